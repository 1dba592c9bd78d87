
set_option maxHeartbeats 4000000 in
set_option maxRecDepth 100000 in
theorem x_X0_followPlan (l : Launch) (G : GG) (x : Nat) (xa ta a b ga ua la lb lc : Nat → Nat) (tg gg : Nat → Option Nat) (xf tf f qf gf uf lf mf nf : Nat → Int32) (tr r q gr ur lr mr nr : Nat → Nat → Int32) (rw : Nat) (cl : Nat) (hrw : rw ≤ 12) (hcl : cl ≤ 12) (h0 : (f 0) = nI rw) (h1 : (f 1) = nI cl) (hRB : RB adjR (q 0)) : WrI l yX0_followPlan cX0_followPlan 8 (some .int) ({ frames := 5, cells := 0, slots := 0, locals := 134 }) G (xM G x xa ta a b ga ua la lb lc tg gg xf tf f qf gf uf lf mf nf tr r q gr ur lr mr nr) [.ref (ga 9), .ref (ta 0), .ref (a 15)] (fun qz w => ∃ (n_f_4 : Int32) (n_gf_7 : Int32) (n_gf_8 : Int32) (n_gr_0 : Nat → Int32) (n_q_0 : Nat → Int32) (n_q_1 : Nat → Int32) (n_q_2 : Nat → Int32) (n_qf_3 : Int32) (n_r_6 : Nat → Int32) (n_r_7 : Nat → Int32) (n_r_8 : Nat → Int32) (n_r_9 : Nat → Int32) (n_r_10 : Nat → Int32) (n_r_11 : Nat → Int32) (n_r_12 : Nat → Int32) (n_r_13 : Nat → Int32) (n_r_14 : Nat → Int32) (n_tr_7 : Nat → Int32), w = xM G x xa ta a b ga ua la lb lc tg gg xf tf (upd f 4 n_f_4) (upd qf 3 n_qf_3) (upd (upd gf 7 n_gf_7) 8 n_gf_8) uf lf mf nf (up2 tr 7 n_tr_7) (up2 (up2 (up2 (up2 (up2 (up2 (up2 (up2 (up2 r 6 n_r_6) 7 n_r_7) 8 n_r_8) 9 n_r_9) 10 n_r_10) 11 n_r_11) 12 n_r_12) 13 n_r_13) 14 n_r_14) (up2 (up2 (up2 q 0 n_q_0) 1 n_q_1) 2 n_q_2) (up2 gr 0 n_gr_0) ur lr mr nr ∧ (RB adjR n_q_0) ∧ (hb1 (tr 7) n_tr_7)) := by
  refine wr_entryI (by decide +kernel) (Nat.le_of_ble_eq_true rfl) ?_
  intro p e s m below meth c A C0 hP hK hD hA ls hl
  have hS : va_S A s.heap s.heap [] := va_S.rf
  obtain ⟨hx, hb, hml, hown, hts, hr, hlocks, hin⟩ := C0
  have hown : s.vm.findClass RX0 = some m.cls := hown
  have hDD : ∀ xf' tf' f' qf' gf' uf' lf' mf' nf' tr' r' q' gr' ur' lr' mr' nr', va_D A (xM G x xa ta a b ga ua la lb lc tg gg xf' tf' f' qf' gf' uf' lf' mf' nf' tr' r' q' gr' ur' lr' mr' nr') := fun xf' tf' f' qf' gf' uf' lf' mf' nf' tr' r' q' gr' ur' lr' mr' nr' => D_same hD rfl
  have hl : lv_has ls 8 [(0, .ref (ga 9)), (1, .ref (ta 0)), (2, .ref (a 15))] := hl
  refine lv_aload_n hx hb dX0_followPlan_0 rfl (lv_at hl 0 rfl) ?_
  refine lawV (rest := []) (q0 := 0) ⟨hx, hb, hml, hown, hts⟩ (c_X0_forgetPlan l G ga gf gr) mi_yX0_forgetPlan mv_yX0_forgetPlan ml_X0_41 ⟨rfl, rfl, Nat.le_of_ble_eq_true rfl, Nat.le_of_ble_eq_true rfl⟩ hK hP (hDD _ _ _ _ _ _ _ _ _ _ _ _ _ _ _ _ _) (pl_perm (xBlk G x xa ta a b ga ua la lb lc tg gg xf tf f qf gf uf lf mf nf tr r q gr ur lr mr nr) (sel := [4]) (oth := [0, 1, 2, 3, 5, 6, 7, 8, 9]) (by decide)) rfl rfl rfl hl.1 rfl (Nat.le_of_ble_eq_true rfl) dX0_followPlan_1 ⟨Nat.zero_le _, Nat.zero_le _⟩ hS hA (fun w3 H locs hw3 hP hS => ?_)
  obtain ⟨x1, rfl⟩ := hw3
  have hP : PP G (xM G x xa ta a b ga ua la lb lc tg gg xf tf f qf gf uf lf mf nf tr r q (up2 gr 0 x1) ur lr mr nr) H := (hP rfl (xM G x xa ta a b ga ua la lb lc tg gg xf tf f qf gf uf lf mf nf tr r q (up2 gr 0 x1) ur lr mr nr) (pl_perm (xBlk G x xa ta a b ga ua la lb lc tg gg xf tf f qf gf uf lf mf nf tr r q (up2 gr 0 x1) ur lr mr nr) (sel := [4]) (oth := [0, 1, 2, 3, 5, 6, 7, 8, 9]) (by decide))).1
  refine lv_iconst (v := 0) hx hb dX0_followPlan_4 (by decide) ?_
  refine lv_istore_n (lv' := [(3, .int 0), (0, .ref (ga 9)), (1, .ref (ta 0)), (2, .ref (a 15))]) hx hb dX0_followPlan_5 rfl hl (by decide) rfl (fun ls hl => ?_)
  refine lv_iconst (v := 0) hx hb dX0_followPlan_6 (by decide) ?_
  refine lv_istore (lv' := [(4, .int 0), (3, .int 0), (0, .ref (ga 9)), (1, .ref (ta 0)), (2, .ref (a 15))]) hx hb dX0_followPlan_7 hl (by decide) rfl (fun ls hl => ?_)
  have loop9 : ∀ (k4 i : Nat) (z5 : Int32) (x6 : Int32) (x7 : Int32) (x8 : Int32) (x9 : Nat → Int32) (x10 : Nat → Int32) (x11 : Nat → Int32) (x12 : Nat → Int32) (x13 : Int32) (x14 : Nat → Int32) (x15 : Nat → Int32) (x16 : Nat → Int32) (x17 : Nat → Int32) (x18 : Nat → Int32) (x19 : Nat → Int32) (x20 : Nat → Int32) (x21 : Nat → Int32) (x22 : Nat → Int32), i ≤ rw → rw < i + k4 → (RB adjR x10) → ∀ (H : Heap) (locs : List Loc) (ls : Array Slot), PP G (xM G x xa ta a b ga ua la lb lc tg gg xf tf (upd f 4 x6) (upd qf 3 x13) (upd (upd gf 7 x7) 8 x8) uf lf mf nf tr (up2 (up2 (up2 (up2 (up2 (up2 (up2 (up2 (up2 r 6 x14) 7 x15) 8 x16) 9 x17) 10 x18) 11 x19) 12 x20) 13 x21) 14 x22) (up2 (up2 (up2 q 0 x10) 1 x11) 2 x12) (up2 gr 0 x9) ur lr mr nr) H → va_S A s.heap H locs → lv_has ls 8 [(4, .int (nI i)), (3, .int z5), (0, .ref (ga 9)), (1, .ref (ta 0)), (2, .ref (a 15))] → W p l e ({ frames := 5, cells := 0, slots := 0, locals := 134 }) s m ([.ref (ga 9), .ref (ta 0), .ref (a 15)] : List Value).toArray below meth c H locs 0 0 (MQ below (QwI G (fun qz w => ∃ (n_f_4 : Int32) (n_gf_7 : Int32) (n_gf_8 : Int32) (n_gr_0 : Nat → Int32) (n_q_0 : Nat → Int32) (n_q_1 : Nat → Int32) (n_q_2 : Nat → Int32) (n_qf_3 : Int32) (n_r_6 : Nat → Int32) (n_r_7 : Nat → Int32) (n_r_8 : Nat → Int32) (n_r_9 : Nat → Int32) (n_r_10 : Nat → Int32) (n_r_11 : Nat → Int32) (n_r_12 : Nat → Int32) (n_r_13 : Nat → Int32) (n_r_14 : Nat → Int32) (n_tr_7 : Nat → Int32), w = xM G x xa ta a b ga ua la lb lc tg gg xf tf (upd f 4 n_f_4) (upd qf 3 n_qf_3) (upd (upd gf 7 n_gf_7) 8 n_gf_8) uf lf mf nf (up2 tr 7 n_tr_7) (up2 (up2 (up2 (up2 (up2 (up2 (up2 (up2 (up2 r 6 n_r_6) 7 n_r_7) 8 n_r_8) 9 n_r_9) 10 n_r_10) 11 n_r_11) 12 n_r_12) 13 n_r_13) 14 n_r_14) (up2 (up2 (up2 q 0 n_q_0) 1 n_q_1) 2 n_q_2) (up2 gr 0 n_gr_0) ur lr mr nr ∧ (RB adjR n_q_0) ∧ (hb1 (tr 7) n_tr_7)) A) ([.ref (ga 9), .ref (ta 0), .ref (a 15)] : List Value).toArray s 0 0 A) (F0 m 9 ls []) := by
    intro k4
    induction k4 with
    | zero => intro i z5 x6 x7 x8 x9 x10 x11 x12 x13 x14 x15 x16 x17 x18 x19 x20 x21 x22 h1 h2; exact absurd h1 (by omega)
    | succ k4 ih9k4 =>
      intro i z5 x6 x7 x8 x9 x10 x11 x12 x13 x14 x15 x16 x17 x18 x19 x20 x21 x22 hi_i hk_i hRB H locs ls hP hS hl
      refine lv_iload hx hb dX0_followPlan_9 (lv_at hl 0 rfl) ?_
      refine lv_aload_n hx hb dX0_followPlan_11 rfl (lv_at hl 4 rfl) ?_
      refine va_get (D := G.1) (ci := 2) (v := .int (f 0)) (C := RX2) (T := TX2) (N := 15) hx hb hts inX2 hown hK.1 hP 11 rfl rfl 0 (by decide) (hts _ mf_X0_44) (fun _ h9 => h9) rfl dX0_followPlan_12 ?_
      rw [show (f 0) = nI (rw) from h0]
      refine lv_icmp_ge (tgt := 139) hx hb dX0_followPlan_15 (by decide) (fun c23 => ?_) (fun c23 => ?_)
      · have b15 := qge_t (a := i) (b := (rw)) (by omega) (by omega) c23
        refine lv_aload_n hx hb dX0_followPlan_139 rfl (lv_at hl 2 rfl) ?_
        refine lv_aload_n hx hb dX0_followPlan_140 rfl (lv_at hl 3 rfl) ?_
        refine lawV (rest := []) (q0 := 0) ⟨hx, hb, hml, hown, hts⟩ (c_X0_tellPlanned l G ga (upd (upd gf 7 x7) 8 x8) (up2 gr 0 x9) ta tf tr) mi_yX0_tellPlanned mv_yX0_tellPlanned ml_X0_71 ⟨rfl, rfl, Nat.le_of_ble_eq_true rfl, Nat.le_of_ble_eq_true rfl⟩ hK hP (hDD _ _ _ _ _ _ _ _ _ _ _ _ _ _ _ _ _) (pl_perm (xBlk G x xa ta a b ga ua la lb lc tg gg xf tf (upd f 4 x6) (upd qf 3 x13) (upd (upd gf 7 x7) 8 x8) uf lf mf nf tr (up2 (up2 (up2 (up2 (up2 (up2 (up2 (up2 (up2 r 6 x14) 7 x15) 8 x16) 9 x17) 10 x18) 11 x19) 12 x20) 13 x21) 14 x22) (up2 (up2 (up2 q 0 x10) 1 x11) 2 x12) (up2 gr 0 x9) ur lr mr nr) (sel := [4, 1]) (oth := [0, 2, 3, 5, 6, 7, 8, 9]) (by decide)) rfl rfl rfl hl.1 rfl (Nat.le_of_ble_eq_true rfl) dX0_followPlan_141 ⟨Nat.zero_le _, Nat.zero_le _⟩ hS hA (fun w26 H locs hw26 hP hS => ?_)
        obtain ⟨x24, hb1_, rfl⟩ := hw26
        have hP : PP G (xM G x xa ta a b ga ua la lb lc tg gg xf tf (upd f 4 x6) (upd qf 3 x13) (upd (upd gf 7 x7) 8 x8) uf lf mf nf (up2 tr 7 x24) (up2 (up2 (up2 (up2 (up2 (up2 (up2 (up2 (up2 r 6 x14) 7 x15) 8 x16) 9 x17) 10 x18) 11 x19) 12 x20) 13 x21) 14 x22) (up2 (up2 (up2 q 0 x10) 1 x11) 2 x12) (up2 gr 0 x9) ur lr mr nr) H := (hP rfl (xM G x xa ta a b ga ua la lb lc tg gg xf tf (upd f 4 x6) (upd qf 3 x13) (upd (upd gf 7 x7) 8 x8) uf lf mf nf (up2 tr 7 x24) (up2 (up2 (up2 (up2 (up2 (up2 (up2 (up2 (up2 r 6 x14) 7 x15) 8 x16) 9 x17) 10 x18) 11 x19) 12 x20) 13 x21) 14 x22) (up2 (up2 (up2 q 0 x10) 1 x11) 2 x12) (up2 gr 0 x9) ur lr mr nr) (pl_perm (xBlk G x xa ta a b ga ua la lb lc tg gg xf tf (upd f 4 x6) (upd qf 3 x13) (upd (upd gf 7 x7) 8 x8) uf lf mf nf (up2 tr 7 x24) (up2 (up2 (up2 (up2 (up2 (up2 (up2 (up2 (up2 r 6 x14) 7 x15) 8 x16) 9 x17) 10 x18) 11 x19) 12 x20) 13 x21) 14 x22) (up2 (up2 (up2 q 0 x10) 1 x11) 2 x12) (up2 gr 0 x9) ur lr mr nr) (sel := [4, 1]) (oth := [0, 2, 3, 5, 6, 7, 8, 9]) (by decide))).1
        refine lv_iload_n hx hb dX0_followPlan_144 rfl (lv_at hl 1 rfl) ?_
        exact wr_iret hx hb hr hlocks hS hP ⟨x6, x7, x8, x9, x10, x11, x12, x13, x14, x15, x16, x17, x18, x19, x20, x21, x22, x24, rfl, hRB, hb1_⟩ dX0_followPlan_145
      · have b15 := qge_f (a := i) (b := (rw)) (by omega) (by omega) c23
        refine lv_iconst (v := 0) hx hb dX0_followPlan_18 (by decide) ?_
        refine lv_istore (lv' := [(5, .int 0), (4, .int (nI i)), (3, .int z5), (0, .ref (ga 9)), (1, .ref (ta 0)), (2, .ref (a 15))]) hx hb dX0_followPlan_19 hl (by decide) rfl (fun ls hl => ?_)
        have loop21 : ∀ (k27 k : Nat) (z28 : Int32) (x29 : Int32) (x30 : Int32) (x31 : Int32) (x32 : Nat → Int32) (x33 : Nat → Int32) (x34 : Nat → Int32) (x35 : Nat → Int32) (x36 : Int32) (x37 : Nat → Int32) (x38 : Nat → Int32) (x39 : Nat → Int32) (x40 : Nat → Int32) (x41 : Nat → Int32) (x42 : Nat → Int32) (x43 : Nat → Int32) (x44 : Nat → Int32) (x45 : Nat → Int32), k ≤ cl → cl < k + k27 → (RB adjR x33) → ∀ (H : Heap) (locs : List Loc) (ls : Array Slot), PP G (xM G x xa ta a b ga ua la lb lc tg gg xf tf (upd f 4 x29) (upd qf 3 x36) (upd (upd gf 7 x30) 8 x31) uf lf mf nf tr (up2 (up2 (up2 (up2 (up2 (up2 (up2 (up2 (up2 r 6 x37) 7 x38) 8 x39) 9 x40) 10 x41) 11 x42) 12 x43) 13 x44) 14 x45) (up2 (up2 (up2 q 0 x33) 1 x34) 2 x35) (up2 gr 0 x32) ur lr mr nr) H → va_S A s.heap H locs → lv_has ls 8 [(5, .int (nI k)), (4, .int (nI i)), (3, .int z28), (0, .ref (ga 9)), (1, .ref (ta 0)), (2, .ref (a 15))] → W p l e ({ frames := 5, cells := 0, slots := 0, locals := 134 }) s m ([.ref (ga 9), .ref (ta 0), .ref (a 15)] : List Value).toArray below meth c H locs 0 0 (MQ below (QwI G (fun qz w => ∃ (n_f_4 : Int32) (n_gf_7 : Int32) (n_gf_8 : Int32) (n_gr_0 : Nat → Int32) (n_q_0 : Nat → Int32) (n_q_1 : Nat → Int32) (n_q_2 : Nat → Int32) (n_qf_3 : Int32) (n_r_6 : Nat → Int32) (n_r_7 : Nat → Int32) (n_r_8 : Nat → Int32) (n_r_9 : Nat → Int32) (n_r_10 : Nat → Int32) (n_r_11 : Nat → Int32) (n_r_12 : Nat → Int32) (n_r_13 : Nat → Int32) (n_r_14 : Nat → Int32) (n_tr_7 : Nat → Int32), w = xM G x xa ta a b ga ua la lb lc tg gg xf tf (upd f 4 n_f_4) (upd qf 3 n_qf_3) (upd (upd gf 7 n_gf_7) 8 n_gf_8) uf lf mf nf (up2 tr 7 n_tr_7) (up2 (up2 (up2 (up2 (up2 (up2 (up2 (up2 (up2 r 6 n_r_6) 7 n_r_7) 8 n_r_8) 9 n_r_9) 10 n_r_10) 11 n_r_11) 12 n_r_12) 13 n_r_13) 14 n_r_14) (up2 (up2 (up2 q 0 n_q_0) 1 n_q_1) 2 n_q_2) (up2 gr 0 n_gr_0) ur lr mr nr ∧ (RB adjR n_q_0) ∧ (hb1 (tr 7) n_tr_7)) A) ([.ref (ga 9), .ref (ta 0), .ref (a 15)] : List Value).toArray s 0 0 A) (F0 m 21 ls []) := by
          intro k27
          induction k27 with
          | zero => intro k z28 x29 x30 x31 x32 x33 x34 x35 x36 x37 x38 x39 x40 x41 x42 x43 x44 x45 h1 h2; exact absurd h1 (by omega)
          | succ k27 ih21k27 =>
            intro k z28 x29 x30 x31 x32 x33 x34 x35 x36 x37 x38 x39 x40 x41 x42 x43 x44 x45 hi_k hk_k hRB H locs ls hP hS hl
            refine lv_iload hx hb dX0_followPlan_21 (lv_at hl 0 rfl) ?_
            refine lv_aload_n hx hb dX0_followPlan_23 rfl (lv_at hl 5 rfl) ?_
            refine va_get (D := G.1) (ci := 2) (v := .int (f 1)) (C := RX2) (T := TX2) (N := 15) hx hb hts inX2 hown hK.1 hP 11 rfl rfl 1 (by decide) (hts _ mf_X0_49) (fun _ h9 => h9) rfl dX0_followPlan_24 ?_
            rw [show (f 1) = nI (cl) from h1]
            refine lv_icmp_ge (tgt := 133) hx hb dX0_followPlan_27 (by decide) (fun c46 => ?_) (fun c46 => ?_)
            · have b27 := qge_t (a := k) (b := (cl)) (by omega) (by omega) c46
              obtain ⟨v47, ev47⟩ : ∃ y9 : Int32, y9 = (nI i) + Int32.ofInt (1) := ⟨_, rfl⟩
              refine lv_iinc (v := v47) (lv' := [(4, .int v47), (5, .int (nI k)), (3, .int z28), (0, .ref (ga 9)), (1, .ref (ta 0)), (2, .ref (a 15))]) hx hb dX0_followPlan_133 hl (k := 1) rfl ev47.symm (by decide) rfl (fun ls hl => ?_)
              obtain rfl : v47 = nI (i + 1) := nI_plus (i := i) (j := 1) ev47 rfl (by decide)
              refine lv_goto (tgt := 9) hx hb dX0_followPlan_136 (by decide) ?_
              exact ih9k4 (i + 1) z28 x29 x30 x31 x32 x33 x34 x35 x36 x37 x38 x39 x40 x41 x42 x43 x44 x45 (by omega) (by omega) hRB _ _ _ hP hS (lv_sub hl [0, 2, 3, 4, 5] rfl)
            · have b27 := qge_f (a := k) (b := (cl)) (by omega) (by omega) c46
              refine lv_aload_n hx hb dX0_followPlan_30 rfl (lv_at hl 5 rfl) ?_
              refine va_get (D := G.1) (ci := 2) (v := .ref (a 10)) (C := RX2) (T := TX2) (N := 15) hx hb hts inX2 hown hK.1 hP 11 rfl rfl 10 (by decide) (hts _ mf_X0_52) (fun _ h9 => h9) rfl dX0_followPlan_31 ?_
              refine lv_iload hx hb dX0_followPlan_34 (lv_at hl 1 rfl) ?_
              refine lv_iload hx hb dX0_followPlan_36 (lv_at hl 0 rfl) ?_
              refine rdSN (rest := [.ref (a 10)]) ⟨hx, hb, hml, hown, hts⟩ (c_X6_spotOf l G ((nI i)) ((nI k))) mi_yX6_spotOf mst_yX6_spotOf (by decide +kernel) ⟨rfl, rfl, Nat.le_of_ble_eq_true rfl, Nat.le_of_ble_eq_true rfl⟩ hK (fun k q h => by simp at h) rfl hl.1 rfl (Nat.le_of_ble_eq_true rfl) dX0_followPlan_38 ⟨Nat.zero_le _, Nat.zero_le _⟩ hS hA hP (fun r48 H locs hr48 hP hS => ?_)
              obtain rfl : r48 = nI (i * 12 + k) := spot_eq hr48
              refine xiald (f := x41) hx hb hK hP 16 ((i * 12 + k)) (rfl) (by omega) (by decide) rfl dX0_followPlan_41 ?_
              refine lv_topi (fun v49 ev49 => ?_)
              have j61_64 : ∀ (z50 : Int32) (x51 : Int32) (x52 : Int32) (x53 : Nat → Int32) (x54 : Nat → Int32) (x55 : Nat → Int32) (x56 : Nat → Int32) (x57 : Nat → Int32) (x58 : Nat → Int32) (x59 : Nat → Int32) (x60 : Nat → Int32) (x61 : Nat → Int32) (x62 : Nat → Int32) (x63 : Nat → Int32) (x64 : Nat → Int32) (gz50 : z50 = 0 ∨ z50 = 1) (hRB : RB adjR x62) (H : Heap) (locs : List Loc) (ls : Array Slot), PP G (xM G x xa ta a b ga ua la lb lc tg gg xf tf (upd f 4 x51) (upd qf 3 x52) (upd (upd gf 7 x30) 8 x31) uf lf mf nf tr (up2 (up2 (up2 (up2 (up2 (up2 (up2 (up2 (up2 r 6 x53) 7 x54) 8 x55) 9 x56) 10 x57) 11 x58) 12 x59) 13 x60) 14 x61) (up2 (up2 (up2 q 0 x62) 1 x63) 2 x64) (up2 gr 0 x32) ur lr mr nr) H → va_S A s.heap H locs → lv_has ls 8 [(5, .int (nI k)), (4, .int (nI i)), (3, .int z28), (0, .ref (ga 9)), (1, .ref (ta 0)), (2, .ref (a 15))] → W p l e ({ frames := 5, cells := 0, slots := 0, locals := 134 }) s m ([.ref (ga 9), .ref (ta 0), .ref (a 15)] : List Value).toArray below meth c H locs 0 0 (MQ below (QwI G (fun qz w => ∃ (n_f_4 : Int32) (n_gf_7 : Int32) (n_gf_8 : Int32) (n_gr_0 : Nat → Int32) (n_q_0 : Nat → Int32) (n_q_1 : Nat → Int32) (n_q_2 : Nat → Int32) (n_qf_3 : Int32) (n_r_6 : Nat → Int32) (n_r_7 : Nat → Int32) (n_r_8 : Nat → Int32) (n_r_9 : Nat → Int32) (n_r_10 : Nat → Int32) (n_r_11 : Nat → Int32) (n_r_12 : Nat → Int32) (n_r_13 : Nat → Int32) (n_r_14 : Nat → Int32) (n_tr_7 : Nat → Int32), w = xM G x xa ta a b ga ua la lb lc tg gg xf tf (upd f 4 n_f_4) (upd qf 3 n_qf_3) (upd (upd gf 7 n_gf_7) 8 n_gf_8) uf lf mf nf (up2 tr 7 n_tr_7) (up2 (up2 (up2 (up2 (up2 (up2 (up2 (up2 (up2 r 6 n_r_6) 7 n_r_7) 8 n_r_8) 9 n_r_9) 10 n_r_10) 11 n_r_11) 12 n_r_12) 13 n_r_13) 14 n_r_14) (up2 (up2 (up2 q 0 n_q_0) 1 n_q_1) 2 n_q_2) (up2 gr 0 n_gr_0) ur lr mr nr ∧ (RB adjR n_q_0) ∧ (hb1 (tr 7) n_tr_7)) A) ([.ref (ga 9), .ref (ta 0), .ref (a 15)] : List Value).toArray s 0 0 A) (F0 m 61 ls [.int z50]) := by
                intro z50 x51 x52 x53 x54 x55 x56 x57 x58 x59 x60 x61 x62 x63 x64 gz50 hRB H locs ls hP hS hl
                refine lv_istore (lv' := [(6, .int z50), (5, .int (nI k)), (4, .int (nI i)), (3, .int z28), (0, .ref (ga 9)), (1, .ref (ta 0)), (2, .ref (a 15))]) hx hb dX0_followPlan_61 hl (by decide) rfl (fun ls hl => ?_)
                refine lv_iconst (v := 0) hx hb dX0_followPlan_63 (by decide) ?_
                refine lv_istore (lv' := [(7, .int 0), (6, .int z50), (5, .int (nI k)), (4, .int (nI i)), (3, .int z28), (0, .ref (ga 9)), (1, .ref (ta 0)), (2, .ref (a 15))]) hx hb dX0_followPlan_64 hl (by decide) rfl (fun ls hl => ?_)
                have loop66 : ∀ (k65 tn : Nat) (z66 : Int32) (z67 : Int32) (x68 : Int32) (x69 : Int32) (x70 : Int32) (x71 : Nat → Int32) (x72 : Nat → Int32) (x73 : Nat → Int32) (x74 : Nat → Int32) (x75 : Int32) (x76 : Nat → Int32) (x77 : Nat → Int32) (x78 : Nat → Int32) (x79 : Nat → Int32) (x80 : Nat → Int32) (x81 : Nat → Int32) (x82 : Nat → Int32) (x83 : Nat → Int32) (x84 : Nat → Int32), tn ≤ 144 → 144 < tn + k65 → (RB adjR x72) → ∀ (H : Heap) (locs : List Loc) (ls : Array Slot), PP G (xM G x xa ta a b ga ua la lb lc tg gg xf tf (upd f 4 x68) (upd qf 3 x75) (upd (upd gf 7 x69) 8 x70) uf lf mf nf tr (up2 (up2 (up2 (up2 (up2 (up2 (up2 (up2 (up2 r 6 x76) 7 x77) 8 x78) 9 x79) 10 x80) 11 x81) 12 x82) 13 x83) 14 x84) (up2 (up2 (up2 q 0 x72) 1 x73) 2 x74) (up2 gr 0 x71) ur lr mr nr) H → va_S A s.heap H locs → lv_has ls 8 [(7, .int (nI tn)), (6, .int z66), (5, .int (nI k)), (4, .int (nI i)), (3, .int z67), (0, .ref (ga 9)), (1, .ref (ta 0)), (2, .ref (a 15))] → W p l e ({ frames := 5, cells := 0, slots := 0, locals := 134 }) s m ([.ref (ga 9), .ref (ta 0), .ref (a 15)] : List Value).toArray below meth c H locs 0 0 (MQ below (QwI G (fun qz w => ∃ (n_f_4 : Int32) (n_gf_7 : Int32) (n_gf_8 : Int32) (n_gr_0 : Nat → Int32) (n_q_0 : Nat → Int32) (n_q_1 : Nat → Int32) (n_q_2 : Nat → Int32) (n_qf_3 : Int32) (n_r_6 : Nat → Int32) (n_r_7 : Nat → Int32) (n_r_8 : Nat → Int32) (n_r_9 : Nat → Int32) (n_r_10 : Nat → Int32) (n_r_11 : Nat → Int32) (n_r_12 : Nat → Int32) (n_r_13 : Nat → Int32) (n_r_14 : Nat → Int32) (n_tr_7 : Nat → Int32), w = xM G x xa ta a b ga ua la lb lc tg gg xf tf (upd f 4 n_f_4) (upd qf 3 n_qf_3) (upd (upd gf 7 n_gf_7) 8 n_gf_8) uf lf mf nf (up2 tr 7 n_tr_7) (up2 (up2 (up2 (up2 (up2 (up2 (up2 (up2 (up2 r 6 n_r_6) 7 n_r_7) 8 n_r_8) 9 n_r_9) 10 n_r_10) 11 n_r_11) 12 n_r_12) 13 n_r_13) 14 n_r_14) (up2 (up2 (up2 q 0 n_q_0) 1 n_q_1) 2 n_q_2) (up2 gr 0 n_gr_0) ur lr mr nr ∧ (RB adjR n_q_0) ∧ (hb1 (tr 7) n_tr_7)) A) ([.ref (ga 9), .ref (ta 0), .ref (a 15)] : List Value).toArray s 0 0 A) (F0 m 66 ls []) := by
                  intro k65
                  induction k65 with
                  | zero => intro tn z66 z67 x68 x69 x70 x71 x72 x73 x74 x75 x76 x77 x78 x79 x80 x81 x82 x83 x84 h1 h2; exact absurd h1 (by omega)
                  | succ k65 ih66k65 =>
                    intro tn z66 z67 x68 x69 x70 x71 x72 x73 x74 x75 x76 x77 x78 x79 x80 x81 x82 x83 x84 hi_tn hk_tn hRB H locs ls hP hS hl
                    refine lv_iload hx hb dX0_followPlan_66 (lv_at hl 0 rfl) ?_
                    refine lv_sipush (v := 144) hx hb dX0_followPlan_68 (by decide) ?_
                    refine lv_icmp_ge (tgt := 127) hx hb dX0_followPlan_71 (by decide) (fun c85 => ?_) (fun c85 => ?_)
                    · have b71 := qge_t (a := tn) (b := 144) (by omega) (by omega) c85
                      obtain ⟨v86, ev86⟩ : ∃ y9 : Int32, y9 = (nI k) + Int32.ofInt (1) := ⟨_, rfl⟩
                      refine lv_iinc (v := v86) (lv' := [(5, .int v86), (7, .int (nI tn)), (6, .int z66), (4, .int (nI i)), (3, .int z67), (0, .ref (ga 9)), (1, .ref (ta 0)), (2, .ref (a 15))]) hx hb dX0_followPlan_127 hl (k := 2) rfl ev86.symm (by decide) rfl (fun ls hl => ?_)
                      obtain rfl : v86 = nI (k + 1) := nI_plus (i := k) (j := 1) ev86 rfl (by decide)
                      refine lv_goto (tgt := 21) hx hb dX0_followPlan_130 (by decide) ?_
                      exact ih21k27 (k + 1) z67 x68 x69 x70 x71 x72 x73 x74 x75 x76 x77 x78 x79 x80 x81 x82 x83 x84 (by omega) (by omega) hRB _ _ _ hP hS (lv_sub hl [0, 3, 4, 5, 6, 7] rfl)
                    · have b71 := qge_f (a := tn) (b := 144) (by omega) (by omega) c85
                      refine lv_iload hx hb dX0_followPlan_74 (lv_at hl 1 rfl) ?_
                      refine lv_if_ne (tgt := 127) hx hb dX0_followPlan_76 (by decide) (fun c87 => ?_) (fun c87 => ?_)
                      · obtain ⟨v88, ev88⟩ : ∃ y9 : Int32, y9 = (nI k) + Int32.ofInt (1) := ⟨_, rfl⟩
                        refine lv_iinc (v := v88) (lv' := [(5, .int v88), (7, .int (nI tn)), (6, .int z66), (4, .int (nI i)), (3, .int z67), (0, .ref (ga 9)), (1, .ref (ta 0)), (2, .ref (a 15))]) hx hb dX0_followPlan_127 hl (k := 2) rfl ev88.symm (by decide) rfl (fun ls hl => ?_)
                        obtain rfl : v88 = nI (k + 1) := nI_plus (i := k) (j := 1) ev88 rfl (by decide)
                        refine lv_goto (tgt := 21) hx hb dX0_followPlan_130 (by decide) ?_
                        exact ih21k27 (k + 1) z67 x68 x69 x70 x71 x72 x73 x74 x75 x76 x77 x78 x79 x80 x81 x82 x83 x84 (by omega) (by omega) hRB _ _ _ hP hS (lv_sub hl [0, 3, 4, 5, 6, 7] rfl)
                      · refine lv_aload_n hx hb dX0_followPlan_79 rfl (lv_at hl 5 rfl) ?_
                        refine lv_aload_n hx hb dX0_followPlan_80 rfl (lv_at hl 6 rfl) ?_
                        refine lv_aload_n hx hb dX0_followPlan_81 rfl (lv_at hl 7 rfl) ?_
                        refine lv_iload hx hb dX0_followPlan_82 (lv_at hl 3 rfl) ?_
                        refine lv_iload hx hb dX0_followPlan_84 (lv_at hl 2 rfl) ?_
                        refine lawV (rest := []) (q0 := 0) ⟨hx, hb, hml, hown, hts⟩ (c_X0_findThree l G ga (upd (upd gf 7 x69) 8 x70) (up2 gr 0 x71) a b (upd f 4 x68) (up2 (up2 (up2 (up2 (up2 (up2 (up2 (up2 (up2 r 6 x76) 7 x77) 8 x78) 9 x79) 10 x80) 11 x81) 12 x82) 13 x83) 14 x84) ta tf tr rw cl hrw hcl h0 h1 i k (by omega) (by omega)) mi_yX0_findThree mv_yX0_findThree ml_X0_63 ⟨rfl, rfl, Nat.le_of_ble_eq_true rfl, Nat.le_of_ble_eq_true rfl⟩ hK hP (hDD _ _ _ _ _ _ _ _ _ _ _ _ _ _ _ _ _) (pl_perm (xBlk G x xa ta a b ga ua la lb lc tg gg xf tf (upd f 4 x68) (upd qf 3 x75) (upd (upd gf 7 x69) 8 x70) uf lf mf nf tr (up2 (up2 (up2 (up2 (up2 (up2 (up2 (up2 (up2 r 6 x76) 7 x77) 8 x78) 9 x79) 10 x80) 11 x81) 12 x82) 13 x83) 14 x84) (up2 (up2 (up2 q 0 x72) 1 x73) 2 x74) (up2 gr 0 x71) ur lr mr nr) (sel := [4, 2, 1]) (oth := [0, 3, 5, 6, 7, 8, 9]) (by decide)) rfl rfl rfl hl.1 rfl (Nat.le_of_ble_eq_true rfl) dX0_followPlan_86 ⟨Nat.zero_le _, Nat.zero_le _⟩ hS hA (fun w92 H locs hw92 hP hS => ?_)
                        obtain ⟨x89, x90, hbq, rfl⟩ := hw92
                        have hP : PP G (xM G x xa ta a b ga ua la lb lc tg gg xf tf (upd f 4 x68) (upd qf 3 x75) (upd (upd gf 7 x89) 8 x90) uf lf mf nf tr (up2 (up2 (up2 (up2 (up2 (up2 (up2 (up2 (up2 r 6 x76) 7 x77) 8 x78) 9 x79) 10 x80) 11 x81) 12 x82) 13 x83) 14 x84) (up2 (up2 (up2 q 0 x72) 1 x73) 2 x74) (up2 gr 0 x71) ur lr mr nr) H := (hP rfl (xM G x xa ta a b ga ua la lb lc tg gg xf tf (upd f 4 x68) (upd qf 3 x75) (upd (upd gf 7 x89) 8 x90) uf lf mf nf tr (up2 (up2 (up2 (up2 (up2 (up2 (up2 (up2 (up2 r 6 x76) 7 x77) 8 x78) 9 x79) 10 x80) 11 x81) 12 x82) 13 x83) 14 x84) (up2 (up2 (up2 q 0 x72) 1 x73) 2 x74) (up2 gr 0 x71) ur lr mr nr) (pl_perm (xBlk G x xa ta a b ga ua la lb lc tg gg xf tf (upd f 4 x68) (upd qf 3 x75) (upd (upd gf 7 x89) 8 x90) uf lf mf nf tr (up2 (up2 (up2 (up2 (up2 (up2 (up2 (up2 (up2 r 6 x76) 7 x77) 8 x78) 9 x79) 10 x80) 11 x81) 12 x82) 13 x83) 14 x84) (up2 (up2 (up2 q 0 x72) 1 x73) 2 x74) (up2 gr 0 x71) ur lr mr nr) (sel := [4, 2, 1]) (oth := [0, 3, 5, 6, 7, 8, 9]) (by decide))).1
                        refine lv_aload_n hx hb dX0_followPlan_89 rfl (lv_at hl 5 rfl) ?_
                        refine va_get (D := G.1) (ci := 0) (v := .int x89) (C := RX0) (T := TX0) (N := 9) hx hb hts inX0 hown hK.1 hP 25 rfl rfl 7 (by decide) (hts _ mf_X0_35) (fun _ h9 => h9) rfl dX0_followPlan_90 ?_
                        refine lv_iconst (v := -1) hx hb dX0_followPlan_93 (by decide) ?_
                        refine lv_icmp_ne (tgt := 99) hx hb dX0_followPlan_94 (by decide) (fun c93 => ?_) (fun c93 => ?_)
                        · refine lv_iload_n hx hb dX0_followPlan_99 rfl (lv_at hl 4 rfl) ?_
                          refine lv_aload_n hx hb dX0_followPlan_100 rfl (lv_at hl 5 rfl) ?_
                          refine lv_aload_n hx hb dX0_followPlan_101 rfl (lv_at hl 7 rfl) ?_
                          refine lv_iload hx hb dX0_followPlan_102 (lv_at hl 3 rfl) ?_
                          refine lv_iload hx hb dX0_followPlan_104 (lv_at hl 2 rfl) ?_
                          obtain ⟨br, bc, hbr, hbc, e7, e8⟩ := hbq.resolve_left c93
                          refine lawI (rest := [.int z67]) (q0 := 0) ⟨hx, hb, hml, hown, hts⟩ (c_X0_keepThree l G ga (upd (upd gf 7 x89) 8 x90) (up2 gr 0 x71) a b (upd f 4 x68) (up2 (up2 (up2 (up2 (up2 (up2 (up2 (up2 (up2 r 6 x76) 7 x77) 8 x78) 9 x79) 10 x80) 11 x81) 12 x82) 13 x83) 14 x84) i k (by omega) (by omega) br bc hbr hbc e7 e8) mi_yX0_keepThree mv_yX0_keepThree ml_X0_67 ⟨rfl, rfl, Nat.le_of_ble_eq_true rfl, Nat.le_of_ble_eq_true rfl⟩ hK hP (hDD _ _ _ _ _ _ _ _ _ _ _ _ _ _ _ _ _) (pl_perm (xBlk G x xa ta a b ga ua la lb lc tg gg xf tf (upd f 4 x68) (upd qf 3 x75) (upd (upd gf 7 x89) 8 x90) uf lf mf nf tr (up2 (up2 (up2 (up2 (up2 (up2 (up2 (up2 (up2 r 6 x76) 7 x77) 8 x78) 9 x79) 10 x80) 11 x81) 12 x82) 13 x83) 14 x84) (up2 (up2 (up2 q 0 x72) 1 x73) 2 x74) (up2 gr 0 x71) ur lr mr nr) (sel := [4, 2]) (oth := [0, 1, 3, 5, 6, 7, 8, 9]) (by decide)) rfl rfl rfl hl.1 rfl (Nat.le_of_ble_eq_true rfl) dX0_followPlan_106 ⟨Nat.zero_le _, Nat.zero_le _⟩ hS hA (fun r97 w98 H locs hw98 hP hS => ?_)
                          obtain ⟨x94, x95, x96, rfl⟩ := hw98
                          have hP : PP G (xM G x xa ta a b ga ua la lb lc tg gg xf tf (upd f 4 x95) (upd qf 3 x75) (upd (upd gf 7 x89) 8 x90) uf lf mf nf tr (up2 (up2 (up2 (up2 (up2 (up2 (up2 (up2 (up2 r 6 x76) 7 x77) 8 x78) 9 x79) 10 x80) 11 x96) 12 x82) 13 x83) 14 x84) (up2 (up2 (up2 q 0 x72) 1 x73) 2 x74) (up2 gr 0 x94) ur lr mr nr) H := (hP rfl (xM G x xa ta a b ga ua la lb lc tg gg xf tf (upd f 4 x95) (upd qf 3 x75) (upd (upd gf 7 x89) 8 x90) uf lf mf nf tr (up2 (up2 (up2 (up2 (up2 (up2 (up2 (up2 (up2 r 6 x76) 7 x77) 8 x78) 9 x79) 10 x80) 11 x96) 12 x82) 13 x83) 14 x84) (up2 (up2 (up2 q 0 x72) 1 x73) 2 x74) (up2 gr 0 x94) ur lr mr nr) (pl_perm (xBlk G x xa ta a b ga ua la lb lc tg gg xf tf (upd f 4 x95) (upd qf 3 x75) (upd (upd gf 7 x89) 8 x90) uf lf mf nf tr (up2 (up2 (up2 (up2 (up2 (up2 (up2 (up2 (up2 r 6 x76) 7 x77) 8 x78) 9 x79) 10 x80) 11 x96) 12 x82) 13 x83) 14 x84) (up2 (up2 (up2 q 0 x72) 1 x73) 2 x74) (up2 gr 0 x94) ur lr mr nr) (sel := [4, 2]) (oth := [0, 1, 3, 5, 6, 7, 8, 9]) (by decide))).1
                          refine lv_iadd hx hb dX0_followPlan_109 ?_
                          refine lv_topi (fun v99 ev99 => ?_)
                          refine lv_istore_n (lv' := [(3, .int v99), (7, .int (nI tn)), (6, .int z66), (5, .int (nI k)), (4, .int (nI i)), (0, .ref (ga 9)), (1, .ref (ta 0)), (2, .ref (a 15))]) hx hb dX0_followPlan_110 rfl hl (by decide) rfl (fun ls hl => ?_)
                          refine lv_aload_n hx hb dX0_followPlan_111 rfl (lv_at hl 7 rfl) ?_
                          refine lv_iload hx hb dX0_followPlan_112 (lv_at hl 4 rfl) ?_
                          refine lv_iload hx hb dX0_followPlan_114 (lv_at hl 3 rfl) ?_
                          refine lawI (rest := []) (q0 := 0) ⟨hx, hb, hml, hown, hts⟩ (c_X2_isSafe l G a b (upd f 4 x95) (up2 (up2 (up2 (up2 (up2 (up2 (up2 (up2 (up2 r 6 x76) 7 x77) 8 x78) 9 x79) 10 x80) 11 x96) 12 x82) 13 x83) 14 x84) (up2 (up2 (up2 q 0 x72) 1 x73) 2 x74) x75 rw cl hrw hcl h0 h1 i k (by omega) (by omega) hRB) mi_yX2_isSafe mv_yX2_isSafe ml_X0_59 ⟨rfl, rfl, Nat.le_of_ble_eq_true rfl, Nat.le_of_ble_eq_true rfl⟩ hK hP (hDD _ _ _ _ _ _ _ _ _ _ _ _ _ _ _ _ _) (pl_perm (xBlk G x xa ta a b ga ua la lb lc tg gg xf tf (upd f 4 x95) (upd qf 3 x75) (upd (upd gf 7 x89) 8 x90) uf lf mf nf tr (up2 (up2 (up2 (up2 (up2 (up2 (up2 (up2 (up2 r 6 x76) 7 x77) 8 x78) 9 x79) 10 x80) 11 x96) 12 x82) 13 x83) 14 x84) (up2 (up2 (up2 q 0 x72) 1 x73) 2 x74) (up2 gr 0 x94) ur lr mr nr) (sel := [2, 3]) (oth := [0, 1, 4, 5, 6, 7, 8, 9]) (by decide)) rfl rfl rfl hl.1 rfl (Nat.le_of_ble_eq_true rfl) dX0_followPlan_116 ⟨Nat.zero_le _, Nat.zero_le _⟩ hS hA (fun r106 w107 H locs hw107 hP hS => ?_)
                          obtain ⟨x100, x101, x102, x103, x104, x105, hRB, rfl⟩ := hw107
                          have hP : PP G (xM G x xa ta a b ga ua la lb lc tg gg xf tf (upd f 4 x100) (upd qf 3 x105) (upd (upd gf 7 x89) 8 x90) uf lf mf nf tr (up2 (up2 (up2 (up2 (up2 (up2 (up2 (up2 (up2 r 6 (x101 6)) 7 (x101 7)) 8 (x101 8)) 9 (x101 9)) 10 (x101 10)) 11 (x101 11)) 12 (x101 12)) 13 (x101 13)) 14 (x101 14)) (up2 (up2 (up2 q 0 x102) 1 x103) 2 x104) (up2 gr 0 x94) ur lr mr nr) H := (hP rfl (xM G x xa ta a b ga ua la lb lc tg gg xf tf (upd f 4 x100) (upd qf 3 x105) (upd (upd gf 7 x89) 8 x90) uf lf mf nf tr (up2 (up2 (up2 (up2 (up2 (up2 (up2 (up2 (up2 r 6 (x101 6)) 7 (x101 7)) 8 (x101 8)) 9 (x101 9)) 10 (x101 10)) 11 (x101 11)) 12 (x101 12)) 13 (x101 13)) 14 (x101 14)) (up2 (up2 (up2 q 0 x102) 1 x103) 2 x104) (up2 gr 0 x94) ur lr mr nr) (pl_perm (xBlk G x xa ta a b ga ua la lb lc tg gg xf tf (upd f 4 x100) (upd qf 3 x105) (upd (upd gf 7 x89) 8 x90) uf lf mf nf tr (up2 (up2 (up2 (up2 (up2 (up2 (up2 (up2 (up2 r 6 (x101 6)) 7 (x101 7)) 8 (x101 8)) 9 (x101 9)) 10 (x101 10)) 11 (x101 11)) 12 (x101 12)) 13 (x101 13)) 14 (x101 14)) (up2 (up2 (up2 q 0 x102) 1 x103) 2 x104) (up2 gr 0 x94) ur lr mr nr) (sel := [2, 3]) (oth := [0, 1, 4, 5, 6, 7, 8, 9]) (by decide))).1
                          refine lv_istore (lv' := [(6, .int r106), (3, .int v99), (7, .int (nI tn)), (5, .int (nI k)), (4, .int (nI i)), (0, .ref (ga 9)), (1, .ref (ta 0)), (2, .ref (a 15))]) hx hb dX0_followPlan_119 hl (by decide) rfl (fun ls hl => ?_)
                          obtain ⟨v108, ev108⟩ : ∃ y9 : Int32, y9 = (nI tn) + Int32.ofInt (1) := ⟨_, rfl⟩
                          refine lv_iinc (v := v108) (lv' := [(7, .int v108), (6, .int r106), (3, .int v99), (5, .int (nI k)), (4, .int (nI i)), (0, .ref (ga 9)), (1, .ref (ta 0)), (2, .ref (a 15))]) hx hb dX0_followPlan_121 hl (k := 2) rfl ev108.symm (by decide) rfl (fun ls hl => ?_)
                          obtain rfl : v108 = nI (tn + 1) := nI_plus (i := tn) (j := 1) ev108 rfl (by decide)
                          refine lv_goto (tgt := 66) hx hb dX0_followPlan_124 (by decide) ?_
                          exact ih66k65 (tn + 1) r106 v99 x100 x89 x90 x94 x102 x103 x104 x105 (x101 6) (x101 7) (x101 8) (x101 9) (x101 10) (x101 11) (x101 12) (x101 13) (x101 14) (by omega) (by omega) hRB _ _ _ hP hS (lv_sub hl [0, 1, 3, 4, 2, 5, 6, 7] rfl)
                        · refine lv_iconst (v := -1) hx hb dX0_followPlan_97 (by decide) ?_
                          exact wr_iret hx hb hr hlocks hS hP ⟨x68, x89, x90, x71, x72, x73, x74, x75, x76, x77, x78, x79, x80, x81, x82, x83, x84, (tr 7), rfl, hRB, hb1_r⟩ dX0_followPlan_98
                exact loop66 (144 + 1) 0 z50 z28 x51 x30 x31 x32 x62 x63 x64 x52 x53 x54 x55 x56 x57 x58 x59 x60 x61 (by omega) (by omega) hRB _ _ _ hP hS (lv_sub hl [0, 1, 2, 3, 4, 5, 6, 7] rfl)
              refine lv_if_eq (tgt := 56) hx hb dX0_followPlan_42 (by decide) (fun c109 => ?_) (fun c109 => ?_)
              · refine lv_iconst (v := 1) hx hb dX0_followPlan_56 (by decide) ?_
                refine lv_goto (tgt := 61) hx hb dX0_followPlan_57 (by decide) ?_
                exact j61_64 1 x29 x36 x37 x38 x39 x40 x41 x42 x43 x44 x45 x33 x34 x35 (Or.inr rfl) hRB _ _ _ hP hS (lv_sub hl [0, 1, 2, 3, 4, 5] rfl)
              · refine lv_aload_n hx hb dX0_followPlan_45 rfl (lv_at hl 5 rfl) ?_
                refine lv_iload hx hb dX0_followPlan_46 (lv_at hl 1 rfl) ?_
                refine lv_iload hx hb dX0_followPlan_48 (lv_at hl 0 rfl) ?_
                refine lawI (rest := []) (q0 := 0) ⟨hx, hb, hml, hown, hts⟩ (c_X2_isSafe l G a b (upd f 4 x29) (up2 (up2 (up2 (up2 (up2 (up2 (up2 (up2 (up2 r 6 x37) 7 x38) 8 x39) 9 x40) 10 x41) 11 x42) 12 x43) 13 x44) 14 x45) (up2 (up2 (up2 q 0 x33) 1 x34) 2 x35) x36 rw cl hrw hcl h0 h1 i k (by omega) (by omega) hRB) mi_yX2_isSafe mv_yX2_isSafe ml_X0_59 ⟨rfl, rfl, Nat.le_of_ble_eq_true rfl, Nat.le_of_ble_eq_true rfl⟩ hK hP (hDD _ _ _ _ _ _ _ _ _ _ _ _ _ _ _ _ _) (pl_perm (xBlk G x xa ta a b ga ua la lb lc tg gg xf tf (upd f 4 x29) (upd qf 3 x36) (upd (upd gf 7 x30) 8 x31) uf lf mf nf tr (up2 (up2 (up2 (up2 (up2 (up2 (up2 (up2 (up2 r 6 x37) 7 x38) 8 x39) 9 x40) 10 x41) 11 x42) 12 x43) 13 x44) 14 x45) (up2 (up2 (up2 q 0 x33) 1 x34) 2 x35) (up2 gr 0 x32) ur lr mr nr) (sel := [2, 3]) (oth := [0, 1, 4, 5, 6, 7, 8, 9]) (by decide)) rfl rfl rfl hl.1 rfl (Nat.le_of_ble_eq_true rfl) dX0_followPlan_50 ⟨Nat.zero_le _, Nat.zero_le _⟩ hS hA (fun r116 w117 H locs hw117 hP hS => ?_)
                obtain ⟨x110, x111, x112, x113, x114, x115, hRB, rfl⟩ := hw117
                have hP : PP G (xM G x xa ta a b ga ua la lb lc tg gg xf tf (upd f 4 x110) (upd qf 3 x115) (upd (upd gf 7 x30) 8 x31) uf lf mf nf tr (up2 (up2 (up2 (up2 (up2 (up2 (up2 (up2 (up2 r 6 (x111 6)) 7 (x111 7)) 8 (x111 8)) 9 (x111 9)) 10 (x111 10)) 11 (x111 11)) 12 (x111 12)) 13 (x111 13)) 14 (x111 14)) (up2 (up2 (up2 q 0 x112) 1 x113) 2 x114) (up2 gr 0 x32) ur lr mr nr) H := (hP rfl (xM G x xa ta a b ga ua la lb lc tg gg xf tf (upd f 4 x110) (upd qf 3 x115) (upd (upd gf 7 x30) 8 x31) uf lf mf nf tr (up2 (up2 (up2 (up2 (up2 (up2 (up2 (up2 (up2 r 6 (x111 6)) 7 (x111 7)) 8 (x111 8)) 9 (x111 9)) 10 (x111 10)) 11 (x111 11)) 12 (x111 12)) 13 (x111 13)) 14 (x111 14)) (up2 (up2 (up2 q 0 x112) 1 x113) 2 x114) (up2 gr 0 x32) ur lr mr nr) (pl_perm (xBlk G x xa ta a b ga ua la lb lc tg gg xf tf (upd f 4 x110) (upd qf 3 x115) (upd (upd gf 7 x30) 8 x31) uf lf mf nf tr (up2 (up2 (up2 (up2 (up2 (up2 (up2 (up2 (up2 r 6 (x111 6)) 7 (x111 7)) 8 (x111 8)) 9 (x111 9)) 10 (x111 10)) 11 (x111 11)) 12 (x111 12)) 13 (x111 13)) 14 (x111 14)) (up2 (up2 (up2 q 0 x112) 1 x113) 2 x114) (up2 gr 0 x32) ur lr mr nr) (sel := [2, 3]) (oth := [0, 1, 4, 5, 6, 7, 8, 9]) (by decide))).1
                refine lv_if_eq (tgt := 60) hx hb dX0_followPlan_53 (by decide) (fun c118 => ?_) (fun c118 => ?_)
                · refine lv_iconst (v := 0) hx hb dX0_followPlan_60 (by decide) ?_
                  exact j61_64 0 x110 x115 (x111 6) (x111 7) (x111 8) (x111 9) (x111 10) (x111 11) (x111 12) (x111 13) (x111 14) x112 x113 x114 (Or.inl rfl) hRB _ _ _ hP hS (lv_sub hl [0, 1, 2, 3, 4, 5] rfl)
                · refine lv_iconst (v := 1) hx hb dX0_followPlan_56 (by decide) ?_
                  refine lv_goto (tgt := 61) hx hb dX0_followPlan_57 (by decide) ?_
                  exact j61_64 1 x110 x115 (x111 6) (x111 7) (x111 8) (x111 9) (x111 10) (x111 11) (x111 12) (x111 13) (x111 14) x112 x113 x114 (Or.inr rfl) hRB _ _ _ hP hS (lv_sub hl [0, 1, 2, 3, 4, 5] rfl)
        exact loop21 (cl + 1) 0 z5 x6 x7 x8 x9 x10 x11 x12 x13 x14 x15 x16 x17 x18 x19 x20 x21 x22 (by omega) (by omega) hRB _ _ _ hP hS (lv_sub hl [0, 1, 2, 3, 4, 5] rfl)
  exact loop9 (rw + 1) 0 0 (f 4) (gf 7) (gf 8) x1 (q 0) (q 1) (q 2) (qf 3) (r 6) (r 7) (r 8) (r 9) (r 10) (r 11) (r 12) (r 13) (r 14) (by omega) (by omega) hRB _ _ _ hP hS (lv_sub hl [0, 1, 2, 3, 4] rfl)
theorem st7 {q : Int32} (h : (q = 1 ∧ (7 : Int32) = 0) ∨ (q = 0 ∧ ¬ (7 : Int32) = 0)) : q = 0 := h.elim (fun z => absurd z.2 (by decide)) (fun z => z.1)
set_option maxHeartbeats 4000000 in
set_option maxRecDepth 100000 in
theorem x_rule (l : Launch) (G : GG) (x : Nat) (xa ta a b ga ua la lb lc : Nat → Nat) (tg gg : Nat → Option Nat) (xf tf f qf gf uf lf mf nf : Nat → Int32) (tr r q gr ur lr mr nr : Nat → Nat → Int32) (tb : Int32) (wh : Int32) (nm : Int32) (j : Nat) (hj : j < 6) (hjt : tbJ tb j) (htg : tg j = some (ta 0)) (hT1 : nL 12 (tf 1)) (hT2 : nL 12 (tf 2)) (hT3 : nL 12 (tf 3)) (hT4 : nOK 12 12 (tr 4)) : WrIs l yX6_rule cX6_rule 4 (some .boolean) ({ frames := 1, cells := 0, slots := 0, locals := 21 }) G (xM G x xa ta a b ga ua la lb lc tg gg xf tf f qf gf uf lf mf nf tr r q gr ur lr mr nr) [.ref x, .int tb, .int wh, .int nm] (fun qz w => ∃ (n_tr_9 : Nat → Int32) (n_xf_0 : Int32), w = xM G x xa ta a b ga ua la lb lc tg gg (upd xf 0 n_xf_0) tf f qf gf uf lf mf nf (up2 tr 9 n_tr_9) r q gr ur lr mr nr ∧ (ruB (tbO tb j (tf 0)) wh nm qz ∧ ruRX wh nm qz (tr 9) n_tr_9)) := by
  refine ws_entryI (by decide +kernel) (Nat.le_of_ble_eq_true rfl) ?_
  intro p e s m below meth c A C0 hP hK hD hA hT ls hl
  have hS : va_S A s.heap s.heap [] := va_S.rf
  obtain ⟨hx, hb, hml, hown, hts, hr, hlocks, hin⟩ := C0
  have hown : s.vm.findClass RX6 = some m.cls := hown
  have hDD : ∀ xf' tf' f' qf' gf' uf' lf' mf' nf' tr' r' q' gr' ur' lr' mr' nr', va_D A (xM G x xa ta a b ga ua la lb lc tg gg xf' tf' f' qf' gf' uf' lf' mf' nf' tr' r' q' gr' ur' lr' mr' nr') := fun xf' tf' f' qf' gf' uf' lf' mf' nf' tr' r' q' gr' ur' lr' mr' nr' => D_same hD rfl
  have hl : lv_has ls 4 [(0, .ref x), (1, .int tb), (2, .int wh), (3, .int nm)] := hl
  obtain ⟨-, tz, hZ, hTt⟩ := hT
  refine lv_aload_n hx hb dX6_rule_0 rfl (lv_at hl 0 rfl) ?_
  refine lv_aload_n hx hb dX6_rule_1 rfl (lv_at hl 0 rfl) ?_
  refine lv_iload_n hx hb dX6_rule_2 rfl (lv_at hl 1 rfl) ?_
  refine rdV (rest := [.ref x]) (q0 := 0) ⟨hx, hb, hml, hown, hts⟩ (x_tableStatus l G x xa ta a b ga ua la lb lc tg gg xf tf f qf gf uf lf mf nf tr r q gr ur lr mr nr tb j (by omega) hjt htg) mi_yX6_tableStatus mv_yX6_tableStatus ml_X6_73 ⟨rfl, rfl, Nat.le_of_ble_eq_true rfl, Nat.le_of_ble_eq_true rfl⟩ hK (hP) rfl rfl rfl hl.1 rfl (Nat.le_of_ble_eq_true rfl) dX6_rule_3 ⟨Nat.zero_le _, Nat.zero_le _⟩ hS hA hP (fun r1 H locs hr1 hP hS => ?_)
  have hr1 : ((r1 = 0 ∧ tbO tb j (tf 0)) ∨ (r1 = 1 ∧ ¬ tbO tb j (tf 0))) := hr1
  refine wrVIa (rest := []) (q0 := 0) ⟨hx, hb, hml, hown, hts⟩ (x_settled l G x xa ta a b ga ua la lb lc tg gg xf tf f qf gf uf lf mf nf tr r q gr ur lr mr nr r1  ) mi_yX6_settled mv_yX6_settled ml_X6_65 ⟨rfl, rfl, Nat.le_of_ble_eq_true rfl, Nat.le_of_ble_eq_true rfl⟩ hK hP (hDD _ _ _ _ _ _ _ _ _ _ _ _ _ _ _ _ _) rfl rfl rfl hl.1 rfl (Nat.le_of_ble_eq_true rfl) dX6_rule_6 ⟨Nat.zero_le _, Nat.zero_le _⟩ hS hA (fun r2 w3 H locs hw3 hP hS => ?_)
  obtain ⟨x4, rfl, hw3r⟩ := hw3
  have hP : PP G (xM G x xa ta a b ga ua la lb lc tg gg (upd xf 0 x4) tf f qf gf uf lf mf nf tr r q gr ur lr mr nr) H := hP
  have hw3r : ((r2 = 1 ∧ ((r1 : Int32) = 0)) ∨ (r2 = 0 ∧ ¬ ((r1 : Int32) = 0))) := hw3r
  refine lv_if_ne (tgt := 14) hx hb dX6_rule_9 (by decide) (fun c5 => ?_) (fun c5 => ?_)
  · have b9 := bT hw3r c5
    obtain ⟨ej, ho⟩ := st0 hr1 b9
    subst ej
    obtain ⟨rw, hrw, t1⟩ := hT1
    obtain ⟨cl, hcl, t2⟩ := hT2
    obtain ⟨bk, hbk, t3⟩ := hT3
    have hT1 : nL 12 (tf 1) := ⟨rw, hrw, t1⟩
    have hT2 : nL 12 (tf 2) := ⟨cl, hcl, t2⟩
    have hT3 : nL 12 (tf 3) := ⟨bk, hbk, t3⟩
    refine lv_iload_n hx hb dX6_rule_14 rfl (lv_at hl 2 rfl) ?_
    refine lv_if_lt (tgt := 39) hx hb dX6_rule_15 (by decide) (fun c6 => ?_) (fun c6 => ?_)
    · refine lv_aload_n hx hb dX6_rule_39 rfl (lv_at hl 0 rfl) ?_
      refine lv_bipush (v := 7) hx hb dX6_rule_40 (by decide) ?_
      refine wrVIa (rest := []) (q0 := 0) ⟨hx, hb, hml, hown, hts⟩ (x_settled l G x xa ta a b ga ua la lb lc tg gg (upd xf 0 x4) tf f qf gf uf lf mf nf tr r q gr ur lr mr nr 7  ) mi_yX6_settled mv_yX6_settled ml_X6_65 ⟨rfl, rfl, Nat.le_of_ble_eq_true rfl, Nat.le_of_ble_eq_true rfl⟩ hK hP (hDD _ _ _ _ _ _ _ _ _ _ _ _ _ _ _ _ _) rfl rfl rfl hl.1 rfl (Nat.le_of_ble_eq_true rfl) dX6_rule_42 ⟨Nat.zero_le _, Nat.zero_le _⟩ hS hA (fun r7 w8 H locs hw8 hP hS => ?_)
      obtain ⟨x9, rfl, hw8r⟩ := hw8
      have hP : PP G (xM G x xa ta a b ga ua la lb lc tg gg (upd xf 0 x9) tf f qf gf uf lf mf nf tr r q gr ur lr mr nr) H := hP
      have hw8r : ((r7 = 1 ∧ ((7 : Int32) = 0)) ∨ (r7 = 0 ∧ ¬ ((7 : Int32) = 0))) := hw8r
      exact wr_zret hx hb hr hlocks ((hw8r.elim (fun q9 => Or.inr q9.1) (fun q9 => Or.inl q9.1))) hS hP ⟨(tr 9), x9, rfl, ⟨Or.inr ⟨st7 hw8r, fun h => (by obtain ⟨-, n, hn, e, -⟩ := h; exact absurd (e ▸ c6) (nI_pos (by omega)))⟩, Or.inl ⟨st7 hw8r, rfl⟩⟩⟩ dX6_rule_45
    · refine lv_iload_n hx hb dX6_rule_18 rfl (lv_at hl 2 rfl) ?_
      refine va_gets (C := "CellKeeper") (v := .ref tz) hx hb hZ hS hown (hts _ mf_X6_77) (fun _ h9 => h9) dX6_rule_19 ?_
      refine va_tlen (v := nI 6) hx hb hTt hS rfl dX6_rule_22 ?_
      refine lv_icmp_ge (tgt := 39) hx hb dX6_rule_23 (by decide) (fun c10 => ?_) (fun c10 => ?_)
      · refine lv_aload_n hx hb dX6_rule_39 rfl (lv_at hl 0 rfl) ?_
        refine lv_bipush (v := 7) hx hb dX6_rule_40 (by decide) ?_
        refine wrVIa (rest := []) (q0 := 0) ⟨hx, hb, hml, hown, hts⟩ (x_settled l G x xa ta a b ga ua la lb lc tg gg (upd xf 0 x4) tf f qf gf uf lf mf nf tr r q gr ur lr mr nr 7  ) mi_yX6_settled mv_yX6_settled ml_X6_65 ⟨rfl, rfl, Nat.le_of_ble_eq_true rfl, Nat.le_of_ble_eq_true rfl⟩ hK hP (hDD _ _ _ _ _ _ _ _ _ _ _ _ _ _ _ _ _) rfl rfl rfl hl.1 rfl (Nat.le_of_ble_eq_true rfl) dX6_rule_42 ⟨Nat.zero_le _, Nat.zero_le _⟩ hS hA (fun r11 w12 H locs hw12 hP hS => ?_)
        obtain ⟨x13, rfl, hw12r⟩ := hw12
        have hP : PP G (xM G x xa ta a b ga ua la lb lc tg gg (upd xf 0 x13) tf f qf gf uf lf mf nf tr r q gr ur lr mr nr) H := hP
        have hw12r : ((r11 = 1 ∧ ((7 : Int32) = 0)) ∨ (r11 = 0 ∧ ¬ ((7 : Int32) = 0))) := hw12r
        exact wr_zret hx hb hr hlocks ((hw12r.elim (fun q9 => Or.inr q9.1) (fun q9 => Or.inl q9.1))) hS hP ⟨(tr 9), x13, rfl, ⟨Or.inr ⟨st7 hw12r, fun h => (by obtain ⟨-, n, hn, e, -⟩ := h; exact absurd (e ▸ c10) (nI_ge hn (by decide)))⟩, Or.inl ⟨st7 hw12r, rfl⟩⟩⟩ dX6_rule_45
      · refine lv_iload_n hx hb dX6_rule_26 rfl (lv_at hl 3 rfl) ?_
        refine lv_if_lt (tgt := 39) hx hb dX6_rule_27 (by decide) (fun c14 => ?_) (fun c14 => ?_)
        · refine lv_aload_n hx hb dX6_rule_39 rfl (lv_at hl 0 rfl) ?_
          refine lv_bipush (v := 7) hx hb dX6_rule_40 (by decide) ?_
          refine wrVIa (rest := []) (q0 := 0) ⟨hx, hb, hml, hown, hts⟩ (x_settled l G x xa ta a b ga ua la lb lc tg gg (upd xf 0 x4) tf f qf gf uf lf mf nf tr r q gr ur lr mr nr 7  ) mi_yX6_settled mv_yX6_settled ml_X6_65 ⟨rfl, rfl, Nat.le_of_ble_eq_true rfl, Nat.le_of_ble_eq_true rfl⟩ hK hP (hDD _ _ _ _ _ _ _ _ _ _ _ _ _ _ _ _ _) rfl rfl rfl hl.1 rfl (Nat.le_of_ble_eq_true rfl) dX6_rule_42 ⟨Nat.zero_le _, Nat.zero_le _⟩ hS hA (fun r15 w16 H locs hw16 hP hS => ?_)
          obtain ⟨x17, rfl, hw16r⟩ := hw16
          have hP : PP G (xM G x xa ta a b ga ua la lb lc tg gg (upd xf 0 x17) tf f qf gf uf lf mf nf tr r q gr ur lr mr nr) H := hP
          have hw16r : ((r15 = 1 ∧ ((7 : Int32) = 0)) ∨ (r15 = 0 ∧ ¬ ((7 : Int32) = 0))) := hw16r
          exact wr_zret hx hb hr hlocks ((hw16r.elim (fun q9 => Or.inr q9.1) (fun q9 => Or.inl q9.1))) hS hP ⟨(tr 9), x17, rfl, ⟨Or.inr ⟨st7 hw16r, fun h => (by obtain ⟨-, n, hn, e, h4, -⟩ := h; exact h4 c14)⟩, Or.inl ⟨st7 hw16r, rfl⟩⟩⟩ dX6_rule_45
        · refine lv_iload_n hx hb dX6_rule_30 rfl (lv_at hl 3 rfl) ?_
          refine va_gets (C := "CellKeeper") (v := .ref tz) hx hb hZ hS hown (hts _ mf_X6_77) (fun _ h9 => h9) dX6_rule_31 ?_
          refine lv_iload_n hx hb dX6_rule_34 rfl (lv_at hl 2 rfl) ?_
          obtain ⟨n, hn, en⟩ := lt_ix (x := wh) (n := 6) (by decide) c6 c10
          subst en
          refine va_ti (v := .int (ruX n)) hx hb hTt hS (vp_in_nI hn (by decide)) (by rw [nI_clamp (by omega)]; rfl) dX6_rule_35 ?_
          refine lv_icmp_le (tgt := 46) hx hb dX6_rule_36 (by decide) (fun c18 => ?_) (fun c18 => ?_)
          · refine lv_aload_n hx hb dX6_rule_46 rfl (lv_at hl 0 rfl) ?_
            refine va_get (D := G.1) (ci := 6) (v := .ref (xa 1)) (C := RX6) (T := TX6) (N := 10) hx hb hts inX6 hown hK.1 hP 0 rfl rfl 1 (by decide) (hts _ mf_X6_15) (fun _ h9 => h9) rfl dX6_rule_47 ?_
            refine lv_iload_n hx hb dX6_rule_50 rfl (lv_at hl 1 rfl) ?_
            refine xaldT hx hb hK hP 1 (j) (b := (ta 0)) rfl (by omega) (by decide) rfl (htg) dX6_rule_51 ?_
            refine va_get (D := G.1) (ci := 4) (v := .ref (ta 9)) (C := RX4) (T := TX4) (N := 12) hx hb hts inX4 hown hK.1 hP 2 rfl rfl 9 (by decide) (hts _ mf_X6_81) (fun _ h9 => h9) rfl dX6_rule_52 ?_
            refine lv_iload_n hx hb dX6_rule_55 rfl (lv_at hl 2 rfl) ?_
            refine lv_iload_n hx hb dX6_rule_56 rfl (lv_at hl 3 rfl) ?_
            refine xiast (f := (tr 9)) (x := nm) hx hb hK hP (hDD _ _ _ _ _ _ _ _ _ _ _ _ _ _ _ _ _) hS 8 (n) (rfl) (by omega) (by decide) rfl dX6_rule_57 (fun H locs hP _ hS => ?_)
            have hP : PP G (xM G x xa ta a b ga ua la lb lc tg gg (upd xf 0 x4) tf f qf gf uf lf mf nf (up2 tr 9 (upd (tr 9) (n) (nm))) r q gr ur lr mr nr) H := hP
            refine lv_iconst (v := 1) hx hb dX6_rule_58 (by decide) ?_
            exact wr_zret hx hb hr hlocks (Or.inr rfl) hS hP ⟨(upd (tr 9) (n) (nm)), x4, rfl, ⟨Or.inl ⟨rfl, ⟨rfl, ho⟩, n, hn, rfl, c14, le_n c18⟩, Or.inr ⟨rfl, n, hn, rfl, rfl⟩⟩⟩ dX6_rule_59
          · refine lv_aload_n hx hb dX6_rule_39 rfl (lv_at hl 0 rfl) ?_
            refine lv_bipush (v := 7) hx hb dX6_rule_40 (by decide) ?_
            refine wrVIa (rest := []) (q0 := 0) ⟨hx, hb, hml, hown, hts⟩ (x_settled l G x xa ta a b ga ua la lb lc tg gg (upd xf 0 x4) tf f qf gf uf lf mf nf tr r q gr ur lr mr nr 7  ) mi_yX6_settled mv_yX6_settled ml_X6_65 ⟨rfl, rfl, Nat.le_of_ble_eq_true rfl, Nat.le_of_ble_eq_true rfl⟩ hK hP (hDD _ _ _ _ _ _ _ _ _ _ _ _ _ _ _ _ _) rfl rfl rfl hl.1 rfl (Nat.le_of_ble_eq_true rfl) dX6_rule_42 ⟨Nat.zero_le _, Nat.zero_le _⟩ hS hA (fun r19 w20 H locs hw20 hP hS => ?_)
            obtain ⟨x21, rfl, hw20r⟩ := hw20
            have hP : PP G (xM G x xa ta a b ga ua la lb lc tg gg (upd xf 0 x21) tf f qf gf uf lf mf nf tr r q gr ur lr mr nr) H := hP
            have hw20r : ((r19 = 1 ∧ ((7 : Int32) = 0)) ∨ (r19 = 0 ∧ ¬ ((7 : Int32) = 0))) := hw20r
            exact wr_zret hx hb hr hlocks ((hw20r.elim (fun q9 => Or.inr q9.1) (fun q9 => Or.inl q9.1))) hS hP ⟨(tr 9), x21, rfl, ⟨Or.inr ⟨st7 hw20r, fun h => (by obtain ⟨-, n2, hn2, e, -, h5⟩ := h; have e9 := (nI_eq (by omega) (by omega)).mp e; subst e9; exact h5 (n_le c18))⟩, Or.inl ⟨st7 hw20r, rfl⟩⟩⟩ dX6_rule_45
  · have b9 := bF hw3r c5
    refine lv_iconst (v := 0) hx hb dX6_rule_12 (by decide) ?_
    exact wr_zret hx hb hr hlocks (Or.inl rfl) hS hP ⟨(tr 9), x4, rfl, ⟨Or.inr ⟨rfl, fun h => st1 hr1 b9 h.1⟩, Or.inl ⟨rfl, rfl⟩⟩⟩ dX6_rule_13
set_option maxHeartbeats 4000000 in
set_option maxRecDepth 100000 in
theorem x_cell (l : Launch) (G : GG) (x : Nat) (xa ta a b ga ua la lb lc : Nat → Nat) (tg gg : Nat → Option Nat) (xf tf f qf gf uf lf mf nf : Nat → Int32) (tr r q gr ur lr mr nr : Nat → Nat → Int32) (tb : Int32) (row : Int32) (col : Int32) (kd : Int32) (nm : Int32) (j : Nat) (hj : j < 6) (hjt : tbJ tb j) (htg : tg j = some (ta 0)) (hT1 : nL 12 (tf 1)) (hT2 : nL 12 (tf 2)) (hT3 : nL 12 (tf 3)) (hT4 : nOK 12 12 (tr 4)) : WrI l yX6_cell cX6_cell 6 (some .boolean) ({ frames := 3, cells := 0, slots := 0, locals := 69 }) G (xM G x xa ta a b ga ua la lb lc tg gg xf tf f qf gf uf lf mf nf tr r q gr ur lr mr nr) [.ref x, .int tb, .int row, .int col, .int kd, .int nm] (fun qz w => ∃ (n_tr_5 : Nat → Int32) (n_tr_6 : Nat → Int32) (n_tr_7 : Nat → Int32) (n_tr_8 : Nat → Int32) (n_xf_0 : Int32), w = xM G x xa ta a b ga ua la lb lc tg gg (upd xf 0 n_xf_0) tf f qf gf uf lf mf nf (up2 (up2 (up2 (up2 tr 5 n_tr_5) 6 n_tr_6) 7 n_tr_7) 8 n_tr_8) r q gr ur lr mr nr ∧ atP (stX (tbO tb j (tf 0)) (tf 1) (tf 2) (tr 4) row col) row col (fun i k => sv (tol kd nm) (qz = 1 ∧ puX (i * 12 + k) (mkK kd) nm (tr 5) (tr 6) (tr 7) (tr 8) n_tr_5 n_tr_6 n_tr_7 n_tr_8) (qz = 0 ∧ sm4 (tr 5) (tr 6) (tr 7) (tr 8) n_tr_5 n_tr_6 n_tr_7 n_tr_8)) (qz = 0 ∧ sm4 (tr 5) (tr 6) (tr 7) (tr 8) n_tr_5 n_tr_6 n_tr_7 n_tr_8)) := by
  refine wr_entryI (by decide +kernel) (Nat.le_of_ble_eq_true rfl) ?_
  intro p e s m below meth c A C0 hP hK hD hA ls hl
  have hS : va_S A s.heap s.heap [] := va_S.rf
  obtain ⟨hx, hb, hml, hown, hts, hr, hlocks, hin⟩ := C0
  have hown : s.vm.findClass RX6 = some m.cls := hown
  have hDD : ∀ xf' tf' f' qf' gf' uf' lf' mf' nf' tr' r' q' gr' ur' lr' mr' nr', va_D A (xM G x xa ta a b ga ua la lb lc tg gg xf' tf' f' qf' gf' uf' lf' mf' nf' tr' r' q' gr' ur' lr' mr' nr') := fun xf' tf' f' qf' gf' uf' lf' mf' nf' tr' r' q' gr' ur' lr' mr' nr' => D_same hD rfl
  have hl : lv_has ls 6 [(0, .ref x), (1, .int tb), (2, .int row), (3, .int col), (4, .int kd), (5, .int nm)] := hl
  refine lv_aload_n hx hb dX6_cell_0 rfl (lv_at hl 0 rfl) ?_
  refine lv_aload_n hx hb dX6_cell_1 rfl (lv_at hl 0 rfl) ?_
  refine lv_iload_n hx hb dX6_cell_2 rfl (lv_at hl 1 rfl) ?_
  refine lv_iload_n hx hb dX6_cell_3 rfl (lv_at hl 2 rfl) ?_
  refine lv_iload_n hx hb dX6_cell_4 rfl (lv_at hl 3 rfl) ?_
  refine rdV (rest := [.ref x]) (q0 := 0) ⟨hx, hb, hml, hown, hts⟩ (x_placeStatus l G x xa ta a b ga ua la lb lc tg gg xf tf f qf gf uf lf mf nf tr r q gr ur lr mr nr tb row col j (by omega) hjt htg hT1) mi_yX6_placeStatus mv_yX6_placeStatus ml_X6_84 ⟨rfl, rfl, Nat.le_of_ble_eq_true rfl, Nat.le_of_ble_eq_true rfl⟩ hK (hP) rfl rfl rfl hl.1 rfl (Nat.le_of_ble_eq_true rfl) dX6_cell_5 ⟨Nat.zero_le _, Nat.zero_le _⟩ hS hA hP (fun r1 H locs hr1 hP hS => ?_)
  have hr1 : stX (tbO tb j (tf 0)) (tf 1) (tf 2) (tr 4) row col r1 := hr1
  refine wrVIa (rest := []) (q0 := 0) ⟨hx, hb, hml, hown, hts⟩ (x_settled l G x xa ta a b ga ua la lb lc tg gg xf tf f qf gf uf lf mf nf tr r q gr ur lr mr nr r1  ) mi_yX6_settled mv_yX6_settled ml_X6_65 ⟨rfl, rfl, Nat.le_of_ble_eq_true rfl, Nat.le_of_ble_eq_true rfl⟩ hK hP (hDD _ _ _ _ _ _ _ _ _ _ _ _ _ _ _ _ _) rfl rfl rfl hl.1 rfl (Nat.le_of_ble_eq_true rfl) dX6_cell_8 ⟨Nat.zero_le _, Nat.zero_le _⟩ hS hA (fun r2 w3 H locs hw3 hP hS => ?_)
  obtain ⟨x4, rfl, hw3r⟩ := hw3
  have hP : PP G (xM G x xa ta a b ga ua la lb lc tg gg (upd xf 0 x4) tf f qf gf uf lf mf nf tr r q gr ur lr mr nr) H := hP
  have hw3r : ((r2 = 1 ∧ ((r1 : Int32) = 0)) ∨ (r2 = 0 ∧ ¬ ((r1 : Int32) = 0))) := hw3r
  refine lv_if_ne (tgt := 16) hx hb dX6_cell_11 (by decide) (fun c5 => ?_) (fun c5 => ?_)
  · have b11 := bT hw3r c5
    have hs0 := stX_z hr1 b11
    obtain ⟨⟨ej, ho⟩, q1, q2⟩ := stX_0 hr1 b11
    subst ej
    have q1c := q1
    have q2c := q2
    obtain ⟨rw, hrw, t1⟩ := hT1
    obtain ⟨cl, hcl, t2⟩ := hT2
    obtain ⟨bk, hbk, t3⟩ := hT3
    have hT1 : nL 12 (tf 1) := ⟨rw, hrw, t1⟩
    have hT2 : nL 12 (tf 2) := ⟨cl, hcl, t2⟩
    have hT3 : nL 12 (tf 3) := ⟨bk, hbk, t3⟩
    rw [t1] at q1c
    rw [t2] at q2c
    obtain ⟨i, hi, ei⟩ := inR_n (by omega) q1c
    subst ei
    obtain ⟨k, hk, ek⟩ := inR_n (by omega) q2c
    subst ek
    refine lv_iload hx hb dX6_cell_16 (lv_at hl 4 rfl) ?_
    refine lv_iload hx hb dX6_cell_18 (lv_at hl 5 rfl) ?_
    refine rdS (rest := []) ⟨hx, hb, hml, hown, hts⟩ (x_canBeTold l G x xa ta a b ga ua la lb lc tg gg (upd xf 0 x4) tf f qf gf uf lf mf nf tr r q gr ur lr mr nr kd nm  ) mi_yX6_canBeTold mst_yX6_canBeTold ml_X6_88 ⟨rfl, rfl, Nat.le_of_ble_eq_true rfl, Nat.le_of_ble_eq_true rfl⟩ hK (hP) rfl hl.1 rfl (Nat.le_of_ble_eq_true rfl) dX6_cell_20 ⟨Nat.zero_le _, Nat.zero_le _⟩ hS hA hP (fun r6 H locs hr6 hP hS => ?_)
    have hr6 : ((r6 = 1 ∧ (tol kd nm)) ∨ (r6 = 0 ∧ ¬ (tol kd nm))) := hr6
    refine lv_if_ne (tgt := 33) hx hb dX6_cell_23 (by decide) (fun c7 => ?_) (fun c7 => ?_)
    · have b23 := bT hr6 c7
      refine lv_aload_n hx hb dX6_cell_33 rfl (lv_at hl 0 rfl) ?_
      refine va_get (D := G.1) (ci := 6) (v := .ref (xa 1)) (C := RX6) (T := TX6) (N := 10) hx hb hts inX6 hown hK.1 hP 0 rfl rfl 1 (by decide) (hts _ mf_X6_15) (fun _ h9 => h9) rfl dX6_cell_34 ?_
      refine lv_iload_n hx hb dX6_cell_37 rfl (lv_at hl 1 rfl) ?_
      refine xaldT hx hb hK hP 1 (j) (b := (ta 0)) rfl (by omega) (by decide) rfl (htg) dX6_cell_38 ?_
      refine lv_iload_n hx hb dX6_cell_39 rfl (lv_at hl 2 rfl) ?_
      refine lv_iload_n hx hb dX6_cell_40 rfl (lv_at hl 3 rfl) ?_
      refine rdS (rest := [.ref (ta 0)]) ⟨hx, hb, hml, hown, hts⟩ (c_X6_spotOf l G ((nI i)) ((nI k))) mi_yX6_spotOf mst_yX6_spotOf ml_X6_92 ⟨rfl, rfl, Nat.le_of_ble_eq_true rfl, Nat.le_of_ble_eq_true rfl⟩ hK (fun k q h => by simp at h) rfl hl.1 rfl (Nat.le_of_ble_eq_true rfl) dX6_cell_41 ⟨Nat.zero_le _, Nat.zero_le _⟩ hS hA hP (fun r8 H locs hr8 hP hS => ?_)
      obtain rfl : r8 = nI (i * 12 + k) := spot_eq hr8
      refine lv_iload hx hb dX6_cell_44 (lv_at hl 4 rfl) ?_
      refine lv_if_ne (tgt := 53) hx hb dX6_cell_46 (by decide) (fun c9 => ?_) (fun c9 => ?_)
      · refine lv_iload hx hb dX6_cell_53 (lv_at hl 4 rfl) ?_
        refine lv_iload hx hb dX6_cell_55 (lv_at hl 5 rfl) ?_
        refine lawV (rest := []) (q0 := 0) ⟨hx, hb, hml, hown, hts⟩ (e_X4_put l G ta tf tr (i * 12 + k) kd nm (by omega)) mi_yX4_put mv_yX4_put ml_X6_96 ⟨rfl, rfl, Nat.le_of_ble_eq_true rfl, Nat.le_of_ble_eq_true rfl⟩ hK hP (hDD _ _ _ _ _ _ _ _ _ _ _ _ _ _ _ _ _) (pl_perm (xBlk G x xa ta a b ga ua la lb lc tg gg (upd xf 0 x4) tf f qf gf uf lf mf nf tr r q gr ur lr mr nr) (sel := [1]) (oth := [0, 2, 3, 4, 5, 6, 7, 8, 9]) (by decide)) rfl rfl rfl hl.1 rfl (Nat.le_of_ble_eq_true rfl) dX6_cell_57 ⟨Nat.zero_le _, Nat.zero_le _⟩ hS hA (fun w15 H locs hw15 hP hS => ?_)
        obtain ⟨x10, x11, x12, x13, rfl, g5, g6, g7, g8⟩ := hw15
        have hP : PP G (xM G x xa ta a b ga ua la lb lc tg gg (upd xf 0 x4) tf f qf gf uf lf mf nf (up2 (up2 (up2 (up2 tr 5 x10) 6 x11) 7 x12) 8 x13) r q gr ur lr mr nr) H := (hP rfl (xM G x xa ta a b ga ua la lb lc tg gg (upd xf 0 x4) tf f qf gf uf lf mf nf (up2 (up2 (up2 (up2 tr 5 x10) 6 x11) 7 x12) 8 x13) r q gr ur lr mr nr) (pl_perm (xBlk G x xa ta a b ga ua la lb lc tg gg (upd xf 0 x4) tf f qf gf uf lf mf nf (up2 (up2 (up2 (up2 tr 5 x10) 6 x11) 7 x12) 8 x13) r q gr ur lr mr nr) (sel := [1]) (oth := [0, 2, 3, 4, 5, 6, 7, 8, 9]) (by decide))).1
        refine lv_iconst (v := 1) hx hb dX6_cell_60 (by decide) ?_
        exact wr_zret hx hb hr hlocks (Or.inr rfl) hS hP ⟨x10, x11, x12, x13, x4, rfl, Or.inr ⟨hs0, i, k, by omega, by omega, rfl, rfl, Or.inl ⟨b23, rfl, g5.trans (by rw [mkK_n c9]), g6, g7, g8⟩⟩⟩ dX6_cell_61
      · refine lv_iconst (v := 5) hx hb dX6_cell_49 (by decide) ?_
        refine lv_goto (tgt := 55) hx hb dX6_cell_50 (by decide) ?_
        refine lv_iload hx hb dX6_cell_55 (lv_at hl 5 rfl) ?_
        refine lawV (rest := []) (q0 := 0) ⟨hx, hb, hml, hown, hts⟩ (e_X4_put l G ta tf tr (i * 12 + k) 5 nm (by omega)) mi_yX4_put mv_yX4_put ml_X6_96 ⟨rfl, rfl, Nat.le_of_ble_eq_true rfl, Nat.le_of_ble_eq_true rfl⟩ hK hP (hDD _ _ _ _ _ _ _ _ _ _ _ _ _ _ _ _ _) (pl_perm (xBlk G x xa ta a b ga ua la lb lc tg gg (upd xf 0 x4) tf f qf gf uf lf mf nf tr r q gr ur lr mr nr) (sel := [1]) (oth := [0, 2, 3, 4, 5, 6, 7, 8, 9]) (by decide)) rfl rfl rfl hl.1 rfl (Nat.le_of_ble_eq_true rfl) dX6_cell_57 ⟨Nat.zero_le _, Nat.zero_le _⟩ hS hA (fun w21 H locs hw21 hP hS => ?_)
        obtain ⟨x16, x17, x18, x19, rfl, g5, g6, g7, g8⟩ := hw21
        have hP : PP G (xM G x xa ta a b ga ua la lb lc tg gg (upd xf 0 x4) tf f qf gf uf lf mf nf (up2 (up2 (up2 (up2 tr 5 x16) 6 x17) 7 x18) 8 x19) r q gr ur lr mr nr) H := (hP rfl (xM G x xa ta a b ga ua la lb lc tg gg (upd xf 0 x4) tf f qf gf uf lf mf nf (up2 (up2 (up2 (up2 tr 5 x16) 6 x17) 7 x18) 8 x19) r q gr ur lr mr nr) (pl_perm (xBlk G x xa ta a b ga ua la lb lc tg gg (upd xf 0 x4) tf f qf gf uf lf mf nf (up2 (up2 (up2 (up2 tr 5 x16) 6 x17) 7 x18) 8 x19) r q gr ur lr mr nr) (sel := [1]) (oth := [0, 2, 3, 4, 5, 6, 7, 8, 9]) (by decide))).1
        refine lv_iconst (v := 1) hx hb dX6_cell_60 (by decide) ?_
        exact wr_zret hx hb hr hlocks (Or.inr rfl) hS hP ⟨x16, x17, x18, x19, x4, rfl, Or.inr ⟨hs0, i, k, by omega, by omega, rfl, rfl, Or.inl ⟨b23, rfl, g5.trans (by rw [mkK_0 c9]), g6, g7, g8⟩⟩⟩ dX6_cell_61
    · have b23 := bF hr6 c7
      refine lv_aload_n hx hb dX6_cell_26 rfl (lv_at hl 0 rfl) ?_
      refine lv_bipush (v := 7) hx hb dX6_cell_27 (by decide) ?_
      refine wrVIa (rest := []) (q0 := 0) ⟨hx, hb, hml, hown, hts⟩ (x_settled l G x xa ta a b ga ua la lb lc tg gg (upd xf 0 x4) tf f qf gf uf lf mf nf tr r q gr ur lr mr nr 7  ) mi_yX6_settled mv_yX6_settled ml_X6_65 ⟨rfl, rfl, Nat.le_of_ble_eq_true rfl, Nat.le_of_ble_eq_true rfl⟩ hK hP (hDD _ _ _ _ _ _ _ _ _ _ _ _ _ _ _ _ _) rfl rfl rfl hl.1 rfl (Nat.le_of_ble_eq_true rfl) dX6_cell_29 ⟨Nat.zero_le _, Nat.zero_le _⟩ hS hA (fun r22 w23 H locs hw23 hP hS => ?_)
      obtain ⟨x24, rfl, hw23r⟩ := hw23
      have hP : PP G (xM G x xa ta a b ga ua la lb lc tg gg (upd xf 0 x24) tf f qf gf uf lf mf nf tr r q gr ur lr mr nr) H := hP
      have hw23r : ((r22 = 1 ∧ ((7 : Int32) = 0)) ∨ (r22 = 0 ∧ ¬ ((7 : Int32) = 0))) := hw23r
      exact wr_zret hx hb hr hlocks ((hw23r.elim (fun q9 => Or.inr q9.1) (fun q9 => Or.inl q9.1))) hS hP ⟨(tr 5), (tr 6), (tr 7), (tr 8), x24, rfl, Or.inr ⟨hs0, i, k, by omega, by omega, rfl, rfl, Or.inr ⟨b23, st7 hw23r, rfl, rfl, rfl, rfl⟩⟩⟩ dX6_cell_32
  · have b11 := bF hw3r c5
    refine lv_iconst (v := 0) hx hb dX6_cell_14 (by decide) ?_
    exact wr_zret hx hb hr hlocks (Or.inl rfl) hS hP ⟨(tr 5), (tr 6), (tr 7), (tr 8), x4, rfl, Or.inl ⟨_, b11, hr1, rfl, rfl, rfl, rfl, rfl⟩⟩ dX6_cell_15
set_option maxHeartbeats 4000000 in
set_option maxRecDepth 100000 in
theorem x_giver (l : Launch) (G : GG) (x : Nat) (xa ta a b ga ua la lb lc : Nat → Nat) (tg gg : Nat → Option Nat) (xf tf f qf gf uf lf mf nf : Nat → Int32) (tr r q gr ur lr mr nr : Nat → Nat → Int32) (tb : Int32) (row : Int32) (col : Int32) (pv : Int32) (j : Nat) (hj : j < 6) (hjt : tbJ tb j) (htg : tg j = some (ta 0)) (hT1 : nL 12 (tf 1)) (hT2 : nL 12 (tf 2)) (hT3 : nL 12 (tf 3)) (hT4 : nOK 12 12 (tr 4)) : WrI l yX6_giver cX6_giver 5 (some .boolean) ({ frames := 5, cells := 0, slots := 0, locals := 117 }) G (xM G x xa ta a b ga ua la lb lc tg gg xf tf f qf gf uf lf mf nf tr r q gr ur lr mr nr) [.ref x, .int tb, .int row, .int col, .int pv] (fun qz w => ∃ (n_tr_6 : Nat → Int32) (n_tr_8 : Nat → Int32) (n_xf_0 : Int32), w = xM G x xa ta a b ga ua la lb lc tg gg (upd xf 0 n_xf_0) tf f qf gf uf lf mf nf (up2 (up2 tr 6 n_tr_6) 8 n_tr_8) r q gr ur lr mr nr ∧ atP (stX (tbO tb j (tf 0)) (tf 1) (tf 2) (tr 4) row col) row col (fun i k => sv ((tr 5) (i * 12 + k) = 2 ∧ ¬ pv < 1 ∧ ¬ 100000 < pv ∧ gvN (tr 8) (i * 12 + k) 6 < 6) (qz = 1 ∧ n_tr_6 = upd (tr 6) (i * 12 + k) ((tr 6) (i * 12 + k) + pv) ∧ n_tr_8 = upd (tr 8) ((i * 12 + k) * 6 + gvN (tr 8) (i * 12 + k) 6) pv) (qz = 0 ∧ n_tr_6 = (tr 6) ∧ n_tr_8 = (tr 8))) (qz = 0 ∧ n_tr_6 = (tr 6) ∧ n_tr_8 = (tr 8))) := by
  refine wr_entryI (by decide +kernel) (Nat.le_of_ble_eq_true rfl) ?_
  intro p e s m below meth c A C0 hP hK hD hA ls hl
  have hS : va_S A s.heap s.heap [] := va_S.rf
  obtain ⟨hx, hb, hml, hown, hts, hr, hlocks, hin⟩ := C0
  have hown : s.vm.findClass RX6 = some m.cls := hown
  have hDD : ∀ xf' tf' f' qf' gf' uf' lf' mf' nf' tr' r' q' gr' ur' lr' mr' nr', va_D A (xM G x xa ta a b ga ua la lb lc tg gg xf' tf' f' qf' gf' uf' lf' mf' nf' tr' r' q' gr' ur' lr' mr' nr') := fun xf' tf' f' qf' gf' uf' lf' mf' nf' tr' r' q' gr' ur' lr' mr' nr' => D_same hD rfl
  have hl : lv_has ls 5 [(0, .ref x), (1, .int tb), (2, .int row), (3, .int col), (4, .int pv)] := hl
  refine lv_aload_n hx hb dX6_giver_0 rfl (lv_at hl 0 rfl) ?_
  refine lv_aload_n hx hb dX6_giver_1 rfl (lv_at hl 0 rfl) ?_
  refine lv_iload_n hx hb dX6_giver_2 rfl (lv_at hl 1 rfl) ?_
  refine lv_iload_n hx hb dX6_giver_3 rfl (lv_at hl 2 rfl) ?_
  refine lv_iload_n hx hb dX6_giver_4 rfl (lv_at hl 3 rfl) ?_
  refine rdV (rest := [.ref x]) (q0 := 0) ⟨hx, hb, hml, hown, hts⟩ (x_amountStatus l G x xa ta a b ga ua la lb lc tg gg xf tf f qf gf uf lf mf nf tr r q gr ur lr mr nr tb row col j (by omega) hjt htg hT1 hT2 hT3) mi_yX6_amountStatus mv_yX6_amountStatus ml_X6_100 ⟨rfl, rfl, Nat.le_of_ble_eq_true rfl, Nat.le_of_ble_eq_true rfl⟩ hK (hP) rfl rfl rfl hl.1 rfl (Nat.le_of_ble_eq_true rfl) dX6_giver_5 ⟨Nat.zero_le _, Nat.zero_le _⟩ hS hA hP (fun r1 H locs hr1 hP hS => ?_)
  have hr1 : stK (stX (tbO tb j (tf 0)) (tf 1) (tf 2) (tr 4) row col) row col (fun i k => kf4 ((tr 5) (i * 12 + k))) r1 := hr1
  refine wrVIa (rest := []) (q0 := 0) ⟨hx, hb, hml, hown, hts⟩ (x_settled l G x xa ta a b ga ua la lb lc tg gg xf tf f qf gf uf lf mf nf tr r q gr ur lr mr nr r1  ) mi_yX6_settled mv_yX6_settled ml_X6_65 ⟨rfl, rfl, Nat.le_of_ble_eq_true rfl, Nat.le_of_ble_eq_true rfl⟩ hK hP (hDD _ _ _ _ _ _ _ _ _ _ _ _ _ _ _ _ _) rfl rfl rfl hl.1 rfl (Nat.le_of_ble_eq_true rfl) dX6_giver_8 ⟨Nat.zero_le _, Nat.zero_le _⟩ hS hA (fun r2 w3 H locs hw3 hP hS => ?_)
  obtain ⟨x4, rfl, hw3r⟩ := hw3
  have hP : PP G (xM G x xa ta a b ga ua la lb lc tg gg (upd xf 0 x4) tf f qf gf uf lf mf nf tr r q gr ur lr mr nr) H := hP
  have hw3r : ((r2 = 1 ∧ ((r1 : Int32) = 0)) ∨ (r2 = 0 ∧ ¬ ((r1 : Int32) = 0))) := hw3r
  refine lv_if_ne (tgt := 16) hx hb dX6_giver_11 (by decide) (fun c5 => ?_) (fun c5 => ?_)
  · have b11 := bT hw3r c5
    have hs0 := stK_0 hr1 b11
    obtain ⟨⟨ej, ho⟩, q1, q2⟩ := stX_0 hs0 rfl
    subst ej
    have q1c := q1
    have q2c := q2
    obtain ⟨rw, hrw, t1⟩ := hT1
    obtain ⟨cl, hcl, t2⟩ := hT2
    obtain ⟨bk, hbk, t3⟩ := hT3
    have hT1 : nL 12 (tf 1) := ⟨rw, hrw, t1⟩
    have hT2 : nL 12 (tf 2) := ⟨cl, hcl, t2⟩
    have hT3 : nL 12 (tf 3) := ⟨bk, hbk, t3⟩
    rw [t1] at q1c
    rw [t2] at q2c
    obtain ⟨i, hi, ei⟩ := inR_n (by omega) q1c
    subst ei
    obtain ⟨k, hk, ek⟩ := inR_n (by omega) q2c
    subst ek
    have hkk := stK_k hr1 b11 (show i < 12 by omega) (show k < 12 by omega) rfl rfl
    refine lv_iload hx hb dX6_giver_16 (lv_at hl 4 rfl) ?_
    refine lv_iconst (v := 1) hx hb dX6_giver_18 (by decide) ?_
    refine lv_icmp_lt (tgt := 29) hx hb dX6_giver_19 (by decide) (fun c6 => ?_) (fun c6 => ?_)
    · refine lv_aload_n hx hb dX6_giver_29 rfl (lv_at hl 0 rfl) ?_
      refine lv_bipush (v := 7) hx hb dX6_giver_30 (by decide) ?_
      refine wrVIa (rest := []) (q0 := 0) ⟨hx, hb, hml, hown, hts⟩ (x_settled l G x xa ta a b ga ua la lb lc tg gg (upd xf 0 x4) tf f qf gf uf lf mf nf tr r q gr ur lr mr nr 7  ) mi_yX6_settled mv_yX6_settled ml_X6_65 ⟨rfl, rfl, Nat.le_of_ble_eq_true rfl, Nat.le_of_ble_eq_true rfl⟩ hK hP (hDD _ _ _ _ _ _ _ _ _ _ _ _ _ _ _ _ _) rfl rfl rfl hl.1 rfl (Nat.le_of_ble_eq_true rfl) dX6_giver_32 ⟨Nat.zero_le _, Nat.zero_le _⟩ hS hA (fun r7 w8 H locs hw8 hP hS => ?_)
      obtain ⟨x9, rfl, hw8r⟩ := hw8
      have hP : PP G (xM G x xa ta a b ga ua la lb lc tg gg (upd xf 0 x9) tf f qf gf uf lf mf nf tr r q gr ur lr mr nr) H := hP
      have hw8r : ((r7 = 1 ∧ ((7 : Int32) = 0)) ∨ (r7 = 0 ∧ ¬ ((7 : Int32) = 0))) := hw8r
      exact wr_zret hx hb hr hlocks ((hw8r.elim (fun q9 => Or.inr q9.1) (fun q9 => Or.inl q9.1))) hS hP ⟨(tr 6), (tr 8), x9, rfl, Or.inr ⟨hs0, i, k, by omega, by omega, rfl, rfl, Or.inr ⟨fun h9 => h9.2.1 c6, st7 hw8r, rfl, rfl⟩⟩⟩ dX6_giver_35
    · refine lv_iload hx hb dX6_giver_22 (lv_at hl 4 rfl) ?_
      refine lv_ldc hx hb hown (hts _ mk_X6_103) dX6_giver_24 ?_
      refine lv_icmp_le (tgt := 36) hx hb dX6_giver_26 (by decide) (fun c10 => ?_) (fun c10 => ?_)
      · refine lv_aload_n hx hb dX6_giver_36 rfl (lv_at hl 0 rfl) ?_
        refine lv_aload_n hx hb dX6_giver_37 rfl (lv_at hl 0 rfl) ?_
        refine va_get (D := G.1) (ci := 6) (v := .ref (xa 1)) (C := RX6) (T := TX6) (N := 10) hx hb hts inX6 hown hK.1 hP 0 rfl rfl 1 (by decide) (hts _ mf_X6_15) (fun _ h9 => h9) rfl dX6_giver_38 ?_
        refine lv_iload_n hx hb dX6_giver_41 rfl (lv_at hl 1 rfl) ?_
        refine xaldT hx hb hK hP 1 (j) (b := (ta 0)) rfl (by omega) (by decide) rfl (htg) dX6_giver_42 ?_
        refine lv_iload_n hx hb dX6_giver_43 rfl (lv_at hl 2 rfl) ?_
        refine lv_iload_n hx hb dX6_giver_44 rfl (lv_at hl 3 rfl) ?_
        refine rdS (rest := [.ref (ta 0), .ref x]) ⟨hx, hb, hml, hown, hts⟩ (c_X6_spotOf l G ((nI i)) ((nI k))) mi_yX6_spotOf mst_yX6_spotOf ml_X6_92 ⟨rfl, rfl, Nat.le_of_ble_eq_true rfl, Nat.le_of_ble_eq_true rfl⟩ hK (fun k q h => by simp at h) rfl hl.1 rfl (Nat.le_of_ble_eq_true rfl) dX6_giver_45 ⟨Nat.zero_le _, Nat.zero_le _⟩ hS hA hP (fun r11 H locs hr11 hP hS => ?_)
        obtain rfl : r11 = nI (i * 12 + k) := spot_eq hr11
        refine lv_iload hx hb dX6_giver_48 (lv_at hl 4 rfl) ?_
        refine lawI (rest := [.ref x]) (q0 := 0) ⟨hx, hb, hml, hown, hts⟩ (c_X4_addGiver l G ta tf tr (i * 12 + k) pv (by omega)) mi_yX4_addGiver mv_yX4_addGiver ml_X6_104 ⟨rfl, rfl, Nat.le_of_ble_eq_true rfl, Nat.le_of_ble_eq_true rfl⟩ hK hP (hDD _ _ _ _ _ _ _ _ _ _ _ _ _ _ _ _ _) (pl_perm (xBlk G x xa ta a b ga ua la lb lc tg gg (upd xf 0 x4) tf f qf gf uf lf mf nf tr r q gr ur lr mr nr) (sel := [1]) (oth := [0, 2, 3, 4, 5, 6, 7, 8, 9]) (by decide)) rfl rfl rfl hl.1 rfl (Nat.le_of_ble_eq_true rfl) dX6_giver_50 ⟨Nat.zero_le _, Nat.zero_le _⟩ hS hA (fun r14 w15 H locs hw15 hP hS => ?_)
        obtain ⟨x12, x13, rfl, hag⟩ := ag_post2 rfl hw15
        have hP : PP G (xM G x xa ta a b ga ua la lb lc tg gg (upd xf 0 x4) tf f qf gf uf lf mf nf (up2 (up2 tr 6 x12) 8 x13) r q gr ur lr mr nr) H := (hP rfl (xM G x xa ta a b ga ua la lb lc tg gg (upd xf 0 x4) tf f qf gf uf lf mf nf (up2 (up2 tr 6 x12) 8 x13) r q gr ur lr mr nr) (pl_perm (xBlk G x xa ta a b ga ua la lb lc tg gg (upd xf 0 x4) tf f qf gf uf lf mf nf (up2 (up2 tr 6 x12) 8 x13) r q gr ur lr mr nr) (sel := [1]) (oth := [0, 2, 3, 4, 5, 6, 7, 8, 9]) (by decide))).1
        refine lv_if_eq (tgt := 60) hx hb dX6_giver_53 (by decide) (fun c16 => ?_) (fun c16 => ?_)
        · have hag1 := hag.elim id (fun z => absurd (c16.symm.trans z.1) (by decide))
          refine lv_bipush (v := 8) hx hb dX6_giver_60 (by decide) ?_
          refine wrVIa (rest := []) (q0 := 0) ⟨hx, hb, hml, hown, hts⟩ (x_settled l G x xa ta a b ga ua la lb lc tg gg (upd xf 0 x4) tf f qf gf uf lf mf nf (up2 (up2 tr 6 x12) 8 x13) r q gr ur lr mr nr 8  ) mi_yX6_settled mv_yX6_settled ml_X6_65 ⟨rfl, rfl, Nat.le_of_ble_eq_true rfl, Nat.le_of_ble_eq_true rfl⟩ hK hP (hDD _ _ _ _ _ _ _ _ _ _ _ _ _ _ _ _ _) rfl rfl rfl hl.1 rfl (Nat.le_of_ble_eq_true rfl) dX6_giver_62 ⟨Nat.zero_le _, Nat.zero_le _⟩ hS hA (fun r17 w18 H locs hw18 hP hS => ?_)
          obtain ⟨x19, rfl, hw18r⟩ := hw18
          have hP : PP G (xM G x xa ta a b ga ua la lb lc tg gg (upd xf 0 x19) tf f qf gf uf lf mf nf (up2 (up2 tr 6 x12) 8 x13) r q gr ur lr mr nr) H := hP
          have hw18r : ((r17 = 1 ∧ ((8 : Int32) = 0)) ∨ (r17 = 0 ∧ ¬ ((8 : Int32) = 0))) := hw18r
          exact wr_zret hx hb hr hlocks ((hw18r.elim (fun q9 => Or.inr q9.1) (fun q9 => Or.inl q9.1))) hS hP ⟨x12, x13, x19, rfl, Or.inr ⟨hs0, i, k, by omega, by omega, rfl, rfl, Or.inr ⟨fun h9 => absurd h9.2.2.2 (Nat.not_lt.mpr hag1.2.1), b0_ hw18r (by decide), hag1.2.2.1, hag1.2.2.2⟩⟩⟩ dX6_giver_65
        · have hag1 := hag.elim (fun z => absurd z.1 c16) id
          refine lv_iconst (v := 0) hx hb dX6_giver_56 (by decide) ?_
          refine lv_goto (tgt := 62) hx hb dX6_giver_57 (by decide) ?_
          refine wrVIa (rest := []) (q0 := 0) ⟨hx, hb, hml, hown, hts⟩ (x_settled l G x xa ta a b ga ua la lb lc tg gg (upd xf 0 x4) tf f qf gf uf lf mf nf (up2 (up2 tr 6 x12) 8 x13) r q gr ur lr mr nr 0  ) mi_yX6_settled mv_yX6_settled ml_X6_65 ⟨rfl, rfl, Nat.le_of_ble_eq_true rfl, Nat.le_of_ble_eq_true rfl⟩ hK hP (hDD _ _ _ _ _ _ _ _ _ _ _ _ _ _ _ _ _) rfl rfl rfl hl.1 rfl (Nat.le_of_ble_eq_true rfl) dX6_giver_62 ⟨Nat.zero_le _, Nat.zero_le _⟩ hS hA (fun r20 w21 H locs hw21 hP hS => ?_)
          obtain ⟨x22, rfl, hw21r⟩ := hw21
          have hP : PP G (xM G x xa ta a b ga ua la lb lc tg gg (upd xf 0 x22) tf f qf gf uf lf mf nf (up2 (up2 tr 6 x12) 8 x13) r q gr ur lr mr nr) H := hP
          have hw21r : ((r20 = 1 ∧ ((0 : Int32) = 0)) ∨ (r20 = 0 ∧ ¬ ((0 : Int32) = 0))) := hw21r
          exact wr_zret hx hb hr hlocks ((hw21r.elim (fun q9 => Or.inr q9.1) (fun q9 => Or.inl q9.1))) hS hP ⟨x12, x13, x22, rfl, Or.inr ⟨hs0, i, k, by omega, by omega, rfl, rfl, Or.inl ⟨⟨kf4_i hkk, c6, le_n c10, hag1.2.1⟩, b1_ hw21r, hag1.2.2.1, hag1.2.2.2⟩⟩⟩ dX6_giver_65
      · refine lv_aload_n hx hb dX6_giver_29 rfl (lv_at hl 0 rfl) ?_
        refine lv_bipush (v := 7) hx hb dX6_giver_30 (by decide) ?_
        refine wrVIa (rest := []) (q0 := 0) ⟨hx, hb, hml, hown, hts⟩ (x_settled l G x xa ta a b ga ua la lb lc tg gg (upd xf 0 x4) tf f qf gf uf lf mf nf tr r q gr ur lr mr nr 7  ) mi_yX6_settled mv_yX6_settled ml_X6_65 ⟨rfl, rfl, Nat.le_of_ble_eq_true rfl, Nat.le_of_ble_eq_true rfl⟩ hK hP (hDD _ _ _ _ _ _ _ _ _ _ _ _ _ _ _ _ _) rfl rfl rfl hl.1 rfl (Nat.le_of_ble_eq_true rfl) dX6_giver_32 ⟨Nat.zero_le _, Nat.zero_le _⟩ hS hA (fun r23 w24 H locs hw24 hP hS => ?_)
        obtain ⟨x25, rfl, hw24r⟩ := hw24
        have hP : PP G (xM G x xa ta a b ga ua la lb lc tg gg (upd xf 0 x25) tf f qf gf uf lf mf nf tr r q gr ur lr mr nr) H := hP
        have hw24r : ((r23 = 1 ∧ ((7 : Int32) = 0)) ∨ (r23 = 0 ∧ ¬ ((7 : Int32) = 0))) := hw24r
        exact wr_zret hx hb hr hlocks ((hw24r.elim (fun q9 => Or.inr q9.1) (fun q9 => Or.inl q9.1))) hS hP ⟨(tr 6), (tr 8), x25, rfl, Or.inr ⟨hs0, i, k, by omega, by omega, rfl, rfl, Or.inr ⟨fun h9 => h9.2.2.1 (n_le c10), st7 hw24r, rfl, rfl⟩⟩⟩ dX6_giver_35
  · have b11 := bF hw3r c5
    refine lv_iconst (v := 0) hx hb dX6_giver_14 (by decide) ?_
    exact wr_zret hx hb hr hlocks (Or.inl rfl) hS hP ⟨(tr 6), (tr 8), x4, rfl, atP_n hr1 b11 ⟨rfl, rfl, rfl⟩ (fun i k h => Or.inr ⟨fun z => h (kf4_g z.1), rfl, rfl, rfl⟩)⟩ dX6_giver_15
set_option maxHeartbeats 4000000 in
set_option maxRecDepth 100000 in
theorem x_clear (l : Launch) (G : GG) (x : Nat) (xa ta a b ga ua la lb lc : Nat → Nat) (tg gg : Nat → Option Nat) (xf tf f qf gf uf lf mf nf : Nat → Int32) (tr r q gr ur lr mr nr : Nat → Nat → Int32) (tb : Int32) (row : Int32) (col : Int32) (j : Nat) (hj : j < 6) (hjt : tbJ tb j) (htg : tg j = some (ta 0)) (hT1 : nL 12 (tf 1)) (hT2 : nL 12 (tf 2)) (hT3 : nL 12 (tf 3)) (hT4 : nOK 12 12 (tr 4)) : WrI l yX6_clear cX6_clear 4 (some .boolean) ({ frames := 4, cells := 0, slots := 0, locals := 93 }) G (xM G x xa ta a b ga ua la lb lc tg gg xf tf f qf gf uf lf mf nf tr r q gr ur lr mr nr) [.ref x, .int tb, .int row, .int col] (fun qz w => ∃ (n_tr_5 : Nat → Int32) (n_tr_6 : Nat → Int32) (n_tr_7 : Nat → Int32) (n_tr_8 : Nat → Int32) (n_xf_0 : Int32), w = xM G x xa ta a b ga ua la lb lc tg gg (upd xf 0 n_xf_0) tf f qf gf uf lf mf nf (up2 (up2 (up2 (up2 tr 5 n_tr_5) 6 n_tr_6) 7 n_tr_7) 8 n_tr_8) r q gr ur lr mr nr ∧ atP (stX (tbO tb j (tf 0)) (tf 1) (tf 2) (tr 4) row col) row col (fun i k => sv (¬ (tr 5) (i * 12 + k) = 0) (qz = 1 ∧ puX (i * 12 + k) 0 0 (tr 5) (tr 6) (tr 7) (tr 8) n_tr_5 n_tr_6 n_tr_7 n_tr_8) (qz = 0 ∧ sm4 (tr 5) (tr 6) (tr 7) (tr 8) n_tr_5 n_tr_6 n_tr_7 n_tr_8)) (qz = 0 ∧ sm4 (tr 5) (tr 6) (tr 7) (tr 8) n_tr_5 n_tr_6 n_tr_7 n_tr_8)) := by
  refine wr_entryI (by decide +kernel) (Nat.le_of_ble_eq_true rfl) ?_
  intro p e s m below meth c A C0 hP hK hD hA ls hl
  have hS : va_S A s.heap s.heap [] := va_S.rf
  obtain ⟨hx, hb, hml, hown, hts, hr, hlocks, hin⟩ := C0
  have hown : s.vm.findClass RX6 = some m.cls := hown
  have hDD : ∀ xf' tf' f' qf' gf' uf' lf' mf' nf' tr' r' q' gr' ur' lr' mr' nr', va_D A (xM G x xa ta a b ga ua la lb lc tg gg xf' tf' f' qf' gf' uf' lf' mf' nf' tr' r' q' gr' ur' lr' mr' nr') := fun xf' tf' f' qf' gf' uf' lf' mf' nf' tr' r' q' gr' ur' lr' mr' nr' => D_same hD rfl
  have hl : lv_has ls 4 [(0, .ref x), (1, .int tb), (2, .int row), (3, .int col)] := hl
  refine lv_aload_n hx hb dX6_clear_0 rfl (lv_at hl 0 rfl) ?_
  refine lv_aload_n hx hb dX6_clear_1 rfl (lv_at hl 0 rfl) ?_
  refine lv_iload_n hx hb dX6_clear_2 rfl (lv_at hl 1 rfl) ?_
  refine lv_iload_n hx hb dX6_clear_3 rfl (lv_at hl 2 rfl) ?_
  refine lv_iload_n hx hb dX6_clear_4 rfl (lv_at hl 3 rfl) ?_
  refine rdV (rest := [.ref x]) (q0 := 0) ⟨hx, hb, hml, hown, hts⟩ (x_filledStatus l G x xa ta a b ga ua la lb lc tg gg xf tf f qf gf uf lf mf nf tr r q gr ur lr mr nr tb row col j (by omega) hjt htg hT1 hT2 hT3) mi_yX6_filledStatus mv_yX6_filledStatus ml_X6_107 ⟨rfl, rfl, Nat.le_of_ble_eq_true rfl, Nat.le_of_ble_eq_true rfl⟩ hK (hP) rfl rfl rfl hl.1 rfl (Nat.le_of_ble_eq_true rfl) dX6_clear_5 ⟨Nat.zero_le _, Nat.zero_le _⟩ hS hA hP (fun r1 H locs hr1 hP hS => ?_)
  have hr1 : stK (stX (tbO tb j (tf 0)) (tf 1) (tf 2) (tr 4) row col) row col (fun i k => kf1 ((tr 5) (i * 12 + k))) r1 := hr1
  refine wrVIa (rest := []) (q0 := 0) ⟨hx, hb, hml, hown, hts⟩ (x_settled l G x xa ta a b ga ua la lb lc tg gg xf tf f qf gf uf lf mf nf tr r q gr ur lr mr nr r1  ) mi_yX6_settled mv_yX6_settled ml_X6_65 ⟨rfl, rfl, Nat.le_of_ble_eq_true rfl, Nat.le_of_ble_eq_true rfl⟩ hK hP (hDD _ _ _ _ _ _ _ _ _ _ _ _ _ _ _ _ _) rfl rfl rfl hl.1 rfl (Nat.le_of_ble_eq_true rfl) dX6_clear_8 ⟨Nat.zero_le _, Nat.zero_le _⟩ hS hA (fun r2 w3 H locs hw3 hP hS => ?_)
  obtain ⟨x4, rfl, hw3r⟩ := hw3
  have hP : PP G (xM G x xa ta a b ga ua la lb lc tg gg (upd xf 0 x4) tf f qf gf uf lf mf nf tr r q gr ur lr mr nr) H := hP
  have hw3r : ((r2 = 1 ∧ ((r1 : Int32) = 0)) ∨ (r2 = 0 ∧ ¬ ((r1 : Int32) = 0))) := hw3r
  refine lv_if_ne (tgt := 16) hx hb dX6_clear_11 (by decide) (fun c5 => ?_) (fun c5 => ?_)
  · have b11 := bT hw3r c5
    have hs0 := stK_0 hr1 b11
    obtain ⟨⟨ej, ho⟩, q1, q2⟩ := stX_0 hs0 rfl
    subst ej
    have q1c := q1
    have q2c := q2
    obtain ⟨rw, hrw, t1⟩ := hT1
    obtain ⟨cl, hcl, t2⟩ := hT2
    obtain ⟨bk, hbk, t3⟩ := hT3
    have hT1 : nL 12 (tf 1) := ⟨rw, hrw, t1⟩
    have hT2 : nL 12 (tf 2) := ⟨cl, hcl, t2⟩
    have hT3 : nL 12 (tf 3) := ⟨bk, hbk, t3⟩
    rw [t1] at q1c
    rw [t2] at q2c
    obtain ⟨i, hi, ei⟩ := inR_n (by omega) q1c
    subst ei
    obtain ⟨k, hk, ek⟩ := inR_n (by omega) q2c
    subst ek
    have hkk := stK_k hr1 b11 (show i < 12 by omega) (show k < 12 by omega) rfl rfl
    refine lv_aload_n hx hb dX6_clear_16 rfl (lv_at hl 0 rfl) ?_
    refine va_get (D := G.1) (ci := 6) (v := .ref (xa 1)) (C := RX6) (T := TX6) (N := 10) hx hb hts inX6 hown hK.1 hP 0 rfl rfl 1 (by decide) (hts _ mf_X6_15) (fun _ h9 => h9) rfl dX6_clear_17 ?_
    refine lv_iload_n hx hb dX6_clear_20 rfl (lv_at hl 1 rfl) ?_
    refine xaldT hx hb hK hP 1 (j) (b := (ta 0)) rfl (by omega) (by decide) rfl (htg) dX6_clear_21 ?_
    refine lv_iload_n hx hb dX6_clear_22 rfl (lv_at hl 2 rfl) ?_
    refine lv_iload_n hx hb dX6_clear_23 rfl (lv_at hl 3 rfl) ?_
    refine rdS (rest := [.ref (ta 0)]) ⟨hx, hb, hml, hown, hts⟩ (c_X6_spotOf l G ((nI i)) ((nI k))) mi_yX6_spotOf mst_yX6_spotOf ml_X6_92 ⟨rfl, rfl, Nat.le_of_ble_eq_true rfl, Nat.le_of_ble_eq_true rfl⟩ hK (fun k q h => by simp at h) rfl hl.1 rfl (Nat.le_of_ble_eq_true rfl) dX6_clear_24 ⟨Nat.zero_le _, Nat.zero_le _⟩ hS hA hP (fun r6 H locs hr6 hP hS => ?_)
    obtain rfl : r6 = nI (i * 12 + k) := spot_eq hr6
    refine lv_iconst (v := 0) hx hb dX6_clear_27 (by decide) ?_
    refine lv_iconst (v := 0) hx hb dX6_clear_28 (by decide) ?_
    refine lawV (rest := []) (q0 := 0) ⟨hx, hb, hml, hown, hts⟩ (e_X4_put l G ta tf tr (i * 12 + k) 0 0 (by omega)) mi_yX4_put mv_yX4_put ml_X6_96 ⟨rfl, rfl, Nat.le_of_ble_eq_true rfl, Nat.le_of_ble_eq_true rfl⟩ hK hP (hDD _ _ _ _ _ _ _ _ _ _ _ _ _ _ _ _ _) (pl_perm (xBlk G x xa ta a b ga ua la lb lc tg gg (upd xf 0 x4) tf f qf gf uf lf mf nf tr r q gr ur lr mr nr) (sel := [1]) (oth := [0, 2, 3, 4, 5, 6, 7, 8, 9]) (by decide)) rfl rfl rfl hl.1 rfl (Nat.le_of_ble_eq_true rfl) dX6_clear_29 ⟨Nat.zero_le _, Nat.zero_le _⟩ hS hA (fun w12 H locs hw12 hP hS => ?_)
    obtain ⟨x7, x8, x9, x10, rfl, g5, g6, g7, g8⟩ := hw12
    have hP : PP G (xM G x xa ta a b ga ua la lb lc tg gg (upd xf 0 x4) tf f qf gf uf lf mf nf (up2 (up2 (up2 (up2 tr 5 x7) 6 x8) 7 x9) 8 x10) r q gr ur lr mr nr) H := (hP rfl (xM G x xa ta a b ga ua la lb lc tg gg (upd xf 0 x4) tf f qf gf uf lf mf nf (up2 (up2 (up2 (up2 tr 5 x7) 6 x8) 7 x9) 8 x10) r q gr ur lr mr nr) (pl_perm (xBlk G x xa ta a b ga ua la lb lc tg gg (upd xf 0 x4) tf f qf gf uf lf mf nf (up2 (up2 (up2 (up2 tr 5 x7) 6 x8) 7 x9) 8 x10) r q gr ur lr mr nr) (sel := [1]) (oth := [0, 2, 3, 4, 5, 6, 7, 8, 9]) (by decide))).1
    refine lv_iconst (v := 1) hx hb dX6_clear_32 (by decide) ?_
    exact wr_zret hx hb hr hlocks (Or.inr rfl) hS hP ⟨x7, x8, x9, x10, x4, rfl, Or.inr ⟨hs0, i, k, by omega, by omega, rfl, rfl, Or.inl ⟨kf1_i hkk, rfl, g5, g6, g7, g8⟩⟩⟩ dX6_clear_33
  · have b11 := bF hw3r c5
    refine lv_iconst (v := 0) hx hb dX6_clear_14 (by decide) ?_
    exact wr_zret hx hb hr hlocks (Or.inl rfl) hS hP ⟨(tr 5), (tr 6), (tr 7), (tr 8), x4, rfl, atP_n hr1 b11 ⟨rfl, rfl, rfl, rfl, rfl⟩ (fun i k h => Or.inr ⟨fun z => h (kf1_g z), rfl, rfl, rfl, rfl, rfl⟩)⟩ dX6_clear_15
set_option maxHeartbeats 4000000 in
set_option maxRecDepth 100000 in
theorem x_tear (l : Launch) (G : GG) (x : Nat) (xa ta a b ga ua la lb lc : Nat → Nat) (tg gg : Nat → Option Nat) (xf tf f qf gf uf lf mf nf : Nat → Int32) (tr r q gr ur lr mr nr : Nat → Nat → Int32) (tb : Int32) (row : Int32) (np : Int32) (j : Nat) (hj : j < 6) (hjt : tbJ tb j) (htg : tg j = some (ta 0)) (hT1 : nL 12 (tf 1)) (hT2 : nL 12 (tf 2)) (hT3 : nL 12 (tf 3)) (hT4 : nOK 12 12 (tr 4)) : WrI l yX6_tear cX6_tear 5 (some .boolean) ({ frames := 2, cells := 0, slots := 0, locals := 47 }) G (xM G x xa ta a b ga ua la lb lc tg gg xf tf f qf gf uf lf mf nf tr r q gr ur lr mr nr) [.ref x, .int tb, .int row, .int np] (fun qz w => ∃ (n_tr_4 : Nat → Int32) (n_tr_5 : Nat → Int32) (n_tr_6 : Nat → Int32) (n_tr_7 : Nat → Int32) (n_tr_8 : Nat → Int32) (n_xf_0 : Int32), w = xM G x xa ta a b ga ua la lb lc tg gg (upd xf 0 n_xf_0) tf f qf gf uf lf mf nf (up2 (up2 (up2 (up2 (up2 tr 4 n_tr_4) 5 n_tr_5) 6 n_tr_6) 7 n_tr_7) 8 n_tr_8) r q gr ur lr mr nr ∧ (teX (tbO tb j (tf 0)) (tf 1) (tr 4) row np qz n_tr_4 ∧ teRX row np qz (tr 5) (tr 6) (tr 7) (tr 8) n_tr_5 n_tr_6 n_tr_7 n_tr_8) ∧ (nOK 12 12 n_tr_4)) := by
  refine wr_entryI (by decide +kernel) (Nat.le_of_ble_eq_true rfl) ?_
  intro p e s m below meth c A C0 hP hK hD hA ls hl
  have hS : va_S A s.heap s.heap [] := va_S.rf
  obtain ⟨hx, hb, hml, hown, hts, hr, hlocks, hin⟩ := C0
  have hown : s.vm.findClass RX6 = some m.cls := hown
  have hDD : ∀ xf' tf' f' qf' gf' uf' lf' mf' nf' tr' r' q' gr' ur' lr' mr' nr', va_D A (xM G x xa ta a b ga ua la lb lc tg gg xf' tf' f' qf' gf' uf' lf' mf' nf' tr' r' q' gr' ur' lr' mr' nr') := fun xf' tf' f' qf' gf' uf' lf' mf' nf' tr' r' q' gr' ur' lr' mr' nr' => D_same hD rfl
  have hl : lv_has ls 5 [(0, .ref x), (1, .int tb), (2, .int row), (3, .int np)] := hl
  refine lv_aload_n hx hb dX6_tear_0 rfl (lv_at hl 0 rfl) ?_
  refine lv_aload_n hx hb dX6_tear_1 rfl (lv_at hl 0 rfl) ?_
  refine lv_iload_n hx hb dX6_tear_2 rfl (lv_at hl 1 rfl) ?_
  refine lv_iload_n hx hb dX6_tear_3 rfl (lv_at hl 2 rfl) ?_
  refine rdV (rest := [.ref x]) (q0 := 0) ⟨hx, hb, hml, hown, hts⟩ (x_rowStatus l G x xa ta a b ga ua la lb lc tg gg xf tf f qf gf uf lf mf nf tr r q gr ur lr mr nr tb row j (by omega) hjt htg) mi_yX6_rowStatus mv_yX6_rowStatus ml_X6_110 ⟨rfl, rfl, Nat.le_of_ble_eq_true rfl, Nat.le_of_ble_eq_true rfl⟩ hK (hP) rfl rfl rfl hl.1 rfl (Nat.le_of_ble_eq_true rfl) dX6_tear_4 ⟨Nat.zero_le _, Nat.zero_le _⟩ hS hA hP (fun r1 H locs hr1 hP hS => ?_)
  have hr1 : rwQ (tbO tb j (tf 0)) (tf 1) row r1 := hr1
  refine wrVIa (rest := []) (q0 := 0) ⟨hx, hb, hml, hown, hts⟩ (x_settled l G x xa ta a b ga ua la lb lc tg gg xf tf f qf gf uf lf mf nf tr r q gr ur lr mr nr r1  ) mi_yX6_settled mv_yX6_settled ml_X6_65 ⟨rfl, rfl, Nat.le_of_ble_eq_true rfl, Nat.le_of_ble_eq_true rfl⟩ hK hP (hDD _ _ _ _ _ _ _ _ _ _ _ _ _ _ _ _ _) rfl rfl rfl hl.1 rfl (Nat.le_of_ble_eq_true rfl) dX6_tear_7 ⟨Nat.zero_le _, Nat.zero_le _⟩ hS hA (fun r2 w3 H locs hw3 hP hS => ?_)
  obtain ⟨x4, rfl, hw3r⟩ := hw3
  have hP : PP G (xM G x xa ta a b ga ua la lb lc tg gg (upd xf 0 x4) tf f qf gf uf lf mf nf tr r q gr ur lr mr nr) H := hP
  have hw3r : ((r2 = 1 ∧ ((r1 : Int32) = 0)) ∨ (r2 = 0 ∧ ¬ ((r1 : Int32) = 0))) := hw3r
  refine lv_if_ne (tgt := 15) hx hb dX6_tear_10 (by decide) (fun c5 => ?_) (fun c5 => ?_)
  · have b10 := bT hw3r c5
    obtain ⟨⟨ej, ho⟩, q1⟩ := rwQ_0 hr1 b10
    subst ej
    have q1c := q1
    obtain ⟨rw, hrw, t1⟩ := hT1
    obtain ⟨cl, hcl, t2⟩ := hT2
    obtain ⟨bk, hbk, t3⟩ := hT3
    have hT1 : nL 12 (tf 1) := ⟨rw, hrw, t1⟩
    have hT2 : nL 12 (tf 2) := ⟨cl, hcl, t2⟩
    have hT3 : nL 12 (tf 3) := ⟨bk, hbk, t3⟩
    rw [t1] at q1c
    obtain ⟨i, hi, ei⟩ := inR_n (by omega) q1c
    subst ei
    refine lv_aload_n hx hb dX6_tear_15 rfl (lv_at hl 0 rfl) ?_
    refine va_get (D := G.1) (ci := 6) (v := .ref (xa 1)) (C := RX6) (T := TX6) (N := 10) hx hb hts inX6 hown hK.1 hP 0 rfl rfl 1 (by decide) (hts _ mf_X6_15) (fun _ h9 => h9) rfl dX6_tear_16 ?_
    refine lv_iload_n hx hb dX6_tear_19 rfl (lv_at hl 1 rfl) ?_
    refine xaldT hx hb hK hP 1 (j) (b := (ta 0)) rfl (by omega) (by decide) rfl (htg) dX6_tear_20 ?_
    refine va_get (D := G.1) (ci := 4) (v := .ref (ta 4)) (C := RX4) (T := TX4) (N := 12) hx hb hts inX4 hown hK.1 hP 2 rfl rfl 4 (by decide) (hts _ mf_X6_113) (fun _ h9 => h9) rfl dX6_tear_21 ?_
    refine lv_iload_n hx hb dX6_tear_24 rfl (lv_at hl 2 rfl) ?_
    refine xiald (f := (tr 4)) hx hb hK hP 3 (i) (rfl) (by omega) (by decide) rfl dX6_tear_25 ?_
    refine lv_topi (fun v6 ev6 => ?_)
    obtain ⟨pn, hpn, epn⟩ := hT4 i (by omega)
    obtain rfl : v6 = nI (pn) := ev6.trans (epn)
    refine lv_istore (lv' := [(4, .int (nI (pn))), (0, .ref x), (1, .int (nI j)), (2, .int (nI i)), (3, .int np)]) hx hb dX6_tear_26 hl (by decide) rfl (fun ls hl => ?_)
    refine lv_iload hx hb dX6_tear_28 (lv_at hl 0 rfl) ?_
    refine lv_if_ne (tgt := 39) hx hb dX6_tear_30 (by decide) (fun c7 => ?_) (fun c7 => ?_)
    · have b30 := qeq_f (a := (pn)) (b := 0) (by omega) (by omega) c7
      refine lv_iload_n hx hb dX6_tear_39 rfl (lv_at hl 4 rfl) ?_
      refine lv_iload hx hb dX6_tear_40 (lv_at hl 0 rfl) ?_
      refine lv_icmp_le (tgt := 51) hx hb dX6_tear_42 (by decide) (fun c8 => ?_) (fun c8 => ?_)
      · refine lv_iload_n hx hb dX6_tear_51 rfl (lv_at hl 4 rfl) ?_
        refine lv_if_ge (tgt := 62) hx hb dX6_tear_52 (by decide) (fun c9 => ?_) (fun c9 => ?_)
        · obtain ⟨n, hn, en⟩ := nI_le_n (x := np) (n := pn) (by omega) (Int32.not_lt.mpr c9) (le_n c8)
          subst en
          refine lv_aload_n hx hb dX6_tear_62 rfl (lv_at hl 1 rfl) ?_
          refine va_get (D := G.1) (ci := 6) (v := .ref (xa 1)) (C := RX6) (T := TX6) (N := 10) hx hb hts inX6 hown hK.1 hP 0 rfl rfl 1 (by decide) (hts _ mf_X6_15) (fun _ h9 => h9) rfl dX6_tear_63 ?_
          refine lv_iload_n hx hb dX6_tear_66 rfl (lv_at hl 2 rfl) ?_
          refine xaldT hx hb hK hP 1 (j) (b := (ta 0)) rfl (by omega) (by decide) rfl (htg) dX6_tear_67 ?_
          refine lv_iload_n hx hb dX6_tear_68 rfl (lv_at hl 3 rfl) ?_
          refine lv_iload_n hx hb dX6_tear_69 rfl (lv_at hl 4 rfl) ?_
          refine lawV (rest := []) (q0 := 0) ⟨hx, hb, hml, hown, hts⟩ (c_X4_shorten l G ta tf tr i n pn (by omega) (by omega) hpn epn) mi_yX4_shorten mv_yX4_shorten ml_X6_116 ⟨rfl, rfl, Nat.le_of_ble_eq_true rfl, Nat.le_of_ble_eq_true rfl⟩ hK hP (hDD _ _ _ _ _ _ _ _ _ _ _ _ _ _ _ _ _) (pl_perm (xBlk G x xa ta a b ga ua la lb lc tg gg (upd xf 0 x4) tf f qf gf uf lf mf nf tr r q gr ur lr mr nr) (sel := [1]) (oth := [0, 2, 3, 4, 5, 6, 7, 8, 9]) (by decide)) rfl rfl rfl hl.1 rfl (Nat.le_of_ble_eq_true rfl) dX6_tear_70 ⟨Nat.zero_le _, Nat.zero_le _⟩ hS hA (fun w15 H locs hw15 hP hS => ?_)
          obtain rfl := hw15
          have hP : PP G (xM G x xa ta a b ga ua la lb lc tg gg (upd xf 0 x4) tf f qf gf uf lf mf nf (up2 (up2 (up2 (up2 (up2 tr 4 (upd (tr 4) i (nI n))) 5 (rgF (tr 5) 0 (i * 12 + n) (pn - n))) 6 (rgF (tr 6) 0 (i * 12 + n) (pn - n))) 7 (rgF (tr 7) 0 (i * 12 + n) (pn - n))) 8 (rgF (tr 8) 0 ((i * 12 + n) * 6) ((pn - n) * 6))) r q gr ur lr mr nr) H := (hP rfl (xM G x xa ta a b ga ua la lb lc tg gg (upd xf 0 x4) tf f qf gf uf lf mf nf (up2 (up2 (up2 (up2 (up2 tr 4 (upd (tr 4) i (nI n))) 5 (rgF (tr 5) 0 (i * 12 + n) (pn - n))) 6 (rgF (tr 6) 0 (i * 12 + n) (pn - n))) 7 (rgF (tr 7) 0 (i * 12 + n) (pn - n))) 8 (rgF (tr 8) 0 ((i * 12 + n) * 6) ((pn - n) * 6))) r q gr ur lr mr nr) (pl_perm (xBlk G x xa ta a b ga ua la lb lc tg gg (upd xf 0 x4) tf f qf gf uf lf mf nf (up2 (up2 (up2 (up2 (up2 tr 4 (upd (tr 4) i (nI n))) 5 (rgF (tr 5) 0 (i * 12 + n) (pn - n))) 6 (rgF (tr 6) 0 (i * 12 + n) (pn - n))) 7 (rgF (tr 7) 0 (i * 12 + n) (pn - n))) 8 (rgF (tr 8) 0 ((i * 12 + n) * 6) ((pn - n) * 6))) r q gr ur lr mr nr) (sel := [1]) (oth := [0, 2, 3, 4, 5, 6, 7, 8, 9]) (by decide))).1
          have hT4 : nOK 12 12 (upd (tr 4) i (nI n)) := nOK_u hT4 (by omega)
          refine lv_iconst (v := 1) hx hb dX6_tear_73 (by decide) ?_
          exact wr_zret hx hb hr hlocks (Or.inr rfl) hS hP ⟨(upd (tr 4) i (nI n)), (rgF (tr 5) 0 (i * 12 + n) (pn - n)), (rgF (tr 6) 0 (i * 12 + n) (pn - n)), (rgF (tr 7) 0 (i * 12 + n) (pn - n)), (rgF (tr 8) 0 ((i * 12 + n) * 6) ((pn - n) * 6)), x4, rfl, ⟨Or.inl ⟨rfl, i, ⟨⟨rfl, ho⟩, by omega, rfl, q1, fun h9 => c7 (epn.symm.trans h9), by rw [epn]; exact le_n c8, Int32.not_lt.mpr c9⟩, rfl⟩, Or.inr ⟨rfl, i, n, pn, by omega, by omega, rfl, rfl, rfl, rfl, rfl, rfl⟩⟩, hT4⟩ dX6_tear_74
        · refine lv_aload_n hx hb dX6_tear_55 rfl (lv_at hl 1 rfl) ?_
          refine lv_bipush (v := 7) hx hb dX6_tear_56 (by decide) ?_
          refine wrVIa (rest := []) (q0 := 0) ⟨hx, hb, hml, hown, hts⟩ (x_settled l G x xa ta a b ga ua la lb lc tg gg (upd xf 0 x4) tf f qf gf uf lf mf nf tr r q gr ur lr mr nr 7  ) mi_yX6_settled mv_yX6_settled ml_X6_65 ⟨rfl, rfl, Nat.le_of_ble_eq_true rfl, Nat.le_of_ble_eq_true rfl⟩ hK hP (hDD _ _ _ _ _ _ _ _ _ _ _ _ _ _ _ _ _) rfl rfl rfl hl.1 rfl (Nat.le_of_ble_eq_true rfl) dX6_tear_58 ⟨Nat.zero_le _, Nat.zero_le _⟩ hS hA (fun r16 w17 H locs hw17 hP hS => ?_)
          obtain ⟨x18, rfl, hw17r⟩ := hw17
          have hP : PP G (xM G x xa ta a b ga ua la lb lc tg gg (upd xf 0 x18) tf f qf gf uf lf mf nf tr r q gr ur lr mr nr) H := hP
          have hw17r : ((r16 = 1 ∧ ((7 : Int32) = 0)) ∨ (r16 = 0 ∧ ¬ ((7 : Int32) = 0))) := hw17r
          exact wr_zret hx hb hr hlocks ((hw17r.elim (fun q9 => Or.inr q9.1) (fun q9 => Or.inl q9.1))) hS hP ⟨(tr 4), (tr 5), (tr 6), (tr 7), (tr 8), x18, rfl, ⟨Or.inr ⟨b0_ hw17r (by decide), fun h => (by obtain ⟨i2, g1, g2, g3, g4, g5, g6, g7⟩ := h; have e2 := (nI_eq (by omega) (by omega)).mp g3; subst e2; exact g7 (n_le c9)), rfl⟩, Or.inl ⟨b0_ hw17r (by decide), rfl, rfl, rfl, rfl⟩⟩, hT4⟩ dX6_tear_61
      · refine lv_aload_n hx hb dX6_tear_45 rfl (lv_at hl 1 rfl) ?_
        refine lv_iconst (v := 4) hx hb dX6_tear_46 (by decide) ?_
        refine wrVIa (rest := []) (q0 := 0) ⟨hx, hb, hml, hown, hts⟩ (x_settled l G x xa ta a b ga ua la lb lc tg gg (upd xf 0 x4) tf f qf gf uf lf mf nf tr r q gr ur lr mr nr 4  ) mi_yX6_settled mv_yX6_settled ml_X6_65 ⟨rfl, rfl, Nat.le_of_ble_eq_true rfl, Nat.le_of_ble_eq_true rfl⟩ hK hP (hDD _ _ _ _ _ _ _ _ _ _ _ _ _ _ _ _ _) rfl rfl rfl hl.1 rfl (Nat.le_of_ble_eq_true rfl) dX6_tear_47 ⟨Nat.zero_le _, Nat.zero_le _⟩ hS hA (fun r19 w20 H locs hw20 hP hS => ?_)
        obtain ⟨x21, rfl, hw20r⟩ := hw20
        have hP : PP G (xM G x xa ta a b ga ua la lb lc tg gg (upd xf 0 x21) tf f qf gf uf lf mf nf tr r q gr ur lr mr nr) H := hP
        have hw20r : ((r19 = 1 ∧ ((4 : Int32) = 0)) ∨ (r19 = 0 ∧ ¬ ((4 : Int32) = 0))) := hw20r
        exact wr_zret hx hb hr hlocks ((hw20r.elim (fun q9 => Or.inr q9.1) (fun q9 => Or.inl q9.1))) hS hP ⟨(tr 4), (tr 5), (tr 6), (tr 7), (tr 8), x21, rfl, ⟨Or.inr ⟨b0_ hw20r (by decide), fun h => (by obtain ⟨i2, g1, g2, g3, g4, g5, g6, g7⟩ := h; have e2 := (nI_eq (by omega) (by omega)).mp g3; subst e2; exact g6 (by rw [epn]; exact n_le c8)), rfl⟩, Or.inl ⟨b0_ hw20r (by decide), rfl, rfl, rfl, rfl⟩⟩, hT4⟩ dX6_tear_50
    · have b30 := qeq_t (a := (pn)) (b := 0) (by omega) (by omega) c7
      refine lv_aload_n hx hb dX6_tear_33 rfl (lv_at hl 1 rfl) ?_
      refine lv_iconst (v := 3) hx hb dX6_tear_34 (by decide) ?_
      refine wrVIa (rest := []) (q0 := 0) ⟨hx, hb, hml, hown, hts⟩ (x_settled l G x xa ta a b ga ua la lb lc tg gg (upd xf 0 x4) tf f qf gf uf lf mf nf tr r q gr ur lr mr nr 3  ) mi_yX6_settled mv_yX6_settled ml_X6_65 ⟨rfl, rfl, Nat.le_of_ble_eq_true rfl, Nat.le_of_ble_eq_true rfl⟩ hK hP (hDD _ _ _ _ _ _ _ _ _ _ _ _ _ _ _ _ _) rfl rfl rfl hl.1 rfl (Nat.le_of_ble_eq_true rfl) dX6_tear_35 ⟨Nat.zero_le _, Nat.zero_le _⟩ hS hA (fun r22 w23 H locs hw23 hP hS => ?_)
      obtain ⟨x24, rfl, hw23r⟩ := hw23
      have hP : PP G (xM G x xa ta a b ga ua la lb lc tg gg (upd xf 0 x24) tf f qf gf uf lf mf nf tr r q gr ur lr mr nr) H := hP
      have hw23r : ((r22 = 1 ∧ ((3 : Int32) = 0)) ∨ (r22 = 0 ∧ ¬ ((3 : Int32) = 0))) := hw23r
      exact wr_zret hx hb hr hlocks ((hw23r.elim (fun q9 => Or.inr q9.1) (fun q9 => Or.inl q9.1))) hS hP ⟨(tr 4), (tr 5), (tr 6), (tr 7), (tr 8), x24, rfl, ⟨Or.inr ⟨b0_ hw23r (by decide), fun h => (by obtain ⟨i2, g1, g2, g3, g4, g5, g6, g7⟩ := h; have e2 := (nI_eq (by omega) (by omega)).mp g3; subst e2; exact g5 (epn.trans c7)), rfl⟩, Or.inl ⟨b0_ hw23r (by decide), rfl, rfl, rfl, rfl⟩⟩, hT4⟩ dX6_tear_38
  · have b10 := bF hw3r c5
    refine lv_iconst (v := 0) hx hb dX6_tear_13 (by decide) ?_
    exact wr_zret hx hb hr hlocks (Or.inl rfl) hS hP ⟨(tr 4), (tr 5), (tr 6), (tr 7), (tr 8), x4, rfl, ⟨Or.inr ⟨rfl, fun ⟨_, h⟩ => rwQ_n hr1 b10 h.1 h.2.2.2.1, rfl⟩, Or.inl ⟨rfl, rfl, rfl, rfl, rfl⟩⟩, hT4⟩ dX6_tear_14
set_option maxHeartbeats 4000000 in
set_option maxRecDepth 100000 in
theorem x_block (l : Launch) (G : GG) (x : Nat) (xa ta a b ga ua la lb lc : Nat → Nat) (tg gg : Nat → Option Nat) (xf tf f qf gf uf lf mf nf : Nat → Int32) (tr r q gr ur lr mr nr : Nat → Nat → Int32) (tb : Int32) (fi : Int32) (li : Int32) (j : Nat) (hj : j < 6) (hjt : tbJ tb j) (htg : tg j = some (ta 0)) (hT1 : nL 12 (tf 1)) (hT2 : nL 12 (tf 2)) (hT3 : nL 12 (tf 3)) (hT4 : nOK 12 12 (tr 4)) : WrI l yX6_block cX6_block 5 (some .int) ({ frames := 1, cells := 0, slots := 0, locals := 27 }) G (xM G x xa ta a b ga ua la lb lc tg gg xf tf f qf gf uf lf mf nf tr r q gr ur lr mr nr) [.ref x, .int tb, .int fi, .int li] (fun qz w => ∃ (n_tf_3 : Int32) (n_tr_10 : Nat → Int32) (n_tr_11 : Nat → Int32) (n_xf_0 : Int32), w = xM G x xa ta a b ga ua la lb lc tg gg (upd xf 0 n_xf_0) (upd tf 3 n_tf_3) f qf gf uf lf mf nf (up2 (up2 tr 10 n_tr_10) 11 n_tr_11) r q gr ur lr mr nr ∧ blX (tbO tb j (tf 0)) (tf 1) (tf 3) (tr 10) (tr 11) fi li qz n_tf_3 n_tr_10 n_tr_11 ∧ (nL 12 n_tf_3)) := by
  refine wr_entryI (by decide +kernel) (Nat.le_of_ble_eq_true rfl) ?_
  intro p e s m below meth c A C0 hP hK hD hA ls hl
  have hS : va_S A s.heap s.heap [] := va_S.rf
  obtain ⟨hx, hb, hml, hown, hts, hr, hlocks, hin⟩ := C0
  have hown : s.vm.findClass RX6 = some m.cls := hown
  have hDD : ∀ xf' tf' f' qf' gf' uf' lf' mf' nf' tr' r' q' gr' ur' lr' mr' nr', va_D A (xM G x xa ta a b ga ua la lb lc tg gg xf' tf' f' qf' gf' uf' lf' mf' nf' tr' r' q' gr' ur' lr' mr' nr') := fun xf' tf' f' qf' gf' uf' lf' mf' nf' tr' r' q' gr' ur' lr' mr' nr' => D_same hD rfl
  have hl : lv_has ls 5 [(0, .ref x), (1, .int tb), (2, .int fi), (3, .int li)] := hl
  refine lv_aload_n hx hb dX6_block_0 rfl (lv_at hl 0 rfl) ?_
  refine lv_aload_n hx hb dX6_block_1 rfl (lv_at hl 0 rfl) ?_
  refine lv_iload_n hx hb dX6_block_2 rfl (lv_at hl 1 rfl) ?_
  refine rdV (rest := [.ref x]) (q0 := 0) ⟨hx, hb, hml, hown, hts⟩ (x_tableStatus l G x xa ta a b ga ua la lb lc tg gg xf tf f qf gf uf lf mf nf tr r q gr ur lr mr nr tb j (by omega) hjt htg) mi_yX6_tableStatus mv_yX6_tableStatus ml_X6_73 ⟨rfl, rfl, Nat.le_of_ble_eq_true rfl, Nat.le_of_ble_eq_true rfl⟩ hK (hP) rfl rfl rfl hl.1 rfl (Nat.le_of_ble_eq_true rfl) dX6_block_3 ⟨Nat.zero_le _, Nat.zero_le _⟩ hS hA hP (fun r1 H locs hr1 hP hS => ?_)
  have hr1 : ((r1 = 0 ∧ tbO tb j (tf 0)) ∨ (r1 = 1 ∧ ¬ tbO tb j (tf 0))) := hr1
  refine wrVIa (rest := []) (q0 := 0) ⟨hx, hb, hml, hown, hts⟩ (x_settled l G x xa ta a b ga ua la lb lc tg gg xf tf f qf gf uf lf mf nf tr r q gr ur lr mr nr r1  ) mi_yX6_settled mv_yX6_settled ml_X6_65 ⟨rfl, rfl, Nat.le_of_ble_eq_true rfl, Nat.le_of_ble_eq_true rfl⟩ hK hP (hDD _ _ _ _ _ _ _ _ _ _ _ _ _ _ _ _ _) rfl rfl rfl hl.1 rfl (Nat.le_of_ble_eq_true rfl) dX6_block_6 ⟨Nat.zero_le _, Nat.zero_le _⟩ hS hA (fun r2 w3 H locs hw3 hP hS => ?_)
  obtain ⟨x4, rfl, hw3r⟩ := hw3
  have hP : PP G (xM G x xa ta a b ga ua la lb lc tg gg (upd xf 0 x4) tf f qf gf uf lf mf nf tr r q gr ur lr mr nr) H := hP
  have hw3r : ((r2 = 1 ∧ ((r1 : Int32) = 0)) ∨ (r2 = 0 ∧ ¬ ((r1 : Int32) = 0))) := hw3r
  refine lv_if_ne (tgt := 14) hx hb dX6_block_9 (by decide) (fun c5 => ?_) (fun c5 => ?_)
  · have b9 := bT hw3r c5
    obtain ⟨ej, ho⟩ := st0 hr1 b9
    subst ej
    obtain ⟨rw, hrw, t1⟩ := hT1
    obtain ⟨cl, hcl, t2⟩ := hT2
    obtain ⟨bk, hbk, t3⟩ := hT3
    have hT1 : nL 12 (tf 1) := ⟨rw, hrw, t1⟩
    have hT2 : nL 12 (tf 2) := ⟨cl, hcl, t2⟩
    have hT3 : nL 12 (tf 3) := ⟨bk, hbk, t3⟩
    refine lv_aload_n hx hb dX6_block_14 rfl (lv_at hl 0 rfl) ?_
    refine va_get (D := G.1) (ci := 6) (v := .ref (xa 1)) (C := RX6) (T := TX6) (N := 10) hx hb hts inX6 hown hK.1 hP 0 rfl rfl 1 (by decide) (hts _ mf_X6_15) (fun _ h9 => h9) rfl dX6_block_15 ?_
    refine lv_iload_n hx hb dX6_block_18 rfl (lv_at hl 1 rfl) ?_
    refine xaldT hx hb hK hP 1 (j) (b := (ta 0)) rfl (by omega) (by decide) rfl (htg) dX6_block_19 ?_
    refine lv_astore (lv' := [(4, .ref (ta 0)), (0, .ref x), (1, .int (nI j)), (2, .int fi), (3, .int li)]) hx hb dX6_block_20 hl (by decide) rfl (fun ls hl => ?_)
    refine lv_iload_n hx hb dX6_block_22 rfl (lv_at hl 3 rfl) ?_
    refine lv_if_lt (tgt := 40) hx hb dX6_block_23 (by decide) (fun c6 => ?_) (fun c6 => ?_)
    · refine lv_aload_n hx hb dX6_block_40 rfl (lv_at hl 1 rfl) ?_
      refine lv_iconst (v := 2) hx hb dX6_block_41 (by decide) ?_
      refine wrVIa (rest := []) (q0 := 0) ⟨hx, hb, hml, hown, hts⟩ (x_refused l G x xa ta a b ga ua la lb lc tg gg (upd xf 0 x4) tf f qf gf uf lf mf nf tr r q gr ur lr mr nr 2  ) mi_yX6_refused mv_yX6_refused ml_X6_122 ⟨rfl, rfl, Nat.le_of_ble_eq_true rfl, Nat.le_of_ble_eq_true rfl⟩ hK hP (hDD _ _ _ _ _ _ _ _ _ _ _ _ _ _ _ _ _) rfl rfl rfl hl.1 rfl (Nat.le_of_ble_eq_true rfl) dX6_block_42 ⟨Nat.zero_le _, Nat.zero_le _⟩ hS hA (fun r7 w8 H locs hw8 hP hS => ?_)
      obtain ⟨x9, rfl, hw8r⟩ := hw8
      have hP : PP G (xM G x xa ta a b ga ua la lb lc tg gg (upd xf 0 x9) tf f qf gf uf lf mf nf tr r q gr ur lr mr nr) H := hP
      obtain rfl := hw8r
      exact wr_iret hx hb hr hlocks hS hP ⟨(tf 3), (tr 10), (tr 11), x9, rfl, Or.inr ⟨fun ⟨n9, h9⟩ => h9.2.2.2.1 c6, rfl, by first | rfl | exact t3, rfl, rfl⟩, hT3⟩ dX6_block_45
    · refine lv_iload_n hx hb dX6_block_26 rfl (lv_at hl 4 rfl) ?_
      refine lv_aload hx hb dX6_block_27 (lv_at hl 0 rfl) ?_
      refine va_get (D := G.1) (ci := 4) (v := .int (tf 1)) (C := RX4) (T := TX4) (N := 12) hx hb hts inX4 hown hK.1 hP 2 rfl rfl 1 (by decide) (hts _ mf_X6_119) (fun _ h9 => h9) rfl dX6_block_29 ?_
      rw [show (tf 1) = nI (rw) from t1]
      refine lv_icmp_ge (tgt := 40) hx hb dX6_block_32 (by decide) (fun c10 => ?_) (fun c10 => ?_)
      · refine lv_aload_n hx hb dX6_block_40 rfl (lv_at hl 1 rfl) ?_
        refine lv_iconst (v := 2) hx hb dX6_block_41 (by decide) ?_
        refine wrVIa (rest := []) (q0 := 0) ⟨hx, hb, hml, hown, hts⟩ (x_refused l G x xa ta a b ga ua la lb lc tg gg (upd xf 0 x4) tf f qf gf uf lf mf nf tr r q gr ur lr mr nr 2  ) mi_yX6_refused mv_yX6_refused ml_X6_122 ⟨rfl, rfl, Nat.le_of_ble_eq_true rfl, Nat.le_of_ble_eq_true rfl⟩ hK hP (hDD _ _ _ _ _ _ _ _ _ _ _ _ _ _ _ _ _) rfl rfl rfl hl.1 rfl (Nat.le_of_ble_eq_true rfl) dX6_block_42 ⟨Nat.zero_le _, Nat.zero_le _⟩ hS hA (fun r11 w12 H locs hw12 hP hS => ?_)
        obtain ⟨x13, rfl, hw12r⟩ := hw12
        have hP : PP G (xM G x xa ta a b ga ua la lb lc tg gg (upd xf 0 x13) tf f qf gf uf lf mf nf tr r q gr ur lr mr nr) H := hP
        obtain rfl := hw12r
        exact wr_iret hx hb hr hlocks hS hP ⟨(tf 3), (tr 10), (tr 11), x13, rfl, Or.inr ⟨fun ⟨n9, h9⟩ => h9.2.2.2.2.1 (by first | exact c10 | (rw [t1]; exact c10)), rfl, by first | rfl | exact t3, rfl, rfl⟩, hT3⟩ dX6_block_45
      · refine lv_iload_n hx hb dX6_block_35 rfl (lv_at hl 4 rfl) ?_
        refine lv_iload_n hx hb dX6_block_36 rfl (lv_at hl 3 rfl) ?_
        refine lv_icmp_ge (tgt := 46) hx hb dX6_block_37 (by decide) (fun c14 => ?_) (fun c14 => ?_)
        · refine lv_aload hx hb dX6_block_46 (lv_at hl 0 rfl) ?_
          refine va_get (D := G.1) (ci := 4) (v := .int (tf 3)) (C := RX4) (T := TX4) (N := 12) hx hb hts inX4 hown hK.1 hP 2 rfl rfl 3 (by decide) (hts _ mf_X6_125) (fun _ h9 => h9) rfl dX6_block_48 ?_
          rw [show (tf 3) = nI (bk) from t3]
          refine lv_bipush (v := 12) hx hb dX6_block_51 (by decide) ?_
          refine lv_icmp_lt (tgt := 63) hx hb dX6_block_53 (by decide) (fun c15 => ?_) (fun c15 => ?_)
          · have b53 := qlt_t (a := (bk)) (b := 12) (by omega) (by omega) c15
            refine lv_aload hx hb dX6_block_63 (lv_at hl 0 rfl) ?_
            refine lv_iload_n hx hb dX6_block_65 rfl (lv_at hl 3 rfl) ?_
            refine lv_iload_n hx hb dX6_block_66 rfl (lv_at hl 4 rfl) ?_
            refine rdV (rest := []) (q0 := 0) ⟨hx, hb, hml, hown, hts⟩ (c_X4_mayLie l G ta tf tr fi li bk hbk t3) mi_yX4_mayLie mv_yX4_mayLie ml_X6_128 ⟨rfl, rfl, Nat.le_of_ble_eq_true rfl, Nat.le_of_ble_eq_true rfl⟩ hK (blk_sub (ws' := tW G ta tf tr) (xBlk G x xa ta a b ga ua la lb lc tg gg (upd xf 0 x4) tf f qf gf uf lf mf nf tr r q gr ur lr mr nr) (i := 1) hP rfl (by decide)) rfl rfl rfl hl.1 rfl (Nat.le_of_ble_eq_true rfl) dX6_block_67 ⟨Nat.zero_le _, Nat.zero_le _⟩ hS hA hP (fun r16 H locs hr16 hP hS => ?_)
            refine lv_if_ne (tgt := 80) hx hb dX6_block_70 (by decide) (fun c17 => ?_) (fun c17 => ?_)
            · have b70 := bT hr16 c17
              refine lv_aload hx hb dX6_block_80 (lv_at hl 0 rfl) ?_
              refine lv_iload_n hx hb dX6_block_82 rfl (lv_at hl 3 rfl) ?_
              refine lv_iload_n hx hb dX6_block_83 rfl (lv_at hl 4 rfl) ?_
              refine lawV (rest := []) (q0 := 0) ⟨hx, hb, hml, hown, hts⟩ (e_X4_addBlock l G ta tf tr fi li bk (by omega) t3) mi_yX4_addBlock mv_yX4_addBlock ml_X6_131 ⟨rfl, rfl, Nat.le_of_ble_eq_true rfl, Nat.le_of_ble_eq_true rfl⟩ hK hP (hDD _ _ _ _ _ _ _ _ _ _ _ _ _ _ _ _ _) (pl_perm (xBlk G x xa ta a b ga ua la lb lc tg gg (upd xf 0 x4) tf f qf gf uf lf mf nf tr r q gr ur lr mr nr) (sel := [1]) (oth := [0, 2, 3, 4, 5, 6, 7, 8, 9]) (by decide)) rfl rfl rfl hl.1 rfl (Nat.le_of_ble_eq_true rfl) dX6_block_84 ⟨Nat.zero_le _, Nat.zero_le _⟩ hS hA (fun w22 H locs hw22 hP hS => ?_)
              obtain ⟨x18, x19, x20, rfl, g3, g10, g11⟩ := hw22
              have hP : PP G (xM G x xa ta a b ga ua la lb lc tg gg (upd xf 0 x4) (upd tf 3 x18) f qf gf uf lf mf nf (up2 (up2 tr 10 x19) 11 x20) r q gr ur lr mr nr) H := (hP rfl (xM G x xa ta a b ga ua la lb lc tg gg (upd xf 0 x4) (upd tf 3 x18) f qf gf uf lf mf nf (up2 (up2 tr 10 x19) 11 x20) r q gr ur lr mr nr) (pl_perm (xBlk G x xa ta a b ga ua la lb lc tg gg (upd xf 0 x4) (upd tf 3 x18) f qf gf uf lf mf nf (up2 (up2 tr 10 x19) 11 x20) r q gr ur lr mr nr) (sel := [1]) (oth := [0, 2, 3, 4, 5, 6, 7, 8, 9]) (by decide))).1
              have hT3 : nL 12 x18 := ⟨bk + 1, by omega, g3⟩
              refine lv_aload hx hb dX6_block_87 (lv_at hl 0 rfl) ?_
              refine va_get (D := G.1) (ci := 4) (v := .int x18) (C := RX4) (T := TX4) (N := 12) hx hb hts inX4 hown hK.1 hP 2 rfl rfl 3 (by decide) (hts _ mf_X6_125) (fun _ h9 => h9) rfl dX6_block_89 ?_
              exact wr_iret hx hb hr hlocks hS hP ⟨x18, x19, x20, x4, rfl, Or.inl ⟨bk, ⟨⟨rfl, ho⟩, by omega, by first | exact t3 | rfl, c6, by first | exact c10 | (rw [t1]; exact c10), Int32.not_lt.mpr c14, b70⟩, g3, g3, g10, g11⟩, hT3⟩ dX6_block_92
            · have b70 := bF hr16 c17
              refine lv_aload_n hx hb dX6_block_73 rfl (lv_at hl 1 rfl) ?_
              refine lv_bipush (v := 9) hx hb dX6_block_74 (by decide) ?_
              refine wrVIa (rest := []) (q0 := 0) ⟨hx, hb, hml, hown, hts⟩ (x_refused l G x xa ta a b ga ua la lb lc tg gg (upd xf 0 x4) tf f qf gf uf lf mf nf tr r q gr ur lr mr nr 9  ) mi_yX6_refused mv_yX6_refused ml_X6_122 ⟨rfl, rfl, Nat.le_of_ble_eq_true rfl, Nat.le_of_ble_eq_true rfl⟩ hK hP (hDD _ _ _ _ _ _ _ _ _ _ _ _ _ _ _ _ _) rfl rfl rfl hl.1 rfl (Nat.le_of_ble_eq_true rfl) dX6_block_76 ⟨Nat.zero_le _, Nat.zero_le _⟩ hS hA (fun r23 w24 H locs hw24 hP hS => ?_)
              obtain ⟨x25, rfl, hw24r⟩ := hw24
              have hP : PP G (xM G x xa ta a b ga ua la lb lc tg gg (upd xf 0 x25) tf f qf gf uf lf mf nf tr r q gr ur lr mr nr) H := hP
              obtain rfl := hw24r
              exact wr_iret hx hb hr hlocks hS hP ⟨(tf 3), (tr 10), (tr 11), x25, rfl, Or.inr ⟨fun ⟨n9, h9⟩ => b70 (by have e9 := (nI_eq (a := n9) (b := bk) (by have := h9.2.1; omega) (by omega)).mp (by first | exact h9.2.2.1.symm.trans t3 | exact h9.2.2.1.symm); rw [← e9]; exact h9.2.2.2.2.2.2), rfl, by first | rfl | exact t3, rfl, rfl⟩, hT3⟩ dX6_block_79
          · have b53 := qlt_f (a := (bk)) (b := 12) (by omega) (by omega) c15
            refine lv_aload_n hx hb dX6_block_56 rfl (lv_at hl 1 rfl) ?_
            refine lv_bipush (v := 8) hx hb dX6_block_57 (by decide) ?_
            refine wrVIa (rest := []) (q0 := 0) ⟨hx, hb, hml, hown, hts⟩ (x_refused l G x xa ta a b ga ua la lb lc tg gg (upd xf 0 x4) tf f qf gf uf lf mf nf tr r q gr ur lr mr nr 8  ) mi_yX6_refused mv_yX6_refused ml_X6_122 ⟨rfl, rfl, Nat.le_of_ble_eq_true rfl, Nat.le_of_ble_eq_true rfl⟩ hK hP (hDD _ _ _ _ _ _ _ _ _ _ _ _ _ _ _ _ _) rfl rfl rfl hl.1 rfl (Nat.le_of_ble_eq_true rfl) dX6_block_59 ⟨Nat.zero_le _, Nat.zero_le _⟩ hS hA (fun r26 w27 H locs hw27 hP hS => ?_)
            obtain ⟨x28, rfl, hw27r⟩ := hw27
            have hP : PP G (xM G x xa ta a b ga ua la lb lc tg gg (upd xf 0 x28) tf f qf gf uf lf mf nf tr r q gr ur lr mr nr) H := hP
            obtain rfl := hw27r
            exact wr_iret hx hb hr hlocks hS hP ⟨(tf 3), (tr 10), (tr 11), x28, rfl, Or.inr ⟨fun ⟨n9, h9⟩ => (by have e9 := (nI_eq (a := n9) (b := bk) (by have := h9.2.1; omega) (by omega)).mp (by first | exact h9.2.2.1.symm.trans t3 | exact h9.2.2.1.symm); have := h9.2.1; omega), rfl, by first | rfl | exact t3, rfl, rfl⟩, hT3⟩ dX6_block_62
        · refine lv_aload_n hx hb dX6_block_40 rfl (lv_at hl 1 rfl) ?_
          refine lv_iconst (v := 2) hx hb dX6_block_41 (by decide) ?_
          refine wrVIa (rest := []) (q0 := 0) ⟨hx, hb, hml, hown, hts⟩ (x_refused l G x xa ta a b ga ua la lb lc tg gg (upd xf 0 x4) tf f qf gf uf lf mf nf tr r q gr ur lr mr nr 2  ) mi_yX6_refused mv_yX6_refused ml_X6_122 ⟨rfl, rfl, Nat.le_of_ble_eq_true rfl, Nat.le_of_ble_eq_true rfl⟩ hK hP (hDD _ _ _ _ _ _ _ _ _ _ _ _ _ _ _ _ _) rfl rfl rfl hl.1 rfl (Nat.le_of_ble_eq_true rfl) dX6_block_42 ⟨Nat.zero_le _, Nat.zero_le _⟩ hS hA (fun r29 w30 H locs hw30 hP hS => ?_)
          obtain ⟨x31, rfl, hw30r⟩ := hw30
          have hP : PP G (xM G x xa ta a b ga ua la lb lc tg gg (upd xf 0 x31) tf f qf gf uf lf mf nf tr r q gr ur lr mr nr) H := hP
          obtain rfl := hw30r
          exact wr_iret hx hb hr hlocks hS hP ⟨(tf 3), (tr 10), (tr 11), x31, rfl, Or.inr ⟨fun ⟨n9, h9⟩ => h9.2.2.2.2.2.1 (n_le c14), rfl, by first | rfl | exact t3, rfl, rfl⟩, hT3⟩ dX6_block_45
  · have b9 := bF hw3r c5
    refine lv_iconst (v := -1) hx hb dX6_block_12 (by decide) ?_
    exact wr_iret hx hb hr hlocks hS hP ⟨(tf 3), (tr 10), (tr 11), x4, rfl, Or.inr ⟨fun ⟨n9, h9⟩ => st1 hr1 b9 h9.1, rfl, by first | rfl | exact t3, rfl, rfl⟩, hT3⟩ dX6_block_13
set_option maxHeartbeats 4000000 in
set_option maxRecDepth 100000 in
theorem x_kind (l : Launch) (G : GG) (x : Nat) (xa ta a b ga ua la lb lc : Nat → Nat) (tg gg : Nat → Option Nat) (xf tf f qf gf uf lf mf nf : Nat → Int32) (tr r q gr ur lr mr nr : Nat → Nat → Int32) (tb : Int32) (row : Int32) (col : Int32) (j : Nat) (hj : j < 6) (hjt : tbJ tb j) (htg : tg j = some (ta 0)) (hT1 : nL 12 (tf 1)) (hT2 : nL 12 (tf 2)) (hT3 : nL 12 (tf 3)) (hT4 : nOK 12 12 (tr 4)) : WrI l yX6_kind cX6_kind 4 (some .int) ({ frames := 3, cells := 0, slots := 0, locals := 69 }) G (xM G x xa ta a b ga ua la lb lc tg gg xf tf f qf gf uf lf mf nf tr r q gr ur lr mr nr) [.ref x, .int tb, .int row, .int col] (fun qz w => ∃ (n_xf_0 : Int32), w = xM G x xa ta a b ga ua la lb lc tg gg (upd xf 0 n_xf_0) tf f qf gf uf lf mf nf tr r q gr ur lr mr nr ∧ atP (stX (tbO tb j (tf 0)) (tf 1) (tf 2) (tr 4) row col) row col (fun i k => qz = (tr 5) (i * 12 + k)) (qz = -1)) := by
  refine wr_entryI (by decide +kernel) (Nat.le_of_ble_eq_true rfl) ?_
  intro p e s m below meth c A C0 hP hK hD hA ls hl
  have hS : va_S A s.heap s.heap [] := va_S.rf
  obtain ⟨hx, hb, hml, hown, hts, hr, hlocks, hin⟩ := C0
  have hown : s.vm.findClass RX6 = some m.cls := hown
  have hDD : ∀ xf' tf' f' qf' gf' uf' lf' mf' nf' tr' r' q' gr' ur' lr' mr' nr', va_D A (xM G x xa ta a b ga ua la lb lc tg gg xf' tf' f' qf' gf' uf' lf' mf' nf' tr' r' q' gr' ur' lr' mr' nr') := fun xf' tf' f' qf' gf' uf' lf' mf' nf' tr' r' q' gr' ur' lr' mr' nr' => D_same hD rfl
  have hl : lv_has ls 4 [(0, .ref x), (1, .int tb), (2, .int row), (3, .int col)] := hl
  refine lv_aload_n hx hb dX6_kind_0 rfl (lv_at hl 0 rfl) ?_
  refine lv_aload_n hx hb dX6_kind_1 rfl (lv_at hl 0 rfl) ?_
  refine lv_iload_n hx hb dX6_kind_2 rfl (lv_at hl 1 rfl) ?_
  refine lv_iload_n hx hb dX6_kind_3 rfl (lv_at hl 2 rfl) ?_
  refine lv_iload_n hx hb dX6_kind_4 rfl (lv_at hl 3 rfl) ?_
  refine rdV (rest := [.ref x]) (q0 := 0) ⟨hx, hb, hml, hown, hts⟩ (x_placeStatus l G x xa ta a b ga ua la lb lc tg gg xf tf f qf gf uf lf mf nf tr r q gr ur lr mr nr tb row col j (by omega) hjt htg hT1) mi_yX6_placeStatus mv_yX6_placeStatus ml_X6_84 ⟨rfl, rfl, Nat.le_of_ble_eq_true rfl, Nat.le_of_ble_eq_true rfl⟩ hK (hP) rfl rfl rfl hl.1 rfl (Nat.le_of_ble_eq_true rfl) dX6_kind_5 ⟨Nat.zero_le _, Nat.zero_le _⟩ hS hA hP (fun r1 H locs hr1 hP hS => ?_)
  have hr1 : stX (tbO tb j (tf 0)) (tf 1) (tf 2) (tr 4) row col r1 := hr1
  refine wrVIa (rest := []) (q0 := 0) ⟨hx, hb, hml, hown, hts⟩ (x_settled l G x xa ta a b ga ua la lb lc tg gg xf tf f qf gf uf lf mf nf tr r q gr ur lr mr nr r1  ) mi_yX6_settled mv_yX6_settled ml_X6_65 ⟨rfl, rfl, Nat.le_of_ble_eq_true rfl, Nat.le_of_ble_eq_true rfl⟩ hK hP (hDD _ _ _ _ _ _ _ _ _ _ _ _ _ _ _ _ _) rfl rfl rfl hl.1 rfl (Nat.le_of_ble_eq_true rfl) dX6_kind_8 ⟨Nat.zero_le _, Nat.zero_le _⟩ hS hA (fun r2 w3 H locs hw3 hP hS => ?_)
  obtain ⟨x4, rfl, hw3r⟩ := hw3
  have hP : PP G (xM G x xa ta a b ga ua la lb lc tg gg (upd xf 0 x4) tf f qf gf uf lf mf nf tr r q gr ur lr mr nr) H := hP
  have hw3r : ((r2 = 1 ∧ ((r1 : Int32) = 0)) ∨ (r2 = 0 ∧ ¬ ((r1 : Int32) = 0))) := hw3r
  refine lv_if_ne (tgt := 16) hx hb dX6_kind_11 (by decide) (fun c5 => ?_) (fun c5 => ?_)
  · have b11 := bT hw3r c5
    have hs0 := stX_z hr1 b11
    obtain ⟨⟨ej, ho⟩, q1, q2⟩ := stX_0 hr1 b11
    subst ej
    have q1c := q1
    have q2c := q2
    obtain ⟨rw, hrw, t1⟩ := hT1
    obtain ⟨cl, hcl, t2⟩ := hT2
    obtain ⟨bk, hbk, t3⟩ := hT3
    have hT1 : nL 12 (tf 1) := ⟨rw, hrw, t1⟩
    have hT2 : nL 12 (tf 2) := ⟨cl, hcl, t2⟩
    have hT3 : nL 12 (tf 3) := ⟨bk, hbk, t3⟩
    rw [t1] at q1c
    rw [t2] at q2c
    obtain ⟨i, hi, ei⟩ := inR_n (by omega) q1c
    subst ei
    obtain ⟨k, hk, ek⟩ := inR_n (by omega) q2c
    subst ek
    refine lv_aload_n hx hb dX6_kind_16 rfl (lv_at hl 0 rfl) ?_
    refine va_get (D := G.1) (ci := 6) (v := .ref (xa 1)) (C := RX6) (T := TX6) (N := 10) hx hb hts inX6 hown hK.1 hP 0 rfl rfl 1 (by decide) (hts _ mf_X6_15) (fun _ h9 => h9) rfl dX6_kind_17 ?_
    refine lv_iload_n hx hb dX6_kind_20 rfl (lv_at hl 1 rfl) ?_
    refine xaldT hx hb hK hP 1 (j) (b := (ta 0)) rfl (by omega) (by decide) rfl (htg) dX6_kind_21 ?_
    refine va_get (D := G.1) (ci := 4) (v := .ref (ta 5)) (C := RX4) (T := TX4) (N := 12) hx hb hts inX4 hown hK.1 hP 2 rfl rfl 5 (by decide) (hts _ mf_X6_134) (fun _ h9 => h9) rfl dX6_kind_22 ?_
    refine lv_iload_n hx hb dX6_kind_25 rfl (lv_at hl 2 rfl) ?_
    refine lv_iload_n hx hb dX6_kind_26 rfl (lv_at hl 3 rfl) ?_
    refine rdS (rest := [.ref (ta 5)]) ⟨hx, hb, hml, hown, hts⟩ (c_X6_spotOf l G ((nI i)) ((nI k))) mi_yX6_spotOf mst_yX6_spotOf ml_X6_92 ⟨rfl, rfl, Nat.le_of_ble_eq_true rfl, Nat.le_of_ble_eq_true rfl⟩ hK (fun k q h => by simp at h) rfl hl.1 rfl (Nat.le_of_ble_eq_true rfl) dX6_kind_27 ⟨Nat.zero_le _, Nat.zero_le _⟩ hS hA hP (fun r6 H locs hr6 hP hS => ?_)
    obtain rfl : r6 = nI (i * 12 + k) := spot_eq hr6
    refine xiald (f := (tr 5)) hx hb hK hP 4 ((i * 12 + k)) (rfl) (by omega) (by decide) rfl dX6_kind_30 ?_
    refine lv_topi (fun v7 ev7 => ?_)
    exact wr_iret hx hb hr hlocks hS hP ⟨x4, rfl, Or.inr ⟨hs0, i, k, by omega, by omega, rfl, rfl, ev7⟩⟩ dX6_kind_31
  · have b11 := bF hw3r c5
    refine lv_iconst (v := -1) hx hb dX6_kind_14 (by decide) ?_
    exact wr_iret hx hb hr hlocks hS hP ⟨x4, rfl, Or.inl ⟨_, b11, hr1, rfl⟩⟩ dX6_kind_15
set_option maxHeartbeats 4000000 in
set_option maxRecDepth 100000 in
theorem x_number (l : Launch) (G : GG) (x : Nat) (xa ta a b ga ua la lb lc : Nat → Nat) (tg gg : Nat → Option Nat) (xf tf f qf gf uf lf mf nf : Nat → Int32) (tr r q gr ur lr mr nr : Nat → Nat → Int32) (tb : Int32) (row : Int32) (col : Int32) (j : Nat) (hj : j < 6) (hjt : tbJ tb j) (htg : tg j = some (ta 0)) (hT1 : nL 12 (tf 1)) (hT2 : nL 12 (tf 2)) (hT3 : nL 12 (tf 3)) (hT4 : nOK 12 12 (tr 4)) : WrI l yX6_number cX6_number 4 (some .int) ({ frames := 4, cells := 0, slots := 0, locals := 93 }) G (xM G x xa ta a b ga ua la lb lc tg gg xf tf f qf gf uf lf mf nf tr r q gr ur lr mr nr) [.ref x, .int tb, .int row, .int col] (fun qz w => ∃ (n_xf_0 : Int32), w = xM G x xa ta a b ga ua la lb lc tg gg (upd xf 0 n_xf_0) tf f qf gf uf lf mf nf tr r q gr ur lr mr nr ∧ atP (stX (tbO tb j (tf 0)) (tf 1) (tf 2) (tr 4) row col) row col (fun i k => sv (¬ (tr 5) (i * 12 + k) = 0) (qz = (tr 6) (i * 12 + k)) (qz = -1)) (qz = -1)) := by
  refine wr_entryI (by decide +kernel) (Nat.le_of_ble_eq_true rfl) ?_
  intro p e s m below meth c A C0 hP hK hD hA ls hl
  have hS : va_S A s.heap s.heap [] := va_S.rf
  obtain ⟨hx, hb, hml, hown, hts, hr, hlocks, hin⟩ := C0
  have hown : s.vm.findClass RX6 = some m.cls := hown
  have hDD : ∀ xf' tf' f' qf' gf' uf' lf' mf' nf' tr' r' q' gr' ur' lr' mr' nr', va_D A (xM G x xa ta a b ga ua la lb lc tg gg xf' tf' f' qf' gf' uf' lf' mf' nf' tr' r' q' gr' ur' lr' mr' nr') := fun xf' tf' f' qf' gf' uf' lf' mf' nf' tr' r' q' gr' ur' lr' mr' nr' => D_same hD rfl
  have hl : lv_has ls 4 [(0, .ref x), (1, .int tb), (2, .int row), (3, .int col)] := hl
  refine lv_aload_n hx hb dX6_number_0 rfl (lv_at hl 0 rfl) ?_
  refine lv_aload_n hx hb dX6_number_1 rfl (lv_at hl 0 rfl) ?_
  refine lv_iload_n hx hb dX6_number_2 rfl (lv_at hl 1 rfl) ?_
  refine lv_iload_n hx hb dX6_number_3 rfl (lv_at hl 2 rfl) ?_
  refine lv_iload_n hx hb dX6_number_4 rfl (lv_at hl 3 rfl) ?_
  refine rdV (rest := [.ref x]) (q0 := 0) ⟨hx, hb, hml, hown, hts⟩ (x_filledStatus l G x xa ta a b ga ua la lb lc tg gg xf tf f qf gf uf lf mf nf tr r q gr ur lr mr nr tb row col j (by omega) hjt htg hT1 hT2 hT3) mi_yX6_filledStatus mv_yX6_filledStatus ml_X6_107 ⟨rfl, rfl, Nat.le_of_ble_eq_true rfl, Nat.le_of_ble_eq_true rfl⟩ hK (hP) rfl rfl rfl hl.1 rfl (Nat.le_of_ble_eq_true rfl) dX6_number_5 ⟨Nat.zero_le _, Nat.zero_le _⟩ hS hA hP (fun r1 H locs hr1 hP hS => ?_)
  have hr1 : stK (stX (tbO tb j (tf 0)) (tf 1) (tf 2) (tr 4) row col) row col (fun i k => kf1 ((tr 5) (i * 12 + k))) r1 := hr1
  refine wrVIa (rest := []) (q0 := 0) ⟨hx, hb, hml, hown, hts⟩ (x_settled l G x xa ta a b ga ua la lb lc tg gg xf tf f qf gf uf lf mf nf tr r q gr ur lr mr nr r1  ) mi_yX6_settled mv_yX6_settled ml_X6_65 ⟨rfl, rfl, Nat.le_of_ble_eq_true rfl, Nat.le_of_ble_eq_true rfl⟩ hK hP (hDD _ _ _ _ _ _ _ _ _ _ _ _ _ _ _ _ _) rfl rfl rfl hl.1 rfl (Nat.le_of_ble_eq_true rfl) dX6_number_8 ⟨Nat.zero_le _, Nat.zero_le _⟩ hS hA (fun r2 w3 H locs hw3 hP hS => ?_)
  obtain ⟨x4, rfl, hw3r⟩ := hw3
  have hP : PP G (xM G x xa ta a b ga ua la lb lc tg gg (upd xf 0 x4) tf f qf gf uf lf mf nf tr r q gr ur lr mr nr) H := hP
  have hw3r : ((r2 = 1 ∧ ((r1 : Int32) = 0)) ∨ (r2 = 0 ∧ ¬ ((r1 : Int32) = 0))) := hw3r
  refine lv_if_ne (tgt := 16) hx hb dX6_number_11 (by decide) (fun c5 => ?_) (fun c5 => ?_)
  · have b11 := bT hw3r c5
    have hs0 := stK_0 hr1 b11
    obtain ⟨⟨ej, ho⟩, q1, q2⟩ := stX_0 hs0 rfl
    subst ej
    have q1c := q1
    have q2c := q2
    obtain ⟨rw, hrw, t1⟩ := hT1
    obtain ⟨cl, hcl, t2⟩ := hT2
    obtain ⟨bk, hbk, t3⟩ := hT3
    have hT1 : nL 12 (tf 1) := ⟨rw, hrw, t1⟩
    have hT2 : nL 12 (tf 2) := ⟨cl, hcl, t2⟩
    have hT3 : nL 12 (tf 3) := ⟨bk, hbk, t3⟩
    rw [t1] at q1c
    rw [t2] at q2c
    obtain ⟨i, hi, ei⟩ := inR_n (by omega) q1c
    subst ei
    obtain ⟨k, hk, ek⟩ := inR_n (by omega) q2c
    subst ek
    have hkk := stK_k hr1 b11 (show i < 12 by omega) (show k < 12 by omega) rfl rfl
    refine lv_aload_n hx hb dX6_number_16 rfl (lv_at hl 0 rfl) ?_
    refine va_get (D := G.1) (ci := 6) (v := .ref (xa 1)) (C := RX6) (T := TX6) (N := 10) hx hb hts inX6 hown hK.1 hP 0 rfl rfl 1 (by decide) (hts _ mf_X6_15) (fun _ h9 => h9) rfl dX6_number_17 ?_
    refine lv_iload_n hx hb dX6_number_20 rfl (lv_at hl 1 rfl) ?_
    refine xaldT hx hb hK hP 1 (j) (b := (ta 0)) rfl (by omega) (by decide) rfl (htg) dX6_number_21 ?_
    refine va_get (D := G.1) (ci := 4) (v := .ref (ta 6)) (C := RX4) (T := TX4) (N := 12) hx hb hts inX4 hown hK.1 hP 2 rfl rfl 6 (by decide) (hts _ mf_X6_137) (fun _ h9 => h9) rfl dX6_number_22 ?_
    refine lv_iload_n hx hb dX6_number_25 rfl (lv_at hl 2 rfl) ?_
    refine lv_iload_n hx hb dX6_number_26 rfl (lv_at hl 3 rfl) ?_
    refine rdS (rest := [.ref (ta 6)]) ⟨hx, hb, hml, hown, hts⟩ (c_X6_spotOf l G ((nI i)) ((nI k))) mi_yX6_spotOf mst_yX6_spotOf ml_X6_92 ⟨rfl, rfl, Nat.le_of_ble_eq_true rfl, Nat.le_of_ble_eq_true rfl⟩ hK (fun k q h => by simp at h) rfl hl.1 rfl (Nat.le_of_ble_eq_true rfl) dX6_number_27 ⟨Nat.zero_le _, Nat.zero_le _⟩ hS hA hP (fun r6 H locs hr6 hP hS => ?_)
    obtain rfl : r6 = nI (i * 12 + k) := spot_eq hr6
    refine xiald (f := (tr 6)) hx hb hK hP 5 ((i * 12 + k)) (rfl) (by omega) (by decide) rfl dX6_number_30 ?_
    refine lv_topi (fun v7 ev7 => ?_)
    exact wr_iret hx hb hr hlocks hS hP ⟨x4, rfl, Or.inr ⟨hs0, i, k, by omega, by omega, rfl, rfl, Or.inl ⟨kf1_i hkk, ev7⟩⟩⟩ dX6_number_31
  · have b11 := bF hw3r c5
    refine lv_iconst (v := -1) hx hb dX6_number_14 (by decide) ?_
    exact wr_iret hx hb hr hlocks hS hP ⟨x4, rfl, atP_n hr1 b11 rfl (fun i k h => Or.inr ⟨fun z => h (kf1_g z), rfl⟩)⟩ dX6_number_15
set_option maxHeartbeats 4000000 in
set_option maxRecDepth 100000 in
theorem x_givers (l : Launch) (G : GG) (x : Nat) (xa ta a b ga ua la lb lc : Nat → Nat) (tg gg : Nat → Option Nat) (xf tf f qf gf uf lf mf nf : Nat → Int32) (tr r q gr ur lr mr nr : Nat → Nat → Int32) (tb : Int32) (row : Int32) (col : Int32) (j : Nat) (hj : j < 6) (hjt : tbJ tb j) (htg : tg j = some (ta 0)) (hT1 : nL 12 (tf 1)) (hT2 : nL 12 (tf 2)) (hT3 : nL 12 (tf 3)) (hT4 : nOK 12 12 (tr 4)) : WrI l yX6_givers cX6_givers 4 (some .int) ({ frames := 5, cells := 0, slots := 0, locals := 117 }) G (xM G x xa ta a b ga ua la lb lc tg gg xf tf f qf gf uf lf mf nf tr r q gr ur lr mr nr) [.ref x, .int tb, .int row, .int col] (fun qz w => ∃ (n_xf_0 : Int32), w = xM G x xa ta a b ga ua la lb lc tg gg (upd xf 0 n_xf_0) tf f qf gf uf lf mf nf tr r q gr ur lr mr nr ∧ atP (stX (tbO tb j (tf 0)) (tf 1) (tf 2) (tr 4) row col) row col (fun i k => sv ((tr 5) (i * 12 + k) = 2) (qz = nI (gvN (tr 8) (i * 12 + k) 6)) (qz = -1)) (qz = -1)) := by
  refine wr_entryI (by decide +kernel) (Nat.le_of_ble_eq_true rfl) ?_
  intro p e s m below meth c A C0 hP hK hD hA ls hl
  have hS : va_S A s.heap s.heap [] := va_S.rf
  obtain ⟨hx, hb, hml, hown, hts, hr, hlocks, hin⟩ := C0
  have hown : s.vm.findClass RX6 = some m.cls := hown
  have hDD : ∀ xf' tf' f' qf' gf' uf' lf' mf' nf' tr' r' q' gr' ur' lr' mr' nr', va_D A (xM G x xa ta a b ga ua la lb lc tg gg xf' tf' f' qf' gf' uf' lf' mf' nf' tr' r' q' gr' ur' lr' mr' nr') := fun xf' tf' f' qf' gf' uf' lf' mf' nf' tr' r' q' gr' ur' lr' mr' nr' => D_same hD rfl
  have hl : lv_has ls 4 [(0, .ref x), (1, .int tb), (2, .int row), (3, .int col)] := hl
  refine lv_aload_n hx hb dX6_givers_0 rfl (lv_at hl 0 rfl) ?_
  refine lv_aload_n hx hb dX6_givers_1 rfl (lv_at hl 0 rfl) ?_
  refine lv_iload_n hx hb dX6_givers_2 rfl (lv_at hl 1 rfl) ?_
  refine lv_iload_n hx hb dX6_givers_3 rfl (lv_at hl 2 rfl) ?_
  refine lv_iload_n hx hb dX6_givers_4 rfl (lv_at hl 3 rfl) ?_
  refine rdV (rest := [.ref x]) (q0 := 0) ⟨hx, hb, hml, hown, hts⟩ (x_amountStatus l G x xa ta a b ga ua la lb lc tg gg xf tf f qf gf uf lf mf nf tr r q gr ur lr mr nr tb row col j (by omega) hjt htg hT1 hT2 hT3) mi_yX6_amountStatus mv_yX6_amountStatus ml_X6_100 ⟨rfl, rfl, Nat.le_of_ble_eq_true rfl, Nat.le_of_ble_eq_true rfl⟩ hK (hP) rfl rfl rfl hl.1 rfl (Nat.le_of_ble_eq_true rfl) dX6_givers_5 ⟨Nat.zero_le _, Nat.zero_le _⟩ hS hA hP (fun r1 H locs hr1 hP hS => ?_)
  have hr1 : stK (stX (tbO tb j (tf 0)) (tf 1) (tf 2) (tr 4) row col) row col (fun i k => kf4 ((tr 5) (i * 12 + k))) r1 := hr1
  refine wrVIa (rest := []) (q0 := 0) ⟨hx, hb, hml, hown, hts⟩ (x_settled l G x xa ta a b ga ua la lb lc tg gg xf tf f qf gf uf lf mf nf tr r q gr ur lr mr nr r1  ) mi_yX6_settled mv_yX6_settled ml_X6_65 ⟨rfl, rfl, Nat.le_of_ble_eq_true rfl, Nat.le_of_ble_eq_true rfl⟩ hK hP (hDD _ _ _ _ _ _ _ _ _ _ _ _ _ _ _ _ _) rfl rfl rfl hl.1 rfl (Nat.le_of_ble_eq_true rfl) dX6_givers_8 ⟨Nat.zero_le _, Nat.zero_le _⟩ hS hA (fun r2 w3 H locs hw3 hP hS => ?_)
  obtain ⟨x4, rfl, hw3r⟩ := hw3
  have hP : PP G (xM G x xa ta a b ga ua la lb lc tg gg (upd xf 0 x4) tf f qf gf uf lf mf nf tr r q gr ur lr mr nr) H := hP
  have hw3r : ((r2 = 1 ∧ ((r1 : Int32) = 0)) ∨ (r2 = 0 ∧ ¬ ((r1 : Int32) = 0))) := hw3r
  refine lv_if_ne (tgt := 16) hx hb dX6_givers_11 (by decide) (fun c5 => ?_) (fun c5 => ?_)
  · have b11 := bT hw3r c5
    have hs0 := stK_0 hr1 b11
    obtain ⟨⟨ej, ho⟩, q1, q2⟩ := stX_0 hs0 rfl
    subst ej
    have q1c := q1
    have q2c := q2
    obtain ⟨rw, hrw, t1⟩ := hT1
    obtain ⟨cl, hcl, t2⟩ := hT2
    obtain ⟨bk, hbk, t3⟩ := hT3
    have hT1 : nL 12 (tf 1) := ⟨rw, hrw, t1⟩
    have hT2 : nL 12 (tf 2) := ⟨cl, hcl, t2⟩
    have hT3 : nL 12 (tf 3) := ⟨bk, hbk, t3⟩
    rw [t1] at q1c
    rw [t2] at q2c
    obtain ⟨i, hi, ei⟩ := inR_n (by omega) q1c
    subst ei
    obtain ⟨k, hk, ek⟩ := inR_n (by omega) q2c
    subst ek
    have hkk := stK_k hr1 b11 (show i < 12 by omega) (show k < 12 by omega) rfl rfl
    refine lv_aload_n hx hb dX6_givers_16 rfl (lv_at hl 0 rfl) ?_
    refine va_get (D := G.1) (ci := 6) (v := .ref (xa 1)) (C := RX6) (T := TX6) (N := 10) hx hb hts inX6 hown hK.1 hP 0 rfl rfl 1 (by decide) (hts _ mf_X6_15) (fun _ h9 => h9) rfl dX6_givers_17 ?_
    refine lv_iload_n hx hb dX6_givers_20 rfl (lv_at hl 1 rfl) ?_
    refine xaldT hx hb hK hP 1 (j) (b := (ta 0)) rfl (by omega) (by decide) rfl (htg) dX6_givers_21 ?_
    refine lv_iload_n hx hb dX6_givers_22 rfl (lv_at hl 2 rfl) ?_
    refine lv_iload_n hx hb dX6_givers_23 rfl (lv_at hl 3 rfl) ?_
    refine rdS (rest := [.ref (ta 0)]) ⟨hx, hb, hml, hown, hts⟩ (c_X6_spotOf l G ((nI i)) ((nI k))) mi_yX6_spotOf mst_yX6_spotOf ml_X6_92 ⟨rfl, rfl, Nat.le_of_ble_eq_true rfl, Nat.le_of_ble_eq_true rfl⟩ hK (fun k q h => by simp at h) rfl hl.1 rfl (Nat.le_of_ble_eq_true rfl) dX6_givers_24 ⟨Nat.zero_le _, Nat.zero_le _⟩ hS hA hP (fun r6 H locs hr6 hP hS => ?_)
    obtain rfl : r6 = nI (i * 12 + k) := spot_eq hr6
    refine rdV (rest := []) (q0 := 0) ⟨hx, hb, hml, hown, hts⟩ (c_X4_giversAt l G ta tf tr (i * 12 + k) (by omega)) mi_yX4_giversAt mv_yX4_giversAt ml_X6_140 ⟨rfl, rfl, Nat.le_of_ble_eq_true rfl, Nat.le_of_ble_eq_true rfl⟩ hK (blk_sub (ws' := tW G ta tf tr) (xBlk G x xa ta a b ga ua la lb lc tg gg (upd xf 0 x4) tf f qf gf uf lf mf nf tr r q gr ur lr mr nr) (i := 1) hP rfl (by decide)) rfl rfl rfl hl.1 rfl (Nat.le_of_ble_eq_true rfl) dX6_givers_27 ⟨Nat.zero_le _, Nat.zero_le _⟩ hS hA hP (fun r7 H locs hr7 hP hS => ?_)
    obtain rfl := hr7
    exact wr_iret hx hb hr hlocks hS hP ⟨x4, rfl, Or.inr ⟨hs0, i, k, by omega, by omega, rfl, rfl, Or.inl ⟨kf4_i hkk, rfl⟩⟩⟩ dX6_givers_30
  · have b11 := bF hw3r c5
    refine lv_iconst (v := -1) hx hb dX6_givers_14 (by decide) ?_
    exact wr_iret hx hb hr hlocks hS hP ⟨x4, rfl, atP_n hr1 b11 rfl (fun i k h => Or.inr ⟨fun z => h (kf4_g z), rfl⟩)⟩ dX6_givers_15
set_option maxHeartbeats 4000000 in
set_option maxRecDepth 100000 in
theorem x_part (l : Launch) (G : GG) (x : Nat) (xa ta a b ga ua la lb lc : Nat → Nat) (tg gg : Nat → Option Nat) (xf tf f qf gf uf lf mf nf : Nat → Int32) (tr r q gr ur lr mr nr : Nat → Nat → Int32) (tb : Int32) (row : Int32) (col : Int32) (kx : Int32) (j : Nat) (hj : j < 6) (hjt : tbJ tb j) (htg : tg j = some (ta 0)) (hT1 : nL 12 (tf 1)) (hT2 : nL 12 (tf 2)) (hT3 : nL 12 (tf 3)) (hT4 : nOK 12 12 (tr 4)) : WrI l yX6_part cX6_part 6 (some .int) ({ frames := 5, cells := 0, slots := 0, locals := 117 }) G (xM G x xa ta a b ga ua la lb lc tg gg xf tf f qf gf uf lf mf nf tr r q gr ur lr mr nr) [.ref x, .int tb, .int row, .int col, .int kx] (fun qz w => ∃ (n_xf_0 : Int32), w = xM G x xa ta a b ga ua la lb lc tg gg (upd xf 0 n_xf_0) tf f qf gf uf lf mf nf tr r q gr ur lr mr nr ∧ atP (stX (tbO tb j (tf 0)) (tf 1) (tf 2) (tr 4) row col) row col (fun i k => sv ((tr 5) (i * 12 + k) = 2) (sv (inR (nI (gvN (tr 8) (i * 12 + k) 6)) kx) (∃ n, n < 6 ∧ kx = nI n ∧ qz = (tr 8) ((i * 12 + k) * 6 + n)) (qz = -1)) (qz = -1)) (qz = -1)) := by
  refine wr_entryI (by decide +kernel) (Nat.le_of_ble_eq_true rfl) ?_
  intro p e s m below meth c A C0 hP hK hD hA ls hl
  have hS : va_S A s.heap s.heap [] := va_S.rf
  obtain ⟨hx, hb, hml, hown, hts, hr, hlocks, hin⟩ := C0
  have hown : s.vm.findClass RX6 = some m.cls := hown
  have hDD : ∀ xf' tf' f' qf' gf' uf' lf' mf' nf' tr' r' q' gr' ur' lr' mr' nr', va_D A (xM G x xa ta a b ga ua la lb lc tg gg xf' tf' f' qf' gf' uf' lf' mf' nf' tr' r' q' gr' ur' lr' mr' nr') := fun xf' tf' f' qf' gf' uf' lf' mf' nf' tr' r' q' gr' ur' lr' mr' nr' => D_same hD rfl
  have hl : lv_has ls 6 [(0, .ref x), (1, .int tb), (2, .int row), (3, .int col), (4, .int kx)] := hl
  refine lv_aload_n hx hb dX6_part_0 rfl (lv_at hl 0 rfl) ?_
  refine lv_aload_n hx hb dX6_part_1 rfl (lv_at hl 0 rfl) ?_
  refine lv_iload_n hx hb dX6_part_2 rfl (lv_at hl 1 rfl) ?_
  refine lv_iload_n hx hb dX6_part_3 rfl (lv_at hl 2 rfl) ?_
  refine lv_iload_n hx hb dX6_part_4 rfl (lv_at hl 3 rfl) ?_
  refine rdV (rest := [.ref x]) (q0 := 0) ⟨hx, hb, hml, hown, hts⟩ (x_amountStatus l G x xa ta a b ga ua la lb lc tg gg xf tf f qf gf uf lf mf nf tr r q gr ur lr mr nr tb row col j (by omega) hjt htg hT1 hT2 hT3) mi_yX6_amountStatus mv_yX6_amountStatus ml_X6_100 ⟨rfl, rfl, Nat.le_of_ble_eq_true rfl, Nat.le_of_ble_eq_true rfl⟩ hK (hP) rfl rfl rfl hl.1 rfl (Nat.le_of_ble_eq_true rfl) dX6_part_5 ⟨Nat.zero_le _, Nat.zero_le _⟩ hS hA hP (fun r1 H locs hr1 hP hS => ?_)
  have hr1 : stK (stX (tbO tb j (tf 0)) (tf 1) (tf 2) (tr 4) row col) row col (fun i k => kf4 ((tr 5) (i * 12 + k))) r1 := hr1
  refine wrVIa (rest := []) (q0 := 0) ⟨hx, hb, hml, hown, hts⟩ (x_settled l G x xa ta a b ga ua la lb lc tg gg xf tf f qf gf uf lf mf nf tr r q gr ur lr mr nr r1  ) mi_yX6_settled mv_yX6_settled ml_X6_65 ⟨rfl, rfl, Nat.le_of_ble_eq_true rfl, Nat.le_of_ble_eq_true rfl⟩ hK hP (hDD _ _ _ _ _ _ _ _ _ _ _ _ _ _ _ _ _) rfl rfl rfl hl.1 rfl (Nat.le_of_ble_eq_true rfl) dX6_part_8 ⟨Nat.zero_le _, Nat.zero_le _⟩ hS hA (fun r2 w3 H locs hw3 hP hS => ?_)
  obtain ⟨x4, rfl, hw3r⟩ := hw3
  have hP : PP G (xM G x xa ta a b ga ua la lb lc tg gg (upd xf 0 x4) tf f qf gf uf lf mf nf tr r q gr ur lr mr nr) H := hP
  have hw3r : ((r2 = 1 ∧ ((r1 : Int32) = 0)) ∨ (r2 = 0 ∧ ¬ ((r1 : Int32) = 0))) := hw3r
  refine lv_if_ne (tgt := 16) hx hb dX6_part_11 (by decide) (fun c5 => ?_) (fun c5 => ?_)
  · have b11 := bT hw3r c5
    have hs0 := stK_0 hr1 b11
    obtain ⟨⟨ej, ho⟩, q1, q2⟩ := stX_0 hs0 rfl
    subst ej
    have q1c := q1
    have q2c := q2
    obtain ⟨rw, hrw, t1⟩ := hT1
    obtain ⟨cl, hcl, t2⟩ := hT2
    obtain ⟨bk, hbk, t3⟩ := hT3
    have hT1 : nL 12 (tf 1) := ⟨rw, hrw, t1⟩
    have hT2 : nL 12 (tf 2) := ⟨cl, hcl, t2⟩
    have hT3 : nL 12 (tf 3) := ⟨bk, hbk, t3⟩
    rw [t1] at q1c
    rw [t2] at q2c
    obtain ⟨i, hi, ei⟩ := inR_n (by omega) q1c
    subst ei
    obtain ⟨k, hk, ek⟩ := inR_n (by omega) q2c
    subst ek
    have hkk := stK_k hr1 b11 (show i < 12 by omega) (show k < 12 by omega) rfl rfl
    refine lv_iload_n hx hb dX6_part_16 rfl (lv_at hl 2 rfl) ?_
    refine lv_iload_n hx hb dX6_part_17 rfl (lv_at hl 3 rfl) ?_
    refine rdS (rest := []) ⟨hx, hb, hml, hown, hts⟩ (c_X6_spotOf l G ((nI i)) ((nI k))) mi_yX6_spotOf mst_yX6_spotOf ml_X6_92 ⟨rfl, rfl, Nat.le_of_ble_eq_true rfl, Nat.le_of_ble_eq_true rfl⟩ hK (fun k q h => by simp at h) rfl hl.1 rfl (Nat.le_of_ble_eq_true rfl) dX6_part_18 ⟨Nat.zero_le _, Nat.zero_le _⟩ hS hA hP (fun r6 H locs hr6 hP hS => ?_)
    obtain rfl : r6 = nI (i * 12 + k) := spot_eq hr6
    refine lv_istore (lv' := [(5, .int (nI (i * 12 + k))), (0, .ref x), (1, .int (nI j)), (2, .int (nI i)), (3, .int (nI k)), (4, .int kx)]) hx hb dX6_part_21 hl (by decide) rfl (fun ls hl => ?_)
    refine lv_iload hx hb dX6_part_23 (lv_at hl 5 rfl) ?_
    refine lv_if_lt (tgt := 44) hx hb dX6_part_25 (by decide) (fun c7 => ?_) (fun c7 => ?_)
    · refine lv_aload_n hx hb dX6_part_44 rfl (lv_at hl 1 rfl) ?_
      refine lv_bipush (v := 7) hx hb dX6_part_45 (by decide) ?_
      refine wrVIa (rest := []) (q0 := 0) ⟨hx, hb, hml, hown, hts⟩ (x_refused l G x xa ta a b ga ua la lb lc tg gg (upd xf 0 x4) tf f qf gf uf lf mf nf tr r q gr ur lr mr nr 7  ) mi_yX6_refused mv_yX6_refused ml_X6_122 ⟨rfl, rfl, Nat.le_of_ble_eq_true rfl, Nat.le_of_ble_eq_true rfl⟩ hK hP (hDD _ _ _ _ _ _ _ _ _ _ _ _ _ _ _ _ _) rfl rfl rfl hl.1 rfl (Nat.le_of_ble_eq_true rfl) dX6_part_47 ⟨Nat.zero_le _, Nat.zero_le _⟩ hS hA (fun r8 w9 H locs hw9 hP hS => ?_)
      obtain ⟨x10, rfl, hw9r⟩ := hw9
      have hP : PP G (xM G x xa ta a b ga ua la lb lc tg gg (upd xf 0 x10) tf f qf gf uf lf mf nf tr r q gr ur lr mr nr) H := hP
      obtain rfl := hw9r
      exact wr_iret hx hb hr hlocks hS hP ⟨x10, rfl, Or.inr ⟨hs0, i, k, by omega, by omega, rfl, rfl, Or.inl ⟨kf4_i hkk, Or.inr ⟨fun h9 => h9.1 c7, rfl⟩⟩⟩⟩ dX6_part_50
    · refine lv_iload hx hb dX6_part_28 (lv_at hl 5 rfl) ?_
      refine lv_aload_n hx hb dX6_part_30 rfl (lv_at hl 1 rfl) ?_
      refine va_get (D := G.1) (ci := 6) (v := .ref (xa 1)) (C := RX6) (T := TX6) (N := 10) hx hb hts inX6 hown hK.1 hP 0 rfl rfl 1 (by decide) (hts _ mf_X6_15) (fun _ h9 => h9) rfl dX6_part_31 ?_
      refine lv_iload_n hx hb dX6_part_34 rfl (lv_at hl 2 rfl) ?_
      refine xaldT hx hb hK hP 1 (j) (b := (ta 0)) rfl (by omega) (by decide) rfl (htg) dX6_part_35 ?_
      refine lv_iload hx hb dX6_part_36 (lv_at hl 0 rfl) ?_
      refine rdV (rest := [.int kx]) (q0 := 0) ⟨hx, hb, hml, hown, hts⟩ (c_X4_giversAt l G ta tf tr (i * 12 + k) (by omega)) mi_yX4_giversAt mv_yX4_giversAt ml_X6_140 ⟨rfl, rfl, Nat.le_of_ble_eq_true rfl, Nat.le_of_ble_eq_true rfl⟩ hK (blk_sub (ws' := tW G ta tf tr) (xBlk G x xa ta a b ga ua la lb lc tg gg (upd xf 0 x4) tf f qf gf uf lf mf nf tr r q gr ur lr mr nr) (i := 1) hP rfl (by decide)) rfl rfl rfl hl.1 rfl (Nat.le_of_ble_eq_true rfl) dX6_part_38 ⟨Nat.zero_le _, Nat.zero_le _⟩ hS hA hP (fun r11 H locs hr11 hP hS => ?_)
      obtain rfl := hr11
      refine lv_icmp_lt (tgt := 51) hx hb dX6_part_41 (by decide) (fun c12 => ?_) (fun c12 => ?_)
      · have hg := gvN_le (tr 8) (i * 12 + k) 6
        obtain ⟨n, hn, en⟩ := lt_ix (x := kx) (n := gvN (tr 8) (i * 12 + k) 6) (by omega) c7 (Int32.not_le.mpr c12)
        subst en
        refine lv_aload_n hx hb dX6_part_51 rfl (lv_at hl 1 rfl) ?_
        refine va_get (D := G.1) (ci := 6) (v := .ref (xa 1)) (C := RX6) (T := TX6) (N := 10) hx hb hts inX6 hown hK.1 hP 0 rfl rfl 1 (by decide) (hts _ mf_X6_15) (fun _ h9 => h9) rfl dX6_part_52 ?_
        refine lv_iload_n hx hb dX6_part_55 rfl (lv_at hl 2 rfl) ?_
        refine xaldT hx hb hK hP 1 (j) (b := (ta 0)) rfl (by omega) (by decide) rfl (htg) dX6_part_56 ?_
        refine va_get (D := G.1) (ci := 4) (v := .ref (ta 8)) (C := RX4) (T := TX4) (N := 12) hx hb hts inX4 hown hK.1 hP 2 rfl rfl 8 (by decide) (hts _ mf_X6_143) (fun _ h9 => h9) rfl dX6_part_57 ?_
        refine lv_iload hx hb dX6_part_60 (lv_at hl 0 rfl) ?_
        refine lv_bipush (v := 6) hx hb dX6_part_62 (by decide) ?_
        refine lv_imul hx hb dX6_part_64 ?_
        refine lv_topi (fun v13 ev13 => ?_)
        obtain rfl : v13 = nI ((i * 12 + k) * 6) := nI_times ev13 rfl rfl
        refine lv_iload hx hb dX6_part_65 (lv_at hl 5 rfl) ?_
        refine lv_iadd hx hb dX6_part_67 ?_
        refine lv_topi (fun v14 ev14 => ?_)
        obtain rfl : v14 = nI (((i * 12 + k) * 6) + n) := nI_plus ev14 rfl rfl
        refine xiald (f := (tr 8)) hx hb hK hP 7 ((((i * 12 + k) * 6) + n)) (rfl) (by omega) (by decide) rfl dX6_part_68 ?_
        refine lv_topi (fun v15 ev15 => ?_)
        exact wr_iret hx hb hr hlocks hS hP ⟨x4, rfl, Or.inr ⟨hs0, i, k, by omega, by omega, rfl, rfl, Or.inl ⟨kf4_i hkk, Or.inl ⟨⟨c7, Int32.not_le.mpr c12⟩, n, by omega, rfl, ev15⟩⟩⟩⟩ dX6_part_69
      · refine lv_aload_n hx hb dX6_part_44 rfl (lv_at hl 1 rfl) ?_
        refine lv_bipush (v := 7) hx hb dX6_part_45 (by decide) ?_
        refine wrVIa (rest := []) (q0 := 0) ⟨hx, hb, hml, hown, hts⟩ (x_refused l G x xa ta a b ga ua la lb lc tg gg (upd xf 0 x4) tf f qf gf uf lf mf nf tr r q gr ur lr mr nr 7  ) mi_yX6_refused mv_yX6_refused ml_X6_122 ⟨rfl, rfl, Nat.le_of_ble_eq_true rfl, Nat.le_of_ble_eq_true rfl⟩ hK hP (hDD _ _ _ _ _ _ _ _ _ _ _ _ _ _ _ _ _) rfl rfl rfl hl.1 rfl (Nat.le_of_ble_eq_true rfl) dX6_part_47 ⟨Nat.zero_le _, Nat.zero_le _⟩ hS hA (fun r16 w17 H locs hw17 hP hS => ?_)
        obtain ⟨x18, rfl, hw17r⟩ := hw17
        have hP : PP G (xM G x xa ta a b ga ua la lb lc tg gg (upd xf 0 x18) tf f qf gf uf lf mf nf tr r q gr ur lr mr nr) H := hP
        obtain rfl := hw17r
        exact wr_iret hx hb hr hlocks hS hP ⟨x18, rfl, Or.inr ⟨hs0, i, k, by omega, by omega, rfl, rfl, Or.inl ⟨kf4_i hkk, Or.inr ⟨fun h9 => h9.2 (Int32.not_lt.mp c12), rfl⟩⟩⟩⟩ dX6_part_50
  · have b11 := bF hw3r c5
    refine lv_iconst (v := -1) hx hb dX6_part_14 (by decide) ?_
    exact wr_iret hx hb hr hlocks hS hP ⟨x4, rfl, atP_n hr1 b11 rfl (fun i k h => Or.inr ⟨fun z => h (kf4_g z), rfl⟩)⟩ dX6_part_15
set_option maxHeartbeats 4000000 in
set_option maxRecDepth 100000 in
theorem x_hand (l : Launch) (G : GG) (x : Nat) (xa ta a b ga ua la lb lc : Nat → Nat) (tg gg : Nat → Option Nat) (xf tf f qf gf uf lf mf nf : Nat → Int32) (tr r q gr ur lr mr nr : Nat → Nat → Int32) (tb : Int32) (row : Int32) (col : Int32) (on : Int32) (j : Nat) (hj : j < 6) (hjt : tbJ tb j) (htg : tg j = some (ta 0)) (hT1 : nL 12 (tf 1)) (hT2 : nL 12 (tf 2)) (hT3 : nL 12 (tf 3)) (hT4 : nOK 12 12 (tr 4)) : WrI l yX6_hand cX6_hand 5 (some .boolean) ({ frames := 6, cells := 0, slots := 0, locals := 141 }) G (xM G x xa ta a b ga ua la lb lc tg gg xf tf f qf gf uf lf mf nf tr r q gr ur lr mr nr) [.ref x, .int tb, .int row, .int col, .int on] (fun qz w => ∃ (n_tr_7 : Nat → Int32) (n_xf_0 : Int32), w = xM G x xa ta a b ga ua la lb lc tg gg (upd xf 0 n_xf_0) tf f qf gf uf lf mf nf (up2 tr 7 n_tr_7) r q gr ur lr mr nr ∧ atP (stX (tbO tb j (tf 0)) (tf 1) (tf 2) (tr 4) row col) row col (fun i k => sv (gdK ((tr 5) (i * 12 + k))) (qz = 1 ∧ n_tr_7 = upd (tr 7) (i * 12 + k) (if on = 0 then (tr 7) (i * 12 + k) &&& (1 ^^^ (-1)) else (tr 7) (i * 12 + k) ||| 1)) (qz = 0 ∧ n_tr_7 = (tr 7))) (qz = 0 ∧ n_tr_7 = (tr 7))) := by
  refine wr_entryI (by decide +kernel) (Nat.le_of_ble_eq_true rfl) ?_
  intro p e s m below meth c A C0 hP hK hD hA ls hl
  have hS : va_S A s.heap s.heap [] := va_S.rf
  obtain ⟨hx, hb, hml, hown, hts, hr, hlocks, hin⟩ := C0
  have hown : s.vm.findClass RX6 = some m.cls := hown
  have hDD : ∀ xf' tf' f' qf' gf' uf' lf' mf' nf' tr' r' q' gr' ur' lr' mr' nr', va_D A (xM G x xa ta a b ga ua la lb lc tg gg xf' tf' f' qf' gf' uf' lf' mf' nf' tr' r' q' gr' ur' lr' mr' nr') := fun xf' tf' f' qf' gf' uf' lf' mf' nf' tr' r' q' gr' ur' lr' mr' nr' => D_same hD rfl
  have hl : lv_has ls 5 [(0, .ref x), (1, .int tb), (2, .int row), (3, .int col), (4, .int on)] := hl
  refine lv_aload_n hx hb dX6_hand_0 rfl (lv_at hl 0 rfl) ?_
  refine lv_aload_n hx hb dX6_hand_1 rfl (lv_at hl 0 rfl) ?_
  refine lv_iload_n hx hb dX6_hand_2 rfl (lv_at hl 1 rfl) ?_
  refine lv_iload_n hx hb dX6_hand_3 rfl (lv_at hl 2 rfl) ?_
  refine lv_iload_n hx hb dX6_hand_4 rfl (lv_at hl 3 rfl) ?_
  refine rdV (rest := [.ref x]) (q0 := 0) ⟨hx, hb, hml, hown, hts⟩ (x_guardableStatus l G x xa ta a b ga ua la lb lc tg gg xf tf f qf gf uf lf mf nf tr r q gr ur lr mr nr tb row col j (by omega) hjt htg hT1 hT2 hT3) mi_yX6_guardableStatus mv_yX6_guardableStatus ml_X6_146 ⟨rfl, rfl, Nat.le_of_ble_eq_true rfl, Nat.le_of_ble_eq_true rfl⟩ hK (hP) rfl rfl rfl hl.1 rfl (Nat.le_of_ble_eq_true rfl) dX6_hand_5 ⟨Nat.zero_le _, Nat.zero_le _⟩ hS hA hP (fun r1 H locs hr1 hP hS => ?_)
  have hr1 : stK (stX (tbO tb j (tf 0)) (tf 1) (tf 2) (tr 4) row col) row col (fun i k => kf3 ((tr 5) (i * 12 + k))) r1 := hr1
  refine wrVIa (rest := []) (q0 := 0) ⟨hx, hb, hml, hown, hts⟩ (x_settled l G x xa ta a b ga ua la lb lc tg gg xf tf f qf gf uf lf mf nf tr r q gr ur lr mr nr r1  ) mi_yX6_settled mv_yX6_settled ml_X6_65 ⟨rfl, rfl, Nat.le_of_ble_eq_true rfl, Nat.le_of_ble_eq_true rfl⟩ hK hP (hDD _ _ _ _ _ _ _ _ _ _ _ _ _ _ _ _ _) rfl rfl rfl hl.1 rfl (Nat.le_of_ble_eq_true rfl) dX6_hand_8 ⟨Nat.zero_le _, Nat.zero_le _⟩ hS hA (fun r2 w3 H locs hw3 hP hS => ?_)
  obtain ⟨x4, rfl, hw3r⟩ := hw3
  have hP : PP G (xM G x xa ta a b ga ua la lb lc tg gg (upd xf 0 x4) tf f qf gf uf lf mf nf tr r q gr ur lr mr nr) H := hP
  have hw3r : ((r2 = 1 ∧ ((r1 : Int32) = 0)) ∨ (r2 = 0 ∧ ¬ ((r1 : Int32) = 0))) := hw3r
  refine lv_if_ne (tgt := 16) hx hb dX6_hand_11 (by decide) (fun c5 => ?_) (fun c5 => ?_)
  · have b11 := bT hw3r c5
    have hs0 := stK_0 hr1 b11
    obtain ⟨⟨ej, ho⟩, q1, q2⟩ := stX_0 hs0 rfl
    subst ej
    have q1c := q1
    have q2c := q2
    obtain ⟨rw, hrw, t1⟩ := hT1
    obtain ⟨cl, hcl, t2⟩ := hT2
    obtain ⟨bk, hbk, t3⟩ := hT3
    have hT1 : nL 12 (tf 1) := ⟨rw, hrw, t1⟩
    have hT2 : nL 12 (tf 2) := ⟨cl, hcl, t2⟩
    have hT3 : nL 12 (tf 3) := ⟨bk, hbk, t3⟩
    rw [t1] at q1c
    rw [t2] at q2c
    obtain ⟨i, hi, ei⟩ := inR_n (by omega) q1c
    subst ei
    obtain ⟨k, hk, ek⟩ := inR_n (by omega) q2c
    subst ek
    have hkk := stK_k hr1 b11 (show i < 12 by omega) (show k < 12 by omega) rfl rfl
    refine lv_aload_n hx hb dX6_hand_16 rfl (lv_at hl 0 rfl) ?_
    refine va_get (D := G.1) (ci := 6) (v := .ref (xa 1)) (C := RX6) (T := TX6) (N := 10) hx hb hts inX6 hown hK.1 hP 0 rfl rfl 1 (by decide) (hts _ mf_X6_15) (fun _ h9 => h9) rfl dX6_hand_17 ?_
    refine lv_iload_n hx hb dX6_hand_20 rfl (lv_at hl 1 rfl) ?_
    refine xaldT hx hb hK hP 1 (j) (b := (ta 0)) rfl (by omega) (by decide) rfl (htg) dX6_hand_21 ?_
    refine lv_iload_n hx hb dX6_hand_22 rfl (lv_at hl 2 rfl) ?_
    refine lv_iload_n hx hb dX6_hand_23 rfl (lv_at hl 3 rfl) ?_
    refine rdS (rest := [.ref (ta 0)]) ⟨hx, hb, hml, hown, hts⟩ (c_X6_spotOf l G ((nI i)) ((nI k))) mi_yX6_spotOf mst_yX6_spotOf ml_X6_92 ⟨rfl, rfl, Nat.le_of_ble_eq_true rfl, Nat.le_of_ble_eq_true rfl⟩ hK (fun k q h => by simp at h) rfl hl.1 rfl (Nat.le_of_ble_eq_true rfl) dX6_hand_24 ⟨Nat.zero_le _, Nat.zero_le _⟩ hS hA hP (fun r6 H locs hr6 hP hS => ?_)
    obtain rfl : r6 = nI (i * 12 + k) := spot_eq hr6
    refine lv_iconst (v := 1) hx hb dX6_hand_27 (by decide) ?_
    refine lv_iload hx hb dX6_hand_28 (lv_at hl 4 rfl) ?_
    refine lawV (rest := []) (q0 := 0) ⟨hx, hb, hml, hown, hts⟩ (e_X4_tell l G ta tf tr (i * 12 + k) 1 on (by omega)) mi_yX4_tell mv_yX4_tell ml_X6_149 ⟨rfl, rfl, Nat.le_of_ble_eq_true rfl, Nat.le_of_ble_eq_true rfl⟩ hK hP (hDD _ _ _ _ _ _ _ _ _ _ _ _ _ _ _ _ _) (pl_perm (xBlk G x xa ta a b ga ua la lb lc tg gg (upd xf 0 x4) tf f qf gf uf lf mf nf tr r q gr ur lr mr nr) (sel := [1]) (oth := [0, 2, 3, 4, 5, 6, 7, 8, 9]) (by decide)) rfl rfl rfl hl.1 rfl (Nat.le_of_ble_eq_true rfl) dX6_hand_30 ⟨Nat.zero_le _, Nat.zero_le _⟩ hS hA (fun w9 H locs hw9 hP hS => ?_)
    obtain ⟨x7, rfl, g7⟩ := hw9
    have hP : PP G (xM G x xa ta a b ga ua la lb lc tg gg (upd xf 0 x4) tf f qf gf uf lf mf nf (up2 tr 7 x7) r q gr ur lr mr nr) H := (hP rfl (xM G x xa ta a b ga ua la lb lc tg gg (upd xf 0 x4) tf f qf gf uf lf mf nf (up2 tr 7 x7) r q gr ur lr mr nr) (pl_perm (xBlk G x xa ta a b ga ua la lb lc tg gg (upd xf 0 x4) tf f qf gf uf lf mf nf (up2 tr 7 x7) r q gr ur lr mr nr) (sel := [1]) (oth := [0, 2, 3, 4, 5, 6, 7, 8, 9]) (by decide))).1
    refine lv_iconst (v := 1) hx hb dX6_hand_33 (by decide) ?_
    exact wr_zret hx hb hr hlocks (Or.inr rfl) hS hP ⟨x7, x4, rfl, Or.inr ⟨hs0, i, k, by omega, by omega, rfl, rfl, Or.inl ⟨kf3_i hkk, rfl, g7⟩⟩⟩ dX6_hand_34
  · have b11 := bF hw3r c5
    refine lv_iconst (v := 0) hx hb dX6_hand_14 (by decide) ?_
    exact wr_zret hx hb hr hlocks (Or.inl rfl) hS hP ⟨(tr 7), x4, rfl, atP_n hr1 b11 ⟨rfl, rfl⟩ (fun i k h => Or.inr ⟨fun z => h (kf3_g z), rfl, rfl⟩)⟩ dX6_hand_15
set_option maxHeartbeats 4000000 in
set_option maxRecDepth 100000 in
theorem x_keep (l : Launch) (G : GG) (x : Nat) (xa ta a b ga ua la lb lc : Nat → Nat) (tg gg : Nat → Option Nat) (xf tf f qf gf uf lf mf nf : Nat → Int32) (tr r q gr ur lr mr nr : Nat → Nat → Int32) (tb : Int32) (row : Int32) (col : Int32) (on : Int32) (j : Nat) (hj : j < 6) (hjt : tbJ tb j) (htg : tg j = some (ta 0)) (hT1 : nL 12 (tf 1)) (hT2 : nL 12 (tf 2)) (hT3 : nL 12 (tf 3)) (hT4 : nOK 12 12 (tr 4)) : WrI l yX6_keep cX6_keep 5 (some .boolean) ({ frames := 6, cells := 0, slots := 0, locals := 141 }) G (xM G x xa ta a b ga ua la lb lc tg gg xf tf f qf gf uf lf mf nf tr r q gr ur lr mr nr) [.ref x, .int tb, .int row, .int col, .int on] (fun qz w => ∃ (n_tr_7 : Nat → Int32) (n_xf_0 : Int32), w = xM G x xa ta a b ga ua la lb lc tg gg (upd xf 0 n_xf_0) tf f qf gf uf lf mf nf (up2 tr 7 n_tr_7) r q gr ur lr mr nr ∧ atP (stX (tbO tb j (tf 0)) (tf 1) (tf 2) (tr 4) row col) row col (fun i k => sv (gdK ((tr 5) (i * 12 + k))) (qz = 1 ∧ n_tr_7 = upd (tr 7) (i * 12 + k) (if on = 0 then (tr 7) (i * 12 + k) &&& (2 ^^^ (-1)) else (tr 7) (i * 12 + k) ||| 2)) (qz = 0 ∧ n_tr_7 = (tr 7))) (qz = 0 ∧ n_tr_7 = (tr 7))) := by
  refine wr_entryI (by decide +kernel) (Nat.le_of_ble_eq_true rfl) ?_
  intro p e s m below meth c A C0 hP hK hD hA ls hl
  have hS : va_S A s.heap s.heap [] := va_S.rf
  obtain ⟨hx, hb, hml, hown, hts, hr, hlocks, hin⟩ := C0
  have hown : s.vm.findClass RX6 = some m.cls := hown
  have hDD : ∀ xf' tf' f' qf' gf' uf' lf' mf' nf' tr' r' q' gr' ur' lr' mr' nr', va_D A (xM G x xa ta a b ga ua la lb lc tg gg xf' tf' f' qf' gf' uf' lf' mf' nf' tr' r' q' gr' ur' lr' mr' nr') := fun xf' tf' f' qf' gf' uf' lf' mf' nf' tr' r' q' gr' ur' lr' mr' nr' => D_same hD rfl
  have hl : lv_has ls 5 [(0, .ref x), (1, .int tb), (2, .int row), (3, .int col), (4, .int on)] := hl
  refine lv_aload_n hx hb dX6_keep_0 rfl (lv_at hl 0 rfl) ?_
  refine lv_aload_n hx hb dX6_keep_1 rfl (lv_at hl 0 rfl) ?_
  refine lv_iload_n hx hb dX6_keep_2 rfl (lv_at hl 1 rfl) ?_
  refine lv_iload_n hx hb dX6_keep_3 rfl (lv_at hl 2 rfl) ?_
  refine lv_iload_n hx hb dX6_keep_4 rfl (lv_at hl 3 rfl) ?_
  refine rdV (rest := [.ref x]) (q0 := 0) ⟨hx, hb, hml, hown, hts⟩ (x_guardableStatus l G x xa ta a b ga ua la lb lc tg gg xf tf f qf gf uf lf mf nf tr r q gr ur lr mr nr tb row col j (by omega) hjt htg hT1 hT2 hT3) mi_yX6_guardableStatus mv_yX6_guardableStatus ml_X6_146 ⟨rfl, rfl, Nat.le_of_ble_eq_true rfl, Nat.le_of_ble_eq_true rfl⟩ hK (hP) rfl rfl rfl hl.1 rfl (Nat.le_of_ble_eq_true rfl) dX6_keep_5 ⟨Nat.zero_le _, Nat.zero_le _⟩ hS hA hP (fun r1 H locs hr1 hP hS => ?_)
  have hr1 : stK (stX (tbO tb j (tf 0)) (tf 1) (tf 2) (tr 4) row col) row col (fun i k => kf3 ((tr 5) (i * 12 + k))) r1 := hr1
  refine wrVIa (rest := []) (q0 := 0) ⟨hx, hb, hml, hown, hts⟩ (x_settled l G x xa ta a b ga ua la lb lc tg gg xf tf f qf gf uf lf mf nf tr r q gr ur lr mr nr r1  ) mi_yX6_settled mv_yX6_settled ml_X6_65 ⟨rfl, rfl, Nat.le_of_ble_eq_true rfl, Nat.le_of_ble_eq_true rfl⟩ hK hP (hDD _ _ _ _ _ _ _ _ _ _ _ _ _ _ _ _ _) rfl rfl rfl hl.1 rfl (Nat.le_of_ble_eq_true rfl) dX6_keep_8 ⟨Nat.zero_le _, Nat.zero_le _⟩ hS hA (fun r2 w3 H locs hw3 hP hS => ?_)
  obtain ⟨x4, rfl, hw3r⟩ := hw3
  have hP : PP G (xM G x xa ta a b ga ua la lb lc tg gg (upd xf 0 x4) tf f qf gf uf lf mf nf tr r q gr ur lr mr nr) H := hP
  have hw3r : ((r2 = 1 ∧ ((r1 : Int32) = 0)) ∨ (r2 = 0 ∧ ¬ ((r1 : Int32) = 0))) := hw3r
  refine lv_if_ne (tgt := 16) hx hb dX6_keep_11 (by decide) (fun c5 => ?_) (fun c5 => ?_)
  · have b11 := bT hw3r c5
    have hs0 := stK_0 hr1 b11
    obtain ⟨⟨ej, ho⟩, q1, q2⟩ := stX_0 hs0 rfl
    subst ej
    have q1c := q1
    have q2c := q2
    obtain ⟨rw, hrw, t1⟩ := hT1
    obtain ⟨cl, hcl, t2⟩ := hT2
    obtain ⟨bk, hbk, t3⟩ := hT3
    have hT1 : nL 12 (tf 1) := ⟨rw, hrw, t1⟩
    have hT2 : nL 12 (tf 2) := ⟨cl, hcl, t2⟩
    have hT3 : nL 12 (tf 3) := ⟨bk, hbk, t3⟩
    rw [t1] at q1c
    rw [t2] at q2c
    obtain ⟨i, hi, ei⟩ := inR_n (by omega) q1c
    subst ei
    obtain ⟨k, hk, ek⟩ := inR_n (by omega) q2c
    subst ek
    have hkk := stK_k hr1 b11 (show i < 12 by omega) (show k < 12 by omega) rfl rfl
    refine lv_aload_n hx hb dX6_keep_16 rfl (lv_at hl 0 rfl) ?_
    refine va_get (D := G.1) (ci := 6) (v := .ref (xa 1)) (C := RX6) (T := TX6) (N := 10) hx hb hts inX6 hown hK.1 hP 0 rfl rfl 1 (by decide) (hts _ mf_X6_15) (fun _ h9 => h9) rfl dX6_keep_17 ?_
    refine lv_iload_n hx hb dX6_keep_20 rfl (lv_at hl 1 rfl) ?_
    refine xaldT hx hb hK hP 1 (j) (b := (ta 0)) rfl (by omega) (by decide) rfl (htg) dX6_keep_21 ?_
    refine lv_iload_n hx hb dX6_keep_22 rfl (lv_at hl 2 rfl) ?_
    refine lv_iload_n hx hb dX6_keep_23 rfl (lv_at hl 3 rfl) ?_
    refine rdS (rest := [.ref (ta 0)]) ⟨hx, hb, hml, hown, hts⟩ (c_X6_spotOf l G ((nI i)) ((nI k))) mi_yX6_spotOf mst_yX6_spotOf ml_X6_92 ⟨rfl, rfl, Nat.le_of_ble_eq_true rfl, Nat.le_of_ble_eq_true rfl⟩ hK (fun k q h => by simp at h) rfl hl.1 rfl (Nat.le_of_ble_eq_true rfl) dX6_keep_24 ⟨Nat.zero_le _, Nat.zero_le _⟩ hS hA hP (fun r6 H locs hr6 hP hS => ?_)
    obtain rfl : r6 = nI (i * 12 + k) := spot_eq hr6
    refine lv_iconst (v := 2) hx hb dX6_keep_27 (by decide) ?_
    refine lv_iload hx hb dX6_keep_28 (lv_at hl 4 rfl) ?_
    refine lawV (rest := []) (q0 := 0) ⟨hx, hb, hml, hown, hts⟩ (e_X4_tell l G ta tf tr (i * 12 + k) 2 on (by omega)) mi_yX4_tell mv_yX4_tell ml_X6_149 ⟨rfl, rfl, Nat.le_of_ble_eq_true rfl, Nat.le_of_ble_eq_true rfl⟩ hK hP (hDD _ _ _ _ _ _ _ _ _ _ _ _ _ _ _ _ _) (pl_perm (xBlk G x xa ta a b ga ua la lb lc tg gg (upd xf 0 x4) tf f qf gf uf lf mf nf tr r q gr ur lr mr nr) (sel := [1]) (oth := [0, 2, 3, 4, 5, 6, 7, 8, 9]) (by decide)) rfl rfl rfl hl.1 rfl (Nat.le_of_ble_eq_true rfl) dX6_keep_30 ⟨Nat.zero_le _, Nat.zero_le _⟩ hS hA (fun w9 H locs hw9 hP hS => ?_)
    obtain ⟨x7, rfl, g7⟩ := hw9
    have hP : PP G (xM G x xa ta a b ga ua la lb lc tg gg (upd xf 0 x4) tf f qf gf uf lf mf nf (up2 tr 7 x7) r q gr ur lr mr nr) H := (hP rfl (xM G x xa ta a b ga ua la lb lc tg gg (upd xf 0 x4) tf f qf gf uf lf mf nf (up2 tr 7 x7) r q gr ur lr mr nr) (pl_perm (xBlk G x xa ta a b ga ua la lb lc tg gg (upd xf 0 x4) tf f qf gf uf lf mf nf (up2 tr 7 x7) r q gr ur lr mr nr) (sel := [1]) (oth := [0, 2, 3, 4, 5, 6, 7, 8, 9]) (by decide))).1
    refine lv_iconst (v := 1) hx hb dX6_keep_33 (by decide) ?_
    exact wr_zret hx hb hr hlocks (Or.inr rfl) hS hP ⟨x7, x4, rfl, Or.inr ⟨hs0, i, k, by omega, by omega, rfl, rfl, Or.inl ⟨kf3_i hkk, rfl, g7⟩⟩⟩ dX6_keep_34
  · have b11 := bF hw3r c5
    refine lv_iconst (v := 0) hx hb dX6_keep_14 (by decide) ?_
    exact wr_zret hx hb hr hlocks (Or.inl rfl) hS hP ⟨(tr 7), x4, rfl, atP_n hr1 b11 ⟨rfl, rfl⟩ (fun i k h => Or.inr ⟨fun z => h (kf3_g z), rfl, rfl⟩)⟩ dX6_keep_15
set_option maxHeartbeats 4000000 in
set_option maxRecDepth 100000 in
theorem x_sound (l : Launch) (G : GG) (x : Nat) (xa ta a b ga ua la lb lc : Nat → Nat) (tg gg : Nat → Option Nat) (xf tf f qf gf uf lf mf nf : Nat → Int32) (tr r q gr ur lr mr nr : Nat → Nat → Int32) (tb : Int32) (row : Int32) (j : Nat) (hj : j < 6) (hjt : tbJ tb j) (htg : tg j = some (ta 0)) (hT1 : nL 12 (tf 1)) (hT2 : nL 12 (tf 2)) (hT3 : nL 12 (tf 3)) (hT4 : nOK 12 12 (tr 4)) : WrI l yX6_sound cX6_sound 3 (some .int) ({ frames := 2, cells := 0, slots := 0, locals := 44 }) G (xM G x xa ta a b ga ua la lb lc tg gg xf tf f qf gf uf lf mf nf tr r q gr ur lr mr nr) [.ref x, .int tb, .int row] (fun qz w => ∃ (n_xf_0 : Int32), w = xM G x xa ta a b ga ua la lb lc tg gg (upd xf 0 n_xf_0) tf f qf gf uf lf mf nf tr r q gr ur lr mr nr ∧ roX (tbO tb j (tf 0)) (tf 1) row (fun i => sv (sndP ((tf 2)).toNatClampNeg (tr 4) (tr 5) i) (qz = 1) (qz = 0)) (qz = -1)) := by
  refine wr_entryI (by decide +kernel) (Nat.le_of_ble_eq_true rfl) ?_
  intro p e s m below meth c A C0 hP hK hD hA ls hl
  have hS : va_S A s.heap s.heap [] := va_S.rf
  obtain ⟨hx, hb, hml, hown, hts, hr, hlocks, hin⟩ := C0
  have hown : s.vm.findClass RX6 = some m.cls := hown
  have hDD : ∀ xf' tf' f' qf' gf' uf' lf' mf' nf' tr' r' q' gr' ur' lr' mr' nr', va_D A (xM G x xa ta a b ga ua la lb lc tg gg xf' tf' f' qf' gf' uf' lf' mf' nf' tr' r' q' gr' ur' lr' mr' nr') := fun xf' tf' f' qf' gf' uf' lf' mf' nf' tr' r' q' gr' ur' lr' mr' nr' => D_same hD rfl
  have hl : lv_has ls 3 [(0, .ref x), (1, .int tb), (2, .int row)] := hl
  refine lv_aload_n hx hb dX6_sound_0 rfl (lv_at hl 0 rfl) ?_
  refine lv_aload_n hx hb dX6_sound_1 rfl (lv_at hl 0 rfl) ?_
  refine lv_iload_n hx hb dX6_sound_2 rfl (lv_at hl 1 rfl) ?_
  refine lv_iload_n hx hb dX6_sound_3 rfl (lv_at hl 2 rfl) ?_
  refine rdV (rest := [.ref x]) (q0 := 0) ⟨hx, hb, hml, hown, hts⟩ (x_rowStatus l G x xa ta a b ga ua la lb lc tg gg xf tf f qf gf uf lf mf nf tr r q gr ur lr mr nr tb row j (by omega) hjt htg) mi_yX6_rowStatus mv_yX6_rowStatus ml_X6_110 ⟨rfl, rfl, Nat.le_of_ble_eq_true rfl, Nat.le_of_ble_eq_true rfl⟩ hK (hP) rfl rfl rfl hl.1 rfl (Nat.le_of_ble_eq_true rfl) dX6_sound_4 ⟨Nat.zero_le _, Nat.zero_le _⟩ hS hA hP (fun r1 H locs hr1 hP hS => ?_)
  have hr1 : rwQ (tbO tb j (tf 0)) (tf 1) row r1 := hr1
  refine wrVIa (rest := []) (q0 := 0) ⟨hx, hb, hml, hown, hts⟩ (x_settled l G x xa ta a b ga ua la lb lc tg gg xf tf f qf gf uf lf mf nf tr r q gr ur lr mr nr r1  ) mi_yX6_settled mv_yX6_settled ml_X6_65 ⟨rfl, rfl, Nat.le_of_ble_eq_true rfl, Nat.le_of_ble_eq_true rfl⟩ hK hP (hDD _ _ _ _ _ _ _ _ _ _ _ _ _ _ _ _ _) rfl rfl rfl hl.1 rfl (Nat.le_of_ble_eq_true rfl) dX6_sound_7 ⟨Nat.zero_le _, Nat.zero_le _⟩ hS hA (fun r2 w3 H locs hw3 hP hS => ?_)
  obtain ⟨x4, rfl, hw3r⟩ := hw3
  have hP : PP G (xM G x xa ta a b ga ua la lb lc tg gg (upd xf 0 x4) tf f qf gf uf lf mf nf tr r q gr ur lr mr nr) H := hP
  have hw3r : ((r2 = 1 ∧ ((r1 : Int32) = 0)) ∨ (r2 = 0 ∧ ¬ ((r1 : Int32) = 0))) := hw3r
  refine lv_if_ne (tgt := 15) hx hb dX6_sound_10 (by decide) (fun c5 => ?_) (fun c5 => ?_)
  · have b10 := bT hw3r c5
    obtain ⟨⟨ej, ho⟩, q1⟩ := rwQ_0 hr1 b10
    subst ej
    have q1c := q1
    obtain ⟨rw, hrw, t1⟩ := hT1
    obtain ⟨cl, hcl, t2⟩ := hT2
    obtain ⟨bk, hbk, t3⟩ := hT3
    have hT1 : nL 12 (tf 1) := ⟨rw, hrw, t1⟩
    have hT2 : nL 12 (tf 2) := ⟨cl, hcl, t2⟩
    have hT3 : nL 12 (tf 3) := ⟨bk, hbk, t3⟩
    rw [t1] at q1c
    obtain ⟨i, hi, ei⟩ := inR_n (by omega) q1c
    subst ei
    refine lv_aload_n hx hb dX6_sound_15 rfl (lv_at hl 0 rfl) ?_
    refine va_get (D := G.1) (ci := 6) (v := .ref (xa 1)) (C := RX6) (T := TX6) (N := 10) hx hb hts inX6 hown hK.1 hP 0 rfl rfl 1 (by decide) (hts _ mf_X6_15) (fun _ h9 => h9) rfl dX6_sound_16 ?_
    refine lv_iload_n hx hb dX6_sound_19 rfl (lv_at hl 1 rfl) ?_
    refine xaldT hx hb hK hP 1 (j) (b := (ta 0)) rfl (by omega) (by decide) rfl (htg) dX6_sound_20 ?_
    refine lv_iload_n hx hb dX6_sound_21 rfl (lv_at hl 2 rfl) ?_
    refine rdV (rest := []) (q0 := 0) ⟨hx, hb, hml, hown, hts⟩ (c_X4_isSound l G ta tf tr i cl (by omega) hcl t2) mi_yX4_isSound mv_yX4_isSound ml_X6_153 ⟨rfl, rfl, Nat.le_of_ble_eq_true rfl, Nat.le_of_ble_eq_true rfl⟩ hK (blk_sub (ws' := tW G ta tf tr) (xBlk G x xa ta a b ga ua la lb lc tg gg (upd xf 0 x4) tf f qf gf uf lf mf nf tr r q gr ur lr mr nr) (i := 1) hP rfl (by decide)) rfl rfl rfl hl.1 rfl (Nat.le_of_ble_eq_true rfl) dX6_sound_22 ⟨Nat.zero_le _, Nat.zero_le _⟩ hS hA hP (fun r6 H locs hr6 hP hS => ?_)
    refine lv_if_eq (tgt := 32) hx hb dX6_sound_25 (by decide) (fun c7 => ?_) (fun c7 => ?_)
    · have b25 := bF hr6 c7
      refine lv_iconst (v := 0) hx hb dX6_sound_32 (by decide) ?_
      exact wr_iret hx hb hr hlocks hS hP ⟨x4, rfl, Or.inr ⟨⟨rfl, ho⟩, q1, i, by omega, rfl, Or.inr ⟨by rw [t2, nI_clamp (by omega)]; exact b25, rfl⟩⟩⟩ dX6_sound_33
    · have b25 := bT hr6 c7
      refine lv_iconst (v := 1) hx hb dX6_sound_28 (by decide) ?_
      refine lv_goto (tgt := 33) hx hb dX6_sound_29 (by decide) ?_
      exact wr_iret hx hb hr hlocks hS hP ⟨x4, rfl, Or.inr ⟨⟨rfl, ho⟩, q1, i, by omega, rfl, Or.inl ⟨by rw [t2, nI_clamp (by omega)]; exact b25, rfl⟩⟩⟩ dX6_sound_33
  · have b10 := bF hw3r c5
    refine lv_iconst (v := -1) hx hb dX6_sound_13 (by decide) ?_
    exact wr_iret hx hb hr hlocks hS hP ⟨x4, rfl, Or.inl ⟨fun h9 => rwQ_n hr1 b10 h9.1 h9.2, rfl⟩⟩ dX6_sound_14
set_option maxHeartbeats 4000000 in
set_option maxRecDepth 100000 in
theorem x_sum (l : Launch) (G : GG) (x : Nat) (xa ta a b ga ua la lb lc : Nat → Nat) (tg gg : Nat → Option Nat) (xf tf f qf gf uf lf mf nf : Nat → Int32) (tr r q gr ur lr mr nr : Nat → Nat → Int32) (tb : Int32) (row : Int32) (j : Nat) (hj : j < 6) (hjt : tbJ tb j) (htg : tg j = some (ta 0)) (hT1 : nL 12 (tf 1)) (hT2 : nL 12 (tf 2)) (hT3 : nL 12 (tf 3)) (hT4 : nOK 12 12 (tr 4)) : WrI l yX6_sum cX6_sum 3 (some .int) ({ frames := 2, cells := 0, slots := 0, locals := 44 }) G (xM G x xa ta a b ga ua la lb lc tg gg xf tf f qf gf uf lf mf nf tr r q gr ur lr mr nr) [.ref x, .int tb, .int row] (fun qz w => ∃ (n_xf_0 : Int32), w = xM G x xa ta a b ga ua la lb lc tg gg (upd xf 0 n_xf_0) tf f qf gf uf lf mf nf tr r q gr ur lr mr nr ∧ roX (tbO tb j (tf 0)) (tf 1) row (fun i => sv (sndP ((tf 2)).toNatClampNeg (tr 4) (tr 5) i) (qz = smF (tr 6) (i * 12) ((tf 2)).toNatClampNeg) (qz = -1)) (qz = -1)) := by
  refine wr_entryI (by decide +kernel) (Nat.le_of_ble_eq_true rfl) ?_
  intro p e s m below meth c A C0 hP hK hD hA ls hl
  have hS : va_S A s.heap s.heap [] := va_S.rf
  obtain ⟨hx, hb, hml, hown, hts, hr, hlocks, hin⟩ := C0
  have hown : s.vm.findClass RX6 = some m.cls := hown
  have hDD : ∀ xf' tf' f' qf' gf' uf' lf' mf' nf' tr' r' q' gr' ur' lr' mr' nr', va_D A (xM G x xa ta a b ga ua la lb lc tg gg xf' tf' f' qf' gf' uf' lf' mf' nf' tr' r' q' gr' ur' lr' mr' nr') := fun xf' tf' f' qf' gf' uf' lf' mf' nf' tr' r' q' gr' ur' lr' mr' nr' => D_same hD rfl
  have hl : lv_has ls 3 [(0, .ref x), (1, .int tb), (2, .int row)] := hl
  refine lv_aload_n hx hb dX6_sum_0 rfl (lv_at hl 0 rfl) ?_
  refine lv_aload_n hx hb dX6_sum_1 rfl (lv_at hl 0 rfl) ?_
  refine lv_iload_n hx hb dX6_sum_2 rfl (lv_at hl 1 rfl) ?_
  refine lv_iload_n hx hb dX6_sum_3 rfl (lv_at hl 2 rfl) ?_
  refine rdV (rest := [.ref x]) (q0 := 0) ⟨hx, hb, hml, hown, hts⟩ (x_rowStatus l G x xa ta a b ga ua la lb lc tg gg xf tf f qf gf uf lf mf nf tr r q gr ur lr mr nr tb row j (by omega) hjt htg) mi_yX6_rowStatus mv_yX6_rowStatus ml_X6_110 ⟨rfl, rfl, Nat.le_of_ble_eq_true rfl, Nat.le_of_ble_eq_true rfl⟩ hK (hP) rfl rfl rfl hl.1 rfl (Nat.le_of_ble_eq_true rfl) dX6_sum_4 ⟨Nat.zero_le _, Nat.zero_le _⟩ hS hA hP (fun r1 H locs hr1 hP hS => ?_)
  have hr1 : rwQ (tbO tb j (tf 0)) (tf 1) row r1 := hr1
  refine wrVIa (rest := []) (q0 := 0) ⟨hx, hb, hml, hown, hts⟩ (x_settled l G x xa ta a b ga ua la lb lc tg gg xf tf f qf gf uf lf mf nf tr r q gr ur lr mr nr r1  ) mi_yX6_settled mv_yX6_settled ml_X6_65 ⟨rfl, rfl, Nat.le_of_ble_eq_true rfl, Nat.le_of_ble_eq_true rfl⟩ hK hP (hDD _ _ _ _ _ _ _ _ _ _ _ _ _ _ _ _ _) rfl rfl rfl hl.1 rfl (Nat.le_of_ble_eq_true rfl) dX6_sum_7 ⟨Nat.zero_le _, Nat.zero_le _⟩ hS hA (fun r2 w3 H locs hw3 hP hS => ?_)
  obtain ⟨x4, rfl, hw3r⟩ := hw3
  have hP : PP G (xM G x xa ta a b ga ua la lb lc tg gg (upd xf 0 x4) tf f qf gf uf lf mf nf tr r q gr ur lr mr nr) H := hP
  have hw3r : ((r2 = 1 ∧ ((r1 : Int32) = 0)) ∨ (r2 = 0 ∧ ¬ ((r1 : Int32) = 0))) := hw3r
  refine lv_if_ne (tgt := 15) hx hb dX6_sum_10 (by decide) (fun c5 => ?_) (fun c5 => ?_)
  · have b10 := bT hw3r c5
    obtain ⟨⟨ej, ho⟩, q1⟩ := rwQ_0 hr1 b10
    subst ej
    have q1c := q1
    obtain ⟨rw, hrw, t1⟩ := hT1
    obtain ⟨cl, hcl, t2⟩ := hT2
    obtain ⟨bk, hbk, t3⟩ := hT3
    have hT1 : nL 12 (tf 1) := ⟨rw, hrw, t1⟩
    have hT2 : nL 12 (tf 2) := ⟨cl, hcl, t2⟩
    have hT3 : nL 12 (tf 3) := ⟨bk, hbk, t3⟩
    rw [t1] at q1c
    obtain ⟨i, hi, ei⟩ := inR_n (by omega) q1c
    subst ei
    refine lv_aload_n hx hb dX6_sum_15 rfl (lv_at hl 0 rfl) ?_
    refine va_get (D := G.1) (ci := 6) (v := .ref (xa 1)) (C := RX6) (T := TX6) (N := 10) hx hb hts inX6 hown hK.1 hP 0 rfl rfl 1 (by decide) (hts _ mf_X6_15) (fun _ h9 => h9) rfl dX6_sum_16 ?_
    refine lv_iload_n hx hb dX6_sum_19 rfl (lv_at hl 1 rfl) ?_
    refine xaldT hx hb hK hP 1 (j) (b := (ta 0)) rfl (by omega) (by decide) rfl (htg) dX6_sum_20 ?_
    refine lv_iload_n hx hb dX6_sum_21 rfl (lv_at hl 2 rfl) ?_
    refine rdV (rest := []) (q0 := 0) ⟨hx, hb, hml, hown, hts⟩ (c_X4_isSound l G ta tf tr i cl (by omega) hcl t2) mi_yX4_isSound mv_yX4_isSound ml_X6_153 ⟨rfl, rfl, Nat.le_of_ble_eq_true rfl, Nat.le_of_ble_eq_true rfl⟩ hK (blk_sub (ws' := tW G ta tf tr) (xBlk G x xa ta a b ga ua la lb lc tg gg (upd xf 0 x4) tf f qf gf uf lf mf nf tr r q gr ur lr mr nr) (i := 1) hP rfl (by decide)) rfl rfl rfl hl.1 rfl (Nat.le_of_ble_eq_true rfl) dX6_sum_22 ⟨Nat.zero_le _, Nat.zero_le _⟩ hS hA hP (fun r6 H locs hr6 hP hS => ?_)
    refine lv_if_ne (tgt := 35) hx hb dX6_sum_25 (by decide) (fun c7 => ?_) (fun c7 => ?_)
    · have b25 := bT hr6 c7
      refine lv_aload_n hx hb dX6_sum_35 rfl (lv_at hl 0 rfl) ?_
      refine va_get (D := G.1) (ci := 6) (v := .ref (xa 1)) (C := RX6) (T := TX6) (N := 10) hx hb hts inX6 hown hK.1 hP 0 rfl rfl 1 (by decide) (hts _ mf_X6_15) (fun _ h9 => h9) rfl dX6_sum_36 ?_
      refine lv_iload_n hx hb dX6_sum_39 rfl (lv_at hl 1 rfl) ?_
      refine xaldT hx hb hK hP 1 (j) (b := (ta 0)) rfl (by omega) (by decide) rfl (htg) dX6_sum_40 ?_
      refine lv_iload_n hx hb dX6_sum_41 rfl (lv_at hl 2 rfl) ?_
      refine rdV (rest := []) (q0 := 0) ⟨hx, hb, hml, hown, hts⟩ (c_X4_rowSum l G ta tf tr i cl (by omega) hcl t2) mi_yX4_rowSum mv_yX4_rowSum ml_X6_156 ⟨rfl, rfl, Nat.le_of_ble_eq_true rfl, Nat.le_of_ble_eq_true rfl⟩ hK (blk_sub (ws' := tW G ta tf tr) (xBlk G x xa ta a b ga ua la lb lc tg gg (upd xf 0 x4) tf f qf gf uf lf mf nf tr r q gr ur lr mr nr) (i := 1) hP rfl (by decide)) rfl rfl rfl hl.1 rfl (Nat.le_of_ble_eq_true rfl) dX6_sum_42 ⟨Nat.zero_le _, Nat.zero_le _⟩ hS hA hP (fun r8 H locs hr8 hP hS => ?_)
      exact wr_iret hx hb hr hlocks hS hP ⟨x4, rfl, Or.inr ⟨⟨rfl, ho⟩, q1, i, by omega, rfl, Or.inl ⟨by rw [t2, nI_clamp (by omega)]; exact b25, hr8.trans (by rw [t2, nI_clamp (by omega)])⟩⟩⟩ dX6_sum_45
    · have b25 := bF hr6 c7
      refine lv_aload_n hx hb dX6_sum_28 rfl (lv_at hl 0 rfl) ?_
      refine lv_bipush (v := 11) hx hb dX6_sum_29 (by decide) ?_
      refine wrVIa (rest := []) (q0 := 0) ⟨hx, hb, hml, hown, hts⟩ (x_refused l G x xa ta a b ga ua la lb lc tg gg (upd xf 0 x4) tf f qf gf uf lf mf nf tr r q gr ur lr mr nr 11  ) mi_yX6_refused mv_yX6_refused ml_X6_122 ⟨rfl, rfl, Nat.le_of_ble_eq_true rfl, Nat.le_of_ble_eq_true rfl⟩ hK hP (hDD _ _ _ _ _ _ _ _ _ _ _ _ _ _ _ _ _) rfl rfl rfl hl.1 rfl (Nat.le_of_ble_eq_true rfl) dX6_sum_31 ⟨Nat.zero_le _, Nat.zero_le _⟩ hS hA (fun r9 w10 H locs hw10 hP hS => ?_)
      obtain ⟨x11, rfl, hw10r⟩ := hw10
      have hP : PP G (xM G x xa ta a b ga ua la lb lc tg gg (upd xf 0 x11) tf f qf gf uf lf mf nf tr r q gr ur lr mr nr) H := hP
      obtain rfl := hw10r
      exact wr_iret hx hb hr hlocks hS hP ⟨x11, rfl, Or.inr ⟨⟨rfl, ho⟩, q1, i, by omega, rfl, Or.inr ⟨by rw [t2, nI_clamp (by omega)]; exact b25, rfl⟩⟩⟩ dX6_sum_34
  · have b10 := bF hw3r c5
    refine lv_iconst (v := -1) hx hb dX6_sum_13 (by decide) ?_
    exact wr_iret hx hb hr hlocks hS hP ⟨x4, rfl, Or.inl ⟨fun h9 => rwQ_n hr1 b10 h9.1 h9.2, rfl⟩⟩ dX6_sum_14
set_option maxHeartbeats 4000000 in
set_option maxRecDepth 100000 in
theorem x_total (l : Launch) (G : GG) (x : Nat) (xa ta a b ga ua la lb lc : Nat → Nat) (tg gg : Nat → Option Nat) (xf tf f qf gf uf lf mf nf : Nat → Int32) (tr r q gr ur lr mr nr : Nat → Nat → Int32) (tb : Int32) (row : Int32) (col : Int32) (j : Nat) (hj : j < 6) (hjt : tbJ tb j) (htg : tg j = some (ta 0)) (hT1 : nL 12 (tf 1)) (hT2 : nL 12 (tf 2)) (hT3 : nL 12 (tf 3)) (hT4 : nOK 12 12 (tr 4)) : WrI l yX6_total cX6_total 4 (some .int) ({ frames := 3, cells := 0, slots := 0, locals := 69 }) G (xM G x xa ta a b ga ua la lb lc tg gg xf tf f qf gf uf lf mf nf tr r q gr ur lr mr nr) [.ref x, .int tb, .int row, .int col] (fun qz w => ∃ (n_xf_0 : Int32), w = xM G x xa ta a b ga ua la lb lc tg gg (upd xf 0 n_xf_0) tf f qf gf uf lf mf nf tr r q gr ur lr mr nr ∧ roX (tbO tb j (tf 0)) (tf 1) row (fun i => svE (fun kk => kk < 12 ∧ col = nI kk ∧ inR (tf 2) col ∧ sndP ((tf 2)).toNatClampNeg (tr 4) (tr 5) i) (fun kk => qz = csF ((tf 2)).toNatClampNeg (tr 4) (tr 5) (tr 6) (tr 10) (tr 11) ((tf 3)).toNatClampNeg (clS (tr 10) (tr 11) (nI i) ((tf 3)).toNatClampNeg).1 kk ((tf 1)).toNatClampNeg) (qz = -1)) (qz = -1)) := by
  refine wr_entryI (by decide +kernel) (Nat.le_of_ble_eq_true rfl) ?_
  intro p e s m below meth c A C0 hP hK hD hA ls hl
  have hS : va_S A s.heap s.heap [] := va_S.rf
  obtain ⟨hx, hb, hml, hown, hts, hr, hlocks, hin⟩ := C0
  have hown : s.vm.findClass RX6 = some m.cls := hown
  have hDD : ∀ xf' tf' f' qf' gf' uf' lf' mf' nf' tr' r' q' gr' ur' lr' mr' nr', va_D A (xM G x xa ta a b ga ua la lb lc tg gg xf' tf' f' qf' gf' uf' lf' mf' nf' tr' r' q' gr' ur' lr' mr' nr') := fun xf' tf' f' qf' gf' uf' lf' mf' nf' tr' r' q' gr' ur' lr' mr' nr' => D_same hD rfl
  have hl : lv_has ls 4 [(0, .ref x), (1, .int tb), (2, .int row), (3, .int col)] := hl
  refine lv_aload_n hx hb dX6_total_0 rfl (lv_at hl 0 rfl) ?_
  refine lv_aload_n hx hb dX6_total_1 rfl (lv_at hl 0 rfl) ?_
  refine lv_iload_n hx hb dX6_total_2 rfl (lv_at hl 1 rfl) ?_
  refine lv_iload_n hx hb dX6_total_3 rfl (lv_at hl 2 rfl) ?_
  refine rdV (rest := [.ref x]) (q0 := 0) ⟨hx, hb, hml, hown, hts⟩ (x_rowStatus l G x xa ta a b ga ua la lb lc tg gg xf tf f qf gf uf lf mf nf tr r q gr ur lr mr nr tb row j (by omega) hjt htg) mi_yX6_rowStatus mv_yX6_rowStatus ml_X6_110 ⟨rfl, rfl, Nat.le_of_ble_eq_true rfl, Nat.le_of_ble_eq_true rfl⟩ hK (hP) rfl rfl rfl hl.1 rfl (Nat.le_of_ble_eq_true rfl) dX6_total_4 ⟨Nat.zero_le _, Nat.zero_le _⟩ hS hA hP (fun r1 H locs hr1 hP hS => ?_)
  have hr1 : rwQ (tbO tb j (tf 0)) (tf 1) row r1 := hr1
  refine wrVIa (rest := []) (q0 := 0) ⟨hx, hb, hml, hown, hts⟩ (x_settled l G x xa ta a b ga ua la lb lc tg gg xf tf f qf gf uf lf mf nf tr r q gr ur lr mr nr r1  ) mi_yX6_settled mv_yX6_settled ml_X6_65 ⟨rfl, rfl, Nat.le_of_ble_eq_true rfl, Nat.le_of_ble_eq_true rfl⟩ hK hP (hDD _ _ _ _ _ _ _ _ _ _ _ _ _ _ _ _ _) rfl rfl rfl hl.1 rfl (Nat.le_of_ble_eq_true rfl) dX6_total_7 ⟨Nat.zero_le _, Nat.zero_le _⟩ hS hA (fun r2 w3 H locs hw3 hP hS => ?_)
  obtain ⟨x4, rfl, hw3r⟩ := hw3
  have hP : PP G (xM G x xa ta a b ga ua la lb lc tg gg (upd xf 0 x4) tf f qf gf uf lf mf nf tr r q gr ur lr mr nr) H := hP
  have hw3r : ((r2 = 1 ∧ ((r1 : Int32) = 0)) ∨ (r2 = 0 ∧ ¬ ((r1 : Int32) = 0))) := hw3r
  refine lv_if_ne (tgt := 15) hx hb dX6_total_10 (by decide) (fun c5 => ?_) (fun c5 => ?_)
  · have b10 := bT hw3r c5
    obtain ⟨⟨ej, ho⟩, q1⟩ := rwQ_0 hr1 b10
    subst ej
    have q1c := q1
    obtain ⟨rw, hrw, t1⟩ := hT1
    obtain ⟨cl, hcl, t2⟩ := hT2
    obtain ⟨bk, hbk, t3⟩ := hT3
    have hT1 : nL 12 (tf 1) := ⟨rw, hrw, t1⟩
    have hT2 : nL 12 (tf 2) := ⟨cl, hcl, t2⟩
    have hT3 : nL 12 (tf 3) := ⟨bk, hbk, t3⟩
    rw [t1] at q1c
    obtain ⟨i, hi, ei⟩ := inR_n (by omega) q1c
    subst ei
    refine lv_iload_n hx hb dX6_total_15 rfl (lv_at hl 3 rfl) ?_
    refine lv_if_lt (tgt := 32) hx hb dX6_total_16 (by decide) (fun c6 => ?_) (fun c6 => ?_)
    · refine lv_aload_n hx hb dX6_total_32 rfl (lv_at hl 0 rfl) ?_
      refine lv_iconst (v := 2) hx hb dX6_total_33 (by decide) ?_
      refine wrVIa (rest := []) (q0 := 0) ⟨hx, hb, hml, hown, hts⟩ (x_refused l G x xa ta a b ga ua la lb lc tg gg (upd xf 0 x4) tf f qf gf uf lf mf nf tr r q gr ur lr mr nr 2  ) mi_yX6_refused mv_yX6_refused ml_X6_122 ⟨rfl, rfl, Nat.le_of_ble_eq_true rfl, Nat.le_of_ble_eq_true rfl⟩ hK hP (hDD _ _ _ _ _ _ _ _ _ _ _ _ _ _ _ _ _) rfl rfl rfl hl.1 rfl (Nat.le_of_ble_eq_true rfl) dX6_total_34 ⟨Nat.zero_le _, Nat.zero_le _⟩ hS hA (fun r7 w8 H locs hw8 hP hS => ?_)
      obtain ⟨x9, rfl, hw8r⟩ := hw8
      have hP : PP G (xM G x xa ta a b ga ua la lb lc tg gg (upd xf 0 x9) tf f qf gf uf lf mf nf tr r q gr ur lr mr nr) H := hP
      obtain rfl := hw8r
      exact wr_iret hx hb hr hlocks hS hP ⟨x9, rfl, Or.inr ⟨⟨rfl, ho⟩, q1, i, by omega, rfl, Or.inr ⟨fun ⟨k9, h9⟩ => h9.2.2.1.1 c6, rfl⟩⟩⟩ dX6_total_37
    · refine lv_iload_n hx hb dX6_total_19 rfl (lv_at hl 3 rfl) ?_
      refine lv_aload_n hx hb dX6_total_20 rfl (lv_at hl 0 rfl) ?_
      refine va_get (D := G.1) (ci := 6) (v := .ref (xa 1)) (C := RX6) (T := TX6) (N := 10) hx hb hts inX6 hown hK.1 hP 0 rfl rfl 1 (by decide) (hts _ mf_X6_15) (fun _ h9 => h9) rfl dX6_total_21 ?_
      refine lv_iload_n hx hb dX6_total_24 rfl (lv_at hl 1 rfl) ?_
      refine xaldT hx hb hK hP 1 (j) (b := (ta 0)) rfl (by omega) (by decide) rfl (htg) dX6_total_25 ?_
      refine va_get (D := G.1) (ci := 4) (v := .int (tf 2)) (C := RX4) (T := TX4) (N := 12) hx hb hts inX4 hown hK.1 hP 2 rfl rfl 2 (by decide) (hts _ mf_X6_159) (fun _ h9 => h9) rfl dX6_total_26 ?_
      rw [show (tf 2) = nI (cl) from t2]
      refine lv_icmp_lt (tgt := 38) hx hb dX6_total_29 (by decide) (fun c10 => ?_) (fun c10 => ?_)
      · obtain ⟨k, hk, ek⟩ := lt_ix (x := col) (n := cl) (by omega) c6 (Int32.not_le.mpr c10)
        subst ek
        refine lv_aload_n hx hb dX6_total_38 rfl (lv_at hl 0 rfl) ?_
        refine va_get (D := G.1) (ci := 6) (v := .ref (xa 1)) (C := RX6) (T := TX6) (N := 10) hx hb hts inX6 hown hK.1 hP 0 rfl rfl 1 (by decide) (hts _ mf_X6_15) (fun _ h9 => h9) rfl dX6_total_39 ?_
        refine lv_iload_n hx hb dX6_total_42 rfl (lv_at hl 1 rfl) ?_
        refine xaldT hx hb hK hP 1 (j) (b := (ta 0)) rfl (by omega) (by decide) rfl (htg) dX6_total_43 ?_
        refine lv_iload_n hx hb dX6_total_44 rfl (lv_at hl 2 rfl) ?_
        refine rdV (rest := []) (q0 := 0) ⟨hx, hb, hml, hown, hts⟩ (c_X4_isSound l G ta tf tr i cl (by omega) hcl t2) mi_yX4_isSound mv_yX4_isSound ml_X6_153 ⟨rfl, rfl, Nat.le_of_ble_eq_true rfl, Nat.le_of_ble_eq_true rfl⟩ hK (blk_sub (ws' := tW G ta tf tr) (xBlk G x xa ta a b ga ua la lb lc tg gg (upd xf 0 x4) tf f qf gf uf lf mf nf tr r q gr ur lr mr nr) (i := 1) hP rfl (by decide)) rfl rfl rfl hl.1 rfl (Nat.le_of_ble_eq_true rfl) dX6_total_45 ⟨Nat.zero_le _, Nat.zero_le _⟩ hS hA hP (fun r11 H locs hr11 hP hS => ?_)
        refine lv_if_ne (tgt := 58) hx hb dX6_total_48 (by decide) (fun c12 => ?_) (fun c12 => ?_)
        · have b48 := bT hr11 c12
          refine lv_aload_n hx hb dX6_total_58 rfl (lv_at hl 0 rfl) ?_
          refine va_get (D := G.1) (ci := 6) (v := .ref (xa 1)) (C := RX6) (T := TX6) (N := 10) hx hb hts inX6 hown hK.1 hP 0 rfl rfl 1 (by decide) (hts _ mf_X6_15) (fun _ h9 => h9) rfl dX6_total_59 ?_
          refine lv_iload_n hx hb dX6_total_62 rfl (lv_at hl 1 rfl) ?_
          refine xaldT hx hb hK hP 1 (j) (b := (ta 0)) rfl (by omega) (by decide) rfl (htg) dX6_total_63 ?_
          refine lv_iload_n hx hb dX6_total_64 rfl (lv_at hl 2 rfl) ?_
          refine lv_iload_n hx hb dX6_total_65 rfl (lv_at hl 3 rfl) ?_
          refine rdV (rest := []) (q0 := 0) ⟨hx, hb, hml, hown, hts⟩ (c_X4_classSum l G ta tf tr i k rw cl bk hrw hcl hbk t1 t2 t3 (by omega) (by omega)) mi_yX4_classSum mv_yX4_classSum ml_X6_162 ⟨rfl, rfl, Nat.le_of_ble_eq_true rfl, Nat.le_of_ble_eq_true rfl⟩ hK (blk_sub (ws' := tW G ta tf tr) (xBlk G x xa ta a b ga ua la lb lc tg gg (upd xf 0 x4) tf f qf gf uf lf mf nf tr r q gr ur lr mr nr) (i := 1) hP rfl (by decide)) rfl rfl rfl hl.1 rfl (Nat.le_of_ble_eq_true rfl) dX6_total_66 ⟨Nat.zero_le _, Nat.zero_le _⟩ hS hA hP (fun r13 H locs hr13 hP hS => ?_)
          exact wr_iret hx hb hr hlocks hS hP ⟨x4, rfl, Or.inr ⟨⟨rfl, ho⟩, q1, i, by omega, rfl, Or.inl ⟨k, ⟨by omega, rfl, ⟨c6, by first | exact Int32.not_le.mpr c10 | (rw [t2]; exact Int32.not_le.mpr c10)⟩, by first | (rw [t2, nI_clamp (by omega)]; exact b48) | (rw [nI_clamp (by omega)]; exact b48)⟩, hr13.trans (by first | rw [t1, t2, t3, nI_clamp (by omega), nI_clamp (by omega), nI_clamp (by omega)] | rw [t1, t3, nI_clamp (by omega), nI_clamp (by omega), nI_clamp (by omega)])⟩⟩⟩ dX6_total_69
        · have b48 := bF hr11 c12
          refine lv_aload_n hx hb dX6_total_51 rfl (lv_at hl 0 rfl) ?_
          refine lv_bipush (v := 11) hx hb dX6_total_52 (by decide) ?_
          refine wrVIa (rest := []) (q0 := 0) ⟨hx, hb, hml, hown, hts⟩ (x_refused l G x xa ta a b ga ua la lb lc tg gg (upd xf 0 x4) tf f qf gf uf lf mf nf tr r q gr ur lr mr nr 11  ) mi_yX6_refused mv_yX6_refused ml_X6_122 ⟨rfl, rfl, Nat.le_of_ble_eq_true rfl, Nat.le_of_ble_eq_true rfl⟩ hK hP (hDD _ _ _ _ _ _ _ _ _ _ _ _ _ _ _ _ _) rfl rfl rfl hl.1 rfl (Nat.le_of_ble_eq_true rfl) dX6_total_54 ⟨Nat.zero_le _, Nat.zero_le _⟩ hS hA (fun r14 w15 H locs hw15 hP hS => ?_)
          obtain ⟨x16, rfl, hw15r⟩ := hw15
          have hP : PP G (xM G x xa ta a b ga ua la lb lc tg gg (upd xf 0 x16) tf f qf gf uf lf mf nf tr r q gr ur lr mr nr) H := hP
          obtain rfl := hw15r
          exact wr_iret hx hb hr hlocks hS hP ⟨x16, rfl, Or.inr ⟨⟨rfl, ho⟩, q1, i, by omega, rfl, Or.inr ⟨fun ⟨k9, h9⟩ => b48 (by have h8 := h9.2.2.2; first | (rw [t2, nI_clamp (by omega)] at h8; exact h8) | (rw [nI_clamp (by omega)] at h8; exact h8)), rfl⟩⟩⟩ dX6_total_57
      · refine lv_aload_n hx hb dX6_total_32 rfl (lv_at hl 0 rfl) ?_
        refine lv_iconst (v := 2) hx hb dX6_total_33 (by decide) ?_
        refine wrVIa (rest := []) (q0 := 0) ⟨hx, hb, hml, hown, hts⟩ (x_refused l G x xa ta a b ga ua la lb lc tg gg (upd xf 0 x4) tf f qf gf uf lf mf nf tr r q gr ur lr mr nr 2  ) mi_yX6_refused mv_yX6_refused ml_X6_122 ⟨rfl, rfl, Nat.le_of_ble_eq_true rfl, Nat.le_of_ble_eq_true rfl⟩ hK hP (hDD _ _ _ _ _ _ _ _ _ _ _ _ _ _ _ _ _) rfl rfl rfl hl.1 rfl (Nat.le_of_ble_eq_true rfl) dX6_total_34 ⟨Nat.zero_le _, Nat.zero_le _⟩ hS hA (fun r17 w18 H locs hw18 hP hS => ?_)
        obtain ⟨x19, rfl, hw18r⟩ := hw18
        have hP : PP G (xM G x xa ta a b ga ua la lb lc tg gg (upd xf 0 x19) tf f qf gf uf lf mf nf tr r q gr ur lr mr nr) H := hP
        obtain rfl := hw18r
        exact wr_iret hx hb hr hlocks hS hP ⟨x19, rfl, Or.inr ⟨⟨rfl, ho⟩, q1, i, by omega, rfl, Or.inr ⟨fun ⟨k9, h9⟩ => h9.2.2.1.2 (by first | exact Int32.not_lt.mp c10 | (rw [t2]; exact Int32.not_lt.mp c10)), rfl⟩⟩⟩ dX6_total_37
  · have b10 := bF hw3r c5
    refine lv_iconst (v := -1) hx hb dX6_total_13 (by decide) ?_
    exact wr_iret hx hb hr hlocks hS hP ⟨x4, rfl, Or.inl ⟨fun h9 => rwQ_n hr1 b10 h9.1 h9.2, rfl⟩⟩ dX6_total_14
set_option maxHeartbeats 4000000 in
set_option maxRecDepth 100000 in
theorem x_secret (l : Launch) (G : GG) (x : Nat) (xa ta a b ga ua la lb lc : Nat → Nat) (tg gg : Nat → Option Nat) (xf tf f qf gf uf lf mf nf : Nat → Int32) (tr r q gr ur lr mr nr : Nat → Nat → Int32) (tb : Int32) (row : Int32) (col : Int32) (j : Nat) (hj : j < 6) (hjt : tbJ tb j) (htg : tg j = some (ta 0)) (hT1 : nL 12 (tf 1)) (hT2 : nL 12 (tf 2)) (hT3 : nL 12 (tf 3)) (hT4 : nOK 12 12 (tr 4)) : WrI l yX6_secret cX6_secret 4 (some .int) ({ frames := 6, cells := 0, slots := 0, locals := 141 }) G (xM G x xa ta a b ga ua la lb lc tg gg xf tf f qf gf uf lf mf nf tr r q gr ur lr mr nr) [.ref x, .int tb, .int row, .int col] (fun qz w => ∃ (n_xf_0 : Int32), w = xM G x xa ta a b ga ua la lb lc tg gg (upd xf 0 n_xf_0) tf f qf gf uf lf mf nf tr r q gr ur lr mr nr ∧ atP (stX (tbO tb j (tf 0)) (tf 1) (tf 2) (tr 4) row col) row col (fun i k => sv ((¬ (tr 5) (i * 12 + k) = 0 ∧ ¬ (tr 5) (i * 12 + k) = 5) ∧ sndP ((tf 2)).toNatClampNeg (tr 4) (tr 5) i) (qz = rsF (tr 5) (tr 6) (tr 7) (tr 8) (tr 9) (i * 12 + k)) (qz = -1)) (qz = -1)) := by
  refine wr_entryI (by decide +kernel) (Nat.le_of_ble_eq_true rfl) ?_
  intro p e s m below meth c A C0 hP hK hD hA ls hl
  have hS : va_S A s.heap s.heap [] := va_S.rf
  obtain ⟨hx, hb, hml, hown, hts, hr, hlocks, hin⟩ := C0
  have hown : s.vm.findClass RX6 = some m.cls := hown
  have hDD : ∀ xf' tf' f' qf' gf' uf' lf' mf' nf' tr' r' q' gr' ur' lr' mr' nr', va_D A (xM G x xa ta a b ga ua la lb lc tg gg xf' tf' f' qf' gf' uf' lf' mf' nf' tr' r' q' gr' ur' lr' mr' nr') := fun xf' tf' f' qf' gf' uf' lf' mf' nf' tr' r' q' gr' ur' lr' mr' nr' => D_same hD rfl
  have hl : lv_has ls 4 [(0, .ref x), (1, .int tb), (2, .int row), (3, .int col)] := hl
  refine lv_aload_n hx hb dX6_secret_0 rfl (lv_at hl 0 rfl) ?_
  refine lv_aload_n hx hb dX6_secret_1 rfl (lv_at hl 0 rfl) ?_
  refine lv_iload_n hx hb dX6_secret_2 rfl (lv_at hl 1 rfl) ?_
  refine lv_iload_n hx hb dX6_secret_3 rfl (lv_at hl 2 rfl) ?_
  refine lv_iload_n hx hb dX6_secret_4 rfl (lv_at hl 3 rfl) ?_
  refine rdV (rest := [.ref x]) (q0 := 0) ⟨hx, hb, hml, hown, hts⟩ (x_soundCellStatus l G x xa ta a b ga ua la lb lc tg gg xf tf f qf gf uf lf mf nf tr r q gr ur lr mr nr tb row col j (by omega) hjt htg hT1 hT2 hT3) mi_yX6_soundCellStatus mv_yX6_soundCellStatus ml_X6_165 ⟨rfl, rfl, Nat.le_of_ble_eq_true rfl, Nat.le_of_ble_eq_true rfl⟩ hK (hP) rfl rfl rfl hl.1 rfl (Nat.le_of_ble_eq_true rfl) dX6_secret_5 ⟨Nat.zero_le _, Nat.zero_le _⟩ hS hA hP (fun r1 H locs hr1 hP hS => ?_)
  have hr1 : stK (stX (tbO tb j (tf 0)) (tf 1) (tf 2) (tr 4) row col) row col (fun i k => kfS ((tr 5) (i * 12 + k)) (sndP ((tf 2)).toNatClampNeg (tr 4) (tr 5) i)) r1 := hr1
  refine wrVIa (rest := []) (q0 := 0) ⟨hx, hb, hml, hown, hts⟩ (x_settled l G x xa ta a b ga ua la lb lc tg gg xf tf f qf gf uf lf mf nf tr r q gr ur lr mr nr r1  ) mi_yX6_settled mv_yX6_settled ml_X6_65 ⟨rfl, rfl, Nat.le_of_ble_eq_true rfl, Nat.le_of_ble_eq_true rfl⟩ hK hP (hDD _ _ _ _ _ _ _ _ _ _ _ _ _ _ _ _ _) rfl rfl rfl hl.1 rfl (Nat.le_of_ble_eq_true rfl) dX6_secret_8 ⟨Nat.zero_le _, Nat.zero_le _⟩ hS hA (fun r2 w3 H locs hw3 hP hS => ?_)
  obtain ⟨x4, rfl, hw3r⟩ := hw3
  have hP : PP G (xM G x xa ta a b ga ua la lb lc tg gg (upd xf 0 x4) tf f qf gf uf lf mf nf tr r q gr ur lr mr nr) H := hP
  have hw3r : ((r2 = 1 ∧ ((r1 : Int32) = 0)) ∨ (r2 = 0 ∧ ¬ ((r1 : Int32) = 0))) := hw3r
  refine lv_if_ne (tgt := 16) hx hb dX6_secret_11 (by decide) (fun c5 => ?_) (fun c5 => ?_)
  · have b11 := bT hw3r c5
    have hs0 := stK_0 hr1 b11
    obtain ⟨⟨ej, ho⟩, q1, q2⟩ := stX_0 hs0 rfl
    subst ej
    have q1c := q1
    have q2c := q2
    obtain ⟨rw, hrw, t1⟩ := hT1
    obtain ⟨cl, hcl, t2⟩ := hT2
    obtain ⟨bk, hbk, t3⟩ := hT3
    have hT1 : nL 12 (tf 1) := ⟨rw, hrw, t1⟩
    have hT2 : nL 12 (tf 2) := ⟨cl, hcl, t2⟩
    have hT3 : nL 12 (tf 3) := ⟨bk, hbk, t3⟩
    rw [t1] at q1c
    rw [t2] at q2c
    obtain ⟨i, hi, ei⟩ := inR_n (by omega) q1c
    subst ei
    obtain ⟨k, hk, ek⟩ := inR_n (by omega) q2c
    subst ek
    have hkk := stK_k hr1 b11 (show i < 12 by omega) (show k < 12 by omega) rfl rfl
    refine lv_aload_n hx hb dX6_secret_16 rfl (lv_at hl 0 rfl) ?_
    refine va_get (D := G.1) (ci := 6) (v := .ref (xa 1)) (C := RX6) (T := TX6) (N := 10) hx hb hts inX6 hown hK.1 hP 0 rfl rfl 1 (by decide) (hts _ mf_X6_15) (fun _ h9 => h9) rfl dX6_secret_17 ?_
    refine lv_iload_n hx hb dX6_secret_20 rfl (lv_at hl 1 rfl) ?_
    refine xaldT hx hb hK hP 1 (j) (b := (ta 0)) rfl (by omega) (by decide) rfl (htg) dX6_secret_21 ?_
    refine lv_iload_n hx hb dX6_secret_22 rfl (lv_at hl 2 rfl) ?_
    refine lv_iload_n hx hb dX6_secret_23 rfl (lv_at hl 3 rfl) ?_
    refine rdS (rest := [.ref (ta 0)]) ⟨hx, hb, hml, hown, hts⟩ (c_X6_spotOf l G ((nI i)) ((nI k))) mi_yX6_spotOf mst_yX6_spotOf ml_X6_92 ⟨rfl, rfl, Nat.le_of_ble_eq_true rfl, Nat.le_of_ble_eq_true rfl⟩ hK (fun k q h => by simp at h) rfl hl.1 rfl (Nat.le_of_ble_eq_true rfl) dX6_secret_24 ⟨Nat.zero_le _, Nat.zero_le _⟩ hS hA hP (fun r6 H locs hr6 hP hS => ?_)
    obtain rfl : r6 = nI (i * 12 + k) := spot_eq hr6
    refine rdV (rest := []) (q0 := 0) ⟨hx, hb, hml, hown, hts⟩ (c_X4_reasons l G ta tf tr (i * 12 + k) (by omega)) mi_yX4_reasons mv_yX4_reasons ml_X6_168 ⟨rfl, rfl, Nat.le_of_ble_eq_true rfl, Nat.le_of_ble_eq_true rfl⟩ hK (blk_sub (ws' := tW G ta tf tr) (xBlk G x xa ta a b ga ua la lb lc tg gg (upd xf 0 x4) tf f qf gf uf lf mf nf tr r q gr ur lr mr nr) (i := 1) hP rfl (by decide)) rfl rfl rfl hl.1 rfl (Nat.le_of_ble_eq_true rfl) dX6_secret_27 ⟨Nat.zero_le _, Nat.zero_le _⟩ hS hA hP (fun r7 H locs hr7 hP hS => ?_)
    exact wr_iret hx hb hr hlocks hS hP ⟨x4, rfl, Or.inr ⟨hs0, i, k, by omega, by omega, rfl, rfl, Or.inl ⟨kfS_i hkk, hr7⟩⟩⟩ dX6_secret_30
  · have b11 := bF hw3r c5
    refine lv_iconst (v := -1) hx hb dX6_secret_14 (by decide) ?_
    exact wr_iret hx hb hr hlocks hS hP ⟨x4, rfl, atP_n hr1 b11 rfl (fun i k h => Or.inr ⟨fun z => h (kfS_g z.1.1 z.1.2 z.2), rfl⟩)⟩ dX6_secret_15
set_option maxHeartbeats 4000000 in
set_option maxRecDepth 100000 in
theorem x_kept (l : Launch) (G : GG) (x : Nat) (xa ta a b ga ua la lb lc : Nat → Nat) (tg gg : Nat → Option Nat) (xf tf f qf gf uf lf mf nf : Nat → Int32) (tr r q gr ur lr mr nr : Nat → Nat → Int32) (tb : Int32) (row : Int32) (col : Int32) (j : Nat) (hj : j < 6) (hjt : tbJ tb j) (htg : tg j = some (ta 0)) (hT1 : nL 12 (tf 1)) (hT2 : nL 12 (tf 2)) (hT3 : nL 12 (tf 3)) (hT4 : nOK 12 12 (tr 4)) : WrI l yX6_kept cX6_kept 4 (some .int) ({ frames := 6, cells := 0, slots := 0, locals := 141 }) G (xM G x xa ta a b ga ua la lb lc tg gg xf tf f qf gf uf lf mf nf tr r q gr ur lr mr nr) [.ref x, .int tb, .int row, .int col] (fun qz w => ∃ (n_xf_0 : Int32), w = xM G x xa ta a b ga ua la lb lc tg gg (upd xf 0 n_xf_0) tf f qf gf uf lf mf nf tr r q gr ur lr mr nr) := by
  refine wr_entryI (by decide +kernel) (Nat.le_of_ble_eq_true rfl) ?_
  intro p e s m below meth c A C0 hP hK hD hA ls hl
  have hS : va_S A s.heap s.heap [] := va_S.rf
  obtain ⟨hx, hb, hml, hown, hts, hr, hlocks, hin⟩ := C0
  have hown : s.vm.findClass RX6 = some m.cls := hown
  have hDD : ∀ xf' tf' f' qf' gf' uf' lf' mf' nf' tr' r' q' gr' ur' lr' mr' nr', va_D A (xM G x xa ta a b ga ua la lb lc tg gg xf' tf' f' qf' gf' uf' lf' mf' nf' tr' r' q' gr' ur' lr' mr' nr') := fun xf' tf' f' qf' gf' uf' lf' mf' nf' tr' r' q' gr' ur' lr' mr' nr' => D_same hD rfl
  have hl : lv_has ls 4 [(0, .ref x), (1, .int tb), (2, .int row), (3, .int col)] := hl
  refine lv_aload_n hx hb dX6_kept_0 rfl (lv_at hl 0 rfl) ?_
  refine lv_aload_n hx hb dX6_kept_1 rfl (lv_at hl 0 rfl) ?_
  refine lv_iload_n hx hb dX6_kept_2 rfl (lv_at hl 1 rfl) ?_
  refine lv_iload_n hx hb dX6_kept_3 rfl (lv_at hl 2 rfl) ?_
  refine lv_iload_n hx hb dX6_kept_4 rfl (lv_at hl 3 rfl) ?_
  refine rdV (rest := [.ref x]) (q0 := 0) ⟨hx, hb, hml, hown, hts⟩ (x_soundCellStatus l G x xa ta a b ga ua la lb lc tg gg xf tf f qf gf uf lf mf nf tr r q gr ur lr mr nr tb row col j (by omega) hjt htg hT1 hT2 hT3) mi_yX6_soundCellStatus mv_yX6_soundCellStatus ml_X6_165 ⟨rfl, rfl, Nat.le_of_ble_eq_true rfl, Nat.le_of_ble_eq_true rfl⟩ hK (hP) rfl rfl rfl hl.1 rfl (Nat.le_of_ble_eq_true rfl) dX6_kept_5 ⟨Nat.zero_le _, Nat.zero_le _⟩ hS hA hP (fun r1 H locs hr1 hP hS => ?_)
  have hr1 : stK (stX (tbO tb j (tf 0)) (tf 1) (tf 2) (tr 4) row col) row col (fun i k => kfS ((tr 5) (i * 12 + k)) (sndP ((tf 2)).toNatClampNeg (tr 4) (tr 5) i)) r1 := hr1
  refine wrVIa (rest := []) (q0 := 0) ⟨hx, hb, hml, hown, hts⟩ (x_settled l G x xa ta a b ga ua la lb lc tg gg xf tf f qf gf uf lf mf nf tr r q gr ur lr mr nr r1  ) mi_yX6_settled mv_yX6_settled ml_X6_65 ⟨rfl, rfl, Nat.le_of_ble_eq_true rfl, Nat.le_of_ble_eq_true rfl⟩ hK hP (hDD _ _ _ _ _ _ _ _ _ _ _ _ _ _ _ _ _) rfl rfl rfl hl.1 rfl (Nat.le_of_ble_eq_true rfl) dX6_kept_8 ⟨Nat.zero_le _, Nat.zero_le _⟩ hS hA (fun r2 w3 H locs hw3 hP hS => ?_)
  obtain ⟨x4, rfl, hw3r⟩ := hw3
  have hP : PP G (xM G x xa ta a b ga ua la lb lc tg gg (upd xf 0 x4) tf f qf gf uf lf mf nf tr r q gr ur lr mr nr) H := hP
  have hw3r : ((r2 = 1 ∧ ((r1 : Int32) = 0)) ∨ (r2 = 0 ∧ ¬ ((r1 : Int32) = 0))) := hw3r
  refine lv_if_ne (tgt := 16) hx hb dX6_kept_11 (by decide) (fun c5 => ?_) (fun c5 => ?_)
  · have b11 := bT hw3r c5
    have hs0 := stK_0 hr1 b11
    obtain ⟨⟨ej, ho⟩, q1, q2⟩ := stX_0 hs0 rfl
    subst ej
    have q1c := q1
    have q2c := q2
    obtain ⟨rw, hrw, t1⟩ := hT1
    obtain ⟨cl, hcl, t2⟩ := hT2
    obtain ⟨bk, hbk, t3⟩ := hT3
    have hT1 : nL 12 (tf 1) := ⟨rw, hrw, t1⟩
    have hT2 : nL 12 (tf 2) := ⟨cl, hcl, t2⟩
    have hT3 : nL 12 (tf 3) := ⟨bk, hbk, t3⟩
    rw [t1] at q1c
    rw [t2] at q2c
    obtain ⟨i, hi, ei⟩ := inR_n (by omega) q1c
    subst ei
    obtain ⟨k, hk, ek⟩ := inR_n (by omega) q2c
    subst ek
    have hkk := stK_k hr1 b11 (show i < 12 by omega) (show k < 12 by omega) rfl rfl
    refine lv_aload_n hx hb dX6_kept_16 rfl (lv_at hl 0 rfl) ?_
    refine va_get (D := G.1) (ci := 6) (v := .ref (xa 1)) (C := RX6) (T := TX6) (N := 10) hx hb hts inX6 hown hK.1 hP 0 rfl rfl 1 (by decide) (hts _ mf_X6_15) (fun _ h9 => h9) rfl dX6_kept_17 ?_
    refine lv_iload_n hx hb dX6_kept_20 rfl (lv_at hl 1 rfl) ?_
    refine xaldT hx hb hK hP 1 (j) (b := (ta 0)) rfl (by omega) (by decide) rfl (htg) dX6_kept_21 ?_
    refine lv_iload_n hx hb dX6_kept_22 rfl (lv_at hl 2 rfl) ?_
    refine lv_iload_n hx hb dX6_kept_23 rfl (lv_at hl 3 rfl) ?_
    refine rdS (rest := [.ref (ta 0)]) ⟨hx, hb, hml, hown, hts⟩ (c_X6_spotOf l G ((nI i)) ((nI k))) mi_yX6_spotOf mst_yX6_spotOf ml_X6_92 ⟨rfl, rfl, Nat.le_of_ble_eq_true rfl, Nat.le_of_ble_eq_true rfl⟩ hK (fun k q h => by simp at h) rfl hl.1 rfl (Nat.le_of_ble_eq_true rfl) dX6_kept_24 ⟨Nat.zero_le _, Nat.zero_le _⟩ hS hA hP (fun r6 H locs hr6 hP hS => ?_)
    obtain rfl : r6 = nI (i * 12 + k) := spot_eq hr6
    refine rdV (rest := []) (q0 := 0) ⟨hx, hb, hml, hown, hts⟩ (c_X4_isKept l G ta tf tr (i * 12 + k) (by omega)) mi_yX4_isKept mv_yX4_isKept ml_X6_171 ⟨rfl, rfl, Nat.le_of_ble_eq_true rfl, Nat.le_of_ble_eq_true rfl⟩ hK (blk_sub (ws' := tW G ta tf tr) (xBlk G x xa ta a b ga ua la lb lc tg gg (upd xf 0 x4) tf f qf gf uf lf mf nf tr r q gr ur lr mr nr) (i := 1) hP rfl (by decide)) rfl rfl rfl hl.1 rfl (Nat.le_of_ble_eq_true rfl) dX6_kept_27 ⟨Nat.zero_le _, Nat.zero_le _⟩ hS hA hP (fun r7 H locs hr7 hP hS => ?_)
    refine lv_if_eq (tgt := 37) hx hb dX6_kept_30 (by decide) (fun c8 => ?_) (fun c8 => ?_)
    · have b30 := bF hr7 c8
      refine lv_iconst (v := 0) hx hb dX6_kept_37 (by decide) ?_
      exact wr_iret hx hb hr hlocks hS hP ⟨x4, rfl⟩ dX6_kept_38
    · have b30 := bT hr7 c8
      refine lv_iconst (v := 1) hx hb dX6_kept_33 (by decide) ?_
      refine lv_goto (tgt := 38) hx hb dX6_kept_34 (by decide) ?_
      exact wr_iret hx hb hr hlocks hS hP ⟨x4, rfl⟩ dX6_kept_38
  · have b11 := bF hw3r c5
    refine lv_iconst (v := -1) hx hb dX6_kept_14 (by decide) ?_
    exact wr_iret hx hb hr hlocks hS hP ⟨x4, rfl⟩ dX6_kept_15
set_option maxHeartbeats 4000000 in
set_option maxRecDepth 100000 in
theorem x_thousandths (l : Launch) (G : GG) (x : Nat) (xa ta a b ga ua la lb lc : Nat → Nat) (tg gg : Nat → Option Nat) (xf tf f qf gf uf lf mf nf : Nat → Int32) (tr r q gr ur lr mr nr : Nat → Nat → Int32) (tb : Int32) (row : Int32) (col : Int32) (j : Nat) (hj : j < 6) (hjt : tbJ tb j) (htg : tg j = some (ta 0)) (hT1 : nL 12 (tf 1)) (hT2 : nL 12 (tf 2)) (hT3 : nL 12 (tf 3)) (hT4 : nOK 12 12 (tr 4)) : WrI l yX6_thousandths cX6_thousandths 4 (some .int) ({ frames := 5, cells := 0, slots := 0, locals := 117 }) G (xM G x xa ta a b ga ua la lb lc tg gg xf tf f qf gf uf lf mf nf tr r q gr ur lr mr nr) [.ref x, .int tb, .int row, .int col] (fun qz w => ∃ (n_xf_0 : Int32), w = xM G x xa ta a b ga ua la lb lc tg gg (upd xf 0 n_xf_0) tf f qf gf uf lf mf nf tr r q gr ur lr mr nr ∧ atP (stX (tbO tb j (tf 0)) (tf 1) (tf 2) (tr 4) row col) row col (fun i k => sv ((tr 5) (i * 12 + k) = 3 ∧ sndP ((tf 2)).toNatClampNeg (tr 4) (tr 5) i) (qz = thF ((tr 6) (i * 12 + k)) (smF (tr 6) (i * 12) ((tf 2)).toNatClampNeg)) (qz = -1)) (qz = -1)) := by
  refine wr_entryI (by decide +kernel) (Nat.le_of_ble_eq_true rfl) ?_
  intro p e s m below meth c A C0 hP hK hD hA ls hl
  have hS : va_S A s.heap s.heap [] := va_S.rf
  obtain ⟨hx, hb, hml, hown, hts, hr, hlocks, hin⟩ := C0
  have hown : s.vm.findClass RX6 = some m.cls := hown
  have hDD : ∀ xf' tf' f' qf' gf' uf' lf' mf' nf' tr' r' q' gr' ur' lr' mr' nr', va_D A (xM G x xa ta a b ga ua la lb lc tg gg xf' tf' f' qf' gf' uf' lf' mf' nf' tr' r' q' gr' ur' lr' mr' nr') := fun xf' tf' f' qf' gf' uf' lf' mf' nf' tr' r' q' gr' ur' lr' mr' nr' => D_same hD rfl
  have hl : lv_has ls 4 [(0, .ref x), (1, .int tb), (2, .int row), (3, .int col)] := hl
  refine lv_aload_n hx hb dX6_thousandths_0 rfl (lv_at hl 0 rfl) ?_
  refine lv_aload_n hx hb dX6_thousandths_1 rfl (lv_at hl 0 rfl) ?_
  refine lv_iload_n hx hb dX6_thousandths_2 rfl (lv_at hl 1 rfl) ?_
  refine lv_iload_n hx hb dX6_thousandths_3 rfl (lv_at hl 2 rfl) ?_
  refine lv_iload_n hx hb dX6_thousandths_4 rfl (lv_at hl 3 rfl) ?_
  refine rdV (rest := [.ref x]) (q0 := 0) ⟨hx, hb, hml, hown, hts⟩ (x_cellStatus l G x xa ta a b ga ua la lb lc tg gg xf tf f qf gf uf lf mf nf tr r q gr ur lr mr nr tb row col j (by omega) hjt htg hT1 hT2 hT3) mi_yX6_cellStatus mv_yX6_cellStatus ml_X6_174 ⟨rfl, rfl, Nat.le_of_ble_eq_true rfl, Nat.le_of_ble_eq_true rfl⟩ hK (hP) rfl rfl rfl hl.1 rfl (Nat.le_of_ble_eq_true rfl) dX6_thousandths_5 ⟨Nat.zero_le _, Nat.zero_le _⟩ hS hA hP (fun r1 H locs hr1 hP hS => ?_)
  have hr1 : stK (stX (tbO tb j (tf 0)) (tf 1) (tf 2) (tr 4) row col) row col (fun i k => kf2 ((tr 5) (i * 12 + k))) r1 := hr1
  refine wrVIa (rest := []) (q0 := 0) ⟨hx, hb, hml, hown, hts⟩ (x_settled l G x xa ta a b ga ua la lb lc tg gg xf tf f qf gf uf lf mf nf tr r q gr ur lr mr nr r1  ) mi_yX6_settled mv_yX6_settled ml_X6_65 ⟨rfl, rfl, Nat.le_of_ble_eq_true rfl, Nat.le_of_ble_eq_true rfl⟩ hK hP (hDD _ _ _ _ _ _ _ _ _ _ _ _ _ _ _ _ _) rfl rfl rfl hl.1 rfl (Nat.le_of_ble_eq_true rfl) dX6_thousandths_8 ⟨Nat.zero_le _, Nat.zero_le _⟩ hS hA (fun r2 w3 H locs hw3 hP hS => ?_)
  obtain ⟨x4, rfl, hw3r⟩ := hw3
  have hP : PP G (xM G x xa ta a b ga ua la lb lc tg gg (upd xf 0 x4) tf f qf gf uf lf mf nf tr r q gr ur lr mr nr) H := hP
  have hw3r : ((r2 = 1 ∧ ((r1 : Int32) = 0)) ∨ (r2 = 0 ∧ ¬ ((r1 : Int32) = 0))) := hw3r
  refine lv_if_ne (tgt := 16) hx hb dX6_thousandths_11 (by decide) (fun c5 => ?_) (fun c5 => ?_)
  · have b11 := bT hw3r c5
    have hs0 := stK_0 hr1 b11
    obtain ⟨⟨ej, ho⟩, q1, q2⟩ := stX_0 hs0 rfl
    subst ej
    have q1c := q1
    have q2c := q2
    obtain ⟨rw, hrw, t1⟩ := hT1
    obtain ⟨cl, hcl, t2⟩ := hT2
    obtain ⟨bk, hbk, t3⟩ := hT3
    have hT1 : nL 12 (tf 1) := ⟨rw, hrw, t1⟩
    have hT2 : nL 12 (tf 2) := ⟨cl, hcl, t2⟩
    have hT3 : nL 12 (tf 3) := ⟨bk, hbk, t3⟩
    rw [t1] at q1c
    rw [t2] at q2c
    obtain ⟨i, hi, ei⟩ := inR_n (by omega) q1c
    subst ei
    obtain ⟨k, hk, ek⟩ := inR_n (by omega) q2c
    subst ek
    have hkk := stK_k hr1 b11 (show i < 12 by omega) (show k < 12 by omega) rfl rfl
    refine lv_aload_n hx hb dX6_thousandths_16 rfl (lv_at hl 0 rfl) ?_
    refine va_get (D := G.1) (ci := 6) (v := .ref (xa 1)) (C := RX6) (T := TX6) (N := 10) hx hb hts inX6 hown hK.1 hP 0 rfl rfl 1 (by decide) (hts _ mf_X6_15) (fun _ h9 => h9) rfl dX6_thousandths_17 ?_
    refine lv_iload_n hx hb dX6_thousandths_20 rfl (lv_at hl 1 rfl) ?_
    refine xaldT hx hb hK hP 1 (j) (b := (ta 0)) rfl (by omega) (by decide) rfl (htg) dX6_thousandths_21 ?_
    refine va_get (D := G.1) (ci := 4) (v := .ref (ta 5)) (C := RX4) (T := TX4) (N := 12) hx hb hts inX4 hown hK.1 hP 2 rfl rfl 5 (by decide) (hts _ mf_X6_134) (fun _ h9 => h9) rfl dX6_thousandths_22 ?_
    refine lv_iload_n hx hb dX6_thousandths_25 rfl (lv_at hl 2 rfl) ?_
    refine lv_iload_n hx hb dX6_thousandths_26 rfl (lv_at hl 3 rfl) ?_
    refine rdS (rest := [.ref (ta 5)]) ⟨hx, hb, hml, hown, hts⟩ (c_X6_spotOf l G ((nI i)) ((nI k))) mi_yX6_spotOf mst_yX6_spotOf ml_X6_92 ⟨rfl, rfl, Nat.le_of_ble_eq_true rfl, Nat.le_of_ble_eq_true rfl⟩ hK (fun k q h => by simp at h) rfl hl.1 rfl (Nat.le_of_ble_eq_true rfl) dX6_thousandths_27 ⟨Nat.zero_le _, Nat.zero_le _⟩ hS hA hP (fun r6 H locs hr6 hP hS => ?_)
    obtain rfl : r6 = nI (i * 12 + k) := spot_eq hr6
    refine xiald (f := (tr 5)) hx hb hK hP 4 ((i * 12 + k)) (rfl) (by omega) (by decide) rfl dX6_thousandths_30 ?_
    refine lv_topi (fun v7 ev7 => ?_)
    refine lv_iconst (v := 3) hx hb dX6_thousandths_31 (by decide) ?_
    refine lv_icmp_eq (tgt := 42) hx hb dX6_thousandths_32 (by decide) (fun c8 => ?_) (fun c8 => ?_)
    · refine lv_aload_n hx hb dX6_thousandths_42 rfl (lv_at hl 0 rfl) ?_
      refine va_get (D := G.1) (ci := 6) (v := .ref (xa 1)) (C := RX6) (T := TX6) (N := 10) hx hb hts inX6 hown hK.1 hP 0 rfl rfl 1 (by decide) (hts _ mf_X6_15) (fun _ h9 => h9) rfl dX6_thousandths_43 ?_
      refine lv_iload_n hx hb dX6_thousandths_46 rfl (lv_at hl 1 rfl) ?_
      refine xaldT hx hb hK hP 1 (j) (b := (ta 0)) rfl (by omega) (by decide) rfl (htg) dX6_thousandths_47 ?_
      refine lv_iload_n hx hb dX6_thousandths_48 rfl (lv_at hl 2 rfl) ?_
      refine rdV (rest := []) (q0 := 0) ⟨hx, hb, hml, hown, hts⟩ (c_X4_isSound l G ta tf tr i cl (by omega) hcl t2) mi_yX4_isSound mv_yX4_isSound ml_X6_153 ⟨rfl, rfl, Nat.le_of_ble_eq_true rfl, Nat.le_of_ble_eq_true rfl⟩ hK (blk_sub (ws' := tW G ta tf tr) (xBlk G x xa ta a b ga ua la lb lc tg gg (upd xf 0 x4) tf f qf gf uf lf mf nf tr r q gr ur lr mr nr) (i := 1) hP rfl (by decide)) rfl rfl rfl hl.1 rfl (Nat.le_of_ble_eq_true rfl) dX6_thousandths_49 ⟨Nat.zero_le _, Nat.zero_le _⟩ hS hA hP (fun r9 H locs hr9 hP hS => ?_)
      refine lv_if_ne (tgt := 62) hx hb dX6_thousandths_52 (by decide) (fun c10 => ?_) (fun c10 => ?_)
      · have b52 := bT hr9 c10
        refine lv_aload_n hx hb dX6_thousandths_62 rfl (lv_at hl 0 rfl) ?_
        refine va_get (D := G.1) (ci := 6) (v := .ref (xa 1)) (C := RX6) (T := TX6) (N := 10) hx hb hts inX6 hown hK.1 hP 0 rfl rfl 1 (by decide) (hts _ mf_X6_15) (fun _ h9 => h9) rfl dX6_thousandths_63 ?_
        refine lv_iload_n hx hb dX6_thousandths_66 rfl (lv_at hl 1 rfl) ?_
        refine xaldT hx hb hK hP 1 (j) (b := (ta 0)) rfl (by omega) (by decide) rfl (htg) dX6_thousandths_67 ?_
        refine va_get (D := G.1) (ci := 4) (v := .ref (ta 6)) (C := RX4) (T := TX4) (N := 12) hx hb hts inX4 hown hK.1 hP 2 rfl rfl 6 (by decide) (hts _ mf_X6_137) (fun _ h9 => h9) rfl dX6_thousandths_68 ?_
        refine lv_iload_n hx hb dX6_thousandths_71 rfl (lv_at hl 2 rfl) ?_
        refine lv_iload_n hx hb dX6_thousandths_72 rfl (lv_at hl 3 rfl) ?_
        refine rdS (rest := [.ref (ta 6)]) ⟨hx, hb, hml, hown, hts⟩ (c_X6_spotOf l G ((nI i)) ((nI k))) mi_yX6_spotOf mst_yX6_spotOf ml_X6_92 ⟨rfl, rfl, Nat.le_of_ble_eq_true rfl, Nat.le_of_ble_eq_true rfl⟩ hK (fun k q h => by simp at h) rfl hl.1 rfl (Nat.le_of_ble_eq_true rfl) dX6_thousandths_73 ⟨Nat.zero_le _, Nat.zero_le _⟩ hS hA hP (fun r11 H locs hr11 hP hS => ?_)
        obtain rfl : r11 = nI (i * 12 + k) := spot_eq hr11
        refine xiald (f := (tr 6)) hx hb hK hP 5 ((i * 12 + k)) (rfl) (by omega) (by decide) rfl dX6_thousandths_76 ?_
        refine lv_topi (fun v12 ev12 => ?_)
        refine lv_aload_n hx hb dX6_thousandths_77 rfl (lv_at hl 0 rfl) ?_
        refine va_get (D := G.1) (ci := 6) (v := .ref (xa 1)) (C := RX6) (T := TX6) (N := 10) hx hb hts inX6 hown hK.1 hP 0 rfl rfl 1 (by decide) (hts _ mf_X6_15) (fun _ h9 => h9) rfl dX6_thousandths_78 ?_
        refine lv_iload_n hx hb dX6_thousandths_81 rfl (lv_at hl 1 rfl) ?_
        refine xaldT hx hb hK hP 1 (j) (b := (ta 0)) rfl (by omega) (by decide) rfl (htg) dX6_thousandths_82 ?_
        refine lv_iload_n hx hb dX6_thousandths_83 rfl (lv_at hl 2 rfl) ?_
        refine rdV (rest := [.int v12]) (q0 := 0) ⟨hx, hb, hml, hown, hts⟩ (c_X4_rowSum l G ta tf tr i cl (by omega) hcl t2) mi_yX4_rowSum mv_yX4_rowSum ml_X6_156 ⟨rfl, rfl, Nat.le_of_ble_eq_true rfl, Nat.le_of_ble_eq_true rfl⟩ hK (blk_sub (ws' := tW G ta tf tr) (xBlk G x xa ta a b ga ua la lb lc tg gg (upd xf 0 x4) tf f qf gf uf lf mf nf tr r q gr ur lr mr nr) (i := 1) hP rfl (by decide)) rfl rfl rfl hl.1 rfl (Nat.le_of_ble_eq_true rfl) dX6_thousandths_84 ⟨Nat.zero_le _, Nat.zero_le _⟩ hS hA hP (fun r13 H locs hr13 hP hS => ?_)
        refine rdS (rest := []) ⟨hx, hb, hml, hown, hts⟩ (c_X6_thousandthsOf l G v12 r13) mi_yX6_thousandthsOf mst_yX6_thousandthsOf ml_X6_177 ⟨rfl, rfl, Nat.le_of_ble_eq_true rfl, Nat.le_of_ble_eq_true rfl⟩ hK (fun k q h => by simp at h) rfl hl.1 rfl (Nat.le_of_ble_eq_true rfl) dX6_thousandths_87 ⟨Nat.zero_le _, Nat.zero_le _⟩ hS hA hP (fun r14 H locs hr14 hP hS => ?_)
        exact wr_iret hx hb hr hlocks hS hP ⟨x4, rfl, Or.inr ⟨hs0, i, k, by omega, by omega, rfl, rfl, Or.inl ⟨⟨ev7.symm.trans c8, by first | (rw [t2, nI_clamp (by omega)]; exact b52) | (rw [nI_clamp (by omega)]; exact b52)⟩, hr14.trans (by first | rw [ev12, hr13, t2, nI_clamp (by omega)] | rw [ev12, hr13, nI_clamp (by omega)])⟩⟩⟩ dX6_thousandths_90
      · have b52 := bF hr9 c10
        refine lv_aload_n hx hb dX6_thousandths_55 rfl (lv_at hl 0 rfl) ?_
        refine lv_bipush (v := 11) hx hb dX6_thousandths_56 (by decide) ?_
        refine wrVIa (rest := []) (q0 := 0) ⟨hx, hb, hml, hown, hts⟩ (x_refused l G x xa ta a b ga ua la lb lc tg gg (upd xf 0 x4) tf f qf gf uf lf mf nf tr r q gr ur lr mr nr 11  ) mi_yX6_refused mv_yX6_refused ml_X6_122 ⟨rfl, rfl, Nat.le_of_ble_eq_true rfl, Nat.le_of_ble_eq_true rfl⟩ hK hP (hDD _ _ _ _ _ _ _ _ _ _ _ _ _ _ _ _ _) rfl rfl rfl hl.1 rfl (Nat.le_of_ble_eq_true rfl) dX6_thousandths_58 ⟨Nat.zero_le _, Nat.zero_le _⟩ hS hA (fun r15 w16 H locs hw16 hP hS => ?_)
        obtain ⟨x17, rfl, hw16r⟩ := hw16
        have hP : PP G (xM G x xa ta a b ga ua la lb lc tg gg (upd xf 0 x17) tf f qf gf uf lf mf nf tr r q gr ur lr mr nr) H := hP
        obtain rfl := hw16r
        exact wr_iret hx hb hr hlocks hS hP ⟨x17, rfl, Or.inr ⟨hs0, i, k, by omega, by omega, rfl, rfl, Or.inr ⟨fun h9 => b52 (by have h8 := h9.2; first | (rw [t2, nI_clamp (by omega)] at h8; exact h8) | (rw [nI_clamp (by omega)] at h8; exact h8)), rfl⟩⟩⟩ dX6_thousandths_61
    · refine lv_aload_n hx hb dX6_thousandths_35 rfl (lv_at hl 0 rfl) ?_
      refine lv_bipush (v := 6) hx hb dX6_thousandths_36 (by decide) ?_
      refine wrVIa (rest := []) (q0 := 0) ⟨hx, hb, hml, hown, hts⟩ (x_refused l G x xa ta a b ga ua la lb lc tg gg (upd xf 0 x4) tf f qf gf uf lf mf nf tr r q gr ur lr mr nr 6  ) mi_yX6_refused mv_yX6_refused ml_X6_122 ⟨rfl, rfl, Nat.le_of_ble_eq_true rfl, Nat.le_of_ble_eq_true rfl⟩ hK hP (hDD _ _ _ _ _ _ _ _ _ _ _ _ _ _ _ _ _) rfl rfl rfl hl.1 rfl (Nat.le_of_ble_eq_true rfl) dX6_thousandths_38 ⟨Nat.zero_le _, Nat.zero_le _⟩ hS hA (fun r18 w19 H locs hw19 hP hS => ?_)
      obtain ⟨x20, rfl, hw19r⟩ := hw19
      have hP : PP G (xM G x xa ta a b ga ua la lb lc tg gg (upd xf 0 x20) tf f qf gf uf lf mf nf tr r q gr ur lr mr nr) H := hP
      obtain rfl := hw19r
      exact wr_iret hx hb hr hlocks hS hP ⟨x20, rfl, Or.inr ⟨hs0, i, k, by omega, by omega, rfl, rfl, Or.inr ⟨fun h9 => c8 (ev7.trans h9.1), rfl⟩⟩⟩ dX6_thousandths_41
  · have b11 := bF hw3r c5
    refine lv_iconst (v := -1) hx hb dX6_thousandths_14 (by decide) ?_
    exact wr_iret hx hb hr hlocks hS hP ⟨x4, rfl, atP_n hr1 b11 rfl (fun i k h => Or.inr ⟨fun z => h (kf2_3 z.1), rfl⟩)⟩ dX6_thousandths_15

