
abbrev rdW (G : GG) (a b : Nat → Nat) (f qf : Nat → Int32) (r q : Nat → Nat → Int32) : va_W := [((a 15), .inr (2, [.int (f 0), .int (f 1), .int (f 2), .int (f 3), .int (f 4), .ref (b 3), .ref (a 6), .ref (a 7), .ref (a 8), .ref (a 9), .ref (a 10), .ref (a 11), .ref (a 12), .ref (a 13), .ref (a 14)])), ((a 6), .inl (G.2.2.1, 12, .inl (r 6))), ((a 7), .inl (G.2.1, 12, .inl (r 7))), ((a 8), .inl (G.2.1, 144, .inl (r 8))), ((a 9), .inl (G.2.1, 144, .inl (r 9))), ((a 10), .inl (G.2.1, 144, .inl (r 10))), ((a 11), .inl (G.2.2.1, 144, .inl (r 11))), ((a 12), .inl (G.2.1, 144, .inl (r 12))), ((a 13), .inl (G.2.1, 144, .inl (r 13))), ((a 14), .inl (G.2.1, 144, .inl (r 14))), ((b 3), .inr (5, [.ref (b 0), .ref (b 1), .ref (b 2), .int (qf 3)])), ((b 0), .inl (G.2.1, 25, .inl (q 0))), ((b 1), .inl (G.2.1, 25, .inl (q 1))), ((b 2), .inl (G.2.1, 25, .inl (q 2)))]
/-! a cell's steps -/
def moF (kp v hi : Int32) : Int32 := if ¬ kp = 0 ∧ v < hi then 1 else 0
def leF (kp v lo : Int32) : Int32 := if ¬ kp = 0 ∧ lo < v then 1 else 0
theorem moF_1 {kp v hi : Int32} (a : ¬ kp = 0) (b : v < hi) : 1 = moF kp v hi := (if_pos ⟨a, b⟩).symm
theorem moF_0 {kp v hi : Int32} (h : ¬ (¬ kp = 0 ∧ v < hi)) : 0 = moF kp v hi := (if_neg h).symm
theorem leF_1 {kp v lo : Int32} (a : ¬ kp = 0) (b : lo < v) : 1 = leF kp v lo := (if_pos ⟨a, b⟩).symm
theorem leF_0 {kp v lo : Int32} (h : ¬ (¬ kp = 0 ∧ lo < v)) : 0 = leF kp v lo := (if_neg h).symm
def rfS (kp va lo hi s : Nat → Int32) (i j : Nat) : Nat → Int32 := jnF s i (12 + j) (moF (kp (i * 12 + j)) (va (i * 12 + j)) (hi (i * 12 + j))) (leF (kp (i * 12 + j)) (va (i * 12 + j)) (lo (i * 12 + j)))
/-- refresh of a row's first n cells -/
def rfR (kp va lo hi s : Nat → Int32) (i : Nat) : Nat → Nat → Int32
  | 0 => s
  | n + 1 => rfS kp va lo hi (rfR kp va lo hi s i n) i n
/-- enter: the rows of a class from the first on -/
def enR (so cs : Nat → Int32) (wt : Int32) (kp va lo hi s : Nat → Int32) (cl a0 : Nat) : Nat → Nat → Int32
  | 0 => s
  | n + 1 => if ¬ so (a0 + n) = 0 ∧ cs (a0 + n) = wt then rfR kp va lo hi (enR so cs wt kp va lo hi s cl a0 n) (a0 + n) cl else enR so cs wt kp va lo hi s cl a0 n
set_option maxHeartbeats 4000000 in
set_option maxRecDepth 100000 in
theorem e_X2_refresh (l : Launch) (G : GG) (a b : Nat → Nat) (f qf : Nat → Int32) (r q : Nat → Nat → Int32) (i : Nat) (j : Nat) (hi : i < 12) (hj : j < 12) : WrV l yX2_refresh cX2_refresh 6 ({ frames := 1, cells := 0, slots := 0, locals := 26 }) G (rdW G a b f qf r q) [.ref (a 15), .int (nI i), .int (nI j)] (fun w => ∃ (n_q_0 : Nat → Int32), w = rdW G a b f qf r (up2 q 0 n_q_0) ∧ (n_q_0 = rfS (r 11) (r 12) (r 13) (r 14) (q 0) i j)) := by
  refine wr_entryV (by decide +kernel) (Nat.le_of_ble_eq_true rfl) ?_
  intro p e s m below meth c A C0 hP hK hD hA ls hl
  have hS : va_S A s.heap s.heap [] := va_S.rf
  obtain ⟨hx, hb, hml, hown, hts, hr, hlocks, hin⟩ := C0
  have hown : s.vm.findClass RX2 = some m.cls := hown
  have hDD : ∀ f' qf' r' q', va_D A (rdW G a b f' qf' r' q') := fun f' qf' r' q' => D_same hD rfl
  have hl : lv_has ls 6 [(0, .ref (a 15)), (1, .int (nI i)), (2, .int (nI j))] := hl
  refine lv_iload_n hx hb dX2_refresh_0 rfl (lv_at hl 1 rfl) ?_
  refine lv_iload_n hx hb dX2_refresh_1 rfl (lv_at hl 2 rfl) ?_
  refine rdSN (rest := []) ⟨hx, hb, hml, hown, hts⟩ (c_X6_spotOf l G ((nI i)) ((nI j))) mi_yX6_spotOf mst_yX6_spotOf (by decide +kernel) ⟨rfl, rfl, Nat.le_of_ble_eq_true rfl, Nat.le_of_ble_eq_true rfl⟩ hK (fun k q h => by simp at h) rfl hl.1 rfl (Nat.le_of_ble_eq_true rfl) dX2_refresh_2 ⟨Nat.zero_le _, Nat.zero_le _⟩ hS hA hP (fun r1 H locs hr1 hP hS => ?_)
  obtain rfl : r1 = nI (i * 12 + j) := spot_eq hr1
  refine lv_istore_n (lv' := [(3, .int (nI (i * 12 + j))), (0, .ref (a 15)), (1, .int (nI i)), (2, .int (nI j))]) hx hb dX2_refresh_5 rfl hl (by decide) rfl (fun ls hl => ?_)
  refine lv_aload_n hx hb dX2_refresh_6 rfl (lv_at hl 1 rfl) ?_
  refine va_get (D := G.1) (ci := 2) (v := .ref (a 11)) (C := RX2) (T := TX2) (N := 15) hx hb hts inX2 hown hK.1 hP 0 rfl rfl 11 (by decide) (hts _ mf_X2_51) (fun _ h9 => h9) rfl dX2_refresh_7 ?_
  refine lv_iload_n hx hb dX2_refresh_10 rfl (lv_at hl 0 rfl) ?_
  refine xzald (f := (r 11)) hx hb hK hP 6 ((i * 12 + j)) (rfl) (by omega) (by decide) rfl dX2_refresh_11 ?_
  refine lv_topi (fun v2 ev2 => ?_)
  have j35_3 : ∀ (z3 : Int32) (gz3 : z3 = 0 ∨ z3 = 1) (hmo : z3 = moF (r 11 (i * 12 + j)) (r 12 (i * 12 + j)) (r 14 (i * 12 + j))) (H : Heap) (locs : List Loc) (ls : Array Slot), PP G (rdW G a b f qf r q) H → va_S A s.heap H locs → lv_has ls 6 [(3, .int (nI (i * 12 + j))), (0, .ref (a 15)), (1, .int (nI i)), (2, .int (nI j))] → W p l e ({ frames := 1, cells := 0, slots := 0, locals := 26 }) s m ([.ref (a 15), .int (nI i), .int (nI j)] : List Value).toArray below meth c H locs 0 0 (MQ below (QwV G (fun w => ∃ (n_q_0 : Nat → Int32), w = rdW G a b f qf r (up2 q 0 n_q_0) ∧ (n_q_0 = rfS (r 11) (r 12) (r 13) (r 14) (q 0) i j)) A) ([.ref (a 15), .int (nI i), .int (nI j)] : List Value).toArray s 0 0 A) (F0 m 35 ls [.int z3]) := by
    intro z3 gz3 hmo H locs ls hP hS hl
    refine lv_istore (lv' := [(4, .int z3), (3, .int (nI (i * 12 + j))), (0, .ref (a 15)), (1, .int (nI i)), (2, .int (nI j))]) hx hb dX2_refresh_35 hl (by decide) rfl (fun ls hl => ?_)
    refine lv_aload_n hx hb dX2_refresh_37 rfl (lv_at hl 2 rfl) ?_
    refine va_get (D := G.1) (ci := 2) (v := .ref (a 11)) (C := RX2) (T := TX2) (N := 15) hx hb hts inX2 hown hK.1 hP 0 rfl rfl 11 (by decide) (hts _ mf_X2_51) (fun _ h9 => h9) rfl dX2_refresh_38 ?_
    refine lv_iload_n hx hb dX2_refresh_41 rfl (lv_at hl 1 rfl) ?_
    refine xzald (f := (r 11)) hx hb hK hP 6 ((i * 12 + j)) (rfl) (by omega) (by decide) rfl dX2_refresh_42 ?_
    refine lv_topi (fun v4 ev4 => ?_)
    have j66_5 : ∀ (z5 : Int32) (gz5 : z5 = 0 ∨ z5 = 1) (hle : z5 = leF (r 11 (i * 12 + j)) (r 12 (i * 12 + j)) (r 13 (i * 12 + j))) (H : Heap) (locs : List Loc) (ls : Array Slot), PP G (rdW G a b f qf r q) H → va_S A s.heap H locs → lv_has ls 6 [(4, .int z3), (0, .ref (a 15)), (1, .int (nI i)), (2, .int (nI j))] → W p l e ({ frames := 1, cells := 0, slots := 0, locals := 26 }) s m ([.ref (a 15), .int (nI i), .int (nI j)] : List Value).toArray below meth c H locs 0 0 (MQ below (QwV G (fun w => ∃ (n_q_0 : Nat → Int32), w = rdW G a b f qf r (up2 q 0 n_q_0) ∧ (n_q_0 = rfS (r 11) (r 12) (r 13) (r 14) (q 0) i j)) A) ([.ref (a 15), .int (nI i), .int (nI j)] : List Value).toArray s 0 0 A) (F0 m 66 ls [.int z5]) := by
      intro z5 gz5 hle H locs ls hP hS hl
      refine lv_istore (lv' := [(5, .int z5), (4, .int z3), (0, .ref (a 15)), (1, .int (nI i)), (2, .int (nI j))]) hx hb dX2_refresh_66 hl (by decide) rfl (fun ls hl => ?_)
      refine lv_aload_n hx hb dX2_refresh_68 rfl (lv_at hl 2 rfl) ?_
      refine va_get (D := G.1) (ci := 2) (v := .ref (b 3)) (C := RX2) (T := TX2) (N := 15) hx hb hts inX2 hown hK.1 hP 0 rfl rfl 5 (by decide) (hts _ mf_X2_30) (fun _ h9 => h9) rfl dX2_refresh_69 ?_
      refine lv_iload_n hx hb dX2_refresh_72 rfl (lv_at hl 3 rfl) ?_
      refine lv_bipush (v := 12) hx hb dX2_refresh_73 (by decide) ?_
      refine lv_iload_n hx hb dX2_refresh_75 rfl (lv_at hl 4 rfl) ?_
      refine lv_iadd hx hb dX2_refresh_76 ?_
      refine lv_topi (fun v6 ev6 => ?_)
      obtain rfl : v6 = nI (12 + j) := nI_plus ev6 rfl rfl
      refine lv_iload hx hb dX2_refresh_77 (lv_at hl 1 rfl) ?_
      refine lv_iload hx hb dX2_refresh_79 (lv_at hl 0 rfl) ?_
      refine wrVV (rest := []) (q0 := 0) ⟨hx, hb, hml, hown, hts⟩ (c_X5_join l G b q (qf 3) i (12 + j) z3 z5 (by omega) (by omega)) mi_yX5_join mv_yX5_join ml_X2_120 ⟨rfl, rfl, Nat.le_of_ble_eq_true rfl, Nat.le_of_ble_eq_true rfl⟩ hK hP (hDD _ _ _ _) [10, 11, 12, 13] rfl (by decide) rfl rfl rfl hl.1 rfl (Nat.le_of_ble_eq_true rfl) dX2_refresh_81 ⟨Nat.zero_le _, Nat.zero_le _⟩ hS hA (fun w8 H locs hw8 hP hS => ?_)
      obtain rfl := hw8
      have hP : PP G (rdW G a b f qf r (up2 q 0 (jnF (q 0) i (12 + j) z3 z5))) H := hP rfl
      exact wr_vret hx hb hr hlocks hS hP ⟨(jnF (q 0) i (12 + j) z3 z5), rfl, (by unfold rfS; rw [← hmo, ← hle])⟩ dX2_refresh_84
    refine lv_if_eq (tgt := 65) hx hb dX2_refresh_43 (by decide) (fun c9 => ?_) (fun c9 => ?_)
    · refine lv_iconst (v := 0) hx hb dX2_refresh_65 (by decide) ?_
      exact j66_5 0 (Or.inl rfl) (leF_0 (fun h9 => h9.1 (ev4.symm.trans c9))) _ _ _ hP hS (lv_sub hl [0, 2, 3, 4] rfl)
    · refine lv_aload_n hx hb dX2_refresh_46 rfl (lv_at hl 2 rfl) ?_
      refine va_get (D := G.1) (ci := 2) (v := .ref (a 12)) (C := RX2) (T := TX2) (N := 15) hx hb hts inX2 hown hK.1 hP 0 rfl rfl 12 (by decide) (hts _ mf_X2_54) (fun _ h9 => h9) rfl dX2_refresh_47 ?_
      refine lv_iload_n hx hb dX2_refresh_50 rfl (lv_at hl 1 rfl) ?_
      refine xiald (f := (r 12)) hx hb hK hP 7 ((i * 12 + j)) (rfl) (by omega) (by decide) rfl dX2_refresh_51 ?_
      refine lv_topi (fun v10 ev10 => ?_)
      refine lv_aload_n hx hb dX2_refresh_52 rfl (lv_at hl 2 rfl) ?_
      refine va_get (D := G.1) (ci := 2) (v := .ref (a 13)) (C := RX2) (T := TX2) (N := 15) hx hb hts inX2 hown hK.1 hP 0 rfl rfl 13 (by decide) (hts _ mf_X2_57) (fun _ h9 => h9) rfl dX2_refresh_53 ?_
      refine lv_iload_n hx hb dX2_refresh_56 rfl (lv_at hl 1 rfl) ?_
      refine xiald (f := (r 13)) hx hb hK hP 8 ((i * 12 + j)) (rfl) (by omega) (by decide) rfl dX2_refresh_57 ?_
      refine lv_topi (fun v11 ev11 => ?_)
      refine lv_icmp_le (tgt := 65) hx hb dX2_refresh_58 (by decide) (fun c12 => ?_) (fun c12 => ?_)
      · refine lv_iconst (v := 0) hx hb dX2_refresh_65 (by decide) ?_
        exact j66_5 0 (Or.inl rfl) (leF_0 (fun h9 => absurd c12 (by have h8 := h9.2; rw [← ev10, ← ev11] at h8; exact Int32.not_le.mpr h8))) _ _ _ hP hS (lv_sub hl [0, 2, 3, 4] rfl)
      · refine lv_iconst (v := 1) hx hb dX2_refresh_61 (by decide) ?_
        refine lv_goto (tgt := 66) hx hb dX2_refresh_62 (by decide) ?_
        exact j66_5 1 (Or.inr rfl) (leF_1 (fun h9 => c9 (ev4.trans h9)) (by rw [← ev10, ← ev11]; exact Int32.not_le.mp c12)) _ _ _ hP hS (lv_sub hl [0, 2, 3, 4] rfl)
  refine lv_if_eq (tgt := 34) hx hb dX2_refresh_12 (by decide) (fun c13 => ?_) (fun c13 => ?_)
  · refine lv_iconst (v := 0) hx hb dX2_refresh_34 (by decide) ?_
    exact j35_3 0 (Or.inl rfl) (moF_0 (fun h9 => h9.1 (ev2.symm.trans c13))) _ _ _ hP hS (lv_sub hl [0, 1, 2, 3] rfl)
  · refine lv_aload_n hx hb dX2_refresh_15 rfl (lv_at hl 1 rfl) ?_
    refine va_get (D := G.1) (ci := 2) (v := .ref (a 12)) (C := RX2) (T := TX2) (N := 15) hx hb hts inX2 hown hK.1 hP 0 rfl rfl 12 (by decide) (hts _ mf_X2_54) (fun _ h9 => h9) rfl dX2_refresh_16 ?_
    refine lv_iload_n hx hb dX2_refresh_19 rfl (lv_at hl 0 rfl) ?_
    refine xiald (f := (r 12)) hx hb hK hP 7 ((i * 12 + j)) (rfl) (by omega) (by decide) rfl dX2_refresh_20 ?_
    refine lv_topi (fun v14 ev14 => ?_)
    refine lv_aload_n hx hb dX2_refresh_21 rfl (lv_at hl 1 rfl) ?_
    refine va_get (D := G.1) (ci := 2) (v := .ref (a 14)) (C := RX2) (T := TX2) (N := 15) hx hb hts inX2 hown hK.1 hP 0 rfl rfl 14 (by decide) (hts _ mf_X2_60) (fun _ h9 => h9) rfl dX2_refresh_22 ?_
    refine lv_iload_n hx hb dX2_refresh_25 rfl (lv_at hl 0 rfl) ?_
    refine xiald (f := (r 14)) hx hb hK hP 9 ((i * 12 + j)) (rfl) (by omega) (by decide) rfl dX2_refresh_26 ?_
    refine lv_topi (fun v15 ev15 => ?_)
    refine lv_icmp_ge (tgt := 34) hx hb dX2_refresh_27 (by decide) (fun c16 => ?_) (fun c16 => ?_)
    · refine lv_iconst (v := 0) hx hb dX2_refresh_34 (by decide) ?_
      exact j35_3 0 (Or.inl rfl) (moF_0 (fun h9 => absurd c16 (by have h8 := h9.2; rw [← ev14, ← ev15] at h8; exact Int32.not_le.mpr h8))) _ _ _ hP hS (lv_sub hl [0, 1, 2, 3] rfl)
    · refine lv_iconst (v := 1) hx hb dX2_refresh_30 (by decide) ?_
      refine lv_goto (tgt := 35) hx hb dX2_refresh_31 (by decide) ?_
      exact j35_3 1 (Or.inr rfl) (moF_1 (fun h9 => c13 (ev2.trans h9)) (by rw [← ev14, ← ev15]; exact Int32.not_le.mp c16)) _ _ _ hP hS (lv_sub hl [0, 1, 2, 3] rfl)
theorem enR_p {so cs kp va lo hi s : Nat → Int32} {wt : Int32} {cl a0 n : Nat} (h : ¬ so (a0 + n) = 0 ∧ cs (a0 + n) = wt) : enR so cs wt kp va lo hi s cl a0 (n + 1) = rfR kp va lo hi (enR so cs wt kp va lo hi s cl a0 n) (a0 + n) cl := if_pos h
theorem enR_n {so cs kp va lo hi s : Nat → Int32} {wt : Int32} {cl a0 n : Nat} (h : ¬ (¬ so (a0 + n) = 0 ∧ cs (a0 + n) = wt)) : enR so cs wt kp va lo hi s cl a0 (n + 1) = enR so cs wt kp va lo hi s cl a0 n := if_neg h
set_option maxHeartbeats 4000000 in
set_option maxRecDepth 100000 in
theorem e_X2_enter (l : Launch) (G : GG) (a b : Nat → Nat) (f qf : Nat → Int32) (r q : Nat → Nat → Int32) (wt : Int32) (fi : Nat) (rw : Nat) (cl : Nat) (hrw : rw ≤ 12) (hcl : cl ≤ 12) (hfi : fi ≤ rw) (h0 : (f 0) = nI rw) (h1 : (f 1) = nI cl) : WrV l yX2_enter cX2_enter 5 ({ frames := 2, cells := 0, slots := 0, locals := 51 }) G (rdW G a b f qf r q) [.ref (a 15), .int wt, .int (nI fi)] (fun w => ∃ (n_f_4 : Int32) (n_q_0 : Nat → Int32), w = rdW G a b (upd f 4 n_f_4) qf r (up2 q 0 n_q_0) ∧ (n_q_0 = enR (r 6) (r 7) wt (r 11) (r 12) (r 13) (r 14) (flF (q 0) 0 25) cl fi (rw - fi)) ∧ (n_f_4 = (if fi = 0 then wt else -2))) := by
  refine wr_entryV (by decide +kernel) (Nat.le_of_ble_eq_true rfl) ?_
  intro p e s m below meth c A C0 hP hK hD hA ls hl
  have hS : va_S A s.heap s.heap [] := va_S.rf
  obtain ⟨hx, hb, hml, hown, hts, hr, hlocks, hin⟩ := C0
  have hown : s.vm.findClass RX2 = some m.cls := hown
  have hDD : ∀ f' qf' r' q', va_D A (rdW G a b f' qf' r' q') := fun f' qf' r' q' => D_same hD rfl
  have hl : lv_has ls 5 [(0, .ref (a 15)), (1, .int wt), (2, .int (nI fi))] := hl
  refine lv_aload_n hx hb dX2_enter_0 rfl (lv_at hl 0 rfl) ?_
  refine va_get (D := G.1) (ci := 2) (v := .ref (b 3)) (C := RX2) (T := TX2) (N := 15) hx hb hts inX2 hown hK.1 hP 0 rfl rfl 5 (by decide) (hts _ mf_X2_30) (fun _ h9 => h9) rfl dX2_enter_1 ?_
  refine wrVV (rest := []) (q0 := 0) ⟨hx, hb, hml, hown, hts⟩ (c_X5_wipe l G b q (qf 3)) mi_yX5_wipe mv_yX5_wipe ml_X2_114 ⟨rfl, rfl, Nat.le_of_ble_eq_true rfl, Nat.le_of_ble_eq_true rfl⟩ hK hP (hDD _ _ _ _) [10, 11, 12, 13] rfl (by decide) rfl rfl rfl hl.1 rfl (Nat.le_of_ble_eq_true rfl) dX2_enter_4 ⟨Nat.zero_le _, Nat.zero_le _⟩ hS hA (fun w2 H locs hw2 hP hS => ?_)
  obtain rfl := hw2
  have hP : PP G (rdW G a b f qf r (up2 q 0 (flF (q 0) 0 25))) H := hP rfl
  refine lv_aload_n hx hb dX2_enter_7 rfl (lv_at hl 0 rfl) ?_
  refine lv_iload_n hx hb dX2_enter_8 rfl (lv_at hl 2 rfl) ?_
  have j18_3 : ∀ (z3 : Int32) (he9 : z3 = (if fi = 0 then wt else -2)) (H : Heap) (locs : List Loc) (ls : Array Slot), PP G (rdW G a b f qf r (up2 q 0 (flF (q 0) 0 25))) H → va_S A s.heap H locs → lv_has ls 5 [(0, .ref (a 15)), (1, .int wt), (2, .int (nI fi))] → W p l e ({ frames := 2, cells := 0, slots := 0, locals := 51 }) s m ([.ref (a 15), .int wt, .int (nI fi)] : List Value).toArray below meth c H locs 0 0 (MQ below (QwV G (fun w => ∃ (n_f_4 : Int32) (n_q_0 : Nat → Int32), w = rdW G a b (upd f 4 n_f_4) qf r (up2 q 0 n_q_0) ∧ (n_q_0 = enR (r 6) (r 7) wt (r 11) (r 12) (r 13) (r 14) (flF (q 0) 0 25) cl fi (rw - fi)) ∧ (n_f_4 = (if fi = 0 then wt else -2))) A) ([.ref (a 15), .int wt, .int (nI fi)] : List Value).toArray s 0 0 A) (F0 m 18 ls [.int z3, .ref (a 15)]) := by
    intro z3 he9 H locs ls hP hS hl
    refine va_put (D := G.1) (ci := 2) (v := .int z3) (C := RX2) (T := TX2) (N := 15) hx hb hts inX2 tyX2 tyX2_ok nmX2 hown hK.1 hP (hDD _ _ _ _) hS 0 rfl rfl 4 (by decide) (hts _ mf_X2_24) (fun _ h9 => h9) rfl (tyX2_ok 4 (by decide)) (rfl) (rfl) (Nat.le_of_ble_eq_true rfl) dX2_enter_18 (fun H locs hP _ hS => ?_)
    have hP : PP G (rdW G a b (upd f 4 z3) qf r (up2 q 0 (flF (q 0) 0 25))) H := hP
    have he4 : z3 = (if fi = 0 then wt else -2) := he9
    refine lv_iload_n hx hb dX2_enter_21 rfl (lv_at hl 2 rfl) ?_
    refine lv_istore_n (lv' := [(3, .int (nI fi)), (0, .ref (a 15)), (1, .int wt), (2, .int (nI fi))]) hx hb dX2_enter_22 rfl hl (by decide) rfl (fun ls hl => ?_)
    have loop23 : ∀ (k4 n : Nat) (x5 : Nat → Int32), n ≤ rw → rw < n + k4 → (fi ≤ n) → (x5 = enR (r 6) (r 7) wt (r 11) (r 12) (r 13) (r 14) (flF (q 0) 0 25) cl fi (n - fi)) → ∀ (H : Heap) (locs : List Loc) (ls : Array Slot), PP G (rdW G a b (upd f 4 z3) qf r (up2 q 0 x5)) H → va_S A s.heap H locs → lv_has ls 5 [(3, .int (nI n)), (0, .ref (a 15)), (1, .int wt)] → W p l e ({ frames := 2, cells := 0, slots := 0, locals := 51 }) s m ([.ref (a 15), .int wt, .int (nI fi)] : List Value).toArray below meth c H locs 0 0 (MQ below (QwV G (fun w => ∃ (n_f_4 : Int32) (n_q_0 : Nat → Int32), w = rdW G a b (upd f 4 n_f_4) qf r (up2 q 0 n_q_0) ∧ (n_q_0 = enR (r 6) (r 7) wt (r 11) (r 12) (r 13) (r 14) (flF (q 0) 0 25) cl fi (rw - fi)) ∧ (n_f_4 = (if fi = 0 then wt else -2))) A) ([.ref (a 15), .int wt, .int (nI fi)] : List Value).toArray s 0 0 A) (F0 m 23 ls []) := by
      intro k4
      induction k4 with
      | zero => intro n x5 h1 h2; exact absurd h1 (by omega)
      | succ k4 ih23k4 =>
        intro n x5 hi_n hk_n hfn hE H locs ls hP hS hl
        refine lv_iload_n hx hb dX2_enter_23 rfl (lv_at hl 0 rfl) ?_
        refine lv_aload_n hx hb dX2_enter_24 rfl (lv_at hl 1 rfl) ?_
        refine va_get (D := G.1) (ci := 2) (v := .int (f 0)) (C := RX2) (T := TX2) (N := 15) hx hb hts inX2 hown hK.1 hP 0 rfl rfl 0 (by decide) (hts _ mf_X2_9) (fun _ h9 => h9) rfl dX2_enter_25 ?_
        rw [show (f 0) = nI (rw) from h0]
        refine lv_icmp_ge (tgt := 81) hx hb dX2_enter_28 (by decide) (fun c6 => ?_) (fun c6 => ?_)
        · have b28 := qge_t (a := n) (b := (rw)) (by omega) (by omega) c6
          exact wr_vret hx hb hr hlocks hS hP ⟨z3, x5, rfl, (by rw [hE, show n = rw by omega]), he4⟩ dX2_enter_81
        · have b28 := qge_f (a := n) (b := (rw)) (by omega) (by omega) c6
          refine lv_aload_n hx hb dX2_enter_31 rfl (lv_at hl 1 rfl) ?_
          refine va_get (D := G.1) (ci := 2) (v := .ref (a 6)) (C := RX2) (T := TX2) (N := 15) hx hb hts inX2 hown hK.1 hP 0 rfl rfl 6 (by decide) (hts _ mf_X2_34) (fun _ h9 => h9) rfl dX2_enter_32 ?_
          refine lv_iload_n hx hb dX2_enter_35 rfl (lv_at hl 0 rfl) ?_
          refine xzald (f := (r 6)) hx hb hK hP 1 (n) (rfl) (by omega) (by decide) rfl dX2_enter_36 ?_
          refine lv_topi (fun v7 ev7 => ?_)
          refine lv_if_eq (tgt := 75) hx hb dX2_enter_37 (by decide) (fun c8 => ?_) (fun c8 => ?_)
          · obtain ⟨v9, ev9⟩ : ∃ y9 : Int32, y9 = (nI n) + Int32.ofInt (1) := ⟨_, rfl⟩
            refine lv_iinc (v := v9) (lv' := [(3, .int v9), (0, .ref (a 15)), (1, .int wt)]) hx hb dX2_enter_75 hl (k := 0) rfl ev9.symm (by decide) rfl (fun ls hl => ?_)
            obtain rfl : v9 = nI (n + 1) := nI_plus (i := n) (j := 1) ev9 rfl (by decide)
            refine lv_goto (tgt := 23) hx hb dX2_enter_78 (by decide) ?_
            exact ih23k4 (n + 1) x5 (by omega) (by omega) (by omega) (by rw [hE, show n + 1 - fi = n - fi + 1 by omega]; exact (enR_n (fun h9 => h9.1 (by rw [show fi + (n - fi) = n by omega, ← ev7]; exact c8))).symm) _ _ _ hP hS (lv_sub hl [0, 1, 2] rfl)
          · refine lv_aload_n hx hb dX2_enter_40 rfl (lv_at hl 1 rfl) ?_
            refine va_get (D := G.1) (ci := 2) (v := .ref (a 7)) (C := RX2) (T := TX2) (N := 15) hx hb hts inX2 hown hK.1 hP 0 rfl rfl 7 (by decide) (hts _ mf_X2_38) (fun _ h9 => h9) rfl dX2_enter_41 ?_
            refine lv_iload_n hx hb dX2_enter_44 rfl (lv_at hl 0 rfl) ?_
            refine xiald (f := (r 7)) hx hb hK hP 2 (n) (rfl) (by omega) (by decide) rfl dX2_enter_45 ?_
            refine lv_topi (fun v10 ev10 => ?_)
            refine lv_iload_n hx hb dX2_enter_46 rfl (lv_at hl 2 rfl) ?_
            refine lv_icmp_ne (tgt := 75) hx hb dX2_enter_47 (by decide) (fun c11 => ?_) (fun c11 => ?_)
            · obtain ⟨v12, ev12⟩ : ∃ y9 : Int32, y9 = (nI n) + Int32.ofInt (1) := ⟨_, rfl⟩
              refine lv_iinc (v := v12) (lv' := [(3, .int v12), (0, .ref (a 15)), (1, .int wt)]) hx hb dX2_enter_75 hl (k := 0) rfl ev12.symm (by decide) rfl (fun ls hl => ?_)
              obtain rfl : v12 = nI (n + 1) := nI_plus (i := n) (j := 1) ev12 rfl (by decide)
              refine lv_goto (tgt := 23) hx hb dX2_enter_78 (by decide) ?_
              exact ih23k4 (n + 1) x5 (by omega) (by omega) (by omega) (by rw [hE, show n + 1 - fi = n - fi + 1 by omega]; exact (enR_n (fun h9 => c11 (by rw [ev10, ← h9.2, show fi + (n - fi) = n by omega]))).symm) _ _ _ hP hS (lv_sub hl [0, 1, 2] rfl)
            · refine lv_iconst (v := 0) hx hb dX2_enter_50 (by decide) ?_
              refine lv_istore (lv' := [(4, .int 0), (3, .int (nI n)), (0, .ref (a 15)), (1, .int wt)]) hx hb dX2_enter_51 hl (by decide) rfl (fun ls hl => ?_)
              have loop53 : ∀ (k13 j : Nat) (x14 : Nat → Int32), j ≤ cl → cl < j + k13 → (x14 = rfR (r 11) (r 12) (r 13) (r 14) x5 n j) → ∀ (H : Heap) (locs : List Loc) (ls : Array Slot), PP G (rdW G a b (upd f 4 z3) qf r (up2 q 0 x14)) H → va_S A s.heap H locs → lv_has ls 5 [(4, .int (nI j)), (3, .int (nI n)), (0, .ref (a 15)), (1, .int wt)] → W p l e ({ frames := 2, cells := 0, slots := 0, locals := 51 }) s m ([.ref (a 15), .int wt, .int (nI fi)] : List Value).toArray below meth c H locs 0 0 (MQ below (QwV G (fun w => ∃ (n_f_4 : Int32) (n_q_0 : Nat → Int32), w = rdW G a b (upd f 4 n_f_4) qf r (up2 q 0 n_q_0) ∧ (n_q_0 = enR (r 6) (r 7) wt (r 11) (r 12) (r 13) (r 14) (flF (q 0) 0 25) cl fi (rw - fi)) ∧ (n_f_4 = (if fi = 0 then wt else -2))) A) ([.ref (a 15), .int wt, .int (nI fi)] : List Value).toArray s 0 0 A) (F0 m 53 ls []) := by
                intro k13
                induction k13 with
                | zero => intro j x14 h1 h2; exact absurd h1 (by omega)
                | succ k13 ih53k13 =>
                  intro j x14 hi_j hk_j hR H locs ls hP hS hl
                  refine lv_iload hx hb dX2_enter_53 (lv_at hl 0 rfl) ?_
                  refine lv_aload_n hx hb dX2_enter_55 rfl (lv_at hl 2 rfl) ?_
                  refine va_get (D := G.1) (ci := 2) (v := .int (f 1)) (C := RX2) (T := TX2) (N := 15) hx hb hts inX2 hown hK.1 hP 0 rfl rfl 1 (by decide) (hts _ mf_X2_15) (fun _ h9 => h9) rfl dX2_enter_56 ?_
                  rw [show (f 1) = nI (cl) from h1]
                  refine lv_icmp_ge (tgt := 75) hx hb dX2_enter_59 (by decide) (fun c15 => ?_) (fun c15 => ?_)
                  · have b59 := qge_t (a := j) (b := (cl)) (by omega) (by omega) c15
                    obtain ⟨v16, ev16⟩ : ∃ y9 : Int32, y9 = (nI n) + Int32.ofInt (1) := ⟨_, rfl⟩
                    refine lv_iinc (v := v16) (lv' := [(3, .int v16), (4, .int (nI j)), (0, .ref (a 15)), (1, .int wt)]) hx hb dX2_enter_75 hl (k := 1) rfl ev16.symm (by decide) rfl (fun ls hl => ?_)
                    obtain rfl : v16 = nI (n + 1) := nI_plus (i := n) (j := 1) ev16 rfl (by decide)
                    refine lv_goto (tgt := 23) hx hb dX2_enter_78 (by decide) ?_
                    exact ih23k4 (n + 1) x14 (by omega) (by omega) (by omega) (by rw [hR, show j = cl by omega, hE, show n + 1 - fi = n - fi + 1 by omega, enR_p ⟨by rw [show fi + (n - fi) = n by omega]; exact fun h9 => c8 (ev7.trans h9), by rw [show fi + (n - fi) = n by omega, ← ev10]; exact c11⟩, show fi + (n - fi) = n by omega]) _ _ _ hP hS (lv_sub hl [0, 2, 3] rfl)
                  · have b59 := qge_f (a := j) (b := (cl)) (by omega) (by omega) c15
                    refine lv_aload_n hx hb dX2_enter_62 rfl (lv_at hl 2 rfl) ?_
                    refine lv_iload_n hx hb dX2_enter_63 rfl (lv_at hl 1 rfl) ?_
                    refine lv_iload hx hb dX2_enter_64 (lv_at hl 0 rfl) ?_
                    refine wrVVa (rest := []) (q0 := 0) ⟨hx, hb, hml, hown, hts⟩ (e_X2_refresh l G a b (upd f 4 z3) qf r (up2 q 0 x14) n j  (by omega) (by omega)) mi_yX2_refresh mv_yX2_refresh ml_X2_117 ⟨rfl, rfl, Nat.le_of_ble_eq_true rfl, Nat.le_of_ble_eq_true rfl⟩ hK hP (hDD _ _ _ _) rfl rfl rfl hl.1 rfl (Nat.le_of_ble_eq_true rfl) dX2_enter_66 ⟨Nat.zero_le _, Nat.zero_le _⟩ hS hA (fun w18 H locs hw18 hP hS => ?_)
                    obtain ⟨x19, rfl, hrf⟩ := hw18
                    have hP : PP G (rdW G a b (upd f 4 z3) qf r (up2 q 0 x19)) H := hP
                    have hrf : x19 = rfS (r 11) (r 12) (r 13) (r 14) x14 n j := hrf
                    obtain ⟨v20, ev20⟩ : ∃ y9 : Int32, y9 = (nI j) + Int32.ofInt (1) := ⟨_, rfl⟩
                    refine lv_iinc (v := v20) (lv' := [(4, .int v20), (3, .int (nI n)), (0, .ref (a 15)), (1, .int wt)]) hx hb dX2_enter_69 hl (k := 0) rfl ev20.symm (by decide) rfl (fun ls hl => ?_)
                    obtain rfl : v20 = nI (j + 1) := nI_plus (i := j) (j := 1) ev20 rfl (by decide)
                    refine lv_goto (tgt := 53) hx hb dX2_enter_72 (by decide) ?_
                    exact ih53k13 (j + 1) x19 (by omega) (by omega) (by rw [hrf, hR]; rfl) _ _ _ hP hS (lv_sub hl [0, 1, 2, 3] rfl)
              exact loop53 (cl + 1) 0 x5 (by omega) (by omega) (rfl) _ _ _ hP hS (lv_sub hl [0, 1, 2, 3] rfl)
    exact loop23 (rw + 1) fi (flF (q 0) 0 25) (by omega) (by omega) (Nat.le_refl _) (by rw [Nat.sub_self]; rfl) _ _ _ hP hS (lv_sub hl [0, 1, 2] rfl)
  refine lv_if_ne (tgt := 16) hx hb dX2_enter_9 (by decide) (fun c21 => ?_) (fun c21 => ?_)
  · have b9 := qeq_f (a := fi) (b := 0) (by omega) (by omega) c21
    refine lv_bipush (v := -2) hx hb dX2_enter_16 (by decide) ?_
    exact j18_3 (-2) ((if_neg (by omega)).symm) _ _ _ hP hS (lv_sub hl [0, 1, 2] rfl)
  · have b9 := qeq_t (a := fi) (b := 0) (by omega) (by omega) c21
    refine lv_iload_n hx hb dX2_enter_12 rfl (lv_at hl 1 rfl) ?_
    refine lv_goto (tgt := 18) hx hb dX2_enter_13 (by decide) ?_
    exact j18_3 wt ((if_pos (by omega)).symm) _ _ _ hP hS (lv_sub hl [0, 1, 2] rfl)
