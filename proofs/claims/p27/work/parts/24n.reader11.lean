
/-- the rank doesn't rise where none is -/
theorem rk_gap {M : Nat → Nat → Prop} {a : Nat} : ∀ k, (∀ x y, y < 12 → M x y → a ≤ 12 * x + y → ¬ 12 * x + y < a + k) → rkG M (a + k) = rkG M a
  | 0, _ => rfl
  | k + 1, h => by
    have ih := rk_gap (M := M) (a := a) k (fun x y hy hm ha hk => h x y hy hm ha (by omega))
    rw [← Nat.add_assoc, rk_s, ih]
    have hn : ¬ M ((a + k) / 12) ((a + k) % 12) := fun z => h _ _ (Nat.mod_lt _ (by decide)) z (by omega) (by omega)
    rw [pB_f hn, if_neg (by decide), Nat.add_zero]
theorem rk_gap2 {M : Nat → Nat → Prop} {a b : Nat} (hab : a ≤ b) (h : ∀ x y, y < 12 → M x y → a ≤ 12 * x + y → ¬ 12 * x + y < b) : rkG M b = rkG M a := by
  have := rk_gap (M := M) (a := a) (b - a) (fun x y hy hm ha => by rw [show a + (b - a) = b by omega]; exact h x y hy hm ha)
  rw [show a + (b - a) = b by omega] at this
  exact this
set_option maxHeartbeats 4000000 in
set_option maxRecDepth 100000 in
theorem e_X2_countUnsafe (l : Launch) (G : GG) (a b : Nat → Nat) (f qf : Nat → Int32) (r q : Nat → Nat → Int32) (rw : Nat) (cl : Nat) (dn : Nat) (up : Nat) (V0 : Nat → Nat → Nat) (V : Nat → Nat → Nat) (Lo : Nat → Nat → Nat) (Hi : Nat → Nat → Nat) (hrw : rw ≤ 12) (hcl : cl ≤ 12) (h0 : (f 0) = nI rw) (h1 : (f 1) = nI cl) (h2 : (f 2) = nI dn) (h3 : (f 3) = nI up) (hdn : dn ≤ 1000000) (hup : up ≤ 1000000) (hRN : RVL (r 6) (r 9) (r 13) (r 14) rw cl V0 Lo Hi) (hSS : ∀ x y, x < rw → y < cl → ¬ (r 10) (x * 12 + y) = 0 → ¬ (r 6) x = 0) (hRD : RDI (r 6) (r 7) (r 11) (r 12) (r 13) (r 14) rw cl V0 V Lo Hi) (hRS : RSY (r 6) (r 7) (r 11) rw cl V Lo Hi (f 4) (q 0)) (hRB : RB adjR (q 0)) : WrI l yX2_countUnsafe cX2_countUnsafe 4 (some .int) ({ frames := 5, cells := 0, slots := 0, locals := 134 }) G (rdW G a b f qf r q) [.ref (a 15)] (fun qz w => ∃ (n_f_4 : Int32) (n_q_0 : Nat → Int32) (n_q_1 : Nat → Int32) (n_q_2 : Nat → Int32) (n_qf_3 : Int32) (n_r_12 : Nat → Int32), w = rdW G a b (upd f 4 n_f_4) (upd qf 3 n_qf_3) (up2 r 12 n_r_12) (up2 (up2 (up2 q 0 n_q_0) 1 n_q_1) 2 n_q_2) ∧ qz = nI (rkG (UNG rw cl (fun x => ¬ (r 6) x = 0) (r 7) (secA (r 10)) Lo Hi V0 dn up (KA (r 11))) (12 * rw)) ∧ (RB adjR n_q_0)) := by
  refine wr_entryI (by decide +kernel) (Nat.le_of_ble_eq_true rfl) ?_
  intro p e s m below meth c A C0 hP hK hD hA ls hl
  have hS : va_S A s.heap s.heap [] := va_S.rf
  obtain ⟨hx, hb, hml, hown, hts, hr, hlocks, hin⟩ := C0
  have hown : s.vm.findClass RX2 = some m.cls := hown
  have hDD : ∀ f' qf' r' q', va_D A (rdW G a b f' qf' r' q') := fun f' qf' r' q' => D_same hD rfl
  have hl : lv_has ls 4 [(0, .ref (a 15))] := hl
  have hUy : ∀ x y, (UNG rw cl (fun x => ¬ (r 6) x = 0) (r 7) (secA (r 10)) Lo Hi V0 dn up (KA (r 11))) x y → y < cl := fun x y h9 => h9.2.1
  refine lv_iconst (v := 0) hx hb dX2_countUnsafe_0 (by decide) ?_
  refine lv_istore_n (lv' := [(1, .int 0), (0, .ref (a 15))]) hx hb dX2_countUnsafe_1 rfl hl (by decide) rfl (fun ls hl => ?_)
  refine lv_iconst (v := 0) hx hb dX2_countUnsafe_2 (by decide) ?_
  refine lv_istore_n (lv' := [(2, .int 0), (1, .int 0), (0, .ref (a 15))]) hx hb dX2_countUnsafe_3 rfl hl (by decide) rfl (fun ls hl => ?_)
  have loop4 : ∀ (k1 i : Nat) (cn : Nat) (U : Nat → Nat → Nat) (x3 : Int32) (x4 : Nat → Int32) (x5 : Nat → Int32) (x6 : Nat → Int32) (x7 : Int32) (x8 : Nat → Int32), i ≤ rw → rw < i + k1 → (RB adjR x4) → (RDI (r 6) (r 7) (r 11) x8 (r 13) (r 14) rw cl V0 U Lo Hi) → (RSY (r 6) (r 7) (r 11) rw cl U Lo Hi x3 x4) → (cn = rkG (UNG rw cl (fun x => ¬ (r 6) x = 0) (r 7) (secA (r 10)) Lo Hi V0 dn up (KA (r 11))) (12 * i)) → ∀ (H : Heap) (locs : List Loc) (ls : Array Slot), PP G (rdW G a b (upd f 4 x3) (upd qf 3 x7) (up2 r 12 x8) (up2 (up2 (up2 q 0 x4) 1 x5) 2 x6)) H → va_S A s.heap H locs → lv_has ls 4 [(2, .int (nI i)), (1, .int (nI cn)), (0, .ref (a 15))] → W p l e ({ frames := 5, cells := 0, slots := 0, locals := 134 }) s m ([.ref (a 15)] : List Value).toArray below meth c H locs 0 0 (MQ below (QwI G (fun qz w => ∃ (n_f_4 : Int32) (n_q_0 : Nat → Int32) (n_q_1 : Nat → Int32) (n_q_2 : Nat → Int32) (n_qf_3 : Int32) (n_r_12 : Nat → Int32), w = rdW G a b (upd f 4 n_f_4) (upd qf 3 n_qf_3) (up2 r 12 n_r_12) (up2 (up2 (up2 q 0 n_q_0) 1 n_q_1) 2 n_q_2) ∧ qz = nI (rkG (UNG rw cl (fun x => ¬ (r 6) x = 0) (r 7) (secA (r 10)) Lo Hi V0 dn up (KA (r 11))) (12 * rw)) ∧ (RB adjR n_q_0)) A) ([.ref (a 15)] : List Value).toArray s 0 0 A) (F0 m 4 ls []) := by
    intro k1
    induction k1 with
    | zero => intro i cn U x3 x4 x5 x6 x7 x8 h1 h2; exact absurd h1 (by omega)
    | succ k1 ih4k1 =>
      intro i cn U x3 x4 x5 x6 x7 x8 hi_i hk_i hRB hRD hRS hc H locs ls hP hS hl
      refine lv_iload_n hx hb dX2_countUnsafe_4 rfl (lv_at hl 0 rfl) ?_
      refine lv_aload_n hx hb dX2_countUnsafe_5 rfl (lv_at hl 2 rfl) ?_
      refine va_get (D := G.1) (ci := 2) (v := .int (f 0)) (C := RX2) (T := TX2) (N := 15) hx hb hts inX2 hown hK.1 hP 0 rfl rfl 0 (by decide) (hts _ mf_X2_9) (fun _ h9 => h9) rfl dX2_countUnsafe_6 ?_
      rw [show (f 0) = nI (rw) from h0]
      refine lv_icmp_ge (tgt := 59) hx hb dX2_countUnsafe_9 (by decide) (fun c9 => ?_) (fun c9 => ?_)
      · have b9 := qge_t (a := i) (b := (rw)) (by omega) (by omega) c9
        refine lv_iload_n hx hb dX2_countUnsafe_59 rfl (lv_at hl 1 rfl) ?_
        exact wr_iret hx hb hr hlocks hS hP ⟨x3, x4, x5, x6, x7, x8, rfl, (by rw [hc, show 12 * i = 12 * rw by omega]), hRB⟩ dX2_countUnsafe_60
      · have b9 := qge_f (a := i) (b := (rw)) (by omega) (by omega) c9
        refine lv_iconst (v := 0) hx hb dX2_countUnsafe_12 (by decide) ?_
        refine lv_istore_n (lv' := [(3, .int 0), (2, .int (nI i)), (1, .int (nI cn)), (0, .ref (a 15))]) hx hb dX2_countUnsafe_13 rfl hl (by decide) rfl (fun ls hl => ?_)
        have loop14 : ∀ (k10 k : Nat) (cn : Nat) (U : Nat → Nat → Nat) (x12 : Int32) (x13 : Nat → Int32) (x14 : Nat → Int32) (x15 : Nat → Int32) (x16 : Int32) (x17 : Nat → Int32), k ≤ cl → cl < k + k10 → (RB adjR x13) → (RDI (r 6) (r 7) (r 11) x17 (r 13) (r 14) rw cl V0 U Lo Hi) → (RSY (r 6) (r 7) (r 11) rw cl U Lo Hi x12 x13) → (cn = rkG (UNG rw cl (fun x => ¬ (r 6) x = 0) (r 7) (secA (r 10)) Lo Hi V0 dn up (KA (r 11))) (12 * i + k)) → ∀ (H : Heap) (locs : List Loc) (ls : Array Slot), PP G (rdW G a b (upd f 4 x12) (upd qf 3 x16) (up2 r 12 x17) (up2 (up2 (up2 q 0 x13) 1 x14) 2 x15)) H → va_S A s.heap H locs → lv_has ls 4 [(3, .int (nI k)), (2, .int (nI i)), (1, .int (nI cn)), (0, .ref (a 15))] → W p l e ({ frames := 5, cells := 0, slots := 0, locals := 134 }) s m ([.ref (a 15)] : List Value).toArray below meth c H locs 0 0 (MQ below (QwI G (fun qz w => ∃ (n_f_4 : Int32) (n_q_0 : Nat → Int32) (n_q_1 : Nat → Int32) (n_q_2 : Nat → Int32) (n_qf_3 : Int32) (n_r_12 : Nat → Int32), w = rdW G a b (upd f 4 n_f_4) (upd qf 3 n_qf_3) (up2 r 12 n_r_12) (up2 (up2 (up2 q 0 n_q_0) 1 n_q_1) 2 n_q_2) ∧ qz = nI (rkG (UNG rw cl (fun x => ¬ (r 6) x = 0) (r 7) (secA (r 10)) Lo Hi V0 dn up (KA (r 11))) (12 * rw)) ∧ (RB adjR n_q_0)) A) ([.ref (a 15)] : List Value).toArray s 0 0 A) (F0 m 14 ls []) := by
          intro k10
          induction k10 with
          | zero => intro k cn U x12 x13 x14 x15 x16 x17 h1 h2; exact absurd h1 (by omega)
          | succ k10 ih14k10 =>
            intro k cn U x12 x13 x14 x15 x16 x17 hi_k hk_k hRB hRD hRS hc H locs ls hP hS hl
            refine lv_iload_n hx hb dX2_countUnsafe_14 rfl (lv_at hl 0 rfl) ?_
            refine lv_aload_n hx hb dX2_countUnsafe_15 rfl (lv_at hl 3 rfl) ?_
            refine va_get (D := G.1) (ci := 2) (v := .int (f 1)) (C := RX2) (T := TX2) (N := 15) hx hb hts inX2 hown hK.1 hP 0 rfl rfl 1 (by decide) (hts _ mf_X2_15) (fun _ h9 => h9) rfl dX2_countUnsafe_16 ?_
            rw [show (f 1) = nI (cl) from h1]
            refine lv_icmp_ge (tgt := 53) hx hb dX2_countUnsafe_19 (by decide) (fun c18 => ?_) (fun c18 => ?_)
            · have b19 := qge_t (a := k) (b := (cl)) (by omega) (by omega) c18
              obtain ⟨v19, ev19⟩ : ∃ y9 : Int32, y9 = (nI i) + Int32.ofInt (1) := ⟨_, rfl⟩
              refine lv_iinc (v := v19) (lv' := [(2, .int v19), (3, .int (nI k)), (1, .int (nI cn)), (0, .ref (a 15))]) hx hb dX2_countUnsafe_53 hl (k := 1) rfl ev19.symm (by decide) rfl (fun ls hl => ?_)
              obtain rfl : v19 = nI (i + 1) := nI_plus (i := i) (j := 1) ev19 rfl (by decide)
              refine lv_goto (tgt := 4) hx hb dX2_countUnsafe_56 (by decide) ?_
              exact ih4k1 (i + 1) cn U x12 x13 x14 x15 x16 x17 (by omega) (by omega) hRB (hRD) (hRS) (by rw [rk_end hcl (fun y h8 h9 => absurd (hUy _ _ h9) (by omega)), show 12 * i + cl = 12 * i + k by omega]; exact hc) _ _ _ hP hS (lv_sub hl [0, 2, 3] rfl)
            · have b19 := qge_f (a := k) (b := (cl)) (by omega) (by omega) c18
              refine lv_aload_n hx hb dX2_countUnsafe_22 rfl (lv_at hl 3 rfl) ?_
              refine va_get (D := G.1) (ci := 2) (v := .ref (a 10)) (C := RX2) (T := TX2) (N := 15) hx hb hts inX2 hown hK.1 hP 0 rfl rfl 10 (by decide) (hts _ mf_X2_48) (fun _ h9 => h9) rfl dX2_countUnsafe_23 ?_
              refine lv_iload_n hx hb dX2_countUnsafe_26 rfl (lv_at hl 1 rfl) ?_
              refine lv_iload_n hx hb dX2_countUnsafe_27 rfl (lv_at hl 0 rfl) ?_
              refine rdSN (rest := [.ref (a 10)]) ⟨hx, hb, hml, hown, hts⟩ (c_X6_spotOf l G ((nI i)) ((nI k))) mi_yX6_spotOf mst_yX6_spotOf (by decide +kernel) ⟨rfl, rfl, Nat.le_of_ble_eq_true rfl, Nat.le_of_ble_eq_true rfl⟩ hK (fun k q h => by simp at h) rfl hl.1 rfl (Nat.le_of_ble_eq_true rfl) dX2_countUnsafe_28 ⟨Nat.zero_le _, Nat.zero_le _⟩ hS hA hP (fun r20 H locs hr20 hP hS => ?_)
              obtain rfl : r20 = nI (i * 12 + k) := spot_eq hr20
              refine xiald (f := (r 10)) hx hb hK hP 5 ((i * 12 + k)) (rfl) (by omega) (by decide) rfl dX2_countUnsafe_31 ?_
              refine lv_topi (fun v21 ev21 => ?_)
              refine lv_if_eq (tgt := 47) hx hb dX2_countUnsafe_32 (by decide) (fun c22 => ?_) (fun c22 => ?_)
              · have hnu9 : ¬ (UNG rw cl (fun x => ¬ (r 6) x = 0) (r 7) (secA (r 10)) Lo Hi V0 dn up (KA (r 11))) i k := fun z9 => z9.2.2.2.1 (ev21.symm.trans c22)
                obtain ⟨v23, ev23⟩ : ∃ y9 : Int32, y9 = (nI k) + Int32.ofInt (1) := ⟨_, rfl⟩
                refine lv_iinc (v := v23) (lv' := [(3, .int v23), (2, .int (nI i)), (1, .int (nI cn)), (0, .ref (a 15))]) hx hb dX2_countUnsafe_47 hl (k := 0) rfl ev23.symm (by decide) rfl (fun ls hl => ?_)
                obtain rfl : v23 = nI (k + 1) := nI_plus (i := k) (j := 1) ev23 rfl (by decide)
                refine lv_goto (tgt := 14) hx hb dX2_countUnsafe_50 (by decide) ?_
                exact ih14k10 (k + 1) cn U x12 x13 x14 x15 x16 x17 (by omega) (by omega) hRB (hRD) (hRS) (by rw [rk_n (by omega) hnu9]; exact hc) _ _ _ hP hS (lv_sub hl [0, 1, 2, 3] rfl)
              · have hse : ¬ r 10 (i * 12 + k) = 0 := fun z9 => c22 (ev21.trans z9)
                have hsi := hSS i k (by omega) (by omega) hse
                have hn9 := hRN i k (by omega) (by omega) hsi
                refine lv_aload_n hx hb dX2_countUnsafe_35 rfl (lv_at hl 3 rfl) ?_
                refine lv_iload_n hx hb dX2_countUnsafe_36 rfl (lv_at hl 1 rfl) ?_
                refine lv_iload_n hx hb dX2_countUnsafe_37 rfl (lv_at hl 0 rfl) ?_
                refine wrVIa (rest := []) (q0 := 0) ⟨hx, hb, hml, hown, hts⟩ (e_X2_isSafe l G a b (upd f 4 x12) (upd qf 3 x16) (up2 r 12 x17) (up2 (up2 (up2 q 0 x13) 1 x14) 2 x15) i k rw cl dn up V0 U Lo Hi (by omega) (by omega) hsi h0 h1 h2 h3 (by omega) (by omega) hn9.1 (by omega) hRD hRS hRB) mi_yX2_isSafe mv_yX2_isSafe ml_X2_155 ⟨rfl, rfl, Nat.le_of_ble_eq_true rfl, Nat.le_of_ble_eq_true rfl⟩ hK hP (hDD _ _ _ _) rfl rfl rfl hl.1 rfl (Nat.le_of_ble_eq_true rfl) dX2_countUnsafe_38 ⟨Nat.zero_le _, Nat.zero_le _⟩ hS hA (fun r24 w25 H locs hw25 hP hS => ?_)
                obtain ⟨x26, x27, x28, x29, x30, x31, V3, rfl, hw25r, hRD, hRS, hRB⟩ := hw25
                have hP : PP G (rdW G a b (upd f 4 x26) (upd qf 3 x30) (up2 r 12 x31) (up2 (up2 (up2 q 0 x27) 1 x28) 2 x29)) H := hP
                have hRD : RDI (r 6) (r 7) (r 11) x31 (r 13) (r 14) rw cl V0 V3 Lo Hi := hRD
                have hRS : RSY (r 6) (r 7) (r 11) rw cl V3 Lo Hi x26 x27 := hRS
                have hRB : RB adjR x27 := hRB
                have hw25r : ((r24 = 1 ∧ (SAFR (kpR (r 6) (r 7) (r 11) rw cl ((r 7) i)) Lo Hi (rsT (dmR (r 6) (r 7) rw cl ((r 7) i)) V0) i k dn up)) ∨ (r24 = 0 ∧ ¬ (SAFR (kpR (r 6) (r 7) (r 11) rw cl ((r 7) i)) Lo Hi (rsT (dmR (r 6) (r 7) rw cl ((r 7) i)) V0) i k dn up))) := hw25r
                refine lv_if_ne (tgt := 47) hx hb dX2_countUnsafe_41 (by decide) (fun c32 => ?_) (fun c32 => ?_)
                · have hnu9 : ¬ (UNG rw cl (fun x => ¬ (r 6) x = 0) (r 7) (secA (r 10)) Lo Hi V0 dn up (KA (r 11))) i k := fun z9 => z9.2.2.2.2 ((SF_c (K := KA (r 11)) (fun _ _ _ _ => rfl)).mp (bT hw25r c32))
                  obtain ⟨v33, ev33⟩ : ∃ y9 : Int32, y9 = (nI k) + Int32.ofInt (1) := ⟨_, rfl⟩
                  refine lv_iinc (v := v33) (lv' := [(3, .int v33), (2, .int (nI i)), (1, .int (nI cn)), (0, .ref (a 15))]) hx hb dX2_countUnsafe_47 hl (k := 0) rfl ev33.symm (by decide) rfl (fun ls hl => ?_)
                  obtain rfl : v33 = nI (k + 1) := nI_plus (i := k) (j := 1) ev33 rfl (by decide)
                  refine lv_goto (tgt := 14) hx hb dX2_countUnsafe_50 (by decide) ?_
                  exact ih14k10 (k + 1) cn V3 x26 x27 x28 x29 x30 x31 (by omega) (by omega) hRB (hRD) (hRS) (by rw [rk_n (by omega) hnu9]; exact hc) _ _ _ hP hS (lv_sub hl [0, 1, 2, 3] rfl)
                · have hu9 : (UNG rw cl (fun x => ¬ (r 6) x = 0) (r 7) (secA (r 10)) Lo Hi V0 dn up (KA (r 11))) i k := ⟨by omega, by omega, hsi, hse, fun z9 => bF hw25r c32 ((SF_c (K := KA (r 11)) (fun _ _ _ _ => rfl)).mpr z9)⟩
                  obtain ⟨v34, ev34⟩ : ∃ y9 : Int32, y9 = (nI cn) + Int32.ofInt (1) := ⟨_, rfl⟩
                  refine lv_iinc (v := v34) (lv' := [(1, .int v34), (3, .int (nI k)), (2, .int (nI i)), (0, .ref (a 15))]) hx hb dX2_countUnsafe_44 hl (k := 2) rfl ev34.symm (by decide) rfl (fun ls hl => ?_)
                  obtain rfl : v34 = nI (cn + 1) := nI_plus (i := cn) (j := 1) ev34 rfl (by decide)
                  obtain ⟨v35, ev35⟩ : ∃ y9 : Int32, y9 = (nI k) + Int32.ofInt (1) := ⟨_, rfl⟩
                  refine lv_iinc (v := v35) (lv' := [(3, .int v35), (1, .int (nI (cn + 1))), (2, .int (nI i)), (0, .ref (a 15))]) hx hb dX2_countUnsafe_47 hl (k := 1) rfl ev35.symm (by decide) rfl (fun ls hl => ?_)
                  obtain rfl : v35 = nI (k + 1) := nI_plus (i := k) (j := 1) ev35 rfl (by decide)
                  refine lv_goto (tgt := 14) hx hb dX2_countUnsafe_50 (by decide) ?_
                  exact ih14k10 (k + 1) (cn + 1) V3 x26 x27 x28 x29 x30 x31 (by omega) (by omega) hRB (hRD) (hRS) (by rw [rk_y (by omega) hu9, hc]) _ _ _ hP hS (lv_sub hl [0, 2, 1, 3] rfl)
        exact loop14 (cl + 1) 0 cn U x3 x4 x5 x6 x7 x8 (by omega) (by omega) hRB (hRD) (hRS) (hc) _ _ _ hP hS (lv_sub hl [0, 1, 2, 3] rfl)
  exact loop4 (rw + 1) 0 0 V (f 4) (q 0) (q 1) (q 2) (qf 3) (r 12) (by omega) (by omega) hRB (hRD) (hRS) (rfl) _ _ _ hP hS (lv_sub hl [0, 1, 2] rfl)
/-- how many are not safe -/
def usM (tb q : Int32) (r1 r2 r3 r4 r5 r6 r7 r8 r9 r10 r11 r12 r13 r14 : Nat → Int32) (st : Int32) : Prop := (¬ opn r1 tb ∧ q = -1 ∧ st = 1) ∨ ∃ t rw cl bk dn uq, t < 6 ∧ tb = nI t ∧ ¬ r1 t = 0 ∧ rw ≤ 12 ∧ cl ≤ 12 ∧ bk ≤ 12 ∧ r2 t = nI rw ∧ r3 t = nI cl ∧ r12 t = nI bk ∧ r4 (6 * t + 3) = nI dn ∧ r4 (6 * t + 4) = nI uq ∧ dn ≤ 1000000 ∧ uq ≤ 1000000 ∧ q = nI (rkG (fun x y => x < rw ∧ y < cl ∧ UNm rw cl t bk r3 r4 r5 r6 r7 r8 r9 r10 r11 r13 r14 dn uq x y) (12 * rw)) ∧ st = 0
set_option maxHeartbeats 4000000 in
set_option maxRecDepth 100000 in
theorem n_unsafeN (l : Launch) (G : GG) (y : Nat) (b : Nat → Nat) (f : Nat → Int32) (r : Nat → Nat → Int32) (tb : Int32) (hM2 : nOK 6 12 (r 2)) (hM3 : nOK 6 12 (r 3)) (hM12 : nOK 6 12 (r 12)) (hG : nOK 864 6 (r 7)) (hNA : ∀ t rw cl, t < 6 → rw ≤ 12 → cl ≤ 12 → ¬ (r 1) t = 0 → (r 2) t = nI rw → (r 3) t = nI cl → NRM rw cl t (r 3) (r 5) (r 6) (r 11)) (hRA : ∀ t, t < 6 → ¬ (r 1) t = 0 → ∃ dn uq, dn ≤ 1000000 ∧ uq ≤ 1000000 ∧ (r 4) (6 * t + 3) = nI dn ∧ (r 4) (6 * t + 4) = nI uq) : WrI l yX7_unsafe cX7_unsafe 4 (some .int) ({ frames := 7, cells := 0, slots := 0, locals := 179 }) G (mM G y b f r) [.ref y, .int tb] (fun q w => ∃ (n_f_0 : Int32) (n_f_20 : Int32) (n_f_21 : Int32) (n_r_15 : Nat → Int32) (n_r_16 : Nat → Int32) (n_r_17 : Nat → Int32) (n_r_18 : Nat → Int32) (n_r_19 : Nat → Int32) (n_r_22 : Nat → Int32) (n_r_23 : Nat → Int32), w = mM G y b (upd (upd (upd f 0 n_f_0) 20 n_f_20) 21 n_f_21) (up2 (up2 (up2 (up2 (up2 (up2 (up2 r 15 n_r_15) 16 n_r_16) 17 n_r_17) 18 n_r_18) 19 n_r_19) 22 n_r_22) 23 n_r_23) ∧ usM tb q (r 1) (r 2) (r 3) (r 4) (r 5) (r 6) (r 7) (r 8) (r 9) (r 10) (r 11) (r 12) (r 13) (r 14) n_f_0) := by
  refine wr_entryI (by decide +kernel) (Nat.le_of_ble_eq_true rfl) ?_
  intro p e s m below meth c A C0 hP hK hD hA ls hl
  have hS : va_S A s.heap s.heap [] := va_S.rf
  obtain ⟨hx, hb, hml, hown, hts, hr, hlocks, hin⟩ := C0
  have hown : s.vm.findClass RX7 = some m.cls := hown
  have hDD : ∀ f' r', va_D A (mM G y b f' r') := fun f' r' => D_same hD rfl
  have hl : lv_has ls 4 [(0, .ref y), (1, .int tb)] := hl
  refine lv_aload_n hx hb dX7_unsafe_0 rfl (lv_at hl 0 rfl) ?_
  refine lv_aload_n hx hb dX7_unsafe_1 rfl (lv_at hl 0 rfl) ?_
  refine lv_iload_n hx hb dX7_unsafe_2 rfl (lv_at hl 1 rfl) ?_
  refine rdV (rest := [.ref y]) (q0 := 0) ⟨hx, hb, hml, hown, hts⟩ (m_X7_isTable l G y b f r tb  ) mi_yX7_isTable mv_yX7_isTable ml_X7_120 ⟨rfl, rfl, Nat.le_of_ble_eq_true rfl, Nat.le_of_ble_eq_true rfl⟩ hK (hP) rfl rfl rfl hl.1 rfl (Nat.le_of_ble_eq_true rfl) dX7_unsafe_3 ⟨Nat.zero_le _, Nat.zero_le _⟩ hS hA hP (fun r1 H locs hr1 hP hS => ?_)
  have hr1 : ((r1 = 1 ∧ (opn (r 1) tb)) ∨ (r1 = 0 ∧ ¬ (opn (r 1) tb))) := hr1
  refine lv_if_eq (tgt := 13) hx hb dX7_unsafe_6 (by decide) (fun c2 => ?_) (fun c2 => ?_)
  · have b6 := bF hr1 c2
    refine lv_iconst (v := 1) hx hb dX7_unsafe_13 (by decide) ?_
    refine va_put (D := G.1) (ci := 7) (v := .int 1) (C := RX7) (T := TX7) (N := 43) hx hb hts inX7 tyX7 tyX7_ok nmX7 hown hK.1 hP (hDD _ _) hS 0 rfl rfl 0 (by decide) (hts _ mf_X7_116) (fun _ h9 => h9) rfl (tyX7_ok 0 (by decide)) (rfl) (rfl) (Nat.le_of_ble_eq_true rfl) dX7_unsafe_14 (fun H locs hP _ hS => ?_)
    have hP : PP G (mM G y b (upd f 0 1) r) H := hP
    refine lv_aload_n hx hb dX7_unsafe_17 rfl (lv_at hl 0 rfl) ?_
    refine va_get (D := G.1) (ci := 7) (v := .int 1) (C := RX7) (T := TX7) (N := 43) hx hb hts inX7 hown hK.1 hP 0 rfl rfl 0 (by decide) (hts _ mf_X7_116) (fun _ h9 => h9) rfl dX7_unsafe_18 ?_
    refine lv_if_le (tgt := 26) hx hb dX7_unsafe_21 (by decide) (fun c3 => absurd c3 (by decide)) (fun c3 => ?_)
    refine lv_iconst (v := -1) hx hb dX7_unsafe_24 (by decide) ?_
    exact wr_iret hx hb hr hlocks hS hP ⟨1, (f 20), (f 21), (r 15), (r 16), (r 17), (r 18), (r 19), (r 22), (r 23), rfl, (Or.inl ⟨b6, rfl, rfl⟩)⟩ dX7_unsafe_25
  · have b6 := bT hr1 c2
    obtain ⟨t, ht, rfl, hop⟩ := b6
    obtain ⟨rw, hrw, h2⟩ := hM2 t ht
    obtain ⟨cl, hcl, h3⟩ := hM3 t ht
    obtain ⟨bk, hbk, h12⟩ := hM12 t ht
    have hNR := hNA t rw cl ht hrw hcl hop h2 h3
    obtain ⟨dn, uq, hdn, huq, hr3, hr4⟩ := hRA t ht hop
    refine lv_iconst (v := 0) hx hb dX7_unsafe_9 (by decide) ?_
    refine lv_goto (tgt := 14) hx hb dX7_unsafe_10 (by decide) ?_
    refine va_put (D := G.1) (ci := 7) (v := .int 0) (C := RX7) (T := TX7) (N := 43) hx hb hts inX7 tyX7 tyX7_ok nmX7 hown hK.1 hP (hDD _ _) hS 0 rfl rfl 0 (by decide) (hts _ mf_X7_116) (fun _ h9 => h9) rfl (tyX7_ok 0 (by decide)) (rfl) (rfl) (Nat.le_of_ble_eq_true rfl) dX7_unsafe_14 (fun H locs hP _ hS => ?_)
    have hP : PP G (mM G y b (upd f 0 0) r) H := hP
    refine lv_aload_n hx hb dX7_unsafe_17 rfl (lv_at hl 0 rfl) ?_
    refine va_get (D := G.1) (ci := 7) (v := .int 0) (C := RX7) (T := TX7) (N := 43) hx hb hts inX7 hown hK.1 hP 0 rfl rfl 0 (by decide) (hts _ mf_X7_116) (fun _ h9 => h9) rfl dX7_unsafe_18 ?_
    refine lv_if_le (tgt := 26) hx hb dX7_unsafe_21 (by decide) (fun c4 => ?_) (fun c4 => absurd (by decide) c4)
    refine lv_iconst (v := 0) hx hb dX7_unsafe_26 (by decide) ?_
    refine lv_istore_n (lv' := [(2, .int 0), (0, .ref y), (1, .int (nI t))]) hx hb dX7_unsafe_27 rfl hl (by decide) rfl (fun ls hl => ?_)
    refine lv_aload_n hx hb dX7_unsafe_28 rfl (lv_at hl 1 rfl) ?_
    refine lv_iload_n hx hb dX7_unsafe_29 rfl (lv_at hl 2 rfl) ?_
    refine lv_iconst (v := 0) hx hb dX7_unsafe_30 (by decide) ?_
    refine wrVIa (rest := []) (q0 := 0) ⟨hx, hb, hml, hown, hts⟩ (n_unsafeFrom l G y b (upd f 0 0) r t 0 rw cl bk dn uq (by omega) (by omega) (by omega) (by omega) h2 h3 h12 hG hNR (by omega) (by omega) hr3 hr4 (by omega)) mi_yX7_unsafeFrom mv_yX7_unsafeFrom ml_X7_230 ⟨rfl, rfl, Nat.le_of_ble_eq_true rfl, Nat.le_of_ble_eq_true rfl⟩ hK hP (hDD _ _) rfl rfl rfl hl.1 rfl (Nat.le_of_ble_eq_true rfl) dX7_unsafe_31 ⟨Nat.zero_le _, Nat.zero_le _⟩ hS hA (fun r5 w6 H locs hw6 hP hS => ?_)
    obtain ⟨x7, x8, x9, x10, x11, x12, x13, x14, x15, rfl, hw6r⟩ := hw6
    have hP : PP G (mM G y b (upd (upd (upd f 0 0) 20 x7) 21 x8) (up2 (up2 (up2 (up2 (up2 (up2 (up2 r 15 x9) 16 x10) 17 x11) 18 x12) 19 x13) 22 x14) 23 x15)) H := hP
    have hw6r : firstU rw cl (UNm rw cl t bk (r 3) (r 4) (r 5) (r 6) (r 7) (r 8) (r 9) (r 10) (r 11) (r 13) (r 14) dn uq) 0 r5 := hw6r
    refine lv_istore_n (lv' := [(3, .int r5), (2, .int 0), (0, .ref y), (1, .int (nI t))]) hx hb dX7_unsafe_34 rfl hl (by decide) rfl (fun ls hl => ?_)
    have loop35 : ∀ (k16 : Nat) (z18 : Int32) (cc : Nat) (pl : Nat) (x20 : Int32) (x21 : Int32) (x22 : Nat → Int32) (x23 : Nat → Int32) (x24 : Nat → Int32) (x25 : Nat → Int32) (x26 : Nat → Int32) (x27 : Nat → Int32) (x28 : Nat → Int32), 145 - pl < k16 → (pl ≤ 144) → (firstU rw cl (UNm rw cl t bk (r 3) (r 4) (r 5) (r 6) (r 7) (r 8) (r 9) (r 10) (r 11) (r 13) (r 14) dn uq) pl (z18 : Int32)) → (cc = rkG (fun x y => x < rw ∧ y < cl ∧ UNm rw cl t bk (r 3) (r 4) (r 5) (r 6) (r 7) (r 8) (r 9) (r 10) (r 11) (r 13) (r 14) dn uq x y) pl) → ∀ (H : Heap) (locs : List Loc) (ls : Array Slot), PP G (mM G y b (upd (upd (upd f 0 0) 20 x20) 21 x21) (up2 (up2 (up2 (up2 (up2 (up2 (up2 r 15 x22) 16 x23) 17 x24) 18 x25) 19 x26) 22 x27) 23 x28)) H → va_S A s.heap H locs → lv_has ls 4 [(3, .int z18), (2, .int (nI cc)), (0, .ref y), (1, .int (nI t))] → W p l e ({ frames := 7, cells := 0, slots := 0, locals := 179 }) s m ([.ref y, .int (nI t)] : List Value).toArray below meth c H locs 0 0 (MQ below (QwI G (fun q w => ∃ (n_f_0 : Int32) (n_f_20 : Int32) (n_f_21 : Int32) (n_r_15 : Nat → Int32) (n_r_16 : Nat → Int32) (n_r_17 : Nat → Int32) (n_r_18 : Nat → Int32) (n_r_19 : Nat → Int32) (n_r_22 : Nat → Int32) (n_r_23 : Nat → Int32), w = mM G y b (upd (upd (upd f 0 n_f_0) 20 n_f_20) 21 n_f_21) (up2 (up2 (up2 (up2 (up2 (up2 (up2 r 15 n_r_15) 16 n_r_16) 17 n_r_17) 18 n_r_18) 19 n_r_19) 22 n_r_22) 23 n_r_23) ∧ usM (nI t) q (r 1) (r 2) (r 3) (r 4) (r 5) (r 6) (r 7) (r 8) (r 9) (r 10) (r 11) (r 12) (r 13) (r 14) n_f_0) A) ([.ref y, .int (nI t)] : List Value).toArray s 0 0 A) (F0 m 35 ls []) := by
      intro k16
      induction k16 with
      | zero => intro z18 cc pl x20 x21 x22 x23 x24 x25 x26 x27 x28 h1; exact absurd h1 (Nat.not_lt_zero _)
      | succ k16 ih35k16 =>
        intro  z18 cc pl x20 x21 x22 x23 x24 x25 x26 x27 x28 hm_k16 hpl9 hk hc H locs ls hP hS hl
        refine lv_iload_n hx hb dX7_unsafe_35 rfl (lv_at hl 0 rfl) ?_
        refine lv_iconst (v := -1) hx hb dX7_unsafe_36 (by decide) ?_
        refine lv_icmp_eq (tgt := 55) hx hb dX7_unsafe_37 (by decide) (fun c29 => ?_) (fun c29 => ?_)
        · have hend : rkG (fun x y => x < rw ∧ y < cl ∧ UNm rw cl t bk (r 3) (r 4) (r 5) (r 6) (r 7) (r 8) (r 9) (r 10) (r 11) (r 13) (r 14) dn uq x y) (12 * rw) = rkG (fun x y => x < rw ∧ y < cl ∧ UNm rw cl t bk (r 3) (r 4) (r 5) (r 6) (r 7) (r 8) (r 9) (r 10) (r 11) (r 13) (r 14) dn uq x y) pl := (Nat.le_total pl (12 * rw)).elim (fun z9 => rk_gap2 z9 (fun x y h7 h8 h9 _ => (hk.resolve_right (fun ⟨i9, j9, _, _, _, e9, _⟩ => absurd (e9.symm.trans c29) (nI_nm1 (by omega)))).2 x y h8.1 h8.2.1 h9 h8.2.2)) (fun z9 => (rk_gap2 z9 (fun x y h7 h8 h9 _ => absurd h8.1 (by omega))).symm)
          refine lv_iload_n hx hb dX7_unsafe_55 rfl (lv_at hl 1 rfl) ?_
          exact wr_iret hx hb hr hlocks hS hP ⟨0, x20, x21, x22, x23, x24, x25, x26, x27, x28, rfl, (Or.inr ⟨t, rw, cl, bk, dn, uq, ht, rfl, hop, hrw, hcl, hbk, h2, h3, h12, hr3, hr4, hdn, huq, by rw [hend, hc], rfl⟩)⟩ dX7_unsafe_56
        · obtain ⟨i, j, hi, hj, hpl, ek, hun, hbe⟩ := hk.resolve_left (fun z9 => c29 z9.1)
          subst ek
          have hgp : rkG (fun x y => x < rw ∧ y < cl ∧ UNm rw cl t bk (r 3) (r 4) (r 5) (r 6) (r 7) (r 8) (r 9) (r 10) (r 11) (r 13) (r 14) dn uq x y) (12 * i + j) = rkG (fun x y => x < rw ∧ y < cl ∧ UNm rw cl t bk (r 3) (r 4) (r 5) (r 6) (r 7) (r 8) (r 9) (r 10) (r 11) (r 13) (r 14) dn uq x y) pl := rk_gap2 hpl (fun x y h7 h8 h9 z9 => hbe x y h8.1 h8.2.1 h9 z9 h8.2.2)
          have hs1 := rk_y (M := (fun x y => x < rw ∧ y < cl ∧ UNm rw cl t bk (r 3) (r 4) (r 5) (r 6) (r 7) (r 8) (r 9) (r 10) (r 11) (r 13) (r 14) dn uq x y)) (x := i) (y := j) (by omega) ⟨hi, hj, hun⟩
          obtain ⟨v30, ev30⟩ : ∃ y9 : Int32, y9 = (nI cc) + Int32.ofInt (1) := ⟨_, rfl⟩
          refine lv_iinc (v := v30) (lv' := [(2, .int v30), (3, .int (nI (12 * i + j))), (0, .ref y), (1, .int (nI t))]) hx hb dX7_unsafe_40 hl (k := 1) rfl ev30.symm (by decide) rfl (fun ls hl => ?_)
          obtain rfl : v30 = nI (cc + 1) := nI_plus (i := cc) (j := 1) ev30 rfl (by decide)
          refine lv_aload_n hx hb dX7_unsafe_43 rfl (lv_at hl 2 rfl) ?_
          refine lv_iload_n hx hb dX7_unsafe_44 rfl (lv_at hl 3 rfl) ?_
          refine lv_iload_n hx hb dX7_unsafe_45 rfl (lv_at hl 1 rfl) ?_
          refine lv_iconst (v := 1) hx hb dX7_unsafe_46 (by decide) ?_
          refine lv_iadd hx hb dX7_unsafe_47 ?_
          refine lv_topi (fun v31 ev31 => ?_)
          obtain rfl : v31 = nI ((12 * i + j) + 1) := nI_plus ev31 rfl rfl
          refine wrVIa (rest := []) (q0 := 0) ⟨hx, hb, hml, hown, hts⟩ (n_unsafeFrom l G y b (upd (upd (upd f 0 0) 20 x20) 21 x21) (up2 (up2 (up2 (up2 (up2 (up2 (up2 r 15 x22) 16 x23) 17 x24) 18 x25) 19 x26) 22 x27) 23 x28) t ((12 * i + j) + 1) rw cl bk dn uq (by omega) (by omega) (by omega) (by omega) h2 h3 h12 hG hNR (by omega) (by omega) hr3 hr4 (by omega)) mi_yX7_unsafeFrom mv_yX7_unsafeFrom ml_X7_230 ⟨rfl, rfl, Nat.le_of_ble_eq_true rfl, Nat.le_of_ble_eq_true rfl⟩ hK hP (hDD _ _) rfl rfl rfl hl.1 rfl (Nat.le_of_ble_eq_true rfl) dX7_unsafe_48 ⟨Nat.zero_le _, Nat.zero_le _⟩ hS hA (fun r32 w33 H locs hw33 hP hS => ?_)
          obtain ⟨x34, x35, x36, x37, x38, x39, x40, x41, x42, rfl, hw33r⟩ := hw33
          have hP : PP G (mM G y b (upd (upd (upd f 0 0) 20 x34) 21 x35) (up2 (up2 (up2 (up2 (up2 (up2 (up2 r 15 x36) 16 x37) 17 x38) 18 x39) 19 x40) 22 x41) 23 x42)) H := hP
          have hw33r : firstU rw cl (UNm rw cl t bk (r 3) (r 4) (r 5) (r 6) (r 7) (r 8) (r 9) (r 10) (r 11) (r 13) (r 14) dn uq) ((12 * i + j) + 1) r32 := hw33r
          refine lv_istore_n (lv' := [(3, .int r32), (2, .int (nI (cc + 1))), (0, .ref y), (1, .int (nI t))]) hx hb dX7_unsafe_51 rfl hl (by decide) rfl (fun ls hl => ?_)
          refine lv_goto (tgt := 35) hx hb dX7_unsafe_52 (by decide) ?_
          exact ih35k16 r32 (cc + 1) (12 * i + j + 1) x34 x35 x36 x37 x38 x39 x40 x41 x42 (by omega) (by omega) (hw33r) (by rw [Nat.add_assoc, hs1, hgp, hc]) _ _ _ hP hS (lv_sub hl [0, 1, 2, 3] rfl)
    exact loop35 146 r5 0 0 x7 x8 x9 x10 x11 x12 x13 x14 x15 (by omega) (by omega) (hw6r) (rfl) _ _ _ hP hS (lv_sub hl [0, 1, 2, 3] rfl)
