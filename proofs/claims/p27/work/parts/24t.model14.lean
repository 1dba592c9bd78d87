
def sfM (q : Int32) (r2 r3 r4 r5 r6 r7 r8 r9 r10 r11 r12 r13 r14 : Nat → Int32) (t i k : Nat) : Prop := ∃ rw cl bk dn uq, rw ≤ 12 ∧ cl ≤ 12 ∧ bk ≤ 12 ∧ r2 t = nI rw ∧ r3 t = nI cl ∧ r12 t = nI bk ∧ r4 (6 * t + 3) = nI dn ∧ r4 (6 * t + 4) = nI uq ∧ dn ≤ 1000000 ∧ uq ≤ 1000000 ∧ ((q = 1 ∧ SFm rw cl t bk r3 r4 r5 r6 r7 r8 r9 r10 r11 r13 r14 dn uq i k) ∨ (q = 0 ∧ ¬ SFm rw cl t bk r3 r4 r5 r6 r7 r8 r9 r10 r11 r13 r14 dn uq i k))
def spM (g q : Int32) (r2 r3 r4 r5 r6 r7 r8 r9 r10 r11 r12 r13 r14 : Nat → Int32) (t i k : Nat) : Prop := ∃ rw cl bk, ∃ V : Nat → Nat → Nat, rw ≤ 12 ∧ cl ≤ 12 ∧ bk ≤ 12 ∧ r2 t = nI rw ∧ r3 t = nI cl ∧ r12 t = nI bk ∧ q = nI (V i k) ∧ agN (KBm rw cl t bk r3 r4 r5 r6 r7 r8 r9 r10 r11 r13 r14 (clM r13 r14 t (nI i) bk).1) (LTm r5 r6 t cl) (HTm r5 r6 t cl) (rsT (DBm rw cl t bk r3 r5 r11 r13 r14 (clM r13 r14 t (nI i) bk).1) (NTm r6 t)) V ∧ (((KBm rw cl t bk r3 r4 r5 r6 r7 r8 r9 r10 r11 r13 r14 (clM r13 r14 t (nI i) bk).1) i k = false ∧ V i k = (rsT (DBm rw cl t bk r3 r5 r11 r13 r14 (clM r13 r14 t (nI i) bk).1) (NTm r6 t)) i k) ∨ ((KBm rw cl t bk r3 r4 r5 r6 r7 r8 r9 r10 r11 r13 r14 (clM r13 r14 t (nI i) bk).1) i k = true ∧ (g = 0 → ∀ w, agN (KBm rw cl t bk r3 r4 r5 r6 r7 r8 r9 r10 r11 r13 r14 (clM r13 r14 t (nI i) bk).1) (LTm r5 r6 t cl) (HTm r5 r6 t cl) (rsT (DBm rw cl t bk r3 r5 r11 r13 r14 (clM r13 r14 t (nI i) bk).1) (NTm r6 t)) w → V i k ≤ w i k) ∧ (¬ g = 0 → ∀ w, agN (KBm rw cl t bk r3 r4 r5 r6 r7 r8 r9 r10 r11 r13 r14 (clM r13 r14 t (nI i) bk).1) (LTm r5 r6 t cl) (HTm r5 r6 t cl) (rsT (DBm rw cl t bk r3 r5 r11 r13 r14 (clM r13 r14 t (nI i) bk).1) (NTm r6 t)) w → w i k ≤ V i k)))
set_option maxHeartbeats 4000000 in
set_option maxRecDepth 100000 in
theorem n_safe (l : Launch) (G : GG) (y : Nat) (b : Nat → Nat) (f : Nat → Int32) (r : Nat → Nat → Int32) (tb : Int32) (row : Int32) (col : Int32) (hM2 : nOK 6 12 (r 2)) (hM3 : nOK 6 12 (r 3)) (hM12 : nOK 6 12 (r 12)) (hG : nOK 864 6 (r 7)) (hNB : ∀ t rw cl, t < 6 → rw ≤ 12 → cl ≤ 12 → (r 2) t = nI rw → (r 3) t = nI cl → NRM rw cl t (r 3) (r 5) (r 6) (r 11)) (hRB : ∀ t, t < 6 → ∃ dn uq, dn ≤ 1000000 ∧ uq ≤ 1000000 ∧ (r 4) (6 * t + 3) = nI dn ∧ (r 4) (6 * t + 4) = nI uq) : WrI l yX7_safe cX7_safe 4 (some .int) ({ frames := 6, cells := 0, slots := 0, locals := 154 }) G (mM G y b f r) [.ref y, .int tb, .int row, .int col] (fun q w => ∃ (n_f_0 : Int32) (n_f_20 : Int32) (n_f_21 : Int32) (n_r_15 : Nat → Int32) (n_r_16 : Nat → Int32) (n_r_17 : Nat → Int32) (n_r_18 : Nat → Int32) (n_r_19 : Nat → Int32) (n_r_22 : Nat → Int32) (n_r_23 : Nat → Int32), w = mM G y b (upd (upd (upd f 0 n_f_0) 20 n_f_20) 21 n_f_21) (up2 (up2 (up2 (up2 (up2 (up2 (up2 r 15 n_r_15) 16 n_r_16) 17 n_r_17) 18 n_r_18) 19 n_r_19) 22 n_r_22) 23 n_r_23) ∧ atM (r 1) (r 2) (r 3) (r 11) tb row col (fun t i k => sv ((¬ (r 5) (144 * t + 12 * i + k) = 0 ∧ ¬ (r 5) (144 * t + 12 * i + k) = 5) ∧ sndN ((r 3) t) (r 11) (r 5) t i) (sfM q (r 2) (r 3) (r 4) (r 5) (r 6) (r 7) (r 8) (r 9) (r 10) (r 11) (r 12) (r 13) (r 14) t i k) (q = -1)) (q = -1)) := by
  refine wr_entryI (by decide +kernel) (Nat.le_of_ble_eq_true rfl) ?_
  intro p e s m below meth c A C0 hP hK hD hA ls hl
  have hS : va_S A s.heap s.heap [] := va_S.rf
  obtain ⟨hx, hb, hml, hown, hts, hr, hlocks, hin⟩ := C0
  have hown : s.vm.findClass RX7 = some m.cls := hown
  have hDD : ∀ f' r', va_D A (mM G y b f' r') := fun f' r' => D_same hD rfl
  have hl : lv_has ls 4 [(0, .ref y), (1, .int tb), (2, .int row), (3, .int col)] := hl
  refine lv_aload_n hx hb dX7_safe_0 rfl (lv_at hl 0 rfl) ?_
  refine lv_aload_n hx hb dX7_safe_1 rfl (lv_at hl 0 rfl) ?_
  refine lv_iload_n hx hb dX7_safe_2 rfl (lv_at hl 1 rfl) ?_
  refine lv_iload_n hx hb dX7_safe_3 rfl (lv_at hl 2 rfl) ?_
  refine lv_iload_n hx hb dX7_safe_4 rfl (lv_at hl 3 rfl) ?_
  refine rdV (rest := [.ref y]) (q0 := 0) ⟨hx, hb, hml, hown, hts⟩ (m_X7_wrongSound l G y b f r tb row col  hM2 hM3 hM12) mi_yX7_wrongSound mv_yX7_wrongSound ml_X7_178 ⟨rfl, rfl, Nat.le_of_ble_eq_true rfl, Nat.le_of_ble_eq_true rfl⟩ hK (hP) rfl rfl rfl hl.1 rfl (Nat.le_of_ble_eq_true rfl) dX7_safe_5 ⟨Nat.zero_le _, Nat.zero_le _⟩ hS hA hP (fun r1 H locs hr1 hP hS => ?_)
  have hr1 : stM (r 1) (r 2) (r 3) (r 11) tb row col (fun t i k => kfS ((r 5) (144 * t + 12 * i + k)) (sndN ((r 3) t) (r 11) (r 5) t i)) r1 := hr1
  refine va_put (D := G.1) (ci := 7) (v := .int r1) (C := RX7) (T := TX7) (N := 43) hx hb hts inX7 tyX7 tyX7_ok nmX7 hown hK.1 hP (hDD _ _) hS 0 rfl rfl 0 (by decide) (hts _ mf_X7_116) (fun _ h9 => h9) rfl (tyX7_ok 0 (by decide)) (rfl) (rfl) (Nat.le_of_ble_eq_true rfl) dX7_safe_8 (fun H locs hP _ hS => ?_)
  have hP : PP G (mM G y b (upd f 0 r1) r) H := hP
  refine lv_aload_n hx hb dX7_safe_11 rfl (lv_at hl 0 rfl) ?_
  refine va_get (D := G.1) (ci := 7) (v := .int r1) (C := RX7) (T := TX7) (N := 43) hx hb hts inX7 hown hK.1 hP 0 rfl rfl 0 (by decide) (hts _ mf_X7_116) (fun _ h9 => h9) rfl dX7_safe_12 ?_
  refine lv_if_le (tgt := 22) hx hb dX7_safe_15 (by decide) (fun c2 => ?_) (fun c2 => ?_)
  · have hp0 := (stM_0 hM2 hM3 (fun _ _ _ => kfS_p _ _) hr1 c2).1
    obtain ⟨t, i, k, rw, cl, ht, hi, hk, hrw, hcl, rfl, rfl, rfl, h2, h3⟩ := wS_ok (stM_w hM2 hM3 (fun _ _ _ => kfS_p _ _) hr1) (npos_of_le c2)
    obtain ⟨bk, hbk, h12⟩ := hM12 t ht
    have hkk := stM_k hM2 hM3 (fun _ _ _ => kfS_p _ _) hr1 c2 ht (show i < 12 by omega) (show k < 12 by omega) rfl rfl rfl
    refine lv_aload_n hx hb dX7_safe_22 rfl (lv_at hl 0 rfl) ?_
    refine lv_iload_n hx hb dX7_safe_23 rfl (lv_at hl 1 rfl) ?_
    refine lv_iload_n hx hb dX7_safe_24 rfl (lv_at hl 2 rfl) ?_
    refine lv_iload_n hx hb dX7_safe_25 rfl (lv_at hl 3 rfl) ?_
    have hNR := hNB t rw cl ht hrw hcl h2 h3
    obtain ⟨dn, uq, hdn, huq, hr3, hr4⟩ := hRB t ht
    have hsi := (kfS_i hkk).2
    refine wrVIa (rest := []) (q0 := 0) ⟨hx, hb, hml, hown, hts⟩ (n_isSafe l G y b (upd f 0 r1) r t i k rw cl bk dn uq (by omega) (by omega) (by omega) (by omega) h2 h3 h12 hG (by omega) (by omega) hsi hNR (by omega) (by omega) hr3 hr4) mi_yX7_isSafe mv_yX7_isSafe ml_X7_227 ⟨rfl, rfl, Nat.le_of_ble_eq_true rfl, Nat.le_of_ble_eq_true rfl⟩ hK hP (hDD _ _) rfl rfl rfl hl.1 rfl (Nat.le_of_ble_eq_true rfl) dX7_safe_26 ⟨Nat.zero_le _, Nat.zero_le _⟩ hS hA (fun r3 w4 H locs hw4 hP hS => ?_)
    obtain ⟨x5, x6, x7, x8, x9, x10, x11, x12, x13, rfl, hw4r⟩ := hw4
    have hP : PP G (mM G y b (upd (upd (upd f 0 r1) 20 x5) 21 x6) (up2 (up2 (up2 (up2 (up2 (up2 (up2 r 15 x7) 16 x8) 17 x9) 18 x10) 19 x11) 22 x12) 23 x13)) H := hP
    have hw4r : ((r3 = 1 ∧ (SAFR (KBm rw cl t bk (r 3) (r 4) (r 5) (r 6) (r 7) (r 8) (r 9) (r 10) (r 11) (r 13) (r 14) (clM (r 13) (r 14) t (nI i) bk).1) (LTm (r 5) (r 6) t cl) (HTm (r 5) (r 6) t cl) (rsT (DBm rw cl t bk (r 3) (r 5) (r 11) (r 13) (r 14) (clM (r 13) (r 14) t (nI i) bk).1) (NTm (r 6) t)) i k dn uq)) ∨ (r3 = 0 ∧ ¬ (SAFR (KBm rw cl t bk (r 3) (r 4) (r 5) (r 6) (r 7) (r 8) (r 9) (r 10) (r 11) (r 13) (r 14) (clM (r 13) (r 14) t (nI i) bk).1) (LTm (r 5) (r 6) t cl) (HTm (r 5) (r 6) t cl) (rsT (DBm rw cl t bk (r 3) (r 5) (r 11) (r 13) (r 14) (clM (r 13) (r 14) t (nI i) bk).1) (NTm (r 6) t)) i k dn uq))) := hw4r
    refine lv_if_eq (tgt := 36) hx hb dX7_safe_29 (by decide) (fun c14 => ?_) (fun c14 => ?_)
    · have b29 := bF hw4r c14
      refine lv_iconst (v := 0) hx hb dX7_safe_36 (by decide) ?_
      exact wr_iret hx hb hr hlocks hS hP ⟨r1, x5, x6, x7, x8, x9, x10, x11, x12, x13, rfl, Or.inr ⟨hp0, t, i, k, ht, by omega, by omega, rfl, rfl, rfl, Or.inl ⟨kfS_i hkk, rw, cl, bk, dn, uq, hrw, hcl, hbk, h2, h3, h12, hr3, hr4, hdn, huq, Or.inr ⟨rfl, b29⟩⟩⟩⟩ dX7_safe_37
    · have b29 := bT hw4r c14
      refine lv_iconst (v := 1) hx hb dX7_safe_32 (by decide) ?_
      refine lv_goto (tgt := 37) hx hb dX7_safe_33 (by decide) ?_
      exact wr_iret hx hb hr hlocks hS hP ⟨r1, x5, x6, x7, x8, x9, x10, x11, x12, x13, rfl, Or.inr ⟨hp0, t, i, k, ht, by omega, by omega, rfl, rfl, rfl, Or.inl ⟨kfS_i hkk, rw, cl, bk, dn, uq, hrw, hcl, hbk, h2, h3, h12, hr3, hr4, hdn, huq, Or.inl ⟨rfl, b29⟩⟩⟩⟩ dX7_safe_37
  · refine lv_iconst (v := -1) hx hb dX7_safe_18 (by decide) ?_
    refine lv_goto (tgt := 37) hx hb dX7_safe_19 (by decide) ?_
    exact wr_iret hx hb hr hlocks hS hP ⟨r1, (f 20), (f 21), (r 15), (r 16), (r 17), (r 18), (r 19), (r 22), (r 23), rfl, atM_n hr1 c2 rfl (fun t i k h => Or.inr ⟨fun z => h (kfS_g z.1.1 z.1.2 z.2), rfl⟩)⟩ dX7_safe_37
set_option maxHeartbeats 4000000 in
set_option maxRecDepth 100000 in
theorem n_least (l : Launch) (G : GG) (y : Nat) (b : Nat → Nat) (f : Nat → Int32) (r : Nat → Nat → Int32) (tb : Int32) (row : Int32) (col : Int32) (hM2 : nOK 6 12 (r 2)) (hM3 : nOK 6 12 (r 3)) (hM12 : nOK 6 12 (r 12)) (hG : nOK 864 6 (r 7)) (hNB : ∀ t rw cl, t < 6 → rw ≤ 12 → cl ≤ 12 → (r 2) t = nI rw → (r 3) t = nI cl → NRM rw cl t (r 3) (r 5) (r 6) (r 11)) (hRB : ∀ t, t < 6 → ∃ dn uq, dn ≤ 1000000 ∧ uq ≤ 1000000 ∧ (r 4) (6 * t + 3) = nI dn ∧ (r 4) (6 * t + 4) = nI uq) : WrI l yX7_least cX7_least 4 (some .int) ({ frames := 5, cells := 0, slots := 0, locals := 129 }) G (mM G y b f r) [.ref y, .int tb, .int row, .int col] (fun q w => ∃ (n_f_0 : Int32) (n_f_20 : Int32) (n_f_21 : Int32) (n_r_15 : Nat → Int32) (n_r_16 : Nat → Int32) (n_r_17 : Nat → Int32) (n_r_18 : Nat → Int32) (n_r_19 : Nat → Int32) (n_r_22 : Nat → Int32) (n_r_23 : Nat → Int32), w = mM G y b (upd (upd (upd f 0 n_f_0) 20 n_f_20) 21 n_f_21) (up2 (up2 (up2 (up2 (up2 (up2 (up2 r 15 n_r_15) 16 n_r_16) 17 n_r_17) 18 n_r_18) 19 n_r_19) 22 n_r_22) 23 n_r_23) ∧ atM (r 1) (r 2) (r 3) (r 11) tb row col (fun t i k => sv ((¬ (r 5) (144 * t + 12 * i + k) = 0 ∧ ¬ (r 5) (144 * t + 12 * i + k) = 5) ∧ sndN ((r 3) t) (r 11) (r 5) t i) (spM 0 q (r 2) (r 3) (r 4) (r 5) (r 6) (r 7) (r 8) (r 9) (r 10) (r 11) (r 12) (r 13) (r 14) t i k) (q = -1)) (q = -1)) := by
  refine wr_entryI (by decide +kernel) (Nat.le_of_ble_eq_true rfl) ?_
  intro p e s m below meth c A C0 hP hK hD hA ls hl
  have hS : va_S A s.heap s.heap [] := va_S.rf
  obtain ⟨hx, hb, hml, hown, hts, hr, hlocks, hin⟩ := C0
  have hown : s.vm.findClass RX7 = some m.cls := hown
  have hDD : ∀ f' r', va_D A (mM G y b f' r') := fun f' r' => D_same hD rfl
  have hl : lv_has ls 4 [(0, .ref y), (1, .int tb), (2, .int row), (3, .int col)] := hl
  refine lv_aload_n hx hb dX7_least_0 rfl (lv_at hl 0 rfl) ?_
  refine lv_aload_n hx hb dX7_least_1 rfl (lv_at hl 0 rfl) ?_
  refine lv_iload_n hx hb dX7_least_2 rfl (lv_at hl 1 rfl) ?_
  refine lv_iload_n hx hb dX7_least_3 rfl (lv_at hl 2 rfl) ?_
  refine lv_iload_n hx hb dX7_least_4 rfl (lv_at hl 3 rfl) ?_
  refine rdV (rest := [.ref y]) (q0 := 0) ⟨hx, hb, hml, hown, hts⟩ (m_X7_wrongSound l G y b f r tb row col  hM2 hM3 hM12) mi_yX7_wrongSound mv_yX7_wrongSound ml_X7_178 ⟨rfl, rfl, Nat.le_of_ble_eq_true rfl, Nat.le_of_ble_eq_true rfl⟩ hK (hP) rfl rfl rfl hl.1 rfl (Nat.le_of_ble_eq_true rfl) dX7_least_5 ⟨Nat.zero_le _, Nat.zero_le _⟩ hS hA hP (fun r1 H locs hr1 hP hS => ?_)
  have hr1 : stM (r 1) (r 2) (r 3) (r 11) tb row col (fun t i k => kfS ((r 5) (144 * t + 12 * i + k)) (sndN ((r 3) t) (r 11) (r 5) t i)) r1 := hr1
  refine va_put (D := G.1) (ci := 7) (v := .int r1) (C := RX7) (T := TX7) (N := 43) hx hb hts inX7 tyX7 tyX7_ok nmX7 hown hK.1 hP (hDD _ _) hS 0 rfl rfl 0 (by decide) (hts _ mf_X7_116) (fun _ h9 => h9) rfl (tyX7_ok 0 (by decide)) (rfl) (rfl) (Nat.le_of_ble_eq_true rfl) dX7_least_8 (fun H locs hP _ hS => ?_)
  have hP : PP G (mM G y b (upd f 0 r1) r) H := hP
  refine lv_aload_n hx hb dX7_least_11 rfl (lv_at hl 0 rfl) ?_
  refine va_get (D := G.1) (ci := 7) (v := .int r1) (C := RX7) (T := TX7) (N := 43) hx hb hts inX7 hown hK.1 hP 0 rfl rfl 0 (by decide) (hts _ mf_X7_116) (fun _ h9 => h9) rfl dX7_least_12 ?_
  refine lv_if_le (tgt := 22) hx hb dX7_least_15 (by decide) (fun c2 => ?_) (fun c2 => ?_)
  · have hp0 := (stM_0 hM2 hM3 (fun _ _ _ => kfS_p _ _) hr1 c2).1
    obtain ⟨t, i, k, rw, cl, ht, hi, hk, hrw, hcl, rfl, rfl, rfl, h2, h3⟩ := wS_ok (stM_w hM2 hM3 (fun _ _ _ => kfS_p _ _) hr1) (npos_of_le c2)
    obtain ⟨bk, hbk, h12⟩ := hM12 t ht
    have hkk := stM_k hM2 hM3 (fun _ _ _ => kfS_p _ _) hr1 c2 ht (show i < 12 by omega) (show k < 12 by omega) rfl rfl rfl
    refine lv_aload_n hx hb dX7_least_22 rfl (lv_at hl 0 rfl) ?_
    refine lv_iload_n hx hb dX7_least_23 rfl (lv_at hl 1 rfl) ?_
    refine lv_iload_n hx hb dX7_least_24 rfl (lv_at hl 2 rfl) ?_
    refine lv_iload_n hx hb dX7_least_25 rfl (lv_at hl 3 rfl) ?_
    refine lv_iconst (v := 0) hx hb dX7_least_26 (by decide) ?_
    have hNR := hNB t rw cl ht hrw hcl h2 h3
    obtain ⟨dn, uq, hdn, huq, hr3, hr4⟩ := hRB t ht
    have hsi := (kfS_i hkk).2
    refine wrVIa (rest := []) (q0 := 0) ⟨hx, hb, hml, hown, hts⟩ (n_endOf l G y b (upd f 0 r1) r t i k 0 rw cl bk (by omega) (by omega) (by omega) (by omega) h2 h3 h12 hG (by omega) (by omega) hsi hNR) mi_yX7_endOf mv_yX7_endOf ml_X7_223 ⟨rfl, rfl, Nat.le_of_ble_eq_true rfl, Nat.le_of_ble_eq_true rfl⟩ hK hP (hDD _ _) rfl rfl rfl hl.1 rfl (Nat.le_of_ble_eq_true rfl) dX7_least_27 ⟨Nat.zero_le _, Nat.zero_le _⟩ hS hA (fun r3 w4 H locs hw4 hP hS => ?_)
    obtain ⟨x5, x6, x7, x8, x9, x10, x11, x12, x13, V2, rfl, hw4r, ha2, hse, hvb⟩ := hw4
    have hP : PP G (mM G y b (upd (upd (upd f 0 r1) 20 x5) 21 x6) (up2 (up2 (up2 (up2 (up2 (up2 (up2 r 15 x7) 16 x8) 17 x9) 18 x10) 19 x11) 22 x12) 23 x13)) H := hP
    have ha2 : agN (KBm rw cl t bk (r 3) (r 4) (r 5) (r 6) (r 7) (r 8) (r 9) (r 10) (r 11) (r 13) (r 14) (clM (r 13) (r 14) t (nI i) bk).1) (LTm (r 5) (r 6) t cl) (HTm (r 5) (r 6) t cl) (rsT (DBm rw cl t bk (r 3) (r 5) (r 11) (r 13) (r 14) (clM (r 13) (r 14) t (nI i) bk).1) (NTm (r 6) t)) V2 := ha2
    have hse : ((KBm rw cl t bk (r 3) (r 4) (r 5) (r 6) (r 7) (r 8) (r 9) (r 10) (r 11) (r 13) (r 14) (clM (r 13) (r 14) t (nI i) bk).1) i k = false ∧ V2 i k = (rsT (DBm rw cl t bk (r 3) (r 5) (r 11) (r 13) (r 14) (clM (r 13) (r 14) t (nI i) bk).1) (NTm (r 6) t)) i k) ∨ ((KBm rw cl t bk (r 3) (r 4) (r 5) (r 6) (r 7) (r 8) (r 9) (r 10) (r 11) (r 13) (r 14) (clM (r 13) (r 14) t (nI i) bk).1) i k = true ∧ ((0 : Int32) = 0 → ∀ w, agN (KBm rw cl t bk (r 3) (r 4) (r 5) (r 6) (r 7) (r 8) (r 9) (r 10) (r 11) (r 13) (r 14) (clM (r 13) (r 14) t (nI i) bk).1) (LTm (r 5) (r 6) t cl) (HTm (r 5) (r 6) t cl) (rsT (DBm rw cl t bk (r 3) (r 5) (r 11) (r 13) (r 14) (clM (r 13) (r 14) t (nI i) bk).1) (NTm (r 6) t)) w → V2 i k ≤ w i k) ∧ (¬ (0 : Int32) = 0 → ∀ w, agN (KBm rw cl t bk (r 3) (r 4) (r 5) (r 6) (r 7) (r 8) (r 9) (r 10) (r 11) (r 13) (r 14) (clM (r 13) (r 14) t (nI i) bk).1) (LTm (r 5) (r 6) t cl) (HTm (r 5) (r 6) t cl) (rsT (DBm rw cl t bk (r 3) (r 5) (r 11) (r 13) (r 14) (clM (r 13) (r 14) t (nI i) bk).1) (NTm (r 6) t)) w → w i k ≤ V2 i k)) := hse
    have hvb : V2 i k ≤ 1073741824 := hvb
    have hw4r : r3 = nI (V2 i k) := hw4r
    exact wr_iret hx hb hr hlocks hS hP ⟨r1, x5, x6, x7, x8, x9, x10, x11, x12, x13, rfl, Or.inr ⟨hp0, t, i, k, ht, by omega, by omega, rfl, rfl, rfl, Or.inl ⟨kfS_i hkk, rw, cl, bk, V2, hrw, hcl, hbk, h2, h3, h12, hw4r, ha2, hse⟩⟩⟩ dX7_least_30
  · refine lv_iconst (v := -1) hx hb dX7_least_18 (by decide) ?_
    refine lv_goto (tgt := 30) hx hb dX7_least_19 (by decide) ?_
    exact wr_iret hx hb hr hlocks hS hP ⟨r1, (f 20), (f 21), (r 15), (r 16), (r 17), (r 18), (r 19), (r 22), (r 23), rfl, atM_n hr1 c2 rfl (fun t i k h => Or.inr ⟨fun z => h (kfS_g z.1.1 z.1.2 z.2), rfl⟩)⟩ dX7_least_30
set_option maxHeartbeats 4000000 in
set_option maxRecDepth 100000 in
theorem n_greatest (l : Launch) (G : GG) (y : Nat) (b : Nat → Nat) (f : Nat → Int32) (r : Nat → Nat → Int32) (tb : Int32) (row : Int32) (col : Int32) (hM2 : nOK 6 12 (r 2)) (hM3 : nOK 6 12 (r 3)) (hM12 : nOK 6 12 (r 12)) (hG : nOK 864 6 (r 7)) (hNB : ∀ t rw cl, t < 6 → rw ≤ 12 → cl ≤ 12 → (r 2) t = nI rw → (r 3) t = nI cl → NRM rw cl t (r 3) (r 5) (r 6) (r 11)) (hRB : ∀ t, t < 6 → ∃ dn uq, dn ≤ 1000000 ∧ uq ≤ 1000000 ∧ (r 4) (6 * t + 3) = nI dn ∧ (r 4) (6 * t + 4) = nI uq) : WrI l yX7_greatest cX7_greatest 4 (some .int) ({ frames := 5, cells := 0, slots := 0, locals := 129 }) G (mM G y b f r) [.ref y, .int tb, .int row, .int col] (fun q w => ∃ (n_f_0 : Int32) (n_f_20 : Int32) (n_f_21 : Int32) (n_r_15 : Nat → Int32) (n_r_16 : Nat → Int32) (n_r_17 : Nat → Int32) (n_r_18 : Nat → Int32) (n_r_19 : Nat → Int32) (n_r_22 : Nat → Int32) (n_r_23 : Nat → Int32), w = mM G y b (upd (upd (upd f 0 n_f_0) 20 n_f_20) 21 n_f_21) (up2 (up2 (up2 (up2 (up2 (up2 (up2 r 15 n_r_15) 16 n_r_16) 17 n_r_17) 18 n_r_18) 19 n_r_19) 22 n_r_22) 23 n_r_23) ∧ atM (r 1) (r 2) (r 3) (r 11) tb row col (fun t i k => sv ((¬ (r 5) (144 * t + 12 * i + k) = 0 ∧ ¬ (r 5) (144 * t + 12 * i + k) = 5) ∧ sndN ((r 3) t) (r 11) (r 5) t i) (spM 1 q (r 2) (r 3) (r 4) (r 5) (r 6) (r 7) (r 8) (r 9) (r 10) (r 11) (r 12) (r 13) (r 14) t i k) (q = -1)) (q = -1)) := by
  refine wr_entryI (by decide +kernel) (Nat.le_of_ble_eq_true rfl) ?_
  intro p e s m below meth c A C0 hP hK hD hA ls hl
  have hS : va_S A s.heap s.heap [] := va_S.rf
  obtain ⟨hx, hb, hml, hown, hts, hr, hlocks, hin⟩ := C0
  have hown : s.vm.findClass RX7 = some m.cls := hown
  have hDD : ∀ f' r', va_D A (mM G y b f' r') := fun f' r' => D_same hD rfl
  have hl : lv_has ls 4 [(0, .ref y), (1, .int tb), (2, .int row), (3, .int col)] := hl
  refine lv_aload_n hx hb dX7_greatest_0 rfl (lv_at hl 0 rfl) ?_
  refine lv_aload_n hx hb dX7_greatest_1 rfl (lv_at hl 0 rfl) ?_
  refine lv_iload_n hx hb dX7_greatest_2 rfl (lv_at hl 1 rfl) ?_
  refine lv_iload_n hx hb dX7_greatest_3 rfl (lv_at hl 2 rfl) ?_
  refine lv_iload_n hx hb dX7_greatest_4 rfl (lv_at hl 3 rfl) ?_
  refine rdV (rest := [.ref y]) (q0 := 0) ⟨hx, hb, hml, hown, hts⟩ (m_X7_wrongSound l G y b f r tb row col  hM2 hM3 hM12) mi_yX7_wrongSound mv_yX7_wrongSound ml_X7_178 ⟨rfl, rfl, Nat.le_of_ble_eq_true rfl, Nat.le_of_ble_eq_true rfl⟩ hK (hP) rfl rfl rfl hl.1 rfl (Nat.le_of_ble_eq_true rfl) dX7_greatest_5 ⟨Nat.zero_le _, Nat.zero_le _⟩ hS hA hP (fun r1 H locs hr1 hP hS => ?_)
  have hr1 : stM (r 1) (r 2) (r 3) (r 11) tb row col (fun t i k => kfS ((r 5) (144 * t + 12 * i + k)) (sndN ((r 3) t) (r 11) (r 5) t i)) r1 := hr1
  refine va_put (D := G.1) (ci := 7) (v := .int r1) (C := RX7) (T := TX7) (N := 43) hx hb hts inX7 tyX7 tyX7_ok nmX7 hown hK.1 hP (hDD _ _) hS 0 rfl rfl 0 (by decide) (hts _ mf_X7_116) (fun _ h9 => h9) rfl (tyX7_ok 0 (by decide)) (rfl) (rfl) (Nat.le_of_ble_eq_true rfl) dX7_greatest_8 (fun H locs hP _ hS => ?_)
  have hP : PP G (mM G y b (upd f 0 r1) r) H := hP
  refine lv_aload_n hx hb dX7_greatest_11 rfl (lv_at hl 0 rfl) ?_
  refine va_get (D := G.1) (ci := 7) (v := .int r1) (C := RX7) (T := TX7) (N := 43) hx hb hts inX7 hown hK.1 hP 0 rfl rfl 0 (by decide) (hts _ mf_X7_116) (fun _ h9 => h9) rfl dX7_greatest_12 ?_
  refine lv_if_le (tgt := 22) hx hb dX7_greatest_15 (by decide) (fun c2 => ?_) (fun c2 => ?_)
  · have hp0 := (stM_0 hM2 hM3 (fun _ _ _ => kfS_p _ _) hr1 c2).1
    obtain ⟨t, i, k, rw, cl, ht, hi, hk, hrw, hcl, rfl, rfl, rfl, h2, h3⟩ := wS_ok (stM_w hM2 hM3 (fun _ _ _ => kfS_p _ _) hr1) (npos_of_le c2)
    obtain ⟨bk, hbk, h12⟩ := hM12 t ht
    have hkk := stM_k hM2 hM3 (fun _ _ _ => kfS_p _ _) hr1 c2 ht (show i < 12 by omega) (show k < 12 by omega) rfl rfl rfl
    refine lv_aload_n hx hb dX7_greatest_22 rfl (lv_at hl 0 rfl) ?_
    refine lv_iload_n hx hb dX7_greatest_23 rfl (lv_at hl 1 rfl) ?_
    refine lv_iload_n hx hb dX7_greatest_24 rfl (lv_at hl 2 rfl) ?_
    refine lv_iload_n hx hb dX7_greatest_25 rfl (lv_at hl 3 rfl) ?_
    refine lv_iconst (v := 1) hx hb dX7_greatest_26 (by decide) ?_
    have hNR := hNB t rw cl ht hrw hcl h2 h3
    obtain ⟨dn, uq, hdn, huq, hr3, hr4⟩ := hRB t ht
    have hsi := (kfS_i hkk).2
    refine wrVIa (rest := []) (q0 := 0) ⟨hx, hb, hml, hown, hts⟩ (n_endOf l G y b (upd f 0 r1) r t i k 1 rw cl bk (by omega) (by omega) (by omega) (by omega) h2 h3 h12 hG (by omega) (by omega) hsi hNR) mi_yX7_endOf mv_yX7_endOf ml_X7_223 ⟨rfl, rfl, Nat.le_of_ble_eq_true rfl, Nat.le_of_ble_eq_true rfl⟩ hK hP (hDD _ _) rfl rfl rfl hl.1 rfl (Nat.le_of_ble_eq_true rfl) dX7_greatest_27 ⟨Nat.zero_le _, Nat.zero_le _⟩ hS hA (fun r3 w4 H locs hw4 hP hS => ?_)
    obtain ⟨x5, x6, x7, x8, x9, x10, x11, x12, x13, V2, rfl, hw4r, ha2, hse, hvb⟩ := hw4
    have hP : PP G (mM G y b (upd (upd (upd f 0 r1) 20 x5) 21 x6) (up2 (up2 (up2 (up2 (up2 (up2 (up2 r 15 x7) 16 x8) 17 x9) 18 x10) 19 x11) 22 x12) 23 x13)) H := hP
    have ha2 : agN (KBm rw cl t bk (r 3) (r 4) (r 5) (r 6) (r 7) (r 8) (r 9) (r 10) (r 11) (r 13) (r 14) (clM (r 13) (r 14) t (nI i) bk).1) (LTm (r 5) (r 6) t cl) (HTm (r 5) (r 6) t cl) (rsT (DBm rw cl t bk (r 3) (r 5) (r 11) (r 13) (r 14) (clM (r 13) (r 14) t (nI i) bk).1) (NTm (r 6) t)) V2 := ha2
    have hse : ((KBm rw cl t bk (r 3) (r 4) (r 5) (r 6) (r 7) (r 8) (r 9) (r 10) (r 11) (r 13) (r 14) (clM (r 13) (r 14) t (nI i) bk).1) i k = false ∧ V2 i k = (rsT (DBm rw cl t bk (r 3) (r 5) (r 11) (r 13) (r 14) (clM (r 13) (r 14) t (nI i) bk).1) (NTm (r 6) t)) i k) ∨ ((KBm rw cl t bk (r 3) (r 4) (r 5) (r 6) (r 7) (r 8) (r 9) (r 10) (r 11) (r 13) (r 14) (clM (r 13) (r 14) t (nI i) bk).1) i k = true ∧ ((1 : Int32) = 0 → ∀ w, agN (KBm rw cl t bk (r 3) (r 4) (r 5) (r 6) (r 7) (r 8) (r 9) (r 10) (r 11) (r 13) (r 14) (clM (r 13) (r 14) t (nI i) bk).1) (LTm (r 5) (r 6) t cl) (HTm (r 5) (r 6) t cl) (rsT (DBm rw cl t bk (r 3) (r 5) (r 11) (r 13) (r 14) (clM (r 13) (r 14) t (nI i) bk).1) (NTm (r 6) t)) w → V2 i k ≤ w i k) ∧ (¬ (1 : Int32) = 0 → ∀ w, agN (KBm rw cl t bk (r 3) (r 4) (r 5) (r 6) (r 7) (r 8) (r 9) (r 10) (r 11) (r 13) (r 14) (clM (r 13) (r 14) t (nI i) bk).1) (LTm (r 5) (r 6) t cl) (HTm (r 5) (r 6) t cl) (rsT (DBm rw cl t bk (r 3) (r 5) (r 11) (r 13) (r 14) (clM (r 13) (r 14) t (nI i) bk).1) (NTm (r 6) t)) w → w i k ≤ V2 i k)) := hse
    have hvb : V2 i k ≤ 1073741824 := hvb
    have hw4r : r3 = nI (V2 i k) := hw4r
    exact wr_iret hx hb hr hlocks hS hP ⟨r1, x5, x6, x7, x8, x9, x10, x11, x12, x13, rfl, Or.inr ⟨hp0, t, i, k, ht, by omega, by omega, rfl, rfl, rfl, Or.inl ⟨kfS_i hkk, rw, cl, bk, V2, hrw, hcl, hbk, h2, h3, h12, hw4r, ha2, hse⟩⟩⟩ dX7_greatest_30
  · refine lv_iconst (v := -1) hx hb dX7_greatest_18 (by decide) ?_
    refine lv_goto (tgt := 30) hx hb dX7_greatest_19 (by decide) ?_
    exact wr_iret hx hb hr hlocks hS hP ⟨r1, (f 20), (f 21), (r 15), (r 16), (r 17), (r 18), (r 19), (r 22), (r 23), rfl, atM_n hr1 c2 rfl (fun t i k h => Or.inr ⟨fun z => h (kfS_g z.1.1 z.1.2 z.2), rfl⟩)⟩ dX7_greatest_30
set_option maxHeartbeats 4000000 in
set_option maxRecDepth 100000 in
theorem n_kept (l : Launch) (G : GG) (y : Nat) (b : Nat → Nat) (f : Nat → Int32) (r : Nat → Nat → Int32) (tb : Int32) (row : Int32) (col : Int32) (hM2 : nOK 6 12 (r 2)) (hM3 : nOK 6 12 (r 3)) (hM12 : nOK 6 12 (r 12)) (hG : nOK 864 6 (r 7)) : WrI l yX7_kept cX7_kept 4 (some .int) ({ frames := 3, cells := 0, slots := 0, locals := 72 }) G (mM G y b f r) [.ref y, .int tb, .int row, .int col] (fun q w => ∃ (n_f_0 : Int32), w = mM G y b (upd f 0 n_f_0) r ∧ atM (r 1) (r 2) (r 3) (r 11) tb row col (fun t i k => sv ((¬ (r 5) (144 * t + 12 * i + k) = 0 ∧ ¬ (r 5) (144 * t + 12 * i + k) = 5) ∧ sndN ((r 3) t) (r 11) (r 5) t i) (sv (kpM (r 4) (r 5) (r 6) (r 7) (r 8) (r 9) (r 10) t (144 * t + 12 * i + k)) (q = 1) (q = 0)) (q = -1)) (q = -1)) := by
  refine wr_entryI (by decide +kernel) (Nat.le_of_ble_eq_true rfl) ?_
  intro p e s m below meth c A C0 hP hK hD hA ls hl
  have hS : va_S A s.heap s.heap [] := va_S.rf
  obtain ⟨hx, hb, hml, hown, hts, hr, hlocks, hin⟩ := C0
  have hown : s.vm.findClass RX7 = some m.cls := hown
  have hDD : ∀ f' r', va_D A (mM G y b f' r') := fun f' r' => D_same hD rfl
  have hl : lv_has ls 4 [(0, .ref y), (1, .int tb), (2, .int row), (3, .int col)] := hl
  refine lv_aload_n hx hb dX7_kept_0 rfl (lv_at hl 0 rfl) ?_
  refine lv_aload_n hx hb dX7_kept_1 rfl (lv_at hl 0 rfl) ?_
  refine lv_iload_n hx hb dX7_kept_2 rfl (lv_at hl 1 rfl) ?_
  refine lv_iload_n hx hb dX7_kept_3 rfl (lv_at hl 2 rfl) ?_
  refine lv_iload_n hx hb dX7_kept_4 rfl (lv_at hl 3 rfl) ?_
  refine rdV (rest := [.ref y]) (q0 := 0) ⟨hx, hb, hml, hown, hts⟩ (m_X7_wrongSound l G y b f r tb row col  hM2 hM3 hM12) mi_yX7_wrongSound mv_yX7_wrongSound ml_X7_178 ⟨rfl, rfl, Nat.le_of_ble_eq_true rfl, Nat.le_of_ble_eq_true rfl⟩ hK (hP) rfl rfl rfl hl.1 rfl (Nat.le_of_ble_eq_true rfl) dX7_kept_5 ⟨Nat.zero_le _, Nat.zero_le _⟩ hS hA hP (fun r1 H locs hr1 hP hS => ?_)
  have hr1 : stM (r 1) (r 2) (r 3) (r 11) tb row col (fun t i k => kfS ((r 5) (144 * t + 12 * i + k)) (sndN ((r 3) t) (r 11) (r 5) t i)) r1 := hr1
  refine va_put (D := G.1) (ci := 7) (v := .int r1) (C := RX7) (T := TX7) (N := 43) hx hb hts inX7 tyX7 tyX7_ok nmX7 hown hK.1 hP (hDD _ _) hS 0 rfl rfl 0 (by decide) (hts _ mf_X7_116) (fun _ h9 => h9) rfl (tyX7_ok 0 (by decide)) (rfl) (rfl) (Nat.le_of_ble_eq_true rfl) dX7_kept_8 (fun H locs hP _ hS => ?_)
  have hP : PP G (mM G y b (upd f 0 r1) r) H := hP
  refine lv_aload_n hx hb dX7_kept_11 rfl (lv_at hl 0 rfl) ?_
  refine va_get (D := G.1) (ci := 7) (v := .int r1) (C := RX7) (T := TX7) (N := 43) hx hb hts inX7 hown hK.1 hP 0 rfl rfl 0 (by decide) (hts _ mf_X7_116) (fun _ h9 => h9) rfl dX7_kept_12 ?_
  refine lv_if_le (tgt := 22) hx hb dX7_kept_15 (by decide) (fun c2 => ?_) (fun c2 => ?_)
  · have hp0 := (stM_0 hM2 hM3 (fun _ _ _ => kfS_p _ _) hr1 c2).1
    obtain ⟨t, i, k, rw, cl, ht, hi, hk, hrw, hcl, rfl, rfl, rfl, h2, h3⟩ := wS_ok (stM_w hM2 hM3 (fun _ _ _ => kfS_p _ _) hr1) (npos_of_le c2)
    obtain ⟨bk, hbk, h12⟩ := hM12 t ht
    have hkk := stM_k hM2 hM3 (fun _ _ _ => kfS_p _ _) hr1 c2 ht (show i < 12 by omega) (show k < 12 by omega) rfl rfl rfl
    refine lv_aload_n hx hb dX7_kept_22 rfl (lv_at hl 0 rfl) ?_
    refine lv_iload_n hx hb dX7_kept_23 rfl (lv_at hl 1 rfl) ?_
    refine lv_iload_n hx hb dX7_kept_24 rfl (lv_at hl 1 rfl) ?_
    refine lv_iload_n hx hb dX7_kept_25 rfl (lv_at hl 2 rfl) ?_
    refine lv_iload_n hx hb dX7_kept_26 rfl (lv_at hl 3 rfl) ?_
    refine rdS (rest := [.int (nI t), .ref y]) ⟨hx, hb, hml, hown, hts⟩ (m_X7_at l G y b (upd f 0 r1) r t i k  ) mi_yX7_at mst_yX7_at ml_X7_147 ⟨rfl, rfl, Nat.le_of_ble_eq_true rfl, Nat.le_of_ble_eq_true rfl⟩ hK (hP) rfl hl.1 rfl (Nat.le_of_ble_eq_true rfl) dX7_kept_27 ⟨Nat.zero_le _, Nat.zero_le _⟩ hS hA hP (fun r3 H locs hr3 hP hS => ?_)
    obtain rfl := hr3
    refine rdV (rest := []) (q0 := 0) ⟨hx, hb, hml, hown, hts⟩ (n_isKept l G y b (upd f 0 r1) r t (144 * t + 12 * i + k)  (by omega) (by omega) hG) mi_yX7_isKept mv_yX7_isKept ml_X7_181 ⟨rfl, rfl, Nat.le_of_ble_eq_true rfl, Nat.le_of_ble_eq_true rfl⟩ hK (hP) rfl rfl rfl hl.1 rfl (Nat.le_of_ble_eq_true rfl) dX7_kept_30 ⟨Nat.zero_le _, Nat.zero_le _⟩ hS hA hP (fun r4 H locs hr4 hP hS => ?_)
    have hr4 : ((r4 = 1 ∧ (kpM (r 4) (r 5) (r 6) (r 7) (r 8) (r 9) (r 10) t (144 * t + 12 * i + k))) ∨ (r4 = 0 ∧ ¬ (kpM (r 4) (r 5) (r 6) (r 7) (r 8) (r 9) (r 10) t (144 * t + 12 * i + k)))) := hr4
    refine lv_if_eq (tgt := 40) hx hb dX7_kept_33 (by decide) (fun c5 => ?_) (fun c5 => ?_)
    · have b33 := bF hr4 c5
      refine lv_iconst (v := 0) hx hb dX7_kept_40 (by decide) ?_
      exact wr_iret hx hb hr hlocks hS hP ⟨r1, rfl, Or.inr ⟨hp0, t, i, k, ht, by omega, by omega, rfl, rfl, rfl, Or.inl ⟨kfS_i hkk, Or.inr ⟨b33, rfl⟩⟩⟩⟩ dX7_kept_41
    · have b33 := bT hr4 c5
      refine lv_iconst (v := 1) hx hb dX7_kept_36 (by decide) ?_
      refine lv_goto (tgt := 41) hx hb dX7_kept_37 (by decide) ?_
      exact wr_iret hx hb hr hlocks hS hP ⟨r1, rfl, Or.inr ⟨hp0, t, i, k, ht, by omega, by omega, rfl, rfl, rfl, Or.inl ⟨kfS_i hkk, Or.inl ⟨b33, rfl⟩⟩⟩⟩ dX7_kept_41
  · refine lv_iconst (v := -1) hx hb dX7_kept_18 (by decide) ?_
    refine lv_goto (tgt := 41) hx hb dX7_kept_19 (by decide) ?_
    exact wr_iret hx hb hr hlocks hS hP ⟨r1, rfl, atM_n hr1 c2 rfl (fun t i k h => Or.inr ⟨fun z => h (kfS_g z.1.1 z.1.2 z.2), rfl⟩)⟩ dX7_kept_41
