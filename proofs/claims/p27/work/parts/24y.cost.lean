
def acR (a : Int32) (f : Nat → Int32) : Nat → Int32
  | 0 => a
  | k + 1 => acR a f k + f k
def acT (F : Nat → Nat → Int32) (cl : Nat) : Nat → Int32
  | 0 => 0
  | r + 1 => acR (acT F cl r) (F r) cl
theorem acR_z {a : Int32} {f : Nat → Int32} {k : Nat} (h : f k = 0) : acR a f (k + 1) = acR a f k := by
  show acR a f k + f k = _
  rw [h]; exact Int32.add_zero _
theorem acR_p {a v : Int32} {f : Nat → Int32} {k : Nat} (h : f k = v) : acR a f (k + 1) = acR a f k + v := by
  show acR a f k + f k = _
  rw [h]
theorem acR_0 {a : Int32} {f : Nat → Int32} (h : ∀ k, f k = 0) : ∀ n, acR a f n = a
  | 0 => rfl
  | n + 1 => (acR_z (h n)).trans (acR_0 h n)
/-- what a cell adds to the cost: of the class, of the reference -/
noncomputable def cxP (cl : Nat) (pl kd nu td ps ru : Nat → Int32) (i k : Nat) : Int32 := if pB (sndP cl pl kd i ∧ ¬ td (i * 12 + k) &&& 2 = 0 ∧ rsF kd nu td ps ru (i * 12 + k) = 0) = true then coR (ru 5) (nu (i * 12 + k)) else 0
noncomputable def cmP (t : Nat) (r3 r4 r5 r6 r7 r8 r9 r10 r11 : Nat → Int32) (i k : Nat) : Int32 := if pB (sndN (r3 t) r11 r5 t i ∧ kpM r4 r5 r6 r7 r8 r9 r10 t (144 * t + 12 * i + k) ∧ whR r4 r5 r6 r7 r8 r9 t (144 * t + 12 * i + k) = 0) = true then coF r4 r6 t (144 * t + 12 * i + k) else 0
theorem if_pB0 {P : Prop} {v : Int32} (h : ¬ P) : (if pB P = true then v else 0) = 0 := if_neg (by rw [pB_f h]; decide)
theorem if_pB1 {P : Prop} {v : Int32} (h : P) : (if pB P = true then v else 0) = v := if_pos (pB_t h)
def coX (o : Prop) (q f1 f2 : Int32) (pl kd nu td ps ru : Nat → Int32) : Prop := (¬ o ∧ q = -1) ∨ (o ∧ ∃ rw cl, rw ≤ 12 ∧ cl ≤ 12 ∧ f1 = nI rw ∧ f2 = nI cl ∧ q = acT (cxP cl pl kd nu td ps ru) cl rw)
def coM (tb q : Int32) (r1 r2 r3 r4 r5 r6 r7 r8 r9 r10 r11 : Nat → Int32) : Prop := (¬ opn r1 tb ∧ q = -1) ∨ ∃ t rw cl, t < 6 ∧ tb = nI t ∧ ¬ r1 t = 0 ∧ rw ≤ 12 ∧ cl ≤ 12 ∧ r2 t = nI rw ∧ r3 t = nI cl ∧ q = acT (cmP t r3 r4 r5 r6 r7 r8 r9 r10 r11) cl rw
set_option maxHeartbeats 4000000 in
set_option maxRecDepth 100000 in
theorem e_X4_priceOfKept (l : Launch) (G : GG) (a : Nat → Nat) (f : Nat → Int32) (r : Nat → Nat → Int32) (rw : Nat) (cl : Nat) (hrw : rw ≤ 12) (hcl : cl ≤ 12) (h1 : (f 1) = nI rw) (h2 : (f 2) = nI cl) : RdI l yX4_priceOfKept cX4_priceOfKept 6 (some .int) ({ frames := 2, cells := 0, slots := 0, locals := 48 }) G (tW G a f r) [.ref (a 0)] (fun q => q = acT (cxP cl (r 4) (r 5) (r 6) (r 7) (r 8) (r 9)) cl rw) := by
  refine rd_entry (by decide +kernel) (Nat.le_of_ble_eq_true rfl) ?_
  intro p e s m below meth c C0 hP hK ls hl
  have hS : va_S (fun q => s.heap.size ≤ q) s.heap s.heap [] := va_S.rf
  have hA : ∀ q, s.heap.size ≤ q → (fun q => s.heap.size ≤ q) q := fun _ h => h
  obtain ⟨hx, hb, hml, hown, hts, hr, hlocks, hin⟩ := C0
  have hown : s.vm.findClass RX4 = some m.cls := hown
  have hl : lv_has ls 6 [(0, .ref (a 0))] := hl
  refine lv_iconst (v := 0) hx hb dX4_priceOfKept_0 (by decide) ?_
  refine lv_istore_n (lv' := [(1, .int 0), (0, .ref (a 0))]) hx hb dX4_priceOfKept_1 rfl hl (by decide) rfl (fun ls hl => ?_)
  refine lv_iconst (v := 0) hx hb dX4_priceOfKept_2 (by decide) ?_
  refine lv_istore_n (lv' := [(2, .int 0), (1, .int 0), (0, .ref (a 0))]) hx hb dX4_priceOfKept_3 rfl hl (by decide) rfl (fun ls hl => ?_)
  have loop4 : ∀ (k1 i : Nat) (z2 : Int32), i ≤ rw → rw < i + k1 → (z2 = acT (cxP cl (r 4) (r 5) (r 6) (r 7) (r 8) (r 9)) cl i) → ∀ (H : Heap) (locs : List Loc) (ls : Array Slot), PP G (tW G a f r) H → va_S (fun q => s.heap.size ≤ q) s.heap H locs → lv_has ls 6 [(2, .int (nI i)), (1, .int z2), (0, .ref (a 0))] → W p l e ({ frames := 2, cells := 0, slots := 0, locals := 48 }) s m ([.ref (a 0)] : List Value).toArray below meth c H locs 0 0 (MQ below (QrI (fun q => q = acT (cxP cl (r 4) (r 5) (r 6) (r 7) (r 8) (r 9)) cl rw) (fun q => s.heap.size ≤ q)) ([.ref (a 0)] : List Value).toArray s 0 0 (fun q => s.heap.size ≤ q)) (F0 m 4 ls []) := by
    intro k1
    induction k1 with
    | zero => intro i z2 h1 h2; exact absurd h1 (by omega)
    | succ k1 ih4k1 =>
      intro i z2 hi_i hk_i hc H locs ls hP hS hl
      refine lv_iload_n hx hb dX4_priceOfKept_4 rfl (lv_at hl 0 rfl) ?_
      refine lv_aload_n hx hb dX4_priceOfKept_5 rfl (lv_at hl 2 rfl) ?_
      refine va_get (D := G.1) (ci := 4) (v := .int (f 1)) (C := RX4) (T := TX4) (N := 12) hx hb hts inX4 hown hK.1 hP 0 rfl rfl 1 (by decide) (hts _ mf_X4_15) (fun _ h9 => h9) rfl dX4_priceOfKept_6 ?_
      rw [show (f 1) = nI (rw) from h1]
      refine lv_icmp_ge (tgt := 82) hx hb dX4_priceOfKept_9 (by decide) (fun c3 => ?_) (fun c3 => ?_)
      · have b9 := qge_t (a := i) (b := (rw)) (by omega) (by omega) c3
        refine lv_iload_n hx hb dX4_priceOfKept_82 rfl (lv_at hl 1 rfl) ?_
        exact rd_iret hx hb hr hlocks hS ((by rw [hc, show i = rw by omega])) dX4_priceOfKept_83
      · have b9 := qge_f (a := i) (b := (rw)) (by omega) (by omega) c3
        refine lv_aload_n hx hb dX4_priceOfKept_12 rfl (lv_at hl 2 rfl) ?_
        refine lv_iload_n hx hb dX4_priceOfKept_13 rfl (lv_at hl 0 rfl) ?_
        refine rdV (rest := []) (q0 := 0) ⟨hx, hb, hml, hown, hts⟩ (c_X4_isSound l G a f r i cl (by omega) hcl h2) mi_yX4_isSound mv_yX4_isSound ml_X4_80 ⟨rfl, rfl, Nat.le_of_ble_eq_true rfl, Nat.le_of_ble_eq_true rfl⟩ hK (hP) rfl rfl rfl hl.1 rfl (Nat.le_of_ble_eq_true rfl) dX4_priceOfKept_14 ⟨Nat.zero_le _, Nat.zero_le _⟩ hS hA hP (fun r4 H locs hr4 hP hS => ?_)
        refine lv_istore_n (lv' := [(3, .int r4), (2, .int (nI i)), (1, .int z2), (0, .ref (a 0))]) hx hb dX4_priceOfKept_17 rfl hl (by decide) rfl (fun ls hl => ?_)
        refine lv_iconst (v := 0) hx hb dX4_priceOfKept_18 (by decide) ?_
        refine lv_istore (lv' := [(4, .int 0), (3, .int r4), (2, .int (nI i)), (1, .int z2), (0, .ref (a 0))]) hx hb dX4_priceOfKept_19 hl (by decide) rfl (fun ls hl => ?_)
        have loop21 : ∀ (k5 k : Nat) (z6 : Int32), k ≤ cl → cl < k + k5 → (z6 = acR (acT (cxP cl (r 4) (r 5) (r 6) (r 7) (r 8) (r 9)) cl i) ((cxP cl (r 4) (r 5) (r 6) (r 7) (r 8) (r 9)) i) k) → ∀ (H : Heap) (locs : List Loc) (ls : Array Slot), PP G (tW G a f r) H → va_S (fun q => s.heap.size ≤ q) s.heap H locs → lv_has ls 6 [(4, .int (nI k)), (3, .int r4), (2, .int (nI i)), (1, .int z6), (0, .ref (a 0))] → W p l e ({ frames := 2, cells := 0, slots := 0, locals := 48 }) s m ([.ref (a 0)] : List Value).toArray below meth c H locs 0 0 (MQ below (QrI (fun q => q = acT (cxP cl (r 4) (r 5) (r 6) (r 7) (r 8) (r 9)) cl rw) (fun q => s.heap.size ≤ q)) ([.ref (a 0)] : List Value).toArray s 0 0 (fun q => s.heap.size ≤ q)) (F0 m 21 ls []) := by
          intro k5
          induction k5 with
          | zero => intro k z6 h1 h2; exact absurd h1 (by omega)
          | succ k5 ih21k5 =>
            intro k z6 hi_k hk_k hc H locs ls hP hS hl
            refine lv_iload hx hb dX4_priceOfKept_21 (lv_at hl 0 rfl) ?_
            refine lv_aload_n hx hb dX4_priceOfKept_23 rfl (lv_at hl 4 rfl) ?_
            refine va_get (D := G.1) (ci := 4) (v := .int (f 2)) (C := RX4) (T := TX4) (N := 12) hx hb hts inX4 hown hK.1 hP 0 rfl rfl 2 (by decide) (hts _ mf_X4_19) (fun _ h9 => h9) rfl dX4_priceOfKept_24 ?_
            rw [show (f 2) = nI (cl) from h2]
            refine lv_icmp_ge (tgt := 76) hx hb dX4_priceOfKept_27 (by decide) (fun c7 => ?_) (fun c7 => ?_)
            · have b27 := qge_t (a := k) (b := (cl)) (by omega) (by omega) c7
              obtain ⟨v8, ev8⟩ : ∃ y9 : Int32, y9 = (nI i) + Int32.ofInt (1) := ⟨_, rfl⟩
              refine lv_iinc (v := v8) (lv' := [(2, .int v8), (4, .int (nI k)), (3, .int r4), (1, .int z6), (0, .ref (a 0))]) hx hb dX4_priceOfKept_76 hl (k := 2) rfl ev8.symm (by decide) rfl (fun ls hl => ?_)
              obtain rfl : v8 = nI (i + 1) := nI_plus (i := i) (j := 1) ev8 rfl (by decide)
              refine lv_goto (tgt := 4) hx hb dX4_priceOfKept_79 (by decide) ?_
              exact ih4k1 (i + 1) z6 (by omega) (by omega) (hc.trans (by rw [show k = cl by omega]; rfl)) _ _ _ hP hS (lv_sub hl [0, 3, 4] rfl)
            · have b27 := qge_f (a := k) (b := (cl)) (by omega) (by omega) c7
              refine lv_iload_n hx hb dX4_priceOfKept_30 rfl (lv_at hl 1 rfl) ?_
              refine lv_if_eq (tgt := 76) hx hb dX4_priceOfKept_31 (by decide) (fun c9 => ?_) (fun c9 => ?_)
              · have b31 := bF hr4 c9
                obtain ⟨v10, ev10⟩ : ∃ y9 : Int32, y9 = (nI i) + Int32.ofInt (1) := ⟨_, rfl⟩
                refine lv_iinc (v := v10) (lv' := [(2, .int v10), (4, .int (nI k)), (3, .int r4), (1, .int z6), (0, .ref (a 0))]) hx hb dX4_priceOfKept_76 hl (k := 2) rfl ev10.symm (by decide) rfl (fun ls hl => ?_)
                obtain rfl : v10 = nI (i + 1) := nI_plus (i := i) (j := 1) ev10 rfl (by decide)
                refine lv_goto (tgt := 4) hx hb dX4_priceOfKept_79 (by decide) ?_
                exact ih4k1 (i + 1) z6 (by omega) (by omega) (hc.trans ((acR_0 (fun k9 => if_pB0 (fun z => b31 z.1)) _).trans (acR_0 (f := (cxP cl (r 4) (r 5) (r 6) (r 7) (r 8) (r 9)) i) (fun k9 => if_pB0 (fun z => b31 z.1)) cl).symm)) _ _ _ hP hS (lv_sub hl [0, 3, 4] rfl)
              · have b31 := bT hr4 c9
                refine lv_iload_n hx hb dX4_priceOfKept_34 rfl (lv_at hl 2 rfl) ?_
                refine lv_iload hx hb dX4_priceOfKept_35 (lv_at hl 0 rfl) ?_
                refine rdSN (rest := []) ⟨hx, hb, hml, hown, hts⟩ (c_X6_spotOf l G ((nI i)) ((nI k))) mi_yX6_spotOf mst_yX6_spotOf (by decide +kernel) ⟨rfl, rfl, Nat.le_of_ble_eq_true rfl, Nat.le_of_ble_eq_true rfl⟩ hK (fun k q h => by simp at h) rfl hl.1 rfl (Nat.le_of_ble_eq_true rfl) dX4_priceOfKept_37 ⟨Nat.zero_le _, Nat.zero_le _⟩ hS hA hP (fun r11 H locs hr11 hP hS => ?_)
                obtain rfl : r11 = nI (i * 12 + k) := spot_eq hr11
                refine lv_istore (lv' := [(5, .int (nI (i * 12 + k))), (4, .int (nI k)), (3, .int r4), (2, .int (nI i)), (1, .int z6), (0, .ref (a 0))]) hx hb dX4_priceOfKept_40 hl (by decide) rfl (fun ls hl => ?_)
                refine lv_aload_n hx hb dX4_priceOfKept_42 rfl (lv_at hl 5 rfl) ?_
                refine lv_iload hx hb dX4_priceOfKept_43 (lv_at hl 0 rfl) ?_
                refine lv_iconst (v := 2) hx hb dX4_priceOfKept_45 (by decide) ?_
                refine rdV (rest := []) (q0 := 0) ⟨hx, hb, hml, hown, hts⟩ (c_X4_wasTold l G a f r (i * 12 + k) 2 (by omega)) mi_yX4_wasTold mv_yX4_wasTold ml_X4_84 ⟨rfl, rfl, Nat.le_of_ble_eq_true rfl, Nat.le_of_ble_eq_true rfl⟩ hK (hP) rfl rfl rfl hl.1 rfl (Nat.le_of_ble_eq_true rfl) dX4_priceOfKept_46 ⟨Nat.zero_le _, Nat.zero_le _⟩ hS hA hP (fun r12 H locs hr12 hP hS => ?_)
                refine lv_if_eq (tgt := 70) hx hb dX4_priceOfKept_49 (by decide) (fun c13 => ?_) (fun c13 => ?_)
                · have hx9 : (r 7) (i * 12 + k) &&& 2 = 0 := hr12.elim (fun z => z.2) (fun z => absurd (z.1.symm.trans c13) (by decide))
                  obtain ⟨v14, ev14⟩ : ∃ y9 : Int32, y9 = (nI k) + Int32.ofInt (1) := ⟨_, rfl⟩
                  refine lv_iinc (v := v14) (lv' := [(4, .int v14), (5, .int (nI (i * 12 + k))), (3, .int r4), (2, .int (nI i)), (1, .int z6), (0, .ref (a 0))]) hx hb dX4_priceOfKept_70 hl (k := 1) rfl ev14.symm (by decide) rfl (fun ls hl => ?_)
                  obtain rfl : v14 = nI (k + 1) := nI_plus (i := k) (j := 1) ev14 rfl (by decide)
                  refine lv_goto (tgt := 21) hx hb dX4_priceOfKept_73 (by decide) ?_
                  exact ih21k5 (k + 1) z6 (by omega) (by omega) (hc.trans (acR_z (if_pB0 (fun z => z.2.1 hx9))).symm) _ _ _ hP hS (lv_sub hl [0, 2, 3, 4, 5] rfl)
                · have hx9 : ¬ (r 7) (i * 12 + k) &&& 2 = 0 := hr12.elim (fun z => absurd z.1 c13) (fun z => z.2)
                  refine lv_aload_n hx hb dX4_priceOfKept_52 rfl (lv_at hl 5 rfl) ?_
                  refine lv_iload hx hb dX4_priceOfKept_53 (lv_at hl 0 rfl) ?_
                  refine rdV (rest := []) (q0 := 0) ⟨hx, hb, hml, hown, hts⟩ (c_X4_reasons l G a f r (i * 12 + k) (by omega)) mi_yX4_reasons mv_yX4_reasons ml_X4_91 ⟨rfl, rfl, Nat.le_of_ble_eq_true rfl, Nat.le_of_ble_eq_true rfl⟩ hK (hP) rfl rfl rfl hl.1 rfl (Nat.le_of_ble_eq_true rfl) dX4_priceOfKept_55 ⟨Nat.zero_le _, Nat.zero_le _⟩ hS hA hP (fun r15 H locs hr15 hP hS => ?_)
                  obtain rfl := hr15
                  refine lv_if_ne (tgt := 70) hx hb dX4_priceOfKept_58 (by decide) (fun c16 => ?_) (fun c16 => ?_)
                  · obtain ⟨v17, ev17⟩ : ∃ y9 : Int32, y9 = (nI k) + Int32.ofInt (1) := ⟨_, rfl⟩
                    refine lv_iinc (v := v17) (lv' := [(4, .int v17), (5, .int (nI (i * 12 + k))), (3, .int r4), (2, .int (nI i)), (1, .int z6), (0, .ref (a 0))]) hx hb dX4_priceOfKept_70 hl (k := 1) rfl ev17.symm (by decide) rfl (fun ls hl => ?_)
                    obtain rfl : v17 = nI (k + 1) := nI_plus (i := k) (j := 1) ev17 rfl (by decide)
                    refine lv_goto (tgt := 21) hx hb dX4_priceOfKept_73 (by decide) ?_
                    exact ih21k5 (k + 1) z6 (by omega) (by omega) (hc.trans (acR_z (if_pB0 (fun z => c16 z.2.2))).symm) _ _ _ hP hS (lv_sub hl [0, 2, 3, 4, 5] rfl)
                  · refine lv_iload_n hx hb dX4_priceOfKept_61 rfl (lv_at hl 4 rfl) ?_
                    refine lv_aload_n hx hb dX4_priceOfKept_62 rfl (lv_at hl 5 rfl) ?_
                    refine lv_iload hx hb dX4_priceOfKept_63 (lv_at hl 0 rfl) ?_
                    refine rdV (rest := [.int z6]) (q0 := 0) ⟨hx, hb, hml, hown, hts⟩ (c_X4_priceOf l G a f r (i * 12 + k) (by omega)) mi_yX4_priceOf mv_yX4_priceOf ml_X4_94 ⟨rfl, rfl, Nat.le_of_ble_eq_true rfl, Nat.le_of_ble_eq_true rfl⟩ hK (hP) rfl rfl rfl hl.1 rfl (Nat.le_of_ble_eq_true rfl) dX4_priceOfKept_65 ⟨Nat.zero_le _, Nat.zero_le _⟩ hS hA hP (fun r18 H locs hr18 hP hS => ?_)
                    obtain rfl := hr18
                    refine lv_iadd hx hb dX4_priceOfKept_68 ?_
                    refine lv_topi (fun v19 ev19 => ?_)
                    refine lv_istore_n (lv' := [(1, .int v19), (5, .int (nI (i * 12 + k))), (4, .int (nI k)), (3, .int r4), (2, .int (nI i)), (0, .ref (a 0))]) hx hb dX4_priceOfKept_69 rfl hl (by decide) rfl (fun ls hl => ?_)
                    obtain ⟨v20, ev20⟩ : ∃ y9 : Int32, y9 = (nI k) + Int32.ofInt (1) := ⟨_, rfl⟩
                    refine lv_iinc (v := v20) (lv' := [(4, .int v20), (1, .int v19), (5, .int (nI (i * 12 + k))), (3, .int r4), (2, .int (nI i)), (0, .ref (a 0))]) hx hb dX4_priceOfKept_70 hl (k := 2) rfl ev20.symm (by decide) rfl (fun ls hl => ?_)
                    obtain rfl : v20 = nI (k + 1) := nI_plus (i := k) (j := 1) ev20 rfl (by decide)
                    refine lv_goto (tgt := 21) hx hb dX4_priceOfKept_73 (by decide) ?_
                    exact ih21k5 (k + 1) v19 (by omega) (by omega) (ev19.trans (by rw [hc]; exact (acR_p (if_pB1 ⟨b31, hx9, c16⟩)).symm)) _ _ _ hP hS (lv_sub hl [0, 3, 4, 1, 5] rfl)
        exact loop21 (cl + 1) 0 z2 (by omega) (by omega) (hc) _ _ _ hP hS (lv_sub hl [0, 1, 2, 3, 4] rfl)
  exact loop4 (rw + 1) 0 0 (by omega) (by omega) (rfl) _ _ _ hP hS (lv_sub hl [0, 1, 2] rfl)
set_option maxHeartbeats 4000000 in
set_option maxRecDepth 100000 in
theorem y_cost (l : Launch) (G : GG) (x : Nat) (xa ta a b ga ua la lb lc : Nat → Nat) (tg gg : Nat → Option Nat) (xf tf f qf gf uf lf mf nf : Nat → Int32) (tr r q gr ur lr mr nr : Nat → Nat → Int32) (tb : Int32) (j : Nat) (hj : j < 6) (hjt : tbJ tb j) (htg : tg j = some (ta 0)) (hT1 : nL 12 (tf 1)) (hT2 : nL 12 (tf 2)) (hT3 : nL 12 (tf 3)) (hT4 : nOK 12 12 (tr 4)) : WrI l yX6_cost cX6_cost 2 (some .int) ({ frames := 3, cells := 0, slots := 0, locals := 73 }) G (xM G x xa ta a b ga ua la lb lc tg gg xf tf f qf gf uf lf mf nf tr r q gr ur lr mr nr) [.ref x, .int tb] (fun qz w => ∃ (n_xf_0 : Int32), w = xM G x xa ta a b ga ua la lb lc tg gg (upd xf 0 n_xf_0) tf f qf gf uf lf mf nf tr r q gr ur lr mr nr ∧ coX (tbO tb j (tf 0)) qz (tf 1) (tf 2) (tr 4) (tr 5) (tr 6) (tr 7) (tr 8) (tr 9)) := by
  refine wr_entryI (by decide +kernel) (Nat.le_of_ble_eq_true rfl) ?_
  intro p e s m below meth c A C0 hP hK hD hA ls hl
  have hS : va_S A s.heap s.heap [] := va_S.rf
  obtain ⟨hx, hb, hml, hown, hts, hr, hlocks, hin⟩ := C0
  have hown : s.vm.findClass RX6 = some m.cls := hown
  have hDD : ∀ xf' tf' f' qf' gf' uf' lf' mf' nf' tr' r' q' gr' ur' lr' mr' nr', va_D A (xM G x xa ta a b ga ua la lb lc tg gg xf' tf' f' qf' gf' uf' lf' mf' nf' tr' r' q' gr' ur' lr' mr' nr') := fun xf' tf' f' qf' gf' uf' lf' mf' nf' tr' r' q' gr' ur' lr' mr' nr' => D_same hD rfl
  have hl : lv_has ls 2 [(0, .ref x), (1, .int tb)] := hl
  refine lv_aload_n hx hb dX6_cost_0 rfl (lv_at hl 0 rfl) ?_
  refine lv_aload_n hx hb dX6_cost_1 rfl (lv_at hl 0 rfl) ?_
  refine lv_iload_n hx hb dX6_cost_2 rfl (lv_at hl 1 rfl) ?_
  refine rdV (rest := [.ref x]) (q0 := 0) ⟨hx, hb, hml, hown, hts⟩ (x_tableStatus l G x xa ta a b ga ua la lb lc tg gg xf tf f qf gf uf lf mf nf tr r q gr ur lr mr nr tb j (by omega) hjt htg) mi_yX6_tableStatus mv_yX6_tableStatus ml_X6_73 ⟨rfl, rfl, Nat.le_of_ble_eq_true rfl, Nat.le_of_ble_eq_true rfl⟩ hK (hP) rfl rfl rfl hl.1 rfl (Nat.le_of_ble_eq_true rfl) dX6_cost_3 ⟨Nat.zero_le _, Nat.zero_le _⟩ hS hA hP (fun r1 H locs hr1 hP hS => ?_)
  have hr1 : ((r1 = 0 ∧ tbO tb j (tf 0)) ∨ (r1 = 1 ∧ ¬ tbO tb j (tf 0))) := hr1
  refine wrVIa (rest := []) (q0 := 0) ⟨hx, hb, hml, hown, hts⟩ (x_settled l G x xa ta a b ga ua la lb lc tg gg xf tf f qf gf uf lf mf nf tr r q gr ur lr mr nr r1  ) mi_yX6_settled mv_yX6_settled ml_X6_65 ⟨rfl, rfl, Nat.le_of_ble_eq_true rfl, Nat.le_of_ble_eq_true rfl⟩ hK hP (hDD _ _ _ _ _ _ _ _ _ _ _ _ _ _ _ _ _) rfl rfl rfl hl.1 rfl (Nat.le_of_ble_eq_true rfl) dX6_cost_6 ⟨Nat.zero_le _, Nat.zero_le _⟩ hS hA (fun r2 w3 H locs hw3 hP hS => ?_)
  obtain ⟨x4, rfl, hw3r⟩ := hw3
  have hP : PP G (xM G x xa ta a b ga ua la lb lc tg gg (upd xf 0 x4) tf f qf gf uf lf mf nf tr r q gr ur lr mr nr) H := hP
  have hw3r : ((r2 = 1 ∧ ((r1 : Int32) = 0)) ∨ (r2 = 0 ∧ ¬ ((r1 : Int32) = 0))) := hw3r
  refine lv_if_ne (tgt := 14) hx hb dX6_cost_9 (by decide) (fun c5 => ?_) (fun c5 => ?_)
  · have b9 := bT hw3r c5
    obtain ⟨ej, ho⟩ := st0 hr1 b9
    subst ej
    obtain ⟨rw, hrw, t1⟩ := hT1
    obtain ⟨cl, hcl, t2⟩ := hT2
    obtain ⟨bk, hbk, t3⟩ := hT3
    have hT1 : nL 12 (tf 1) := ⟨rw, hrw, t1⟩
    have hT2 : nL 12 (tf 2) := ⟨cl, hcl, t2⟩
    have hT3 : nL 12 (tf 3) := ⟨bk, hbk, t3⟩
    refine lv_aload_n hx hb dX6_cost_14 rfl (lv_at hl 0 rfl) ?_
    refine va_get (D := G.1) (ci := 6) (v := .ref (xa 1)) (C := RX6) (T := TX6) (N := 10) hx hb hts inX6 hown hK.1 hP 0 rfl rfl 1 (by decide) (hts _ mf_X6_15) (fun _ h9 => h9) rfl dX6_cost_15 ?_
    refine lv_iload_n hx hb dX6_cost_18 rfl (lv_at hl 1 rfl) ?_
    refine xaldT hx hb hK hP 1 (j) (b := (ta 0)) rfl (by omega) (by decide) rfl (htg) dX6_cost_19 ?_
    refine rdV (rest := []) (q0 := 0) ⟨hx, hb, hml, hown, hts⟩ (e_X4_priceOfKept l G ta tf tr rw cl hrw hcl t1 t2) mi_yX4_priceOfKept mv_yX4_priceOfKept ml_X6_232 ⟨rfl, rfl, Nat.le_of_ble_eq_true rfl, Nat.le_of_ble_eq_true rfl⟩ hK (blk_sub (ws' := tW G ta tf tr) (xBlk G x xa ta a b ga ua la lb lc tg gg (upd xf 0 x4) tf f qf gf uf lf mf nf tr r q gr ur lr mr nr) (i := 1) hP rfl (by decide)) rfl rfl rfl hl.1 rfl (Nat.le_of_ble_eq_true rfl) dX6_cost_20 ⟨Nat.zero_le _, Nat.zero_le _⟩ hS hA hP (fun r6 H locs hr6 hP hS => ?_)
    obtain rfl := hr6
    exact wr_iret hx hb hr hlocks hS hP ⟨x4, rfl, (Or.inr ⟨⟨rfl, ho⟩, rw, cl, hrw, hcl, t1, t2, rfl⟩)⟩ dX6_cost_23
  · have b9 := bF hw3r c5
    refine lv_iconst (v := -1) hx hb dX6_cost_12 (by decide) ?_
    exact wr_iret hx hb hr hlocks hS hP ⟨x4, rfl, (Or.inl ⟨st1 hr1 b9, rfl⟩)⟩ dX6_cost_13
set_option maxHeartbeats 4000000 in
set_option maxRecDepth 100000 in
theorem n_cost (l : Launch) (G : GG) (y : Nat) (b : Nat → Nat) (f : Nat → Int32) (r : Nat → Nat → Int32) (tb : Int32) (hM2 : nOK 6 12 (r 2)) (hM3 : nOK 6 12 (r 3)) (hM12 : nOK 6 12 (r 12)) (hG : nOK 864 6 (r 7)) : WrI l yX7_cost cX7_cost 6 (some .int) ({ frames := 3, cells := 0, slots := 0, locals := 72 }) G (mM G y b f r) [.ref y, .int tb] (fun q w => ∃ (n_f_0 : Int32), w = mM G y b (upd f 0 n_f_0) r ∧ coM tb q (r 1) (r 2) (r 3) (r 4) (r 5) (r 6) (r 7) (r 8) (r 9) (r 10) (r 11)) := by
  refine wr_entryI (by decide +kernel) (Nat.le_of_ble_eq_true rfl) ?_
  intro p e s m below meth c A C0 hP hK hD hA ls hl
  have hS : va_S A s.heap s.heap [] := va_S.rf
  obtain ⟨hx, hb, hml, hown, hts, hr, hlocks, hin⟩ := C0
  have hown : s.vm.findClass RX7 = some m.cls := hown
  have hDD : ∀ f' r', va_D A (mM G y b f' r') := fun f' r' => D_same hD rfl
  have hl : lv_has ls 6 [(0, .ref y), (1, .int tb)] := hl
  refine lv_aload_n hx hb dX7_cost_0 rfl (lv_at hl 0 rfl) ?_
  refine lv_aload_n hx hb dX7_cost_1 rfl (lv_at hl 0 rfl) ?_
  refine lv_iload_n hx hb dX7_cost_2 rfl (lv_at hl 1 rfl) ?_
  refine rdV (rest := [.ref y]) (q0 := 0) ⟨hx, hb, hml, hown, hts⟩ (m_X7_isTable l G y b f r tb  ) mi_yX7_isTable mv_yX7_isTable ml_X7_120 ⟨rfl, rfl, Nat.le_of_ble_eq_true rfl, Nat.le_of_ble_eq_true rfl⟩ hK (hP) rfl rfl rfl hl.1 rfl (Nat.le_of_ble_eq_true rfl) dX7_cost_3 ⟨Nat.zero_le _, Nat.zero_le _⟩ hS hA hP (fun r1 H locs hr1 hP hS => ?_)
  have hr1 : ((r1 = 1 ∧ (opn (r 1) tb)) ∨ (r1 = 0 ∧ ¬ (opn (r 1) tb))) := hr1
  refine lv_if_eq (tgt := 13) hx hb dX7_cost_6 (by decide) (fun c2 => ?_) (fun c2 => ?_)
  · have b6 := bF hr1 c2
    refine lv_iconst (v := 1) hx hb dX7_cost_13 (by decide) ?_
    refine va_put (D := G.1) (ci := 7) (v := .int 1) (C := RX7) (T := TX7) (N := 43) hx hb hts inX7 tyX7 tyX7_ok nmX7 hown hK.1 hP (hDD _ _) hS 0 rfl rfl 0 (by decide) (hts _ mf_X7_116) (fun _ h9 => h9) rfl (tyX7_ok 0 (by decide)) (rfl) (rfl) (Nat.le_of_ble_eq_true rfl) dX7_cost_14 (fun H locs hP _ hS => ?_)
    have hP : PP G (mM G y b (upd f 0 1) r) H := hP
    refine lv_aload_n hx hb dX7_cost_17 rfl (lv_at hl 0 rfl) ?_
    refine va_get (D := G.1) (ci := 7) (v := .int 1) (C := RX7) (T := TX7) (N := 43) hx hb hts inX7 hown hK.1 hP 0 rfl rfl 0 (by decide) (hts _ mf_X7_116) (fun _ h9 => h9) rfl dX7_cost_18 ?_
    refine lv_if_le (tgt := 26) hx hb dX7_cost_21 (by decide) (fun c3 => absurd c3 (by decide)) (fun c3 => ?_)
    refine lv_iconst (v := -1) hx hb dX7_cost_24 (by decide) ?_
    exact wr_iret hx hb hr hlocks hS hP ⟨1, rfl, (Or.inl ⟨b6, rfl⟩)⟩ dX7_cost_25
  · have b6 := bT hr1 c2
    obtain ⟨t, ht, rfl, hop⟩ := b6
    obtain ⟨rw, hrw, h2⟩ := hM2 t ht
    obtain ⟨cl, hcl, h3⟩ := hM3 t ht
    obtain ⟨bk, hbk, h12⟩ := hM12 t ht
    refine lv_iconst (v := 0) hx hb dX7_cost_9 (by decide) ?_
    refine lv_goto (tgt := 14) hx hb dX7_cost_10 (by decide) ?_
    refine va_put (D := G.1) (ci := 7) (v := .int 0) (C := RX7) (T := TX7) (N := 43) hx hb hts inX7 tyX7 tyX7_ok nmX7 hown hK.1 hP (hDD _ _) hS 0 rfl rfl 0 (by decide) (hts _ mf_X7_116) (fun _ h9 => h9) rfl (tyX7_ok 0 (by decide)) (rfl) (rfl) (Nat.le_of_ble_eq_true rfl) dX7_cost_14 (fun H locs hP _ hS => ?_)
    have hP : PP G (mM G y b (upd f 0 0) r) H := hP
    refine lv_aload_n hx hb dX7_cost_17 rfl (lv_at hl 0 rfl) ?_
    refine va_get (D := G.1) (ci := 7) (v := .int 0) (C := RX7) (T := TX7) (N := 43) hx hb hts inX7 hown hK.1 hP 0 rfl rfl 0 (by decide) (hts _ mf_X7_116) (fun _ h9 => h9) rfl dX7_cost_18 ?_
    refine lv_if_le (tgt := 26) hx hb dX7_cost_21 (by decide) (fun c4 => ?_) (fun c4 => absurd (by decide) c4)
    refine lv_iconst (v := 0) hx hb dX7_cost_26 (by decide) ?_
    refine lv_istore_n (lv' := [(2, .int 0), (0, .ref y), (1, .int (nI t))]) hx hb dX7_cost_27 rfl hl (by decide) rfl (fun ls hl => ?_)
    refine lv_iconst (v := 0) hx hb dX7_cost_28 (by decide) ?_
    refine lv_istore_n (lv' := [(3, .int 0), (2, .int 0), (0, .ref y), (1, .int (nI t))]) hx hb dX7_cost_29 rfl hl (by decide) rfl (fun ls hl => ?_)
    have loop30 : ∀ (k5 i : Nat) (z6 : Int32), i ≤ rw → rw < i + k5 → (z6 = acT (cmP t (r 3) (r 4) (r 5) (r 6) (r 7) (r 8) (r 9) (r 10) (r 11)) cl i) → ∀ (H : Heap) (locs : List Loc) (ls : Array Slot), PP G (mM G y b (upd f 0 0) r) H → va_S A s.heap H locs → lv_has ls 6 [(3, .int (nI i)), (2, .int z6), (0, .ref y), (1, .int (nI t))] → W p l e ({ frames := 3, cells := 0, slots := 0, locals := 72 }) s m ([.ref y, .int (nI t)] : List Value).toArray below meth c H locs 0 0 (MQ below (QwI G (fun q w => ∃ (n_f_0 : Int32), w = mM G y b (upd f 0 n_f_0) r ∧ coM (nI t) q (r 1) (r 2) (r 3) (r 4) (r 5) (r 6) (r 7) (r 8) (r 9) (r 10) (r 11)) A) ([.ref y, .int (nI t)] : List Value).toArray s 0 0 A) (F0 m 30 ls []) := by
      intro k5
      induction k5 with
      | zero => intro i z6 h1 h2; exact absurd h1 (by omega)
      | succ k5 ih30k5 =>
        intro i z6 hi_i hk_i hc H locs ls hP hS hl
        refine lv_iload_n hx hb dX7_cost_30 rfl (lv_at hl 0 rfl) ?_
        refine lv_aload_n hx hb dX7_cost_31 rfl (lv_at hl 2 rfl) ?_
        refine va_get (D := G.1) (ci := 7) (v := .ref (b 2)) (C := RX7) (T := TX7) (N := 43) hx hb hts inX7 hown hK.1 hP 0 rfl rfl 2 (by decide) (hts _ mf_X7_13) (fun _ h9 => h9) rfl dX7_cost_32 ?_
        refine lv_iload_n hx hb dX7_cost_35 rfl (lv_at hl 3 rfl) ?_
        refine xiald (f := (r 2)) hx hb hK hP 2 (t) (rfl) (by omega) (by decide) rfl dX7_cost_36 ?_
        refine lv_topi (fun v7 ev7 => ?_)
        obtain rfl : v7 = nI (rw) := ev7.trans (h2)
        refine lv_icmp_ge (tgt := 114) hx hb dX7_cost_37 (by decide) (fun c8 => ?_) (fun c8 => ?_)
        · have b37 := qge_t (a := i) (b := (rw)) (by omega) (by omega) c8
          refine lv_iload_n hx hb dX7_cost_114 rfl (lv_at hl 1 rfl) ?_
          exact wr_iret hx hb hr hlocks hS hP ⟨0, rfl, (Or.inr ⟨t, rw, cl, ht, rfl, hop, hrw, hcl, h2, h3, by rw [hc, show i = rw by omega]⟩)⟩ dX7_cost_115
        · have b37 := qge_f (a := i) (b := (rw)) (by omega) (by omega) c8
          refine lv_iconst (v := 0) hx hb dX7_cost_40 (by decide) ?_
          refine lv_istore (lv' := [(4, .int 0), (3, .int (nI i)), (2, .int z6), (0, .ref y), (1, .int (nI t))]) hx hb dX7_cost_41 hl (by decide) rfl (fun ls hl => ?_)
          have loop43 : ∀ (k9 k : Nat) (z10 : Int32), k ≤ cl → cl < k + k9 → (z10 = acR (acT (cmP t (r 3) (r 4) (r 5) (r 6) (r 7) (r 8) (r 9) (r 10) (r 11)) cl i) ((cmP t (r 3) (r 4) (r 5) (r 6) (r 7) (r 8) (r 9) (r 10) (r 11)) i) k) → ∀ (H : Heap) (locs : List Loc) (ls : Array Slot), PP G (mM G y b (upd f 0 0) r) H → va_S A s.heap H locs → lv_has ls 6 [(4, .int (nI k)), (3, .int (nI i)), (2, .int z10), (0, .ref y), (1, .int (nI t))] → W p l e ({ frames := 3, cells := 0, slots := 0, locals := 72 }) s m ([.ref y, .int (nI t)] : List Value).toArray below meth c H locs 0 0 (MQ below (QwI G (fun q w => ∃ (n_f_0 : Int32), w = mM G y b (upd f 0 n_f_0) r ∧ coM (nI t) q (r 1) (r 2) (r 3) (r 4) (r 5) (r 6) (r 7) (r 8) (r 9) (r 10) (r 11)) A) ([.ref y, .int (nI t)] : List Value).toArray s 0 0 A) (F0 m 43 ls []) := by
            intro k9
            induction k9 with
            | zero => intro k z10 h1 h2; exact absurd h1 (by omega)
            | succ k9 ih43k9 =>
              intro k z10 hi_k hk_k hc H locs ls hP hS hl
              refine lv_iload hx hb dX7_cost_43 (lv_at hl 0 rfl) ?_
              refine lv_aload_n hx hb dX7_cost_45 rfl (lv_at hl 3 rfl) ?_
              refine va_get (D := G.1) (ci := 7) (v := .ref (b 3)) (C := RX7) (T := TX7) (N := 43) hx hb hts inX7 hown hK.1 hP 0 rfl rfl 3 (by decide) (hts _ mf_X7_17) (fun _ h9 => h9) rfl dX7_cost_46 ?_
              refine lv_iload_n hx hb dX7_cost_49 rfl (lv_at hl 4 rfl) ?_
              refine xiald (f := (r 3)) hx hb hK hP 3 (t) (rfl) (by omega) (by decide) rfl dX7_cost_50 ?_
              refine lv_topi (fun v11 ev11 => ?_)
              obtain rfl : v11 = nI (cl) := ev11.trans (h3)
              refine lv_icmp_ge (tgt := 108) hx hb dX7_cost_51 (by decide) (fun c12 => ?_) (fun c12 => ?_)
              · have b51 := qge_t (a := k) (b := (cl)) (by omega) (by omega) c12
                obtain ⟨v13, ev13⟩ : ∃ y9 : Int32, y9 = (nI i) + Int32.ofInt (1) := ⟨_, rfl⟩
                refine lv_iinc (v := v13) (lv' := [(3, .int v13), (4, .int (nI k)), (2, .int z10), (0, .ref y), (1, .int (nI t))]) hx hb dX7_cost_108 hl (k := 1) rfl ev13.symm (by decide) rfl (fun ls hl => ?_)
                obtain rfl : v13 = nI (i + 1) := nI_plus (i := i) (j := 1) ev13 rfl (by decide)
                refine lv_goto (tgt := 30) hx hb dX7_cost_111 (by decide) ?_
                exact ih30k5 (i + 1) z10 (by omega) (by omega) (hc.trans (by rw [show k = cl by omega]; rfl)) _ _ _ hP hS (lv_sub hl [0, 2, 3, 4] rfl)
              · have b51 := qge_f (a := k) (b := (cl)) (by omega) (by omega) c12
                refine lv_aload_n hx hb dX7_cost_54 rfl (lv_at hl 3 rfl) ?_
                refine lv_iload_n hx hb dX7_cost_55 rfl (lv_at hl 4 rfl) ?_
                refine lv_iload_n hx hb dX7_cost_56 rfl (lv_at hl 1 rfl) ?_
                refine rdV (rest := []) (q0 := 0) ⟨hx, hb, hml, hown, hts⟩ (m_X7_isSound l G y b (upd f 0 0) r t i rw cl bk (by omega) (by omega) (by omega) (by omega) h2 h3 h12 (by omega)) mi_yX7_isSound mv_yX7_isSound ml_X7_161 ⟨rfl, rfl, Nat.le_of_ble_eq_true rfl, Nat.le_of_ble_eq_true rfl⟩ hK (hP) rfl rfl rfl hl.1 rfl (Nat.le_of_ble_eq_true rfl) dX7_cost_57 ⟨Nat.zero_le _, Nat.zero_le _⟩ hS hA hP (fun r14 H locs hr14 hP hS => ?_)
                have hr14 : ((r14 = 1 ∧ (sndN ((r 3) t) (r 11) (r 5) t i)) ∨ (r14 = 0 ∧ ¬ (sndN ((r 3) t) (r 11) (r 5) t i))) := hr14
                refine lv_if_eq (tgt := 108) hx hb dX7_cost_60 (by decide) (fun c15 => ?_) (fun c15 => ?_)
                · have b60 := bF hr14 c15
                  obtain ⟨v16, ev16⟩ : ∃ y9 : Int32, y9 = (nI i) + Int32.ofInt (1) := ⟨_, rfl⟩
                  refine lv_iinc (v := v16) (lv' := [(3, .int v16), (4, .int (nI k)), (2, .int z10), (0, .ref y), (1, .int (nI t))]) hx hb dX7_cost_108 hl (k := 1) rfl ev16.symm (by decide) rfl (fun ls hl => ?_)
                  obtain rfl : v16 = nI (i + 1) := nI_plus (i := i) (j := 1) ev16 rfl (by decide)
                  refine lv_goto (tgt := 30) hx hb dX7_cost_111 (by decide) ?_
                  exact ih30k5 (i + 1) z10 (by omega) (by omega) (hc.trans ((acR_0 (fun k9 => if_pB0 (fun z => b60 z.1)) _).trans (acR_0 (f := (cmP t (r 3) (r 4) (r 5) (r 6) (r 7) (r 8) (r 9) (r 10) (r 11)) i) (fun k9 => if_pB0 (fun z => b60 z.1)) cl).symm)) _ _ _ hP hS (lv_sub hl [0, 2, 3, 4] rfl)
                · have b60 := bT hr14 c15
                  refine lv_iload_n hx hb dX7_cost_63 rfl (lv_at hl 4 rfl) ?_
                  refine lv_iload_n hx hb dX7_cost_64 rfl (lv_at hl 1 rfl) ?_
                  refine lv_iload hx hb dX7_cost_65 (lv_at hl 0 rfl) ?_
                  refine rdS (rest := []) ⟨hx, hb, hml, hown, hts⟩ (m_X7_at l G y b (upd f 0 0) r t i k  ) mi_yX7_at mst_yX7_at ml_X7_147 ⟨rfl, rfl, Nat.le_of_ble_eq_true rfl, Nat.le_of_ble_eq_true rfl⟩ hK (hP) rfl hl.1 rfl (Nat.le_of_ble_eq_true rfl) dX7_cost_67 ⟨Nat.zero_le _, Nat.zero_le _⟩ hS hA hP (fun r17 H locs hr17 hP hS => ?_)
                  obtain rfl := hr17
                  refine lv_istore (lv' := [(5, .int (nI (144 * t + 12 * i + k))), (4, .int (nI k)), (3, .int (nI i)), (2, .int z10), (0, .ref y), (1, .int (nI t))]) hx hb dX7_cost_70 hl (by decide) rfl (fun ls hl => ?_)
                  refine lv_aload_n hx hb dX7_cost_72 rfl (lv_at hl 4 rfl) ?_
                  refine lv_iload_n hx hb dX7_cost_73 rfl (lv_at hl 5 rfl) ?_
                  refine lv_iload hx hb dX7_cost_74 (lv_at hl 0 rfl) ?_
                  refine rdV (rest := []) (q0 := 0) ⟨hx, hb, hml, hown, hts⟩ (n_isKept l G y b (upd f 0 0) r t (144 * t + 12 * i + k)  (by omega) (by omega) hG) mi_yX7_isKept mv_yX7_isKept ml_X7_181 ⟨rfl, rfl, Nat.le_of_ble_eq_true rfl, Nat.le_of_ble_eq_true rfl⟩ hK (hP) rfl rfl rfl hl.1 rfl (Nat.le_of_ble_eq_true rfl) dX7_cost_76 ⟨Nat.zero_le _, Nat.zero_le _⟩ hS hA hP (fun r18 H locs hr18 hP hS => ?_)
                  have hr18 : ((r18 = 1 ∧ (kpM (r 4) (r 5) (r 6) (r 7) (r 8) (r 9) (r 10) t (144 * t + 12 * i + k))) ∨ (r18 = 0 ∧ ¬ (kpM (r 4) (r 5) (r 6) (r 7) (r 8) (r 9) (r 10) t (144 * t + 12 * i + k)))) := hr18
                  refine lv_if_eq (tgt := 102) hx hb dX7_cost_79 (by decide) (fun c19 => ?_) (fun c19 => ?_)
                  · have b79 := bF hr18 c19
                    obtain ⟨v20, ev20⟩ : ∃ y9 : Int32, y9 = (nI k) + Int32.ofInt (1) := ⟨_, rfl⟩
                    refine lv_iinc (v := v20) (lv' := [(4, .int v20), (5, .int (nI (144 * t + 12 * i + k))), (3, .int (nI i)), (2, .int z10), (0, .ref y), (1, .int (nI t))]) hx hb dX7_cost_102 hl (k := 1) rfl ev20.symm (by decide) rfl (fun ls hl => ?_)
                    obtain rfl : v20 = nI (k + 1) := nI_plus (i := k) (j := 1) ev20 rfl (by decide)
                    refine lv_goto (tgt := 43) hx hb dX7_cost_105 (by decide) ?_
                    exact ih43k9 (k + 1) z10 (by omega) (by omega) (hc.trans (acR_z (if_pB0 (fun z => b79 z.2.1))).symm) _ _ _ hP hS (lv_sub hl [0, 2, 3, 4, 5] rfl)
                  · have b79 := bT hr18 c19
                    refine lv_aload_n hx hb dX7_cost_82 rfl (lv_at hl 4 rfl) ?_
                    refine lv_iload_n hx hb dX7_cost_83 rfl (lv_at hl 5 rfl) ?_
                    refine lv_iload hx hb dX7_cost_84 (lv_at hl 0 rfl) ?_
                    refine rdV (rest := []) (q0 := 0) ⟨hx, hb, hml, hown, hts⟩ (m_X7_why l G y b (upd f 0 0) r t (144 * t + 12 * i + k)  (by omega) (by omega) hG) mi_yX7_why mv_yX7_why ml_X7_175 ⟨rfl, rfl, Nat.le_of_ble_eq_true rfl, Nat.le_of_ble_eq_true rfl⟩ hK (hP) rfl rfl rfl hl.1 rfl (Nat.le_of_ble_eq_true rfl) dX7_cost_86 ⟨Nat.zero_le _, Nat.zero_le _⟩ hS hA hP (fun r21 H locs hr21 hP hS => ?_)
                    obtain rfl := hr21
                    refine lv_if_ne (tgt := 102) hx hb dX7_cost_89 (by decide) (fun c22 => ?_) (fun c22 => ?_)
                    · obtain ⟨v23, ev23⟩ : ∃ y9 : Int32, y9 = (nI k) + Int32.ofInt (1) := ⟨_, rfl⟩
                      refine lv_iinc (v := v23) (lv' := [(4, .int v23), (5, .int (nI (144 * t + 12 * i + k))), (3, .int (nI i)), (2, .int z10), (0, .ref y), (1, .int (nI t))]) hx hb dX7_cost_102 hl (k := 1) rfl ev23.symm (by decide) rfl (fun ls hl => ?_)
                      obtain rfl : v23 = nI (k + 1) := nI_plus (i := k) (j := 1) ev23 rfl (by decide)
                      refine lv_goto (tgt := 43) hx hb dX7_cost_105 (by decide) ?_
                      exact ih43k9 (k + 1) z10 (by omega) (by omega) (hc.trans (acR_z (if_pB0 (fun z => c22 z.2.2))).symm) _ _ _ hP hS (lv_sub hl [0, 2, 3, 4, 5] rfl)
                    · refine lv_iload_n hx hb dX7_cost_92 rfl (lv_at hl 3 rfl) ?_
                      refine lv_aload_n hx hb dX7_cost_93 rfl (lv_at hl 4 rfl) ?_
                      refine lv_iload_n hx hb dX7_cost_94 rfl (lv_at hl 5 rfl) ?_
                      refine lv_iload hx hb dX7_cost_95 (lv_at hl 0 rfl) ?_
                      refine rdV (rest := [.int z10]) (q0 := 0) ⟨hx, hb, hml, hown, hts⟩ (n_costOf l G y b (upd f 0 0) r t (144 * t + 12 * i + k)  (by omega) (by omega)) mi_yX7_costOf mv_yX7_costOf ml_X7_242 ⟨rfl, rfl, Nat.le_of_ble_eq_true rfl, Nat.le_of_ble_eq_true rfl⟩ hK (hP) rfl rfl rfl hl.1 rfl (Nat.le_of_ble_eq_true rfl) dX7_cost_97 ⟨Nat.zero_le _, Nat.zero_le _⟩ hS hA hP (fun r24 H locs hr24 hP hS => ?_)
                      obtain rfl := hr24
                      refine lv_iadd hx hb dX7_cost_100 ?_
                      refine lv_topi (fun v25 ev25 => ?_)
                      refine lv_istore_n (lv' := [(2, .int v25), (5, .int (nI (144 * t + 12 * i + k))), (4, .int (nI k)), (3, .int (nI i)), (0, .ref y), (1, .int (nI t))]) hx hb dX7_cost_101 rfl hl (by decide) rfl (fun ls hl => ?_)
                      obtain ⟨v26, ev26⟩ : ∃ y9 : Int32, y9 = (nI k) + Int32.ofInt (1) := ⟨_, rfl⟩
                      refine lv_iinc (v := v26) (lv' := [(4, .int v26), (2, .int v25), (5, .int (nI (144 * t + 12 * i + k))), (3, .int (nI i)), (0, .ref y), (1, .int (nI t))]) hx hb dX7_cost_102 hl (k := 2) rfl ev26.symm (by decide) rfl (fun ls hl => ?_)
                      obtain rfl : v26 = nI (k + 1) := nI_plus (i := k) (j := 1) ev26 rfl (by decide)
                      refine lv_goto (tgt := 43) hx hb dX7_cost_105 (by decide) ?_
                      exact ih43k9 (k + 1) v25 (by omega) (by omega) (ev25.trans (by rw [hc]; exact (acR_p (if_pB1 ⟨b60, b79, c22⟩)).symm)) _ _ _ hP hS (lv_sub hl [0, 3, 1, 4, 5] rfl)
          exact loop43 (cl + 1) 0 z6 (by omega) (by omega) (hc) _ _ _ hP hS (lv_sub hl [0, 1, 2, 3, 4] rfl)
    exact loop30 (rw + 1) 0 0 (by omega) (by omega) (rfl) _ _ _ hP hS (lv_sub hl [0, 1, 2, 3] rfl)
