
set_option maxHeartbeats 4000000 in
set_option maxRecDepth 100000 in
theorem n_push_d (l : Launch) (G : GG) (y : Nat) (b : Nat → Nat) (f : Nat → Int32) (r : Nat → Nat → Int32) (i : Nat) (b2 : Nat) (its : Int32) (mo : Nat) (rw : Nat) (cl : Nat) (j : Nat) (V0 : Nat → Nat → Nat) (V : Nat → Nat → Nat) (Lo : Nat → Nat → Nat) (Hi : Nat → Nat → Nat) (K : Nat → Nat → Bool) (hi : i < 12) (hj : j < 12) (eb : b2 = 12 + j) (hrw : rw ≤ 12) (hcl : cl ≤ 12) (h20 : (f 20) = nI rw) (h21 : (f 21) = nI cl) (hcj : dmM rw cl (r 18) its i j = true) (hKj : K i j = true) (hKd : ∀ x y, K x y = true → dmM rw cl (r 18) its x y = true) (hmv : ∀ x y, dmM rw cl (r 18) its x y = true → (¬ (r 19) (12 * x + y) = 0 ↔ (K x y = true ∧ ¬ (x = i ∧ y = j)))) (hnw : rowM (dmM rw cl (r 18) its) V (r 15)) (hlw : rowM (dmM rw cl (r 18) its) Lo (r 16)) (hhg : rowM (dmM rw cl (r 18) its) Hi (r 17)) (hBd : BND (dmM rw cl (r 18) its) Lo Hi V) (hAg : agN K Lo Hi V0 V) (hmo : Lo i j + mo = V i j) : WrI l yX7_push cX7_push 10 (some .int) ({ frames := 2, cells := 0, slots := 0, locals := 51 }) G (mM G y b f r) [.ref y, .int (nI i), .int (nI b2), .int its, .int (nI mo)] (fun q w => ∃ (n_r_15 : Nat → Int32) (n_r_22 : Nat → Int32) (n_r_23 : Nat → Int32) (d9 : Nat) (U9 : Nat → Nat → Nat), w = mM G y b f (up2 (up2 (up2 r 15 n_r_15) 22 n_r_22) 23 n_r_23) ∧ q = nI d9 ∧ (U9 i j + d9 = V i j) ∧ (agN K Lo Hi V0 U9) ∧ (BND (dmM rw cl (r 18) its) Lo Hi U9) ∧ (rowM (dmM rw cl (r 18) its) (upT U9 i j (V i j)) n_r_15) ∧ (∀ x y, x < 12 → y < 12 → dmM rw cl (r 18) its x y = false → n_r_15 (12 * x + y) = (r 15) (12 * x + y)) ∧ (d9 = mo ∨ ∀ w, agN K Lo Hi V0 w → U9 i j ≤ w i j)) := by
  refine wr_entryI (by decide +kernel) (Nat.le_of_ble_eq_true rfl) ?_
  intro p e s m below meth c A C0 hP hK hD hA ls hl
  have hS : va_S A s.heap s.heap [] := va_S.rf
  obtain ⟨hx, hb, hml, hown, hts, hr, hlocks, hin⟩ := C0
  have hown : s.vm.findClass RX7 = some m.cls := hown
  have hDD : ∀ f' r', va_D A (mM G y b f' r') := fun f' r' => D_same hD rfl
  have hl : lv_has ls 10 [(0, .ref y), (1, .int (nI i)), (2, .int (nI b2)), (3, .int its), (4, .int (nI mo))] := hl
  subst eb
  have hdo := dmM_of hcj
  have hna : ndM rw cl (r 18) its i := Or.inl ⟨hi, hdo.1, hdo.2.2⟩
  have hkk : ∀ x y, x < 12 → y < 12 → K x y = true → ¬ (x = i ∧ y = j) → offT (dmM rw cl (r 18) its) i j x y = true := fun x y _ _ h8 h9 => by rw [offT_n h9]; exact hKd x y h8
  have hBi := hBd i j hcj
  refine lv_iconst (v := 0) hx hb dX7_push_0 (by decide) ?_
  refine lv_istore (lv' := [(5, .int 0), (0, .ref y), (1, .int (nI i)), (2, .int (nI (12 + j))), (3, .int its), (4, .int (nI mo))]) hx hb dX7_push_1 hl (by decide) rfl (fun ls hl => ?_)
  have loop3 : ∀ (k1 : Nat) (d : Nat) (U : Nat → Nat → Nat) (x4 : Nat → Int32) (x5 : Nat → Int32) (x6 : Nat → Int32), mo - d < k1 → (d ≤ mo) → (U i j + d = V i j) → (agN K Lo Hi V0 U) → (BND (dmM rw cl (r 18) its) Lo Hi U) → (rowM (dmM rw cl (r 18) its) (upT U i j (V i j)) x4) → (∀ x y, x < 12 → y < 12 → (dmM rw cl (r 18) its) x y = false → x4 (12 * x + y) = r 15 (12 * x + y)) → ∀ (H : Heap) (locs : List Loc) (ls : Array Slot), PP G (mM G y b f (up2 (up2 (up2 r 15 x4) 22 x5) 23 x6)) H → va_S A s.heap H locs → lv_has ls 10 [(5, .int (nI d)), (0, .ref y), (1, .int (nI i)), (2, .int (nI (12 + j))), (3, .int its), (4, .int (nI mo))] → W p l e ({ frames := 2, cells := 0, slots := 0, locals := 51 }) s m ([.ref y, .int (nI i), .int (nI (12 + j)), .int its, .int (nI mo)] : List Value).toArray below meth c H locs 0 0 (MQ below (QwI G (fun q w => ∃ (n_r_15 : Nat → Int32) (n_r_22 : Nat → Int32) (n_r_23 : Nat → Int32) (d9 : Nat) (U9 : Nat → Nat → Nat), w = mM G y b f (up2 (up2 (up2 r 15 n_r_15) 22 n_r_22) 23 n_r_23) ∧ q = nI d9 ∧ (U9 i j + d9 = V i j) ∧ (agN K Lo Hi V0 U9) ∧ (BND (dmM rw cl (r 18) its) Lo Hi U9) ∧ (rowM (dmM rw cl (r 18) its) (upT U9 i j (V i j)) n_r_15) ∧ (∀ x y, x < 12 → y < 12 → dmM rw cl (r 18) its x y = false → n_r_15 (12 * x + y) = (r 15) (12 * x + y)) ∧ (d9 = mo ∨ ∀ w, agN K Lo Hi V0 w → U9 i j ≤ w i j)) A) ([.ref y, .int (nI i), .int (nI (12 + j)), .int its, .int (nI mo)] : List Value).toArray s 0 0 A) (F0 m 3 ls []) := by
    intro k1
    induction k1 with
    | zero => intro d U x4 x5 x6 h1; exact absurd h1 (Nat.not_lt_zero _)
    | succ k1 ih3k1 =>
      intro  d U x4 x5 x6 hm_k1 gd hUd hAn hBn hVn hfn H locs ls hP hS hl
      obtain ⟨st, hSn⟩ := SYN_ex K (offT (dmM rw cl (r 18) its) i j) U Lo Hi
      have hBU := hBn i j hcj
      refine lv_iload hx hb dX7_push_3 (lv_at hl 0 rfl) ?_
      refine lv_iload hx hb dX7_push_5 (lv_at hl 5 rfl) ?_
      refine lv_icmp_ge (tgt := 167) hx hb dX7_push_7 (by decide) (fun c7 => ?_) (fun c7 => ?_)
      · have b7 := qge_t (a := d) (b := mo) (by omega) (by omega) c7
        refine lv_iload hx hb dX7_push_167 (lv_at hl 0 rfl) ?_
        exact wr_iret hx hb hr hlocks hS hP ⟨x4, x5, x6, d, U, rfl, rfl, hUd, hAn, hBn, hVn, hfn, (Or.inl (by omega))⟩ dX7_push_169
      · have b7 := qge_f (a := d) (b := mo) (by omega) (by omega) c7
        refine lv_aload_n hx hb dX7_push_10 rfl (lv_at hl 1 rfl) ?_
        refine lv_iload_n hx hb dX7_push_11 rfl (lv_at hl 2 rfl) ?_
        refine lv_iload_n hx hb dX7_push_12 rfl (lv_at hl 3 rfl) ?_
        refine lv_iload_n hx hb dX7_push_13 rfl (lv_at hl 4 rfl) ?_
        refine wrVIa (rest := []) (q0 := 0) ⟨hx, hb, hml, hown, hts⟩ (n_way l G y b f (up2 (up2 (up2 r 15 x4) 22 x5) 23 x6) i (12 + j) its rw cl st (by omega) (by omega) (by omega) (by omega) (by omega) h20 h21 hna (st_M hSn hBn hVn hlw hhg hmv) (sn_M hSn hKd)) mi_yX7_way mv_yX7_way ml_X7_204 ⟨rfl, rfl, Nat.le_of_ble_eq_true rfl, Nat.le_of_ble_eq_true rfl⟩ hK hP (hDD _ _) rfl rfl rfl hl.1 rfl (Nat.le_of_ble_eq_true rfl) dX7_push_14 ⟨Nat.zero_le _, Nat.zero_le _⟩ hS hA (fun r8 w9 H locs hw9 hP hS => ?_)
        obtain ⟨x10, x11, rfl, hw9r⟩ := hw9
        have hP : PP G (mM G y b f (up2 (up2 (up2 r 15 x4) 22 x10) 23 x11)) H := hP
        have hw9r : ((r8 = 0 ∧ ∃ zz, CLB st i (12 + j) zz) ∨ (r8 = 1 ∧ WAY st i (12 + j) x10)) := hw9r
        refine lv_if_eq (tgt := 167) hx hb dX7_push_17 (by decide) (fun c12 => ?_) (fun c12 => ?_)
        · obtain ⟨-, zz, hclo⟩ := hw9r.resolve_right (fun z9 => absurd (z9.1.symm.trans c12) (by decide))
          refine lv_iload hx hb dX7_push_167 (lv_at hl 0 rfl) ?_
          exact wr_iret hx hb hr hlocks hS hP ⟨x4, x10, x11, d, U, rfl, rfl, hUd, hAn, hBn, hVn, hfn, (Or.inr (fun w9 h9 => clB_lo hi hj hclo hSn hkk (agN_tr hAn h9)))⟩ dX7_push_169
        · have hway := (hw9r.resolve_left (fun z9 => c12 z9.1)).2
          obtain ⟨L, hCL⟩ := CH_of hway (by omega)
          have hL25 := hCL.2.2.1
          refine lv_iload hx hb dX7_push_20 (lv_at hl 5 rfl) ?_
          refine lv_iload hx hb dX7_push_22 (lv_at hl 0 rfl) ?_
          refine lv_isub hx hb dX7_push_24 ?_
          refine lv_topi (fun v13 ev13 => ?_)
          obtain rfl : v13 = nI (mo - d) := nI_minus ev13 rfl rfl (by omega)
          refine lv_istore (lv' := [(6, .int (nI (mo - d))), (5, .int (nI d)), (0, .ref y), (1, .int (nI i)), (2, .int (nI (12 + j))), (3, .int its), (4, .int (nI mo))]) hx hb dX7_push_25 hl (by decide) rfl (fun ls hl => ?_)
          refine lv_iload_n hx hb dX7_push_27 rfl (lv_at hl 4 rfl) ?_
          refine lv_istore (lv' := [(7, .int (nI (12 + j))), (6, .int (nI (mo - d))), (5, .int (nI d)), (0, .ref y), (1, .int (nI i)), (2, .int (nI (12 + j))), (3, .int its), (4, .int (nI mo))]) hx hb dX7_push_28 hl (by decide) rfl (fun ls hl => ?_)
          have loop30 : ∀ (k14 : Nat) (y7 : Nat) (ee : Nat) (k : Nat), L (12 + j) - k < k14 → (y7 < 25) → (ee ≤ mo - d) → (y7 = chF x10 (12 + j) k) → (k ≤ L (12 + j)) → (ee = mn2 (mo - d) (resA x10 (12 + j) U Lo Hi) k) → ∀ (H : Heap) (locs : List Loc) (ls : Array Slot), PP G (mM G y b f (up2 (up2 (up2 r 15 x4) 22 x10) 23 x11)) H → va_S A s.heap H locs → lv_has ls 10 [(7, .int (nI y7)), (6, .int (nI ee)), (5, .int (nI d)), (0, .ref y), (1, .int (nI i)), (2, .int (nI (12 + j))), (3, .int its), (4, .int (nI mo))] → W p l e ({ frames := 2, cells := 0, slots := 0, locals := 51 }) s m ([.ref y, .int (nI i), .int (nI (12 + j)), .int its, .int (nI mo)] : List Value).toArray below meth c H locs 0 0 (MQ below (QwI G (fun q w => ∃ (n_r_15 : Nat → Int32) (n_r_22 : Nat → Int32) (n_r_23 : Nat → Int32) (d9 : Nat) (U9 : Nat → Nat → Nat), w = mM G y b f (up2 (up2 (up2 r 15 n_r_15) 22 n_r_22) 23 n_r_23) ∧ q = nI d9 ∧ (U9 i j + d9 = V i j) ∧ (agN K Lo Hi V0 U9) ∧ (BND (dmM rw cl (r 18) its) Lo Hi U9) ∧ (rowM (dmM rw cl (r 18) its) (upT U9 i j (V i j)) n_r_15) ∧ (∀ x y, x < 12 → y < 12 → dmM rw cl (r 18) its x y = false → n_r_15 (12 * x + y) = (r 15) (12 * x + y)) ∧ (d9 = mo ∨ ∀ w, agN K Lo Hi V0 w → U9 i j ≤ w i j)) A) ([.ref y, .int (nI i), .int (nI (12 + j)), .int its, .int (nI mo)] : List Value).toArray s 0 0 A) (F0 m 30 ls []) := by
            intro k14
            induction k14 with
            | zero => intro y7 ee k h1; exact absurd h1 (Nat.not_lt_zero _)
            | succ k14 ih30k14 =>
              intro  y7 ee k hm_k14 gy7 gee hy hk he H locs ls hP hS hl
              subst hy
              refine lv_iload hx hb dX7_push_30 (lv_at hl 0 rfl) ?_
              refine lv_iload_n hx hb dX7_push_32 rfl (lv_at hl 4 rfl) ?_
              refine lv_icmp_eq (tgt := 68) hx hb dX7_push_33 (by decide) (fun c18 => ?_) (fun c18 => ?_)
              · have b33 := qeq_t (a := (chF x10 (12 + j) k)) (b := i) (by omega) (by omega) c18
                have hkL := ch_end hCL hk b33
                have hde : ∀ k9, k9 < L (12 + j) → ee ≤ (resA x10 (12 + j) U Lo Hi) k9 := fun k9 h9 => by rw [he, hkL]; exact mn2_all _ k9 h9
                have hep : 0 < ee := by rw [he]; exact mn2_pos (by omega) _ (fun k9 h9 => res_pos hCL hSn (by omega))
                have hel : ee ≤ mo - d := by rw [he]; exact mn2_le _
                refine lv_iload_n hx hb dX7_push_68 rfl (lv_at hl 5 rfl) ?_
                refine lv_istore (lv' := [(7, .int (nI (12 + j))), (6, .int (nI ee)), (5, .int (nI d)), (0, .ref y), (1, .int (nI i)), (2, .int (nI (12 + j))), (3, .int its), (4, .int (nI mo))]) hx hb dX7_push_69 hl (by decide) rfl (fun ls hl => ?_)
                have loop71 : ∀ (k19 : Nat) (y7 : Nat) (k : Nat) (x22 : Nat → Int32), L (12 + j) - k < k19 → (y7 < 25) → (y7 = chF x10 (12 + j) k) → (k ≤ L (12 + j)) → (rowM (dmM rw cl (r 18) its) (upT (shT x10 (12 + j) ee U k) i j (V i j)) x22) → (∀ x y, x < 12 → y < 12 → (dmM rw cl (r 18) its) x y = false → x22 (12 * x + y) = r 15 (12 * x + y)) → ∀ (H : Heap) (locs : List Loc) (ls : Array Slot), PP G (mM G y b f (up2 (up2 (up2 r 15 x22) 22 x10) 23 x11)) H → va_S A s.heap H locs → lv_has ls 10 [(7, .int (nI y7)), (6, .int (nI ee)), (5, .int (nI d)), (0, .ref y), (1, .int (nI i)), (2, .int (nI (12 + j))), (3, .int its), (4, .int (nI mo))] → W p l e ({ frames := 2, cells := 0, slots := 0, locals := 51 }) s m ([.ref y, .int (nI i), .int (nI (12 + j)), .int its, .int (nI mo)] : List Value).toArray below meth c H locs 0 0 (MQ below (QwI G (fun q w => ∃ (n_r_15 : Nat → Int32) (n_r_22 : Nat → Int32) (n_r_23 : Nat → Int32) (d9 : Nat) (U9 : Nat → Nat → Nat), w = mM G y b f (up2 (up2 (up2 r 15 n_r_15) 22 n_r_22) 23 n_r_23) ∧ q = nI d9 ∧ (U9 i j + d9 = V i j) ∧ (agN K Lo Hi V0 U9) ∧ (BND (dmM rw cl (r 18) its) Lo Hi U9) ∧ (rowM (dmM rw cl (r 18) its) (upT U9 i j (V i j)) n_r_15) ∧ (∀ x y, x < 12 → y < 12 → dmM rw cl (r 18) its x y = false → n_r_15 (12 * x + y) = (r 15) (12 * x + y)) ∧ (d9 = mo ∨ ∀ w, agN K Lo Hi V0 w → U9 i j ≤ w i j)) A) ([.ref y, .int (nI i), .int (nI (12 + j)), .int its, .int (nI mo)] : List Value).toArray s 0 0 A) (F0 m 71 ls []) := by
                  intro k19
                  induction k19 with
                  | zero => intro y7 k x22 h1; exact absurd h1 (Nat.not_lt_zero _)
                  | succ k19 ih71k19 =>
                    intro  y7 k x22 hm_k19 gy7 hy hk hSh hfs H locs ls hP hS hl
                    subst hy
                    refine lv_iload hx hb dX7_push_71 (lv_at hl 0 rfl) ?_
                    refine lv_iload_n hx hb dX7_push_73 rfl (lv_at hl 4 rfl) ?_
                    refine lv_icmp_eq (tgt := 157) hx hb dX7_push_74 (by decide) (fun c23 => ?_) (fun c23 => ?_)
                    · have b74 := qeq_t (a := (chF x10 (12 + j) k)) (b := i) (by omega) (by omega) c23
                      have hkL := ch_end hCL hk b74
                      have hCt := dr_down hi hj offT_s hKj hCL hSn hde (by omega) hAn
                      have hCb := bndT (i := i) (j := j) (x := U i j - ee) hCL hSn hde (agN_b hAn) hBn (by omega)
                      refine lv_iload hx hb dX7_push_157 (lv_at hl 2 rfl) ?_
                      refine lv_iload hx hb dX7_push_159 (lv_at hl 1 rfl) ?_
                      refine lv_iadd hx hb dX7_push_161 ?_
                      refine lv_topi (fun v24 ev24 => ?_)
                      obtain rfl : v24 = nI (d + ee) := nI_plus ev24 rfl rfl
                      refine lv_istore (lv' := [(5, .int (nI (d + ee))), (7, .int (nI (chF x10 (12 + j) k))), (6, .int (nI ee)), (0, .ref y), (1, .int (nI i)), (2, .int (nI (12 + j))), (3, .int its), (4, .int (nI mo))]) hx hb dX7_push_162 hl (by decide) rfl (fun ls hl => ?_)
                      refine lv_goto (tgt := 3) hx hb dX7_push_164 (by decide) ?_
                      exact ih3k1 (d + ee) (upT (shT x10 (12 + j) ee U (L (12 + j))) i j (U i j - ee)) x22 x10 x11 (by omega) (by omega) (by rw [upT_s]; omega) (hCt) (hCb) (rowM_c hSh (fun x y _ _ => by rw [← hkL]; exact upT_tw)) (hfs) _ _ _ hP hS (lv_sub hl [0, 3, 4, 5, 6, 7] rfl)
                    · have b74 := qeq_f (a := (chF x10 (12 + j) k)) (b := i) (by omega) (by omega) c23
                      have hlt := ch_lt hCL hk b74
                      obtain ⟨y1, y2, y3, y4, y5, y6⟩ := hCL.2.2.2.2 k hlt
                      have har := arc_of hSn y2 y1 y5
                      have hbip : bip (chF x10 (12 + j) (k + 1)) (chF x10 (12 + j) k) := by rcases har with ⟨q1, q2, q3, _⟩ | ⟨q1, q2, q3, _⟩; exact Or.inl ⟨q1, q2, q3⟩; exact Or.inr ⟨q2, q3, q1⟩
                      have hb24 : chF x10 (12 + j) (k + 1) < 24 ∧ chF x10 (12 + j) k < 24 := by unfold bip at hbip; omega
                      refine lv_aload_n hx hb dX7_push_77 rfl (lv_at hl 3 rfl) ?_
                      refine va_get (D := G.1) (ci := 7) (v := .ref (b 22)) (C := RX7) (T := TX7) (N := 43) hx hb hts inX7 hown hK.1 hP 0 rfl rfl 22 (by decide) (hts _ mf_X7_68) (fun _ h9 => h9) rfl dX7_push_78 ?_
                      refine lv_iload hx hb dX7_push_81 (lv_at hl 0 rfl) ?_
                      refine xiald (f := x10) hx hb hK hP 20 ((chF x10 (12 + j) k)) (rfl) (by omega) (by decide) rfl dX7_push_83 ?_
                      refine lv_topi (fun v25 ev25 => ?_)
                      obtain rfl : v25 = nI (chF x10 (12 + j) (k + 1)) := ev25.trans (y4)
                      refine lv_istore (lv' := [(8, .int (nI (chF x10 (12 + j) (k + 1)))), (7, .int (nI (chF x10 (12 + j) k))), (6, .int (nI ee)), (5, .int (nI d)), (0, .ref y), (1, .int (nI i)), (2, .int (nI (12 + j))), (3, .int its), (4, .int (nI mo))]) hx hb dX7_push_84 hl (by decide) rfl (fun ls hl => ?_)
                      refine lv_iload hx hb dX7_push_86 (lv_at hl 0 rfl) ?_
                      refine lv_bipush (v := 12) hx hb dX7_push_88 (by decide) ?_
                      refine lv_icmp_ge (tgt := 107) hx hb dX7_push_90 (by decide) (fun c26 => ?_) (fun c26 => ?_)
                      · have b90 := qge_t (a := (chF x10 (12 + j) (k + 1))) (b := 12) (by omega) (by omega) c26
                        obtain ⟨ax1, ax2, ax3, ax4, ax5, ax6⟩ := har.resolve_left (fun z9 => absurd z9.1 (by omega))
                        have eR : ceR x10 (12 + j) k = (chF x10 (12 + j) k) := if_neg (by omega)
                        have eC : ceC x10 (12 + j) k = (chF x10 (12 + j) (k + 1) - 12) := if_neg (by omega)
                        have hdc := hKd _ _ ax5
                        have hne := (on_iff hdc).mp ax4
                        have hbc := hBn _ _ hdc
                        have hfar := shT_far (d := ee) (V := U) k (fun k9 h9 => ce_ne hCL hSn hlt (show k9 < L (12 + j) by omega) (by omega))
                        rw [eR, eC] at hfar
                        have hre := hde k hlt
                        unfold resA at hre
                        rw [if_neg (by omega), eR, eC] at hre
                        have hsh : shT x10 (12 + j) ee U (k + 1) = upT (shT x10 (12 + j) ee U k) (chF x10 (12 + j) k) (chF x10 (12 + j) (k + 1) - 12) (shT x10 (12 + j) ee U k (chF x10 (12 + j) k) (chF x10 (12 + j) (k + 1) - 12) - ee) := by show upT _ _ _ _ = _; rw [eR, eC, if_neg (by omega)]
                        refine lv_bipush (v := 12) hx hb dX7_push_107 (by decide) ?_
                        refine lv_iload hx hb dX7_push_109 (lv_at hl 1 rfl) ?_
                        refine lv_imul hx hb dX7_push_111 ?_
                        refine lv_topi (fun v27 ev27 => ?_)
                        obtain rfl : v27 = nI (12 * (chF x10 (12 + j) k)) := nI_times ev27 rfl rfl
                        refine lv_iload hx hb dX7_push_112 (lv_at hl 0 rfl) ?_
                        refine lv_iadd hx hb dX7_push_114 ?_
                        refine lv_topi (fun v28 ev28 => ?_)
                        obtain rfl : v28 = nI ((12 * (chF x10 (12 + j) k)) + (chF x10 (12 + j) (k + 1))) := nI_plus ev28 rfl rfl
                        refine lv_bipush (v := 12) hx hb dX7_push_115 (by decide) ?_
                        refine lv_isub hx hb dX7_push_117 ?_
                        refine lv_topi (fun v29 ev29 => ?_)
                        obtain rfl : v29 = nI (((12 * (chF x10 (12 + j) k)) + (chF x10 (12 + j) (k + 1))) - 12) := nI_minus ev29 rfl rfl (by omega)
                        refine lv_istore (lv' := [(9, .int (nI (((12 * (chF x10 (12 + j) k)) + (chF x10 (12 + j) (k + 1))) - 12))), (8, .int (nI (chF x10 (12 + j) (k + 1)))), (7, .int (nI (chF x10 (12 + j) k))), (6, .int (nI ee)), (5, .int (nI d)), (0, .ref y), (1, .int (nI i)), (2, .int (nI (12 + j))), (3, .int its), (4, .int (nI mo))]) hx hb dX7_push_118 hl (by decide) rfl (fun ls hl => ?_)
                        refine lv_aload_n hx hb dX7_push_120 rfl (lv_at hl 5 rfl) ?_
                        refine va_get (D := G.1) (ci := 7) (v := .ref (b 15)) (C := RX7) (T := TX7) (N := 43) hx hb hts inX7 hown hK.1 hP 0 rfl rfl 15 (by decide) (hts _ mf_X7_53) (fun _ h9 => h9) rfl dX7_push_121 ?_
                        refine lv_iload hx hb dX7_push_124 (lv_at hl 0 rfl) ?_
                        refine lv_dup2_11 hx hb dX7_push_126 rfl rfl ?_
                        refine xiald (f := x22) hx hb hK hP 15 ((((12 * (chF x10 (12 + j) k)) + (chF x10 (12 + j) (k + 1))) - 12)) (rfl) (by omega) (by decide) rfl dX7_push_127 ?_
                        refine lv_topi (fun v30 ev30 => ?_)
                        obtain rfl : v30 = nI (shT x10 (12 + j) ee U k (chF x10 (12 + j) k) (chF x10 (12 + j) (k + 1) - 12)) := ev30.trans (rowM_at hSh (by omega) (by omega) hne hdc (by omega))
                        refine lv_iload hx hb dX7_push_128 (lv_at hl 1 rfl) ?_
                        refine lv_bipush (v := 12) hx hb dX7_push_130 (by decide) ?_
                        refine lv_icmp_ge (tgt := 140) hx hb dX7_push_132 (by decide) (fun c31 => ?_) (fun c31 => ?_)
                        · have b132 := qge_t (a := (chF x10 (12 + j) (k + 1))) (b := 12) (by omega) (by omega) c31
                          refine lv_iload hx hb dX7_push_140 (lv_at hl 3 rfl) ?_
                          refine lv_ineg hx hb dX7_push_142 ?_
                          refine lv_topi (fun v32 ev32 => ?_)
                          refine lv_iadd hx hb dX7_push_143 ?_
                          refine lv_topi (fun v33 ev33 => ?_)
                          obtain rfl : v33 = nI (shT x10 (12 + j) ee U k (chF x10 (12 + j) k) (chF x10 (12 + j) (k + 1) - 12) - ee) := neg_add8 ev32 ev33 (by omega)
                          refine xiast (f := x22) (x := (nI (shT x10 (12 + j) ee U k (chF x10 (12 + j) k) (chF x10 (12 + j) (k + 1) - 12) - ee))) hx hb hK hP (hDD _ _) hS 15 ((((12 * (chF x10 (12 + j) k)) + (chF x10 (12 + j) (k + 1))) - 12)) (rfl) (by omega) (by decide) rfl dX7_push_144 (fun H locs hP _ hS => ?_)
                          have hP : PP G (mM G y b f (up2 (up2 (up2 r 15 (upd x22 ((((12 * (chF x10 (12 + j) k)) + (chF x10 (12 + j) (k + 1))) - 12)) ((nI (shT x10 (12 + j) ee U k (chF x10 (12 + j) k) (chF x10 (12 + j) (k + 1) - 12) - ee))))) 22 x10) 23 x11)) H := hP
                          refine lv_aload_n hx hb dX7_push_145 rfl (lv_at hl 5 rfl) ?_
                          refine va_get (D := G.1) (ci := 7) (v := .ref (b 22)) (C := RX7) (T := TX7) (N := 43) hx hb hts inX7 hown hK.1 hP 0 rfl rfl 22 (by decide) (hts _ mf_X7_68) (fun _ h9 => h9) rfl dX7_push_146 ?_
                          refine lv_iload hx hb dX7_push_149 (lv_at hl 2 rfl) ?_
                          refine xiald (f := x10) hx hb hK hP 20 ((chF x10 (12 + j) k)) (rfl) (by omega) (by decide) rfl dX7_push_151 ?_
                          refine lv_topi (fun v34 ev34 => ?_)
                          obtain rfl : v34 = nI (chF x10 (12 + j) (k + 1)) := ev34.trans (y4)
                          refine lv_istore (lv' := [(7, .int (nI (chF x10 (12 + j) (k + 1)))), (9, .int (nI (((12 * (chF x10 (12 + j) k)) + (chF x10 (12 + j) (k + 1))) - 12))), (8, .int (nI (chF x10 (12 + j) (k + 1)))), (6, .int (nI ee)), (5, .int (nI d)), (0, .ref y), (1, .int (nI i)), (2, .int (nI (12 + j))), (3, .int its), (4, .int (nI mo))]) hx hb dX7_push_152 hl (by decide) rfl (fun ls hl => ?_)
                          refine lv_goto (tgt := 71) hx hb dX7_push_154 (by decide) ?_
                          exact ih71k19 (chF x10 (12 + j) (k + 1)) (k + 1) (upd x22 ((((12 * (chF x10 (12 + j) k)) + (chF x10 (12 + j) (k + 1))) - 12)) ((nI (shT x10 (12 + j) ee U k (chF x10 (12 + j) k) (chF x10 (12 + j) (k + 1) - 12) - ee)))) (by omega) (by omega) (rfl) (by omega) (by rw [hsh]; exact rowM_sh hSh (by omega) hne (by omega)) (rowM_f hfs hdc (by omega) (by omega)) _ _ _ hP hS (lv_sub hl [0, 3, 4, 5, 6, 7, 8, 9] rfl)
                        · have b132 := qge_f (a := (chF x10 (12 + j) (k + 1))) (b := 12) (by omega) (by omega) c31
                          exact absurd b132 (by omega)
                      · have b90 := qge_f (a := (chF x10 (12 + j) (k + 1))) (b := 12) (by omega) (by omega) c26
                        obtain ⟨ax1, ax2, ax3, ax4, ax5, ax6⟩ := har.resolve_right (fun z9 => absurd z9.2.1 (by omega))
                        have eR : ceR x10 (12 + j) k = (chF x10 (12 + j) (k + 1)) := if_pos (by omega)
                        have eC : ceC x10 (12 + j) k = (chF x10 (12 + j) k - 12) := if_pos (by omega)
                        have hdc := hKd _ _ ax5
                        have hne := (on_iff hdc).mp ax4
                        have hbc := hBn _ _ hdc
                        have hfar := shT_far (d := ee) (V := U) k (fun k9 h9 => ce_ne hCL hSn hlt (show k9 < L (12 + j) by omega) (by omega))
                        rw [eR, eC] at hfar
                        have hre := hde k hlt
                        unfold resA at hre
                        rw [if_pos (by omega), eR, eC] at hre
                        have hsh : shT x10 (12 + j) ee U (k + 1) = upT (shT x10 (12 + j) ee U k) (chF x10 (12 + j) (k + 1)) (chF x10 (12 + j) k - 12) (shT x10 (12 + j) ee U k (chF x10 (12 + j) (k + 1)) (chF x10 (12 + j) k - 12) + ee) := by show upT _ _ _ _ = _; rw [eR, eC, if_pos (by omega)]
                        refine lv_bipush (v := 12) hx hb dX7_push_93 (by decide) ?_
                        refine lv_iload hx hb dX7_push_95 (lv_at hl 0 rfl) ?_
                        refine lv_imul hx hb dX7_push_97 ?_
                        refine lv_topi (fun v35 ev35 => ?_)
                        obtain rfl : v35 = nI (12 * (chF x10 (12 + j) (k + 1))) := nI_times ev35 rfl rfl
                        refine lv_iload hx hb dX7_push_98 (lv_at hl 1 rfl) ?_
                        refine lv_iadd hx hb dX7_push_100 ?_
                        refine lv_topi (fun v36 ev36 => ?_)
                        obtain rfl : v36 = nI ((12 * (chF x10 (12 + j) (k + 1))) + (chF x10 (12 + j) k)) := nI_plus ev36 rfl rfl
                        refine lv_bipush (v := 12) hx hb dX7_push_101 (by decide) ?_
                        refine lv_isub hx hb dX7_push_103 ?_
                        refine lv_topi (fun v37 ev37 => ?_)
                        obtain rfl : v37 = nI (((12 * (chF x10 (12 + j) (k + 1))) + (chF x10 (12 + j) k)) - 12) := nI_minus ev37 rfl rfl (by omega)
                        refine lv_goto (tgt := 118) hx hb dX7_push_104 (by decide) ?_
                        refine lv_istore (lv' := [(9, .int (nI (((12 * (chF x10 (12 + j) (k + 1))) + (chF x10 (12 + j) k)) - 12))), (8, .int (nI (chF x10 (12 + j) (k + 1)))), (7, .int (nI (chF x10 (12 + j) k))), (6, .int (nI ee)), (5, .int (nI d)), (0, .ref y), (1, .int (nI i)), (2, .int (nI (12 + j))), (3, .int its), (4, .int (nI mo))]) hx hb dX7_push_118 hl (by decide) rfl (fun ls hl => ?_)
                        refine lv_aload_n hx hb dX7_push_120 rfl (lv_at hl 5 rfl) ?_
                        refine va_get (D := G.1) (ci := 7) (v := .ref (b 15)) (C := RX7) (T := TX7) (N := 43) hx hb hts inX7 hown hK.1 hP 0 rfl rfl 15 (by decide) (hts _ mf_X7_53) (fun _ h9 => h9) rfl dX7_push_121 ?_
                        refine lv_iload hx hb dX7_push_124 (lv_at hl 0 rfl) ?_
                        refine lv_dup2_11 hx hb dX7_push_126 rfl rfl ?_
                        refine xiald (f := x22) hx hb hK hP 15 ((((12 * (chF x10 (12 + j) (k + 1))) + (chF x10 (12 + j) k)) - 12)) (rfl) (by omega) (by decide) rfl dX7_push_127 ?_
                        refine lv_topi (fun v38 ev38 => ?_)
                        obtain rfl : v38 = nI (shT x10 (12 + j) ee U k (chF x10 (12 + j) (k + 1)) (chF x10 (12 + j) k - 12)) := ev38.trans (rowM_at hSh (by omega) (by omega) hne hdc (by omega))
                        refine lv_iload hx hb dX7_push_128 (lv_at hl 1 rfl) ?_
                        refine lv_bipush (v := 12) hx hb dX7_push_130 (by decide) ?_
                        refine lv_icmp_ge (tgt := 140) hx hb dX7_push_132 (by decide) (fun c39 => ?_) (fun c39 => ?_)
                        · have b132 := qge_t (a := (chF x10 (12 + j) (k + 1))) (b := 12) (by omega) (by omega) c39
                          exact absurd b132 (by omega)
                        · have b132 := qge_f (a := (chF x10 (12 + j) (k + 1))) (b := 12) (by omega) (by omega) c39
                          refine lv_iload hx hb dX7_push_135 (lv_at hl 3 rfl) ?_
                          refine lv_goto (tgt := 143) hx hb dX7_push_137 (by decide) ?_
                          refine lv_iadd hx hb dX7_push_143 ?_
                          refine lv_topi (fun v40 ev40 => ?_)
                          obtain rfl : v40 = nI ((shT x10 (12 + j) ee U k (chF x10 (12 + j) (k + 1)) (chF x10 (12 + j) k - 12)) + ee) := nI_plus ev40 rfl rfl
                          refine xiast (f := x22) (x := (nI ((shT x10 (12 + j) ee U k (chF x10 (12 + j) (k + 1)) (chF x10 (12 + j) k - 12)) + ee))) hx hb hK hP (hDD _ _) hS 15 ((((12 * (chF x10 (12 + j) (k + 1))) + (chF x10 (12 + j) k)) - 12)) (rfl) (by omega) (by decide) rfl dX7_push_144 (fun H locs hP _ hS => ?_)
                          have hP : PP G (mM G y b f (up2 (up2 (up2 r 15 (upd x22 ((((12 * (chF x10 (12 + j) (k + 1))) + (chF x10 (12 + j) k)) - 12)) ((nI ((shT x10 (12 + j) ee U k (chF x10 (12 + j) (k + 1)) (chF x10 (12 + j) k - 12)) + ee))))) 22 x10) 23 x11)) H := hP
                          refine lv_aload_n hx hb dX7_push_145 rfl (lv_at hl 5 rfl) ?_
                          refine va_get (D := G.1) (ci := 7) (v := .ref (b 22)) (C := RX7) (T := TX7) (N := 43) hx hb hts inX7 hown hK.1 hP 0 rfl rfl 22 (by decide) (hts _ mf_X7_68) (fun _ h9 => h9) rfl dX7_push_146 ?_
                          refine lv_iload hx hb dX7_push_149 (lv_at hl 2 rfl) ?_
                          refine xiald (f := x10) hx hb hK hP 20 ((chF x10 (12 + j) k)) (rfl) (by omega) (by decide) rfl dX7_push_151 ?_
                          refine lv_topi (fun v41 ev41 => ?_)
                          obtain rfl : v41 = nI (chF x10 (12 + j) (k + 1)) := ev41.trans (y4)
                          refine lv_istore (lv' := [(7, .int (nI (chF x10 (12 + j) (k + 1)))), (9, .int (nI (((12 * (chF x10 (12 + j) (k + 1))) + (chF x10 (12 + j) k)) - 12))), (8, .int (nI (chF x10 (12 + j) (k + 1)))), (6, .int (nI ee)), (5, .int (nI d)), (0, .ref y), (1, .int (nI i)), (2, .int (nI (12 + j))), (3, .int its), (4, .int (nI mo))]) hx hb dX7_push_152 hl (by decide) rfl (fun ls hl => ?_)
                          refine lv_goto (tgt := 71) hx hb dX7_push_154 (by decide) ?_
                          exact ih71k19 (chF x10 (12 + j) (k + 1)) (k + 1) (upd x22 ((((12 * (chF x10 (12 + j) (k + 1))) + (chF x10 (12 + j) k)) - 12)) ((nI ((shT x10 (12 + j) ee U k (chF x10 (12 + j) (k + 1)) (chF x10 (12 + j) k - 12)) + ee)))) (by omega) (by omega) (rfl) (by omega) (by rw [hsh]; exact rowM_sh hSh (by omega) hne (by omega)) (rowM_f hfs hdc (by omega) (by omega)) _ _ _ hP hS (lv_sub hl [0, 3, 4, 5, 6, 7, 8, 9] rfl)
                exact loop71 (L (12 + j) + 1) (12 + j) 0 x4 (by omega) (by omega) (rfl) (Nat.zero_le _) (hVn) (hfn) _ _ _ hP hS (lv_sub hl [0, 1, 2, 3, 4, 5, 6, 7] rfl)
              · have b33 := qeq_f (a := (chF x10 (12 + j) k)) (b := i) (by omega) (by omega) c18
                have hlt := ch_lt hCL hk b33
                obtain ⟨y1, y2, y3, y4, y5, y6⟩ := hCL.2.2.2.2 k hlt
                have har := arc_of hSn y2 y1 y5
                have hbip : bip (chF x10 (12 + j) (k + 1)) (chF x10 (12 + j) k) := by rcases har with ⟨q1, q2, q3, _⟩ | ⟨q1, q2, q3, _⟩; exact Or.inl ⟨q1, q2, q3⟩; exact Or.inr ⟨q2, q3, q1⟩
                have hb24 : chF x10 (12 + j) (k + 1) < 24 ∧ chF x10 (12 + j) k < 24 := by unfold bip at hbip; omega
                refine lv_iload hx hb dX7_push_36 (lv_at hl 1 rfl) ?_
                refine lv_aload_n hx hb dX7_push_38 rfl (lv_at hl 3 rfl) ?_
                refine lv_aload_n hx hb dX7_push_39 rfl (lv_at hl 3 rfl) ?_
                refine va_get (D := G.1) (ci := 7) (v := .ref (b 22)) (C := RX7) (T := TX7) (N := 43) hx hb hts inX7 hown hK.1 hP 0 rfl rfl 22 (by decide) (hts _ mf_X7_68) (fun _ h9 => h9) rfl dX7_push_40 ?_
                refine lv_iload hx hb dX7_push_43 (lv_at hl 0 rfl) ?_
                refine xiald (f := x10) hx hb hK hP 20 ((chF x10 (12 + j) k)) (rfl) (by omega) (by decide) rfl dX7_push_45 ?_
                refine lv_topi (fun v42 ev42 => ?_)
                obtain rfl : v42 = nI (chF x10 (12 + j) (k + 1)) := ev42.trans (y4)
                refine lv_iload hx hb dX7_push_46 (lv_at hl 0 rfl) ?_
                refine rdV (rest := [.int (nI ee)]) (q0 := 0) ⟨hx, hb, hml, hown, hts⟩ (m_X7_room l G y b f (up2 (up2 (up2 r 15 x4) 22 x10) 23 x11) (chF x10 (12 + j) (k + 1)) (chF x10 (12 + j) k)  hbip) mi_yX7_room mv_yX7_room ml_X7_201 ⟨rfl, rfl, Nat.le_of_ble_eq_true rfl, Nat.le_of_ble_eq_true rfl⟩ hK (hP) rfl rfl rfl hl.1 rfl (Nat.le_of_ble_eq_true rfl) dX7_push_48 ⟨Nat.zero_le _, Nat.zero_le _⟩ hS hA hP (fun r43 H locs hr43 hP hS => ?_)
                obtain rfl := hr43
                refine lv_topi (fun v44 ev44 => ?_)
                obtain rfl : v44 = nI ((resA x10 (12 + j) U Lo Hi) k) := ev44.trans (rm_res hCL hSn hBn hVn hlw hhg hmv hKd hlt)
                have hrs : (resA x10 (12 + j) U Lo Hi) k ≤ 1073741824 := by unfold resA; have h9 := ce_arc hCL hSn hlt; have h8 := hBn _ _ (hKd _ _ h9.2.2.2.1); split <;> omega
                refine va_mmin hx hb (hml.trans hl.1.symm) hown (hts _ ml_X7_207) (hts _ mst_yJ9_min_7cf53) (hts _ mz_RJ9) (hts _ mcode_yJ9_min_7cf53) (Nat.le_of_ble_eq_true rfl) (Nat.le_of_ble_eq_true rfl) (Nat.zero_le _) (Nat.zero_le _) dX7_push_51 ?_
                refine lv_topi (fun v45 ev45 => ?_)
                obtain rfl : v45 = nI (if (resA x10 (12 + j) U Lo Hi) k < ee then (resA x10 (12 + j) U Lo Hi) k else ee) := ev45.trans (min_nI (by omega) (by omega))
                have hmb : (if (resA x10 (12 + j) U Lo Hi) k < ee then (resA x10 (12 + j) U Lo Hi) k else ee) ≤ mo - d := by split <;> omega
                refine lv_istore (lv' := [(6, .int (nI (if (resA x10 (12 + j) U Lo Hi) k < ee then (resA x10 (12 + j) U Lo Hi) k else ee))), (7, .int (nI (chF x10 (12 + j) k))), (5, .int (nI d)), (0, .ref y), (1, .int (nI i)), (2, .int (nI (12 + j))), (3, .int its), (4, .int (nI mo))]) hx hb dX7_push_54 hl (by decide) rfl (fun ls hl => ?_)
                refine lv_aload_n hx hb dX7_push_56 rfl (lv_at hl 3 rfl) ?_
                refine va_get (D := G.1) (ci := 7) (v := .ref (b 22)) (C := RX7) (T := TX7) (N := 43) hx hb hts inX7 hown hK.1 hP 0 rfl rfl 22 (by decide) (hts _ mf_X7_68) (fun _ h9 => h9) rfl dX7_push_57 ?_
                refine lv_iload hx hb dX7_push_60 (lv_at hl 1 rfl) ?_
                refine xiald (f := x10) hx hb hK hP 20 ((chF x10 (12 + j) k)) (rfl) (by omega) (by decide) rfl dX7_push_62 ?_
                refine lv_topi (fun v46 ev46 => ?_)
                obtain rfl : v46 = nI (chF x10 (12 + j) (k + 1)) := ev46.trans (y4)
                refine lv_istore (lv' := [(7, .int (nI (chF x10 (12 + j) (k + 1)))), (6, .int (nI (if (resA x10 (12 + j) U Lo Hi) k < ee then (resA x10 (12 + j) U Lo Hi) k else ee))), (5, .int (nI d)), (0, .ref y), (1, .int (nI i)), (2, .int (nI (12 + j))), (3, .int its), (4, .int (nI mo))]) hx hb dX7_push_63 hl (by decide) rfl (fun ls hl => ?_)
                refine lv_goto (tgt := 30) hx hb dX7_push_65 (by decide) ?_
                exact ih30k14 (chF x10 (12 + j) (k + 1)) (if (resA x10 (12 + j) U Lo Hi) k < ee then (resA x10 (12 + j) U Lo Hi) k else ee) (k + 1) (by omega) (by omega) (by omega) (rfl) (by omega) (by rw [he]; rfl) _ _ _ hP hS (lv_sub hl [0, 1, 2, 3, 4, 5, 6, 7] rfl)
          exact loop30 (L (12 + j) + 1) (12 + j) (mo - d) 0 (by omega) (by omega) (by omega) (rfl) (Nat.zero_le _) (rfl) _ _ _ hP hS (lv_sub hl [0, 1, 2, 3, 4, 5, 6, 7] rfl)
  exact loop3 (mo + 1) 0 V (r 15) (r 22) (r 23) (by omega) (by omega) (rfl) (hAg) (hBd) (rowM_c hnw (fun x y _ _ => upT_id)) (fun _ _ _ _ _ => rfl) _ _ _ hP hS (lv_sub hl [0, 1, 2, 3, 4, 5] rfl)
set_option maxHeartbeats 4000000 in
set_option maxRecDepth 100000 in
theorem n_push_u (l : Launch) (G : GG) (y : Nat) (b : Nat → Nat) (f : Nat → Int32) (r : Nat → Nat → Int32) (a : Nat) (i : Nat) (its : Int32) (mo : Nat) (rw : Nat) (cl : Nat) (j : Nat) (V0 : Nat → Nat → Nat) (V : Nat → Nat → Nat) (Lo : Nat → Nat → Nat) (Hi : Nat → Nat → Nat) (K : Nat → Nat → Bool) (hi : i < 12) (hj : j < 12) (eb : a = 12 + j) (hrw : rw ≤ 12) (hcl : cl ≤ 12) (h20 : (f 20) = nI rw) (h21 : (f 21) = nI cl) (hcj : dmM rw cl (r 18) its i j = true) (hKj : K i j = true) (hKd : ∀ x y, K x y = true → dmM rw cl (r 18) its x y = true) (hmv : ∀ x y, dmM rw cl (r 18) its x y = true → (¬ (r 19) (12 * x + y) = 0 ↔ (K x y = true ∧ ¬ (x = i ∧ y = j)))) (hnw : rowM (dmM rw cl (r 18) its) V (r 15)) (hlw : rowM (dmM rw cl (r 18) its) Lo (r 16)) (hhg : rowM (dmM rw cl (r 18) its) Hi (r 17)) (hBd : BND (dmM rw cl (r 18) its) Lo Hi V) (hAg : agN K Lo Hi V0 V) (hmo : V i j + mo = Hi i j) : WrI l yX7_push cX7_push 10 (some .int) ({ frames := 2, cells := 0, slots := 0, locals := 51 }) G (mM G y b f r) [.ref y, .int (nI a), .int (nI i), .int its, .int (nI mo)] (fun q w => ∃ (n_r_15 : Nat → Int32) (n_r_22 : Nat → Int32) (n_r_23 : Nat → Int32) (d9 : Nat) (U9 : Nat → Nat → Nat), w = mM G y b f (up2 (up2 (up2 r 15 n_r_15) 22 n_r_22) 23 n_r_23) ∧ q = nI d9 ∧ (U9 i j = V i j + d9) ∧ (agN K Lo Hi V0 U9) ∧ (BND (dmM rw cl (r 18) its) Lo Hi U9) ∧ (rowM (dmM rw cl (r 18) its) (upT U9 i j (V i j)) n_r_15) ∧ (∀ x y, x < 12 → y < 12 → dmM rw cl (r 18) its x y = false → n_r_15 (12 * x + y) = (r 15) (12 * x + y)) ∧ (d9 = mo ∨ ∀ w, agN K Lo Hi V0 w → w i j ≤ U9 i j)) := by
  refine wr_entryI (by decide +kernel) (Nat.le_of_ble_eq_true rfl) ?_
  intro p e s m below meth c A C0 hP hK hD hA ls hl
  have hS : va_S A s.heap s.heap [] := va_S.rf
  obtain ⟨hx, hb, hml, hown, hts, hr, hlocks, hin⟩ := C0
  have hown : s.vm.findClass RX7 = some m.cls := hown
  have hDD : ∀ f' r', va_D A (mM G y b f' r') := fun f' r' => D_same hD rfl
  have hl : lv_has ls 10 [(0, .ref y), (1, .int (nI a)), (2, .int (nI i)), (3, .int its), (4, .int (nI mo))] := hl
  subst eb
  have hdo := dmM_of hcj
  have hna : ndM rw cl (r 18) its (12 + j) := Or.inr ⟨by omega, by omega⟩
  have hkk : ∀ x y, x < 12 → y < 12 → K x y = true → ¬ (x = i ∧ y = j) → offT (dmM rw cl (r 18) its) i j x y = true := fun x y _ _ h8 h9 => by rw [offT_n h9]; exact hKd x y h8
  have hBi := hBd i j hcj
  refine lv_iconst (v := 0) hx hb dX7_push_0 (by decide) ?_
  refine lv_istore (lv' := [(5, .int 0), (0, .ref y), (1, .int (nI (12 + j))), (2, .int (nI i)), (3, .int its), (4, .int (nI mo))]) hx hb dX7_push_1 hl (by decide) rfl (fun ls hl => ?_)
  have loop3 : ∀ (k1 : Nat) (d : Nat) (U : Nat → Nat → Nat) (x4 : Nat → Int32) (x5 : Nat → Int32) (x6 : Nat → Int32), mo - d < k1 → (d ≤ mo) → (U i j = V i j + d) → (agN K Lo Hi V0 U) → (BND (dmM rw cl (r 18) its) Lo Hi U) → (rowM (dmM rw cl (r 18) its) (upT U i j (V i j)) x4) → (∀ x y, x < 12 → y < 12 → (dmM rw cl (r 18) its) x y = false → x4 (12 * x + y) = r 15 (12 * x + y)) → ∀ (H : Heap) (locs : List Loc) (ls : Array Slot), PP G (mM G y b f (up2 (up2 (up2 r 15 x4) 22 x5) 23 x6)) H → va_S A s.heap H locs → lv_has ls 10 [(5, .int (nI d)), (0, .ref y), (1, .int (nI (12 + j))), (2, .int (nI i)), (3, .int its), (4, .int (nI mo))] → W p l e ({ frames := 2, cells := 0, slots := 0, locals := 51 }) s m ([.ref y, .int (nI (12 + j)), .int (nI i), .int its, .int (nI mo)] : List Value).toArray below meth c H locs 0 0 (MQ below (QwI G (fun q w => ∃ (n_r_15 : Nat → Int32) (n_r_22 : Nat → Int32) (n_r_23 : Nat → Int32) (d9 : Nat) (U9 : Nat → Nat → Nat), w = mM G y b f (up2 (up2 (up2 r 15 n_r_15) 22 n_r_22) 23 n_r_23) ∧ q = nI d9 ∧ (U9 i j = V i j + d9) ∧ (agN K Lo Hi V0 U9) ∧ (BND (dmM rw cl (r 18) its) Lo Hi U9) ∧ (rowM (dmM rw cl (r 18) its) (upT U9 i j (V i j)) n_r_15) ∧ (∀ x y, x < 12 → y < 12 → dmM rw cl (r 18) its x y = false → n_r_15 (12 * x + y) = (r 15) (12 * x + y)) ∧ (d9 = mo ∨ ∀ w, agN K Lo Hi V0 w → w i j ≤ U9 i j)) A) ([.ref y, .int (nI (12 + j)), .int (nI i), .int its, .int (nI mo)] : List Value).toArray s 0 0 A) (F0 m 3 ls []) := by
    intro k1
    induction k1 with
    | zero => intro d U x4 x5 x6 h1; exact absurd h1 (Nat.not_lt_zero _)
    | succ k1 ih3k1 =>
      intro  d U x4 x5 x6 hm_k1 gd hUd hAn hBn hVn hfn H locs ls hP hS hl
      obtain ⟨st, hSn⟩ := SYN_ex K (offT (dmM rw cl (r 18) its) i j) U Lo Hi
      have hBU := hBn i j hcj
      refine lv_iload hx hb dX7_push_3 (lv_at hl 0 rfl) ?_
      refine lv_iload hx hb dX7_push_5 (lv_at hl 5 rfl) ?_
      refine lv_icmp_ge (tgt := 167) hx hb dX7_push_7 (by decide) (fun c7 => ?_) (fun c7 => ?_)
      · have b7 := qge_t (a := d) (b := mo) (by omega) (by omega) c7
        refine lv_iload hx hb dX7_push_167 (lv_at hl 0 rfl) ?_
        exact wr_iret hx hb hr hlocks hS hP ⟨x4, x5, x6, d, U, rfl, rfl, hUd, hAn, hBn, hVn, hfn, (Or.inl (by omega))⟩ dX7_push_169
      · have b7 := qge_f (a := d) (b := mo) (by omega) (by omega) c7
        refine lv_aload_n hx hb dX7_push_10 rfl (lv_at hl 1 rfl) ?_
        refine lv_iload_n hx hb dX7_push_11 rfl (lv_at hl 2 rfl) ?_
        refine lv_iload_n hx hb dX7_push_12 rfl (lv_at hl 3 rfl) ?_
        refine lv_iload_n hx hb dX7_push_13 rfl (lv_at hl 4 rfl) ?_
        refine wrVIa (rest := []) (q0 := 0) ⟨hx, hb, hml, hown, hts⟩ (n_way l G y b f (up2 (up2 (up2 r 15 x4) 22 x5) 23 x6) (12 + j) i its rw cl st (by omega) (by omega) (by omega) (by omega) (by omega) h20 h21 hna (st_M hSn hBn hVn hlw hhg hmv) (sn_M hSn hKd)) mi_yX7_way mv_yX7_way ml_X7_204 ⟨rfl, rfl, Nat.le_of_ble_eq_true rfl, Nat.le_of_ble_eq_true rfl⟩ hK hP (hDD _ _) rfl rfl rfl hl.1 rfl (Nat.le_of_ble_eq_true rfl) dX7_push_14 ⟨Nat.zero_le _, Nat.zero_le _⟩ hS hA (fun r8 w9 H locs hw9 hP hS => ?_)
        obtain ⟨x10, x11, rfl, hw9r⟩ := hw9
        have hP : PP G (mM G y b f (up2 (up2 (up2 r 15 x4) 22 x10) 23 x11)) H := hP
        have hw9r : ((r8 = 0 ∧ ∃ zz, CLB st (12 + j) i zz) ∨ (r8 = 1 ∧ WAY st (12 + j) i x10)) := hw9r
        refine lv_if_eq (tgt := 167) hx hb dX7_push_17 (by decide) (fun c12 => ?_) (fun c12 => ?_)
        · obtain ⟨-, zz, hclo⟩ := hw9r.resolve_right (fun z9 => absurd (z9.1.symm.trans c12) (by decide))
          refine lv_iload hx hb dX7_push_167 (lv_at hl 0 rfl) ?_
          exact wr_iret hx hb hr hlocks hS hP ⟨x4, x10, x11, d, U, rfl, rfl, hUd, hAn, hBn, hVn, hfn, (Or.inr (fun w9 h9 => clB_hi hi hj hclo hSn hkk (agN_tr hAn h9)))⟩ dX7_push_169
        · have hway := (hw9r.resolve_left (fun z9 => c12 z9.1)).2
          obtain ⟨L, hCL⟩ := CH_of hway (by omega)
          have hL25 := hCL.2.2.1
          refine lv_iload hx hb dX7_push_20 (lv_at hl 5 rfl) ?_
          refine lv_iload hx hb dX7_push_22 (lv_at hl 0 rfl) ?_
          refine lv_isub hx hb dX7_push_24 ?_
          refine lv_topi (fun v13 ev13 => ?_)
          obtain rfl : v13 = nI (mo - d) := nI_minus ev13 rfl rfl (by omega)
          refine lv_istore (lv' := [(6, .int (nI (mo - d))), (5, .int (nI d)), (0, .ref y), (1, .int (nI (12 + j))), (2, .int (nI i)), (3, .int its), (4, .int (nI mo))]) hx hb dX7_push_25 hl (by decide) rfl (fun ls hl => ?_)
          refine lv_iload_n hx hb dX7_push_27 rfl (lv_at hl 4 rfl) ?_
          refine lv_istore (lv' := [(7, .int (nI i)), (6, .int (nI (mo - d))), (5, .int (nI d)), (0, .ref y), (1, .int (nI (12 + j))), (2, .int (nI i)), (3, .int its), (4, .int (nI mo))]) hx hb dX7_push_28 hl (by decide) rfl (fun ls hl => ?_)
          have loop30 : ∀ (k14 : Nat) (y7 : Nat) (ee : Nat) (k : Nat), L i - k < k14 → (y7 < 25) → (ee ≤ mo - d) → (y7 = chF x10 i k) → (k ≤ L i) → (ee = mn2 (mo - d) (resA x10 i U Lo Hi) k) → ∀ (H : Heap) (locs : List Loc) (ls : Array Slot), PP G (mM G y b f (up2 (up2 (up2 r 15 x4) 22 x10) 23 x11)) H → va_S A s.heap H locs → lv_has ls 10 [(7, .int (nI y7)), (6, .int (nI ee)), (5, .int (nI d)), (0, .ref y), (1, .int (nI (12 + j))), (2, .int (nI i)), (3, .int its), (4, .int (nI mo))] → W p l e ({ frames := 2, cells := 0, slots := 0, locals := 51 }) s m ([.ref y, .int (nI (12 + j)), .int (nI i), .int its, .int (nI mo)] : List Value).toArray below meth c H locs 0 0 (MQ below (QwI G (fun q w => ∃ (n_r_15 : Nat → Int32) (n_r_22 : Nat → Int32) (n_r_23 : Nat → Int32) (d9 : Nat) (U9 : Nat → Nat → Nat), w = mM G y b f (up2 (up2 (up2 r 15 n_r_15) 22 n_r_22) 23 n_r_23) ∧ q = nI d9 ∧ (U9 i j = V i j + d9) ∧ (agN K Lo Hi V0 U9) ∧ (BND (dmM rw cl (r 18) its) Lo Hi U9) ∧ (rowM (dmM rw cl (r 18) its) (upT U9 i j (V i j)) n_r_15) ∧ (∀ x y, x < 12 → y < 12 → dmM rw cl (r 18) its x y = false → n_r_15 (12 * x + y) = (r 15) (12 * x + y)) ∧ (d9 = mo ∨ ∀ w, agN K Lo Hi V0 w → w i j ≤ U9 i j)) A) ([.ref y, .int (nI (12 + j)), .int (nI i), .int its, .int (nI mo)] : List Value).toArray s 0 0 A) (F0 m 30 ls []) := by
            intro k14
            induction k14 with
            | zero => intro y7 ee k h1; exact absurd h1 (Nat.not_lt_zero _)
            | succ k14 ih30k14 =>
              intro  y7 ee k hm_k14 gy7 gee hy hk he H locs ls hP hS hl
              subst hy
              refine lv_iload hx hb dX7_push_30 (lv_at hl 0 rfl) ?_
              refine lv_iload_n hx hb dX7_push_32 rfl (lv_at hl 4 rfl) ?_
              refine lv_icmp_eq (tgt := 68) hx hb dX7_push_33 (by decide) (fun c18 => ?_) (fun c18 => ?_)
              · have b33 := qeq_t (a := (chF x10 i k)) (b := (12 + j)) (by omega) (by omega) c18
                have hkL := ch_end hCL hk b33
                have hde : ∀ k9, k9 < L i → ee ≤ (resA x10 i U Lo Hi) k9 := fun k9 h9 => by rw [he, hkL]; exact mn2_all _ k9 h9
                have hep : 0 < ee := by rw [he]; exact mn2_pos (by omega) _ (fun k9 h9 => res_pos hCL hSn (by omega))
                have hel : ee ≤ mo - d := by rw [he]; exact mn2_le _
                refine lv_iload_n hx hb dX7_push_68 rfl (lv_at hl 5 rfl) ?_
                refine lv_istore (lv' := [(7, .int (nI i)), (6, .int (nI ee)), (5, .int (nI d)), (0, .ref y), (1, .int (nI (12 + j))), (2, .int (nI i)), (3, .int its), (4, .int (nI mo))]) hx hb dX7_push_69 hl (by decide) rfl (fun ls hl => ?_)
                have loop71 : ∀ (k19 : Nat) (y7 : Nat) (k : Nat) (x22 : Nat → Int32), L i - k < k19 → (y7 < 25) → (y7 = chF x10 i k) → (k ≤ L i) → (rowM (dmM rw cl (r 18) its) (upT (shT x10 i ee U k) i j (V i j)) x22) → (∀ x y, x < 12 → y < 12 → (dmM rw cl (r 18) its) x y = false → x22 (12 * x + y) = r 15 (12 * x + y)) → ∀ (H : Heap) (locs : List Loc) (ls : Array Slot), PP G (mM G y b f (up2 (up2 (up2 r 15 x22) 22 x10) 23 x11)) H → va_S A s.heap H locs → lv_has ls 10 [(7, .int (nI y7)), (6, .int (nI ee)), (5, .int (nI d)), (0, .ref y), (1, .int (nI (12 + j))), (2, .int (nI i)), (3, .int its), (4, .int (nI mo))] → W p l e ({ frames := 2, cells := 0, slots := 0, locals := 51 }) s m ([.ref y, .int (nI (12 + j)), .int (nI i), .int its, .int (nI mo)] : List Value).toArray below meth c H locs 0 0 (MQ below (QwI G (fun q w => ∃ (n_r_15 : Nat → Int32) (n_r_22 : Nat → Int32) (n_r_23 : Nat → Int32) (d9 : Nat) (U9 : Nat → Nat → Nat), w = mM G y b f (up2 (up2 (up2 r 15 n_r_15) 22 n_r_22) 23 n_r_23) ∧ q = nI d9 ∧ (U9 i j = V i j + d9) ∧ (agN K Lo Hi V0 U9) ∧ (BND (dmM rw cl (r 18) its) Lo Hi U9) ∧ (rowM (dmM rw cl (r 18) its) (upT U9 i j (V i j)) n_r_15) ∧ (∀ x y, x < 12 → y < 12 → dmM rw cl (r 18) its x y = false → n_r_15 (12 * x + y) = (r 15) (12 * x + y)) ∧ (d9 = mo ∨ ∀ w, agN K Lo Hi V0 w → w i j ≤ U9 i j)) A) ([.ref y, .int (nI (12 + j)), .int (nI i), .int its, .int (nI mo)] : List Value).toArray s 0 0 A) (F0 m 71 ls []) := by
                  intro k19
                  induction k19 with
                  | zero => intro y7 k x22 h1; exact absurd h1 (Nat.not_lt_zero _)
                  | succ k19 ih71k19 =>
                    intro  y7 k x22 hm_k19 gy7 hy hk hSh hfs H locs ls hP hS hl
                    subst hy
                    refine lv_iload hx hb dX7_push_71 (lv_at hl 0 rfl) ?_
                    refine lv_iload_n hx hb dX7_push_73 rfl (lv_at hl 4 rfl) ?_
                    refine lv_icmp_eq (tgt := 157) hx hb dX7_push_74 (by decide) (fun c23 => ?_) (fun c23 => ?_)
                    · have b74 := qeq_t (a := (chF x10 i k)) (b := (12 + j)) (by omega) (by omega) c23
                      have hkL := ch_end hCL hk b74
                      have hCt := dr_up hi hj offT_s hKj hCL hSn hde (by omega) hAn
                      have hCb := bndT (i := i) (j := j) (x := U i j + ee) hCL hSn hde (agN_b hAn) hBn (by omega)
                      refine lv_iload hx hb dX7_push_157 (lv_at hl 2 rfl) ?_
                      refine lv_iload hx hb dX7_push_159 (lv_at hl 1 rfl) ?_
                      refine lv_iadd hx hb dX7_push_161 ?_
                      refine lv_topi (fun v24 ev24 => ?_)
                      obtain rfl : v24 = nI (d + ee) := nI_plus ev24 rfl rfl
                      refine lv_istore (lv' := [(5, .int (nI (d + ee))), (7, .int (nI (chF x10 i k))), (6, .int (nI ee)), (0, .ref y), (1, .int (nI (12 + j))), (2, .int (nI i)), (3, .int its), (4, .int (nI mo))]) hx hb dX7_push_162 hl (by decide) rfl (fun ls hl => ?_)
                      refine lv_goto (tgt := 3) hx hb dX7_push_164 (by decide) ?_
                      exact ih3k1 (d + ee) (upT (shT x10 i ee U (L i)) i j (U i j + ee)) x22 x10 x11 (by omega) (by omega) (by rw [upT_s]; omega) (hCt) (hCb) (rowM_c hSh (fun x y _ _ => by rw [← hkL]; exact upT_tw)) (hfs) _ _ _ hP hS (lv_sub hl [0, 3, 4, 5, 6, 7] rfl)
                    · have b74 := qeq_f (a := (chF x10 i k)) (b := (12 + j)) (by omega) (by omega) c23
                      have hlt := ch_lt hCL hk b74
                      obtain ⟨y1, y2, y3, y4, y5, y6⟩ := hCL.2.2.2.2 k hlt
                      have har := arc_of hSn y2 y1 y5
                      have hbip : bip (chF x10 i (k + 1)) (chF x10 i k) := by rcases har with ⟨q1, q2, q3, _⟩ | ⟨q1, q2, q3, _⟩; exact Or.inl ⟨q1, q2, q3⟩; exact Or.inr ⟨q2, q3, q1⟩
                      have hb24 : chF x10 i (k + 1) < 24 ∧ chF x10 i k < 24 := by unfold bip at hbip; omega
                      refine lv_aload_n hx hb dX7_push_77 rfl (lv_at hl 3 rfl) ?_
                      refine va_get (D := G.1) (ci := 7) (v := .ref (b 22)) (C := RX7) (T := TX7) (N := 43) hx hb hts inX7 hown hK.1 hP 0 rfl rfl 22 (by decide) (hts _ mf_X7_68) (fun _ h9 => h9) rfl dX7_push_78 ?_
                      refine lv_iload hx hb dX7_push_81 (lv_at hl 0 rfl) ?_
                      refine xiald (f := x10) hx hb hK hP 20 ((chF x10 i k)) (rfl) (by omega) (by decide) rfl dX7_push_83 ?_
                      refine lv_topi (fun v25 ev25 => ?_)
                      obtain rfl : v25 = nI (chF x10 i (k + 1)) := ev25.trans (y4)
                      refine lv_istore (lv' := [(8, .int (nI (chF x10 i (k + 1)))), (7, .int (nI (chF x10 i k))), (6, .int (nI ee)), (5, .int (nI d)), (0, .ref y), (1, .int (nI (12 + j))), (2, .int (nI i)), (3, .int its), (4, .int (nI mo))]) hx hb dX7_push_84 hl (by decide) rfl (fun ls hl => ?_)
                      refine lv_iload hx hb dX7_push_86 (lv_at hl 0 rfl) ?_
                      refine lv_bipush (v := 12) hx hb dX7_push_88 (by decide) ?_
                      refine lv_icmp_ge (tgt := 107) hx hb dX7_push_90 (by decide) (fun c26 => ?_) (fun c26 => ?_)
                      · have b90 := qge_t (a := (chF x10 i (k + 1))) (b := 12) (by omega) (by omega) c26
                        obtain ⟨ax1, ax2, ax3, ax4, ax5, ax6⟩ := har.resolve_left (fun z9 => absurd z9.1 (by omega))
                        have eR : ceR x10 i k = (chF x10 i k) := if_neg (by omega)
                        have eC : ceC x10 i k = (chF x10 i (k + 1) - 12) := if_neg (by omega)
                        have hdc := hKd _ _ ax5
                        have hne := (on_iff hdc).mp ax4
                        have hbc := hBn _ _ hdc
                        have hfar := shT_far (d := ee) (V := U) k (fun k9 h9 => ce_ne hCL hSn hlt (show k9 < L i by omega) (by omega))
                        rw [eR, eC] at hfar
                        have hre := hde k hlt
                        unfold resA at hre
                        rw [if_neg (by omega), eR, eC] at hre
                        have hsh : shT x10 i ee U (k + 1) = upT (shT x10 i ee U k) (chF x10 i k) (chF x10 i (k + 1) - 12) (shT x10 i ee U k (chF x10 i k) (chF x10 i (k + 1) - 12) - ee) := by show upT _ _ _ _ = _; rw [eR, eC, if_neg (by omega)]
                        refine lv_bipush (v := 12) hx hb dX7_push_107 (by decide) ?_
                        refine lv_iload hx hb dX7_push_109 (lv_at hl 1 rfl) ?_
                        refine lv_imul hx hb dX7_push_111 ?_
                        refine lv_topi (fun v27 ev27 => ?_)
                        obtain rfl : v27 = nI (12 * (chF x10 i k)) := nI_times ev27 rfl rfl
                        refine lv_iload hx hb dX7_push_112 (lv_at hl 0 rfl) ?_
                        refine lv_iadd hx hb dX7_push_114 ?_
                        refine lv_topi (fun v28 ev28 => ?_)
                        obtain rfl : v28 = nI ((12 * (chF x10 i k)) + (chF x10 i (k + 1))) := nI_plus ev28 rfl rfl
                        refine lv_bipush (v := 12) hx hb dX7_push_115 (by decide) ?_
                        refine lv_isub hx hb dX7_push_117 ?_
                        refine lv_topi (fun v29 ev29 => ?_)
                        obtain rfl : v29 = nI (((12 * (chF x10 i k)) + (chF x10 i (k + 1))) - 12) := nI_minus ev29 rfl rfl (by omega)
                        refine lv_istore (lv' := [(9, .int (nI (((12 * (chF x10 i k)) + (chF x10 i (k + 1))) - 12))), (8, .int (nI (chF x10 i (k + 1)))), (7, .int (nI (chF x10 i k))), (6, .int (nI ee)), (5, .int (nI d)), (0, .ref y), (1, .int (nI (12 + j))), (2, .int (nI i)), (3, .int its), (4, .int (nI mo))]) hx hb dX7_push_118 hl (by decide) rfl (fun ls hl => ?_)
                        refine lv_aload_n hx hb dX7_push_120 rfl (lv_at hl 5 rfl) ?_
                        refine va_get (D := G.1) (ci := 7) (v := .ref (b 15)) (C := RX7) (T := TX7) (N := 43) hx hb hts inX7 hown hK.1 hP 0 rfl rfl 15 (by decide) (hts _ mf_X7_53) (fun _ h9 => h9) rfl dX7_push_121 ?_
                        refine lv_iload hx hb dX7_push_124 (lv_at hl 0 rfl) ?_
                        refine lv_dup2_11 hx hb dX7_push_126 rfl rfl ?_
                        refine xiald (f := x22) hx hb hK hP 15 ((((12 * (chF x10 i k)) + (chF x10 i (k + 1))) - 12)) (rfl) (by omega) (by decide) rfl dX7_push_127 ?_
                        refine lv_topi (fun v30 ev30 => ?_)
                        obtain rfl : v30 = nI (shT x10 i ee U k (chF x10 i k) (chF x10 i (k + 1) - 12)) := ev30.trans (rowM_at hSh (by omega) (by omega) hne hdc (by omega))
                        refine lv_iload hx hb dX7_push_128 (lv_at hl 1 rfl) ?_
                        refine lv_bipush (v := 12) hx hb dX7_push_130 (by decide) ?_
                        refine lv_icmp_ge (tgt := 140) hx hb dX7_push_132 (by decide) (fun c31 => ?_) (fun c31 => ?_)
                        · have b132 := qge_t (a := (chF x10 i (k + 1))) (b := 12) (by omega) (by omega) c31
                          refine lv_iload hx hb dX7_push_140 (lv_at hl 3 rfl) ?_
                          refine lv_ineg hx hb dX7_push_142 ?_
                          refine lv_topi (fun v32 ev32 => ?_)
                          refine lv_iadd hx hb dX7_push_143 ?_
                          refine lv_topi (fun v33 ev33 => ?_)
                          obtain rfl : v33 = nI (shT x10 i ee U k (chF x10 i k) (chF x10 i (k + 1) - 12) - ee) := neg_add8 ev32 ev33 (by omega)
                          refine xiast (f := x22) (x := (nI (shT x10 i ee U k (chF x10 i k) (chF x10 i (k + 1) - 12) - ee))) hx hb hK hP (hDD _ _) hS 15 ((((12 * (chF x10 i k)) + (chF x10 i (k + 1))) - 12)) (rfl) (by omega) (by decide) rfl dX7_push_144 (fun H locs hP _ hS => ?_)
                          have hP : PP G (mM G y b f (up2 (up2 (up2 r 15 (upd x22 ((((12 * (chF x10 i k)) + (chF x10 i (k + 1))) - 12)) ((nI (shT x10 i ee U k (chF x10 i k) (chF x10 i (k + 1) - 12) - ee))))) 22 x10) 23 x11)) H := hP
                          refine lv_aload_n hx hb dX7_push_145 rfl (lv_at hl 5 rfl) ?_
                          refine va_get (D := G.1) (ci := 7) (v := .ref (b 22)) (C := RX7) (T := TX7) (N := 43) hx hb hts inX7 hown hK.1 hP 0 rfl rfl 22 (by decide) (hts _ mf_X7_68) (fun _ h9 => h9) rfl dX7_push_146 ?_
                          refine lv_iload hx hb dX7_push_149 (lv_at hl 2 rfl) ?_
                          refine xiald (f := x10) hx hb hK hP 20 ((chF x10 i k)) (rfl) (by omega) (by decide) rfl dX7_push_151 ?_
                          refine lv_topi (fun v34 ev34 => ?_)
                          obtain rfl : v34 = nI (chF x10 i (k + 1)) := ev34.trans (y4)
                          refine lv_istore (lv' := [(7, .int (nI (chF x10 i (k + 1)))), (9, .int (nI (((12 * (chF x10 i k)) + (chF x10 i (k + 1))) - 12))), (8, .int (nI (chF x10 i (k + 1)))), (6, .int (nI ee)), (5, .int (nI d)), (0, .ref y), (1, .int (nI (12 + j))), (2, .int (nI i)), (3, .int its), (4, .int (nI mo))]) hx hb dX7_push_152 hl (by decide) rfl (fun ls hl => ?_)
                          refine lv_goto (tgt := 71) hx hb dX7_push_154 (by decide) ?_
                          exact ih71k19 (chF x10 i (k + 1)) (k + 1) (upd x22 ((((12 * (chF x10 i k)) + (chF x10 i (k + 1))) - 12)) ((nI (shT x10 i ee U k (chF x10 i k) (chF x10 i (k + 1) - 12) - ee)))) (by omega) (by omega) (rfl) (by omega) (by rw [hsh]; exact rowM_sh hSh (by omega) hne (by omega)) (rowM_f hfs hdc (by omega) (by omega)) _ _ _ hP hS (lv_sub hl [0, 3, 4, 5, 6, 7, 8, 9] rfl)
                        · have b132 := qge_f (a := (chF x10 i (k + 1))) (b := 12) (by omega) (by omega) c31
                          exact absurd b132 (by omega)
                      · have b90 := qge_f (a := (chF x10 i (k + 1))) (b := 12) (by omega) (by omega) c26
                        obtain ⟨ax1, ax2, ax3, ax4, ax5, ax6⟩ := har.resolve_right (fun z9 => absurd z9.2.1 (by omega))
                        have eR : ceR x10 i k = (chF x10 i (k + 1)) := if_pos (by omega)
                        have eC : ceC x10 i k = (chF x10 i k - 12) := if_pos (by omega)
                        have hdc := hKd _ _ ax5
                        have hne := (on_iff hdc).mp ax4
                        have hbc := hBn _ _ hdc
                        have hfar := shT_far (d := ee) (V := U) k (fun k9 h9 => ce_ne hCL hSn hlt (show k9 < L i by omega) (by omega))
                        rw [eR, eC] at hfar
                        have hre := hde k hlt
                        unfold resA at hre
                        rw [if_pos (by omega), eR, eC] at hre
                        have hsh : shT x10 i ee U (k + 1) = upT (shT x10 i ee U k) (chF x10 i (k + 1)) (chF x10 i k - 12) (shT x10 i ee U k (chF x10 i (k + 1)) (chF x10 i k - 12) + ee) := by show upT _ _ _ _ = _; rw [eR, eC, if_pos (by omega)]
                        refine lv_bipush (v := 12) hx hb dX7_push_93 (by decide) ?_
                        refine lv_iload hx hb dX7_push_95 (lv_at hl 0 rfl) ?_
                        refine lv_imul hx hb dX7_push_97 ?_
                        refine lv_topi (fun v35 ev35 => ?_)
                        obtain rfl : v35 = nI (12 * (chF x10 i (k + 1))) := nI_times ev35 rfl rfl
                        refine lv_iload hx hb dX7_push_98 (lv_at hl 1 rfl) ?_
                        refine lv_iadd hx hb dX7_push_100 ?_
                        refine lv_topi (fun v36 ev36 => ?_)
                        obtain rfl : v36 = nI ((12 * (chF x10 i (k + 1))) + (chF x10 i k)) := nI_plus ev36 rfl rfl
                        refine lv_bipush (v := 12) hx hb dX7_push_101 (by decide) ?_
                        refine lv_isub hx hb dX7_push_103 ?_
                        refine lv_topi (fun v37 ev37 => ?_)
                        obtain rfl : v37 = nI (((12 * (chF x10 i (k + 1))) + (chF x10 i k)) - 12) := nI_minus ev37 rfl rfl (by omega)
                        refine lv_goto (tgt := 118) hx hb dX7_push_104 (by decide) ?_
                        refine lv_istore (lv' := [(9, .int (nI (((12 * (chF x10 i (k + 1))) + (chF x10 i k)) - 12))), (8, .int (nI (chF x10 i (k + 1)))), (7, .int (nI (chF x10 i k))), (6, .int (nI ee)), (5, .int (nI d)), (0, .ref y), (1, .int (nI (12 + j))), (2, .int (nI i)), (3, .int its), (4, .int (nI mo))]) hx hb dX7_push_118 hl (by decide) rfl (fun ls hl => ?_)
                        refine lv_aload_n hx hb dX7_push_120 rfl (lv_at hl 5 rfl) ?_
                        refine va_get (D := G.1) (ci := 7) (v := .ref (b 15)) (C := RX7) (T := TX7) (N := 43) hx hb hts inX7 hown hK.1 hP 0 rfl rfl 15 (by decide) (hts _ mf_X7_53) (fun _ h9 => h9) rfl dX7_push_121 ?_
                        refine lv_iload hx hb dX7_push_124 (lv_at hl 0 rfl) ?_
                        refine lv_dup2_11 hx hb dX7_push_126 rfl rfl ?_
                        refine xiald (f := x22) hx hb hK hP 15 ((((12 * (chF x10 i (k + 1))) + (chF x10 i k)) - 12)) (rfl) (by omega) (by decide) rfl dX7_push_127 ?_
                        refine lv_topi (fun v38 ev38 => ?_)
                        obtain rfl : v38 = nI (shT x10 i ee U k (chF x10 i (k + 1)) (chF x10 i k - 12)) := ev38.trans (rowM_at hSh (by omega) (by omega) hne hdc (by omega))
                        refine lv_iload hx hb dX7_push_128 (lv_at hl 1 rfl) ?_
                        refine lv_bipush (v := 12) hx hb dX7_push_130 (by decide) ?_
                        refine lv_icmp_ge (tgt := 140) hx hb dX7_push_132 (by decide) (fun c39 => ?_) (fun c39 => ?_)
                        · have b132 := qge_t (a := (chF x10 i (k + 1))) (b := 12) (by omega) (by omega) c39
                          exact absurd b132 (by omega)
                        · have b132 := qge_f (a := (chF x10 i (k + 1))) (b := 12) (by omega) (by omega) c39
                          refine lv_iload hx hb dX7_push_135 (lv_at hl 3 rfl) ?_
                          refine lv_goto (tgt := 143) hx hb dX7_push_137 (by decide) ?_
                          refine lv_iadd hx hb dX7_push_143 ?_
                          refine lv_topi (fun v40 ev40 => ?_)
                          obtain rfl : v40 = nI ((shT x10 i ee U k (chF x10 i (k + 1)) (chF x10 i k - 12)) + ee) := nI_plus ev40 rfl rfl
                          refine xiast (f := x22) (x := (nI ((shT x10 i ee U k (chF x10 i (k + 1)) (chF x10 i k - 12)) + ee))) hx hb hK hP (hDD _ _) hS 15 ((((12 * (chF x10 i (k + 1))) + (chF x10 i k)) - 12)) (rfl) (by omega) (by decide) rfl dX7_push_144 (fun H locs hP _ hS => ?_)
                          have hP : PP G (mM G y b f (up2 (up2 (up2 r 15 (upd x22 ((((12 * (chF x10 i (k + 1))) + (chF x10 i k)) - 12)) ((nI ((shT x10 i ee U k (chF x10 i (k + 1)) (chF x10 i k - 12)) + ee))))) 22 x10) 23 x11)) H := hP
                          refine lv_aload_n hx hb dX7_push_145 rfl (lv_at hl 5 rfl) ?_
                          refine va_get (D := G.1) (ci := 7) (v := .ref (b 22)) (C := RX7) (T := TX7) (N := 43) hx hb hts inX7 hown hK.1 hP 0 rfl rfl 22 (by decide) (hts _ mf_X7_68) (fun _ h9 => h9) rfl dX7_push_146 ?_
                          refine lv_iload hx hb dX7_push_149 (lv_at hl 2 rfl) ?_
                          refine xiald (f := x10) hx hb hK hP 20 ((chF x10 i k)) (rfl) (by omega) (by decide) rfl dX7_push_151 ?_
                          refine lv_topi (fun v41 ev41 => ?_)
                          obtain rfl : v41 = nI (chF x10 i (k + 1)) := ev41.trans (y4)
                          refine lv_istore (lv' := [(7, .int (nI (chF x10 i (k + 1)))), (9, .int (nI (((12 * (chF x10 i (k + 1))) + (chF x10 i k)) - 12))), (8, .int (nI (chF x10 i (k + 1)))), (6, .int (nI ee)), (5, .int (nI d)), (0, .ref y), (1, .int (nI (12 + j))), (2, .int (nI i)), (3, .int its), (4, .int (nI mo))]) hx hb dX7_push_152 hl (by decide) rfl (fun ls hl => ?_)
                          refine lv_goto (tgt := 71) hx hb dX7_push_154 (by decide) ?_
                          exact ih71k19 (chF x10 i (k + 1)) (k + 1) (upd x22 ((((12 * (chF x10 i (k + 1))) + (chF x10 i k)) - 12)) ((nI ((shT x10 i ee U k (chF x10 i (k + 1)) (chF x10 i k - 12)) + ee)))) (by omega) (by omega) (rfl) (by omega) (by rw [hsh]; exact rowM_sh hSh (by omega) hne (by omega)) (rowM_f hfs hdc (by omega) (by omega)) _ _ _ hP hS (lv_sub hl [0, 3, 4, 5, 6, 7, 8, 9] rfl)
                exact loop71 (L i + 1) i 0 x4 (by omega) (by omega) (rfl) (Nat.zero_le _) (hVn) (hfn) _ _ _ hP hS (lv_sub hl [0, 1, 2, 3, 4, 5, 6, 7] rfl)
              · have b33 := qeq_f (a := (chF x10 i k)) (b := (12 + j)) (by omega) (by omega) c18
                have hlt := ch_lt hCL hk b33
                obtain ⟨y1, y2, y3, y4, y5, y6⟩ := hCL.2.2.2.2 k hlt
                have har := arc_of hSn y2 y1 y5
                have hbip : bip (chF x10 i (k + 1)) (chF x10 i k) := by rcases har with ⟨q1, q2, q3, _⟩ | ⟨q1, q2, q3, _⟩; exact Or.inl ⟨q1, q2, q3⟩; exact Or.inr ⟨q2, q3, q1⟩
                have hb24 : chF x10 i (k + 1) < 24 ∧ chF x10 i k < 24 := by unfold bip at hbip; omega
                refine lv_iload hx hb dX7_push_36 (lv_at hl 1 rfl) ?_
                refine lv_aload_n hx hb dX7_push_38 rfl (lv_at hl 3 rfl) ?_
                refine lv_aload_n hx hb dX7_push_39 rfl (lv_at hl 3 rfl) ?_
                refine va_get (D := G.1) (ci := 7) (v := .ref (b 22)) (C := RX7) (T := TX7) (N := 43) hx hb hts inX7 hown hK.1 hP 0 rfl rfl 22 (by decide) (hts _ mf_X7_68) (fun _ h9 => h9) rfl dX7_push_40 ?_
                refine lv_iload hx hb dX7_push_43 (lv_at hl 0 rfl) ?_
                refine xiald (f := x10) hx hb hK hP 20 ((chF x10 i k)) (rfl) (by omega) (by decide) rfl dX7_push_45 ?_
                refine lv_topi (fun v42 ev42 => ?_)
                obtain rfl : v42 = nI (chF x10 i (k + 1)) := ev42.trans (y4)
                refine lv_iload hx hb dX7_push_46 (lv_at hl 0 rfl) ?_
                refine rdV (rest := [.int (nI ee)]) (q0 := 0) ⟨hx, hb, hml, hown, hts⟩ (m_X7_room l G y b f (up2 (up2 (up2 r 15 x4) 22 x10) 23 x11) (chF x10 i (k + 1)) (chF x10 i k)  hbip) mi_yX7_room mv_yX7_room ml_X7_201 ⟨rfl, rfl, Nat.le_of_ble_eq_true rfl, Nat.le_of_ble_eq_true rfl⟩ hK (hP) rfl rfl rfl hl.1 rfl (Nat.le_of_ble_eq_true rfl) dX7_push_48 ⟨Nat.zero_le _, Nat.zero_le _⟩ hS hA hP (fun r43 H locs hr43 hP hS => ?_)
                obtain rfl := hr43
                refine lv_topi (fun v44 ev44 => ?_)
                obtain rfl : v44 = nI ((resA x10 i U Lo Hi) k) := ev44.trans (rm_res hCL hSn hBn hVn hlw hhg hmv hKd hlt)
                have hrs : (resA x10 i U Lo Hi) k ≤ 1073741824 := by unfold resA; have h9 := ce_arc hCL hSn hlt; have h8 := hBn _ _ (hKd _ _ h9.2.2.2.1); split <;> omega
                refine va_mmin hx hb (hml.trans hl.1.symm) hown (hts _ ml_X7_207) (hts _ mst_yJ9_min_7cf53) (hts _ mz_RJ9) (hts _ mcode_yJ9_min_7cf53) (Nat.le_of_ble_eq_true rfl) (Nat.le_of_ble_eq_true rfl) (Nat.zero_le _) (Nat.zero_le _) dX7_push_51 ?_
                refine lv_topi (fun v45 ev45 => ?_)
                obtain rfl : v45 = nI (if (resA x10 i U Lo Hi) k < ee then (resA x10 i U Lo Hi) k else ee) := ev45.trans (min_nI (by omega) (by omega))
                have hmb : (if (resA x10 i U Lo Hi) k < ee then (resA x10 i U Lo Hi) k else ee) ≤ mo - d := by split <;> omega
                refine lv_istore (lv' := [(6, .int (nI (if (resA x10 i U Lo Hi) k < ee then (resA x10 i U Lo Hi) k else ee))), (7, .int (nI (chF x10 i k))), (5, .int (nI d)), (0, .ref y), (1, .int (nI (12 + j))), (2, .int (nI i)), (3, .int its), (4, .int (nI mo))]) hx hb dX7_push_54 hl (by decide) rfl (fun ls hl => ?_)
                refine lv_aload_n hx hb dX7_push_56 rfl (lv_at hl 3 rfl) ?_
                refine va_get (D := G.1) (ci := 7) (v := .ref (b 22)) (C := RX7) (T := TX7) (N := 43) hx hb hts inX7 hown hK.1 hP 0 rfl rfl 22 (by decide) (hts _ mf_X7_68) (fun _ h9 => h9) rfl dX7_push_57 ?_
                refine lv_iload hx hb dX7_push_60 (lv_at hl 1 rfl) ?_
                refine xiald (f := x10) hx hb hK hP 20 ((chF x10 i k)) (rfl) (by omega) (by decide) rfl dX7_push_62 ?_
                refine lv_topi (fun v46 ev46 => ?_)
                obtain rfl : v46 = nI (chF x10 i (k + 1)) := ev46.trans (y4)
                refine lv_istore (lv' := [(7, .int (nI (chF x10 i (k + 1)))), (6, .int (nI (if (resA x10 i U Lo Hi) k < ee then (resA x10 i U Lo Hi) k else ee))), (5, .int (nI d)), (0, .ref y), (1, .int (nI (12 + j))), (2, .int (nI i)), (3, .int its), (4, .int (nI mo))]) hx hb dX7_push_63 hl (by decide) rfl (fun ls hl => ?_)
                refine lv_goto (tgt := 30) hx hb dX7_push_65 (by decide) ?_
                exact ih30k14 (chF x10 i (k + 1)) (if (resA x10 i U Lo Hi) k < ee then (resA x10 i U Lo Hi) k else ee) (k + 1) (by omega) (by omega) (by omega) (rfl) (by omega) (by rw [he]; rfl) _ _ _ hP hS (lv_sub hl [0, 1, 2, 3, 4, 5, 6, 7] rfl)
          exact loop30 (L i + 1) i (mo - d) 0 (by omega) (by omega) (by omega) (rfl) (Nat.zero_le _) (rfl) _ _ _ hP hS (lv_sub hl [0, 1, 2, 3, 4, 5, 6, 7] rfl)
  exact loop3 (mo + 1) 0 V (r 15) (r 22) (r 23) (by omega) (by omega) (rfl) (hAg) (hBd) (rowM_c hnw (fun x y _ _ => upT_id)) (fun _ _ _ _ _ => rfl) _ _ _ hP hS (lv_sub hl [0, 1, 2, 3, 4, 5] rfl)
