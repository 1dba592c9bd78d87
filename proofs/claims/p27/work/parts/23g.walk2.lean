
abbrev w2 (G : GG) (a : Nat → Nat) (rf : Nat → Int32) (q : Nat → Nat → Int32) : va_W := [((a 3), .inr (5, [.ref (a 0), .ref (a 1), .ref (a 2), .int (rf 3)])), ((a 0), .inl (G.2.1, 25, .inl (q 0))), ((a 1), .inl (G.2.1, 25, .inl (q 1))), ((a 2), .inl (G.2.1, 25, .inl (q 2)))]
theorem b_not {x : Int32} {i : Nat} (hi : i < 32) : bt (x ^^^ (-1)) i = !bt x i := by
  rw [b_xor, b_m1 i hi]; cases bt x i <;> rfl
theorem fr_bit {x rc fr n : Int32} {v : Nat} (hv : v < 25) (e : fr = x &&& n) (e2 : n = rc ^^^ (-1)) : bt fr v = (bt x v && !bt rc v) := by
  rw [e, b_and, e2, b_not (by omega)]
theorem an_0 {x m : Int32} {v : Nat} (h : x &&& m = 0) (hm : bt m v = true) : bt x v = false := by
  have e := congrArg (fun z => bt z v) h
  simp only [b_and, b_0, hm, Bool.and_true] at e
  exact e
theorem b_4095 : ∀ v, v < 12 → bt 4095 v = true := by decide +kernel
theorem sh_0 {x : Int32} {o v : Nat} (ho : o < 25) (h : x >>> (nI o &&& 31) = 0) (h1 : o ≤ v) (h2 : v < 25) : bt x v = false := by
  have e := congrArg (fun z => bt z (v - o)) h
  simp only [b_0] at e
  rw [b_sshr o (by omega) x (by omega), if_pos (by omega), show o + (v - o) = v by omega] at e
  exact e
theorem bit_no {x : Int32} {o : Nat} (ho : o < 25) (h : (x >>> (nI o &&& 31)) &&& 1 = 0) : bt x o = false := by
  have e := congrArg (fun z => bt z 0) h
  simp only [b_and, b_0] at e
  rw [b_sshr o (by omega) x (by omega), if_pos (by omega), b_1 0 (by omega), Nat.add_zero] at e
  simpa using e
theorem RR_0 {rc fr : Int32} {o v : Nat} (h : ∀ v, v < o → bt fr v = false) : (bt rc v || (bt fr v && decide (v < o))) = bt rc v := by
  by_cases c : v < o
  · rw [h v c]; simp
  · rw [decide_eq_false c]; simp
theorem RR_n {rc fr : Int32} {o v : Nat} (h : bt fr o = false) : (bt rc v || (bt fr v && decide (v < o + 1))) = (bt rc v || (bt fr v && decide (v < o))) := by
  by_cases c : v = o
  · subst c; rw [h]; simp
  · by_cases d : v < o
    · rw [decide_eq_true d, decide_eq_true (show v < o + 1 by omega)]
    · rw [decide_eq_false d, decide_eq_false (show ¬ v < o + 1 by omega)]
theorem RR_s {rc fr : Int32} {o v : Nat} (h : bt fr o = true) : (bt rc v || (bt fr v && decide (v < o + 1))) = ((bt rc v || (bt fr v && decide (v < o))) || decide (v = o)) := by
  by_cases c : v = o
  · subst c; rw [h, decide_eq_true (show v < v + 1 by omega), decide_eq_true (rfl : v = v)]; simp
  · rw [decide_eq_false c, Bool.or_false]
    by_cases d : v < o
    · rw [decide_eq_true d, decide_eq_true (show v < o + 1 by omega)]
    · rw [decide_eq_false d, decide_eq_false (show ¬ v < o + 1 by omega)]
theorem RR_e {rc fr r2 : Int32} {o v : Nat} (e : r2 = rc ||| fr) (h : o ≤ v → bt fr v = false) : bt r2 v = (bt rc v || (bt fr v && decide (v < o))) := by
  rw [e, b_or]
  by_cases c : v < o
  · rw [decide_eq_true c]; simp
  · rw [h (by omega)]; simp
theorem RR_o {rc fr : Int32} {o : Nat} (h : bt rc o = false) : (bt rc o || (bt fr o && decide (o < o))) = false := by
  rw [h, decide_eq_false (Nat.lt_irrefl o)]; simp
theorem and_l {a b : Bool} (h : (a && !b) = true) : a = true ∧ b = false := by cases a <;> cases b <;> simp_all
set_option maxHeartbeats 4000000 in
set_option maxRecDepth 100000 in
theorem e_X5_leads (l : Launch) (G : GG) (a : Nat → Nat) (rf : Nat → Int32) (q : Nat → Nat → Int32) (u0 : Nat) (t0 : Nat) (hu : u0 < 25) (ht : t0 < 25) : WrI l yX5_leads cX5_leads 10 (some .boolean) ({ frames := 0, cells := 0, slots := 0, locals := 0 }) G (w2 G a rf q) [.ref (a 3), .int (nI u0), .int (nI t0)] (fun qz w => ∃ (n_q_1 : Nat → Int32) (n_q_2 : Nat → Int32) (n_rf_3 : Int32), w = w2 G a (upd rf 3 n_rf_3) (up2 (up2 q 1 n_q_1) 2 n_q_2) ∧ ((qz = 0 ∧ CLO (q 0) u0 t0 n_rf_3) ∨ (qz = 1 ∧ WAY (q 0) u0 t0 n_q_1))) := by
  refine wr_entryI (by decide +kernel) (Nat.le_of_ble_eq_true rfl) ?_
  intro p e s m below meth c A C0 hP hK hD hA ls hl
  have hS : va_S A s.heap s.heap [] := va_S.rf
  obtain ⟨hx, hb, hml, hown, hts, hr, hlocks, hin⟩ := C0
  have hown : s.vm.findClass RX5 = some m.cls := hown
  have hDD : ∀ rf' q', va_D A (w2 G a rf' q') := fun rf' q' => D_same hD rfl
  have hl : lv_has ls 10 [(0, .ref (a 3)), (1, .int (nI u0)), (2, .int (nI t0))] := hl
  refine lv_iconst (v := 1) hx hb dX5_leads_0 (by decide) ?_
  refine lv_iload_n hx hb dX5_leads_1 rfl (lv_at hl 2 rfl) ?_
  refine lv_ishl hx hb dX5_leads_2 ?_
  refine lv_topi (fun v1 ev1 => ?_)
  refine lv_istore_n (lv' := [(3, .int v1), (0, .ref (a 3)), (1, .int (nI u0)), (2, .int (nI t0))]) hx hb dX5_leads_3 rfl hl (by decide) rfl (fun ls hl => ?_)
  refine lv_aload_n hx hb dX5_leads_4 rfl (lv_at hl 1 rfl) ?_
  refine lv_iconst (v := 1) hx hb dX5_leads_5 (by decide) ?_
  refine lv_iload_n hx hb dX5_leads_6 rfl (lv_at hl 2 rfl) ?_
  refine lv_ishl hx hb dX5_leads_7 ?_
  refine lv_topi (fun v2 ev2 => ?_)
  refine va_put (D := G.1) (ci := 5) (v := .int v2) (C := RX5) (T := TX5) (N := 4) hx hb hts inX5 tyX5 tyX5_ok nmX5 hown hK.1 hP (hDD _ _) hS 0 rfl rfl 3 (by decide) (hts _ mf_X5_21) (fun _ h9 => h9) rfl (tyX5_ok 3 (by decide)) (rfl) (rfl) (Nat.le_of_ble_eq_true rfl) dX5_leads_8 (fun H locs hP _ hS => ?_)
  have hP : PP G (w2 G a (upd rf 3 v2) q) H := hP
  refine lv_aload_n hx hb dX5_leads_11 rfl (lv_at hl 1 rfl) ?_
  refine va_get (D := G.1) (ci := 5) (v := .ref (a 2)) (C := RX5) (T := TX5) (N := 4) hx hb hts inX5 hown hK.1 hP 0 rfl rfl 2 (by decide) (hts _ mf_X5_18) (fun _ h9 => h9) rfl dX5_leads_12 ?_
  refine lv_iconst (v := 0) hx hb dX5_leads_15 (by decide) ?_
  refine lv_iload_n hx hb dX5_leads_16 rfl (lv_at hl 2 rfl) ?_
  refine xiast (f := (q 2)) (x := (nI u0)) hx hb hK hP (hDD _ _) hS 3 (0) (rfl) (by omega) (by decide) rfl dX5_leads_17 (fun H locs hP _ hS => ?_)
  have hP : PP G (w2 G a (upd rf 3 v2) (up2 q 2 (upd (q 2) (0) ((nI u0))))) H := hP
  refine lv_iconst (v := 1) hx hb dX5_leads_18 (by decide) ?_
  refine lv_istore (lv' := [(4, .int 1), (3, .int v1), (0, .ref (a 3)), (1, .int (nI u0)), (2, .int (nI t0))]) hx hb dX5_leads_19 hl (by decide) rfl (fun ls hl => ?_)
  refine lv_iconst (v := 0) hx hb dX5_leads_21 (by decide) ?_
  refine lv_istore (lv' := [(5, .int 0), (4, .int 1), (3, .int v1), (0, .ref (a 3)), (1, .int (nI u0)), (2, .int (nI t0))]) hx hb dX5_leads_22 hl (by decide) rfl (fun ls hl => ?_)
  have loop24 : ∀ (k3 n : Nat) (fl : Nat) (lev : Nat → Nat) (x5 : Nat → Int32) (x6 : Nat → Int32) (x7 : Int32), n ≤ 25 → 25 < n + k3 → (fl ≤ 25) → (BI (q 0) u0 t0 x5 x6 (bt x7) lev n fl) → ∀ (H : Heap) (locs : List Loc) (ls : Array Slot), PP G (w2 G a (upd rf 3 x7) (up2 (up2 q 1 x5) 2 x6)) H → va_S A s.heap H locs → lv_has ls 10 [(5, .int (nI n)), (4, .int (nI fl)), (3, .int v1), (0, .ref (a 3)), (2, .int (nI t0))] → W p l e ({ frames := 0, cells := 0, slots := 0, locals := 0 }) s m ([.ref (a 3), .int (nI u0), .int (nI t0)] : List Value).toArray below meth c H locs 0 0 (MQ below (QwI G (fun qz w => ∃ (n_q_1 : Nat → Int32) (n_q_2 : Nat → Int32) (n_rf_3 : Int32), w = w2 G a (upd rf 3 n_rf_3) (up2 (up2 q 1 n_q_1) 2 n_q_2) ∧ ((qz = 0 ∧ CLO (q 0) u0 t0 n_rf_3) ∨ (qz = 1 ∧ WAY (q 0) u0 t0 n_q_1))) A) ([.ref (a 3), .int (nI u0), .int (nI t0)] : List Value).toArray s 0 0 A) (F0 m 24 ls []) := by
    intro k3
    induction k3 with
    | zero => intro n fl lev x5 x6 x7 h1 h2; exact absurd h1 (by omega)
    | succ k3 ih24k3 =>
      intro n fl lev x5 x6 x7 hi_n hk_n gfl hI H locs ls hP hS hl
      refine lv_iload hx hb dX5_leads_24 (lv_at hl 0 rfl) ?_
      refine lv_iload hx hb dX5_leads_26 (lv_at hl 1 rfl) ?_
      refine lv_icmp_ge (tgt := 177) hx hb dX5_leads_28 (by decide) (fun c8 => ?_) (fun c8 => ?_)
      · have b28 := qge_t (a := n) (b := fl) (by omega) (by omega) c8
        refine lv_iconst (v := 0) hx hb dX5_leads_177 (by decide) ?_
        exact wr_zret hx hb hr hlocks (Or.inl rfl) hS hP ⟨x5, x6, x7, rfl, Or.inl ⟨rfl, BI_clo hI (by omega)⟩⟩ dX5_leads_178
      · have b28 := qge_f (a := n) (b := fl) (by omega) (by omega) c8
        refine lv_iload hx hb dX5_leads_31 (lv_at hl 0 rfl) ?_
        refine lv_bipush (v := 25) hx hb dX5_leads_33 (by decide) ?_
        refine lv_icmp_ge (tgt := 177) hx hb dX5_leads_35 (by decide) (fun c9 => ?_) (fun c9 => ?_)
        · have b35 := qge_t (a := n) (b := 25) (by omega) (by omega) c9
          refine lv_iconst (v := 0) hx hb dX5_leads_177 (by decide) ?_
          exact wr_zret hx hb hr hlocks (Or.inl rfl) hS hP ⟨x5, x6, x7, rfl, Or.inl ⟨rfl, BI_clo hI (by omega)⟩⟩ dX5_leads_178
        · have b35 := qge_f (a := n) (b := 25) (by omega) (by omega) c9
          refine lv_aload_n hx hb dX5_leads_38 rfl (lv_at hl 3 rfl) ?_
          refine va_get (D := G.1) (ci := 5) (v := .ref (a 2)) (C := RX5) (T := TX5) (N := 4) hx hb hts inX5 hown hK.1 hP 0 rfl rfl 2 (by decide) (hts _ mf_X5_18) (fun _ h9 => h9) rfl dX5_leads_39 ?_
          refine lv_iload hx hb dX5_leads_42 (lv_at hl 0 rfl) ?_
          refine xiald (f := x6) hx hb hK hP 3 (n) (rfl) (by omega) (by decide) rfl dX5_leads_44 ?_
          refine lv_topi (fun v10 ev10 => ?_)
          obtain ⟨nd, hnd, end_, hRnd, -⟩ := hI.1 n (by omega)
          obtain rfl : v10 = nI (nd) := ev10.trans (end_)
          refine lv_istore (lv' := [(6, .int (nI (nd))), (5, .int (nI n)), (4, .int (nI fl)), (3, .int v1), (0, .ref (a 3)), (2, .int (nI t0))]) hx hb dX5_leads_45 hl (by decide) rfl (fun ls hl => ?_)
          refine lv_aload_n hx hb dX5_leads_47 rfl (lv_at hl 4 rfl) ?_
          refine va_get (D := G.1) (ci := 5) (v := .ref (a 0)) (C := RX5) (T := TX5) (N := 4) hx hb hts inX5 hown hK.1 hP 0 rfl rfl 0 (by decide) (hts _ mf_X5_9) (fun _ h9 => h9) rfl dX5_leads_48 ?_
          refine lv_iload hx hb dX5_leads_51 (lv_at hl 0 rfl) ?_
          refine xiald (f := (q 0)) hx hb hK hP 1 ((nd)) (rfl) (by omega) (by decide) rfl dX5_leads_53 ?_
          refine lv_topi (fun v11 ev11 => ?_)
          refine lv_aload_n hx hb dX5_leads_54 rfl (lv_at hl 4 rfl) ?_
          refine va_get (D := G.1) (ci := 5) (v := .int x7) (C := RX5) (T := TX5) (N := 4) hx hb hts inX5 hown hK.1 hP 0 rfl rfl 3 (by decide) (hts _ mf_X5_21) (fun _ h9 => h9) rfl dX5_leads_55 ?_
          refine lv_iconst (v := -1) hx hb dX5_leads_58 (by decide) ?_
          refine lv_ixor hx hb dX5_leads_59 ?_
          refine lv_topi (fun v12 ev12 => ?_)
          refine lv_iand hx hb dX5_leads_60 ?_
          refine lv_topi (fun v13 ev13 => ?_)
          refine lv_istore (lv' := [(7, .int v13), (6, .int (nI (nd))), (5, .int (nI n)), (4, .int (nI fl)), (3, .int v1), (0, .ref (a 3)), (2, .int (nI t0))]) hx hb dX5_leads_61 hl (by decide) rfl (fun ls hl => ?_)
          refine lv_iload hx hb dX5_leads_63 (lv_at hl 0 rfl) ?_
          refine lv_iload_n hx hb dX5_leads_65 rfl (lv_at hl 4 rfl) ?_
          refine lv_iand hx hb dX5_leads_66 ?_
          refine lv_topi (fun v14 ev14 => ?_)
          refine lv_if_eq (tgt := 80) hx hb dX5_leads_67 (by decide) (fun c15 => ?_) (fun c15 => ?_)
          · have hfn : bt v13 t0 = false := an_0 (m := v1) (by rw [← ev14]; exact c15) (by rw [ev1, b_sh1 (by omega) (by omega)]; exact decide_eq_true rfl)
            refine lv_aload_n hx hb dX5_leads_80 rfl (lv_at hl 5 rfl) ?_
            refine lv_dup hx hb dX5_leads_81 rfl ?_
            refine va_get (D := G.1) (ci := 5) (v := .int x7) (C := RX5) (T := TX5) (N := 4) hx hb hts inX5 hown hK.1 hP 0 rfl rfl 3 (by decide) (hts _ mf_X5_21) (fun _ h9 => h9) rfl dX5_leads_82 ?_
            refine lv_iload hx hb dX5_leads_85 (lv_at hl 0 rfl) ?_
            refine lv_ior hx hb dX5_leads_87 ?_
            refine lv_topi (fun v16 ev16 => ?_)
            refine va_put (D := G.1) (ci := 5) (v := .int v16) (C := RX5) (T := TX5) (N := 4) hx hb hts inX5 tyX5 tyX5_ok nmX5 hown hK.1 hP (hDD _ _) hS 0 rfl rfl 3 (by decide) (hts _ mf_X5_21) (fun _ h9 => h9) rfl (tyX5_ok 3 (by decide)) (rfl) (rfl) (Nat.le_of_ble_eq_true rfl) dX5_leads_88 (fun H locs hP _ hS => ?_)
            have hP : PP G (w2 G a (upd rf 3 v16) (up2 (up2 q 1 x5) 2 x6)) H := hP
            refine lv_iload hx hb dX5_leads_91 (lv_at hl 0 rfl) ?_
            refine lv_sipush (v := 4095) hx hb dX5_leads_93 (by decide) ?_
            refine lv_iand hx hb dX5_leads_96 ?_
            refine lv_topi (fun v17 ev17 => ?_)
            refine lv_if_ne (tgt := 105) hx hb dX5_leads_97 (by decide) (fun c18 => ?_) (fun c18 => ?_)
            · refine lv_iconst (v := 0) hx hb dX5_leads_105 (by decide) ?_
              refine lv_istore (lv' := [(8, .int 0), (7, .int v13), (6, .int (nI (nd))), (5, .int (nI n)), (4, .int (nI fl)), (3, .int v1), (0, .ref (a 3)), (2, .int (nI t0))]) hx hb dX5_leads_106 hl (by decide) rfl (fun ls hl => ?_)
              refine lv_iload hx hb dX5_leads_108 (lv_at hl 0 rfl) ?_
              refine lv_istore (lv' := [(9, .int 0), (8, .int 0), (7, .int v13), (6, .int (nI (nd))), (5, .int (nI n)), (4, .int (nI fl)), (3, .int v1), (0, .ref (a 3)), (2, .int (nI t0))]) hx hb dX5_leads_110 hl (by decide) rfl (fun ls hl => ?_)
              have loop112 : ∀ (k19 o : Nat) (f2 : Nat) (lev2 : Nat → Nat) (x21 : Nat → Int32) (x22 : Nat → Int32), o ≤ 25 → 25 < o + k19 → (f2 ≤ 25) → (BI (q 0) u0 t0 x21 x22 (fun v => bt x7 v || (bt v13 v && decide (v < o))) lev2 n f2) → (x22 n = nI nd) → (n < f2) → ∀ (H : Heap) (locs : List Loc) (ls : Array Slot), PP G (w2 G a (upd rf 3 v16) (up2 (up2 q 1 x21) 2 x22)) H → va_S A s.heap H locs → lv_has ls 10 [(9, .int (nI o)), (7, .int v13), (6, .int (nI (nd))), (5, .int (nI n)), (4, .int (nI f2)), (3, .int v1), (0, .ref (a 3)), (2, .int (nI t0))] → W p l e ({ frames := 0, cells := 0, slots := 0, locals := 0 }) s m ([.ref (a 3), .int (nI u0), .int (nI t0)] : List Value).toArray below meth c H locs 0 0 (MQ below (QwI G (fun qz w => ∃ (n_q_1 : Nat → Int32) (n_q_2 : Nat → Int32) (n_rf_3 : Int32), w = w2 G a (upd rf 3 n_rf_3) (up2 (up2 q 1 n_q_1) 2 n_q_2) ∧ ((qz = 0 ∧ CLO (q 0) u0 t0 n_rf_3) ∨ (qz = 1 ∧ WAY (q 0) u0 t0 n_q_1))) A) ([.ref (a 3), .int (nI u0), .int (nI t0)] : List Value).toArray s 0 0 A) (F0 m 112 ls []) := by
                intro k19
                induction k19 with
                | zero => intro o f2 lev2 x21 x22 h1 h2; exact absurd h1 (by omega)
                | succ k19 ih112k19 =>
                  intro o f2 lev2 x21 x22 hi_o hk_o gf2 hJ hqn hnf H locs ls hP hS hl
                  refine lv_iload hx hb dX5_leads_112 (lv_at hl 0 rfl) ?_
                  refine lv_bipush (v := 25) hx hb dX5_leads_114 (by decide) ?_
                  refine lv_icmp_ge (tgt := 171) hx hb dX5_leads_116 (by decide) (fun c23 => ?_) (fun c23 => ?_)
                  · have b116 := qge_t (a := o) (b := 25) (by omega) (by omega) c23
                    obtain ⟨v24, ev24⟩ : ∃ y9 : Int32, y9 = (nI n) + Int32.ofInt (1) := ⟨_, rfl⟩
                    refine lv_iinc (v := v24) (lv' := [(5, .int v24), (9, .int (nI o)), (7, .int v13), (6, .int (nI (nd))), (4, .int (nI f2)), (3, .int v1), (0, .ref (a 3)), (2, .int (nI t0))]) hx hb dX5_leads_171 hl (k := 3) rfl ev24.symm (by decide) rfl (fun ls hl => ?_)
                    obtain rfl : v24 = nI (n + 1) := nI_plus (i := n) (j := 1) ev24 rfl (by decide)
                    refine lv_goto (tgt := 24) hx hb dX5_leads_174 (by decide) ?_
                    exact ih24k3 (n + 1) f2 lev2 x21 x22 v16 (by omega) (by omega) (by omega) (BI_adv (BI_c hu ht hJ (fun v9 h9 => RR_e ev16 (fun z9 => absurd z9 (by omega)))) hnf hnd hqn (fun v9 h9 z9 => by rw [ev16, b_or]; cases hh : bt x7 v9 with | true => rfl | false => rw [Bool.false_or, fr_bit h9 ev13 ev12, hh, ev11]; rw [z9]; rfl)) _ _ _ hP hS (lv_sub hl [0, 4, 5, 6, 7] rfl)
                  · have b116 := qge_f (a := o) (b := 25) (by omega) (by omega) c23
                    refine lv_iload hx hb dX5_leads_119 (lv_at hl 1 rfl) ?_
                    refine lv_iload hx hb dX5_leads_121 (lv_at hl 0 rfl) ?_
                    refine lv_ishr hx hb dX5_leads_123 ?_
                    refine lv_topi (fun v25 ev25 => ?_)
                    refine lv_if_eq (tgt := 171) hx hb dX5_leads_124 (by decide) (fun c26 => ?_) (fun c26 => ?_)
                    · obtain ⟨v27, ev27⟩ : ∃ y9 : Int32, y9 = (nI n) + Int32.ofInt (1) := ⟨_, rfl⟩
                      refine lv_iinc (v := v27) (lv' := [(5, .int v27), (9, .int (nI o)), (7, .int v13), (6, .int (nI (nd))), (4, .int (nI f2)), (3, .int v1), (0, .ref (a 3)), (2, .int (nI t0))]) hx hb dX5_leads_171 hl (k := 3) rfl ev27.symm (by decide) rfl (fun ls hl => ?_)
                      obtain rfl : v27 = nI (n + 1) := nI_plus (i := n) (j := 1) ev27 rfl (by decide)
                      refine lv_goto (tgt := 24) hx hb dX5_leads_174 (by decide) ?_
                      exact ih24k3 (n + 1) f2 lev2 x21 x22 v16 (by omega) (by omega) (by omega) (BI_adv (BI_c hu ht hJ (fun v9 h9 => RR_e ev16 (fun z9 => sh_0 (by omega) (by rw [← ev25]; exact c26) z9 h9))) hnf hnd hqn (fun v9 h9 z9 => by rw [ev16, b_or]; cases hh : bt x7 v9 with | true => rfl | false => rw [Bool.false_or, fr_bit h9 ev13 ev12, hh, ev11]; rw [z9]; rfl)) _ _ _ hP hS (lv_sub hl [0, 4, 5, 6, 7] rfl)
                    · refine lv_iload hx hb dX5_leads_127 (lv_at hl 1 rfl) ?_
                      refine lv_iload hx hb dX5_leads_129 (lv_at hl 0 rfl) ?_
                      refine lv_ishr hx hb dX5_leads_131 ?_
                      refine lv_topi (fun v28 ev28 => ?_)
                      refine lv_iconst (v := 1) hx hb dX5_leads_132 (by decide) ?_
                      refine lv_iand hx hb dX5_leads_133 ?_
                      refine lv_topi (fun v29 ev29 => ?_)
                      refine lv_if_eq (tgt := 165) hx hb dX5_leads_134 (by decide) (fun c30 => ?_) (fun c30 => ?_)
                      · have hno : bt v13 o = false := bit_no (by omega) (by rw [← ev28, ← ev29]; exact c30)
                        have hJ2 := BI_c hu ht hJ (fun v9 h9 => RR_n (rc := x7) (v := v9) hno)
                        obtain ⟨v31, ev31⟩ : ∃ y9 : Int32, y9 = (nI o) + Int32.ofInt (1) := ⟨_, rfl⟩
                        refine lv_iinc (v := v31) (lv' := [(9, .int v31), (7, .int v13), (6, .int (nI (nd))), (5, .int (nI n)), (4, .int (nI f2)), (3, .int v1), (0, .ref (a 3)), (2, .int (nI t0))]) hx hb dX5_leads_165 hl (k := 0) rfl ev31.symm (by decide) rfl (fun ls hl => ?_)
                        obtain rfl : v31 = nI (o + 1) := nI_plus (i := o) (j := 1) ev31 rfl (by decide)
                        refine lv_goto (tgt := 112) hx hb dX5_leads_168 (by decide) ?_
                        exact ih112k19 (o + 1) f2 lev2 x21 x22 (by omega) (by omega) (by omega) (hJ2) (hqn) (by omega) _ _ _ hP hS (lv_sub hl [0, 1, 2, 3, 4, 5, 6, 7] rfl)
                      · have hyes : bt v13 o = true := bit_of (by omega) (by rw [← ev28, ← ev29]; exact c30)
                        have hy2 := hyes
                        rw [fr_bit (show o < 25 by omega) ev13 ev12, ev11] at hy2
                        have hy2 := and_l hy2
                        refine lv_iload hx hb dX5_leads_137 (lv_at hl 4 rfl) ?_
                        refine lv_bipush (v := 25) hx hb dX5_leads_139 (by decide) ?_
                        refine lv_icmp_ge (tgt := 165) hx hb dX5_leads_141 (by decide) (fun c32 => ?_) (fun c32 => ?_)
                        · have b141 := qge_t (a := f2) (b := 25) (by omega) (by omega) c32
                          exact absurd (cntN_lt_n 25 (show o < 25 by omega) (RR_o (fr := v13) hy2.2)) (by rw [hJ.2.2.2.2.2.2.2]; omega)
                        · have b141 := qge_f (a := f2) (b := 25) (by omega) (by omega) c32
                          have hJ2 := BI_c hu ht (BI_push hJ hnf hnd hqn (show o < 25 by omega) (RR_o (fr := v13) hy2.2) hy2.1 (fun z9 => by rw [← z9, hyes] at hfn; exact absurd hfn (by decide))) (fun v9 h9 => RR_s (rc := x7) (v := v9) hyes)
                          refine lv_aload_n hx hb dX5_leads_144 rfl (lv_at hl 6 rfl) ?_
                          refine va_get (D := G.1) (ci := 5) (v := .ref (a 1)) (C := RX5) (T := TX5) (N := 4) hx hb hts inX5 hown hK.1 hP 0 rfl rfl 1 (by decide) (hts _ mf_X5_15) (fun _ h9 => h9) rfl dX5_leads_145 ?_
                          refine lv_iload hx hb dX5_leads_148 (lv_at hl 0 rfl) ?_
                          refine lv_iload hx hb dX5_leads_150 (lv_at hl 2 rfl) ?_
                          refine xiast (f := x21) (x := (nI (nd))) hx hb hK hP (hDD _ _) hS 2 (o) (rfl) (by omega) (by decide) rfl dX5_leads_152 (fun H locs hP _ hS => ?_)
                          have hP : PP G (w2 G a (upd rf 3 v16) (up2 (up2 q 1 (upd x21 (o) ((nI (nd))))) 2 x22)) H := hP
                          refine lv_aload_n hx hb dX5_leads_153 rfl (lv_at hl 6 rfl) ?_
                          refine va_get (D := G.1) (ci := 5) (v := .ref (a 2)) (C := RX5) (T := TX5) (N := 4) hx hb hts inX5 hown hK.1 hP 0 rfl rfl 2 (by decide) (hts _ mf_X5_18) (fun _ h9 => h9) rfl dX5_leads_154 ?_
                          refine lv_iload hx hb dX5_leads_157 (lv_at hl 4 rfl) ?_
                          refine lv_iload hx hb dX5_leads_159 (lv_at hl 0 rfl) ?_
                          refine xiast (f := x22) (x := (nI o)) hx hb hK hP (hDD _ _) hS 3 (f2) (rfl) (by omega) (by decide) rfl dX5_leads_161 (fun H locs hP _ hS => ?_)
                          have hP : PP G (w2 G a (upd rf 3 v16) (up2 (up2 q 1 (upd x21 (o) ((nI (nd))))) 2 (upd x22 (f2) ((nI o))))) H := hP
                          obtain ⟨v33, ev33⟩ : ∃ y9 : Int32, y9 = (nI f2) + Int32.ofInt (1) := ⟨_, rfl⟩
                          refine lv_iinc (v := v33) (lv' := [(4, .int v33), (9, .int (nI o)), (7, .int v13), (6, .int (nI (nd))), (5, .int (nI n)), (3, .int v1), (0, .ref (a 3)), (2, .int (nI t0))]) hx hb dX5_leads_162 hl (k := 4) rfl ev33.symm (by decide) rfl (fun ls hl => ?_)
                          obtain rfl : v33 = nI (f2 + 1) := nI_plus (i := f2) (j := 1) ev33 rfl (by decide)
                          obtain ⟨v34, ev34⟩ : ∃ y9 : Int32, y9 = (nI o) + Int32.ofInt (1) := ⟨_, rfl⟩
                          refine lv_iinc (v := v34) (lv' := [(9, .int v34), (4, .int (nI (f2 + 1))), (7, .int v13), (6, .int (nI (nd))), (5, .int (nI n)), (3, .int v1), (0, .ref (a 3)), (2, .int (nI t0))]) hx hb dX5_leads_165 hl (k := 1) rfl ev34.symm (by decide) rfl (fun ls hl => ?_)
                          obtain rfl : v34 = nI (o + 1) := nI_plus (i := o) (j := 1) ev34 rfl (by decide)
                          refine lv_goto (tgt := 112) hx hb dX5_leads_168 (by decide) ?_
                          exact ih112k19 (o + 1) (f2 + 1) (upL lev2 o (lev2 nd + 1)) (upd x21 (o) ((nI (nd)))) (upd x22 (f2) ((nI o))) (by omega) (by omega) (by omega) (hJ2) (by rw [pk_un (by omega)]; exact hqn) (by omega) _ _ _ hP hS (lv_sub hl [0, 2, 3, 4, 1, 5, 6, 7] rfl)
              exact loop112 (25 + 1) 0 fl lev x5 x6 (by omega) (by omega) (by omega) (BI_c hu ht hI (fun v9 h9 => RR_0 (fun v8 h8 => absurd h8 (by omega)))) (end_) (by omega) _ _ _ hP hS (lv_sub hl [0, 2, 3, 4, 5, 6, 7, 8] rfl)
            · refine lv_bipush (v := 12) hx hb dX5_leads_100 (by decide) ?_
              refine lv_goto (tgt := 106) hx hb dX5_leads_102 (by decide) ?_
              refine lv_istore (lv' := [(8, .int 12), (7, .int v13), (6, .int (nI (nd))), (5, .int (nI n)), (4, .int (nI fl)), (3, .int v1), (0, .ref (a 3)), (2, .int (nI t0))]) hx hb dX5_leads_106 hl (by decide) rfl (fun ls hl => ?_)
              refine lv_iload hx hb dX5_leads_108 (lv_at hl 0 rfl) ?_
              refine lv_istore (lv' := [(9, .int 12), (8, .int 12), (7, .int v13), (6, .int (nI (nd))), (5, .int (nI n)), (4, .int (nI fl)), (3, .int v1), (0, .ref (a 3)), (2, .int (nI t0))]) hx hb dX5_leads_110 hl (by decide) rfl (fun ls hl => ?_)
              have loop112 : ∀ (k35 o : Nat) (f2 : Nat) (lev2 : Nat → Nat) (x37 : Nat → Int32) (x38 : Nat → Int32), o ≤ 25 → 25 < o + k35 → (f2 ≤ 25) → (BI (q 0) u0 t0 x37 x38 (fun v => bt x7 v || (bt v13 v && decide (v < o))) lev2 n f2) → (x38 n = nI nd) → (n < f2) → ∀ (H : Heap) (locs : List Loc) (ls : Array Slot), PP G (w2 G a (upd rf 3 v16) (up2 (up2 q 1 x37) 2 x38)) H → va_S A s.heap H locs → lv_has ls 10 [(9, .int (nI o)), (7, .int v13), (6, .int (nI (nd))), (5, .int (nI n)), (4, .int (nI f2)), (3, .int v1), (0, .ref (a 3)), (2, .int (nI t0))] → W p l e ({ frames := 0, cells := 0, slots := 0, locals := 0 }) s m ([.ref (a 3), .int (nI u0), .int (nI t0)] : List Value).toArray below meth c H locs 0 0 (MQ below (QwI G (fun qz w => ∃ (n_q_1 : Nat → Int32) (n_q_2 : Nat → Int32) (n_rf_3 : Int32), w = w2 G a (upd rf 3 n_rf_3) (up2 (up2 q 1 n_q_1) 2 n_q_2) ∧ ((qz = 0 ∧ CLO (q 0) u0 t0 n_rf_3) ∨ (qz = 1 ∧ WAY (q 0) u0 t0 n_q_1))) A) ([.ref (a 3), .int (nI u0), .int (nI t0)] : List Value).toArray s 0 0 A) (F0 m 112 ls []) := by
                intro k35
                induction k35 with
                | zero => intro o f2 lev2 x37 x38 h1 h2; exact absurd h1 (by omega)
                | succ k35 ih112k35 =>
                  intro o f2 lev2 x37 x38 hi_o hk_o gf2 hJ hqn hnf H locs ls hP hS hl
                  refine lv_iload hx hb dX5_leads_112 (lv_at hl 0 rfl) ?_
                  refine lv_bipush (v := 25) hx hb dX5_leads_114 (by decide) ?_
                  refine lv_icmp_ge (tgt := 171) hx hb dX5_leads_116 (by decide) (fun c39 => ?_) (fun c39 => ?_)
                  · have b116 := qge_t (a := o) (b := 25) (by omega) (by omega) c39
                    obtain ⟨v40, ev40⟩ : ∃ y9 : Int32, y9 = (nI n) + Int32.ofInt (1) := ⟨_, rfl⟩
                    refine lv_iinc (v := v40) (lv' := [(5, .int v40), (9, .int (nI o)), (7, .int v13), (6, .int (nI (nd))), (4, .int (nI f2)), (3, .int v1), (0, .ref (a 3)), (2, .int (nI t0))]) hx hb dX5_leads_171 hl (k := 3) rfl ev40.symm (by decide) rfl (fun ls hl => ?_)
                    obtain rfl : v40 = nI (n + 1) := nI_plus (i := n) (j := 1) ev40 rfl (by decide)
                    refine lv_goto (tgt := 24) hx hb dX5_leads_174 (by decide) ?_
                    exact ih24k3 (n + 1) f2 lev2 x37 x38 v16 (by omega) (by omega) (by omega) (BI_adv (BI_c hu ht hJ (fun v9 h9 => RR_e ev16 (fun z9 => absurd z9 (by omega)))) hnf hnd hqn (fun v9 h9 z9 => by rw [ev16, b_or]; cases hh : bt x7 v9 with | true => rfl | false => rw [Bool.false_or, fr_bit h9 ev13 ev12, hh, ev11]; rw [z9]; rfl)) _ _ _ hP hS (lv_sub hl [0, 4, 5, 6, 7] rfl)
                  · have b116 := qge_f (a := o) (b := 25) (by omega) (by omega) c39
                    refine lv_iload hx hb dX5_leads_119 (lv_at hl 1 rfl) ?_
                    refine lv_iload hx hb dX5_leads_121 (lv_at hl 0 rfl) ?_
                    refine lv_ishr hx hb dX5_leads_123 ?_
                    refine lv_topi (fun v41 ev41 => ?_)
                    refine lv_if_eq (tgt := 171) hx hb dX5_leads_124 (by decide) (fun c42 => ?_) (fun c42 => ?_)
                    · obtain ⟨v43, ev43⟩ : ∃ y9 : Int32, y9 = (nI n) + Int32.ofInt (1) := ⟨_, rfl⟩
                      refine lv_iinc (v := v43) (lv' := [(5, .int v43), (9, .int (nI o)), (7, .int v13), (6, .int (nI (nd))), (4, .int (nI f2)), (3, .int v1), (0, .ref (a 3)), (2, .int (nI t0))]) hx hb dX5_leads_171 hl (k := 3) rfl ev43.symm (by decide) rfl (fun ls hl => ?_)
                      obtain rfl : v43 = nI (n + 1) := nI_plus (i := n) (j := 1) ev43 rfl (by decide)
                      refine lv_goto (tgt := 24) hx hb dX5_leads_174 (by decide) ?_
                      exact ih24k3 (n + 1) f2 lev2 x37 x38 v16 (by omega) (by omega) (by omega) (BI_adv (BI_c hu ht hJ (fun v9 h9 => RR_e ev16 (fun z9 => sh_0 (by omega) (by rw [← ev41]; exact c42) z9 h9))) hnf hnd hqn (fun v9 h9 z9 => by rw [ev16, b_or]; cases hh : bt x7 v9 with | true => rfl | false => rw [Bool.false_or, fr_bit h9 ev13 ev12, hh, ev11]; rw [z9]; rfl)) _ _ _ hP hS (lv_sub hl [0, 4, 5, 6, 7] rfl)
                    · refine lv_iload hx hb dX5_leads_127 (lv_at hl 1 rfl) ?_
                      refine lv_iload hx hb dX5_leads_129 (lv_at hl 0 rfl) ?_
                      refine lv_ishr hx hb dX5_leads_131 ?_
                      refine lv_topi (fun v44 ev44 => ?_)
                      refine lv_iconst (v := 1) hx hb dX5_leads_132 (by decide) ?_
                      refine lv_iand hx hb dX5_leads_133 ?_
                      refine lv_topi (fun v45 ev45 => ?_)
                      refine lv_if_eq (tgt := 165) hx hb dX5_leads_134 (by decide) (fun c46 => ?_) (fun c46 => ?_)
                      · have hno : bt v13 o = false := bit_no (by omega) (by rw [← ev44, ← ev45]; exact c46)
                        have hJ2 := BI_c hu ht hJ (fun v9 h9 => RR_n (rc := x7) (v := v9) hno)
                        obtain ⟨v47, ev47⟩ : ∃ y9 : Int32, y9 = (nI o) + Int32.ofInt (1) := ⟨_, rfl⟩
                        refine lv_iinc (v := v47) (lv' := [(9, .int v47), (7, .int v13), (6, .int (nI (nd))), (5, .int (nI n)), (4, .int (nI f2)), (3, .int v1), (0, .ref (a 3)), (2, .int (nI t0))]) hx hb dX5_leads_165 hl (k := 0) rfl ev47.symm (by decide) rfl (fun ls hl => ?_)
                        obtain rfl : v47 = nI (o + 1) := nI_plus (i := o) (j := 1) ev47 rfl (by decide)
                        refine lv_goto (tgt := 112) hx hb dX5_leads_168 (by decide) ?_
                        exact ih112k35 (o + 1) f2 lev2 x37 x38 (by omega) (by omega) (by omega) (hJ2) (hqn) (by omega) _ _ _ hP hS (lv_sub hl [0, 1, 2, 3, 4, 5, 6, 7] rfl)
                      · have hyes : bt v13 o = true := bit_of (by omega) (by rw [← ev44, ← ev45]; exact c46)
                        have hy2 := hyes
                        rw [fr_bit (show o < 25 by omega) ev13 ev12, ev11] at hy2
                        have hy2 := and_l hy2
                        refine lv_iload hx hb dX5_leads_137 (lv_at hl 4 rfl) ?_
                        refine lv_bipush (v := 25) hx hb dX5_leads_139 (by decide) ?_
                        refine lv_icmp_ge (tgt := 165) hx hb dX5_leads_141 (by decide) (fun c48 => ?_) (fun c48 => ?_)
                        · have b141 := qge_t (a := f2) (b := 25) (by omega) (by omega) c48
                          exact absurd (cntN_lt_n 25 (show o < 25 by omega) (RR_o (fr := v13) hy2.2)) (by rw [hJ.2.2.2.2.2.2.2]; omega)
                        · have b141 := qge_f (a := f2) (b := 25) (by omega) (by omega) c48
                          have hJ2 := BI_c hu ht (BI_push hJ hnf hnd hqn (show o < 25 by omega) (RR_o (fr := v13) hy2.2) hy2.1 (fun z9 => by rw [← z9, hyes] at hfn; exact absurd hfn (by decide))) (fun v9 h9 => RR_s (rc := x7) (v := v9) hyes)
                          refine lv_aload_n hx hb dX5_leads_144 rfl (lv_at hl 6 rfl) ?_
                          refine va_get (D := G.1) (ci := 5) (v := .ref (a 1)) (C := RX5) (T := TX5) (N := 4) hx hb hts inX5 hown hK.1 hP 0 rfl rfl 1 (by decide) (hts _ mf_X5_15) (fun _ h9 => h9) rfl dX5_leads_145 ?_
                          refine lv_iload hx hb dX5_leads_148 (lv_at hl 0 rfl) ?_
                          refine lv_iload hx hb dX5_leads_150 (lv_at hl 2 rfl) ?_
                          refine xiast (f := x37) (x := (nI (nd))) hx hb hK hP (hDD _ _) hS 2 (o) (rfl) (by omega) (by decide) rfl dX5_leads_152 (fun H locs hP _ hS => ?_)
                          have hP : PP G (w2 G a (upd rf 3 v16) (up2 (up2 q 1 (upd x37 (o) ((nI (nd))))) 2 x38)) H := hP
                          refine lv_aload_n hx hb dX5_leads_153 rfl (lv_at hl 6 rfl) ?_
                          refine va_get (D := G.1) (ci := 5) (v := .ref (a 2)) (C := RX5) (T := TX5) (N := 4) hx hb hts inX5 hown hK.1 hP 0 rfl rfl 2 (by decide) (hts _ mf_X5_18) (fun _ h9 => h9) rfl dX5_leads_154 ?_
                          refine lv_iload hx hb dX5_leads_157 (lv_at hl 4 rfl) ?_
                          refine lv_iload hx hb dX5_leads_159 (lv_at hl 0 rfl) ?_
                          refine xiast (f := x38) (x := (nI o)) hx hb hK hP (hDD _ _) hS 3 (f2) (rfl) (by omega) (by decide) rfl dX5_leads_161 (fun H locs hP _ hS => ?_)
                          have hP : PP G (w2 G a (upd rf 3 v16) (up2 (up2 q 1 (upd x37 (o) ((nI (nd))))) 2 (upd x38 (f2) ((nI o))))) H := hP
                          obtain ⟨v49, ev49⟩ : ∃ y9 : Int32, y9 = (nI f2) + Int32.ofInt (1) := ⟨_, rfl⟩
                          refine lv_iinc (v := v49) (lv' := [(4, .int v49), (9, .int (nI o)), (7, .int v13), (6, .int (nI (nd))), (5, .int (nI n)), (3, .int v1), (0, .ref (a 3)), (2, .int (nI t0))]) hx hb dX5_leads_162 hl (k := 4) rfl ev49.symm (by decide) rfl (fun ls hl => ?_)
                          obtain rfl : v49 = nI (f2 + 1) := nI_plus (i := f2) (j := 1) ev49 rfl (by decide)
                          obtain ⟨v50, ev50⟩ : ∃ y9 : Int32, y9 = (nI o) + Int32.ofInt (1) := ⟨_, rfl⟩
                          refine lv_iinc (v := v50) (lv' := [(9, .int v50), (4, .int (nI (f2 + 1))), (7, .int v13), (6, .int (nI (nd))), (5, .int (nI n)), (3, .int v1), (0, .ref (a 3)), (2, .int (nI t0))]) hx hb dX5_leads_165 hl (k := 1) rfl ev50.symm (by decide) rfl (fun ls hl => ?_)
                          obtain rfl : v50 = nI (o + 1) := nI_plus (i := o) (j := 1) ev50 rfl (by decide)
                          refine lv_goto (tgt := 112) hx hb dX5_leads_168 (by decide) ?_
                          exact ih112k35 (o + 1) (f2 + 1) (upL lev2 o (lev2 nd + 1)) (upd x37 (o) ((nI (nd)))) (upd x38 (f2) ((nI o))) (by omega) (by omega) (by omega) (hJ2) (by rw [pk_un (by omega)]; exact hqn) (by omega) _ _ _ hP hS (lv_sub hl [0, 2, 3, 4, 1, 5, 6, 7] rfl)
              exact loop112 (25 + 1) 12 fl lev x5 x6 (by omega) (by omega) (by omega) (BI_c hu ht hI (fun v9 h9 => RR_0 (fun v8 h8 => an_0 (m := 4095) (by rw [← ev17]; exact c18) (b_4095 v8 h8)))) (end_) (by omega) _ _ _ hP hS (lv_sub hl [0, 2, 3, 4, 5, 6, 7, 8] rfl)
          · have hft := andbit_of (x := v13) (v := t0) (by omega) (by rw [← ev1, ← ev14]; exact c15)
            rw [fr_bit ht ev13 ev12, ev11] at hft
            have hft := and_l hft
            refine lv_aload_n hx hb dX5_leads_70 rfl (lv_at hl 5 rfl) ?_
            refine va_get (D := G.1) (ci := 5) (v := .ref (a 1)) (C := RX5) (T := TX5) (N := 4) hx hb hts inX5 hown hK.1 hP 0 rfl rfl 1 (by decide) (hts _ mf_X5_15) (fun _ h9 => h9) rfl dX5_leads_71 ?_
            refine lv_iload_n hx hb dX5_leads_74 rfl (lv_at hl 6 rfl) ?_
            refine lv_iload hx hb dX5_leads_75 (lv_at hl 1 rfl) ?_
            refine xiast (f := x5) (x := (nI (nd))) hx hb hK hP (hDD _ _) hS 2 (t0) (rfl) (by omega) (by decide) rfl dX5_leads_77 (fun H locs hP _ hS => ?_)
            have hP : PP G (w2 G a (upd rf 3 x7) (up2 (up2 q 1 (upd x5 (t0) ((nI (nd))))) 2 x6)) H := hP
            refine lv_iconst (v := 1) hx hb dX5_leads_78 (by decide) ?_
            exact wr_zret hx hb hr hlocks (Or.inr rfl) hS hP ⟨(upd x5 (t0) ((nI (nd)))), x6, x7, rfl, Or.inr ⟨rfl, BI_way hI gfl (by omega) hnd ht end_ hft.1 hft.2⟩⟩ dX5_leads_79
  exact loop24 (25 + 1) 0 1 (fun _ => 0) (q 1) (upd (q 2) (0) ((nI u0))) v2 (by omega) (by omega) (by omega) (BI_c hu ht (BI_0 hu) (fun v9 h9 => by rw [ev2]; exact b_sh1 (by omega) (by omega))) _ _ _ hP hS (lv_sub hl [0, 1, 2, 3, 5] rfl)
