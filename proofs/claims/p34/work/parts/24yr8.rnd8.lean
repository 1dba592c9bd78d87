
/-- what may still go in the reference's network -/
def cA (cap : Nat → Int32) (u v : Nat) : Int := ((cap (28 * u + v)).toNatClampNeg : Int)
theorem cA_e {cap : Nat → Int32} {u v a : Nat} (h : cap (28 * u + v) = nI a) (ha : a ≤ 2000000000) : cA cap u v = (a : Int) := by
  unfold cA; rw [h, nI_clamp (by omega)]
theorem cA_aug {cap : Nat → Int32} {u y ca cb n : Nat} (hu : u < 28) (hy : y < 28) (hne : u ≠ y) (e1 : cap (28 * u + y) = nI ca) (e2 : cap (28 * y + u) = nI cb) (hs : ca + cb ≤ 2000000000) (hn : n ≤ ca) (a b : Nat) (ha : a < 28) (hb : b < 28) : cA (aug cap u y ca cb n) a b = pu (cA cap) u y (n : Int) a b := by
  have g1 : aug cap u y ca cb n (28 * u + y) = nI (ca - n) := by unfold aug; rw [pk_un (by omega), pk_us]
  have g2 : aug cap u y ca cb n (28 * y + u) = nI (cb + n) := by unfold aug; rw [pk_us]
  by_cases c1 : a = u ∧ b = y
  · rw [c1.1, c1.2, pu_f, cA_e g1 (by omega), cA_e e1 (by omega)]; omega
  · by_cases c2 : a = y ∧ b = u
    · rw [c2.1, c2.2, pu_b hne, cA_e g2 (by omega), cA_e e2 (by omega)]; omega
    · rw [pu_n c1 c2]
      unfold cA
      rw [aug_ne (by omega) (by omega)]
/-- what has gone from 26 to 27 -/
def FLI (c0 c1 : Nat → Int32) (al : Nat) : Prop := (∀ u v, u < 28 → v < 28 → cA c1 u v + cA c1 v u = cA c0 u v + cA c0 v u) ∧ ∀ u, u < 28 → sumI 28 (fun v => cA c1 u v) = sumI 28 (fun v => cA c0 u v) - dl u 26 (al : Int) + dl u 27 (al : Int)
theorem dl_0 (a b : Nat) : dl a b 0 = 0 := by unfold dl; split <;> rfl
theorem dl_add (a b : Nat) (x y : Int) : dl a b (x + y) = dl a b x + dl a b y := by
  unfold dl; split <;> omega
theorem FLI_0 (c0 : Nat → Int32) : FLI c0 c0 0 := ⟨fun _ _ _ _ => rfl, fun u _ => by
  show sumI 28 (fun v => cA c0 u v) = sumI 28 (fun v => cA c0 u v) - dl u 26 0 + dl u 27 0
  rw [dl_0, dl_0]; omega⟩
theorem FLI_s {c0 c1 c2 fr qu : Nat → Int32} {al n mn ps D : Nat} (h : FLI c0 c1 al) (hW : onW fr qu mn ps D) (hD : 26 = pt fr D) (hpu : ∀ a b, a < 28 → b < 28 → cA c2 a b = puC (pt fr) (n : Int) (cA c1) D a b) : FLI c0 c2 (al + n) := by
  have hj : ∀ j, j < D → pt fr (j + 1) < 28 ∧ pt fr j < 28 ∧ pt fr (j + 1) ≠ pt fr j := fun j hj => ⟨hW.2.2 _ (by omega), hW.2.2 _ (by omega), fun z => hW.2.1 j (j + 1) (by omega) (by omega) z.symm⟩
  refine ⟨fun u v hu hv => ?_, fun u hu => ?_⟩
  · rw [hpu u v hu hv, hpu v u hv hu, puC_anti D (fun j hj' => (hj j hj').2.2) u v]; exact h.1 u v hu hv
  · have e1 : sumI 28 (fun v => cA c2 u v) = sumI 28 (fun v => puC (pt fr) (n : Int) (cA c1) D u v) := sumI_c 28 (fun v hv => hpu u v hu hv)
    have e2 := puC_sum (n := (n : Int)) (c := cA c1) D hj u
    have e3 := h.2 u hu
    have e4 : pt fr 0 = 27 := rfl
    rw [e4, ← hD] at e2
    have e5 : ((al + n : Nat) : Int) = (al : Int) + (n : Int) := Int.natCast_add al n
    rw [e5, dl_add, dl_add]
    omega
/-- at its end: what has gone, and a set that nothing can leave -/
def FLX (c0 c1 : Nat → Int32) (q : Int32) : Prop := ∃ (al : Nat) (S : Nat → Bool), q = nI al ∧ FLI c0 c1 al ∧ S 26 = true ∧ S 27 = false ∧ ∀ u v, u < 28 → v < 28 → S u = true → S v = false → cA c1 u v = 0
def frS (fr : Nat → Int32) (u : Nat) : Bool := !decide (fr u = -1)
theorem frS_t {fr : Nat → Int32} {u : Nat} (h : frS fr u = true) : ¬ fr u = -1 := fun z => by unfold frS at h; rw [decide_eq_true z] at h; exact absurd h (by decide)
theorem frS_f {fr : Nat → Int32} {u : Nat} (h : frS fr u = false) : fr u = -1 := Classical.byContradiction (fun z => by unfold frS at h; rw [decide_eq_false z] at h; exact absurd h (by decide))
theorem frS_mk {fr : Nat → Int32} {u : Nat} (h : ¬ fr u = -1) : frS fr u = true := by unfold frS; rw [decide_eq_false h]; rfl
theorem frS_no {fr : Nat → Int32} {u : Nat} (h : fr u = -1) : frS fr u = false := by unfold frS; rw [decide_eq_true h]; rfl
theorem FLX_of {c0 c1 fr qu : Nat → Int32} {al mn q1 : Nat} (h : FLI c0 c1 al) (hJ : wJ 28 (adjC c1) 26 fr qu mn) (hq : mn ≤ q1) (h27 : fr 27 = -1) (h26 : ¬ fr 26 = -1) (hpr : ∀ k u v, k < q1 → u < 28 → v < 28 → qu k = nI u → ¬ cA c1 u v = 0 → ¬ fr v = -1) : FLX c0 c1 (nI al) := by
  refine ⟨al, frS fr, rfl, h, frS_mk h26, frS_no h27, fun u v hu hv h1 h2 => ?_⟩
  obtain ⟨k, hk, ek⟩ := hJ.2.1 u hu (frS_t h1)
  exact Classical.byContradiction (fun z => hpr k u v (by omega) hu hv ek z (frS_f h2))
set_option maxHeartbeats 4000000 in
set_option maxRecDepth 100000 in
theorem n_flow (l : Launch) (G : GG) (y : Nat) (b : Nat → Nat) (f : Nat → Int32) (r : Nat → Nat → Int32) (hcap : capOK (r 36)) : WrI l yX7_flow cX7_flow 6 (some .int) ({ frames := 1, cells := 0, slots := 0, locals := 21 }) G (mM G y b f r) [.ref y] (fun q w => ∃ (n_r_36 : Nat → Int32) (n_r_37 : Nat → Int32) (n_r_38 : Nat → Int32), w = mM G y b f (up2 (up2 (up2 r 36 n_r_36) 37 n_r_37) 38 n_r_38) ∧ FLX (r 36) n_r_36 q) := by
  refine wr_entryI (by decide +kernel) (Nat.le_of_ble_eq_true rfl) ?_
  intro p e s m below meth c A C0 hP hK hD hA ls hl
  have hS : va_S A s.heap s.heap [] := va_S.rf
  obtain ⟨hx, hb, hml, hown, hts, hr, hlocks, hin⟩ := C0
  have hown : s.vm.findClass RX7 = some m.cls := hown
  have hDD : ∀ f' r', va_D A (mM G y b f' r') := fun f' r' => D_same hD rfl
  have hl : lv_has ls 6 [(0, .ref y)] := hl
  refine lv_iconst (v := 0) hx hb dX7_flow_0 (by decide) ?_
  refine lv_istore_n (lv' := [(1, .int 0), (0, .ref y)]) hx hb dX7_flow_1 rfl hl (by decide) rfl (fun ls hl => ?_)
  have loop2 : ∀ (k1 : Nat) (al : Nat) (x4 : Nat → Int32) (x5 : Nat → Int32) (x6 : Nat → Int32), sC x4 28 < k1 → (capOK x4) → (FLI (r 36) x4 al) → ∀ (H : Heap) (locs : List Loc) (ls : Array Slot), PP G (mM G y b f (up2 (up2 (up2 r 36 x4) 37 x5) 38 x6)) H → va_S A s.heap H locs → lv_has ls 6 [(1, .int (nI al)), (0, .ref y)] → W p l e ({ frames := 1, cells := 0, slots := 0, locals := 21 }) s m ([.ref y] : List Value).toArray below meth c H locs 0 0 (MQ below (QwI G (fun q w => ∃ (n_r_36 : Nat → Int32) (n_r_37 : Nat → Int32) (n_r_38 : Nat → Int32), w = mM G y b f (up2 (up2 (up2 r 36 n_r_36) 37 n_r_37) 38 n_r_38) ∧ FLX (r 36) n_r_36 q) A) ([.ref y] : List Value).toArray s 0 0 A) (F0 m 2 ls []) := by
    intro k1
    induction k1 with
    | zero => intro al x4 x5 x6 h1; exact absurd h1 (Nat.not_lt_zero _)
    | succ k1 ih2k1 =>
      intro  al x4 x5 x6 hm_k1 hcap hfl H locs ls hP hS hl
      refine lv_iconst (v := 0) hx hb dX7_flow_2 (by decide) ?_
      refine lv_istore_n (lv' := [(2, .int 0), (1, .int (nI al)), (0, .ref y)]) hx hb dX7_flow_3 rfl hl (by decide) rfl (fun ls hl => ?_)
      have loop4 : ∀ (k7 i : Nat) (x8 : Nat → Int32), i ≤ 28 → 28 < i + k7 → (∀ n, n < i → x8 n = -1) → ∀ (H : Heap) (locs : List Loc) (ls : Array Slot), PP G (mM G y b f (up2 (up2 (up2 r 36 x4) 37 x8) 38 x6)) H → va_S A s.heap H locs → lv_has ls 6 [(2, .int (nI i)), (1, .int (nI al)), (0, .ref y)] → W p l e ({ frames := 1, cells := 0, slots := 0, locals := 21 }) s m ([.ref y] : List Value).toArray below meth c H locs 0 0 (MQ below (QwI G (fun q w => ∃ (n_r_36 : Nat → Int32) (n_r_37 : Nat → Int32) (n_r_38 : Nat → Int32), w = mM G y b f (up2 (up2 (up2 r 36 n_r_36) 37 n_r_37) 38 n_r_38) ∧ FLX (r 36) n_r_36 q) A) ([.ref y] : List Value).toArray s 0 0 A) (F0 m 4 ls []) := by
        intro k7
        induction k7 with
        | zero => intro i x8 h1 h2; exact absurd h1 (by omega)
        | succ k7 ih4k7 =>
          intro i x8 hi_i hk_i hfr H locs ls hP hS hl
          refine lv_iload_n hx hb dX7_flow_4 rfl (lv_at hl 0 rfl) ?_
          refine lv_bipush (v := 28) hx hb dX7_flow_5 (by decide) ?_
          refine lv_icmp_ge (tgt := 23) hx hb dX7_flow_7 (by decide) (fun c9 => ?_) (fun c9 => ?_)
          · have b7 := qge_t (a := i) (b := 28) (by omega) (by omega) c9
            refine lv_aload_n hx hb dX7_flow_23 rfl (lv_at hl 2 rfl) ?_
            refine va_get (D := G.1) (ci := 7) (v := .ref (b 37)) (C := RX7) (T := TX7) (N := 43) hx hb hts inX7 hown hK.1 hP 0 rfl rfl 37 (by decide) (hts _ mf_X7_101) (fun _ h9 => h9) rfl dX7_flow_24 ?_
            refine lv_bipush (v := 26) hx hb dX7_flow_27 (by decide) ?_
            refine lv_bipush (v := 26) hx hb dX7_flow_29 (by decide) ?_
            refine xiast (f := x8) (x := 26) hx hb hK hP (hDD _ _) hS 31 (26) (rfl) (by omega) (by decide) rfl dX7_flow_31 (fun H locs hP _ hS => ?_)
            have hP : PP G (mM G y b f (up2 (up2 (up2 r 36 x4) 37 (upd x8 (26) (26))) 38 x6)) H := hP
            refine lv_aload_n hx hb dX7_flow_32 rfl (lv_at hl 2 rfl) ?_
            refine va_get (D := G.1) (ci := 7) (v := .ref (b 38)) (C := RX7) (T := TX7) (N := 43) hx hb hts inX7 hown hK.1 hP 0 rfl rfl 38 (by decide) (hts _ mf_X7_104) (fun _ h9 => h9) rfl dX7_flow_33 ?_
            refine lv_iconst (v := 0) hx hb dX7_flow_36 (by decide) ?_
            refine lv_bipush (v := 26) hx hb dX7_flow_37 (by decide) ?_
            refine xiast (f := x6) (x := 26) hx hb hK hP (hDD _ _) hS 32 (0) (rfl) (by omega) (by decide) rfl dX7_flow_39 (fun H locs hP _ hS => ?_)
            have hP : PP G (mM G y b f (up2 (up2 (up2 r 36 x4) 37 (upd x8 (26) (26))) 38 (upd x6 (0) (26)))) H := hP
            have hJ := wJ_0 (N := 28) (adj := adjC x4) (a := 26) (qu := x6) (fun n h => hfr n (by omega)) (by decide) (by decide)
            have hDi := qDi_0 (upd x6 (0) (26))
            have h26 : ¬ (upd x8 (26) (26)) 26 = -1 := by rw [pk_us]; decide
            refine lv_iconst (v := 1) hx hb dX7_flow_40 (by decide) ?_
            refine lv_istore_n (lv' := [(2, .int 1), (1, .int (nI al)), (0, .ref y)]) hx hb dX7_flow_41 rfl hl (by decide) rfl (fun ls hl => ?_)
            refine lv_iconst (v := 0) hx hb dX7_flow_42 (by decide) ?_
            refine lv_istore_n (lv' := [(3, .int 0), (2, .int 1), (1, .int (nI al)), (0, .ref y)]) hx hb dX7_flow_43 rfl hl (by decide) rfl (fun ls hl => ?_)
            have loop44 : ∀ (k10 q1 : Nat) (mn : Nat) (x12 : Nat → Int32) (x13 : Nat → Int32), q1 ≤ 28 → 28 < q1 + k10 → (mn ≤ 28) → (wJ 28 (adjC x4) 26 x12 x13 mn) → (qDi x13 mn) → (¬ x12 26 = -1) → (∀ k u v, k < q1 → u < 28 → v < 28 → x13 k = nI u → ¬ cA x4 u v = 0 → ¬ x12 v = -1) → ∀ (H : Heap) (locs : List Loc) (ls : Array Slot), PP G (mM G y b f (up2 (up2 (up2 r 36 x4) 37 x12) 38 x13)) H → va_S A s.heap H locs → lv_has ls 6 [(3, .int (nI q1)), (2, .int (nI mn)), (1, .int (nI al)), (0, .ref y)] → W p l e ({ frames := 1, cells := 0, slots := 0, locals := 21 }) s m ([.ref y] : List Value).toArray below meth c H locs 0 0 (MQ below (QwI G (fun q w => ∃ (n_r_36 : Nat → Int32) (n_r_37 : Nat → Int32) (n_r_38 : Nat → Int32), w = mM G y b f (up2 (up2 (up2 r 36 n_r_36) 37 n_r_37) 38 n_r_38) ∧ FLX (r 36) n_r_36 q) A) ([.ref y] : List Value).toArray s 0 0 A) (F0 m 44 ls []) := by
              intro k10
              induction k10 with
              | zero => intro q1 mn x12 x13 h1 h2; exact absurd h1 (by omega)
              | succ k10 ih44k10 =>
                intro q1 mn x12 x13 hi_q1 hk_q1 gmn hJ hDi h26 hpr H locs ls hP hS hl
                refine lv_iload_n hx hb dX7_flow_44 rfl (lv_at hl 0 rfl) ?_
                refine lv_iload_n hx hb dX7_flow_45 rfl (lv_at hl 1 rfl) ?_
                refine lv_icmp_ge (tgt := 140) hx hb dX7_flow_46 (by decide) (fun c14 => ?_) (fun c14 => ?_)
                · have b46 := qge_t (a := q1) (b := mn) (by omega) (by omega) c14
                  refine lv_aload_n hx hb dX7_flow_140 rfl (lv_at hl 3 rfl) ?_
                  refine va_get (D := G.1) (ci := 7) (v := .ref (b 37)) (C := RX7) (T := TX7) (N := 43) hx hb hts inX7 hown hK.1 hP 0 rfl rfl 37 (by decide) (hts _ mf_X7_101) (fun _ h9 => h9) rfl dX7_flow_141 ?_
                  refine lv_bipush (v := 27) hx hb dX7_flow_144 (by decide) ?_
                  refine xiald (f := x12) hx hb hK hP 31 (27) (rfl) (by omega) (by decide) rfl dX7_flow_146 ?_
                  refine lv_topi (fun v15 ev15 => ?_)
                  refine lv_iconst (v := -1) hx hb dX7_flow_147 (by decide) ?_
                  refine lv_icmp_ne (tgt := 153) hx hb dX7_flow_148 (by decide) (fun c16 => ?_) (fun c16 => ?_)
                  · obtain ⟨ps0, hps0, eps0⟩ := hJ.2.1 27 (by decide) (fun h => c16 (ev15.trans h))
                    refine lv_ldc hx hb hown (hts _ mk_X7_195) dX7_flow_153 ?_
                    refine lv_istore_n (lv' := [(3, .int 1000000000), (2, .int (nI mn)), (1, .int (nI al)), (0, .ref y)]) hx hb dX7_flow_155 rfl hl (by decide) rfl (fun ls hl => ?_)
                    refine lv_bipush (v := 27) hx hb dX7_flow_156 (by decide) ?_
                    refine lv_istore (lv' := [(4, .int 27), (3, .int 1000000000), (2, .int (nI mn)), (1, .int (nI al)), (0, .ref y)]) hx hb dX7_flow_158 hl (by decide) rfl (fun ls hl => ?_)
                    have loop160 : ∀ (k17 : Nat) (y7 : Nat) (nn : Nat) (ps : Nat) (dd : Nat), ps < k17 → (y7 < 28) → (0 < nn ∧ nn ≤ 1000000000) → (ps < mn ∧ x13 ps = nI y7) → (y7 = pt x12 dd) → (onW x12 x13 mn ps dd) → (∀ e, e < dd → eC x4 x12 nn e) → ∀ (H : Heap) (locs : List Loc) (ls : Array Slot), PP G (mM G y b f (up2 (up2 (up2 r 36 x4) 37 x12) 38 x13)) H → va_S A s.heap H locs → lv_has ls 6 [(4, .int (nI y7)), (3, .int (nI nn)), (1, .int (nI al)), (0, .ref y)] → W p l e ({ frames := 1, cells := 0, slots := 0, locals := 21 }) s m ([.ref y] : List Value).toArray below meth c H locs 0 0 (MQ below (QwI G (fun q w => ∃ (n_r_36 : Nat → Int32) (n_r_37 : Nat → Int32) (n_r_38 : Nat → Int32), w = mM G y b f (up2 (up2 (up2 r 36 n_r_36) 37 n_r_37) 38 n_r_38) ∧ FLX (r 36) n_r_36 q) A) ([.ref y] : List Value).toArray s 0 0 A) (F0 m 160 ls []) := by
                      intro k17
                      induction k17 with
                      | zero => intro y7 nn ps dd h1; exact absurd h1 (Nat.not_lt_zero _)
                      | succ k17 ih160k17 =>
                        intro  y7 nn ps dd hm_k17 gy7 gnn hps hyd hW hmin H locs ls hP hS hl
                        refine lv_iload hx hb dX7_flow_160 (lv_at hl 0 rfl) ?_
                        refine lv_bipush (v := 26) hx hb dX7_flow_162 (by decide) ?_
                        refine lv_icmp_eq (tgt := 202) hx hb dX7_flow_164 (by decide) (fun c21 => ?_) (fun c21 => ?_)
                        · have b164 := qeq_t (a := y7) (b := 26) (by omega) (by omega) c21
                          obtain ⟨D, eD⟩ : ∃ D : Nat, D = dd := ⟨_, rfl⟩
                          have hyD : 26 = pt x12 D := by rw [eD]; exact b164.symm.trans hyd
                          have hW := hW
                          rw [← eD] at hW
                          rw [← eD] at hmin
                          refine lv_bipush (v := 27) hx hb dX7_flow_202 (by decide) ?_
                          refine lv_istore (lv' := [(4, .int 27), (3, .int (nI nn)), (1, .int (nI al)), (0, .ref y)]) hx hb dX7_flow_204 hl (by decide) rfl (fun ls hl => ?_)
                          have loop206 : ∀ (k22 : Nat) (y7 : Nat) (ps : Nat) (dd : Nat) (x25 : Nat → Int32), ps < k22 → (y7 < 28) → (capOK x25) → (ps < mn ∧ x13 ps = nI y7) → (y7 = pt x12 dd) → (dd ≤ D) → (∀ e, dd ≤ e → e < D → x25 (28 * pt x12 (e + 1) + pt x12 e) = x4 (28 * pt x12 (e + 1) + pt x12 e)) → (sS x25 x4 y7) → (∀ a b, a < 28 → b < 28 → cA x25 a b = puC (pt x12) (nn : Int) (cA x4) dd a b) → ∀ (H : Heap) (locs : List Loc) (ls : Array Slot), PP G (mM G y b f (up2 (up2 (up2 r 36 x25) 37 x12) 38 x13)) H → va_S A s.heap H locs → lv_has ls 6 [(4, .int (nI y7)), (3, .int (nI nn)), (1, .int (nI al)), (0, .ref y)] → W p l e ({ frames := 1, cells := 0, slots := 0, locals := 21 }) s m ([.ref y] : List Value).toArray below meth c H locs 0 0 (MQ below (QwI G (fun q w => ∃ (n_r_36 : Nat → Int32) (n_r_37 : Nat → Int32) (n_r_38 : Nat → Int32), w = mM G y b f (up2 (up2 (up2 r 36 n_r_36) 37 n_r_37) 38 n_r_38) ∧ FLX (r 36) n_r_36 q) A) ([.ref y] : List Value).toArray s 0 0 A) (F0 m 206 ls []) := by
                            intro k22
                            induction k22 with
                            | zero => intro y7 ps dd x25 h1; exact absurd h1 (Nat.not_lt_zero _)
                            | succ k22 ih206k22 =>
                              intro  y7 ps dd x25 hm_k22 gy7 hcap hps hyd hdl hsame hsS hpu H locs ls hP hS hl
                              refine lv_iload hx hb dX7_flow_206 (lv_at hl 0 rfl) ?_
                              refine lv_bipush (v := 26) hx hb dX7_flow_208 (by decide) ?_
                              refine lv_icmp_eq (tgt := 269) hx hb dX7_flow_210 (by decide) (fun c26 => ?_) (fun c26 => ?_)
                              · have b210 := qeq_t (a := y7) (b := 26) (by omega) (by omega) c26
                                have edD : dd = D := Nat.le_antisymm hdl (Nat.not_lt.mp (fun z9 => hW.2.1 dd D z9 (Nat.le_refl _) (hyd.symm.trans (b210.trans hyD))))
                                refine lv_iload_n hx hb dX7_flow_269 rfl (lv_at hl 2 rfl) ?_
                                refine lv_iload_n hx hb dX7_flow_270 rfl (lv_at hl 1 rfl) ?_
                                refine lv_iadd hx hb dX7_flow_271 ?_
                                refine lv_topi (fun v27 ev27 => ?_)
                                obtain rfl : v27 = nI (al + nn) := nI_plus ev27 rfl rfl
                                refine lv_istore_n (lv' := [(1, .int (nI (al + nn))), (4, .int (nI y7)), (3, .int (nI nn)), (0, .ref y)]) hx hb dX7_flow_272 rfl hl (by decide) rfl (fun ls hl => ?_)
                                refine lv_goto (tgt := 2) hx hb dX7_flow_273 (by decide) ?_
                                exact ih2k1 (al + nn) x25 x12 x13 (by have h9 := hsS.elim (fun q => absurd b210 q.1) (fun q => q.2); omega) hcap (FLI_s hfl hW hyD (by rw [← edD]; exact hpu)) _ _ _ hP hS (lv_sub hl [0, 3] rfl)
                              · have b210 := qeq_f (a := y7) (b := 26) (by omega) (by omega) c26
                                obtain ⟨ps2, u7, hps2, hu7, eq7, ef7, -⟩ := wJ_up hJ hps.1 hps.2 gy7 b210 (by decide)
                                have hu := pt_s hyd ef7 (by omega)
                                have hdD : dd < D := Nat.lt_of_le_of_ne hdl (fun h => b210 (by rw [hyd, h]; exact hyD.symm))
                                obtain ⟨ca, eca0, hca, hca2⟩ := hmin dd hdD
                                have eca : x25 (28 * u7 + y7) = nI ca := by rw [hu, hyd]; exact (hsame dd (Nat.le_refl _) hdD).trans eca0
                                obtain ⟨cb2, cb, q9, ecb, hcs⟩ := hcap u7 y7 (by omega) gy7
                                have hne : u7 ≠ y7 := by rw [hu, hyd]; exact fun h => hW.2.1 dd (dd + 1) (by omega) (by omega) h.symm
                                have hcc9 : ca + cb ≤ 2000000000 := by have e9 := (nI_eq (by omega) (by omega)).mp (eca.symm.trans q9); omega
                                refine lv_aload_n hx hb dX7_flow_213 rfl (lv_at hl 3 rfl) ?_
                                refine va_get (D := G.1) (ci := 7) (v := .ref (b 36)) (C := RX7) (T := TX7) (N := 43) hx hb hts inX7 hown hK.1 hP 0 rfl rfl 36 (by decide) (hts _ mf_X7_98) (fun _ h9 => h9) rfl dX7_flow_214 ?_
                                refine lv_bipush (v := 28) hx hb dX7_flow_217 (by decide) ?_
                                refine lv_aload_n hx hb dX7_flow_219 rfl (lv_at hl 3 rfl) ?_
                                refine va_get (D := G.1) (ci := 7) (v := .ref (b 37)) (C := RX7) (T := TX7) (N := 43) hx hb hts inX7 hown hK.1 hP 0 rfl rfl 37 (by decide) (hts _ mf_X7_101) (fun _ h9 => h9) rfl dX7_flow_220 ?_
                                refine lv_iload hx hb dX7_flow_223 (lv_at hl 0 rfl) ?_
                                refine xiald (f := x12) hx hb hK hP 31 (y7) (rfl) (by omega) (by decide) rfl dX7_flow_225 ?_
                                refine lv_topi (fun v28 ev28 => ?_)
                                obtain rfl : v28 = nI (u7) := ev28.trans (ef7)
                                refine lv_imul hx hb dX7_flow_226 ?_
                                refine lv_topi (fun v29 ev29 => ?_)
                                obtain rfl : v29 = nI (28 * (u7)) := nI_times ev29 rfl rfl
                                refine lv_iload hx hb dX7_flow_227 (lv_at hl 0 rfl) ?_
                                refine lv_iadd hx hb dX7_flow_229 ?_
                                refine lv_topi (fun v30 ev30 => ?_)
                                obtain rfl : v30 = nI ((28 * (u7)) + y7) := nI_plus ev30 rfl rfl
                                refine lv_dup2_11 hx hb dX7_flow_230 rfl rfl ?_
                                refine xiald (f := x25) hx hb hK hP 30 (((28 * (u7)) + y7)) (rfl) (by omega) (by decide) rfl dX7_flow_231 ?_
                                refine lv_topi (fun v31 ev31 => ?_)
                                obtain rfl : v31 = nI (ca) := ev31.trans (eca)
                                refine lv_iload_n hx hb dX7_flow_232 rfl (lv_at hl 1 rfl) ?_
                                refine lv_isub hx hb dX7_flow_233 ?_
                                refine lv_topi (fun v32 ev32 => ?_)
                                obtain rfl : v32 = nI ((ca) - nn) := nI_minus ev32 rfl rfl (by omega)
                                refine xiast (f := x25) (x := (nI ((ca) - nn))) hx hb hK hP (hDD _ _) hS 30 (((28 * (u7)) + y7)) (rfl) (by omega) (by decide) rfl dX7_flow_234 (fun H locs hP _ hS => ?_)
                                have hP : PP G (mM G y b f (up2 (up2 (up2 r 36 (upd x25 (((28 * (u7)) + y7)) ((nI ((ca) - nn))))) 37 x12) 38 x13)) H := hP
                                refine lv_aload_n hx hb dX7_flow_235 rfl (lv_at hl 3 rfl) ?_
                                refine va_get (D := G.1) (ci := 7) (v := .ref (b 36)) (C := RX7) (T := TX7) (N := 43) hx hb hts inX7 hown hK.1 hP 0 rfl rfl 36 (by decide) (hts _ mf_X7_98) (fun _ h9 => h9) rfl dX7_flow_236 ?_
                                refine lv_bipush (v := 28) hx hb dX7_flow_239 (by decide) ?_
                                refine lv_iload hx hb dX7_flow_241 (lv_at hl 0 rfl) ?_
                                refine lv_imul hx hb dX7_flow_243 ?_
                                refine lv_topi (fun v33 ev33 => ?_)
                                obtain rfl : v33 = nI (28 * y7) := nI_times ev33 rfl rfl
                                refine lv_aload_n hx hb dX7_flow_244 rfl (lv_at hl 3 rfl) ?_
                                refine va_get (D := G.1) (ci := 7) (v := .ref (b 37)) (C := RX7) (T := TX7) (N := 43) hx hb hts inX7 hown hK.1 hP 0 rfl rfl 37 (by decide) (hts _ mf_X7_101) (fun _ h9 => h9) rfl dX7_flow_245 ?_
                                refine lv_iload hx hb dX7_flow_248 (lv_at hl 0 rfl) ?_
                                refine xiald (f := x12) hx hb hK hP 31 (y7) (rfl) (by omega) (by decide) rfl dX7_flow_250 ?_
                                refine lv_topi (fun v34 ev34 => ?_)
                                obtain rfl : v34 = nI (u7) := ev34.trans (ef7)
                                refine lv_iadd hx hb dX7_flow_251 ?_
                                refine lv_topi (fun v35 ev35 => ?_)
                                obtain rfl : v35 = nI ((28 * y7) + (u7)) := nI_plus ev35 rfl rfl
                                refine lv_dup2_11 hx hb dX7_flow_252 rfl rfl ?_
                                refine xiald (f := (upd x25 (((28 * (u7)) + y7)) ((nI ((ca) - nn))))) hx hb hK hP 30 (((28 * y7) + (u7))) (rfl) (by omega) (by decide) rfl dX7_flow_253 ?_
                                refine lv_topi (fun v36 ev36 => ?_)
                                obtain rfl : v36 = nI (cb) := ev36.trans ((pk_un (by omega)).trans ecb)
                                refine lv_iload_n hx hb dX7_flow_254 rfl (lv_at hl 1 rfl) ?_
                                refine lv_iadd hx hb dX7_flow_255 ?_
                                refine lv_topi (fun v37 ev37 => ?_)
                                obtain rfl : v37 = nI ((cb) + nn) := nI_plus ev37 rfl rfl
                                refine xiast (f := (upd x25 (((28 * (u7)) + y7)) ((nI ((ca) - nn))))) (x := (nI ((cb) + nn))) hx hb hK hP (hDD _ _) hS 30 (((28 * y7) + (u7))) (rfl) (by omega) (by decide) rfl dX7_flow_256 (fun H locs hP _ hS => ?_)
                                have hP : PP G (mM G y b f (up2 (up2 (up2 r 36 (upd (upd x25 (((28 * (u7)) + y7)) ((nI ((ca) - nn)))) (((28 * y7) + (u7))) ((nI ((cb) + nn))))) 37 x12) 38 x13)) H := hP
                                have hcap : capOK (upd (upd x25 (((28 * (u7)) + y7)) ((nI ((ca) - nn)))) (((28 * y7) + (u7))) ((nI ((cb) + nn)))) := cap_aug (u := u7) (y := y7) hcap hu7 gy7 hne eca ecb hca2 (by omega) hca
                                have hpu := fun (a b : Nat) (ha : a < 28) (hb : b < 28) => (cA_aug (n := nn) hu7 gy7 hne eca ecb hcc9 hca a b ha hb).trans (pu_c (hpu a b ha hb))
                                have hsame := same_s (ca := ca) (cb := cb) (n := nn) hW hsame hdD hyd hu
                                have hsS := sS_s (cb := cb) hsS b210 hu7 gy7 eca hca2 hca gnn.1 hne
                                refine lv_aload_n hx hb dX7_flow_257 rfl (lv_at hl 3 rfl) ?_
                                refine va_get (D := G.1) (ci := 7) (v := .ref (b 37)) (C := RX7) (T := TX7) (N := 43) hx hb hts inX7 hown hK.1 hP 0 rfl rfl 37 (by decide) (hts _ mf_X7_101) (fun _ h9 => h9) rfl dX7_flow_258 ?_
                                refine lv_iload hx hb dX7_flow_261 (lv_at hl 0 rfl) ?_
                                refine xiald (f := x12) hx hb hK hP 31 (y7) (rfl) (by omega) (by decide) rfl dX7_flow_263 ?_
                                refine lv_topi (fun v38 ev38 => ?_)
                                obtain rfl : v38 = nI (u7) := ev38.trans (ef7)
                                refine lv_istore (lv' := [(4, .int (nI (u7))), (3, .int (nI nn)), (1, .int (nI al)), (0, .ref y)]) hx hb dX7_flow_264 hl (by decide) rfl (fun ls hl => ?_)
                                refine lv_goto (tgt := 206) hx hb dX7_flow_266 (by decide) ?_
                                exact ih206k22 (u7) ps2 (dd + 1) (upd (upd x25 (((28 * (u7)) + y7)) ((nI ((ca) - nn)))) (((28 * y7) + (u7))) ((nI ((cb) + nn)))) (by omega) (by omega) hcap (⟨by omega, eq7⟩) (hu) (hdD) (hsame) (hsS) (fun a b ha hb => (hpu a b ha hb).trans (by rw [hu, hyd]; rfl)) _ _ _ hP hS (lv_sub hl [0, 1, 2, 3] rfl)
                          exact loop206 (ps0 + 1) 27 ps0 0 x4 (by omega) (by omega) hcap (⟨hps0, eps0⟩) (rfl) (Nat.zero_le _) (fun _ _ _ => rfl) (Or.inl ⟨by decide, rfl⟩) (fun _ _ _ _ => rfl) _ _ _ hP hS (lv_sub hl [0, 1, 2, 3] rfl)
                        · have b164 := qeq_f (a := y7) (b := 26) (by omega) (by omega) c21
                          obtain ⟨ps2, u7, hps2, hu7, eq7, ef7, hadj⟩ := wJ_up hJ hps.1 hps.2 gy7 b164 (by decide)
                          obtain ⟨ca, eca, hca, hca2⟩ := hadj
                          have hu := pt_s hyd ef7 (by omega)
                          refine lv_iload_n hx hb dX7_flow_167 rfl (lv_at hl 1 rfl) ?_
                          refine lv_aload_n hx hb dX7_flow_168 rfl (lv_at hl 3 rfl) ?_
                          refine va_get (D := G.1) (ci := 7) (v := .ref (b 36)) (C := RX7) (T := TX7) (N := 43) hx hb hts inX7 hown hK.1 hP 0 rfl rfl 36 (by decide) (hts _ mf_X7_98) (fun _ h9 => h9) rfl dX7_flow_169 ?_
                          refine lv_bipush (v := 28) hx hb dX7_flow_172 (by decide) ?_
                          refine lv_aload_n hx hb dX7_flow_174 rfl (lv_at hl 3 rfl) ?_
                          refine va_get (D := G.1) (ci := 7) (v := .ref (b 37)) (C := RX7) (T := TX7) (N := 43) hx hb hts inX7 hown hK.1 hP 0 rfl rfl 37 (by decide) (hts _ mf_X7_101) (fun _ h9 => h9) rfl dX7_flow_175 ?_
                          refine lv_iload hx hb dX7_flow_178 (lv_at hl 0 rfl) ?_
                          refine xiald (f := x12) hx hb hK hP 31 (y7) (rfl) (by omega) (by decide) rfl dX7_flow_180 ?_
                          refine lv_topi (fun v39 ev39 => ?_)
                          obtain rfl : v39 = nI (u7) := ev39.trans (ef7)
                          refine lv_imul hx hb dX7_flow_181 ?_
                          refine lv_topi (fun v40 ev40 => ?_)
                          obtain rfl : v40 = nI (28 * (u7)) := nI_times ev40 rfl rfl
                          refine lv_iload hx hb dX7_flow_182 (lv_at hl 0 rfl) ?_
                          refine lv_iadd hx hb dX7_flow_184 ?_
                          refine lv_topi (fun v41 ev41 => ?_)
                          obtain rfl : v41 = nI ((28 * (u7)) + y7) := nI_plus ev41 rfl rfl
                          refine xiald (f := x4) hx hb hK hP 30 (((28 * (u7)) + y7)) (rfl) (by omega) (by decide) rfl dX7_flow_185 ?_
                          refine lv_topi (fun v42 ev42 => ?_)
                          obtain rfl : v42 = nI (ca) := ev42.trans (eca)
                          refine va_mmin hx hb (hml.trans hl.1.symm) hown (hts _ ml_X7_207) (hts _ mst_yJ9_min_7cf53) (hts _ mz_RJ9) (hts _ mcode_yJ9_min_7cf53) (Nat.le_of_ble_eq_true rfl) (Nat.le_of_ble_eq_true rfl) (Nat.zero_le _) (Nat.zero_le _) dX7_flow_186 ?_
                          refine lv_topi (fun v43 ev43 => ?_)
                          obtain rfl : v43 = nI (min nn ca) := min_nat ev43 (by omega) (by omega)
                          refine lv_istore_n (lv' := [(3, .int (nI (min nn ca))), (4, .int (nI y7)), (1, .int (nI al)), (0, .ref y)]) hx hb dX7_flow_189 rfl hl (by decide) rfl (fun ls hl => ?_)
                          refine lv_aload_n hx hb dX7_flow_190 rfl (lv_at hl 3 rfl) ?_
                          refine va_get (D := G.1) (ci := 7) (v := .ref (b 37)) (C := RX7) (T := TX7) (N := 43) hx hb hts inX7 hown hK.1 hP 0 rfl rfl 37 (by decide) (hts _ mf_X7_101) (fun _ h9 => h9) rfl dX7_flow_191 ?_
                          refine lv_iload hx hb dX7_flow_194 (lv_at hl 1 rfl) ?_
                          refine xiald (f := x12) hx hb hK hP 31 (y7) (rfl) (by omega) (by decide) rfl dX7_flow_196 ?_
                          refine lv_topi (fun v44 ev44 => ?_)
                          obtain rfl : v44 = nI (u7) := ev44.trans (ef7)
                          refine lv_istore (lv' := [(4, .int (nI (u7))), (3, .int (nI (min nn ca))), (1, .int (nI al)), (0, .ref y)]) hx hb dX7_flow_197 hl (by decide) rfl (fun ls hl => ?_)
                          refine lv_goto (tgt := 160) hx hb dX7_flow_199 (by decide) ?_
                          exact ih160k17 (u7) (min nn ca) ps2 (dd + 1) (by omega) (by omega) (by omega) (⟨by omega, eq7⟩) (hu) (onW_s hW hDi hps2 eq7 hu7 hu) (eC_s hmin hyd hu eca hca2) _ _ _ hP hS (lv_sub hl [0, 1, 2, 3] rfl)
                    exact loop160 (ps0 + 1) 27 1000000000 ps0 0 (by omega) (by omega) (by omega) (⟨hps0, eps0⟩) (rfl) (onW_0 hps0 eps0) (fun e h => absurd h (Nat.not_lt_zero e)) _ _ _ hP hS (lv_sub hl [0, 1, 3, 4] rfl)
                  · have h279 : x12 27 = -1 := by rw [← ev15]; exact c16
                    refine lv_iload_n hx hb dX7_flow_151 rfl (lv_at hl 2 rfl) ?_
                    exact wr_iret hx hb hr hlocks hS hP ⟨x4, x12, x13, rfl, (FLX_of hfl hJ (by omega) h279 h26 hpr)⟩ dX7_flow_152
                · have b46 := qge_f (a := q1) (b := mn) (by omega) (by omega) c14
                  refine lv_aload_n hx hb dX7_flow_49 rfl (lv_at hl 3 rfl) ?_
                  refine va_get (D := G.1) (ci := 7) (v := .ref (b 37)) (C := RX7) (T := TX7) (N := 43) hx hb hts inX7 hown hK.1 hP 0 rfl rfl 37 (by decide) (hts _ mf_X7_101) (fun _ h9 => h9) rfl dX7_flow_50 ?_
                  refine lv_bipush (v := 27) hx hb dX7_flow_53 (by decide) ?_
                  refine xiald (f := x12) hx hb hK hP 31 (27) (rfl) (by omega) (by decide) rfl dX7_flow_55 ?_
                  refine lv_topi (fun v45 ev45 => ?_)
                  refine lv_iconst (v := -1) hx hb dX7_flow_56 (by decide) ?_
                  refine lv_icmp_ne (tgt := 140) hx hb dX7_flow_57 (by decide) (fun c46 => ?_) (fun c46 => ?_)
                  · refine lv_aload_n hx hb dX7_flow_140 rfl (lv_at hl 3 rfl) ?_
                    refine va_get (D := G.1) (ci := 7) (v := .ref (b 37)) (C := RX7) (T := TX7) (N := 43) hx hb hts inX7 hown hK.1 hP 0 rfl rfl 37 (by decide) (hts _ mf_X7_101) (fun _ h9 => h9) rfl dX7_flow_141 ?_
                    refine lv_bipush (v := 27) hx hb dX7_flow_144 (by decide) ?_
                    refine xiald (f := x12) hx hb hK hP 31 (27) (rfl) (by omega) (by decide) rfl dX7_flow_146 ?_
                    refine lv_topi (fun v47 ev47 => ?_)
                    refine lv_iconst (v := -1) hx hb dX7_flow_147 (by decide) ?_
                    refine lv_icmp_ne (tgt := 153) hx hb dX7_flow_148 (by decide) (fun c48 => ?_) (fun c48 => ?_)
                    · obtain ⟨ps0, hps0, eps0⟩ := hJ.2.1 27 (by decide) (fun h => c48 (ev47.trans h))
                      refine lv_ldc hx hb hown (hts _ mk_X7_195) dX7_flow_153 ?_
                      refine lv_istore_n (lv' := [(3, .int 1000000000), (2, .int (nI mn)), (1, .int (nI al)), (0, .ref y)]) hx hb dX7_flow_155 rfl hl (by decide) rfl (fun ls hl => ?_)
                      refine lv_bipush (v := 27) hx hb dX7_flow_156 (by decide) ?_
                      refine lv_istore (lv' := [(4, .int 27), (3, .int 1000000000), (2, .int (nI mn)), (1, .int (nI al)), (0, .ref y)]) hx hb dX7_flow_158 hl (by decide) rfl (fun ls hl => ?_)
                      have loop160 : ∀ (k49 : Nat) (y7 : Nat) (nn : Nat) (ps : Nat) (dd : Nat), ps < k49 → (y7 < 28) → (0 < nn ∧ nn ≤ 1000000000) → (ps < mn ∧ x13 ps = nI y7) → (y7 = pt x12 dd) → (onW x12 x13 mn ps dd) → (∀ e, e < dd → eC x4 x12 nn e) → ∀ (H : Heap) (locs : List Loc) (ls : Array Slot), PP G (mM G y b f (up2 (up2 (up2 r 36 x4) 37 x12) 38 x13)) H → va_S A s.heap H locs → lv_has ls 6 [(4, .int (nI y7)), (3, .int (nI nn)), (1, .int (nI al)), (0, .ref y)] → W p l e ({ frames := 1, cells := 0, slots := 0, locals := 21 }) s m ([.ref y] : List Value).toArray below meth c H locs 0 0 (MQ below (QwI G (fun q w => ∃ (n_r_36 : Nat → Int32) (n_r_37 : Nat → Int32) (n_r_38 : Nat → Int32), w = mM G y b f (up2 (up2 (up2 r 36 n_r_36) 37 n_r_37) 38 n_r_38) ∧ FLX (r 36) n_r_36 q) A) ([.ref y] : List Value).toArray s 0 0 A) (F0 m 160 ls []) := by
                        intro k49
                        induction k49 with
                        | zero => intro y7 nn ps dd h1; exact absurd h1 (Nat.not_lt_zero _)
                        | succ k49 ih160k49 =>
                          intro  y7 nn ps dd hm_k49 gy7 gnn hps hyd hW hmin H locs ls hP hS hl
                          refine lv_iload hx hb dX7_flow_160 (lv_at hl 0 rfl) ?_
                          refine lv_bipush (v := 26) hx hb dX7_flow_162 (by decide) ?_
                          refine lv_icmp_eq (tgt := 202) hx hb dX7_flow_164 (by decide) (fun c53 => ?_) (fun c53 => ?_)
                          · have b164 := qeq_t (a := y7) (b := 26) (by omega) (by omega) c53
                            obtain ⟨D, eD⟩ : ∃ D : Nat, D = dd := ⟨_, rfl⟩
                            have hyD : 26 = pt x12 D := by rw [eD]; exact b164.symm.trans hyd
                            have hW := hW
                            rw [← eD] at hW
                            rw [← eD] at hmin
                            refine lv_bipush (v := 27) hx hb dX7_flow_202 (by decide) ?_
                            refine lv_istore (lv' := [(4, .int 27), (3, .int (nI nn)), (1, .int (nI al)), (0, .ref y)]) hx hb dX7_flow_204 hl (by decide) rfl (fun ls hl => ?_)
                            have loop206 : ∀ (k54 : Nat) (y7 : Nat) (ps : Nat) (dd : Nat) (x57 : Nat → Int32), ps < k54 → (y7 < 28) → (capOK x57) → (ps < mn ∧ x13 ps = nI y7) → (y7 = pt x12 dd) → (dd ≤ D) → (∀ e, dd ≤ e → e < D → x57 (28 * pt x12 (e + 1) + pt x12 e) = x4 (28 * pt x12 (e + 1) + pt x12 e)) → (sS x57 x4 y7) → (∀ a b, a < 28 → b < 28 → cA x57 a b = puC (pt x12) (nn : Int) (cA x4) dd a b) → ∀ (H : Heap) (locs : List Loc) (ls : Array Slot), PP G (mM G y b f (up2 (up2 (up2 r 36 x57) 37 x12) 38 x13)) H → va_S A s.heap H locs → lv_has ls 6 [(4, .int (nI y7)), (3, .int (nI nn)), (1, .int (nI al)), (0, .ref y)] → W p l e ({ frames := 1, cells := 0, slots := 0, locals := 21 }) s m ([.ref y] : List Value).toArray below meth c H locs 0 0 (MQ below (QwI G (fun q w => ∃ (n_r_36 : Nat → Int32) (n_r_37 : Nat → Int32) (n_r_38 : Nat → Int32), w = mM G y b f (up2 (up2 (up2 r 36 n_r_36) 37 n_r_37) 38 n_r_38) ∧ FLX (r 36) n_r_36 q) A) ([.ref y] : List Value).toArray s 0 0 A) (F0 m 206 ls []) := by
                              intro k54
                              induction k54 with
                              | zero => intro y7 ps dd x57 h1; exact absurd h1 (Nat.not_lt_zero _)
                              | succ k54 ih206k54 =>
                                intro  y7 ps dd x57 hm_k54 gy7 hcap hps hyd hdl hsame hsS hpu H locs ls hP hS hl
                                refine lv_iload hx hb dX7_flow_206 (lv_at hl 0 rfl) ?_
                                refine lv_bipush (v := 26) hx hb dX7_flow_208 (by decide) ?_
                                refine lv_icmp_eq (tgt := 269) hx hb dX7_flow_210 (by decide) (fun c58 => ?_) (fun c58 => ?_)
                                · have b210 := qeq_t (a := y7) (b := 26) (by omega) (by omega) c58
                                  have edD : dd = D := Nat.le_antisymm hdl (Nat.not_lt.mp (fun z9 => hW.2.1 dd D z9 (Nat.le_refl _) (hyd.symm.trans (b210.trans hyD))))
                                  refine lv_iload_n hx hb dX7_flow_269 rfl (lv_at hl 2 rfl) ?_
                                  refine lv_iload_n hx hb dX7_flow_270 rfl (lv_at hl 1 rfl) ?_
                                  refine lv_iadd hx hb dX7_flow_271 ?_
                                  refine lv_topi (fun v59 ev59 => ?_)
                                  obtain rfl : v59 = nI (al + nn) := nI_plus ev59 rfl rfl
                                  refine lv_istore_n (lv' := [(1, .int (nI (al + nn))), (4, .int (nI y7)), (3, .int (nI nn)), (0, .ref y)]) hx hb dX7_flow_272 rfl hl (by decide) rfl (fun ls hl => ?_)
                                  refine lv_goto (tgt := 2) hx hb dX7_flow_273 (by decide) ?_
                                  exact ih2k1 (al + nn) x57 x12 x13 (by have h9 := hsS.elim (fun q => absurd b210 q.1) (fun q => q.2); omega) hcap (FLI_s hfl hW hyD (by rw [← edD]; exact hpu)) _ _ _ hP hS (lv_sub hl [0, 3] rfl)
                                · have b210 := qeq_f (a := y7) (b := 26) (by omega) (by omega) c58
                                  obtain ⟨ps2, u7, hps2, hu7, eq7, ef7, -⟩ := wJ_up hJ hps.1 hps.2 gy7 b210 (by decide)
                                  have hu := pt_s hyd ef7 (by omega)
                                  have hdD : dd < D := Nat.lt_of_le_of_ne hdl (fun h => b210 (by rw [hyd, h]; exact hyD.symm))
                                  obtain ⟨ca, eca0, hca, hca2⟩ := hmin dd hdD
                                  have eca : x57 (28 * u7 + y7) = nI ca := by rw [hu, hyd]; exact (hsame dd (Nat.le_refl _) hdD).trans eca0
                                  obtain ⟨cb2, cb, q9, ecb, hcs⟩ := hcap u7 y7 (by omega) gy7
                                  have hne : u7 ≠ y7 := by rw [hu, hyd]; exact fun h => hW.2.1 dd (dd + 1) (by omega) (by omega) h.symm
                                  have hcc9 : ca + cb ≤ 2000000000 := by have e9 := (nI_eq (by omega) (by omega)).mp (eca.symm.trans q9); omega
                                  refine lv_aload_n hx hb dX7_flow_213 rfl (lv_at hl 3 rfl) ?_
                                  refine va_get (D := G.1) (ci := 7) (v := .ref (b 36)) (C := RX7) (T := TX7) (N := 43) hx hb hts inX7 hown hK.1 hP 0 rfl rfl 36 (by decide) (hts _ mf_X7_98) (fun _ h9 => h9) rfl dX7_flow_214 ?_
                                  refine lv_bipush (v := 28) hx hb dX7_flow_217 (by decide) ?_
                                  refine lv_aload_n hx hb dX7_flow_219 rfl (lv_at hl 3 rfl) ?_
                                  refine va_get (D := G.1) (ci := 7) (v := .ref (b 37)) (C := RX7) (T := TX7) (N := 43) hx hb hts inX7 hown hK.1 hP 0 rfl rfl 37 (by decide) (hts _ mf_X7_101) (fun _ h9 => h9) rfl dX7_flow_220 ?_
                                  refine lv_iload hx hb dX7_flow_223 (lv_at hl 0 rfl) ?_
                                  refine xiald (f := x12) hx hb hK hP 31 (y7) (rfl) (by omega) (by decide) rfl dX7_flow_225 ?_
                                  refine lv_topi (fun v60 ev60 => ?_)
                                  obtain rfl : v60 = nI (u7) := ev60.trans (ef7)
                                  refine lv_imul hx hb dX7_flow_226 ?_
                                  refine lv_topi (fun v61 ev61 => ?_)
                                  obtain rfl : v61 = nI (28 * (u7)) := nI_times ev61 rfl rfl
                                  refine lv_iload hx hb dX7_flow_227 (lv_at hl 0 rfl) ?_
                                  refine lv_iadd hx hb dX7_flow_229 ?_
                                  refine lv_topi (fun v62 ev62 => ?_)
                                  obtain rfl : v62 = nI ((28 * (u7)) + y7) := nI_plus ev62 rfl rfl
                                  refine lv_dup2_11 hx hb dX7_flow_230 rfl rfl ?_
                                  refine xiald (f := x57) hx hb hK hP 30 (((28 * (u7)) + y7)) (rfl) (by omega) (by decide) rfl dX7_flow_231 ?_
                                  refine lv_topi (fun v63 ev63 => ?_)
                                  obtain rfl : v63 = nI (ca) := ev63.trans (eca)
                                  refine lv_iload_n hx hb dX7_flow_232 rfl (lv_at hl 1 rfl) ?_
                                  refine lv_isub hx hb dX7_flow_233 ?_
                                  refine lv_topi (fun v64 ev64 => ?_)
                                  obtain rfl : v64 = nI ((ca) - nn) := nI_minus ev64 rfl rfl (by omega)
                                  refine xiast (f := x57) (x := (nI ((ca) - nn))) hx hb hK hP (hDD _ _) hS 30 (((28 * (u7)) + y7)) (rfl) (by omega) (by decide) rfl dX7_flow_234 (fun H locs hP _ hS => ?_)
                                  have hP : PP G (mM G y b f (up2 (up2 (up2 r 36 (upd x57 (((28 * (u7)) + y7)) ((nI ((ca) - nn))))) 37 x12) 38 x13)) H := hP
                                  refine lv_aload_n hx hb dX7_flow_235 rfl (lv_at hl 3 rfl) ?_
                                  refine va_get (D := G.1) (ci := 7) (v := .ref (b 36)) (C := RX7) (T := TX7) (N := 43) hx hb hts inX7 hown hK.1 hP 0 rfl rfl 36 (by decide) (hts _ mf_X7_98) (fun _ h9 => h9) rfl dX7_flow_236 ?_
                                  refine lv_bipush (v := 28) hx hb dX7_flow_239 (by decide) ?_
                                  refine lv_iload hx hb dX7_flow_241 (lv_at hl 0 rfl) ?_
                                  refine lv_imul hx hb dX7_flow_243 ?_
                                  refine lv_topi (fun v65 ev65 => ?_)
                                  obtain rfl : v65 = nI (28 * y7) := nI_times ev65 rfl rfl
                                  refine lv_aload_n hx hb dX7_flow_244 rfl (lv_at hl 3 rfl) ?_
                                  refine va_get (D := G.1) (ci := 7) (v := .ref (b 37)) (C := RX7) (T := TX7) (N := 43) hx hb hts inX7 hown hK.1 hP 0 rfl rfl 37 (by decide) (hts _ mf_X7_101) (fun _ h9 => h9) rfl dX7_flow_245 ?_
                                  refine lv_iload hx hb dX7_flow_248 (lv_at hl 0 rfl) ?_
                                  refine xiald (f := x12) hx hb hK hP 31 (y7) (rfl) (by omega) (by decide) rfl dX7_flow_250 ?_
                                  refine lv_topi (fun v66 ev66 => ?_)
                                  obtain rfl : v66 = nI (u7) := ev66.trans (ef7)
                                  refine lv_iadd hx hb dX7_flow_251 ?_
                                  refine lv_topi (fun v67 ev67 => ?_)
                                  obtain rfl : v67 = nI ((28 * y7) + (u7)) := nI_plus ev67 rfl rfl
                                  refine lv_dup2_11 hx hb dX7_flow_252 rfl rfl ?_
                                  refine xiald (f := (upd x57 (((28 * (u7)) + y7)) ((nI ((ca) - nn))))) hx hb hK hP 30 (((28 * y7) + (u7))) (rfl) (by omega) (by decide) rfl dX7_flow_253 ?_
                                  refine lv_topi (fun v68 ev68 => ?_)
                                  obtain rfl : v68 = nI (cb) := ev68.trans ((pk_un (by omega)).trans ecb)
                                  refine lv_iload_n hx hb dX7_flow_254 rfl (lv_at hl 1 rfl) ?_
                                  refine lv_iadd hx hb dX7_flow_255 ?_
                                  refine lv_topi (fun v69 ev69 => ?_)
                                  obtain rfl : v69 = nI ((cb) + nn) := nI_plus ev69 rfl rfl
                                  refine xiast (f := (upd x57 (((28 * (u7)) + y7)) ((nI ((ca) - nn))))) (x := (nI ((cb) + nn))) hx hb hK hP (hDD _ _) hS 30 (((28 * y7) + (u7))) (rfl) (by omega) (by decide) rfl dX7_flow_256 (fun H locs hP _ hS => ?_)
                                  have hP : PP G (mM G y b f (up2 (up2 (up2 r 36 (upd (upd x57 (((28 * (u7)) + y7)) ((nI ((ca) - nn)))) (((28 * y7) + (u7))) ((nI ((cb) + nn))))) 37 x12) 38 x13)) H := hP
                                  have hcap : capOK (upd (upd x57 (((28 * (u7)) + y7)) ((nI ((ca) - nn)))) (((28 * y7) + (u7))) ((nI ((cb) + nn)))) := cap_aug (u := u7) (y := y7) hcap hu7 gy7 hne eca ecb hca2 (by omega) hca
                                  have hpu := fun (a b : Nat) (ha : a < 28) (hb : b < 28) => (cA_aug (n := nn) hu7 gy7 hne eca ecb hcc9 hca a b ha hb).trans (pu_c (hpu a b ha hb))
                                  have hsame := same_s (ca := ca) (cb := cb) (n := nn) hW hsame hdD hyd hu
                                  have hsS := sS_s (cb := cb) hsS b210 hu7 gy7 eca hca2 hca gnn.1 hne
                                  refine lv_aload_n hx hb dX7_flow_257 rfl (lv_at hl 3 rfl) ?_
                                  refine va_get (D := G.1) (ci := 7) (v := .ref (b 37)) (C := RX7) (T := TX7) (N := 43) hx hb hts inX7 hown hK.1 hP 0 rfl rfl 37 (by decide) (hts _ mf_X7_101) (fun _ h9 => h9) rfl dX7_flow_258 ?_
                                  refine lv_iload hx hb dX7_flow_261 (lv_at hl 0 rfl) ?_
                                  refine xiald (f := x12) hx hb hK hP 31 (y7) (rfl) (by omega) (by decide) rfl dX7_flow_263 ?_
                                  refine lv_topi (fun v70 ev70 => ?_)
                                  obtain rfl : v70 = nI (u7) := ev70.trans (ef7)
                                  refine lv_istore (lv' := [(4, .int (nI (u7))), (3, .int (nI nn)), (1, .int (nI al)), (0, .ref y)]) hx hb dX7_flow_264 hl (by decide) rfl (fun ls hl => ?_)
                                  refine lv_goto (tgt := 206) hx hb dX7_flow_266 (by decide) ?_
                                  exact ih206k54 (u7) ps2 (dd + 1) (upd (upd x57 (((28 * (u7)) + y7)) ((nI ((ca) - nn)))) (((28 * y7) + (u7))) ((nI ((cb) + nn)))) (by omega) (by omega) hcap (⟨by omega, eq7⟩) (hu) (hdD) (hsame) (hsS) (fun a b ha hb => (hpu a b ha hb).trans (by rw [hu, hyd]; rfl)) _ _ _ hP hS (lv_sub hl [0, 1, 2, 3] rfl)
                            exact loop206 (ps0 + 1) 27 ps0 0 x4 (by omega) (by omega) hcap (⟨hps0, eps0⟩) (rfl) (Nat.zero_le _) (fun _ _ _ => rfl) (Or.inl ⟨by decide, rfl⟩) (fun _ _ _ _ => rfl) _ _ _ hP hS (lv_sub hl [0, 1, 2, 3] rfl)
                          · have b164 := qeq_f (a := y7) (b := 26) (by omega) (by omega) c53
                            obtain ⟨ps2, u7, hps2, hu7, eq7, ef7, hadj⟩ := wJ_up hJ hps.1 hps.2 gy7 b164 (by decide)
                            obtain ⟨ca, eca, hca, hca2⟩ := hadj
                            have hu := pt_s hyd ef7 (by omega)
                            refine lv_iload_n hx hb dX7_flow_167 rfl (lv_at hl 1 rfl) ?_
                            refine lv_aload_n hx hb dX7_flow_168 rfl (lv_at hl 3 rfl) ?_
                            refine va_get (D := G.1) (ci := 7) (v := .ref (b 36)) (C := RX7) (T := TX7) (N := 43) hx hb hts inX7 hown hK.1 hP 0 rfl rfl 36 (by decide) (hts _ mf_X7_98) (fun _ h9 => h9) rfl dX7_flow_169 ?_
                            refine lv_bipush (v := 28) hx hb dX7_flow_172 (by decide) ?_
                            refine lv_aload_n hx hb dX7_flow_174 rfl (lv_at hl 3 rfl) ?_
                            refine va_get (D := G.1) (ci := 7) (v := .ref (b 37)) (C := RX7) (T := TX7) (N := 43) hx hb hts inX7 hown hK.1 hP 0 rfl rfl 37 (by decide) (hts _ mf_X7_101) (fun _ h9 => h9) rfl dX7_flow_175 ?_
                            refine lv_iload hx hb dX7_flow_178 (lv_at hl 0 rfl) ?_
                            refine xiald (f := x12) hx hb hK hP 31 (y7) (rfl) (by omega) (by decide) rfl dX7_flow_180 ?_
                            refine lv_topi (fun v71 ev71 => ?_)
                            obtain rfl : v71 = nI (u7) := ev71.trans (ef7)
                            refine lv_imul hx hb dX7_flow_181 ?_
                            refine lv_topi (fun v72 ev72 => ?_)
                            obtain rfl : v72 = nI (28 * (u7)) := nI_times ev72 rfl rfl
                            refine lv_iload hx hb dX7_flow_182 (lv_at hl 0 rfl) ?_
                            refine lv_iadd hx hb dX7_flow_184 ?_
                            refine lv_topi (fun v73 ev73 => ?_)
                            obtain rfl : v73 = nI ((28 * (u7)) + y7) := nI_plus ev73 rfl rfl
                            refine xiald (f := x4) hx hb hK hP 30 (((28 * (u7)) + y7)) (rfl) (by omega) (by decide) rfl dX7_flow_185 ?_
                            refine lv_topi (fun v74 ev74 => ?_)
                            obtain rfl : v74 = nI (ca) := ev74.trans (eca)
                            refine va_mmin hx hb (hml.trans hl.1.symm) hown (hts _ ml_X7_207) (hts _ mst_yJ9_min_7cf53) (hts _ mz_RJ9) (hts _ mcode_yJ9_min_7cf53) (Nat.le_of_ble_eq_true rfl) (Nat.le_of_ble_eq_true rfl) (Nat.zero_le _) (Nat.zero_le _) dX7_flow_186 ?_
                            refine lv_topi (fun v75 ev75 => ?_)
                            obtain rfl : v75 = nI (min nn ca) := min_nat ev75 (by omega) (by omega)
                            refine lv_istore_n (lv' := [(3, .int (nI (min nn ca))), (4, .int (nI y7)), (1, .int (nI al)), (0, .ref y)]) hx hb dX7_flow_189 rfl hl (by decide) rfl (fun ls hl => ?_)
                            refine lv_aload_n hx hb dX7_flow_190 rfl (lv_at hl 3 rfl) ?_
                            refine va_get (D := G.1) (ci := 7) (v := .ref (b 37)) (C := RX7) (T := TX7) (N := 43) hx hb hts inX7 hown hK.1 hP 0 rfl rfl 37 (by decide) (hts _ mf_X7_101) (fun _ h9 => h9) rfl dX7_flow_191 ?_
                            refine lv_iload hx hb dX7_flow_194 (lv_at hl 1 rfl) ?_
                            refine xiald (f := x12) hx hb hK hP 31 (y7) (rfl) (by omega) (by decide) rfl dX7_flow_196 ?_
                            refine lv_topi (fun v76 ev76 => ?_)
                            obtain rfl : v76 = nI (u7) := ev76.trans (ef7)
                            refine lv_istore (lv' := [(4, .int (nI (u7))), (3, .int (nI (min nn ca))), (1, .int (nI al)), (0, .ref y)]) hx hb dX7_flow_197 hl (by decide) rfl (fun ls hl => ?_)
                            refine lv_goto (tgt := 160) hx hb dX7_flow_199 (by decide) ?_
                            exact ih160k49 (u7) (min nn ca) ps2 (dd + 1) (by omega) (by omega) (by omega) (⟨by omega, eq7⟩) (hu) (onW_s hW hDi hps2 eq7 hu7 hu) (eC_s hmin hyd hu eca hca2) _ _ _ hP hS (lv_sub hl [0, 1, 2, 3] rfl)
                      exact loop160 (ps0 + 1) 27 1000000000 ps0 0 (by omega) (by omega) (by omega) (⟨hps0, eps0⟩) (rfl) (onW_0 hps0 eps0) (fun e h => absurd h (Nat.not_lt_zero e)) _ _ _ hP hS (lv_sub hl [0, 1, 3, 4] rfl)
                    · exact absurd (by rw [ev45, ← ev47]; exact c48) c46
                  · refine lv_aload_n hx hb dX7_flow_60 rfl (lv_at hl 3 rfl) ?_
                    refine va_get (D := G.1) (ci := 7) (v := .ref (b 38)) (C := RX7) (T := TX7) (N := 43) hx hb hts inX7 hown hK.1 hP 0 rfl rfl 38 (by decide) (hts _ mf_X7_104) (fun _ h9 => h9) rfl dX7_flow_61 ?_
                    refine lv_iload_n hx hb dX7_flow_64 rfl (lv_at hl 0 rfl) ?_
                    refine xiald (f := x13) hx hb hK hP 32 (q1) (rfl) (by omega) (by decide) rfl dX7_flow_65 ?_
                    refine lv_topi (fun v77 ev77 => ?_)
                    obtain ⟨nd, hnd, end_⟩ := wJ_at hJ b46
                    obtain rfl : v77 = nI (nd) := ev77.trans (end_)
                    refine lv_istore (lv' := [(4, .int (nI (nd))), (3, .int (nI q1)), (2, .int (nI mn)), (1, .int (nI al)), (0, .ref y)]) hx hb dX7_flow_66 hl (by decide) rfl (fun ls hl => ?_)
                    refine lv_iconst (v := 0) hx hb dX7_flow_68 (by decide) ?_
                    refine lv_istore (lv' := [(5, .int 0), (4, .int (nI (nd))), (3, .int (nI q1)), (2, .int (nI mn)), (1, .int (nI al)), (0, .ref y)]) hx hb dX7_flow_69 hl (by decide) rfl (fun ls hl => ?_)
                    have loop71 : ∀ (k78 j : Nat) (mn : Nat) (x80 : Nat → Int32) (x81 : Nat → Int32), j ≤ 28 → 28 < j + k78 → (mn ≤ 28) → (wJ 28 (adjC x4) 26 x80 x81 mn) → (qDi x81 mn) → (q1 < mn ∧ x81 q1 = nI nd) → (¬ x80 26 = -1) → (∀ k u v, k < q1 → u < 28 → v < 28 → x81 k = nI u → ¬ cA x4 u v = 0 → ¬ x80 v = -1) → (∀ v, v < j → ¬ cA x4 nd v = 0 → ¬ x80 v = -1) → ∀ (H : Heap) (locs : List Loc) (ls : Array Slot), PP G (mM G y b f (up2 (up2 (up2 r 36 x4) 37 x80) 38 x81)) H → va_S A s.heap H locs → lv_has ls 6 [(5, .int (nI j)), (4, .int (nI (nd))), (3, .int (nI q1)), (2, .int (nI mn)), (1, .int (nI al)), (0, .ref y)] → W p l e ({ frames := 1, cells := 0, slots := 0, locals := 21 }) s m ([.ref y] : List Value).toArray below meth c H locs 0 0 (MQ below (QwI G (fun q w => ∃ (n_r_36 : Nat → Int32) (n_r_37 : Nat → Int32) (n_r_38 : Nat → Int32), w = mM G y b f (up2 (up2 (up2 r 36 n_r_36) 37 n_r_37) 38 n_r_38) ∧ FLX (r 36) n_r_36 q) A) ([.ref y] : List Value).toArray s 0 0 A) (F0 m 71 ls []) := by
                      intro k78
                      induction k78 with
                      | zero => intro j mn x80 x81 h1 h2; exact absurd h1 (by omega)
                      | succ k78 ih71k78 =>
                        intro j mn x80 x81 hi_j hk_j gmn hJ hDi hqd h26 hpr hin H locs ls hP hS hl
                        refine lv_iload hx hb dX7_flow_71 (lv_at hl 0 rfl) ?_
                        refine lv_bipush (v := 28) hx hb dX7_flow_73 (by decide) ?_
                        refine lv_icmp_ge (tgt := 134) hx hb dX7_flow_75 (by decide) (fun c82 => ?_) (fun c82 => ?_)
                        · have b75 := qge_t (a := j) (b := 28) (by omega) (by omega) c82
                          obtain ⟨v83, ev83⟩ : ∃ y9 : Int32, y9 = (nI q1) + Int32.ofInt (1) := ⟨_, rfl⟩
                          refine lv_iinc (v := v83) (lv' := [(3, .int v83), (5, .int (nI j)), (4, .int (nI (nd))), (2, .int (nI mn)), (1, .int (nI al)), (0, .ref y)]) hx hb dX7_flow_134 hl (k := 2) rfl ev83.symm (by decide) rfl (fun ls hl => ?_)
                          obtain rfl : v83 = nI (q1 + 1) := nI_plus (i := q1) (j := 1) ev83 rfl (by decide)
                          refine lv_goto (tgt := 44) hx hb dX7_flow_137 (by decide) ?_
                          exact ih44k10 (q1 + 1) mn x80 x81 (by omega) (by omega) (by omega) (hJ) (hDi) (h26) (fun k u v hk hu hv h8 h9 => if c8 : k = q1 then (by rw [c8] at h8; have e9 := (nI_eq (by omega) (by omega)).mp (h8.symm.trans hqd.2); rw [e9] at h9; exact hin v (by omega) h9) else hpr k u v (by omega) hu hv h8 h9) _ _ _ hP hS (lv_sub hl [0, 3, 4, 5] rfl)
                        · have b75 := qge_f (a := j) (b := 28) (by omega) (by omega) c82
                          refine lv_aload_n hx hb dX7_flow_78 rfl (lv_at hl 5 rfl) ?_
                          refine va_get (D := G.1) (ci := 7) (v := .ref (b 37)) (C := RX7) (T := TX7) (N := 43) hx hb hts inX7 hown hK.1 hP 0 rfl rfl 37 (by decide) (hts _ mf_X7_101) (fun _ h9 => h9) rfl dX7_flow_79 ?_
                          refine lv_iload hx hb dX7_flow_82 (lv_at hl 0 rfl) ?_
                          refine xiald (f := x80) hx hb hK hP 31 (j) (rfl) (by omega) (by decide) rfl dX7_flow_84 ?_
                          refine lv_topi (fun v84 ev84 => ?_)
                          refine lv_iconst (v := -1) hx hb dX7_flow_85 (by decide) ?_
                          refine lv_icmp_ne (tgt := 128) hx hb dX7_flow_86 (by decide) (fun c85 => ?_) (fun c85 => ?_)
                          · obtain ⟨v86, ev86⟩ : ∃ y9 : Int32, y9 = (nI j) + Int32.ofInt (1) := ⟨_, rfl⟩
                            refine lv_iinc (v := v86) (lv' := [(5, .int v86), (4, .int (nI (nd))), (3, .int (nI q1)), (2, .int (nI mn)), (1, .int (nI al)), (0, .ref y)]) hx hb dX7_flow_128 hl (k := 0) rfl ev86.symm (by decide) rfl (fun ls hl => ?_)
                            obtain rfl : v86 = nI (j + 1) := nI_plus (i := j) (j := 1) ev86 rfl (by decide)
                            refine lv_goto (tgt := 71) hx hb dX7_flow_131 (by decide) ?_
                            exact ih71k78 (j + 1) mn x80 x81 (by omega) (by omega) (by omega) (hJ) (hDi) (hqd) (h26) (hpr) (fun v hv h9 => if c8 : v = j then (fun z9 => c85 (by rw [ev84, ← c8]; exact z9)) else hin v (by omega) h9) _ _ _ hP hS (lv_sub hl [0, 1, 2, 3, 4, 5] rfl)
                          · refine lv_aload_n hx hb dX7_flow_89 rfl (lv_at hl 5 rfl) ?_
                            refine va_get (D := G.1) (ci := 7) (v := .ref (b 36)) (C := RX7) (T := TX7) (N := 43) hx hb hts inX7 hown hK.1 hP 0 rfl rfl 36 (by decide) (hts _ mf_X7_98) (fun _ h9 => h9) rfl dX7_flow_90 ?_
                            refine lv_bipush (v := 28) hx hb dX7_flow_93 (by decide) ?_
                            refine lv_iload hx hb dX7_flow_95 (lv_at hl 1 rfl) ?_
                            refine lv_imul hx hb dX7_flow_97 ?_
                            refine lv_topi (fun v87 ev87 => ?_)
                            obtain rfl : v87 = nI (28 * (nd)) := nI_times ev87 rfl rfl
                            refine lv_iload hx hb dX7_flow_98 (lv_at hl 0 rfl) ?_
                            refine lv_iadd hx hb dX7_flow_100 ?_
                            refine lv_topi (fun v88 ev88 => ?_)
                            obtain rfl : v88 = nI ((28 * (nd)) + j) := nI_plus ev88 rfl rfl
                            refine xiald (f := x4) hx hb hK hP 30 (((28 * (nd)) + j)) (rfl) (by omega) (by decide) rfl dX7_flow_101 ?_
                            refine lv_topi (fun v89 ev89 => ?_)
                            obtain ⟨ca, cb, eca, ecb, hcs⟩ := hcap nd j (by omega) (by omega)
                            obtain rfl : v89 = nI (ca) := ev89.trans (eca)
                            refine lv_if_ne (tgt := 108) hx hb dX7_flow_102 (by decide) (fun c90 => ?_) (fun c90 => ?_)
                            · have b102 := qeq_f (a := (ca)) (b := 0) (by omega) (by omega) c90
                              have hlt28 := wJ_lt hJ (show j < 28 by omega) (ev84.symm.trans c85)
                              refine lv_aload_n hx hb dX7_flow_108 rfl (lv_at hl 5 rfl) ?_
                              refine va_get (D := G.1) (ci := 7) (v := .ref (b 37)) (C := RX7) (T := TX7) (N := 43) hx hb hts inX7 hown hK.1 hP 0 rfl rfl 37 (by decide) (hts _ mf_X7_101) (fun _ h9 => h9) rfl dX7_flow_109 ?_
                              refine lv_iload hx hb dX7_flow_112 (lv_at hl 0 rfl) ?_
                              refine lv_iload hx hb dX7_flow_114 (lv_at hl 1 rfl) ?_
                              refine xiast (f := x80) (x := (nI (nd))) hx hb hK hP (hDD _ _) hS 31 (j) (rfl) (by omega) (by decide) rfl dX7_flow_116 (fun H locs hP _ hS => ?_)
                              have hP : PP G (mM G y b f (up2 (up2 (up2 r 36 x4) 37 (upd x80 (j) ((nI (nd))))) 38 x81)) H := hP
                              refine lv_aload_n hx hb dX7_flow_117 rfl (lv_at hl 5 rfl) ?_
                              refine va_get (D := G.1) (ci := 7) (v := .ref (b 38)) (C := RX7) (T := TX7) (N := 43) hx hb hts inX7 hown hK.1 hP 0 rfl rfl 38 (by decide) (hts _ mf_X7_104) (fun _ h9 => h9) rfl dX7_flow_118 ?_
                              refine lv_iload_n hx hb dX7_flow_121 rfl (lv_at hl 3 rfl) ?_
                              refine lv_iload hx hb dX7_flow_122 (lv_at hl 0 rfl) ?_
                              refine xiast (f := x81) (x := (nI j)) hx hb hK hP (hDD _ _) hS 32 (mn) (rfl) (by omega) (by decide) rfl dX7_flow_124 (fun H locs hP _ hS => ?_)
                              have hP : PP G (mM G y b f (up2 (up2 (up2 r 36 x4) 37 (upd x80 (j) ((nI (nd))))) 38 (upd x81 (mn) ((nI j))))) H := hP
                              have hDi := qDi_s hDi hJ (show j < 28 by omega) (ev84.symm.trans c85) (by decide)
                              have hmn9 := hqd.1
                              have hJ := wJ_s hJ hqd.1 hqd.2 hnd (show j < 28 by omega) (ev84.symm.trans c85) ⟨ca, eca, by omega, by omega⟩ (by decide)
                              have hqd := And.intro (show q1 < mn + 1 by omega) ((pk_un (f := x81) (x := nI j) (show q1 ≠ mn by omega)).trans hqd.2)
                              obtain ⟨v91, ev91⟩ : ∃ y9 : Int32, y9 = (nI mn) + Int32.ofInt (1) := ⟨_, rfl⟩
                              refine lv_iinc (v := v91) (lv' := [(2, .int v91), (5, .int (nI j)), (4, .int (nI (nd))), (3, .int (nI q1)), (1, .int (nI al)), (0, .ref y)]) hx hb dX7_flow_125 hl (k := 3) rfl ev91.symm (by decide) rfl (fun ls hl => ?_)
                              obtain rfl : v91 = nI (mn + 1) := nI_plus (i := mn) (j := 1) ev91 rfl (by decide)
                              obtain ⟨v92, ev92⟩ : ∃ y9 : Int32, y9 = (nI j) + Int32.ofInt (1) := ⟨_, rfl⟩
                              refine lv_iinc (v := v92) (lv' := [(5, .int v92), (2, .int (nI (mn + 1))), (4, .int (nI (nd))), (3, .int (nI q1)), (1, .int (nI al)), (0, .ref y)]) hx hb dX7_flow_128 hl (k := 1) rfl ev92.symm (by decide) rfl (fun ls hl => ?_)
                              obtain rfl : v92 = nI (j + 1) := nI_plus (i := j) (j := 1) ev92 rfl (by decide)
                              refine lv_goto (tgt := 71) hx hb dX7_flow_131 (by decide) ?_
                              exact ih71k78 (j + 1) (mn + 1) (upd x80 (j) ((nI (nd)))) (upd x81 (mn) ((nI j))) (by omega) (by omega) (by omega) (hJ) (hDi) (hqd) (if c8 : 26 = j then (by rw [c8, pk_us]; exact nI_nm1 (by omega)) else (by rw [pk_un c8]; exact h26)) (fun k u v hk hu hv h8 h9 => if c8 : v = j then (by rw [c8, pk_us]; exact nI_nm1 (by omega)) else (by rw [pk_un c8]; exact hpr k u v hk hu hv ((pk_un (show k ≠ mn by omega)).symm.trans h8) h9)) (fun v hv h9 => if c8 : v = j then (by rw [c8, pk_us]; exact nI_nm1 (by omega)) else (by rw [pk_un c8]; exact hin v (by omega) h9)) _ _ _ hP hS (lv_sub hl [0, 2, 3, 1, 4, 5] rfl)
                            · have b102 := qeq_t (a := (ca)) (b := 0) (by omega) (by omega) c90
                              have hce9 : cA x4 nd j = 0 := by rw [cA_e eca (by omega)]; omega
                              refine lv_goto (tgt := 128) hx hb dX7_flow_105 (by decide) ?_
                              obtain ⟨v93, ev93⟩ : ∃ y9 : Int32, y9 = (nI j) + Int32.ofInt (1) := ⟨_, rfl⟩
                              refine lv_iinc (v := v93) (lv' := [(5, .int v93), (4, .int (nI (nd))), (3, .int (nI q1)), (2, .int (nI mn)), (1, .int (nI al)), (0, .ref y)]) hx hb dX7_flow_128 hl (k := 0) rfl ev93.symm (by decide) rfl (fun ls hl => ?_)
                              obtain rfl : v93 = nI (j + 1) := nI_plus (i := j) (j := 1) ev93 rfl (by decide)
                              refine lv_goto (tgt := 71) hx hb dX7_flow_131 (by decide) ?_
                              exact ih71k78 (j + 1) mn x80 x81 (by omega) (by omega) (by omega) (hJ) (hDi) (hqd) (h26) (hpr) (fun v hv h9 => if c8 : v = j then absurd (by rw [c8]; exact hce9) h9 else hin v (by omega) h9) _ _ _ hP hS (lv_sub hl [0, 1, 2, 3, 4, 5] rfl)
                    exact loop71 (28 + 1) 0 mn x12 x13 (by omega) (by omega) (by omega) (hJ) (hDi) (⟨b46, end_⟩) (h26) (hpr) (fun v hv => absurd hv (by omega)) _ _ _ hP hS (lv_sub hl [0, 1, 2, 3, 4, 5] rfl)
            exact loop44 (28 + 1) 0 1 (upd x8 (26) (26)) (upd x6 (0) (26)) (by omega) (by omega) (by omega) (hJ) (hDi) (h26) (fun k u v hk => absurd hk (by omega)) _ _ _ hP hS (lv_sub hl [0, 1, 2, 3] rfl)
          · have b7 := qge_f (a := i) (b := 28) (by omega) (by omega) c9
            refine lv_aload_n hx hb dX7_flow_10 rfl (lv_at hl 2 rfl) ?_
            refine va_get (D := G.1) (ci := 7) (v := .ref (b 37)) (C := RX7) (T := TX7) (N := 43) hx hb hts inX7 hown hK.1 hP 0 rfl rfl 37 (by decide) (hts _ mf_X7_101) (fun _ h9 => h9) rfl dX7_flow_11 ?_
            refine lv_iload_n hx hb dX7_flow_14 rfl (lv_at hl 0 rfl) ?_
            refine lv_iconst (v := -1) hx hb dX7_flow_15 (by decide) ?_
            refine xiast (f := x8) (x := (-1)) hx hb hK hP (hDD _ _) hS 31 (i) (rfl) (by omega) (by decide) rfl dX7_flow_16 (fun H locs hP _ hS => ?_)
            have hP : PP G (mM G y b f (up2 (up2 (up2 r 36 x4) 37 (upd x8 (i) ((-1)))) 38 x6)) H := hP
            obtain ⟨v94, ev94⟩ : ∃ y9 : Int32, y9 = (nI i) + Int32.ofInt (1) := ⟨_, rfl⟩
            refine lv_iinc (v := v94) (lv' := [(2, .int v94), (1, .int (nI al)), (0, .ref y)]) hx hb dX7_flow_17 hl (k := 0) rfl ev94.symm (by decide) rfl (fun ls hl => ?_)
            obtain rfl : v94 = nI (i + 1) := nI_plus (i := i) (j := 1) ev94 rfl (by decide)
            refine lv_goto (tgt := 4) hx hb dX7_flow_20 (by decide) ?_
            exact ih4k7 (i + 1) (upd x8 (i) ((-1))) (by omega) (by omega) (fr_s hfr) _ _ _ hP hS (lv_sub hl [0, 1, 2] rfl)
      exact loop4 (28 + 1) 0 x5 (by omega) (by omega) (fun n h => absurd h (Nat.not_lt_zero n)) _ _ _ hP hS (lv_sub hl [0, 1, 2] rfl)
  exact loop2 (sC (r 36) 28 + 1) 0 (r 36) (r 37) (r 38) (Nat.lt_succ_self _) hcap (FLI_0 _) _ _ _ hP hS (lv_sub hl [0, 1] rfl)
