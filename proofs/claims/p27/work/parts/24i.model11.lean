
noncomputable def KM (r4 r5 r6 r7 r8 r9 r10 : Nat → Int32) (t x y : Nat) : Bool := pB (kpM r4 r5 r6 r7 r8 r9 r10 t (144 * t + 12 * x + y))
def mtM (r3 r5 r11 r13 r14 : Nat → Int32) (t bk i q : Nat) : Prop := sndN (r3 t) r11 r5 t q ∧ (clM r13 r14 t (nI q) bk).1 = (clM r13 r14 t (nI i) bk).1
def zzM (r5 : Nat → Int32) (t x y : Nat) : Prop := r5 (144 * t + 12 * x + y) = 4
def prM (r4 r6 : Nat → Int32) (t x y : Nat) : Nat := prN (r4 (6 * t + 5)) (r6 (144 * t + 12 * x + y))
theorem KM_u {r4 r5 r6 r7 r8 r9 r10 : Nat → Int32} {t a b x y : Nat} (hb : b < 12) (hy : y < 12) (h4 : ¬ r5 (144 * t + 12 * a + b) = 4) : KM r4 r5 r6 r7 r8 r9 (upd r10 (144 * t + 12 * a + b) 1) t x y = ad1 (KM r4 r5 r6 r7 r8 r9 r10 t) a b x y := by
  unfold ad1
  by_cases e : x = a ∧ y = b
  · obtain ⟨rfl, rfl⟩ := e
    rw [decide_eq_true (rfl : x = x), decide_eq_true (rfl : y = y)]
    have q : KM r4 r5 r6 r7 r8 r9 (upd r10 (144 * t + 12 * x + y) 1) t x y = true := pB_t ⟨h4, Or.inl (by rw [pk_us]; decide)⟩
    rw [q]; simp
  · have e2 : (decide (x = a) && decide (y = b)) = false := by
      by_cases c : x = a
      · rw [decide_eq_false (fun z => e ⟨c, z⟩), Bool.and_false]
      · rw [decide_eq_false c, Bool.false_and]
    rw [e2, Bool.or_false]
    refine pB_c ?_
    unfold kpM
    rw [pk_un (by omega)]
/-- toKeep of one table, with the planned cells told -/
def tlM (t : Nat) (Pl : Nat → Nat → Bool) (a b : Nat → Int32) : Prop := (∀ x y, x < 12 → y < 12 → b (144 * t + 12 * x + y) = if Pl x y = true then 1 else a (144 * t + 12 * x + y)) ∧ ∀ p, (p < 144 * t ∨ 144 * t + 144 ≤ p) → b p = a p
theorem tlM_1 {t i j : Nat} {Pl : Nat → Nat → Bool} {a b : Nat → Int32} (hi : i < 12) (hj : j < 12) (h : tlM t Pl a b) : tlM t (ad1 Pl i j) a (upd b (144 * t + 12 * i + j) 1) := by
  refine ⟨fun x y hx hy => ?_, fun p hp => ?_⟩
  · unfold ad1
    by_cases e : x = i ∧ y = j
    · obtain ⟨rfl, rfl⟩ := e
      rw [pk_us, decide_eq_true (rfl : x = x), decide_eq_true (rfl : y = y)]; simp
    · have e2 : (decide (x = i) && decide (y = j)) = false := by
        by_cases c : x = i
        · rw [decide_eq_false (fun z => e ⟨c, z⟩), Bool.and_false]
        · rw [decide_eq_false c, Bool.false_and]
      rw [e2, Bool.or_false, pk_un (by omega)]
      exact h.1 x y hx hy
  · rw [pk_un (by omega)]; exact h.2 p hp
section MU
variable {rw cl t bk dn uq : Nat} {r3 r4 r5 r6 r7 r8 r9 r10 q10 r11 r13 r14 : Nat → Int32}
def snM (r3 r5 r11 : Nat → Int32) (t x : Nat) : Prop := sndN (r3 t) r11 r5 t x
def csMm (r13 r14 : Nat → Int32) (t bk x : Nat) : Int32 := (clM r13 r14 t (nI x) bk).1
def seM (r4 r5 r6 r7 r8 r9 : Nat → Int32) (t x y : Nat) : Prop := 0 < whR r4 r5 r6 r7 r8 r9 t (144 * t + 12 * x + y)
/-- not safe, in the shared words -/
def UGm (rw cl t bk : Nat) (r3 r4 r5 r6 r7 r8 r9 r11 r13 r14 : Nat → Int32) (dn uq : Nat) : (Nat → Nat → Bool) → Nat → Nat → Prop := UNG rw cl (snM r3 r5 r11 t) (csMm r13 r14 t bk) (seM r4 r5 r6 r7 r8 r9 t) (LTm r5 r6 t cl) (HTm r5 r6 t cl) (NTm r6 t) dn uq
theorem SF_m {i j : Nat} {K : Nat → Nat → Bool} (hK : ∀ x y, x < rw → y < cl → K x y = KM r4 r5 r6 r7 r8 r9 r10 t x y) : SFm rw cl t bk r3 r4 r5 r6 r7 r8 r9 r10 r11 r13 r14 dn uq i j ↔ SFG rw cl (snM r3 r5 r11 t) (csMm r13 r14 t bk) (LTm r5 r6 t cl) (HTm r5 r6 t cl) (NTm r6 t) dn uq K i j := by
  have e1 : DBm rw cl t bk r3 r5 r11 r13 r14 (clM r13 r14 t (nI i) bk).1 = dG rw cl (snM r3 r5 r11 t) (csMm r13 r14 t bk) (csMm r13 r14 t bk i) := rfl
  have e2 : KBm rw cl t bk r3 r4 r5 r6 r7 r8 r9 r10 r11 r13 r14 (clM r13 r14 t (nI i) bk).1 = kG rw cl (snM r3 r5 r11 t) (csMm r13 r14 t bk) (csMm r13 r14 t bk i) K := funext (fun x => funext (fun y => by
    symm
    refine eq_pB ⟨fun z => ?_, fun z => ?_⟩
    · obtain ⟨a, b⟩ := kG_t z
      rw [hK x y a.1 a.2.1] at b
      exact ⟨a.1, a.2.1, a.2.2.1, a.2.2.2, pB_i b⟩
    · exact kG_mk ⟨z.1, z.2.1, z.2.2.1, z.2.2.2.1⟩ (by rw [hK x y z.1 z.2.1]; exact pB_t z.2.2.2.2)))
  unfold SFm SFG
  rw [e1, e2]
theorem UN_m {i j : Nat} {K : Nat → Nat → Bool} (hi : i < rw) (hj : j < cl) (hK : ∀ x y, x < rw → y < cl → K x y = KM r4 r5 r6 r7 r8 r9 r10 t x y) : UNm rw cl t bk r3 r4 r5 r6 r7 r8 r9 r10 r11 r13 r14 dn uq i j ↔ UGm rw cl t bk r3 r4 r5 r6 r7 r8 r9 r11 r13 r14 dn uq K i j := by
  unfold UNm UGm UNG
  constructor
  · exact fun h => ⟨hi, hj, h.1, h.2.1, fun z => h.2.2 ((SF_m hK).mpr z)⟩
  · exact fun h => ⟨h.2.2.1, h.2.2.2.1, fun z => h.2.2.2.2 ((SF_m hK).mp z)⟩
theorem KM_pl {Pl : Nat → Nat → Bool} (hcl : cl ≤ 12) (hrw : rw ≤ 12) (h : tlM t Pl r10 q10) (hz : ∀ x y, x < 12 → y < 12 → Pl x y = true → ¬ r5 (144 * t + 12 * x + y) = 4) : ∀ x y, x < rw → y < cl → kOf (KM r4 r5 r6 r7 r8 r9 r10 t) Pl x y = KM r4 r5 r6 r7 r8 r9 q10 t x y := fun x y hx hy => by
  refine eq_pB ?_
  unfold kpM
  rw [h.1 x y (by omega) (by omega)]
  unfold kOf
  cases hp : Pl x y with
  | true =>
    rw [Bool.or_true, if_pos rfl]
    exact ⟨fun _ => ⟨hz x y (by omega) (by omega) hp, Or.inl (by decide)⟩, fun _ => rfl⟩
  | false =>
    rw [Bool.or_false, if_neg (by decide)]
    exact ⟨fun z => pB_i z, fun z => pB_t z⟩
end MU
set_option maxHeartbeats 4000000 in
set_option maxRecDepth 100000 in
theorem n_costOf (l : Launch) (G : GG) (y : Nat) (b : Nat → Nat) (f : Nat → Int32) (r : Nat → Nat → Int32) (t : Nat) (pa : Nat) (ht : t < 6) (hp : pa < 864) : RdI l yX7_costOf cX7_costOf 3 (some .int) ({ frames := 0, cells := 0, slots := 0, locals := 0 }) G (mM G y b f r) [.ref y, .int (nI t), .int (nI pa)] (fun q => q = coR ((r 4) (6 * t + 5)) ((r 6) pa)) := by
  refine rd_entry (by decide +kernel) (Nat.le_of_ble_eq_true rfl) ?_
  intro p e s m below meth c C0 hP hK ls hl
  have hS : va_S (fun q => s.heap.size ≤ q) s.heap s.heap [] := va_S.rf
  have hA : ∀ q, s.heap.size ≤ q → (fun q => s.heap.size ≤ q) q := fun _ h => h
  obtain ⟨hx, hb, hml, hown, hts, hr, hlocks, hin⟩ := C0
  have hown : s.vm.findClass RX7 = some m.cls := hown
  have hl : lv_has ls 3 [(0, .ref y), (1, .int (nI t)), (2, .int (nI pa))] := hl
  refine lv_aload_n hx hb dX7_costOf_0 rfl (lv_at hl 0 rfl) ?_
  refine va_get (D := G.1) (ci := 7) (v := .ref (b 4)) (C := RX7) (T := TX7) (N := 43) hx hb hts inX7 hown hK.1 hP 0 rfl rfl 4 (by decide) (hts _ mf_X7_20) (fun _ h9 => h9) rfl dX7_costOf_1 ?_
  refine lv_bipush (v := 6) hx hb dX7_costOf_4 (by decide) ?_
  refine lv_iload_n hx hb dX7_costOf_6 rfl (lv_at hl 1 rfl) ?_
  refine lv_imul hx hb dX7_costOf_7 ?_
  refine lv_topi (fun v1 ev1 => ?_)
  obtain rfl : v1 = nI (6 * t) := nI_times ev1 rfl rfl
  refine lv_iconst (v := 5) hx hb dX7_costOf_8 (by decide) ?_
  refine lv_iadd hx hb dX7_costOf_9 ?_
  refine lv_topi (fun v2 ev2 => ?_)
  obtain rfl : v2 = nI ((6 * t) + 5) := nI_plus ev2 rfl rfl
  refine xiald (f := (r 4)) hx hb hK hP 4 (((6 * t) + 5)) (rfl) (by omega) (by decide) rfl dX7_costOf_10 ?_
  refine lv_topi (fun v3 ev3 => ?_)
  obtain rfl : v3 = (r 4 (6 * t + 5)) := ev3.trans (rfl)
  refine lv_if_ne (tgt := 18) hx hb dX7_costOf_11 (by decide) (fun c4 => ?_) (fun c4 => ?_)
  · refine lv_aload_n hx hb dX7_costOf_18 rfl (lv_at hl 0 rfl) ?_
    refine va_get (D := G.1) (ci := 7) (v := .ref (b 6)) (C := RX7) (T := TX7) (N := 43) hx hb hts inX7 hown hK.1 hP 0 rfl rfl 6 (by decide) (hts _ mf_X7_26) (fun _ h9 => h9) rfl dX7_costOf_19 ?_
    refine lv_iload_n hx hb dX7_costOf_22 rfl (lv_at hl 2 rfl) ?_
    refine xiald (f := (r 6)) hx hb hK hP 6 (pa) (rfl) (by omega) (by decide) rfl dX7_costOf_23 ?_
    refine lv_topi (fun v5 ev5 => ?_)
    obtain rfl : v5 = (r 6 pa) := ev5.trans (rfl)
    refine lv_iconst (v := 1) hx hb dX7_costOf_24 (by decide) ?_
    refine lv_iadd hx hb dX7_costOf_25 ?_
    refine lv_topi (fun v6 ev6 => ?_)
    exact rd_iret hx hb hr hlocks hS ((by unfold coR; rw [if_neg c4, ev6])) dX7_costOf_26
  · refine lv_iconst (v := 1) hx hb dX7_costOf_14 (by decide) ?_
    refine lv_goto (tgt := 26) hx hb dX7_costOf_15 (by decide) ?_
    exact rd_iret hx hb hr hlocks hS ((by unfold coR; rw [if_pos c4])) dX7_costOf_26
set_option maxHeartbeats 4000000 in
set_option maxRecDepth 100000 in
theorem n_tells (l : Launch) (G : GG) (y : Nat) (b : Nat → Nat) (f : Nat → Int32) (r : Nat → Nat → Int32) (t : Nat) (pa : Nat) (ht : t < 6) (hp : pa < 864) (hG : nOK 864 6 (r 7)) : WrI l yX7_tells cX7_tells 4 (some .int) ({ frames := 3, cells := 0, slots := 0, locals := 72 }) G (mM G y b f r) [.ref y, .int (nI t), .int (nI pa)] (fun q w => ∃ (n_r_10 : Nat → Int32), w = mM G y b f (up2 r 10 n_r_10) ∧ q = nI (if pB (kpM (r 4) (r 5) (r 6) (r 7) (r 8) (r 9) (r 10) t pa) = true then 0 else 1) ∧ (n_r_10 = upd (r 10) pa 1)) := by
  refine wr_entryI (by decide +kernel) (Nat.le_of_ble_eq_true rfl) ?_
  intro p e s m below meth c A C0 hP hK hD hA ls hl
  have hS : va_S A s.heap s.heap [] := va_S.rf
  obtain ⟨hx, hb, hml, hown, hts, hr, hlocks, hin⟩ := C0
  have hown : s.vm.findClass RX7 = some m.cls := hown
  have hDD : ∀ f' r', va_D A (mM G y b f' r') := fun f' r' => D_same hD rfl
  have hl : lv_has ls 4 [(0, .ref y), (1, .int (nI t)), (2, .int (nI pa))] := hl
  refine lv_aload_n hx hb dX7_tells_0 rfl (lv_at hl 0 rfl) ?_
  refine lv_iload_n hx hb dX7_tells_1 rfl (lv_at hl 1 rfl) ?_
  refine lv_iload_n hx hb dX7_tells_2 rfl (lv_at hl 2 rfl) ?_
  refine rdV (rest := []) (q0 := 0) ⟨hx, hb, hml, hown, hts⟩ (n_isKept l G y b f r t pa  (by omega) (by omega) hG) mi_yX7_isKept mv_yX7_isKept ml_X7_181 ⟨rfl, rfl, Nat.le_of_ble_eq_true rfl, Nat.le_of_ble_eq_true rfl⟩ hK (hP) rfl rfl rfl hl.1 rfl (Nat.le_of_ble_eq_true rfl) dX7_tells_3 ⟨Nat.zero_le _, Nat.zero_le _⟩ hS hA hP (fun r1 H locs hr1 hP hS => ?_)
  have hr1 : ((r1 = 1 ∧ (kpM (r 4) (r 5) (r 6) (r 7) (r 8) (r 9) (r 10) t pa)) ∨ (r1 = 0 ∧ ¬ (kpM (r 4) (r 5) (r 6) (r 7) (r 8) (r 9) (r 10) t pa))) := hr1
  refine lv_if_eq (tgt := 13) hx hb dX7_tells_6 (by decide) (fun c2 => ?_) (fun c2 => ?_)
  · have b6 := bF hr1 c2
    refine lv_iconst (v := 1) hx hb dX7_tells_13 (by decide) ?_
    refine lv_istore_n (lv' := [(3, .int 1), (0, .ref y), (1, .int (nI t)), (2, .int (nI pa))]) hx hb dX7_tells_14 rfl hl (by decide) rfl (fun ls hl => ?_)
    refine lv_aload_n hx hb dX7_tells_15 rfl (lv_at hl 1 rfl) ?_
    refine va_get (D := G.1) (ci := 7) (v := .ref (b 10)) (C := RX7) (T := TX7) (N := 43) hx hb hts inX7 hown hK.1 hP 0 rfl rfl 10 (by decide) (hts _ mf_X7_38) (fun _ h9 => h9) rfl dX7_tells_16 ?_
    refine lv_iload_n hx hb dX7_tells_19 rfl (lv_at hl 3 rfl) ?_
    refine lv_iconst (v := 1) hx hb dX7_tells_20 (by decide) ?_
    refine xzast (f := (r 10)) (x := 1) hx hb hK hP (hDD _ _) hS 10 (pa) (rfl) (by omega) (by decide) (Or.inr rfl) rfl dX7_tells_21 (fun H locs hP _ hS => ?_)
    have hP : PP G (mM G y b f (up2 r 10 (upd (r 10) (pa) (1)))) H := hP
    refine lv_iload_n hx hb dX7_tells_22 rfl (lv_at hl 0 rfl) ?_
    exact wr_iret hx hb hr hlocks hS hP ⟨(upd (r 10) (pa) (1)), rfl, (by rw [pB_f b6, if_neg (by decide)]; rfl), rfl⟩ dX7_tells_23
  · have b6 := bT hr1 c2
    refine lv_iconst (v := 0) hx hb dX7_tells_9 (by decide) ?_
    refine lv_goto (tgt := 14) hx hb dX7_tells_10 (by decide) ?_
    refine lv_istore_n (lv' := [(3, .int 0), (0, .ref y), (1, .int (nI t)), (2, .int (nI pa))]) hx hb dX7_tells_14 rfl hl (by decide) rfl (fun ls hl => ?_)
    refine lv_aload_n hx hb dX7_tells_15 rfl (lv_at hl 1 rfl) ?_
    refine va_get (D := G.1) (ci := 7) (v := .ref (b 10)) (C := RX7) (T := TX7) (N := 43) hx hb hts inX7 hown hK.1 hP 0 rfl rfl 10 (by decide) (hts _ mf_X7_38) (fun _ h9 => h9) rfl dX7_tells_16 ?_
    refine lv_iload_n hx hb dX7_tells_19 rfl (lv_at hl 3 rfl) ?_
    refine lv_iconst (v := 1) hx hb dX7_tells_20 (by decide) ?_
    refine xzast (f := (r 10)) (x := 1) hx hb hK hP (hDD _ _) hS 10 (pa) (rfl) (by omega) (by decide) (Or.inr rfl) rfl dX7_tells_21 (fun H locs hP _ hS => ?_)
    have hP : PP G (mM G y b f (up2 r 10 (upd (r 10) (pa) (1)))) H := hP
    refine lv_iload_n hx hb dX7_tells_22 rfl (lv_at hl 0 rfl) ?_
    exact wr_iret hx hb hr hlocks hS hP ⟨(upd (r 10) (pa) (1)), rfl, (by rw [pB_t b6, if_pos rfl]; rfl), rfl⟩ dX7_tells_23
set_option maxHeartbeats 4000000 in
set_option maxRecDepth 100000 in
theorem n_guard (l : Launch) (G : GG) (y : Nat) (b : Nat → Nat) (f : Nat → Int32) (r : Nat → Nat → Int32) (t : Nat) (i : Nat) (j : Nat) (rw : Nat) (cl : Nat) (bk : Nat) (ht : t < 6) (hrw : rw ≤ 12) (hcl : cl ≤ 12) (hbk : bk ≤ 12) (h2 : (r 2) t = nI rw) (h3 : (r 3) t = nI cl) (h12 : (r 12) t = nI bk) (hG : nOK 864 6 (r 7)) (hi : i < rw) (hj : j < cl) (hsi : sndN ((r 3) t) (r 11) (r 5) t i) (hNR : NRM rw cl t (r 3) (r 5) (r 6) (r 11)) : WrI l yX7_guard cX7_guard 13 (some .int) ({ frames := 4, cells := 0, slots := 0, locals := 95 }) G (mM G y b f r) [.ref y, .int (nI t), .int (nI i), .int (nI j)] (fun q w => ∃ (n_r_10 : Nat → Int32), w = mM G y b f (up2 r 10 n_r_10) ∧ ((q = 0 ∧ NON rw cl (mtM (r 3) (r 5) (r 11) (r 13) (r 14) t bk) (zzM (r 5) t) (KM (r 4) (r 5) (r 6) (r 7) (r 8) (r 9) (r 10) t) i j 144 ∧ n_r_10 = (r 10)) ∨ (∃ qq dd, BSN rw cl (mtM (r 3) (r 5) (r 11) (r 13) (r 14) t bk) (zzM (r 5) t) (prM (r 4) (r 6) t) (KM (r 4) (r 5) (r 6) (r 7) (r 8) (r 9) (r 10) t) i j 144 qq dd ∧ q = nI (nw3 (KM (r 4) (r 5) (r 6) (r 7) (r 8) (r 9) (r 10) t) i j qq dd) ∧ n_r_10 = upd (upd (upd (r 10) (144 * t + 12 * i + dd) 1) (144 * t + 12 * qq + j) 1) (144 * t + 12 * qq + dd) 1))) := by
  refine wr_entryI (by decide +kernel) (Nat.le_of_ble_eq_true rfl) ?_
  intro p e s m below meth c A C0 hP hK hD hA ls hl
  have hS : va_S A s.heap s.heap [] := va_S.rf
  obtain ⟨hx, hb, hml, hown, hts, hr, hlocks, hin⟩ := C0
  have hown : s.vm.findClass RX7 = some m.cls := hown
  have hDD : ∀ f' r', va_D A (mM G y b f' r') := fun f' r' => D_same hD rfl
  have hl : lv_has ls 13 [(0, .ref y), (1, .int (nI t)), (2, .int (nI i)), (3, .int (nI j))] := hl
  refine lv_iconst (v := -1) hx hb dX7_guard_0 (by decide) ?_
  refine lv_istore (lv' := [(4, .int (-1)), (0, .ref y), (1, .int (nI t)), (2, .int (nI i)), (3, .int (nI j))]) hx hb dX7_guard_1 hl (by decide) rfl (fun ls hl => ?_)
  refine lv_iconst (v := 0) hx hb dX7_guard_3 (by decide) ?_
  refine lv_istore (lv' := [(5, .int 0), (4, .int (-1)), (0, .ref y), (1, .int (nI t)), (2, .int (nI i)), (3, .int (nI j))]) hx hb dX7_guard_4 hl (by decide) rfl (fun ls hl => ?_)
  refine lv_iconst (v := 0) hx hb dX7_guard_6 (by decide) ?_
  refine lv_istore (lv' := [(6, .int 0), (5, .int 0), (4, .int (-1)), (0, .ref y), (1, .int (nI t)), (2, .int (nI i)), (3, .int (nI j))]) hx hb dX7_guard_7 hl (by decide) rfl (fun ls hl => ?_)
  refine lv_iconst (v := 0) hx hb dX7_guard_9 (by decide) ?_
  refine lv_istore (lv' := [(7, .int 0), (6, .int 0), (5, .int 0), (4, .int (-1)), (0, .ref y), (1, .int (nI t)), (2, .int (nI i)), (3, .int (nI j))]) hx hb dX7_guard_10 hl (by decide) rfl (fun ls hl => ?_)
  have loop12 : ∀ (k1 qq : Nat) (bd : Nat) (bq : Nat) (z4 : Int32), qq ≤ rw → rw < qq + k1 → (bd < 12) → (bq < 12) → ((z4 : Int32) = -1 ∨ ((z4 : Int32) = nI (pc3 (prM (r 4) (r 6) t) (KM (r 4) (r 5) (r 6) (r 7) (r 8) (r 9) (r 10) t) i j bq bd) ∧ pc3 (prM (r 4) (r 6) t) (KM (r 4) (r 5) (r 6) (r 7) (r 8) (r 9) (r 10) t) i j bq bd ≤ 3000003)) → (BST rw cl (mtM (r 3) (r 5) (r 11) (r 13) (r 14) t bk) (zzM (r 5) t) (prM (r 4) (r 6) t) (KM (r 4) (r 5) (r 6) (r 7) (r 8) (r 9) (r 10) t) i j (12 * qq) (¬ (z4 : Int32) = -1) bq bd) → ∀ (H : Heap) (locs : List Loc) (ls : Array Slot), PP G (mM G y b f r) H → va_S A s.heap H locs → lv_has ls 13 [(7, .int (nI qq)), (6, .int (nI bd)), (5, .int (nI bq)), (4, .int z4), (0, .ref y), (1, .int (nI t)), (2, .int (nI i)), (3, .int (nI j))] → W p l e ({ frames := 4, cells := 0, slots := 0, locals := 95 }) s m ([.ref y, .int (nI t), .int (nI i), .int (nI j)] : List Value).toArray below meth c H locs 0 0 (MQ below (QwI G (fun q w => ∃ (n_r_10 : Nat → Int32), w = mM G y b f (up2 r 10 n_r_10) ∧ ((q = 0 ∧ NON rw cl (mtM (r 3) (r 5) (r 11) (r 13) (r 14) t bk) (zzM (r 5) t) (KM (r 4) (r 5) (r 6) (r 7) (r 8) (r 9) (r 10) t) i j 144 ∧ n_r_10 = (r 10)) ∨ (∃ qq dd, BSN rw cl (mtM (r 3) (r 5) (r 11) (r 13) (r 14) t bk) (zzM (r 5) t) (prM (r 4) (r 6) t) (KM (r 4) (r 5) (r 6) (r 7) (r 8) (r 9) (r 10) t) i j 144 qq dd ∧ q = nI (nw3 (KM (r 4) (r 5) (r 6) (r 7) (r 8) (r 9) (r 10) t) i j qq dd) ∧ n_r_10 = upd (upd (upd (r 10) (144 * t + 12 * i + dd) 1) (144 * t + 12 * qq + j) 1) (144 * t + 12 * qq + dd) 1))) A) ([.ref y, .int (nI t), .int (nI i), .int (nI j)] : List Value).toArray s 0 0 A) (F0 m 12 ls []) := by
    intro k1
    induction k1 with
    | zero => intro qq bd bq z4 h1 h2; exact absurd h1 (by omega)
    | succ k1 ih12k1 =>
      intro qq bd bq z4 hi_qq hk_qq gbd gbq hbv hbs H locs ls hP hS hl
      refine lv_iload hx hb dX7_guard_12 (lv_at hl 0 rfl) ?_
      refine lv_aload_n hx hb dX7_guard_14 rfl (lv_at hl 4 rfl) ?_
      refine va_get (D := G.1) (ci := 7) (v := .ref (b 2)) (C := RX7) (T := TX7) (N := 43) hx hb hts inX7 hown hK.1 hP 0 rfl rfl 2 (by decide) (hts _ mf_X7_13) (fun _ h9 => h9) rfl dX7_guard_15 ?_
      refine lv_iload_n hx hb dX7_guard_18 rfl (lv_at hl 5 rfl) ?_
      refine xiald (f := (r 2)) hx hb hK hP 2 (t) (rfl) (by omega) (by decide) rfl dX7_guard_19 ?_
      refine lv_topi (fun v5 ev5 => ?_)
      obtain rfl : v5 = nI (rw) := ev5.trans (h2)
      refine lv_icmp_ge (tgt := 281) hx hb dX7_guard_20 (by decide) (fun c6 => ?_) (fun c6 => ?_)
      · have b20 := qge_t (a := qq) (b := (rw)) (by omega) (by omega) c6
        refine lv_iload hx hb dX7_guard_281 (lv_at hl 3 rfl) ?_
        refine lv_if_ge (tgt := 290) hx hb dX7_guard_283 (by decide) (fun c7 => ?_) (fun c7 => ?_)
        · have hfd : ¬ z4 = -1 := fun z9 => by have h8 := c7; rw [z9] at h8; exact absurd h8 (by decide)
          have hbn := (hbs.resolve_left (fun z9 => z9.1 hfd)).2
          obtain ⟨cq1, cq2, cq3, cq4, cq5, cq6, cq7, cq8, -⟩ := hbn.1
          refine lv_aload_n hx hb dX7_guard_290 rfl (lv_at hl 4 rfl) ?_
          refine lv_iload_n hx hb dX7_guard_291 rfl (lv_at hl 5 rfl) ?_
          refine lv_iload_n hx hb dX7_guard_292 rfl (lv_at hl 5 rfl) ?_
          refine lv_iload_n hx hb dX7_guard_293 rfl (lv_at hl 6 rfl) ?_
          refine lv_iload hx hb dX7_guard_294 (lv_at hl 1 rfl) ?_
          refine rdS (rest := [.int (nI t), .ref y]) ⟨hx, hb, hml, hown, hts⟩ (m_X7_at l G y b f r t i bd  ) mi_yX7_at mst_yX7_at ml_X7_147 ⟨rfl, rfl, Nat.le_of_ble_eq_true rfl, Nat.le_of_ble_eq_true rfl⟩ hK (hP) rfl hl.1 rfl (Nat.le_of_ble_eq_true rfl) dX7_guard_296 ⟨Nat.zero_le _, Nat.zero_le _⟩ hS hA hP (fun r8 H locs hr8 hP hS => ?_)
          obtain rfl := hr8
          refine wrVIa (rest := []) (q0 := 0) ⟨hx, hb, hml, hown, hts⟩ (n_tells l G y b f r t (144 * t + 12 * i + bd)  (by omega) (by omega) hG) mi_yX7_tells mv_yX7_tells ml_X7_245 ⟨rfl, rfl, Nat.le_of_ble_eq_true rfl, Nat.le_of_ble_eq_true rfl⟩ hK hP (hDD _ _) rfl rfl rfl hl.1 rfl (Nat.le_of_ble_eq_true rfl) dX7_guard_299 ⟨Nat.zero_le _, Nat.zero_le _⟩ hS hA (fun r9 w10 H locs hw10 hP hS => ?_)
          obtain ⟨x11, rfl, hw10r, ht10⟩ := hw10
          have hP : PP G (mM G y b f (up2 r 10 x11)) H := hP
          have ht10 : x11 = upd (r 10) (144 * t + 12 * i + bd) 1 := ht10
          obtain rfl := hw10r
          subst ht10
          have hP : PP G (mM G y b f (up2 r 10 (upd (r 10) (144 * t + 12 * i + bd) 1))) H := hP
          refine lv_aload_n hx hb dX7_guard_302 rfl (lv_at hl 4 rfl) ?_
          refine lv_iload_n hx hb dX7_guard_303 rfl (lv_at hl 5 rfl) ?_
          refine lv_iload_n hx hb dX7_guard_304 rfl (lv_at hl 5 rfl) ?_
          refine lv_iload hx hb dX7_guard_305 (lv_at hl 2 rfl) ?_
          refine lv_iload_n hx hb dX7_guard_307 rfl (lv_at hl 7 rfl) ?_
          refine rdS (rest := [.int (nI t), .ref y, .int (nI (nw1 (KM (r 4) (r 5) (r 6) (r 7) (r 8) (r 9) (r 10) t) i bd))]) ⟨hx, hb, hml, hown, hts⟩ (m_X7_at l G y b f (up2 r 10 (upd (r 10) (144 * t + 12 * i + bd) 1)) t bq j  ) mi_yX7_at mst_yX7_at ml_X7_147 ⟨rfl, rfl, Nat.le_of_ble_eq_true rfl, Nat.le_of_ble_eq_true rfl⟩ hK (hP) rfl hl.1 rfl (Nat.le_of_ble_eq_true rfl) dX7_guard_308 ⟨Nat.zero_le _, Nat.zero_le _⟩ hS hA hP (fun r12 H locs hr12 hP hS => ?_)
          obtain rfl := hr12
          refine wrVIa (rest := [.int (nI (nw1 (KM (r 4) (r 5) (r 6) (r 7) (r 8) (r 9) (r 10) t) i bd))]) (q0 := 0) ⟨hx, hb, hml, hown, hts⟩ (n_tells l G y b f (up2 r 10 (upd (r 10) (144 * t + 12 * i + bd) 1)) t (144 * t + 12 * bq + j)  (by omega) (by omega) hG) mi_yX7_tells mv_yX7_tells ml_X7_245 ⟨rfl, rfl, Nat.le_of_ble_eq_true rfl, Nat.le_of_ble_eq_true rfl⟩ hK hP (hDD _ _) rfl rfl rfl hl.1 rfl (Nat.le_of_ble_eq_true rfl) dX7_guard_311 ⟨Nat.zero_le _, Nat.zero_le _⟩ hS hA (fun r13 w14 H locs hw14 hP hS => ?_)
          obtain ⟨x15, rfl, hw14r, ht10⟩ := hw14
          have hP : PP G (mM G y b f (up2 r 10 x15)) H := hP
          have ht10 : x15 = upd (upd (r 10) (144 * t + 12 * i + bd) 1) (144 * t + 12 * bq + j) 1 := ht10
          obtain rfl := hw14r
          subst ht10
          have hP : PP G (mM G y b f (up2 r 10 (upd (upd (r 10) (144 * t + 12 * i + bd) 1) (144 * t + 12 * bq + j) 1))) H := hP
          refine lv_iadd hx hb dX7_guard_314 ?_
          refine lv_topi (fun v16 ev16 => ?_)
          obtain rfl : v16 = nI ((nw1 (KM (r 4) (r 5) (r 6) (r 7) (r 8) (r 9) (r 10) t) i bd) + (nw1 (KM (r 4) (r 5) (r 6) (r 7) (r 8) (r 9) (upd (r 10) (144 * t + 12 * i + bd) 1) t) bq j)) := nI_plus ev16 rfl rfl
          refine lv_aload_n hx hb dX7_guard_315 rfl (lv_at hl 4 rfl) ?_
          refine lv_iload_n hx hb dX7_guard_316 rfl (lv_at hl 5 rfl) ?_
          refine lv_iload_n hx hb dX7_guard_317 rfl (lv_at hl 5 rfl) ?_
          refine lv_iload hx hb dX7_guard_318 (lv_at hl 2 rfl) ?_
          refine lv_iload hx hb dX7_guard_320 (lv_at hl 1 rfl) ?_
          refine rdS (rest := [.int (nI t), .ref y, .int (nI ((nw1 (KM (r 4) (r 5) (r 6) (r 7) (r 8) (r 9) (r 10) t) i bd) + (nw1 (KM (r 4) (r 5) (r 6) (r 7) (r 8) (r 9) (upd (r 10) (144 * t + 12 * i + bd) 1) t) bq j)))]) ⟨hx, hb, hml, hown, hts⟩ (m_X7_at l G y b f (up2 r 10 (upd (upd (r 10) (144 * t + 12 * i + bd) 1) (144 * t + 12 * bq + j) 1)) t bq bd  ) mi_yX7_at mst_yX7_at ml_X7_147 ⟨rfl, rfl, Nat.le_of_ble_eq_true rfl, Nat.le_of_ble_eq_true rfl⟩ hK (hP) rfl hl.1 rfl (Nat.le_of_ble_eq_true rfl) dX7_guard_322 ⟨Nat.zero_le _, Nat.zero_le _⟩ hS hA hP (fun r17 H locs hr17 hP hS => ?_)
          obtain rfl := hr17
          refine wrVIa (rest := [.int (nI ((nw1 (KM (r 4) (r 5) (r 6) (r 7) (r 8) (r 9) (r 10) t) i bd) + (nw1 (KM (r 4) (r 5) (r 6) (r 7) (r 8) (r 9) (upd (r 10) (144 * t + 12 * i + bd) 1) t) bq j)))]) (q0 := 0) ⟨hx, hb, hml, hown, hts⟩ (n_tells l G y b f (up2 r 10 (upd (upd (r 10) (144 * t + 12 * i + bd) 1) (144 * t + 12 * bq + j) 1)) t (144 * t + 12 * bq + bd)  (by omega) (by omega) hG) mi_yX7_tells mv_yX7_tells ml_X7_245 ⟨rfl, rfl, Nat.le_of_ble_eq_true rfl, Nat.le_of_ble_eq_true rfl⟩ hK hP (hDD _ _) rfl rfl rfl hl.1 rfl (Nat.le_of_ble_eq_true rfl) dX7_guard_325 ⟨Nat.zero_le _, Nat.zero_le _⟩ hS hA (fun r18 w19 H locs hw19 hP hS => ?_)
          obtain ⟨x20, rfl, hw19r, ht10⟩ := hw19
          have hP : PP G (mM G y b f (up2 r 10 x20)) H := hP
          have ht10 : x20 = upd (upd (upd (r 10) (144 * t + 12 * i + bd) 1) (144 * t + 12 * bq + j) 1) (144 * t + 12 * bq + bd) 1 := ht10
          obtain rfl := hw19r
          subst ht10
          have hP : PP G (mM G y b f (up2 r 10 (upd (upd (upd (r 10) (144 * t + 12 * i + bd) 1) (144 * t + 12 * bq + j) 1) (144 * t + 12 * bq + bd) 1))) H := hP
          refine lv_iadd hx hb dX7_guard_328 ?_
          refine lv_topi (fun v21 ev21 => ?_)
          obtain rfl : v21 = nI (((nw1 (KM (r 4) (r 5) (r 6) (r 7) (r 8) (r 9) (r 10) t) i bd) + (nw1 (KM (r 4) (r 5) (r 6) (r 7) (r 8) (r 9) (upd (r 10) (144 * t + 12 * i + bd) 1) t) bq j)) + (nw1 (KM (r 4) (r 5) (r 6) (r 7) (r 8) (r 9) (upd (upd (r 10) (144 * t + 12 * i + bd) 1) (144 * t + 12 * bq + j) 1) t) bq bd)) := nI_plus ev21 rfl rfl
          exact wr_iret hx hb hr hlocks hS hP ⟨(upd (upd (upd (r 10) (144 * t + 12 * i + bd) 1) (144 * t + 12 * bq + j) 1) (144 * t + 12 * bq + bd) 1), rfl, (Or.inr ⟨bq, bd, ⟨hbn.1, by omega, fun q9 d9 h8 h9 => hbn.2.2 q9 d9 h8 (by have e9 := h8.1; have e8 := h8.2.1; omega)⟩, congrArg nI (by unfold nw3; rw [nw1_c (KM_u (a := i) (b := bd) (by omega) (by omega) cq6), nw_ad (by omega), nw1_c (KM_u (a := bq) (b := j) (by omega) (by omega) cq7), nw_ad (by omega), nw1_c (KM_u (a := i) (b := bd) (by omega) (by omega) cq6), nw_ad (by omega)]), rfl⟩)⟩ dX7_guard_329
        · have hnn : z4 = -1 := hbv.resolve_right (fun z9 => by have h8 := c7; rw [z9.1] at h8; exact h8 (nI_pos' (by omega)))
          have hno := (hbs.resolve_right (fun z9 => z9.1 hnn)).2
          refine lv_iconst (v := 0) hx hb dX7_guard_286 (by decide) ?_
          refine lv_goto (tgt := 329) hx hb dX7_guard_287 (by decide) ?_
          exact wr_iret hx hb hr hlocks hS hP ⟨(r 10), rfl, (Or.inl ⟨rfl, fun q9 d9 h8 h9 => hno q9 d9 h8 (by have e9 := h8.1; have e8 := h8.2.1; omega), rfl⟩)⟩ dX7_guard_329
      · have b20 := qge_f (a := qq) (b := (rw)) (by omega) (by omega) c6
        refine lv_iload hx hb dX7_guard_23 (lv_at hl 0 rfl) ?_
        refine lv_iload_n hx hb dX7_guard_25 rfl (lv_at hl 6 rfl) ?_
        refine lv_icmp_eq (tgt := 275) hx hb dX7_guard_26 (by decide) (fun c22 => ?_) (fun c22 => ?_)
        · have b26 := qeq_t (a := qq) (b := i) (by omega) (by omega) c22
          obtain ⟨v23, ev23⟩ : ∃ y9 : Int32, y9 = (nI qq) + Int32.ofInt (1) := ⟨_, rfl⟩
          refine lv_iinc (v := v23) (lv' := [(7, .int v23), (6, .int (nI bd)), (5, .int (nI bq)), (4, .int z4), (0, .ref y), (1, .int (nI t)), (2, .int (nI i)), (3, .int (nI j))]) hx hb dX7_guard_275 hl (k := 0) rfl ev23.symm (by decide) rfl (fun ls hl => ?_)
          obtain rfl : v23 = nI (qq + 1) := nI_plus (i := qq) (j := 1) ev23 rfl (by decide)
          refine lv_goto (tgt := 12) hx hb dX7_guard_278 (by decide) ?_
          exact ih12k1 (qq + 1) bd bq z4 (by omega) (by omega) (by omega) (by omega) (hbv) (BST_q hbs hcl (fun d9 h9 => h9.2.2.1 b26)) _ _ _ hP hS (lv_sub hl [0, 1, 2, 3, 4, 5, 6, 7] rfl)
        · have b26 := qeq_f (a := qq) (b := i) (by omega) (by omega) c22
          refine lv_aload_n hx hb dX7_guard_29 rfl (lv_at hl 4 rfl) ?_
          refine lv_iload_n hx hb dX7_guard_30 rfl (lv_at hl 5 rfl) ?_
          refine lv_iload hx hb dX7_guard_31 (lv_at hl 0 rfl) ?_
          refine rdV (rest := []) (q0 := 0) ⟨hx, hb, hml, hown, hts⟩ (m_X7_isSound l G y b f r t qq rw cl bk (by omega) (by omega) (by omega) (by omega) h2 h3 h12 (by omega)) mi_yX7_isSound mv_yX7_isSound ml_X7_161 ⟨rfl, rfl, Nat.le_of_ble_eq_true rfl, Nat.le_of_ble_eq_true rfl⟩ hK (hP) rfl rfl rfl hl.1 rfl (Nat.le_of_ble_eq_true rfl) dX7_guard_33 ⟨Nat.zero_le _, Nat.zero_le _⟩ hS hA hP (fun r24 H locs hr24 hP hS => ?_)
          have hr24 : ((r24 = 1 ∧ (sndN ((r 3) t) (r 11) (r 5) t qq)) ∨ (r24 = 0 ∧ ¬ (sndN ((r 3) t) (r 11) (r 5) t qq))) := hr24
          refine lv_if_eq (tgt := 275) hx hb dX7_guard_36 (by decide) (fun c25 => ?_) (fun c25 => ?_)
          · have b36 := bF hr24 c25
            obtain ⟨v26, ev26⟩ : ∃ y9 : Int32, y9 = (nI qq) + Int32.ofInt (1) := ⟨_, rfl⟩
            refine lv_iinc (v := v26) (lv' := [(7, .int v26), (6, .int (nI bd)), (5, .int (nI bq)), (4, .int z4), (0, .ref y), (1, .int (nI t)), (2, .int (nI i)), (3, .int (nI j))]) hx hb dX7_guard_275 hl (k := 0) rfl ev26.symm (by decide) rfl (fun ls hl => ?_)
            obtain rfl : v26 = nI (qq + 1) := nI_plus (i := qq) (j := 1) ev26 rfl (by decide)
            refine lv_goto (tgt := 12) hx hb dX7_guard_278 (by decide) ?_
            exact ih12k1 (qq + 1) bd bq z4 (by omega) (by omega) (by omega) (by omega) (hbv) (BST_q hbs hcl (fun d9 h9 => b36 h9.2.2.2.2.1.1)) _ _ _ hP hS (lv_sub hl [0, 1, 2, 3, 4, 5, 6, 7] rfl)
          · have b36 := bT hr24 c25
            refine lv_aload_n hx hb dX7_guard_39 rfl (lv_at hl 4 rfl) ?_
            refine lv_iload_n hx hb dX7_guard_40 rfl (lv_at hl 5 rfl) ?_
            refine lv_iload hx hb dX7_guard_41 (lv_at hl 0 rfl) ?_
            refine rdV (rest := []) (q0 := 0) ⟨hx, hb, hml, hown, hts⟩ (m_X7_classOf l G y b f r t (nI qq) rw cl bk (by omega) (by omega) (by omega) (by omega) h2 h3 h12) mi_yX7_classOf mv_yX7_classOf ml_X7_168 ⟨rfl, rfl, Nat.le_of_ble_eq_true rfl, Nat.le_of_ble_eq_true rfl⟩ hK (hP) rfl rfl rfl hl.1 rfl (Nat.le_of_ble_eq_true rfl) dX7_guard_43 ⟨Nat.zero_le _, Nat.zero_le _⟩ hS hA hP (fun r27 H locs hr27 hP hS => ?_)
            obtain rfl := hr27
            refine lv_topi (fun v28 ev28 => ?_)
            obtain rfl : v28 = (clM (r 13) (r 14) t (nI qq) bk).1 := ev28.trans (by show (clM (r 13) (r 14) t (nI qq) (r 12 t).toNatClampNeg).1 = _; rw [h12, nI_clamp (by omega)])
            refine lv_aload_n hx hb dX7_guard_46 rfl (lv_at hl 4 rfl) ?_
            refine lv_iload_n hx hb dX7_guard_47 rfl (lv_at hl 5 rfl) ?_
            refine lv_iload_n hx hb dX7_guard_48 rfl (lv_at hl 6 rfl) ?_
            refine rdV (rest := [.int (clM (r 13) (r 14) t (nI qq) bk).1]) (q0 := 0) ⟨hx, hb, hml, hown, hts⟩ (m_X7_classOf l G y b f r t (nI i) rw cl bk (by omega) (by omega) (by omega) (by omega) h2 h3 h12) mi_yX7_classOf mv_yX7_classOf ml_X7_168 ⟨rfl, rfl, Nat.le_of_ble_eq_true rfl, Nat.le_of_ble_eq_true rfl⟩ hK (hP) rfl rfl rfl hl.1 rfl (Nat.le_of_ble_eq_true rfl) dX7_guard_49 ⟨Nat.zero_le _, Nat.zero_le _⟩ hS hA hP (fun r29 H locs hr29 hP hS => ?_)
            obtain rfl := hr29
            refine lv_topi (fun v30 ev30 => ?_)
            obtain rfl : v30 = (clM (r 13) (r 14) t (nI i) bk).1 := ev30.trans (by show (clM (r 13) (r 14) t (nI i) (r 12 t).toNatClampNeg).1 = _; rw [h12, nI_clamp (by omega)])
            refine lv_icmp_eq (tgt := 58) hx hb dX7_guard_52 (by decide) (fun c31 => ?_) (fun c31 => ?_)
            · have hmt : (mtM (r 3) (r 5) (r 11) (r 13) (r 14) t bk) i qq := ⟨b36, c31⟩
              obtain ⟨m7, hm7, em7⟩ := hNR qq j b20 hj b36
              have hp7 := pr_le (ru := r 4 (6 * t + 5)) hm7 em7
              refine lv_iconst (v := 0) hx hb dX7_guard_58 (by decide) ?_
              refine lv_istore (lv' := [(8, .int 0), (7, .int (nI qq)), (6, .int (nI bd)), (5, .int (nI bq)), (4, .int z4), (0, .ref y), (1, .int (nI t)), (2, .int (nI i)), (3, .int (nI j))]) hx hb dX7_guard_59 hl (by decide) rfl (fun ls hl => ?_)
              have loop61 : ∀ (k32 dd : Nat) (bd : Nat) (bq : Nat) (z35 : Int32), dd ≤ cl → cl < dd + k32 → (bd < 12) → (bq < 12) → ((z35 : Int32) = -1 ∨ ((z35 : Int32) = nI (pc3 (prM (r 4) (r 6) t) (KM (r 4) (r 5) (r 6) (r 7) (r 8) (r 9) (r 10) t) i j bq bd) ∧ pc3 (prM (r 4) (r 6) t) (KM (r 4) (r 5) (r 6) (r 7) (r 8) (r 9) (r 10) t) i j bq bd ≤ 3000003)) → (BST rw cl (mtM (r 3) (r 5) (r 11) (r 13) (r 14) t bk) (zzM (r 5) t) (prM (r 4) (r 6) t) (KM (r 4) (r 5) (r 6) (r 7) (r 8) (r 9) (r 10) t) i j (12 * qq + dd) (¬ (z35 : Int32) = -1) bq bd) → ∀ (H : Heap) (locs : List Loc) (ls : Array Slot), PP G (mM G y b f r) H → va_S A s.heap H locs → lv_has ls 13 [(8, .int (nI dd)), (7, .int (nI qq)), (6, .int (nI bd)), (5, .int (nI bq)), (4, .int z35), (0, .ref y), (1, .int (nI t)), (2, .int (nI i)), (3, .int (nI j))] → W p l e ({ frames := 4, cells := 0, slots := 0, locals := 95 }) s m ([.ref y, .int (nI t), .int (nI i), .int (nI j)] : List Value).toArray below meth c H locs 0 0 (MQ below (QwI G (fun q w => ∃ (n_r_10 : Nat → Int32), w = mM G y b f (up2 r 10 n_r_10) ∧ ((q = 0 ∧ NON rw cl (mtM (r 3) (r 5) (r 11) (r 13) (r 14) t bk) (zzM (r 5) t) (KM (r 4) (r 5) (r 6) (r 7) (r 8) (r 9) (r 10) t) i j 144 ∧ n_r_10 = (r 10)) ∨ (∃ qq dd, BSN rw cl (mtM (r 3) (r 5) (r 11) (r 13) (r 14) t bk) (zzM (r 5) t) (prM (r 4) (r 6) t) (KM (r 4) (r 5) (r 6) (r 7) (r 8) (r 9) (r 10) t) i j 144 qq dd ∧ q = nI (nw3 (KM (r 4) (r 5) (r 6) (r 7) (r 8) (r 9) (r 10) t) i j qq dd) ∧ n_r_10 = upd (upd (upd (r 10) (144 * t + 12 * i + dd) 1) (144 * t + 12 * qq + j) 1) (144 * t + 12 * qq + dd) 1))) A) ([.ref y, .int (nI t), .int (nI i), .int (nI j)] : List Value).toArray s 0 0 A) (F0 m 61 ls []) := by
                intro k32
                induction k32 with
                | zero => intro dd bd bq z35 h1 h2; exact absurd h1 (by omega)
                | succ k32 ih61k32 =>
                  intro dd bd bq z35 hi_dd hk_dd gbd gbq hbv hbs H locs ls hP hS hl
                  refine lv_iload hx hb dX7_guard_61 (lv_at hl 0 rfl) ?_
                  refine lv_aload_n hx hb dX7_guard_63 rfl (lv_at hl 5 rfl) ?_
                  refine va_get (D := G.1) (ci := 7) (v := .ref (b 3)) (C := RX7) (T := TX7) (N := 43) hx hb hts inX7 hown hK.1 hP 0 rfl rfl 3 (by decide) (hts _ mf_X7_17) (fun _ h9 => h9) rfl dX7_guard_64 ?_
                  refine lv_iload_n hx hb dX7_guard_67 rfl (lv_at hl 6 rfl) ?_
                  refine xiald (f := (r 3)) hx hb hK hP 3 (t) (rfl) (by omega) (by decide) rfl dX7_guard_68 ?_
                  refine lv_topi (fun v36 ev36 => ?_)
                  obtain rfl : v36 = nI (cl) := ev36.trans (h3)
                  refine lv_icmp_ge (tgt := 275) hx hb dX7_guard_69 (by decide) (fun c37 => ?_) (fun c37 => ?_)
                  · have b69 := qge_t (a := dd) (b := (cl)) (by omega) (by omega) c37
                    obtain ⟨v38, ev38⟩ : ∃ y9 : Int32, y9 = (nI qq) + Int32.ofInt (1) := ⟨_, rfl⟩
                    refine lv_iinc (v := v38) (lv' := [(7, .int v38), (8, .int (nI dd)), (6, .int (nI bd)), (5, .int (nI bq)), (4, .int z35), (0, .ref y), (1, .int (nI t)), (2, .int (nI i)), (3, .int (nI j))]) hx hb dX7_guard_275 hl (k := 1) rfl ev38.symm (by decide) rfl (fun ls hl => ?_)
                    obtain rfl : v38 = nI (qq + 1) := nI_plus (i := qq) (j := 1) ev38 rfl (by decide)
                    refine lv_goto (tgt := 12) hx hb dX7_guard_278 (by decide) ?_
                    exact ih12k1 (qq + 1) bd bq z35 (by omega) (by omega) (by omega) (by omega) (hbv) (BST_r hbs hcl (by omega) (by omega)) _ _ _ hP hS (lv_sub hl [0, 2, 3, 4, 5, 6, 7, 8] rfl)
                  · have b69 := qge_f (a := dd) (b := (cl)) (by omega) (by omega) c37
                    refine lv_iload hx hb dX7_guard_72 (lv_at hl 0 rfl) ?_
                    refine lv_iload_n hx hb dX7_guard_74 rfl (lv_at hl 8 rfl) ?_
                    refine lv_icmp_ne (tgt := 81) hx hb dX7_guard_75 (by decide) (fun c39 => ?_) (fun c39 => ?_)
                    · have b75 := qeq_f (a := dd) (b := j) (by omega) (by omega) c39
                      obtain ⟨m9, hm9, em9⟩ := hNR i dd hi b69 hsi
                      obtain ⟨m10, hm10, em10⟩ := hNR qq dd b20 b69 b36
                      have hp9 := pr_le (ru := r 4 (6 * t + 5)) hm9 em9
                      have hp10 := pr_le (ru := r 4 (6 * t + 5)) hm10 em10
                      refine lv_iload_n hx hb dX7_guard_81 rfl (lv_at hl 6 rfl) ?_
                      refine lv_iload_n hx hb dX7_guard_82 rfl (lv_at hl 7 rfl) ?_
                      refine lv_iload hx hb dX7_guard_83 (lv_at hl 0 rfl) ?_
                      refine rdS (rest := []) ⟨hx, hb, hml, hown, hts⟩ (m_X7_at l G y b f r t i dd  ) mi_yX7_at mst_yX7_at ml_X7_147 ⟨rfl, rfl, Nat.le_of_ble_eq_true rfl, Nat.le_of_ble_eq_true rfl⟩ hK (hP) rfl hl.1 rfl (Nat.le_of_ble_eq_true rfl) dX7_guard_85 ⟨Nat.zero_le _, Nat.zero_le _⟩ hS hA hP (fun r40 H locs hr40 hP hS => ?_)
                      obtain rfl := hr40
                      refine lv_istore (lv' := [(9, .int (nI (144 * t + 12 * i + dd))), (8, .int (nI dd)), (7, .int (nI qq)), (6, .int (nI bd)), (5, .int (nI bq)), (4, .int z35), (0, .ref y), (1, .int (nI t)), (2, .int (nI i)), (3, .int (nI j))]) hx hb dX7_guard_88 hl (by decide) rfl (fun ls hl => ?_)
                      refine lv_iload_n hx hb dX7_guard_90 rfl (lv_at hl 7 rfl) ?_
                      refine lv_iload hx hb dX7_guard_91 (lv_at hl 2 rfl) ?_
                      refine lv_iload_n hx hb dX7_guard_93 rfl (lv_at hl 9 rfl) ?_
                      refine rdS (rest := []) ⟨hx, hb, hml, hown, hts⟩ (m_X7_at l G y b f r t qq j  ) mi_yX7_at mst_yX7_at ml_X7_147 ⟨rfl, rfl, Nat.le_of_ble_eq_true rfl, Nat.le_of_ble_eq_true rfl⟩ hK (hP) rfl hl.1 rfl (Nat.le_of_ble_eq_true rfl) dX7_guard_94 ⟨Nat.zero_le _, Nat.zero_le _⟩ hS hA hP (fun r41 H locs hr41 hP hS => ?_)
                      obtain rfl := hr41
                      refine lv_istore (lv' := [(10, .int (nI (144 * t + 12 * qq + j))), (9, .int (nI (144 * t + 12 * i + dd))), (8, .int (nI dd)), (7, .int (nI qq)), (6, .int (nI bd)), (5, .int (nI bq)), (4, .int z35), (0, .ref y), (1, .int (nI t)), (2, .int (nI i)), (3, .int (nI j))]) hx hb dX7_guard_97 hl (by decide) rfl (fun ls hl => ?_)
                      refine lv_iload_n hx hb dX7_guard_99 rfl (lv_at hl 8 rfl) ?_
                      refine lv_iload hx hb dX7_guard_100 (lv_at hl 3 rfl) ?_
                      refine lv_iload hx hb dX7_guard_102 (lv_at hl 2 rfl) ?_
                      refine rdS (rest := []) ⟨hx, hb, hml, hown, hts⟩ (m_X7_at l G y b f r t qq dd  ) mi_yX7_at mst_yX7_at ml_X7_147 ⟨rfl, rfl, Nat.le_of_ble_eq_true rfl, Nat.le_of_ble_eq_true rfl⟩ hK (hP) rfl hl.1 rfl (Nat.le_of_ble_eq_true rfl) dX7_guard_104 ⟨Nat.zero_le _, Nat.zero_le _⟩ hS hA hP (fun r42 H locs hr42 hP hS => ?_)
                      obtain rfl := hr42
                      refine lv_istore (lv' := [(11, .int (nI (144 * t + 12 * qq + dd))), (10, .int (nI (144 * t + 12 * qq + j))), (9, .int (nI (144 * t + 12 * i + dd))), (8, .int (nI dd)), (7, .int (nI qq)), (6, .int (nI bd)), (5, .int (nI bq)), (4, .int z35), (0, .ref y), (1, .int (nI t)), (2, .int (nI i)), (3, .int (nI j))]) hx hb dX7_guard_107 hl (by decide) rfl (fun ls hl => ?_)
                      refine lv_aload_n hx hb dX7_guard_109 rfl (lv_at hl 8 rfl) ?_
                      refine va_get (D := G.1) (ci := 7) (v := .ref (b 5)) (C := RX7) (T := TX7) (N := 43) hx hb hts inX7 hown hK.1 hP 0 rfl rfl 5 (by decide) (hts _ mf_X7_23) (fun _ h9 => h9) rfl dX7_guard_110 ?_
                      refine lv_iload hx hb dX7_guard_113 (lv_at hl 2 rfl) ?_
                      refine xiald (f := (r 5)) hx hb hK hP 5 ((144 * t + 12 * i + dd)) (rfl) (by omega) (by decide) rfl dX7_guard_115 ?_
                      refine lv_topi (fun v43 ev43 => ?_)
                      obtain rfl : v43 = (r 5 (144 * t + 12 * i + dd)) := ev43.trans (rfl)
                      refine lv_iconst (v := 4) hx hb dX7_guard_116 (by decide) ?_
                      refine lv_icmp_eq (tgt := 269) hx hb dX7_guard_117 (by decide) (fun c44 => ?_) (fun c44 => ?_)
                      · obtain ⟨v45, ev45⟩ : ∃ y9 : Int32, y9 = (nI dd) + Int32.ofInt (1) := ⟨_, rfl⟩
                        refine lv_iinc (v := v45) (lv' := [(8, .int v45), (11, .int (nI (144 * t + 12 * qq + dd))), (10, .int (nI (144 * t + 12 * qq + j))), (9, .int (nI (144 * t + 12 * i + dd))), (7, .int (nI qq)), (6, .int (nI bd)), (5, .int (nI bq)), (4, .int z35), (0, .ref y), (1, .int (nI t)), (2, .int (nI i)), (3, .int (nI j))]) hx hb dX7_guard_269 hl (k := 3) rfl ev45.symm (by decide) rfl (fun ls hl => ?_)
                        obtain rfl : v45 = nI (dd + 1) := nI_plus (i := dd) (j := 1) ev45 rfl (by decide)
                        refine lv_goto (tgt := 61) hx hb dX7_guard_272 (by decide) ?_
                        exact ih61k32 (dd + 1) bd bq z35 (by omega) (by omega) (by omega) (by omega) (hbv) (BST_n hbs hcl (by omega) (fun h9 => h9.2.2.2.2.2.1 c44)) _ _ _ hP hS (lv_sub hl [0, 4, 5, 6, 7, 8, 9, 10, 11] rfl)
                      · refine lv_aload_n hx hb dX7_guard_120 rfl (lv_at hl 8 rfl) ?_
                        refine va_get (D := G.1) (ci := 7) (v := .ref (b 5)) (C := RX7) (T := TX7) (N := 43) hx hb hts inX7 hown hK.1 hP 0 rfl rfl 5 (by decide) (hts _ mf_X7_23) (fun _ h9 => h9) rfl dX7_guard_121 ?_
                        refine lv_iload hx hb dX7_guard_124 (lv_at hl 1 rfl) ?_
                        refine xiald (f := (r 5)) hx hb hK hP 5 ((144 * t + 12 * qq + j)) (rfl) (by omega) (by decide) rfl dX7_guard_126 ?_
                        refine lv_topi (fun v46 ev46 => ?_)
                        obtain rfl : v46 = (r 5 (144 * t + 12 * qq + j)) := ev46.trans (rfl)
                        refine lv_iconst (v := 4) hx hb dX7_guard_127 (by decide) ?_
                        refine lv_icmp_eq (tgt := 269) hx hb dX7_guard_128 (by decide) (fun c47 => ?_) (fun c47 => ?_)
                        · obtain ⟨v48, ev48⟩ : ∃ y9 : Int32, y9 = (nI dd) + Int32.ofInt (1) := ⟨_, rfl⟩
                          refine lv_iinc (v := v48) (lv' := [(8, .int v48), (11, .int (nI (144 * t + 12 * qq + dd))), (10, .int (nI (144 * t + 12 * qq + j))), (9, .int (nI (144 * t + 12 * i + dd))), (7, .int (nI qq)), (6, .int (nI bd)), (5, .int (nI bq)), (4, .int z35), (0, .ref y), (1, .int (nI t)), (2, .int (nI i)), (3, .int (nI j))]) hx hb dX7_guard_269 hl (k := 3) rfl ev48.symm (by decide) rfl (fun ls hl => ?_)
                          obtain rfl : v48 = nI (dd + 1) := nI_plus (i := dd) (j := 1) ev48 rfl (by decide)
                          refine lv_goto (tgt := 61) hx hb dX7_guard_272 (by decide) ?_
                          exact ih61k32 (dd + 1) bd bq z35 (by omega) (by omega) (by omega) (by omega) (hbv) (BST_n hbs hcl (by omega) (fun h9 => h9.2.2.2.2.2.2.1 c47)) _ _ _ hP hS (lv_sub hl [0, 4, 5, 6, 7, 8, 9, 10, 11] rfl)
                        · refine lv_aload_n hx hb dX7_guard_131 rfl (lv_at hl 8 rfl) ?_
                          refine va_get (D := G.1) (ci := 7) (v := .ref (b 5)) (C := RX7) (T := TX7) (N := 43) hx hb hts inX7 hown hK.1 hP 0 rfl rfl 5 (by decide) (hts _ mf_X7_23) (fun _ h9 => h9) rfl dX7_guard_132 ?_
                          refine lv_iload hx hb dX7_guard_135 (lv_at hl 0 rfl) ?_
                          refine xiald (f := (r 5)) hx hb hK hP 5 ((144 * t + 12 * qq + dd)) (rfl) (by omega) (by decide) rfl dX7_guard_137 ?_
                          refine lv_topi (fun v49 ev49 => ?_)
                          obtain rfl : v49 = (r 5 (144 * t + 12 * qq + dd)) := ev49.trans (rfl)
                          refine lv_iconst (v := 4) hx hb dX7_guard_138 (by decide) ?_
                          refine lv_icmp_eq (tgt := 269) hx hb dX7_guard_139 (by decide) (fun c50 => ?_) (fun c50 => ?_)
                          · obtain ⟨v51, ev51⟩ : ∃ y9 : Int32, y9 = (nI dd) + Int32.ofInt (1) := ⟨_, rfl⟩
                            refine lv_iinc (v := v51) (lv' := [(8, .int v51), (11, .int (nI (144 * t + 12 * qq + dd))), (10, .int (nI (144 * t + 12 * qq + j))), (9, .int (nI (144 * t + 12 * i + dd))), (7, .int (nI qq)), (6, .int (nI bd)), (5, .int (nI bq)), (4, .int z35), (0, .ref y), (1, .int (nI t)), (2, .int (nI i)), (3, .int (nI j))]) hx hb dX7_guard_269 hl (k := 3) rfl ev51.symm (by decide) rfl (fun ls hl => ?_)
                            obtain rfl : v51 = nI (dd + 1) := nI_plus (i := dd) (j := 1) ev51 rfl (by decide)
                            refine lv_goto (tgt := 61) hx hb dX7_guard_272 (by decide) ?_
                            exact ih61k32 (dd + 1) bd bq z35 (by omega) (by omega) (by omega) (by omega) (hbv) (BST_n hbs hcl (by omega) (fun h9 => h9.2.2.2.2.2.2.2.1 c50)) _ _ _ hP hS (lv_sub hl [0, 4, 5, 6, 7, 8, 9, 10, 11] rfl)
                          · have hzz : ¬ (zzM (r 5) t) i dd ∧ ¬ (zzM (r 5) t) qq j ∧ ¬ (zzM (r 5) t) qq dd := ⟨c44, c47, c50⟩
                            refine lv_aload_n hx hb dX7_guard_142 rfl (lv_at hl 8 rfl) ?_
                            refine lv_iload_n hx hb dX7_guard_143 rfl (lv_at hl 9 rfl) ?_
                            refine lv_iload hx hb dX7_guard_144 (lv_at hl 2 rfl) ?_
                            refine rdV (rest := []) (q0 := 0) ⟨hx, hb, hml, hown, hts⟩ (n_isKept l G y b f r t (144 * t + 12 * i + dd)  (by omega) (by omega) hG) mi_yX7_isKept mv_yX7_isKept ml_X7_181 ⟨rfl, rfl, Nat.le_of_ble_eq_true rfl, Nat.le_of_ble_eq_true rfl⟩ hK (hP) rfl rfl rfl hl.1 rfl (Nat.le_of_ble_eq_true rfl) dX7_guard_146 ⟨Nat.zero_le _, Nat.zero_le _⟩ hS hA hP (fun r52 H locs hr52 hP hS => ?_)
                            have hr52 : ((r52 = 1 ∧ (kpM (r 4) (r 5) (r 6) (r 7) (r 8) (r 9) (r 10) t (144 * t + 12 * i + dd))) ∨ (r52 = 0 ∧ ¬ (kpM (r 4) (r 5) (r 6) (r 7) (r 8) (r 9) (r 10) t (144 * t + 12 * i + dd)))) := hr52
                            have j175_52 : ∀ (hnk : ¬ ((KM (r 4) (r 5) (r 6) (r 7) (r 8) (r 9) (r 10) t) i dd = true ∧ (KM (r 4) (r 5) (r 6) (r 7) (r 8) (r 9) (r 10) t) qq j = true ∧ (KM (r 4) (r 5) (r 6) (r 7) (r 8) (r 9) (r 10) t) qq dd = true)) (H : Heap) (locs : List Loc) (ls : Array Slot), PP G (mM G y b f r) H → va_S A s.heap H locs → lv_has ls 13 [(11, .int (nI (144 * t + 12 * qq + dd))), (10, .int (nI (144 * t + 12 * qq + j))), (9, .int (nI (144 * t + 12 * i + dd))), (8, .int (nI dd)), (7, .int (nI qq)), (6, .int (nI bd)), (5, .int (nI bq)), (4, .int z35), (0, .ref y), (1, .int (nI t)), (2, .int (nI i)), (3, .int (nI j))] → W p l e ({ frames := 4, cells := 0, slots := 0, locals := 95 }) s m ([.ref y, .int (nI t), .int (nI i), .int (nI j)] : List Value).toArray below meth c H locs 0 0 (MQ below (QwI G (fun q w => ∃ (n_r_10 : Nat → Int32), w = mM G y b f (up2 r 10 n_r_10) ∧ ((q = 0 ∧ NON rw cl (mtM (r 3) (r 5) (r 11) (r 13) (r 14) t bk) (zzM (r 5) t) (KM (r 4) (r 5) (r 6) (r 7) (r 8) (r 9) (r 10) t) i j 144 ∧ n_r_10 = (r 10)) ∨ (∃ qq dd, BSN rw cl (mtM (r 3) (r 5) (r 11) (r 13) (r 14) t bk) (zzM (r 5) t) (prM (r 4) (r 6) t) (KM (r 4) (r 5) (r 6) (r 7) (r 8) (r 9) (r 10) t) i j 144 qq dd ∧ q = nI (nw3 (KM (r 4) (r 5) (r 6) (r 7) (r 8) (r 9) (r 10) t) i j qq dd) ∧ n_r_10 = upd (upd (upd (r 10) (144 * t + 12 * i + dd) 1) (144 * t + 12 * qq + j) 1) (144 * t + 12 * qq + dd) 1))) A) ([.ref y, .int (nI t), .int (nI i), .int (nI j)] : List Value).toArray s 0 0 A) (F0 m 175 ls []) := by
                              intro  hnk H locs ls hP hS hl
                              refine lv_aload_n hx hb dX7_guard_175 rfl (lv_at hl 8 rfl) ?_
                              refine lv_iload_n hx hb dX7_guard_176 rfl (lv_at hl 9 rfl) ?_
                              refine lv_iload hx hb dX7_guard_177 (lv_at hl 2 rfl) ?_
                              refine rdV (rest := []) (q0 := 0) ⟨hx, hb, hml, hown, hts⟩ (n_isKept l G y b f r t (144 * t + 12 * i + dd)  (by omega) (by omega) hG) mi_yX7_isKept mv_yX7_isKept ml_X7_181 ⟨rfl, rfl, Nat.le_of_ble_eq_true rfl, Nat.le_of_ble_eq_true rfl⟩ hK (hP) rfl rfl rfl hl.1 rfl (Nat.le_of_ble_eq_true rfl) dX7_guard_179 ⟨Nat.zero_le _, Nat.zero_le _⟩ hS hA hP (fun r53 H locs hr53 hP hS => ?_)
                              have hr53 : ((r53 = 1 ∧ (kpM (r 4) (r 5) (r 6) (r 7) (r 8) (r 9) (r 10) t (144 * t + 12 * i + dd))) ∨ (r53 = 0 ∧ ¬ (kpM (r 4) (r 5) (r 6) (r 7) (r 8) (r 9) (r 10) t (144 * t + 12 * i + dd)))) := hr53
                              have j196_54 : ∀ (z54 : Int32) (hp_ : z54 = nI (pcT (prM (r 4) (r 6) t) (KM (r 4) (r 5) (r 6) (r 7) (r 8) (r 9) (r 10) t) i dd)) (H : Heap) (locs : List Loc) (ls : Array Slot), PP G (mM G y b f r) H → va_S A s.heap H locs → lv_has ls 13 [(11, .int (nI (144 * t + 12 * qq + dd))), (10, .int (nI (144 * t + 12 * qq + j))), (8, .int (nI dd)), (7, .int (nI qq)), (6, .int (nI bd)), (5, .int (nI bq)), (4, .int z35), (0, .ref y), (1, .int (nI t)), (2, .int (nI i)), (3, .int (nI j))] → W p l e ({ frames := 4, cells := 0, slots := 0, locals := 95 }) s m ([.ref y, .int (nI t), .int (nI i), .int (nI j)] : List Value).toArray below meth c H locs 0 0 (MQ below (QwI G (fun q w => ∃ (n_r_10 : Nat → Int32), w = mM G y b f (up2 r 10 n_r_10) ∧ ((q = 0 ∧ NON rw cl (mtM (r 3) (r 5) (r 11) (r 13) (r 14) t bk) (zzM (r 5) t) (KM (r 4) (r 5) (r 6) (r 7) (r 8) (r 9) (r 10) t) i j 144 ∧ n_r_10 = (r 10)) ∨ (∃ qq dd, BSN rw cl (mtM (r 3) (r 5) (r 11) (r 13) (r 14) t bk) (zzM (r 5) t) (prM (r 4) (r 6) t) (KM (r 4) (r 5) (r 6) (r 7) (r 8) (r 9) (r 10) t) i j 144 qq dd ∧ q = nI (nw3 (KM (r 4) (r 5) (r 6) (r 7) (r 8) (r 9) (r 10) t) i j qq dd) ∧ n_r_10 = upd (upd (upd (r 10) (144 * t + 12 * i + dd) 1) (144 * t + 12 * qq + j) 1) (144 * t + 12 * qq + dd) 1))) A) ([.ref y, .int (nI t), .int (nI i), .int (nI j)] : List Value).toArray s 0 0 A) (F0 m 196 ls [.int z54]) := by
                                intro z54 hp_ H locs ls hP hS hl
                                subst hp_
                                have l196 : pcT (prM (r 4) (r 6) t) (KM (r 4) (r 5) (r 6) (r 7) (r 8) (r 9) (r 10) t) i dd ≤ 1000001 := by unfold pcT; split; omega; exact hp9.2
                                refine lv_aload_n hx hb dX7_guard_196 rfl (lv_at hl 7 rfl) ?_
                                refine lv_iload_n hx hb dX7_guard_197 rfl (lv_at hl 8 rfl) ?_
                                refine lv_iload hx hb dX7_guard_198 (lv_at hl 1 rfl) ?_
                                refine rdV (rest := [.int (nI (pcT (prM (r 4) (r 6) t) (KM (r 4) (r 5) (r 6) (r 7) (r 8) (r 9) (r 10) t) i dd))]) (q0 := 0) ⟨hx, hb, hml, hown, hts⟩ (n_isKept l G y b f r t (144 * t + 12 * qq + j)  (by omega) (by omega) hG) mi_yX7_isKept mv_yX7_isKept ml_X7_181 ⟨rfl, rfl, Nat.le_of_ble_eq_true rfl, Nat.le_of_ble_eq_true rfl⟩ hK (hP) rfl rfl rfl hl.1 rfl (Nat.le_of_ble_eq_true rfl) dX7_guard_200 ⟨Nat.zero_le _, Nat.zero_le _⟩ hS hA hP (fun r55 H locs hr55 hP hS => ?_)
                                have hr55 : ((r55 = 1 ∧ (kpM (r 4) (r 5) (r 6) (r 7) (r 8) (r 9) (r 10) t (144 * t + 12 * qq + j))) ∨ (r55 = 0 ∧ ¬ (kpM (r 4) (r 5) (r 6) (r 7) (r 8) (r 9) (r 10) t (144 * t + 12 * qq + j)))) := hr55
                                have j217_56 : ∀ (z56 : Int32) (hp_ : z56 = nI (pcT (prM (r 4) (r 6) t) (KM (r 4) (r 5) (r 6) (r 7) (r 8) (r 9) (r 10) t) qq j)) (H : Heap) (locs : List Loc) (ls : Array Slot), PP G (mM G y b f r) H → va_S A s.heap H locs → lv_has ls 13 [(11, .int (nI (144 * t + 12 * qq + dd))), (8, .int (nI dd)), (7, .int (nI qq)), (6, .int (nI bd)), (5, .int (nI bq)), (4, .int z35), (0, .ref y), (1, .int (nI t)), (2, .int (nI i)), (3, .int (nI j))] → W p l e ({ frames := 4, cells := 0, slots := 0, locals := 95 }) s m ([.ref y, .int (nI t), .int (nI i), .int (nI j)] : List Value).toArray below meth c H locs 0 0 (MQ below (QwI G (fun q w => ∃ (n_r_10 : Nat → Int32), w = mM G y b f (up2 r 10 n_r_10) ∧ ((q = 0 ∧ NON rw cl (mtM (r 3) (r 5) (r 11) (r 13) (r 14) t bk) (zzM (r 5) t) (KM (r 4) (r 5) (r 6) (r 7) (r 8) (r 9) (r 10) t) i j 144 ∧ n_r_10 = (r 10)) ∨ (∃ qq dd, BSN rw cl (mtM (r 3) (r 5) (r 11) (r 13) (r 14) t bk) (zzM (r 5) t) (prM (r 4) (r 6) t) (KM (r 4) (r 5) (r 6) (r 7) (r 8) (r 9) (r 10) t) i j 144 qq dd ∧ q = nI (nw3 (KM (r 4) (r 5) (r 6) (r 7) (r 8) (r 9) (r 10) t) i j qq dd) ∧ n_r_10 = upd (upd (upd (r 10) (144 * t + 12 * i + dd) 1) (144 * t + 12 * qq + j) 1) (144 * t + 12 * qq + dd) 1))) A) ([.ref y, .int (nI t), .int (nI i), .int (nI j)] : List Value).toArray s 0 0 A) (F0 m 217 ls [.int z56, .int (nI (pcT (prM (r 4) (r 6) t) (KM (r 4) (r 5) (r 6) (r 7) (r 8) (r 9) (r 10) t) i dd))]) := by
                                  intro z56 hp_ H locs ls hP hS hl
                                  subst hp_
                                  have l217 : pcT (prM (r 4) (r 6) t) (KM (r 4) (r 5) (r 6) (r 7) (r 8) (r 9) (r 10) t) qq j ≤ 1000001 := by unfold pcT; split; omega; exact hp7.2
                                  refine lv_iadd hx hb dX7_guard_217 ?_
                                  refine lv_topi (fun v57 ev57 => ?_)
                                  obtain rfl : v57 = nI ((pcT (prM (r 4) (r 6) t) (KM (r 4) (r 5) (r 6) (r 7) (r 8) (r 9) (r 10) t) i dd) + (pcT (prM (r 4) (r 6) t) (KM (r 4) (r 5) (r 6) (r 7) (r 8) (r 9) (r 10) t) qq j)) := nI_plus ev57 rfl rfl
                                  refine lv_aload_n hx hb dX7_guard_218 rfl (lv_at hl 6 rfl) ?_
                                  refine lv_iload_n hx hb dX7_guard_219 rfl (lv_at hl 7 rfl) ?_
                                  refine lv_iload hx hb dX7_guard_220 (lv_at hl 0 rfl) ?_
                                  refine rdV (rest := [.int (nI ((pcT (prM (r 4) (r 6) t) (KM (r 4) (r 5) (r 6) (r 7) (r 8) (r 9) (r 10) t) i dd) + (pcT (prM (r 4) (r 6) t) (KM (r 4) (r 5) (r 6) (r 7) (r 8) (r 9) (r 10) t) qq j)))]) (q0 := 0) ⟨hx, hb, hml, hown, hts⟩ (n_isKept l G y b f r t (144 * t + 12 * qq + dd)  (by omega) (by omega) hG) mi_yX7_isKept mv_yX7_isKept ml_X7_181 ⟨rfl, rfl, Nat.le_of_ble_eq_true rfl, Nat.le_of_ble_eq_true rfl⟩ hK (hP) rfl rfl rfl hl.1 rfl (Nat.le_of_ble_eq_true rfl) dX7_guard_222 ⟨Nat.zero_le _, Nat.zero_le _⟩ hS hA hP (fun r58 H locs hr58 hP hS => ?_)
                                  have hr58 : ((r58 = 1 ∧ (kpM (r 4) (r 5) (r 6) (r 7) (r 8) (r 9) (r 10) t (144 * t + 12 * qq + dd))) ∨ (r58 = 0 ∧ ¬ (kpM (r 4) (r 5) (r 6) (r 7) (r 8) (r 9) (r 10) t (144 * t + 12 * qq + dd)))) := hr58
                                  have j239_59 : ∀ (z59 : Int32) (hp_ : z59 = nI (pcT (prM (r 4) (r 6) t) (KM (r 4) (r 5) (r 6) (r 7) (r 8) (r 9) (r 10) t) qq dd)) (H : Heap) (locs : List Loc) (ls : Array Slot), PP G (mM G y b f r) H → va_S A s.heap H locs → lv_has ls 13 [(8, .int (nI dd)), (7, .int (nI qq)), (6, .int (nI bd)), (5, .int (nI bq)), (4, .int z35), (0, .ref y), (1, .int (nI t)), (2, .int (nI i)), (3, .int (nI j))] → W p l e ({ frames := 4, cells := 0, slots := 0, locals := 95 }) s m ([.ref y, .int (nI t), .int (nI i), .int (nI j)] : List Value).toArray below meth c H locs 0 0 (MQ below (QwI G (fun q w => ∃ (n_r_10 : Nat → Int32), w = mM G y b f (up2 r 10 n_r_10) ∧ ((q = 0 ∧ NON rw cl (mtM (r 3) (r 5) (r 11) (r 13) (r 14) t bk) (zzM (r 5) t) (KM (r 4) (r 5) (r 6) (r 7) (r 8) (r 9) (r 10) t) i j 144 ∧ n_r_10 = (r 10)) ∨ (∃ qq dd, BSN rw cl (mtM (r 3) (r 5) (r 11) (r 13) (r 14) t bk) (zzM (r 5) t) (prM (r 4) (r 6) t) (KM (r 4) (r 5) (r 6) (r 7) (r 8) (r 9) (r 10) t) i j 144 qq dd ∧ q = nI (nw3 (KM (r 4) (r 5) (r 6) (r 7) (r 8) (r 9) (r 10) t) i j qq dd) ∧ n_r_10 = upd (upd (upd (r 10) (144 * t + 12 * i + dd) 1) (144 * t + 12 * qq + j) 1) (144 * t + 12 * qq + dd) 1))) A) ([.ref y, .int (nI t), .int (nI i), .int (nI j)] : List Value).toArray s 0 0 A) (F0 m 239 ls [.int z59, .int (nI ((pcT (prM (r 4) (r 6) t) (KM (r 4) (r 5) (r 6) (r 7) (r 8) (r 9) (r 10) t) i dd) + (pcT (prM (r 4) (r 6) t) (KM (r 4) (r 5) (r 6) (r 7) (r 8) (r 9) (r 10) t) qq j)))]) := by
                                    intro z59 hp_ H locs ls hP hS hl
                                    subst hp_
                                    have l239 : pcT (prM (r 4) (r 6) t) (KM (r 4) (r 5) (r 6) (r 7) (r 8) (r 9) (r 10) t) qq dd ≤ 1000001 := by unfold pcT; split; omega; exact hp10.2
                                    refine lv_iadd hx hb dX7_guard_239 ?_
                                    refine lv_topi (fun v60 ev60 => ?_)
                                    obtain rfl : v60 = nI (((pcT (prM (r 4) (r 6) t) (KM (r 4) (r 5) (r 6) (r 7) (r 8) (r 9) (r 10) t) i dd) + (pcT (prM (r 4) (r 6) t) (KM (r 4) (r 5) (r 6) (r 7) (r 8) (r 9) (r 10) t) qq j)) + (pcT (prM (r 4) (r 6) t) (KM (r 4) (r 5) (r 6) (r 7) (r 8) (r 9) (r 10) t) qq dd)) := nI_plus ev60 rfl rfl
                                    have hcd : CAND rw cl (mtM (r 3) (r 5) (r 11) (r 13) (r 14) t bk) (zzM (r 5) t) (KM (r 4) (r 5) (r 6) (r 7) (r 8) (r 9) (r 10) t) i j qq dd := ⟨b20, b69, b26, b75, hmt, hzz.1, hzz.2.1, hzz.2.2, hnk⟩
                                    refine lv_istore (lv' := [(12, .int (nI (((pcT (prM (r 4) (r 6) t) (KM (r 4) (r 5) (r 6) (r 7) (r 8) (r 9) (r 10) t) i dd) + (pcT (prM (r 4) (r 6) t) (KM (r 4) (r 5) (r 6) (r 7) (r 8) (r 9) (r 10) t) qq j)) + (pcT (prM (r 4) (r 6) t) (KM (r 4) (r 5) (r 6) (r 7) (r 8) (r 9) (r 10) t) qq dd)))), (8, .int (nI dd)), (7, .int (nI qq)), (6, .int (nI bd)), (5, .int (nI bq)), (4, .int z35), (0, .ref y), (1, .int (nI t)), (2, .int (nI i)), (3, .int (nI j))]) hx hb dX7_guard_240 hl (by decide) rfl (fun ls hl => ?_)
                                    refine lv_iload hx hb dX7_guard_242 (lv_at hl 5 rfl) ?_
                                    refine lv_if_lt (tgt := 257) hx hb dX7_guard_244 (by decide) (fun c61 => ?_) (fun c61 => ?_)
                                    · refine lv_iload hx hb dX7_guard_257 (lv_at hl 0 rfl) ?_
                                      refine lv_istore (lv' := [(4, .int (nI (((pcT (prM (r 4) (r 6) t) (KM (r 4) (r 5) (r 6) (r 7) (r 8) (r 9) (r 10) t) i dd) + (pcT (prM (r 4) (r 6) t) (KM (r 4) (r 5) (r 6) (r 7) (r 8) (r 9) (r 10) t) qq j)) + (pcT (prM (r 4) (r 6) t) (KM (r 4) (r 5) (r 6) (r 7) (r 8) (r 9) (r 10) t) qq dd)))), (12, .int (nI (((pcT (prM (r 4) (r 6) t) (KM (r 4) (r 5) (r 6) (r 7) (r 8) (r 9) (r 10) t) i dd) + (pcT (prM (r 4) (r 6) t) (KM (r 4) (r 5) (r 6) (r 7) (r 8) (r 9) (r 10) t) qq j)) + (pcT (prM (r 4) (r 6) t) (KM (r 4) (r 5) (r 6) (r 7) (r 8) (r 9) (r 10) t) qq dd)))), (8, .int (nI dd)), (7, .int (nI qq)), (6, .int (nI bd)), (5, .int (nI bq)), (0, .ref y), (1, .int (nI t)), (2, .int (nI i)), (3, .int (nI j))]) hx hb dX7_guard_259 hl (by decide) rfl (fun ls hl => ?_)
                                      refine lv_iload hx hb dX7_guard_261 (lv_at hl 3 rfl) ?_
                                      refine lv_istore (lv' := [(5, .int (nI qq)), (4, .int (nI (((pcT (prM (r 4) (r 6) t) (KM (r 4) (r 5) (r 6) (r 7) (r 8) (r 9) (r 10) t) i dd) + (pcT (prM (r 4) (r 6) t) (KM (r 4) (r 5) (r 6) (r 7) (r 8) (r 9) (r 10) t) qq j)) + (pcT (prM (r 4) (r 6) t) (KM (r 4) (r 5) (r 6) (r 7) (r 8) (r 9) (r 10) t) qq dd)))), (12, .int (nI (((pcT (prM (r 4) (r 6) t) (KM (r 4) (r 5) (r 6) (r 7) (r 8) (r 9) (r 10) t) i dd) + (pcT (prM (r 4) (r 6) t) (KM (r 4) (r 5) (r 6) (r 7) (r 8) (r 9) (r 10) t) qq j)) + (pcT (prM (r 4) (r 6) t) (KM (r 4) (r 5) (r 6) (r 7) (r 8) (r 9) (r 10) t) qq dd)))), (8, .int (nI dd)), (7, .int (nI qq)), (6, .int (nI bd)), (0, .ref y), (1, .int (nI t)), (2, .int (nI i)), (3, .int (nI j))]) hx hb dX7_guard_263 hl (by decide) rfl (fun ls hl => ?_)
                                      refine lv_iload hx hb dX7_guard_265 (lv_at hl 3 rfl) ?_
                                      refine lv_istore (lv' := [(6, .int (nI dd)), (5, .int (nI qq)), (4, .int (nI (((pcT (prM (r 4) (r 6) t) (KM (r 4) (r 5) (r 6) (r 7) (r 8) (r 9) (r 10) t) i dd) + (pcT (prM (r 4) (r 6) t) (KM (r 4) (r 5) (r 6) (r 7) (r 8) (r 9) (r 10) t) qq j)) + (pcT (prM (r 4) (r 6) t) (KM (r 4) (r 5) (r 6) (r 7) (r 8) (r 9) (r 10) t) qq dd)))), (12, .int (nI (((pcT (prM (r 4) (r 6) t) (KM (r 4) (r 5) (r 6) (r 7) (r 8) (r 9) (r 10) t) i dd) + (pcT (prM (r 4) (r 6) t) (KM (r 4) (r 5) (r 6) (r 7) (r 8) (r 9) (r 10) t) qq j)) + (pcT (prM (r 4) (r 6) t) (KM (r 4) (r 5) (r 6) (r 7) (r 8) (r 9) (r 10) t) qq dd)))), (8, .int (nI dd)), (7, .int (nI qq)), (0, .ref y), (1, .int (nI t)), (2, .int (nI i)), (3, .int (nI j))]) hx hb dX7_guard_267 hl (by decide) rfl (fun ls hl => ?_)
                                      obtain ⟨v62, ev62⟩ : ∃ y9 : Int32, y9 = (nI dd) + Int32.ofInt (1) := ⟨_, rfl⟩
                                      refine lv_iinc (v := v62) (lv' := [(8, .int v62), (6, .int (nI dd)), (5, .int (nI qq)), (4, .int (nI (((pcT (prM (r 4) (r 6) t) (KM (r 4) (r 5) (r 6) (r 7) (r 8) (r 9) (r 10) t) i dd) + (pcT (prM (r 4) (r 6) t) (KM (r 4) (r 5) (r 6) (r 7) (r 8) (r 9) (r 10) t) qq j)) + (pcT (prM (r 4) (r 6) t) (KM (r 4) (r 5) (r 6) (r 7) (r 8) (r 9) (r 10) t) qq dd)))), (12, .int (nI (((pcT (prM (r 4) (r 6) t) (KM (r 4) (r 5) (r 6) (r 7) (r 8) (r 9) (r 10) t) i dd) + (pcT (prM (r 4) (r 6) t) (KM (r 4) (r 5) (r 6) (r 7) (r 8) (r 9) (r 10) t) qq j)) + (pcT (prM (r 4) (r 6) t) (KM (r 4) (r 5) (r 6) (r 7) (r 8) (r 9) (r 10) t) qq dd)))), (7, .int (nI qq)), (0, .ref y), (1, .int (nI t)), (2, .int (nI i)), (3, .int (nI j))]) hx hb dX7_guard_269 hl (k := 4) rfl ev62.symm (by decide) rfl (fun ls hl => ?_)
                                      obtain rfl : v62 = nI (dd + 1) := nI_plus (i := dd) (j := 1) ev62 rfl (by decide)
                                      refine lv_goto (tgt := 61) hx hb dX7_guard_272 (by decide) ?_
                                      exact ih61k32 (dd + 1) dd qq (nI (((pcT (prM (r 4) (r 6) t) (KM (r 4) (r 5) (r 6) (r 7) (r 8) (r 9) (r 10) t) i dd) + (pcT (prM (r 4) (r 6) t) (KM (r 4) (r 5) (r 6) (r 7) (r 8) (r 9) (r 10) t) qq j)) + (pcT (prM (r 4) (r 6) t) (KM (r 4) (r 5) (r 6) (r 7) (r 8) (r 9) (r 10) t) qq dd))) (by omega) (by omega) (by omega) (by omega) (Or.inr ⟨congrArg nI (by unfold pc3; omega), by unfold pc3; omega⟩) (BST_take hbs hcl hcd (fun h9 => by have z9 := hbv.resolve_left h9; have h8 := c61; rw [z9.1] at h8; exact absurd h8 (nI_pos (by omega))) (nI_nm1 (by omega))) _ _ _ hP hS (lv_sub hl [0, 5, 1, 2, 3, 6, 7, 8, 9] rfl)
                                    · refine lv_iload hx hb dX7_guard_247 (lv_at hl 0 rfl) ?_
                                      refine lv_iload hx hb dX7_guard_249 (lv_at hl 5 rfl) ?_
                                      refine lv_icmp_lt (tgt := 257) hx hb dX7_guard_251 (by decide) (fun c63 => ?_) (fun c63 => ?_)
                                      · refine lv_iload hx hb dX7_guard_257 (lv_at hl 0 rfl) ?_
                                        refine lv_istore (lv' := [(4, .int (nI (((pcT (prM (r 4) (r 6) t) (KM (r 4) (r 5) (r 6) (r 7) (r 8) (r 9) (r 10) t) i dd) + (pcT (prM (r 4) (r 6) t) (KM (r 4) (r 5) (r 6) (r 7) (r 8) (r 9) (r 10) t) qq j)) + (pcT (prM (r 4) (r 6) t) (KM (r 4) (r 5) (r 6) (r 7) (r 8) (r 9) (r 10) t) qq dd)))), (12, .int (nI (((pcT (prM (r 4) (r 6) t) (KM (r 4) (r 5) (r 6) (r 7) (r 8) (r 9) (r 10) t) i dd) + (pcT (prM (r 4) (r 6) t) (KM (r 4) (r 5) (r 6) (r 7) (r 8) (r 9) (r 10) t) qq j)) + (pcT (prM (r 4) (r 6) t) (KM (r 4) (r 5) (r 6) (r 7) (r 8) (r 9) (r 10) t) qq dd)))), (8, .int (nI dd)), (7, .int (nI qq)), (6, .int (nI bd)), (5, .int (nI bq)), (0, .ref y), (1, .int (nI t)), (2, .int (nI i)), (3, .int (nI j))]) hx hb dX7_guard_259 hl (by decide) rfl (fun ls hl => ?_)
                                        refine lv_iload hx hb dX7_guard_261 (lv_at hl 3 rfl) ?_
                                        refine lv_istore (lv' := [(5, .int (nI qq)), (4, .int (nI (((pcT (prM (r 4) (r 6) t) (KM (r 4) (r 5) (r 6) (r 7) (r 8) (r 9) (r 10) t) i dd) + (pcT (prM (r 4) (r 6) t) (KM (r 4) (r 5) (r 6) (r 7) (r 8) (r 9) (r 10) t) qq j)) + (pcT (prM (r 4) (r 6) t) (KM (r 4) (r 5) (r 6) (r 7) (r 8) (r 9) (r 10) t) qq dd)))), (12, .int (nI (((pcT (prM (r 4) (r 6) t) (KM (r 4) (r 5) (r 6) (r 7) (r 8) (r 9) (r 10) t) i dd) + (pcT (prM (r 4) (r 6) t) (KM (r 4) (r 5) (r 6) (r 7) (r 8) (r 9) (r 10) t) qq j)) + (pcT (prM (r 4) (r 6) t) (KM (r 4) (r 5) (r 6) (r 7) (r 8) (r 9) (r 10) t) qq dd)))), (8, .int (nI dd)), (7, .int (nI qq)), (6, .int (nI bd)), (0, .ref y), (1, .int (nI t)), (2, .int (nI i)), (3, .int (nI j))]) hx hb dX7_guard_263 hl (by decide) rfl (fun ls hl => ?_)
                                        refine lv_iload hx hb dX7_guard_265 (lv_at hl 3 rfl) ?_
                                        refine lv_istore (lv' := [(6, .int (nI dd)), (5, .int (nI qq)), (4, .int (nI (((pcT (prM (r 4) (r 6) t) (KM (r 4) (r 5) (r 6) (r 7) (r 8) (r 9) (r 10) t) i dd) + (pcT (prM (r 4) (r 6) t) (KM (r 4) (r 5) (r 6) (r 7) (r 8) (r 9) (r 10) t) qq j)) + (pcT (prM (r 4) (r 6) t) (KM (r 4) (r 5) (r 6) (r 7) (r 8) (r 9) (r 10) t) qq dd)))), (12, .int (nI (((pcT (prM (r 4) (r 6) t) (KM (r 4) (r 5) (r 6) (r 7) (r 8) (r 9) (r 10) t) i dd) + (pcT (prM (r 4) (r 6) t) (KM (r 4) (r 5) (r 6) (r 7) (r 8) (r 9) (r 10) t) qq j)) + (pcT (prM (r 4) (r 6) t) (KM (r 4) (r 5) (r 6) (r 7) (r 8) (r 9) (r 10) t) qq dd)))), (8, .int (nI dd)), (7, .int (nI qq)), (0, .ref y), (1, .int (nI t)), (2, .int (nI i)), (3, .int (nI j))]) hx hb dX7_guard_267 hl (by decide) rfl (fun ls hl => ?_)
                                        obtain ⟨v64, ev64⟩ : ∃ y9 : Int32, y9 = (nI dd) + Int32.ofInt (1) := ⟨_, rfl⟩
                                        refine lv_iinc (v := v64) (lv' := [(8, .int v64), (6, .int (nI dd)), (5, .int (nI qq)), (4, .int (nI (((pcT (prM (r 4) (r 6) t) (KM (r 4) (r 5) (r 6) (r 7) (r 8) (r 9) (r 10) t) i dd) + (pcT (prM (r 4) (r 6) t) (KM (r 4) (r 5) (r 6) (r 7) (r 8) (r 9) (r 10) t) qq j)) + (pcT (prM (r 4) (r 6) t) (KM (r 4) (r 5) (r 6) (r 7) (r 8) (r 9) (r 10) t) qq dd)))), (12, .int (nI (((pcT (prM (r 4) (r 6) t) (KM (r 4) (r 5) (r 6) (r 7) (r 8) (r 9) (r 10) t) i dd) + (pcT (prM (r 4) (r 6) t) (KM (r 4) (r 5) (r 6) (r 7) (r 8) (r 9) (r 10) t) qq j)) + (pcT (prM (r 4) (r 6) t) (KM (r 4) (r 5) (r 6) (r 7) (r 8) (r 9) (r 10) t) qq dd)))), (7, .int (nI qq)), (0, .ref y), (1, .int (nI t)), (2, .int (nI i)), (3, .int (nI j))]) hx hb dX7_guard_269 hl (k := 4) rfl ev64.symm (by decide) rfl (fun ls hl => ?_)
                                        obtain rfl : v64 = nI (dd + 1) := nI_plus (i := dd) (j := 1) ev64 rfl (by decide)
                                        refine lv_goto (tgt := 61) hx hb dX7_guard_272 (by decide) ?_
                                        exact ih61k32 (dd + 1) dd qq (nI (((pcT (prM (r 4) (r 6) t) (KM (r 4) (r 5) (r 6) (r 7) (r 8) (r 9) (r 10) t) i dd) + (pcT (prM (r 4) (r 6) t) (KM (r 4) (r 5) (r 6) (r 7) (r 8) (r 9) (r 10) t) qq j)) + (pcT (prM (r 4) (r 6) t) (KM (r 4) (r 5) (r 6) (r 7) (r 8) (r 9) (r 10) t) qq dd))) (by omega) (by omega) (by omega) (by omega) (Or.inr ⟨congrArg nI (by unfold pc3; omega), by unfold pc3; omega⟩) (BST_take hbs hcl hcd (fun h9 => by have z9 := hbv.resolve_left h9; have h7 := c63; rw [z9.1] at h7; have h6 := (nI_ltI (by omega) (by omega)).mp h7; unfold pc3 at h6 ⊢; omega) (nI_nm1 (by omega))) _ _ _ hP hS (lv_sub hl [0, 5, 1, 2, 3, 6, 7, 8, 9] rfl)
                                      · refine lv_goto (tgt := 269) hx hb dX7_guard_254 (by decide) ?_
                                        obtain ⟨v65, ev65⟩ : ∃ y9 : Int32, y9 = (nI dd) + Int32.ofInt (1) := ⟨_, rfl⟩
                                        refine lv_iinc (v := v65) (lv' := [(8, .int v65), (12, .int (nI (((pcT (prM (r 4) (r 6) t) (KM (r 4) (r 5) (r 6) (r 7) (r 8) (r 9) (r 10) t) i dd) + (pcT (prM (r 4) (r 6) t) (KM (r 4) (r 5) (r 6) (r 7) (r 8) (r 9) (r 10) t) qq j)) + (pcT (prM (r 4) (r 6) t) (KM (r 4) (r 5) (r 6) (r 7) (r 8) (r 9) (r 10) t) qq dd)))), (7, .int (nI qq)), (6, .int (nI bd)), (5, .int (nI bq)), (4, .int z35), (0, .ref y), (1, .int (nI t)), (2, .int (nI i)), (3, .int (nI j))]) hx hb dX7_guard_269 hl (k := 1) rfl ev65.symm (by decide) rfl (fun ls hl => ?_)
                                        obtain rfl : v65 = nI (dd + 1) := nI_plus (i := dd) (j := 1) ev65 rfl (by decide)
                                        refine lv_goto (tgt := 61) hx hb dX7_guard_272 (by decide) ?_
                                        exact ih61k32 (dd + 1) bd bq z35 (by omega) (by omega) (by omega) (by omega) (hbv) (BST_keep hbs hcl (by omega) (fun z9 => by have h8 := c61; rw [z9] at h8; exact h8 (by decide)) (by have z9 := hbv.resolve_left (fun z9 => by have h8 := c61; rw [z9] at h8; exact h8 (by decide)); have h7 := c63; rw [z9.1] at h7; have h6 := Nat.not_lt.mp (fun h5 => h7 ((nI_ltI (by omega) (by omega)).mpr h5)); unfold pc3 at h6 ⊢; omega)) _ _ _ hP hS (lv_sub hl [0, 2, 3, 4, 5, 6, 7, 8, 9] rfl)
                                  refine lv_if_eq (tgt := 232) hx hb dX7_guard_225 (by decide) (fun c66 => ?_) (fun c66 => ?_)
                                  · have b225 := bF hr58 c66
                                    refine lv_aload_n hx hb dX7_guard_232 rfl (lv_at hl 6 rfl) ?_
                                    refine lv_iload_n hx hb dX7_guard_233 rfl (lv_at hl 7 rfl) ?_
                                    refine lv_iload hx hb dX7_guard_234 (lv_at hl 0 rfl) ?_
                                    refine rdV (rest := [.int (nI ((pcT (prM (r 4) (r 6) t) (KM (r 4) (r 5) (r 6) (r 7) (r 8) (r 9) (r 10) t) i dd) + (pcT (prM (r 4) (r 6) t) (KM (r 4) (r 5) (r 6) (r 7) (r 8) (r 9) (r 10) t) qq j)))]) (q0 := 0) ⟨hx, hb, hml, hown, hts⟩ (n_costOf l G y b f r t (144 * t + 12 * qq + dd)  (by omega) (by omega)) mi_yX7_costOf mv_yX7_costOf ml_X7_242 ⟨rfl, rfl, Nat.le_of_ble_eq_true rfl, Nat.le_of_ble_eq_true rfl⟩ hK (hP) rfl rfl rfl hl.1 rfl (Nat.le_of_ble_eq_true rfl) dX7_guard_236 ⟨Nat.zero_le _, Nat.zero_le _⟩ hS hA hP (fun r67 H locs hr67 hP hS => ?_)
                                    obtain rfl := hr67
                                    exact j239_59 (coR ((r 4) (6 * t + 5)) ((r 6) (144 * t + 12 * qq + dd))) ((by unfold pcT; rw [show (KM (r 4) (r 5) (r 6) (r 7) (r 8) (r 9) (r 10) t) qq dd = false from pB_f b225, if_neg (by decide)]; exact co_n hm10 em10)) _ _ _ hP hS (lv_sub hl [1, 2, 3, 4, 5, 6, 7, 8, 9] rfl)
                                  · have b225 := bT hr58 c66
                                    refine lv_iconst (v := 0) hx hb dX7_guard_228 (by decide) ?_
                                    refine lv_goto (tgt := 239) hx hb dX7_guard_229 (by decide) ?_
                                    exact j239_59 0 ((by unfold pcT; rw [show (KM (r 4) (r 5) (r 6) (r 7) (r 8) (r 9) (r 10) t) qq dd = true from pB_t b225, if_pos rfl]; rfl)) _ _ _ hP hS (lv_sub hl [1, 2, 3, 4, 5, 6, 7, 8, 9] rfl)
                                refine lv_if_eq (tgt := 210) hx hb dX7_guard_203 (by decide) (fun c68 => ?_) (fun c68 => ?_)
                                · have b203 := bF hr55 c68
                                  refine lv_aload_n hx hb dX7_guard_210 rfl (lv_at hl 7 rfl) ?_
                                  refine lv_iload_n hx hb dX7_guard_211 rfl (lv_at hl 8 rfl) ?_
                                  refine lv_iload hx hb dX7_guard_212 (lv_at hl 1 rfl) ?_
                                  refine rdV (rest := [.int (nI (pcT (prM (r 4) (r 6) t) (KM (r 4) (r 5) (r 6) (r 7) (r 8) (r 9) (r 10) t) i dd))]) (q0 := 0) ⟨hx, hb, hml, hown, hts⟩ (n_costOf l G y b f r t (144 * t + 12 * qq + j)  (by omega) (by omega)) mi_yX7_costOf mv_yX7_costOf ml_X7_242 ⟨rfl, rfl, Nat.le_of_ble_eq_true rfl, Nat.le_of_ble_eq_true rfl⟩ hK (hP) rfl rfl rfl hl.1 rfl (Nat.le_of_ble_eq_true rfl) dX7_guard_214 ⟨Nat.zero_le _, Nat.zero_le _⟩ hS hA hP (fun r69 H locs hr69 hP hS => ?_)
                                  obtain rfl := hr69
                                  exact j217_56 (coR ((r 4) (6 * t + 5)) ((r 6) (144 * t + 12 * qq + j))) ((by unfold pcT; rw [show (KM (r 4) (r 5) (r 6) (r 7) (r 8) (r 9) (r 10) t) qq j = false from pB_f b203, if_neg (by decide)]; exact co_n hm7 em7)) _ _ _ hP hS (lv_sub hl [0, 2, 3, 4, 5, 6, 7, 8, 9, 10] rfl)
                                · have b203 := bT hr55 c68
                                  refine lv_iconst (v := 0) hx hb dX7_guard_206 (by decide) ?_
                                  refine lv_goto (tgt := 217) hx hb dX7_guard_207 (by decide) ?_
                                  exact j217_56 0 ((by unfold pcT; rw [show (KM (r 4) (r 5) (r 6) (r 7) (r 8) (r 9) (r 10) t) qq j = true from pB_t b203, if_pos rfl]; rfl)) _ _ _ hP hS (lv_sub hl [0, 2, 3, 4, 5, 6, 7, 8, 9, 10] rfl)
                              refine lv_if_eq (tgt := 189) hx hb dX7_guard_182 (by decide) (fun c70 => ?_) (fun c70 => ?_)
                              · have b182 := bF hr53 c70
                                refine lv_aload_n hx hb dX7_guard_189 rfl (lv_at hl 8 rfl) ?_
                                refine lv_iload_n hx hb dX7_guard_190 rfl (lv_at hl 9 rfl) ?_
                                refine lv_iload hx hb dX7_guard_191 (lv_at hl 2 rfl) ?_
                                refine rdV (rest := []) (q0 := 0) ⟨hx, hb, hml, hown, hts⟩ (n_costOf l G y b f r t (144 * t + 12 * i + dd)  (by omega) (by omega)) mi_yX7_costOf mv_yX7_costOf ml_X7_242 ⟨rfl, rfl, Nat.le_of_ble_eq_true rfl, Nat.le_of_ble_eq_true rfl⟩ hK (hP) rfl rfl rfl hl.1 rfl (Nat.le_of_ble_eq_true rfl) dX7_guard_193 ⟨Nat.zero_le _, Nat.zero_le _⟩ hS hA hP (fun r71 H locs hr71 hP hS => ?_)
                                obtain rfl := hr71
                                exact j196_54 (coR ((r 4) (6 * t + 5)) ((r 6) (144 * t + 12 * i + dd))) ((by unfold pcT; rw [show (KM (r 4) (r 5) (r 6) (r 7) (r 8) (r 9) (r 10) t) i dd = false from pB_f b182, if_neg (by decide)]; exact co_n hm9 em9)) _ _ _ hP hS (lv_sub hl [0, 1, 3, 4, 5, 6, 7, 8, 9, 10, 11] rfl)
                              · have b182 := bT hr53 c70
                                refine lv_iconst (v := 0) hx hb dX7_guard_185 (by decide) ?_
                                refine lv_goto (tgt := 196) hx hb dX7_guard_186 (by decide) ?_
                                exact j196_54 0 ((by unfold pcT; rw [show (KM (r 4) (r 5) (r 6) (r 7) (r 8) (r 9) (r 10) t) i dd = true from pB_t b182, if_pos rfl]; rfl)) _ _ _ hP hS (lv_sub hl [0, 1, 3, 4, 5, 6, 7, 8, 9, 10, 11] rfl)
                            refine lv_if_eq (tgt := 175) hx hb dX7_guard_149 (by decide) (fun c72 => ?_) (fun c72 => ?_)
                            · have b149 := bF hr52 c72
                              exact j175_52 (fun z9 => b149 (pB_i z9.1)) _ _ _ hP hS (lv_sub hl [0, 1, 2, 3, 4, 5, 6, 7, 8, 9, 10, 11] rfl)
                            · have b149 := bT hr52 c72
                              refine lv_aload_n hx hb dX7_guard_152 rfl (lv_at hl 8 rfl) ?_
                              refine lv_iload_n hx hb dX7_guard_153 rfl (lv_at hl 9 rfl) ?_
                              refine lv_iload hx hb dX7_guard_154 (lv_at hl 1 rfl) ?_
                              refine rdV (rest := []) (q0 := 0) ⟨hx, hb, hml, hown, hts⟩ (n_isKept l G y b f r t (144 * t + 12 * qq + j)  (by omega) (by omega) hG) mi_yX7_isKept mv_yX7_isKept ml_X7_181 ⟨rfl, rfl, Nat.le_of_ble_eq_true rfl, Nat.le_of_ble_eq_true rfl⟩ hK (hP) rfl rfl rfl hl.1 rfl (Nat.le_of_ble_eq_true rfl) dX7_guard_156 ⟨Nat.zero_le _, Nat.zero_le _⟩ hS hA hP (fun r73 H locs hr73 hP hS => ?_)
                              have hr73 : ((r73 = 1 ∧ (kpM (r 4) (r 5) (r 6) (r 7) (r 8) (r 9) (r 10) t (144 * t + 12 * qq + j))) ∨ (r73 = 0 ∧ ¬ (kpM (r 4) (r 5) (r 6) (r 7) (r 8) (r 9) (r 10) t (144 * t + 12 * qq + j)))) := hr73
                              refine lv_if_eq (tgt := 175) hx hb dX7_guard_159 (by decide) (fun c74 => ?_) (fun c74 => ?_)
                              · have b159 := bF hr73 c74
                                exact j175_52 (fun z9 => b159 (pB_i z9.2.1)) _ _ _ hP hS (lv_sub hl [0, 1, 2, 3, 4, 5, 6, 7, 8, 9, 10, 11] rfl)
                              · have b159 := bT hr73 c74
                                refine lv_aload_n hx hb dX7_guard_162 rfl (lv_at hl 8 rfl) ?_
                                refine lv_iload_n hx hb dX7_guard_163 rfl (lv_at hl 9 rfl) ?_
                                refine lv_iload hx hb dX7_guard_164 (lv_at hl 0 rfl) ?_
                                refine rdV (rest := []) (q0 := 0) ⟨hx, hb, hml, hown, hts⟩ (n_isKept l G y b f r t (144 * t + 12 * qq + dd)  (by omega) (by omega) hG) mi_yX7_isKept mv_yX7_isKept ml_X7_181 ⟨rfl, rfl, Nat.le_of_ble_eq_true rfl, Nat.le_of_ble_eq_true rfl⟩ hK (hP) rfl rfl rfl hl.1 rfl (Nat.le_of_ble_eq_true rfl) dX7_guard_166 ⟨Nat.zero_le _, Nat.zero_le _⟩ hS hA hP (fun r75 H locs hr75 hP hS => ?_)
                                have hr75 : ((r75 = 1 ∧ (kpM (r 4) (r 5) (r 6) (r 7) (r 8) (r 9) (r 10) t (144 * t + 12 * qq + dd))) ∨ (r75 = 0 ∧ ¬ (kpM (r 4) (r 5) (r 6) (r 7) (r 8) (r 9) (r 10) t (144 * t + 12 * qq + dd)))) := hr75
                                refine lv_if_eq (tgt := 175) hx hb dX7_guard_169 (by decide) (fun c76 => ?_) (fun c76 => ?_)
                                · have b169 := bF hr75 c76
                                  exact j175_52 (fun z9 => b169 (pB_i z9.2.2)) _ _ _ hP hS (lv_sub hl [0, 1, 2, 3, 4, 5, 6, 7, 8, 9, 10, 11] rfl)
                                · have b169 := bT hr75 c76
                                  refine lv_goto (tgt := 269) hx hb dX7_guard_172 (by decide) ?_
                                  obtain ⟨v77, ev77⟩ : ∃ y9 : Int32, y9 = (nI dd) + Int32.ofInt (1) := ⟨_, rfl⟩
                                  refine lv_iinc (v := v77) (lv' := [(8, .int v77), (11, .int (nI (144 * t + 12 * qq + dd))), (10, .int (nI (144 * t + 12 * qq + j))), (9, .int (nI (144 * t + 12 * i + dd))), (7, .int (nI qq)), (6, .int (nI bd)), (5, .int (nI bq)), (4, .int z35), (0, .ref y), (1, .int (nI t)), (2, .int (nI i)), (3, .int (nI j))]) hx hb dX7_guard_269 hl (k := 3) rfl ev77.symm (by decide) rfl (fun ls hl => ?_)
                                  obtain rfl : v77 = nI (dd + 1) := nI_plus (i := dd) (j := 1) ev77 rfl (by decide)
                                  refine lv_goto (tgt := 61) hx hb dX7_guard_272 (by decide) ?_
                                  exact ih61k32 (dd + 1) bd bq z35 (by omega) (by omega) (by omega) (by omega) (hbv) (BST_n hbs hcl (by omega) (fun h9 => h9.2.2.2.2.2.2.2.2 ⟨pB_t b149, pB_t b159, pB_t b169⟩)) _ _ _ hP hS (lv_sub hl [0, 4, 5, 6, 7, 8, 9, 10, 11] rfl)
                    · have b75 := qeq_t (a := dd) (b := j) (by omega) (by omega) c39
                      refine lv_goto (tgt := 269) hx hb dX7_guard_78 (by decide) ?_
                      obtain ⟨v78, ev78⟩ : ∃ y9 : Int32, y9 = (nI dd) + Int32.ofInt (1) := ⟨_, rfl⟩
                      refine lv_iinc (v := v78) (lv' := [(8, .int v78), (7, .int (nI qq)), (6, .int (nI bd)), (5, .int (nI bq)), (4, .int z35), (0, .ref y), (1, .int (nI t)), (2, .int (nI i)), (3, .int (nI j))]) hx hb dX7_guard_269 hl (k := 0) rfl ev78.symm (by decide) rfl (fun ls hl => ?_)
                      obtain rfl : v78 = nI (dd + 1) := nI_plus (i := dd) (j := 1) ev78 rfl (by decide)
                      refine lv_goto (tgt := 61) hx hb dX7_guard_272 (by decide) ?_
                      exact ih61k32 (dd + 1) bd bq z35 (by omega) (by omega) (by omega) (by omega) (hbv) (BST_n hbs hcl (by omega) (fun h9 => h9.2.2.2.1 b75)) _ _ _ hP hS (lv_sub hl [0, 1, 2, 3, 4, 5, 6, 7, 8] rfl)
              exact loop61 (cl + 1) 0 bd bq z4 (by omega) (by omega) (by omega) (by omega) (hbv) (by rw [Nat.add_zero]; exact hbs) _ _ _ hP hS (lv_sub hl [0, 1, 2, 3, 4, 5, 6, 7, 8] rfl)
            · refine lv_goto (tgt := 275) hx hb dX7_guard_55 (by decide) ?_
              obtain ⟨v79, ev79⟩ : ∃ y9 : Int32, y9 = (nI qq) + Int32.ofInt (1) := ⟨_, rfl⟩
              refine lv_iinc (v := v79) (lv' := [(7, .int v79), (6, .int (nI bd)), (5, .int (nI bq)), (4, .int z4), (0, .ref y), (1, .int (nI t)), (2, .int (nI i)), (3, .int (nI j))]) hx hb dX7_guard_275 hl (k := 0) rfl ev79.symm (by decide) rfl (fun ls hl => ?_)
              obtain rfl : v79 = nI (qq + 1) := nI_plus (i := qq) (j := 1) ev79 rfl (by decide)
              refine lv_goto (tgt := 12) hx hb dX7_guard_278 (by decide) ?_
              exact ih12k1 (qq + 1) bd bq z4 (by omega) (by omega) (by omega) (by omega) (hbv) (BST_q hbs hcl (fun d9 h9 => c31 h9.2.2.2.2.1.2)) _ _ _ hP hS (lv_sub hl [0, 1, 2, 3, 4, 5, 6, 7] rfl)
  exact loop12 (rw + 1) 0 0 0 (-1) (by omega) (by omega) (by omega) (by omega) (Or.inl rfl) (Or.inl ⟨fun h9 => h9 rfl, fun _ _ _ h9 => absurd h9 (by omega)⟩) _ _ _ hP hS (lv_sub hl [0, 1, 2, 3, 4, 5, 6, 7] rfl)
/-- what plan does -/
def plM (tb q : Int32) (r1 r2 r3 r4 r5 r6 r7 r8 r9 r10 r11 r12 r13 r14 q10 : Nat → Int32) (st : Int32) : Prop := (¬ opn r1 tb ∧ q = -1 ∧ q10 = r10 ∧ st = 1) ∨ ∃ t rw cl bk dn uq nn Pl cc, t < 6 ∧ tb = nI t ∧ ¬ r1 t = 0 ∧ rw ≤ 12 ∧ cl ≤ 12 ∧ bk ≤ 12 ∧ r2 t = nI rw ∧ r3 t = nI cl ∧ r12 t = nI bk ∧ r4 (6 * t + 3) = nI dn ∧ r4 (6 * t + 4) = nI uq ∧ dn ≤ 1000000 ∧ uq ≤ 1000000 ∧ PLS rw cl (UGm rw cl t bk r3 r4 r5 r6 r7 r8 r9 r11 r13 r14 dn uq) (mtM r3 r5 r11 r13 r14 t bk) (zzM r5 t) (prM r4 r6 t) (KM r4 r5 r6 r7 r8 r9 r10 t) nn Pl cc ∧ ((PDN rw cl (UGm rw cl t bk r3 r4 r5 r6 r7 r8 r9 r11 r13 r14 dn uq) (KM r4 r5 r6 r7 r8 r9 r10 t) Pl ∧ q = nI cc ∧ tlM t Pl r10 q10 ∧ st = 0) ∨ (PFL rw cl (UGm rw cl t bk r3 r4 r5 r6 r7 r8 r9 r11 r13 r14 dn uq) (mtM r3 r5 r11 r13 r14 t bk) (zzM r5 t) (KM r4 r5 r6 r7 r8 r9 r10 t) Pl ∧ q = -1 ∧ (∀ p, p < 864 → q10 p = r10 p) ∧ st = 10))
theorem nw3_p {rw cl : Nat} {mt zz : Nat → Nat → Prop} {K : Nat → Nat → Bool} {i j q d : Nat} (h : CAND rw cl mt zz K i j q d) : 1 ≤ nw3 K i j q d := by
  unfold nw3 nw1
  by_cases z1 : K i d = true
  · by_cases z2 : K q j = true
    · by_cases z3 : K q d = true
      · exact absurd ⟨z1, z2, z3⟩ h.2.2.2.2.2.2.2.2
      · rw [if_neg z3]; omega
    · rw [if_neg z2]; omega
  · rw [if_neg z1]; omega
theorem se_K {r4 r5 r6 r7 r8 r9 r10 : Nat → Int32} {t x y : Nat} (h : seM r4 r5 r6 r7 r8 r9 t x y) : KM r4 r5 r6 r7 r8 r9 r10 t x y = true := pB_t ⟨fun z => by
  unfold seM whR at h
  rw [← whM_0 (Or.inl z)] at h
  exact absurd h (by decide), Or.inr h⟩
theorem wa_s {w a : Nat → Int32} {t n : Nat} {v : Int32} (h : ∀ k, k < n → w k = a (144 * t + k)) (hv : v = a (144 * t + n)) : ∀ k, k < n + 1 → upd w n v k = a (144 * t + k) := fun k hk => by
  by_cases e : k = n
  · subst e; rw [pk_us]; exact hv
  · rw [pk_un e]; exact h k (by omega)
theorem re_s {b a : Nat → Int32} {t n : Nat} {v : Int32} (hn : n < 144) (h : ∀ p, (p < 144 * t + n ∨ 144 * t + 144 ≤ p) → b p = a p) (hv : v = a (144 * t + n)) : ∀ p, (p < 144 * t + (n + 1) ∨ 144 * t + 144 ≤ p) → upd b (144 * t + n) v p = a p := fun p hp => by
  by_cases e : p = 144 * t + n
  · subst e; rw [pk_us]; exact hv
  · rw [pk_un e]; exact h p (by omega)
theorem nw3_le {K : Nat → Nat → Bool} {i j q d : Nat} : nw3 K i j q d ≤ 3 := by
  unfold nw3 nw1; split <;> split <;> split <;> omega
theorem ad_z {Pl : Nat → Nat → Bool} {r5 : Nat → Int32} {t a b : Nat} (h : ∀ x y, x < 12 → y < 12 → Pl x y = true → ¬ r5 (144 * t + 12 * x + y) = 4) (hz : ¬ r5 (144 * t + 12 * a + b) = 4) : ∀ x y, x < 12 → y < 12 → ad1 Pl a b x y = true → ¬ r5 (144 * t + 12 * x + y) = 4 := fun x y hx hy e => by
  unfold ad1 at e
  rw [Bool.or_eq_true, Bool.and_eq_true, decide_eq_true_eq, decide_eq_true_eq] at e
  rcases e with e | e
  · exact h x y hx hy e
  · rw [e.1, e.2]; exact hz
section CR
variable {rw cl : Nat} {mt zz : Nat → Nat → Prop} {pr : Nat → Nat → Nat} {K K2 : Nat → Nat → Bool} {i j q d : Nat}
theorem CAND_r (hK : ∀ x y, x < rw → y < cl → K2 x y = K x y) (hi : i < rw) (hj : j < cl) (h : CAND rw cl mt zz K i j q d) : CAND rw cl mt zz K2 i j q d := by
  obtain ⟨a1, a2, a3, a4, a5, a6, a7, a8, a9⟩ := h
  exact ⟨a1, a2, a3, a4, a5, a6, a7, a8, by rw [hK i d hi a2, hK q j a1 hj, hK q d a1 a2]; exact a9⟩
theorem pc3_r (hK : ∀ x y, x < rw → y < cl → K2 x y = K x y) (hi : i < rw) (hj : j < cl) (hq : q < rw) (hd : d < cl) : pc3 pr K2 i j q d = pc3 pr K i j q d := by
  unfold pc3 pcT; rw [hK i d hi hd, hK q j hq hj, hK q d hq hd]
theorem nw3_r (hK : ∀ x y, x < rw → y < cl → K2 x y = K x y) (hi : i < rw) (hj : j < cl) (hq : q < rw) (hd : d < cl) : nw3 K2 i j q d = nw3 K i j q d := by
  unfold nw3 nw1; rw [hK i d hi hd, hK q j hq hj, hK q d hq hd]
theorem NON_r {n : Nat} (hK : ∀ x y, x < rw → y < cl → K2 x y = K x y) (hi : i < rw) (hj : j < cl) (h : NON rw cl mt zz K i j n) : NON rw cl mt zz K2 i j n := fun q d hc => h q d (CAND_r (fun x y hx hy => (hK x y hx hy).symm) hi hj hc)
theorem BSN_r {n : Nat} (hK : ∀ x y, x < rw → y < cl → K x y = K2 x y) (hi : i < rw) (hj : j < cl) (h : BSN rw cl mt zz pr K i j n q d) : BSN rw cl mt zz pr K2 i j n q d := by
  have hK2 : ∀ x y, x < rw → y < cl → K2 x y = K x y := fun x y hx hy => (hK x y hx hy).symm
  obtain ⟨h1, h2, h3⟩ := h
  refine ⟨CAND_r hK2 hi hj h1, h2, fun q2 d2 hc z => ?_⟩
  rw [pc3_r hK2 hi hj h1.1 h1.2.1, pc3_r hK2 hi hj hc.1 hc.2.1]
  exact h3 q2 d2 (CAND_r hK hi hj hc) z
end CR
set_option maxHeartbeats 4000000 in
set_option maxRecDepth 100000 in
theorem n_plan (l : Launch) (G : GG) (y : Nat) (b : Nat → Nat) (f : Nat → Int32) (r : Nat → Nat → Int32) (tb : Int32) (hM2 : nOK 6 12 (r 2)) (hM3 : nOK 6 12 (r 3)) (hM12 : nOK 6 12 (r 12)) (hG : nOK 864 6 (r 7)) (hNA : ∀ t rw cl, t < 6 → rw ≤ 12 → cl ≤ 12 → ¬ (r 1) t = 0 → (r 2) t = nI rw → (r 3) t = nI cl → NRM rw cl t (r 3) (r 5) (r 6) (r 11)) (hRA : ∀ t, t < 6 → ¬ (r 1) t = 0 → ∃ dn uq, dn ≤ 1000000 ∧ uq ≤ 1000000 ∧ (r 4) (6 * t + 3) = nI dn ∧ (r 4) (6 * t + 4) = nI uq) (hB0 : ∀ p, p < 864 → (r 10) p = 0 ∨ (r 10) p = 1) : WrI l yX7_plan cX7_plan 6 (some .int) ({ frames := 7, cells := 0, slots := 0, locals := 179 }) G (mM G y b f r) [.ref y, .int tb] (fun q w => ∃ (n_f_0 : Int32) (n_f_20 : Int32) (n_f_21 : Int32) (n_r_10 : Nat → Int32) (n_r_15 : Nat → Int32) (n_r_16 : Nat → Int32) (n_r_17 : Nat → Int32) (n_r_18 : Nat → Int32) (n_r_19 : Nat → Int32) (n_r_22 : Nat → Int32) (n_r_23 : Nat → Int32) (n_r_29 : Nat → Int32), w = mM G y b (upd (upd (upd f 0 n_f_0) 20 n_f_20) 21 n_f_21) (up2 (up2 (up2 (up2 (up2 (up2 (up2 (up2 (up2 r 10 n_r_10) 15 n_r_15) 16 n_r_16) 17 n_r_17) 18 n_r_18) 19 n_r_19) 22 n_r_22) 23 n_r_23) 29 n_r_29) ∧ plM tb q (r 1) (r 2) (r 3) (r 4) (r 5) (r 6) (r 7) (r 8) (r 9) (r 10) (r 11) (r 12) (r 13) (r 14) n_r_10 n_f_0) := by
  refine wr_entryI (by decide +kernel) (Nat.le_of_ble_eq_true rfl) ?_
  intro p e s m below meth c A C0 hP hK hD hA ls hl
  have hS : va_S A s.heap s.heap [] := va_S.rf
  obtain ⟨hx, hb, hml, hown, hts, hr, hlocks, hin⟩ := C0
  have hown : s.vm.findClass RX7 = some m.cls := hown
  have hDD : ∀ f' r', va_D A (mM G y b f' r') := fun f' r' => D_same hD rfl
  have hl : lv_has ls 6 [(0, .ref y), (1, .int tb)] := hl
  have hB9 := hB0
  refine lv_aload_n hx hb dX7_plan_0 rfl (lv_at hl 0 rfl) ?_
  refine lv_aload_n hx hb dX7_plan_1 rfl (lv_at hl 0 rfl) ?_
  refine lv_iload_n hx hb dX7_plan_2 rfl (lv_at hl 1 rfl) ?_
  refine rdV (rest := [.ref y]) (q0 := 0) ⟨hx, hb, hml, hown, hts⟩ (m_X7_isTable l G y b f r tb  ) mi_yX7_isTable mv_yX7_isTable ml_X7_120 ⟨rfl, rfl, Nat.le_of_ble_eq_true rfl, Nat.le_of_ble_eq_true rfl⟩ hK (hP) rfl rfl rfl hl.1 rfl (Nat.le_of_ble_eq_true rfl) dX7_plan_3 ⟨Nat.zero_le _, Nat.zero_le _⟩ hS hA hP (fun r1 H locs hr1 hP hS => ?_)
  have hr1 : ((r1 = 1 ∧ (opn (r 1) tb)) ∨ (r1 = 0 ∧ ¬ (opn (r 1) tb))) := hr1
  refine lv_if_eq (tgt := 13) hx hb dX7_plan_6 (by decide) (fun c2 => ?_) (fun c2 => ?_)
  · have b6 := bF hr1 c2
    refine lv_iconst (v := 1) hx hb dX7_plan_13 (by decide) ?_
    refine va_put (D := G.1) (ci := 7) (v := .int 1) (C := RX7) (T := TX7) (N := 43) hx hb hts inX7 tyX7 tyX7_ok nmX7 hown hK.1 hP (hDD _ _) hS 0 rfl rfl 0 (by decide) (hts _ mf_X7_116) (fun _ h9 => h9) rfl (tyX7_ok 0 (by decide)) (rfl) (rfl) (Nat.le_of_ble_eq_true rfl) dX7_plan_14 (fun H locs hP _ hS => ?_)
    have hP : PP G (mM G y b (upd f 0 1) r) H := hP
    refine lv_aload_n hx hb dX7_plan_17 rfl (lv_at hl 0 rfl) ?_
    refine va_get (D := G.1) (ci := 7) (v := .int 1) (C := RX7) (T := TX7) (N := 43) hx hb hts inX7 hown hK.1 hP 0 rfl rfl 0 (by decide) (hts _ mf_X7_116) (fun _ h9 => h9) rfl dX7_plan_18 ?_
    refine lv_if_le (tgt := 26) hx hb dX7_plan_21 (by decide) (fun c3 => absurd c3 (by decide)) (fun c3 => ?_)
    refine lv_iconst (v := -1) hx hb dX7_plan_24 (by decide) ?_
    exact wr_iret hx hb hr hlocks hS hP ⟨1, (f 20), (f 21), (r 10), (r 15), (r 16), (r 17), (r 18), (r 19), (r 22), (r 23), (r 29), rfl, (Or.inl ⟨b6, rfl, rfl, rfl⟩)⟩ dX7_plan_25
  · have b6 := bT hr1 c2
    obtain ⟨t, ht, rfl, hop⟩ := b6
    obtain ⟨rw, hrw, h2⟩ := hM2 t ht
    obtain ⟨cl, hcl, h3⟩ := hM3 t ht
    obtain ⟨bk, hbk, h12⟩ := hM12 t ht
    have hNR := hNA t rw cl ht hrw hcl hop h2 h3
    obtain ⟨dn, uq, hdn, huq, hr3, hr4⟩ := hRA t ht hop
    refine lv_iconst (v := 0) hx hb dX7_plan_9 (by decide) ?_
    refine lv_goto (tgt := 14) hx hb dX7_plan_10 (by decide) ?_
    refine va_put (D := G.1) (ci := 7) (v := .int 0) (C := RX7) (T := TX7) (N := 43) hx hb hts inX7 tyX7 tyX7_ok nmX7 hown hK.1 hP (hDD _ _) hS 0 rfl rfl 0 (by decide) (hts _ mf_X7_116) (fun _ h9 => h9) rfl (tyX7_ok 0 (by decide)) (rfl) (rfl) (Nat.le_of_ble_eq_true rfl) dX7_plan_14 (fun H locs hP _ hS => ?_)
    have hP : PP G (mM G y b (upd f 0 0) r) H := hP
    refine lv_aload_n hx hb dX7_plan_17 rfl (lv_at hl 0 rfl) ?_
    refine va_get (D := G.1) (ci := 7) (v := .int 0) (C := RX7) (T := TX7) (N := 43) hx hb hts inX7 hown hK.1 hP 0 rfl rfl 0 (by decide) (hts _ mf_X7_116) (fun _ h9 => h9) rfl dX7_plan_18 ?_
    refine lv_if_le (tgt := 26) hx hb dX7_plan_21 (by decide) (fun c4 => ?_) (fun c4 => absurd (by decide) c4)
    refine lv_iconst (v := 0) hx hb dX7_plan_26 (by decide) ?_
    refine lv_istore_n (lv' := [(2, .int 0), (0, .ref y), (1, .int (nI t))]) hx hb dX7_plan_27 rfl hl (by decide) rfl (fun ls hl => ?_)
    have loop28 : ∀ (k5 n1 : Nat) (x6 : Nat → Int32), n1 ≤ 144 → 144 < n1 + k5 → (∀ k, k < n1 → x6 k = r 10 (144 * t + k)) → ∀ (H : Heap) (locs : List Loc) (ls : Array Slot), PP G (mM G y b (upd f 0 0) (up2 r 29 x6)) H → va_S A s.heap H locs → lv_has ls 6 [(2, .int (nI n1)), (0, .ref y), (1, .int (nI t))] → W p l e ({ frames := 7, cells := 0, slots := 0, locals := 179 }) s m ([.ref y, .int (nI t)] : List Value).toArray below meth c H locs 0 0 (MQ below (QwI G (fun q w => ∃ (n_f_0 : Int32) (n_f_20 : Int32) (n_f_21 : Int32) (n_r_10 : Nat → Int32) (n_r_15 : Nat → Int32) (n_r_16 : Nat → Int32) (n_r_17 : Nat → Int32) (n_r_18 : Nat → Int32) (n_r_19 : Nat → Int32) (n_r_22 : Nat → Int32) (n_r_23 : Nat → Int32) (n_r_29 : Nat → Int32), w = mM G y b (upd (upd (upd f 0 n_f_0) 20 n_f_20) 21 n_f_21) (up2 (up2 (up2 (up2 (up2 (up2 (up2 (up2 (up2 r 10 n_r_10) 15 n_r_15) 16 n_r_16) 17 n_r_17) 18 n_r_18) 19 n_r_19) 22 n_r_22) 23 n_r_23) 29 n_r_29) ∧ plM (nI t) q (r 1) (r 2) (r 3) (r 4) (r 5) (r 6) (r 7) (r 8) (r 9) (r 10) (r 11) (r 12) (r 13) (r 14) n_r_10 n_f_0) A) ([.ref y, .int (nI t)] : List Value).toArray s 0 0 A) (F0 m 28 ls []) := by
      intro k5
      induction k5 with
      | zero => intro n1 x6 h1 h2; exact absurd h1 (by omega)
      | succ k5 ih28k5 =>
        intro n1 x6 hi_n1 hk_n1 hwas H locs ls hP hS hl
        refine lv_iload_n hx hb dX7_plan_28 rfl (lv_at hl 0 rfl) ?_
        refine lv_sipush (v := 144) hx hb dX7_plan_29 (by decide) ?_
        refine lv_icmp_ge (tgt := 59) hx hb dX7_plan_32 (by decide) (fun c7 => ?_) (fun c7 => ?_)
        · have b32 := qge_t (a := n1) (b := 144) (by omega) (by omega) c7
          refine lv_iconst (v := 0) hx hb dX7_plan_59 (by decide) ?_
          refine lv_istore_n (lv' := [(2, .int 0), (0, .ref y), (1, .int (nI t))]) hx hb dX7_plan_60 rfl hl (by decide) rfl (fun ls hl => ?_)
          refine lv_aload_n hx hb dX7_plan_61 rfl (lv_at hl 1 rfl) ?_
          refine lv_iload_n hx hb dX7_plan_62 rfl (lv_at hl 2 rfl) ?_
          refine lv_iconst (v := 0) hx hb dX7_plan_63 (by decide) ?_
          refine wrVIa (rest := []) (q0 := 0) ⟨hx, hb, hml, hown, hts⟩ (n_unsafeFrom l G y b (upd f 0 0) (up2 r 29 x6) t 0 rw cl bk dn uq (by omega) (by omega) (by omega) (by omega) h2 h3 h12 hG hNR (by omega) (by omega) hr3 hr4 (by omega)) mi_yX7_unsafeFrom mv_yX7_unsafeFrom ml_X7_230 ⟨rfl, rfl, Nat.le_of_ble_eq_true rfl, Nat.le_of_ble_eq_true rfl⟩ hK hP (hDD _ _) rfl rfl rfl hl.1 rfl (Nat.le_of_ble_eq_true rfl) dX7_plan_64 ⟨Nat.zero_le _, Nat.zero_le _⟩ hS hA (fun r8 w9 H locs hw9 hP hS => ?_)
          obtain ⟨x10, x11, x12, x13, x14, x15, x16, x17, x18, rfl, hw9r⟩ := hw9
          have hP : PP G (mM G y b (upd (upd (upd f 0 0) 20 x10) 21 x11) (up2 (up2 (up2 (up2 (up2 (up2 (up2 (up2 r 15 x12) 16 x13) 17 x14) 18 x15) 19 x16) 22 x17) 23 x18) 29 x6)) H := hP
          have hw9r : firstU rw cl (UNm rw cl t bk (r 3) (r 4) (r 5) (r 6) (r 7) (r 8) (r 9) (r 10) (r 11) (r 13) (r 14) dn uq) 0 r8 := hw9r
          refine lv_istore_n (lv' := [(3, .int r8), (2, .int 0), (0, .ref y), (1, .int (nI t))]) hx hb dX7_plan_67 rfl hl (by decide) rfl (fun ls hl => ?_)
          have loop68 : ∀ (k19 : Nat) (z21 : Int32) (cc : Nat) (nn : Nat) (Pl : Nat → Nat → Bool) (x23 : Int32) (x24 : Int32) (x25 : Int32) (x26 : Nat → Int32) (x27 : Nat → Int32) (x28 : Nat → Int32) (x29 : Nat → Int32) (x30 : Nat → Int32) (x31 : Nat → Int32) (x32 : Nat → Int32) (x33 : Nat → Int32), 144 - cc < k19 → (x23 = 0) → (firstU rw cl (UNm rw cl t bk (r 3) (r 4) (r 5) (r 6) (r 7) (r 8) (r 9) x26 (r 11) (r 13) (r 14) dn uq) 0 (z21 : Int32)) → (PLS rw cl (UGm rw cl t bk (r 3) (r 4) (r 5) (r 6) (r 7) (r 8) (r 9) (r 11) (r 13) (r 14) dn uq) (mtM (r 3) (r 5) (r 11) (r 13) (r 14) t bk) (zzM (r 5) t) (prM (r 4) (r 6) t) (KM (r 4) (r 5) (r 6) (r 7) (r 8) (r 9) (r 10) t) nn Pl cc) → (tlM t Pl (r 10) x26) → (∀ x y, x < 12 → y < 12 → Pl x y = true → ¬ r 5 (144 * t + 12 * x + y) = 4) → ∀ (H : Heap) (locs : List Loc) (ls : Array Slot), PP G (mM G y b (upd (upd (upd f 0 x23) 20 x24) 21 x25) (up2 (up2 (up2 (up2 (up2 (up2 (up2 (up2 (up2 r 10 x26) 15 x27) 16 x28) 17 x29) 18 x30) 19 x31) 22 x32) 23 x33) 29 x6)) H → va_S A s.heap H locs → lv_has ls 6 [(3, .int z21), (2, .int (nI cc)), (0, .ref y), (1, .int (nI t))] → W p l e ({ frames := 7, cells := 0, slots := 0, locals := 179 }) s m ([.ref y, .int (nI t)] : List Value).toArray below meth c H locs 0 0 (MQ below (QwI G (fun q w => ∃ (n_f_0 : Int32) (n_f_20 : Int32) (n_f_21 : Int32) (n_r_10 : Nat → Int32) (n_r_15 : Nat → Int32) (n_r_16 : Nat → Int32) (n_r_17 : Nat → Int32) (n_r_18 : Nat → Int32) (n_r_19 : Nat → Int32) (n_r_22 : Nat → Int32) (n_r_23 : Nat → Int32) (n_r_29 : Nat → Int32), w = mM G y b (upd (upd (upd f 0 n_f_0) 20 n_f_20) 21 n_f_21) (up2 (up2 (up2 (up2 (up2 (up2 (up2 (up2 (up2 r 10 n_r_10) 15 n_r_15) 16 n_r_16) 17 n_r_17) 18 n_r_18) 19 n_r_19) 22 n_r_22) 23 n_r_23) 29 n_r_29) ∧ plM (nI t) q (r 1) (r 2) (r 3) (r 4) (r 5) (r 6) (r 7) (r 8) (r 9) (r 10) (r 11) (r 12) (r 13) (r 14) n_r_10 n_f_0) A) ([.ref y, .int (nI t)] : List Value).toArray s 0 0 A) (F0 m 68 ls []) := by
            intro k19
            induction k19 with
            | zero => intro z21 cc nn Pl x23 x24 x25 x26 x27 x28 x29 x30 x31 x32 x33 h1; exact absurd h1 (Nat.not_lt_zero _)
            | succ k19 ih68k19 =>
              intro  z21 cc nn Pl x23 x24 x25 x26 x27 x28 x29 x30 x31 x32 x33 hm_k19 hs0 hk hPL htl hz H locs ls hP hS hl
              refine lv_iload_n hx hb dX7_plan_68 rfl (lv_at hl 0 rfl) ?_
              refine lv_iconst (v := -1) hx hb dX7_plan_69 (by decide) ?_
              refine lv_icmp_eq (tgt := 153) hx hb dX7_plan_70 (by decide) (fun c34 => ?_) (fun c34 => ?_)
              · have hdone : PDN rw cl (UGm rw cl t bk (r 3) (r 4) (r 5) (r 6) (r 7) (r 8) (r 9) (r 11) (r 13) (r 14) dn uq) (KM (r 4) (r 5) (r 6) (r 7) (r 8) (r 9) (r 10) t) Pl := fun x y h8 h9 z9 => (hk.resolve_right (fun ⟨i9, j9, _, _, _, e9, _⟩ => absurd (e9.symm.trans c34) (nI_nm1 (by omega)))).2 x y h8 h9 (Nat.zero_le _) ((UN_m h8 h9 (KM_pl hcl hrw htl hz)).mpr z9)
                refine lv_iload_n hx hb dX7_plan_153 rfl (lv_at hl 1 rfl) ?_
                exact wr_iret hx hb hr hlocks hS hP ⟨x23, x24, x25, x26, x27, x28, x29, x30, x31, x32, x33, x6, rfl, (Or.inr ⟨t, rw, cl, bk, dn, uq, nn, Pl, cc, ht, rfl, hop, hrw, hcl, hbk, h2, h3, h12, hr3, hr4, hdn, huq, hPL, Or.inl ⟨hdone, rfl, htl, hs0⟩⟩)⟩ dX7_plan_154
              · obtain ⟨i, j, hi, hj, -, ek, hun, hbe⟩ := hk.resolve_left (fun z9 => c34 z9.1)
                subst ek
                have hfs : FST rw cl (UGm rw cl t bk (r 3) (r 4) (r 5) (r 6) (r 7) (r 8) (r 9) (r 11) (r 13) (r 14) dn uq) (kOf (KM (r 4) (r 5) (r 6) (r 7) (r 8) (r 9) (r 10) t) Pl) i j := ⟨hi, hj, (UN_m hi hj (KM_pl hcl hrw htl hz)).mp hun, fun x y h7 h8 h9 z9 => hbe x y h7 h8 (Nat.zero_le _) h9 ((UN_m h7 h8 (KM_pl hcl hrw htl hz)).mpr z9)⟩
                have hlt := PLS_lt hrw hcl hPL (show i < 12 by omega) (show j < 12 by omega) (se_K hun.2.1)
                refine lv_aload_n hx hb dX7_plan_73 rfl (lv_at hl 2 rfl) ?_
                refine lv_iload_n hx hb dX7_plan_74 rfl (lv_at hl 3 rfl) ?_
                refine lv_iload_n hx hb dX7_plan_75 rfl (lv_at hl 0 rfl) ?_
                refine lv_bipush (v := 12) hx hb dX7_plan_76 (by decide) ?_
                refine lv_idiv hx hb dX7_plan_78 (by decide) ?_
                refine lv_topi (fun v35 ev35 => ?_)
                obtain rfl : v35 = nI ((12 * i + j) / 12) := nI_quo ev35 rfl rfl (by omega) (by omega) (by omega)
                rw [show (12 * i + j) / 12 = i by omega]
                refine lv_iload_n hx hb dX7_plan_79 rfl (lv_at hl 0 rfl) ?_
                refine lv_bipush (v := 12) hx hb dX7_plan_80 (by decide) ?_
                refine lv_irem hx hb dX7_plan_82 (by decide) ?_
                refine lv_topi (fun v36 ev36 => ?_)
                obtain rfl : v36 = nI ((12 * i + j) % 12) := nI_mod ev36 rfl rfl (by omega) (by omega) (by omega)
                rw [show (12 * i + j) % 12 = j by omega]
                refine wrVIa (rest := []) (q0 := 0) ⟨hx, hb, hml, hown, hts⟩ (n_guard l G y b (upd (upd (upd f 0 x23) 20 x24) 21 x25) (up2 (up2 (up2 (up2 (up2 (up2 (up2 (up2 (up2 r 10 x26) 15 x27) 16 x28) 17 x29) 18 x30) 19 x31) 22 x32) 23 x33) 29 x6) t i j rw cl bk (by omega) (by omega) (by omega) (by omega) h2 h3 h12 hG (by omega) (by omega) hun.1 hNR) mi_yX7_guard mv_yX7_guard ml_X7_239 ⟨rfl, rfl, Nat.le_of_ble_eq_true rfl, Nat.le_of_ble_eq_true rfl⟩ hK hP (hDD _ _) rfl rfl rfl hl.1 rfl (Nat.le_of_ble_eq_true rfl) dX7_plan_83 ⟨Nat.zero_le _, Nat.zero_le _⟩ hS hA (fun r37 w38 H locs hw38 hP hS => ?_)
                obtain ⟨x39, rfl, hw38r⟩ := hw38
                have hP : PP G (mM G y b (upd (upd (upd f 0 x23) 20 x24) 21 x25) (up2 (up2 (up2 (up2 (up2 (up2 (up2 (up2 (up2 r 10 x39) 15 x27) 16 x28) 17 x29) 18 x30) 19 x31) 22 x32) 23 x33) 29 x6)) H := hP
                have hw38r : ((r37 = 0 ∧ NON rw cl (mtM (r 3) (r 5) (r 11) (r 13) (r 14) t bk) (zzM (r 5) t) (KM (r 4) (r 5) (r 6) (r 7) (r 8) (r 9) x26 t) i j 144 ∧ x39 = x26) ∨ (∃ qq dd, BSN rw cl (mtM (r 3) (r 5) (r 11) (r 13) (r 14) t bk) (zzM (r 5) t) (prM (r 4) (r 6) t) (KM (r 4) (r 5) (r 6) (r 7) (r 8) (r 9) x26 t) i j 144 qq dd ∧ r37 = nI (nw3 (KM (r 4) (r 5) (r 6) (r 7) (r 8) (r 9) x26 t) i j qq dd) ∧ x39 = upd (upd (upd x26 (144 * t + 12 * i + dd) 1) (144 * t + 12 * qq + j) 1) (144 * t + 12 * qq + dd) 1)) := hw38r
                refine lv_istore (lv' := [(4, .int r37), (3, .int (nI (12 * i + j))), (2, .int (nI cc)), (0, .ref y), (1, .int (nI t))]) hx hb dX7_plan_86 hl (by decide) rfl (fun ls hl => ?_)
                refine lv_iload hx hb dX7_plan_88 (lv_at hl 0 rfl) ?_
                refine lv_if_ne (tgt := 138) hx hb dX7_plan_90 (by decide) (fun c40 => ?_) (fun c40 => ?_)
                · have hKK : ∀ x y, x < rw → y < cl → kOf (KM (r 4) (r 5) (r 6) (r 7) (r 8) (r 9) (r 10) t) Pl x y = (KM (r 4) (r 5) (r 6) (r 7) (r 8) (r 9) x26 t) x y := KM_pl hcl hrw htl hz
                  obtain ⟨qq, dd, hbn, er, e10⟩ := hw38r.resolve_left (fun z9 => c40 z9.1)
                  obtain ⟨cq1, cq2, cq3, cq4, cq5, cq6, cq7, cq8, -⟩ := hbn.1
                  subst er
                  have hnp := nw3_p hbn.1
                  have hbn2 := BSN_r (K2 := kOf (KM (r 4) (r 5) (r 6) (r 7) (r 8) (r 9) (r 10) t) Pl) (fun x y h8 h9 => (hKK x y h8 h9).symm) hi hj hbn
                  have hPL2 : PLS rw cl (UGm rw cl t bk (r 3) (r 4) (r 5) (r 6) (r 7) (r 8) (r 9) (r 11) (r 13) (r 14) dn uq) (mtM (r 3) (r 5) (r 11) (r 13) (r 14) t bk) (zzM (r 5) t) (prM (r 4) (r 6) t) (KM (r 4) (r 5) (r 6) (r 7) (r 8) (r 9) (r 10) t) (nn + 1) (ad3 Pl i j qq dd) (cc + nw3 (KM (r 4) (r 5) (r 6) (r 7) (r 8) (r 9) x26 t) i j qq dd) := ⟨Pl, cc, i, j, qq, dd, hPL, hfs, hbn2, rfl, by rw [nw3_r (fun x y h8 h9 => hKK x y h8 h9) hi hj cq1 cq2]⟩
                  have htl2 : tlM t (ad3 Pl i j qq dd) (r 10) x39 := by rw [e10]; exact tlM_1 (by omega) (by omega) (tlM_1 (by omega) (by omega) (tlM_1 (by omega) (by omega) htl))
                  have hz2 : ∀ x y, x < 12 → y < 12 → ad3 Pl i j qq dd x y = true → ¬ r 5 (144 * t + 12 * x + y) = 4 := ad_z (ad_z (ad_z hz cq6) cq7) cq8
                  refine lv_iload_n hx hb dX7_plan_138 rfl (lv_at hl 2 rfl) ?_
                  refine lv_iload hx hb dX7_plan_139 (lv_at hl 0 rfl) ?_
                  refine lv_iadd hx hb dX7_plan_141 ?_
                  refine lv_topi (fun v41 ev41 => ?_)
                  obtain rfl : v41 = nI (cc + (nw3 (KM (r 4) (r 5) (r 6) (r 7) (r 8) (r 9) x26 t) i j qq dd)) := nI_plus ev41 rfl rfl
                  refine lv_istore_n (lv' := [(2, .int (nI (cc + (nw3 (KM (r 4) (r 5) (r 6) (r 7) (r 8) (r 9) x26 t) i j qq dd)))), (4, .int (nI (nw3 (KM (r 4) (r 5) (r 6) (r 7) (r 8) (r 9) x26 t) i j qq dd))), (3, .int (nI (12 * i + j))), (0, .ref y), (1, .int (nI t))]) hx hb dX7_plan_142 rfl hl (by decide) rfl (fun ls hl => ?_)
                  refine lv_aload_n hx hb dX7_plan_143 rfl (lv_at hl 3 rfl) ?_
                  refine lv_iload_n hx hb dX7_plan_144 rfl (lv_at hl 4 rfl) ?_
                  refine lv_iconst (v := 0) hx hb dX7_plan_145 (by decide) ?_
                  refine wrVIa (rest := []) (q0 := 0) ⟨hx, hb, hml, hown, hts⟩ (n_unsafeFrom l G y b (upd (upd (upd f 0 x23) 20 x24) 21 x25) (up2 (up2 (up2 (up2 (up2 (up2 (up2 (up2 (up2 r 10 x39) 15 x27) 16 x28) 17 x29) 18 x30) 19 x31) 22 x32) 23 x33) 29 x6) t 0 rw cl bk dn uq (by omega) (by omega) (by omega) (by omega) h2 h3 h12 hG hNR (by omega) (by omega) hr3 hr4 (by omega)) mi_yX7_unsafeFrom mv_yX7_unsafeFrom ml_X7_230 ⟨rfl, rfl, Nat.le_of_ble_eq_true rfl, Nat.le_of_ble_eq_true rfl⟩ hK hP (hDD _ _) rfl rfl rfl hl.1 rfl (Nat.le_of_ble_eq_true rfl) dX7_plan_146 ⟨Nat.zero_le _, Nat.zero_le _⟩ hS hA (fun r42 w43 H locs hw43 hP hS => ?_)
                  obtain ⟨x44, x45, x46, x47, x48, x49, x50, x51, x52, rfl, hw43r⟩ := hw43
                  have hP : PP G (mM G y b (upd (upd (upd f 0 x23) 20 x44) 21 x45) (up2 (up2 (up2 (up2 (up2 (up2 (up2 (up2 (up2 r 10 x39) 15 x46) 16 x47) 17 x48) 18 x49) 19 x50) 22 x51) 23 x52) 29 x6)) H := hP
                  have hw43r : firstU rw cl (UNm rw cl t bk (r 3) (r 4) (r 5) (r 6) (r 7) (r 8) (r 9) x39 (r 11) (r 13) (r 14) dn uq) 0 r42 := hw43r
                  refine lv_istore_n (lv' := [(3, .int r42), (2, .int (nI (cc + (nw3 (KM (r 4) (r 5) (r 6) (r 7) (r 8) (r 9) x26 t) i j qq dd)))), (4, .int (nI (nw3 (KM (r 4) (r 5) (r 6) (r 7) (r 8) (r 9) x26 t) i j qq dd))), (0, .ref y), (1, .int (nI t))]) hx hb dX7_plan_149 rfl hl (by decide) rfl (fun ls hl => ?_)
                  refine lv_goto (tgt := 68) hx hb dX7_plan_150 (by decide) ?_
                  exact ih68k19 r42 (cc + (nw3 (KM (r 4) (r 5) (r 6) (r 7) (r 8) (r 9) x26 t) i j qq dd)) (nn + 1) (ad3 Pl i j qq dd) x23 x44 x45 x39 x46 x47 x48 x49 x50 x51 x52 (by omega) (hs0) (hw43r) (hPL2) (htl2) (hz2) _ _ _ hP hS (lv_sub hl [0, 1, 3, 4] rfl)
                · have hKK : ∀ x y, x < rw → y < cl → kOf (KM (r 4) (r 5) (r 6) (r 7) (r 8) (r 9) (r 10) t) Pl x y = (KM (r 4) (r 5) (r 6) (r 7) (r 8) (r 9) x26 t) x y := KM_pl hcl hrw htl hz
                  have hnon := (hw38r.resolve_right (fun ⟨q9, d9, b9, z9, _⟩ => by have h8 := nw3_p b9.1; have h7 := nw3_le (K := (KM (r 4) (r 5) (r 6) (r 7) (r 8) (r 9) x26 t)) (i := i) (j := j) (q := q9) (d := d9); have h6 := (nI_eq (b := 0) (by omega) (by omega)).mp (z9.symm.trans c40); omega)).2
                  have hpf : PFL rw cl (UGm rw cl t bk (r 3) (r 4) (r 5) (r 6) (r 7) (r 8) (r 9) (r 11) (r 13) (r 14) dn uq) (mtM (r 3) (r 5) (r 11) (r 13) (r 14) t bk) (zzM (r 5) t) (KM (r 4) (r 5) (r 6) (r 7) (r 8) (r 9) (r 10) t) Pl := ⟨i, j, hfs, NON_r (fun x y h8 h9 => hKK x y h8 h9) hi hj hnon.1⟩
                  have hre : ∀ p, (p < 144 * t + 0 ∨ 144 * t + 144 ≤ p) → x39 p = r 10 p := fun p h9 => by rw [hnon.2]; exact htl.2 p (by omega)
                  refine lv_iconst (v := 0) hx hb dX7_plan_93 (by decide) ?_
                  refine lv_istore (lv' := [(5, .int 0), (4, .int r37), (3, .int (nI (12 * i + j))), (2, .int (nI cc)), (0, .ref y), (1, .int (nI t))]) hx hb dX7_plan_94 hl (by decide) rfl (fun ls hl => ?_)
                  have loop96 : ∀ (k53 n2 : Nat) (x54 : Nat → Int32), n2 ≤ 144 → 144 < n2 + k53 → (∀ p, (p < 144 * t + n2 ∨ 144 * t + 144 ≤ p) → x54 p = r 10 p) → ∀ (H : Heap) (locs : List Loc) (ls : Array Slot), PP G (mM G y b (upd (upd (upd f 0 x23) 20 x24) 21 x25) (up2 (up2 (up2 (up2 (up2 (up2 (up2 (up2 (up2 r 10 x54) 15 x27) 16 x28) 17 x29) 18 x30) 19 x31) 22 x32) 23 x33) 29 x6)) H → va_S A s.heap H locs → lv_has ls 6 [(5, .int (nI n2)), (0, .ref y), (1, .int (nI t))] → W p l e ({ frames := 7, cells := 0, slots := 0, locals := 179 }) s m ([.ref y, .int (nI t)] : List Value).toArray below meth c H locs 0 0 (MQ below (QwI G (fun q w => ∃ (n_f_0 : Int32) (n_f_20 : Int32) (n_f_21 : Int32) (n_r_10 : Nat → Int32) (n_r_15 : Nat → Int32) (n_r_16 : Nat → Int32) (n_r_17 : Nat → Int32) (n_r_18 : Nat → Int32) (n_r_19 : Nat → Int32) (n_r_22 : Nat → Int32) (n_r_23 : Nat → Int32) (n_r_29 : Nat → Int32), w = mM G y b (upd (upd (upd f 0 n_f_0) 20 n_f_20) 21 n_f_21) (up2 (up2 (up2 (up2 (up2 (up2 (up2 (up2 (up2 r 10 n_r_10) 15 n_r_15) 16 n_r_16) 17 n_r_17) 18 n_r_18) 19 n_r_19) 22 n_r_22) 23 n_r_23) 29 n_r_29) ∧ plM (nI t) q (r 1) (r 2) (r 3) (r 4) (r 5) (r 6) (r 7) (r 8) (r 9) (r 10) (r 11) (r 12) (r 13) (r 14) n_r_10 n_f_0) A) ([.ref y, .int (nI t)] : List Value).toArray s 0 0 A) (F0 m 96 ls []) := by
                    intro k53
                    induction k53 with
                    | zero => intro n2 x54 h1 h2; exact absurd h1 (by omega)
                    | succ k53 ih96k53 =>
                      intro n2 x54 hi_n2 hk_n2 hre H locs ls hP hS hl
                      refine lv_iload hx hb dX7_plan_96 (lv_at hl 0 rfl) ?_
                      refine lv_sipush (v := 144) hx hb dX7_plan_98 (by decide) ?_
                      refine lv_icmp_ge (tgt := 130) hx hb dX7_plan_101 (by decide) (fun c55 => ?_) (fun c55 => ?_)
                      · have b101 := qge_t (a := n2) (b := 144) (by omega) (by omega) c55
                        refine lv_aload_n hx hb dX7_plan_130 rfl (lv_at hl 1 rfl) ?_
                        refine lv_bipush (v := 10) hx hb dX7_plan_131 (by decide) ?_
                        refine va_put (D := G.1) (ci := 7) (v := .int 10) (C := RX7) (T := TX7) (N := 43) hx hb hts inX7 tyX7 tyX7_ok nmX7 hown hK.1 hP (hDD _ _) hS 0 rfl rfl 0 (by decide) (hts _ mf_X7_116) (fun _ h9 => h9) rfl (tyX7_ok 0 (by decide)) (rfl) (rfl) (Nat.le_of_ble_eq_true rfl) dX7_plan_133 (fun H locs hP _ hS => ?_)
                        have hP : PP G (mM G y b (upd (upd (upd f 0 10) 20 x24) 21 x25) (up2 (up2 (up2 (up2 (up2 (up2 (up2 (up2 (up2 r 10 x54) 15 x27) 16 x28) 17 x29) 18 x30) 19 x31) 22 x32) 23 x33) 29 x6)) H := hP
                        refine lv_iconst (v := -1) hx hb dX7_plan_136 (by decide) ?_
                        exact wr_iret hx hb hr hlocks hS hP ⟨10, x24, x25, x54, x27, x28, x29, x30, x31, x32, x33, x6, rfl, (Or.inr ⟨t, rw, cl, bk, dn, uq, nn, Pl, cc, ht, rfl, hop, hrw, hcl, hbk, h2, h3, h12, hr3, hr4, hdn, huq, hPL, Or.inr ⟨hpf, rfl, fun p h9 => hre p (by omega), rfl⟩⟩)⟩ dX7_plan_137
                      · have b101 := qge_f (a := n2) (b := 144) (by omega) (by omega) c55
                        refine lv_aload_n hx hb dX7_plan_104 rfl (lv_at hl 1 rfl) ?_
                        refine va_get (D := G.1) (ci := 7) (v := .ref (b 10)) (C := RX7) (T := TX7) (N := 43) hx hb hts inX7 hown hK.1 hP 0 rfl rfl 10 (by decide) (hts _ mf_X7_38) (fun _ h9 => h9) rfl dX7_plan_105 ?_
                        refine lv_sipush (v := 144) hx hb dX7_plan_108 (by decide) ?_
                        refine lv_iload_n hx hb dX7_plan_111 rfl (lv_at hl 2 rfl) ?_
                        refine lv_imul hx hb dX7_plan_112 ?_
                        refine lv_topi (fun v56 ev56 => ?_)
                        obtain rfl : v56 = nI (144 * t) := nI_times ev56 rfl rfl
                        refine lv_iload hx hb dX7_plan_113 (lv_at hl 0 rfl) ?_
                        refine lv_iadd hx hb dX7_plan_115 ?_
                        refine lv_topi (fun v57 ev57 => ?_)
                        obtain rfl : v57 = nI ((144 * t) + n2) := nI_plus ev57 rfl rfl
                        refine lv_aload_n hx hb dX7_plan_116 rfl (lv_at hl 1 rfl) ?_
                        refine va_get (D := G.1) (ci := 7) (v := .ref (b 29)) (C := RX7) (T := TX7) (N := 43) hx hb hts inX7 hown hK.1 hP 0 rfl rfl 29 (by decide) (hts _ mf_X7_83) (fun _ h9 => h9) rfl dX7_plan_117 ?_
                        refine lv_iload hx hb dX7_plan_120 (lv_at hl 0 rfl) ?_
                        refine xzald (f := x6) hx hb hK hP 25 (n2) (rfl) (by omega) (by decide) rfl dX7_plan_122 ?_
                        refine lv_topi (fun v58 ev58 => ?_)
                        refine xzast (f := x54) (x := v58) hx hb hK hP (hDD _ _) hS 10 (((144 * t) + n2)) (rfl) (by omega) (by decide) ((by rw [ev58, hwas n2 (by omega)]; exact hB9 _ (by omega))) rfl dX7_plan_123 (fun H locs hP _ hS => ?_)
                        have hP : PP G (mM G y b (upd (upd (upd f 0 x23) 20 x24) 21 x25) (up2 (up2 (up2 (up2 (up2 (up2 (up2 (up2 (up2 r 10 (upd x54 (((144 * t) + n2)) (v58))) 15 x27) 16 x28) 17 x29) 18 x30) 19 x31) 22 x32) 23 x33) 29 x6)) H := hP
                        obtain ⟨v59, ev59⟩ : ∃ y9 : Int32, y9 = (nI n2) + Int32.ofInt (1) := ⟨_, rfl⟩
                        refine lv_iinc (v := v59) (lv' := [(5, .int v59), (0, .ref y), (1, .int (nI t))]) hx hb dX7_plan_124 hl (k := 0) rfl ev59.symm (by decide) rfl (fun ls hl => ?_)
                        obtain rfl : v59 = nI (n2 + 1) := nI_plus (i := n2) (j := 1) ev59 rfl (by decide)
                        refine lv_goto (tgt := 96) hx hb dX7_plan_127 (by decide) ?_
                        exact ih96k53 (n2 + 1) (upd x54 (((144 * t) + n2)) (v58)) (by omega) (by omega) (re_s (by omega) hre (ev58.trans (hwas n2 (by omega)))) _ _ _ hP hS (lv_sub hl [0, 1, 2] rfl)
                  exact loop96 (144 + 1) 0 x39 (by omega) (by omega) (hre) _ _ _ hP hS (lv_sub hl [0, 4, 5] rfl)
          exact loop68 145 r8 0 0 (fun _ _ => false) 0 x10 x11 (r 10) x12 x13 x14 x15 x16 x17 x18 (by omega) (rfl) (hw9r) (⟨rfl, rfl⟩) (⟨fun x y _ _ => by simp, fun _ _ => rfl⟩) (fun x y _ _ h9 => Bool.noConfusion h9) _ _ _ hP hS (lv_sub hl [0, 1, 2, 3] rfl)
        · have b32 := qge_f (a := n1) (b := 144) (by omega) (by omega) c7
          refine lv_aload_n hx hb dX7_plan_35 rfl (lv_at hl 1 rfl) ?_
          refine va_get (D := G.1) (ci := 7) (v := .ref (b 29)) (C := RX7) (T := TX7) (N := 43) hx hb hts inX7 hown hK.1 hP 0 rfl rfl 29 (by decide) (hts _ mf_X7_83) (fun _ h9 => h9) rfl dX7_plan_36 ?_
          refine lv_iload_n hx hb dX7_plan_39 rfl (lv_at hl 0 rfl) ?_
          refine lv_aload_n hx hb dX7_plan_40 rfl (lv_at hl 1 rfl) ?_
          refine va_get (D := G.1) (ci := 7) (v := .ref (b 10)) (C := RX7) (T := TX7) (N := 43) hx hb hts inX7 hown hK.1 hP 0 rfl rfl 10 (by decide) (hts _ mf_X7_38) (fun _ h9 => h9) rfl dX7_plan_41 ?_
          refine lv_sipush (v := 144) hx hb dX7_plan_44 (by decide) ?_
          refine lv_iload_n hx hb dX7_plan_47 rfl (lv_at hl 2 rfl) ?_
          refine lv_imul hx hb dX7_plan_48 ?_
          refine lv_topi (fun v60 ev60 => ?_)
          obtain rfl : v60 = nI (144 * t) := nI_times ev60 rfl rfl
          refine lv_iload_n hx hb dX7_plan_49 rfl (lv_at hl 0 rfl) ?_
          refine lv_iadd hx hb dX7_plan_50 ?_
          refine lv_topi (fun v61 ev61 => ?_)
          obtain rfl : v61 = nI ((144 * t) + n1) := nI_plus ev61 rfl rfl
          refine xzald (f := (r 10)) hx hb hK hP 10 (((144 * t) + n1)) (rfl) (by omega) (by decide) rfl dX7_plan_51 ?_
          refine lv_topi (fun v62 ev62 => ?_)
          refine xzast (f := x6) (x := v62) hx hb hK hP (hDD _ _) hS 25 (n1) (rfl) (by omega) (by decide) ((by rw [ev62]; exact hB9 _ (by omega))) rfl dX7_plan_52 (fun H locs hP _ hS => ?_)
          have hP : PP G (mM G y b (upd f 0 0) (up2 r 29 (upd x6 (n1) (v62)))) H := hP
          obtain ⟨v63, ev63⟩ : ∃ y9 : Int32, y9 = (nI n1) + Int32.ofInt (1) := ⟨_, rfl⟩
          refine lv_iinc (v := v63) (lv' := [(2, .int v63), (0, .ref y), (1, .int (nI t))]) hx hb dX7_plan_53 hl (k := 0) rfl ev63.symm (by decide) rfl (fun ls hl => ?_)
          obtain rfl : v63 = nI (n1 + 1) := nI_plus (i := n1) (j := 1) ev63 rfl (by decide)
          refine lv_goto (tgt := 28) hx hb dX7_plan_56 (by decide) ?_
          exact ih28k5 (n1 + 1) (upd x6 (n1) (v62)) (by omega) (by omega) (wa_s hwas ev62) _ _ _ hP hS (lv_sub hl [0, 1, 2] rfl)
    exact loop28 (144 + 1) 0 (r 29) (by omega) (by omega) (fun k h9 => absurd h9 (by omega)) _ _ _ hP hS (lv_sub hl [0, 1, 2] rfl)
