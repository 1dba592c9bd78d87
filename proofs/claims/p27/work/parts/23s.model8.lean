
def whR (r4 r5 r6 r7 r8 r9 : Nat → Int32) (t p : Nat) : Int32 := whM (r5 p) (r6 p) (r9 p) (r4 (6 * t)) (r4 (6 * t + 1)) (r4 (6 * t + 2)) (r7 p) ((twM (fun m => r8 (6 * p + m)) (r7 p).toNatClampNeg).1 + (twM (fun m => r8 (6 * p + m)) (r7 p).toNatClampNeg).2)
def kpM (r4 r5 r6 r7 r8 r9 r10 : Nat → Int32) (t p : Nat) : Prop := ¬ r5 p = 4 ∧ (¬ r10 p = 0 ∨ 0 < whR r4 r5 r6 r7 r8 r9 t p)
def loM (kd n w : Int32) : Int32 := if kd = 3 then (((thM n w).toInt64 * w.toInt64 + 999) / 1000).toInt32 else 0
def hiM (kd n w : Int32) : Int32 := if kd = 3 then (if w = 0 then 0 else ((((thM n w).toInt64 + 1) * w.toInt64 - 1) / 1000).toInt32) else 1000000000
/-- what lay lays: a row -/
def LYY (cl : Nat) (t : Nat) (r4 r5 r6 r7 r8 r9 r10 r15 r16 r17 r19 : Nat → Int32) (sm : Int32) (x n : Nat) : Prop := ∀ y, y < n → r15 (12 * x + y) = r6 (144 * t + 12 * x + y) ∧ ((r19 (12 * x + y) = 1 ∧ kpM r4 r5 r6 r7 r8 r9 r10 t (144 * t + 12 * x + y)) ∨ (r19 (12 * x + y) = 0 ∧ ¬ kpM r4 r5 r6 r7 r8 r9 r10 t (144 * t + 12 * x + y))) ∧ r16 (12 * x + y) = loM (r5 (144 * t + 12 * x + y)) (r6 (144 * t + 12 * x + y)) sm ∧ r17 (12 * x + y) = hiM (r5 (144 * t + 12 * x + y)) (r6 (144 * t + 12 * x + y)) sm
def LYN (r19 : Nat → Int32) (x n : Nat) : Prop := ∀ y, y < n → r19 (12 * x + y) = 0
def LYR (t cl bk n : Nat) (r3 r4 r5 r6 r7 r8 r9 r10 r11 r13 r14 r15 r16 r17 r18 r19 : Nat → Int32) : Prop := ∀ x, x < n → (sndN (r3 t) r11 r5 t x ∧ r18 x = (clM r13 r14 t (nI x) bk).1 ∧ LYY cl t r4 r5 r6 r7 r8 r9 r10 r15 r16 r17 r19 (smM r6 t x cl) x cl) ∨ (¬ sndN (r3 t) r11 r5 t x ∧ r18 x = -2 ∧ LYN r19 x cl)
theorem LYY_s {cl t x n : Nat} {r4 r5 r6 r7 r8 r9 r10 r15 r16 r17 r19 : Nat → Int32} {sm a b c d : Int32} (h : LYY cl t r4 r5 r6 r7 r8 r9 r10 r15 r16 r17 r19 sm x n) (ha : a = r6 (144 * t + 12 * x + n)) (hb : (b = 1 ∧ kpM r4 r5 r6 r7 r8 r9 r10 t (144 * t + 12 * x + n)) ∨ (b = 0 ∧ ¬ kpM r4 r5 r6 r7 r8 r9 r10 t (144 * t + 12 * x + n))) (hc : c = loM (r5 (144 * t + 12 * x + n)) (r6 (144 * t + 12 * x + n)) sm) (hd : d = hiM (r5 (144 * t + 12 * x + n)) (r6 (144 * t + 12 * x + n)) sm) : LYY cl t r4 r5 r6 r7 r8 r9 r10 (upd r15 (12 * x + n) a) (upd r16 (12 * x + n) c) (upd r17 (12 * x + n) d) (upd r19 (12 * x + n) b) sm x (n + 1) := fun y hy => by
  by_cases e : y = n
  · subst e; rw [pk_us, pk_us, pk_us, pk_us]; exact ⟨ha, hb, hc, hd⟩
  · rw [pk_un (by omega), pk_un (by omega), pk_un (by omega), pk_un (by omega)]; exact h y (by omega)
theorem LYN_s {x n : Nat} {r19 : Nat → Int32} (h : LYN r19 x n) : LYN (upd r19 (12 * x + n) 0) x (n + 1) := fun y hy => by
  by_cases e : y = n
  · subst e; exact pk_us
  · rw [pk_un (by omega)]; exact h y (by omega)
/-- rows before one stay as they are -/
def stay (n : Nat) (f g : Nat → Int32) : Prop := ∀ p, p < 12 * n → g p = f p
theorem stay_0 {n : Nat} {f : Nat → Int32} : stay n f f := fun _ _ => rfl
theorem stay_u {n k : Nat} {f g : Nat → Int32} {v : Int32} (h : stay n f g) (hk : 12 * n ≤ k) : stay n f (upd g k v) := fun p hp => by rw [pk_un (by omega)]; exact h p hp
theorem LYR_s {t cl bk n : Nat} {r3 r4 r5 r6 r7 r8 r9 r10 r11 r13 r14 r15 r16 r17 r18 r19 q15 q16 q17 q19 : Nat → Int32} {v : Int32} (hcl : cl ≤ 12) (h : LYR t cl bk n r3 r4 r5 r6 r7 r8 r9 r10 r11 r13 r14 r15 r16 r17 r18 r19) (s15 : stay n r15 q15) (s16 : stay n r16 q16) (s17 : stay n r17 q17) (s19 : stay n r19 q19) (hn : (sndN (r3 t) r11 r5 t n ∧ v = (clM r13 r14 t (nI n) bk).1 ∧ LYY cl t r4 r5 r6 r7 r8 r9 r10 q15 q16 q17 q19 (smM r6 t n cl) n cl) ∨ (¬ sndN (r3 t) r11 r5 t n ∧ v = -2 ∧ LYN q19 n cl)) : LYR t cl bk (n + 1) r3 r4 r5 r6 r7 r8 r9 r10 r11 r13 r14 q15 q16 q17 (upd r18 n v) q19 := fun x hx => by
  by_cases e : x = n
  · subst e; rw [pk_us]; exact hn
  · rw [pk_un e]
    rcases h x (by omega) with ⟨a1, a2, a3⟩ | ⟨a1, a2, a3⟩
    · refine Or.inl ⟨a1, a2, fun y hy => ?_⟩
      rw [s15 _ (by omega), s16 _ (by omega), s17 _ (by omega), s19 _ (by omega)]; exact a3 y hy
    · refine Or.inr ⟨a1, a2, fun y hy => ?_⟩
      rw [s19 _ (by omega)]; exact a3 y hy
def ndM (rw cl : Nat) (gp : Nat → Int32) (its : Int32) (n : Nat) : Prop := (n < 12 ∧ n < rw ∧ gp n = its) ∨ (12 ≤ n ∧ n < 12 + cl)
set_option maxHeartbeats 4000000 in
set_option maxRecDepth 100000 in
theorem n_isKept (l : Launch) (G : GG) (y : Nat) (b : Nat → Nat) (f : Nat → Int32) (r : Nat → Nat → Int32) (t : Nat) (pa : Nat) (ht : t < 6) (hp : pa < 864) (hG : nOK 864 6 (r 7)) : RdI l yX7_isKept cX7_isKept 3 (some .boolean) ({ frames := 2, cells := 0, slots := 0, locals := 50 }) G (mM G y b f r) [.ref y, .int (nI t), .int (nI pa)] (fun q => ((q = 1 ∧ (kpM (r 4) (r 5) (r 6) (r 7) (r 8) (r 9) (r 10) t pa)) ∨ (q = 0 ∧ ¬ (kpM (r 4) (r 5) (r 6) (r 7) (r 8) (r 9) (r 10) t pa)))) := by
  refine rd_entry (by decide +kernel) (Nat.le_of_ble_eq_true rfl) ?_
  intro p e s m below meth c C0 hP hK ls hl
  have hS : va_S (fun q => s.heap.size ≤ q) s.heap s.heap [] := va_S.rf
  have hA : ∀ q, s.heap.size ≤ q → (fun q => s.heap.size ≤ q) q := fun _ h => h
  obtain ⟨hx, hb, hml, hown, hts, hr, hlocks, hin⟩ := C0
  have hown : s.vm.findClass RX7 = some m.cls := hown
  have hl : lv_has ls 3 [(0, .ref y), (1, .int (nI t)), (2, .int (nI pa))] := hl
  refine lv_aload_n hx hb dX7_isKept_0 rfl (lv_at hl 0 rfl) ?_
  refine va_get (D := G.1) (ci := 7) (v := .ref (b 5)) (C := RX7) (T := TX7) (N := 43) hx hb hts inX7 hown hK.1 hP 0 rfl rfl 5 (by decide) (hts _ mf_X7_23) (fun _ h9 => h9) rfl dX7_isKept_1 ?_
  refine lv_iload_n hx hb dX7_isKept_4 rfl (lv_at hl 2 rfl) ?_
  refine xiald (f := (r 5)) hx hb hK hP 5 (pa) (rfl) (by omega) (by decide) rfl dX7_isKept_5 ?_
  refine lv_topi (fun v1 ev1 => ?_)
  refine lv_iconst (v := 4) hx hb dX7_isKept_6 (by decide) ?_
  refine lv_icmp_eq (tgt := 32) hx hb dX7_isKept_7 (by decide) (fun c2 => ?_) (fun c2 => ?_)
  · refine lv_iconst (v := 0) hx hb dX7_isKept_32 (by decide) ?_
    exact rd_zret hx hb hr hlocks (Or.inl rfl) hS (Or.inr ⟨rfl, fun h9 => h9.1 (ev1.symm.trans c2)⟩) dX7_isKept_33
  · refine lv_aload_n hx hb dX7_isKept_10 rfl (lv_at hl 0 rfl) ?_
    refine va_get (D := G.1) (ci := 7) (v := .ref (b 10)) (C := RX7) (T := TX7) (N := 43) hx hb hts inX7 hown hK.1 hP 0 rfl rfl 10 (by decide) (hts _ mf_X7_38) (fun _ h9 => h9) rfl dX7_isKept_11 ?_
    refine lv_iload_n hx hb dX7_isKept_14 rfl (lv_at hl 2 rfl) ?_
    refine xzald (f := (r 10)) hx hb hK hP 10 (pa) (rfl) (by omega) (by decide) rfl dX7_isKept_15 ?_
    refine lv_topi (fun v3 ev3 => ?_)
    refine lv_if_ne (tgt := 28) hx hb dX7_isKept_16 (by decide) (fun c4 => ?_) (fun c4 => ?_)
    · refine lv_iconst (v := 1) hx hb dX7_isKept_28 (by decide) ?_
      refine lv_goto (tgt := 33) hx hb dX7_isKept_29 (by decide) ?_
      exact rd_zret hx hb hr hlocks (Or.inr rfl) hS (Or.inl ⟨rfl, (fun h9 => c2 (ev1.trans h9)), Or.inl (fun h9 => c4 (ev3.trans h9))⟩) dX7_isKept_33
    · refine lv_aload_n hx hb dX7_isKept_19 rfl (lv_at hl 0 rfl) ?_
      refine lv_iload_n hx hb dX7_isKept_20 rfl (lv_at hl 1 rfl) ?_
      refine lv_iload_n hx hb dX7_isKept_21 rfl (lv_at hl 2 rfl) ?_
      refine rdV (rest := []) (q0 := 0) ⟨hx, hb, hml, hown, hts⟩ (m_X7_why l G y b f r t pa  (by omega) (by omega) hG) mi_yX7_why mv_yX7_why ml_X7_175 ⟨rfl, rfl, Nat.le_of_ble_eq_true rfl, Nat.le_of_ble_eq_true rfl⟩ hK (hP) rfl rfl rfl hl.1 rfl (Nat.le_of_ble_eq_true rfl) dX7_isKept_22 ⟨Nat.zero_le _, Nat.zero_le _⟩ hS hA hP (fun r5 H locs hr5 hP hS => ?_)
      obtain rfl := hr5
      refine lv_if_le (tgt := 32) hx hb dX7_isKept_25 (by decide) (fun c6 => ?_) (fun c6 => ?_)
      · refine lv_iconst (v := 0) hx hb dX7_isKept_32 (by decide) ?_
        exact rd_zret hx hb hr hlocks (Or.inl rfl) hS (Or.inr ⟨rfl, fun h9 => h9.2.elim (fun z9 => z9 (ev3.symm.trans c4)) (fun z9 => absurd z9 (Int32.not_lt.mpr c6))⟩) dX7_isKept_33
      · refine lv_iconst (v := 1) hx hb dX7_isKept_28 (by decide) ?_
        refine lv_goto (tgt := 33) hx hb dX7_isKept_29 (by decide) ?_
        exact rd_zret hx hb hr hlocks (Or.inr rfl) hS (Or.inl ⟨rfl, (fun h9 => c2 (ev1.trans h9)), Or.inr (Int32.not_le.mp c6)⟩) dX7_isKept_33
set_option maxHeartbeats 4000000 in
set_option maxRecDepth 100000 in
theorem n_lay (l : Launch) (G : GG) (y : Nat) (b : Nat → Nat) (f : Nat → Int32) (r : Nat → Nat → Int32) (t : Nat) (rw : Nat) (cl : Nat) (bk : Nat) (ht : t < 6) (hrw : rw ≤ 12) (hcl : cl ≤ 12) (hbk : bk ≤ 12) (h2 : (r 2) t = nI rw) (h3 : (r 3) t = nI cl) (h12 : (r 12) t = nI bk) (hG : nOK 864 6 (r 7)) : WrV l yX7_lay cX7_lay 10 ({ frames := 3, cells := 0, slots := 0, locals := 72 }) G (mM G y b f r) [.ref y, .int (nI t)] (fun w => ∃ (n_f_20 : Int32) (n_f_21 : Int32) (n_r_15 : Nat → Int32) (n_r_16 : Nat → Int32) (n_r_17 : Nat → Int32) (n_r_18 : Nat → Int32) (n_r_19 : Nat → Int32), w = mM G y b (upd (upd f 20 n_f_20) 21 n_f_21) (up2 (up2 (up2 (up2 (up2 r 15 n_r_15) 16 n_r_16) 17 n_r_17) 18 n_r_18) 19 n_r_19) ∧ (n_f_20 = nI rw) ∧ (n_f_21 = nI cl) ∧ (LYR t cl bk rw (r 3) (r 4) (r 5) (r 6) (r 7) (r 8) (r 9) (r 10) (r 11) (r 13) (r 14) n_r_15 n_r_16 n_r_17 n_r_18 n_r_19)) := by
  refine wr_entryV (by decide +kernel) (Nat.le_of_ble_eq_true rfl) ?_
  intro p e s m below meth c A C0 hP hK hD hA ls hl
  have hS : va_S A s.heap s.heap [] := va_S.rf
  obtain ⟨hx, hb, hml, hown, hts, hr, hlocks, hin⟩ := C0
  have hown : s.vm.findClass RX7 = some m.cls := hown
  have hDD : ∀ f' r', va_D A (mM G y b f' r') := fun f' r' => D_same hD rfl
  have hl : lv_has ls 10 [(0, .ref y), (1, .int (nI t))] := hl
  refine lv_aload_n hx hb dX7_lay_0 rfl (lv_at hl 0 rfl) ?_
  refine lv_aload_n hx hb dX7_lay_1 rfl (lv_at hl 0 rfl) ?_
  refine va_get (D := G.1) (ci := 7) (v := .ref (b 2)) (C := RX7) (T := TX7) (N := 43) hx hb hts inX7 hown hK.1 hP 0 rfl rfl 2 (by decide) (hts _ mf_X7_13) (fun _ h9 => h9) rfl dX7_lay_2 ?_
  refine lv_iload_n hx hb dX7_lay_5 rfl (lv_at hl 1 rfl) ?_
  refine xiald (f := (r 2)) hx hb hK hP 2 (t) (rfl) (by omega) (by decide) rfl dX7_lay_6 ?_
  refine lv_topi (fun v1 ev1 => ?_)
  obtain rfl : v1 = nI (rw) := ev1.trans (h2)
  refine va_put (D := G.1) (ci := 7) (v := .int (nI (rw))) (C := RX7) (T := TX7) (N := 43) hx hb hts inX7 tyX7 tyX7_ok nmX7 hown hK.1 hP (hDD _ _) hS 0 rfl rfl 20 (by decide) (hts _ mf_X7_189) (fun _ h9 => h9) rfl (tyX7_ok 20 (by decide)) (rfl) (rfl) (Nat.le_of_ble_eq_true rfl) dX7_lay_7 (fun H locs hP _ hS => ?_)
  have hP : PP G (mM G y b (upd f 20 (nI (rw))) r) H := hP
  refine lv_aload_n hx hb dX7_lay_10 rfl (lv_at hl 0 rfl) ?_
  refine lv_aload_n hx hb dX7_lay_11 rfl (lv_at hl 0 rfl) ?_
  refine va_get (D := G.1) (ci := 7) (v := .ref (b 3)) (C := RX7) (T := TX7) (N := 43) hx hb hts inX7 hown hK.1 hP 0 rfl rfl 3 (by decide) (hts _ mf_X7_17) (fun _ h9 => h9) rfl dX7_lay_12 ?_
  refine lv_iload_n hx hb dX7_lay_15 rfl (lv_at hl 1 rfl) ?_
  refine xiald (f := (r 3)) hx hb hK hP 3 (t) (rfl) (by omega) (by decide) rfl dX7_lay_16 ?_
  refine lv_topi (fun v2 ev2 => ?_)
  obtain rfl : v2 = nI (cl) := ev2.trans (h3)
  refine va_put (D := G.1) (ci := 7) (v := .int (nI (cl))) (C := RX7) (T := TX7) (N := 43) hx hb hts inX7 tyX7 tyX7_ok nmX7 hown hK.1 hP (hDD _ _) hS 0 rfl rfl 21 (by decide) (hts _ mf_X7_192) (fun _ h9 => h9) rfl (tyX7_ok 21 (by decide)) (rfl) (rfl) (Nat.le_of_ble_eq_true rfl) dX7_lay_17 (fun H locs hP _ hS => ?_)
  have hP : PP G (mM G y b (upd (upd f 20 (nI (rw))) 21 (nI (cl))) r) H := hP
  refine lv_iconst (v := 0) hx hb dX7_lay_20 (by decide) ?_
  refine lv_istore_n (lv' := [(2, .int 0), (0, .ref y), (1, .int (nI t))]) hx hb dX7_lay_21 rfl hl (by decide) rfl (fun ls hl => ?_)
  have loop22 : ∀ (k3 i : Nat) (x4 : Nat → Int32) (x5 : Nat → Int32) (x6 : Nat → Int32) (x7 : Nat → Int32) (x8 : Nat → Int32), i ≤ rw → rw < i + k3 → (LYR t cl bk i (r 3) (r 4) (r 5) (r 6) (r 7) (r 8) (r 9) (r 10) (r 11) (r 13) (r 14) x4 x5 x6 x7 x8) → ∀ (H : Heap) (locs : List Loc) (ls : Array Slot), PP G (mM G y b (upd (upd f 20 (nI (rw))) 21 (nI (cl))) (up2 (up2 (up2 (up2 (up2 r 15 x4) 16 x5) 17 x6) 18 x7) 19 x8)) H → va_S A s.heap H locs → lv_has ls 10 [(2, .int (nI i)), (0, .ref y), (1, .int (nI t))] → W p l e ({ frames := 3, cells := 0, slots := 0, locals := 72 }) s m ([.ref y, .int (nI t)] : List Value).toArray below meth c H locs 0 0 (MQ below (QwV G (fun w => ∃ (n_f_20 : Int32) (n_f_21 : Int32) (n_r_15 : Nat → Int32) (n_r_16 : Nat → Int32) (n_r_17 : Nat → Int32) (n_r_18 : Nat → Int32) (n_r_19 : Nat → Int32), w = mM G y b (upd (upd f 20 n_f_20) 21 n_f_21) (up2 (up2 (up2 (up2 (up2 r 15 n_r_15) 16 n_r_16) 17 n_r_17) 18 n_r_18) 19 n_r_19) ∧ (n_f_20 = nI rw) ∧ (n_f_21 = nI cl) ∧ (LYR t cl bk rw (r 3) (r 4) (r 5) (r 6) (r 7) (r 8) (r 9) (r 10) (r 11) (r 13) (r 14) n_r_15 n_r_16 n_r_17 n_r_18 n_r_19)) A) ([.ref y, .int (nI t)] : List Value).toArray s 0 0 A) (F0 m 22 ls []) := by
    intro k3
    induction k3 with
    | zero => intro i x4 x5 x6 x7 x8 h1 h2; exact absurd h1 (by omega)
    | succ k3 ih22k3 =>
      intro i x4 x5 x6 x7 x8 hi_i hk_i hLY H locs ls hP hS hl
      refine lv_iload_n hx hb dX7_lay_22 rfl (lv_at hl 0 rfl) ?_
      refine lv_aload_n hx hb dX7_lay_23 rfl (lv_at hl 1 rfl) ?_
      refine va_get (D := G.1) (ci := 7) (v := .int (nI (rw))) (C := RX7) (T := TX7) (N := 43) hx hb hts inX7 hown hK.1 hP 0 rfl rfl 20 (by decide) (hts _ mf_X7_189) (fun _ h9 => h9) rfl dX7_lay_24 ?_
      refine lv_icmp_ge (tgt := 259) hx hb dX7_lay_27 (by decide) (fun c9 => ?_) (fun c9 => ?_)
      · have b27 := qge_t (a := i) (b := (rw)) (by omega) (by omega) c9
        exact wr_vret hx hb hr hlocks hS hP ⟨(nI (rw)), (nI (cl)), x4, x5, x6, x7, x8, rfl, rfl, rfl, (by rw [show rw = i by omega]; exact hLY)⟩ dX7_lay_259
      · have b27 := qge_f (a := i) (b := (rw)) (by omega) (by omega) c9
        refine lv_aload_n hx hb dX7_lay_30 rfl (lv_at hl 1 rfl) ?_
        refine lv_iload_n hx hb dX7_lay_31 rfl (lv_at hl 2 rfl) ?_
        refine lv_iload_n hx hb dX7_lay_32 rfl (lv_at hl 0 rfl) ?_
        refine rdV (rest := []) (q0 := 0) ⟨hx, hb, hml, hown, hts⟩ (m_X7_isSound l G y b (upd (upd f 20 (nI (rw))) 21 (nI (cl))) (up2 (up2 (up2 (up2 (up2 r 15 x4) 16 x5) 17 x6) 18 x7) 19 x8) t i rw cl bk (by omega) (by omega) (by omega) (by omega) h2 h3 h12 (by omega)) mi_yX7_isSound mv_yX7_isSound ml_X7_161 ⟨rfl, rfl, Nat.le_of_ble_eq_true rfl, Nat.le_of_ble_eq_true rfl⟩ hK (hP) rfl rfl rfl hl.1 rfl (Nat.le_of_ble_eq_true rfl) dX7_lay_33 ⟨Nat.zero_le _, Nat.zero_le _⟩ hS hA hP (fun r10 H locs hr10 hP hS => ?_)
        have hr10 : ((r10 = 1 ∧ (sndN ((r 3) t) (r 11) (r 5) t i)) ∨ (r10 = 0 ∧ ¬ (sndN ((r 3) t) (r 11) (r 5) t i))) := hr10
        refine lv_istore_n (lv' := [(3, .int r10), (2, .int (nI i)), (0, .ref y), (1, .int (nI t))]) hx hb dX7_lay_36 rfl hl (by decide) rfl (fun ls hl => ?_)
        refine lv_aload_n hx hb dX7_lay_37 rfl (lv_at hl 2 rfl) ?_
        refine va_get (D := G.1) (ci := 7) (v := .ref (b 18)) (C := RX7) (T := TX7) (N := 43) hx hb hts inX7 hown hK.1 hP 0 rfl rfl 18 (by decide) (hts _ mf_X7_62) (fun _ h9 => h9) rfl dX7_lay_38 ?_
        refine lv_iload_n hx hb dX7_lay_41 rfl (lv_at hl 1 rfl) ?_
        refine lv_iload_n hx hb dX7_lay_42 rfl (lv_at hl 0 rfl) ?_
        refine lv_if_eq (tgt := 55) hx hb dX7_lay_43 (by decide) (fun c11 => ?_) (fun c11 => ?_)
        · have hsn := bF hr10 c11
          refine lv_bipush (v := -2) hx hb dX7_lay_55 (by decide) ?_
          refine xiast (f := x7) (x := (-2)) hx hb hK hP (hDD _ _) hS 18 (i) (rfl) (by omega) (by decide) rfl dX7_lay_57 (fun H locs hP _ hS => ?_)
          have hP : PP G (mM G y b (upd (upd f 20 (nI (rw))) 21 (nI (cl))) (up2 (up2 (up2 (up2 (up2 r 15 x4) 16 x5) 17 x6) 18 (upd x7 (i) ((-2)))) 19 x8)) H := hP
          refine lv_iload_n hx hb dX7_lay_58 rfl (lv_at hl 0 rfl) ?_
          refine lv_if_eq (tgt := 71) hx hb dX7_lay_59 (by decide) (fun c12 => ?_) (fun c12 => ?_)
          · refine lv_iconst (v := 0) hx hb dX7_lay_71 (by decide) ?_
            refine lv_istore (lv' := [(4, .int 0), (3, .int r10), (2, .int (nI i)), (0, .ref y), (1, .int (nI t))]) hx hb dX7_lay_72 hl (by decide) rfl (fun ls hl => ?_)
            refine lv_iconst (v := 0) hx hb dX7_lay_74 (by decide) ?_
            refine lv_istore (lv' := [(5, .int 0), (4, .int 0), (3, .int r10), (2, .int (nI i)), (0, .ref y), (1, .int (nI t))]) hx hb dX7_lay_75 hl (by decide) rfl (fun ls hl => ?_)
            have loop77 : ∀ (k13 k : Nat) (x14 : Nat → Int32) (x15 : Nat → Int32) (x16 : Nat → Int32) (x17 : Nat → Int32), k ≤ cl → cl < k + k13 → (LYN x17 i k) → (stay i x4 x14) → (stay i x5 x15) → (stay i x6 x16) → (stay i x8 x17) → ∀ (H : Heap) (locs : List Loc) (ls : Array Slot), PP G (mM G y b (upd (upd f 20 (nI (rw))) 21 (nI (cl))) (up2 (up2 (up2 (up2 (up2 r 15 x14) 16 x15) 17 x16) 18 (upd x7 (i) ((-2)))) 19 x17)) H → va_S A s.heap H locs → lv_has ls 10 [(5, .int (nI k)), (4, .int 0), (3, .int r10), (2, .int (nI i)), (0, .ref y), (1, .int (nI t))] → W p l e ({ frames := 3, cells := 0, slots := 0, locals := 72 }) s m ([.ref y, .int (nI t)] : List Value).toArray below meth c H locs 0 0 (MQ below (QwV G (fun w => ∃ (n_f_20 : Int32) (n_f_21 : Int32) (n_r_15 : Nat → Int32) (n_r_16 : Nat → Int32) (n_r_17 : Nat → Int32) (n_r_18 : Nat → Int32) (n_r_19 : Nat → Int32), w = mM G y b (upd (upd f 20 n_f_20) 21 n_f_21) (up2 (up2 (up2 (up2 (up2 r 15 n_r_15) 16 n_r_16) 17 n_r_17) 18 n_r_18) 19 n_r_19) ∧ (n_f_20 = nI rw) ∧ (n_f_21 = nI cl) ∧ (LYR t cl bk rw (r 3) (r 4) (r 5) (r 6) (r 7) (r 8) (r 9) (r 10) (r 11) (r 13) (r 14) n_r_15 n_r_16 n_r_17 n_r_18 n_r_19)) A) ([.ref y, .int (nI t)] : List Value).toArray s 0 0 A) (F0 m 77 ls []) := by
              intro k13
              induction k13 with
              | zero => intro k x14 x15 x16 x17 h1 h2; exact absurd h1 (by omega)
              | succ k13 ih77k13 =>
                intro k x14 x15 x16 x17 hi_k hk_k hY s15 s16 s17 s19 H locs ls hP hS hl
                refine lv_iload hx hb dX7_lay_77 (lv_at hl 0 rfl) ?_
                refine lv_aload_n hx hb dX7_lay_79 rfl (lv_at hl 4 rfl) ?_
                refine va_get (D := G.1) (ci := 7) (v := .int (nI (cl))) (C := RX7) (T := TX7) (N := 43) hx hb hts inX7 hown hK.1 hP 0 rfl rfl 21 (by decide) (hts _ mf_X7_192) (fun _ h9 => h9) rfl dX7_lay_80 ?_
                refine lv_icmp_ge (tgt := 253) hx hb dX7_lay_83 (by decide) (fun c18 => ?_) (fun c18 => ?_)
                · have b83 := qge_t (a := k) (b := (cl)) (by omega) (by omega) c18
                  obtain ⟨v19, ev19⟩ : ∃ y9 : Int32, y9 = (nI i) + Int32.ofInt (1) := ⟨_, rfl⟩
                  refine lv_iinc (v := v19) (lv' := [(2, .int v19), (5, .int (nI k)), (4, .int 0), (3, .int r10), (0, .ref y), (1, .int (nI t))]) hx hb dX7_lay_253 hl (k := 3) rfl ev19.symm (by decide) rfl (fun ls hl => ?_)
                  obtain rfl : v19 = nI (i + 1) := nI_plus (i := i) (j := 1) ev19 rfl (by decide)
                  refine lv_goto (tgt := 22) hx hb dX7_lay_256 (by decide) ?_
                  exact ih22k3 (i + 1) x14 x15 x16 (upd x7 (i) ((-2))) x17 (by omega) (by omega) (LYR_s hcl hLY s15 s16 s17 s19 (Or.inr ⟨hsn, rfl, by rw [show cl = k by omega]; exact hY⟩)) _ _ _ hP hS (lv_sub hl [0, 4, 5] rfl)
                · have b83 := qge_f (a := k) (b := (cl)) (by omega) (by omega) c18
                  refine lv_bipush (v := 12) hx hb dX7_lay_86 (by decide) ?_
                  refine lv_iload_n hx hb dX7_lay_88 rfl (lv_at hl 3 rfl) ?_
                  refine lv_imul hx hb dX7_lay_89 ?_
                  refine lv_topi (fun v20 ev20 => ?_)
                  obtain rfl : v20 = nI (12 * i) := nI_times ev20 rfl rfl
                  refine lv_iload hx hb dX7_lay_90 (lv_at hl 0 rfl) ?_
                  refine lv_iadd hx hb dX7_lay_92 ?_
                  refine lv_topi (fun v21 ev21 => ?_)
                  obtain rfl : v21 = nI ((12 * i) + k) := nI_plus ev21 rfl rfl
                  refine lv_istore (lv' := [(6, .int (nI ((12 * i) + k))), (5, .int (nI k)), (4, .int 0), (3, .int r10), (2, .int (nI i)), (0, .ref y), (1, .int (nI t))]) hx hb dX7_lay_93 hl (by decide) rfl (fun ls hl => ?_)
                  refine lv_iload_n hx hb dX7_lay_95 rfl (lv_at hl 6 rfl) ?_
                  refine lv_iload_n hx hb dX7_lay_96 rfl (lv_at hl 4 rfl) ?_
                  refine lv_iload hx hb dX7_lay_97 (lv_at hl 1 rfl) ?_
                  refine rdS (rest := []) ⟨hx, hb, hml, hown, hts⟩ (m_X7_at l G y b (upd (upd f 20 (nI (rw))) 21 (nI (cl))) (up2 (up2 (up2 (up2 (up2 r 15 x14) 16 x15) 17 x16) 18 (upd x7 (i) ((-2)))) 19 x17) t i k  ) mi_yX7_at mst_yX7_at ml_X7_147 ⟨rfl, rfl, Nat.le_of_ble_eq_true rfl, Nat.le_of_ble_eq_true rfl⟩ hK (hP) rfl hl.1 rfl (Nat.le_of_ble_eq_true rfl) dX7_lay_99 ⟨Nat.zero_le _, Nat.zero_le _⟩ hS hA hP (fun r22 H locs hr22 hP hS => ?_)
                  obtain rfl := hr22
                  refine lv_istore (lv' := [(7, .int (nI (144 * t + 12 * i + k))), (6, .int (nI ((12 * i) + k))), (5, .int (nI k)), (4, .int 0), (3, .int r10), (2, .int (nI i)), (0, .ref y), (1, .int (nI t))]) hx hb dX7_lay_102 hl (by decide) rfl (fun ls hl => ?_)
                  refine lv_aload_n hx hb dX7_lay_104 rfl (lv_at hl 6 rfl) ?_
                  refine va_get (D := G.1) (ci := 7) (v := .ref (b 15)) (C := RX7) (T := TX7) (N := 43) hx hb hts inX7 hown hK.1 hP 0 rfl rfl 15 (by decide) (hts _ mf_X7_53) (fun _ h9 => h9) rfl dX7_lay_105 ?_
                  refine lv_iload hx hb dX7_lay_108 (lv_at hl 1 rfl) ?_
                  refine lv_aload_n hx hb dX7_lay_110 rfl (lv_at hl 6 rfl) ?_
                  refine va_get (D := G.1) (ci := 7) (v := .ref (b 6)) (C := RX7) (T := TX7) (N := 43) hx hb hts inX7 hown hK.1 hP 0 rfl rfl 6 (by decide) (hts _ mf_X7_26) (fun _ h9 => h9) rfl dX7_lay_111 ?_
                  refine lv_iload hx hb dX7_lay_114 (lv_at hl 0 rfl) ?_
                  refine xiald (f := (r 6)) hx hb hK hP 6 ((144 * t + 12 * i + k)) (rfl) (by omega) (by decide) rfl dX7_lay_116 ?_
                  refine lv_topi (fun v23 ev23 => ?_)
                  obtain rfl : v23 = (r 6 (144 * t + 12 * i + k)) := ev23.trans (rfl)
                  refine xiast (f := x14) (x := (r 6 (144 * t + 12 * i + k))) hx hb hK hP (hDD _ _) hS 15 (((12 * i) + k)) (rfl) (by omega) (by decide) rfl dX7_lay_117 (fun H locs hP _ hS => ?_)
                  have hP : PP G (mM G y b (upd (upd f 20 (nI (rw))) 21 (nI (cl))) (up2 (up2 (up2 (up2 (up2 r 15 (upd x14 (((12 * i) + k)) ((r 6 (144 * t + 12 * i + k))))) 16 x15) 17 x16) 18 (upd x7 (i) ((-2)))) 19 x17)) H := hP
                  refine lv_aload_n hx hb dX7_lay_118 rfl (lv_at hl 6 rfl) ?_
                  refine va_get (D := G.1) (ci := 7) (v := .ref (b 19)) (C := RX7) (T := TX7) (N := 43) hx hb hts inX7 hown hK.1 hP 0 rfl rfl 19 (by decide) (hts _ mf_X7_65) (fun _ h9 => h9) rfl dX7_lay_119 ?_
                  refine lv_iload hx hb dX7_lay_122 (lv_at hl 1 rfl) ?_
                  refine lv_iload_n hx hb dX7_lay_124 rfl (lv_at hl 4 rfl) ?_
                  refine lv_if_eq (tgt := 142) hx hb dX7_lay_125 (by decide) (fun c24 => ?_) (fun c24 => ?_)
                  · refine lv_iconst (v := 0) hx hb dX7_lay_142 (by decide) ?_
                    refine xzast (f := x17) (x := 0) hx hb hK hP (hDD _ _) hS 19 (((12 * i) + k)) (rfl) (by omega) (by decide) (Or.inl rfl) rfl dX7_lay_143 (fun H locs hP _ hS => ?_)
                    have hP : PP G (mM G y b (upd (upd f 20 (nI (rw))) 21 (nI (cl))) (up2 (up2 (up2 (up2 (up2 r 15 (upd x14 (((12 * i) + k)) ((r 6 (144 * t + 12 * i + k))))) 16 x15) 17 x16) 18 (upd x7 (i) ((-2)))) 19 (upd x17 (((12 * i) + k)) (0)))) H := hP
                    refine lv_aload_n hx hb dX7_lay_144 rfl (lv_at hl 6 rfl) ?_
                    refine va_get (D := G.1) (ci := 7) (v := .ref (b 16)) (C := RX7) (T := TX7) (N := 43) hx hb hts inX7 hown hK.1 hP 0 rfl rfl 16 (by decide) (hts _ mf_X7_56) (fun _ h9 => h9) rfl dX7_lay_145 ?_
                    refine lv_iload hx hb dX7_lay_148 (lv_at hl 1 rfl) ?_
                    refine lv_iconst (v := 0) hx hb dX7_lay_150 (by decide) ?_
                    refine xiast (f := x15) (x := 0) hx hb hK hP (hDD _ _) hS 16 (((12 * i) + k)) (rfl) (by omega) (by decide) rfl dX7_lay_151 (fun H locs hP _ hS => ?_)
                    have hP : PP G (mM G y b (upd (upd f 20 (nI (rw))) 21 (nI (cl))) (up2 (up2 (up2 (up2 (up2 r 15 (upd x14 (((12 * i) + k)) ((r 6 (144 * t + 12 * i + k))))) 16 (upd x15 (((12 * i) + k)) (0))) 17 x16) 18 (upd x7 (i) ((-2)))) 19 (upd x17 (((12 * i) + k)) (0)))) H := hP
                    refine lv_aload_n hx hb dX7_lay_152 rfl (lv_at hl 6 rfl) ?_
                    refine va_get (D := G.1) (ci := 7) (v := .ref (b 17)) (C := RX7) (T := TX7) (N := 43) hx hb hts inX7 hown hK.1 hP 0 rfl rfl 17 (by decide) (hts _ mf_X7_59) (fun _ h9 => h9) rfl dX7_lay_153 ?_
                    refine lv_iload hx hb dX7_lay_156 (lv_at hl 1 rfl) ?_
                    refine lv_ldc hx hb hown (hts _ mk_X7_195) dX7_lay_158 ?_
                    refine xiast (f := x16) (x := 1000000000) hx hb hK hP (hDD _ _) hS 17 (((12 * i) + k)) (rfl) (by omega) (by decide) rfl dX7_lay_160 (fun H locs hP _ hS => ?_)
                    have hP : PP G (mM G y b (upd (upd f 20 (nI (rw))) 21 (nI (cl))) (up2 (up2 (up2 (up2 (up2 r 15 (upd x14 (((12 * i) + k)) ((r 6 (144 * t + 12 * i + k))))) 16 (upd x15 (((12 * i) + k)) (0))) 17 (upd x16 (((12 * i) + k)) (1000000000))) 18 (upd x7 (i) ((-2)))) 19 (upd x17 (((12 * i) + k)) (0)))) H := hP
                    refine lv_aload_n hx hb dX7_lay_161 rfl (lv_at hl 6 rfl) ?_
                    refine va_get (D := G.1) (ci := 7) (v := .ref (b 5)) (C := RX7) (T := TX7) (N := 43) hx hb hts inX7 hown hK.1 hP 0 rfl rfl 5 (by decide) (hts _ mf_X7_23) (fun _ h9 => h9) rfl dX7_lay_162 ?_
                    refine lv_iload hx hb dX7_lay_165 (lv_at hl 0 rfl) ?_
                    refine xiald (f := (r 5)) hx hb hK hP 5 ((144 * t + 12 * i + k)) (rfl) (by omega) (by decide) rfl dX7_lay_167 ?_
                    refine lv_topi (fun v25 ev25 => ?_)
                    obtain rfl : v25 = (r 5 (144 * t + 12 * i + k)) := ev25.trans (rfl)
                    refine lv_iconst (v := 3) hx hb dX7_lay_168 (by decide) ?_
                    refine lv_icmp_eq (tgt := 175) hx hb dX7_lay_169 (by decide) (fun c26 => ?_) (fun c26 => ?_)
                    · refine lv_iload_n hx hb dX7_lay_175 rfl (lv_at hl 4 rfl) ?_
                      refine lv_if_eq (tgt := 191) hx hb dX7_lay_176 (by decide) (fun c27 => ?_) (fun c27 => ?_)
                      · refine lv_lconst (v := 0) hx hb dX7_lay_191 (by decide) ?_
                        refine lv_lstore (lv' := [(8, .long 0), (7, .int (nI (144 * t + 12 * i + k))), (6, .int (nI ((12 * i) + k))), (5, .int (nI k)), (4, .int 0), (3, .int r10), (2, .int (nI i)), (0, .ref y), (1, .int (nI t))]) hx hb dX7_lay_192 hl (by decide) rfl (fun ls hl => ?_)
                        refine lv_aload_n hx hb dX7_lay_194 rfl (lv_at hl 7 rfl) ?_
                        refine va_get (D := G.1) (ci := 7) (v := .ref (b 16)) (C := RX7) (T := TX7) (N := 43) hx hb hts inX7 hown hK.1 hP 0 rfl rfl 16 (by decide) (hts _ mf_X7_56) (fun _ h9 => h9) rfl dX7_lay_195 ?_
                        refine lv_iload hx hb dX7_lay_198 (lv_at hl 2 rfl) ?_
                        refine lv_lload hx hb dX7_lay_200 (lv_at hl 0 rfl) ?_
                        refine lv_iload hx hb dX7_lay_202 (lv_at hl 4 rfl) ?_
                        refine lv_i2l hx hb dX7_lay_204 rfl ?_
                        refine lv_topl (fun v28 ev28 => ?_)
                        refine lv_lmul hx hb dX7_lay_205 ?_
                        refine lv_topl (fun v29 ev29 => ?_)
                        refine lv_ldc2 hx hb hown (hts _ mkl_X7_196) dX7_lay_206 ?_
                        refine lv_ladd hx hb dX7_lay_209 ?_
                        refine lv_topl (fun v30 ev30 => ?_)
                        refine lv_ldc2 hx hb hown (hts _ mkl_X7_184) dX7_lay_210 ?_
                        refine lv_ldiv hx hb dX7_lay_213 (by decide) ?_
                        refine lv_topl (fun v31 ev31 => ?_)
                        refine lv_l2i hx hb dX7_lay_214 rfl ?_
                        refine lv_topi (fun v32 ev32 => ?_)
                        refine xiast (f := (upd x15 (((12 * i) + k)) (0))) (x := v32) hx hb hK hP (hDD _ _) hS 16 (((12 * i) + k)) (rfl) (by omega) (by decide) rfl dX7_lay_215 (fun H locs hP _ hS => ?_)
                        have hP : PP G (mM G y b (upd (upd f 20 (nI (rw))) 21 (nI (cl))) (up2 (up2 (up2 (up2 (up2 r 15 (upd x14 (((12 * i) + k)) ((r 6 (144 * t + 12 * i + k))))) 16 (upd (upd x15 (((12 * i) + k)) (0)) (((12 * i) + k)) (v32))) 17 (upd x16 (((12 * i) + k)) (1000000000))) 18 (upd x7 (i) ((-2)))) 19 (upd x17 (((12 * i) + k)) (0)))) H := hP
                        refine lv_aload_n hx hb dX7_lay_216 rfl (lv_at hl 7 rfl) ?_
                        refine va_get (D := G.1) (ci := 7) (v := .ref (b 17)) (C := RX7) (T := TX7) (N := 43) hx hb hts inX7 hown hK.1 hP 0 rfl rfl 17 (by decide) (hts _ mf_X7_59) (fun _ h9 => h9) rfl dX7_lay_217 ?_
                        refine lv_iload hx hb dX7_lay_220 (lv_at hl 2 rfl) ?_
                        refine lv_iload hx hb dX7_lay_222 (lv_at hl 4 rfl) ?_
                        refine lv_if_ne (tgt := 231) hx hb dX7_lay_224 (by decide) (fun c33 => absurd rfl c33) (fun c33 => ?_)
                        refine lv_iconst (v := 0) hx hb dX7_lay_227 (by decide) ?_
                        refine lv_goto (tgt := 246) hx hb dX7_lay_228 (by decide) ?_
                        refine xiast (f := (upd x16 (((12 * i) + k)) (1000000000))) (x := 0) hx hb hK hP (hDD _ _) hS 17 (((12 * i) + k)) (rfl) (by omega) (by decide) rfl dX7_lay_246 (fun H locs hP _ hS => ?_)
                        have hP : PP G (mM G y b (upd (upd f 20 (nI (rw))) 21 (nI (cl))) (up2 (up2 (up2 (up2 (up2 r 15 (upd x14 (((12 * i) + k)) ((r 6 (144 * t + 12 * i + k))))) 16 (upd (upd x15 (((12 * i) + k)) (0)) (((12 * i) + k)) (v32))) 17 (upd (upd x16 (((12 * i) + k)) (1000000000)) (((12 * i) + k)) (0))) 18 (upd x7 (i) ((-2)))) 19 (upd x17 (((12 * i) + k)) (0)))) H := hP
                        obtain ⟨v34, ev34⟩ : ∃ y9 : Int32, y9 = (nI k) + Int32.ofInt (1) := ⟨_, rfl⟩
                        refine lv_iinc (v := v34) (lv' := [(5, .int v34), (8, .long 0), (7, .int (nI (144 * t + 12 * i + k))), (6, .int (nI ((12 * i) + k))), (4, .int 0), (3, .int r10), (2, .int (nI i)), (0, .ref y), (1, .int (nI t))]) hx hb dX7_lay_247 hl (k := 3) rfl ev34.symm (by decide) rfl (fun ls hl => ?_)
                        obtain rfl : v34 = nI (k + 1) := nI_plus (i := k) (j := 1) ev34 rfl (by decide)
                        refine lv_goto (tgt := 77) hx hb dX7_lay_250 (by decide) ?_
                        exact ih77k13 (k + 1) (upd x14 (((12 * i) + k)) ((r 6 (144 * t + 12 * i + k)))) (upd (upd x15 (((12 * i) + k)) (0)) (((12 * i) + k)) (v32)) (upd (upd x16 (((12 * i) + k)) (1000000000)) (((12 * i) + k)) (0)) (upd x17 (((12 * i) + k)) (0)) (by omega) (by omega) (LYN_s hY) (stay_u (s15) (by omega)) (stay_u (stay_u (s16) (by omega)) (by omega)) (stay_u (stay_u (s17) (by omega)) (by omega)) (stay_u (s19) (by omega)) _ _ _ hP hS (lv_sub hl [0, 4, 5, 6, 7, 8] rfl)
                      · exact absurd c11 c27
                    · refine lv_goto (tgt := 247) hx hb dX7_lay_172 (by decide) ?_
                      obtain ⟨v35, ev35⟩ : ∃ y9 : Int32, y9 = (nI k) + Int32.ofInt (1) := ⟨_, rfl⟩
                      refine lv_iinc (v := v35) (lv' := [(5, .int v35), (7, .int (nI (144 * t + 12 * i + k))), (6, .int (nI ((12 * i) + k))), (4, .int 0), (3, .int r10), (2, .int (nI i)), (0, .ref y), (1, .int (nI t))]) hx hb dX7_lay_247 hl (k := 2) rfl ev35.symm (by decide) rfl (fun ls hl => ?_)
                      obtain rfl : v35 = nI (k + 1) := nI_plus (i := k) (j := 1) ev35 rfl (by decide)
                      refine lv_goto (tgt := 77) hx hb dX7_lay_250 (by decide) ?_
                      exact ih77k13 (k + 1) (upd x14 (((12 * i) + k)) ((r 6 (144 * t + 12 * i + k)))) (upd x15 (((12 * i) + k)) (0)) (upd x16 (((12 * i) + k)) (1000000000)) (upd x17 (((12 * i) + k)) (0)) (by omega) (by omega) (LYN_s hY) (stay_u (s15) (by omega)) (stay_u (s16) (by omega)) (stay_u (s17) (by omega)) (stay_u (s19) (by omega)) _ _ _ hP hS (lv_sub hl [0, 3, 4, 5, 6, 7] rfl)
                  · exact absurd c11 c24
            exact loop77 (cl + 1) 0 x4 x5 x6 x8 (by omega) (by omega) (fun y h8 => absurd h8 (by omega)) (stay_0) (stay_0) (stay_0) (stay_0) _ _ _ hP hS (lv_sub hl [0, 1, 2, 3, 4, 5] rfl)
          · exact absurd c11 c12
        · have hsn := bT hr10 c11
          refine lv_aload_n hx hb dX7_lay_46 rfl (lv_at hl 2 rfl) ?_
          refine lv_iload_n hx hb dX7_lay_47 rfl (lv_at hl 3 rfl) ?_
          refine lv_iload_n hx hb dX7_lay_48 rfl (lv_at hl 1 rfl) ?_
          refine rdV (rest := [.int (nI i), .ref (b 18)]) (q0 := 0) ⟨hx, hb, hml, hown, hts⟩ (m_X7_classOf l G y b (upd (upd f 20 (nI (rw))) 21 (nI (cl))) (up2 (up2 (up2 (up2 (up2 r 15 x4) 16 x5) 17 x6) 18 x7) 19 x8) t (nI i) rw cl bk (by omega) (by omega) (by omega) (by omega) h2 h3 h12) mi_yX7_classOf mv_yX7_classOf ml_X7_168 ⟨rfl, rfl, Nat.le_of_ble_eq_true rfl, Nat.le_of_ble_eq_true rfl⟩ hK (hP) rfl rfl rfl hl.1 rfl (Nat.le_of_ble_eq_true rfl) dX7_lay_49 ⟨Nat.zero_le _, Nat.zero_le _⟩ hS hA hP (fun r36 H locs hr36 hP hS => ?_)
          obtain rfl := hr36
          refine lv_topi (fun v37 ev37 => ?_)
          obtain rfl : v37 = (clM (r 13) (r 14) t (nI i) bk).1 := ev37.trans (by show (clM (r 13) (r 14) t (nI i) (r 12 t).toNatClampNeg).1 = _; rw [h12, nI_clamp (by omega)])
          refine lv_goto (tgt := 57) hx hb dX7_lay_52 (by decide) ?_
          refine xiast (f := x7) (x := (clM (r 13) (r 14) t (nI i) bk).1) hx hb hK hP (hDD _ _) hS 18 (i) (rfl) (by omega) (by decide) rfl dX7_lay_57 (fun H locs hP _ hS => ?_)
          have hP : PP G (mM G y b (upd (upd f 20 (nI (rw))) 21 (nI (cl))) (up2 (up2 (up2 (up2 (up2 r 15 x4) 16 x5) 17 x6) 18 (upd x7 (i) ((clM (r 13) (r 14) t (nI i) bk).1))) 19 x8)) H := hP
          refine lv_iload_n hx hb dX7_lay_58 rfl (lv_at hl 0 rfl) ?_
          refine lv_if_eq (tgt := 71) hx hb dX7_lay_59 (by decide) (fun c38 => ?_) (fun c38 => ?_)
          · exact absurd c38 c11
          · refine lv_aload_n hx hb dX7_lay_62 rfl (lv_at hl 2 rfl) ?_
            refine lv_iload_n hx hb dX7_lay_63 rfl (lv_at hl 3 rfl) ?_
            refine lv_iload_n hx hb dX7_lay_64 rfl (lv_at hl 1 rfl) ?_
            refine rdV (rest := []) (q0 := 0) ⟨hx, hb, hml, hown, hts⟩ (m_X7_sumOf l G y b (upd (upd f 20 (nI (rw))) 21 (nI (cl))) (up2 (up2 (up2 (up2 (up2 r 15 x4) 16 x5) 17 x6) 18 (upd x7 (i) ((clM (r 13) (r 14) t (nI i) bk).1))) 19 x8) t i rw cl bk (by omega) (by omega) (by omega) (by omega) h2 h3 h12 (by omega)) mi_yX7_sumOf mv_yX7_sumOf ml_X7_164 ⟨rfl, rfl, Nat.le_of_ble_eq_true rfl, Nat.le_of_ble_eq_true rfl⟩ hK (hP) rfl rfl rfl hl.1 rfl (Nat.le_of_ble_eq_true rfl) dX7_lay_65 ⟨Nat.zero_le _, Nat.zero_le _⟩ hS hA hP (fun r39 H locs hr39 hP hS => ?_)
            obtain rfl := hr39
            refine lv_topi (fun v40 ev40 => ?_)
            obtain rfl : v40 = (smM (r 6) t i cl) := ev40.trans (by show smM (r 6) t i (r 3 t).toNatClampNeg = _; rw [h3, nI_clamp (by omega)])
            refine lv_goto (tgt := 72) hx hb dX7_lay_68 (by decide) ?_
            refine lv_istore (lv' := [(4, .int (smM (r 6) t i cl)), (3, .int r10), (2, .int (nI i)), (0, .ref y), (1, .int (nI t))]) hx hb dX7_lay_72 hl (by decide) rfl (fun ls hl => ?_)
            refine lv_iconst (v := 0) hx hb dX7_lay_74 (by decide) ?_
            refine lv_istore (lv' := [(5, .int 0), (4, .int (smM (r 6) t i cl)), (3, .int r10), (2, .int (nI i)), (0, .ref y), (1, .int (nI t))]) hx hb dX7_lay_75 hl (by decide) rfl (fun ls hl => ?_)
            have loop77 : ∀ (k41 k : Nat) (x42 : Nat → Int32) (x43 : Nat → Int32) (x44 : Nat → Int32) (x45 : Nat → Int32), k ≤ cl → cl < k + k41 → (LYY cl t (r 4) (r 5) (r 6) (r 7) (r 8) (r 9) (r 10) x42 x43 x44 x45 (smM (r 6) t i cl) i k) → (stay i x4 x42) → (stay i x5 x43) → (stay i x6 x44) → (stay i x8 x45) → ∀ (H : Heap) (locs : List Loc) (ls : Array Slot), PP G (mM G y b (upd (upd f 20 (nI (rw))) 21 (nI (cl))) (up2 (up2 (up2 (up2 (up2 r 15 x42) 16 x43) 17 x44) 18 (upd x7 (i) ((clM (r 13) (r 14) t (nI i) bk).1))) 19 x45)) H → va_S A s.heap H locs → lv_has ls 10 [(5, .int (nI k)), (4, .int (smM (r 6) t i cl)), (3, .int r10), (2, .int (nI i)), (0, .ref y), (1, .int (nI t))] → W p l e ({ frames := 3, cells := 0, slots := 0, locals := 72 }) s m ([.ref y, .int (nI t)] : List Value).toArray below meth c H locs 0 0 (MQ below (QwV G (fun w => ∃ (n_f_20 : Int32) (n_f_21 : Int32) (n_r_15 : Nat → Int32) (n_r_16 : Nat → Int32) (n_r_17 : Nat → Int32) (n_r_18 : Nat → Int32) (n_r_19 : Nat → Int32), w = mM G y b (upd (upd f 20 n_f_20) 21 n_f_21) (up2 (up2 (up2 (up2 (up2 r 15 n_r_15) 16 n_r_16) 17 n_r_17) 18 n_r_18) 19 n_r_19) ∧ (n_f_20 = nI rw) ∧ (n_f_21 = nI cl) ∧ (LYR t cl bk rw (r 3) (r 4) (r 5) (r 6) (r 7) (r 8) (r 9) (r 10) (r 11) (r 13) (r 14) n_r_15 n_r_16 n_r_17 n_r_18 n_r_19)) A) ([.ref y, .int (nI t)] : List Value).toArray s 0 0 A) (F0 m 77 ls []) := by
              intro k41
              induction k41 with
              | zero => intro k x42 x43 x44 x45 h1 h2; exact absurd h1 (by omega)
              | succ k41 ih77k41 =>
                intro k x42 x43 x44 x45 hi_k hk_k hY s15 s16 s17 s19 H locs ls hP hS hl
                refine lv_iload hx hb dX7_lay_77 (lv_at hl 0 rfl) ?_
                refine lv_aload_n hx hb dX7_lay_79 rfl (lv_at hl 4 rfl) ?_
                refine va_get (D := G.1) (ci := 7) (v := .int (nI (cl))) (C := RX7) (T := TX7) (N := 43) hx hb hts inX7 hown hK.1 hP 0 rfl rfl 21 (by decide) (hts _ mf_X7_192) (fun _ h9 => h9) rfl dX7_lay_80 ?_
                refine lv_icmp_ge (tgt := 253) hx hb dX7_lay_83 (by decide) (fun c46 => ?_) (fun c46 => ?_)
                · have b83 := qge_t (a := k) (b := (cl)) (by omega) (by omega) c46
                  obtain ⟨v47, ev47⟩ : ∃ y9 : Int32, y9 = (nI i) + Int32.ofInt (1) := ⟨_, rfl⟩
                  refine lv_iinc (v := v47) (lv' := [(2, .int v47), (5, .int (nI k)), (4, .int (smM (r 6) t i cl)), (3, .int r10), (0, .ref y), (1, .int (nI t))]) hx hb dX7_lay_253 hl (k := 3) rfl ev47.symm (by decide) rfl (fun ls hl => ?_)
                  obtain rfl : v47 = nI (i + 1) := nI_plus (i := i) (j := 1) ev47 rfl (by decide)
                  refine lv_goto (tgt := 22) hx hb dX7_lay_256 (by decide) ?_
                  exact ih22k3 (i + 1) x42 x43 x44 (upd x7 (i) ((clM (r 13) (r 14) t (nI i) bk).1)) x45 (by omega) (by omega) (LYR_s hcl hLY s15 s16 s17 s19 (Or.inl ⟨hsn, rfl, by rw [show cl = k by omega] at hY ⊢; exact hY⟩)) _ _ _ hP hS (lv_sub hl [0, 4, 5] rfl)
                · have b83 := qge_f (a := k) (b := (cl)) (by omega) (by omega) c46
                  refine lv_bipush (v := 12) hx hb dX7_lay_86 (by decide) ?_
                  refine lv_iload_n hx hb dX7_lay_88 rfl (lv_at hl 3 rfl) ?_
                  refine lv_imul hx hb dX7_lay_89 ?_
                  refine lv_topi (fun v48 ev48 => ?_)
                  obtain rfl : v48 = nI (12 * i) := nI_times ev48 rfl rfl
                  refine lv_iload hx hb dX7_lay_90 (lv_at hl 0 rfl) ?_
                  refine lv_iadd hx hb dX7_lay_92 ?_
                  refine lv_topi (fun v49 ev49 => ?_)
                  obtain rfl : v49 = nI ((12 * i) + k) := nI_plus ev49 rfl rfl
                  refine lv_istore (lv' := [(6, .int (nI ((12 * i) + k))), (5, .int (nI k)), (4, .int (smM (r 6) t i cl)), (3, .int r10), (2, .int (nI i)), (0, .ref y), (1, .int (nI t))]) hx hb dX7_lay_93 hl (by decide) rfl (fun ls hl => ?_)
                  refine lv_iload_n hx hb dX7_lay_95 rfl (lv_at hl 6 rfl) ?_
                  refine lv_iload_n hx hb dX7_lay_96 rfl (lv_at hl 4 rfl) ?_
                  refine lv_iload hx hb dX7_lay_97 (lv_at hl 1 rfl) ?_
                  refine rdS (rest := []) ⟨hx, hb, hml, hown, hts⟩ (m_X7_at l G y b (upd (upd f 20 (nI (rw))) 21 (nI (cl))) (up2 (up2 (up2 (up2 (up2 r 15 x42) 16 x43) 17 x44) 18 (upd x7 (i) ((clM (r 13) (r 14) t (nI i) bk).1))) 19 x45) t i k  ) mi_yX7_at mst_yX7_at ml_X7_147 ⟨rfl, rfl, Nat.le_of_ble_eq_true rfl, Nat.le_of_ble_eq_true rfl⟩ hK (hP) rfl hl.1 rfl (Nat.le_of_ble_eq_true rfl) dX7_lay_99 ⟨Nat.zero_le _, Nat.zero_le _⟩ hS hA hP (fun r50 H locs hr50 hP hS => ?_)
                  obtain rfl := hr50
                  refine lv_istore (lv' := [(7, .int (nI (144 * t + 12 * i + k))), (6, .int (nI ((12 * i) + k))), (5, .int (nI k)), (4, .int (smM (r 6) t i cl)), (3, .int r10), (2, .int (nI i)), (0, .ref y), (1, .int (nI t))]) hx hb dX7_lay_102 hl (by decide) rfl (fun ls hl => ?_)
                  refine lv_aload_n hx hb dX7_lay_104 rfl (lv_at hl 6 rfl) ?_
                  refine va_get (D := G.1) (ci := 7) (v := .ref (b 15)) (C := RX7) (T := TX7) (N := 43) hx hb hts inX7 hown hK.1 hP 0 rfl rfl 15 (by decide) (hts _ mf_X7_53) (fun _ h9 => h9) rfl dX7_lay_105 ?_
                  refine lv_iload hx hb dX7_lay_108 (lv_at hl 1 rfl) ?_
                  refine lv_aload_n hx hb dX7_lay_110 rfl (lv_at hl 6 rfl) ?_
                  refine va_get (D := G.1) (ci := 7) (v := .ref (b 6)) (C := RX7) (T := TX7) (N := 43) hx hb hts inX7 hown hK.1 hP 0 rfl rfl 6 (by decide) (hts _ mf_X7_26) (fun _ h9 => h9) rfl dX7_lay_111 ?_
                  refine lv_iload hx hb dX7_lay_114 (lv_at hl 0 rfl) ?_
                  refine xiald (f := (r 6)) hx hb hK hP 6 ((144 * t + 12 * i + k)) (rfl) (by omega) (by decide) rfl dX7_lay_116 ?_
                  refine lv_topi (fun v51 ev51 => ?_)
                  obtain rfl : v51 = (r 6 (144 * t + 12 * i + k)) := ev51.trans (rfl)
                  refine xiast (f := x42) (x := (r 6 (144 * t + 12 * i + k))) hx hb hK hP (hDD _ _) hS 15 (((12 * i) + k)) (rfl) (by omega) (by decide) rfl dX7_lay_117 (fun H locs hP _ hS => ?_)
                  have hP : PP G (mM G y b (upd (upd f 20 (nI (rw))) 21 (nI (cl))) (up2 (up2 (up2 (up2 (up2 r 15 (upd x42 (((12 * i) + k)) ((r 6 (144 * t + 12 * i + k))))) 16 x43) 17 x44) 18 (upd x7 (i) ((clM (r 13) (r 14) t (nI i) bk).1))) 19 x45)) H := hP
                  refine lv_aload_n hx hb dX7_lay_118 rfl (lv_at hl 6 rfl) ?_
                  refine va_get (D := G.1) (ci := 7) (v := .ref (b 19)) (C := RX7) (T := TX7) (N := 43) hx hb hts inX7 hown hK.1 hP 0 rfl rfl 19 (by decide) (hts _ mf_X7_65) (fun _ h9 => h9) rfl dX7_lay_119 ?_
                  refine lv_iload hx hb dX7_lay_122 (lv_at hl 1 rfl) ?_
                  refine lv_iload_n hx hb dX7_lay_124 rfl (lv_at hl 4 rfl) ?_
                  refine lv_if_eq (tgt := 142) hx hb dX7_lay_125 (by decide) (fun c52 => ?_) (fun c52 => ?_)
                  · exact absurd c52 c11
                  · refine lv_aload_n hx hb dX7_lay_128 rfl (lv_at hl 6 rfl) ?_
                    refine lv_iload_n hx hb dX7_lay_129 rfl (lv_at hl 7 rfl) ?_
                    refine lv_iload hx hb dX7_lay_130 (lv_at hl 0 rfl) ?_
                    refine rdV (rest := [.int (nI ((12 * i) + k)), .ref (b 19)]) (q0 := 0) ⟨hx, hb, hml, hown, hts⟩ (n_isKept l G y b (upd (upd f 20 (nI (rw))) 21 (nI (cl))) (up2 (up2 (up2 (up2 (up2 r 15 (upd x42 (((12 * i) + k)) ((r 6 (144 * t + 12 * i + k))))) 16 x43) 17 x44) 18 (upd x7 (i) ((clM (r 13) (r 14) t (nI i) bk).1))) 19 x45) t (144 * t + 12 * i + k)  (by omega) (by omega) hG) mi_yX7_isKept mv_yX7_isKept ml_X7_181 ⟨rfl, rfl, Nat.le_of_ble_eq_true rfl, Nat.le_of_ble_eq_true rfl⟩ hK (hP) rfl rfl rfl hl.1 rfl (Nat.le_of_ble_eq_true rfl) dX7_lay_132 ⟨Nat.zero_le _, Nat.zero_le _⟩ hS hA hP (fun r53 H locs hr53 hP hS => ?_)
                    have hr53 : ((r53 = 1 ∧ (kpM (r 4) (r 5) (r 6) (r 7) (r 8) (r 9) (r 10) t (144 * t + 12 * i + k))) ∨ (r53 = 0 ∧ ¬ (kpM (r 4) (r 5) (r 6) (r 7) (r 8) (r 9) (r 10) t (144 * t + 12 * i + k)))) := hr53
                    refine lv_if_eq (tgt := 142) hx hb dX7_lay_135 (by decide) (fun c54 => ?_) (fun c54 => ?_)
                    · refine lv_iconst (v := 0) hx hb dX7_lay_142 (by decide) ?_
                      refine xzast (f := x45) (x := 0) hx hb hK hP (hDD _ _) hS 19 (((12 * i) + k)) (rfl) (by omega) (by decide) (Or.inl rfl) rfl dX7_lay_143 (fun H locs hP _ hS => ?_)
                      have hP : PP G (mM G y b (upd (upd f 20 (nI (rw))) 21 (nI (cl))) (up2 (up2 (up2 (up2 (up2 r 15 (upd x42 (((12 * i) + k)) ((r 6 (144 * t + 12 * i + k))))) 16 x43) 17 x44) 18 (upd x7 (i) ((clM (r 13) (r 14) t (nI i) bk).1))) 19 (upd x45 (((12 * i) + k)) (0)))) H := hP
                      refine lv_aload_n hx hb dX7_lay_144 rfl (lv_at hl 6 rfl) ?_
                      refine va_get (D := G.1) (ci := 7) (v := .ref (b 16)) (C := RX7) (T := TX7) (N := 43) hx hb hts inX7 hown hK.1 hP 0 rfl rfl 16 (by decide) (hts _ mf_X7_56) (fun _ h9 => h9) rfl dX7_lay_145 ?_
                      refine lv_iload hx hb dX7_lay_148 (lv_at hl 1 rfl) ?_
                      refine lv_iconst (v := 0) hx hb dX7_lay_150 (by decide) ?_
                      refine xiast (f := x43) (x := 0) hx hb hK hP (hDD _ _) hS 16 (((12 * i) + k)) (rfl) (by omega) (by decide) rfl dX7_lay_151 (fun H locs hP _ hS => ?_)
                      have hP : PP G (mM G y b (upd (upd f 20 (nI (rw))) 21 (nI (cl))) (up2 (up2 (up2 (up2 (up2 r 15 (upd x42 (((12 * i) + k)) ((r 6 (144 * t + 12 * i + k))))) 16 (upd x43 (((12 * i) + k)) (0))) 17 x44) 18 (upd x7 (i) ((clM (r 13) (r 14) t (nI i) bk).1))) 19 (upd x45 (((12 * i) + k)) (0)))) H := hP
                      refine lv_aload_n hx hb dX7_lay_152 rfl (lv_at hl 6 rfl) ?_
                      refine va_get (D := G.1) (ci := 7) (v := .ref (b 17)) (C := RX7) (T := TX7) (N := 43) hx hb hts inX7 hown hK.1 hP 0 rfl rfl 17 (by decide) (hts _ mf_X7_59) (fun _ h9 => h9) rfl dX7_lay_153 ?_
                      refine lv_iload hx hb dX7_lay_156 (lv_at hl 1 rfl) ?_
                      refine lv_ldc hx hb hown (hts _ mk_X7_195) dX7_lay_158 ?_
                      refine xiast (f := x44) (x := 1000000000) hx hb hK hP (hDD _ _) hS 17 (((12 * i) + k)) (rfl) (by omega) (by decide) rfl dX7_lay_160 (fun H locs hP _ hS => ?_)
                      have hP : PP G (mM G y b (upd (upd f 20 (nI (rw))) 21 (nI (cl))) (up2 (up2 (up2 (up2 (up2 r 15 (upd x42 (((12 * i) + k)) ((r 6 (144 * t + 12 * i + k))))) 16 (upd x43 (((12 * i) + k)) (0))) 17 (upd x44 (((12 * i) + k)) (1000000000))) 18 (upd x7 (i) ((clM (r 13) (r 14) t (nI i) bk).1))) 19 (upd x45 (((12 * i) + k)) (0)))) H := hP
                      refine lv_aload_n hx hb dX7_lay_161 rfl (lv_at hl 6 rfl) ?_
                      refine va_get (D := G.1) (ci := 7) (v := .ref (b 5)) (C := RX7) (T := TX7) (N := 43) hx hb hts inX7 hown hK.1 hP 0 rfl rfl 5 (by decide) (hts _ mf_X7_23) (fun _ h9 => h9) rfl dX7_lay_162 ?_
                      refine lv_iload hx hb dX7_lay_165 (lv_at hl 0 rfl) ?_
                      refine xiald (f := (r 5)) hx hb hK hP 5 ((144 * t + 12 * i + k)) (rfl) (by omega) (by decide) rfl dX7_lay_167 ?_
                      refine lv_topi (fun v55 ev55 => ?_)
                      obtain rfl : v55 = (r 5 (144 * t + 12 * i + k)) := ev55.trans (rfl)
                      refine lv_iconst (v := 3) hx hb dX7_lay_168 (by decide) ?_
                      refine lv_icmp_eq (tgt := 175) hx hb dX7_lay_169 (by decide) (fun c56 => ?_) (fun c56 => ?_)
                      · refine lv_iload_n hx hb dX7_lay_175 rfl (lv_at hl 4 rfl) ?_
                        refine lv_if_eq (tgt := 191) hx hb dX7_lay_176 (by decide) (fun c57 => ?_) (fun c57 => ?_)
                        · exact absurd c57 c11
                        · refine lv_aload_n hx hb dX7_lay_179 rfl (lv_at hl 6 rfl) ?_
                          refine lv_iload_n hx hb dX7_lay_180 rfl (lv_at hl 7 rfl) ?_
                          refine lv_iload_n hx hb dX7_lay_181 rfl (lv_at hl 5 rfl) ?_
                          refine lv_iload hx hb dX7_lay_182 (lv_at hl 2 rfl) ?_
                          refine rdV (rest := []) (q0 := 0) ⟨hx, hb, hml, hown, hts⟩ (m_X7_thousandthsOf l G y b (upd (upd f 20 (nI (rw))) 21 (nI (cl))) (up2 (up2 (up2 (up2 (up2 r 15 (upd x42 (((12 * i) + k)) ((r 6 (144 * t + 12 * i + k))))) 16 (upd x43 (((12 * i) + k)) (0))) 17 (upd x44 (((12 * i) + k)) (1000000000))) 18 (upd x7 (i) ((clM (r 13) (r 14) t (nI i) bk).1))) 19 (upd x45 (((12 * i) + k)) (0))) t i k rw cl bk (by omega) (by omega) (by omega) (by omega) h2 h3 h12 (by omega) (by omega)) mi_yX7_thousandthsOf mv_yX7_thousandthsOf ml_X7_186 ⟨rfl, rfl, Nat.le_of_ble_eq_true rfl, Nat.le_of_ble_eq_true rfl⟩ hK (hP) rfl rfl rfl hl.1 rfl (Nat.le_of_ble_eq_true rfl) dX7_lay_184 ⟨Nat.zero_le _, Nat.zero_le _⟩ hS hA hP (fun r58 H locs hr58 hP hS => ?_)
                          obtain rfl := hr58
                          refine lv_topi (fun v59 ev59 => ?_)
                          obtain rfl : v59 = thM (r 6 (144 * t + 12 * i + k)) (smM (r 6) t i cl) := ev59.trans (by show thM (r 6 (144 * t + 12 * i + k)) (smM (r 6) t i (r 3 t).toNatClampNeg) = _; rw [h3, nI_clamp (by omega)])
                          refine lv_i2l hx hb dX7_lay_187 rfl ?_
                          refine lv_topl (fun v60 ev60 => ?_)
                          refine lv_goto (tgt := 192) hx hb dX7_lay_188 (by decide) ?_
                          refine lv_lstore (lv' := [(8, .long v60), (7, .int (nI (144 * t + 12 * i + k))), (6, .int (nI ((12 * i) + k))), (5, .int (nI k)), (4, .int (smM (r 6) t i cl)), (3, .int r10), (2, .int (nI i)), (0, .ref y), (1, .int (nI t))]) hx hb dX7_lay_192 hl (by decide) rfl (fun ls hl => ?_)
                          refine lv_aload_n hx hb dX7_lay_194 rfl (lv_at hl 7 rfl) ?_
                          refine va_get (D := G.1) (ci := 7) (v := .ref (b 16)) (C := RX7) (T := TX7) (N := 43) hx hb hts inX7 hown hK.1 hP 0 rfl rfl 16 (by decide) (hts _ mf_X7_56) (fun _ h9 => h9) rfl dX7_lay_195 ?_
                          refine lv_iload hx hb dX7_lay_198 (lv_at hl 2 rfl) ?_
                          refine lv_lload hx hb dX7_lay_200 (lv_at hl 0 rfl) ?_
                          refine lv_iload hx hb dX7_lay_202 (lv_at hl 4 rfl) ?_
                          refine lv_i2l hx hb dX7_lay_204 rfl ?_
                          refine lv_topl (fun v61 ev61 => ?_)
                          refine lv_lmul hx hb dX7_lay_205 ?_
                          refine lv_topl (fun v62 ev62 => ?_)
                          refine lv_ldc2 hx hb hown (hts _ mkl_X7_196) dX7_lay_206 ?_
                          refine lv_ladd hx hb dX7_lay_209 ?_
                          refine lv_topl (fun v63 ev63 => ?_)
                          refine lv_ldc2 hx hb hown (hts _ mkl_X7_184) dX7_lay_210 ?_
                          refine lv_ldiv hx hb dX7_lay_213 (by decide) ?_
                          refine lv_topl (fun v64 ev64 => ?_)
                          refine lv_l2i hx hb dX7_lay_214 rfl ?_
                          refine lv_topi (fun v65 ev65 => ?_)
                          refine xiast (f := (upd x43 (((12 * i) + k)) (0))) (x := v65) hx hb hK hP (hDD _ _) hS 16 (((12 * i) + k)) (rfl) (by omega) (by decide) rfl dX7_lay_215 (fun H locs hP _ hS => ?_)
                          have hP : PP G (mM G y b (upd (upd f 20 (nI (rw))) 21 (nI (cl))) (up2 (up2 (up2 (up2 (up2 r 15 (upd x42 (((12 * i) + k)) ((r 6 (144 * t + 12 * i + k))))) 16 (upd (upd x43 (((12 * i) + k)) (0)) (((12 * i) + k)) (v65))) 17 (upd x44 (((12 * i) + k)) (1000000000))) 18 (upd x7 (i) ((clM (r 13) (r 14) t (nI i) bk).1))) 19 (upd x45 (((12 * i) + k)) (0)))) H := hP
                          refine lv_aload_n hx hb dX7_lay_216 rfl (lv_at hl 7 rfl) ?_
                          refine va_get (D := G.1) (ci := 7) (v := .ref (b 17)) (C := RX7) (T := TX7) (N := 43) hx hb hts inX7 hown hK.1 hP 0 rfl rfl 17 (by decide) (hts _ mf_X7_59) (fun _ h9 => h9) rfl dX7_lay_217 ?_
                          refine lv_iload hx hb dX7_lay_220 (lv_at hl 2 rfl) ?_
                          refine lv_iload hx hb dX7_lay_222 (lv_at hl 4 rfl) ?_
                          refine lv_if_ne (tgt := 231) hx hb dX7_lay_224 (by decide) (fun c66 => ?_) (fun c66 => ?_)
                          · refine lv_lload hx hb dX7_lay_231 (lv_at hl 0 rfl) ?_
                            refine lv_lconst (v := 1) hx hb dX7_lay_233 (by decide) ?_
                            refine lv_ladd hx hb dX7_lay_234 ?_
                            refine lv_topl (fun v67 ev67 => ?_)
                            refine lv_iload hx hb dX7_lay_235 (lv_at hl 4 rfl) ?_
                            refine lv_i2l hx hb dX7_lay_237 rfl ?_
                            refine lv_topl (fun v68 ev68 => ?_)
                            refine lv_lmul hx hb dX7_lay_238 ?_
                            refine lv_topl (fun v69 ev69 => ?_)
                            refine lv_lconst (v := 1) hx hb dX7_lay_239 (by decide) ?_
                            refine lv_lsub hx hb dX7_lay_240 ?_
                            refine lv_topl (fun v70 ev70 => ?_)
                            refine lv_ldc2 hx hb hown (hts _ mkl_X7_184) dX7_lay_241 ?_
                            refine lv_ldiv hx hb dX7_lay_244 (by decide) ?_
                            refine lv_topl (fun v71 ev71 => ?_)
                            refine lv_l2i hx hb dX7_lay_245 rfl ?_
                            refine lv_topi (fun v72 ev72 => ?_)
                            refine xiast (f := (upd x44 (((12 * i) + k)) (1000000000))) (x := v72) hx hb hK hP (hDD _ _) hS 17 (((12 * i) + k)) (rfl) (by omega) (by decide) rfl dX7_lay_246 (fun H locs hP _ hS => ?_)
                            have hP : PP G (mM G y b (upd (upd f 20 (nI (rw))) 21 (nI (cl))) (up2 (up2 (up2 (up2 (up2 r 15 (upd x42 (((12 * i) + k)) ((r 6 (144 * t + 12 * i + k))))) 16 (upd (upd x43 (((12 * i) + k)) (0)) (((12 * i) + k)) (v65))) 17 (upd (upd x44 (((12 * i) + k)) (1000000000)) (((12 * i) + k)) (v72))) 18 (upd x7 (i) ((clM (r 13) (r 14) t (nI i) bk).1))) 19 (upd x45 (((12 * i) + k)) (0)))) H := hP
                            obtain ⟨v73, ev73⟩ : ∃ y9 : Int32, y9 = (nI k) + Int32.ofInt (1) := ⟨_, rfl⟩
                            refine lv_iinc (v := v73) (lv' := [(5, .int v73), (8, .long v60), (7, .int (nI (144 * t + 12 * i + k))), (6, .int (nI ((12 * i) + k))), (4, .int (smM (r 6) t i cl)), (3, .int r10), (2, .int (nI i)), (0, .ref y), (1, .int (nI t))]) hx hb dX7_lay_247 hl (k := 3) rfl ev73.symm (by decide) rfl (fun ls hl => ?_)
                            obtain rfl : v73 = nI (k + 1) := nI_plus (i := k) (j := 1) ev73 rfl (by decide)
                            refine lv_goto (tgt := 77) hx hb dX7_lay_250 (by decide) ?_
                            exact ih77k41 (k + 1) (upd x42 (((12 * i) + k)) ((r 6 (144 * t + 12 * i + k)))) (upd (upd x43 (((12 * i) + k)) (0)) (((12 * i) + k)) (v65)) (upd (upd x44 (((12 * i) + k)) (1000000000)) (((12 * i) + k)) (v72)) (upd x45 (((12 * i) + k)) (0)) (by omega) (by omega) (by rw [upd_tw, upd_tw]; exact LYY_s hY rfl (Or.inr ⟨rfl, bF hr53 c54⟩) (by unfold loM; rw [if_pos c56]; simp only [ev65, ev64, ev63, ev62, ev61, ev60]) (by unfold hiM; rw [if_pos c56, if_neg c66]; simp only [ev72, ev71, ev70, ev69, ev68, ev67, ev60])) (stay_u (s15) (by omega)) (stay_u (stay_u (s16) (by omega)) (by omega)) (stay_u (stay_u (s17) (by omega)) (by omega)) (stay_u (s19) (by omega)) _ _ _ hP hS (lv_sub hl [0, 4, 5, 6, 7, 8] rfl)
                          · refine lv_iconst (v := 0) hx hb dX7_lay_227 (by decide) ?_
                            refine lv_goto (tgt := 246) hx hb dX7_lay_228 (by decide) ?_
                            refine xiast (f := (upd x44 (((12 * i) + k)) (1000000000))) (x := 0) hx hb hK hP (hDD _ _) hS 17 (((12 * i) + k)) (rfl) (by omega) (by decide) rfl dX7_lay_246 (fun H locs hP _ hS => ?_)
                            have hP : PP G (mM G y b (upd (upd f 20 (nI (rw))) 21 (nI (cl))) (up2 (up2 (up2 (up2 (up2 r 15 (upd x42 (((12 * i) + k)) ((r 6 (144 * t + 12 * i + k))))) 16 (upd (upd x43 (((12 * i) + k)) (0)) (((12 * i) + k)) (v65))) 17 (upd (upd x44 (((12 * i) + k)) (1000000000)) (((12 * i) + k)) (0))) 18 (upd x7 (i) ((clM (r 13) (r 14) t (nI i) bk).1))) 19 (upd x45 (((12 * i) + k)) (0)))) H := hP
                            obtain ⟨v74, ev74⟩ : ∃ y9 : Int32, y9 = (nI k) + Int32.ofInt (1) := ⟨_, rfl⟩
                            refine lv_iinc (v := v74) (lv' := [(5, .int v74), (8, .long v60), (7, .int (nI (144 * t + 12 * i + k))), (6, .int (nI ((12 * i) + k))), (4, .int (smM (r 6) t i cl)), (3, .int r10), (2, .int (nI i)), (0, .ref y), (1, .int (nI t))]) hx hb dX7_lay_247 hl (k := 3) rfl ev74.symm (by decide) rfl (fun ls hl => ?_)
                            obtain rfl : v74 = nI (k + 1) := nI_plus (i := k) (j := 1) ev74 rfl (by decide)
                            refine lv_goto (tgt := 77) hx hb dX7_lay_250 (by decide) ?_
                            exact ih77k41 (k + 1) (upd x42 (((12 * i) + k)) ((r 6 (144 * t + 12 * i + k)))) (upd (upd x43 (((12 * i) + k)) (0)) (((12 * i) + k)) (v65)) (upd (upd x44 (((12 * i) + k)) (1000000000)) (((12 * i) + k)) (0)) (upd x45 (((12 * i) + k)) (0)) (by omega) (by omega) (by rw [upd_tw, upd_tw]; exact LYY_s hY rfl (Or.inr ⟨rfl, bF hr53 c54⟩) (by unfold loM; rw [if_pos c56]; simp only [ev65, ev64, ev63, ev62, ev61, ev60]) (by unfold hiM; rw [if_pos c56, if_pos c66])) (stay_u (s15) (by omega)) (stay_u (stay_u (s16) (by omega)) (by omega)) (stay_u (stay_u (s17) (by omega)) (by omega)) (stay_u (s19) (by omega)) _ _ _ hP hS (lv_sub hl [0, 4, 5, 6, 7, 8] rfl)
                      · refine lv_goto (tgt := 247) hx hb dX7_lay_172 (by decide) ?_
                        obtain ⟨v75, ev75⟩ : ∃ y9 : Int32, y9 = (nI k) + Int32.ofInt (1) := ⟨_, rfl⟩
                        refine lv_iinc (v := v75) (lv' := [(5, .int v75), (7, .int (nI (144 * t + 12 * i + k))), (6, .int (nI ((12 * i) + k))), (4, .int (smM (r 6) t i cl)), (3, .int r10), (2, .int (nI i)), (0, .ref y), (1, .int (nI t))]) hx hb dX7_lay_247 hl (k := 2) rfl ev75.symm (by decide) rfl (fun ls hl => ?_)
                        obtain rfl : v75 = nI (k + 1) := nI_plus (i := k) (j := 1) ev75 rfl (by decide)
                        refine lv_goto (tgt := 77) hx hb dX7_lay_250 (by decide) ?_
                        exact ih77k41 (k + 1) (upd x42 (((12 * i) + k)) ((r 6 (144 * t + 12 * i + k)))) (upd x43 (((12 * i) + k)) (0)) (upd x44 (((12 * i) + k)) (1000000000)) (upd x45 (((12 * i) + k)) (0)) (by omega) (by omega) (LYY_s hY rfl (Or.inr ⟨rfl, bF hr53 c54⟩) (by unfold loM; rw [if_neg c56]) (by unfold hiM; rw [if_neg c56])) (stay_u (s15) (by omega)) (stay_u (s16) (by omega)) (stay_u (s17) (by omega)) (stay_u (s19) (by omega)) _ _ _ hP hS (lv_sub hl [0, 3, 4, 5, 6, 7] rfl)
                    · refine lv_iconst (v := 1) hx hb dX7_lay_138 (by decide) ?_
                      refine lv_goto (tgt := 143) hx hb dX7_lay_139 (by decide) ?_
                      refine xzast (f := x45) (x := 1) hx hb hK hP (hDD _ _) hS 19 (((12 * i) + k)) (rfl) (by omega) (by decide) (Or.inr rfl) rfl dX7_lay_143 (fun H locs hP _ hS => ?_)
                      have hP : PP G (mM G y b (upd (upd f 20 (nI (rw))) 21 (nI (cl))) (up2 (up2 (up2 (up2 (up2 r 15 (upd x42 (((12 * i) + k)) ((r 6 (144 * t + 12 * i + k))))) 16 x43) 17 x44) 18 (upd x7 (i) ((clM (r 13) (r 14) t (nI i) bk).1))) 19 (upd x45 (((12 * i) + k)) (1)))) H := hP
                      refine lv_aload_n hx hb dX7_lay_144 rfl (lv_at hl 6 rfl) ?_
                      refine va_get (D := G.1) (ci := 7) (v := .ref (b 16)) (C := RX7) (T := TX7) (N := 43) hx hb hts inX7 hown hK.1 hP 0 rfl rfl 16 (by decide) (hts _ mf_X7_56) (fun _ h9 => h9) rfl dX7_lay_145 ?_
                      refine lv_iload hx hb dX7_lay_148 (lv_at hl 1 rfl) ?_
                      refine lv_iconst (v := 0) hx hb dX7_lay_150 (by decide) ?_
                      refine xiast (f := x43) (x := 0) hx hb hK hP (hDD _ _) hS 16 (((12 * i) + k)) (rfl) (by omega) (by decide) rfl dX7_lay_151 (fun H locs hP _ hS => ?_)
                      have hP : PP G (mM G y b (upd (upd f 20 (nI (rw))) 21 (nI (cl))) (up2 (up2 (up2 (up2 (up2 r 15 (upd x42 (((12 * i) + k)) ((r 6 (144 * t + 12 * i + k))))) 16 (upd x43 (((12 * i) + k)) (0))) 17 x44) 18 (upd x7 (i) ((clM (r 13) (r 14) t (nI i) bk).1))) 19 (upd x45 (((12 * i) + k)) (1)))) H := hP
                      refine lv_aload_n hx hb dX7_lay_152 rfl (lv_at hl 6 rfl) ?_
                      refine va_get (D := G.1) (ci := 7) (v := .ref (b 17)) (C := RX7) (T := TX7) (N := 43) hx hb hts inX7 hown hK.1 hP 0 rfl rfl 17 (by decide) (hts _ mf_X7_59) (fun _ h9 => h9) rfl dX7_lay_153 ?_
                      refine lv_iload hx hb dX7_lay_156 (lv_at hl 1 rfl) ?_
                      refine lv_ldc hx hb hown (hts _ mk_X7_195) dX7_lay_158 ?_
                      refine xiast (f := x44) (x := 1000000000) hx hb hK hP (hDD _ _) hS 17 (((12 * i) + k)) (rfl) (by omega) (by decide) rfl dX7_lay_160 (fun H locs hP _ hS => ?_)
                      have hP : PP G (mM G y b (upd (upd f 20 (nI (rw))) 21 (nI (cl))) (up2 (up2 (up2 (up2 (up2 r 15 (upd x42 (((12 * i) + k)) ((r 6 (144 * t + 12 * i + k))))) 16 (upd x43 (((12 * i) + k)) (0))) 17 (upd x44 (((12 * i) + k)) (1000000000))) 18 (upd x7 (i) ((clM (r 13) (r 14) t (nI i) bk).1))) 19 (upd x45 (((12 * i) + k)) (1)))) H := hP
                      refine lv_aload_n hx hb dX7_lay_161 rfl (lv_at hl 6 rfl) ?_
                      refine va_get (D := G.1) (ci := 7) (v := .ref (b 5)) (C := RX7) (T := TX7) (N := 43) hx hb hts inX7 hown hK.1 hP 0 rfl rfl 5 (by decide) (hts _ mf_X7_23) (fun _ h9 => h9) rfl dX7_lay_162 ?_
                      refine lv_iload hx hb dX7_lay_165 (lv_at hl 0 rfl) ?_
                      refine xiald (f := (r 5)) hx hb hK hP 5 ((144 * t + 12 * i + k)) (rfl) (by omega) (by decide) rfl dX7_lay_167 ?_
                      refine lv_topi (fun v76 ev76 => ?_)
                      obtain rfl : v76 = (r 5 (144 * t + 12 * i + k)) := ev76.trans (rfl)
                      refine lv_iconst (v := 3) hx hb dX7_lay_168 (by decide) ?_
                      refine lv_icmp_eq (tgt := 175) hx hb dX7_lay_169 (by decide) (fun c77 => ?_) (fun c77 => ?_)
                      · refine lv_iload_n hx hb dX7_lay_175 rfl (lv_at hl 4 rfl) ?_
                        refine lv_if_eq (tgt := 191) hx hb dX7_lay_176 (by decide) (fun c78 => ?_) (fun c78 => ?_)
                        · exact absurd c78 c11
                        · refine lv_aload_n hx hb dX7_lay_179 rfl (lv_at hl 6 rfl) ?_
                          refine lv_iload_n hx hb dX7_lay_180 rfl (lv_at hl 7 rfl) ?_
                          refine lv_iload_n hx hb dX7_lay_181 rfl (lv_at hl 5 rfl) ?_
                          refine lv_iload hx hb dX7_lay_182 (lv_at hl 2 rfl) ?_
                          refine rdV (rest := []) (q0 := 0) ⟨hx, hb, hml, hown, hts⟩ (m_X7_thousandthsOf l G y b (upd (upd f 20 (nI (rw))) 21 (nI (cl))) (up2 (up2 (up2 (up2 (up2 r 15 (upd x42 (((12 * i) + k)) ((r 6 (144 * t + 12 * i + k))))) 16 (upd x43 (((12 * i) + k)) (0))) 17 (upd x44 (((12 * i) + k)) (1000000000))) 18 (upd x7 (i) ((clM (r 13) (r 14) t (nI i) bk).1))) 19 (upd x45 (((12 * i) + k)) (1))) t i k rw cl bk (by omega) (by omega) (by omega) (by omega) h2 h3 h12 (by omega) (by omega)) mi_yX7_thousandthsOf mv_yX7_thousandthsOf ml_X7_186 ⟨rfl, rfl, Nat.le_of_ble_eq_true rfl, Nat.le_of_ble_eq_true rfl⟩ hK (hP) rfl rfl rfl hl.1 rfl (Nat.le_of_ble_eq_true rfl) dX7_lay_184 ⟨Nat.zero_le _, Nat.zero_le _⟩ hS hA hP (fun r79 H locs hr79 hP hS => ?_)
                          obtain rfl := hr79
                          refine lv_topi (fun v80 ev80 => ?_)
                          obtain rfl : v80 = thM (r 6 (144 * t + 12 * i + k)) (smM (r 6) t i cl) := ev80.trans (by show thM (r 6 (144 * t + 12 * i + k)) (smM (r 6) t i (r 3 t).toNatClampNeg) = _; rw [h3, nI_clamp (by omega)])
                          refine lv_i2l hx hb dX7_lay_187 rfl ?_
                          refine lv_topl (fun v81 ev81 => ?_)
                          refine lv_goto (tgt := 192) hx hb dX7_lay_188 (by decide) ?_
                          refine lv_lstore (lv' := [(8, .long v81), (7, .int (nI (144 * t + 12 * i + k))), (6, .int (nI ((12 * i) + k))), (5, .int (nI k)), (4, .int (smM (r 6) t i cl)), (3, .int r10), (2, .int (nI i)), (0, .ref y), (1, .int (nI t))]) hx hb dX7_lay_192 hl (by decide) rfl (fun ls hl => ?_)
                          refine lv_aload_n hx hb dX7_lay_194 rfl (lv_at hl 7 rfl) ?_
                          refine va_get (D := G.1) (ci := 7) (v := .ref (b 16)) (C := RX7) (T := TX7) (N := 43) hx hb hts inX7 hown hK.1 hP 0 rfl rfl 16 (by decide) (hts _ mf_X7_56) (fun _ h9 => h9) rfl dX7_lay_195 ?_
                          refine lv_iload hx hb dX7_lay_198 (lv_at hl 2 rfl) ?_
                          refine lv_lload hx hb dX7_lay_200 (lv_at hl 0 rfl) ?_
                          refine lv_iload hx hb dX7_lay_202 (lv_at hl 4 rfl) ?_
                          refine lv_i2l hx hb dX7_lay_204 rfl ?_
                          refine lv_topl (fun v82 ev82 => ?_)
                          refine lv_lmul hx hb dX7_lay_205 ?_
                          refine lv_topl (fun v83 ev83 => ?_)
                          refine lv_ldc2 hx hb hown (hts _ mkl_X7_196) dX7_lay_206 ?_
                          refine lv_ladd hx hb dX7_lay_209 ?_
                          refine lv_topl (fun v84 ev84 => ?_)
                          refine lv_ldc2 hx hb hown (hts _ mkl_X7_184) dX7_lay_210 ?_
                          refine lv_ldiv hx hb dX7_lay_213 (by decide) ?_
                          refine lv_topl (fun v85 ev85 => ?_)
                          refine lv_l2i hx hb dX7_lay_214 rfl ?_
                          refine lv_topi (fun v86 ev86 => ?_)
                          refine xiast (f := (upd x43 (((12 * i) + k)) (0))) (x := v86) hx hb hK hP (hDD _ _) hS 16 (((12 * i) + k)) (rfl) (by omega) (by decide) rfl dX7_lay_215 (fun H locs hP _ hS => ?_)
                          have hP : PP G (mM G y b (upd (upd f 20 (nI (rw))) 21 (nI (cl))) (up2 (up2 (up2 (up2 (up2 r 15 (upd x42 (((12 * i) + k)) ((r 6 (144 * t + 12 * i + k))))) 16 (upd (upd x43 (((12 * i) + k)) (0)) (((12 * i) + k)) (v86))) 17 (upd x44 (((12 * i) + k)) (1000000000))) 18 (upd x7 (i) ((clM (r 13) (r 14) t (nI i) bk).1))) 19 (upd x45 (((12 * i) + k)) (1)))) H := hP
                          refine lv_aload_n hx hb dX7_lay_216 rfl (lv_at hl 7 rfl) ?_
                          refine va_get (D := G.1) (ci := 7) (v := .ref (b 17)) (C := RX7) (T := TX7) (N := 43) hx hb hts inX7 hown hK.1 hP 0 rfl rfl 17 (by decide) (hts _ mf_X7_59) (fun _ h9 => h9) rfl dX7_lay_217 ?_
                          refine lv_iload hx hb dX7_lay_220 (lv_at hl 2 rfl) ?_
                          refine lv_iload hx hb dX7_lay_222 (lv_at hl 4 rfl) ?_
                          refine lv_if_ne (tgt := 231) hx hb dX7_lay_224 (by decide) (fun c87 => ?_) (fun c87 => ?_)
                          · refine lv_lload hx hb dX7_lay_231 (lv_at hl 0 rfl) ?_
                            refine lv_lconst (v := 1) hx hb dX7_lay_233 (by decide) ?_
                            refine lv_ladd hx hb dX7_lay_234 ?_
                            refine lv_topl (fun v88 ev88 => ?_)
                            refine lv_iload hx hb dX7_lay_235 (lv_at hl 4 rfl) ?_
                            refine lv_i2l hx hb dX7_lay_237 rfl ?_
                            refine lv_topl (fun v89 ev89 => ?_)
                            refine lv_lmul hx hb dX7_lay_238 ?_
                            refine lv_topl (fun v90 ev90 => ?_)
                            refine lv_lconst (v := 1) hx hb dX7_lay_239 (by decide) ?_
                            refine lv_lsub hx hb dX7_lay_240 ?_
                            refine lv_topl (fun v91 ev91 => ?_)
                            refine lv_ldc2 hx hb hown (hts _ mkl_X7_184) dX7_lay_241 ?_
                            refine lv_ldiv hx hb dX7_lay_244 (by decide) ?_
                            refine lv_topl (fun v92 ev92 => ?_)
                            refine lv_l2i hx hb dX7_lay_245 rfl ?_
                            refine lv_topi (fun v93 ev93 => ?_)
                            refine xiast (f := (upd x44 (((12 * i) + k)) (1000000000))) (x := v93) hx hb hK hP (hDD _ _) hS 17 (((12 * i) + k)) (rfl) (by omega) (by decide) rfl dX7_lay_246 (fun H locs hP _ hS => ?_)
                            have hP : PP G (mM G y b (upd (upd f 20 (nI (rw))) 21 (nI (cl))) (up2 (up2 (up2 (up2 (up2 r 15 (upd x42 (((12 * i) + k)) ((r 6 (144 * t + 12 * i + k))))) 16 (upd (upd x43 (((12 * i) + k)) (0)) (((12 * i) + k)) (v86))) 17 (upd (upd x44 (((12 * i) + k)) (1000000000)) (((12 * i) + k)) (v93))) 18 (upd x7 (i) ((clM (r 13) (r 14) t (nI i) bk).1))) 19 (upd x45 (((12 * i) + k)) (1)))) H := hP
                            obtain ⟨v94, ev94⟩ : ∃ y9 : Int32, y9 = (nI k) + Int32.ofInt (1) := ⟨_, rfl⟩
                            refine lv_iinc (v := v94) (lv' := [(5, .int v94), (8, .long v81), (7, .int (nI (144 * t + 12 * i + k))), (6, .int (nI ((12 * i) + k))), (4, .int (smM (r 6) t i cl)), (3, .int r10), (2, .int (nI i)), (0, .ref y), (1, .int (nI t))]) hx hb dX7_lay_247 hl (k := 3) rfl ev94.symm (by decide) rfl (fun ls hl => ?_)
                            obtain rfl : v94 = nI (k + 1) := nI_plus (i := k) (j := 1) ev94 rfl (by decide)
                            refine lv_goto (tgt := 77) hx hb dX7_lay_250 (by decide) ?_
                            exact ih77k41 (k + 1) (upd x42 (((12 * i) + k)) ((r 6 (144 * t + 12 * i + k)))) (upd (upd x43 (((12 * i) + k)) (0)) (((12 * i) + k)) (v86)) (upd (upd x44 (((12 * i) + k)) (1000000000)) (((12 * i) + k)) (v93)) (upd x45 (((12 * i) + k)) (1)) (by omega) (by omega) (by rw [upd_tw, upd_tw]; exact LYY_s hY rfl (Or.inl ⟨rfl, bT hr53 c54⟩) (by unfold loM; rw [if_pos c77]; simp only [ev86, ev85, ev84, ev83, ev82, ev81]) (by unfold hiM; rw [if_pos c77, if_neg c87]; simp only [ev93, ev92, ev91, ev90, ev89, ev88, ev81])) (stay_u (s15) (by omega)) (stay_u (stay_u (s16) (by omega)) (by omega)) (stay_u (stay_u (s17) (by omega)) (by omega)) (stay_u (s19) (by omega)) _ _ _ hP hS (lv_sub hl [0, 4, 5, 6, 7, 8] rfl)
                          · refine lv_iconst (v := 0) hx hb dX7_lay_227 (by decide) ?_
                            refine lv_goto (tgt := 246) hx hb dX7_lay_228 (by decide) ?_
                            refine xiast (f := (upd x44 (((12 * i) + k)) (1000000000))) (x := 0) hx hb hK hP (hDD _ _) hS 17 (((12 * i) + k)) (rfl) (by omega) (by decide) rfl dX7_lay_246 (fun H locs hP _ hS => ?_)
                            have hP : PP G (mM G y b (upd (upd f 20 (nI (rw))) 21 (nI (cl))) (up2 (up2 (up2 (up2 (up2 r 15 (upd x42 (((12 * i) + k)) ((r 6 (144 * t + 12 * i + k))))) 16 (upd (upd x43 (((12 * i) + k)) (0)) (((12 * i) + k)) (v86))) 17 (upd (upd x44 (((12 * i) + k)) (1000000000)) (((12 * i) + k)) (0))) 18 (upd x7 (i) ((clM (r 13) (r 14) t (nI i) bk).1))) 19 (upd x45 (((12 * i) + k)) (1)))) H := hP
                            obtain ⟨v95, ev95⟩ : ∃ y9 : Int32, y9 = (nI k) + Int32.ofInt (1) := ⟨_, rfl⟩
                            refine lv_iinc (v := v95) (lv' := [(5, .int v95), (8, .long v81), (7, .int (nI (144 * t + 12 * i + k))), (6, .int (nI ((12 * i) + k))), (4, .int (smM (r 6) t i cl)), (3, .int r10), (2, .int (nI i)), (0, .ref y), (1, .int (nI t))]) hx hb dX7_lay_247 hl (k := 3) rfl ev95.symm (by decide) rfl (fun ls hl => ?_)
                            obtain rfl : v95 = nI (k + 1) := nI_plus (i := k) (j := 1) ev95 rfl (by decide)
                            refine lv_goto (tgt := 77) hx hb dX7_lay_250 (by decide) ?_
                            exact ih77k41 (k + 1) (upd x42 (((12 * i) + k)) ((r 6 (144 * t + 12 * i + k)))) (upd (upd x43 (((12 * i) + k)) (0)) (((12 * i) + k)) (v86)) (upd (upd x44 (((12 * i) + k)) (1000000000)) (((12 * i) + k)) (0)) (upd x45 (((12 * i) + k)) (1)) (by omega) (by omega) (by rw [upd_tw, upd_tw]; exact LYY_s hY rfl (Or.inl ⟨rfl, bT hr53 c54⟩) (by unfold loM; rw [if_pos c77]; simp only [ev86, ev85, ev84, ev83, ev82, ev81]) (by unfold hiM; rw [if_pos c77, if_pos c87])) (stay_u (s15) (by omega)) (stay_u (stay_u (s16) (by omega)) (by omega)) (stay_u (stay_u (s17) (by omega)) (by omega)) (stay_u (s19) (by omega)) _ _ _ hP hS (lv_sub hl [0, 4, 5, 6, 7, 8] rfl)
                      · refine lv_goto (tgt := 247) hx hb dX7_lay_172 (by decide) ?_
                        obtain ⟨v96, ev96⟩ : ∃ y9 : Int32, y9 = (nI k) + Int32.ofInt (1) := ⟨_, rfl⟩
                        refine lv_iinc (v := v96) (lv' := [(5, .int v96), (7, .int (nI (144 * t + 12 * i + k))), (6, .int (nI ((12 * i) + k))), (4, .int (smM (r 6) t i cl)), (3, .int r10), (2, .int (nI i)), (0, .ref y), (1, .int (nI t))]) hx hb dX7_lay_247 hl (k := 2) rfl ev96.symm (by decide) rfl (fun ls hl => ?_)
                        obtain rfl : v96 = nI (k + 1) := nI_plus (i := k) (j := 1) ev96 rfl (by decide)
                        refine lv_goto (tgt := 77) hx hb dX7_lay_250 (by decide) ?_
                        exact ih77k41 (k + 1) (upd x42 (((12 * i) + k)) ((r 6 (144 * t + 12 * i + k)))) (upd x43 (((12 * i) + k)) (0)) (upd x44 (((12 * i) + k)) (1000000000)) (upd x45 (((12 * i) + k)) (1)) (by omega) (by omega) (LYY_s hY rfl (Or.inl ⟨rfl, bT hr53 c54⟩) (by unfold loM; rw [if_neg c77]) (by unfold hiM; rw [if_neg c77])) (stay_u (s15) (by omega)) (stay_u (s16) (by omega)) (stay_u (s17) (by omega)) (stay_u (s19) (by omega)) _ _ _ hP hS (lv_sub hl [0, 3, 4, 5, 6, 7] rfl)
            exact loop77 (cl + 1) 0 x4 x5 x6 x8 (by omega) (by omega) (fun y h8 => absurd h8 (by omega)) (stay_0) (stay_0) (stay_0) (stay_0) _ _ _ hP hS (lv_sub hl [0, 1, 2, 3, 4, 5] rfl)
  exact loop22 (rw + 1) 0 (r 15) (r 16) (r 17) (r 18) (r 19) (by omega) (by omega) (fun x h8 => absurd h8 (by omega)) _ _ _ hP hS (lv_sub hl [0, 1, 2] rfl)
set_option maxHeartbeats 4000000 in
set_option maxRecDepth 100000 in
theorem n_isNode (l : Launch) (G : GG) (y : Nat) (b : Nat → Nat) (f : Nat → Int32) (r : Nat → Nat → Int32) (n : Nat) (its : Int32) (rw : Nat) (cl : Nat) (hn : n < 24) (hrw : rw ≤ 12) (hcl : cl ≤ 12) (h20 : (f 20) = nI rw) (h21 : (f 21) = nI cl) : RdI l yX7_isNode cX7_isNode 3 (some .boolean) ({ frames := 0, cells := 0, slots := 0, locals := 0 }) G (mM G y b f r) [.ref y, .int (nI n), .int its] (fun q => ((q = 1 ∧ (ndM rw cl (r 18) its n)) ∨ (q = 0 ∧ ¬ (ndM rw cl (r 18) its n)))) := by
  refine rd_entry (by decide +kernel) (Nat.le_of_ble_eq_true rfl) ?_
  intro p e s m below meth c C0 hP hK ls hl
  have hS : va_S (fun q => s.heap.size ≤ q) s.heap s.heap [] := va_S.rf
  have hA : ∀ q, s.heap.size ≤ q → (fun q => s.heap.size ≤ q) q := fun _ h => h
  obtain ⟨hx, hb, hml, hown, hts, hr, hlocks, hin⟩ := C0
  have hown : s.vm.findClass RX7 = some m.cls := hown
  have hl : lv_has ls 3 [(0, .ref y), (1, .int (nI n)), (2, .int its)] := hl
  refine lv_iload_n hx hb dX7_isNode_0 rfl (lv_at hl 1 rfl) ?_
  refine lv_bipush (v := 12) hx hb dX7_isNode_1 (by decide) ?_
  refine lv_icmp_ge (tgt := 32) hx hb dX7_isNode_3 (by decide) (fun c1 => ?_) (fun c1 => ?_)
  · have b3 := qge_t (a := n) (b := 12) (by omega) (by omega) c1
    refine lv_iload_n hx hb dX7_isNode_32 rfl (lv_at hl 1 rfl) ?_
    refine lv_bipush (v := 12) hx hb dX7_isNode_33 (by decide) ?_
    refine lv_isub hx hb dX7_isNode_35 ?_
    refine lv_topi (fun v2 ev2 => ?_)
    obtain rfl : v2 = nI (n - 12) := nI_minus ev2 rfl rfl (by omega)
    refine lv_aload_n hx hb dX7_isNode_36 rfl (lv_at hl 0 rfl) ?_
    refine va_get (D := G.1) (ci := 7) (v := .int (f 21)) (C := RX7) (T := TX7) (N := 43) hx hb hts inX7 hown hK.1 hP 0 rfl rfl 21 (by decide) (hts _ mf_X7_192) (fun _ h9 => h9) rfl dX7_isNode_37 ?_
    rw [show (f 21) = nI (cl) from h21]
    refine lv_icmp_ge (tgt := 47) hx hb dX7_isNode_40 (by decide) (fun c3 => ?_) (fun c3 => ?_)
    · have b40 := qge_t (a := (n - 12)) (b := (cl)) (by omega) (by omega) c3
      refine lv_iconst (v := 0) hx hb dX7_isNode_47 (by decide) ?_
      exact rd_zret hx hb hr hlocks (Or.inl rfl) hS (Or.inr ⟨rfl, fun h9 => h9.elim (fun z9 => by omega) (fun z9 => by omega)⟩) dX7_isNode_48
    · have b40 := qge_f (a := (n - 12)) (b := (cl)) (by omega) (by omega) c3
      refine lv_iconst (v := 1) hx hb dX7_isNode_43 (by decide) ?_
      refine lv_goto (tgt := 48) hx hb dX7_isNode_44 (by decide) ?_
      exact rd_zret hx hb hr hlocks (Or.inr rfl) hS (Or.inl ⟨rfl, Or.inr ⟨by omega, by omega⟩⟩) dX7_isNode_48
  · have b3 := qge_f (a := n) (b := 12) (by omega) (by omega) c1
    refine lv_iload_n hx hb dX7_isNode_6 rfl (lv_at hl 1 rfl) ?_
    refine lv_aload_n hx hb dX7_isNode_7 rfl (lv_at hl 0 rfl) ?_
    refine va_get (D := G.1) (ci := 7) (v := .int (f 20)) (C := RX7) (T := TX7) (N := 43) hx hb hts inX7 hown hK.1 hP 0 rfl rfl 20 (by decide) (hts _ mf_X7_189) (fun _ h9 => h9) rfl dX7_isNode_8 ?_
    rw [show (f 20) = nI (rw) from h20]
    refine lv_icmp_ge (tgt := 28) hx hb dX7_isNode_11 (by decide) (fun c4 => ?_) (fun c4 => ?_)
    · have b11 := qge_t (a := n) (b := (rw)) (by omega) (by omega) c4
      refine lv_iconst (v := 0) hx hb dX7_isNode_28 (by decide) ?_
      refine lv_goto (tgt := 48) hx hb dX7_isNode_29 (by decide) ?_
      exact rd_zret hx hb hr hlocks (Or.inl rfl) hS (Or.inr ⟨rfl, fun h9 => h9.elim (fun z9 => by omega) (fun z9 => by omega)⟩) dX7_isNode_48
    · have b11 := qge_f (a := n) (b := (rw)) (by omega) (by omega) c4
      refine lv_aload_n hx hb dX7_isNode_14 rfl (lv_at hl 0 rfl) ?_
      refine va_get (D := G.1) (ci := 7) (v := .ref (b 18)) (C := RX7) (T := TX7) (N := 43) hx hb hts inX7 hown hK.1 hP 0 rfl rfl 18 (by decide) (hts _ mf_X7_62) (fun _ h9 => h9) rfl dX7_isNode_15 ?_
      refine lv_iload_n hx hb dX7_isNode_18 rfl (lv_at hl 1 rfl) ?_
      refine xiald (f := (r 18)) hx hb hK hP 18 (n) (rfl) (by omega) (by decide) rfl dX7_isNode_19 ?_
      refine lv_topi (fun v5 ev5 => ?_)
      refine lv_iload_n hx hb dX7_isNode_20 rfl (lv_at hl 2 rfl) ?_
      refine lv_icmp_ne (tgt := 28) hx hb dX7_isNode_21 (by decide) (fun c6 => ?_) (fun c6 => ?_)
      · refine lv_iconst (v := 0) hx hb dX7_isNode_28 (by decide) ?_
        refine lv_goto (tgt := 48) hx hb dX7_isNode_29 (by decide) ?_
        exact rd_zret hx hb hr hlocks (Or.inl rfl) hS (Or.inr ⟨rfl, fun h9 => h9.elim (fun z9 => c6 (ev5.trans z9.2.2)) (fun z9 => by omega)⟩) dX7_isNode_48
      · refine lv_iconst (v := 1) hx hb dX7_isNode_24 (by decide) ?_
        refine lv_goto (tgt := 48) hx hb dX7_isNode_25 (by decide) ?_
        exact rd_zret hx hb hr hlocks (Or.inr rfl) hS (Or.inl ⟨rfl, Or.inl ⟨by omega, by omega, ev5.symm.trans c6⟩⟩) dX7_isNode_48
set_option maxHeartbeats 4000000 in
set_option maxRecDepth 100000 in
theorem n_way (l : Launch) (G : GG) (y : Nat) (b : Nat → Nat) (f : Nat → Int32) (r : Nat → Nat → Int32) (a : Nat) (b2 : Nat) (its : Int32) (rw : Nat) (cl : Nat) (st : Nat → Int32) (ha : a < 24) (hb2 : b2 < 24) (hab : a ≠ b2) (hrw : rw ≤ 12) (hcl : cl ≤ 12) (h20 : (f 20) = nI rw) (h21 : (f 21) = nI cl) (hna : ndM rw cl (r 18) its a) (hst : ∀ u v, bip u v → ndM rw cl (r 18) its u → ndM rw cl (r 18) its v → (0 < rmF (r 19) (r 17) (r 16) (r 15) u v ↔ bt (st u) v = true)) (hsn : ∀ u v, u < 25 → v < 25 → bt (st u) v = true → bip u v ∧ ndM rw cl (r 18) its v) : WrI l yX7_way cX7_way 9 (some .boolean) ({ frames := 1, cells := 0, slots := 0, locals := 23 }) G (mM G y b f r) [.ref y, .int (nI a), .int (nI b2), .int its] (fun q w => ∃ (n_r_22 : Nat → Int32) (n_r_23 : Nat → Int32), w = mM G y b f (up2 (up2 r 22 n_r_22) 23 n_r_23) ∧ ((q = 0 ∧ ∃ zz, CLB st a b2 zz) ∨ (q = 1 ∧ WAY st a b2 n_r_22))) := by
  refine wr_entryI (by decide +kernel) (Nat.le_of_ble_eq_true rfl) ?_
  intro p e s m below meth c A C0 hP hK hD hA ls hl
  have hS : va_S A s.heap s.heap [] := va_S.rf
  obtain ⟨hx, hb, hml, hown, hts, hr, hlocks, hin⟩ := C0
  have hown : s.vm.findClass RX7 = some m.cls := hown
  have hDD : ∀ f' r', va_D A (mM G y b f' r') := fun f' r' => D_same hD rfl
  have hl : lv_has ls 9 [(0, .ref y), (1, .int (nI a)), (2, .int (nI b2)), (3, .int its)] := hl
  refine lv_iconst (v := 0) hx hb dX7_way_0 (by decide) ?_
  refine lv_istore (lv' := [(4, .int 0), (0, .ref y), (1, .int (nI a)), (2, .int (nI b2)), (3, .int its)]) hx hb dX7_way_1 hl (by decide) rfl (fun ls hl => ?_)
  have loop3 : ∀ (k1 i : Nat) (x2 : Nat → Int32), i ≤ 24 → 24 < i + k1 → (∀ n, n < i → x2 n = -1) → ∀ (H : Heap) (locs : List Loc) (ls : Array Slot), PP G (mM G y b f (up2 r 22 x2)) H → va_S A s.heap H locs → lv_has ls 9 [(4, .int (nI i)), (0, .ref y), (1, .int (nI a)), (2, .int (nI b2)), (3, .int its)] → W p l e ({ frames := 1, cells := 0, slots := 0, locals := 23 }) s m ([.ref y, .int (nI a), .int (nI b2), .int its] : List Value).toArray below meth c H locs 0 0 (MQ below (QwI G (fun q w => ∃ (n_r_22 : Nat → Int32) (n_r_23 : Nat → Int32), w = mM G y b f (up2 (up2 r 22 n_r_22) 23 n_r_23) ∧ ((q = 0 ∧ ∃ zz, CLB st a b2 zz) ∨ (q = 1 ∧ WAY st a b2 n_r_22))) A) ([.ref y, .int (nI a), .int (nI b2), .int its] : List Value).toArray s 0 0 A) (F0 m 3 ls []) := by
    intro k1
    induction k1 with
    | zero => intro i x2 h1 h2; exact absurd h1 (by omega)
    | succ k1 ih3k1 =>
      intro i x2 hi_i hk_i hfr H locs ls hP hS hl
      refine lv_iload hx hb dX7_way_3 (lv_at hl 0 rfl) ?_
      refine lv_bipush (v := 24) hx hb dX7_way_5 (by decide) ?_
      refine lv_icmp_ge (tgt := 24) hx hb dX7_way_7 (by decide) (fun c3 => ?_) (fun c3 => ?_)
      · have b7 := qge_t (a := i) (b := 24) (by omega) (by omega) c3
        refine lv_aload_n hx hb dX7_way_24 rfl (lv_at hl 1 rfl) ?_
        refine va_get (D := G.1) (ci := 7) (v := .ref (b 22)) (C := RX7) (T := TX7) (N := 43) hx hb hts inX7 hown hK.1 hP 0 rfl rfl 22 (by decide) (hts _ mf_X7_68) (fun _ h9 => h9) rfl dX7_way_25 ?_
        refine lv_iload_n hx hb dX7_way_28 rfl (lv_at hl 2 rfl) ?_
        refine lv_iload_n hx hb dX7_way_29 rfl (lv_at hl 2 rfl) ?_
        refine xiast (f := x2) (x := (nI a)) hx hb hK hP (hDD _ _) hS 20 (a) (rfl) (by omega) (by decide) rfl dX7_way_30 (fun H locs hP _ hS => ?_)
        have hP : PP G (mM G y b f (up2 r 22 (upd x2 (a) ((nI a))))) H := hP
        refine lv_aload_n hx hb dX7_way_31 rfl (lv_at hl 1 rfl) ?_
        refine va_get (D := G.1) (ci := 7) (v := .ref (b 23)) (C := RX7) (T := TX7) (N := 43) hx hb hts inX7 hown hK.1 hP 0 rfl rfl 23 (by decide) (hts _ mf_X7_71) (fun _ h9 => h9) rfl dX7_way_32 ?_
        refine lv_iconst (v := 0) hx hb dX7_way_35 (by decide) ?_
        refine lv_iload_n hx hb dX7_way_36 rfl (lv_at hl 2 rfl) ?_
        refine xiast (f := (r 23)) (x := (nI a)) hx hb hK hP (hDD _ _) hS 21 (0) (rfl) (by omega) (by decide) rfl dX7_way_37 (fun H locs hP _ hS => ?_)
        have hP : PP G (mM G y b f (up2 (up2 r 22 (upd x2 (a) ((nI a)))) 23 (upd (r 23) (0) ((nI a))))) H := hP
        refine lv_iconst (v := 1) hx hb dX7_way_38 (by decide) ?_
        refine lv_istore (lv' := [(4, .int 1), (0, .ref y), (1, .int (nI a)), (2, .int (nI b2)), (3, .int its)]) hx hb dX7_way_39 hl (by decide) rfl (fun ls hl => ?_)
        refine lv_iconst (v := 0) hx hb dX7_way_41 (by decide) ?_
        refine lv_istore (lv' := [(5, .int 0), (4, .int 1), (0, .ref y), (1, .int (nI a)), (2, .int (nI b2)), (3, .int its)]) hx hb dX7_way_42 hl (by decide) rfl (fun ls hl => ?_)
        have loop44 : ∀ (k4 q1 : Nat) (mn : Nat) (x6 : Nat → Int32) (x7 : Nat → Int32), q1 ≤ 24 → 24 < q1 + k4 → (mn ≤ 24) → (WVO (ndM rw cl (r 18) its) st a b2 x6 x7 q1 mn) → ∀ (H : Heap) (locs : List Loc) (ls : Array Slot), PP G (mM G y b f (up2 (up2 r 22 x6) 23 x7)) H → va_S A s.heap H locs → lv_has ls 9 [(5, .int (nI q1)), (4, .int (nI mn)), (0, .ref y), (2, .int (nI b2)), (3, .int its)] → W p l e ({ frames := 1, cells := 0, slots := 0, locals := 23 }) s m ([.ref y, .int (nI a), .int (nI b2), .int its] : List Value).toArray below meth c H locs 0 0 (MQ below (QwI G (fun q w => ∃ (n_r_22 : Nat → Int32) (n_r_23 : Nat → Int32), w = mM G y b f (up2 (up2 r 22 n_r_22) 23 n_r_23) ∧ ((q = 0 ∧ ∃ zz, CLB st a b2 zz) ∨ (q = 1 ∧ WAY st a b2 n_r_22))) A) ([.ref y, .int (nI a), .int (nI b2), .int its] : List Value).toArray s 0 0 A) (F0 m 44 ls []) := by
          intro k4
          induction k4 with
          | zero => intro q1 mn x6 x7 h1 h2; exact absurd h1 (by omega)
          | succ k4 ih44k4 =>
            intro q1 mn x6 x7 hi_q1 hk_q1 gmn hW H locs ls hP hS hl
            refine lv_iload hx hb dX7_way_44 (lv_at hl 0 rfl) ?_
            refine lv_iload hx hb dX7_way_46 (lv_at hl 1 rfl) ?_
            refine lv_icmp_ge (tgt := 167) hx hb dX7_way_48 (by decide) (fun c8 => ?_) (fun c8 => ?_)
            · have b48 := qge_t (a := q1) (b := mn) (by omega) (by omega) c8
              refine lv_aload_n hx hb dX7_way_167 rfl (lv_at hl 2 rfl) ?_
              refine va_get (D := G.1) (ci := 7) (v := .ref (b 22)) (C := RX7) (T := TX7) (N := 43) hx hb hts inX7 hown hK.1 hP 0 rfl rfl 22 (by decide) (hts _ mf_X7_68) (fun _ h9 => h9) rfl dX7_way_168 ?_
              refine lv_iload_n hx hb dX7_way_171 rfl (lv_at hl 3 rfl) ?_
              refine xiald (f := x6) hx hb hK hP 20 (b2) (rfl) (by omega) (by decide) rfl dX7_way_172 ?_
              refine lv_topi (fun v9 ev9 => ?_)
              refine lv_iconst (v := -1) hx hb dX7_way_173 (by decide) ?_
              refine lv_icmp_eq (tgt := 181) hx hb dX7_way_174 (by decide) (fun c10 => ?_) (fun c10 => ?_)
              · refine lv_iconst (v := 0) hx hb dX7_way_181 (by decide) ?_
                exact wr_zret hx hb hr hlocks (Or.inl rfl) hS hP ⟨x6, x7, rfl, Or.inl ⟨rfl, _, WVO_clo hW (by omega) (ev9.symm.trans c10)⟩⟩ dX7_way_182
              · refine lv_iconst (v := 1) hx hb dX7_way_177 (by decide) ?_
                refine lv_goto (tgt := 182) hx hb dX7_way_178 (by decide) ?_
                exact wr_zret hx hb hr hlocks (Or.inr rfl) hS hP ⟨x6, x7, rfl, Or.inr ⟨rfl, WVO_way hW (fun h9 => c10 (ev9.trans h9))⟩⟩ dX7_way_182
            · have b48 := qge_f (a := q1) (b := mn) (by omega) (by omega) c8
              refine lv_aload_n hx hb dX7_way_51 rfl (lv_at hl 2 rfl) ?_
              refine va_get (D := G.1) (ci := 7) (v := .ref (b 22)) (C := RX7) (T := TX7) (N := 43) hx hb hts inX7 hown hK.1 hP 0 rfl rfl 22 (by decide) (hts _ mf_X7_68) (fun _ h9 => h9) rfl dX7_way_52 ?_
              refine lv_iload_n hx hb dX7_way_55 rfl (lv_at hl 3 rfl) ?_
              refine xiald (f := x6) hx hb hK hP 20 (b2) (rfl) (by omega) (by decide) rfl dX7_way_56 ?_
              refine lv_topi (fun v11 ev11 => ?_)
              refine lv_iconst (v := -1) hx hb dX7_way_57 (by decide) ?_
              refine lv_icmp_ne (tgt := 167) hx hb dX7_way_58 (by decide) (fun c12 => ?_) (fun c12 => ?_)
              · refine lv_aload_n hx hb dX7_way_167 rfl (lv_at hl 2 rfl) ?_
                refine va_get (D := G.1) (ci := 7) (v := .ref (b 22)) (C := RX7) (T := TX7) (N := 43) hx hb hts inX7 hown hK.1 hP 0 rfl rfl 22 (by decide) (hts _ mf_X7_68) (fun _ h9 => h9) rfl dX7_way_168 ?_
                refine lv_iload_n hx hb dX7_way_171 rfl (lv_at hl 3 rfl) ?_
                refine xiald (f := x6) hx hb hK hP 20 (b2) (rfl) (by omega) (by decide) rfl dX7_way_172 ?_
                refine lv_topi (fun v13 ev13 => ?_)
                refine lv_iconst (v := -1) hx hb dX7_way_173 (by decide) ?_
                refine lv_icmp_eq (tgt := 181) hx hb dX7_way_174 (by decide) (fun c14 => ?_) (fun c14 => ?_)
                · refine lv_iconst (v := 0) hx hb dX7_way_181 (by decide) ?_
                  exact wr_zret hx hb hr hlocks (Or.inl rfl) hS hP ⟨x6, x7, rfl, absurd (ev11.trans (ev13.symm.trans c14)) c12⟩ dX7_way_182
                · refine lv_iconst (v := 1) hx hb dX7_way_177 (by decide) ?_
                  refine lv_goto (tgt := 182) hx hb dX7_way_178 (by decide) ?_
                  exact wr_zret hx hb hr hlocks (Or.inr rfl) hS hP ⟨x6, x7, rfl, Or.inr ⟨rfl, WVO_way hW (fun h9 => c14 (ev13.trans h9))⟩⟩ dX7_way_182
              · obtain ⟨nd, hnd, end_, hndk⟩ := WVO_at hW (ev11.symm.trans c12) b48
                refine lv_aload_n hx hb dX7_way_61 rfl (lv_at hl 2 rfl) ?_
                refine va_get (D := G.1) (ci := 7) (v := .ref (b 23)) (C := RX7) (T := TX7) (N := 43) hx hb hts inX7 hown hK.1 hP 0 rfl rfl 23 (by decide) (hts _ mf_X7_71) (fun _ h9 => h9) rfl dX7_way_62 ?_
                refine lv_iload hx hb dX7_way_65 (lv_at hl 0 rfl) ?_
                refine xiald (f := x7) hx hb hK hP 21 (q1) (rfl) (by omega) (by decide) rfl dX7_way_67 ?_
                refine lv_topi (fun v15 ev15 => ?_)
                obtain rfl : v15 = nI (nd) := ev15.trans (end_)
                refine lv_istore (lv' := [(6, .int (nI (nd))), (5, .int (nI q1)), (4, .int (nI mn)), (0, .ref y), (2, .int (nI b2)), (3, .int its)]) hx hb dX7_way_68 hl (by decide) rfl (fun ls hl => ?_)
                refine lv_iload hx hb dX7_way_70 (lv_at hl 0 rfl) ?_
                refine lv_bipush (v := 12) hx hb dX7_way_72 (by decide) ?_
                refine lv_icmp_ge (tgt := 82) hx hb dX7_way_74 (by decide) (fun c16 => ?_) (fun c16 => ?_)
                · have b74 := qge_t (a := (nd)) (b := 12) (by omega) (by omega) c16
                  refine lv_iconst (v := 0) hx hb dX7_way_82 (by decide) ?_
                  refine lv_istore (lv' := [(7, .int 0), (6, .int (nI (nd))), (5, .int (nI q1)), (4, .int (nI mn)), (0, .ref y), (2, .int (nI b2)), (3, .int its)]) hx hb dX7_way_83 hl (by decide) rfl (fun ls hl => ?_)
                  refine lv_iload hx hb dX7_way_85 (lv_at hl 0 rfl) ?_
                  refine lv_istore (lv' := [(8, .int 0), (7, .int 0), (6, .int (nI (nd))), (5, .int (nI q1)), (4, .int (nI mn)), (0, .ref y), (2, .int (nI b2)), (3, .int its)]) hx hb dX7_way_87 hl (by decide) rfl (fun ls hl => ?_)
                  have loop89 : ∀ (k17 j : Nat) (mn : Nat) (x19 : Nat → Int32) (x20 : Nat → Int32), j ≤ 12 → 12 < j + k17 → (mn ≤ 24) → (WVS (ndM rw cl (r 18) its) st a b2 nd 0 j x19 x20 q1 mn) → (q1 < mn ∧ x20 q1 = nI nd) → (0 ≤ j) → ∀ (H : Heap) (locs : List Loc) (ls : Array Slot), PP G (mM G y b f (up2 (up2 r 22 x19) 23 x20)) H → va_S A s.heap H locs → lv_has ls 9 [(8, .int (nI j)), (7, .int 0), (6, .int (nI (nd))), (5, .int (nI q1)), (4, .int (nI mn)), (0, .ref y), (2, .int (nI b2)), (3, .int its)] → W p l e ({ frames := 1, cells := 0, slots := 0, locals := 23 }) s m ([.ref y, .int (nI a), .int (nI b2), .int its] : List Value).toArray below meth c H locs 0 0 (MQ below (QwI G (fun q w => ∃ (n_r_22 : Nat → Int32) (n_r_23 : Nat → Int32), w = mM G y b f (up2 (up2 r 22 n_r_22) 23 n_r_23) ∧ ((q = 0 ∧ ∃ zz, CLB st a b2 zz) ∨ (q = 1 ∧ WAY st a b2 n_r_22))) A) ([.ref y, .int (nI a), .int (nI b2), .int its] : List Value).toArray s 0 0 A) (F0 m 89 ls []) := by
                    intro k17
                    induction k17 with
                    | zero => intro j mn x19 x20 h1 h2; exact absurd h1 (by omega)
                    | succ k17 ih89k17 =>
                      intro j mn x19 x20 hi_j hk_j gmn hV hqd hj0 H locs ls hP hS hl
                      refine lv_iload hx hb dX7_way_89 (lv_at hl 0 rfl) ?_
                      refine lv_iload hx hb dX7_way_91 (lv_at hl 1 rfl) ?_
                      refine lv_bipush (v := 12) hx hb dX7_way_93 (by decide) ?_
                      refine lv_iadd hx hb dX7_way_95 ?_
                      refine lv_topi (fun v21 ev21 => ?_)
                      obtain rfl : v21 = nI (0 + 12) := nI_plus ev21 rfl rfl
                      refine lv_icmp_ge (tgt := 161) hx hb dX7_way_96 (by decide) (fun c22 => ?_) (fun c22 => ?_)
                      · have b96 := qge_t (a := j) (b := (0 + 12)) (by omega) (by omega) c22
                        obtain ⟨v23, ev23⟩ : ∃ y9 : Int32, y9 = (nI q1) + Int32.ofInt (1) := ⟨_, rfl⟩
                        refine lv_iinc (v := v23) (lv' := [(5, .int v23), (8, .int (nI j)), (7, .int 0), (6, .int (nI (nd))), (4, .int (nI mn)), (0, .ref y), (2, .int (nI b2)), (3, .int its)]) hx hb dX7_way_161 hl (k := 3) rfl ev23.symm (by decide) rfl (fun ls hl => ?_)
                        obtain rfl : v23 = nI (q1 + 1) := nI_plus (i := q1) (j := 1) ev23 rfl (by decide)
                        refine lv_goto (tgt := 44) hx hb dX7_way_164 (by decide) ?_
                        exact ih44k4 (q1 + 1) mn x19 x20 (by omega) (by omega) (by omega) (WVO_s hV hqd.1 hnd hqd.2 (fun v h8 h9 => by have h7 := (hsn nd v (by omega) h8 h9).1; unfold bip at h7; omega)) _ _ _ hP hS (lv_sub hl [0, 4, 5, 6, 7] rfl)
                      · have b96 := qge_f (a := j) (b := (0 + 12)) (by omega) (by omega) c22
                        refine lv_aload_n hx hb dX7_way_99 rfl (lv_at hl 5 rfl) ?_
                        refine va_get (D := G.1) (ci := 7) (v := .ref (b 22)) (C := RX7) (T := TX7) (N := 43) hx hb hts inX7 hown hK.1 hP 0 rfl rfl 22 (by decide) (hts _ mf_X7_68) (fun _ h9 => h9) rfl dX7_way_100 ?_
                        refine lv_iload hx hb dX7_way_103 (lv_at hl 0 rfl) ?_
                        refine xiald (f := x19) hx hb hK hP 20 (j) (rfl) (by omega) (by decide) rfl dX7_way_105 ?_
                        refine lv_topi (fun v24 ev24 => ?_)
                        refine lv_iconst (v := -1) hx hb dX7_way_106 (by decide) ?_
                        refine lv_icmp_ne (tgt := 155) hx hb dX7_way_107 (by decide) (fun c25 => ?_) (fun c25 => ?_)
                        · obtain ⟨v26, ev26⟩ : ∃ y9 : Int32, y9 = (nI j) + Int32.ofInt (1) := ⟨_, rfl⟩
                          refine lv_iinc (v := v26) (lv' := [(8, .int v26), (7, .int 0), (6, .int (nI (nd))), (5, .int (nI q1)), (4, .int (nI mn)), (0, .ref y), (2, .int (nI b2)), (3, .int its)]) hx hb dX7_way_155 hl (k := 0) rfl ev26.symm (by decide) rfl (fun ls hl => ?_)
                          obtain rfl : v26 = nI (j + 1) := nI_plus (i := j) (j := 1) ev26 rfl (by decide)
                          refine lv_goto (tgt := 89) hx hb dX7_way_158 (by decide) ?_
                          exact ih89k17 (j + 1) mn x19 x20 (by omega) (by omega) (by omega) (WVS_n hV (fun _ => Rf_t (by omega) (fun h9 => c25 (ev24.trans h9)))) (hqd) (by omega) _ _ _ hP hS (lv_sub hl [0, 1, 2, 3, 4, 5, 6, 7] rfl)
                        · refine lv_aload_n hx hb dX7_way_110 rfl (lv_at hl 5 rfl) ?_
                          refine lv_iload hx hb dX7_way_111 (lv_at hl 0 rfl) ?_
                          refine lv_iload_n hx hb dX7_way_113 rfl (lv_at hl 7 rfl) ?_
                          refine rdV (rest := []) (q0 := 0) ⟨hx, hb, hml, hown, hts⟩ (n_isNode l G y b f (up2 (up2 r 22 x19) 23 x20) j its rw cl (by omega) (by omega) (by omega) h20 h21) mi_yX7_isNode mv_yX7_isNode ml_X7_198 ⟨rfl, rfl, Nat.le_of_ble_eq_true rfl, Nat.le_of_ble_eq_true rfl⟩ hK (hP) rfl rfl rfl hl.1 rfl (Nat.le_of_ble_eq_true rfl) dX7_way_114 ⟨Nat.zero_le _, Nat.zero_le _⟩ hS hA hP (fun r27 H locs hr27 hP hS => ?_)
                          have hr27 : ((r27 = 1 ∧ (ndM rw cl (r 18) its j)) ∨ (r27 = 0 ∧ ¬ (ndM rw cl (r 18) its j))) := hr27
                          refine lv_if_eq (tgt := 155) hx hb dX7_way_117 (by decide) (fun c28 => ?_) (fun c28 => ?_)
                          · have b117 := bF hr27 c28
                            obtain ⟨v29, ev29⟩ : ∃ y9 : Int32, y9 = (nI j) + Int32.ofInt (1) := ⟨_, rfl⟩
                            refine lv_iinc (v := v29) (lv' := [(8, .int v29), (7, .int 0), (6, .int (nI (nd))), (5, .int (nI q1)), (4, .int (nI mn)), (0, .ref y), (2, .int (nI b2)), (3, .int its)]) hx hb dX7_way_155 hl (k := 0) rfl ev29.symm (by decide) rfl (fun ls hl => ?_)
                            obtain rfl : v29 = nI (j + 1) := nI_plus (i := j) (j := 1) ev29 rfl (by decide)
                            refine lv_goto (tgt := 89) hx hb dX7_way_158 (by decide) ?_
                            exact ih89k17 (j + 1) mn x19 x20 (by omega) (by omega) (by omega) (WVS_n hV (fun h9 => absurd (hsn nd j (by omega) (by omega) h9).2 b117)) (hqd) (by omega) _ _ _ hP hS (lv_sub hl [0, 1, 2, 3, 4, 5, 6, 7] rfl)
                          · have b117 := bT hr27 c28
                            refine lv_aload_n hx hb dX7_way_120 rfl (lv_at hl 5 rfl) ?_
                            refine lv_iload hx hb dX7_way_121 (lv_at hl 2 rfl) ?_
                            refine lv_iload hx hb dX7_way_123 (lv_at hl 0 rfl) ?_
                            refine rdV (rest := []) (q0 := 0) ⟨hx, hb, hml, hown, hts⟩ (m_X7_room l G y b f (up2 (up2 r 22 x19) 23 x20) (nd) j  (by unfold bip; omega)) mi_yX7_room mv_yX7_room ml_X7_201 ⟨rfl, rfl, Nat.le_of_ble_eq_true rfl, Nat.le_of_ble_eq_true rfl⟩ hK (hP) rfl rfl rfl hl.1 rfl (Nat.le_of_ble_eq_true rfl) dX7_way_125 ⟨Nat.zero_le _, Nat.zero_le _⟩ hS hA hP (fun r30 H locs hr30 hP hS => ?_)
                            obtain rfl := hr30
                            refine lv_if_gt (tgt := 134) hx hb dX7_way_128 (by decide) (fun c31 => ?_) (fun c31 => ?_)
                            · have hbt := (hst nd j (by unfold bip; omega) hndk b117).mp c31
                              have hfj : x19 j = -1 := ev24.symm.trans c25
                              have hlt24 : mn < 24 := by have h9 := Rf_cnt (nd := nd) (show j < 24 by omega) (by omega) hfj; have h8 := Rf_le (fr := upd x19 j (nI nd)); have h7 := WVS_cnt hV; omega
                              refine lv_aload_n hx hb dX7_way_134 rfl (lv_at hl 5 rfl) ?_
                              refine va_get (D := G.1) (ci := 7) (v := .ref (b 22)) (C := RX7) (T := TX7) (N := 43) hx hb hts inX7 hown hK.1 hP 0 rfl rfl 22 (by decide) (hts _ mf_X7_68) (fun _ h9 => h9) rfl dX7_way_135 ?_
                              refine lv_iload hx hb dX7_way_138 (lv_at hl 0 rfl) ?_
                              refine lv_iload hx hb dX7_way_140 (lv_at hl 2 rfl) ?_
                              refine xiast (f := x19) (x := (nI (nd))) hx hb hK hP (hDD _ _) hS 20 (j) (rfl) (by omega) (by decide) rfl dX7_way_142 (fun H locs hP _ hS => ?_)
                              have hP : PP G (mM G y b f (up2 (up2 r 22 (upd x19 (j) ((nI (nd))))) 23 x20)) H := hP
                              refine lv_aload_n hx hb dX7_way_143 rfl (lv_at hl 5 rfl) ?_
                              refine va_get (D := G.1) (ci := 7) (v := .ref (b 23)) (C := RX7) (T := TX7) (N := 43) hx hb hts inX7 hown hK.1 hP 0 rfl rfl 23 (by decide) (hts _ mf_X7_71) (fun _ h9 => h9) rfl dX7_way_144 ?_
                              refine lv_iload hx hb dX7_way_147 (lv_at hl 4 rfl) ?_
                              refine lv_iload hx hb dX7_way_149 (lv_at hl 0 rfl) ?_
                              refine xiast (f := x20) (x := (nI j)) hx hb hK hP (hDD _ _) hS 21 (mn) (rfl) (by omega) (by decide) rfl dX7_way_151 (fun H locs hP _ hS => ?_)
                              have hP : PP G (mM G y b f (up2 (up2 r 22 (upd x19 (j) ((nI (nd))))) 23 (upd x20 (mn) ((nI j))))) H := hP
                              obtain ⟨v32, ev32⟩ : ∃ y9 : Int32, y9 = (nI mn) + Int32.ofInt (1) := ⟨_, rfl⟩
                              refine lv_iinc (v := v32) (lv' := [(4, .int v32), (8, .int (nI j)), (7, .int 0), (6, .int (nI (nd))), (5, .int (nI q1)), (0, .ref y), (2, .int (nI b2)), (3, .int its)]) hx hb dX7_way_152 hl (k := 4) rfl ev32.symm (by decide) rfl (fun ls hl => ?_)
                              obtain rfl : v32 = nI (mn + 1) := nI_plus (i := mn) (j := 1) ev32 rfl (by decide)
                              obtain ⟨v33, ev33⟩ : ∃ y9 : Int32, y9 = (nI j) + Int32.ofInt (1) := ⟨_, rfl⟩
                              refine lv_iinc (v := v33) (lv' := [(8, .int v33), (4, .int (nI (mn + 1))), (7, .int 0), (6, .int (nI (nd))), (5, .int (nI q1)), (0, .ref y), (2, .int (nI b2)), (3, .int its)]) hx hb dX7_way_155 hl (k := 1) rfl ev33.symm (by decide) rfl (fun ls hl => ?_)
                              obtain rfl : v33 = nI (j + 1) := nI_plus (i := j) (j := 1) ev33 rfl (by decide)
                              refine lv_goto (tgt := 89) hx hb dX7_way_158 (by decide) ?_
                              exact ih89k17 (j + 1) (mn + 1) (upd x19 (j) ((nI (nd)))) (upd x20 (mn) ((nI j))) (by omega) (by omega) (by omega) (WVS_p hV ha hqd.1 hnd hqd.2 (by omega) hfj hbt b117 hb2) (⟨by omega, (pk_un (by omega)).trans hqd.2⟩) (by omega) _ _ _ hP hS (lv_sub hl [0, 2, 3, 4, 1, 5, 6, 7] rfl)
                            · refine lv_goto (tgt := 155) hx hb dX7_way_131 (by decide) ?_
                              obtain ⟨v34, ev34⟩ : ∃ y9 : Int32, y9 = (nI j) + Int32.ofInt (1) := ⟨_, rfl⟩
                              refine lv_iinc (v := v34) (lv' := [(8, .int v34), (7, .int 0), (6, .int (nI (nd))), (5, .int (nI q1)), (4, .int (nI mn)), (0, .ref y), (2, .int (nI b2)), (3, .int its)]) hx hb dX7_way_155 hl (k := 0) rfl ev34.symm (by decide) rfl (fun ls hl => ?_)
                              obtain rfl : v34 = nI (j + 1) := nI_plus (i := j) (j := 1) ev34 rfl (by decide)
                              refine lv_goto (tgt := 89) hx hb dX7_way_158 (by decide) ?_
                              exact ih89k17 (j + 1) mn x19 x20 (by omega) (by omega) (by omega) (WVS_n hV (fun h9 => absurd ((hst nd j (by unfold bip; omega) hndk b117).mpr h9) c31)) (hqd) (by omega) _ _ _ hP hS (lv_sub hl [0, 1, 2, 3, 4, 5, 6, 7] rfl)
                  exact loop89 (12 + 1) 0 mn x6 x7 (by omega) (by omega) (by omega) (WVS_0 hW) (⟨b48, end_⟩) (by omega) _ _ _ hP hS (lv_sub hl [0, 1, 2, 3, 4, 5, 6, 7] rfl)
                · have b74 := qge_f (a := (nd)) (b := 12) (by omega) (by omega) c16
                  refine lv_bipush (v := 12) hx hb dX7_way_77 (by decide) ?_
                  refine lv_goto (tgt := 83) hx hb dX7_way_79 (by decide) ?_
                  refine lv_istore (lv' := [(7, .int 12), (6, .int (nI (nd))), (5, .int (nI q1)), (4, .int (nI mn)), (0, .ref y), (2, .int (nI b2)), (3, .int its)]) hx hb dX7_way_83 hl (by decide) rfl (fun ls hl => ?_)
                  refine lv_iload hx hb dX7_way_85 (lv_at hl 0 rfl) ?_
                  refine lv_istore (lv' := [(8, .int 12), (7, .int 12), (6, .int (nI (nd))), (5, .int (nI q1)), (4, .int (nI mn)), (0, .ref y), (2, .int (nI b2)), (3, .int its)]) hx hb dX7_way_87 hl (by decide) rfl (fun ls hl => ?_)
                  have loop89 : ∀ (k35 j : Nat) (mn : Nat) (x37 : Nat → Int32) (x38 : Nat → Int32), j ≤ 24 → 24 < j + k35 → (mn ≤ 24) → (WVS (ndM rw cl (r 18) its) st a b2 nd 12 j x37 x38 q1 mn) → (q1 < mn ∧ x38 q1 = nI nd) → (12 ≤ j) → ∀ (H : Heap) (locs : List Loc) (ls : Array Slot), PP G (mM G y b f (up2 (up2 r 22 x37) 23 x38)) H → va_S A s.heap H locs → lv_has ls 9 [(8, .int (nI j)), (7, .int 12), (6, .int (nI (nd))), (5, .int (nI q1)), (4, .int (nI mn)), (0, .ref y), (2, .int (nI b2)), (3, .int its)] → W p l e ({ frames := 1, cells := 0, slots := 0, locals := 23 }) s m ([.ref y, .int (nI a), .int (nI b2), .int its] : List Value).toArray below meth c H locs 0 0 (MQ below (QwI G (fun q w => ∃ (n_r_22 : Nat → Int32) (n_r_23 : Nat → Int32), w = mM G y b f (up2 (up2 r 22 n_r_22) 23 n_r_23) ∧ ((q = 0 ∧ ∃ zz, CLB st a b2 zz) ∨ (q = 1 ∧ WAY st a b2 n_r_22))) A) ([.ref y, .int (nI a), .int (nI b2), .int its] : List Value).toArray s 0 0 A) (F0 m 89 ls []) := by
                    intro k35
                    induction k35 with
                    | zero => intro j mn x37 x38 h1 h2; exact absurd h1 (by omega)
                    | succ k35 ih89k35 =>
                      intro j mn x37 x38 hi_j hk_j gmn hV hqd hj0 H locs ls hP hS hl
                      refine lv_iload hx hb dX7_way_89 (lv_at hl 0 rfl) ?_
                      refine lv_iload hx hb dX7_way_91 (lv_at hl 1 rfl) ?_
                      refine lv_bipush (v := 12) hx hb dX7_way_93 (by decide) ?_
                      refine lv_iadd hx hb dX7_way_95 ?_
                      refine lv_topi (fun v39 ev39 => ?_)
                      obtain rfl : v39 = nI (12 + 12) := nI_plus ev39 rfl rfl
                      refine lv_icmp_ge (tgt := 161) hx hb dX7_way_96 (by decide) (fun c40 => ?_) (fun c40 => ?_)
                      · have b96 := qge_t (a := j) (b := (12 + 12)) (by omega) (by omega) c40
                        obtain ⟨v41, ev41⟩ : ∃ y9 : Int32, y9 = (nI q1) + Int32.ofInt (1) := ⟨_, rfl⟩
                        refine lv_iinc (v := v41) (lv' := [(5, .int v41), (8, .int (nI j)), (7, .int 12), (6, .int (nI (nd))), (4, .int (nI mn)), (0, .ref y), (2, .int (nI b2)), (3, .int its)]) hx hb dX7_way_161 hl (k := 3) rfl ev41.symm (by decide) rfl (fun ls hl => ?_)
                        obtain rfl : v41 = nI (q1 + 1) := nI_plus (i := q1) (j := 1) ev41 rfl (by decide)
                        refine lv_goto (tgt := 44) hx hb dX7_way_164 (by decide) ?_
                        exact ih44k4 (q1 + 1) mn x37 x38 (by omega) (by omega) (by omega) (WVO_s hV hqd.1 hnd hqd.2 (fun v h8 h9 => by have h7 := (hsn nd v (by omega) h8 h9).1; unfold bip at h7; omega)) _ _ _ hP hS (lv_sub hl [0, 4, 5, 6, 7] rfl)
                      · have b96 := qge_f (a := j) (b := (12 + 12)) (by omega) (by omega) c40
                        refine lv_aload_n hx hb dX7_way_99 rfl (lv_at hl 5 rfl) ?_
                        refine va_get (D := G.1) (ci := 7) (v := .ref (b 22)) (C := RX7) (T := TX7) (N := 43) hx hb hts inX7 hown hK.1 hP 0 rfl rfl 22 (by decide) (hts _ mf_X7_68) (fun _ h9 => h9) rfl dX7_way_100 ?_
                        refine lv_iload hx hb dX7_way_103 (lv_at hl 0 rfl) ?_
                        refine xiald (f := x37) hx hb hK hP 20 (j) (rfl) (by omega) (by decide) rfl dX7_way_105 ?_
                        refine lv_topi (fun v42 ev42 => ?_)
                        refine lv_iconst (v := -1) hx hb dX7_way_106 (by decide) ?_
                        refine lv_icmp_ne (tgt := 155) hx hb dX7_way_107 (by decide) (fun c43 => ?_) (fun c43 => ?_)
                        · obtain ⟨v44, ev44⟩ : ∃ y9 : Int32, y9 = (nI j) + Int32.ofInt (1) := ⟨_, rfl⟩
                          refine lv_iinc (v := v44) (lv' := [(8, .int v44), (7, .int 12), (6, .int (nI (nd))), (5, .int (nI q1)), (4, .int (nI mn)), (0, .ref y), (2, .int (nI b2)), (3, .int its)]) hx hb dX7_way_155 hl (k := 0) rfl ev44.symm (by decide) rfl (fun ls hl => ?_)
                          obtain rfl : v44 = nI (j + 1) := nI_plus (i := j) (j := 1) ev44 rfl (by decide)
                          refine lv_goto (tgt := 89) hx hb dX7_way_158 (by decide) ?_
                          exact ih89k35 (j + 1) mn x37 x38 (by omega) (by omega) (by omega) (WVS_n hV (fun _ => Rf_t (by omega) (fun h9 => c43 (ev42.trans h9)))) (hqd) (by omega) _ _ _ hP hS (lv_sub hl [0, 1, 2, 3, 4, 5, 6, 7] rfl)
                        · refine lv_aload_n hx hb dX7_way_110 rfl (lv_at hl 5 rfl) ?_
                          refine lv_iload hx hb dX7_way_111 (lv_at hl 0 rfl) ?_
                          refine lv_iload_n hx hb dX7_way_113 rfl (lv_at hl 7 rfl) ?_
                          refine rdV (rest := []) (q0 := 0) ⟨hx, hb, hml, hown, hts⟩ (n_isNode l G y b f (up2 (up2 r 22 x37) 23 x38) j its rw cl (by omega) (by omega) (by omega) h20 h21) mi_yX7_isNode mv_yX7_isNode ml_X7_198 ⟨rfl, rfl, Nat.le_of_ble_eq_true rfl, Nat.le_of_ble_eq_true rfl⟩ hK (hP) rfl rfl rfl hl.1 rfl (Nat.le_of_ble_eq_true rfl) dX7_way_114 ⟨Nat.zero_le _, Nat.zero_le _⟩ hS hA hP (fun r45 H locs hr45 hP hS => ?_)
                          have hr45 : ((r45 = 1 ∧ (ndM rw cl (r 18) its j)) ∨ (r45 = 0 ∧ ¬ (ndM rw cl (r 18) its j))) := hr45
                          refine lv_if_eq (tgt := 155) hx hb dX7_way_117 (by decide) (fun c46 => ?_) (fun c46 => ?_)
                          · have b117 := bF hr45 c46
                            obtain ⟨v47, ev47⟩ : ∃ y9 : Int32, y9 = (nI j) + Int32.ofInt (1) := ⟨_, rfl⟩
                            refine lv_iinc (v := v47) (lv' := [(8, .int v47), (7, .int 12), (6, .int (nI (nd))), (5, .int (nI q1)), (4, .int (nI mn)), (0, .ref y), (2, .int (nI b2)), (3, .int its)]) hx hb dX7_way_155 hl (k := 0) rfl ev47.symm (by decide) rfl (fun ls hl => ?_)
                            obtain rfl : v47 = nI (j + 1) := nI_plus (i := j) (j := 1) ev47 rfl (by decide)
                            refine lv_goto (tgt := 89) hx hb dX7_way_158 (by decide) ?_
                            exact ih89k35 (j + 1) mn x37 x38 (by omega) (by omega) (by omega) (WVS_n hV (fun h9 => absurd (hsn nd j (by omega) (by omega) h9).2 b117)) (hqd) (by omega) _ _ _ hP hS (lv_sub hl [0, 1, 2, 3, 4, 5, 6, 7] rfl)
                          · have b117 := bT hr45 c46
                            refine lv_aload_n hx hb dX7_way_120 rfl (lv_at hl 5 rfl) ?_
                            refine lv_iload hx hb dX7_way_121 (lv_at hl 2 rfl) ?_
                            refine lv_iload hx hb dX7_way_123 (lv_at hl 0 rfl) ?_
                            refine rdV (rest := []) (q0 := 0) ⟨hx, hb, hml, hown, hts⟩ (m_X7_room l G y b f (up2 (up2 r 22 x37) 23 x38) (nd) j  (by unfold bip; omega)) mi_yX7_room mv_yX7_room ml_X7_201 ⟨rfl, rfl, Nat.le_of_ble_eq_true rfl, Nat.le_of_ble_eq_true rfl⟩ hK (hP) rfl rfl rfl hl.1 rfl (Nat.le_of_ble_eq_true rfl) dX7_way_125 ⟨Nat.zero_le _, Nat.zero_le _⟩ hS hA hP (fun r48 H locs hr48 hP hS => ?_)
                            obtain rfl := hr48
                            refine lv_if_gt (tgt := 134) hx hb dX7_way_128 (by decide) (fun c49 => ?_) (fun c49 => ?_)
                            · have hbt := (hst nd j (by unfold bip; omega) hndk b117).mp c49
                              have hfj : x37 j = -1 := ev42.symm.trans c43
                              have hlt24 : mn < 24 := by have h9 := Rf_cnt (nd := nd) (show j < 24 by omega) (by omega) hfj; have h8 := Rf_le (fr := upd x37 j (nI nd)); have h7 := WVS_cnt hV; omega
                              refine lv_aload_n hx hb dX7_way_134 rfl (lv_at hl 5 rfl) ?_
                              refine va_get (D := G.1) (ci := 7) (v := .ref (b 22)) (C := RX7) (T := TX7) (N := 43) hx hb hts inX7 hown hK.1 hP 0 rfl rfl 22 (by decide) (hts _ mf_X7_68) (fun _ h9 => h9) rfl dX7_way_135 ?_
                              refine lv_iload hx hb dX7_way_138 (lv_at hl 0 rfl) ?_
                              refine lv_iload hx hb dX7_way_140 (lv_at hl 2 rfl) ?_
                              refine xiast (f := x37) (x := (nI (nd))) hx hb hK hP (hDD _ _) hS 20 (j) (rfl) (by omega) (by decide) rfl dX7_way_142 (fun H locs hP _ hS => ?_)
                              have hP : PP G (mM G y b f (up2 (up2 r 22 (upd x37 (j) ((nI (nd))))) 23 x38)) H := hP
                              refine lv_aload_n hx hb dX7_way_143 rfl (lv_at hl 5 rfl) ?_
                              refine va_get (D := G.1) (ci := 7) (v := .ref (b 23)) (C := RX7) (T := TX7) (N := 43) hx hb hts inX7 hown hK.1 hP 0 rfl rfl 23 (by decide) (hts _ mf_X7_71) (fun _ h9 => h9) rfl dX7_way_144 ?_
                              refine lv_iload hx hb dX7_way_147 (lv_at hl 4 rfl) ?_
                              refine lv_iload hx hb dX7_way_149 (lv_at hl 0 rfl) ?_
                              refine xiast (f := x38) (x := (nI j)) hx hb hK hP (hDD _ _) hS 21 (mn) (rfl) (by omega) (by decide) rfl dX7_way_151 (fun H locs hP _ hS => ?_)
                              have hP : PP G (mM G y b f (up2 (up2 r 22 (upd x37 (j) ((nI (nd))))) 23 (upd x38 (mn) ((nI j))))) H := hP
                              obtain ⟨v50, ev50⟩ : ∃ y9 : Int32, y9 = (nI mn) + Int32.ofInt (1) := ⟨_, rfl⟩
                              refine lv_iinc (v := v50) (lv' := [(4, .int v50), (8, .int (nI j)), (7, .int 12), (6, .int (nI (nd))), (5, .int (nI q1)), (0, .ref y), (2, .int (nI b2)), (3, .int its)]) hx hb dX7_way_152 hl (k := 4) rfl ev50.symm (by decide) rfl (fun ls hl => ?_)
                              obtain rfl : v50 = nI (mn + 1) := nI_plus (i := mn) (j := 1) ev50 rfl (by decide)
                              obtain ⟨v51, ev51⟩ : ∃ y9 : Int32, y9 = (nI j) + Int32.ofInt (1) := ⟨_, rfl⟩
                              refine lv_iinc (v := v51) (lv' := [(8, .int v51), (4, .int (nI (mn + 1))), (7, .int 12), (6, .int (nI (nd))), (5, .int (nI q1)), (0, .ref y), (2, .int (nI b2)), (3, .int its)]) hx hb dX7_way_155 hl (k := 1) rfl ev51.symm (by decide) rfl (fun ls hl => ?_)
                              obtain rfl : v51 = nI (j + 1) := nI_plus (i := j) (j := 1) ev51 rfl (by decide)
                              refine lv_goto (tgt := 89) hx hb dX7_way_158 (by decide) ?_
                              exact ih89k35 (j + 1) (mn + 1) (upd x37 (j) ((nI (nd)))) (upd x38 (mn) ((nI j))) (by omega) (by omega) (by omega) (WVS_p hV ha hqd.1 hnd hqd.2 (by omega) hfj hbt b117 hb2) (⟨by omega, (pk_un (by omega)).trans hqd.2⟩) (by omega) _ _ _ hP hS (lv_sub hl [0, 2, 3, 4, 1, 5, 6, 7] rfl)
                            · refine lv_goto (tgt := 155) hx hb dX7_way_131 (by decide) ?_
                              obtain ⟨v52, ev52⟩ : ∃ y9 : Int32, y9 = (nI j) + Int32.ofInt (1) := ⟨_, rfl⟩
                              refine lv_iinc (v := v52) (lv' := [(8, .int v52), (7, .int 12), (6, .int (nI (nd))), (5, .int (nI q1)), (4, .int (nI mn)), (0, .ref y), (2, .int (nI b2)), (3, .int its)]) hx hb dX7_way_155 hl (k := 0) rfl ev52.symm (by decide) rfl (fun ls hl => ?_)
                              obtain rfl : v52 = nI (j + 1) := nI_plus (i := j) (j := 1) ev52 rfl (by decide)
                              refine lv_goto (tgt := 89) hx hb dX7_way_158 (by decide) ?_
                              exact ih89k35 (j + 1) mn x37 x38 (by omega) (by omega) (by omega) (WVS_n hV (fun h9 => absurd ((hst nd j (by unfold bip; omega) hndk b117).mpr h9) c49)) (hqd) (by omega) _ _ _ hP hS (lv_sub hl [0, 1, 2, 3, 4, 5, 6, 7] rfl)
                  exact loop89 (24 + 1) 12 mn x6 x7 (by omega) (by omega) (by omega) (WVS_0 hW) (⟨b48, end_⟩) (by omega) _ _ _ hP hS (lv_sub hl [0, 1, 2, 3, 4, 5, 6, 7] rfl)
        exact loop44 (24 + 1) 0 1 (upd x2 (a) ((nI a))) (upd (r 23) (0) ((nI a))) (by omega) (by omega) (by omega) (WVO_0 ha hab (fun n h9 => hfr n (by omega)) hb2 hna) _ _ _ hP hS (lv_sub hl [0, 1, 2, 4, 5] rfl)
      · have b7 := qge_f (a := i) (b := 24) (by omega) (by omega) c3
        refine lv_aload_n hx hb dX7_way_10 rfl (lv_at hl 1 rfl) ?_
        refine va_get (D := G.1) (ci := 7) (v := .ref (b 22)) (C := RX7) (T := TX7) (N := 43) hx hb hts inX7 hown hK.1 hP 0 rfl rfl 22 (by decide) (hts _ mf_X7_68) (fun _ h9 => h9) rfl dX7_way_11 ?_
        refine lv_iload hx hb dX7_way_14 (lv_at hl 0 rfl) ?_
        refine lv_iconst (v := -1) hx hb dX7_way_16 (by decide) ?_
        refine xiast (f := x2) (x := (-1)) hx hb hK hP (hDD _ _) hS 20 (i) (rfl) (by omega) (by decide) rfl dX7_way_17 (fun H locs hP _ hS => ?_)
        have hP : PP G (mM G y b f (up2 r 22 (upd x2 (i) ((-1))))) H := hP
        obtain ⟨v53, ev53⟩ : ∃ y9 : Int32, y9 = (nI i) + Int32.ofInt (1) := ⟨_, rfl⟩
        refine lv_iinc (v := v53) (lv' := [(4, .int v53), (0, .ref y), (1, .int (nI a)), (2, .int (nI b2)), (3, .int its)]) hx hb dX7_way_18 hl (k := 0) rfl ev53.symm (by decide) rfl (fun ls hl => ?_)
        obtain rfl : v53 = nI (i + 1) := nI_plus (i := i) (j := 1) ev53 rfl (by decide)
        refine lv_goto (tgt := 3) hx hb dX7_way_21 (by decide) ?_
        exact ih3k1 (i + 1) (upd x2 (i) ((-1))) (by omega) (by omega) (fr_s hfr) _ _ _ hP hS (lv_sub hl [0, 1, 2, 3, 4] rfl)
  exact loop3 (24 + 1) 0 (r 22) (by omega) (by omega) (fun n h => absurd h (Nat.not_lt_zero n)) _ _ _ hP hS (lv_sub hl [0, 1, 2, 3, 4] rfl)
