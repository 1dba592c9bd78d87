
theorem mv_off {rw cl i j : Nat} {gp mv : Nat → Int32} {its : Int32} {K : Nat → Nat → Bool} (hj : j < 12) (hcl : cl ≤ 12) (h : ∀ x y, dmM rw cl gp its x y = true → (¬ mv (12 * x + y) = 0 ↔ K x y = true)) : ∀ x y, dmM rw cl gp its x y = true → (¬ upd mv (12 * i + j) 0 (12 * x + y) = 0 ↔ (K x y = true ∧ ¬ (x = i ∧ y = j))) := fun x y hd => by
  have q := dmM_of hd
  by_cases e : x = i ∧ y = j
  · rw [e.1, e.2, pk_us]
    exact ⟨fun z => absurd rfl z, fun z => absurd ⟨rfl, rfl⟩ z.2⟩
  · rw [pk_un (by omega), h x y hd]
    exact ⟨fun z => ⟨z, e⟩, fun z => z.1⟩
theorem rowM_set {dm : Nat → Nat → Bool} {U : Nat → Nat → Nat} {va : Nat → Int32} {i j z x : Nat} (hj : j < 12) (h : rowM dm (upT U i j z) va) (hx : x = U i j) : rowM dm U (upd va (12 * i + j) (nI x)) := fun a b ha hb d => by
  by_cases e : a = i ∧ b = j
  · rw [e.1, e.2, pk_us, hx]
  · rw [pk_un (by omega), h a b ha hb d, upT_n e]
def NTm (r6 : Nat → Int32) (t x y : Nat) : Nat := (r6 (144 * t + 12 * x + y)).toNatClampNeg
def STm (r6 : Nat → Int32) (t cl x : Nat) : Nat := (smM r6 t x cl).toNatClampNeg
def LTm (r5 r6 : Nat → Int32) (t cl x y : Nat) : Nat := if r5 (144 * t + 12 * x + y) = 3 then loN (NTm r6 t x y) (STm r6 t cl x) else 0
def HTm (r5 r6 : Nat → Int32) (t cl x y : Nat) : Nat := if r5 (144 * t + 12 * x + y) = 3 then (if STm r6 t cl x = 0 then 0 else hiN (NTm r6 t x y) (STm r6 t cl x)) else 1000000000
noncomputable def DBm (rw cl t bk : Nat) (r3 r5 r11 r13 r14 : Nat → Int32) (its : Int32) (x y : Nat) : Bool := pB (x < rw ∧ y < cl ∧ sndN (r3 t) r11 r5 t x ∧ (clM r13 r14 t (nI x) bk).1 = its)
noncomputable def KBm (rw cl t bk : Nat) (r3 r4 r5 r6 r7 r8 r9 r10 r11 r13 r14 : Nat → Int32) (its : Int32) (x y : Nat) : Bool := pB (x < rw ∧ y < cl ∧ sndN (r3 t) r11 r5 t x ∧ (clM r13 r14 t (nI x) bk).1 = its ∧ kpM r4 r5 r6 r7 r8 r9 r10 t (144 * t + 12 * x + y))
def NRM (rw cl t : Nat) (r3 r5 r6 r11 : Nat → Int32) : Prop := ∀ x y, x < rw → y < cl → sndN (r3 t) r11 r5 t x → ∃ m, m ≤ 1000000 ∧ r6 (144 * t + 12 * x + y) = nI m
theorem NT_e {r6 : Nat → Int32} {t x y m : Nat} (h : r6 (144 * t + 12 * x + y) = nI m) (hm : m ≤ 1000000) : NTm r6 t x y = m := by unfold NTm; rw [h, nI_clamp (by omega)]
theorem sm_M {r6 : Nat → Int32} {t x : Nat} : ∀ n, n ≤ 12 → (∀ y, y < n → ∃ m, m ≤ 1000000 ∧ r6 (144 * t + 12 * x + y) = nI m) → ∃ S, S ≤ 1000000 * n ∧ smM r6 t x n = nI S ∧ ∀ y, y < n → NTm r6 t x y ≤ S
  | 0, _, _ => ⟨0, by omega, rfl, fun y hy => absurd hy (by omega)⟩
  | n + 1, hn, h => by
    obtain ⟨S, h1, h2, h3⟩ := sm_M n (by omega) (fun y hy => h y (by omega))
    obtain ⟨m, hm, em⟩ := h n (by omega)
    refine ⟨S + m, by omega, ?_, fun y hy => ?_⟩
    · show smM r6 t x n + r6 (144 * t + 12 * x + n) = _
      rw [h2, em]; exact nI_add S m
    · by_cases e : y = n
      · subst e; rw [NT_e em hm]; omega
      · have := h3 y (by omega); omega
theorem thM_N {n s : Nat} (h : n ≤ s) (hs : s ≤ 12000000) : thM (nI n) (nI s) = nI (thN n s) := by
  unfold thM
  by_cases e : s = 0
  · subst e; rw [if_pos (show nI 0 = 0 from rfl)]; unfold thN; rw [Nat.div_zero]; rfl
  · have e0 : ¬ nI s = (0 : Int32) := fun z => e ((nI_eq (b := 0) (by omega) (by omega)).mp z)
    rw [if_neg e0]
    exact th_F h (by omega) hs
theorem clM_or (bf bl : Nat → Int32) (t : Nat) (row : Int32) (n : Nat) : (clM bf bl t row (n + 1)).1 = nI n ∨ clM bf bl t row (n + 1) = clM bf bl t row n := by
  by_cases c : bf (12 * t + n) ≤ row ∧ row ≤ bl (12 * t + n) ∧ bl (12 * t + n) - bf (12 * t + n) < (clM bf bl t row n).2
  · rw [clM_p c]; exact Or.inl rfl
  · exact Or.inr (clM_n c)
theorem clM_ge (bf bl : Nat → Int32) (t : Nat) (row : Int32) : ∀ n, ∃ k, k ≤ n ∧ ((clM bf bl t row n).1 = -1 ∨ ((clM bf bl t row n).1 = nI (k - 1) ∧ 0 < k))
  | 0 => ⟨0, Nat.le_refl _, Or.inl rfl⟩
  | n + 1 => by
    obtain ⟨k, hk, h⟩ := clM_ge bf bl t row n
    rcases clM_or bf bl t row n with e | e
    · exact ⟨n + 1, Nat.le_refl _, Or.inr ⟨e, by omega⟩⟩
    · exact ⟨k, by omega, by rw [e]; exact h⟩
theorem cl_n2 {bf bl : Nat → Int32} {t bk : Nat} {row : Int32} (hbk : bk ≤ 12) : ¬ (clM bf bl t row bk).1 = -2 := fun z => by
  obtain ⟨k, hk, h | ⟨h, h0⟩⟩ := clM_ge bf bl t row bk
  · rw [h] at z; exact absurd z (by decide)
  · rw [h] at z
    have h2 := congrArg Int32.toInt z
    rw [nI_toInt (by omega)] at h2
    exact absurd h2 (by rw [show (-2 : Int32).toInt = -2 by decide]; omega)
section LT
variable {t rw cl bk : Nat} {r3 r4 r5 r6 r7 r8 r9 r10 r11 r13 r14 r15 r16 r17 r18 r19 : Nat → Int32} {its : Int32}
theorem LY_dm (h : LYR t cl bk rw r3 r4 r5 r6 r7 r8 r9 r10 r11 r13 r14 r15 r16 r17 r18 r19) (hn : ¬ its = -2) (x y : Nat) : dmM rw cl r18 its x y = DBm rw cl t bk r3 r5 r11 r13 r14 its x y := by
  refine eq_pB ⟨fun z => ?_, fun z => ?_⟩
  · obtain ⟨a1, a2, a3⟩ := dmM_of z
    rcases h x a1 with ⟨b1, b2, _⟩ | ⟨_, b2, _⟩
    · exact ⟨a1, a2, b1, b2.symm.trans a3⟩
    · exact absurd (a3.symm.trans b2) hn
  · obtain ⟨a1, a2, a3, a4⟩ := z
    rcases h x a1 with ⟨b1, b2, _⟩ | ⟨b1, _, _⟩
    · exact dmM_mk a1 a2 (b2.trans a4)
    · exact absurd a3 b1
theorem LY_tab (h : LYR t cl bk rw r3 r4 r5 r6 r7 r8 r9 r10 r11 r13 r14 r15 r16 r17 r18 r19) (hn : ¬ its = -2) (hrw : rw ≤ 12) (hcl : cl ≤ 12) (hN : NRM rw cl t r3 r5 r6 r11) : rowM (dmM rw cl r18 its) (NTm r6 t) r15 ∧ rowM (dmM rw cl r18 its) (LTm r5 r6 t cl) r16 ∧ rowM (dmM rw cl r18 its) (HTm r5 r6 t cl) r17 ∧ BND (dmM rw cl r18 its) (LTm r5 r6 t cl) (HTm r5 r6 t cl) (NTm r6 t) ∧ ∀ x y, dmM rw cl r18 its x y = true → (¬ r19 (12 * x + y) = 0 ↔ KBm rw cl t bk r3 r4 r5 r6 r7 r8 r9 r10 r11 r13 r14 its x y = true) := by
  have key : ∀ x y, dmM rw cl r18 its x y = true → ∃ n S, n ≤ 1000000 ∧ n ≤ S ∧ S ≤ 12000000 ∧ r6 (144 * t + 12 * x + y) = nI n ∧ NTm r6 t x y = n ∧ STm r6 t cl x = S ∧ smM r6 t x cl = nI S ∧ sndN (r3 t) r11 r5 t x ∧ r18 x = (clM r13 r14 t (nI x) bk).1 ∧ LYY cl t r4 r5 r6 r7 r8 r9 r10 r15 r16 r17 r19 (smM r6 t x cl) x cl := fun x y hd => by
    obtain ⟨a1, a2, a3⟩ := dmM_of hd
    rcases h x a1 with ⟨b1, b2, b3⟩ | ⟨_, b2, _⟩
    · obtain ⟨n, hn1, en⟩ := hN x y a1 a2 b1
      obtain ⟨S, h1, h2, h3⟩ := sm_M (r6 := r6) (t := t) (x := x) cl hcl (fun y hy => hN x y a1 hy b1)
      have h4 := h3 y a2
      rw [NT_e en hn1] at h4
      exact ⟨n, S, hn1, h4, by omega, en, NT_e en hn1, by unfold STm; rw [h2, nI_clamp (by omega)], h2, b1, b2, b3⟩
    · exact absurd (a3.symm.trans b2) hn
  refine ⟨fun x y hx hy hd => ?_, fun x y hx hy hd => ?_, fun x y hx hy hd => ?_, fun x y hd => ?_, fun x y hd => ?_⟩
  · obtain ⟨n, S, k1, k2, k3, k4, k5, k6, k7, k8, k9, k10⟩ := key x y hd
    rw [(k10 y (dmM_of hd).2.1).1, k4, k5]
  · obtain ⟨n, S, k1, k2, k3, k4, k5, k6, k7, k8, k9, k10⟩ := key x y hd
    rw [(k10 y (dmM_of hd).2.1).2.2.1, k4, k7]
    unfold loM LTm
    by_cases c : r5 (144 * t + 12 * x + y) = 3
    · rw [if_pos c, if_pos c, thM_N k2 k3, k5, k6]
      by_cases e : S = 0
      · subst e
        have z : n = 0 := by omega
        subst z; decide
      · exact lo_F k2 (by omega) k3
    · rw [if_neg c, if_neg c]; rfl
  · obtain ⟨n, S, k1, k2, k3, k4, k5, k6, k7, k8, k9, k10⟩ := key x y hd
    rw [(k10 y (dmM_of hd).2.1).2.2.2, k4, k7]
    unfold hiM HTm
    by_cases c : r5 (144 * t + 12 * x + y) = 3
    · rw [if_pos c, if_pos c, thM_N k2 k3, k5, k6]
      by_cases e : S = 0
      · subst e; rw [if_pos (show nI 0 = 0 from rfl), if_pos rfl]; rfl
      · have e0 : ¬ nI S = (0 : Int32) := fun z => e ((nI_eq (b := 0) (by omega) (by omega)).mp z)
        rw [if_neg e0, if_neg e]
        exact hi_F k2 (by omega) k3
    · rw [if_neg c, if_neg c]; rfl
  · obtain ⟨n, S, k1, k2, k3, k4, k5, k6, k7, k8, k9, k10⟩ := key x y hd
    have q := dmM_of hd
    refine ⟨by omega, by omega, ?_⟩
    rw [k5]
    unfold HTm LTm
    by_cases c : r5 (144 * t + 12 * x + y) = 3
    · rw [if_pos c, if_pos c, k5, k6]
      by_cases e : S = 0
      · rw [if_pos e]
        have z : n = 0 := by omega
        exact ⟨by omega, by omega, lo_le⟩
      · rw [if_neg e]
        exact ⟨hi_le k2 (by omega) k3, hi_ge (by omega), lo_le⟩
    · rw [if_neg c, if_neg c]; omega
  · obtain ⟨n, S, k1, k2, k3, k4, k5, k6, k7, k8, k9, k10⟩ := key x y hd
    have q := dmM_of hd
    rcases (k10 y q.2.1).2.1 with ⟨e1, e2⟩ | ⟨e1, e2⟩
    · rw [e1]
      exact ⟨fun _ => pB_t ⟨q.1, q.2.1, k8, k9.symm.trans q.2.2, e2⟩, fun _ => by decide⟩
    · rw [e1]
      exact ⟨fun z => absurd rfl z, fun z => absurd (pB_i z).2.2.2.2 e2⟩
end LT
set_option maxHeartbeats 4000000 in
set_option maxRecDepth 100000 in
theorem n_settle (l : Launch) (G : GG) (y : Nat) (b : Nat → Nat) (f : Nat → Int32) (r : Nat → Nat → Int32) (i : Nat) (j : Nat) (up : Int32) (rw : Nat) (cl : Nat) (V0 : Nat → Nat → Nat) (V : Nat → Nat → Nat) (Lo : Nat → Nat → Nat) (Hi : Nat → Nat → Nat) (K : Nat → Nat → Bool) (hi : i < 12) (hj : j < 12) (hrw : rw ≤ 12) (hcl : cl ≤ 12) (h20 : (f 20) = nI rw) (h21 : (f 21) = nI cl) (hcj : dmM rw cl (r 18) ((r 18) i) i j = true) (hKd : ∀ x y, K x y = true → dmM rw cl (r 18) ((r 18) i) x y = true) (hmv : ∀ x y, dmM rw cl (r 18) ((r 18) i) x y = true → (¬ (r 19) (12 * x + y) = 0 ↔ K x y = true)) (hnw : rowM (dmM rw cl (r 18) ((r 18) i)) V (r 15)) (hlw : rowM (dmM rw cl (r 18) ((r 18) i)) Lo (r 16)) (hhg : rowM (dmM rw cl (r 18) ((r 18) i)) Hi (r 17)) (hBd : BND (dmM rw cl (r 18) ((r 18) i)) Lo Hi V) (hAg : agN K Lo Hi V0 V) : WrV l yX7_settle cX7_settle 6 ({ frames := 3, cells := 0, slots := 0, locals := 80 }) G (mM G y b f r) [.ref y, .int (nI i), .int (nI j), .int up] (fun w => ∃ (n_r_15 : Nat → Int32) (n_r_19 : Nat → Int32) (n_r_22 : Nat → Int32) (n_r_23 : Nat → Int32) (V2 : Nat → Nat → Nat), w = mM G y b f (up2 (up2 (up2 (up2 r 15 n_r_15) 19 n_r_19) 22 n_r_22) 23 n_r_23) ∧ (rowM (dmM rw cl (r 18) ((r 18) i)) V2 n_r_15) ∧ (agN K Lo Hi V0 V2) ∧ (BND (dmM rw cl (r 18) ((r 18) i)) Lo Hi V2) ∧ (∀ x y, x < 12 → y < 12 → dmM rw cl (r 18) ((r 18) i) x y = false → n_r_15 (12 * x + y) = (r 15) (12 * x + y)) ∧ ((K i j = false ∧ V2 = V) ∨ (K i j = true ∧ ((up : Int32) = 0 → ∀ w, agN K Lo Hi V0 w → V2 i j ≤ w i j) ∧ (¬ (up : Int32) = 0 → ∀ w, agN K Lo Hi V0 w → w i j ≤ V2 i j))) ∧ (only (12 * i + j) 0 (r 19) n_r_19)) := by
  refine wr_entryV (by decide +kernel) (Nat.le_of_ble_eq_true rfl) ?_
  intro p e s m below meth c A C0 hP hK hD hA ls hl
  have hS : va_S A s.heap s.heap [] := va_S.rf
  obtain ⟨hx, hb, hml, hown, hts, hr, hlocks, hin⟩ := C0
  have hown : s.vm.findClass RX7 = some m.cls := hown
  have hDD : ∀ f' r', va_D A (mM G y b f' r') := fun f' r' => D_same hD rfl
  have hl : lv_has ls 6 [(0, .ref y), (1, .int (nI i)), (2, .int (nI j)), (3, .int up)] := hl
  have hBi := hBd i j hcj
  have hdo := dmM_of hcj
  refine lv_bipush (v := 12) hx hb dX7_settle_0 (by decide) ?_
  refine lv_iload_n hx hb dX7_settle_2 rfl (lv_at hl 1 rfl) ?_
  refine lv_imul hx hb dX7_settle_3 ?_
  refine lv_topi (fun v1 ev1 => ?_)
  obtain rfl : v1 = nI (12 * i) := nI_times ev1 rfl rfl
  refine lv_iload_n hx hb dX7_settle_4 rfl (lv_at hl 2 rfl) ?_
  refine lv_iadd hx hb dX7_settle_5 ?_
  refine lv_topi (fun v2 ev2 => ?_)
  obtain rfl : v2 = nI ((12 * i) + j) := nI_plus ev2 rfl rfl
  refine lv_istore (lv' := [(4, .int (nI ((12 * i) + j))), (0, .ref y), (1, .int (nI i)), (2, .int (nI j)), (3, .int up)]) hx hb dX7_settle_6 hl (by decide) rfl (fun ls hl => ?_)
  refine lv_aload_n hx hb dX7_settle_8 rfl (lv_at hl 1 rfl) ?_
  refine va_get (D := G.1) (ci := 7) (v := .ref (b 19)) (C := RX7) (T := TX7) (N := 43) hx hb hts inX7 hown hK.1 hP 0 rfl rfl 19 (by decide) (hts _ mf_X7_65) (fun _ h9 => h9) rfl dX7_settle_9 ?_
  refine lv_iload hx hb dX7_settle_12 (lv_at hl 0 rfl) ?_
  refine xzald (f := (r 19)) hx hb hK hP 19 (((12 * i) + j)) (rfl) (by omega) (by decide) rfl dX7_settle_14 ?_
  refine lv_topi (fun v3 ev3 => ?_)
  refine lv_if_ne (tgt := 19) hx hb dX7_settle_15 (by decide) (fun c4 => ?_) (fun c4 => ?_)
  · have hKj : K i j = true := (hmv i j hcj).mp (fun z9 => c4 (ev3.trans z9))
    refine lv_aload_n hx hb dX7_settle_19 rfl (lv_at hl 1 rfl) ?_
    refine va_get (D := G.1) (ci := 7) (v := .ref (b 19)) (C := RX7) (T := TX7) (N := 43) hx hb hts inX7 hown hK.1 hP 0 rfl rfl 19 (by decide) (hts _ mf_X7_65) (fun _ h9 => h9) rfl dX7_settle_20 ?_
    refine lv_iload hx hb dX7_settle_23 (lv_at hl 0 rfl) ?_
    refine lv_iconst (v := 0) hx hb dX7_settle_25 (by decide) ?_
    refine xzast (f := (r 19)) (x := 0) hx hb hK hP (hDD _ _) hS 19 (((12 * i) + j)) (rfl) (by omega) (by decide) (Or.inl rfl) rfl dX7_settle_26 (fun H locs hP _ hS => ?_)
    have hP : PP G (mM G y b f (up2 r 19 (upd (r 19) (((12 * i) + j)) (0)))) H := hP
    refine lv_iload_n hx hb dX7_settle_27 rfl (lv_at hl 4 rfl) ?_
    refine lv_if_eq (tgt := 64) hx hb dX7_settle_28 (by decide) (fun c5 => ?_) (fun c5 => ?_)
    · refine lv_aload_n hx hb dX7_settle_64 rfl (lv_at hl 1 rfl) ?_
      refine lv_iload_n hx hb dX7_settle_65 rfl (lv_at hl 2 rfl) ?_
      refine lv_bipush (v := 12) hx hb dX7_settle_66 (by decide) ?_
      refine lv_iload_n hx hb dX7_settle_68 rfl (lv_at hl 3 rfl) ?_
      refine lv_iadd hx hb dX7_settle_69 ?_
      refine lv_topi (fun v6 ev6 => ?_)
      obtain rfl : v6 = nI (12 + j) := nI_plus ev6 rfl rfl
      refine lv_aload_n hx hb dX7_settle_70 rfl (lv_at hl 1 rfl) ?_
      refine va_get (D := G.1) (ci := 7) (v := .ref (b 18)) (C := RX7) (T := TX7) (N := 43) hx hb hts inX7 hown hK.1 hP 0 rfl rfl 18 (by decide) (hts _ mf_X7_62) (fun _ h9 => h9) rfl dX7_settle_71 ?_
      refine lv_iload_n hx hb dX7_settle_74 rfl (lv_at hl 2 rfl) ?_
      refine xiald (f := (r 18)) hx hb hK hP 18 (i) (rfl) (by omega) (by decide) rfl dX7_settle_75 ?_
      refine lv_topi (fun v7 ev7 => ?_)
      obtain rfl : v7 = (r 18 i) := ev7.trans (rfl)
      refine lv_aload_n hx hb dX7_settle_76 rfl (lv_at hl 1 rfl) ?_
      refine va_get (D := G.1) (ci := 7) (v := .ref (b 15)) (C := RX7) (T := TX7) (N := 43) hx hb hts inX7 hown hK.1 hP 0 rfl rfl 15 (by decide) (hts _ mf_X7_53) (fun _ h9 => h9) rfl dX7_settle_77 ?_
      refine lv_iload hx hb dX7_settle_80 (lv_at hl 0 rfl) ?_
      refine xiald (f := (r 15)) hx hb hK hP 15 (((12 * i) + j)) (rfl) (by omega) (by decide) rfl dX7_settle_82 ?_
      refine lv_topi (fun v8 ev8 => ?_)
      obtain rfl : v8 = nI (V i j) := ev8.trans (hnw i j hi hj hcj)
      refine lv_aload_n hx hb dX7_settle_83 rfl (lv_at hl 1 rfl) ?_
      refine va_get (D := G.1) (ci := 7) (v := .ref (b 16)) (C := RX7) (T := TX7) (N := 43) hx hb hts inX7 hown hK.1 hP 0 rfl rfl 16 (by decide) (hts _ mf_X7_56) (fun _ h9 => h9) rfl dX7_settle_84 ?_
      refine lv_iload hx hb dX7_settle_87 (lv_at hl 0 rfl) ?_
      refine xiald (f := (r 16)) hx hb hK hP 16 (((12 * i) + j)) (rfl) (by omega) (by decide) rfl dX7_settle_89 ?_
      refine lv_topi (fun v9 ev9 => ?_)
      obtain rfl : v9 = nI (Lo i j) := ev9.trans (hlw i j hi hj hcj)
      refine lv_isub hx hb dX7_settle_90 ?_
      refine lv_topi (fun v10 ev10 => ?_)
      obtain rfl : v10 = nI ((V i j) - (Lo i j)) := nI_minus ev10 rfl rfl (by omega)
      refine wrVIa (rest := []) (q0 := 0) ⟨hx, hb, hml, hown, hts⟩ (n_push_d l G y b f (up2 r 19 (upd (r 19) (((12 * i) + j)) (0))) i (12 + j) (r 18 i) ((V i j) - (Lo i j)) rw cl j V0 V Lo Hi K (by omega) (by omega) rfl (by omega) (by omega) h20 h21 hcj hKj hKd (mv_off hj hcl hmv) hnw hlw hhg hBd hAg (by omega)) mi_yX7_push mv_yX7_push ml_X7_212 ⟨rfl, rfl, Nat.le_of_ble_eq_true rfl, Nat.le_of_ble_eq_true rfl⟩ hK hP (hDD _ _) rfl rfl rfl hl.1 rfl (Nat.le_of_ble_eq_true rfl) dX7_settle_91 ⟨Nat.zero_le _, Nat.zero_le _⟩ hS hA (fun r11 w12 H locs hw12 hP hS => ?_)
      obtain ⟨x13, x14, x15, d9, U9, rfl, hw12r, hd2, ha2, hb2_, hv2, hf2, he2⟩ := hw12
      have hP : PP G (mM G y b f (up2 (up2 (up2 (up2 r 15 x13) 19 (upd (r 19) (((12 * i) + j)) (0))) 22 x14) 23 x15)) H := hP
      have hd2 : U9 i j + d9 = V i j := hd2
      have ha2 : agN K Lo Hi V0 U9 := ha2
      have hb2_ : BND (dmM rw cl (r 18) (r 18 i)) Lo Hi U9 := hb2_
      have hv2 : rowM (dmM rw cl (r 18) (r 18 i)) (upT U9 i j (V i j)) x13 := hv2
      have hf2 : ∀ x y, x < 12 → y < 12 → dmM rw cl (r 18) (r 18 i) x y = false → x13 (12 * x + y) = (r 15) (12 * x + y) := hf2
      have he2 : d9 = ((V i j) - (Lo i j)) ∨ ∀ w, agN K Lo Hi V0 w → U9 i j ≤ w i j := he2
      have hw12r : r11 = nI d9 := hw12r
      subst hw12r
      refine lv_istore (lv' := [(5, .int (nI d9)), (4, .int (nI ((12 * i) + j))), (0, .ref y), (1, .int (nI i)), (2, .int (nI j)), (3, .int up)]) hx hb dX7_settle_94 hl (by decide) rfl (fun ls hl => ?_)
      refine lv_aload_n hx hb dX7_settle_96 rfl (lv_at hl 2 rfl) ?_
      refine va_get (D := G.1) (ci := 7) (v := .ref (b 15)) (C := RX7) (T := TX7) (N := 43) hx hb hts inX7 hown hK.1 hP 0 rfl rfl 15 (by decide) (hts _ mf_X7_53) (fun _ h9 => h9) rfl dX7_settle_97 ?_
      refine lv_iload hx hb dX7_settle_100 (lv_at hl 1 rfl) ?_
      refine lv_dup2_11 hx hb dX7_settle_102 rfl rfl ?_
      refine xiald (f := x13) hx hb hK hP 15 (((12 * i) + j)) (rfl) (by omega) (by decide) rfl dX7_settle_103 ?_
      refine lv_topi (fun v16 ev16 => ?_)
      obtain rfl : v16 = nI (V i j) := ev16.trans ((hv2 i j hi hj hcj).trans (by rw [upT_s]))
      refine lv_iload_n hx hb dX7_settle_104 rfl (lv_at hl 5 rfl) ?_
      refine lv_if_eq (tgt := 113) hx hb dX7_settle_105 (by decide) (fun c17 => ?_) (fun c17 => ?_)
      · refine lv_iload hx hb dX7_settle_113 (lv_at hl 0 rfl) ?_
        refine lv_ineg hx hb dX7_settle_115 ?_
        refine lv_topi (fun v18 ev18 => ?_)
        refine lv_iadd hx hb dX7_settle_116 ?_
        refine lv_topi (fun v19 ev19 => ?_)
        obtain rfl : v19 = nI (V i j - d9) := neg_add8 ev18 ev19 (by omega)
        refine xiast (f := x13) (x := (nI (V i j - d9))) hx hb hK hP (hDD _ _) hS 15 (((12 * i) + j)) (rfl) (by omega) (by decide) rfl dX7_settle_117 (fun H locs hP _ hS => ?_)
        have hP : PP G (mM G y b f (up2 (up2 (up2 (up2 r 15 (upd x13 (((12 * i) + j)) ((nI (V i j - d9))))) 19 (upd (r 19) (((12 * i) + j)) (0))) 22 x14) 23 x15)) H := hP
        exact wr_vret hx hb hr hlocks hS hP ⟨(upd x13 (((12 * i) + j)) ((nI (V i j - d9)))), (upd (r 19) (((12 * i) + j)) (0)), x14, x15, _, rfl, (rowM_set hj hv2 (by omega)), ha2, hb2_, (rowM_f hf2 hcj hj rfl), (Or.inr ⟨hKj, fun _ w9 h9 => he2.elim (fun z9 => by have h8 := agN_b h9 i j hi hj hKj; omega) (fun z9 => z9 w9 h9), fun z9 => absurd c5 z9⟩), only_u⟩ dX7_settle_118
      · exact absurd c5 c17
    · refine lv_aload_n hx hb dX7_settle_31 rfl (lv_at hl 1 rfl) ?_
      refine lv_bipush (v := 12) hx hb dX7_settle_32 (by decide) ?_
      refine lv_iload_n hx hb dX7_settle_34 rfl (lv_at hl 3 rfl) ?_
      refine lv_iadd hx hb dX7_settle_35 ?_
      refine lv_topi (fun v20 ev20 => ?_)
      obtain rfl : v20 = nI (12 + j) := nI_plus ev20 rfl rfl
      refine lv_iload_n hx hb dX7_settle_36 rfl (lv_at hl 2 rfl) ?_
      refine lv_aload_n hx hb dX7_settle_37 rfl (lv_at hl 1 rfl) ?_
      refine va_get (D := G.1) (ci := 7) (v := .ref (b 18)) (C := RX7) (T := TX7) (N := 43) hx hb hts inX7 hown hK.1 hP 0 rfl rfl 18 (by decide) (hts _ mf_X7_62) (fun _ h9 => h9) rfl dX7_settle_38 ?_
      refine lv_iload_n hx hb dX7_settle_41 rfl (lv_at hl 2 rfl) ?_
      refine xiald (f := (r 18)) hx hb hK hP 18 (i) (rfl) (by omega) (by decide) rfl dX7_settle_42 ?_
      refine lv_topi (fun v21 ev21 => ?_)
      obtain rfl : v21 = (r 18 i) := ev21.trans (rfl)
      refine lv_aload_n hx hb dX7_settle_43 rfl (lv_at hl 1 rfl) ?_
      refine va_get (D := G.1) (ci := 7) (v := .ref (b 17)) (C := RX7) (T := TX7) (N := 43) hx hb hts inX7 hown hK.1 hP 0 rfl rfl 17 (by decide) (hts _ mf_X7_59) (fun _ h9 => h9) rfl dX7_settle_44 ?_
      refine lv_iload hx hb dX7_settle_47 (lv_at hl 0 rfl) ?_
      refine xiald (f := (r 17)) hx hb hK hP 17 (((12 * i) + j)) (rfl) (by omega) (by decide) rfl dX7_settle_49 ?_
      refine lv_topi (fun v22 ev22 => ?_)
      obtain rfl : v22 = nI (Hi i j) := ev22.trans (hhg i j hi hj hcj)
      refine lv_aload_n hx hb dX7_settle_50 rfl (lv_at hl 1 rfl) ?_
      refine va_get (D := G.1) (ci := 7) (v := .ref (b 15)) (C := RX7) (T := TX7) (N := 43) hx hb hts inX7 hown hK.1 hP 0 rfl rfl 15 (by decide) (hts _ mf_X7_53) (fun _ h9 => h9) rfl dX7_settle_51 ?_
      refine lv_iload hx hb dX7_settle_54 (lv_at hl 0 rfl) ?_
      refine xiald (f := (r 15)) hx hb hK hP 15 (((12 * i) + j)) (rfl) (by omega) (by decide) rfl dX7_settle_56 ?_
      refine lv_topi (fun v23 ev23 => ?_)
      obtain rfl : v23 = nI (V i j) := ev23.trans (hnw i j hi hj hcj)
      refine lv_isub hx hb dX7_settle_57 ?_
      refine lv_topi (fun v24 ev24 => ?_)
      obtain rfl : v24 = nI ((Hi i j) - (V i j)) := nI_minus ev24 rfl rfl (by omega)
      refine wrVIa (rest := []) (q0 := 0) ⟨hx, hb, hml, hown, hts⟩ (n_push_u l G y b f (up2 r 19 (upd (r 19) (((12 * i) + j)) (0))) (12 + j) i (r 18 i) ((Hi i j) - (V i j)) rw cl j V0 V Lo Hi K (by omega) (by omega) rfl (by omega) (by omega) h20 h21 hcj hKj hKd (mv_off hj hcl hmv) hnw hlw hhg hBd hAg (by omega)) mi_yX7_push mv_yX7_push ml_X7_212 ⟨rfl, rfl, Nat.le_of_ble_eq_true rfl, Nat.le_of_ble_eq_true rfl⟩ hK hP (hDD _ _) rfl rfl rfl hl.1 rfl (Nat.le_of_ble_eq_true rfl) dX7_settle_58 ⟨Nat.zero_le _, Nat.zero_le _⟩ hS hA (fun r25 w26 H locs hw26 hP hS => ?_)
      obtain ⟨x27, x28, x29, d9, U9, rfl, hw26r, hd2, ha2, hb2_, hv2, hf2, he2⟩ := hw26
      have hP : PP G (mM G y b f (up2 (up2 (up2 (up2 r 15 x27) 19 (upd (r 19) (((12 * i) + j)) (0))) 22 x28) 23 x29)) H := hP
      have hd2 : U9 i j = V i j + d9 := hd2
      have ha2 : agN K Lo Hi V0 U9 := ha2
      have hb2_ : BND (dmM rw cl (r 18) (r 18 i)) Lo Hi U9 := hb2_
      have hv2 : rowM (dmM rw cl (r 18) (r 18 i)) (upT U9 i j (V i j)) x27 := hv2
      have hf2 : ∀ x y, x < 12 → y < 12 → dmM rw cl (r 18) (r 18 i) x y = false → x27 (12 * x + y) = (r 15) (12 * x + y) := hf2
      have he2 : d9 = ((Hi i j) - (V i j)) ∨ ∀ w, agN K Lo Hi V0 w → w i j ≤ U9 i j := he2
      have hw26r : r25 = nI d9 := hw26r
      subst hw26r
      refine lv_goto (tgt := 94) hx hb dX7_settle_61 (by decide) ?_
      refine lv_istore (lv' := [(5, .int (nI d9)), (4, .int (nI ((12 * i) + j))), (0, .ref y), (1, .int (nI i)), (2, .int (nI j)), (3, .int up)]) hx hb dX7_settle_94 hl (by decide) rfl (fun ls hl => ?_)
      refine lv_aload_n hx hb dX7_settle_96 rfl (lv_at hl 2 rfl) ?_
      refine va_get (D := G.1) (ci := 7) (v := .ref (b 15)) (C := RX7) (T := TX7) (N := 43) hx hb hts inX7 hown hK.1 hP 0 rfl rfl 15 (by decide) (hts _ mf_X7_53) (fun _ h9 => h9) rfl dX7_settle_97 ?_
      refine lv_iload hx hb dX7_settle_100 (lv_at hl 1 rfl) ?_
      refine lv_dup2_11 hx hb dX7_settle_102 rfl rfl ?_
      refine xiald (f := x27) hx hb hK hP 15 (((12 * i) + j)) (rfl) (by omega) (by decide) rfl dX7_settle_103 ?_
      refine lv_topi (fun v30 ev30 => ?_)
      obtain rfl : v30 = nI (V i j) := ev30.trans ((hv2 i j hi hj hcj).trans (by rw [upT_s]))
      refine lv_iload_n hx hb dX7_settle_104 rfl (lv_at hl 5 rfl) ?_
      refine lv_if_eq (tgt := 113) hx hb dX7_settle_105 (by decide) (fun c31 => ?_) (fun c31 => ?_)
      · exact absurd c31 c5
      · refine lv_iload hx hb dX7_settle_108 (lv_at hl 0 rfl) ?_
        refine lv_goto (tgt := 116) hx hb dX7_settle_110 (by decide) ?_
        refine lv_iadd hx hb dX7_settle_116 ?_
        refine lv_topi (fun v32 ev32 => ?_)
        obtain rfl : v32 = nI ((V i j) + d9) := nI_plus ev32 rfl rfl
        refine xiast (f := x27) (x := (nI ((V i j) + d9))) hx hb hK hP (hDD _ _) hS 15 (((12 * i) + j)) (rfl) (by omega) (by decide) rfl dX7_settle_117 (fun H locs hP _ hS => ?_)
        have hP : PP G (mM G y b f (up2 (up2 (up2 (up2 r 15 (upd x27 (((12 * i) + j)) ((nI ((V i j) + d9))))) 19 (upd (r 19) (((12 * i) + j)) (0))) 22 x28) 23 x29)) H := hP
        exact wr_vret hx hb hr hlocks hS hP ⟨(upd x27 (((12 * i) + j)) ((nI ((V i j) + d9)))), (upd (r 19) (((12 * i) + j)) (0)), x28, x29, _, rfl, (rowM_set hj hv2 (by omega)), ha2, hb2_, (rowM_f hf2 hcj hj rfl), (Or.inr ⟨hKj, fun z9 => absurd z9 c5, fun _ w9 h9 => he2.elim (fun z9 => by have h8 := agN_b h9 i j hi hj hKj; omega) (fun z9 => z9 w9 h9)⟩), only_u⟩ dX7_settle_118
  · have hKn : K i j = false := by cases hk9 : K i j with | false => rfl | true => exact absurd (ev3.symm.trans c4) ((hmv i j hcj).mpr hk9)
    exact wr_vret hx hb hr hlocks hS hP ⟨(r 15), (r 19), (r 22), (r 23), _, rfl, hnw, hAg, hBd, (fun _ _ _ _ _ => rfl), (Or.inl ⟨hKn, rfl⟩), ⟨ev3.symm.trans c4, fun _ _ => rfl⟩⟩ dX7_settle_18
theorem agN_r {K : Nat → Nat → Bool} {Lo Hi N : Nat → Nat → Nat} (h : ∀ x y, x < 12 → y < 12 → K x y = true → Lo x y ≤ N x y ∧ N x y ≤ Hi x y) : agN K Lo Hi N N := ⟨fun _ _ _ _ _ => rfl, fun x y hx hy hk => by
  have q := h x y hx hy hk
  show ((Lo x y : Nat) : Int) ≤ ((N x y : Nat) : Int) ∧ ((N x y : Nat) : Int) ≤ ((Hi x y : Nat) : Int)
  omega, fun _ _ => rfl, fun _ _ => rfl⟩
set_option maxHeartbeats 4000000 in
set_option maxRecDepth 100000 in
theorem n_endOf (l : Launch) (G : GG) (y : Nat) (b : Nat → Nat) (f : Nat → Int32) (r : Nat → Nat → Int32) (t : Nat) (i : Nat) (j : Nat) (up : Int32) (rw : Nat) (cl : Nat) (bk : Nat) (ht : t < 6) (hrw : rw ≤ 12) (hcl : cl ≤ 12) (hbk : bk ≤ 12) (h2 : (r 2) t = nI rw) (h3 : (r 3) t = nI cl) (h12 : (r 12) t = nI bk) (hG : nOK 864 6 (r 7)) (hi : i < rw) (hj : j < cl) (hsi : sndN ((r 3) t) (r 11) (r 5) t i) (hNR : NRM rw cl t (r 3) (r 5) (r 6) (r 11)) : WrI l yX7_endOf cX7_endOf 5 (some .int) ({ frames := 4, cells := 0, slots := 0, locals := 105 }) G (mM G y b f r) [.ref y, .int (nI t), .int (nI i), .int (nI j), .int up] (fun q w => ∃ (n_f_20 : Int32) (n_f_21 : Int32) (n_r_15 : Nat → Int32) (n_r_16 : Nat → Int32) (n_r_17 : Nat → Int32) (n_r_18 : Nat → Int32) (n_r_19 : Nat → Int32) (n_r_22 : Nat → Int32) (n_r_23 : Nat → Int32) (V2 : Nat → Nat → Nat), w = mM G y b (upd (upd f 20 n_f_20) 21 n_f_21) (up2 (up2 (up2 (up2 (up2 (up2 (up2 r 15 n_r_15) 16 n_r_16) 17 n_r_17) 18 n_r_18) 19 n_r_19) 22 n_r_22) 23 n_r_23) ∧ q = nI (V2 i j) ∧ (agN (KBm rw cl t bk (r 3) (r 4) (r 5) (r 6) (r 7) (r 8) (r 9) (r 10) (r 11) (r 13) (r 14) (clM (r 13) (r 14) t (nI i) bk).1) (LTm (r 5) (r 6) t cl) (HTm (r 5) (r 6) t cl) (rsT (DBm rw cl t bk (r 3) (r 5) (r 11) (r 13) (r 14) (clM (r 13) (r 14) t (nI i) bk).1) (NTm (r 6) t)) V2) ∧ (((KBm rw cl t bk (r 3) (r 4) (r 5) (r 6) (r 7) (r 8) (r 9) (r 10) (r 11) (r 13) (r 14) (clM (r 13) (r 14) t (nI i) bk).1) i j = false ∧ V2 i j = (rsT (DBm rw cl t bk (r 3) (r 5) (r 11) (r 13) (r 14) (clM (r 13) (r 14) t (nI i) bk).1) (NTm (r 6) t)) i j) ∨ ((KBm rw cl t bk (r 3) (r 4) (r 5) (r 6) (r 7) (r 8) (r 9) (r 10) (r 11) (r 13) (r 14) (clM (r 13) (r 14) t (nI i) bk).1) i j = true ∧ ((up : Int32) = 0 → ∀ w, agN (KBm rw cl t bk (r 3) (r 4) (r 5) (r 6) (r 7) (r 8) (r 9) (r 10) (r 11) (r 13) (r 14) (clM (r 13) (r 14) t (nI i) bk).1) (LTm (r 5) (r 6) t cl) (HTm (r 5) (r 6) t cl) (rsT (DBm rw cl t bk (r 3) (r 5) (r 11) (r 13) (r 14) (clM (r 13) (r 14) t (nI i) bk).1) (NTm (r 6) t)) w → V2 i j ≤ w i j) ∧ (¬ (up : Int32) = 0 → ∀ w, agN (KBm rw cl t bk (r 3) (r 4) (r 5) (r 6) (r 7) (r 8) (r 9) (r 10) (r 11) (r 13) (r 14) (clM (r 13) (r 14) t (nI i) bk).1) (LTm (r 5) (r 6) t cl) (HTm (r 5) (r 6) t cl) (rsT (DBm rw cl t bk (r 3) (r 5) (r 11) (r 13) (r 14) (clM (r 13) (r 14) t (nI i) bk).1) (NTm (r 6) t)) w → w i j ≤ V2 i j))) ∧ (V2 i j ≤ 1073741824)) := by
  refine wr_entryI (by decide +kernel) (Nat.le_of_ble_eq_true rfl) ?_
  intro p e s m below meth c A C0 hP hK hD hA ls hl
  have hS : va_S A s.heap s.heap [] := va_S.rf
  obtain ⟨hx, hb, hml, hown, hts, hr, hlocks, hin⟩ := C0
  have hown : s.vm.findClass RX7 = some m.cls := hown
  have hDD : ∀ f' r', va_D A (mM G y b f' r') := fun f' r' => D_same hD rfl
  have hl : lv_has ls 5 [(0, .ref y), (1, .int (nI t)), (2, .int (nI i)), (3, .int (nI j)), (4, .int up)] := hl
  refine lv_aload_n hx hb dX7_endOf_0 rfl (lv_at hl 0 rfl) ?_
  refine lv_iload_n hx hb dX7_endOf_1 rfl (lv_at hl 1 rfl) ?_
  refine wrVVa (rest := []) (q0 := 0) ⟨hx, hb, hml, hown, hts⟩ (n_lay l G y b f r t rw cl bk (by omega) (by omega) (by omega) (by omega) h2 h3 h12 hG) mi_yX7_lay mv_yX7_lay ml_X7_216 ⟨rfl, rfl, Nat.le_of_ble_eq_true rfl, Nat.le_of_ble_eq_true rfl⟩ hK hP (hDD _ _) rfl rfl rfl hl.1 rfl (Nat.le_of_ble_eq_true rfl) dX7_endOf_2 ⟨Nat.zero_le _, Nat.zero_le _⟩ hS hA (fun w2 H locs hw2 hP hS => ?_)
  obtain ⟨x3, x4, x5, x6, x7, x8, x9, rfl, h20, h21, hLY⟩ := hw2
  have hP : PP G (mM G y b (upd (upd f 20 x3) 21 x4) (up2 (up2 (up2 (up2 (up2 r 15 x5) 16 x6) 17 x7) 18 x8) 19 x9)) H := hP
  have h20 : x3 = nI rw := h20
  have h21 : x4 = nI cl := h21
  have hLY : LYR t cl bk rw (r 3) (r 4) (r 5) (r 6) (r 7) (r 8) (r 9) (r 10) (r 11) (r 13) (r 14) x5 x6 x7 x8 x9 := hLY
  have e18 : x8 i = (clM (r 13) (r 14) t (nI i) bk).1 := by rcases hLY i hi with z9 | z9; exact z9.2.1; exact absurd hsi z9.1
  have hn2 : ¬ x8 i = -2 := by rw [e18]; exact cl_n2 hbk
  obtain ⟨tb1, tb2, tb3, tb4, tb5⟩ := LY_tab hLY hn2 hrw hcl hNR
  have edm : ∀ x y, (dmM rw cl x8 (x8 i)) x y = DBm rw cl t bk (r 3) (r 5) (r 11) (r 13) (r 14) (x8 i) x y := fun x y => LY_dm hLY hn2 x y
  have hcj : (dmM rw cl x8 (x8 i)) i j = true := dmM_mk hi hj rfl
  have eN : ∀ x y, (dmM rw cl x8 (x8 i)) x y = true → rsT (dmM rw cl x8 (x8 i)) (NTm (r 6) t) x y = NTm (r 6) t x y := fun x y h9 => rsT_t h9
  have hKD : ∀ x y, (KBm rw cl t bk (r 3) (r 4) (r 5) (r 6) (r 7) (r 8) (r 9) (r 10) (r 11) (r 13) (r 14) (x8 i)) x y = true → (dmM rw cl x8 (x8 i)) x y = true := fun x y h9 => by rw [edm]; have h8 := pB_i h9; exact pB_t ⟨h8.1, h8.2.1, h8.2.2.1, h8.2.2.2.1⟩
  have hAg : agN (KBm rw cl t bk (r 3) (r 4) (r 5) (r 6) (r 7) (r 8) (r 9) (r 10) (r 11) (r 13) (r 14) (x8 i)) (LTm (r 5) (r 6) t cl) (HTm (r 5) (r 6) t cl) (rsT (dmM rw cl x8 (x8 i)) (NTm (r 6) t)) (rsT (dmM rw cl x8 (x8 i)) (NTm (r 6) t)) := agN_r (fun x y h8 h9 h7 => by have h6 := tb4 x y (hKD x y h7); rw [eN x y (hKD x y h7)]; exact ⟨h6.2.2.2.2, h6.2.2.2.1⟩)
  refine lv_aload_n hx hb dX7_endOf_5 rfl (lv_at hl 0 rfl) ?_
  refine lv_iload_n hx hb dX7_endOf_6 rfl (lv_at hl 2 rfl) ?_
  refine lv_iload_n hx hb dX7_endOf_7 rfl (lv_at hl 3 rfl) ?_
  refine lv_iload hx hb dX7_endOf_8 (lv_at hl 4 rfl) ?_
  refine wrVVa (rest := []) (q0 := 0) ⟨hx, hb, hml, hown, hts⟩ (n_settle l G y b (upd (upd f 20 x3) 21 x4) (up2 (up2 (up2 (up2 (up2 r 15 x5) 16 x6) 17 x7) 18 x8) 19 x9) i j up rw cl (rsT (dmM rw cl x8 (x8 i)) (NTm (r 6) t)) (rsT (dmM rw cl x8 (x8 i)) (NTm (r 6) t)) (LTm (r 5) (r 6) t cl) (HTm (r 5) (r 6) t cl) (KBm rw cl t bk (r 3) (r 4) (r 5) (r 6) (r 7) (r 8) (r 9) (r 10) (r 11) (r 13) (r 14) (x8 i)) (by omega) (by omega) (by omega) (by omega) h20 h21 hcj hKD tb5 (fun x y h8 h9 h7 => by rw [eN x y h7]; exact tb1 x y h8 h9 h7) tb2 tb3 (fun x y h7 => by rw [eN x y h7]; exact tb4 x y h7) hAg) mi_yX7_settle mv_yX7_settle ml_X7_219 ⟨rfl, rfl, Nat.le_of_ble_eq_true rfl, Nat.le_of_ble_eq_true rfl⟩ hK hP (hDD _ _) rfl rfl rfl hl.1 rfl (Nat.le_of_ble_eq_true rfl) dX7_endOf_10 ⟨Nat.zero_le _, Nat.zero_le _⟩ hS hA (fun w11 H locs hw11 hP hS => ?_)
  obtain ⟨x12, x13, x14, x15, V2, rfl, hv2, ha2, hb2_, hf2, hse, hm19⟩ := hw11
  have hP : PP G (mM G y b (upd (upd f 20 x3) 21 x4) (up2 (up2 (up2 (up2 (up2 (up2 (up2 r 15 x12) 16 x6) 17 x7) 18 x8) 19 x13) 22 x14) 23 x15)) H := hP
  have hv2 : rowM (dmM rw cl x8 (x8 i)) V2 x12 := hv2
  have ha2 : agN (KBm rw cl t bk (r 3) (r 4) (r 5) (r 6) (r 7) (r 8) (r 9) (r 10) (r 11) (r 13) (r 14) (x8 i)) (LTm (r 5) (r 6) t cl) (HTm (r 5) (r 6) t cl) (rsT (dmM rw cl x8 (x8 i)) (NTm (r 6) t)) V2 := ha2
  have hb2_ : BND (dmM rw cl x8 (x8 i)) (LTm (r 5) (r 6) t cl) (HTm (r 5) (r 6) t cl) V2 := hb2_
  have hf2 : ∀ x y, x < 12 → y < 12 → dmM rw cl x8 (x8 i) x y = false → x12 (12 * x + y) = x5 (12 * x + y) := hf2
  have hse : ((KBm rw cl t bk (r 3) (r 4) (r 5) (r 6) (r 7) (r 8) (r 9) (r 10) (r 11) (r 13) (r 14) (x8 i)) i j = false ∧ V2 = (rsT (dmM rw cl x8 (x8 i)) (NTm (r 6) t))) ∨ ((KBm rw cl t bk (r 3) (r 4) (r 5) (r 6) (r 7) (r 8) (r 9) (r 10) (r 11) (r 13) (r 14) (x8 i)) i j = true ∧ ((up : Int32) = 0 → ∀ w, agN (KBm rw cl t bk (r 3) (r 4) (r 5) (r 6) (r 7) (r 8) (r 9) (r 10) (r 11) (r 13) (r 14) (x8 i)) (LTm (r 5) (r 6) t cl) (HTm (r 5) (r 6) t cl) (rsT (dmM rw cl x8 (x8 i)) (NTm (r 6) t)) w → V2 i j ≤ w i j) ∧ (¬ (up : Int32) = 0 → ∀ w, agN (KBm rw cl t bk (r 3) (r 4) (r 5) (r 6) (r 7) (r 8) (r 9) (r 10) (r 11) (r 13) (r 14) (x8 i)) (LTm (r 5) (r 6) t cl) (HTm (r 5) (r 6) t cl) (rsT (dmM rw cl x8 (x8 i)) (NTm (r 6) t)) w → w i j ≤ V2 i j)) := hse
  have hm19 : only (12 * i + j) 0 x9 x13 := hm19
  refine lv_aload_n hx hb dX7_endOf_13 rfl (lv_at hl 0 rfl) ?_
  refine va_get (D := G.1) (ci := 7) (v := .ref (b 15)) (C := RX7) (T := TX7) (N := 43) hx hb hts inX7 hown hK.1 hP 0 rfl rfl 15 (by decide) (hts _ mf_X7_53) (fun _ h9 => h9) rfl dX7_endOf_14 ?_
  refine lv_bipush (v := 12) hx hb dX7_endOf_17 (by decide) ?_
  refine lv_iload_n hx hb dX7_endOf_19 rfl (lv_at hl 2 rfl) ?_
  refine lv_imul hx hb dX7_endOf_20 ?_
  refine lv_topi (fun v16 ev16 => ?_)
  obtain rfl : v16 = nI (12 * i) := nI_times ev16 rfl rfl
  refine lv_iload_n hx hb dX7_endOf_21 rfl (lv_at hl 3 rfl) ?_
  refine lv_iadd hx hb dX7_endOf_22 ?_
  refine lv_topi (fun v17 ev17 => ?_)
  obtain rfl : v17 = nI ((12 * i) + j) := nI_plus ev17 rfl rfl
  refine xiald (f := x12) hx hb hK hP 15 (((12 * i) + j)) (rfl) (by omega) (by decide) rfl dX7_endOf_23 ?_
  refine lv_topi (fun v18 ev18 => ?_)
  obtain rfl : v18 = nI (V2 i j) := ev18.trans (hv2 i j (by omega) (by omega) hcj)
  exact wr_iret hx hb hr hlocks hS hP ⟨x3, x4, x12, x6, x7, x8, x13, x14, x15, V2, rfl, rfl, (by have edf : (dmM rw cl x8 (x8 i)) = DBm rw cl t bk (r 3) (r 5) (r 11) (r 13) (r 14) (clM (r 13) (r 14) t (nI i) bk).1 := funext (fun x => funext (fun y => by rw [edm, e18])); rw [edf, e18] at ha2; exact ha2), (by have edf : (dmM rw cl x8 (x8 i)) = DBm rw cl t bk (r 3) (r 5) (r 11) (r 13) (r 14) (clM (r 13) (r 14) t (nI i) bk).1 := funext (fun x => funext (fun y => by rw [edm, e18])); rw [edf, e18] at hse; exact hse.imp (fun z9 => ⟨z9.1, by rw [z9.2]⟩) id), (by have h9 := hb2_ i j hcj; omega)⟩ dX7_endOf_24
theorem le_sub {a n d : Nat} {v : Int32} (ha : a ≤ 1073741824) (hn : n ≤ 1000000) (hd : d ≤ 1000000) (e : v = nI n - nI d) : nI a ≤ v ↔ a + d ≤ n := by
  rw [Int32.le_iff_toInt_le, e, pk_sub_toInt (by omega) (by omega), nI_toInt (by omega)]
  omega
section ES
variable {K : Nat → Nat → Bool} {Lo Hi N W V : Nat → Nat → Nat} {i j dn up nn : Nat}
theorem ES_lo (hN : N i j = nn) (hs : (K i j = false ∧ W i j = N i j) ∨ (K i j = true ∧ ∀ w, agN K Lo Hi N w → W i j ≤ w i j)) (h0 : W i j ≠ 0) (h1 : ¬ W i j + dn ≤ nn) : ¬ SAFR K Lo Hi N i j dn up := fun z => by
  rcases hs with ⟨k, e⟩ | ⟨k, e⟩
  · have q := (SAF_n k).mp z
    omega
  · obtain ⟨⟨w, q1, q2⟩, _⟩ := (SAF_k k).mp z
    have := e w q1
    omega
theorem ES_hi (hN : N i j = nn) (hs : (K i j = false ∧ V i j = N i j) ∨ (K i j = true ∧ ∀ w, agN K Lo Hi N w → w i j ≤ V i j)) (h1 : V i j < nn + up) : ¬ SAFR K Lo Hi N i j dn up := fun z => by
  rcases hs with ⟨k, e⟩ | ⟨k, e⟩
  · have q := (SAF_n k).mp z
    omega
  · obtain ⟨_, w, q1, q2⟩ := (SAF_k k).mp z
    have := e w q1
    omega
theorem ES_ok (hN : N i j = nn) (hW : agN K Lo Hi N W) (hV : agN K Lo Hi N V) (hs : (K i j = false ∧ W i j = N i j) ∨ (K i j = true ∧ ∀ w, agN K Lo Hi N w → W i j ≤ w i j)) (hs2 : (K i j = false ∧ V i j = N i j) ∨ (K i j = true ∧ ∀ w, agN K Lo Hi N w → w i j ≤ V i j)) (h0 : W i j = 0 ∨ W i j + dn ≤ nn) (h1 : nn + up ≤ V i j) : SAFR K Lo Hi N i j dn up := by
  rcases hs with ⟨k, e⟩ | ⟨k, e⟩
  · have e2 : V i j = N i j := hs2.elim (fun z => z.2) (fun z => by rw [k] at z; exact absurd z.1 (by decide))
    exact (SAF_n k).mpr (by omega)
  · exact (SAF_k k).mpr ⟨⟨W, hW, by omega⟩, V, hV, by omega⟩
end ES
set_option maxHeartbeats 4000000 in
set_option maxRecDepth 100000 in
theorem n_isSafe (l : Launch) (G : GG) (y : Nat) (b : Nat → Nat) (f : Nat → Int32) (r : Nat → Nat → Int32) (t : Nat) (i : Nat) (j : Nat) (rw : Nat) (cl : Nat) (bk : Nat) (dn : Nat) (uq : Nat) (ht : t < 6) (hrw : rw ≤ 12) (hcl : cl ≤ 12) (hbk : bk ≤ 12) (h2 : (r 2) t = nI rw) (h3 : (r 3) t = nI cl) (h12 : (r 12) t = nI bk) (hG : nOK 864 6 (r 7)) (hi : i < rw) (hj : j < cl) (hsi : sndN ((r 3) t) (r 11) (r 5) t i) (hNR : NRM rw cl t (r 3) (r 5) (r 6) (r 11)) (hdn : dn ≤ 1000000) (huq : uq ≤ 1000000) (hr3 : (r 4) (6 * t + 3) = nI dn) (hr4 : (r 4) (6 * t + 4) = nI uq) : WrI l yX7_isSafe cX7_isSafe 6 (some .boolean) ({ frames := 5, cells := 0, slots := 0, locals := 129 }) G (mM G y b f r) [.ref y, .int (nI t), .int (nI i), .int (nI j)] (fun q w => ∃ (n_f_20 : Int32) (n_f_21 : Int32) (n_r_15 : Nat → Int32) (n_r_16 : Nat → Int32) (n_r_17 : Nat → Int32) (n_r_18 : Nat → Int32) (n_r_19 : Nat → Int32) (n_r_22 : Nat → Int32) (n_r_23 : Nat → Int32), w = mM G y b (upd (upd f 20 n_f_20) 21 n_f_21) (up2 (up2 (up2 (up2 (up2 (up2 (up2 r 15 n_r_15) 16 n_r_16) 17 n_r_17) 18 n_r_18) 19 n_r_19) 22 n_r_22) 23 n_r_23) ∧ ((q = 1 ∧ (SAFR (KBm rw cl t bk (r 3) (r 4) (r 5) (r 6) (r 7) (r 8) (r 9) (r 10) (r 11) (r 13) (r 14) (clM (r 13) (r 14) t (nI i) bk).1) (LTm (r 5) (r 6) t cl) (HTm (r 5) (r 6) t cl) (rsT (DBm rw cl t bk (r 3) (r 5) (r 11) (r 13) (r 14) (clM (r 13) (r 14) t (nI i) bk).1) (NTm (r 6) t)) i j dn uq)) ∨ (q = 0 ∧ ¬ (SAFR (KBm rw cl t bk (r 3) (r 4) (r 5) (r 6) (r 7) (r 8) (r 9) (r 10) (r 11) (r 13) (r 14) (clM (r 13) (r 14) t (nI i) bk).1) (LTm (r 5) (r 6) t cl) (HTm (r 5) (r 6) t cl) (rsT (DBm rw cl t bk (r 3) (r 5) (r 11) (r 13) (r 14) (clM (r 13) (r 14) t (nI i) bk).1) (NTm (r 6) t)) i j dn uq)))) := by
  refine wr_entryI (by decide +kernel) (Nat.le_of_ble_eq_true rfl) ?_
  intro p e s m below meth c A C0 hP hK hD hA ls hl
  have hS : va_S A s.heap s.heap [] := va_S.rf
  obtain ⟨hx, hb, hml, hown, hts, hr, hlocks, hin⟩ := C0
  have hown : s.vm.findClass RX7 = some m.cls := hown
  have hDD : ∀ f' r', va_D A (mM G y b f' r') := fun f' r' => D_same hD rfl
  have hl : lv_has ls 6 [(0, .ref y), (1, .int (nI t)), (2, .int (nI i)), (3, .int (nI j))] := hl
  obtain ⟨nn, hnn, enn⟩ := hNR i j hi hj hsi
  have hNn : (rsT (DBm rw cl t bk (r 3) (r 5) (r 11) (r 13) (r 14) (clM (r 13) (r 14) t (nI i) bk).1) (NTm (r 6) t)) i j = nn := (rsT_t (pB_t ⟨hi, hj, hsi, rfl⟩)).trans (NT_e enn hnn)
  refine lv_aload_n hx hb dX7_isSafe_0 rfl (lv_at hl 0 rfl) ?_
  refine va_get (D := G.1) (ci := 7) (v := .ref (b 6)) (C := RX7) (T := TX7) (N := 43) hx hb hts inX7 hown hK.1 hP 0 rfl rfl 6 (by decide) (hts _ mf_X7_26) (fun _ h9 => h9) rfl dX7_isSafe_1 ?_
  refine lv_iload_n hx hb dX7_isSafe_4 rfl (lv_at hl 1 rfl) ?_
  refine lv_iload_n hx hb dX7_isSafe_5 rfl (lv_at hl 2 rfl) ?_
  refine lv_iload_n hx hb dX7_isSafe_6 rfl (lv_at hl 3 rfl) ?_
  refine rdS (rest := [.ref (b 6)]) ⟨hx, hb, hml, hown, hts⟩ (m_X7_at l G y b f r t i j  ) mi_yX7_at mst_yX7_at ml_X7_147 ⟨rfl, rfl, Nat.le_of_ble_eq_true rfl, Nat.le_of_ble_eq_true rfl⟩ hK (hP) rfl hl.1 rfl (Nat.le_of_ble_eq_true rfl) dX7_isSafe_7 ⟨Nat.zero_le _, Nat.zero_le _⟩ hS hA hP (fun r1 H locs hr1 hP hS => ?_)
  obtain rfl := hr1
  refine xiald (f := (r 6)) hx hb hK hP 6 ((144 * t + 12 * i + j)) (rfl) (by omega) (by decide) rfl dX7_isSafe_10 ?_
  refine lv_topi (fun v2 ev2 => ?_)
  obtain rfl : v2 = nI (nn) := ev2.trans (enn)
  refine lv_istore (lv' := [(4, .int (nI (nn))), (0, .ref y), (1, .int (nI t)), (2, .int (nI i)), (3, .int (nI j))]) hx hb dX7_isSafe_11 hl (by decide) rfl (fun ls hl => ?_)
  refine lv_aload_n hx hb dX7_isSafe_13 rfl (lv_at hl 1 rfl) ?_
  refine lv_iload_n hx hb dX7_isSafe_14 rfl (lv_at hl 2 rfl) ?_
  refine lv_iload_n hx hb dX7_isSafe_15 rfl (lv_at hl 3 rfl) ?_
  refine lv_iload_n hx hb dX7_isSafe_16 rfl (lv_at hl 4 rfl) ?_
  refine lv_iconst (v := 0) hx hb dX7_isSafe_17 (by decide) ?_
  refine wrVIa (rest := []) (q0 := 0) ⟨hx, hb, hml, hown, hts⟩ (n_endOf l G y b f r t i j 0 rw cl bk (by omega) (by omega) (by omega) (by omega) h2 h3 h12 hG (by omega) (by omega) hsi hNR) mi_yX7_endOf mv_yX7_endOf ml_X7_223 ⟨rfl, rfl, Nat.le_of_ble_eq_true rfl, Nat.le_of_ble_eq_true rfl⟩ hK hP (hDD _ _) rfl rfl rfl hl.1 rfl (Nat.le_of_ble_eq_true rfl) dX7_isSafe_18 ⟨Nat.zero_le _, Nat.zero_le _⟩ hS hA (fun r3 w4 H locs hw4 hP hS => ?_)
  obtain ⟨x5, x6, x7, x8, x9, x10, x11, x12, x13, V2, rfl, hw4r, ha2, hse, hvb⟩ := hw4
  have hP : PP G (mM G y b (upd (upd f 20 x5) 21 x6) (up2 (up2 (up2 (up2 (up2 (up2 (up2 r 15 x7) 16 x8) 17 x9) 18 x10) 19 x11) 22 x12) 23 x13)) H := hP
  have ha2 : agN (KBm rw cl t bk (r 3) (r 4) (r 5) (r 6) (r 7) (r 8) (r 9) (r 10) (r 11) (r 13) (r 14) (clM (r 13) (r 14) t (nI i) bk).1) (LTm (r 5) (r 6) t cl) (HTm (r 5) (r 6) t cl) (rsT (DBm rw cl t bk (r 3) (r 5) (r 11) (r 13) (r 14) (clM (r 13) (r 14) t (nI i) bk).1) (NTm (r 6) t)) V2 := ha2
  have hse : ((KBm rw cl t bk (r 3) (r 4) (r 5) (r 6) (r 7) (r 8) (r 9) (r 10) (r 11) (r 13) (r 14) (clM (r 13) (r 14) t (nI i) bk).1) i j = false ∧ V2 i j = (rsT (DBm rw cl t bk (r 3) (r 5) (r 11) (r 13) (r 14) (clM (r 13) (r 14) t (nI i) bk).1) (NTm (r 6) t)) i j) ∨ ((KBm rw cl t bk (r 3) (r 4) (r 5) (r 6) (r 7) (r 8) (r 9) (r 10) (r 11) (r 13) (r 14) (clM (r 13) (r 14) t (nI i) bk).1) i j = true ∧ ((0 : Int32) = 0 → ∀ w, agN (KBm rw cl t bk (r 3) (r 4) (r 5) (r 6) (r 7) (r 8) (r 9) (r 10) (r 11) (r 13) (r 14) (clM (r 13) (r 14) t (nI i) bk).1) (LTm (r 5) (r 6) t cl) (HTm (r 5) (r 6) t cl) (rsT (DBm rw cl t bk (r 3) (r 5) (r 11) (r 13) (r 14) (clM (r 13) (r 14) t (nI i) bk).1) (NTm (r 6) t)) w → V2 i j ≤ w i j) ∧ (¬ (0 : Int32) = 0 → ∀ w, agN (KBm rw cl t bk (r 3) (r 4) (r 5) (r 6) (r 7) (r 8) (r 9) (r 10) (r 11) (r 13) (r 14) (clM (r 13) (r 14) t (nI i) bk).1) (LTm (r 5) (r 6) t cl) (HTm (r 5) (r 6) t cl) (rsT (DBm rw cl t bk (r 3) (r 5) (r 11) (r 13) (r 14) (clM (r 13) (r 14) t (nI i) bk).1) (NTm (r 6) t)) w → w i j ≤ V2 i j)) := hse
  have hvb : V2 i j ≤ 1073741824 := hvb
  have hw4r : r3 = nI (V2 i j) := hw4r
  subst hw4r
  have hsl := hse.imp id (fun z9 => And.intro z9.1 (z9.2.1 rfl))
  obtain ⟨W2, eW⟩ : ∃ z9 : Nat → Nat → Nat, z9 = V2 := ⟨_, rfl⟩
  rw [← eW] at ha2 hsl hvb
  rw [← eW]
  have ha3 := ha2
  have hwb := hvb
  refine lv_istore (lv' := [(5, .int (nI (W2 i j))), (4, .int (nI (nn))), (0, .ref y), (1, .int (nI t)), (2, .int (nI i)), (3, .int (nI j))]) hx hb dX7_isSafe_21 hl (by decide) rfl (fun ls hl => ?_)
  refine lv_iload hx hb dX7_isSafe_23 (lv_at hl 0 rfl) ?_
  refine lv_if_eq (tgt := 49) hx hb dX7_isSafe_25 (by decide) (fun c14 => ?_) (fun c14 => ?_)
  · have b25 := qeq_t (a := (W2 i j)) (b := 0) (by omega) (by omega) c14
    refine lv_aload_n hx hb dX7_isSafe_49 rfl (lv_at hl 2 rfl) ?_
    refine lv_iload_n hx hb dX7_isSafe_50 rfl (lv_at hl 3 rfl) ?_
    refine lv_iload_n hx hb dX7_isSafe_51 rfl (lv_at hl 4 rfl) ?_
    refine lv_iload_n hx hb dX7_isSafe_52 rfl (lv_at hl 5 rfl) ?_
    refine lv_iconst (v := 1) hx hb dX7_isSafe_53 (by decide) ?_
    refine wrVIa (rest := []) (q0 := 0) ⟨hx, hb, hml, hown, hts⟩ (n_endOf l G y b (upd (upd f 20 x5) 21 x6) (up2 (up2 (up2 (up2 (up2 (up2 (up2 r 15 x7) 16 x8) 17 x9) 18 x10) 19 x11) 22 x12) 23 x13) t i j 1 rw cl bk (by omega) (by omega) (by omega) (by omega) h2 h3 h12 hG (by omega) (by omega) hsi hNR) mi_yX7_endOf mv_yX7_endOf ml_X7_223 ⟨rfl, rfl, Nat.le_of_ble_eq_true rfl, Nat.le_of_ble_eq_true rfl⟩ hK hP (hDD _ _) rfl rfl rfl hl.1 rfl (Nat.le_of_ble_eq_true rfl) dX7_isSafe_54 ⟨Nat.zero_le _, Nat.zero_le _⟩ hS hA (fun r15 w16 H locs hw16 hP hS => ?_)
    obtain ⟨x17, x18, x19, x20, x21, x22, x23, x24, x25, V2, rfl, hw16r, ha2, hse, hvb⟩ := hw16
    have hP : PP G (mM G y b (upd (upd f 20 x17) 21 x18) (up2 (up2 (up2 (up2 (up2 (up2 (up2 r 15 x19) 16 x20) 17 x21) 18 x22) 19 x23) 22 x24) 23 x25)) H := hP
    have ha2 : agN (KBm rw cl t bk (r 3) (r 4) (r 5) (r 6) (r 7) (r 8) (r 9) (r 10) (r 11) (r 13) (r 14) (clM (r 13) (r 14) t (nI i) bk).1) (LTm (r 5) (r 6) t cl) (HTm (r 5) (r 6) t cl) (rsT (DBm rw cl t bk (r 3) (r 5) (r 11) (r 13) (r 14) (clM (r 13) (r 14) t (nI i) bk).1) (NTm (r 6) t)) V2 := ha2
    have hse : ((KBm rw cl t bk (r 3) (r 4) (r 5) (r 6) (r 7) (r 8) (r 9) (r 10) (r 11) (r 13) (r 14) (clM (r 13) (r 14) t (nI i) bk).1) i j = false ∧ V2 i j = (rsT (DBm rw cl t bk (r 3) (r 5) (r 11) (r 13) (r 14) (clM (r 13) (r 14) t (nI i) bk).1) (NTm (r 6) t)) i j) ∨ ((KBm rw cl t bk (r 3) (r 4) (r 5) (r 6) (r 7) (r 8) (r 9) (r 10) (r 11) (r 13) (r 14) (clM (r 13) (r 14) t (nI i) bk).1) i j = true ∧ ((1 : Int32) = 0 → ∀ w, agN (KBm rw cl t bk (r 3) (r 4) (r 5) (r 6) (r 7) (r 8) (r 9) (r 10) (r 11) (r 13) (r 14) (clM (r 13) (r 14) t (nI i) bk).1) (LTm (r 5) (r 6) t cl) (HTm (r 5) (r 6) t cl) (rsT (DBm rw cl t bk (r 3) (r 5) (r 11) (r 13) (r 14) (clM (r 13) (r 14) t (nI i) bk).1) (NTm (r 6) t)) w → V2 i j ≤ w i j) ∧ (¬ (1 : Int32) = 0 → ∀ w, agN (KBm rw cl t bk (r 3) (r 4) (r 5) (r 6) (r 7) (r 8) (r 9) (r 10) (r 11) (r 13) (r 14) (clM (r 13) (r 14) t (nI i) bk).1) (LTm (r 5) (r 6) t cl) (HTm (r 5) (r 6) t cl) (rsT (DBm rw cl t bk (r 3) (r 5) (r 11) (r 13) (r 14) (clM (r 13) (r 14) t (nI i) bk).1) (NTm (r 6) t)) w → w i j ≤ V2 i j)) := hse
    have hvb : V2 i j ≤ 1073741824 := hvb
    have hw16r : r15 = nI (V2 i j) := hw16r
    subst hw16r
    have hsh := hse.imp id (fun z9 => And.intro z9.1 (z9.2.2 (by decide)))
    refine lv_iload hx hb dX7_isSafe_57 (lv_at hl 1 rfl) ?_
    refine lv_aload_n hx hb dX7_isSafe_59 rfl (lv_at hl 2 rfl) ?_
    refine va_get (D := G.1) (ci := 7) (v := .ref (b 4)) (C := RX7) (T := TX7) (N := 43) hx hb hts inX7 hown hK.1 hP 0 rfl rfl 4 (by decide) (hts _ mf_X7_20) (fun _ h9 => h9) rfl dX7_isSafe_60 ?_
    refine lv_bipush (v := 6) hx hb dX7_isSafe_63 (by decide) ?_
    refine lv_iload_n hx hb dX7_isSafe_65 rfl (lv_at hl 3 rfl) ?_
    refine lv_imul hx hb dX7_isSafe_66 ?_
    refine lv_topi (fun v26 ev26 => ?_)
    obtain rfl : v26 = nI (6 * t) := nI_times ev26 rfl rfl
    refine lv_iconst (v := 4) hx hb dX7_isSafe_67 (by decide) ?_
    refine lv_iadd hx hb dX7_isSafe_68 ?_
    refine lv_topi (fun v27 ev27 => ?_)
    obtain rfl : v27 = nI ((6 * t) + 4) := nI_plus ev27 rfl rfl
    refine xiald (f := (r 4)) hx hb hK hP 4 (((6 * t) + 4)) (rfl) (by omega) (by decide) rfl dX7_isSafe_69 ?_
    refine lv_topi (fun v28 ev28 => ?_)
    obtain rfl : v28 = nI (uq) := ev28.trans (hr4)
    refine lv_iadd hx hb dX7_isSafe_70 ?_
    refine lv_topi (fun v29 ev29 => ?_)
    obtain rfl : v29 = nI ((nn) + (uq)) := nI_plus ev29 rfl rfl
    refine lv_icmp_lt (tgt := 78) hx hb dX7_isSafe_71 (by decide) (fun c30 => ?_) (fun c30 => ?_)
    · have b71 := qlt_t (a := (V2 i j)) (b := ((nn) + (uq))) (by omega) (by omega) c30
      refine lv_iconst (v := 0) hx hb dX7_isSafe_78 (by decide) ?_
      exact wr_zret hx hb hr hlocks (Or.inl rfl) hS hP ⟨x17, x18, x19, x20, x21, x22, x23, x24, x25, rfl, (Or.inr ⟨rfl, ES_hi hNn hsh b71⟩)⟩ dX7_isSafe_79
    · have b71 := qlt_f (a := (V2 i j)) (b := ((nn) + (uq))) (by omega) (by omega) c30
      refine lv_iconst (v := 1) hx hb dX7_isSafe_74 (by decide) ?_
      refine lv_goto (tgt := 79) hx hb dX7_isSafe_75 (by decide) ?_
      exact wr_zret hx hb hr hlocks (Or.inr rfl) hS hP ⟨x17, x18, x19, x20, x21, x22, x23, x24, x25, rfl, (Or.inl ⟨rfl, ES_ok hNn ha3 ha2 hsl hsh (Or.inl b25) b71⟩)⟩ dX7_isSafe_79
  · have b25 := qeq_f (a := (W2 i j)) (b := 0) (by omega) (by omega) c14
    refine lv_iload hx hb dX7_isSafe_28 (lv_at hl 0 rfl) ?_
    refine lv_iload hx hb dX7_isSafe_30 (lv_at hl 1 rfl) ?_
    refine lv_aload_n hx hb dX7_isSafe_32 rfl (lv_at hl 2 rfl) ?_
    refine va_get (D := G.1) (ci := 7) (v := .ref (b 4)) (C := RX7) (T := TX7) (N := 43) hx hb hts inX7 hown hK.1 hP 0 rfl rfl 4 (by decide) (hts _ mf_X7_20) (fun _ h9 => h9) rfl dX7_isSafe_33 ?_
    refine lv_bipush (v := 6) hx hb dX7_isSafe_36 (by decide) ?_
    refine lv_iload_n hx hb dX7_isSafe_38 rfl (lv_at hl 3 rfl) ?_
    refine lv_imul hx hb dX7_isSafe_39 ?_
    refine lv_topi (fun v31 ev31 => ?_)
    obtain rfl : v31 = nI (6 * t) := nI_times ev31 rfl rfl
    refine lv_iconst (v := 3) hx hb dX7_isSafe_40 (by decide) ?_
    refine lv_iadd hx hb dX7_isSafe_41 ?_
    refine lv_topi (fun v32 ev32 => ?_)
    obtain rfl : v32 = nI ((6 * t) + 3) := nI_plus ev32 rfl rfl
    refine xiald (f := (r 4)) hx hb hK hP 4 (((6 * t) + 3)) (rfl) (by omega) (by decide) rfl dX7_isSafe_42 ?_
    refine lv_topi (fun v33 ev33 => ?_)
    obtain rfl : v33 = nI (dn) := ev33.trans (hr3)
    refine lv_isub hx hb dX7_isSafe_43 ?_
    refine lv_topi (fun v34 ev34 => ?_)
    refine lv_icmp_le (tgt := 49) hx hb dX7_isSafe_44 (by decide) (fun c35 => ?_) (fun c35 => ?_)
    · refine lv_aload_n hx hb dX7_isSafe_49 rfl (lv_at hl 2 rfl) ?_
      refine lv_iload_n hx hb dX7_isSafe_50 rfl (lv_at hl 3 rfl) ?_
      refine lv_iload_n hx hb dX7_isSafe_51 rfl (lv_at hl 4 rfl) ?_
      refine lv_iload_n hx hb dX7_isSafe_52 rfl (lv_at hl 5 rfl) ?_
      refine lv_iconst (v := 1) hx hb dX7_isSafe_53 (by decide) ?_
      refine wrVIa (rest := []) (q0 := 0) ⟨hx, hb, hml, hown, hts⟩ (n_endOf l G y b (upd (upd f 20 x5) 21 x6) (up2 (up2 (up2 (up2 (up2 (up2 (up2 r 15 x7) 16 x8) 17 x9) 18 x10) 19 x11) 22 x12) 23 x13) t i j 1 rw cl bk (by omega) (by omega) (by omega) (by omega) h2 h3 h12 hG (by omega) (by omega) hsi hNR) mi_yX7_endOf mv_yX7_endOf ml_X7_223 ⟨rfl, rfl, Nat.le_of_ble_eq_true rfl, Nat.le_of_ble_eq_true rfl⟩ hK hP (hDD _ _) rfl rfl rfl hl.1 rfl (Nat.le_of_ble_eq_true rfl) dX7_isSafe_54 ⟨Nat.zero_le _, Nat.zero_le _⟩ hS hA (fun r36 w37 H locs hw37 hP hS => ?_)
      obtain ⟨x38, x39, x40, x41, x42, x43, x44, x45, x46, V2, rfl, hw37r, ha2, hse, hvb⟩ := hw37
      have hP : PP G (mM G y b (upd (upd f 20 x38) 21 x39) (up2 (up2 (up2 (up2 (up2 (up2 (up2 r 15 x40) 16 x41) 17 x42) 18 x43) 19 x44) 22 x45) 23 x46)) H := hP
      have ha2 : agN (KBm rw cl t bk (r 3) (r 4) (r 5) (r 6) (r 7) (r 8) (r 9) (r 10) (r 11) (r 13) (r 14) (clM (r 13) (r 14) t (nI i) bk).1) (LTm (r 5) (r 6) t cl) (HTm (r 5) (r 6) t cl) (rsT (DBm rw cl t bk (r 3) (r 5) (r 11) (r 13) (r 14) (clM (r 13) (r 14) t (nI i) bk).1) (NTm (r 6) t)) V2 := ha2
      have hse : ((KBm rw cl t bk (r 3) (r 4) (r 5) (r 6) (r 7) (r 8) (r 9) (r 10) (r 11) (r 13) (r 14) (clM (r 13) (r 14) t (nI i) bk).1) i j = false ∧ V2 i j = (rsT (DBm rw cl t bk (r 3) (r 5) (r 11) (r 13) (r 14) (clM (r 13) (r 14) t (nI i) bk).1) (NTm (r 6) t)) i j) ∨ ((KBm rw cl t bk (r 3) (r 4) (r 5) (r 6) (r 7) (r 8) (r 9) (r 10) (r 11) (r 13) (r 14) (clM (r 13) (r 14) t (nI i) bk).1) i j = true ∧ ((1 : Int32) = 0 → ∀ w, agN (KBm rw cl t bk (r 3) (r 4) (r 5) (r 6) (r 7) (r 8) (r 9) (r 10) (r 11) (r 13) (r 14) (clM (r 13) (r 14) t (nI i) bk).1) (LTm (r 5) (r 6) t cl) (HTm (r 5) (r 6) t cl) (rsT (DBm rw cl t bk (r 3) (r 5) (r 11) (r 13) (r 14) (clM (r 13) (r 14) t (nI i) bk).1) (NTm (r 6) t)) w → V2 i j ≤ w i j) ∧ (¬ (1 : Int32) = 0 → ∀ w, agN (KBm rw cl t bk (r 3) (r 4) (r 5) (r 6) (r 7) (r 8) (r 9) (r 10) (r 11) (r 13) (r 14) (clM (r 13) (r 14) t (nI i) bk).1) (LTm (r 5) (r 6) t cl) (HTm (r 5) (r 6) t cl) (rsT (DBm rw cl t bk (r 3) (r 5) (r 11) (r 13) (r 14) (clM (r 13) (r 14) t (nI i) bk).1) (NTm (r 6) t)) w → w i j ≤ V2 i j)) := hse
      have hvb : V2 i j ≤ 1073741824 := hvb
      have hw37r : r36 = nI (V2 i j) := hw37r
      subst hw37r
      have hsh := hse.imp id (fun z9 => And.intro z9.1 (z9.2.2 (by decide)))
      refine lv_iload hx hb dX7_isSafe_57 (lv_at hl 1 rfl) ?_
      refine lv_aload_n hx hb dX7_isSafe_59 rfl (lv_at hl 2 rfl) ?_
      refine va_get (D := G.1) (ci := 7) (v := .ref (b 4)) (C := RX7) (T := TX7) (N := 43) hx hb hts inX7 hown hK.1 hP 0 rfl rfl 4 (by decide) (hts _ mf_X7_20) (fun _ h9 => h9) rfl dX7_isSafe_60 ?_
      refine lv_bipush (v := 6) hx hb dX7_isSafe_63 (by decide) ?_
      refine lv_iload_n hx hb dX7_isSafe_65 rfl (lv_at hl 3 rfl) ?_
      refine lv_imul hx hb dX7_isSafe_66 ?_
      refine lv_topi (fun v47 ev47 => ?_)
      obtain rfl : v47 = nI (6 * t) := nI_times ev47 rfl rfl
      refine lv_iconst (v := 4) hx hb dX7_isSafe_67 (by decide) ?_
      refine lv_iadd hx hb dX7_isSafe_68 ?_
      refine lv_topi (fun v48 ev48 => ?_)
      obtain rfl : v48 = nI ((6 * t) + 4) := nI_plus ev48 rfl rfl
      refine xiald (f := (r 4)) hx hb hK hP 4 (((6 * t) + 4)) (rfl) (by omega) (by decide) rfl dX7_isSafe_69 ?_
      refine lv_topi (fun v49 ev49 => ?_)
      obtain rfl : v49 = nI (uq) := ev49.trans (hr4)
      refine lv_iadd hx hb dX7_isSafe_70 ?_
      refine lv_topi (fun v50 ev50 => ?_)
      obtain rfl : v50 = nI ((nn) + (uq)) := nI_plus ev50 rfl rfl
      refine lv_icmp_lt (tgt := 78) hx hb dX7_isSafe_71 (by decide) (fun c51 => ?_) (fun c51 => ?_)
      · have b71 := qlt_t (a := (V2 i j)) (b := ((nn) + (uq))) (by omega) (by omega) c51
        refine lv_iconst (v := 0) hx hb dX7_isSafe_78 (by decide) ?_
        exact wr_zret hx hb hr hlocks (Or.inl rfl) hS hP ⟨x38, x39, x40, x41, x42, x43, x44, x45, x46, rfl, (Or.inr ⟨rfl, ES_hi hNn hsh b71⟩)⟩ dX7_isSafe_79
      · have b71 := qlt_f (a := (V2 i j)) (b := ((nn) + (uq))) (by omega) (by omega) c51
        refine lv_iconst (v := 1) hx hb dX7_isSafe_74 (by decide) ?_
        refine lv_goto (tgt := 79) hx hb dX7_isSafe_75 (by decide) ?_
        exact wr_zret hx hb hr hlocks (Or.inr rfl) hS hP ⟨x38, x39, x40, x41, x42, x43, x44, x45, x46, rfl, (Or.inl ⟨rfl, ES_ok hNn ha3 ha2 hsl hsh (Or.inr ((le_sub hwb hnn hdn ev34).mp c35)) b71⟩)⟩ dX7_isSafe_79
    · refine lv_iconst (v := 0) hx hb dX7_isSafe_47 (by decide) ?_
      exact wr_zret hx hb hr hlocks (Or.inl rfl) hS hP ⟨x5, x6, x7, x8, x9, x10, x11, x12, x13, rfl, (Or.inr ⟨rfl, ES_lo hNn hsl b25 (fun h9 => c35 ((le_sub hwb hnn hdn ev34).mpr h9))⟩)⟩ dX7_isSafe_48
def SFm (rw cl t bk : Nat) (r3 r4 r5 r6 r7 r8 r9 r10 r11 r13 r14 : Nat → Int32) (dn uq i j : Nat) : Prop := SAFR (KBm rw cl t bk r3 r4 r5 r6 r7 r8 r9 r10 r11 r13 r14 (clM r13 r14 t (nI i) bk).1) (LTm r5 r6 t cl) (HTm r5 r6 t cl) (rsT (DBm rw cl t bk r3 r5 r11 r13 r14 (clM r13 r14 t (nI i) bk).1) (NTm r6 t)) i j dn uq
/-- a secret that is not safe -/
def UNm (rw cl t bk : Nat) (r3 r4 r5 r6 r7 r8 r9 r10 r11 r13 r14 : Nat → Int32) (dn uq i j : Nat) : Prop := sndN (r3 t) r11 r5 t i ∧ 0 < whR r4 r5 r6 r7 r8 r9 t (144 * t + 12 * i + j) ∧ ¬ SFm rw cl t bk r3 r4 r5 r6 r7 r8 r9 r10 r11 r13 r14 dn uq i j
/-- the first of the places from one on that has a property, or none -/
def firstU (rw cl : Nat) (P : Nat → Nat → Prop) (pl : Nat) (q : Int32) : Prop := (q = -1 ∧ ∀ x y, x < rw → y < cl → pl ≤ 12 * x + y → ¬ P x y) ∨ ∃ i j, i < rw ∧ j < cl ∧ pl ≤ 12 * i + j ∧ q = nI (12 * i + j) ∧ P i j ∧ ∀ x y, x < rw → y < cl → pl ≤ 12 * x + y → 12 * x + y < 12 * i + j → ¬ P x y
set_option maxHeartbeats 4000000 in
set_option maxRecDepth 100000 in
theorem n_unsafeFrom (l : Launch) (G : GG) (y : Nat) (b : Nat → Nat) (f : Nat → Int32) (r : Nat → Nat → Int32) (t : Nat) (pl : Nat) (rw : Nat) (cl : Nat) (bk : Nat) (dn : Nat) (uq : Nat) (ht : t < 6) (hrw : rw ≤ 12) (hcl : cl ≤ 12) (hbk : bk ≤ 12) (h2 : (r 2) t = nI rw) (h3 : (r 3) t = nI cl) (h12 : (r 12) t = nI bk) (hG : nOK 864 6 (r 7)) (hNR : NRM rw cl t (r 3) (r 5) (r 6) (r 11)) (hdn : dn ≤ 1000000) (huq : uq ≤ 1000000) (hr3 : (r 4) (6 * t + 3) = nI dn) (hr4 : (r 4) (6 * t + 4) = nI uq) (hpl : pl ≤ 145) : WrI l yX7_unsafeFrom cX7_unsafeFrom 6 (some .int) ({ frames := 6, cells := 0, slots := 0, locals := 154 }) G (mM G y b f r) [.ref y, .int (nI t), .int (nI pl)] (fun q w => ∃ (n_f_20 : Int32) (n_f_21 : Int32) (n_r_15 : Nat → Int32) (n_r_16 : Nat → Int32) (n_r_17 : Nat → Int32) (n_r_18 : Nat → Int32) (n_r_19 : Nat → Int32) (n_r_22 : Nat → Int32) (n_r_23 : Nat → Int32), w = mM G y b (upd (upd f 20 n_f_20) 21 n_f_21) (up2 (up2 (up2 (up2 (up2 (up2 (up2 r 15 n_r_15) 16 n_r_16) 17 n_r_17) 18 n_r_18) 19 n_r_19) 22 n_r_22) 23 n_r_23) ∧ firstU rw cl (UNm rw cl t bk (r 3) (r 4) (r 5) (r 6) (r 7) (r 8) (r 9) (r 10) (r 11) (r 13) (r 14) dn uq) pl q) := by
  refine wr_entryI (by decide +kernel) (Nat.le_of_ble_eq_true rfl) ?_
  intro p e s m below meth c A C0 hP hK hD hA ls hl
  have hS : va_S A s.heap s.heap [] := va_S.rf
  obtain ⟨hx, hb, hml, hown, hts, hr, hlocks, hin⟩ := C0
  have hown : s.vm.findClass RX7 = some m.cls := hown
  have hDD : ∀ f' r', va_D A (mM G y b f' r') := fun f' r' => D_same hD rfl
  have hl : lv_has ls 6 [(0, .ref y), (1, .int (nI t)), (2, .int (nI pl))] := hl
  refine lv_iload_n hx hb dX7_unsafeFrom_0 rfl (lv_at hl 2 rfl) ?_
  refine lv_istore_n (lv' := [(3, .int (nI pl)), (0, .ref y), (1, .int (nI t)), (2, .int (nI pl))]) hx hb dX7_unsafeFrom_1 rfl hl (by decide) rfl (fun ls hl => ?_)
  have loop2 : ∀ (k1 n : Nat) (x2 : Int32) (x3 : Int32) (x4 : Nat → Int32) (x5 : Nat → Int32) (x6 : Nat → Int32) (x7 : Nat → Int32) (x8 : Nat → Int32) (x9 : Nat → Int32) (x10 : Nat → Int32), n ≤ (max pl (12 * rw)) → (max pl (12 * rw)) < n + k1 → (pl ≤ n) → (∀ x y, x < rw → y < cl → pl ≤ 12 * x + y → 12 * x + y < n → ¬ UNm rw cl t bk (r 3) (r 4) (r 5) (r 6) (r 7) (r 8) (r 9) (r 10) (r 11) (r 13) (r 14) dn uq x y) → ∀ (H : Heap) (locs : List Loc) (ls : Array Slot), PP G (mM G y b (upd (upd f 20 x2) 21 x3) (up2 (up2 (up2 (up2 (up2 (up2 (up2 r 15 x4) 16 x5) 17 x6) 18 x7) 19 x8) 22 x9) 23 x10)) H → va_S A s.heap H locs → lv_has ls 6 [(3, .int (nI n)), (0, .ref y), (1, .int (nI t))] → W p l e ({ frames := 6, cells := 0, slots := 0, locals := 154 }) s m ([.ref y, .int (nI t), .int (nI pl)] : List Value).toArray below meth c H locs 0 0 (MQ below (QwI G (fun q w => ∃ (n_f_20 : Int32) (n_f_21 : Int32) (n_r_15 : Nat → Int32) (n_r_16 : Nat → Int32) (n_r_17 : Nat → Int32) (n_r_18 : Nat → Int32) (n_r_19 : Nat → Int32) (n_r_22 : Nat → Int32) (n_r_23 : Nat → Int32), w = mM G y b (upd (upd f 20 n_f_20) 21 n_f_21) (up2 (up2 (up2 (up2 (up2 (up2 (up2 r 15 n_r_15) 16 n_r_16) 17 n_r_17) 18 n_r_18) 19 n_r_19) 22 n_r_22) 23 n_r_23) ∧ firstU rw cl (UNm rw cl t bk (r 3) (r 4) (r 5) (r 6) (r 7) (r 8) (r 9) (r 10) (r 11) (r 13) (r 14) dn uq) pl q) A) ([.ref y, .int (nI t), .int (nI pl)] : List Value).toArray s 0 0 A) (F0 m 2 ls []) := by
    intro k1
    induction k1 with
    | zero => intro n x2 x3 x4 x5 x6 x7 x8 x9 x10 h1 h2; exact absurd h1 (by omega)
    | succ k1 ih2k1 =>
      intro n x2 x3 x4 x5 x6 x7 x8 x9 x10 hi_n hk_n hge hno H locs ls hP hS hl
      refine lv_iload_n hx hb dX7_unsafeFrom_2 rfl (lv_at hl 0 rfl) ?_
      refine lv_bipush (v := 12) hx hb dX7_unsafeFrom_3 (by decide) ?_
      refine lv_aload_n hx hb dX7_unsafeFrom_5 rfl (lv_at hl 1 rfl) ?_
      refine va_get (D := G.1) (ci := 7) (v := .ref (b 2)) (C := RX7) (T := TX7) (N := 43) hx hb hts inX7 hown hK.1 hP 0 rfl rfl 2 (by decide) (hts _ mf_X7_13) (fun _ h9 => h9) rfl dX7_unsafeFrom_6 ?_
      refine lv_iload_n hx hb dX7_unsafeFrom_9 rfl (lv_at hl 2 rfl) ?_
      refine xiald (f := (r 2)) hx hb hK hP 2 (t) (rfl) (by omega) (by decide) rfl dX7_unsafeFrom_10 ?_
      refine lv_topi (fun v11 ev11 => ?_)
      obtain rfl : v11 = nI (rw) := ev11.trans (h2)
      refine lv_imul hx hb dX7_unsafeFrom_11 ?_
      refine lv_topi (fun v12 ev12 => ?_)
      obtain rfl : v12 = nI (12 * (rw)) := nI_times ev12 rfl rfl
      refine lv_icmp_ge (tgt := 84) hx hb dX7_unsafeFrom_12 (by decide) (fun c13 => ?_) (fun c13 => ?_)
      · have b12 := qge_t (a := n) (b := (12 * (rw))) (by omega) (by omega) c13
        refine lv_iconst (v := -1) hx hb dX7_unsafeFrom_84 (by decide) ?_
        exact wr_iret hx hb hr hlocks hS hP ⟨x2, x3, x4, x5, x6, x7, x8, x9, x10, rfl, Or.inl ⟨rfl, fun x y h6 h7 h8 => hno x y h6 h7 h8 (by omega)⟩⟩ dX7_unsafeFrom_85
      · have b12 := qge_f (a := n) (b := (12 * (rw))) (by omega) (by omega) c13
        refine lv_iload_n hx hb dX7_unsafeFrom_15 rfl (lv_at hl 0 rfl) ?_
        refine lv_bipush (v := 12) hx hb dX7_unsafeFrom_16 (by decide) ?_
        refine lv_idiv hx hb dX7_unsafeFrom_18 (by decide) ?_
        refine lv_topi (fun v14 ev14 => ?_)
        obtain rfl : v14 = nI (n / 12) := nI_quo ev14 rfl rfl (by omega) (by omega) (by omega)
        refine lv_istore (lv' := [(4, .int (nI (n / 12))), (3, .int (nI n)), (0, .ref y), (1, .int (nI t))]) hx hb dX7_unsafeFrom_19 hl (by decide) rfl (fun ls hl => ?_)
        refine lv_iload_n hx hb dX7_unsafeFrom_21 rfl (lv_at hl 1 rfl) ?_
        refine lv_bipush (v := 12) hx hb dX7_unsafeFrom_22 (by decide) ?_
        refine lv_irem hx hb dX7_unsafeFrom_24 (by decide) ?_
        refine lv_topi (fun v15 ev15 => ?_)
        obtain rfl : v15 = nI (n % 12) := nI_mod ev15 rfl rfl (by omega) (by omega) (by omega)
        refine lv_istore (lv' := [(5, .int (nI (n % 12))), (4, .int (nI (n / 12))), (3, .int (nI n)), (0, .ref y), (1, .int (nI t))]) hx hb dX7_unsafeFrom_25 hl (by decide) rfl (fun ls hl => ?_)
        refine lv_iload hx hb dX7_unsafeFrom_27 (lv_at hl 0 rfl) ?_
        refine lv_aload_n hx hb dX7_unsafeFrom_29 rfl (lv_at hl 3 rfl) ?_
        refine va_get (D := G.1) (ci := 7) (v := .ref (b 3)) (C := RX7) (T := TX7) (N := 43) hx hb hts inX7 hown hK.1 hP 0 rfl rfl 3 (by decide) (hts _ mf_X7_17) (fun _ h9 => h9) rfl dX7_unsafeFrom_30 ?_
        refine lv_iload_n hx hb dX7_unsafeFrom_33 rfl (lv_at hl 4 rfl) ?_
        refine xiald (f := (r 3)) hx hb hK hP 3 (t) (rfl) (by omega) (by decide) rfl dX7_unsafeFrom_34 ?_
        refine lv_topi (fun v16 ev16 => ?_)
        obtain rfl : v16 = nI (cl) := ev16.trans (h3)
        refine lv_icmp_ge (tgt := 78) hx hb dX7_unsafeFrom_35 (by decide) (fun c17 => ?_) (fun c17 => ?_)
        · have b35 := qge_t (a := (n % 12)) (b := (cl)) (by omega) (by omega) c17
          obtain ⟨v18, ev18⟩ : ∃ y9 : Int32, y9 = (nI n) + Int32.ofInt (1) := ⟨_, rfl⟩
          refine lv_iinc (v := v18) (lv' := [(3, .int v18), (5, .int (nI (n % 12))), (4, .int (nI (n / 12))), (0, .ref y), (1, .int (nI t))]) hx hb dX7_unsafeFrom_78 hl (k := 2) rfl ev18.symm (by decide) rfl (fun ls hl => ?_)
          obtain rfl : v18 = nI (n + 1) := nI_plus (i := n) (j := 1) ev18 rfl (by decide)
          refine lv_goto (tgt := 2) hx hb dX7_unsafeFrom_81 (by decide) ?_
          exact ih2k1 (n + 1) x2 x3 x4 x5 x6 x7 x8 x9 x10 (by omega) (by omega) (by omega) (fun x y h6 h7 h8 h9 => (Decidable.em (12 * x + y = n)).elim (fun e9 => absurd h7 (by omega)) (fun e9 => hno x y h6 h7 h8 (by omega))) _ _ _ hP hS (lv_sub hl [0, 3, 4] rfl)
        · have b35 := qge_f (a := (n % 12)) (b := (cl)) (by omega) (by omega) c17
          refine lv_aload_n hx hb dX7_unsafeFrom_38 rfl (lv_at hl 3 rfl) ?_
          refine lv_iload_n hx hb dX7_unsafeFrom_39 rfl (lv_at hl 4 rfl) ?_
          refine lv_iload hx hb dX7_unsafeFrom_40 (lv_at hl 1 rfl) ?_
          refine rdV (rest := []) (q0 := 0) ⟨hx, hb, hml, hown, hts⟩ (m_X7_isSound l G y b (upd (upd f 20 x2) 21 x3) (up2 (up2 (up2 (up2 (up2 (up2 (up2 r 15 x4) 16 x5) 17 x6) 18 x7) 19 x8) 22 x9) 23 x10) t (n / 12) rw cl bk (by omega) (by omega) (by omega) (by omega) h2 h3 h12 (by omega)) mi_yX7_isSound mv_yX7_isSound ml_X7_161 ⟨rfl, rfl, Nat.le_of_ble_eq_true rfl, Nat.le_of_ble_eq_true rfl⟩ hK (hP) rfl rfl rfl hl.1 rfl (Nat.le_of_ble_eq_true rfl) dX7_unsafeFrom_42 ⟨Nat.zero_le _, Nat.zero_le _⟩ hS hA hP (fun r19 H locs hr19 hP hS => ?_)
          have hr19 : ((r19 = 1 ∧ (sndN ((r 3) t) (r 11) (r 5) t (n / 12))) ∨ (r19 = 0 ∧ ¬ (sndN ((r 3) t) (r 11) (r 5) t (n / 12)))) := hr19
          refine lv_if_eq (tgt := 78) hx hb dX7_unsafeFrom_45 (by decide) (fun c20 => ?_) (fun c20 => ?_)
          · obtain ⟨v21, ev21⟩ : ∃ y9 : Int32, y9 = (nI n) + Int32.ofInt (1) := ⟨_, rfl⟩
            refine lv_iinc (v := v21) (lv' := [(3, .int v21), (5, .int (nI (n % 12))), (4, .int (nI (n / 12))), (0, .ref y), (1, .int (nI t))]) hx hb dX7_unsafeFrom_78 hl (k := 2) rfl ev21.symm (by decide) rfl (fun ls hl => ?_)
            obtain rfl : v21 = nI (n + 1) := nI_plus (i := n) (j := 1) ev21 rfl (by decide)
            refine lv_goto (tgt := 2) hx hb dX7_unsafeFrom_81 (by decide) ?_
            exact ih2k1 (n + 1) x2 x3 x4 x5 x6 x7 x8 x9 x10 (by omega) (by omega) (by omega) (fun x y h6 h7 h8 h9 => (Decidable.em (12 * x + y = n)).elim (fun e9 => by obtain ⟨rfl, rfl⟩ : x = n / 12 ∧ y = n % 12 := (by omega); exact fun z9 => bF hr19 c20 z9.1) (fun e9 => hno x y h6 h7 h8 (by omega))) _ _ _ hP hS (lv_sub hl [0, 3, 4] rfl)
          · have hsi := bT hr19 c20
            refine lv_aload_n hx hb dX7_unsafeFrom_48 rfl (lv_at hl 3 rfl) ?_
            refine lv_iload_n hx hb dX7_unsafeFrom_49 rfl (lv_at hl 4 rfl) ?_
            refine lv_iload_n hx hb dX7_unsafeFrom_50 rfl (lv_at hl 4 rfl) ?_
            refine lv_iload hx hb dX7_unsafeFrom_51 (lv_at hl 1 rfl) ?_
            refine lv_iload hx hb dX7_unsafeFrom_53 (lv_at hl 0 rfl) ?_
            refine rdS (rest := [.int (nI t), .ref y]) ⟨hx, hb, hml, hown, hts⟩ (m_X7_at l G y b (upd (upd f 20 x2) 21 x3) (up2 (up2 (up2 (up2 (up2 (up2 (up2 r 15 x4) 16 x5) 17 x6) 18 x7) 19 x8) 22 x9) 23 x10) t (n / 12) (n % 12)  ) mi_yX7_at mst_yX7_at ml_X7_147 ⟨rfl, rfl, Nat.le_of_ble_eq_true rfl, Nat.le_of_ble_eq_true rfl⟩ hK (hP) rfl hl.1 rfl (Nat.le_of_ble_eq_true rfl) dX7_unsafeFrom_55 ⟨Nat.zero_le _, Nat.zero_le _⟩ hS hA hP (fun r22 H locs hr22 hP hS => ?_)
            obtain rfl := hr22
            refine rdV (rest := []) (q0 := 0) ⟨hx, hb, hml, hown, hts⟩ (m_X7_why l G y b (upd (upd f 20 x2) 21 x3) (up2 (up2 (up2 (up2 (up2 (up2 (up2 r 15 x4) 16 x5) 17 x6) 18 x7) 19 x8) 22 x9) 23 x10) t (144 * t + 12 * (n / 12) + (n % 12))  (by omega) (by omega) hG) mi_yX7_why mv_yX7_why ml_X7_175 ⟨rfl, rfl, Nat.le_of_ble_eq_true rfl, Nat.le_of_ble_eq_true rfl⟩ hK (hP) rfl rfl rfl hl.1 rfl (Nat.le_of_ble_eq_true rfl) dX7_unsafeFrom_58 ⟨Nat.zero_le _, Nat.zero_le _⟩ hS hA hP (fun r23 H locs hr23 hP hS => ?_)
            obtain rfl := hr23
            refine lv_if_le (tgt := 78) hx hb dX7_unsafeFrom_61 (by decide) (fun c24 => ?_) (fun c24 => ?_)
            · obtain ⟨v25, ev25⟩ : ∃ y9 : Int32, y9 = (nI n) + Int32.ofInt (1) := ⟨_, rfl⟩
              refine lv_iinc (v := v25) (lv' := [(3, .int v25), (5, .int (nI (n % 12))), (4, .int (nI (n / 12))), (0, .ref y), (1, .int (nI t))]) hx hb dX7_unsafeFrom_78 hl (k := 2) rfl ev25.symm (by decide) rfl (fun ls hl => ?_)
              obtain rfl : v25 = nI (n + 1) := nI_plus (i := n) (j := 1) ev25 rfl (by decide)
              refine lv_goto (tgt := 2) hx hb dX7_unsafeFrom_81 (by decide) ?_
              exact ih2k1 (n + 1) x2 x3 x4 x5 x6 x7 x8 x9 x10 (by omega) (by omega) (by omega) (fun x y h6 h7 h8 h9 => (Decidable.em (12 * x + y = n)).elim (fun e9 => by obtain ⟨rfl, rfl⟩ : x = n / 12 ∧ y = n % 12 := (by omega); exact fun z9 => absurd z9.2.1 (Int32.not_lt.mpr c24)) (fun e9 => hno x y h6 h7 h8 (by omega))) _ _ _ hP hS (lv_sub hl [0, 3, 4] rfl)
            · refine lv_aload_n hx hb dX7_unsafeFrom_64 rfl (lv_at hl 3 rfl) ?_
              refine lv_iload_n hx hb dX7_unsafeFrom_65 rfl (lv_at hl 4 rfl) ?_
              refine lv_iload hx hb dX7_unsafeFrom_66 (lv_at hl 1 rfl) ?_
              refine lv_iload hx hb dX7_unsafeFrom_68 (lv_at hl 0 rfl) ?_
              refine wrVIa (rest := []) (q0 := 0) ⟨hx, hb, hml, hown, hts⟩ (n_isSafe l G y b (upd (upd f 20 x2) 21 x3) (up2 (up2 (up2 (up2 (up2 (up2 (up2 r 15 x4) 16 x5) 17 x6) 18 x7) 19 x8) 22 x9) 23 x10) t (n / 12) (n % 12) rw cl bk dn uq (by omega) (by omega) (by omega) (by omega) h2 h3 h12 hG (by omega) (by omega) hsi hNR (by omega) (by omega) hr3 hr4) mi_yX7_isSafe mv_yX7_isSafe ml_X7_227 ⟨rfl, rfl, Nat.le_of_ble_eq_true rfl, Nat.le_of_ble_eq_true rfl⟩ hK hP (hDD _ _) rfl rfl rfl hl.1 rfl (Nat.le_of_ble_eq_true rfl) dX7_unsafeFrom_70 ⟨Nat.zero_le _, Nat.zero_le _⟩ hS hA (fun r26 w27 H locs hw27 hP hS => ?_)
              obtain ⟨x28, x29, x30, x31, x32, x33, x34, x35, x36, rfl, hw27r⟩ := hw27
              have hP : PP G (mM G y b (upd (upd f 20 x28) 21 x29) (up2 (up2 (up2 (up2 (up2 (up2 (up2 r 15 x30) 16 x31) 17 x32) 18 x33) 19 x34) 22 x35) 23 x36)) H := hP
              have hw27r : ((r26 = 1 ∧ (SAFR (KBm rw cl t bk (r 3) (r 4) (r 5) (r 6) (r 7) (r 8) (r 9) (r 10) (r 11) (r 13) (r 14) (clM (r 13) (r 14) t (nI (n / 12)) bk).1) (LTm (r 5) (r 6) t cl) (HTm (r 5) (r 6) t cl) (rsT (DBm rw cl t bk (r 3) (r 5) (r 11) (r 13) (r 14) (clM (r 13) (r 14) t (nI (n / 12)) bk).1) (NTm (r 6) t)) (n / 12) (n % 12) dn uq)) ∨ (r26 = 0 ∧ ¬ (SAFR (KBm rw cl t bk (r 3) (r 4) (r 5) (r 6) (r 7) (r 8) (r 9) (r 10) (r 11) (r 13) (r 14) (clM (r 13) (r 14) t (nI (n / 12)) bk).1) (LTm (r 5) (r 6) t cl) (HTm (r 5) (r 6) t cl) (rsT (DBm rw cl t bk (r 3) (r 5) (r 11) (r 13) (r 14) (clM (r 13) (r 14) t (nI (n / 12)) bk).1) (NTm (r 6) t)) (n / 12) (n % 12) dn uq))) := hw27r
              refine lv_if_ne (tgt := 78) hx hb dX7_unsafeFrom_73 (by decide) (fun c37 => ?_) (fun c37 => ?_)
              · obtain ⟨v38, ev38⟩ : ∃ y9 : Int32, y9 = (nI n) + Int32.ofInt (1) := ⟨_, rfl⟩
                refine lv_iinc (v := v38) (lv' := [(3, .int v38), (5, .int (nI (n % 12))), (4, .int (nI (n / 12))), (0, .ref y), (1, .int (nI t))]) hx hb dX7_unsafeFrom_78 hl (k := 2) rfl ev38.symm (by decide) rfl (fun ls hl => ?_)
                obtain rfl : v38 = nI (n + 1) := nI_plus (i := n) (j := 1) ev38 rfl (by decide)
                refine lv_goto (tgt := 2) hx hb dX7_unsafeFrom_81 (by decide) ?_
                exact ih2k1 (n + 1) x28 x29 x30 x31 x32 x33 x34 x35 x36 (by omega) (by omega) (by omega) (fun x y h6 h7 h8 h9 => (Decidable.em (12 * x + y = n)).elim (fun e9 => by obtain ⟨rfl, rfl⟩ : x = n / 12 ∧ y = n % 12 := (by omega); exact fun z9 => z9.2.2 (bT hw27r c37)) (fun e9 => hno x y h6 h7 h8 (by omega))) _ _ _ hP hS (lv_sub hl [0, 3, 4] rfl)
              · have huns : UNm rw cl t bk (r 3) (r 4) (r 5) (r 6) (r 7) (r 8) (r 9) (r 10) (r 11) (r 13) (r 14) dn uq (n / 12) (n % 12) := ⟨hsi, Int32.not_le.mp c24, bF hw27r c37⟩
                refine lv_iload_n hx hb dX7_unsafeFrom_76 rfl (lv_at hl 2 rfl) ?_
                exact wr_iret hx hb hr hlocks hS hP ⟨x28, x29, x30, x31, x32, x33, x34, x35, x36, rfl, Or.inr ⟨n / 12, n % 12, by omega, by omega, by omega, by rw [show 12 * (n / 12) + n % 12 = n by omega], huns, fun x y h6 h7 h8 h9 => hno x y h6 h7 h8 (by omega)⟩⟩ dX7_unsafeFrom_77
  exact loop2 ((max pl (12 * rw)) + 1) pl (f 20) (f 21) (r 15) (r 16) (r 17) (r 18) (r 19) (r 22) (r 23) (by omega) (by omega) (by omega) (fun x y _ _ h8 h9 => absurd h9 (by omega)) _ _ _ hP hS (lv_sub hl [0, 1, 2] rfl)
