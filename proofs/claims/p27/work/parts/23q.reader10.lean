
abbrev rdA (G : GG) (a b : Nat → Nat) (f : Nat → Int32) (r : Nat → Nat → Int32) : va_W := [((a 15), .inr (2, [.int (f 0), .int (f 1), .int (f 2), .int (f 3), .int (f 4), .ref (b 3), .ref (a 6), .ref (a 7), .ref (a 8), .ref (a 9), .ref (a 10), .ref (a 11), .ref (a 12), .ref (a 13), .ref (a 14)])), ((a 6), .inl (G.2.2.1, 12, .inl (r 6))), ((a 7), .inl (G.2.1, 12, .inl (r 7))), ((a 8), .inl (G.2.1, 144, .inl (r 8))), ((a 9), .inl (G.2.1, 144, .inl (r 9))), ((a 10), .inl (G.2.1, 144, .inl (r 10))), ((a 11), .inl (G.2.2.1, 144, .inl (r 11))), ((a 12), .inl (G.2.1, 144, .inl (r 12))), ((a 13), .inl (G.2.1, 144, .inl (r 13))), ((a 14), .inl (G.2.1, 144, .inl (r 14)))]
abbrev rdT (G : GG) (a b ta : Nat → Nat) (f tf : Nat → Int32) (r tr : Nat → Nat → Int32) : va_W := [((a 15), .inr (2, [.int (f 0), .int (f 1), .int (f 2), .int (f 3), .int (f 4), .ref (b 3), .ref (a 6), .ref (a 7), .ref (a 8), .ref (a 9), .ref (a 10), .ref (a 11), .ref (a 12), .ref (a 13), .ref (a 14)])), ((a 6), .inl (G.2.2.1, 12, .inl (r 6))), ((a 7), .inl (G.2.1, 12, .inl (r 7))), ((a 8), .inl (G.2.1, 144, .inl (r 8))), ((a 9), .inl (G.2.1, 144, .inl (r 9))), ((a 10), .inl (G.2.1, 144, .inl (r 10))), ((a 11), .inl (G.2.2.1, 144, .inl (r 11))), ((a 12), .inl (G.2.1, 144, .inl (r 12))), ((a 13), .inl (G.2.1, 144, .inl (r 13))), ((a 14), .inl (G.2.1, 144, .inl (r 14))), ((ta 0), .inr (4, [.int (tf 0), .int (tf 1), .int (tf 2), .int (tf 3), .ref (ta 4), .ref (ta 5), .ref (ta 6), .ref (ta 7), .ref (ta 8), .ref (ta 9), .ref (ta 10), .ref (ta 11)])), ((ta 4), .inl (G.2.1, 12, .inl (tr 4))), ((ta 5), .inl (G.2.1, 144, .inl (tr 5))), ((ta 6), .inl (G.2.1, 144, .inl (tr 6))), ((ta 7), .inl (G.2.1, 144, .inl (tr 7))), ((ta 8), .inl (G.2.1, 864, .inl (tr 8))), ((ta 9), .inl (G.2.1, 6, .inl (tr 9))), ((ta 10), .inl (G.2.1, 12, .inl (tr 10))), ((ta 11), .inl (G.2.1, 12, .inl (tr 11)))]
/-! the bounds of a share -/
def loF (kd n w : Int32) : Int32 := if kd = 3 ∧ ¬ w ≤ 0 then (((thF n w).toInt64 * w.toInt64 + 999) / 1000).toInt32 else 0
def hiF (kd n w : Int32) : Int32 := if kd = 3 ∧ ¬ w ≤ 0 then ((((thF n w).toInt64 + 1) * w.toInt64 - 1) / 1000).toInt32 else 1073741824
def kpI (kd nu td ps ru : Nat → Int32) (p : Nat) : Int32 := if rsF kd nu td ps ru p = 0 ∧ td p &&& 2 = 0 then 0 else 1
theorem upd_tw {f : Nat → Int32} {k : Nat} {x y : Int32} : upd (upd f k x) k y = upd f k y := funext (fun j => by
  by_cases e : j = k
  · subst e; rw [pk_us, pk_us]
  · rw [pk_un e, pk_un e, pk_un e])
/-- from A, but from B in a stretch -/
def cpF (A B : Nat → Int32) (s n p : Nat) : Int32 := if s ≤ p ∧ p < s + n then B p else A p
theorem cpF_0 {A B : Nat → Int32} {s : Nat} : cpF A B s 0 = A := funext (fun p => if_neg (by omega))
theorem cpF_s {A B : Nat → Int32} {s n : Nat} {x : Int32} (h : x = B (s + n)) : upd (cpF A B s n) (s + n) x = cpF A B s (n + 1) := funext (fun p => by
  by_cases e : p = s + n
  · subst e; rw [pk_us, h]; exact (if_pos ⟨by omega, by omega⟩).symm
  · rw [pk_un e]
    unfold cpF
    by_cases c : s ≤ p ∧ p < s + n
    · rw [if_pos c, if_pos ⟨c.1, by omega⟩]
    · rw [if_neg c, if_neg (by omega)])
theorem cpF_i {A B : Nat → Int32} {s n p : Nat} (h1 : s ≤ p) (h2 : p < s + n) : cpF A B s n p = B p := if_pos ⟨h1, h2⟩
theorem cpF_o {A B : Nat → Int32} {s n p : Nat} (h : p < s ∨ s + n ≤ p) : cpF A B s n p = A p := if_neg (by omega)
/-- what a load lays: rows below n -/
def LDY (cl : Nat) (kd nu td ps ru r8 r9 r10 r11 r12 r13 r14 : Nat → Int32) (x : Nat) : Prop := ∀ y, y < cl → r8 (x * 12 + y) = kd (x * 12 + y) ∧ r9 (x * 12 + y) = nu (x * 12 + y) ∧ r10 (x * 12 + y) = rsF kd nu td ps ru (x * 12 + y) ∧ r11 (x * 12 + y) = kpI kd nu td ps ru (x * 12 + y) ∧ r12 (x * 12 + y) = nu (x * 12 + y) ∧ r13 (x * 12 + y) = loF (kd (x * 12 + y)) (nu (x * 12 + y)) (smF nu (x * 12) cl) ∧ r14 (x * 12 + y) = hiF (kd (x * 12 + y)) (nu (x * 12 + y)) (smF nu (x * 12) cl)
def LDN (cl : Nat) (r8 r10 r11 : Nat → Int32) (x : Nat) : Prop := ∀ y, y < cl → r8 (x * 12 + y) = 0 ∧ r10 (x * 12 + y) = 0 ∧ r11 (x * 12 + y) = 0
def LDR (n cl bk : Nat) (pl kd nu td ps ru bf bl r6 r7 r8 r9 r10 r11 r12 r13 r14 : Nat → Int32) : Prop := ∀ x, x < n → r7 x = (clS bf bl (nI x) bk).1 ∧ ((r6 x = 1 ∧ sndP cl pl kd x ∧ LDY cl kd nu td ps ru r8 r9 r10 r11 r12 r13 r14 x) ∨ (r6 x = 0 ∧ ¬ sndP cl pl kd x ∧ LDN cl r8 r10 r11 x))
theorem LDR_y {n cl bk : Nat} {pl kd nu td ps ru bf bl r6 r7 r8 r9 r10 r11 r12 r13 r14 : Nat → Int32} (h : LDR n cl bk pl kd nu td ps ru bf bl r6 r7 r8 r9 r10 r11 r12 r13 r14) (hcl : cl ≤ 12) (hs : sndP cl pl kd n) : LDR (n + 1) cl bk pl kd nu td ps ru bf bl (upd r6 n 1) (upd r7 n (clS bf bl (nI n) bk).1) (cpF r8 kd (n * 12) cl) (cpF r9 nu (n * 12) cl) (cpF r10 (rsF kd nu td ps ru) (n * 12) cl) (cpF r11 (kpI kd nu td ps ru) (n * 12) cl) (cpF r12 nu (n * 12) cl) (cpF r13 (fun p => loF (kd p) (nu p) (smF nu (n * 12) cl)) (n * 12) cl) (cpF r14 (fun p => hiF (kd p) (nu p) (smF nu (n * 12) cl)) (n * 12) cl) := fun x hx => by
  by_cases e : x = n
  · subst e
    refine ⟨pk_us, Or.inl ⟨pk_us, hs, fun y hy => ?_⟩⟩
    refine ⟨cpF_i (by omega) (by omega), cpF_i (by omega) (by omega), cpF_i (by omega) (by omega), cpF_i (by omega) (by omega), cpF_i (by omega) (by omega), cpF_i (by omega) (by omega), cpF_i (by omega) (by omega)⟩
  · obtain ⟨h1, h2⟩ := h x (by omega)
    refine ⟨by rw [pk_un e]; exact h1, ?_⟩
    rw [pk_un e]
    rcases h2 with ⟨a1, a2, a3⟩ | ⟨a1, a2, a3⟩
    · refine Or.inl ⟨a1, a2, fun y hy => ?_⟩
      rw [cpF_o (by omega), cpF_o (by omega), cpF_o (by omega), cpF_o (by omega), cpF_o (by omega), cpF_o (by omega), cpF_o (by omega)]
      exact a3 y hy
    · refine Or.inr ⟨a1, a2, fun y hy => ?_⟩
      rw [cpF_o (by omega), cpF_o (by omega), cpF_o (by omega)]
      exact a3 y hy
theorem LDR_n {n cl bk : Nat} {pl kd nu td ps ru bf bl r6 r7 r8 r9 r10 r11 r12 r13 r14 : Nat → Int32} (h : LDR n cl bk pl kd nu td ps ru bf bl r6 r7 r8 r9 r10 r11 r12 r13 r14) (hcl : cl ≤ 12) (hs : ¬ sndP cl pl kd n) : LDR (n + 1) cl bk pl kd nu td ps ru bf bl (upd r6 n 0) (upd r7 n (clS bf bl (nI n) bk).1) (cpF r8 (fun _ => 0) (n * 12) cl) r9 (cpF r10 (fun _ => 0) (n * 12) cl) (cpF r11 (fun _ => 0) (n * 12) cl) r12 r13 r14 := fun x hx => by
  by_cases e : x = n
  · subst e
    refine ⟨pk_us, Or.inr ⟨pk_us, hs, fun y hy => ?_⟩⟩
    exact ⟨cpF_i (by omega) (by omega), cpF_i (by omega) (by omega), cpF_i (by omega) (by omega)⟩
  · obtain ⟨h1, h2⟩ := h x (by omega)
    refine ⟨by rw [pk_un e]; exact h1, ?_⟩
    rw [pk_un e]
    rcases h2 with ⟨a1, a2, a3⟩ | ⟨a1, a2, a3⟩
    · refine Or.inl ⟨a1, a2, fun y hy => ?_⟩
      rw [cpF_o (by omega), cpF_o (by omega), cpF_o (by omega)]
      exact a3 y hy
    · refine Or.inr ⟨a1, a2, fun y hy => ?_⟩
      rw [cpF_o (by omega), cpF_o (by omega), cpF_o (by omega)]
      exact a3 y hy
set_option maxHeartbeats 4000000 in
set_option maxRecDepth 100000 in
theorem e_X2_bound (l : Launch) (G : GG) (a b : Nat → Nat) (f : Nat → Int32) (r : Nat → Nat → Int32) (sp : Nat) (wh : Int32) (hsp : sp < 144) : WrV l yX2_bound cX2_bound 5 ({ frames := 1, cells := 0, slots := 0, locals := 21 }) G (rdA G a b f r) [.ref (a 15), .int (nI sp), .int wh] (fun w => ∃ (n_r_13 : Nat → Int32) (n_r_14 : Nat → Int32), w = rdA G a b f (up2 (up2 r 13 n_r_13) 14 n_r_14) ∧ (n_r_13 = upd (r 13) sp (loF ((r 8) sp) ((r 9) sp) wh)) ∧ (n_r_14 = upd (r 14) sp (hiF ((r 8) sp) ((r 9) sp) wh))) := by
  refine wr_entryV (by decide +kernel) (Nat.le_of_ble_eq_true rfl) ?_
  intro p e s m below meth c A C0 hP hK hD hA ls hl
  have hS : va_S A s.heap s.heap [] := va_S.rf
  obtain ⟨hx, hb, hml, hown, hts, hr, hlocks, hin⟩ := C0
  have hown : s.vm.findClass RX2 = some m.cls := hown
  have hDD : ∀ f' r', va_D A (rdA G a b f' r') := fun f' r' => D_same hD rfl
  have hl : lv_has ls 5 [(0, .ref (a 15)), (1, .int (nI sp)), (2, .int wh)] := hl
  refine lv_aload_n hx hb dX2_bound_0 rfl (lv_at hl 0 rfl) ?_
  refine va_get (D := G.1) (ci := 2) (v := .ref (a 13)) (C := RX2) (T := TX2) (N := 15) hx hb hts inX2 hown hK.1 hP 0 rfl rfl 13 (by decide) (hts _ mf_X2_57) (fun _ h9 => h9) rfl dX2_bound_1 ?_
  refine lv_iload_n hx hb dX2_bound_4 rfl (lv_at hl 1 rfl) ?_
  refine lv_iconst (v := 0) hx hb dX2_bound_5 (by decide) ?_
  refine xiast (f := (r 13)) (x := 0) hx hb hK hP (hDD _ _) hS 8 (sp) (rfl) (by omega) (by decide) rfl dX2_bound_6 (fun H locs hP _ hS => ?_)
  have hP : PP G (rdA G a b f (up2 r 13 (upd (r 13) (sp) (0)))) H := hP
  refine lv_aload_n hx hb dX2_bound_7 rfl (lv_at hl 0 rfl) ?_
  refine va_get (D := G.1) (ci := 2) (v := .ref (a 14)) (C := RX2) (T := TX2) (N := 15) hx hb hts inX2 hown hK.1 hP 0 rfl rfl 14 (by decide) (hts _ mf_X2_60) (fun _ h9 => h9) rfl dX2_bound_8 ?_
  refine lv_iload_n hx hb dX2_bound_11 rfl (lv_at hl 1 rfl) ?_
  refine lv_ldc hx hb hown (hts _ mk_X2_106) dX2_bound_12 ?_
  refine xiast (f := (r 14)) (x := 1073741824) hx hb hK hP (hDD _ _) hS 9 (sp) (rfl) (by omega) (by decide) rfl dX2_bound_14 (fun H locs hP _ hS => ?_)
  have hP : PP G (rdA G a b f (up2 (up2 r 13 (upd (r 13) (sp) (0))) 14 (upd (r 14) (sp) (1073741824)))) H := hP
  refine lv_aload_n hx hb dX2_bound_15 rfl (lv_at hl 0 rfl) ?_
  refine va_get (D := G.1) (ci := 2) (v := .ref (a 8)) (C := RX2) (T := TX2) (N := 15) hx hb hts inX2 hown hK.1 hP 0 rfl rfl 8 (by decide) (hts _ mf_X2_42) (fun _ h9 => h9) rfl dX2_bound_16 ?_
  refine lv_iload_n hx hb dX2_bound_19 rfl (lv_at hl 1 rfl) ?_
  refine xiald (f := (r 8)) hx hb hK hP 3 (sp) (rfl) (by omega) (by decide) rfl dX2_bound_20 ?_
  refine lv_topi (fun v1 ev1 => ?_)
  obtain rfl : v1 = (r 8 sp) := ev1.trans (rfl)
  refine lv_iconst (v := 3) hx hb dX2_bound_21 (by decide) ?_
  refine lv_icmp_ne (tgt := 79) hx hb dX2_bound_22 (by decide) (fun c2 => ?_) (fun c2 => ?_)
  · exact wr_vret hx hb hr hlocks hS hP ⟨(upd (r 13) (sp) (0)), (upd (r 14) (sp) (1073741824)), rfl, (by unfold loF; rw [if_neg (fun z9 => c2 z9.1)]), (by unfold hiF; rw [if_neg (fun z9 => c2 z9.1)])⟩ dX2_bound_79
  · refine lv_iload_n hx hb dX2_bound_25 rfl (lv_at hl 2 rfl) ?_
    refine lv_if_le (tgt := 79) hx hb dX2_bound_26 (by decide) (fun c3 => ?_) (fun c3 => ?_)
    · exact wr_vret hx hb hr hlocks hS hP ⟨(upd (r 13) (sp) (0)), (upd (r 14) (sp) (1073741824)), rfl, (by unfold loF; rw [if_neg (fun z9 => z9.2 c3)]), (by unfold hiF; rw [if_neg (fun z9 => z9.2 c3)])⟩ dX2_bound_79
    · refine lv_aload_n hx hb dX2_bound_29 rfl (lv_at hl 0 rfl) ?_
      refine va_get (D := G.1) (ci := 2) (v := .ref (a 9)) (C := RX2) (T := TX2) (N := 15) hx hb hts inX2 hown hK.1 hP 0 rfl rfl 9 (by decide) (hts _ mf_X2_45) (fun _ h9 => h9) rfl dX2_bound_30 ?_
      refine lv_iload_n hx hb dX2_bound_33 rfl (lv_at hl 1 rfl) ?_
      refine xiald (f := (r 9)) hx hb hK hP 4 (sp) (rfl) (by omega) (by decide) rfl dX2_bound_34 ?_
      refine lv_topi (fun v4 ev4 => ?_)
      obtain rfl : v4 = (r 9 sp) := ev4.trans (rfl)
      refine lv_iload_n hx hb dX2_bound_35 rfl (lv_at hl 2 rfl) ?_
      refine rdSN (rest := []) ⟨hx, hb, hml, hown, hts⟩ (c_X6_thousandthsOf l G (r 9 sp) wh) mi_yX6_thousandthsOf mst_yX6_thousandthsOf (by decide +kernel) ⟨rfl, rfl, Nat.le_of_ble_eq_true rfl, Nat.le_of_ble_eq_true rfl⟩ hK (fun k q h => by simp at h) rfl hl.1 rfl (Nat.le_of_ble_eq_true rfl) dX2_bound_36 ⟨Nat.zero_le _, Nat.zero_le _⟩ hS hA hP (fun r5 H locs hr5 hP hS => ?_)
      obtain rfl := hr5
      refine lv_i2l hx hb dX2_bound_39 rfl ?_
      refine lv_topl (fun v6 ev6 => ?_)
      refine lv_lstore_n (lv' := [(3, .long v6), (0, .ref (a 15)), (1, .int (nI sp)), (2, .int wh)]) hx hb dX2_bound_40 rfl hl (by decide) rfl (fun ls hl => ?_)
      refine lv_aload_n hx hb dX2_bound_41 rfl (lv_at hl 1 rfl) ?_
      refine va_get (D := G.1) (ci := 2) (v := .ref (a 13)) (C := RX2) (T := TX2) (N := 15) hx hb hts inX2 hown hK.1 hP 0 rfl rfl 13 (by decide) (hts _ mf_X2_57) (fun _ h9 => h9) rfl dX2_bound_42 ?_
      refine lv_iload_n hx hb dX2_bound_45 rfl (lv_at hl 2 rfl) ?_
      refine lv_lload_n hx hb dX2_bound_46 rfl (lv_at hl 0 rfl) ?_
      refine lv_iload_n hx hb dX2_bound_47 rfl (lv_at hl 3 rfl) ?_
      refine lv_i2l hx hb dX2_bound_48 rfl ?_
      refine lv_topl (fun v7 ev7 => ?_)
      refine lv_lmul hx hb dX2_bound_49 ?_
      refine lv_topl (fun v8 ev8 => ?_)
      refine lv_ldc2 hx hb hown (hts _ mkl_X2_110) dX2_bound_50 ?_
      refine lv_ladd hx hb dX2_bound_53 ?_
      refine lv_topl (fun v9 ev9 => ?_)
      refine lv_ldc2 hx hb hown (hts _ mkl_X2_112) dX2_bound_54 ?_
      refine lv_ldiv hx hb dX2_bound_57 (by decide) ?_
      refine lv_topl (fun v10 ev10 => ?_)
      refine lv_l2i hx hb dX2_bound_58 rfl ?_
      refine lv_topi (fun v11 ev11 => ?_)
      refine xiast (f := (upd (r 13) (sp) (0))) (x := v11) hx hb hK hP (hDD _ _) hS 8 (sp) (rfl) (by omega) (by decide) rfl dX2_bound_59 (fun H locs hP _ hS => ?_)
      have hP : PP G (rdA G a b f (up2 (up2 r 13 (upd (upd (r 13) (sp) (0)) (sp) (v11))) 14 (upd (r 14) (sp) (1073741824)))) H := hP
      refine lv_aload_n hx hb dX2_bound_60 rfl (lv_at hl 1 rfl) ?_
      refine va_get (D := G.1) (ci := 2) (v := .ref (a 14)) (C := RX2) (T := TX2) (N := 15) hx hb hts inX2 hown hK.1 hP 0 rfl rfl 14 (by decide) (hts _ mf_X2_60) (fun _ h9 => h9) rfl dX2_bound_61 ?_
      refine lv_iload_n hx hb dX2_bound_64 rfl (lv_at hl 2 rfl) ?_
      refine lv_lload_n hx hb dX2_bound_65 rfl (lv_at hl 0 rfl) ?_
      refine lv_lconst (v := 1) hx hb dX2_bound_66 (by decide) ?_
      refine lv_ladd hx hb dX2_bound_67 ?_
      refine lv_topl (fun v12 ev12 => ?_)
      refine lv_iload_n hx hb dX2_bound_68 rfl (lv_at hl 3 rfl) ?_
      refine lv_i2l hx hb dX2_bound_69 rfl ?_
      refine lv_topl (fun v13 ev13 => ?_)
      refine lv_lmul hx hb dX2_bound_70 ?_
      refine lv_topl (fun v14 ev14 => ?_)
      refine lv_lconst (v := 1) hx hb dX2_bound_71 (by decide) ?_
      refine lv_lsub hx hb dX2_bound_72 ?_
      refine lv_topl (fun v15 ev15 => ?_)
      refine lv_ldc2 hx hb hown (hts _ mkl_X2_112) dX2_bound_73 ?_
      refine lv_ldiv hx hb dX2_bound_76 (by decide) ?_
      refine lv_topl (fun v16 ev16 => ?_)
      refine lv_l2i hx hb dX2_bound_77 rfl ?_
      refine lv_topi (fun v17 ev17 => ?_)
      refine xiast (f := (upd (r 14) (sp) (1073741824))) (x := v17) hx hb hK hP (hDD _ _) hS 9 (sp) (rfl) (by omega) (by decide) rfl dX2_bound_78 (fun H locs hP _ hS => ?_)
      have hP : PP G (rdA G a b f (up2 (up2 r 13 (upd (upd (r 13) (sp) (0)) (sp) (v11))) 14 (upd (upd (r 14) (sp) (1073741824)) (sp) (v17)))) H := hP
      exact wr_vret hx hb hr hlocks hS hP ⟨(upd (upd (r 13) (sp) (0)) (sp) (v11)), (upd (upd (r 14) (sp) (1073741824)) (sp) (v17)), rfl, (by rw [upd_tw]; unfold loF; rw [if_pos ⟨c2, c3⟩]; simp only [ev11, ev10, ev9, ev8, ev7, ev6]), (by rw [upd_tw]; unfold hiF; rw [if_pos ⟨c2, c3⟩]; simp only [ev17, ev16, ev15, ev14, ev12, ev13, ev6])⟩ dX2_bound_79
set_option maxHeartbeats 4000000 in
set_option maxRecDepth 100000 in
theorem e_X2_blankRow (l : Launch) (G : GG) (a b : Nat → Nat) (f : Nat → Int32) (r : Nat → Nat → Int32) (i : Nat) (cl : Nat) (hi : i < 12) (hcl : cl ≤ 12) (h1 : (f 1) = nI cl) : WrV l yX2_blankRow cX2_blankRow 4 ({ frames := 1, cells := 0, slots := 0, locals := 21 }) G (rdA G a b f r) [.ref (a 15), .int (nI i)] (fun w => ∃ (n_r_8 : Nat → Int32) (n_r_10 : Nat → Int32) (n_r_11 : Nat → Int32), w = rdA G a b f (up2 (up2 (up2 r 8 n_r_8) 10 n_r_10) 11 n_r_11) ∧ (n_r_8 = cpF (r 8) (fun _ => 0) (i * 12) cl) ∧ (n_r_10 = cpF (r 10) (fun _ => 0) (i * 12) cl) ∧ (n_r_11 = cpF (r 11) (fun _ => 0) (i * 12) cl)) := by
  refine wr_entryV (by decide +kernel) (Nat.le_of_ble_eq_true rfl) ?_
  intro p e s m below meth c A C0 hP hK hD hA ls hl
  have hS : va_S A s.heap s.heap [] := va_S.rf
  obtain ⟨hx, hb, hml, hown, hts, hr, hlocks, hin⟩ := C0
  have hown : s.vm.findClass RX2 = some m.cls := hown
  have hDD : ∀ f' r', va_D A (rdA G a b f' r') := fun f' r' => D_same hD rfl
  have hl : lv_has ls 4 [(0, .ref (a 15)), (1, .int (nI i))] := hl
  refine lv_iconst (v := 0) hx hb dX2_blankRow_0 (by decide) ?_
  refine lv_istore_n (lv' := [(2, .int 0), (0, .ref (a 15)), (1, .int (nI i))]) hx hb dX2_blankRow_1 rfl hl (by decide) rfl (fun ls hl => ?_)
  have loop2 : ∀ (k1 j : Nat) (x2 : Nat → Int32) (x3 : Nat → Int32) (x4 : Nat → Int32), j ≤ cl → cl < j + k1 → (x2 = cpF (r 8) (fun _ => 0) (i * 12) j) → (x3 = cpF (r 10) (fun _ => 0) (i * 12) j) → (x4 = cpF (r 11) (fun _ => 0) (i * 12) j) → ∀ (H : Heap) (locs : List Loc) (ls : Array Slot), PP G (rdA G a b f (up2 (up2 (up2 r 8 x2) 10 x3) 11 x4)) H → va_S A s.heap H locs → lv_has ls 4 [(2, .int (nI j)), (0, .ref (a 15)), (1, .int (nI i))] → W p l e ({ frames := 1, cells := 0, slots := 0, locals := 21 }) s m ([.ref (a 15), .int (nI i)] : List Value).toArray below meth c H locs 0 0 (MQ below (QwV G (fun w => ∃ (n_r_8 : Nat → Int32) (n_r_10 : Nat → Int32) (n_r_11 : Nat → Int32), w = rdA G a b f (up2 (up2 (up2 r 8 n_r_8) 10 n_r_10) 11 n_r_11) ∧ (n_r_8 = cpF (r 8) (fun _ => 0) (i * 12) cl) ∧ (n_r_10 = cpF (r 10) (fun _ => 0) (i * 12) cl) ∧ (n_r_11 = cpF (r 11) (fun _ => 0) (i * 12) cl)) A) ([.ref (a 15), .int (nI i)] : List Value).toArray s 0 0 A) (F0 m 2 ls []) := by
    intro k1
    induction k1 with
    | zero => intro j x2 x3 x4 h1 h2; exact absurd h1 (by omega)
    | succ k1 ih2k1 =>
      intro j x2 x3 x4 hi_j hk_j m8 m10 m11 H locs ls hP hS hl
      refine lv_iload_n hx hb dX2_blankRow_2 rfl (lv_at hl 0 rfl) ?_
      refine lv_aload_n hx hb dX2_blankRow_3 rfl (lv_at hl 1 rfl) ?_
      refine va_get (D := G.1) (ci := 2) (v := .int (f 1)) (C := RX2) (T := TX2) (N := 15) hx hb hts inX2 hown hK.1 hP 0 rfl rfl 1 (by decide) (hts _ mf_X2_15) (fun _ h9 => h9) rfl dX2_blankRow_4 ?_
      rw [show (f 1) = nI (cl) from h1]
      refine lv_icmp_ge (tgt := 43) hx hb dX2_blankRow_7 (by decide) (fun c5 => ?_) (fun c5 => ?_)
      · have b7 := qge_t (a := j) (b := (cl)) (by omega) (by omega) c5
        exact wr_vret hx hb hr hlocks hS hP ⟨x2, x3, x4, rfl, (by rw [m8, show j = cl by omega]), (by rw [m10, show j = cl by omega]), (by rw [m11, show j = cl by omega])⟩ dX2_blankRow_43
      · have b7 := qge_f (a := j) (b := (cl)) (by omega) (by omega) c5
        refine lv_iload_n hx hb dX2_blankRow_10 rfl (lv_at hl 2 rfl) ?_
        refine lv_iload_n hx hb dX2_blankRow_11 rfl (lv_at hl 0 rfl) ?_
        refine rdSN (rest := []) ⟨hx, hb, hml, hown, hts⟩ (c_X6_spotOf l G ((nI i)) ((nI j))) mi_yX6_spotOf mst_yX6_spotOf (by decide +kernel) ⟨rfl, rfl, Nat.le_of_ble_eq_true rfl, Nat.le_of_ble_eq_true rfl⟩ hK (fun k q h => by simp at h) rfl hl.1 rfl (Nat.le_of_ble_eq_true rfl) dX2_blankRow_12 ⟨Nat.zero_le _, Nat.zero_le _⟩ hS hA hP (fun r6 H locs hr6 hP hS => ?_)
        obtain rfl : r6 = nI (i * 12 + j) := spot_eq hr6
        refine lv_istore_n (lv' := [(3, .int (nI (i * 12 + j))), (2, .int (nI j)), (0, .ref (a 15)), (1, .int (nI i))]) hx hb dX2_blankRow_15 rfl hl (by decide) rfl (fun ls hl => ?_)
        refine lv_aload_n hx hb dX2_blankRow_16 rfl (lv_at hl 2 rfl) ?_
        refine va_get (D := G.1) (ci := 2) (v := .ref (a 8)) (C := RX2) (T := TX2) (N := 15) hx hb hts inX2 hown hK.1 hP 0 rfl rfl 8 (by decide) (hts _ mf_X2_42) (fun _ h9 => h9) rfl dX2_blankRow_17 ?_
        refine lv_iload_n hx hb dX2_blankRow_20 rfl (lv_at hl 0 rfl) ?_
        refine lv_iconst (v := 0) hx hb dX2_blankRow_21 (by decide) ?_
        refine xiast (f := x2) (x := 0) hx hb hK hP (hDD _ _) hS 3 ((i * 12 + j)) (rfl) (by omega) (by decide) rfl dX2_blankRow_22 (fun H locs hP _ hS => ?_)
        have hP : PP G (rdA G a b f (up2 (up2 (up2 r 8 (upd x2 ((i * 12 + j)) (0))) 10 x3) 11 x4)) H := hP
        refine lv_aload_n hx hb dX2_blankRow_23 rfl (lv_at hl 2 rfl) ?_
        refine va_get (D := G.1) (ci := 2) (v := .ref (a 10)) (C := RX2) (T := TX2) (N := 15) hx hb hts inX2 hown hK.1 hP 0 rfl rfl 10 (by decide) (hts _ mf_X2_48) (fun _ h9 => h9) rfl dX2_blankRow_24 ?_
        refine lv_iload_n hx hb dX2_blankRow_27 rfl (lv_at hl 0 rfl) ?_
        refine lv_iconst (v := 0) hx hb dX2_blankRow_28 (by decide) ?_
        refine xiast (f := x3) (x := 0) hx hb hK hP (hDD _ _) hS 5 ((i * 12 + j)) (rfl) (by omega) (by decide) rfl dX2_blankRow_29 (fun H locs hP _ hS => ?_)
        have hP : PP G (rdA G a b f (up2 (up2 (up2 r 8 (upd x2 ((i * 12 + j)) (0))) 10 (upd x3 ((i * 12 + j)) (0))) 11 x4)) H := hP
        refine lv_aload_n hx hb dX2_blankRow_30 rfl (lv_at hl 2 rfl) ?_
        refine va_get (D := G.1) (ci := 2) (v := .ref (a 11)) (C := RX2) (T := TX2) (N := 15) hx hb hts inX2 hown hK.1 hP 0 rfl rfl 11 (by decide) (hts _ mf_X2_51) (fun _ h9 => h9) rfl dX2_blankRow_31 ?_
        refine lv_iload_n hx hb dX2_blankRow_34 rfl (lv_at hl 0 rfl) ?_
        refine lv_iconst (v := 0) hx hb dX2_blankRow_35 (by decide) ?_
        refine xzast (f := x4) (x := 0) hx hb hK hP (hDD _ _) hS 6 ((i * 12 + j)) (rfl) (by omega) (by decide) (Or.inl rfl) rfl dX2_blankRow_36 (fun H locs hP _ hS => ?_)
        have hP : PP G (rdA G a b f (up2 (up2 (up2 r 8 (upd x2 ((i * 12 + j)) (0))) 10 (upd x3 ((i * 12 + j)) (0))) 11 (upd x4 ((i * 12 + j)) (0)))) H := hP
        obtain ⟨v7, ev7⟩ : ∃ y9 : Int32, y9 = (nI j) + Int32.ofInt (1) := ⟨_, rfl⟩
        refine lv_iinc (v := v7) (lv' := [(2, .int v7), (3, .int (nI (i * 12 + j))), (0, .ref (a 15)), (1, .int (nI i))]) hx hb dX2_blankRow_37 hl (k := 1) rfl ev7.symm (by decide) rfl (fun ls hl => ?_)
        obtain rfl : v7 = nI (j + 1) := nI_plus (i := j) (j := 1) ev7 rfl (by decide)
        refine lv_goto (tgt := 2) hx hb dX2_blankRow_40 (by decide) ?_
        exact ih2k1 (j + 1) (upd x2 ((i * 12 + j)) (0)) (upd x3 ((i * 12 + j)) (0)) (upd x4 ((i * 12 + j)) (0)) (by omega) (by omega) (by rw [m8]; exact cpF_s rfl) (by rw [m10]; exact cpF_s rfl) (by rw [m11]; exact cpF_s rfl) _ _ _ hP hS (lv_sub hl [0, 2, 3] rfl)
  exact loop2 (cl + 1) 0 (r 8) (r 10) (r 11) (by omega) (by omega) (cpF_0.symm) (cpF_0.symm) (cpF_0.symm) _ _ _ hP hS (lv_sub hl [0, 1, 2] rfl)
theorem kep_s {k11 v12 s10 n9 : Nat → Int32} {cl i j : Nat} {z v : Int32} (hcl : cl ≤ 12) (hj : j < 12) (hz : z = (if s10 (i * 12 + j) = 0 then 0 else 1)) (hv : v = n9 (i * 12 + j)) (h : ∀ x y, (x < i ∨ (x = i ∧ y < j)) → y < cl → k11 (x * 12 + y) = (if s10 (x * 12 + y) = 0 then 0 else 1) ∧ v12 (x * 12 + y) = n9 (x * 12 + y)) : ∀ x y, (x < i ∨ (x = i ∧ y < j + 1)) → y < cl → upd k11 (i * 12 + j) z (x * 12 + y) = (if s10 (x * 12 + y) = 0 then 0 else 1) ∧ upd v12 (i * 12 + j) v (x * 12 + y) = n9 (x * 12 + y) := fun x y h1 h2 => by
  by_cases e : x = i ∧ y = j
  · obtain ⟨rfl, rfl⟩ := e
    rw [pk_us, pk_us]; exact ⟨hz, hv⟩
  · rw [pk_un (by omega), pk_un (by omega)]
    exact h x y (by omega) h2
set_option maxHeartbeats 4000000 in
set_option maxRecDepth 100000 in
theorem e_X2_keepSecretsAlone (l : Launch) (G : GG) (a b : Nat → Nat) (f : Nat → Int32) (r : Nat → Nat → Int32) (rw : Nat) (cl : Nat) (hrw : rw ≤ 12) (hcl : cl ≤ 12) (h0 : (f 0) = nI rw) (h1 : (f 1) = nI cl) : WrV l yX2_keepSecretsAlone cX2_keepSecretsAlone 4 ({ frames := 1, cells := 0, slots := 0, locals := 21 }) G (rdA G a b f r) [.ref (a 15)] (fun w => ∃ (n_f_4 : Int32) (n_r_11 : Nat → Int32) (n_r_12 : Nat → Int32), w = rdA G a b (upd f 4 n_f_4) (up2 (up2 r 11 n_r_11) 12 n_r_12) ∧ (∀ x y, x < rw → y < cl → n_r_11 (x * 12 + y) = (if (r 10) (x * 12 + y) = 0 then 0 else 1) ∧ n_r_12 (x * 12 + y) = (r 9) (x * 12 + y)) ∧ (n_f_4 = -2)) := by
  refine wr_entryV (by decide +kernel) (Nat.le_of_ble_eq_true rfl) ?_
  intro p e s m below meth c A C0 hP hK hD hA ls hl
  have hS : va_S A s.heap s.heap [] := va_S.rf
  obtain ⟨hx, hb, hml, hown, hts, hr, hlocks, hin⟩ := C0
  have hown : s.vm.findClass RX2 = some m.cls := hown
  have hDD : ∀ f' r', va_D A (rdA G a b f' r') := fun f' r' => D_same hD rfl
  have hl : lv_has ls 4 [(0, .ref (a 15))] := hl
  refine lv_aload_n hx hb dX2_keepSecretsAlone_0 rfl (lv_at hl 0 rfl) ?_
  refine lv_bipush (v := -2) hx hb dX2_keepSecretsAlone_1 (by decide) ?_
  refine va_put (D := G.1) (ci := 2) (v := .int (-2)) (C := RX2) (T := TX2) (N := 15) hx hb hts inX2 tyX2 tyX2_ok nmX2 hown hK.1 hP (hDD _ _) hS 0 rfl rfl 4 (by decide) (hts _ mf_X2_24) (fun _ h9 => h9) rfl (tyX2_ok 4 (by decide)) (rfl) (rfl) (Nat.le_of_ble_eq_true rfl) dX2_keepSecretsAlone_3 (fun H locs hP _ hS => ?_)
  have hP : PP G (rdA G a b (upd f 4 (-2)) r) H := hP
  refine lv_iconst (v := 0) hx hb dX2_keepSecretsAlone_6 (by decide) ?_
  refine lv_istore_n (lv' := [(1, .int 0), (0, .ref (a 15))]) hx hb dX2_keepSecretsAlone_7 rfl hl (by decide) rfl (fun ls hl => ?_)
  have loop8 : ∀ (k1 i : Nat) (x2 : Nat → Int32) (x3 : Nat → Int32), i ≤ rw → rw < i + k1 → (∀ x y, x < i → y < cl → x2 (x * 12 + y) = (if r 10 (x * 12 + y) = 0 then 0 else 1) ∧ x3 (x * 12 + y) = r 9 (x * 12 + y)) → ∀ (H : Heap) (locs : List Loc) (ls : Array Slot), PP G (rdA G a b (upd f 4 (-2)) (up2 (up2 r 11 x2) 12 x3)) H → va_S A s.heap H locs → lv_has ls 4 [(1, .int (nI i)), (0, .ref (a 15))] → W p l e ({ frames := 1, cells := 0, slots := 0, locals := 21 }) s m ([.ref (a 15)] : List Value).toArray below meth c H locs 0 0 (MQ below (QwV G (fun w => ∃ (n_f_4 : Int32) (n_r_11 : Nat → Int32) (n_r_12 : Nat → Int32), w = rdA G a b (upd f 4 n_f_4) (up2 (up2 r 11 n_r_11) 12 n_r_12) ∧ (∀ x y, x < rw → y < cl → n_r_11 (x * 12 + y) = (if (r 10) (x * 12 + y) = 0 then 0 else 1) ∧ n_r_12 (x * 12 + y) = (r 9) (x * 12 + y)) ∧ (n_f_4 = -2)) A) ([.ref (a 15)] : List Value).toArray s 0 0 A) (F0 m 8 ls []) := by
    intro k1
    induction k1 with
    | zero => intro i x2 x3 h1 h2; exact absurd h1 (by omega)
    | succ k1 ih8k1 =>
      intro i x2 x3 hi_i hk_i hq H locs ls hP hS hl
      refine lv_iload_n hx hb dX2_keepSecretsAlone_8 rfl (lv_at hl 0 rfl) ?_
      refine lv_aload_n hx hb dX2_keepSecretsAlone_9 rfl (lv_at hl 1 rfl) ?_
      refine va_get (D := G.1) (ci := 2) (v := .int (f 0)) (C := RX2) (T := TX2) (N := 15) hx hb hts inX2 hown hK.1 hP 0 rfl rfl 0 (by decide) (hts _ mf_X2_9) (fun _ h9 => h9) rfl dX2_keepSecretsAlone_10 ?_
      rw [show (f 0) = nI (rw) from h0]
      refine lv_icmp_ge (tgt := 76) hx hb dX2_keepSecretsAlone_13 (by decide) (fun c4 => ?_) (fun c4 => ?_)
      · have b13 := qge_t (a := i) (b := (rw)) (by omega) (by omega) c4
        exact wr_vret hx hb hr hlocks hS hP ⟨(-2), x2, x3, rfl, (fun x y h8 h9 => hq x y (by omega) h9), rfl⟩ dX2_keepSecretsAlone_76
      · have b13 := qge_f (a := i) (b := (rw)) (by omega) (by omega) c4
        refine lv_iconst (v := 0) hx hb dX2_keepSecretsAlone_16 (by decide) ?_
        refine lv_istore_n (lv' := [(2, .int 0), (1, .int (nI i)), (0, .ref (a 15))]) hx hb dX2_keepSecretsAlone_17 rfl hl (by decide) rfl (fun ls hl => ?_)
        have loop18 : ∀ (k5 j : Nat) (x6 : Nat → Int32) (x7 : Nat → Int32), j ≤ cl → cl < j + k5 → (∀ x y, (x < i ∨ (x = i ∧ y < j)) → y < cl → x6 (x * 12 + y) = (if r 10 (x * 12 + y) = 0 then 0 else 1) ∧ x7 (x * 12 + y) = r 9 (x * 12 + y)) → ∀ (H : Heap) (locs : List Loc) (ls : Array Slot), PP G (rdA G a b (upd f 4 (-2)) (up2 (up2 r 11 x6) 12 x7)) H → va_S A s.heap H locs → lv_has ls 4 [(2, .int (nI j)), (1, .int (nI i)), (0, .ref (a 15))] → W p l e ({ frames := 1, cells := 0, slots := 0, locals := 21 }) s m ([.ref (a 15)] : List Value).toArray below meth c H locs 0 0 (MQ below (QwV G (fun w => ∃ (n_f_4 : Int32) (n_r_11 : Nat → Int32) (n_r_12 : Nat → Int32), w = rdA G a b (upd f 4 n_f_4) (up2 (up2 r 11 n_r_11) 12 n_r_12) ∧ (∀ x y, x < rw → y < cl → n_r_11 (x * 12 + y) = (if (r 10) (x * 12 + y) = 0 then 0 else 1) ∧ n_r_12 (x * 12 + y) = (r 9) (x * 12 + y)) ∧ (n_f_4 = -2)) A) ([.ref (a 15)] : List Value).toArray s 0 0 A) (F0 m 18 ls []) := by
          intro k5
          induction k5 with
          | zero => intro j x6 x7 h1 h2; exact absurd h1 (by omega)
          | succ k5 ih18k5 =>
            intro j x6 x7 hi_j hk_j hq2 H locs ls hP hS hl
            refine lv_iload_n hx hb dX2_keepSecretsAlone_18 rfl (lv_at hl 0 rfl) ?_
            refine lv_aload_n hx hb dX2_keepSecretsAlone_19 rfl (lv_at hl 2 rfl) ?_
            refine va_get (D := G.1) (ci := 2) (v := .int (f 1)) (C := RX2) (T := TX2) (N := 15) hx hb hts inX2 hown hK.1 hP 0 rfl rfl 1 (by decide) (hts _ mf_X2_15) (fun _ h9 => h9) rfl dX2_keepSecretsAlone_20 ?_
            rw [show (f 1) = nI (cl) from h1]
            refine lv_icmp_ge (tgt := 70) hx hb dX2_keepSecretsAlone_23 (by decide) (fun c8 => ?_) (fun c8 => ?_)
            · have b23 := qge_t (a := j) (b := (cl)) (by omega) (by omega) c8
              obtain ⟨v9, ev9⟩ : ∃ y9 : Int32, y9 = (nI i) + Int32.ofInt (1) := ⟨_, rfl⟩
              refine lv_iinc (v := v9) (lv' := [(1, .int v9), (2, .int (nI j)), (0, .ref (a 15))]) hx hb dX2_keepSecretsAlone_70 hl (k := 1) rfl ev9.symm (by decide) rfl (fun ls hl => ?_)
              obtain rfl : v9 = nI (i + 1) := nI_plus (i := i) (j := 1) ev9 rfl (by decide)
              refine lv_goto (tgt := 8) hx hb dX2_keepSecretsAlone_73 (by decide) ?_
              exact ih8k1 (i + 1) x6 x7 (by omega) (by omega) (fun x y h8 h9 => hq2 x y (by omega) h9) _ _ _ hP hS (lv_sub hl [0, 2] rfl)
            · have b23 := qge_f (a := j) (b := (cl)) (by omega) (by omega) c8
              refine lv_iload_n hx hb dX2_keepSecretsAlone_26 rfl (lv_at hl 1 rfl) ?_
              refine lv_iload_n hx hb dX2_keepSecretsAlone_27 rfl (lv_at hl 0 rfl) ?_
              refine rdSN (rest := []) ⟨hx, hb, hml, hown, hts⟩ (c_X6_spotOf l G ((nI i)) ((nI j))) mi_yX6_spotOf mst_yX6_spotOf (by decide +kernel) ⟨rfl, rfl, Nat.le_of_ble_eq_true rfl, Nat.le_of_ble_eq_true rfl⟩ hK (fun k q h => by simp at h) rfl hl.1 rfl (Nat.le_of_ble_eq_true rfl) dX2_keepSecretsAlone_28 ⟨Nat.zero_le _, Nat.zero_le _⟩ hS hA hP (fun r10 H locs hr10 hP hS => ?_)
              obtain rfl : r10 = nI (i * 12 + j) := spot_eq hr10
              refine lv_istore_n (lv' := [(3, .int (nI (i * 12 + j))), (2, .int (nI j)), (1, .int (nI i)), (0, .ref (a 15))]) hx hb dX2_keepSecretsAlone_31 rfl hl (by decide) rfl (fun ls hl => ?_)
              refine lv_aload_n hx hb dX2_keepSecretsAlone_32 rfl (lv_at hl 3 rfl) ?_
              refine va_get (D := G.1) (ci := 2) (v := .ref (a 11)) (C := RX2) (T := TX2) (N := 15) hx hb hts inX2 hown hK.1 hP 0 rfl rfl 11 (by decide) (hts _ mf_X2_51) (fun _ h9 => h9) rfl dX2_keepSecretsAlone_33 ?_
              refine lv_iload_n hx hb dX2_keepSecretsAlone_36 rfl (lv_at hl 0 rfl) ?_
              refine lv_aload_n hx hb dX2_keepSecretsAlone_37 rfl (lv_at hl 3 rfl) ?_
              refine va_get (D := G.1) (ci := 2) (v := .ref (a 10)) (C := RX2) (T := TX2) (N := 15) hx hb hts inX2 hown hK.1 hP 0 rfl rfl 10 (by decide) (hts _ mf_X2_48) (fun _ h9 => h9) rfl dX2_keepSecretsAlone_38 ?_
              refine lv_iload_n hx hb dX2_keepSecretsAlone_41 rfl (lv_at hl 0 rfl) ?_
              refine xiald (f := (r 10)) hx hb hK hP 5 ((i * 12 + j)) (rfl) (by omega) (by decide) rfl dX2_keepSecretsAlone_42 ?_
              refine lv_topi (fun v11 ev11 => ?_)
              obtain rfl : v11 = (r 10 (i * 12 + j)) := ev11.trans (rfl)
              have j51_12 : ∀ (z12 : Int32) (gz12 : z12 = 0 ∨ z12 = 1) (hz9 : z12 = (if r 10 (i * 12 + j) = 0 then 0 else 1)) (H : Heap) (locs : List Loc) (ls : Array Slot), PP G (rdA G a b (upd f 4 (-2)) (up2 (up2 r 11 x6) 12 x7)) H → va_S A s.heap H locs → lv_has ls 4 [(3, .int (nI (i * 12 + j))), (2, .int (nI j)), (1, .int (nI i)), (0, .ref (a 15))] → W p l e ({ frames := 1, cells := 0, slots := 0, locals := 21 }) s m ([.ref (a 15)] : List Value).toArray below meth c H locs 0 0 (MQ below (QwV G (fun w => ∃ (n_f_4 : Int32) (n_r_11 : Nat → Int32) (n_r_12 : Nat → Int32), w = rdA G a b (upd f 4 n_f_4) (up2 (up2 r 11 n_r_11) 12 n_r_12) ∧ (∀ x y, x < rw → y < cl → n_r_11 (x * 12 + y) = (if (r 10) (x * 12 + y) = 0 then 0 else 1) ∧ n_r_12 (x * 12 + y) = (r 9) (x * 12 + y)) ∧ (n_f_4 = -2)) A) ([.ref (a 15)] : List Value).toArray s 0 0 A) (F0 m 51 ls [.int z12, .int (nI (i * 12 + j)), .ref (a 11)]) := by
                intro z12 gz12 hz9 H locs ls hP hS hl
                refine xzast (f := x6) (x := z12) hx hb hK hP (hDD _ _) hS 6 ((i * 12 + j)) (rfl) (by omega) (by decide) (gz12) rfl dX2_keepSecretsAlone_51 (fun H locs hP _ hS => ?_)
                have hP : PP G (rdA G a b (upd f 4 (-2)) (up2 (up2 r 11 (upd x6 ((i * 12 + j)) (z12))) 12 x7)) H := hP
                refine lv_aload_n hx hb dX2_keepSecretsAlone_52 rfl (lv_at hl 3 rfl) ?_
                refine va_get (D := G.1) (ci := 2) (v := .ref (a 12)) (C := RX2) (T := TX2) (N := 15) hx hb hts inX2 hown hK.1 hP 0 rfl rfl 12 (by decide) (hts _ mf_X2_54) (fun _ h9 => h9) rfl dX2_keepSecretsAlone_53 ?_
                refine lv_iload_n hx hb dX2_keepSecretsAlone_56 rfl (lv_at hl 0 rfl) ?_
                refine lv_aload_n hx hb dX2_keepSecretsAlone_57 rfl (lv_at hl 3 rfl) ?_
                refine va_get (D := G.1) (ci := 2) (v := .ref (a 9)) (C := RX2) (T := TX2) (N := 15) hx hb hts inX2 hown hK.1 hP 0 rfl rfl 9 (by decide) (hts _ mf_X2_45) (fun _ h9 => h9) rfl dX2_keepSecretsAlone_58 ?_
                refine lv_iload_n hx hb dX2_keepSecretsAlone_61 rfl (lv_at hl 0 rfl) ?_
                refine xiald (f := (r 9)) hx hb hK hP 4 ((i * 12 + j)) (rfl) (by omega) (by decide) rfl dX2_keepSecretsAlone_62 ?_
                refine lv_topi (fun v13 ev13 => ?_)
                obtain rfl : v13 = (r 9 (i * 12 + j)) := ev13.trans (rfl)
                refine xiast (f := x7) (x := (r 9 (i * 12 + j))) hx hb hK hP (hDD _ _) hS 7 ((i * 12 + j)) (rfl) (by omega) (by decide) rfl dX2_keepSecretsAlone_63 (fun H locs hP _ hS => ?_)
                have hP : PP G (rdA G a b (upd f 4 (-2)) (up2 (up2 r 11 (upd x6 ((i * 12 + j)) (z12))) 12 (upd x7 ((i * 12 + j)) ((r 9 (i * 12 + j)))))) H := hP
                obtain ⟨v14, ev14⟩ : ∃ y9 : Int32, y9 = (nI j) + Int32.ofInt (1) := ⟨_, rfl⟩
                refine lv_iinc (v := v14) (lv' := [(2, .int v14), (3, .int (nI (i * 12 + j))), (1, .int (nI i)), (0, .ref (a 15))]) hx hb dX2_keepSecretsAlone_64 hl (k := 1) rfl ev14.symm (by decide) rfl (fun ls hl => ?_)
                obtain rfl : v14 = nI (j + 1) := nI_plus (i := j) (j := 1) ev14 rfl (by decide)
                refine lv_goto (tgt := 18) hx hb dX2_keepSecretsAlone_67 (by decide) ?_
                exact ih18k5 (j + 1) (upd x6 ((i * 12 + j)) (z12)) (upd x7 ((i * 12 + j)) ((r 9 (i * 12 + j)))) (by omega) (by omega) (kep_s hcl (by omega) hz9 rfl hq2) _ _ _ hP hS (lv_sub hl [0, 2, 3] rfl)
              refine lv_if_eq (tgt := 50) hx hb dX2_keepSecretsAlone_43 (by decide) (fun c15 => ?_) (fun c15 => ?_)
              · refine lv_iconst (v := 0) hx hb dX2_keepSecretsAlone_50 (by decide) ?_
                exact j51_12 0 (Or.inl rfl) ((if_pos c15).symm) _ _ _ hP hS (lv_sub hl [0, 1, 2, 3] rfl)
              · refine lv_iconst (v := 1) hx hb dX2_keepSecretsAlone_46 (by decide) ?_
                refine lv_goto (tgt := 51) hx hb dX2_keepSecretsAlone_47 (by decide) ?_
                exact j51_12 1 (Or.inr rfl) ((if_neg c15).symm) _ _ _ hP hS (lv_sub hl [0, 1, 2, 3] rfl)
        exact loop18 (cl + 1) 0 x2 x3 (by omega) (by omega) (fun x y h8 h9 => hq x y (by omega) h9) _ _ _ hP hS (lv_sub hl [0, 1, 2] rfl)
  exact loop8 (rw + 1) 0 (r 11) (r 12) (by omega) (by omega) (fun x y h8 _ => absurd h8 (by omega)) _ _ _ hP hS (lv_sub hl [0, 1] rfl)
theorem bz0 {q x : Int32} (h : (q = 0 ∧ x = 0) ∨ (q = 1 ∧ ¬ x = 0)) (c : q = 0) : x = 0 := h.elim (fun z => z.2) (fun z => absurd (z.1.symm.trans c) (by decide))
theorem bz1 {q x : Int32} (h : (q = 0 ∧ x = 0) ∨ (q = 1 ∧ ¬ x = 0)) (c : ¬ q = 0) : ¬ x = 0 := h.elim (fun z => absurd z.1 c) (fun z => z.2)
set_option maxHeartbeats 4000000 in
set_option maxRecDepth 100000 in
theorem e_X2_loadRow (l : Launch) (G : GG) (a b ta : Nat → Nat) (f tf : Nat → Int32) (r tr : Nat → Nat → Int32) (i : Nat) (cl : Nat) (hi : i < 12) (hcl : cl ≤ 12) (h1 : (f 1) = nI cl) (t2 : (tf 2) = nI cl) : WrV l yX2_loadRow cX2_loadRow 6 ({ frames := 2, cells := 0, slots := 0, locals := 48 }) G (rdT G a b ta f tf r tr) [.ref (a 15), .ref (ta 0), .int (nI i)] (fun w => ∃ (n_r_8 : Nat → Int32) (n_r_9 : Nat → Int32) (n_r_10 : Nat → Int32) (n_r_11 : Nat → Int32) (n_r_12 : Nat → Int32) (n_r_13 : Nat → Int32) (n_r_14 : Nat → Int32), w = rdT G a b ta f tf (up2 (up2 (up2 (up2 (up2 (up2 (up2 r 8 n_r_8) 9 n_r_9) 10 n_r_10) 11 n_r_11) 12 n_r_12) 13 n_r_13) 14 n_r_14) tr ∧ (n_r_8 = cpF (r 8) (tr 5) (i * 12) cl) ∧ (n_r_9 = cpF (r 9) (tr 6) (i * 12) cl) ∧ (n_r_10 = cpF (r 10) (rsF (tr 5) (tr 6) (tr 7) (tr 8) (tr 9)) (i * 12) cl) ∧ (n_r_11 = cpF (r 11) (kpI (tr 5) (tr 6) (tr 7) (tr 8) (tr 9)) (i * 12) cl) ∧ (n_r_12 = cpF (r 12) (tr 6) (i * 12) cl) ∧ (n_r_13 = cpF (r 13) (fun p => loF ((tr 5) p) ((tr 6) p) (smF (tr 6) (i * 12) cl)) (i * 12) cl) ∧ (n_r_14 = cpF (r 14) (fun p => hiF ((tr 5) p) ((tr 6) p) (smF (tr 6) (i * 12) cl)) (i * 12) cl)) := by
  refine wr_entryV (by decide +kernel) (Nat.le_of_ble_eq_true rfl) ?_
  intro p e s m below meth c A C0 hP hK hD hA ls hl
  have hS : va_S A s.heap s.heap [] := va_S.rf
  obtain ⟨hx, hb, hml, hown, hts, hr, hlocks, hin⟩ := C0
  have hown : s.vm.findClass RX2 = some m.cls := hown
  have hDD : ∀ f' tf' r' tr', va_D A (rdT G a b ta f' tf' r' tr') := fun f' tf' r' tr' => D_same hD rfl
  have hl : lv_has ls 6 [(0, .ref (a 15)), (1, .ref (ta 0)), (2, .int (nI i))] := hl
  refine lv_aload_n hx hb dX2_loadRow_0 rfl (lv_at hl 1 rfl) ?_
  refine lv_iload_n hx hb dX2_loadRow_1 rfl (lv_at hl 2 rfl) ?_
  refine rdV (rest := []) (q0 := 0) ⟨hx, hb, hml, hown, hts⟩ (c_X4_rowSum l G ta tf tr i cl hi hcl t2) mi_yX4_rowSum mv_yX4_rowSum ml_X2_86 ⟨rfl, rfl, Nat.le_of_ble_eq_true rfl, Nat.le_of_ble_eq_true rfl⟩ hK (hP.sub (ws' := tW G ta tf tr) [10, 11, 12, 13, 14, 15, 16, 17, 18] rfl) rfl rfl rfl hl.1 rfl (Nat.le_of_ble_eq_true rfl) dX2_loadRow_2 ⟨Nat.zero_le _, Nat.zero_le _⟩ hS hA hP (fun r1 H locs hr1 hP hS => ?_)
  obtain rfl := hr1
  refine lv_istore_n (lv' := [(3, .int (smF (tr 6) (i * 12) cl)), (0, .ref (a 15)), (1, .ref (ta 0)), (2, .int (nI i))]) hx hb dX2_loadRow_5 rfl hl (by decide) rfl (fun ls hl => ?_)
  refine lv_iconst (v := 0) hx hb dX2_loadRow_6 (by decide) ?_
  refine lv_istore (lv' := [(4, .int 0), (3, .int (smF (tr 6) (i * 12) cl)), (0, .ref (a 15)), (1, .ref (ta 0)), (2, .int (nI i))]) hx hb dX2_loadRow_7 hl (by decide) rfl (fun ls hl => ?_)
  have loop9 : ∀ (k2 j : Nat) (x3 : Nat → Int32) (x4 : Nat → Int32) (x5 : Nat → Int32) (x6 : Nat → Int32) (x7 : Nat → Int32) (x8 : Nat → Int32) (x9 : Nat → Int32), j ≤ cl → cl < j + k2 → (x3 = cpF (r 8) (tr 5) (i * 12) j) → (x4 = cpF (r 9) (tr 6) (i * 12) j) → (x5 = cpF (r 10) (rsF (tr 5) (tr 6) (tr 7) (tr 8) (tr 9)) (i * 12) j) → (x6 = cpF (r 11) (kpI (tr 5) (tr 6) (tr 7) (tr 8) (tr 9)) (i * 12) j) → (x7 = cpF (r 12) (tr 6) (i * 12) j) → (x8 = cpF (r 13) (fun p => loF (tr 5 p) (tr 6 p) (smF (tr 6) (i * 12) cl)) (i * 12) j) → (x9 = cpF (r 14) (fun p => hiF (tr 5 p) (tr 6 p) (smF (tr 6) (i * 12) cl)) (i * 12) j) → ∀ (H : Heap) (locs : List Loc) (ls : Array Slot), PP G (rdT G a b ta f tf (up2 (up2 (up2 (up2 (up2 (up2 (up2 r 8 x3) 9 x4) 10 x5) 11 x6) 12 x7) 13 x8) 14 x9) tr) H → va_S A s.heap H locs → lv_has ls 6 [(4, .int (nI j)), (3, .int (smF (tr 6) (i * 12) cl)), (0, .ref (a 15)), (1, .ref (ta 0)), (2, .int (nI i))] → W p l e ({ frames := 2, cells := 0, slots := 0, locals := 48 }) s m ([.ref (a 15), .ref (ta 0), .int (nI i)] : List Value).toArray below meth c H locs 0 0 (MQ below (QwV G (fun w => ∃ (n_r_8 : Nat → Int32) (n_r_9 : Nat → Int32) (n_r_10 : Nat → Int32) (n_r_11 : Nat → Int32) (n_r_12 : Nat → Int32) (n_r_13 : Nat → Int32) (n_r_14 : Nat → Int32), w = rdT G a b ta f tf (up2 (up2 (up2 (up2 (up2 (up2 (up2 r 8 n_r_8) 9 n_r_9) 10 n_r_10) 11 n_r_11) 12 n_r_12) 13 n_r_13) 14 n_r_14) tr ∧ (n_r_8 = cpF (r 8) (tr 5) (i * 12) cl) ∧ (n_r_9 = cpF (r 9) (tr 6) (i * 12) cl) ∧ (n_r_10 = cpF (r 10) (rsF (tr 5) (tr 6) (tr 7) (tr 8) (tr 9)) (i * 12) cl) ∧ (n_r_11 = cpF (r 11) (kpI (tr 5) (tr 6) (tr 7) (tr 8) (tr 9)) (i * 12) cl) ∧ (n_r_12 = cpF (r 12) (tr 6) (i * 12) cl) ∧ (n_r_13 = cpF (r 13) (fun p => loF ((tr 5) p) ((tr 6) p) (smF (tr 6) (i * 12) cl)) (i * 12) cl) ∧ (n_r_14 = cpF (r 14) (fun p => hiF ((tr 5) p) ((tr 6) p) (smF (tr 6) (i * 12) cl)) (i * 12) cl)) A) ([.ref (a 15), .ref (ta 0), .int (nI i)] : List Value).toArray s 0 0 A) (F0 m 9 ls []) := by
    intro k2
    induction k2 with
    | zero => intro j x3 x4 x5 x6 x7 x8 x9 h1 h2; exact absurd h1 (by omega)
    | succ k2 ih9k2 =>
      intro j x3 x4 x5 x6 x7 x8 x9 hi_j hk_j m8 m9 m10 m11 m12 m13 m14 H locs ls hP hS hl
      refine lv_iload hx hb dX2_loadRow_9 (lv_at hl 0 rfl) ?_
      refine lv_aload_n hx hb dX2_loadRow_11 rfl (lv_at hl 2 rfl) ?_
      refine va_get (D := G.1) (ci := 2) (v := .int (f 1)) (C := RX2) (T := TX2) (N := 15) hx hb hts inX2 hown hK.1 hP 0 rfl rfl 1 (by decide) (hts _ mf_X2_15) (fun _ h9 => h9) rfl dX2_loadRow_12 ?_
      rw [show (f 1) = nI (cl) from h1]
      refine lv_icmp_ge (tgt := 126) hx hb dX2_loadRow_15 (by decide) (fun c10 => ?_) (fun c10 => ?_)
      · have b15 := qge_t (a := j) (b := (cl)) (by omega) (by omega) c10
        exact wr_vret hx hb hr hlocks hS hP ⟨x3, x4, x5, x6, x7, x8, x9, rfl, (by rw [m8, show j = cl by omega]), (by rw [m9, show j = cl by omega]), (by rw [m10, show j = cl by omega]), (by rw [m11, show j = cl by omega]), (by rw [m12, show j = cl by omega]), (by rw [m13, show j = cl by omega]), (by rw [m14, show j = cl by omega])⟩ dX2_loadRow_126
      · have b15 := qge_f (a := j) (b := (cl)) (by omega) (by omega) c10
        refine lv_iload_n hx hb dX2_loadRow_18 rfl (lv_at hl 4 rfl) ?_
        refine lv_iload hx hb dX2_loadRow_19 (lv_at hl 0 rfl) ?_
        refine rdSN (rest := []) ⟨hx, hb, hml, hown, hts⟩ (c_X6_spotOf l G ((nI i)) ((nI j))) mi_yX6_spotOf mst_yX6_spotOf (by decide +kernel) ⟨rfl, rfl, Nat.le_of_ble_eq_true rfl, Nat.le_of_ble_eq_true rfl⟩ hK (fun k q h => by simp at h) rfl hl.1 rfl (Nat.le_of_ble_eq_true rfl) dX2_loadRow_21 ⟨Nat.zero_le _, Nat.zero_le _⟩ hS hA hP (fun r11 H locs hr11 hP hS => ?_)
        obtain rfl : r11 = nI (i * 12 + j) := spot_eq hr11
        refine lv_istore (lv' := [(5, .int (nI (i * 12 + j))), (4, .int (nI j)), (3, .int (smF (tr 6) (i * 12) cl)), (0, .ref (a 15)), (1, .ref (ta 0)), (2, .int (nI i))]) hx hb dX2_loadRow_24 hl (by decide) rfl (fun ls hl => ?_)
        refine lv_aload_n hx hb dX2_loadRow_26 rfl (lv_at hl 3 rfl) ?_
        refine va_get (D := G.1) (ci := 2) (v := .ref (a 8)) (C := RX2) (T := TX2) (N := 15) hx hb hts inX2 hown hK.1 hP 0 rfl rfl 8 (by decide) (hts _ mf_X2_42) (fun _ h9 => h9) rfl dX2_loadRow_27 ?_
        refine lv_iload hx hb dX2_loadRow_30 (lv_at hl 0 rfl) ?_
        refine lv_aload_n hx hb dX2_loadRow_32 rfl (lv_at hl 4 rfl) ?_
        refine va_get (D := G.1) (ci := 4) (v := .ref (ta 5)) (C := RX4) (T := TX4) (N := 12) hx hb hts inX4 hown hK.1 hP 10 rfl rfl 5 (by decide) (hts _ mf_X2_93) (fun _ h9 => h9) rfl dX2_loadRow_33 ?_
        refine lv_iload hx hb dX2_loadRow_36 (lv_at hl 0 rfl) ?_
        refine xiald (f := (tr 5)) hx hb hK hP 12 ((i * 12 + j)) (rfl) (by omega) (by decide) rfl dX2_loadRow_38 ?_
        refine lv_topi (fun v12 ev12 => ?_)
        obtain rfl : v12 = (tr 5 (i * 12 + j)) := ev12.trans (rfl)
        refine xiast (f := x3) (x := (tr 5 (i * 12 + j))) hx hb hK hP (hDD _ _ _ _) hS 3 ((i * 12 + j)) (rfl) (by omega) (by decide) rfl dX2_loadRow_39 (fun H locs hP _ hS => ?_)
        have hP : PP G (rdT G a b ta f tf (up2 (up2 (up2 (up2 (up2 (up2 (up2 r 8 (upd x3 ((i * 12 + j)) ((tr 5 (i * 12 + j))))) 9 x4) 10 x5) 11 x6) 12 x7) 13 x8) 14 x9) tr) H := hP
        refine lv_aload_n hx hb dX2_loadRow_40 rfl (lv_at hl 3 rfl) ?_
        refine va_get (D := G.1) (ci := 2) (v := .ref (a 9)) (C := RX2) (T := TX2) (N := 15) hx hb hts inX2 hown hK.1 hP 0 rfl rfl 9 (by decide) (hts _ mf_X2_45) (fun _ h9 => h9) rfl dX2_loadRow_41 ?_
        refine lv_iload hx hb dX2_loadRow_44 (lv_at hl 0 rfl) ?_
        refine lv_aload_n hx hb dX2_loadRow_46 rfl (lv_at hl 4 rfl) ?_
        refine va_get (D := G.1) (ci := 4) (v := .ref (ta 6)) (C := RX4) (T := TX4) (N := 12) hx hb hts inX4 hown hK.1 hP 10 rfl rfl 6 (by decide) (hts _ mf_X2_94) (fun _ h9 => h9) rfl dX2_loadRow_47 ?_
        refine lv_iload hx hb dX2_loadRow_50 (lv_at hl 0 rfl) ?_
        refine xiald (f := (tr 6)) hx hb hK hP 13 ((i * 12 + j)) (rfl) (by omega) (by decide) rfl dX2_loadRow_52 ?_
        refine lv_topi (fun v13 ev13 => ?_)
        obtain rfl : v13 = (tr 6 (i * 12 + j)) := ev13.trans (rfl)
        refine xiast (f := x4) (x := (tr 6 (i * 12 + j))) hx hb hK hP (hDD _ _ _ _) hS 4 ((i * 12 + j)) (rfl) (by omega) (by decide) rfl dX2_loadRow_53 (fun H locs hP _ hS => ?_)
        have hP : PP G (rdT G a b ta f tf (up2 (up2 (up2 (up2 (up2 (up2 (up2 r 8 (upd x3 ((i * 12 + j)) ((tr 5 (i * 12 + j))))) 9 (upd x4 ((i * 12 + j)) ((tr 6 (i * 12 + j))))) 10 x5) 11 x6) 12 x7) 13 x8) 14 x9) tr) H := hP
        refine lv_aload_n hx hb dX2_loadRow_54 rfl (lv_at hl 3 rfl) ?_
        refine va_get (D := G.1) (ci := 2) (v := .ref (a 12)) (C := RX2) (T := TX2) (N := 15) hx hb hts inX2 hown hK.1 hP 0 rfl rfl 12 (by decide) (hts _ mf_X2_54) (fun _ h9 => h9) rfl dX2_loadRow_55 ?_
        refine lv_iload hx hb dX2_loadRow_58 (lv_at hl 0 rfl) ?_
        refine lv_aload_n hx hb dX2_loadRow_60 rfl (lv_at hl 4 rfl) ?_
        refine va_get (D := G.1) (ci := 4) (v := .ref (ta 6)) (C := RX4) (T := TX4) (N := 12) hx hb hts inX4 hown hK.1 hP 10 rfl rfl 6 (by decide) (hts _ mf_X2_94) (fun _ h9 => h9) rfl dX2_loadRow_61 ?_
        refine lv_iload hx hb dX2_loadRow_64 (lv_at hl 0 rfl) ?_
        refine xiald (f := (tr 6)) hx hb hK hP 13 ((i * 12 + j)) (rfl) (by omega) (by decide) rfl dX2_loadRow_66 ?_
        refine lv_topi (fun v14 ev14 => ?_)
        obtain rfl : v14 = (tr 6 (i * 12 + j)) := ev14.trans (rfl)
        refine xiast (f := x7) (x := (tr 6 (i * 12 + j))) hx hb hK hP (hDD _ _ _ _) hS 7 ((i * 12 + j)) (rfl) (by omega) (by decide) rfl dX2_loadRow_67 (fun H locs hP _ hS => ?_)
        have hP : PP G (rdT G a b ta f tf (up2 (up2 (up2 (up2 (up2 (up2 (up2 r 8 (upd x3 ((i * 12 + j)) ((tr 5 (i * 12 + j))))) 9 (upd x4 ((i * 12 + j)) ((tr 6 (i * 12 + j))))) 10 x5) 11 x6) 12 (upd x7 ((i * 12 + j)) ((tr 6 (i * 12 + j))))) 13 x8) 14 x9) tr) H := hP
        refine lv_aload_n hx hb dX2_loadRow_68 rfl (lv_at hl 3 rfl) ?_
        refine va_get (D := G.1) (ci := 2) (v := .ref (a 10)) (C := RX2) (T := TX2) (N := 15) hx hb hts inX2 hown hK.1 hP 0 rfl rfl 10 (by decide) (hts _ mf_X2_48) (fun _ h9 => h9) rfl dX2_loadRow_69 ?_
        refine lv_iload hx hb dX2_loadRow_72 (lv_at hl 0 rfl) ?_
        refine lv_aload_n hx hb dX2_loadRow_74 rfl (lv_at hl 4 rfl) ?_
        refine lv_iload hx hb dX2_loadRow_75 (lv_at hl 0 rfl) ?_
        refine rdV (rest := [.int (nI (i * 12 + j)), .ref (a 10)]) (q0 := 0) ⟨hx, hb, hml, hown, hts⟩ (c_X4_reasons l G ta tf tr (i * 12 + j) (by omega)) mi_yX4_reasons mv_yX4_reasons ml_X2_95 ⟨rfl, rfl, Nat.le_of_ble_eq_true rfl, Nat.le_of_ble_eq_true rfl⟩ hK (hP.sub (ws' := tW G ta tf tr) [10, 11, 12, 13, 14, 15, 16, 17, 18] rfl) rfl rfl rfl hl.1 rfl (Nat.le_of_ble_eq_true rfl) dX2_loadRow_77 ⟨Nat.zero_le _, Nat.zero_le _⟩ hS hA hP (fun r15 H locs hr15 hP hS => ?_)
        obtain rfl := hr15
        refine xiast (f := x5) (x := (rsF (tr 5) (tr 6) (tr 7) (tr 8) (tr 9) (i * 12 + j))) hx hb hK hP (hDD _ _ _ _) hS 5 ((i * 12 + j)) (rfl) (by omega) (by decide) rfl dX2_loadRow_80 (fun H locs hP _ hS => ?_)
        have hP : PP G (rdT G a b ta f tf (up2 (up2 (up2 (up2 (up2 (up2 (up2 r 8 (upd x3 ((i * 12 + j)) ((tr 5 (i * 12 + j))))) 9 (upd x4 ((i * 12 + j)) ((tr 6 (i * 12 + j))))) 10 (upd x5 ((i * 12 + j)) ((rsF (tr 5) (tr 6) (tr 7) (tr 8) (tr 9) (i * 12 + j))))) 11 x6) 12 (upd x7 ((i * 12 + j)) ((tr 6 (i * 12 + j))))) 13 x8) 14 x9) tr) H := hP
        refine lv_aload_n hx hb dX2_loadRow_81 rfl (lv_at hl 3 rfl) ?_
        refine va_get (D := G.1) (ci := 2) (v := .ref (a 11)) (C := RX2) (T := TX2) (N := 15) hx hb hts inX2 hown hK.1 hP 0 rfl rfl 11 (by decide) (hts _ mf_X2_51) (fun _ h9 => h9) rfl dX2_loadRow_82 ?_
        refine lv_iload hx hb dX2_loadRow_85 (lv_at hl 0 rfl) ?_
        refine lv_aload_n hx hb dX2_loadRow_87 rfl (lv_at hl 3 rfl) ?_
        refine va_get (D := G.1) (ci := 2) (v := .ref (a 10)) (C := RX2) (T := TX2) (N := 15) hx hb hts inX2 hown hK.1 hP 0 rfl rfl 10 (by decide) (hts _ mf_X2_48) (fun _ h9 => h9) rfl dX2_loadRow_88 ?_
        refine lv_iload hx hb dX2_loadRow_91 (lv_at hl 0 rfl) ?_
        refine xiald (f := (upd x5 ((i * 12 + j)) ((rsF (tr 5) (tr 6) (tr 7) (tr 8) (tr 9) (i * 12 + j))))) hx hb hK hP 5 ((i * 12 + j)) (rfl) (by omega) (by decide) rfl dX2_loadRow_93 ?_
        refine lv_topi (fun v16 ev16 => ?_)
        obtain rfl : v16 = (rsF (tr 5) (tr 6) (tr 7) (tr 8) (tr 9) (i * 12 + j)) := ev16.trans (pk_us)
        have j112_17 : ∀ (z17 : Int32) (gz17 : z17 = 0 ∨ z17 = 1) (hkp : z17 = kpI (tr 5) (tr 6) (tr 7) (tr 8) (tr 9) (i * 12 + j)) (H : Heap) (locs : List Loc) (ls : Array Slot), PP G (rdT G a b ta f tf (up2 (up2 (up2 (up2 (up2 (up2 (up2 r 8 (upd x3 ((i * 12 + j)) ((tr 5 (i * 12 + j))))) 9 (upd x4 ((i * 12 + j)) ((tr 6 (i * 12 + j))))) 10 (upd x5 ((i * 12 + j)) ((rsF (tr 5) (tr 6) (tr 7) (tr 8) (tr 9) (i * 12 + j))))) 11 x6) 12 (upd x7 ((i * 12 + j)) ((tr 6 (i * 12 + j))))) 13 x8) 14 x9) tr) H → va_S A s.heap H locs → lv_has ls 6 [(5, .int (nI (i * 12 + j))), (4, .int (nI j)), (3, .int (smF (tr 6) (i * 12) cl)), (0, .ref (a 15)), (1, .ref (ta 0)), (2, .int (nI i))] → W p l e ({ frames := 2, cells := 0, slots := 0, locals := 48 }) s m ([.ref (a 15), .ref (ta 0), .int (nI i)] : List Value).toArray below meth c H locs 0 0 (MQ below (QwV G (fun w => ∃ (n_r_8 : Nat → Int32) (n_r_9 : Nat → Int32) (n_r_10 : Nat → Int32) (n_r_11 : Nat → Int32) (n_r_12 : Nat → Int32) (n_r_13 : Nat → Int32) (n_r_14 : Nat → Int32), w = rdT G a b ta f tf (up2 (up2 (up2 (up2 (up2 (up2 (up2 r 8 n_r_8) 9 n_r_9) 10 n_r_10) 11 n_r_11) 12 n_r_12) 13 n_r_13) 14 n_r_14) tr ∧ (n_r_8 = cpF (r 8) (tr 5) (i * 12) cl) ∧ (n_r_9 = cpF (r 9) (tr 6) (i * 12) cl) ∧ (n_r_10 = cpF (r 10) (rsF (tr 5) (tr 6) (tr 7) (tr 8) (tr 9)) (i * 12) cl) ∧ (n_r_11 = cpF (r 11) (kpI (tr 5) (tr 6) (tr 7) (tr 8) (tr 9)) (i * 12) cl) ∧ (n_r_12 = cpF (r 12) (tr 6) (i * 12) cl) ∧ (n_r_13 = cpF (r 13) (fun p => loF ((tr 5) p) ((tr 6) p) (smF (tr 6) (i * 12) cl)) (i * 12) cl) ∧ (n_r_14 = cpF (r 14) (fun p => hiF ((tr 5) p) ((tr 6) p) (smF (tr 6) (i * 12) cl)) (i * 12) cl)) A) ([.ref (a 15), .ref (ta 0), .int (nI i)] : List Value).toArray s 0 0 A) (F0 m 112 ls [.int z17, .int (nI (i * 12 + j)), .ref (a 11)]) := by
          intro z17 gz17 hkp H locs ls hP hS hl
          refine xzast (f := x6) (x := z17) hx hb hK hP (hDD _ _ _ _) hS 6 ((i * 12 + j)) (rfl) (by omega) (by decide) (gz17) rfl dX2_loadRow_112 (fun H locs hP _ hS => ?_)
          have hP : PP G (rdT G a b ta f tf (up2 (up2 (up2 (up2 (up2 (up2 (up2 r 8 (upd x3 ((i * 12 + j)) ((tr 5 (i * 12 + j))))) 9 (upd x4 ((i * 12 + j)) ((tr 6 (i * 12 + j))))) 10 (upd x5 ((i * 12 + j)) ((rsF (tr 5) (tr 6) (tr 7) (tr 8) (tr 9) (i * 12 + j))))) 11 (upd x6 ((i * 12 + j)) (z17))) 12 (upd x7 ((i * 12 + j)) ((tr 6 (i * 12 + j))))) 13 x8) 14 x9) tr) H := hP
          refine lv_aload_n hx hb dX2_loadRow_113 rfl (lv_at hl 3 rfl) ?_
          refine lv_iload hx hb dX2_loadRow_114 (lv_at hl 0 rfl) ?_
          refine lv_iload_n hx hb dX2_loadRow_116 rfl (lv_at hl 2 rfl) ?_
          refine wrVV (rest := []) (q0 := 0) ⟨hx, hb, hml, hown, hts⟩ (e_X2_bound l G a b f (up2 (up2 (up2 (up2 (up2 (up2 (up2 r 8 (upd x3 ((i * 12 + j)) ((tr 5 (i * 12 + j))))) 9 (upd x4 ((i * 12 + j)) ((tr 6 (i * 12 + j))))) 10 (upd x5 ((i * 12 + j)) ((rsF (tr 5) (tr 6) (tr 7) (tr 8) (tr 9) (i * 12 + j))))) 11 (upd x6 ((i * 12 + j)) (z17))) 12 (upd x7 ((i * 12 + j)) ((tr 6 (i * 12 + j))))) 13 x8) 14 x9) (i * 12 + j) (smF (tr 6) (i * 12) cl) (by omega)) mi_yX2_bound mv_yX2_bound ml_X2_102 ⟨rfl, rfl, Nat.le_of_ble_eq_true rfl, Nat.le_of_ble_eq_true rfl⟩ hK hP (hDD _ _ _ _) [0, 1, 2, 3, 4, 5, 6, 7, 8, 9] rfl (by decide) rfl rfl rfl hl.1 rfl (Nat.le_of_ble_eq_true rfl) dX2_loadRow_117 ⟨Nat.zero_le _, Nat.zero_le _⟩ hS hA (fun w21 H locs hw21 hP hS => ?_)
          obtain ⟨x18, x19, rfl, hb13, hb14⟩ := hw21
          have hP : PP G (rdT G a b ta f tf (up2 (up2 (up2 (up2 (up2 (up2 (up2 r 8 (upd x3 ((i * 12 + j)) ((tr 5 (i * 12 + j))))) 9 (upd x4 ((i * 12 + j)) ((tr 6 (i * 12 + j))))) 10 (upd x5 ((i * 12 + j)) ((rsF (tr 5) (tr 6) (tr 7) (tr 8) (tr 9) (i * 12 + j))))) 11 (upd x6 ((i * 12 + j)) (z17))) 12 (upd x7 ((i * 12 + j)) ((tr 6 (i * 12 + j))))) 13 x18) 14 x19) tr) H := hP rfl
          have hb13 : x18 = upd x8 (i * 12 + j) (loF ((upd x3 ((i * 12 + j)) ((tr 5 (i * 12 + j)))) (i * 12 + j)) ((upd x4 ((i * 12 + j)) ((tr 6 (i * 12 + j)))) (i * 12 + j)) (smF (tr 6) (i * 12) cl)) := hb13
          have hb14 : x19 = upd x9 (i * 12 + j) (hiF ((upd x3 ((i * 12 + j)) ((tr 5 (i * 12 + j)))) (i * 12 + j)) ((upd x4 ((i * 12 + j)) ((tr 6 (i * 12 + j)))) (i * 12 + j)) (smF (tr 6) (i * 12) cl)) := hb14
          obtain ⟨v22, ev22⟩ : ∃ y9 : Int32, y9 = (nI j) + Int32.ofInt (1) := ⟨_, rfl⟩
          refine lv_iinc (v := v22) (lv' := [(4, .int v22), (5, .int (nI (i * 12 + j))), (3, .int (smF (tr 6) (i * 12) cl)), (0, .ref (a 15)), (1, .ref (ta 0)), (2, .int (nI i))]) hx hb dX2_loadRow_120 hl (k := 1) rfl ev22.symm (by decide) rfl (fun ls hl => ?_)
          obtain rfl : v22 = nI (j + 1) := nI_plus (i := j) (j := 1) ev22 rfl (by decide)
          refine lv_goto (tgt := 9) hx hb dX2_loadRow_123 (by decide) ?_
          exact ih9k2 (j + 1) (upd x3 ((i * 12 + j)) ((tr 5 (i * 12 + j)))) (upd x4 ((i * 12 + j)) ((tr 6 (i * 12 + j)))) (upd x5 ((i * 12 + j)) ((rsF (tr 5) (tr 6) (tr 7) (tr 8) (tr 9) (i * 12 + j)))) (upd x6 ((i * 12 + j)) (z17)) (upd x7 ((i * 12 + j)) ((tr 6 (i * 12 + j)))) x18 x19 (by omega) (by omega) (by rw [m8]; exact cpF_s rfl) (by rw [m9]; exact cpF_s rfl) (by rw [m10]; exact cpF_s rfl) (by rw [m11]; exact cpF_s hkp) (by rw [m12]; exact cpF_s rfl) (by rw [hb13, m13, pk_us, pk_us]; exact cpF_s rfl) (by rw [hb14, m14, pk_us, pk_us]; exact cpF_s rfl) _ _ _ hP hS (lv_sub hl [0, 2, 3, 4, 5] rfl)
        refine lv_if_ne (tgt := 107) hx hb dX2_loadRow_94 (by decide) (fun c23 => ?_) (fun c23 => ?_)
        · refine lv_iconst (v := 1) hx hb dX2_loadRow_107 (by decide) ?_
          refine lv_goto (tgt := 112) hx hb dX2_loadRow_108 (by decide) ?_
          exact j112_17 1 (Or.inr rfl) ((if_neg (fun z9 => c23 z9.1)).symm) _ _ _ hP hS (lv_sub hl [0, 1, 2, 3, 4, 5] rfl)
        · refine lv_aload_n hx hb dX2_loadRow_97 rfl (lv_at hl 4 rfl) ?_
          refine lv_iload hx hb dX2_loadRow_98 (lv_at hl 0 rfl) ?_
          refine lv_iconst (v := 2) hx hb dX2_loadRow_100 (by decide) ?_
          refine rdV (rest := [.int (nI (i * 12 + j)), .ref (a 11)]) (q0 := 0) ⟨hx, hb, hml, hown, hts⟩ (c_X4_wasTold l G ta tf tr (i * 12 + j) 2 (by omega)) mi_yX4_wasTold mv_yX4_wasTold ml_X2_98 ⟨rfl, rfl, Nat.le_of_ble_eq_true rfl, Nat.le_of_ble_eq_true rfl⟩ hK (hP.sub (ws' := tW G ta tf tr) [10, 11, 12, 13, 14, 15, 16, 17, 18] rfl) rfl rfl rfl hl.1 rfl (Nat.le_of_ble_eq_true rfl) dX2_loadRow_101 ⟨Nat.zero_le _, Nat.zero_le _⟩ hS hA hP (fun r24 H locs hr24 hP hS => ?_)
          refine lv_if_eq (tgt := 111) hx hb dX2_loadRow_104 (by decide) (fun c25 => ?_) (fun c25 => ?_)
          · refine lv_iconst (v := 0) hx hb dX2_loadRow_111 (by decide) ?_
            exact j112_17 0 (Or.inl rfl) ((if_pos ⟨c23, bz0 hr24 c25⟩).symm) _ _ _ hP hS (lv_sub hl [0, 1, 2, 3, 4, 5] rfl)
          · refine lv_iconst (v := 1) hx hb dX2_loadRow_107 (by decide) ?_
            refine lv_goto (tgt := 112) hx hb dX2_loadRow_108 (by decide) ?_
            exact j112_17 1 (Or.inr rfl) ((if_neg (fun z9 => bz1 hr24 c25 z9.2)).symm) _ _ _ hP hS (lv_sub hl [0, 1, 2, 3, 4, 5] rfl)
  exact loop9 (cl + 1) 0 (r 8) (r 9) (r 10) (r 11) (r 12) (r 13) (r 14) (by omega) (by omega) (cpF_0.symm) (cpF_0.symm) (cpF_0.symm) (cpF_0.symm) (cpF_0.symm) (cpF_0.symm) (cpF_0.symm) _ _ _ hP hS (lv_sub hl [0, 1, 2, 3, 4] rfl)
set_option maxHeartbeats 4000000 in
set_option maxRecDepth 100000 in
theorem e_X2_load (l : Launch) (G : GG) (a b ta : Nat → Nat) (f tf : Nat → Int32) (r tr : Nat → Nat → Int32) (rw : Nat) (cl : Nat) (bk : Nat) (hrw : rw ≤ 12) (hcl : cl ≤ 12) (hbk : bk ≤ 12) (t1 : (tf 1) = nI rw) (t2 : (tf 2) = nI cl) (t3 : (tf 3) = nI bk) : WrV l yX2_load cX2_load 3 ({ frames := 3, cells := 0, slots := 0, locals := 73 }) G (rdT G a b ta f tf r tr) [.ref (a 15), .ref (ta 0)] (fun w => ∃ (n_f_0 : Int32) (n_f_1 : Int32) (n_f_2 : Int32) (n_f_3 : Int32) (n_f_4 : Int32) (n_r_6 : Nat → Int32) (n_r_7 : Nat → Int32) (n_r_8 : Nat → Int32) (n_r_9 : Nat → Int32) (n_r_10 : Nat → Int32) (n_r_11 : Nat → Int32) (n_r_12 : Nat → Int32) (n_r_13 : Nat → Int32) (n_r_14 : Nat → Int32), w = rdT G a b ta (upd (upd (upd (upd (upd f 0 n_f_0) 1 n_f_1) 2 n_f_2) 3 n_f_3) 4 n_f_4) tf (up2 (up2 (up2 (up2 (up2 (up2 (up2 (up2 (up2 r 6 n_r_6) 7 n_r_7) 8 n_r_8) 9 n_r_9) 10 n_r_10) 11 n_r_11) 12 n_r_12) 13 n_r_13) 14 n_r_14) tr ∧ (n_f_0 = nI rw) ∧ (n_f_1 = nI cl) ∧ (n_f_2 = (tr 9) 3) ∧ (n_f_3 = (tr 9) 4) ∧ (n_f_4 = -2) ∧ (LDR rw cl bk (tr 4) (tr 5) (tr 6) (tr 7) (tr 8) (tr 9) (tr 10) (tr 11) n_r_6 n_r_7 n_r_8 n_r_9 n_r_10 n_r_11 n_r_12 n_r_13 n_r_14)) := by
  refine wr_entryV (by decide +kernel) (Nat.le_of_ble_eq_true rfl) ?_
  intro p e s m below meth c A C0 hP hK hD hA ls hl
  have hS : va_S A s.heap s.heap [] := va_S.rf
  obtain ⟨hx, hb, hml, hown, hts, hr, hlocks, hin⟩ := C0
  have hown : s.vm.findClass RX2 = some m.cls := hown
  have hDD : ∀ f' tf' r' tr', va_D A (rdT G a b ta f' tf' r' tr') := fun f' tf' r' tr' => D_same hD rfl
  have hl : lv_has ls 3 [(0, .ref (a 15)), (1, .ref (ta 0))] := hl
  refine lv_aload_n hx hb dX2_load_0 rfl (lv_at hl 0 rfl) ?_
  refine lv_aload_n hx hb dX2_load_1 rfl (lv_at hl 1 rfl) ?_
  refine va_get (D := G.1) (ci := 4) (v := .int (tf 1)) (C := RX4) (T := TX4) (N := 12) hx hb hts inX4 hown hK.1 hP 10 rfl rfl 1 (by decide) (hts _ mf_X2_63) (fun _ h9 => h9) rfl dX2_load_2 ?_
  rw [show (tf 1) = nI (rw) from t1]
  refine va_put (D := G.1) (ci := 2) (v := .int (nI (rw))) (C := RX2) (T := TX2) (N := 15) hx hb hts inX2 tyX2 tyX2_ok nmX2 hown hK.1 hP (hDD _ _ _ _) hS 0 rfl rfl 0 (by decide) (hts _ mf_X2_9) (fun _ h9 => h9) rfl (tyX2_ok 0 (by decide)) (rfl) (rfl) (Nat.le_of_ble_eq_true rfl) dX2_load_5 (fun H locs hP _ hS => ?_)
  have hP : PP G (rdT G a b ta (upd f 0 (nI (rw))) tf r tr) H := hP
  refine lv_aload_n hx hb dX2_load_8 rfl (lv_at hl 0 rfl) ?_
  refine lv_aload_n hx hb dX2_load_9 rfl (lv_at hl 1 rfl) ?_
  refine va_get (D := G.1) (ci := 4) (v := .int (tf 2)) (C := RX4) (T := TX4) (N := 12) hx hb hts inX4 hown hK.1 hP 10 rfl rfl 2 (by decide) (hts _ mf_X2_66) (fun _ h9 => h9) rfl dX2_load_10 ?_
  rw [show (tf 2) = nI (cl) from t2]
  refine va_put (D := G.1) (ci := 2) (v := .int (nI (cl))) (C := RX2) (T := TX2) (N := 15) hx hb hts inX2 tyX2 tyX2_ok nmX2 hown hK.1 hP (hDD _ _ _ _) hS 0 rfl rfl 1 (by decide) (hts _ mf_X2_15) (fun _ h9 => h9) rfl (tyX2_ok 1 (by decide)) (rfl) (rfl) (Nat.le_of_ble_eq_true rfl) dX2_load_13 (fun H locs hP _ hS => ?_)
  have hP : PP G (rdT G a b ta (upd (upd f 0 (nI (rw))) 1 (nI (cl))) tf r tr) H := hP
  refine lv_aload_n hx hb dX2_load_16 rfl (lv_at hl 0 rfl) ?_
  refine lv_aload_n hx hb dX2_load_17 rfl (lv_at hl 1 rfl) ?_
  refine va_get (D := G.1) (ci := 4) (v := .ref (ta 9)) (C := RX4) (T := TX4) (N := 12) hx hb hts inX4 hown hK.1 hP 10 rfl rfl 9 (by decide) (hts _ mf_X2_67) (fun _ h9 => h9) rfl dX2_load_18 ?_
  refine lv_iconst (v := 3) hx hb dX2_load_21 (by decide) ?_
  refine xiald (f := (tr 9)) hx hb hK hP 16 (3) (rfl) (by omega) (by decide) rfl dX2_load_22 ?_
  refine lv_topi (fun v1 ev1 => ?_)
  obtain rfl : v1 = (tr 9 3) := ev1.trans (rfl)
  refine va_put (D := G.1) (ci := 2) (v := .int (tr 9 3)) (C := RX2) (T := TX2) (N := 15) hx hb hts inX2 tyX2 tyX2_ok nmX2 hown hK.1 hP (hDD _ _ _ _) hS 0 rfl rfl 2 (by decide) (hts _ mf_X2_18) (fun _ h9 => h9) rfl (tyX2_ok 2 (by decide)) (rfl) (rfl) (Nat.le_of_ble_eq_true rfl) dX2_load_23 (fun H locs hP _ hS => ?_)
  have hP : PP G (rdT G a b ta (upd (upd (upd f 0 (nI (rw))) 1 (nI (cl))) 2 (tr 9 3)) tf r tr) H := hP
  refine lv_aload_n hx hb dX2_load_26 rfl (lv_at hl 0 rfl) ?_
  refine lv_aload_n hx hb dX2_load_27 rfl (lv_at hl 1 rfl) ?_
  refine va_get (D := G.1) (ci := 4) (v := .ref (ta 9)) (C := RX4) (T := TX4) (N := 12) hx hb hts inX4 hown hK.1 hP 10 rfl rfl 9 (by decide) (hts _ mf_X2_67) (fun _ h9 => h9) rfl dX2_load_28 ?_
  refine lv_iconst (v := 4) hx hb dX2_load_31 (by decide) ?_
  refine xiald (f := (tr 9)) hx hb hK hP 16 (4) (rfl) (by omega) (by decide) rfl dX2_load_32 ?_
  refine lv_topi (fun v2 ev2 => ?_)
  obtain rfl : v2 = (tr 9 4) := ev2.trans (rfl)
  refine va_put (D := G.1) (ci := 2) (v := .int (tr 9 4)) (C := RX2) (T := TX2) (N := 15) hx hb hts inX2 tyX2 tyX2_ok nmX2 hown hK.1 hP (hDD _ _ _ _) hS 0 rfl rfl 3 (by decide) (hts _ mf_X2_21) (fun _ h9 => h9) rfl (tyX2_ok 3 (by decide)) (rfl) (rfl) (Nat.le_of_ble_eq_true rfl) dX2_load_33 (fun H locs hP _ hS => ?_)
  have hP : PP G (rdT G a b ta (upd (upd (upd (upd f 0 (nI (rw))) 1 (nI (cl))) 2 (tr 9 3)) 3 (tr 9 4)) tf r tr) H := hP
  refine lv_aload_n hx hb dX2_load_36 rfl (lv_at hl 0 rfl) ?_
  refine lv_bipush (v := -2) hx hb dX2_load_37 (by decide) ?_
  refine va_put (D := G.1) (ci := 2) (v := .int (-2)) (C := RX2) (T := TX2) (N := 15) hx hb hts inX2 tyX2 tyX2_ok nmX2 hown hK.1 hP (hDD _ _ _ _) hS 0 rfl rfl 4 (by decide) (hts _ mf_X2_24) (fun _ h9 => h9) rfl (tyX2_ok 4 (by decide)) (rfl) (rfl) (Nat.le_of_ble_eq_true rfl) dX2_load_39 (fun H locs hP _ hS => ?_)
  have hP : PP G (rdT G a b ta (upd (upd (upd (upd (upd f 0 (nI (rw))) 1 (nI (cl))) 2 (tr 9 3)) 3 (tr 9 4)) 4 (-2)) tf r tr) H := hP
  refine lv_iconst (v := 0) hx hb dX2_load_42 (by decide) ?_
  refine lv_istore_n (lv' := [(2, .int 0), (0, .ref (a 15)), (1, .ref (ta 0))]) hx hb dX2_load_43 rfl hl (by decide) rfl (fun ls hl => ?_)
  have loop44 : ∀ (k3 n : Nat) (x4 : Nat → Int32) (x5 : Nat → Int32) (x6 : Nat → Int32) (x7 : Nat → Int32) (x8 : Nat → Int32) (x9 : Nat → Int32) (x10 : Nat → Int32) (x11 : Nat → Int32) (x12 : Nat → Int32), n ≤ rw → rw < n + k3 → (LDR n cl bk (tr 4) (tr 5) (tr 6) (tr 7) (tr 8) (tr 9) (tr 10) (tr 11) x4 x5 x6 x7 x8 x9 x10 x11 x12) → ∀ (H : Heap) (locs : List Loc) (ls : Array Slot), PP G (rdT G a b ta (upd (upd (upd (upd (upd f 0 (nI (rw))) 1 (nI (cl))) 2 (tr 9 3)) 3 (tr 9 4)) 4 (-2)) tf (up2 (up2 (up2 (up2 (up2 (up2 (up2 (up2 (up2 r 6 x4) 7 x5) 8 x6) 9 x7) 10 x8) 11 x9) 12 x10) 13 x11) 14 x12) tr) H → va_S A s.heap H locs → lv_has ls 3 [(2, .int (nI n)), (0, .ref (a 15)), (1, .ref (ta 0))] → W p l e ({ frames := 3, cells := 0, slots := 0, locals := 73 }) s m ([.ref (a 15), .ref (ta 0)] : List Value).toArray below meth c H locs 0 0 (MQ below (QwV G (fun w => ∃ (n_f_0 : Int32) (n_f_1 : Int32) (n_f_2 : Int32) (n_f_3 : Int32) (n_f_4 : Int32) (n_r_6 : Nat → Int32) (n_r_7 : Nat → Int32) (n_r_8 : Nat → Int32) (n_r_9 : Nat → Int32) (n_r_10 : Nat → Int32) (n_r_11 : Nat → Int32) (n_r_12 : Nat → Int32) (n_r_13 : Nat → Int32) (n_r_14 : Nat → Int32), w = rdT G a b ta (upd (upd (upd (upd (upd f 0 n_f_0) 1 n_f_1) 2 n_f_2) 3 n_f_3) 4 n_f_4) tf (up2 (up2 (up2 (up2 (up2 (up2 (up2 (up2 (up2 r 6 n_r_6) 7 n_r_7) 8 n_r_8) 9 n_r_9) 10 n_r_10) 11 n_r_11) 12 n_r_12) 13 n_r_13) 14 n_r_14) tr ∧ (n_f_0 = nI rw) ∧ (n_f_1 = nI cl) ∧ (n_f_2 = (tr 9) 3) ∧ (n_f_3 = (tr 9) 4) ∧ (n_f_4 = -2) ∧ (LDR rw cl bk (tr 4) (tr 5) (tr 6) (tr 7) (tr 8) (tr 9) (tr 10) (tr 11) n_r_6 n_r_7 n_r_8 n_r_9 n_r_10 n_r_11 n_r_12 n_r_13 n_r_14)) A) ([.ref (a 15), .ref (ta 0)] : List Value).toArray s 0 0 A) (F0 m 44 ls []) := by
    intro k3
    induction k3 with
    | zero => intro n x4 x5 x6 x7 x8 x9 x10 x11 x12 h1 h2; exact absurd h1 (by omega)
    | succ k3 ih44k3 =>
      intro n x4 x5 x6 x7 x8 x9 x10 x11 x12 hi_n hk_n hLD H locs ls hP hS hl
      refine lv_iload_n hx hb dX2_load_44 rfl (lv_at hl 0 rfl) ?_
      refine lv_aload_n hx hb dX2_load_45 rfl (lv_at hl 1 rfl) ?_
      refine va_get (D := G.1) (ci := 2) (v := .int (nI (rw))) (C := RX2) (T := TX2) (N := 15) hx hb hts inX2 hown hK.1 hP 0 rfl rfl 0 (by decide) (hts _ mf_X2_9) (fun _ h9 => h9) rfl dX2_load_46 ?_
      refine lv_icmp_ge (tgt := 103) hx hb dX2_load_49 (by decide) (fun c13 => ?_) (fun c13 => ?_)
      · have b49 := qge_t (a := n) (b := (rw)) (by omega) (by omega) c13
        exact wr_vret hx hb hr hlocks hS hP ⟨(nI (rw)), (nI (cl)), (tr 9 3), (tr 9 4), (-2), x4, x5, x6, x7, x8, x9, x10, x11, x12, rfl, rfl, rfl, rfl, rfl, rfl, (by rw [show rw = n by omega]; exact hLD)⟩ dX2_load_103
      · have b49 := qge_f (a := n) (b := (rw)) (by omega) (by omega) c13
        refine lv_aload_n hx hb dX2_load_52 rfl (lv_at hl 1 rfl) ?_
        refine va_get (D := G.1) (ci := 2) (v := .ref (a 6)) (C := RX2) (T := TX2) (N := 15) hx hb hts inX2 hown hK.1 hP 0 rfl rfl 6 (by decide) (hts _ mf_X2_34) (fun _ h9 => h9) rfl dX2_load_53 ?_
        refine lv_iload_n hx hb dX2_load_56 rfl (lv_at hl 0 rfl) ?_
        refine lv_aload_n hx hb dX2_load_57 rfl (lv_at hl 2 rfl) ?_
        refine lv_iload_n hx hb dX2_load_58 rfl (lv_at hl 0 rfl) ?_
        refine rdV (rest := [.int (nI n), .ref (a 6)]) (q0 := 0) ⟨hx, hb, hml, hown, hts⟩ (c_X4_isSound l G ta tf tr n cl (by omega) hcl t2) mi_yX4_isSound mv_yX4_isSound ml_X2_70 ⟨rfl, rfl, Nat.le_of_ble_eq_true rfl, Nat.le_of_ble_eq_true rfl⟩ hK (hP.sub (ws' := tW G ta tf tr) [10, 11, 12, 13, 14, 15, 16, 17, 18] rfl) rfl rfl rfl hl.1 rfl (Nat.le_of_ble_eq_true rfl) dX2_load_59 ⟨Nat.zero_le _, Nat.zero_le _⟩ hS hA hP (fun r14 H locs hr14 hP hS => ?_)
        refine xzast (f := x4) (x := r14) hx hb hK hP (hDD _ _ _ _) hS 1 (n) (rfl) (by omega) (by decide) ((hr14.elim (fun q9 => Or.inr q9.1) (fun q9 => Or.inl q9.1))) rfl dX2_load_62 (fun H locs hP _ hS => ?_)
        have hP : PP G (rdT G a b ta (upd (upd (upd (upd (upd f 0 (nI (rw))) 1 (nI (cl))) 2 (tr 9 3)) 3 (tr 9 4)) 4 (-2)) tf (up2 (up2 (up2 (up2 (up2 (up2 (up2 (up2 (up2 r 6 (upd x4 (n) (r14))) 7 x5) 8 x6) 9 x7) 10 x8) 11 x9) 12 x10) 13 x11) 14 x12) tr) H := hP
        refine lv_aload_n hx hb dX2_load_63 rfl (lv_at hl 1 rfl) ?_
        refine va_get (D := G.1) (ci := 2) (v := .ref (a 7)) (C := RX2) (T := TX2) (N := 15) hx hb hts inX2 hown hK.1 hP 0 rfl rfl 7 (by decide) (hts _ mf_X2_38) (fun _ h9 => h9) rfl dX2_load_64 ?_
        refine lv_iload_n hx hb dX2_load_67 rfl (lv_at hl 0 rfl) ?_
        refine lv_aload_n hx hb dX2_load_68 rfl (lv_at hl 2 rfl) ?_
        refine lv_iload_n hx hb dX2_load_69 rfl (lv_at hl 0 rfl) ?_
        refine rdV (rest := [.int (nI n), .ref (a 7)]) (q0 := 0) ⟨hx, hb, hml, hown, hts⟩ (c_X4_classOf l G ta tf tr n bk hbk t3) mi_yX4_classOf mv_yX4_classOf ml_X2_74 ⟨rfl, rfl, Nat.le_of_ble_eq_true rfl, Nat.le_of_ble_eq_true rfl⟩ hK (hP.sub (ws' := tW G ta tf tr) [10, 11, 12, 13, 14, 15, 16, 17, 18] rfl) rfl rfl rfl hl.1 rfl (Nat.le_of_ble_eq_true rfl) dX2_load_70 ⟨Nat.zero_le _, Nat.zero_le _⟩ hS hA hP (fun r15 H locs hr15 hP hS => ?_)
        obtain rfl := hr15
        refine xiast (f := x5) (x := ((clS (tr 10) (tr 11) (nI n) bk).1)) hx hb hK hP (hDD _ _ _ _) hS 2 (n) (rfl) (by omega) (by decide) rfl dX2_load_73 (fun H locs hP _ hS => ?_)
        have hP : PP G (rdT G a b ta (upd (upd (upd (upd (upd f 0 (nI (rw))) 1 (nI (cl))) 2 (tr 9 3)) 3 (tr 9 4)) 4 (-2)) tf (up2 (up2 (up2 (up2 (up2 (up2 (up2 (up2 (up2 r 6 (upd x4 (n) (r14))) 7 (upd x5 (n) (((clS (tr 10) (tr 11) (nI n) bk).1)))) 8 x6) 9 x7) 10 x8) 11 x9) 12 x10) 13 x11) 14 x12) tr) H := hP
        refine lv_aload_n hx hb dX2_load_74 rfl (lv_at hl 1 rfl) ?_
        refine va_get (D := G.1) (ci := 2) (v := .ref (a 6)) (C := RX2) (T := TX2) (N := 15) hx hb hts inX2 hown hK.1 hP 0 rfl rfl 6 (by decide) (hts _ mf_X2_34) (fun _ h9 => h9) rfl dX2_load_75 ?_
        refine lv_iload_n hx hb dX2_load_78 rfl (lv_at hl 0 rfl) ?_
        refine xzald (f := (upd x4 (n) (r14))) hx hb hK hP 1 (n) (rfl) (by omega) (by decide) rfl dX2_load_79 ?_
        refine lv_topi (fun v16 ev16 => ?_)
        obtain rfl : r14 = v16 := (ev16.trans pk_us).symm
        refine lv_if_eq (tgt := 92) hx hb dX2_load_80 (by decide) (fun c17 => ?_) (fun c17 => ?_)
        · obtain ⟨es, hsn⟩ := hr14.resolve_left (fun z9 => absurd (z9.1.symm.trans c17) (by decide))
          refine lv_aload_n hx hb dX2_load_92 rfl (lv_at hl 1 rfl) ?_
          refine lv_iload_n hx hb dX2_load_93 rfl (lv_at hl 0 rfl) ?_
          refine wrVV (rest := []) (q0 := 0) ⟨hx, hb, hml, hown, hts⟩ (e_X2_blankRow l G a b (upd (upd (upd (upd (upd f 0 (nI (rw))) 1 (nI (cl))) 2 (tr 9 3)) 3 (tr 9 4)) 4 (-2)) (up2 (up2 (up2 (up2 (up2 (up2 (up2 (up2 (up2 r 6 (upd x4 (n) (r14))) 7 (upd x5 (n) (((clS (tr 10) (tr 11) (nI n) bk).1)))) 8 x6) 9 x7) 10 x8) 11 x9) 12 x10) 13 x11) 14 x12) n cl (by omega) hcl rfl) mi_yX2_blankRow mv_yX2_blankRow ml_X2_82 ⟨rfl, rfl, Nat.le_of_ble_eq_true rfl, Nat.le_of_ble_eq_true rfl⟩ hK hP (hDD _ _ _ _) [0, 1, 2, 3, 4, 5, 6, 7, 8, 9] rfl (by decide) rfl rfl rfl hl.1 rfl (Nat.le_of_ble_eq_true rfl) dX2_load_94 ⟨Nat.zero_le _, Nat.zero_le _⟩ hS hA (fun w22 H locs hw22 hP hS => ?_)
          obtain ⟨x18, x19, x20, rfl, l8, l10, l11⟩ := hw22
          have hP : PP G (rdT G a b ta (upd (upd (upd (upd (upd f 0 (nI (rw))) 1 (nI (cl))) 2 (tr 9 3)) 3 (tr 9 4)) 4 (-2)) tf (up2 (up2 (up2 (up2 (up2 (up2 (up2 (up2 (up2 r 6 (upd x4 (n) (r14))) 7 (upd x5 (n) (((clS (tr 10) (tr 11) (nI n) bk).1)))) 8 x18) 9 x7) 10 x19) 11 x20) 12 x10) 13 x11) 14 x12) tr) H := hP rfl
          have l8 : x18 = cpF x6 (fun _ => 0) (n * 12) cl := l8
          have l10 : x19 = cpF x8 (fun _ => 0) (n * 12) cl := l10
          have l11 : x20 = cpF x9 (fun _ => 0) (n * 12) cl := l11
          obtain ⟨v23, ev23⟩ : ∃ y9 : Int32, y9 = (nI n) + Int32.ofInt (1) := ⟨_, rfl⟩
          refine lv_iinc (v := v23) (lv' := [(2, .int v23), (0, .ref (a 15)), (1, .ref (ta 0))]) hx hb dX2_load_97 hl (k := 0) rfl ev23.symm (by decide) rfl (fun ls hl => ?_)
          obtain rfl : v23 = nI (n + 1) := nI_plus (i := n) (j := 1) ev23 rfl (by decide)
          refine lv_goto (tgt := 44) hx hb dX2_load_100 (by decide) ?_
          exact ih44k3 (n + 1) (upd x4 (n) (r14)) (upd x5 (n) (((clS (tr 10) (tr 11) (nI n) bk).1))) x18 x7 x19 x20 x10 x11 x12 (by omega) (by omega) (by rw [l8, l10, l11, es]; exact LDR_n hLD hcl hsn) _ _ _ hP hS (lv_sub hl [0, 1, 2] rfl)
        · obtain ⟨es, hsn⟩ := hr14.resolve_right (fun z9 => c17 z9.1)
          refine lv_aload_n hx hb dX2_load_83 rfl (lv_at hl 1 rfl) ?_
          refine lv_aload_n hx hb dX2_load_84 rfl (lv_at hl 2 rfl) ?_
          refine lv_iload_n hx hb dX2_load_85 rfl (lv_at hl 0 rfl) ?_
          refine wrVVa (rest := []) (q0 := 0) ⟨hx, hb, hml, hown, hts⟩ (e_X2_loadRow l G a b ta (upd (upd (upd (upd (upd f 0 (nI (rw))) 1 (nI (cl))) 2 (tr 9 3)) 3 (tr 9 4)) 4 (-2)) tf (up2 (up2 (up2 (up2 (up2 (up2 (up2 (up2 (up2 r 6 (upd x4 (n) (r14))) 7 (upd x5 (n) (((clS (tr 10) (tr 11) (nI n) bk).1)))) 8 x6) 9 x7) 10 x8) 11 x9) 12 x10) 13 x11) 14 x12) tr n cl (by omega) (by omega) rfl t2) mi_yX2_loadRow mv_yX2_loadRow ml_X2_78 ⟨rfl, rfl, Nat.le_of_ble_eq_true rfl, Nat.le_of_ble_eq_true rfl⟩ hK hP (hDD _ _ _ _) rfl rfl rfl hl.1 rfl (Nat.le_of_ble_eq_true rfl) dX2_load_86 ⟨Nat.zero_le _, Nat.zero_le _⟩ hS hA (fun w25 H locs hw25 hP hS => ?_)
          obtain ⟨x26, x27, x28, x29, x30, x31, x32, rfl, l8, l9, l10, l11, l12, l13, l14⟩ := hw25
          have hP : PP G (rdT G a b ta (upd (upd (upd (upd (upd f 0 (nI (rw))) 1 (nI (cl))) 2 (tr 9 3)) 3 (tr 9 4)) 4 (-2)) tf (up2 (up2 (up2 (up2 (up2 (up2 (up2 (up2 (up2 r 6 (upd x4 (n) (r14))) 7 (upd x5 (n) (((clS (tr 10) (tr 11) (nI n) bk).1)))) 8 x26) 9 x27) 10 x28) 11 x29) 12 x30) 13 x31) 14 x32) tr) H := hP
          have l8 : x26 = cpF x6 (tr 5) (n * 12) cl := l8
          have l9 : x27 = cpF x7 (tr 6) (n * 12) cl := l9
          have l10 : x28 = cpF x8 (rsF (tr 5) (tr 6) (tr 7) (tr 8) (tr 9)) (n * 12) cl := l10
          have l11 : x29 = cpF x9 (kpI (tr 5) (tr 6) (tr 7) (tr 8) (tr 9)) (n * 12) cl := l11
          have l12 : x30 = cpF x10 (tr 6) (n * 12) cl := l12
          have l13 : x31 = cpF x11 (fun p => loF ((tr 5) p) ((tr 6) p) (smF (tr 6) (n * 12) cl)) (n * 12) cl := l13
          have l14 : x32 = cpF x12 (fun p => hiF ((tr 5) p) ((tr 6) p) (smF (tr 6) (n * 12) cl)) (n * 12) cl := l14
          refine lv_goto (tgt := 97) hx hb dX2_load_89 (by decide) ?_
          obtain ⟨v33, ev33⟩ : ∃ y9 : Int32, y9 = (nI n) + Int32.ofInt (1) := ⟨_, rfl⟩
          refine lv_iinc (v := v33) (lv' := [(2, .int v33), (0, .ref (a 15)), (1, .ref (ta 0))]) hx hb dX2_load_97 hl (k := 0) rfl ev33.symm (by decide) rfl (fun ls hl => ?_)
          obtain rfl : v33 = nI (n + 1) := nI_plus (i := n) (j := 1) ev33 rfl (by decide)
          refine lv_goto (tgt := 44) hx hb dX2_load_100 (by decide) ?_
          exact ih44k3 (n + 1) (upd x4 (n) (r14)) (upd x5 (n) (((clS (tr 10) (tr 11) (nI n) bk).1))) x26 x27 x28 x29 x30 x31 x32 (by omega) (by omega) (by rw [l8, l9, l10, l11, l12, l13, l14, es]; exact LDR_y hLD hcl hsn) _ _ _ hP hS (lv_sub hl [0, 1, 2] rfl)
  exact loop44 (rw + 1) 0 (r 6) (r 7) (r 8) (r 9) (r 10) (r 11) (r 12) (r 13) (r 14) (by omega) (by omega) (fun x h8 => absurd h8 (by omega)) _ _ _ hP hS (lv_sub hl [0, 1, 2] rfl)
