
theorem oG_lt {dm : Nat → Nat → Bool} {NM : Nat → Nat → Nat} {B : Nat} (hB : 0 < B) (x y : Nat) : oG dm NM B x y < B := by
  unfold oG
  split
  · exact Nat.mod_lt _ hB
  · exact hB
theorem mk9_to {A : Nat → Nat} {a b : Nat} (hab : a ≤ b) (hA : ∀ n, a ≤ n → n < b → A n = 0) (n : Nat) : mk9 A b n = mk9 A a n := by
  unfold mk9
  by_cases c : n < a
  · rw [if_pos c, if_pos (by omega)]
  · rw [if_neg c]
    by_cases d : n < b
    · rw [if_pos d]; exact hA n (by omega) d
    · rw [if_neg d]
theorem mk9_up {A : Nat → Nat} {a : Nat} (hA : ∀ n, a ≤ n → n < 24 → A n = 0) (n : Nat) (hn : n < 24) : A n = mk9 A a n := by
  unfold mk9
  by_cases c : n < a
  · rw [if_pos c]
  · rw [if_neg c]; exact hA n (by omega) hn
theorem mkO_all {T : Nat → Nat → Nat} {m : Nat} (hz : ∀ x y, x < 12 → y < 12 → 12 * m ≤ 12 * x + y → T x y = 0) (i j : Nat) (hi : i < 12) (hj : j < 12) : mkO T (12 * m) i j = T i j := by
  unfold mkO
  by_cases c : 12 * i + j < 12 * m
  · rw [if_pos c]
  · rw [if_neg c]; exact (hz i j hi hj (by omega)).symm
theorem SRC_b {lo : Nat → Nat} (h : ∀ n, n < 24 → lo n ≤ 1000) : SR lo + SC lo ≤ 24000 := by
  have h1 := sumI_ub (f := fun k => (lo k : Int)) (B := 1000) 12 (fun k hk => by have := h k (by omega); show (lo k : Int) ≤ 1000; omega)
  have h2 := sumI_ub (f := fun k => (lo (12 + k) : Int)) (B := 1000) 12 (fun k hk => by have := h (12 + k) (by omega); show (lo (12 + k) : Int) ≤ 1000; omega)
  unfold SR SC
  omega
set_option maxHeartbeats 4000000 in
set_option maxRecDepth 100000 in
theorem n_bound (l : Launch) (G : GG) (y : Nat) (b : Nat → Nat) (f : Nat → Int32) (r : Nat → Nat → Int32) (a : Nat) (b2 : Nat) (lo : Nat) (hi : Nat) (M : Nat) (ha : a < 26) (hb2 : b2 < 26) (hlh : lo ≤ hi) (hhi : hi ≤ 20000) (hM : M ≤ 10000000) (hcp : nOK 784 M (r 36)) : WrV l yX7_bound cX7_bound 5 ({ frames := 0, cells := 0, slots := 0, locals := 0 }) G (mM G y b f r) [.ref y, .int (nI a), .int (nI b2), .int (nI lo), .int (nI hi)] (fun w => ∃ (n_r_36 : Nat → Int32), w = mM G y b f (up2 r 36 n_r_36) ∧ (nOK 784 (M + 60000) n_r_36) ∧ (∀ u v, u < 28 → v < 28 → cA n_r_36 u v = cA (r 36) u v + (if u = a ∧ v = b2 then ((hi : Nat) : Int) - ((lo : Nat) : Int) else 0) + (if u = 26 ∧ v = b2 then ((lo : Nat) : Int) else 0) + (if u = a ∧ v = 27 then ((lo : Nat) : Int) else 0))) := by
  refine wr_entryV (by decide +kernel) (Nat.le_of_ble_eq_true rfl) ?_
  intro p e s m below meth c A C0 hP hK hD hA ls hl
  have hS : va_S A s.heap s.heap [] := va_S.rf
  obtain ⟨hx, hb, hml, hown, hts, hr, hlocks, hin⟩ := C0
  have hown : s.vm.findClass RX7 = some m.cls := hown
  have hDD : ∀ f' r', va_D A (mM G y b f' r') := fun f' r' => D_same hD rfl
  have hl : lv_has ls 5 [(0, .ref y), (1, .int (nI a)), (2, .int (nI b2)), (3, .int (nI lo)), (4, .int (nI hi))] := hl
  refine lv_aload_n hx hb dX7_bound_0 rfl (lv_at hl 0 rfl) ?_
  refine va_get (D := G.1) (ci := 7) (v := .ref (b 36)) (C := RX7) (T := TX7) (N := 43) hx hb hts inX7 hown hK.1 hP 0 rfl rfl 36 (by decide) (hts _ mf_X7_98) (fun _ h9 => h9) rfl dX7_bound_1 ?_
  refine lv_bipush (v := 28) hx hb dX7_bound_4 (by decide) ?_
  refine lv_iload_n hx hb dX7_bound_6 rfl (lv_at hl 1 rfl) ?_
  refine lv_imul hx hb dX7_bound_7 ?_
  refine lv_topi (fun v1 ev1 => ?_)
  obtain rfl : v1 = nI (28 * a) := nI_times ev1 rfl rfl
  refine lv_iload_n hx hb dX7_bound_8 rfl (lv_at hl 2 rfl) ?_
  refine lv_iadd hx hb dX7_bound_9 ?_
  refine lv_topi (fun v2 ev2 => ?_)
  obtain rfl : v2 = nI ((28 * a) + b2) := nI_plus ev2 rfl rfl
  refine lv_dup2_11 hx hb dX7_bound_10 rfl rfl ?_
  refine xiald (f := (r 36)) hx hb hK hP 30 (((28 * a) + b2)) (rfl) (by omega) (by decide) rfl dX7_bound_11 ?_
  refine lv_topi (fun v3 ev3 => ?_)
  obtain ⟨c1, hc1, ec1_⟩ := hcp (((28 * a) + b2)) (by omega)
  obtain rfl : v3 = nI (c1) := ev3.trans (ec1_)
  refine lv_iload hx hb dX7_bound_12 (lv_at hl 4 rfl) ?_
  refine lv_iload_n hx hb dX7_bound_14 rfl (lv_at hl 3 rfl) ?_
  refine lv_isub hx hb dX7_bound_15 ?_
  refine lv_topi (fun v4 ev4 => ?_)
  obtain rfl : v4 = nI (hi - lo) := nI_minus ev4 rfl rfl (by omega)
  refine lv_iadd hx hb dX7_bound_16 ?_
  refine lv_topi (fun v5 ev5 => ?_)
  obtain rfl : v5 = nI ((c1) + (hi - lo)) := nI_plus ev5 rfl rfl
  refine xiast (f := (r 36)) (x := (nI ((c1) + (hi - lo)))) hx hb hK hP (hDD _ _) hS 30 (((28 * a) + b2)) (rfl) (by omega) (by decide) rfl dX7_bound_17 (fun H locs hP _ hS => ?_)
  have hP : PP G (mM G y b f (up2 r 36 (upd (r 36) (((28 * a) + b2)) ((nI ((c1) + (hi - lo))))))) H := hP
  have hcp1 := nOK_u (t := (28 * a) + b2) (nOK_mo hcp (show M + 0 ≤ M + 20000 by omega)) (show c1 + (hi - lo) ≤ M + 20000 by omega)
  have hk1_ : ∀ u v, u < 28 → v < 28 → cA (upd (r 36) (((28 * a) + b2)) ((nI ((c1) + (hi - lo))))) u v = cA (r 36) u v + (if u = a ∧ v = b2 then (((hi - lo) : Nat) : Int) else 0) := fun u v _ hv => cA_add (p := a) (q := b2) (by omega) ec1_ (by omega) u v hv
  refine lv_aload_n hx hb dX7_bound_18 rfl (lv_at hl 0 rfl) ?_
  refine va_get (D := G.1) (ci := 7) (v := .ref (b 36)) (C := RX7) (T := TX7) (N := 43) hx hb hts inX7 hown hK.1 hP 0 rfl rfl 36 (by decide) (hts _ mf_X7_98) (fun _ h9 => h9) rfl dX7_bound_19 ?_
  refine lv_sipush (v := 728) hx hb dX7_bound_22 (by decide) ?_
  refine lv_iload_n hx hb dX7_bound_25 rfl (lv_at hl 2 rfl) ?_
  refine lv_iadd hx hb dX7_bound_26 ?_
  refine lv_topi (fun v6 ev6 => ?_)
  obtain rfl : v6 = nI (728 + b2) := nI_plus ev6 rfl rfl
  refine lv_dup2_11 hx hb dX7_bound_27 rfl rfl ?_
  refine xiald (f := (upd (r 36) (((28 * a) + b2)) ((nI ((c1) + (hi - lo)))))) hx hb hK hP 30 ((728 + b2)) (rfl) (by omega) (by decide) rfl dX7_bound_28 ?_
  refine lv_topi (fun v7 ev7 => ?_)
  obtain ⟨c2, hc2, ec2_⟩ := hcp1 ((728 + b2)) (by omega)
  obtain rfl : v7 = nI (c2) := ev7.trans (ec2_)
  refine lv_iload_n hx hb dX7_bound_29 rfl (lv_at hl 3 rfl) ?_
  refine lv_iadd hx hb dX7_bound_30 ?_
  refine lv_topi (fun v8 ev8 => ?_)
  obtain rfl : v8 = nI ((c2) + lo) := nI_plus ev8 rfl rfl
  refine xiast (f := (upd (r 36) (((28 * a) + b2)) ((nI ((c1) + (hi - lo)))))) (x := (nI ((c2) + lo))) hx hb hK hP (hDD _ _) hS 30 ((728 + b2)) (rfl) (by omega) (by decide) rfl dX7_bound_31 (fun H locs hP _ hS => ?_)
  have hP : PP G (mM G y b f (up2 r 36 (upd (upd (r 36) (((28 * a) + b2)) ((nI ((c1) + (hi - lo))))) ((728 + b2)) ((nI ((c2) + lo)))))) H := hP
  have hcp2 := nOK_u (t := 728 + b2) (nOK_mo hcp1 (show M + 20000 ≤ M + 40000 by omega)) (show c2 + lo ≤ M + 40000 by omega)
  have hk2_ : ∀ u v, u < 28 → v < 28 → cA (upd (upd (r 36) (((28 * a) + b2)) ((nI ((c1) + (hi - lo))))) ((728 + b2)) ((nI ((c2) + lo)))) u v = cA (upd (r 36) (((28 * a) + b2)) ((nI ((c1) + (hi - lo))))) u v + (if u = 26 ∧ v = b2 then ((lo : Nat) : Int) else 0) := fun u v _ hv => cA_add (p := 26) (q := b2) (by omega) ec2_ (by omega) u v hv
  refine lv_aload_n hx hb dX7_bound_32 rfl (lv_at hl 0 rfl) ?_
  refine va_get (D := G.1) (ci := 7) (v := .ref (b 36)) (C := RX7) (T := TX7) (N := 43) hx hb hts inX7 hown hK.1 hP 0 rfl rfl 36 (by decide) (hts _ mf_X7_98) (fun _ h9 => h9) rfl dX7_bound_33 ?_
  refine lv_bipush (v := 28) hx hb dX7_bound_36 (by decide) ?_
  refine lv_iload_n hx hb dX7_bound_38 rfl (lv_at hl 1 rfl) ?_
  refine lv_imul hx hb dX7_bound_39 ?_
  refine lv_topi (fun v9 ev9 => ?_)
  obtain rfl : v9 = nI (28 * a) := nI_times ev9 rfl rfl
  refine lv_bipush (v := 27) hx hb dX7_bound_40 (by decide) ?_
  refine lv_iadd hx hb dX7_bound_42 ?_
  refine lv_topi (fun v10 ev10 => ?_)
  obtain rfl : v10 = nI ((28 * a) + 27) := nI_plus ev10 rfl rfl
  refine lv_dup2_11 hx hb dX7_bound_43 rfl rfl ?_
  refine xiald (f := (upd (upd (r 36) (((28 * a) + b2)) ((nI ((c1) + (hi - lo))))) ((728 + b2)) ((nI ((c2) + lo))))) hx hb hK hP 30 (((28 * a) + 27)) (rfl) (by omega) (by decide) rfl dX7_bound_44 ?_
  refine lv_topi (fun v11 ev11 => ?_)
  obtain ⟨c3, hc3, ec3_⟩ := hcp2 (((28 * a) + 27)) (by omega)
  obtain rfl : v11 = nI (c3) := ev11.trans (ec3_)
  refine lv_iload_n hx hb dX7_bound_45 rfl (lv_at hl 3 rfl) ?_
  refine lv_iadd hx hb dX7_bound_46 ?_
  refine lv_topi (fun v12 ev12 => ?_)
  obtain rfl : v12 = nI ((c3) + lo) := nI_plus ev12 rfl rfl
  refine xiast (f := (upd (upd (r 36) (((28 * a) + b2)) ((nI ((c1) + (hi - lo))))) ((728 + b2)) ((nI ((c2) + lo))))) (x := (nI ((c3) + lo))) hx hb hK hP (hDD _ _) hS 30 (((28 * a) + 27)) (rfl) (by omega) (by decide) rfl dX7_bound_47 (fun H locs hP _ hS => ?_)
  have hP : PP G (mM G y b f (up2 r 36 (upd (upd (upd (r 36) (((28 * a) + b2)) ((nI ((c1) + (hi - lo))))) ((728 + b2)) ((nI ((c2) + lo)))) (((28 * a) + 27)) ((nI ((c3) + lo)))))) H := hP
  have hcp3 := nOK_u (t := (28 * a) + 27) (nOK_mo hcp2 (show M + 40000 ≤ M + 60000 by omega)) (show c3 + lo ≤ M + 60000 by omega)
  have hk3_ : ∀ u v, u < 28 → v < 28 → cA (upd (upd (upd (r 36) (((28 * a) + b2)) ((nI ((c1) + (hi - lo))))) ((728 + b2)) ((nI ((c2) + lo)))) (((28 * a) + 27)) ((nI ((c3) + lo)))) u v = cA (upd (upd (r 36) (((28 * a) + b2)) ((nI ((c1) + (hi - lo))))) ((728 + b2)) ((nI ((c2) + lo)))) u v + (if u = a ∧ v = 27 then ((lo : Nat) : Int) else 0) := fun u v _ hv => cA_add (p := a) (q := 27) (by omega) ec3_ (by omega) u v hv
  exact wr_vret hx hb hr hlocks hS hP ⟨(upd (upd (upd (r 36) (((28 * a) + b2)) ((nI ((c1) + (hi - lo))))) ((728 + b2)) ((nI ((c2) + lo)))) (((28 * a) + 27)) ((nI ((c3) + lo)))), rfl, hcp3, (fun u v hu hv => by rw [hk3_ u v hu hv, hk2_ u v hu hv, hk1_ u v hu hv, show (((hi - lo : Nat)) : Int) = (hi : Int) - (lo : Int) by omega])⟩ dX7_bound_48
set_option maxHeartbeats 4000000 in
set_option maxRecDepth 100000 in
theorem n_canBe (l : Launch) (G : GG) (y : Nat) (b : Nat → Nat) (f : Nat → Int32) (r : Nat → Nat → Int32) (t : Nat) (bs : Nat) (its : Int32) (rw : Nat) (cl : Nat) (bk : Nat) (NM : Nat → Nat → Nat) (SD : Nat → Nat → Nat) (ht : t < 6) (hrw : rw ≤ 12) (hcl : cl ≤ 12) (hbk : bk ≤ 12) (h2 : (r 2) t = nI rw) (h3 : (r 3) t = nI cl) (h12 : (r 12) t = nI bk) (hb1 : 2 ≤ bs) (hb9 : bs ≤ 1000) (hnm : ∀ x y, x < rw → y < cl → (r 33) x = its → (r 6) (144 * t + 12 * x + y) = nI (NM x y) ∧ NM x y ≤ 1000000) (hsd : ∀ x y, x < rw → y < cl → (r 33) x = its → (r 31) (12 * x + y) = nI (SD x y) ∧ SD x y ≤ 2 ∧ (NM x y % bs = 0 → SD x y = 0)) : WrI l yX7_canBe cX7_canBe 10 (some .boolean) ({ frames := 2, cells := 0, slots := 0, locals := 46 }) G (mM G y b f r) [.ref y, .int (nI t), .int (nI bs), .int its] (fun q w => ∃ (n_r_36 : Nat → Int32) (n_r_37 : Nat → Int32) (n_r_38 : Nat → Int32), w = mM G y b f (up2 (up2 (up2 r 36 n_r_36) 37 n_r_37) 38 n_r_38) ∧ ((q = 1 ∧ (EXS (dmG (r 33) rw cl its) (oG (dmG (r 33) rw cl its) NM bs) SD bs)) ∨ (q = 0 ∧ ¬ (EXS (dmG (r 33) rw cl its) (oG (dmG (r 33) rw cl its) NM bs) SD bs)))) := by
  refine wr_entryI (by decide +kernel) (Nat.le_of_ble_eq_true rfl) ?_
  intro p e s m below meth c A C0 hP hK hD hA ls hl
  have hS : va_S A s.heap s.heap [] := va_S.rf
  obtain ⟨hx, hb, hml, hown, hts, hr, hlocks, hin⟩ := C0
  have hown : s.vm.findClass RX7 = some m.cls := hown
  have hDD : ∀ f' r', va_D A (mM G y b f' r') := fun f' r' => D_same hD rfl
  have hl : lv_has ls 10 [(0, .ref y), (1, .int (nI t)), (2, .int (nI bs)), (3, .int its)] := hl
  obtain ⟨NS, hNS⟩ : ∃ z9 : Nat → Nat, ∀ k, (z9 k : Int) = rS (oG (dmG (r 33) rw cl its) NM bs) k := ⟨fun k => (rS (oG (dmG (r 33) rw cl its) NM bs) k).toNat, fun k => Int.toNat_of_nonneg (rS_nn _ k)⟩
  obtain ⟨NA, hNA⟩ : ∃ z9 : Nat → Nat, ∀ k, (z9 k : Int) = rS (sG (dmG (r 33) rw cl its) SD 1) k := ⟨fun k => (rS (sG (dmG (r 33) rw cl its) SD 1) k).toNat, fun k => Int.toNat_of_nonneg (rS_nn _ k)⟩
  have hB : 0 < bs := by omega
  have hO : ∀ i j, i < 12 → j < 12 → (oG (dmG (r 33) rw cl its) NM bs) i j < bs := fun i j _ _ => oG_lt hB i j
  have hNb : ∀ k, k < 24 → NS k ≤ (bs - 1) * 12 := fun k hk => by have h8 := hNS k; have h9 := rS_b hO k hk; omega
  have hNa : ∀ k, k < 24 → NA k ≤ 12 := fun k hk => by have h8 := hNA k; have h9 := rS_b (B := 2) (O := (sG (dmG (r 33) rw cl its) SD 1)) (fun i j _ _ => by have := sG_le (dm := (dmG (r 33) rw cl its)) (SD := SD) (k := 1) i j; omega) k hk; omega
  have hOz : ∀ x y, (dmG (r 33) rw cl its) x y = false → (oG (dmG (r 33) rw cl its) NM bs) x y = 0 ∧ (sG (dmG (r 33) rw cl its) SD 1) x y = 0 ∧ (sG (dmG (r 33) rw cl its) SD 2) x y = 0 := fun x y h9 => ⟨if_neg (by rw [h9]; decide), sG_f h9, sG_f h9⟩
  have hrz : ∀ x, x < 12 → ¬ (x < rw ∧ r 33 x = its) → NS x = 0 ∧ NA x = 0 := fun x hx h9 => ⟨(row_end (k := 0) (a := 0) hx (by omega) (fun c _ _ => (hOz x c (dmG_no (fun z => h9 ⟨z.1, z.2.2⟩))).1) rfl (hNS x)).symm, (row_end (k := 0) (a := 0) hx (by omega) (fun c _ _ => (hOz x c (dmG_no (fun z => h9 ⟨z.1, z.2.2⟩))).2.1) rfl (hNA x)).symm⟩
  have hcz : ∀ y, y < 12 → ¬ y < cl → NS (12 + y) = 0 ∧ NA (12 + y) = 0 := fun y hy h9 => ⟨(col_end (k := 0) (a := 0) (by omega) (fun c _ _ => (hOz c y (dmG_no (fun z => h9 z.2.1))).1) rfl (hNS (12 + y))).symm, (col_end (k := 0) (a := 0) (by omega) (fun c _ _ => (hOz c y (dmG_no (fun z => h9 z.2.1))).2.1) rfl (hNA (12 + y))).symm⟩
  have hlh0 : ∀ n, NS n = 0 ∧ NA n = 0 → (fun k => NS k / bs - NA k) n = 0 ∧ (fun k => (NS k + bs - 1) / bs - NA k) n = 0 := fun n h9 => by show NS n / bs - NA n = 0 ∧ (NS n + bs - 1) / bs - NA n = 0; rw [h9.1, h9.2, Nat.zero_div, Nat.div_eq_of_lt (show 0 + bs - 1 < bs by omega)]; exact ⟨rfl, rfl⟩
  have hsd2 : ∀ x y, x < 12 → y < 12 → (dmG (r 33) rw cl its) x y = true → SD x y ≤ 2 ∧ (NM x y % bs = 0 → SD x y = 0) := fun x y _ _ h9 => (hsd x y (dmG_of h9).1 (dmG_of h9).2.1 (dmG_of h9).2.2).2
  refine lv_iconst (v := 0) hx hb dX7_canBe_0 (by decide) ?_
  refine lv_istore (lv' := [(4, .int 0), (0, .ref y), (1, .int (nI t)), (2, .int (nI bs)), (3, .int its)]) hx hb dX7_canBe_1 hl (by decide) rfl (fun ls hl => ?_)
  have loop3 : ∀ (k1 n1 : Nat) (x2 : Nat → Int32), n1 ≤ 784 → 784 < n1 + k1 → (∀ n, n < n1 → x2 n = 0) → ∀ (H : Heap) (locs : List Loc) (ls : Array Slot), PP G (mM G y b f (up2 r 36 x2)) H → va_S A s.heap H locs → lv_has ls 10 [(4, .int (nI n1)), (0, .ref y), (1, .int (nI t)), (2, .int (nI bs)), (3, .int its)] → W p l e ({ frames := 2, cells := 0, slots := 0, locals := 46 }) s m ([.ref y, .int (nI t), .int (nI bs), .int its] : List Value).toArray below meth c H locs 0 0 (MQ below (QwI G (fun q w => ∃ (n_r_36 : Nat → Int32) (n_r_37 : Nat → Int32) (n_r_38 : Nat → Int32), w = mM G y b f (up2 (up2 (up2 r 36 n_r_36) 37 n_r_37) 38 n_r_38) ∧ ((q = 1 ∧ (EXS (dmG (r 33) rw cl its) (oG (dmG (r 33) rw cl its) NM bs) SD bs)) ∨ (q = 0 ∧ ¬ (EXS (dmG (r 33) rw cl its) (oG (dmG (r 33) rw cl its) NM bs) SD bs)))) A) ([.ref y, .int (nI t), .int (nI bs), .int its] : List Value).toArray s 0 0 A) (F0 m 3 ls []) := by
    intro k1
    induction k1 with
    | zero => intro n1 x2 h1 h2; exact absurd h1 (by omega)
    | succ k1 ih3k1 =>
      intro n1 x2 hi_n1 hk_n1 hz H locs ls hP hS hl
      refine lv_iload hx hb dX7_canBe_3 (lv_at hl 0 rfl) ?_
      refine lv_aload_n hx hb dX7_canBe_5 rfl (lv_at hl 1 rfl) ?_
      refine va_get (D := G.1) (ci := 7) (v := .ref (b 36)) (C := RX7) (T := TX7) (N := 43) hx hb hts inX7 hown hK.1 hP 0 rfl rfl 36 (by decide) (hts _ mf_X7_98) (fun _ h9 => h9) rfl dX7_canBe_6 ?_
      refine xalen hx hb hK hP 30 rfl dX7_canBe_9 ?_
      refine lv_icmp_ge (tgt := 27) hx hb dX7_canBe_10 (by decide) (fun c3 => ?_) (fun c3 => ?_)
      · have b10 := qge_t (a := n1) (b := 784) (by omega) (by omega) c3
        have hcp : nOK 784 1 x2 := fun n hn => ⟨0, by omega, hz n (by omega)⟩
        have hnw := NW_0 (T := (sG (dmG (r 33) rw cl its) SD 2)) (lo := (fun k => NS k / bs - NA k)) (hi := (fun k => (NS k + bs - 1) / bs - NA k)) (cap := x2) (fun n hn => hz n (by omega))
        refine lv_iconst (v := 0) hx hb dX7_canBe_27 (by decide) ?_
        refine lv_istore (lv' := [(4, .int 0), (0, .ref y), (1, .int (nI t)), (2, .int (nI bs)), (3, .int its)]) hx hb dX7_canBe_28 hl (by decide) rfl (fun ls hl => ?_)
        refine lv_iconst (v := 0) hx hb dX7_canBe_30 (by decide) ?_
        refine lv_istore (lv' := [(5, .int 0), (4, .int 0), (0, .ref y), (1, .int (nI t)), (2, .int (nI bs)), (3, .int its)]) hx hb dX7_canBe_31 hl (by decide) rfl (fun ls hl => ?_)
        have loop33 : ∀ (k4 r1 : Nat) (wn : Nat) (x6 : Nat → Int32), r1 ≤ rw → rw < r1 + k4 → (nOK 784 (1 + 60000 * r1) x6) → (∀ u v, u < 28 → v < 28 → cA x6 u v = nW 0 (mkO (sG (dmG (r 33) rw cl its) SD 2) (12 * r1)) (mk9 (fun k => NS k / bs - NA k) r1) (mk9 (fun k => (NS k + bs - 1) / bs - NA k) r1) u v) → ((wn : Int) = (SR (mk9 (fun k => NS k / bs - NA k) r1) + SC (mk9 (fun k => NS k / bs - NA k) r1))) → (∀ k, k < r1 → NA k ≤ (NS k + bs - 1) / bs) → ∀ (H : Heap) (locs : List Loc) (ls : Array Slot), PP G (mM G y b f (up2 r 36 x6)) H → va_S A s.heap H locs → lv_has ls 10 [(5, .int (nI r1)), (4, .int (nI wn)), (0, .ref y), (1, .int (nI t)), (2, .int (nI bs)), (3, .int its)] → W p l e ({ frames := 2, cells := 0, slots := 0, locals := 46 }) s m ([.ref y, .int (nI t), .int (nI bs), .int its] : List Value).toArray below meth c H locs 0 0 (MQ below (QwI G (fun q w => ∃ (n_r_36 : Nat → Int32) (n_r_37 : Nat → Int32) (n_r_38 : Nat → Int32), w = mM G y b f (up2 (up2 (up2 r 36 n_r_36) 37 n_r_37) 38 n_r_38) ∧ ((q = 1 ∧ (EXS (dmG (r 33) rw cl its) (oG (dmG (r 33) rw cl its) NM bs) SD bs)) ∨ (q = 0 ∧ ¬ (EXS (dmG (r 33) rw cl its) (oG (dmG (r 33) rw cl its) NM bs) SD bs)))) A) ([.ref y, .int (nI t), .int (nI bs), .int its] : List Value).toArray s 0 0 A) (F0 m 33 ls []) := by
          intro k4
          induction k4 with
          | zero => intro r1 wn x6 h1 h2; exact absurd h1 (by omega)
          | succ k4 ih33k4 =>
            intro r1 wn x6 hi_r1 hk_r1 hcp hnw hwn hck H locs ls hP hS hl
            refine lv_iload hx hb dX7_canBe_33 (lv_at hl 0 rfl) ?_
            refine lv_aload_n hx hb dX7_canBe_35 rfl (lv_at hl 2 rfl) ?_
            refine va_get (D := G.1) (ci := 7) (v := .ref (b 2)) (C := RX7) (T := TX7) (N := 43) hx hb hts inX7 hown hK.1 hP 0 rfl rfl 2 (by decide) (hts _ mf_X7_13) (fun _ h9 => h9) rfl dX7_canBe_36 ?_
            refine lv_iload_n hx hb dX7_canBe_39 rfl (lv_at hl 3 rfl) ?_
            refine xiald (f := (r 2)) hx hb hK hP 2 (t) (rfl) (by omega) (by decide) rfl dX7_canBe_40 ?_
            refine lv_topi (fun v7 ev7 => ?_)
            obtain rfl : v7 = nI (rw) := ev7.trans (h2)
            refine lv_icmp_ge (tgt := 221) hx hb dX7_canBe_41 (by decide) (fun c8 => ?_) (fun c8 => ?_)
            · have b41 := qge_t (a := r1) (b := (rw)) (by omega) (by omega) c8
              have hlz : ∀ n, rw ≤ n → n < 12 → (fun k => NS k / bs - NA k) n = 0 ∧ (fun k => (NS k + bs - 1) / bs - NA k) n = 0 := fun n h8 h9 => hlh0 n (hrz n h9 (fun z => absurd z.1 (by omega)))
              have hmk : ∀ A : Nat → Nat, (∀ n, rw ≤ n → n < 12 → A n = 0) → ∀ n, mk9 A (12 + 0) n = mk9 A r1 n := fun A hA n => mk9_to (by omega) (fun n h8 h9 => hA n (by omega) (by omega)) n
              have hnw0 : ∀ u v, u < 28 → v < 28 → cA x6 u v = nW 0 (mkO (sG (dmG (r 33) rw cl its) SD 2) (12 * rw)) (mk9 (fun k => NS k / bs - NA k) (12 + 0)) (mk9 (fun k => (NS k + bs - 1) / bs - NA k) (12 + 0)) u v := fun u v hu hv => by rw [hnw u v hu hv]; exact (nW_c (fun i j _ _ => by rw [show rw = r1 by omega]) (fun n _ => ⟨hmk _ (fun n h8 h9 => (hlz n h8 h9).1) n, hmk _ (fun n h8 h9 => (hlz n h8 h9).2) n⟩) u v).symm
              have hwn0 : (wn : Int) = (SR (mk9 (fun k => NS k / bs - NA k) (12 + 0)) + SC (mk9 (fun k => NS k / bs - NA k) (12 + 0))) := by rw [hwn, show SR (mk9 (fun k => NS k / bs - NA k) (12 + 0)) = SR (mk9 (fun k => NS k / bs - NA k) r1) from sumI_c 12 (fun k _ => congrArg _ (hmk _ (fun n h8 h9 => (hlz n h8 h9).1) k)), show SC (mk9 (fun k => NS k / bs - NA k) (12 + 0)) = SC (mk9 (fun k => NS k / bs - NA k) r1) from sumI_c 12 (fun k _ => congrArg _ (hmk _ (fun n h8 h9 => (hlz n h8 h9).1) (12 + k)))]
              have hck0 : ∀ k, k < 12 + 0 → NA k ≤ (NS k + bs - 1) / bs := fun k hk => if c9 : k < r1 then hck k c9 else (by have h9 := hrz k (by omega) (fun z => absurd z.1 (by omega)); rw [h9.2]; exact Nat.zero_le _)
              refine lv_iconst (v := 0) hx hb dX7_canBe_221 (by decide) ?_
              refine lv_istore (lv' := [(5, .int 0), (4, .int (nI wn)), (0, .ref y), (1, .int (nI t)), (2, .int (nI bs)), (3, .int its)]) hx hb dX7_canBe_222 hl (by decide) rfl (fun ls hl => ?_)
              have loop224 : ∀ (k9 k1 : Nat) (wn : Nat) (x11 : Nat → Int32), k1 ≤ cl → cl < k1 + k9 → (nOK 784 (1 + 60000 * rw + 60000 * k1) x11) → (∀ u v, u < 28 → v < 28 → cA x11 u v = nW 0 (mkO (sG (dmG (r 33) rw cl its) SD 2) (12 * rw)) (mk9 (fun k => NS k / bs - NA k) (12 + k1)) (mk9 (fun k => (NS k + bs - 1) / bs - NA k) (12 + k1)) u v) → ((wn : Int) = (SR (mk9 (fun k => NS k / bs - NA k) (12 + k1)) + SC (mk9 (fun k => NS k / bs - NA k) (12 + k1)))) → (∀ k, k < 12 + k1 → NA k ≤ (NS k + bs - 1) / bs) → ∀ (H : Heap) (locs : List Loc) (ls : Array Slot), PP G (mM G y b f (up2 r 36 x11)) H → va_S A s.heap H locs → lv_has ls 10 [(5, .int (nI k1)), (4, .int (nI wn)), (0, .ref y), (1, .int (nI t)), (2, .int (nI bs)), (3, .int its)] → W p l e ({ frames := 2, cells := 0, slots := 0, locals := 46 }) s m ([.ref y, .int (nI t), .int (nI bs), .int its] : List Value).toArray below meth c H locs 0 0 (MQ below (QwI G (fun q w => ∃ (n_r_36 : Nat → Int32) (n_r_37 : Nat → Int32) (n_r_38 : Nat → Int32), w = mM G y b f (up2 (up2 (up2 r 36 n_r_36) 37 n_r_37) 38 n_r_38) ∧ ((q = 1 ∧ (EXS (dmG (r 33) rw cl its) (oG (dmG (r 33) rw cl its) NM bs) SD bs)) ∨ (q = 0 ∧ ¬ (EXS (dmG (r 33) rw cl its) (oG (dmG (r 33) rw cl its) NM bs) SD bs)))) A) ([.ref y, .int (nI t), .int (nI bs), .int its] : List Value).toArray s 0 0 A) (F0 m 224 ls []) := by
                intro k9
                induction k9 with
                | zero => intro k1 wn x11 h1 h2; exact absurd h1 (by omega)
                | succ k9 ih224k9 =>
                  intro k1 wn x11 hi_k1 hk_k1 hcp hnw hwn hck H locs ls hP hS hl
                  refine lv_iload hx hb dX7_canBe_224 (lv_at hl 0 rfl) ?_
                  refine lv_aload_n hx hb dX7_canBe_226 rfl (lv_at hl 2 rfl) ?_
                  refine va_get (D := G.1) (ci := 7) (v := .ref (b 3)) (C := RX7) (T := TX7) (N := 43) hx hb hts inX7 hown hK.1 hP 0 rfl rfl 3 (by decide) (hts _ mf_X7_17) (fun _ h9 => h9) rfl dX7_canBe_227 ?_
                  refine lv_iload_n hx hb dX7_canBe_230 rfl (lv_at hl 3 rfl) ?_
                  refine xiald (f := (r 3)) hx hb hK hP 3 (t) (rfl) (by omega) (by decide) rfl dX7_canBe_231 ?_
                  refine lv_topi (fun v12 ev12 => ?_)
                  obtain rfl : v12 = nI (cl) := ev12.trans (h3)
                  refine lv_icmp_ge (tgt := 383) hx hb dX7_canBe_232 (by decide) (fun c13 => ?_) (fun c13 => ?_)
                  · have b232 := qge_t (a := k1) (b := (cl)) (by omega) (by omega) c13
                    have hck2 : ∀ k, k < 24 → NA k ≤ (NS k + bs - 1) / bs := fun k hk => if c9 : k < 12 + k1 then hck k c9 else (by have h9 := hcz (k - 12) (by omega) (by omega); rw [show 12 + (k - 12) = k by omega] at h9; rw [h9.2]; exact Nat.zero_le _)
                    have hmk : ∀ A : Nat → Nat, (∀ n, 12 + k1 ≤ n → n < 24 → A n = 0) → ∀ n, n < 24 → A n = mk9 A (12 + k1) n := fun A hA n hn => mk9_up (fun n h8 h9 => hA n h8 h9) n hn
                    have hlz : ∀ n, 12 + k1 ≤ n → n < 24 → (fun k => NS k / bs - NA k) n = 0 ∧ (fun k => (NS k + bs - 1) / bs - NA k) n = 0 := fun n h8 h9 => hlh0 n (by have h7 := hcz (n - 12) (by omega) (by omega); rw [show 12 + (n - 12) = n by omega] at h7; exact h7)
                    have hnm9 := NW_M (T := (sG (dmG (r 33) rw cl its) SD 2)) (lo := (fun k => NS k / bs - NA k)) (hi := (fun k => (NS k + bs - 1) / bs - NA k)) (fun i j hi hj => (mkO_all (fun x y hx hy h9 => (hOz x y (dmG_no (fun z => absurd z.1 (by omega)))).2.2) i j hi hj).symm) (fun n hn => ⟨hmk _ (fun n h8 h9 => (hlz n h8 h9).1) n hn, hmk _ (fun n h8 h9 => (hlz n h8 h9).2) n hn⟩) hnw
                    have hwn9 : (wn : Int) = SR (fun k => NS k / bs - NA k) + SC (fun k => NS k / bs - NA k) := by rw [hwn, show SR (fun k => NS k / bs - NA k) = SR (mk9 (fun k => NS k / bs - NA k) (12 + k1)) from sumI_c 12 (fun k hk => congrArg _ (hmk _ (fun n h8 h9 => (hlz n h8 h9).1) k (by omega))), show SC (fun k => NS k / bs - NA k) = SC (mk9 (fun k => NS k / bs - NA k) (12 + k1)) from sumI_c 12 (fun k hk => congrArg _ (hmk _ (fun n h8 h9 => (hlz n h8 h9).1) (12 + k) (by omega)))]
                    have hwb : wn ≤ 1000000 := by have h8 := SRC_b (lo := (fun k => NS k / bs - NA k)) (fun n hn => Nat.le_trans (Nat.sub_le _ _) (Nat.le_trans (fl_3 (hNb n hn) hB) (show 11 ≤ 1000 by omega))); omega
                    refine lv_aload_n hx hb dX7_canBe_383 rfl (lv_at hl 2 rfl) ?_
                    refine va_get (D := G.1) (ci := 7) (v := .ref (b 36)) (C := RX7) (T := TX7) (N := 43) hx hb hts inX7 hown hK.1 hP 0 rfl rfl 36 (by decide) (hts _ mf_X7_98) (fun _ h9 => h9) rfl dX7_canBe_384 ?_
                    refine lv_sipush (v := 724) hx hb dX7_canBe_387 (by decide) ?_
                    refine lv_ldc hx hb hown (hts _ mk_X7_195) dX7_canBe_390 ?_
                    refine xiast (f := x11) (x := 1000000000) hx hb hK hP (hDD _ _) hS 30 (724) (rfl) (by omega) (by decide) rfl dX7_canBe_392 (fun H locs hP _ hS => ?_)
                    have hP : PP G (mM G y b f (up2 r 36 (upd x11 (724) (1000000000)))) H := hP
                    refine lv_aload_n hx hb dX7_canBe_393 rfl (lv_at hl 2 rfl) ?_
                    refine wrVIa (rest := []) (q0 := 0) ⟨hx, hb, hml, hown, hts⟩ (n_flow l G y b f (up2 r 36 (upd x11 (724) (1000000000)))   (capOK_of hcp (by omega))) mi_yX7_flow mv_yX7_flow ml_X7_261 ⟨rfl, rfl, Nat.le_of_ble_eq_true rfl, Nat.le_of_ble_eq_true rfl⟩ hK hP (hDD _ _) rfl rfl rfl hl.1 rfl (Nat.le_of_ble_eq_true rfl) dX7_canBe_394 ⟨Nat.zero_le _, Nat.zero_le _⟩ hS hA (fun r14 w15 H locs hw15 hP hS => ?_)
                    obtain ⟨x16, x17, x18, rfl, hw15r⟩ := hw15
                    have hP : PP G (mM G y b f (up2 (up2 (up2 r 36 x16) 37 x17) 38 x18)) H := hP
                    have hw15r : FLX (upd x11 (724) (1000000000)) x16 r14 := hw15r
                    refine lv_iload hx hb dX7_canBe_397 (lv_at hl 1 rfl) ?_
                    refine lv_icmp_ne (tgt := 406) hx hb dX7_canBe_399 (by decide) (fun c19 => ?_) (fun c19 => ?_)
                    · refine lv_iconst (v := 0) hx hb dX7_canBe_406 (by decide) ?_
                      exact wr_zret hx hb hr hlocks (Or.inl rfl) hS hP ⟨x16, x17, x18, rfl, (Or.inr ⟨rfl, fun z9 => c19 (((net_iff (by omega) hnm9 (fun i j _ _ => sG_le i j) (fun n hn => Nat.sub_le_sub_right (fl_5 (NS n) hB) (NA n)) hwn9 hwb hw15r).trans (EX_iff hB hsd2 (fun k _ => hNS k) (fun k _ => hNA k) hck2)).mpr z9)⟩)⟩ dX7_canBe_407
                    · refine lv_iconst (v := 1) hx hb dX7_canBe_402 (by decide) ?_
                      refine lv_goto (tgt := 407) hx hb dX7_canBe_403 (by decide) ?_
                      exact wr_zret hx hb hr hlocks (Or.inr rfl) hS hP ⟨x16, x17, x18, rfl, (Or.inl ⟨rfl, ((net_iff (by omega) hnm9 (fun i j _ _ => sG_le i j) (fun n hn => Nat.sub_le_sub_right (fl_5 (NS n) hB) (NA n)) hwn9 hwb hw15r).trans (EX_iff hB hsd2 (fun k _ => hNS k) (fun k _ => hNA k) hck2)).mp c19⟩)⟩ dX7_canBe_407
                  · have b232 := qge_f (a := k1) (b := (cl)) (by omega) (by omega) c13
                    refine lv_iconst (v := 0) hx hb dX7_canBe_235 (by decide) ?_
                    refine lv_istore (lv' := [(6, .int 0), (5, .int (nI k1)), (4, .int (nI wn)), (0, .ref y), (1, .int (nI t)), (2, .int (nI bs)), (3, .int its)]) hx hb dX7_canBe_236 hl (by decide) rfl (fun ls hl => ?_)
                    refine lv_iconst (v := 0) hx hb dX7_canBe_238 (by decide) ?_
                    refine lv_istore (lv' := [(7, .int 0), (6, .int 0), (5, .int (nI k1)), (4, .int (nI wn)), (0, .ref y), (1, .int (nI t)), (2, .int (nI bs)), (3, .int its)]) hx hb dX7_canBe_239 hl (by decide) rfl (fun ls hl => ?_)
                    refine lv_iconst (v := 0) hx hb dX7_canBe_241 (by decide) ?_
                    refine lv_istore (lv' := [(8, .int 0), (7, .int 0), (6, .int 0), (5, .int (nI k1)), (4, .int (nI wn)), (0, .ref y), (1, .int (nI t)), (2, .int (nI bs)), (3, .int its)]) hx hb dX7_canBe_242 hl (by decide) rfl (fun ls hl => ?_)
                    have loop244 : ∀ (k20 r2 : Nat) (ab : Nat) (al : Nat), r2 ≤ rw → rw < r2 + k20 → (ab ≤ r2) → (al ≤ 1000 * r2) → ((al : Int) = sumI r2 (fun c => ((oG (dmG (r 33) rw cl its) NM bs) c k1 : Int))) → ((ab : Int) = sumI r2 (fun c => ((sG (dmG (r 33) rw cl its) SD 1) c k1 : Int))) → ∀ (H : Heap) (locs : List Loc) (ls : Array Slot), PP G (mM G y b f (up2 r 36 x11)) H → va_S A s.heap H locs → lv_has ls 10 [(8, .int (nI r2)), (7, .int (nI ab)), (6, .int (nI al)), (5, .int (nI k1)), (4, .int (nI wn)), (0, .ref y), (1, .int (nI t)), (2, .int (nI bs)), (3, .int its)] → W p l e ({ frames := 2, cells := 0, slots := 0, locals := 46 }) s m ([.ref y, .int (nI t), .int (nI bs), .int its] : List Value).toArray below meth c H locs 0 0 (MQ below (QwI G (fun q w => ∃ (n_r_36 : Nat → Int32) (n_r_37 : Nat → Int32) (n_r_38 : Nat → Int32), w = mM G y b f (up2 (up2 (up2 r 36 n_r_36) 37 n_r_37) 38 n_r_38) ∧ ((q = 1 ∧ (EXS (dmG (r 33) rw cl its) (oG (dmG (r 33) rw cl its) NM bs) SD bs)) ∨ (q = 0 ∧ ¬ (EXS (dmG (r 33) rw cl its) (oG (dmG (r 33) rw cl its) NM bs) SD bs)))) A) ([.ref y, .int (nI t), .int (nI bs), .int its] : List Value).toArray s 0 0 A) (F0 m 244 ls []) := by
                      intro k20
                      induction k20 with
                      | zero => intro r2 ab al h1 h2; exact absurd h1 (by omega)
                      | succ k20 ih244k20 =>
                        intro r2 ab al hi_r2 hk_r2 gab gal hall hab H locs ls hP hS hl
                        refine lv_iload hx hb dX7_canBe_244 (lv_at hl 0 rfl) ?_
                        refine lv_aload_n hx hb dX7_canBe_246 rfl (lv_at hl 5 rfl) ?_
                        refine va_get (D := G.1) (ci := 7) (v := .ref (b 2)) (C := RX7) (T := TX7) (N := 43) hx hb hts inX7 hown hK.1 hP 0 rfl rfl 2 (by decide) (hts _ mf_X7_13) (fun _ h9 => h9) rfl dX7_canBe_247 ?_
                        refine lv_iload_n hx hb dX7_canBe_250 rfl (lv_at hl 6 rfl) ?_
                        refine xiald (f := (r 2)) hx hb hK hP 2 (t) (rfl) (by omega) (by decide) rfl dX7_canBe_251 ?_
                        refine lv_topi (fun v23 ev23 => ?_)
                        obtain rfl : v23 = nI (rw) := ev23.trans (h2)
                        refine lv_icmp_ge (tgt := 322) hx hb dX7_canBe_252 (by decide) (fun c24 => ?_) (fun c24 => ?_)
                        · have b252 := qge_t (a := r2) (b := (rw)) (by omega) (by omega) c24
                          have eal := col_end (k := r2) (by omega) (fun c h8 _ => (hOz c k1 (dmG_no (fun z => absurd z.1 (by omega)))).1) hall (hNS (12 + k1))
                          have eab := col_end (k := r2) (by omega) (fun c h8 _ => (hOz c k1 (dmG_no (fun z => absurd z.1 (by omega)))).2.1) hab (hNA (12 + k1))
                          have hb_1 := hNb (12 + k1) (by omega)
                          have hb_2 := hNa (12 + k1) (by omega)
                          have hb_3 := fl_4 hb_1 hB
                          have hb_4 := fl_5 (NS (12 + k1)) hB
                          rw [← eal] at hb_1 hb_3 hb_4
                          rw [← eab] at hb_2
                          refine lv_iconst (v := 0) hx hb dX7_canBe_322 (by decide) ?_
                          refine lv_iload hx hb dX7_canBe_323 (lv_at hl 2 rfl) ?_
                          refine lv_iload_n hx hb dX7_canBe_325 rfl (lv_at hl 7 rfl) ?_
                          refine lv_idiv hx hb dX7_canBe_326 (nI_ne0 (by omega) (by omega)) ?_
                          refine lv_topi (fun v25 ev25 => ?_)
                          obtain rfl : v25 = nI (al / bs) := nI_quo ev25 rfl rfl (by omega) (by omega) (by omega)
                          refine lv_iload hx hb dX7_canBe_327 (lv_at hl 1 rfl) ?_
                          refine lv_isub hx hb dX7_canBe_329 ?_
                          refine lv_topi (fun v26 ev26 => ?_)
                          refine va_mmax hx hb (hml.trans hl.1.symm) hown (hts _ ml_X7_254) (hts _ mst_yJ9_max_7cf53) (hts _ mz_RJ9) (hts _ mcode_yJ9_max_7cf53) (Nat.le_of_ble_eq_true rfl) (Nat.le_of_ble_eq_true rfl) (Nat.zero_le _) (Nat.zero_le _) dX7_canBe_330 ?_
                          refine lv_topi (fun v27 ev27 => ?_)
                          refine lv_istore (lv' := [(8, .int v27), (7, .int (nI ab)), (6, .int (nI al)), (5, .int (nI k1)), (4, .int (nI wn)), (0, .ref y), (1, .int (nI t)), (2, .int (nI bs)), (3, .int its)]) hx hb dX7_canBe_333 hl (by decide) rfl (fun ls hl => ?_)
                          refine lv_iload hx hb dX7_canBe_335 (lv_at hl 2 rfl) ?_
                          refine lv_iload_n hx hb dX7_canBe_337 rfl (lv_at hl 7 rfl) ?_
                          refine lv_iadd hx hb dX7_canBe_338 ?_
                          refine lv_topi (fun v28 ev28 => ?_)
                          obtain rfl : v28 = nI (al + bs) := nI_plus ev28 rfl rfl
                          refine lv_iconst (v := 1) hx hb dX7_canBe_339 (by decide) ?_
                          refine lv_isub hx hb dX7_canBe_340 ?_
                          refine lv_topi (fun v29 ev29 => ?_)
                          obtain rfl : v29 = nI ((al + bs) - 1) := nI_minus ev29 rfl rfl (by omega)
                          refine lv_iload_n hx hb dX7_canBe_341 rfl (lv_at hl 7 rfl) ?_
                          refine lv_idiv hx hb dX7_canBe_342 (nI_ne0 (by omega) (by omega)) ?_
                          refine lv_topi (fun v30 ev30 => ?_)
                          obtain rfl : v30 = nI (((al + bs) - 1) / bs) := nI_quo ev30 rfl rfl (by omega) (by omega) (by omega)
                          refine lv_iload hx hb dX7_canBe_343 (lv_at hl 1 rfl) ?_
                          refine lv_isub hx hb dX7_canBe_345 ?_
                          refine lv_topi (fun v31 ev31 => ?_)
                          refine lv_istore (lv' := [(9, .int v31), (8, .int v27), (7, .int (nI ab)), (6, .int (nI al)), (5, .int (nI k1)), (4, .int (nI wn)), (0, .ref y), (1, .int (nI t)), (2, .int (nI bs)), (3, .int its)]) hx hb dX7_canBe_346 hl (by decide) rfl (fun ls hl => ?_)
                          refine lv_iload hx hb dX7_canBe_348 (lv_at hl 0 rfl) ?_
                          refine lv_if_ge (tgt := 355) hx hb dX7_canBe_350 (by decide) (fun c32 => ?_) (fun c32 => ?_)
                          · have h7g := ge_sub (p := (al + bs - 1) / bs) (q := ab) (by omega) (by omega) ev31
                            obtain rfl : v27 = nI (al / bs - ab) := mx_sub (by omega) (by omega) ev26 ev27
                            obtain ⟨hge9, e7_⟩ := h7g.1 c32
                            subst e7_
                            have hlh9 : al / bs - ab ≤ (al + bs - 1) / bs - ab := Nat.sub_le_sub_right hb_4 ab
                            have hck9 : NA (12 + k1) ≤ (NS (12 + k1) + bs - 1) / bs := by rw [← eal, ← eab]; exact hge9
                            refine lv_aload_n hx hb dX7_canBe_355 rfl (lv_at hl 6 rfl) ?_
                            refine lv_bipush (v := 12) hx hb dX7_canBe_356 (by decide) ?_
                            refine lv_iload hx hb dX7_canBe_358 (lv_at hl 4 rfl) ?_
                            refine lv_iadd hx hb dX7_canBe_360 ?_
                            refine lv_topi (fun v33 ev33 => ?_)
                            obtain rfl : v33 = nI (12 + k1) := nI_plus ev33 rfl rfl
                            refine lv_bipush (v := 25) hx hb dX7_canBe_361 (by decide) ?_
                            refine lv_iload hx hb dX7_canBe_363 (lv_at hl 1 rfl) ?_
                            refine lv_iload hx hb dX7_canBe_365 (lv_at hl 0 rfl) ?_
                            refine wrVVa (rest := []) (q0 := 0) ⟨hx, hb, hml, hown, hts⟩ (n_bound l G y b f (up2 r 36 x11) (12 + k1) 25 (al / bs - ab) ((al + bs - 1) / bs - ab) (1 + 60000 * rw + 60000 * k1) (by omega) (by omega) hlh9 (by omega) (by omega) hcp) mi_yX7_bound mv_yX7_bound ml_X7_257 ⟨rfl, rfl, Nat.le_of_ble_eq_true rfl, Nat.le_of_ble_eq_true rfl⟩ hK hP (hDD _ _) rfl rfl rfl hl.1 rfl (Nat.le_of_ble_eq_true rfl) dX7_canBe_367 ⟨Nat.zero_le _, Nat.zero_le _⟩ hS hA (fun w35 H locs hw35 hP hS => ?_)
                            obtain ⟨x36, rfl, hcp, hbc⟩ := hw35
                            have hP : PP G (mM G y b f (up2 r 36 x36)) H := hP
                            have hcp : nOK 784 ((1 + 60000 * rw + 60000 * k1) + 60000) x36 := hcp
                            have hbc : ∀ u v, u < 28 → v < 28 → cA x36 u v = cA x11 u v + (if u = (12 + k1) ∧ v = 25 then ((((al + bs - 1) / bs - ab) : Nat) : Int) - (((al / bs - ab) : Nat) : Int) else 0) + (if u = 26 ∧ v = 25 then (((al / bs - ab) : Nat) : Int) else 0) + (if u = (12 + k1) ∧ v = 27 then (((al / bs - ab) : Nat) : Int) else 0) := hbc
                            refine lv_iload hx hb dX7_canBe_370 (lv_at hl 5 rfl) ?_
                            refine lv_iload hx hb dX7_canBe_372 (lv_at hl 1 rfl) ?_
                            refine lv_iadd hx hb dX7_canBe_374 ?_
                            refine lv_topi (fun v37 ev37 => ?_)
                            obtain rfl : v37 = nI (wn + (al / bs - ab)) := nI_plus ev37 rfl rfl
                            refine lv_istore (lv' := [(4, .int (nI (wn + (al / bs - ab)))), (9, .int (nI ((al + bs - 1) / bs - ab))), (8, .int (nI (al / bs - ab))), (7, .int (nI ab)), (6, .int (nI al)), (5, .int (nI k1)), (0, .ref y), (1, .int (nI t)), (2, .int (nI bs)), (3, .int its)]) hx hb dX7_canBe_375 hl (by decide) rfl (fun ls hl => ?_)
                            obtain ⟨v38, ev38⟩ : ∃ y9 : Int32, y9 = (nI k1) + Int32.ofInt (1) := ⟨_, rfl⟩
                            refine lv_iinc (v := v38) (lv' := [(5, .int v38), (4, .int (nI (wn + (al / bs - ab)))), (9, .int (nI ((al + bs - 1) / bs - ab))), (8, .int (nI (al / bs - ab))), (7, .int (nI ab)), (6, .int (nI al)), (0, .ref y), (1, .int (nI t)), (2, .int (nI bs)), (3, .int its)]) hx hb dX7_canBe_377 hl (k := 5) rfl ev38.symm (by decide) rfl (fun ls hl => ?_)
                            obtain rfl : v38 = nI (k1 + 1) := nI_plus (i := k1) (j := 1) ev38 rfl (by decide)
                            refine lv_goto (tgt := 224) hx hb dX7_canBe_380 (by decide) ?_
                            exact ih224k9 (k1 + 1) (wn + (al / bs - ab)) x36 (by omega) (by omega) (nOK_mo hcp (by omega)) (NW_col (by omega) (show NS (12 + k1) / bs - NA (12 + k1) = al / bs - ab by rw [eal, eab]) (show (NS (12 + k1) + bs - 1) / bs - NA (12 + k1) = (al + bs - 1) / bs - ab by rw [eal, eab]) hnw hbc) (by rw [show 12 + (k1 + 1) = 12 + k1 + 1 from rfl, (SC_s (show k1 < 12 by omega)).1, (SC_s (show k1 < 12 by omega)).2, show (((fun k => NS k / bs - NA k) (12 + k1) : Nat) : Int) = ((al / bs - ab : Nat) : Int) from congrArg _ (show NS (12 + k1) / bs - NA (12 + k1) = al / bs - ab by rw [eal, eab])]; omega) (fun k hk => if c9 : k = 12 + k1 then (by rw [c9]; exact hck9) else hck k (by omega)) _ _ _ hP hS (lv_sub hl [0, 1, 6, 7, 8, 9] rfl)
                          · have h7g := ge_sub (p := (al + bs - 1) / bs) (q := ab) (by omega) (by omega) ev31
                            have hbad := EX_no (SD := SD) hB (show (12 + k1) < 24 by omega) (fun k _ => hNS k) (fun k _ => hNA k) (by rw [← eal, ← eab]; exact h7g.2 (fun z9 => c32 z9))
                            refine lv_iconst (v := 0) hx hb dX7_canBe_353 (by decide) ?_
                            exact wr_zret hx hb hr hlocks (Or.inl rfl) hS hP ⟨x11, (r 37), (r 38), rfl, (Or.inr ⟨rfl, hbad⟩)⟩ dX7_canBe_354
                        · have b252 := qge_f (a := r2) (b := (rw)) (by omega) (by omega) c24
                          refine lv_aload_n hx hb dX7_canBe_255 rfl (lv_at hl 5 rfl) ?_
                          refine va_get (D := G.1) (ci := 7) (v := .ref (b 33)) (C := RX7) (T := TX7) (N := 43) hx hb hts inX7 hown hK.1 hP 0 rfl rfl 33 (by decide) (hts _ mf_X7_95) (fun _ h9 => h9) rfl dX7_canBe_256 ?_
                          refine lv_iload hx hb dX7_canBe_259 (lv_at hl 0 rfl) ?_
                          refine xiald (f := (r 33)) hx hb hK hP 29 (r2) (rfl) (by omega) (by decide) rfl dX7_canBe_261 ?_
                          refine lv_topi (fun v39 ev39 => ?_)
                          refine lv_iload_n hx hb dX7_canBe_262 rfl (lv_at hl 8 rfl) ?_
                          refine lv_icmp_eq (tgt := 269) hx hb dX7_canBe_263 (by decide) (fun c40 => ?_) (fun c40 => ?_)
                          · have hgr : r 33 r2 = its := by rw [← ev39]; exact c40
                            obtain ⟨qa, qb⟩ := hnm r2 k1 (by omega) (by omega) hgr
                            obtain ⟨qc, qd, qe⟩ := hsd r2 k1 (by omega) (by omega) hgr
                            have hdm9 := dmG_mk (gr := r 33) (its := its) (show r2 < rw by omega) (show k1 < cl by omega) hgr
                            have hoe : (oG (dmG (r 33) rw cl its) NM bs) r2 k1 = NM r2 k1 % bs := if_pos hdm9
                            have hml9 := Nat.mod_lt (NM r2 k1) hB
                            refine lv_iload hx hb dX7_canBe_269 (lv_at hl 2 rfl) ?_
                            refine lv_aload_n hx hb dX7_canBe_271 rfl (lv_at hl 5 rfl) ?_
                            refine va_get (D := G.1) (ci := 7) (v := .ref (b 6)) (C := RX7) (T := TX7) (N := 43) hx hb hts inX7 hown hK.1 hP 0 rfl rfl 6 (by decide) (hts _ mf_X7_26) (fun _ h9 => h9) rfl dX7_canBe_272 ?_
                            refine lv_iload_n hx hb dX7_canBe_275 rfl (lv_at hl 6 rfl) ?_
                            refine lv_iload hx hb dX7_canBe_276 (lv_at hl 0 rfl) ?_
                            refine lv_iload hx hb dX7_canBe_278 (lv_at hl 3 rfl) ?_
                            refine rdS (rest := [.ref (b 6), .int (nI al)]) ⟨hx, hb, hml, hown, hts⟩ (m_X7_at l G y b f (up2 r 36 x11) t r2 k1  ) mi_yX7_at mst_yX7_at ml_X7_147 ⟨rfl, rfl, Nat.le_of_ble_eq_true rfl, Nat.le_of_ble_eq_true rfl⟩ hK (hP) rfl hl.1 rfl (Nat.le_of_ble_eq_true rfl) dX7_canBe_280 ⟨Nat.zero_le _, Nat.zero_le _⟩ hS hA hP (fun r41 H locs hr41 hP hS => ?_)
                            obtain rfl := hr41
                            refine xiald (f := (r 6)) hx hb hK hP 6 ((144 * t + 12 * r2 + k1)) (rfl) (by omega) (by decide) rfl dX7_canBe_283 ?_
                            refine lv_topi (fun v42 ev42 => ?_)
                            obtain rfl : v42 = nI ((NM r2 k1)) := ev42.trans (qa)
                            refine lv_iload_n hx hb dX7_canBe_284 rfl (lv_at hl 7 rfl) ?_
                            refine lv_irem hx hb dX7_canBe_285 (nI_ne0 (by omega) (by omega)) ?_
                            refine lv_topi (fun v43 ev43 => ?_)
                            obtain rfl : v43 = nI (((NM r2 k1)) % bs) := nI_mod ev43 rfl rfl (by omega) (by omega) (by omega)
                            refine lv_iadd hx hb dX7_canBe_286 ?_
                            refine lv_topi (fun v44 ev44 => ?_)
                            obtain rfl : v44 = nI (al + (((NM r2 k1)) % bs)) := nI_plus ev44 rfl rfl
                            refine lv_istore (lv' := [(6, .int (nI (al + (((NM r2 k1)) % bs)))), (8, .int (nI r2)), (7, .int (nI ab)), (5, .int (nI k1)), (4, .int (nI wn)), (0, .ref y), (1, .int (nI t)), (2, .int (nI bs)), (3, .int its)]) hx hb dX7_canBe_287 hl (by decide) rfl (fun ls hl => ?_)
                            refine lv_iload hx hb dX7_canBe_289 (lv_at hl 2 rfl) ?_
                            refine lv_aload_n hx hb dX7_canBe_291 rfl (lv_at hl 5 rfl) ?_
                            refine va_get (D := G.1) (ci := 7) (v := .ref (b 31)) (C := RX7) (T := TX7) (N := 43) hx hb hts inX7 hown hK.1 hP 0 rfl rfl 31 (by decide) (hts _ mf_X7_89) (fun _ h9 => h9) rfl dX7_canBe_292 ?_
                            refine lv_bipush (v := 12) hx hb dX7_canBe_295 (by decide) ?_
                            refine lv_iload hx hb dX7_canBe_297 (lv_at hl 1 rfl) ?_
                            refine lv_imul hx hb dX7_canBe_299 ?_
                            refine lv_topi (fun v45 ev45 => ?_)
                            obtain rfl : v45 = nI (12 * r2) := nI_times ev45 rfl rfl
                            refine lv_iload hx hb dX7_canBe_300 (lv_at hl 3 rfl) ?_
                            refine lv_iadd hx hb dX7_canBe_302 ?_
                            refine lv_topi (fun v46 ev46 => ?_)
                            obtain rfl : v46 = nI ((12 * r2) + k1) := nI_plus ev46 rfl rfl
                            refine xiald (f := (r 31)) hx hb hK hP 27 (((12 * r2) + k1)) (rfl) (by omega) (by decide) rfl dX7_canBe_303 ?_
                            refine lv_topi (fun v47 ev47 => ?_)
                            obtain rfl : v47 = nI ((SD r2 k1)) := ev47.trans (qc)
                            refine lv_iconst (v := 1) hx hb dX7_canBe_304 (by decide) ?_
                            refine lv_icmp_ne (tgt := 312) hx hb dX7_canBe_305 (by decide) (fun c48 => ?_) (fun c48 => ?_)
                            · have b305 := qeq_f (a := ((SD r2 k1))) (b := 1) (by omega) (by omega) c48
                              have ha1 : (sG (dmG (r 33) rw cl its) SD 1) r2 k1 = 0 := sG_n b305
                              refine lv_iconst (v := 0) hx hb dX7_canBe_312 (by decide) ?_
                              refine lv_iadd hx hb dX7_canBe_313 ?_
                              refine lv_topi (fun v49 ev49 => ?_)
                              obtain rfl : v49 = nI (ab + 0) := nI_plus ev49 rfl rfl
                              refine lv_istore (lv' := [(7, .int (nI (ab + 0))), (6, .int (nI (al + (((NM r2 k1)) % bs)))), (8, .int (nI r2)), (5, .int (nI k1)), (4, .int (nI wn)), (0, .ref y), (1, .int (nI t)), (2, .int (nI bs)), (3, .int its)]) hx hb dX7_canBe_314 hl (by decide) rfl (fun ls hl => ?_)
                              obtain ⟨v50, ev50⟩ : ∃ y9 : Int32, y9 = (nI r2) + Int32.ofInt (1) := ⟨_, rfl⟩
                              refine lv_iinc (v := v50) (lv' := [(8, .int v50), (7, .int (nI (ab + 0))), (6, .int (nI (al + (((NM r2 k1)) % bs)))), (5, .int (nI k1)), (4, .int (nI wn)), (0, .ref y), (1, .int (nI t)), (2, .int (nI bs)), (3, .int its)]) hx hb dX7_canBe_316 hl (k := 2) rfl ev50.symm (by decide) rfl (fun ls hl => ?_)
                              obtain rfl : v50 = nI (r2 + 1) := nI_plus (i := r2) (j := 1) ev50 rfl (by decide)
                              refine lv_goto (tgt := 244) hx hb dX7_canBe_319 (by decide) ?_
                              exact ih244k20 (r2 + 1) (ab + 0) (al + (((NM r2 k1)) % bs)) (by omega) (by omega) (by omega) (by omega) (by show ((al + NM r2 k1 % bs : Nat) : Int) = sumI r2 (fun c => ((oG (dmG (r 33) rw cl its) NM bs) c k1 : Int)) + ((oG (dmG (r 33) rw cl its) NM bs) r2 k1 : Int); rw [← hall, hoe]; omega) (by show ((ab + 0 : Nat) : Int) = sumI r2 (fun c => ((sG (dmG (r 33) rw cl its) SD 1) c k1 : Int)) + ((sG (dmG (r 33) rw cl its) SD 1) r2 k1 : Int); rw [← hab, ha1]; omega) _ _ _ hP hS (lv_sub hl [0, 1, 2, 3, 4, 5, 6, 7, 8] rfl)
                            · have b305 := qeq_t (a := ((SD r2 k1))) (b := 1) (by omega) (by omega) c48
                              have ha1 : (sG (dmG (r 33) rw cl its) SD 1) r2 k1 = 1 := sG_t hdm9 b305
                              refine lv_iconst (v := 1) hx hb dX7_canBe_308 (by decide) ?_
                              refine lv_goto (tgt := 313) hx hb dX7_canBe_309 (by decide) ?_
                              refine lv_iadd hx hb dX7_canBe_313 ?_
                              refine lv_topi (fun v51 ev51 => ?_)
                              obtain rfl : v51 = nI (ab + 1) := nI_plus ev51 rfl rfl
                              refine lv_istore (lv' := [(7, .int (nI (ab + 1))), (6, .int (nI (al + (((NM r2 k1)) % bs)))), (8, .int (nI r2)), (5, .int (nI k1)), (4, .int (nI wn)), (0, .ref y), (1, .int (nI t)), (2, .int (nI bs)), (3, .int its)]) hx hb dX7_canBe_314 hl (by decide) rfl (fun ls hl => ?_)
                              obtain ⟨v52, ev52⟩ : ∃ y9 : Int32, y9 = (nI r2) + Int32.ofInt (1) := ⟨_, rfl⟩
                              refine lv_iinc (v := v52) (lv' := [(8, .int v52), (7, .int (nI (ab + 1))), (6, .int (nI (al + (((NM r2 k1)) % bs)))), (5, .int (nI k1)), (4, .int (nI wn)), (0, .ref y), (1, .int (nI t)), (2, .int (nI bs)), (3, .int its)]) hx hb dX7_canBe_316 hl (k := 2) rfl ev52.symm (by decide) rfl (fun ls hl => ?_)
                              obtain rfl : v52 = nI (r2 + 1) := nI_plus (i := r2) (j := 1) ev52 rfl (by decide)
                              refine lv_goto (tgt := 244) hx hb dX7_canBe_319 (by decide) ?_
                              exact ih244k20 (r2 + 1) (ab + 1) (al + (((NM r2 k1)) % bs)) (by omega) (by omega) (by omega) (by omega) (by show ((al + NM r2 k1 % bs : Nat) : Int) = sumI r2 (fun c => ((oG (dmG (r 33) rw cl its) NM bs) c k1 : Int)) + ((oG (dmG (r 33) rw cl its) NM bs) r2 k1 : Int); rw [← hall, hoe]; omega) (by show ((ab + 1 : Nat) : Int) = sumI r2 (fun c => ((sG (dmG (r 33) rw cl its) SD 1) c k1 : Int)) + ((sG (dmG (r 33) rw cl its) SD 1) r2 k1 : Int); rw [← hab, ha1]; omega) _ _ _ hP hS (lv_sub hl [0, 1, 2, 3, 4, 5, 6, 7, 8] rfl)
                          · have hgr : ¬ r 33 r2 = its := by rw [← ev39]; exact c40
                            refine lv_goto (tgt := 316) hx hb dX7_canBe_266 (by decide) ?_
                            obtain ⟨v53, ev53⟩ : ∃ y9 : Int32, y9 = (nI r2) + Int32.ofInt (1) := ⟨_, rfl⟩
                            refine lv_iinc (v := v53) (lv' := [(8, .int v53), (7, .int (nI ab)), (6, .int (nI al)), (5, .int (nI k1)), (4, .int (nI wn)), (0, .ref y), (1, .int (nI t)), (2, .int (nI bs)), (3, .int its)]) hx hb dX7_canBe_316 hl (k := 0) rfl ev53.symm (by decide) rfl (fun ls hl => ?_)
                            obtain rfl : v53 = nI (r2 + 1) := nI_plus (i := r2) (j := 1) ev53 rfl (by decide)
                            refine lv_goto (tgt := 244) hx hb dX7_canBe_319 (by decide) ?_
                            exact ih244k20 (r2 + 1) ab al (by omega) (by omega) (by omega) (by omega) (by show (al : Int) = sumI r2 (fun c => ((oG (dmG (r 33) rw cl its) NM bs) c k1 : Int)) + ((oG (dmG (r 33) rw cl its) NM bs) r2 k1 : Int); rw [← hall, (hOz r2 k1 (dmG_no (fun z => hgr z.2.2))).1]; omega) (by show (ab : Int) = sumI r2 (fun c => ((sG (dmG (r 33) rw cl its) SD 1) c k1 : Int)) + ((sG (dmG (r 33) rw cl its) SD 1) r2 k1 : Int); rw [← hab, (hOz r2 k1 (dmG_no (fun z => hgr z.2.2))).2.1]; omega) _ _ _ hP hS (lv_sub hl [0, 1, 2, 3, 4, 5, 6, 7, 8] rfl)
                    exact loop244 (rw + 1) 0 0 0 (by omega) (by omega) (by omega) (by omega) (rfl) (rfl) _ _ _ hP hS (lv_sub hl [0, 1, 2, 3, 4, 5, 6, 7, 8] rfl)
              exact loop224 (cl + 1) 0 wn x6 (by omega) (by omega) (nOK_mo hcp (by omega)) (hnw0) (hwn0) (hck0) _ _ _ hP hS (lv_sub hl [0, 1, 2, 3, 4, 5] rfl)
            · have b41 := qge_f (a := r1) (b := (rw)) (by omega) (by omega) c8
              refine lv_aload_n hx hb dX7_canBe_44 rfl (lv_at hl 2 rfl) ?_
              refine va_get (D := G.1) (ci := 7) (v := .ref (b 33)) (C := RX7) (T := TX7) (N := 43) hx hb hts inX7 hown hK.1 hP 0 rfl rfl 33 (by decide) (hts _ mf_X7_95) (fun _ h9 => h9) rfl dX7_canBe_45 ?_
              refine lv_iload hx hb dX7_canBe_48 (lv_at hl 0 rfl) ?_
              refine xiald (f := (r 33)) hx hb hK hP 29 (r1) (rfl) (by omega) (by decide) rfl dX7_canBe_50 ?_
              refine lv_topi (fun v54 ev54 => ?_)
              refine lv_iload_n hx hb dX7_canBe_51 rfl (lv_at hl 5 rfl) ?_
              refine lv_icmp_eq (tgt := 58) hx hb dX7_canBe_52 (by decide) (fun c55 => ?_) (fun c55 => ?_)
              · have hgr : r 33 r1 = its := by rw [← ev54]; exact c55
                refine lv_iconst (v := 0) hx hb dX7_canBe_58 (by decide) ?_
                refine lv_istore (lv' := [(6, .int 0), (5, .int (nI r1)), (4, .int (nI wn)), (0, .ref y), (1, .int (nI t)), (2, .int (nI bs)), (3, .int its)]) hx hb dX7_canBe_59 hl (by decide) rfl (fun ls hl => ?_)
                refine lv_iconst (v := 0) hx hb dX7_canBe_61 (by decide) ?_
                refine lv_istore (lv' := [(7, .int 0), (6, .int 0), (5, .int (nI r1)), (4, .int (nI wn)), (0, .ref y), (1, .int (nI t)), (2, .int (nI bs)), (3, .int its)]) hx hb dX7_canBe_62 hl (by decide) rfl (fun ls hl => ?_)
                refine lv_iconst (v := 0) hx hb dX7_canBe_64 (by decide) ?_
                refine lv_istore (lv' := [(8, .int 0), (7, .int 0), (6, .int 0), (5, .int (nI r1)), (4, .int (nI wn)), (0, .ref y), (1, .int (nI t)), (2, .int (nI bs)), (3, .int its)]) hx hb dX7_canBe_65 hl (by decide) rfl (fun ls hl => ?_)
                have loop67 : ∀ (k56 k1 : Nat) (ab : Nat) (al : Nat) (x59 : Nat → Int32), k1 ≤ cl → cl < k1 + k56 → (ab ≤ k1) → (al ≤ 1000 * k1) → ((al : Int) = sumI k1 (fun c => ((oG (dmG (r 33) rw cl its) NM bs) r1 c : Int))) → ((ab : Int) = sumI k1 (fun c => ((sG (dmG (r 33) rw cl its) SD 1) r1 c : Int))) → (∀ u v, u < 28 → v < 28 → cA x59 u v = nW 0 (mkO (sG (dmG (r 33) rw cl its) SD 2) (12 * r1 + k1)) (mk9 (fun k => NS k / bs - NA k) r1) (mk9 (fun k => (NS k + bs - 1) / bs - NA k) r1) u v) → (nOK 784 (1 + 60000 * r1) x59) → ∀ (H : Heap) (locs : List Loc) (ls : Array Slot), PP G (mM G y b f (up2 r 36 x59)) H → va_S A s.heap H locs → lv_has ls 10 [(8, .int (nI k1)), (7, .int (nI ab)), (6, .int (nI al)), (5, .int (nI r1)), (4, .int (nI wn)), (0, .ref y), (1, .int (nI t)), (2, .int (nI bs)), (3, .int its)] → W p l e ({ frames := 2, cells := 0, slots := 0, locals := 46 }) s m ([.ref y, .int (nI t), .int (nI bs), .int its] : List Value).toArray below meth c H locs 0 0 (MQ below (QwI G (fun q w => ∃ (n_r_36 : Nat → Int32) (n_r_37 : Nat → Int32) (n_r_38 : Nat → Int32), w = mM G y b f (up2 (up2 (up2 r 36 n_r_36) 37 n_r_37) 38 n_r_38) ∧ ((q = 1 ∧ (EXS (dmG (r 33) rw cl its) (oG (dmG (r 33) rw cl its) NM bs) SD bs)) ∨ (q = 0 ∧ ¬ (EXS (dmG (r 33) rw cl its) (oG (dmG (r 33) rw cl its) NM bs) SD bs)))) A) ([.ref y, .int (nI t), .int (nI bs), .int its] : List Value).toArray s 0 0 A) (F0 m 67 ls []) := by
                  intro k56
                  induction k56 with
                  | zero => intro k1 ab al x59 h1 h2; exact absurd h1 (by omega)
                  | succ k56 ih67k56 =>
                    intro k1 ab al x59 hi_k1 hk_k1 gab gal hall hab hnw hcp H locs ls hP hS hl
                    refine lv_iload hx hb dX7_canBe_67 (lv_at hl 0 rfl) ?_
                    refine lv_aload_n hx hb dX7_canBe_69 rfl (lv_at hl 5 rfl) ?_
                    refine va_get (D := G.1) (ci := 7) (v := .ref (b 3)) (C := RX7) (T := TX7) (N := 43) hx hb hts inX7 hown hK.1 hP 0 rfl rfl 3 (by decide) (hts _ mf_X7_17) (fun _ h9 => h9) rfl dX7_canBe_70 ?_
                    refine lv_iload_n hx hb dX7_canBe_73 rfl (lv_at hl 6 rfl) ?_
                    refine xiald (f := (r 3)) hx hb hK hP 3 (t) (rfl) (by omega) (by decide) rfl dX7_canBe_74 ?_
                    refine lv_topi (fun v60 ev60 => ?_)
                    obtain rfl : v60 = nI (cl) := ev60.trans (h3)
                    refine lv_icmp_ge (tgt := 163) hx hb dX7_canBe_75 (by decide) (fun c61 => ?_) (fun c61 => ?_)
                    · have b75 := qge_t (a := k1) (b := (cl)) (by omega) (by omega) c61
                      have eal := row_end (k := k1) (show r1 < 12 by omega) (by omega) (fun c h8 _ => (hOz r1 c (dmG_no (fun z => absurd z.2.1 (by omega)))).1) hall (hNS r1)
                      have eab := row_end (k := k1) (show r1 < 12 by omega) (by omega) (fun c h8 _ => (hOz r1 c (dmG_no (fun z => absurd z.2.1 (by omega)))).2.1) hab (hNA r1)
                      have hb_1 := hNb r1 (by omega)
                      have hb_2 := hNa r1 (by omega)
                      have hb_3 := fl_4 hb_1 hB
                      have hb_4 := fl_5 (NS r1) hB
                      rw [← eal] at hb_1 hb_3 hb_4
                      rw [← eab] at hb_2
                      refine lv_iconst (v := 0) hx hb dX7_canBe_163 (by decide) ?_
                      refine lv_iload hx hb dX7_canBe_164 (lv_at hl 2 rfl) ?_
                      refine lv_iload_n hx hb dX7_canBe_166 rfl (lv_at hl 7 rfl) ?_
                      refine lv_idiv hx hb dX7_canBe_167 (nI_ne0 (by omega) (by omega)) ?_
                      refine lv_topi (fun v62 ev62 => ?_)
                      obtain rfl : v62 = nI (al / bs) := nI_quo ev62 rfl rfl (by omega) (by omega) (by omega)
                      refine lv_iload hx hb dX7_canBe_168 (lv_at hl 1 rfl) ?_
                      refine lv_isub hx hb dX7_canBe_170 ?_
                      refine lv_topi (fun v63 ev63 => ?_)
                      refine va_mmax hx hb (hml.trans hl.1.symm) hown (hts _ ml_X7_254) (hts _ mst_yJ9_max_7cf53) (hts _ mz_RJ9) (hts _ mcode_yJ9_max_7cf53) (Nat.le_of_ble_eq_true rfl) (Nat.le_of_ble_eq_true rfl) (Nat.zero_le _) (Nat.zero_le _) dX7_canBe_171 ?_
                      refine lv_topi (fun v64 ev64 => ?_)
                      refine lv_istore (lv' := [(8, .int v64), (7, .int (nI ab)), (6, .int (nI al)), (5, .int (nI r1)), (4, .int (nI wn)), (0, .ref y), (1, .int (nI t)), (2, .int (nI bs)), (3, .int its)]) hx hb dX7_canBe_174 hl (by decide) rfl (fun ls hl => ?_)
                      refine lv_iload hx hb dX7_canBe_176 (lv_at hl 2 rfl) ?_
                      refine lv_iload_n hx hb dX7_canBe_178 rfl (lv_at hl 7 rfl) ?_
                      refine lv_iadd hx hb dX7_canBe_179 ?_
                      refine lv_topi (fun v65 ev65 => ?_)
                      obtain rfl : v65 = nI (al + bs) := nI_plus ev65 rfl rfl
                      refine lv_iconst (v := 1) hx hb dX7_canBe_180 (by decide) ?_
                      refine lv_isub hx hb dX7_canBe_181 ?_
                      refine lv_topi (fun v66 ev66 => ?_)
                      obtain rfl : v66 = nI ((al + bs) - 1) := nI_minus ev66 rfl rfl (by omega)
                      refine lv_iload_n hx hb dX7_canBe_182 rfl (lv_at hl 7 rfl) ?_
                      refine lv_idiv hx hb dX7_canBe_183 (nI_ne0 (by omega) (by omega)) ?_
                      refine lv_topi (fun v67 ev67 => ?_)
                      obtain rfl : v67 = nI (((al + bs) - 1) / bs) := nI_quo ev67 rfl rfl (by omega) (by omega) (by omega)
                      refine lv_iload hx hb dX7_canBe_184 (lv_at hl 1 rfl) ?_
                      refine lv_isub hx hb dX7_canBe_186 ?_
                      refine lv_topi (fun v68 ev68 => ?_)
                      refine lv_istore (lv' := [(9, .int v68), (8, .int v64), (7, .int (nI ab)), (6, .int (nI al)), (5, .int (nI r1)), (4, .int (nI wn)), (0, .ref y), (1, .int (nI t)), (2, .int (nI bs)), (3, .int its)]) hx hb dX7_canBe_187 hl (by decide) rfl (fun ls hl => ?_)
                      refine lv_iload hx hb dX7_canBe_189 (lv_at hl 0 rfl) ?_
                      refine lv_if_ge (tgt := 196) hx hb dX7_canBe_191 (by decide) (fun c69 => ?_) (fun c69 => ?_)
                      · have h7g := ge_sub (p := (al + bs - 1) / bs) (q := ab) (by omega) (by omega) ev68
                        obtain rfl : v64 = nI (al / bs - ab) := mx_sub (by omega) (by omega) ev63 ev64
                        obtain ⟨hge9, e7_⟩ := h7g.1 c69
                        subst e7_
                        have hlh9 : al / bs - ab ≤ (al + bs - 1) / bs - ab := Nat.sub_le_sub_right hb_4 ab
                        have hck9 : NA r1 ≤ (NS r1 + bs - 1) / bs := by rw [← eal, ← eab]; exact hge9
                        refine lv_aload_n hx hb dX7_canBe_196 rfl (lv_at hl 6 rfl) ?_
                        refine lv_bipush (v := 24) hx hb dX7_canBe_197 (by decide) ?_
                        refine lv_iload hx hb dX7_canBe_199 (lv_at hl 4 rfl) ?_
                        refine lv_iload hx hb dX7_canBe_201 (lv_at hl 1 rfl) ?_
                        refine lv_iload hx hb dX7_canBe_203 (lv_at hl 0 rfl) ?_
                        refine wrVVa (rest := []) (q0 := 0) ⟨hx, hb, hml, hown, hts⟩ (n_bound l G y b f (up2 r 36 x59) 24 r1 (al / bs - ab) ((al + bs - 1) / bs - ab) (1 + 60000 * r1) (by omega) (by omega) hlh9 (by omega) (by omega) hcp) mi_yX7_bound mv_yX7_bound ml_X7_257 ⟨rfl, rfl, Nat.le_of_ble_eq_true rfl, Nat.le_of_ble_eq_true rfl⟩ hK hP (hDD _ _) rfl rfl rfl hl.1 rfl (Nat.le_of_ble_eq_true rfl) dX7_canBe_205 ⟨Nat.zero_le _, Nat.zero_le _⟩ hS hA (fun w71 H locs hw71 hP hS => ?_)
                        obtain ⟨x72, rfl, hcp, hbc⟩ := hw71
                        have hP : PP G (mM G y b f (up2 r 36 x72)) H := hP
                        have hcp : nOK 784 ((1 + 60000 * r1) + 60000) x72 := hcp
                        have hbc : ∀ u v, u < 28 → v < 28 → cA x72 u v = cA x59 u v + (if u = 24 ∧ v = r1 then ((((al + bs - 1) / bs - ab) : Nat) : Int) - (((al / bs - ab) : Nat) : Int) else 0) + (if u = 26 ∧ v = r1 then (((al / bs - ab) : Nat) : Int) else 0) + (if u = 24 ∧ v = 27 then (((al / bs - ab) : Nat) : Int) else 0) := hbc
                        refine lv_iload hx hb dX7_canBe_208 (lv_at hl 5 rfl) ?_
                        refine lv_iload hx hb dX7_canBe_210 (lv_at hl 1 rfl) ?_
                        refine lv_iadd hx hb dX7_canBe_212 ?_
                        refine lv_topi (fun v73 ev73 => ?_)
                        obtain rfl : v73 = nI (wn + (al / bs - ab)) := nI_plus ev73 rfl rfl
                        refine lv_istore (lv' := [(4, .int (nI (wn + (al / bs - ab)))), (9, .int (nI ((al + bs - 1) / bs - ab))), (8, .int (nI (al / bs - ab))), (7, .int (nI ab)), (6, .int (nI al)), (5, .int (nI r1)), (0, .ref y), (1, .int (nI t)), (2, .int (nI bs)), (3, .int its)]) hx hb dX7_canBe_213 hl (by decide) rfl (fun ls hl => ?_)
                        obtain ⟨v74, ev74⟩ : ∃ y9 : Int32, y9 = (nI r1) + Int32.ofInt (1) := ⟨_, rfl⟩
                        refine lv_iinc (v := v74) (lv' := [(5, .int v74), (4, .int (nI (wn + (al / bs - ab)))), (9, .int (nI ((al + bs - 1) / bs - ab))), (8, .int (nI (al / bs - ab))), (7, .int (nI ab)), (6, .int (nI al)), (0, .ref y), (1, .int (nI t)), (2, .int (nI bs)), (3, .int its)]) hx hb dX7_canBe_215 hl (k := 5) rfl ev74.symm (by decide) rfl (fun ls hl => ?_)
                        obtain rfl : v74 = nI (r1 + 1) := nI_plus (i := r1) (j := 1) ev74 rfl (by decide)
                        refine lv_goto (tgt := 33) hx hb dX7_canBe_218 (by decide) ?_
                        exact ih33k4 (r1 + 1) (wn + (al / bs - ab)) x72 (by omega) (by omega) (nOK_mo hcp (by omega)) (NW_row (k := k1) (by omega) (by omega) (fun y h8 _ => (hOz r1 y (dmG_no (fun z => absurd z.2.1 (by omega)))).2.2) (show NS r1 / bs - NA r1 = al / bs - ab by rw [eal, eab]) (show (NS r1 + bs - 1) / bs - NA r1 = (al + bs - 1) / bs - ab by rw [eal, eab]) hnw hbc) (by rw [(SR_s (show r1 < 12 by omega)).1, (SR_s (show r1 < 12 by omega)).2, show (((fun k => NS k / bs - NA k) r1 : Nat) : Int) = ((al / bs - ab : Nat) : Int) from congrArg _ (show NS r1 / bs - NA r1 = al / bs - ab by rw [eal, eab])]; omega) (fun k hk => if c9 : k = r1 then (by rw [c9]; exact hck9) else hck k (by omega)) _ _ _ hP hS (lv_sub hl [0, 1, 6, 7, 8, 9] rfl)
                      · have h7g := ge_sub (p := (al + bs - 1) / bs) (q := ab) (by omega) (by omega) ev68
                        have hbad := EX_no (SD := SD) hB (show r1 < 24 by omega) (fun k _ => hNS k) (fun k _ => hNA k) (by rw [← eal, ← eab]; exact h7g.2 (fun z9 => c69 z9))
                        refine lv_iconst (v := 0) hx hb dX7_canBe_194 (by decide) ?_
                        exact wr_zret hx hb hr hlocks (Or.inl rfl) hS hP ⟨x59, (r 37), (r 38), rfl, (Or.inr ⟨rfl, hbad⟩)⟩ dX7_canBe_195
                    · have b75 := qge_f (a := k1) (b := (cl)) (by omega) (by omega) c61
                      obtain ⟨qa, qb⟩ := hnm r1 k1 (by omega) (by omega) hgr
                      obtain ⟨qc, qd, qe⟩ := hsd r1 k1 (by omega) (by omega) hgr
                      have hdm9 := dmG_mk (gr := r 33) (its := its) (show r1 < rw by omega) (show k1 < cl by omega) hgr
                      have hoe : (oG (dmG (r 33) rw cl its) NM bs) r1 k1 = NM r1 k1 % bs := if_pos hdm9
                      have hml9 := Nat.mod_lt (NM r1 k1) hB
                      refine lv_bipush (v := 12) hx hb dX7_canBe_78 (by decide) ?_
                      refine lv_iload hx hb dX7_canBe_80 (lv_at hl 3 rfl) ?_
                      refine lv_imul hx hb dX7_canBe_82 ?_
                      refine lv_topi (fun v75 ev75 => ?_)
                      obtain rfl : v75 = nI (12 * r1) := nI_times ev75 rfl rfl
                      refine lv_iload hx hb dX7_canBe_83 (lv_at hl 0 rfl) ?_
                      refine lv_iadd hx hb dX7_canBe_85 ?_
                      refine lv_topi (fun v76 ev76 => ?_)
                      obtain rfl : v76 = nI ((12 * r1) + k1) := nI_plus ev76 rfl rfl
                      refine lv_istore (lv' := [(9, .int (nI ((12 * r1) + k1))), (8, .int (nI k1)), (7, .int (nI ab)), (6, .int (nI al)), (5, .int (nI r1)), (4, .int (nI wn)), (0, .ref y), (1, .int (nI t)), (2, .int (nI bs)), (3, .int its)]) hx hb dX7_canBe_86 hl (by decide) rfl (fun ls hl => ?_)
                      refine lv_iload hx hb dX7_canBe_88 (lv_at hl 3 rfl) ?_
                      refine lv_aload_n hx hb dX7_canBe_90 rfl (lv_at hl 6 rfl) ?_
                      refine va_get (D := G.1) (ci := 7) (v := .ref (b 6)) (C := RX7) (T := TX7) (N := 43) hx hb hts inX7 hown hK.1 hP 0 rfl rfl 6 (by decide) (hts _ mf_X7_26) (fun _ h9 => h9) rfl dX7_canBe_91 ?_
                      refine lv_iload_n hx hb dX7_canBe_94 rfl (lv_at hl 7 rfl) ?_
                      refine lv_iload hx hb dX7_canBe_95 (lv_at hl 4 rfl) ?_
                      refine lv_iload hx hb dX7_canBe_97 (lv_at hl 1 rfl) ?_
                      refine rdS (rest := [.ref (b 6), .int (nI al)]) ⟨hx, hb, hml, hown, hts⟩ (m_X7_at l G y b f (up2 r 36 x59) t r1 k1  ) mi_yX7_at mst_yX7_at ml_X7_147 ⟨rfl, rfl, Nat.le_of_ble_eq_true rfl, Nat.le_of_ble_eq_true rfl⟩ hK (hP) rfl hl.1 rfl (Nat.le_of_ble_eq_true rfl) dX7_canBe_99 ⟨Nat.zero_le _, Nat.zero_le _⟩ hS hA hP (fun r77 H locs hr77 hP hS => ?_)
                      obtain rfl := hr77
                      refine xiald (f := (r 6)) hx hb hK hP 6 ((144 * t + 12 * r1 + k1)) (rfl) (by omega) (by decide) rfl dX7_canBe_102 ?_
                      refine lv_topi (fun v78 ev78 => ?_)
                      obtain rfl : v78 = nI ((NM r1 k1)) := ev78.trans (qa)
                      refine lv_iload_n hx hb dX7_canBe_103 rfl (lv_at hl 8 rfl) ?_
                      refine lv_irem hx hb dX7_canBe_104 (nI_ne0 (by omega) (by omega)) ?_
                      refine lv_topi (fun v79 ev79 => ?_)
                      obtain rfl : v79 = nI (((NM r1 k1)) % bs) := nI_mod ev79 rfl rfl (by omega) (by omega) (by omega)
                      refine lv_iadd hx hb dX7_canBe_105 ?_
                      refine lv_topi (fun v80 ev80 => ?_)
                      obtain rfl : v80 = nI (al + (((NM r1 k1)) % bs)) := nI_plus ev80 rfl rfl
                      refine lv_istore (lv' := [(6, .int (nI (al + (((NM r1 k1)) % bs)))), (9, .int (nI ((12 * r1) + k1))), (8, .int (nI k1)), (7, .int (nI ab)), (5, .int (nI r1)), (4, .int (nI wn)), (0, .ref y), (1, .int (nI t)), (2, .int (nI bs)), (3, .int its)]) hx hb dX7_canBe_106 hl (by decide) rfl (fun ls hl => ?_)
                      refine lv_iload hx hb dX7_canBe_108 (lv_at hl 3 rfl) ?_
                      refine lv_aload_n hx hb dX7_canBe_110 rfl (lv_at hl 6 rfl) ?_
                      refine va_get (D := G.1) (ci := 7) (v := .ref (b 31)) (C := RX7) (T := TX7) (N := 43) hx hb hts inX7 hown hK.1 hP 0 rfl rfl 31 (by decide) (hts _ mf_X7_89) (fun _ h9 => h9) rfl dX7_canBe_111 ?_
                      refine lv_iload hx hb dX7_canBe_114 (lv_at hl 1 rfl) ?_
                      refine xiald (f := (r 31)) hx hb hK hP 27 (((12 * r1) + k1)) (rfl) (by omega) (by decide) rfl dX7_canBe_116 ?_
                      refine lv_topi (fun v81 ev81 => ?_)
                      obtain rfl : v81 = nI ((SD r1 k1)) := ev81.trans (qc)
                      refine lv_iconst (v := 1) hx hb dX7_canBe_117 (by decide) ?_
                      refine lv_icmp_ne (tgt := 125) hx hb dX7_canBe_118 (by decide) (fun c82 => ?_) (fun c82 => ?_)
                      · have b118 := qeq_f (a := ((SD r1 k1))) (b := 1) (by omega) (by omega) c82
                        have ha1 : (sG (dmG (r 33) rw cl its) SD 1) r1 k1 = 0 := sG_n b118
                        refine lv_iconst (v := 0) hx hb dX7_canBe_125 (by decide) ?_
                        refine lv_iadd hx hb dX7_canBe_126 ?_
                        refine lv_topi (fun v83 ev83 => ?_)
                        obtain rfl : v83 = nI (ab + 0) := nI_plus ev83 rfl rfl
                        refine lv_istore (lv' := [(7, .int (nI (ab + 0))), (6, .int (nI (al + (((NM r1 k1)) % bs)))), (9, .int (nI ((12 * r1) + k1))), (8, .int (nI k1)), (5, .int (nI r1)), (4, .int (nI wn)), (0, .ref y), (1, .int (nI t)), (2, .int (nI bs)), (3, .int its)]) hx hb dX7_canBe_127 hl (by decide) rfl (fun ls hl => ?_)
                        refine lv_aload_n hx hb dX7_canBe_129 rfl (lv_at hl 6 rfl) ?_
                        refine va_get (D := G.1) (ci := 7) (v := .ref (b 31)) (C := RX7) (T := TX7) (N := 43) hx hb hts inX7 hown hK.1 hP 0 rfl rfl 31 (by decide) (hts _ mf_X7_89) (fun _ h9 => h9) rfl dX7_canBe_130 ?_
                        refine lv_iload hx hb dX7_canBe_133 (lv_at hl 2 rfl) ?_
                        refine xiald (f := (r 31)) hx hb hK hP 27 (((12 * r1) + k1)) (rfl) (by omega) (by decide) rfl dX7_canBe_135 ?_
                        refine lv_topi (fun v84 ev84 => ?_)
                        obtain rfl : v84 = nI ((SD r1 k1)) := ev84.trans (qc)
                        refine lv_iconst (v := 2) hx hb dX7_canBe_136 (by decide) ?_
                        refine lv_icmp_ne (tgt := 157) hx hb dX7_canBe_137 (by decide) (fun c85 => ?_) (fun c85 => ?_)
                        · have b137 := qeq_f (a := ((SD r1 k1))) (b := 2) (by omega) (by omega) c85
                          have ht1 : (sG (dmG (r 33) rw cl its) SD 2) r1 k1 = 0 := sG_n b137
                          obtain ⟨v86, ev86⟩ : ∃ y9 : Int32, y9 = (nI k1) + Int32.ofInt (1) := ⟨_, rfl⟩
                          refine lv_iinc (v := v86) (lv' := [(8, .int v86), (7, .int (nI (ab + 0))), (6, .int (nI (al + (((NM r1 k1)) % bs)))), (9, .int (nI ((12 * r1) + k1))), (5, .int (nI r1)), (4, .int (nI wn)), (0, .ref y), (1, .int (nI t)), (2, .int (nI bs)), (3, .int its)]) hx hb dX7_canBe_157 hl (k := 3) rfl ev86.symm (by decide) rfl (fun ls hl => ?_)
                          obtain rfl : v86 = nI (k1 + 1) := nI_plus (i := k1) (j := 1) ev86 rfl (by decide)
                          refine lv_goto (tgt := 67) hx hb dX7_canBe_160 (by decide) ?_
                          exact ih67k56 (k1 + 1) (ab + 0) (al + (((NM r1 k1)) % bs)) x59 (by omega) (by omega) (by omega) (by omega) (by show ((al + NM r1 k1 % bs : Nat) : Int) = sumI k1 (fun c => ((oG (dmG (r 33) rw cl its) NM bs) r1 c : Int)) + ((oG (dmG (r 33) rw cl its) NM bs) r1 k1 : Int); rw [← hall, hoe]; omega) (by show ((ab + 0 : Nat) : Int) = sumI k1 (fun c => ((sG (dmG (r 33) rw cl its) SD 1) r1 c : Int)) + ((sG (dmG (r 33) rw cl its) SD 1) r1 k1 : Int); rw [← hab, ha1]; omega) (NW_t0 (by omega) (by omega) ht1 hnw) (hcp) _ _ _ hP hS (lv_sub hl [0, 1, 2, 4, 5, 6, 7, 8, 9] rfl)
                        · have b137 := qeq_t (a := ((SD r1 k1))) (b := 2) (by omega) (by omega) c85
                          have ht1 : (sG (dmG (r 33) rw cl its) SD 2) r1 k1 = 1 := sG_t hdm9 b137
                          refine lv_aload_n hx hb dX7_canBe_140 rfl (lv_at hl 6 rfl) ?_
                          refine va_get (D := G.1) (ci := 7) (v := .ref (b 36)) (C := RX7) (T := TX7) (N := 43) hx hb hts inX7 hown hK.1 hP 0 rfl rfl 36 (by decide) (hts _ mf_X7_98) (fun _ h9 => h9) rfl dX7_canBe_141 ?_
                          refine lv_bipush (v := 28) hx hb dX7_canBe_144 (by decide) ?_
                          refine lv_iload hx hb dX7_canBe_146 (lv_at hl 4 rfl) ?_
                          refine lv_imul hx hb dX7_canBe_148 ?_
                          refine lv_topi (fun v87 ev87 => ?_)
                          obtain rfl : v87 = nI (28 * r1) := nI_times ev87 rfl rfl
                          refine lv_bipush (v := 12) hx hb dX7_canBe_149 (by decide) ?_
                          refine lv_iadd hx hb dX7_canBe_151 ?_
                          refine lv_topi (fun v88 ev88 => ?_)
                          obtain rfl : v88 = nI ((28 * r1) + 12) := nI_plus ev88 rfl rfl
                          refine lv_iload hx hb dX7_canBe_152 (lv_at hl 3 rfl) ?_
                          refine lv_iadd hx hb dX7_canBe_154 ?_
                          refine lv_topi (fun v89 ev89 => ?_)
                          obtain rfl : v89 = nI (((28 * r1) + 12) + k1) := nI_plus ev89 rfl rfl
                          refine lv_iconst (v := 1) hx hb dX7_canBe_155 (by decide) ?_
                          refine xiast (f := x59) (x := 1) hx hb hK hP (hDD _ _) hS 30 ((((28 * r1) + 12) + k1)) (rfl) (by omega) (by decide) rfl dX7_canBe_156 (fun H locs hP _ hS => ?_)
                          have hP : PP G (mM G y b f (up2 r 36 (upd x59 ((((28 * r1) + 12) + k1)) (1)))) H := hP
                          obtain ⟨v90, ev90⟩ : ∃ y9 : Int32, y9 = (nI k1) + Int32.ofInt (1) := ⟨_, rfl⟩
                          refine lv_iinc (v := v90) (lv' := [(8, .int v90), (7, .int (nI (ab + 0))), (6, .int (nI (al + (((NM r1 k1)) % bs)))), (9, .int (nI ((12 * r1) + k1))), (5, .int (nI r1)), (4, .int (nI wn)), (0, .ref y), (1, .int (nI t)), (2, .int (nI bs)), (3, .int its)]) hx hb dX7_canBe_157 hl (k := 3) rfl ev90.symm (by decide) rfl (fun ls hl => ?_)
                          obtain rfl : v90 = nI (k1 + 1) := nI_plus (i := k1) (j := 1) ev90 rfl (by decide)
                          refine lv_goto (tgt := 67) hx hb dX7_canBe_160 (by decide) ?_
                          exact ih67k56 (k1 + 1) (ab + 0) (al + (((NM r1 k1)) % bs)) (upd x59 ((((28 * r1) + 12) + k1)) (1)) (by omega) (by omega) (by omega) (by omega) (by show ((al + NM r1 k1 % bs : Nat) : Int) = sumI k1 (fun c => ((oG (dmG (r 33) rw cl its) NM bs) r1 c : Int)) + ((oG (dmG (r 33) rw cl its) NM bs) r1 k1 : Int); rw [← hall, hoe]; omega) (by show ((ab + 0 : Nat) : Int) = sumI k1 (fun c => ((sG (dmG (r 33) rw cl its) SD 1) r1 c : Int)) + ((sG (dmG (r 33) rw cl its) SD 1) r1 k1 : Int); rw [← hab, ha1]; omega) (NW_t1 (by omega) (by omega) ht1 hnw) (nOK_u (k := 1) hcp (by omega)) _ _ _ hP hS (lv_sub hl [0, 1, 2, 4, 5, 6, 7, 8, 9] rfl)
                      · have b118 := qeq_t (a := ((SD r1 k1))) (b := 1) (by omega) (by omega) c82
                        have ha1 : (sG (dmG (r 33) rw cl its) SD 1) r1 k1 = 1 := sG_t hdm9 b118
                        refine lv_iconst (v := 1) hx hb dX7_canBe_121 (by decide) ?_
                        refine lv_goto (tgt := 126) hx hb dX7_canBe_122 (by decide) ?_
                        refine lv_iadd hx hb dX7_canBe_126 ?_
                        refine lv_topi (fun v91 ev91 => ?_)
                        obtain rfl : v91 = nI (ab + 1) := nI_plus ev91 rfl rfl
                        refine lv_istore (lv' := [(7, .int (nI (ab + 1))), (6, .int (nI (al + (((NM r1 k1)) % bs)))), (9, .int (nI ((12 * r1) + k1))), (8, .int (nI k1)), (5, .int (nI r1)), (4, .int (nI wn)), (0, .ref y), (1, .int (nI t)), (2, .int (nI bs)), (3, .int its)]) hx hb dX7_canBe_127 hl (by decide) rfl (fun ls hl => ?_)
                        refine lv_aload_n hx hb dX7_canBe_129 rfl (lv_at hl 6 rfl) ?_
                        refine va_get (D := G.1) (ci := 7) (v := .ref (b 31)) (C := RX7) (T := TX7) (N := 43) hx hb hts inX7 hown hK.1 hP 0 rfl rfl 31 (by decide) (hts _ mf_X7_89) (fun _ h9 => h9) rfl dX7_canBe_130 ?_
                        refine lv_iload hx hb dX7_canBe_133 (lv_at hl 2 rfl) ?_
                        refine xiald (f := (r 31)) hx hb hK hP 27 (((12 * r1) + k1)) (rfl) (by omega) (by decide) rfl dX7_canBe_135 ?_
                        refine lv_topi (fun v92 ev92 => ?_)
                        obtain rfl : v92 = nI ((SD r1 k1)) := ev92.trans (qc)
                        refine lv_iconst (v := 2) hx hb dX7_canBe_136 (by decide) ?_
                        refine lv_icmp_ne (tgt := 157) hx hb dX7_canBe_137 (by decide) (fun c93 => ?_) (fun c93 => ?_)
                        · have b137 := qeq_f (a := ((SD r1 k1))) (b := 2) (by omega) (by omega) c93
                          have ht1 : (sG (dmG (r 33) rw cl its) SD 2) r1 k1 = 0 := sG_n b137
                          obtain ⟨v94, ev94⟩ : ∃ y9 : Int32, y9 = (nI k1) + Int32.ofInt (1) := ⟨_, rfl⟩
                          refine lv_iinc (v := v94) (lv' := [(8, .int v94), (7, .int (nI (ab + 1))), (6, .int (nI (al + (((NM r1 k1)) % bs)))), (9, .int (nI ((12 * r1) + k1))), (5, .int (nI r1)), (4, .int (nI wn)), (0, .ref y), (1, .int (nI t)), (2, .int (nI bs)), (3, .int its)]) hx hb dX7_canBe_157 hl (k := 3) rfl ev94.symm (by decide) rfl (fun ls hl => ?_)
                          obtain rfl : v94 = nI (k1 + 1) := nI_plus (i := k1) (j := 1) ev94 rfl (by decide)
                          refine lv_goto (tgt := 67) hx hb dX7_canBe_160 (by decide) ?_
                          exact ih67k56 (k1 + 1) (ab + 1) (al + (((NM r1 k1)) % bs)) x59 (by omega) (by omega) (by omega) (by omega) (by show ((al + NM r1 k1 % bs : Nat) : Int) = sumI k1 (fun c => ((oG (dmG (r 33) rw cl its) NM bs) r1 c : Int)) + ((oG (dmG (r 33) rw cl its) NM bs) r1 k1 : Int); rw [← hall, hoe]; omega) (by show ((ab + 1 : Nat) : Int) = sumI k1 (fun c => ((sG (dmG (r 33) rw cl its) SD 1) r1 c : Int)) + ((sG (dmG (r 33) rw cl its) SD 1) r1 k1 : Int); rw [← hab, ha1]; omega) (NW_t0 (by omega) (by omega) ht1 hnw) (hcp) _ _ _ hP hS (lv_sub hl [0, 1, 2, 4, 5, 6, 7, 8, 9] rfl)
                        · have b137 := qeq_t (a := ((SD r1 k1))) (b := 2) (by omega) (by omega) c93
                          exact absurd (b118.symm.trans b137) (by decide)
                exact loop67 (cl + 1) 0 0 0 x6 (by omega) (by omega) (by omega) (by omega) (rfl) (rfl) (hnw) (hcp) _ _ _ hP hS (lv_sub hl [0, 1, 2, 3, 4, 5, 6, 7, 8] rfl)
              · have hgr : ¬ r 33 r1 = its := by rw [← ev54]; exact c55
                refine lv_goto (tgt := 215) hx hb dX7_canBe_55 (by decide) ?_
                obtain ⟨v95, ev95⟩ : ∃ y9 : Int32, y9 = (nI r1) + Int32.ofInt (1) := ⟨_, rfl⟩
                refine lv_iinc (v := v95) (lv' := [(5, .int v95), (4, .int (nI wn)), (0, .ref y), (1, .int (nI t)), (2, .int (nI bs)), (3, .int its)]) hx hb dX7_canBe_215 hl (k := 0) rfl ev95.symm (by decide) rfl (fun ls hl => ?_)
                obtain rfl : v95 = nI (r1 + 1) := nI_plus (i := r1) (j := 1) ev95 rfl (by decide)
                refine lv_goto (tgt := 33) hx hb dX7_canBe_218 (by decide) ?_
                exact ih33k4 (r1 + 1) wn x6 (by omega) (by omega) (nOK_mo hcp (by omega)) (NW_skip (by omega) (fun y _ _ => (hOz r1 y (dmG_no (fun z => hgr z.2.2))).2.2) (hlh0 r1 (hrz r1 (by omega) (fun z => hgr z.2))).1 (hlh0 r1 (hrz r1 (by omega) (fun z => hgr z.2))).2 hnw) (by rw [(SR_s (show r1 < 12 by omega)).1, (SR_s (show r1 < 12 by omega)).2, show (((fun k => NS k / bs - NA k) r1 : Nat) : Int) = 0 from congrArg _ (hlh0 r1 (hrz r1 (by omega) (fun z => hgr z.2))).1]; omega) (fun k hk => if c9 : k = r1 then (by rw [c9]; exact (by have h9 := hrz r1 (by omega) (fun z => hgr z.2); rw [h9.2]; exact Nat.zero_le _)) else hck k (by omega)) _ _ _ hP hS (lv_sub hl [0, 1, 2, 3, 4, 5] rfl)
        exact loop33 (rw + 1) 0 0 x2 (by omega) (by omega) (nOK_mo hcp (by omega)) (hnw) (by rw [show SR (mk9 (fun k => NS k / bs - NA k) 0) = 0 from sumI_z 12 (fun k _ => rfl), show SC (mk9 (fun k => NS k / bs - NA k) 0) = 0 from sumI_z 12 (fun k _ => rfl)]; rfl) (fun k hk => absurd hk (by omega)) _ _ _ hP hS (lv_sub hl [0, 1, 2, 3, 4, 5] rfl)
      · have b10 := qge_f (a := n1) (b := 784) (by omega) (by omega) c3
        refine lv_aload_n hx hb dX7_canBe_13 rfl (lv_at hl 1 rfl) ?_
        refine va_get (D := G.1) (ci := 7) (v := .ref (b 36)) (C := RX7) (T := TX7) (N := 43) hx hb hts inX7 hown hK.1 hP 0 rfl rfl 36 (by decide) (hts _ mf_X7_98) (fun _ h9 => h9) rfl dX7_canBe_14 ?_
        refine lv_iload hx hb dX7_canBe_17 (lv_at hl 0 rfl) ?_
        refine lv_iconst (v := 0) hx hb dX7_canBe_19 (by decide) ?_
        refine xiast (f := x2) (x := 0) hx hb hK hP (hDD _ _) hS 30 (n1) (rfl) (by omega) (by decide) rfl dX7_canBe_20 (fun H locs hP _ hS => ?_)
        have hP : PP G (mM G y b f (up2 r 36 (upd x2 (n1) (0)))) H := hP
        obtain ⟨v96, ev96⟩ : ∃ y9 : Int32, y9 = (nI n1) + Int32.ofInt (1) := ⟨_, rfl⟩
        refine lv_iinc (v := v96) (lv' := [(4, .int v96), (0, .ref y), (1, .int (nI t)), (2, .int (nI bs)), (3, .int its)]) hx hb dX7_canBe_21 hl (k := 0) rfl ev96.symm (by decide) rfl (fun ls hl => ?_)
        obtain rfl : v96 = nI (n1 + 1) := nI_plus (i := n1) (j := 1) ev96 rfl (by decide)
        refine lv_goto (tgt := 3) hx hb dX7_canBe_24 (by decide) ?_
        exact ih3k1 (n1 + 1) (upd x2 (n1) (0)) (by omega) (by omega) (zz_s hz) _ _ _ hP hS (lv_sub hl [0, 1, 2, 3, 4] rfl)
  exact loop3 (784 + 1) 0 (r 36) (by omega) (by omega) (fun n h => absurd h (Nat.not_lt_zero n)) _ _ _ hP hS (lv_sub hl [0, 1, 2, 3, 4] rfl)
