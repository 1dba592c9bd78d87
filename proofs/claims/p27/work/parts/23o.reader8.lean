
def offT (on : Nat → Nat → Bool) (i j a b : Nat) : Bool := on a b && !(decide (a = i) && decide (b = j))
theorem offT_s {on : Nat → Nat → Bool} {i j : Nat} : offT on i j i j = false := by unfold offT; simp
theorem offT_n {on : Nat → Nat → Bool} {i j a b : Nat} (h : ¬ (a = i ∧ b = j)) : offT on i j a b = on a b := by
  unfold offT
  by_cases c : a = i
  · have d : ¬ b = j := fun z => h ⟨c, z⟩
    rw [decide_eq_false d, Bool.and_false]; simp
  · rw [decide_eq_false c]; simp
theorem offT_le {on : Nat → Nat → Bool} {i j a b : Nat} (h : offT on i j a b = true) : on a b = true := by
  unfold offT at h; rw [Bool.and_eq_true] at h; exact h.1
def BND (dm : Nat → Nat → Bool) (Lo Hi V : Nat → Nat → Nat) : Prop := ∀ x y, dm x y = true → x < 12 ∧ y < 12 ∧ Hi x y ≤ 1073741824 ∧ V x y ≤ Hi x y ∧ Lo x y ≤ V x y
theorem SYN_off0 {kp on : Nat → Nat → Bool} {V Lo Hi : Nat → Nat → Nat} {s : Nat → Int32} {i j : Nat} (h : SYN kp V Lo Hi on s) (hi : i < 12) (hj : j < 12) : SYN kp V Lo Hi (offT on i j) (jnF s i (12 + j) 0 0) := SYN_join h hi hj (fun _ _ _ => rfl) (fun a b z => offT_n z) (by unfold gof; rw [offT_s]; simp) (by unfold gob; rw [offT_s]; simp)
theorem SYN_off {kp on : Nat → Nat → Bool} {V Lo Hi : Nat → Nat → Nat} {s : Nat → Int32} {i j x : Nat} (h : SYN kp V Lo Hi on s) (ho : on i j = false) : SYN kp (upT V i j x) Lo Hi on s := fun u v hu hv => by
  rw [h u v hu hv]
  unfold stE gof gob
  by_cases c1 : u < 12 ∧ 12 ≤ v ∧ v < 24
  · rw [if_pos c1, if_pos c1]
    by_cases e : u = i ∧ v - 12 = j
    · rw [e.1, e.2, ho]; rfl
    · rw [upT_n e]
  · rw [if_neg c1, if_neg c1]
    by_cases c2 : v < 12 ∧ 12 ≤ u ∧ u < 24
    · rw [if_pos c2, if_pos c2]
      by_cases e : v = i ∧ u - 12 = j
      · rw [e.1, e.2, ho]; rfl
      · rw [upT_n e]
    · rw [if_neg c2, if_neg c2]
theorem rowV_ext {on dm : Nat → Nat → Bool} {A V : Nat → Nat → Nat} {va va2 : Nat → Int32} (h1 : rowV on A va2) (h2 : ∀ x y, x < 12 → y < 12 → on x y = false → va2 (x * 12 + y) = va (x * 12 + y)) (h3 : rowV dm V va) (h4 : ∀ x y, on x y = false → A x y = V x y) : rowV dm A va2 := fun x y hx hy e => by
  cases ho : on x y with
  | true => exact h1 x y hx hy ho
  | false => rw [h2 x y hx hy ho, h4 x y ho]; exact h3 x y hx hy e
theorem rowV_le {on dm : Nat → Nat → Bool} {V : Nat → Nat → Nat} {va : Nat → Int32} (h : rowV dm V va) (hle : ∀ x y, on x y = true → dm x y = true) : rowV on V va := fun x y hx hy e => h x y hx hy (hle x y e)
theorem agN_b {kp : Nat → Nat → Bool} {Lo Hi V0 V : Nat → Nat → Nat} (h : agN kp Lo Hi V0 V) (a b : Nat) (ha : a < 12) (hb : b < 12) (hk : kp a b = true) : Lo a b ≤ V a b ∧ V a b ≤ Hi a b := by
  have q := h.2.1 a b ha hb hk
  have q1 : (Lo a b : Int) ≤ (V a b : Int) := q.1
  have q2 : (V a b : Int) ≤ (Hi a b : Int) := q.2
  omega
theorem agN_tr {kp : Nat → Nat → Bool} {Lo Hi V0 V w : Nat → Nat → Nat} (h1 : agN kp Lo Hi V0 V) (h2 : agN kp Lo Hi V0 w) : agN kp Lo Hi V w := ⟨fun a b ha hb hk => (h2.1 a b ha hb hk).trans (h1.1 a b ha hb hk).symm, h2.2.1, fun a ha => (h2.2.2.1 a ha).trans (h1.2.2.1 a ha).symm, fun b hb => (h2.2.2.2 b hb).trans (h1.2.2.2 b hb).symm⟩
theorem turn_d {s s2 bb va va2 : Nat → Int32} {i j d : Nat} {L : Nat → Nat} {kp on dm : Nat → Nat → Bool} {V0 V Lo Hi : Nat → Nat → Nat} (hi : i < 12) (hj : j < 12) (hoff : on i j = false) (hkp : kp i j = true) (h : CH s i (12 + j) bb L) (hS : SYN kp V Lo Hi on s) (hd : ∀ k, k < L (12 + j) → d ≤ resA bb (12 + j) V Lo Hi k) (hlo : Lo i j + d ≤ V i j) (hA : agN kp Lo Hi V0 V) (hB : BND dm Lo Hi V) (hva : rowV dm V va) (hvn : rowV on (shT bb (12 + j) d V (L (12 + j))) va2) (hsn : SYN kp (shT bb (12 + j) d V (L (12 + j))) Lo Hi on s2) (hof : ∀ x y, x < 12 → y < 12 → on x y = false → va2 (x * 12 + y) = va (x * 12 + y)) : rowV dm (upT (shT bb (12 + j) d V (L (12 + j))) i j (V i j - d)) (upd va2 (i * 12 + j) (nI (V i j - d))) ∧ SYN kp (upT (shT bb (12 + j) d V (L (12 + j))) i j (V i j - d)) Lo Hi on s2 ∧ agN kp Lo Hi V0 (upT (shT bb (12 + j) d V (L (12 + j))) i j (V i j - d)) ∧ BND dm Lo Hi (upT (shT bb (12 + j) d V (L (12 + j))) i j (V i j - d)) := by
  obtain ⟨s1, s2', s3⟩ := sh_bound h hS hd (agN_b hA)
  refine ⟨rowV_u (rowV_ext hvn hof hva (fun a b e => s3 a b e)) hi hj, SYN_off hsn hoff, dr_down hi hj hoff hkp h hS hd hlo hA, ?_⟩
  intro a b e
  obtain ⟨b1, b2, b3, b4, b5⟩ := hB a b e
  refine ⟨b1, b2, b3, ?_⟩
  by_cases c : a = i ∧ b = j
  · rw [c.1, c.2] at b4 b5 ⊢
    rw [upT_s]; omega
  · rw [upT_n c]
    cases hk : kp a b with
    | true => exact ⟨(s1 a b b1 b2 hk).2, (s1 a b b1 b2 hk).1⟩
    | false => rw [s2' a b hk]; exact ⟨b4, b5⟩
theorem turn_u {s s2 bb va va2 : Nat → Int32} {i j d : Nat} {L : Nat → Nat} {kp on dm : Nat → Nat → Bool} {V0 V Lo Hi : Nat → Nat → Nat} (hi : i < 12) (hj : j < 12) (hoff : on i j = false) (hkp : kp i j = true) (h : CH s (12 + j) i bb L) (hS : SYN kp V Lo Hi on s) (hd : ∀ k, k < L i → d ≤ resA bb i V Lo Hi k) (hhi : V i j + d ≤ Hi i j) (hA : agN kp Lo Hi V0 V) (hB : BND dm Lo Hi V) (hva : rowV dm V va) (hvn : rowV on (shT bb i d V (L i)) va2) (hsn : SYN kp (shT bb i d V (L i)) Lo Hi on s2) (hof : ∀ x y, x < 12 → y < 12 → on x y = false → va2 (x * 12 + y) = va (x * 12 + y)) : rowV dm (upT (shT bb i d V (L i)) i j (V i j + d)) (upd va2 (i * 12 + j) (nI (V i j + d))) ∧ SYN kp (upT (shT bb i d V (L i)) i j (V i j + d)) Lo Hi on s2 ∧ agN kp Lo Hi V0 (upT (shT bb i d V (L i)) i j (V i j + d)) ∧ BND dm Lo Hi (upT (shT bb i d V (L i)) i j (V i j + d)) := by
  obtain ⟨s1, s2', s3⟩ := sh_bound h hS hd (agN_b hA)
  refine ⟨rowV_u (rowV_ext hvn hof hva (fun a b e => s3 a b e)) hi hj, SYN_off hsn hoff, dr_up hi hj hoff hkp h hS hd hhi hA, ?_⟩
  intro a b e
  obtain ⟨b1, b2, b3, b4, b5⟩ := hB a b e
  refine ⟨b1, b2, b3, ?_⟩
  by_cases c : a = i ∧ b = j
  · rw [c.1, c.2] at b4 b5 ⊢
    rw [upT_s]; omega
  · rw [upT_n c]
    cases hk : kp a b with
    | true => exact ⟨(s1 a b b1 b2 hk).2, (s1 a b b1 b2 hk).1⟩
    | false => rw [s2' a b hk]; exact ⟨b4, b5⟩
theorem turn_m {s s2 bb : Nat → Int32} {u0 t0 d : Nat} {L : Nat → Nat} {kp on : Nat → Nat → Bool} {V Lo Hi : Nat → Nat → Nat} (h : CH s u0 t0 bb L) (hS : SYN kp V Lo Hi on s) (hS2 : SYN kp (shT bb t0 d V (L t0)) Lo Hi on s2) (hd : d = mnF (resA bb t0 V Lo Hi) (L t0)) (hlt : d < 1073741824) : lvOK (fun u v => bt (s2 u) v) L ∧ msr (fun u v => bt (s2 u) v) L t0 < msr (fun u v => bt (s u) v) L t0 := by
  rcases mnF_ex (rs := resA bb t0 V Lo Hi) (L t0) with e | ⟨k, hk, e⟩
  · omega
  · exact CH_fall h (fun u v hu hv z => sh_steps h hS hS2 u v hu hv z) ⟨k, hk, sh_sat h hS hS2 hk (hd.trans e)⟩
theorem turn_f {va va2 r0 : Nat → Int32} {i j : Nat} {on dm : Nat → Nat → Bool} {z : Int32} (hdij : dm i j = true) (hj : j < 12) (hoo : ∀ x y, on x y = true → dm x y = true) (hof : ∀ x y, x < 12 → y < 12 → on x y = false → va2 (x * 12 + y) = va (x * 12 + y)) (hf : ∀ x y, x < 12 → y < 12 → dm x y = false → va (x * 12 + y) = r0 (x * 12 + y)) : ∀ x y, x < 12 → y < 12 → dm x y = false → upd va2 (i * 12 + j) z (x * 12 + y) = r0 (x * 12 + y) := fun a b ha hb e => by
  rw [pk_un (fun q => by have e8 : a = i ∧ b = j := (by omega); rw [e8.1, e8.2, hdij] at e; exact absurd e (by decide)), hof a b ha hb (by
    cases h : on a b with
    | false => rfl
    | true => rw [hoo a b h] at e; exact absurd e (by decide))]
  exact hf a b ha hb e
/-- where a draw ends: at what is wanted, or where no table that agrees goes beyond -/
def ENDS (kp : Nat → Nat → Bool) (Lo Hi V0 : Nat → Nat → Nat) (i j wt : Nat) (V2 : Nat → Nat → Nat) : Prop := V2 i j = wt ∨ (wt < V2 i j ∧ ∀ w, agN kp Lo Hi V0 w → V2 i j ≤ w i j) ∨ (V2 i j < wt ∧ ∀ w, agN kp Lo Hi V0 w → w i j ≤ V2 i j)
theorem clo_lo {kp : Nat → Nat → Bool} {V Lo Hi w : Nat → Nat → Nat} {on : Nat → Nat → Bool} {s : Nat → Int32} {rc : Int32} {r c : Nat} (hr : r < 12) (hc : c < 12) (hC : CLO s r (12 + c) rc) (hS : SYN kp V Lo Hi on s) (hon : ∀ i j, i < 12 → j < 12 → kp i j = true → ¬ (i = r ∧ j = c) → on i j = true) (hA : agN kp Lo Hi V w) : V r c ≤ w r c := clo_low (gr := on) hr hc hC hS hon hA
theorem clo_hi {kp : Nat → Nat → Bool} {V Lo Hi w : Nat → Nat → Nat} {on : Nat → Nat → Bool} {s : Nat → Int32} {rc : Int32} {r c : Nat} (hr : r < 12) (hc : c < 12) (hC : CLO s (12 + c) r rc) (hS : SYN kp V Lo Hi on s) (hon : ∀ i j, i < 12 → j < 12 → kp i j = true → ¬ (i = r ∧ j = c) → on i j = true) (hA : agN kp Lo Hi V w) : w r c ≤ V r c := by
  obtain ⟨c1, c2, c3⟩ := hC
  have hsr : bt rc r = false := by
    cases hh : bt rc r with
    | false => rfl
    | true => exact absurd (c2 hh) (by omega)
  have q := cut_high (n := 12) (m := 12) (r := r) (c := c) (SR := fun i => bt rc i) (SC := fun j => bt rc (12 + j)) hA hr hc hsr c1
    (fun i j hi hj e1 e2 hk => by
      by_cases hne : i = r ∧ j = c
      · rw [hne.1] at e1; have e9 : bt rc r = true := e1; rw [hsr] at e9; exact absurd e9 (by decide)
      · have e3 : ¬ bt (s i) (12 + j) = true := fun z => by have e9 : bt rc (12 + j) = false := e2; rw [c3 i (12 + j) (by omega) (by omega) e1 z] at e9; exact absurd e9 (by decide)
        rw [hS i (12 + j) (by omega) (by omega), stE_f hi hj] at e3
        unfold gof at e3
        rw [hon i j hi hj hk hne, hk] at e3
        have e4 : ¬ V i j < Hi i j := fun z => e3 (by rw [decide_eq_true z]; rfl)
        show ((Hi i j : Nat) : Int) ≤ ((V i j : Nat) : Int)
        omega)
    (fun i j hi hj e1 e2 hk hne => by
      have e3 : ¬ bt (s (12 + j)) i = true := fun z => by have e9 : bt rc i = false := e1; rw [c3 (12 + j) i (by omega) (by omega) e2 z] at e9; exact absurd e9 (by decide)
      rw [hS (12 + j) i (by omega) (by omega), stE_b hi hj] at e3
      unfold gob at e3
      rw [hon i j hi hj hk hne, hk] at e3
      have e4 : ¬ Lo i j < V i j := fun z => e3 (by rw [decide_eq_true z]; rfl)
      show ((V i j : Nat) : Int) ≤ ((Lo i j : Nat) : Int)
      omega)
  have q2 : ((w r c : Nat) : Int) ≤ ((V r c : Nat) : Int) := q
  omega
theorem abs_up {v x : Int32} {a b : Nat} (e : v = if 0 ≤ x then x else 0 - x) (ex : x = nI a - nI b) (h : b ≤ a) (ha : a < 2147483648) : v = nI (a - b) := by
  rw [pk_sub h] at ex
  rw [e, ex, if_pos (nI_pos' (by omega))]
theorem abs_dn {v x : Int32} {a b : Nat} (e : v = if 0 ≤ x then x else 0 - x) (ex : x = nI a - nI b) (h : a < b) (hb : b < 2147483648) : v = nI (b - a) := by
  have e1 : x = -(nI (b - a)) := by rw [ex, ← pk_sub (Nat.le_of_lt h), Int32.neg_sub]
  have h0 : x ≤ 0 := by rw [e1]; exact (Int32.neg_nonpos_iff _).mpr (Or.inr (nI_pos' (by omega)))
  have hn : ¬ 0 ≤ x := fun z => by
    have e2 : x = 0 := Int32.le_antisymm h0 z
    have e3 : nI (b - a) = nI 0 := by
      have e4 : -(nI (b - a)) = 0 := e1.symm.trans e2
      have e5 : - -(nI (b - a)) = -(0 : Int32) := by rw [e4]
      rw [Int32.neg_neg] at e5; exact e5
    have := (nI_eq (by omega) (by omega)).mp e3
    omega
  rw [e, if_neg hn, e1, Int32.zero_sub, Int32.neg_neg]
theorem neg_add8 {v1 v2 : Int32} {a d : Nat} (e1 : v1 = -(nI d)) (e2 : v2 = nI a + v1) (h : d ≤ a) : v2 = nI (a - d) := by
  rw [e2, e1, ← Int32.sub_eq_add_neg]; exact pk_sub h
theorem min_or (a b : Nat) : ((if b < a then b else a) = b ∧ b < a) ∨ ((if b < a then b else a) = a ∧ a ≤ b) := by
  by_cases c : b < a
  · rw [if_pos c]; exact Or.inl ⟨rfl, c⟩
  · rw [if_neg c]; exact Or.inr ⟨rfl, by omega⟩
set_option maxHeartbeats 4000000 in
set_option maxRecDepth 100000 in
theorem e_X2_draw (l : Launch) (G : GG) (a b : Nat → Nat) (f qf : Nat → Int32) (r q : Nat → Nat → Int32) (i : Nat) (j : Nat) (wt : Nat) (V0 : Nat → Nat → Nat) (V : Nat → Nat → Nat) (Lo : Nat → Nat → Nat) (Hi : Nat → Nat → Nat) (kp : Nat → Nat → Bool) (on : Nat → Nat → Bool) (dm : Nat → Nat → Bool) (hi : i < 12) (hj : j < 12) (hwl : Lo i j ≤ wt) (hwh : wt ≤ Hi i j) (hdij : dm i j = true) (hkij : kp i j = true) (hod : ∀ x y, on x y = true → dm x y = true) (hko : ∀ x y, x < 12 → y < 12 → kp x y = true → ¬ (x = i ∧ y = j) → on x y = true) (hSY : SYN kp V Lo Hi on (q 0)) (hva : rowV dm V (r 12)) (hlo : rowV dm Lo (r 13)) (hhi : rowV dm Hi (r 14)) (hkr : ∀ x y, x < 12 → y < 12 → on x y = true → (¬ (r 11) (x * 12 + y) = 0 ↔ kp x y = true)) (hB : BND dm Lo Hi V) (hAg : agN kp Lo Hi V0 V) : WrV l yX2_draw cX2_draw 11 ({ frames := 3, cells := 0, slots := 0, locals := 77 }) G (rdW G a b f qf r q) [.ref (a 15), .int (nI i), .int (nI j), .int (nI wt)] (fun w => ∃ (n_q_0 : Nat → Int32) (n_q_1 : Nat → Int32) (n_q_2 : Nat → Int32) (n_qf_3 : Int32) (n_r_12 : Nat → Int32) (V2 : Nat → Nat → Nat), w = rdW G a b f (upd qf 3 n_qf_3) (up2 r 12 n_r_12) (up2 (up2 (up2 q 0 n_q_0) 1 n_q_1) 2 n_q_2) ∧ (rowV dm V2 n_r_12) ∧ (SYN kp V2 Lo Hi (offT on i j) n_q_0) ∧ (agN kp Lo Hi V0 V2) ∧ (BND dm Lo Hi V2) ∧ (∀ x y, x < 12 → y < 12 → dm x y = false → n_r_12 (x * 12 + y) = (r 12) (x * 12 + y)) ∧ (ENDS kp Lo Hi V0 i j wt V2)) := by
  refine wr_entryV (by decide +kernel) (Nat.le_of_ble_eq_true rfl) ?_
  intro p e s m below meth c A C0 hP hK hD hA ls hl
  have hS : va_S A s.heap s.heap [] := va_S.rf
  obtain ⟨hx, hb, hml, hown, hts, hr, hlocks, hin⟩ := C0
  have hown : s.vm.findClass RX2 = some m.cls := hown
  have hDD : ∀ f' qf' r' q', va_D A (rdW G a b f' qf' r' q') := fun f' qf' r' q' => D_same hD rfl
  have hl : lv_has ls 11 [(0, .ref (a 15)), (1, .int (nI i)), (2, .int (nI j)), (3, .int (nI wt))] := hl
  have hBi := hB i j hdij
  have hoo : ∀ x y, offT on i j x y = true → dm x y = true := fun x y e9 => hod x y (offT_le e9)
  have hkk : ∀ x y, x < 12 → y < 12 → kp x y = true → ¬ (x = i ∧ y = j) → offT on i j x y = true := fun x y h6 h7 h8 h9 => by rw [offT_n h9]; exact hko x y h6 h7 h8 h9
  refine lv_iload_n hx hb dX2_draw_0 rfl (lv_at hl 1 rfl) ?_
  refine lv_iload_n hx hb dX2_draw_1 rfl (lv_at hl 2 rfl) ?_
  refine rdSN (rest := []) ⟨hx, hb, hml, hown, hts⟩ (c_X6_spotOf l G ((nI i)) ((nI j))) mi_yX6_spotOf mst_yX6_spotOf (by decide +kernel) ⟨rfl, rfl, Nat.le_of_ble_eq_true rfl, Nat.le_of_ble_eq_true rfl⟩ hK (fun k q h => by simp at h) rfl hl.1 rfl (Nat.le_of_ble_eq_true rfl) dX2_draw_2 ⟨Nat.zero_le _, Nat.zero_le _⟩ hS hA hP (fun r1 H locs hr1 hP hS => ?_)
  obtain rfl : r1 = nI (i * 12 + j) := spot_eq hr1
  refine lv_istore (lv' := [(4, .int (nI (i * 12 + j))), (0, .ref (a 15)), (1, .int (nI i)), (2, .int (nI j)), (3, .int (nI wt))]) hx hb dX2_draw_5 hl (by decide) rfl (fun ls hl => ?_)
  refine lv_bipush (v := 12) hx hb dX2_draw_7 (by decide) ?_
  refine lv_iload_n hx hb dX2_draw_9 rfl (lv_at hl 3 rfl) ?_
  refine lv_iadd hx hb dX2_draw_10 ?_
  refine lv_topi (fun v2 ev2 => ?_)
  obtain rfl : v2 = nI (12 + j) := nI_plus ev2 rfl rfl
  refine lv_istore (lv' := [(5, .int (nI (12 + j))), (4, .int (nI (i * 12 + j))), (0, .ref (a 15)), (1, .int (nI i)), (2, .int (nI j)), (3, .int (nI wt))]) hx hb dX2_draw_11 hl (by decide) rfl (fun ls hl => ?_)
  refine lv_aload_n hx hb dX2_draw_13 rfl (lv_at hl 2 rfl) ?_
  refine va_get (D := G.1) (ci := 2) (v := .ref (b 3)) (C := RX2) (T := TX2) (N := 15) hx hb hts inX2 hown hK.1 hP 0 rfl rfl 5 (by decide) (hts _ mf_X2_30) (fun _ h9 => h9) rfl dX2_draw_14 ?_
  refine lv_iload_n hx hb dX2_draw_17 rfl (lv_at hl 3 rfl) ?_
  refine lv_iload hx hb dX2_draw_18 (lv_at hl 0 rfl) ?_
  refine lv_iconst (v := 0) hx hb dX2_draw_20 (by decide) ?_
  refine lv_iconst (v := 0) hx hb dX2_draw_21 (by decide) ?_
  refine wrVV (rest := []) (q0 := 0) ⟨hx, hb, hml, hown, hts⟩ (c_X5_join l G b q (qf 3) i (12 + j) 0 0 (by omega) (by omega)) mi_yX5_join mv_yX5_join ml_X2_120 ⟨rfl, rfl, Nat.le_of_ble_eq_true rfl, Nat.le_of_ble_eq_true rfl⟩ hK hP (hDD _ _ _ _) [10, 11, 12, 13] rfl (by decide) rfl rfl rfl hl.1 rfl (Nat.le_of_ble_eq_true rfl) dX2_draw_22 ⟨Nat.zero_le _, Nat.zero_le _⟩ hS hA (fun w4 H locs hw4 hP hS => ?_)
  obtain rfl := hw4
  have hP : PP G (rdW G a b f qf r (up2 q 0 (jnF (q 0) i (12 + j) 0 0))) H := hP rfl
  refine lv_iload_n hx hb dX2_draw_25 rfl (lv_at hl 5 rfl) ?_
  refine lv_aload_n hx hb dX2_draw_26 rfl (lv_at hl 2 rfl) ?_
  refine va_get (D := G.1) (ci := 2) (v := .ref (a 12)) (C := RX2) (T := TX2) (N := 15) hx hb hts inX2 hown hK.1 hP 0 rfl rfl 12 (by decide) (hts _ mf_X2_54) (fun _ h9 => h9) rfl dX2_draw_27 ?_
  refine lv_iload hx hb dX2_draw_30 (lv_at hl 1 rfl) ?_
  refine xiald (f := (r 12)) hx hb hK hP 7 ((i * 12 + j)) (rfl) (by omega) (by decide) rfl dX2_draw_32 ?_
  refine lv_topi (fun v5 ev5 => ?_)
  obtain rfl : v5 = nI (V i j) := ev5.trans (hva i j hi hj hdij)
  refine lv_icmp_ge (tgt := 40) hx hb dX2_draw_33 (by decide) (fun c6 => ?_) (fun c6 => ?_)
  · have b33 := qge_t (a := wt) (b := (V i j)) (by omega) (by omega) c6
    refine lv_iconst (v := 0) hx hb dX2_draw_40 (by decide) ?_
    refine lv_istore (lv' := [(6, .int 0), (5, .int (nI (12 + j))), (4, .int (nI (i * 12 + j))), (0, .ref (a 15)), (1, .int (nI i)), (2, .int (nI j)), (3, .int (nI wt))]) hx hb dX2_draw_41 hl (by decide) rfl (fun ls hl => ?_)
    refine lv_iload hx hb dX2_draw_43 (lv_at hl 0 rfl) ?_
    refine lv_if_eq (tgt := 52) hx hb dX2_draw_45 (by decide) (fun c7 => ?_) (fun c7 => absurd (by decide) c7)
    refine lv_iload hx hb dX2_draw_52 (lv_at hl 1 rfl) ?_
    refine lv_istore (lv' := [(7, .int (nI (12 + j))), (6, .int 0), (5, .int (nI (12 + j))), (4, .int (nI (i * 12 + j))), (0, .ref (a 15)), (1, .int (nI i)), (2, .int (nI j)), (3, .int (nI wt))]) hx hb dX2_draw_54 hl (by decide) rfl (fun ls hl => ?_)
    refine lv_iload hx hb dX2_draw_56 (lv_at hl 1 rfl) ?_
    refine lv_if_eq (tgt := 66) hx hb dX2_draw_58 (by decide) (fun c8 => ?_) (fun c8 => absurd (by decide) c8)
    refine lv_iload_n hx hb dX2_draw_66 rfl (lv_at hl 5 rfl) ?_
    refine lv_istore (lv' := [(8, .int (nI i)), (7, .int (nI (12 + j))), (6, .int 0), (5, .int (nI (12 + j))), (4, .int (nI (i * 12 + j))), (0, .ref (a 15)), (1, .int (nI i)), (2, .int (nI j)), (3, .int (nI wt))]) hx hb dX2_draw_67 hl (by decide) rfl (fun ls hl => ?_)
    refine lv_iconst (v := 0) hx hb dX2_draw_69 (by decide) ?_
    refine lv_istore (lv' := [(9, .int 0), (8, .int (nI i)), (7, .int (nI (12 + j))), (6, .int 0), (5, .int (nI (12 + j))), (4, .int (nI (i * 12 + j))), (0, .ref (a 15)), (1, .int (nI i)), (2, .int (nI j)), (3, .int (nI wt))]) hx hb dX2_draw_70 hl (by decide) rfl (fun ls hl => ?_)
    have loop72 : ∀ (k9 n : Nat) (U : Nat → Nat → Nat) (L0 : Nat → Nat) (x10 : Nat → Int32) (x11 : Nat → Int32) (x12 : Nat → Int32) (x13 : Int32) (x14 : Nat → Int32), n ≤ 1000000 → 1000000 < n + k9 → (rowV dm U x14) → (SYN kp U Lo Hi (offT on i j) x10) → (agN kp Lo Hi V0 U) → (BND dm Lo Hi U) → (U i j ≤ wt) → (U i j = wt ∨ (lvOK (fun u v => bt (x10 u) v) L0 ∧ L0 (12 + j) = 0 ∧ n + msr (fun u v => bt (x10 u) v) L0 i ≤ 16275)) → (∀ x y, x < 12 → y < 12 → dm x y = false → x14 (x * 12 + y) = r 12 (x * 12 + y)) → ∀ (H : Heap) (locs : List Loc) (ls : Array Slot), PP G (rdW G a b f (upd qf 3 x13) (up2 r 12 x14) (up2 (up2 (up2 q 0 x10) 1 x11) 2 x12)) H → va_S A s.heap H locs → lv_has ls 11 [(9, .int (nI n)), (8, .int (nI i)), (7, .int (nI (12 + j))), (6, .int 0), (4, .int (nI (i * 12 + j))), (0, .ref (a 15)), (3, .int (nI wt))] → W p l e ({ frames := 3, cells := 0, slots := 0, locals := 77 }) s m ([.ref (a 15), .int (nI i), .int (nI j), .int (nI wt)] : List Value).toArray below meth c H locs 0 0 (MQ below (QwV G (fun w => ∃ (n_q_0 : Nat → Int32) (n_q_1 : Nat → Int32) (n_q_2 : Nat → Int32) (n_qf_3 : Int32) (n_r_12 : Nat → Int32) (V2 : Nat → Nat → Nat), w = rdW G a b f (upd qf 3 n_qf_3) (up2 r 12 n_r_12) (up2 (up2 (up2 q 0 n_q_0) 1 n_q_1) 2 n_q_2) ∧ (rowV dm V2 n_r_12) ∧ (SYN kp V2 Lo Hi (offT on i j) n_q_0) ∧ (agN kp Lo Hi V0 V2) ∧ (BND dm Lo Hi V2) ∧ (∀ x y, x < 12 → y < 12 → dm x y = false → n_r_12 (x * 12 + y) = (r 12) (x * 12 + y)) ∧ (ENDS kp Lo Hi V0 i j wt V2)) A) ([.ref (a 15), .int (nI i), .int (nI j), .int (nI wt)] : List Value).toArray s 0 0 A) (F0 m 72 ls []) := by
      intro k9
      induction k9 with
      | zero => intro n U L0 x10 x11 x12 x13 x14 h1 h2; exact absurd h1 (by omega)
      | succ k9 ih72k9 =>
        intro n U L0 x10 x11 x12 x13 x14 hi_n hk_n hVn hSn hAn hBn hge hms hfn H locs ls hP hS hl
        have hBU := hBn i j hdij
        refine lv_iload hx hb dX2_draw_72 (lv_at hl 0 rfl) ?_
        refine lv_ldc hx hb hown (hts _ mk_X2_124) dX2_draw_74 ?_
        refine lv_icmp_ge (tgt := 169) hx hb dX2_draw_76 (by decide) (fun c15 => ?_) (fun c15 => ?_)
        · have b76 := qge_t (a := n) (b := 1000000) (by omega) (by omega) c15
          exact wr_vret hx hb hr hlocks hS hP ⟨x10, x11, x12, x13, x14, U, rfl, hVn, hSn, hAn, hBn, hfn, (Or.inl (hms.resolve_right (fun z9 => by have h9 := z9.2.2; omega)))⟩ dX2_draw_169
        · have b76 := qge_f (a := n) (b := 1000000) (by omega) (by omega) c15
          refine lv_aload_n hx hb dX2_draw_79 rfl (lv_at hl 5 rfl) ?_
          refine va_get (D := G.1) (ci := 2) (v := .ref (a 12)) (C := RX2) (T := TX2) (N := 15) hx hb hts inX2 hown hK.1 hP 0 rfl rfl 12 (by decide) (hts _ mf_X2_54) (fun _ h9 => h9) rfl dX2_draw_80 ?_
          refine lv_iload hx hb dX2_draw_83 (lv_at hl 4 rfl) ?_
          refine xiald (f := x14) hx hb hK hP 7 ((i * 12 + j)) (rfl) (by omega) (by decide) rfl dX2_draw_85 ?_
          refine lv_topi (fun v16 ev16 => ?_)
          obtain rfl : v16 = nI (U i j) := ev16.trans (hVn i j hi hj hdij)
          refine lv_iload_n hx hb dX2_draw_86 rfl (lv_at hl 6 rfl) ?_
          refine lv_icmp_eq (tgt := 169) hx hb dX2_draw_87 (by decide) (fun c17 => ?_) (fun c17 => ?_)
          · have b87 := qeq_t (a := (U i j)) (b := wt) (by omega) (by omega) c17
            exact wr_vret hx hb hr hlocks hS hP ⟨x10, x11, x12, x13, x14, U, rfl, hVn, hSn, hAn, hBn, hfn, (Or.inl b87)⟩ dX2_draw_169
          · have b87 := qeq_f (a := (U i j)) (b := wt) (by omega) (by omega) c17
            refine lv_aload_n hx hb dX2_draw_90 rfl (lv_at hl 5 rfl) ?_
            refine va_get (D := G.1) (ci := 2) (v := .ref (b 3)) (C := RX2) (T := TX2) (N := 15) hx hb hts inX2 hown hK.1 hP 0 rfl rfl 5 (by decide) (hts _ mf_X2_30) (fun _ h9 => h9) rfl dX2_draw_91 ?_
            refine lv_iload hx hb dX2_draw_94 (lv_at hl 2 rfl) ?_
            refine lv_iload hx hb dX2_draw_96 (lv_at hl 1 rfl) ?_
            refine wrVI (rest := []) (q0 := 0) ⟨hx, hb, hml, hown, hts⟩ (e_X5_leads l G b (upd qf 3 x13) (up2 (up2 (up2 q 0 x10) 1 x11) 2 x12) (12 + j) i (by omega) (by omega)) mi_yX5_leads mv_yX5_leads ml_X2_125 ⟨rfl, rfl, Nat.le_of_ble_eq_true rfl, Nat.le_of_ble_eq_true rfl⟩ hK hP (hDD _ _ _ _) [10, 11, 12, 13] rfl (by decide) rfl rfl rfl hl.1 rfl (Nat.le_of_ble_eq_true rfl) dX2_draw_98 ⟨Nat.zero_le _, Nat.zero_le _⟩ hS hA (fun r18 w19 H locs hw19 hP hS => ?_)
            obtain ⟨xb, xq, xr, rfl, hres⟩ := hw19
            have hP : PP G (rdW G a b f (upd qf 3 xr) (up2 r 12 x14) (up2 (up2 (up2 q 0 x10) 1 xb) 2 xq)) H := hP rfl
            have hres : (r18 = 0 ∧ CLO x10 (12 + j) i xr) ∨ (r18 = 1 ∧ WAY x10 (12 + j) i xb) := hres
            refine lv_if_ne (tgt := 105) hx hb dX2_draw_101 (by decide) (fun c20 => ?_) (fun c20 => ?_)
            · have hway := (hres.resolve_left (fun z9 => c20 z9.1)).2
              obtain ⟨L1, hC1⟩ := CH_of hway (by omega)
              obtain ⟨hl0, hz0, hm0⟩ := hms.resolve_left b87
              obtain ⟨L, hCL, hmL⟩ := CH_best hC1 hl0 hz0
              have hM := mnF_le (rs := resA xb i U Lo Hi) (L i)
              refine lv_iload_n hx hb dX2_draw_105 rfl (lv_at hl 6 rfl) ?_
              refine lv_aload_n hx hb dX2_draw_106 rfl (lv_at hl 5 rfl) ?_
              refine va_get (D := G.1) (ci := 2) (v := .ref (a 12)) (C := RX2) (T := TX2) (N := 15) hx hb hts inX2 hown hK.1 hP 0 rfl rfl 12 (by decide) (hts _ mf_X2_54) (fun _ h9 => h9) rfl dX2_draw_107 ?_
              refine lv_iload hx hb dX2_draw_110 (lv_at hl 4 rfl) ?_
              refine xiald (f := x14) hx hb hK hP 7 ((i * 12 + j)) (rfl) (by omega) (by decide) rfl dX2_draw_112 ?_
              refine lv_topi (fun v21 ev21 => ?_)
              obtain rfl : v21 = nI (U i j) := ev21.trans (hVn i j hi hj hdij)
              refine lv_isub hx hb dX2_draw_113 ?_
              refine lv_topi (fun v22 ev22 => ?_)
              refine va_mabs hx hb (hml.trans hl.1.symm) hown (hts _ ml_X2_128) (hts _ mst_yJ9_abs_0f7a4) (hts _ mz_RJ9) (hts _ mcode_yJ9_abs_0f7a4) (Nat.le_of_ble_eq_true rfl) (Nat.le_of_ble_eq_true rfl) (Nat.zero_le _) (Nat.zero_le _) dX2_draw_114 ?_
              refine lv_topi (fun v23 ev23 => ?_)
              obtain rfl : v23 = nI (wt - U i j) := abs_up ev23 ev22 (by omega) (by omega)
              refine lv_aload_n hx hb dX2_draw_117 rfl (lv_at hl 5 rfl) ?_
              refine lv_iload hx hb dX2_draw_118 (lv_at hl 2 rfl) ?_
              refine lv_iload hx hb dX2_draw_120 (lv_at hl 1 rfl) ?_
              refine rdV (rest := [.int (nI (wt - U i j))]) (q0 := 0) ⟨hx, hb, hml, hown, hts⟩ (e_X2_room l G a b f (upd qf 3 xr) (up2 r 12 x14) (up2 (up2 (up2 q 0 x10) 1 xb) 2 xq) (12 + j) i L U Lo Hi kp (offT on i j) (by omega) (by omega) hCL hSn (rowV_le hVn hoo) (rowV_le hlo hoo) (rowV_le hhi hoo) (fun x y e9 => (hBn x y (hoo x y e9)).2.2)) mi_yX2_room mv_yX2_room ml_X2_133 ⟨rfl, rfl, Nat.le_of_ble_eq_true rfl, Nat.le_of_ble_eq_true rfl⟩ hK (hP) rfl rfl rfl hl.1 rfl (Nat.le_of_ble_eq_true rfl) dX2_draw_122 ⟨Nat.zero_le _, Nat.zero_le _⟩ hS hA hP (fun r24 H locs hr24 hP hS => ?_)
              obtain rfl := hr24
              refine va_mmin hx hb (hml.trans hl.1.symm) hown (hts _ ml_X2_136) (hts _ mst_yJ9_min_7cf53) (hts _ mz_RJ9) (hts _ mcode_yJ9_min_7cf53) (Nat.le_of_ble_eq_true rfl) (Nat.le_of_ble_eq_true rfl) (Nat.zero_le _) (Nat.zero_le _) dX2_draw_125 ?_
              refine lv_topi (fun v25 ev25 => ?_)
              obtain ⟨d, hd⟩ : ∃ d9 : Nat, d9 = if mnF (resA xb i U Lo Hi) (L i) < wt - U i j then mnF (resA xb i U Lo Hi) (L i) else wt - U i j := ⟨_, rfl⟩
              have hd3 := min_or (wt - U i j) (mnF (resA xb i U Lo Hi) (L i))
              rw [← hd] at hd3
              have ev25 : v25 = if nI (mnF (resA xb i U Lo Hi) (L i)) < nI (wt - U i j) then nI (mnF (resA xb i U Lo Hi) (L i)) else nI (wt - U i j) := ev25
              obtain rfl : v25 = nI d := ev25.trans ((min_nI (by omega) (by omega)).trans (by rw [hd]))
              have hdM : d ≤ mnF (resA xb i U Lo Hi) (L i) := by omega
              have hdD : d ≤ wt - U i j := by omega
              have hdR : ∀ k, k < L i → d ≤ resA xb i U Lo Hi k := fun k hk => Nat.le_trans hdM (mnF_all _ k hk)
              refine lv_istore (lv' := [(10, .int (nI d)), (9, .int (nI n)), (8, .int (nI i)), (7, .int (nI (12 + j))), (6, .int 0), (4, .int (nI (i * 12 + j))), (0, .ref (a 15)), (3, .int (nI wt))]) hx hb dX2_draw_128 hl (by decide) rfl (fun ls hl => ?_)
              refine lv_aload_n hx hb dX2_draw_130 rfl (lv_at hl 6 rfl) ?_
              refine lv_iload hx hb dX2_draw_131 (lv_at hl 3 rfl) ?_
              refine lv_iload hx hb dX2_draw_133 (lv_at hl 2 rfl) ?_
              refine lv_iload hx hb dX2_draw_135 (lv_at hl 0 rfl) ?_
              refine wrVVa (rest := []) (q0 := 0) ⟨hx, hb, hml, hown, hts⟩ (e_X2_shift l G a b f (upd qf 3 xr) (up2 r 12 x14) (up2 (up2 (up2 q 0 x10) 1 xb) 2 xq) (12 + j) i d L U Lo Hi kp (offT on i j) (by omega) (by omega) hCL hSn (rowV_le hVn hoo) (rowV_le hlo hoo) (rowV_le hhi hoo) (fun x y e9 => (hBn x y (hoo x y e9)).2.2) hdR (fun x y h8 h9 e9 => hkr x y h8 h9 (offT_le e9))) mi_yX2_shift mv_yX2_shift ml_X2_139 ⟨rfl, rfl, Nat.le_of_ble_eq_true rfl, Nat.le_of_ble_eq_true rfl⟩ hK hP (hDD _ _ _ _) rfl rfl rfl hl.1 rfl (Nat.le_of_ble_eq_true rfl) dX2_draw_137 ⟨Nat.zero_le _, Nat.zero_le _⟩ hS hA (fun w27 H locs hw27 hP hS => ?_)
              obtain ⟨x28, x29, rfl, hvn, hsn, hofn⟩ := hw27
              have hP : PP G (rdW G a b f (upd qf 3 xr) (up2 r 12 x29) (up2 (up2 (up2 q 0 x28) 1 xb) 2 xq)) H := hP
              have hvn : rowV (offT on i j) (shT xb i d U (L i)) x29 := hvn
              have hsn : SYN kp (shT xb i d U (L i)) Lo Hi (offT on i j) x28 := hsn
              have hofn : ∀ x y, x < 12 → y < 12 → (offT on i j) x y = false → x29 (x * 12 + y) = x14 (x * 12 + y) := hofn
              refine lv_aload_n hx hb dX2_draw_140 rfl (lv_at hl 6 rfl) ?_
              refine va_get (D := G.1) (ci := 2) (v := .ref (a 12)) (C := RX2) (T := TX2) (N := 15) hx hb hts inX2 hown hK.1 hP 0 rfl rfl 12 (by decide) (hts _ mf_X2_54) (fun _ h9 => h9) rfl dX2_draw_141 ?_
              refine lv_iload hx hb dX2_draw_144 (lv_at hl 5 rfl) ?_
              refine lv_dup2_11 hx hb dX2_draw_146 rfl rfl ?_
              refine xiald (f := x29) hx hb hK hP 7 ((i * 12 + j)) (rfl) (by omega) (by decide) rfl dX2_draw_147 ?_
              refine lv_topi (fun v30 ev30 => ?_)
              obtain rfl : v30 = nI (U i j) := ev30.trans ((hofn i j hi hj offT_s).trans (hVn i j hi hj hdij))
              refine lv_iload hx hb dX2_draw_148 (lv_at hl 4 rfl) ?_
              refine lv_if_eq (tgt := 159) hx hb dX2_draw_150 (by decide) (fun c31 => ?_) (fun c31 => absurd (by decide) c31)
              refine lv_iload hx hb dX2_draw_159 (lv_at hl 0 rfl) ?_
              refine lv_iadd hx hb dX2_draw_161 ?_
              refine lv_topi (fun v32 ev32 => ?_)
              obtain rfl : v32 = nI ((U i j) + d) := nI_plus ev32 rfl rfl
              refine xiast (f := x29) (x := (nI ((U i j) + d))) hx hb hK hP (hDD _ _ _ _) hS 7 ((i * 12 + j)) (rfl) (by omega) (by decide) rfl dX2_draw_162 (fun H locs hP _ hS => ?_)
              have hP : PP G (rdW G a b f (upd qf 3 xr) (up2 r 12 (upd x29 ((i * 12 + j)) ((nI ((U i j) + d))))) (up2 (up2 (up2 q 0 x28) 1 xb) 2 xq)) H := hP
              have hT := turn_u hi hj offT_s hkij hCL hSn hdR (by omega) hAn hBn hVn hvn hsn hofn
              obtain ⟨v33, ev33⟩ : ∃ y9 : Int32, y9 = (nI n) + Int32.ofInt (1) := ⟨_, rfl⟩
              refine lv_iinc (v := v33) (lv' := [(9, .int v33), (10, .int (nI d)), (8, .int (nI i)), (7, .int (nI (12 + j))), (6, .int 0), (4, .int (nI (i * 12 + j))), (0, .ref (a 15)), (3, .int (nI wt))]) hx hb dX2_draw_163 hl (k := 1) rfl ev33.symm (by decide) rfl (fun ls hl => ?_)
              obtain rfl : v33 = nI (n + 1) := nI_plus (i := n) (j := 1) ev33 rfl (by decide)
              refine lv_goto (tgt := 72) hx hb dX2_draw_166 (by decide) ?_
              exact ih72k9 (n + 1) (upT (shT xb i d U (L i)) i j (U i j + d)) L x28 xb xq xr (upd x29 ((i * 12 + j)) ((nI ((U i j) + d)))) (by omega) (by omega) (hT.1) (hT.2.1) (hT.2.2.1) (hT.2.2.2) (by rw [upT_s]; omega) (hd3.elim (fun z9 => Or.inr ⟨(turn_m hCL hSn hsn z9.1 (by omega)).1, hCL.2.1, by have h9 := (turn_m hCL hSn hsn z9.1 (by omega)).2; omega⟩) (fun z9 => Or.inl (by rw [upT_s]; omega))) (turn_f hdij hj hoo hofn hfn) _ _ _ hP hS (lv_sub hl [0, 2, 3, 4, 5, 6, 7] rfl)
            · have hclo := (hres.resolve_right (fun z9 => absurd (z9.1.symm.trans c20) (by decide))).2
              exact wr_vret hx hb hr hlocks hS hP ⟨x10, xb, xq, xr, x14, U, rfl, hVn, hSn, hAn, hBn, hfn, (Or.inr (Or.inr ⟨by omega, fun w9 h9 => clo_hi hi hj hclo hSn hkk (agN_tr hAn h9)⟩))⟩ dX2_draw_104
    exact loop72 (1000000 + 1) 0 V (fun _ => 0) (jnF (q 0) i (12 + j) 0 0) (q 1) (q 2) (qf 3) (r 12) (by omega) (by omega) (hva) (SYN_off0 hSY hi hj) (hAg) (hB) (by omega) (Or.inr ⟨lv_0, rfl, by rw [Nat.zero_add]; exact msr_le _ _ _⟩) (fun _ _ _ _ _ => rfl) _ _ _ hP hS (lv_sub hl [0, 1, 2, 3, 5, 6, 9] rfl)
  · have b33 := qge_f (a := wt) (b := (V i j)) (by omega) (by omega) c6
    refine lv_iconst (v := 1) hx hb dX2_draw_36 (by decide) ?_
    refine lv_goto (tgt := 41) hx hb dX2_draw_37 (by decide) ?_
    refine lv_istore (lv' := [(6, .int 1), (5, .int (nI (12 + j))), (4, .int (nI (i * 12 + j))), (0, .ref (a 15)), (1, .int (nI i)), (2, .int (nI j)), (3, .int (nI wt))]) hx hb dX2_draw_41 hl (by decide) rfl (fun ls hl => ?_)
    refine lv_iload hx hb dX2_draw_43 (lv_at hl 0 rfl) ?_
    refine lv_if_eq (tgt := 52) hx hb dX2_draw_45 (by decide) (fun c34 => absurd c34 (by decide)) (fun c34 => ?_)
    refine lv_iload_n hx hb dX2_draw_48 rfl (lv_at hl 4 rfl) ?_
    refine lv_goto (tgt := 54) hx hb dX2_draw_49 (by decide) ?_
    refine lv_istore (lv' := [(7, .int (nI i)), (6, .int 1), (5, .int (nI (12 + j))), (4, .int (nI (i * 12 + j))), (0, .ref (a 15)), (1, .int (nI i)), (2, .int (nI j)), (3, .int (nI wt))]) hx hb dX2_draw_54 hl (by decide) rfl (fun ls hl => ?_)
    refine lv_iload hx hb dX2_draw_56 (lv_at hl 1 rfl) ?_
    refine lv_if_eq (tgt := 66) hx hb dX2_draw_58 (by decide) (fun c35 => absurd c35 (by decide)) (fun c35 => ?_)
    refine lv_iload hx hb dX2_draw_61 (lv_at hl 2 rfl) ?_
    refine lv_goto (tgt := 67) hx hb dX2_draw_63 (by decide) ?_
    refine lv_istore (lv' := [(8, .int (nI (12 + j))), (7, .int (nI i)), (6, .int 1), (5, .int (nI (12 + j))), (4, .int (nI (i * 12 + j))), (0, .ref (a 15)), (1, .int (nI i)), (2, .int (nI j)), (3, .int (nI wt))]) hx hb dX2_draw_67 hl (by decide) rfl (fun ls hl => ?_)
    refine lv_iconst (v := 0) hx hb dX2_draw_69 (by decide) ?_
    refine lv_istore (lv' := [(9, .int 0), (8, .int (nI (12 + j))), (7, .int (nI i)), (6, .int 1), (5, .int (nI (12 + j))), (4, .int (nI (i * 12 + j))), (0, .ref (a 15)), (1, .int (nI i)), (2, .int (nI j)), (3, .int (nI wt))]) hx hb dX2_draw_70 hl (by decide) rfl (fun ls hl => ?_)
    have loop72 : ∀ (k36 n : Nat) (U : Nat → Nat → Nat) (L0 : Nat → Nat) (x37 : Nat → Int32) (x38 : Nat → Int32) (x39 : Nat → Int32) (x40 : Int32) (x41 : Nat → Int32), n ≤ 1000000 → 1000000 < n + k36 → (rowV dm U x41) → (SYN kp U Lo Hi (offT on i j) x37) → (agN kp Lo Hi V0 U) → (BND dm Lo Hi U) → (wt ≤ U i j) → (U i j = wt ∨ (lvOK (fun u v => bt (x37 u) v) L0 ∧ L0 i = 0 ∧ n + msr (fun u v => bt (x37 u) v) L0 (12 + j) ≤ 16275)) → (∀ x y, x < 12 → y < 12 → dm x y = false → x41 (x * 12 + y) = r 12 (x * 12 + y)) → ∀ (H : Heap) (locs : List Loc) (ls : Array Slot), PP G (rdW G a b f (upd qf 3 x40) (up2 r 12 x41) (up2 (up2 (up2 q 0 x37) 1 x38) 2 x39)) H → va_S A s.heap H locs → lv_has ls 11 [(9, .int (nI n)), (8, .int (nI (12 + j))), (7, .int (nI i)), (6, .int 1), (4, .int (nI (i * 12 + j))), (0, .ref (a 15)), (3, .int (nI wt))] → W p l e ({ frames := 3, cells := 0, slots := 0, locals := 77 }) s m ([.ref (a 15), .int (nI i), .int (nI j), .int (nI wt)] : List Value).toArray below meth c H locs 0 0 (MQ below (QwV G (fun w => ∃ (n_q_0 : Nat → Int32) (n_q_1 : Nat → Int32) (n_q_2 : Nat → Int32) (n_qf_3 : Int32) (n_r_12 : Nat → Int32) (V2 : Nat → Nat → Nat), w = rdW G a b f (upd qf 3 n_qf_3) (up2 r 12 n_r_12) (up2 (up2 (up2 q 0 n_q_0) 1 n_q_1) 2 n_q_2) ∧ (rowV dm V2 n_r_12) ∧ (SYN kp V2 Lo Hi (offT on i j) n_q_0) ∧ (agN kp Lo Hi V0 V2) ∧ (BND dm Lo Hi V2) ∧ (∀ x y, x < 12 → y < 12 → dm x y = false → n_r_12 (x * 12 + y) = (r 12) (x * 12 + y)) ∧ (ENDS kp Lo Hi V0 i j wt V2)) A) ([.ref (a 15), .int (nI i), .int (nI j), .int (nI wt)] : List Value).toArray s 0 0 A) (F0 m 72 ls []) := by
      intro k36
      induction k36 with
      | zero => intro n U L0 x37 x38 x39 x40 x41 h1 h2; exact absurd h1 (by omega)
      | succ k36 ih72k36 =>
        intro n U L0 x37 x38 x39 x40 x41 hi_n hk_n hVn hSn hAn hBn hge hms hfn H locs ls hP hS hl
        have hBU := hBn i j hdij
        refine lv_iload hx hb dX2_draw_72 (lv_at hl 0 rfl) ?_
        refine lv_ldc hx hb hown (hts _ mk_X2_124) dX2_draw_74 ?_
        refine lv_icmp_ge (tgt := 169) hx hb dX2_draw_76 (by decide) (fun c42 => ?_) (fun c42 => ?_)
        · have b76 := qge_t (a := n) (b := 1000000) (by omega) (by omega) c42
          exact wr_vret hx hb hr hlocks hS hP ⟨x37, x38, x39, x40, x41, U, rfl, hVn, hSn, hAn, hBn, hfn, (Or.inl (hms.resolve_right (fun z9 => by have h9 := z9.2.2; omega)))⟩ dX2_draw_169
        · have b76 := qge_f (a := n) (b := 1000000) (by omega) (by omega) c42
          refine lv_aload_n hx hb dX2_draw_79 rfl (lv_at hl 5 rfl) ?_
          refine va_get (D := G.1) (ci := 2) (v := .ref (a 12)) (C := RX2) (T := TX2) (N := 15) hx hb hts inX2 hown hK.1 hP 0 rfl rfl 12 (by decide) (hts _ mf_X2_54) (fun _ h9 => h9) rfl dX2_draw_80 ?_
          refine lv_iload hx hb dX2_draw_83 (lv_at hl 4 rfl) ?_
          refine xiald (f := x41) hx hb hK hP 7 ((i * 12 + j)) (rfl) (by omega) (by decide) rfl dX2_draw_85 ?_
          refine lv_topi (fun v43 ev43 => ?_)
          obtain rfl : v43 = nI (U i j) := ev43.trans (hVn i j hi hj hdij)
          refine lv_iload_n hx hb dX2_draw_86 rfl (lv_at hl 6 rfl) ?_
          refine lv_icmp_eq (tgt := 169) hx hb dX2_draw_87 (by decide) (fun c44 => ?_) (fun c44 => ?_)
          · have b87 := qeq_t (a := (U i j)) (b := wt) (by omega) (by omega) c44
            exact wr_vret hx hb hr hlocks hS hP ⟨x37, x38, x39, x40, x41, U, rfl, hVn, hSn, hAn, hBn, hfn, (Or.inl b87)⟩ dX2_draw_169
          · have b87 := qeq_f (a := (U i j)) (b := wt) (by omega) (by omega) c44
            refine lv_aload_n hx hb dX2_draw_90 rfl (lv_at hl 5 rfl) ?_
            refine va_get (D := G.1) (ci := 2) (v := .ref (b 3)) (C := RX2) (T := TX2) (N := 15) hx hb hts inX2 hown hK.1 hP 0 rfl rfl 5 (by decide) (hts _ mf_X2_30) (fun _ h9 => h9) rfl dX2_draw_91 ?_
            refine lv_iload hx hb dX2_draw_94 (lv_at hl 2 rfl) ?_
            refine lv_iload hx hb dX2_draw_96 (lv_at hl 1 rfl) ?_
            refine wrVI (rest := []) (q0 := 0) ⟨hx, hb, hml, hown, hts⟩ (e_X5_leads l G b (upd qf 3 x40) (up2 (up2 (up2 q 0 x37) 1 x38) 2 x39) i (12 + j) (by omega) (by omega)) mi_yX5_leads mv_yX5_leads ml_X2_125 ⟨rfl, rfl, Nat.le_of_ble_eq_true rfl, Nat.le_of_ble_eq_true rfl⟩ hK hP (hDD _ _ _ _) [10, 11, 12, 13] rfl (by decide) rfl rfl rfl hl.1 rfl (Nat.le_of_ble_eq_true rfl) dX2_draw_98 ⟨Nat.zero_le _, Nat.zero_le _⟩ hS hA (fun r45 w46 H locs hw46 hP hS => ?_)
            obtain ⟨xb, xq, xr, rfl, hres⟩ := hw46
            have hP : PP G (rdW G a b f (upd qf 3 xr) (up2 r 12 x41) (up2 (up2 (up2 q 0 x37) 1 xb) 2 xq)) H := hP rfl
            have hres : (r45 = 0 ∧ CLO x37 i (12 + j) xr) ∨ (r45 = 1 ∧ WAY x37 i (12 + j) xb) := hres
            refine lv_if_ne (tgt := 105) hx hb dX2_draw_101 (by decide) (fun c47 => ?_) (fun c47 => ?_)
            · have hway := (hres.resolve_left (fun z9 => c47 z9.1)).2
              obtain ⟨L1, hC1⟩ := CH_of hway (by omega)
              obtain ⟨hl0, hz0, hm0⟩ := hms.resolve_left b87
              obtain ⟨L, hCL, hmL⟩ := CH_best hC1 hl0 hz0
              have hM := mnF_le (rs := resA xb (12 + j) U Lo Hi) (L (12 + j))
              refine lv_iload_n hx hb dX2_draw_105 rfl (lv_at hl 6 rfl) ?_
              refine lv_aload_n hx hb dX2_draw_106 rfl (lv_at hl 5 rfl) ?_
              refine va_get (D := G.1) (ci := 2) (v := .ref (a 12)) (C := RX2) (T := TX2) (N := 15) hx hb hts inX2 hown hK.1 hP 0 rfl rfl 12 (by decide) (hts _ mf_X2_54) (fun _ h9 => h9) rfl dX2_draw_107 ?_
              refine lv_iload hx hb dX2_draw_110 (lv_at hl 4 rfl) ?_
              refine xiald (f := x41) hx hb hK hP 7 ((i * 12 + j)) (rfl) (by omega) (by decide) rfl dX2_draw_112 ?_
              refine lv_topi (fun v48 ev48 => ?_)
              obtain rfl : v48 = nI (U i j) := ev48.trans (hVn i j hi hj hdij)
              refine lv_isub hx hb dX2_draw_113 ?_
              refine lv_topi (fun v49 ev49 => ?_)
              refine va_mabs hx hb (hml.trans hl.1.symm) hown (hts _ ml_X2_128) (hts _ mst_yJ9_abs_0f7a4) (hts _ mz_RJ9) (hts _ mcode_yJ9_abs_0f7a4) (Nat.le_of_ble_eq_true rfl) (Nat.le_of_ble_eq_true rfl) (Nat.zero_le _) (Nat.zero_le _) dX2_draw_114 ?_
              refine lv_topi (fun v50 ev50 => ?_)
              obtain rfl : v50 = nI (U i j - wt) := abs_dn ev50 ev49 (by omega) (by omega)
              refine lv_aload_n hx hb dX2_draw_117 rfl (lv_at hl 5 rfl) ?_
              refine lv_iload hx hb dX2_draw_118 (lv_at hl 2 rfl) ?_
              refine lv_iload hx hb dX2_draw_120 (lv_at hl 1 rfl) ?_
              refine rdV (rest := [.int (nI (U i j - wt))]) (q0 := 0) ⟨hx, hb, hml, hown, hts⟩ (e_X2_room l G a b f (upd qf 3 xr) (up2 r 12 x41) (up2 (up2 (up2 q 0 x37) 1 xb) 2 xq) i (12 + j) L U Lo Hi kp (offT on i j) (by omega) (by omega) hCL hSn (rowV_le hVn hoo) (rowV_le hlo hoo) (rowV_le hhi hoo) (fun x y e9 => (hBn x y (hoo x y e9)).2.2)) mi_yX2_room mv_yX2_room ml_X2_133 ⟨rfl, rfl, Nat.le_of_ble_eq_true rfl, Nat.le_of_ble_eq_true rfl⟩ hK (hP) rfl rfl rfl hl.1 rfl (Nat.le_of_ble_eq_true rfl) dX2_draw_122 ⟨Nat.zero_le _, Nat.zero_le _⟩ hS hA hP (fun r51 H locs hr51 hP hS => ?_)
              obtain rfl := hr51
              refine va_mmin hx hb (hml.trans hl.1.symm) hown (hts _ ml_X2_136) (hts _ mst_yJ9_min_7cf53) (hts _ mz_RJ9) (hts _ mcode_yJ9_min_7cf53) (Nat.le_of_ble_eq_true rfl) (Nat.le_of_ble_eq_true rfl) (Nat.zero_le _) (Nat.zero_le _) dX2_draw_125 ?_
              refine lv_topi (fun v52 ev52 => ?_)
              obtain ⟨d, hd⟩ : ∃ d9 : Nat, d9 = if mnF (resA xb (12 + j) U Lo Hi) (L (12 + j)) < U i j - wt then mnF (resA xb (12 + j) U Lo Hi) (L (12 + j)) else U i j - wt := ⟨_, rfl⟩
              have hd3 := min_or (U i j - wt) (mnF (resA xb (12 + j) U Lo Hi) (L (12 + j)))
              rw [← hd] at hd3
              have ev52 : v52 = if nI (mnF (resA xb (12 + j) U Lo Hi) (L (12 + j))) < nI (U i j - wt) then nI (mnF (resA xb (12 + j) U Lo Hi) (L (12 + j))) else nI (U i j - wt) := ev52
              obtain rfl : v52 = nI d := ev52.trans ((min_nI (by omega) (by omega)).trans (by rw [hd]))
              have hdM : d ≤ mnF (resA xb (12 + j) U Lo Hi) (L (12 + j)) := by omega
              have hdD : d ≤ U i j - wt := by omega
              have hdR : ∀ k, k < L (12 + j) → d ≤ resA xb (12 + j) U Lo Hi k := fun k hk => Nat.le_trans hdM (mnF_all _ k hk)
              refine lv_istore (lv' := [(10, .int (nI d)), (9, .int (nI n)), (8, .int (nI (12 + j))), (7, .int (nI i)), (6, .int 1), (4, .int (nI (i * 12 + j))), (0, .ref (a 15)), (3, .int (nI wt))]) hx hb dX2_draw_128 hl (by decide) rfl (fun ls hl => ?_)
              refine lv_aload_n hx hb dX2_draw_130 rfl (lv_at hl 6 rfl) ?_
              refine lv_iload hx hb dX2_draw_131 (lv_at hl 3 rfl) ?_
              refine lv_iload hx hb dX2_draw_133 (lv_at hl 2 rfl) ?_
              refine lv_iload hx hb dX2_draw_135 (lv_at hl 0 rfl) ?_
              refine wrVVa (rest := []) (q0 := 0) ⟨hx, hb, hml, hown, hts⟩ (e_X2_shift l G a b f (upd qf 3 xr) (up2 r 12 x41) (up2 (up2 (up2 q 0 x37) 1 xb) 2 xq) i (12 + j) d L U Lo Hi kp (offT on i j) (by omega) (by omega) hCL hSn (rowV_le hVn hoo) (rowV_le hlo hoo) (rowV_le hhi hoo) (fun x y e9 => (hBn x y (hoo x y e9)).2.2) hdR (fun x y h8 h9 e9 => hkr x y h8 h9 (offT_le e9))) mi_yX2_shift mv_yX2_shift ml_X2_139 ⟨rfl, rfl, Nat.le_of_ble_eq_true rfl, Nat.le_of_ble_eq_true rfl⟩ hK hP (hDD _ _ _ _) rfl rfl rfl hl.1 rfl (Nat.le_of_ble_eq_true rfl) dX2_draw_137 ⟨Nat.zero_le _, Nat.zero_le _⟩ hS hA (fun w54 H locs hw54 hP hS => ?_)
              obtain ⟨x55, x56, rfl, hvn, hsn, hofn⟩ := hw54
              have hP : PP G (rdW G a b f (upd qf 3 xr) (up2 r 12 x56) (up2 (up2 (up2 q 0 x55) 1 xb) 2 xq)) H := hP
              have hvn : rowV (offT on i j) (shT xb (12 + j) d U (L (12 + j))) x56 := hvn
              have hsn : SYN kp (shT xb (12 + j) d U (L (12 + j))) Lo Hi (offT on i j) x55 := hsn
              have hofn : ∀ x y, x < 12 → y < 12 → (offT on i j) x y = false → x56 (x * 12 + y) = x41 (x * 12 + y) := hofn
              refine lv_aload_n hx hb dX2_draw_140 rfl (lv_at hl 6 rfl) ?_
              refine va_get (D := G.1) (ci := 2) (v := .ref (a 12)) (C := RX2) (T := TX2) (N := 15) hx hb hts inX2 hown hK.1 hP 0 rfl rfl 12 (by decide) (hts _ mf_X2_54) (fun _ h9 => h9) rfl dX2_draw_141 ?_
              refine lv_iload hx hb dX2_draw_144 (lv_at hl 5 rfl) ?_
              refine lv_dup2_11 hx hb dX2_draw_146 rfl rfl ?_
              refine xiald (f := x56) hx hb hK hP 7 ((i * 12 + j)) (rfl) (by omega) (by decide) rfl dX2_draw_147 ?_
              refine lv_topi (fun v57 ev57 => ?_)
              obtain rfl : v57 = nI (U i j) := ev57.trans ((hofn i j hi hj offT_s).trans (hVn i j hi hj hdij))
              refine lv_iload hx hb dX2_draw_148 (lv_at hl 4 rfl) ?_
              refine lv_if_eq (tgt := 159) hx hb dX2_draw_150 (by decide) (fun c58 => absurd c58 (by decide)) (fun c58 => ?_)
              refine lv_iload hx hb dX2_draw_153 (lv_at hl 0 rfl) ?_
              refine lv_ineg hx hb dX2_draw_155 ?_
              refine lv_topi (fun v59 ev59 => ?_)
              refine lv_goto (tgt := 161) hx hb dX2_draw_156 (by decide) ?_
              refine lv_iadd hx hb dX2_draw_161 ?_
              refine lv_topi (fun v60 ev60 => ?_)
              obtain rfl : v60 = nI (U i j - d) := neg_add8 ev59 ev60 (by omega)
              refine xiast (f := x56) (x := (nI (U i j - d))) hx hb hK hP (hDD _ _ _ _) hS 7 ((i * 12 + j)) (rfl) (by omega) (by decide) rfl dX2_draw_162 (fun H locs hP _ hS => ?_)
              have hP : PP G (rdW G a b f (upd qf 3 xr) (up2 r 12 (upd x56 ((i * 12 + j)) ((nI (U i j - d))))) (up2 (up2 (up2 q 0 x55) 1 xb) 2 xq)) H := hP
              have hT := turn_d hi hj offT_s hkij hCL hSn hdR (by omega) hAn hBn hVn hvn hsn hofn
              obtain ⟨v61, ev61⟩ : ∃ y9 : Int32, y9 = (nI n) + Int32.ofInt (1) := ⟨_, rfl⟩
              refine lv_iinc (v := v61) (lv' := [(9, .int v61), (10, .int (nI d)), (8, .int (nI (12 + j))), (7, .int (nI i)), (6, .int 1), (4, .int (nI (i * 12 + j))), (0, .ref (a 15)), (3, .int (nI wt))]) hx hb dX2_draw_163 hl (k := 1) rfl ev61.symm (by decide) rfl (fun ls hl => ?_)
              obtain rfl : v61 = nI (n + 1) := nI_plus (i := n) (j := 1) ev61 rfl (by decide)
              refine lv_goto (tgt := 72) hx hb dX2_draw_166 (by decide) ?_
              exact ih72k36 (n + 1) (upT (shT xb (12 + j) d U (L (12 + j))) i j (U i j - d)) L x55 xb xq xr (upd x56 ((i * 12 + j)) ((nI (U i j - d)))) (by omega) (by omega) (hT.1) (hT.2.1) (hT.2.2.1) (hT.2.2.2) (by rw [upT_s]; omega) (hd3.elim (fun z9 => Or.inr ⟨(turn_m hCL hSn hsn z9.1 (by omega)).1, hCL.2.1, by have h9 := (turn_m hCL hSn hsn z9.1 (by omega)).2; omega⟩) (fun z9 => Or.inl (by rw [upT_s]; omega))) (turn_f hdij hj hoo hofn hfn) _ _ _ hP hS (lv_sub hl [0, 2, 3, 4, 5, 6, 7] rfl)
            · have hclo := (hres.resolve_right (fun z9 => absurd (z9.1.symm.trans c47) (by decide))).2
              exact wr_vret hx hb hr hlocks hS hP ⟨x37, xb, xq, xr, x41, U, rfl, hVn, hSn, hAn, hBn, hfn, (Or.inr (Or.inl ⟨by omega, fun w9 h9 => clo_lo hi hj hclo hSn hkk (agN_tr hAn h9)⟩))⟩ dX2_draw_104
    exact loop72 (1000000 + 1) 0 V (fun _ => 0) (jnF (q 0) i (12 + j) 0 0) (q 1) (q 2) (qf 3) (r 12) (by omega) (by omega) (hva) (SYN_off0 hSY hi hj) (hAg) (hB) (by omega) (Or.inr ⟨lv_0, rfl, by rw [Nat.zero_add]; exact msr_le _ _ _⟩) (fun _ _ _ _ _ => rfl) _ _ _ hP hS (lv_sub hl [0, 1, 2, 3, 5, 6, 9] rfl)
