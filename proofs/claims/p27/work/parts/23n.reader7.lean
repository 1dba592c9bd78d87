
def rowV (on : Nat → Nat → Bool) (V : Nat → Nat → Nat) (va : Nat → Int32) : Prop := ∀ i j, i < 12 → j < 12 → on i j = true → va (i * 12 + j) = nI (V i j)
def mnF (rs : Nat → Nat) : Nat → Nat
  | 0 => 1073741824
  | k + 1 => if rs k < mnF rs k then rs k else mnF rs k
theorem mnF_le {rs : Nat → Nat} : ∀ n, mnF rs n ≤ 1073741824
  | 0 => Nat.le_refl _
  | n + 1 => by
    have := mnF_le (rs := rs) n
    show (if rs n < mnF rs n then rs n else mnF rs n) ≤ 1073741824
    split <;> omega
theorem mnF_all {rs : Nat → Nat} : ∀ n k, k < n → mnF rs n ≤ rs k
  | 0, k, hk => absurd hk (by omega)
  | n + 1, k, hk => by
    show (if rs n < mnF rs n then rs n else mnF rs n) ≤ rs k
    by_cases e : k = n
    · subst e; split <;> omega
    · have := mnF_all (rs := rs) n k (by omega)
      split <;> omega
theorem mnF_ex {rs : Nat → Nat} : ∀ n, mnF rs n = 1073741824 ∨ ∃ k, k < n ∧ mnF rs n = rs k
  | 0 => Or.inl rfl
  | n + 1 => by
    show (if rs n < mnF rs n then rs n else mnF rs n) = 1073741824 ∨ ∃ k, k < n + 1 ∧ (if rs n < mnF rs n then rs n else mnF rs n) = rs k
    by_cases c : rs n < mnF rs n
    · rw [if_pos c]; exact Or.inr ⟨n, by omega, rfl⟩
    · rw [if_neg c]
      rcases mnF_ex (rs := rs) n with h | ⟨k, hk, h⟩
      · exact Or.inl h
      · exact Or.inr ⟨k, by omega, h⟩
theorem min_nI {a b : Nat} (ha : a < 2147483648) (hb : b < 2147483648) : (if nI b < nI a then nI b else nI a) = nI (if b < a then b else a) := by
  by_cases c : b < a
  · rw [if_pos c, if_pos (nI_lt c ha)]
  · rw [if_neg c, if_neg (fun z => c ((nI_ltI hb ha).mp z))]
theorem ch_end {s bb : Nat → Int32} {u0 t0 n : Nat} {L : Nat → Nat} (h : CH s u0 t0 bb L) (hn : n ≤ L t0) (e : chF bb t0 n = u0) : n = L t0 := by
  rcases Nat.lt_or_ge n (L t0) with c | c
  · exact absurd e (h.2.2.2.2 n c).2.2.1
  · omega
theorem ch_lt {s bb : Nat → Int32} {u0 t0 n : Nat} {L : Nat → Nat} (h : CH s u0 t0 bb L) (hn : n ≤ L t0) (e : chF bb t0 n ≠ u0) : n < L t0 := by
  rcases Nat.lt_or_ge n (L t0) with c | c
  · exact c
  · exact absurd (by rw [show n = L t0 by omega]; exact h.2.2.2.1) e
theorem rowV_u {on : Nat → Nat → Bool} {W : Nat → Nat → Nat} {va : Nat → Int32} {i j x : Nat} (h : rowV on W va) (hi : i < 12) (hj : j < 12) : rowV on (upT W i j x) (upd va (i * 12 + j) (nI x)) := fun a b ha hb e => by
  by_cases c : a = i ∧ b = j
  · obtain ⟨rfl, rfl⟩ := c; rw [pk_us, upT_s]
  · rw [pk_un (by omega), upT_n c]; exact h a b ha hb e
theorem mo_go {k v h : Int32} {kb : Bool} {n m : Nat} (hk : ¬ k = 0 ↔ kb = true) (hv : v = nI n) (hh : h = nI m) (hn : n < 2147483648) (hm : m < 2147483648) : (!decide (moF k v h = 0)) = (true && kb && decide (n < m)) := by
  unfold moF
  rw [hv, hh]
  by_cases c : ¬ k = 0 ∧ nI n < nI m
  · rw [if_pos c, hk.mp c.1, decide_eq_true ((nI_ltI hn hm).mp c.2)]; rfl
  · rw [if_neg c]
    cases hb : kb with
    | false => rfl
    | true =>
      have c2 : ¬ n < m := fun z => c ⟨hk.mpr hb, nI_lt z hm⟩
      rw [decide_eq_false c2]; rfl
theorem le_go {k v h : Int32} {kb : Bool} {n m : Nat} (hk : ¬ k = 0 ↔ kb = true) (hv : v = nI n) (hh : h = nI m) (hn : n < 2147483648) (hm : m < 2147483648) : (!decide (leF k v h = 0)) = (true && kb && decide (m < n)) := by
  unfold leF
  rw [hv, hh]
  by_cases c : ¬ k = 0 ∧ nI m < nI n
  · rw [if_pos c, hk.mp c.1, decide_eq_true ((nI_ltI hm hn).mp c.2)]; rfl
  · rw [if_neg c]
    cases hb : kb with
    | false => rfl
    | true =>
      have c2 : ¬ m < n := fun z => c ⟨hk.mpr hb, nI_lt z hn⟩
      rw [decide_eq_false c2]; rfl
theorem SYN_rf {kp on : Nat → Nat → Bool} {V V2 Lo Hi : Nat → Nat → Nat} {s kr va lo hi : Nat → Int32} {i j : Nat} (h : SYN kp V Lo Hi on s) (hi' : i < 12) (hj : j < 12) (hV : ∀ a b, ¬ (a = i ∧ b = j) → V2 a b = V a b) (hon : on i j = true) (hk : ¬ kr (i * 12 + j) = 0 ↔ kp i j = true) (hv : va (i * 12 + j) = nI (V2 i j)) (hl : lo (i * 12 + j) = nI (Lo i j)) (hh : hi (i * 12 + j) = nI (Hi i j)) (b1 : V2 i j ≤ 1073741824) (b2 : Lo i j ≤ 1073741824) (b3 : Hi i j ≤ 1073741824) : SYN kp V2 Lo Hi on (rfS kr va lo hi s i j) := by
  unfold rfS
  refine SYN_join h hi' hj hV (fun _ _ _ => rfl) ?_ ?_
  · unfold gof; rw [hon]; exact mo_go hk hv hh (by omega) (by omega)
  · unfold gob; rw [hon]; exact le_go hk hv hl (by omega) (by omega)
set_option maxHeartbeats 4000000 in
set_option maxRecDepth 100000 in
theorem e_X2_room (l : Launch) (G : GG) (a b : Nat → Nat) (f qf : Nat → Int32) (r q : Nat → Nat → Int32) (u0 : Nat) (t0 : Nat) (L : Nat → Nat) (V : Nat → Nat → Nat) (Lo : Nat → Nat → Nat) (Hi : Nat → Nat → Nat) (kp : Nat → Nat → Bool) (on : Nat → Nat → Bool) (hu : u0 < 25) (ht : t0 < 25) (hCH : CH (q 0) u0 t0 (q 1) L) (hSY : SYN kp V Lo Hi on (q 0)) (hva : rowV on V (r 12)) (hlo : rowV on Lo (r 13)) (hhi : rowV on Hi (r 14)) (hH : ∀ x y, on x y = true → Hi x y ≤ 1073741824 ∧ V x y ≤ Hi x y ∧ Lo x y ≤ V x y) : RdI l yX2_room cX2_room 8 (some .int) ({ frames := 1, cells := 0, slots := 0, locals := 21 }) G (rdW G a b f qf r q) [.ref (a 15), .int (nI u0), .int (nI t0)] (fun qz => qz = nI (mnF (resA (q 1) t0 V Lo Hi) (L t0))) := by
  refine rd_entry (by decide +kernel) (Nat.le_of_ble_eq_true rfl) ?_
  intro p e s m below meth c C0 hP hK ls hl
  have hS : va_S (fun q => s.heap.size ≤ q) s.heap s.heap [] := va_S.rf
  have hA : ∀ q, s.heap.size ≤ q → (fun q => s.heap.size ≤ q) q := fun _ h => h
  obtain ⟨hx, hb, hml, hown, hts, hr, hlocks, hin⟩ := C0
  have hown : s.vm.findClass RX2 = some m.cls := hown
  have hl : lv_has ls 8 [(0, .ref (a 15)), (1, .int (nI u0)), (2, .int (nI t0))] := hl
  have hL25 := hCH.2.2.1
  refine lv_ldc hx hb hown (hts _ mk_X2_106) dX2_room_0 ?_
  refine lv_istore_n (lv' := [(3, .int 1073741824), (0, .ref (a 15)), (1, .int (nI u0)), (2, .int (nI t0))]) hx hb dX2_room_2 rfl hl (by decide) rfl (fun ls hl => ?_)
  refine lv_iload_n hx hb dX2_room_3 rfl (lv_at hl 3 rfl) ?_
  refine lv_istore (lv' := [(4, .int (nI t0)), (3, .int 1073741824), (0, .ref (a 15)), (1, .int (nI u0)), (2, .int (nI t0))]) hx hb dX2_room_4 hl (by decide) rfl (fun ls hl => ?_)
  refine lv_iconst (v := 0) hx hb dX2_room_6 (by decide) ?_
  refine lv_istore (lv' := [(5, .int 0), (4, .int (nI t0)), (3, .int 1073741824), (0, .ref (a 15)), (1, .int (nI u0)), (2, .int (nI t0))]) hx hb dX2_room_7 hl (by decide) rfl (fun ls hl => ?_)
  have loop9 : ∀ (k1 n : Nat) (nd : Nat) (fd : Nat), n ≤ 25 → 25 < n + k1 → (nd < 25) → (fd ≤ 1073741824) → (nd = chF (q 1) t0 n) → (n ≤ L t0) → (fd = mnF (resA (q 1) t0 V Lo Hi) n) → ∀ (H : Heap) (locs : List Loc) (ls : Array Slot), PP G (rdW G a b f qf r q) H → va_S (fun q => s.heap.size ≤ q) s.heap H locs → lv_has ls 8 [(5, .int (nI n)), (4, .int (nI nd)), (3, .int (nI fd)), (0, .ref (a 15)), (1, .int (nI u0))] → W p l e ({ frames := 1, cells := 0, slots := 0, locals := 21 }) s m ([.ref (a 15), .int (nI u0), .int (nI t0)] : List Value).toArray below meth c H locs 0 0 (MQ below (QrI (fun qz => qz = nI (mnF (resA (q 1) t0 V Lo Hi) (L t0))) (fun q => s.heap.size ≤ q)) ([.ref (a 15), .int (nI u0), .int (nI t0)] : List Value).toArray s 0 0 (fun q => s.heap.size ≤ q)) (F0 m 9 ls []) := by
    intro k1
    induction k1 with
    | zero => intro n nd fd h1 h2; exact absurd h1 (by omega)
    | succ k1 ih9k1 =>
      intro n nd fd hi_n hk_n gnd gfd hnd hnl hfd H locs ls hP hS hl
      subst hnd
      refine lv_iload hx hb dX2_room_9 (lv_at hl 0 rfl) ?_
      refine lv_bipush (v := 25) hx hb dX2_room_11 (by decide) ?_
      refine lv_icmp_ge (tgt := 118) hx hb dX2_room_13 (by decide) (fun c4 => ?_) (fun c4 => ?_)
      · have b13 := qge_t (a := n) (b := 25) (by omega) (by omega) c4
        refine lv_iload_n hx hb dX2_room_118 rfl (lv_at hl 2 rfl) ?_
        exact rd_iret hx hb hr hlocks hS ((by rw [hfd, show n = L t0 by omega])) dX2_room_119
      · have b13 := qge_f (a := n) (b := 25) (by omega) (by omega) c4
        refine lv_iload hx hb dX2_room_16 (lv_at hl 1 rfl) ?_
        refine lv_iload_n hx hb dX2_room_18 rfl (lv_at hl 4 rfl) ?_
        refine lv_icmp_eq (tgt := 118) hx hb dX2_room_19 (by decide) (fun c5 => ?_) (fun c5 => ?_)
        · have b19 := qeq_t (a := (chF (q 1) t0 n)) (b := u0) (by omega) (by omega) c5
          refine lv_iload_n hx hb dX2_room_118 rfl (lv_at hl 2 rfl) ?_
          exact rd_iret hx hb hr hlocks hS ((by rw [hfd, ch_end hCH hnl b19])) dX2_room_119
        · have b19 := qeq_f (a := (chF (q 1) t0 n)) (b := u0) (by omega) (by omega) c5
          have hlt := ch_lt hCH hnl b19
          obtain ⟨y1, y2, y3, y4, y5, y6⟩ := hCH.2.2.2.2 n hlt
          have har := arc_of hSY y2 y1 y5
          refine lv_aload_n hx hb dX2_room_22 rfl (lv_at hl 3 rfl) ?_
          refine va_get (D := G.1) (ci := 2) (v := .ref (b 3)) (C := RX2) (T := TX2) (N := 15) hx hb hts inX2 hown hK.1 hP 0 rfl rfl 5 (by decide) (hts _ mf_X2_30) (fun _ h9 => h9) rfl dX2_room_23 ?_
          refine va_get (D := G.1) (ci := 5) (v := .ref (b 1)) (C := RX5) (T := TX5) (N := 4) hx hb hts inX5 hown hK.1 hP 10 rfl rfl 1 (by decide) (hts _ mf_X2_143) (fun _ h9 => h9) rfl dX2_room_26 ?_
          refine lv_iload hx hb dX2_room_29 (lv_at hl 1 rfl) ?_
          refine xiald (f := (q 1)) hx hb hK hP 12 ((chF (q 1) t0 n)) (rfl) (by omega) (by decide) rfl dX2_room_31 ?_
          refine lv_topi (fun v6 ev6 => ?_)
          obtain rfl : v6 = nI (chF (q 1) t0 (n + 1)) := ev6.trans (y4)
          refine lv_istore (lv' := [(6, .int (nI (chF (q 1) t0 (n + 1)))), (5, .int (nI n)), (4, .int (nI (chF (q 1) t0 n))), (3, .int (nI fd)), (0, .ref (a 15)), (1, .int (nI u0))]) hx hb dX2_room_32 hl (by decide) rfl (fun ls hl => ?_)
          refine lv_iload hx hb dX2_room_34 (lv_at hl 0 rfl) ?_
          refine lv_bipush (v := 12) hx hb dX2_room_36 (by decide) ?_
          refine lv_icmp_ge (tgt := 76) hx hb dX2_room_38 (by decide) (fun c7 => ?_) (fun c7 => ?_)
          · have b38 := qge_t (a := (chF (q 1) t0 (n + 1))) (b := 12) (by omega) (by omega) c7
            obtain ⟨ax1, ax2, ax3, ax4, ax5, ax6⟩ := har.resolve_left (fun z9 => absurd z9.1 (by omega))
            have hh := hH _ _ ax4
            have eR : ceR (q 1) t0 n = (chF (q 1) t0 n) := if_neg (by omega)
            have eC : ceC (q 1) t0 n = (chF (q 1) t0 (n + 1)) - 12 := if_neg (by omega)
            have eA : resA (q 1) t0 V Lo Hi n = V (chF (q 1) t0 n) ((chF (q 1) t0 (n + 1)) - 12) - Lo (chF (q 1) t0 n) ((chF (q 1) t0 (n + 1)) - 12) := by unfold resA; rw [if_neg (by omega), eR, eC]
            refine lv_iload hx hb dX2_room_76 (lv_at hl 2 rfl) ?_
            refine lv_iload hx hb dX2_room_78 (lv_at hl 0 rfl) ?_
            refine lv_bipush (v := 12) hx hb dX2_room_80 (by decide) ?_
            refine lv_isub hx hb dX2_room_82 ?_
            refine lv_topi (fun v8 ev8 => ?_)
            obtain rfl : v8 = nI ((chF (q 1) t0 (n + 1)) - 12) := nI_minus ev8 rfl rfl (by omega)
            refine rdSN (rest := []) ⟨hx, hb, hml, hown, hts⟩ (c_X6_spotOf l G ((nI (chF (q 1) t0 n))) ((nI ((chF (q 1) t0 (n + 1)) - 12)))) mi_yX6_spotOf mst_yX6_spotOf (by decide +kernel) ⟨rfl, rfl, Nat.le_of_ble_eq_true rfl, Nat.le_of_ble_eq_true rfl⟩ hK (fun k q h => by simp at h) rfl hl.1 rfl (Nat.le_of_ble_eq_true rfl) dX2_room_83 ⟨Nat.zero_le _, Nat.zero_le _⟩ hS hA hP (fun r9 H locs hr9 hP hS => ?_)
            obtain rfl : r9 = nI ((chF (q 1) t0 n) * 12 + ((chF (q 1) t0 (n + 1)) - 12)) := spot_eq hr9
            refine lv_istore (lv' := [(7, .int (nI ((chF (q 1) t0 n) * 12 + ((chF (q 1) t0 (n + 1)) - 12)))), (6, .int (nI (chF (q 1) t0 (n + 1)))), (5, .int (nI n)), (4, .int (nI (chF (q 1) t0 n))), (3, .int (nI fd)), (0, .ref (a 15)), (1, .int (nI u0))]) hx hb dX2_room_86 hl (by decide) rfl (fun ls hl => ?_)
            refine lv_iload_n hx hb dX2_room_88 rfl (lv_at hl 4 rfl) ?_
            refine lv_aload_n hx hb dX2_room_89 rfl (lv_at hl 5 rfl) ?_
            refine va_get (D := G.1) (ci := 2) (v := .ref (a 12)) (C := RX2) (T := TX2) (N := 15) hx hb hts inX2 hown hK.1 hP 0 rfl rfl 12 (by decide) (hts _ mf_X2_54) (fun _ h9 => h9) rfl dX2_room_90 ?_
            refine lv_iload hx hb dX2_room_93 (lv_at hl 0 rfl) ?_
            refine xiald (f := (r 12)) hx hb hK hP 7 (((chF (q 1) t0 n) * 12 + ((chF (q 1) t0 (n + 1)) - 12))) (rfl) (by omega) (by decide) rfl dX2_room_95 ?_
            refine lv_topi (fun v10 ev10 => ?_)
            obtain rfl : v10 = nI (V (chF (q 1) t0 n) ((chF (q 1) t0 (n + 1)) - 12)) := ev10.trans (hva _ _ (by omega) (by omega) ax4)
            refine lv_aload_n hx hb dX2_room_96 rfl (lv_at hl 5 rfl) ?_
            refine va_get (D := G.1) (ci := 2) (v := .ref (a 13)) (C := RX2) (T := TX2) (N := 15) hx hb hts inX2 hown hK.1 hP 0 rfl rfl 13 (by decide) (hts _ mf_X2_57) (fun _ h9 => h9) rfl dX2_room_97 ?_
            refine lv_iload hx hb dX2_room_100 (lv_at hl 0 rfl) ?_
            refine xiald (f := (r 13)) hx hb hK hP 8 (((chF (q 1) t0 n) * 12 + ((chF (q 1) t0 (n + 1)) - 12))) (rfl) (by omega) (by decide) rfl dX2_room_102 ?_
            refine lv_topi (fun v11 ev11 => ?_)
            obtain rfl : v11 = nI (Lo (chF (q 1) t0 n) ((chF (q 1) t0 (n + 1)) - 12)) := ev11.trans (hlo _ _ (by omega) (by omega) ax4)
            refine lv_isub hx hb dX2_room_103 ?_
            refine lv_topi (fun v12 ev12 => ?_)
            obtain rfl : v12 = nI ((V (chF (q 1) t0 n) ((chF (q 1) t0 (n + 1)) - 12)) - (Lo (chF (q 1) t0 n) ((chF (q 1) t0 (n + 1)) - 12))) := nI_minus ev12 rfl rfl (by omega)
            refine va_mmin hx hb (hml.trans hl.1.symm) hown (hts _ ml_X2_136) (hts _ mst_yJ9_min_7cf53) (hts _ mz_RJ9) (hts _ mcode_yJ9_min_7cf53) (Nat.le_of_ble_eq_true rfl) (Nat.le_of_ble_eq_true rfl) (Nat.zero_le _) (Nat.zero_le _) dX2_room_104 ?_
            refine lv_topi (fun v13 ev13 => ?_)
            obtain rfl : v13 = nI (if V (chF (q 1) t0 n) ((chF (q 1) t0 (n + 1)) - 12) - Lo (chF (q 1) t0 n) ((chF (q 1) t0 (n + 1)) - 12) < fd then V (chF (q 1) t0 n) ((chF (q 1) t0 (n + 1)) - 12) - Lo (chF (q 1) t0 n) ((chF (q 1) t0 (n + 1)) - 12) else fd) := ev13.trans (min_nI (by omega) (by omega))
            have hmb : (if V (chF (q 1) t0 n) ((chF (q 1) t0 (n + 1)) - 12) - Lo (chF (q 1) t0 n) ((chF (q 1) t0 (n + 1)) - 12) < fd then V (chF (q 1) t0 n) ((chF (q 1) t0 (n + 1)) - 12) - Lo (chF (q 1) t0 n) ((chF (q 1) t0 (n + 1)) - 12) else fd) ≤ 1073741824 := by split <;> omega
            refine lv_istore_n (lv' := [(3, .int (nI (if V (chF (q 1) t0 n) ((chF (q 1) t0 (n + 1)) - 12) - Lo (chF (q 1) t0 n) ((chF (q 1) t0 (n + 1)) - 12) < fd then V (chF (q 1) t0 n) ((chF (q 1) t0 (n + 1)) - 12) - Lo (chF (q 1) t0 n) ((chF (q 1) t0 (n + 1)) - 12) else fd))), (7, .int (nI ((chF (q 1) t0 n) * 12 + ((chF (q 1) t0 (n + 1)) - 12)))), (6, .int (nI (chF (q 1) t0 (n + 1)))), (5, .int (nI n)), (4, .int (nI (chF (q 1) t0 n))), (0, .ref (a 15)), (1, .int (nI u0))]) hx hb dX2_room_107 rfl hl (by decide) rfl (fun ls hl => ?_)
            refine lv_iload hx hb dX2_room_108 (lv_at hl 2 rfl) ?_
            refine lv_istore (lv' := [(4, .int (nI (chF (q 1) t0 (n + 1)))), (3, .int (nI (if V (chF (q 1) t0 n) ((chF (q 1) t0 (n + 1)) - 12) - Lo (chF (q 1) t0 n) ((chF (q 1) t0 (n + 1)) - 12) < fd then V (chF (q 1) t0 n) ((chF (q 1) t0 (n + 1)) - 12) - Lo (chF (q 1) t0 n) ((chF (q 1) t0 (n + 1)) - 12) else fd))), (7, .int (nI ((chF (q 1) t0 n) * 12 + ((chF (q 1) t0 (n + 1)) - 12)))), (6, .int (nI (chF (q 1) t0 (n + 1)))), (5, .int (nI n)), (0, .ref (a 15)), (1, .int (nI u0))]) hx hb dX2_room_110 hl (by decide) rfl (fun ls hl => ?_)
            obtain ⟨v14, ev14⟩ : ∃ y9 : Int32, y9 = (nI n) + Int32.ofInt (1) := ⟨_, rfl⟩
            refine lv_iinc (v := v14) (lv' := [(5, .int v14), (4, .int (nI (chF (q 1) t0 (n + 1)))), (3, .int (nI (if V (chF (q 1) t0 n) ((chF (q 1) t0 (n + 1)) - 12) - Lo (chF (q 1) t0 n) ((chF (q 1) t0 (n + 1)) - 12) < fd then V (chF (q 1) t0 n) ((chF (q 1) t0 (n + 1)) - 12) - Lo (chF (q 1) t0 n) ((chF (q 1) t0 (n + 1)) - 12) else fd))), (7, .int (nI ((chF (q 1) t0 n) * 12 + ((chF (q 1) t0 (n + 1)) - 12)))), (6, .int (nI (chF (q 1) t0 (n + 1)))), (0, .ref (a 15)), (1, .int (nI u0))]) hx hb dX2_room_112 hl (k := 4) rfl ev14.symm (by decide) rfl (fun ls hl => ?_)
            obtain rfl : v14 = nI (n + 1) := nI_plus (i := n) (j := 1) ev14 rfl (by decide)
            refine lv_goto (tgt := 9) hx hb dX2_room_115 (by decide) ?_
            exact ih9k1 (n + 1) (chF (q 1) t0 (n + 1)) (if V (chF (q 1) t0 n) ((chF (q 1) t0 (n + 1)) - 12) - Lo (chF (q 1) t0 n) ((chF (q 1) t0 (n + 1)) - 12) < fd then V (chF (q 1) t0 n) ((chF (q 1) t0 (n + 1)) - 12) - Lo (chF (q 1) t0 n) ((chF (q 1) t0 (n + 1)) - 12) else fd) (by omega) (by omega) (by omega) (by omega) (rfl) (by omega) (by rw [hfd, ← eA]; rfl) _ _ _ hP hS (lv_sub hl [0, 1, 2, 5, 6] rfl)
          · have b38 := qge_f (a := (chF (q 1) t0 (n + 1))) (b := 12) (by omega) (by omega) c7
            obtain ⟨ax1, ax2, ax3, ax4, ax5, ax6⟩ := har.resolve_right (fun z9 => absurd z9.2.1 (by omega))
            have hh := hH _ _ ax4
            have eR : ceR (q 1) t0 n = (chF (q 1) t0 (n + 1)) := if_pos (by omega)
            have eC : ceC (q 1) t0 n = (chF (q 1) t0 n) - 12 := if_pos (by omega)
            have eA : resA (q 1) t0 V Lo Hi n = Hi (chF (q 1) t0 (n + 1)) ((chF (q 1) t0 n) - 12) - V (chF (q 1) t0 (n + 1)) ((chF (q 1) t0 n) - 12) := by unfold resA; rw [if_pos (by omega), eR, eC]
            refine lv_iload hx hb dX2_room_41 (lv_at hl 0 rfl) ?_
            refine lv_iload hx hb dX2_room_43 (lv_at hl 2 rfl) ?_
            refine lv_bipush (v := 12) hx hb dX2_room_45 (by decide) ?_
            refine lv_isub hx hb dX2_room_47 ?_
            refine lv_topi (fun v15 ev15 => ?_)
            obtain rfl : v15 = nI ((chF (q 1) t0 n) - 12) := nI_minus ev15 rfl rfl (by omega)
            refine rdSN (rest := []) ⟨hx, hb, hml, hown, hts⟩ (c_X6_spotOf l G ((nI (chF (q 1) t0 (n + 1)))) ((nI ((chF (q 1) t0 n) - 12)))) mi_yX6_spotOf mst_yX6_spotOf (by decide +kernel) ⟨rfl, rfl, Nat.le_of_ble_eq_true rfl, Nat.le_of_ble_eq_true rfl⟩ hK (fun k q h => by simp at h) rfl hl.1 rfl (Nat.le_of_ble_eq_true rfl) dX2_room_48 ⟨Nat.zero_le _, Nat.zero_le _⟩ hS hA hP (fun r16 H locs hr16 hP hS => ?_)
            obtain rfl : r16 = nI ((chF (q 1) t0 (n + 1)) * 12 + ((chF (q 1) t0 n) - 12)) := spot_eq hr16
            refine lv_istore (lv' := [(7, .int (nI ((chF (q 1) t0 (n + 1)) * 12 + ((chF (q 1) t0 n) - 12)))), (6, .int (nI (chF (q 1) t0 (n + 1)))), (5, .int (nI n)), (4, .int (nI (chF (q 1) t0 n))), (3, .int (nI fd)), (0, .ref (a 15)), (1, .int (nI u0))]) hx hb dX2_room_51 hl (by decide) rfl (fun ls hl => ?_)
            refine lv_iload_n hx hb dX2_room_53 rfl (lv_at hl 4 rfl) ?_
            refine lv_aload_n hx hb dX2_room_54 rfl (lv_at hl 5 rfl) ?_
            refine va_get (D := G.1) (ci := 2) (v := .ref (a 14)) (C := RX2) (T := TX2) (N := 15) hx hb hts inX2 hown hK.1 hP 0 rfl rfl 14 (by decide) (hts _ mf_X2_60) (fun _ h9 => h9) rfl dX2_room_55 ?_
            refine lv_iload hx hb dX2_room_58 (lv_at hl 0 rfl) ?_
            refine xiald (f := (r 14)) hx hb hK hP 9 (((chF (q 1) t0 (n + 1)) * 12 + ((chF (q 1) t0 n) - 12))) (rfl) (by omega) (by decide) rfl dX2_room_60 ?_
            refine lv_topi (fun v17 ev17 => ?_)
            obtain rfl : v17 = nI (Hi (chF (q 1) t0 (n + 1)) ((chF (q 1) t0 n) - 12)) := ev17.trans (hhi _ _ (by omega) (by omega) ax4)
            refine lv_aload_n hx hb dX2_room_61 rfl (lv_at hl 5 rfl) ?_
            refine va_get (D := G.1) (ci := 2) (v := .ref (a 12)) (C := RX2) (T := TX2) (N := 15) hx hb hts inX2 hown hK.1 hP 0 rfl rfl 12 (by decide) (hts _ mf_X2_54) (fun _ h9 => h9) rfl dX2_room_62 ?_
            refine lv_iload hx hb dX2_room_65 (lv_at hl 0 rfl) ?_
            refine xiald (f := (r 12)) hx hb hK hP 7 (((chF (q 1) t0 (n + 1)) * 12 + ((chF (q 1) t0 n) - 12))) (rfl) (by omega) (by decide) rfl dX2_room_67 ?_
            refine lv_topi (fun v18 ev18 => ?_)
            obtain rfl : v18 = nI (V (chF (q 1) t0 (n + 1)) ((chF (q 1) t0 n) - 12)) := ev18.trans (hva _ _ (by omega) (by omega) ax4)
            refine lv_isub hx hb dX2_room_68 ?_
            refine lv_topi (fun v19 ev19 => ?_)
            obtain rfl : v19 = nI ((Hi (chF (q 1) t0 (n + 1)) ((chF (q 1) t0 n) - 12)) - (V (chF (q 1) t0 (n + 1)) ((chF (q 1) t0 n) - 12))) := nI_minus ev19 rfl rfl (by omega)
            refine va_mmin hx hb (hml.trans hl.1.symm) hown (hts _ ml_X2_136) (hts _ mst_yJ9_min_7cf53) (hts _ mz_RJ9) (hts _ mcode_yJ9_min_7cf53) (Nat.le_of_ble_eq_true rfl) (Nat.le_of_ble_eq_true rfl) (Nat.zero_le _) (Nat.zero_le _) dX2_room_69 ?_
            refine lv_topi (fun v20 ev20 => ?_)
            obtain rfl : v20 = nI (if Hi (chF (q 1) t0 (n + 1)) ((chF (q 1) t0 n) - 12) - V (chF (q 1) t0 (n + 1)) ((chF (q 1) t0 n) - 12) < fd then Hi (chF (q 1) t0 (n + 1)) ((chF (q 1) t0 n) - 12) - V (chF (q 1) t0 (n + 1)) ((chF (q 1) t0 n) - 12) else fd) := ev20.trans (min_nI (by omega) (by omega))
            have hmb : (if Hi (chF (q 1) t0 (n + 1)) ((chF (q 1) t0 n) - 12) - V (chF (q 1) t0 (n + 1)) ((chF (q 1) t0 n) - 12) < fd then Hi (chF (q 1) t0 (n + 1)) ((chF (q 1) t0 n) - 12) - V (chF (q 1) t0 (n + 1)) ((chF (q 1) t0 n) - 12) else fd) ≤ 1073741824 := by split <;> omega
            refine lv_istore_n (lv' := [(3, .int (nI (if Hi (chF (q 1) t0 (n + 1)) ((chF (q 1) t0 n) - 12) - V (chF (q 1) t0 (n + 1)) ((chF (q 1) t0 n) - 12) < fd then Hi (chF (q 1) t0 (n + 1)) ((chF (q 1) t0 n) - 12) - V (chF (q 1) t0 (n + 1)) ((chF (q 1) t0 n) - 12) else fd))), (7, .int (nI ((chF (q 1) t0 (n + 1)) * 12 + ((chF (q 1) t0 n) - 12)))), (6, .int (nI (chF (q 1) t0 (n + 1)))), (5, .int (nI n)), (4, .int (nI (chF (q 1) t0 n))), (0, .ref (a 15)), (1, .int (nI u0))]) hx hb dX2_room_72 rfl hl (by decide) rfl (fun ls hl => ?_)
            refine lv_goto (tgt := 108) hx hb dX2_room_73 (by decide) ?_
            refine lv_iload hx hb dX2_room_108 (lv_at hl 2 rfl) ?_
            refine lv_istore (lv' := [(4, .int (nI (chF (q 1) t0 (n + 1)))), (3, .int (nI (if Hi (chF (q 1) t0 (n + 1)) ((chF (q 1) t0 n) - 12) - V (chF (q 1) t0 (n + 1)) ((chF (q 1) t0 n) - 12) < fd then Hi (chF (q 1) t0 (n + 1)) ((chF (q 1) t0 n) - 12) - V (chF (q 1) t0 (n + 1)) ((chF (q 1) t0 n) - 12) else fd))), (7, .int (nI ((chF (q 1) t0 (n + 1)) * 12 + ((chF (q 1) t0 n) - 12)))), (6, .int (nI (chF (q 1) t0 (n + 1)))), (5, .int (nI n)), (0, .ref (a 15)), (1, .int (nI u0))]) hx hb dX2_room_110 hl (by decide) rfl (fun ls hl => ?_)
            obtain ⟨v21, ev21⟩ : ∃ y9 : Int32, y9 = (nI n) + Int32.ofInt (1) := ⟨_, rfl⟩
            refine lv_iinc (v := v21) (lv' := [(5, .int v21), (4, .int (nI (chF (q 1) t0 (n + 1)))), (3, .int (nI (if Hi (chF (q 1) t0 (n + 1)) ((chF (q 1) t0 n) - 12) - V (chF (q 1) t0 (n + 1)) ((chF (q 1) t0 n) - 12) < fd then Hi (chF (q 1) t0 (n + 1)) ((chF (q 1) t0 n) - 12) - V (chF (q 1) t0 (n + 1)) ((chF (q 1) t0 n) - 12) else fd))), (7, .int (nI ((chF (q 1) t0 (n + 1)) * 12 + ((chF (q 1) t0 n) - 12)))), (6, .int (nI (chF (q 1) t0 (n + 1)))), (0, .ref (a 15)), (1, .int (nI u0))]) hx hb dX2_room_112 hl (k := 4) rfl ev21.symm (by decide) rfl (fun ls hl => ?_)
            obtain rfl : v21 = nI (n + 1) := nI_plus (i := n) (j := 1) ev21 rfl (by decide)
            refine lv_goto (tgt := 9) hx hb dX2_room_115 (by decide) ?_
            exact ih9k1 (n + 1) (chF (q 1) t0 (n + 1)) (if Hi (chF (q 1) t0 (n + 1)) ((chF (q 1) t0 n) - 12) - V (chF (q 1) t0 (n + 1)) ((chF (q 1) t0 n) - 12) < fd then Hi (chF (q 1) t0 (n + 1)) ((chF (q 1) t0 n) - 12) - V (chF (q 1) t0 (n + 1)) ((chF (q 1) t0 n) - 12) else fd) (by omega) (by omega) (by omega) (by omega) (rfl) (by omega) (by rw [hfd, ← eA]; rfl) _ _ _ hP hS (lv_sub hl [0, 1, 2, 5, 6] rfl)
  exact loop9 (25 + 1) 0 t0 1073741824 (by omega) (by omega) (by omega) (by omega) (rfl) (Nat.zero_le _) (rfl) _ _ _ hP hS (lv_sub hl [0, 1, 2, 3, 4] rfl)
set_option maxHeartbeats 4000000 in
set_option maxRecDepth 100000 in
theorem e_X2_shift (l : Launch) (G : GG) (a b : Nat → Nat) (f qf : Nat → Int32) (r q : Nat → Nat → Int32) (u0 : Nat) (t0 : Nat) (d : Nat) (L : Nat → Nat) (V : Nat → Nat → Nat) (Lo : Nat → Nat → Nat) (Hi : Nat → Nat → Nat) (kp : Nat → Nat → Bool) (on : Nat → Nat → Bool) (hu : u0 < 25) (ht : t0 < 25) (hCH : CH (q 0) u0 t0 (q 1) L) (hSY : SYN kp V Lo Hi on (q 0)) (hva : rowV on V (r 12)) (hlo : rowV on Lo (r 13)) (hhi : rowV on Hi (r 14)) (hH : ∀ x y, on x y = true → Hi x y ≤ 1073741824 ∧ V x y ≤ Hi x y ∧ Lo x y ≤ V x y) (hd : ∀ k, k < L t0 → d ≤ resA (q 1) t0 V Lo Hi k) (hkr : ∀ x y, x < 12 → y < 12 → on x y = true → (¬ (r 11) (x * 12 + y) = 0 ↔ kp x y = true)) : WrV l yX2_shift cX2_shift 7 ({ frames := 2, cells := 0, slots := 0, locals := 51 }) G (rdW G a b f qf r q) [.ref (a 15), .int (nI u0), .int (nI t0), .int (nI d)] (fun w => ∃ (n_q_0 : Nat → Int32) (n_r_12 : Nat → Int32), w = rdW G a b f qf (up2 r 12 n_r_12) (up2 q 0 n_q_0) ∧ (rowV on (shT (q 1) t0 d V (L t0)) n_r_12) ∧ (SYN kp (shT (q 1) t0 d V (L t0)) Lo Hi on n_q_0) ∧ (∀ x y, x < 12 → y < 12 → on x y = false → n_r_12 (x * 12 + y) = (r 12) (x * 12 + y))) := by
  refine wr_entryV (by decide +kernel) (Nat.le_of_ble_eq_true rfl) ?_
  intro p e s m below meth c A C0 hP hK hD hA ls hl
  have hS : va_S A s.heap s.heap [] := va_S.rf
  obtain ⟨hx, hb, hml, hown, hts, hr, hlocks, hin⟩ := C0
  have hown : s.vm.findClass RX2 = some m.cls := hown
  have hDD : ∀ f' qf' r' q', va_D A (rdW G a b f' qf' r' q') := fun f' qf' r' q' => D_same hD rfl
  have hl : lv_has ls 7 [(0, .ref (a 15)), (1, .int (nI u0)), (2, .int (nI t0)), (3, .int (nI d))] := hl
  have hL25 := hCH.2.2.1
  refine lv_iload_n hx hb dX2_shift_0 rfl (lv_at hl 2 rfl) ?_
  refine lv_istore (lv' := [(4, .int (nI t0)), (0, .ref (a 15)), (1, .int (nI u0)), (2, .int (nI t0)), (3, .int (nI d))]) hx hb dX2_shift_1 hl (by decide) rfl (fun ls hl => ?_)
  refine lv_iconst (v := 0) hx hb dX2_shift_3 (by decide) ?_
  refine lv_istore (lv' := [(5, .int 0), (4, .int (nI t0)), (0, .ref (a 15)), (1, .int (nI u0)), (2, .int (nI t0)), (3, .int (nI d))]) hx hb dX2_shift_4 hl (by decide) rfl (fun ls hl => ?_)
  have loop6 : ∀ (k1 n : Nat) (nd : Nat) (x3 : Nat → Int32) (x4 : Nat → Int32), n ≤ 25 → 25 < n + k1 → (nd < 25) → (nd = chF (q 1) t0 n) → (n ≤ L t0) → (rowV on (shT (q 1) t0 d V n) x4) → (SYN kp (shT (q 1) t0 d V n) Lo Hi on x3) → (∀ i j, i < 12 → j < 12 → on i j = false → x4 (i * 12 + j) = r 12 (i * 12 + j)) → ∀ (H : Heap) (locs : List Loc) (ls : Array Slot), PP G (rdW G a b f qf (up2 r 12 x4) (up2 q 0 x3)) H → va_S A s.heap H locs → lv_has ls 7 [(5, .int (nI n)), (4, .int (nI nd)), (0, .ref (a 15)), (1, .int (nI u0)), (3, .int (nI d))] → W p l e ({ frames := 2, cells := 0, slots := 0, locals := 51 }) s m ([.ref (a 15), .int (nI u0), .int (nI t0), .int (nI d)] : List Value).toArray below meth c H locs 0 0 (MQ below (QwV G (fun w => ∃ (n_q_0 : Nat → Int32) (n_r_12 : Nat → Int32), w = rdW G a b f qf (up2 r 12 n_r_12) (up2 q 0 n_q_0) ∧ (rowV on (shT (q 1) t0 d V (L t0)) n_r_12) ∧ (SYN kp (shT (q 1) t0 d V (L t0)) Lo Hi on n_q_0) ∧ (∀ x y, x < 12 → y < 12 → on x y = false → n_r_12 (x * 12 + y) = (r 12) (x * 12 + y))) A) ([.ref (a 15), .int (nI u0), .int (nI t0), .int (nI d)] : List Value).toArray s 0 0 A) (F0 m 6 ls []) := by
    intro k1
    induction k1 with
    | zero => intro n nd x3 x4 h1 h2; exact absurd h1 (by omega)
    | succ k1 ih6k1 =>
      intro n nd x3 x4 hi_n hk_n gnd hnd hnl hVn hSn hof H locs ls hP hS hl
      subst hnd
      refine lv_iload hx hb dX2_shift_6 (lv_at hl 0 rfl) ?_
      refine lv_bipush (v := 25) hx hb dX2_shift_8 (by decide) ?_
      refine lv_icmp_ge (tgt := 111) hx hb dX2_shift_10 (by decide) (fun c5 => ?_) (fun c5 => ?_)
      · have b10 := qge_t (a := n) (b := 25) (by omega) (by omega) c5
        exact wr_vret hx hb hr hlocks hS hP ⟨x3, x4, rfl, (by rw [show L t0 = n by omega]; exact hVn), (by rw [show L t0 = n by omega]; exact hSn), hof⟩ dX2_shift_111
      · have b10 := qge_f (a := n) (b := 25) (by omega) (by omega) c5
        refine lv_iload hx hb dX2_shift_13 (lv_at hl 1 rfl) ?_
        refine lv_iload_n hx hb dX2_shift_15 rfl (lv_at hl 3 rfl) ?_
        refine lv_icmp_eq (tgt := 111) hx hb dX2_shift_16 (by decide) (fun c6 => ?_) (fun c6 => ?_)
        · have b16 := qeq_t (a := (chF (q 1) t0 n)) (b := u0) (by omega) (by omega) c6
          exact wr_vret hx hb hr hlocks hS hP ⟨x3, x4, rfl, (by rw [← ch_end hCH hnl b16]; exact hVn), (by rw [← ch_end hCH hnl b16]; exact hSn), hof⟩ dX2_shift_111
        · have b16 := qeq_f (a := (chF (q 1) t0 n)) (b := u0) (by omega) (by omega) c6
          have hlt := ch_lt hCH hnl b16
          obtain ⟨y1, y2, y3, y4, y5, y6⟩ := hCH.2.2.2.2 n hlt
          have har := arc_of hSY y2 y1 y5
          have hfar := shT_far (d := d) (V := V) n (fun k hk => ce_ne hCH hSY hlt (show k < L t0 by omega) (by omega))
          have hdn := hd n hlt
          refine lv_aload_n hx hb dX2_shift_19 rfl (lv_at hl 2 rfl) ?_
          refine va_get (D := G.1) (ci := 2) (v := .ref (b 3)) (C := RX2) (T := TX2) (N := 15) hx hb hts inX2 hown hK.1 hP 0 rfl rfl 5 (by decide) (hts _ mf_X2_30) (fun _ h9 => h9) rfl dX2_shift_20 ?_
          refine va_get (D := G.1) (ci := 5) (v := .ref (b 1)) (C := RX5) (T := TX5) (N := 4) hx hb hts inX5 hown hK.1 hP 10 rfl rfl 1 (by decide) (hts _ mf_X2_143) (fun _ h9 => h9) rfl dX2_shift_23 ?_
          refine lv_iload hx hb dX2_shift_26 (lv_at hl 1 rfl) ?_
          refine xiald (f := (q 1)) hx hb hK hP 12 ((chF (q 1) t0 n)) (rfl) (by omega) (by decide) rfl dX2_shift_28 ?_
          refine lv_topi (fun v7 ev7 => ?_)
          obtain rfl : v7 = nI (chF (q 1) t0 (n + 1)) := ev7.trans (y4)
          refine lv_istore (lv' := [(6, .int (nI (chF (q 1) t0 (n + 1)))), (5, .int (nI n)), (4, .int (nI (chF (q 1) t0 n))), (0, .ref (a 15)), (1, .int (nI u0)), (3, .int (nI d))]) hx hb dX2_shift_29 hl (by decide) rfl (fun ls hl => ?_)
          refine lv_iload hx hb dX2_shift_31 (lv_at hl 0 rfl) ?_
          refine lv_bipush (v := 12) hx hb dX2_shift_33 (by decide) ?_
          refine lv_icmp_ge (tgt := 71) hx hb dX2_shift_35 (by decide) (fun c8 => ?_) (fun c8 => ?_)
          · have b35 := qge_t (a := (chF (q 1) t0 (n + 1))) (b := 12) (by omega) (by omega) c8
            obtain ⟨ax1, ax2, ax3, ax4, ax5, ax6⟩ := har.resolve_left (fun z9 => absurd z9.1 (by omega))
            have hh := hH _ _ ax4
            have eR : ceR (q 1) t0 n = (chF (q 1) t0 n) := if_neg (by omega)
            have eC : ceC (q 1) t0 n = ((chF (q 1) t0 (n + 1)) - 12) := if_neg (by omega)
            unfold resA at hdn
            rw [if_neg (by omega), eR, eC] at hdn
            rw [eR, eC] at hfar
            have hsh : shT (q 1) t0 d V (n + 1) = upT (shT (q 1) t0 d V n) (chF (q 1) t0 n) ((chF (q 1) t0 (n + 1)) - 12) (shT (q 1) t0 d V n (chF (q 1) t0 n) ((chF (q 1) t0 (n + 1)) - 12) - d) := by show upT _ _ _ _ = _; rw [eR, eC, if_neg (by omega)]
            refine lv_aload_n hx hb dX2_shift_71 rfl (lv_at hl 3 rfl) ?_
            refine va_get (D := G.1) (ci := 2) (v := .ref (a 12)) (C := RX2) (T := TX2) (N := 15) hx hb hts inX2 hown hK.1 hP 0 rfl rfl 12 (by decide) (hts _ mf_X2_54) (fun _ h9 => h9) rfl dX2_shift_72 ?_
            refine lv_iload hx hb dX2_shift_75 (lv_at hl 2 rfl) ?_
            refine lv_iload hx hb dX2_shift_77 (lv_at hl 0 rfl) ?_
            refine lv_bipush (v := 12) hx hb dX2_shift_79 (by decide) ?_
            refine lv_isub hx hb dX2_shift_81 ?_
            refine lv_topi (fun v9 ev9 => ?_)
            obtain rfl : v9 = nI ((chF (q 1) t0 (n + 1)) - 12) := nI_minus ev9 rfl rfl (by omega)
            refine rdSN (rest := [.ref (a 12)]) ⟨hx, hb, hml, hown, hts⟩ (c_X6_spotOf l G ((nI (chF (q 1) t0 n))) ((nI ((chF (q 1) t0 (n + 1)) - 12)))) mi_yX6_spotOf mst_yX6_spotOf (by decide +kernel) ⟨rfl, rfl, Nat.le_of_ble_eq_true rfl, Nat.le_of_ble_eq_true rfl⟩ hK (fun k q h => by simp at h) rfl hl.1 rfl (Nat.le_of_ble_eq_true rfl) dX2_shift_82 ⟨Nat.zero_le _, Nat.zero_le _⟩ hS hA hP (fun r10 H locs hr10 hP hS => ?_)
            obtain rfl : r10 = nI ((chF (q 1) t0 n) * 12 + ((chF (q 1) t0 (n + 1)) - 12)) := spot_eq hr10
            refine lv_dup2_11 hx hb dX2_shift_85 rfl rfl ?_
            refine xiald (f := x4) hx hb hK hP 7 (((chF (q 1) t0 n) * 12 + ((chF (q 1) t0 (n + 1)) - 12))) (rfl) (by omega) (by decide) rfl dX2_shift_86 ?_
            refine lv_topi (fun v11 ev11 => ?_)
            obtain rfl : v11 = nI (shT (q 1) t0 d V n (chF (q 1) t0 n) ((chF (q 1) t0 (n + 1)) - 12)) := ev11.trans (hVn _ _ (by omega) (by omega) ax4)
            refine lv_iload_n hx hb dX2_shift_87 rfl (lv_at hl 5 rfl) ?_
            refine lv_isub hx hb dX2_shift_88 ?_
            refine lv_topi (fun v12 ev12 => ?_)
            obtain rfl : v12 = nI ((shT (q 1) t0 d V n (chF (q 1) t0 n) ((chF (q 1) t0 (n + 1)) - 12)) - d) := nI_minus ev12 rfl rfl (by omega)
            refine xiast (f := x4) (x := (nI ((shT (q 1) t0 d V n (chF (q 1) t0 n) ((chF (q 1) t0 (n + 1)) - 12)) - d))) hx hb hK hP (hDD _ _ _ _) hS 7 (((chF (q 1) t0 n) * 12 + ((chF (q 1) t0 (n + 1)) - 12))) (rfl) (by omega) (by decide) rfl dX2_shift_89 (fun H locs hP _ hS => ?_)
            have hP : PP G (rdW G a b f qf (up2 r 12 (upd x4 (((chF (q 1) t0 n) * 12 + ((chF (q 1) t0 (n + 1)) - 12))) ((nI ((shT (q 1) t0 d V n (chF (q 1) t0 n) ((chF (q 1) t0 (n + 1)) - 12)) - d))))) (up2 q 0 x3)) H := hP
            refine lv_aload_n hx hb dX2_shift_90 rfl (lv_at hl 3 rfl) ?_
            refine lv_iload hx hb dX2_shift_91 (lv_at hl 2 rfl) ?_
            refine lv_iload hx hb dX2_shift_93 (lv_at hl 0 rfl) ?_
            refine lv_bipush (v := 12) hx hb dX2_shift_95 (by decide) ?_
            refine lv_isub hx hb dX2_shift_97 ?_
            refine lv_topi (fun v13 ev13 => ?_)
            obtain rfl : v13 = nI ((chF (q 1) t0 (n + 1)) - 12) := nI_minus ev13 rfl rfl (by omega)
            refine wrVVa (rest := []) (q0 := 0) ⟨hx, hb, hml, hown, hts⟩ (e_X2_refresh l G a b f qf (up2 r 12 (upd x4 (((chF (q 1) t0 n) * 12 + ((chF (q 1) t0 (n + 1)) - 12))) ((nI ((shT (q 1) t0 d V n (chF (q 1) t0 n) ((chF (q 1) t0 (n + 1)) - 12)) - d))))) (up2 q 0 x3) (chF (q 1) t0 n) ((chF (q 1) t0 (n + 1)) - 12)  (by omega) (by omega)) mi_yX2_refresh mv_yX2_refresh ml_X2_117 ⟨rfl, rfl, Nat.le_of_ble_eq_true rfl, Nat.le_of_ble_eq_true rfl⟩ hK hP (hDD _ _ _ _) rfl rfl rfl hl.1 rfl (Nat.le_of_ble_eq_true rfl) dX2_shift_98 ⟨Nat.zero_le _, Nat.zero_le _⟩ hS hA (fun w15 H locs hw15 hP hS => ?_)
            obtain ⟨x16, rfl, hrf⟩ := hw15
            have hP : PP G (rdW G a b f qf (up2 r 12 (upd x4 (((chF (q 1) t0 n) * 12 + ((chF (q 1) t0 (n + 1)) - 12))) ((nI ((shT (q 1) t0 d V n (chF (q 1) t0 n) ((chF (q 1) t0 (n + 1)) - 12)) - d))))) (up2 q 0 x16)) H := hP
            have hrf : x16 = rfS (r 11) (upd x4 (((chF (q 1) t0 n) * 12 + ((chF (q 1) t0 (n + 1)) - 12))) ((nI ((shT (q 1) t0 d V n (chF (q 1) t0 n) ((chF (q 1) t0 (n + 1)) - 12)) - d)))) (r 13) (r 14) x3 (chF (q 1) t0 n) ((chF (q 1) t0 (n + 1)) - 12) := hrf
            refine lv_iload hx hb dX2_shift_101 (lv_at hl 0 rfl) ?_
            refine lv_istore (lv' := [(4, .int (nI (chF (q 1) t0 (n + 1)))), (6, .int (nI (chF (q 1) t0 (n + 1)))), (5, .int (nI n)), (0, .ref (a 15)), (1, .int (nI u0)), (3, .int (nI d))]) hx hb dX2_shift_103 hl (by decide) rfl (fun ls hl => ?_)
            obtain ⟨v17, ev17⟩ : ∃ y9 : Int32, y9 = (nI n) + Int32.ofInt (1) := ⟨_, rfl⟩
            refine lv_iinc (v := v17) (lv' := [(5, .int v17), (4, .int (nI (chF (q 1) t0 (n + 1)))), (6, .int (nI (chF (q 1) t0 (n + 1)))), (0, .ref (a 15)), (1, .int (nI u0)), (3, .int (nI d))]) hx hb dX2_shift_105 hl (k := 2) rfl ev17.symm (by decide) rfl (fun ls hl => ?_)
            obtain rfl : v17 = nI (n + 1) := nI_plus (i := n) (j := 1) ev17 rfl (by decide)
            refine lv_goto (tgt := 6) hx hb dX2_shift_108 (by decide) ?_
            exact ih6k1 (n + 1) (chF (q 1) t0 (n + 1)) x16 (upd x4 (((chF (q 1) t0 n) * 12 + ((chF (q 1) t0 (n + 1)) - 12))) ((nI ((shT (q 1) t0 d V n (chF (q 1) t0 n) ((chF (q 1) t0 (n + 1)) - 12)) - d)))) (by omega) (by omega) (by omega) (rfl) (by omega) (by rw [hsh]; exact rowV_u hVn (by omega) (by omega)) (by rw [hrf, hsh]; exact SYN_rf hSn (by omega) (by omega) (fun a9 b9 h9 => upT_n h9) ax4 (hkr _ _ (by omega) (by omega) ax4) (by rw [pk_us, upT_s]) (hlo _ _ (by omega) (by omega) ax4) (hhi _ _ (by omega) (by omega) ax4) (by rw [upT_s, hfar]; omega) (by omega) hh.1) (fun a9 b9 h8 h9 e9 => by rw [pk_un (fun z9 => by have e8 : a9 = (chF (q 1) t0 n) ∧ b9 = ((chF (q 1) t0 (n + 1)) - 12) := (by omega); rw [e8.1, e8.2, ax4] at e9; exact absurd e9 (by decide))]; exact hof a9 b9 h8 h9 e9) _ _ _ hP hS (lv_sub hl [0, 1, 3, 4, 5] rfl)
          · have b35 := qge_f (a := (chF (q 1) t0 (n + 1))) (b := 12) (by omega) (by omega) c8
            obtain ⟨ax1, ax2, ax3, ax4, ax5, ax6⟩ := har.resolve_right (fun z9 => absurd z9.2.1 (by omega))
            have hh := hH _ _ ax4
            have eR : ceR (q 1) t0 n = (chF (q 1) t0 (n + 1)) := if_pos (by omega)
            have eC : ceC (q 1) t0 n = ((chF (q 1) t0 n) - 12) := if_pos (by omega)
            unfold resA at hdn
            rw [if_pos (by omega), eR, eC] at hdn
            rw [eR, eC] at hfar
            have hsh : shT (q 1) t0 d V (n + 1) = upT (shT (q 1) t0 d V n) (chF (q 1) t0 (n + 1)) ((chF (q 1) t0 n) - 12) (shT (q 1) t0 d V n (chF (q 1) t0 (n + 1)) ((chF (q 1) t0 n) - 12) + d) := by show upT _ _ _ _ = _; rw [eR, eC, if_pos (by omega)]
            refine lv_aload_n hx hb dX2_shift_38 rfl (lv_at hl 3 rfl) ?_
            refine va_get (D := G.1) (ci := 2) (v := .ref (a 12)) (C := RX2) (T := TX2) (N := 15) hx hb hts inX2 hown hK.1 hP 0 rfl rfl 12 (by decide) (hts _ mf_X2_54) (fun _ h9 => h9) rfl dX2_shift_39 ?_
            refine lv_iload hx hb dX2_shift_42 (lv_at hl 0 rfl) ?_
            refine lv_iload hx hb dX2_shift_44 (lv_at hl 2 rfl) ?_
            refine lv_bipush (v := 12) hx hb dX2_shift_46 (by decide) ?_
            refine lv_isub hx hb dX2_shift_48 ?_
            refine lv_topi (fun v18 ev18 => ?_)
            obtain rfl : v18 = nI ((chF (q 1) t0 n) - 12) := nI_minus ev18 rfl rfl (by omega)
            refine rdSN (rest := [.ref (a 12)]) ⟨hx, hb, hml, hown, hts⟩ (c_X6_spotOf l G ((nI (chF (q 1) t0 (n + 1)))) ((nI ((chF (q 1) t0 n) - 12)))) mi_yX6_spotOf mst_yX6_spotOf (by decide +kernel) ⟨rfl, rfl, Nat.le_of_ble_eq_true rfl, Nat.le_of_ble_eq_true rfl⟩ hK (fun k q h => by simp at h) rfl hl.1 rfl (Nat.le_of_ble_eq_true rfl) dX2_shift_49 ⟨Nat.zero_le _, Nat.zero_le _⟩ hS hA hP (fun r19 H locs hr19 hP hS => ?_)
            obtain rfl : r19 = nI ((chF (q 1) t0 (n + 1)) * 12 + ((chF (q 1) t0 n) - 12)) := spot_eq hr19
            refine lv_dup2_11 hx hb dX2_shift_52 rfl rfl ?_
            refine xiald (f := x4) hx hb hK hP 7 (((chF (q 1) t0 (n + 1)) * 12 + ((chF (q 1) t0 n) - 12))) (rfl) (by omega) (by decide) rfl dX2_shift_53 ?_
            refine lv_topi (fun v20 ev20 => ?_)
            obtain rfl : v20 = nI (shT (q 1) t0 d V n (chF (q 1) t0 (n + 1)) ((chF (q 1) t0 n) - 12)) := ev20.trans (hVn _ _ (by omega) (by omega) ax4)
            refine lv_iload_n hx hb dX2_shift_54 rfl (lv_at hl 5 rfl) ?_
            refine lv_iadd hx hb dX2_shift_55 ?_
            refine lv_topi (fun v21 ev21 => ?_)
            obtain rfl : v21 = nI ((shT (q 1) t0 d V n (chF (q 1) t0 (n + 1)) ((chF (q 1) t0 n) - 12)) + d) := nI_plus ev21 rfl rfl
            refine xiast (f := x4) (x := (nI ((shT (q 1) t0 d V n (chF (q 1) t0 (n + 1)) ((chF (q 1) t0 n) - 12)) + d))) hx hb hK hP (hDD _ _ _ _) hS 7 (((chF (q 1) t0 (n + 1)) * 12 + ((chF (q 1) t0 n) - 12))) (rfl) (by omega) (by decide) rfl dX2_shift_56 (fun H locs hP _ hS => ?_)
            have hP : PP G (rdW G a b f qf (up2 r 12 (upd x4 (((chF (q 1) t0 (n + 1)) * 12 + ((chF (q 1) t0 n) - 12))) ((nI ((shT (q 1) t0 d V n (chF (q 1) t0 (n + 1)) ((chF (q 1) t0 n) - 12)) + d))))) (up2 q 0 x3)) H := hP
            refine lv_aload_n hx hb dX2_shift_57 rfl (lv_at hl 3 rfl) ?_
            refine lv_iload hx hb dX2_shift_58 (lv_at hl 0 rfl) ?_
            refine lv_iload hx hb dX2_shift_60 (lv_at hl 2 rfl) ?_
            refine lv_bipush (v := 12) hx hb dX2_shift_62 (by decide) ?_
            refine lv_isub hx hb dX2_shift_64 ?_
            refine lv_topi (fun v22 ev22 => ?_)
            obtain rfl : v22 = nI ((chF (q 1) t0 n) - 12) := nI_minus ev22 rfl rfl (by omega)
            refine wrVVa (rest := []) (q0 := 0) ⟨hx, hb, hml, hown, hts⟩ (e_X2_refresh l G a b f qf (up2 r 12 (upd x4 (((chF (q 1) t0 (n + 1)) * 12 + ((chF (q 1) t0 n) - 12))) ((nI ((shT (q 1) t0 d V n (chF (q 1) t0 (n + 1)) ((chF (q 1) t0 n) - 12)) + d))))) (up2 q 0 x3) (chF (q 1) t0 (n + 1)) ((chF (q 1) t0 n) - 12)  (by omega) (by omega)) mi_yX2_refresh mv_yX2_refresh ml_X2_117 ⟨rfl, rfl, Nat.le_of_ble_eq_true rfl, Nat.le_of_ble_eq_true rfl⟩ hK hP (hDD _ _ _ _) rfl rfl rfl hl.1 rfl (Nat.le_of_ble_eq_true rfl) dX2_shift_65 ⟨Nat.zero_le _, Nat.zero_le _⟩ hS hA (fun w24 H locs hw24 hP hS => ?_)
            obtain ⟨x25, rfl, hrf⟩ := hw24
            have hP : PP G (rdW G a b f qf (up2 r 12 (upd x4 (((chF (q 1) t0 (n + 1)) * 12 + ((chF (q 1) t0 n) - 12))) ((nI ((shT (q 1) t0 d V n (chF (q 1) t0 (n + 1)) ((chF (q 1) t0 n) - 12)) + d))))) (up2 q 0 x25)) H := hP
            have hrf : x25 = rfS (r 11) (upd x4 (((chF (q 1) t0 (n + 1)) * 12 + ((chF (q 1) t0 n) - 12))) ((nI ((shT (q 1) t0 d V n (chF (q 1) t0 (n + 1)) ((chF (q 1) t0 n) - 12)) + d)))) (r 13) (r 14) x3 (chF (q 1) t0 (n + 1)) ((chF (q 1) t0 n) - 12) := hrf
            refine lv_goto (tgt := 101) hx hb dX2_shift_68 (by decide) ?_
            refine lv_iload hx hb dX2_shift_101 (lv_at hl 0 rfl) ?_
            refine lv_istore (lv' := [(4, .int (nI (chF (q 1) t0 (n + 1)))), (6, .int (nI (chF (q 1) t0 (n + 1)))), (5, .int (nI n)), (0, .ref (a 15)), (1, .int (nI u0)), (3, .int (nI d))]) hx hb dX2_shift_103 hl (by decide) rfl (fun ls hl => ?_)
            obtain ⟨v26, ev26⟩ : ∃ y9 : Int32, y9 = (nI n) + Int32.ofInt (1) := ⟨_, rfl⟩
            refine lv_iinc (v := v26) (lv' := [(5, .int v26), (4, .int (nI (chF (q 1) t0 (n + 1)))), (6, .int (nI (chF (q 1) t0 (n + 1)))), (0, .ref (a 15)), (1, .int (nI u0)), (3, .int (nI d))]) hx hb dX2_shift_105 hl (k := 2) rfl ev26.symm (by decide) rfl (fun ls hl => ?_)
            obtain rfl : v26 = nI (n + 1) := nI_plus (i := n) (j := 1) ev26 rfl (by decide)
            refine lv_goto (tgt := 6) hx hb dX2_shift_108 (by decide) ?_
            exact ih6k1 (n + 1) (chF (q 1) t0 (n + 1)) x25 (upd x4 (((chF (q 1) t0 (n + 1)) * 12 + ((chF (q 1) t0 n) - 12))) ((nI ((shT (q 1) t0 d V n (chF (q 1) t0 (n + 1)) ((chF (q 1) t0 n) - 12)) + d)))) (by omega) (by omega) (by omega) (rfl) (by omega) (by rw [hsh]; exact rowV_u hVn (by omega) (by omega)) (by rw [hrf, hsh]; exact SYN_rf hSn (by omega) (by omega) (fun a9 b9 h9 => upT_n h9) ax4 (hkr _ _ (by omega) (by omega) ax4) (by rw [pk_us, upT_s]) (hlo _ _ (by omega) (by omega) ax4) (hhi _ _ (by omega) (by omega) ax4) (by rw [upT_s, hfar]; omega) (by omega) hh.1) (fun a9 b9 h8 h9 e9 => by rw [pk_un (fun z9 => by have e8 : a9 = (chF (q 1) t0 (n + 1)) ∧ b9 = ((chF (q 1) t0 n) - 12) := (by omega); rw [e8.1, e8.2, ax4] at e9; exact absurd e9 (by decide))]; exact hof a9 b9 h8 h9 e9) _ _ _ hP hS (lv_sub hl [0, 1, 3, 4, 5] rfl)
  exact loop6 (25 + 1) 0 t0 (q 0) (r 12) (by omega) (by omega) (by omega) (rfl) (Nat.zero_le _) (hva) (hSY) (fun _ _ _ _ _ => rfl) _ _ _ hP hS (lv_sub hl [0, 1, 2, 3, 5] rfl)
