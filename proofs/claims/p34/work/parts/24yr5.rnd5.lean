
theorem nI_m1 {v : Int32} {i : Nat} (h : v = nI i + (-1)) (h0 : 1 ≤ i) : v = nI (i - 1) := nI_dec (h.trans (congrArg (fun z => nI i + z) (by decide : (-1 : Int32) = Int32.ofInt (-1)))) h0
section TU
variable {dm on : Nat → Nat → Bool} {O X X2 : Nat → Nat → Nat} {U U2 fe mo : Nat → Nat} {q1 q2 q4 q5 q6 s : Nat → Int32}
theorem rq_U {n x : Nat} (h : UST dm on O X U fe mo q1 q2 q4 q5 q6 s) (hn : n < 24) (hx : x ≤ 1000) : upd q4 n (nI x) n = nI (upL U n x n) ∧ q5 n = nI (fe n) ∧ q6 n = nI (mo n) ∧ upL U n x n ≤ 1000 ∧ fe n ≤ 1000 ∧ mo n ≤ 1000 := by
  obtain ⟨_, b, c, _, e, f⟩ := h.2.2.1 n hn
  rw [pk_us, upL_o]; exact ⟨rfl, b, c, hx, e, f⟩
theorem tu_o {v : Nat} (hv : v < 25) (hX : ∀ i j, i < 12 → j < 12 → X i j ≤ 1) (h : 0 < cRd on X U fe mo 24 v) : v < 24 ∧ ((v < 12 ∧ U v < mo v) ∨ (¬ v < 12 ∧ fe v < U v)) := by
  rcases cRd_pos (by omega) hv hX h with z | z | ⟨n, hn, e1, e2, e3⟩ | ⟨n, hn, e1, e2, e3⟩
  · omega
  · omega
  · by_cases c : n < 12
    · rw [fN_r c] at e2; subst e2; exact ⟨hn, Or.inl ⟨c, e3⟩⟩
    · rw [tN_c c] at e1; omega
  · by_cases c : n < 12
    · rw [fN_r c] at e1; omega
    · rw [tN_c c] at e2; subst e2; exact ⟨hn, Or.inr ⟨c, e3⟩⟩
theorem tu_i {u : Nat} (hu : u < 25) (hX : ∀ i j, i < 12 → j < 12 → X i j ≤ 1) (h : 0 < cRd on X U fe mo u 24) : u < 24 ∧ ((u < 12 ∧ fe u < U u) ∨ (¬ u < 12 ∧ U u < mo u)) := by
  rcases cRd_pos hu (by omega) hX h with z | z | ⟨n, hn, e1, e2, e3⟩ | ⟨n, hn, e1, e2, e3⟩
  · omega
  · omega
  · by_cases c : n < 12
    · rw [fN_r c] at e2; omega
    · rw [tN_c c] at e1; subst e1; exact ⟨hn, Or.inr ⟨c, e3⟩⟩
  · by_cases c : n < 12
    · rw [fN_r c] at e1; subst e1; exact ⟨hn, Or.inl ⟨c, e3⟩⟩
    · rw [tN_c c] at e2; omega
theorem tu_c {u v : Nat} (hu : u < 25) (hv : v < 25) (hX : ∀ i j, i < 12 → j < 12 → X i j ≤ 1) (h : 0 < cRd on X U fe mo u v) (h1 : ¬ u = 24) (h2 : ¬ v = 24) : (u < 12 ∧ 12 ≤ v ∧ v < 24 ∧ on u (v - 12) = true ∧ X u (v - 12) = 0) ∨ (v < 12 ∧ 12 ≤ u ∧ u < 24 ∧ on v (u - 12) = true ∧ X v (u - 12) = 1) := by
  rcases cRd_pos hu hv hX h with z | z | ⟨n, hn, e1, e2, e3⟩ | ⟨n, hn, e1, e2, e3⟩
  · exact Or.inl z
  · exact Or.inr z
  · by_cases c : n < 12
    · rw [tN_r c] at e1; exact absurd e1 h1
    · rw [fN_c c] at e2; exact absurd e2 h2
  · by_cases c : n < 12
    · rw [tN_r c] at e2; exact absurd e2 h2
    · rw [fN_c c] at e1; exact absurd e1 h1
end TU
/-- what stands between two turns of reachFewest -/
def RFI (dm on : Nat → Nat → Bool) (O : Nat → Nat → Nat) (n : Nat) (X : Nat → Nat → Nat) (U fe mo : Nat → Nat) (q1 q2 q4 q5 q6 s : Nat → Int32) : Prop := UST dm on O X U fe mo q1 q2 q4 q5 q6 s ∧ (∀ i j, i < 12 → j < 12 → on i j = false → O i j = 0 ∧ X i j = 0) ∧ (∀ k, k < 24 → rS X k = (U k : Int)) ∧ (∀ k, k < 24 → U k ≤ mo k) ∧ ∀ k, k < n → fe k ≤ U k
theorem RFI_n {dm on : Nat → Nat → Bool} {O X : Nat → Nat → Nat} {U fe mo : Nat → Nat} {q1 q2 q4 q5 q6 s : Nat → Int32} {n : Nat} (h : RFI dm on O n X U fe mo q1 q2 q4 q5 q6 s) (hf : fe n ≤ U n) : RFI dm on O (n + 1) X U fe mo q1 q2 q4 q5 q6 s := ⟨h.1, h.2.1, h.2.2.1, h.2.2.2.1, fun k hk => by
  by_cases e : k = n
  · rw [e]; exact hf
  · exact h.2.2.2.2 k (by omega)⟩
set_option maxHeartbeats 4000000 in
set_option maxRecDepth 100000 in
theorem r_X3_refreshNode (l : Launch) (G : GG) (ua a b la : Nat → Nat) (uf f lf : Nat → Int32) (ur r lr : Nat → Nat → Int32) (n : Nat) (on : Nat → Nat → Bool) (X : Nat → Nat → Nat) (U : Nat → Nat) (fe : Nat → Nat) (mo : Nat → Nat) (U0 : Nat → Nat) (fe0 : Nat → Nat) (mo0 : Nat → Nat) (hn : n < 24) (hag : ∀ k, k < 24 → k ≠ n → U k = U0 k ∧ fe k = fe0 k ∧ mo k = mo0 k) (hsy0 : SYU on X U0 fe0 mo0 (ur 20)) (hq : (ur 4) n = nI (U n) ∧ (ur 5) n = nI (fe n) ∧ (ur 6) n = nI (mo n) ∧ U n ≤ 1000 ∧ fe n ≤ 1000 ∧ mo n ≤ 1000) : WrV l yX3_refreshNode cX3_refreshNode 4 ({ frames := 1, cells := 0, slots := 0, locals := 26 }) G (uM G ua a b la uf f lf ur r lr) [.ref (ua 0), .int (nI n)] (fun w => ∃ (n_ur_20 : Nat → Int32), w = uM G ua a b la uf f lf (up2 ur 20 n_ur_20) r lr ∧ (SYU on X U fe mo n_ur_20)) := by
  refine wr_entryV (by decide +kernel) (Nat.le_of_ble_eq_true rfl) ?_
  intro p e s m below meth c A C0 hP hK hD hA ls hl
  have hS : va_S A s.heap s.heap [] := va_S.rf
  obtain ⟨hx, hb, hml, hown, hts, hr, hlocks, hin⟩ := C0
  have hown : s.vm.findClass RX3 = some m.cls := hown
  have hDD : ∀ uf' f' lf' ur' r' lr', va_D A (uM G ua a b la uf' f' lf' ur' r' lr') := fun uf' f' lf' ur' r' lr' => D_same hD rfl
  have hl : lv_has ls 4 [(0, .ref (ua 0)), (1, .int (nI n))] := hl
  obtain ⟨qa, qb, qc, qd, qe, qg⟩ := hq
  refine lv_aload_n hx hb dX3_refreshNode_0 rfl (lv_at hl 0 rfl) ?_
  refine va_get (D := G.1) (ci := 3) (v := .ref (ua 4)) (C := RX3) (T := TX3) (N := 8) hx hb hts inX3 hown hK.1 hP 0 rfl rfl 4 (by decide) (hts _ mf_X3_29) (fun _ h9 => h9) rfl dX3_refreshNode_1 ?_
  refine lv_iload_n hx hb dX3_refreshNode_4 rfl (lv_at hl 1 rfl) ?_
  refine xiald (f := (ur 4)) hx hb hK hP 4 (n) (rfl) (by omega) (by decide) rfl dX3_refreshNode_5 ?_
  refine lv_topi (fun v1 ev1 => ?_)
  obtain rfl : v1 = nI ((U n)) := ev1.trans (qa)
  refine lv_aload_n hx hb dX3_refreshNode_6 rfl (lv_at hl 0 rfl) ?_
  refine va_get (D := G.1) (ci := 3) (v := .ref (ua 6)) (C := RX3) (T := TX3) (N := 8) hx hb hts inX3 hown hK.1 hP 0 rfl rfl 6 (by decide) (hts _ mf_X3_35) (fun _ h9 => h9) rfl dX3_refreshNode_7 ?_
  refine lv_iload_n hx hb dX3_refreshNode_10 rfl (lv_at hl 1 rfl) ?_
  refine xiald (f := (ur 6)) hx hb hK hP 6 (n) (rfl) (by omega) (by decide) rfl dX3_refreshNode_11 ?_
  refine lv_topi (fun v2 ev2 => ?_)
  obtain rfl : v2 = nI ((mo n)) := ev2.trans (qc)
  refine lv_icmp_ge (tgt := 19) hx hb dX3_refreshNode_12 (by decide) (fun c3 => ?_) (fun c3 => ?_)
  · have b12 := qge_t (a := ((U n))) (b := ((mo n))) (by omega) (by omega) c3
    refine lv_iconst (v := 0) hx hb dX3_refreshNode_19 (by decide) ?_
    refine lv_istore_n (lv' := [(2, .int 0), (0, .ref (ua 0)), (1, .int (nI n))]) hx hb dX3_refreshNode_20 rfl hl (by decide) rfl (fun ls hl => ?_)
    refine lv_aload_n hx hb dX3_refreshNode_21 rfl (lv_at hl 1 rfl) ?_
    refine va_get (D := G.1) (ci := 3) (v := .ref (ua 4)) (C := RX3) (T := TX3) (N := 8) hx hb hts inX3 hown hK.1 hP 0 rfl rfl 4 (by decide) (hts _ mf_X3_29) (fun _ h9 => h9) rfl dX3_refreshNode_22 ?_
    refine lv_iload_n hx hb dX3_refreshNode_25 rfl (lv_at hl 2 rfl) ?_
    refine xiald (f := (ur 4)) hx hb hK hP 4 (n) (rfl) (by omega) (by decide) rfl dX3_refreshNode_26 ?_
    refine lv_topi (fun v4 ev4 => ?_)
    obtain rfl : v4 = nI ((U n)) := ev4.trans (qa)
    refine lv_aload_n hx hb dX3_refreshNode_27 rfl (lv_at hl 1 rfl) ?_
    refine va_get (D := G.1) (ci := 3) (v := .ref (ua 5)) (C := RX3) (T := TX3) (N := 8) hx hb hts inX3 hown hK.1 hP 0 rfl rfl 5 (by decide) (hts _ mf_X3_32) (fun _ h9 => h9) rfl dX3_refreshNode_28 ?_
    refine lv_iload_n hx hb dX3_refreshNode_31 rfl (lv_at hl 2 rfl) ?_
    refine xiald (f := (ur 5)) hx hb hK hP 5 (n) (rfl) (by omega) (by decide) rfl dX3_refreshNode_32 ?_
    refine lv_topi (fun v5 ev5 => ?_)
    obtain rfl : v5 = nI ((fe n)) := ev5.trans (qb)
    refine lv_icmp_le (tgt := 40) hx hb dX3_refreshNode_33 (by decide) (fun c6 => ?_) (fun c6 => ?_)
    · have b33 := qle_t (a := ((U n))) (b := ((fe n))) (by omega) (by omega) c6
      refine lv_iconst (v := 0) hx hb dX3_refreshNode_40 (by decide) ?_
      refine lv_istore_n (lv' := [(3, .int 0), (2, .int 0), (0, .ref (ua 0)), (1, .int (nI n))]) hx hb dX3_refreshNode_41 rfl hl (by decide) rfl (fun ls hl => ?_)
      refine lv_iload_n hx hb dX3_refreshNode_42 rfl (lv_at hl 3 rfl) ?_
      refine lv_bipush (v := 12) hx hb dX3_refreshNode_43 (by decide) ?_
      refine lv_icmp_ge (tgt := 63) hx hb dX3_refreshNode_45 (by decide) (fun c7 => ?_) (fun c7 => ?_)
      · have b45 := qge_t (a := n) (b := 12) (by omega) (by omega) c7
        refine lv_aload_n hx hb dX3_refreshNode_63 rfl (lv_at hl 2 rfl) ?_
        refine va_get (D := G.1) (ci := 3) (v := .ref (ua 23)) (C := RX3) (T := TX3) (N := 8) hx hb hts inX3 hown hK.1 hP 0 rfl rfl 0 (by decide) (hts _ mf_X3_12) (fun _ h9 => h9) rfl dX3_refreshNode_64 ?_
        refine lv_iload_n hx hb dX3_refreshNode_67 rfl (lv_at hl 3 rfl) ?_
        refine lv_bipush (v := 24) hx hb dX3_refreshNode_68 (by decide) ?_
        refine lv_iload_n hx hb dX3_refreshNode_70 rfl (lv_at hl 1 rfl) ?_
        refine lv_iload_n hx hb dX3_refreshNode_71 rfl (lv_at hl 0 rfl) ?_
        refine wrVV (rest := []) (q0 := 0) ⟨hx, hb, hml, hown, hts⟩ (c_X5_join l G (fun k => ua (20 + k)) (fun k => ur (20 + k)) (uf 3) n 24 0 0 (by omega) (by omega)) mi_yX5_join mv_yX5_join ml_X3_105 ⟨rfl, rfl, Nat.le_of_ble_eq_true rfl, Nat.le_of_ble_eq_true rfl⟩ hK hP (hDD _ _ _ _ _ _) [8, 9, 10, 11] rfl (by decide) rfl rfl rfl hl.1 rfl (Nat.le_of_ble_eq_true rfl) dX3_refreshNode_72 ⟨Nat.zero_le _, Nat.zero_le _⟩ hS hA (fun w9 H locs hw9 hP hS => ?_)
        obtain rfl := hw9
        have hP : PP G (uM G ua a b la uf f lf (up2 ur 20 (jnF (ur 20) n 24 0 0)) r lr) H := hP rfl
        exact wr_vret hx hb hr hlocks hS hP ⟨(jnF (ur 20) n 24 0 0), rfl, (SYU_nC (by omega) hn hag hsy0 (bb_f (by omega)) (bb_f (by omega)))⟩ dX3_refreshNode_75
      · have b45 := qge_f (a := n) (b := 12) (by omega) (by omega) c7
        refine lv_aload_n hx hb dX3_refreshNode_48 rfl (lv_at hl 2 rfl) ?_
        refine va_get (D := G.1) (ci := 3) (v := .ref (ua 23)) (C := RX3) (T := TX3) (N := 8) hx hb hts inX3 hown hK.1 hP 0 rfl rfl 0 (by decide) (hts _ mf_X3_12) (fun _ h9 => h9) rfl dX3_refreshNode_49 ?_
        refine lv_bipush (v := 24) hx hb dX3_refreshNode_52 (by decide) ?_
        refine lv_iload_n hx hb dX3_refreshNode_54 rfl (lv_at hl 3 rfl) ?_
        refine lv_iload_n hx hb dX3_refreshNode_55 rfl (lv_at hl 1 rfl) ?_
        refine lv_iload_n hx hb dX3_refreshNode_56 rfl (lv_at hl 0 rfl) ?_
        refine wrVV (rest := []) (q0 := 0) ⟨hx, hb, hml, hown, hts⟩ (c_X5_join l G (fun k => ua (20 + k)) (fun k => ur (20 + k)) (uf 3) 24 n 0 0 (by omega) (by omega)) mi_yX5_join mv_yX5_join ml_X3_105 ⟨rfl, rfl, Nat.le_of_ble_eq_true rfl, Nat.le_of_ble_eq_true rfl⟩ hK hP (hDD _ _ _ _ _ _) [8, 9, 10, 11] rfl (by decide) rfl rfl rfl hl.1 rfl (Nat.le_of_ble_eq_true rfl) dX3_refreshNode_57 ⟨Nat.zero_le _, Nat.zero_le _⟩ hS hA (fun w11 H locs hw11 hP hS => ?_)
        obtain rfl := hw11
        have hP : PP G (uM G ua a b la uf f lf (up2 ur 20 (jnF (ur 20) 24 n 0 0)) r lr) H := hP rfl
        refine lv_goto (tgt := 75) hx hb dX3_refreshNode_60 (by decide) ?_
        exact wr_vret hx hb hr hlocks hS hP ⟨(jnF (ur 20) 24 n 0 0), rfl, (SYU_nR (by omega) hag hsy0 (bb_f (by omega)) (bb_f (by omega)))⟩ dX3_refreshNode_75
    · have b33 := qle_f (a := ((U n))) (b := ((fe n))) (by omega) (by omega) c6
      refine lv_iconst (v := 1) hx hb dX3_refreshNode_36 (by decide) ?_
      refine lv_goto (tgt := 41) hx hb dX3_refreshNode_37 (by decide) ?_
      refine lv_istore_n (lv' := [(3, .int 1), (2, .int 0), (0, .ref (ua 0)), (1, .int (nI n))]) hx hb dX3_refreshNode_41 rfl hl (by decide) rfl (fun ls hl => ?_)
      refine lv_iload_n hx hb dX3_refreshNode_42 rfl (lv_at hl 3 rfl) ?_
      refine lv_bipush (v := 12) hx hb dX3_refreshNode_43 (by decide) ?_
      refine lv_icmp_ge (tgt := 63) hx hb dX3_refreshNode_45 (by decide) (fun c12 => ?_) (fun c12 => ?_)
      · have b45 := qge_t (a := n) (b := 12) (by omega) (by omega) c12
        refine lv_aload_n hx hb dX3_refreshNode_63 rfl (lv_at hl 2 rfl) ?_
        refine va_get (D := G.1) (ci := 3) (v := .ref (ua 23)) (C := RX3) (T := TX3) (N := 8) hx hb hts inX3 hown hK.1 hP 0 rfl rfl 0 (by decide) (hts _ mf_X3_12) (fun _ h9 => h9) rfl dX3_refreshNode_64 ?_
        refine lv_iload_n hx hb dX3_refreshNode_67 rfl (lv_at hl 3 rfl) ?_
        refine lv_bipush (v := 24) hx hb dX3_refreshNode_68 (by decide) ?_
        refine lv_iload_n hx hb dX3_refreshNode_70 rfl (lv_at hl 1 rfl) ?_
        refine lv_iload_n hx hb dX3_refreshNode_71 rfl (lv_at hl 0 rfl) ?_
        refine wrVV (rest := []) (q0 := 0) ⟨hx, hb, hml, hown, hts⟩ (c_X5_join l G (fun k => ua (20 + k)) (fun k => ur (20 + k)) (uf 3) n 24 0 1 (by omega) (by omega)) mi_yX5_join mv_yX5_join ml_X3_105 ⟨rfl, rfl, Nat.le_of_ble_eq_true rfl, Nat.le_of_ble_eq_true rfl⟩ hK hP (hDD _ _ _ _ _ _) [8, 9, 10, 11] rfl (by decide) rfl rfl rfl hl.1 rfl (Nat.le_of_ble_eq_true rfl) dX3_refreshNode_72 ⟨Nat.zero_le _, Nat.zero_le _⟩ hS hA (fun w14 H locs hw14 hP hS => ?_)
        obtain rfl := hw14
        have hP : PP G (uM G ua a b la uf f lf (up2 ur 20 (jnF (ur 20) n 24 0 1)) r lr) H := hP rfl
        exact wr_vret hx hb hr hlocks hS hP ⟨(jnF (ur 20) n 24 0 1), rfl, (SYU_nC (by omega) hn hag hsy0 (bb_f (by omega)) (bb_t (by omega)))⟩ dX3_refreshNode_75
      · have b45 := qge_f (a := n) (b := 12) (by omega) (by omega) c12
        refine lv_aload_n hx hb dX3_refreshNode_48 rfl (lv_at hl 2 rfl) ?_
        refine va_get (D := G.1) (ci := 3) (v := .ref (ua 23)) (C := RX3) (T := TX3) (N := 8) hx hb hts inX3 hown hK.1 hP 0 rfl rfl 0 (by decide) (hts _ mf_X3_12) (fun _ h9 => h9) rfl dX3_refreshNode_49 ?_
        refine lv_bipush (v := 24) hx hb dX3_refreshNode_52 (by decide) ?_
        refine lv_iload_n hx hb dX3_refreshNode_54 rfl (lv_at hl 3 rfl) ?_
        refine lv_iload_n hx hb dX3_refreshNode_55 rfl (lv_at hl 1 rfl) ?_
        refine lv_iload_n hx hb dX3_refreshNode_56 rfl (lv_at hl 0 rfl) ?_
        refine wrVV (rest := []) (q0 := 0) ⟨hx, hb, hml, hown, hts⟩ (c_X5_join l G (fun k => ua (20 + k)) (fun k => ur (20 + k)) (uf 3) 24 n 0 1 (by omega) (by omega)) mi_yX5_join mv_yX5_join ml_X3_105 ⟨rfl, rfl, Nat.le_of_ble_eq_true rfl, Nat.le_of_ble_eq_true rfl⟩ hK hP (hDD _ _ _ _ _ _) [8, 9, 10, 11] rfl (by decide) rfl rfl rfl hl.1 rfl (Nat.le_of_ble_eq_true rfl) dX3_refreshNode_57 ⟨Nat.zero_le _, Nat.zero_le _⟩ hS hA (fun w16 H locs hw16 hP hS => ?_)
        obtain rfl := hw16
        have hP : PP G (uM G ua a b la uf f lf (up2 ur 20 (jnF (ur 20) 24 n 0 1)) r lr) H := hP rfl
        refine lv_goto (tgt := 75) hx hb dX3_refreshNode_60 (by decide) ?_
        exact wr_vret hx hb hr hlocks hS hP ⟨(jnF (ur 20) 24 n 0 1), rfl, (SYU_nR (by omega) hag hsy0 (bb_f (by omega)) (bb_t (by omega)))⟩ dX3_refreshNode_75
  · have b12 := qge_f (a := ((U n))) (b := ((mo n))) (by omega) (by omega) c3
    refine lv_iconst (v := 1) hx hb dX3_refreshNode_15 (by decide) ?_
    refine lv_goto (tgt := 20) hx hb dX3_refreshNode_16 (by decide) ?_
    refine lv_istore_n (lv' := [(2, .int 1), (0, .ref (ua 0)), (1, .int (nI n))]) hx hb dX3_refreshNode_20 rfl hl (by decide) rfl (fun ls hl => ?_)
    refine lv_aload_n hx hb dX3_refreshNode_21 rfl (lv_at hl 1 rfl) ?_
    refine va_get (D := G.1) (ci := 3) (v := .ref (ua 4)) (C := RX3) (T := TX3) (N := 8) hx hb hts inX3 hown hK.1 hP 0 rfl rfl 4 (by decide) (hts _ mf_X3_29) (fun _ h9 => h9) rfl dX3_refreshNode_22 ?_
    refine lv_iload_n hx hb dX3_refreshNode_25 rfl (lv_at hl 2 rfl) ?_
    refine xiald (f := (ur 4)) hx hb hK hP 4 (n) (rfl) (by omega) (by decide) rfl dX3_refreshNode_26 ?_
    refine lv_topi (fun v17 ev17 => ?_)
    obtain rfl : v17 = nI ((U n)) := ev17.trans (qa)
    refine lv_aload_n hx hb dX3_refreshNode_27 rfl (lv_at hl 1 rfl) ?_
    refine va_get (D := G.1) (ci := 3) (v := .ref (ua 5)) (C := RX3) (T := TX3) (N := 8) hx hb hts inX3 hown hK.1 hP 0 rfl rfl 5 (by decide) (hts _ mf_X3_32) (fun _ h9 => h9) rfl dX3_refreshNode_28 ?_
    refine lv_iload_n hx hb dX3_refreshNode_31 rfl (lv_at hl 2 rfl) ?_
    refine xiald (f := (ur 5)) hx hb hK hP 5 (n) (rfl) (by omega) (by decide) rfl dX3_refreshNode_32 ?_
    refine lv_topi (fun v18 ev18 => ?_)
    obtain rfl : v18 = nI ((fe n)) := ev18.trans (qb)
    refine lv_icmp_le (tgt := 40) hx hb dX3_refreshNode_33 (by decide) (fun c19 => ?_) (fun c19 => ?_)
    · have b33 := qle_t (a := ((U n))) (b := ((fe n))) (by omega) (by omega) c19
      refine lv_iconst (v := 0) hx hb dX3_refreshNode_40 (by decide) ?_
      refine lv_istore_n (lv' := [(3, .int 0), (2, .int 1), (0, .ref (ua 0)), (1, .int (nI n))]) hx hb dX3_refreshNode_41 rfl hl (by decide) rfl (fun ls hl => ?_)
      refine lv_iload_n hx hb dX3_refreshNode_42 rfl (lv_at hl 3 rfl) ?_
      refine lv_bipush (v := 12) hx hb dX3_refreshNode_43 (by decide) ?_
      refine lv_icmp_ge (tgt := 63) hx hb dX3_refreshNode_45 (by decide) (fun c20 => ?_) (fun c20 => ?_)
      · have b45 := qge_t (a := n) (b := 12) (by omega) (by omega) c20
        refine lv_aload_n hx hb dX3_refreshNode_63 rfl (lv_at hl 2 rfl) ?_
        refine va_get (D := G.1) (ci := 3) (v := .ref (ua 23)) (C := RX3) (T := TX3) (N := 8) hx hb hts inX3 hown hK.1 hP 0 rfl rfl 0 (by decide) (hts _ mf_X3_12) (fun _ h9 => h9) rfl dX3_refreshNode_64 ?_
        refine lv_iload_n hx hb dX3_refreshNode_67 rfl (lv_at hl 3 rfl) ?_
        refine lv_bipush (v := 24) hx hb dX3_refreshNode_68 (by decide) ?_
        refine lv_iload_n hx hb dX3_refreshNode_70 rfl (lv_at hl 1 rfl) ?_
        refine lv_iload_n hx hb dX3_refreshNode_71 rfl (lv_at hl 0 rfl) ?_
        refine wrVV (rest := []) (q0 := 0) ⟨hx, hb, hml, hown, hts⟩ (c_X5_join l G (fun k => ua (20 + k)) (fun k => ur (20 + k)) (uf 3) n 24 1 0 (by omega) (by omega)) mi_yX5_join mv_yX5_join ml_X3_105 ⟨rfl, rfl, Nat.le_of_ble_eq_true rfl, Nat.le_of_ble_eq_true rfl⟩ hK hP (hDD _ _ _ _ _ _) [8, 9, 10, 11] rfl (by decide) rfl rfl rfl hl.1 rfl (Nat.le_of_ble_eq_true rfl) dX3_refreshNode_72 ⟨Nat.zero_le _, Nat.zero_le _⟩ hS hA (fun w22 H locs hw22 hP hS => ?_)
        obtain rfl := hw22
        have hP : PP G (uM G ua a b la uf f lf (up2 ur 20 (jnF (ur 20) n 24 1 0)) r lr) H := hP rfl
        exact wr_vret hx hb hr hlocks hS hP ⟨(jnF (ur 20) n 24 1 0), rfl, (SYU_nC (by omega) hn hag hsy0 (bb_t (by omega)) (bb_f (by omega)))⟩ dX3_refreshNode_75
      · have b45 := qge_f (a := n) (b := 12) (by omega) (by omega) c20
        refine lv_aload_n hx hb dX3_refreshNode_48 rfl (lv_at hl 2 rfl) ?_
        refine va_get (D := G.1) (ci := 3) (v := .ref (ua 23)) (C := RX3) (T := TX3) (N := 8) hx hb hts inX3 hown hK.1 hP 0 rfl rfl 0 (by decide) (hts _ mf_X3_12) (fun _ h9 => h9) rfl dX3_refreshNode_49 ?_
        refine lv_bipush (v := 24) hx hb dX3_refreshNode_52 (by decide) ?_
        refine lv_iload_n hx hb dX3_refreshNode_54 rfl (lv_at hl 3 rfl) ?_
        refine lv_iload_n hx hb dX3_refreshNode_55 rfl (lv_at hl 1 rfl) ?_
        refine lv_iload_n hx hb dX3_refreshNode_56 rfl (lv_at hl 0 rfl) ?_
        refine wrVV (rest := []) (q0 := 0) ⟨hx, hb, hml, hown, hts⟩ (c_X5_join l G (fun k => ua (20 + k)) (fun k => ur (20 + k)) (uf 3) 24 n 1 0 (by omega) (by omega)) mi_yX5_join mv_yX5_join ml_X3_105 ⟨rfl, rfl, Nat.le_of_ble_eq_true rfl, Nat.le_of_ble_eq_true rfl⟩ hK hP (hDD _ _ _ _ _ _) [8, 9, 10, 11] rfl (by decide) rfl rfl rfl hl.1 rfl (Nat.le_of_ble_eq_true rfl) dX3_refreshNode_57 ⟨Nat.zero_le _, Nat.zero_le _⟩ hS hA (fun w24 H locs hw24 hP hS => ?_)
        obtain rfl := hw24
        have hP : PP G (uM G ua a b la uf f lf (up2 ur 20 (jnF (ur 20) 24 n 1 0)) r lr) H := hP rfl
        refine lv_goto (tgt := 75) hx hb dX3_refreshNode_60 (by decide) ?_
        exact wr_vret hx hb hr hlocks hS hP ⟨(jnF (ur 20) 24 n 1 0), rfl, (SYU_nR (by omega) hag hsy0 (bb_t (by omega)) (bb_f (by omega)))⟩ dX3_refreshNode_75
    · have b33 := qle_f (a := ((U n))) (b := ((fe n))) (by omega) (by omega) c19
      refine lv_iconst (v := 1) hx hb dX3_refreshNode_36 (by decide) ?_
      refine lv_goto (tgt := 41) hx hb dX3_refreshNode_37 (by decide) ?_
      refine lv_istore_n (lv' := [(3, .int 1), (2, .int 1), (0, .ref (ua 0)), (1, .int (nI n))]) hx hb dX3_refreshNode_41 rfl hl (by decide) rfl (fun ls hl => ?_)
      refine lv_iload_n hx hb dX3_refreshNode_42 rfl (lv_at hl 3 rfl) ?_
      refine lv_bipush (v := 12) hx hb dX3_refreshNode_43 (by decide) ?_
      refine lv_icmp_ge (tgt := 63) hx hb dX3_refreshNode_45 (by decide) (fun c25 => ?_) (fun c25 => ?_)
      · have b45 := qge_t (a := n) (b := 12) (by omega) (by omega) c25
        refine lv_aload_n hx hb dX3_refreshNode_63 rfl (lv_at hl 2 rfl) ?_
        refine va_get (D := G.1) (ci := 3) (v := .ref (ua 23)) (C := RX3) (T := TX3) (N := 8) hx hb hts inX3 hown hK.1 hP 0 rfl rfl 0 (by decide) (hts _ mf_X3_12) (fun _ h9 => h9) rfl dX3_refreshNode_64 ?_
        refine lv_iload_n hx hb dX3_refreshNode_67 rfl (lv_at hl 3 rfl) ?_
        refine lv_bipush (v := 24) hx hb dX3_refreshNode_68 (by decide) ?_
        refine lv_iload_n hx hb dX3_refreshNode_70 rfl (lv_at hl 1 rfl) ?_
        refine lv_iload_n hx hb dX3_refreshNode_71 rfl (lv_at hl 0 rfl) ?_
        refine wrVV (rest := []) (q0 := 0) ⟨hx, hb, hml, hown, hts⟩ (c_X5_join l G (fun k => ua (20 + k)) (fun k => ur (20 + k)) (uf 3) n 24 1 1 (by omega) (by omega)) mi_yX5_join mv_yX5_join ml_X3_105 ⟨rfl, rfl, Nat.le_of_ble_eq_true rfl, Nat.le_of_ble_eq_true rfl⟩ hK hP (hDD _ _ _ _ _ _) [8, 9, 10, 11] rfl (by decide) rfl rfl rfl hl.1 rfl (Nat.le_of_ble_eq_true rfl) dX3_refreshNode_72 ⟨Nat.zero_le _, Nat.zero_le _⟩ hS hA (fun w27 H locs hw27 hP hS => ?_)
        obtain rfl := hw27
        have hP : PP G (uM G ua a b la uf f lf (up2 ur 20 (jnF (ur 20) n 24 1 1)) r lr) H := hP rfl
        exact wr_vret hx hb hr hlocks hS hP ⟨(jnF (ur 20) n 24 1 1), rfl, (SYU_nC (by omega) hn hag hsy0 (bb_t (by omega)) (bb_t (by omega)))⟩ dX3_refreshNode_75
      · have b45 := qge_f (a := n) (b := 12) (by omega) (by omega) c25
        refine lv_aload_n hx hb dX3_refreshNode_48 rfl (lv_at hl 2 rfl) ?_
        refine va_get (D := G.1) (ci := 3) (v := .ref (ua 23)) (C := RX3) (T := TX3) (N := 8) hx hb hts inX3 hown hK.1 hP 0 rfl rfl 0 (by decide) (hts _ mf_X3_12) (fun _ h9 => h9) rfl dX3_refreshNode_49 ?_
        refine lv_bipush (v := 24) hx hb dX3_refreshNode_52 (by decide) ?_
        refine lv_iload_n hx hb dX3_refreshNode_54 rfl (lv_at hl 3 rfl) ?_
        refine lv_iload_n hx hb dX3_refreshNode_55 rfl (lv_at hl 1 rfl) ?_
        refine lv_iload_n hx hb dX3_refreshNode_56 rfl (lv_at hl 0 rfl) ?_
        refine wrVV (rest := []) (q0 := 0) ⟨hx, hb, hml, hown, hts⟩ (c_X5_join l G (fun k => ua (20 + k)) (fun k => ur (20 + k)) (uf 3) 24 n 1 1 (by omega) (by omega)) mi_yX5_join mv_yX5_join ml_X3_105 ⟨rfl, rfl, Nat.le_of_ble_eq_true rfl, Nat.le_of_ble_eq_true rfl⟩ hK hP (hDD _ _ _ _ _ _) [8, 9, 10, 11] rfl (by decide) rfl rfl rfl hl.1 rfl (Nat.le_of_ble_eq_true rfl) dX3_refreshNode_57 ⟨Nat.zero_le _, Nat.zero_le _⟩ hS hA (fun w29 H locs hw29 hP hS => ?_)
        obtain rfl := hw29
        have hP : PP G (uM G ua a b la uf f lf (up2 ur 20 (jnF (ur 20) 24 n 1 1)) r lr) H := hP rfl
        refine lv_goto (tgt := 75) hx hb dX3_refreshNode_60 (by decide) ?_
        exact wr_vret hx hb hr hlocks hS hP ⟨(jnF (ur 20) 24 n 1 1), rfl, (SYU_nR (by omega) hag hsy0 (bb_t (by omega)) (bb_t (by omega)))⟩ dX3_refreshNode_75
set_option maxHeartbeats 4000000 in
set_option maxRecDepth 100000 in
theorem r_X3_turn (l : Launch) (G : GG) (ua a b la : Nat → Nat) (uf f lf : Nat → Int32) (ur r lr : Nat → Nat → Int32) (u : Nat) (v : Nat) (dm : Nat → Nat → Bool) (on : Nat → Nat → Bool) (O : Nat → Nat → Nat) (X : Nat → Nat → Nat) (U : Nat → Nat) (fe : Nat → Nat) (mo : Nat → Nat) (hu : u < 25) (hv : v < 25) (hst : UST dm on O X U fe mo (ur 1) (ur 2) (ur 4) (ur 5) (ur 6) (ur 20)) (hps : 0 < cRd on X U fe mo u v) : WrV l yX3_turn cX3_turn 6 ({ frames := 2, cells := 0, slots := 0, locals := 49 }) G (uM G ua a b la uf f lf ur r lr) [.ref (ua 0), .int (nI u), .int (nI v)] (fun w => ∃ (n_ur_2 : Nat → Int32) (n_ur_4 : Nat → Int32) (n_ur_20 : Nat → Int32) (X2 : Nat → Nat → Nat) (U2 : Nat → Nat), w = uM G ua a b la uf f lf (up2 (up2 (up2 ur 2 n_ur_2) 4 n_ur_4) 20 n_ur_20) r lr ∧ (UST dm on O X2 U2 fe mo (ur 1) n_ur_2 n_ur_4 (ur 5) (ur 6) n_ur_20) ∧ (∀ a b, a < 25 → b < 25 → cRd on X2 U2 fe mo a b = pu (cRd on X U fe mo) u v 1 a b) ∧ (∀ a b, a < 12 → b < 12 → on a b = false → X2 a b = X a b) ∧ (∀ a b, a < 12 → b < 12 → dm a b = false → n_ur_2 (a * 12 + b) = (ur 2) (a * 12 + b))) := by
  refine wr_entryV (by decide +kernel) (Nat.le_of_ble_eq_true rfl) ?_
  intro p e s m below meth c A C0 hP hK hD hA ls hl
  have hS : va_S A s.heap s.heap [] := va_S.rf
  obtain ⟨hx, hb, hml, hown, hts, hr, hlocks, hin⟩ := C0
  have hown : s.vm.findClass RX3 = some m.cls := hown
  have hDD : ∀ uf' f' lf' ur' r' lr', va_D A (uM G ua a b la uf' f' lf' ur' r' lr') := fun uf' f' lf' ur' r' lr' => D_same hD rfl
  have hl : lv_has ls 6 [(0, .ref (ua 0)), (1, .int (nI u)), (2, .int (nI v))] := hl
  have hX1 : ∀ i j, i < 12 → j < 12 → X i j ≤ 1 := fun i j h1 h2 => (hst.2.1 i j h1 h2).1
  refine lv_iload_n hx hb dX3_turn_0 rfl (lv_at hl 1 rfl) ?_
  refine lv_bipush (v := 24) hx hb dX3_turn_1 (by decide) ?_
  refine lv_icmp_ne (tgt := 34) hx hb dX3_turn_3 (by decide) (fun c1 => ?_) (fun c1 => ?_)
  · have b3 := qeq_f (a := u) (b := 24) (by omega) (by omega) c1
    refine lv_iload_n hx hb dX3_turn_34 rfl (lv_at hl 2 rfl) ?_
    refine lv_bipush (v := 24) hx hb dX3_turn_35 (by decide) ?_
    refine lv_icmp_ne (tgt := 68) hx hb dX3_turn_37 (by decide) (fun c2 => ?_) (fun c2 => ?_)
    · have b37 := qeq_f (a := v) (b := 24) (by omega) (by omega) c2
      have hcc := tu_c hu hv hX1 hps b3 b37
      refine lv_iload_n hx hb dX3_turn_68 rfl (lv_at hl 1 rfl) ?_
      refine lv_bipush (v := 12) hx hb dX3_turn_69 (by decide) ?_
      refine lv_icmp_ge (tgt := 78) hx hb dX3_turn_71 (by decide) (fun c3 => ?_) (fun c3 => ?_)
      · have b71 := qge_t (a := u) (b := 12) (by omega) (by omega) c3
        obtain ⟨hi12, hj12, hj24, hon9, hx9⟩ := hcc.resolve_left (fun q9 => absurd q9.1 (by omega))
        have hdm9 := (hst.2.1 v (u - 12) hi12 (by omega)).2.2 hon9
        refine lv_iconst (v := 0) hx hb dX3_turn_78 (by decide) ?_
        refine lv_istore_n (lv' := [(3, .int 0), (0, .ref (ua 0)), (1, .int (nI u)), (2, .int (nI v))]) hx hb dX3_turn_79 rfl hl (by decide) rfl (fun ls hl => ?_)
        refine lv_iload_n hx hb dX3_turn_80 rfl (lv_at hl 0 rfl) ?_
        refine lv_if_eq (tgt := 88) hx hb dX3_turn_81 (by decide) (fun c4 => ?_) (fun c4 => absurd (by decide) c4)
        refine lv_iload_n hx hb dX3_turn_88 rfl (lv_at hl 3 rfl) ?_
        refine lv_istore (lv' := [(4, .int (nI v)), (3, .int 0), (0, .ref (ua 0)), (1, .int (nI u)), (2, .int (nI v))]) hx hb dX3_turn_89 hl (by decide) rfl (fun ls hl => ?_)
        refine lv_iload_n hx hb dX3_turn_91 rfl (lv_at hl 1 rfl) ?_
        refine lv_if_eq (tgt := 99) hx hb dX3_turn_92 (by decide) (fun c5 => ?_) (fun c5 => absurd (by decide) c5)
        refine lv_iload_n hx hb dX3_turn_99 rfl (lv_at hl 3 rfl) ?_
        refine lv_istore (lv' := [(5, .int (nI u)), (4, .int (nI v)), (3, .int 0), (0, .ref (ua 0)), (1, .int (nI u)), (2, .int (nI v))]) hx hb dX3_turn_100 hl (by decide) rfl (fun ls hl => ?_)
        refine lv_aload_n hx hb dX3_turn_102 rfl (lv_at hl 3 rfl) ?_
        refine va_get (D := G.1) (ci := 3) (v := .ref (ua 2)) (C := RX3) (T := TX3) (N := 8) hx hb hts inX3 hown hK.1 hP 0 rfl rfl 2 (by decide) (hts _ mf_X3_22) (fun _ h9 => h9) rfl dX3_turn_103 ?_
        refine lv_iload hx hb dX3_turn_106 (lv_at hl 1 rfl) ?_
        refine lv_iload hx hb dX3_turn_108 (lv_at hl 0 rfl) ?_
        refine lv_bipush (v := 12) hx hb dX3_turn_110 (by decide) ?_
        refine lv_isub hx hb dX3_turn_112 ?_
        refine lv_topi (fun v6 ev6 => ?_)
        obtain rfl : v6 = nI (u - 12) := nI_minus ev6 rfl rfl (by omega)
        refine rdSN (rest := [.ref (ua 2)]) ⟨hx, hb, hml, hown, hts⟩ (c_X6_spotOf l G ((nI v)) ((nI (u - 12)))) mi_yX6_spotOf mst_yX6_spotOf (by decide +kernel) ⟨rfl, rfl, Nat.le_of_ble_eq_true rfl, Nat.le_of_ble_eq_true rfl⟩ hK (fun k q h => by simp at h) rfl hl.1 rfl (Nat.le_of_ble_eq_true rfl) dX3_turn_113 ⟨Nat.zero_le _, Nat.zero_le _⟩ hS hA hP (fun r7 H locs hr7 hP hS => ?_)
        obtain rfl : r7 = nI (v * 12 + (u - 12)) := spot_eq hr7
        refine lv_iload_n hx hb dX3_turn_116 rfl (lv_at hl 2 rfl) ?_
        refine xzast (f := (ur 2)) (x := 0) hx hb hK hP (hDD _ _ _ _ _ _) hS 2 ((v * 12 + (u - 12))) (rfl) (by omega) (by decide) (Or.inl rfl) rfl dX3_turn_117 (fun H locs hP _ hS => ?_)
        have hP : PP G (uM G ua a b la uf f lf (up2 ur 2 (upd (ur 2) ((v * 12 + (u - 12))) (0))) r lr) H := hP
        refine lv_aload_n hx hb dX3_turn_118 rfl (lv_at hl 3 rfl) ?_
        refine va_get (D := G.1) (ci := 3) (v := .ref (ua 23)) (C := RX3) (T := TX3) (N := 8) hx hb hts inX3 hown hK.1 hP 0 rfl rfl 0 (by decide) (hts _ mf_X3_12) (fun _ h9 => h9) rfl dX3_turn_119 ?_
        refine lv_iload hx hb dX3_turn_122 (lv_at hl 1 rfl) ?_
        refine lv_iload hx hb dX3_turn_124 (lv_at hl 0 rfl) ?_
        refine lv_iload_n hx hb dX3_turn_126 rfl (lv_at hl 2 rfl) ?_
        refine lv_if_ne (tgt := 134) hx hb dX3_turn_127 (by decide) (fun c8 => absurd rfl c8) (fun c8 => ?_)
        refine lv_iconst (v := 1) hx hb dX3_turn_130 (by decide) ?_
        refine lv_goto (tgt := 135) hx hb dX3_turn_131 (by decide) ?_
        refine lv_iload_n hx hb dX3_turn_135 rfl (lv_at hl 2 rfl) ?_
        refine wrVV (rest := []) (q0 := 0) ⟨hx, hb, hml, hown, hts⟩ (c_X5_join l G (fun k => ua (20 + k)) (fun k => (up2 ur 2 (upd (ur 2) ((v * 12 + (u - 12))) (0))) (20 + k)) (uf 3) v u 1 0 (by omega) (by omega)) mi_yX5_join mv_yX5_join ml_X3_105 ⟨rfl, rfl, Nat.le_of_ble_eq_true rfl, Nat.le_of_ble_eq_true rfl⟩ hK hP (hDD _ _ _ _ _ _) [8, 9, 10, 11] rfl (by decide) rfl rfl rfl hl.1 rfl (Nat.le_of_ble_eq_true rfl) dX3_turn_136 ⟨Nat.zero_le _, Nat.zero_le _⟩ hS hA (fun w10 H locs hw10 hP hS => ?_)
        obtain rfl := hw10
        have hP : PP G (uM G ua a b la uf f lf (up2 (up2 ur 2 (upd (ur 2) ((v * 12 + (u - 12))) (0))) 20 (jnF (ur 20) v u 1 0)) r lr) H := hP rfl
        exact wr_vret hx hb hr hlocks hS hP ⟨(upd (ur 2) ((v * 12 + (u - 12))) (0)), (ur 4), (jnF (ur 20) v u 1 0), (upT X v (u - 12) 0), U, rfl, (by have h9 := tu_off (i := v) (j := u - 12) hi12 (by omega) hst hon9; rw [show 12 + (u - 12) = u by omega] at h9; exact h9), (fun a b ha hb => by have h9 := cRd_off (on := on) (X := X) (U := U) (fe := fe) (mo := mo) (i := v) (j := u - 12) hi12 (by omega) hon9 hx9 a b ha hb; rw [show 12 + (u - 12) = u by omega] at h9; exact h9), (fun a b _ _ e9 => upT_n (ne_of_on hon9 e9)), (fun a b ha hb e9 => pk_un (fun z9 => ne_of_dm hdm9 e9 ⟨by omega, by omega⟩))⟩ dX3_turn_139
      · have b71 := qge_f (a := u) (b := 12) (by omega) (by omega) c3
        obtain ⟨hi12, hj12, hj24, hon9, hx9⟩ := hcc.resolve_right (fun q9 => absurd q9.2.1 (by omega))
        have hdm9 := (hst.2.1 u (v - 12) hi12 (by omega)).2.2 hon9
        refine lv_iconst (v := 1) hx hb dX3_turn_74 (by decide) ?_
        refine lv_goto (tgt := 79) hx hb dX3_turn_75 (by decide) ?_
        refine lv_istore_n (lv' := [(3, .int 1), (0, .ref (ua 0)), (1, .int (nI u)), (2, .int (nI v))]) hx hb dX3_turn_79 rfl hl (by decide) rfl (fun ls hl => ?_)
        refine lv_iload_n hx hb dX3_turn_80 rfl (lv_at hl 0 rfl) ?_
        refine lv_if_eq (tgt := 88) hx hb dX3_turn_81 (by decide) (fun c11 => absurd c11 (by decide)) (fun c11 => ?_)
        refine lv_iload_n hx hb dX3_turn_84 rfl (lv_at hl 2 rfl) ?_
        refine lv_goto (tgt := 89) hx hb dX3_turn_85 (by decide) ?_
        refine lv_istore (lv' := [(4, .int (nI u)), (3, .int 1), (0, .ref (ua 0)), (1, .int (nI u)), (2, .int (nI v))]) hx hb dX3_turn_89 hl (by decide) rfl (fun ls hl => ?_)
        refine lv_iload_n hx hb dX3_turn_91 rfl (lv_at hl 1 rfl) ?_
        refine lv_if_eq (tgt := 99) hx hb dX3_turn_92 (by decide) (fun c12 => absurd c12 (by decide)) (fun c12 => ?_)
        refine lv_iload_n hx hb dX3_turn_95 rfl (lv_at hl 4 rfl) ?_
        refine lv_goto (tgt := 100) hx hb dX3_turn_96 (by decide) ?_
        refine lv_istore (lv' := [(5, .int (nI v)), (4, .int (nI u)), (3, .int 1), (0, .ref (ua 0)), (1, .int (nI u)), (2, .int (nI v))]) hx hb dX3_turn_100 hl (by decide) rfl (fun ls hl => ?_)
        refine lv_aload_n hx hb dX3_turn_102 rfl (lv_at hl 3 rfl) ?_
        refine va_get (D := G.1) (ci := 3) (v := .ref (ua 2)) (C := RX3) (T := TX3) (N := 8) hx hb hts inX3 hown hK.1 hP 0 rfl rfl 2 (by decide) (hts _ mf_X3_22) (fun _ h9 => h9) rfl dX3_turn_103 ?_
        refine lv_iload hx hb dX3_turn_106 (lv_at hl 1 rfl) ?_
        refine lv_iload hx hb dX3_turn_108 (lv_at hl 0 rfl) ?_
        refine lv_bipush (v := 12) hx hb dX3_turn_110 (by decide) ?_
        refine lv_isub hx hb dX3_turn_112 ?_
        refine lv_topi (fun v13 ev13 => ?_)
        obtain rfl : v13 = nI (v - 12) := nI_minus ev13 rfl rfl (by omega)
        refine rdSN (rest := [.ref (ua 2)]) ⟨hx, hb, hml, hown, hts⟩ (c_X6_spotOf l G ((nI u)) ((nI (v - 12)))) mi_yX6_spotOf mst_yX6_spotOf (by decide +kernel) ⟨rfl, rfl, Nat.le_of_ble_eq_true rfl, Nat.le_of_ble_eq_true rfl⟩ hK (fun k q h => by simp at h) rfl hl.1 rfl (Nat.le_of_ble_eq_true rfl) dX3_turn_113 ⟨Nat.zero_le _, Nat.zero_le _⟩ hS hA hP (fun r14 H locs hr14 hP hS => ?_)
        obtain rfl : r14 = nI (u * 12 + (v - 12)) := spot_eq hr14
        refine lv_iload_n hx hb dX3_turn_116 rfl (lv_at hl 2 rfl) ?_
        refine xzast (f := (ur 2)) (x := 1) hx hb hK hP (hDD _ _ _ _ _ _) hS 2 ((u * 12 + (v - 12))) (rfl) (by omega) (by decide) (Or.inr rfl) rfl dX3_turn_117 (fun H locs hP _ hS => ?_)
        have hP : PP G (uM G ua a b la uf f lf (up2 ur 2 (upd (ur 2) ((u * 12 + (v - 12))) (1))) r lr) H := hP
        refine lv_aload_n hx hb dX3_turn_118 rfl (lv_at hl 3 rfl) ?_
        refine va_get (D := G.1) (ci := 3) (v := .ref (ua 23)) (C := RX3) (T := TX3) (N := 8) hx hb hts inX3 hown hK.1 hP 0 rfl rfl 0 (by decide) (hts _ mf_X3_12) (fun _ h9 => h9) rfl dX3_turn_119 ?_
        refine lv_iload hx hb dX3_turn_122 (lv_at hl 1 rfl) ?_
        refine lv_iload hx hb dX3_turn_124 (lv_at hl 0 rfl) ?_
        refine lv_iload_n hx hb dX3_turn_126 rfl (lv_at hl 2 rfl) ?_
        refine lv_if_ne (tgt := 134) hx hb dX3_turn_127 (by decide) (fun c15 => ?_) (fun c15 => absurd c15 (by decide))
        refine lv_iconst (v := 0) hx hb dX3_turn_134 (by decide) ?_
        refine lv_iload_n hx hb dX3_turn_135 rfl (lv_at hl 2 rfl) ?_
        refine wrVV (rest := []) (q0 := 0) ⟨hx, hb, hml, hown, hts⟩ (c_X5_join l G (fun k => ua (20 + k)) (fun k => (up2 ur 2 (upd (ur 2) ((u * 12 + (v - 12))) (1))) (20 + k)) (uf 3) u v 0 1 (by omega) (by omega)) mi_yX5_join mv_yX5_join ml_X3_105 ⟨rfl, rfl, Nat.le_of_ble_eq_true rfl, Nat.le_of_ble_eq_true rfl⟩ hK hP (hDD _ _ _ _ _ _) [8, 9, 10, 11] rfl (by decide) rfl rfl rfl hl.1 rfl (Nat.le_of_ble_eq_true rfl) dX3_turn_136 ⟨Nat.zero_le _, Nat.zero_le _⟩ hS hA (fun w17 H locs hw17 hP hS => ?_)
        obtain rfl := hw17
        have hP : PP G (uM G ua a b la uf f lf (up2 (up2 ur 2 (upd (ur 2) ((u * 12 + (v - 12))) (1))) 20 (jnF (ur 20) u v 0 1)) r lr) H := hP rfl
        exact wr_vret hx hb hr hlocks hS hP ⟨(upd (ur 2) ((u * 12 + (v - 12))) (1)), (ur 4), (jnF (ur 20) u v 0 1), (upT X u (v - 12) 1), U, rfl, (by have h9 := tu_on (i := u) (j := v - 12) hi12 (by omega) hst hon9; rw [show 12 + (v - 12) = v by omega] at h9; exact h9), (fun a b ha hb => by have h9 := cRd_on (on := on) (X := X) (U := U) (fe := fe) (mo := mo) (i := u) (j := v - 12) hi12 (by omega) hon9 hx9 a b ha hb; rw [show 12 + (v - 12) = v by omega] at h9; exact h9), (fun a b _ _ e9 => upT_n (ne_of_on hon9 e9)), (fun a b ha hb e9 => pk_un (fun z9 => ne_of_dm hdm9 e9 ⟨by omega, by omega⟩))⟩ dX3_turn_139
    · have b37 := qeq_t (a := v) (b := 24) (by omega) (by omega) c2
      have hps2 := hps
      rw [b37] at hps2
      obtain ⟨hz24, hzz⟩ := tu_i hu hX1 hps2
      have hbz := hst.2.2.1 u (by omega)
      refine lv_aload_n hx hb dX3_turn_40 rfl (lv_at hl 0 rfl) ?_
      refine va_get (D := G.1) (ci := 3) (v := .ref (ua 4)) (C := RX3) (T := TX3) (N := 8) hx hb hts inX3 hown hK.1 hP 0 rfl rfl 4 (by decide) (hts _ mf_X3_29) (fun _ h9 => h9) rfl dX3_turn_41 ?_
      refine lv_iload_n hx hb dX3_turn_44 rfl (lv_at hl 1 rfl) ?_
      refine lv_dup2_11 hx hb dX3_turn_45 rfl rfl ?_
      refine xiald (f := (ur 4)) hx hb hK hP 4 (u) (rfl) (by omega) (by decide) rfl dX3_turn_46 ?_
      refine lv_topi (fun v18 ev18 => ?_)
      obtain rfl : v18 = nI ((U u)) := ev18.trans (hbz.1)
      refine lv_iload_n hx hb dX3_turn_47 rfl (lv_at hl 1 rfl) ?_
      refine lv_bipush (v := 12) hx hb dX3_turn_48 (by decide) ?_
      refine lv_icmp_ge (tgt := 57) hx hb dX3_turn_50 (by decide) (fun c19 => ?_) (fun c19 => ?_)
      · have b50 := qge_t (a := u) (b := 12) (by omega) (by omega) c19
        have hz12 : ¬ u < 12 := by omega
        have hzl : U u < mo u := (hzz.elim (fun q9 => absurd q9.1 hz12) (fun q9 => q9)).2
        refine lv_iconst (v := 1) hx hb dX3_turn_57 (by decide) ?_
        refine lv_iadd hx hb dX3_turn_58 ?_
        refine lv_topi (fun v20 ev20 => ?_)
        obtain rfl : v20 = nI (((U u)) + 1) := nI_plus ev20 rfl rfl
        refine xiast (f := (ur 4)) (x := (nI (((U u)) + 1))) hx hb hK hP (hDD _ _ _ _ _ _) hS 4 (u) (rfl) (by omega) (by decide) rfl dX3_turn_59 (fun H locs hP _ hS => ?_)
        have hP : PP G (uM G ua a b la uf f lf (up2 ur 4 (upd (ur 4) (u) ((nI (((U u)) + 1))))) r lr) H := hP
        refine lv_aload_n hx hb dX3_turn_60 rfl (lv_at hl 0 rfl) ?_
        refine lv_iload_n hx hb dX3_turn_61 rfl (lv_at hl 1 rfl) ?_
        refine wrVVa (rest := []) (q0 := 0) ⟨hx, hb, hml, hown, hts⟩ (r_X3_refreshNode l G ua a b la uf f lf (up2 ur 4 (upd (ur 4) (u) ((nI (((U u)) + 1))))) r lr u on X (upL U u (U u + 1)) fe mo U fe mo (by omega) up_ag hst.2.2.2 (rq_U hst hz24 (by omega))) mi_yX3_refreshNode mv_yX3_refreshNode ml_X3_94 ⟨rfl, rfl, Nat.le_of_ble_eq_true rfl, Nat.le_of_ble_eq_true rfl⟩ hK hP (hDD _ _ _ _ _ _) rfl rfl rfl hl.1 rfl (Nat.le_of_ble_eq_true rfl) dX3_turn_62 ⟨Nat.zero_le _, Nat.zero_le _⟩ hS hA (fun w22 H locs hw22 hP hS => ?_)
        obtain ⟨x23, rfl, hsy0⟩ := hw22
        have hP : PP G (uM G ua a b la uf f lf (up2 (up2 ur 4 (upd (ur 4) (u) ((nI (((U u)) + 1))))) 20 x23) r lr) H := hP
        have hsy0 : SYU on X (upL U u (U u + 1)) fe mo x23 := hsy0
        refine lv_goto (tgt := 139) hx hb dX3_turn_65 (by decide) ?_
        exact wr_vret hx hb hr hlocks hS hP ⟨(ur 2), (upd (ur 4) (u) ((nI (((U u)) + 1)))), x23, X, (upL U u (U u + 1)), rfl, (tu_up hz24 hst hzl hsy0), (fun a b ha hb => by have h9 := cRd_up (on := on) (X := X) (U := U) (fe := fe) (mo := mo) (n := u) hz24 a b ha hb; rw [tN_c hz12, fN_c hz12] at h9; rw [b37]; exact h9), (fun _ _ _ _ _ => rfl), (fun _ _ _ _ _ => rfl)⟩ dX3_turn_139
      · have b50 := qge_f (a := u) (b := 12) (by omega) (by omega) c19
        have hz12 : u < 12 := by omega
        have hzl : fe u < U u := (hzz.elim (fun q9 => q9) (fun q9 => absurd hz12 q9.1)).2
        refine lv_iconst (v := -1) hx hb dX3_turn_53 (by decide) ?_
        refine lv_goto (tgt := 58) hx hb dX3_turn_54 (by decide) ?_
        refine lv_iadd hx hb dX3_turn_58 ?_
        refine lv_topi (fun v24 ev24 => ?_)
        obtain rfl : v24 = nI (U u - 1) := nI_m1 ev24 (by omega)
        refine xiast (f := (ur 4)) (x := (nI (U u - 1))) hx hb hK hP (hDD _ _ _ _ _ _) hS 4 (u) (rfl) (by omega) (by decide) rfl dX3_turn_59 (fun H locs hP _ hS => ?_)
        have hP : PP G (uM G ua a b la uf f lf (up2 ur 4 (upd (ur 4) (u) ((nI (U u - 1))))) r lr) H := hP
        refine lv_aload_n hx hb dX3_turn_60 rfl (lv_at hl 0 rfl) ?_
        refine lv_iload_n hx hb dX3_turn_61 rfl (lv_at hl 1 rfl) ?_
        refine wrVVa (rest := []) (q0 := 0) ⟨hx, hb, hml, hown, hts⟩ (r_X3_refreshNode l G ua a b la uf f lf (up2 ur 4 (upd (ur 4) (u) ((nI (U u - 1))))) r lr u on X (upL U u (U u - 1)) fe mo U fe mo (by omega) up_ag hst.2.2.2 (rq_U hst hz24 (by omega))) mi_yX3_refreshNode mv_yX3_refreshNode ml_X3_94 ⟨rfl, rfl, Nat.le_of_ble_eq_true rfl, Nat.le_of_ble_eq_true rfl⟩ hK hP (hDD _ _ _ _ _ _) rfl rfl rfl hl.1 rfl (Nat.le_of_ble_eq_true rfl) dX3_turn_62 ⟨Nat.zero_le _, Nat.zero_le _⟩ hS hA (fun w26 H locs hw26 hP hS => ?_)
        obtain ⟨x27, rfl, hsy0⟩ := hw26
        have hP : PP G (uM G ua a b la uf f lf (up2 (up2 ur 4 (upd (ur 4) (u) ((nI (U u - 1))))) 20 x27) r lr) H := hP
        have hsy0 : SYU on X (upL U u (U u - 1)) fe mo x27 := hsy0
        refine lv_goto (tgt := 139) hx hb dX3_turn_65 (by decide) ?_
        exact wr_vret hx hb hr hlocks hS hP ⟨(ur 2), (upd (ur 4) (u) ((nI (U u - 1)))), x27, X, (upL U u (U u - 1)), rfl, (tu_dn hz24 hst hsy0), (fun a b ha hb => by have h9 := cRd_dn (on := on) (X := X) (U := U) (fe := fe) (mo := mo) (n := u) hz24 (by omega) a b ha hb; rw [tN_r hz12, fN_r hz12] at h9; rw [b37]; exact h9), (fun _ _ _ _ _ => rfl), (fun _ _ _ _ _ => rfl)⟩ dX3_turn_139
  · have b3 := qeq_t (a := u) (b := 24) (by omega) (by omega) c1
    have hps2 := hps
    rw [b3] at hps2
    obtain ⟨hz24, hzz⟩ := tu_o hv hX1 hps2
    have hbz := hst.2.2.1 v (by omega)
    refine lv_aload_n hx hb dX3_turn_6 rfl (lv_at hl 0 rfl) ?_
    refine va_get (D := G.1) (ci := 3) (v := .ref (ua 4)) (C := RX3) (T := TX3) (N := 8) hx hb hts inX3 hown hK.1 hP 0 rfl rfl 4 (by decide) (hts _ mf_X3_29) (fun _ h9 => h9) rfl dX3_turn_7 ?_
    refine lv_iload_n hx hb dX3_turn_10 rfl (lv_at hl 2 rfl) ?_
    refine lv_dup2_11 hx hb dX3_turn_11 rfl rfl ?_
    refine xiald (f := (ur 4)) hx hb hK hP 4 (v) (rfl) (by omega) (by decide) rfl dX3_turn_12 ?_
    refine lv_topi (fun v28 ev28 => ?_)
    obtain rfl : v28 = nI ((U v)) := ev28.trans (hbz.1)
    refine lv_iload_n hx hb dX3_turn_13 rfl (lv_at hl 2 rfl) ?_
    refine lv_bipush (v := 12) hx hb dX3_turn_14 (by decide) ?_
    refine lv_icmp_ge (tgt := 23) hx hb dX3_turn_16 (by decide) (fun c29 => ?_) (fun c29 => ?_)
    · have b16 := qge_t (a := v) (b := 12) (by omega) (by omega) c29
      have hz12 : ¬ v < 12 := by omega
      have hzl : fe v < U v := (hzz.elim (fun q9 => absurd q9.1 hz12) (fun q9 => q9)).2
      refine lv_iconst (v := -1) hx hb dX3_turn_23 (by decide) ?_
      refine lv_iadd hx hb dX3_turn_24 ?_
      refine lv_topi (fun v30 ev30 => ?_)
      obtain rfl : v30 = nI (U v - 1) := nI_m1 ev30 (by omega)
      refine xiast (f := (ur 4)) (x := (nI (U v - 1))) hx hb hK hP (hDD _ _ _ _ _ _) hS 4 (v) (rfl) (by omega) (by decide) rfl dX3_turn_25 (fun H locs hP _ hS => ?_)
      have hP : PP G (uM G ua a b la uf f lf (up2 ur 4 (upd (ur 4) (v) ((nI (U v - 1))))) r lr) H := hP
      refine lv_aload_n hx hb dX3_turn_26 rfl (lv_at hl 0 rfl) ?_
      refine lv_iload_n hx hb dX3_turn_27 rfl (lv_at hl 2 rfl) ?_
      refine wrVVa (rest := []) (q0 := 0) ⟨hx, hb, hml, hown, hts⟩ (r_X3_refreshNode l G ua a b la uf f lf (up2 ur 4 (upd (ur 4) (v) ((nI (U v - 1))))) r lr v on X (upL U v (U v - 1)) fe mo U fe mo (by omega) up_ag hst.2.2.2 (rq_U hst hz24 (by omega))) mi_yX3_refreshNode mv_yX3_refreshNode ml_X3_94 ⟨rfl, rfl, Nat.le_of_ble_eq_true rfl, Nat.le_of_ble_eq_true rfl⟩ hK hP (hDD _ _ _ _ _ _) rfl rfl rfl hl.1 rfl (Nat.le_of_ble_eq_true rfl) dX3_turn_28 ⟨Nat.zero_le _, Nat.zero_le _⟩ hS hA (fun w32 H locs hw32 hP hS => ?_)
      obtain ⟨x33, rfl, hsy0⟩ := hw32
      have hP : PP G (uM G ua a b la uf f lf (up2 (up2 ur 4 (upd (ur 4) (v) ((nI (U v - 1))))) 20 x33) r lr) H := hP
      have hsy0 : SYU on X (upL U v (U v - 1)) fe mo x33 := hsy0
      refine lv_goto (tgt := 139) hx hb dX3_turn_31 (by decide) ?_
      exact wr_vret hx hb hr hlocks hS hP ⟨(ur 2), (upd (ur 4) (v) ((nI (U v - 1)))), x33, X, (upL U v (U v - 1)), rfl, (tu_dn hz24 hst hsy0), (fun a b ha hb => by have h9 := cRd_dn (on := on) (X := X) (U := U) (fe := fe) (mo := mo) (n := v) hz24 (by omega) a b ha hb; rw [tN_c hz12, fN_c hz12] at h9; rw [b3]; exact h9), (fun _ _ _ _ _ => rfl), (fun _ _ _ _ _ => rfl)⟩ dX3_turn_139
    · have b16 := qge_f (a := v) (b := 12) (by omega) (by omega) c29
      have hz12 : v < 12 := by omega
      have hzl : U v < mo v := (hzz.elim (fun q9 => q9) (fun q9 => absurd hz12 q9.1)).2
      refine lv_iconst (v := 1) hx hb dX3_turn_19 (by decide) ?_
      refine lv_goto (tgt := 24) hx hb dX3_turn_20 (by decide) ?_
      refine lv_iadd hx hb dX3_turn_24 ?_
      refine lv_topi (fun v34 ev34 => ?_)
      obtain rfl : v34 = nI (((U v)) + 1) := nI_plus ev34 rfl rfl
      refine xiast (f := (ur 4)) (x := (nI (((U v)) + 1))) hx hb hK hP (hDD _ _ _ _ _ _) hS 4 (v) (rfl) (by omega) (by decide) rfl dX3_turn_25 (fun H locs hP _ hS => ?_)
      have hP : PP G (uM G ua a b la uf f lf (up2 ur 4 (upd (ur 4) (v) ((nI (((U v)) + 1))))) r lr) H := hP
      refine lv_aload_n hx hb dX3_turn_26 rfl (lv_at hl 0 rfl) ?_
      refine lv_iload_n hx hb dX3_turn_27 rfl (lv_at hl 2 rfl) ?_
      refine wrVVa (rest := []) (q0 := 0) ⟨hx, hb, hml, hown, hts⟩ (r_X3_refreshNode l G ua a b la uf f lf (up2 ur 4 (upd (ur 4) (v) ((nI (((U v)) + 1))))) r lr v on X (upL U v (U v + 1)) fe mo U fe mo (by omega) up_ag hst.2.2.2 (rq_U hst hz24 (by omega))) mi_yX3_refreshNode mv_yX3_refreshNode ml_X3_94 ⟨rfl, rfl, Nat.le_of_ble_eq_true rfl, Nat.le_of_ble_eq_true rfl⟩ hK hP (hDD _ _ _ _ _ _) rfl rfl rfl hl.1 rfl (Nat.le_of_ble_eq_true rfl) dX3_turn_28 ⟨Nat.zero_le _, Nat.zero_le _⟩ hS hA (fun w36 H locs hw36 hP hS => ?_)
      obtain ⟨x37, rfl, hsy0⟩ := hw36
      have hP : PP G (uM G ua a b la uf f lf (up2 (up2 ur 4 (upd (ur 4) (v) ((nI (((U v)) + 1))))) 20 x37) r lr) H := hP
      have hsy0 : SYU on X (upL U v (U v + 1)) fe mo x37 := hsy0
      refine lv_goto (tgt := 139) hx hb dX3_turn_31 (by decide) ?_
      exact wr_vret hx hb hr hlocks hS hP ⟨(ur 2), (upd (ur 4) (v) ((nI (((U v)) + 1)))), x37, X, (upL U v (U v + 1)), rfl, (tu_up hz24 hst hzl hsy0), (fun a b ha hb => by have h9 := cRd_up (on := on) (X := X) (U := U) (fe := fe) (mo := mo) (n := v) hz24 a b ha hb; rw [tN_r hz12, fN_r hz12] at h9; rw [b3]; exact h9), (fun _ _ _ _ _ => rfl), (fun _ _ _ _ _ => rfl)⟩ dX3_turn_139
set_option maxHeartbeats 4000000 in
set_option maxRecDepth 100000 in
theorem r_X3_shift (l : Launch) (G : GG) (ua a b la : Nat → Nat) (uf f lf : Nat → Int32) (ur r lr : Nat → Nat → Int32) (u0 : Nat) (t0 : Nat) (dm : Nat → Nat → Bool) (on : Nat → Nat → Bool) (O : Nat → Nat → Nat) (X : Nat → Nat → Nat) (U : Nat → Nat) (fe : Nat → Nat) (mo : Nat → Nat) (L : Nat → Nat) (hu0 : u0 < 25) (ht0 : t0 < 25) (hst : UST dm on O X U fe mo (ur 1) (ur 2) (ur 4) (ur 5) (ur 6) (ur 20)) (hCH : CH (ur 20) u0 t0 (ur 21) L) : WrV l yX3_shift cX3_shift 6 ({ frames := 3, cells := 0, slots := 0, locals := 74 }) G (uM G ua a b la uf f lf ur r lr) [.ref (ua 0), .int (nI u0), .int (nI t0)] (fun w => ∃ (n_ur_2 : Nat → Int32) (n_ur_4 : Nat → Int32) (n_ur_20 : Nat → Int32) (X2 : Nat → Nat → Nat) (U2 : Nat → Nat), w = uM G ua a b la uf f lf (up2 (up2 (up2 ur 2 n_ur_2) 4 n_ur_4) 20 n_ur_20) r lr ∧ (UST dm on O X2 U2 fe mo (ur 1) n_ur_2 n_ur_4 (ur 5) (ur 6) n_ur_20) ∧ (∀ a b, a < 25 → b < 25 → cRd on X2 U2 fe mo a b = puC (chF (ur 21) t0) 1 (cRd on X U fe mo) (L t0) a b) ∧ (∀ a b, a < 12 → b < 12 → on a b = false → X2 a b = X a b) ∧ (∀ a b, a < 12 → b < 12 → dm a b = false → n_ur_2 (a * 12 + b) = (ur 2) (a * 12 + b))) := by
  refine wr_entryV (by decide +kernel) (Nat.le_of_ble_eq_true rfl) ?_
  intro p e s m below meth c A C0 hP hK hD hA ls hl
  have hS : va_S A s.heap s.heap [] := va_S.rf
  obtain ⟨hx, hb, hml, hown, hts, hr, hlocks, hin⟩ := C0
  have hown : s.vm.findClass RX3 = some m.cls := hown
  have hDD : ∀ uf' f' lf' ur' r' lr', va_D A (uM G ua a b la uf' f' lf' ur' r' lr') := fun uf' f' lf' ur' r' lr' => D_same hD rfl
  have hl : lv_has ls 6 [(0, .ref (ua 0)), (1, .int (nI u0)), (2, .int (nI t0))] := hl
  have hsy9 := hst.2.2.2
  refine lv_iload_n hx hb dX3_shift_0 rfl (lv_at hl 2 rfl) ?_
  refine lv_istore_n (lv' := [(3, .int (nI t0)), (0, .ref (ua 0)), (1, .int (nI u0)), (2, .int (nI t0))]) hx hb dX3_shift_1 rfl hl (by decide) rfl (fun ls hl => ?_)
  refine lv_iconst (v := 0) hx hb dX3_shift_2 (by decide) ?_
  refine lv_istore (lv' := [(4, .int 0), (3, .int (nI t0)), (0, .ref (ua 0)), (1, .int (nI u0)), (2, .int (nI t0))]) hx hb dX3_shift_3 hl (by decide) rfl (fun ls hl => ?_)
  have loop5 : ∀ (k1 k5 : Nat) (nd : Nat) (Xk : Nat → Nat → Nat) (Uk : Nat → Nat) (x3 : Nat → Int32) (x4 : Nat → Int32) (x5 : Nat → Int32), k5 ≤ 25 → 25 < k5 + k1 → (nd < 25) → (UST dm on O Xk Uk fe mo (ur 1) x3 x4 (ur 5) (ur 6) x5) → (nd = chF (ur 21) t0 k5) → (k5 ≤ L t0) → (∀ a b, a < 25 → b < 25 → cRd on Xk Uk fe mo a b = puC (chF (ur 21) t0) 1 (cRd on X U fe mo) k5 a b) → (∀ a b, a < 12 → b < 12 → on a b = false → Xk a b = X a b) → (∀ a b, a < 12 → b < 12 → dm a b = false → x3 (a * 12 + b) = (ur 2) (a * 12 + b)) → ∀ (H : Heap) (locs : List Loc) (ls : Array Slot), PP G (uM G ua a b la uf f lf (up2 (up2 (up2 ur 2 x3) 4 x4) 20 x5) r lr) H → va_S A s.heap H locs → lv_has ls 6 [(4, .int (nI k5)), (3, .int (nI nd)), (0, .ref (ua 0)), (1, .int (nI u0))] → W p l e ({ frames := 3, cells := 0, slots := 0, locals := 74 }) s m ([.ref (ua 0), .int (nI u0), .int (nI t0)] : List Value).toArray below meth c H locs 0 0 (MQ below (QwV G (fun w => ∃ (n_ur_2 : Nat → Int32) (n_ur_4 : Nat → Int32) (n_ur_20 : Nat → Int32) (X2 : Nat → Nat → Nat) (U2 : Nat → Nat), w = uM G ua a b la uf f lf (up2 (up2 (up2 ur 2 n_ur_2) 4 n_ur_4) 20 n_ur_20) r lr ∧ (UST dm on O X2 U2 fe mo (ur 1) n_ur_2 n_ur_4 (ur 5) (ur 6) n_ur_20) ∧ (∀ a b, a < 25 → b < 25 → cRd on X2 U2 fe mo a b = puC (chF (ur 21) t0) 1 (cRd on X U fe mo) (L t0) a b) ∧ (∀ a b, a < 12 → b < 12 → on a b = false → X2 a b = X a b) ∧ (∀ a b, a < 12 → b < 12 → dm a b = false → n_ur_2 (a * 12 + b) = (ur 2) (a * 12 + b))) A) ([.ref (ua 0), .int (nI u0), .int (nI t0)] : List Value).toArray s 0 0 A) (F0 m 5 ls []) := by
    intro k1
    induction k1 with
    | zero => intro k5 nd Xk Uk x3 x4 x5 h1 h2; exact absurd h1 (by omega)
    | succ k1 ih5k1 =>
      intro k5 nd Xk Uk x3 x4 x5 hi_k5 hk_k5 gnd hst hnd hkl hpk hof hkq H locs ls hP hS hl
      refine lv_iload hx hb dX3_shift_5 (lv_at hl 0 rfl) ?_
      refine lv_bipush (v := 25) hx hb dX3_shift_7 (by decide) ?_
      refine lv_icmp_ge (tgt := 44) hx hb dX3_shift_9 (by decide) (fun c6 => ?_) (fun c6 => ?_)
      · have b9 := qge_t (a := k5) (b := 25) (by omega) (by omega) c6
        have hkL : k5 = L t0 := by have h9 := hCH.2.2.1; omega
        exact wr_vret hx hb hr hlocks hS hP ⟨x3, x4, x5, Xk, Uk, rfl, hst, (by rw [← hkL]; exact hpk), hof, hkq⟩ dX3_shift_44
      · have b9 := qge_f (a := k5) (b := 25) (by omega) (by omega) c6
        refine lv_iload_n hx hb dX3_shift_12 rfl (lv_at hl 1 rfl) ?_
        refine lv_iload_n hx hb dX3_shift_13 rfl (lv_at hl 3 rfl) ?_
        refine lv_icmp_eq (tgt := 44) hx hb dX3_shift_14 (by decide) (fun c7 => ?_) (fun c7 => ?_)
        · have b14 := qeq_t (a := nd) (b := u0) (by omega) (by omega) c7
          have hkL : k5 = L t0 := CH_inj hCH k5 (L t0) hkl (Nat.le_refl _) (hnd.symm.trans (b14.trans hCH.2.2.2.1.symm))
          exact wr_vret hx hb hr hlocks hS hP ⟨x3, x4, x5, Xk, Uk, rfl, hst, (by rw [← hkL]; exact hpk), hof, hkq⟩ dX3_shift_44
        · have b14 := qeq_f (a := nd) (b := u0) (by omega) (by omega) c7
          have hk5 : k5 < L t0 := Nat.lt_of_le_of_ne hkl (fun z9 => b14 (by rw [hnd, z9]; exact hCH.2.2.2.1))
          obtain ⟨qa, qb, qc, qd, qe, qg⟩ := hCH.2.2.2.2 k5 hk5
          obtain ⟨uu, euu⟩ : ∃ z9 : Nat, z9 = chF (ur 21) t0 (k5 + 1) := ⟨_, rfl⟩
          have huu : uu < 25 := by rw [euu]; exact qb
          have hps : 0 < cRd on Xk Uk fe mo uu nd := by rw [hpk uu nd (by omega) (by omega), euu, hnd, puC_at (CH_inj hCH) hk5]; exact of_decide_eq_true ((hsy9 _ _ qb qa).symm.trans qe)
          refine lv_aload_n hx hb dX3_shift_17 rfl (lv_at hl 2 rfl) ?_
          refine va_get (D := G.1) (ci := 3) (v := .ref (ua 23)) (C := RX3) (T := TX3) (N := 8) hx hb hts inX3 hown hK.1 hP 0 rfl rfl 0 (by decide) (hts _ mf_X3_12) (fun _ h9 => h9) rfl dX3_shift_18 ?_
          refine va_get (D := G.1) (ci := 5) (v := .ref (ua 21)) (C := RX5) (T := TX5) (N := 4) hx hb hts inX5 hown hK.1 hP 8 rfl rfl 1 (by decide) (hts _ mf_X3_116) (fun _ h9 => h9) rfl dX3_shift_21 ?_
          refine lv_iload_n hx hb dX3_shift_24 rfl (lv_at hl 1 rfl) ?_
          refine xiald (f := (ur 21)) hx hb hK hP 10 (nd) (rfl) (by omega) (by decide) rfl dX3_shift_25 ?_
          refine lv_topi (fun v8 ev8 => ?_)
          obtain rfl : v8 = nI (uu) := ev8.trans (by rw [hnd, euu]; exact qd)
          refine lv_istore (lv' := [(5, .int (nI (uu))), (4, .int (nI k5)), (3, .int (nI nd)), (0, .ref (ua 0)), (1, .int (nI u0))]) hx hb dX3_shift_26 hl (by decide) rfl (fun ls hl => ?_)
          refine lv_aload_n hx hb dX3_shift_28 rfl (lv_at hl 3 rfl) ?_
          refine lv_iload hx hb dX3_shift_29 (lv_at hl 0 rfl) ?_
          refine lv_iload_n hx hb dX3_shift_31 rfl (lv_at hl 2 rfl) ?_
          refine wrVVa (rest := []) (q0 := 0) ⟨hx, hb, hml, hown, hts⟩ (r_X3_turn l G ua a b la uf f lf (up2 (up2 (up2 ur 2 x3) 4 x4) 20 x5) r lr (uu) nd dm on O Xk Uk fe mo (by omega) (by omega) hst hps) mi_yX3_turn mv_yX3_turn ml_X3_119 ⟨rfl, rfl, Nat.le_of_ble_eq_true rfl, Nat.le_of_ble_eq_true rfl⟩ hK hP (hDD _ _ _ _ _ _) rfl rfl rfl hl.1 rfl (Nat.le_of_ble_eq_true rfl) dX3_shift_32 ⟨Nat.zero_le _, Nat.zero_le _⟩ hS hA (fun w10 H locs hw10 hP hS => ?_)
          obtain ⟨x11, x12, x13, X2, U2, rfl, hst, hpu, hoff, hkp⟩ := hw10
          have hP : PP G (uM G ua a b la uf f lf (up2 (up2 (up2 ur 2 x11) 4 x12) 20 x13) r lr) H := hP
          have hst : UST dm on O X2 U2 fe mo (ur 1) x11 x12 (ur 5) (ur 6) x13 := hst
          have hpu : ∀ a b, a < 25 → b < 25 → cRd on X2 U2 fe mo a b = pu (cRd on Xk Uk fe mo) (uu) nd 1 a b := hpu
          have hoff : ∀ a b, a < 12 → b < 12 → on a b = false → X2 a b = Xk a b := hoff
          have hkp : ∀ a b, a < 12 → b < 12 → dm a b = false → x11 (a * 12 + b) = x3 (a * 12 + b) := hkp
          refine lv_iload hx hb dX3_shift_35 (lv_at hl 0 rfl) ?_
          refine lv_istore_n (lv' := [(3, .int (nI (uu))), (5, .int (nI (uu))), (4, .int (nI k5)), (0, .ref (ua 0)), (1, .int (nI u0))]) hx hb dX3_shift_37 rfl hl (by decide) rfl (fun ls hl => ?_)
          obtain ⟨v14, ev14⟩ : ∃ y9 : Int32, y9 = (nI k5) + Int32.ofInt (1) := ⟨_, rfl⟩
          refine lv_iinc (v := v14) (lv' := [(4, .int v14), (3, .int (nI (uu))), (5, .int (nI (uu))), (0, .ref (ua 0)), (1, .int (nI u0))]) hx hb dX3_shift_38 hl (k := 2) rfl ev14.symm (by decide) rfl (fun ls hl => ?_)
          obtain rfl : v14 = nI (k5 + 1) := nI_plus (i := k5) (j := 1) ev14 rfl (by decide)
          refine lv_goto (tgt := 5) hx hb dX3_shift_41 (by decide) ?_
          exact ih5k1 (k5 + 1) (uu) X2 U2 x11 x12 x13 (by omega) (by omega) (by omega) (hst) (euu) (hk5) (fun a b ha hb => by refine (hpu a b ha hb).trans ((pu_c (hpk a b ha hb)).trans ?_); rw [euu, hnd]; rfl) (fun a b ha hb e9 => (hoff a b ha hb e9).trans (hof a b ha hb e9)) (fun a b ha hb e9 => (hkp a b ha hb e9).trans (hkq a b ha hb e9)) _ _ _ hP hS (lv_sub hl [0, 1, 3, 4] rfl)
  exact loop5 (25 + 1) 0 t0 X U (ur 2) (ur 4) (ur 20) (by omega) (by omega) (by omega) (hst) (rfl) (Nat.zero_le _) (fun _ _ _ _ => rfl) (fun _ _ _ _ _ => rfl) (fun _ _ _ _ _ => rfl) _ _ _ hP hS (lv_sub hl [0, 1, 2, 3] rfl)
set_option maxHeartbeats 4000000 in
set_option maxRecDepth 100000 in
theorem r_X3_reachFewest (l : Launch) (G : GG) (ua a b la : Nat → Nat) (uf f lf : Nat → Int32) (ur r lr : Nat → Nat → Int32) (dm : Nat → Nat → Bool) (on : Nat → Nat → Bool) (O : Nat → Nat → Nat) (X : Nat → Nat → Nat) (U : Nat → Nat) (fe : Nat → Nat) (mo : Nat → Nat) (B : Nat) (hB : 0 < B) (hfe : ∀ k, k < 24 → (B : Int) * fe k ≤ rS O k) (hmo : ∀ k, k < 24 → rS O k ≤ (B : Int) * mo k) (hO : ∀ i j, i < 12 → j < 12 → O i j < B) (hf11 : ∀ k, k < 24 → fe k ≤ 11) (hfm : ∀ k, k < 24 → fe k ≤ mo k) (hri : RFI dm on O 0 X U fe mo (ur 1) (ur 2) (ur 4) (ur 5) (ur 6) (ur 20)) : WrV l yX3_reachFewest cX3_reachFewest 5 ({ frames := 4, cells := 0, slots := 0, locals := 99 }) G (uM G ua a b la uf f lf ur r lr) [.ref (ua 0)] (fun w => ∃ (n_uf_3 : Int32) (n_ur_2 : Nat → Int32) (n_ur_4 : Nat → Int32) (n_ur_20 : Nat → Int32) (n_ur_21 : Nat → Int32) (n_ur_22 : Nat → Int32) (X2 : Nat → Nat → Nat) (U2 : Nat → Nat), w = uM G ua a b la (upd uf 3 n_uf_3) f lf (up2 (up2 (up2 (up2 (up2 ur 2 n_ur_2) 4 n_ur_4) 20 n_ur_20) 21 n_ur_21) 22 n_ur_22) r lr ∧ (RFI dm on O 24 X2 U2 fe mo (ur 1) n_ur_2 n_ur_4 (ur 5) (ur 6) n_ur_20) ∧ (∀ a b, a < 12 → b < 12 → dm a b = false → n_ur_2 (a * 12 + b) = (ur 2) (a * 12 + b))) := by
  refine wr_entryV (by decide +kernel) (Nat.le_of_ble_eq_true rfl) ?_
  intro p e s m below meth c A C0 hP hK hD hA ls hl
  have hS : va_S A s.heap s.heap [] := va_S.rf
  obtain ⟨hx, hb, hml, hown, hts, hr, hlocks, hin⟩ := C0
  have hown : s.vm.findClass RX3 = some m.cls := hown
  have hDD : ∀ uf' f' lf' ur' r' lr', va_D A (uM G ua a b la uf' f' lf' ur' r' lr') := fun uf' f' lf' ur' r' lr' => D_same hD rfl
  have hl : lv_has ls 5 [(0, .ref (ua 0))] := hl
  refine lv_iconst (v := 0) hx hb dX3_reachFewest_0 (by decide) ?_
  refine lv_istore_n (lv' := [(1, .int 0), (0, .ref (ua 0))]) hx hb dX3_reachFewest_1 rfl hl (by decide) rfl (fun ls hl => ?_)
  have loop2 : ∀ (k1 n : Nat) (Xn : Nat → Nat → Nat) (Un : Nat → Nat) (x2 : Int32) (x3 : Nat → Int32) (x4 : Nat → Int32) (x5 : Nat → Int32) (x6 : Nat → Int32) (x7 : Nat → Int32), n ≤ 24 → 24 < n + k1 → (RFI dm on O n Xn Un fe mo (ur 1) x3 x4 (ur 5) (ur 6) x5) → (∀ a b, a < 12 → b < 12 → dm a b = false → x3 (a * 12 + b) = (ur 2) (a * 12 + b)) → ∀ (H : Heap) (locs : List Loc) (ls : Array Slot), PP G (uM G ua a b la (upd uf 3 x2) f lf (up2 (up2 (up2 (up2 (up2 ur 2 x3) 4 x4) 20 x5) 21 x6) 22 x7) r lr) H → va_S A s.heap H locs → lv_has ls 5 [(1, .int (nI n)), (0, .ref (ua 0))] → W p l e ({ frames := 4, cells := 0, slots := 0, locals := 99 }) s m ([.ref (ua 0)] : List Value).toArray below meth c H locs 0 0 (MQ below (QwV G (fun w => ∃ (n_uf_3 : Int32) (n_ur_2 : Nat → Int32) (n_ur_4 : Nat → Int32) (n_ur_20 : Nat → Int32) (n_ur_21 : Nat → Int32) (n_ur_22 : Nat → Int32) (X2 : Nat → Nat → Nat) (U2 : Nat → Nat), w = uM G ua a b la (upd uf 3 n_uf_3) f lf (up2 (up2 (up2 (up2 (up2 ur 2 n_ur_2) 4 n_ur_4) 20 n_ur_20) 21 n_ur_21) 22 n_ur_22) r lr ∧ (RFI dm on O 24 X2 U2 fe mo (ur 1) n_ur_2 n_ur_4 (ur 5) (ur 6) n_ur_20) ∧ (∀ a b, a < 12 → b < 12 → dm a b = false → n_ur_2 (a * 12 + b) = (ur 2) (a * 12 + b))) A) ([.ref (ua 0)] : List Value).toArray s 0 0 A) (F0 m 2 ls []) := by
    intro k1
    induction k1 with
    | zero => intro n Xn Un x2 x3 x4 x5 x6 x7 h1 h2; exact absurd h1 (by omega)
    | succ k1 ih2k1 =>
      intro n Xn Un x2 x3 x4 x5 x6 x7 hi_n hk_n hri hkq H locs ls hP hS hl
      refine lv_iload_n hx hb dX3_reachFewest_2 rfl (lv_at hl 0 rfl) ?_
      refine lv_bipush (v := 24) hx hb dX3_reachFewest_3 (by decide) ?_
      refine lv_icmp_ge (tgt := 107) hx hb dX3_reachFewest_5 (by decide) (fun c8 => ?_) (fun c8 => ?_)
      · have b5 := qge_t (a := n) (b := 24) (by omega) (by omega) c8
        exact wr_vret hx hb hr hlocks hS hP ⟨x2, x3, x4, x5, x6, x7, Xn, Un, rfl, (show RFI _ _ _ 24 _ _ _ _ _ _ _ _ _ _ from (show n = 24 by omega) ▸ hri), hkq⟩ dX3_reachFewest_107
      · have b5 := qge_f (a := n) (b := 24) (by omega) (by omega) c8
        refine lv_iload_n hx hb dX3_reachFewest_8 rfl (lv_at hl 0 rfl) ?_
        refine lv_bipush (v := 12) hx hb dX3_reachFewest_9 (by decide) ?_
        refine lv_icmp_ge (tgt := 18) hx hb dX3_reachFewest_11 (by decide) (fun c9 => ?_) (fun c9 => ?_)
        · have b11 := qge_t (a := n) (b := 12) (by omega) (by omega) c9
          refine lv_bipush (v := 24) hx hb dX3_reachFewest_18 (by decide) ?_
          refine lv_istore_n (lv' := [(2, .int 24), (1, .int (nI n)), (0, .ref (ua 0))]) hx hb dX3_reachFewest_20 rfl hl (by decide) rfl (fun ls hl => ?_)
          refine lv_iload_n hx hb dX3_reachFewest_21 rfl (lv_at hl 1 rfl) ?_
          refine lv_bipush (v := 12) hx hb dX3_reachFewest_22 (by decide) ?_
          refine lv_icmp_ge (tgt := 32) hx hb dX3_reachFewest_24 (by decide) (fun c10 => ?_) (fun c10 => ?_)
          · have b24 := qge_t (a := n) (b := 12) (by omega) (by omega) c10
            have hft : fN n = 24 ∧ tN n = n := ⟨fN_c (by omega), tN_c (by omega)⟩
            refine lv_iload_n hx hb dX3_reachFewest_32 rfl (lv_at hl 1 rfl) ?_
            refine lv_istore_n (lv' := [(3, .int (nI n)), (2, .int 24), (1, .int (nI n)), (0, .ref (ua 0))]) hx hb dX3_reachFewest_33 rfl hl (by decide) rfl (fun ls hl => ?_)
            refine lv_iconst (v := 0) hx hb dX3_reachFewest_34 (by decide) ?_
            refine lv_istore (lv' := [(4, .int 0), (3, .int (nI n)), (2, .int 24), (1, .int (nI n)), (0, .ref (ua 0))]) hx hb dX3_reachFewest_35 hl (by decide) rfl (fun ls hl => ?_)
            have loop37 : ∀ (k11 tn : Nat) (Xt : Nat → Nat → Nat) (Ut : Nat → Nat) (x12 : Int32) (x13 : Nat → Int32) (x14 : Nat → Int32) (x15 : Nat → Int32) (x16 : Nat → Int32) (x17 : Nat → Int32), tn ≤ 12 → 12 < tn + k11 → (RFI dm on O n Xt Ut fe mo (ur 1) x13 x14 (ur 5) (ur 6) x15) → (tn ≤ Ut n) → (∀ a b, a < 12 → b < 12 → dm a b = false → x13 (a * 12 + b) = (ur 2) (a * 12 + b)) → ∀ (H : Heap) (locs : List Loc) (ls : Array Slot), PP G (uM G ua a b la (upd uf 3 x12) f lf (up2 (up2 (up2 (up2 (up2 ur 2 x13) 4 x14) 20 x15) 21 x16) 22 x17) r lr) H → va_S A s.heap H locs → lv_has ls 5 [(4, .int (nI tn)), (3, .int (nI n)), (2, .int 24), (1, .int (nI n)), (0, .ref (ua 0))] → W p l e ({ frames := 4, cells := 0, slots := 0, locals := 99 }) s m ([.ref (ua 0)] : List Value).toArray below meth c H locs 0 0 (MQ below (QwV G (fun w => ∃ (n_uf_3 : Int32) (n_ur_2 : Nat → Int32) (n_ur_4 : Nat → Int32) (n_ur_20 : Nat → Int32) (n_ur_21 : Nat → Int32) (n_ur_22 : Nat → Int32) (X2 : Nat → Nat → Nat) (U2 : Nat → Nat), w = uM G ua a b la (upd uf 3 n_uf_3) f lf (up2 (up2 (up2 (up2 (up2 ur 2 n_ur_2) 4 n_ur_4) 20 n_ur_20) 21 n_ur_21) 22 n_ur_22) r lr ∧ (RFI dm on O 24 X2 U2 fe mo (ur 1) n_ur_2 n_ur_4 (ur 5) (ur 6) n_ur_20) ∧ (∀ a b, a < 12 → b < 12 → dm a b = false → n_ur_2 (a * 12 + b) = (ur 2) (a * 12 + b))) A) ([.ref (ua 0)] : List Value).toArray s 0 0 A) (F0 m 37 ls []) := by
              intro k11
              induction k11 with
              | zero => intro tn Xt Ut x12 x13 x14 x15 x16 x17 h1 h2; exact absurd h1 (by omega)
              | succ k11 ih37k11 =>
                intro tn Xt Ut x12 x13 x14 x15 x16 x17 hi_tn hk_tn hri htn hkq H locs ls hP hS hl
                refine lv_iload hx hb dX3_reachFewest_37 (lv_at hl 0 rfl) ?_
                refine lv_bipush (v := 12) hx hb dX3_reachFewest_39 (by decide) ?_
                refine lv_icmp_ge (tgt := 101) hx hb dX3_reachFewest_41 (by decide) (fun c18 => ?_) (fun c18 => ?_)
                · have b41 := qge_t (a := tn) (b := 12) (by omega) (by omega) c18
                  obtain ⟨v19, ev19⟩ : ∃ y9 : Int32, y9 = (nI n) + Int32.ofInt (1) := ⟨_, rfl⟩
                  refine lv_iinc (v := v19) (lv' := [(1, .int v19), (4, .int (nI tn)), (3, .int (nI n)), (2, .int 24), (0, .ref (ua 0))]) hx hb dX3_reachFewest_101 hl (k := 3) rfl ev19.symm (by decide) rfl (fun ls hl => ?_)
                  obtain rfl : v19 = nI (n + 1) := nI_plus (i := n) (j := 1) ev19 rfl (by decide)
                  refine lv_goto (tgt := 2) hx hb dX3_reachFewest_104 (by decide) ?_
                  exact ih2k1 (n + 1) Xt Ut x12 x13 x14 x15 x16 x17 (by omega) (by omega) (RFI_n hri (by have h9 := hf11 n (by omega); omega)) (hkq) _ _ _ hP hS (lv_sub hl [0, 4] rfl)
                · have b41 := qge_f (a := tn) (b := 12) (by omega) (by omega) c18
                  obtain ⟨qa, qb, qc, qd, qe, qg⟩ := hri.1.2.2.1 n (by omega)
                  refine lv_aload_n hx hb dX3_reachFewest_44 rfl (lv_at hl 4 rfl) ?_
                  refine va_get (D := G.1) (ci := 3) (v := .ref (ua 4)) (C := RX3) (T := TX3) (N := 8) hx hb hts inX3 hown hK.1 hP 0 rfl rfl 4 (by decide) (hts _ mf_X3_29) (fun _ h9 => h9) rfl dX3_reachFewest_45 ?_
                  refine lv_iload_n hx hb dX3_reachFewest_48 rfl (lv_at hl 3 rfl) ?_
                  refine xiald (f := x14) hx hb hK hP 4 (n) (rfl) (by omega) (by decide) rfl dX3_reachFewest_49 ?_
                  refine lv_topi (fun v20 ev20 => ?_)
                  obtain rfl : v20 = nI ((Ut n)) := ev20.trans (qa)
                  refine lv_aload_n hx hb dX3_reachFewest_50 rfl (lv_at hl 4 rfl) ?_
                  refine va_get (D := G.1) (ci := 3) (v := .ref (ua 5)) (C := RX3) (T := TX3) (N := 8) hx hb hts inX3 hown hK.1 hP 0 rfl rfl 5 (by decide) (hts _ mf_X3_32) (fun _ h9 => h9) rfl dX3_reachFewest_51 ?_
                  refine lv_iload_n hx hb dX3_reachFewest_54 rfl (lv_at hl 3 rfl) ?_
                  refine xiald (f := (ur 5)) hx hb hK hP 5 (n) (rfl) (by omega) (by decide) rfl dX3_reachFewest_55 ?_
                  refine lv_topi (fun v21 ev21 => ?_)
                  obtain rfl : v21 = nI ((fe n)) := ev21.trans (qb)
                  refine lv_icmp_ge (tgt := 101) hx hb dX3_reachFewest_56 (by decide) (fun c22 => ?_) (fun c22 => ?_)
                  · have b56 := qge_t (a := ((Ut n))) (b := ((fe n))) (by omega) (by omega) c22
                    obtain ⟨v23, ev23⟩ : ∃ y9 : Int32, y9 = (nI n) + Int32.ofInt (1) := ⟨_, rfl⟩
                    refine lv_iinc (v := v23) (lv' := [(1, .int v23), (4, .int (nI tn)), (3, .int (nI n)), (2, .int 24), (0, .ref (ua 0))]) hx hb dX3_reachFewest_101 hl (k := 3) rfl ev23.symm (by decide) rfl (fun ls hl => ?_)
                    obtain rfl : v23 = nI (n + 1) := nI_plus (i := n) (j := 1) ev23 rfl (by decide)
                    refine lv_goto (tgt := 2) hx hb dX3_reachFewest_104 (by decide) ?_
                    exact ih2k1 (n + 1) Xt Ut x12 x13 x14 x15 x16 x17 (by omega) (by omega) (RFI_n hri (by have h9 := hf11 n (by omega); omega)) (hkq) _ _ _ hP hS (lv_sub hl [0, 4] rfl)
                  · have b56 := qge_f (a := ((Ut n))) (b := ((fe n))) (by omega) (by omega) c22
                    refine lv_aload_n hx hb dX3_reachFewest_59 rfl (lv_at hl 4 rfl) ?_
                    refine va_get (D := G.1) (ci := 3) (v := .ref (ua 23)) (C := RX3) (T := TX3) (N := 8) hx hb hts inX3 hown hK.1 hP 0 rfl rfl 0 (by decide) (hts _ mf_X3_12) (fun _ h9 => h9) rfl dX3_reachFewest_60 ?_
                    refine lv_iload_n hx hb dX3_reachFewest_63 rfl (lv_at hl 2 rfl) ?_
                    refine lv_iload_n hx hb dX3_reachFewest_64 rfl (lv_at hl 1 rfl) ?_
                    refine wrVI (rest := []) (q0 := 0) ⟨hx, hb, hml, hown, hts⟩ (e_X5_leads l G (fun k => ua (20 + k)) (upd uf 3 x12) (fun k => (up2 (up2 (up2 (up2 (up2 ur 2 x13) 4 x14) 20 x15) 21 x16) 22 x17) (20 + k)) 24 n (by omega) (by omega)) mi_yX5_leads mv_yX5_leads ml_X3_109 ⟨rfl, rfl, Nat.le_of_ble_eq_true rfl, Nat.le_of_ble_eq_true rfl⟩ hK hP (hDD _ _ _ _ _ _) [8, 9, 10, 11] rfl (by decide) rfl rfl rfl hl.1 rfl (Nat.le_of_ble_eq_true rfl) dX3_reachFewest_65 ⟨Nat.zero_le _, Nat.zero_le _⟩ hS hA (fun r27 w28 H locs hw28 hP hS => ?_)
                    obtain ⟨x24, x25, x26, rfl, hz_⟩ := hw28
                    have hP : PP G (uM G ua a b la (upd uf 3 x26) f lf (up2 (up2 (up2 (up2 (up2 ur 2 x13) 4 x14) 20 x15) 21 x24) 22 x25) r lr) H := hP rfl
                    have hz9 : (r27 = 0 ∧ CLO x15 24 n x26) ∨ (r27 = 1 ∧ WAY x15 24 n x24) := hz_
                    have hb9_ : (r27 = 1 ∧ r27 = 1) ∨ (r27 = 0 ∧ ¬ r27 = 1) := hz9.elim (fun q9 => Or.inr ⟨q9.1, by rw [q9.1]; decide⟩) (fun q9 => Or.inl ⟨q9.1, q9.1⟩)
                    refine lv_if_ne (tgt := 74) hx hb dX3_reachFewest_68 (by decide) (fun c29 => ?_) (fun c29 => ?_)
                    · have b68 := bT hb9_ c29
                      obtain ⟨L, hCH⟩ := CH_of (hz9.resolve_left (fun q9 => c29 q9.1)).2 (by omega)
                      refine lv_aload_n hx hb dX3_reachFewest_74 rfl (lv_at hl 4 rfl) ?_
                      refine lv_iload_n hx hb dX3_reachFewest_75 rfl (lv_at hl 2 rfl) ?_
                      refine lv_iload_n hx hb dX3_reachFewest_76 rfl (lv_at hl 1 rfl) ?_
                      refine wrVVa (rest := []) (q0 := 0) ⟨hx, hb, hml, hown, hts⟩ (r_X3_shift l G ua a b la (upd uf 3 x26) f lf (up2 (up2 (up2 (up2 (up2 ur 2 x13) 4 x14) 20 x15) 21 x24) 22 x25) r lr 24 n dm on O Xt Ut fe mo L (by omega) (by omega) hri.1 hCH) mi_yX3_shift mv_yX3_shift ml_X3_113 ⟨rfl, rfl, Nat.le_of_ble_eq_true rfl, Nat.le_of_ble_eq_true rfl⟩ hK hP (hDD _ _ _ _ _ _) rfl rfl rfl hl.1 rfl (Nat.le_of_ble_eq_true rfl) dX3_reachFewest_77 ⟨Nat.zero_le _, Nat.zero_le _⟩ hS hA (fun w31 H locs hw31 hP hS => ?_)
                      obtain ⟨x32, x33, x34, X2, U2, rfl, hst, hpu, hoff, hkp⟩ := hw31
                      have hP : PP G (uM G ua a b la (upd uf 3 x26) f lf (up2 (up2 (up2 (up2 (up2 ur 2 x32) 4 x33) 20 x34) 21 x24) 22 x25) r lr) H := hP
                      have hst : UST dm on O X2 U2 fe mo (ur 1) x32 x33 (ur 5) (ur 6) x34 := hst
                      have hpu : ∀ a b, a < 25 → b < 25 → cRd on X2 U2 fe mo a b = puC (chF x24 n) 1 (cRd on Xt Ut fe mo) (L n) a b := hpu
                      have hoff : ∀ a b, a < 12 → b < 12 → on a b = false → X2 a b = Xt a b := hoff
                      have hkp : ∀ a b, a < 12 → b < 12 → dm a b = false → x32 (a * 12 + b) = x13 (a * 12 + b) := hkp
                      obtain ⟨e0, hb2, hm2, hf2⟩ := rf_step (n := n) (by omega) hri.1.2.2.2 (by rw [hft.1, hft.2]; exact hCH) (by rw [hft.2]; exact hpu) hoff hri.2.2.1 hri.2.2.2.1 hfm b56
                      have hf9 := hf11 n (by omega)
                      refine lv_aload_n hx hb dX3_reachFewest_80 rfl (lv_at hl 4 rfl) ?_
                      refine va_get (D := G.1) (ci := 3) (v := .ref (ua 4)) (C := RX3) (T := TX3) (N := 8) hx hb hts inX3 hown hK.1 hP 0 rfl rfl 4 (by decide) (hts _ mf_X3_29) (fun _ h9 => h9) rfl dX3_reachFewest_81 ?_
                      refine lv_iload_n hx hb dX3_reachFewest_84 rfl (lv_at hl 3 rfl) ?_
                      refine lv_dup2_11 hx hb dX3_reachFewest_85 rfl rfl ?_
                      refine xiald (f := x33) hx hb hK hP 4 (n) (rfl) (by omega) (by decide) rfl dX3_reachFewest_86 ?_
                      refine lv_topi (fun v35 ev35 => ?_)
                      obtain rfl : v35 = nI ((U2 n)) := ev35.trans ((hst.2.2.1 n (by omega)).1)
                      refine lv_iconst (v := 1) hx hb dX3_reachFewest_87 (by decide) ?_
                      refine lv_iadd hx hb dX3_reachFewest_88 ?_
                      refine lv_topi (fun v36 ev36 => ?_)
                      obtain rfl : v36 = nI (((U2 n)) + 1) := nI_plus ev36 rfl rfl
                      refine xiast (f := x33) (x := (nI (((U2 n)) + 1))) hx hb hK hP (hDD _ _ _ _ _ _) hS 4 (n) (rfl) (by omega) (by decide) rfl dX3_reachFewest_89 (fun H locs hP _ hS => ?_)
                      have hP : PP G (uM G ua a b la (upd uf 3 x26) f lf (up2 (up2 (up2 (up2 (up2 ur 2 x32) 4 (upd x33 (n) ((nI (((U2 n)) + 1))))) 20 x34) 21 x24) 22 x25) r lr) H := hP
                      refine lv_aload_n hx hb dX3_reachFewest_90 rfl (lv_at hl 4 rfl) ?_
                      refine lv_iload_n hx hb dX3_reachFewest_91 rfl (lv_at hl 3 rfl) ?_
                      refine wrVVa (rest := []) (q0 := 0) ⟨hx, hb, hml, hown, hts⟩ (r_X3_refreshNode l G ua a b la (upd uf 3 x26) f lf (up2 (up2 (up2 (up2 (up2 ur 2 x32) 4 (upd x33 (n) ((nI (((U2 n)) + 1))))) 20 x34) 21 x24) 22 x25) r lr n on X2 (upL U2 n (U2 n + 1)) fe mo U2 fe mo (by omega) up_ag hst.2.2.2 (rq_U hst (by omega) (by omega))) mi_yX3_refreshNode mv_yX3_refreshNode ml_X3_94 ⟨rfl, rfl, Nat.le_of_ble_eq_true rfl, Nat.le_of_ble_eq_true rfl⟩ hK hP (hDD _ _ _ _ _ _) rfl rfl rfl hl.1 rfl (Nat.le_of_ble_eq_true rfl) dX3_reachFewest_92 ⟨Nat.zero_le _, Nat.zero_le _⟩ hS hA (fun w38 H locs hw38 hP hS => ?_)
                      obtain ⟨x39, rfl, hsy0⟩ := hw38
                      have hP : PP G (uM G ua a b la (upd uf 3 x26) f lf (up2 (up2 (up2 (up2 (up2 ur 2 x32) 4 (upd x33 (n) ((nI (((U2 n)) + 1))))) 20 x39) 21 x24) 22 x25) r lr) H := hP
                      have hsy0 : SYU on X2 (upL U2 n (U2 n + 1)) fe mo x39 := hsy0
                      obtain ⟨v40, ev40⟩ : ∃ y9 : Int32, y9 = (nI tn) + Int32.ofInt (1) := ⟨_, rfl⟩
                      refine lv_iinc (v := v40) (lv' := [(4, .int v40), (3, .int (nI n)), (2, .int 24), (1, .int (nI n)), (0, .ref (ua 0))]) hx hb dX3_reachFewest_95 hl (k := 0) rfl ev40.symm (by decide) rfl (fun ls hl => ?_)
                      obtain rfl : v40 = nI (tn + 1) := nI_plus (i := tn) (j := 1) ev40 rfl (by decide)
                      refine lv_goto (tgt := 37) hx hb dX3_reachFewest_98 (by decide) ?_
                      exact ih37k11 (tn + 1) X2 (upL U2 n (U2 n + 1)) x26 x32 (upd x33 (n) ((nI (((U2 n)) + 1)))) x39 x24 x25 (by omega) (by omega) (⟨UST_U hst (by omega) hsy0, fun a b ha hb e9 => ⟨(hri.2.1 a b ha hb e9).1, (hoff a b ha hb e9).trans (hri.2.1 a b ha hb e9).2⟩, hb2, hm2, fun k hk => hf2 k (by omega) (hri.2.2.2.2 k hk)⟩) (by rw [upL_o]; omega) (fun a b ha hb e9 => (hkp a b ha hb e9).trans (hkq a b ha hb e9)) _ _ _ hP hS (lv_sub hl [0, 1, 2, 3, 4] rfl)
                    · have b68 := bF hb9_ c29
                      exact (rf_no (n := n) hB (by omega) hO hri.2.1 hri.2.2.1 hfe hmo hri.1.2.2.2 (by rw [hft.1, hft.2]; exact (hz9.resolve_right (fun q9 => absurd q9.1 (by rw [show r27 = 0 from c29]; decide))).2) b56).elim
            exact loop37 (12 + 1) 0 Xn Un x2 x3 x4 x5 x6 x7 (by omega) (by omega) (hri) (Nat.zero_le _) (hkq) _ _ _ hP hS (lv_sub hl [0, 1, 2, 3, 4] rfl)
          · have b24 := qge_f (a := n) (b := 12) (by omega) (by omega) c10
            exact absurd b24 (by omega)
        · have b11 := qge_f (a := n) (b := 12) (by omega) (by omega) c9
          refine lv_iload_n hx hb dX3_reachFewest_14 rfl (lv_at hl 0 rfl) ?_
          refine lv_goto (tgt := 20) hx hb dX3_reachFewest_15 (by decide) ?_
          refine lv_istore_n (lv' := [(2, .int (nI n)), (1, .int (nI n)), (0, .ref (ua 0))]) hx hb dX3_reachFewest_20 rfl hl (by decide) rfl (fun ls hl => ?_)
          refine lv_iload_n hx hb dX3_reachFewest_21 rfl (lv_at hl 1 rfl) ?_
          refine lv_bipush (v := 12) hx hb dX3_reachFewest_22 (by decide) ?_
          refine lv_icmp_ge (tgt := 32) hx hb dX3_reachFewest_24 (by decide) (fun c41 => ?_) (fun c41 => ?_)
          · have b24 := qge_t (a := n) (b := 12) (by omega) (by omega) c41
            exact absurd b24 (by omega)
          · have b24 := qge_f (a := n) (b := 12) (by omega) (by omega) c41
            have hft : fN n = n ∧ tN n = 24 := ⟨fN_r (by omega), tN_r (by omega)⟩
            refine lv_bipush (v := 24) hx hb dX3_reachFewest_27 (by decide) ?_
            refine lv_goto (tgt := 33) hx hb dX3_reachFewest_29 (by decide) ?_
            refine lv_istore_n (lv' := [(3, .int 24), (2, .int (nI n)), (1, .int (nI n)), (0, .ref (ua 0))]) hx hb dX3_reachFewest_33 rfl hl (by decide) rfl (fun ls hl => ?_)
            refine lv_iconst (v := 0) hx hb dX3_reachFewest_34 (by decide) ?_
            refine lv_istore (lv' := [(4, .int 0), (3, .int 24), (2, .int (nI n)), (1, .int (nI n)), (0, .ref (ua 0))]) hx hb dX3_reachFewest_35 hl (by decide) rfl (fun ls hl => ?_)
            have loop37 : ∀ (k42 tn : Nat) (Xt : Nat → Nat → Nat) (Ut : Nat → Nat) (x43 : Int32) (x44 : Nat → Int32) (x45 : Nat → Int32) (x46 : Nat → Int32) (x47 : Nat → Int32) (x48 : Nat → Int32), tn ≤ 12 → 12 < tn + k42 → (RFI dm on O n Xt Ut fe mo (ur 1) x44 x45 (ur 5) (ur 6) x46) → (tn ≤ Ut n) → (∀ a b, a < 12 → b < 12 → dm a b = false → x44 (a * 12 + b) = (ur 2) (a * 12 + b)) → ∀ (H : Heap) (locs : List Loc) (ls : Array Slot), PP G (uM G ua a b la (upd uf 3 x43) f lf (up2 (up2 (up2 (up2 (up2 ur 2 x44) 4 x45) 20 x46) 21 x47) 22 x48) r lr) H → va_S A s.heap H locs → lv_has ls 5 [(4, .int (nI tn)), (3, .int 24), (2, .int (nI n)), (1, .int (nI n)), (0, .ref (ua 0))] → W p l e ({ frames := 4, cells := 0, slots := 0, locals := 99 }) s m ([.ref (ua 0)] : List Value).toArray below meth c H locs 0 0 (MQ below (QwV G (fun w => ∃ (n_uf_3 : Int32) (n_ur_2 : Nat → Int32) (n_ur_4 : Nat → Int32) (n_ur_20 : Nat → Int32) (n_ur_21 : Nat → Int32) (n_ur_22 : Nat → Int32) (X2 : Nat → Nat → Nat) (U2 : Nat → Nat), w = uM G ua a b la (upd uf 3 n_uf_3) f lf (up2 (up2 (up2 (up2 (up2 ur 2 n_ur_2) 4 n_ur_4) 20 n_ur_20) 21 n_ur_21) 22 n_ur_22) r lr ∧ (RFI dm on O 24 X2 U2 fe mo (ur 1) n_ur_2 n_ur_4 (ur 5) (ur 6) n_ur_20) ∧ (∀ a b, a < 12 → b < 12 → dm a b = false → n_ur_2 (a * 12 + b) = (ur 2) (a * 12 + b))) A) ([.ref (ua 0)] : List Value).toArray s 0 0 A) (F0 m 37 ls []) := by
              intro k42
              induction k42 with
              | zero => intro tn Xt Ut x43 x44 x45 x46 x47 x48 h1 h2; exact absurd h1 (by omega)
              | succ k42 ih37k42 =>
                intro tn Xt Ut x43 x44 x45 x46 x47 x48 hi_tn hk_tn hri htn hkq H locs ls hP hS hl
                refine lv_iload hx hb dX3_reachFewest_37 (lv_at hl 0 rfl) ?_
                refine lv_bipush (v := 12) hx hb dX3_reachFewest_39 (by decide) ?_
                refine lv_icmp_ge (tgt := 101) hx hb dX3_reachFewest_41 (by decide) (fun c49 => ?_) (fun c49 => ?_)
                · have b41 := qge_t (a := tn) (b := 12) (by omega) (by omega) c49
                  obtain ⟨v50, ev50⟩ : ∃ y9 : Int32, y9 = (nI n) + Int32.ofInt (1) := ⟨_, rfl⟩
                  refine lv_iinc (v := v50) (lv' := [(1, .int v50), (4, .int (nI tn)), (3, .int 24), (2, .int (nI n)), (0, .ref (ua 0))]) hx hb dX3_reachFewest_101 hl (k := 3) rfl ev50.symm (by decide) rfl (fun ls hl => ?_)
                  obtain rfl : v50 = nI (n + 1) := nI_plus (i := n) (j := 1) ev50 rfl (by decide)
                  refine lv_goto (tgt := 2) hx hb dX3_reachFewest_104 (by decide) ?_
                  exact ih2k1 (n + 1) Xt Ut x43 x44 x45 x46 x47 x48 (by omega) (by omega) (RFI_n hri (by have h9 := hf11 n (by omega); omega)) (hkq) _ _ _ hP hS (lv_sub hl [0, 4] rfl)
                · have b41 := qge_f (a := tn) (b := 12) (by omega) (by omega) c49
                  obtain ⟨qa, qb, qc, qd, qe, qg⟩ := hri.1.2.2.1 n (by omega)
                  refine lv_aload_n hx hb dX3_reachFewest_44 rfl (lv_at hl 4 rfl) ?_
                  refine va_get (D := G.1) (ci := 3) (v := .ref (ua 4)) (C := RX3) (T := TX3) (N := 8) hx hb hts inX3 hown hK.1 hP 0 rfl rfl 4 (by decide) (hts _ mf_X3_29) (fun _ h9 => h9) rfl dX3_reachFewest_45 ?_
                  refine lv_iload_n hx hb dX3_reachFewest_48 rfl (lv_at hl 3 rfl) ?_
                  refine xiald (f := x45) hx hb hK hP 4 (n) (rfl) (by omega) (by decide) rfl dX3_reachFewest_49 ?_
                  refine lv_topi (fun v51 ev51 => ?_)
                  obtain rfl : v51 = nI ((Ut n)) := ev51.trans (qa)
                  refine lv_aload_n hx hb dX3_reachFewest_50 rfl (lv_at hl 4 rfl) ?_
                  refine va_get (D := G.1) (ci := 3) (v := .ref (ua 5)) (C := RX3) (T := TX3) (N := 8) hx hb hts inX3 hown hK.1 hP 0 rfl rfl 5 (by decide) (hts _ mf_X3_32) (fun _ h9 => h9) rfl dX3_reachFewest_51 ?_
                  refine lv_iload_n hx hb dX3_reachFewest_54 rfl (lv_at hl 3 rfl) ?_
                  refine xiald (f := (ur 5)) hx hb hK hP 5 (n) (rfl) (by omega) (by decide) rfl dX3_reachFewest_55 ?_
                  refine lv_topi (fun v52 ev52 => ?_)
                  obtain rfl : v52 = nI ((fe n)) := ev52.trans (qb)
                  refine lv_icmp_ge (tgt := 101) hx hb dX3_reachFewest_56 (by decide) (fun c53 => ?_) (fun c53 => ?_)
                  · have b56 := qge_t (a := ((Ut n))) (b := ((fe n))) (by omega) (by omega) c53
                    obtain ⟨v54, ev54⟩ : ∃ y9 : Int32, y9 = (nI n) + Int32.ofInt (1) := ⟨_, rfl⟩
                    refine lv_iinc (v := v54) (lv' := [(1, .int v54), (4, .int (nI tn)), (3, .int 24), (2, .int (nI n)), (0, .ref (ua 0))]) hx hb dX3_reachFewest_101 hl (k := 3) rfl ev54.symm (by decide) rfl (fun ls hl => ?_)
                    obtain rfl : v54 = nI (n + 1) := nI_plus (i := n) (j := 1) ev54 rfl (by decide)
                    refine lv_goto (tgt := 2) hx hb dX3_reachFewest_104 (by decide) ?_
                    exact ih2k1 (n + 1) Xt Ut x43 x44 x45 x46 x47 x48 (by omega) (by omega) (RFI_n hri (by have h9 := hf11 n (by omega); omega)) (hkq) _ _ _ hP hS (lv_sub hl [0, 4] rfl)
                  · have b56 := qge_f (a := ((Ut n))) (b := ((fe n))) (by omega) (by omega) c53
                    refine lv_aload_n hx hb dX3_reachFewest_59 rfl (lv_at hl 4 rfl) ?_
                    refine va_get (D := G.1) (ci := 3) (v := .ref (ua 23)) (C := RX3) (T := TX3) (N := 8) hx hb hts inX3 hown hK.1 hP 0 rfl rfl 0 (by decide) (hts _ mf_X3_12) (fun _ h9 => h9) rfl dX3_reachFewest_60 ?_
                    refine lv_iload_n hx hb dX3_reachFewest_63 rfl (lv_at hl 2 rfl) ?_
                    refine lv_iload_n hx hb dX3_reachFewest_64 rfl (lv_at hl 1 rfl) ?_
                    refine wrVI (rest := []) (q0 := 0) ⟨hx, hb, hml, hown, hts⟩ (e_X5_leads l G (fun k => ua (20 + k)) (upd uf 3 x43) (fun k => (up2 (up2 (up2 (up2 (up2 ur 2 x44) 4 x45) 20 x46) 21 x47) 22 x48) (20 + k)) n 24 (by omega) (by omega)) mi_yX5_leads mv_yX5_leads ml_X3_109 ⟨rfl, rfl, Nat.le_of_ble_eq_true rfl, Nat.le_of_ble_eq_true rfl⟩ hK hP (hDD _ _ _ _ _ _) [8, 9, 10, 11] rfl (by decide) rfl rfl rfl hl.1 rfl (Nat.le_of_ble_eq_true rfl) dX3_reachFewest_65 ⟨Nat.zero_le _, Nat.zero_le _⟩ hS hA (fun r58 w59 H locs hw59 hP hS => ?_)
                    obtain ⟨x55, x56, x57, rfl, hz_⟩ := hw59
                    have hP : PP G (uM G ua a b la (upd uf 3 x57) f lf (up2 (up2 (up2 (up2 (up2 ur 2 x44) 4 x45) 20 x46) 21 x55) 22 x56) r lr) H := hP rfl
                    have hz9 : (r58 = 0 ∧ CLO x46 n 24 x57) ∨ (r58 = 1 ∧ WAY x46 n 24 x55) := hz_
                    have hb9_ : (r58 = 1 ∧ r58 = 1) ∨ (r58 = 0 ∧ ¬ r58 = 1) := hz9.elim (fun q9 => Or.inr ⟨q9.1, by rw [q9.1]; decide⟩) (fun q9 => Or.inl ⟨q9.1, q9.1⟩)
                    refine lv_if_ne (tgt := 74) hx hb dX3_reachFewest_68 (by decide) (fun c60 => ?_) (fun c60 => ?_)
                    · have b68 := bT hb9_ c60
                      obtain ⟨L, hCH⟩ := CH_of (hz9.resolve_left (fun q9 => c60 q9.1)).2 (by omega)
                      refine lv_aload_n hx hb dX3_reachFewest_74 rfl (lv_at hl 4 rfl) ?_
                      refine lv_iload_n hx hb dX3_reachFewest_75 rfl (lv_at hl 2 rfl) ?_
                      refine lv_iload_n hx hb dX3_reachFewest_76 rfl (lv_at hl 1 rfl) ?_
                      refine wrVVa (rest := []) (q0 := 0) ⟨hx, hb, hml, hown, hts⟩ (r_X3_shift l G ua a b la (upd uf 3 x57) f lf (up2 (up2 (up2 (up2 (up2 ur 2 x44) 4 x45) 20 x46) 21 x55) 22 x56) r lr n 24 dm on O Xt Ut fe mo L (by omega) (by omega) hri.1 hCH) mi_yX3_shift mv_yX3_shift ml_X3_113 ⟨rfl, rfl, Nat.le_of_ble_eq_true rfl, Nat.le_of_ble_eq_true rfl⟩ hK hP (hDD _ _ _ _ _ _) rfl rfl rfl hl.1 rfl (Nat.le_of_ble_eq_true rfl) dX3_reachFewest_77 ⟨Nat.zero_le _, Nat.zero_le _⟩ hS hA (fun w62 H locs hw62 hP hS => ?_)
                      obtain ⟨x63, x64, x65, X2, U2, rfl, hst, hpu, hoff, hkp⟩ := hw62
                      have hP : PP G (uM G ua a b la (upd uf 3 x57) f lf (up2 (up2 (up2 (up2 (up2 ur 2 x63) 4 x64) 20 x65) 21 x55) 22 x56) r lr) H := hP
                      have hst : UST dm on O X2 U2 fe mo (ur 1) x63 x64 (ur 5) (ur 6) x65 := hst
                      have hpu : ∀ a b, a < 25 → b < 25 → cRd on X2 U2 fe mo a b = puC (chF x55 24) 1 (cRd on Xt Ut fe mo) (L 24) a b := hpu
                      have hoff : ∀ a b, a < 12 → b < 12 → on a b = false → X2 a b = Xt a b := hoff
                      have hkp : ∀ a b, a < 12 → b < 12 → dm a b = false → x63 (a * 12 + b) = x44 (a * 12 + b) := hkp
                      obtain ⟨e0, hb2, hm2, hf2⟩ := rf_step (n := n) (by omega) hri.1.2.2.2 (by rw [hft.1, hft.2]; exact hCH) (by rw [hft.2]; exact hpu) hoff hri.2.2.1 hri.2.2.2.1 hfm b56
                      have hf9 := hf11 n (by omega)
                      refine lv_aload_n hx hb dX3_reachFewest_80 rfl (lv_at hl 4 rfl) ?_
                      refine va_get (D := G.1) (ci := 3) (v := .ref (ua 4)) (C := RX3) (T := TX3) (N := 8) hx hb hts inX3 hown hK.1 hP 0 rfl rfl 4 (by decide) (hts _ mf_X3_29) (fun _ h9 => h9) rfl dX3_reachFewest_81 ?_
                      refine lv_iload_n hx hb dX3_reachFewest_84 rfl (lv_at hl 3 rfl) ?_
                      refine lv_dup2_11 hx hb dX3_reachFewest_85 rfl rfl ?_
                      refine xiald (f := x64) hx hb hK hP 4 (n) (rfl) (by omega) (by decide) rfl dX3_reachFewest_86 ?_
                      refine lv_topi (fun v66 ev66 => ?_)
                      obtain rfl : v66 = nI ((U2 n)) := ev66.trans ((hst.2.2.1 n (by omega)).1)
                      refine lv_iconst (v := 1) hx hb dX3_reachFewest_87 (by decide) ?_
                      refine lv_iadd hx hb dX3_reachFewest_88 ?_
                      refine lv_topi (fun v67 ev67 => ?_)
                      obtain rfl : v67 = nI (((U2 n)) + 1) := nI_plus ev67 rfl rfl
                      refine xiast (f := x64) (x := (nI (((U2 n)) + 1))) hx hb hK hP (hDD _ _ _ _ _ _) hS 4 (n) (rfl) (by omega) (by decide) rfl dX3_reachFewest_89 (fun H locs hP _ hS => ?_)
                      have hP : PP G (uM G ua a b la (upd uf 3 x57) f lf (up2 (up2 (up2 (up2 (up2 ur 2 x63) 4 (upd x64 (n) ((nI (((U2 n)) + 1))))) 20 x65) 21 x55) 22 x56) r lr) H := hP
                      refine lv_aload_n hx hb dX3_reachFewest_90 rfl (lv_at hl 4 rfl) ?_
                      refine lv_iload_n hx hb dX3_reachFewest_91 rfl (lv_at hl 3 rfl) ?_
                      refine wrVVa (rest := []) (q0 := 0) ⟨hx, hb, hml, hown, hts⟩ (r_X3_refreshNode l G ua a b la (upd uf 3 x57) f lf (up2 (up2 (up2 (up2 (up2 ur 2 x63) 4 (upd x64 (n) ((nI (((U2 n)) + 1))))) 20 x65) 21 x55) 22 x56) r lr n on X2 (upL U2 n (U2 n + 1)) fe mo U2 fe mo (by omega) up_ag hst.2.2.2 (rq_U hst (by omega) (by omega))) mi_yX3_refreshNode mv_yX3_refreshNode ml_X3_94 ⟨rfl, rfl, Nat.le_of_ble_eq_true rfl, Nat.le_of_ble_eq_true rfl⟩ hK hP (hDD _ _ _ _ _ _) rfl rfl rfl hl.1 rfl (Nat.le_of_ble_eq_true rfl) dX3_reachFewest_92 ⟨Nat.zero_le _, Nat.zero_le _⟩ hS hA (fun w69 H locs hw69 hP hS => ?_)
                      obtain ⟨x70, rfl, hsy0⟩ := hw69
                      have hP : PP G (uM G ua a b la (upd uf 3 x57) f lf (up2 (up2 (up2 (up2 (up2 ur 2 x63) 4 (upd x64 (n) ((nI (((U2 n)) + 1))))) 20 x70) 21 x55) 22 x56) r lr) H := hP
                      have hsy0 : SYU on X2 (upL U2 n (U2 n + 1)) fe mo x70 := hsy0
                      obtain ⟨v71, ev71⟩ : ∃ y9 : Int32, y9 = (nI tn) + Int32.ofInt (1) := ⟨_, rfl⟩
                      refine lv_iinc (v := v71) (lv' := [(4, .int v71), (3, .int 24), (2, .int (nI n)), (1, .int (nI n)), (0, .ref (ua 0))]) hx hb dX3_reachFewest_95 hl (k := 0) rfl ev71.symm (by decide) rfl (fun ls hl => ?_)
                      obtain rfl : v71 = nI (tn + 1) := nI_plus (i := tn) (j := 1) ev71 rfl (by decide)
                      refine lv_goto (tgt := 37) hx hb dX3_reachFewest_98 (by decide) ?_
                      exact ih37k42 (tn + 1) X2 (upL U2 n (U2 n + 1)) x57 x63 (upd x64 (n) ((nI (((U2 n)) + 1)))) x70 x55 x56 (by omega) (by omega) (⟨UST_U hst (by omega) hsy0, fun a b ha hb e9 => ⟨(hri.2.1 a b ha hb e9).1, (hoff a b ha hb e9).trans (hri.2.1 a b ha hb e9).2⟩, hb2, hm2, fun k hk => hf2 k (by omega) (hri.2.2.2.2 k hk)⟩) (by rw [upL_o]; omega) (fun a b ha hb e9 => (hkp a b ha hb e9).trans (hkq a b ha hb e9)) _ _ _ hP hS (lv_sub hl [0, 1, 2, 3, 4] rfl)
                    · have b68 := bF hb9_ c60
                      exact (rf_no (n := n) hB (by omega) hO hri.2.1 hri.2.2.1 hfe hmo hri.1.2.2.2 (by rw [hft.1, hft.2]; exact (hz9.resolve_right (fun q9 => absurd q9.1 (by rw [show r58 = 0 from c60]; decide))).2) b56).elim
            exact loop37 (12 + 1) 0 Xn Un x2 x3 x4 x5 x6 x7 (by omega) (by omega) (hri) (Nat.zero_le _) (hkq) _ _ _ hP hS (lv_sub hl [0, 1, 2, 3, 4] rfl)
  exact loop2 (24 + 1) 0 X U (uf 3) (ur 2) (ur 4) (ur 20) (ur 21) (ur 22) (by omega) (by omega) (hri) (fun _ _ _ _ _ => rfl) _ _ _ hP hS (lv_sub hl [0, 1] rfl)
set_option maxHeartbeats 4000000 in
set_option maxRecDepth 100000 in
theorem r_X3_bringDown (l : Launch) (G : GG) (ua a b la : Nat → Nat) (uf f lf : Nat → Int32) (ur r lr : Nat → Nat → Int32) (i : Nat) (cl : Nat) (dm : Nat → Nat → Bool) (O : Nat → Nat → Nat) (X : Nat → Nat → Nat) (U : Nat → Nat) (fe : Nat → Nat) (mo : Nat → Nat) (B : Nat) (hi : i < 12) (hcl : cl ≤ 12) (hB : 0 < B) (hfe : ∀ k, k < 24 → (B : Int) * fe k ≤ rS O k) (hmo : ∀ k, k < 24 → rS O k ≤ (B : Int) * mo k) (hdm : ∀ y, y < cl → dm i y = true) (hO0 : ∀ y, cl ≤ y → y < 12 → O i y = 0) (hbd : BDN dm O B (12 * i) X U fe mo (ur 1) (ur 2) (ur 4) (ur 5) (ur 6) (ur 20)) : WrV l yX3_bringDown cX3_bringDown 5 ({ frames := 4, cells := 0, slots := 0, locals := 99 }) G (uM G ua a b la uf f lf ur r lr) [.ref (ua 0), .int (nI i), .int (nI cl)] (fun w => ∃ (n_uf_3 : Int32) (n_ur_2 : Nat → Int32) (n_ur_4 : Nat → Int32) (n_ur_20 : Nat → Int32) (n_ur_21 : Nat → Int32) (n_ur_22 : Nat → Int32) (X2 : Nat → Nat → Nat) (U2 : Nat → Nat), w = uM G ua a b la (upd uf 3 n_uf_3) f lf (up2 (up2 (up2 (up2 (up2 ur 2 n_ur_2) 4 n_ur_4) 20 n_ur_20) 21 n_ur_21) 22 n_ur_22) r lr ∧ (BDN dm O B (12 * (i + 1)) X2 U2 fe mo (ur 1) n_ur_2 n_ur_4 (ur 5) (ur 6) n_ur_20) ∧ (∀ a b, a < 12 → b < 12 → dm a b = false → n_ur_2 (a * 12 + b) = (ur 2) (a * 12 + b))) := by
  refine wr_entryV (by decide +kernel) (Nat.le_of_ble_eq_true rfl) ?_
  intro p e s m below meth c A C0 hP hK hD hA ls hl
  have hS : va_S A s.heap s.heap [] := va_S.rf
  obtain ⟨hx, hb, hml, hown, hts, hr, hlocks, hin⟩ := C0
  have hown : s.vm.findClass RX3 = some m.cls := hown
  have hDD : ∀ uf' f' lf' ur' r' lr', va_D A (uM G ua a b la uf' f' lf' ur' r' lr') := fun uf' f' lf' ur' r' lr' => D_same hD rfl
  have hl : lv_has ls 5 [(0, .ref (ua 0)), (1, .int (nI i)), (2, .int (nI cl))] := hl
  refine lv_iconst (v := 0) hx hb dX3_bringDown_0 (by decide) ?_
  refine lv_istore_n (lv' := [(3, .int 0), (0, .ref (ua 0)), (1, .int (nI i)), (2, .int (nI cl))]) hx hb dX3_bringDown_1 rfl hl (by decide) rfl (fun ls hl => ?_)
  have loop2 : ∀ (k1 j : Nat) (Xj : Nat → Nat → Nat) (Uj : Nat → Nat) (x2 : Int32) (x3 : Nat → Int32) (x4 : Nat → Int32) (x5 : Nat → Int32) (x6 : Nat → Int32) (x7 : Nat → Int32), j ≤ cl → cl < j + k1 → (BDN dm O B (12 * i + j) Xj Uj fe mo (ur 1) x3 x4 (ur 5) (ur 6) x5) → (∀ a b, a < 12 → b < 12 → dm a b = false → x3 (a * 12 + b) = (ur 2) (a * 12 + b)) → ∀ (H : Heap) (locs : List Loc) (ls : Array Slot), PP G (uM G ua a b la (upd uf 3 x2) f lf (up2 (up2 (up2 (up2 (up2 ur 2 x3) 4 x4) 20 x5) 21 x6) 22 x7) r lr) H → va_S A s.heap H locs → lv_has ls 5 [(3, .int (nI j)), (0, .ref (ua 0)), (1, .int (nI i)), (2, .int (nI cl))] → W p l e ({ frames := 4, cells := 0, slots := 0, locals := 99 }) s m ([.ref (ua 0), .int (nI i), .int (nI cl)] : List Value).toArray below meth c H locs 0 0 (MQ below (QwV G (fun w => ∃ (n_uf_3 : Int32) (n_ur_2 : Nat → Int32) (n_ur_4 : Nat → Int32) (n_ur_20 : Nat → Int32) (n_ur_21 : Nat → Int32) (n_ur_22 : Nat → Int32) (X2 : Nat → Nat → Nat) (U2 : Nat → Nat), w = uM G ua a b la (upd uf 3 n_uf_3) f lf (up2 (up2 (up2 (up2 (up2 ur 2 n_ur_2) 4 n_ur_4) 20 n_ur_20) 21 n_ur_21) 22 n_ur_22) r lr ∧ (BDN dm O B (12 * (i + 1)) X2 U2 fe mo (ur 1) n_ur_2 n_ur_4 (ur 5) (ur 6) n_ur_20) ∧ (∀ a b, a < 12 → b < 12 → dm a b = false → n_ur_2 (a * 12 + b) = (ur 2) (a * 12 + b))) A) ([.ref (ua 0), .int (nI i), .int (nI cl)] : List Value).toArray s 0 0 A) (F0 m 2 ls []) := by
    intro k1
    induction k1 with
    | zero => intro j Xj Uj x2 x3 x4 x5 x6 x7 h1 h2; exact absurd h1 (by omega)
    | succ k1 ih2k1 =>
      intro j Xj Uj x2 x3 x4 x5 x6 x7 hi_j hk_j hbd hkq H locs ls hP hS hl
      refine lv_iload_n hx hb dX3_bringDown_2 rfl (lv_at hl 0 rfl) ?_
      refine lv_iload_n hx hb dX3_bringDown_3 rfl (lv_at hl 3 rfl) ?_
      refine lv_icmp_ge (tgt := 89) hx hb dX3_bringDown_4 (by decide) (fun c8 => ?_) (fun c8 => ?_)
      · have b4 := qge_t (a := j) (b := cl) (by omega) (by omega) c8
        exact wr_vret hx hb hr hlocks hS hP ⟨x2, x3, x4, x5, x6, x7, Xj, Uj, rfl, (bd_row (cl := j) (by omega) hi (fun y h8 h9 => hO0 y (by omega) h9) hbd), hkq⟩ dX3_bringDown_89
      · have b4 := qge_f (a := j) (b := cl) (by omega) (by omega) c8
        refine lv_iload_n hx hb dX3_bringDown_7 rfl (lv_at hl 2 rfl) ?_
        refine lv_iload_n hx hb dX3_bringDown_8 rfl (lv_at hl 0 rfl) ?_
        refine rdSN (rest := []) ⟨hx, hb, hml, hown, hts⟩ (c_X6_spotOf l G ((nI i)) ((nI j))) mi_yX6_spotOf mst_yX6_spotOf (by decide +kernel) ⟨rfl, rfl, Nat.le_of_ble_eq_true rfl, Nat.le_of_ble_eq_true rfl⟩ hK (fun k q h => by simp at h) rfl hl.1 rfl (Nat.le_of_ble_eq_true rfl) dX3_bringDown_9 ⟨Nat.zero_le _, Nat.zero_le _⟩ hS hA hP (fun r9 H locs hr9 hP hS => ?_)
        obtain rfl : r9 = nI (i * 12 + j) := spot_eq hr9
        refine lv_istore (lv' := [(4, .int (nI (i * 12 + j))), (3, .int (nI j)), (0, .ref (ua 0)), (1, .int (nI i)), (2, .int (nI cl))]) hx hb dX3_bringDown_12 hl (by decide) rfl (fun ls hl => ?_)
        obtain ⟨qa, qb⟩ := hbd.1.1 i j (by omega) (by omega) (hdm j (by omega))
        obtain ⟨qc, qd, _⟩ := hbd.1.2.1 i j (by omega) (by omega)
        refine lv_aload_n hx hb dX3_bringDown_14 rfl (lv_at hl 2 rfl) ?_
        refine va_get (D := G.1) (ci := 3) (v := .ref (ua 1)) (C := RX3) (T := TX3) (N := 8) hx hb hts inX3 hown hK.1 hP 0 rfl rfl 1 (by decide) (hts _ mf_X3_18) (fun _ h9 => h9) rfl dX3_bringDown_15 ?_
        refine lv_iload hx hb dX3_bringDown_18 (lv_at hl 0 rfl) ?_
        refine xiald (f := (ur 1)) hx hb hK hP 1 ((i * 12 + j)) (rfl) (by omega) (by decide) rfl dX3_bringDown_20 ?_
        refine lv_topi (fun v10 ev10 => ?_)
        obtain rfl : v10 = nI ((O i j)) := ev10.trans (qa)
        refine lv_if_ne (tgt := 27) hx hb dX3_bringDown_21 (by decide) (fun c11 => ?_) (fun c11 => ?_)
        · have b21 := qeq_f (a := ((O i j))) (b := 0) (by omega) (by omega) c11
          refine lv_aload_n hx hb dX3_bringDown_27 rfl (lv_at hl 2 rfl) ?_
          refine va_get (D := G.1) (ci := 3) (v := .ref (ua 23)) (C := RX3) (T := TX3) (N := 8) hx hb hts inX3 hown hK.1 hP 0 rfl rfl 0 (by decide) (hts _ mf_X3_12) (fun _ h9 => h9) rfl dX3_bringDown_28 ?_
          refine lv_iload_n hx hb dX3_bringDown_31 rfl (lv_at hl 3 rfl) ?_
          refine lv_bipush (v := 12) hx hb dX3_bringDown_32 (by decide) ?_
          refine lv_iload_n hx hb dX3_bringDown_34 rfl (lv_at hl 1 rfl) ?_
          refine lv_iadd hx hb dX3_bringDown_35 ?_
          refine lv_topi (fun v12 ev12 => ?_)
          obtain rfl : v12 = nI (12 + j) := nI_plus ev12 rfl rfl
          refine lv_iconst (v := 0) hx hb dX3_bringDown_36 (by decide) ?_
          refine lv_iconst (v := 0) hx hb dX3_bringDown_37 (by decide) ?_
          refine wrVV (rest := []) (q0 := 0) ⟨hx, hb, hml, hown, hts⟩ (c_X5_join l G (fun k => ua (20 + k)) (fun k => (up2 (up2 (up2 (up2 (up2 ur 2 x3) 4 x4) 20 x5) 21 x6) 22 x7) (20 + k)) x2 i (12 + j) 0 0 (by omega) (by omega)) mi_yX5_join mv_yX5_join ml_X3_105 ⟨rfl, rfl, Nat.le_of_ble_eq_true rfl, Nat.le_of_ble_eq_true rfl⟩ hK hP (hDD _ _ _ _ _ _) [8, 9, 10, 11] rfl (by decide) rfl rfl rfl hl.1 rfl (Nat.le_of_ble_eq_true rfl) dX3_bringDown_38 ⟨Nat.zero_le _, Nat.zero_le _⟩ hS hA (fun w14 H locs hw14 hP hS => ?_)
          obtain rfl := hw14
          have hP : PP G (uM G ua a b la (upd uf 3 x2) f lf (up2 (up2 (up2 (up2 (up2 ur 2 x3) 4 x4) 20 (jnF x5 i (12 + j) 0 0)) 21 x6) 22 x7) r lr) H := hP rfl
          have h2j := bd_j hi (by omega) hbd.1
          refine lv_aload_n hx hb dX3_bringDown_41 rfl (lv_at hl 2 rfl) ?_
          refine va_get (D := G.1) (ci := 3) (v := .ref (ua 2)) (C := RX3) (T := TX3) (N := 8) hx hb hts inX3 hown hK.1 hP 0 rfl rfl 2 (by decide) (hts _ mf_X3_22) (fun _ h9 => h9) rfl dX3_bringDown_42 ?_
          refine lv_iload hx hb dX3_bringDown_45 (lv_at hl 0 rfl) ?_
          refine xzald (f := x3) hx hb hK hP 2 ((i * 12 + j)) (rfl) (by omega) (by decide) rfl dX3_bringDown_47 ?_
          refine lv_topi (fun v15 ev15 => ?_)
          obtain rfl : v15 = nI ((Xj i j)) := ev15.trans (qb)
          refine lv_if_eq (tgt := 83) hx hb dX3_bringDown_48 (by decide) (fun c16 => ?_) (fun c16 => ?_)
          · have b48 := qeq_t (a := ((Xj i j))) (b := 0) (by omega) (by omega) c16
            obtain ⟨v17, ev17⟩ : ∃ y9 : Int32, y9 = (nI j) + Int32.ofInt (1) := ⟨_, rfl⟩
            refine lv_iinc (v := v17) (lv' := [(3, .int v17), (4, .int (nI (i * 12 + j))), (0, .ref (ua 0)), (1, .int (nI i)), (2, .int (nI cl))]) hx hb dX3_bringDown_83 hl (k := 1) rfl ev17.symm (by decide) rfl (fun ls hl => ?_)
            obtain rfl : v17 = nI (j + 1) := nI_plus (i := j) (j := 1) ev17 rfl (by decide)
            refine lv_goto (tgt := 2) hx hb dX3_bringDown_86 (by decide) ?_
            exact ih2k1 (j + 1) Xj Uj x2 x3 x4 (jnF x5 i (12 + j) 0 0) x6 x7 (by omega) (by omega) (bd_0 (by omega) hbd h2j b48) (hkq) _ _ _ hP hS (lv_sub hl [0, 2, 3, 4] rfl)
          · have b48 := qeq_f (a := ((Xj i j))) (b := 0) (by omega) (by omega) c16
            refine lv_aload_n hx hb dX3_bringDown_51 rfl (lv_at hl 2 rfl) ?_
            refine va_get (D := G.1) (ci := 3) (v := .ref (ua 23)) (C := RX3) (T := TX3) (N := 8) hx hb hts inX3 hown hK.1 hP 0 rfl rfl 0 (by decide) (hts _ mf_X3_12) (fun _ h9 => h9) rfl dX3_bringDown_52 ?_
            refine lv_iload_n hx hb dX3_bringDown_55 rfl (lv_at hl 3 rfl) ?_
            refine lv_bipush (v := 12) hx hb dX3_bringDown_56 (by decide) ?_
            refine lv_iload_n hx hb dX3_bringDown_58 rfl (lv_at hl 1 rfl) ?_
            refine lv_iadd hx hb dX3_bringDown_59 ?_
            refine lv_topi (fun v18 ev18 => ?_)
            obtain rfl : v18 = nI (12 + j) := nI_plus ev18 rfl rfl
            refine wrVI (rest := []) (q0 := 0) ⟨hx, hb, hml, hown, hts⟩ (e_X5_leads l G (fun k => ua (20 + k)) (upd uf 3 x2) (fun k => (up2 (up2 (up2 (up2 (up2 ur 2 x3) 4 x4) 20 (jnF x5 i (12 + j) 0 0)) 21 x6) 22 x7) (20 + k)) i (12 + j) (by omega) (by omega)) mi_yX5_leads mv_yX5_leads ml_X3_109 ⟨rfl, rfl, Nat.le_of_ble_eq_true rfl, Nat.le_of_ble_eq_true rfl⟩ hK hP (hDD _ _ _ _ _ _) [8, 9, 10, 11] rfl (by decide) rfl rfl rfl hl.1 rfl (Nat.le_of_ble_eq_true rfl) dX3_bringDown_60 ⟨Nat.zero_le _, Nat.zero_le _⟩ hS hA (fun r22 w23 H locs hw23 hP hS => ?_)
            obtain ⟨x19, x20, x21, rfl, hz_⟩ := hw23
            have hP : PP G (uM G ua a b la (upd uf 3 x21) f lf (up2 (up2 (up2 (up2 (up2 ur 2 x3) 4 x4) 20 (jnF x5 i (12 + j) 0 0)) 21 x19) 22 x20) r lr) H := hP rfl
            have hz9 : (r22 = 0 ∧ CLO (jnF x5 i (12 + j) 0 0) i (12 + j) x21) ∨ (r22 = 1 ∧ WAY (jnF x5 i (12 + j) 0 0) i (12 + j) x19) := hz_
            have hb9_ : (r22 = 1 ∧ r22 = 1) ∨ (r22 = 0 ∧ ¬ r22 = 1) := hz9.elim (fun q9 => Or.inr ⟨q9.1, by rw [q9.1]; decide⟩) (fun q9 => Or.inl ⟨q9.1, q9.1⟩)
            refine lv_if_eq (tgt := 83) hx hb dX3_bringDown_63 (by decide) (fun c24 => ?_) (fun c24 => ?_)
            · have b63 := bF hb9_ c24
              have hx1 : Xj i j = 1 := by omega
              have hclo := (hz9.resolve_right (fun q9 => absurd q9.1 (by rw [show r22 = 0 from c24]; decide))).2
              obtain ⟨v25, ev25⟩ : ∃ y9 : Int32, y9 = (nI j) + Int32.ofInt (1) := ⟨_, rfl⟩
              refine lv_iinc (v := v25) (lv' := [(3, .int v25), (4, .int (nI (i * 12 + j))), (0, .ref (ua 0)), (1, .int (nI i)), (2, .int (nI cl))]) hx hb dX3_bringDown_83 hl (k := 1) rfl ev25.symm (by decide) rfl (fun ls hl => ?_)
              obtain rfl : v25 = nI (j + 1) := nI_plus (i := j) (j := 1) ev25 rfl (by decide)
              refine lv_goto (tgt := 2) hx hb dX3_bringDown_86 (by decide) ?_
              exact ih2k1 (j + 1) Xj Uj x21 x3 x4 (jnF x5 i (12 + j) 0 0) x19 x20 (by omega) (by omega) (bd_c hB hi (by omega) hfe hmo hbd h2j hclo hx1) (hkq) _ _ _ hP hS (lv_sub hl [0, 2, 3, 4] rfl)
            · have b63 := bT hb9_ c24
              have hx1 : Xj i j = 1 := by omega
              obtain ⟨L, hCH⟩ := CH_of (hz9.resolve_left (fun q9 => c24 q9.1)).2 (by omega)
              refine lv_aload_n hx hb dX3_bringDown_66 rfl (lv_at hl 2 rfl) ?_
              refine lv_iload_n hx hb dX3_bringDown_67 rfl (lv_at hl 3 rfl) ?_
              refine lv_bipush (v := 12) hx hb dX3_bringDown_68 (by decide) ?_
              refine lv_iload_n hx hb dX3_bringDown_70 rfl (lv_at hl 1 rfl) ?_
              refine lv_iadd hx hb dX3_bringDown_71 ?_
              refine lv_topi (fun v26 ev26 => ?_)
              obtain rfl : v26 = nI (12 + j) := nI_plus ev26 rfl rfl
              refine wrVVa (rest := []) (q0 := 0) ⟨hx, hb, hml, hown, hts⟩ (r_X3_shift l G ua a b la (upd uf 3 x21) f lf (up2 (up2 (up2 (up2 (up2 ur 2 x3) 4 x4) 20 (jnF x5 i (12 + j) 0 0)) 21 x19) 22 x20) r lr i (12 + j) dm (onB O (12 * i + j + 1)) O Xj Uj fe mo L (by omega) (by omega) h2j hCH) mi_yX3_shift mv_yX3_shift ml_X3_113 ⟨rfl, rfl, Nat.le_of_ble_eq_true rfl, Nat.le_of_ble_eq_true rfl⟩ hK hP (hDD _ _ _ _ _ _) rfl rfl rfl hl.1 rfl (Nat.le_of_ble_eq_true rfl) dX3_bringDown_72 ⟨Nat.zero_le _, Nat.zero_le _⟩ hS hA (fun w28 H locs hw28 hP hS => ?_)
              obtain ⟨x29, x30, x31, X2, U2, rfl, hst, hpu, hoff, hkp⟩ := hw28
              have hP : PP G (uM G ua a b la (upd uf 3 x21) f lf (up2 (up2 (up2 (up2 (up2 ur 2 x29) 4 x30) 20 x31) 21 x19) 22 x20) r lr) H := hP
              have hst : UST dm (onB O (12 * i + j + 1)) O X2 U2 fe mo (ur 1) x29 x30 (ur 5) (ur 6) x31 := hst
              have hpu : ∀ a b, a < 25 → b < 25 → cRd (onB O (12 * i + j + 1)) X2 U2 fe mo a b = puC (chF x19 (12 + j)) 1 (cRd (onB O (12 * i + j + 1)) Xj Uj fe mo) (L (12 + j)) a b := hpu
              have hoff : ∀ a b, a < 12 → b < 12 → (onB O (12 * i + j + 1)) a b = false → X2 a b = Xj a b := hoff
              have hkp : ∀ a b, a < 12 → b < 12 → dm a b = false → x29 (a * 12 + b) = x3 (a * 12 + b) := hkp
              refine lv_aload_n hx hb dX3_bringDown_75 rfl (lv_at hl 2 rfl) ?_
              refine va_get (D := G.1) (ci := 3) (v := .ref (ua 2)) (C := RX3) (T := TX3) (N := 8) hx hb hts inX3 hown hK.1 hP 0 rfl rfl 2 (by decide) (hts _ mf_X3_22) (fun _ h9 => h9) rfl dX3_bringDown_76 ?_
              refine lv_iload hx hb dX3_bringDown_79 (lv_at hl 0 rfl) ?_
              refine lv_iconst (v := 0) hx hb dX3_bringDown_81 (by decide) ?_
              refine xzast (f := x29) (x := 0) hx hb hK hP (hDD _ _ _ _ _ _) hS 2 ((i * 12 + j)) (rfl) (by omega) (by decide) (Or.inl rfl) rfl dX3_bringDown_82 (fun H locs hP _ hS => ?_)
              have hP : PP G (uM G ua a b la (upd uf 3 x21) f lf (up2 (up2 (up2 (up2 (up2 ur 2 (upd x29 ((i * 12 + j)) (0))) 4 x30) 20 x31) 21 x19) 22 x20) r lr) H := hP
              obtain ⟨v32, ev32⟩ : ∃ y9 : Int32, y9 = (nI j) + Int32.ofInt (1) := ⟨_, rfl⟩
              refine lv_iinc (v := v32) (lv' := [(3, .int v32), (4, .int (nI (i * 12 + j))), (0, .ref (ua 0)), (1, .int (nI i)), (2, .int (nI cl))]) hx hb dX3_bringDown_83 hl (k := 1) rfl ev32.symm (by decide) rfl (fun ls hl => ?_)
              obtain rfl : v32 = nI (j + 1) := nI_plus (i := j) (j := 1) ev32 rfl (by decide)
              refine lv_goto (tgt := 2) hx hb dX3_bringDown_86 (by decide) ?_
              exact ih2k1 (j + 1) (upT X2 i j 0) U2 x21 (upd x29 ((i * 12 + j)) (0)) x30 x31 x19 x20 (by omega) (by omega) (bd_w hi (by omega) hbd hx1 h2j.2.2.2 hCH hpu hoff hst) (fun a b ha hb e9 => (pk_un (fun z9 => ne_of_dm (hdm j (by omega)) e9 ⟨by omega, by omega⟩)).trans ((hkp a b ha hb e9).trans (hkq a b ha hb e9))) _ _ _ hP hS (lv_sub hl [0, 2, 3, 4] rfl)
        · have b21 := qeq_t (a := ((O i j))) (b := 0) (by omega) (by omega) c11
          refine lv_goto (tgt := 83) hx hb dX3_bringDown_24 (by decide) ?_
          obtain ⟨v33, ev33⟩ : ∃ y9 : Int32, y9 = (nI j) + Int32.ofInt (1) := ⟨_, rfl⟩
          refine lv_iinc (v := v33) (lv' := [(3, .int v33), (4, .int (nI (i * 12 + j))), (0, .ref (ua 0)), (1, .int (nI i)), (2, .int (nI cl))]) hx hb dX3_bringDown_83 hl (k := 1) rfl ev33.symm (by decide) rfl (fun ls hl => ?_)
          obtain rfl : v33 = nI (j + 1) := nI_plus (i := j) (j := 1) ev33 rfl (by decide)
          refine lv_goto (tgt := 2) hx hb dX3_bringDown_86 (by decide) ?_
          exact ih2k1 (j + 1) Xj Uj x2 x3 x4 x5 x6 x7 (by omega) (by omega) (bd_z (by omega) hi hbd b21) (hkq) _ _ _ hP hS (lv_sub hl [0, 2, 3, 4] rfl)
  exact loop2 (cl + 1) 0 X U (uf 3) (ur 2) (ur 4) (ur 20) (ur 21) (ur 22) (by omega) (by omega) (hbd) (fun _ _ _ _ _ => rfl) _ _ _ hP hS (lv_sub hl [0, 1, 2, 3] rfl)
