
/-- the cells that are above; what a rounded leaf shows -/
def upM (so : Nat → Int32) (rw cl : Nat) (ZZ : Nat → Nat → Nat) (x y : Nat) : Prop := x < rw ∧ y < cl ∧ ¬ so x = 0 ∧ ZZ x y = 1
def rlS (so : Nat → Int32) (NT ZZ : Nat → Nat → Nat) (B x y : Nat) : Int32 := if so x = 0 then -1 else nI (NT x y - NT x y % B + ZZ x y * B)
def RND (so cs : Nat → Int32) (rw cl B : Nat) (NT ZZ : Nat → Nat → Nat) : Prop := ∀ x, x < rw → ¬ so x = 0 → ∃ Z, FEAS (oR so cs rw cl B NT (cs x)) B Z ∧ RLX (oR so cs rw cl B NT (cs x)) B Z 144 ∧ ∀ a b, a < 12 → b < 12 → dmR so cs rw cl (cs x) a b = true → ZZ a b = Z a b
def SHR (S : Nat → Nat → Int32) (l : Nat → Int32) (cl n : Nat) : Prop := ∀ x y, y < cl → 12 * x + y < n → l (x * 12 + y) = S x y
theorem SHR_0 {S : Nat → Nat → Int32} {l : Nat → Int32} {cl : Nat} : SHR S l cl (12 * 0) := fun x y _ h => absurd h (by omega)
theorem SHR_s {S : Nat → Nat → Int32} {l : Nat → Int32} {cl i k : Nat} {v : Int32} (hcl : cl ≤ 12) (h : SHR S l cl (12 * i + k)) (hk : k < cl) (e : v = S i k) : SHR S (upd l (i * 12 + k) v) cl (12 * i + (k + 1)) := fun x y hy hn => by
  by_cases c : x = i ∧ y = k
  · obtain ⟨rfl, rfl⟩ := c
    rw [pk_us]; exact e
  · rw [pk_un (by omega)]; exact h x y hy (by omega)
theorem SHR_r {S : Nat → Nat → Int32} {l : Nat → Int32} {cl i k : Nat} (hcl : cl ≤ 12) (h : SHR S l cl (12 * i + k)) (hk : k = cl) : SHR S l cl (12 * (i + 1)) := fun x y hy hn => h x y hy (by omega)
theorem rlS_0 {so : Nat → Int32} {NT ZZ : Nat → Nat → Nat} {B x y : Nat} (h : so x = 0) : -1 = rlS so NT ZZ B x y := (if_pos h).symm
theorem rlS_u {so : Nat → Int32} {NT ZZ : Nat → Nat → Nat} {B x y : Nat} (h : ¬ so x = 0) (e : ZZ x y = 1) : nI (NT x y - NT x y % B + B) = rlS so NT ZZ B x y := by unfold rlS; rw [if_neg h, e, Nat.one_mul]
theorem rlS_d {so : Nat → Int32} {NT ZZ : Nat → Nat → Nat} {B x y : Nat} (h : ¬ so x = 0) (e : ZZ x y = 0) : nI (NT x y - NT x y % B + 0) = rlS so NT ZZ B x y := by unfold rlS; rw [if_neg h, e, Nat.zero_mul]
/-- the rows of the rounder, taken together -/
theorem RND_of {so cs q1 q2 : Nat → Int32} {rw cl B : Nat} {NT : Nat → Nat → Nat} (hrw : rw ≤ 12) (hcl : cl ≤ 12) (h : ∀ x, x < rw → ¬ so x = 0 → CLS so cs rw cl B NT (cs x) q1 q2) : RND so cs rw cl B NT (fun x y => (q2 (x * 12 + y)).toNatClampNeg) ∧ ∀ x y, x < rw → y < cl → ¬ so x = 0 → q1 (x * 12 + y) = nI (NT x y % B) ∧ q2 (x * 12 + y) = nI ((q2 (x * 12 + y)).toNatClampNeg) ∧ (q2 (x * 12 + y)).toNatClampNeg ≤ 1 := by
  refine ⟨fun x hx hs => ?_, fun x y hx hy hs => ?_⟩
  · obtain ⟨Z, h1, h2, h3⟩ := h x hx hs
    refine ⟨Z, h1, h2, fun a b ha hb hd => ?_⟩
    show (q2 (a * 12 + b)).toNatClampNeg = Z a b
    rw [(h3 a b ha hb hd).2, nI_clamp (by have := (h1.1 a b ha hb).1; omega)]
  · obtain ⟨Z, h1, h2, h3⟩ := h x hx hs
    obtain ⟨e1, e2⟩ := h3 x y (by omega) (by omega) (dmR_mk hx hy hs rfl)
    have hz := (h1.1 x y (by omega) (by omega)).1
    rw [e2, nI_clamp (by omega)]
    exact ⟨e1, rfl, hz⟩
def rdX (o : Prop) (ba q f1 f2 f3 : Int32) (pl kd nu td ps ru bf bl : Nat → Int32) (n0 n1 : Int32) (ns : Nat → Int32) (m0 m1 : Int32) (ms : Nat → Int32) : Prop := (¬ (o ∧ ¬ ba < 2 ∧ ba ≤ 1000) ∧ q = -1 ∧ m0 = n0 ∧ m1 = n1 ∧ ms = ns) ∨ (o ∧ ∃ B, 2 ≤ B ∧ B ≤ 1000 ∧ ba = nI B ∧ LDX f1 f2 f3 pl kd nu td ps ru bf bl (fun rw cl _ _ r6 r7 _ _ _ => ∃ ZZ, RND r6 r7 rw cl B (NTc nu) ZZ ∧ q = nI (rkG (upM r6 rw cl ZZ) (12 * rw)) ∧ m0 = nI rw ∧ m1 = nI cl ∧ SHR (rlS r6 (NTc nu) ZZ B) ms cl (12 * rw)))
theorem LD_nn {rw cl bk : Nat} {pl kd nu td ps ru bf bl r6 r7 r8 r9 r10 r11 r12 r13 r14 : Nat → Int32} (h : LDR rw cl bk pl kd nu td ps ru bf bl r6 r7 r8 r9 r10 r11 r12 r13 r14) (hN : NRC rw cl pl kd nu) (x y : Nat) (hx : x < rw) (hy : y < cl) (hs : ¬ r6 x = 0) : r9 (x * 12 + y) = nI (NTc nu x y) ∧ NTc nu x y ≤ 1000000 := by
  rcases (h x hx).2 with ⟨a, b, c⟩ | ⟨a, b, c⟩
  · obtain ⟨m, hm, em⟩ := hN x y hx hy b
    unfold NTc
    rw [(c y hy).2.1, em, nI_clamp (by omega)]; exact ⟨rfl, hm⟩
  · exact absurd a hs
/-- rounded, of the class: m the leaf -/
def rtX (m0 m1 : Int32) (ms : Nat → Int32) (row col q : Int32) : Prop := (∃ i c, i < 12 ∧ c < 12 ∧ row = nI i ∧ col = nI c ∧ inR m0 row ∧ inR m1 col ∧ q = ms (i * 12 + c)) ∨ (¬ (inR m0 row ∧ inR m1 col) ∧ q = -1)
theorem rt_at {n0 n1 row col q : Int32} {ns : Nat → Int32} {k0 k1 : Nat} (h0 : k0 ≤ 12) (h1 : k1 ≤ 12) (e0 : n0 = nI k0) (e1 : n1 = nI k1) (h : (∃ i c, i < k0 ∧ c < k1 ∧ row = nI i ∧ col = nI c ∧ q = ns (i * 12 + c)) ∨ (q = -1 ∧ ¬ ∃ i c, i < k0 ∧ c < k1 ∧ row = nI i ∧ col = nI c)) : rtX n0 n1 ns row col q := by
  have mk : ∀ {k i : Nat}, k ≤ 12 → i < k → inR (nI k) (nI i) := fun hk hi => ⟨nI_pos (by omega), fun z => absurd ((nI_leI (by omega) (by omega)).mp z) (by omega)⟩
  rcases h with ⟨i, c, hi, hc, er, ec, e⟩ | ⟨e, hn⟩
  · exact Or.inl ⟨i, c, by omega, by omega, er, ec, by rw [e0, er]; exact mk h0 hi, by rw [e1, ec]; exact mk h1 hc, e⟩
  · refine Or.inr ⟨fun ⟨b1, b2⟩ => hn ?_, e⟩
    rw [e0] at b1
    rw [e1] at b2
    obtain ⟨i, hi, er⟩ := inR_n (by omega) b1
    obtain ⟨c, hc, ec⟩ := inR_n (by omega) b2
    exact ⟨i, c, hi, hc, er, ec⟩
set_option maxHeartbeats 4000000 in
set_option maxRecDepth 100000 in
theorem r_X3_write (l : Launch) (G : GG) (ua a b la : Nat → Nat) (uf f lf : Nat → Int32) (ur r lr : Nat → Nat → Int32) (ba : Nat) (rw : Nat) (cl : Nat) (NT : Nat → Nat → Nat) (ZZ : Nat → Nat → Nat) (hrw : rw ≤ 12) (hcl : cl ≤ 12) (h0 : (f 0) = nI rw) (h1 : (f 1) = nI cl) (hb1 : 2 ≤ ba) (hb9 : ba ≤ 1000) (hall : ∀ x y, x < rw → y < cl → ¬ (r 6) x = 0 → ((r 9) (x * 12 + y) = nI (NT x y) ∧ NT x y ≤ 1000000) ∧ (ur 1) (x * 12 + y) = nI (NT x y % ba) ∧ (ur 2) (x * 12 + y) = nI (ZZ x y) ∧ ZZ x y ≤ 1) : WrI l yX3_write cX3_write 10 (some .int) ({ frames := 1, cells := 0, slots := 0, locals := 21 }) G (uM G ua a b la uf f lf ur r lr) [.ref (ua 0), .ref (a 15), .int (nI ba), .ref (la 0)] (fun q w => ∃ (n_lf_0 : Int32) (n_lf_1 : Int32) (n_lr_2 : Nat → Int32), w = uM G ua a b la uf f (upd (upd lf 0 n_lf_0) 1 n_lf_1) ur r (up2 lr 2 n_lr_2) ∧ q = nI (rkG (upM (r 6) rw cl ZZ) (12 * rw)) ∧ (n_lf_0 = nI rw) ∧ (n_lf_1 = nI cl) ∧ (SHR (rlS (r 6) NT ZZ ba) n_lr_2 cl (12 * rw))) := by
  refine wr_entryI (by decide +kernel) (Nat.le_of_ble_eq_true rfl) ?_
  intro p e s m below meth c A C0 hP hK hD hA ls hl
  have hS : va_S A s.heap s.heap [] := va_S.rf
  obtain ⟨hx, hb, hml, hown, hts, hr, hlocks, hin⟩ := C0
  have hown : s.vm.findClass RX3 = some m.cls := hown
  have hDD : ∀ uf' f' lf' ur' r' lr', va_D A (uM G ua a b la uf' f' lf' ur' r' lr') := fun uf' f' lf' ur' r' lr' => D_same hD rfl
  have hl : lv_has ls 10 [(0, .ref (ua 0)), (1, .ref (a 15)), (2, .int (nI ba)), (3, .ref (la 0))] := hl
  refine lv_aload_n hx hb dX3_write_0 rfl (lv_at hl 3 rfl) ?_
  refine lv_aload_n hx hb dX3_write_1 rfl (lv_at hl 1 rfl) ?_
  refine va_get (D := G.1) (ci := 2) (v := .int (f 0)) (C := RX2) (T := TX2) (N := 15) hx hb hts inX2 hown hK.1 hP 12 rfl rfl 0 (by decide) (hts _ mf_X3_41) (fun _ h9 => h9) rfl dX3_write_2 ?_
  rw [show (f 0) = nI (rw) from h0]
  refine va_put (D := G.1) (ci := 1) (v := .int (nI (rw))) (C := RX1) (T := TX1) (N := 3) hx hb hts inX1 tyX1 tyX1_ok nmX1 hown hK.1 hP (hDD _ _ _ _ _ _) hS 22 rfl rfl 0 (by decide) (hts _ mf_X3_65) (fun _ h9 => h9) rfl (tyX1_ok 0 (by decide)) (rfl) (rfl) (Nat.le_of_ble_eq_true rfl) dX3_write_5 (fun H locs hP _ hS => ?_)
  have hP : PP G (uM G ua a b la uf f (upd lf 0 (nI (rw))) ur r lr) H := hP
  refine lv_aload_n hx hb dX3_write_8 rfl (lv_at hl 3 rfl) ?_
  refine lv_aload_n hx hb dX3_write_9 rfl (lv_at hl 1 rfl) ?_
  refine va_get (D := G.1) (ci := 2) (v := .int (f 1)) (C := RX2) (T := TX2) (N := 15) hx hb hts inX2 hown hK.1 hP 12 rfl rfl 1 (by decide) (hts _ mf_X3_68) (fun _ h9 => h9) rfl dX3_write_10 ?_
  rw [show (f 1) = nI (cl) from h1]
  refine va_put (D := G.1) (ci := 1) (v := .int (nI (cl))) (C := RX1) (T := TX1) (N := 3) hx hb hts inX1 tyX1 tyX1_ok nmX1 hown hK.1 hP (hDD _ _ _ _ _ _) hS 22 rfl rfl 1 (by decide) (hts _ mf_X3_71) (fun _ h9 => h9) rfl (tyX1_ok 1 (by decide)) (rfl) (rfl) (Nat.le_of_ble_eq_true rfl) dX3_write_13 (fun H locs hP _ hS => ?_)
  have hP : PP G (uM G ua a b la uf f (upd (upd lf 0 (nI (rw))) 1 (nI (cl))) ur r lr) H := hP
  refine lv_iconst (v := 0) hx hb dX3_write_16 (by decide) ?_
  refine lv_istore (lv' := [(4, .int 0), (0, .ref (ua 0)), (1, .ref (a 15)), (2, .int (nI ba)), (3, .ref (la 0))]) hx hb dX3_write_17 hl (by decide) rfl (fun ls hl => ?_)
  refine lv_iconst (v := 0) hx hb dX3_write_19 (by decide) ?_
  refine lv_istore (lv' := [(5, .int 0), (4, .int 0), (0, .ref (ua 0)), (1, .ref (a 15)), (2, .int (nI ba)), (3, .ref (la 0))]) hx hb dX3_write_20 hl (by decide) rfl (fun ls hl => ?_)
  have loop22 : ∀ (k1 i : Nat) (ab : Nat) (x3 : Nat → Int32), i ≤ rw → rw < i + k1 → (ab ≤ 144) → (ab = rkG (upM (r 6) rw cl ZZ) (12 * i)) → (SHR (rlS (r 6) NT ZZ ba) x3 cl (12 * i)) → ∀ (H : Heap) (locs : List Loc) (ls : Array Slot), PP G (uM G ua a b la uf f (upd (upd lf 0 (nI (rw))) 1 (nI (cl))) ur r (up2 lr 2 x3)) H → va_S A s.heap H locs → lv_has ls 10 [(5, .int (nI i)), (4, .int (nI ab)), (0, .ref (ua 0)), (1, .ref (a 15)), (2, .int (nI ba)), (3, .ref (la 0))] → W p l e ({ frames := 1, cells := 0, slots := 0, locals := 21 }) s m ([.ref (ua 0), .ref (a 15), .int (nI ba), .ref (la 0)] : List Value).toArray below meth c H locs 0 0 (MQ below (QwI G (fun q w => ∃ (n_lf_0 : Int32) (n_lf_1 : Int32) (n_lr_2 : Nat → Int32), w = uM G ua a b la uf f (upd (upd lf 0 n_lf_0) 1 n_lf_1) ur r (up2 lr 2 n_lr_2) ∧ q = nI (rkG (upM (r 6) rw cl ZZ) (12 * rw)) ∧ (n_lf_0 = nI rw) ∧ (n_lf_1 = nI cl) ∧ (SHR (rlS (r 6) NT ZZ ba) n_lr_2 cl (12 * rw))) A) ([.ref (ua 0), .ref (a 15), .int (nI ba), .ref (la 0)] : List Value).toArray s 0 0 A) (F0 m 22 ls []) := by
    intro k1
    induction k1 with
    | zero => intro i ab x3 h1 h2; exact absurd h1 (by omega)
    | succ k1 ih22k1 =>
      intro i ab x3 hi_i hk_i gab hab hsh H locs ls hP hS hl
      refine lv_iload hx hb dX3_write_22 (lv_at hl 0 rfl) ?_
      refine lv_aload_n hx hb dX3_write_24 rfl (lv_at hl 3 rfl) ?_
      refine va_get (D := G.1) (ci := 2) (v := .int (f 0)) (C := RX2) (T := TX2) (N := 15) hx hb hts inX2 hown hK.1 hP 12 rfl rfl 0 (by decide) (hts _ mf_X3_41) (fun _ h9 => h9) rfl dX3_write_25 ?_
      rw [show (f 0) = nI (rw) from h0]
      refine lv_icmp_ge (tgt := 157) hx hb dX3_write_28 (by decide) (fun c4 => ?_) (fun c4 => ?_)
      · have b28 := qge_t (a := i) (b := (rw)) (by omega) (by omega) c4
        refine lv_iload hx hb dX3_write_157 (lv_at hl 1 rfl) ?_
        exact wr_iret hx hb hr hlocks hS hP ⟨(nI (rw)), (nI (cl)), x3, rfl, (congrArg nI (hab.trans (by rw [show i = rw by omega]))), rfl, rfl, (show SHR _ _ _ (12 * rw) from (show i = rw by omega) ▸ hsh)⟩ dX3_write_159
      · have b28 := qge_f (a := i) (b := (rw)) (by omega) (by omega) c4
        refine lv_iconst (v := 0) hx hb dX3_write_31 (by decide) ?_
        refine lv_istore (lv' := [(6, .int 0), (5, .int (nI i)), (4, .int (nI ab)), (0, .ref (ua 0)), (1, .ref (a 15)), (2, .int (nI ba)), (3, .ref (la 0))]) hx hb dX3_write_32 hl (by decide) rfl (fun ls hl => ?_)
        have loop34 : ∀ (k5 j : Nat) (ab : Nat) (x7 : Nat → Int32), j ≤ cl → cl < j + k5 → (ab ≤ 144) → (ab = rkG (upM (r 6) rw cl ZZ) (12 * i + j)) → (SHR (rlS (r 6) NT ZZ ba) x7 cl (12 * i + j)) → ∀ (H : Heap) (locs : List Loc) (ls : Array Slot), PP G (uM G ua a b la uf f (upd (upd lf 0 (nI (rw))) 1 (nI (cl))) ur r (up2 lr 2 x7)) H → va_S A s.heap H locs → lv_has ls 10 [(6, .int (nI j)), (5, .int (nI i)), (4, .int (nI ab)), (0, .ref (ua 0)), (1, .ref (a 15)), (2, .int (nI ba)), (3, .ref (la 0))] → W p l e ({ frames := 1, cells := 0, slots := 0, locals := 21 }) s m ([.ref (ua 0), .ref (a 15), .int (nI ba), .ref (la 0)] : List Value).toArray below meth c H locs 0 0 (MQ below (QwI G (fun q w => ∃ (n_lf_0 : Int32) (n_lf_1 : Int32) (n_lr_2 : Nat → Int32), w = uM G ua a b la uf f (upd (upd lf 0 n_lf_0) 1 n_lf_1) ur r (up2 lr 2 n_lr_2) ∧ q = nI (rkG (upM (r 6) rw cl ZZ) (12 * rw)) ∧ (n_lf_0 = nI rw) ∧ (n_lf_1 = nI cl) ∧ (SHR (rlS (r 6) NT ZZ ba) n_lr_2 cl (12 * rw))) A) ([.ref (ua 0), .ref (a 15), .int (nI ba), .ref (la 0)] : List Value).toArray s 0 0 A) (F0 m 34 ls []) := by
          intro k5
          induction k5 with
          | zero => intro j ab x7 h1 h2; exact absurd h1 (by omega)
          | succ k5 ih34k5 =>
            intro j ab x7 hi_j hk_j gab hab hsh H locs ls hP hS hl
            refine lv_iload hx hb dX3_write_34 (lv_at hl 0 rfl) ?_
            refine lv_aload_n hx hb dX3_write_36 rfl (lv_at hl 4 rfl) ?_
            refine va_get (D := G.1) (ci := 2) (v := .int (f 1)) (C := RX2) (T := TX2) (N := 15) hx hb hts inX2 hown hK.1 hP 12 rfl rfl 1 (by decide) (hts _ mf_X3_68) (fun _ h9 => h9) rfl dX3_write_37 ?_
            rw [show (f 1) = nI (cl) from h1]
            refine lv_icmp_ge (tgt := 151) hx hb dX3_write_40 (by decide) (fun c8 => ?_) (fun c8 => ?_)
            · have b40 := qge_t (a := j) (b := (cl)) (by omega) (by omega) c8
              obtain ⟨v9, ev9⟩ : ∃ y9 : Int32, y9 = (nI i) + Int32.ofInt (1) := ⟨_, rfl⟩
              refine lv_iinc (v := v9) (lv' := [(5, .int v9), (6, .int (nI j)), (4, .int (nI ab)), (0, .ref (ua 0)), (1, .ref (a 15)), (2, .int (nI ba)), (3, .ref (la 0))]) hx hb dX3_write_151 hl (k := 1) rfl ev9.symm (by decide) rfl (fun ls hl => ?_)
              obtain rfl : v9 = nI (i + 1) := nI_plus (i := i) (j := 1) ev9 rfl (by decide)
              refine lv_goto (tgt := 22) hx hb dX3_write_154 (by decide) ?_
              exact ih22k1 (i + 1) ab x7 (by omega) (by omega) (by omega) (by rw [hab]; exact (rk_end (M := (upM (r 6) rw cl ZZ)) (x := i) (cl := j) (by omega) (fun y h8 z9 => absurd z9.2.1 (by omega))).symm) (SHR_r hcl hsh (by omega)) _ _ _ hP hS (lv_sub hl [0, 2, 3, 4, 5, 6] rfl)
            · have b40 := qge_f (a := j) (b := (cl)) (by omega) (by omega) c8
              refine lv_iload hx hb dX3_write_43 (lv_at hl 1 rfl) ?_
              refine lv_iload hx hb dX3_write_45 (lv_at hl 0 rfl) ?_
              refine rdSN (rest := []) ⟨hx, hb, hml, hown, hts⟩ (c_X6_spotOf l G ((nI i)) ((nI j))) mi_yX6_spotOf mst_yX6_spotOf (by decide +kernel) ⟨rfl, rfl, Nat.le_of_ble_eq_true rfl, Nat.le_of_ble_eq_true rfl⟩ hK (fun k q h => by simp at h) rfl hl.1 rfl (Nat.le_of_ble_eq_true rfl) dX3_write_47 ⟨Nat.zero_le _, Nat.zero_le _⟩ hS hA hP (fun r10 H locs hr10 hP hS => ?_)
              obtain rfl : r10 = nI (i * 12 + j) := spot_eq hr10
              refine lv_istore (lv' := [(7, .int (nI (i * 12 + j))), (6, .int (nI j)), (5, .int (nI i)), (4, .int (nI ab)), (0, .ref (ua 0)), (1, .ref (a 15)), (2, .int (nI ba)), (3, .ref (la 0))]) hx hb dX3_write_50 hl (by decide) rfl (fun ls hl => ?_)
              refine lv_aload_n hx hb dX3_write_52 rfl (lv_at hl 5 rfl) ?_
              refine va_get (D := G.1) (ci := 2) (v := .ref (a 6)) (C := RX2) (T := TX2) (N := 15) hx hb hts inX2 hown hK.1 hP 12 rfl rfl 6 (by decide) (hts _ mf_X3_47) (fun _ h9 => h9) rfl dX3_write_53 ?_
              refine lv_iload hx hb dX3_write_56 (lv_at hl 2 rfl) ?_
              refine xzald (f := (r 6)) hx hb hK hP 13 (i) (rfl) (by omega) (by decide) rfl dX3_write_58 ?_
              refine lv_topi (fun v11 ev11 => ?_)
              refine lv_if_eq (tgt := 76) hx hb dX3_write_59 (by decide) (fun c12 => ?_) (fun c12 => ?_)
              · have hs0 : (r 6) i = 0 := by rw [← ev11]; exact c12
                refine lv_iconst (v := 0) hx hb dX3_write_76 (by decide) ?_
                refine lv_istore (lv' := [(8, .int 0), (7, .int (nI (i * 12 + j))), (6, .int (nI j)), (5, .int (nI i)), (4, .int (nI ab)), (0, .ref (ua 0)), (1, .ref (a 15)), (2, .int (nI ba)), (3, .ref (la 0))]) hx hb dX3_write_77 hl (by decide) rfl (fun ls hl => ?_)
                refine lv_aload_n hx hb dX3_write_79 rfl (lv_at hl 6 rfl) ?_
                refine va_get (D := G.1) (ci := 2) (v := .ref (a 9)) (C := RX2) (T := TX2) (N := 15) hx hb hts inX2 hown hK.1 hP 12 rfl rfl 9 (by decide) (hts _ mf_X3_76) (fun _ h9 => h9) rfl dX3_write_80 ?_
                refine lv_iload hx hb dX3_write_83 (lv_at hl 1 rfl) ?_
                refine xiald (f := (r 9)) hx hb hK hP 16 ((i * 12 + j)) (rfl) (by omega) (by decide) rfl dX3_write_85 ?_
                refine lv_topi (fun v13 ev13 => ?_)
                refine lv_aload_n hx hb dX3_write_86 rfl (lv_at hl 5 rfl) ?_
                refine va_get (D := G.1) (ci := 3) (v := .ref (ua 1)) (C := RX3) (T := TX3) (N := 8) hx hb hts inX3 hown hK.1 hP 0 rfl rfl 1 (by decide) (hts _ mf_X3_18) (fun _ h9 => h9) rfl dX3_write_87 ?_
                refine lv_iload hx hb dX3_write_90 (lv_at hl 1 rfl) ?_
                refine xiald (f := (ur 1)) hx hb hK hP 1 ((i * 12 + j)) (rfl) (by omega) (by decide) rfl dX3_write_92 ?_
                refine lv_topi (fun v14 ev14 => ?_)
                refine lv_isub hx hb dX3_write_93 ?_
                refine lv_topi (fun v15 ev15 => ?_)
                refine lv_iload hx hb dX3_write_94 (lv_at hl 0 rfl) ?_
                refine lv_if_eq (tgt := 103) hx hb dX3_write_96 (by decide) (fun c16 => ?_) (fun c16 => absurd (by decide) c16)
                refine lv_iconst (v := 0) hx hb dX3_write_103 (by decide) ?_
                refine lv_iadd hx hb dX3_write_104 ?_
                refine lv_topi (fun v17 ev17 => ?_)
                refine lv_istore (lv' := [(9, .int v17), (8, .int 0), (7, .int (nI (i * 12 + j))), (6, .int (nI j)), (5, .int (nI i)), (4, .int (nI ab)), (0, .ref (ua 0)), (1, .ref (a 15)), (2, .int (nI ba)), (3, .ref (la 0))]) hx hb dX3_write_105 hl (by decide) rfl (fun ls hl => ?_)
                refine lv_aload_n hx hb dX3_write_107 rfl (lv_at hl 9 rfl) ?_
                refine va_get (D := G.1) (ci := 1) (v := .ref (la 1)) (C := RX1) (T := TX1) (N := 3) hx hb hts inX1 hown hK.1 hP 22 rfl rfl 2 (by decide) (hts _ mf_X3_79) (fun _ h9 => h9) rfl dX3_write_108 ?_
                refine lv_iload hx hb dX3_write_111 (lv_at hl 2 rfl) ?_
                refine lv_aload_n hx hb dX3_write_113 rfl (lv_at hl 7 rfl) ?_
                refine va_get (D := G.1) (ci := 2) (v := .ref (a 6)) (C := RX2) (T := TX2) (N := 15) hx hb hts inX2 hown hK.1 hP 12 rfl rfl 6 (by decide) (hts _ mf_X3_47) (fun _ h9 => h9) rfl dX3_write_114 ?_
                refine lv_iload hx hb dX3_write_117 (lv_at hl 4 rfl) ?_
                refine xzald (f := (r 6)) hx hb hK hP 13 (i) (rfl) (by omega) (by decide) rfl dX3_write_119 ?_
                refine lv_topi (fun v18 ev18 => ?_)
                refine lv_if_eq (tgt := 128) hx hb dX3_write_120 (by decide) (fun c19 => ?_) (fun c19 => ?_)
                · refine lv_iconst (v := -1) hx hb dX3_write_128 (by decide) ?_
                  refine xiast (f := x7) (x := (-1)) hx hb hK hP (hDD _ _ _ _ _ _) hS 23 ((i * 12 + j)) (rfl) (by omega) (by decide) rfl dX3_write_129 (fun H locs hP _ hS => ?_)
                  have hP : PP G (uM G ua a b la uf f (upd (upd lf 0 (nI (rw))) 1 (nI (cl))) ur r (up2 lr 2 (upd x7 ((i * 12 + j)) ((-1))))) H := hP
                  have hb9_ := rk_b (M := (upM (r 6) rw cl ZZ)) (12 * i + j)
                  refine lv_iload hx hb dX3_write_130 (lv_at hl 5 rfl) ?_
                  refine lv_iload hx hb dX3_write_132 (lv_at hl 1 rfl) ?_
                  refine lv_if_eq (tgt := 141) hx hb dX3_write_134 (by decide) (fun c20 => ?_) (fun c20 => absurd (by decide) c20)
                  refine lv_iconst (v := 0) hx hb dX3_write_141 (by decide) ?_
                  refine lv_iadd hx hb dX3_write_142 ?_
                  refine lv_topi (fun v21 ev21 => ?_)
                  obtain rfl : v21 = nI (ab + 0) := nI_plus ev21 rfl rfl
                  refine lv_istore (lv' := [(4, .int (nI (ab + 0))), (9, .int v17), (8, .int 0), (7, .int (nI (i * 12 + j))), (6, .int (nI j)), (5, .int (nI i)), (0, .ref (ua 0)), (1, .ref (a 15)), (2, .int (nI ba)), (3, .ref (la 0))]) hx hb dX3_write_143 hl (by decide) rfl (fun ls hl => ?_)
                  obtain ⟨v22, ev22⟩ : ∃ y9 : Int32, y9 = (nI j) + Int32.ofInt (1) := ⟨_, rfl⟩
                  refine lv_iinc (v := v22) (lv' := [(6, .int v22), (4, .int (nI (ab + 0))), (9, .int v17), (8, .int 0), (7, .int (nI (i * 12 + j))), (5, .int (nI i)), (0, .ref (ua 0)), (1, .ref (a 15)), (2, .int (nI ba)), (3, .ref (la 0))]) hx hb dX3_write_145 hl (k := 4) rfl ev22.symm (by decide) rfl (fun ls hl => ?_)
                  obtain rfl : v22 = nI (j + 1) := nI_plus (i := j) (j := 1) ev22 rfl (by decide)
                  refine lv_goto (tgt := 34) hx hb dX3_write_148 (by decide) ?_
                  exact ih34k5 (j + 1) (ab + 0) (upd x7 ((i * 12 + j)) ((-1))) (by omega) (by omega) (by omega) (by rw [hab]; exact (rk_n (M := (upM (r 6) rw cl ZZ)) (x := i) (y := j) (by omega) (fun z9 => z9.2.2.1 hs0)).symm) (SHR_s hcl hsh (by omega) (rlS_0 hs0)) _ _ _ hP hS (lv_sub hl [0, 5, 1, 6, 7, 8, 9] rfl)
                · exact absurd (by rw [ev18]; exact hs0) c19
              · have hs1 : ¬ (r 6) i = 0 := by rw [← ev11]; exact c12
                obtain ⟨⟨qa, qb⟩, qc, qd, qe⟩ := hall i j (by omega) (by omega) hs1
                have hml9 := Nat.mod_le (NT i j) ba
                refine lv_aload_n hx hb dX3_write_62 rfl (lv_at hl 4 rfl) ?_
                refine va_get (D := G.1) (ci := 3) (v := .ref (ua 2)) (C := RX3) (T := TX3) (N := 8) hx hb hts inX3 hown hK.1 hP 0 rfl rfl 2 (by decide) (hts _ mf_X3_22) (fun _ h9 => h9) rfl dX3_write_63 ?_
                refine lv_iload hx hb dX3_write_66 (lv_at hl 0 rfl) ?_
                refine xzald (f := (ur 2)) hx hb hK hP 2 ((i * 12 + j)) (rfl) (by omega) (by decide) rfl dX3_write_68 ?_
                refine lv_topi (fun v23 ev23 => ?_)
                obtain rfl : v23 = nI ((ZZ i j)) := ev23.trans (qd)
                refine lv_if_eq (tgt := 76) hx hb dX3_write_69 (by decide) (fun c24 => ?_) (fun c24 => ?_)
                · have b69 := qeq_t (a := ((ZZ i j))) (b := 0) (by omega) (by omega) c24
                  have hz9 : ZZ i j = 0 := by omega
                  refine lv_iconst (v := 0) hx hb dX3_write_76 (by decide) ?_
                  refine lv_istore (lv' := [(8, .int 0), (7, .int (nI (i * 12 + j))), (6, .int (nI j)), (5, .int (nI i)), (4, .int (nI ab)), (0, .ref (ua 0)), (1, .ref (a 15)), (2, .int (nI ba)), (3, .ref (la 0))]) hx hb dX3_write_77 hl (by decide) rfl (fun ls hl => ?_)
                  refine lv_aload_n hx hb dX3_write_79 rfl (lv_at hl 6 rfl) ?_
                  refine va_get (D := G.1) (ci := 2) (v := .ref (a 9)) (C := RX2) (T := TX2) (N := 15) hx hb hts inX2 hown hK.1 hP 12 rfl rfl 9 (by decide) (hts _ mf_X3_76) (fun _ h9 => h9) rfl dX3_write_80 ?_
                  refine lv_iload hx hb dX3_write_83 (lv_at hl 1 rfl) ?_
                  refine xiald (f := (r 9)) hx hb hK hP 16 ((i * 12 + j)) (rfl) (by omega) (by decide) rfl dX3_write_85 ?_
                  refine lv_topi (fun v25 ev25 => ?_)
                  obtain rfl : v25 = nI ((NT i j)) := ev25.trans (qa)
                  refine lv_aload_n hx hb dX3_write_86 rfl (lv_at hl 5 rfl) ?_
                  refine va_get (D := G.1) (ci := 3) (v := .ref (ua 1)) (C := RX3) (T := TX3) (N := 8) hx hb hts inX3 hown hK.1 hP 0 rfl rfl 1 (by decide) (hts _ mf_X3_18) (fun _ h9 => h9) rfl dX3_write_87 ?_
                  refine lv_iload hx hb dX3_write_90 (lv_at hl 1 rfl) ?_
                  refine xiald (f := (ur 1)) hx hb hK hP 1 ((i * 12 + j)) (rfl) (by omega) (by decide) rfl dX3_write_92 ?_
                  refine lv_topi (fun v26 ev26 => ?_)
                  obtain rfl : v26 = nI (((NT i j) % ba)) := ev26.trans (qc)
                  refine lv_isub hx hb dX3_write_93 ?_
                  refine lv_topi (fun v27 ev27 => ?_)
                  obtain rfl : v27 = nI (((NT i j)) - (((NT i j) % ba))) := nI_minus ev27 rfl rfl (by omega)
                  refine lv_iload hx hb dX3_write_94 (lv_at hl 0 rfl) ?_
                  refine lv_if_eq (tgt := 103) hx hb dX3_write_96 (by decide) (fun c28 => ?_) (fun c28 => absurd (by decide) c28)
                  refine lv_iconst (v := 0) hx hb dX3_write_103 (by decide) ?_
                  refine lv_iadd hx hb dX3_write_104 ?_
                  refine lv_topi (fun v29 ev29 => ?_)
                  obtain rfl : v29 = nI ((((NT i j)) - (((NT i j) % ba))) + 0) := nI_plus ev29 rfl rfl
                  refine lv_istore (lv' := [(9, .int (nI ((((NT i j)) - (((NT i j) % ba))) + 0))), (8, .int 0), (7, .int (nI (i * 12 + j))), (6, .int (nI j)), (5, .int (nI i)), (4, .int (nI ab)), (0, .ref (ua 0)), (1, .ref (a 15)), (2, .int (nI ba)), (3, .ref (la 0))]) hx hb dX3_write_105 hl (by decide) rfl (fun ls hl => ?_)
                  refine lv_aload_n hx hb dX3_write_107 rfl (lv_at hl 9 rfl) ?_
                  refine va_get (D := G.1) (ci := 1) (v := .ref (la 1)) (C := RX1) (T := TX1) (N := 3) hx hb hts inX1 hown hK.1 hP 22 rfl rfl 2 (by decide) (hts _ mf_X3_79) (fun _ h9 => h9) rfl dX3_write_108 ?_
                  refine lv_iload hx hb dX3_write_111 (lv_at hl 2 rfl) ?_
                  refine lv_aload_n hx hb dX3_write_113 rfl (lv_at hl 7 rfl) ?_
                  refine va_get (D := G.1) (ci := 2) (v := .ref (a 6)) (C := RX2) (T := TX2) (N := 15) hx hb hts inX2 hown hK.1 hP 12 rfl rfl 6 (by decide) (hts _ mf_X3_47) (fun _ h9 => h9) rfl dX3_write_114 ?_
                  refine lv_iload hx hb dX3_write_117 (lv_at hl 4 rfl) ?_
                  refine xzald (f := (r 6)) hx hb hK hP 13 (i) (rfl) (by omega) (by decide) rfl dX3_write_119 ?_
                  refine lv_topi (fun v30 ev30 => ?_)
                  refine lv_if_eq (tgt := 128) hx hb dX3_write_120 (by decide) (fun c31 => ?_) (fun c31 => ?_)
                  · exact absurd (by rw [← ev30]; exact c31) hs1
                  · refine lv_iload hx hb dX3_write_123 (lv_at hl 0 rfl) ?_
                    refine lv_goto (tgt := 129) hx hb dX3_write_125 (by decide) ?_
                    refine xiast (f := x7) (x := (nI ((((NT i j)) - (((NT i j) % ba))) + 0))) hx hb hK hP (hDD _ _ _ _ _ _) hS 23 ((i * 12 + j)) (rfl) (by omega) (by decide) rfl dX3_write_129 (fun H locs hP _ hS => ?_)
                    have hP : PP G (uM G ua a b la uf f (upd (upd lf 0 (nI (rw))) 1 (nI (cl))) ur r (up2 lr 2 (upd x7 ((i * 12 + j)) ((nI ((((NT i j)) - (((NT i j) % ba))) + 0)))))) H := hP
                    have hb9_ := rk_b (M := (upM (r 6) rw cl ZZ)) (12 * i + j)
                    refine lv_iload hx hb dX3_write_130 (lv_at hl 5 rfl) ?_
                    refine lv_iload hx hb dX3_write_132 (lv_at hl 1 rfl) ?_
                    refine lv_if_eq (tgt := 141) hx hb dX3_write_134 (by decide) (fun c32 => ?_) (fun c32 => absurd (by decide) c32)
                    refine lv_iconst (v := 0) hx hb dX3_write_141 (by decide) ?_
                    refine lv_iadd hx hb dX3_write_142 ?_
                    refine lv_topi (fun v33 ev33 => ?_)
                    obtain rfl : v33 = nI (ab + 0) := nI_plus ev33 rfl rfl
                    refine lv_istore (lv' := [(4, .int (nI (ab + 0))), (9, .int (nI ((((NT i j)) - (((NT i j) % ba))) + 0))), (8, .int 0), (7, .int (nI (i * 12 + j))), (6, .int (nI j)), (5, .int (nI i)), (0, .ref (ua 0)), (1, .ref (a 15)), (2, .int (nI ba)), (3, .ref (la 0))]) hx hb dX3_write_143 hl (by decide) rfl (fun ls hl => ?_)
                    obtain ⟨v34, ev34⟩ : ∃ y9 : Int32, y9 = (nI j) + Int32.ofInt (1) := ⟨_, rfl⟩
                    refine lv_iinc (v := v34) (lv' := [(6, .int v34), (4, .int (nI (ab + 0))), (9, .int (nI ((((NT i j)) - (((NT i j) % ba))) + 0))), (8, .int 0), (7, .int (nI (i * 12 + j))), (5, .int (nI i)), (0, .ref (ua 0)), (1, .ref (a 15)), (2, .int (nI ba)), (3, .ref (la 0))]) hx hb dX3_write_145 hl (k := 4) rfl ev34.symm (by decide) rfl (fun ls hl => ?_)
                    obtain rfl : v34 = nI (j + 1) := nI_plus (i := j) (j := 1) ev34 rfl (by decide)
                    refine lv_goto (tgt := 34) hx hb dX3_write_148 (by decide) ?_
                    exact ih34k5 (j + 1) (ab + 0) (upd x7 ((i * 12 + j)) ((nI ((((NT i j)) - (((NT i j) % ba))) + 0)))) (by omega) (by omega) (by omega) (by rw [hab]; exact (rk_n (M := (upM (r 6) rw cl ZZ)) (x := i) (y := j) (by omega) (fun z9 => absurd (hz9.symm.trans z9.2.2.2) (by decide))).symm) (SHR_s hcl hsh (by omega) (rlS_d hs1 hz9)) _ _ _ hP hS (lv_sub hl [0, 5, 1, 6, 7, 8, 9] rfl)
                · have b69 := qeq_f (a := ((ZZ i j))) (b := 0) (by omega) (by omega) c24
                  have hz9 : ZZ i j = 1 := by omega
                  refine lv_iconst (v := 1) hx hb dX3_write_72 (by decide) ?_
                  refine lv_goto (tgt := 77) hx hb dX3_write_73 (by decide) ?_
                  refine lv_istore (lv' := [(8, .int 1), (7, .int (nI (i * 12 + j))), (6, .int (nI j)), (5, .int (nI i)), (4, .int (nI ab)), (0, .ref (ua 0)), (1, .ref (a 15)), (2, .int (nI ba)), (3, .ref (la 0))]) hx hb dX3_write_77 hl (by decide) rfl (fun ls hl => ?_)
                  refine lv_aload_n hx hb dX3_write_79 rfl (lv_at hl 6 rfl) ?_
                  refine va_get (D := G.1) (ci := 2) (v := .ref (a 9)) (C := RX2) (T := TX2) (N := 15) hx hb hts inX2 hown hK.1 hP 12 rfl rfl 9 (by decide) (hts _ mf_X3_76) (fun _ h9 => h9) rfl dX3_write_80 ?_
                  refine lv_iload hx hb dX3_write_83 (lv_at hl 1 rfl) ?_
                  refine xiald (f := (r 9)) hx hb hK hP 16 ((i * 12 + j)) (rfl) (by omega) (by decide) rfl dX3_write_85 ?_
                  refine lv_topi (fun v35 ev35 => ?_)
                  obtain rfl : v35 = nI ((NT i j)) := ev35.trans (qa)
                  refine lv_aload_n hx hb dX3_write_86 rfl (lv_at hl 5 rfl) ?_
                  refine va_get (D := G.1) (ci := 3) (v := .ref (ua 1)) (C := RX3) (T := TX3) (N := 8) hx hb hts inX3 hown hK.1 hP 0 rfl rfl 1 (by decide) (hts _ mf_X3_18) (fun _ h9 => h9) rfl dX3_write_87 ?_
                  refine lv_iload hx hb dX3_write_90 (lv_at hl 1 rfl) ?_
                  refine xiald (f := (ur 1)) hx hb hK hP 1 ((i * 12 + j)) (rfl) (by omega) (by decide) rfl dX3_write_92 ?_
                  refine lv_topi (fun v36 ev36 => ?_)
                  obtain rfl : v36 = nI (((NT i j) % ba)) := ev36.trans (qc)
                  refine lv_isub hx hb dX3_write_93 ?_
                  refine lv_topi (fun v37 ev37 => ?_)
                  obtain rfl : v37 = nI (((NT i j)) - (((NT i j) % ba))) := nI_minus ev37 rfl rfl (by omega)
                  refine lv_iload hx hb dX3_write_94 (lv_at hl 0 rfl) ?_
                  refine lv_if_eq (tgt := 103) hx hb dX3_write_96 (by decide) (fun c38 => absurd c38 (by decide)) (fun c38 => ?_)
                  refine lv_iload_n hx hb dX3_write_99 rfl (lv_at hl 7 rfl) ?_
                  refine lv_goto (tgt := 104) hx hb dX3_write_100 (by decide) ?_
                  refine lv_iadd hx hb dX3_write_104 ?_
                  refine lv_topi (fun v39 ev39 => ?_)
                  obtain rfl : v39 = nI ((((NT i j)) - (((NT i j) % ba))) + ba) := nI_plus ev39 rfl rfl
                  refine lv_istore (lv' := [(9, .int (nI ((((NT i j)) - (((NT i j) % ba))) + ba))), (8, .int 1), (7, .int (nI (i * 12 + j))), (6, .int (nI j)), (5, .int (nI i)), (4, .int (nI ab)), (0, .ref (ua 0)), (1, .ref (a 15)), (2, .int (nI ba)), (3, .ref (la 0))]) hx hb dX3_write_105 hl (by decide) rfl (fun ls hl => ?_)
                  refine lv_aload_n hx hb dX3_write_107 rfl (lv_at hl 9 rfl) ?_
                  refine va_get (D := G.1) (ci := 1) (v := .ref (la 1)) (C := RX1) (T := TX1) (N := 3) hx hb hts inX1 hown hK.1 hP 22 rfl rfl 2 (by decide) (hts _ mf_X3_79) (fun _ h9 => h9) rfl dX3_write_108 ?_
                  refine lv_iload hx hb dX3_write_111 (lv_at hl 2 rfl) ?_
                  refine lv_aload_n hx hb dX3_write_113 rfl (lv_at hl 7 rfl) ?_
                  refine va_get (D := G.1) (ci := 2) (v := .ref (a 6)) (C := RX2) (T := TX2) (N := 15) hx hb hts inX2 hown hK.1 hP 12 rfl rfl 6 (by decide) (hts _ mf_X3_47) (fun _ h9 => h9) rfl dX3_write_114 ?_
                  refine lv_iload hx hb dX3_write_117 (lv_at hl 4 rfl) ?_
                  refine xzald (f := (r 6)) hx hb hK hP 13 (i) (rfl) (by omega) (by decide) rfl dX3_write_119 ?_
                  refine lv_topi (fun v40 ev40 => ?_)
                  refine lv_if_eq (tgt := 128) hx hb dX3_write_120 (by decide) (fun c41 => ?_) (fun c41 => ?_)
                  · exact absurd (by rw [← ev40]; exact c41) hs1
                  · refine lv_iload hx hb dX3_write_123 (lv_at hl 0 rfl) ?_
                    refine lv_goto (tgt := 129) hx hb dX3_write_125 (by decide) ?_
                    refine xiast (f := x7) (x := (nI ((((NT i j)) - (((NT i j) % ba))) + ba))) hx hb hK hP (hDD _ _ _ _ _ _) hS 23 ((i * 12 + j)) (rfl) (by omega) (by decide) rfl dX3_write_129 (fun H locs hP _ hS => ?_)
                    have hP : PP G (uM G ua a b la uf f (upd (upd lf 0 (nI (rw))) 1 (nI (cl))) ur r (up2 lr 2 (upd x7 ((i * 12 + j)) ((nI ((((NT i j)) - (((NT i j) % ba))) + ba)))))) H := hP
                    have hb9_ := rk_b (M := (upM (r 6) rw cl ZZ)) (12 * i + j)
                    refine lv_iload hx hb dX3_write_130 (lv_at hl 5 rfl) ?_
                    refine lv_iload hx hb dX3_write_132 (lv_at hl 1 rfl) ?_
                    refine lv_if_eq (tgt := 141) hx hb dX3_write_134 (by decide) (fun c42 => absurd c42 (by decide)) (fun c42 => ?_)
                    refine lv_iconst (v := 1) hx hb dX3_write_137 (by decide) ?_
                    refine lv_goto (tgt := 142) hx hb dX3_write_138 (by decide) ?_
                    refine lv_iadd hx hb dX3_write_142 ?_
                    refine lv_topi (fun v43 ev43 => ?_)
                    obtain rfl : v43 = nI (ab + 1) := nI_plus ev43 rfl rfl
                    refine lv_istore (lv' := [(4, .int (nI (ab + 1))), (9, .int (nI ((((NT i j)) - (((NT i j) % ba))) + ba))), (8, .int 1), (7, .int (nI (i * 12 + j))), (6, .int (nI j)), (5, .int (nI i)), (0, .ref (ua 0)), (1, .ref (a 15)), (2, .int (nI ba)), (3, .ref (la 0))]) hx hb dX3_write_143 hl (by decide) rfl (fun ls hl => ?_)
                    obtain ⟨v44, ev44⟩ : ∃ y9 : Int32, y9 = (nI j) + Int32.ofInt (1) := ⟨_, rfl⟩
                    refine lv_iinc (v := v44) (lv' := [(6, .int v44), (4, .int (nI (ab + 1))), (9, .int (nI ((((NT i j)) - (((NT i j) % ba))) + ba))), (8, .int 1), (7, .int (nI (i * 12 + j))), (5, .int (nI i)), (0, .ref (ua 0)), (1, .ref (a 15)), (2, .int (nI ba)), (3, .ref (la 0))]) hx hb dX3_write_145 hl (k := 4) rfl ev44.symm (by decide) rfl (fun ls hl => ?_)
                    obtain rfl : v44 = nI (j + 1) := nI_plus (i := j) (j := 1) ev44 rfl (by decide)
                    refine lv_goto (tgt := 34) hx hb dX3_write_148 (by decide) ?_
                    exact ih34k5 (j + 1) (ab + 1) (upd x7 ((i * 12 + j)) ((nI ((((NT i j)) - (((NT i j) % ba))) + ba)))) (by omega) (by omega) (by omega) (by rw [hab]; exact (rk_y (M := (upM (r 6) rw cl ZZ)) (x := i) (y := j) (by omega) ⟨by omega, by omega, hs1, hz9⟩).symm) (SHR_s hcl hsh (by omega) (rlS_u hs1 hz9)) _ _ _ hP hS (lv_sub hl [0, 5, 1, 6, 7, 8, 9] rfl)
        exact loop34 (cl + 1) 0 ab x3 (by omega) (by omega) (by omega) (hab) (hsh) _ _ _ hP hS (lv_sub hl [0, 1, 2, 3, 4, 5, 6] rfl)
  exact loop22 (rw + 1) 0 0 (lr 2) (by omega) (by omega) (by omega) (rfl) (SHR_0) _ _ _ hP hS (lv_sub hl [0, 1, 2, 3, 4, 5] rfl)
set_option maxHeartbeats 4000000 in
set_option maxRecDepth 100000 in
theorem r_X3_fill (l : Launch) (G : GG) (ua a b la : Nat → Nat) (uf f lf : Nat → Int32) (ur r lr : Nat → Nat → Int32) (ba : Nat) (rw : Nat) (cl : Nat) (NT : Nat → Nat → Nat) (hrw : rw ≤ 12) (hcl : cl ≤ 12) (h0 : (f 0) = nI rw) (h1 : (f 1) = nI cl) (hb1 : 2 ≤ ba) (hb9 : ba ≤ 1000) (hNN : ∀ x y, x < rw → y < cl → ¬ (r 6) x = 0 → (r 9) (x * 12 + y) = nI (NT x y) ∧ NT x y ≤ 1000000) : WrI l yX3_fill cX3_fill 5 (some .int) ({ frames := 6, cells := 0, slots := 0, locals := 147 }) G (uM G ua a b la uf f lf ur r lr) [.ref (ua 0), .ref (a 15), .int (nI ba), .ref (la 0)] (fun q w => ∃ (n_lf_0 : Int32) (n_lf_1 : Int32) (n_lr_2 : Nat → Int32) (n_uf_3 : Int32) (n_ur_1 : Nat → Int32) (n_ur_2 : Nat → Int32) (n_ur_3 : Nat → Int32) (n_ur_4 : Nat → Int32) (n_ur_5 : Nat → Int32) (n_ur_6 : Nat → Int32) (n_ur_7 : Nat → Int32) (n_ur_20 : Nat → Int32) (n_ur_21 : Nat → Int32) (n_ur_22 : Nat → Int32) (ZZ : Nat → Nat → Nat), w = uM G ua a b la (upd uf 3 n_uf_3) f (upd (upd lf 0 n_lf_0) 1 n_lf_1) (up2 (up2 (up2 (up2 (up2 (up2 (up2 (up2 (up2 (up2 ur 1 n_ur_1) 2 n_ur_2) 3 n_ur_3) 4 n_ur_4) 5 n_ur_5) 6 n_ur_6) 7 n_ur_7) 20 n_ur_20) 21 n_ur_21) 22 n_ur_22) r (up2 lr 2 n_lr_2) ∧ q = nI (rkG (upM (r 6) rw cl ZZ) (12 * rw)) ∧ (n_lf_0 = nI rw) ∧ (n_lf_1 = nI cl) ∧ (SHR (rlS (r 6) NT ZZ ba) n_lr_2 cl (12 * rw)) ∧ (RND (r 6) (r 7) rw cl ba NT ZZ)) := by
  refine wr_entryI (by decide +kernel) (Nat.le_of_ble_eq_true rfl) ?_
  intro p e s m below meth c A C0 hP hK hD hA ls hl
  have hS : va_S A s.heap s.heap [] := va_S.rf
  obtain ⟨hx, hb, hml, hown, hts, hr, hlocks, hin⟩ := C0
  have hown : s.vm.findClass RX3 = some m.cls := hown
  have hDD : ∀ uf' f' lf' ur' r' lr', va_D A (uM G ua a b la uf' f' lf' ur' r' lr') := fun uf' f' lf' ur' r' lr' => D_same hD rfl
  have hl : lv_has ls 5 [(0, .ref (ua 0)), (1, .ref (a 15)), (2, .int (nI ba)), (3, .ref (la 0))] := hl
  refine lv_iconst (v := 0) hx hb dX3_fill_0 (by decide) ?_
  refine lv_istore (lv' := [(4, .int 0), (0, .ref (ua 0)), (1, .ref (a 15)), (2, .int (nI ba)), (3, .ref (la 0))]) hx hb dX3_fill_1 hl (by decide) rfl (fun ls hl => ?_)
  have loop3 : ∀ (k1 i : Nat) (x2 : Int32) (x3 : Nat → Int32) (x4 : Nat → Int32) (x5 : Nat → Int32) (x6 : Nat → Int32) (x7 : Nat → Int32) (x8 : Nat → Int32) (x9 : Nat → Int32) (x10 : Nat → Int32) (x11 : Nat → Int32) (x12 : Nat → Int32), i ≤ rw → rw < i + k1 → (∀ x, x < i → ¬ (r 6) x = 0 → CLS (r 6) (r 7) rw cl ba NT ((r 7) x) x3 x4) → ∀ (H : Heap) (locs : List Loc) (ls : Array Slot), PP G (uM G ua a b la (upd uf 3 x2) f lf (up2 (up2 (up2 (up2 (up2 (up2 (up2 (up2 (up2 (up2 ur 1 x3) 2 x4) 3 x5) 4 x6) 5 x7) 6 x8) 7 x9) 20 x10) 21 x11) 22 x12) r lr) H → va_S A s.heap H locs → lv_has ls 5 [(4, .int (nI i)), (0, .ref (ua 0)), (1, .ref (a 15)), (2, .int (nI ba)), (3, .ref (la 0))] → W p l e ({ frames := 6, cells := 0, slots := 0, locals := 147 }) s m ([.ref (ua 0), .ref (a 15), .int (nI ba), .ref (la 0)] : List Value).toArray below meth c H locs 0 0 (MQ below (QwI G (fun q w => ∃ (n_lf_0 : Int32) (n_lf_1 : Int32) (n_lr_2 : Nat → Int32) (n_uf_3 : Int32) (n_ur_1 : Nat → Int32) (n_ur_2 : Nat → Int32) (n_ur_3 : Nat → Int32) (n_ur_4 : Nat → Int32) (n_ur_5 : Nat → Int32) (n_ur_6 : Nat → Int32) (n_ur_7 : Nat → Int32) (n_ur_20 : Nat → Int32) (n_ur_21 : Nat → Int32) (n_ur_22 : Nat → Int32) (ZZ : Nat → Nat → Nat), w = uM G ua a b la (upd uf 3 n_uf_3) f (upd (upd lf 0 n_lf_0) 1 n_lf_1) (up2 (up2 (up2 (up2 (up2 (up2 (up2 (up2 (up2 (up2 ur 1 n_ur_1) 2 n_ur_2) 3 n_ur_3) 4 n_ur_4) 5 n_ur_5) 6 n_ur_6) 7 n_ur_7) 20 n_ur_20) 21 n_ur_21) 22 n_ur_22) r (up2 lr 2 n_lr_2) ∧ q = nI (rkG (upM (r 6) rw cl ZZ) (12 * rw)) ∧ (n_lf_0 = nI rw) ∧ (n_lf_1 = nI cl) ∧ (SHR (rlS (r 6) NT ZZ ba) n_lr_2 cl (12 * rw)) ∧ (RND (r 6) (r 7) rw cl ba NT ZZ)) A) ([.ref (ua 0), .ref (a 15), .int (nI ba), .ref (la 0)] : List Value).toArray s 0 0 A) (F0 m 3 ls []) := by
    intro k1
    induction k1 with
    | zero => intro i x2 x3 x4 x5 x6 x7 x8 x9 x10 x11 x12 h1 h2; exact absurd h1 (by omega)
    | succ k1 ih3k1 =>
      intro i x2 x3 x4 x5 x6 x7 x8 x9 x10 x11 x12 hi_i hk_i hcl9 H locs ls hP hS hl
      refine lv_iload hx hb dX3_fill_3 (lv_at hl 0 rfl) ?_
      refine lv_aload_n hx hb dX3_fill_5 rfl (lv_at hl 2 rfl) ?_
      refine va_get (D := G.1) (ci := 2) (v := .int (f 0)) (C := RX2) (T := TX2) (N := 15) hx hb hts inX2 hown hK.1 hP 12 rfl rfl 0 (by decide) (hts _ mf_X3_41) (fun _ h9 => h9) rfl dX3_fill_6 ?_
      rw [show (f 0) = nI (rw) from h0]
      refine lv_icmp_ge (tgt := 51) hx hb dX3_fill_9 (by decide) (fun c13 => ?_) (fun c13 => ?_)
      · have b9 := qge_t (a := i) (b := (rw)) (by omega) (by omega) c13
        obtain ⟨hrn, hqq⟩ := RND_of (so := r 6) (cs := r 7) (B := ba) (NT := NT) hrw hcl (fun x hx => hcl9 x (by omega))
        refine lv_aload_n hx hb dX3_fill_51 rfl (lv_at hl 1 rfl) ?_
        refine lv_aload_n hx hb dX3_fill_52 rfl (lv_at hl 2 rfl) ?_
        refine lv_iload_n hx hb dX3_fill_53 rfl (lv_at hl 3 rfl) ?_
        refine lv_aload_n hx hb dX3_fill_54 rfl (lv_at hl 4 rfl) ?_
        refine wrVIa (rest := []) (q0 := 0) ⟨hx, hb, hml, hown, hts⟩ (r_X3_write l G ua a b la (upd uf 3 x2) f lf (up2 (up2 (up2 (up2 (up2 (up2 (up2 (up2 (up2 (up2 ur 1 x3) 2 x4) 3 x5) 4 x6) 5 x7) 6 x8) 7 x9) 20 x10) 21 x11) 22 x12) r lr ba rw cl NT (fun x y => (x4 (x * 12 + y)).toNatClampNeg) (by omega) (by omega) h0 h1 (by omega) (by omega) (fun x y hx hy hs => ⟨hNN x y hx hy hs, hqq x y hx hy hs⟩)) mi_yX3_write mv_yX3_write ml_X3_61 ⟨rfl, rfl, Nat.le_of_ble_eq_true rfl, Nat.le_of_ble_eq_true rfl⟩ hK hP (hDD _ _ _ _ _ _) rfl rfl rfl hl.1 rfl (Nat.le_of_ble_eq_true rfl) dX3_fill_55 ⟨Nat.zero_le _, Nat.zero_le _⟩ hS hA (fun r14 w15 H locs hw15 hP hS => ?_)
        obtain ⟨x16, x17, x18, rfl, hw15r, hl0, hl1, hsh⟩ := hw15
        have hP : PP G (uM G ua a b la (upd uf 3 x2) f (upd (upd lf 0 x16) 1 x17) (up2 (up2 (up2 (up2 (up2 (up2 (up2 (up2 (up2 (up2 ur 1 x3) 2 x4) 3 x5) 4 x6) 5 x7) 6 x8) 7 x9) 20 x10) 21 x11) 22 x12) r (up2 lr 2 x18)) H := hP
        have hl0 : x16 = nI rw := hl0
        have hl1 : x17 = nI cl := hl1
        have hsh : SHR (rlS (r 6) NT (fun x y => (x4 (x * 12 + y)).toNatClampNeg) ba) x18 cl (12 * rw) := hsh
        have hw15r : r14 = nI (rkG (upM (r 6) rw cl (fun x y => (x4 (x * 12 + y)).toNatClampNeg)) (12 * rw)) := hw15r
        exact wr_iret hx hb hr hlocks hS hP ⟨x16, x17, x18, x2, x3, x4, x5, x6, x7, x8, x9, x10, x11, x12, (fun x y => (x4 (x * 12 + y)).toNatClampNeg), rfl, hw15r, hl0, hl1, hsh, hrn⟩ dX3_fill_58
      · have b9 := qge_f (a := i) (b := (rw)) (by omega) (by omega) c13
        refine lv_aload_n hx hb dX3_fill_12 rfl (lv_at hl 2 rfl) ?_
        refine va_get (D := G.1) (ci := 2) (v := .ref (a 6)) (C := RX2) (T := TX2) (N := 15) hx hb hts inX2 hown hK.1 hP 12 rfl rfl 6 (by decide) (hts _ mf_X3_47) (fun _ h9 => h9) rfl dX3_fill_13 ?_
        refine lv_iload hx hb dX3_fill_16 (lv_at hl 0 rfl) ?_
        refine xzald (f := (r 6)) hx hb hK hP 13 (i) (rfl) (by omega) (by decide) rfl dX3_fill_18 ?_
        refine lv_topi (fun v19 ev19 => ?_)
        refine lv_if_eq (tgt := 45) hx hb dX3_fill_19 (by decide) (fun c20 => ?_) (fun c20 => ?_)
        · obtain ⟨v21, ev21⟩ : ∃ y9 : Int32, y9 = (nI i) + Int32.ofInt (1) := ⟨_, rfl⟩
          refine lv_iinc (v := v21) (lv' := [(4, .int v21), (0, .ref (ua 0)), (1, .ref (a 15)), (2, .int (nI ba)), (3, .ref (la 0))]) hx hb dX3_fill_45 hl (k := 0) rfl ev21.symm (by decide) rfl (fun ls hl => ?_)
          obtain rfl : v21 = nI (i + 1) := nI_plus (i := i) (j := 1) ev21 rfl (by decide)
          refine lv_goto (tgt := 3) hx hb dX3_fill_48 (by decide) ?_
          exact ih3k1 (i + 1) x2 x3 x4 x5 x6 x7 x8 x9 x10 x11 x12 (by omega) (by omega) (fun x hx => if c9 : x = i then (by rw [c9]; exact fun h8 => absurd (by rw [← ev19]; exact c20) h8) else hcl9 x (by omega)) _ _ _ hP hS (lv_sub hl [0, 1, 2, 3, 4] rfl)
        · have hs1 : ¬ (r 6) i = 0 := by rw [← ev19]; exact c20
          refine lv_aload_n hx hb dX3_fill_22 rfl (lv_at hl 1 rfl) ?_
          refine lv_aload_n hx hb dX3_fill_23 rfl (lv_at hl 2 rfl) ?_
          refine lv_iload hx hb dX3_fill_24 (lv_at hl 0 rfl) ?_
          refine rdV (rest := []) (q0 := 0) ⟨hx, hb, hml, hown, hts⟩ (r_X3_isFirstOfClass l G ua a b la (upd uf 3 x2) f lf (up2 (up2 (up2 (up2 (up2 (up2 (up2 (up2 (up2 (up2 ur 1 x3) 2 x4) 3 x5) 4 x6) 5 x7) 6 x8) 7 x9) 20 x10) 21 x11) 22 x12) r lr i  (by omega)) mi_yX3_isFirstOfClass mv_yX3_isFirstOfClass ml_X3_50 ⟨rfl, rfl, Nat.le_of_ble_eq_true rfl, Nat.le_of_ble_eq_true rfl⟩ hK (hP) rfl rfl rfl hl.1 rfl (Nat.le_of_ble_eq_true rfl) dX3_fill_26 ⟨Nat.zero_le _, Nat.zero_le _⟩ hS hA hP (fun r22 H locs hr22 hP hS => ?_)
          have hr22 : ((r22 = 1 ∧ (∀ x, x < i → ¬ (r 6) x = 0 → ¬ (r 7) x = (r 7) i)) ∨ (r22 = 0 ∧ ¬ (∀ x, x < i → ¬ (r 6) x = 0 → ¬ (r 7) x = (r 7) i))) := hr22
          refine lv_if_eq (tgt := 45) hx hb dX3_fill_29 (by decide) (fun c23 => ?_) (fun c23 => ?_)
          · have b29 := bF hr22 c23
            obtain ⟨v24, ev24⟩ : ∃ y9 : Int32, y9 = (nI i) + Int32.ofInt (1) := ⟨_, rfl⟩
            refine lv_iinc (v := v24) (lv' := [(4, .int v24), (0, .ref (ua 0)), (1, .ref (a 15)), (2, .int (nI ba)), (3, .ref (la 0))]) hx hb dX3_fill_45 hl (k := 0) rfl ev24.symm (by decide) rfl (fun ls hl => ?_)
            obtain rfl : v24 = nI (i + 1) := nI_plus (i := i) (j := 1) ev24 rfl (by decide)
            refine lv_goto (tgt := 3) hx hb dX3_fill_48 (by decide) ?_
            exact ih3k1 (i + 1) x2 x3 x4 x5 x6 x7 x8 x9 x10 x11 x12 (by omega) (by omega) (fun x hx => if c9 : x = i then (by rw [c9]; exact fun _ => Classical.byContradiction (fun y9 => b29 (fun x h7 h8 h9 => y9 (by rw [← h9]; exact hcl9 x h7 h8)))) else hcl9 x (by omega)) _ _ _ hP hS (lv_sub hl [0, 1, 2, 3, 4] rfl)
          · have b29 := bT hr22 c23
            refine lv_aload_n hx hb dX3_fill_32 rfl (lv_at hl 1 rfl) ?_
            refine lv_aload_n hx hb dX3_fill_33 rfl (lv_at hl 2 rfl) ?_
            refine lv_aload_n hx hb dX3_fill_34 rfl (lv_at hl 2 rfl) ?_
            refine va_get (D := G.1) (ci := 2) (v := .ref (a 7)) (C := RX2) (T := TX2) (N := 15) hx hb hts inX2 hown hK.1 hP 12 rfl rfl 7 (by decide) (hts _ mf_X3_54) (fun _ h9 => h9) rfl dX3_fill_35 ?_
            refine lv_iload hx hb dX3_fill_38 (lv_at hl 0 rfl) ?_
            refine xiald (f := (r 7)) hx hb hK hP 14 (i) (rfl) (by omega) (by decide) rfl dX3_fill_40 ?_
            refine lv_topi (fun v25 ev25 => ?_)
            obtain rfl : v25 = ((r 7) i) := ev25.trans (rfl)
            refine lv_iload_n hx hb dX3_fill_41 rfl (lv_at hl 3 rfl) ?_
            refine wrVVa (rest := []) (q0 := 0) ⟨hx, hb, hml, hown, hts⟩ (r_X3_roundClass l G ua a b la (upd uf 3 x2) f lf (up2 (up2 (up2 (up2 (up2 (up2 (up2 (up2 (up2 (up2 ur 1 x3) 2 x4) 3 x5) 4 x6) 5 x7) 6 x8) 7 x9) 20 x10) 21 x11) 22 x12) r lr ((r 7) i) ba rw cl NT (by omega) (by omega) h0 h1 (by omega) (by omega) hNN) mi_yX3_roundClass mv_yX3_roundClass ml_X3_57 ⟨rfl, rfl, Nat.le_of_ble_eq_true rfl, Nat.le_of_ble_eq_true rfl⟩ hK hP (hDD _ _ _ _ _ _) rfl rfl rfl hl.1 rfl (Nat.le_of_ble_eq_true rfl) dX3_fill_42 ⟨Nat.zero_le _, Nat.zero_le _⟩ hS hA (fun w27 H locs hw27 hP hS => ?_)
            obtain ⟨x28, x29, x30, x31, x32, x33, x34, x35, x36, x37, x38, rfl, hcs, hk2⟩ := hw27
            have hP : PP G (uM G ua a b la (upd uf 3 x28) f lf (up2 (up2 (up2 (up2 (up2 (up2 (up2 (up2 (up2 (up2 ur 1 x29) 2 x30) 3 x31) 4 x32) 5 x33) 6 x34) 7 x35) 20 x36) 21 x37) 22 x38) r lr) H := hP
            have hcs : CLS (r 6) (r 7) rw cl ba NT ((r 7) i) x29 x30 := hcs
            have hk2 : ∀ a b, a < 12 → b < 12 → dmR (r 6) (r 7) rw cl ((r 7) i) a b = false → x29 (a * 12 + b) = x3 (a * 12 + b) ∧ x30 (a * 12 + b) = x4 (a * 12 + b) := hk2
            obtain ⟨v39, ev39⟩ : ∃ y9 : Int32, y9 = (nI i) + Int32.ofInt (1) := ⟨_, rfl⟩
            refine lv_iinc (v := v39) (lv' := [(4, .int v39), (0, .ref (ua 0)), (1, .ref (a 15)), (2, .int (nI ba)), (3, .ref (la 0))]) hx hb dX3_fill_45 hl (k := 0) rfl ev39.symm (by decide) rfl (fun ls hl => ?_)
            obtain rfl : v39 = nI (i + 1) := nI_plus (i := i) (j := 1) ev39 rfl (by decide)
            refine lv_goto (tgt := 3) hx hb dX3_fill_48 (by decide) ?_
            exact ih3k1 (i + 1) x28 x29 x30 x31 x32 x33 x34 x35 x36 x37 x38 (by omega) (by omega) (fun x hx => if c9 : (r 7) x = (r 7) i then (fun _ => by rw [c9]; exact hcs) else (fun h8 => CLS_k (hcl9 x (Nat.lt_of_le_of_ne (by omega) (fun z9 => c9 (by rw [z9]))) h8) c9 (fun a b ha hb hd => hk2 a b ha hb hd))) _ _ _ hP hS (lv_sub hl [0, 1, 2, 3, 4] rfl)
  exact loop3 (rw + 1) 0 (uf 3) (ur 1) (ur 2) (ur 3) (ur 4) (ur 5) (ur 6) (ur 7) (ur 20) (ur 21) (ur 22) (by omega) (by omega) (fun x h9 => absurd h9 (by omega)) _ _ _ hP hS (lv_sub hl [0, 1, 2, 3, 4] rfl)
set_option maxHeartbeats 4000000 in
set_option maxRecDepth 100000 in
theorem y_round (l : Launch) (G : GG) (x : Nat) (xa ta a b ga ua la lb lc : Nat → Nat) (tg gg : Nat → Option Nat) (xf tf f qf gf uf lf mf nf : Nat → Int32) (tr r q gr ur lr mr nr : Nat → Nat → Int32) (tb : Int32) (ba : Int32) (j : Nat) (hj : j < 6) (hjt : tbJ tb j) (htg : tg j = some (ta 0)) (hT1 : nL 12 (tf 1)) (hT2 : nL 12 (tf 2)) (hT3 : nL 12 (tf 3)) (hT4 : nOK 12 12 (tr 4)) (hNC : ¬ (tf 0) = 0 → (∀ rw cl, rw ≤ 12 → cl ≤ 12 → (tf 1) = nI rw → (tf 2) = nI cl → NRC rw cl (tr 4) (tr 5) (tr 6)) ∧ ∃ dn up, dn ≤ 1000000 ∧ up ≤ 1000000 ∧ (tr 9) 3 = nI dn ∧ (tr 9) 4 = nI up) (hM0 : nL 12 (mf 0)) (hM1 : nL 12 (mf 1)) : WrI l yX6_round cX6_round 3 (some .int) ({ frames := 7, cells := 0, slots := 0, locals := 171 }) G (xM G x xa ta a b ga ua la lb lc tg gg xf tf f qf gf uf lf mf nf tr r q gr ur lr mr nr) [.ref x, .int tb, .int ba] (fun qz w => ∃ (n_f_0 : Int32) (n_f_1 : Int32) (n_f_2 : Int32) (n_f_3 : Int32) (n_f_4 : Int32) (n_mf_0 : Int32) (n_mf_1 : Int32) (n_mr_2 : Nat → Int32) (n_r_6 : Nat → Int32) (n_r_7 : Nat → Int32) (n_r_8 : Nat → Int32) (n_r_9 : Nat → Int32) (n_r_10 : Nat → Int32) (n_r_11 : Nat → Int32) (n_r_12 : Nat → Int32) (n_r_13 : Nat → Int32) (n_r_14 : Nat → Int32) (n_uf_3 : Int32) (n_ur_1 : Nat → Int32) (n_ur_2 : Nat → Int32) (n_ur_3 : Nat → Int32) (n_ur_4 : Nat → Int32) (n_ur_5 : Nat → Int32) (n_ur_6 : Nat → Int32) (n_ur_7 : Nat → Int32) (n_ur_20 : Nat → Int32) (n_ur_21 : Nat → Int32) (n_ur_22 : Nat → Int32) (n_xf_0 : Int32), w = xM G x xa ta a b ga ua la lb lc tg gg (upd xf 0 n_xf_0) tf (upd (upd (upd (upd (upd f 0 n_f_0) 1 n_f_1) 2 n_f_2) 3 n_f_3) 4 n_f_4) qf gf (upd uf 3 n_uf_3) lf (upd (upd mf 0 n_mf_0) 1 n_mf_1) nf tr (up2 (up2 (up2 (up2 (up2 (up2 (up2 (up2 (up2 r 6 n_r_6) 7 n_r_7) 8 n_r_8) 9 n_r_9) 10 n_r_10) 11 n_r_11) 12 n_r_12) 13 n_r_13) 14 n_r_14) q gr (up2 (up2 (up2 (up2 (up2 (up2 (up2 (up2 (up2 (up2 ur 1 n_ur_1) 2 n_ur_2) 3 n_ur_3) 4 n_ur_4) 5 n_ur_5) 6 n_ur_6) 7 n_ur_7) 20 n_ur_20) 21 n_ur_21) 22 n_ur_22) lr (up2 mr 2 n_mr_2) nr ∧ rdX (tbO tb j (tf 0)) ba qz (tf 1) (tf 2) (tf 3) (tr 4) (tr 5) (tr 6) (tr 7) (tr 8) (tr 9) (tr 10) (tr 11) (mf 0) (mf 1) (mr 2) n_mf_0 n_mf_1 n_mr_2 ∧ (nL 12 n_mf_0) ∧ (nL 12 n_mf_1)) := by
  refine wr_entryI (by decide +kernel) (Nat.le_of_ble_eq_true rfl) ?_
  intro p e s m below meth c A C0 hP hK hD hA ls hl
  have hS : va_S A s.heap s.heap [] := va_S.rf
  obtain ⟨hx, hb, hml, hown, hts, hr, hlocks, hin⟩ := C0
  have hown : s.vm.findClass RX6 = some m.cls := hown
  have hDD : ∀ xf' tf' f' qf' gf' uf' lf' mf' nf' tr' r' q' gr' ur' lr' mr' nr', va_D A (xM G x xa ta a b ga ua la lb lc tg gg xf' tf' f' qf' gf' uf' lf' mf' nf' tr' r' q' gr' ur' lr' mr' nr') := fun xf' tf' f' qf' gf' uf' lf' mf' nf' tr' r' q' gr' ur' lr' mr' nr' => D_same hD rfl
  have hl : lv_has ls 3 [(0, .ref x), (1, .int tb), (2, .int ba)] := hl
  refine lv_aload_n hx hb dX6_round_0 rfl (lv_at hl 0 rfl) ?_
  refine lv_aload_n hx hb dX6_round_1 rfl (lv_at hl 0 rfl) ?_
  refine lv_iload_n hx hb dX6_round_2 rfl (lv_at hl 1 rfl) ?_
  refine rdV (rest := [.ref x]) (q0 := 0) ⟨hx, hb, hml, hown, hts⟩ (x_tableStatus l G x xa ta a b ga ua la lb lc tg gg xf tf f qf gf uf lf mf nf tr r q gr ur lr mr nr tb j (by omega) hjt htg) mi_yX6_tableStatus mv_yX6_tableStatus ml_X6_73 ⟨rfl, rfl, Nat.le_of_ble_eq_true rfl, Nat.le_of_ble_eq_true rfl⟩ hK (hP) rfl rfl rfl hl.1 rfl (Nat.le_of_ble_eq_true rfl) dX6_round_3 ⟨Nat.zero_le _, Nat.zero_le _⟩ hS hA hP (fun r1 H locs hr1 hP hS => ?_)
  have hr1 : ((r1 = 0 ∧ tbO tb j (tf 0)) ∨ (r1 = 1 ∧ ¬ tbO tb j (tf 0))) := hr1
  refine wrVIa (rest := []) (q0 := 0) ⟨hx, hb, hml, hown, hts⟩ (x_settled l G x xa ta a b ga ua la lb lc tg gg xf tf f qf gf uf lf mf nf tr r q gr ur lr mr nr r1  ) mi_yX6_settled mv_yX6_settled ml_X6_65 ⟨rfl, rfl, Nat.le_of_ble_eq_true rfl, Nat.le_of_ble_eq_true rfl⟩ hK hP (hDD _ _ _ _ _ _ _ _ _ _ _ _ _ _ _ _ _) rfl rfl rfl hl.1 rfl (Nat.le_of_ble_eq_true rfl) dX6_round_6 ⟨Nat.zero_le _, Nat.zero_le _⟩ hS hA (fun r2 w3 H locs hw3 hP hS => ?_)
  obtain ⟨x4, rfl, hw3r⟩ := hw3
  have hP : PP G (xM G x xa ta a b ga ua la lb lc tg gg (upd xf 0 x4) tf f qf gf uf lf mf nf tr r q gr ur lr mr nr) H := hP
  have hw3r : ((r2 = 1 ∧ ((r1 : Int32) = 0)) ∨ (r2 = 0 ∧ ¬ ((r1 : Int32) = 0))) := hw3r
  refine lv_if_ne (tgt := 14) hx hb dX6_round_9 (by decide) (fun c5 => ?_) (fun c5 => ?_)
  · have b9 := bT hw3r c5
    obtain ⟨ej, ho⟩ := st0 hr1 b9
    subst ej
    obtain ⟨rw, hrw, t1⟩ := hT1
    obtain ⟨cl, hcl, t2⟩ := hT2
    obtain ⟨bk, hbk, t3⟩ := hT3
    have hT1 : nL 12 (tf 1) := ⟨rw, hrw, t1⟩
    have hT2 : nL 12 (tf 2) := ⟨cl, hcl, t2⟩
    have hT3 : nL 12 (tf 3) := ⟨bk, hbk, t3⟩
    refine lv_iload_n hx hb dX6_round_14 rfl (lv_at hl 2 rfl) ?_
    refine lv_iconst (v := 2) hx hb dX6_round_15 (by decide) ?_
    refine lv_icmp_lt (tgt := 26) hx hb dX6_round_16 (by decide) (fun c6 => ?_) (fun c6 => ?_)
    · refine lv_aload_n hx hb dX6_round_26 rfl (lv_at hl 0 rfl) ?_
      refine lv_bipush (v := 7) hx hb dX6_round_27 (by decide) ?_
      refine wrVIa (rest := []) (q0 := 0) ⟨hx, hb, hml, hown, hts⟩ (x_refused l G x xa ta a b ga ua la lb lc tg gg (upd xf 0 x4) tf f qf gf uf lf mf nf tr r q gr ur lr mr nr 7  ) mi_yX6_refused mv_yX6_refused ml_X6_122 ⟨rfl, rfl, Nat.le_of_ble_eq_true rfl, Nat.le_of_ble_eq_true rfl⟩ hK hP (hDD _ _ _ _ _ _ _ _ _ _ _ _ _ _ _ _ _) rfl rfl rfl hl.1 rfl (Nat.le_of_ble_eq_true rfl) dX6_round_29 ⟨Nat.zero_le _, Nat.zero_le _⟩ hS hA (fun r7 w8 H locs hw8 hP hS => ?_)
      obtain ⟨x9, rfl, hw8r⟩ := hw8
      have hP : PP G (xM G x xa ta a b ga ua la lb lc tg gg (upd xf 0 x9) tf f qf gf uf lf mf nf tr r q gr ur lr mr nr) H := hP
      obtain rfl := hw8r
      exact wr_iret hx hb hr hlocks hS hP ⟨(f 0), (f 1), (f 2), (f 3), (f 4), (mf 0), (mf 1), (mr 2), (r 6), (r 7), (r 8), (r 9), (r 10), (r 11), (r 12), (r 13), (r 14), (uf 3), (ur 1), (ur 2), (ur 3), (ur 4), (ur 5), (ur 6), (ur 7), (ur 20), (ur 21), (ur 22), x9, rfl, (Or.inl ⟨fun z9 => z9.2.1 c6, rfl, rfl, rfl, rfl⟩), hM0, hM1⟩ dX6_round_32
    · refine lv_iload_n hx hb dX6_round_19 rfl (lv_at hl 2 rfl) ?_
      refine lv_sipush (v := 1000) hx hb dX6_round_20 (by decide) ?_
      refine lv_icmp_le (tgt := 33) hx hb dX6_round_23 (by decide) (fun c10 => ?_) (fun c10 => ?_)
      · obtain ⟨bs, hb1, hb9, ebs⟩ := bs_n c6 c10
        subst ebs
        refine lv_aload_n hx hb dX6_round_33 rfl (lv_at hl 0 rfl) ?_
        refine va_get (D := G.1) (ci := 6) (v := .ref (a 15)) (C := RX6) (T := TX6) (N := 10) hx hb hts inX6 hown hK.1 hP 0 rfl rfl 2 (by decide) (hts _ mf_X6_22) (fun _ h9 => h9) rfl dX6_round_34 ?_
        refine lv_aload_n hx hb dX6_round_37 rfl (lv_at hl 0 rfl) ?_
        refine va_get (D := G.1) (ci := 6) (v := .ref (xa 1)) (C := RX6) (T := TX6) (N := 10) hx hb hts inX6 hown hK.1 hP 0 rfl rfl 1 (by decide) (hts _ mf_X6_15) (fun _ h9 => h9) rfl dX6_round_38 ?_
        refine lv_iload_n hx hb dX6_round_41 rfl (lv_at hl 1 rfl) ?_
        refine xaldT hx hb hK hP 1 (j) (b := (ta 0)) rfl (by omega) (by decide) rfl (htg) dX6_round_42 ?_
        refine lawV (rest := []) (q0 := 0) ⟨hx, hb, hml, hown, hts⟩ (e_X2_load l G a b ta f tf r tr rw cl bk hrw hcl hbk t1 t2 t3) mi_yX2_load mv_yX2_load ml_X6_184 ⟨rfl, rfl, Nat.le_of_ble_eq_true rfl, Nat.le_of_ble_eq_true rfl⟩ hK hP (hDD _ _ _ _ _ _ _ _ _ _ _ _ _ _ _ _ _) (pl_perm (xBlk G x xa ta a b ga ua la lb lc tg gg (upd xf 0 x4) tf f qf gf uf lf mf nf tr r q gr ur lr mr nr) (sel := [2, 1]) (oth := [0, 3, 4, 5, 6, 7, 8, 9]) (by decide)) rfl rfl rfl hl.1 rfl (Nat.le_of_ble_eq_true rfl) dX6_round_43 ⟨Nat.zero_le _, Nat.zero_le _⟩ hS hA (fun w26 H locs hw26 hP hS => ?_)
        obtain ⟨x11, x12, x13, x14, x15, x16, x17, x18, x19, x20, x21, x22, x23, x24, rfl, h0, h1, h2, h3, h4, hLD⟩ := hw26
        have hP : PP G (xM G x xa ta a b ga ua la lb lc tg gg (upd xf 0 x4) tf (upd (upd (upd (upd (upd f 0 x11) 1 x12) 2 x13) 3 x14) 4 x15) qf gf uf lf mf nf tr (up2 (up2 (up2 (up2 (up2 (up2 (up2 (up2 (up2 r 6 x16) 7 x17) 8 x18) 9 x19) 10 x20) 11 x21) 12 x22) 13 x23) 14 x24) q gr ur lr mr nr) H := (hP rfl (xM G x xa ta a b ga ua la lb lc tg gg (upd xf 0 x4) tf (upd (upd (upd (upd (upd f 0 x11) 1 x12) 2 x13) 3 x14) 4 x15) qf gf uf lf mf nf tr (up2 (up2 (up2 (up2 (up2 (up2 (up2 (up2 (up2 r 6 x16) 7 x17) 8 x18) 9 x19) 10 x20) 11 x21) 12 x22) 13 x23) 14 x24) q gr ur lr mr nr) (pl_perm (xBlk G x xa ta a b ga ua la lb lc tg gg (upd xf 0 x4) tf (upd (upd (upd (upd (upd f 0 x11) 1 x12) 2 x13) 3 x14) 4 x15) qf gf uf lf mf nf tr (up2 (up2 (up2 (up2 (up2 (up2 (up2 (up2 (up2 r 6 x16) 7 x17) 8 x18) 9 x19) 10 x20) 11 x21) 12 x22) 13 x23) 14 x24) q gr ur lr mr nr) (sel := [2, 1]) (oth := [0, 3, 4, 5, 6, 7, 8, 9]) (by decide))).1
        obtain ⟨hNC1, dn, up, hdn, hup, e3, e4⟩ := hNC ho
        have hNR := hNC1 rw cl hrw hcl t1 t2
        have hLD : LDR rw cl bk (tr 4) (tr 5) (tr 6) (tr 7) (tr 8) (tr 9) (tr 10) (tr 11) x16 x17 x18 x19 x20 x21 x22 x23 x24 := hLD
        have h0 : x11 = nI rw := h0
        have h1 : x12 = nI cl := h1
        have h2 : x13 = nI dn := h2.trans e3
        have h3 : x14 = nI up := h3.trans e4
        have hRN := (LD_rv hLD hcl hNR).1
        have hRD := LD_rd hLD hrw hcl hbk hNR
        have hSC := LD_sc hLD
        have hSS : ∀ x y, x < rw → y < cl → ¬ x20 (x * 12 + y) = 0 → ¬ x16 x = 0 := fun x y h7 h8 h9 => (hSC x y h7 h8 h9).1
        have hcs := LD_cs hLD hbk
        have hRS : RSY x16 x17 x21 rw cl (NTc (tr 6)) (LTc (tr 5) (tr 6) cl) (HTc (tr 5) (tr 6) cl) x15 (q 0) := Or.inl h4
        have hNN : ∀ x y, x < rw → y < cl → ¬ x16 x = 0 → ∃ m, m ≤ 1000000 ∧ tr 6 (x * 12 + y) = nI m := fun x y h7 h8 h9 => hNR x y h7 h8 ((LD_so hLD h7).mp h9)
        refine lv_aload_n hx hb dX6_round_46 rfl (lv_at hl 0 rfl) ?_
        refine va_get (D := G.1) (ci := 6) (v := .ref (ua 0)) (C := RX6) (T := TX6) (N := 10) hx hb hts inX6 hown hK.1 hP 0 rfl rfl 4 (by decide) (hts _ mf_X6_36) (fun _ h9 => h9) rfl dX6_round_47 ?_
        refine lv_aload_n hx hb dX6_round_50 rfl (lv_at hl 0 rfl) ?_
        refine va_get (D := G.1) (ci := 6) (v := .ref (a 15)) (C := RX6) (T := TX6) (N := 10) hx hb hts inX6 hown hK.1 hP 0 rfl rfl 2 (by decide) (hts _ mf_X6_22) (fun _ h9 => h9) rfl dX6_round_51 ?_
        refine lv_iload_n hx hb dX6_round_54 rfl (lv_at hl 2 rfl) ?_
        refine lv_aload_n hx hb dX6_round_55 rfl (lv_at hl 0 rfl) ?_
        refine va_get (D := G.1) (ci := 6) (v := .ref (lb 0)) (C := RX6) (T := TX6) (N := 10) hx hb hts inX6 hown hK.1 hP 0 rfl rfl 6 (by decide) (hts _ mf_X6_47) (fun _ h9 => h9) rfl dX6_round_56 ?_
        refine lawI (rest := []) (q0 := 0) ⟨hx, hb, hml, hown, hts⟩ (r_X3_fill l G ua a b lb uf (upd (upd (upd (upd (upd f 0 x11) 1 x12) 2 x13) 3 x14) 4 x15) mf ur (up2 (up2 (up2 (up2 (up2 (up2 (up2 (up2 (up2 r 6 x16) 7 x17) 8 x18) 9 x19) 10 x20) 11 x21) 12 x22) 13 x23) 14 x24) mr bs rw cl (NTc (tr 6)) hrw hcl h0 h1 hb1 hb9 (LD_nn hLD hNR)) mi_yX3_fill mv_yX3_fill ml_X6_235 ⟨rfl, rfl, Nat.le_of_ble_eq_true rfl, Nat.le_of_ble_eq_true rfl⟩ hK hP (hDD _ _ _ _ _ _ _ _ _ _ _ _ _ _ _ _ _) (pl_perm (xBlk G x xa ta a b ga ua la lb lc tg gg (upd xf 0 x4) tf (upd (upd (upd (upd (upd f 0 x11) 1 x12) 2 x13) 3 x14) 4 x15) qf gf uf lf mf nf tr (up2 (up2 (up2 (up2 (up2 (up2 (up2 (up2 (up2 r 6 x16) 7 x17) 8 x18) 9 x19) 10 x20) 11 x21) 12 x22) 13 x23) 14 x24) q gr ur lr mr nr) (sel := [5, 2, 7]) (oth := [0, 1, 3, 4, 6, 8, 9]) (by decide)) rfl rfl rfl hl.1 rfl (Nat.le_of_ble_eq_true rfl) dX6_round_59 ⟨Nat.zero_le _, Nat.zero_le _⟩ hS hA (fun r41 w42 H locs hw42 hP hS => ?_)
        obtain ⟨x27, x28, x29, x30, x31, x32, x33, x34, x35, x36, x37, x38, x39, x40, ZZ, rfl, hq9, hl0, hl1, hsh, hrn⟩ := hw42
        have hP : PP G (xM G x xa ta a b ga ua la lb lc tg gg (upd xf 0 x4) tf (upd (upd (upd (upd (upd f 0 x11) 1 x12) 2 x13) 3 x14) 4 x15) qf gf (upd uf 3 x30) lf (upd (upd mf 0 x27) 1 x28) nf tr (up2 (up2 (up2 (up2 (up2 (up2 (up2 (up2 (up2 r 6 x16) 7 x17) 8 x18) 9 x19) 10 x20) 11 x21) 12 x22) 13 x23) 14 x24) q gr (up2 (up2 (up2 (up2 (up2 (up2 (up2 (up2 (up2 (up2 ur 1 x31) 2 x32) 3 x33) 4 x34) 5 x35) 6 x36) 7 x37) 20 x38) 21 x39) 22 x40) lr (up2 mr 2 x29) nr) H := (hP rfl (xM G x xa ta a b ga ua la lb lc tg gg (upd xf 0 x4) tf (upd (upd (upd (upd (upd f 0 x11) 1 x12) 2 x13) 3 x14) 4 x15) qf gf (upd uf 3 x30) lf (upd (upd mf 0 x27) 1 x28) nf tr (up2 (up2 (up2 (up2 (up2 (up2 (up2 (up2 (up2 r 6 x16) 7 x17) 8 x18) 9 x19) 10 x20) 11 x21) 12 x22) 13 x23) 14 x24) q gr (up2 (up2 (up2 (up2 (up2 (up2 (up2 (up2 (up2 (up2 ur 1 x31) 2 x32) 3 x33) 4 x34) 5 x35) 6 x36) 7 x37) 20 x38) 21 x39) 22 x40) lr (up2 mr 2 x29) nr) (pl_perm (xBlk G x xa ta a b ga ua la lb lc tg gg (upd xf 0 x4) tf (upd (upd (upd (upd (upd f 0 x11) 1 x12) 2 x13) 3 x14) 4 x15) qf gf (upd uf 3 x30) lf (upd (upd mf 0 x27) 1 x28) nf tr (up2 (up2 (up2 (up2 (up2 (up2 (up2 (up2 (up2 r 6 x16) 7 x17) 8 x18) 9 x19) 10 x20) 11 x21) 12 x22) 13 x23) 14 x24) q gr (up2 (up2 (up2 (up2 (up2 (up2 (up2 (up2 (up2 (up2 ur 1 x31) 2 x32) 3 x33) 4 x34) 5 x35) 6 x36) 7 x37) 20 x38) 21 x39) 22 x40) lr (up2 mr 2 x29) nr) (sel := [5, 2, 7]) (oth := [0, 1, 3, 4, 6, 8, 9]) (by decide))).1
        have hM0 : nL 12 x27 := ⟨rw, hrw, hl0⟩
        have hM1 : nL 12 x28 := ⟨cl, hcl, hl1⟩
        exact wr_iret hx hb hr hlocks hS hP ⟨x11, x12, x13, x14, x15, x27, x28, x29, x16, x17, x18, x19, x20, x21, x22, x23, x24, x30, x31, x32, x33, x34, x35, x36, x37, x38, x39, x40, x4, rfl, (Or.inr ⟨⟨rfl, ho⟩, bs, hb1, hb9, rfl, ⟨rw, cl, bk, dn, up, x16, x17, x18, x19, x20, x21, x22, x23, x24, hrw, hcl, hbk, t1, t2, t3, e3, e4, hdn, hup, hNR, hLD, ZZ, hrn, hq9, hl0, hl1, hsh⟩⟩), hM0, hM1⟩ dX6_round_62
      · refine lv_aload_n hx hb dX6_round_26 rfl (lv_at hl 0 rfl) ?_
        refine lv_bipush (v := 7) hx hb dX6_round_27 (by decide) ?_
        refine wrVIa (rest := []) (q0 := 0) ⟨hx, hb, hml, hown, hts⟩ (x_refused l G x xa ta a b ga ua la lb lc tg gg (upd xf 0 x4) tf f qf gf uf lf mf nf tr r q gr ur lr mr nr 7  ) mi_yX6_refused mv_yX6_refused ml_X6_122 ⟨rfl, rfl, Nat.le_of_ble_eq_true rfl, Nat.le_of_ble_eq_true rfl⟩ hK hP (hDD _ _ _ _ _ _ _ _ _ _ _ _ _ _ _ _ _) rfl rfl rfl hl.1 rfl (Nat.le_of_ble_eq_true rfl) dX6_round_29 ⟨Nat.zero_le _, Nat.zero_le _⟩ hS hA (fun r43 w44 H locs hw44 hP hS => ?_)
        obtain ⟨x45, rfl, hw44r⟩ := hw44
        have hP : PP G (xM G x xa ta a b ga ua la lb lc tg gg (upd xf 0 x45) tf f qf gf uf lf mf nf tr r q gr ur lr mr nr) H := hP
        obtain rfl := hw44r
        exact wr_iret hx hb hr hlocks hS hP ⟨(f 0), (f 1), (f 2), (f 3), (f 4), (mf 0), (mf 1), (mr 2), (r 6), (r 7), (r 8), (r 9), (r 10), (r 11), (r 12), (r 13), (r 14), (uf 3), (ur 1), (ur 2), (ur 3), (ur 4), (ur 5), (ur 6), (ur 7), (ur 20), (ur 21), (ur 22), x45, rfl, (Or.inl ⟨fun z9 => c10 z9.2.2, rfl, rfl, rfl, rfl⟩), hM0, hM1⟩ dX6_round_32
  · have b9 := bF hw3r c5
    refine lv_iconst (v := -1) hx hb dX6_round_12 (by decide) ?_
    exact wr_iret hx hb hr hlocks hS hP ⟨(f 0), (f 1), (f 2), (f 3), (f 4), (mf 0), (mf 1), (mr 2), (r 6), (r 7), (r 8), (r 9), (r 10), (r 11), (r 12), (r 13), (r 14), (uf 3), (ur 1), (ur 2), (ur 3), (ur 4), (ur 5), (ur 6), (ur 7), (ur 20), (ur 21), (ur 22), x4, rfl, (Or.inl ⟨fun z9 => st1 hr1 b9 z9.1, rfl, rfl, rfl, rfl⟩), hM0, hM1⟩ dX6_round_13
set_option maxHeartbeats 4000000 in
set_option maxRecDepth 100000 in
theorem y_roundedR (l : Launch) (G : GG) (x : Nat) (xa ta a b ga ua la lb lc : Nat → Nat) (tg gg : Nat → Option Nat) (xf tf f qf gf uf lf mf nf : Nat → Int32) (tr r q gr ur lr mr nr : Nat → Nat → Int32) (row : Int32) (col : Int32) (hM0 : nL 12 (mf 0)) (hM1 : nL 12 (mf 1)) : RdI l yX6_rounded cX6_rounded 3 (some .int) ({ frames := 2, cells := 0, slots := 0, locals := 44 }) G (xM G x xa ta a b ga ua la lb lc tg gg xf tf f qf gf uf lf mf nf tr r q gr ur lr mr nr) [.ref x, .int row, .int col] (fun qz => (rtX (mf 0) (mf 1) (mr 2) row col qz)) := by
  refine rd_entry (by decide +kernel) (Nat.le_of_ble_eq_true rfl) ?_
  intro p e s m below meth c C0 hP hK ls hl
  have hS : va_S (fun q => s.heap.size ≤ q) s.heap s.heap [] := va_S.rf
  have hA : ∀ q, s.heap.size ≤ q → (fun q => s.heap.size ≤ q) q := fun _ h => h
  obtain ⟨hx, hb, hml, hown, hts, hr, hlocks, hin⟩ := C0
  have hown : s.vm.findClass RX6 = some m.cls := hown
  have hl : lv_has ls 3 [(0, .ref x), (1, .int row), (2, .int col)] := hl
  refine lv_aload_n hx hb dX6_rounded_0 rfl (lv_at hl 0 rfl) ?_
  refine va_get (D := G.1) (ci := 6) (v := .ref (lb 0)) (C := RX6) (T := TX6) (N := 10) hx hb hts inX6 hown hK.1 hP 0 rfl rfl 6 (by decide) (hts _ mf_X6_47) (fun _ h9 => h9) rfl dX6_rounded_1 ?_
  refine lv_iload_n hx hb dX6_rounded_4 rfl (lv_at hl 1 rfl) ?_
  refine lv_iload_n hx hb dX6_rounded_5 rfl (lv_at hl 2 rfl) ?_
  obtain ⟨k0, hk0, ek0⟩ := hM0
  obtain ⟨k1, hk1, ek1⟩ := hM1
  have hM0 : nL 12 (mf 0) := ⟨k0, hk0, ek0⟩
  have hM1 : nL 12 (mf 1) := ⟨k1, hk1, ek1⟩
  refine rdV (rest := []) (q0 := 0) ⟨hx, hb, hml, hown, hts⟩ (c_X1_at l G lb (mr 2) k0 k1 hk0 hk1 row col) mi_yX1_at mv_yX1_at ml_X6_206 ⟨rfl, rfl, Nat.le_of_ble_eq_true rfl, Nat.le_of_ble_eq_true rfl⟩ hK (leaf_w (blk_sub (ws' := lW G lb (mf 0) (mf 1) (mr 2)) (xBlk G x xa ta a b ga ua la lb lc tg gg xf tf f qf gf uf lf mf nf tr r q gr ur lr mr nr) (i := 7) hP rfl (by decide)) ek0 ek1) rfl rfl rfl hl.1 rfl (Nat.le_of_ble_eq_true rfl) dX6_rounded_6 ⟨Nat.zero_le _, Nat.zero_le _⟩ hS hA hP (fun r1 H locs hr1 hP hS => ?_)
  exact rd_iret hx hb hr hlocks hS ((rt_at hk0 hk1 ek0 ek1 hr1)) dX6_rounded_9
