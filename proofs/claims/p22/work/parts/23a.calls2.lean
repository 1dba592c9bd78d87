
section LC
variable {p : Program} {l : Launch} {e : Env} {R : Room} {s : State} {m : MethodId} {args : Array Value} {below : List Frame} {meth : Method} {c : Code} {H : Heap} {locs : List Loc} {cells slots : Nat} {Q : State → Prop}
variable {cc bytes : ByteArray} {pc nL_ maxL n index : Nat} {ls : Array Slot} {rest st0 As : List Value} {A0 : Nat → Prop} {y : MethodName} {ret : Option FieldType} {rm : Room} {G : GG} {wa wc wr : va_W} {own : String} {b : Nat} {postW : Int32 → va_W → Prop} {postV : va_W → Prop}
theorem law_join {w : va_W} {H1 : Heap} (hP : PP G (wc ++ wr) H) (hD : va_D A0 (wc ++ wr)) (hk : ∀ q : Nat, q < H.size → ¬ va_A wc H.size q → H1[q]? = H[q]?) (hB : PP G w H1) (ha : w.map Prod.fst = wc.map Prod.fst) : ∀ wa' : va_W, wa'.Perm (w ++ wr) → PP G wa' H1 ∧ va_D A0 wa' := by
  intro wa' hp
  have h1 : PP G (w ++ wr) H1 := by
    refine P_mem.mpr (fun q hq => ?_)
    rcases List.mem_append.mp hq with h | h
    · exact P_mem.mp hB q h
    · have hat := P_mem.mp hP q (List.mem_append_right _ h)
      refine hat.kept (hk q.1 hat.lt (fun c => ?_))
      rcases va_A_iff.mp c with ⟨z, hz, he⟩ | c
      · exact D_ne hD hz h he
      · have := hat.lt; omega
  have h2 : va_D A0 (w ++ wr) := D_same hD (by rw [List.map_append, List.map_append, ha])
  exact ⟨P_sub h1 (fun q h => hp.mem_iff.mp h), D_perm h2 hp.symm⟩
theorem lawI {ci N q0 : Nat} {T : u_T} {fs : List Value} (S : CallFix p m c cc nL_ s args TB own) (hM : WrI l y bytes maxL ret rm G wc (.ref b :: As) postW) (mi : MI y bytes maxL ret n) (hv : Cond.instanceMethod y ∈ TB ∧ Cond.selects y.cls y y ∈ TB) (hlk : Cond.methodLink own index y ∈ TB) (hR : RmOk R rm maxL 0 0) (hK : KK G s)
    (hP : PP G wa H) (hD : va_D A0 wa) (hp : wa.Perm (wc ++ wr))
    (he : wc[q0]? = some (b, .inr (ci, fs))) (hc : vwCl[ci]? = some (y.cls, T, N)) (hn : As.length = n) (hsize : ls.size = nL_) (hst : st0 = As.reverse ++ .ref b :: rest) (hW : (rest.map fun v => v.category).sum ≤ 8) (hdg : decode cc pc = .ok (.invokevirtual index, 3)) (hcs : cells ≤ R.cells ∧ slots ≤ R.slots)
    (hS : va_S A0 s.heap H locs) (hA : ∀ q, s.heap.size ≤ q → A0 q)
    (kk : ∀ (r : Int32) (w : va_W) (H1 : Heap) (locs1 : List Loc), postW r w → (w.map Prod.fst = wc.map Prod.fst → ∀ wa' : va_W, wa'.Perm (w ++ wr) → PP G wa' H1 ∧ va_D A0 wa') → va_S A0 s.heap H1 locs1 → W p l e R s m args below meth c H1 locs1 cells slots Q (F0 m (pc + 3) ls (.int r :: rest))) : W p l e R s m args below meth c H locs cells slots Q (F0 m pc ls st0) := by
  subst hst
  obtain ⟨hx, hb, hml, hown, hts⟩ := id S
  have hP2 : PP G (wc ++ wr) H := P_sub hP (fun q h => hp.mem_iff.mpr h)
  have hD2 : va_D A0 (wc ++ wr) := D_perm hD hp
  have hPc : PP G wc H := P_sub hP2 (fun q h => List.mem_append_left _ h)
  have hDc : va_D A0 wc := D_left hD2
  have hF := free_all hDc hS hA
  refine va_calli (va_runV (As := As) (rest := rest) S (hM H.size) ⟨mi_callB hts mi hlk hR, hts _ hv.1, hts _ hv.2⟩ ⟨Wr_blind, va_recv hK.1 hPc hc he, fun U hU hW => ⟨rfl, by rw [hU], by rw [hU]; exact hPc, hK.warm hW, hDc.weaken (fun _ _ _ _ => trivial)⟩⟩ rfl hn hsize rfl (lv_room hW) hdg hcs) hS (fun q _ h => hF q h) hF (fun r w t H1 locs1 ht _ hp hB _ hk1 hS1 => ?_)
  rw [ht] at hB
  exact kk r w H1 locs1 hp (fun ha => law_join hP2 hD2 hk1 hB ha) hS1
theorem lawIs {ci N q0 : Nat} {T : u_T} {fs : List Value} (S : CallFix p m c cc nL_ s args TB own) (hM : WrIs l y bytes maxL ret rm G wc (.ref b :: As) postW) (mi : MI y bytes maxL ret n) (hv : Cond.instanceMethod y ∈ TB ∧ Cond.selects y.cls y y ∈ TB) (hlk : Cond.methodLink own index y ∈ TB) (hR : RmOk R rm maxL 0 0) (hK : KK G s) (hT : ST A0 s s.heap)
    (hP : PP G wa H) (hD : va_D A0 wa) (hp : wa.Perm (wc ++ wr))
    (he : wc[q0]? = some (b, .inr (ci, fs))) (hc : vwCl[ci]? = some (y.cls, T, N)) (hn : As.length = n) (hsize : ls.size = nL_) (hst : st0 = As.reverse ++ .ref b :: rest) (hW : (rest.map fun v => v.category).sum ≤ 8) (hdg : decode cc pc = .ok (.invokevirtual index, 3)) (hcs : cells ≤ R.cells ∧ slots ≤ R.slots)
    (hS : va_S A0 s.heap H locs) (hA : ∀ q, s.heap.size ≤ q → A0 q)
    (kk : ∀ (r : Int32) (w : va_W) (H1 : Heap) (locs1 : List Loc), postW r w → (w.map Prod.fst = wc.map Prod.fst → ∀ wa' : va_W, wa'.Perm (w ++ wr) → PP G wa' H1 ∧ va_D A0 wa') → va_S A0 s.heap H1 locs1 → W p l e R s m args below meth c H1 locs1 cells slots Q (F0 m (pc + 3) ls (.int r :: rest))) : W p l e R s m args below meth c H locs cells slots Q (F0 m pc ls st0) := by
  subst hst
  obtain ⟨hx, hb, hml, hown, hts⟩ := id S
  have hP2 : PP G (wc ++ wr) H := P_sub hP (fun q h => hp.mem_iff.mpr h)
  have hD2 : va_D A0 (wc ++ wr) := D_perm hD hp
  have hPc : PP G wc H := P_sub hP2 (fun q h => List.mem_append_left _ h)
  have hDc : va_D A0 wc := D_left hD2
  have hF := free_all hDc hS hA
  have hTc : ST (va_A wc H.size) s H := (hT.kept hS.2.1).narrow hF
  refine va_calli (va_runV (As := As) (rest := rest) S (hM H.size) ⟨mi_callB hts mi hlk hR, hts _ hv.1, hts _ hv.2⟩ ⟨Ws_blind, va_recv hK.1 hPc hc he, fun U hU hW => ⟨rfl, ⟨by rw [hU], by rw [hU]; exact hPc, hK.warm hW, hDc.weaken (fun _ _ _ _ => trivial)⟩, by rw [hU]; exact hTc.moved hW.alike⟩⟩ rfl hn hsize rfl (lv_room hW) hdg hcs) hS (fun q _ h => hF q h) hF (fun r w t H1 locs1 ht _ hp hB _ hk1 hS1 => ?_)
  rw [ht] at hB
  exact kk r w H1 locs1 hp (fun ha => law_join hP2 hD2 hk1 hB ha) hS1
theorem lawV {ci N q0 : Nat} {T : u_T} {fs : List Value} (S : CallFix p m c cc nL_ s args TB own) (hM : WrV l y bytes maxL rm G wc (.ref b :: As) postV) (mi : MI y bytes maxL none n) (hv : Cond.instanceMethod y ∈ TB ∧ Cond.selects y.cls y y ∈ TB) (hlk : Cond.methodLink own index y ∈ TB) (hR : RmOk R rm maxL 0 0) (hK : KK G s)
    (hP : PP G wa H) (hD : va_D A0 wa) (hp : wa.Perm (wc ++ wr))
    (he : wc[q0]? = some (b, .inr (ci, fs))) (hc : vwCl[ci]? = some (y.cls, T, N)) (hn : As.length = n) (hsize : ls.size = nL_) (hst : st0 = As.reverse ++ .ref b :: rest) (hW : (rest.map fun v => v.category).sum ≤ 8) (hdg : decode cc pc = .ok (.invokevirtual index, 3)) (hcs : cells ≤ R.cells ∧ slots ≤ R.slots)
    (hS : va_S A0 s.heap H locs) (hA : ∀ q, s.heap.size ≤ q → A0 q)
    (kk : ∀ (w : va_W) (H1 : Heap) (locs1 : List Loc), postV w → (w.map Prod.fst = wc.map Prod.fst → ∀ wa' : va_W, wa'.Perm (w ++ wr) → PP G wa' H1 ∧ va_D A0 wa') → va_S A0 s.heap H1 locs1 → W p l e R s m args below meth c H1 locs1 cells slots Q (F0 m (pc + 3) ls rest)) : W p l e R s m args below meth c H locs cells slots Q (F0 m pc ls st0) := by
  subst hst
  obtain ⟨hx, hb, hml, hown, hts⟩ := id S
  have hP2 : PP G (wc ++ wr) H := P_sub hP (fun q h => hp.mem_iff.mpr h)
  have hD2 : va_D A0 (wc ++ wr) := D_perm hD hp
  have hPc : PP G wc H := P_sub hP2 (fun q h => List.mem_append_left _ h)
  have hDc : va_D A0 wc := D_left hD2
  have hF := free_all hDc hS hA
  refine va_callv (va_runV (As := As) (rest := rest) S (hM H.size) ⟨mi_callB hts mi hlk hR, hts _ hv.1, hts _ hv.2⟩ ⟨Wr_blind, va_recv hK.1 hPc hc he, fun U hU hW => ⟨rfl, by rw [hU], by rw [hU]; exact hPc, hK.warm hW, hDc.weaken (fun _ _ _ _ => trivial)⟩⟩ rfl hn hsize rfl (lv_room hW) hdg hcs) hS (fun q _ h => hF q h) hF (fun w t H1 locs1 ht _ hp hB _ hk1 hS1 => ?_)
  rw [ht] at hB
  exact kk w H1 locs1 hp (fun ha => law_join hP2 hD2 hk1 hB ha) hS1
theorem lawVs {ci N q0 : Nat} {T : u_T} {fs : List Value} (S : CallFix p m c cc nL_ s args TB own) (hM : WrVs l y bytes maxL rm G wc (.ref b :: As) postV) (mi : MI y bytes maxL none n) (hv : Cond.instanceMethod y ∈ TB ∧ Cond.selects y.cls y y ∈ TB) (hlk : Cond.methodLink own index y ∈ TB) (hR : RmOk R rm maxL 0 0) (hK : KK G s) (hT : ST A0 s s.heap)
    (hP : PP G wa H) (hD : va_D A0 wa) (hp : wa.Perm (wc ++ wr))
    (he : wc[q0]? = some (b, .inr (ci, fs))) (hc : vwCl[ci]? = some (y.cls, T, N)) (hn : As.length = n) (hsize : ls.size = nL_) (hst : st0 = As.reverse ++ .ref b :: rest) (hW : (rest.map fun v => v.category).sum ≤ 8) (hdg : decode cc pc = .ok (.invokevirtual index, 3)) (hcs : cells ≤ R.cells ∧ slots ≤ R.slots)
    (hS : va_S A0 s.heap H locs) (hA : ∀ q, s.heap.size ≤ q → A0 q)
    (kk : ∀ (w : va_W) (H1 : Heap) (locs1 : List Loc), postV w → (w.map Prod.fst = wc.map Prod.fst → ∀ wa' : va_W, wa'.Perm (w ++ wr) → PP G wa' H1 ∧ va_D A0 wa') → va_S A0 s.heap H1 locs1 → W p l e R s m args below meth c H1 locs1 cells slots Q (F0 m (pc + 3) ls rest)) : W p l e R s m args below meth c H locs cells slots Q (F0 m pc ls st0) := by
  subst hst
  obtain ⟨hx, hb, hml, hown, hts⟩ := id S
  have hP2 : PP G (wc ++ wr) H := P_sub hP (fun q h => hp.mem_iff.mpr h)
  have hD2 : va_D A0 (wc ++ wr) := D_perm hD hp
  have hPc : PP G wc H := P_sub hP2 (fun q h => List.mem_append_left _ h)
  have hDc : va_D A0 wc := D_left hD2
  have hF := free_all hDc hS hA
  have hTc : ST (va_A wc H.size) s H := (hT.kept hS.2.1).narrow hF
  refine va_callv (va_runV (As := As) (rest := rest) S (hM H.size) ⟨mi_callB hts mi hlk hR, hts _ hv.1, hts _ hv.2⟩ ⟨Ws_blind, va_recv hK.1 hPc hc he, fun U hU hW => ⟨rfl, ⟨by rw [hU], by rw [hU]; exact hPc, hK.warm hW, hDc.weaken (fun _ _ _ _ => trivial)⟩, by rw [hU]; exact hTc.moved hW.alike⟩⟩ rfl hn hsize rfl (lv_room hW) hdg hcs) hS (fun q _ h => hF q h) hF (fun w t H1 locs1 ht _ hp hB _ hk1 hS1 => ?_)
  rw [ht] at hB
  exact kk w H1 locs1 hp (fun ha => law_join hP2 hD2 hk1 hB ha) hS1
end LC

set_option maxHeartbeats 4000000 in
set_option maxRecDepth 100000 in
theorem e_X4_put (l : Launch) (G : GG) (a : Nat → Nat) (f : Nat → Int32) (r : Nat → Nat → Int32) (sp : Nat) (kd : Int32) (nu : Int32) (hsp : sp < 144) : WrV l yX4_put cX4_put 5 ({ frames := 0, cells := 0, slots := 0, locals := 0 }) G (tW G a f r) [.ref (a 0), .int (nI sp), .int kd, .int nu] (fun w => ∃ (n_r_5 : Nat → Int32) (n_r_6 : Nat → Int32) (n_r_7 : Nat → Int32) (n_r_8 : Nat → Int32), w = tW G a f (up2 (up2 (up2 (up2 r 5 n_r_5) 6 n_r_6) 7 n_r_7) 8 n_r_8) ∧ (n_r_5 = upd (r 5) sp kd) ∧ (n_r_6 = upd (r 6) sp nu) ∧ (n_r_7 = upd (r 7) sp 0) ∧ (n_r_8 = rgF (r 8) 0 (sp * 6) 6)) := by
  refine wr_entryV (by decide +kernel) (Nat.le_of_ble_eq_true rfl) ?_
  intro p e s m below meth c A C0 hP hK hD hA ls hl
  have hS : va_S A s.heap s.heap [] := va_S.rf
  obtain ⟨hx, hb, hml, hown, hts, hr, hlocks, hin⟩ := C0
  have hown : s.vm.findClass RX4 = some m.cls := hown
  have hDD : ∀ f' r', va_D A (tW G a f' r') := fun f' r' => D_same hD rfl
  have hl : lv_has ls 5 [(0, .ref (a 0)), (1, .int (nI sp)), (2, .int kd), (3, .int nu)] := hl
  refine lv_aload_n hx hb dX4_put_0 rfl (lv_at hl 0 rfl) ?_
  refine va_get (D := G.1) (ci := 4) (v := .ref (a 5)) (C := RX4) (T := TX4) (N := 12) hx hb hts inX4 hown hK.1 hP 0 rfl rfl 5 (by decide) (hts _ mf_X4_29) (fun _ h9 => h9) rfl dX4_put_1 ?_
  refine lv_iload_n hx hb dX4_put_4 rfl (lv_at hl 1 rfl) ?_
  refine lv_iload_n hx hb dX4_put_5 rfl (lv_at hl 2 rfl) ?_
  refine xiast (f := (r 5)) (x := kd) hx hb hK hP (hDD _ _) hS 2 (sp) (rfl) (by omega) (by decide) rfl dX4_put_6 (fun H locs hP _ hS => ?_)
  have hP : PP G (tW G a f (up2 r 5 (upd (r 5) (sp) (kd)))) H := hP
  refine lv_aload_n hx hb dX4_put_7 rfl (lv_at hl 0 rfl) ?_
  refine va_get (D := G.1) (ci := 4) (v := .ref (a 6)) (C := RX4) (T := TX4) (N := 12) hx hb hts inX4 hown hK.1 hP 0 rfl rfl 6 (by decide) (hts _ mf_X4_32) (fun _ h9 => h9) rfl dX4_put_8 ?_
  refine lv_iload_n hx hb dX4_put_11 rfl (lv_at hl 1 rfl) ?_
  refine lv_iload_n hx hb dX4_put_12 rfl (lv_at hl 3 rfl) ?_
  refine xiast (f := (r 6)) (x := nu) hx hb hK hP (hDD _ _) hS 3 (sp) (rfl) (by omega) (by decide) rfl dX4_put_13 (fun H locs hP _ hS => ?_)
  have hP : PP G (tW G a f (up2 (up2 r 5 (upd (r 5) (sp) (kd))) 6 (upd (r 6) (sp) (nu)))) H := hP
  refine lv_aload_n hx hb dX4_put_14 rfl (lv_at hl 0 rfl) ?_
  refine va_get (D := G.1) (ci := 4) (v := .ref (a 7)) (C := RX4) (T := TX4) (N := 12) hx hb hts inX4 hown hK.1 hP 0 rfl rfl 7 (by decide) (hts _ mf_X4_35) (fun _ h9 => h9) rfl dX4_put_15 ?_
  refine lv_iload_n hx hb dX4_put_18 rfl (lv_at hl 1 rfl) ?_
  refine lv_iconst (v := 0) hx hb dX4_put_19 (by decide) ?_
  refine xiast (f := (r 7)) (x := 0) hx hb hK hP (hDD _ _) hS 4 (sp) (rfl) (by omega) (by decide) rfl dX4_put_20 (fun H locs hP _ hS => ?_)
  have hP : PP G (tW G a f (up2 (up2 (up2 r 5 (upd (r 5) (sp) (kd))) 6 (upd (r 6) (sp) (nu))) 7 (upd (r 7) (sp) (0)))) H := hP
  refine lv_iconst (v := 0) hx hb dX4_put_21 (by decide) ?_
  refine lv_istore (lv' := [(4, .int 0), (0, .ref (a 0)), (1, .int (nI sp)), (2, .int kd), (3, .int nu)]) hx hb dX4_put_22 hl (by decide) rfl (fun ls hl => ?_)
  have loop24 : ∀ (k1 i : Nat) (x2 : Nat → Int32), i ≤ 6 → 6 < i + k1 → (x2 = rgF (r 8) 0 (sp * 6) i) → ∀ (H : Heap) (locs : List Loc) (ls : Array Slot), PP G (tW G a f (up2 (up2 (up2 (up2 r 5 (upd (r 5) (sp) (kd))) 6 (upd (r 6) (sp) (nu))) 7 (upd (r 7) (sp) (0))) 8 x2)) H → va_S A s.heap H locs → lv_has ls 5 [(4, .int (nI i)), (0, .ref (a 0)), (1, .int (nI sp))] → W p l e ({ frames := 0, cells := 0, slots := 0, locals := 0 }) s m ([.ref (a 0), .int (nI sp), .int kd, .int nu] : List Value).toArray below meth c H locs 0 0 (MQ below (QwV G (fun w => ∃ (n_r_5 : Nat → Int32) (n_r_6 : Nat → Int32) (n_r_7 : Nat → Int32) (n_r_8 : Nat → Int32), w = tW G a f (up2 (up2 (up2 (up2 r 5 n_r_5) 6 n_r_6) 7 n_r_7) 8 n_r_8) ∧ (n_r_5 = upd (r 5) sp kd) ∧ (n_r_6 = upd (r 6) sp nu) ∧ (n_r_7 = upd (r 7) sp 0) ∧ (n_r_8 = rgF (r 8) 0 (sp * 6) 6)) A) ([.ref (a 0), .int (nI sp), .int kd, .int nu] : List Value).toArray s 0 0 A) (F0 m 24 ls []) := by
    intro k1
    induction k1 with
    | zero => intro i x2 h1 h2; exact absurd h1 (by omega)
    | succ k1 ih24k1 =>
      intro i x2 hi_i hk_i h8 H locs ls hP hS hl
      refine lv_iload hx hb dX4_put_24 (lv_at hl 0 rfl) ?_
      refine lv_bipush (v := 6) hx hb dX4_put_26 (by decide) ?_
      refine lv_icmp_ge (tgt := 50) hx hb dX4_put_28 (by decide) (fun c3 => ?_) (fun c3 => ?_)
      · have b28 := qge_t (a := i) (b := 6) (by omega) (by omega) c3
        exact wr_vret hx hb hr hlocks hS hP ⟨(upd (r 5) (sp) (kd)), (upd (r 6) (sp) (nu)), (upd (r 7) (sp) (0)), x2, rfl, rfl, rfl, rfl, (h8.trans (by rw [show i = 6 by omega]))⟩ dX4_put_50
      · have b28 := qge_f (a := i) (b := 6) (by omega) (by omega) c3
        refine lv_aload_n hx hb dX4_put_31 rfl (lv_at hl 1 rfl) ?_
        refine va_get (D := G.1) (ci := 4) (v := .ref (a 8)) (C := RX4) (T := TX4) (N := 12) hx hb hts inX4 hown hK.1 hP 0 rfl rfl 8 (by decide) (hts _ mf_X4_38) (fun _ h9 => h9) rfl dX4_put_32 ?_
        refine lv_iload_n hx hb dX4_put_35 rfl (lv_at hl 2 rfl) ?_
        refine lv_bipush (v := 6) hx hb dX4_put_36 (by decide) ?_
        refine lv_imul hx hb dX4_put_38 ?_
        refine lv_topi (fun v4 ev4 => ?_)
        obtain rfl : v4 = nI (sp * 6) := nI_times ev4 rfl rfl
        refine lv_iload hx hb dX4_put_39 (lv_at hl 0 rfl) ?_
        refine lv_iadd hx hb dX4_put_41 ?_
        refine lv_topi (fun v5 ev5 => ?_)
        obtain rfl : v5 = nI ((sp * 6) + i) := nI_plus ev5 rfl rfl
        refine lv_iconst (v := 0) hx hb dX4_put_42 (by decide) ?_
        refine xiast (f := x2) (x := 0) hx hb hK hP (hDD _ _) hS 5 (((sp * 6) + i)) (rfl) (by omega) (by decide) rfl dX4_put_43 (fun H locs hP _ hS => ?_)
        have hP : PP G (tW G a f (up2 (up2 (up2 (up2 r 5 (upd (r 5) (sp) (kd))) 6 (upd (r 6) (sp) (nu))) 7 (upd (r 7) (sp) (0))) 8 (upd x2 (((sp * 6) + i)) (0)))) H := hP
        obtain ⟨v6, ev6⟩ : ∃ y9 : Int32, y9 = (nI i) + Int32.ofInt (1) := ⟨_, rfl⟩
        refine lv_iinc (v := v6) (lv' := [(4, .int v6), (0, .ref (a 0)), (1, .int (nI sp))]) hx hb dX4_put_44 hl (k := 0) rfl ev6.symm (by decide) rfl (fun ls hl => ?_)
        obtain rfl : v6 = nI (i + 1) := nI_plus (i := i) (j := 1) ev6 rfl (by decide)
        refine lv_goto (tgt := 24) hx hb dX4_put_47 (by decide) ?_
        exact ih24k1 (i + 1) (upd x2 (((sp * 6) + i)) (0)) (by omega) (by omega) (by rw [h8]; exact rgF_s _ _ _ _) _ _ _ hP hS (lv_sub hl [0, 1, 2] rfl)
  exact loop24 (6 + 1) 0 (r 8) (by omega) (by omega) ((rgF_0 _ _ _).symm) _ _ _ hP hS (lv_sub hl [0, 1, 2] rfl)
set_option maxHeartbeats 4000000 in
set_option maxRecDepth 100000 in
theorem e_X4_tell (l : Launch) (G : GG) (a : Nat → Nat) (f : Nat → Int32) (r : Nat → Nat → Int32) (sp : Nat) (wh : Int32) (on : Int32) (hsp : sp < 144) : WrV l yX4_tell cX4_tell 4 ({ frames := 0, cells := 0, slots := 0, locals := 0 }) G (tW G a f r) [.ref (a 0), .int (nI sp), .int wh, .int on] (fun w => ∃ (n_r_7 : Nat → Int32), w = tW G a f (up2 r 7 n_r_7) ∧ (n_r_7 = upd (r 7) sp (if on = 0 then (r 7) sp &&& (wh ^^^ (-1)) else (r 7) sp ||| wh))) := by
  refine wr_entryV (by decide +kernel) (Nat.le_of_ble_eq_true rfl) ?_
  intro p e s m below meth c A C0 hP hK hD hA ls hl
  have hS : va_S A s.heap s.heap [] := va_S.rf
  obtain ⟨hx, hb, hml, hown, hts, hr, hlocks, hin⟩ := C0
  have hown : s.vm.findClass RX4 = some m.cls := hown
  have hDD : ∀ f' r', va_D A (tW G a f' r') := fun f' r' => D_same hD rfl
  have hl : lv_has ls 4 [(0, .ref (a 0)), (1, .int (nI sp)), (2, .int wh), (3, .int on)] := hl
  refine lv_aload_n hx hb dX4_tell_0 rfl (lv_at hl 0 rfl) ?_
  refine va_get (D := G.1) (ci := 4) (v := .ref (a 7)) (C := RX4) (T := TX4) (N := 12) hx hb hts inX4 hown hK.1 hP 0 rfl rfl 7 (by decide) (hts _ mf_X4_35) (fun _ h9 => h9) rfl dX4_tell_1 ?_
  refine lv_iload_n hx hb dX4_tell_4 rfl (lv_at hl 1 rfl) ?_
  refine lv_iload_n hx hb dX4_tell_5 rfl (lv_at hl 3 rfl) ?_
  refine lv_if_eq (tgt := 20) hx hb dX4_tell_6 (by decide) (fun c1 => ?_) (fun c1 => ?_)
  · refine lv_aload_n hx hb dX4_tell_20 rfl (lv_at hl 0 rfl) ?_
    refine va_get (D := G.1) (ci := 4) (v := .ref (a 7)) (C := RX4) (T := TX4) (N := 12) hx hb hts inX4 hown hK.1 hP 0 rfl rfl 7 (by decide) (hts _ mf_X4_35) (fun _ h9 => h9) rfl dX4_tell_21 ?_
    refine lv_iload_n hx hb dX4_tell_24 rfl (lv_at hl 1 rfl) ?_
    refine xiald (f := (r 7)) hx hb hK hP 4 (sp) (rfl) (by omega) (by decide) rfl dX4_tell_25 ?_
    refine lv_topi (fun v2 ev2 => ?_)
    refine lv_iload_n hx hb dX4_tell_26 rfl (lv_at hl 2 rfl) ?_
    refine lv_iconst (v := -1) hx hb dX4_tell_27 (by decide) ?_
    refine lv_ixor hx hb dX4_tell_28 ?_
    refine lv_topi (fun v3 ev3 => ?_)
    refine lv_iand hx hb dX4_tell_29 ?_
    refine lv_topi (fun v4 ev4 => ?_)
    refine xiast (f := (r 7)) (x := v4) hx hb hK hP (hDD _ _) hS 4 (sp) (rfl) (by omega) (by decide) rfl dX4_tell_30 (fun H locs hP _ hS => ?_)
    have hP : PP G (tW G a f (up2 r 7 (upd (r 7) (sp) (v4)))) H := hP
    exact wr_vret hx hb hr hlocks hS hP ⟨(upd (r 7) (sp) (v4)), rfl, (by rw [if_pos c1]; simp only [*])⟩ dX4_tell_31
  · refine lv_aload_n hx hb dX4_tell_9 rfl (lv_at hl 0 rfl) ?_
    refine va_get (D := G.1) (ci := 4) (v := .ref (a 7)) (C := RX4) (T := TX4) (N := 12) hx hb hts inX4 hown hK.1 hP 0 rfl rfl 7 (by decide) (hts _ mf_X4_35) (fun _ h9 => h9) rfl dX4_tell_10 ?_
    refine lv_iload_n hx hb dX4_tell_13 rfl (lv_at hl 1 rfl) ?_
    refine xiald (f := (r 7)) hx hb hK hP 4 (sp) (rfl) (by omega) (by decide) rfl dX4_tell_14 ?_
    refine lv_topi (fun v5 ev5 => ?_)
    refine lv_iload_n hx hb dX4_tell_15 rfl (lv_at hl 2 rfl) ?_
    refine lv_ior hx hb dX4_tell_16 ?_
    refine lv_topi (fun v6 ev6 => ?_)
    refine lv_goto (tgt := 30) hx hb dX4_tell_17 (by decide) ?_
    refine xiast (f := (r 7)) (x := v6) hx hb hK hP (hDD _ _) hS 4 (sp) (rfl) (by omega) (by decide) rfl dX4_tell_30 (fun H locs hP _ hS => ?_)
    have hP : PP G (tW G a f (up2 r 7 (upd (r 7) (sp) (v6)))) H := hP
    exact wr_vret hx hb hr hlocks hS hP ⟨(upd (r 7) (sp) (v6)), rfl, (by rw [if_neg c1]; simp only [*])⟩ dX4_tell_31
set_option maxHeartbeats 4000000 in
set_option maxRecDepth 100000 in
theorem e_X4_addBlock (l : Launch) (G : GG) (a : Nat → Nat) (f : Nat → Int32) (r : Nat → Nat → Int32) (fi : Int32) (li : Int32) (bk : Nat) (hbk : bk < 12) (h3 : (f 3) = nI bk) : WrV l yX4_addBlock cX4_addBlock 3 ({ frames := 0, cells := 0, slots := 0, locals := 0 }) G (tW G a f r) [.ref (a 0), .int fi, .int li] (fun w => ∃ (n_f_3 : Int32) (n_r_10 : Nat → Int32) (n_r_11 : Nat → Int32), w = tW G a (upd f 3 n_f_3) (up2 (up2 r 10 n_r_10) 11 n_r_11) ∧ (n_f_3 = nI (bk + 1)) ∧ (n_r_10 = upd (r 10) bk fi) ∧ (n_r_11 = upd (r 11) bk li)) := by
  refine wr_entryV (by decide +kernel) (Nat.le_of_ble_eq_true rfl) ?_
  intro p e s m below meth c A C0 hP hK hD hA ls hl
  have hS : va_S A s.heap s.heap [] := va_S.rf
  obtain ⟨hx, hb, hml, hown, hts, hr, hlocks, hin⟩ := C0
  have hown : s.vm.findClass RX4 = some m.cls := hown
  have hDD : ∀ f' r', va_D A (tW G a f' r') := fun f' r' => D_same hD rfl
  have hl : lv_has ls 3 [(0, .ref (a 0)), (1, .int fi), (2, .int li)] := hl
  refine lv_aload_n hx hb dX4_addBlock_0 rfl (lv_at hl 0 rfl) ?_
  refine va_get (D := G.1) (ci := 4) (v := .ref (a 10)) (C := RX4) (T := TX4) (N := 12) hx hb hts inX4 hown hK.1 hP 0 rfl rfl 10 (by decide) (hts _ mf_X4_47) (fun _ h9 => h9) rfl dX4_addBlock_1 ?_
  refine lv_aload_n hx hb dX4_addBlock_4 rfl (lv_at hl 0 rfl) ?_
  refine va_get (D := G.1) (ci := 4) (v := .int (f 3)) (C := RX4) (T := TX4) (N := 12) hx hb hts inX4 hown hK.1 hP 0 rfl rfl 3 (by decide) (hts _ mf_X4_22) (fun _ h9 => h9) rfl dX4_addBlock_5 ?_
  rw [show (f 3) = nI (bk) from h3]
  refine lv_iload_n hx hb dX4_addBlock_8 rfl (lv_at hl 1 rfl) ?_
  refine xiast (f := (r 10)) (x := fi) hx hb hK hP (hDD _ _) hS 7 ((bk)) (rfl) (by omega) (by decide) rfl dX4_addBlock_9 (fun H locs hP _ hS => ?_)
  have hP : PP G (tW G a f (up2 r 10 (upd (r 10) ((bk)) (fi)))) H := hP
  refine lv_aload_n hx hb dX4_addBlock_10 rfl (lv_at hl 0 rfl) ?_
  refine va_get (D := G.1) (ci := 4) (v := .ref (a 11)) (C := RX4) (T := TX4) (N := 12) hx hb hts inX4 hown hK.1 hP 0 rfl rfl 11 (by decide) (hts _ mf_X4_50) (fun _ h9 => h9) rfl dX4_addBlock_11 ?_
  refine lv_aload_n hx hb dX4_addBlock_14 rfl (lv_at hl 0 rfl) ?_
  refine va_get (D := G.1) (ci := 4) (v := .int (f 3)) (C := RX4) (T := TX4) (N := 12) hx hb hts inX4 hown hK.1 hP 0 rfl rfl 3 (by decide) (hts _ mf_X4_22) (fun _ h9 => h9) rfl dX4_addBlock_15 ?_
  rw [show (f 3) = nI (bk) from h3]
  refine lv_iload_n hx hb dX4_addBlock_18 rfl (lv_at hl 2 rfl) ?_
  refine xiast (f := (r 11)) (x := li) hx hb hK hP (hDD _ _) hS 8 ((bk)) (rfl) (by omega) (by decide) rfl dX4_addBlock_19 (fun H locs hP _ hS => ?_)
  have hP : PP G (tW G a f (up2 (up2 r 10 (upd (r 10) ((bk)) (fi))) 11 (upd (r 11) ((bk)) (li)))) H := hP
  refine lv_aload_n hx hb dX4_addBlock_20 rfl (lv_at hl 0 rfl) ?_
  refine lv_dup hx hb dX4_addBlock_21 rfl ?_
  refine va_get (D := G.1) (ci := 4) (v := .int (f 3)) (C := RX4) (T := TX4) (N := 12) hx hb hts inX4 hown hK.1 hP 0 rfl rfl 3 (by decide) (hts _ mf_X4_22) (fun _ h9 => h9) rfl dX4_addBlock_22 ?_
  rw [show (f 3) = nI (bk) from h3]
  refine lv_iconst (v := 1) hx hb dX4_addBlock_25 (by decide) ?_
  refine lv_iadd hx hb dX4_addBlock_26 ?_
  refine lv_topi (fun v1 ev1 => ?_)
  obtain rfl : v1 = nI ((bk) + 1) := nI_plus ev1 rfl rfl
  refine va_put (D := G.1) (ci := 4) (v := .int (nI ((bk) + 1))) (C := RX4) (T := TX4) (N := 12) hx hb hts inX4 tyX4 tyX4_ok nmX4 hown hK.1 hP (hDD _ _) hS 0 rfl rfl 3 (by decide) (hts _ mf_X4_22) (fun _ h9 => h9) rfl (tyX4_ok 3 (by decide)) (rfl) (rfl) (Nat.le_of_ble_eq_true rfl) dX4_addBlock_27 (fun H locs hP _ hS => ?_)
  have hP : PP G (tW G a (upd f 3 (nI ((bk) + 1))) (up2 (up2 r 10 (upd (r 10) ((bk)) (fi))) 11 (upd (r 11) ((bk)) (li)))) H := hP
  exact wr_vret hx hb hr hlocks hS hP ⟨(nI ((bk) + 1)), (upd (r 10) ((bk)) (fi)), (upd (r 11) ((bk)) (li)), rfl, rfl, rfl, rfl⟩ dX4_addBlock_30
