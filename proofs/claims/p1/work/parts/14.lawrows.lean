/-! THE CLAIM OUT OF ONE WALK OF THE LAW'S BODY. Your part is whole_start (and what it stands on); all else here is the same for every law, but numbers. -/
def R_law : String := "CellKeeperLaw"
def lw_P (b : Addr) (xs : List Int32) (args : Array Value) (s : State) : Prop := args = #[.ref b] ∧ s.IntsAt b xs ∧ xs.length ≤ 6 ∧ (Jvm.Cond.and given_1 narrow_1).before args s = true
def lw_Q (_ : Array Value) (s : State) (o : Outcome) (t : State) : Prop := o = .returned (some (.int 1)) ∧ Framed s o t [] 600000 7302250
def lw_Z (below : List Frame) (a : Array Value) (s : State) : State → Prop := fun t => ∃ o, t.status = .running ∧ Ended t below o ∧ lw_Q a s o t
/-- the law's own end, with 1 on the stack, nothing written that was there before, its room as the claim has it -/
theorem lw_ret {p : Program} {l : Launch} {e : Env} {s : State} {m : MethodId} {below : List Frame} {meth : Method} {c : Code} {b : Nat} (hx : p.tables.exec = Jvm.exec) (hb : c.code = code) (hr : meth.sig.returnType = ret) (hlocks : meth.locks = false) {pc : Nat} {H : Heap} {ls : Array Slot} (hdg : decode code pc = .ok (.ireturn, 1)) : W p l e room_1 s m #[Value.ref b] below meth c H [] 600000 7302250 (lw_Z below #[Value.ref b] s) (F0 m pc ls [.int 1]) := by
  intro T hT X
  obtain ⟨fs, hret, hrun, hended, hW, hframe⟩ := X.leave (v := some (.int 1)) (hlocks := hlocks) (fun h => by rw [hr] at h; cases h)
  have hmeth' : T.vm.method? m = some meth := X.method'
  refine ⟨T.setFrames fs, ?_, .returned (some (.int 1)), hrun, hended, rfl, ⟨_, rfl⟩, hW, hframe⟩
  jvm_step X.here [X.here.top, hx, hb, hdg, hmeth', hr, ret, narrow_b1]
  (try refine ⟨rfl, ?_⟩); (try refine ⟨rfl, ?_⟩)
  first | (intro acts; rw [hret _ acts rfl rfl rfl]) | rw [hret _ _ rfl rfl rfl]
  exact Steps.refl _
/-- what holds at the law's entry: the machine, the code, the tables' words (any of lw_tbl by 'hts w (by decide +kernel)'), the script of L ints xs at the cell b, what the Statement gives of the start (any of its parts by flat_of_before) -/
def lw_At (p : Program) (s : State) (m : MethodId) (meth : Method) (c : Code) (b L : Nat) (xs : Nat → Int32) : Prop :=
  p.tables.exec = Jvm.exec ∧ c.code = code ∧ meth.sig.returnType = ret ∧ c.maxLocals = 4 ∧ s.vm.findClass R_law = some m.cls ∧ (∀ w ∈ lw_tbl, w.before #[Value.ref b] s = true) ∧ va_X b L xs s s.heap ∧ b < s.heap.size ∧ meth.locks = false ∧ (Jvm.Cond.and given_1 narrow_1).before #[Value.ref b] s = true
/-! rows for the law: a call on the class's side leaves the reference's side as it was; the script's numbers -/
theorem keep_r {A0 : Nat → Prop} {D : va_G} {cl : List vw_C} {wX wM wr : va_W} {H H1 : Heap} (hP : va_P D cl (wX ++ wM) H) (hD : va_D A0 (wX ++ wM)) (is : List Nat) (hC : is.map (fun i => wX[i]?) = wr.map some) (hk : ∀ q : Nat, q < H.size → ¬ va_A wr H.size q → H1[q]? = H[q]?) : va_P D cl wM H1 := by
  refine P_mem.mpr (fun q hq => ?_)
  have hlt := (P_mem.mp hP q (List.mem_append_right _ hq)).lt
  refine (P_mem.mp hP q (List.mem_append_right _ hq)).kept (hk q.1 hlt (fun hv => ?_))
  rcases va_A_iff.mp hv with ⟨r, hr, he⟩ | h
  · have h1 : some r ∈ is.map (fun i => wX[i]?) := by rw [hC]; exact List.mem_map_of_mem hr
    obtain ⟨i, -, hi2⟩ := List.mem_map.mp h1
    exact D_ne hD (List.mem_of_getElem? hi2) hq he
  · omega
section LX
variable {p : Program} {l : Launch} {e : Env} {R : Room} {s : State} {m : MethodId} {args : Array Value} {below : List Frame} {meth : Method} {c : Code} {H : Heap} {locs : List Loc} {cells slots : Nat} {Q : State → Prop}
variable {cc bytes : ByteArray} {pc nL maxL n index : Nat} {ls : Array Slot} {rest st0 As : List Value} {A0 : Nat → Prop} {y : MethodName} {ret : Option FieldType} {rm : Room} {G : GG} {wX wM wr : va_W} {own : String} {b : Nat} {postW : Int32 → va_W → Prop}
theorem lxI {ci N q0 : Nat} {T : u_T} {fs : List Value} (S : CallFix p m c cc nL s args TB own) (hM : WrI l y bytes maxL ret rm G wr (.ref b :: As) postW) (mi : MI y bytes maxL ret n) (hv : Cond.instanceMethod y ∈ TB ∧ Cond.selects y.cls y y ∈ TB) (hlk : Cond.methodLink own index y ∈ TB) (hR : RmOk R rm maxL 0 0) (hK : KK G s)
    (hP : PP G (wX ++ wM) H) (hD : va_D A0 (wX ++ wM)) (is : List Nat) (hC : is.map (fun i => wX[i]?) = wr.map some) (hnd : va_nd is = true)
    (he : wr[q0]? = some (b, .inr (ci, fs))) (hc : vwCl[ci]? = some (y.cls, T, N)) (hn : As.length = n) (hsize : ls.size = nL) (hst : st0 = As.reverse ++ .ref b :: rest) (hW : (rest.map fun v => v.category).sum ≤ 8) (hdg : decode cc pc = .ok (.invokevirtual index, 3)) (hcs : cells ≤ R.cells ∧ slots ≤ R.slots)
    (hS : va_S A0 s.heap H locs) (hA : ∀ q, s.heap.size ≤ q → A0 q)
    (kk : ∀ (r : Int32) (w : va_W) (H1 : Heap) (locs1 : List Loc), postW r w → PP G wM H1 → va_S A0 s.heap H1 locs1 → W p l e R s m args below meth c H1 locs1 cells slots Q (F0 m (pc + 3) ls (.int r :: rest))) : W p l e R s m args below meth c H locs cells slots Q (F0 m pc ls st0) := by
  subst hst
  obtain ⟨hx, hb, hml, hown, hts⟩ := id S
  have hPX : PP G wX H := P_sub hP (fun q h => List.mem_append_left _ h)
  have hPc : PP G wr H := hPX.sub is (fm_of hC)
  have hDc : va_D A0 wr := (D_left hD).sub is hnd hC
  have hF := va_free (D_left hD) hS hA is hC
  refine va_calli (va_runV (As := As) (rest := rest) S (hM H.size) ⟨mi_callB hts mi hlk hR, hts _ hv.1, hts _ hv.2⟩ ⟨Wr_blind, va_recv hK.1 hPc hc he, fun U hU hW => ⟨rfl, by rw [hU], by rw [hU]; exact hPc, hK.warm hW, hDc.weaken (fun _ _ _ _ => trivial)⟩⟩ rfl hn hsize rfl (lv_room hW) hdg hcs) hS (fun q _ h => hF q h) hF (fun r w t H1 locs1 ht _ hp hB _ hk1 hS1 => ?_)
  exact kk r w H1 locs1 hp (keep_r hP hD is hC hk1) hS1
theorem lxsI {ci N q0 : Nat} {T : u_T} {fs : List Value} (S : CallFix p m c cc nL s args TB own) (hM : WrIs l y bytes maxL ret rm G wr (.ref b :: As) postW) (mi : MI y bytes maxL ret n) (hv : Cond.instanceMethod y ∈ TB ∧ Cond.selects y.cls y y ∈ TB) (hlk : Cond.methodLink own index y ∈ TB) (hR : RmOk R rm maxL 0 0) (hK : KK G s) (hT : ST A0 s s.heap)
    (hP : PP G (wX ++ wM) H) (hD : va_D A0 (wX ++ wM)) (is : List Nat) (hC : is.map (fun i => wX[i]?) = wr.map some) (hnd : va_nd is = true)
    (he : wr[q0]? = some (b, .inr (ci, fs))) (hc : vwCl[ci]? = some (y.cls, T, N)) (hn : As.length = n) (hsize : ls.size = nL) (hst : st0 = As.reverse ++ .ref b :: rest) (hW : (rest.map fun v => v.category).sum ≤ 8) (hdg : decode cc pc = .ok (.invokevirtual index, 3)) (hcs : cells ≤ R.cells ∧ slots ≤ R.slots)
    (hS : va_S A0 s.heap H locs) (hA : ∀ q, s.heap.size ≤ q → A0 q)
    (kk : ∀ (r : Int32) (w : va_W) (H1 : Heap) (locs1 : List Loc), postW r w → PP G wM H1 → va_S A0 s.heap H1 locs1 → W p l e R s m args below meth c H1 locs1 cells slots Q (F0 m (pc + 3) ls (.int r :: rest))) : W p l e R s m args below meth c H locs cells slots Q (F0 m pc ls st0) := by
  subst hst
  obtain ⟨hx, hb, hml, hown, hts⟩ := id S
  have hPX : PP G wX H := P_sub hP (fun q h => List.mem_append_left _ h)
  have hPc : PP G wr H := hPX.sub is (fm_of hC)
  have hDc : va_D A0 wr := (D_left hD).sub is hnd hC
  have hF := va_free (D_left hD) hS hA is hC
  have hTc : ST (va_A wr H.size) s H := (hT.kept hS.2.1).narrow hF
  refine va_calli (va_runV (As := As) (rest := rest) S (hM H.size) ⟨mi_callB hts mi hlk hR, hts _ hv.1, hts _ hv.2⟩ ⟨Ws_blind, va_recv hK.1 hPc hc he, fun U hU hW => ⟨rfl, ⟨by rw [hU], by rw [hU]; exact hPc, hK.warm hW, hDc.weaken (fun _ _ _ _ => trivial)⟩, by rw [hU]; exact hTc.moved hW.alike⟩⟩ rfl hn hsize rfl (lv_room hW) hdg hcs) hS (fun q _ h => hF q h) hF (fun r w t H1 locs1 ht _ hp hB _ hk1 hS1 => ?_)
  exact kk r w H1 locs1 hp (keep_r hP hD is hC hk1) hS1
theorem xsld {L b : Nat} {xs : Nat → Int32} {i : Int32} (j : Nat) (hx : p.tables.exec = Jvm.exec) (hb : c.code = cc) (hX : va_X b L xs s s.heap) (hbl : b < s.heap.size) (hbA : ¬ A0 b) (hS : va_S A0 s.heap H locs) (hi : i = nI j) (hj : j < L) (hL : L < 2147483648) (hdg : decode cc pc = .ok (.iaload, 1))
    (kk : W p l e R s m args below meth c H locs cells slots Q (F0 m (pc + 1) ls (.int (xs j) :: rest))) : W p l e R s m args below meth c H locs cells slots Q (F0 m pc ls (.int i :: .ref b :: rest)) := by
  subst hi
  refine va_sld hx hb hX hbl hbA hS (vp_in_nI hj hL) hdg ?_
  rw [nI_clamp (by omega)]; exact kk
end LX
theorem op_eq {t r c u v : Int32} (h1 : (opOk t r c ∧ u = 1) ∨ (¬ opOk t r c ∧ u = 0)) (h2 : (opOk t r c ∧ v = 1) ∨ (¬ opOk t r c ∧ v = 0)) : u = v := by
  rcases h1 with ⟨a, b⟩ | ⟨a, b⟩ <;> rcases h2 with ⟨x, y⟩ | ⟨x, y⟩
  · rw [b, y]
  · exact absurd a x
  · exact absurd x a
  · rw [b, y]
