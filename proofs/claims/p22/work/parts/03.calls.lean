/-! contracts and calls: RdI reads alone; WrI, WrV write their cells; MkV makes cells -/
abbrev wY (y : MethodName) (cc : ByteArray) (maxL : Nat) (ret : Option FieldType) : List Cond := Cond.code y cc maxL ret :: TB
def RdPc (G : GG) (ws : va_W) (sz : Nat) (U : State) : Prop := U.heap.size = sz ∧ PP G ws U.heap ∧ KK G U
def WrPc (G : GG) (ws : va_W) (sz : Nat) (U : State) : Prop := U.heap.size = sz ∧ PP G ws U.heap ∧ KK G U ∧ va_D (fun _ => True) ws
abbrev QrI (post : Int32 → Prop) (A : Nat → Prop) := va_Qi (fun (r : Int32) (_ : Unit) => post r) (fun _ _ => True) A
abbrev QwI (G : GG) (post : Int32 → va_W → Prop) (A : Nat → Prop) := va_Qi post (fun (w : va_W) (t : State) => PP G w t.heap) A
abbrev QwV (G : GG) (post : va_W → Prop) (A : Nat → Prop) := va_Qv post (fun (w : va_W) (t : State) => PP G w t.heap) A
abbrev QmV (G : GG) (post : va_W → Prop) (A : Nat → Prop) := va_Qv post (fun (w : va_W) (t : State) => PP G w t.heap ∧ va_D A w) A
def RdI (l : Launch) (y : MethodName) (cc : ByteArray) (maxL : Nat) (ret : Option FieldType) (rm : Room) (G : GG) (ws : va_W) (av : List Value) (post : Int32 → Prop) : Prop :=
  ∀ sz : Nat, Met l y (wY y cc maxL ret) rm (va_Pc av (RdPc G ws sz)) (QrI post (fun q => sz ≤ q)) 0 0 (fun q => sz ≤ q)
def WrI (l : Launch) (y : MethodName) (cc : ByteArray) (maxL : Nat) (ret : Option FieldType) (rm : Room) (G : GG) (ws : va_W) (av : List Value) (post : Int32 → va_W → Prop) : Prop :=
  ∀ sz : Nat, Met l y (wY y cc maxL ret) rm (va_Pc av (WrPc G ws sz)) (QwI G post (va_A ws sz)) 0 0 (va_A ws sz)
def WrV (l : Launch) (y : MethodName) (cc : ByteArray) (maxL : Nat) (rm : Room) (G : GG) (ws : va_W) (av : List Value) (post : va_W → Prop) : Prop :=
  ∀ sz : Nat, Met l y (wY y cc maxL none) rm (va_Pc av (WrPc G ws sz)) (QwV G post (va_A ws sz)) 0 0 (va_A ws sz)
def MkV (l : Launch) (y : MethodName) (cc : ByteArray) (maxL : Nat) (rm : Room) (G : GG) (ws : va_W) (av : List Value) (mc ms : Nat) (post : va_W → Prop) : Prop :=
  ∀ sz : Nat, Met l y (wY y cc maxL none) rm (va_Pc av (WrPc G ws sz)) (QmV G post (va_A ws sz)) mc ms (va_A ws sz)
theorem Rd_blind {G : GG} {ws : va_W} {sz : Nat} {av : List Value} : FrameBlind (va_Pc av (RdPc G ws sz)) := fun _ _ _ _ q => ⟨q.1, q.2.1, q.2.2.1, q.2.2.2.blind⟩
theorem Wr_blind {G : GG} {ws : va_W} {sz : Nat} {av : List Value} : FrameBlind (va_Pc av (WrPc G ws sz)) := fun _ _ _ _ q => ⟨q.1, q.2.1, q.2.2.1, q.2.2.2.1.blind, q.2.2.2.2⟩
/-- what holds at a method's entry -/
def AtM (p : Program) (s : State) (m : MethodId) (meth : Method) (c : Code) (av : List Value) (y : MethodName) (cc : ByteArray) (maxL : Nat) (ret : Option FieldType) : Prop :=
  p.tables.exec = Jvm.exec ∧ c.code = cc ∧ c.maxLocals = maxL ∧ s.vm.findClass y.cls = some m.cls ∧ (∀ w ∈ TB, w.before av.toArray s = true) ∧ meth.sig.returnType = ret ∧ meth.locks = false ∧ meth.name = y.name
theorem AtM.of {p : Program} {l : Launch} {e : Env} {s s₁ : State} {m : MethodId} {below : List Frame} {meth : Method} {c : Code} {y : MethodName} {cc : ByteArray} {maxL : Nat} {ret : Option FieldType} {rm : Room} {av : List Value} (B : BodyLoose p l y (headSpec (wY y cc maxL ret) rm) cc maxL ret e s m av.toArray below meth c s₁) (hml : c.maxLocals = maxL) : AtM p s m meth c av y cc maxL ret := by
  have hts := atoms_spec (ws := wY y cc maxL ret) B.pre
  exact ⟨B.exec, B.bytes, hml, findClass_of_methodNamed B.named, fun w h => hts w (List.mem_cons_of_mem _ h), B.returns, B.notSynchronized, (name_of_methodNamed B.named B.method).1⟩
section EN
variable {l : Launch} {y : MethodName} {cc : ByteArray} {maxL : Nat} {ret : Option FieldType} {rm : Room} {G : GG} {ws : va_W} {av : List Value}
theorem rd_entry {post : Int32 → Prop} (hy : plainName y.cls = true) (hlen : (lg_sl av).length ≤ maxL)
    (body : ∀ (p : Program) (e : Env) (s : State) (m : MethodId) (below : List Frame) (meth : Method) (c : Code), AtM p s m meth c av y cc maxL ret → PP G ws s.heap → KK G s → ∀ ls : Array Slot, lv_has ls maxL (lv_args 0 av) →
      W p l e rm s m av.toArray below meth c s.heap [] 0 0 (MQ below (QrI post (fun q => s.heap.size ≤ q)) av.toArray s 0 0 (fun q => s.heap.size ≤ q)) (F0 m 0 ls [])) : RdI l y cc maxL ret rm G ws av post := by
  intro sz
  refine Met.ofW (cc := cc) (maxL := maxL) (ret := ret) hy rfl ?_
  intro p e s m args below meth c s₁ B hml hv
  obtain ⟨rfl, hsz, hP, hK⟩ := hv
  subst hsz
  have hl := lv_entry av (n := maxL) hlen
  rw [lg_entry_eq]
  exact body p e s m below meth c (AtM.of B hml) hP hK _ hl
theorem wr_entryI {post : Int32 → va_W → Prop} (hy : plainName y.cls = true) (hlen : (lg_sl av).length ≤ maxL)
    (body : ∀ (p : Program) (e : Env) (s : State) (m : MethodId) (below : List Frame) (meth : Method) (c : Code) (A : Nat → Prop), AtM p s m meth c av y cc maxL ret → PP G ws s.heap → KK G s → va_D A ws → (∀ q, s.heap.size ≤ q → A q) → ∀ ls : Array Slot, lv_has ls maxL (lv_args 0 av) →
      W p l e rm s m av.toArray below meth c s.heap [] 0 0 (MQ below (QwI G post A) av.toArray s 0 0 A) (F0 m 0 ls [])) : WrI l y cc maxL ret rm G ws av post := by
  intro sz
  refine Met.ofW (cc := cc) (maxL := maxL) (ret := ret) hy rfl ?_
  intro p e s m args below meth c s₁ B hml hv
  obtain ⟨rfl, hsz, hP, hK, hD⟩ := hv
  subst hsz
  have hl := lv_entry av (n := maxL) hlen
  rw [lg_entry_eq]
  exact body p e s m below meth c _ (AtM.of B hml) hP hK (hD.self) (fun q h => Or.inr h) _ hl
theorem wr_entryV {post : va_W → Prop} (hy : plainName y.cls = true) (hlen : (lg_sl av).length ≤ maxL)
    (body : ∀ (p : Program) (e : Env) (s : State) (m : MethodId) (below : List Frame) (meth : Method) (c : Code) (A : Nat → Prop), AtM p s m meth c av y cc maxL none → PP G ws s.heap → KK G s → va_D A ws → (∀ q, s.heap.size ≤ q → A q) → ∀ ls : Array Slot, lv_has ls maxL (lv_args 0 av) →
      W p l e rm s m av.toArray below meth c s.heap [] 0 0 (MQ below (QwV G post A) av.toArray s 0 0 A) (F0 m 0 ls [])) : WrV l y cc maxL rm G ws av post := by
  intro sz
  refine Met.ofW (cc := cc) (maxL := maxL) (ret := none) hy rfl ?_
  intro p e s m args below meth c s₁ B hml hv
  obtain ⟨rfl, hsz, hP, hK, hD⟩ := hv
  subst hsz
  have hl := lv_entry av (n := maxL) hlen
  rw [lg_entry_eq]
  exact body p e s m below meth c _ (AtM.of B hml) hP hK (hD.self) (fun q h => Or.inr h) _ hl
theorem mk_entry {post : va_W → Prop} {mc ms : Nat} (hy : plainName y.cls = true) (hlen : (lg_sl av).length ≤ maxL)
    (body : ∀ (p : Program) (e : Env) (s : State) (m : MethodId) (below : List Frame) (meth : Method) (c : Code) (A : Nat → Prop), AtM p s m meth c av y cc maxL none → PP G ws s.heap → KK G s → va_D A ws → (∀ q, s.heap.size ≤ q → A q) → ∀ ls : Array Slot, lv_has ls maxL (lv_args 0 av) →
      W p l e rm s m av.toArray below meth c s.heap [] 0 0 (MQ below (QmV G post A) av.toArray s mc ms A) (F0 m 0 ls [])) : MkV l y cc maxL rm G ws av mc ms post := by
  intro sz
  refine Met.ofW (cc := cc) (maxL := maxL) (ret := none) hy rfl ?_
  intro p e s m args below meth c s₁ B hml hv
  obtain ⟨rfl, hsz, hP, hK, hD⟩ := hv
  subst hsz
  have hl := lv_entry av (n := maxL) hlen
  rw [lg_entry_eq]
  exact body p e s m below meth c _ (AtM.of B hml) hP hK (hD.self) (fun q h => Or.inr h) _ hl
end EN
/-- what is known of a method that is called: its words, and that it has n parameters -/
def MI (y : MethodName) (cc : ByteArray) (maxL : Nat) (ret : Option FieldType) (n : Nat) : Prop :=
  Cond.initialized y.cls ∈ TB ∧ Cond.code y cc maxL ret ∈ TB ∧ y.cls ≠ "java/lang/invoke/MethodHandle" ∧ y.cls ≠ "java/lang/invoke/VarHandle" ∧ (parseMethodDescriptor y.desc).map (fun d => d.parameters.length) = some n
abbrev RmOk (R rm : Room) (maxL mc ms : Nat) : Prop := rm.cells = mc ∧ rm.slots = ms ∧ rm.frames + 1 ≤ R.frames ∧ 8 + (maxL + 11) + rm.locals ≤ R.locals
theorem wY_good {y : MethodName} {cc : ByteArray} {maxL : Nat} {ret : Option FieldType} (h : Cond.code y cc maxL ret ∈ TB) : GoodIn TB (wY y cc maxL ret) := fun w hw => by
  rcases List.mem_cons.mp hw with rfl | hw
  · exact TB_good _ h
  · exact TB_good _ hw
theorem fm_of {ws wr : va_W} {is : List Nat} (hC : is.map (fun i => ws[i]?) = wr.map some) : is.filterMap (fun i => ws[i]?) = wr := by
  have h : is.filterMap (fun i => ws[i]?) = (is.map (fun i => ws[i]?)).filterMap id := by rw [List.filterMap_map]; rfl
  rw [h, hC, List.filterMap_map]
  simp
section CB
variable {p : Program} {l : Launch} {e : Env} {R : Room} {s : State} {m : MethodId} {args : Array Value} {below : List Frame} {meth : Method} {c : Code} {H H0 : Heap} {locs : List Loc} {cells slots : Nat} {Q : State → Prop}
variable {cc bytes : ByteArray} {pc nL maxL n index mc ms : Nat} {ls : Array Slot} {rest st0 As : List Value} {A0 : Nat → Prop} {y : MethodName} {ret : Option FieldType} {rm : Room} {G : GG} {wa wr : va_W} {own : String} {b : Nat} {postI : Int32 → Prop} {postW : Int32 → va_W → Prop} {postV : va_W → Prop}
theorem mi_callB (ht : ∀ w ∈ TB, w.before args s = true) (mi : MI y bytes maxL ret n) (hl : Cond.methodLink own index y ∈ TB) (hR : RmOk R rm maxL mc ms) : CallB R s args own index y bytes maxL ret (wY y bytes maxL ret) rm mc ms n :=
  callB_of n ht (wY_good mi.2.1) rfl hR.1 hR.2.1 (ht _ mi.1) (ht _ hl) mi.2.2 hR.2.2
theorem mi_cn (ht : ∀ w ∈ TB, w.before args s = true) (mi : MI y bytes maxL ret n) (hK : KK G s) (hl : (own, index, y) ∈ NSm) (hR : RmOk R rm maxL mc ms) : va_CN R s args own index y "CellKeeper" bytes maxL ret (wY y bytes maxL ret) rm mc ms n :=
  va_cnB n ht (wY_good mi.2.1) rfl hR.1 hR.2.1 (hK.2.1 _ hl) (ht _ mi.1) mi.2.2 hR.2.2
theorem rd_back {args' : Array Value} (hS : va_S A0 H0 H locs) (hA : ∀ q, H0.size ≤ q → A0 q) (hP : PP G wa H)
    (hr : va_Run p l e R s m args below meth c H locs cells slots 0 0 (F0 m pc ls st0) rest (QrI postI (fun q => H.size ≤ q) args') (fun q => H.size ≤ q))
    (kk : ∀ (r : Int32) (H1 : Heap) (locs1 : List Loc), postI r → PP G wa H1 → va_S A0 H0 H1 locs1 → W p l e R s m args below meth c H1 locs1 cells slots Q (F0 m (pc + 3) ls (.int r :: rest))) : W p l e R s m args below meth c H locs cells slots Q (F0 m pc ls st0) := by
  refine va_calli hr hS (fun q h1 h2 => absurd h1 (Nat.not_lt.mpr h2)) (fun q h => hA q (Nat.le_trans hS.1 h)) (fun r _ t H1 locs1 _ _ hp _ _ hk1 hS1 => ?_)
  exact kk r H1 locs1 hp (hP.kept (fun k q hq => hk1 q.1 (hP k q hq).lt (Nat.not_le.mpr (hP k q hq).lt))) hS1
/-- a reader that is called by invokevirtual -/
theorem rdV {ci N q0 : Nat} {T : u_T} {fs : List Value} (S : CallFix p m c cc nL s args TB own) (hM : RdI l y bytes maxL ret rm G wr (.ref b :: As) postI) (mi : MI y bytes maxL ret n) (hv : Cond.instanceMethod y ∈ TB ∧ Cond.selects y.cls y y ∈ TB) (hlk : Cond.methodLink own index y ∈ TB) (hR : RmOk R rm maxL 0 0) (hK : KK G s) (hPc : PP G wr H)
    (he : wr[q0]? = some (b, .inr (ci, fs))) (hc : vwCl[ci]? = some (y.cls, T, N)) (hn : As.length = n) (hsize : ls.size = nL) (hst : st0 = As.reverse ++ .ref b :: rest) (hW : (rest.map fun v => v.category).sum ≤ 8) (hdg : decode cc pc = .ok (.invokevirtual index, 3)) (hcs : cells ≤ R.cells ∧ slots ≤ R.slots)
    (hS : va_S A0 H0 H locs) (hA : ∀ q, H0.size ≤ q → A0 q) (hP : PP G wa H)
    (kk : ∀ (r : Int32) (H1 : Heap) (locs1 : List Loc), postI r → PP G wa H1 → va_S A0 H0 H1 locs1 → W p l e R s m args below meth c H1 locs1 cells slots Q (F0 m (pc + 3) ls (.int r :: rest))) : W p l e R s m args below meth c H locs cells slots Q (F0 m pc ls st0) := by
  subst hst
  obtain ⟨hx, hb, hml, hown, hts⟩ := id S
  exact rd_back hS hA hP (va_runV (As := As) (rest := rest) S (hM H.size) ⟨mi_callB hts mi hlk hR, hts _ hv.1, hts _ hv.2⟩ ⟨Rd_blind, va_recv hK.1 hPc hc he, fun U hU hW => ⟨rfl, by rw [hU], by rw [hU]; exact hPc, hK.warm hW⟩⟩ rfl hn hsize rfl (lv_room hW) hdg hcs) kk
theorem rdS (S : CallFix p m c cc nL s args TB own) (hM : RdI l y bytes maxL ret rm G wr As postI) (mi : MI y bytes maxL ret n) (hv : Cond.static y ∈ TB) (hlk : Cond.methodLink own index y ∈ TB) (hR : RmOk R rm maxL 0 0) (hK : KK G s) (hPc : PP G wr H)
    (hn : As.length = n) (hsize : ls.size = nL) (hst : st0 = As.reverse ++ rest) (hW : (rest.map fun v => v.category).sum ≤ 8) (hdg : decode cc pc = .ok (.invokestatic index, 3)) (hcs : cells ≤ R.cells ∧ slots ≤ R.slots)
    (hS : va_S A0 H0 H locs) (hA : ∀ q, H0.size ≤ q → A0 q) (hP : PP G wa H)
    (kk : ∀ (r : Int32) (H1 : Heap) (locs1 : List Loc), postI r → PP G wa H1 → va_S A0 H0 H1 locs1 → W p l e R s m args below meth c H1 locs1 cells slots Q (F0 m (pc + 3) ls (.int r :: rest))) : W p l e R s m args below meth c H locs cells slots Q (F0 m pc ls st0) := by
  subst hst
  obtain ⟨hx, hb, hml, hown, hts⟩ := id S
  exact rd_back hS hA hP (va_runS (As := As) (rest := rest) S (hM H.size) ⟨mi_callB hts mi hlk hR, hts _ hv⟩ ⟨Rd_blind, fun U hU hW => ⟨rfl, by rw [hU], by rw [hU]; exact hPc, hK.warm hW⟩⟩ rfl hn hsize rfl (lv_room hW) hdg hcs) kk
theorem rdSN (S : CallFix p m c cc nL s args TB own) (hM : RdI l y bytes maxL ret rm G wr As postI) (mi : MI y bytes maxL ret n) (hv : Cond.static y ∈ TB) (hlk : (own, index, y) ∈ NSm) (hR : RmOk R rm maxL 0 0) (hK : KK G s) (hPc : PP G wr H)
    (hn : As.length = n) (hsize : ls.size = nL) (hst : st0 = As.reverse ++ rest) (hW : (rest.map fun v => v.category).sum ≤ 8) (hdg : decode cc pc = .ok (.invokestatic index, 3)) (hcs : cells ≤ R.cells ∧ slots ≤ R.slots)
    (hS : va_S A0 H0 H locs) (hA : ∀ q, H0.size ≤ q → A0 q) (hP : PP G wa H)
    (kk : ∀ (r : Int32) (H1 : Heap) (locs1 : List Loc), postI r → PP G wa H1 → va_S A0 H0 H1 locs1 → W p l e R s m args below meth c H1 locs1 cells slots Q (F0 m (pc + 3) ls (.int r :: rest))) : W p l e R s m args below meth c H locs cells slots Q (F0 m pc ls st0) := by
  subst hst
  obtain ⟨hx, hb, hml, hown, hts⟩ := id S
  exact rd_back hS hA hP (va_runSN (As := As) (rest := rest) S (hM H.size) ⟨mi_cn hts mi hK hlk hR, hts _ hv, trivial⟩ ⟨Rd_blind, fun U hU hW => ⟨rfl, by rw [hU], by rw [hU]; exact hPc, hK.warm hW⟩⟩ rfl hn hsize rfl (lv_room hW) hdg hcs) kk
/-- a writer that is called by invokevirtual, with an int for its answer -/
theorem wrVI {ci N q0 : Nat} {T : u_T} {fs : List Value} (S : CallFix p m c cc nL s args TB own) (hM : WrI l y bytes maxL ret rm G wr (.ref b :: As) postW) (mi : MI y bytes maxL ret n) (hv : Cond.instanceMethod y ∈ TB ∧ Cond.selects y.cls y y ∈ TB) (hlk : Cond.methodLink own index y ∈ TB) (hR : RmOk R rm maxL 0 0) (hK : KK G s)
    (hP : PP G wa H) (hD : va_D A0 wa) (is : List Nat) (hC : is.map (fun i => wa[i]?) = wr.map some) (hnd : va_nd is = true)
    (he : wr[q0]? = some (b, .inr (ci, fs))) (hc : vwCl[ci]? = some (y.cls, T, N)) (hn : As.length = n) (hsize : ls.size = nL) (hst : st0 = As.reverse ++ .ref b :: rest) (hW : (rest.map fun v => v.category).sum ≤ 8) (hdg : decode cc pc = .ok (.invokevirtual index, 3)) (hcs : cells ≤ R.cells ∧ slots ≤ R.slots)
    (hS : va_S A0 H0 H locs) (hA : ∀ q, H0.size ≤ q → A0 q)
    (kk : ∀ (r : Int32) (w : va_W) (H1 : Heap) (locs1 : List Loc), postW r w → (w.map Prod.fst = wr.map Prod.fst → PP G (wset wa is w) H1) → va_S A0 H0 H1 locs1 → W p l e R s m args below meth c H1 locs1 cells slots Q (F0 m (pc + 3) ls (.int r :: rest))) : W p l e R s m args below meth c H locs cells slots Q (F0 m pc ls st0) := by
  subst hst
  obtain ⟨hx, hb, hml, hown, hts⟩ := id S
  have hPc : PP G wr H := hP.sub is (fm_of hC)
  have hDc : va_D A0 wr := hD.sub is hnd hC
  have hF := va_free hD hS hA is hC
  refine va_calli (va_runV (As := As) (rest := rest) S (hM H.size) ⟨mi_callB hts mi hlk hR, hts _ hv.1, hts _ hv.2⟩ ⟨Wr_blind, va_recv hK.1 hPc hc he, fun U hU hW => ⟨rfl, by rw [hU], by rw [hU]; exact hPc, hK.warm hW, hDc.weaken (fun _ _ _ _ => trivial)⟩⟩ rfl hn hsize rfl (lv_room hW) hdg hcs) hS (fun q _ h => hF q h) hF (fun r w t H1 locs1 ht _ hp hB _ hk1 hS1 => ?_)
  rw [ht] at hB
  exact kk r w H1 locs1 hp (fun ha => wj hP hD is hC hk1 hB ha) hS1
theorem wrVV {ci N q0 : Nat} {T : u_T} {fs : List Value} (S : CallFix p m c cc nL s args TB own) (hM : WrV l y bytes maxL rm G wr (.ref b :: As) postV) (mi : MI y bytes maxL none n) (hv : Cond.instanceMethod y ∈ TB ∧ Cond.selects y.cls y y ∈ TB) (hlk : Cond.methodLink own index y ∈ TB) (hR : RmOk R rm maxL 0 0) (hK : KK G s)
    (hP : PP G wa H) (hD : va_D A0 wa) (is : List Nat) (hC : is.map (fun i => wa[i]?) = wr.map some) (hnd : va_nd is = true)
    (he : wr[q0]? = some (b, .inr (ci, fs))) (hc : vwCl[ci]? = some (y.cls, T, N)) (hn : As.length = n) (hsize : ls.size = nL) (hst : st0 = As.reverse ++ .ref b :: rest) (hW : (rest.map fun v => v.category).sum ≤ 8) (hdg : decode cc pc = .ok (.invokevirtual index, 3)) (hcs : cells ≤ R.cells ∧ slots ≤ R.slots)
    (hS : va_S A0 H0 H locs) (hA : ∀ q, H0.size ≤ q → A0 q)
    (kk : ∀ (w : va_W) (H1 : Heap) (locs1 : List Loc), postV w → (w.map Prod.fst = wr.map Prod.fst → PP G (wset wa is w) H1) → va_S A0 H0 H1 locs1 → W p l e R s m args below meth c H1 locs1 cells slots Q (F0 m (pc + 3) ls rest)) : W p l e R s m args below meth c H locs cells slots Q (F0 m pc ls st0) := by
  subst hst
  obtain ⟨hx, hb, hml, hown, hts⟩ := id S
  have hPc : PP G wr H := hP.sub is (fm_of hC)
  have hDc : va_D A0 wr := hD.sub is hnd hC
  have hF := va_free hD hS hA is hC
  refine va_callv (va_runV (As := As) (rest := rest) S (hM H.size) ⟨mi_callB hts mi hlk hR, hts _ hv.1, hts _ hv.2⟩ ⟨Wr_blind, va_recv hK.1 hPc hc he, fun U hU hW => ⟨rfl, by rw [hU], by rw [hU]; exact hPc, hK.warm hW, hDc.weaken (fun _ _ _ _ => trivial)⟩⟩ rfl hn hsize rfl (lv_room hW) hdg hcs) hS (fun q _ h => hF q h) hF (fun w t H1 locs1 ht _ hp hB _ hk1 hS1 => ?_)
  rw [ht] at hB
  exact kk w H1 locs1 hp (fun ha => wj hP hD is hC hk1 hB ha) hS1
/-- a static writer without an answer (Arrays.fill) -/
theorem wrSV (S : CallFix p m c cc nL s args TB own) (hM : WrV l y bytes maxL rm G wr As postV) (mi : MI y bytes maxL none n) (hv : Cond.static y ∈ TB) (hlk : Cond.methodLink own index y ∈ TB) (hR : RmOk R rm maxL 0 0) (hK : KK G s)
    (hP : PP G wa H) (hD : va_D A0 wa) (is : List Nat) (hC : is.map (fun i => wa[i]?) = wr.map some) (hnd : va_nd is = true)
    (hn : As.length = n) (hsize : ls.size = nL) (hst : st0 = As.reverse ++ rest) (hW : (rest.map fun v => v.category).sum ≤ 8) (hdg : decode cc pc = .ok (.invokestatic index, 3)) (hcs : cells ≤ R.cells ∧ slots ≤ R.slots)
    (hS : va_S A0 H0 H locs) (hA : ∀ q, H0.size ≤ q → A0 q)
    (kk : ∀ (w : va_W) (H1 : Heap) (locs1 : List Loc), postV w → (w.map Prod.fst = wr.map Prod.fst → PP G (wset wa is w) H1) → va_S A0 H0 H1 locs1 → W p l e R s m args below meth c H1 locs1 cells slots Q (F0 m (pc + 3) ls rest)) : W p l e R s m args below meth c H locs cells slots Q (F0 m pc ls st0) := by
  subst hst
  obtain ⟨hx, hb, hml, hown, hts⟩ := id S
  have hPc : PP G wr H := hP.sub is (fm_of hC)
  have hDc : va_D A0 wr := hD.sub is hnd hC
  have hF := va_free hD hS hA is hC
  refine va_callv (va_runS (As := As) (rest := rest) S (hM H.size) ⟨mi_callB hts mi hlk hR, hts _ hv⟩ ⟨Wr_blind, fun U hU hW => ⟨rfl, by rw [hU], by rw [hU]; exact hPc, hK.warm hW, hDc.weaken (fun _ _ _ _ => trivial)⟩⟩ rfl hn hsize rfl (lv_room hW) hdg hcs) hS (fun q _ h => hF q h) hF (fun w t H1 locs1 ht _ hp hB _ hk1 hS1 => ?_)
  rw [ht] at hB
  exact kk w H1 locs1 hp (fun ha => wj hP hD is hC hk1 hB ha) hS1
/-- a constructor, called for the world's last cell -/
theorem mkI {wb : va_W} (S : CallFix p m c cc nL s args TB own) (hM : MkV l y bytes maxL rm G wr (.ref b :: As) mc ms postV) (mi : MI y bytes maxL none n) (hy : y.name = "<init>") (hv : Cond.instanceMethod y ∈ TB) (hlk : Cond.methodLink own index y ∈ TB) (hR : RmOk R rm maxL mc ms) (hK : KK G s)
    (hP : PP G (wb ++ wr) H) (hD : va_D A0 (wb ++ wr))
    (hn : As.length = n) (hsize : ls.size = nL) (hst : st0 = As.reverse ++ .ref b :: rest) (hW : (rest.map fun v => v.category).sum ≤ 8) (hdg : decode cc pc = .ok (.invokespecial index, 3)) (hcs : cells + mc ≤ R.cells ∧ slots + ms ≤ R.slots)
    (hS : va_S A0 H0 H locs) (hA : ∀ q, H0.size ≤ q → A0 q)
    (kk : ∀ (w : va_W) (H1 : Heap) (locs1 : List Loc), postV w → PP G (wb ++ w) H1 → va_D A0 (wb ++ w) → va_S A0 H0 H1 locs1 → W p l e R s m args below meth c H1 locs1 (cells + mc) (slots + ms) Q (F0 m (pc + 3) ls rest)) : W p l e R s m args below meth c H locs cells slots Q (F0 m pc ls st0) := by
  subst hst
  obtain ⟨hx, hb, hml, hown, hts⟩ := id S
  have hPc : PP G wr H := P_sub hP (fun q h => List.mem_append_right _ h)
  have hDc : va_D A0 wr := D_right hD
  have hF : ∀ q, va_A wr H.size q → A0 q := fun q h => by
    rcases va_A_iff.mp h with ⟨r, hr, rfl⟩ | h
    · exact (nd_iff.mp hDc).2 r hr
    · exact hA q (Nat.le_trans hS.1 h)
  refine va_callv (va_runI (As := As) (rest := rest) S (hM H.size) ⟨mi_callB hts mi hlk hR, hy, hts _ hv⟩ ⟨Wr_blind, fun U hU hW => ⟨rfl, by rw [hU], by rw [hU]; exact hPc, hK.warm hW, hDc.weaken (fun _ _ _ _ => trivial)⟩⟩ rfl hn hsize rfl (lv_room hW) hdg hcs) hS (fun q _ h => hF q h) hF (fun w t H1 locs1 ht _ hp hB _ hk1 hS1 => ?_)
  rw [ht] at hB
  obtain ⟨h1, h2⟩ := app_join hP hD hk1 hF hB.1 hB.2
  exact kk w H1 locs1 hp h1 h2 hS1
theorem mkIN {wb : va_W} (S : CallFix p m c cc nL s args TB own) (hM : MkV l y bytes maxL rm G wr (.ref b :: As) mc ms postV) (mi : MI y bytes maxL none n) (hy : y.name = "<init>") (hv : Cond.instanceMethod y ∈ TB) (hlk : (own, index, y) ∈ NSm) (hR : RmOk R rm maxL mc ms) (hK : KK G s)
    (hP : PP G (wb ++ wr) H) (hD : va_D A0 (wb ++ wr))
    (hn : As.length = n) (hsize : ls.size = nL) (hst : st0 = As.reverse ++ .ref b :: rest) (hW : (rest.map fun v => v.category).sum ≤ 8) (hdg : decode cc pc = .ok (.invokespecial index, 3)) (hcs : cells + mc ≤ R.cells ∧ slots + ms ≤ R.slots)
    (hS : va_S A0 H0 H locs) (hA : ∀ q, H0.size ≤ q → A0 q)
    (kk : ∀ (w : va_W) (H1 : Heap) (locs1 : List Loc), postV w → PP G (wb ++ w) H1 → va_D A0 (wb ++ w) → va_S A0 H0 H1 locs1 → W p l e R s m args below meth c H1 locs1 (cells + mc) (slots + ms) Q (F0 m (pc + 3) ls rest)) : W p l e R s m args below meth c H locs cells slots Q (F0 m pc ls st0) := by
  subst hst
  obtain ⟨hx, hb, hml, hown, hts⟩ := id S
  have hPc : PP G wr H := P_sub hP (fun q h => List.mem_append_right _ h)
  have hDc : va_D A0 wr := D_right hD
  have hF : ∀ q, va_A wr H.size q → A0 q := fun q h => by
    rcases va_A_iff.mp h with ⟨r, hr, rfl⟩ | h
    · exact (nd_iff.mp hDc).2 r hr
    · exact hA q (Nat.le_trans hS.1 h)
  refine va_callv (va_runIN (As := As) (rest := rest) S (hM H.size) ⟨mi_cn hts mi hK hlk hR, hy, hts _ hv⟩ ⟨Wr_blind, fun U hU hW => ⟨rfl, by rw [hU], by rw [hU]; exact hPc, hK.warm hW, hDc.weaken (fun _ _ _ _ => trivial)⟩⟩ rfl hn hsize rfl (lv_room hW) hdg hcs) hS (fun q _ h => hF q h) hF (fun w t H1 locs1 ht _ hp hB _ hk1 hS1 => ?_)
  rw [ht] at hB
  obtain ⟨h1, h2⟩ := app_join hP hD hk1 hF hB.1 hB.2
  exact kk w H1 locs1 hp h1 h2 hS1
/-- returns -/
theorem rd_iret (hx : p.tables.exec = Jvm.exec) (hb : c.code = cc) (hr : meth.sig.returnType = some .int) (hlocks : meth.locks = false) {v : Int32} (hS : va_S (fun q => s.heap.size ≤ q) s.heap H locs) (hp : postI v) (hdg : decode cc pc = .ok (.ireturn, 1)) :
    W p l e R s m args below meth c H locs 0 0 (MQ below (QrI postI (fun q => s.heap.size ≤ q)) args s 0 0 (fun q => s.heap.size ≤ q)) (F0 m pc ls [.int v]) :=
  W.iret hx hb hr (fun t ht _ => ⟨⟨v, (), rfl, hp, trivial⟩, hS.F ht⟩) hS.2.2 hdg hlocks
theorem nar_b {v : Int32} (hv : v = 0 ∨ v = 1) : narrow .boolean (.int v) = .int v := by rcases hv with rfl | rfl <;> rfl
theorem rd_zret (hx : p.tables.exec = Jvm.exec) (hb : c.code = cc) (hr : meth.sig.returnType = some .boolean) (hlocks : meth.locks = false) {v : Int32} (hv : v = 0 ∨ v = 1) (hS : va_S (fun q => s.heap.size ≤ q) s.heap H locs) (hp : postI v) (hdg : decode cc pc = .ok (.ireturn, 1)) :
    W p l e R s m args below meth c H locs 0 0 (MQ below (QrI postI (fun q => s.heap.size ≤ q)) args s 0 0 (fun q => s.heap.size ≤ q)) (F0 m pc ls [.int v]) :=
  W.zret hx hb hr (nar_b hv) (fun t ht _ => ⟨⟨v, (), rfl, hp, trivial⟩, hS.F ht⟩) hS.2.2 hdg hlocks
theorem wr_iret (hx : p.tables.exec = Jvm.exec) (hb : c.code = cc) (hr : meth.sig.returnType = some .int) (hlocks : meth.locks = false) {v : Int32} (hS : va_S A0 s.heap H locs) (hP : PP G wa H) (hp : postW v wa) (hdg : decode cc pc = .ok (.ireturn, 1)) :
    W p l e R s m args below meth c H locs 0 0 (MQ below (QwI G postW A0) args s 0 0 A0) (F0 m pc ls [.int v]) :=
  W.iret hx hb hr (fun t ht _ => ⟨⟨v, wa, rfl, hp, by subst ht; exact hP⟩, hS.F ht⟩) hS.2.2 hdg hlocks
theorem wr_zret (hx : p.tables.exec = Jvm.exec) (hb : c.code = cc) (hr : meth.sig.returnType = some .boolean) (hlocks : meth.locks = false) {v : Int32} (hv : v = 0 ∨ v = 1) (hS : va_S A0 s.heap H locs) (hP : PP G wa H) (hp : postW v wa) (hdg : decode cc pc = .ok (.ireturn, 1)) :
    W p l e R s m args below meth c H locs 0 0 (MQ below (QwI G postW A0) args s 0 0 A0) (F0 m pc ls [.int v]) :=
  W.zret hx hb hr (nar_b hv) (fun t ht _ => ⟨⟨v, wa, rfl, hp, by subst ht; exact hP⟩, hS.F ht⟩) hS.2.2 hdg hlocks
theorem wr_vret (hx : p.tables.exec = Jvm.exec) (hb : c.code = cc) (hr : meth.sig.returnType = none) (hlocks : meth.locks = false) (hS : va_S A0 s.heap H locs) (hP : PP G wa H) (hp : postV wa) (hdg : decode cc pc = .ok (.return_, 1)) :
    W p l e R s m args below meth c H locs 0 0 (MQ below (QwV G postV A0) args s 0 0 A0) (F0 m pc ls []) :=
  W.vret hx hb hr (fun t ht _ => ⟨⟨wa, rfl, hp, by subst ht; exact hP⟩, hS.F ht⟩) hS.2.2 hdg hlocks
theorem mk_vret (hx : p.tables.exec = Jvm.exec) (hb : c.code = cc) (hr : meth.sig.returnType = none) (hlocks : meth.locks = false) (hS : va_S A0 s.heap H locs) (hP : PP G wa H) (hD : va_D A0 wa) (hp : postV wa) (hdg : decode cc pc = .ok (.return_, 1)) :
    W p l e R s m args below meth c H locs cells slots (MQ below (QmV G postV A0) args s cells slots A0) (F0 m pc ls []) :=
  W.vret hx hb hr (fun t ht _ => ⟨⟨wa, rfl, hp, by subst ht; exact ⟨hP, hD⟩⟩, hS.F ht⟩) hS.2.2 hdg hlocks
/-- new arrays of a known class -/
theorem xnewI {t0 : Nat} {ty : FieldType} {cA : ClassId} {atype : ArrayType} (hx : p.tables.exec = Jvm.exec) (hb : c.code = cc) (hts : ∀ w ∈ TB, w.before args s = true) (harr : Cond.arrayClass (newarray.typeOf atype) ∈ TB) (hty : newarray.typeOf atype = ty) (hob : ∀ C, ty ≠ .object C) (hK : KK G s) (ht : (TYS G)[t0]? = some (cA, ty)) (hP : PP G wa H) (hD : va_D A0 wa) (hS : va_S A0 H0 H locs) (hA : ∀ q, H0.size ≤ q → A0 q)
    {n : Int32} {N' : Nat} {a0 : vp_A} (ha : ∀ cA : ClassId, vp_cell cA a0 = arrV cA N' (fun _ => defaultValue ty)) (hn : ¬ n < 0) (hN : n.toNatClampNeg = N') (hbytes : N' * componentBytes ty ≤ 536870912) (hcells : cells + 1 ≤ R.cells) (hslots : slots + N' ≤ R.slots) (hdg : decode cc pc = .ok (.newarray atype, 2))
    (kk : ∀ (q : Nat) (H1 : Heap), PP G (wa ++ [(q, .inl (cA, a0))]) H1 → va_D A0 (wa ++ [(q, .inl (cA, a0))]) → va_S A0 H0 H1 locs → W p l e R s m args below meth c H1 locs (cells + 1) (slots + N') Q (F0 m (pc + 2) ls (.ref q :: rest))) : W p l e R s m args below meth c H locs cells slots Q (F0 m pc ls (.int n :: rest)) := by
  refine va_newa hx hb (hts _ harr) hty hK.1 hP hD hS hA ha hn hN hbytes hcells hslots hdg (fun q cB H1 hK1 hP1 hD1 hS1 => ?_)
  have h1 : va_RA s cB ty := (hK1.2 (TYS G).length (cB, ty) (by simp)).2
  have h2 : va_RA s cA ty := (hK.1.2 t0 _ ht).2
  have he : cB = cA := by
    cases ty with
    | object C => exact absurd rfl (hob C)
    | _ =>
      exact Option.some.inj ((show s.vm.findClass _ = some cB from h1).symm.trans (show s.vm.findClass _ = some cA from h2))
  subst he
  exact kk q H1 hP1 hD1 hS1
theorem xnewQ {t0 : Nat} {C : String} {cA : ClassId} (hx : p.tables.exec = Jvm.exec) (hb : c.code = cc) (hts : ∀ w ∈ TB, w.before args s = true) (hown : s.vm.findClass own = some m.cls) (hcl : Cond.classLink own index C ∈ TB) (hover : va_AO C s) (hK : KK G s) (ht : (TYS G)[t0]? = some (cA, .object C)) (hP : PP G wa H) (hD : va_D A0 wa) (hS : va_S A0 H0 H locs) (hA : ∀ q, H0.size ≤ q → A0 q)
    {n : Int32} {N' : Nat} (hn : ¬ n < 0) (hN : n.toNatClampNeg = N') (hbytes : N' * 4 ≤ 536870912) (hcells : cells + 1 ≤ R.cells) (hslots : slots + N' ≤ R.slots) (hdg : decode cc pc = .ok (.anewarray index, 3))
    (kk : ∀ (q : Nat) (H1 : Heap), PP G (wa ++ [(q, .inl (cA, N', .inr (.inr (.inr (.inr (fun _ => none))))))]) H1 → va_D A0 (wa ++ [(q, .inl (cA, N', .inr (.inr (.inr (.inr (fun _ => none))))))]) → va_S A0 H0 H1 locs → W p l e R s m args below meth c H1 locs (cells + 1) (slots + N') Q (F0 m (pc + 3) ls (.ref q :: rest))) : W p l e R s m args below meth c H locs cells slots Q (F0 m pc ls (.int n :: rest)) := by
  refine va_newq hx hb hown (hts _ hcl) hover hK.1 hP hD hS hA hn hN hbytes hcells hslots hdg (fun q cB H1 hK1 hP1 hD1 hS1 => ?_)
  obtain ⟨_, _, _, _, _, h1⟩ := (show va_RA s cB (.object C) from (hK1.2 (TYS G).length (cB, .object C) (by simp)).2)
  obtain ⟨_, _, _, _, _, h2⟩ := (show va_RA s cA (.object C) from (hK.1.2 t0 _ ht).2)
  cases h1.symm.trans h2
  exact kk q H1 hP1 hD1 hS1
end CB
