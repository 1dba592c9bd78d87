/-! contracts and calls: RdI reads alone; WrI, WrV write their cells; MkV makes cells -/
abbrev wY (y : MethodName) (cc : ByteArray) (maxL : Nat) (ret : Option FieldType) : List Cond := Cond.code y cc maxL ret :: TB
def RdPc (G : GG) (ws : va_W) (sz : Nat) (U : State) : Prop := U.heap.size = sz ∧ PP G ws U.heap ∧ KK G U
def WrPc (G : GG) (ws : va_W) (sz : Nat) (U : State) : Prop := U.heap.size = sz ∧ PP G ws U.heap ∧ KK G U ∧ va_D (fun _ => True) ws
abbrev QrI (post : Int32 → Prop) (A : Nat → Prop) := va_Qi (fun (r : Int32) (_ : Unit) => post r) (fun _ _ => True) A
abbrev QwI (G : GG) (post : Int32 → va_W → Prop) (A : Nat → Prop) := va_Qi post (fun (w : va_W) (t : State) => PP G w t.heap) A
abbrev QwV (G : GG) (post : va_W → Prop) (A : Nat → Prop) := va_Qv post (fun (w : va_W) (t : State) => PP G w t.heap) A
abbrev QmV (G : GG) (post : va_W → Prop) (A : Nat → Prop) := va_Qv post (fun (w : va_W) (t : State) => PP G w t.heap ∧ va_D A w) A
def RdI (l : Launch) (y : MethodName) (cc : ByteArray) (maxL : Nat) (ret : Option FieldType) (rm : Room) (G : GG) (ws : va_W) (av : List Value) (post : Int32 → Prop) : Prop :=
  ∀ sz : Nat, Met l y (wY y cc maxL ret) rm (va_Pc av (RdPc G ws sz)) (QrI post (fun q => sz ≤ q)) 0 0 (fun q => sz ≤ q)
def WrI (l : Launch) (y : MethodName) (cc : ByteArray) (maxL : Nat) (ret : Option FieldType) (rm : Room) (G : GG) (ws : va_W) (av : List Value) (post : Int32 → va_W → Prop) : Prop :=
  ∀ sz : Nat, Met l y (wY y cc maxL ret) rm (va_Pc av (WrPc G ws sz)) (QwI G post (va_A ws sz)) 0 0 (va_A ws sz)
def WrV (l : Launch) (y : MethodName) (cc : ByteArray) (maxL : Nat) (rm : Room) (G : GG) (ws : va_W) (av : List Value) (post : va_W → Prop) : Prop :=
  ∀ sz : Nat, Met l y (wY y cc maxL none) rm (va_Pc av (WrPc G ws sz)) (QwV G post (va_A ws sz)) 0 0 (va_A ws sz)
def MkV (l : Launch) (y : MethodName) (cc : ByteArray) (maxL : Nat) (rm : Room) (G : GG) (ws : va_W) (av : List Value) (mc ms : Nat) (post : va_W → Prop) : Prop :=
  ∀ sz : Nat, Met l y (wY y cc maxL none) rm (va_Pc av (WrPc G ws sz)) (QmV G post (va_A ws sz)) mc ms (va_A ws sz)
theorem Rd_blind {G : GG} {ws : va_W} {sz : Nat} {av : List Value} : FrameBlind (va_Pc av (RdPc G ws sz)) := fun _ _ _ _ q => ⟨q.1, q.2.1, q.2.2.1, q.2.2.2.blind⟩
theorem Wr_blind {G : GG} {ws : va_W} {sz : Nat} {av : List Value} : FrameBlind (va_Pc av (WrPc G ws sz)) := fun _ _ _ _ q => ⟨q.1, q.2.1, q.2.2.1, q.2.2.2.1.blind, q.2.2.2.2⟩
/-- what holds at a method's entry -/
def AtM (p : Program) (s : State) (m : MethodId) (meth : Method) (c : Code) (av : List Value) (y : MethodName) (cc : ByteArray) (maxL : Nat) (ret : Option FieldType) : Prop :=
  p.tables.exec = Jvm.exec ∧ c.code = cc ∧ c.maxLocals = maxL ∧ s.vm.findClass y.cls = some m.cls ∧ (∀ w ∈ TB, w.before av.toArray s = true) ∧ meth.sig.returnType = ret ∧ meth.locks = false ∧ meth.name = y.name
theorem AtM.of {p : Program} {l : Launch} {e : Env} {s s₁ : State} {m : MethodId} {below : List Frame} {meth : Method} {c : Code} {y : MethodName} {cc : ByteArray} {maxL : Nat} {ret : Option FieldType} {rm : Room} {av : List Value} (B : BodyLoose p l y (headSpec (wY y cc maxL ret) rm) cc maxL ret e s m av.toArray below meth c s₁) (hml : c.maxLocals = maxL) : AtM p s m meth c av y cc maxL ret := by
  have hts := atoms_spec (ws := wY y cc maxL ret) B.pre
  exact ⟨B.exec, B.bytes, hml, findClass_of_methodNamed B.named, fun w h => hts w (List.mem_cons_of_mem _ h), B.returns, B.notSynchronized, (name_of_methodNamed B.named B.method).1⟩
section EN
variable {l : Launch} {y : MethodName} {cc : ByteArray} {maxL : Nat} {ret : Option FieldType} {rm : Room} {G : GG} {ws : va_W} {av : List Value}
theorem rd_entry {post : Int32 → Prop} (hy : plainName y.cls = true) (hlen : (lg_sl av).length ≤ maxL)
    (body : ∀ (p : Program) (e : Env) (s : State) (m : MethodId) (below : List Frame) (meth : Method) (c : Code), AtM p s m meth c av y cc maxL ret → PP G ws s.heap → KK G s → ∀ ls : Array Slot, lv_has ls maxL (lv_args 0 av) →
      W p l e rm s m av.toArray below meth c s.heap [] 0 0 (MQ below (QrI post (fun q => s.heap.size ≤ q)) av.toArray s 0 0 (fun q => s.heap.size ≤ q)) (F0 m 0 ls [])) : RdI l y cc maxL ret rm G ws av post := by
  intro sz
  refine Met.ofW (cc := cc) (maxL := maxL) (ret := ret) hy rfl ?_
  intro p e s m args below meth c s₁ B hml hv
  obtain ⟨rfl, hsz, hP, hK⟩ := hv
  subst hsz
  have hl := lv_entry av (n := maxL) hlen
  rw [lg_entry_eq]
  exact body p e s m below meth c (AtM.of B hml) hP hK _ hl
theorem wr_entryI {post : Int32 → va_W → Prop} (hy : plainName y.cls = true) (hlen : (lg_sl av).length ≤ maxL)
    (body : ∀ (p : Program) (e : Env) (s : State) (m : MethodId) (below : List Frame) (meth : Method) (c : Code) (A : Nat → Prop), AtM p s m meth c av y cc maxL ret → PP G ws s.heap → KK G s → va_D A ws → (∀ q, s.heap.size ≤ q → A q) → ∀ ls : Array Slot, lv_has ls maxL (lv_args 0 av) →
      W p l e rm s m av.toArray below meth c s.heap [] 0 0 (MQ below (QwI G post A) av.toArray s 0 0 A) (F0 m 0 ls [])) : WrI l y cc maxL ret rm G ws av post := by
  intro sz
  refine Met.ofW (cc := cc) (maxL := maxL) (ret := ret) hy rfl ?_
  intro p e s m args below meth c s₁ B hml hv
  obtain ⟨rfl, hsz, hP, hK, hD⟩ := hv
  subst hsz
  have hl := lv_entry av (n := maxL) hlen
  rw [lg_entry_eq]
  exact body p e s m below meth c _ (AtM.of B hml) hP hK (hD.self) (fun q h => Or.inr h) _ hl
theorem wr_entryV {post : va_W → Prop} (hy : plainName y.cls = true) (hlen : (lg_sl av).length ≤ maxL)
    (body : ∀ (p : Program) (e : Env) (s : State) (m : MethodId) (below : List Frame) (meth : Method) (c : Code) (A : Nat → Prop), AtM p s m meth c av y cc maxL none → PP G ws s.heap → KK G s → va_D A ws → (∀ q, s.heap.size ≤ q → A q) → ∀ ls : Array Slot, lv_has ls maxL (lv_args 0 av) →
      W p l e rm s m av.toArray below meth c s.heap [] 0 0 (MQ below (QwV G post A) av.toArray s 0 0 A) (F0 m 0 ls [])) : WrV l y cc maxL rm G ws av post := by
  intro sz
  refine Met.ofW (cc := cc) (maxL := maxL) (ret := none) hy rfl ?_
  intro p e s m args below meth c s₁ B hml hv
  obtain ⟨rfl, hsz, hP, hK, hD⟩ := hv
  subst hsz
  have hl := lv_entry av (n := maxL) hlen
  rw [lg_entry_eq]
  exact body p e s m below meth c _ (AtM.of B hml) hP hK (hD.self) (fun q h => Or.inr h) _ hl
theorem mk_entry {post : va_W → Prop} {mc ms : Nat} (hy : plainName y.cls = true) (hlen : (lg_sl av).length ≤ maxL)
    (body : ∀ (p : Program) (e : Env) (s : State) (m : MethodId) (below : List Frame) (meth : Method) (c : Code) (A : Nat → Prop), AtM p s m meth c av y cc maxL none → PP G ws s.heap → KK G s → va_D A ws → (∀ q, s.heap.size ≤ q → A q) → ∀ ls : Array Slot, lv_has ls maxL (lv_args 0 av) →
      W p l e rm s m av.toArray below meth c s.heap [] 0 0 (MQ below (QmV G post A) av.toArray s mc ms A) (F0 m 0 ls [])) : MkV l y cc maxL rm G ws av mc ms post := by
  intro sz
  refine Met.ofW (cc := cc) (maxL := maxL) (ret := none) hy rfl ?_
  intro p e s m args below meth c s₁ B hml hv
  obtain ⟨rfl, hsz, hP, hK, hD⟩ := hv
  subst hsz
  have hl := lv_entry av (n := maxL) hlen
  rw [lg_entry_eq]
  exact body p e s m below meth c _ (AtM.of B hml) hP hK (hD.self) (fun q h => Or.inr h) _ hl
end EN
/-- what is known of a method that is called: its words, and that it has n parameters -/
def MI (y : MethodName) (cc : ByteArray) (maxL : Nat) (ret : Option FieldType) (n : Nat) : Prop :=
  Cond.initialized y.cls ∈ TB ∧ Cond.code y cc maxL ret ∈ TB ∧ y.cls ≠ "java/lang/invoke/MethodHandle" ∧ y.cls ≠ "java/lang/invoke/VarHandle" ∧ (parseMethodDescriptor y.desc).map (fun d => d.parameters.length) = some n
abbrev RmOk (R rm : Room) (maxL mc ms : Nat) : Prop := rm.cells = mc ∧ rm.slots = ms ∧ rm.frames + 1 ≤ R.frames ∧ 8 + (maxL + 11) + rm.locals ≤ R.locals
theorem wY_good {y : MethodName} {cc : ByteArray} {maxL : Nat} {ret : Option FieldType} (h : Cond.code y cc maxL ret ∈ TB) : GoodIn TB (wY y cc maxL ret) := fun w hw => by
  rcases List.mem_cons.mp hw with rfl | hw
  · exact TB_good _ h
  · exact TB_good _ hw
section CB
variable {p : Program} {l : Launch} {e : Env} {R : Room} {s : State} {m : MethodId} {args : Array Value} {below : List Frame} {meth : Method} {c : Code} {H H0 : Heap} {locs : List Loc} {cells slots : Nat} {Q : State → Prop}
variable {cc bytes : ByteArray} {pc nL maxL n index mc ms : Nat} {ls : Array Slot} {rest st0 As : List Value} {A0 : Nat → Prop} {y : MethodName} {ret : Option FieldType} {rm : Room} {G : GG} {wa wr : va_W} {own : String} {b : Nat} {postI : Int32 → Prop} {postW : Int32 → va_W → Prop} {postV : va_W → Prop}
theorem mi_callB (ht : ∀ w ∈ TB, w.before args s = true) (mi : MI y bytes maxL ret n) (hl : Cond.methodLink own index y ∈ TB) (hR : RmOk R rm maxL mc ms) : CallB R s args own index y bytes maxL ret (wY y bytes maxL ret) rm mc ms n :=
  callB_of n ht (wY_good mi.2.1) rfl hR.1 hR.2.1 (ht _ mi.1) (ht _ hl) mi.2.2 hR.2.2
theorem mi_cn (ht : ∀ w ∈ TB, w.before args s = true) (mi : MI y bytes maxL ret n) (hK : KK G s) (hl : (own, index, y) ∈ NSm) (hR : RmOk R rm maxL mc ms) : va_CN R s args own index y "CellKeeper" bytes maxL ret (wY y bytes maxL ret) rm mc ms n :=
  va_cnB n ht (wY_good mi.2.1) rfl hR.1 hR.2.1 (hK.2.1 _ hl) (ht _ mi.1) mi.2.2 hR.2.2
theorem rd_back {args' : Array Value} (hS : va_S A0 H0 H locs) (hA : ∀ q, H0.size ≤ q → A0 q) (hP : PP G wa H)
    (hr : va_Run p l e R s m args below meth c H locs cells slots 0 0 (F0 m pc ls st0) rest (QrI postI (fun q => H.size ≤ q) args') (fun q => H.size ≤ q))
    (kk : ∀ (r : Int32) (H1 : Heap) (locs1 : List Loc), postI r → PP G wa H1 → va_S A0 H0 H1 locs1 → W p l e R s m args below meth c H1 locs1 cells slots Q (F0 m (pc + 3) ls (.int r :: rest))) : W p l e R s m args below meth c H locs cells slots Q (F0 m pc ls st0) := by
  refine va_calli hr hS (fun q h1 h2 => absurd h1 (Nat.not_lt.mpr h2)) (fun q h => hA q (Nat.le_trans hS.1 h)) (fun r _ t H1 locs1 _ _ hp _ _ hk1 hS1 => ?_)
  exact kk r H1 locs1 hp (hP.kept (fun k q hq => hk1 q.1 (hP k q hq).lt (Nat.not_le.mpr (hP k q hq).lt))) hS1
end CB
