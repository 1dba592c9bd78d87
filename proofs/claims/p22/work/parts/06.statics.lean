/-! the class's two static rows of numbers; copying out of one; contracts that read them -/
def ruF : Nat → Value := fun j => .int (match j with | 0 => 3 | 1 => 2 | 2 => 10 | 3 => 1 | 4 => 1 | _ => 0)
def ruM : Nat → Value := fun j => .int (match j with | 0 => 100 | 1 => 6 | 2 => 100 | 3 => 1000000 | 4 => 1000000 | _ => 1)
def ST (A : Nat → Prop) (U : State) (H : Heap) : Prop := (∃ t : Nat, va_Z "CellKeeper" "RULES_AT_FIRST" "[I" (.ref t) A U H ∧ va_T .int t 6 ruF A U H) ∧ ∃ t : Nat, va_Z "CellKeeper" "RULES_AT_MOST" "[I" (.ref t) A U H ∧ va_T .int t 6 ruM A U H
theorem ST.moved {A : Nat → Prop} {u U : State} {H : Heap} (hvm : u.vm.Alike U.vm) (h : ST A u H) : ST A U H := by
  obtain ⟨⟨t, h1, h2⟩, ⟨t', h3, h4⟩⟩ := h
  exact ⟨⟨t, h1.moved hvm, h2.moved hvm⟩, ⟨t', h3.moved hvm, h4.moved hvm⟩⟩
theorem ST.kept {A : Nat → Prop} {U : State} {H H1 : Heap} (h : ST A U H) (hq : ∀ a : Nat, a < H.size → ¬ A a → H1[a]? = H[a]?) : ST A U H1 := by
  obtain ⟨⟨t, h1, h2⟩, ⟨t', h3, h4⟩⟩ := h
  exact ⟨⟨t, h1.kept hq, h2.kept hq⟩, ⟨t', h3.kept hq, h4.kept hq⟩⟩
theorem ST.narrow {A B : Nat → Prop} {U : State} {H : Heap} (h : ST A U H) (hAB : ∀ q, B q → A q) : ST B U H := by
  obtain ⟨⟨t, h1, h2⟩, ⟨t', h3, h4⟩⟩ := h
  exact ⟨⟨t, h1.narrow hAB, h2.narrow hAB⟩, ⟨t', h3.narrow hAB, h4.narrow hAB⟩⟩
def WrVs (l : Launch) (y : MethodName) (cc : ByteArray) (maxL : Nat) (rm : Room) (G : GG) (ws : va_W) (av : List Value) (post : va_W → Prop) : Prop :=
  ∀ sz : Nat, Met l y (wY y cc maxL none) rm (va_Pc av (fun U => WrPc G ws sz U ∧ ST (va_A ws sz) U U.heap)) (QwV G post (va_A ws sz)) 0 0 (va_A ws sz)
def WrIs (l : Launch) (y : MethodName) (cc : ByteArray) (maxL : Nat) (ret : Option FieldType) (rm : Room) (G : GG) (ws : va_W) (av : List Value) (post : Int32 → va_W → Prop) : Prop :=
  ∀ sz : Nat, Met l y (wY y cc maxL ret) rm (va_Pc av (fun U => WrPc G ws sz U ∧ ST (va_A ws sz) U U.heap)) (QwI G post (va_A ws sz)) 0 0 (va_A ws sz)
def MkVs (l : Launch) (y : MethodName) (cc : ByteArray) (maxL : Nat) (rm : Room) (G : GG) (ws : va_W) (av : List Value) (mc ms : Nat) (post : va_W → Prop) : Prop :=
  ∀ sz : Nat, Met l y (wY y cc maxL none) rm (va_Pc av (fun U => WrPc G ws sz U ∧ ST (va_A ws sz) U U.heap)) (QmV G post (va_A ws sz)) mc ms (va_A ws sz)
theorem Ws_blind {G : GG} {ws : va_W} {sz : Nat} {av : List Value} : FrameBlind (va_Pc av (fun U => WrPc G ws sz U ∧ ST (va_A ws sz) U U.heap)) := fun _ U g mk q => ⟨q.1, (Wr_blind (av := av) _ U g mk ⟨q.1, q.2.1⟩).2, q.2.2.moved (u := U) (U := U.calling g mk _) (Vm.Alike.refl U.vm)⟩
section EN
variable {l : Launch} {y : MethodName} {cc : ByteArray} {maxL : Nat} {ret : Option FieldType} {rm : Room} {G : GG} {ws : va_W} {av : List Value}
theorem ws_entryV {post : va_W → Prop} (hy : plainName y.cls = true) (hlen : (lg_sl av).length ≤ maxL)
    (body : ∀ (p : Program) (e : Env) (s : State) (m : MethodId) (below : List Frame) (meth : Method) (c : Code) (A : Nat → Prop), AtM p s m meth c av y cc maxL none → PP G ws s.heap → KK G s → va_D A ws → (∀ q, s.heap.size ≤ q → A q) → ST A s s.heap → ∀ ls : Array Slot, lv_has ls maxL (lv_args 0 av) →
      W p l e rm s m av.toArray below meth c s.heap [] 0 0 (MQ below (QwV G post A) av.toArray s 0 0 A) (F0 m 0 ls [])) : WrVs l y cc maxL rm G ws av post := by
  intro sz
  refine Met.ofW (cc := cc) (maxL := maxL) (ret := none) hy rfl ?_
  intro p e s m args below meth c s₁ B hml hv
  obtain ⟨rfl, ⟨hsz, hP, hK, hD⟩, hT⟩ := hv
  subst hsz
  have hl := lv_entry av (n := maxL) hlen
  rw [lg_entry_eq]
  exact body p e s m below meth c _ (AtM.of B hml) hP hK (hD.self) (fun q h => Or.inr h) hT _ hl
theorem ws_entryI {post : Int32 → va_W → Prop} (hy : plainName y.cls = true) (hlen : (lg_sl av).length ≤ maxL)
    (body : ∀ (p : Program) (e : Env) (s : State) (m : MethodId) (below : List Frame) (meth : Method) (c : Code) (A : Nat → Prop), AtM p s m meth c av y cc maxL ret → PP G ws s.heap → KK G s → va_D A ws → (∀ q, s.heap.size ≤ q → A q) → ST A s s.heap → ∀ ls : Array Slot, lv_has ls maxL (lv_args 0 av) →
      W p l e rm s m av.toArray below meth c s.heap [] 0 0 (MQ below (QwI G post A) av.toArray s 0 0 A) (F0 m 0 ls [])) : WrIs l y cc maxL ret rm G ws av post := by
  intro sz
  refine Met.ofW (cc := cc) (maxL := maxL) (ret := ret) hy rfl ?_
  intro p e s m args below meth c s₁ B hml hv
  obtain ⟨rfl, ⟨hsz, hP, hK, hD⟩, hT⟩ := hv
  subst hsz
  have hl := lv_entry av (n := maxL) hlen
  rw [lg_entry_eq]
  exact body p e s m below meth c _ (AtM.of B hml) hP hK (hD.self) (fun q h => Or.inr h) hT _ hl
theorem mks_entry {post : va_W → Prop} {mc ms : Nat} (hy : plainName y.cls = true) (hlen : (lg_sl av).length ≤ maxL)
    (body : ∀ (p : Program) (e : Env) (s : State) (m : MethodId) (below : List Frame) (meth : Method) (c : Code) (A : Nat → Prop), AtM p s m meth c av y cc maxL none → PP G ws s.heap → KK G s → va_D A ws → (∀ q, s.heap.size ≤ q → A q) → ST A s s.heap → ∀ ls : Array Slot, lv_has ls maxL (lv_args 0 av) →
      W p l e rm s m av.toArray below meth c s.heap [] 0 0 (MQ below (QmV G post A) av.toArray s mc ms A) (F0 m 0 ls [])) : MkVs l y cc maxL rm G ws av mc ms post := by
  intro sz
  refine Met.ofW (cc := cc) (maxL := maxL) (ret := none) hy rfl ?_
  intro p e s m args below meth c s₁ B hml hv
  obtain ⟨rfl, ⟨hsz, hP, hK, hD⟩, hT⟩ := hv
  subst hsz
  have hl := lv_entry av (n := maxL) hlen
  rw [lg_entry_eq]
  exact body p e s m below meth c _ (AtM.of B hml) hP hK (hD.self) (fun q h => Or.inr h) hT _ hl
end EN
section CB
variable {p : Program} {l : Launch} {e : Env} {R : Room} {s : State} {m : MethodId} {args : Array Value} {below : List Frame} {meth : Method} {c : Code} {H : Heap} {locs : List Loc} {cells slots : Nat} {Q : State → Prop}
variable {cc bytes : ByteArray} {pc nL maxL n index : Nat} {ls : Array Slot} {rest st0 As : List Value} {A0 : Nat → Prop} {y : MethodName} {ret : Option FieldType} {rm : Room} {G : GG} {wa wr : va_W} {own : String} {b : Nat} {postW : Int32 → va_W → Prop} {postV : va_W → Prop}
/-- arraycopy of the first numbers of a static row into a row of the world -/
theorem xcopyT {a0 a N k q1 n1 : Nat} {F : Nat → Value} {f g : Nat → Int32} (hx : p.tables.exec = Jvm.exec) (hb : c.code = cc) (hml : c.maxLocals = ls.size) (hown : s.vm.findClass own = some m.cls) (hts : ∀ w ∈ TB, w.before args s = true) (hlink : Cond.methodLink own index arraycopyName ∈ TB) (hnat : Cond.native arraycopyName ∈ TB) (hstat : Cond.static arraycopyName ∈ TB) (hini : Cond.initialized "java/lang/System" ∈ TB)
    (hK : KK G s) (hP : PP G wa H) (hD : va_D A0 wa) (hS : va_S A0 s.heap H locs) (hT : va_T .int a0 N F A0 s s.heap) (hF : ∀ j, j < N → F j = .int (f j)) (ha1 : wa[q1]? = some (a, .inl (G.2.1, n1, .inl g))) (hk : k < 2147483648) (hkN : k ≤ N) (hkn : k ≤ n1)
    (hframes : 1 ≤ R.frames) (hlocals : (rest.map fun v => v.category).sum + (nativeFrameWords "java/lang/System" "arraycopy" 5 + 11) ≤ R.locals) (hdg : decode cc pc = .ok (.invokestatic index, 3))
    (kk : ∀ (H1 : Heap) (locs1 : List Loc), PP G (wa.set q1 (a, .inl (G.2.1, n1, .inl (va_cpy f g 0 0 k)))) H1 → va_D A0 (wa.set q1 (a, .inl (G.2.1, n1, .inl (va_cpy f g 0 0 k)))) → va_S A0 s.heap H1 locs1 → W p l e R s m args below meth c H1 locs1 cells slots Q (F0 m (pc + 3) ls rest)) : W p l e R s m args below meth c H locs cells slots Q (F0 m pc ls (.int (nI k) :: .int 0 :: .ref a :: .int 0 :: .ref a0 :: rest)) := by
  intro T hTh X
  obtain ⟨cell, g1, ⟨g2, kc, g3, cm, g4⟩, g5, g6, -, g7, g8⟩ := hT
  have hsrc : H[a0]? = some cell := by rw [hS.2.1 a0 (Array.getElem?_eq_some_iff.mp g1).1 g8]; exact g1
  have hdst : H[a]? = some (vp_cell G.2.1 (n1, .inl g)) := hP q1 _ ha1
  obtain ⟨-, kd, d3, cd, d4⟩ := (hK.1.2 0 _ rfl).1 n1 (fun j => .int (g j))
  have hread : ∀ j : Nat, j < N → cell.slots[j]? = some (.int (f j)) := fun j hj => by rw [g7 j hj, hF j hj]
  have hc0 : (0 : Int32).toNatClampNeg = 0 := rfl
  have hck : (nI k).toNatClampNeg = k := nI_clamp hk
  obtain ⟨vm', X', step⟩ := X.arraycopy hx hown (hts _ hlink) (hts _ hnat) (hts _ hstat) (hts _ hini) (src := a0) (dst := a) (cs := cell) (cd := vp_cell G.2.1 (n1, .inl g)) (srcPos := 0) (destPos := 0) (n := nI k) (by rw [hTh]; exact hsrc) (by rw [hTh]; exact hdst) g2 (fun _ h => by cases h) g5 (fun h => by cases h) g3 d3 g4 d4 (by simp [refKind]) (by decide) (by decide) (nI_pos hk)
    (by rw [nI_toInt hk]; simp; omega) (by rw [nI_toInt hk]; show ¬ _ > ((arrV G.2.1 n1 (fun j => .int (g j))).slots.size : Int); rw [arrV_size]; simp; omega)
    (fun vm₁ _ i hi => by
      have e : cell.slots.getD ((0 : Int32).toNatClampNeg + i) .null = .int (f i) := by
        rw [hck] at hi
        rw [hc0, Nat.zero_add, Array.getD_eq_getD_getElem?, hread _ (by omega)]; rfl
      exact ⟨by rw [e]; rfl, by rw [e]; exact trivial⟩)
    (g := F0 m pc ls (.int (nI k) :: .int 0 :: .ref a :: .int 0 :: .ref a0 :: rest)) rfl (by rw [hml]) (rest := rest) rfl (by rw [hb]; exact hdg) hframes (by show 2 * 0 + _ + _ ≤ _; omega)
  have hcp : copied cell (vp_cell G.2.1 (n1, .inl g)) 0 0 (nI k) = vp_cell G.2.1 (n1, .inl (va_cpy f g 0 0 k)) := by
    have h := va_copiedX (n1 := n1) (sp := 0) (dp := 0) (n := k) (fun z => .int z) cell G.2.1 f g hread (by omega)
    have e : copied cell (vp_cell G.2.1 (n1, .inl g)) 0 0 (nI k) = (arrV G.2.1 n1 (fun j => .int (g j))).storeRun 0 (cell.stretch 0 (nI k).toNatClampNeg) := rfl
    rw [e, hck, h]; rfl
  rw [hcp] at X' step
  have hlt : a < H.size := (Array.getElem?_eq_some_iff.mp hdst).1
  have oq : ∀ q : Nat, q ≠ a → (H.setIfInBounds a (vp_cell G.2.1 (n1, .inl (va_cpy f g 0 0 k))))[q]? = H[q]? := fun q hq => by simp [Array.getElem?_setIfInBounds, Ne.symm hq]
  have hAa : A0 a := hD.2 q1 _ ha1
  obtain ⟨t, a1, b1⟩ := kk (H.setIfInBounds a (vp_cell G.2.1 (n1, .inl (va_cpy f g 0 0 k)))) _ (hP.set hD ha1 (show (H.setIfInBounds a _)[a]? = some _ by simp [Array.getElem?_setIfInBounds, hlt]) oq) (hD.set ha1)
    ⟨by simp; exact hS.1, fun q q1 q2 => by rw [oq q (fun e => q2 (e ▸ hAa))]; exact hS.2.1 q q1 q2, fun q hq => by
      rcases List.mem_append.mp hq with h | h
      · exact hS.2.2 q h
      · obtain ⟨z, -, hz⟩ := List.mem_map.mp h
        rw [← hz]; exact hAa⟩ _ (by rw [← hTh]; rfl) X'
  exact ⟨t, step t a1, b1⟩
theorem mksI {wb : va_W} {mc ms : Nat} (S : CallFix p m c cc nL s args TB own) (hM : MkVs l y bytes maxL rm G wr (.ref b :: As) mc ms postV) (mi : MI y bytes maxL none n) (hy : y.name = "<init>") (hv : Cond.instanceMethod y ∈ TB) (hlk : Cond.methodLink own index y ∈ TB) (hR : RmOk R rm maxL mc ms) (hK : KK G s) (hT : ST A0 s s.heap)
    (hP : PP G (wb ++ wr) H) (hD : va_D A0 (wb ++ wr))
    (hn : As.length = n) (hsize : ls.size = nL) (hst : st0 = As.reverse ++ .ref b :: rest) (hW : (rest.map fun v => v.category).sum ≤ 8) (hdg : decode cc pc = .ok (.invokespecial index, 3)) (hcs : cells + mc ≤ R.cells ∧ slots + ms ≤ R.slots)
    (hS : va_S A0 s.heap H locs) (hA : ∀ q, s.heap.size ≤ q → A0 q)
    (kk : ∀ (w : va_W) (H1 : Heap) (locs1 : List Loc), postV w → PP G (wb ++ w) H1 → va_D A0 (wb ++ w) → va_S A0 s.heap H1 locs1 → W p l e R s m args below meth c H1 locs1 (cells + mc) (slots + ms) Q (F0 m (pc + 3) ls rest)) : W p l e R s m args below meth c H locs cells slots Q (F0 m pc ls st0) := by
  subst hst
  obtain ⟨hx, hb, hml, hown, hts⟩ := id S
  have hPc : PP G wr H := P_sub hP (fun q h => List.mem_append_right _ h)
  have hDc : va_D A0 wr := D_right hD
  have hF : ∀ q, va_A wr H.size q → A0 q := fun q h => by
    rcases va_A_iff.mp h with ⟨r, hr, rfl⟩ | h
    · exact (nd_iff.mp hDc).2 r hr
    · exact hA q (Nat.le_trans hS.1 h)
  have hTc : ST (va_A wr H.size) s H := (hT.kept hS.2.1).narrow hF
  refine va_callv (va_runI (As := As) (rest := rest) S (hM H.size) ⟨mi_callB hts mi hlk hR, hy, hts _ hv⟩ ⟨Ws_blind, fun U hU hW => ⟨rfl, ⟨by rw [hU], by rw [hU]; exact hPc, hK.warm hW, hDc.weaken (fun _ _ _ _ => trivial)⟩, by rw [hU]; exact hTc.moved hW.alike⟩⟩ rfl hn hsize rfl (lv_room hW) hdg hcs) hS (fun q _ h => hF q h) hF (fun w t H1 locs1 ht _ hp hB _ hk1 hS1 => ?_)
  rw [ht] at hB
  obtain ⟨h1, h2⟩ := app_join hP hD hk1 hF hB.1 hB.2
  exact kk w H1 locs1 hp h1 h2 hS1
theorem mksIN {wb : va_W} {mc ms : Nat} (S : CallFix p m c cc nL s args TB own) (hM : MkVs l y bytes maxL rm G wr (.ref b :: As) mc ms postV) (mi : MI y bytes maxL none n) (hy : y.name = "<init>") (hv : Cond.instanceMethod y ∈ TB) (hlk : (own, index, y) ∈ NSm) (hR : RmOk R rm maxL mc ms) (hK : KK G s) (hT : ST A0 s s.heap)
    (hP : PP G (wb ++ wr) H) (hD : va_D A0 (wb ++ wr))
    (hn : As.length = n) (hsize : ls.size = nL) (hst : st0 = As.reverse ++ .ref b :: rest) (hW : (rest.map fun v => v.category).sum ≤ 8) (hdg : decode cc pc = .ok (.invokespecial index, 3)) (hcs : cells + mc ≤ R.cells ∧ slots + ms ≤ R.slots)
    (hS : va_S A0 s.heap H locs) (hA : ∀ q, s.heap.size ≤ q → A0 q)
    (kk : ∀ (w : va_W) (H1 : Heap) (locs1 : List Loc), postV w → PP G (wb ++ w) H1 → va_D A0 (wb ++ w) → va_S A0 s.heap H1 locs1 → W p l e R s m args below meth c H1 locs1 (cells + mc) (slots + ms) Q (F0 m (pc + 3) ls rest)) : W p l e R s m args below meth c H locs cells slots Q (F0 m pc ls st0) := by
  subst hst
  obtain ⟨hx, hb, hml, hown, hts⟩ := id S
  have hPc : PP G wr H := P_sub hP (fun q h => List.mem_append_right _ h)
  have hDc : va_D A0 wr := D_right hD
  have hF : ∀ q, va_A wr H.size q → A0 q := fun q h => by
    rcases va_A_iff.mp h with ⟨r, hr, rfl⟩ | h
    · exact (nd_iff.mp hDc).2 r hr
    · exact hA q (Nat.le_trans hS.1 h)
  have hTc : ST (va_A wr H.size) s H := (hT.kept hS.2.1).narrow hF
  refine va_callv (va_runIN (As := As) (rest := rest) S (hM H.size) ⟨mi_cn hts mi hK hlk hR, hy, hts _ hv⟩ ⟨Ws_blind, fun U hU hW => ⟨rfl, ⟨by rw [hU], by rw [hU]; exact hPc, hK.warm hW, hDc.weaken (fun _ _ _ _ => trivial)⟩, by rw [hU]; exact hTc.moved hW.alike⟩⟩ rfl hn hsize rfl (lv_room hW) hdg hcs) hS (fun q _ h => hF q h) hF (fun w t H1 locs1 ht _ hp hB _ hk1 hS1 => ?_)
  rw [ht] at hB
  obtain ⟨h1, h2⟩ := app_join hP hD hk1 hF hB.1 hB.2
  exact kk w H1 locs1 hp h1 h2 hS1
end CB
