/-! THE CLAIM OUT OF ONE WALK OF THE LAW'S BODY. Your part is whole_start (and what it stands on); all else here is the same for every law, but numbers. -/
def R_law : String := "CellKeeperLaw"
def lw_P (b : Addr) (xs : List Int32) (args : Array Value) (s : State) : Prop := args = #[.ref b] ∧ s.IntsAt b xs ∧ xs.length ≤ 3072 ∧ (Jvm.Cond.and given_1 narrow_1).before args s = true
def lw_Q (_ : Array Value) (s : State) (o : Outcome) (t : State) : Prop := o = .returned (some (.int 1)) ∧ Framed s o t [] 600000 7302250
def lw_Z (below : List Frame) (a : Array Value) (s : State) : State → Prop := fun t => ∃ o, t.status = .running ∧ Ended t below o ∧ lw_Q a s o t
/-- the law's own end, with 1 on the stack, nothing written that was there before, its room as the claim has it -/
theorem lw_ret {p : Program} {l : Launch} {e : Env} {s : State} {m : MethodId} {below : List Frame} {meth : Method} {c : Code} {b : Nat} (hx : p.tables.exec = Jvm.exec) (hb : c.code = code) (hr : meth.sig.returnType = ret) (hlocks : meth.locks = false) {pc : Nat} {H : Heap} {ls : Array Slot} (hdg : decode code pc = .ok (.ireturn, 1)) : W p l e room_1 s m #[Value.ref b] below meth c H [] 600000 7302250 (lw_Z below #[Value.ref b] s) (F0 m pc ls [.int 1]) := by
  intro T hT X
  obtain ⟨fs, hret, hrun, hended, hW, hframe⟩ := X.leave (v := some (.int 1)) (hlocks := hlocks) (fun h => by rw [hr] at h; cases h)
  have hmeth' : T.vm.method? m = some meth := X.method'
  refine ⟨T.setFrames fs, ?_, .returned (some (.int 1)), hrun, hended, rfl, ⟨_, rfl⟩, hW, hframe⟩
  jvm_step X.here [X.here.top, hx, hb, hdg, hmeth', hr, ret, narrow_b1]
  (try refine ⟨rfl, ?_⟩); (try refine ⟨rfl, ?_⟩)
  first | (intro acts; rw [hret _ acts rfl rfl rfl]) | rw [hret _ _ rfl rfl rfl]
  exact Steps.refl _
/-- what holds at the law's entry: the machine, the code, the tables' words (any of lw_tbl by 'hts w (by decide +kernel)'), the script of L ints xs at the cell b, what the Statement gives of the start (any of its parts by flat_of_before) -/
def lw_At (p : Program) (s : State) (m : MethodId) (meth : Method) (c : Code) (b L : Nat) (xs : Nat → Int32) : Prop :=
  p.tables.exec = Jvm.exec ∧ c.code = code ∧ meth.sig.returnType = ret ∧ c.maxLocals = 4 ∧ s.vm.findClass R_law = some m.cls ∧ (∀ w ∈ lw_tbl, w.before #[Value.ref b] s = true) ∧ va_X b L xs s s.heap ∧ b < s.heap.size ∧ meth.locks = false ∧ (Jvm.Cond.and given_1 narrow_1).before #[Value.ref b] s = true
/-! the worlds of both sides as the law has them -/
abbrev hdM (G : GG) (x : Nat) (xa a ga ua la lb : Nat → Nat) (tg : Nat → Option Nat) (xf : Nat → Int32) : va_W := [(x, .inr (6, [.int (xf 0), .ref (xa 1), .ref (a 15), .ref (ga 9), .ref (ua 0), .ref (la 0), .ref (lb 0), .int (xf 7), .ref (xa 8), .int (xf 9)])), ((xa 1), .inl (G.2.2.2.1, 6, .inr (.inr (.inr (.inr tg)))))]
abbrev midM (G : GG) (xa a b ga ua la lb : Nat → Nat) (gg : Nat → Option Nat) (f qf gf uf lf mf : Nat → Int32) (r q gr ur lr mr : Nat → Nat → Int32) : va_W := (((a 15), .inr (2, [.int (f 0), .int (f 1), .int (f 2), .int (f 3), .int (f 4), .ref (b 3), .ref (a 6), .ref (a 7), .ref (a 8), .ref (a 9), .ref (a 10), .ref (a 11), .ref (a 12), .ref (a 13), .ref (a 14)])) :: ((a 6), .inl (G.2.2.1, 12, .inl (r 6))) :: ((a 7), .inl (G.2.1, 12, .inl (r 7))) :: ((a 8), .inl (G.2.1, 144, .inl (r 8))) :: ((a 9), .inl (G.2.1, 144, .inl (r 9))) :: ((a 10), .inl (G.2.1, 144, .inl (r 10))) :: ((a 11), .inl (G.2.2.1, 144, .inl (r 11))) :: ((a 12), .inl (G.2.1, 144, .inl (r 12))) :: ((a 13), .inl (G.2.1, 144, .inl (r 13))) :: ((a 14), .inl (G.2.1, 144, .inl (r 14))) :: ((b 3), .inr (5, [.ref (b 0), .ref (b 1), .ref (b 2), .int (qf 3)])) :: ((b 0), .inl (G.2.1, 25, .inl (q 0))) :: ((b 1), .inl (G.2.1, 25, .inl (q 1))) :: ((b 2), .inl (G.2.1, 25, .inl (q 2))) :: ((ga 9), .inr (0, [.ref (ga 0), .ref (ga 1), .ref (ga 2), .ref (ga 3), .int (gf 4), .int (gf 5), .int (gf 6), .int (gf 7), .int (gf 8)])) :: ((ga 0), .inl (G.2.2.1, 144, .inl (gr 0))) :: ((ga 1), .inl (G.2.1, 8, .inl (gr 1))) :: ((ga 2), .inl (G.2.1, 8, .inl (gr 2))) :: ((ga 3), .inl (G.2.1, 256, .inl (gr 3))) :: ((ua 0), .inr (3, [.ref (ua 23), .ref (ua 1), .ref (ua 2), .ref (ua 3), .ref (ua 4), .ref (ua 5), .ref (ua 6), .ref (ua 7)])) :: ((ua 1), .inl (G.2.1, 144, .inl (ur 1))) :: ((ua 2), .inl (G.2.2.1, 144, .inl (ur 2))) :: ((ua 3), .inl (G.2.1, 25, .inl (ur 3))) :: ((ua 4), .inl (G.2.1, 25, .inl (ur 4))) :: ((ua 5), .inl (G.2.1, 25, .inl (ur 5))) :: ((ua 6), .inl (G.2.1, 25, .inl (ur 6))) :: ((ua 7), .inl (G.2.2.1, 12, .inl (ur 7))) :: ((ua 23), .inr (5, [.ref (ua 20), .ref (ua 21), .ref (ua 22), .int (uf 3)])) :: ((ua 20), .inl (G.2.1, 25, .inl (ur 20))) :: ((ua 21), .inl (G.2.1, 25, .inl (ur 21))) :: ((ua 22), .inl (G.2.1, 25, .inl (ur 22))) :: ((la 0), .inr (1, [.int (lf 0), .int (lf 1), .ref (la 1)])) :: ((la 1), .inl (G.2.1, 144, .inl (lr 2))) :: ((lb 0), .inr (1, [.int (mf 0), .int (mf 1), .ref (lb 1)])) :: ((lb 1), .inl (G.2.1, 144, .inl (mr 2))) :: ((xa 8), .inl (G.2.2.2.2, 16, .inr (.inr (.inr (.inr gg))))) :: [])
abbrev gW (G : GG) (la : Nat → Nat) (nf : Nat → Int32) (nr : Nat → Nat → Int32) : va_W := [((la 0), .inr (1, [.int (nf 0), .int (nf 1), .ref (la 1)])), ((la 1), .inl (G.2.1, 144, .inl (nr 2)))]
def tabs (G : GG) (tA : Nat → Nat → Nat) (tF : Nat → Nat → Int32) (tR : Nat → Nat → Nat → Int32) (js : List Nat) : va_W := js.flatMap (fun j => tW G (tA j) (tF j) (tR j))
def gfts (G : GG) (gA : Nat → Nat → Nat) (nF : Nat → Nat → Int32) (nR : Nat → Nat → Nat → Int32) (ks : List Nat) : va_W := ks.flatMap (fun k => gW G (gA k) (nF k) (nR k))
abbrev xFull (G : GG) (x : Nat) (xa : Nat → Nat) (tA : Nat → Nat → Nat) (a b ga ua la lb : Nat → Nat) (gA : Nat → Nat → Nat) (xf f qf gf uf lf mf : Nat → Int32) (r q gr ur lr mr : Nat → Nat → Int32) (tF : Nat → Nat → Int32) (tR : Nat → Nat → Nat → Int32) (nF : Nat → Nat → Int32) (nR : Nat → Nat → Nat → Int32) : va_W := (hdM G x xa a ga ua la lb (rfn tA 6) xf ++ midM G xa a b ga ua la lb (rfn gA 16) f qf gf uf lf mf r q gr ur lr mr) ++ (tabs G tA tF tR (List.range 6) ++ gfts G gA nF nR (List.range 16))
abbrev xRest (G : GG) (tA gA : Nat → Nat → Nat) (tF : Nat → Nat → Int32) (tR : Nat → Nat → Nat → Int32) (nF : Nat → Nat → Int32) (nR : Nat → Nat → Nat → Int32) (j k : Nat) : va_W := tabs G tA tF tR ((List.range 6).erase j) ++ gfts G gA nF nR ((List.range 16).erase k)
theorem pm6 {α : Type} (A M T TR L GR : List α) : ((A ++ M) ++ ((T ++ TR) ++ (L ++ GR))).Perm ((A ++ (T ++ (M ++ L))) ++ (TR ++ GR)) := by
  simp only [List.append_assoc]
  refine List.Perm.append_left A ?_
  refine (List.perm_append_comm_assoc M T _).trans (List.Perm.append_left T (List.Perm.append_left M ?_))
  exact List.perm_append_comm_assoc TR L GR
theorem fm_split {α : Type} {js : List Nat} {j : Nat} (f : Nat → List α) (h : j ∈ js) : (js.flatMap f).Perm (f j ++ (js.erase j).flatMap f) := List.Perm.flatMap_right f (List.perm_cons_erase h)
theorem xf_perm (G : GG) (x : Nat) (xa : Nat → Nat) (tA : Nat → Nat → Nat) (a b ga ua la lb : Nat → Nat) (gA : Nat → Nat → Nat) (xf f qf gf uf lf mf : Nat → Int32) (r q gr ur lr mr : Nat → Nat → Int32) (tF : Nat → Nat → Int32) (tR : Nat → Nat → Nat → Int32) (nF : Nat → Nat → Int32) (nR : Nat → Nat → Nat → Int32) {j k : Nat} (hj : j < 6) (hk : k < 16) : (xFull G x xa tA a b ga ua la lb gA xf f qf gf uf lf mf r q gr ur lr mr tF tR nF nR).Perm (xM G x xa (tA j) a b ga ua la lb (gA k) (rfn tA 6) (rfn gA 16) xf (tF j) f qf gf uf lf mf (nF k) (tR j) r q gr ur lr mr (nR k) ++ xRest G tA gA tF tR nF nR j k) := by
  have h1 := fm_split (js := List.range 6) (fun j => tW G (tA j) (tF j) (tR j)) (List.mem_range.mpr hj)
  have h2 := fm_split (js := List.range 16) (fun k => gW G (gA k) (nF k) (nR k)) (List.mem_range.mpr hk)
  exact (List.Perm.append_left _ (List.Perm.append h1 h2)).trans (pm6 (hdM G x xa a ga ua la lb (rfn tA 6) xf) (midM G xa a b ga ua la lb (rfn gA 16) f qf gf uf lf mf r q gr ur lr mr) (tW G (tA j) (tF j) (tR j)) _ (gW G (gA k) (nF k) (nR k)) _)
theorem perm_app {X C R M : va_W} (h : X.Perm (C ++ R)) : (X ++ M).Perm (C ++ (R ++ M)) := by
  rw [← List.append_assoc]; exact List.Perm.append_right M h
def tOK (tf : Nat → Int32) (tr : Nat → Nat → Int32) : Prop := nL 12 (tf 1) ∧ nL 12 (tf 2) ∧ nL 12 (tf 3) ∧ nOK 12 12 (tr 4)
def lOK (lf : Nat → Int32) : Prop := nL 12 (lf 0) ∧ nL 12 (lf 1)
def XI (xf f qf gf uf lf mf : Nat → Int32) (r q gr ur lr mr : Nat → Nat → Int32) (tF : Nat → Nat → Int32) (tR : Nat → Nat → Nat → Int32) (nF : Nat → Nat → Int32) (nR : Nat → Nat → Nat → Int32) : Prop := (∀ j, j < 6 → tOK (tF j) (tR j)) ∧ RB adjR (q 0) ∧ lOK lf ∧ lOK mf ∧ (∀ k, k < 16 → lOK (nF k)) ∧ nL 16 (xf 9)
def XS (G : GG) (x : Nat) (xa : Nat → Nat) (tA : Nat → Nat → Nat) (a b ga ua la lb : Nat → Nat) (gA : Nat → Nat → Nat) (tF : Nat → Nat → Int32) (tR : Nat → Nat → Nat → Int32) (wX : va_W) : Prop := ∃ (xf f qf gf uf lf mf : Nat → Int32) (r q gr ur lr mr : Nat → Nat → Int32) (nF : Nat → Nat → Int32) (nR : Nat → Nat → Nat → Int32), XI xf f qf gf uf lf mf r q gr ur lr mr tF tR nF nR ∧ wX = xFull G x xa tA a b ga ua la lb gA xf f qf gf uf lf mf r q gr ur lr mr tF tR nF nR
theorem XS_back {G : GG} {x : Nat} {xa : Nat → Nat} {tA : Nat → Nat → Nat} {a b ga ua la lb : Nat → Nat} {gA : Nat → Nat → Nat} {xf f qf gf uf lf mf : Nat → Int32} {r q gr ur lr mr : Nat → Nat → Int32} {tF : Nat → Nat → Int32} {tR : Nat → Nat → Nat → Int32} {nF : Nat → Nat → Int32} {nR : Nat → Nat → Nat → Int32} {j k : Nat} (hI : XI xf f qf gf uf lf mf r q gr ur lr mr tF tR nF nR) (hj : j < 6) (hk : k < 16) (xf2 tf2 f2 qf2 gf2 uf2 lf2 mf2 nf2 : Nat → Int32) (tr2 r2 q2 gr2 ur2 lr2 mr2 nr2 : Nat → Nat → Int32) (hT : tOK tf2 tr2) (hRB : RB adjR (q2 0)) (hL : lOK lf2) (hM : lOK mf2) (hN : lOK nf2) (h9 : nL 16 (xf2 9)) : XS G x xa tA a b ga ua la lb gA (upA tF j tf2) (upA tR j tr2) (xFull G x xa tA a b ga ua la lb gA xf2 f2 qf2 gf2 uf2 lf2 mf2 r2 q2 gr2 ur2 lr2 mr2 (upA tF j tf2) (upA tR j tr2) (upA nF k nf2) (upA nR k nr2)) ∧ (xFull G x xa tA a b ga ua la lb gA xf2 f2 qf2 gf2 uf2 lf2 mf2 r2 q2 gr2 ur2 lr2 mr2 (upA tF j tf2) (upA tR j tr2) (upA nF k nf2) (upA nR k nr2)).Perm (xM G x xa (tA j) a b ga ua la lb (gA k) (rfn tA 6) (rfn gA 16) xf2 tf2 f2 qf2 gf2 uf2 lf2 mf2 nf2 tr2 r2 q2 gr2 ur2 lr2 mr2 nr2 ++ xRest G tA gA tF tR nF nR j k) := by
  refine ⟨⟨_, _, _, _, _, _, _, _, _, _, _, _, _, _, _, ⟨fun i hi => ?_, hRB, hL, hM, fun i hi => ?_, h9⟩, rfl⟩, ?_⟩
  · by_cases e : i = j
    · subst e; rw [upA_s, upA_s]; exact hT
    · rw [upA_n e, upA_n e]; exact hI.1 i hi
  · by_cases e : i = k
    · subst e; rw [upA_s]; exact hN
    · rw [upA_n e]; exact hI.2.2.2.2.1 i hi
  · have h := xf_perm G x xa tA a b ga ua la lb gA xf2 f2 qf2 gf2 uf2 lf2 mf2 r2 q2 gr2 ur2 lr2 mr2 (upA tF j tf2) (upA tR j tr2) (upA nF k nf2) (upA nR k nr2) hj hk
    have e1 : tabs G tA (upA tF j tf2) (upA tR j tr2) ((List.range 6).erase j) = tabs G tA tF tR ((List.range 6).erase j) := fm_congr (fun i hi => by
      have hne : i ≠ j := ((List.Nodup.mem_erase_iff List.nodup_range).mp hi).1
      rw [upA_n hne, upA_n hne])
    have e2 : gfts G gA (upA nF k nf2) (upA nR k nr2) ((List.range 16).erase k) = gfts G gA nF nR ((List.range 16).erase k) := fm_congr (fun i hi => by
      have hne : i ≠ k := ((List.Nodup.mem_erase_iff List.nodup_range).mp hi).1
      rw [upA_n hne, upA_n hne])
    rw [upA_s, upA_s, upA_s, upA_s] at h
    unfold xRest at h
    rw [e1, e2] at h
    exact h
theorem tbJ_ex (t : Int32) : ∃ j, j < 6 ∧ tbJ t j := by
  by_cases h : ∃ n, n < 6 ∧ t = nI n
  · obtain ⟨n, hn, e⟩ := h
    exact ⟨n, hn, fun k hk e2 => (nI_eq (by omega) (by omega)).mp (e2.symm.trans e)⟩
  · exact ⟨0, by decide, fun n hn e => absurd ⟨n, hn, e⟩ h⟩
theorem gfJ_ex (t : Int32) : ∃ k, k < 16 ∧ gfJ t k := by
  by_cases h : ∃ n, n < 16 ∧ t = nI n
  · obtain ⟨n, hn, e⟩ := h
    exact ⟨n, hn, fun k hk e2 => (nI_eq (by omega) (by omega)).mp (e2.symm.trans e)⟩
  · exact ⟨0, by decide, fun n hn e => absurd ⟨n, hn, e⟩ h⟩
def MIv (f : Nat → Int32) (r : Nat → Nat → Int32) : Prop := nOK 6 12 (r 2) ∧ nOK 6 12 (r 3) ∧ nOK 6 12 (r 12) ∧ nOK 864 6 (r 7) ∧ nL 12 (f 27) ∧ nL 12 (f 28) ∧ nL 12 (f 34) ∧ nL 12 (f 35) ∧ nL 16 (f 42) ∧ nOK 16 12 (r 40) ∧ nOK 16 12 (r 41)
def MS (G : GG) (y : Nat) (bb : Nat → Nat) (r7 : Nat → Nat → Int32) (wM : va_W) : Prop := ∃ (f7 : Nat → Int32), MIv f7 r7 ∧ wM = mM G y bb f7 r7
section LC
variable {p : Program} {l : Launch} {e : Env} {R : Room} {s : State} {m : MethodId} {args : Array Value} {below : List Frame} {meth : Method} {c : Code} {H : Heap} {locs : List Loc} {cells slots : Nat} {Q : State → Prop}
variable {cc bytes : ByteArray} {pc nL_ maxL n index : Nat} {ls : Array Slot} {rest st0 As : List Value} {A0 : Nat → Prop} {y : MethodName} {ret : Option FieldType} {rm : Room} {G : GG} {wa wc wr : va_W} {own : String} {b : Nat} {postW : Int32 → va_W → Prop}
theorem xsld {L b : Nat} {xs : Nat → Int32} {i : Int32} (j : Nat) (hx : p.tables.exec = Jvm.exec) (hb : c.code = cc) (hX : va_X b L xs s s.heap) (hbl : b < s.heap.size) (hbA : ¬ A0 b) (hS : va_S A0 s.heap H locs) (hi : i = nI j) (hj : j < L) (hL : L < 2147483648) (hdg : decode cc pc = .ok (.iaload, 1))
    (kk : W p l e R s m args below meth c H locs cells slots Q (F0 m (pc + 1) ls (.int (xs j) :: rest))) : W p l e R s m args below meth c H locs cells slots Q (F0 m pc ls (.int i :: .ref b :: rest)) := by
  subst hi
  refine va_sld hx hb hX hbl hbA hS (vp_in_nI hj hL) hdg ?_
  rw [nI_clamp (by omega)]; exact kk
end LC
theorem agr_sub {G : GG} {x : Nat} {xa : Nat → Nat} {tA : Nat → Nat → Nat} {a b ga ua la lb : Nat → Nat} {gA : Nat → Nat → Nat} {xf f qf gf uf lf mf : Nat → Int32} {r q gr ur lr mr : Nat → Nat → Int32} {tF : Nat → Nat → Int32} {tR : Nat → Nat → Nat → Int32} {nF : Nat → Nat → Int32} {nR : Nat → Nat → Nat → Int32} {M : va_W} {H : Heap} {ka kb : Nat} (hka : ka < 16) (hkb : kb < 16) (h : PP G (xFull G x xa tA a b ga ua la lb gA xf f qf gf uf lf mf r q gr ur lr mr tF tR nF nR ++ M) H) : PP G (aM G x xa a ga ua la lb (gA ka) (gA kb) (rfn gA 16) xf (nF ka) (nF kb) (nR ka) (nR kb)) H := by
  refine P_sub h (fun z hz => List.mem_append_left _ ?_)
  have hg : ∀ k, k < 16 → ∀ z ∈ gW G (gA k) (nF k) (nR k), z ∈ xFull G x xa tA a b ga ua la lb gA xf f qf gf uf lf mf r q gr ur lr mr tF tR nF nR := fun k hk z hz => List.mem_append_right _ (List.mem_append_right _ (List.mem_flatMap.mpr ⟨k, List.mem_range.mpr hk, hz⟩))
  rcases List.mem_cons.mp hz with rfl | hz
  · exact List.mem_append_left _ (List.mem_append_left _ List.mem_cons_self)
  rcases List.mem_cons.mp hz with rfl | hz
  · exact List.mem_append_left _ (List.mem_append_right _ (List.mem_of_getElem? (i := 35) rfl))
  rcases List.mem_cons.mp hz with rfl | hz
  · exact hg ka hka _ List.mem_cons_self
  rcases List.mem_cons.mp hz with rfl | hz
  · exact hg ka hka _ (List.mem_cons_of_mem _ List.mem_cons_self)
  exact hg kb hkb _ hz
theorem xM_ad {G : GG} {x : Nat} {xa ta a b ga ua la lb lc : Nat → Nat} {tg gg : Nat → Option Nat} {xf tf f qf gf uf lf mf nf : Nat → Int32} {tr r q gr ur lr mr nr : Nat → Nat → Int32} {xf2 tf2 f2 qf2 gf2 uf2 lf2 mf2 nf2 : Nat → Int32} {tr2 r2 q2 gr2 ur2 lr2 mr2 nr2 : Nat → Nat → Int32} : (xM G x xa ta a b ga ua la lb lc tg gg xf2 tf2 f2 qf2 gf2 uf2 lf2 mf2 nf2 tr2 r2 q2 gr2 ur2 lr2 mr2 nr2).map Prod.fst = (xM G x xa ta a b ga ua la lb lc tg gg xf tf f qf gf uf lf mf nf tr r q gr ur lr mr nr).map Prod.fst := rfl
