/-! the base: worlds with fixed array classes, reads, writes, calls -/
abbrev GG : Type := va_G × ClassId × ClassId × ClassId × ClassId
abbrev TYS (G : GG) : List (ClassId × FieldType) := [(G.2.1, .int), (G.2.2.1, .boolean), (G.2.2.2.1, .object RX4), (G.2.2.2.2, .object RX1)]
/-- the links between nest mates that the calls need -/
def NSm : List (String × Nat × MethodName) := [(RX6, 21, yX2_init), (RX2, 29, yX5_init), (RX6, 28, yX0_init), (RX6, 35, yX3_init), (RX3, 11, yX5_init), (RX6, 42, yX1_init), (RX6, 60, yX4_init), (RX4, 65, yX6_spotOf), (RX2, 89, yX6_spotOf), (RX2, 107, yX6_thousandthsOf), (RX1, 22, yX6_spotOf), (RX0, 55, yX6_spotOf), (RX3, 72, yX6_spotOf)]
def NN (U : State) : Prop := (∀ q ∈ NSm, va_Nw (.methodLinkNest q.1 q.2.1 q.2.2 "CellKeeper") U) ∧ va_Nw (.fieldLinkNest RX4 41 "CellKeeper" "RULES_AT_FIRST" "[I" "CellKeeper") U ∧ va_AO RX4 U ∧ va_AO RX1 U
theorem NN.warm {s U : State} (hW : s.WarmedH U.vm) (h : NN s) : NN U := ⟨fun q hq => va_Nw.warmM hW (h.1 q hq), va_Nw.warmF hW h.2.1, h.2.2.1.moved hW.alike, h.2.2.2.moved hW.alike⟩
theorem NN.same {s U : State} (hW : s.vm = U.vm) (h : NN s) : NN U := ⟨fun q hq => va_Nw.same rfl hW (h.1 q hq), va_Nw.same rfl hW h.2.1, h.2.2.1.moved (hW ▸ Vm.Alike.refl _), h.2.2.2.moved (hW ▸ Vm.Alike.refl _)⟩
def KK (G : GG) (U : State) : Prop := va_K G.1 vwCl (TYS G) U ∧ NN U
abbrev PP (G : GG) (ws : va_W) (H : Heap) : Prop := va_P G.1 vwCl ws H
theorem KK.warm {G : GG} {s U : State} (hW : s.WarmedH U.vm) (h : KK G s) : KK G U := ⟨va_K.moved hW.alike h.1, h.2.warm hW⟩
theorem KK.blind {G : GG} {U : State} {g : JFrame} {mk : MethodId} {a : Array Value} (h : KK G U) : KK G (U.calling g mk a) := ⟨va_K.moved (u := U) (U := U.calling g mk a) (Vm.Alike.refl U.vm) h.1, h.2.same (s := U) (U := U.calling g mk a) rfl⟩
theorem P_mem {D : va_G} {cl : List vw_C} {ws : va_W} {H : Heap} : va_P D cl ws H ↔ ∀ q ∈ ws, va_at D cl q H :=
  ⟨fun h q hq => (List.getElem?_of_mem hq).elim fun k hk => h k q hk, fun h k q hk => h q (List.mem_of_getElem? hk)⟩
theorem P_sub {D : va_G} {cl : List vw_C} {ws ws' : va_W} {H : Heap} (h : va_P D cl ws H) (hs : ∀ q ∈ ws', q ∈ ws) : va_P D cl ws' H := P_mem.mpr (fun q hq => P_mem.mp h q (hs q hq))
theorem nd_iff {A : Nat → Prop} {ws : va_W} : va_D A ws ↔ (ws.map Prod.fst).Nodup ∧ ∀ q ∈ ws, A q.1 := by
  constructor
  · intro h
    refine ⟨List.nodup_iff_pairwise_ne.mpr (List.pairwise_iff_getElem.mpr (fun i j hi hj hij he => ?_)), fun q hq => ?_⟩
    · have hi' : i < ws.length := by simpa using hi
      have hj' : j < ws.length := by simpa using hj
      rw [List.getElem_map, List.getElem_map] at he
      exact absurd (h.1 i j _ _ (List.getElem?_eq_getElem hi') (List.getElem?_eq_getElem hj') he) (by omega)
    · obtain ⟨k, hk⟩ := List.getElem?_of_mem hq
      exact h.2 k q hk
  · intro h
    have hp := List.pairwise_iff_getElem.mp (List.nodup_iff_pairwise_ne.mp h.1)
    refine ⟨fun i j p q hi hj he => ?_, fun k q hk => h.2 q (List.mem_of_getElem? hk)⟩
    obtain ⟨hi', rfl⟩ := List.getElem?_eq_some_iff.mp hi
    obtain ⟨hj', rfl⟩ := List.getElem?_eq_some_iff.mp hj
    rcases Nat.lt_trichotomy i j with c | c | c
    · exact absurd (by rw [List.getElem_map, List.getElem_map]; exact he) (hp i j (by simpa using hi') (by simpa using hj') c)
    · exact c
    · exact absurd (by rw [List.getElem_map, List.getElem_map]; exact he.symm) (hp j i (by simpa using hj') (by simpa using hi') c)
theorem D_perm {A : Nat → Prop} {ws ws' : va_W} (h : va_D A ws) (hp : ws.Perm ws') : va_D A ws' := by
  rw [nd_iff] at h ⊢
  exact ⟨(hp.map Prod.fst).nodup_iff.mp h.1, fun q hq => h.2 q (hp.mem_iff.mpr hq)⟩
theorem D_same {A : Nat → Prop} {ws ws' : va_W} (h : va_D A ws) (hs : ws'.map Prod.fst = ws.map Prod.fst) : va_D A ws' := by
  rw [nd_iff] at h ⊢
  refine ⟨by rw [hs]; exact h.1, fun q hq => ?_⟩
  have h1 : q.1 ∈ ws.map Prod.fst := by rw [← hs]; exact List.mem_map_of_mem hq
  obtain ⟨p, hp, he⟩ := List.mem_map.mp h1
  rw [← he]; exact h.2 p hp
theorem D_left {A : Nat → Prop} {w1 w2 : va_W} (h : va_D A (w1 ++ w2)) : va_D A w1 := by
  rw [nd_iff] at h ⊢
  rw [List.map_append, List.nodup_append] at h
  exact ⟨h.1.1, fun q hq => h.2 q (List.mem_append_left _ hq)⟩
theorem D_right {A : Nat → Prop} {w1 w2 : va_W} (h : va_D A (w1 ++ w2)) : va_D A w2 := by
  rw [nd_iff] at h ⊢
  rw [List.map_append, List.nodup_append] at h
  exact ⟨h.1.2.1, fun q hq => h.2 q (List.mem_append_right _ hq)⟩
theorem D_ne {A : Nat → Prop} {w1 w2 : va_W} (h : va_D A (w1 ++ w2)) {p q : Nat × va_E} (hp : p ∈ w1) (hq : q ∈ w2) : p.1 ≠ q.1 := by
  rw [nd_iff, List.map_append, List.nodup_append] at h
  exact h.1.2.2 _ (List.mem_map_of_mem hp) _ (List.mem_map_of_mem hq)
theorem va_A_iff {ws : va_W} {sz q : Nat} : va_A ws sz q ↔ (∃ p ∈ ws, p.1 = q) ∨ sz ≤ q := by
  constructor
  · rintro (⟨k, e, h⟩ | h)
    · exact Or.inl ⟨_, List.mem_of_getElem? h, rfl⟩
    · exact Or.inr h
  · rintro (⟨p, hp, rfl⟩ | h)
    · obtain ⟨k, hk⟩ := List.getElem?_of_mem hp
      exact Or.inl ⟨k, p.2, hk⟩
    · exact Or.inr h
/-- behind a call that had the last cells alone -/
theorem app_join {A0 : Nat → Prop} {D : va_G} {cl : List vw_C} {wr wc w1 : va_W} {H H1 : Heap} (hP : va_P D cl (wr ++ wc) H) (hD : va_D A0 (wr ++ wc)) (hk : ∀ q : Nat, q < H.size → ¬ va_A wc H.size q → H1[q]? = H[q]?) (hF : ∀ q, va_A wc H.size q → A0 q) (hP1 : va_P D cl w1 H1) (hD1 : va_D (va_A wc H.size) w1) : va_P D cl (wr ++ w1) H1 ∧ va_D A0 (wr ++ w1) := by
  have hlt : ∀ q ∈ wr, q.1 < H.size := fun q hq => (P_mem.mp hP q (List.mem_append_left _ hq)).lt
  constructor
  · refine P_mem.mpr (fun q hq => ?_)
    rcases List.mem_append.mp hq with h | h
    · refine (P_mem.mp hP q (List.mem_append_left _ h)).kept (hk q.1 (hlt q h) (fun c => ?_))
      rcases va_A_iff.mp c with ⟨p, hp, he⟩ | c
      · exact D_ne hD h hp he.symm
      · have := hlt q h; omega
    · exact P_mem.mp hP1 q h
  · have hd1 := nd_iff.mp hD1
    refine nd_iff.mpr ⟨?_, fun q hq => ?_⟩
    · rw [List.map_append, List.nodup_append]
      refine ⟨(nd_iff.mp (D_left hD)).1, hd1.1, fun a ha b hb he => ?_⟩
      obtain ⟨p, hp, rfl⟩ := List.mem_map.mp ha
      obtain ⟨q, hq, rfl⟩ := List.mem_map.mp hb
      rcases va_A_iff.mp (hd1.2 q hq) with ⟨r, hr, hre⟩ | c
      · exact D_ne hD hp hr (he.trans hre.symm)
      · have := hlt p hp; omega
    · rcases List.mem_append.mp hq with h | h
      · exact (nd_iff.mp hD).2 q (List.mem_append_left _ h)
      · exact hF _ (hd1.2 q h)
/-- cells at some places are others now -/
def wset : va_W → List Nat → va_W → va_W
  | ws, i :: is, e :: es => wset (ws.set i e) is es
  | ws, _, _ => ws
theorem wset_get : ∀ (is : List Nat) (es ws : va_W) (k : Nat) (q : Nat × va_E), is.length = es.length → (wset ws is es)[k]? = some q → q ∈ es ∨ (ws[k]? = some q ∧ k ∉ is)
  | [], [], ws, k, q, _, h => Or.inr ⟨h, List.not_mem_nil⟩
  | i :: is, e :: es, ws, k, q, hl, h => by
    rcases wset_get is es (ws.set i e) k q (by simpa using hl) h with c | ⟨c, d⟩
    · exact Or.inl (List.mem_cons_of_mem _ c)
    · by_cases hk : k = i
      · subst hk
        rw [List.getElem?_set] at c
        simp only [if_true] at c
        split at c
        · exact Or.inl (by cases c; exact List.mem_cons_self)
        · cases c
      · refine Or.inr ⟨?_, fun m => ?_⟩
        · rwa [List.getElem?_set_ne (fun e => hk e.symm)] at c
        · rcases List.mem_cons.mp m with m | m
          · exact hk m
          · exact d m
theorem wj {A0 : Nat → Prop} {D : va_G} {cl : List vw_C} {ws wc w1 : va_W} {H H1 : Heap} (hP : va_P D cl ws H) (hD : va_D A0 ws) (is : List Nat) (hC : is.map (fun i => ws[i]?) = wc.map some) (hk : ∀ q : Nat, q < H.size → ¬ va_A wc H.size q → H1[q]? = H[q]?) (hP1 : va_P D cl w1 H1) (ha : w1.map Prod.fst = wc.map Prod.fst) : va_P D cl (wset ws is w1) H1 := by
  have hlen : is.length = w1.length := by
    have h1 := congrArg List.length hC
    have h2 := congrArg List.length ha
    simp only [List.length_map] at h1 h2
    omega
  intro k q hq
  rcases wset_get is w1 ws k q hlen hq with c | ⟨c, d⟩
  · exact P_mem.mp hP1 q c
  · refine (hP k q c).kept (hk q.1 (hP k q c).lt (fun hv => ?_))
    rcases va_A_iff.mp hv with ⟨p, hp, he⟩ | hv
    · have h1 : some p ∈ is.map (fun i => ws[i]?) := by rw [hC]; exact List.mem_map_of_mem hp
      obtain ⟨i, hi, hi2⟩ := List.mem_map.mp h1
      have := hD.1 i k p q hi2 c he
      subst this
      exact d hi
    · have := (hP k q c).lt; omega
theorem wset_rg : ∀ (es pre mid post : va_W), es.length = mid.length → wset (pre ++ (mid ++ post)) (List.range' pre.length es.length) es = pre ++ (es ++ post)
  | [], mid, pre, post, h => by
    have e : pre = [] := List.eq_nil_of_length_eq_zero h.symm
    subst e; rfl
  | e :: es, pre, [], post, h => absurd h (by simp)
  | e :: es, pre, a :: mid, post, h => by
    have h2 : (pre ++ (a :: mid ++ post)).set pre.length e = (pre ++ [e]) ++ (mid ++ post) := by
      rw [List.append_assoc]; simp
    show wset ((pre ++ (a :: mid ++ post)).set pre.length e) (List.range' (pre.length + 1) es.length) es = _
    rw [h2]
    have ih := wset_rg es (pre ++ [e]) mid post (by simpa using h)
    rw [List.length_append] at ih
    have e3 : (pre ++ [e]) ++ (es ++ post) = pre ++ (e :: es ++ post) := by rw [List.append_assoc]; rfl
    rw [← e3]
    exact ih
theorem P_rg {G : GG} {H : Heap} {wa w : va_W} {is : List Nat} {s : Nat} (h : PP G (wset wa is w) H) (hi : is = List.range' s w.length) (hl : s + w.length ≤ wa.length) : PP G (wa.take s ++ (w ++ (wa.drop s).drop w.length)) H := by
  rw [hi] at h
  have l1 : (wa.take s).length = s := by rw [List.length_take]; omega
  have l2 : w.length = ((wa.drop s).take w.length).length := by rw [List.length_take, List.length_drop]; omega
  have e1 : wa.take s ++ ((wa.drop s).take w.length ++ (wa.drop s).drop w.length) = wa := by rw [List.take_append_drop, List.take_append_drop]
  have e := wset_rg w (wa.take s) ((wa.drop s).take w.length) ((wa.drop s).drop w.length) l2
  rw [e1, l1] at e
  rw [← e]; exact h
theorem D_as {A : Nat → Prop} {G : GG} {H : Heap} {ws ws' : va_W} (_ : PP G ws H) (h : va_D A ws') (e : ws' = ws) : va_D A ws := e ▸ h
theorem D_as2 {A : Nat → Prop} {G : GG} {H : Heap} {ws ws' : va_W} (_ : PP G ws H) (h : va_D A ws') (e : ws.map Prod.fst = ws'.map Prod.fst) : va_D A ws := D_same h e
