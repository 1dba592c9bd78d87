def upA {α : Type} (F : Nat → α) (j : Nat) (v : α) : Nat → α := fun i => if i = j then v else F i
theorem upA_s {α : Type} {F : Nat → α} {j : Nat} {v : α} : upA F j v j = v := if_pos rfl
theorem upA_n {α : Type} {F : Nat → α} {j i : Nat} {v : α} (h : i ≠ j) : upA F j v i = F i := if_neg h
theorem op_same {op1 : Nat → Int32} {t ra ca q1 q2 o1 o2 : Int32} {op2 : Nat → Int32} {j : Nat} (hj : j < 6) (hjt : tbJ t j) (ho : o1 = op1 j) (h1 : opX o1 o2 t ra ca j q1) (h2 : opA op1 op2 t ra ca q2) : q1 = q2 ∧ ((q1 = 1 ∧ o2 = 1 ∧ op2 = upd op1 j 1) ∨ (q1 = 0 ∧ o2 = o1 ∧ op2 = op1)) := by
  rcases h1 with ⟨a1, a2, a3⟩ | ⟨a1, a2, a3⟩
  · rcases h2 with ⟨b1, i, b2, b3⟩ | ⟨b1, b2, b3⟩
    · obtain ⟨c1, c2, _⟩ := b2
      have e := hjt i c1 c2
      subst e
      exact ⟨a1.trans b1.symm, Or.inl ⟨a1, a3, b3⟩⟩
    · exact absurd ⟨j, hj, a2.1, ho ▸ a2.2.1, a2.2.2⟩ b2
  · rcases h2 with ⟨b1, i, b2, b3⟩ | ⟨b1, b2, b3⟩
    · obtain ⟨c1, c2, c3, c4⟩ := b2
      have e := hjt i c1 c2
      subst e
      exact absurd ⟨c2, ho.trans c3, c4⟩ a2
    · exact ⟨a1.trans b1.symm, Or.inr ⟨a1, a3, b3⟩⟩
theorem cl_same {op1 : Nat → Int32} {t q1 q2 o1 o2 : Int32} {op2 : Nat → Int32} {j : Nat} (hj : j < 6) (hjt : tbJ t j) (ho : o1 = op1 j) (h1 : clX o1 o2 t j q1) (h2 : clA op1 op2 t q2) : q1 = q2 ∧ ((q1 = 1 ∧ o2 = 0 ∧ op2 = upd op1 j 0) ∨ (q1 = 0 ∧ o2 = o1 ∧ op2 = op1)) := by
  rcases h1 with ⟨a1, a2, a3⟩ | ⟨a1, a2, a3⟩
  · rcases h2 with ⟨b1, i, c1, c2, c3, b3⟩ | ⟨b1, b2, b3⟩
    · have e := hjt i c1 c2
      subst e
      exact ⟨a1.trans b1.symm, Or.inl ⟨a1, a3, b3⟩⟩
    · exact absurd ⟨j, hj, a2.1, ho ▸ a2.2⟩ b2
  · rcases h2 with ⟨b1, i, c1, c2, c3, b3⟩ | ⟨b1, b2, b3⟩
    · have e := hjt i c1 c2
      subst e
      exact absurd ⟨c2, ho ▸ c3⟩ a2
    · exact ⟨a1.trans b1.symm, Or.inr ⟨a1, a3, b3⟩⟩
theorem tb_iff {op1 : Nat → Int32} {t o1 : Int32} {j : Nat} (hj : j < 6) (hjt : tbJ t j) (ho : o1 = op1 j) : tbO t j o1 ↔ opn op1 t := ⟨fun h => ⟨j, hj, h.1, fun z => h.2 (ho.trans z)⟩, fun ⟨i, hi, e, hn⟩ => by
  have e2 := hjt i hi e
  subst e2
  exact ⟨e, fun z => hn (ho.symm.trans z)⟩⟩
theorem mM_ad {G : GG} {y : Nat} {b : Nat → Nat} {f f2 : Nat → Int32} {r r2 : Nat → Nat → Int32} : (mM G y b f r).map Prod.fst = (mM G y b f2 r2).map Prod.fst := rfl
/-! the tables of both sides in step -/
def TSr (o rw cl : Int32) (pl a1 a2 a3 a11 : Nat → Int32) (j : Nat) : Prop := o = a1 j ∧ rw = a2 j ∧ cl = a3 j ∧ ∀ i, i < 12 → pl i = a11 (12 * j + i)
def TOr (a1 a2 a3 a11 b1 b2 b3 b11 : Nat → Int32) (i : Nat) : Prop := b1 i = a1 i ∧ b2 i = a2 i ∧ b3 i = a3 i ∧ ∀ k, k < 12 → b11 (12 * i + k) = a11 (12 * i + k)
def JT (tF : Nat → Nat → Int32) (tR : Nat → Nat → Nat → Int32) (r : Nat → Nat → Int32) : Prop := ∀ j, j < 6 → TSr (tF j 0) (tF j 1) (tF j 2) (tR j 4) (r 1) (r 2) (r 3) (r 11) j
theorem TS_o {o rw cl : Int32} {pl a1 a2 a3 a11 b1 b2 b3 b11 : Nat → Int32} {i : Nat} (h : TSr o rw cl pl a1 a2 a3 a11 i) (g : TOr a1 a2 a3 a11 b1 b2 b3 b11 i) : TSr o rw cl pl b1 b2 b3 b11 i := ⟨h.1.trans g.1.symm, h.2.1.trans g.2.1.symm, h.2.2.1.trans g.2.2.1.symm, fun k hk => (h.2.2.2 k hk).trans (g.2.2.2 k hk).symm⟩
theorem TO_0 {a1 a2 a3 a11 : Nat → Int32} {i : Nat} : TOr a1 a2 a3 a11 a1 a2 a3 a11 i := ⟨rfl, rfl, rfl, fun _ _ => rfl⟩
theorem JT_of {tF : Nat → Nat → Int32} {tR : Nat → Nat → Nat → Int32} {r r2 : Nat → Nat → Int32} {j : Nat} {tf2 : Nat → Int32} {tr2 : Nat → Nat → Int32} (hJ : JT tF tR r) (hT : TSr (tf2 0) (tf2 1) (tf2 2) (tr2 4) (r2 1) (r2 2) (r2 3) (r2 11) j) (hO : ∀ i, i ≠ j → TOr (r 1) (r 2) (r 3) (r 11) (r2 1) (r2 2) (r2 3) (r2 11) i) : JT (upA tF j tf2) (upA tR j tr2) r2 := fun i hi => by
  by_cases e : i = j
  · subst e; rw [upA_s, upA_s]; exact hT
  · rw [upA_n e, upA_n e]; exact TS_o (hJ i hi) (hO i e)
theorem JT_0 : JT (fun _ _ => 0) (fun _ _ _ => 0) (fun _ _ => 0) := fun _ _ => ⟨rfl, rfl, rfl, fun _ _ => rfl⟩
theorem plQ_c {rw cl row col q : Int32} {pl pl2 : Nat → Int32} (hr : nL 12 rw) (h : ∀ i, i < 12 → pl i = pl2 i) : plQ rw cl pl row col q ↔ plQ rw cl pl2 row col q := by
  unfold plQ
  by_cases hin : inR rw row
  · have e : pl row.toNatClampNeg = pl2 row.toNatClampNeg := by
      obtain ⟨n, hn, rfl⟩ := hr
      obtain ⟨i, hi, rfl⟩ := inR_n (by omega) hin
      rw [nI_clamp (by omega)]
      exact h i (by omega)
    rw [e]
  · constructor
    · rintro (h1 | ⟨h1, _⟩)
      · exact Or.inl h1
      · exact absurd h1 hin
    · rintro (h1 | ⟨h1, _⟩)
      · exact Or.inl h1
      · exact absurd h1 hin
theorem pl_iff {o rw cl tb row col q : Int32} {pl a1 a2 a3 a11 : Nat → Int32} {j : Nat} (hj : j < 6) (hjt : tbJ tb j) (hr : nL 12 rw) (h : TSr o rw cl pl a1 a2 a3 a11 j) : stX (tbO tb j o) rw cl pl row col q ↔ plS a1 a2 a3 a11 tb row col q := by
  have hb := tb_iff hj hjt h.1
  obtain ⟨h0, h1, h2, h3⟩ := h
  have hq := plQ_c (cl := cl) (row := row) (col := col) (q := q) (pl := pl) (pl2 := fun i => a11 (12 * j + i)) hr h3
  subst h1 h2
  constructor
  · rintro (⟨e, n⟩ | ⟨p0, hp⟩)
    · exact Or.inl ⟨e, fun z => n (hb.mpr z)⟩
    · exact Or.inr ⟨j, hj, p0.1, fun z => p0.2 (h0.trans z), hq.mp hp⟩
  · rintro (⟨e, n⟩ | ⟨i, hi, e, ho, hp⟩)
    · exact Or.inl ⟨e, fun z => n (hb.mp z)⟩
    · have ei := hjt i hi e
      subst ei
      exact Or.inr ⟨⟨e, fun z => ho (h0.symm.trans z)⟩, hq.mpr hp⟩
theorem op_step {tb ra ca q1 q2 o1 o2 rw1 rw2 cl1 cl2 : Int32} {pl1 pl2 a1 a2 a3 a11 b1 b2 b3 b11 : Nat → Int32} {j : Nat} (hj : j < 6) (hjt : tbJ tb j) (hT : TSr o1 rw1 cl1 pl1 a1 a2 a3 a11 j) (h1 : opX o1 o2 tb ra ca j q1 ∧ opRX ra ca q1 rw1 cl1 pl1 rw2 cl2 pl2) (h2 : opA a1 b1 tb ra ca q2 ∧ opR tb ra ca q2 a2 a3 a11 b2 b3 b11) : q1 = q2 ∧ TSr o2 rw2 cl2 pl2 b1 b2 b3 b11 j ∧ ∀ i, i ≠ j → TOr a1 a2 a3 a11 b1 b2 b3 b11 i := by
  obtain ⟨e, hh⟩ := op_same hj hjt hT.1 h1.1 h2.1
  subst e
  refine ⟨rfl, ?_⟩
  rcases hh with ⟨c1, c2, c3⟩ | ⟨c1, c2, c3⟩
  · rcases h1.2 with ⟨z, _⟩ | ⟨_, d1, d2, d3⟩
    · exact absurd (z.symm.trans c1) (by decide)
    rcases h2.2 with ⟨z, _⟩ | ⟨_, t, ht, et, f2, f3, f11⟩
    · exact absurd (z.symm.trans c1) (by decide)
    obtain ⟨t2, et2⟩ : ∃ t2, t2 = t := ⟨t, rfl⟩
    have ej : j = t2 := (hjt t ht et).symm.trans et2.symm
    subst et2
    subst ej
    refine ⟨⟨?_, ?_, ?_, fun i hi => ?_⟩, fun i hi => ⟨?_, ?_, ?_, fun k hk => ?_⟩⟩
    · rw [c2, c3, pk_us]
    · rw [d1, f2, pk_us]
    · rw [d2, f3, pk_us]
    · rw [d3 i hi, (f11 (12 * j + i)).1 ⟨by omega, by omega⟩]
    · rw [c3, pk_un hi]
    · rw [f2, pk_un hi]
    · rw [f3, pk_un hi]
    · exact (f11 (12 * i + k)).2 (fun z => by omega)
  · rcases h1.2 with ⟨_, d1, d2, d3⟩ | ⟨z, _⟩
    · rcases h2.2 with ⟨_, f2, f3, f11⟩ | ⟨z, _⟩
      · rw [c2, c3, d1, d2, d3, f2, f3, f11]
        exact ⟨hT, fun _ _ => TO_0⟩
      · exact absurd (z.symm.trans c1) (by decide)
    · exact absurd (z.symm.trans c1) (by decide)
theorem cl_step {tb q1 q2 o1 o2 rw cl : Int32} {pl a1 a2 a3 a11 b1 : Nat → Int32} {j : Nat} (hj : j < 6) (hjt : tbJ tb j) (hT : TSr o1 rw cl pl a1 a2 a3 a11 j) (h1 : clX o1 o2 tb j q1) (h2 : clA a1 b1 tb q2) : q1 = q2 ∧ TSr o2 rw cl pl b1 a2 a3 a11 j ∧ ∀ i, i ≠ j → TOr a1 a2 a3 a11 b1 a2 a3 a11 i := by
  obtain ⟨e, hh⟩ := cl_same hj hjt hT.1 h1 h2
  refine ⟨e, ?_⟩
  rcases hh with ⟨_, c2, c3⟩ | ⟨_, c2, c3⟩
  · refine ⟨⟨?_, hT.2.1, hT.2.2.1, hT.2.2.2⟩, fun i hi => ⟨?_, rfl, rfl, fun _ _ => rfl⟩⟩
    · rw [c2, c3, pk_us]
    · rw [c3, pk_un hi]
  · rw [c2, c3]; exact ⟨hT, fun _ _ => TO_0⟩
theorem tk_iff {o rw cl tb row pn : Int32} {pl a1 a2 a3 a11 : Nat → Int32} {j i : Nat} (hj : j < 6) (hT : TSr o rw cl pl a1 a2 a3 a11 j) : tkX (tbO tb j o) rw pl row pn i ↔ tkM a1 a2 a11 tb row pn j i := by
  obtain ⟨h0, h1, _, h3⟩ := hT
  subst h0 h1
  constructor
  · rintro ⟨⟨e, ho⟩, hi, er, hin, p1, p2, p3⟩
    rw [h3 i hi] at p1 p2
    exact ⟨hj, hi, e, er, ho, hin, p1, p2, p3⟩
  · rintro ⟨_, hi, e, er, ho, hin, p1, p2, p3⟩
    rw [← h3 i hi] at p1 p2
    exact ⟨⟨e, ho⟩, hi, er, hin, p1, p2, p3⟩
theorem te_step {o rw cl tb row pn q1 q2 : Int32} {pl pl2 a1 a2 a3 a11 b11 : Nat → Int32} {j : Nat} (hj : j < 6) (hjt : tbJ tb j) (hT : TSr o rw cl pl a1 a2 a3 a11 j) (h1 : teX (tbO tb j o) rw pl row pn q1 pl2) (h2 : teM a1 a2 a11 tb row pn q2 b11) : q1 = q2 ∧ TSr o rw cl pl2 a1 a2 a3 b11 j ∧ ∀ i, i ≠ j → TOr a1 a2 a3 a11 a1 a2 a3 b11 i := by
  rcases h1 with ⟨c1, i, k1, e1⟩ | ⟨c1, k1, e1⟩
  · have k3 := (tk_iff hj hT).mp k1
    rcases h2 with ⟨c2, t, i2, k2, e2⟩ | ⟨c2, k2, e2⟩
    · have hi := k3.2.1
      have hi2 := k2.2.1
      have ei := (nI_eq (by omega) (by omega)).mp (k3.2.2.2.1.symm.trans k2.2.2.2.1)
      rw [hjt t k2.1 k2.2.2.1, ← ei] at e2
      refine ⟨c1.trans c2.symm, ⟨hT.1, hT.2.1, hT.2.2.1, fun k hk => ?_⟩, fun n hn => ⟨rfl, rfl, rfl, fun k hk => ?_⟩⟩
      · rw [e1, e2]
        by_cases ek : k = i
        · rw [ek, pk_us, pk_us]
        · rw [pk_un ek, pk_un (by omega)]; exact hT.2.2.2 k hk
      · rw [e2, pk_un (by omega)]
    · exact absurd ⟨j, i, k3⟩ k2
  · rcases h2 with ⟨c2, t, i2, k2, e2⟩ | ⟨c2, k2, e2⟩
    · rw [hjt t k2.1 k2.2.2.1] at k2
      exact absurd ⟨i2, (tk_iff hj hT).mpr k2⟩ k1
    · rw [e1, e2]; exact ⟨c1.trans c2.symm, hT, fun _ _ => TO_0⟩
def NR (kd nu gn : Int32) : Prop := ∃ n, n ≤ 1000000 ∧ nu = nI n ∧ (kd = 2 → ∃ m, m ≤ 6 ∧ gn = nI m ∧ n ≤ 100000 * m)
theorem tol_NR {kd nm : Int32} (h : tol kd nm) : NR (mkK kd) nm 0 := by
  rcases h with ⟨e, h1, h2⟩ | ⟨e, h1, h2⟩ | ⟨e, h1⟩
  · obtain ⟨n, hn, en⟩ := nI_le_n (n := 99) (by decide) (fun z => h1 (Int32.lt_trans z (by decide : (0 : Int32) < 1))) h2
    exact ⟨n, by omega, en, fun z => absurd ((mkK_0 e).symm.trans z) (by decide)⟩
  · obtain ⟨n, hn, en⟩ := nI_le_n (n := 1000000) (by decide) h1 h2
    refine ⟨n, hn, en, fun z => ?_⟩
    rcases e with e | e
    · rw [e] at z; exact absurd z (by decide)
    · rw [e] at z; exact absurd z (by decide)
  · exact ⟨0, by omega, h1, fun _ => ⟨0, by omega, rfl, by omega⟩⟩
/-! the cells of both sides in step -/
def GV (ps ps8 : Nat → Int32) (gn : Int32) : Prop := ∃ m, m ≤ 6 ∧ gn = nI m ∧ (∀ k, k < m → 0 < ps k ∧ ps k = ps8 k) ∧ ∀ k, m ≤ k → k < 6 → ps k = 0
def CSr (kd nu td k5 n6 g7 h9 : Int32) (ps ps8 : Nat → Int32) : Prop := kd = k5 ∧ nu = n6 ∧ (td &&& 1 = 0 ↔ h9 = 0) ∧ GV ps ps8 g7 ∧ (∃ m, m ≤ 5 ∧ kd = nI m) ∧ (¬ gdK kd → td &&& 1 = 0) ∧ NR kd nu g7
def TCr (rw : Int32) (pl kd nu td ps a5 a6 a7 a8 a9 : Nat → Int32) (j : Nat) : Prop := ∀ i c, i < 12 → c < 12 → inR rw (nI i) → nI c < pl i → CSr (kd (i * 12 + c)) (nu (i * 12 + c)) (td (i * 12 + c)) (a5 (144 * j + 12 * i + c)) (a6 (144 * j + 12 * i + c)) (a7 (144 * j + 12 * i + c)) (a9 (144 * j + 12 * i + c)) (fun k => ps ((i * 12 + c) * 6 + k)) (fun k => a8 (6 * (144 * j + 12 * i + c) + k))
def TDr (rw cl bk : Int32) (pl kd nu td ps ru bf bl a4 a5 a6 a7 a8 a9 a12 a13 a14 : Nat → Int32) (j : Nat) : Prop := bk = a12 j ∧ (∀ k, k < 6 → ru k = a4 (6 * j + k)) ∧ (∀ k, k < 12 → bf k = a13 (12 * j + k) ∧ bl k = a14 (12 * j + k)) ∧ (∀ i, i < 12 → pl i ≤ cl) ∧ TCr rw pl kd nu td ps a5 a6 a7 a8 a9 j
def eqR (s e : Nat) (a b : Nat → Int32) : Prop := ∀ p, s ≤ p → p < e → b p = a p
def TQr (a4 a5 a6 a7 a8 a9 a12 a13 a14 b4 b5 b6 b7 b8 b9 b12 b13 b14 : Nat → Int32) (i : Nat) : Prop := eqR i (i + 1) a12 b12 ∧ eqR (6 * i) (6 * i + 6) a4 b4 ∧ eqR (12 * i) (12 * i + 12) a13 b13 ∧ eqR (12 * i) (12 * i + 12) a14 b14 ∧ eqR (144 * i) (144 * i + 144) a5 b5 ∧ eqR (144 * i) (144 * i + 144) a6 b6 ∧ eqR (144 * i) (144 * i + 144) a7 b7 ∧ eqR (864 * i) (864 * i + 864) a8 b8 ∧ eqR (144 * i) (144 * i + 144) a9 b9
/-- what a call on table j leaves of the reference's rows -/
def lcR (s e : Nat) (a b : Nat → Int32) : Prop := ∀ p, ¬ (s ≤ p ∧ p < e) → b p = a p
def LQr (a4 a5 a6 a7 a8 a9 a12 a13 a14 b4 b5 b6 b7 b8 b9 b12 b13 b14 : Nat → Int32) (j : Nat) : Prop := lcR j (j + 1) a12 b12 ∧ lcR (6 * j) (6 * j + 6) a4 b4 ∧ lcR (12 * j) (12 * j + 12) a13 b13 ∧ lcR (12 * j) (12 * j + 12) a14 b14 ∧ lcR (144 * j) (144 * j + 144) a5 b5 ∧ lcR (144 * j) (144 * j + 144) a6 b6 ∧ lcR (144 * j) (144 * j + 144) a7 b7 ∧ lcR (864 * j) (864 * j + 864) a8 b8 ∧ lcR (144 * j) (144 * j + 144) a9 b9
theorem lc_0 {s e : Nat} {a : Nat → Int32} : lcR s e a a := fun _ _ => rfl
theorem lc_u {s e p : Nat} {a : Nat → Int32} {v : Int32} (h1 : s ≤ p) (h2 : p < e) : lcR s e a (upd a p v) := fun q hq => pk_un (fun z => hq (by omega))
theorem lc_o {s e p : Nat} {a b : Nat → Int32} {v : Int32} (g : only p v a b) (h1 : s ≤ p) (h2 : p < e) : lcR s e a b := fun q hq => g.2 q (fun z => hq (by omega))
theorem lc_v {s n s2 e2 : Nat} {a b : Nat → Int32} {v : Int32} (g : rv s n v a b) (h1 : s2 ≤ s) (h2 : s + n ≤ e2) : lcR s2 e2 a b := fun q hq => (g q).2 (fun z => hq (by omega))
theorem lc_r {s e s2 e2 : Nat} {a b : Nat → Int32} (g : outR s e a b) (h1 : s2 ≤ s) (h2 : e ≤ e2) : lcR s2 e2 a b := fun q hq => g q (fun z => hq (by omega))
theorem LQ_0 {a4 a5 a6 a7 a8 a9 a12 a13 a14 : Nat → Int32} {j : Nat} : LQr a4 a5 a6 a7 a8 a9 a12 a13 a14 a4 a5 a6 a7 a8 a9 a12 a13 a14 j := ⟨lc_0, lc_0, lc_0, lc_0, lc_0, lc_0, lc_0, lc_0, lc_0⟩
theorem TQ_l {a4 a5 a6 a7 a8 a9 a12 a13 a14 b4 b5 b6 b7 b8 b9 b12 b13 b14 : Nat → Int32} {j i : Nat} (h : LQr a4 a5 a6 a7 a8 a9 a12 a13 a14 b4 b5 b6 b7 b8 b9 b12 b13 b14 j) (hi : i ≠ j) : TQr a4 a5 a6 a7 a8 a9 a12 a13 a14 b4 b5 b6 b7 b8 b9 b12 b13 b14 i := by
  obtain ⟨h12, h4, h13, h14, h5, h6, h7, h8, h9⟩ := h
  exact ⟨fun p h1 h2 => h12 p (by omega), fun p h1 h2 => h4 p (by omega), fun p h1 h2 => h13 p (by omega), fun p h1 h2 => h14 p (by omega), fun p h1 h2 => h5 p (by omega), fun p h1 h2 => h6 p (by omega), fun p h1 h2 => h7 p (by omega), fun p h1 h2 => h8 p (by omega), fun p h1 h2 => h9 p (by omega)⟩
theorem GV_c {ps ps8 qs qs8 : Nat → Int32} {gn : Int32} (h : GV ps ps8 gn) (e1 : ∀ k, k < 6 → qs k = ps k) (e2 : ∀ k, k < 6 → qs8 k = ps8 k) : GV qs qs8 gn := by
  obtain ⟨m, hm, e, h1, h2⟩ := h
  refine ⟨m, hm, e, fun k hk => ?_, fun k hk hk6 => ?_⟩
  · rw [e1 k (by omega), e2 k (by omega)]; exact h1 k hk
  · rw [e1 k hk6]; exact h2 k hk hk6
theorem CS_c {kd nu td k5 n6 g7 h9 kd2 nu2 td2 k52 n62 g72 h92 : Int32} {ps ps8 qs qs8 : Nat → Int32} (h : CSr kd nu td k5 n6 g7 h9 ps ps8) (e1 : kd2 = kd) (e2 : nu2 = nu) (e3 : td2 = td) (e5 : k52 = k5) (e6 : n62 = n6) (e7 : g72 = g7) (e9 : h92 = h9) (hp : ∀ k, k < 6 → qs k = ps k) (hq : ∀ k, k < 6 → qs8 k = ps8 k) : CSr kd2 nu2 td2 k52 n62 g72 h92 qs qs8 := by
  subst e1 e2 e3 e5 e6 e7 e9
  exact ⟨h.1, h.2.1, h.2.2.1, GV_c h.2.2.2.1 hp hq, h.2.2.2.2⟩
theorem TD_o {rw cl bk : Int32} {pl kd nu td ps ru bf bl a4 a5 a6 a7 a8 a9 a12 a13 a14 b4 b5 b6 b7 b8 b9 b12 b13 b14 : Nat → Int32} {i : Nat} (h : TDr rw cl bk pl kd nu td ps ru bf bl a4 a5 a6 a7 a8 a9 a12 a13 a14 i) (g : TQr a4 a5 a6 a7 a8 a9 a12 a13 a14 b4 b5 b6 b7 b8 b9 b12 b13 b14 i) : TDr rw cl bk pl kd nu td ps ru bf bl b4 b5 b6 b7 b8 b9 b12 b13 b14 i := by
  obtain ⟨g12, g4, g13, g14, g5, g6, g7, g8, g9⟩ := g
  obtain ⟨h1, h2, h3, h4, h5⟩ := h
  refine ⟨h1.trans (g12 i (by omega) (by omega)).symm, fun k hk => (h2 k hk).trans (g4 _ (by omega) (by omega)).symm, fun k hk => ⟨(h3 k hk).1.trans (g13 _ (by omega) (by omega)).symm, (h3 k hk).2.trans (g14 _ (by omega) (by omega)).symm⟩, h4, fun n c hn hc q1 q2 => ?_⟩
  exact CS_c (h5 n c hn hc q1 q2) rfl rfl rfl (g5 _ (by omega) (by omega)) (g6 _ (by omega) (by omega)) (g7 _ (by omega) (by omega)) (g9 _ (by omega) (by omega)) (fun _ _ => rfl) (fun k hk => g8 _ (by omega) (by omega))
def JC (tF : Nat → Nat → Int32) (tR : Nat → Nat → Nat → Int32) (r : Nat → Nat → Int32) : Prop := ∀ j, j < 6 → TDr (tF j 1) (tF j 2) (tF j 3) (tR j 4) (tR j 5) (tR j 6) (tR j 7) (tR j 8) (tR j 9) (tR j 10) (tR j 11) (r 4) (r 5) (r 6) (r 7) (r 8) (r 9) (r 12) (r 13) (r 14) j
theorem JC_of {tF : Nat → Nat → Int32} {tR : Nat → Nat → Nat → Int32} {r r2 : Nat → Nat → Int32} {j : Nat} {tf2 : Nat → Int32} {tr2 : Nat → Nat → Int32} (hJ : JC tF tR r) (hT : TDr (tf2 1) (tf2 2) (tf2 3) (tr2 4) (tr2 5) (tr2 6) (tr2 7) (tr2 8) (tr2 9) (tr2 10) (tr2 11) (r2 4) (r2 5) (r2 6) (r2 7) (r2 8) (r2 9) (r2 12) (r2 13) (r2 14) j) (hO : LQr (r 4) (r 5) (r 6) (r 7) (r 8) (r 9) (r 12) (r 13) (r 14) (r2 4) (r2 5) (r2 6) (r2 7) (r2 8) (r2 9) (r2 12) (r2 13) (r2 14) j) : JC (upA tF j tf2) (upA tR j tr2) r2 := fun i hi => by
  by_cases e : i = j
  · subst e; rw [upA_s, upA_s]; exact hT
  · rw [upA_n e, upA_n e]; exact TD_o (hJ i hi) (TQ_l hO e)
theorem JC_0 : JC (fun _ _ => 0) (fun _ _ _ => 0) (fun _ _ => 0) := fun _ _ => ⟨rfl, fun _ _ => rfl, fun _ _ => ⟨rfl, rfl⟩, fun _ _ => Int32.le_refl _, fun i c hi hc h1 h2 => absurd h2 (nI_pos (by omega))⟩
theorem rgF_in {f : Nat → Int32} {v : Int32} {s n p : Nat} (h : s ≤ p ∧ p < s + n) : rgF f v s n p = v := if_pos h
theorem rgF_out {f : Nat → Int32} {v : Int32} {s n p : Nat} (h : ¬ (s ≤ p ∧ p < s + n)) : rgF f v s n p = f p := if_neg h
theorem TC_1 {rw : Int32} {pl kd nu td ps kd2 nu2 td2 ps2 a5 a6 a7 a8 a9 b5 b6 b7 b8 b9 : Nat → Int32} {i0 c0 j : Nat} (hi0 : i0 < 12) (hc0 : c0 < 12) (h : TCr rw pl kd nu td ps a5 a6 a7 a8 a9 j)
    (k5 : ∀ p, p ≠ i0 * 12 + c0 → kd2 p = kd p) (k6 : ∀ p, p ≠ i0 * 12 + c0 → nu2 p = nu p) (k7 : ∀ p, p ≠ i0 * 12 + c0 → td2 p = td p) (k8 : ∀ p, ¬ ((i0 * 12 + c0) * 6 ≤ p ∧ p < (i0 * 12 + c0) * 6 + 6) → ps2 p = ps p)
    (m5 : ∀ p, p ≠ 144 * j + 12 * i0 + c0 → b5 p = a5 p) (m6 : ∀ p, p ≠ 144 * j + 12 * i0 + c0 → b6 p = a6 p) (m7 : ∀ p, p ≠ 144 * j + 12 * i0 + c0 → b7 p = a7 p) (m9 : ∀ p, p ≠ 144 * j + 12 * i0 + c0 → b9 p = a9 p) (m8 : ∀ p, ¬ (6 * (144 * j + 12 * i0 + c0) ≤ p ∧ p < 6 * (144 * j + 12 * i0 + c0) + 6) → b8 p = a8 p)
    (hn : CSr (kd2 (i0 * 12 + c0)) (nu2 (i0 * 12 + c0)) (td2 (i0 * 12 + c0)) (b5 (144 * j + 12 * i0 + c0)) (b6 (144 * j + 12 * i0 + c0)) (b7 (144 * j + 12 * i0 + c0)) (b9 (144 * j + 12 * i0 + c0)) (fun k => ps2 ((i0 * 12 + c0) * 6 + k)) (fun k => b8 (6 * (144 * j + 12 * i0 + c0) + k))) : TCr rw pl kd2 nu2 td2 ps2 b5 b6 b7 b8 b9 j := fun i c hi hc h1 h2 => by
  by_cases e : i = i0 ∧ c = c0
  · obtain ⟨rfl, rfl⟩ := e
    exact hn
  · have hs : i * 12 + c ≠ i0 * 12 + c0 := fun z => e (by omega)
    exact CS_c (h i c hi hc h1 h2) (k5 _ hs) (k6 _ hs) (k7 _ hs) (m5 _ (by omega)) (m6 _ (by omega)) (m7 _ (by omega)) (m9 _ (by omega)) (fun k hk => k8 _ (by omega)) (fun k hk => m8 _ (by omega))
theorem stX_p {P : Prop} {rw cl row col : Int32} {pl : Nat → Int32} {i : Nat} (h : stX P rw cl pl row col 0) (e1 : row = nI i) (hi : i < 12) : inR rw (nI i) ∧ col < pl i := by
  subst e1
  rcases h with ⟨a, _⟩ | ⟨_, h⟩
  · exact absurd a (by decide)
  · rcases h with ⟨a, _⟩ | ⟨h1, _, ⟨a, _⟩ | ⟨a, _⟩ | ⟨_, _, h3⟩⟩
    · exact absurd a (by decide)
    · exact absurd a (by decide)
    · exact absurd a (by decide)
    · rw [nI_clamp (by omega)] at h3
      exact ⟨h1, h3⟩
theorem at_both {o rw cl tb row col : Int32} {pl a1 a2 a3 a11 : Nat → Int32} {j : Nat} {B : Nat → Nat → Prop} {B2 : Nat → Nat → Nat → Prop} {N N2 : Prop} (hj : j < 6) (hjt : tbJ tb j) (hr : nL 12 rw) (hT : TSr o rw cl pl a1 a2 a3 a11 j) (h1 : atP (stX (tbO tb j o) rw cl pl row col) row col B N) (h2 : atM a1 a2 a3 a11 tb row col B2 N2) : (N ∧ N2) ∨ ∃ i k, i < 12 ∧ k < 12 ∧ row = nI i ∧ col = nI k ∧ inR rw (nI i) ∧ nI k < pl i ∧ B i k ∧ B2 j i k := by
  rcases h1 with ⟨z, hz, hs, hN⟩ | ⟨hs, i, k, hi, hk, e1, e2, hB⟩
  · rcases h2 with ⟨z2, hz2, hs2, hN2⟩ | ⟨hs2, _⟩
    · exact Or.inl ⟨hN, hN2⟩
    · exact absurd (stX_u hs ((pl_iff hj hjt hr hT).mpr hs2)) hz
  · rcases h2 with ⟨z2, hz2, hs2, hN2⟩ | ⟨hs2, t, i2, k2, ht, hi2, hk2, g0, g1, g2, hB2⟩
    · exact absurd (stX_u ((pl_iff hj hjt hr hT).mpr hs2) hs) hz2
    · have a := (nI_eq (by omega) (by omega)).mp (e1.symm.trans g1)
      have b := (nI_eq (by omega) (by omega)).mp (e2.symm.trans g2)
      have c := hjt t ht g0
      rw [← a, ← b, c] at hB2
      have hp := stX_p hs e1 hi
      exact Or.inr ⟨i, k, hi, hk, e1, e2, hp.1, e2 ▸ hp.2, hB, hB2⟩
theorem mkK_r {kd nm : Int32} (h : tol kd nm) : ∃ m, m ≤ 5 ∧ mkK kd = nI m := by
  rcases h with ⟨e, _⟩ | ⟨e | e, _⟩ | ⟨e | e, _⟩
  · exact ⟨5, by omega, by rw [e]; rfl⟩
  · exact ⟨1, by omega, by rw [e]; rfl⟩
  · exact ⟨3, by omega, by rw [e]; rfl⟩
  · exact ⟨2, by omega, by rw [e]; rfl⟩
  · exact ⟨4, by omega, by rw [e]; rfl⟩
theorem CS_new {kd nm : Int32} {ps ps8 : Nat → Int32} (hnr : NR kd nm 0) (hk : ∃ m, m ≤ 5 ∧ kd = nI m) (hp : ∀ k, k < 6 → ps k = 0) : CSr kd nm 0 kd nm 0 0 ps ps8 := ⟨rfl, rfl, ⟨fun _ => rfl, fun _ => by decide⟩, ⟨0, by omega, rfl, fun k hk => absurd hk (by omega), fun k _ h6 => hp k h6⟩, hk, fun _ => by decide, hnr⟩
theorem pu_step {rw cl bk kn nm : Int32} {pl kd nu td ps ru bf bl kd2 nu2 td2 ps2 a4 a5 a6 a7 a8 a9 a12 a13 a14 b5 b6 b7 b9 : Nat → Int32} {j i k : Nat} (hi : i < 12) (hk : k < 12) (hD : TDr rw cl bk pl kd nu td ps ru bf bl a4 a5 a6 a7 a8 a9 a12 a13 a14 j) (hnr : NR kn nm 0) (hr : ∃ m, m ≤ 5 ∧ kn = nI m) (h1 : puX (i * 12 + k) kn nm kd nu td ps kd2 nu2 td2 ps2) (h2 : puM (144 * j + 12 * i + k) kn nm a5 a6 a7 a9 b5 b6 b7 b9) : TDr rw cl bk pl kd2 nu2 td2 ps2 ru bf bl a4 b5 b6 b7 a8 b9 a12 a13 a14 j ∧ LQr a4 a5 a6 a7 a8 a9 a12 a13 a14 a4 b5 b6 b7 a8 b9 a12 a13 a14 j := by
  obtain ⟨p5, p6, p7, p8⟩ := h1
  obtain ⟨m5, m6, m7, m9⟩ := h2
  subst p5 p6 p7 p8
  refine ⟨⟨hD.1, hD.2.1, hD.2.2.1, hD.2.2.2.1, TC_1 hi hk hD.2.2.2.2 (fun q h => pk_un h) (fun q h => pk_un h) (fun q h => pk_un h) (fun q h => rgF_out h) m5.2 m6.2 m7.2 m9.2 (fun _ _ => rfl) ?_⟩, lc_0, lc_0, lc_0, lc_0, lc_o m5 (by omega) (by omega), lc_o m6 (by omega) (by omega), lc_o m7 (by omega) (by omega), lc_0, lc_o m9 (by omega) (by omega)⟩
  rw [pk_us, pk_us, pk_us, m5.1, m6.1, m7.1, m9.1]
  exact CS_new hnr hr (fun n hn => rgF_in ⟨by omega, by omega⟩)
theorem ce_step {o rw cl bk tb row col kd0 nm q1 q2 : Int32} {pl kd nu td ps ru bf bl kd2 nu2 td2 ps2 a1 a2 a3 a11 a4 a5 a6 a7 a8 a9 a12 a13 a14 b5 b6 b7 b9 : Nat → Int32} {j : Nat} (hj : j < 6) (hjt : tbJ tb j) (hr : nL 12 rw) (hT : TSr o rw cl pl a1 a2 a3 a11 j) (hD : TDr rw cl bk pl kd nu td ps ru bf bl a4 a5 a6 a7 a8 a9 a12 a13 a14 j)
    (h1 : atP (stX (tbO tb j o) rw cl pl row col) row col (fun i k => sv (tol kd0 nm) (q1 = 1 ∧ puX (i * 12 + k) (mkK kd0) nm kd nu td ps kd2 nu2 td2 ps2) (q1 = 0 ∧ sm4 kd nu td ps kd2 nu2 td2 ps2)) (q1 = 0 ∧ sm4 kd nu td ps kd2 nu2 td2 ps2))
    (h2 : atM a1 a2 a3 a11 tb row col (fun t i k => sv (tol kd0 nm) (q2 = 1 ∧ puM (144 * t + 12 * i + k) (mkK kd0) nm a5 a6 a7 a9 b5 b6 b7 b9) (q2 = 0 ∧ sm4 a5 a6 a7 a9 b5 b6 b7 b9)) (q2 = 0 ∧ sm4 a5 a6 a7 a9 b5 b6 b7 b9)) :
    q1 = q2 ∧ TDr rw cl bk pl kd2 nu2 td2 ps2 ru bf bl a4 b5 b6 b7 a8 b9 a12 a13 a14 j ∧ LQr a4 a5 a6 a7 a8 a9 a12 a13 a14 a4 b5 b6 b7 a8 b9 a12 a13 a14 j := by
  have same : (q1 = 0 ∧ sm4 kd nu td ps kd2 nu2 td2 ps2) → (q2 = 0 ∧ sm4 a5 a6 a7 a9 b5 b6 b7 b9) → q1 = q2 ∧ TDr rw cl bk pl kd2 nu2 td2 ps2 ru bf bl a4 b5 b6 b7 a8 b9 a12 a13 a14 j ∧ LQr a4 a5 a6 a7 a8 a9 a12 a13 a14 a4 b5 b6 b7 a8 b9 a12 a13 a14 j := by
    rintro ⟨e1, x5, x6, x7, x8⟩ ⟨e2, y5, y6, y7, y9⟩
    subst x5 x6 x7 x8 y5 y6 y7 y9
    exact ⟨e1.trans e2.symm, hD, LQ_0⟩
  rcases at_both hj hjt hr hT h1 h2 with ⟨n1, n2⟩ | ⟨i, k, hi, hk, er, ec, hin, hlt, hB, hB2⟩
  · exact same n1 n2
  · rcases hB with ⟨t1, e1, p1⟩ | ⟨t1, s1⟩
    · rcases hB2 with ⟨t2, e2, p2⟩ | ⟨t2, s2⟩
      · exact ⟨e1.trans e2.symm, pu_step hi hk hD (tol_NR t1) (mkK_r t1) p1 p2⟩
      · exact absurd t1 t2
    · rcases hB2 with ⟨t2, s2⟩ | ⟨t2, s2⟩
      · exact absurd t2 t1
      · exact same s1 s2
theorem cr_step {o rw cl bk tb row col q1 q2 : Int32} {pl kd nu td ps ru bf bl kd2 nu2 td2 ps2 a1 a2 a3 a11 a4 a5 a6 a7 a8 a9 a12 a13 a14 b5 b6 b7 b9 : Nat → Int32} {j : Nat} (hj : j < 6) (hjt : tbJ tb j) (hr : nL 12 rw) (hT : TSr o rw cl pl a1 a2 a3 a11 j) (hD : TDr rw cl bk pl kd nu td ps ru bf bl a4 a5 a6 a7 a8 a9 a12 a13 a14 j)
    (h1 : atP (stX (tbO tb j o) rw cl pl row col) row col (fun i k => sv (¬ kd (i * 12 + k) = 0) (q1 = 1 ∧ puX (i * 12 + k) 0 0 kd nu td ps kd2 nu2 td2 ps2) (q1 = 0 ∧ sm4 kd nu td ps kd2 nu2 td2 ps2)) (q1 = 0 ∧ sm4 kd nu td ps kd2 nu2 td2 ps2))
    (h2 : atM a1 a2 a3 a11 tb row col (fun t i k => sv (¬ a5 (144 * t + 12 * i + k) = 0) (q2 = 1 ∧ puM (144 * t + 12 * i + k) 0 0 a5 a6 a7 a9 b5 b6 b7 b9) (q2 = 0 ∧ sm4 a5 a6 a7 a9 b5 b6 b7 b9)) (q2 = 0 ∧ sm4 a5 a6 a7 a9 b5 b6 b7 b9)) :
    q1 = q2 ∧ TDr rw cl bk pl kd2 nu2 td2 ps2 ru bf bl a4 b5 b6 b7 a8 b9 a12 a13 a14 j ∧ LQr a4 a5 a6 a7 a8 a9 a12 a13 a14 a4 b5 b6 b7 a8 b9 a12 a13 a14 j := by
  have same : (q1 = 0 ∧ sm4 kd nu td ps kd2 nu2 td2 ps2) → (q2 = 0 ∧ sm4 a5 a6 a7 a9 b5 b6 b7 b9) → q1 = q2 ∧ TDr rw cl bk pl kd2 nu2 td2 ps2 ru bf bl a4 b5 b6 b7 a8 b9 a12 a13 a14 j ∧ LQr a4 a5 a6 a7 a8 a9 a12 a13 a14 a4 b5 b6 b7 a8 b9 a12 a13 a14 j := by
    rintro ⟨e1, x5, x6, x7, x8⟩ ⟨e2, y5, y6, y7, y9⟩
    subst x5 x6 x7 x8 y5 y6 y7 y9
    exact ⟨e1.trans e2.symm, hD, LQ_0⟩
  rcases at_both hj hjt hr hT h1 h2 with ⟨n1, n2⟩ | ⟨i, k, hi, hk, er, ec, hin, hlt, hB, hB2⟩
  · exact same n1 n2
  · have hc := (hD.2.2.2.2 i k hi hk hin hlt).1
    rcases hB with ⟨t1, e1, p1⟩ | ⟨t1, s1⟩
    · rcases hB2 with ⟨t2, e2, p2⟩ | ⟨t2, s2⟩
      · exact ⟨e1.trans e2.symm, pu_step hi hk hD ⟨0, by omega, rfl, fun _ => ⟨0, by omega, rfl, by omega⟩⟩ ⟨0, by omega, rfl⟩ p1 p2⟩
      · exact absurd (fun z => t1 (hc.trans z)) t2
    · rcases hB2 with ⟨t2, s2⟩ | ⟨t2, s2⟩
      · exact absurd (fun z => t2 (hc.symm.trans z)) t1
      · exact same s1 s2
theorem gv_n {ps : Nat → Int32} {sp m : Nat} (hm : m ≤ 6) (h1 : ∀ k, k < m → 0 < ps (sp * 6 + k)) (h2 : ∀ k, m ≤ k → k < 6 → ps (sp * 6 + k) = 0) : ∀ n, n ≤ 6 → gvN ps sp n = min n m
  | 0, _ => by simp [gvN]
  | n + 1, hn => by
    have ih := gv_n hm h1 h2 n (by omega)
    simp only [gvN]
    by_cases c : n < m
    · rw [if_pos (h1 n c), ih]; omega
    · rw [if_neg (by rw [h2 n (by omega) (by omega)]; decide), ih]; omega
theorem gv_m {ps ps8 : Nat → Int32} {sp : Nat} {gn : Int32} (h : GV (fun k => ps (sp * 6 + k)) ps8 gn) : gn = nI (gvN ps sp 6) ∧ (∀ k, k < gvN ps sp 6 → 0 < ps (sp * 6 + k) ∧ ps (sp * 6 + k) = ps8 k) ∧ ∀ k, gvN ps sp 6 ≤ k → k < 6 → ps (sp * 6 + k) = 0 := by
  obtain ⟨m, hm, e, h1, h2⟩ := h
  have e2 : gvN ps sp 6 = m := by rw [gv_n hm (fun k hk => (h1 k hk).1) h2 6 (by omega)]; omega
  rw [e2]; exact ⟨e, h1, h2⟩
theorem gi_step {o rw cl bk tb row col pv q1 q2 : Int32} {pl kd nu td ps ru bf bl nu2 ps2 a1 a2 a3 a11 a4 a5 a6 a7 a8 a9 a12 a13 a14 b6 b7 b8 : Nat → Int32} {j : Nat} (hj : j < 6) (hjt : tbJ tb j) (hr : nL 12 rw) (hT : TSr o rw cl pl a1 a2 a3 a11 j) (hD : TDr rw cl bk pl kd nu td ps ru bf bl a4 a5 a6 a7 a8 a9 a12 a13 a14 j)
    (h1 : atP (stX (tbO tb j o) rw cl pl row col) row col (fun i k => sv (kd (i * 12 + k) = 2 ∧ ¬ pv < 1 ∧ ¬ 100000 < pv ∧ gvN ps (i * 12 + k) 6 < 6) (q1 = 1 ∧ nu2 = upd nu (i * 12 + k) (nu (i * 12 + k) + pv) ∧ ps2 = upd ps ((i * 12 + k) * 6 + gvN ps (i * 12 + k) 6) pv) (q1 = 0 ∧ nu2 = nu ∧ ps2 = ps)) (q1 = 0 ∧ nu2 = nu ∧ ps2 = ps))
    (h2 : atM a1 a2 a3 a11 tb row col (fun t i k => sv (a5 (144 * t + 12 * i + k) = 2 ∧ ¬ pv < 1 ∧ ¬ 100000 < pv ∧ ¬ a7 (144 * t + 12 * i + k) = 6) (q2 = 1 ∧ gvM (144 * t + 12 * i + k) pv a6 a7 a8 b6 b7 b8) (q2 = 0 ∧ b6 = a6 ∧ b7 = a7 ∧ b8 = a8)) (q2 = 0 ∧ b6 = a6 ∧ b7 = a7 ∧ b8 = a8)) :
    q1 = q2 ∧ TDr rw cl bk pl kd nu2 td ps2 ru bf bl a4 a5 b6 b7 b8 a9 a12 a13 a14 j ∧ LQr a4 a5 a6 a7 a8 a9 a12 a13 a14 a4 a5 b6 b7 b8 a9 a12 a13 a14 j := by
  have same : (q1 = 0 ∧ nu2 = nu ∧ ps2 = ps) → (q2 = 0 ∧ b6 = a6 ∧ b7 = a7 ∧ b8 = a8) → q1 = q2 ∧ TDr rw cl bk pl kd nu2 td ps2 ru bf bl a4 a5 b6 b7 b8 a9 a12 a13 a14 j ∧ LQr a4 a5 a6 a7 a8 a9 a12 a13 a14 a4 a5 b6 b7 b8 a9 a12 a13 a14 j := by
    rintro ⟨e1, x6, x8⟩ ⟨e2, y6, y7, y8⟩
    subst x6 x8 y6 y7 y8
    exact ⟨e1.trans e2.symm, hD, LQ_0⟩
  rcases at_both hj hjt hr hT h1 h2 with ⟨n1, n2⟩ | ⟨i, k, hi, hk, er, ec, hin, hlt, hB, hB2⟩
  · exact same n1 n2
  · have hc := hD.2.2.2.2 i k hi hk hin hlt
    obtain ⟨g7, gp, gz⟩ := gv_m hc.2.2.2.1
    have hle := gvN_le ps (i * 12 + k) 6
    rcases hB with ⟨t1, e1, x6, x8⟩ | ⟨t1, s1⟩
    · rcases hB2 with ⟨t2, e2, gm, hgm, e7, o8, o7, o6⟩ | ⟨t2, s2⟩
      · have eg := (nI_eq (by omega) (by omega)).mp (e7.symm.trans g7)
        rw [eg] at o8 o7
        have hpos : 0 < pv := Int32.lt_of_lt_of_le (by decide : (0 : Int32) < 1) (Int32.not_lt.mp t1.2.1)
        have hl6 := t1.2.2.2
        subst x6 x8
        refine ⟨e1.trans e2.symm, ⟨hD.1, hD.2.1, hD.2.2.1, hD.2.2.2.1, TC_1 hi hk hD.2.2.2.2 (fun _ _ => rfl) (fun q h => pk_un h) (fun _ _ => rfl) (fun q h => pk_un (by omega)) (fun _ _ => rfl) o6.2 o7.2 (fun _ _ => rfl) (fun q h => o8.2 q (by omega)) ⟨hc.1, ?_, hc.2.2.1, ⟨gvN ps (i * 12 + k) 6 + 1, by omega, o7.1, fun n hn => ?_, fun n hn h6 => ?_⟩, hc.2.2.2.2.1, hc.2.2.2.2.2.1, ?_⟩⟩, lc_0, lc_0, lc_0, lc_0, lc_0, lc_o o6 (by omega) (by omega), lc_o o7 (by omega) (by omega), lc_o o8 (by omega) (by omega), lc_0⟩
        · rw [pk_us, o6.1, hc.2.1]
        · show 0 < upd ps ((i * 12 + k) * 6 + gvN ps (i * 12 + k) 6) pv ((i * 12 + k) * 6 + n) ∧ upd ps ((i * 12 + k) * 6 + gvN ps (i * 12 + k) 6) pv ((i * 12 + k) * 6 + n) = b8 (6 * (144 * j + 12 * i + k) + n)
          by_cases en : n = gvN ps (i * 12 + k) 6
          · rw [en, pk_us, o8.1]; exact ⟨hpos, rfl⟩
          · rw [pk_un (by omega), o8.2 _ (by omega)]; exact gp n (by omega)
        · show upd ps ((i * 12 + k) * 6 + gvN ps (i * 12 + k) 6) pv ((i * 12 + k) * 6 + n) = 0
          rw [pk_un (by omega)]; exact gz n (by omega) h6
        · rw [pk_us, o7.1]
          obtain ⟨n, hn, en, hm⟩ := hc.2.2.2.2.2.2
          obtain ⟨m, hm6, em, hnm⟩ := hm t1.1
          obtain ⟨pw, hpw, epw⟩ := nI_le_n (n := 100000) (by decide) (fun z => t1.2.1 (Int32.lt_trans z (by decide : (0 : Int32) < 1))) t1.2.2.1
          have e7 := (nI_eq (by omega) (by omega)).mp (em.symm.trans g7)
          refine ⟨n + pw, by omega, by rw [en, epw]; exact nI_add n pw, fun _ => ⟨gvN ps (i * 12 + k) 6 + 1, by omega, rfl, by omega⟩⟩
      · exact absurd ⟨hc.1.symm.trans t1.1, t1.2.1, t1.2.2.1, fun z => by have e6 := (nI_eq (b := 6) (by omega) (by omega)).mp (g7.symm.trans z); have := t1.2.2.2; omega⟩ t2
    · rcases hB2 with ⟨t2, s2⟩ | ⟨t2, s2⟩
      · exact absurd ⟨hc.1.trans t2.1, t2.2.1, t2.2.2.1, Nat.lt_of_le_of_ne hle (fun z => t2.2.2.2 (by rw [g7, z]; rfl))⟩ t1
      · exact same s1 s2
theorem ru_step {rw cl bk tb wh nm q1 q2 : Int32} {pl kd nu td ps ru ru2 bf bl a4 a5 a6 a7 a8 a9 a12 a13 a14 b4 : Nat → Int32} {j : Nat} (hjt : tbJ tb j) (hD : TDr rw cl bk pl kd nu td ps ru bf bl a4 a5 a6 a7 a8 a9 a12 a13 a14 j) (e : q1 = q2) (h1 : ruRX wh nm q1 ru ru2) (h2 : ruR tb wh nm q2 a4 b4) : TDr rw cl bk pl kd nu td ps ru2 bf bl b4 a5 a6 a7 a8 a9 a12 a13 a14 j ∧ LQr a4 a5 a6 a7 a8 a9 a12 a13 a14 b4 a5 a6 a7 a8 a9 a12 a13 a14 j := by
  subst e
  rcases h1 with ⟨e1, x⟩ | ⟨e1, n, hn, en, x⟩
  · rcases h2 with ⟨e2, y⟩ | ⟨e2, _⟩
    · subst x y; exact ⟨hD, LQ_0⟩
    · exact absurd (e1.symm.trans e2) (by decide)
  · rcases h2 with ⟨e2, _⟩ | ⟨e2, t, n2, ht, hn2, et, en2, y⟩
    · exact absurd (e2.symm.trans e1) (by decide)
    · have a := hjt t ht et
      have b := (nI_eq (by omega) (by omega)).mp (en.symm.trans en2)
      rw [a, ← b] at y
      subst x y
      refine ⟨⟨hD.1, fun k hk => ?_, hD.2.2.1, hD.2.2.2.1, hD.2.2.2.2⟩, lc_0, lc_u (by omega) (by omega), lc_0, lc_0, lc_0, lc_0, lc_0, lc_0, lc_0⟩
      by_cases ek : k = n
      · rw [ek, pk_us, pk_us]
      · rw [pk_un ek, pk_un (by omega)]; exact hD.2.1 k hk
theorem ok_BN {f0 l0 fi la : Int32} : okB f0 l0 fi la ↔ okN f0 l0 fi la := by
  unfold okB okN
  constructor
  · rintro ⟨h1, h2⟩
    refine ⟨fun z => h1 ?_, h2.elim (fun a => Or.inl (a.elim Or.inr Or.inl)) Or.inr⟩
    rw [z.1, z.2]
    exact ⟨⟨Int32.le_refl _, Int32.le_refl _⟩, Int32.le_refl _, Int32.le_refl _⟩
  · rintro ⟨h1, h2⟩
    exact ⟨fun z => h1 ⟨Int32.le_antisymm z.1.1 z.2.1, Int32.le_antisymm z.2.2 z.1.2⟩, h2.elim (fun a => Or.inl (a.elim Or.inr Or.inl)) Or.inr⟩
theorem bl_iff {o rw cl bk tb fi li : Int32} {pl kd nu td ps ru bf bl a1 a2 a3 a11 a4 a5 a6 a7 a8 a9 a12 a13 a14 : Nat → Int32} {j n : Nat} (hj : j < 6) (hT : TSr o rw cl pl a1 a2 a3 a11 j) (hD : TDr rw cl bk pl kd nu td ps ru bf bl a4 a5 a6 a7 a8 a9 a12 a13 a14 j) : blC (tbO tb j o) rw bk bf bl fi li n ↔ blD a1 a2 a12 a13 a14 tb fi li j n := by
  have hb : n < 12 → (okP bf bl fi li n ↔ okM a13 a14 fi li j n) := fun hn => by
    constructor
    · intro h k hk
      rw [← (hD.2.2.1 k (by omega)).1, ← (hD.2.2.1 k (by omega)).2]
      exact ok_BN.mp (h k hk)
    · intro h k hk
      have := h k hk
      rw [← (hD.2.2.1 k (by omega)).1, ← (hD.2.2.1 k (by omega)).2] at this
      exact ok_BN.mpr this
  obtain ⟨h0, h1, _, _⟩ := hT
  have h12 := hD.1
  constructor
  · rintro ⟨⟨et, ho⟩, hn, eb, f1, f2, f3, f4⟩
    have g := Int32.not_lt.mp f3
    refine ⟨hj, hn, et, fun z => ho (h0.trans z), h12.symm.trans eb, ?_, ?_, f3, (hb hn).mp f4⟩
    · rw [← h1]; exact ⟨f1, fun z => f2 (Int32.le_trans z g)⟩
    · rw [← h1]; exact ⟨fun z => f1 (Int32.lt_of_le_of_lt g z), f2⟩
  · rintro ⟨_, hn, et, ho, eb, f1, f2, f3, f4⟩
    exact ⟨⟨et, fun z => ho (h0.symm.trans z)⟩, hn, h12.trans eb, f1.1, by rw [h1]; exact f2.2, f3, (hb hn).mpr f4⟩
theorem bl_step {o rw cl bk tb fi li q1 q2 bk2 : Int32} {pl kd nu td ps ru bf bl bf2 bl2 a1 a2 a3 a11 a4 a5 a6 a7 a8 a9 a12 a13 a14 b12 b13 b14 : Nat → Int32} {j : Nat} (hj : j < 6) (hjt : tbJ tb j) (hT : TSr o rw cl pl a1 a2 a3 a11 j) (hD : TDr rw cl bk pl kd nu td ps ru bf bl a4 a5 a6 a7 a8 a9 a12 a13 a14 j) (h1 : blX (tbO tb j o) rw bk bf bl fi li q1 bk2 bf2 bl2) (h2 : blM a1 a2 a12 a13 a14 tb fi li q2 b12 b13 b14) : q1 = q2 ∧ TDr rw cl bk2 pl kd nu td ps ru bf2 bl2 a4 a5 a6 a7 a8 a9 b12 b13 b14 j ∧ LQr a4 a5 a6 a7 a8 a9 a12 a13 a14 a4 a5 a6 a7 a8 a9 b12 b13 b14 j := by
  rcases h1 with ⟨n, hc, e1, x3, x10, x11⟩ | ⟨hc, e1, x3, x10, x11⟩
  · have hd := (bl_iff (tb := tb) (fi := fi) (li := li) (n := n) hj hT hD).mp hc
    rcases h2 with ⟨t, n2, hd2, e2, y12, y13, y14⟩ | ⟨hd2, _⟩
    · have a := hjt t hd2.1 hd2.2.2.1
      have hn := hd.2.1
      have hn2 := hd2.2.1
      rw [a] at hd2 y12 y13 y14
      have b := (nI_eq (by omega) (by omega)).mp (hd.2.2.2.2.1.symm.trans hd2.2.2.2.2.1)
      rw [← b] at e2 y12 y13 y14
      subst x3 x10 x11 y12 y13 y14
      refine ⟨e1.trans e2.symm, ⟨pk_us.symm, hD.2.1, fun k hk => ?_, hD.2.2.2.1, hD.2.2.2.2⟩, lc_u (by omega) (by omega), lc_0, lc_u (by omega) (by omega), lc_u (by omega) (by omega), lc_0, lc_0, lc_0, lc_0, lc_0⟩
      by_cases ek : k = n
      · rw [ek, pk_us, pk_us, pk_us, pk_us]; exact ⟨rfl, rfl⟩
      · rw [pk_un ek, pk_un ek, pk_un (by omega), pk_un (by omega)]; exact hD.2.2.1 k hk
    · exact absurd ⟨j, n, hd⟩ hd2
  · rcases h2 with ⟨t, n2, hd2, _⟩ | ⟨_, e2, y12, y13, y14⟩
    · rw [hjt t hd2.1 hd2.2.2.1] at hd2
      exact absurd ⟨n2, (bl_iff hj hT hD).mpr hd2⟩ hc
    · subst x3 x10 x11 y12 y13 y14
      exact ⟨e1.trans e2.symm, hD, LQ_0⟩
theorem ru6_at {t k : Nat} {a : Nat → Int32} (hk : k < 6) : ru6 t a (6 * t + k) = ruI k := by
  unfold ru6
  rcases (show k = 0 ∨ k = 1 ∨ k = 2 ∨ k = 3 ∨ k = 4 ∨ k = 5 by omega) with rfl | rfl | rfl | rfl | rfl | rfl
  · rw [pk_un (by omega), pk_un (by omega), pk_un (by omega), pk_un (by omega), pk_un (by omega), Nat.add_zero, pk_us]; rfl
  · rw [pk_un (by omega), pk_un (by omega), pk_un (by omega), pk_un (by omega), pk_us]; rfl
  · rw [pk_un (by omega), pk_un (by omega), pk_un (by omega), pk_us]; rfl
  · rw [pk_un (by omega), pk_un (by omega), pk_us]; rfl
  · rw [pk_un (by omega), pk_us]; rfl
  · rw [pk_us]; rfl
theorem ru6_lc {t : Nat} {a : Nat → Int32} : lcR (6 * t) (6 * t + 6) a (ru6 t a) := fun q hq => by
  unfold ru6
  rw [pk_un (by omega), pk_un (by omega), pk_un (by omega), pk_un (by omega), pk_un (by omega), pk_un (by omega)]
theorem op2_step {tb ra ca q q2 rw cl bk rw2 cl2 bk2 : Int32} {pl kd nu td ps ru bf bl pl2 kd2 nu2 td2 ps2 ru2 a4 a5 a6 a7 a8 a9 a12 a13 a14 b4 b5 b6 b7 b9 b12 : Nat → Int32} {j : Nat} (hjt : tbJ tb j) (hD : TDr rw cl bk pl kd nu td ps ru bf bl a4 a5 a6 a7 a8 a9 a12 a13 a14 j) (e : q = q2) (h1 : opRX ra ca q rw cl pl rw2 cl2 pl2) (h2 : opRX2 ra ca q bk kd nu td ps ru bk2 kd2 nu2 td2 ps2 ru2) (h4 : opR2 tb q2 a4 a5 a6 a7 a9 a12 b4 b5 b6 b7 b9 b12) : TDr rw2 cl2 bk2 pl2 kd2 nu2 td2 ps2 ru2 bf bl b4 b5 b6 b7 a8 b9 b12 a13 a14 j ∧ LQr a4 a5 a6 a7 a8 a9 a12 a13 a14 b4 b5 b6 b7 a8 b9 b12 a13 a14 j := by
  subst e
  rcases h2 with ⟨e2, x3, x5, x6, x7, x8, x9⟩ | ⟨e2, x3, rn, cn, hrn, hcn, er, ec, x5, x6, x7, x8, x9⟩
  · rcases h1 with ⟨_, x1, x2, x4⟩ | ⟨e1, _⟩
    · rcases h4 with ⟨_, y4, y5, y6, y7, y9, y12⟩ | ⟨e4, _⟩
      · subst x1 x2 x3 x4 x5 x6 x7 x8 x9 y4 y5 y6 y7 y9 y12
        exact ⟨hD, LQ_0⟩
      · exact absurd (e2.symm.trans e4) (by decide)
    · exact absurd (e2.symm.trans e1) (by decide)
  · rcases h1 with ⟨e1, _⟩ | ⟨_, x1, x2, x4⟩
    · exact absurd (e1.symm.trans e2) (by decide)
    rcases h4 with ⟨e4, _⟩ | ⟨_, t, ht, et, y4, y5, y6, y7, y9, y12⟩
    · exact absurd (e4.symm.trans e2) (by decide)
    have ej := hjt t ht et
    rw [ej] at y4 y5 y6 y7 y9 y12
    refine ⟨⟨?_, fun k hk => ?_, hD.2.2.1, fun i hi => ?_, fun i c hi hc q1 q2 => ?_⟩, ?_⟩
    · rw [x3, y12, pk_us]
    · rw [x9, y4, ru6_at hk]
      show (if 0 ≤ k ∧ k < 0 + 6 then ruI (0 + (k - 0)) else ru k) = ruI k
      rw [if_pos ⟨by omega, by omega⟩]; congr 1; omega
    · rw [x4 i hi, x2]; exact Int32.le_refl _
    · rw [x1, er] at q1
      rw [x4 i hi, ec] at q2
      have hir : i < rn := by
        have := q1.2
        exact Nat.not_le.mp (fun z => this ((nI_leI (by omega) (by omega)).mpr z))
      have hcc : c < cn := (nI_ltI (by omega) (by omega)).mp q2
      have e5 : ∀ f : Nat → Int32, clF cn rn 0 f (i * 12 + c) = 0 := fun f => if_pos (Or.inl ⟨by omega, by omega⟩)
      rw [x5, x6, x7, x8, e5, e5, e5, (y5 _).1 ⟨by omega, by omega⟩, (y6 _).1 ⟨by omega, by omega⟩, (y7 _).1 ⟨by omega, by omega⟩, (y9 _).1 ⟨by omega, by omega⟩]
      exact CS_new ⟨0, by omega, rfl, fun _ => ⟨0, by omega, rfl, by omega⟩⟩ ⟨0, by omega, rfl⟩ (fun n hn => if_pos (Or.inl ⟨by omega, by omega⟩))
    · subst y4 y12
      exact ⟨lc_u (by omega) (by omega), ru6_lc, lc_0, lc_0, lc_v y5 (by omega) (by omega), lc_v y6 (by omega) (by omega), lc_v y7 (by omega) (by omega), lc_0, lc_v y9 (by omega) (by omega)⟩
theorem nI_lt_n {c : Nat} {n : Nat} (hc : c < 12) (h : nI c < nI n) : c < n := by
  rcases Nat.lt_or_ge c n with g | g
  · exact g
  · exact absurd h (nI_nlt g (by omega))
theorem te2_step {o rw cl bk tb row pn q1 q2 : Int32} {pl kd nu td ps ru bf bl pl2 kd2 nu2 td2 ps2 a4 a5 a6 a7 a8 a9 a12 a13 a14 b5 b6 b7 b9 : Nat → Int32} {j : Nat} (hjt : tbJ tb j) (hD : TDr rw cl bk pl kd nu td ps ru bf bl a4 a5 a6 a7 a8 a9 a12 a13 a14 j) (e : q1 = q2) (h1 : teX (tbO tb j o) rw pl row pn q1 pl2) (h2 : teRX row pn q1 kd nu td ps kd2 nu2 td2 ps2) (h3 : teR tb row pn q2 a5 a6 a7 a9 b5 b6 b7 b9) : TDr rw cl bk pl2 kd2 nu2 td2 ps2 ru bf bl a4 b5 b6 b7 a8 b9 a12 a13 a14 j ∧ LQr a4 a5 a6 a7 a8 a9 a12 a13 a14 a4 b5 b6 b7 a8 b9 a12 a13 a14 j := by
  subst e
  rcases h1 with ⟨c1, i, k1, x4⟩ | ⟨c1, _, x4⟩
  · rcases h2 with ⟨c2, _⟩ | ⟨_, i2, n, pm, hi2, hpm, er2, en, x5, x6, x7, x8⟩
    · exact absurd (c2.symm.trans c1) (by decide)
    rcases h3 with ⟨c3, _⟩ | ⟨_, t, i3, n3, ht, hi3, et, er3, en3, y5, y6, y7, y9⟩
    · exact absurd (c3.symm.trans c1) (by decide)
    obtain ⟨_, hi, er, hin, z1, z2, z3⟩ := k1
    have a := (nI_eq (by omega) (by omega)).mp (er.symm.trans er2)
    have b := (nI_eq (by omega) (by omega)).mp (er.symm.trans er3)
    have hj := hjt t ht et
    rw [← b, hj] at y5 y6 y7 y9
    rw [← a] at x5 x6 x7 x8
    rw [en] at x4 z2
    have hz2 := Int32.not_lt.mp z2
    -- n and n3 are the same number of places
    have hnn : nI n = nI n3 := en.symm.trans en3
    subst x4 x5 x6 x7 x8
    refine ⟨⟨hD.1, hD.2.1, hD.2.2.1, fun k hk => ?_, fun i4 c hi4 hc q1 q2 => ?_⟩, lc_0, lc_0, lc_0, lc_0, lc_r y5 (by omega) (by omega), lc_r y6 (by omega) (by omega), lc_r y7 (by omega) (by omega), lc_0, lc_r y9 (by omega) (by omega)⟩
    · by_cases ek : k = i
      · rw [ek, pk_us]; exact Int32.le_trans hz2 (hD.2.2.2.1 i hi)
      · rw [pk_un ek]; exact hD.2.2.2.1 k hk
    · by_cases ek : i4 = i
      · rw [ek, pk_us] at q2
        have hcn : c < n3 := by
          rw [hnn] at q2
          exact nI_lt_n hc q2
        have hcn2 : c < n := nI_lt_n hc q2
        have q3 : nI c < pl i4 := by rw [ek]; exact Int32.lt_of_lt_of_le q2 hz2
        exact CS_c (hD.2.2.2.2 i4 c hi4 hc q1 q3) (rgF_out (by omega)) (rgF_out (by omega)) (rgF_out (by omega)) (y5 _ (by omega)) (y6 _ (by omega)) (y7 _ (by omega)) (y9 _ (by omega)) (fun m hm => rgF_out (by omega)) (fun _ _ => rfl)
      · rw [pk_un ek] at q2
        exact CS_c (hD.2.2.2.2 i4 c hi4 hc q1 q2) (rgF_out (by omega)) (rgF_out (by omega)) (rgF_out (by omega)) (y5 _ (by omega)) (y6 _ (by omega)) (y7 _ (by omega)) (y9 _ (by omega)) (fun m hm => rgF_out (by omega)) (fun _ _ => rfl)
  · rcases h2 with ⟨_, x5, x6, x7, x8⟩ | ⟨c2, _⟩
    · rcases h3 with ⟨_, y5, y6, y7, y9⟩ | ⟨c3, _⟩
      · subst x4 x5 x6 x7 x8 y5 y6 y7 y9
        exact ⟨hD, LQ_0⟩
      · exact absurd (c1.symm.trans c3) (by decide)
    · exact absurd (c1.symm.trans c2) (by decide)
theorem so_iff {o rw cl bk : Int32} {pl kd nu td ps ru bf bl a1 a2 a3 a11 a4 a5 a6 a7 a8 a9 a12 a13 a14 : Nat → Int32} {j i : Nat} (hc : nL 12 cl) (hT : TSr o rw cl pl a1 a2 a3 a11 j) (hD : TDr rw cl bk pl kd nu td ps ru bf bl a4 a5 a6 a7 a8 a9 a12 a13 a14 j) (hi : i < 12) (hin : inR rw (nI i)) : sndP cl.toNatClampNeg pl kd i ↔ sndN (a3 j) a11 a5 j i := by
  obtain ⟨n, hn, e⟩ := hc
  have e3 : a3 j = nI n := hT.2.2.1.symm.trans e
  rw [sndN_i e3 hn, ← hT.2.2.2 i hi, e, nI_clamp (by omega)]
  have hle := hD.2.2.2.1 i hi
  rw [e] at hle
  unfold sndP kdA
  constructor
  · rintro ⟨h1, h2⟩
    have ep := Int32.le_antisymm hle h1
    refine ⟨ep, fun c hcn => ?_⟩
    have hcs := hD.2.2.2.2 i c hi (by omega) hin (by rw [ep]; exact nI_lt hcn (by omega))
    obtain ⟨m, hm, em⟩ := hcs.2.2.2.2.1
    obtain ⟨g1, g2⟩ := h2 c hcn
    rw [← hcs.1]
    rw [em] at g1 g2 ⊢
    have m0 : m ≠ 0 := fun z => g1 (by rw [z]; rfl)
    have m5 : m ≠ 5 := fun z => g2 (by rw [z]; rfl)
    exact ⟨nI_nlt (b := 1) (by omega) (by omega), nI_nlt (a := 4) (by omega) (by omega)⟩
  · rintro ⟨h1, h2⟩
    refine ⟨by rw [h1]; exact Int32.le_refl _, fun c hcn => ?_⟩
    have hcs := hD.2.2.2.2 i c hi (by omega) hin (by rw [h1]; exact nI_lt hcn (by omega))
    obtain ⟨g1, g2⟩ := h2 c hcn
    rw [← hcs.1] at g1 g2
    exact ⟨fun z => g1 (by rw [z]; decide), fun z => g2 (by rw [z]; decide)⟩
theorem sm_eq {nu a6 : Nat → Int32} {j i : Nat} : ∀ n : Nat, (∀ c, c < n → nu (i * 12 + c) = a6 (144 * j + 12 * i + c)) → smF nu (i * 12) n = smM a6 j i n
  | 0, _ => rfl
  | n + 1, h => by
    show smF nu (i * 12) n + nu (i * 12 + n) = smM a6 j i n + a6 (144 * j + 12 * i + n)
    rw [sm_eq n (fun c hc => h c (by omega)), h n (by omega)]
theorem su_eq {o rw cl bk : Int32} {pl kd nu td ps ru bf bl a1 a2 a3 a11 a4 a5 a6 a7 a8 a9 a12 a13 a14 : Nat → Int32} {j i : Nat} (hc : nL 12 cl) (hT : TSr o rw cl pl a1 a2 a3 a11 j) (hD : TDr rw cl bk pl kd nu td ps ru bf bl a4 a5 a6 a7 a8 a9 a12 a13 a14 j) (hi : i < 12) (hin : inR rw (nI i)) (hs : sndN (a3 j) a11 a5 j i) : smF nu (i * 12) cl.toNatClampNeg = smM a6 j i (a3 j).toNatClampNeg := by
  obtain ⟨n, hn, e⟩ := hc
  have e3 : a3 j = nI n := hT.2.2.1.symm.trans e
  have hp := hs.1
  rw [← hT.2.2.2 i hi, e3] at hp
  rw [e3, e, nI_clamp (by omega)]
  exact sm_eq n (fun c hcn => (hD.2.2.2.2 i c hi (by omega) hin (by rw [hp]; exact nI_lt hcn (by omega))).2.1)