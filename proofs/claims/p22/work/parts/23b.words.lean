def tbO (tb : Int32) (j : Nat) (o : Int32) : Prop := tb = nI j ∧ ¬ o = 0
def tbJ (tb : Int32) (j : Nat) : Prop := ∀ n, n < 6 → tb = nI n → n = j
def stX (P : Prop) (rw cl : Int32) (pl : Nat → Int32) (row col q : Int32) : Prop := (q = 1 ∧ ¬ P) ∨ (P ∧ plQ rw cl pl row col q)
theorem stX_0 {P : Prop} {rw cl row col q : Int32} {pl : Nat → Int32} (h : stX P rw cl pl row col q) (h0 : q = 0) : P ∧ inR rw row ∧ inR cl col := by
  rcases h with ⟨a, _⟩ | ⟨p0, h⟩
  · exact absurd (h0.symm.trans a) (by decide)
  · rcases h with ⟨a, _⟩ | ⟨h1, h2, _⟩
    · exact absurd (h0.symm.trans a) (by decide)
    · exact ⟨p0, h1, h2⟩
def rwQ (P : Prop) (rw row q : Int32) : Prop := (q = 1 ∧ ¬ P) ∨ (q = 2 ∧ P ∧ ¬ inR rw row) ∨ (q = 0 ∧ P ∧ inR rw row)
theorem rwQ_0 {P : Prop} {rw row q : Int32} (h : rwQ P rw row q) (h0 : q = 0) : P ∧ inR rw row := by
  rcases h with ⟨a, _⟩ | ⟨a, _⟩ | ⟨_, b⟩
  · exact absurd (h0.symm.trans a) (by decide)
  · exact absurd (h0.symm.trans a) (by decide)
  · exact b
theorem stX_z {P : Prop} {rw cl row col q : Int32} {pl : Nat → Int32} (h : stX P rw cl pl row col q) (e : q = 0) : stX P rw cl pl row col 0 := by subst e; exact h
theorem stX_u {P : Prop} {rw cl row col q q2 : Int32} {pl : Nat → Int32} (h : stX P rw cl pl row col q) (g : stX P rw cl pl row col q2) : q = q2 := by
  rcases h with ⟨a, b⟩ | ⟨a, b⟩ <;> rcases g with ⟨c, d⟩ | ⟨c, d⟩
  · rw [a, c]
  · exact absurd c b
  · exact absurd a d
  · exact plQ_u b d
theorem b1_ {q : Int32} (h : (q = 1 ∧ (0 : Int32) = 0) ∨ (q = 0 ∧ ¬ (0 : Int32) = 0)) : q = 1 := h.elim (fun z => z.1) (fun z => absurd rfl z.2)
theorem b0_ {q v : Int32} (h : (q = 1 ∧ v = 0) ∨ (q = 0 ∧ ¬ v = 0)) (hv : ¬ v = 0) : q = 0 := h.elim (fun z => absurd z.2 hv) (fun z => z.1)
theorem flF_lt {f : Nat → Int32} {v : Int32} {n i : Nat} (h : i < n) : flF f v n i = v := if_pos h
def opRX (ra ca q a1 a2 : Int32) (a4 : Nat → Int32) (b1 b2 : Int32) (b4 : Nat → Int32) : Prop := (q = 0 ∧ b1 = a1 ∧ b2 = a2 ∧ b4 = a4) ∨ (q = 1 ∧ b1 = ra ∧ b2 = ca ∧ ∀ i, i < 12 → b4 i = ca)
def tkX (P : Prop) (rw : Int32) (pl : Nat → Int32) (row pn : Int32) (i : Nat) : Prop := P ∧ i < 12 ∧ row = nI i ∧ inR rw row ∧ ¬ pl i = 0 ∧ ¬ pl i < pn ∧ ¬ pn < 0
def teX (P : Prop) (rw : Int32) (pl : Nat → Int32) (row pn q : Int32) (b4 : Nat → Int32) : Prop := (q = 1 ∧ ∃ i, tkX P rw pl row pn i ∧ b4 = upd pl i pn) ∨ (q = 0 ∧ (¬ ∃ i, tkX P rw pl row pn i) ∧ b4 = pl)
theorem rwQ_n {P : Prop} {rw row q : Int32} (h : rwQ P rw row q) (h0 : ¬ q = 0) (hp : P) (hr : inR rw row) : False := by
  rcases h with ⟨_, b⟩ | ⟨_, _, c⟩ | ⟨a, _⟩
  · exact b hp
  · exact c hr
  · exact h0 a
theorem stX_of {P : Prop} {rw cl row col q : Int32} {pl : Nat → Int32} (h : rwQ P rw row q) (h0 : ¬ q = 0) : stX P rw cl pl row col q := by
  rcases h with ⟨a, b⟩ | ⟨a, b, c⟩ | ⟨a, _⟩
  · exact Or.inl ⟨a, b⟩
  · exact Or.inr ⟨b, Or.inl ⟨a, fun z => c z.1⟩⟩
  · exact absurd a h0
def opY (o : Int32) (t ra ca : Int32) (j : Nat) : Prop := t = nI j ∧ o = 0 ∧ ¬ ra < 1 ∧ ¬ 12 < ra ∧ ¬ ca < 1 ∧ ¬ 12 < ca
def opX (o o2 : Int32) (t ra ca : Int32) (j : Nat) (q : Int32) : Prop := (q = 1 ∧ opY o t ra ca j ∧ o2 = 1) ∨ (q = 0 ∧ ¬ opY o t ra ca j ∧ o2 = o)
theorem opX_1 {o o2 t ra ca q v : Int32} {j : Nat} (h : (q = 1 ∧ v = 0) ∨ (q = 0 ∧ ¬ v = 0)) (hv : v = 0) (h1 : opY o t ra ca j) (h2 : o2 = 1) : opX o o2 t ra ca j q := h.elim (fun z => Or.inl ⟨z.1, h1, h2⟩) (fun z => absurd hv z.2)
theorem opX_0 {o o2 t ra ca q v : Int32} {j : Nat} (h : (q = 1 ∧ v = 0) ∨ (q = 0 ∧ ¬ v = 0)) (hv : ¬ v = 0) (h1 : ¬ opY o t ra ca j) (h2 : o2 = o) : opX o o2 t ra ca j q := h.elim (fun z => absurd z.2 hv) (fun z => Or.inr ⟨z.1, h1, h2⟩)
def clX (o o2 : Int32) (t : Int32) (j : Nat) (q : Int32) : Prop := (q = 1 ∧ tbO t j o ∧ o2 = 0) ∨ (q = 0 ∧ ¬ tbO t j o ∧ o2 = o)
def atP (S : Int32 → Prop) (row col : Int32) (B : Nat → Nat → Prop) (N : Prop) : Prop := (∃ z, ¬ z = 0 ∧ S z ∧ N) ∨ (S 0 ∧ ∃ i k, i < 12 ∧ k < 12 ∧ row = nI i ∧ col = nI k ∧ B i k)
def stK (S : Int32 → Prop) (row col : Int32) (K : Nat → Nat → Int32) (q : Int32) : Prop := (¬ q = 0 ∧ S q) ∨ (S 0 ∧ ∃ i k, i < 12 ∧ k < 12 ∧ row = nI i ∧ col = nI k ∧ q = K i k)
theorem stK_0 {S : Int32 → Prop} {row col q : Int32} {K : Nat → Nat → Int32} (h : stK S row col K q) (e : q = 0) : S 0 := h.elim (fun z => absurd e z.1) (fun z => z.1)
theorem stK_k {S : Int32 → Prop} {row col q : Int32} {K : Nat → Nat → Int32} {i k : Nat} (h : stK S row col K q) (e : q = 0) (hi : i < 12) (hk : k < 12) (e1 : row = nI i) (e2 : col = nI k) : K i k = 0 := by
  rcases h with ⟨a, _⟩ | ⟨_, i2, k2, hi2, hk2, g1, g2, g3⟩
  · exact absurd e a
  · have a := (nI_eq (by omega) (by omega)).mp (e1.symm.trans g1)
    have b := (nI_eq (by omega) (by omega)).mp (e2.symm.trans g2)
    subst a; subst b; exact g3.symm.trans e
theorem stK_up {S : Int32 → Prop} {row col q : Int32} {K K2 : Nat → Nat → Int32} (h : stK S row col K q) (hK : ∀ i k, q = K i k → q = K2 i k) : stK S row col K2 q := by
  rcases h with h | ⟨a, i, k, hi, hk, g1, g2, g3⟩
  · exact Or.inl h
  · exact Or.inr ⟨a, i, k, hi, hk, g1, g2, hK i k g3⟩
theorem atP_n {S : Int32 → Prop} {row col q : Int32} {K : Nat → Nat → Int32} {B : Nat → Nat → Prop} {N : Prop} (h : stK S row col K q) (hq : ¬ q = 0) (hN : N) (hB : ∀ i k, ¬ K i k = 0 → B i k) : atP S row col B N := by
  rcases h with ⟨a, b⟩ | ⟨a, i, k, hi, hk, g1, g2, g3⟩
  · exact Or.inl ⟨q, a, b, hN⟩
  · exact Or.inr ⟨a, i, k, hi, hk, g1, g2, hB i k (fun z => hq (g3.trans z))⟩
theorem kf1_0 {x : Int32} (h : x = 0) : kf1 x = 5 := if_pos h
theorem kf2_0 {x : Int32} (h : x = 0) : kf2 x = 5 := if_pos h
theorem kf2_5 {x : Int32} (a : ¬ x = 0) (h : x = 5) : kf2 x = 6 := by unfold kf2; rw [if_neg a, if_pos h]
theorem kf2_g {x : Int32} (a : ¬ x = 0) (h : ¬ x = 5) : kf2 x = 0 := by unfold kf2; rw [if_neg a, if_neg h]
theorem kf2_i {x : Int32} (h : kf2 x = 0) : ¬ x = 0 ∧ ¬ x = 5 := by
  by_cases a : x = 0
  · rw [kf2_0 a] at h; exact absurd h (by decide)
  · by_cases b : x = 5
    · rw [kf2_5 a b] at h; exact absurd h (by decide)
    · exact ⟨a, b⟩
theorem kf21 {x q : Int32} (hq : ¬ q = 0) (h : q = kf1 x) : q = kf2 x := by
  by_cases a : x = 0
  · rw [h, kf1_0 a, kf2_0 a]
  · exact absurd (h.trans (kf1_g a)) hq
theorem kf41 {x q : Int32} (hq : ¬ q = 0) (h : q = kf1 x) : q = kf4 x := by
  by_cases a : x = 0
  · rw [h, kf1_0 a, kf4_0 a]
  · exact absurd (h.trans (kf1_g a)) hq
theorem kf32 {x q : Int32} (hq : ¬ q = 0) (h : q = kf2 x) : q = kf3 x := by
  by_cases a : x = 0
  · rw [h, kf2_0 a, kf3_0 a]
  · by_cases b : x = 5
    · rw [h, kf2_5 a b, kf3_5 a b]
    · exact absurd (h.trans (kf2_g a b)) hq
def puX (sp : Nat) (kd nm : Int32) (a5 a6 a7 a8 b5 b6 b7 b8 : Nat → Int32) : Prop := b5 = upd a5 sp kd ∧ b6 = upd a6 sp nm ∧ b7 = upd a7 sp 0 ∧ b8 = rgF a8 0 (sp * 6) 6
theorem ag_post2 {G : GG} {a : Nat → Nat} {f : Nat → Int32} {r : Nat → Nat → Int32} {sp : Nat} {v q : Int32} {w w2 : va_W} (h2 : w2 = tW G a f (up2 (up2 r 6 (upd (r 6) sp (r 6 sp + v))) 8 (upd (r 8) (sp * 6 + gvN (r 8) sp 6) v))) (h : (q = 0 ∧ 6 ≤ gvN (r 8) sp 6 ∧ w = tW G a f r) ∨ (q = 1 ∧ gvN (r 8) sp 6 < 6 ∧ w = w2)) : ∃ z6 z8 : Nat → Int32, w = tW G a f (up2 (up2 r 6 z6) 8 z8) ∧ ((q = 0 ∧ 6 ≤ gvN (r 8) sp 6 ∧ z6 = r 6 ∧ z8 = r 8) ∨ (q = 1 ∧ gvN (r 8) sp 6 < 6 ∧ z6 = upd (r 6) sp (r 6 sp + v) ∧ z8 = upd (r 8) (sp * 6 + gvN (r 8) sp 6) v)) := by
  rcases h with ⟨e, g, h⟩ | ⟨e, g, h⟩
  · exact ⟨r 6, r 8, h, Or.inl ⟨e, g, rfl, rfl⟩⟩
  · exact ⟨_, _, h.trans h2, Or.inr ⟨e, g, rfl, rfl⟩⟩
def opRX2 (ra ca q a3 : Int32) (a5 a6 a7 a8 a9 : Nat → Int32) (b3 : Int32) (b5 b6 b7 b8 b9 : Nat → Int32) : Prop := (q = 0 ∧ b3 = a3 ∧ b5 = a5 ∧ b6 = a6 ∧ b7 = a7 ∧ b8 = a8 ∧ b9 = a9) ∨ (q = 1 ∧ b3 = 0 ∧ ∃ rn cn, rn ≤ 12 ∧ cn ≤ 12 ∧ ra = nI rn ∧ ca = nI cn ∧ b5 = clF cn rn 0 a5 ∧ b6 = clF cn rn 0 a6 ∧ b7 = clF cn rn 0 a7 ∧ b8 = clP cn rn 0 a8 ∧ b9 = va_cpy ruI a9 0 0 6)
def ruRX (wh nm q : Int32) (a9 b9 : Nat → Int32) : Prop := (q = 0 ∧ b9 = a9) ∨ (q = 1 ∧ ∃ n, n < 6 ∧ wh = nI n ∧ b9 = upd a9 n nm)
def teRX (row np q : Int32) (a5 a6 a7 a8 b5 b6 b7 b8 : Nat → Int32) : Prop := (q = 0 ∧ sm4 a5 a6 a7 a8 b5 b6 b7 b8) ∨ (q = 1 ∧ ∃ i n pn, i < 12 ∧ pn ≤ 12 ∧ row = nI i ∧ np = nI n ∧ b5 = rgF a5 0 (i * 12 + n) (pn - n) ∧ b6 = rgF a6 0 (i * 12 + n) (pn - n) ∧ b7 = rgF a7 0 (i * 12 + n) (pn - n) ∧ b8 = rgF a8 0 ((i * 12 + n) * 6) ((pn - n) * 6))
def blC (P : Prop) (rw bk : Int32) (bf bl : Nat → Int32) (fi li : Int32) (n : Nat) : Prop := P ∧ n < 12 ∧ bk = nI n ∧ ¬ fi < 0 ∧ ¬ rw ≤ li ∧ ¬ li < fi ∧ okP bf bl fi li n
def blX (P : Prop) (rw bk : Int32) (bf bl : Nat → Int32) (fi li q bk2 : Int32) (bf2 bl2 : Nat → Int32) : Prop := (∃ n, blC P rw bk bf bl fi li n ∧ q = nI (n + 1) ∧ bk2 = nI (n + 1) ∧ bf2 = upd bf n fi ∧ bl2 = upd bl n li) ∨ ((¬ ∃ n, blC P rw bk bf bl fi li n) ∧ q = -1 ∧ bk2 = bk ∧ bf2 = bf ∧ bl2 = bl)
theorem kf2_3 {x : Int32} (h : x = 3) : kf2 x = 0 := by subst h; decide
theorem kfS2 {x q : Int32} {P : Prop} (hq : ¬ q = 0) (h : q = kf2 x) : q = kfS x P := by
  by_cases a : x = 0
  · rw [h, kf2_0 a, kfS_0 a]
  · by_cases b : x = 5
    · rw [h, kf2_5 a b, kfS_5 a b]
    · exact absurd (h.trans (kf2_g a b)) hq
def roX (P : Prop) (rw row : Int32) (B : Nat → Prop) (N : Prop) : Prop := ((¬ (P ∧ inR rw row)) ∧ N) ∨ (P ∧ inR rw row ∧ ∃ i, i < 12 ∧ row = nI i ∧ B i)
