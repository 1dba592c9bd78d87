theorem pu_c {c c2 : Nat → Nat → Int} {x y a b : Nat} {n : Int} (h : c a b = c2 a b) : pu c x y n a b = pu c2 x y n a b := by unfold pu; rw [h]
/-- what the rounder's rows hold of one class: dm its cells, on those that have steps, O over, X up, U ups -/
def UST (dm on : Nat → Nat → Bool) (O X : Nat → Nat → Nat) (U fe mo : Nat → Nat) (q1 q2 q4 q5 q6 s : Nat → Int32) : Prop := (∀ i j, i < 12 → j < 12 → dm i j = true → q1 (i * 12 + j) = nI (O i j) ∧ q2 (i * 12 + j) = nI (X i j)) ∧ (∀ i j, i < 12 → j < 12 → X i j ≤ 1 ∧ O i j ≤ 1000 ∧ (on i j = true → dm i j = true)) ∧ (∀ n, n < 24 → q4 n = nI (U n) ∧ q5 n = nI (fe n) ∧ q6 n = nI (mo n) ∧ U n ≤ 1000 ∧ fe n ≤ 1000 ∧ mo n ≤ 1000) ∧ SYU on X U fe mo s
section US
variable {dm on on2 : Nat → Nat → Bool} {O X X2 : Nat → Nat → Nat} {U U2 fe mo : Nat → Nat} {q1 q2 q4 q5 q6 s s2 bb : Nat → Int32} {B n : Nat}
theorem SYU_c {fe2 mo2 : Nat → Nat} (h : SYU on X U fe mo s) (e1 : ∀ i j, i < 12 → j < 12 → on2 i j = on i j ∧ (on i j = true → X2 i j = X i j)) (e2 : ∀ k, k < 24 → U2 k = U k ∧ fe2 k = fe k ∧ mo2 k = mo k) : SYU on2 X2 U2 fe2 mo2 s := fun u v hu hv => by
  rw [h u v hu hv]
  have e : cRd on2 X2 U2 fe2 mo2 u v = cRd on X U fe mo u v := by
    rcases nd_case u v hu hv with ⟨i, j, hi, hj, rfl, rfl⟩ | ⟨i, j, hi, hj, rfl, rfl⟩ | ⟨rfl, q⟩ | ⟨rfl, q⟩ | ⟨rfl, j, q, rfl⟩ | ⟨rfl, j, q, rfl⟩ | z
    · obtain ⟨a, b⟩ := e1 u j hi hj
      refine (cI_rc hi hj).trans (Eq.trans ?_ (cI_rc hi hj).symm)
      rw [a]
      by_cases c : on u j = true
      · rw [if_pos c, if_pos c, b c]
      · rw [if_neg c, if_neg c]
    · obtain ⟨a, b⟩ := e1 v j hi hj
      refine (cI_cr hi hj).trans (Eq.trans ?_ (cI_cr hi hj).symm)
      rw [a]
      by_cases c : on v j = true
      · rw [if_pos c, if_pos c, b c]
      · rw [if_neg c, if_neg c]
    · obtain ⟨a, b, c⟩ := e2 v (by omega)
      refine (cI_or q).trans (Eq.trans ?_ (cI_or q).symm)
      rw [a, c]
    · obtain ⟨a, b, c⟩ := e2 u (by omega)
      refine (cI_ro q).trans (Eq.trans ?_ (cI_ro q).symm)
      rw [a, b]
    · obtain ⟨a, b, c⟩ := e2 (12 + j) (by omega)
      refine (cI_co q).trans (Eq.trans ?_ (cI_co q).symm)
      rw [a, c]
    · obtain ⟨a, b, c⟩ := e2 (12 + j) (by omega)
      refine (cI_oc q).trans (Eq.trans ?_ (cI_oc q).symm)
      rw [a, b]
    · exact (z _ _ _ _ _ _).1.trans (z _ _ _ _ _ _).1.symm
  rw [e]
theorem UST_on (h : UST dm on O X U fe mo q1 q2 q4 q5 q6 s) (e : ∀ i j, i < 12 → j < 12 → on2 i j = on i j) : UST dm on2 O X U fe mo q1 q2 q4 q5 q6 s := by
  obtain ⟨h1, h2, h3, h4⟩ := h
  exact ⟨h1, fun i j hi hj => by rw [e i j hi hj]; exact h2 i j hi hj, h3, SYU_c h4 (fun i j hi hj => ⟨e i j hi hj, fun _ => rfl⟩) (fun _ _ => ⟨rfl, rfl, rfl⟩)⟩
/-- a node's ups laid anew -/
theorem UST_U {x : Nat} (h : UST dm on O X U fe mo q1 q2 q4 q5 q6 s) (hx : x ≤ 1000) (hs : SYU on X (upL U n x) fe mo s2) : UST dm on O X (upL U n x) fe mo q1 q2 (upd q4 n (nI x)) q5 q6 s2 := by
  obtain ⟨h1, h2, h3, h4⟩ := h
  refine ⟨h1, h2, fun k hk => ?_, hs⟩
  obtain ⟨a, b, c, d, e, f⟩ := h3 k hk
  by_cases q : k = n
  · subst q; rw [pk_us, upL_o]; exact ⟨rfl, b, c, hx, e, f⟩
  · rw [pk_un q, upL_n q]; exact ⟨a, b, c, d, e, f⟩
/-- a cell laid anew -/
theorem UST_X {i j x : Nat} (h : UST dm on O X U fe mo q1 q2 q4 q5 q6 s) (hj : j < 12) (hx : x ≤ 1) (hs : SYU on2 (upT X i j x) U fe mo s2) (ho : ∀ a b, a < 12 → b < 12 → on2 a b = true → dm a b = true) : UST dm on2 O (upT X i j x) U fe mo q1 (upd q2 (i * 12 + j) (nI x)) q4 q5 q6 s2 := by
  obtain ⟨h1, h2, h3, h4⟩ := h
  refine ⟨fun a b ha hb hd => ?_, fun a b ha hb => ?_, h3, hs⟩
  · by_cases q : a = i ∧ b = j
    · obtain ⟨rfl, rfl⟩ := q
      rw [pk_us, upT_s]; exact ⟨(h1 a b ha hb hd).1, rfl⟩
    · rw [pk_un (by omega), upT_n q]; exact h1 a b ha hb hd
  · obtain ⟨a1, a2, a3⟩ := h2 a b ha hb
    refine ⟨?_, a2, ho a b ha hb⟩
    by_cases q : a = i ∧ b = j
    · rw [q.1, q.2, upT_s]; exact hx
    · rw [upT_n q]; exact a1
theorem UST_s (h : UST dm on O X U fe mo q1 q2 q4 q5 q6 s) (hs : SYU on2 X U fe mo s2) (ho : ∀ a b, a < 12 → b < 12 → on2 a b = true → dm a b = true) : UST dm on2 O X U fe mo q1 q2 q4 q5 q6 s2 := ⟨h.1, fun a b ha hb => ⟨(h.2.1 a b ha hb).1, (h.2.1 a b ha hb).2.1, ho a b ha hb⟩, h.2.2.1, hs⟩
/-! turn -/
theorem tu_up (hn : n < 24) (h : UST dm on O X U fe mo q1 q2 q4 q5 q6 s) (hlt : U n < mo n) (hs : SYU on X (upL U n (U n + 1)) fe mo s2) : UST dm on O X (upL U n (U n + 1)) fe mo q1 q2 (upd q4 n (nI (U n + 1))) q5 q6 s2 := UST_U h (by have := h.2.2.1 n hn; omega) hs
theorem tu_dn (hn : n < 24) (h : UST dm on O X U fe mo q1 q2 q4 q5 q6 s) (hs : SYU on X (upL U n (U n - 1)) fe mo s2) : UST dm on O X (upL U n (U n - 1)) fe mo q1 q2 (upd q4 n (nI (U n - 1))) q5 q6 s2 := UST_U h (by have := h.2.2.1 n hn; omega) hs
theorem up_ag {x : Nat} : ∀ k, k < 24 → k ≠ n → upL U n x k = U k ∧ fe k = fe k ∧ mo k = mo k := fun _ _ h => ⟨upL_n h, rfl, rfl⟩
theorem tu_on {i j : Nat} (hi : i < 12) (hj : j < 12) (h : UST dm on O X U fe mo q1 q2 q4 q5 q6 s) (ho : on i j = true) : UST dm on O (upT X i j 1) U fe mo q1 (upd q2 (i * 12 + j) 1) q4 q5 q6 (jnF s i (12 + j) 0 1) := UST_X (x := 1) h hj (Nat.le_refl 1) (SYU_ce hi hj (fun a b _ _ hne => ⟨upT_n hne, rfl⟩) h.2.2.2 (bb_f (fun z => by rw [upT_s] at z; exact absurd z.2 (by decide))) (bb_t ⟨ho, by rw [upT_s]; exact Nat.zero_lt_one⟩)) (fun a b ha hb => (h.2.1 a b ha hb).2.2)
theorem tu_off {i j : Nat} (hi : i < 12) (hj : j < 12) (h : UST dm on O X U fe mo q1 q2 q4 q5 q6 s) (ho : on i j = true) : UST dm on O (upT X i j 0) U fe mo q1 (upd q2 (i * 12 + j) 0) q4 q5 q6 (jnF s i (12 + j) 1 0) := UST_X (x := 0) h hj (Nat.zero_le 1) (SYU_ce hi hj (fun a b _ _ hne => ⟨upT_n hne, rfl⟩) h.2.2.2 (bb_t ⟨ho, upT_s⟩) (bb_f (fun z => by rw [upT_s] at z; exact absurd z.2 (by decide)))) (fun a b ha hb => (h.2.1 a b ha hb).2.2)
theorem ne_of_on {i j a b : Nat} (ho : on i j = true) (h : on a b = false) : ¬ (a = i ∧ b = j) := fun z => by rw [z.1, z.2, ho] at h; exact absurd h (by decide)
theorem ne_of_dm {i j a b : Nat} (h1 : dm i j = true) (h : dm a b = false) : ¬ (a = i ∧ b = j) := fun z => by rw [z.1, z.2, h1] at h; exact absurd h (by decide)
/-! reachFewest -/
theorem rf_step {L : Nat → Nat} (hn : n < 24) (hS : SYU on X U fe mo s) (hCH : CH s (fN n) (tN n) bb L) (hpu : ∀ u v, u < 25 → v < 25 → cRd on X2 U2 fe mo u v = puC (chF bb (tN n)) 1 (cRd on X U fe mo) (L (tN n)) u v) (hoff : ∀ i j, i < 12 → j < 12 → on i j = false → X2 i j = X i j) (hbal : ∀ k, k < 24 → rS X k = (U k : Int)) (hUm : ∀ k, k < 24 → U k ≤ mo k) (hfm : ∀ k, k < 24 → fe k ≤ mo k) (hlt : U n < fe n) : U2 n = U n ∧ (∀ k, k < 24 → rS X2 k = ((upL U2 n (U2 n + 1) k : Nat) : Int)) ∧ (∀ k, k < 24 → upL U2 n (U2 n + 1) k ≤ mo k) ∧ ∀ k, k < 24 → fe k ≤ U k → fe k ≤ upL U2 n (U2 n + 1) k := by
  obtain ⟨b1, b2, b3⟩ := ft_lt hn
  have hinj := CH_inj hCH
  have hj : ∀ j, j < L (tN n) → chF bb (tN n) (j + 1) < 25 ∧ chF bb (tN n) j < 25 ∧ chF bb (tN n) (j + 1) ≠ chF bb (tN n) j := fun j hj => by
    obtain ⟨w1, w2, _⟩ := hCH.2.2.2.2 j hj
    exact ⟨w2, w1, fun z => by have := hinj (j + 1) j (by omega) (by omega) z; omega⟩
  have e0 : U2 n = U n := by
    have hf := puC_far (n := 1) (c := cRd on X U fe mo) (u := fN n) (v := tN n) (ch := chF bb (tN n)) (L (tN n)) (fun j hjl => ⟨fun z => by
      have q := (hCH.2.2.2.2 j hjl).2.2.2.2.1
      rw [← z.1, ← z.2, hS _ _ b1 b2] at q
      have q2 := of_decide_eq_true q
      rw [(cRd_ft hn).1] at q2
      omega, fun z => by
      have := hinj 0 (j + 1) (by omega) (by omega) z.2
      omega⟩)
    have h1 := hpu (fN n) (tN n) b1 b2
    rw [hf, (cRd_ft hn).1, (cRd_ft hn).1] at h1
    omega
  obtain ⟨sr, sc⟩ := sh_bal hj hpu hoff
  have ec : chF bb (tN n) (L (tN n)) = fN n := hCH.2.2.2.1
  have ez : chF bb (tN n) 0 = tN n := rfl
  rw [ec, ez] at sr sc
  have hU := fun (k : Nat) (hk : k < 24) => sh_U (n := k) hS hCH hpu hk
  refine ⟨e0, fun k hk => ?_, fun k hk => ?_, fun k hk hf => ?_⟩
  · by_cases c : k < 12
    · have q := sr k c
      have qb := hbal k hk
      by_cases e : k = n
      · subst e
        rw [upL_o]
        rw [fN_r c, tN_r c, dl_s, dl_n (show k ≠ 24 by omega)] at q
        omega
      · rw [upL_n e]
        by_cases c2 : n < 12
        · rw [fN_r c2, tN_r c2, dl_n e, dl_n (show k ≠ 24 by omega)] at q; omega
        · rw [fN_c c2, tN_c c2, dl_n e, dl_n (show k ≠ 24 by omega)] at q; omega
    · obtain ⟨j, hj', rfl⟩ : ∃ j, j < 12 ∧ k = 12 + j := ⟨k - 12, by omega, by omega⟩
      have q := sc j hj'
      have qb := hbal _ hk
      by_cases e : 12 + j = n
      · subst e
        have c2 : ¬ 12 + j < 12 := by omega
        rw [upL_o]
        rw [fN_c c2, tN_c c2, dl_s, dl_n (show 12 + j ≠ 24 by omega)] at q
        omega
      · rw [upL_n e]
        by_cases c2 : n < 12
        · rw [fN_r c2, tN_r c2, dl_n e, dl_n (show 12 + j ≠ 24 by omega)] at q; omega
        · rw [fN_c c2, tN_c c2, dl_n e, dl_n (show 12 + j ≠ 24 by omega)] at q; omega
  · by_cases e : k = n
    · rw [e, upL_o, e0]; have := hfm n hn; omega
    · rw [upL_n e]; exact (hU k hk).2.2 (hUm k hk)
  · by_cases e : k = n
    · rw [e] at hf; omega
    · rw [upL_n e]; exact (hU k hk).1 hf
/-! bringDown -/
def onB (O : Nat → Nat → Nat) (n a b : Nat) : Bool := decide (n ≤ 12 * a + b) && !decide (O a b = 0)
theorem onB_f {a b : Nat} : onB O n a b = false ↔ (12 * a + b < n ∨ O a b = 0) := by
  unfold onB
  by_cases c : n ≤ 12 * a + b
  · by_cases d : O a b = 0
    · rw [decide_eq_true c, decide_eq_true d]; exact ⟨fun _ => Or.inr d, fun _ => rfl⟩
    · rw [decide_eq_true c, decide_eq_false d]; exact ⟨fun z => absurd z (by decide), fun z => z.elim (fun y => absurd c (by omega)) (fun y => absurd y d)⟩
  · rw [decide_eq_false c]; exact ⟨fun _ => Or.inl (by omega), fun _ => rfl⟩
theorem onB_z {a b i j : Nat} (hb : b < 12) (hj : j < 12) (h : O i j = 0) : onB O (12 * i + j + 1) a b = onB O (12 * i + j) a b := by
  by_cases q : a = i ∧ b = j
  · obtain ⟨rfl, rfl⟩ := q
    rw [onB_f.mpr (Or.inr h), onB_f.mpr (Or.inr h)]
  · unfold onB
    by_cases c : 12 * i + j ≤ 12 * a + b
    · rw [decide_eq_true c, decide_eq_true (show 12 * i + j + 1 ≤ 12 * a + b by omega)]
    · rw [decide_eq_false c, decide_eq_false (show ¬ 12 * i + j + 1 ≤ 12 * a + b by omega)]
theorem onB_n {a b i j : Nat} (hb : b < 12) (hj : j < 12) (h : ¬ (a = i ∧ b = j)) : onB O (12 * i + j + 1) a b = onB O (12 * i + j) a b := by
  unfold onB
  by_cases c : 12 * i + j ≤ 12 * a + b
  · rw [decide_eq_true c, decide_eq_true (show 12 * i + j + 1 ≤ 12 * a + b by omega)]
  · rw [decide_eq_false c, decide_eq_false (show ¬ 12 * i + j + 1 ≤ 12 * a + b by omega)]
theorem onB_row {a b i cl : Nat} (hb : b < 12) (h : ∀ y, cl ≤ y → y < 12 → O i y = 0) (hcl : cl ≤ 12) : onB O (12 * (i + 1)) a b = onB O (12 * i + cl) a b := by
  unfold onB
  by_cases c : 12 * (i + 1) ≤ 12 * a + b
  · rw [decide_eq_true c, decide_eq_true (show 12 * i + cl ≤ 12 * a + b by omega)]
  · rw [decide_eq_false c]
    by_cases d : 12 * i + cl ≤ 12 * a + b
    · have e : a = i := by omega
      subst e
      rw [decide_eq_true (h b (by omega) hb)]; simp
    · rw [decide_eq_false d]
theorem RLX_c {m : Nat} (h : RLX O B X m) (e : ∀ a b, a < 12 → b < 12 → 12 * a + b < m → X2 a b = X a b) : RLX O B X2 m := fun i j hi hj hm hx Y hY hag => by
  rw [e i j hi hj hm] at hx
  exact h i j hi hj hm hx Y hY (fun a b ha hb hl => (hag a b ha hb hl).trans (e a b ha hb (by omega)))
theorem RLX_s {i j : Nat} (hj : j < 12) (h : RLX O B X (12 * i + j)) (hn : X i j = 1 → ∀ Y, FEAS O B Y → (∀ a b, a < 12 → b < 12 → 12 * a + b < 12 * i + j → Y a b = X a b) → Y i j = 1) : RLX O B X (12 * i + j + 1) := fun a b ha hb hm hx => by
  by_cases q : a = i ∧ b = j
  · obtain ⟨rfl, rfl⟩ := q; exact hn hx
  · exact h a b ha hb (by omega) hx
theorem RLX_row {i cl : Nat} (h : RLX O B X (12 * i + cl)) (hz : ∀ y, cl ≤ y → y < 12 → X i y = 0) : RLX O B X (12 * (i + 1)) := fun a b ha hb hm hx => by
  by_cases c : 12 * a + b < 12 * i + cl
  · exact h a b ha hb c hx
  · have e : a = i := by omega
    subst e
    rw [hz b (by omega) hb] at hx
    exact absurd hx (by decide)
/-- what stands between two cells of bringDown -/
def BDN (dm : Nat → Nat → Bool) (O : Nat → Nat → Nat) (B n : Nat) (X : Nat → Nat → Nat) (U fe mo : Nat → Nat) (q1 q2 q4 q5 q6 s : Nat → Int32) : Prop := UST dm (onB O n) O X U fe mo q1 q2 q4 q5 q6 s ∧ (∀ k, k < 24 → rS X k = (U k : Int)) ∧ (∀ k, k < 24 → fe k ≤ U k ∧ U k ≤ mo k) ∧ (∀ i j, i < 12 → j < 12 → O i j = 0 → X i j = 0) ∧ RLX O B X n
theorem rS_up {i j x : Nat} (hi : i < 12) (hj : j < 12) (k : Nat) : (k < 12 → rS (upT X i j x) k = rS X k + dl k i ((x : Int) - (X i j : Int))) ∧ ∀ c, k = 12 + c → rS (upT X i j x) k = rS X k + dl c j ((x : Int) - (X i j : Int)) := by
  refine ⟨fun h => ?_, fun c e => ?_⟩
  · show ndI _ k = ndI _ k + _
    rw [ndI_r h, ndI_r h]; exact row_u hj
  · subst e
    show ndI _ (12 + c) = ndI _ (12 + c) + _
    rw [ndI_c, ndI_c]; exact col_u hi
theorem bd_z {i j : Nat} (hj : j < 12) (hi : i < 12) (h : BDN dm O B (12 * i + j) X U fe mo q1 q2 q4 q5 q6 s) (hO : O i j = 0) : BDN dm O B (12 * i + j + 1) X U fe mo q1 q2 q4 q5 q6 s := ⟨UST_on h.1 (fun a b _ hb => onB_z hb hj hO), h.2.1, h.2.2.1, h.2.2.2.1, RLX_s hj h.2.2.2.2 (fun e => by rw [h.2.2.2.1 i j hi hj hO] at e; exact absurd e (by decide))⟩
theorem onB_d {i j a b : Nat} (h : UST dm (onB O (12 * i + j)) O X U fe mo q1 q2 q4 q5 q6 s) (ha : a < 12) (hb : b < 12) (hj : j < 12) (e : onB O (12 * i + j + 1) a b = true) : dm a b = true := by
  refine (h.2.1 a b ha hb).2.2 ?_
  rw [← onB_n (i := i) (j := j) hb hj (fun z => by rw [z.1, z.2, show onB O (12 * i + j + 1) i j = false from onB_f.mpr (Or.inl (by omega))] at e; exact absurd e (by decide))]; exact e
theorem bd_j {i j : Nat} (hi : i < 12) (hj : j < 12) (h : UST dm (onB O (12 * i + j)) O X U fe mo q1 q2 q4 q5 q6 s) : UST dm (onB O (12 * i + j + 1)) O X U fe mo q1 q2 q4 q5 q6 (jnF s i (12 + j) 0 0) := by
  have off : onB O (12 * i + j + 1) i j = false := onB_f.mpr (Or.inl (by omega))
  refine UST_s h (SYU_ce hi hj (fun a b _ hb hne => ⟨rfl, onB_n hb hj hne⟩) h.2.2.2 (bb_f (fun z => by rw [off] at z; exact absurd z.1 (by decide))) (bb_f (fun z => by rw [off] at z; exact absurd z.1 (by decide)))) (fun a b ha hb e => onB_d h ha hb hj e)
theorem bd_0 {i j : Nat} (hj : j < 12) (h : BDN dm O B (12 * i + j) X U fe mo q1 q2 q4 q5 q6 s) (h2 : UST dm (onB O (12 * i + j + 1)) O X U fe mo q1 q2 q4 q5 q6 s2) (hx : X i j = 0) : BDN dm O B (12 * i + j + 1) X U fe mo q1 q2 q4 q5 q6 s2 := ⟨h2, h.2.1, h.2.2.1, h.2.2.2.1, RLX_s hj h.2.2.2.2 (fun e => by rw [hx] at e; exact absurd e (by decide))⟩
theorem bd_c {i j : Nat} {rc : Int32} (hB : 0 < B) (hi : i < 12) (hj : j < 12) (hfe : ∀ k, k < 24 → (B : Int) * fe k ≤ rS O k) (hmo : ∀ k, k < 24 → rS O k ≤ (B : Int) * mo k) (h : BDN dm O B (12 * i + j) X U fe mo q1 q2 q4 q5 q6 s) (h2 : UST dm (onB O (12 * i + j + 1)) O X U fe mo q1 q2 q4 q5 q6 s2) (hC : CLO s2 i (12 + j) rc) (hx : X i j = 1) : BDN dm O B (12 * i + j + 1) X U fe mo q1 q2 q4 q5 q6 s2 := by
  refine ⟨h2, h.2.1, h.2.2.1, h.2.2.2.1, RLX_s hj h.2.2.2.2 (fun _ Y hY hag => ?_)⟩
  refine bd_no hB hi hj h.2.1 hfe hmo h2.2.2.2 hC hY (fun a b ha hb e hne => ?_) (onB_f.mpr (Or.inl (by omega))) hx
  rcases onB_f.mp e with z | z
  · exact (hag a b ha hb (by omega)).symm
  · rw [h.2.2.2.1 a b ha hb z, (hY.1 a b ha hb).2 z]
theorem bd_w {i j : Nat} {L : Nat → Nat} {r2 r4 : Nat → Int32} (hi : i < 12) (hj : j < 12) (h : BDN dm O B (12 * i + j) X U fe mo q1 q2 q4 q5 q6 s) (hx : X i j = 1) (hS : SYU (onB O (12 * i + j + 1)) X U fe mo s2) (hCH : CH s2 i (12 + j) bb L) (hpu : ∀ u v, u < 25 → v < 25 → cRd (onB O (12 * i + j + 1)) X2 U2 fe mo u v = puC (chF bb (12 + j)) 1 (cRd (onB O (12 * i + j + 1)) X U fe mo) (L (12 + j)) u v) (hoff : ∀ a b, a < 12 → b < 12 → onB O (12 * i + j + 1) a b = false → X2 a b = X a b) {s3 : Nat → Int32} (h2 : UST dm (onB O (12 * i + j + 1)) O X2 U2 fe mo q1 r2 r4 q5 q6 s3) : BDN dm O B (12 * i + j + 1) (upT X2 i j 0) U2 fe mo q1 (upd r2 (i * 12 + j) 0) r4 q5 q6 s3 := by
  have off : onB O (12 * i + j + 1) i j = false := onB_f.mpr (Or.inl (by omega))
  have hx2 : X2 i j = 1 := (hoff i j hi hj off).trans hx
  have hinj := CH_inj hCH
  have hjj : ∀ m, m < L (12 + j) → chF bb (12 + j) (m + 1) < 25 ∧ chF bb (12 + j) m < 25 ∧ chF bb (12 + j) (m + 1) ≠ chF bb (12 + j) m := fun m hm => by
    obtain ⟨w1, w2, _⟩ := hCH.2.2.2.2 m hm
    exact ⟨w2, w1, fun z => by have := hinj (m + 1) m (by omega) (by omega) z; omega⟩
  obtain ⟨sr, sc⟩ := sh_bal hjj hpu hoff
  have ec : chF bb (12 + j) (L (12 + j)) = i := hCH.2.2.2.1
  have ez : chF bb (12 + j) 0 = 12 + j := rfl
  rw [ec, ez] at sr sc
  refine ⟨UST_X (x := 0) h2 hj (Nat.zero_le 1) (SYU_c h2.2.2.2 (fun a b _ _ => ⟨rfl, fun e => upT_n (fun z => ne_of_on e off ⟨z.1.symm, z.2.symm⟩)⟩) (fun _ _ => ⟨rfl, rfl, rfl⟩)) (fun a b ha hb => (h2.2.1 a b ha hb).2.2), fun k hk => ?_, fun k hk => ?_, fun a b ha hb ho => ?_, ?_⟩
  · by_cases c : k < 12
    · have q := sr k c
      have qb := h.2.1 k hk
      have qu := (rS_up (X := X2) (x := 0) hi hj k).1 c
      rw [hx2] at qu
      by_cases e : k = i
      · rw [dl_t e, dl_n (show k ≠ 12 + j by omega)] at q
        rw [dl_t e] at qu
        omega
      · rw [dl_n e, dl_n (show k ≠ 12 + j by omega)] at q
        rw [dl_n e] at qu
        omega
    · obtain ⟨m, hm, rfl⟩ : ∃ m, m < 12 ∧ k = 12 + m := ⟨k - 12, by omega, by omega⟩
      have q := sc m hm
      have qb := h.2.1 _ hk
      have qu := (rS_up (X := X2) (x := 0) hi hj (12 + m)).2 m rfl
      rw [hx2] at qu
      by_cases e : m = j
      · rw [dl_n (show 12 + m ≠ i by omega), dl_t (show 12 + m = 12 + j by omega)] at q
        rw [dl_t e] at qu
        omega
      · rw [dl_n (show 12 + m ≠ i by omega), dl_n (show 12 + m ≠ 12 + j by omega)] at q
        rw [dl_n e] at qu
        omega
  · have q := sh_U (n := k) hS hCH hpu hk
    have q2 := h.2.2.1 k hk
    exact ⟨q.1 q2.1, q.2.2 q2.2⟩
  · by_cases q : a = i ∧ b = j
    · rw [q.1, q.2, upT_s]
    · rw [upT_n q, hoff a b ha hb (onB_f.mpr (Or.inr ho))]; exact h.2.2.2.1 a b ha hb ho
  · refine RLX_s hj (RLX_c h.2.2.2.2 (fun a b ha hb hl => ?_)) (fun e => by rw [upT_s] at e; exact absurd e (by decide))
    rw [upT_n (by omega)]
    exact hoff a b ha hb (onB_f.mpr (Or.inl (by omega)))
theorem bd_row {i cl : Nat} (hcl : cl ≤ 12) (hi : i < 12) (hO : ∀ y, cl ≤ y → y < 12 → O i y = 0) (h : BDN dm O B (12 * i + cl) X U fe mo q1 q2 q4 q5 q6 s) : BDN dm O B (12 * (i + 1)) X U fe mo q1 q2 q4 q5 q6 s := ⟨UST_on h.1 (fun a b _ hb => onB_row hb hO hcl), h.2.1, h.2.2.1, h.2.2.2.1, RLX_row h.2.2.2.2 (fun y h1 h2 => h.2.2.2.1 i y hi h2 (hO y h1 h2))⟩
end US
