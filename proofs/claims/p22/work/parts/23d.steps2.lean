theorem bit1_or1 (x : Int32) : (x ||| 1) &&& 1 = 1 := b_ext (fun i hi => by
  rw [b_and, b_or]
  generalize bt 1 i = u
  generalize bt x i = v
  cases u <;> cases v <;> rfl)
theorem bit1_an1 (x : Int32) : (x &&& ((1 : Int32) ^^^ (-1))) &&& 1 = 0 := b_ext (fun i hi => by
  rw [b_and, b_and, b_0, b_1 i hi]
  by_cases h : i = 0
  · subst h; rw [show bt ((1 : Int32) ^^^ (-1)) 0 = false from by decide]; simp
  · rw [decide_eq_false h]; simp)
theorem ha_step {o rw cl bk tb row col on q1 q2 : Int32} {pl kd nu td ps ru bf bl td2 a1 a2 a3 a11 a4 a5 a6 a7 a8 a9 a12 a13 a14 b9 : Nat → Int32} {j : Nat} (hon : on = 0 ∨ on = 1) (hj : j < 6) (hjt : tbJ tb j) (hr : nL 12 rw) (hT : TSr o rw cl pl a1 a2 a3 a11 j) (hD : TDr rw cl bk pl kd nu td ps ru bf bl a4 a5 a6 a7 a8 a9 a12 a13 a14 j)
    (h1 : atP (stX (tbO tb j o) rw cl pl row col) row col (fun i k => sv (gdK (kd (i * 12 + k))) (q1 = 1 ∧ td2 = upd td (i * 12 + k) (if on = 0 then td (i * 12 + k) &&& (1 ^^^ (-1)) else td (i * 12 + k) ||| 1)) (q1 = 0 ∧ td2 = td)) (q1 = 0 ∧ td2 = td))
    (h2 : atM a1 a2 a3 a11 tb row col (fun t i k => sv (gdK (a5 (144 * t + 12 * i + k))) (q2 = 1 ∧ b9 = upd a9 (144 * t + 12 * i + k) (vp_nar .boolean on)) (q2 = 0 ∧ b9 = a9)) (q2 = 0 ∧ b9 = a9)) :
    q1 = q2 ∧ TDr rw cl bk pl kd nu td2 ps ru bf bl a4 a5 a6 a7 a8 b9 a12 a13 a14 j ∧ LQr a4 a5 a6 a7 a8 a9 a12 a13 a14 a4 a5 a6 a7 a8 b9 a12 a13 a14 j := by
  have same : (q1 = 0 ∧ td2 = td) → (q2 = 0 ∧ b9 = a9) → q1 = q2 ∧ TDr rw cl bk pl kd nu td2 ps ru bf bl a4 a5 a6 a7 a8 b9 a12 a13 a14 j ∧ LQr a4 a5 a6 a7 a8 a9 a12 a13 a14 a4 a5 a6 a7 a8 b9 a12 a13 a14 j := by
    rintro ⟨e1, x7⟩ ⟨e2, y9⟩
    subst x7 y9
    exact ⟨e1.trans e2.symm, hD, LQ_0⟩
  rcases at_both hj hjt hr hT h1 h2 with ⟨n1, n2⟩ | ⟨i, k, hi, hk, er, ec, hin, hlt, hB, hB2⟩
  · exact same n1 n2
  · have hc := hD.2.2.2.2 i k hi hk hin hlt
    rcases hB with ⟨t1, e1, x7⟩ | ⟨t1, s1⟩
    · rcases hB2 with ⟨t2, e2, y9⟩ | ⟨t2, s2⟩
      · subst x7 y9
        refine ⟨e1.trans e2.symm, ⟨hD.1, hD.2.1, hD.2.2.1, hD.2.2.2.1, TC_1 hi hk hD.2.2.2.2 (fun _ _ => rfl) (fun _ _ => rfl) (fun q h => pk_un h) (fun _ _ => rfl) (fun _ _ => rfl) (fun _ _ => rfl) (fun _ _ => rfl) (fun q h => pk_un h) (fun _ _ => rfl) ⟨hc.1, hc.2.1, ?_, hc.2.2.2.1, hc.2.2.2.2.1, fun z => absurd t1 z, hc.2.2.2.2.2.2⟩⟩, lc_0, lc_0, lc_0, lc_0, lc_0, lc_0, lc_0, lc_0, lc_u (by omega) (by omega)⟩
        rw [pk_us, pk_us]
        rcases hon with e | e
        · subst e
          rw [if_pos rfl, bit1_an1]
          exact ⟨fun _ => rfl, fun _ => rfl⟩
        · subst e
          rw [if_neg (by decide), bit1_or1]
          exact ⟨fun z => absurd z (by decide), fun z => absurd z (by decide)⟩
      · exact absurd (hc.1 ▸ t1) t2
    · rcases hB2 with ⟨t2, s2⟩ | ⟨t2, s2⟩
      · exact absurd (hc.1.symm ▸ t2) t1
      · exact same s1 s2
theorem TD_hb {rw cl bk : Int32} {pl kd nu td td2 ps ru bf bl a4 a5 a6 a7 a8 a9 a12 a13 a14 : Nat → Int32} {j : Nat} (hD : TDr rw cl bk pl kd nu td ps ru bf bl a4 a5 a6 a7 a8 a9 a12 a13 a14 j) (hb : hb1 td td2) : TDr rw cl bk pl kd nu td2 ps ru bf bl a4 a5 a6 a7 a8 a9 a12 a13 a14 j := by
  refine ⟨hD.1, hD.2.1, hD.2.2.1, hD.2.2.2.1, fun i c hi hc h1 h2 => ?_⟩
  have h := hD.2.2.2.2 i c hi hc h1 h2
  exact ⟨h.1, h.2.1, by rw [hb]; exact h.2.2.1, h.2.2.2.1, h.2.2.2.2.1, fun z => by rw [hb]; exact h.2.2.2.2.2.1 z, h.2.2.2.2.2.2⟩
theorem ke_step {o rw cl bk tb row col on q1 q2 : Int32} {pl kd nu td ps ru bf bl td2 a1 a2 a3 a11 a4 a5 a6 a7 a8 a9 a12 a13 a14 : Nat → Int32} {j : Nat} (hj : j < 6) (hjt : tbJ tb j) (hr : nL 12 rw) (hT : TSr o rw cl pl a1 a2 a3 a11 j) (hD : TDr rw cl bk pl kd nu td ps ru bf bl a4 a5 a6 a7 a8 a9 a12 a13 a14 j)
    (h1 : atP (stX (tbO tb j o) rw cl pl row col) row col (fun i k => sv (gdK (kd (i * 12 + k))) (q1 = 1 ∧ td2 = upd td (i * 12 + k) (if on = 0 then td (i * 12 + k) &&& (2 ^^^ (-1)) else td (i * 12 + k) ||| 2)) (q1 = 0 ∧ td2 = td)) (q1 = 0 ∧ td2 = td))
    (h2 : atM a1 a2 a3 a11 tb row col (fun t i k => sv (gdK (a5 (144 * t + 12 * i + k))) (q2 = 1) (q2 = 0)) (q2 = 0)) :
    q1 = q2 ∧ TDr rw cl bk pl kd nu td2 ps ru bf bl a4 a5 a6 a7 a8 a9 a12 a13 a14 j ∧ LQr a4 a5 a6 a7 a8 a9 a12 a13 a14 a4 a5 a6 a7 a8 a9 a12 a13 a14 j := by
  rcases at_both hj hjt hr hT h1 h2 with ⟨⟨e1, x7⟩, e2⟩ | ⟨i, k, hi, hk, er, ec, hin, hlt, hB, hB2⟩
  · subst x7; exact ⟨e1.trans e2.symm, hD, LQ_0⟩
  · have hc := hD.2.2.2.2 i k hi hk hin hlt
    rcases hB with ⟨t1, e1, x7⟩ | ⟨t1, e1, x7⟩
    · rcases hB2 with ⟨t2, e2⟩ | ⟨t2, e2⟩
      · subst x7; exact ⟨e1.trans e2.symm, TD_hb hD (hb1_tell (fun _ => rfl) _ _), LQ_0⟩
      · exact absurd (hc.1 ▸ t1) t2
    · rcases hB2 with ⟨t2, e2⟩ | ⟨t2, e2⟩
      · exact absurd (hc.1.symm ▸ t2) t1
      · subst x7; exact ⟨e1.trans e2.symm, hD, LQ_0⟩
theorem th_eq {n w : Int32} (h : ¬ w < 0) : thF n w = thM n w := by
  unfold thF thM
  by_cases e : w = 0
  · rw [if_pos e, if_neg (by rw [e]; decide)]
  · rw [if_neg e, if_pos (Int32.lt_of_le_of_ne (Int32.not_lt.mp h) (fun z => e z.symm))]
theorem sm_nn {nu : Nat → Int32} {b : Nat} : ∀ n, n ≤ 12 → (∀ c, c < n → ∃ m, m ≤ 1000000 ∧ nu (b + c) = nI m) → ∃ m, m ≤ 1000000 * n ∧ smF nu b n = nI m
  | 0, _, _ => ⟨0, by omega, rfl⟩
  | n + 1, hn, h => by
    obtain ⟨m, hm, em⟩ := sm_nn n (by omega) (fun c hc => h c (by omega))
    obtain ⟨m2, hm2, em2⟩ := h n (by omega)
    refine ⟨m + m2, by omega, ?_⟩
    show smF nu b n + nu (b + n) = _
    rw [em, em2]; exact nI_add m m2
theorem th_same {o rw cl bk tb row col q1 q2 : Int32} {pl kd nu td ps ru bf bl a1 a2 a3 a11 a4 a5 a6 a7 a8 a9 a12 a13 a14 : Nat → Int32} {j : Nat} (hc : nL 12 cl) (hj : j < 6) (hjt : tbJ tb j) (hr : nL 12 rw) (hT : TSr o rw cl pl a1 a2 a3 a11 j) (hD : TDr rw cl bk pl kd nu td ps ru bf bl a4 a5 a6 a7 a8 a9 a12 a13 a14 j)
    (h1 : atP (stX (tbO tb j o) rw cl pl row col) row col (fun i k => sv (kd (i * 12 + k) = 3 ∧ sndP cl.toNatClampNeg pl kd i) (q1 = thF (nu (i * 12 + k)) (smF nu (i * 12) cl.toNatClampNeg)) (q1 = -1)) (q1 = -1))
    (h2 : atM a1 a2 a3 a11 tb row col (fun t i k => sv (a5 (144 * t + 12 * i + k) = 3 ∧ sndN (a3 t) a11 a5 t i) (q2 = thM (a6 (144 * t + 12 * i + k)) (smM a6 t i (a3 t).toNatClampNeg)) (q2 = -1)) (q2 = -1)) : q1 = q2 := by
  rcases at_both hj hjt hr hT h1 h2 with ⟨e1, e2⟩ | ⟨i, k, hi, hk, er, ec, hin, hlt, hB, hB2⟩
  · exact e1.trans e2.symm
  · have hcs := hD.2.2.2.2 i k hi hk hin hlt
    have hs := so_iff hc hT hD hi hin
    rcases hB with ⟨t1, e1⟩ | ⟨t1, e1⟩ <;> rcases hB2 with ⟨t2, e2⟩ | ⟨t2, e2⟩
    · have es := su_eq hc hT hD hi hin t2.2
      rw [e1, e2, ← es, ← hcs.2.1]
      obtain ⟨n, hn, en⟩ := hc
      have hp : pl i = nI n := (hT.2.2.2 i hi).trans (t2.2.1.trans (hT.2.2.1.symm.trans en))
      obtain ⟨m, hm, em⟩ := sm_nn (nu := nu) (b := i * 12) n hn (fun c hcn => by
        obtain ⟨m, hm, em, _⟩ := (hD.2.2.2.2 i c hi (by omega) hin (by rw [hp]; exact nI_lt hcn (by omega))).2.2.2.2.2.2
        exact ⟨m, hm, em⟩)
      rw [en, nI_clamp (by omega), em]
      exact th_eq (nI_pos (by omega))
    · exact absurd ⟨hcs.1.symm.trans t1.1, hs.mp t1.2⟩ t2
    · exact absurd ⟨hcs.1.trans t2.1, hs.mpr t2.2⟩ t1
    · exact e1.trans e2.symm
