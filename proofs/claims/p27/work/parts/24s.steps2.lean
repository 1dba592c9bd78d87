section SK
variable {o rw cl bk tb row col q q1 q2 : Int32} {pl kd nu td ps ru bf bl pl2 kd2 nu2 td2 ps2 ru2 a1 a2 a3 a4 a5 a6 a7 a8 a9 a10 a11 a12 a13 a14 b10 : Nat → Int32} {j : Nat}
theorem KK_00 {k : Int32} : KKr k 0 0 := ⟨⟨fun _ => rfl, fun _ => by decide⟩, fun _ => by decide⟩
theorem op_k {ra ca rw2 cl2 bk2 : Int32} (hjt : tbJ tb j) (hK : JKr rw pl kd td a10 j) (e : q = q2) (h1 : opRX ra ca q rw cl pl rw2 cl2 pl2) (h2 : opRX2 ra ca q bk kd nu td ps ru bk2 kd2 nu2 td2 ps2 ru2) (h4 : opR3 tb q2 a10 b10) : JKr rw2 pl2 kd2 td2 b10 j ∧ lcR (144 * j) (144 * j + 144) a10 b10 := by
  subst e
  rcases h2 with ⟨e2, x3, x5, x6, x7, x8, x9⟩ | ⟨e2, x3, rn, cn, hrn, hcn, er, ec, x5, x6, x7, x8, x9⟩
  · rcases h1 with ⟨_, x1, x2, x4⟩ | ⟨e1, _⟩
    · rcases h4 with ⟨_, y10⟩ | ⟨e4, _⟩
      · subst x1 x4 x5 x7 y10
        exact ⟨hK, lc_0⟩
      · exact absurd (e2.symm.trans e4) (by decide)
    · exact absurd (e2.symm.trans e1) (by decide)
  · rcases h1 with ⟨e1, _⟩ | ⟨_, x1, x2, x4⟩
    · exact absurd (e1.symm.trans e2) (by decide)
    rcases h4 with ⟨e4, _⟩ | ⟨_, t, ht, et, y10⟩
    · exact absurd (e4.symm.trans e2) (by decide)
    have ej := hjt t ht et
    rw [ej] at y10
    refine ⟨fun i c hi hc q1 q2 => ?_, lc_v y10 (by omega) (by omega)⟩
    rw [x1, er] at q1
    rw [x4 i hi, ec] at q2
    have hir : i < rn := by
      have := q1.2
      exact Nat.not_le.mp (fun z => this ((nI_leI (by omega) (by omega)).mpr z))
    have hcc : c < cn := (nI_ltI (by omega) (by omega)).mp q2
    have e5 : ∀ f : Nat → Int32, clF cn rn 0 f (i * 12 + c) = 0 := fun f => if_pos (Or.inl ⟨by omega, by omega⟩)
    rw [x7, e5, (y10 _).1 ⟨by omega, by omega⟩]
    exact KK_00
theorem pu_k {i k : Nat} {kn nm : Int32} (hi : i < 12) (hk : k < 12) (hK : JKr rw pl kd td a10 j) (h1 : puX (i * 12 + k) kn nm kd nu td ps kd2 nu2 td2 ps2) (h2 : only (144 * j + 12 * i + k) 0 a10 b10) : JKr rw pl kd2 td2 b10 j ∧ lcR (144 * j) (144 * j + 144) a10 b10 := by
  refine ⟨fun a c ha hc q1 q2 => ?_, lc_o h2 (by omega) (by omega)⟩
  rw [h1.1, h1.2.2.1]
  by_cases e : a = i ∧ c = k
  · obtain ⟨rfl, rfl⟩ := e
    rw [pk_us, pk_us, h2.1]; exact KK_00
  · rw [pk_un (by omega), pk_un (by omega), h2.2 _ (by omega)]
    exact hK a c ha hc q1 q2
theorem ce_k {kd0 nm : Int32} (hj : j < 6) (hjt : tbJ tb j) (hr : nL 12 rw) (hT : TSr o rw cl pl a1 a2 a3 a11 j) (hK : JKr rw pl kd td a10 j)
    (h1 : atP (stX (tbO tb j o) rw cl pl row col) row col (fun i k => sv (tol kd0 nm) (q1 = 1 ∧ puX (i * 12 + k) (mkK kd0) nm kd nu td ps kd2 nu2 td2 ps2) (q1 = 0 ∧ sm4 kd nu td ps kd2 nu2 td2 ps2)) (q1 = 0 ∧ sm4 kd nu td ps kd2 nu2 td2 ps2))
    (h2 : atM a1 a2 a3 a11 tb row col (fun t i k => sv (tol kd0 nm) (only (144 * t + 12 * i + k) 0 a10 b10) (b10 = a10)) (b10 = a10)) : JKr rw pl kd2 td2 b10 j ∧ lcR (144 * j) (144 * j + 144) a10 b10 := by
  have same : (q1 = 0 ∧ sm4 kd nu td ps kd2 nu2 td2 ps2) → b10 = a10 → JKr rw pl kd2 td2 b10 j ∧ lcR (144 * j) (144 * j + 144) a10 b10 := by
    rintro ⟨e1, x5, x6, x7, x8⟩ y
    subst x5 x7 y
    exact ⟨hK, lc_0⟩
  rcases at_both hj hjt hr hT h1 h2 with ⟨n1, n2⟩ | ⟨i, k, hi, hk, er, ec, hin, hlt, hB, hB2⟩
  · exact same n1 n2
  · rcases hB with ⟨t1, e1, p1⟩ | ⟨t1, s1⟩
    · rcases hB2 with ⟨t2, p2⟩ | ⟨t2, s2⟩
      · exact pu_k hi hk hK p1 p2
      · exact absurd t1 t2
    · rcases hB2 with ⟨t2, s2⟩ | ⟨t2, s2⟩
      · exact absurd t2 t1
      · exact same s1 s2
theorem cr_k (hj : j < 6) (hjt : tbJ tb j) (hr : nL 12 rw) (hT : TSr o rw cl pl a1 a2 a3 a11 j) (hD : TDr rw cl bk pl kd nu td ps ru bf bl a4 a5 a6 a7 a8 a9 a12 a13 a14 j) (hK : JKr rw pl kd td a10 j)
    (h1 : atP (stX (tbO tb j o) rw cl pl row col) row col (fun i k => sv (¬ kd (i * 12 + k) = 0) (q1 = 1 ∧ puX (i * 12 + k) 0 0 kd nu td ps kd2 nu2 td2 ps2) (q1 = 0 ∧ sm4 kd nu td ps kd2 nu2 td2 ps2)) (q1 = 0 ∧ sm4 kd nu td ps kd2 nu2 td2 ps2))
    (h2 : atM a1 a2 a3 a11 tb row col (fun t i k => sv (¬ a5 (144 * t + 12 * i + k) = 0) (only (144 * t + 12 * i + k) 0 a10 b10) (b10 = a10)) (b10 = a10)) : JKr rw pl kd2 td2 b10 j ∧ lcR (144 * j) (144 * j + 144) a10 b10 := by
  have same : (q1 = 0 ∧ sm4 kd nu td ps kd2 nu2 td2 ps2) → b10 = a10 → JKr rw pl kd2 td2 b10 j ∧ lcR (144 * j) (144 * j + 144) a10 b10 := by
    rintro ⟨e1, x5, x6, x7, x8⟩ y
    subst x5 x7 y
    exact ⟨hK, lc_0⟩
  rcases at_both hj hjt hr hT h1 h2 with ⟨n1, n2⟩ | ⟨i, k, hi, hk, er, ec, hin, hlt, hB, hB2⟩
  · exact same n1 n2
  · have hc := hD.2.2.2.2 i k hi hk hin hlt
    rcases hB with ⟨t1, e1, p1⟩ | ⟨t1, s1⟩
    · rcases hB2 with ⟨t2, p2⟩ | ⟨t2, s2⟩
      · exact pu_k hi hk hK p1 p2
      · exact absurd (fun z => t1 (hc.1.trans z)) t2
    · rcases hB2 with ⟨t2, s2⟩ | ⟨t2, s2⟩
      · exact absurd (fun z => t2 (hc.1.symm.trans z)) t1
      · exact same s1 s2
theorem te_k {pn : Int32} (hjt : tbJ tb j) (hK : JKr rw pl kd td a10 j) (e : q1 = q2) (h1 : teX (tbO tb j o) rw pl row pn q1 pl2) (h2 : teRX row pn q1 kd nu td ps kd2 nu2 td2 ps2) (h3 : teR3 tb row pn q2 a10 b10) : JKr rw pl2 kd2 td2 b10 j ∧ lcR (144 * j) (144 * j + 144) a10 b10 := by
  subst e
  rcases h1 with ⟨c1, i, k1, x4⟩ | ⟨c1, _, x4⟩
  · rcases h2 with ⟨c2, _⟩ | ⟨_, i2, n, pm, hi2, hpm, er2, en, x5, x6, x7, x8⟩
    · exact absurd (c2.symm.trans c1) (by decide)
    rcases h3 with ⟨c3, _⟩ | ⟨_, t, i3, n3, ht, hi3, et, er3, en3, y10, _⟩
    · exact absurd (c3.symm.trans c1) (by decide)
    obtain ⟨_, hi, er, hin, z1, z2, z3⟩ := k1
    have a := (nI_eq (by omega) (by omega)).mp (er.symm.trans er2)
    have b := (nI_eq (by omega) (by omega)).mp (er.symm.trans er3)
    have hj := hjt t ht et
    rw [← b, hj] at y10
    rw [← a] at x5 x7
    rw [en] at x4 z2
    have hz2 := Int32.not_lt.mp z2
    have hnn : nI n = nI n3 := en.symm.trans en3
    subst x4 x5 x7
    refine ⟨fun i4 c hi4 hc q1 q2 => ?_, lc_r y10 (by omega) (by omega)⟩
    by_cases ek : i4 = i
    · rw [ek, pk_us] at q2
      have hcn : c < n3 := by
        rw [hnn] at q2
        exact nI_lt_n hc q2
      have hcn2 : c < n := nI_lt_n hc q2
      have q3 : nI c < pl i4 := by rw [ek]; exact Int32.lt_of_lt_of_le q2 hz2
      rw [rgF_out (by omega), rgF_out (by omega), y10 _ (by omega)]
      exact hK i4 c hi4 hc q1 q3
    · rw [pk_un ek] at q2
      rw [rgF_out (by omega), rgF_out (by omega), y10 _ (by omega)]
      exact hK i4 c hi4 hc q1 q2
  · rcases h2 with ⟨_, x5, x6, x7, x8⟩ | ⟨c2, _⟩
    · rcases h3 with ⟨_, y10⟩ | ⟨c3, _⟩
      · subst x4 x5 x7 y10
        exact ⟨hK, lc_0⟩
      · exact absurd (c1.symm.trans c3) (by decide)
    · exact absurd (c1.symm.trans c2) (by decide)
theorem ke_k {on : Int32} (hon : on = 0 ∨ on = 1) (hj : j < 6) (hjt : tbJ tb j) (hr : nL 12 rw) (hT : TSr o rw cl pl a1 a2 a3 a11 j) (hD : TDr rw cl bk pl kd nu td ps ru bf bl a4 a5 a6 a7 a8 a9 a12 a13 a14 j) (hK : JKr rw pl kd td a10 j)
    (h1 : atP (stX (tbO tb j o) rw cl pl row col) row col (fun i k => sv (gdK (kd (i * 12 + k))) (q1 = 1 ∧ td2 = upd td (i * 12 + k) (if on = 0 then td (i * 12 + k) &&& (2 ^^^ (-1)) else td (i * 12 + k) ||| 2)) (q1 = 0 ∧ td2 = td)) (q1 = 0 ∧ td2 = td))
    (h2 : atM a1 a2 a3 a11 tb row col (fun t i k => sv (gdK (a5 (144 * t + 12 * i + k))) (q2 = 1 ∧ b10 = upd a10 (144 * t + 12 * i + k) (vp_nar .boolean on)) (q2 = 0 ∧ b10 = a10)) (q2 = 0 ∧ b10 = a10)) : JKr rw pl kd td2 b10 j ∧ lcR (144 * j) (144 * j + 144) a10 b10 := by
  have same : (q1 = 0 ∧ td2 = td) → (q2 = 0 ∧ b10 = a10) → JKr rw pl kd td2 b10 j ∧ lcR (144 * j) (144 * j + 144) a10 b10 := by
    rintro ⟨_, x7⟩ ⟨_, y⟩
    subst x7 y
    exact ⟨hK, lc_0⟩
  rcases at_both hj hjt hr hT h1 h2 with ⟨n1, n2⟩ | ⟨i, k, hi, hk, er, ec, hin, hlt, hB, hB2⟩
  · exact same n1 n2
  · have hc := hD.2.2.2.2 i k hi hk hin hlt
    rcases hB with ⟨t1, e1, x7⟩ | ⟨t1, s1⟩
    · rcases hB2 with ⟨t2, e2, y⟩ | ⟨t2, s2⟩
      · subst x7 y
        refine ⟨fun a c ha hc' g1 g2 => ?_, lc_u (by omega) (by omega)⟩
        by_cases e : a = i ∧ c = k
        · obtain ⟨rfl, rfl⟩ := e
          rw [pk_us, pk_us]
          refine ⟨?_, fun z => absurd t1 z⟩
          rcases hon with e | e
          · subst e
            rw [if_pos rfl, bit2_an2]
            exact ⟨fun _ => rfl, fun _ => rfl⟩
          · subst e
            rw [if_neg (by decide), bit2_or2]
            exact ⟨fun z => absurd z (by decide), fun z => absurd z (by decide)⟩
        · rw [pk_un (by omega), pk_un (by omega)]
          exact hK a c ha hc' g1 g2
      · exact absurd (hc.1 ▸ t1) t2
    · rcases hB2 with ⟨t2, s2⟩ | ⟨t2, s2⟩
      · exact absurd (hc.1.symm ▸ t2) t1
      · exact same s1 s2
end SK
