theorem FEAS_c {O O2 Y : Nat → Nat → Nat} {B : Nat} (h : ∀ i j, i < 12 → j < 12 → O2 i j = O i j) (hY : FEAS O B Y) : FEAS O2 B Y := ⟨fun i j hi hj => by rw [h i j hi hj]; exact hY.1 i j hi hj, fun n hn => by rw [rS_c h n hn]; exact hY.2 n hn⟩
/-- the sides as they are told, cell by cell, are the one rounding -/
theorem SD_Z {dm : Nat → Nat → Bool} {O SD Z : Nat → Nat → Nat} {B : Nat} (hz : ∀ a b, a < 12 → b < 12 → dm a b = false → O a b = 0) (h1 : FEAS O B Z) (h2 : RLX O B Z 144) (hd : ∀ a b, a < 12 → b < 12 → dm a b = true → DC1 dm O SD B a b) : ∀ n a b, a < 12 → b < 12 → 12 * a + b < n → dm a b = true → SD a b = Z a b
  | 0, _, _, _, _, h, _ => absurd h (by omega)
  | n + 1, a, b, ha, hb, h, hdm => by
    have ih := SD_Z hz h1 h2 hd n
    have g := (h1.1 a b ha hb).1
    rcases hd a b ha hb hdm with ⟨e, f⟩ | ⟨e, f⟩
    · rw [f, (h1.1 a b ha hb).2 e]
    · have ex : Z a b = 0 ↔ EXP dm O SD B a b := by
        constructor
        · intro z
          exact ⟨Z, h1, fun p q hp hq hl hd' => (ih p q hp hq (by omega) hd').symm, z⟩
        · rintro ⟨Y, y1, y2, y3⟩
          by_cases c : Z a b = 1
          · have := h2 a b ha hb (by omega) c Y y1 (fun p q hp hq hl => by
              rcases bo (dm p q) with d | d
              · rw [y2 p q hp hq hl d]; exact ih p q hp hq (by omega) d
              · rw [(y1.1 p q hp hq).2 (hz p q hp hq d), (h1.1 p q hp hq).2 (hz p q hp hq d)])
            omega
          · omega
      rcases f with ⟨f1, f2⟩ | ⟨f1, f2⟩
      · rw [f1, ex.mpr f2]
      · have : ¬ Z a b = 0 := fun z => f2 (ex.mp z)
        omega
/-- the rounded leaf of both sides -/
def JR (m0 m1 : Int32) (ms : Nat → Int32) (f34 f35 : Int32) (r32 r33 : Nat → Int32) : Prop := m0 = f34 ∧ m1 = f35 ∧ ∀ i c, i < 12 → c < 12 → inR m0 (nI i) → inR m1 (nI c) → ms (i * 12 + c) = if r33 i = -2 then -1 else r32 (12 * i + c)
theorem JR_0 : JR 0 0 (fun _ => 0) 0 0 (fun _ => 0) (fun _ => 0) := ⟨rfl, rfl, fun _ _ _ _ _ _ => rfl⟩
theorem rt_same {m0 m1 f34 f35 row col q1 q2 : Int32} {ms r32 r33 : Nat → Int32} (hJ : JR m0 m1 ms f34 f35 r32 r33) (h1 : rtX m0 m1 ms row col q1) (h2 : rtM f34 f35 r32 r33 row col q2) : q1 = q2 := by
  obtain ⟨j0, j1, j2⟩ := hJ
  rcases h1 with ⟨i, c, hi, hc, er, ec, b1, b2, e1⟩ | ⟨n1, e1⟩
  · rcases h2 with ⟨i2, c2, hi2, hc2, er2, ec2, d1, d2, e2⟩ | ⟨n2, e2⟩
    · have q1' := (nI_eq (by omega) (by omega)).mp (er.symm.trans er2)
      have q2' := (nI_eq (by omega) (by omega)).mp (ec.symm.trans ec2)
      subst q1' q2'
      rw [e1, e2]
      exact j2 i c hi hc (er ▸ b1) (ec ▸ b2)
    · exact absurd ⟨j0 ▸ b1, j1 ▸ b2⟩ n2
  · rcases h2 with ⟨i2, c2, hi2, hc2, er2, ec2, d1, d2, e2⟩ | ⟨n2, e2⟩
    · exact absurd ⟨j0 ▸ d1, j1 ▸ d2⟩ n1
    · exact e1.trans e2.symm
theorem rd_step {o f1 f2 f3 tb ba q1 q2 n0 n1 m0 m1 f34 f35 g34 g35 : Int32} {j : Nat} {pl kd nu td ps ru bf bl a1 a2 a3 a4 a5 a6 a7 a8 a9 a10 a11 a12 a13 a14 ns ms r32 r33 s32 s33 : Nat → Int32} (hj : j < 6) (hjt : tbJ tb j) (hT : TSr o f1 f2 pl a1 a2 a3 a11 j) (hD : TDr f1 f2 f3 pl kd nu td ps ru bf bl a4 a5 a6 a7 a8 a9 a12 a13 a14 j) (hJ : JKr f1 pl kd td a10 j) (hR : JR n0 n1 ns f34 f35 r32 r33) (h1 : rdX (tbO tb j o) ba q1 f1 f2 f3 pl kd nu td ps ru bf bl n0 n1 ns m0 m1 ms) (h2 : rdM tb ba q2 a1 a2 a3 a5 a6 a11 a12 a13 a14 f34 f35 r32 r33 g34 g35 s32 s33) : q1 = q2 ∧ JR m0 m1 ms g34 g35 s32 s33 := by
  have ho := op_both hj hjt hT
  rcases h1 with ⟨n1', e1, s1, s2, s3⟩ | ⟨y1, B, hB1, hB9, eB, rw, cl, bk, dn, up, r6, r7, r8, r9, r10, r11, r12, r13, r14, hrw, hcl, hbk, er, ec, eb, ed, eu, hdn, hup, hN, hLD, ZZ, hZZ, eq1, em0, em1, hms⟩
  · rcases h2 with ⟨n2', e2, t1, t2, t3, t4⟩ | ⟨t, rw2, cl2, bk2, B2, SD, ht, et, hop, _, _, _, _, _, _, hB2, hB29, eB2, _⟩
    · subst s1 s2 s3 t1 t2 t3 t4
      exact ⟨e1.trans e2.symm, hR⟩
    · exact absurd ⟨ho.mp ⟨t, ht, et, hop⟩, by rw [eB2]; exact fun z => absurd ((nI_ltI (by omega) (by decide)).mp (show nI B2 < nI 2 from z)) (by omega), by rw [eB2]; exact (nI_leI (by omega) (by decide)).mpr (show B2 ≤ 1000 from hB29)⟩ n1'
  · rcases h2 with ⟨n2', e2, t1, t2, t3, t4⟩ | ⟨t, rw2, cl2, bk2, B2, SD, ht, et, hop, hrw2, hcl2, hbk2, er2, ec2, eb2, hB2, hB29, eB2, hgr, hSD, eq2, eg0, eg1, hto⟩
    · exact absurd ⟨ho.mpr y1, by rw [eB]; exact fun z => absurd ((nI_ltI (by omega) (by decide)).mp (show nI B < nI 2 from z)) (by omega), by rw [eB]; exact (nI_leI (by omega) (by decide)).mpr (show B ≤ 1000 from hB9)⟩ n2'
    · have e := hjt t ht et
      subst e
      have q1' := nI_u (by omega) (by omega) er (hT.2.1.trans er2)
      have q2' := nI_u (by omega) (by omega) ec (hT.2.2.1.trans ec2)
      have q3' := nI_u (by omega) (by omega) eb (hD.1.trans eb2)
      have q4' := nI_u (by omega) (by omega) eB eB2
      subst q1' q2' q3' q4'
      have hso : ∀ x, x < rw → (¬ r6 x = 0 ↔ sndN (a3 t) a11 a5 t x) := fun x hx => by
        have hs := so_iff ⟨cl, hcl, ec⟩ hT hD (show x < 12 by omega) (W_in er hrw hx)
        rw [ec, nI_clamp (by omega)] at hs
        exact (LD_so hLD hx).trans hs
      have hcs : ∀ x, x < rw → ¬ r6 x = 0 → s33 x = r7 x := fun x hx h => by
        rw [(hgr x hx).1 ((hso x hx).mp h), (hLD x hx).1, cl_eq (fun k hk => hD.2.2.1 k hk) bk hbk]
      have hno : ∀ x, x < rw → r6 x = 0 → s33 x = -2 := fun x hx h => (hgr x hx).2 (fun z => absurd h ((hso x hx).mpr z))
      have hc2 : ∀ x, x < rw → ¬ r6 x = 0 → ¬ r7 x = -2 := fun x hx h => by
        rw [← hcs x hx h, (hgr x hx).1 ((hso x hx).mp h)]; exact clM_m2 bk hbk
      have hnu : ∀ x y, x < rw → y < cl → ¬ r6 x = 0 → NTc nu x y = (a6 (144 * t + 12 * x + y)).toNatClampNeg := fun x y hx hy h => by
        obtain ⟨_, c2, _⟩ := W_c hrw hcl er ec hT hD hJ hx hy ((LD_so hLD hx).mp h)
        unfold NTc; rw [c2]
      have hdm : ∀ x, x < rw → ¬ r6 x = 0 → ∀ a b, dmG s33 rw cl (s33 x) a b = dmR r6 r7 rw cl (r7 x) a b := fun x hx h a b => by
        rcases bo (dmR r6 r7 rw cl (r7 x) a b) with d | d
        · obtain ⟨d1, d2, d3, d4⟩ := dmR_of d
          rw [d]; exact dmG_mk d1 d2 ((hcs a d1 d3).trans (d4.trans (hcs x hx h).symm))
        · rw [d]
          refine dmG_no (fun z => ?_)
          by_cases c : r6 a = 0
          · exact hc2 x hx h (by rw [← hcs x hx h, ← z.2.2]; exact hno a z.1 c)
          · rw [dmR_mk z.1 z.2.1 c ((hcs a z.1 c).symm.trans (z.2.2.trans (hcs x hx h)))] at d
            exact absurd d (by decide)
      have hzs : ∀ x y, x < rw → y < cl → ¬ r6 x = 0 → ZZ x y = SD x y := fun x y hx hy h => by
        obtain ⟨Z, z1, z2, z3⟩ := hZZ x hx h
        have hoo : ∀ a b, a < 12 → b < 12 → oG (dmG s33 rw cl (s33 x)) (fun x y => (a6 (144 * t + 12 * x + y)).toNatClampNeg) B a b = oR r6 r7 rw cl B (NTc nu) (r7 x) a b := fun a b _ _ => by
          unfold oG oR
          rw [hdm x hx h a b]
          by_cases d : dmR r6 r7 rw cl (r7 x) a b = true
          · obtain ⟨d1, d2, d3, _⟩ := dmR_of d
            rw [if_pos d, if_pos d, hnu a b d1 d2 d3]
          · rw [if_neg d, if_neg d]
        have z1' := FEAS_c hoo z1
        have z2' : RLX (oG (dmG s33 rw cl (s33 x)) (fun x y => (a6 (144 * t + 12 * x + y)).toNatClampNeg) B) B Z 144 := fun i k hi hk hm hx' Y hY hag => z2 i k hi hk hm hx' Y (FEAS_c (fun a b ha hb => (hoo a b ha hb).symm) hY) hag
        have key := SD_Z (dm := dmG s33 rw cl (s33 x)) (SD := SD) (fun a b _ _ d => if_neg (by rw [d]; decide)) z1' z2' (fun a b _ _ d => by
          obtain ⟨d1, d2, d3⟩ := dmG_of d
          have q := hSD.2.2.1 a b d1 d2 (by rw [d3, hcs x hx h]; exact hc2 x hx h) (by omega)
          rw [d3] at q; exact q) 144 x y (by omega) (by omega) (by omega) (dmG_mk hx hy rfl)
        rw [key]
        exact z3 x y (by omega) (by omega) (dmR_mk hx hy h rfl)
      refine ⟨?_, em0.trans eg0.symm, em1.trans eg1.symm, fun i c hi hc b1 b2 => ?_⟩
      · rw [eq1, eq2]
        refine congrArg nI (rk_cg (fun x y hy hl => ?_))
        unfold upM upG
        constructor
        · rintro ⟨u1, u2, u3, u4⟩
          exact ⟨u1, u2, by rw [hcs x u1 u3]; exact hc2 x u1 u3, by rw [← hzs x y u1 u2 u3]; exact u4⟩
        · rintro ⟨u1, u2, u3, u4⟩
          have h : ¬ r6 x = 0 := fun z => u3 (hno x u1 z)
          exact ⟨u1, u2, h, by rw [hzs x y u1 u2 h]; exact u4⟩
      · rw [em0] at b1
        rw [em1] at b2
        have hir := in_lt hrw hi b1
        have hcc := in_lt hcl hc b2
        rw [hms i c hcc (by omega)]
        unfold rlS
        by_cases h : r6 i = 0
        · rw [if_pos h, if_pos (hno i hir h)]
        · have h2 : ¬ s33 i = -2 := by rw [hcs i hir h]; exact hc2 i hir h
          rw [if_neg h, if_neg h2, hto i c hir hcc h2, hzs i c hir hcc h, hnu i c hir hcc h]
          have d := Nat.div_add_mod (a6 (144 * t + 12 * i + c)).toNatClampNeg B
          have d2 := Nat.mul_comm B ((a6 (144 * t + 12 * i + c)).toNatClampNeg / B)
          refine congrArg nI ?_
          generalize (a6 (144 * t + 12 * i + c)).toNatClampNeg = m at d d2 ⊢
          generalize m / B * B = p at d2 ⊢
          generalize B * (m / B) = p2 at d d2
          generalize SD i c * B = s
          omega
