theorem e9 {s1 s2 v : Int32} (a : s1 = v) (b : s2 = v) : s1 = s2 := a.trans b.symm
theorem sv_b {C A B C2 A2 B2 E : Prop} (hc : C ↔ C2) (ha : A → A2 → E) (hb : B → B2 → E) (h1 : sv C A B) (h2 : sv C2 A2 B2) : E := by
  rcases h1 with ⟨c, a⟩ | ⟨c, b⟩ <;> rcases h2 with ⟨c2, a2⟩ | ⟨c2, b2⟩
  · exact ha a a2
  · exact absurd (hc.mp c) c2
  · exact absurd (hc.mpr c2) c
  · exact hb b b2
theorem sW_both {o rw cl tb row col s1 s2 : Int32} {pl a1 a2 a3 a11 : Nat → Int32} {j : Nat} {K : Nat → Nat → Int32} {K2 : Nat → Nat → Nat → Int32} {X : Nat → Nat → Int32 → Prop} {X2 : Nat → Nat → Nat → Int32 → Prop} (hj : j < 6) (hjt : tbJ tb j) (hr : nL 12 rw) (hT : TSr o rw cl pl a1 a2 a3 a11 j) (h1 : stW (stX (tbO tb j o) rw cl pl row col) row col K X s1) (h2 : smW a1 a2 a3 a11 tb row col K2 X2 s2) (hB : ∀ i k, i < 12 → k < 12 → inR rw (nI i) → nI k < pl i → K i k = K2 j i k ∧ (X i k s1 → X2 j i k s2 → s1 = s2)) : s1 = s2 := by
  rcases h1 with ⟨z, hs⟩ | ⟨hs, i, k, hi, hk, e1, e2, x1⟩
  · rcases h2 with ⟨z2, hs2⟩ | ⟨hs2, _⟩
    · exact stX_u hs ((pl_iff hj hjt hr hT).mpr hs2)
    · exact absurd (stX_u hs ((pl_iff hj hjt hr hT).mpr hs2)) z
  · rcases h2 with ⟨z2, hs2⟩ | ⟨hs2, t, i2, k2, ht, hi2, hk2, g0, g1, g2, x2⟩
    · exact absurd (stX_u ((pl_iff hj hjt hr hT).mpr hs2) hs) z2
    · have a := (nI_eq (by omega) (by omega)).mp (e1.symm.trans g1)
      have b := (nI_eq (by omega) (by omega)).mp (e2.symm.trans g2)
      have c := hjt t ht g0
      rw [← a, ← b, c] at x2
      have hp := stX_p hs e1 hi
      obtain ⟨q1, q2⟩ := hB i k hi hk hp.1 (e2 ▸ hp.2)
      rcases x1 with ⟨n1, v1⟩ | ⟨n1, v1⟩ <;> rcases x2 with ⟨n2, v2⟩ | ⟨n2, v2⟩
      · rw [v1, v2, q1]
      · exact absurd (q1.trans n2) n1
      · exact absurd (q1.symm.trans n1) n2
      · exact q2 v1 v2
theorem tt_both {o rw cl tb s1 s2 : Int32} {pl a1 a2 a3 a11 : Nat → Int32} {j : Nat} {X : Int32 → Prop} {X2 : Nat → Int32 → Prop} (hj : j < 6) (hjt : tbJ tb j) (hT : TSr o rw cl pl a1 a2 a3 a11 j) (h1 : ttX (tbO tb j o) X s1) (h2 : ttMs a1 tb X2 s2) (hX : X s1 → X2 j s2 → s1 = s2) : s1 = s2 := by
  have ho := op_both hj hjt hT
  rcases h1 with ⟨e1, n1⟩ | ⟨y1, x1⟩
  · rcases h2 with ⟨e2, n2⟩ | ⟨t, ht, et, hop, x2⟩
    · exact e9 e1 e2
    · exact absurd (ho.mp ⟨t, ht, et, hop⟩) n1
  · rcases h2 with ⟨e2, n2⟩ | ⟨t, ht, et, hop, x2⟩
    · exact absurd (ho.mpr y1) n2
    · rw [hjt t ht et] at x2
      exact hX x1 x2
theorem sr_both {o rw cl tb row s1 s2 : Int32} {pl a1 a2 a3 a11 : Nat → Int32} {j : Nat} {X : Nat → Int32 → Prop} {X2 : Nat → Nat → Int32 → Prop} (hj : j < 6) (hjt : tbJ tb j) (hT : TSr o rw cl pl a1 a2 a3 a11 j) (h1 : srX (tbO tb j o) rw row X s1) (h2 : srM a1 a2 tb row X2 s2) (hX : ∀ i, i < 12 → inR rw (nI i) → X i s1 → X2 j i s2 → s1 = s2) : s1 = s2 := by
  have ho := op_both hj hjt hT
  rcases h1 with ⟨e1, n1⟩ | ⟨y1, x1⟩
  · rcases h2 with ⟨e2, n2⟩ | ⟨t, ht, et, hop, x2⟩
    · exact e9 e1 e2
    · exact absurd (ho.mp ⟨t, ht, et, hop⟩) n1
  · rcases h2 with ⟨e2, n2⟩ | ⟨t, ht, et, hop, x2⟩
    · exact absurd (ho.mpr y1) n2
    · rw [hjt t ht et, ← hT.2.1] at x2
      rcases x1 with ⟨e1, n1⟩ | ⟨i, hi, er, hin, x1⟩ <;> rcases x2 with ⟨e2, n2⟩ | ⟨i2, hi2, er2, hin2, x2⟩
      · exact e9 e1 e2
      · exact absurd hin2 n1
      · exact absurd hin n2
      · have a := (nI_eq (by omega) (by omega)).mp (er.symm.trans er2)
        subst a
        exact hX i hi (er ▸ hin) x1 x2
theorem kfS_c {x y : Int32} {P Q : Prop} (e : x = y) (h : P ↔ Q) : kfS x P = kfS y Q := by rw [e, propext h]
section ZS
variable {o f1 f2 f3 tb row col fi li s1 s2 q1 q2 : Int32} {j : Nat} {pl kd nu td ps ru bf bl a1 a2 a3 a4 a5 a6 a7 a8 a9 a10 a11 a12 a13 a14 : Nat → Int32}
theorem zs_part {kx : Int32} {i k : Nat} (hcs : CSr (kd (i * 12 + k)) (nu (i * 12 + k)) (td (i * 12 + k)) (a5 (144 * j + 12 * i + k)) (a6 (144 * j + 12 * i + k)) (a7 (144 * j + 12 * i + k)) (a9 (144 * j + 12 * i + k)) (fun z => ps ((i * 12 + k) * 6 + z)) (fun z => a8 (6 * (144 * j + 12 * i + k) + z))) : inR (nI (gvN ps (i * 12 + k) 6)) kx ↔ inR (a7 (144 * j + 12 * i + k)) kx := by
  rw [(gv_m hcs.2.2.2.1).1]
theorem zs_giv {i k : Nat} (hcs : CSr (kd (i * 12 + k)) (nu (i * 12 + k)) (td (i * 12 + k)) (a5 (144 * j + 12 * i + k)) (a6 (144 * j + 12 * i + k)) (a7 (144 * j + 12 * i + k)) (a9 (144 * j + 12 * i + k)) (fun z => ps ((i * 12 + k) * 6 + z)) (fun z => a8 (6 * (144 * j + 12 * i + k) + z))) : gvN ps (i * 12 + k) 6 < 6 ↔ ¬ a7 (144 * j + 12 * i + k) = 6 := by
  have hle := gvN_le ps (i * 12 + k) 6
  rw [(gv_m hcs.2.2.2.1).1]
  constructor
  · intro h e
    have := (nI_eq (by omega) (by omega)).mp (show nI (gvN ps (i * 12 + k) 6) = nI 6 from e)
    omega
  · intro h
    exact Nat.lt_of_le_of_ne hle (fun e => h (by rw [e]; rfl))
theorem zs_rng (hT : TSr o f1 f2 pl a1 a2 a3 a11 j) : (¬ fi < 0 ∧ ¬ f1 ≤ li ∧ ¬ li < fi) ↔ (inR (a2 j) fi ∧ inR (a2 j) li ∧ ¬ li < fi) := by
  rw [← hT.2.1]
  constructor
  · rintro ⟨x1, x2, x3⟩
    have g := Int32.not_lt.mp x3
    exact ⟨⟨x1, fun z => x2 (Int32.le_trans z g)⟩, ⟨fun z => x1 (Int32.lt_of_le_of_lt g z), x2⟩, x3⟩
  · rintro ⟨x1, x2, x3⟩
    exact ⟨x1.1, x2.2, x3⟩
theorem zs_blk (hD : TDr f1 f2 f3 pl kd nu td ps ru bf bl a4 a5 a6 a7 a8 a9 a12 a13 a14 j) : (∃ n, n < 12 ∧ f3 = nI n ∧ okP bf bl fi li n) ↔ (∃ n, n < 12 ∧ a12 j = nI n ∧ okM a13 a14 fi li j n) := by
  have hb : ∀ n, n < 12 → (okP bf bl fi li n ↔ okM a13 a14 fi li j n) := fun n hn => by
    constructor
    · intro h k hk
      rw [← (hD.2.2.1 k (by omega)).1, ← (hD.2.2.1 k (by omega)).2]
      exact ok_BN.mp (h k hk)
    · intro h k hk
      have := h k hk
      rw [← (hD.2.2.1 k (by omega)).1, ← (hD.2.2.1 k (by omega)).2] at this
      exact ok_BN.mpr this
  exact ⟨fun ⟨n, h1, h2, h3⟩ => ⟨n, h1, hD.1.symm.trans h2, (hb n h1).mp h3⟩, fun ⟨n, h1, h2, h3⟩ => ⟨n, h1, hD.1.trans h2, (hb n h1).mpr h3⟩⟩
theorem zs_op {ra ca : Int32} (hj : j < 6) (hjt : tbJ tb j) (hT : TSr o f1 f2 pl a1 a2 a3 a11 j) (h1 : sv (tb = nI j ∧ o = 0) (sv (¬ ra < 1 ∧ ¬ 12 < ra ∧ ¬ ca < 1 ∧ ¬ 12 < ca) (s1 = 0) (s1 = 2)) (s1 = 1)) (h2 : sv (∃ j, j < 6 ∧ tb = nI j ∧ a1 j = 0) (sv (¬ ra < 1 ∧ ¬ 12 < ra ∧ ¬ ca < 1 ∧ ¬ 12 < ca) (s2 = 0) (s2 = 2)) (s2 = 1)) : s1 = s2 :=
  sv_b ⟨fun z => ⟨j, hj, z.1, hT.1.symm.trans z.2⟩, fun ⟨i, hi, e, h⟩ => by have e2 := hjt i hi e; subst e2; exact ⟨e, hT.1.trans h⟩⟩ (sv_b Iff.rfl e9 e9) e9 h1 h2
theorem zs_un {st : Int32} (hj : j < 6) (hjt : tbJ tb j) (hT : TSr o f1 f2 pl a1 a2 a3 a11 j) (h1 : ttX (tbO tb j o) (fun s => s = 0) s1) (h2 : usM tb q2 a1 a2 a3 a4 a5 a6 a7 a8 a9 a10 a11 a12 a13 a14 st) : s1 = st := by
  have ho := op_both hj hjt hT
  rcases h1 with ⟨e1, n1⟩ | ⟨y1, x1⟩
  · rcases h2 with ⟨_, _, e2⟩ | ⟨t, _, _, _, _, _, ht, et, hop, _⟩
    · exact e9 e1 e2
    · exact absurd (ho.mp ⟨t, ht, et, hop⟩) n1
  · rcases h2 with ⟨n2, _⟩ | ⟨t, rw2, cl2, bk2, dn2, up2, ht, et, hop, _, _, _, _, _, _, _, _, _, _, _, e2⟩
    · exact absurd (ho.mpr y1) n2
    · exact e9 x1 e2
theorem zs_pl {st : Int32} {b10 : Nat → Int32} (hj : j < 6) (hjt : tbJ tb j) (hT : TSr o f1 f2 pl a1 a2 a3 a11 j) (hD : TDr f1 f2 f3 pl kd nu td ps ru bf bl a4 a5 a6 a7 a8 a9 a12 a13 a14 j) (hJ : JKr f1 pl kd td a10 j) (h1 : plZ (tbO tb j o) s1 f1 f2 f3 pl kd nu td ps ru bf bl) (h2 : plM tb q2 a1 a2 a3 a4 a5 a6 a7 a8 a9 a10 a11 a12 a13 a14 b10 st) : s1 = st := by
  have ho := op_both hj hjt hT
  rcases h1 with ⟨e1, n1⟩ | ⟨y1, rw, cl, bk, dn, up, r6, r7, r8, r9, r10, r11, r12, r13, r14, hrw, hcl, hbk, er, ec, eb, ed, eu, hdn, hup, hN, hLD, nn, Pl, cc, hp, hend⟩
  · rcases h2 with ⟨n2, _, _, e2⟩ | ⟨t, rw2, cl2, bk2, dn2, up2, nn2, Pl2, cc2, ht, et, hop, _⟩
    · exact e9 e1 e2
    · exact absurd (ho.mp ⟨t, ht, et, hop⟩) n1
  · rcases h2 with ⟨n2, _⟩ | ⟨t, rw2, cl2, bk2, dn2, up2, nn2, Pl2, cc2, ht, et, hop, hrw2, hcl2, hbk2, er2, ec2, eb2, ed2, eu2, hdn2, hup2, hp2, hend2⟩
    · exact absurd (ho.mpr y1) n2
    · have e := hjt t ht et
      subst e
      have q1' := nI_u (by omega) (by omega) er (hT.2.1.trans er2)
      have q2' := nI_u (by omega) (by omega) ec (hT.2.2.1.trans ec2)
      have q3' := nI_u (by omega) (by omega) eb (hD.1.trans eb2)
      have q4' := nI_u (by omega) (by omega) ed ((hD.2.1 3 (by omega)).trans ed2)
      have q5' := nI_u (by omega) (by omega) eu ((hD.2.1 4 (by omega)).trans eu2)
      subst q1' q2' q3' q4' q5'
      obtain ⟨hS, hK, _, _⟩ := W_all (dn := dn) (up := up) hrw hcl hbk er ec hT hD hJ hN hLD
      obtain ⟨x1, x2⟩ := PLS_e hcl (PLS_x hS hK nn hp) (hend.imp (fun z => PDN_x hS hK z.1) (fun z => PFL_x hS hK z.1)) hp2 (hend2.imp (fun z => z.1) (fun z => z.1))
      subst x1 x2
      rcases hend with ⟨d1, v1⟩ | ⟨d1, v1⟩
      · rcases hend2 with ⟨_, _, _, e2⟩ | ⟨d2, _⟩
        · exact e9 v1 e2
        · exact absurd d2 (PX_no (PDN_x hS hK d1))
      · rcases hend2 with ⟨d2, _⟩ | ⟨_, _, _, e2⟩
        · exact absurd (PFL_x hS hK d1) (PX_no d2)
        · exact e9 v1 e2
theorem zs_fw {st : Int32} {b10 : Nat → Int32} (hj : j < 6) (hjt : tbJ tb j) (hT : TSr o f1 f2 pl a1 a2 a3 a11 j) (hD : TDr f1 f2 f3 pl kd nu td ps ru bf bl a4 a5 a6 a7 a8 a9 a12 a13 a14 j) (hJ : JKr f1 pl kd td a10 j) (h1 : fwZ (tbO tb j o) s1 f1 f2 f3 pl kd nu td ps ru bf bl) (h2 : fwM tb q2 a1 a2 a3 a4 a5 a6 a7 a8 a9 a10 a11 a12 a13 a14 b10 st) : s1 = st := by
  have ho := op_both hj hjt hT
  rcases h1 with ⟨e1, n1⟩ | ⟨y1, rw, cl, bk, dn, up, r6, r7, r8, r9, r10, r11, r12, r13, r14, hrw, hcl, hbk, er, ec, eb, ed, eu, hdn, hup, hN, hLD, hend⟩
  · rcases h2 with ⟨n2, _, _, e2⟩ | ⟨t, rw2, cl2, bk2, dn2, up2, ht, et, hop, _⟩
    · exact e9 e1 e2
    · exact absurd (ho.mp ⟨t, ht, et, hop⟩) n1
  · rcases h2 with ⟨n2, _⟩ | ⟨t, rw2, cl2, bk2, dn2, up2, ht, et, hop, hrw2, hcl2, hbk2, er2, ec2, eb2, ed2, eu2, hdn2, hup2, hend2⟩
    · exact absurd (ho.mpr y1) n2
    · have e := hjt t ht et
      subst e
      have q1' := nI_u (by omega) (by omega) er (hT.2.1.trans er2)
      have q2' := nI_u (by omega) (by omega) ec (hT.2.2.1.trans ec2)
      have q3' := nI_u (by omega) (by omega) eb (hD.1.trans eb2)
      have q4' := nI_u (by omega) (by omega) ed ((hD.2.1 3 (by omega)).trans ed2)
      have q5' := nI_u (by omega) (by omega) eu ((hD.2.1 4 (by omega)).trans eu2)
      subst q1' q2' q3' q4' q5'
      obtain ⟨hS, hK, hse, hmay⟩ := W_all (dn := dn) (up := up) hrw hcl hbk er ec hT hD hJ hN hLD
      rw [← hmay] at hend2
      have hG : ∀ m, GRD rw cl (UNX kd nu rw cl dn up r6 r7 r10) (secA r10) (mayA r8 r10 rw cl) m = GRD rw cl (UGm rw cl t bk a3 a4 a5 a6 a7 a8 a9 a11 a13 a14 dn up) (seM a4 a5 a6 a7 a8 a9 t) (mayA r8 r10 rw cl) m := fun m => funext (fun s => propext (GRD_x hS hse))
      rcases hend with ⟨g1, v1⟩ | ⟨g1, hz⟩
      · rcases hend2 with ⟨_, _, _, e2⟩ | ⟨m2, cp2, em2, hm2, _⟩
        · exact e9 v1 e2
        · omega
      · rcases hend2 with ⟨g2, _⟩ | ⟨m2, cp2, em2, hm2, hcp2, hr2⟩
        · omega
        · subst em2
          rw [← hG] at hr2
          rcases hz with ⟨v1, z, hz1, hz2⟩ | ⟨v1, hn⟩
          · rcases hr2 with ⟨bz2, l2, _, _, _, e2⟩ | ⟨l2, _, _, e2⟩
            · exact e9 v1 e2
            · exact absurd hz2 (l2 z hz1)
          · rcases hr2 with ⟨bz2, l2, _, _, _, e2⟩ | ⟨l2, _, _, e2⟩
            · exact absurd l2.2.1 (hn bz2 l2.1)
            · exact e9 v1 e2
theorem zs_gv {x9 g42 : Int32} {gk : Nat} (hgk : gk ≤ 16) (h9 : x9 = nI gk) (e : x9 = g42) : gk < 16 ↔ ¬ g42 = 16 := by
  rw [← e, h9]
  exact ⟨fun z e => absurd ((nI_eq (by omega) (by omega)).mp (show nI gk = nI 16 from e)) (by omega), fun z => Nat.lt_of_le_of_ne hgk (fun e => z (by rw [e]; rfl))⟩
end ZS
