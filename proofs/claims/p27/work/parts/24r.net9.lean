theorem bit2_or2 (x : Int32) : (x ||| 2) &&& 2 = 2 := b_ext (fun i hi => by
  rw [b_and, b_or]
  generalize bt 2 i = u
  generalize bt x i = v
  cases u <;> cases v <;> rfl)
theorem b22 : ∀ i, i < 32 → (bt ((2 : Int32) ^^^ (-1)) i && bt 2 i) = false := by decide +kernel
theorem bit2_an2 (x : Int32) : (x &&& ((2 : Int32) ^^^ (-1))) &&& 2 = 0 := b_ext (fun i hi => by
  rw [b_and, b_and, b_0, Bool.and_assoc, b22 i hi, Bool.and_false])
theorem ad1_i {Pl : Nat → Nat → Bool} {a b x y : Nat} (h : ad1 Pl a b x y = true) : Pl x y = true ∨ (x = a ∧ y = b) := by
  unfold ad1 at h
  rw [Bool.or_eq_true, Bool.and_eq_true] at h
  exact h.imp id (fun z => ⟨of_decide_eq_true z.1, of_decide_eq_true z.2⟩)
/-- where a plan keeps -/
theorem PLS_in {rw cl : Nat} {sn : Nat → Prop} {UN : (Nat → Nat → Bool) → Nat → Nat → Prop} {mt zz : Nat → Nat → Prop} {pr : Nat → Nat → Nat} {K0 : Nat → Nat → Bool} (hU : ∀ K x y, UN K x y → sn x) (hM : ∀ i q, mt i q → sn q) : ∀ n {Pl : Nat → Nat → Bool} {c : Nat}, PLS rw cl UN mt zz pr K0 n Pl c → ∀ x y, Pl x y = true → x < rw ∧ y < cl ∧ sn x ∧ ¬ zz x y
  | 0, Pl, c, z => fun x y h => by rw [z.1] at h; exact absurd h Bool.false_ne_true
  | n + 1, Pl, c, ⟨P1, c1, i, j, q, d, h1, h2, h3, h4, h5⟩ => fun x y h => by
    have hi := h2.1
    have hj := h2.2.1
    have hs := hU _ i j h2.2.2.1
    obtain ⟨a1, a2, a3, a4, a5, a6, a7, a8, a9⟩ := h3.1
    have sq := hM i q a5
    rw [h4] at h
    unfold ad3 at h
    rcases ad1_i h with h | ⟨rfl, rfl⟩
    · rcases ad1_i h with h | ⟨rfl, rfl⟩
      · rcases ad1_i h with h | ⟨rfl, rfl⟩
        · exact PLS_in hU hM n h1 x y h
        · exact ⟨hi, a2, hs, a6⟩
      · exact ⟨a1, hj, sq, a7⟩
    · exact ⟨a1, a2, sq, a8⟩
section ST
variable {o f1 f2 f3 tb q1 q2 st : Int32} {j : Nat} {pl kd nu td td2 ps ru bf bl a1 a2 a3 a4 a5 a6 a7 a8 a9 a10 a11 a12 a13 a14 b10 : Nat → Int32}
theorem TD_h2 (hD : TDr f1 f2 f3 pl kd nu td ps ru bf bl a4 a5 a6 a7 a8 a9 a12 a13 a14 j) (hb : ∀ x y, x < 12 → y < 12 → td2 (x * 12 + y) &&& 1 = td (x * 12 + y) &&& 1) : TDr f1 f2 f3 pl kd nu td2 ps ru bf bl a4 a5 a6 a7 a8 a9 a12 a13 a14 j := by
  refine ⟨hD.1, hD.2.1, hD.2.2.1, hD.2.2.2.1, fun i c hi hc h1 h2 => ?_⟩
  have h := hD.2.2.2.2 i c hi hc h1 h2
  exact ⟨h.1, h.2.1, by rw [hb i c hi hc]; exact h.2.2.1, h.2.2.2.1, h.2.2.2.2.1, fun z => by rw [hb i c hi hc]; exact h.2.2.2.2.2.1 z, h.2.2.2.2.2.2⟩
theorem JK_b (h : JKr f1 pl kd td a10 j) (hb : ∀ x y, x < 12 → y < 12 → b10 (144 * j + 12 * x + y) = a10 (144 * j + 12 * x + y)) : JKr f1 pl kd td b10 j := fun i c hi hc h1 h2 => by
  rw [hb i c hi hc]; exact h i c hi hc h1 h2
theorem op_both (hj : j < 6) (hjt : tbJ tb j) (hT : TSr o f1 f2 pl a1 a2 a3 a11 j) : opn a1 tb ↔ tbO tb j o := by
  constructor
  · rintro ⟨t, ht, e, h⟩
    have := hjt t ht e
    subst this
    exact ⟨e, by rw [hT.1]; exact h⟩
  · exact fun h => ⟨j, hj, h.1, by rw [← hT.1]; exact h.2⟩
theorem nI_u {a b : Nat} {x : Int32} (ha : a ≤ 1000000) (hb : b ≤ 1000000) (h1 : x = nI a) (h2 : x = nI b) : a = b := (nI_eq (by omega) (by omega)).mp (h1.symm.trans h2)
/-- plan: one answer, the keep bits in step -/
theorem PL_step (hj : j < 6) (hjt : tbJ tb j) (hT : TSr o f1 f2 pl a1 a2 a3 a11 j) (hD : TDr f1 f2 f3 pl kd nu td ps ru bf bl a4 a5 a6 a7 a8 a9 a12 a13 a14 j) (hJ : JKr f1 pl kd td a10 j) (h1 : plX (tbO tb j o) q1 f1 f2 f3 pl kd nu td ps ru bf bl td2) (h2 : plM tb q2 a1 a2 a3 a4 a5 a6 a7 a8 a9 a10 a11 a12 a13 a14 b10 st) : q1 = q2 ∧ JKr f1 pl kd td2 b10 j ∧ TDr f1 f2 f3 pl kd nu td2 ps ru bf bl a4 a5 a6 a7 a8 a9 a12 a13 a14 j ∧ ∀ p, p < 864 → (p < 144 * j ∨ 144 * j + 144 ≤ p) → b10 p = a10 p := by
  have ho := op_both hj hjt hT
  rcases h1 with ⟨n1, e1, t1⟩ | ⟨y1, rw, cl, bk, dn, up, r6, r7, r8, r9, r10, r11, r12, r13, r14, hrw, hcl, hbk, er, ec, eb, ed, eu, hdn, hup, hN, hLD, nn, Pl, cc, hp, hend⟩
  · rcases h2 with ⟨n2, e2, t2, _⟩ | ⟨t, rw2, cl2, bk2, dn2, up2, nn2, Pl2, cc2, ht, et, hop, _⟩
    · subst t1 t2
      exact ⟨e1.trans e2.symm, hJ, hD, fun p _ _ => rfl⟩
    · exact absurd (ho.mp ⟨t, ht, et, hop⟩) n1
  · rcases h2 with ⟨n2, e2, t2, _⟩ | ⟨t, rw2, cl2, bk2, dn2, up2, nn2, Pl2, cc2, ht, et, hop, hrw2, hcl2, hbk2, er2, ec2, eb2, ed2, eu2, hdn2, hup2, hp2, hend2⟩
    · exact absurd (ho.mpr y1) n2
    · have e := hjt t ht et
      subst e
      have q1' := nI_u (by omega) (by omega) er (hT.2.1.trans er2)
      have q2' := nI_u (by omega) (by omega) ec (hT.2.2.1.trans ec2)
      have q3' := nI_u (by omega) (by omega) eb (hD.1.trans eb2)
      have q4' := nI_u (by omega) (by omega) ed ((hD.2.1 3 (by omega)).trans ed2)
      have q5' := nI_u (by omega) (by omega) eu ((hD.2.1 4 (by omega)).trans eu2)
      subst q1' q2' q3' q4' q5'
      obtain ⟨hS, hK, _, _⟩ := W_all (dn := dn) (up := up) hrw hcl hbk er ec hT hD hJ hN hLD
      have hin := PLS_in hS.2.1 hS.2.2.2.1 nn hp
      obtain ⟨e1, e2⟩ := PLS_e hcl (PLS_x hS hK nn hp) (hend.imp (fun z => PDN_x hS hK z.1) (fun z => PFL_x hS hK z.1)) hp2 (hend2.imp (fun z => z.1) (fun z => z.1))
      subst e1 e2
      rcases hend with ⟨d1, v1, w1⟩ | ⟨d1, v1, w1⟩
      · rcases hend2 with ⟨d2, v2, w2, _⟩ | ⟨d2, v2, w2, _⟩
        · refine ⟨v1.trans v2.symm, fun i c hi hc hi1 hc1 => ?_, TD_h2 hD (fun x y hx hy => ?_), fun p _ hp => w2.2 p hp⟩
          · have h0 := hJ i c hi hc hi1 hc1
            rw [w1 i c hi hc, w2.1 i c hi hc]
            by_cases b : Pl i c = true
            · rw [if_pos b, if_pos b]
              obtain ⟨x1, x2, x3, x4⟩ := hin i c b
              obtain ⟨c1, _, _, _, c5, c6⟩ := W_c hrw hcl er ec hT hD hJ x1 x2 ((LD_so hLD x1).mp x3)
              refine ⟨⟨fun z => ?_, fun z => absurd z (by decide)⟩, fun z => absurd ⟨c5, c6, fun e4 => x4 ?_⟩ z⟩
              · rw [bit2_or2] at z; exact absurd z (by decide)
              · unfold zzA; rw [(LD_y hLD x1 x3 c x2).1]; exact e4
            · rw [if_neg b, if_neg b]; exact h0
          · rw [w1 x y hx hy]
            by_cases b : Pl x y = true
            · rw [if_pos b, bit1_or]
            · rw [if_neg b]
        · exact absurd d2 (PX_no (PDN_x hS hK d1))
      · rcases hend2 with ⟨d2, v2, w2, _⟩ | ⟨d2, v2, w2, _⟩
        · exact absurd (PFL_x hS hK d1) (PX_no d2)
        · subst w1
          exact ⟨v1.trans v2.symm, JK_b hJ (fun x y hx hy => w2 _ (by omega)), hD, fun p hp _ => w2 p hp⟩
/-- fewest: one answer, the keep bits in step -/
theorem FW_step (hj : j < 6) (hjt : tbJ tb j) (hT : TSr o f1 f2 pl a1 a2 a3 a11 j) (hD : TDr f1 f2 f3 pl kd nu td ps ru bf bl a4 a5 a6 a7 a8 a9 a12 a13 a14 j) (hJ : JKr f1 pl kd td a10 j) (h1 : fwX (tbO tb j o) q1 f1 f2 f3 pl kd nu td ps ru bf bl td2) (h2 : fwM tb q2 a1 a2 a3 a4 a5 a6 a7 a8 a9 a10 a11 a12 a13 a14 b10 st) : q1 = q2 ∧ JKr f1 pl kd td2 b10 j ∧ TDr f1 f2 f3 pl kd nu td2 ps ru bf bl a4 a5 a6 a7 a8 a9 a12 a13 a14 j ∧ ∀ p, p < 864 → (p < 144 * j ∨ 144 * j + 144 ≤ p) → b10 p = a10 p := by
  have ho := op_both hj hjt hT
  rcases h1 with ⟨n1, e1, t1⟩ | ⟨y1, rw, cl, bk, dn, up, r6, r7, r8, r9, r10, r11, r12, r13, r14, hrw, hcl, hbk, er, ec, eb, ed, eu, hdn, hup, hN, hLD, hend⟩
  · rcases h2 with ⟨n2, e2, t2, _⟩ | ⟨t, rw2, cl2, bk2, dn2, up2, ht, et, hop, _⟩
    · subst t1 t2
      exact ⟨e1.trans e2.symm, hJ, hD, fun p _ _ => rfl⟩
    · exact absurd (ho.mp ⟨t, ht, et, hop⟩) n1
  · rcases h2 with ⟨n2, e2, t2, _⟩ | ⟨t, rw2, cl2, bk2, dn2, up2, ht, et, hop, hrw2, hcl2, hbk2, er2, ec2, eb2, ed2, eu2, hdn2, hup2, hend2⟩
    · exact absurd (ho.mpr y1) n2
    · have e := hjt t ht et
      subst e
      have q1' := nI_u (by omega) (by omega) er (hT.2.1.trans er2)
      have q2' := nI_u (by omega) (by omega) ec (hT.2.2.1.trans ec2)
      have q3' := nI_u (by omega) (by omega) eb (hD.1.trans eb2)
      have q4' := nI_u (by omega) (by omega) ed ((hD.2.1 3 (by omega)).trans ed2)
      have q5' := nI_u (by omega) (by omega) eu ((hD.2.1 4 (by omega)).trans eu2)
      subst q1' q2' q3' q4' q5'
      obtain ⟨hS, hK, hse, hmay⟩ := W_all (dn := dn) (up := up) hrw hcl hbk er ec hT hD hJ hN hLD
      have hgd : ∀ x y, mayA r8 r10 rw cl x y → gdK (kd (x * 12 + y)) := fun x y h => by
        have hs := LD_m hLD h
        obtain ⟨c1, _, _, _, c5, c6⟩ := W_c hrw hcl er ec hT hD hJ h.1 h.2.1 ((LD_so hLD h.1).mp hs)
        exact ⟨c5, c6, fun e4 => h.2.2.2.1 (by rw [(LD_y hLD h.1 hs y h.2.1).1]; exact e4)⟩
      have hpr : ∀ x y, mayA r8 r10 rw cl x y → prA ru nu x y = prM a4 a6 t x y := fun x y h => hS.2.2.2.2.2 x y h.1 h.2.1 (LD_m hLD h)
      have hM12 : ∀ x y, mayA r8 r10 rw cl x y → y < 12 := fun x y h => by have := h.2.1; omega
      rw [← hmay] at hend2
      have hG : ∀ m, GRD rw cl (UNX kd nu rw cl dn up r6 r7 r10) (secA r10) (mayA r8 r10 rw cl) m = GRD rw cl (UGm rw cl t bk a3 a4 a5 a6 a7 a8 a9 a11 a13 a14 dn up) (seM a4 a5 a6 a7 a8 a9 t) (mayA r8 r10 rw cl) m := fun m => funext (fun s => propext (GRD_x hS hse))
      rcases hend with ⟨g1, v1, w1⟩ | ⟨m, cp, em, hm, hcp, hr⟩
      · rcases hend2 with ⟨g2, v2, w2, _⟩ | ⟨m2, cp2, em2, hm2, _⟩
        · subst w1 w2
          exact ⟨v1.trans v2.symm, hJ, hD, fun p _ _ => rfl⟩
        · omega
      · rcases hend2 with ⟨g2, v2, w2, _⟩ | ⟨m2, cp2, em2, hm2, hcp2, hr2⟩
        · omega
        · have e9 : m = m2 := em.trans em2.symm
          subst e9
          rw [← hG m] at hr2
          have hc : ∀ k, k < m → cp k = cp2 k := fun k hk => by
            rw [em] at hk
            obtain ⟨x, y, _, _, hM, e⟩ := rk_ex _ hk
            rw [← e, hcp x y hM, hcp2 x y hM, hpr x y hM]
          rcases hr with ⟨bz, l1, v1, w1⟩ | ⟨l1, v1, w1⟩
          · rcases hr2 with ⟨bz2, l2, v2, w2, w3, _⟩ | ⟨l2, v2, w2, _⟩
            · obtain rfl := LSG_u hc l1 l2
              refine ⟨?_, fun i c hi hc' hi1 hc1 => ?_, TD_h2 hD (fun x y hx hy => ?_), fun p _ hp => w3 p hp⟩
              · rw [v1, v2]; unfold prc; rw [prS_c m hc]
              · rw [w1 i c hi hc', w2 i c hi hc']
                unfold tgF
                by_cases b : mayA r8 r10 rw cl i c ∧ bt (nI bz) (m - 1 - rkG (mayA r8 r10 rw cl) (12 * i + c)) = true
                · rw [pB_t b, if_pos rfl, if_pos rfl]
                  refine ⟨⟨fun z => ?_, fun z => absurd z (by decide)⟩, fun z => absurd (hgd i c b.1) z⟩
                  rw [bit2_or2] at z; exact absurd z (by decide)
                · rw [pB_f b, if_neg (by decide), if_neg (by decide)]
                  unfold KKr
                  rw [bit2_an2]
                  exact ⟨⟨fun _ => rfl, fun _ => rfl⟩, fun _ => rfl⟩
              · rw [w1 x y hx hy]
                unfold tgF
                split
                · rw [bit1_or, bit1_an]
                · rw [bit1_an]
            · exact absurd l1.2.1 (l2 bz l1.1)
          · rcases hr2 with ⟨bz2, l2, v2, w2, w3, _⟩ | ⟨l2, v2, w2, _⟩
            · exact absurd l2.2.1 (l1 bz2 l2.1)
            · subst w1
              exact ⟨v1.trans v2.symm, JK_b hJ (fun x y hx hy => w2 _ (by omega)), hD, fun p hp _ => w2 p hp⟩
end ST
