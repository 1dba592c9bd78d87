section AG
variable {o f1 f2 f3 tb row col q1 q2 : Int32} {rw cl bk dn up j : Nat} {pl kd nu td ps ru bf bl a1 a2 a3 a4 a5 a6 a7 a8 a9 a10 a11 a12 a13 a14 r6 r7 r8 r9 r10 r11 r12 r13 r14 : Nat → Int32}
theorem us_same {st : Int32} (hj : j < 6) (hjt : tbJ tb j) (hT : TSr o f1 f2 pl a1 a2 a3 a11 j) (hD : TDr f1 f2 f3 pl kd nu td ps ru bf bl a4 a5 a6 a7 a8 a9 a12 a13 a14 j) (hJ : JKr f1 pl kd td a10 j) (h1 : usX (tbO tb j o) q1 f1 f2 f3 pl kd nu td ps ru bf bl) (h2 : usM tb q2 a1 a2 a3 a4 a5 a6 a7 a8 a9 a10 a11 a12 a13 a14 st) : q1 = q2 := by
  have ho := op_both hj hjt hT
  rcases h1 with ⟨n1, e1⟩ | ⟨y1, rw, cl, bk, dn, up, r6, r7, r8, r9, r10, r11, r12, r13, r14, hrw, hcl, hbk, er, ec, eb, ed, eu, hdn, hup, hN, hLD, v1⟩
  · rcases h2 with ⟨n2, e2, _⟩ | ⟨t, rw2, cl2, bk2, dn2, up2, ht, et, hop, _⟩
    · exact e1.trans e2.symm
    · exact absurd (ho.mp ⟨t, ht, et, hop⟩) n1
  · rcases h2 with ⟨n2, e2, _⟩ | ⟨t, rw2, cl2, bk2, dn2, up2, ht, et, hop, hrw2, hcl2, hbk2, er2, ec2, eb2, ed2, eu2, hdn2, hup2, v2, _⟩
    · exact absurd (ho.mpr y1) n2
    · have e := hjt t ht et
      subst e
      have q1' := nI_u (by omega) (by omega) er (hT.2.1.trans er2)
      have q2' := nI_u (by omega) (by omega) ec (hT.2.2.1.trans ec2)
      have q3' := nI_u (by omega) (by omega) eb (hD.1.trans eb2)
      have q4' := nI_u (by omega) (by omega) ed ((hD.2.1 3 (by omega)).trans ed2)
      have q5' := nI_u (by omega) (by omega) eu ((hD.2.1 4 (by omega)).trans eu2)
      subst q1' q2' q3' q4' q5'
      obtain ⟨hS, hK, _, _⟩ := W_all (dn := dn) (up := up) hrw hcl hbk er ec hT hD hJ hN hLD
      have e : UNX kd nu rw cl dn up r6 r7 r10 (KA r11) = (fun x y => x < rw ∧ y < cl ∧ UNm rw cl t bk a3 a4 a5 a6 a7 a8 a9 a10 a11 a13 a14 dn up x y) := funext (fun x => funext (fun y => propext ⟨fun z => ⟨z.1, z.2.1, (UN_m z.1 z.2.1 (fun _ _ _ _ => rfl)).mpr ((hS.1 _ _ hK x y z.1 z.2.1).mp z)⟩, fun z => (hS.1 _ _ hK x y z.1 z.2.1).mpr ((UN_m z.1 z.2.1 (fun _ _ _ _ => rfl)).mp z.2.2)⟩))
      rw [v1, v2, e]
end AG
