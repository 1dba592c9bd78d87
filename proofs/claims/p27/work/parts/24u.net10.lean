section AG
variable {o f1 f2 f3 tb row col q1 q2 : Int32} {rw cl bk dn up j : Nat} {pl kd nu td ps ru bf bl a1 a2 a3 a4 a5 a6 a7 a8 a9 a10 a11 a12 a13 a14 r6 r7 r8 r9 r10 r11 r12 r13 r14 : Nat → Int32}
theorem in_lt {n i : Nat} (hn : n ≤ 12) (hi : i < 12) (h : inR (nI n) (nI i)) : i < n := Nat.not_le.mp (fun z => h.2 ((nI_leI (by omega) (by omega)).mpr z))
/-- the tables that agree are the same on both sides -/
theorem W_ag {i : Nat} (hrw : rw ≤ 12) (hcl : cl ≤ 12) (hbk : bk ≤ 12) (er : f1 = nI rw) (ec : f2 = nI cl) (hT : TSr o f1 f2 pl a1 a2 a3 a11 j) (hD : TDr f1 f2 f3 pl kd nu td ps ru bf bl a4 a5 a6 a7 a8 a9 a12 a13 a14 j) (hJ : JKr f1 pl kd td a10 j) (hN : NRC rw cl pl kd nu) (hLD : LDR rw cl bk pl kd nu td ps ru bf bl r6 r7 r8 r9 r10 r11 r12 r13 r14) (hi : i < rw) : (∀ x y, x < 12 → y < 12 → KBm rw cl j bk a3 a4 a5 a6 a7 a8 a9 a10 a11 a13 a14 (clM a13 a14 j (nI i) bk).1 x y = kpR r6 r7 r11 rw cl (r7 i) x y) ∧ (∀ x y, x < 12 → y < 12 → rsT (DBm rw cl j bk a3 a5 a11 a13 a14 (clM a13 a14 j (nI i) bk).1) (NTm a6 j) x y = rsT (dmR r6 r7 rw cl (r7 i)) (NTc nu) x y) ∧ bndE (kpR r6 r7 r11 rw cl (r7 i)) (rsT (dmR r6 r7 rw cl (r7 i)) (NTc nu)) (LTc kd nu cl) (HTc kd nu cl) (LTm a5 a6 j cl) (HTm a5 a6 j cl) := by
  have hso : ∀ x, x < rw → (¬ r6 x = 0 ↔ sndN (a3 j) a11 a5 j x) := fun x hx => W_so hrw hcl er ec hT hD hLD hx
  have hsp : ∀ x, x < rw → ¬ r6 x = 0 → sndP cl pl kd x := fun x hx hs => (LD_so hLD hx).mp hs
  have hcs : ∀ x, x < rw → r7 x = (clM a13 a14 j (nI x) bk).1 := fun x hx => by
    rw [(hLD x hx).1, cl_eq hD.2.2.1 bk hbk]
  obtain ⟨_, hK, _, _⟩ := W_all (dn := 0) (up := 0) hrw hcl hbk er ec hT hD hJ hN hLD
  have eD : ∀ x y, dmR r6 r7 rw cl (r7 i) x y = DBm rw cl j bk a3 a5 a11 a13 a14 (clM a13 a14 j (nI i) bk).1 x y := fun x y => eq_pB ⟨fun z => by
    have q := dmR_of z
    exact ⟨q.1, q.2.1, (hso x q.1).mp q.2.2.1, (hcs x q.1).symm.trans (q.2.2.2.trans (hcs i hi))⟩, fun z => dmR_mk z.1 z.2.1 ((hso x z.1).mpr z.2.2.1) ((hcs x z.1).trans (z.2.2.2.trans (hcs i hi).symm))⟩
  refine ⟨fun x y _ _ => (eq_pB ⟨fun z => ?_, fun z => ?_⟩).symm, fun x y _ _ => ?_, fun x y _ _ hk => ?_⟩
  · obtain ⟨e1, e2⟩ := kpR_of z
    have q := dmR_of e1
    have k1 := KA_t e2
    rw [hK x y q.1 q.2.1 q.2.2.1] at k1
    exact ⟨q.1, q.2.1, (hso x q.1).mp q.2.2.1, (hcs x q.1).symm.trans (q.2.2.2.trans (hcs i hi)), pB_i k1⟩
  · have hs := (hso x z.1).mpr z.2.2.1
    have k1 : KM a4 a5 a6 a7 a8 a9 a10 j x y = true := pB_t z.2.2.2.2
    rw [← hK x y z.1 z.2.1 hs] at k1
    exact kpR_mk (dmR_mk z.1 z.2.1 hs ((hcs x z.1).trans (z.2.2.2.1.trans (hcs i hi).symm))) (KA_i k1)
  · rcases bo (dmR r6 r7 rw cl (r7 i) x y) with d | d
    · have d2 := d
      rw [eD x y] at d2
      have q := dmR_of d
      rw [rsT_t d, rsT_t d2]
      unfold NTm NTc
      rw [(W_c hrw hcl er ec hT hD hJ q.1 q.2.1 (hsp x q.1 q.2.2.1)).2.1]
    · have d2 := d
      rw [eD x y] at d2
      rw [rsT_f d, rsT_f d2]
  · obtain ⟨e1, _⟩ := kpR_of hk
    have q := dmR_of e1
    have hs := hsp x q.1 q.2.2.1
    have c := fun y hy => W_c hrw hcl er ec hT hD hJ (x := x) (y := y) q.1 hy hs
    refine W_bd (S := 0) (c y q.2.1).1 (by unfold NTc NTm; rw [(c y q.2.1).2.1]) (by unfold STc STm; rw [sm_eq cl (fun y hy => (c y hy).2.1)]) (fun y2 d => ?_)
    have w := dmR_of d
    obtain ⟨m, hm, em⟩ := hN x y2 q.1 w.2.1 hs
    obtain ⟨S, s1, s2, s3⟩ := sm_c (nu := nu) (x := x) cl hcl (fun y hy => hN x y q.1 hy hs)
    have eS : STc nu cl x = S := by unfold STc; rw [s2, nI_clamp (by omega)]
    have t := s3 y2 w.2.1
    rw [eS]
    rw [NT_c em hm] at t ⊢
    omega
end AG
