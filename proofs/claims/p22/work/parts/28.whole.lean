theorem mc_L_7 : Cond.classLink RL 7 RX6 ∈ TB := TB_t1 12 rfl rfl
theorem dfX6 : ∀ j, j < 10 → defaultValue (tyX6 j) = vp_V [.int 0, .null, .null, .null, .null, .null, .null, .int 0, .null, .int 0] j := by
  intro j hj
  rcases (show j = 0 ∨ j = 1 ∨ j = 2 ∨ j = 3 ∨ j = 4 ∨ j = 5 ∨ j = 6 ∨ j = 7 ∨ j = 8 ∨ j = 9 by omega) with rfl | rfl | rfl | rfl | rfl | rfl | rfl | rfl | rfl | rfl <;> rfl
theorem ml_L_9 : Cond.methodLink RL 9 yX6_init ∈ TB := TB_t1 14 rfl rfl
theorem mcode_yX6_init : Cond.code yX6_init cX6_init 2 none ∈ TB := TB_t1 16 rfl rfl
theorem mi_yX6_init : MI yX6_init cX6_init 2 none 0 := ⟨mz_RX6, mcode_yX6_init, by decide +kernel, by decide +kernel, by decide +kernel⟩
theorem mim_yX6_init : Cond.instanceMethod yX6_init ∈ TB := TB_t1 15 rfl rfl
theorem mc_L_10 : Cond.classLink RL 10 RX7 ∈ TB := TB_t4 94 rfl rfl
theorem dfX7 : ∀ j, j < 43 → defaultValue (tyX7 j) = vp_V [.int 0, .null, .null, .null, .null, .null, .null, .null, .null, .null, .null, .null, .null, .null, .null, .null, .null, .null, .null, .null, .int 0, .int 0, .null, .null, .null, .null, .null, .int 0, .int 0, .null, .null, .null, .null, .null, .int 0, .int 0, .null, .null, .null, .null, .null, .null, .int 0] j := by
  intro j hj
  rcases (show j = 0 ∨ j = 1 ∨ j = 2 ∨ j = 3 ∨ j = 4 ∨ j = 5 ∨ j = 6 ∨ j = 7 ∨ j = 8 ∨ j = 9 ∨ j = 10 ∨ j = 11 ∨ j = 12 ∨ j = 13 ∨ j = 14 ∨ j = 15 ∨ j = 16 ∨ j = 17 ∨ j = 18 ∨ j = 19 ∨ j = 20 ∨ j = 21 ∨ j = 22 ∨ j = 23 ∨ j = 24 ∨ j = 25 ∨ j = 26 ∨ j = 27 ∨ j = 28 ∨ j = 29 ∨ j = 30 ∨ j = 31 ∨ j = 32 ∨ j = 33 ∨ j = 34 ∨ j = 35 ∨ j = 36 ∨ j = 37 ∨ j = 38 ∨ j = 39 ∨ j = 40 ∨ j = 41 ∨ j = 42 by omega) with rfl | rfl | rfl | rfl | rfl | rfl | rfl | rfl | rfl | rfl | rfl | rfl | rfl | rfl | rfl | rfl | rfl | rfl | rfl | rfl | rfl | rfl | rfl | rfl | rfl | rfl | rfl | rfl | rfl | rfl | rfl | rfl | rfl | rfl | rfl | rfl | rfl | rfl | rfl | rfl | rfl | rfl | rfl <;> rfl
theorem ml_L_12 : Cond.methodLink RL 12 yX7_init ∈ TB := TB_t4 96 rfl rfl
theorem mcode_yX7_init : Cond.code yX7_init cX7_init 1 none ∈ TB := TB_t4 98 rfl rfl
theorem mi_yX7_init : MI yX7_init cX7_init 1 none 0 := ⟨mz_RX7, mcode_yX7_init, by decide +kernel, by decide +kernel, by decide +kernel⟩
theorem mim_yX7_init : Cond.instanceMethod yX7_init ∈ TB := TB_t4 97 rfl rfl
theorem dL_law_1654 : decode cL_law 1654 = .ok (.iinc 3 6, 3) := dw_132 (kcL_law_25 54 132 rfl) (kcL_law_25 55 3 rfl) (kcL_law_25 56 6 rfl) rfl
theorem dL_law_1657 : decode cL_law 1657 = .ok (.goto (-1639), 3) := dw_167 (kcL_law_25 57 167 rfl) (kcL_law_25 58 249 rfl) (kcL_law_25 59 153 rfl) rfl
theorem kcL_law_0 : CHb cL_law 0 [187, 0, 7, 89, 183, 0, 9, 76, 187, 0, 10, 89, 183, 0, 12, 77, 3, 62, 29, 42, 190, 16, 6, 100, 163, 6, 100, 42, 29, 46, 16, 63, 126, 170, 0, 0, 0, 0, 6, 85, 0, 0, 0, 0, 0, 0, 0, 35, 0, 0, 0, 159, 0, 0, 0, 172, 0, 0, 0, 215, 0, 0, 0, 238] := CHb_of (by decide +kernel)
theorem dL_law_18 : decode cL_law 18 = .ok (.iload_n 3, 1) := dw_29 (kcL_law_0 18 29 rfl)
theorem dL_law_19 : decode cL_law 19 = .ok (.aload_n 0, 1) := dw_42 (kcL_law_0 19 42 rfl)
theorem dL_law_20 : decode cL_law 20 = .ok (.arraylength, 1) := dw_190 (kcL_law_0 20 190 rfl)
theorem dL_law_21 : decode cL_law 21 = .ok (.bipush 6, 2) := dw_16 (kcL_law_0 21 16 rfl) (kcL_law_0 22 6 rfl) rfl
theorem dL_law_23 : decode cL_law 23 = .ok (.isub, 1) := dw_100 (kcL_law_0 23 100 rfl)
theorem dL_law_24 : decode cL_law 24 = .ok (.if_icmp .gt 1636, 3) := dw_163 (kcL_law_0 24 163 rfl) (kcL_law_0 25 6 rfl) (kcL_law_0 26 100 rfl) rfl
theorem dL_law_1660 : decode cL_law 1660 = .ok (.iconst 1, 1) := dw_4 (kcL_law_25 60 4 rfl)
theorem dL_law_1661 : decode cL_law 1661 = .ok (.ireturn, 1) := dw_172 (kcL_law_25 61 172 rfl)
theorem dL_law_27 : decode cL_law 27 = .ok (.aload_n 0, 1) := dw_42 (kcL_law_0 27 42 rfl)
theorem dL_law_28 : decode cL_law 28 = .ok (.iload_n 3, 1) := dw_29 (kcL_law_0 28 29 rfl)
theorem dL_law_29 : decode cL_law 29 = .ok (.iaload, 1) := dw_46 (kcL_law_0 29 46 rfl)
theorem dL_law_30 : decode cL_law 30 = .ok (.bipush 63, 2) := dw_16 (kcL_law_0 30 16 rfl) (kcL_law_0 31 63 rfl) rfl
theorem dL_law_32 : decode cL_law 32 = .ok (.iand, 1) := dw_126 (kcL_law_0 32 126 rfl)
theorem dL_law_33 : decode cL_law 33 = .ok (.tableswitch 1621 0 35 #[159, 172, 215, 238, 281, 344, 397, 440, 483, 526, 569, 612, 655, 708, 777, 846, 879, 912, 955, 998, 1041, 1084, 1127, 1170, 1213, 1236, 1305, 1338, 1387, 1410, 1433, 1456, 1489, 1522, 1545, 1588], 159) := by decide +kernel
theorem dL_law_0 : decode cL_law 0 = .ok (.new 7, 3) := dw_187 (kcL_law_0 0 187 rfl) (kcL_law_0 1 0 rfl) (kcL_law_0 2 7 rfl) rfl
theorem dL_law_3 : decode cL_law 3 = .ok (.dup, 1) := dw_89 (kcL_law_0 3 89 rfl)
theorem dL_law_4 : decode cL_law 4 = .ok (.invokespecial 9, 3) := dw_183 (kcL_law_0 4 183 rfl) (kcL_law_0 5 0 rfl) (kcL_law_0 6 9 rfl) rfl
theorem dL_law_7 : decode cL_law 7 = .ok (.astore_n 1, 1) := dw_76 (kcL_law_0 7 76 rfl)
theorem dL_law_8 : decode cL_law 8 = .ok (.new 10, 3) := dw_187 (kcL_law_0 8 187 rfl) (kcL_law_0 9 0 rfl) (kcL_law_0 10 10 rfl) rfl
theorem dL_law_11 : decode cL_law 11 = .ok (.dup, 1) := dw_89 (kcL_law_0 11 89 rfl)
theorem dL_law_12 : decode cL_law 12 = .ok (.invokespecial 12, 3) := dw_183 (kcL_law_0 12 183 rfl) (kcL_law_0 13 0 rfl) (kcL_law_0 14 12 rfl) rfl
theorem dL_law_15 : decode cL_law 15 = .ok (.astore_n 2, 1) := dw_77 (kcL_law_0 15 77 rfl)
theorem dL_law_16 : decode cL_law 16 = .ok (.iconst 0, 1) := dw_3 (kcL_law_0 16 3 rfl)
theorem dL_law_17 : decode cL_law 17 = .ok (.istore_n 3, 1) := dw_62 (kcL_law_0 17 62 rfl)
theorem D_subf {A : Nat → Prop} {ws ws' : va_W} (hD : va_D A ws) (is : List Nat) (hn : va_nd is = true) (hs : is.map (fun i => (ws[i]?).map Prod.fst) = ws'.map (fun q => some q.1)) : va_D A ws' := by
  have key : ∀ (i : Nat) (p : Nat × va_E), ws'[i]? = some p → ∃ (u : Nat) (p0 : Nat × va_E), is[i]? = some u ∧ ws[u]? = some p0 ∧ p0.1 = p.1 := by
    intro i p hp
    have h1 : (is.map (fun i => (ws[i]?).map Prod.fst))[i]? = some (some p.1) := by rw [hs, List.getElem?_map, hp]; rfl
    rw [List.getElem?_map] at h1
    cases hu : is[i]? with
    | none => rw [hu] at h1; cases h1
    | some u =>
      rw [hu] at h1
      have h2 : (ws[u]?).map Prod.fst = some p.1 := Option.some.inj h1
      cases hw : ws[u]? with
      | none => rw [hw] at h2; cases h2
      | some p0 => rw [hw] at h2; exact ⟨u, p0, rfl, hw, Option.some.inj h2⟩
  refine ⟨fun i j p q hi hj he => ?_, fun k q hk => ?_⟩
  · obtain ⟨u, p0, a1, a2, a3⟩ := key i p hi
    obtain ⟨v, q0, b1, b2, b3⟩ := key j q hj
    have := hD.1 u v p0 q0 a2 b2 (by rw [a3, b3, he])
    subst this
    exact va_nd_inj is hn i j u a1 b1
  · obtain ⟨u, p0, a1, a2, a3⟩ := key k q hk
    rw [← a3]; exact hD.2 u p0 a2
theorem RB_z {adj : Nat → Nat → Prop} : RB adj (fun _ => 0) := by
  intro u v hu hv h
  rw [b_0] at h
  cases h
theorem XI_0 : XI (fun _ => 0) (fun k => match k with | 4 => -2 | _ => 0) (fun _ => 0) (fun k => match k with | 4 => 0 | _ => -1) (fun _ => 0) (fun _ => 0) (fun _ => 0) (fun _ _ => 0) (fun _ _ => 0) (fun _ _ => 0) (fun _ _ => 0) (fun _ _ => 0) (fun _ _ => 0) (fun _ _ => 0) (fun _ _ _ => 0) (fun _ _ => 0) (fun _ _ _ => 0) := ⟨fun j hj => ⟨⟨0, by omega, rfl⟩, ⟨0, by omega, rfl⟩, ⟨0, by omega, rfl⟩, fun t ht => ⟨0, by omega, rfl⟩⟩, RB_z, ⟨⟨0, by omega, rfl⟩, ⟨0, by omega, rfl⟩⟩, ⟨⟨0, by omega, rfl⟩, ⟨0, by omega, rfl⟩⟩, fun k hk => ⟨⟨0, by omega, rfl⟩, ⟨0, by omega, rfl⟩⟩, ⟨0, by omega, rfl⟩⟩
set_option maxHeartbeats 4000000 in
set_option maxRecDepth 100000 in
theorem start_x {G : GG} {A : Nat → Prop} {H : Heap} {x : Nat} {ad gd : Nat → Nat → Nat} {z0 z1 z2 z3 z4 z5 z6 z7 z8 z9 z10 z11 z12 z13 z14 z15 z16 z17 z18 z19 z20 z21 z22 z23 z24 z25 z26 z27 z28 z29 z30 z31 z32 z33 z34 z35 z36 : Nat} (hP : PP G (((x, .inr (6, [.int 0, .ref z0, .ref z1, .ref z15, .ref z20, .ref z32, .ref z34, .int 0, .ref z36, .int 0])) :: (z0, .inl (G.2.2.2.1, 6, .inr (.inr (.inr (.inr (rfn ad 6)))))) :: (z1, .inr (2, [.int 0, .int 0, .int 0, .int 0, .int (-2), .ref z2, .ref z6, .ref z7, .ref z8, .ref z9, .ref z10, .ref z11, .ref z12, .ref z13, .ref z14])) :: (z2, .inr (5, [.ref z3, .ref z4, .ref z5, .int 0])) :: (z3, .inl (G.2.1, 25, .inl (fun _ => 0))) :: (z4, .inl (G.2.1, 25, .inl (fun _ => 0))) :: (z5, .inl (G.2.1, 25, .inl (fun _ => 0))) :: (z6, .inl (G.2.2.1, 12, .inl (fun _ => 0))) :: (z7, .inl (G.2.1, 12, .inl (fun _ => 0))) :: (z8, .inl (G.2.1, 144, .inl (fun _ => 0))) :: (z9, .inl (G.2.1, 144, .inl (fun _ => 0))) :: (z10, .inl (G.2.1, 144, .inl (fun _ => 0))) :: (z11, .inl (G.2.2.1, 144, .inl (fun _ => 0))) :: (z12, .inl (G.2.1, 144, .inl (fun _ => 0))) :: (z13, .inl (G.2.1, 144, .inl (fun _ => 0))) :: (z14, .inl (G.2.1, 144, .inl (fun _ => 0))) :: (z15, .inr (0, [.ref z16, .ref z17, .ref z18, .ref z19, .int 0, .int (-1), .int (-1), .int (-1), .int (-1)])) :: (z16, .inl (G.2.2.1, 144, .inl (fun _ => 0))) :: (z17, .inl (G.2.1, 8, .inl (fun _ => 0))) :: (z18, .inl (G.2.1, 8, .inl (fun _ => 0))) :: (z19, .inl (G.2.1, 256, .inl (fun _ => 0))) :: (z20, .inr (3, [.ref z21, .ref z25, .ref z26, .ref z27, .ref z28, .ref z29, .ref z30, .ref z31])) :: (z21, .inr (5, [.ref z22, .ref z23, .ref z24, .int 0])) :: (z22, .inl (G.2.1, 25, .inl (fun _ => 0))) :: (z23, .inl (G.2.1, 25, .inl (fun _ => 0))) :: (z24, .inl (G.2.1, 25, .inl (fun _ => 0))) :: (z25, .inl (G.2.1, 144, .inl (fun _ => 0))) :: (z26, .inl (G.2.2.1, 144, .inl (fun _ => 0))) :: (z27, .inl (G.2.1, 25, .inl (fun _ => 0))) :: (z28, .inl (G.2.1, 25, .inl (fun _ => 0))) :: (z29, .inl (G.2.1, 25, .inl (fun _ => 0))) :: (z30, .inl (G.2.1, 25, .inl (fun _ => 0))) :: (z31, .inl (G.2.2.1, 12, .inl (fun _ => 0))) :: (z32, .inr (1, [.int 0, .int 0, .ref z33])) :: (z33, .inl (G.2.1, 144, .inl (fun _ => 0))) :: (z34, .inr (1, [.int 0, .int 0, .ref z35])) :: (z35, .inl (G.2.1, 144, .inl (fun _ => 0))) :: (z36, .inl (G.2.2.2.2, 16, .inr (.inr (.inr (.inr (rfn gd 16)))))) :: []) ++ (tbs G ad 6 ++ lfs G gd 16)) H) (hD : va_D A (((x, .inr (6, [.int 0, .ref z0, .ref z1, .ref z15, .ref z20, .ref z32, .ref z34, .int 0, .ref z36, .int 0])) :: (z0, .inl (G.2.2.2.1, 6, .inr (.inr (.inr (.inr (rfn ad 6)))))) :: (z1, .inr (2, [.int 0, .int 0, .int 0, .int 0, .int (-2), .ref z2, .ref z6, .ref z7, .ref z8, .ref z9, .ref z10, .ref z11, .ref z12, .ref z13, .ref z14])) :: (z2, .inr (5, [.ref z3, .ref z4, .ref z5, .int 0])) :: (z3, .inl (G.2.1, 25, .inl (fun _ => 0))) :: (z4, .inl (G.2.1, 25, .inl (fun _ => 0))) :: (z5, .inl (G.2.1, 25, .inl (fun _ => 0))) :: (z6, .inl (G.2.2.1, 12, .inl (fun _ => 0))) :: (z7, .inl (G.2.1, 12, .inl (fun _ => 0))) :: (z8, .inl (G.2.1, 144, .inl (fun _ => 0))) :: (z9, .inl (G.2.1, 144, .inl (fun _ => 0))) :: (z10, .inl (G.2.1, 144, .inl (fun _ => 0))) :: (z11, .inl (G.2.2.1, 144, .inl (fun _ => 0))) :: (z12, .inl (G.2.1, 144, .inl (fun _ => 0))) :: (z13, .inl (G.2.1, 144, .inl (fun _ => 0))) :: (z14, .inl (G.2.1, 144, .inl (fun _ => 0))) :: (z15, .inr (0, [.ref z16, .ref z17, .ref z18, .ref z19, .int 0, .int (-1), .int (-1), .int (-1), .int (-1)])) :: (z16, .inl (G.2.2.1, 144, .inl (fun _ => 0))) :: (z17, .inl (G.2.1, 8, .inl (fun _ => 0))) :: (z18, .inl (G.2.1, 8, .inl (fun _ => 0))) :: (z19, .inl (G.2.1, 256, .inl (fun _ => 0))) :: (z20, .inr (3, [.ref z21, .ref z25, .ref z26, .ref z27, .ref z28, .ref z29, .ref z30, .ref z31])) :: (z21, .inr (5, [.ref z22, .ref z23, .ref z24, .int 0])) :: (z22, .inl (G.2.1, 25, .inl (fun _ => 0))) :: (z23, .inl (G.2.1, 25, .inl (fun _ => 0))) :: (z24, .inl (G.2.1, 25, .inl (fun _ => 0))) :: (z25, .inl (G.2.1, 144, .inl (fun _ => 0))) :: (z26, .inl (G.2.2.1, 144, .inl (fun _ => 0))) :: (z27, .inl (G.2.1, 25, .inl (fun _ => 0))) :: (z28, .inl (G.2.1, 25, .inl (fun _ => 0))) :: (z29, .inl (G.2.1, 25, .inl (fun _ => 0))) :: (z30, .inl (G.2.1, 25, .inl (fun _ => 0))) :: (z31, .inl (G.2.2.1, 12, .inl (fun _ => 0))) :: (z32, .inr (1, [.int 0, .int 0, .ref z33])) :: (z33, .inl (G.2.1, 144, .inl (fun _ => 0))) :: (z34, .inr (1, [.int 0, .int 0, .ref z35])) :: (z35, .inl (G.2.1, 144, .inl (fun _ => 0))) :: (z36, .inl (G.2.2.2.2, 16, .inr (.inr (.inr (.inr (rfn gd 16)))))) :: []) ++ (tbs G ad 6 ++ lfs G gd 16))) : ∃ (xa : Nat → Nat) (tA : Nat → Nat → Nat) (a b ga ua la lb : Nat → Nat) (gA : Nat → Nat → Nat) (wX : va_W), XS G x xa tA a b ga ua la lb gA (fun _ _ => 0) (fun _ _ _ => 0) wX ∧ PP G wX H ∧ va_D A wX := by
  refine ⟨(fun k => match k with | 1 => z0 | _ => z36), ad, (fun k => match k with | 6 => z6 | 7 => z7 | 8 => z8 | 9 => z9 | 10 => z10 | 11 => z11 | 12 => z12 | 13 => z13 | 14 => z14 | _ => z1), (fun k => match k with | 0 => z3 | 1 => z4 | 2 => z5 | _ => z2), (fun k => match k with | 0 => z16 | 1 => z17 | 2 => z18 | 3 => z19 | _ => z15), (fun k => match k with | 0 => z20 | 1 => z25 | 2 => z26 | 3 => z27 | 4 => z28 | 5 => z29 | 6 => z30 | 7 => z31 | 20 => z22 | 21 => z23 | 22 => z24 | _ => z21), (fun k => match k with | 0 => z32 | _ => z33), (fun k => match k with | 0 => z34 | _ => z35), gd, xFull G x (fun k => match k with | 1 => z0 | _ => z36) ad (fun k => match k with | 6 => z6 | 7 => z7 | 8 => z8 | 9 => z9 | 10 => z10 | 11 => z11 | 12 => z12 | 13 => z13 | 14 => z14 | _ => z1) (fun k => match k with | 0 => z3 | 1 => z4 | 2 => z5 | _ => z2) (fun k => match k with | 0 => z16 | 1 => z17 | 2 => z18 | 3 => z19 | _ => z15) (fun k => match k with | 0 => z20 | 1 => z25 | 2 => z26 | 3 => z27 | 4 => z28 | 5 => z29 | 6 => z30 | 7 => z31 | 20 => z22 | 21 => z23 | 22 => z24 | _ => z21) (fun k => match k with | 0 => z32 | _ => z33) (fun k => match k with | 0 => z34 | _ => z35) gd (fun _ => 0) (fun k => match k with | 4 => -2 | _ => 0) (fun _ => 0) (fun k => match k with | 4 => 0 | _ => -1) (fun _ => 0) (fun _ => 0) (fun _ => 0) (fun _ _ => 0) (fun _ _ => 0) (fun _ _ => 0) (fun _ _ => 0) (fun _ _ => 0) (fun _ _ => 0) (fun _ _ => 0) (fun _ _ _ => 0) (fun _ _ => 0) (fun _ _ _ => 0), ⟨(fun _ => 0), (fun k => match k with | 4 => -2 | _ => 0), (fun _ => 0), (fun k => match k with | 4 => 0 | _ => -1), (fun _ => 0), (fun _ => 0), (fun _ => 0), (fun _ _ => 0), (fun _ _ => 0), (fun _ _ => 0), (fun _ _ => 0), (fun _ _ => 0), (fun _ _ => 0), (fun _ _ => 0), (fun _ _ _ => 0), XI_0, rfl⟩, ?_, ?_⟩
  · exact hP.sub [0, 1, 2, 7, 8, 9, 10, 11, 12, 13, 14, 15, 3, 4, 5, 6, 16, 17, 18, 19, 20, 21, 26, 27, 28, 29, 30, 31, 32, 22, 23, 24, 25, 33, 34, 35, 36, 37, 38, 39, 40, 41, 42, 43, 44, 45, 46, 47, 48, 49, 50, 51, 52, 53, 54, 55, 56, 57, 58, 59, 60, 61, 62, 63, 64, 65, 66, 67, 68, 69, 70, 71, 72, 73, 74, 75, 76, 77, 78, 79, 80, 81, 82, 83, 84, 85, 86, 87, 88, 89, 90, 91, 92, 93, 94, 95, 96, 97, 98, 99, 100, 101, 102, 103, 104, 105, 106, 107, 108, 109, 110, 111, 112, 113, 114, 115, 116, 117, 118, 119, 120, 121, 122, 123] rfl
  · exact D_subf hD [0, 1, 2, 7, 8, 9, 10, 11, 12, 13, 14, 15, 3, 4, 5, 6, 16, 17, 18, 19, 20, 21, 26, 27, 28, 29, 30, 31, 32, 22, 23, 24, 25, 33, 34, 35, 36, 37, 38, 39, 40, 41, 42, 43, 44, 45, 46, 47, 48, 49, 50, 51, 52, 53, 54, 55, 56, 57, 58, 59, 60, 61, 62, 63, 64, 65, 66, 67, 68, 69, 70, 71, 72, 73, 74, 75, 76, 77, 78, 79, 80, 81, 82, 83, 84, 85, 86, 87, 88, 89, 90, 91, 92, 93, 94, 95, 96, 97, 98, 99, 100, 101, 102, 103, 104, 105, 106, 107, 108, 109, 110, 111, 112, 113, 114, 115, 116, 117, 118, 119, 120, 121, 122, 123] (by decide +kernel) rfl
theorem MI_0 : MIv (fun _ => 0) (fun _ _ => 0) := ⟨fun t ht => ⟨0, by omega, rfl⟩, fun t ht => ⟨0, by omega, rfl⟩, fun t ht => ⟨0, by omega, rfl⟩, fun t ht => ⟨0, by omega, rfl⟩, ⟨0, by omega, rfl⟩, ⟨0, by omega, rfl⟩, ⟨0, by omega, rfl⟩, ⟨0, by omega, rfl⟩, ⟨0, by omega, rfl⟩, fun t ht => ⟨0, by omega, rfl⟩, fun t ht => ⟨0, by omega, rfl⟩⟩
theorem lt_len {n L : Nat} {v : Int32} (hL : L ≤ 3072) (hn : n ≤ L) (e : v = Int32.ofNat L - 6) (h : ¬ v < nI n) : n + 6 ≤ L := by
  rcases Nat.lt_or_ge L 6 with c | c
  · exact absurd (Int32.lt_of_lt_of_le (show v < 0 by rw [e]; exact pk_sneg (a := L) (b := 6) (by decide) c) (nI_pos' (by omega))) h
  · have e2 : v = nI (L - 6) := e.trans (pk_sub (a := L) (b := 6) c)
    rw [e2] at h
    have := Nat.not_lt.mp (fun z => h ((nI_ltI (by omega) (by omega)).mpr z))
    omega
set_option maxHeartbeats 8000000 in
set_option maxRecDepth 100000 in
/-- the law from the head of its loop on -/
theorem law_loop {p : Program} {l : Launch} {e : Env} {s : State} {m : MethodId} {below : List Frame} {meth : Method} {c : Code} {b_ L : Nat} {xs : Nat → Int32} (C0 : lw_At p s m meth c b_ L xs) (hL : L ≤ 3072) {G : GG} (hK : KK G s) (hT : ST (fun q => s.heap.size ≤ q) s s.heap) {x : Nat} {xa : Nat → Nat} {tA : Nat → Nat → Nat} {a b ga ua la lb : Nat → Nat} {gA : Nat → Nat → Nat} {y : Nat} {bb : Nat → Nat} : ∀ (kf n : Nat) (tF : Nat → Nat → Int32) (tR : Nat → Nat → Nat → Int32) (r7 : Nat → Nat → Int32) (wX wM : va_W), n ≤ L → L < n + kf → XS G x xa tA a b ga ua la lb gA tF tR wX → MS G y bb r7 wM → (JT tF tR r7 ∧ JC tF tR r7) → ∀ (H : Heap) (locs : List Loc) (ls : Array Slot), PP G (wX ++ wM) H → va_D (fun q => s.heap.size ≤ q) (wX ++ wM) → va_S (fun q => s.heap.size ≤ q) s.heap H locs → lv_has ls 4 [(0, .ref b_), (1, .ref x), (2, .ref y), (3, .int (nI n))] → W p l e room_1 s m #[Value.ref b_] below meth c H locs 160 27087 (lw_Z below #[Value.ref b_] s) (F0 m 18 ls []) := by
  obtain ⟨hx, hb, hr, hml, hown, hts0, hXs, hbl, hlocks, hgv⟩ := id C0
  have hts : ∀ w ∈ TB, w.before #[Value.ref b_] s = true := fun w h => hts0 w (List.mem_filter.mp h).1
  have hown : s.vm.findClass RL = some m.cls := hown
  have hA : ∀ q : Nat, s.heap.size ≤ q → (fun q => s.heap.size ≤ q) q := fun _ h => h
  have hbA : ¬ (fun q => s.heap.size ≤ q) b_ := Nat.not_le.mpr hbl
  intro kf
  induction kf with
  | zero => intro n tF tR r7 wX wM h1 h2; exact absurd h1 (by omega)
  | succ kf ih =>
    intro n tF tR r7 wX wM hn hk hX hM hJ H locs ls hP hD hS hl
    have back : n + 6 ≤ L → ∀ (tF2 : Nat → Nat → Int32) (tR2 : Nat → Nat → Nat → Int32) (r2 : Nat → Nat → Int32) (wX2 wM2 : va_W) (H : Heap) (locs : List Loc) (ls : Array Slot), XS G x xa tA a b ga ua la lb gA tF2 tR2 wX2 → MS G y bb r2 wM2 → (JT tF2 tR2 r2 ∧ JC tF2 tR2 r2) → PP G (wX2 ++ wM2) H → va_D (fun q => s.heap.size ≤ q) (wX2 ++ wM2) → va_S (fun q => s.heap.size ≤ q) s.heap H locs → lv_has ls 4 [(0, .ref b_), (1, .ref x), (2, .ref y), (3, .int (nI n))] → W p l e room_1 s m #[Value.ref b_] below meth c H locs 160 27087 (lw_Z below #[Value.ref b_] s) (F0 m 1654 ls []) := by
      intro hn6 tF2 tR2 r2 wX2 wM2 H locs ls hX2 hM2 hJ2 hP hD hS hl
      obtain ⟨v, ev⟩ : ∃ v : Int32, v = (nI n) + Int32.ofInt (6) := ⟨_, rfl⟩
      refine lv_iinc (v := v) (lv' := [(3, .int v), (0, .ref b_), (1, .ref x), (2, .ref y)]) hx hb dL_law_1654 hl (k := 3) rfl ev.symm (by decide) rfl (fun ls hl => ?_)
      obtain rfl : v = nI (n + 6) := nI_plus (i := n) (j := 6) ev rfl (by decide)
      refine lv_goto (tgt := 18) hx hb dL_law_1657 (by decide) ?_
      exact ih (n + 6) tF2 tR2 r2 wX2 wM2 hn6 (by omega) hX2 hM2 hJ2 _ _ _ hP hD hS (lv_sub hl [1, 2, 3, 0] rfl)
    refine lv_iload_n hx hb dL_law_18 rfl (lv_at hl 3 rfl) ?_
    refine lv_aload_n hx hb dL_law_19 rfl (lv_at hl 0 rfl) ?_
    refine va_slen hx hb hXs hbl hbA hS dL_law_20 ?_
    refine lv_bipush (v := 6) hx hb dL_law_21 (by decide) ?_
    refine lv_isub hx hb dL_law_23 ?_
    refine lv_topi (fun v1 ev1 => ?_)
    refine lv_icmp_gt (tgt := 1660) hx hb dL_law_24 (by decide) (fun c2 => ?_) (fun c2 => ?_)
    · refine lv_iconst (v := 1) hx hb dL_law_1660 (by decide) ?_
      refine va_forget (fun q hq => hS.2.2 q hq) ?_
      refine W.widen (k := 600000) (n := 7302250) (by decide) (by decide) ?_
      exact lw_ret hx hb hr hlocks dL_law_1661
    · have hn6 := lt_len hL hn ev1 c2
      refine lv_aload_n hx hb dL_law_27 rfl (lv_at hl 0 rfl) ?_
      refine lv_iload_n hx hb dL_law_28 rfl (lv_at hl 3 rfl) ?_
      refine xsld (n) hx hb hXs hbl hbA hS rfl (by omega) (by omega) dL_law_29 ?_
      refine lv_bipush (v := 63) hx hb dL_law_30 (by decide) ?_
      refine lv_iand hx hb dL_law_32 ?_
      refine lv_topi (fun v3 ev3 => ?_)
      obtain ⟨k9, hk9, ek9⟩ := pk_andE (xs (n)) (m := 63) 6 (by decide)
      rw [ek9] at ev3
      subst ev3
      rcases Nat.lt_or_ge k9 36 with hk36 | hk36
      · rcases (show k9 = 0 ∨ k9 = 1 ∨ k9 = 2 ∨ k9 = 3 ∨ k9 = 4 ∨ k9 = 5 ∨ k9 = 6 ∨ k9 = 7 ∨ k9 = 8 ∨ k9 = 9 ∨ k9 = 10 ∨ k9 = 11 ∨ k9 = 12 ∨ k9 = 13 ∨ k9 = 14 ∨ k9 = 15 ∨ k9 = 16 ∨ k9 = 17 ∨ k9 = 18 ∨ k9 = 19 ∨ k9 = 20 ∨ k9 = 21 ∨ k9 = 22 ∨ k9 = 23 ∨ k9 = 24 ∨ k9 = 25 ∨ k9 = 26 ∨ k9 = 27 ∨ k9 = 28 ∨ k9 = 29 ∨ k9 = 30 ∨ k9 = 31 ∨ k9 = 32 ∨ k9 = 33 ∨ k9 = 34 ∨ k9 = 35 by omega) with rfl | rfl | rfl | rfl | rfl | rfl | rfl | rfl | rfl | rfl | rfl | rfl | rfl | rfl | rfl | rfl | rfl | rfl | rfl | rfl | rfl | rfl | rfl | rfl | rfl | rfl | rfl | rfl | rfl | rfl | rfl | rfl | rfl | rfl | rfl | rfl
        · exact lv_tableIn (tgt := 192) hx hb dL_law_33 (by decide) (by decide) rfl (by decide) (law_c0 C0 hL hn6 hK hT hX hM hJ hP hD hS (lv_sub hl [0, 1, 2, 3] rfl) (back hn6))
        · exact lv_tableIn (tgt := 205) hx hb dL_law_33 (by decide) (by decide) rfl (by decide) (law_c1 C0 hL hn6 hK hT hX hM hJ hP hD hS (lv_sub hl [0, 1, 2, 3] rfl) (back hn6))
        · exact lv_tableIn (tgt := 248) hx hb dL_law_33 (by decide) (by decide) rfl (by decide) (law_c2 C0 hL hn6 hK hT hX hM hJ hP hD hS (lv_sub hl [0, 1, 2, 3] rfl) (back hn6))
        · exact lv_tableIn (tgt := 271) hx hb dL_law_33 (by decide) (by decide) rfl (by decide) (law_c3 C0 hL hn6 hK hT hX hM hJ hP hD hS (lv_sub hl [0, 1, 2, 3] rfl) (back hn6))
        · exact lv_tableIn (tgt := 314) hx hb dL_law_33 (by decide) (by decide) rfl (by decide) (law_c4 C0 hL hn6 hK hT hX hM hJ hP hD hS (lv_sub hl [0, 1, 2, 3] rfl) (back hn6))
        · exact lv_tableIn (tgt := 377) hx hb dL_law_33 (by decide) (by decide) rfl (by decide) (law_c5 C0 hL hn6 hK hT hX hM hJ hP hD hS (lv_sub hl [0, 1, 2, 3] rfl) (back hn6))
        · exact lv_tableIn (tgt := 430) hx hb dL_law_33 (by decide) (by decide) rfl (by decide) (law_c6 C0 hL hn6 hK hT hX hM hJ hP hD hS (lv_sub hl [0, 1, 2, 3] rfl) (back hn6))
        · exact lv_tableIn (tgt := 473) hx hb dL_law_33 (by decide) (by decide) rfl (by decide) (law_c7 C0 hL hn6 hK hT hX hM hJ hP hD hS (lv_sub hl [0, 1, 2, 3] rfl) (back hn6))
        · exact lv_tableIn (tgt := 516) hx hb dL_law_33 (by decide) (by decide) rfl (by decide) (law_c8 C0 hL hn6 hK hT hX hM hJ hP hD hS (lv_sub hl [0, 1, 2, 3] rfl) (back hn6))
        · exact lv_tableIn (tgt := 559) hx hb dL_law_33 (by decide) (by decide) rfl (by decide) (law_c9 C0 hL hn6 hK hT hX hM hJ hP hD hS (lv_sub hl [0, 1, 2, 3] rfl) (back hn6))
        · exact lv_tableIn (tgt := 602) hx hb dL_law_33 (by decide) (by decide) rfl (by decide) (law_c10 C0 hL hn6 hK hT hX hM hJ hP hD hS (lv_sub hl [0, 1, 2, 3] rfl) (back hn6))
        · exact lv_tableIn (tgt := 645) hx hb dL_law_33 (by decide) (by decide) rfl (by decide) (law_c11 C0 hL hn6 hK hT hX hM hJ hP hD hS (lv_sub hl [0, 1, 2, 3] rfl) (back hn6))
        · exact lv_tableIn (tgt := 688) hx hb dL_law_33 (by decide) (by decide) rfl (by decide) (law_c12 C0 hL hn6 hK hT hX hM hJ hP hD hS (lv_sub hl [0, 1, 2, 3] rfl) (back hn6))
        · exact lv_tableIn (tgt := 741) hx hb dL_law_33 (by decide) (by decide) rfl (by decide) (law_c13 C0 hL hn6 hK hT hX hM hJ hP hD hS (lv_sub hl [0, 1, 2, 3] rfl) (back hn6))
        · exact lv_tableIn (tgt := 810) hx hb dL_law_33 (by decide) (by decide) rfl (by decide) (law_c14 C0 hL hn6 hK hT hX hM hJ hP hD hS (lv_sub hl [0, 1, 2, 3] rfl) (back hn6))
        · exact lv_tableIn (tgt := 879) hx hb dL_law_33 (by decide) (by decide) rfl (by decide) (law_c15 C0 hL hn6 hK hT hX hM hJ hP hD hS (lv_sub hl [0, 1, 2, 3] rfl) (back hn6))
        · exact lv_tableIn (tgt := 912) hx hb dL_law_33 (by decide) (by decide) rfl (by decide) (law_c16 C0 hL hn6 hK hT hX hM hJ hP hD hS (lv_sub hl [0, 1, 2, 3] rfl) (back hn6))
        · exact lv_tableIn (tgt := 945) hx hb dL_law_33 (by decide) (by decide) rfl (by decide) (law_c17 C0 hL hn6 hK hT hX hM hJ hP hD hS (lv_sub hl [0, 1, 2, 3] rfl) (back hn6))
        · exact lv_tableIn (tgt := 988) hx hb dL_law_33 (by decide) (by decide) rfl (by decide) (law_c18 C0 hL hn6 hK hT hX hM hJ hP hD hS (lv_sub hl [0, 1, 2, 3] rfl) (back hn6))
        · exact lv_tableIn (tgt := 1031) hx hb dL_law_33 (by decide) (by decide) rfl (by decide) (law_c19 C0 hL hn6 hK hT hX hM hJ hP hD hS (lv_sub hl [0, 1, 2, 3] rfl) (back hn6))
        · exact lv_tableIn (tgt := 1074) hx hb dL_law_33 (by decide) (by decide) rfl (by decide) (law_c20 C0 hL hn6 hK hT hX hM hJ hP hD hS (lv_sub hl [0, 1, 2, 3] rfl) (back hn6))
        · exact lv_tableIn (tgt := 1117) hx hb dL_law_33 (by decide) (by decide) rfl (by decide) (law_c21 C0 hL hn6 hK hT hX hM hJ hP hD hS (lv_sub hl [0, 1, 2, 3] rfl) (back hn6))
        · exact lv_tableIn (tgt := 1160) hx hb dL_law_33 (by decide) (by decide) rfl (by decide) (law_c22 C0 hL hn6 hK hT hX hM hJ hP hD hS (lv_sub hl [0, 1, 2, 3] rfl) (back hn6))
        · exact lv_tableIn (tgt := 1203) hx hb dL_law_33 (by decide) (by decide) rfl (by decide) (law_c23 C0 hL hn6 hK hT hX hM hJ hP hD hS (lv_sub hl [0, 1, 2, 3] rfl) (back hn6))
        · exact lv_tableIn (tgt := 1246) hx hb dL_law_33 (by decide) (by decide) rfl (by decide) (law_c24 C0 hL hn6 hK hT hX hM hJ hP hD hS (lv_sub hl [0, 1, 2, 3] rfl) (back hn6))
        · exact lv_tableIn (tgt := 1269) hx hb dL_law_33 (by decide) (by decide) rfl (by decide) (law_c25 C0 hL hn6 hK hT hX hM hJ hP hD hS (lv_sub hl [0, 1, 2, 3] rfl) (back hn6))
        · exact lv_tableIn (tgt := 1338) hx hb dL_law_33 (by decide) (by decide) rfl (by decide) (law_c26 C0 hL hn6 hK hT hX hM hJ hP hD hS (lv_sub hl [0, 1, 2, 3] rfl) (back hn6))
        · exact lv_tableIn (tgt := 1371) hx hb dL_law_33 (by decide) (by decide) rfl (by decide) (law_c27 C0 hL hn6 hK hT hX hM hJ hP hD hS (lv_sub hl [0, 1, 2, 3] rfl) (back hn6))
        · exact lv_tableIn (tgt := 1420) hx hb dL_law_33 (by decide) (by decide) rfl (by decide) (law_c28 C0 hL hn6 hK hT hX hM hJ hP hD hS (lv_sub hl [0, 1, 2, 3] rfl) (back hn6))
        · exact lv_tableIn (tgt := 1443) hx hb dL_law_33 (by decide) (by decide) rfl (by decide) (law_c29 C0 hL hn6 hK hT hX hM hJ hP hD hS (lv_sub hl [0, 1, 2, 3] rfl) (back hn6))
        · exact lv_tableIn (tgt := 1466) hx hb dL_law_33 (by decide) (by decide) rfl (by decide) (law_c30 C0 hL hn6 hK hT hX hM hJ hP hD hS (lv_sub hl [0, 1, 2, 3] rfl) (back hn6))
        · exact lv_tableIn (tgt := 1489) hx hb dL_law_33 (by decide) (by decide) rfl (by decide) (law_c31 C0 hL hn6 hK hT hX hM hJ hP hD hS (lv_sub hl [0, 1, 2, 3] rfl) (back hn6))
        · exact lv_tableIn (tgt := 1522) hx hb dL_law_33 (by decide) (by decide) rfl (by decide) (law_c32 C0 hL hn6 hK hT hX hM hJ hP hD hS (lv_sub hl [0, 1, 2, 3] rfl) (back hn6))
        · exact lv_tableIn (tgt := 1555) hx hb dL_law_33 (by decide) (by decide) rfl (by decide) (law_c33 C0 hL hn6 hK hT hX hM hJ hP hD hS (lv_sub hl [0, 1, 2, 3] rfl) (back hn6))
        · exact lv_tableIn (tgt := 1578) hx hb dL_law_33 (by decide) (by decide) rfl (by decide) (law_c34 C0 hL hn6 hK hT hX hM hJ hP hD hS (lv_sub hl [0, 1, 2, 3] rfl) (back hn6))
        · exact lv_tableIn (tgt := 1621) hx hb dL_law_33 (by decide) (by decide) rfl (by decide) (law_c35 C0 hL hn6 hK hT hX hM hJ hP hD hS (lv_sub hl [0, 1, 2, 3] rfl) (back hn6))
      · refine lv_tableOut (tgt := 1654) hx hb dL_law_33 (Or.inr (by rw [nI_toInt (by omega)]; omega)) (by decide) ?_
        exact back hn6 _ _ _ _ _ _ _ _ hX hM hJ hP hD hS (lv_sub hl [0, 1, 2, 3] rfl)
set_option maxHeartbeats 8000000 in
set_option maxRecDepth 100000 in
/-- THE LAW, from its entry -/
theorem whole_start {p : Program} {e : Env} {s : State} {m : MethodId} {below : List Frame} {meth : Method} {c : Code} (l : Launch) {b L : Nat} {xs : Nat → Int32} (hL : L ≤ 3072) (C0 : lw_At p s m meth c b L xs) : W p l e room_1 s m #[Value.ref b] below meth c s.heap [] 0 0 (lw_Z below #[Value.ref b] s) (entryFrame m ([Value.ref b] : List Value).toArray 4) := by
  obtain ⟨hx, hb, hr, hml, hown, hts0, hX, hbl, hlocks, hgv⟩ := id C0
  have hts : ∀ w ∈ TB, w.before #[Value.ref b] s = true := fun w h => hts0 w (List.mem_filter.mp h).1
  have hown : s.vm.findClass RL = some m.cls := hown
  have hA : ∀ q : Nat, s.heap.size ≤ q → (fun q : Nat => s.heap.size ≤ q) q := fun _ h => h
  obtain ⟨G, hK⟩ := kk_start hts0
  have hT : ST (fun q : Nat => s.heap.size ≤ q) s s.heap := st_start hts0 hgv (fun a h => Nat.not_le.mpr h)
  have hS : va_S (fun q : Nat => s.heap.size ≤ q) s.heap s.heap [] := va_S.rf
  have hP : PP G [] s.heap := fun k q h => by simp at h
  have hD : va_D (fun q : Nat => s.heap.size ≤ q) [] := ⟨fun i j p q h => by simp at h, fun k q h => by simp at h⟩
  have hl := lv_entry ([.ref b]) (n := 4) (Nat.le_of_ble_eq_true rfl)
  rw [lg_entry_eq]
  generalize (lg_sl ([.ref b]) ++ List.replicate (4 - (lg_sl ([.ref b])).length) Slot.unset).toArray = ls at hl ⊢
  have hl : lv_has ls 4 [(0, .ref b)] := hl
  refine va_new (ci := 6) (fs := [.int 0, .null, .null, .null, .null, .null, .null, .int 0, .null, .int 0]) (C := RX6) (T := TX6) (N := 10) hx hb hts inX6 tyX6 tyX6_ok hown (hts _ mc_L_7) (hts _ mn_X6) (hts _ mz_RX6) hK.1 hP hD hS hA rfl dfX6 (show 0 + 1 ≤ 600000 from by omega) (show 0 + 10 ≤ 7302250 from by omega) dL_law_0 (fun q1 H hP hD hS => ?_)
  refine lv_dup hx hb dL_law_3 rfl ?_
  refine mksI (rest := [.ref q1]) (wb := []) ⟨hx, hb, hml, hown, hts⟩ (c_X6_init l G q1) mi_yX6_init rfl mim_yX6_init ml_L_9 ⟨rfl, rfl, Nat.le_of_ble_eq_true rfl, Nat.le_of_ble_eq_true rfl⟩ hK hT hP hD rfl hl.1 rfl (Nat.le_of_ble_eq_true rfl) dL_law_4 ⟨(show 0 + 1 + 123 ≤ 600000 from by omega), (show 0 + 10 + 12806 ≤ 7302250 from by omega)⟩ hS hA (fun w6 H locs hw6 hP hD hS => ?_)
  obtain ⟨ad, gd, z0, z1, z2, z3, z4, z5, z6, z7, z8, z9, z10, z11, z12, z13, z14, z15, z16, z17, z18, z19, z20, z21, z22, z23, z24, z25, z26, z27, z28, z29, z30, z31, z32, z33, z34, z35, z36, rfl⟩ := hw6
  obtain ⟨xa, tA, a_, b_, ga, ua, la, lb, gA, wX, hXS, hP, hD⟩ := start_x hP hD
  refine lv_astore_n (lv' := [(1, .ref q1), (0, .ref b)]) hx hb dL_law_7 rfl hl (by decide) rfl (fun ls hl => ?_)
  refine va_new (ci := 7) (fs := [.int 0, .null, .null, .null, .null, .null, .null, .null, .null, .null, .null, .null, .null, .null, .null, .null, .null, .null, .null, .null, .int 0, .int 0, .null, .null, .null, .null, .null, .int 0, .int 0, .null, .null, .null, .null, .null, .int 0, .int 0, .null, .null, .null, .null, .null, .null, .int 0]) (C := RX7) (T := TX7) (N := 43) hx hb hts inX7 tyX7 tyX7_ok hown (hts _ mc_L_10) (hts _ mn_X7) (hts _ mz_RX7) hK.1 hP hD hS hA rfl dfX7 (show 0 + 1 + 123 + 1 ≤ 600000 from by omega) (show 0 + 10 + 12806 + 43 ≤ 7302250 from by omega) dL_law_8 (fun q2 H hP hD hS => ?_)
  refine lv_dup hx hb dL_law_11 rfl ?_
  refine mkI (rest := [.ref q2]) (wb := wX) ⟨hx, hb, hml, hown, hts⟩ (c_X7_init l G q2) mi_yX7_init rfl mim_yX7_init ml_L_12 ⟨rfl, rfl, Nat.le_of_ble_eq_true rfl, Nat.le_of_ble_eq_true rfl⟩ hK hP hD rfl hl.1 rfl (Nat.le_of_ble_eq_true rfl) dL_law_12 ⟨(show 0 + 1 + 123 + 1 + 35 ≤ 600000 from by omega), (show 0 + 10 + 12806 + 43 + 14228 ≤ 7302250 from by omega)⟩ hS hA (fun w7 H locs hw7 hP hD hS => ?_)
  obtain ⟨y0, y1, y2, y3, y4, y5, y6, y7, y8, y9, y10, y11, y12, y13, y14, y15, y16, y17, y18, y19, y20, y21, y22, y23, y24, y25, y26, y27, y28, y29, y30, y31, y32, y33, y34, rfl⟩ := hw7
  obtain ⟨bb, hbb⟩ : ∃ bb : Nat → Nat, bb = fun k => match k with | 1 => y0 | 2 => y1 | 3 => y2 | 4 => y3 | 5 => y4 | 6 => y5 | 7 => y6 | 8 => y7 | 9 => y8 | 10 => y9 | 11 => y10 | 12 => y11 | 13 => y12 | 14 => y13 | 15 => y14 | 16 => y15 | 17 => y16 | 18 => y17 | 19 => y18 | 22 => y19 | 23 => y20 | 24 => y21 | 25 => y22 | 26 => y23 | 29 => y24 | 30 => y25 | 31 => y26 | 32 => y27 | 33 => y28 | 36 => y29 | 37 => y30 | 38 => y31 | 39 => y32 | 40 => y33 | _ => y34 := ⟨_, rfl⟩
  have hP : PP G (wX ++ mM G q2 bb (fun _ => 0) (fun _ _ => 0)) H := by subst hbb; exact hP
  have hD : va_D (fun q : Nat => s.heap.size ≤ q) (wX ++ mM G q2 bb (fun _ => 0) (fun _ _ => 0)) := by subst hbb; exact hD
  refine W.widen (k := 160) (n := 27087) (by decide) (by decide) ?_
  refine lv_astore_n (lv' := [(2, .ref q2), (1, .ref q1), (0, .ref b)]) hx hb dL_law_15 rfl hl (by decide) rfl (fun ls hl => ?_)
  refine lv_iconst (v := 0) hx hb dL_law_16 (by decide) ?_
  refine lv_istore_n (lv' := [(3, .int 0), (2, .ref q2), (1, .ref q1), (0, .ref b)]) hx hb dL_law_17 rfl hl (by decide) rfl (fun ls hl => ?_)
  exact law_loop C0 hL hK hT (L + 1) 0 (fun _ _ => 0) (fun _ _ _ => 0) (fun _ _ => 0) _ _ (Nat.zero_le _) (by omega) hXS ⟨_, MI_0, rfl⟩ ⟨JT_0, JC_0⟩ _ _ _ hP hD hS (lv_sub hl [3, 2, 1, 0] rfl)
set_option maxHeartbeats 4000000 in
theorem lw_walk (l : Launch) (b : Addr) (xs : List Int32) : MetFree l x (headSpec (Jvm.Cond.code x code maxLocals ret :: tables_1) room_1) (lw_P b xs) (fun _ _ _ _ _ => True) lw_Q := by
  refine MetFree.of_bodyS (code := code) (maxLocals := maxLocals) (ret := ret) (by decide) ?_ ?_
  · intro args s m h hn
    obtain ⟨meth, c, h1, h2, h3, h4, h5, h6, -, -⟩ := Cond.code_spec hn (atoms_spec (ws := Jvm.Cond.code x code maxLocals ret :: tables_1) h _ List.mem_cons_self)
    exact ⟨meth, c, h1, h2, h3, h4, h5, h6⟩
  · intro p e s m args below meth c s₁ B hml0 hP _
    obtain ⟨rfl, hx, hbd, hgv⟩ := hP
    obtain ⟨scr, harrAt, hlist, hof, hsmall⟩ := hx
    obtain ⟨hcb, hkn, -, -⟩ := State.arrayAt?_spec harrAt
    have hown : s.vm.findClass R_law = some m.cls := findClass_of_methodNamed B.named
    have hts0 : ∀ c ∈ (Jvm.Cond.code x code maxLocals ret :: tables_1), c.before #[Value.ref b] s = true := atoms_spec (ws := Jvm.Cond.code x code maxLocals ret :: tables_1) B.pre
    have hts : ∀ w ∈ lw_tbl, w.before #[Value.ref b] s = true := k2_hts_sels lw_privs (fun w hw => hts0 w (List.mem_cons_of_mem _ hw)) lw_privs_ok
    have hml : c.maxLocals = 4 := B.maxLocals_eq (hts0 _ List.mem_cons_self)
    have X₀ : Stand p l e room_1 s m #[Value.ref b] below meth c s₁ [] 0 0 := Stand.of_body B
    have hh0 : s₁.heap = s.heap := by rw [B.state]; rfl
    have hsz : scr.slots.size = xs.length := by rw [← Array.length_toList, hlist, List.length_map]
    have hval : ∀ j : Nat, j < xs.length → scr.slots[j]? = some (.int (xs.getD j 0)) := fun j hj => by
      rw [← Array.getElem?_toList, hlist]
      simp [hj]
    have hbl : b < s.heap.size := (Array.getElem?_eq_some_iff.mp hcb).1
    have hX : va_X b xs.length (fun j => xs.getD j 0) s s.heap := ⟨scr, hcb, hof, hkn, hsz, hval⟩
    have K : W p l e room_1 s m #[Value.ref b] below meth c s₁.heap [] 0 0 (lw_Z below #[Value.ref b] s) (entryFrame m ([Value.ref b] : List Value).toArray 4) := by
      rw [hh0]
      exact whole_start l hbd ⟨B.exec, B.bytes, B.returns, hml, hown, hts, hX, hbl, B.notSynchronized, hgv⟩
    obtain ⟨t, a1, o, b1, b2, b3⟩ := K s₁ rfl X₀
    exact ⟨t, o, a1, b1, b2, b3⟩
theorem lw_pre_spec {args : Array Value} {s : State} (h : (Jvm.Cond.and given_1 narrow_1).before args s = true) (hr : rest_1_c.before args s = true) : ∃ (b : Addr) (xs : List Int32), lw_P b xs args s := by
  have hs := flat_of_before _ h
  have hq := flat_of_before _ hr
  have hc : (Cond.count 1).before args s = true := hs _ (by decide +kernel)
  have harr : (Cond.arrayOf (.arg 0) .int).before args s = true := hs _ (by decide +kernel)
  have hle : (Cond.le (.length (.arg 0)) (.int 3072)).before args s = true := hs _ (by decide +kernel)
  have hlen : (Cond.isInt (.length (.arg 0))).before args s = true := hq _ (by decide +kernel)
  have hall : (Cond.all (.arg 0) (.isInt (.elem (.arg 0) (.index 0)))).before args s = true := hq _ (by decide +kernel)
  obtain ⟨b, xs, hb, hx⟩ := State.ints_of_pre rfl harr hlen hall
  have hsm : xs.length < 2 ^ 31 := hx.choose_spec.2.2.2
  have hev : (Term.length (.arg 0)).eval args s none [] s = some (.int xs.length.toInt32) := hx.length_eval hb
  have hv := Cond.le_ints hev (show (Term.int 3072).eval args s none [] s = some (.int 3072) from rfl)
  have hd : xs.length.toInt32 ≤ 3072 := by
    simpa [Cond.before, Cond.holds, hv] using hle
  have hN : xs.length ≤ 3072 := (Int32.ofNat_le_ofNat hsm (by decide)).mp (show Int32.ofNat xs.length ≤ Int32.ofNat 3072 from hd)
  exact ⟨b, xs, Cond.one_arg hc (show args[0]? = some (.ref b) from hb), hx, hN, h⟩
theorem lw_comes (l : Launch) : Comes l x (Jvm.Cond.code x code maxLocals ret :: tables_1) room_1 (fun tb e args s => Calls_1 tb e args s ∧ rest_1 tb e args s ∧ Pre_1 tb e args s)
    (fun _ _ args s o t => lw_Q args s o t) := by
  intro p e ha hc hk s m args below hf hfit hheap happ hpre
  obtain ⟨b, xs, hP⟩ := lw_pre_spec hpre.2.2 hpre.2.1
  obtain ⟨k, o, h1, h2, h3, hQ⟩ := lw_walk l b xs p e ha hc hk s m args below hf ((Spec.applies_iff_loose hf).mp happ).1 hP trivial
  exact ⟨k, o, h1, h2, h3, hQ⟩
theorem lw_frame {s t : State} {o : Outcome} {args : Array Value} (h : Framed s o t [] 600000 7302250) :
    Framed s o t (fieldLocs frame_1_writes args s ++ arrayLocs frame_1_arrays args s ++ staticLocs frame_1_statics s) 600000 7302250 := h
theorem lw_limb (L : Cond) (hL : ∀ (args : Array Value) (s t : State), L.after args s (.returned (some (.int 1))) t = true) :
    ArmFor flags0 classFile x code maxLocals ret World_1 tables_1 room_1 Calls_1 rest_1 Pre_1
      (fun tb e a s o t => postC L tb e a s o t ∧ Framed s o t (fieldLocs frame_1_writes a s ++ arrayLocs frame_1_arrays a s ++ staticLocs frame_1_statics s) 600000 7302250) := by
  intro l _ _ _ p e ha hc hk s m args below hf hfit hheap happ hpre
  obtain ⟨k, o, h1, h2, h3, rfl, hF⟩ := lw_comes l p e ha hc hk s m args below hf hfit hheap happ hpre
  exact ⟨k, _, h1, h2, h3, hL args s _, lw_frame hF⟩
