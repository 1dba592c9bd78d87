section AG
variable {o f1 f2 f3 tb row col q1 q2 : Int32} {rw cl bk dn up j : Nat} {pl kd nu td ps ru bf bl a1 a2 a3 a4 a5 a6 a7 a8 a9 a10 a11 a12 a13 a14 r6 r7 r8 r9 r10 r11 r12 r13 r14 : Nat → Int32}
theorem in_lt {n i : Nat} (hn : n ≤ 12) (hi : i < 12) (h : inR (nI n) (nI i)) : i < n := Nat.not_le.mp (fun z => h.2 ((nI_leI (by omega) (by omega)).mpr z))
end AG
