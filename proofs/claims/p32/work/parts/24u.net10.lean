section AG
variable {o f1 f2 f3 tb row col q1 q2 : Int32} {rw cl bk dn up j : Nat} {pl kd nu td ps ru bf bl a1 a2 a3 a4 a5 a6 a7 a8 a9 a10 a11 a12 a13 a14 r6 r7 r8 r9 r10 r11 r12 r13 r14 : Nat → Int32}
end AG
