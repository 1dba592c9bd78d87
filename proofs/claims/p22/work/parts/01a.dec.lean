/-! what stands at a place of a method's bytes -/
def bA (c : ByteArray) (p b : Nat) : Prop := ∃ h : p < c.size, c[p].toNat = b
def CHb (c : ByteArray) (k : Nat) (L : List Nat) : Prop := ∀ i b, L[i]? = some b → bA c (k + i) b
theorem bA_of {c : ByteArray} {p : Nat} {x : UInt8} (h : c.data.toList[p]? = some x) : bA c p x.toNat := by
  cases c with
  | mk d =>
    obtain ⟨h1, h2⟩ := List.getElem?_eq_some_iff.mp h
    exact ⟨h1, congrArg UInt8.toNat h2⟩
theorem CHb_of {c : ByteArray} {k : Nat} {L : List Nat} (h : ((c.data.toList.drop k).take L.length).map UInt8.toNat = L) : CHb c k L := fun i b hi => by
  rw [← h] at hi
  simp only [List.getElem?_map, Option.map_eq_some_iff] at hi
  obtain ⟨x, hx, rfl⟩ := hi
  have h2 : (c.data.toList.drop k)[i]? = some x := by
    rw [List.getElem?_take] at hx
    split at hx
    · exact hx
    · cases hx
  rw [List.getElem?_drop] at h2
  exact bA_of h2
theorem u1_run {c : ByteArray} {p b : Nat} (h : bA c p b) : (ClassFile.Reader.u1 : ClassFile.Decoder Nat) c p = .ok (b, p + 1) := by
  obtain ⟨h1, h2⟩ := h
  show (dite (p < c.size) (fun h => (do set (p + 1); pure c[p].toNat : ClassFile.Decoder Nat)) (fun _ => throw (ClassFile.HasTruncated.truncated p))) c p = _
  rw [dif_pos h1]
  show Except.ok (c[p].toNat, p + 1) = _
  rw [h2]
theorem u2_run {c : ByteArray} {p a b : Nat} (h : bA c p a) (h2 : bA c (p + 1) b) : (ClassFile.Reader.u2 : ClassFile.Decoder Nat) c p = .ok (a * 256 + b, p + 1 + 1) := by
  unfold ClassFile.Reader.u2
  simp only [bind, ReaderT.bind, StateT.bind, Except.bind, u1_run h, u1_run h2]
  rfl
theorem s1_run {c : ByteArray} {p b : Nat} (h : bA c p b) : (ClassFile.Reader.s1 : ClassFile.Decoder Int) c p = .ok (ClassFile.Reader.signed 8 b, p + 1) := by
  show Except.bind ((ClassFile.Reader.u1 : ClassFile.Decoder Nat) c p) _ = _
  rw [u1_run h]
  rfl
theorem s2_run {c : ByteArray} {p a b : Nat} (h : bA c p a) (h2 : bA c (p + 1) b) : (ClassFile.Reader.s2 : ClassFile.Decoder Int) c p = .ok (ClassFile.Reader.signed 16 (a * 256 + b), p + 1 + 1) := by
  show Except.bind ((ClassFile.Reader.u2 : ClassFile.Decoder Nat) c p) _ = _
  rw [u2_run h h2]
  rfl
theorem pl_1 (p : Nat) : p + 1 - p = 1 := by omega
theorem pl_2 (p : Nat) : p + 1 + 1 - p = 2 := by omega
theorem pl_3 (p : Nat) : p + 1 + 1 + 1 - p = 3 := by omega
set_option maxRecDepth 20000 in
theorem dw_2 {c : ByteArray} {p : Nat} (h : bA c p 2) : decode c p = .ok ((.iconst (-1)), 1) := by
  have e := u1_run h
  rw [← pl_1 p]
  unfold decode ClassFile.Reader.runAt ClassFile.Decoder.instr
  show Except.bind (Except.bind ((ClassFile.Reader.u1 : ClassFile.Decoder Nat) c p) _) _ = _
  rw [e]
  rfl
set_option maxRecDepth 20000 in
theorem dw_3 {c : ByteArray} {p : Nat} (h : bA c p 3) : decode c p = .ok ((.iconst 0), 1) := by
  have e := u1_run h
  rw [← pl_1 p]
  unfold decode ClassFile.Reader.runAt ClassFile.Decoder.instr
  show Except.bind (Except.bind ((ClassFile.Reader.u1 : ClassFile.Decoder Nat) c p) _) _ = _
  rw [e]
  rfl
set_option maxRecDepth 20000 in
theorem dw_4 {c : ByteArray} {p : Nat} (h : bA c p 4) : decode c p = .ok ((.iconst 1), 1) := by
  have e := u1_run h
  rw [← pl_1 p]
  unfold decode ClassFile.Reader.runAt ClassFile.Decoder.instr
  show Except.bind (Except.bind ((ClassFile.Reader.u1 : ClassFile.Decoder Nat) c p) _) _ = _
  rw [e]
  rfl
set_option maxRecDepth 20000 in
theorem dw_5 {c : ByteArray} {p : Nat} (h : bA c p 5) : decode c p = .ok ((.iconst 2), 1) := by
  have e := u1_run h
  rw [← pl_1 p]
  unfold decode ClassFile.Reader.runAt ClassFile.Decoder.instr
  show Except.bind (Except.bind ((ClassFile.Reader.u1 : ClassFile.Decoder Nat) c p) _) _ = _
  rw [e]
  rfl
set_option maxRecDepth 20000 in
theorem dw_6 {c : ByteArray} {p : Nat} (h : bA c p 6) : decode c p = .ok ((.iconst 3), 1) := by
  have e := u1_run h
  rw [← pl_1 p]
  unfold decode ClassFile.Reader.runAt ClassFile.Decoder.instr
  show Except.bind (Except.bind ((ClassFile.Reader.u1 : ClassFile.Decoder Nat) c p) _) _ = _
  rw [e]
  rfl
set_option maxRecDepth 20000 in
theorem dw_7 {c : ByteArray} {p : Nat} (h : bA c p 7) : decode c p = .ok ((.iconst 4), 1) := by
  have e := u1_run h
  rw [← pl_1 p]
  unfold decode ClassFile.Reader.runAt ClassFile.Decoder.instr
  show Except.bind (Except.bind ((ClassFile.Reader.u1 : ClassFile.Decoder Nat) c p) _) _ = _
  rw [e]
  rfl
set_option maxRecDepth 20000 in
theorem dw_8 {c : ByteArray} {p : Nat} (h : bA c p 8) : decode c p = .ok ((.iconst 5), 1) := by
  have e := u1_run h
  rw [← pl_1 p]
  unfold decode ClassFile.Reader.runAt ClassFile.Decoder.instr
  show Except.bind (Except.bind ((ClassFile.Reader.u1 : ClassFile.Decoder Nat) c p) _) _ = _
  rw [e]
  rfl
set_option maxRecDepth 20000 in
theorem dw_26 {c : ByteArray} {p : Nat} (h : bA c p 26) : decode c p = .ok ((.iload_n 0), 1) := by
  have e := u1_run h
  rw [← pl_1 p]
  unfold decode ClassFile.Reader.runAt ClassFile.Decoder.instr
  show Except.bind (Except.bind ((ClassFile.Reader.u1 : ClassFile.Decoder Nat) c p) _) _ = _
  rw [e]
  rfl
set_option maxRecDepth 20000 in
theorem dw_27 {c : ByteArray} {p : Nat} (h : bA c p 27) : decode c p = .ok ((.iload_n 1), 1) := by
  have e := u1_run h
  rw [← pl_1 p]
  unfold decode ClassFile.Reader.runAt ClassFile.Decoder.instr
  show Except.bind (Except.bind ((ClassFile.Reader.u1 : ClassFile.Decoder Nat) c p) _) _ = _
  rw [e]
  rfl
set_option maxRecDepth 20000 in
theorem dw_28 {c : ByteArray} {p : Nat} (h : bA c p 28) : decode c p = .ok ((.iload_n 2), 1) := by
  have e := u1_run h
  rw [← pl_1 p]
  unfold decode ClassFile.Reader.runAt ClassFile.Decoder.instr
  show Except.bind (Except.bind ((ClassFile.Reader.u1 : ClassFile.Decoder Nat) c p) _) _ = _
  rw [e]
  rfl
set_option maxRecDepth 20000 in
theorem dw_29 {c : ByteArray} {p : Nat} (h : bA c p 29) : decode c p = .ok ((.iload_n 3), 1) := by
  have e := u1_run h
  rw [← pl_1 p]
  unfold decode ClassFile.Reader.runAt ClassFile.Decoder.instr
  show Except.bind (Except.bind ((ClassFile.Reader.u1 : ClassFile.Decoder Nat) c p) _) _ = _
  rw [e]
  rfl
set_option maxRecDepth 20000 in
theorem dw_33 {c : ByteArray} {p : Nat} (h : bA c p 33) : decode c p = .ok ((.lload_n 3), 1) := by
  have e := u1_run h
  rw [← pl_1 p]
  unfold decode ClassFile.Reader.runAt ClassFile.Decoder.instr
  show Except.bind (Except.bind ((ClassFile.Reader.u1 : ClassFile.Decoder Nat) c p) _) _ = _
  rw [e]
  rfl
set_option maxRecDepth 20000 in
theorem dw_42 {c : ByteArray} {p : Nat} (h : bA c p 42) : decode c p = .ok ((.aload_n 0), 1) := by
  have e := u1_run h
  rw [← pl_1 p]
  unfold decode ClassFile.Reader.runAt ClassFile.Decoder.instr
  show Except.bind (Except.bind ((ClassFile.Reader.u1 : ClassFile.Decoder Nat) c p) _) _ = _
  rw [e]
  rfl
set_option maxRecDepth 20000 in
theorem dw_43 {c : ByteArray} {p : Nat} (h : bA c p 43) : decode c p = .ok ((.aload_n 1), 1) := by
  have e := u1_run h
  rw [← pl_1 p]
  unfold decode ClassFile.Reader.runAt ClassFile.Decoder.instr
  show Except.bind (Except.bind ((ClassFile.Reader.u1 : ClassFile.Decoder Nat) c p) _) _ = _
  rw [e]
  rfl
set_option maxRecDepth 20000 in
theorem dw_44 {c : ByteArray} {p : Nat} (h : bA c p 44) : decode c p = .ok ((.aload_n 2), 1) := by
  have e := u1_run h
  rw [← pl_1 p]
  unfold decode ClassFile.Reader.runAt ClassFile.Decoder.instr
  show Except.bind (Except.bind ((ClassFile.Reader.u1 : ClassFile.Decoder Nat) c p) _) _ = _
  rw [e]
  rfl
set_option maxRecDepth 20000 in
theorem dw_45 {c : ByteArray} {p : Nat} (h : bA c p 45) : decode c p = .ok ((.aload_n 3), 1) := by
  have e := u1_run h
  rw [← pl_1 p]
  unfold decode ClassFile.Reader.runAt ClassFile.Decoder.instr
  show Except.bind (Except.bind ((ClassFile.Reader.u1 : ClassFile.Decoder Nat) c p) _) _ = _
  rw [e]
  rfl
set_option maxRecDepth 20000 in
theorem dw_46 {c : ByteArray} {p : Nat} (h : bA c p 46) : decode c p = .ok (.iaload, 1) := by
  have e := u1_run h
  rw [← pl_1 p]
  unfold decode ClassFile.Reader.runAt ClassFile.Decoder.instr
  show Except.bind (Except.bind ((ClassFile.Reader.u1 : ClassFile.Decoder Nat) c p) _) _ = _
  rw [e]
  rfl
set_option maxRecDepth 20000 in
theorem dw_50 {c : ByteArray} {p : Nat} (h : bA c p 50) : decode c p = .ok (.aaload, 1) := by
  have e := u1_run h
  rw [← pl_1 p]
  unfold decode ClassFile.Reader.runAt ClassFile.Decoder.instr
  show Except.bind (Except.bind ((ClassFile.Reader.u1 : ClassFile.Decoder Nat) c p) _) _ = _
  rw [e]
  rfl
set_option maxRecDepth 20000 in
theorem dw_51 {c : ByteArray} {p : Nat} (h : bA c p 51) : decode c p = .ok (.baload, 1) := by
  have e := u1_run h
  rw [← pl_1 p]
  unfold decode ClassFile.Reader.runAt ClassFile.Decoder.instr
  show Except.bind (Except.bind ((ClassFile.Reader.u1 : ClassFile.Decoder Nat) c p) _) _ = _
  rw [e]
  rfl
set_option maxRecDepth 20000 in
theorem dw_60 {c : ByteArray} {p : Nat} (h : bA c p 60) : decode c p = .ok ((.istore_n 1), 1) := by
  have e := u1_run h
  rw [← pl_1 p]
  unfold decode ClassFile.Reader.runAt ClassFile.Decoder.instr
  show Except.bind (Except.bind ((ClassFile.Reader.u1 : ClassFile.Decoder Nat) c p) _) _ = _
  rw [e]
  rfl
set_option maxRecDepth 20000 in
theorem dw_61 {c : ByteArray} {p : Nat} (h : bA c p 61) : decode c p = .ok ((.istore_n 2), 1) := by
  have e := u1_run h
  rw [← pl_1 p]
  unfold decode ClassFile.Reader.runAt ClassFile.Decoder.instr
  show Except.bind (Except.bind ((ClassFile.Reader.u1 : ClassFile.Decoder Nat) c p) _) _ = _
  rw [e]
  rfl
set_option maxRecDepth 20000 in
theorem dw_62 {c : ByteArray} {p : Nat} (h : bA c p 62) : decode c p = .ok ((.istore_n 3), 1) := by
  have e := u1_run h
  rw [← pl_1 p]
  unfold decode ClassFile.Reader.runAt ClassFile.Decoder.instr
  show Except.bind (Except.bind ((ClassFile.Reader.u1 : ClassFile.Decoder Nat) c p) _) _ = _
  rw [e]
  rfl
set_option maxRecDepth 20000 in
theorem dw_66 {c : ByteArray} {p : Nat} (h : bA c p 66) : decode c p = .ok ((.lstore_n 3), 1) := by
  have e := u1_run h
  rw [← pl_1 p]
  unfold decode ClassFile.Reader.runAt ClassFile.Decoder.instr
  show Except.bind (Except.bind ((ClassFile.Reader.u1 : ClassFile.Decoder Nat) c p) _) _ = _
  rw [e]
  rfl
set_option maxRecDepth 20000 in
theorem dw_76 {c : ByteArray} {p : Nat} (h : bA c p 76) : decode c p = .ok ((.astore_n 1), 1) := by
  have e := u1_run h
  rw [← pl_1 p]
  unfold decode ClassFile.Reader.runAt ClassFile.Decoder.instr
  show Except.bind (Except.bind ((ClassFile.Reader.u1 : ClassFile.Decoder Nat) c p) _) _ = _
  rw [e]
  rfl
set_option maxRecDepth 20000 in
theorem dw_77 {c : ByteArray} {p : Nat} (h : bA c p 77) : decode c p = .ok ((.astore_n 2), 1) := by
  have e := u1_run h
  rw [← pl_1 p]
  unfold decode ClassFile.Reader.runAt ClassFile.Decoder.instr
  show Except.bind (Except.bind ((ClassFile.Reader.u1 : ClassFile.Decoder Nat) c p) _) _ = _
  rw [e]
  rfl
set_option maxRecDepth 20000 in
theorem dw_79 {c : ByteArray} {p : Nat} (h : bA c p 79) : decode c p = .ok (.iastore, 1) := by
  have e := u1_run h
  rw [← pl_1 p]
  unfold decode ClassFile.Reader.runAt ClassFile.Decoder.instr
  show Except.bind (Except.bind ((ClassFile.Reader.u1 : ClassFile.Decoder Nat) c p) _) _ = _
  rw [e]
  rfl
set_option maxRecDepth 20000 in
theorem dw_83 {c : ByteArray} {p : Nat} (h : bA c p 83) : decode c p = .ok (.aastore, 1) := by
  have e := u1_run h
  rw [← pl_1 p]
  unfold decode ClassFile.Reader.runAt ClassFile.Decoder.instr
  show Except.bind (Except.bind ((ClassFile.Reader.u1 : ClassFile.Decoder Nat) c p) _) _ = _
  rw [e]
  rfl
set_option maxRecDepth 20000 in
theorem dw_84 {c : ByteArray} {p : Nat} (h : bA c p 84) : decode c p = .ok (.bastore, 1) := by
  have e := u1_run h
  rw [← pl_1 p]
  unfold decode ClassFile.Reader.runAt ClassFile.Decoder.instr
  show Except.bind (Except.bind ((ClassFile.Reader.u1 : ClassFile.Decoder Nat) c p) _) _ = _
  rw [e]
  rfl
set_option maxRecDepth 20000 in
theorem dw_87 {c : ByteArray} {p : Nat} (h : bA c p 87) : decode c p = .ok (.pop, 1) := by
  have e := u1_run h
  rw [← pl_1 p]
  unfold decode ClassFile.Reader.runAt ClassFile.Decoder.instr
  show Except.bind (Except.bind ((ClassFile.Reader.u1 : ClassFile.Decoder Nat) c p) _) _ = _
  rw [e]
  rfl
set_option maxRecDepth 20000 in
theorem dw_89 {c : ByteArray} {p : Nat} (h : bA c p 89) : decode c p = .ok (.dup, 1) := by
  have e := u1_run h
  rw [← pl_1 p]
  unfold decode ClassFile.Reader.runAt ClassFile.Decoder.instr
  show Except.bind (Except.bind ((ClassFile.Reader.u1 : ClassFile.Decoder Nat) c p) _) _ = _
  rw [e]
  rfl
set_option maxRecDepth 20000 in
theorem dw_92 {c : ByteArray} {p : Nat} (h : bA c p 92) : decode c p = .ok (.dup2, 1) := by
  have e := u1_run h
  rw [← pl_1 p]
  unfold decode ClassFile.Reader.runAt ClassFile.Decoder.instr
  show Except.bind (Except.bind ((ClassFile.Reader.u1 : ClassFile.Decoder Nat) c p) _) _ = _
  rw [e]
  rfl
set_option maxRecDepth 20000 in
theorem dw_96 {c : ByteArray} {p : Nat} (h : bA c p 96) : decode c p = .ok (.iadd, 1) := by
  have e := u1_run h
  rw [← pl_1 p]
  unfold decode ClassFile.Reader.runAt ClassFile.Decoder.instr
  show Except.bind (Except.bind ((ClassFile.Reader.u1 : ClassFile.Decoder Nat) c p) _) _ = _
  rw [e]
  rfl
set_option maxRecDepth 20000 in
theorem dw_97 {c : ByteArray} {p : Nat} (h : bA c p 97) : decode c p = .ok (.ladd, 1) := by
  have e := u1_run h
  rw [← pl_1 p]
  unfold decode ClassFile.Reader.runAt ClassFile.Decoder.instr
  show Except.bind (Except.bind ((ClassFile.Reader.u1 : ClassFile.Decoder Nat) c p) _) _ = _
  rw [e]
  rfl
set_option maxRecDepth 20000 in
theorem dw_100 {c : ByteArray} {p : Nat} (h : bA c p 100) : decode c p = .ok (.isub, 1) := by
  have e := u1_run h
  rw [← pl_1 p]
  unfold decode ClassFile.Reader.runAt ClassFile.Decoder.instr
  show Except.bind (Except.bind ((ClassFile.Reader.u1 : ClassFile.Decoder Nat) c p) _) _ = _
  rw [e]
  rfl
set_option maxRecDepth 20000 in
theorem dw_101 {c : ByteArray} {p : Nat} (h : bA c p 101) : decode c p = .ok (.lsub, 1) := by
  have e := u1_run h
  rw [← pl_1 p]
  unfold decode ClassFile.Reader.runAt ClassFile.Decoder.instr
  show Except.bind (Except.bind ((ClassFile.Reader.u1 : ClassFile.Decoder Nat) c p) _) _ = _
  rw [e]
  rfl
set_option maxRecDepth 20000 in
theorem dw_104 {c : ByteArray} {p : Nat} (h : bA c p 104) : decode c p = .ok (.imul, 1) := by
  have e := u1_run h
  rw [← pl_1 p]
  unfold decode ClassFile.Reader.runAt ClassFile.Decoder.instr
  show Except.bind (Except.bind ((ClassFile.Reader.u1 : ClassFile.Decoder Nat) c p) _) _ = _
  rw [e]
  rfl
set_option maxRecDepth 20000 in
theorem dw_105 {c : ByteArray} {p : Nat} (h : bA c p 105) : decode c p = .ok (.lmul, 1) := by
  have e := u1_run h
  rw [← pl_1 p]
  unfold decode ClassFile.Reader.runAt ClassFile.Decoder.instr
  show Except.bind (Except.bind ((ClassFile.Reader.u1 : ClassFile.Decoder Nat) c p) _) _ = _
  rw [e]
  rfl
set_option maxRecDepth 20000 in
theorem dw_108 {c : ByteArray} {p : Nat} (h : bA c p 108) : decode c p = .ok (.idiv, 1) := by
  have e := u1_run h
  rw [← pl_1 p]
  unfold decode ClassFile.Reader.runAt ClassFile.Decoder.instr
  show Except.bind (Except.bind ((ClassFile.Reader.u1 : ClassFile.Decoder Nat) c p) _) _ = _
  rw [e]
  rfl
set_option maxRecDepth 20000 in
theorem dw_109 {c : ByteArray} {p : Nat} (h : bA c p 109) : decode c p = .ok (.ldiv, 1) := by
  have e := u1_run h
  rw [← pl_1 p]
  unfold decode ClassFile.Reader.runAt ClassFile.Decoder.instr
  show Except.bind (Except.bind ((ClassFile.Reader.u1 : ClassFile.Decoder Nat) c p) _) _ = _
  rw [e]
  rfl
set_option maxRecDepth 20000 in
theorem dw_112 {c : ByteArray} {p : Nat} (h : bA c p 112) : decode c p = .ok (.irem, 1) := by
  have e := u1_run h
  rw [← pl_1 p]
  unfold decode ClassFile.Reader.runAt ClassFile.Decoder.instr
  show Except.bind (Except.bind ((ClassFile.Reader.u1 : ClassFile.Decoder Nat) c p) _) _ = _
  rw [e]
  rfl
set_option maxRecDepth 20000 in
theorem dw_116 {c : ByteArray} {p : Nat} (h : bA c p 116) : decode c p = .ok (.ineg, 1) := by
  have e := u1_run h
  rw [← pl_1 p]
  unfold decode ClassFile.Reader.runAt ClassFile.Decoder.instr
  show Except.bind (Except.bind ((ClassFile.Reader.u1 : ClassFile.Decoder Nat) c p) _) _ = _
  rw [e]
  rfl
set_option maxRecDepth 20000 in
theorem dw_120 {c : ByteArray} {p : Nat} (h : bA c p 120) : decode c p = .ok (.ishl, 1) := by
  have e := u1_run h
  rw [← pl_1 p]
  unfold decode ClassFile.Reader.runAt ClassFile.Decoder.instr
  show Except.bind (Except.bind ((ClassFile.Reader.u1 : ClassFile.Decoder Nat) c p) _) _ = _
  rw [e]
  rfl
set_option maxRecDepth 20000 in
theorem dw_122 {c : ByteArray} {p : Nat} (h : bA c p 122) : decode c p = .ok (.ishr, 1) := by
  have e := u1_run h
  rw [← pl_1 p]
  unfold decode ClassFile.Reader.runAt ClassFile.Decoder.instr
  show Except.bind (Except.bind ((ClassFile.Reader.u1 : ClassFile.Decoder Nat) c p) _) _ = _
  rw [e]
  rfl
set_option maxRecDepth 20000 in
theorem dw_126 {c : ByteArray} {p : Nat} (h : bA c p 126) : decode c p = .ok (.iand, 1) := by
  have e := u1_run h
  rw [← pl_1 p]
  unfold decode ClassFile.Reader.runAt ClassFile.Decoder.instr
  show Except.bind (Except.bind ((ClassFile.Reader.u1 : ClassFile.Decoder Nat) c p) _) _ = _
  rw [e]
  rfl
set_option maxRecDepth 20000 in
theorem dw_128 {c : ByteArray} {p : Nat} (h : bA c p 128) : decode c p = .ok (.ior, 1) := by
  have e := u1_run h
  rw [← pl_1 p]
  unfold decode ClassFile.Reader.runAt ClassFile.Decoder.instr
  show Except.bind (Except.bind ((ClassFile.Reader.u1 : ClassFile.Decoder Nat) c p) _) _ = _
  rw [e]
  rfl
set_option maxRecDepth 20000 in
theorem dw_130 {c : ByteArray} {p : Nat} (h : bA c p 130) : decode c p = .ok (.ixor, 1) := by
  have e := u1_run h
  rw [← pl_1 p]
  unfold decode ClassFile.Reader.runAt ClassFile.Decoder.instr
  show Except.bind (Except.bind ((ClassFile.Reader.u1 : ClassFile.Decoder Nat) c p) _) _ = _
  rw [e]
  rfl
set_option maxRecDepth 20000 in
theorem dw_133 {c : ByteArray} {p : Nat} (h : bA c p 133) : decode c p = .ok (.i2l, 1) := by
  have e := u1_run h
  rw [← pl_1 p]
  unfold decode ClassFile.Reader.runAt ClassFile.Decoder.instr
  show Except.bind (Except.bind ((ClassFile.Reader.u1 : ClassFile.Decoder Nat) c p) _) _ = _
  rw [e]
  rfl
set_option maxRecDepth 20000 in
theorem dw_136 {c : ByteArray} {p : Nat} (h : bA c p 136) : decode c p = .ok (.l2i, 1) := by
  have e := u1_run h
  rw [← pl_1 p]
  unfold decode ClassFile.Reader.runAt ClassFile.Decoder.instr
  show Except.bind (Except.bind ((ClassFile.Reader.u1 : ClassFile.Decoder Nat) c p) _) _ = _
  rw [e]
  rfl
set_option maxRecDepth 20000 in
theorem dw_172 {c : ByteArray} {p : Nat} (h : bA c p 172) : decode c p = .ok (.ireturn, 1) := by
  have e := u1_run h
  rw [← pl_1 p]
  unfold decode ClassFile.Reader.runAt ClassFile.Decoder.instr
  show Except.bind (Except.bind ((ClassFile.Reader.u1 : ClassFile.Decoder Nat) c p) _) _ = _
  rw [e]
  rfl
set_option maxRecDepth 20000 in
theorem dw_177 {c : ByteArray} {p : Nat} (h : bA c p 177) : decode c p = .ok (.return_, 1) := by
  have e := u1_run h
  rw [← pl_1 p]
  unfold decode ClassFile.Reader.runAt ClassFile.Decoder.instr
  show Except.bind (Except.bind ((ClassFile.Reader.u1 : ClassFile.Decoder Nat) c p) _) _ = _
  rw [e]
  rfl
set_option maxRecDepth 20000 in
theorem dw_190 {c : ByteArray} {p : Nat} (h : bA c p 190) : decode c p = .ok (.arraylength, 1) := by
  have e := u1_run h
  rw [← pl_1 p]
  unfold decode ClassFile.Reader.runAt ClassFile.Decoder.instr
  show Except.bind (Except.bind ((ClassFile.Reader.u1 : ClassFile.Decoder Nat) c p) _) _ = _
  rw [e]
  rfl
set_option maxRecDepth 20000 in
theorem dw_18 {c : ByteArray} {p a : Nat} (h : bA c p 18) (h1 : bA c (p + 1) a) : decode c p = .ok (.ldc a, 2) := by
  have e := u1_run h
  rw [← pl_2 p]
  unfold decode ClassFile.Reader.runAt ClassFile.Decoder.instr
  show Except.bind (Except.bind ((ClassFile.Reader.u1 : ClassFile.Decoder Nat) c p) _) _ = _
  rw [e]
  show Except.bind (Except.bind ((ClassFile.Reader.u1 : ClassFile.Decoder Nat) c (p + 1)) _) _ = _
  rw [u1_run h1]
  rfl
set_option maxRecDepth 20000 in
theorem dw_21 {c : ByteArray} {p a : Nat} (h : bA c p 21) (h1 : bA c (p + 1) a) : decode c p = .ok (.iload a, 2) := by
  have e := u1_run h
  rw [← pl_2 p]
  unfold decode ClassFile.Reader.runAt ClassFile.Decoder.instr
  show Except.bind (Except.bind ((ClassFile.Reader.u1 : ClassFile.Decoder Nat) c p) _) _ = _
  rw [e]
  show Except.bind (Except.bind ((ClassFile.Reader.u1 : ClassFile.Decoder Nat) c (p + 1)) _) _ = _
  rw [u1_run h1]
  rfl
set_option maxRecDepth 20000 in
theorem dw_22 {c : ByteArray} {p a : Nat} (h : bA c p 22) (h1 : bA c (p + 1) a) : decode c p = .ok (.lload a, 2) := by
  have e := u1_run h
  rw [← pl_2 p]
  unfold decode ClassFile.Reader.runAt ClassFile.Decoder.instr
  show Except.bind (Except.bind ((ClassFile.Reader.u1 : ClassFile.Decoder Nat) c p) _) _ = _
  rw [e]
  show Except.bind (Except.bind ((ClassFile.Reader.u1 : ClassFile.Decoder Nat) c (p + 1)) _) _ = _
  rw [u1_run h1]
  rfl
set_option maxRecDepth 20000 in
theorem dw_25 {c : ByteArray} {p a : Nat} (h : bA c p 25) (h1 : bA c (p + 1) a) : decode c p = .ok (.aload a, 2) := by
  have e := u1_run h
  rw [← pl_2 p]
  unfold decode ClassFile.Reader.runAt ClassFile.Decoder.instr
  show Except.bind (Except.bind ((ClassFile.Reader.u1 : ClassFile.Decoder Nat) c p) _) _ = _
  rw [e]
  show Except.bind (Except.bind ((ClassFile.Reader.u1 : ClassFile.Decoder Nat) c (p + 1)) _) _ = _
  rw [u1_run h1]
  rfl
set_option maxRecDepth 20000 in
theorem dw_54 {c : ByteArray} {p a : Nat} (h : bA c p 54) (h1 : bA c (p + 1) a) : decode c p = .ok (.istore a, 2) := by
  have e := u1_run h
  rw [← pl_2 p]
  unfold decode ClassFile.Reader.runAt ClassFile.Decoder.instr
  show Except.bind (Except.bind ((ClassFile.Reader.u1 : ClassFile.Decoder Nat) c p) _) _ = _
  rw [e]
  show Except.bind (Except.bind ((ClassFile.Reader.u1 : ClassFile.Decoder Nat) c (p + 1)) _) _ = _
  rw [u1_run h1]
  rfl
set_option maxRecDepth 20000 in
theorem dw_55 {c : ByteArray} {p a : Nat} (h : bA c p 55) (h1 : bA c (p + 1) a) : decode c p = .ok (.lstore a, 2) := by
  have e := u1_run h
  rw [← pl_2 p]
  unfold decode ClassFile.Reader.runAt ClassFile.Decoder.instr
  show Except.bind (Except.bind ((ClassFile.Reader.u1 : ClassFile.Decoder Nat) c p) _) _ = _
  rw [e]
  show Except.bind (Except.bind ((ClassFile.Reader.u1 : ClassFile.Decoder Nat) c (p + 1)) _) _ = _
  rw [u1_run h1]
  rfl
set_option maxRecDepth 20000 in
theorem dw_58 {c : ByteArray} {p a : Nat} (h : bA c p 58) (h1 : bA c (p + 1) a) : decode c p = .ok (.astore a, 2) := by
  have e := u1_run h
  rw [← pl_2 p]
  unfold decode ClassFile.Reader.runAt ClassFile.Decoder.instr
  show Except.bind (Except.bind ((ClassFile.Reader.u1 : ClassFile.Decoder Nat) c p) _) _ = _
  rw [e]
  show Except.bind (Except.bind ((ClassFile.Reader.u1 : ClassFile.Decoder Nat) c (p + 1)) _) _ = _
  rw [u1_run h1]
  rfl
set_option maxRecDepth 20000 in
theorem dw_16 {c : ByteArray} {p a : Nat} {n : Int} (h : bA c p 16) (h1 : bA c (p + 1) a) (en : ClassFile.Reader.signed 8 a = n) : decode c p = .ok (.bipush n, 2) := by
  subst en
  have e := u1_run h
  rw [← pl_2 p]
  unfold decode ClassFile.Reader.runAt ClassFile.Decoder.instr
  show Except.bind (Except.bind ((ClassFile.Reader.u1 : ClassFile.Decoder Nat) c p) _) _ = _
  rw [e]
  show Except.bind (Except.bind ((ClassFile.Reader.s1 : ClassFile.Decoder Int) c (p + 1)) _) _ = _
  rw [s1_run h1]
  rfl
set_option maxRecDepth 20000 in
theorem dw_20 {c : ByteArray} {p a b n : Nat} (h : bA c p 20) (h1 : bA c (p + 1) a) (h2 : bA c (p + 1 + 1) b) (en : a * 256 + b = n) : decode c p = .ok (.ldc2_w n, 3) := by
  subst en
  have e := u1_run h
  rw [← pl_3 p]
  unfold decode ClassFile.Reader.runAt ClassFile.Decoder.instr
  show Except.bind (Except.bind ((ClassFile.Reader.u1 : ClassFile.Decoder Nat) c p) _) _ = _
  rw [e]
  show Except.bind (Except.bind ((ClassFile.Reader.u2 : ClassFile.Decoder Nat) c (p + 1)) _) _ = _
  rw [u2_run h1 h2]
  rfl
set_option maxRecDepth 20000 in
theorem dw_178 {c : ByteArray} {p a b n : Nat} (h : bA c p 178) (h1 : bA c (p + 1) a) (h2 : bA c (p + 1 + 1) b) (en : a * 256 + b = n) : decode c p = .ok (.getstatic n, 3) := by
  subst en
  have e := u1_run h
  rw [← pl_3 p]
  unfold decode ClassFile.Reader.runAt ClassFile.Decoder.instr
  show Except.bind (Except.bind ((ClassFile.Reader.u1 : ClassFile.Decoder Nat) c p) _) _ = _
  rw [e]
  show Except.bind (Except.bind ((ClassFile.Reader.u2 : ClassFile.Decoder Nat) c (p + 1)) _) _ = _
  rw [u2_run h1 h2]
  rfl
set_option maxRecDepth 20000 in
theorem dw_180 {c : ByteArray} {p a b n : Nat} (h : bA c p 180) (h1 : bA c (p + 1) a) (h2 : bA c (p + 1 + 1) b) (en : a * 256 + b = n) : decode c p = .ok (.getfield n, 3) := by
  subst en
  have e := u1_run h
  rw [← pl_3 p]
  unfold decode ClassFile.Reader.runAt ClassFile.Decoder.instr
  show Except.bind (Except.bind ((ClassFile.Reader.u1 : ClassFile.Decoder Nat) c p) _) _ = _
  rw [e]
  show Except.bind (Except.bind ((ClassFile.Reader.u2 : ClassFile.Decoder Nat) c (p + 1)) _) _ = _
  rw [u2_run h1 h2]
  rfl
set_option maxRecDepth 20000 in
theorem dw_181 {c : ByteArray} {p a b n : Nat} (h : bA c p 181) (h1 : bA c (p + 1) a) (h2 : bA c (p + 1 + 1) b) (en : a * 256 + b = n) : decode c p = .ok (.putfield n, 3) := by
  subst en
  have e := u1_run h
  rw [← pl_3 p]
  unfold decode ClassFile.Reader.runAt ClassFile.Decoder.instr
  show Except.bind (Except.bind ((ClassFile.Reader.u1 : ClassFile.Decoder Nat) c p) _) _ = _
  rw [e]
  show Except.bind (Except.bind ((ClassFile.Reader.u2 : ClassFile.Decoder Nat) c (p + 1)) _) _ = _
  rw [u2_run h1 h2]
  rfl
set_option maxRecDepth 20000 in
theorem dw_182 {c : ByteArray} {p a b n : Nat} (h : bA c p 182) (h1 : bA c (p + 1) a) (h2 : bA c (p + 1 + 1) b) (en : a * 256 + b = n) : decode c p = .ok (.invokevirtual n, 3) := by
  subst en
  have e := u1_run h
  rw [← pl_3 p]
  unfold decode ClassFile.Reader.runAt ClassFile.Decoder.instr
  show Except.bind (Except.bind ((ClassFile.Reader.u1 : ClassFile.Decoder Nat) c p) _) _ = _
  rw [e]
  show Except.bind (Except.bind ((ClassFile.Reader.u2 : ClassFile.Decoder Nat) c (p + 1)) _) _ = _
  rw [u2_run h1 h2]
  rfl
set_option maxRecDepth 20000 in
theorem dw_183 {c : ByteArray} {p a b n : Nat} (h : bA c p 183) (h1 : bA c (p + 1) a) (h2 : bA c (p + 1 + 1) b) (en : a * 256 + b = n) : decode c p = .ok (.invokespecial n, 3) := by
  subst en
  have e := u1_run h
  rw [← pl_3 p]
  unfold decode ClassFile.Reader.runAt ClassFile.Decoder.instr
  show Except.bind (Except.bind ((ClassFile.Reader.u1 : ClassFile.Decoder Nat) c p) _) _ = _
  rw [e]
  show Except.bind (Except.bind ((ClassFile.Reader.u2 : ClassFile.Decoder Nat) c (p + 1)) _) _ = _
  rw [u2_run h1 h2]
  rfl
set_option maxRecDepth 20000 in
theorem dw_184 {c : ByteArray} {p a b n : Nat} (h : bA c p 184) (h1 : bA c (p + 1) a) (h2 : bA c (p + 1 + 1) b) (en : a * 256 + b = n) : decode c p = .ok (.invokestatic n, 3) := by
  subst en
  have e := u1_run h
  rw [← pl_3 p]
  unfold decode ClassFile.Reader.runAt ClassFile.Decoder.instr
  show Except.bind (Except.bind ((ClassFile.Reader.u1 : ClassFile.Decoder Nat) c p) _) _ = _
  rw [e]
  show Except.bind (Except.bind ((ClassFile.Reader.u2 : ClassFile.Decoder Nat) c (p + 1)) _) _ = _
  rw [u2_run h1 h2]
  rfl
set_option maxRecDepth 20000 in
theorem dw_187 {c : ByteArray} {p a b n : Nat} (h : bA c p 187) (h1 : bA c (p + 1) a) (h2 : bA c (p + 1 + 1) b) (en : a * 256 + b = n) : decode c p = .ok (.new n, 3) := by
  subst en
  have e := u1_run h
  rw [← pl_3 p]
  unfold decode ClassFile.Reader.runAt ClassFile.Decoder.instr
  show Except.bind (Except.bind ((ClassFile.Reader.u1 : ClassFile.Decoder Nat) c p) _) _ = _
  rw [e]
  show Except.bind (Except.bind ((ClassFile.Reader.u2 : ClassFile.Decoder Nat) c (p + 1)) _) _ = _
  rw [u2_run h1 h2]
  rfl
set_option maxRecDepth 20000 in
theorem dw_189 {c : ByteArray} {p a b n : Nat} (h : bA c p 189) (h1 : bA c (p + 1) a) (h2 : bA c (p + 1 + 1) b) (en : a * 256 + b = n) : decode c p = .ok (.anewarray n, 3) := by
  subst en
  have e := u1_run h
  rw [← pl_3 p]
  unfold decode ClassFile.Reader.runAt ClassFile.Decoder.instr
  show Except.bind (Except.bind ((ClassFile.Reader.u1 : ClassFile.Decoder Nat) c p) _) _ = _
  rw [e]
  show Except.bind (Except.bind ((ClassFile.Reader.u2 : ClassFile.Decoder Nat) c (p + 1)) _) _ = _
  rw [u2_run h1 h2]
  rfl
set_option maxRecDepth 20000 in
theorem dw_17 {c : ByteArray} {p a b : Nat} {n : Int} (h : bA c p 17) (h1 : bA c (p + 1) a) (h2 : bA c (p + 1 + 1) b) (en : ClassFile.Reader.signed 16 (a * 256 + b) = n) : decode c p = .ok (.sipush n, 3) := by
  subst en
  have e := u1_run h
  rw [← pl_3 p]
  unfold decode ClassFile.Reader.runAt ClassFile.Decoder.instr
  show Except.bind (Except.bind ((ClassFile.Reader.u1 : ClassFile.Decoder Nat) c p) _) _ = _
  rw [e]
  show Except.bind (Except.bind ((ClassFile.Reader.s2 : ClassFile.Decoder Int) c (p + 1)) _) _ = _
  rw [s2_run h1 h2]
  rfl
set_option maxRecDepth 20000 in
theorem dw_153 {c : ByteArray} {p a b : Nat} {n : Int} (h : bA c p 153) (h1 : bA c (p + 1) a) (h2 : bA c (p + 1 + 1) b) (en : ClassFile.Reader.signed 16 (a * 256 + b) = n) : decode c p = .ok (.ifCond .eq n, 3) := by
  subst en
  have e := u1_run h
  rw [← pl_3 p]
  unfold decode ClassFile.Reader.runAt ClassFile.Decoder.instr
  show Except.bind (Except.bind ((ClassFile.Reader.u1 : ClassFile.Decoder Nat) c p) _) _ = _
  rw [e]
  show Except.bind (Except.bind ((ClassFile.Reader.s2 : ClassFile.Decoder Int) c (p + 1)) _) _ = _
  rw [s2_run h1 h2]
  rfl
set_option maxRecDepth 20000 in
theorem dw_154 {c : ByteArray} {p a b : Nat} {n : Int} (h : bA c p 154) (h1 : bA c (p + 1) a) (h2 : bA c (p + 1 + 1) b) (en : ClassFile.Reader.signed 16 (a * 256 + b) = n) : decode c p = .ok (.ifCond .ne n, 3) := by
  subst en
  have e := u1_run h
  rw [← pl_3 p]
  unfold decode ClassFile.Reader.runAt ClassFile.Decoder.instr
  show Except.bind (Except.bind ((ClassFile.Reader.u1 : ClassFile.Decoder Nat) c p) _) _ = _
  rw [e]
  show Except.bind (Except.bind ((ClassFile.Reader.s2 : ClassFile.Decoder Int) c (p + 1)) _) _ = _
  rw [s2_run h1 h2]
  rfl
set_option maxRecDepth 20000 in
theorem dw_155 {c : ByteArray} {p a b : Nat} {n : Int} (h : bA c p 155) (h1 : bA c (p + 1) a) (h2 : bA c (p + 1 + 1) b) (en : ClassFile.Reader.signed 16 (a * 256 + b) = n) : decode c p = .ok (.ifCond .lt n, 3) := by
  subst en
  have e := u1_run h
  rw [← pl_3 p]
  unfold decode ClassFile.Reader.runAt ClassFile.Decoder.instr
  show Except.bind (Except.bind ((ClassFile.Reader.u1 : ClassFile.Decoder Nat) c p) _) _ = _
  rw [e]
  show Except.bind (Except.bind ((ClassFile.Reader.s2 : ClassFile.Decoder Int) c (p + 1)) _) _ = _
  rw [s2_run h1 h2]
  rfl
set_option maxRecDepth 20000 in
theorem dw_156 {c : ByteArray} {p a b : Nat} {n : Int} (h : bA c p 156) (h1 : bA c (p + 1) a) (h2 : bA c (p + 1 + 1) b) (en : ClassFile.Reader.signed 16 (a * 256 + b) = n) : decode c p = .ok (.ifCond .ge n, 3) := by
  subst en
  have e := u1_run h
  rw [← pl_3 p]
  unfold decode ClassFile.Reader.runAt ClassFile.Decoder.instr
  show Except.bind (Except.bind ((ClassFile.Reader.u1 : ClassFile.Decoder Nat) c p) _) _ = _
  rw [e]
  show Except.bind (Except.bind ((ClassFile.Reader.s2 : ClassFile.Decoder Int) c (p + 1)) _) _ = _
  rw [s2_run h1 h2]
  rfl
set_option maxRecDepth 20000 in
theorem dw_157 {c : ByteArray} {p a b : Nat} {n : Int} (h : bA c p 157) (h1 : bA c (p + 1) a) (h2 : bA c (p + 1 + 1) b) (en : ClassFile.Reader.signed 16 (a * 256 + b) = n) : decode c p = .ok (.ifCond .gt n, 3) := by
  subst en
  have e := u1_run h
  rw [← pl_3 p]
  unfold decode ClassFile.Reader.runAt ClassFile.Decoder.instr
  show Except.bind (Except.bind ((ClassFile.Reader.u1 : ClassFile.Decoder Nat) c p) _) _ = _
  rw [e]
  show Except.bind (Except.bind ((ClassFile.Reader.s2 : ClassFile.Decoder Int) c (p + 1)) _) _ = _
  rw [s2_run h1 h2]
  rfl
set_option maxRecDepth 20000 in
theorem dw_158 {c : ByteArray} {p a b : Nat} {n : Int} (h : bA c p 158) (h1 : bA c (p + 1) a) (h2 : bA c (p + 1 + 1) b) (en : ClassFile.Reader.signed 16 (a * 256 + b) = n) : decode c p = .ok (.ifCond .le n, 3) := by
  subst en
  have e := u1_run h
  rw [← pl_3 p]
  unfold decode ClassFile.Reader.runAt ClassFile.Decoder.instr
  show Except.bind (Except.bind ((ClassFile.Reader.u1 : ClassFile.Decoder Nat) c p) _) _ = _
  rw [e]
  show Except.bind (Except.bind ((ClassFile.Reader.s2 : ClassFile.Decoder Int) c (p + 1)) _) _ = _
  rw [s2_run h1 h2]
  rfl
set_option maxRecDepth 20000 in
theorem dw_159 {c : ByteArray} {p a b : Nat} {n : Int} (h : bA c p 159) (h1 : bA c (p + 1) a) (h2 : bA c (p + 1 + 1) b) (en : ClassFile.Reader.signed 16 (a * 256 + b) = n) : decode c p = .ok (.if_icmp .eq n, 3) := by
  subst en
  have e := u1_run h
  rw [← pl_3 p]
  unfold decode ClassFile.Reader.runAt ClassFile.Decoder.instr
  show Except.bind (Except.bind ((ClassFile.Reader.u1 : ClassFile.Decoder Nat) c p) _) _ = _
  rw [e]
  show Except.bind (Except.bind ((ClassFile.Reader.s2 : ClassFile.Decoder Int) c (p + 1)) _) _ = _
  rw [s2_run h1 h2]
  rfl
set_option maxRecDepth 20000 in
theorem dw_160 {c : ByteArray} {p a b : Nat} {n : Int} (h : bA c p 160) (h1 : bA c (p + 1) a) (h2 : bA c (p + 1 + 1) b) (en : ClassFile.Reader.signed 16 (a * 256 + b) = n) : decode c p = .ok (.if_icmp .ne n, 3) := by
  subst en
  have e := u1_run h
  rw [← pl_3 p]
  unfold decode ClassFile.Reader.runAt ClassFile.Decoder.instr
  show Except.bind (Except.bind ((ClassFile.Reader.u1 : ClassFile.Decoder Nat) c p) _) _ = _
  rw [e]
  show Except.bind (Except.bind ((ClassFile.Reader.s2 : ClassFile.Decoder Int) c (p + 1)) _) _ = _
  rw [s2_run h1 h2]
  rfl
set_option maxRecDepth 20000 in
theorem dw_161 {c : ByteArray} {p a b : Nat} {n : Int} (h : bA c p 161) (h1 : bA c (p + 1) a) (h2 : bA c (p + 1 + 1) b) (en : ClassFile.Reader.signed 16 (a * 256 + b) = n) : decode c p = .ok (.if_icmp .lt n, 3) := by
  subst en
  have e := u1_run h
  rw [← pl_3 p]
  unfold decode ClassFile.Reader.runAt ClassFile.Decoder.instr
  show Except.bind (Except.bind ((ClassFile.Reader.u1 : ClassFile.Decoder Nat) c p) _) _ = _
  rw [e]
  show Except.bind (Except.bind ((ClassFile.Reader.s2 : ClassFile.Decoder Int) c (p + 1)) _) _ = _
  rw [s2_run h1 h2]
  rfl
set_option maxRecDepth 20000 in
theorem dw_162 {c : ByteArray} {p a b : Nat} {n : Int} (h : bA c p 162) (h1 : bA c (p + 1) a) (h2 : bA c (p + 1 + 1) b) (en : ClassFile.Reader.signed 16 (a * 256 + b) = n) : decode c p = .ok (.if_icmp .ge n, 3) := by
  subst en
  have e := u1_run h
  rw [← pl_3 p]
  unfold decode ClassFile.Reader.runAt ClassFile.Decoder.instr
  show Except.bind (Except.bind ((ClassFile.Reader.u1 : ClassFile.Decoder Nat) c p) _) _ = _
  rw [e]
  show Except.bind (Except.bind ((ClassFile.Reader.s2 : ClassFile.Decoder Int) c (p + 1)) _) _ = _
  rw [s2_run h1 h2]
  rfl
set_option maxRecDepth 20000 in
theorem dw_163 {c : ByteArray} {p a b : Nat} {n : Int} (h : bA c p 163) (h1 : bA c (p + 1) a) (h2 : bA c (p + 1 + 1) b) (en : ClassFile.Reader.signed 16 (a * 256 + b) = n) : decode c p = .ok (.if_icmp .gt n, 3) := by
  subst en
  have e := u1_run h
  rw [← pl_3 p]
  unfold decode ClassFile.Reader.runAt ClassFile.Decoder.instr
  show Except.bind (Except.bind ((ClassFile.Reader.u1 : ClassFile.Decoder Nat) c p) _) _ = _
  rw [e]
  show Except.bind (Except.bind ((ClassFile.Reader.s2 : ClassFile.Decoder Int) c (p + 1)) _) _ = _
  rw [s2_run h1 h2]
  rfl
set_option maxRecDepth 20000 in
theorem dw_164 {c : ByteArray} {p a b : Nat} {n : Int} (h : bA c p 164) (h1 : bA c (p + 1) a) (h2 : bA c (p + 1 + 1) b) (en : ClassFile.Reader.signed 16 (a * 256 + b) = n) : decode c p = .ok (.if_icmp .le n, 3) := by
  subst en
  have e := u1_run h
  rw [← pl_3 p]
  unfold decode ClassFile.Reader.runAt ClassFile.Decoder.instr
  show Except.bind (Except.bind ((ClassFile.Reader.u1 : ClassFile.Decoder Nat) c p) _) _ = _
  rw [e]
  show Except.bind (Except.bind ((ClassFile.Reader.s2 : ClassFile.Decoder Int) c (p + 1)) _) _ = _
  rw [s2_run h1 h2]
  rfl
set_option maxRecDepth 20000 in
theorem dw_167 {c : ByteArray} {p a b : Nat} {n : Int} (h : bA c p 167) (h1 : bA c (p + 1) a) (h2 : bA c (p + 1 + 1) b) (en : ClassFile.Reader.signed 16 (a * 256 + b) = n) : decode c p = .ok (.goto n, 3) := by
  subst en
  have e := u1_run h
  rw [← pl_3 p]
  unfold decode ClassFile.Reader.runAt ClassFile.Decoder.instr
  show Except.bind (Except.bind ((ClassFile.Reader.u1 : ClassFile.Decoder Nat) c p) _) _ = _
  rw [e]
  show Except.bind (Except.bind ((ClassFile.Reader.s2 : ClassFile.Decoder Int) c (p + 1)) _) _ = _
  rw [s2_run h1 h2]
  rfl
set_option maxRecDepth 20000 in
theorem dw_132 {c : ByteArray} {p a b : Nat} {n : Int} (h : bA c p 132) (h1 : bA c (p + 1) a) (h2 : bA c (p + 1 + 1) b) (en : ClassFile.Reader.signed 8 b = n) : decode c p = .ok (.iinc a n, 3) := by
  subst en
  have e := u1_run h
  rw [← pl_3 p]
  unfold decode ClassFile.Reader.runAt ClassFile.Decoder.instr
  show Except.bind (Except.bind ((ClassFile.Reader.u1 : ClassFile.Decoder Nat) c p) _) _ = _
  rw [e]
  show Except.bind (Except.bind ((ClassFile.Reader.u1 : ClassFile.Decoder Nat) c (p + 1)) _) _ = _
  rw [u1_run h1]
  show Except.bind (Except.bind ((ClassFile.Reader.s1 : ClassFile.Decoder Int) c (p + 1 + 1)) _) _ = _
  rw [s1_run h2]
  rfl
