
/-- the cells that are still free: kept ones of the class, not the end's own, from a place on -/
def FR (K : Nat → Nat → Bool) (i0 j0 n x y : Nat) : Bool := K x y && !(decide (x = i0) && decide (y = j0)) && decide (n ≤ 12 * x + y)
section FR
variable {K : Nat → Nat → Bool} {i0 j0 n x y i j : Nat}
theorem FR_i (h : FR K i0 j0 n x y = true) : K x y = true ∧ ¬ (x = i0 ∧ y = j0) ∧ n ≤ 12 * x + y := by
  unfold FR at h
  rw [Bool.and_eq_true, Bool.and_eq_true] at h
  obtain ⟨⟨a, b⟩, c⟩ := h
  refine ⟨a, fun ⟨e1, e2⟩ => ?_, of_decide_eq_true c⟩
  rw [decide_eq_true e1, decide_eq_true e2] at b
  exact absurd b (by decide)
theorem FR_m (h1 : K x y = true) (h2 : ¬ (x = i0 ∧ y = j0)) (h3 : n ≤ 12 * x + y) : FR K i0 j0 n x y = true := by
  unfold FR
  rw [h1, decide_eq_true h3]
  by_cases e : x = i0
  · rw [decide_eq_false (show ¬ y = j0 from fun z => h2 ⟨e, z⟩)]; simp
  · rw [decide_eq_false e]; simp
theorem FR_f (h : FR K i0 j0 n x y = false) : K x y = false ∨ (x = i0 ∧ y = j0) ∨ 12 * x + y < n := by
  rcases bo (K x y) with k | k
  · by_cases e : x = i0 ∧ y = j0
    · exact Or.inr (Or.inl e)
    · by_cases g : n ≤ 12 * x + y
      · rw [FR_m k e g] at h; exact absurd h (by decide)
      · exact Or.inr (Or.inr (by omega))
  · exact Or.inl k
theorem FR_s (hy : y < 12) (hj : j < 12) : FR K i0 j0 (12 * i + (j + 1)) x y = offT (FR K i0 j0 (12 * i + j)) i j x y := by
  refine Bool.eq_iff_iff.mpr ⟨fun h => ?_, fun h => ?_⟩
  · have q := FR_i h
    rw [offT_n (by omega)]
    exact FR_m q.1 q.2.1 (by omega)
  · have q := FR_i (offT_le h)
    have e : ¬ (x = i ∧ y = j) := fun z => by
      rw [z.1, z.2, offT_s] at h
      exact absurd h (by decide)
    exact FR_m q.1 q.2.1 (by omega)
theorem FR_k (h : FR K i0 j0 (12 * i + j) i j = false) (hy : y < 12) (hj : j < 12) : FR K i0 j0 (12 * i + (j + 1)) x y = FR K i0 j0 (12 * i + j) x y := by
  rw [FR_s hy hj]
  by_cases e : x = i ∧ y = j
  · rw [e.1, e.2, offT_s, h]
  · exact offT_n e
theorem FR_r {cl : Nat} (hcl : cl ≤ 12) (hK : ∀ y, cl ≤ y → K i y = false) (hy : y < 12) : FR K i0 j0 (12 * (i + 1)) x y = FR K i0 j0 (12 * i + cl) x y := by
  refine Bool.eq_iff_iff.mpr ⟨fun h => ?_, fun h => ?_⟩
  · have q := FR_i h
    exact FR_m q.1 q.2.1 (by omega)
  · have q := FR_i h
    refine FR_m q.1 q.2.1 ?_
    by_cases c : x = i
    · have := hK y (by omega)
      rw [c] at q
      rw [this] at q
      exact absurd q.1 (by decide)
    · omega
end FR
/-- a table that agrees and is, as far as a place, the first that does, with one cell held -/
def LXW (K : Nat → Nat → Bool) (Lo Hi N : Nat → Nat → Nat) (i0 j0 n : Nat) (W : Nat → Nat → Nat) : Prop := agN K Lo Hi N W ∧ ∀ x y, x < 12 → y < 12 → 12 * x + y < n → K x y = true → ¬ (x = i0 ∧ y = j0) → ∀ w, agN K Lo Hi N w → w i0 j0 = W i0 j0 → (∀ a b, a < 12 → b < 12 → 12 * a + b < 12 * x + y → w a b = W a b) → W x y ≤ w x y
section LX
variable {K : Nat → Nat → Bool} {Lo Hi N W V2 : Nat → Nat → Nat} {i0 j0 n m i j : Nat}
theorem LX_0 (h : agN K Lo Hi N W) : LXW K Lo Hi N i0 j0 0 W := ⟨h, fun x y _ _ hn => absurd hn (by omega)⟩
theorem LX_gap (h : LXW K Lo Hi N i0 j0 n W) (hg : ∀ x y, x < 12 → y < 12 → n ≤ 12 * x + y → 12 * x + y < m → K x y = true → x = i0 ∧ y = j0) : LXW K Lo Hi N i0 j0 m W := ⟨h.1, fun x y hx hy hn hk he => by
  by_cases c : 12 * x + y < n
  · exact h.2 x y hx hy c hk he
  · exact absurd (hg x y hx hy (by omega) hn hk) he⟩
theorem LX_c (h : LXW K Lo Hi N i0 j0 n W) (hi0 : i0 < 12) (hj0 : j0 < 12) (e : ∀ x y, x < 12 → y < 12 → V2 x y = W x y) : LXW K Lo Hi N i0 j0 n V2 := ⟨agN_c h.1 e, fun x y hx hy hn hk he w hw h1 h2 => by
  rw [e x y hx hy]
  exact h.2 x y hx hy hn hk he w hw (h1.trans (e i0 j0 hi0 hj0)) (fun a b ha hb hl => (h2 a b ha hb hl).trans (e a b ha hb))⟩
theorem LX_s (h : LXW K Lo Hi N i0 j0 (12 * i + j) W) (hi0 : i0 < 12) (hj0 : j0 < 12) (hi : i < 12) (hj : j < 12) (hA : agN (FR K i0 j0 (12 * i + j)) Lo Hi W V2) (hm : FR K i0 j0 (12 * i + j) i j = true → ∀ w, agN (FR K i0 j0 (12 * i + j)) Lo Hi W w → V2 i j ≤ w i j) : LXW K Lo Hi N i0 j0 (12 * i + (j + 1)) V2 ∧ V2 i0 j0 = W i0 j0 := by
  have fx : ∀ x y, x < 12 → y < 12 → FR K i0 j0 (12 * i + j) x y = false → V2 x y = W x y := fun x y hx hy hf => by
    have q : ((V2 x y : Nat) : Int) = ((W x y : Nat) : Int) := hA.1 x y hx hy hf
    omega
  have nf : ∀ x y, (K x y = false ∨ (x = i0 ∧ y = j0) ∨ 12 * x + y < 12 * i + j) → FR K i0 j0 (12 * i + j) x y = false := fun x y hq => by
    cases hf : FR K i0 j0 (12 * i + j) x y with
    | false => rfl
    | true =>
      have q := FR_i hf
      rcases hq with z | z | z
      · rw [q.1] at z; exact absurd z (by decide)
      · exact absurd z q.2.1
      · omega
  have e0 : V2 i0 j0 = W i0 j0 := fx i0 j0 hi0 hj0 (nf i0 j0 (Or.inr (Or.inl ⟨rfl, rfl⟩)))
  have g1 : agN K Lo Hi N V2 := by
    obtain ⟨w1, w2, w3, w4⟩ := h.1
    obtain ⟨a1, a2, a3, a4⟩ := hA
    refine ⟨fun x y hx hy hk => ?_, fun x y hx hy hk => ?_, fun x hx => (a3 x hx).trans (w3 x hx), fun y hy => (a4 y hy).trans (w4 y hy)⟩
    · show ((V2 x y : Nat) : Int) = _
      rw [fx x y hx hy (nf x y (Or.inl hk))]; exact w1 x y hx hy hk
    · rcases bo (FR K i0 j0 (12 * i + j) x y) with f | f
      · exact a2 x y hx hy f
      · show ((Lo x y : Nat) : Int) ≤ ((V2 x y : Nat) : Int) ∧ ((V2 x y : Nat) : Int) ≤ _
        rw [fx x y hx hy f]; exact w2 x y hx hy hk
  refine ⟨⟨g1, fun x y hx hy hn hk he w hw h1 h2 => ?_⟩, e0⟩
  by_cases c : 12 * x + y < 12 * i + j
  · rw [fx x y hx hy (nf x y (Or.inr (Or.inr c)))]
    exact h.2 x y hx hy c hk he w hw (h1.trans e0) (fun a b ha hb hl => (h2 a b ha hb hl).trans (fx a b ha hb (nf a b (Or.inr (Or.inr (by omega))))))
  · obtain ⟨rfl, rfl⟩ : x = i ∧ y = j := by omega
    refine hm (FR_m hk he (Nat.le_refl _)) w ?_
    obtain ⟨w1, w2, w3, w4⟩ := hw
    obtain ⟨u1, u2, u3, u4⟩ := h.1
    refine ⟨fun a b ha hb hf => ?_, fun a b ha hb hf => w2 a b ha hb (FR_i hf).1, fun a ha => (w3 a ha).trans (u3 a ha).symm, fun b hb => (w4 b hb).trans (u4 b hb).symm⟩
    rcases FR_f hf with z | z | z
    · exact (w1 a b ha hb z).trans (u1 a b ha hb z).symm
    · show ((w a b : Nat) : Int) = ((W a b : Nat) : Int)
      rw [z.1, z.2, h1, e0]
    · show ((w a b : Nat) : Int) = ((W a b : Nat) : Int)
      rw [h2 a b ha hb z, fx a b ha hb (nf a b (Or.inr (Or.inr z)))]
/-- there is but one such table -/
theorem LX_u {K2 : Nat → Nat → Bool} {Lo2 Hi2 N2 W2 : Nat → Nat → Nat} (eK : ∀ x y, x < 12 → y < 12 → K2 x y = K x y) (eN : ∀ x y, x < 12 → y < 12 → N2 x y = N x y) (hb : bndE K N Lo Hi Lo2 Hi2) (h : LXW K Lo Hi N i0 j0 144 W) (h2 : LXW K2 Lo2 Hi2 N2 i0 j0 144 W2) (he : W i0 j0 = W2 i0 j0) : ∀ x y, x < 12 → y < 12 → W x y = W2 x y := by
  have ag2 : agN K Lo Hi N W2 := agN_e h2.1 (fun x y hx hy => (eK x y hx hy).symm) (fun x y hx hy => (eN x y hx hy).symm) (bndE_s eK eN hb)
  have ag1 : agN K2 Lo2 Hi2 N2 W := agN_e h.1 eK eN hb
  have key : ∀ k x y, x < 12 → y < 12 → 12 * x + y < k → W x y = W2 x y := fun k => by
    induction k with
    | zero => intro x y _ _ hk; omega
    | succ k ih =>
      intro x y hx hy hk
      rcases bo (K x y) with hK | hK
      · by_cases e : x = i0 ∧ y = j0
        · rw [e.1, e.2]; exact he
        · have p1 := h.2 x y hx hy (by omega) hK e W2 ag2 he.symm (fun a b ha hb' hl => (ih a b ha hb' (by omega)).symm)
          have p2 := h2.2 x y hx hy (by omega) (by rw [eK x y hx hy]; exact hK) e W ag1 he (fun a b ha hb' hl => ih a b ha hb' (by omega))
          omega
      · have q1 : ((W x y : Nat) : Int) = ((N x y : Nat) : Int) := h.1.1 x y hx hy hK
        have q2 : ((W2 x y : Nat) : Int) = ((N x y : Nat) : Int) := ag2.1 x y hx hy hK
        omega
  exact fun x y hx hy => key 144 x y hx hy (by omega)
end LX
theorem SYN_k {kp kp2 on on2 : Nat → Nat → Bool} {V V2 Lo Hi : Nat → Nat → Nat} {s : Nat → Int32} (h : SYN kp V Lo Hi on s) (e1 : ∀ x y, x < 12 → y < 12 → (on2 x y && kp2 x y) = (on x y && kp x y)) (e2 : ∀ x y, x < 12 → y < 12 → V2 x y = V x y) : SYN kp2 V2 Lo Hi on2 s := fun u v hu hv => by
  rw [h u v hu hv]
  unfold stE gof gob
  by_cases c1 : u < 12 ∧ 12 ≤ v ∧ v < 24
  · rw [if_pos c1, if_pos c1, e1 u (v - 12) (by omega) (by omega), e2 u (v - 12) (by omega) (by omega)]
  · rw [if_neg c1, if_neg c1]
    by_cases c2 : v < 12 ∧ 12 ≤ u ∧ u < 24
    · rw [if_pos c2, if_pos c2, e1 v (u - 12) (by omega) (by omega), e2 v (u - 12) (by omega) (by omega)]
    · rw [if_neg c2, if_neg c2]
theorem and_self8 (b : Bool) : (b && b) = b := by cases b <;> rfl
section FF
variable {so cs kp va lo hi : Nat → Int32} {rw cl i0 j0 ii jj : Nat} {V0 U V2 Lo Hi : Nat → Nat → Nat}
/-- the steps of a class from a row on, without the end's own cell -/
theorem FF_0 {s : Nat → Int32} {V : Nat → Nat → Nat} {cc : Int32} (hrw : rw ≤ 12) (hcl : cl ≤ 12) (hi0 : i0 < 12) (hj0 : j0 < 12) (ha : ii ≤ rw) (hv : rowV (dmR so cs rw cl cc) V va) (hl : rowV (dmR so cs rw cl cc) Lo lo) (hh : rowV (dmR so cs rw cl cc) Hi hi) (hB : BND (dmR so cs rw cl cc) Lo Hi V) : SYN (FR (kpR so cs kp rw cl cc) i0 j0 (12 * ii + 0)) V Lo Hi (FR (kpR so cs kp rw cl cc) i0 j0 (12 * ii + 0)) (jnF (enR so cs cc kp va lo hi (flF s 0 25) cl ii (rw - ii)) i0 (12 + j0) 0 0) := by
  have h := SYN_en (kp := kp) (s := s) (a0 := ii) hrw hcl hv hl hh hB (rw - ii) (by omega)
  have h2 := SYN_join (V2 := V) (on2 := offT (onE (dmR so cs rw cl cc) ii (ii + (rw - ii)) 0) i0 j0) (fo := 0) (ba := 0) h hi0 hj0 (fun _ _ _ => rfl) (fun a b hne => offT_n hne) (by unfold gof; rw [offT_s]; rfl) (by unfold gob; rw [offT_s]; rfl)
  refine SYN_k h2 (fun x y hx hy => ?_) (fun _ _ _ _ => rfl)
  rw [and_self8]
  refine Bool.eq_iff_iff.mpr ⟨fun z => ?_, fun z => ?_⟩
  · have q := FR_i z
    rw [q.1, Bool.and_true, offT_n q.2.1]
    have d := (kpR_of q.1).1
    unfold onE
    rw [d, decide_eq_true (show ii ≤ x by omega), decide_eq_true (show x < ii + (rw - ii) by have := (dmR_of d).1; omega)]; simp
  · rw [Bool.and_eq_true] at z
    have o := offT_le z.1
    have ne : ¬ (x = i0 ∧ y = j0) := fun e => by
      have z1 := z.1
      rw [e.1, e.2, offT_s] at z1
      exact absurd z1 (by decide)
    refine FR_m z.2 ne ?_
    unfold onE at o
    rw [Bool.and_eq_true, Bool.and_eq_true] at o
    have := of_decide_eq_true o.1.2
    omega
theorem FF_s (hLX : ∀ cc, LXW (kpR so cs kp rw cl cc) Lo Hi (rsT (dmR so cs rw cl cc) V0) i0 j0 (12 * ii + jj) (rsT (dmR so cs rw cl cc) U)) (hi0 : i0 < 12) (hj0 : j0 < 12) (hjj : jj < 12) (h2 : LXW (kpR so cs kp rw cl (cs ii)) Lo Hi (rsT (dmR so cs rw cl (cs ii)) V0) i0 j0 (12 * ii + (jj + 1)) V2) : ∀ cc, LXW (kpR so cs kp rw cl cc) Lo Hi (rsT (dmR so cs rw cl cc) V0) i0 j0 (12 * ii + (jj + 1)) (rsT (dmR so cs rw cl cc) (jnT (dmR so cs rw cl (cs ii)) V2 U)) := fun cc => by
  by_cases e : cc = cs ii
  · rw [e]
    exact LX_c h2 hi0 hj0 (fun x y hx hy => RD_jn _ h2.1 x y hx hy)
  · refine LX_c (LX_gap (hLX cc) (fun x y hx hy h1 h3 hk => ?_)) hi0 hj0 (fun x y hx hy => ?_)
    · have d := (dmR_of (kpR_of hk).1).2.2.2
      obtain ⟨e1, e2⟩ : x = ii ∧ y = jj := by omega
      rw [e1] at d
      exact absurd d.symm e
    · rcases bo (dmR so cs rw cl cc x y) with d | d
      · rw [rsT_t d, rsT_t d]
        refine jnT_f ?_
        rcases bo (dmR so cs rw cl (cs ii) x y) with d2 | d2
        · exact absurd ((dmR_of d).2.2.2.symm.trans (dmR_of d2).2.2.2) e
        · exact d2
      · rw [rsT_f d, rsT_f d]
theorem FF_e (h : V2 i0 j0 = rsT (dmR so cs rw cl (cs ii)) U i0 j0) : jnT (dmR so cs rw cl (cs ii)) V2 U i0 j0 = U i0 j0 := by
  rcases bo (dmR so cs rw cl (cs ii) i0 j0) with d | d
  · rw [jnT_t d, h, rsT_t d]
  · exact jnT_f d
theorem FF_n (hLX : ∀ cc, LXW (kpR so cs kp rw cl cc) Lo Hi (rsT (dmR so cs rw cl cc) V0) i0 j0 (12 * ii + jj) (rsT (dmR so cs rw cl cc) U)) (h : kp (ii * 12 + jj) = 0 ∨ (ii = i0 ∧ jj = j0)) (hjj : jj < 12) : ∀ cc, LXW (kpR so cs kp rw cl cc) Lo Hi (rsT (dmR so cs rw cl cc) V0) i0 j0 (12 * ii + (jj + 1)) (rsT (dmR so cs rw cl cc) U) := fun cc => LX_gap (hLX cc) (fun x y hx hy h1 h3 hk => by
  obtain ⟨e1, e2⟩ : x = ii ∧ y = jj := by omega
  rw [e1, e2] at hk ⊢
  rcases h with z | z
  · rw [kpR_no z] at hk; exact absurd hk (by decide)
  · exact z)
theorem FF_r {n : Nat} (hLX : ∀ cc, LXW (kpR so cs kp rw cl cc) Lo Hi (rsT (dmR so cs rw cl cc) V0) i0 j0 n (rsT (dmR so cs rw cl cc) U)) {m : Nat} (h : ∀ x y, x < rw → y < cl → ¬ so x = 0 → n ≤ 12 * x + y → 12 * x + y < m → False) : ∀ cc, LXW (kpR so cs kp rw cl cc) Lo Hi (rsT (dmR so cs rw cl cc) V0) i0 j0 m (rsT (dmR so cs rw cl cc) U) := fun cc => LX_gap (hLX cc) (fun x y hx hy h1 h3 hk => by
  have d := dmR_of (kpR_of hk).1
  exact absurd h3 (fun _ => h x y d.1 d.2.1 d.2.2.1 h1 h3))
end FF
set_option maxHeartbeats 4000000 in
set_option maxRecDepth 100000 in
theorem e_X2_findFirst (l : Launch) (G : GG) (a b : Nat → Nat) (f qf : Nat → Int32) (r q : Nat → Nat → Int32) (i : Nat) (j : Nat) (g : Int32) (rw : Nat) (cl : Nat) (V0 : Nat → Nat → Nat) (V : Nat → Nat → Nat) (Lo : Nat → Nat → Nat) (Hi : Nat → Nat → Nat) (hi : i < rw) (hj : j < cl) (hsi : ¬ (r 6) i = 0) (h0 : (f 0) = nI rw) (h1 : (f 1) = nI cl) (hRD : RDI (r 6) (r 7) (r 11) (r 12) (r 13) (r 14) rw cl V0 V Lo Hi) (hRS : RSY (r 6) (r 7) (r 11) rw cl V Lo Hi (f 4) (q 0)) (hRB : RB adjR (q 0)) : WrV l yX2_findFirst cX2_findFirst 7 ({ frames := 5, cells := 0, slots := 0, locals := 131 }) G (rdW G a b f qf r q) [.ref (a 15), .int (nI i), .int (nI j), .int g] (fun w => ∃ (n_f_4 : Int32) (n_q_0 : Nat → Int32) (n_q_1 : Nat → Int32) (n_q_2 : Nat → Int32) (n_qf_3 : Int32) (n_r_12 : Nat → Int32) (V4 : Nat → Nat → Nat), w = rdW G a b (upd f 4 n_f_4) (upd qf 3 n_qf_3) (up2 r 12 n_r_12) (up2 (up2 (up2 q 0 n_q_0) 1 n_q_1) 2 n_q_2) ∧ (RDI (r 6) (r 7) (r 11) n_r_12 (r 13) (r 14) rw cl V0 V4 Lo Hi) ∧ (n_f_4 = -2) ∧ (RB adjR n_q_0) ∧ (∀ cc, LXW (kpR (r 6) (r 7) (r 11) rw cl cc) Lo Hi (rsT (dmR (r 6) (r 7) rw cl cc) V0) i j 144 (rsT (dmR (r 6) (r 7) rw cl cc) V4)) ∧ (((kpR (r 6) (r 7) (r 11) rw cl ((r 7) i)) i j = false ∧ V4 i j = V i j) ∨ ((kpR (r 6) (r 7) (r 11) rw cl ((r 7) i)) i j = true ∧ (g = 0 → ∀ w, agN (kpR (r 6) (r 7) (r 11) rw cl ((r 7) i)) Lo Hi (rsT (dmR (r 6) (r 7) rw cl ((r 7) i)) V0) w → V4 i j ≤ w i j) ∧ (¬ g = 0 → ∀ w, agN (kpR (r 6) (r 7) (r 11) rw cl ((r 7) i)) Lo Hi (rsT (dmR (r 6) (r 7) rw cl ((r 7) i)) V0) w → w i j ≤ V4 i j)))) := by
  refine wr_entryV (by decide +kernel) (Nat.le_of_ble_eq_true rfl) ?_
  intro p e s m below meth c A C0 hP hK hD hA ls hl
  have hS : va_S A s.heap s.heap [] := va_S.rf
  obtain ⟨hx, hb, hml, hown, hts, hr, hlocks, hin⟩ := C0
  have hown : s.vm.findClass RX2 = some m.cls := hown
  have hDD : ∀ f' qf' r' q', va_D A (rdW G a b f' qf' r' q') := fun f' qf' r' q' => D_same hD rfl
  have hl : lv_has ls 7 [(0, .ref (a 15)), (1, .int (nI i)), (2, .int (nI j)), (3, .int g)] := hl
  have hr12 := hRD.1
  have hc12 := hRD.2.1
  refine lv_aload_n hx hb dX2_findFirst_0 rfl (lv_at hl 0 rfl) ?_
  refine lv_iload_n hx hb dX2_findFirst_1 rfl (lv_at hl 1 rfl) ?_
  refine lv_iload_n hx hb dX2_findFirst_2 rfl (lv_at hl 2 rfl) ?_
  refine lv_iload_n hx hb dX2_findFirst_3 rfl (lv_at hl 3 rfl) ?_
  refine wrVVa (rest := []) (q0 := 0) ⟨hx, hb, hml, hown, hts⟩ (e_X2_moveToEnd l G a b f qf r q i j g rw cl V0 V Lo Hi (by omega) (by omega) hsi h0 h1 hRD hRS hRB) mi_yX2_moveToEnd mv_yX2_moveToEnd ml_X2_158 ⟨rfl, rfl, Nat.le_of_ble_eq_true rfl, Nat.le_of_ble_eq_true rfl⟩ hK hP (hDD _ _ _ _) rfl rfl rfl hl.1 rfl (Nat.le_of_ble_eq_true rfl) dX2_findFirst_4 ⟨Nat.zero_le _, Nat.zero_le _⟩ hS hA (fun w2 H locs hw2 hP hS => ?_)
  obtain ⟨x3, x4, x5, x6, x7, x8, V3, rfl, hRD, hRS, hmv, hRB⟩ := hw2
  have hP : PP G (rdW G a b (upd f 4 x3) (upd qf 3 x7) (up2 r 12 x8) (up2 (up2 (up2 q 0 x4) 1 x5) 2 x6)) H := hP
  have hRD : RDI (r 6) (r 7) (r 11) x8 (r 13) (r 14) rw cl V0 V3 Lo Hi := hRD
  have hRS : RSY (r 6) (r 7) (r 11) rw cl V3 Lo Hi x3 x4 := hRS
  have hmv : ((kpR (r 6) (r 7) (r 11) rw cl ((r 7) i)) i j = false ∧ V3 = V) ∨ ((kpR (r 6) (r 7) (r 11) rw cl ((r 7) i)) i j = true ∧ (g = 0 → ∀ w, agN (kpR (r 6) (r 7) (r 11) rw cl ((r 7) i)) Lo Hi (rsT (dmR (r 6) (r 7) rw cl ((r 7) i)) V0) w → V3 i j ≤ w i j) ∧ (¬ g = 0 → ∀ w, agN (kpR (r 6) (r 7) (r 11) rw cl ((r 7) i)) Lo Hi (rsT (dmR (r 6) (r 7) rw cl ((r 7) i)) V0) w → w i j ≤ V3 i j)) := hmv
  have hRB : RB adjR x4 := hRB
  have hmv9 := hmv
  refine lv_iconst (v := 0) hx hb dX2_findFirst_7 (by decide) ?_
  refine lv_istore (lv' := [(4, .int 0), (0, .ref (a 15)), (1, .int (nI i)), (2, .int (nI j)), (3, .int g)]) hx hb dX2_findFirst_8 hl (by decide) rfl (fun ls hl => ?_)
  have loop10 : ∀ (k9 ii : Nat) (U : Nat → Nat → Nat) (x10 : Int32) (x11 : Nat → Int32) (x12 : Nat → Int32) (x13 : Nat → Int32) (x14 : Int32) (x15 : Nat → Int32), ii ≤ rw → rw < ii + k9 → (RB adjR x11) → (RDI (r 6) (r 7) (r 11) x15 (r 13) (r 14) rw cl V0 U Lo Hi) → (∀ cc, LXW (kpR (r 6) (r 7) (r 11) rw cl cc) Lo Hi (rsT (dmR (r 6) (r 7) rw cl cc) V0) i j (12 * ii) (rsT (dmR (r 6) (r 7) rw cl cc) U)) → (U i j = V3 i j) → ∀ (H : Heap) (locs : List Loc) (ls : Array Slot), PP G (rdW G a b (upd f 4 x10) (upd qf 3 x14) (up2 r 12 x15) (up2 (up2 (up2 q 0 x11) 1 x12) 2 x13)) H → va_S A s.heap H locs → lv_has ls 7 [(4, .int (nI ii)), (0, .ref (a 15)), (1, .int (nI i)), (2, .int (nI j))] → W p l e ({ frames := 5, cells := 0, slots := 0, locals := 131 }) s m ([.ref (a 15), .int (nI i), .int (nI j), .int g] : List Value).toArray below meth c H locs 0 0 (MQ below (QwV G (fun w => ∃ (n_f_4 : Int32) (n_q_0 : Nat → Int32) (n_q_1 : Nat → Int32) (n_q_2 : Nat → Int32) (n_qf_3 : Int32) (n_r_12 : Nat → Int32) (V4 : Nat → Nat → Nat), w = rdW G a b (upd f 4 n_f_4) (upd qf 3 n_qf_3) (up2 r 12 n_r_12) (up2 (up2 (up2 q 0 n_q_0) 1 n_q_1) 2 n_q_2) ∧ (RDI (r 6) (r 7) (r 11) n_r_12 (r 13) (r 14) rw cl V0 V4 Lo Hi) ∧ (n_f_4 = -2) ∧ (RB adjR n_q_0) ∧ (∀ cc, LXW (kpR (r 6) (r 7) (r 11) rw cl cc) Lo Hi (rsT (dmR (r 6) (r 7) rw cl cc) V0) i j 144 (rsT (dmR (r 6) (r 7) rw cl cc) V4)) ∧ (((kpR (r 6) (r 7) (r 11) rw cl ((r 7) i)) i j = false ∧ V4 i j = V i j) ∨ ((kpR (r 6) (r 7) (r 11) rw cl ((r 7) i)) i j = true ∧ (g = 0 → ∀ w, agN (kpR (r 6) (r 7) (r 11) rw cl ((r 7) i)) Lo Hi (rsT (dmR (r 6) (r 7) rw cl ((r 7) i)) V0) w → V4 i j ≤ w i j) ∧ (¬ g = 0 → ∀ w, agN (kpR (r 6) (r 7) (r 11) rw cl ((r 7) i)) Lo Hi (rsT (dmR (r 6) (r 7) rw cl ((r 7) i)) V0) w → w i j ≤ V4 i j)))) A) ([.ref (a 15), .int (nI i), .int (nI j), .int g] : List Value).toArray s 0 0 A) (F0 m 10 ls []) := by
    intro k9
    induction k9 with
    | zero => intro ii U x10 x11 x12 x13 x14 x15 h1 h2; exact absurd h1 (by omega)
    | succ k9 ih10k9 =>
      intro ii U x10 x11 x12 x13 x14 x15 hi_ii hk_ii hRB hRD hLX hUe H locs ls hP hS hl
      refine lv_iload hx hb dX2_findFirst_10 (lv_at hl 0 rfl) ?_
      refine lv_aload_n hx hb dX2_findFirst_12 rfl (lv_at hl 1 rfl) ?_
      refine va_get (D := G.1) (ci := 2) (v := .int (f 0)) (C := RX2) (T := TX2) (N := 15) hx hb hts inX2 hown hK.1 hP 0 rfl rfl 0 (by decide) (hts _ mf_X2_9) (fun _ h9 => h9) rfl dX2_findFirst_13 ?_
      rw [show (f 0) = nI (rw) from h0]
      refine lv_icmp_ge (tgt := 142) hx hb dX2_findFirst_16 (by decide) (fun c16 => ?_) (fun c16 => ?_)
      · have b16 := qge_t (a := ii) (b := (rw)) (by omega) (by omega) c16
        refine lv_aload_n hx hb dX2_findFirst_142 rfl (lv_at hl 1 rfl) ?_
        refine lv_bipush (v := -2) hx hb dX2_findFirst_143 (by decide) ?_
        refine va_put (D := G.1) (ci := 2) (v := .int (-2)) (C := RX2) (T := TX2) (N := 15) hx hb hts inX2 tyX2 tyX2_ok nmX2 hown hK.1 hP (hDD _ _ _ _) hS 0 rfl rfl 4 (by decide) (hts _ mf_X2_24) (fun _ h9 => h9) rfl (tyX2_ok 4 (by decide)) (rfl) (rfl) (Nat.le_of_ble_eq_true rfl) dX2_findFirst_145 (fun H locs hP _ hS => ?_)
        have hP : PP G (rdW G a b (upd f 4 (-2)) (upd qf 3 x14) (up2 r 12 x15) (up2 (up2 (up2 q 0 x11) 1 x12) 2 x13)) H := hP
        exact wr_vret hx hb hr hlocks hS hP ⟨(-2), x11, x12, x13, x14, x15, U, rfl, hRD, rfl, hRB, (FF_r hLX (fun x y h7 h8 h6 h5 h4 => by omega)), (hmv9.imp (fun z9 => ⟨z9.1, by rw [hUe, z9.2]⟩) (fun z9 => ⟨z9.1, fun h8 w9 h9 => by rw [hUe]; exact z9.2.1 h8 w9 h9, fun h8 w9 h9 => by rw [hUe]; exact z9.2.2 h8 w9 h9⟩))⟩ dX2_findFirst_148
      · have b16 := qge_f (a := ii) (b := (rw)) (by omega) (by omega) c16
        refine lv_aload_n hx hb dX2_findFirst_19 rfl (lv_at hl 1 rfl) ?_
        refine va_get (D := G.1) (ci := 2) (v := .ref (a 6)) (C := RX2) (T := TX2) (N := 15) hx hb hts inX2 hown hK.1 hP 0 rfl rfl 6 (by decide) (hts _ mf_X2_34) (fun _ h9 => h9) rfl dX2_findFirst_20 ?_
        refine lv_iload hx hb dX2_findFirst_23 (lv_at hl 0 rfl) ?_
        refine xzald (f := (r 6)) hx hb hK hP 1 (ii) (rfl) (by omega) (by decide) rfl dX2_findFirst_25 ?_
        refine lv_topi (fun v17 ev17 => ?_)
        refine lv_if_ne (tgt := 32) hx hb dX2_findFirst_26 (by decide) (fun c18 => ?_) (fun c18 => ?_)
        · have hso9 : ¬ r 6 ii = 0 := fun z9 => c18 (ev17.trans z9)
          refine lv_aload_n hx hb dX2_findFirst_32 rfl (lv_at hl 1 rfl) ?_
          refine lv_aload_n hx hb dX2_findFirst_33 rfl (lv_at hl 1 rfl) ?_
          refine va_get (D := G.1) (ci := 2) (v := .ref (a 7)) (C := RX2) (T := TX2) (N := 15) hx hb hts inX2 hown hK.1 hP 0 rfl rfl 7 (by decide) (hts _ mf_X2_38) (fun _ h9 => h9) rfl dX2_findFirst_34 ?_
          refine lv_iload hx hb dX2_findFirst_37 (lv_at hl 0 rfl) ?_
          refine xiald (f := (r 7)) hx hb hK hP 2 (ii) (rfl) (by omega) (by decide) rfl dX2_findFirst_39 ?_
          refine lv_topi (fun v19 ev19 => ?_)
          obtain rfl : v19 = (r 7 ii) := ev19.trans (rfl)
          refine lv_iload hx hb dX2_findFirst_40 (lv_at hl 0 rfl) ?_
          refine wrVVa (rest := []) (q0 := 0) ⟨hx, hb, hml, hown, hts⟩ (e_X2_enter l G a b (upd f 4 x10) (upd qf 3 x14) (up2 r 12 x15) (up2 (up2 (up2 q 0 x11) 1 x12) 2 x13) (r 7 ii) ii rw cl (by omega) (by omega) (by omega) h0 h1) mi_yX2_enter mv_yX2_enter ml_X2_146 ⟨rfl, rfl, Nat.le_of_ble_eq_true rfl, Nat.le_of_ble_eq_true rfl⟩ hK hP (hDD _ _ _ _) rfl rfl rfl hl.1 rfl (Nat.le_of_ble_eq_true rfl) dX2_findFirst_42 ⟨Nat.zero_le _, Nat.zero_le _⟩ hS hA (fun w21 H locs hw21 hP hS => ?_)
          obtain ⟨x22, x23, rfl, hen, he4⟩ := hw21
          have hP : PP G (rdW G a b (upd f 4 x22) (upd qf 3 x14) (up2 r 12 x15) (up2 (up2 (up2 q 0 x23) 1 x12) 2 x13)) H := hP
          have hen : x23 = enR (r 6) (r 7) (r 7 ii) (r 11) x15 (r 13) (r 14) (flF x11 0 25) cl ii (rw - ii) := hen
          have he4 : x22 = (if ii = 0 then (r 7 ii) else -2) := he4
          refine lv_aload_n hx hb dX2_findFirst_45 rfl (lv_at hl 1 rfl) ?_
          refine va_get (D := G.1) (ci := 2) (v := .ref (b 3)) (C := RX2) (T := TX2) (N := 15) hx hb hts inX2 hown hK.1 hP 0 rfl rfl 5 (by decide) (hts _ mf_X2_30) (fun _ h9 => h9) rfl dX2_findFirst_46 ?_
          refine lv_iload_n hx hb dX2_findFirst_49 rfl (lv_at hl 2 rfl) ?_
          refine lv_bipush (v := 12) hx hb dX2_findFirst_50 (by decide) ?_
          refine lv_iload_n hx hb dX2_findFirst_52 rfl (lv_at hl 3 rfl) ?_
          refine lv_iadd hx hb dX2_findFirst_53 ?_
          refine lv_topi (fun v24 ev24 => ?_)
          obtain rfl : v24 = nI (12 + j) := nI_plus ev24 rfl rfl
          refine lv_iconst (v := 0) hx hb dX2_findFirst_54 (by decide) ?_
          refine lv_iconst (v := 0) hx hb dX2_findFirst_55 (by decide) ?_
          refine wrVV (rest := []) (q0 := 0) ⟨hx, hb, hml, hown, hts⟩ (c_X5_join l G b (up2 (up2 (up2 q 0 x23) 1 x12) 2 x13) x14 i (12 + j) 0 0 (by omega) (by omega)) mi_yX5_join mv_yX5_join ml_X2_120 ⟨rfl, rfl, Nat.le_of_ble_eq_true rfl, Nat.le_of_ble_eq_true rfl⟩ hK hP (hDD _ _ _ _) [10, 11, 12, 13] rfl (by decide) rfl rfl rfl hl.1 rfl (Nat.le_of_ble_eq_true rfl) dX2_findFirst_56 ⟨Nat.zero_le _, Nat.zero_le _⟩ hS hA (fun w26 H locs hw26 hP hS => ?_)
          obtain rfl := hw26
          have hP : PP G (rdW G a b (upd f 4 x22) (upd qf 3 x14) (up2 r 12 x15) (up2 (up2 (up2 q 0 (jnF x23 i (12 + j) 0 0)) 1 x12) 2 x13)) H := hP rfl
          obtain ⟨hv0, hl0, hh0⟩ := RD_row hRD (r 7 ii)
          have hB0 := RD_bnd hRD (r 7 ii)
          have hSY : SYN (FR (kpR (r 6) (r 7) (r 11) rw cl (r 7 ii)) i j (12 * ii + 0)) (rsT (dmR (r 6) (r 7) rw cl (r 7 ii)) U) Lo Hi (FR (kpR (r 6) (r 7) (r 11) rw cl (r 7 ii)) i j (12 * ii + 0)) (jnF x23 i (12 + j) 0 0) := by rw [hen]; exact FF_0 hr12 hc12 (by omega) (by omega) (by omega) hv0 hl0 hh0 hB0
          refine lv_iconst (v := 0) hx hb dX2_findFirst_59 (by decide) ?_
          refine lv_istore (lv' := [(5, .int 0), (4, .int (nI ii)), (0, .ref (a 15)), (1, .int (nI i)), (2, .int (nI j))]) hx hb dX2_findFirst_60 hl (by decide) rfl (fun ls hl => ?_)
          have loop62 : ∀ (k27 jj : Nat) (U : Nat → Nat → Nat) (x28 : Nat → Int32) (x29 : Nat → Int32) (x30 : Nat → Int32) (x31 : Int32) (x32 : Nat → Int32), jj ≤ cl → cl < jj + k27 → (RDI (r 6) (r 7) (r 11) x32 (r 13) (r 14) rw cl V0 U Lo Hi) → (∀ cc, LXW (kpR (r 6) (r 7) (r 11) rw cl cc) Lo Hi (rsT (dmR (r 6) (r 7) rw cl cc) V0) i j (12 * ii + jj) (rsT (dmR (r 6) (r 7) rw cl cc) U)) → (U i j = V3 i j) → (SYN (FR (kpR (r 6) (r 7) (r 11) rw cl (r 7 ii)) i j (12 * ii + jj)) (rsT (dmR (r 6) (r 7) rw cl (r 7 ii)) U) Lo Hi (FR (kpR (r 6) (r 7) (r 11) rw cl (r 7 ii)) i j (12 * ii + jj)) x28) → ∀ (H : Heap) (locs : List Loc) (ls : Array Slot), PP G (rdW G a b (upd f 4 x22) (upd qf 3 x31) (up2 r 12 x32) (up2 (up2 (up2 q 0 x28) 1 x29) 2 x30)) H → va_S A s.heap H locs → lv_has ls 7 [(5, .int (nI jj)), (4, .int (nI ii)), (0, .ref (a 15)), (1, .int (nI i)), (2, .int (nI j))] → W p l e ({ frames := 5, cells := 0, slots := 0, locals := 131 }) s m ([.ref (a 15), .int (nI i), .int (nI j), .int g] : List Value).toArray below meth c H locs 0 0 (MQ below (QwV G (fun w => ∃ (n_f_4 : Int32) (n_q_0 : Nat → Int32) (n_q_1 : Nat → Int32) (n_q_2 : Nat → Int32) (n_qf_3 : Int32) (n_r_12 : Nat → Int32) (V4 : Nat → Nat → Nat), w = rdW G a b (upd f 4 n_f_4) (upd qf 3 n_qf_3) (up2 r 12 n_r_12) (up2 (up2 (up2 q 0 n_q_0) 1 n_q_1) 2 n_q_2) ∧ (RDI (r 6) (r 7) (r 11) n_r_12 (r 13) (r 14) rw cl V0 V4 Lo Hi) ∧ (n_f_4 = -2) ∧ (RB adjR n_q_0) ∧ (∀ cc, LXW (kpR (r 6) (r 7) (r 11) rw cl cc) Lo Hi (rsT (dmR (r 6) (r 7) rw cl cc) V0) i j 144 (rsT (dmR (r 6) (r 7) rw cl cc) V4)) ∧ (((kpR (r 6) (r 7) (r 11) rw cl ((r 7) i)) i j = false ∧ V4 i j = V i j) ∨ ((kpR (r 6) (r 7) (r 11) rw cl ((r 7) i)) i j = true ∧ (g = 0 → ∀ w, agN (kpR (r 6) (r 7) (r 11) rw cl ((r 7) i)) Lo Hi (rsT (dmR (r 6) (r 7) rw cl ((r 7) i)) V0) w → V4 i j ≤ w i j) ∧ (¬ g = 0 → ∀ w, agN (kpR (r 6) (r 7) (r 11) rw cl ((r 7) i)) Lo Hi (rsT (dmR (r 6) (r 7) rw cl ((r 7) i)) V0) w → w i j ≤ V4 i j)))) A) ([.ref (a 15), .int (nI i), .int (nI j), .int g] : List Value).toArray s 0 0 A) (F0 m 62 ls []) := by
            intro k27
            induction k27 with
            | zero => intro jj U x28 x29 x30 x31 x32 h1 h2; exact absurd h1 (by omega)
            | succ k27 ih62k27 =>
              intro jj U x28 x29 x30 x31 x32 hi_jj hk_jj hRD hLX hUe hSY H locs ls hP hS hl
              refine lv_iload hx hb dX2_findFirst_62 (lv_at hl 0 rfl) ?_
              refine lv_aload_n hx hb dX2_findFirst_64 rfl (lv_at hl 2 rfl) ?_
              refine va_get (D := G.1) (ci := 2) (v := .int (f 1)) (C := RX2) (T := TX2) (N := 15) hx hb hts inX2 hown hK.1 hP 0 rfl rfl 1 (by decide) (hts _ mf_X2_15) (fun _ h9 => h9) rfl dX2_findFirst_65 ?_
              rw [show (f 1) = nI (cl) from h1]
              refine lv_icmp_ge (tgt := 136) hx hb dX2_findFirst_68 (by decide) (fun c33 => ?_) (fun c33 => ?_)
              · have b68 := qge_t (a := jj) (b := (cl)) (by omega) (by omega) c33
                have hRB : RB adjR x28 := SYN_rb hSY
                obtain ⟨v34, ev34⟩ : ∃ y9 : Int32, y9 = (nI ii) + Int32.ofInt (1) := ⟨_, rfl⟩
                refine lv_iinc (v := v34) (lv' := [(4, .int v34), (5, .int (nI jj)), (0, .ref (a 15)), (1, .int (nI i)), (2, .int (nI j))]) hx hb dX2_findFirst_136 hl (k := 1) rfl ev34.symm (by decide) rfl (fun ls hl => ?_)
                obtain rfl : v34 = nI (ii + 1) := nI_plus (i := ii) (j := 1) ev34 rfl (by decide)
                refine lv_goto (tgt := 10) hx hb dX2_findFirst_139 (by decide) ?_
                exact ih10k9 (ii + 1) U x22 x28 x29 x30 x31 x32 (by omega) (by omega) hRB (hRD) (FF_r hLX (fun x y h7 h8 h6 h5 h4 => by omega)) (hUe) _ _ _ hP hS (lv_sub hl [0, 2, 3, 4] rfl)
              · have b68 := qge_f (a := jj) (b := (cl)) (by omega) (by omega) c33
                refine lv_iload hx hb dX2_findFirst_71 (lv_at hl 1 rfl) ?_
                refine lv_iload_n hx hb dX2_findFirst_73 rfl (lv_at hl 3 rfl) ?_
                refine lv_icmp_ne (tgt := 87) hx hb dX2_findFirst_74 (by decide) (fun c35 => ?_) (fun c35 => ?_)
                · have b74 := qeq_f (a := ii) (b := i) (by omega) (by omega) c35
                  refine lv_iconst (v := 0) hx hb dX2_findFirst_87 (by decide) ?_
                  refine lv_istore (lv' := [(6, .int 0), (5, .int (nI jj)), (4, .int (nI ii)), (0, .ref (a 15)), (1, .int (nI i)), (2, .int (nI j))]) hx hb dX2_findFirst_88 hl (by decide) rfl (fun ls hl => ?_)
                  refine lv_aload_n hx hb dX2_findFirst_90 rfl (lv_at hl 3 rfl) ?_
                  refine va_get (D := G.1) (ci := 2) (v := .ref (a 11)) (C := RX2) (T := TX2) (N := 15) hx hb hts inX2 hown hK.1 hP 0 rfl rfl 11 (by decide) (hts _ mf_X2_51) (fun _ h9 => h9) rfl dX2_findFirst_91 ?_
                  refine lv_iload hx hb dX2_findFirst_94 (lv_at hl 2 rfl) ?_
                  refine lv_iload hx hb dX2_findFirst_96 (lv_at hl 1 rfl) ?_
                  refine rdSN (rest := [.ref (a 11)]) ⟨hx, hb, hml, hown, hts⟩ (c_X6_spotOf l G ((nI ii)) ((nI jj))) mi_yX6_spotOf mst_yX6_spotOf (by decide +kernel) ⟨rfl, rfl, Nat.le_of_ble_eq_true rfl, Nat.le_of_ble_eq_true rfl⟩ hK (fun k q h => by simp at h) rfl hl.1 rfl (Nat.le_of_ble_eq_true rfl) dX2_findFirst_98 ⟨Nat.zero_le _, Nat.zero_le _⟩ hS hA hP (fun r36 H locs hr36 hP hS => ?_)
                  obtain rfl : r36 = nI (ii * 12 + jj) := spot_eq hr36
                  refine xzald (f := (r 11)) hx hb hK hP 6 ((ii * 12 + jj)) (rfl) (by omega) (by decide) rfl dX2_findFirst_101 ?_
                  refine lv_topi (fun v37 ev37 => ?_)
                  refine lv_if_eq (tgt := 130) hx hb dX2_findFirst_102 (by decide) (fun c38 => ?_) (fun c38 => ?_)
                  · have hk0 : r 11 (ii * 12 + jj) = 0 := ev37.symm.trans c38
                    have hor : r 11 (ii * 12 + jj) = 0 ∨ (ii = i ∧ jj = j) := Or.inl hk0
                    obtain ⟨v39, ev39⟩ : ∃ y9 : Int32, y9 = (nI jj) + Int32.ofInt (1) := ⟨_, rfl⟩
                    refine lv_iinc (v := v39) (lv' := [(5, .int v39), (6, .int 0), (4, .int (nI ii)), (0, .ref (a 15)), (1, .int (nI i)), (2, .int (nI j))]) hx hb dX2_findFirst_130 hl (k := 1) rfl ev39.symm (by decide) rfl (fun ls hl => ?_)
                    obtain rfl : v39 = nI (jj + 1) := nI_plus (i := jj) (j := 1) ev39 rfl (by decide)
                    refine lv_goto (tgt := 62) hx hb dX2_findFirst_133 (by decide) ?_
                    exact ih62k27 (jj + 1) U x28 x29 x30 x31 x32 (by omega) (by omega) (hRD) (FF_n hLX hor (by omega)) (hUe) (SYN_k hSY (fun x y hx hy => by rw [and_self8, and_self8]; exact FR_k (by cases hf9 : FR (kpR (r 6) (r 7) (r 11) rw cl (r 7 ii)) i j (12 * ii + jj) ii jj with | false => rfl | true => exact absurd hor (fun z9 => z9.elim (fun z8 => (kpR_of (FR_i hf9).1).2 z8) (FR_i hf9).2.1)) hy (by omega)) (fun _ _ _ _ => rfl)) _ _ _ hP hS (lv_sub hl [0, 2, 3, 4, 5] rfl)
                  · have hk0 : ¬ r 11 (ii * 12 + jj) = 0 := fun z9 => c38 (ev37.trans z9)
                    refine lv_iload hx hb dX2_findFirst_105 (lv_at hl 0 rfl) ?_
                    refine lv_if_ne (tgt := 130) hx hb dX2_findFirst_107 (by decide) (fun c40 => absurd rfl c40) (fun c40 => ?_)
                    obtain ⟨hv0, hl0, hh0⟩ := RD_row hRD (r 7 ii)
                    have hB0 := RD_bnd hRD (r 7 ii)
                    have hdc : (dmR (r 6) (r 7) rw cl (r 7 ii)) ii jj = true := dmR_mk (by omega) (by omega) hso9 rfl
                    have hkc : (FR (kpR (r 6) (r 7) (r 11) rw cl (r 7 ii)) i j (12 * ii + jj)) ii jj = true := FR_m (kpR_mk hdc hk0) (by omega) (by omega)
                    have hBc := hB0 ii jj hdc
                    refine lv_aload_n hx hb dX2_findFirst_110 rfl (lv_at hl 3 rfl) ?_
                    refine lv_iload hx hb dX2_findFirst_111 (lv_at hl 2 rfl) ?_
                    refine lv_iload hx hb dX2_findFirst_113 (lv_at hl 1 rfl) ?_
                    refine lv_aload_n hx hb dX2_findFirst_115 rfl (lv_at hl 3 rfl) ?_
                    refine va_get (D := G.1) (ci := 2) (v := .ref (a 13)) (C := RX2) (T := TX2) (N := 15) hx hb hts inX2 hown hK.1 hP 0 rfl rfl 13 (by decide) (hts _ mf_X2_57) (fun _ h9 => h9) rfl dX2_findFirst_116 ?_
                    refine lv_iload hx hb dX2_findFirst_119 (lv_at hl 2 rfl) ?_
                    refine lv_iload hx hb dX2_findFirst_121 (lv_at hl 1 rfl) ?_
                    refine rdSN (rest := [.ref (a 13), .int (nI jj), .int (nI ii), .ref (a 15)]) ⟨hx, hb, hml, hown, hts⟩ (c_X6_spotOf l G ((nI ii)) ((nI jj))) mi_yX6_spotOf mst_yX6_spotOf (by decide +kernel) ⟨rfl, rfl, Nat.le_of_ble_eq_true rfl, Nat.le_of_ble_eq_true rfl⟩ hK (fun k q h => by simp at h) rfl hl.1 rfl (Nat.le_of_ble_eq_true rfl) dX2_findFirst_123 ⟨Nat.zero_le _, Nat.zero_le _⟩ hS hA hP (fun r41 H locs hr41 hP hS => ?_)
                    obtain rfl : r41 = nI (ii * 12 + jj) := spot_eq hr41
                    refine xiald (f := (r 13)) hx hb hK hP 8 ((ii * 12 + jj)) (rfl) (by omega) (by decide) rfl dX2_findFirst_126 ?_
                    refine lv_topi (fun v42 ev42 => ?_)
                    obtain rfl : v42 = nI (Lo ii jj) := ev42.trans (hl0 ii jj (by omega) (by omega) hdc)
                    refine wrVVa (rest := []) (q0 := 0) ⟨hx, hb, hml, hown, hts⟩ (e_X2_draw l G a b (upd f 4 x22) (upd qf 3 x31) (up2 r 12 x32) (up2 (up2 (up2 q 0 x28) 1 x29) 2 x30) ii jj (Lo ii jj) (rsT (dmR (r 6) (r 7) rw cl (r 7 ii)) U) (rsT (dmR (r 6) (r 7) rw cl (r 7 ii)) U) Lo Hi (FR (kpR (r 6) (r 7) (r 11) rw cl (r 7 ii)) i j (12 * ii + jj)) (FR (kpR (r 6) (r 7) (r 11) rw cl (r 7 ii)) i j (12 * ii + jj)) (dmR (r 6) (r 7) rw cl (r 7 ii)) (by omega) (by omega) (by omega) (by omega) hdc hkc (fun x y e9 => (kpR_of (FR_i e9).1).1) (fun x y _ _ z9 _ => z9) hSY hv0 hl0 hh0 (fun x y _ _ e9 => ⟨fun _ => e9, fun _ => (kpR_of (FR_i e9).1).2⟩) hB0 (agN_r (fun x y _ _ h7 => by have h6 := hB0 x y (kpR_of (FR_i h7).1).1; exact ⟨h6.2.2.2.2, h6.2.2.2.1⟩))) mi_yX2_draw mv_yX2_draw ml_X2_149 ⟨rfl, rfl, Nat.le_of_ble_eq_true rfl, Nat.le_of_ble_eq_true rfl⟩ hK hP (hDD _ _ _ _) rfl rfl rfl hl.1 rfl (Nat.le_of_ble_eq_true rfl) dX2_findFirst_127 ⟨Nat.zero_le _, Nat.zero_le _⟩ hS hA (fun w44 H locs hw44 hP hS => ?_)
                    obtain ⟨x45, x46, x47, x48, x49, V2, rfl, hv2, hs2, ha2, hb2, hf2, he2⟩ := hw44
                    have hP : PP G (rdW G a b (upd f 4 x22) (upd qf 3 x48) (up2 r 12 x49) (up2 (up2 (up2 q 0 x45) 1 x46) 2 x47)) H := hP
                    have hv2 : rowV (dmR (r 6) (r 7) rw cl (r 7 ii)) V2 x49 := hv2
                    have hs2 : SYN (FR (kpR (r 6) (r 7) (r 11) rw cl (r 7 ii)) i j (12 * ii + jj)) V2 Lo Hi (offT (FR (kpR (r 6) (r 7) (r 11) rw cl (r 7 ii)) i j (12 * ii + jj)) ii jj) x45 := hs2
                    have ha2 : agN (FR (kpR (r 6) (r 7) (r 11) rw cl (r 7 ii)) i j (12 * ii + jj)) Lo Hi (rsT (dmR (r 6) (r 7) rw cl (r 7 ii)) U) V2 := ha2
                    have hb2 : BND (dmR (r 6) (r 7) rw cl (r 7 ii)) Lo Hi V2 := hb2
                    have hf2 : ∀ x y, x < 12 → y < 12 → (dmR (r 6) (r 7) rw cl (r 7 ii)) x y = false → x49 (x * 12 + y) = x32 (x * 12 + y) := hf2
                    have he2 : ENDS (FR (kpR (r 6) (r 7) (r 11) rw cl (r 7 ii)) i j (12 * ii + jj)) Lo Hi (rsT (dmR (r 6) (r 7) rw cl (r 7 ii)) U) ii jj (Lo ii jj) V2 := he2
                    have hLs := LX_s (hLX (r 7 ii)) (by omega) (by omega) (by omega) (by omega) ha2 (fun _ w9 h9 => EN_least hkc he2 (hb2 ii jj hdc).2.2.2.2 h9 (by omega) (by omega))
                    have hRDn := RD_set hRD (r 7 ii) hv2 hLs.1.1 hb2 hf2
                    have hSYn : SYN (FR (kpR (r 6) (r 7) (r 11) rw cl (r 7 ii)) i j (12 * ii + (jj + 1))) (rsT (dmR (r 6) (r 7) rw cl (r 7 ii)) (jnT (dmR (r 6) (r 7) rw cl (r 7 ii)) V2 U)) Lo Hi (FR (kpR (r 6) (r 7) (r 11) rw cl (r 7 ii)) i j (12 * ii + (jj + 1))) x45 := SYN_k hs2 (fun x y hx hy => by rw [and_self8, FR_s hy (by omega)]; unfold offT; cases FR (kpR (r 6) (r 7) (r 11) rw cl (r 7 ii)) i j (12 * ii + jj) x y <;> simp) (fun x y hx hy => RD_jn _ hLs.1.1 x y hx hy)
                    obtain ⟨v50, ev50⟩ : ∃ y9 : Int32, y9 = (nI jj) + Int32.ofInt (1) := ⟨_, rfl⟩
                    refine lv_iinc (v := v50) (lv' := [(5, .int v50), (6, .int 0), (4, .int (nI ii)), (0, .ref (a 15)), (1, .int (nI i)), (2, .int (nI j))]) hx hb dX2_findFirst_130 hl (k := 1) rfl ev50.symm (by decide) rfl (fun ls hl => ?_)
                    obtain rfl : v50 = nI (jj + 1) := nI_plus (i := jj) (j := 1) ev50 rfl (by decide)
                    refine lv_goto (tgt := 62) hx hb dX2_findFirst_133 (by decide) ?_
                    exact ih62k27 (jj + 1) (jnT (dmR (r 6) (r 7) rw cl (r 7 ii)) V2 U) x45 x46 x47 x48 x49 (by omega) (by omega) (hRDn) (FF_s hLX (by omega) (by omega) (by omega) hLs.1) ((FF_e hLs.2).trans hUe) (hSYn) _ _ _ hP hS (lv_sub hl [0, 2, 3, 4, 5] rfl)
                · have b74 := qeq_t (a := ii) (b := i) (by omega) (by omega) c35
                  refine lv_iload hx hb dX2_findFirst_77 (lv_at hl 0 rfl) ?_
                  refine lv_iload_n hx hb dX2_findFirst_79 rfl (lv_at hl 4 rfl) ?_
                  refine lv_icmp_ne (tgt := 87) hx hb dX2_findFirst_80 (by decide) (fun c51 => ?_) (fun c51 => ?_)
                  · have b80 := qeq_f (a := jj) (b := j) (by omega) (by omega) c51
                    refine lv_iconst (v := 0) hx hb dX2_findFirst_87 (by decide) ?_
                    refine lv_istore (lv' := [(6, .int 0), (5, .int (nI jj)), (4, .int (nI ii)), (0, .ref (a 15)), (1, .int (nI i)), (2, .int (nI j))]) hx hb dX2_findFirst_88 hl (by decide) rfl (fun ls hl => ?_)
                    refine lv_aload_n hx hb dX2_findFirst_90 rfl (lv_at hl 3 rfl) ?_
                    refine va_get (D := G.1) (ci := 2) (v := .ref (a 11)) (C := RX2) (T := TX2) (N := 15) hx hb hts inX2 hown hK.1 hP 0 rfl rfl 11 (by decide) (hts _ mf_X2_51) (fun _ h9 => h9) rfl dX2_findFirst_91 ?_
                    refine lv_iload hx hb dX2_findFirst_94 (lv_at hl 2 rfl) ?_
                    refine lv_iload hx hb dX2_findFirst_96 (lv_at hl 1 rfl) ?_
                    refine rdSN (rest := [.ref (a 11)]) ⟨hx, hb, hml, hown, hts⟩ (c_X6_spotOf l G ((nI ii)) ((nI jj))) mi_yX6_spotOf mst_yX6_spotOf (by decide +kernel) ⟨rfl, rfl, Nat.le_of_ble_eq_true rfl, Nat.le_of_ble_eq_true rfl⟩ hK (fun k q h => by simp at h) rfl hl.1 rfl (Nat.le_of_ble_eq_true rfl) dX2_findFirst_98 ⟨Nat.zero_le _, Nat.zero_le _⟩ hS hA hP (fun r52 H locs hr52 hP hS => ?_)
                    obtain rfl : r52 = nI (ii * 12 + jj) := spot_eq hr52
                    refine xzald (f := (r 11)) hx hb hK hP 6 ((ii * 12 + jj)) (rfl) (by omega) (by decide) rfl dX2_findFirst_101 ?_
                    refine lv_topi (fun v53 ev53 => ?_)
                    refine lv_if_eq (tgt := 130) hx hb dX2_findFirst_102 (by decide) (fun c54 => ?_) (fun c54 => ?_)
                    · have hk0 : r 11 (ii * 12 + jj) = 0 := ev53.symm.trans c54
                      have hor : r 11 (ii * 12 + jj) = 0 ∨ (ii = i ∧ jj = j) := Or.inl hk0
                      obtain ⟨v55, ev55⟩ : ∃ y9 : Int32, y9 = (nI jj) + Int32.ofInt (1) := ⟨_, rfl⟩
                      refine lv_iinc (v := v55) (lv' := [(5, .int v55), (6, .int 0), (4, .int (nI ii)), (0, .ref (a 15)), (1, .int (nI i)), (2, .int (nI j))]) hx hb dX2_findFirst_130 hl (k := 1) rfl ev55.symm (by decide) rfl (fun ls hl => ?_)
                      obtain rfl : v55 = nI (jj + 1) := nI_plus (i := jj) (j := 1) ev55 rfl (by decide)
                      refine lv_goto (tgt := 62) hx hb dX2_findFirst_133 (by decide) ?_
                      exact ih62k27 (jj + 1) U x28 x29 x30 x31 x32 (by omega) (by omega) (hRD) (FF_n hLX hor (by omega)) (hUe) (SYN_k hSY (fun x y hx hy => by rw [and_self8, and_self8]; exact FR_k (by cases hf9 : FR (kpR (r 6) (r 7) (r 11) rw cl (r 7 ii)) i j (12 * ii + jj) ii jj with | false => rfl | true => exact absurd hor (fun z9 => z9.elim (fun z8 => (kpR_of (FR_i hf9).1).2 z8) (FR_i hf9).2.1)) hy (by omega)) (fun _ _ _ _ => rfl)) _ _ _ hP hS (lv_sub hl [0, 2, 3, 4, 5] rfl)
                    · have hk0 : ¬ r 11 (ii * 12 + jj) = 0 := fun z9 => c54 (ev53.trans z9)
                      refine lv_iload hx hb dX2_findFirst_105 (lv_at hl 0 rfl) ?_
                      refine lv_if_ne (tgt := 130) hx hb dX2_findFirst_107 (by decide) (fun c56 => absurd rfl c56) (fun c56 => ?_)
                      obtain ⟨hv0, hl0, hh0⟩ := RD_row hRD (r 7 ii)
                      have hB0 := RD_bnd hRD (r 7 ii)
                      have hdc : (dmR (r 6) (r 7) rw cl (r 7 ii)) ii jj = true := dmR_mk (by omega) (by omega) hso9 rfl
                      have hkc : (FR (kpR (r 6) (r 7) (r 11) rw cl (r 7 ii)) i j (12 * ii + jj)) ii jj = true := FR_m (kpR_mk hdc hk0) (by omega) (by omega)
                      have hBc := hB0 ii jj hdc
                      refine lv_aload_n hx hb dX2_findFirst_110 rfl (lv_at hl 3 rfl) ?_
                      refine lv_iload hx hb dX2_findFirst_111 (lv_at hl 2 rfl) ?_
                      refine lv_iload hx hb dX2_findFirst_113 (lv_at hl 1 rfl) ?_
                      refine lv_aload_n hx hb dX2_findFirst_115 rfl (lv_at hl 3 rfl) ?_
                      refine va_get (D := G.1) (ci := 2) (v := .ref (a 13)) (C := RX2) (T := TX2) (N := 15) hx hb hts inX2 hown hK.1 hP 0 rfl rfl 13 (by decide) (hts _ mf_X2_57) (fun _ h9 => h9) rfl dX2_findFirst_116 ?_
                      refine lv_iload hx hb dX2_findFirst_119 (lv_at hl 2 rfl) ?_
                      refine lv_iload hx hb dX2_findFirst_121 (lv_at hl 1 rfl) ?_
                      refine rdSN (rest := [.ref (a 13), .int (nI jj), .int (nI ii), .ref (a 15)]) ⟨hx, hb, hml, hown, hts⟩ (c_X6_spotOf l G ((nI ii)) ((nI jj))) mi_yX6_spotOf mst_yX6_spotOf (by decide +kernel) ⟨rfl, rfl, Nat.le_of_ble_eq_true rfl, Nat.le_of_ble_eq_true rfl⟩ hK (fun k q h => by simp at h) rfl hl.1 rfl (Nat.le_of_ble_eq_true rfl) dX2_findFirst_123 ⟨Nat.zero_le _, Nat.zero_le _⟩ hS hA hP (fun r57 H locs hr57 hP hS => ?_)
                      obtain rfl : r57 = nI (ii * 12 + jj) := spot_eq hr57
                      refine xiald (f := (r 13)) hx hb hK hP 8 ((ii * 12 + jj)) (rfl) (by omega) (by decide) rfl dX2_findFirst_126 ?_
                      refine lv_topi (fun v58 ev58 => ?_)
                      obtain rfl : v58 = nI (Lo ii jj) := ev58.trans (hl0 ii jj (by omega) (by omega) hdc)
                      refine wrVVa (rest := []) (q0 := 0) ⟨hx, hb, hml, hown, hts⟩ (e_X2_draw l G a b (upd f 4 x22) (upd qf 3 x31) (up2 r 12 x32) (up2 (up2 (up2 q 0 x28) 1 x29) 2 x30) ii jj (Lo ii jj) (rsT (dmR (r 6) (r 7) rw cl (r 7 ii)) U) (rsT (dmR (r 6) (r 7) rw cl (r 7 ii)) U) Lo Hi (FR (kpR (r 6) (r 7) (r 11) rw cl (r 7 ii)) i j (12 * ii + jj)) (FR (kpR (r 6) (r 7) (r 11) rw cl (r 7 ii)) i j (12 * ii + jj)) (dmR (r 6) (r 7) rw cl (r 7 ii)) (by omega) (by omega) (by omega) (by omega) hdc hkc (fun x y e9 => (kpR_of (FR_i e9).1).1) (fun x y _ _ z9 _ => z9) hSY hv0 hl0 hh0 (fun x y _ _ e9 => ⟨fun _ => e9, fun _ => (kpR_of (FR_i e9).1).2⟩) hB0 (agN_r (fun x y _ _ h7 => by have h6 := hB0 x y (kpR_of (FR_i h7).1).1; exact ⟨h6.2.2.2.2, h6.2.2.2.1⟩))) mi_yX2_draw mv_yX2_draw ml_X2_149 ⟨rfl, rfl, Nat.le_of_ble_eq_true rfl, Nat.le_of_ble_eq_true rfl⟩ hK hP (hDD _ _ _ _) rfl rfl rfl hl.1 rfl (Nat.le_of_ble_eq_true rfl) dX2_findFirst_127 ⟨Nat.zero_le _, Nat.zero_le _⟩ hS hA (fun w60 H locs hw60 hP hS => ?_)
                      obtain ⟨x61, x62, x63, x64, x65, V2, rfl, hv2, hs2, ha2, hb2, hf2, he2⟩ := hw60
                      have hP : PP G (rdW G a b (upd f 4 x22) (upd qf 3 x64) (up2 r 12 x65) (up2 (up2 (up2 q 0 x61) 1 x62) 2 x63)) H := hP
                      have hv2 : rowV (dmR (r 6) (r 7) rw cl (r 7 ii)) V2 x65 := hv2
                      have hs2 : SYN (FR (kpR (r 6) (r 7) (r 11) rw cl (r 7 ii)) i j (12 * ii + jj)) V2 Lo Hi (offT (FR (kpR (r 6) (r 7) (r 11) rw cl (r 7 ii)) i j (12 * ii + jj)) ii jj) x61 := hs2
                      have ha2 : agN (FR (kpR (r 6) (r 7) (r 11) rw cl (r 7 ii)) i j (12 * ii + jj)) Lo Hi (rsT (dmR (r 6) (r 7) rw cl (r 7 ii)) U) V2 := ha2
                      have hb2 : BND (dmR (r 6) (r 7) rw cl (r 7 ii)) Lo Hi V2 := hb2
                      have hf2 : ∀ x y, x < 12 → y < 12 → (dmR (r 6) (r 7) rw cl (r 7 ii)) x y = false → x65 (x * 12 + y) = x32 (x * 12 + y) := hf2
                      have he2 : ENDS (FR (kpR (r 6) (r 7) (r 11) rw cl (r 7 ii)) i j (12 * ii + jj)) Lo Hi (rsT (dmR (r 6) (r 7) rw cl (r 7 ii)) U) ii jj (Lo ii jj) V2 := he2
                      have hLs := LX_s (hLX (r 7 ii)) (by omega) (by omega) (by omega) (by omega) ha2 (fun _ w9 h9 => EN_least hkc he2 (hb2 ii jj hdc).2.2.2.2 h9 (by omega) (by omega))
                      have hRDn := RD_set hRD (r 7 ii) hv2 hLs.1.1 hb2 hf2
                      have hSYn : SYN (FR (kpR (r 6) (r 7) (r 11) rw cl (r 7 ii)) i j (12 * ii + (jj + 1))) (rsT (dmR (r 6) (r 7) rw cl (r 7 ii)) (jnT (dmR (r 6) (r 7) rw cl (r 7 ii)) V2 U)) Lo Hi (FR (kpR (r 6) (r 7) (r 11) rw cl (r 7 ii)) i j (12 * ii + (jj + 1))) x61 := SYN_k hs2 (fun x y hx hy => by rw [and_self8, FR_s hy (by omega)]; unfold offT; cases FR (kpR (r 6) (r 7) (r 11) rw cl (r 7 ii)) i j (12 * ii + jj) x y <;> simp) (fun x y hx hy => RD_jn _ hLs.1.1 x y hx hy)
                      obtain ⟨v66, ev66⟩ : ∃ y9 : Int32, y9 = (nI jj) + Int32.ofInt (1) := ⟨_, rfl⟩
                      refine lv_iinc (v := v66) (lv' := [(5, .int v66), (6, .int 0), (4, .int (nI ii)), (0, .ref (a 15)), (1, .int (nI i)), (2, .int (nI j))]) hx hb dX2_findFirst_130 hl (k := 1) rfl ev66.symm (by decide) rfl (fun ls hl => ?_)
                      obtain rfl : v66 = nI (jj + 1) := nI_plus (i := jj) (j := 1) ev66 rfl (by decide)
                      refine lv_goto (tgt := 62) hx hb dX2_findFirst_133 (by decide) ?_
                      exact ih62k27 (jj + 1) (jnT (dmR (r 6) (r 7) rw cl (r 7 ii)) V2 U) x61 x62 x63 x64 x65 (by omega) (by omega) (hRDn) (FF_s hLX (by omega) (by omega) (by omega) hLs.1) ((FF_e hLs.2).trans hUe) (hSYn) _ _ _ hP hS (lv_sub hl [0, 2, 3, 4, 5] rfl)
                  · have b80 := qeq_t (a := jj) (b := j) (by omega) (by omega) c51
                    refine lv_iconst (v := 1) hx hb dX2_findFirst_83 (by decide) ?_
                    refine lv_goto (tgt := 88) hx hb dX2_findFirst_84 (by decide) ?_
                    refine lv_istore (lv' := [(6, .int 1), (5, .int (nI jj)), (4, .int (nI ii)), (0, .ref (a 15)), (1, .int (nI i)), (2, .int (nI j))]) hx hb dX2_findFirst_88 hl (by decide) rfl (fun ls hl => ?_)
                    refine lv_aload_n hx hb dX2_findFirst_90 rfl (lv_at hl 3 rfl) ?_
                    refine va_get (D := G.1) (ci := 2) (v := .ref (a 11)) (C := RX2) (T := TX2) (N := 15) hx hb hts inX2 hown hK.1 hP 0 rfl rfl 11 (by decide) (hts _ mf_X2_51) (fun _ h9 => h9) rfl dX2_findFirst_91 ?_
                    refine lv_iload hx hb dX2_findFirst_94 (lv_at hl 2 rfl) ?_
                    refine lv_iload hx hb dX2_findFirst_96 (lv_at hl 1 rfl) ?_
                    refine rdSN (rest := [.ref (a 11)]) ⟨hx, hb, hml, hown, hts⟩ (c_X6_spotOf l G ((nI ii)) ((nI jj))) mi_yX6_spotOf mst_yX6_spotOf (by decide +kernel) ⟨rfl, rfl, Nat.le_of_ble_eq_true rfl, Nat.le_of_ble_eq_true rfl⟩ hK (fun k q h => by simp at h) rfl hl.1 rfl (Nat.le_of_ble_eq_true rfl) dX2_findFirst_98 ⟨Nat.zero_le _, Nat.zero_le _⟩ hS hA hP (fun r67 H locs hr67 hP hS => ?_)
                    obtain rfl : r67 = nI (ii * 12 + jj) := spot_eq hr67
                    refine xzald (f := (r 11)) hx hb hK hP 6 ((ii * 12 + jj)) (rfl) (by omega) (by decide) rfl dX2_findFirst_101 ?_
                    refine lv_topi (fun v68 ev68 => ?_)
                    refine lv_if_eq (tgt := 130) hx hb dX2_findFirst_102 (by decide) (fun c69 => ?_) (fun c69 => ?_)
                    · have hk0 : r 11 (ii * 12 + jj) = 0 := ev68.symm.trans c69
                      have hor : r 11 (ii * 12 + jj) = 0 ∨ (ii = i ∧ jj = j) := Or.inl hk0
                      obtain ⟨v70, ev70⟩ : ∃ y9 : Int32, y9 = (nI jj) + Int32.ofInt (1) := ⟨_, rfl⟩
                      refine lv_iinc (v := v70) (lv' := [(5, .int v70), (6, .int 1), (4, .int (nI ii)), (0, .ref (a 15)), (1, .int (nI i)), (2, .int (nI j))]) hx hb dX2_findFirst_130 hl (k := 1) rfl ev70.symm (by decide) rfl (fun ls hl => ?_)
                      obtain rfl : v70 = nI (jj + 1) := nI_plus (i := jj) (j := 1) ev70 rfl (by decide)
                      refine lv_goto (tgt := 62) hx hb dX2_findFirst_133 (by decide) ?_
                      exact ih62k27 (jj + 1) U x28 x29 x30 x31 x32 (by omega) (by omega) (hRD) (FF_n hLX hor (by omega)) (hUe) (SYN_k hSY (fun x y hx hy => by rw [and_self8, and_self8]; exact FR_k (by cases hf9 : FR (kpR (r 6) (r 7) (r 11) rw cl (r 7 ii)) i j (12 * ii + jj) ii jj with | false => rfl | true => exact absurd hor (fun z9 => z9.elim (fun z8 => (kpR_of (FR_i hf9).1).2 z8) (FR_i hf9).2.1)) hy (by omega)) (fun _ _ _ _ => rfl)) _ _ _ hP hS (lv_sub hl [0, 2, 3, 4, 5] rfl)
                    · have hk0 : ¬ r 11 (ii * 12 + jj) = 0 := fun z9 => c69 (ev68.trans z9)
                      refine lv_iload hx hb dX2_findFirst_105 (lv_at hl 0 rfl) ?_
                      refine lv_if_ne (tgt := 130) hx hb dX2_findFirst_107 (by decide) (fun c71 => ?_) (fun c71 => absurd c71 (by decide))
                      have hor : r 11 (ii * 12 + jj) = 0 ∨ (ii = i ∧ jj = j) := Or.inr ⟨by omega, by omega⟩
                      obtain ⟨v72, ev72⟩ : ∃ y9 : Int32, y9 = (nI jj) + Int32.ofInt (1) := ⟨_, rfl⟩
                      refine lv_iinc (v := v72) (lv' := [(5, .int v72), (6, .int 1), (4, .int (nI ii)), (0, .ref (a 15)), (1, .int (nI i)), (2, .int (nI j))]) hx hb dX2_findFirst_130 hl (k := 1) rfl ev72.symm (by decide) rfl (fun ls hl => ?_)
                      obtain rfl : v72 = nI (jj + 1) := nI_plus (i := jj) (j := 1) ev72 rfl (by decide)
                      refine lv_goto (tgt := 62) hx hb dX2_findFirst_133 (by decide) ?_
                      exact ih62k27 (jj + 1) U x28 x29 x30 x31 x32 (by omega) (by omega) (hRD) (FF_n hLX hor (by omega)) (hUe) (SYN_k hSY (fun x y hx hy => by rw [and_self8, and_self8]; exact FR_k (by cases hf9 : FR (kpR (r 6) (r 7) (r 11) rw cl (r 7 ii)) i j (12 * ii + jj) ii jj with | false => rfl | true => exact absurd hor (fun z9 => z9.elim (fun z8 => (kpR_of (FR_i hf9).1).2 z8) (FR_i hf9).2.1)) hy (by omega)) (fun _ _ _ _ => rfl)) _ _ _ hP hS (lv_sub hl [0, 2, 3, 4, 5] rfl)
          exact loop62 (cl + 1) 0 U (jnF x23 i (12 + j) 0 0) x12 x13 x14 x15 (by omega) (by omega) (hRD) (hLX) (hUe) (hSY) _ _ _ hP hS (lv_sub hl [0, 1, 2, 3, 4] rfl)
        · have hso0 : r 6 ii = 0 := ev17.symm.trans c18
          refine lv_goto (tgt := 136) hx hb dX2_findFirst_29 (by decide) ?_
          obtain ⟨v73, ev73⟩ : ∃ y9 : Int32, y9 = (nI ii) + Int32.ofInt (1) := ⟨_, rfl⟩
          refine lv_iinc (v := v73) (lv' := [(4, .int v73), (0, .ref (a 15)), (1, .int (nI i)), (2, .int (nI j))]) hx hb dX2_findFirst_136 hl (k := 0) rfl ev73.symm (by decide) rfl (fun ls hl => ?_)
          obtain rfl : v73 = nI (ii + 1) := nI_plus (i := ii) (j := 1) ev73 rfl (by decide)
          refine lv_goto (tgt := 10) hx hb dX2_findFirst_139 (by decide) ?_
          exact ih10k9 (ii + 1) U x10 x11 x12 x13 x14 x15 (by omega) (by omega) hRB (hRD) (FF_r hLX (fun x y h7 h8 h6 h5 h4 => h6 (by rw [show x = ii by omega]; exact hso0))) (hUe) _ _ _ hP hS (lv_sub hl [0, 1, 2, 3] rfl)
  exact loop10 (rw + 1) 0 V3 x3 x4 x5 x6 x7 x8 (by omega) (by omega) hRB (hRD) (fun cc => LX_0 (hRD.2.2.2.2 cc)) (rfl) _ _ _ hP hS (lv_sub hl [0, 1, 2, 3] rfl)
/-- what witness does: of the class -/
def wtX (g q f1 f2 f3 : Int32) (pl kd nu td ps ru bf bl : Nat → Int32) (m0 m1 : Int32) (ms : Nat → Int32) (i k : Nat) : Prop := LDX f1 f2 f3 pl kd nu td ps ru bf bl (fun rw cl _ _ r6 r7 _ _ r11 => ∃ V : Nat → Nat → Nat, q = nI (V i k) ∧ m0 = nI rw ∧ m1 = nI cl ∧ SHD (fun x y => if r6 x = 0 then -1 else nI (V x y)) ms cl (12 * rw) ∧ (∀ cc, LXW (kpR r6 r7 r11 rw cl cc) (LTc kd nu cl) (HTc kd nu cl) (rsT (dmR r6 r7 rw cl cc) (NTc nu)) i k 144 (rsT (dmR r6 r7 rw cl cc) V)) ∧ ((kpR r6 r7 r11 rw cl (r7 i) i k = false ∧ V i k = NTc nu i k) ∨ (kpR r6 r7 r11 rw cl (r7 i) i k = true ∧ (g = 0 → ∀ w, agN (kpR r6 r7 r11 rw cl (r7 i)) (LTc kd nu cl) (HTc kd nu cl) (rsT (dmR r6 r7 rw cl (r7 i)) (NTc nu)) w → V i k ≤ w i k) ∧ (¬ g = 0 → ∀ w, agN (kpR r6 r7 r11 rw cl (r7 i)) (LTc kd nu cl) (HTc kd nu cl) (rsT (dmR r6 r7 rw cl (r7 i)) (NTc nu)) w → w i k ≤ V i k))))
theorem sh_V {r6 r12 : Nat → Int32} {V : Nat → Nat → Nat} {x y : Nat} (h : ¬ r6 x = 0 → r12 (x * 12 + y) = nI (V x y)) : shV r6 r12 x y = (if r6 x = 0 then -1 else nI (V x y)) := by
  unfold shV
  by_cases c : r6 x = 0
  · rw [if_pos c, if_pos c]
  · rw [if_neg c, if_neg c, h c]
theorem wt_at {S : Nat → Nat → Int32} {ls : Nat → Int32} {l0 l1 q v : Int32} {k0 k1 rw cl i k : Nat} (hrw : rw ≤ 12) (hcl : cl ≤ 12) (h0 : k0 ≤ 12) (h1 : k1 ≤ 12) (e0 : l0 = nI k0) (e1 : l1 = nI k1) (g0 : l0 = nI rw) (g1 : l1 = nI cl) (hs : SHD S ls cl (12 * rw)) (hi : i < rw) (hk : k < cl) (hv : S i k = v) (h : (∃ a b, a < k0 ∧ b < k1 ∧ nI i = nI a ∧ nI k = nI b ∧ q = ls (a * 12 + b)) ∨ (q = -1 ∧ ¬ ∃ a b, a < k0 ∧ b < k1 ∧ nI i = nI a ∧ nI k = nI b)) : q = v := by
  have y0 := (nI_eq (by omega) (by omega)).mp (e0.symm.trans g0)
  have y1 := (nI_eq (by omega) (by omega)).mp (e1.symm.trans g1)
  subst y0 y1
  rcases h with ⟨a, b, ha, hb, ea, eb, e⟩ | ⟨_, hn⟩
  · have x1 := (nI_eq (by omega) (by omega)).mp ea
    have x2 := (nI_eq (by omega) (by omega)).mp eb
    subst x1 x2
    rw [e, hs i k hk (by omega), hv]
  · exact absurd ⟨i, k, hi, hk, rfl, rfl⟩ hn
set_option maxHeartbeats 4000000 in
set_option maxRecDepth 100000 in
theorem y_witness (l : Launch) (G : GG) (x : Nat) (xa ta a b ga ua la lb lc : Nat → Nat) (tg gg : Nat → Option Nat) (xf tf f qf gf uf lf mf nf : Nat → Int32) (tr r q gr ur lr mr nr : Nat → Nat → Int32) (tb : Int32) (row : Int32) (col : Int32) (gr_ : Int32) (j : Nat) (hj : j < 6) (hjt : tbJ tb j) (htg : tg j = some (ta 0)) (hT1 : nL 12 (tf 1)) (hT2 : nL 12 (tf 2)) (hT3 : nL 12 (tf 3)) (hT4 : nOK 12 12 (tr 4)) (hNC : ¬ (tf 0) = 0 → (∀ rw cl, rw ≤ 12 → cl ≤ 12 → (tf 1) = nI rw → (tf 2) = nI cl → NRC rw cl (tr 4) (tr 5) (tr 6)) ∧ ∃ dn up, dn ≤ 1000000 ∧ up ≤ 1000000 ∧ (tr 9) 3 = nI dn ∧ (tr 9) 4 = nI up) (hRB : RB adjR (q 0)) (hL0 : nL 12 (lf 0)) (hL1 : nL 12 (lf 1)) : WrI l yX6_witness cX6_witness 5 (some .int) ({ frames := 6, cells := 0, slots := 0, locals := 157 }) G (xM G x xa ta a b ga ua la lb lc tg gg xf tf f qf gf uf lf mf nf tr r q gr ur lr mr nr) [.ref x, .int tb, .int row, .int col, .int gr_] (fun qz w => ∃ (n_f_0 : Int32) (n_f_1 : Int32) (n_f_2 : Int32) (n_f_3 : Int32) (n_f_4 : Int32) (n_lf_0 : Int32) (n_lf_1 : Int32) (n_lr_2 : Nat → Int32) (n_q_0 : Nat → Int32) (n_q_1 : Nat → Int32) (n_q_2 : Nat → Int32) (n_qf_3 : Int32) (n_r_6 : Nat → Int32) (n_r_7 : Nat → Int32) (n_r_8 : Nat → Int32) (n_r_9 : Nat → Int32) (n_r_10 : Nat → Int32) (n_r_11 : Nat → Int32) (n_r_12 : Nat → Int32) (n_r_13 : Nat → Int32) (n_r_14 : Nat → Int32) (n_xf_0 : Int32) (n_xf_7 : Int32), w = xM G x xa ta a b ga ua la lb lc tg gg (upd (upd xf 0 n_xf_0) 7 n_xf_7) tf (upd (upd (upd (upd (upd f 0 n_f_0) 1 n_f_1) 2 n_f_2) 3 n_f_3) 4 n_f_4) (upd qf 3 n_qf_3) gf uf (upd (upd lf 0 n_lf_0) 1 n_lf_1) mf nf tr (up2 (up2 (up2 (up2 (up2 (up2 (up2 (up2 (up2 r 6 n_r_6) 7 n_r_7) 8 n_r_8) 9 n_r_9) 10 n_r_10) 11 n_r_11) 12 n_r_12) 13 n_r_13) 14 n_r_14) (up2 (up2 (up2 q 0 n_q_0) 1 n_q_1) 2 n_q_2) gr ur (up2 lr 2 n_lr_2) mr nr ∧ atP (stX (tbO tb j (tf 0)) (tf 1) (tf 2) (tr 4) row col) row col (fun i k => sv ((¬ (tr 5) (i * 12 + k) = 0 ∧ ¬ (tr 5) (i * 12 + k) = 5) ∧ sndP ((tf 2)).toNatClampNeg (tr 4) (tr 5) i) (wtX gr_ qz (tf 1) (tf 2) (tf 3) (tr 4) (tr 5) (tr 6) (tr 7) (tr 8) (tr 9) (tr 10) (tr 11) n_lf_0 n_lf_1 n_lr_2 i k) (qz = -1 ∧ n_lf_0 = (lf 0) ∧ n_lf_1 = (lf 1) ∧ n_lr_2 = (lr 2))) (qz = -1 ∧ n_lf_0 = (lf 0) ∧ n_lf_1 = (lf 1) ∧ n_lr_2 = (lr 2)) ∧ (RB adjR n_q_0) ∧ (nL 12 n_lf_0) ∧ (nL 12 n_lf_1)) := by
  refine wr_entryI (by decide +kernel) (Nat.le_of_ble_eq_true rfl) ?_
  intro p e s m below meth c A C0 hP hK hD hA ls hl
  have hS : va_S A s.heap s.heap [] := va_S.rf
  obtain ⟨hx, hb, hml, hown, hts, hr, hlocks, hin⟩ := C0
  have hown : s.vm.findClass RX6 = some m.cls := hown
  have hDD : ∀ xf' tf' f' qf' gf' uf' lf' mf' nf' tr' r' q' gr' ur' lr' mr' nr', va_D A (xM G x xa ta a b ga ua la lb lc tg gg xf' tf' f' qf' gf' uf' lf' mf' nf' tr' r' q' gr' ur' lr' mr' nr') := fun xf' tf' f' qf' gf' uf' lf' mf' nf' tr' r' q' gr' ur' lr' mr' nr' => D_same hD rfl
  have hl : lv_has ls 5 [(0, .ref x), (1, .int tb), (2, .int row), (3, .int col), (4, .int gr_)] := hl
  have hl9 : lf 0 = lf 0 ∧ lf 1 = lf 1 ∧ lr 2 = lr 2 := ⟨rfl, rfl, rfl⟩
  refine lv_aload_n hx hb dX6_witness_0 rfl (lv_at hl 0 rfl) ?_
  refine lv_aload_n hx hb dX6_witness_1 rfl (lv_at hl 0 rfl) ?_
  refine lv_iload_n hx hb dX6_witness_2 rfl (lv_at hl 1 rfl) ?_
  refine lv_iload_n hx hb dX6_witness_3 rfl (lv_at hl 2 rfl) ?_
  refine lv_iload_n hx hb dX6_witness_4 rfl (lv_at hl 3 rfl) ?_
  refine rdV (rest := [.ref x]) (q0 := 0) ⟨hx, hb, hml, hown, hts⟩ (x_soundCellStatus l G x xa ta a b ga ua la lb lc tg gg xf tf f qf gf uf lf mf nf tr r q gr ur lr mr nr tb row col j (by omega) hjt htg hT1 hT2 hT3) mi_yX6_soundCellStatus mv_yX6_soundCellStatus ml_X6_165 ⟨rfl, rfl, Nat.le_of_ble_eq_true rfl, Nat.le_of_ble_eq_true rfl⟩ hK (hP) rfl rfl rfl hl.1 rfl (Nat.le_of_ble_eq_true rfl) dX6_witness_5 ⟨Nat.zero_le _, Nat.zero_le _⟩ hS hA hP (fun r1 H locs hr1 hP hS => ?_)
  have hr1 : stK (stX (tbO tb j (tf 0)) (tf 1) (tf 2) (tr 4) row col) row col (fun i k => kfS ((tr 5) (i * 12 + k)) (sndP ((tf 2)).toNatClampNeg (tr 4) (tr 5) i)) r1 := hr1
  refine wrVIa (rest := []) (q0 := 0) ⟨hx, hb, hml, hown, hts⟩ (x_settled l G x xa ta a b ga ua la lb lc tg gg xf tf f qf gf uf lf mf nf tr r q gr ur lr mr nr r1  ) mi_yX6_settled mv_yX6_settled ml_X6_65 ⟨rfl, rfl, Nat.le_of_ble_eq_true rfl, Nat.le_of_ble_eq_true rfl⟩ hK hP (hDD _ _ _ _ _ _ _ _ _ _ _ _ _ _ _ _ _) rfl rfl rfl hl.1 rfl (Nat.le_of_ble_eq_true rfl) dX6_witness_8 ⟨Nat.zero_le _, Nat.zero_le _⟩ hS hA (fun r2 w3 H locs hw3 hP hS => ?_)
  obtain ⟨x4, rfl, hw3r⟩ := hw3
  have hP : PP G (xM G x xa ta a b ga ua la lb lc tg gg (upd xf 0 x4) tf f qf gf uf lf mf nf tr r q gr ur lr mr nr) H := hP
  have hw3r : ((r2 = 1 ∧ ((r1 : Int32) = 0)) ∨ (r2 = 0 ∧ ¬ ((r1 : Int32) = 0))) := hw3r
  refine lv_if_ne (tgt := 16) hx hb dX6_witness_11 (by decide) (fun c5 => ?_) (fun c5 => ?_)
  · have b11 := bT hw3r c5
    have hs0 := stK_0 hr1 b11
    obtain ⟨⟨ej, ho⟩, q1, q2⟩ := stX_0 hs0 rfl
    subst ej
    have q1c := q1
    have q2c := q2
    obtain ⟨rw, hrw, t1⟩ := hT1
    obtain ⟨cl, hcl, t2⟩ := hT2
    obtain ⟨bk, hbk, t3⟩ := hT3
    have hT1 : nL 12 (tf 1) := ⟨rw, hrw, t1⟩
    have hT2 : nL 12 (tf 2) := ⟨cl, hcl, t2⟩
    have hT3 : nL 12 (tf 3) := ⟨bk, hbk, t3⟩
    rw [t1] at q1c
    rw [t2] at q2c
    obtain ⟨i, hi, ei⟩ := inR_n (by omega) q1c
    subst ei
    obtain ⟨k, hk, ek⟩ := inR_n (by omega) q2c
    subst ek
    have hkk := stK_k hr1 b11 (show i < 12 by omega) (show k < 12 by omega) rfl rfl
    refine lv_aload_n hx hb dX6_witness_16 rfl (lv_at hl 0 rfl) ?_
    refine va_get (D := G.1) (ci := 6) (v := .ref (a 15)) (C := RX6) (T := TX6) (N := 10) hx hb hts inX6 hown hK.1 hP 0 rfl rfl 2 (by decide) (hts _ mf_X6_22) (fun _ h9 => h9) rfl dX6_witness_17 ?_
    refine lv_aload_n hx hb dX6_witness_20 rfl (lv_at hl 0 rfl) ?_
    refine va_get (D := G.1) (ci := 6) (v := .ref (xa 1)) (C := RX6) (T := TX6) (N := 10) hx hb hts inX6 hown hK.1 hP 0 rfl rfl 1 (by decide) (hts _ mf_X6_15) (fun _ h9 => h9) rfl dX6_witness_21 ?_
    refine lv_iload_n hx hb dX6_witness_24 rfl (lv_at hl 1 rfl) ?_
    refine xaldT hx hb hK hP 1 (j) (b := (ta 0)) rfl (by omega) (by decide) rfl (htg) dX6_witness_25 ?_
    refine lawV (rest := []) (q0 := 0) ⟨hx, hb, hml, hown, hts⟩ (e_X2_load l G a b ta f tf r tr rw cl bk hrw hcl hbk t1 t2 t3) mi_yX2_load mv_yX2_load ml_X6_184 ⟨rfl, rfl, Nat.le_of_ble_eq_true rfl, Nat.le_of_ble_eq_true rfl⟩ hK hP (hDD _ _ _ _ _ _ _ _ _ _ _ _ _ _ _ _ _) (pl_perm (xBlk G x xa ta a b ga ua la lb lc tg gg (upd xf 0 x4) tf f qf gf uf lf mf nf tr r q gr ur lr mr nr) (sel := [2, 1]) (oth := [0, 3, 4, 5, 6, 7, 8, 9]) (by decide)) rfl rfl rfl hl.1 rfl (Nat.le_of_ble_eq_true rfl) dX6_witness_26 ⟨Nat.zero_le _, Nat.zero_le _⟩ hS hA (fun w21 H locs hw21 hP hS => ?_)
    obtain ⟨x6, x7, x8, x9, x10, x11, x12, x13, x14, x15, x16, x17, x18, x19, rfl, h0, h1, h2, h3, h4, hLD⟩ := hw21
    have hP : PP G (xM G x xa ta a b ga ua la lb lc tg gg (upd xf 0 x4) tf (upd (upd (upd (upd (upd f 0 x6) 1 x7) 2 x8) 3 x9) 4 x10) qf gf uf lf mf nf tr (up2 (up2 (up2 (up2 (up2 (up2 (up2 (up2 (up2 r 6 x11) 7 x12) 8 x13) 9 x14) 10 x15) 11 x16) 12 x17) 13 x18) 14 x19) q gr ur lr mr nr) H := (hP rfl (xM G x xa ta a b ga ua la lb lc tg gg (upd xf 0 x4) tf (upd (upd (upd (upd (upd f 0 x6) 1 x7) 2 x8) 3 x9) 4 x10) qf gf uf lf mf nf tr (up2 (up2 (up2 (up2 (up2 (up2 (up2 (up2 (up2 r 6 x11) 7 x12) 8 x13) 9 x14) 10 x15) 11 x16) 12 x17) 13 x18) 14 x19) q gr ur lr mr nr) (pl_perm (xBlk G x xa ta a b ga ua la lb lc tg gg (upd xf 0 x4) tf (upd (upd (upd (upd (upd f 0 x6) 1 x7) 2 x8) 3 x9) 4 x10) qf gf uf lf mf nf tr (up2 (up2 (up2 (up2 (up2 (up2 (up2 (up2 (up2 r 6 x11) 7 x12) 8 x13) 9 x14) 10 x15) 11 x16) 12 x17) 13 x18) 14 x19) q gr ur lr mr nr) (sel := [2, 1]) (oth := [0, 3, 4, 5, 6, 7, 8, 9]) (by decide))).1
    obtain ⟨hNC1, dn, up, hdn, hup, e3, e4⟩ := hNC ho
    have hNR := hNC1 rw cl hrw hcl t1 t2
    have hLD : LDR rw cl bk (tr 4) (tr 5) (tr 6) (tr 7) (tr 8) (tr 9) (tr 10) (tr 11) x11 x12 x13 x14 x15 x16 x17 x18 x19 := hLD
    have h0 : x6 = nI rw := h0
    have h1 : x7 = nI cl := h1
    have h2 : x8 = nI dn := h2.trans e3
    have h3 : x9 = nI up := h3.trans e4
    have hRN := (LD_rv hLD hcl hNR).1
    have hRD := LD_rd hLD hrw hcl hbk hNR
    have hSC := LD_sc hLD
    have hSS : ∀ x y, x < rw → y < cl → ¬ x15 (x * 12 + y) = 0 → ¬ x11 x = 0 := fun x y h7 h8 h9 => (hSC x y h7 h8 h9).1
    have hcs := LD_cs hLD hbk
    have hRS : RSY x11 x12 x16 rw cl (NTc (tr 6)) (LTc (tr 5) (tr 6) cl) (HTc (tr 5) (tr 6) cl) x10 (q 0) := Or.inl h4
    have hNN : ∀ x y, x < rw → y < cl → ¬ x11 x = 0 → ∃ m, m ≤ 1000000 ∧ tr 6 (x * 12 + y) = nI m := fun x y h7 h8 h9 => hNR x y h7 h8 ((LD_so hLD h7).mp h9)
    refine lv_aload_n hx hb dX6_witness_29 rfl (lv_at hl 0 rfl) ?_
    refine va_get (D := G.1) (ci := 6) (v := .ref (a 15)) (C := RX6) (T := TX6) (N := 10) hx hb hts inX6 hown hK.1 hP 0 rfl rfl 2 (by decide) (hts _ mf_X6_22) (fun _ h9 => h9) rfl dX6_witness_30 ?_
    refine lv_iload_n hx hb dX6_witness_33 rfl (lv_at hl 2 rfl) ?_
    refine lv_iload_n hx hb dX6_witness_34 rfl (lv_at hl 3 rfl) ?_
    refine lv_iload hx hb dX6_witness_35 (lv_at hl 4 rfl) ?_
    have hsi : ¬ x11 i = 0 := (LD_so hLD hi).mpr (by have h9 := (kfS_i hkk).2; rw [t2, nI_clamp (by omega)] at h9; exact h9)
    refine lawV (rest := []) (q0 := 0) ⟨hx, hb, hml, hown, hts⟩ (e_X2_findFirst l G a b (upd (upd (upd (upd (upd f 0 x6) 1 x7) 2 x8) 3 x9) 4 x10) qf (up2 (up2 (up2 (up2 (up2 (up2 (up2 (up2 (up2 r 6 x11) 7 x12) 8 x13) 9 x14) 10 x15) 11 x16) 12 x17) 13 x18) 14 x19) q i k gr_ rw cl (NTc (tr 6)) (NTc (tr 6)) (LTc (tr 5) (tr 6) cl) (HTc (tr 5) (tr 6) cl) hi hk hsi h0 h1 hRD hRS hRB) mi_yX2_findFirst mv_yX2_findFirst ml_X6_195 ⟨rfl, rfl, Nat.le_of_ble_eq_true rfl, Nat.le_of_ble_eq_true rfl⟩ hK hP (hDD _ _ _ _ _ _ _ _ _ _ _ _ _ _ _ _ _) (pl_perm (xBlk G x xa ta a b ga ua la lb lc tg gg (upd xf 0 x4) tf (upd (upd (upd (upd (upd f 0 x6) 1 x7) 2 x8) 3 x9) 4 x10) qf gf uf lf mf nf tr (up2 (up2 (up2 (up2 (up2 (up2 (up2 (up2 (up2 r 6 x11) 7 x12) 8 x13) 9 x14) 10 x15) 11 x16) 12 x17) 13 x18) 14 x19) q gr ur lr mr nr) (sel := [2, 3]) (oth := [0, 1, 4, 5, 6, 7, 8, 9]) (by decide)) rfl rfl rfl hl.1 rfl (Nat.le_of_ble_eq_true rfl) dX6_witness_37 ⟨Nat.zero_le _, Nat.zero_le _⟩ hS hA (fun w29 H locs hw29 hP hS => ?_)
    obtain ⟨x22, x23, x24, x25, x26, x27, V4, rfl, hRD, hf4, hRB, hLX, hmv⟩ := hw29
    have hP : PP G (xM G x xa ta a b ga ua la lb lc tg gg (upd xf 0 x4) tf (upd (upd (upd (upd (upd f 0 x6) 1 x7) 2 x8) 3 x9) 4 x22) (upd qf 3 x26) gf uf lf mf nf tr (up2 (up2 (up2 (up2 (up2 (up2 (up2 (up2 (up2 r 6 x11) 7 x12) 8 x13) 9 x14) 10 x15) 11 x16) 12 x27) 13 x18) 14 x19) (up2 (up2 (up2 q 0 x23) 1 x24) 2 x25) gr ur lr mr nr) H := (hP rfl (xM G x xa ta a b ga ua la lb lc tg gg (upd xf 0 x4) tf (upd (upd (upd (upd (upd f 0 x6) 1 x7) 2 x8) 3 x9) 4 x22) (upd qf 3 x26) gf uf lf mf nf tr (up2 (up2 (up2 (up2 (up2 (up2 (up2 (up2 (up2 r 6 x11) 7 x12) 8 x13) 9 x14) 10 x15) 11 x16) 12 x27) 13 x18) 14 x19) (up2 (up2 (up2 q 0 x23) 1 x24) 2 x25) gr ur lr mr nr) (pl_perm (xBlk G x xa ta a b ga ua la lb lc tg gg (upd xf 0 x4) tf (upd (upd (upd (upd (upd f 0 x6) 1 x7) 2 x8) 3 x9) 4 x22) (upd qf 3 x26) gf uf lf mf nf tr (up2 (up2 (up2 (up2 (up2 (up2 (up2 (up2 (up2 r 6 x11) 7 x12) 8 x13) 9 x14) 10 x15) 11 x16) 12 x27) 13 x18) 14 x19) (up2 (up2 (up2 q 0 x23) 1 x24) 2 x25) gr ur lr mr nr) (sel := [2, 3]) (oth := [0, 1, 4, 5, 6, 7, 8, 9]) (by decide))).1
    refine lv_aload_n hx hb dX6_witness_40 rfl (lv_at hl 0 rfl) ?_
    refine va_get (D := G.1) (ci := 6) (v := .ref (a 15)) (C := RX6) (T := TX6) (N := 10) hx hb hts inX6 hown hK.1 hP 0 rfl rfl 2 (by decide) (hts _ mf_X6_22) (fun _ h9 => h9) rfl dX6_witness_41 ?_
    refine lv_aload_n hx hb dX6_witness_44 rfl (lv_at hl 0 rfl) ?_
    refine va_get (D := G.1) (ci := 6) (v := .ref (la 0)) (C := RX6) (T := TX6) (N := 10) hx hb hts inX6 hown hK.1 hP 0 rfl rfl 5 (by decide) (hts _ mf_X6_43) (fun _ h9 => h9) rfl dX6_witness_45 ?_
    refine lawV (rest := []) (q0 := 0) ⟨hx, hb, hml, hown, hts⟩ (e_X2_showValues l G a b la (upd (upd (upd (upd (upd f 0 x6) 1 x7) 2 x8) 3 x9) 4 x22) lf (up2 (up2 (up2 (up2 (up2 (up2 (up2 (up2 (up2 r 6 x11) 7 x12) 8 x13) 9 x14) 10 x15) 11 x16) 12 x27) 13 x18) 14 x19) lr rw cl hrw hcl h0 h1) mi_yX2_showValues mv_yX2_showValues ml_X6_198 ⟨rfl, rfl, Nat.le_of_ble_eq_true rfl, Nat.le_of_ble_eq_true rfl⟩ hK hP (hDD _ _ _ _ _ _ _ _ _ _ _ _ _ _ _ _ _) (pl_perm (xBlk G x xa ta a b ga ua la lb lc tg gg (upd xf 0 x4) tf (upd (upd (upd (upd (upd f 0 x6) 1 x7) 2 x8) 3 x9) 4 x22) (upd qf 3 x26) gf uf lf mf nf tr (up2 (up2 (up2 (up2 (up2 (up2 (up2 (up2 (up2 r 6 x11) 7 x12) 8 x13) 9 x14) 10 x15) 11 x16) 12 x27) 13 x18) 14 x19) (up2 (up2 (up2 q 0 x23) 1 x24) 2 x25) gr ur lr mr nr) (sel := [2, 6]) (oth := [0, 1, 3, 4, 5, 7, 8, 9]) (by decide)) rfl rfl rfl hl.1 rfl (Nat.le_of_ble_eq_true rfl) dX6_witness_48 ⟨Nat.zero_le _, Nat.zero_le _⟩ hS hA (fun w34 H locs hw34 hP hS => ?_)
    obtain ⟨x30, x31, x32, rfl, hl0_, hl1_, hsh⟩ := hw34
    have hP : PP G (xM G x xa ta a b ga ua la lb lc tg gg (upd xf 0 x4) tf (upd (upd (upd (upd (upd f 0 x6) 1 x7) 2 x8) 3 x9) 4 x22) (upd qf 3 x26) gf uf (upd (upd lf 0 x30) 1 x31) mf nf tr (up2 (up2 (up2 (up2 (up2 (up2 (up2 (up2 (up2 r 6 x11) 7 x12) 8 x13) 9 x14) 10 x15) 11 x16) 12 x27) 13 x18) 14 x19) (up2 (up2 (up2 q 0 x23) 1 x24) 2 x25) gr ur (up2 lr 2 x32) mr nr) H := (hP rfl (xM G x xa ta a b ga ua la lb lc tg gg (upd xf 0 x4) tf (upd (upd (upd (upd (upd f 0 x6) 1 x7) 2 x8) 3 x9) 4 x22) (upd qf 3 x26) gf uf (upd (upd lf 0 x30) 1 x31) mf nf tr (up2 (up2 (up2 (up2 (up2 (up2 (up2 (up2 (up2 r 6 x11) 7 x12) 8 x13) 9 x14) 10 x15) 11 x16) 12 x27) 13 x18) 14 x19) (up2 (up2 (up2 q 0 x23) 1 x24) 2 x25) gr ur (up2 lr 2 x32) mr nr) (pl_perm (xBlk G x xa ta a b ga ua la lb lc tg gg (upd xf 0 x4) tf (upd (upd (upd (upd (upd f 0 x6) 1 x7) 2 x8) 3 x9) 4 x22) (upd qf 3 x26) gf uf (upd (upd lf 0 x30) 1 x31) mf nf tr (up2 (up2 (up2 (up2 (up2 (up2 (up2 (up2 (up2 r 6 x11) 7 x12) 8 x13) 9 x14) 10 x15) 11 x16) 12 x27) 13 x18) 14 x19) (up2 (up2 (up2 q 0 x23) 1 x24) 2 x25) gr ur (up2 lr 2 x32) mr nr) (sel := [2, 6]) (oth := [0, 1, 3, 4, 5, 7, 8, 9]) (by decide))).1
    have hL0 : nL 12 x30 := ⟨rw, hrw, hl0_⟩
    have hL1 : nL 12 x31 := ⟨cl, hcl, hl1_⟩
    have hsh2 : SHD (fun x y => if x11 x = 0 then -1 else nI (V4 x y)) x32 cl (12 * rw) := fun x y hy hn => (hsh x y hy hn).trans (sh_V (fun z9 => (hRD.2.2.2.1 x y (by omega) hy z9).1))
    refine lv_aload_n hx hb dX6_witness_51 rfl (lv_at hl 0 rfl) ?_
    refine lv_aload_n hx hb dX6_witness_52 rfl (lv_at hl 0 rfl) ?_
    refine va_get (D := G.1) (ci := 6) (v := .ref (a 15)) (C := RX6) (T := TX6) (N := 10) hx hb hts inX6 hown hK.1 hP 0 rfl rfl 2 (by decide) (hts _ mf_X6_22) (fun _ h9 => h9) rfl dX6_witness_53 ?_
    refine lv_iload_n hx hb dX6_witness_56 rfl (lv_at hl 2 rfl) ?_
    refine lv_iload_n hx hb dX6_witness_57 rfl (lv_at hl 3 rfl) ?_
    refine lv_iload hx hb dX6_witness_58 (lv_at hl 4 rfl) ?_
    refine lawI (rest := [.ref x]) (q0 := 0) ⟨hx, hb, hml, hown, hts⟩ (c_X2_cutOf l G a b (upd (upd (upd (upd (upd f 0 x6) 1 x7) 2 x8) 3 x9) 4 x22) (up2 (up2 (up2 (up2 (up2 (up2 (up2 (up2 (up2 r 6 x11) 7 x12) 8 x13) 9 x14) 10 x15) 11 x16) 12 x27) 13 x18) 14 x19) (up2 (up2 (up2 q 0 x23) 1 x24) 2 x25) x26 rw cl hrw hcl h0 h1 i k (by omega) (by omega) gr_ hRB) mi_yX2_cutOf mv_yX2_cutOf ml_X6_202 ⟨rfl, rfl, Nat.le_of_ble_eq_true rfl, Nat.le_of_ble_eq_true rfl⟩ hK hP (hDD _ _ _ _ _ _ _ _ _ _ _ _ _ _ _ _ _) (pl_perm (xBlk G x xa ta a b ga ua la lb lc tg gg (upd xf 0 x4) tf (upd (upd (upd (upd (upd f 0 x6) 1 x7) 2 x8) 3 x9) 4 x22) (upd qf 3 x26) gf uf (upd (upd lf 0 x30) 1 x31) mf nf tr (up2 (up2 (up2 (up2 (up2 (up2 (up2 (up2 (up2 r 6 x11) 7 x12) 8 x13) 9 x14) 10 x15) 11 x16) 12 x27) 13 x18) 14 x19) (up2 (up2 (up2 q 0 x23) 1 x24) 2 x25) gr ur (up2 lr 2 x32) mr nr) (sel := [2, 3]) (oth := [0, 1, 4, 5, 6, 7, 8, 9]) (by decide)) rfl rfl rfl hl.1 rfl (Nat.le_of_ble_eq_true rfl) dX6_witness_60 ⟨Nat.zero_le _, Nat.zero_le _⟩ hS hA (fun r41 w42 H locs hw42 hP hS => ?_)
    obtain ⟨x35, x36, x37, x38, x39, x40, hRB, rfl⟩ := hw42
    have hP : PP G (xM G x xa ta a b ga ua la lb lc tg gg (upd xf 0 x4) tf (upd (upd (upd (upd (upd f 0 x6) 1 x7) 2 x8) 3 x9) 4 x35) (upd qf 3 x40) gf uf (upd (upd lf 0 x30) 1 x31) mf nf tr (up2 (up2 (up2 (up2 (up2 (up2 (up2 (up2 (up2 r 6 (x36 6)) 7 (x36 7)) 8 (x36 8)) 9 (x36 9)) 10 (x36 10)) 11 (x36 11)) 12 (x36 12)) 13 (x36 13)) 14 (x36 14)) (up2 (up2 (up2 q 0 x37) 1 x38) 2 x39) gr ur (up2 lr 2 x32) mr nr) H := (hP rfl (xM G x xa ta a b ga ua la lb lc tg gg (upd xf 0 x4) tf (upd (upd (upd (upd (upd f 0 x6) 1 x7) 2 x8) 3 x9) 4 x35) (upd qf 3 x40) gf uf (upd (upd lf 0 x30) 1 x31) mf nf tr (up2 (up2 (up2 (up2 (up2 (up2 (up2 (up2 (up2 r 6 (x36 6)) 7 (x36 7)) 8 (x36 8)) 9 (x36 9)) 10 (x36 10)) 11 (x36 11)) 12 (x36 12)) 13 (x36 13)) 14 (x36 14)) (up2 (up2 (up2 q 0 x37) 1 x38) 2 x39) gr ur (up2 lr 2 x32) mr nr) (pl_perm (xBlk G x xa ta a b ga ua la lb lc tg gg (upd xf 0 x4) tf (upd (upd (upd (upd (upd f 0 x6) 1 x7) 2 x8) 3 x9) 4 x35) (upd qf 3 x40) gf uf (upd (upd lf 0 x30) 1 x31) mf nf tr (up2 (up2 (up2 (up2 (up2 (up2 (up2 (up2 (up2 r 6 (x36 6)) 7 (x36 7)) 8 (x36 8)) 9 (x36 9)) 10 (x36 10)) 11 (x36 11)) 12 (x36 12)) 13 (x36 13)) 14 (x36 14)) (up2 (up2 (up2 q 0 x37) 1 x38) 2 x39) gr ur (up2 lr 2 x32) mr nr) (sel := [2, 3]) (oth := [0, 1, 4, 5, 6, 7, 8, 9]) (by decide))).1
    refine va_put (D := G.1) (ci := 6) (v := .int r41) (C := RX6) (T := TX6) (N := 10) hx hb hts inX6 tyX6 tyX6_ok nmX6 hown hK.1 hP (hDD _ _ _ _ _ _ _ _ _ _ _ _ _ _ _ _ _) hS 0 rfl rfl 7 (by decide) (hts _ mf_X6_50) (fun _ h9 => h9) rfl (tyX6_ok 7 (by decide)) (rfl) (rfl) (Nat.le_of_ble_eq_true rfl) dX6_witness_63 (fun H locs hP _ hS => ?_)
    have hP : PP G (xM G x xa ta a b ga ua la lb lc tg gg (upd (upd xf 0 x4) 7 r41) tf (upd (upd (upd (upd (upd f 0 x6) 1 x7) 2 x8) 3 x9) 4 x35) (upd qf 3 x40) gf uf (upd (upd lf 0 x30) 1 x31) mf nf tr (up2 (up2 (up2 (up2 (up2 (up2 (up2 (up2 (up2 r 6 (x36 6)) 7 (x36 7)) 8 (x36 8)) 9 (x36 9)) 10 (x36 10)) 11 (x36 11)) 12 (x36 12)) 13 (x36 13)) 14 (x36 14)) (up2 (up2 (up2 q 0 x37) 1 x38) 2 x39) gr ur (up2 lr 2 x32) mr nr) H := hP
    refine lv_aload_n hx hb dX6_witness_66 rfl (lv_at hl 0 rfl) ?_
    refine va_get (D := G.1) (ci := 6) (v := .ref (la 0)) (C := RX6) (T := TX6) (N := 10) hx hb hts inX6 hown hK.1 hP 0 rfl rfl 5 (by decide) (hts _ mf_X6_43) (fun _ h9 => h9) rfl dX6_witness_67 ?_
    refine lv_iload_n hx hb dX6_witness_70 rfl (lv_at hl 2 rfl) ?_
    refine lv_iload_n hx hb dX6_witness_71 rfl (lv_at hl 3 rfl) ?_
    obtain ⟨k0, hk0, ek0⟩ := hL0
    obtain ⟨k1, hk1, ek1⟩ := hL1
    have hL0 : nL 12 x30 := ⟨k0, hk0, ek0⟩
    have hL1 : nL 12 x31 := ⟨k1, hk1, ek1⟩
    refine rdV (rest := []) (q0 := 0) ⟨hx, hb, hml, hown, hts⟩ (c_X1_at l G la x32 k0 k1 hk0 hk1 (nI i) (nI k)) mi_yX1_at mv_yX1_at ml_X6_206 ⟨rfl, rfl, Nat.le_of_ble_eq_true rfl, Nat.le_of_ble_eq_true rfl⟩ hK (leaf_w (blk_sub (ws' := lW G la x30 x31 x32) (xBlk G x xa ta a b ga ua la lb lc tg gg (upd (upd xf 0 x4) 7 r41) tf (upd (upd (upd (upd (upd f 0 x6) 1 x7) 2 x8) 3 x9) 4 x35) (upd qf 3 x40) gf uf (upd (upd lf 0 x30) 1 x31) mf nf tr (up2 (up2 (up2 (up2 (up2 (up2 (up2 (up2 (up2 r 6 (x36 6)) 7 (x36 7)) 8 (x36 8)) 9 (x36 9)) 10 (x36 10)) 11 (x36 11)) 12 (x36 12)) 13 (x36 13)) 14 (x36 14)) (up2 (up2 (up2 q 0 x37) 1 x38) 2 x39) gr ur (up2 lr 2 x32) mr nr) (i := 6) hP rfl (by decide)) ek0 ek1) rfl rfl rfl hl.1 rfl (Nat.le_of_ble_eq_true rfl) dX6_witness_72 ⟨Nat.zero_le _, Nat.zero_le _⟩ hS hA hP (fun r43 H locs hr43 hP hS => ?_)
    exact wr_iret hx hb hr hlocks hS hP ⟨x6, x7, x8, x9, x35, x30, x31, x32, x37, x38, x39, x40, (x36 6), (x36 7), (x36 8), (x36 9), (x36 10), (x36 11), (x36 12), (x36 13), (x36 14), x4, r41, rfl, Or.inr ⟨hs0, i, k, by omega, by omega, rfl, rfl, Or.inl ⟨kfS_i hkk, ⟨rw, cl, bk, dn, up, x11, x12, x13, x14, x15, x16, x17, x18, x19, hrw, hcl, hbk, t1, t2, t3, e3, e4, hdn, hup, hNR, hLD, V4, wt_at hrw hcl hk0 hk1 ek0 ek1 hl0_ hl1_ hsh2 hi hk (if_neg hsi) hr43, hl0_, hl1_, hsh2, hLX, hmv⟩⟩⟩, hRB, hL0, hL1⟩ dX6_witness_75
  · have b11 := bF hw3r c5
    refine lv_iconst (v := -1) hx hb dX6_witness_14 (by decide) ?_
    exact wr_iret hx hb hr hlocks hS hP ⟨(f 0), (f 1), (f 2), (f 3), (f 4), (lf 0), (lf 1), (lr 2), (q 0), (q 1), (q 2), (qf 3), (r 6), (r 7), (r 8), (r 9), (r 10), (r 11), (r 12), (r 13), (r 14), x4, (xf 7), rfl, atP_n hr1 b11 ⟨rfl, hl9⟩ (fun i k h => Or.inr ⟨fun z => h (kfS_g z.1.1 z.1.2 z.2), rfl, hl9⟩), hRB, hL0, hL1⟩ dX6_witness_15
def seX (m0 m1 : Int32) (ms : Nat → Int32) (row col q : Int32) : Prop := (∃ i c, i < 12 ∧ c < 12 ∧ row = nI i ∧ col = nI c ∧ inR m0 row ∧ inR m1 col ∧ q = ms (i * 12 + c)) ∨ (¬ (inR m0 row ∧ inR m1 col) ∧ q = -1)
theorem se_at {n0 n1 row col q : Int32} {ns : Nat → Int32} {k0 k1 : Nat} (h0 : k0 ≤ 12) (h1 : k1 ≤ 12) (e0 : n0 = nI k0) (e1 : n1 = nI k1) (h : (∃ i c, i < k0 ∧ c < k1 ∧ row = nI i ∧ col = nI c ∧ q = ns (i * 12 + c)) ∨ (q = -1 ∧ ¬ ∃ i c, i < k0 ∧ c < k1 ∧ row = nI i ∧ col = nI c)) : seX n0 n1 ns row col q := by
  rcases h with ⟨i, c, hi, hc, er, ec, e⟩ | ⟨e, hn⟩
  · exact Or.inl ⟨i, c, by omega, by omega, er, ec, by rw [e0, er]; exact inR_mk (by omega) hi, by rw [e1, ec]; exact inR_mk (by omega) hc, e⟩
  · refine Or.inr ⟨fun ⟨b1, b2⟩ => hn ?_, e⟩
    rw [e0] at b1
    rw [e1] at b2
    obtain ⟨i, hi, er⟩ := inR_n (by omega) b1
    obtain ⟨c, hc, ec⟩ := inR_n (by omega) b2
    exact ⟨i, c, hi, hc, er, ec⟩
set_option maxHeartbeats 4000000 in
set_option maxRecDepth 100000 in
theorem y_seen (l : Launch) (G : GG) (x : Nat) (xa ta a b ga ua la lb lc : Nat → Nat) (tg gg : Nat → Option Nat) (xf tf f qf gf uf lf mf nf : Nat → Int32) (tr r q gr ur lr mr nr : Nat → Nat → Int32) (row : Int32) (col : Int32) (hL0 : nL 12 (lf 0)) (hL1 : nL 12 (lf 1)) : RdI l yX6_seen cX6_seen 3 (some .int) ({ frames := 2, cells := 0, slots := 0, locals := 44 }) G (xM G x xa ta a b ga ua la lb lc tg gg xf tf f qf gf uf lf mf nf tr r q gr ur lr mr nr) [.ref x, .int row, .int col] (fun qz => (seX (lf 0) (lf 1) (lr 2) row col qz)) := by
  refine rd_entry (by decide +kernel) (Nat.le_of_ble_eq_true rfl) ?_
  intro p e s m below meth c C0 hP hK ls hl
  have hS : va_S (fun q => s.heap.size ≤ q) s.heap s.heap [] := va_S.rf
  have hA : ∀ q, s.heap.size ≤ q → (fun q => s.heap.size ≤ q) q := fun _ h => h
  obtain ⟨hx, hb, hml, hown, hts, hr, hlocks, hin⟩ := C0
  have hown : s.vm.findClass RX6 = some m.cls := hown
  have hl : lv_has ls 3 [(0, .ref x), (1, .int row), (2, .int col)] := hl
  refine lv_aload_n hx hb dX6_seen_0 rfl (lv_at hl 0 rfl) ?_
  refine va_get (D := G.1) (ci := 6) (v := .ref (la 0)) (C := RX6) (T := TX6) (N := 10) hx hb hts inX6 hown hK.1 hP 0 rfl rfl 5 (by decide) (hts _ mf_X6_43) (fun _ h9 => h9) rfl dX6_seen_1 ?_
  refine lv_iload_n hx hb dX6_seen_4 rfl (lv_at hl 1 rfl) ?_
  refine lv_iload_n hx hb dX6_seen_5 rfl (lv_at hl 2 rfl) ?_
  obtain ⟨k0, hk0, ek0⟩ := hL0
  obtain ⟨k1, hk1, ek1⟩ := hL1
  have hL0 : nL 12 (lf 0) := ⟨k0, hk0, ek0⟩
  have hL1 : nL 12 (lf 1) := ⟨k1, hk1, ek1⟩
  refine rdV (rest := []) (q0 := 0) ⟨hx, hb, hml, hown, hts⟩ (c_X1_at l G la (lr 2) k0 k1 hk0 hk1 row col) mi_yX1_at mv_yX1_at ml_X6_206 ⟨rfl, rfl, Nat.le_of_ble_eq_true rfl, Nat.le_of_ble_eq_true rfl⟩ hK (leaf_w (blk_sub (ws' := lW G la (lf 0) (lf 1) (lr 2)) (xBlk G x xa ta a b ga ua la lb lc tg gg xf tf f qf gf uf lf mf nf tr r q gr ur lr mr nr) (i := 6) hP rfl (by decide)) ek0 ek1) rfl rfl rfl hl.1 rfl (Nat.le_of_ble_eq_true rfl) dX6_seen_6 ⟨Nat.zero_le _, Nat.zero_le _⟩ hS hA hP (fun r1 H locs hr1 hP hS => ?_)
  exact rd_iret hx hb hr hlocks hS ((se_at hk0 hk1 ek0 ek1 hr1)) dX6_seen_9
set_option maxHeartbeats 4000000 in
set_option maxRecDepth 100000 in
theorem y_rounded (l : Launch) (G : GG) (x : Nat) (xa ta a b ga ua la lb lc : Nat → Nat) (tg gg : Nat → Option Nat) (xf tf f qf gf uf lf mf nf : Nat → Int32) (tr r q gr ur lr mr nr : Nat → Nat → Int32) (row : Int32) (col : Int32) (hM0 : nL 12 (mf 0)) (hM1 : nL 12 (mf 1)) : RdI l yX6_rounded cX6_rounded 3 (some .int) ({ frames := 2, cells := 0, slots := 0, locals := 44 }) G (xM G x xa ta a b ga ua la lb lc tg gg xf tf f qf gf uf lf mf nf tr r q gr ur lr mr nr) [.ref x, .int row, .int col] (fun qz => (seX (mf 0) (mf 1) (mr 2) row col qz)) := by
  refine rd_entry (by decide +kernel) (Nat.le_of_ble_eq_true rfl) ?_
  intro p e s m below meth c C0 hP hK ls hl
  have hS : va_S (fun q => s.heap.size ≤ q) s.heap s.heap [] := va_S.rf
  have hA : ∀ q, s.heap.size ≤ q → (fun q => s.heap.size ≤ q) q := fun _ h => h
  obtain ⟨hx, hb, hml, hown, hts, hr, hlocks, hin⟩ := C0
  have hown : s.vm.findClass RX6 = some m.cls := hown
  have hl : lv_has ls 3 [(0, .ref x), (1, .int row), (2, .int col)] := hl
  refine lv_aload_n hx hb dX6_rounded_0 rfl (lv_at hl 0 rfl) ?_
  refine va_get (D := G.1) (ci := 6) (v := .ref (lb 0)) (C := RX6) (T := TX6) (N := 10) hx hb hts inX6 hown hK.1 hP 0 rfl rfl 6 (by decide) (hts _ mf_X6_47) (fun _ h9 => h9) rfl dX6_rounded_1 ?_
  refine lv_iload_n hx hb dX6_rounded_4 rfl (lv_at hl 1 rfl) ?_
  refine lv_iload_n hx hb dX6_rounded_5 rfl (lv_at hl 2 rfl) ?_
  obtain ⟨k0, hk0, ek0⟩ := hM0
  obtain ⟨k1, hk1, ek1⟩ := hM1
  have hM0 : nL 12 (mf 0) := ⟨k0, hk0, ek0⟩
  have hM1 : nL 12 (mf 1) := ⟨k1, hk1, ek1⟩
  refine rdV (rest := []) (q0 := 0) ⟨hx, hb, hml, hown, hts⟩ (c_X1_at l G lb (mr 2) k0 k1 hk0 hk1 row col) mi_yX1_at mv_yX1_at ml_X6_206 ⟨rfl, rfl, Nat.le_of_ble_eq_true rfl, Nat.le_of_ble_eq_true rfl⟩ hK (leaf_w (blk_sub (ws' := lW G lb (mf 0) (mf 1) (mr 2)) (xBlk G x xa ta a b ga ua la lb lc tg gg xf tf f qf gf uf lf mf nf tr r q gr ur lr mr nr) (i := 7) hP rfl (by decide)) ek0 ek1) rfl rfl rfl hl.1 rfl (Nat.le_of_ble_eq_true rfl) dX6_rounded_6 ⟨Nat.zero_le _, Nat.zero_le _⟩ hS hA hP (fun r1 H locs hr1 hP hS => ?_)
  exact rd_iret hx hb hr hlocks hS ((se_at hk0 hk1 ek0 ek1 hr1)) dX6_rounded_9
