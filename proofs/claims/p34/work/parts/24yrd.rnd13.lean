
theorem inR_mr {k i : Nat} (hk : k ≤ 16) (hi : i < k) : inR (nI k) (nI i) := ⟨nI_pos (by omega), fun z => absurd ((nI_leI (by omega) (by omega)).mp z) (by omega)⟩
theorem nI_nm2 {n : Nat} (h : n < 2147483648) : ¬ nI n = -2 := fun e => by
  have h1 := congrArg Int32.toInt e
  rw [nI_toInt h, show (-2 : Int32).toInt = -2 by decide] at h1
  omega
theorem clM_m2 {bf bl : Nat → Int32} {t : Nat} {row : Int32} : ∀ n, n ≤ 12 → ¬ (clM bf bl t row n).1 = -2
  | 0, _ => by show ¬ (-1 : Int32) = -2; decide
  | n + 1, h => by
    show ¬ (if bf (12 * t + n) ≤ row ∧ row ≤ bl (12 * t + n) ∧ bl (12 * t + n) - bf (12 * t + n) < (clM bf bl t row n).2 then (nI n, bl (12 * t + n) - bf (12 * t + n)) else clM bf bl t row n).1 = -2
    split
    · exact nI_nm2 (by omega)
    · exact clM_m2 n (by omega)
/-- a rounding that is as the cells before and has this one down -/
def EXP (dm : Nat → Nat → Bool) (O SD : Nat → Nat → Nat) (B x y : Nat) : Prop := ∃ Y, FEAS O B Y ∧ (∀ a b, a < 12 → b < 12 → 12 * a + b < 12 * x + y → dm a b = true → Y a b = SD a b) ∧ Y x y = 0
/-- one cell is decided -/
def DC1 (dm : Nat → Nat → Bool) (O SD : Nat → Nat → Nat) (B x y : Nat) : Prop := (O x y = 0 ∧ SD x y = 0) ∨ (¬ O x y = 0 ∧ ((SD x y = 0 ∧ EXP dm O SD B x y) ∨ (SD x y = 1 ∧ ¬ EXP dm O SD B x y)))
theorem EXP_c {dm : Nat → Nat → Bool} {O SD S2 : Nat → Nat → Nat} {B x y : Nat} (h : ∀ a b, a < 12 → b < 12 → 12 * a + b < 12 * x + y → dm a b = true → S2 a b = SD a b) : EXP dm O S2 B x y ↔ EXP dm O SD B x y := ⟨fun ⟨Y, h1, h2, h3⟩ => ⟨Y, h1, fun a b ha hb hl hd => (h2 a b ha hb hl hd).trans (h a b ha hb hl hd), h3⟩, fun ⟨Y, h1, h2, h3⟩ => ⟨Y, h1, fun a b ha hb hl hd => (h2 a b ha hb hl hd).trans (h a b ha hb hl hd).symm, h3⟩⟩
/-- the sides while they are told: below n they are decided, from n on they are 0 where nothing is over, else 2 -/
def SDI (gr : Nat → Int32) (rw cl B n : Nat) (NM SD : Nat → Nat → Nat) : Prop := (∀ x y, x < rw → y < cl → SD x y ≤ 2) ∧ (∀ x y, x < rw → y < cl → gr x = -2 → SD x y = 0) ∧ (∀ x y, x < rw → y < cl → ¬ gr x = -2 → 12 * x + y < n → DC1 (dmG gr rw cl (gr x)) (oG (dmG gr rw cl (gr x)) NM B) SD B x y) ∧ ∀ x y, x < rw → y < cl → ¬ gr x = -2 → n ≤ 12 * x + y → SD x y = if NM x y % B = 0 then 0 else 2
theorem DC1_le {dm : Nat → Nat → Bool} {O SD : Nat → Nat → Nat} {B x y : Nat} (h : DC1 dm O SD B x y) : SD x y ≤ 1 := by
  rcases h with h | ⟨_, h | h⟩ <;> omega
theorem SDI_row {gr : Nat → Int32} {rw cl B i k : Nat} {NM SD : Nat → Nat → Nat} (h : SDI gr rw cl B (12 * i + k) NM SD) (hcl : cl ≤ 12) (hk : cl ≤ k) (hk2 : k ≤ 12) : SDI gr rw cl B (12 * (i + 1)) NM SD := ⟨h.1, h.2.1, fun x y hx hy hg hl => h.2.2.1 x y hx hy hg (by omega), fun x y hx hy hg hl => h.2.2.2 x y hx hy hg (by omega)⟩
/-- a cell that is not asked about -/
theorem SDI_n {gr : Nat → Int32} {rw cl B i k : Nat} {NM SD : Nat → Nat → Nat} (hi : i < rw) (hk : k < cl) (hcl : cl ≤ 12) (h : SDI gr rw cl B (12 * i + k) NM SD) (hn : ¬ SD i k = 2) : SDI gr rw cl B (12 * i + k + 1) NM SD := by
  refine ⟨h.1, h.2.1, fun x y hx hy hg hl => ?_, fun x y hx hy hg hl => h.2.2.2 x y hx hy hg (by omega)⟩
  by_cases c : x = i ∧ y = k
  · obtain ⟨rfl, rfl⟩ := c
    have e := h.2.2.2 x y hx hy hg (by omega)
    by_cases z : NM x y % B = 0
    · rw [if_pos z] at e
      exact Or.inl ⟨by unfold oG; rw [if_pos (dmG_mk hx hy rfl)]; exact z, e⟩
    · rw [if_neg z] at e; exact absurd e hn
  · exact h.2.2.1 x y hx hy hg (by omega)
theorem SDI_a {gr : Nat → Int32} {rw cl B i k s : Nat} {NM SD : Nat → Nat → Nat} (hrw : rw ≤ 12) (hi : i < rw) (hk : k < cl) (hcl : cl ≤ 12) (h : SDI gr rw cl B (12 * i + k) NM SD) (h2 : SD i k = 2) (hs : (s = 0 ∧ EXS (dmG gr rw cl (gr i)) (oG (dmG gr rw cl (gr i)) NM B) (upT SD i k 0) B) ∨ (s = 1 ∧ ¬ EXS (dmG gr rw cl (gr i)) (oG (dmG gr rw cl (gr i)) NM B) (upT SD i k 0) B)) : SDI gr rw cl B (12 * i + k + 1) NM (upT SD i k s) := by
  have hg : ¬ gr i = -2 := fun z => by rw [h.2.1 i k hi hk z] at h2; exact absurd h2 (by decide)
  have hne : ∀ x y, y < cl → 12 * x + y < 12 * i + k → ¬ (x = i ∧ y = k) := fun x y _ hl z => by omega
  have key : EXS (dmG gr rw cl (gr i)) (oG (dmG gr rw cl (gr i)) NM B) (upT SD i k 0) B ↔ EXP (dmG gr rw cl (gr i)) (oG (dmG gr rw cl (gr i)) NM B) (upT SD i k s) B i k := by
    constructor
    · rintro ⟨Y, h1, h3⟩
      refine ⟨Y, h1, fun a b ha hb hl hd => ?_, (h3 i k (by omega) (by omega) (dmG_mk hi hk rfl)).2 upT_s⟩
      obtain ⟨da, db, dg⟩ := dmG_of hd
      have e1 := hne a b db hl
      have d1 := DC1_le (h.2.2.1 a b da db (by rw [dg]; exact hg) hl)
      have q := h3 a b ha hb hd
      rw [upT_n e1] at q
      rw [upT_n e1]
      by_cases z : SD a b = 1
      · rw [z]; exact q.1 z
      · rw [show SD a b = 0 by omega]; exact q.2 (by omega)
    · rintro ⟨Y, h1, h3, h4⟩
      refine ⟨Y, h1, fun a b ha hb hd => ?_⟩
      obtain ⟨da, db, dg⟩ := dmG_of hd
      by_cases c : a = i ∧ b = k
      · obtain ⟨rfl, rfl⟩ := c
        rw [upT_s]; exact ⟨fun z => absurd z (by decide), fun _ => h4⟩
      · rw [upT_n c]
        by_cases l : 12 * a + b < 12 * i + k
        · have q := h3 a b ha hb l hd
          rw [upT_n c] at q
          rw [q]; exact ⟨fun z => z, fun z => z⟩
        · have q := h.2.2.2 a b da db (by rw [dg]; exact hg) (by omega)
          by_cases z : NM a b % B = 0
          · rw [if_pos z] at q
            rw [q]
            exact ⟨fun y => absurd y (by decide), fun _ => (h1.1 a b ha hb).2 (by unfold oG; rw [if_pos hd]; exact z)⟩
          · rw [if_neg z] at q
            rw [q]; exact ⟨fun y => absurd y (by decide), fun y => absurd y (by decide)⟩
  have hO : ¬ oG (dmG gr rw cl (gr i)) NM B i k = 0 := fun z => by
    have q := h.2.2.2 i k hi hk hg (by omega)
    unfold oG at z
    rw [if_pos (dmG_mk hi hk rfl)] at z
    rw [if_pos z] at q
    omega
  refine ⟨fun x y hx hy => ?_, fun x y hx hy hg2 => ?_, fun x y hx hy hg2 hl => ?_, fun x y hx hy hg2 hl => ?_⟩
  · by_cases c : x = i ∧ y = k
    · rw [c.1, c.2, upT_s]; rcases hs with ⟨z, _⟩ | ⟨z, _⟩ <;> omega
    · rw [upT_n c]; exact h.1 x y hx hy
  · rw [upT_n (show ¬ (x = i ∧ y = k) from fun c => hg (by rw [← c.1]; exact hg2))]; exact h.2.1 x y hx hy hg2
  · by_cases c : x = i ∧ y = k
    · obtain ⟨rfl, rfl⟩ := c
      refine Or.inr ⟨hO, ?_⟩
      rw [upT_s]
      rcases hs with ⟨z, e⟩ | ⟨z, e⟩
      · exact Or.inl ⟨z, key.mp e⟩
      · exact Or.inr ⟨z, fun y => e (key.mpr y)⟩
    · have q := h.2.2.1 x y hx hy hg2 (by omega)
      unfold DC1 at q ⊢
      rw [upT_n c]
      have e : EXP (dmG gr rw cl (gr x)) (oG (dmG gr rw cl (gr x)) NM B) (upT SD i k s) B x y ↔ EXP (dmG gr rw cl (gr x)) (oG (dmG gr rw cl (gr x)) NM B) SD B x y := EXP_c (fun a b _ hb hl2 _ => upT_n (fun z => by omega))
      rw [e]; exact q
  · rw [upT_n (fun c => by omega)]; exact h.2.2.2 x y hx hy hg2 (by omega)
/-- the reference's cells that are above -/
def upG (gr : Nat → Int32) (rw cl : Nat) (SD : Nat → Nat → Nat) (x y : Nat) : Prop := x < rw ∧ y < cl ∧ ¬ gr x = -2 ∧ SD x y = 1
def rdM (tb ba q : Int32) (r1 r2 r3 r5 r6 r11 r12 r13 r14 : Nat → Int32) (f34 f35 : Int32) (r32 r33 : Nat → Int32) (g34 g35 : Int32) (s32 s33 : Nat → Int32) : Prop := (¬ (opn r1 tb ∧ ¬ ba < 2 ∧ ba ≤ 1000) ∧ q = -1 ∧ g34 = f34 ∧ g35 = f35 ∧ s32 = r32 ∧ s33 = r33) ∨ ∃ t rw cl bk B SD, t < 6 ∧ tb = nI t ∧ ¬ r1 t = 0 ∧ rw ≤ 12 ∧ cl ≤ 12 ∧ bk ≤ 12 ∧ r2 t = nI rw ∧ r3 t = nI cl ∧ r12 t = nI bk ∧ 2 ≤ B ∧ B ≤ 1000 ∧ ba = nI B ∧ (∀ x, x < rw → (sndN (r3 t) r11 r5 t x → s33 x = (clM r13 r14 t (nI x) bk).1) ∧ (¬ sndN (r3 t) r11 r5 t x → s33 x = -2)) ∧ SDI s33 rw cl B (12 * rw) (fun x y => (r6 (144 * t + 12 * x + y)).toNatClampNeg) SD ∧ q = nI (rkG (upG s33 rw cl SD) (12 * rw)) ∧ g34 = nI rw ∧ g35 = nI cl ∧ ∀ x y, x < rw → y < cl → ¬ s33 x = -2 → s32 (12 * x + y) = nI ((r6 (144 * t + 12 * x + y)).toNatClampNeg / B * B + SD x y * B)
def rtM (f34 f35 : Int32) (r32 r33 : Nat → Int32) (row col q : Int32) : Prop := (∃ i c, i < 12 ∧ c < 12 ∧ row = nI i ∧ col = nI c ∧ inR f34 row ∧ inR f35 col ∧ q = if r33 i = -2 then -1 else r32 (12 * i + c)) ∨ (¬ (inR f34 row ∧ inR f35 col) ∧ q = -1)
theorem SDI_0 {gr r31 : Nat → Int32} {rw cl B : Nat} {NM : Nat → Nat → Nat} (h : ∀ x y, x < rw → y < cl → r31 (12 * x + y) = if gr x = -2 then 0 else if NM x y % B = 0 then 0 else 2) : SDI gr rw cl B (12 * 0) NM (fun x y => (r31 (12 * x + y)).toNatClampNeg) ∧ ∀ x y, x < rw → y < cl → r31 (12 * x + y) = nI ((r31 (12 * x + y)).toNatClampNeg) := by
  have key : ∀ x y, x < rw → y < cl → (r31 (12 * x + y)).toNatClampNeg = (if gr x = -2 then 0 else if NM x y % B = 0 then 0 else 2) ∧ r31 (12 * x + y) = nI ((r31 (12 * x + y)).toNatClampNeg) := fun x y hx hy => by
    rw [h x y hx hy]
    by_cases c : gr x = -2
    · rw [if_pos c, if_pos c]; exact ⟨rfl, rfl⟩
    · rw [if_neg c, if_neg c]
      by_cases d : NM x y % B = 0
      · rw [if_pos d, if_pos d]; exact ⟨rfl, rfl⟩
      · rw [if_neg d, if_neg d]; exact ⟨rfl, rfl⟩
  refine ⟨⟨fun x y hx hy => ?_, fun x y hx hy hg => ?_, fun x y _ _ _ hl => absurd hl (by omega), fun x y hx hy hg _ => ?_⟩, fun x y hx hy => (key x y hx hy).2⟩
  · show (r31 (12 * x + y)).toNatClampNeg ≤ 2
    rw [(key x y hx hy).1]; split
    · omega
    · split <;> omega
  · show (r31 (12 * x + y)).toNatClampNeg = 0
    rw [(key x y hx hy).1, if_pos hg]
  · show (r31 (12 * x + y)).toNatClampNeg = _
    rw [(key x y hx hy).1, if_neg hg]
theorem snd_of {p : Prop} {a b : Int32} (h : (p → a = b) ∧ (¬ p → a = -2)) (hg : ¬ a = -2) : p := Classical.byContradiction (fun z => hg (h.2 z))
section UP
variable {gr r31 : Nat → Int32} {rw cl B i k : Nat} {NM SD : Nat → Nat → Nat}
theorem up31 (h : ∀ x y, x < rw → y < cl → r31 (12 * x + y) = nI (SD x y)) (hcl : cl ≤ 12) (hi : i < rw) (hk : k < cl) (x y : Nat) (hx : x < rw) (hy : y < cl) : upd r31 (12 * i + k) 0 (12 * x + y) = nI (upT SD i k 0 x y) := by
  by_cases c : x = i ∧ y = k
  · obtain ⟨rfl, rfl⟩ := c
    rw [pk_us, upT_s]; rfl
  · rw [pk_un (by omega), upT_n c]; exact h x y hx hy
theorem up31b (h : ∀ x y, x < rw → y < cl → r31 (12 * x + y) = nI (SD x y)) (hcl : cl ≤ 12) (hi : i < rw) (hk : k < cl) (x y : Nat) (hx : x < rw) (hy : y < cl) : upd (upd r31 (12 * i + k) 0) (12 * i + k) 1 (12 * x + y) = nI (upT SD i k 1 x y) := by
  by_cases c : x = i ∧ y = k
  · obtain ⟨rfl, rfl⟩ := c
    rw [pk_us, upT_s]; rfl
  · rw [pk_un (by omega), pk_un (by omega), upT_n c]; exact h x y hx hy
theorem up_le {n x y : Nat} (h : SDI gr rw cl B n NM SD) (hx : x < rw) (hy : y < cl) : upT SD i k 0 x y ≤ 2 := by
  by_cases c : x = i ∧ y = k
  · rw [c.1, c.2, upT_s]; omega
  · rw [upT_n c]; exact h.1 x y hx hy
theorem up_z {x y : Nat} (h : SDI gr rw cl B (12 * i + k) NM SD) (h2 : SD i k = 2) (hk : k < 12) (hx : x < rw) (hy : y < cl) (hg : ¬ gr x = -2) (hz : NM x y % B = 0) : upT SD i k 0 x y = 0 := by
  by_cases c : x = i ∧ y = k
  · rw [c.1, c.2, upT_s]
  · rw [upT_n c]
    by_cases l : 12 * x + y < 12 * i + k
    · rcases h.2.2.1 x y hx hy hg l with q | ⟨q, _⟩
      · exact q.2
      · exact absurd (by unfold oG; rw [if_pos (dmG_mk hx hy rfl)]; exact hz) q
    · have q := h.2.2.2 x y hx hy hg (by omega)
      rw [if_pos hz] at q; exact q
theorem sd_le (h : SDI gr rw cl B (12 * i + k + 1) NM SD) (hi : i < rw) (hk : k < cl) : SD i k ≤ 1 := by
  by_cases g : gr i = -2
  · rw [h.2.1 i k hi hk g]; omega
  · exact DC1_le (h.2.2.1 i k hi hk g (by omega))
theorem upG_c {S2 : Nat → Nat → Nat} {x y : Nat} (h : True → SD x y = S2 x y) : upG gr rw cl SD x y ↔ upG gr rw cl S2 x y := by
  unfold upG; rw [h trivial]
theorem upG_v (hi : i < rw) (hk : k < cl) (h : SDI gr rw cl B (12 * i + k + 1) NM SD) (hle : SD i k ≤ 1) : (SD i k = 1 ∧ upG gr rw cl SD i k) ∨ (SD i k = 0 ∧ ¬ upG gr rw cl SD i k) := by
  by_cases c : SD i k = 1
  · exact Or.inl ⟨c, hi, hk, fun z => by rw [h.2.1 i k hi hk z] at c; exact absurd c (by decide), c⟩
  · exact Or.inr ⟨by omega, fun z => c z.2.2.2⟩
end UP
theorem rk_cg {M M2 : Nat → Nat → Prop} : ∀ {n : Nat}, (∀ x y, y < 12 → 12 * x + y < n → (M x y ↔ M2 x y)) → rkG M n = rkG M2 n
  | 0, _ => rfl
  | n + 1, h => by
    have ih := rk_cg (n := n) (fun x y hy hl => h x y hy (by omega))
    have e := h (n / 12) (n % 12) (by omega) (by omega)
    rw [rk_s, rk_s, ih, pB_c e]
theorem rk_01 {M : Nat → Nat → Prop} {x y s : Nat} (hy : y < 12) (h : (s = 1 ∧ M x y) ∨ (s = 0 ∧ ¬ M x y)) : rkG M (12 * x + y) + s = rkG M (12 * x + (y + 1)) := by
  rcases h with ⟨rfl, m⟩ | ⟨rfl, m⟩
  · exact (rk_y hy m).symm
  · exact (rk_n hy m).symm
theorem rt_v {num v1 v2 v3 : Int32} {m bs s : Nat} (hn : num = nI m) (hm : m ≤ 1000000) (h1 : 2 ≤ bs) (h9 : bs ≤ 1000) (e1 : v1 = num / nI bs) (e2 : v2 = v1 * nI bs) (e3 : v3 = v2 + nI (s * bs)) : v3 = nI (m / bs * bs + s * bs) := nI_plus e3 (nI_times e2 (nI_quo e1 hn rfl (by omega) (by omega) (by omega)) rfl) rfl
set_option maxHeartbeats 4000000 in
set_option maxRecDepth 100000 in
theorem n_round (l : Launch) (G : GG) (y : Nat) (b : Nat → Nat) (f : Nat → Int32) (r : Nat → Nat → Int32) (tb : Int32) (ba : Int32) (hM2 : nOK 6 12 (r 2)) (hM3 : nOK 6 12 (r 3)) (hM12 : nOK 6 12 (r 12)) (h34 : nL 12 (f 34)) (h35 : nL 12 (f 35)) (hNA : ∀ t rw cl, t < 6 → rw ≤ 12 → cl ≤ 12 → ¬ (r 1) t = 0 → (r 2) t = nI rw → (r 3) t = nI cl → NRM rw cl t (r 3) (r 5) (r 6) (r 11)) : WrI l yX7_round cX7_round 7 (some .int) ({ frames := 3, cells := 0, slots := 0, locals := 75 }) G (mM G y b f r) [.ref y, .int tb, .int ba] (fun q w => ∃ (n_f_0 : Int32) (n_f_34 : Int32) (n_f_35 : Int32) (n_r_31 : Nat → Int32) (n_r_32 : Nat → Int32) (n_r_33 : Nat → Int32) (n_r_36 : Nat → Int32) (n_r_37 : Nat → Int32) (n_r_38 : Nat → Int32), w = mM G y b (upd (upd (upd f 0 n_f_0) 34 n_f_34) 35 n_f_35) (up2 (up2 (up2 (up2 (up2 (up2 r 31 n_r_31) 32 n_r_32) 33 n_r_33) 36 n_r_36) 37 n_r_37) 38 n_r_38) ∧ rdM tb ba q (r 1) (r 2) (r 3) (r 5) (r 6) (r 11) (r 12) (r 13) (r 14) (f 34) (f 35) (r 32) (r 33) n_f_34 n_f_35 n_r_32 n_r_33 ∧ (nL 12 n_f_34) ∧ (nL 12 n_f_35)) := by
  refine wr_entryI (by decide +kernel) (Nat.le_of_ble_eq_true rfl) ?_
  intro p e s m below meth c A C0 hP hK hD hA ls hl
  have hS : va_S A s.heap s.heap [] := va_S.rf
  obtain ⟨hx, hb, hml, hown, hts, hr, hlocks, hin⟩ := C0
  have hown : s.vm.findClass RX7 = some m.cls := hown
  have hDD : ∀ f' r', va_D A (mM G y b f' r') := fun f' r' => D_same hD rfl
  have hl : lv_has ls 7 [(0, .ref y), (1, .int tb), (2, .int ba)] := hl
  refine lv_aload_n hx hb dX7_round_0 rfl (lv_at hl 0 rfl) ?_
  refine lv_aload_n hx hb dX7_round_1 rfl (lv_at hl 0 rfl) ?_
  refine lv_iload_n hx hb dX7_round_2 rfl (lv_at hl 1 rfl) ?_
  refine rdV (rest := [.ref y]) (q0 := 0) ⟨hx, hb, hml, hown, hts⟩ (m_X7_isTable l G y b f r tb  ) mi_yX7_isTable mv_yX7_isTable ml_X7_120 ⟨rfl, rfl, Nat.le_of_ble_eq_true rfl, Nat.le_of_ble_eq_true rfl⟩ hK (hP) rfl rfl rfl hl.1 rfl (Nat.le_of_ble_eq_true rfl) dX7_round_3 ⟨Nat.zero_le _, Nat.zero_le _⟩ hS hA hP (fun r1 H locs hr1 hP hS => ?_)
  have hr1 : ((r1 = 1 ∧ (opn (r 1) tb)) ∨ (r1 = 0 ∧ ¬ (opn (r 1) tb))) := hr1
  refine lv_if_ne (tgt := 13) hx hb dX7_round_6 (by decide) (fun c2 => ?_) (fun c2 => ?_)
  · have b6 := bT hr1 c2
    obtain ⟨t, ht, rfl, hop⟩ := b6
    obtain ⟨rw, hrw, h2⟩ := hM2 t ht
    obtain ⟨cl, hcl, h3⟩ := hM3 t ht
    obtain ⟨bk, hbk, h12⟩ := hM12 t ht
    have hNR := hNA t rw cl ht hrw hcl hop h2 h3
    have ebk : (r 12 t).toNatClampNeg = bk := by rw [h12]; exact nI_clamp (by omega)
    refine lv_iload_n hx hb dX7_round_13 rfl (lv_at hl 2 rfl) ?_
    refine lv_iconst (v := 2) hx hb dX7_round_14 (by decide) ?_
    refine lv_icmp_lt (tgt := 25) hx hb dX7_round_15 (by decide) (fun c3 => ?_) (fun c3 => ?_)
    · refine lv_bipush (v := 7) hx hb dX7_round_25 (by decide) ?_
      refine lv_goto (tgt := 31) hx hb dX7_round_27 (by decide) ?_
      refine va_put (D := G.1) (ci := 7) (v := .int 7) (C := RX7) (T := TX7) (N := 43) hx hb hts inX7 tyX7 tyX7_ok nmX7 hown hK.1 hP (hDD _ _) hS 0 rfl rfl 0 (by decide) (hts _ mf_X7_116) (fun _ h9 => h9) rfl (tyX7_ok 0 (by decide)) (rfl) (rfl) (Nat.le_of_ble_eq_true rfl) dX7_round_31 (fun H locs hP _ hS => ?_)
      have hP : PP G (mM G y b (upd f 0 7) r) H := hP
      refine lv_aload_n hx hb dX7_round_34 rfl (lv_at hl 0 rfl) ?_
      refine va_get (D := G.1) (ci := 7) (v := .int 7) (C := RX7) (T := TX7) (N := 43) hx hb hts inX7 hown hK.1 hP 0 rfl rfl 0 (by decide) (hts _ mf_X7_116) (fun _ h9 => h9) rfl dX7_round_35 ?_
      refine lv_if_le (tgt := 43) hx hb dX7_round_38 (by decide) (fun c4 => absurd c4 (by decide)) (fun c4 => ?_)
      refine lv_iconst (v := -1) hx hb dX7_round_41 (by decide) ?_
      exact wr_iret hx hb hr hlocks hS hP ⟨7, (f 34), (f 35), (r 31), (r 32), (r 33), (r 36), (r 37), (r 38), rfl, (Or.inl ⟨fun z9 => z9.2.1 c3, rfl, rfl, rfl, rfl, rfl⟩), h34, h35⟩ dX7_round_42
    · refine lv_iload_n hx hb dX7_round_18 rfl (lv_at hl 2 rfl) ?_
      refine lv_sipush (v := 1000) hx hb dX7_round_19 (by decide) ?_
      refine lv_icmp_le (tgt := 30) hx hb dX7_round_22 (by decide) (fun c5 => ?_) (fun c5 => ?_)
      · obtain ⟨bs, hb1, hb9, ebs⟩ := bs_n c3 c5
        subst ebs
        refine lv_iconst (v := 0) hx hb dX7_round_30 (by decide) ?_
        refine va_put (D := G.1) (ci := 7) (v := .int 0) (C := RX7) (T := TX7) (N := 43) hx hb hts inX7 tyX7 tyX7_ok nmX7 hown hK.1 hP (hDD _ _) hS 0 rfl rfl 0 (by decide) (hts _ mf_X7_116) (fun _ h9 => h9) rfl (tyX7_ok 0 (by decide)) (rfl) (rfl) (Nat.le_of_ble_eq_true rfl) dX7_round_31 (fun H locs hP _ hS => ?_)
        have hP : PP G (mM G y b (upd f 0 0) r) H := hP
        refine lv_aload_n hx hb dX7_round_34 rfl (lv_at hl 0 rfl) ?_
        refine va_get (D := G.1) (ci := 7) (v := .int 0) (C := RX7) (T := TX7) (N := 43) hx hb hts inX7 hown hK.1 hP 0 rfl rfl 0 (by decide) (hts _ mf_X7_116) (fun _ h9 => h9) rfl dX7_round_35 ?_
        refine lv_if_le (tgt := 43) hx hb dX7_round_38 (by decide) (fun c6 => ?_) (fun c6 => absurd (by decide) c6)
        refine lv_aload_n hx hb dX7_round_43 rfl (lv_at hl 0 rfl) ?_
        refine lv_aload_n hx hb dX7_round_44 rfl (lv_at hl 0 rfl) ?_
        refine va_get (D := G.1) (ci := 7) (v := .ref (b 2)) (C := RX7) (T := TX7) (N := 43) hx hb hts inX7 hown hK.1 hP 0 rfl rfl 2 (by decide) (hts _ mf_X7_13) (fun _ h9 => h9) rfl dX7_round_45 ?_
        refine lv_iload_n hx hb dX7_round_48 rfl (lv_at hl 1 rfl) ?_
        refine xiald (f := (r 2)) hx hb hK hP 2 (t) (rfl) (by omega) (by decide) rfl dX7_round_49 ?_
        refine lv_topi (fun v7 ev7 => ?_)
        obtain rfl : v7 = nI (rw) := ev7.trans (h2)
        refine va_put (D := G.1) (ci := 7) (v := .int (nI (rw))) (C := RX7) (T := TX7) (N := 43) hx hb hts inX7 tyX7 tyX7_ok nmX7 hown hK.1 hP (hDD _ _) hS 0 rfl rfl 34 (by decide) (hts _ mf_X7_265) (fun _ h9 => h9) rfl (tyX7_ok 34 (by decide)) (rfl) (rfl) (Nat.le_of_ble_eq_true rfl) dX7_round_50 (fun H locs hP _ hS => ?_)
        have hP : PP G (mM G y b (upd (upd f 0 0) 34 (nI (rw))) r) H := hP
        have h34 : nL 12 (nI (rw)) := ⟨rw, hrw, rfl⟩
        refine lv_aload_n hx hb dX7_round_53 rfl (lv_at hl 0 rfl) ?_
        refine lv_aload_n hx hb dX7_round_54 rfl (lv_at hl 0 rfl) ?_
        refine va_get (D := G.1) (ci := 7) (v := .ref (b 3)) (C := RX7) (T := TX7) (N := 43) hx hb hts inX7 hown hK.1 hP 0 rfl rfl 3 (by decide) (hts _ mf_X7_17) (fun _ h9 => h9) rfl dX7_round_55 ?_
        refine lv_iload_n hx hb dX7_round_58 rfl (lv_at hl 1 rfl) ?_
        refine xiald (f := (r 3)) hx hb hK hP 3 (t) (rfl) (by omega) (by decide) rfl dX7_round_59 ?_
        refine lv_topi (fun v8 ev8 => ?_)
        obtain rfl : v8 = nI (cl) := ev8.trans (h3)
        refine va_put (D := G.1) (ci := 7) (v := .int (nI (cl))) (C := RX7) (T := TX7) (N := 43) hx hb hts inX7 tyX7 tyX7_ok nmX7 hown hK.1 hP (hDD _ _) hS 0 rfl rfl 35 (by decide) (hts _ mf_X7_268) (fun _ h9 => h9) rfl (tyX7_ok 35 (by decide)) (rfl) (rfl) (Nat.le_of_ble_eq_true rfl) dX7_round_60 (fun H locs hP _ hS => ?_)
        have hP : PP G (mM G y b (upd (upd (upd f 0 0) 34 (nI (rw))) 35 (nI (cl))) r) H := hP
        have h35 : nL 12 (nI (cl)) := ⟨cl, hcl, rfl⟩
        refine lv_iconst (v := 0) hx hb dX7_round_63 (by decide) ?_
        refine lv_istore_n (lv' := [(3, .int 0), (0, .ref y), (1, .int (nI t)), (2, .int (nI bs))]) hx hb dX7_round_64 rfl hl (by decide) rfl (fun ls hl => ?_)
        have loop65 : ∀ (k9 i : Nat) (x10 : Nat → Int32) (x11 : Nat → Int32), i ≤ rw → rw < i + k9 → (∀ x, x < i → (sndN (r 3 t) (r 11) (r 5) t x → x11 x = (clM (r 13) (r 14) t (nI x) bk).1) ∧ (¬ sndN (r 3 t) (r 11) (r 5) t x → x11 x = -2)) → (∀ x y, y < cl → 12 * x + y < 12 * i → x10 (12 * x + y) = if x11 x = -2 then 0 else if (r 6 (144 * t + 12 * x + y)).toNatClampNeg % bs = 0 then 0 else 2) → ∀ (H : Heap) (locs : List Loc) (ls : Array Slot), PP G (mM G y b (upd (upd (upd f 0 0) 34 (nI (rw))) 35 (nI (cl))) (up2 (up2 r 31 x10) 33 x11)) H → va_S A s.heap H locs → lv_has ls 7 [(3, .int (nI i)), (0, .ref y), (1, .int (nI t)), (2, .int (nI bs))] → W p l e ({ frames := 3, cells := 0, slots := 0, locals := 75 }) s m ([.ref y, .int (nI t), .int (nI bs)] : List Value).toArray below meth c H locs 0 0 (MQ below (QwI G (fun q w => ∃ (n_f_0 : Int32) (n_f_34 : Int32) (n_f_35 : Int32) (n_r_31 : Nat → Int32) (n_r_32 : Nat → Int32) (n_r_33 : Nat → Int32) (n_r_36 : Nat → Int32) (n_r_37 : Nat → Int32) (n_r_38 : Nat → Int32), w = mM G y b (upd (upd (upd f 0 n_f_0) 34 n_f_34) 35 n_f_35) (up2 (up2 (up2 (up2 (up2 (up2 r 31 n_r_31) 32 n_r_32) 33 n_r_33) 36 n_r_36) 37 n_r_37) 38 n_r_38) ∧ rdM (nI t) (nI bs) q (r 1) (r 2) (r 3) (r 5) (r 6) (r 11) (r 12) (r 13) (r 14) (f 34) (f 35) (r 32) (r 33) n_f_34 n_f_35 n_r_32 n_r_33 ∧ (nL 12 n_f_34) ∧ (nL 12 n_f_35)) A) ([.ref y, .int (nI t), .int (nI bs)] : List Value).toArray s 0 0 A) (F0 m 65 ls []) := by
          intro k9
          induction k9 with
          | zero => intro i x10 x11 h1 h2; exact absurd h1 (by omega)
          | succ k9 ih65k9 =>
            intro i x10 x11 hi_i hk_i hgr hfs H locs ls hP hS hl
            refine lv_iload_n hx hb dX7_round_65 rfl (lv_at hl 0 rfl) ?_
            refine lv_aload_n hx hb dX7_round_66 rfl (lv_at hl 1 rfl) ?_
            refine va_get (D := G.1) (ci := 7) (v := .int (nI (rw))) (C := RX7) (T := TX7) (N := 43) hx hb hts inX7 hown hK.1 hP 0 rfl rfl 34 (by decide) (hts _ mf_X7_265) (fun _ h9 => h9) rfl dX7_round_67 ?_
            refine lv_icmp_ge (tgt := 168) hx hb dX7_round_70 (by decide) (fun c12 => ?_) (fun c12 => ?_)
            · have b70 := qge_t (a := i) (b := (rw)) (by omega) (by omega) c12
              have hgr9 := hgr
              have hs0 : SDI x11 rw cl bs (12 * 0) (fun x y => (r 6 (144 * t + 12 * x + y)).toNatClampNeg) (fun x y => (x10 (12 * x + y)).toNatClampNeg) ∧ ∀ x y, x < rw → y < cl → x10 (12 * x + y) = nI ((x10 (12 * x + y)).toNatClampNeg) := SDI_0 (fun x y hx hy => hfs x y hy (by omega))
              refine lv_iconst (v := 0) hx hb dX7_round_168 (by decide) ?_
              refine lv_istore_n (lv' := [(3, .int 0), (0, .ref y), (1, .int (nI t)), (2, .int (nI bs))]) hx hb dX7_round_169 rfl hl (by decide) rfl (fun ls hl => ?_)
              refine lv_iconst (v := 0) hx hb dX7_round_170 (by decide) ?_
              refine lv_istore (lv' := [(4, .int 0), (3, .int 0), (0, .ref y), (1, .int (nI t)), (2, .int (nI bs))]) hx hb dX7_round_171 hl (by decide) rfl (fun ls hl => ?_)
              have loop173 : ∀ (k13 i2 : Nat) (ab : Nat) (SDk : Nat → Nat → Nat) (x15 : Nat → Int32) (x16 : Nat → Int32) (x17 : Nat → Int32) (x18 : Nat → Int32) (x19 : Nat → Int32), i2 ≤ rw → rw < i2 + k13 → (ab ≤ 144) → (SDI x11 rw cl bs (12 * i2) (fun x y => (r 6 (144 * t + 12 * x + y)).toNatClampNeg) SDk) → (∀ x y, x < rw → y < cl → x15 (12 * x + y) = nI (SDk x y)) → (ab = rkG (upG x11 rw cl SDk) (12 * i2)) → (∀ x y, y < cl → 12 * x + y < 12 * i2 → ¬ x11 x = -2 → x16 (12 * x + y) = nI ((r 6 (144 * t + 12 * x + y)).toNatClampNeg / bs * bs + SDk x y * bs)) → ∀ (H : Heap) (locs : List Loc) (ls : Array Slot), PP G (mM G y b (upd (upd (upd f 0 0) 34 (nI (rw))) 35 (nI (cl))) (up2 (up2 (up2 (up2 (up2 (up2 r 31 x15) 32 x16) 33 x11) 36 x17) 37 x18) 38 x19)) H → va_S A s.heap H locs → lv_has ls 7 [(4, .int (nI i2)), (3, .int (nI ab)), (0, .ref y), (1, .int (nI t)), (2, .int (nI bs))] → W p l e ({ frames := 3, cells := 0, slots := 0, locals := 75 }) s m ([.ref y, .int (nI t), .int (nI bs)] : List Value).toArray below meth c H locs 0 0 (MQ below (QwI G (fun q w => ∃ (n_f_0 : Int32) (n_f_34 : Int32) (n_f_35 : Int32) (n_r_31 : Nat → Int32) (n_r_32 : Nat → Int32) (n_r_33 : Nat → Int32) (n_r_36 : Nat → Int32) (n_r_37 : Nat → Int32) (n_r_38 : Nat → Int32), w = mM G y b (upd (upd (upd f 0 n_f_0) 34 n_f_34) 35 n_f_35) (up2 (up2 (up2 (up2 (up2 (up2 r 31 n_r_31) 32 n_r_32) 33 n_r_33) 36 n_r_36) 37 n_r_37) 38 n_r_38) ∧ rdM (nI t) (nI bs) q (r 1) (r 2) (r 3) (r 5) (r 6) (r 11) (r 12) (r 13) (r 14) (f 34) (f 35) (r 32) (r 33) n_f_34 n_f_35 n_r_32 n_r_33 ∧ (nL 12 n_f_34) ∧ (nL 12 n_f_35)) A) ([.ref y, .int (nI t), .int (nI bs)] : List Value).toArray s 0 0 A) (F0 m 173 ls []) := by
                intro k13
                induction k13 with
                | zero => intro i2 ab SDk x15 x16 x17 x18 x19 h1 h2; exact absurd h1 (by omega)
                | succ k13 ih173k13 =>
                  intro i2 ab SDk x15 x16 x17 x18 x19 hi_i2 hk_i2 gab hsd hsr hab hto H locs ls hP hS hl
                  refine lv_iload hx hb dX7_round_173 (lv_at hl 0 rfl) ?_
                  refine lv_aload_n hx hb dX7_round_175 rfl (lv_at hl 2 rfl) ?_
                  refine va_get (D := G.1) (ci := 7) (v := .int (nI (rw))) (C := RX7) (T := TX7) (N := 43) hx hb hts inX7 hown hK.1 hP 0 rfl rfl 34 (by decide) (hts _ mf_X7_265) (fun _ h9 => h9) rfl dX7_round_176 ?_
                  refine lv_icmp_ge (tgt := 303) hx hb dX7_round_179 (by decide) (fun c20 => ?_) (fun c20 => ?_)
                  · have b179 := qge_t (a := i2) (b := (rw)) (by omega) (by omega) c20
                    refine lv_iload_n hx hb dX7_round_303 rfl (lv_at hl 1 rfl) ?_
                    exact wr_iret hx hb hr hlocks hS hP ⟨0, (nI (rw)), (nI (cl)), x15, x16, x11, x17, x18, x19, rfl, (Or.inr ⟨t, rw, cl, bk, bs, SDk, ht, rfl, hop, hrw, hcl, hbk, h2, h3, h12, hb1, hb9, rfl, fun x hx => hgr9 x (by omega), by rw [show 12 * rw = 12 * i2 by omega]; exact hsd, by rw [show 12 * rw = 12 * i2 by omega]; exact congrArg nI hab, rfl, rfl, fun x y hx hy hg => hto x y hy (by omega) hg⟩), h34, h35⟩ dX7_round_304
                  · have b179 := qge_f (a := i2) (b := (rw)) (by omega) (by omega) c20
                    refine lv_iconst (v := 0) hx hb dX7_round_182 (by decide) ?_
                    refine lv_istore (lv' := [(5, .int 0), (4, .int (nI i2)), (3, .int (nI ab)), (0, .ref y), (1, .int (nI t)), (2, .int (nI bs))]) hx hb dX7_round_183 hl (by decide) rfl (fun ls hl => ?_)
                    have loop185 : ∀ (k21 k2 : Nat) (ab : Nat) (SDk : Nat → Nat → Nat) (x23 : Nat → Int32) (x24 : Nat → Int32) (x25 : Nat → Int32) (x26 : Nat → Int32) (x27 : Nat → Int32), k2 ≤ cl → cl < k2 + k21 → (ab ≤ 144) → (SDI x11 rw cl bs (12 * i2 + k2) (fun x y => (r 6 (144 * t + 12 * x + y)).toNatClampNeg) SDk) → (∀ x y, x < rw → y < cl → x23 (12 * x + y) = nI (SDk x y)) → (ab = rkG (upG x11 rw cl SDk) (12 * i2 + k2)) → (∀ x y, y < cl → 12 * x + y < 12 * i2 + k2 → ¬ x11 x = -2 → x24 (12 * x + y) = nI ((r 6 (144 * t + 12 * x + y)).toNatClampNeg / bs * bs + SDk x y * bs)) → ∀ (H : Heap) (locs : List Loc) (ls : Array Slot), PP G (mM G y b (upd (upd (upd f 0 0) 34 (nI (rw))) 35 (nI (cl))) (up2 (up2 (up2 (up2 (up2 (up2 r 31 x23) 32 x24) 33 x11) 36 x25) 37 x26) 38 x27)) H → va_S A s.heap H locs → lv_has ls 7 [(5, .int (nI k2)), (4, .int (nI i2)), (3, .int (nI ab)), (0, .ref y), (1, .int (nI t)), (2, .int (nI bs))] → W p l e ({ frames := 3, cells := 0, slots := 0, locals := 75 }) s m ([.ref y, .int (nI t), .int (nI bs)] : List Value).toArray below meth c H locs 0 0 (MQ below (QwI G (fun q w => ∃ (n_f_0 : Int32) (n_f_34 : Int32) (n_f_35 : Int32) (n_r_31 : Nat → Int32) (n_r_32 : Nat → Int32) (n_r_33 : Nat → Int32) (n_r_36 : Nat → Int32) (n_r_37 : Nat → Int32) (n_r_38 : Nat → Int32), w = mM G y b (upd (upd (upd f 0 n_f_0) 34 n_f_34) 35 n_f_35) (up2 (up2 (up2 (up2 (up2 (up2 r 31 n_r_31) 32 n_r_32) 33 n_r_33) 36 n_r_36) 37 n_r_37) 38 n_r_38) ∧ rdM (nI t) (nI bs) q (r 1) (r 2) (r 3) (r 5) (r 6) (r 11) (r 12) (r 13) (r 14) (f 34) (f 35) (r 32) (r 33) n_f_34 n_f_35 n_r_32 n_r_33 ∧ (nL 12 n_f_34) ∧ (nL 12 n_f_35)) A) ([.ref y, .int (nI t), .int (nI bs)] : List Value).toArray s 0 0 A) (F0 m 185 ls []) := by
                      intro k21
                      induction k21 with
                      | zero => intro k2 ab SDk x23 x24 x25 x26 x27 h1 h2; exact absurd h1 (by omega)
                      | succ k21 ih185k21 =>
                        intro k2 ab SDk x23 x24 x25 x26 x27 hi_k2 hk_k2 gab hsd hsr hab hto H locs ls hP hS hl
                        refine lv_iload hx hb dX7_round_185 (lv_at hl 0 rfl) ?_
                        refine lv_aload_n hx hb dX7_round_187 rfl (lv_at hl 3 rfl) ?_
                        refine va_get (D := G.1) (ci := 7) (v := .int (nI (cl))) (C := RX7) (T := TX7) (N := 43) hx hb hts inX7 hown hK.1 hP 0 rfl rfl 35 (by decide) (hts _ mf_X7_268) (fun _ h9 => h9) rfl dX7_round_188 ?_
                        refine lv_icmp_ge (tgt := 297) hx hb dX7_round_191 (by decide) (fun c28 => ?_) (fun c28 => ?_)
                        · have b191 := qge_t (a := k2) (b := (cl)) (by omega) (by omega) c28
                          obtain ⟨v29, ev29⟩ : ∃ y9 : Int32, y9 = (nI i2) + Int32.ofInt (1) := ⟨_, rfl⟩
                          refine lv_iinc (v := v29) (lv' := [(4, .int v29), (5, .int (nI k2)), (3, .int (nI ab)), (0, .ref y), (1, .int (nI t)), (2, .int (nI bs))]) hx hb dX7_round_297 hl (k := 1) rfl ev29.symm (by decide) rfl (fun ls hl => ?_)
                          obtain rfl : v29 = nI (i2 + 1) := nI_plus (i := i2) (j := 1) ev29 rfl (by decide)
                          refine lv_goto (tgt := 173) hx hb dX7_round_300 (by decide) ?_
                          exact ih173k13 (i2 + 1) ab SDk x23 x24 x25 x26 x27 (by omega) (by omega) (by omega) (SDI_row hsd hcl (by omega) (by omega)) (hsr) (by rw [hab]; exact (rk_end (x := i2) (cl := k2) (by omega) (fun y h8 z9 => absurd z9.2.1 (by omega))).symm) (fun x y hy h9 hg => hto x y hy (by omega) hg) _ _ _ hP hS (lv_sub hl [0, 2, 3, 4, 5] rfl)
                        · have b191 := qge_f (a := k2) (b := (cl)) (by omega) (by omega) c28
                          refine lv_bipush (v := 12) hx hb dX7_round_194 (by decide) ?_
                          refine lv_iload hx hb dX7_round_196 (lv_at hl 1 rfl) ?_
                          refine lv_imul hx hb dX7_round_198 ?_
                          refine lv_topi (fun v30 ev30 => ?_)
                          obtain rfl : v30 = nI (12 * i2) := nI_times ev30 rfl rfl
                          refine lv_iload hx hb dX7_round_199 (lv_at hl 0 rfl) ?_
                          refine lv_iadd hx hb dX7_round_201 ?_
                          refine lv_topi (fun v31 ev31 => ?_)
                          obtain rfl : v31 = nI ((12 * i2) + k2) := nI_plus ev31 rfl rfl
                          refine lv_istore (lv' := [(6, .int (nI ((12 * i2) + k2))), (5, .int (nI k2)), (4, .int (nI i2)), (3, .int (nI ab)), (0, .ref y), (1, .int (nI t)), (2, .int (nI bs))]) hx hb dX7_round_202 hl (by decide) rfl (fun ls hl => ?_)
                          have hs2 := hsd.1 i2 k2 (by omega) (by omega)
                          refine lv_aload_n hx hb dX7_round_204 rfl (lv_at hl 4 rfl) ?_
                          refine va_get (D := G.1) (ci := 7) (v := .ref (b 31)) (C := RX7) (T := TX7) (N := 43) hx hb hts inX7 hown hK.1 hP 0 rfl rfl 31 (by decide) (hts _ mf_X7_89) (fun _ h9 => h9) rfl dX7_round_205 ?_
                          refine lv_iload hx hb dX7_round_208 (lv_at hl 0 rfl) ?_
                          refine xiald (f := x23) hx hb hK hP 27 (((12 * i2) + k2)) (rfl) (by omega) (by decide) rfl dX7_round_210 ?_
                          refine lv_topi (fun v32 ev32 => ?_)
                          obtain rfl : v32 = nI ((SDk i2 k2)) := ev32.trans (hsr i2 k2 (by omega) (by omega))
                          refine lv_iconst (v := 2) hx hb dX7_round_211 (by decide) ?_
                          refine lv_icmp_ne (tgt := 247) hx hb dX7_round_212 (by decide) (fun c33 => ?_) (fun c33 => ?_)
                          · have hn2 : ¬ SDk i2 k2 = 2 := fun z9 => c33 (by rw [z9]; rfl)
                            have hsd2 := SDI_n (by omega) (by omega) hcl hsd hn2
                            have hsr2 : ∀ x y, x < rw → y < cl → x23 (12 * x + y) = nI (SDk x y) := hsr
                            have hle9 : SDk i2 k2 ≤ 1 := sd_le hsd2 (by omega) (by omega)
                            refine lv_iload_n hx hb dX7_round_247 rfl (lv_at hl 3 rfl) ?_
                            refine lv_aload_n hx hb dX7_round_248 rfl (lv_at hl 4 rfl) ?_
                            refine va_get (D := G.1) (ci := 7) (v := .ref (b 31)) (C := RX7) (T := TX7) (N := 43) hx hb hts inX7 hown hK.1 hP 0 rfl rfl 31 (by decide) (hts _ mf_X7_89) (fun _ h9 => h9) rfl dX7_round_249 ?_
                            refine lv_iload hx hb dX7_round_252 (lv_at hl 0 rfl) ?_
                            refine xiald (f := x23) hx hb hK hP 27 (((12 * i2) + k2)) (rfl) (by omega) (by decide) rfl dX7_round_254 ?_
                            refine lv_topi (fun v34 ev34 => ?_)
                            obtain rfl : v34 = nI ((SDk i2 k2)) := ev34.trans (hsr2 i2 k2 (by omega) (by omega))
                            refine lv_iadd hx hb dX7_round_255 ?_
                            refine lv_topi (fun v35 ev35 => ?_)
                            obtain rfl : v35 = nI (ab + ((SDk i2 k2))) := nI_plus ev35 rfl rfl
                            have hrb9 := rk_b (M := (upG x11 rw cl SDk)) (12 * i2 + k2)
                            refine lv_istore_n (lv' := [(3, .int (nI (ab + ((SDk i2 k2))))), (6, .int (nI ((12 * i2) + k2))), (5, .int (nI k2)), (4, .int (nI i2)), (0, .ref y), (1, .int (nI t)), (2, .int (nI bs))]) hx hb dX7_round_256 rfl hl (by decide) rfl (fun ls hl => ?_)
                            refine lv_aload_n hx hb dX7_round_257 rfl (lv_at hl 4 rfl) ?_
                            refine va_get (D := G.1) (ci := 7) (v := .ref (b 32)) (C := RX7) (T := TX7) (N := 43) hx hb hts inX7 hown hK.1 hP 0 rfl rfl 32 (by decide) (hts _ mf_X7_92) (fun _ h9 => h9) rfl dX7_round_258 ?_
                            refine lv_iload hx hb dX7_round_261 (lv_at hl 1 rfl) ?_
                            refine lv_aload_n hx hb dX7_round_263 rfl (lv_at hl 4 rfl) ?_
                            refine va_get (D := G.1) (ci := 7) (v := .ref (b 6)) (C := RX7) (T := TX7) (N := 43) hx hb hts inX7 hown hK.1 hP 0 rfl rfl 6 (by decide) (hts _ mf_X7_26) (fun _ h9 => h9) rfl dX7_round_264 ?_
                            refine lv_iload_n hx hb dX7_round_267 rfl (lv_at hl 5 rfl) ?_
                            refine lv_iload hx hb dX7_round_268 (lv_at hl 3 rfl) ?_
                            refine lv_iload hx hb dX7_round_270 (lv_at hl 2 rfl) ?_
                            refine rdS (rest := [.ref (b 6), .int (nI ((12 * i2) + k2)), .ref (b 32)]) ⟨hx, hb, hml, hown, hts⟩ (m_X7_at l G y b (upd (upd (upd f 0 0) 34 (nI (rw))) 35 (nI (cl))) (up2 (up2 (up2 (up2 (up2 (up2 r 31 x23) 32 x24) 33 x11) 36 x25) 37 x26) 38 x27) t i2 k2  ) mi_yX7_at mst_yX7_at ml_X7_147 ⟨rfl, rfl, Nat.le_of_ble_eq_true rfl, Nat.le_of_ble_eq_true rfl⟩ hK (hP) rfl hl.1 rfl (Nat.le_of_ble_eq_true rfl) dX7_round_272 ⟨Nat.zero_le _, Nat.zero_le _⟩ hS hA hP (fun r36 H locs hr36 hP hS => ?_)
                            obtain rfl := hr36
                            refine xiald (f := (r 6)) hx hb hK hP 6 ((144 * t + 12 * i2 + k2)) (rfl) (by omega) (by decide) rfl dX7_round_275 ?_
                            refine lv_topi (fun v37 ev37 => ?_)
                            refine lv_iload_n hx hb dX7_round_276 rfl (lv_at hl 6 rfl) ?_
                            refine lv_idiv hx hb dX7_round_277 (nI_ne0 (by omega) (by omega)) ?_
                            refine lv_topi (fun v38 ev38 => ?_)
                            refine lv_iload_n hx hb dX7_round_278 rfl (lv_at hl 6 rfl) ?_
                            refine lv_imul hx hb dX7_round_279 ?_
                            refine lv_topi (fun v39 ev39 => ?_)
                            refine lv_aload_n hx hb dX7_round_280 rfl (lv_at hl 4 rfl) ?_
                            refine va_get (D := G.1) (ci := 7) (v := .ref (b 31)) (C := RX7) (T := TX7) (N := 43) hx hb hts inX7 hown hK.1 hP 0 rfl rfl 31 (by decide) (hts _ mf_X7_89) (fun _ h9 => h9) rfl dX7_round_281 ?_
                            refine lv_iload hx hb dX7_round_284 (lv_at hl 1 rfl) ?_
                            refine xiald (f := x23) hx hb hK hP 27 (((12 * i2) + k2)) (rfl) (by omega) (by decide) rfl dX7_round_286 ?_
                            refine lv_topi (fun v40 ev40 => ?_)
                            obtain rfl : v40 = nI ((SDk i2 k2)) := ev40.trans (hsr2 i2 k2 (by omega) (by omega))
                            refine lv_iload_n hx hb dX7_round_287 rfl (lv_at hl 6 rfl) ?_
                            refine lv_imul hx hb dX7_round_288 ?_
                            refine lv_topi (fun v41 ev41 => ?_)
                            obtain rfl : v41 = nI (((SDk i2 k2)) * bs) := nI_times ev41 rfl rfl
                            refine lv_iadd hx hb dX7_round_289 ?_
                            refine lv_topi (fun v42 ev42 => ?_)
                            refine xiast (f := x24) (x := v42) hx hb hK hP (hDD _ _) hS 28 (((12 * i2) + k2)) (rfl) (by omega) (by decide) rfl dX7_round_290 (fun H locs hP _ hS => ?_)
                            have hP : PP G (mM G y b (upd (upd (upd f 0 0) 34 (nI (rw))) 35 (nI (cl))) (up2 (up2 (up2 (up2 (up2 (up2 r 31 x23) 32 (upd x24 (((12 * i2) + k2)) (v42))) 33 x11) 36 x25) 37 x26) 38 x27)) H := hP
                            obtain ⟨v43, ev43⟩ : ∃ y9 : Int32, y9 = (nI k2) + Int32.ofInt (1) := ⟨_, rfl⟩
                            refine lv_iinc (v := v43) (lv' := [(5, .int v43), (3, .int (nI (ab + ((SDk i2 k2))))), (6, .int (nI ((12 * i2) + k2))), (4, .int (nI i2)), (0, .ref y), (1, .int (nI t)), (2, .int (nI bs))]) hx hb dX7_round_291 hl (k := 2) rfl ev43.symm (by decide) rfl (fun ls hl => ?_)
                            obtain rfl : v43 = nI (k2 + 1) := nI_plus (i := k2) (j := 1) ev43 rfl (by decide)
                            refine lv_goto (tgt := 185) hx hb dX7_round_294 (by decide) ?_
                            exact ih185k21 (k2 + 1) (ab + ((SDk i2 k2))) SDk x23 (upd x24 (((12 * i2) + k2)) (v42)) x25 x26 x27 (by omega) (by omega) (by omega) (hsd2) (hsr2) (by rw [hab, rk_cg (M2 := (upG x11 rw cl SDk)) (fun x y hy h9 => upG_c (fun h8 => rfl))]; exact rk_01 (M := (upG x11 rw cl SDk)) (x := i2) (y := k2) (by omega) (upG_v (by omega) (by omega) hsd2 hle9)) (fun x y hy h9 hg => if c9 : x = i2 ∧ y = k2 then (by obtain ⟨rfl, rfl⟩ := c9; rw [pk_us]; have h8 := snd_of (hgr9 x (by omega)) hg; obtain ⟨m9, qa, qb⟩ := hNR x y (by omega) (by omega) h8; rw [qb, nI_clamp (by omega)]; exact rt_v (ev37.trans qb) qa hb1 hb9 ev38 ev39 ev42) else (by rw [pk_un (by omega)]; exact hto x y hy (by omega) hg)) _ _ _ hP hS (lv_sub hl [0, 3, 1, 4, 5, 6] rfl)
                          · have hn2 : SDk i2 k2 = 2 := (nI_eq (by omega) (by omega)).mp c33
                            have hg9 : ¬ x11 i2 = -2 := fun z9 => by rw [hsd.2.1 i2 k2 (by omega) (by omega) z9] at hn2; exact absurd hn2 (by decide)
                            refine lv_aload_n hx hb dX7_round_215 rfl (lv_at hl 4 rfl) ?_
                            refine va_get (D := G.1) (ci := 7) (v := .ref (b 31)) (C := RX7) (T := TX7) (N := 43) hx hb hts inX7 hown hK.1 hP 0 rfl rfl 31 (by decide) (hts _ mf_X7_89) (fun _ h9 => h9) rfl dX7_round_216 ?_
                            refine lv_iload hx hb dX7_round_219 (lv_at hl 0 rfl) ?_
                            refine lv_iconst (v := 0) hx hb dX7_round_221 (by decide) ?_
                            refine xiast (f := x23) (x := 0) hx hb hK hP (hDD _ _) hS 27 (((12 * i2) + k2)) (rfl) (by omega) (by decide) rfl dX7_round_222 (fun H locs hP _ hS => ?_)
                            have hP : PP G (mM G y b (upd (upd (upd f 0 0) 34 (nI (rw))) 35 (nI (cl))) (up2 (up2 (up2 (up2 (up2 (up2 r 31 (upd x23 (((12 * i2) + k2)) (0))) 32 x24) 33 x11) 36 x25) 37 x26) 38 x27)) H := hP
                            refine lv_aload_n hx hb dX7_round_223 rfl (lv_at hl 4 rfl) ?_
                            refine lv_iload_n hx hb dX7_round_224 rfl (lv_at hl 5 rfl) ?_
                            refine lv_iload_n hx hb dX7_round_225 rfl (lv_at hl 6 rfl) ?_
                            refine lv_aload_n hx hb dX7_round_226 rfl (lv_at hl 4 rfl) ?_
                            refine va_get (D := G.1) (ci := 7) (v := .ref (b 33)) (C := RX7) (T := TX7) (N := 43) hx hb hts inX7 hown hK.1 hP 0 rfl rfl 33 (by decide) (hts _ mf_X7_95) (fun _ h9 => h9) rfl dX7_round_227 ?_
                            refine lv_iload hx hb dX7_round_230 (lv_at hl 2 rfl) ?_
                            refine xiald (f := x11) hx hb hK hP 29 (i2) (rfl) (by omega) (by decide) rfl dX7_round_232 ?_
                            refine lv_topi (fun v44 ev44 => ?_)
                            obtain rfl : v44 = (x11 i2) := ev44.trans (rfl)
                            refine wrVIa (rest := []) (q0 := 0) ⟨hx, hb, hml, hown, hts⟩ (n_canBe l G y b (upd (upd (upd f 0 0) 34 (nI (rw))) 35 (nI (cl))) (up2 (up2 (up2 (up2 (up2 (up2 r 31 (upd x23 (((12 * i2) + k2)) (0))) 32 x24) 33 x11) 36 x25) 37 x26) 38 x27) t bs (x11 i2) rw cl bk (fun x y => (r 6 (144 * t + 12 * x + y)).toNatClampNeg) (upT SDk i2 k2 0) (by omega) (by omega) (by omega) (by omega) h2 h3 h12 (by omega) (by omega) (fun x y hx hy h9 => by have h8 := snd_of (hgr9 x (by omega)) (show ¬ x11 x = -2 from fun z9 => hg9 (by rw [← h9]; exact z9)); obtain ⟨m9, qa, qb⟩ := hNR x y hx hy h8; show r 6 (144 * t + 12 * x + y) = nI ((r 6 (144 * t + 12 * x + y)).toNatClampNeg) ∧ (r 6 (144 * t + 12 * x + y)).toNatClampNeg ≤ 1000000; rw [qb, nI_clamp (by omega)]; exact ⟨rfl, qa⟩) (fun x y hx hy h9 => ⟨up31 hsr hcl (by omega) (by omega) x y hx hy, up_le hsd hx hy, up_z hsd hn2 (by omega) hx hy (fun z9 => hg9 (by rw [← h9]; exact z9))⟩)) mi_yX7_canBe mv_yX7_canBe ml_X7_271 ⟨rfl, rfl, Nat.le_of_ble_eq_true rfl, Nat.le_of_ble_eq_true rfl⟩ hK hP (hDD _ _) rfl rfl rfl hl.1 rfl (Nat.le_of_ble_eq_true rfl) dX7_round_233 ⟨Nat.zero_le _, Nat.zero_le _⟩ hS hA (fun r45 w46 H locs hw46 hP hS => ?_)
                            obtain ⟨x47, x48, x49, rfl, hw46r⟩ := hw46
                            have hP : PP G (mM G y b (upd (upd (upd f 0 0) 34 (nI (rw))) 35 (nI (cl))) (up2 (up2 (up2 (up2 (up2 (up2 r 31 (upd x23 (((12 * i2) + k2)) (0))) 32 x24) 33 x11) 36 x47) 37 x48) 38 x49)) H := hP
                            have hw46r : ((r45 = 1 ∧ (EXS (dmG x11 rw cl (x11 i2)) (oG (dmG x11 rw cl (x11 i2)) (fun x y => (r 6 (144 * t + 12 * x + y)).toNatClampNeg) bs) (upT SDk i2 k2 0) bs)) ∨ (r45 = 0 ∧ ¬ (EXS (dmG x11 rw cl (x11 i2)) (oG (dmG x11 rw cl (x11 i2)) (fun x y => (r 6 (144 * t + 12 * x + y)).toNatClampNeg) bs) (upT SDk i2 k2 0) bs))) := hw46r
                            refine lv_if_ne (tgt := 247) hx hb dX7_round_236 (by decide) (fun c50 => ?_) (fun c50 => ?_)
                            · have b236 := bT hw46r c50
                              have hsd2 := SDI_a hrw (by omega) (by omega) hcl hsd hn2 (Or.inl ⟨rfl, b236⟩)
                              have hsr2 : ∀ x y, x < rw → y < cl → (upd x23 (((12 * i2) + k2)) (0)) (12 * x + y) = nI ((upT SDk i2 k2 0) x y) := up31 hsr hcl (by omega) (by omega)
                              have hle9 : (upT SDk i2 k2 0) i2 k2 ≤ 1 := sd_le hsd2 (by omega) (by omega)
                              refine lv_iload_n hx hb dX7_round_247 rfl (lv_at hl 3 rfl) ?_
                              refine lv_aload_n hx hb dX7_round_248 rfl (lv_at hl 4 rfl) ?_
                              refine va_get (D := G.1) (ci := 7) (v := .ref (b 31)) (C := RX7) (T := TX7) (N := 43) hx hb hts inX7 hown hK.1 hP 0 rfl rfl 31 (by decide) (hts _ mf_X7_89) (fun _ h9 => h9) rfl dX7_round_249 ?_
                              refine lv_iload hx hb dX7_round_252 (lv_at hl 0 rfl) ?_
                              refine xiald (f := (upd x23 (((12 * i2) + k2)) (0))) hx hb hK hP 27 (((12 * i2) + k2)) (rfl) (by omega) (by decide) rfl dX7_round_254 ?_
                              refine lv_topi (fun v51 ev51 => ?_)
                              obtain rfl : v51 = nI (((upT SDk i2 k2 0) i2 k2)) := ev51.trans (hsr2 i2 k2 (by omega) (by omega))
                              refine lv_iadd hx hb dX7_round_255 ?_
                              refine lv_topi (fun v52 ev52 => ?_)
                              obtain rfl : v52 = nI (ab + (((upT SDk i2 k2 0) i2 k2))) := nI_plus ev52 rfl rfl
                              have hrb9 := rk_b (M := (upG x11 rw cl SDk)) (12 * i2 + k2)
                              refine lv_istore_n (lv' := [(3, .int (nI (ab + (((upT SDk i2 k2 0) i2 k2))))), (6, .int (nI ((12 * i2) + k2))), (5, .int (nI k2)), (4, .int (nI i2)), (0, .ref y), (1, .int (nI t)), (2, .int (nI bs))]) hx hb dX7_round_256 rfl hl (by decide) rfl (fun ls hl => ?_)
                              refine lv_aload_n hx hb dX7_round_257 rfl (lv_at hl 4 rfl) ?_
                              refine va_get (D := G.1) (ci := 7) (v := .ref (b 32)) (C := RX7) (T := TX7) (N := 43) hx hb hts inX7 hown hK.1 hP 0 rfl rfl 32 (by decide) (hts _ mf_X7_92) (fun _ h9 => h9) rfl dX7_round_258 ?_
                              refine lv_iload hx hb dX7_round_261 (lv_at hl 1 rfl) ?_
                              refine lv_aload_n hx hb dX7_round_263 rfl (lv_at hl 4 rfl) ?_
                              refine va_get (D := G.1) (ci := 7) (v := .ref (b 6)) (C := RX7) (T := TX7) (N := 43) hx hb hts inX7 hown hK.1 hP 0 rfl rfl 6 (by decide) (hts _ mf_X7_26) (fun _ h9 => h9) rfl dX7_round_264 ?_
                              refine lv_iload_n hx hb dX7_round_267 rfl (lv_at hl 5 rfl) ?_
                              refine lv_iload hx hb dX7_round_268 (lv_at hl 3 rfl) ?_
                              refine lv_iload hx hb dX7_round_270 (lv_at hl 2 rfl) ?_
                              refine rdS (rest := [.ref (b 6), .int (nI ((12 * i2) + k2)), .ref (b 32)]) ⟨hx, hb, hml, hown, hts⟩ (m_X7_at l G y b (upd (upd (upd f 0 0) 34 (nI (rw))) 35 (nI (cl))) (up2 (up2 (up2 (up2 (up2 (up2 r 31 (upd x23 (((12 * i2) + k2)) (0))) 32 x24) 33 x11) 36 x47) 37 x48) 38 x49) t i2 k2  ) mi_yX7_at mst_yX7_at ml_X7_147 ⟨rfl, rfl, Nat.le_of_ble_eq_true rfl, Nat.le_of_ble_eq_true rfl⟩ hK (hP) rfl hl.1 rfl (Nat.le_of_ble_eq_true rfl) dX7_round_272 ⟨Nat.zero_le _, Nat.zero_le _⟩ hS hA hP (fun r53 H locs hr53 hP hS => ?_)
                              obtain rfl := hr53
                              refine xiald (f := (r 6)) hx hb hK hP 6 ((144 * t + 12 * i2 + k2)) (rfl) (by omega) (by decide) rfl dX7_round_275 ?_
                              refine lv_topi (fun v54 ev54 => ?_)
                              refine lv_iload_n hx hb dX7_round_276 rfl (lv_at hl 6 rfl) ?_
                              refine lv_idiv hx hb dX7_round_277 (nI_ne0 (by omega) (by omega)) ?_
                              refine lv_topi (fun v55 ev55 => ?_)
                              refine lv_iload_n hx hb dX7_round_278 rfl (lv_at hl 6 rfl) ?_
                              refine lv_imul hx hb dX7_round_279 ?_
                              refine lv_topi (fun v56 ev56 => ?_)
                              refine lv_aload_n hx hb dX7_round_280 rfl (lv_at hl 4 rfl) ?_
                              refine va_get (D := G.1) (ci := 7) (v := .ref (b 31)) (C := RX7) (T := TX7) (N := 43) hx hb hts inX7 hown hK.1 hP 0 rfl rfl 31 (by decide) (hts _ mf_X7_89) (fun _ h9 => h9) rfl dX7_round_281 ?_
                              refine lv_iload hx hb dX7_round_284 (lv_at hl 1 rfl) ?_
                              refine xiald (f := (upd x23 (((12 * i2) + k2)) (0))) hx hb hK hP 27 (((12 * i2) + k2)) (rfl) (by omega) (by decide) rfl dX7_round_286 ?_
                              refine lv_topi (fun v57 ev57 => ?_)
                              obtain rfl : v57 = nI (((upT SDk i2 k2 0) i2 k2)) := ev57.trans (hsr2 i2 k2 (by omega) (by omega))
                              refine lv_iload_n hx hb dX7_round_287 rfl (lv_at hl 6 rfl) ?_
                              refine lv_imul hx hb dX7_round_288 ?_
                              refine lv_topi (fun v58 ev58 => ?_)
                              obtain rfl : v58 = nI ((((upT SDk i2 k2 0) i2 k2)) * bs) := nI_times ev58 rfl rfl
                              refine lv_iadd hx hb dX7_round_289 ?_
                              refine lv_topi (fun v59 ev59 => ?_)
                              refine xiast (f := x24) (x := v59) hx hb hK hP (hDD _ _) hS 28 (((12 * i2) + k2)) (rfl) (by omega) (by decide) rfl dX7_round_290 (fun H locs hP _ hS => ?_)
                              have hP : PP G (mM G y b (upd (upd (upd f 0 0) 34 (nI (rw))) 35 (nI (cl))) (up2 (up2 (up2 (up2 (up2 (up2 r 31 (upd x23 (((12 * i2) + k2)) (0))) 32 (upd x24 (((12 * i2) + k2)) (v59))) 33 x11) 36 x47) 37 x48) 38 x49)) H := hP
                              obtain ⟨v60, ev60⟩ : ∃ y9 : Int32, y9 = (nI k2) + Int32.ofInt (1) := ⟨_, rfl⟩
                              refine lv_iinc (v := v60) (lv' := [(5, .int v60), (3, .int (nI (ab + (((upT SDk i2 k2 0) i2 k2))))), (6, .int (nI ((12 * i2) + k2))), (4, .int (nI i2)), (0, .ref y), (1, .int (nI t)), (2, .int (nI bs))]) hx hb dX7_round_291 hl (k := 2) rfl ev60.symm (by decide) rfl (fun ls hl => ?_)
                              obtain rfl : v60 = nI (k2 + 1) := nI_plus (i := k2) (j := 1) ev60 rfl (by decide)
                              refine lv_goto (tgt := 185) hx hb dX7_round_294 (by decide) ?_
                              exact ih185k21 (k2 + 1) (ab + (((upT SDk i2 k2 0) i2 k2))) (upT SDk i2 k2 0) (upd x23 (((12 * i2) + k2)) (0)) (upd x24 (((12 * i2) + k2)) (v59)) x47 x48 x49 (by omega) (by omega) (by omega) (hsd2) (hsr2) (by rw [hab, rk_cg (M2 := (upG x11 rw cl (upT SDk i2 k2 0))) (fun x y hy h9 => upG_c (fun h8 => (upT_n (fun z9 => by omega)).symm))]; exact rk_01 (M := (upG x11 rw cl (upT SDk i2 k2 0))) (x := i2) (y := k2) (by omega) (upG_v (by omega) (by omega) hsd2 hle9)) (fun x y hy h9 hg => if c9 : x = i2 ∧ y = k2 then (by obtain ⟨rfl, rfl⟩ := c9; rw [pk_us]; have h8 := snd_of (hgr9 x (by omega)) hg; obtain ⟨m9, qa, qb⟩ := hNR x y (by omega) (by omega) h8; rw [qb, nI_clamp (by omega)]; exact rt_v (ev54.trans qb) qa hb1 hb9 ev55 ev56 ev59) else (by rw [pk_un (by omega), upT_n c9]; exact hto x y hy (by omega) hg)) _ _ _ hP hS (lv_sub hl [0, 3, 1, 4, 5, 6] rfl)
                            · have b236 := bF hw46r c50
                              refine lv_aload_n hx hb dX7_round_239 rfl (lv_at hl 4 rfl) ?_
                              refine va_get (D := G.1) (ci := 7) (v := .ref (b 31)) (C := RX7) (T := TX7) (N := 43) hx hb hts inX7 hown hK.1 hP 0 rfl rfl 31 (by decide) (hts _ mf_X7_89) (fun _ h9 => h9) rfl dX7_round_240 ?_
                              refine lv_iload hx hb dX7_round_243 (lv_at hl 0 rfl) ?_
                              refine lv_iconst (v := 1) hx hb dX7_round_245 (by decide) ?_
                              refine xiast (f := (upd x23 (((12 * i2) + k2)) (0))) (x := 1) hx hb hK hP (hDD _ _) hS 27 (((12 * i2) + k2)) (rfl) (by omega) (by decide) rfl dX7_round_246 (fun H locs hP _ hS => ?_)
                              have hP : PP G (mM G y b (upd (upd (upd f 0 0) 34 (nI (rw))) 35 (nI (cl))) (up2 (up2 (up2 (up2 (up2 (up2 r 31 (upd (upd x23 (((12 * i2) + k2)) (0)) (((12 * i2) + k2)) (1))) 32 x24) 33 x11) 36 x47) 37 x48) 38 x49)) H := hP
                              have hsd2 := SDI_a hrw (by omega) (by omega) hcl hsd hn2 (Or.inr ⟨rfl, b236⟩)
                              have hsr2 : ∀ x y, x < rw → y < cl → (upd (upd x23 (((12 * i2) + k2)) (0)) (((12 * i2) + k2)) (1)) (12 * x + y) = nI ((upT SDk i2 k2 1) x y) := up31b hsr hcl (by omega) (by omega)
                              have hle9 : (upT SDk i2 k2 1) i2 k2 ≤ 1 := sd_le hsd2 (by omega) (by omega)
                              refine lv_iload_n hx hb dX7_round_247 rfl (lv_at hl 3 rfl) ?_
                              refine lv_aload_n hx hb dX7_round_248 rfl (lv_at hl 4 rfl) ?_
                              refine va_get (D := G.1) (ci := 7) (v := .ref (b 31)) (C := RX7) (T := TX7) (N := 43) hx hb hts inX7 hown hK.1 hP 0 rfl rfl 31 (by decide) (hts _ mf_X7_89) (fun _ h9 => h9) rfl dX7_round_249 ?_
                              refine lv_iload hx hb dX7_round_252 (lv_at hl 0 rfl) ?_
                              refine xiald (f := (upd (upd x23 (((12 * i2) + k2)) (0)) (((12 * i2) + k2)) (1))) hx hb hK hP 27 (((12 * i2) + k2)) (rfl) (by omega) (by decide) rfl dX7_round_254 ?_
                              refine lv_topi (fun v61 ev61 => ?_)
                              obtain rfl : v61 = nI (((upT SDk i2 k2 1) i2 k2)) := ev61.trans (hsr2 i2 k2 (by omega) (by omega))
                              refine lv_iadd hx hb dX7_round_255 ?_
                              refine lv_topi (fun v62 ev62 => ?_)
                              obtain rfl : v62 = nI (ab + (((upT SDk i2 k2 1) i2 k2))) := nI_plus ev62 rfl rfl
                              have hrb9 := rk_b (M := (upG x11 rw cl SDk)) (12 * i2 + k2)
                              refine lv_istore_n (lv' := [(3, .int (nI (ab + (((upT SDk i2 k2 1) i2 k2))))), (6, .int (nI ((12 * i2) + k2))), (5, .int (nI k2)), (4, .int (nI i2)), (0, .ref y), (1, .int (nI t)), (2, .int (nI bs))]) hx hb dX7_round_256 rfl hl (by decide) rfl (fun ls hl => ?_)
                              refine lv_aload_n hx hb dX7_round_257 rfl (lv_at hl 4 rfl) ?_
                              refine va_get (D := G.1) (ci := 7) (v := .ref (b 32)) (C := RX7) (T := TX7) (N := 43) hx hb hts inX7 hown hK.1 hP 0 rfl rfl 32 (by decide) (hts _ mf_X7_92) (fun _ h9 => h9) rfl dX7_round_258 ?_
                              refine lv_iload hx hb dX7_round_261 (lv_at hl 1 rfl) ?_
                              refine lv_aload_n hx hb dX7_round_263 rfl (lv_at hl 4 rfl) ?_
                              refine va_get (D := G.1) (ci := 7) (v := .ref (b 6)) (C := RX7) (T := TX7) (N := 43) hx hb hts inX7 hown hK.1 hP 0 rfl rfl 6 (by decide) (hts _ mf_X7_26) (fun _ h9 => h9) rfl dX7_round_264 ?_
                              refine lv_iload_n hx hb dX7_round_267 rfl (lv_at hl 5 rfl) ?_
                              refine lv_iload hx hb dX7_round_268 (lv_at hl 3 rfl) ?_
                              refine lv_iload hx hb dX7_round_270 (lv_at hl 2 rfl) ?_
                              refine rdS (rest := [.ref (b 6), .int (nI ((12 * i2) + k2)), .ref (b 32)]) ⟨hx, hb, hml, hown, hts⟩ (m_X7_at l G y b (upd (upd (upd f 0 0) 34 (nI (rw))) 35 (nI (cl))) (up2 (up2 (up2 (up2 (up2 (up2 r 31 (upd (upd x23 (((12 * i2) + k2)) (0)) (((12 * i2) + k2)) (1))) 32 x24) 33 x11) 36 x47) 37 x48) 38 x49) t i2 k2  ) mi_yX7_at mst_yX7_at ml_X7_147 ⟨rfl, rfl, Nat.le_of_ble_eq_true rfl, Nat.le_of_ble_eq_true rfl⟩ hK (hP) rfl hl.1 rfl (Nat.le_of_ble_eq_true rfl) dX7_round_272 ⟨Nat.zero_le _, Nat.zero_le _⟩ hS hA hP (fun r63 H locs hr63 hP hS => ?_)
                              obtain rfl := hr63
                              refine xiald (f := (r 6)) hx hb hK hP 6 ((144 * t + 12 * i2 + k2)) (rfl) (by omega) (by decide) rfl dX7_round_275 ?_
                              refine lv_topi (fun v64 ev64 => ?_)
                              refine lv_iload_n hx hb dX7_round_276 rfl (lv_at hl 6 rfl) ?_
                              refine lv_idiv hx hb dX7_round_277 (nI_ne0 (by omega) (by omega)) ?_
                              refine lv_topi (fun v65 ev65 => ?_)
                              refine lv_iload_n hx hb dX7_round_278 rfl (lv_at hl 6 rfl) ?_
                              refine lv_imul hx hb dX7_round_279 ?_
                              refine lv_topi (fun v66 ev66 => ?_)
                              refine lv_aload_n hx hb dX7_round_280 rfl (lv_at hl 4 rfl) ?_
                              refine va_get (D := G.1) (ci := 7) (v := .ref (b 31)) (C := RX7) (T := TX7) (N := 43) hx hb hts inX7 hown hK.1 hP 0 rfl rfl 31 (by decide) (hts _ mf_X7_89) (fun _ h9 => h9) rfl dX7_round_281 ?_
                              refine lv_iload hx hb dX7_round_284 (lv_at hl 1 rfl) ?_
                              refine xiald (f := (upd (upd x23 (((12 * i2) + k2)) (0)) (((12 * i2) + k2)) (1))) hx hb hK hP 27 (((12 * i2) + k2)) (rfl) (by omega) (by decide) rfl dX7_round_286 ?_
                              refine lv_topi (fun v67 ev67 => ?_)
                              obtain rfl : v67 = nI (((upT SDk i2 k2 1) i2 k2)) := ev67.trans (hsr2 i2 k2 (by omega) (by omega))
                              refine lv_iload_n hx hb dX7_round_287 rfl (lv_at hl 6 rfl) ?_
                              refine lv_imul hx hb dX7_round_288 ?_
                              refine lv_topi (fun v68 ev68 => ?_)
                              obtain rfl : v68 = nI ((((upT SDk i2 k2 1) i2 k2)) * bs) := nI_times ev68 rfl rfl
                              refine lv_iadd hx hb dX7_round_289 ?_
                              refine lv_topi (fun v69 ev69 => ?_)
                              refine xiast (f := x24) (x := v69) hx hb hK hP (hDD _ _) hS 28 (((12 * i2) + k2)) (rfl) (by omega) (by decide) rfl dX7_round_290 (fun H locs hP _ hS => ?_)
                              have hP : PP G (mM G y b (upd (upd (upd f 0 0) 34 (nI (rw))) 35 (nI (cl))) (up2 (up2 (up2 (up2 (up2 (up2 r 31 (upd (upd x23 (((12 * i2) + k2)) (0)) (((12 * i2) + k2)) (1))) 32 (upd x24 (((12 * i2) + k2)) (v69))) 33 x11) 36 x47) 37 x48) 38 x49)) H := hP
                              obtain ⟨v70, ev70⟩ : ∃ y9 : Int32, y9 = (nI k2) + Int32.ofInt (1) := ⟨_, rfl⟩
                              refine lv_iinc (v := v70) (lv' := [(5, .int v70), (3, .int (nI (ab + (((upT SDk i2 k2 1) i2 k2))))), (6, .int (nI ((12 * i2) + k2))), (4, .int (nI i2)), (0, .ref y), (1, .int (nI t)), (2, .int (nI bs))]) hx hb dX7_round_291 hl (k := 2) rfl ev70.symm (by decide) rfl (fun ls hl => ?_)
                              obtain rfl : v70 = nI (k2 + 1) := nI_plus (i := k2) (j := 1) ev70 rfl (by decide)
                              refine lv_goto (tgt := 185) hx hb dX7_round_294 (by decide) ?_
                              exact ih185k21 (k2 + 1) (ab + (((upT SDk i2 k2 1) i2 k2))) (upT SDk i2 k2 1) (upd (upd x23 (((12 * i2) + k2)) (0)) (((12 * i2) + k2)) (1)) (upd x24 (((12 * i2) + k2)) (v69)) x47 x48 x49 (by omega) (by omega) (by omega) (hsd2) (hsr2) (by rw [hab, rk_cg (M2 := (upG x11 rw cl (upT SDk i2 k2 1))) (fun x y hy h9 => upG_c (fun h8 => (upT_n (fun z9 => by omega)).symm))]; exact rk_01 (M := (upG x11 rw cl (upT SDk i2 k2 1))) (x := i2) (y := k2) (by omega) (upG_v (by omega) (by omega) hsd2 hle9)) (fun x y hy h9 hg => if c9 : x = i2 ∧ y = k2 then (by obtain ⟨rfl, rfl⟩ := c9; rw [pk_us]; have h8 := snd_of (hgr9 x (by omega)) hg; obtain ⟨m9, qa, qb⟩ := hNR x y (by omega) (by omega) h8; rw [qb, nI_clamp (by omega)]; exact rt_v (ev64.trans qb) qa hb1 hb9 ev65 ev66 ev69) else (by rw [pk_un (by omega), upT_n c9]; exact hto x y hy (by omega) hg)) _ _ _ hP hS (lv_sub hl [0, 3, 1, 4, 5, 6] rfl)
                    exact loop185 (cl + 1) 0 ab SDk x15 x16 x17 x18 x19 (by omega) (by omega) (by omega) (hsd) (hsr) (hab) (hto) _ _ _ hP hS (lv_sub hl [0, 1, 2, 3, 4, 5] rfl)
              exact loop173 (rw + 1) 0 0 (fun x y => (x10 (12 * x + y)).toNatClampNeg) x10 (r 32) (r 36) (r 37) (r 38) (by omega) (by omega) (by omega) (hs0.1) (hs0.2) (rfl) (fun x y _ h9 => absurd h9 (by omega)) _ _ _ hP hS (lv_sub hl [0, 1, 2, 3, 4] rfl)
            · have b70 := qge_f (a := i) (b := (rw)) (by omega) (by omega) c12
              refine lv_aload_n hx hb dX7_round_73 rfl (lv_at hl 1 rfl) ?_
              refine va_get (D := G.1) (ci := 7) (v := .ref (b 33)) (C := RX7) (T := TX7) (N := 43) hx hb hts inX7 hown hK.1 hP 0 rfl rfl 33 (by decide) (hts _ mf_X7_95) (fun _ h9 => h9) rfl dX7_round_74 ?_
              refine lv_iload_n hx hb dX7_round_77 rfl (lv_at hl 0 rfl) ?_
              refine lv_aload_n hx hb dX7_round_78 rfl (lv_at hl 1 rfl) ?_
              refine lv_iload_n hx hb dX7_round_79 rfl (lv_at hl 2 rfl) ?_
              refine lv_iload_n hx hb dX7_round_80 rfl (lv_at hl 0 rfl) ?_
              refine rdV (rest := [.int (nI i), .ref (b 33)]) (q0 := 0) ⟨hx, hb, hml, hown, hts⟩ (m_X7_isSound l G y b (upd (upd (upd f 0 0) 34 (nI (rw))) 35 (nI (cl))) (up2 (up2 r 31 x10) 33 x11) t i rw cl bk (by omega) (by omega) (by omega) (by omega) h2 h3 h12 (by omega)) mi_yX7_isSound mv_yX7_isSound ml_X7_161 ⟨rfl, rfl, Nat.le_of_ble_eq_true rfl, Nat.le_of_ble_eq_true rfl⟩ hK (hP) rfl rfl rfl hl.1 rfl (Nat.le_of_ble_eq_true rfl) dX7_round_81 ⟨Nat.zero_le _, Nat.zero_le _⟩ hS hA hP (fun r71 H locs hr71 hP hS => ?_)
              have hr71 : ((r71 = 1 ∧ (sndN ((r 3) t) (r 11) (r 5) t i)) ∨ (r71 = 0 ∧ ¬ (sndN ((r 3) t) (r 11) (r 5) t i))) := hr71
              refine lv_if_eq (tgt := 96) hx hb dX7_round_84 (by decide) (fun c72 => ?_) (fun c72 => ?_)
              · have b84 := bF hr71 c72
                refine lv_bipush (v := -2) hx hb dX7_round_96 (by decide) ?_
                refine xiast (f := x11) (x := (-2)) hx hb hK hP (hDD _ _) hS 29 (i) (rfl) (by omega) (by decide) rfl dX7_round_98 (fun H locs hP _ hS => ?_)
                have hP : PP G (mM G y b (upd (upd (upd f 0 0) 34 (nI (rw))) 35 (nI (cl))) (up2 (up2 r 31 x10) 33 (upd x11 (i) ((-2))))) H := hP
                have hgr2 : ∀ x, x < i + 1 → (sndN (r 3 t) (r 11) (r 5) t x → (upd x11 (i) ((-2))) x = (clM (r 13) (r 14) t (nI x) bk).1) ∧ (¬ sndN (r 3 t) (r 11) (r 5) t x → (upd x11 (i) ((-2))) x = -2) := fun x hx => if c9 : x = i then (by rw [c9]; exact ⟨fun z9 => absurd z9 b84, fun z9 => pk_us⟩) else (by rw [pk_un c9]; exact hgr x (by omega))
                have hgi := hgr2 i (by omega)
                refine lv_iconst (v := 0) hx hb dX7_round_99 (by decide) ?_
                refine lv_istore (lv' := [(4, .int 0), (3, .int (nI i)), (0, .ref y), (1, .int (nI t)), (2, .int (nI bs))]) hx hb dX7_round_100 hl (by decide) rfl (fun ls hl => ?_)
                have loop102 : ∀ (k73 k : Nat) (x74 : Nat → Int32), k ≤ cl → cl < k + k73 → (∀ x y, y < cl → 12 * x + y < 12 * i + k → x74 (12 * x + y) = if (upd x11 (i) ((-2))) x = -2 then 0 else if (r 6 (144 * t + 12 * x + y)).toNatClampNeg % bs = 0 then 0 else 2) → ∀ (H : Heap) (locs : List Loc) (ls : Array Slot), PP G (mM G y b (upd (upd (upd f 0 0) 34 (nI (rw))) 35 (nI (cl))) (up2 (up2 r 31 x74) 33 (upd x11 (i) ((-2))))) H → va_S A s.heap H locs → lv_has ls 7 [(4, .int (nI k)), (3, .int (nI i)), (0, .ref y), (1, .int (nI t)), (2, .int (nI bs))] → W p l e ({ frames := 3, cells := 0, slots := 0, locals := 75 }) s m ([.ref y, .int (nI t), .int (nI bs)] : List Value).toArray below meth c H locs 0 0 (MQ below (QwI G (fun q w => ∃ (n_f_0 : Int32) (n_f_34 : Int32) (n_f_35 : Int32) (n_r_31 : Nat → Int32) (n_r_32 : Nat → Int32) (n_r_33 : Nat → Int32) (n_r_36 : Nat → Int32) (n_r_37 : Nat → Int32) (n_r_38 : Nat → Int32), w = mM G y b (upd (upd (upd f 0 n_f_0) 34 n_f_34) 35 n_f_35) (up2 (up2 (up2 (up2 (up2 (up2 r 31 n_r_31) 32 n_r_32) 33 n_r_33) 36 n_r_36) 37 n_r_37) 38 n_r_38) ∧ rdM (nI t) (nI bs) q (r 1) (r 2) (r 3) (r 5) (r 6) (r 11) (r 12) (r 13) (r 14) (f 34) (f 35) (r 32) (r 33) n_f_34 n_f_35 n_r_32 n_r_33 ∧ (nL 12 n_f_34) ∧ (nL 12 n_f_35)) A) ([.ref y, .int (nI t), .int (nI bs)] : List Value).toArray s 0 0 A) (F0 m 102 ls []) := by
                  intro k73
                  induction k73 with
                  | zero => intro k x74 h1 h2; exact absurd h1 (by omega)
                  | succ k73 ih102k73 =>
                    intro k x74 hi_k hk_k hfs H locs ls hP hS hl
                    refine lv_iload hx hb dX7_round_102 (lv_at hl 0 rfl) ?_
                    refine lv_aload_n hx hb dX7_round_104 rfl (lv_at hl 2 rfl) ?_
                    refine va_get (D := G.1) (ci := 7) (v := .int (nI (cl))) (C := RX7) (T := TX7) (N := 43) hx hb hts inX7 hown hK.1 hP 0 rfl rfl 35 (by decide) (hts _ mf_X7_268) (fun _ h9 => h9) rfl dX7_round_105 ?_
                    refine lv_icmp_ge (tgt := 162) hx hb dX7_round_108 (by decide) (fun c75 => ?_) (fun c75 => ?_)
                    · have b108 := qge_t (a := k) (b := (cl)) (by omega) (by omega) c75
                      obtain ⟨v76, ev76⟩ : ∃ y9 : Int32, y9 = (nI i) + Int32.ofInt (1) := ⟨_, rfl⟩
                      refine lv_iinc (v := v76) (lv' := [(3, .int v76), (4, .int (nI k)), (0, .ref y), (1, .int (nI t)), (2, .int (nI bs))]) hx hb dX7_round_162 hl (k := 1) rfl ev76.symm (by decide) rfl (fun ls hl => ?_)
                      obtain rfl : v76 = nI (i + 1) := nI_plus (i := i) (j := 1) ev76 rfl (by decide)
                      refine lv_goto (tgt := 65) hx hb dX7_round_165 (by decide) ?_
                      exact ih65k9 (i + 1) x74 (upd x11 (i) ((-2))) (by omega) (by omega) (hgr2) (fun x y hy h9 => hfs x y hy (by omega)) _ _ _ hP hS (lv_sub hl [0, 2, 3, 4] rfl)
                    · have b108 := qge_f (a := k) (b := (cl)) (by omega) (by omega) c75
                      refine lv_aload_n hx hb dX7_round_111 rfl (lv_at hl 2 rfl) ?_
                      refine va_get (D := G.1) (ci := 7) (v := .ref (b 31)) (C := RX7) (T := TX7) (N := 43) hx hb hts inX7 hown hK.1 hP 0 rfl rfl 31 (by decide) (hts _ mf_X7_89) (fun _ h9 => h9) rfl dX7_round_112 ?_
                      refine lv_bipush (v := 12) hx hb dX7_round_115 (by decide) ?_
                      refine lv_iload_n hx hb dX7_round_117 rfl (lv_at hl 1 rfl) ?_
                      refine lv_imul hx hb dX7_round_118 ?_
                      refine lv_topi (fun v77 ev77 => ?_)
                      obtain rfl : v77 = nI (12 * i) := nI_times ev77 rfl rfl
                      refine lv_iload hx hb dX7_round_119 (lv_at hl 0 rfl) ?_
                      refine lv_iadd hx hb dX7_round_121 ?_
                      refine lv_topi (fun v78 ev78 => ?_)
                      obtain rfl : v78 = nI ((12 * i) + k) := nI_plus ev78 rfl rfl
                      refine lv_aload_n hx hb dX7_round_122 rfl (lv_at hl 2 rfl) ?_
                      refine va_get (D := G.1) (ci := 7) (v := .ref (b 33)) (C := RX7) (T := TX7) (N := 43) hx hb hts inX7 hown hK.1 hP 0 rfl rfl 33 (by decide) (hts _ mf_X7_95) (fun _ h9 => h9) rfl dX7_round_123 ?_
                      refine lv_iload_n hx hb dX7_round_126 rfl (lv_at hl 1 rfl) ?_
                      refine xiald (f := (upd x11 (i) ((-2)))) hx hb hK hP 29 (i) (rfl) (by omega) (by decide) rfl dX7_round_127 ?_
                      refine lv_topi (fun v79 ev79 => ?_)
                      refine lv_bipush (v := -2) hx hb dX7_round_128 (by decide) ?_
                      refine lv_icmp_eq (tgt := 150) hx hb dX7_round_130 (by decide) (fun c80 => ?_) (fun c80 => ?_)
                      · have hg9 : (upd x11 (i) ((-2))) i = -2 := hgi.2 b84
                        refine lv_iconst (v := 0) hx hb dX7_round_150 (by decide) ?_
                        refine lv_goto (tgt := 155) hx hb dX7_round_151 (by decide) ?_
                        refine xiast (f := x74) (x := 0) hx hb hK hP (hDD _ _) hS 27 (((12 * i) + k)) (rfl) (by omega) (by decide) rfl dX7_round_155 (fun H locs hP _ hS => ?_)
                        have hP : PP G (mM G y b (upd (upd (upd f 0 0) 34 (nI (rw))) 35 (nI (cl))) (up2 (up2 r 31 (upd x74 (((12 * i) + k)) (0))) 33 (upd x11 (i) ((-2))))) H := hP
                        obtain ⟨v81, ev81⟩ : ∃ y9 : Int32, y9 = (nI k) + Int32.ofInt (1) := ⟨_, rfl⟩
                        refine lv_iinc (v := v81) (lv' := [(4, .int v81), (3, .int (nI i)), (0, .ref y), (1, .int (nI t)), (2, .int (nI bs))]) hx hb dX7_round_156 hl (k := 0) rfl ev81.symm (by decide) rfl (fun ls hl => ?_)
                        obtain rfl : v81 = nI (k + 1) := nI_plus (i := k) (j := 1) ev81 rfl (by decide)
                        refine lv_goto (tgt := 102) hx hb dX7_round_159 (by decide) ?_
                        exact ih102k73 (k + 1) (upd x74 (((12 * i) + k)) (0)) (by omega) (by omega) (fun x y hy h9 => if c9 : x = i ∧ y = k then (by obtain ⟨rfl, rfl⟩ := c9; rw [pk_us]; exact (if_pos hg9).symm) else (by rw [pk_un (by omega)]; exact hfs x y hy (by omega))) _ _ _ hP hS (lv_sub hl [0, 1, 2, 3, 4] rfl)
                      · exact absurd (by rw [ev79]; exact hgi.2 b84) c80
                exact loop102 (cl + 1) 0 x10 (by omega) (by omega) (fun x y hy h9 => by rw [hfs x y hy h9, pk_un (show x ≠ i by omega)]) _ _ _ hP hS (lv_sub hl [0, 1, 2, 3, 4] rfl)
              · have b84 := bT hr71 c72
                refine lv_aload_n hx hb dX7_round_87 rfl (lv_at hl 1 rfl) ?_
                refine lv_iload_n hx hb dX7_round_88 rfl (lv_at hl 2 rfl) ?_
                refine lv_iload_n hx hb dX7_round_89 rfl (lv_at hl 0 rfl) ?_
                refine rdV (rest := [.int (nI i), .ref (b 33)]) (q0 := 0) ⟨hx, hb, hml, hown, hts⟩ (m_X7_classOf l G y b (upd (upd (upd f 0 0) 34 (nI (rw))) 35 (nI (cl))) (up2 (up2 r 31 x10) 33 x11) t (nI i) rw cl bk (by omega) (by omega) (by omega) (by omega) h2 h3 h12) mi_yX7_classOf mv_yX7_classOf ml_X7_168 ⟨rfl, rfl, Nat.le_of_ble_eq_true rfl, Nat.le_of_ble_eq_true rfl⟩ hK (hP) rfl rfl rfl hl.1 rfl (Nat.le_of_ble_eq_true rfl) dX7_round_90 ⟨Nat.zero_le _, Nat.zero_le _⟩ hS hA hP (fun r82 H locs hr82 hP hS => ?_)
                obtain rfl := hr82
                refine lv_goto (tgt := 98) hx hb dX7_round_93 (by decide) ?_
                refine xiast (f := x11) (x := ((clM (r 13) (r 14) t (nI i) ((r 12) t).toNatClampNeg).1)) hx hb hK hP (hDD _ _) hS 29 (i) (rfl) (by omega) (by decide) rfl dX7_round_98 (fun H locs hP _ hS => ?_)
                have hP : PP G (mM G y b (upd (upd (upd f 0 0) 34 (nI (rw))) 35 (nI (cl))) (up2 (up2 r 31 x10) 33 (upd x11 (i) (((clM (r 13) (r 14) t (nI i) ((r 12) t).toNatClampNeg).1))))) H := hP
                have hgr2 : ∀ x, x < i + 1 → (sndN (r 3 t) (r 11) (r 5) t x → (upd x11 (i) (((clM (r 13) (r 14) t (nI i) ((r 12) t).toNatClampNeg).1))) x = (clM (r 13) (r 14) t (nI x) bk).1) ∧ (¬ sndN (r 3 t) (r 11) (r 5) t x → (upd x11 (i) (((clM (r 13) (r 14) t (nI i) ((r 12) t).toNatClampNeg).1))) x = -2) := fun x hx => if c9 : x = i then (by rw [c9]; exact ⟨fun z9 => by rw [pk_us, ebk], fun z9 => absurd b84 z9⟩) else (by rw [pk_un c9]; exact hgr x (by omega))
                have hgi := hgr2 i (by omega)
                refine lv_iconst (v := 0) hx hb dX7_round_99 (by decide) ?_
                refine lv_istore (lv' := [(4, .int 0), (3, .int (nI i)), (0, .ref y), (1, .int (nI t)), (2, .int (nI bs))]) hx hb dX7_round_100 hl (by decide) rfl (fun ls hl => ?_)
                have loop102 : ∀ (k83 k : Nat) (x84 : Nat → Int32), k ≤ cl → cl < k + k83 → (∀ x y, y < cl → 12 * x + y < 12 * i + k → x84 (12 * x + y) = if (upd x11 (i) (((clM (r 13) (r 14) t (nI i) ((r 12) t).toNatClampNeg).1))) x = -2 then 0 else if (r 6 (144 * t + 12 * x + y)).toNatClampNeg % bs = 0 then 0 else 2) → ∀ (H : Heap) (locs : List Loc) (ls : Array Slot), PP G (mM G y b (upd (upd (upd f 0 0) 34 (nI (rw))) 35 (nI (cl))) (up2 (up2 r 31 x84) 33 (upd x11 (i) (((clM (r 13) (r 14) t (nI i) ((r 12) t).toNatClampNeg).1))))) H → va_S A s.heap H locs → lv_has ls 7 [(4, .int (nI k)), (3, .int (nI i)), (0, .ref y), (1, .int (nI t)), (2, .int (nI bs))] → W p l e ({ frames := 3, cells := 0, slots := 0, locals := 75 }) s m ([.ref y, .int (nI t), .int (nI bs)] : List Value).toArray below meth c H locs 0 0 (MQ below (QwI G (fun q w => ∃ (n_f_0 : Int32) (n_f_34 : Int32) (n_f_35 : Int32) (n_r_31 : Nat → Int32) (n_r_32 : Nat → Int32) (n_r_33 : Nat → Int32) (n_r_36 : Nat → Int32) (n_r_37 : Nat → Int32) (n_r_38 : Nat → Int32), w = mM G y b (upd (upd (upd f 0 n_f_0) 34 n_f_34) 35 n_f_35) (up2 (up2 (up2 (up2 (up2 (up2 r 31 n_r_31) 32 n_r_32) 33 n_r_33) 36 n_r_36) 37 n_r_37) 38 n_r_38) ∧ rdM (nI t) (nI bs) q (r 1) (r 2) (r 3) (r 5) (r 6) (r 11) (r 12) (r 13) (r 14) (f 34) (f 35) (r 32) (r 33) n_f_34 n_f_35 n_r_32 n_r_33 ∧ (nL 12 n_f_34) ∧ (nL 12 n_f_35)) A) ([.ref y, .int (nI t), .int (nI bs)] : List Value).toArray s 0 0 A) (F0 m 102 ls []) := by
                  intro k83
                  induction k83 with
                  | zero => intro k x84 h1 h2; exact absurd h1 (by omega)
                  | succ k83 ih102k83 =>
                    intro k x84 hi_k hk_k hfs H locs ls hP hS hl
                    refine lv_iload hx hb dX7_round_102 (lv_at hl 0 rfl) ?_
                    refine lv_aload_n hx hb dX7_round_104 rfl (lv_at hl 2 rfl) ?_
                    refine va_get (D := G.1) (ci := 7) (v := .int (nI (cl))) (C := RX7) (T := TX7) (N := 43) hx hb hts inX7 hown hK.1 hP 0 rfl rfl 35 (by decide) (hts _ mf_X7_268) (fun _ h9 => h9) rfl dX7_round_105 ?_
                    refine lv_icmp_ge (tgt := 162) hx hb dX7_round_108 (by decide) (fun c85 => ?_) (fun c85 => ?_)
                    · have b108 := qge_t (a := k) (b := (cl)) (by omega) (by omega) c85
                      obtain ⟨v86, ev86⟩ : ∃ y9 : Int32, y9 = (nI i) + Int32.ofInt (1) := ⟨_, rfl⟩
                      refine lv_iinc (v := v86) (lv' := [(3, .int v86), (4, .int (nI k)), (0, .ref y), (1, .int (nI t)), (2, .int (nI bs))]) hx hb dX7_round_162 hl (k := 1) rfl ev86.symm (by decide) rfl (fun ls hl => ?_)
                      obtain rfl : v86 = nI (i + 1) := nI_plus (i := i) (j := 1) ev86 rfl (by decide)
                      refine lv_goto (tgt := 65) hx hb dX7_round_165 (by decide) ?_
                      exact ih65k9 (i + 1) x84 (upd x11 (i) (((clM (r 13) (r 14) t (nI i) ((r 12) t).toNatClampNeg).1))) (by omega) (by omega) (hgr2) (fun x y hy h9 => hfs x y hy (by omega)) _ _ _ hP hS (lv_sub hl [0, 2, 3, 4] rfl)
                    · have b108 := qge_f (a := k) (b := (cl)) (by omega) (by omega) c85
                      refine lv_aload_n hx hb dX7_round_111 rfl (lv_at hl 2 rfl) ?_
                      refine va_get (D := G.1) (ci := 7) (v := .ref (b 31)) (C := RX7) (T := TX7) (N := 43) hx hb hts inX7 hown hK.1 hP 0 rfl rfl 31 (by decide) (hts _ mf_X7_89) (fun _ h9 => h9) rfl dX7_round_112 ?_
                      refine lv_bipush (v := 12) hx hb dX7_round_115 (by decide) ?_
                      refine lv_iload_n hx hb dX7_round_117 rfl (lv_at hl 1 rfl) ?_
                      refine lv_imul hx hb dX7_round_118 ?_
                      refine lv_topi (fun v87 ev87 => ?_)
                      obtain rfl : v87 = nI (12 * i) := nI_times ev87 rfl rfl
                      refine lv_iload hx hb dX7_round_119 (lv_at hl 0 rfl) ?_
                      refine lv_iadd hx hb dX7_round_121 ?_
                      refine lv_topi (fun v88 ev88 => ?_)
                      obtain rfl : v88 = nI ((12 * i) + k) := nI_plus ev88 rfl rfl
                      refine lv_aload_n hx hb dX7_round_122 rfl (lv_at hl 2 rfl) ?_
                      refine va_get (D := G.1) (ci := 7) (v := .ref (b 33)) (C := RX7) (T := TX7) (N := 43) hx hb hts inX7 hown hK.1 hP 0 rfl rfl 33 (by decide) (hts _ mf_X7_95) (fun _ h9 => h9) rfl dX7_round_123 ?_
                      refine lv_iload_n hx hb dX7_round_126 rfl (lv_at hl 1 rfl) ?_
                      refine xiald (f := (upd x11 (i) (((clM (r 13) (r 14) t (nI i) ((r 12) t).toNatClampNeg).1)))) hx hb hK hP 29 (i) (rfl) (by omega) (by decide) rfl dX7_round_127 ?_
                      refine lv_topi (fun v89 ev89 => ?_)
                      refine lv_bipush (v := -2) hx hb dX7_round_128 (by decide) ?_
                      refine lv_icmp_eq (tgt := 150) hx hb dX7_round_130 (by decide) (fun c90 => ?_) (fun c90 => ?_)
                      · exact absurd (by rw [← hgi.1 b84, ← ev89]; exact c90) (clM_m2 bk hbk)
                      · have hg9 : ¬ (upd x11 (i) (((clM (r 13) (r 14) t (nI i) ((r 12) t).toNatClampNeg).1))) i = -2 := by rw [hgi.1 b84]; exact clM_m2 bk hbk
                        obtain ⟨m9, qa, qb⟩ := hNR i k (by omega) (by omega) b84
                        refine lv_aload_n hx hb dX7_round_133 rfl (lv_at hl 2 rfl) ?_
                        refine va_get (D := G.1) (ci := 7) (v := .ref (b 6)) (C := RX7) (T := TX7) (N := 43) hx hb hts inX7 hown hK.1 hP 0 rfl rfl 6 (by decide) (hts _ mf_X7_26) (fun _ h9 => h9) rfl dX7_round_134 ?_
                        refine lv_iload_n hx hb dX7_round_137 rfl (lv_at hl 3 rfl) ?_
                        refine lv_iload_n hx hb dX7_round_138 rfl (lv_at hl 1 rfl) ?_
                        refine lv_iload hx hb dX7_round_139 (lv_at hl 0 rfl) ?_
                        refine rdS (rest := [.ref (b 6), .int (nI ((12 * i) + k)), .ref (b 31)]) ⟨hx, hb, hml, hown, hts⟩ (m_X7_at l G y b (upd (upd (upd f 0 0) 34 (nI (rw))) 35 (nI (cl))) (up2 (up2 r 31 x84) 33 (upd x11 (i) (((clM (r 13) (r 14) t (nI i) ((r 12) t).toNatClampNeg).1)))) t i k  ) mi_yX7_at mst_yX7_at ml_X7_147 ⟨rfl, rfl, Nat.le_of_ble_eq_true rfl, Nat.le_of_ble_eq_true rfl⟩ hK (hP) rfl hl.1 rfl (Nat.le_of_ble_eq_true rfl) dX7_round_141 ⟨Nat.zero_le _, Nat.zero_le _⟩ hS hA hP (fun r91 H locs hr91 hP hS => ?_)
                        obtain rfl := hr91
                        have hmb : (r 6 (144 * t + 12 * i + k)).toNatClampNeg ≤ 1000000 := by rw [qb, nI_clamp (by omega)]; exact qa
                        have hml9 := Nat.mod_le ((r 6 (144 * t + 12 * i + k)).toNatClampNeg) bs
                        refine xiald (f := (r 6)) hx hb hK hP 6 ((144 * t + 12 * i + k)) (rfl) (by omega) (by decide) rfl dX7_round_144 ?_
                        refine lv_topi (fun v92 ev92 => ?_)
                        obtain rfl : v92 = nI (((r 6 (144 * t + 12 * i + k)).toNatClampNeg)) := ev92.trans (by rw [qb, nI_clamp (by omega)])
                        refine lv_iload_n hx hb dX7_round_145 rfl (lv_at hl 4 rfl) ?_
                        refine lv_irem hx hb dX7_round_146 (nI_ne0 (by omega) (by omega)) ?_
                        refine lv_topi (fun v93 ev93 => ?_)
                        obtain rfl : v93 = nI ((((r 6 (144 * t + 12 * i + k)).toNatClampNeg)) % bs) := nI_mod ev93 rfl rfl (by omega) (by omega) (by omega)
                        refine lv_if_ne (tgt := 154) hx hb dX7_round_147 (by decide) (fun c94 => ?_) (fun c94 => ?_)
                        · have b147 := qeq_f (a := ((((r 6 (144 * t + 12 * i + k)).toNatClampNeg)) % bs)) (b := 0) (by omega) (by omega) c94
                          refine lv_iconst (v := 2) hx hb dX7_round_154 (by decide) ?_
                          refine xiast (f := x84) (x := 2) hx hb hK hP (hDD _ _) hS 27 (((12 * i) + k)) (rfl) (by omega) (by decide) rfl dX7_round_155 (fun H locs hP _ hS => ?_)
                          have hP : PP G (mM G y b (upd (upd (upd f 0 0) 34 (nI (rw))) 35 (nI (cl))) (up2 (up2 r 31 (upd x84 (((12 * i) + k)) (2))) 33 (upd x11 (i) (((clM (r 13) (r 14) t (nI i) ((r 12) t).toNatClampNeg).1))))) H := hP
                          obtain ⟨v95, ev95⟩ : ∃ y9 : Int32, y9 = (nI k) + Int32.ofInt (1) := ⟨_, rfl⟩
                          refine lv_iinc (v := v95) (lv' := [(4, .int v95), (3, .int (nI i)), (0, .ref y), (1, .int (nI t)), (2, .int (nI bs))]) hx hb dX7_round_156 hl (k := 0) rfl ev95.symm (by decide) rfl (fun ls hl => ?_)
                          obtain rfl : v95 = nI (k + 1) := nI_plus (i := k) (j := 1) ev95 rfl (by decide)
                          refine lv_goto (tgt := 102) hx hb dX7_round_159 (by decide) ?_
                          exact ih102k83 (k + 1) (upd x84 (((12 * i) + k)) (2)) (by omega) (by omega) (fun x y hy h9 => if c9 : x = i ∧ y = k then (by obtain ⟨rfl, rfl⟩ := c9; rw [pk_us]; exact (by rw [if_neg hg9, if_neg b147])) else (by rw [pk_un (by omega)]; exact hfs x y hy (by omega))) _ _ _ hP hS (lv_sub hl [0, 1, 2, 3, 4] rfl)
                        · have b147 := qeq_t (a := ((((r 6 (144 * t + 12 * i + k)).toNatClampNeg)) % bs)) (b := 0) (by omega) (by omega) c94
                          refine lv_iconst (v := 0) hx hb dX7_round_150 (by decide) ?_
                          refine lv_goto (tgt := 155) hx hb dX7_round_151 (by decide) ?_
                          refine xiast (f := x84) (x := 0) hx hb hK hP (hDD _ _) hS 27 (((12 * i) + k)) (rfl) (by omega) (by decide) rfl dX7_round_155 (fun H locs hP _ hS => ?_)
                          have hP : PP G (mM G y b (upd (upd (upd f 0 0) 34 (nI (rw))) 35 (nI (cl))) (up2 (up2 r 31 (upd x84 (((12 * i) + k)) (0))) 33 (upd x11 (i) (((clM (r 13) (r 14) t (nI i) ((r 12) t).toNatClampNeg).1))))) H := hP
                          obtain ⟨v96, ev96⟩ : ∃ y9 : Int32, y9 = (nI k) + Int32.ofInt (1) := ⟨_, rfl⟩
                          refine lv_iinc (v := v96) (lv' := [(4, .int v96), (3, .int (nI i)), (0, .ref y), (1, .int (nI t)), (2, .int (nI bs))]) hx hb dX7_round_156 hl (k := 0) rfl ev96.symm (by decide) rfl (fun ls hl => ?_)
                          obtain rfl : v96 = nI (k + 1) := nI_plus (i := k) (j := 1) ev96 rfl (by decide)
                          refine lv_goto (tgt := 102) hx hb dX7_round_159 (by decide) ?_
                          exact ih102k83 (k + 1) (upd x84 (((12 * i) + k)) (0)) (by omega) (by omega) (fun x y hy h9 => if c9 : x = i ∧ y = k then (by obtain ⟨rfl, rfl⟩ := c9; rw [pk_us]; exact (by rw [if_neg hg9, if_pos b147])) else (by rw [pk_un (by omega)]; exact hfs x y hy (by omega))) _ _ _ hP hS (lv_sub hl [0, 1, 2, 3, 4] rfl)
                exact loop102 (cl + 1) 0 x10 (by omega) (by omega) (fun x y hy h9 => by rw [hfs x y hy h9, pk_un (show x ≠ i by omega)]) _ _ _ hP hS (lv_sub hl [0, 1, 2, 3, 4] rfl)
        exact loop65 (rw + 1) 0 (r 31) (r 33) (by omega) (by omega) (fun x h9 => absurd h9 (by omega)) (fun x y _ h9 => absurd h9 (by omega)) _ _ _ hP hS (lv_sub hl [0, 1, 2, 3] rfl)
      · refine lv_bipush (v := 7) hx hb dX7_round_25 (by decide) ?_
        refine lv_goto (tgt := 31) hx hb dX7_round_27 (by decide) ?_
        refine va_put (D := G.1) (ci := 7) (v := .int 7) (C := RX7) (T := TX7) (N := 43) hx hb hts inX7 tyX7 tyX7_ok nmX7 hown hK.1 hP (hDD _ _) hS 0 rfl rfl 0 (by decide) (hts _ mf_X7_116) (fun _ h9 => h9) rfl (tyX7_ok 0 (by decide)) (rfl) (rfl) (Nat.le_of_ble_eq_true rfl) dX7_round_31 (fun H locs hP _ hS => ?_)
        have hP : PP G (mM G y b (upd f 0 7) r) H := hP
        refine lv_aload_n hx hb dX7_round_34 rfl (lv_at hl 0 rfl) ?_
        refine va_get (D := G.1) (ci := 7) (v := .int 7) (C := RX7) (T := TX7) (N := 43) hx hb hts inX7 hown hK.1 hP 0 rfl rfl 0 (by decide) (hts _ mf_X7_116) (fun _ h9 => h9) rfl dX7_round_35 ?_
        refine lv_if_le (tgt := 43) hx hb dX7_round_38 (by decide) (fun c97 => absurd c97 (by decide)) (fun c97 => ?_)
        refine lv_iconst (v := -1) hx hb dX7_round_41 (by decide) ?_
        exact wr_iret hx hb hr hlocks hS hP ⟨7, (f 34), (f 35), (r 31), (r 32), (r 33), (r 36), (r 37), (r 38), rfl, (Or.inl ⟨fun z9 => c5 z9.2.2, rfl, rfl, rfl, rfl, rfl⟩), h34, h35⟩ dX7_round_42
  · have b6 := bF hr1 c2
    refine lv_iconst (v := 1) hx hb dX7_round_9 (by decide) ?_
    refine lv_goto (tgt := 31) hx hb dX7_round_10 (by decide) ?_
    refine va_put (D := G.1) (ci := 7) (v := .int 1) (C := RX7) (T := TX7) (N := 43) hx hb hts inX7 tyX7 tyX7_ok nmX7 hown hK.1 hP (hDD _ _) hS 0 rfl rfl 0 (by decide) (hts _ mf_X7_116) (fun _ h9 => h9) rfl (tyX7_ok 0 (by decide)) (rfl) (rfl) (Nat.le_of_ble_eq_true rfl) dX7_round_31 (fun H locs hP _ hS => ?_)
    have hP : PP G (mM G y b (upd f 0 1) r) H := hP
    refine lv_aload_n hx hb dX7_round_34 rfl (lv_at hl 0 rfl) ?_
    refine va_get (D := G.1) (ci := 7) (v := .int 1) (C := RX7) (T := TX7) (N := 43) hx hb hts inX7 hown hK.1 hP 0 rfl rfl 0 (by decide) (hts _ mf_X7_116) (fun _ h9 => h9) rfl dX7_round_35 ?_
    refine lv_if_le (tgt := 43) hx hb dX7_round_38 (by decide) (fun c98 => absurd c98 (by decide)) (fun c98 => ?_)
    refine lv_iconst (v := -1) hx hb dX7_round_41 (by decide) ?_
    exact wr_iret hx hb hr hlocks hS hP ⟨1, (f 34), (f 35), (r 31), (r 32), (r 33), (r 36), (r 37), (r 38), rfl, (Or.inl ⟨fun z9 => b6 z9.1, rfl, rfl, rfl, rfl, rfl⟩), h34, h35⟩ dX7_round_42
set_option maxHeartbeats 4000000 in
set_option maxRecDepth 100000 in
theorem n_rounded (l : Launch) (G : GG) (y : Nat) (b : Nat → Nat) (f : Nat → Int32) (r : Nat → Nat → Int32) (row : Int32) (col : Int32) (h34 : nL 12 (f 34)) (h35 : nL 12 (f 35)) : RdI l yX7_rounded cX7_rounded 3 (some .int) ({ frames := 0, cells := 0, slots := 0, locals := 0 }) G (mM G y b f r) [.ref y, .int row, .int col] (fun q => (rtM (f 34) (f 35) (r 32) (r 33) row col q)) := by
  refine rd_entry (by decide +kernel) (Nat.le_of_ble_eq_true rfl) ?_
  intro p e s m below meth c C0 hP hK ls hl
  have hS : va_S (fun q => s.heap.size ≤ q) s.heap s.heap [] := va_S.rf
  have hA : ∀ q, s.heap.size ≤ q → (fun q => s.heap.size ≤ q) q := fun _ h => h
  obtain ⟨hx, hb, hml, hown, hts, hr, hlocks, hin⟩ := C0
  have hown : s.vm.findClass RX7 = some m.cls := hown
  have hl : lv_has ls 3 [(0, .ref y), (1, .int row), (2, .int col)] := hl
  obtain ⟨n1, hn1, e1⟩ := h34
  obtain ⟨n2, hn2, e2⟩ := h35
  refine lv_iload_n hx hb dX7_rounded_0 rfl (lv_at hl 1 rfl) ?_
  refine lv_if_lt (tgt := 35) hx hb dX7_rounded_1 (by decide) (fun c1 => ?_) (fun c1 => ?_)
  · refine lv_iconst (v := -1) hx hb dX7_rounded_35 (by decide) ?_
    exact rd_iret hx hb hr hlocks hS ((Or.inr ⟨fun z9 => z9.1.1 c1, rfl⟩)) dX7_rounded_36
  · refine lv_iload_n hx hb dX7_rounded_4 rfl (lv_at hl 1 rfl) ?_
    refine lv_aload_n hx hb dX7_rounded_5 rfl (lv_at hl 0 rfl) ?_
    refine va_get (D := G.1) (ci := 7) (v := .int (f 34)) (C := RX7) (T := TX7) (N := 43) hx hb hts inX7 hown hK.1 hP 0 rfl rfl 34 (by decide) (hts _ mf_X7_265) (fun _ h9 => h9) rfl dX7_rounded_6 ?_
    rw [show (f 34) = nI (n1) from e1]
    refine lv_icmp_ge (tgt := 35) hx hb dX7_rounded_9 (by decide) (fun c2 => ?_) (fun c2 => ?_)
    · refine lv_iconst (v := -1) hx hb dX7_rounded_35 (by decide) ?_
      exact rd_iret hx hb hr hlocks hS ((Or.inr ⟨fun z9 => z9.1.2 (by first | exact c2 | (rw [e1]; exact c2)), rfl⟩)) dX7_rounded_36
    · refine lv_iload_n hx hb dX7_rounded_12 rfl (lv_at hl 2 rfl) ?_
      refine lv_if_lt (tgt := 35) hx hb dX7_rounded_13 (by decide) (fun c3 => ?_) (fun c3 => ?_)
      · refine lv_iconst (v := -1) hx hb dX7_rounded_35 (by decide) ?_
        exact rd_iret hx hb hr hlocks hS ((Or.inr ⟨fun z9 => z9.2.1 c3, rfl⟩)) dX7_rounded_36
      · refine lv_iload_n hx hb dX7_rounded_16 rfl (lv_at hl 2 rfl) ?_
        refine lv_aload_n hx hb dX7_rounded_17 rfl (lv_at hl 0 rfl) ?_
        refine va_get (D := G.1) (ci := 7) (v := .int (f 35)) (C := RX7) (T := TX7) (N := 43) hx hb hts inX7 hown hK.1 hP 0 rfl rfl 35 (by decide) (hts _ mf_X7_268) (fun _ h9 => h9) rfl dX7_rounded_18 ?_
        rw [show (f 35) = nI (n2) from e2]
        refine lv_icmp_ge (tgt := 35) hx hb dX7_rounded_21 (by decide) (fun c4 => ?_) (fun c4 => ?_)
        · refine lv_iconst (v := -1) hx hb dX7_rounded_35 (by decide) ?_
          exact rd_iret hx hb hr hlocks hS ((Or.inr ⟨fun z9 => z9.2.2 (by first | exact c4 | (rw [e2]; exact c4)), rfl⟩)) dX7_rounded_36
        · obtain ⟨i, hi, rfl⟩ := lt_ix (x := row) (n := n1) (by omega) c1 c2
          obtain ⟨k, hk, rfl⟩ := lt_ix (x := col) (n := n2) (by omega) c3 c4
          refine lv_aload_n hx hb dX7_rounded_24 rfl (lv_at hl 0 rfl) ?_
          refine va_get (D := G.1) (ci := 7) (v := .ref (b 33)) (C := RX7) (T := TX7) (N := 43) hx hb hts inX7 hown hK.1 hP 0 rfl rfl 33 (by decide) (hts _ mf_X7_95) (fun _ h9 => h9) rfl dX7_rounded_25 ?_
          refine lv_iload_n hx hb dX7_rounded_28 rfl (lv_at hl 1 rfl) ?_
          refine xiald (f := (r 33)) hx hb hK hP 29 (i) (rfl) (by omega) (by decide) rfl dX7_rounded_29 ?_
          refine lv_topi (fun v5 ev5 => ?_)
          refine lv_bipush (v := -2) hx hb dX7_rounded_30 (by decide) ?_
          refine lv_icmp_ne (tgt := 37) hx hb dX7_rounded_32 (by decide) (fun c6 => ?_) (fun c6 => ?_)
          · refine lv_aload_n hx hb dX7_rounded_37 rfl (lv_at hl 0 rfl) ?_
            refine va_get (D := G.1) (ci := 7) (v := .ref (b 32)) (C := RX7) (T := TX7) (N := 43) hx hb hts inX7 hown hK.1 hP 0 rfl rfl 32 (by decide) (hts _ mf_X7_92) (fun _ h9 => h9) rfl dX7_rounded_38 ?_
            refine lv_bipush (v := 12) hx hb dX7_rounded_41 (by decide) ?_
            refine lv_iload_n hx hb dX7_rounded_43 rfl (lv_at hl 1 rfl) ?_
            refine lv_imul hx hb dX7_rounded_44 ?_
            refine lv_topi (fun v7 ev7 => ?_)
            obtain rfl : v7 = nI (12 * i) := nI_times ev7 rfl rfl
            refine lv_iload_n hx hb dX7_rounded_45 rfl (lv_at hl 2 rfl) ?_
            refine lv_iadd hx hb dX7_rounded_46 ?_
            refine lv_topi (fun v8 ev8 => ?_)
            obtain rfl : v8 = nI ((12 * i) + k) := nI_plus ev8 rfl rfl
            refine xiald (f := (r 32)) hx hb hK hP 28 (((12 * i) + k)) (rfl) (by omega) (by decide) rfl dX7_rounded_47 ?_
            refine lv_topi (fun v9 ev9 => ?_)
            exact rd_iret hx hb hr hlocks hS ((Or.inl ⟨i, k, by omega, by omega, rfl, rfl, by first | exact inR_mr (by omega) hi | (rw [e1]; exact inR_mr (by omega) hi), by first | exact inR_mr (by omega) hk | (rw [e2]; exact inR_mr (by omega) hk), ev9.trans (if_neg (fun h9 => c6 (ev5.trans h9))).symm⟩)) dX7_rounded_48
          · refine lv_iconst (v := -1) hx hb dX7_rounded_35 (by decide) ?_
            exact rd_iret hx hb hr hlocks hS ((Or.inl ⟨i, k, by omega, by omega, rfl, rfl, by first | exact inR_mr (by omega) hi | (rw [e1]; exact inR_mr (by omega) hi), by first | exact inR_mr (by omega) hk | (rw [e2]; exact inR_mr (by omega) hk), (if_pos (ev5.symm.trans c6)).symm⟩)) dX7_rounded_36
