/-- how many of the places below n may be chosen -/
noncomputable def rkG (M : Nat → Nat → Prop) : Nat → Nat
  | 0 => 0
  | n + 1 => rkG M n + (if pB (M (n / 12) (n % 12)) = true then 1 else 0)
section RK
variable {M : Nat → Nat → Prop}
theorem rk_s (n : Nat) : rkG M (n + 1) = rkG M n + (if pB (M (n / 12) (n % 12)) = true then 1 else 0) := rfl
theorem rk_b : ∀ n, rkG M n ≤ n
  | 0 => Nat.le_refl _
  | n + 1 => by
    have := rk_b n
    rw [rk_s]; split <;> omega
theorem rk_y {x y : Nat} (hy : y < 12) (h : M x y) : rkG M (12 * x + (y + 1)) = rkG M (12 * x + y) + 1 := by
  rw [← Nat.add_assoc, rk_s, show (12 * x + y) / 12 = x by omega, show (12 * x + y) % 12 = y by omega, pB_t h, if_pos rfl]
theorem rk_n {x y : Nat} (hy : y < 12) (h : ¬ M x y) : rkG M (12 * x + (y + 1)) = rkG M (12 * x + y) := by
  rw [← Nat.add_assoc, rk_s, show (12 * x + y) / 12 = x by omega, show (12 * x + y) % 12 = y by omega, pB_f h, if_neg (by decide)]; rfl
theorem rk_mono {a : Nat} : ∀ k, rkG M a ≤ rkG M (a + k)
  | 0 => Nat.le_refl _
  | k + 1 => by
    have := rk_mono (a := a) k
    rw [← Nat.add_assoc, rk_s]; omega
theorem rk_row {x cl : Nat} (hcl : cl ≤ 12) (h : ∀ y, cl ≤ y → ¬ M x y) : ∀ k, cl + k ≤ 12 → rkG M (12 * x + (cl + k)) = rkG M (12 * x + cl)
  | 0, _ => rfl
  | k + 1, hk => by
    have := rk_row hcl h k (by omega)
    rw [show cl + (k + 1) = cl + k + 1 by omega, rk_n (by omega) (h (cl + k) (by omega)), this]
theorem rk_end {x cl : Nat} (hcl : cl ≤ 12) (h : ∀ y, cl ≤ y → ¬ M x y) : rkG M (12 * (x + 1)) = rkG M (12 * x + cl) := by
  have := rk_row hcl h (12 - cl) (by omega)
  rw [show cl + (12 - cl) = 12 by omega] at this
  rw [show 12 * (x + 1) = 12 * x + 12 by omega]; exact this
theorem rk_lt {x y n : Nat} (hy : y < 12) (h : M x y) (hn : 12 * x + y < n) : rkG M (12 * x + y) < rkG M n := by
  have a := rk_y hy h
  have b := rk_mono (M := M) (a := 12 * x + (y + 1)) (n - (12 * x + (y + 1)))
  rw [show 12 * x + (y + 1) + (n - (12 * x + (y + 1))) = n by omega] at b
  omega
theorem rk_inj {x y x2 y2 : Nat} (hy : y < 12) (hy2 : y2 < 12) (h : M x y) (h2 : M x2 y2) (e : rkG M (12 * x + y) = rkG M (12 * x2 + y2)) : x = x2 ∧ y = y2 := by
  rcases Nat.lt_trichotomy (12 * x + y) (12 * x2 + y2) with z | z | z
  · have := rk_lt hy h z; omega
  · omega
  · have := rk_lt hy2 h2 z; omega
theorem rk_ex {k : Nat} : ∀ n, k < rkG M n → ∃ x y, y < 12 ∧ 12 * x + y < n ∧ M x y ∧ rkG M (12 * x + y) = k
  | 0, h => absurd h (Nat.not_lt_zero _)
  | n + 1, h => by
    by_cases c : M (n / 12) (n % 12)
    · by_cases e : k = rkG M n
      · exact ⟨n / 12, n % 12, Nat.mod_lt _ (by decide), by omega, c, by rw [show 12 * (n / 12) + n % 12 = n by omega]; exact e.symm⟩
      · rw [rk_s, pB_t c, if_pos rfl] at h
        obtain ⟨x, y, a1, a2, a3, a4⟩ := rk_ex (k := k) n (by omega)
        exact ⟨x, y, a1, by omega, a3, a4⟩
    · rw [rk_s, pB_f c, if_neg (by decide)] at h
      obtain ⟨x, y, a1, a2, a3, a4⟩ := rk_ex (k := k) n (by omega)
      exact ⟨x, y, a1, by omega, a3, a4⟩
end RK
/-- what is kept when the secrets and one set of choices are -/
noncomputable def KS (sec M : Nat → Nat → Prop) (m s x y : Nat) : Bool := pB (sec x y ∨ (M x y ∧ bt (nI s) (m - 1 - rkG M (12 * x + y)) = true))
def GRD (rw cl : Nat) (UN : (Nat → Nat → Bool) → Nat → Nat → Prop) (sec M : Nat → Nat → Prop) (m s : Nat) : Prop := ∀ x y, x < rw → y < cl → ¬ UN (KS sec M m s) x y
/-- a set's price -/
def prS (cp : Nat → Nat) (m s : Nat) : Nat → Nat
  | 0 => 0
  | k + 1 => prS cp m s k + (if bt (nI s) (m - 1 - k) = true then cp k else 0)
def prc (cp : Nat → Nat) (m s : Nat) : Nat := prS cp m s m
theorem prS_c {cp cq : Nat → Nat} {m s : Nat} : ∀ n, (∀ k, k < n → cp k = cq k) → prS cp m s n = prS cq m s n
  | 0, _ => rfl
  | n + 1, h => by
    show prS cp m s n + _ = prS cq m s n + _
    rw [prS_c n (fun k hk => h k (by omega)), h n (by omega)]
theorem prS_le {cp : Nat → Nat} {m s B : Nat} : ∀ n, (∀ k, k < n → cp k ≤ B) → prS cp m s n ≤ B * n
  | 0, _ => Nat.le_refl 0
  | n + 1, h => by
    have a := prS_le (m := m) (s := s) n (fun k hk => h k (by omega))
    have b := h n (by omega)
    show prS cp m s n + _ ≤ B * (n + 1)
    rw [Nat.mul_succ]
    split <;> omega
def BEF (cp : Nat → Nat) (m a b : Nat) : Prop := prc cp m a < prc cp m b ∨ (prc cp m a = prc cp m b ∧ b < a)
theorem BEF_t {cp : Nat → Nat} {m a b c : Nat} (h1 : BEF cp m a b) (h2 : BEF cp m b c) : BEF cp m a c := by unfold BEF at *; omega
theorem BEF_n {cp : Nat → Nat} {m a : Nat} : ¬ BEF cp m a a := by unfold BEF; omega
theorem BEF_or {cp : Nat → Nat} {m a b : Nat} : BEF cp m a b ∨ a = b ∨ BEF cp m b a := by unfold BEF; omega
def LSG (cp : Nat → Nat) (m : Nat) (G : Nat → Prop) (s : Nat) : Prop := s < 2 ^ m ∧ G s ∧ ∀ s2, s2 < 2 ^ m → G s2 → s2 = s ∨ BEF cp m s s2
theorem LSG_u {cp cq : Nat → Nat} {m s s2 : Nat} {G : Nat → Prop} (hc : ∀ k, k < m → cp k = cq k) (h1 : LSG cp m G s) (h2 : LSG cq m G s2) : s = s2 := by
  have e : ∀ s, prc cp m s = prc cq m s := fun s => prS_c m hc
  rcases h1.2.2 s2 h2.1 h2.2.1 with a | a
  · exact a.symm
  · rcases h2.2.2 s h1.1 h1.2.1 with b | b
    · exact b
    · unfold BEF at a b; rw [e, e] at a; omega
theorem b_all : ∀ m, m < 9 → ∀ b, b < m → bt (nI (2 ^ m - 1)) b = true := by decide +kernel
theorem GRD_all {rw cl m s : Nat} {sn : Nat → Prop} {cs : Nat → Int32} {sec M : Nat → Nat → Prop} {Lo Hi N : Nat → Nat → Nat} {dn up : Nat} (hrw : rw ≤ 12) (hcl : cl ≤ 12) (hm : m < 9) (hM : ∀ x y, M x y → y < 12 ∧ rkG M (12 * x + y) < m) (hB : BNG rw cl sn Lo Hi N) (h : GRD rw cl (UNG rw cl sn cs sec Lo Hi N dn up) sec M m s) : GRD rw cl (UNG rw cl sn cs sec Lo Hi N dn up) sec M m (2 ^ m - 1) := fun x y hx hy z => h x y hx hy (UNG_m hrw hcl hB (fun x y _ _ _ hs => pB_t (Or.inl hs)) (fun x y _ _ hk => by
  rcases pB_i hk with a | a
  · exact pB_t (Or.inl a)
  · have q := hM x y a.1
    exact pB_t (Or.inr ⟨a.1, b_all m hm _ (by omega)⟩)) z)
/-- the next set in order, found going down -/
def NXT (cp : Nat → Nat) (m : Nat) (aft : Nat → Prop) (n : Nat) (fd : Prop) (b : Nat) : Prop := (¬ fd ∧ ∀ s, s < 2 ^ m → n ≤ s → ¬ aft s) ∨ (fd ∧ b < 2 ^ m ∧ n ≤ b ∧ aft b ∧ ∀ s, s < 2 ^ m → n ≤ s → aft s → s = b ∨ BEF cp m b s)
section NX
variable {cp : Nat → Nat} {m n b : Nat} {aft : Nat → Prop} {fd fd2 : Prop}
theorem NXT_n (h : NXT cp m aft (n + 1) fd b) (hno : ¬ aft n) : NXT cp m aft n fd b := by
  rcases h with ⟨h1, h2⟩ | ⟨h1, h2, h3, h4, h5⟩
  · refine Or.inl ⟨h1, fun s hs hn ha => ?_⟩
    by_cases e : s = n
    · rw [e] at ha; exact hno ha
    · exact h2 s hs (by omega) ha
  · refine Or.inr ⟨h1, h2, by omega, h4, fun s hs hn ha => ?_⟩
    by_cases e : s = n
    · rw [e] at ha; exact absurd ha hno
    · exact h5 s hs (by omega) ha
theorem NXT_t (h : NXT cp m aft (n + 1) fd b) (hn : n < 2 ^ m) (ha : aft n) (hb : fd → prc cp m n < prc cp m b) (hf : fd2) : NXT cp m aft n fd2 n := by
  refine Or.inr ⟨hf, hn, Nat.le_refl _, ha, fun s hs hns has => ?_⟩
  by_cases e : s = n
  · exact Or.inl e
  · rcases h with ⟨h1, h2⟩ | ⟨h1, h2, h3, h4, h5⟩
    · exact absurd has (h2 s hs (by omega))
    · have a := hb h1
      rcases h5 s hs (by omega) has with c | c
      · rw [c]; exact Or.inr (Or.inl a)
      · exact Or.inr (by unfold BEF at c ⊢; omega)
theorem NXT_k (h : NXT cp m aft (n + 1) fd b) (hf : fd) (hb : prc cp m b ≤ prc cp m n) : NXT cp m aft n fd b := by
  rcases h with ⟨h1, h2⟩ | ⟨h1, h2, h3, h4, h5⟩
  · exact absurd hf h1
  · refine Or.inr ⟨h1, h2, by omega, h4, fun s hs hns has => ?_⟩
    by_cases e : s = n
    · rw [e]; exact Or.inr (by unfold BEF; omega)
    · exact h5 s hs (by omega) has
end NX
/-- how many sets come before one -/
noncomputable def cBf (cp : Nat → Nat) (m s : Nat) : Nat → Nat
  | 0 => 0
  | n + 1 => cBf cp m s n + (if pB (BEF cp m n s) = true then 1 else 0)
theorem cBf_lt {cp : Nat → Nat} {m s : Nat} : ∀ n, s < n → cBf cp m s n < n
  | 0, h => absurd h (by omega)
  | n + 1, h => by
    have le : ∀ k, cBf cp m s k ≤ k := fun k => by
      induction k with
      | zero => exact Nat.le_refl 0
      | succ k ih => show cBf cp m s k + _ ≤ k + 1; split <;> omega
    show cBf cp m s n + _ < n + 1
    by_cases e : s = n
    · subst e
      rw [pB_f BEF_n, if_neg (by decide)]
      have := le s; omega
    · have := cBf_lt (cp := cp) (m := m) n (show s < n by omega)
      split <;> omega
theorem cBf_le {cp : Nat → Nat} {m s s2 : Nat} (h : BEF cp m s s2) : ∀ n, cBf cp m s n ≤ cBf cp m s2 n
  | 0 => Nat.le_refl 0
  | n + 1 => by
    have := cBf_le h n
    show cBf cp m s n + _ ≤ cBf cp m s2 n + _
    by_cases c : BEF cp m n s
    · rw [pB_t c, pB_t (BEF_t c h)]; omega
    · rw [pB_f c, if_neg (by decide)]; omega
theorem cBf_s {cp : Nat → Nat} {m s s2 : Nat} (h : BEF cp m s s2) : ∀ n, s < n → cBf cp m s n + 1 ≤ cBf cp m s2 n
  | 0, z => absurd z (by omega)
  | n + 1, z => by
    have a := cBf_le h n
    show cBf cp m s n + _ + 1 ≤ cBf cp m s2 n + _
    by_cases e : s = n
    · subst e; rw [pB_f BEF_n, pB_t h, if_neg (by decide), if_pos rfl]; omega
    · have b := cBf_s h n (by omega)
      by_cases c : BEF cp m n s
      · rw [pB_t c, pB_t (BEF_t c h)]; omega
      · rw [pB_f c, if_neg (by decide)]; omega
