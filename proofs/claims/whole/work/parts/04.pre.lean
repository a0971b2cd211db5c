/-! THE REFERENCE'S NUMBERS: what holds of them between calls (n: the counts) -/
def szM (M : gT) (p : Nat) : Nat := (M 20 p).toNatClampNeg
def rwM (M : gT) (p j : Nat) : Nat := (M 21 (8 * p + j)).toNatClampNeg
def laM (M : gT) (p : Nat) : Nat := rwM M p (szM M p - 1)
def IM (n : gN) (M : gT) : Prop := (M 2 0 = nI (n 0) ∧ n 0 ≤ 24) ∧ (M 10 0 = nI (n 1) ∧ n 1 ≤ 4) ∧ (M 14 0 = nI (n 2) ∧ n 2 ≤ 12) ∧ (M 19 0 = nI (n 3) ∧ n 3 ≤ 8) ∧
  (∀ p, p < n 3 → M 20 p = nI (szM M p) ∧ 1 ≤ szM M p ∧ szM M p ≤ 8 ∧ ∀ j, j < szM M p → M 21 (8 * p + j) = nI (rwM M p j) ∧ rwM M p j < n 0) ∧
  ∀ x, x < 96 → ∃ h, h < 1000 ∧ M 13 x = nI h
theorem ix8 (p j : Nat) : 8 * nI p + nI j = nI (8 * p + j) := by
  rw [show (8 : Int32) = nI 8 from rfl, pk_mul, nI_add]
theorem ix24 (p j : Nat) : 24 * nI p + nI j = nI (24 * p + j) := by
  rw [show (24 : Int32) = nI 24 from rfl, pk_mul, nI_add]
theorem nI_p (n : Nat) (h : 1 ≤ n) : nI n - 1 = nI (n - 1) := by
  rw [show (1 : Int32) = nI 1 from rfl, pk_sub h]
theorem ix8p (p k : Nat) (h : 1 ≤ k) : 8 * nI p + nI k - 1 = nI (8 * p + (k - 1)) := by
  rw [ix8, nI_p _ (by omega), show 8 * p + k - 1 = 8 * p + (k - 1) by omega]
theorem g_ge {x : Int32} {n : Nat} (h : x = nI n) (hn : n < 2 ^ 31) {j : Nat} (hj : j < n) : ¬ x ≤ nI j := by
  rw [h]
  exact nI_ge hj hn
theorem g_le {x : Int32} {n : Nat} (h : x = nI n) (hn : n < 2 ^ 31) : x ≤ nI n := by
  rw [h]
  exact nI_le (Nat.le_refl _) hn
