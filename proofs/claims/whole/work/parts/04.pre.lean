/-! THE REFERENCE'S NUMBERS: what holds of them between calls (n: the counts) -/
def szM (M : gT) (p : Nat) : Nat := (M 20 p).toNatClampNeg
def rwM (M : gT) (p j : Nat) : Nat := (M 21 (8 * p + j)).toNatClampNeg
def laM (M : gT) (p : Nat) : Nat := rwM M p (szM M p - 1)
def IM (n : gN) (M : gT) : Prop := (M 2 0 = nI (n 0) ∧ n 0 ≤ 24) ∧ (M 10 0 = nI (n 1) ∧ n 1 ≤ 4) ∧ (M 14 0 = nI (n 2) ∧ n 2 ≤ 12) ∧ (M 19 0 = nI (n 3) ∧ n 3 ≤ 8) ∧
  (∀ p, p < n 3 → M 20 p = nI (szM M p) ∧ 1 ≤ szM M p ∧ szM M p ≤ 8 ∧ ∀ j, j < szM M p → M 21 (8 * p + j) = nI (rwM M p j) ∧ rwM M p j < n 0) ∧
  ∀ x, x < 96 → ∃ h, h < 1000 ∧ M 13 x = nI h
theorem ix8 (p j : Nat) : 8 * nI p + nI j = nI (8 * p + j) := by
  rw [show (8 : Int32) = nI 8 from rfl, pk_mul, nI_add]
theorem ix24 (p j : Nat) : 24 * nI p + nI j = nI (24 * p + j) := by
  rw [show (24 : Int32) = nI 24 from rfl, pk_mul, nI_add]
theorem nI_p (n : Nat) (h : 1 ≤ n) : nI n - 1 = nI (n - 1) := by
  rw [show (1 : Int32) = nI 1 from rfl, pk_sub h]
theorem ix8p (p k : Nat) (h : 1 ≤ k) : 8 * nI p + nI k - 1 = nI (8 * p + (k - 1)) := by
  rw [ix8, nI_p _ (by omega), show 8 * p + k - 1 = 8 * p + (k - 1) by omega]
theorem g_ge {x : Int32} {n : Nat} (h : x = nI n) (hn : n < 2 ^ 31) {j : Nat} (hj : j < n) : ¬ x ≤ nI j := by
  rw [h]
  exact nI_ge hj hn
theorem g_le {x : Int32} {n : Nat} (h : x = nI n) (hn : n < 2 ^ 31) : x ≤ nI n := by
  rw [h]
  exact nI_le (Nat.le_refl _) hn
theorem IM_t0 {n : gN} {M : gT} {v : Int32} (h : IM n M) : IM n (tset M 0 0 v) := h
/-- a number that passes a check of place -/
theorem idx_of {v b : Int32} {k : Nat} (hb : b = nI k) (hk : k ≤ 1000) (h0 : ¬ v < 0) (h1 : ¬ b - 1 < v) : v = nI v.toNatClampNeg ∧ v.toNatClampNeg < k := by
  subst hb
  have e1 : (nI k - 1).toInt = (k : Int) - 1 := pk_sub_toInt (a := k) (b := 1) (by omega) (by omega)
  have h2 : 0 ≤ v.toInt := by
    have := mt Int32.lt_iff_toInt_lt.mpr h0
    rw [show (0 : Int32).toInt = 0 from rfl] at this
    omega
  have h3 : v.toInt < k := by
    have := mt Int32.lt_iff_toInt_lt.mpr h1
    rw [e1] at this
    omega
  obtain ⟨j, hj, rfl⟩ := vp_in_of (vp_in_iff.mpr ⟨h2, h3⟩) (by omega)
  rw [nI_clamp (by omega)]
  exact ⟨rfl, hj⟩
/-- a number made for one call, dropped behind it -/
theorem tmp_drop {D : va_G} {A : Nat → Prop} {G : gG} {ad : gAd} {N : gN} {C M : gT} {o : Nat → Int64} {q : Nat} {e9 : Option va_E} {H : Heap} (h : gW D A (adset ad 0 9 q) (ctset (Wd G ad N C M o) 0 9 e9) H) : gW D A ad (Wd G ad N C M o) H := by
  have key : ∀ b i, Wd G ad N C M o b i ≠ none → ¬ (b = 0 ∧ i = 9) := by
    intro b i h1 h2
    rw [h2.1, h2.2] at h1
    exact h1 rfl
  refine ⟨fun b i e h1 => ?_, fun b i b' i' h1 h2 h3 => ?_⟩
  · have k := key b i (g_some h1)
    have h4 := h.1 b i e (by rw [ctset_o k]; exact h1)
    rw [adset_o k] at h4
    exact h4
  · have k := key b i h1
    have k' := key b' i' h2
    exact h.2 b i b' i' (by rw [ctset_o k]; exact h1) (by rw [ctset_o k']; exact h2) (by rw [adset_o k, adset_o k']; exact h3)
