/-! THE TWO SIDES: numbers, bits, places -/
theorem gIt_congr {α : Type} {f g : Nat → α → α} {n : Nat} (h : ∀ j a, j < n → f j a = g j a) (a : α) : gIt f a n = gIt g a n := by
  induction n with
  | zero => rfl
  | succ n ih => rw [gIt_s, gIt_s, ih (fun j b hj => h j b (by omega)), h n _ (by omega)]
theorem isIn_gIn {v : Int32} {n : Nat} (hn : n ≤ 1000) : f_X5_isIn v 0 (nI n - 1) = if gIn v n then 1 else 0 := by
  have e1 : (nI n - 1).toInt = (n : Int) - 1 := pk_sub_toInt (a := n) (b := 1) (by omega) (by omega)
  unfold f_X5_isIn
  by_cases h0 : v < 0
  · rw [if_pos h0, if_neg (fun z => z.1 h0)]
  · rw [if_neg h0]
    by_cases h1 : v < nI n
    · have h2 : ¬ nI n - 1 < v := by
        rw [Int32.lt_iff_toInt_lt, nI_toInt (by omega)] at h1
        rw [Int32.lt_iff_toInt_lt, e1]
        omega
      rw [if_neg h2, if_pos ⟨h0, h1⟩]
    · have h2 : nI n - 1 < v := by
        rw [Int32.lt_iff_toInt_lt, nI_toInt (by omega)] at h1
        rw [Int32.lt_iff_toInt_lt, e1]
        omega
      rw [if_pos h2, if_neg (fun z => h1 z.2)]
theorem nI_inj {a b : Nat} (ha : a < 2 ^ 31) (hb : b < 2 ^ 31) (h : nI a = nI b) : a = b := by
  have h1 := congrArg Int32.toInt h
  rw [nI_toInt ha, nI_toInt hb] at h1
  omega
theorem nI_lt_iff {a b : Nat} (ha : a < 2 ^ 31) (hb : b < 2 ^ 31) : nI a < nI b ↔ a < b := by
  rw [Int32.lt_iff_toInt_lt, nI_toInt ha, nI_toInt hb]
  omega
theorem nI_le_iff {a b : Nat} (ha : a < 2 ^ 31) (hb : b < 2 ^ 31) : nI a ≤ nI b ↔ a ≤ b := by
  rw [Int32.le_iff_toInt_le, nI_toInt ha, nI_toInt hb]
  omega
/-! bits -/
theorem b_and (x y : Int32) : (x &&& y).toBitVec = x.toBitVec &&& y.toBitVec := rfl
theorem b_or (x y : Int32) : (x ||| y).toBitVec = x.toBitVec ||| y.toBitVec := rfl
theorem b_xor (x y : Int32) : (x ^^^ y).toBitVec = x.toBitVec ^^^ y.toBitVec := rfl
theorem b_ext {x y : Int32} (h : x.toBitVec = y.toBitVec) : x = y := Int32.toBitVec_inj.mp h
def bitOf (x : Int32) (k : Nat) : Bool := x.toBitVec.getLsbD k
theorem bit_and (x y : Int32) (k : Nat) : bitOf (x &&& y) k = (bitOf x k && bitOf y k) := by unfold bitOf; rw [b_and, BitVec.getLsbD_and]
theorem bit_or (x y : Int32) (k : Nat) : bitOf (x ||| y) k = (bitOf x k || bitOf y k) := by unfold bitOf; rw [b_or, BitVec.getLsbD_or]
theorem bit_ext {x y : Int32} (h : ∀ k, k < 32 → bitOf x k = bitOf y k) : x = y := b_ext (BitVec.eq_of_getLsbD_eq (fun k hk => h k hk))
theorem one_shl : ∀ k, k < 32 → ∀ j, j < 32 → bitOf (1 <<< (nI k &&& 31)) j = decide (j = k) := by decide +kernel
theorem bit_shl {k j : Nat} (hk : k < 32) (hj : j < 32) : bitOf (1 <<< (nI k &&& 31)) j = decide (j = k) := one_shl k hk j hj
theorem bit_zero (k : Nat) : bitOf 0 k = false := by unfold bitOf; exact BitVec.getLsbD_zero
theorem and_shl {x : Int32} {k : Nat} (hk : k < 32) : x &&& (1 <<< (nI k &&& 31)) = 0 ↔ bitOf x k = false := by
  constructor
  · intro h
    have h1 := congrArg (fun z => bitOf z k) h
    simp only [bit_and, bit_shl hk hk, bit_zero] at h1
    simpa using h1
  · intro h
    refine bit_ext (fun j hj => ?_)
    rw [bit_and, bit_shl hk hj, bit_zero]
    by_cases e : j = k
    · subst e
      rw [h]; rfl
    · simp [e]
theorem shr_bv (x : Int32) {k : Nat} (hk : k < 32) : (x >>> (nI k &&& 31)).toBitVec = x.toBitVec.sshiftRight k := by
  show x.toBitVec.sshiftRight (((nI k &&& 31).toBitVec.smod 32).toNat) = _
  rw [sh_amt k hk]
theorem shr_and {x : Int32} {k : Nat} (hk : k < 32) : (x >>> (nI k &&& 31)) &&& 1 = if bitOf x k then 1 else 0 := by
  refine bit_ext (fun j hj => ?_)
  rw [bit_and]
  have h1 : bitOf (1 : Int32) j = decide (j = 0) := by
    have := one_shl 0 (by decide) j hj
    exact this
  rw [h1]
  by_cases e : j = 0
  · subst e
    have h2 : bitOf (x >>> (nI k &&& 31)) 0 = bitOf x k := by
      unfold bitOf
      rw [shr_bv x hk, BitVec.getLsbD_sshiftRight]
      simp
      omega
    rw [h2]
    cases bitOf x k <;> simp [bit_zero] <;> decide
  · cases bitOf x k
    · simp [e, bit_zero]
    · have h3 : bitOf (1 : Int32) j = decide (j = 0) := h1
      simp [e, h3]
theorem has_bit {x : Int32} {k : Nat} (hk : k < 32) : f_X5_has x (nI k) = if bitOf x k then 1 else 0 := by
  unfold f_X5_has
  rw [shr_and hk]
  cases bitOf x k <;> rfl
theorem set_bit {x : Int32} {k : Nat} (hk : k < 32) : (if x &&& (1 <<< (nI k &&& 31)) = 0 then (0 : Int32) else 1) = if bitOf x k then 1 else 0 := by
  by_cases h : bitOf x k = true
  · rw [if_neg (fun z => by rw [(and_shl hk).mp z] at h; cases h), if_pos h]
  · rw [if_pos ((and_shl hk).mpr (Bool.eq_false_iff.mpr h)), if_neg h]
