/-! how many bits -/
theorem and_b {a m y M : Nat} (ha : a < 256) (hm : m < 256) : (256 * y + a) &&& (256 * M + m) = 256 * (y &&& M) + (a &&& m) := by
  refine Nat.eq_of_testBit_eq (fun j => ?_)
  have h8 : a &&& m < 2 ^ 8 := Nat.and_lt_two_pow a (show m < 2 ^ 8 from hm)
  rw [Nat.testBit_and, show 256 = 2 ^ 8 from rfl, Nat.testBit_two_pow_mul_add _ (show a < 2 ^ 8 from ha), Nat.testBit_two_pow_mul_add _ (show m < 2 ^ 8 from hm), Nat.testBit_two_pow_mul_add _ h8, Nat.testBit_and, Nat.testBit_and]
  by_cases h : j < 8
  · rw [if_pos h, if_pos h, if_pos h]
  · rw [if_neg h, if_neg h, if_neg h]
def bN1 (x : Nat) : Nat := x - (x / 2 &&& 1431655765)
def bN2 (x : Nat) : Nat := (x &&& 858993459) + (x / 4 &&& 858993459)
def bN3 (x : Nat) : Nat := (x + x / 16) &&& 252645135
def bN4 (x : Nat) : Nat := x + x / 256
def bN5 (x : Nat) : Nat := x + x / 65536
def u1 (a : Nat) : Nat := a - (a / 2 &&& 85)
def u2 (a : Nat) : Nat := (a &&& 51) + (a / 4 &&& 51)
def pcb (a : Nat) : Nat := u2 (u1 a) % 16 + u2 (u1 a) / 16
theorem d1 : ∀ a, a < 256 → ∀ t, t < 2 → 128 * t + a / 2 < 256 ∧ (128 * t + a / 2 &&& 85) = (a / 2 &&& 85) ∧ (a / 2 &&& 85) ≤ a ∧ a / 2 &&& 21845 = a / 2 &&& 85 ∧ u1 a < 256 := by decide +kernel
theorem d2 : ∀ a, a < 256 → ∀ t, t < 4 → 64 * t + a / 4 < 256 ∧ (64 * t + a / 4 &&& 51) = (a / 4 &&& 51) ∧ a / 4 &&& 13107 = a / 4 &&& 51 ∧ a &&& 13107 = a &&& 51 := by decide +kernel
theorem d3 : ∀ a, a < 256 → u2 (u1 a) ≤ 68 ∧ u2 (u1 a) % 16 ≤ 4 ∧ pcb a ≤ 8 := by decide +kernel
theorem d4 : ∀ s, s < 69 → s % 16 ≤ 4 → ∀ t, t < 5 → s + s / 16 + 16 * t < 256 ∧ (s + s / 16 + 16 * t &&& 15) = s % 16 + s / 16 ∧ s + s / 16 &&& 3855 = s % 16 + s / 16 := by decide +kernel
theorem e1 {a b c : Nat} (ha : a < 256) (hb : b < 256) (hc : c < 256) : bN1 (256 * (256 * c + b) + a) = 256 * (256 * u1 c + u1 b) + u1 a := by
  have h1 : (256 * (256 * c + b) + a) / 2 = 256 * (256 * (c / 2) + (128 * (c % 2) + b / 2)) + (128 * (b % 2) + a / 2) := by omega
  obtain ⟨a1, a2, a3, a4, -⟩ := d1 a ha (b % 2) (by omega)
  obtain ⟨b1, b2, b3, b4, -⟩ := d1 b hb (c % 2) (by omega)
  obtain ⟨c1, c2, c3, c4, -⟩ := d1 c hc 0 (by omega)
  unfold bN1 u1
  rw [h1, show 1431655765 = 256 * (256 * 21845 + 85) + 85 from rfl, and_b a1 (by decide), and_b b1 (by decide), a2, b2, c4]
  omega
theorem e2 {a b c : Nat} (ha : a < 256) (hb : b < 256) (hc : c < 256) : bN2 (256 * (256 * c + b) + a) = 256 * (256 * u2 c + u2 b) + u2 a := by
  have h1 : (256 * (256 * c + b) + a) / 4 = 256 * (256 * (c / 4) + (64 * (c % 4) + b / 4)) + (64 * (b % 4) + a / 4) := by omega
  obtain ⟨a1, a2, a3, a4⟩ := d2 a ha (b % 4) (by omega)
  obtain ⟨b1, b2, b3, b4⟩ := d2 b hb (c % 4) (by omega)
  obtain ⟨c1, c2, c3, c4⟩ := d2 c hc 0 (by omega)
  unfold bN2 u2
  rw [h1, show 858993459 = 256 * (256 * 13107 + 51) + 51 from rfl, and_b a1 (by decide), and_b b1 (by decide), and_b ha (by decide), and_b hb (by decide), a2, b2, c3, c4]
  omega
theorem e3 {a b c : Nat} (ha : a < 69 ∧ a % 16 ≤ 4) (hb : b < 69 ∧ b % 16 ≤ 4) (hc : c < 69 ∧ c % 16 ≤ 4) : bN3 (256 * (256 * c + b) + a) = 256 * (256 * (c % 16 + c / 16) + (b % 16 + b / 16)) + (a % 16 + a / 16) := by
  have h1 : (256 * (256 * c + b) + a) + (256 * (256 * c + b) + a) / 16 = 256 * (256 * (c + c / 16) + (b + b / 16 + 16 * (c % 16))) + (a + a / 16 + 16 * (b % 16)) := by omega
  obtain ⟨a1, a2, a3⟩ := d4 a ha.1 ha.2 (b % 16) (by omega)
  obtain ⟨b1, b2, b3⟩ := d4 b hb.1 hb.2 (c % 16) (by omega)
  obtain ⟨c1, c2, c3⟩ := d4 c hc.1 hc.2 0 (by omega)
  unfold bN3
  rw [h1, show 252645135 = 256 * (256 * 3855 + 15) + 15 from rfl, and_b a1 (by decide), and_b b1 (by decide), a2, b2, c3]
theorem e6 {a b c : Nat} (ha : a ≤ 8) (hb : b ≤ 8) (hc : c ≤ 8) : bN5 (bN4 (256 * (256 * c + b) + a)) &&& 63 = a + b + c := by
  have h1 : bN5 (bN4 (256 * (256 * c + b) + a)) = 256 * (256 * c + (b + c)) + (a + b + c) := by
    unfold bN5 bN4
    omega
  rw [h1, show 63 = 256 * 0 + 63 from rfl, and_b (by omega) (by decide), Nat.and_zero]
  have h2 : ∀ x, x < 25 → x &&& 63 = x := by decide
  have := h2 (a + b + c) (by omega)
  omega
def bN (x : Nat) : Nat := bN5 (bN4 (bN3 (bN2 (bN1 x)))) &&& 63
theorem bN_pc {a b c : Nat} (ha : a < 256) (hb : b < 256) (hc : c < 256) : bN (256 * (256 * c + b) + a) = pcb a + pcb b + pcb c := by
  have h := d3
  unfold bN
  have ua := (d1 a ha 0 (by decide)).2.2.2.2
  have ub := (d1 b hb 0 (by decide)).2.2.2.2
  have uc := (d1 c hc 0 (by decide)).2.2.2.2
  rw [e1 ha hb hc, e2 ua ub uc, e3 ⟨by have := d3 a ha; omega, (d3 a ha).2.1⟩ ⟨by have := d3 b hb; omega, (d3 b hb).2.1⟩ ⟨by have := d3 c hc; omega, (d3 c hc).2.1⟩]
  exact e6 (d3 a ha).2.2 (d3 b hb).2.2 (d3 c hc).2.2
theorem pcb_s : ∀ k, k < 8 → ∀ a, a < 256 → a.testBit k = false → a + 2 ^ k < 256 ∧ pcb (a + 2 ^ k) = pcb a + 1 := by decide +kernel
theorem bN_s {x k : Nat} (hx : x < 2 ^ 24) (hk : k < 24) (h : x.testBit k = false) : bN (x + 2 ^ k) = bN x + 1 := by
  obtain ⟨a, b, c, ha, hb, hc, rfl⟩ : ∃ a b c, a < 256 ∧ b < 256 ∧ c < 256 ∧ x = 256 * (256 * c + b) + a := ⟨x % 256, x / 256 % 256, x / 65536, by omega, by omega, by omega, by omega⟩
  rw [bN_pc ha hb hc]
  have t1 : ∀ j, (256 * (256 * c + b) + a).testBit j = if j < 8 then a.testBit j else (256 * c + b).testBit (j - 8) := fun j => Nat.testBit_two_pow_mul_add (i := 8) _ ha j
  have t2 : ∀ j, (256 * c + b).testBit j = if j < 8 then b.testBit j else c.testBit (j - 8) := fun j => Nat.testBit_two_pow_mul_add (i := 8) _ hb j
  rw [t1] at h
  by_cases h8 : k < 8
  · rw [if_pos h8] at h
    obtain ⟨k1, k2⟩ := pcb_s k h8 a ha h
    rw [show 256 * (256 * c + b) + a + 2 ^ k = 256 * (256 * c + b) + (a + 2 ^ k) by omega, bN_pc k1 hb hc, k2]
    omega
  · rw [if_neg h8, t2] at h
    by_cases h16 : k - 8 < 8
    · rw [if_pos h16] at h
      obtain ⟨k1, k2⟩ := pcb_s (k - 8) h16 b hb h
      have e : 2 ^ k = 256 * 2 ^ (k - 8) := by
        rw [show 256 = 2 ^ 8 from rfl, ← Nat.pow_add]
        congr 1
        omega
      rw [e, show 256 * (256 * c + b) + a + 256 * 2 ^ (k - 8) = 256 * (256 * c + (b + 2 ^ (k - 8))) + a by omega, bN_pc ha k1 hc, k2]
      omega
    · rw [if_neg h16] at h
      obtain ⟨k1, k2⟩ := pcb_s (k - 8 - 8) (by omega) c hc h
      have e : 2 ^ k = 65536 * 2 ^ (k - 8 - 8) := by
        rw [show 65536 = 2 ^ 16 from rfl, ← Nat.pow_add]
        congr 1
        omega
      rw [e, show 256 * (256 * c + b) + a + 65536 * 2 ^ (k - 8 - 8) = 256 * (256 * (c + 2 ^ (k - 8 - 8)) + b) + a by omega, bN_pc ha hb k1, k2]
      omega
theorem nI_bv (n : Nat) : (nI n).toBitVec = BitVec.ofNat 32 n := rfl
theorem nI_and (a b : Nat) : nI a &&& nI b = nI (a &&& b) := b_ext (by rw [b_and, nI_bv, nI_bv, nI_bv, BitVec.ofNat_and])
theorem nI_shr {n : Nat} (hn : n < 2 ^ 31) (k : Nat) {z : UInt32} (hz : (z.toBitVec % 32#32).toNat = k) : (Int32.toUInt32 (nI n) >>> z).toInt32 = nI (n / 2 ^ k) := by
  refine b_ext (BitVec.eq_of_toNat_eq ?_)
  show ((BitVec.ofNat 32 n) >>> (z.toBitVec % 32#32)).toNat = (BitVec.ofNat 32 (n / 2 ^ k)).toNat
  rw [BitVec.ushiftRight_eq', hz, BitVec.toNat_ushiftRight, BitVec.toNat_ofNat, BitVec.toNat_ofNat, Nat.mod_eq_of_lt (by omega), Nat.shiftRight_eq_div_pow, Nat.mod_eq_of_lt (Nat.lt_of_le_of_lt (Nat.div_le_self _ _) (by omega))]
theorem bitc_nI {x : Nat} (hx : x < 2 ^ 24) : f_bitc (nI x) = nI (bN x) := by
  have l1 : bN1 x ≤ x := Nat.sub_le _ _
  have l2 : bN2 (bN1 x) < 2 ^ 26 := by
    have a1 : bN1 x &&& 858993459 ≤ bN1 x := Nat.and_le_left
    have a2 : bN1 x / 4 &&& 858993459 ≤ bN1 x / 4 := Nat.and_le_left
    unfold bN2
    omega
  have l3 : bN3 (bN2 (bN1 x)) < 2 ^ 28 := by
    have a1 : (bN2 (bN1 x) + bN2 (bN1 x) / 16) &&& 252645135 ≤ 252645135 := Nat.and_le_right
    unfold bN3
    omega
  have l4 : bN4 (bN3 (bN2 (bN1 x))) < 2 ^ 29 := by
    generalize bN3 (bN2 (bN1 x)) = y at l3
    unfold bN4
    omega
  have h1 : nI x - (((Int32.toUInt32 (nI x) >>> (Int32.toUInt32 1 &&& Int32.toUInt32 31)).toInt32) &&& 1431655765) = nI (bN1 x) := by
    rw [nI_shr (by omega) 1 (by decide), show (1431655765 : Int32) = nI 1431655765 from rfl, nI_and, pk_sub (by have : x / 2 ^ 1 &&& 1431655765 ≤ x / 2 ^ 1 := Nat.and_le_left; omega)]
    rfl
  have h2 : (nI (bN1 x) &&& 858993459) + (((Int32.toUInt32 (nI (bN1 x)) >>> (Int32.toUInt32 2 &&& Int32.toUInt32 31)).toInt32) &&& 858993459) = nI (bN2 (bN1 x)) := by
    rw [nI_shr (by omega) 2 (by decide), show (858993459 : Int32) = nI 858993459 from rfl, nI_and, nI_and, nI_add]
    rfl
  have h3 : (nI (bN2 (bN1 x)) + ((Int32.toUInt32 (nI (bN2 (bN1 x))) >>> (Int32.toUInt32 4 &&& Int32.toUInt32 31)).toInt32)) &&& 252645135 = nI (bN3 (bN2 (bN1 x))) := by
    rw [nI_shr (by omega) 4 (by decide), show (252645135 : Int32) = nI 252645135 from rfl, nI_add, nI_and]
    rfl
  have h4 : nI (bN3 (bN2 (bN1 x))) + ((Int32.toUInt32 (nI (bN3 (bN2 (bN1 x)))) >>> (Int32.toUInt32 8 &&& Int32.toUInt32 31)).toInt32) = nI (bN4 (bN3 (bN2 (bN1 x)))) := by
    rw [nI_shr (by omega) 8 (by decide), nI_add]
    rfl
  have h5 : nI (bN4 (bN3 (bN2 (bN1 x)))) + ((Int32.toUInt32 (nI (bN4 (bN3 (bN2 (bN1 x))))) >>> (Int32.toUInt32 16 &&& Int32.toUInt32 31)).toInt32) = nI (bN5 (bN4 (bN3 (bN2 (bN1 x))))) := by
    rw [nI_shr (by omega) 16 (by decide), nI_add]
    rfl
  unfold f_bitc
  rw [h1, h2, h3, h4, h5, show (63 : Int32) = nI 63 from rfl, nI_and]
  rfl
theorem bit_nI {x k : Nat} (hk : k < 32) : bitOf (nI x) k = x.testBit k := by
  unfold bitOf
  rw [nI_bv, BitVec.getLsbD_ofNat]
  simp [hk]
theorem or_pow {x k : Nat} (h : x.testBit k = false) : x ||| 2 ^ k = x + 2 ^ k := by
  have hx : x = 2 ^ (k + 1) * (x / 2 ^ (k + 1)) + x % 2 ^ k := by
    have h1 := Nat.testBit_eq_decide_div_mod_eq (x := x) (i := k)
    rw [h] at h1
    have h2 : x / 2 ^ k % 2 = 0 := by
      have := of_decide_eq_false h1.symm
      omega
    have h3 := Nat.div_add_mod x (2 ^ k)
    have h4 := Nat.div_add_mod (x / 2 ^ k) 2
    rw [Nat.div_div_eq_div_mul, ← Nat.pow_succ, h2] at h4
    rw [← h4] at h3
    rw [Nat.add_zero, ← Nat.mul_assoc, ← Nat.pow_succ] at h3
    exact h3.symm
  have hm : x % 2 ^ k < 2 ^ k := Nat.mod_lt _ (Nat.two_pow_pos k)
  refine Nat.eq_of_testBit_eq (fun j => ?_)
  have e2 : x + 2 ^ k = 2 ^ (k + 1) * (x / 2 ^ (k + 1)) + (2 ^ k * 1 + x % 2 ^ k) := by omega
  have h5 : 2 ^ k * 1 + x % 2 ^ k < 2 ^ (k + 1) := by rw [Nat.pow_succ]; omega
  have h6 : x % 2 ^ k < 2 ^ (k + 1) := by rw [Nat.pow_succ]; omega
  rw [Nat.testBit_or, Nat.testBit_two_pow]
  rw [e2, Nat.testBit_two_pow_mul_add _ h5, Nat.testBit_two_pow_mul_add _ hm]
  conv => lhs; lhs; rw [hx, Nat.testBit_two_pow_mul_add _ h6]
  by_cases h7 : j < k + 1
  · rw [if_pos h7, if_pos h7]
    by_cases h8 : j < k
    · rw [if_pos h8]
      simp
      omega
    · have h9 : j = k := by omega
      subst h9
      rw [if_neg h8]
      simp
  · rw [if_neg h7, if_neg h7]
    simp
    omega
theorem shl_nI {k : Nat} (hk : k < 24) : (1 : Int32) <<< (nI k &&& 31) = nI (2 ^ k) := by
  have h : ∀ k, k < 24 → (1 : Int32) <<< (nI k &&& 31) = nI (2 ^ k) := by decide +kernel
  exact h k hk
theorem nI_or (a b : Nat) : nI a ||| nI b = nI (a ||| b) := b_ext (by rw [b_or, nI_bv, nI_bv, nI_bv, BitVec.ofNat_or])
/-- a pair more -/
theorem bitc_s {x k : Nat} (hx : x < 2 ^ 24) (hk : k < 24) (h : bitOf (nI x) k = false) : f_bitc (nI x ||| (1 <<< (nI k &&& 31))) = f_bitc (nI x) + 1 := by
  rw [bit_nI (by omega)] at h
  have h2 : x + 2 ^ k < 2 ^ 24 := by
    rw [← or_pow h]
    exact Nat.or_lt_two_pow hx (Nat.pow_lt_pow_right (by decide) hk)
  rw [shl_nI hk, nI_or, or_pow h, bitc_nI h2, bitc_nI hx, bN_s hx hk h, nI_succ]
theorem or_set {x k : Nat} (hx : x < 2 ^ 24) (hk : k < 24) : ∃ y, y < 2 ^ 24 ∧ nI x ||| (1 <<< (nI k &&& 31)) = nI y :=
  ⟨x ||| 2 ^ k, Nat.or_lt_two_pow hx (Nat.pow_lt_pow_right (by decide) hk), by rw [shl_nI hk, nI_or]⟩
