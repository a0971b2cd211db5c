/-! THE LAW'S BEGINNING: the world as it is then, and that the two sides agree -/
def N0 : gN := fun _ => 0
def C00 : gT := fun f i => if f = 0 ∧ i = 8 then -1 else 0
def o0 : Nat → Int64 := fun _ => 0
theorem init_none {G : gG} {u4 u5 : gAd} {b i : Nat} (h00 : ¬ (b = 0 ∧ i = 0)) (h01 : ¬ (b = 0 ∧ i = 1)) (h02 : ¬ (b = 0 ∧ i = 2)) (h1 : ¬ (b = 1 ∧ i < 4)) (h9 : ¬ (b = 9 ∧ mlen i ≠ 0)) : (ctset (c5W G u5 (ctset (c4W G u4 (ctset (fun _ _ => none) 0 0 (some (.inr (5, [.null, .null, .null, .null, .int 0, .int 0, .int 0, .int 0, .int 0]))))) 0 1 (some (.inr (6, [.int 0, .int 0, .int 0, .null, .null, .null, .null, .null, .int 0, .int 0, .int 0, .null, .null, .null, .int 0, .null, .null, .null, .null, .int 0, .null, .null, .null]))))) 0 2 (some (.inl (G.2.1, 1, .inr (.inl (fun _ => 0)))))) b i = none := by
  rw [ctset_o h02]
  unfold c5W
  rw [if_neg h01, if_neg h9, ctset_o h01]
  unfold c4W
  rw [if_neg h00, if_neg h1, ctset_o h00]
theorem lt0 {α : Type} {i : Nat} {x : Option α} : (if i < 0 then x else none) = none := if_neg (Nat.not_lt_zero _)
theorem Wd_init {G : gG} {u4 u5 : gAd} {q1 q2 : Nat} (h5 : ∀ b i, b ≠ 9 → u5 b i = (adset u4 0 1 q1) b i) (b i : Nat) : Wd G (adset u5 0 2 q2) N0 C00 M0 o0 b i = (ctset (c5W G u5 (ctset (c4W G u4 (ctset (fun _ _ => none) 0 0 (some (.inr (5, [.null, .null, .null, .null, .int 0, .int 0, .int 0, .int 0, .int 0]))))) 0 1 (some (.inr (6, [.int 0, .int 0, .int 0, .null, .null, .null, .null, .null, .int 0, .int 0, .int 0, .null, .null, .null, .int 0, .null, .null, .null, .null, .int 0, .null, .null, .null]))))) 0 2 (some (.inl (G.2.1, 1, .inr (.inl (fun _ => 0)))))) b i := by
  have key : ∀ j, adset u5 0 2 q2 1 j = u4 1 j := fun j => (adset_o (by omega)).trans ((h5 1 j (by decide)).trans (adset_o (by omega)))
  match b with
  | 0 =>
    match i with
    | 0 =>
      show some (eToll (adset u5 0 2 q2) C00) = some (.inr (5, [.ref (u4 1 0), .ref (u4 1 1), .ref (u4 1 2), .ref (u4 1 3), .int 0, .int 0, .int 0, .int 0, .int (-1)]))
      rw [eToll, key 0, key 1, key 2, key 3]
      rfl
    | 1 => rfl
    | 2 => rfl
    | (n + 3) => exact (init_none (by omega) (by omega) (by omega) (by omega) (by omega)).symm
  | 1 =>
    by_cases hi : i < 4
    · rw [Wd_Li hi, ctset_o (by omega)]
      unfold c5W
      rw [if_neg (by omega), if_neg (by omega), ctset_o (by omega)]
      unfold c4W
      rw [if_neg (by omega), if_pos ⟨rfl, hi⟩]
      rfl
    · exact (if_neg hi).trans (init_none (by omega) (by omega) (by omega) (by omega) (by omega)).symm
  | 2 => exact (if_neg (fun z => z.2 rfl)).trans (init_none (by omega) (by omega) (by omega) (by omega) (by omega)).symm
  | 3 => exact (show Wd G (adset u5 0 2 q2) N0 C00 M0 o0 3 i = none from rfl).trans (init_none (by omega) (by omega) (by omega) (by omega) (by omega)).symm
  | 4 => exact (show Wd G (adset u5 0 2 q2) N0 C00 M0 o0 4 i = none from rfl).trans (init_none (by omega) (by omega) (by omega) (by omega) (by omega)).symm
  | 5 => exact (show Wd G (adset u5 0 2 q2) N0 C00 M0 o0 5 i = none from rfl).trans (init_none (by omega) (by omega) (by omega) (by omega) (by omega)).symm
  | 6 => exact (show Wd G (adset u5 0 2 q2) N0 C00 M0 o0 6 i = none from rfl).trans (init_none (by omega) (by omega) (by omega) (by omega) (by omega)).symm
  | 7 => exact (show Wd G (adset u5 0 2 q2) N0 C00 M0 o0 7 i = none from rfl).trans (init_none (by omega) (by omega) (by omega) (by omega) (by omega)).symm
  | 8 => exact (show Wd G (adset u5 0 2 q2) N0 C00 M0 o0 8 i = none from rfl).trans (init_none (by omega) (by omega) (by omega) (by omega) (by omega)).symm
  | 9 =>
    by_cases hi : mlen i = 0
    · exact (if_pos hi).trans (init_none (by omega) (by omega) (by omega) (by omega) (fun z => z.2 hi)).symm
    · rw [Wd_Ar hi, ctset_o (by omega)]
      unfold c5W
      rw [if_neg (by omega), if_pos ⟨rfl, hi⟩]
      have h8 : i ≠ 8 := fun z => hi (by rw [z]; rfl)
      rw [show M0 i = fun _ => 0 from funext fun _ => if_neg h8]
  | (n + 10) => exact (init_none (by omega) (by omega) (by omega) (by omega) (by omega)).symm
theorem rel_0 : Rel 0 N0 C00 M0 := by
  refine ⟨⟨Nat.zero_le _, Nat.zero_le _, Nat.zero_le _, Nat.zero_le _⟩, fun j hj => ⟨Nat.le_refl _, Nat.zero_le _⟩, fun j hj h => absurd rfl h, rfl, rfl, rfl, rfl, rfl, ⟨0, by decide, rfl⟩, rfl, rfl, rfl, rfl, fun i hi => absurd hi (Nat.not_lt_zero _), fun i _ _ => ⟨rfl, rfl⟩, fun i hi => absurd hi (Nat.not_lt_zero _), fun g _ _ => ⟨rfl, fun j _ => rfl⟩, fun x hx => ⟨0, Nat.le_refl _, rfl⟩, fun i hi => absurd hi (Nat.not_lt_zero _), fun t _ _ => ⟨rfl, rfl, rfl⟩, fun i hi => absurd hi (Nat.not_lt_zero _)⟩
