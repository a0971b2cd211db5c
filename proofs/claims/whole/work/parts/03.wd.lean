/-! THE SYSTEM'S STATE: N counts (0 scenes, 1 guards, 2 travellers, 3 plots; 4.. the rooms of the lists' arrays), C the class's numbers by 10 * block + field, M the reference's by field, o the law's array -/
abbrev gN : Type := Nat → Nat
abbrev gT : Type := Nat → Nat → Int32
abbrev gG : Type := ClassId × ClassId × ClassId × Nat
abbrev gTs (G : gG) : List (ClassId × FieldType) := gTy G.1 G.2.1 G.2.2.1
def tset (C : gT) (f i : Nat) (v : Int32) : gT := fun f' i' => if f' = f ∧ i' = i then v else C f' i'
def nset (N : gN) (k v : Nat) : gN := fun k' => if k' = k then v else N k'
theorem tset_s {C : gT} {f i : Nat} {v : Int32} : tset C f i v f i = v := if_pos ⟨rfl, rfl⟩
theorem tset_o {C : gT} {f i : Nat} {v : Int32} {f' i' : Nat} (h : ¬ (f' = f ∧ i' = i)) : tset C f i v f' i' = C f' i' := if_neg h
theorem tset_f {C : gT} {f i : Nat} {v : Int32} {f' : Nat} (h : f' ≠ f) : tset C f i v f' = C f' := funext fun _ => if_neg (fun z => h z.1)
theorem tset_row {C : gT} {f i : Nat} {v : Int32} : tset C f i v f = upd (C f) i v := by
  funext j
  by_cases h : j = i
  · subst h
    simp [tset, upd]
  · simp [tset, upd, h]
def mlen : Nat → Nat := fun f => match f with
  | 3 => 24 | 4 => 24 | 5 => 24 | 6 => 24 | 7 => 24 | 11 => 4 | 12 => 4 | 13 => 96 | 15 => 12 | 16 => 12 | 17 => 12 | 18 => 12 | 20 => 8 | 21 => 64 | 22 => 8
  | _ => 0
abbrev eToll (ad : gAd) (C : gT) : va_E := .inr (5, [.ref (ad 1 0), .ref (ad 1 1), .ref (ad 1 2), .ref (ad 1 3), .int (C 0 4), .int (C 0 5), .int (C 0 6), .int (C 0 7), .int (C 0 8)])
abbrev eMod (ad : gAd) (M : gT) : va_E := .inr (6, [.int (M 0 0), .int (M 1 0), .int (M 2 0), .ref (ad 9 3), .ref (ad 9 4), .ref (ad 9 5), .ref (ad 9 6), .ref (ad 9 7), .int (M 8 0), .int (M 9 0), .int (M 10 0), .ref (ad 9 11), .ref (ad 9 12), .ref (ad 9 13), .int (M 14 0), .ref (ad 9 15), .ref (ad 9 16), .ref (ad 9 17), .ref (ad 9 18), .int (M 19 0), .ref (ad 9 20), .ref (ad 9 21), .ref (ad 9 22)])
abbrev eList (G : gG) (ad : gAd) (N : gN) (C : gT) (j : Nat) : va_E := .inr (0, [.int (C 1 j), .ref (if N j = 0 then G.2.2.2 else ad 2 j), .int (nI (N j))])
abbrev eElem (G : gG) (ad : gAd) (N : gN) (j : Nat) : va_E := .inl (G.2.2.1, N (4 + j), .inr (.inr (.inr (.inr (fun i => if i < N j then some (ad (3 + j) i) else none)))))
abbrev eS (C : gT) (i : Nat) : va_E := .inr (3, [.int (C 30 i), .int (C 31 i), .int (C 32 i), .int (C 33 i), .int (C 34 i), .int (C 35 i)])
abbrev eGd (ad : gAd) (C : gT) (i : Nat) : va_E := .inr (1, [.ref (ad 7 i), .int (C 41 i), .int (C 42 i), .int (C 43 i)])
abbrev eTr (C : gT) (i : Nat) : va_E := .inr (4, [.int (C 50 i), .int (C 51 i), .int (C 52 i), .int (C 53 i), .int (C 54 i)])
abbrev ePl (ad : gAd) (C : gT) (i : Nat) : va_E := .inr (2, [.ref (ad 8 i), .int (C 61 i), .int (C 62 i), .ref (ad 3 (C 63 i).toNatClampNeg), .int (C 64 i), .int (C 65 i)])
def Wd (G : gG) (ad : gAd) (N : gN) (C M : gT) (o : Nat → Int64) : gC := fun b i => match b with
  | 0 => (match i with
    | 0 => some (eToll ad C)
    | 1 => some (eMod ad M)
    | 2 => some (.inl (G.2.1, 1, .inr (.inl o)))
    | _ => none)
  | 1 => if i < 4 then some (eList G ad N C i) else none
  | 2 => if i < 4 ∧ N i ≠ 0 then some (eElem G ad N i) else none
  | 3 => if i < N 0 then some (eS C i) else none
  | 4 => if i < N 1 then some (eGd ad C i) else none
  | 5 => if i < N 2 then some (eTr C i) else none
  | 6 => if i < N 3 then some (ePl ad C i) else none
  | 7 => if i < N 1 then some (.inl (G.1, 24, .inl (C (100 + i)))) else none
  | 8 => if i < N 3 then some (.inl (G.1, 8, .inl (C (200 + i)))) else none
  | 9 => if mlen i = 0 then none else some (.inl (G.1, mlen i, .inl (M i)))
  | _ => none
section WDs
variable {G : gG} {ad : gAd} {N : gN} {C C' M M' : gT} {o : Nat → Int64}
theorem Wd_S {i : Nat} (h : i < N 0) : Wd G ad N C M o 3 i = some (eS C i) := if_pos h
theorem Wd_Gd {i : Nat} (h : i < N 1) : Wd G ad N C M o 4 i = some (eGd ad C i) := if_pos h
theorem Wd_Tr {i : Nat} (h : i < N 2) : Wd G ad N C M o 5 i = some (eTr C i) := if_pos h
theorem Wd_Pl {i : Nat} (h : i < N 3) : Wd G ad N C M o 6 i = some (ePl ad C i) := if_pos h
theorem Wd_Hd {i : Nat} (h : i < N 1) : Wd G ad N C M o 7 i = some (.inl (G.1, 24, .inl (C (100 + i)))) := if_pos h
theorem Wd_Rw {i : Nat} (h : i < N 3) : Wd G ad N C M o 8 i = some (.inl (G.1, 8, .inl (C (200 + i)))) := if_pos h
theorem Wd_El {j : Nat} (hj : j < 4) (h : N j ≠ 0) : Wd G ad N C M o 2 j = some (eElem G ad N j) := if_pos ⟨hj, h⟩
theorem Wd_Li {j : Nat} (hj : j < 4) : Wd G ad N C M o 1 j = some (eList G ad N C j) := if_pos hj
theorem Wd_Ar {f : Nat} (h : mlen f ≠ 0) : Wd G ad N C M o 9 f = some (.inl (G.1, mlen f, .inl (M f))) := if_neg h
/-- what of the class's numbers a code reads -/
theorem Wd_C (b i : Nat) (h0 : b = 0 → ∀ k, 4 ≤ k → C' 0 k = C 0 k) (h1 : b = 1 → C' 1 i = C 1 i) (h3 : b = 3 → ∀ f, 30 ≤ f → f < 36 → C' f i = C f i) (h4 : b = 4 → ∀ f, 40 ≤ f → f < 44 → C' f i = C f i)
    (h5 : b = 5 → ∀ f, 50 ≤ f → f < 55 → C' f i = C f i) (h6 : b = 6 → ∀ f, 60 ≤ f → f < 66 → C' f i = C f i) (h7 : b = 7 → C' (100 + i) = C (100 + i)) (h8 : b = 8 → C' (200 + i) = C (200 + i)) : Wd G ad N C' M o b i = Wd G ad N C M o b i := by
  match b with
  | 0 =>
    match i with
    | 0 =>
      have h := h0 rfl
      show some (eToll ad C') = some (eToll ad C)
      rw [eToll, eToll, h 4 (by omega), h 5 (by omega), h 6 (by omega), h 7 (by omega), h 8 (by omega)]
    | 1 => rfl
    | 2 => rfl
    | (n + 3) => rfl
  | 1 =>
    show (if i < 4 then some (eList G ad N C' i) else none) = if i < 4 then some (eList G ad N C i) else none
    rw [eList, eList, h1 rfl]
  | 2 => rfl
  | 3 =>
    have h := h3 rfl
    show (if i < N 0 then some (eS C' i) else none) = if i < N 0 then some (eS C i) else none
    rw [eS, eS, h 30 (by omega) (by omega), h 31 (by omega) (by omega), h 32 (by omega) (by omega), h 33 (by omega) (by omega), h 34 (by omega) (by omega), h 35 (by omega) (by omega)]
  | 4 =>
    have h := h4 rfl
    show (if i < N 1 then some (eGd ad C' i) else none) = if i < N 1 then some (eGd ad C i) else none
    rw [eGd, eGd, h 41 (by omega) (by omega), h 42 (by omega) (by omega), h 43 (by omega) (by omega)]
  | 5 =>
    have h := h5 rfl
    show (if i < N 2 then some (eTr C' i) else none) = if i < N 2 then some (eTr C i) else none
    rw [eTr, eTr, h 50 (by omega) (by omega), h 51 (by omega) (by omega), h 52 (by omega) (by omega), h 53 (by omega) (by omega), h 54 (by omega) (by omega)]
  | 6 =>
    have h := h6 rfl
    show (if i < N 3 then some (ePl ad C' i) else none) = if i < N 3 then some (ePl ad C i) else none
    rw [ePl, ePl, h 61 (by omega) (by omega), h 62 (by omega) (by omega), h 63 (by omega) (by omega), h 64 (by omega) (by omega), h 65 (by omega) (by omega)]
  | 7 =>
    show (if i < N 1 then some (Sum.inl (G.1, 24, Sum.inl (C' (100 + i)))) else none) = if i < N 1 then some (Sum.inl (G.1, 24, Sum.inl (C (100 + i)))) else none
    rw [h7 rfl]
  | 8 =>
    show (if i < N 3 then some (Sum.inl (G.1, 8, Sum.inl (C' (200 + i)))) else none) = if i < N 3 then some (Sum.inl (G.1, 8, Sum.inl (C (200 + i)))) else none
    rw [h8 rfl]
  | 9 => rfl
  | (n + 10) => rfl
/-- one of the class's numbers changed: block b0's cells of f's key -/
theorem Wd_t0 {k : Nat} {v : Int32} (b i : Nat) (h : ¬ (b = 0 ∧ i = 0)) : Wd G ad N (tset C 0 k v) M o b i = Wd G ad N C M o b i := by
  by_cases hb : b = 0
  · subst hb
    match i, h with
    | 0, h => exact absurd ⟨rfl, rfl⟩ h
    | 1, _ => rfl
    | 2, _ => rfl
    | (n + 3), _ => rfl
  · exact Wd_C b i (fun z => absurd z hb) (fun _ => tset_o (by omega)) (fun _ f _ _ => tset_o (by omega)) (fun _ f _ _ => tset_o (by omega)) (fun _ f _ _ => tset_o (by omega)) (fun _ f _ _ => tset_o (by omega)) (fun _ => tset_f (by omega)) (fun _ => tset_f (by omega))
theorem Wd_tk {f i0 : Nat} {v : Int32} {b0 : Nat} (hf : 30 ≤ f ∧ f < 66 ∧ f / 10 = b0) (b i : Nat) (h : ¬ (b = b0 ∧ i = i0)) : Wd G ad N (tset C f i0 v) M o b i = Wd G ad N C M o b i :=
  Wd_C b i (fun _ k _ => tset_o (by omega)) (fun _ => tset_o (by omega)) (fun _ f _ _ => tset_o (by omega)) (fun _ f _ _ => tset_o (by omega)) (fun _ f _ _ => tset_o (by omega)) (fun _ f _ _ => tset_o (by omega)) (fun _ => tset_f (by omega)) (fun _ => tset_f (by omega))
/-- a row of keys 100 + g or 200 + q changed -/
theorem Wd_t7 {g k : Nat} {v : Int32} (hN : N 1 ≤ 100 ∧ N 3 ≤ 100) (hg : g < 100) (b i : Nat) (h : ¬ (b = 7 ∧ i = g)) : Wd G ad N (tset C (100 + g) k v) M o b i = Wd G ad N C M o b i := by
  by_cases h8 : b = 8 ∧ ¬ i < N 3
  · obtain ⟨rfl, h8⟩ := h8
    exact (if_neg h8).trans (if_neg h8).symm
  · exact Wd_C b i (fun _ k _ => tset_o (by omega)) (fun _ => tset_o (by omega)) (fun _ f _ _ => tset_o (by omega)) (fun _ f _ _ => tset_o (by omega)) (fun _ f _ _ => tset_o (by omega)) (fun _ f _ _ => tset_o (by omega)) (fun _ => tset_f (by omega)) (fun _ => tset_f (by omega))
theorem Wd_t8 {g k : Nat} {v : Int32} (hN : N 1 ≤ 100 ∧ N 3 ≤ 100) (hg : g < 100) (b i : Nat) (h : ¬ (b = 8 ∧ i = g)) : Wd G ad N (tset C (200 + g) k v) M o b i = Wd G ad N C M o b i := by
  by_cases h7 : b = 7 ∧ ¬ i < N 1
  · obtain ⟨rfl, h7⟩ := h7
    exact (if_neg h7).trans (if_neg h7).symm
  · exact Wd_C b i (fun _ k _ => tset_o (by omega)) (fun _ => tset_o (by omega)) (fun _ f _ _ => tset_o (by omega)) (fun _ f _ _ => tset_o (by omega)) (fun _ f _ _ => tset_o (by omega)) (fun _ f _ _ => tset_o (by omega)) (fun _ => tset_f (by omega)) (fun _ => tset_f (by omega))
theorem Wd_tM {k : Nat} {v : Int32} (hk : mlen k = 0) (b i : Nat) (h : ¬ (b = 0 ∧ i = 1)) : Wd G ad N C (tset M k 0 v) o b i = Wd G ad N C M o b i := by
  match b with
  | 0 =>
    match i, h with
    | 0, _ => rfl
    | 1, h => exact absurd ⟨rfl, rfl⟩ h
    | 2, _ => rfl
    | (n + 3), _ => rfl
  | 1 => rfl
  | 2 => rfl
  | 3 => rfl
  | 4 => rfl
  | 5 => rfl
  | 6 => rfl
  | 7 => rfl
  | 8 => rfl
  | 9 =>
    show (if mlen i = 0 then none else some (Sum.inl (G.1, mlen i, Sum.inl (tset M k 0 v i)))) = if mlen i = 0 then none else some (Sum.inl (G.1, mlen i, Sum.inl (M i)))
    by_cases hi : mlen i = 0
    · rw [if_pos hi, if_pos hi]
    · rw [if_neg hi, if_neg hi, tset_f (fun z => hi (by rw [z]; exact hk))]
  | (n + 10) => rfl
theorem Wd_tA {f j : Nat} {v : Int32} (hf : mlen f ≠ 0) (b i : Nat) (h : ¬ (b = 9 ∧ i = f)) : Wd G ad N C (tset M f j v) o b i = Wd G ad N C M o b i := by
  have hs : ∀ k, mlen k = 0 → tset M f j v k 0 = M k 0 := fun k hk => tset_o (fun z => hf (by rw [← z.1]; exact hk))
  match b with
  | 0 =>
    match i with
    | 0 => rfl
    | 1 =>
      show some (eMod ad (tset M f j v)) = some (eMod ad M)
      rw [eMod, eMod, hs 0 rfl, hs 1 rfl, hs 2 rfl, hs 8 rfl, hs 9 rfl, hs 10 rfl, hs 14 rfl, hs 19 rfl]
    | 2 => rfl
    | (n + 3) => rfl
  | 1 => rfl
  | 2 => rfl
  | 3 => rfl
  | 4 => rfl
  | 5 => rfl
  | 6 => rfl
  | 7 => rfl
  | 8 => rfl
  | 9 =>
    show (if mlen i = 0 then none else some (Sum.inl (G.1, mlen i, Sum.inl (tset M f j v i)))) = if mlen i = 0 then none else some (Sum.inl (G.1, mlen i, Sum.inl (M i)))
    rw [tset_f (fun z => h ⟨rfl, z⟩)]
  | (n + 10) => rfl
theorem Wd_An {f j : Nat} {v : Int32} (hf : mlen f ≠ 0) : Wd G ad N C (tset M f j v) o 9 f = some (.inl (G.1, mlen f, .inl (upd (M f) j v))) := by
  rw [Wd_Ar hf, tset_row]
end WDs
theorem tset_of {C : gT} {f i : Nat} {v : Int32} {f' i' : Nat} (h : f' ≠ f) : tset C f i v f' i' = C f' i' := if_neg (fun z => h z.1)
theorem tset_oi {C : gT} {f i : Nat} {v : Int32} {i' : Nat} (h : i' ≠ i) : tset C f i v f i' = C f i' := if_neg (fun z => h z.2)
section WDp
variable {G : gG} {ad : gAd} {N : gN} {C M : gT} {o : Nat → Int64} {v : Int32} {i : Nat}
theorem Wd_m0 : Wd G ad N C (tset M 0 0 v) o 0 1 = some (.inr (6, ([.int (M 0 0), .int (M 1 0), .int (M 2 0), .ref (ad 9 3), .ref (ad 9 4), .ref (ad 9 5), .ref (ad 9 6), .ref (ad 9 7), .int (M 8 0), .int (M 9 0), .int (M 10 0), .ref (ad 9 11), .ref (ad 9 12), .ref (ad 9 13), .int (M 14 0), .ref (ad 9 15), .ref (ad 9 16), .ref (ad 9 17), .ref (ad 9 18), .int (M 19 0), .ref (ad 9 20), .ref (ad 9 21), .ref (ad 9 22)] : List Value).set 0 (.int v))) := rfl
theorem Wd_m1 : Wd G ad N C (tset M 1 0 v) o 0 1 = some (.inr (6, ([.int (M 0 0), .int (M 1 0), .int (M 2 0), .ref (ad 9 3), .ref (ad 9 4), .ref (ad 9 5), .ref (ad 9 6), .ref (ad 9 7), .int (M 8 0), .int (M 9 0), .int (M 10 0), .ref (ad 9 11), .ref (ad 9 12), .ref (ad 9 13), .int (M 14 0), .ref (ad 9 15), .ref (ad 9 16), .ref (ad 9 17), .ref (ad 9 18), .int (M 19 0), .ref (ad 9 20), .ref (ad 9 21), .ref (ad 9 22)] : List Value).set 1 (.int v))) := rfl
theorem Wd_m2 : Wd G ad N C (tset M 2 0 v) o 0 1 = some (.inr (6, ([.int (M 0 0), .int (M 1 0), .int (M 2 0), .ref (ad 9 3), .ref (ad 9 4), .ref (ad 9 5), .ref (ad 9 6), .ref (ad 9 7), .int (M 8 0), .int (M 9 0), .int (M 10 0), .ref (ad 9 11), .ref (ad 9 12), .ref (ad 9 13), .int (M 14 0), .ref (ad 9 15), .ref (ad 9 16), .ref (ad 9 17), .ref (ad 9 18), .int (M 19 0), .ref (ad 9 20), .ref (ad 9 21), .ref (ad 9 22)] : List Value).set 2 (.int v))) := rfl
theorem Wd_m8 : Wd G ad N C (tset M 8 0 v) o 0 1 = some (.inr (6, ([.int (M 0 0), .int (M 1 0), .int (M 2 0), .ref (ad 9 3), .ref (ad 9 4), .ref (ad 9 5), .ref (ad 9 6), .ref (ad 9 7), .int (M 8 0), .int (M 9 0), .int (M 10 0), .ref (ad 9 11), .ref (ad 9 12), .ref (ad 9 13), .int (M 14 0), .ref (ad 9 15), .ref (ad 9 16), .ref (ad 9 17), .ref (ad 9 18), .int (M 19 0), .ref (ad 9 20), .ref (ad 9 21), .ref (ad 9 22)] : List Value).set 8 (.int v))) := rfl
theorem Wd_m9 : Wd G ad N C (tset M 9 0 v) o 0 1 = some (.inr (6, ([.int (M 0 0), .int (M 1 0), .int (M 2 0), .ref (ad 9 3), .ref (ad 9 4), .ref (ad 9 5), .ref (ad 9 6), .ref (ad 9 7), .int (M 8 0), .int (M 9 0), .int (M 10 0), .ref (ad 9 11), .ref (ad 9 12), .ref (ad 9 13), .int (M 14 0), .ref (ad 9 15), .ref (ad 9 16), .ref (ad 9 17), .ref (ad 9 18), .int (M 19 0), .ref (ad 9 20), .ref (ad 9 21), .ref (ad 9 22)] : List Value).set 9 (.int v))) := rfl
theorem Wd_m10 : Wd G ad N C (tset M 10 0 v) o 0 1 = some (.inr (6, ([.int (M 0 0), .int (M 1 0), .int (M 2 0), .ref (ad 9 3), .ref (ad 9 4), .ref (ad 9 5), .ref (ad 9 6), .ref (ad 9 7), .int (M 8 0), .int (M 9 0), .int (M 10 0), .ref (ad 9 11), .ref (ad 9 12), .ref (ad 9 13), .int (M 14 0), .ref (ad 9 15), .ref (ad 9 16), .ref (ad 9 17), .ref (ad 9 18), .int (M 19 0), .ref (ad 9 20), .ref (ad 9 21), .ref (ad 9 22)] : List Value).set 10 (.int v))) := rfl
theorem Wd_m14 : Wd G ad N C (tset M 14 0 v) o 0 1 = some (.inr (6, ([.int (M 0 0), .int (M 1 0), .int (M 2 0), .ref (ad 9 3), .ref (ad 9 4), .ref (ad 9 5), .ref (ad 9 6), .ref (ad 9 7), .int (M 8 0), .int (M 9 0), .int (M 10 0), .ref (ad 9 11), .ref (ad 9 12), .ref (ad 9 13), .int (M 14 0), .ref (ad 9 15), .ref (ad 9 16), .ref (ad 9 17), .ref (ad 9 18), .int (M 19 0), .ref (ad 9 20), .ref (ad 9 21), .ref (ad 9 22)] : List Value).set 14 (.int v))) := rfl
theorem Wd_m19 : Wd G ad N C (tset M 19 0 v) o 0 1 = some (.inr (6, ([.int (M 0 0), .int (M 1 0), .int (M 2 0), .ref (ad 9 3), .ref (ad 9 4), .ref (ad 9 5), .ref (ad 9 6), .ref (ad 9 7), .int (M 8 0), .int (M 9 0), .int (M 10 0), .ref (ad 9 11), .ref (ad 9 12), .ref (ad 9 13), .int (M 14 0), .ref (ad 9 15), .ref (ad 9 16), .ref (ad 9 17), .ref (ad 9 18), .int (M 19 0), .ref (ad 9 20), .ref (ad 9 21), .ref (ad 9 22)] : List Value).set 19 (.int v))) := rfl
theorem Wd_c4 : Wd G ad N (tset C 0 4 v) M o 0 0 = some (.inr (5, ([.ref (ad 1 0), .ref (ad 1 1), .ref (ad 1 2), .ref (ad 1 3), .int (C 0 4), .int (C 0 5), .int (C 0 6), .int (C 0 7), .int (C 0 8)] : List Value).set 4 (.int v))) := rfl
theorem Wd_c5 : Wd G ad N (tset C 0 5 v) M o 0 0 = some (.inr (5, ([.ref (ad 1 0), .ref (ad 1 1), .ref (ad 1 2), .ref (ad 1 3), .int (C 0 4), .int (C 0 5), .int (C 0 6), .int (C 0 7), .int (C 0 8)] : List Value).set 5 (.int v))) := rfl
theorem Wd_c6 : Wd G ad N (tset C 0 6 v) M o 0 0 = some (.inr (5, ([.ref (ad 1 0), .ref (ad 1 1), .ref (ad 1 2), .ref (ad 1 3), .int (C 0 4), .int (C 0 5), .int (C 0 6), .int (C 0 7), .int (C 0 8)] : List Value).set 6 (.int v))) := rfl
theorem Wd_c7 : Wd G ad N (tset C 0 7 v) M o 0 0 = some (.inr (5, ([.ref (ad 1 0), .ref (ad 1 1), .ref (ad 1 2), .ref (ad 1 3), .int (C 0 4), .int (C 0 5), .int (C 0 6), .int (C 0 7), .int (C 0 8)] : List Value).set 7 (.int v))) := rfl
theorem Wd_c8 : Wd G ad N (tset C 0 8 v) M o 0 0 = some (.inr (5, ([.ref (ad 1 0), .ref (ad 1 1), .ref (ad 1 2), .ref (ad 1 3), .int (C 0 4), .int (C 0 5), .int (C 0 6), .int (C 0 7), .int (C 0 8)] : List Value).set 8 (.int v))) := rfl
theorem Wd_f30 (h : i < N 0) : Wd G ad N (tset C 30 i v) M o 3 i = some (.inr (3, ([.int (C 30 i), .int (C 31 i), .int (C 32 i), .int (C 33 i), .int (C 34 i), .int (C 35 i)] : List Value).set 0 (.int v))) := by simp [Wd, eS, tset, h]
theorem Wd_f31 (h : i < N 0) : Wd G ad N (tset C 31 i v) M o 3 i = some (.inr (3, ([.int (C 30 i), .int (C 31 i), .int (C 32 i), .int (C 33 i), .int (C 34 i), .int (C 35 i)] : List Value).set 1 (.int v))) := by simp [Wd, eS, tset, h]
theorem Wd_f32 (h : i < N 0) : Wd G ad N (tset C 32 i v) M o 3 i = some (.inr (3, ([.int (C 30 i), .int (C 31 i), .int (C 32 i), .int (C 33 i), .int (C 34 i), .int (C 35 i)] : List Value).set 2 (.int v))) := by simp [Wd, eS, tset, h]
theorem Wd_f33 (h : i < N 0) : Wd G ad N (tset C 33 i v) M o 3 i = some (.inr (3, ([.int (C 30 i), .int (C 31 i), .int (C 32 i), .int (C 33 i), .int (C 34 i), .int (C 35 i)] : List Value).set 3 (.int v))) := by simp [Wd, eS, tset, h]
theorem Wd_f34 (h : i < N 0) : Wd G ad N (tset C 34 i v) M o 3 i = some (.inr (3, ([.int (C 30 i), .int (C 31 i), .int (C 32 i), .int (C 33 i), .int (C 34 i), .int (C 35 i)] : List Value).set 4 (.int v))) := by simp [Wd, eS, tset, h]
theorem Wd_f35 (h : i < N 0) : Wd G ad N (tset C 35 i v) M o 3 i = some (.inr (3, ([.int (C 30 i), .int (C 31 i), .int (C 32 i), .int (C 33 i), .int (C 34 i), .int (C 35 i)] : List Value).set 5 (.int v))) := by simp [Wd, eS, tset, h]
theorem Wd_f41 (h : i < N 1) : Wd G ad N (tset C 41 i v) M o 4 i = some (.inr (1, ([.ref (ad 7 i), .int (C 41 i), .int (C 42 i), .int (C 43 i)] : List Value).set 1 (.int v))) := by simp [Wd, eGd, tset, h]
theorem Wd_f42 (h : i < N 1) : Wd G ad N (tset C 42 i v) M o 4 i = some (.inr (1, ([.ref (ad 7 i), .int (C 41 i), .int (C 42 i), .int (C 43 i)] : List Value).set 2 (.int v))) := by simp [Wd, eGd, tset, h]
theorem Wd_f43 (h : i < N 1) : Wd G ad N (tset C 43 i v) M o 4 i = some (.inr (1, ([.ref (ad 7 i), .int (C 41 i), .int (C 42 i), .int (C 43 i)] : List Value).set 3 (.int v))) := by simp [Wd, eGd, tset, h]
theorem Wd_f50 (h : i < N 2) : Wd G ad N (tset C 50 i v) M o 5 i = some (.inr (4, ([.int (C 50 i), .int (C 51 i), .int (C 52 i), .int (C 53 i), .int (C 54 i)] : List Value).set 0 (.int v))) := by simp [Wd, eTr, tset, h]
theorem Wd_f51 (h : i < N 2) : Wd G ad N (tset C 51 i v) M o 5 i = some (.inr (4, ([.int (C 50 i), .int (C 51 i), .int (C 52 i), .int (C 53 i), .int (C 54 i)] : List Value).set 1 (.int v))) := by simp [Wd, eTr, tset, h]
theorem Wd_f52 (h : i < N 2) : Wd G ad N (tset C 52 i v) M o 5 i = some (.inr (4, ([.int (C 50 i), .int (C 51 i), .int (C 52 i), .int (C 53 i), .int (C 54 i)] : List Value).set 2 (.int v))) := by simp [Wd, eTr, tset, h]
theorem Wd_f53 (h : i < N 2) : Wd G ad N (tset C 53 i v) M o 5 i = some (.inr (4, ([.int (C 50 i), .int (C 51 i), .int (C 52 i), .int (C 53 i), .int (C 54 i)] : List Value).set 3 (.int v))) := by simp [Wd, eTr, tset, h]
theorem Wd_f54 (h : i < N 2) : Wd G ad N (tset C 54 i v) M o 5 i = some (.inr (4, ([.int (C 50 i), .int (C 51 i), .int (C 52 i), .int (C 53 i), .int (C 54 i)] : List Value).set 4 (.int v))) := by simp [Wd, eTr, tset, h]
theorem Wd_f61 (h : i < N 3) : Wd G ad N (tset C 61 i v) M o 6 i = some (.inr (2, ([.ref (ad 8 i), .int (C 61 i), .int (C 62 i), .ref (ad 3 (C 63 i).toNatClampNeg), .int (C 64 i), .int (C 65 i)] : List Value).set 1 (.int v))) := by simp [Wd, ePl, tset, h]
theorem Wd_f62 (h : i < N 3) : Wd G ad N (tset C 62 i v) M o 6 i = some (.inr (2, ([.ref (ad 8 i), .int (C 61 i), .int (C 62 i), .ref (ad 3 (C 63 i).toNatClampNeg), .int (C 64 i), .int (C 65 i)] : List Value).set 2 (.int v))) := by simp [Wd, ePl, tset, h]
theorem Wd_f64 (h : i < N 3) : Wd G ad N (tset C 64 i v) M o 6 i = some (.inr (2, ([.ref (ad 8 i), .int (C 61 i), .int (C 62 i), .ref (ad 3 (C 63 i).toNatClampNeg), .int (C 64 i), .int (C 65 i)] : List Value).set 4 (.int v))) := by simp [Wd, ePl, tset, h]
theorem Wd_f65 (h : i < N 3) : Wd G ad N (tset C 65 i v) M o 6 i = some (.inr (2, ([.ref (ad 8 i), .int (C 61 i), .int (C 62 i), .ref (ad 3 (C 63 i).toNatClampNeg), .int (C 64 i), .int (C 65 i)] : List Value).set 5 (.int v))) := by simp [Wd, ePl, tset, h]
end WDp
