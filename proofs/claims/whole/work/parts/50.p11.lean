/-! THE TWO SIDES: a scene is told -/
theorem h1 : ∀ p, p < 31 → 1 ≤ p → (if 0 < nI p - 4 then nI p - 4 else 0) = nI (p - 4) ∧ (if nI p + 3 < 30 then nI p + 3 else 30) = nI (if p + 3 < 30 then p + 3 else 30) ∧ (nI (p - 4) ≤ 0 ↔ p ≤ 4) ∧ (nI (p - 4) = 0 ↔ p ≤ 4) ∧ (¬ nI (if p + 3 < 30 then p + 3 else 30) ≤ 0) ∧ (¬ nI (if p + 3 < 30 then p + 3 else 30) = 0) := by decide +kernel
theorem lt4 (x : Int32) : x < 4 ↔ x ≤ 3 := by
  rw [Int32.lt_iff_toInt_lt, Int32.le_iff_toInt_le, show (4 : Int32).toInt = 4 from rfl, show (3 : Int32).toInt = 3 from rfl]
  omega
/-- what the guards' loop keeps -/
abbrev LR (k m : Nat) (N : gN) (C M C1 M1 : gT) : Prop :=
  (∀ g, g < N 1 → RG C1 M1 g) ∧
  (∀ f, f ≠ 41 → f ≠ 42 → f ≠ 43 → (f < 100 ∨ 200 ≤ f) → C1 f = C f) ∧
  (∀ f, f ≠ 11 → f ≠ 12 → f ≠ 13 → M1 f = M f) ∧
  (∀ g, N 1 ≤ g → g < 4 → M1 11 g = M 11 g ∧ ∀ j, j < 24 → M1 13 (24 * g + j) = M 13 (24 * g + j)) ∧
  (∀ g j, g < 4 → j < 24 → ∃ x, M1 13 (24 * g + j) = nI x ∧ x ≤ k + 1 ∧ (m ≤ g → x ≤ k))
theorem hear_s {k m : Nat} {N : gN} {C M C1 M1 : gT} {i : Nat} (h : Rel k N C M) (hk : k < 900) (hi : i < N 0) (hm : m < N 1) (hL : LR k m N C M C1 M1) : LR k (m + 1) N C M (L_lgh i m C1) (L_tell0 i m M1) := by
  obtain ⟨l1, l2, l3, l4, l5⟩ := hL
  have hb := h.b
  have hG := l1 m hm
  have hs := h.sc i hi
  have c30 : C1 30 i = nI i := by rw [l2 30 (by decide) (by decide) (by decide) (by omega)]; exact hs.c30
  obtain ⟨x, hx, hx1, hx2⟩ := l5 m i (by omega) (by omega)
  have hx2 := hx2 (Nat.le_refl _)
  have hw : f_X0_worthOf C1 m i (C1 0 8) = f_X5_worthOf M1 m i := by
    unfold f_X0_worthOf f_X5_worthOf f_X0_timesHeard
    rw [c30, if_neg (nI_pos (by omega)), if_neg (show ¬ (24 : Int32) ≤ nI i from nI_ge (a := i) (b := 24) (by omega) (by omega)), nI_clamp (by omega), hG.hd i (by omega), hx]
    rw [if_neg (show ¬ (1 : Int32) + nI x ≤ 0 from by
      rw [show (1 : Int32) = nI 1 from rfl, nI_add, show (0 : Int32) = nI 0 from rfl, nI_le_iff (by omega) (by omega)]
      omega), Int32.add_zero]
    rw [l2 0 (by decide) (by decide) (by decide) (by omega), l2 32 (by decide) (by decide) (by decide) (by omega), l2 33 (by decide) (by decide) (by decide) (by omega), l3 4 (by decide) (by decide) (by decide), l3 5 (by decide) (by decide) (by decide), l3 8 (by decide) (by decide) (by decide), hs.c32, hs.c33, h.g8]
  unfold L_lgh L_tell0 s_X5_listen s_X0_hear
  rcases hG.aw with ⟨a1, a2, p, hp1, hp2, hp⟩ | ⟨a1, a2, p, hp2, hp⟩
  · -- awake
    obtain ⟨d1, d2, d3, d4, d5, d6⟩ := h1 p (by omega) hp1
    have e42 : C1 42 m = nI p := by rw [hG.c42, hp]
    have n11 : ¬ M1 11 m = 1 := by rw [a2]; decide
    have n43 : ¬ C1 43 m = 0 := by rw [a1]; decide
    simp only [if_neg n43, if_neg n11, hw, lt4, e42, hp, d1, d2, d3, d4, if_neg d5, if_neg d6, c30, if_neg (nI_pos (show i < 2 ^ 31 by omega)), if_neg (show ¬ (24 : Int32) ≤ nI i from nI_ge (a := i) (b := 24) (by omega) (by omega)), nI_clamp (show i < 2 ^ 31 by omega)]
    -- the two sides behind it, in one form
    have fin : ∀ (pv : Nat) (aw sl : Int32), ((aw = 1 ∧ sl = 0 ∧ 1 ≤ pv ∧ pv ≤ 30) ∨ (aw = 0 ∧ sl = 1 ∧ pv ≤ 9)) → ∀ (M2 : gT), (∀ f g, ¬ (f = 13 ∧ g = 24 * m + i) → ¬ (f = 12 ∧ g = m) → ¬ (f = 11 ∧ g = m) → M2 f g = M1 f g) → M2 13 (24 * m + i) = M1 13 (24 * m + i) + 1 → M2 12 m = nI pv → M2 11 m = sl →
        LR k (m + 1) N C M (tset (tset (tset (tset C1 42 m (nI pv)) 43 m aw) (100 + m) i (C1 (100 + m) i + 1)) 41 m (C1 41 m + 1)) M2 := by
      intro pv aw sl hpv M2 o13 e13 e12 e11
      have oc : ∀ f g, ¬ (f = 41 ∧ g = m) → ¬ (f = 42 ∧ g = m) → ¬ (f = 43 ∧ g = m) → ¬ (f = 100 + m ∧ g = i) → (tset (tset (tset (tset C1 42 m (nI pv)) 43 m aw) (100 + m) i (C1 (100 + m) i + 1)) 41 m (C1 41 m + 1)) f g = C1 f g := fun f g b1 b2 b3 b4 => (tset_o b1).trans ((tset_o b4).trans ((tset_o b3).trans (tset_o b2)))
      refine ⟨fun g hg => ?_, fun f f1 f2 f3 f4 => ?_, fun f f1 f2 f3 => ?_, fun g g1 g2 => ?_, fun g j g1 g2 => ?_⟩
      · by_cases e : g = m
        · subst e
          refine ⟨?_, ?_, ?_, fun j hj => ?_⟩
          · rw [e12]
            exact (tset_of (by omega)).trans ((tset_of (by omega)).trans ((tset_of (by omega)).trans tset_s))
          · have e43 : (tset (tset (tset (tset C1 42 g (nI pv)) 43 g aw) (100 + g) i (C1 (100 + g) i + 1)) 41 g (C1 41 g + 1)) 43 g = aw := (tset_of (by omega)).trans ((tset_of (by omega)).trans tset_s)
            rw [e43, e11, e12]
            rcases hpv with ⟨q1, q2, q3, q4⟩ | ⟨q1, q2, q3⟩
            · exact Or.inl ⟨q1, q2, pv, q3, q4, rfl⟩
            · exact Or.inr ⟨q1, q2, pv, q3, rfl⟩
          · rw [tset_s, hG.c41]
            refine (sum_upd (F := fun j => M1 13 (24 * g + j)) (F' := fun j => M2 13 (24 * g + j)) (i := i) (by omega) (fun j hj hne => o13 13 _ (by omega) (by omega) (by omega)) e13).symm
          · by_cases ej : j = i
            · subst ej
              rw [e13, ← hG.hd j hj]
              exact (tset_of (by omega)).trans tset_s
            · rw [o13 13 _ (by omega) (by omega) (by omega), oc (100 + g) j (by omega) (by omega) (by omega) (by omega)]
              exact hG.hd j hj
        · refine (l1 g hg).fr (fun f _ _ => oc f g (by omega) (by omega) (by omega) (by omega)) (funext fun j => oc _ j (by omega) (by omega) (by omega) (by omega)) (o13 11 g (by omega) (by omega) (by omega)) (o13 12 g (by omega) (by omega) (by omega)) (fun j hj => o13 13 _ (by omega) (by omega) (by omega))
      · funext g
        rw [oc f g (by omega) (by omega) (by omega) (by omega), l2 f f1 f2 f3 f4]
      · funext g
        rw [o13 f g (by omega) (by omega) (by omega), l3 f f1 f2 f3]
      · obtain ⟨z1, z2⟩ := l4 g g1 g2
        exact ⟨(o13 11 g (by omega) (by omega) (by omega)).trans z1, fun j hj => (o13 13 _ (by omega) (by omega) (by omega)).trans (z2 j hj)⟩
      · by_cases e : g = m ∧ j = i
        · obtain ⟨rfl, rfl⟩ := e
          refine ⟨x + 1, by rw [e13, hx, nI_succ], by omega, fun z => by omega⟩
        · obtain ⟨y, y1, y2, y3⟩ := l5 g j g1 g2
          refine ⟨y, by rw [o13 13 _ (by omega) (by omega) (by omega)]; exact y1, y2, fun z => y3 (by omega)⟩
    by_cases hw3 : f_X5_worthOf M1 m i ≤ 3
    · simp only [if_pos hw3]
      by_cases hp4 : p ≤ 4
      · simp only [if_pos hp4]
        refine fin (p - 4) 0 1 (Or.inr ⟨rfl, rfl, by omega⟩) _ (fun f g b1 b2 b3 => (tset_o b3).trans ((tset_o b2).trans (tset_o b1))) ((tset_of (by omega)).trans ((tset_of (by omega)).trans tset_s)) ((tset_of (by omega)).trans tset_s) tset_s
      · simp only [if_neg hp4]
        refine fin (p - 4) 1 0 (Or.inl ⟨rfl, rfl, by omega, by omega⟩) _ (fun f g b1 b2 b3 => (tset_o b2).trans (tset_o b1)) ((tset_of (by omega)).trans tset_s) tset_s ((tset_of (by omega)).trans ((tset_of (by omega)).trans a2))
    · simp only [if_neg hw3]
      refine fin _ 1 0 (Or.inl ⟨rfl, rfl, by split <;> omega, by split <;> omega⟩) _ (fun f g b1 b2 b3 => (tset_o b2).trans (tset_o b1)) ((tset_of (by omega)).trans tset_s) tset_s ((tset_of (by omega)).trans ((tset_of (by omega)).trans a2))
  · simp only [if_pos a1, if_pos a2]
    exact ⟨l1, l2, l3, l4, fun g j g1 g2 => by obtain ⟨y, y1, y2, y3⟩ := l5 g j g1 g2; exact ⟨y, y1, y2, fun z => y3 (by omega)⟩⟩
theorem hear_all {k : Nat} {N : gN} {C M : gT} {i : Nat} (h : Rel k N C M) (hk : k < 900) (hi : i < N 0) : LR k (N 1) N C M (gIt (L_lgh i) C (N 1)) (gIt (L_tell0 i) M (N 1)) := by
  have hb := h.b
  have key : ∀ m, m ≤ N 1 → LR k m N C M (gIt (L_lgh i) C m) (gIt (L_tell0 i) M m) := by
    intro m
    induction m with
    | zero =>
      intro _
      exact ⟨h.gu, fun f _ _ _ _ => rfl, fun f _ _ _ => rfl, fun g _ _ => ⟨rfl, fun j _ => rfl⟩, fun g j g1 g2 => by obtain ⟨y, y1, y2⟩ := h.hd (24 * g + j) (by omega); exact ⟨y, y2, by omega, fun _ => y1⟩⟩
    | succ m ih =>
      intro hm
      rw [gIt_s, gIt_s]
      exact hear_s h hk hi (by omega) (ih (by omega))
  exact key _ (Nat.le_refl _)
