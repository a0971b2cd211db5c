/-! THE TWO SIDES: the wonder behind a scene, who sleeps when, the best scene -/
theorem gIt_inv {α : Type} {f : Nat → α → α} {n : Nat} (P : Nat → α → Prop) {a : α} (h0 : P 0 a) (hs : ∀ j b, j < n → P j b → P (j + 1) (f j b)) : P n (gIt f a n) := by
  have key : ∀ m, m ≤ n → P m (gIt f a m) := by
    intro m
    induction m with
    | zero => intro _; exact h0
    | succ m ih => intro hm; rw [gIt_s]; exact hs m _ (by omega) (ih (by omega))
  exact key n (Nat.le_refl _)
theorem gEx_rel {α β : Type} {f : Nat → α → α × Option Int32} {g : Nat → β → β × Option Int32} (R : α → β → Prop) (hs : ∀ j a b, R a b → (∃ r, (f j a).2 = some r ∧ (g j b).2 = some r) ∨ ((f j a).2 = none ∧ (g j b).2 = none ∧ R (f j a).1 (g j b).1)) :
    ∀ d j a b, R a b → gEx f d j a = gEx g d j b := by
  intro d
  induction d with
  | zero => intro j a b _; rfl
  | succ d ih =>
    intro j a b h
    unfold gEx
    rcases hs j a b h with ⟨r, h1, h2⟩ | ⟨h1, h2, h3⟩
    · cases e1 : f j a with
      | mk x1 x2 =>
        cases e2 : g j b with
        | mk y1 y2 =>
          rw [e1] at h1
          rw [e2] at h2
          cases h1
          cases h2
          rfl
    · cases e1 : f j a with
      | mk x1 x2 =>
        cases e2 : g j b with
        | mk y1 y2 =>
          rw [e1] at h1 h3
          rw [e2] at h2 h3
          cases h1
          cases h2
          exact ih (j + 1) x1 y1 h3
/-- -1, or a number up to b -/
def sm (b : Nat) (x : Int32) : Prop := x = -1 ∨ ∃ y, y ≤ b ∧ x = nI y
theorem sm_m {a b : Nat} {x : Int32} (h : sm a x) (hab : a ≤ b) : sm b x := by
  rcases h with h | ⟨y, h1, h2⟩
  · exact Or.inl h
  · exact Or.inr ⟨y, by omega, h2⟩
theorem sm_neg {b : Nat} {x : Int32} (hb : b < 1000) (h : sm b x) : x < 0 ↔ x = -1 := by
  rcases h with rfl | ⟨y, h1, rfl⟩
  · decide
  · refine ⟨fun z => absurd z (nI_pos (by omega)), fun z => ?_⟩
    have h2 := congrArg Int32.toInt z
    rw [nI_toInt (by omega), show (-1 : Int32).toInt = -1 from rfl] at h2
    omega
theorem bit_xor1 (x : Int32) (k : Nat) : k < 32 → bitOf (x ^^^ (-1)) k = !bitOf x k := by
  intro hk
  unfold bitOf
  rw [b_xor, BitVec.getLsbD_xor]
  have : (-1 : Int32).toBitVec.getLsbD k = true := by
    have h : ∀ k, k < 32 → (-1 : Int32).toBitVec.getLsbD k = true := by decide
    exact h k hk
  rw [this]
  simp
section RM
theorem wond_sm {k : Nat} {N : gN} {C M : gT} (h : Rel k N C M) : ∀ d, d ≤ 8 → ∀ i u, sm (20 * d) (f_wond N M d i u) := by
  intro d
  induction d with
  | zero => intro _ i u; rw [f_wond_0]; exact Or.inl rfl
  | succ d ih =>
    intro hd i u
    rw [f_wond_s]
    refine gIt_inv (fun _ x => sm (20 * (d + 1)) x) (Or.inl rfl) (fun j a hj ha => ?_)
    obtain ⟨w, hw1, hw2, hw⟩ := (h.sc j hj).won
    have hr := ih (by omega) j (u ||| (1 <<< ((nI j) &&& 31)))
    have e0 : sm (20 * (d + 1)) (M 4 j + 0) := by rw [Int32.add_zero, hw]; exact Or.inr ⟨w, by omega, rfl⟩
    show sm (20 * (d + 1)) (L_wond N M d i u j a)
    unfold L_wond
    generalize f_wond N M d j (u ||| (1 <<< ((nI j) &&& 31))) = x at hr
    split
    · exact ha
    · split
      · split
        · split
          · exact ha
          · split
            · exact e0
            · exact ha
        · split
          · exact ha
          · rename_i hx
            rcases hr with hr | ⟨y, hy, hr⟩
            · exact absurd hr hx
            · have e1 : sm (20 * (d + 1)) (M 4 j + x) := by rw [hw, hr, nI_add]; exact Or.inr ⟨w + y, by omega, rfl⟩
              split
              · exact e1
              · exact ha
      · exact ha
theorem mwb_eq {k : Nat} {N : gN} {C M : gT} (h : Rel k N C M) : ∀ d, d ≤ 8 → ∀ i, i < N 0 → ∀ u, f_mwb C (N 0) d i u = f_wond N M d i u := by
  intro d
  have hb := h.b
  induction d with
  | zero => intro _ i hi u; rw [f_wond_0, f_mwb_0]
  | succ d ih =>
    intro hd i hi u
    rw [f_wond_s, f_mwb_s]
    refine gIt_congr (fun j a hj => ?_) _
    have hs := h.sc j hj
    have e1 : f_X2_asSet C j = 1 <<< ((nI j) &&& 31) := by unfold f_X2_asSet; rw [hs.c30]
    unfold L_mwb L_wond
    rw [shr_and (by omega), bit_and, bit_xor1 _ _ (by omega), (h.sc i hi).c34, has_bit (by omega), has_bit (by omega), e1, hs.c31, hs.c32, ih (by omega) j hj]
    have hr := sm_neg (by omega) (wond_sm h d (by omega) j (u ||| (1 <<< ((nI j) &&& 31))))
    simp only [hr]
    cases bitOf (M 6 i) j
    · simp
    · cases bitOf u j
      · simp
      · simp
end RM
theorem w1 : ∀ p, p < 31 → 1 ≤ p → f_X5_later (nI p - nI p / 100 * 100) (nI p / 100) = (if p ≤ 1 then 100 else nI (p - 1)) ∧ f_X5_later (nI p) 0 = (if p ≤ 1 then 100 else nI (p - 1)) ∧ f_X0_patienceBehindWatch 1 (nI p) = nI (p - 1) ∧ f_X0_isAwakeBehindWatch 1 (nI (p - 1)) = (if p ≤ 1 then 0 else 1) ∧ nI (p - 1) / 100 = 0 ∧ nI (p - 1) - nI (p - 1) / 100 * 100 = nI (p - 1) := by decide +kernel
theorem w2 : ∀ p, p < 10 → f_X5_later (nI (100 + p) - nI (100 + p) / 100 * 100) (nI (100 + p) / 100) = (if 5 ≤ p then nI (p + 5) else nI (100 + (p + 5))) ∧ f_X5_later (nI p) 1 = (if 5 ≤ p then nI (p + 5) else nI (100 + (p + 5))) ∧ f_X0_patienceBehindWatch 0 (nI p) = nI (p + 5) ∧ f_X0_isAwakeBehindWatch 0 (nI (p + 5)) = (if 5 ≤ p then 1 else 0) ∧ nI (p + 5) / 100 = 0 ∧ nI (100 + (p + 5)) / 100 = 1 ∧ nI (p + 5) - nI (p + 5) / 100 * 100 = nI (p + 5) ∧ nI (100 + (p + 5)) - nI (100 + (p + 5)) / 100 * 100 = nI (p + 5) := by decide +kernel
theorem r_sleep {C M : gT} {g : Nat} (h : RG C M g) : f_X0_watchesTillOtherwise C g = gEx (L_X5_sleeps M g) 100 0 ((100 * (M 11 g)) + (M 12 g)) := by
  unfold f_X0_watchesTillOtherwise
  rcases h.aw with ⟨h1, h2, p0, hp1, hp2, hp⟩ | ⟨h1, h2, p0, hp2, hp⟩
  · refine gEx_rel (fun a b => ∃ p, 1 ≤ p ∧ p ≤ 30 ∧ a = nI p ∧ b = nI p) (fun j a b hR => ?_) 100 0 _ _ ⟨p0, hp1, hp2, by rw [h.c42, hp], by rw [h2, hp, show (100 : Int32) * 0 = 0 from rfl, Int32.zero_add]⟩
    obtain ⟨p, q1, q2, rfl, rfl⟩ := hR
    obtain ⟨d1, d2, d3, d4, d5, -⟩ := w1 p (by omega) q1
    unfold L_X0_wto L_X5_sleeps
    rw [h1, h2, d1, d3, d4]
    by_cases hp : p ≤ 1
    · rw [if_pos hp, if_pos hp, if_neg (by decide), if_neg (by decide)]
      exact Or.inl ⟨_, rfl, rfl⟩
    · rw [if_neg hp, if_neg hp, if_pos rfl, d5, if_pos rfl]
      exact Or.inr ⟨rfl, rfl, p - 1, by omega, by omega, rfl, rfl⟩
  · refine gEx_rel (fun a b => ∃ p, p ≤ 9 ∧ a = nI p ∧ b = nI (100 + p)) (fun j a b hR => ?_) 100 0 _ _ ⟨p0, hp2, by rw [h.c42, hp], by rw [h2, hp, show (100 : Int32) * 1 = nI 100 from rfl, nI_add]⟩
    obtain ⟨p, q2, rfl, rfl⟩ := hR
    obtain ⟨d1, d2, d3, d4, d5, d6, -⟩ := w2 p (by omega)
    unfold L_X0_wto L_X5_sleeps
    rw [h1, h2, d1, d3, d4]
    by_cases hp : 5 ≤ p
    · rw [if_pos hp, if_pos hp, if_neg (by decide), d5, if_neg (by decide)]
      exact Or.inl ⟨_, rfl, rfl⟩
    · rw [if_neg hp, if_neg hp, if_pos rfl, d6, if_pos rfl]
      exact Or.inr ⟨rfl, rfl, p + 5, by omega, rfl, rfl⟩
theorem toll_0 {n : gN} {M : gT} {i : Nat} : ¬ f_X5_toll n M i < 0 := by
  unfold f_X5_toll
  refine gIt_inv (fun _ x => ¬ x < (0 : Int32)) (by decide) (fun j a hj ha => ?_)
  show ¬ L_X5_toll M i j a < 0
  unfold L_X5_toll
  split
  · split
    · rename_i h1
      intro h2
      exact ha (Int32.lt_trans h1 h2)
    · exact ha
  · exact ha
section RB
theorem r_best {k : Nat} {N : gN} {C M : gT} (h : Rel k N C M) (hk : k < 1000) {t q : Nat} (ht : t < N 2) (hq : q < N 3) : (gIt (L_best C N t q) ((-1), (-1)) (N 0)).1 = gIt (L_X5_best N M t q) (-1) (N 0) := by
  have hb := h.b
  have key : ∀ m, m ≤ N 0 → (gIt (L_best C N t q) ((-1), (-1)) m).1 = gIt (L_X5_best N M t q) (-1) m ∧ ((gIt (L_X5_best N M t q) (-1) m = -1 ∧ (gIt (L_best C N t q) ((-1), (-1)) m).2 = -1) ∨ ∃ b, b < m ∧ gIt (L_X5_best N M t q) (-1) m = nI b ∧ (gIt (L_best C N t q) ((-1), (-1)) m).2 = f_X5_toll N M b) := by
    intro m
    induction m with
    | zero => intro _; exact ⟨rfl, Or.inl ⟨rfl, rfl⟩⟩
    | succ m ih =>
      intro hm
      obtain ⟨i1, i2⟩ := ih (by omega)
      rw [gIt_s, gIt_s]
      revert i1 i2
      generalize gIt (L_best C N t q) ((-1), (-1)) m = x
      generalize gIt (L_X5_best N M t q) (-1) m = y
      intro i1 i2
      unfold L_best L_X5_best
      rw [r_can h ht (by omega) hq, r_toll h hk (by omega)]
      by_cases hc : f_X5_can M t m q = 0
      · rw [if_pos hc, if_pos hc]
        refine ⟨i1, ?_⟩
        rcases i2 with i2 | ⟨b, b1, b2⟩
        · exact Or.inl i2
        · exact Or.inr ⟨b, by omega, b2⟩
      · rw [if_neg hc, if_neg hc]
        rcases i2 with ⟨j1, j2⟩ | ⟨b, b1, b2, b3⟩
        · have hlt : ¬ f_X5_toll N M m ≤ x.2 := by
            rw [j2]
            intro z
            refine toll_0 (n := N) (M := M) (i := m) ?_
            rw [Int32.le_iff_toInt_le, show (-1 : Int32).toInt = -1 from rfl] at z
            rw [Int32.lt_iff_toInt_lt, show (0 : Int32).toInt = 0 from rfl]
            omega
          rw [if_neg hlt, if_pos j1]
          exact ⟨rfl, Or.inr ⟨m, by omega, rfl, rfl⟩⟩
        · have hy : ¬ y = -1 := by
            rw [b2]
            intro z
            have h2 := congrArg Int32.toInt z
            rw [nI_toInt (by omega), show (-1 : Int32).toInt = -1 from rfl] at h2
            omega
          rw [if_neg hy, b3, b2, nI_clamp (by omega)]
          by_cases hle : f_X5_toll N M m ≤ f_X5_toll N M b
          · rw [if_pos hle, if_pos hle]
            exact ⟨by rw [i1, b2], Or.inr ⟨b, by omega, rfl, rfl⟩⟩
          · rw [if_neg hle, if_neg hle]
            exact ⟨rfl, Or.inr ⟨m, by omega, rfl, rfl⟩⟩
  exact (key _ (Nat.le_refl _)).1
theorem r_most {k : Nat} {N : gN} {C M : gT} (h : Rel k N C M) {q : Nat} (hq : q < N 3) : f_mwb C (N 0) (8 - szC C q) (C 63 q).toNatClampNeg (C 64 q) = f_wond N M (8 - szM M q) (laM M q) (gIt (L_X5_most M q) 0 (szM M q)) := by
  have hb := h.b
  have hp := h.pl q hq
  have hl := laM_lt hp
  rw [szC_M hp, hp.c63, nI_clamp (by omega), hp.c64]
  exact mwb_eq h _ (by omega) _ hl _
end RB
/-! the methods that only read -/
abbrev oI : List (String × Int32) := [(xI, 1)]
section RQ
theorem q_scene {k : Nat} {N : gN} {C M : gT} (h : Rel k N C M) (v w : Int32) : okR oI (f_X4_scene C N v w) (f_X5_scene N M v w) (s_X5_scene N M v w 0 0) ∧ ∀ x, Rel k N x M → Rel k N x (s_X5_scene N M v w) := by
  unfold f_X4_scene f_X5_scene s_X5_scene
  rw [isS h]
  by_cases h1 : gIn v (N 0)
  · rw [if_pos h1, if_neg (if10 h1), if_neg (if10 h1)]
    have hi := (gIn_nI (by have := h.b; omega) h1).2
    by_cases h2 : w < 0
    · rw [if_pos h2, if_pos (isIn_c.mpr (Or.inl h2)), if_pos (isIn_c.mpr (Or.inl h2))]
      exact ⟨List.mem_cons_self, fun x hx => hx.th.th⟩
    · rw [if_neg h2]
      by_cases h3 : w ≤ 4
      · have h4 : ¬ f_X5_isIn w 0 4 = 0 := fun z => (isIn_c.mp z).elim h2 (fun y => absurd h3 (Int32.not_le.mpr y))
        rw [if_pos h3, if_neg h4, if_neg h4]
        exact ⟨⟨r_scene (h.sc _ hi).th w, rfl⟩, fun x hx => hx.th⟩
      · have h4 : f_X5_isIn w 0 4 = 0 := isIn_c.mpr (Or.inr (Int32.not_le.mp h3))
        rw [if_neg h3, if_pos h4, if_pos h4]
        exact ⟨List.mem_cons_self, fun x hx => hx.th.th⟩
  · rw [if_neg h1, if_pos (if10n h1), if_pos (if10n h1)]
    exact ⟨List.mem_cons_self, fun x hx => hx.th.th⟩
end RQ
