/-! THE TWO SIDES: the other methods that only read -/
theorem le_nI {w : Int32} {b : Nat} (hb : b ≤ 100) (h0 : ¬ w < 0) (h1 : w ≤ nI b) : w = nI w.toNatClampNeg ∧ w.toNatClampNeg < b + 1 := by
  refine gIn_of (by omega) ⟨h0, ?_⟩
  rw [Int32.le_iff_toInt_le, nI_toInt (by omega)] at h1
  rw [Int32.lt_iff_toInt_lt, nI_toInt (by omega)]
  omega
section RQ2
theorem q_guard {k : Nat} {N : gN} {C M : gT} (h : Rel k N C M) (v w : Int32) : okR oI (f_X4_guard C N v w) (f_X5_guard N M v w) (s_X5_guard N M v w 0 0) ∧ ∀ x, Rel k N x M → Rel k N x (s_X5_guard N M v w) := by
  unfold f_X4_guard f_X5_guard s_X5_guard
  rw [isG h]
  by_cases h1 : gIn v (N 1)
  · rw [if_pos h1, if_neg (if10 h1), if_neg (if10 h1)]
    have hi := (gIn_nI (by have := h.b; omega) h1).2
    by_cases h2 : w < 0
    · rw [if_pos h2, if_pos (isIn_c.mpr (Or.inl h2)), if_pos (isIn_c.mpr (Or.inl h2))]
      exact ⟨List.mem_cons_self, fun x hx => hx.th.th⟩
    · rw [if_neg h2]
      by_cases h3 : w ≤ 2
      · have h4 : ¬ f_X5_isIn w 0 2 = 0 := fun z => (isIn_c.mp z).elim h2 (fun y => absurd h3 (Int32.not_le.mpr y))
        rw [if_pos h3, if_neg h4, if_neg h4]
        refine ⟨⟨?_, rfl⟩, fun x hx => hx.th⟩
        exact r_guard (h.gu _ hi).th w
      · have h4 : f_X5_isIn w 0 2 = 0 := isIn_c.mpr (Or.inr (Int32.not_le.mp h3))
        rw [if_neg h3, if_pos h4, if_pos h4]
        exact ⟨List.mem_cons_self, fun x hx => hx.th.th⟩
  · rw [if_neg h1, if_pos (if10n h1), if_pos (if10n h1)]
    exact ⟨List.mem_cons_self, fun x hx => hx.th.th⟩
theorem q_plot {k : Nat} {N : gN} {C M : gT} (h : Rel k N C M) (v w : Int32) : okR oI (f_X4_plot C N v w) (f_X5_plot N M v w) (s_X5_plot N M v w 0 0) ∧ ∀ x, Rel k N x M → Rel k N x (s_X5_plot N M v w) := by
  unfold f_X4_plot f_X5_plot s_X5_plot
  rw [isP h]
  by_cases h1 : gIn v (N 3)
  · rw [if_pos h1, if_neg (if10 h1), if_neg (if10 h1)]
    have hi := (gIn_nI (by have := h.b; omega) h1).2
    by_cases h2 : w < 0
    · rw [if_pos h2, if_pos (isIn_c.mpr (Or.inl h2)), if_pos (isIn_c.mpr (Or.inl h2))]
      exact ⟨List.mem_cons_self, fun x hx => hx.th.th⟩
    · rw [if_neg h2]
      by_cases h3 : w ≤ 3
      · have h4 : ¬ f_X5_isIn w 0 3 = 0 := fun z => (isIn_c.mp z).elim h2 (fun y => absurd h3 (Int32.not_le.mpr y))
        rw [if_pos h3, if_neg h4, if_neg h4]
        refine ⟨⟨?_, rfl⟩, fun x hx => hx.th⟩
        exact r_plot (h.th (v := 0) |>.pl _ hi) h.th.sc h.b.1 w
      · have h4 : f_X5_isIn w 0 3 = 0 := isIn_c.mpr (Or.inr (Int32.not_le.mp h3))
        rw [if_neg h3, if_pos h4, if_pos h4]
        exact ⟨List.mem_cons_self, fun x hx => hx.th.th⟩
  · rw [if_neg h1, if_pos (if10n h1), if_pos (if10n h1)]
    exact ⟨List.mem_cons_self, fun x hx => hx.th.th⟩
theorem q_traveller {k : Nat} {N : gN} {C M : gT} (h : Rel k N C M) (v w : Int32) : okR oI (f_X4_traveller C N v w) (f_X5_traveller N M v w) (s_X5_traveller N M v w 0 0) ∧ ∀ x, Rel k N x M → Rel k N x (s_X5_traveller N M v w) := by
  unfold f_X4_traveller f_X5_traveller s_X5_traveller
  rw [isT h]
  by_cases h1 : gIn v (N 2)
  · rw [if_pos h1, if_neg (if10 h1), if_neg (if10 h1)]
    have hi := (gIn_nI (by have := h.b; omega) h1).2
    by_cases h2 : w < 0
    · rw [if_pos h2, if_pos (isIn_c.mpr (Or.inl h2)), if_pos (isIn_c.mpr (Or.inl h2))]
      exact ⟨List.mem_cons_self, fun x hx => hx.th.th⟩
    · rw [if_neg h2]
      by_cases h3 : w ≤ 4
      · have h4 : ¬ f_X5_isIn w 0 4 = 0 := fun z => (isIn_c.mp z).elim h2 (fun y => absurd h3 (Int32.not_le.mpr y))
        rw [if_pos h3, if_neg h4, if_neg h4]
        refine ⟨⟨?_, rfl⟩, fun x hx => hx.th⟩
        obtain ⟨e, hw⟩ := le_nI (b := 4) (by decide) h2 h3
        generalize w.toNatClampNeg = j at e hw
        subst e
        exact r_trav (h.th (v := 0)) hi hw
      · have h4 : f_X5_isIn w 0 4 = 0 := isIn_c.mpr (Or.inr (Int32.not_le.mp h3))
        rw [if_neg h3, if_pos h4, if_pos h4]
        exact ⟨List.mem_cons_self, fun x hx => hx.th.th⟩
  · rw [if_neg h1, if_pos (if10n h1), if_pos (if10n h1)]
    exact ⟨List.mem_cons_self, fun x hx => hx.th.th⟩
theorem q_told {k : Nat} {N : gN} {C M : gT} (h : Rel k N C M) (v w : Int32) : okR oI (f_X4_told C N v w) (f_X5_told N M v w) (s_X5_told N M v w 0 0) ∧ ∀ x, Rel k N x M → Rel k N x (s_X5_told N M v w) := by
  unfold f_X4_told f_X5_told s_X5_told
  rw [isP h]
  by_cases h1 : gIn v (N 3)
  · rw [if_pos h1, if_neg (if10 h1), if_neg (if10 h1)]
    have hi := (gIn_nI (by have := h.b; omega) h1).2
    have hp := h.pl _ hi
    have h8 := hp.s8
    rw [hp.c62, hp.sz, isIn_gIn (by omega)]
    by_cases h2 : gIn w (szM M v.toNatClampNeg)
    · obtain ⟨e, hw⟩ := gIn_nI (by omega) h2
      rw [if_neg h2.1, if_pos h2.2, if_neg (if10 h2), if_neg (if10 h2)]
      refine ⟨⟨?_, rfl⟩, fun x hx => hx.th⟩
      generalize w.toNatClampNeg = j at e hw
      subst e
      exact r_num hp hw
    · rw [if_pos (if10n h2), if_pos (if10n h2)]
      by_cases h3 : w < 0
      · rw [if_pos h3]
        exact ⟨List.mem_cons_self, fun x hx => hx.th.th⟩
      · rw [if_neg h3, if_neg (fun z => h2 ⟨h3, z⟩)]
        exact ⟨List.mem_cons_self, fun x hx => hx.th.th⟩
  · rw [if_neg h1, if_pos (if10n h1), if_pos (if10n h1)]
    exact ⟨List.mem_cons_self, fun x hx => hx.th.th⟩
theorem q_count {k : Nat} {N : gN} {C M : gT} (h : Rel k N C M) (v : Int32) : okR oI (f_X4_count C N v) (f_X5_count N M v) (s_X5_count N M v 0 0) ∧ ∀ x, Rel k N x M → Rel k N x (s_X5_count N M v) := by
  unfold f_X4_count f_X5_count s_X5_count
  by_cases h2 : v < 0
  · rw [if_pos h2, if_pos (isIn_c.mpr (Or.inl h2)), if_pos (isIn_c.mpr (Or.inl h2))]
    exact ⟨List.mem_cons_self, fun x hx => hx.th.th⟩
  · rw [if_neg h2]
    by_cases h3 : v ≤ 10
    · have h4 : ¬ f_X5_isIn v 0 10 = 0 := fun z => (isIn_c.mp z).elim h2 (fun y => absurd h3 (Int32.not_le.mpr y))
      rw [if_pos h3, if_neg h4, if_neg h4]
      refine ⟨⟨?_, rfl⟩, fun x hx => hx.th⟩
      obtain ⟨e, hw⟩ := le_nI (b := 10) (by decide) h2 h3
      generalize v.toNatClampNeg = j at e hw
      subst e
      exact r_gate (h.th (v := 0)) hw
    · have h4 : f_X5_isIn v 0 10 = 0 := isIn_c.mpr (Or.inr (Int32.not_le.mp h3))
      rw [if_neg h3, if_pos h4, if_pos h4]
      exact ⟨List.mem_cons_self, fun x hx => hx.th.th⟩
theorem q_worth {k : Nat} {N : gN} {C M : gT} (h : Rel k N C M) (hk : k < 1000) (v w : Int32) : okR oI (f_X4_worth C N v w) (f_X5_worth N M v w) (s_X5_worth N M v w 0 0) ∧ ∀ x, Rel k N x M → Rel k N x (s_X5_worth N M v w) := by
  unfold f_X4_worth f_X5_worth s_X5_worth
  rw [isG h, isS h]
  by_cases h1 : gIn v (N 1)
  · rw [if_pos h1, if_neg (if10 h1), if_neg (if10 h1)]
    have hi := (gIn_nI (by have := h.b; omega) h1).2
    by_cases h2 : gIn w (N 0)
    · have hj := (gIn_nI (by have := h.b; omega) h2).2
      rw [if_pos h2, if_neg (if10 h2), if_neg (if10 h2)]
      exact ⟨⟨r_worth h.th hk hi hj, rfl⟩, fun x hx => hx.th⟩
    · rw [if_neg h2, if_pos (if10n h2), if_pos (if10n h2)]
      exact ⟨List.mem_cons_self, fun x hx => hx.th.th⟩
  · rw [if_neg h1, if_pos (if10n h1), if_pos (if10n h1), ite_self]
    exact ⟨List.mem_cons_self, fun x hx => hx.th.th⟩
theorem q_best {k : Nat} {N : gN} {C M : gT} (h : Rel k N C M) (hk : k < 1000) (v w : Int32) : okR oI (f_X4_best C N v w) (f_X5_best N M v w) (s_X5_best N M v w 0 0) ∧ ∀ x, Rel k N x M → Rel k N x (s_X5_best N M v w) := by
  unfold f_X4_best f_X5_best s_X5_best
  rw [isT h, isP h]
  by_cases h1 : gIn v (N 2)
  · rw [if_pos h1, if_neg (if10 h1), if_neg (if10 h1)]
    have hi := (gIn_nI (by have := h.b; omega) h1).2
    by_cases h2 : gIn w (N 3)
    · have hj := (gIn_nI (by have := h.b; omega) h2).2
      rw [if_pos h2, if_neg (if10 h2), if_neg (if10 h2)]
      exact ⟨⟨r_best h.th hk hi hj, rfl⟩, fun x hx => hx.th⟩
    · rw [if_neg h2, if_pos (if10n h2), if_pos (if10n h2)]
      exact ⟨List.mem_cons_self, fun x hx => hx.th.th⟩
  · rw [if_neg h1, if_pos (if10n h1), if_pos (if10n h1), ite_self]
    exact ⟨List.mem_cons_self, fun x hx => hx.th.th⟩
theorem q_most {k : Nat} {N : gN} {C M : gT} (h : Rel k N C M) (v : Int32) : okR oI (f_X4_most C N v) (f_X5_most N M v) (s_X5_most N M v 0 0) ∧ ∀ x, Rel k N x M → Rel k N x (s_X5_most N M v) := by
  unfold f_X4_most f_X5_most s_X5_most
  rw [isP h, ite_self]
  by_cases h1 : gIn v (N 3)
  · rw [if_pos h1, if_neg (if10 h1), if_neg (if10 h1)]
    have hi := (gIn_nI (by have := h.b; omega) h1).2
    refine ⟨?_, fun x hx => hx.th⟩
    rw [r_open (h.th (v := 0) |>.pl _ hi) h.th.sc h.b.1]
    split
    · exact ⟨rfl, rfl⟩
    · exact ⟨r_most (h.th (v := 0)) hi, rfl⟩
  · rw [if_neg h1, if_pos (if10n h1), if_pos (if10n h1)]
    exact ⟨List.mem_cons_self, fun x hx => hx.th.th⟩
theorem q_sleeps {k : Nat} {N : gN} {C M : gT} (h : Rel k N C M) (v : Int32) : okR oI (f_X4_sleeps C N v) (f_X5_sleeps N M v) (s_X5_sleeps N M v 0 0) ∧ ∀ x, Rel k N x M → Rel k N x (s_X5_sleeps N M v) := by
  unfold f_X4_sleeps f_X5_sleeps s_X5_sleeps
  rw [isG h]
  by_cases h1 : gIn v (N 1)
  · rw [if_pos h1, if_neg (if10 h1), if_neg (if10 h1)]
    have hi := (gIn_nI (by have := h.b; omega) h1).2
    exact ⟨⟨r_sleep (h.gu _ hi), rfl⟩, fun x hx => hx.th⟩
  · rw [if_neg h1, if_pos (if10n h1), if_pos (if10n h1)]
    exact ⟨List.mem_cons_self, fun x hx => hx.th.th⟩
theorem q_mean {k : Nat} {N : gN} {C M : gT} (h : Rel k N C M) : f_X4_mean C = f_X5_mean N M ∧ ∀ x, Rel k N x M → Rel k N x (s_X5_mean N M) := by
  refine ⟨r_mean h, fun x hx => ?_⟩
  unfold s_X5_mean
  rw [ite_self]
  exact hx.th
theorem q_dig {k : Nat} {N : gN} {C M : gT} (h : Rel k N C M) : f_X4_digest C N = f_X5_digest N M ∧ ∀ x, Rel k N x M → Rel k N x (s_X5_digest N M) := ⟨r_dig h, fun x hx => hx.th⟩
end RQ2
