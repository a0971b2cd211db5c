/-! THE TWO SIDES: what comes new -/
theorem sum_0 {F : Nat → Int32} {n : Nat} (h : ∀ j, j < n → F j = 0) : sumF F n = 0 := by
  have e : sumF F n = sumF (fun _ => 0) n := sum_same h
  rw [e]
  clear e h
  unfold sumF
  induction n with
  | zero => rfl
  | succ n ih => rw [gIt_s, ih]; rfl
theorem N24 {N : gN} {a b : Nat} (ha : N a ≤ 100) (hb : b ≤ 100) : (nI (N a) < nI b) ↔ N a < b := nI_lt_iff (by omega) (by omega)
theorem eq24 {a b : Nat} (ha : a ≤ 100) (hb : b ≤ 100) : (nI a = nI b) ↔ a = b := ⟨fun z => nI_inj (by omega) (by omega) z, fun z => by rw [z]⟩
theorem pk_1 (n : Nat) : nI n + 1 - 1 = nI n := by rw [← nI_succ, show (1 : Int32) = nI 1 from rfl, pk_sub (by omega)]; rfl
theorem one_le {w : Int32} (h1 : ¬ w < 1) (h2 : ¬ (20 : Int32) < w) : ∃ y, 1 ≤ y ∧ y ≤ 20 ∧ w = nI y := by
  rw [Int32.lt_iff_toInt_lt, show (1 : Int32).toInt = 1 from rfl] at h1
  rw [Int32.lt_iff_toInt_lt, show (20 : Int32).toInt = 20 from rfl] at h2
  obtain ⟨e, hy⟩ := gIn_of (v := w) (n := 21) (by decide) ⟨by rw [Int32.lt_iff_toInt_lt, show (0 : Int32).toInt = 0 from rfl]; omega, by rw [Int32.lt_iff_toInt_lt, show (nI 21).toInt = 21 from rfl]; omega⟩
  refine ⟨w.toNatClampNeg, ?_, by omega, e⟩
  rcases Nat.eq_zero_or_pos w.toNatClampNeg with z | z
  · rw [z] at e
    rw [e] at h1
    exact absurd (by decide) h1
  · exact z
theorem rel_mk {k : Nat} {N : gN} {C M : gT} (h : Rel k N C M) {v w x : Int32} (hn : N 0 < 24) (hw : ∃ y, 1 ≤ y ∧ y ≤ 20 ∧ w = nI y) :
    Rel k (nN N 0) (mkC C (N 0) (nI (N 0)) v w x) (tset (tset (tset (tset (tset M 0 0 0) 3 (N 0) v) 4 (N 0) w) 5 (N 0) x) 2 0 ((M 2 0) + 1)) := by
  have hb := h.b
  have em : ∀ f i, f ≠ 0 → ¬ (3 ≤ f ∧ f < 6 ∧ i = N 0) → f ≠ 2 → (tset (tset (tset (tset (tset M 0 0 0) 3 (N 0) v) 4 (N 0) w) 5 (N 0) x) 2 0 ((M 2 0) + 1)) f i = M f i :=
    fun f i h0 h1 h2 => (tset_of h2).trans ((tset_o (by omega)).trans ((tset_o (by omega)).trans ((tset_o (by omega)).trans (tset_of h0))))
  have o1 : ∀ {q : Nat}, q ≠ 0 → q ≠ 4 → nN N 0 q = N q := fun a b => nN_o a b
  refine ⟨?_, gNN_n h.nn h.ir (by decide) hn, IR_n h.nn h.ir (by decide) hn, ?_, ?_, ?_, ?_, ?_, ?_, ?_, ?_, ?_, ?_, fun i hi => ?_, fun i h3 h4 => ?_, fun g hg => ?_, fun g h3 h4 => ?_, fun y hy => ?_, fun t ht => ?_, fun t h3 h4 => ?_, fun q hq => ?_⟩
  · rw [nN_s, o1 (by decide) (by decide), o1 (by decide) (by decide), o1 (by decide) (by decide)]; omega
  · rw [nN_s, tset_s, h.n0, nI_succ]
  · rw [o1 (by decide) (by decide), em 10 0 (by decide) (by omega) (by decide)]; exact h.n1
  · rw [o1 (by decide) (by decide), em 14 0 (by decide) (by omega) (by decide)]; exact h.n2
  · rw [o1 (by decide) (by decide), em 19 0 (by decide) (by omega) (by decide)]; exact h.n3
  · rw [mkC_o (by omega) (by omega), nN_s, gIt_s, h.g4]
    have e1 : gIt (L_X5_pairs (tset (tset (tset (tset (tset M 0 0 0) 3 (N 0) v) 4 (N 0) w) 5 (N 0) x) 2 0 ((M 2 0) + 1))) 0 (N 0) = gIt (L_X5_pairs M) 0 (N 0) := gIt_congr (fun j a hj => by unfold L_X5_pairs; rw [em 6 j (by decide) (by omega) (by decide)]) _
    rw [e1]
    show _ = _ + f_bitc _
    rw [em 6 (N 0) (by decide) (by omega) (by decide), (h.s0 (N 0) (Nat.le_refl _) hn).1, show f_bitc 0 = 0 from by decide, Int32.add_zero]
  · rw [mkC_o (by omega) (by omega)]; exact h.g4b
  · rw [mkC_o (by omega) (by omega), em 1 0 (by decide) (by omega) (by decide)]; exact h.g5
  · rw [mkC_o (by omega) (by omega), em 9 0 (by decide) (by omega) (by decide)]; exact h.g6
  · rw [mkC_o (by omega) (by omega), nN_s, gIt_s, h.g7]
    have e1 : gIt (L_X5_mean (tset (tset (tset (tset (tset M 0 0 0) 3 (N 0) v) 4 (N 0) w) 5 (N 0) x) 2 0 ((M 2 0) + 1))) 0 (N 0) = gIt (L_X5_mean M) 0 (N 0) := gIt_congr (fun j a hj => by unfold L_X5_mean; rw [em 7 j (by decide) (by omega) (by decide)]) _
    rw [e1]
    show _ = _ + _
    rw [em 7 (N 0) (by decide) (by omega) (by decide), (h.s0 (N 0) (Nat.le_refl _) hn).2, Int32.add_zero]
  · rw [mkC_o (by omega) (by omega), em 8 0 (by decide) (by omega) (by decide)]; exact h.g8
  · rw [nN_s] at hi
    by_cases e : i = N 0
    · subst e
      obtain ⟨y1, y2⟩ := h.s0 (N 0) (Nat.le_refl _) hn
      refine ⟨by simp [mkC, tset], by simp [mkC, tset], by simp [mkC, tset], by simp [mkC, tset], ?_, ?_, ?_, ?_⟩
      · rw [em 6 (N 0) (by decide) (by omega) (by decide), y1]; simp [mkC, tset]
      · rw [em 7 (N 0) (by decide) (by omega) (by decide), y2]; simp [mkC, tset]
      · obtain ⟨y, a1, a2, a3⟩ := hw
        exact ⟨y, a1, a2, by simp [tset, a3]⟩
      · rw [em 6 (N 0) (by decide) (by omega) (by decide), y1]
        exact ⟨0, by decide, rfl⟩
    · exact (h.sc i (by omega)).fr (fun f _ _ => mkC_o (by omega) (by omega)) (fun f _ _ => em f i (by omega) (by omega) (by omega))
  · rw [nN_s] at h3
    rw [em 6 i (by decide) (by omega) (by decide), em 7 i (by decide) (by omega) (by decide)]
    exact h.s0 i (by omega) h4
  · rw [o1 (by decide) (by decide)] at hg
    exact (h.gu g hg).fr (fun f _ _ => mkC_o (by omega) (by omega)) (funext fun j => mkC_o (by omega) (by omega)) (em 11 g (by decide) (by omega) (by decide)) (em 12 g (by decide) (by omega) (by decide)) (fun j hj => em 13 _ (by decide) (by omega) (by decide))
  · rw [o1 (by decide) (by decide)] at h3
    obtain ⟨y1, y2⟩ := h.u0 g h3 h4
    exact ⟨(em 11 g (by decide) (by omega) (by decide)).trans y1, fun j hj => (em 13 _ (by decide) (by omega) (by decide)).trans (y2 j hj)⟩
  · rw [em 13 y (by decide) (by omega) (by decide)]
    exact h.hd y hy
  · rw [o1 (by decide) (by decide)] at ht
    exact (h.tr t ht).fr (fun f _ _ => mkC_o (by omega) (by omega)) (fun f _ _ => em f t (by omega) (by omega) (by omega))
  · rw [o1 (by decide) (by decide)] at h3
    rw [em 16 t (by decide) (by omega) (by decide), em 17 t (by decide) (by omega) (by decide), em 18 t (by decide) (by omega) (by decide)]
    exact h.t0 t h3 h4
  · rw [o1 (by decide) (by decide)] at hq
    exact (h.pl q hq).fr (by rw [nN_s]; omega) (fun f _ _ => mkC_o (by omega) (by omega)) (funext fun j => mkC_o (by omega) (by omega)) (em 20 q (by decide) (by omega) (by decide)) (em 22 q (by decide) (by omega) (by decide)) (fun j hj => em 21 _ (by decide) (by omega) (by decide)) (fun i hi => em 4 i (by decide) (by omega) (by decide))
theorem rel_po {k : Nat} {N : gN} {C M : gT} (h : Rel k N C M) (hn : N 1 < 4) : Rel k (nN N 1) (poC C (N 1)) (tset (tset (tset M 0 0 0) 12 (N 1) 20) 10 0 ((M 10 0) + 1)) := by
  have hb := h.b
  have em : ∀ f i, f ≠ 0 → ¬ (f = 12 ∧ i = N 1) → f ≠ 10 → (tset (tset (tset M 0 0 0) 12 (N 1) 20) 10 0 ((M 10 0) + 1)) f i = M f i := fun f i h0 h1 h2 => (tset_of h2).trans ((tset_o h1).trans (tset_of h0))
  have o1 : ∀ {q : Nat}, q ≠ 1 → q ≠ 5 → nN N 1 q = N q := fun a b => nN_o a b
  refine ⟨?_, gNN_n h.nn h.ir (by decide) (by omega), IR_n h.nn h.ir (by decide) (by omega), ?_, ?_, ?_, ?_, ?_, ?_, ?_, ?_, ?_, ?_, fun i hi => ?_, fun i h3 h4 => ?_, fun g hg => ?_, fun g h3 h4 => ?_, fun y hy => ?_, fun t ht => ?_, fun t h3 h4 => ?_, fun q hq => ?_⟩
  · rw [nN_s, o1 (by decide) (by decide), o1 (by decide) (by decide), o1 (by decide) (by decide)]; omega
  · rw [o1 (by decide) (by decide), em 2 0 (by decide) (by omega) (by decide)]; exact h.n0
  · rw [nN_s, tset_s, h.n1, nI_succ]
  · rw [o1 (by decide) (by decide), em 14 0 (by decide) (by omega) (by decide)]; exact h.n2
  · rw [o1 (by decide) (by decide), em 19 0 (by decide) (by omega) (by decide)]; exact h.n3
  · rw [poC_o (by omega) (by omega) (by omega), o1 (by decide) (by decide)]; exact h.g4
  · rw [poC_o (by omega) (by omega) (by omega)]; exact h.g4b
  · rw [poC_o (by omega) (by omega) (by omega)]; exact h.g5
  · rw [poC_o (by omega) (by omega) (by omega)]; exact h.g6
  · rw [poC_o (by omega) (by omega) (by omega), o1 (by decide) (by decide)]; exact h.g7
  · rw [poC_o (by omega) (by omega) (by omega)]; exact h.g8
  · rw [o1 (by decide) (by decide)] at hi
    exact (h.sc i hi).fr (fun f _ _ => poC_o (by omega) (by omega) (by omega)) (fun f _ _ => em f i (by omega) (by omega) (by omega))
  · rw [o1 (by decide) (by decide)] at h3
    exact h.s0 i h3 h4
  · rw [nN_s] at hg
    by_cases e : g = N 1
    · subst e
      obtain ⟨y1, y2⟩ := h.u0 (N 1) (Nat.le_refl _) hn
      refine ⟨?_, Or.inl ⟨poC_43, y1, 20, by decide, by decide, ?_⟩, ?_, fun j hj => ?_⟩
      · rw [poC_42, tset_of (by decide), tset_s]
      · rw [tset_of (by decide), tset_s]; rfl
      · rw [poC_41]
        exact (sum_0 (F := fun j => M 13 (24 * N 1 + j)) (fun j hj => y2 j hj)).symm
      · rw [show poC C (N 1) (100 + N 1) = fun _ => 0 from rset_s]
        exact (y2 j hj).symm
    · refine (h.gu g (by omega)).fr (fun f _ _ => poC_o (by omega) (by omega) (by omega)) (funext fun j => poC_o (by omega) (by omega) (by omega)) rfl ((em 12 g (by decide) (by omega) (by decide))) (fun j hj => rfl)
  · rw [nN_s] at h3
    exact h.u0 g (by omega) h4
  · exact h.hd y hy
  · rw [o1 (by decide) (by decide)] at ht
    exact (h.tr t ht).fr (fun f _ _ => poC_o (by omega) (by omega) (by omega)) (fun f _ _ => em f t (by omega) (by omega) (by omega))
  · rw [o1 (by decide) (by decide)] at h3
    exact h.t0 t h3 h4
  · rw [o1 (by decide) (by decide)] at hq
    exact (h.pl q hq).fr (by rw [o1 (by decide) (by decide)]; exact Nat.le_refl _) (fun f _ _ => poC_o (by omega) (by omega) (by omega)) (funext fun j => poC_o (by omega) (by omega) (by omega)) rfl rfl (fun j hj => rfl) (fun i hi => rfl)
theorem rel_co {k : Nat} {N : gN} {C M : gT} (h : Rel k N C M) {v : Int32} (hn : N 2 < 12) : Rel k (nN N 2) (coC C (N 2) (nI (N 2)) v) (tset (tset (tset M 0 0 0) 15 (N 2) v) 14 0 ((M 14 0) + 1)) := by
  have hb := h.b
  have em : ∀ f i, f ≠ 0 → ¬ (f = 15 ∧ i = N 2) → f ≠ 14 → (tset (tset (tset M 0 0 0) 15 (N 2) v) 14 0 ((M 14 0) + 1)) f i = M f i := fun f i h0 h1 h2 => (tset_of h2).trans ((tset_o h1).trans (tset_of h0))
  have o1 : ∀ {q : Nat}, q ≠ 2 → q ≠ 6 → nN N 2 q = N q := fun a b => nN_o a b
  refine ⟨?_, gNN_n h.nn h.ir (by decide) (by omega), IR_n h.nn h.ir (by decide) (by omega), ?_, ?_, ?_, ?_, ?_, ?_, ?_, ?_, ?_, ?_, fun i hi => ?_, fun i h3 h4 => ?_, fun g hg => ?_, fun g h3 h4 => ?_, fun y hy => ?_, fun t ht => ?_, fun t h3 h4 => ?_, fun q hq => ?_⟩
  · rw [nN_s, o1 (by decide) (by decide), o1 (by decide) (by decide), o1 (by decide) (by decide)]; omega
  · rw [o1 (by decide) (by decide), em 2 0 (by decide) (by omega) (by decide)]; exact h.n0
  · rw [o1 (by decide) (by decide), em 10 0 (by decide) (by omega) (by decide)]; exact h.n1
  · rw [nN_s, tset_s, h.n2, nI_succ]
  · rw [o1 (by decide) (by decide), em 19 0 (by decide) (by omega) (by decide)]; exact h.n3
  · rw [coC_o (by omega) (by omega), o1 (by decide) (by decide)]; exact h.g4
  · rw [coC_o (by omega) (by omega)]; exact h.g4b
  · rw [coC_o (by omega) (by omega)]; exact h.g5
  · rw [coC_o (by omega) (by omega)]; exact h.g6
  · rw [coC_o (by omega) (by omega), o1 (by decide) (by decide)]; exact h.g7
  · rw [coC_o (by omega) (by omega)]; exact h.g8
  · rw [o1 (by decide) (by decide)] at hi
    exact (h.sc i hi).fr (fun f _ _ => coC_o (by omega) (by omega)) (fun f _ _ => em f i (by omega) (by omega) (by omega))
  · rw [o1 (by decide) (by decide)] at h3
    exact h.s0 i h3 h4
  · rw [o1 (by decide) (by decide)] at hg
    exact (h.gu g hg).fr (fun f _ _ => coC_o (by omega) (by omega)) (funext fun j => coC_o (by omega) (by omega)) rfl rfl (fun j hj => rfl)
  · rw [o1 (by decide) (by decide)] at h3
    exact h.u0 g h3 h4
  · exact h.hd y hy
  · rw [nN_s] at ht
    by_cases e : t = N 2
    · subst e
      obtain ⟨y1, y2, y3⟩ := h.t0 (N 2) (Nat.le_refl _) hn
      refine ⟨by simp [coC, tset], by simp [coC, tset], ?_, ?_, ?_⟩
      · rw [em 16 (N 2) (by decide) (by omega) (by decide), y1]; simp [coC, tset]
      · rw [em 17 (N 2) (by decide) (by omega) (by decide), y2]; simp [coC, tset]
      · rw [em 18 (N 2) (by decide) (by omega) (by decide), y3]; simp [coC, tset]
    · exact (h.tr t (by omega)).fr (fun f _ _ => coC_o (by omega) (by omega)) (fun f _ _ => em f t (by omega) (by omega) (by omega))
  · rw [nN_s] at h3
    rw [em 16 t (by decide) (by omega) (by decide), em 17 t (by decide) (by omega) (by decide), em 18 t (by decide) (by omega) (by decide)]
    exact h.t0 t (by omega) h4
  · rw [o1 (by decide) (by decide)] at hq
    exact (h.pl q hq).fr (by rw [o1 (by decide) (by decide)]; exact Nat.le_refl _) (fun f _ _ => coC_o (by omega) (by omega)) (funext fun j => coC_o (by omega) (by omega)) rfl rfl (fun j hj => rfl) (fun i hi => rfl)
theorem q_make {k : Nat} {N : gN} {C M : gT} (h : Rel k N C M) (v w x : Int32) : okR oAS (f_X4_make C N v w x) (f_X5_make N M v w x) (s_X5_make N M v w x 0 0) ∧ Rel k (n_X4_make C N v w x) (s_X4_make C N v w x) (s_X5_make N M v w x) := by
  have hb := h.b
  unfold f_X4_make f_X5_make s_X5_make s_X4_make n_X4_make
  have e24 : (M 2 0 = 24) ↔ ¬ nI (N 0) < 24 := by
    rw [h.n0, show (24 : Int32) = nI 24 from rfl, eq24 (by omega) (by omega), N24 (by omega) (by omega)]
    omega
  simp only [isIn_c, e24]
  by_cases c1 : v < 0
  · simp only [if_pos c1, if_pos (Or.inl c1 : v < 0 ∨ 2 < v)]
    exact ⟨List.mem_cons_self, h.th.th⟩
  · by_cases c2 : 2 < v
    · simp only [if_neg c1, if_pos c2, if_pos (Or.inr c2 : v < 0 ∨ 2 < v)]
      exact ⟨List.mem_cons_self, h.th.th⟩
    · have d1 : ¬ (v < 0 ∨ 2 < v) := fun z => z.elim c1 c2
      by_cases c3 : w < 1
      · simp only [if_neg c1, if_neg c2, if_neg d1, if_pos c3, if_pos (Or.inl c3 : w < 1 ∨ 20 < w)]
        exact ⟨List.mem_cons_self, h.th.th⟩
      · by_cases c4 : 20 < w
        · simp only [if_neg c1, if_neg c2, if_neg d1, if_neg c3, if_pos c4, if_pos (Or.inr c4 : w < 1 ∨ 20 < w)]
          exact ⟨List.mem_cons_self, h.th.th⟩
        · have d2 : ¬ (w < 1 ∨ 20 < w) := fun z => z.elim c3 c4
          by_cases c5 : x < 0
          · simp only [if_neg c1, if_neg c2, if_neg d1, if_neg c3, if_neg c4, if_neg d2, if_pos c5, if_pos (Or.inl c5 : x < 0 ∨ 5 < x)]
            exact ⟨List.mem_cons_self, h.th.th⟩
          · by_cases c6 : x ≤ 5
            · have d3 : ¬ (x < 0 ∨ 5 < x) := fun z => z.elim c5 (fun y => absurd c6 (Int32.not_le.mpr y))
              by_cases c7 : nI (N 0) < 24
              · have d4 : ¬ ¬ nI (N 0) < 24 := fun z => z c7
                simp only [if_neg c1, if_neg c2, if_neg d1, if_neg c3, if_neg c4, if_neg d2, if_neg c5, if_pos c6, if_neg d3, if_pos c7, if_neg d4]
                have hn : N 0 < 24 := (N24 (by omega) (by omega)).mp c7
                exact ⟨⟨by rw [h.n0, pk_1], rfl⟩, rel_mk h hn (one_le c3 c4)⟩
              · simp only [if_neg c1, if_neg c2, if_neg d1, if_neg c3, if_neg c4, if_neg d2, if_neg c5, if_pos c6, if_neg d3, if_neg c7, if_pos c7]
                exact ⟨m2, h.th.th⟩
            · have d3 : x < 0 ∨ 5 < x := Or.inr (Int32.not_le.mp c6)
              simp only [if_neg c1, if_neg c2, if_neg d1, if_neg c3, if_neg c4, if_neg d2, if_neg c5, if_neg c6, if_pos d3]
              exact ⟨List.mem_cons_self, h.th.th⟩
abbrev oS : List (String × Int32) := [(xS, 1)]
theorem q_post {k : Nat} {N : gN} {C M : gT} (h : Rel k N C M) : okR oS (f_X4_post C N) (f_X5_post N M) (s_X5_post N M 0 0) ∧ Rel k (n_X4_post C N) (s_X4_post C N) (s_X5_post N M) := by
  have hb := h.b
  unfold f_X4_post f_X5_post s_X5_post s_X4_post n_X4_post
  have e4 : (M 10 0 = 4) ↔ ¬ nI (N 1) < 4 := by
    rw [h.n1, show (4 : Int32) = nI 4 from rfl, eq24 (by omega) (by omega), N24 (by omega) (by omega)]
    omega
  simp only [e4]
  by_cases c7 : nI (N 1) < 4
  · have d4 : ¬ ¬ nI (N 1) < 4 := fun z => z c7
    simp only [if_pos c7, if_neg d4]
    have hn : N 1 < 4 := (N24 (by omega) (by omega)).mp c7
    exact ⟨⟨by rw [h.n1, pk_1], rfl⟩, rel_po h hn⟩
  · simp only [if_neg c7, if_pos c7]
    exact ⟨List.mem_cons_self, h.th.th⟩
theorem q_come {k : Nat} {N : gN} {C M : gT} (h : Rel k N C M) (v : Int32) : okR oAS (f_X4_come C N v) (f_X5_come N M v) (s_X5_come N M v 0 0) ∧ Rel k (n_X4_come C N v) (s_X4_come C N v) (s_X5_come N M v) := by
  have hb := h.b
  unfold f_X4_come f_X5_come s_X5_come s_X4_come n_X4_come
  have e12 : (M 14 0 = 12) ↔ ¬ nI (N 2) < 12 := by
    rw [h.n2, show (12 : Int32) = nI 12 from rfl, eq24 (by omega) (by omega), N24 (by omega) (by omega)]
    omega
  simp only [e12]
  rw [h.n0]
  by_cases c1 : v < 0
  · simp only [if_pos c1]
    exact ⟨List.mem_cons_self, h.th.th⟩
  · by_cases c2 : v >>> (nI (N 0) &&& 31) = 0
    · by_cases c7 : nI (N 2) < 12
      · have d4 : ¬ ¬ nI (N 2) < 12 := fun z => z c7
        simp only [if_neg c1, if_pos c2, if_pos c7, if_neg d4]
        have hn : N 2 < 12 := (N24 (by omega) (by omega)).mp c7
        exact ⟨⟨by rw [h.n2, pk_1], rfl⟩, rel_co h hn⟩
      · simp only [if_neg c1, if_pos c2, if_neg c7, if_pos c7]
        exact ⟨m2, h.th.th⟩
    · simp only [if_neg c1, if_neg c2]
      exact ⟨List.mem_cons_self, h.th.th⟩
