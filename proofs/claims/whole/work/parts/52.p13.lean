/-! THE TWO SIDES: a plot begins, a plot goes on -/
theorem rel_pl {k : Nat} {N : gN} {C M : gT} (h : Rel k N C M) {v : Int32} {i : Nat} (ev : v = nI i) (hi : i < N 0) (hn : N 3 < 8) :
    Rel k (nN N 3) (plC C (N 3) i (C 30 i) (C 32 i)) (tset (tset (tset (tset (tset (tset M 0 0 0) 20 (N 3) 0) 22 (N 3) (-1)) 19 0 ((M 19 0) + 1)) 21 (8 * N 3) v) 20 (N 3) (0 + 1)) := by
  have hb := h.b
  have hs := h.sc i hi
  generalize hM : tset (tset (tset (tset (tset (tset M 0 0 0) 20 (N 3) 0) 22 (N 3) (-1)) 19 0 ((M 19 0) + 1)) 21 (8 * N 3) v) 20 (N 3) (0 + 1) = M1
  have em : ∀ f g, f ≠ 0 → ¬ (f = 20 ∧ g = N 3) → ¬ (f = 22 ∧ g = N 3) → f ≠ 19 → ¬ (f = 21 ∧ g = 8 * N 3) → M1 f g = M f g := fun f g b0 b1 b2 b3 b4 => by
    rw [← hM]
    exact (tset_o b1).trans ((tset_o b4).trans ((tset_of b3).trans ((tset_o b2).trans ((tset_o b1).trans (tset_of b0)))))
  have emf : ∀ f, f ≠ 0 → f ≠ 20 → f ≠ 22 → f ≠ 19 → f ≠ 21 → M1 f = M f := fun f b0 b1 b2 b3 b4 => funext fun g => em f g b0 (by omega) (by omega) b3 (by omega)
  have m20 : M1 20 (N 3) = nI 1 := by rw [← hM]; exact tset_s.trans (by decide)
  have m21 : M1 21 (8 * N 3) = v := by rw [← hM]; exact (tset_of (by decide)).trans tset_s
  have m22 : M1 22 (N 3) = -1 := by rw [← hM]; exact (tset_of (by decide)).trans ((tset_of (by decide)).trans ((tset_of (by decide)).trans tset_s))
  have m19 : M1 19 0 = M 19 0 + 1 := by rw [← hM]; exact (tset_of (by decide)).trans ((tset_of (by decide)).trans tset_s)
  have o1 : ∀ {q : Nat}, q ≠ 3 → q ≠ 7 → nN N 3 q = N q := fun a b => nN_o a b
  refine ⟨?_, gNN_n h.nn h.ir (by decide) (by omega), IR_n h.nn h.ir (by decide) (by omega), ?_, ?_, ?_, ?_, ?_, ?_, ?_, ?_, ?_, ?_, fun j hj => ?_, fun j h3 h4 => ?_, fun g hg => ?_, fun g h3 h4 => ?_, fun y hy => ?_, fun t ht => ?_, fun t h3 h4 => ?_, fun q hq => ?_⟩
  · rw [nN_s, o1 (by decide) (by decide), o1 (by decide) (by decide), o1 (by decide) (by decide)]; omega
  · rw [o1 (by decide) (by decide), emf 2 (by decide) (by decide) (by decide) (by decide) (by decide)]; exact h.n0
  · rw [o1 (by decide) (by decide), emf 10 (by decide) (by decide) (by decide) (by decide) (by decide)]; exact h.n1
  · rw [o1 (by decide) (by decide), emf 14 (by decide) (by decide) (by decide) (by decide) (by decide)]; exact h.n2
  · rw [nN_s, m19, h.n3, nI_succ]
  · rw [plC_o (by omega) (by omega) (by omega), o1 (by decide) (by decide), h.g4]
    exact gIt_congr (fun j a hj => by unfold L_X5_pairs; rw [emf 6 (by decide) (by decide) (by decide) (by decide) (by decide)]) _
  · rw [plC_o (by omega) (by omega) (by omega)]; exact h.g4b
  · rw [plC_o (by omega) (by omega) (by omega), emf 1 (by decide) (by decide) (by decide) (by decide) (by decide)]; exact h.g5
  · rw [plC_o (by omega) (by omega) (by omega), emf 9 (by decide) (by decide) (by decide) (by decide) (by decide)]; exact h.g6
  · rw [plC_o (by omega) (by omega) (by omega), o1 (by decide) (by decide), h.g7]
    exact gIt_congr (fun j a hj => by unfold L_X5_mean; rw [emf 7 (by decide) (by decide) (by decide) (by decide) (by decide)]) _
  · rw [plC_o (by omega) (by omega) (by omega), emf 8 (by decide) (by decide) (by decide) (by decide) (by decide)]; exact h.g8
  · rw [o1 (by decide) (by decide)] at hj
    exact (h.sc j hj).fr (fun f _ _ => plC_o (by omega) (by omega) (by omega)) (fun f _ _ => by rw [emf f (by omega) (by omega) (by omega) (by omega) (by omega)])
  · rw [o1 (by decide) (by decide)] at h3
    rw [emf 6 (by decide) (by decide) (by decide) (by decide) (by decide), emf 7 (by decide) (by decide) (by decide) (by decide) (by decide)]
    exact h.s0 j h3 h4
  · rw [o1 (by decide) (by decide)] at hg
    exact (h.gu g hg).fr (fun f _ _ => plC_o (by omega) (by omega) (by omega)) (funext fun j => plC_o (by omega) (by omega) (by omega)) (by rw [emf 11 (by decide) (by decide) (by decide) (by decide) (by decide)]) (by rw [emf 12 (by decide) (by decide) (by decide) (by decide) (by decide)]) (fun j hj => by rw [emf 13 (by decide) (by decide) (by decide) (by decide) (by decide)])
  · rw [o1 (by decide) (by decide)] at h3
    rw [emf 11 (by decide) (by decide) (by decide) (by decide) (by decide), emf 13 (by decide) (by decide) (by decide) (by decide) (by decide)]
    exact h.u0 g h3 h4
  · rw [emf 13 (by decide) (by decide) (by decide) (by decide) (by decide)]
    exact h.hd y hy
  · rw [o1 (by decide) (by decide)] at ht
    exact (h.tr t ht).fr (fun f _ _ => plC_o (by omega) (by omega) (by omega)) (fun f _ _ => by rw [emf f (by omega) (by omega) (by omega) (by omega) (by omega)])
  · rw [o1 (by decide) (by decide)] at h3
    rw [emf 16 (by decide) (by decide) (by decide) (by decide) (by decide), emf 17 (by decide) (by decide) (by decide) (by decide) (by decide), emf 18 (by decide) (by decide) (by decide) (by decide) (by decide)]
    exact h.t0 t h3 h4
  · rw [nN_s] at hq
    by_cases e : q = N 3
    · subst e
      have es : szM M1 (N 3) = 1 := by rw [szM, m20]; decide
      have er : rwM M1 (N 3) 0 = i := by rw [rwM, Nat.add_zero, m21, ev, nI_clamp (by omega)]
      have el : laM M1 (N 3) = i := by rw [laM, es, er]
      refine ⟨by rw [m20, es], by rw [es]; decide, by rw [es]; decide, fun j hj => ?_, ?_, ?_, ?_, ?_, ?_, fun j hj => ?_⟩
      · rw [es] at hj
        have : j = 0 := by omega
        subst this
        rw [er, Nat.add_zero, m21, o1 (by decide) (by decide)]
        exact ⟨ev, hi⟩
      · rw [plC_62, m20]
      · rw [plC_61, es, hs.c32]
        show _ = 0 + M1 4 (rwM M1 (N 3) 0)
        rw [er, emf 4 (by decide) (by decide) (by decide) (by decide) (by decide)]
      · rw [plC_63, el]
      · rw [plC_64, es, hs.c30]
        show _ = (0 : Int32) ||| (1 <<< (M1 21 (8 * N 3 + 0) &&& 31))
        rw [Nat.add_zero, m21, ev]
      · rw [plC_65, m22]
      · rw [es] at hj
        have : j = 0 := by omega
        subst this
        rw [Nat.add_zero, m21, ev, ← hs.c30]
        exact congrFun (rset_s (C := _) (f := 200 + N 3)) 0
    · exact (h.pl q (by omega)).fr (by rw [o1 (by decide) (by decide)]; exact Nat.le_refl _) (fun f _ _ => plC_o (by omega) (by omega) (by omega)) (funext fun j => plC_o (by omega) (by omega) (by omega)) (em 20 q (by decide) (by omega) (by omega) (by decide) (by omega)) (em 22 q (by decide) (by omega) (by omega) (by decide) (by omega)) (fun j hj => em 21 _ (by decide) (by omega) (by omega) (by decide) (by omega)) (fun j hj => by rw [emf 4 (by decide) (by decide) (by decide) (by decide) (by decide)])
theorem rel_to {k : Nat} {N : gN} {C M : gT} (h : Rel k N C M) {v : Int32} {i q : Nat} (ev : v = nI i) (hi : i < N 0) (hq : q < N 3) (h8 : szM M q < 8) :
    Rel k N (toC C q i) (tset (tset (tset M 0 0 0) 21 (8 * q + szM M q) v) 20 q ((M 20 q) + 1)) := by
  have hb := h.b
  have hs := h.sc i hi
  have hp := h.pl q hq
  have h1 := hp.s1
  generalize hM : tset (tset (tset M 0 0 0) 21 (8 * q + szM M q) v) 20 q ((M 20 q) + 1) = M1
  have em : ∀ f g, f ≠ 0 → ¬ (f = 20 ∧ g = q) → ¬ (f = 21 ∧ g = 8 * q + szM M q) → M1 f g = M f g := fun f g b0 b1 b4 => by
    rw [← hM]
    exact (tset_o b1).trans ((tset_o b4).trans (tset_of b0))
  have emf : ∀ f, f ≠ 0 → f ≠ 20 → f ≠ 21 → M1 f = M f := fun f b0 b1 b4 => funext fun g => em f g b0 (by omega) (by omega)
  have m20 : M1 20 q = nI (szM M q + 1) := by rw [← hM, tset_s, hp.sz, nI_succ]
  have m21 : M1 21 (8 * q + szM M q) = v := by rw [← hM]; exact (tset_of (by decide)).trans tset_s
  refine ⟨hb, h.nn, h.ir, by rw [emf 2 (by decide) (by decide) (by decide)]; exact h.n0, by rw [emf 10 (by decide) (by decide) (by decide)]; exact h.n1, by rw [emf 14 (by decide) (by decide) (by decide)]; exact h.n2, by rw [emf 19 (by decide) (by decide) (by decide)]; exact h.n3, ?_, ?_, ?_, ?_, ?_, ?_, fun j hj => ?_, ?_, fun g hg => ?_, ?_, ?_, fun t ht => ?_, ?_, fun q' hq' => ?_⟩
  · rw [toC_o (by omega) (by omega), h.g4]
    exact gIt_congr (fun j a hj => by unfold L_X5_pairs; rw [emf 6 (by decide) (by decide) (by decide)]) _
  · rw [toC_o (by omega) (by omega)]; exact h.g4b
  · rw [toC_o (by omega) (by omega), emf 1 (by decide) (by decide) (by decide)]; exact h.g5
  · rw [toC_o (by omega) (by omega), emf 9 (by decide) (by decide) (by decide)]; exact h.g6
  · rw [toC_o (by omega) (by omega), h.g7]
    exact gIt_congr (fun j a hj => by unfold L_X5_mean; rw [emf 7 (by decide) (by decide) (by decide)]) _
  · rw [toC_o (by omega) (by omega), emf 8 (by decide) (by decide) (by decide)]; exact h.g8
  · exact (h.sc j hj).fr (fun f _ _ => toC_o (by omega) (by omega)) (fun f _ _ => by rw [emf f (by omega) (by omega) (by omega)])
  · rw [emf 6 (by decide) (by decide) (by decide), emf 7 (by decide) (by decide) (by decide)]
    exact h.s0
  · exact (h.gu g hg).fr (fun f _ _ => toC_o (by omega) (by omega)) (funext fun j => toC_o (by omega) (by omega)) (by rw [emf 11 (by decide) (by decide) (by decide)]) (by rw [emf 12 (by decide) (by decide) (by decide)]) (fun j hj => by rw [emf 13 (by decide) (by decide) (by decide)])
  · rw [emf 11 (by decide) (by decide) (by decide), emf 13 (by decide) (by decide) (by decide)]
    exact h.u0
  · rw [emf 13 (by decide) (by decide) (by decide)]
    exact h.hd
  · exact (h.tr t ht).fr (fun f _ _ => toC_o (by omega) (by omega)) (fun f _ _ => by rw [emf f (by omega) (by omega) (by omega)])
  · rw [emf 16 (by decide) (by decide) (by decide), emf 17 (by decide) (by decide) (by decide), emf 18 (by decide) (by decide) (by decide)]
    exact h.t0
  · by_cases e : q' = q
    · subst e
      have es : szM M1 q' = szM M q' + 1 := by rw [szM, m20, nI_clamp (by omega)]
      have er : rwM M1 q' (szM M q') = i := by rw [rwM, m21, ev, nI_clamp (by omega)]
      have er2 : ∀ j, j < szM M q' → rwM M1 q' j = rwM M q' j := fun j hj => by rw [rwM, rwM, em 21 _ (by decide) (by omega) (by omega)]
      have el : laM M1 q' = i := by rw [laM, es, Nat.add_sub_cancel, er]
      have esC := szC_M hp
      refine ⟨by rw [m20, es], by rw [es]; omega, by rw [es]; omega, fun j hj => ?_, ?_, ?_, ?_, ?_, ?_, fun j hj => ?_⟩
      · rw [es] at hj
        by_cases ej : j = szM M q'
        · subst ej
          rw [er, m21]
          exact ⟨ev, hi⟩
        · rw [er2 j (by omega), em 21 _ (by decide) (by omega) (by omega)]
          exact hp.rw_ j (by omega)
      · rw [toC_62, m20, esC]
      · rw [toC_61, es, gIt_s, hp.c61, hs.c32]
        have e1 : gIt (L_X5_plotTold M1 q') 0 (szM M q') = gIt (L_X5_plotTold M q') 0 (szM M q') := gIt_congr (fun j a hj => by unfold L_X5_plotTold; rw [er2 j hj, emf 4 (by decide) (by decide) (by decide)]) _
        rw [e1]
        show _ = _ + M1 4 (rwM M1 q' (szM M q'))
        rw [er, emf 4 (by decide) (by decide) (by decide)]
      · rw [toC_63, el]
      · rw [toC_64, es, gIt_s, hp.c64, hs.c30]
        have e1 : gIt (L_X5_most M1 q') 0 (szM M q') = gIt (L_X5_most M q') 0 (szM M q') := gIt_congr (fun j a hj => by unfold L_X5_most; rw [em 21 _ (by decide) (by omega) (by omega)]) _
        rw [e1]
        show _ = _ ||| (1 <<< (M1 21 (8 * q' + szM M q') &&& 31))
        rw [m21, ev]
      · rw [toC_65, hp.c65, em 22 q' (by decide) (by omega) (by omega)]
      · rw [es] at hj
        have er3 : toC C q' i (200 + q') = upd (C (200 + q')) (szC C q') (C 30 i) := rset_s
        rw [er3, esC]
        by_cases ej : j = szM M q'
        · subst ej
          rw [m21, ev, ← hs.c30]
          exact if_pos rfl
        · rw [em 21 _ (by decide) (by omega) (by omega), ← hp.row j (by omega)]
          exact if_neg ej
    · have hne : szM M q < 8 := h8
      exact (h.pl q' hq').fr (Nat.le_refl _) (fun f _ _ => toC_o (by omega) (by omega)) (funext fun j => toC_o (by omega) (by omega)) (em 20 q' (by decide) (by omega) (by omega)) (em 22 q' (by decide) (by omega) (by omega)) (fun j hj => em 21 _ (by decide) (by omega) (by omega)) (fun j hj => by rw [emf 4 (by decide) (by decide) (by decide)])
theorem q_tell {k : Nat} {N : gN} {C M : gT} (h : Rel k N C M) (hk : k < 900) (v w x : Int32) : okR oIS (f_X4_tell C N v w x) (f_X5_tell N M v w x) (s_X5_tell N M v w x 0 0) ∧ Rel (k + 1) (n_X4_tell C N v w x) (s_X4_tell C N v w x) (s_X5_tell N M v w x) := by
  have hb := h.b
  have h' := h.mono (Nat.le_succ k)
  unfold f_X4_tell f_X5_tell s_X5_tell s_X4_tell n_X4_tell
  rw [isT h, isS h, isP h]
  by_cases c1 : gIn v (N 2)
  · have ht := (gIn_nI (by omega) c1).2
    simp only [if_pos c1, if_neg one0]
    by_cases c2 : gIn w (N 0)
    · obtain ⟨ew, hi⟩ := gIn_nI (by omega) c2
      have hs := h.sc _ hi
      simp only [if_pos c2, if_neg one0, hs.c31]
      have begins : ∀ (hn : N 3 < 8), okR oIS (Sum.inl (f_X4_tellB (plC C (N 3) w.toNatClampNeg (C 30 w.toNatClampNeg) (C 32 w.toNatClampNeg)) (nN N 3) v w)) (f_X5_tell2 N (tset (tset (tset (tset (tset (tset M 0 0 0) 20 (N 3) 0) 22 (N 3) (-1)) 19 0 ((M 19 0) + 1)) 21 (8 * N 3) w) 20 (N 3) (0 + 1)) v w) (s_X5_tell2 N (tset (tset (tset (tset (tset (tset M 0 0 0) 20 (N 3) 0) 22 (N 3) (-1)) 19 0 ((M 19 0) + 1)) 21 (8 * N 3) w) 20 (N 3) (0 + 1)) v w 0 0) ∧
          Rel (k + 1) (nN N 3) (s_X4_tellB (plC C (N 3) w.toNatClampNeg (C 30 w.toNatClampNeg) (C 32 w.toNatClampNeg)) (nN N 3) v w) (s_X5_tell2 N (tset (tset (tset (tset (tset (tset M 0 0 0) 20 (N 3) 0) 22 (N 3) (-1)) 19 0 ((M 19 0) + 1)) 21 (8 * N 3) w) 20 (N 3) (0 + 1)) v w) := by
        intro hn
        have o1 : ∀ {q : Nat}, q ≠ 3 → q ≠ 7 → nN N 3 q = N q := fun a b => nN_o a b
        obtain ⟨r1, r2, r3⟩ := rel_tellB (rel_pl h ew hi hn) hk (v := v) (w := w) (by rw [o1 (by decide) (by decide)]; exact ht) (by rw [o1 (by decide) (by decide)]; exact hi)
        have e1 : ∀ M', f_X5_tell2 (nN N 3) M' v w = f_X5_tell2 N M' v w := fun M' => by
          unfold f_X5_tell2 f_X5_toll
          rw [o1 (by decide) (by decide)]
        have e2 : ∀ M', s_X5_tell2 (nN N 3) M' v w = s_X5_tell2 N M' v w := fun M' => by
          unfold s_X5_tell2 f_X5_toll
          rw [o1 (by decide) (by decide)]
        rw [e1] at r1
        rw [e2] at r2 r3
        exact ⟨⟨r1, r2⟩, r3⟩
      by_cases c3 : gIn x (N 3)
      · have hq := (gIn_nI (by omega) c3).2
        have hp := h.pl _ hq
        have ecan : f_X4_canTell C N v.toNatClampNeg w.toNatClampNeg x.toNatClampNeg = f_X5_can (tset M 0 0 0) v.toNatClampNeg w.toNatClampNeg x.toNatClampNeg := r_can (h.th (v := 0)) ht hi hq
        simp only [if_pos c3, if_neg one0]
        have hbd := canTell_b (C := C) (N := N) (tv := v.toNatClampNeg) (i := w.toNatClampNeg) (q := x.toNatClampNeg) (by omega)
        rw [ecan] at hbd ⊢
        by_cases c4 : M 3 w.toNatClampNeg = 0
        · simp only [if_pos c4]
          by_cases c5 : f_X5_can (tset M 0 0 0) v.toNatClampNeg w.toNatClampNeg x.toNatClampNeg = 0
          · simp only [if_pos c5]
            exact ⟨m2, h'.th.th⟩
          · simp only [if_neg c5]
            exact begins ((hbd c5).1 (by rw [hs.c31]; exact c4))
        · simp only [if_neg c4]
          by_cases c5 : f_X5_can (tset M 0 0 0) v.toNatClampNeg w.toNatClampNeg x.toNatClampNeg = 0
          · simp only [if_pos c5]
            exact ⟨m2, h'.th.th⟩
          · simp only [if_neg c5]
            have h9 := (hbd c5).2 (by rw [hs.c31]; exact c4)
            have h8 : szM M x.toNatClampNeg < 8 := by
              have h7 := hp.s8
              rw [hp.c62, hp.sz, show (8 : Int32) = nI 8 from rfl, nI_le_iff (by omega) (by omega)] at h9
              omega
            obtain ⟨r1, r2, r3⟩ := rel_tellB (rel_to h ew hi hq h8) hk (v := v) (w := w) ht hi
            exact ⟨⟨r1, r2⟩, r3⟩
      · simp only [if_neg c3, if_pos z0]
        by_cases c4 : M 3 w.toNatClampNeg = 0
        · have ecan : f_X4_canTellN C N v.toNatClampNeg w.toNatClampNeg = f_X5_can (tset M 0 0 0) v.toNatClampNeg w.toNatClampNeg x.toNatClampNeg := r_canN (h.th (v := 0)) ht hi c4
          have hbd := canTellN_b (C := C) (N := N) (tv := v.toNatClampNeg) (i := w.toNatClampNeg) (by omega)
          simp only [if_pos c4]
          rw [ecan] at hbd ⊢
          by_cases c5 : f_X5_can (tset M 0 0 0) v.toNatClampNeg w.toNatClampNeg x.toNatClampNeg = 0
          · simp only [if_pos c5]
            exact ⟨m2, h'.th.th⟩
          · simp only [if_neg c5]
            exact begins (hbd c5)
        · simp only [if_neg c4]
          exact ⟨List.mem_cons_self, h'.th.th⟩
    · simp only [if_neg c2, if_pos z0]
      exact ⟨List.mem_cons_self, h'.th.th⟩
  · simp only [if_neg c1, if_pos z0, ite_self]
    exact ⟨List.mem_cons_self, h'.th.th⟩
