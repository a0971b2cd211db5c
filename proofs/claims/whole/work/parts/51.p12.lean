/-! THE TWO SIDES: a scene is told, to its end -/
theorem rel_tellB {k : Nat} {N : gN} {C M : gT} (h : Rel k N C M) (hk : k < 900) {v w : Int32} (ht : v.toNatClampNeg < N 2) (hi : w.toNatClampNeg < N 0) : f_X4_tellB C N v w = f_X5_tell2 N M v w ∧ s_X5_tell2 N M v w 0 0 = M 0 0 ∧ Rel (k + 1) N (s_X4_tellB C N v w) (s_X5_tell2 N M v w) := by
  have hb := h.b
  have etoll := r_toll h (by omega) hi
  have hL := hear_all h hk hi
  refine ⟨etoll, ?_, ?_⟩
  · unfold s_X5_tell2
    exact (tset_of (by decide)).trans ((tset_of (by decide)).trans ((tset_of (by decide)).trans ((tset_of (by decide)).trans ((tset_of (by decide)).trans (congrFun (hL.2.2.1 0 (by decide) (by decide) (by decide)) 0)))))
  unfold s_X4_tellB s_X5_tell2 s_X4_letGuardsHear
  rw [etoll]
  generalize f_X5_toll N M w.toNatClampNeg = toll
  obtain ⟨l1, l2, l3, l4, l5⟩ := hL
  generalize v.toNatClampNeg = t at ht ⊢
  generalize w.toNatClampNeg = i at hi l1 l2 l3 l4 l5 ⊢
  generalize gIt (L_lgh i) C (N 1) = C1 at l1 l2 l4 l5 ⊢
  generalize gIt (L_tell0 i) M (N 1) = M1 at l1 l3 l4 l5 ⊢
  have l0 : C1 0 = C 0 := l2 0 (by decide) (by decide) (by decide) (by omega)
  generalize hC : (tset (tset (tset (tset (tset (tset C1 0 8 (C1 33 i)) 35 i (tset C1 0 8 (C1 33 i) 35 i + 1)) 54 t (tset C1 0 8 (C1 33 i) 54 t + 1)) 52 t (tset C1 0 8 (C1 33 i) 52 t + toll)) 0 7 (tset C1 0 8 (C1 33 i) 0 7 + 1)) 0 6 (tset C1 0 8 (C1 33 i) 0 6 + toll)) = C2
  generalize hM : (tset (tset (tset (tset (tset M1 8 0 (M1 5 i)) 7 i (M1 7 i + 1)) 18 t (M1 18 t + 1)) 16 t (M1 16 t + toll)) 9 0 (M1 9 0 + toll)) = M2
  have oc : ∀ f g, ¬ (f = 0 ∧ (g = 6 ∨ g = 7 ∨ g = 8)) → ¬ (f = 35 ∧ g = i) → ¬ (f = 54 ∧ g = t) → ¬ (f = 52 ∧ g = t) → C2 f g = C1 f g := fun f g b1 b2 b3 b4 => by
    rw [← hC]
    exact (tset_o (by omega)).trans ((tset_o (by omega)).trans ((tset_o b4).trans ((tset_o b3).trans ((tset_o b2).trans (tset_o (by omega))))))
  have om : ∀ f g, f ≠ 8 → ¬ (f = 7 ∧ g = i) → ¬ (f = 18 ∧ g = t) → ¬ (f = 16 ∧ g = t) → f ≠ 9 → M2 f g = M1 f g := fun f g b1 b2 b3 b4 b5 => by
    rw [← hM]
    exact (tset_of b5).trans ((tset_o b4).trans ((tset_o b3).trans ((tset_o b2).trans (tset_of b1))))
  have ocf : ∀ f, f ≠ 0 → f ≠ 35 → f ≠ 54 → f ≠ 52 → C2 f = C1 f := fun f b1 b2 b3 b4 => funext fun g => oc f g (by omega) (by omega) (by omega) (by omega)
  have omf : ∀ f, f ≠ 8 → f ≠ 7 → f ≠ 18 → f ≠ 16 → f ≠ 9 → M2 f = M1 f := fun f b1 b2 b3 b4 b5 => funext fun g => om f g b1 (by omega) (by omega) (by omega) b5
  have c35 : C2 35 i = C1 35 i + 1 := by rw [← hC]; exact (tset_of (by decide)).trans ((tset_of (by decide)).trans ((tset_of (by decide)).trans ((tset_of (by decide)).trans tset_s)))
  have c54 : C2 54 t = C1 54 t + 1 := by rw [← hC]; exact (tset_of (by decide)).trans ((tset_of (by decide)).trans ((tset_of (by decide)).trans tset_s))
  have c52 : C2 52 t = C1 52 t + toll := by rw [← hC]; exact (tset_of (by decide)).trans ((tset_of (by decide)).trans tset_s)
  have c07 : C2 0 7 = C1 0 7 + 1 := by rw [← hC]; exact (tset_j (by decide)).trans tset_s
  have c06 : C2 0 6 = C1 0 6 + toll := by rw [← hC]; exact tset_s
  have c08 : C2 0 8 = C1 33 i := by rw [← hC]; exact (tset_j (by decide)).trans ((tset_j (by decide)).trans ((tset_of (by decide)).trans ((tset_of (by decide)).trans ((tset_of (by decide)).trans tset_s))))
  have m7 : M2 7 i = M1 7 i + 1 := by rw [← hM]; exact (tset_of (by decide)).trans ((tset_of (by decide)).trans ((tset_of (by decide)).trans tset_s))
  have m18 : M2 18 t = M1 18 t + 1 := by rw [← hM]; exact (tset_of (by decide)).trans ((tset_of (by decide)).trans tset_s)
  have m16 : M2 16 t = M1 16 t + toll := by rw [← hM]; exact (tset_of (by decide)).trans tset_s
  have m9 : M2 9 0 = M1 9 0 + toll := by rw [← hM]; exact tset_s
  have m8 : M2 8 0 = M1 5 i := by rw [← hM]; exact (tset_of (by decide)).trans ((tset_of (by decide)).trans ((tset_of (by decide)).trans ((tset_of (by decide)).trans tset_s)))
  have hs := h.sc i hi
  have hT := h.tr t ht
  have k3 : ∀ f, f ≠ 11 → f ≠ 12 → f ≠ 13 → M1 f = M f := l3
  have k2 : ∀ f, f ≠ 41 → f ≠ 42 → f ≠ 43 → f < 100 → C1 f = C f := fun f a b c d => l2 f a b c (Or.inl d)
  refine ⟨hb, h.nn, h.ir, ?_, ?_, ?_, ?_, ?_, ?_, ?_, ?_, ?_, ?_, fun j hj => ?_, fun j h3 h4 => ?_, fun g hg => ?_, fun g h3 h4 => ?_, fun y hy => ?_, fun j hj => ?_, fun j h3 h4 => ?_, fun q hq => ?_⟩
  · rw [omf 2 (by decide) (by decide) (by decide) (by decide) (by decide), k3 2 (by decide) (by decide) (by decide)]; exact h.n0
  · rw [omf 10 (by decide) (by decide) (by decide) (by decide) (by decide), k3 10 (by decide) (by decide) (by decide)]; exact h.n1
  · rw [omf 14 (by decide) (by decide) (by decide) (by decide) (by decide), k3 14 (by decide) (by decide) (by decide)]; exact h.n2
  · rw [omf 19 (by decide) (by decide) (by decide) (by decide) (by decide), k3 19 (by decide) (by decide) (by decide)]; exact h.n3
  · rw [oc 0 4 (by omega) (by omega) (by omega) (by omega), l0, h.g4]
    exact gIt_congr (fun j a hj => by unfold L_X5_pairs; rw [omf 6 (by decide) (by decide) (by decide) (by decide) (by decide), k3 6 (by decide) (by decide) (by decide)]) _
  · rw [oc 0 4 (by omega) (by omega) (by omega) (by omega), l0]; exact h.g4b
  · rw [oc 0 5 (by omega) (by omega) (by omega) (by omega), l0, omf 1 (by decide) (by decide) (by decide) (by decide) (by decide), k3 1 (by decide) (by decide) (by decide)]; exact h.g5
  · rw [c06, l0, m9, k3 9 (by decide) (by decide) (by decide), h.g6]
  · rw [c07, l0, h.g7]
    refine (sum_upd (F := fun j => M 7 j) (F' := fun j => M2 7 j) (i := i) hi (fun j hj hne => ?_) ?_).symm
    · show M2 7 j = M 7 j
      rw [om 7 j (by decide) (by omega) (by omega) (by omega) (by decide), k3 7 (by decide) (by decide) (by decide)]
    · show M2 7 i = M 7 i + 1
      rw [m7, k3 7 (by decide) (by decide) (by decide)]
  · rw [c08, m8, k2 33 (by decide) (by decide) (by decide) (by decide), k3 5 (by decide) (by decide) (by decide)]; exact hs.c33
  · by_cases e : j = i
    · subst e
      refine ⟨?_, ?_, ?_, ?_, ?_, ?_, ?_, ?_⟩
      · rw [ocf 30 (by decide) (by decide) (by decide) (by decide), k2 30 (by decide) (by decide) (by decide) (by decide)]; exact hs.c30
      · rw [ocf 31 (by decide) (by decide) (by decide) (by decide), k2 31 (by decide) (by decide) (by decide) (by decide), omf 3 (by decide) (by decide) (by decide) (by decide) (by decide), k3 3 (by decide) (by decide) (by decide)]; exact hs.c31
      · rw [ocf 32 (by decide) (by decide) (by decide) (by decide), k2 32 (by decide) (by decide) (by decide) (by decide), omf 4 (by decide) (by decide) (by decide) (by decide) (by decide), k3 4 (by decide) (by decide) (by decide)]; exact hs.c32
      · rw [ocf 33 (by decide) (by decide) (by decide) (by decide), k2 33 (by decide) (by decide) (by decide) (by decide), omf 5 (by decide) (by decide) (by decide) (by decide) (by decide), k3 5 (by decide) (by decide) (by decide)]; exact hs.c33
      · rw [ocf 34 (by decide) (by decide) (by decide) (by decide), k2 34 (by decide) (by decide) (by decide) (by decide), omf 6 (by decide) (by decide) (by decide) (by decide) (by decide), k3 6 (by decide) (by decide) (by decide)]; exact hs.c34
      · rw [c35, m7, k2 35 (by decide) (by decide) (by decide) (by decide), k3 7 (by decide) (by decide) (by decide), hs.c35]
      · rw [omf 4 (by decide) (by decide) (by decide) (by decide) (by decide), k3 4 (by decide) (by decide) (by decide)]; exact hs.won
      · rw [omf 6 (by decide) (by decide) (by decide) (by decide) (by decide), k3 6 (by decide) (by decide) (by decide)]; exact hs.fol
    · exact (h.sc j hj).fr (fun f _ _ => by rw [oc f j (by omega) (by omega) (by omega) (by omega), k2 f (by omega) (by omega) (by omega) (by omega)]) (fun f _ _ => by rw [om f j (by omega) (by omega) (by omega) (by omega) (by omega), k3 f (by omega) (by omega) (by omega)])
  · rw [om 6 j (by decide) (by omega) (by omega) (by omega) (by decide), om 7 j (by decide) (by omega) (by omega) (by omega) (by decide), k3 6 (by decide) (by decide) (by decide), k3 7 (by decide) (by decide) (by decide)]
    exact h.s0 j h3 h4
  · exact (l1 g hg).fr (fun f _ _ => by rw [ocf f (by omega) (by omega) (by omega) (by omega)]) (ocf _ (by omega) (by omega) (by omega) (by omega)) (by rw [omf 11 (by decide) (by decide) (by decide) (by decide) (by decide)]) (by rw [omf 12 (by decide) (by decide) (by decide) (by decide) (by decide)]) (fun j hj => by rw [omf 13 (by decide) (by decide) (by decide) (by decide) (by decide)])
  · rw [omf 11 (by decide) (by decide) (by decide) (by decide) (by decide), omf 13 (by decide) (by decide) (by decide) (by decide) (by decide)]
    obtain ⟨z1, z2⟩ := l4 g h3 h4
    obtain ⟨y1, y2⟩ := h.u0 g h3 h4
    exact ⟨z1.trans y1, fun j hj => (z2 j hj).trans (y2 j hj)⟩
  · rw [omf 13 (by decide) (by decide) (by decide) (by decide) (by decide)]
    obtain ⟨x, x1, x2, -⟩ := l5 (y / 24) (y % 24) (by omega) (by omega)
    rw [show 24 * (y / 24) + y % 24 = y by omega] at x1
    exact ⟨x, x2, x1⟩
  · by_cases e : j = t
    · subst e
      refine ⟨?_, ?_, ?_, ?_, ?_⟩
      · rw [ocf 50 (by decide) (by decide) (by decide) (by decide), k2 50 (by decide) (by decide) (by decide) (by decide)]; exact hT.c50
      · rw [ocf 51 (by decide) (by decide) (by decide) (by decide), k2 51 (by decide) (by decide) (by decide) (by decide), omf 15 (by decide) (by decide) (by decide) (by decide) (by decide), k3 15 (by decide) (by decide) (by decide)]; exact hT.c51
      · rw [c52, m16, k2 52 (by decide) (by decide) (by decide) (by decide), k3 16 (by decide) (by decide) (by decide), hT.c52]
      · rw [ocf 53 (by decide) (by decide) (by decide) (by decide), k2 53 (by decide) (by decide) (by decide) (by decide), omf 17 (by decide) (by decide) (by decide) (by decide) (by decide), k3 17 (by decide) (by decide) (by decide)]; exact hT.c53
      · rw [c54, m18, k2 54 (by decide) (by decide) (by decide) (by decide), k3 18 (by decide) (by decide) (by decide), hT.c54]
    · exact (h.tr j hj).fr (fun f _ _ => by rw [oc f j (by omega) (by omega) (by omega) (by omega), k2 f (by omega) (by omega) (by omega) (by omega)]) (fun f _ _ => by rw [om f j (by omega) (by omega) (by omega) (by omega) (by omega), k3 f (by omega) (by omega) (by omega)])
  · rw [om 16 j (by decide) (by omega) (by omega) (by omega) (by decide), om 17 j (by decide) (by omega) (by omega) (by omega) (by decide), om 18 j (by decide) (by omega) (by omega) (by omega) (by decide), k3 16 (by decide) (by decide) (by decide), k3 17 (by decide) (by decide) (by decide), k3 18 (by decide) (by decide) (by decide)]
    exact h.t0 j h3 h4
  · exact (h.pl q hq).fr (Nat.le_refl _) (fun f _ _ => by rw [ocf f (by omega) (by omega) (by omega) (by omega), k2 f (by omega) (by omega) (by omega) (by omega)]) (by rw [ocf _ (by omega) (by omega) (by omega) (by omega)]; exact l2 _ (by omega) (by omega) (by omega) (by omega)) (by rw [omf 20 (by decide) (by decide) (by decide) (by decide) (by decide), k3 20 (by decide) (by decide) (by decide)]) (by rw [omf 22 (by decide) (by decide) (by decide) (by decide) (by decide), k3 22 (by decide) (by decide) (by decide)]) (fun j hj => by rw [omf 21 (by decide) (by decide) (by decide) (by decide) (by decide), k3 21 (by decide) (by decide) (by decide)]) (fun j hj => by rw [omf 4 (by decide) (by decide) (by decide) (by decide) (by decide), k3 4 (by decide) (by decide) (by decide)])
