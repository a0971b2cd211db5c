/-! THE TWO SIDES: scenes and pairs -/
theorem or_same {x : Int32} {k : Nat} (hk : k < 32) (h : bitOf x k = true) : x ||| (1 <<< (nI k &&& 31)) = x := by
  refine bit_ext (fun j hj => ?_)
  rw [bit_or, bit_shl hk hj]
  by_cases e : j = k
  · subst e; rw [h]; rfl
  · simp [e]
theorem gIn_eq {v w : Int32} {n : Nat} (hn : n ≤ 1000) (hv : gIn v n) (hw : gIn w n) : nI v.toNatClampNeg = nI w.toNatClampNeg ↔ v = w := by
  have h1 := (gIn_nI hn hv).1
  have h2 := (gIn_nI hn hw).1
  rw [← h1, ← h2]
theorem m23 {α : Type} {a b : α} {l : List α} : b ∈ a :: b :: l := List.mem_cons_of_mem _ List.mem_cons_self
section RF
theorem q_follow {k : Nat} {N : gN} {C M : gT} (h : Rel k N C M) (v w : Int32) : okR oIAS (f_X4_follow C N v w) (f_X5_follow N M v w) (s_X5_follow N M v w 0 0) ∧ Rel k N (s_X4_follow C N v w) (s_X5_follow N M v w) := by
  unfold f_X4_follow f_X5_follow s_X5_follow s_X4_follow
  rw [isS h, isS h]
  have hb := h.b
  by_cases h1 : gIn v (N 0)
  · obtain ⟨ev, hi⟩ := gIn_nI (by omega) h1
    simp only [if_pos h1, if_neg one0]
    by_cases h2 : gIn w (N 0)
    · obtain ⟨ew, hj⟩ := gIn_nI (by omega) h2
      have hs := h.sc _ hi
      have hs2 := h.sc _ hj
      simp only [if_pos h2, if_neg one0]
      rw [hs.c31, hs2.c31, hs.c30, hs2.c30, r_lead h hi hj, ← ew]
      have evw := gIn_eq (by omega) h1 h2
      rw [← ew] at evw
      simp only [evw]
      by_cases c1 : M 3 v.toNatClampNeg = 2
      · simp only [if_pos c1]
        exact ⟨m23, h.th.th⟩
      · simp only [if_neg c1]
        by_cases c2 : M 3 w.toNatClampNeg = 0
        · simp only [if_pos c2]
          exact ⟨m23, h.th.th⟩
        · simp only [if_neg c2]
          by_cases c3 : v = w
          · simp only [if_pos c3]
            exact ⟨m23, h.th.th⟩
          · simp only [if_neg c3]
            have eP : ∀ x : Int32, f_X5_pairs N (tset M 0 0 x) = C 0 4 := fun x => h.g4.symm
            obtain ⟨p, hp, e4⟩ := h.g4b
            obtain ⟨x, hx, e6⟩ := hs.fol
            have ebit : f_X5_has (M 6 v.toNatClampNeg) w = if bitOf (M 6 v.toNatClampNeg) w.toNatClampNeg then 1 else 0 := by
              rw [ew]
              rw [nI_clamp (by omega)]
              exact has_bit (by omega)
            by_cases c4 : f_X5_has (M 6 v.toNatClampNeg) w = 0
            · have hbit : bitOf (M 6 v.toNatClampNeg) w.toNatClampNeg = false := by
                rw [ebit] at c4
                cases hz : bitOf (M 6 v.toNatClampNeg) w.toNatClampNeg
                · rfl
                · rw [hz] at c4; exact absurd c4 one0
              simp only [if_pos c4, eP]
              by_cases c5 : C 0 4 = 60
              · have c6 : ¬ C 0 4 < 60 := by rw [c5]; decide
                simp only [if_pos c5, if_neg c6]
                exact ⟨List.mem_cons_of_mem _ m2, h.th.th⟩
              · have hp60 : p < 60 := by
                  rcases Nat.lt_or_ge p 60 with z | z
                  · exact z
                  · exact absurd (by rw [e4, show p = 60 by omega]; rfl) c5
                have c6 : C 0 4 < 60 := by rw [e4, show (60 : Int32) = nI 60 from rfl, nI_lt_iff (by omega) (by omega)]; exact hp60
                simp only [if_neg c5, if_pos c6]
                have eS : f_X2_asSet C w.toNatClampNeg = 1 <<< (w &&& 31) := by unfold f_X2_asSet; rw [hs2.c30, ← ew]
                rw [hs.c34, eS]
                have hd : f_bitc (M 6 v.toNatClampNeg ||| (1 <<< (w &&& 31))) = f_bitc (M 6 v.toNatClampNeg) + 1 := by
                  have := hbit
                  rw [e6] at this ⊢
                  rw [ew]
                  exact bitc_s hx (by omega) this
                have hsum : gIt (L_X5_pairs (tset (tset M 0 0 0) 6 v.toNatClampNeg (M 6 v.toNatClampNeg ||| (1 <<< (w &&& 31))))) 0 (N 0) = gIt (L_X5_pairs M) 0 (N 0) + 1 := by
                  refine sum_upd (F := fun j => f_bitc (M 6 j)) (F' := fun j => f_bitc (tset (tset M 0 0 0) 6 v.toNatClampNeg (M 6 v.toNatClampNeg ||| (1 <<< (w &&& 31))) 6 j)) hi (fun j hj hne => ?_) ?_
                  · show f_bitc _ = f_bitc _
                    rw [tset_j hne]
                    rfl
                  · show f_bitc (tset _ 6 _ _ 6 _) = _
                    rw [tset_s, hd]
                refine ⟨⟨?_, rfl⟩, ⟨h.b, h.nn, h.ir, h.n0, h.n1, h.n2, h.n3, ?_, ⟨p + 1, by omega, by rw [tset_s, e4, nI_succ]⟩, h.g5, h.g6, h.g7, h.g8, fun i hi' => ?_, fun i h3 h4 => ?_,
                  fun g hg => (h.gu g hg).fr (fun f _ _ => (tset_of (by omega)).trans (tset_of (by omega))) ((tset_f (by omega)).trans (tset_f (by omega))) rfl rfl (fun j hj => rfl), h.u0, h.hd,
                  fun t ht => (h.tr t ht).fr (fun f _ _ => (tset_of (by omega)).trans (tset_of (by omega))) (fun f _ _ => (tset_of (by omega)).trans (tset_of (by omega))), h.t0,
                  fun q hq => (h.pl q hq).fr (Nat.le_refl _) (fun f _ _ => (tset_of (by omega)).trans (tset_of (by omega))) ((tset_f (by omega)).trans (tset_f (by omega))) rfl rfl (fun j hj => rfl) (fun i hi => rfl)⟩⟩
                · show C 0 4 + 1 = _
                  rw [h.g4]
                  exact hsum.symm
                · rw [tset_s, h.g4]
                  exact hsum.symm
                · by_cases e : i = v.toNatClampNeg
                  · subst e
                    refine ⟨hs.c30, hs.c31, hs.c32, hs.c33, ?_, hs.c35, hs.won, ?_⟩
                    · rw [tset_of (by omega), tset_s, tset_s]
                    · rw [tset_s, e6, ew]
                      exact or_set hx (by omega)
                  · exact (h.sc i hi').fr (fun f _ _ => (tset_of (by omega)).trans (tset_j e)) (fun f _ _ => (tset_j e).trans (tset_of (by omega)))
                · obtain ⟨y1, y2⟩ := h.s0 i h3 h4
                  exact ⟨(tset_j (by omega)).trans y1, y2⟩
            · have hbit : bitOf (M 6 v.toNatClampNeg) w.toNatClampNeg = true := by
                rw [ebit] at c4
                cases hz : bitOf (M 6 v.toNatClampNeg) w.toNatClampNeg
                · rw [hz] at c4; exact absurd rfl c4
                · rfl
              simp only [if_neg c4]
              have eo : M 6 v.toNatClampNeg ||| (1 <<< (w &&& 31)) = M 6 v.toNatClampNeg := by
                rw [ew]
                exact or_same (by omega) hbit
              rw [eo]
              have et : tset (tset M 0 0 0) 6 v.toNatClampNeg (M 6 v.toNatClampNeg) = tset M 0 0 0 := by
                funext f j
                by_cases e : f = 6 ∧ j = v.toNatClampNeg
                · rw [e.1, e.2, tset_s]; rfl
                · rw [tset_o e]
              rw [et]
              exact ⟨⟨(eP 0).symm, rfl⟩, h.th⟩
    · simp only [if_neg h2, if_pos z0]
      exact ⟨List.mem_cons_self, h.th.th⟩
  · simp only [if_neg h1, if_pos z0, ite_self]
    exact ⟨List.mem_cons_self, h.th.th⟩
end RF
