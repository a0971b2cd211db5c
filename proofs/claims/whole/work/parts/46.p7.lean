/-! THE TWO SIDES: methods that write -/
theorem RS.fr {C C' M M' : gT} {i : Nat} (h : RS C M i) (hc : ∀ f, 30 ≤ f → f < 36 → C' f i = C f i) (hm : ∀ f, 3 ≤ f → f < 8 → M' f i = M f i) : RS C' M' i :=
  ⟨by rw [hc 30 (by omega) (by omega)]; exact h.c30, by rw [hc 31 (by omega) (by omega), hm 3 (by omega) (by omega)]; exact h.c31, by rw [hc 32 (by omega) (by omega), hm 4 (by omega) (by omega)]; exact h.c32,
   by rw [hc 33 (by omega) (by omega), hm 5 (by omega) (by omega)]; exact h.c33, by rw [hc 34 (by omega) (by omega), hm 6 (by omega) (by omega)]; exact h.c34, by rw [hc 35 (by omega) (by omega), hm 7 (by omega) (by omega)]; exact h.c35,
   by rw [hm 4 (by omega) (by omega)]; exact h.won, by rw [hm 6 (by omega) (by omega)]; exact h.fol⟩
theorem RT.fr {C C' M M' : gT} {t : Nat} (h : RT C M t) (hc : ∀ f, 50 ≤ f → f < 55 → C' f t = C f t) (hm : ∀ f, 15 ≤ f → f < 19 → M' f t = M f t) : RT C' M' t :=
  ⟨by rw [hc 50 (by omega) (by omega)]; exact h.c50, by rw [hc 51 (by omega) (by omega), hm 15 (by omega) (by omega)]; exact h.c51, by rw [hc 52 (by omega) (by omega), hm 16 (by omega) (by omega)]; exact h.c52,
   by rw [hc 53 (by omega) (by omega), hm 17 (by omega) (by omega)]; exact h.c53, by rw [hc 54 (by omega) (by omega), hm 18 (by omega) (by omega)]; exact h.c54⟩
theorem RG.fr {C C' M M' : gT} {g : Nat} (h : RG C M g) (hc : ∀ f, 41 ≤ f → f < 44 → C' f g = C f g) (hr : C' (100 + g) = C (100 + g)) (h11 : M' 11 g = M 11 g) (h12 : M' 12 g = M 12 g) (h13 : ∀ j, j < 24 → M' 13 (24 * g + j) = M 13 (24 * g + j)) : RG C' M' g := by
  refine ⟨?_, ?_, ?_, fun j hj => ?_⟩
  · rw [hc 42 (by omega) (by omega), h12]; exact h.c42
  · rw [hc 43 (by omega) (by omega), h11, h12]; exact h.aw
  · rw [hc 41 (by omega) (by omega), h.c41]
    exact gIt_congr (fun j a hj => by unfold L_X5_guardTold; rw [h13 j hj]) _
  · rw [hr, h13 j hj]; exact h.hd j hj
theorem RP.fr {N N' : gN} {C C' M M' : gT} {q : Nat} (h : RP N C M q) (hN : N 0 ≤ N' 0) (hc : ∀ f, 61 ≤ f → f < 66 → C' f q = C f q) (hr : C' (200 + q) = C (200 + q)) (h20 : M' 20 q = M 20 q) (h22 : M' 22 q = M 22 q) (h21 : ∀ j, j < 8 → M' 21 (8 * q + j) = M 21 (8 * q + j)) (h4 : ∀ i, i < N 0 → M' 4 i = M 4 i) : RP N' C' M' q := by
  have es : szM M' q = szM M q := by rw [szM, szM, h20]
  have s8 := h.s8
  have s1 := h.s1
  have er : ∀ j, j < 8 → rwM M' q j = rwM M q j := fun j hj => by rw [rwM, rwM, h21 j hj]
  have el : laM M' q = laM M q := by rw [laM, laM, es, er _ (by omega)]
  refine ⟨by rw [h20, es]; exact h.sz, by rw [es]; exact s1, by rw [es]; exact s8, fun j hj => ?_, ?_, ?_, ?_, ?_, ?_, fun j hj => ?_⟩
  · rw [es] at hj
    rw [h21 j (by omega), er j (by omega)]
    exact ⟨(h.rw_ j hj).1, Nat.lt_of_lt_of_le (h.rw_ j hj).2 hN⟩
  · rw [hc 62 (by omega) (by omega), h20]; exact h.c62
  · rw [hc 61 (by omega) (by omega), h.c61, es]
    exact gIt_congr (fun j a hj => by unfold L_X5_plotTold; rw [er j (by omega), h4 _ (h.rw_ j hj).2]) _
  · rw [hc 63 (by omega) (by omega), el]; exact h.c63
  · rw [hc 64 (by omega) (by omega), h.c64, es]
    exact gIt_congr (fun j a hj => by unfold L_X5_most; rw [h21 j (by omega)]) _
  · rw [hc 65 (by omega) (by omega), h22]; exact h.c65
  · rw [es] at hj
    rw [hr, h21 j (by omega)]; exact h.row j hj
theorem add_rc (a b c : Int32) : a + b + c = a + c + b := by rw [Int32.add_assoc, Int32.add_comm b c, ← Int32.add_assoc]
theorem one0 : ¬ (1 : Int32) = 0 := by decide
theorem z0 : (0 : Int32) = 0 := rfl
theorem tset_j {C : gT} {f i : Nat} {v : Int32} {f' i' : Nat} (h : i' ≠ i) : tset C f i v f' i' = C f' i' := if_neg (fun z => h z.2)
def sumF (F : Nat → Int32) (n : Nat) : Int32 := gIt (fun j a => a + F j) 0 n
theorem sum_upd {F F' : Nat → Int32} {n i : Nat} {d : Int32} (hi : i < n) (ho : ∀ j, j < n → j ≠ i → F' j = F j) (hd : F' i = F i + d) : sumF F' n = sumF F n + d := by
  unfold sumF
  have key : ∀ m, m ≤ n → gIt (fun j a => a + F' j) 0 m = gIt (fun j a => a + F j) 0 m + (if i < m then d else 0) := by
    intro m
    induction m with
    | zero => intro _; rw [if_neg (Nat.not_lt_zero _), gIt_0, gIt_0, Int32.add_zero]
    | succ m ih =>
      intro hm
      rw [gIt_s, gIt_s, ih (by omega)]
      by_cases h1 : m = i
      · subst h1
        rw [if_neg (by omega), if_pos (by omega), Int32.add_zero]
        show _ + F' m = _ + F m + d
        rw [hd, Int32.add_assoc]
      · rw [ho m (by omega) h1]
        have e : (if i < m + 1 then d else 0) = if i < m then d else 0 := by
          by_cases h2 : i < m
          · rw [if_pos h2, if_pos (by omega)]
          · rw [if_neg h2, if_neg (by omega)]
        rw [e]
        exact add_rc _ _ _
  have h := key n (Nat.le_refl _)
  rw [if_pos hi] at h
  exact h
theorem sum_same {F F' : Nat → Int32} {n : Nat} (ho : ∀ j, j < n → F' j = F j) : sumF F' n = sumF F n := gIt_congr (fun j a hj => by rw [ho j hj]) _
abbrev oIS : List (String × Int32) := [(xI, 1), (xS, 2)]
abbrev oAS : List (String × Int32) := [(xA, 1), (xS, 2)]
abbrev oIAS : List (String × Int32) := [(xI, 1), (xA, 2), (xS, 3)]
theorem m2 {α : Type} {a b : α} : b ∈ [a, b] := List.mem_cons_of_mem _ List.mem_cons_self
section RW
theorem q_reserve {k : Nat} {N : gN} {C M : gT} (h : Rel k N C M) (v w : Int32) : okR oIS (f_X4_reserve C N v w) (f_X5_reserve N M v w) (s_X5_reserve N M v w 0 0) ∧ Rel k N (s_X4_reserve C N v w) (s_X5_reserve N M v w) := by
  unfold f_X4_reserve f_X5_reserve s_X5_reserve s_X4_reserve
  rw [isT h, isP h]
  by_cases h1 : gIn v (N 2)
  · have hb := h.b
    obtain ⟨ev, hi⟩ := gIn_nI (by omega) h1
    simp only [if_pos h1, if_neg one0]
    by_cases h2 : gIn w (N 3)
    · have hq := (gIn_nI (by omega) h2).2
      have ht := h.tr _ hi
      have hp := h.pl _ hq
      simp only [if_pos h2, if_neg one0]
      rw [r_open hp h.sc hb.1, ht.c53, ht.c52, hp.c65, ht.c50, ← ev]
      by_cases c1 : M 17 v.toNatClampNeg = 0
      · simp only [if_pos c1]
        by_cases c2 : M 16 v.toNatClampNeg < 5
        · simp only [if_pos c2]
          exact ⟨m2, h.th.th⟩
        · simp only [if_neg c2]
          by_cases c3 : f_X5_isOpen M w.toNatClampNeg = 0
          · have c3' : f_X5_isOpen (tset M 0 0 0) w.toNatClampNeg = 0 := c3
            simp only [if_pos c3, if_pos c3']
            exact ⟨m2, h.th.th⟩
          · have c3' : ¬ f_X5_isOpen (tset M 0 0 0) w.toNatClampNeg = 0 := c3
            simp only [if_neg c3, if_neg c3']
            by_cases c4 : M 22 w.toNatClampNeg = -1
            · simp only [if_pos c4]
              refine ⟨⟨rfl, rfl⟩, ⟨h.b, h.nn, h.ir, h.n0, h.n1, h.n2, h.n3, h.g4, h.g4b, h.g5, h.g6, h.g7, h.g8, fun i hi => (h.sc i hi).fr (fun f _ _ => (tset_of (by omega)).trans (tset_of (by omega))) (fun f _ _ => (tset_of (by omega)).trans ((tset_of (by omega)).trans (tset_of (by omega)))), h.s0,
                fun g hg => (h.gu g hg).fr (fun f _ _ => (tset_of (by omega)).trans (tset_of (by omega))) ((tset_f (by omega)).trans (tset_f (by omega))) rfl rfl (fun j hj => rfl), h.u0, h.hd, fun t ht' => ?_, fun t h3 h4 => ?_, fun q hq' => ?_⟩⟩
              · by_cases e : t = v.toNatClampNeg
                · subst e
                  exact ⟨(tset_of (by omega)).trans ((tset_of (by omega)).trans ht.c50), ht.c51, ((tset_of (by omega)).trans tset_s).trans tset_s.symm, ht.c53, ht.c54⟩
                · exact (h.tr t ht').fr (fun f _ _ => (tset_of (by omega)).trans (tset_j e)) (fun f _ _ => (tset_j e).trans ((tset_of (by omega)).trans (tset_of (by omega))))
              · obtain ⟨z1, z2, z3⟩ := h.t0 t h3 h4
                exact ⟨(tset_j (by omega)).trans z1, z2, z3⟩
              · by_cases e : q = w.toNatClampNeg
                · subst e
                  exact ⟨hp.sz, hp.s1, hp.s8, hp.rw_, hp.c62, hp.c61, hp.c63, hp.c64, tset_s.trans (tset_s (C := tset M 0 0 0)).symm, fun j hj => (congrFun ((tset_f (by omega)).trans (tset_f (by omega))) j).trans (hp.row j hj)⟩
                · exact (h.pl q hq').fr (Nat.le_refl _) (fun f _ _ => (tset_j e).trans (tset_of (by omega))) ((tset_f (by omega)).trans (tset_f (by omega))) rfl ((tset_of (by omega)).trans (tset_j e)) (fun j hj => rfl) (fun i hi => rfl)
            · simp only [if_neg c4]
              exact ⟨m2, h.th.th⟩
      · simp only [if_neg c1]
        exact ⟨m2, h.th.th⟩
    · simp only [if_neg h2, if_pos z0]
      exact ⟨List.mem_cons_self, h.th.th⟩
  · simp only [if_neg h1, if_pos z0, ite_self]
    exact ⟨List.mem_cons_self, h.th.th⟩
theorem q_pass {k : Nat} {N : gN} {C M : gT} (h : Rel k N C M) (v : Int32) : okR oIS (f_X4_pass C N v) (f_X5_pass N M v) (s_X5_pass N M v 0 0) ∧ Rel k N (s_X4_pass C N v) (s_X5_pass N M v) := by
  unfold f_X4_pass f_X5_pass s_X5_pass s_X4_pass
  rw [isT h, ite_self, ite_self]
  by_cases h1 : gIn v (N 2)
  · have hb := h.b
    obtain ⟨ev, hi⟩ := gIn_nI (by omega) h1
    have ht := h.tr _ hi
    have haw : f_X4_guardsAwake C N = f_X5_awake N (tset M 0 0 0) := r_awake (h.th (v := 0))
    simp only [if_pos h1, if_neg one0]
    rw [ht.c53, ht.c52, haw]
    have key : Rel k N (tset C 53 v.toNatClampNeg 1) (tset (tset M 0 0 0) 17 v.toNatClampNeg 1) := by
      refine ⟨h.b, h.nn, h.ir, h.n0, h.n1, h.n2, h.n3, h.g4, h.g4b, h.g5, h.g6, h.g7, h.g8, fun i hi => (h.sc i hi).fr (fun f _ _ => tset_of (by omega)) (fun f _ _ => (tset_of (by omega)).trans (tset_of (by omega))), h.s0,
                fun g hg => (h.gu g hg).fr (fun f _ _ => tset_of (by omega)) (tset_f (by omega)) rfl rfl (fun j hj => rfl), h.u0, h.hd, fun t ht' => ?_, fun t h3 h4 => ?_, fun q hq' => (h.pl q hq').fr (Nat.le_refl _) (fun f _ _ => tset_of (by omega)) (tset_f (by omega)) rfl rfl (fun j hj => rfl) (fun i hi => rfl)⟩
      · by_cases e : t = v.toNatClampNeg
        · subst e
          exact ⟨ht.c50, ht.c51, ht.c52, tset_s.trans tset_s.symm, ht.c54⟩
        · exact (h.tr t ht').fr (fun f _ _ => tset_j e) (fun f _ _ => (tset_j e).trans (tset_of (by omega)))
      · obtain ⟨z1, z2, z3⟩ := h.t0 t h3 h4
        exact ⟨z1, (tset_j (by omega)).trans z2, z3⟩
    by_cases c1 : M 17 v.toNatClampNeg = 0
    · simp only [if_pos c1]
      by_cases c2 : 15 ≤ M 16 v.toNatClampNeg
      · simp only [if_pos c2]
        exact ⟨⟨rfl, rfl⟩, key⟩
      · simp only [if_neg c2]
        by_cases c3 : f_X5_awake N (tset M 0 0 0) ≤ 0
        · simp only [if_pos c3]
          exact ⟨⟨rfl, rfl⟩, key⟩
        · simp only [if_neg c3]
          exact ⟨⟨rfl, rfl⟩, h.th⟩
    · simp only [if_neg c1]
      exact ⟨m2, h.th.th⟩
  · simp only [if_neg h1, if_pos z0]
    exact ⟨List.mem_cons_self, h.th.th⟩
end RW
