/-! THE TWO SIDES: what reads -/
theorem r_scene {C M : gT} {i : Nat} (h : RS C M i) (w : Int32) : f_X2_answer C i w = f_X5_sceneTold M i w := by
  unfold f_X2_answer f_X5_sceneTold
  rw [h.c31, h.c32, h.c33, h.c34, h.c35]
theorem aw_1 {C M : gT} {g : Nat} (h : RG C M g) : (if C 43 g = 0 then (0 : Int32) else 1) = 1 - M 11 g ∧ (C 43 g = 0 ↔ ¬ M 11 g = 0) ∧ (C 43 g = 0 ↔ M 11 g = 1) := by
  rcases h.aw with ⟨h1, h2, -⟩ | ⟨h1, h2, -⟩ <;> rw [h1, h2] <;> decide
theorem r_guard {C M : gT} {g : Nat} (h : RG C M g) (w : Int32) : f_X0_answer C g w = f_X5_guardTold M g w := by
  unfold f_X0_answer f_X5_guardTold
  rw [(aw_1 h).1, h.c42, h.c41]
theorem r_open {N : gN} {C M : gT} {q : Nat} (hp : RP N C M q) (hs : ∀ i, i < N 0 → RS C M i) (hb : N 0 ≤ 24) : f_X1_isOpen C q = f_X5_isOpen M q := by
  unfold f_X1_isOpen f_X5_isOpen
  have := laM_lt hp
  rw [hp.c63, nI_clamp (by omega), (hs _ this).c31]
theorem r_plot {N : gN} {C M : gT} {q : Nat} (hp : RP N C M q) (hs : ∀ i, i < N 0 → RS C M i) (hb : N 0 ≤ 24) (w : Int32) : f_X1_answer C q w = f_X5_plotTold M q w := by
  unfold f_X1_answer f_X5_plotTold
  rw [r_open hp hs hb, hp.c62, hp.c65, hp.c61]
theorem r_num {N : gN} {C M : gT} {q j : Nat} (hp : RP N C M q) (hj : j < szM M q) : f_X1_numberAt C q (nI j) = M 21 (8 * q + j) := by
  have h8 := hp.s8
  unfold f_X1_numberAt
  rw [if_neg (nI_pos (by omega)), if_neg (show ¬ (8 : Int32) ≤ nI j from nI_ge (a := j) (b := 8) (by omega) (by omega)), nI_clamp (by omega), hp.row j hj]
section RR
theorem r_heard {k : Nat} {N : gN} {C M : gT} (h : Rel k N C M) {g i : Nat} (hg : g < N 1) (hi : i < 24) : f_X0_timesHeard C g (nI i) = M 13 (24 * g + i) := by
  unfold f_X0_timesHeard
  rw [if_neg (nI_pos (by omega)), if_neg (show ¬ (24 : Int32) ≤ nI i from nI_ge (a := i) (b := 24) hi (by omega)), nI_clamp (by omega), (h.gu g hg).hd i hi]
theorem r_worth {k : Nat} {N : gN} {C M : gT} (h : Rel k N C M) (hk : k < 1000) {g i : Nat} (hg : g < N 1) (hi : i < N 0) : f_X0_worthOf C g i (C 0 8) = f_X5_worthOf M g i := by
  have hb := h.b
  have hs := h.sc i hi
  obtain ⟨x, hx, h13⟩ := h.hd (24 * g + i) (by omega)
  unfold f_X0_worthOf f_X5_worthOf
  rw [hs.c30, r_heard h hg (by omega), hs.c32, hs.c33, h.g8, h13]
  rw [if_neg (show ¬ (1 : Int32) + nI x ≤ 0 from by
    rw [show (1 : Int32) = nI 1 from rfl, nI_add, show (0 : Int32) = nI 0 from rfl, nI_le_iff (by omega) (by omega)]
    omega), Int32.add_zero]
theorem r_toll {k : Nat} {N : gN} {C M : gT} (h : Rel k N C M) (hk : k < 1000) {i : Nat} (hi : i < N 0) : f_X4_tollOf C N i = f_X5_toll N M i := by
  unfold f_X4_tollOf f_X5_toll
  refine gIt_congr (fun j a hj => ?_) 0
  unfold L_tollOf L_X5_toll
  rw [r_worth h hk hj hi]
  have ha := (aw_1 (h.gu j hj)).2.1
  by_cases z : M 11 j = 0
  · rw [if_neg (fun y => absurd z (ha.mp y)), if_pos z]
  · rw [if_pos (ha.mpr z), if_neg z]
theorem r_awake {k : Nat} {N : gN} {C M : gT} (h : Rel k N C M) : f_X4_guardsAwake C N = f_X5_awake N M := by
  unfold f_X4_guardsAwake f_X5_awake
  refine gIt_congr (fun j a hj => ?_) 0
  unfold L_guardsAwake L_X5_awake
  rcases (h.gu j hj).aw with ⟨h1, h2, -⟩ | ⟨h1, h2, -⟩
  · rw [h1, h2, if_neg (by decide)]
    rfl
  · rw [h1, h2, if_pos rfl, show (1 : Int32) - 1 = 0 from rfl, Int32.add_zero]
theorem r_ends {k : Nat} {N : gN} {C M : gT} (h : Rel k N C M) {t : Nat} (ht : t < N 2) : f_X4_endingsReservedBy C N (C 50 t) = gIt (L_X5_tvt M t) 0 (N 3) := by
  unfold f_X4_endingsReservedBy
  refine gIt_congr (fun j a hj => ?_) 0
  unfold L_endRes L_X5_tvt
  rw [(h.pl j hj).c65, (h.tr t ht).c50, Int32.add_zero]
theorem r_trav {k : Nat} {N : gN} {C M : gT} (h : Rel k N C M) {t j : Nat} (ht : t < N 2) (hj : j < 5) : f_X4_answerOfTraveller C N t (nI j) = f_X5_travellerTold N M t j := by
  have hT := h.tr t ht
  unfold f_X4_answerOfTraveller f_X5_travellerTold
  rw [r_ends h ht, hT.c51, hT.c52, hT.c53, hT.c54]
  match j, hj with
  | 0, _ => rfl
  | 1, _ => rfl
  | 2, _ => rfl
  | 3, _ => rfl
  | 4, _ => rfl
theorem r_on {k : Nat} {N : gN} {C M : gT} (h : Rel k N C M) : gIt (L_X5_ct1 M) (0, 0) (N 2) = (f_X4_travellersInState C N 0, f_X4_travellersInState C N 1) := by
  unfold f_X4_travellersInState
  have key : ∀ n, n ≤ N 2 → gIt (L_X5_ct1 M) (0, 0) n = (gIt (L_travIn C 0) 0 n, gIt (L_travIn C 1) 0 n) := by
    intro n
    induction n with
    | zero => intro _; rfl
    | succ n ih =>
      intro hn
      rw [gIt_s, gIt_s, gIt_s, ih (by omega)]
      unfold L_X5_ct1 L_travIn
      rw [(h.tr n (by omega)).c53]
      generalize gIt (L_travIn C 0) 0 n = a
      generalize gIt (L_travIn C 1) 0 n = b
      by_cases h0 : M 17 n = 0
      · rw [if_pos h0, if_pos h0, if_neg (by rw [h0]; decide), if_neg (by rw [h0]; decide), Int32.add_zero]
      · rw [if_neg h0, if_neg h0]
        by_cases h1 : M 17 n = 1
        · rw [if_pos h1, if_pos h1, Int32.add_zero]
        · rw [if_neg h1, if_neg h1, Int32.add_zero, Int32.add_zero]
  exact key _ (Nat.le_refl _)
theorem r_opens {k : Nat} {N : gN} {C M : gT} (h : Rel k N C M) : f_X4_openPlots C N = gIt (L_X5_ct2 M) 0 (N 3) := by
  unfold f_X4_openPlots
  refine gIt_congr (fun j a hj => ?_) 0
  unfold L_openPlots L_X5_ct2
  rw [r_open (h.pl j hj) h.sc h.b.1, Int32.add_zero]
theorem r_gate {k : Nat} {N : gN} {C M : gT} (h : Rel k N C M) {j : Nat} (hj : j < 11) : f_X4_answerOfGate C N (nI j) = f_X5_counted N M j := by
  unfold f_X4_answerOfGate f_X5_counted f_X5_pairs
  rw [r_on h, ← r_awake h, ← r_opens h, h.n0, h.n1, h.n2, h.n3, ← h.g4, h.g5, h.g6]
  match j, hj with
  | 0, _ => rfl
  | 1, _ => rfl
  | 2, _ => rfl
  | 3, _ => rfl
  | 4, _ => rfl
  | 5, _ => rfl
  | 6, _ => rfl
  | 7, _ => rfl
  | 8, _ => rfl
  | 9, _ => rfl
  | 10, _ => rfl
theorem r_knows {k : Nat} {N : gN} {C M : gT} (h : Rel k N C M) {t i : Nat} (ht : t < N 2) (hi : i < N 0) : f_X3_knows C t i = f_X5_has (M 15 t) (nI i) := by
  have hb := h.b
  unfold f_X3_knows f_X2_asSet
  rw [(h.sc i hi).c30, (h.tr t ht).c51, set_bit (by omega), has_bit (by omega)]
theorem r_lead {k : Nat} {N : gN} {C M : gT} (h : Rel k N C M) {a i : Nat} (ha : a < N 0) (hi : i < N 0) : f_X2_canLeadTo C a i = f_X5_has (M 6 a) (nI i) := by
  have hb := h.b
  unfold f_X2_canLeadTo f_X2_asSet
  rw [(h.sc i hi).c30, (h.sc a ha).c34, set_bit (by omega), has_bit (by omega)]
theorem r_go {k : Nat} {N : gN} {C M : gT} (h : Rel k N C M) {t i q : Nat} (ht : t < N 2) (hi : i < N 0) (hq : q < N 3) : (if f_X1_canGoOnWith C q i (C 50 t) = 0 then (0 : Int32) else 1) = (if (f_X5_isOpen M q) = 0 then 0 else (if (M 20 q) = 8 then 0 else (if (f_X5_has (M 6 (laM M q)) (nI i)) = 0 then 0 else (if (M 3 i) = 2 then (if (M 22 q) = (-1) then 1 else (if (M 22 q) = (nI t) then 1 else 0)) else 1)))) := by
  have hb := h.b
  have hp := h.pl q hq
  have hl := laM_lt hp
  have h8 := hp.s8
  unfold f_X1_canGoOnWith
  rw [r_open hp h.sc hb.1, hp.c63, nI_clamp (by omega), r_lead h hl hi, hp.c62, (h.sc i hi).c31, hp.c65, (h.tr t ht).c50]
  have e : (8 : Int32) ≤ M 20 q ↔ M 20 q = 8 := by
    rw [hp.sz, show (8 : Int32) = nI 8 from rfl, nI_le_iff (by omega) (by omega)]
    exact ⟨fun z => by rw [show szM M q = 8 by omega], fun z => by have := nI_inj (by omega) (by omega) z; omega⟩
  simp only [e]
  repeat' split
  all_goals first | rfl | contradiction | (rename_i z; exact absurd rfl z) | (rename_i z; exact absurd z (by decide))
theorem r_can {k : Nat} {N : gN} {C M : gT} (h : Rel k N C M) {t i q : Nat} (ht : t < N 2) (hi : i < N 0) (hq : q < N 3) : f_X4_canTell C N t i q = f_X5_can M t i q := by
  unfold f_X4_canTell f_X5_can
  rw [r_go h ht hi hq, (h.tr t ht).c53, r_knows h ht hi, (h.sc i hi).c31, h.n3]
theorem r_canN {k : Nat} {N : gN} {C M : gT} (h : Rel k N C M) {t i q : Nat} (ht : t < N 2) (hi : i < N 0) (h0 : M 3 i = 0) : f_X4_canTellN C N t i = f_X5_can M t i q := by
  unfold f_X4_canTellN f_X5_can
  rw [(h.tr t ht).c53, r_knows h ht hi, (h.sc i hi).c31, h.n3, if_pos h0]
  simp only [if_pos h0]
theorem r_mean {k : Nat} {N : gN} {C M : gT} (h : Rel k N C M) : f_X4_mean C = f_X5_mean N M := by
  unfold f_X4_mean f_X5_mean
  rw [h.g7, h.g6]
theorem r_dig {k : Nat} {N : gN} {C M : gT} (h : Rel k N C M) : f_X4_digest C N = f_X5_digest N M := by
  have hb := h.b
  have hh := h.th (v := 0)
  unfold f_X4_digest f_X5_digest
  have e0 : gIt (L_cd0 C N) 839 11 = gIt (L_dg0 N (tset M 0 0 0)) 839 11 := gIt_congr (fun j a hj => by unfold L_cd0 L_dg0; rw [r_gate hh hj]) _
  rw [e0]
  generalize gIt (L_dg0 N (tset M 0 0 0)) 839 11 = x0
  have e1 : gIt (L_cd1 C) x0 (N 0) = gIt (L_dg1 (tset M 0 0 0)) x0 (N 0) := gIt_congr (fun j a hj => by
    unfold L_cd1 L_dg1
    exact gIt_congr (fun i a hi => by unfold L_cd1w L_dg1w; rw [r_scene (hh.sc j hj)]) _) _
  rw [e1]
  generalize gIt (L_dg1 (tset M 0 0 0)) x0 (N 0) = x1
  have e2 : gIt (L_cd2 C) x1 (N 1) = gIt (L_dg2 (tset M 0 0 0)) x1 (N 1) := gIt_congr (fun j a hj => by
    unfold L_cd2 L_dg2
    exact gIt_congr (fun i a hi => by unfold L_cd2w L_dg2w; rw [r_guard (hh.gu j hj)]) _) _
  rw [e2]
  generalize gIt (L_dg2 (tset M 0 0 0)) x1 (N 1) = x2
  have e3 : gIt (L_cd3 C N) x2 (N 2) = gIt (L_dg3 N (tset M 0 0 0)) x2 (N 2) := gIt_congr (fun j a hj => by
    unfold L_cd3 L_dg3
    exact gIt_congr (fun i a hi => by unfold L_cd3w L_dg3w; rw [r_trav hh hj hi]) _) _
  rw [e3]
  generalize gIt (L_dg3 N (tset M 0 0 0)) x2 (N 2) = x3
  exact gIt_congr (fun j a hj => by
    have hp := hh.pl j hj
    unfold L_cd4 L_dg4 f_X1_addedTo
    rw [szC_M hp]
    have e4 : gIt (L_X1_ad0 C j) a 4 = gIt (L_dg4w (tset M 0 0 0) j) a 4 := gIt_congr (fun i a hi => by unfold L_X1_ad0 L_dg4w; rw [r_plot hp hh.sc hb.1]) _
    rw [e4]
    exact gIt_congr (fun i a hi => by unfold L_X1_ad1 L_dg4r; rw [r_num hp hi]) _) _
end RR
