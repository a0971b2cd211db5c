/-! THE TWO SIDES: send, watches, pairs -/
theorem send_c {C : gT} {t n : Nat} : ∀ f j, gIt (L_send t) C n f j = if f = 65 ∧ j < n ∧ C 65 j = C 50 t then -1 else C f j := by
  induction n with
  | zero => intro f j; rw [if_neg (fun z => absurd z.2.1 (Nat.not_lt_zero _))]; rfl
  | succ n ih =>
    intro f j
    rw [gIt_s]
    unfold L_send
    have a1 : gIt (L_send t) C n 65 n = C 65 n := (ih 65 n).trans (if_neg (fun z => absurd z.2.1 (Nat.lt_irrefl _)))
    have a2 : gIt (L_send t) C n 50 t = C 50 t := (ih 50 t).trans (if_neg (fun z => absurd z.1 (by decide)))
    unfold L_send at a1 a2 ih
    rw [a1, a2]
    by_cases c : C 65 n = C 50 t
    · rw [if_pos c]
      by_cases e : f = 65 ∧ j = n
      · obtain ⟨rfl, rfl⟩ := e
        rw [tset_s, if_pos ⟨rfl, Nat.lt_succ_self _, c⟩]
      · rw [tset_o e, ih]
        by_cases e2 : f = 65 ∧ j < n ∧ C 65 j = C 50 t
        · rw [if_pos e2, if_pos ⟨e2.1, by omega, e2.2.2⟩]
        · rw [if_neg e2, if_neg (fun z => e2 ⟨z.1, by have := z.2.1; have : ¬ j = n := fun y => e ⟨z.1, y⟩; omega, z.2.2⟩)]
    · rw [if_neg c, ih]
      by_cases e2 : f = 65 ∧ j < n ∧ C 65 j = C 50 t
      · rw [if_pos e2, if_pos ⟨e2.1, by omega, e2.2.2⟩]
      · rw [if_neg e2, if_neg (fun z => e2 ⟨z.1, by have h1 := z.2.1; have h2 : ¬ j = n := fun y => c (by rw [← y]; exact z.2.2); omega, z.2.2⟩)]
theorem send_m {M : gT} {v : Int32} {n : Nat} : ∀ f j, gIt (L_send0 v) M n f j = if f = 22 ∧ j < n ∧ M 22 j = v then -1 else M f j := by
  induction n with
  | zero => intro f j; rw [if_neg (fun z => absurd z.2.1 (Nat.not_lt_zero _))]; rfl
  | succ n ih =>
    intro f j
    rw [gIt_s]
    unfold L_send0
    have a1 : gIt (L_send0 v) M n 22 n = M 22 n := (ih 22 n).trans (if_neg (fun z => absurd z.2.1 (Nat.lt_irrefl _)))
    unfold L_send0 at a1 ih
    rw [a1]
    by_cases c : M 22 n = v
    · rw [if_pos c]
      by_cases e : f = 22 ∧ j = n
      · obtain ⟨rfl, rfl⟩ := e
        rw [tset_s, if_pos ⟨rfl, Nat.lt_succ_self _, c⟩]
      · rw [tset_o e, ih]
        by_cases e2 : f = 22 ∧ j < n ∧ M 22 j = v
        · rw [if_pos e2, if_pos ⟨e2.1, by omega, e2.2.2⟩]
        · rw [if_neg e2, if_neg (fun z => e2 ⟨z.1, by have := z.2.1; have : ¬ j = n := fun y => e ⟨z.1, y⟩; omega, z.2.2⟩)]
    · rw [if_neg c, ih]
      by_cases e2 : f = 22 ∧ j < n ∧ M 22 j = v
      · rw [if_pos e2, if_pos ⟨e2.1, by omega, e2.2.2⟩]
      · rw [if_neg e2, if_neg (fun z => e2 ⟨z.1, by have h1 := z.2.1; have h2 : ¬ j = n := fun y => c (by rw [← y]; exact z.2.2); omega, z.2.2⟩)]
/-- awake or asleep, and how patient -/
def AW (C M : gT) (g : Nat) : Prop := C 42 g = M 12 g ∧ ((C 43 g = 1 ∧ M 11 g = 0 ∧ ∃ p, 1 ≤ p ∧ p ≤ 30 ∧ M 12 g = nI p) ∨ (C 43 g = 0 ∧ M 11 g = 1 ∧ ∃ p, p ≤ 9 ∧ M 12 g = nI p))
theorem AW_s {C M : gT} {j : Nat} (h : AW C M j) : AW (L_watchg j C) (L_X5_watchG j M) j := by
  obtain ⟨h0, h⟩ := h
  have e42 : L_watchg j C 42 j = f_X0_patienceBehindWatch (C 43 j) (C 42 j) := by
    unfold L_watchg s_X0_letWatchGoBy
    rw [tset_of (by decide), tset_s]
  have e43 : L_watchg j C 43 j = f_X0_isAwakeBehindWatch (C 43 j) (f_X0_patienceBehindWatch (C 43 j) (C 42 j)) := tset_s
  have e11 : L_X5_watchG j M 11 j = f_X5_later (M 12 j) (M 11 j) / 100 := (tset_of (by decide)).trans tset_s
  have e12 : L_X5_watchG j M 12 j = f_X5_later (M 12 j) (M 11 j) - f_X5_later (M 12 j) (M 11 j) / 100 * 100 := tset_s
  unfold AW
  rw [e42, e43, e11, e12]
  rcases h with ⟨h1, h2, p, hp1, hp2, hp⟩ | ⟨h1, h2, p, hp2, hp⟩
  · obtain ⟨d1, d2, d3, d4, d5, d6⟩ := w1 p (by omega) hp1
    rw [h0, h1, h2, hp, d2, d3, d4]
    by_cases c : p ≤ 1
    · rw [if_pos c, if_pos c, show p - 1 = 0 by omega]
      exact ⟨by decide, Or.inr ⟨rfl, by decide, 0, by omega, by decide⟩⟩
    · rw [if_neg c, if_neg c, d6, d5]
      exact ⟨rfl, Or.inl ⟨rfl, rfl, p - 1, by omega, by omega, rfl⟩⟩
  · obtain ⟨d1, d2, d3, d4, d5, d6, d7, d8⟩ := w2 p (by omega)
    rw [h0, h1, h2, hp, d2, d3, d4]
    by_cases c : 5 ≤ p
    · rw [if_pos c, if_pos c, d7, d5]
      exact ⟨rfl, Or.inl ⟨rfl, rfl, p + 5, by omega, by omega, rfl⟩⟩
    · rw [if_neg c, if_neg c, d8, d6]
      exact ⟨rfl, Or.inr ⟨rfl, rfl, p + 5, by omega, rfl⟩⟩
/-- what watches leave as it was -/
abbrev WK (n : Nat) (C C' M M' : gT) : Prop :=
  (∀ f, f ≠ 0 → f ≠ 42 → f ≠ 43 → C' f = C f) ∧
  (∀ i, i ≠ 5 → C' 0 i = C 0 i) ∧
  (∀ f, f ≠ 11 → f ≠ 12 → M' f = M f) ∧
  (∀ g, n ≤ g → M' 11 g = M 11 g)
theorem WK.c {n : Nat} {C C' M M' : gT} (h : WK n C C' M M') : ∀ f, f ≠ 0 → f ≠ 42 → f ≠ 43 → C' f = C f := h.1
theorem WK.c0 {n : Nat} {C C' M M' : gT} (h : WK n C C' M M') : ∀ i, i ≠ 5 → C' 0 i = C 0 i := h.2.1
theorem WK.m {n : Nat} {C C' M M' : gT} (h : WK n C C' M M') : ∀ f, f ≠ 11 → f ≠ 12 → M' f = M f := h.2.2.1
theorem WK.m0 {n : Nat} {C C' M M' : gT} (h : WK n C C' M M') : ∀ g, n ≤ g → M' 11 g = M 11 g := h.2.2.2
theorem watchg_all {C M : gT} {n : Nat} (h : ∀ g, g < n → AW C M g) : (∀ g, g < n → AW (gIt L_watchg C n) (gIt L_X5_watchG M n) g) ∧ WK n C (gIt L_watchg C n) M (gIt L_X5_watchG M n) ∧ gIt L_watchg C n 0 = C 0 := by
  have key : ∀ m, m ≤ n → (∀ g, g < n → AW (gIt L_watchg C m) (gIt L_X5_watchG M m) g) ∧ WK n C (gIt L_watchg C m) M (gIt L_X5_watchG M m) ∧ gIt L_watchg C m 0 = C 0 := by
    intro m
    induction m with
    | zero => intro _; exact ⟨h, ⟨fun f _ _ _ => rfl, fun i _ => rfl, fun f _ _ => rfl, fun g _ => rfl⟩, rfl⟩
    | succ m ih =>
      intro hm
      obtain ⟨i1, i2, i3⟩ := ih (by omega)
      rw [gIt_s, gIt_s]
      generalize gIt L_watchg C m = C1 at i1 i2 i3
      generalize gIt L_X5_watchG M m = M1 at i1 i2
      have hc : ∀ f g, ¬ (f = 42 ∧ g = m) → ¬ (f = 43 ∧ g = m) → L_watchg m C1 f g = C1 f g := fun f g a1 a2 => (tset_o a2).trans (tset_o a1)
      have hm' : ∀ f g, ¬ (f = 11 ∧ g = m) → ¬ (f = 12 ∧ g = m) → L_X5_watchG m M1 f g = M1 f g := fun f g a1 a2 => (tset_o a2).trans (tset_o a1)
      refine ⟨fun g hg => ?_, ⟨fun f f0 f1 f2 => ?_, fun i hi => ?_, fun f f1 f2 => ?_, fun g hg => ?_⟩, ?_⟩
      · by_cases e : g = m
        · subst e
          exact AW_s (i1 g hg)
        · have := i1 g hg
          unfold AW at this ⊢
          rw [hc 42 g (by omega) (by omega), hc 43 g (by omega) (by omega), hm' 11 g (by omega) (by omega), hm' 12 g (by omega) (by omega)]
          exact this
      · funext g
        rw [hc f g (by omega) (by omega), i2.c f f0 f1 f2]
      · rw [hc 0 i (by omega) (by omega), i2.c0 i hi]
      · funext g
        rw [hm' f g (by omega) (by omega), i2.m f f1 f2]
      · rw [hm' 11 g (by omega) (by omega), i2.m0 g hg]
      · funext g
        rw [hc 0 g (by omega) (by omega), i3]
  exact key n (Nat.le_refl _)
theorem watch_all {N : gN} {C M : gT} (h : ∀ g, g < N 1 → AW C M g) (n : Nat) : (∀ g, g < N 1 → AW (gIt (L_watch N) C n) (gIt (L_X5_watch N) M n) g) ∧ WK (N 1) C (gIt (L_watch N) C n) M (gIt (L_X5_watch N) M n) ∧ gIt (L_watch N) C n 0 5 = C 0 5 + nI n := by
  induction n with
  | zero => exact ⟨h, ⟨fun f _ _ _ => rfl, fun i _ => rfl, fun f _ _ => rfl, fun g _ => rfl⟩, (Int32.add_zero _).symm⟩
  | succ n ih =>
    obtain ⟨i1, i2, i3⟩ := ih
    rw [gIt_s, gIt_s]
    generalize gIt (L_watch N) C n = C1 at i1 i2 i3
    generalize gIt (L_X5_watch N) M n = M1 at i1 i2
    obtain ⟨j1, j2, j3⟩ := watchg_all i1
    unfold L_watch L_X5_watch
    generalize gIt L_watchg C1 (N 1) = C2 at j1 j2 j3
    generalize gIt L_X5_watchG M1 (N 1) = M2 at j1 j2
    refine ⟨fun g hg => j1 g hg, ⟨fun f f0 f1 f2 => ?_, fun i hi => ?_, fun f f1 f2 => ?_, fun g hg => ?_⟩, ?_⟩
    · rw [tset_f f0, j2.c f f0 f1 f2, i2.c f f0 f1 f2]
    · rw [tset_j hi, j2.c0 i hi, i2.c0 i hi]
    · rw [j2.m f f1 f2, i2.m f f1 f2]
    · rw [j2.m0 g hg, i2.m0 g hg]
    · rw [tset_s, j3, i3, Int32.add_assoc, show (1 : Int32) = nI 1 from rfl, nI_add]
abbrev oA : List (String × Int32) := [(xA, 1)]
section RX
theorem q_watch {k : Nat} {N : gN} {C M : gT} (h : Rel k N C M) (v : Int32) : okR oA (f_X4_watch C N v) (f_X5_watch N M v) (s_X5_watch N M v 0 0) ∧ Rel k N (s_X4_watch C N v) (s_X5_watch N M v) := by
  unfold f_X4_watch f_X5_watch s_X5_watch s_X4_watch
  by_cases c1 : v < 1
  · have c : f_X5_isIn v 1 100 = 0 := isIn_c.mpr (Or.inl c1)
    simp only [if_pos c1, if_pos c]
    exact ⟨List.mem_cons_self, h.th.th⟩
  · by_cases c2 : v ≤ 100
    · have c : ¬ f_X5_isIn v 1 100 = 0 := fun z => (isIn_c.mp z).elim c1 (fun y => absurd c2 (Int32.not_le.mpr y))
      simp only [if_neg c1, if_pos c2, if_neg c]
      obtain ⟨ev, hv⟩ := wt_of c1 c2
      have hh := h.th (v := 0)
      obtain ⟨a1, a2, a3⟩ := watch_all (N := N) (C := C) (M := tset M 0 0 0) (fun g hg => ⟨(hh.gu g hg).c42, (hh.gu g hg).aw⟩) v.toNatClampNeg
      rw [← ev] at a3
      generalize gIt (L_watch N) C v.toNatClampNeg = C1 at a1 a2 a3
      generalize gIt (L_X5_watch N) (tset M 0 0 0) v.toNatClampNeg = M1 at a1 a2
      have em : ∀ f, f ≠ 1 → f ≠ 11 → f ≠ 12 → tset M1 1 0 (M1 1 0 + v) f = (tset M 0 0 0) f := fun f f1 f2 f3 => (tset_f f1).trans (a2.m f f2 f3)
      have key : Rel k N C1 (tset M1 1 0 (M1 1 0 + v)) := by
        refine ⟨h.b, h.nn, h.ir, by rw [em 2 (by decide) (by decide) (by decide)]; exact h.n0, by rw [em 10 (by decide) (by decide) (by decide)]; exact h.n1, by rw [em 14 (by decide) (by decide) (by decide)]; exact h.n2, by rw [em 19 (by decide) (by decide) (by decide)]; exact h.n3, ?_, by rw [a2.c0 4 (by decide)]; exact h.g4b, ?_, by rw [a2.c0 6 (by decide), em 9 (by decide) (by decide) (by decide)]; exact h.g6, ?_, by rw [a2.c0 8 (by decide), em 8 (by decide) (by decide) (by decide)]; exact h.g8,
          fun i hi => (h.sc i hi).fr (fun f _ _ => by rw [a2.c f (by omega) (by omega) (by omega)]) (fun f _ _ => by rw [em f (by omega) (by omega) (by omega)]; exact tset_of (by omega)), ?_, fun g hg => ?_, fun g h1 h2 => ?_, ?_, fun t ht => (h.tr t ht).fr (fun f _ _ => by rw [a2.c f (by omega) (by omega) (by omega)]) (fun f _ _ => by rw [em f (by omega) (by omega) (by omega)]; exact tset_of (by omega)), ?_,
          fun q hq => (h.pl q hq).fr (Nat.le_refl _) (fun f _ _ => by rw [a2.c f (by omega) (by omega) (by omega)]) (a2.c _ (by omega) (by omega) (by omega)) (by rw [em 20 (by omega) (by omega) (by omega)]; rfl) (by rw [em 22 (by omega) (by omega) (by omega)]; rfl) (fun j hj => by rw [em 21 (by omega) (by omega) (by omega)]; rfl) (fun i hi => by rw [em 4 (by omega) (by omega) (by omega)]; rfl)⟩
        · rw [a2.c0 4 (by decide), h.g4]
          exact gIt_congr (fun j a hj => by unfold L_X5_pairs; rw [em 6 (by decide) (by decide) (by decide)]; rfl) _
        · rw [tset_s, a3, h.g5, show M1 1 = (tset M 0 0 0) 1 from a2.m 1 (by decide) (by decide)]
          rfl
        · rw [a2.c0 7 (by decide), h.g7]
          exact gIt_congr (fun j a hj => by unfold L_X5_mean; rw [em 7 (by decide) (by decide) (by decide)]; rfl) _
        · intro i h1 h2
          rw [em 6 (by decide) (by decide) (by decide), em 7 (by decide) (by decide) (by decide)]
          exact h.s0 i h1 h2
        · obtain ⟨b1, b2⟩ := a1 g hg
          have hG := h.gu g hg
          refine ⟨b1, b2, ?_, fun j hj => ?_⟩
          · rw [a2.c 41 (by decide) (by decide) (by decide), hG.c41]
            exact gIt_congr (fun j a hj => by unfold L_X5_guardTold; rw [em 13 (by decide) (by decide) (by decide)]; rfl) _
          · rw [a2.c (100 + g) (by omega) (by omega) (by omega), em 13 (by decide) (by decide) (by decide)]
            exact hG.hd j hj
        · rw [tset_of (by decide), a2.m0 g h1, em 13 (by decide) (by decide) (by decide)]
          exact h.u0 g h1 h2
        · rw [em 13 (by decide) (by decide) (by decide)]
          exact h.hd
        · intro t h1 h2
          rw [em 16 (by decide) (by decide) (by decide), em 17 (by decide) (by decide) (by decide), em 18 (by decide) (by decide) (by decide)]
          exact h.t0 t h1 h2
      refine ⟨⟨r_awake key, ?_⟩, key⟩
      rw [em 0 (by decide) (by decide) (by decide)]
      rfl
    · have c : f_X5_isIn v 1 100 = 0 := isIn_c.mpr (Or.inr (Int32.not_le.mp c2))
      simp only [if_neg c1, if_neg c2, if_pos c]
      exact ⟨List.mem_cons_self, h.th.th⟩
theorem q_send {k : Nat} {N : gN} {C M : gT} (h : Rel k N C M) (v : Int32) : okR oIS (f_X4_send C N v) (f_X5_send N M v) (s_X5_send N M v 0 0) ∧ Rel k N (s_X4_send C N v) (s_X5_send N M v) := by
  unfold f_X4_send f_X5_send s_X5_send s_X4_send
  rw [isT h]
  by_cases h1 : gIn v (N 2)
  · have hb := h.b
    obtain ⟨ev, hi⟩ := gIn_nI (by omega) h1
    have ht := h.tr _ hi
    simp only [if_pos h1, if_neg one0]
    rw [ht.c53]
    by_cases c1 : M 17 v.toNatClampNeg = 0
    · simp only [if_pos c1]
      have ec := send_c (C := tset C 53 v.toNatClampNeg 2) (t := v.toNatClampNeg) (n := N 3)
      have em := send_m (M := tset (tset M 0 0 0) 17 v.toNatClampNeg 2) (v := v) (n := N 3)
      generalize gIt (L_send v.toNatClampNeg) (tset C 53 v.toNatClampNeg 2) (N 3) = C1 at ec
      generalize gIt (L_send0 v) (tset (tset M 0 0 0) 17 v.toNatClampNeg 2) (N 3) = M1 at em
      have fc : ∀ f, f ≠ 65 → C1 f = tset C 53 v.toNatClampNeg 2 f := fun f hf => funext fun j => (ec f j).trans (if_neg (fun z => hf z.1))
      have fm : ∀ f, f ≠ 22 → M1 f = tset (tset M 0 0 0) 17 v.toNatClampNeg 2 f := fun f hf => funext fun j => (em f j).trans (if_neg (fun z => hf z.1))
      refine ⟨⟨?_, ?_⟩, ⟨h.b, h.nn, h.ir, by rw [fm 2 (by decide)]; exact h.n0, by rw [fm 10 (by decide)]; exact h.n1, by rw [fm 14 (by decide)]; exact h.n2, by rw [fm 19 (by decide)]; exact h.n3, ?_, by rw [fc 0 (by decide)]; exact h.g4b, by rw [fc 0 (by decide), fm 1 (by decide)]; exact h.g5, by rw [fc 0 (by decide), fm 9 (by decide)]; exact h.g6, ?_, by rw [fc 0 (by decide), fm 8 (by decide)]; exact h.g8,
        fun i hi => (h.sc i hi).fr (fun f _ _ => by rw [fc f (by omega)]; exact tset_of (by omega)) (fun f _ _ => by rw [fm f (by omega)]; exact (tset_of (by omega)).trans (tset_of (by omega))), ?_,
        fun g hg => (h.gu g hg).fr (fun f _ _ => by rw [fc f (by omega)]; exact tset_of (by omega)) (by rw [fc _ (by omega)]; exact tset_f (by omega)) (by rw [fm 11 (by decide)]; rfl) (by rw [fm 12 (by decide)]; rfl) (fun j hj => by rw [fm 13 (by decide)]; rfl), ?_, ?_, fun t ht' => ?_, fun t h3 h4 => ?_, fun q hq => ?_⟩⟩
      · rw [fc 52 (by decide), fm 16 (by decide)]
        exact ht.c52
      · rw [fm 0 (by decide)]
        rfl
      · rw [fc 0 (by decide)]
        refine h.g4.trans (gIt_congr (fun j a hj => by unfold L_X5_pairs; rw [fm 6 (by decide)]; rfl) _)
      · rw [fc 0 (by decide)]
        refine h.g7.trans (gIt_congr (fun j a hj => by unfold L_X5_mean; rw [fm 7 (by decide)]; rfl) _)
      · rw [fm 6 (by decide), fm 7 (by decide)]
        exact h.s0
      · rw [fm 11 (by decide), fm 13 (by decide)]
        exact h.u0
      · rw [fm 13 (by decide)]
        exact h.hd
      · by_cases e : t = v.toNatClampNeg
        · subst e
          refine ⟨?_, ?_, ?_, ?_, ?_⟩
          · rw [fc 50 (by decide)]; exact ht.c50
          · rw [fc 51 (by decide), fm 15 (by decide)]; exact ht.c51
          · rw [fc 52 (by decide), fm 16 (by decide)]; exact ht.c52
          · rw [fc 53 (by decide), fm 17 (by decide), tset_s, tset_s]
          · rw [fc 54 (by decide), fm 18 (by decide)]; exact ht.c54
        · exact (h.tr t ht').fr (fun f _ _ => by rw [fc f (by omega)]; exact tset_j e) (fun f _ _ => by rw [fm f (by omega)]; exact (tset_j e).trans (tset_of (by omega)))
      · rw [fm 16 (by decide), fm 17 (by decide), fm 18 (by decide)]
        obtain ⟨z1, z2, z3⟩ := h.t0 t h3 h4
        exact ⟨z1, (tset_j (by omega)).trans z2, z3⟩
      · have hp := h.pl q hq
        have hx : C1 65 q = M1 22 q := by
          by_cases c : M 22 q = v
          · exact ((ec 65 q).trans (if_pos ⟨rfl, hq, show C 65 q = C 50 _ from by rw [hp.c65, ht.c50, ← ev]; exact c⟩)).trans ((em 22 q).trans (if_pos ⟨rfl, hq, c⟩)).symm
          · exact ((ec 65 q).trans (if_neg (fun z => c (by have z1 : C 65 q = C 50 _ := z.2.2; rw [hp.c65, ht.c50, ← ev] at z1; exact z1)))).trans (hp.c65.trans ((em 22 q).trans (if_neg (fun z => c z.2.2))).symm)
        have es : szM M1 q = szM M q := by rw [szM, szM, fm 20 (by decide)]; rfl
        have er : ∀ j, rwM M1 q j = rwM M q j := fun j => by rw [rwM, rwM, fm 21 (by decide)]; rfl
        have el : laM M1 q = laM M q := by rw [laM, laM, es, er]
        refine ⟨by rw [fm 20 (by decide), es]; exact hp.sz, by rw [es]; exact hp.s1, by rw [es]; exact hp.s8, fun j hj => ?_, ?_, ?_, ?_, ?_, hx, fun j hj => ?_⟩
        · rw [es] at hj
          rw [fm 21 (by decide), er]
          exact hp.rw_ j hj
        · rw [fc 62 (by decide), fm 20 (by decide)]; exact hp.c62
        · rw [fc 61 (by decide), es]
          refine hp.c61.trans (gIt_congr (fun j a hj => by unfold L_X5_plotTold; rw [er, fm 4 (by decide)]; rfl) _)
        · rw [fc 63 (by decide), el]; exact hp.c63
        · rw [fc 64 (by decide), es]
          refine hp.c64.trans (gIt_congr (fun j a hj => by unfold L_X5_most; rw [fm 21 (by decide)]; rfl) _)
        · rw [es] at hj
          rw [fc (200 + q) (by omega), fm 21 (by decide)]
          exact (congrFun (tset_f (by omega)) j).trans (hp.row j hj)
    · simp only [if_neg c1]
      exact ⟨m2, h.th.th⟩
  · simp only [if_neg h1, if_pos z0]
    exact ⟨List.mem_cons_self, h.th.th⟩
end RX
