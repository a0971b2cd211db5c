/-! THE TWO SIDES: what holds between the class's numbers and the reference's behind k calls -/
abbrev RP (N : gN) (C M : gT) (q : Nat) : Prop :=
  (M 20 q = nI (szM M q)) ∧
  (1 ≤ szM M q) ∧
  (szM M q ≤ 8) ∧
  (∀ j, j < szM M q → M 21 (8 * q + j) = nI (rwM M q j) ∧ rwM M q j < N 0) ∧
  (C 62 q = M 20 q) ∧
  (C 61 q = gIt (L_X5_plotTold M q) 0 (szM M q)) ∧
  (C 63 q = nI (laM M q)) ∧
  (C 64 q = gIt (L_X5_most M q) 0 (szM M q)) ∧
  (C 65 q = M 22 q) ∧
  (∀ j, j < szM M q → C (200 + q) j = M 21 (8 * q + j))
theorem RP.sz {N : gN} {C M : gT} {q : Nat} (h : RP N C M q) : M 20 q = nI (szM M q) := h.1
theorem RP.s1 {N : gN} {C M : gT} {q : Nat} (h : RP N C M q) : 1 ≤ szM M q := h.2.1
theorem RP.s8 {N : gN} {C M : gT} {q : Nat} (h : RP N C M q) : szM M q ≤ 8 := h.2.2.1
theorem RP.rw_ {N : gN} {C M : gT} {q : Nat} (h : RP N C M q) : ∀ j, j < szM M q → M 21 (8 * q + j) = nI (rwM M q j) ∧ rwM M q j < N 0 := h.2.2.2.1
theorem RP.c62 {N : gN} {C M : gT} {q : Nat} (h : RP N C M q) : C 62 q = M 20 q := h.2.2.2.2.1
theorem RP.c61 {N : gN} {C M : gT} {q : Nat} (h : RP N C M q) : C 61 q = gIt (L_X5_plotTold M q) 0 (szM M q) := h.2.2.2.2.2.1
theorem RP.c63 {N : gN} {C M : gT} {q : Nat} (h : RP N C M q) : C 63 q = nI (laM M q) := h.2.2.2.2.2.2.1
theorem RP.c64 {N : gN} {C M : gT} {q : Nat} (h : RP N C M q) : C 64 q = gIt (L_X5_most M q) 0 (szM M q) := h.2.2.2.2.2.2.2.1
theorem RP.c65 {N : gN} {C M : gT} {q : Nat} (h : RP N C M q) : C 65 q = M 22 q := h.2.2.2.2.2.2.2.2.1
theorem RP.row {N : gN} {C M : gT} {q : Nat} (h : RP N C M q) : ∀ j, j < szM M q → C (200 + q) j = M 21 (8 * q + j) := h.2.2.2.2.2.2.2.2.2
abbrev RG (C M : gT) (g : Nat) : Prop :=
  (C 42 g = M 12 g) ∧
  ((C 43 g = 1 ∧ M 11 g = 0 ∧ ∃ p, 1 ≤ p ∧ p ≤ 30 ∧ M 12 g = nI p) ∨ (C 43 g = 0 ∧ M 11 g = 1 ∧ ∃ p, p ≤ 9 ∧ M 12 g = nI p)) ∧
  (C 41 g = gIt (L_X5_guardTold M g) 0 24) ∧
  (∀ j, j < 24 → C (100 + g) j = M 13 (24 * g + j))
theorem RG.c42 {C M : gT} {g : Nat} (h : RG C M g) : C 42 g = M 12 g := h.1
theorem RG.aw {C M : gT} {g : Nat} (h : RG C M g) : (C 43 g = 1 ∧ M 11 g = 0 ∧ ∃ p, 1 ≤ p ∧ p ≤ 30 ∧ M 12 g = nI p) ∨ (C 43 g = 0 ∧ M 11 g = 1 ∧ ∃ p, p ≤ 9 ∧ M 12 g = nI p) := h.2.1
theorem RG.c41 {C M : gT} {g : Nat} (h : RG C M g) : C 41 g = gIt (L_X5_guardTold M g) 0 24 := h.2.2.1
theorem RG.hd {C M : gT} {g : Nat} (h : RG C M g) : ∀ j, j < 24 → C (100 + g) j = M 13 (24 * g + j) := h.2.2.2
abbrev RS (C M : gT) (i : Nat) : Prop :=
  (C 30 i = nI i) ∧
  (C 31 i = M 3 i) ∧
  (C 32 i = M 4 i) ∧
  (C 33 i = M 5 i) ∧
  (C 34 i = M 6 i) ∧
  (C 35 i = M 7 i) ∧
  (∃ w, 1 ≤ w ∧ w ≤ 20 ∧ M 4 i = nI w) ∧
  (∃ x, x < 2 ^ 24 ∧ M 6 i = nI x)
theorem RS.c30 {C M : gT} {i : Nat} (h : RS C M i) : C 30 i = nI i := h.1
theorem RS.c31 {C M : gT} {i : Nat} (h : RS C M i) : C 31 i = M 3 i := h.2.1
theorem RS.c32 {C M : gT} {i : Nat} (h : RS C M i) : C 32 i = M 4 i := h.2.2.1
theorem RS.c33 {C M : gT} {i : Nat} (h : RS C M i) : C 33 i = M 5 i := h.2.2.2.1
theorem RS.c34 {C M : gT} {i : Nat} (h : RS C M i) : C 34 i = M 6 i := h.2.2.2.2.1
theorem RS.c35 {C M : gT} {i : Nat} (h : RS C M i) : C 35 i = M 7 i := h.2.2.2.2.2.1
theorem RS.won {C M : gT} {i : Nat} (h : RS C M i) : ∃ w, 1 ≤ w ∧ w ≤ 20 ∧ M 4 i = nI w := h.2.2.2.2.2.2.1
theorem RS.fol {C M : gT} {i : Nat} (h : RS C M i) : ∃ x, x < 2 ^ 24 ∧ M 6 i = nI x := h.2.2.2.2.2.2.2
abbrev RT (C M : gT) (t : Nat) : Prop :=
  (C 50 t = nI t) ∧
  (C 51 t = M 15 t) ∧
  (C 52 t = M 16 t) ∧
  (C 53 t = M 17 t) ∧
  (C 54 t = M 18 t)
theorem RT.c50 {C M : gT} {t : Nat} (h : RT C M t) : C 50 t = nI t := h.1
theorem RT.c51 {C M : gT} {t : Nat} (h : RT C M t) : C 51 t = M 15 t := h.2.1
theorem RT.c52 {C M : gT} {t : Nat} (h : RT C M t) : C 52 t = M 16 t := h.2.2.1
theorem RT.c53 {C M : gT} {t : Nat} (h : RT C M t) : C 53 t = M 17 t := h.2.2.2.1
theorem RT.c54 {C M : gT} {t : Nat} (h : RT C M t) : C 54 t = M 18 t := h.2.2.2.2
abbrev Rel (k : Nat) (N : gN) (C M : gT) : Prop :=
  (N 0 ≤ 24 ∧ N 1 ≤ 4 ∧ N 2 ≤ 12 ∧ N 3 ≤ 8) ∧
  (gNN N) ∧
  (IR N) ∧
  (M 2 0 = nI (N 0)) ∧
  (M 10 0 = nI (N 1)) ∧
  (M 14 0 = nI (N 2)) ∧
  (M 19 0 = nI (N 3)) ∧
  (C 0 4 = gIt (L_X5_pairs M) 0 (N 0)) ∧
  (∃ p, p ≤ 60 ∧ C 0 4 = nI p) ∧
  (C 0 5 = M 1 0) ∧
  (C 0 6 = M 9 0) ∧
  (C 0 7 = gIt (L_X5_mean M) 0 (N 0)) ∧
  (C 0 8 = M 8 0) ∧
  (∀ i, i < N 0 → RS C M i) ∧
  (∀ i, N 0 ≤ i → i < 24 → M 6 i = 0 ∧ M 7 i = 0) ∧
  (∀ g, g < N 1 → RG C M g) ∧
  (∀ g, N 1 ≤ g → g < 4 → M 11 g = 0 ∧ ∀ j, j < 24 → M 13 (24 * g + j) = 0) ∧
  (∀ x, x < 96 → ∃ h, h ≤ k ∧ M 13 x = nI h) ∧
  (∀ t, t < N 2 → RT C M t) ∧
  (∀ t, N 2 ≤ t → t < 12 → M 16 t = 0 ∧ M 17 t = 0 ∧ M 18 t = 0) ∧
  (∀ q, q < N 3 → RP N C M q)
theorem Rel.b {k : Nat} {N : gN} {C M : gT} (h : Rel k N C M) : N 0 ≤ 24 ∧ N 1 ≤ 4 ∧ N 2 ≤ 12 ∧ N 3 ≤ 8 := h.1
theorem Rel.nn {k : Nat} {N : gN} {C M : gT} (h : Rel k N C M) : gNN N := h.2.1
theorem Rel.ir {k : Nat} {N : gN} {C M : gT} (h : Rel k N C M) : IR N := h.2.2.1
theorem Rel.n0 {k : Nat} {N : gN} {C M : gT} (h : Rel k N C M) : M 2 0 = nI (N 0) := h.2.2.2.1
theorem Rel.n1 {k : Nat} {N : gN} {C M : gT} (h : Rel k N C M) : M 10 0 = nI (N 1) := h.2.2.2.2.1
theorem Rel.n2 {k : Nat} {N : gN} {C M : gT} (h : Rel k N C M) : M 14 0 = nI (N 2) := h.2.2.2.2.2.1
theorem Rel.n3 {k : Nat} {N : gN} {C M : gT} (h : Rel k N C M) : M 19 0 = nI (N 3) := h.2.2.2.2.2.2.1
theorem Rel.g4 {k : Nat} {N : gN} {C M : gT} (h : Rel k N C M) : C 0 4 = gIt (L_X5_pairs M) 0 (N 0) := h.2.2.2.2.2.2.2.1
theorem Rel.g4b {k : Nat} {N : gN} {C M : gT} (h : Rel k N C M) : ∃ p, p ≤ 60 ∧ C 0 4 = nI p := h.2.2.2.2.2.2.2.2.1
theorem Rel.g5 {k : Nat} {N : gN} {C M : gT} (h : Rel k N C M) : C 0 5 = M 1 0 := h.2.2.2.2.2.2.2.2.2.1
theorem Rel.g6 {k : Nat} {N : gN} {C M : gT} (h : Rel k N C M) : C 0 6 = M 9 0 := h.2.2.2.2.2.2.2.2.2.2.1
theorem Rel.g7 {k : Nat} {N : gN} {C M : gT} (h : Rel k N C M) : C 0 7 = gIt (L_X5_mean M) 0 (N 0) := h.2.2.2.2.2.2.2.2.2.2.2.1
theorem Rel.g8 {k : Nat} {N : gN} {C M : gT} (h : Rel k N C M) : C 0 8 = M 8 0 := h.2.2.2.2.2.2.2.2.2.2.2.2.1
theorem Rel.sc {k : Nat} {N : gN} {C M : gT} (h : Rel k N C M) : ∀ i, i < N 0 → RS C M i := h.2.2.2.2.2.2.2.2.2.2.2.2.2.1
theorem Rel.s0 {k : Nat} {N : gN} {C M : gT} (h : Rel k N C M) : ∀ i, N 0 ≤ i → i < 24 → M 6 i = 0 ∧ M 7 i = 0 := h.2.2.2.2.2.2.2.2.2.2.2.2.2.2.1
theorem Rel.gu {k : Nat} {N : gN} {C M : gT} (h : Rel k N C M) : ∀ g, g < N 1 → RG C M g := h.2.2.2.2.2.2.2.2.2.2.2.2.2.2.2.1
theorem Rel.u0 {k : Nat} {N : gN} {C M : gT} (h : Rel k N C M) : ∀ g, N 1 ≤ g → g < 4 → M 11 g = 0 ∧ ∀ j, j < 24 → M 13 (24 * g + j) = 0 := h.2.2.2.2.2.2.2.2.2.2.2.2.2.2.2.2.1
theorem Rel.hd {k : Nat} {N : gN} {C M : gT} (h : Rel k N C M) : ∀ x, x < 96 → ∃ h, h ≤ k ∧ M 13 x = nI h := h.2.2.2.2.2.2.2.2.2.2.2.2.2.2.2.2.2.1
theorem Rel.tr {k : Nat} {N : gN} {C M : gT} (h : Rel k N C M) : ∀ t, t < N 2 → RT C M t := h.2.2.2.2.2.2.2.2.2.2.2.2.2.2.2.2.2.2.1
theorem Rel.t0 {k : Nat} {N : gN} {C M : gT} (h : Rel k N C M) : ∀ t, N 2 ≤ t → t < 12 → M 16 t = 0 ∧ M 17 t = 0 ∧ M 18 t = 0 := h.2.2.2.2.2.2.2.2.2.2.2.2.2.2.2.2.2.2.2.1
theorem Rel.pl {k : Nat} {N : gN} {C M : gT} (h : Rel k N C M) : ∀ q, q < N 3 → RP N C M q := h.2.2.2.2.2.2.2.2.2.2.2.2.2.2.2.2.2.2.2.2
theorem RP.th {N : gN} {C M : gT} {q : Nat} {v : Int32} (h : RP N C M q) : RP N C (tset M 0 0 v) q := ⟨h.sz, h.s1, h.s8, h.rw_, h.c62, h.c61, h.c63, h.c64, h.c65, h.row⟩
theorem RG.th {C M : gT} {q : Nat} {v : Int32} (h : RG C M q) : RG C (tset M 0 0 v) q := ⟨h.c42, h.aw, h.c41, h.hd⟩
theorem RS.th {C M : gT} {q : Nat} {v : Int32} (h : RS C M q) : RS C (tset M 0 0 v) q := ⟨h.c30, h.c31, h.c32, h.c33, h.c34, h.c35, h.won, h.fol⟩
theorem RT.th {C M : gT} {q : Nat} {v : Int32} (h : RT C M q) : RT C (tset M 0 0 v) q := ⟨h.c50, h.c51, h.c52, h.c53, h.c54⟩
theorem Rel.th {k : Nat} {N : gN} {C M : gT} {v : Int32} (h : Rel k N C M) : Rel k N C (tset M 0 0 v) :=
  ⟨h.b, h.nn, h.ir, h.n0, h.n1, h.n2, h.n3, h.g4, h.g4b, h.g5, h.g6, h.g7, h.g8, fun i hi => (h.sc i hi).th, h.s0, fun i hi => (h.gu i hi).th, h.u0, h.hd, fun i hi => (h.tr i hi).th, h.t0, fun i hi => (h.pl i hi).th⟩
theorem Rel.mono {k k' : Nat} {N : gN} {C M : gT} (h : Rel k N C M) (hk : k ≤ k') : Rel k' N C M :=
  ⟨h.b, h.nn, h.ir, h.n0, h.n1, h.n2, h.n3, h.g4, h.g4b, h.g5, h.g6, h.g7, h.g8, h.sc, h.s0, h.gu, h.u0, fun x hx => by obtain ⟨y, h1, h2⟩ := h.hd x hx; exact ⟨y, by omega, h2⟩, h.tr, h.t0, h.pl⟩
theorem laM_lt {N : gN} {C M : gT} {q : Nat} (h : RP N C M q) : laM M q < N 0 := (h.rw_ _ (by have := h.s1; omega)).2
theorem Rel.im {k : Nat} {N : gN} {C M : gT} (h : Rel k N C M) (hk : k < 1000) : IM N M :=
  ⟨⟨h.n0, h.b.1⟩, ⟨h.n1, h.b.2.1⟩, ⟨h.n2, h.b.2.2.1⟩, ⟨h.n3, h.b.2.2.2⟩, fun p hp => ⟨(h.pl p hp).sz, (h.pl p hp).s1, (h.pl p hp).s8, (h.pl p hp).rw_⟩, fun x hx => by obtain ⟨y, h1, h2⟩ := h.hd x hx; exact ⟨y, by omega, h2⟩⟩
theorem Rel.ic {k : Nat} {N : gN} {C M : gT} (h : Rel k N C M) : IC N C := by
  refine ⟨h.b, h.nn, fun q hq => ?_⟩
  have hp := h.pl q hq
  have hb := h.b
  have e : szC C q = szM M q := by rw [szC, hp.c62, hp.sz, nI_clamp (by have := hp.s8; omega)]
  rw [e, hp.c62, hp.sz, hp.c63, nI_clamp (by have := laM_lt hp; omega)]
  exact ⟨laM_lt hp, rfl, hp.s8⟩
theorem szC_M {N : gN} {C M : gT} {q : Nat} (hp : RP N C M q) : szC C q = szM M q := by rw [szC, hp.c62, hp.sz, nI_clamp (by have := hp.s8; omega)]
/-- an answer and what is thrown: cs tells the number of each exception -/
def okR (cs : List (String × Int32)) (f : Int32 ⊕ String) (r th : Int32) : Prop := match f with
  | .inl x => x = r ∧ th = 0
  | .inr E => (E, th) ∈ cs
theorem okR_l {cs : List (String × Int32)} {x r th : Int32} (h : x = r) (ht : th = 0) : okR cs (.inl x) r th := ⟨h, ht⟩
theorem okR_r {cs : List (String × Int32)} {E : String} {r th : Int32} (h : (E, th) ∈ cs) : okR cs (.inr E) r th := h
/-! places of numbers -/
theorem isS {k : Nat} {N : gN} {C M : gT} (h : Rel k N C M) (v : Int32) : f_X5_isScene (tset M 0 0 0) v = if gIn v (N 0) then 1 else 0 := by
  show f_X5_isIn v 0 (M 2 0 - 1) = _
  rw [h.n0]
  exact isIn_gIn (by have := h.b; omega)
theorem isG {k : Nat} {N : gN} {C M : gT} (h : Rel k N C M) (v : Int32) : f_X5_isGuard (tset M 0 0 0) v = if gIn v (N 1) then 1 else 0 := by
  show f_X5_isIn v 0 (M 10 0 - 1) = _
  rw [h.n1]
  exact isIn_gIn (by have := h.b; omega)
theorem isT {k : Nat} {N : gN} {C M : gT} (h : Rel k N C M) (v : Int32) : f_X5_isTraveller (tset M 0 0 0) v = if gIn v (N 2) then 1 else 0 := by
  show f_X5_isIn v 0 (M 14 0 - 1) = _
  rw [h.n2]
  exact isIn_gIn (by have := h.b; omega)
theorem isP {k : Nat} {N : gN} {C M : gT} (h : Rel k N C M) (v : Int32) : f_X5_isPlot (tset M 0 0 0) v = if gIn v (N 3) then 1 else 0 := by
  show f_X5_isIn v 0 (M 19 0 - 1) = _
  rw [h.n3]
  exact isIn_gIn (by have := h.b; omega)
theorem if10 {P : Prop} {d : Decidable P} (h : P) : ¬ (if P then (1 : Int32) else 0) = 0 := by rw [if_pos h]; decide
theorem if10n {P : Prop} {d : Decidable P} (h : ¬ P) : (if P then (1 : Int32) else 0) = 0 := if_neg h
theorem isIn_c {v lo hi : Int32} : f_X5_isIn v lo hi = 0 ↔ v < lo ∨ hi < v := by
  unfold f_X5_isIn
  by_cases h0 : v < lo
  · rw [if_pos h0]
    exact ⟨fun _ => Or.inl h0, fun _ => rfl⟩
  · rw [if_neg h0]
    by_cases h1 : hi < v
    · rw [if_pos h1]
      exact ⟨fun _ => Or.inr h1, fun _ => rfl⟩
    · rw [if_neg h1]
      exact ⟨fun z => absurd z (by decide), fun z => absurd z (by rintro (z | z); exact h0 z; exact h1 z)⟩
theorem gIn_nI {v : Int32} {n : Nat} (hn : n ≤ 1000) (h : gIn v n) : v = nI v.toNatClampNeg ∧ v.toNatClampNeg < n := gIn_of (by omega) h
