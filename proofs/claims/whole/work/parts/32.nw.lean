/-! OBJECTS THAT COME INTO THE WORLD -/
def nN (N : gN) (j : Nat) : gN := nset (nset N j (N j + 1)) (4 + j) (gRoom (N j) (N (4 + j)))
def rset (C : gT) (f : Nat) (r : Nat → Int32) : gT := fun f' => if f' = f then r else C f'
theorem rset_s {C : gT} {f : Nat} {r : Nat → Int32} : rset C f r f = r := if_pos rfl
theorem rset_o {C : gT} {f f' : Nat} {r : Nat → Int32} (h : f' ≠ f) : rset C f r f' = C f' := if_neg h
theorem nset_s {N : gN} {k v : Nat} : nset N k v k = v := if_pos rfl
theorem nset_o {N : gN} {k v k' : Nat} (h : k' ≠ k) : nset N k v k' = N k' := if_neg h
theorem nN_s {N : gN} {j : Nat} : nN N j j = N j + 1 := (nset_o (by omega)).trans nset_s
theorem nN_4 {N : gN} {j : Nat} : nN N j (4 + j) = gRoom (N j) (N (4 + j)) := nset_s
theorem nN_o {N : gN} {j k : Nat} (h : k ≠ j) (h4 : k ≠ 4 + j) : nN N j k = N k := (nset_o h4).trans (nset_o h)
theorem ite_iff {α : Type} {P Q : Prop} {d1 : Decidable P} {d2 : Decidable Q} {x y z : α} (h : P ↔ Q) (hx : Q → x = y) : (if P then x else z) = if Q then y else z := by
  by_cases hq : Q
  · rw [if_pos hq, if_pos (h.mpr hq), hx hq]
  · rw [if_neg hq, if_neg (fun z => hq (h.mp z))]
theorem gArr_c {w w' : Nat → Nat} {n : Nat} (h : ∀ k, k < n → w' k = w k) : gArr w' n = gArr w n := by
  funext k
  exact ite_iff Iff.rfl (fun hk => by rw [h k hk])
section WDx
variable {G : gG} {ad ad' : gAd} {N N' : gN} {C C' M : gT} {o : Nat → Int64}
theorem Wd_x (b i : Nat) (h0 : b = 0 → ∀ k, 4 ≤ k → C' 0 k = C 0 k) (h01 : b = 0 → ∀ k, ad' 1 k = ad 1 k ∧ ad' 9 k = ad 9 k)
    (h1 : b = 1 → i < 4 → C' 1 i = C 1 i ∧ N' i = N i ∧ ad' 2 i = ad 2 i)
    (h2 : b = 2 → i < 4 → N' i = N i ∧ N' (4 + i) = N (4 + i) ∧ ∀ k, k < N i → ad' (3 + i) k = ad (3 + i) k)
    (h3 : b = 3 → (i < N' 0 ↔ i < N 0) ∧ (i < N 0 → ∀ f, 30 ≤ f → f < 36 → C' f i = C f i))
    (h4 : b = 4 → (i < N' 1 ↔ i < N 1) ∧ (i < N 1 → ad' 7 i = ad 7 i ∧ ∀ f, 40 ≤ f → f < 44 → C' f i = C f i))
    (h5 : b = 5 → (i < N' 2 ↔ i < N 2) ∧ (i < N 2 → ∀ f, 50 ≤ f → f < 55 → C' f i = C f i))
    (h6 : b = 6 → (i < N' 3 ↔ i < N 3) ∧ (i < N 3 → ad' 8 i = ad 8 i ∧ ad' 3 (C 63 i).toNatClampNeg = ad 3 (C 63 i).toNatClampNeg ∧ ∀ f, 60 ≤ f → f < 66 → C' f i = C f i))
    (h7 : b = 7 → (i < N' 1 ↔ i < N 1) ∧ (i < N 1 → C' (100 + i) = C (100 + i)))
    (h8 : b = 8 → (i < N' 3 ↔ i < N 3) ∧ (i < N 3 → C' (200 + i) = C (200 + i))) : Wd G ad' N' C' M o b i = Wd G ad N C M o b i := by
  match b with
  | 0 =>
    have h9 := h01 rfl
    match i with
    | 0 =>
      have h := h0 rfl
      show some (eToll ad' C') = some (eToll ad C)
      rw [eToll, eToll, h 4 (by omega), h 5 (by omega), h 6 (by omega), h 7 (by omega), h 8 (by omega), (h9 0).1, (h9 1).1, (h9 2).1, (h9 3).1]
    | 1 =>
      show some (eMod ad' M) = some (eMod ad M)
      rw [eMod, eMod, (h9 3).2, (h9 4).2, (h9 5).2, (h9 6).2, (h9 7).2, (h9 11).2, (h9 12).2, (h9 13).2, (h9 15).2, (h9 16).2, (h9 17).2, (h9 18).2, (h9 20).2, (h9 21).2, (h9 22).2]
    | 2 => rfl
    | (n + 3) => rfl
  | 1 =>
    refine ite_iff (x := some (eList G ad' N' C' i)) (y := some (eList G ad N C i)) Iff.rfl (fun hi => ?_)
    obtain ⟨e1, e2, e3⟩ := h1 rfl hi
    rw [eList, eList, e1, e2, e3]
  | 2 =>
    by_cases hi : i < 4
    · obtain ⟨e1, e2, e3⟩ := h2 rfl hi
      refine ite_iff (x := some (eElem G ad' N' i)) (y := some (eElem G ad N i)) (by rw [e1]) (fun _ => ?_)
      rw [eElem, eElem, e1, e2]
      rw [show (fun k => if k < N i then some (ad' (3 + i) k) else none) = fun k => if k < N i then some (ad (3 + i) k) else none from gArr_c e3]
    · exact (if_neg (fun z => hi z.1)).trans (if_neg (fun z => hi z.1)).symm
  | 3 =>
    refine ite_iff (x := some (eS C' i)) (y := some (eS C i)) (h3 rfl).1 (fun hi => ?_)
    have h := (h3 rfl).2 hi
    rw [eS, eS, h 30 (by omega) (by omega), h 31 (by omega) (by omega), h 32 (by omega) (by omega), h 33 (by omega) (by omega), h 34 (by omega) (by omega), h 35 (by omega) (by omega)]
  | 4 =>
    refine ite_iff (x := some (eGd ad' C' i)) (y := some (eGd ad C i)) (h4 rfl).1 (fun hi => ?_)
    obtain ⟨ha, h⟩ := (h4 rfl).2 hi
    rw [eGd, eGd, ha, h 41 (by omega) (by omega), h 42 (by omega) (by omega), h 43 (by omega) (by omega)]
  | 5 =>
    refine ite_iff (x := some (eTr C' i)) (y := some (eTr C i)) (h5 rfl).1 (fun hi => ?_)
    have h := (h5 rfl).2 hi
    rw [eTr, eTr, h 50 (by omega) (by omega), h 51 (by omega) (by omega), h 52 (by omega) (by omega), h 53 (by omega) (by omega), h 54 (by omega) (by omega)]
  | 6 =>
    refine ite_iff (x := some (ePl ad' C' i)) (y := some (ePl ad C i)) (h6 rfl).1 (fun hi => ?_)
    obtain ⟨ha, hb, h⟩ := (h6 rfl).2 hi
    rw [ePl, ePl, ha, h 61 (by omega) (by omega), h 62 (by omega) (by omega), h 63 (by omega) (by omega), hb, h 64 (by omega) (by omega), h 65 (by omega) (by omega)]
  | 7 =>
    refine ite_iff (x := some (Sum.inl (G.1, 24, Sum.inl (C' (100 + i))))) (y := some (Sum.inl (G.1, 24, Sum.inl (C (100 + i))))) (h7 rfl).1 (fun hi => ?_)
    rw [(h7 rfl).2 hi]
  | 8 =>
    refine ite_iff (x := some (Sum.inl (G.1, 8, Sum.inl (C' (200 + i))))) (y := some (Sum.inl (G.1, 8, Sum.inl (C (200 + i))))) (h8 rfl).1 (fun hi => ?_)
    rw [(h8 rfl).2 hi]
  | 9 => rfl
  | (n + 10) => rfl
theorem Wd_new {ct : gC} {w : Nat → Nat} {j ra : Nat} {md : Int32} (hj : j < 4) (hc1 : ∀ i, i ≠ j → ct 1 i = Wd G ad N C M o 1 i) (hc2 : ∀ i, i ≠ j → ct 2 i = Wd G ad N C M o 2 i)
    (hr : ∀ b i, b ≠ 1 → b ≠ 2 → Wd G ad' (nN N j) C' M o b i = ct b i) (h1 : C' 1 j = md + 1) (h1o : ∀ i, i ≠ j → C' 1 i = C 1 i) (ha : ad' 2 j = ra) (hao : ∀ i, i ≠ j → ad' 2 i = ad 2 i)
    (hae : ∀ i k, i < 4 → i ≠ j → k < N i → ad' (3 + i) k = ad (3 + i) k) (hw : ∀ k, k < N j + 1 → ad' (3 + j) k = w k) (b i : Nat) :
    Wd G ad' (nN N j) C' M o b i = ctset (ctset ct 2 j (some (.inl (G.2.2.1, gRoom (N j) (N (4 + j)), .inr (.inr (.inr (.inr (gArr w (N j + 1))))))))) 1 j (some (.inr (0, [.int (md + 1), .ref ra, .int (nI (N j + 1))]))) b i := by
  by_cases k1 : b = 1 ∧ i = j
  · obtain ⟨rfl, rfl⟩ := k1
    rw [ctset_s, Wd_Li hj, eList, nN_s, h1, ha, if_neg (Nat.succ_ne_zero _)]
  · rw [ctset_o k1]
    by_cases k2 : b = 2 ∧ i = j
    · obtain ⟨rfl, rfl⟩ := k2
      rw [ctset_s, Wd_El hj (by rw [nN_s]; exact Nat.succ_ne_zero _), eElem, nN_s, nN_4]
      rw [show (fun k => if k < N i + 1 then some (ad' (3 + i) k) else none) = gArr w (N i + 1) from gArr_c hw]
    · rw [ctset_o k2]
      by_cases m1 : b = 1
      · subst m1
        have hi : i ≠ j := fun z => k1 ⟨rfl, z⟩
        rw [hc1 i hi]
        exact Wd_x 1 i (fun z => absurd z (by decide)) (fun z => absurd z (by decide)) (fun _ h4 => ⟨h1o i hi, nN_o hi (by omega), hao i hi⟩) (fun z => absurd z (by decide)) (fun z => absurd z (by decide)) (fun z => absurd z (by decide)) (fun z => absurd z (by decide)) (fun z => absurd z (by decide)) (fun z => absurd z (by decide)) (fun z => absurd z (by decide))
      · by_cases m2 : b = 2
        · subst m2
          have hi : i ≠ j := fun z => k2 ⟨rfl, z⟩
          rw [hc2 i hi]
          exact Wd_x 2 i (fun z => absurd z (by decide)) (fun z => absurd z (by decide)) (fun z => absurd z (by decide)) (fun _ h4 => ⟨nN_o hi (by omega), nN_o (by omega) (by omega), fun k hk => hae i k h4 hi hk⟩) (fun z => absurd z (by decide)) (fun z => absurd z (by decide)) (fun z => absurd z (by decide)) (fun z => absurd z (by decide)) (fun z => absurd z (by decide)) (fun z => absurd z (by decide))
        · exact hr b i m1 m2
end WDx
def IR (N : gN) : Prop := ∀ j, j < 4 → N j ≠ 0 → N (4 + j) = 10 ∨ N (4 + j) = 15 ∨ N (4 + j) = 22 ∨ N (4 + j) = 33
theorem IR_n {N : gN} {j : Nat} (hN : gNN N) (h : IR N) (hj : j < 4) (hn : N j < 24) : IR (nN N j) := by
  intro k hk h0
  by_cases hkj : k = j
  · subst hkj
    rw [nN_4]
    exact (gRoom_ok (fun z => ⟨(hN k hk).1, h k hk z⟩) hn).2
  · rw [nN_o hkj (by omega)] at h0
    rw [nN_o (by omega) (by omega)]
    exact h k hk h0
theorem gNN_n {N : gN} {j : Nat} (hN : gNN N) (h : IR N) (hj : j < 4) (hn : N j < 24) : gNN (nN N j) := by
  intro k hk
  by_cases hkj : k = j
  · subst hkj
    rw [nN_4, nN_s]
    have h1 := gRoom_ok (fun z => ⟨(hN k hk).1, h k hk z⟩) hn
    omega
  · rw [nN_o hkj (by omega), nN_o (by omega) (by omega)]
    exact hN k hk
/-- what a scene, a guard, a traveller, a plot brings into the numbers -/
def mkC (C : gT) (n : Nat) (nu ki wo hu : Int32) : gT := tset (tset (tset (tset (tset (tset (tset C 1 0 (C 1 0 + 1)) 30 n nu) 31 n ki) 32 n wo) 33 n hu) 34 n 0) 35 n 0
def poC (C : gT) (n : Nat) : gT := rset (tset (tset (tset (tset C 1 1 (C 1 1 + 1)) 41 n 0) 42 n 20) 43 n 1) (100 + n) (fun _ => 0)
def coC (C : gT) (n : Nat) (nu kn : Int32) : gT := tset (tset (tset (tset (tset (tset C 1 2 (C 1 2 + 1)) 50 n nu) 51 n kn) 52 n 0) 53 n 0) 54 n 0
def plC (C : gT) (n i : Nat) (nu wo : Int32) : gT := rset (tset (tset (tset (tset (tset (tset C 1 3 (C 1 3 + 1)) 61 n (0 + wo)) 62 n (nI (0 + 1))) 63 n (nI i)) 64 n ((0 : Int32) ||| (1 <<< (nu &&& 31)))) 65 n (-1)) (200 + n) (upd (fun _ => 0) 0 nu)
theorem mkC_o {C : gT} {n : Nat} {nu ki wo hu : Int32} {f i : Nat} (h1 : ¬ (f = 1 ∧ i = 0)) (h : ¬ (30 ≤ f ∧ f < 36 ∧ i = n)) : mkC C n nu ki wo hu f i = C f i :=
  (tset_o (by omega)).trans ((tset_o (by omega)).trans ((tset_o (by omega)).trans ((tset_o (by omega)).trans ((tset_o (by omega)).trans ((tset_o (by omega)).trans (tset_o (by omega)))))))
theorem coC_o {C : gT} {n : Nat} {nu kn : Int32} {f i : Nat} (h1 : ¬ (f = 1 ∧ i = 2)) (h : ¬ (50 ≤ f ∧ f < 55 ∧ i = n)) : coC C n nu kn f i = C f i :=
  (tset_o (by omega)).trans ((tset_o (by omega)).trans ((tset_o (by omega)).trans ((tset_o (by omega)).trans ((tset_o (by omega)).trans (tset_o (by omega))))))
theorem poC_o {C : gT} {n : Nat} {f i : Nat} (h1 : ¬ (f = 1 ∧ i = 1)) (h : ¬ (40 ≤ f ∧ f < 44 ∧ i = n)) (h2 : f ≠ 100 + n) : poC C n f i = C f i :=
  (congrFun (rset_o h2) i).trans ((tset_o (by omega)).trans ((tset_o (by omega)).trans ((tset_o (by omega)).trans (tset_o (by omega)))))
theorem plC_o {C : gT} {n i0 : Nat} {nu wo : Int32} {f i : Nat} (h1 : ¬ (f = 1 ∧ i = 3)) (h : ¬ (60 ≤ f ∧ f < 66 ∧ i = n)) (h2 : f ≠ 200 + n) : plC C n i0 nu wo f i = C f i :=
  (congrFun (rset_o h2) i).trans ((tset_o (by omega)).trans ((tset_o (by omega)).trans ((tset_o (by omega)).trans ((tset_o (by omega)).trans ((tset_o (by omega)).trans (tset_o (by omega)))))))
theorem poC_43 {C : gT} {n : Nat} : poC C n 43 n = 1 := (congrFun (rset_o (by omega)) _).trans tset_s
theorem poC_42 {C : gT} {n : Nat} : poC C n 42 n = 20 := (congrFun (rset_o (by omega)) _).trans ((tset_o (by omega)).trans tset_s)
theorem poC_41 {C : gT} {n : Nat} : poC C n 41 n = 0 := (congrFun (rset_o (by omega)) _).trans ((tset_o (by omega)).trans ((tset_o (by omega)).trans tset_s))
theorem poC_1 {C : gT} {n : Nat} : poC C n 1 1 = C 1 1 + 1 := (congrFun (rset_o (by omega)) _).trans ((tset_o (by omega)).trans ((tset_o (by omega)).trans ((tset_o (by omega)).trans tset_s)))
theorem plC_65 {C : gT} {n i : Nat} {nu wo : Int32} : plC C n i nu wo 65 n = -1 := (congrFun (rset_o (by omega)) _).trans tset_s
theorem plC_64 {C : gT} {n i : Nat} {nu wo : Int32} : plC C n i nu wo 64 n = ((0 : Int32) ||| (1 <<< (nu &&& 31))) := (congrFun (rset_o (by omega)) _).trans ((tset_o (by omega)).trans tset_s)
theorem plC_63 {C : gT} {n i : Nat} {nu wo : Int32} : plC C n i nu wo 63 n = nI i := (congrFun (rset_o (by omega)) _).trans ((tset_o (by omega)).trans ((tset_o (by omega)).trans tset_s))
theorem plC_62 {C : gT} {n i : Nat} {nu wo : Int32} : plC C n i nu wo 62 n = nI (0 + 1) := (congrFun (rset_o (by omega)) _).trans ((tset_o (by omega)).trans ((tset_o (by omega)).trans ((tset_o (by omega)).trans tset_s)))
theorem plC_61 {C : gT} {n i : Nat} {nu wo : Int32} : plC C n i nu wo 61 n = 0 + wo := (congrFun (rset_o (by omega)) _).trans ((tset_o (by omega)).trans ((tset_o (by omega)).trans ((tset_o (by omega)).trans ((tset_o (by omega)).trans tset_s))))
theorem plC_1 {C : gT} {n i : Nat} {nu wo : Int32} : plC C n i nu wo 1 3 = C 1 3 + 1 := (congrFun (rset_o (by omega)) _).trans ((tset_o (by omega)).trans ((tset_o (by omega)).trans ((tset_o (by omega)).trans ((tset_o (by omega)).trans ((tset_o (by omega)).trans tset_s)))))
section WDm
variable {G : gG} {ad : gAd} {N : gN} {C M : gT} {o : Nat → Int64}
theorem Wd_mk {q ra : Nat} {nu ki wo hu : Int32} (hl : ∀ p, p < N 3 → (C 63 p).toNatClampNeg < N 0) (b i : Nat) : Wd G (adset (adset ad 3 (N 0) q) 2 0 ra) (nN N 0) (mkC C (N 0) nu ki wo hu) M o b i =
    ctset (ctset (ctset (Wd G ad N C M o) 3 (N 0) (some (.inr (3, [.int nu, .int ki, .int wo, .int hu, .int 0, .int 0])))) 2 0 (some (.inl (G.2.2.1, gRoom (N 0) (N (4 + 0)), .inr (.inr (.inr (.inr (gArr (adset ad 3 (N 0) q (3 + 0)) (N 0 + 1))))))))) 1 0 (some (.inr (0, [.int (C 1 0 + 1), .ref ra, .int (nI (N 0 + 1))]))) b i := by
  refine Wd_new (C := C) (N := N) (ad := ad) (by decide) (fun i hi => ctset_o (fun z => absurd z.1 (by decide))) (fun i hi => ctset_o (fun z => absurd z.1 (by decide))) (fun b i b1 b2 => ?_) ?_ (fun i hi => mkC_o (by omega) (by omega)) adset_s (fun i hi => (adset_o (by omega)).trans (adset_o (by omega))) (fun i k h4 hi hk => (adset_o (by omega)).trans (adset_o (by omega))) (fun k hk => adset_o (by omega)) b i
  · by_cases k3 : b = 3 ∧ i = N 0
    · obtain ⟨rfl, rfl⟩ := k3
      rw [ctset_s, Wd_S (by rw [nN_s]; omega)]
      simp [eS, mkC, tset]
    · rw [ctset_o k3]
      exact Wd_x b i (fun z k hk => mkC_o (by omega) (by omega)) (fun z k => ⟨(adset_o (by omega)).trans (adset_o (by omega)), (adset_o (by omega)).trans (adset_o (by omega))⟩) (fun z => absurd z b1) (fun z => absurd z b2)
        (fun z => ⟨by rw [nN_s]; omega, fun hi f _ _ => mkC_o (by omega) (by omega)⟩) (fun z => ⟨by rw [nN_o (by decide) (by decide)], fun hi => ⟨(adset_o (by omega)).trans (adset_o (by omega)), fun f _ _ => mkC_o (by omega) (by omega)⟩⟩)
        (fun z => ⟨by rw [nN_o (by decide) (by decide)], fun hi f _ _ => mkC_o (by omega) (by omega)⟩) (fun z => ⟨by rw [nN_o (by decide) (by decide)], fun hi => ⟨(adset_o (by omega)).trans (adset_o (by omega)), (adset_o (by omega)).trans (adset_o (by have := hl i hi; omega)), fun f _ _ => mkC_o (by omega) (by omega)⟩⟩)
        (fun z => ⟨by rw [nN_o (by decide) (by decide)], fun hi => funext fun k => mkC_o (by omega) (by omega)⟩) (fun z => ⟨by rw [nN_o (by decide) (by decide)], fun hi => funext fun k => mkC_o (by omega) (by omega)⟩)
  · simp [mkC, tset]
theorem Wd_co {q ra : Nat} {nu kn : Int32} (b i : Nat) : Wd G (adset (adset ad 5 (N 2) q) 2 2 ra) (nN N 2) (coC C (N 2) nu kn) M o b i =
    ctset (ctset (ctset (Wd G ad N C M o) 5 (N 2) (some (.inr (4, [.int nu, .int kn, .int 0, .int 0, .int 0])))) 2 2 (some (.inl (G.2.2.1, gRoom (N 2) (N (4 + 2)), .inr (.inr (.inr (.inr (gArr (adset ad 5 (N 2) q (3 + 2)) (N 2 + 1))))))))) 1 2 (some (.inr (0, [.int (C 1 2 + 1), .ref ra, .int (nI (N 2 + 1))]))) b i := by
  refine Wd_new (C := C) (N := N) (ad := ad) (by decide) (fun i hi => ctset_o (fun z => absurd z.1 (by decide))) (fun i hi => ctset_o (fun z => absurd z.1 (by decide))) (fun b i b1 b2 => ?_) ?_ (fun i hi => coC_o (by omega) (by omega)) adset_s (fun i hi => (adset_o (by omega)).trans (adset_o (by omega))) (fun i k h4 hi hk => (adset_o (by omega)).trans (adset_o (by omega))) (fun k hk => adset_o (by omega)) b i
  · by_cases k3 : b = 5 ∧ i = N 2
    · obtain ⟨rfl, rfl⟩ := k3
      rw [ctset_s, Wd_Tr (by rw [nN_s]; omega)]
      simp [eTr, coC, tset]
    · rw [ctset_o k3]
      exact Wd_x b i (fun z k hk => coC_o (by omega) (by omega)) (fun z k => ⟨(adset_o (by omega)).trans (adset_o (by omega)), (adset_o (by omega)).trans (adset_o (by omega))⟩) (fun z => absurd z b1) (fun z => absurd z b2)
        (fun z => ⟨by rw [nN_o (by decide) (by decide)], fun hi f _ _ => coC_o (by omega) (by omega)⟩) (fun z => ⟨by rw [nN_o (by decide) (by decide)], fun hi => ⟨(adset_o (by omega)).trans (adset_o (by omega)), fun f _ _ => coC_o (by omega) (by omega)⟩⟩)
        (fun z => ⟨by rw [nN_s]; omega, fun hi f _ _ => coC_o (by omega) (by omega)⟩) (fun z => ⟨by rw [nN_o (by decide) (by decide)], fun hi => ⟨(adset_o (by omega)).trans (adset_o (by omega)), (adset_o (by omega)).trans (adset_o (by omega)), fun f _ _ => coC_o (by omega) (by omega)⟩⟩)
        (fun z => ⟨by rw [nN_o (by decide) (by decide)], fun hi => funext fun k => coC_o (by omega) (by omega)⟩) (fun z => ⟨by rw [nN_o (by decide) (by decide)], fun hi => funext fun k => coC_o (by omega) (by omega)⟩)
  · simp [coC, tset]
theorem Wd_po {q q2 ra : Nat} (hN : N 1 < 24 ∧ N 3 ≤ 8) (b i : Nat) : Wd G (adset (adset (adset ad 4 (N 1) q) 7 (N 1) q2) 2 1 ra) (nN N 1) (poC C (N 1)) M o b i =
    ctset (ctset (ctset (ctset (Wd G ad N C M o) 7 (N 1) (some (.inl (G.1, 24, .inl (fun _ => 0))))) 4 (N 1) (some (.inr (1, [.ref q2, .int 0, .int 20, .int 1])))) 2 1 (some (.inl (G.2.2.1, gRoom (N 1) (N (4 + 1)), .inr (.inr (.inr (.inr (gArr (adset (adset ad 4 (N 1) q) 7 (N 1) q2 (3 + 1)) (N 1 + 1))))))))) 1 1 (some (.inr (0, [.int (C 1 1 + 1), .ref ra, .int (nI (N 1 + 1))]))) b i := by
  refine Wd_new (C := C) (N := N) (ad := ad) (by decide) (fun i hi => (ctset_o (fun z => absurd z.1 (by decide))).trans (ctset_o (fun z => absurd z.1 (by decide)))) (fun i hi => (ctset_o (fun z => absurd z.1 (by decide))).trans (ctset_o (fun z => absurd z.1 (by decide)))) (fun b i b1 b2 => ?_) ?_ (fun i hi => poC_o (by omega) (by omega) (by omega)) adset_s (fun i hi => (adset_o (by omega)).trans ((adset_o (by omega)).trans (adset_o (by omega)))) (fun i k h4 hi hk => (adset_o (by omega)).trans ((adset_o (by omega)).trans (adset_o (by omega)))) (fun k hk => adset_o (by omega)) b i
  · by_cases k3 : b = 4 ∧ i = N 1
    · obtain ⟨rfl, rfl⟩ := k3
      rw [ctset_s, Wd_Gd (by rw [nN_s]; omega), eGd, (adset_o (by omega) : adset (adset (adset ad 4 (N 1) q) 7 (N 1) q2) 2 1 ra 7 (N 1) = _), adset_s]
      rw [poC_41, poC_42, poC_43]
    · rw [ctset_o k3]
      by_cases k7 : b = 7 ∧ i = N 1
      · obtain ⟨rfl, rfl⟩ := k7
        rw [ctset_s, Wd_Hd (by rw [nN_s]; omega)]
        rw [show poC C (N 1) (100 + N 1) = fun _ => 0 from rset_s]
      · rw [ctset_o k7]
        exact Wd_x b i (fun z k hk => poC_o (by omega) (by omega) (by omega)) (fun z k => ⟨(adset_o (by omega)).trans ((adset_o (by omega)).trans (adset_o (by omega))), (adset_o (by omega)).trans ((adset_o (by omega)).trans (adset_o (by omega)))⟩) (fun z => absurd z b1) (fun z => absurd z b2)
          (fun z => ⟨by rw [nN_o (by decide) (by decide)], fun hi f _ _ => poC_o (by omega) (by omega) (by omega)⟩) (fun z => ⟨by rw [nN_s]; omega, fun hi => ⟨(adset_o (by omega)).trans ((adset_o (by omega)).trans (adset_o (by omega))), fun f _ _ => poC_o (by omega) (by omega) (by omega)⟩⟩)
          (fun z => ⟨by rw [nN_o (by decide) (by decide)], fun hi f _ _ => poC_o (by omega) (by omega) (by omega)⟩) (fun z => ⟨by rw [nN_o (by decide) (by decide)], fun hi => ⟨(adset_o (by omega)).trans ((adset_o (by omega)).trans (adset_o (by omega))), (adset_o (by omega)).trans ((adset_o (by omega)).trans (adset_o (by omega))), fun f _ _ => poC_o (by omega) (by omega) (by omega)⟩⟩)
          (fun z => ⟨by rw [nN_s]; omega, fun hi => funext fun k => poC_o (by omega) (by omega) (by omega)⟩) (fun z => ⟨by rw [nN_o (by decide) (by decide)], fun hi => funext fun k => poC_o (by omega) (by omega) (by omega)⟩)
  · exact poC_1
theorem Wd_pl {q q2 ra i0 : Nat} {nu wo : Int32} (hN : N 1 ≤ 4 ∧ N 3 < 24) (hi0 : i0 < 2 ^ 31) (b i : Nat) : Wd G (adset (adset (adset ad 6 (N 3) q) 8 (N 3) q2) 2 3 ra) (nN N 3) (plC C (N 3) i0 nu wo) M o b i =
    ctset (ctset (ctset (ctset (Wd G ad N C M o) 8 (N 3) (some (.inl (G.1, 8, .inl (upd (fun _ => 0) 0 nu))))) 6 (N 3) (some (.inr (2, [.ref q2, .int (0 + wo), .int (nI (0 + 1)), .ref (ad 3 i0), .int ((0 : Int32) ||| (1 <<< (nu &&& 31))), .int (-1)])))) 2 3 (some (.inl (G.2.2.1, gRoom (N 3) (N (4 + 3)), .inr (.inr (.inr (.inr (gArr (adset (adset ad 6 (N 3) q) 8 (N 3) q2 (3 + 3)) (N 3 + 1))))))))) 1 3 (some (.inr (0, [.int (C 1 3 + 1), .ref ra, .int (nI (N 3 + 1))]))) b i := by
  refine Wd_new (C := C) (N := N) (ad := ad) (by decide) (fun i hi => (ctset_o (fun z => absurd z.1 (by decide))).trans (ctset_o (fun z => absurd z.1 (by decide)))) (fun i hi => (ctset_o (fun z => absurd z.1 (by decide))).trans (ctset_o (fun z => absurd z.1 (by decide)))) (fun b i b1 b2 => ?_) ?_ (fun i hi => plC_o (by omega) (by omega) (by omega)) adset_s (fun i hi => (adset_o (by omega)).trans ((adset_o (by omega)).trans (adset_o (by omega)))) (fun i k h4 hi hk => (adset_o (by omega)).trans ((adset_o (by omega)).trans (adset_o (by omega)))) (fun k hk => adset_o (by omega)) b i
  · by_cases k3 : b = 6 ∧ i = N 3
    · obtain ⟨rfl, rfl⟩ := k3
      rw [ctset_s, Wd_Pl (by rw [nN_s]; omega), ePl, plC_63, nI_clamp hi0, (adset_o (by omega) : adset (adset (adset ad 6 (N 3) q) 8 (N 3) q2) 2 3 ra 8 (N 3) = _), adset_s, ((adset_o (by omega)).trans ((adset_o (by omega)).trans (adset_o (by omega))) : adset (adset (adset ad 6 (N 3) q) 8 (N 3) q2) 2 3 ra 3 i0 = ad 3 i0)]
      rw [plC_61, plC_62, plC_64, plC_65]
    · rw [ctset_o k3]
      by_cases k7 : b = 8 ∧ i = N 3
      · obtain ⟨rfl, rfl⟩ := k7
        rw [ctset_s, Wd_Rw (by rw [nN_s]; omega)]
        rw [show plC C (N 3) i0 nu wo (200 + N 3) = upd (fun _ => 0) 0 nu from rset_s]
      · rw [ctset_o k7]
        exact Wd_x b i (fun z k hk => plC_o (by omega) (by omega) (by omega)) (fun z k => ⟨(adset_o (by omega)).trans ((adset_o (by omega)).trans (adset_o (by omega))), (adset_o (by omega)).trans ((adset_o (by omega)).trans (adset_o (by omega)))⟩) (fun z => absurd z b1) (fun z => absurd z b2)
          (fun z => ⟨by rw [nN_o (by decide) (by decide)], fun hi f _ _ => plC_o (by omega) (by omega) (by omega)⟩) (fun z => ⟨by rw [nN_o (by decide) (by decide)], fun hi => ⟨(adset_o (by omega)).trans ((adset_o (by omega)).trans (adset_o (by omega))), fun f _ _ => plC_o (by omega) (by omega) (by omega)⟩⟩)
          (fun z => ⟨by rw [nN_o (by decide) (by decide)], fun hi f _ _ => plC_o (by omega) (by omega) (by omega)⟩) (fun z => ⟨by rw [nN_s]; omega, fun hi => ⟨(adset_o (by omega)).trans ((adset_o (by omega)).trans (adset_o (by omega))), (adset_o (by omega)).trans ((adset_o (by omega)).trans (adset_o (by omega))), fun f _ _ => plC_o (by omega) (by omega) (by omega)⟩⟩)
          (fun z => ⟨by rw [nN_o (by decide) (by decide)], fun hi => funext fun k => plC_o (by omega) (by omega) (by omega)⟩) (fun z => ⟨by rw [nN_s]; omega, fun hi => funext fun k => plC_o (by omega) (by omega) (by omega)⟩)
  · exact plC_1
end WDm
