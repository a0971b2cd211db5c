/-! THE CLASS: a scene is told -/
def f_X4_canTellN (C : gT) (N : gN) (tv : Nat) (i : Nat) : Int32 := (if (C 53 tv) = 0 then (if (f_X3_knows C tv i) = 0 then 0 else (if (C 31 i) = 0 then (if 8 ≤ (nI (N 3)) then 0 else 1) else 0)) else 0)
set_option maxHeartbeats 4000000 in
set_option maxRecDepth 100000 in
theorem c_X4_canTellN (l : Launch) (D : va_G) (G : gG) (A : Nat → Prop) (ad : gAd) (N : gN) (C M : gT) (o : Nat → Int64) (Hp : Heap) (hW : gW D A ad (Wd G ad N C M o) Hp) (hC : IC N C) (tv : Nat) (htv : tv < N 2) (i : Nat) (hi : i < N 0) : Met l yX4_canTell wsX4_canTell ({ frames := 2, cells := 0, slots := 0, locals := 41 }) (va_Pc [.ref (ad 0 0), .ref (ad 5 tv), .ref (ad 3 i), .null] (gQ D (gTs G) Hp)) (gRi (fun r => r = f_X4_canTellN C N tv i) Hp) 0 0 gF := by
  refine g_start (cc := cX4_canTell) (maxL := 4) (ret := (some .boolean)) (by decide) rfl (Nat.le_of_ble_eq_true rfl) (fun p e s m below meth c ls C0 hr hlk hnm hh hK hl => ?_)
  obtain ⟨hx, hb, hml, hown, hts⟩ := id C0
  have hown : s.vm.findClass RX4 = some m.cls := hown
  have hS : va_S gF Hp Hp [] := va_S.rf
  have hl : lv_has ls 4 [(0, .ref (ad 0 0)), (1, .ref (ad 5 tv)), (2, .ref (ad 3 i)), (3, .null)] := hl
  have inX3 : ∀ w ∈ wsX30, w ∈ wsX4_canTell := by decide +kernel
  have inX2 : ∀ w ∈ wsX20, w ∈ wsX4_canTell := by decide +kernel
  have inX4 : ∀ w ∈ wsX40, w ∈ wsX4_canTell := by decide +kernel
  obtain ⟨⟨hc0, hc1, hc2, hc3⟩, hNN, hCp⟩ := id hC
  have hn0 := hNN 0 (by decide)
  have hn1 := hNN 1 (by decide)
  have hn2 := hNN 2 (by decide)
  have hn3 := hNN 3 (by decide)
  refine lv_aload_n hx hb dX4_canTell_0 rfl (lv_at hl 1 rfl) ?_
  refine va_get (D := D) (ci := 4) (v := .int (C 53 tv)) (C := RX3) (T := TX3) (N := 5) hx hb hts inX3 hown hK (hW.p (e := (eTr C tv)) (Wd_Tr htv)) 0 rfl rfl 3 (by decide) (hts (.fieldLink RX4 148 "StoryToll$Traveller" "state" "I") (List.mem_of_getElem? (i := 1) rfl)) (fun _ h9 => h9) rfl dX4_canTell_1 ?_
  refine lv_if_ne (tgt := 15) hx hb dX4_canTell_4 (by decide) (fun c_4_0 => ?_) (fun c_4_0 => ?_)
  · refine lv_iconst (v := 0) hx hb dX4_canTell_15 (by decide) ?_
    exact g_zret hx hb hr hlk hh hS (Or.inl rfl) (show 0 = f_X4_canTellN C N tv i from by rw [f_X4_canTellN, if_neg c_4_0]) dX4_canTell_16
  · refine lv_aload_n hx hb dX4_canTell_7 rfl (lv_at hl 1 rfl) ?_
    refine lv_aload_n hx hb dX4_canTell_8 rfl (lv_at hl 2 rfl) ?_
    refine g_Vi (As := [.ref (ad 3 i)]) (rest := []) C0 (c_X3_knows l D G A ad N C M o Hp hW tv htv i hi) (cwV 1 hts gX4_canTell_X3_knows rfl rfl rfl (by decide +kernel) ⟨Nat.le_of_ble_eq_true rfl, Nat.le_of_ble_eq_true rfl⟩) hK (va_recv hK (hW.p (Wd_Tr htv)) (ci := 4) (q0 := 0) rfl rfl) rfl hl rfl (Nat.le_of_ble_eq_true rfl) dX4_canTell_9 ⟨Nat.zero_le _, Nat.zero_le _⟩ hS (fun r_2 locs hr_2 hS => ?_)
    replace hr_2 : r_2 = (f_X3_knows C tv i) := hr_2
    subst r_2
    refine lv_if_ne (tgt := 17) hx hb dX4_canTell_12 (by decide) (fun c_12_2 => ?_) (fun c_12_2 => ?_)
    · refine lv_aload_n hx hb dX4_canTell_17 rfl (lv_at hl 2 rfl) ?_
      refine va_get (D := D) (ci := 3) (v := .int (C 31 i)) (C := RX2) (T := TX2) (N := 6) hx hb hts inX2 hown hK (hW.p (e := (eS C i)) (Wd_S hi)) 0 rfl rfl 1 (by decide) (hts (.fieldLink RX4 63 "StoryToll$Scene" "kind" "I") (List.mem_of_getElem? (i := 2) rfl)) (fun _ h9 => h9) rfl dX4_canTell_18 ?_
      refine lv_if_ne (tgt := 42) hx hb dX4_canTell_21 (by decide) (fun c_21_3 => ?_) (fun c_21_3 => ?_)
      · refine lv_aload_nN hx hb dX4_canTell_42 rfl (lv_at hl 3 rfl) ?_
        refine lv_ifnullN (tgt := 62) hx hb dX4_canTell_43 (by decide) ?_
        refine lv_iconst (v := 0) hx hb dX4_canTell_62 (by decide) ?_
        exact g_zret hx hb hr hlk hh hS (Or.inl rfl) (show 0 = f_X4_canTellN C N tv i from by rw [f_X4_canTellN, if_pos c_4_0, if_neg c_12_2, if_neg c_21_3]) dX4_canTell_63
      · refine lv_aload_n hx hb dX4_canTell_24 rfl (lv_at hl 0 rfl) ?_
        refine va_get (D := D) (ci := 5) (v := .ref (ad 1 3)) (C := RX4) (T := TX4) (N := 9) hx hb hts inX4 hown hK (hW.p (e := (eToll ad C)) rfl) 0 rfl rfl 3 (by decide) (hts (.fieldLink RX4 22 "StoryToll" "plots" "Ljava/util/ArrayList;") (List.mem_of_getElem? (i := 3) rfl)) (fun _ h9 => h9) rfl dX4_canTell_25 ?_
        refine g_Vi (As := []) (rest := []) C0 (c_Jx4a65c_size_8abf5 l D G A ad N C M o Hp hW 3 (by decide)) (cwV 0 hts gX4_canTell_Jx4a65c_size_8abf5 rfl rfl rfl (by decide +kernel) ⟨Nat.le_of_ble_eq_true rfl, Nat.le_of_ble_eq_true rfl⟩) hK (va_recv hK (hW.p (Wd_Li (by omega))) (ci := 0) (q0 := 0) rfl rfl) rfl hl rfl (Nat.le_of_ble_eq_true rfl) dX4_canTell_28 ⟨Nat.zero_le _, Nat.zero_le _⟩ hS (fun r_5 locs hr_5 hS => ?_)
        replace hr_5 : r_5 = (nI (N 3)) := hr_5
        subst r_5
        refine lv_bipush (v := 8) hx hb dX4_canTell_31 (by decide) ?_
        refine lv_icmp_ge (tgt := 40) hx hb dX4_canTell_33 (by decide) (fun c_33_5 => ?_) (fun c_33_5 => ?_)
        · refine lv_iconst (v := 0) hx hb dX4_canTell_40 (by decide) ?_
          exact g_zret hx hb hr hlk hh hS (Or.inl rfl) (show 0 = f_X4_canTellN C N tv i from by rw [f_X4_canTellN, if_pos c_4_0, if_neg c_12_2, if_pos c_21_3, if_pos c_33_5]) dX4_canTell_41
        · refine lv_iconst (v := 1) hx hb dX4_canTell_36 (by decide) ?_
          refine lv_goto (tgt := 41) hx hb dX4_canTell_37 (by decide) ?_
          exact g_zret hx hb hr hlk hh hS (Or.inr rfl) (show 1 = f_X4_canTellN C N tv i from by rw [f_X4_canTellN, if_pos c_4_0, if_neg c_12_2, if_pos c_21_3, if_neg c_33_5]) dX4_canTell_41
    · refine lv_iconst (v := 0) hx hb dX4_canTell_15 (by decide) ?_
      exact g_zret hx hb hr hlk hh hS (Or.inl rfl) (show 0 = f_X4_canTellN C N tv i from by rw [f_X4_canTellN, if_pos c_4_0, if_pos c_12_2]) dX4_canTell_16
theorem canTell_b {C : gT} {N : gN} {tv i q : Nat} (hN : N 3 ≤ 8) (h : ¬ f_X4_canTell C N tv i q = 0) : (C 31 i = 0 → N 3 < 8) ∧ (¬ C 31 i = 0 → ¬ (8 : Int32) ≤ C 62 q) := by
  unfold f_X4_canTell at h
  refine ⟨fun h0 => ?_, fun h0 h8 => ?_⟩
  · rw [if_pos h0] at h
    rcases Nat.lt_or_ge (N 3) 8 with h1 | h1
    · exact h1
    · refine absurd ?_ h
      rw [if_pos (show (8 : Int32) ≤ nI (N 3) from by rw [show N 3 = 8 by omega]; decide)]
      repeat' split
      all_goals rfl
  · rw [if_neg h0, f_X1_canGoOnWith, if_pos h8] at h
    refine absurd ?_ h
    repeat' split
    all_goals first | rfl | (rename_i h1; exact absurd rfl h1) | (rename_i h1; exact absurd (by split <;> rfl) h1)
theorem canTellN_b {C : gT} {N : gN} {tv i : Nat} (hN : N 3 ≤ 8) (h : ¬ f_X4_canTellN C N tv i = 0) : N 3 < 8 := by
  unfold f_X4_canTellN at h
  rcases Nat.lt_or_ge (N 3) 8 with h1 | h1
  · exact h1
  · refine absurd ?_ h
    rw [if_pos (show (8 : Int32) ≤ nI (N 3) from by rw [show N 3 = 8 by omega]; decide)]
    repeat' split
    all_goals rfl
theorem sz_lt {C : gT} {q : Nat} (h1 : C 62 q = nI (szC C q)) (h2 : szC C q ≤ 8) (h : ¬ (8 : Int32) ≤ C 62 q) : szC C q < 8 := by
  rcases Nat.lt_or_ge (szC C q) 8 with h3 | h3
  · exact h3
  · refine absurd ?_ h
    rw [h1, show szC C q = 8 by omega]
    decide
/-- a scene is told on in a plot -/
def toC (C : gT) (q i : Nat) : gT := rset (tset (tset (tset (tset C 61 q (C 61 q + C 32 i)) 62 q (nI (szC C q + 1))) 63 q (nI i)) 64 q (C 64 q ||| (1 <<< (C 30 i &&& 31)))) (200 + q) (upd (C (200 + q)) (szC C q) (C 30 i))
theorem toC_o {C : gT} {q i0 f i : Nat} (h : ¬ (60 ≤ f ∧ f < 66 ∧ i = q)) (h2 : f ≠ 200 + q) : toC C q i0 f i = C f i :=
  (congrFun (rset_o h2) i).trans ((tset_o (by omega)).trans ((tset_o (by omega)).trans ((tset_o (by omega)).trans (tset_o (by omega)))))
theorem toC_64 {C : gT} {q i : Nat} : toC C q i 64 q = (C 64 q ||| (1 <<< (C 30 i &&& 31))) := (congrFun (rset_o (by omega)) _).trans tset_s
theorem toC_63 {C : gT} {q i : Nat} : toC C q i 63 q = nI i := (congrFun (rset_o (by omega)) _).trans ((tset_o (by omega)).trans tset_s)
theorem toC_62 {C : gT} {q i : Nat} : toC C q i 62 q = nI (szC C q + 1) := (congrFun (rset_o (by omega)) _).trans ((tset_o (by omega)).trans ((tset_o (by omega)).trans tset_s))
theorem toC_61 {C : gT} {q i : Nat} : toC C q i 61 q = C 61 q + C 32 i := (congrFun (rset_o (by omega)) _).trans ((tset_o (by omega)).trans ((tset_o (by omega)).trans ((tset_o (by omega)).trans tset_s)))
theorem toC_65 {C : gT} {q i : Nat} : toC C q i 65 q = C 65 q := (congrFun (rset_o (by omega)) _).trans ((tset_o (by omega)).trans ((tset_o (by omega)).trans ((tset_o (by omega)).trans (tset_o (by omega)))))
theorem Wd_to {G : gG} {ad : gAd} {N : gN} {C M : gT} {o : Nat → Int64} {q i : Nat} (hN : N 1 ≤ 4 ∧ N 3 ≤ 8) (hq : q < N 3) (hi : i < 2 ^ 31) (b j : Nat) : Wd G ad N (toC C q i) M o b j = tellCt G ad (Wd G ad N C M o) q i (szC C q) (C 61 q) (C 64 q) (C 65 q) (C (200 + q)) (C 30 i) (C 32 i) b j := by
  show _ = ctset (ctset _ 8 q _) 6 q _ b j
  by_cases k6 : b = 6 ∧ j = q
  · obtain ⟨rfl, rfl⟩ := k6
    rw [ctset_s, Wd_Pl hq, ePl, toC_61, toC_62, toC_63, toC_64, toC_65, nI_clamp hi]
  · rw [ctset_o k6]
    by_cases k8 : b = 8 ∧ j = q
    · obtain ⟨rfl, rfl⟩ := k8
      rw [ctset_s, Wd_Rw hq, show toC C j i (200 + j) = upd (C (200 + j)) (szC C j) (C 30 i) from rset_s]
    · rw [ctset_o k8]
      exact Wd_x b j (fun z k hk => toC_o (by omega) (by omega)) (fun z k => ⟨rfl, rfl⟩) (fun z h4 => ⟨toC_o (by omega) (by omega), rfl, rfl⟩) (fun z h4 => ⟨rfl, rfl, fun k hk => rfl⟩)
        (fun z => ⟨Iff.rfl, fun h9 f _ _ => toC_o (by omega) (by omega)⟩) (fun z => ⟨Iff.rfl, fun h9 => ⟨rfl, fun f _ _ => toC_o (by omega) (by omega)⟩⟩) (fun z => ⟨Iff.rfl, fun h9 f _ _ => toC_o (by omega) (by omega)⟩)
        (fun z => ⟨Iff.rfl, fun h9 => ⟨rfl, rfl, fun f _ _ => toC_o (by omega) (by omega)⟩⟩) (fun z => ⟨Iff.rfl, fun h9 => funext fun k => toC_o (by omega) (by omega)⟩) (fun z => ⟨Iff.rfl, fun h9 => funext fun k => toC_o (by omega) (by omega)⟩)
theorem IC_to {N : gN} {C : gT} {q i : Nat} (h : IC N C) (hi : i < N 0) (hq : q < N 3) (h8 : szC C q < 8) : IC N (toC C q i) := by
  refine ⟨h.1, h.2.1, fun q' hq' => ?_⟩
  have h0 := h.1.1
  have h3 := h.1.2.2.2
  by_cases hqq : q' = q
  · subst hqq
    rw [szC, toC_62, toC_63, nI_clamp (by omega), nI_clamp (by omega)]
    exact ⟨hi, rfl, h8⟩
  · obtain ⟨k1, k2, k3⟩ := h.2.2 q' hq'
    rw [szC, toC_o (by omega) (by omega), toC_o (by omega) (by omega)]
    exact ⟨k1, k2, k3⟩
theorem ctset_8686 {ct : gC} {n : Nat} {e6 e8 e6' e8' e6'' : Option va_E} : ctset (ctset (ctset (ctset (ctset ct 6 n e6) 8 n e8) 6 n e6') 8 n e8') 6 n e6'' = ctset (ctset ct 8 n e8') 6 n e6'' := by
  funext b j
  by_cases h6 : b = 6 ∧ j = n
  · rw [h6.1, h6.2, ctset_s, ctset_s]
  · rw [ctset_o h6, ctset_o h6]
    by_cases h8 : b = 8 ∧ j = n
    · rw [h8.1, h8.2, ctset_s, ctset_s]
    · rw [ctset_o h8, ctset_o h6, ctset_o h8, ctset_o h6, ctset_o h8]
def f_X4_tellB (C : gT) (N : gN) (v w : Int32) : Int32 := (f_X4_tollOf C N w.toNatClampNeg)
def s_X4_tellB (C : gT) (N : gN) (v w : Int32) : gT := (tset (tset (tset (tset (tset (s_X4_letGuardsHear C N w.toNatClampNeg) 35 w.toNatClampNeg (((s_X4_letGuardsHear C N w.toNatClampNeg) 35 w.toNatClampNeg) + 1)) 54 v.toNatClampNeg (((s_X4_letGuardsHear C N w.toNatClampNeg) 54 v.toNatClampNeg) + 1)) 52 v.toNatClampNeg (((s_X4_letGuardsHear C N w.toNatClampNeg) 52 v.toNatClampNeg) + (f_X4_tollOf C N w.toNatClampNeg))) 0 7 (((s_X4_letGuardsHear C N w.toNatClampNeg) 0 7) + 1)) 0 6 (((s_X4_letGuardsHear C N w.toNatClampNeg) 0 6) + (f_X4_tollOf C N w.toNatClampNeg)))
def f_X4_tell (C : gT) (N : gN) (v : Int32) (w : Int32) (x : Int32) : Int32 ⊕ String := (if gIn v (N 2) then (if gIn w (N 0) then (if gIn x (N 3) then (if (C 31 w.toNatClampNeg) = 0 then (if (f_X4_canTell C N v.toNatClampNeg w.toNatClampNeg x.toNatClampNeg) = 0 then (Sum.inr xS) else (Sum.inl (f_X4_tellB (plC C (N 3) w.toNatClampNeg (C 30 w.toNatClampNeg) (C 32 w.toNatClampNeg)) (nN N 3) v w))) else (if (f_X4_canTell C N v.toNatClampNeg w.toNatClampNeg x.toNatClampNeg) = 0 then (Sum.inr xS) else (Sum.inl (f_X4_tellB (toC C x.toNatClampNeg w.toNatClampNeg) N v w)))) else (if (C 31 w.toNatClampNeg) = 0 then (if (f_X4_canTellN C N v.toNatClampNeg w.toNatClampNeg) = 0 then (Sum.inr xS) else (Sum.inl (f_X4_tellB (plC C (N 3) w.toNatClampNeg (C 30 w.toNatClampNeg) (C 32 w.toNatClampNeg)) (nN N 3) v w))) else (Sum.inr xI))) else (Sum.inr xI)) else (if gIn w (N 0) then (Sum.inr xI) else (Sum.inr xI)))
def s_X4_tell (C : gT) (N : gN) (v : Int32) (w : Int32) (x : Int32) : gT := (if gIn v (N 2) then (if gIn w (N 0) then (if gIn x (N 3) then (if (C 31 w.toNatClampNeg) = 0 then (if (f_X4_canTell C N v.toNatClampNeg w.toNatClampNeg x.toNatClampNeg) = 0 then C else (s_X4_tellB (plC C (N 3) w.toNatClampNeg (C 30 w.toNatClampNeg) (C 32 w.toNatClampNeg)) (nN N 3) v w)) else (if (f_X4_canTell C N v.toNatClampNeg w.toNatClampNeg x.toNatClampNeg) = 0 then C else (s_X4_tellB (toC C x.toNatClampNeg w.toNatClampNeg) N v w))) else (if (C 31 w.toNatClampNeg) = 0 then (if (f_X4_canTellN C N v.toNatClampNeg w.toNatClampNeg) = 0 then C else (s_X4_tellB (plC C (N 3) w.toNatClampNeg (C 30 w.toNatClampNeg) (C 32 w.toNatClampNeg)) (nN N 3) v w)) else C)) else C) else (if gIn w (N 0) then C else C))
def n_X4_tell (C : gT) (N : gN) (v : Int32) (w : Int32) (x : Int32) : gN := (if gIn v (N 2) then (if gIn w (N 0) then (if gIn x (N 3) then (if (C 31 w.toNatClampNeg) = 0 then (if (f_X4_canTell C N v.toNatClampNeg w.toNatClampNeg x.toNatClampNeg) = 0 then N else (nN N 3)) else (if (f_X4_canTell C N v.toNatClampNeg w.toNatClampNeg x.toNatClampNeg) = 0 then N else N)) else (if (C 31 w.toNatClampNeg) = 0 then (if (f_X4_canTellN C N v.toNatClampNeg w.toNatClampNeg) = 0 then N else (nN N 3)) else N)) else N) else (if gIn w (N 0) then N else N))
set_option maxHeartbeats 4000000 in
set_option maxRecDepth 100000 in
theorem c_X4_tell (l : Launch) (D : va_G) (G : gG) (A : Nat → Prop) (ad : gAd) (N : gN) (C M : gT) (o : Nat → Int64) (Hp : Heap) (hW : gW D A ad (Wd G ad N C M o) Hp) (hl0 : l.stackTraces = false) (hA : ∀ q, Hp.size ≤ q → A q) (hR : IR N) (mi : Nat) (hC : IC N C) (v w x : Int32) : vx_Met l yX4_tell wsX4_tell ({ frames := 7, cells := 3, slots := 47, locals := 261 }) (va_Pc [.ref (ad 0 0), .int v, .int w, .int x] (gQY D G Hp mi A)) (va_Qi (fun r (u : gAd) => f_X4_tell C N v w x = .inl r ∧ ∀ i, u 0 i = ad 0 i) (fun u t => gW D A u (Wd G u (n_X4_tell C N v w x) (s_X4_tell C N v w x) M o) t.heap) A) (vx_X (fun (_ : Unit) => True) (fun E _ t => f_X4_tell C N v w x = .inr E ∧ gW D A ad (Wd G ad N C M o) t.heap) A) 3 47 A := by
  refine g_startY (cc := cX4_tell) (maxL := 8) (ret := (some .int)) (by decide) rfl (Nat.le_of_ble_eq_true rfl) (fun p e s m below meth c ls C0 hr hlk hh hK hE hL hNe hnt hl => ?_)
  obtain ⟨hx, hb, hml, hown, hts⟩ := id C0
  have hown : s.vm.findClass RX4 = some m.cls := hown
  have hS : va_S A Hp Hp [] := va_S.rf
  have hl : lv_has ls 8 [(0, .ref (ad 0 0)), (1, .int v), (2, .int w), (3, .int x)] := hl
  have inX2 : ∀ w ∈ wsX20, w ∈ wsX4_tell := by decide +kernel
  have inX4 : ∀ w ∈ wsX40, w ∈ wsX4_tell := by decide +kernel
  have inX1 : ∀ w ∈ wsX10, w ∈ wsX4_tell := by decide +kernel
  have inX3 : ∀ w ∈ wsX30, w ∈ wsX4_tell := by decide +kernel
  obtain ⟨⟨hc0, hc1, hc2, hc3⟩, hNN, hCp⟩ := id hC
  have hn0 := hNN 0 (by decide)
  have hn1 := hNN 1 (by decide)
  have hn2 := hNN 2 (by decide)
  have hn3 := hNN 3 (by decide)
  have hCl : ∀ p, p < N 3 → (C 63 p).toNatClampNeg < N 0 := fun p h9 => (hCp p h9).1
  have cut127 : ∀ (ad2 : gAd) (N2 : gN) (C2 : gT) (H : Heap) (locs : List Loc) (ls : Array Slot), (∀ i, ad2 0 i = ad 0 i) → f_X4_tell C N v w x = .inl (f_X4_tellB C2 N2 v w) → s_X4_tell C N v w x = s_X4_tellB C2 N2 v w → n_X4_tell C N v w x = N2 → IC N2 C2 → v.toNatClampNeg < N2 2 → w.toNatClampNeg < N2 0 → lv_has ls 8 [(4, .ref (ad2 5 v.toNatClampNeg)), (5, .ref (ad2 3 w.toNatClampNeg)), (0, .ref (ad2 0 0))] → gW D A ad2 (Wd G ad2 N2 C2 M o) H → va_S A Hp H locs → W p l e ({ frames := 7, cells := 3, slots := 47, locals := 261 }) s m ([.ref (ad 0 0), .int v, .int w, .int x] : List Value).toArray below meth c H locs 3 47 (vx_MQ below (va_Qi (fun r (u : gAd) => f_X4_tell C N v w x = .inl r ∧ ∀ i, u 0 i = ad 0 i) (fun u t => gW D A u (Wd G u (n_X4_tell C N v w x) (s_X4_tell C N v w x) M o) t.heap) A) (vx_X (fun (_ : Unit) => True) (fun E _ t => f_X4_tell C N v w x = .inr E ∧ gW D A ad (Wd G ad N C M o) t.heap) A) ([.ref (ad 0 0), .int v, .int w, .int x] : List Value).toArray s 3 47 A) (F0 m 127 ls []) := by
    intro ad2 N2 C2 H locs ls h02 hF hG hNa hC h5 h3 hl hW hS
    obtain ⟨⟨hc0, hc1, hc2, hc3⟩, hNN, hCp⟩ := id hC
    have hn0 := hNN 0 (by decide)
    have hn1 := hNN 1 (by decide)
    have hn2 := hNN 2 (by decide)
    have hn3 := hNN 3 (by decide)
    refine lv_aload_n hx hb dX4_tell_127 rfl (lv_at hl 2 rfl) ?_
    refine lv_aload hx hb dX4_tell_128 (lv_at hl 1 rfl) ?_
    refine g_Vi (As := [.ref (ad2 3 w.toNatClampNeg)]) (rest := []) C0 (c_X4_tollOf l D G A ad2 N2 C2 M o H hW hC w.toNatClampNeg h3) (cwV 1 hts gX4_tell_X4_tollOf rfl rfl rfl (by decide +kernel) ⟨Nat.le_of_ble_eq_true rfl, Nat.le_of_ble_eq_true rfl⟩) hK (va_recv hK (hW.p rfl) (ci := 5) (q0 := 0) rfl rfl) rfl hl rfl (Nat.le_of_ble_eq_true rfl) dX4_tell_130 ⟨(Nat.le_of_ble_eq_true rfl), (Nat.le_of_ble_eq_true rfl)⟩ hS (fun r_11 locs hr_11 hS => ?_)
    replace hr_11 : r_11 = (f_X4_tollOf C2 N2 w.toNatClampNeg) := hr_11
    subst r_11
    refine lv_istore (lv' := [(7, .int (f_X4_tollOf C2 N2 w.toNatClampNeg)), (4, .ref (ad2 5 v.toNatClampNeg)), (5, .ref (ad2 3 w.toNatClampNeg)), (0, .ref (ad2 0 0))]) hx hb dX4_tell_133 hl (by decide) rfl (fun ls hl => ?_)
    refine lv_aload_n hx hb dX4_tell_135 rfl (lv_at hl 3 rfl) ?_
    refine lv_aload hx hb dX4_tell_136 (lv_at hl 2 rfl) ?_
    refine g_wVv (As := [.ref (ad2 3 w.toNatClampNeg)]) (rest := []) (B := fun (_ : Unit) H => gW D A ad2 (Wd G ad2 N2 (s_X4_letGuardsHear C2 N2 w.toNatClampNeg) M o) H) (mc := 0) (ms := 0) C0 (c_X4_letGuardsHear l D G A ad2 N2 C2 M o H hW hC w.toNatClampNeg h3) (cwV 1 hts gX4_tell_X4_letGuardsHear rfl rfl rfl (by decide +kernel) ⟨Nat.le_of_ble_eq_true rfl, Nat.le_of_ble_eq_true rfl⟩) hK (va_recv hK (hW.p rfl) (ci := 5) (q0 := 0) rfl rfl) rfl hl rfl (Nat.le_of_ble_eq_true rfl) dX4_tell_138 ⟨(Nat.le_of_ble_eq_true rfl), (Nat.le_of_ble_eq_true rfl)⟩ hS (fun ur_12 H locs hr_12 hW hzr_12 hS => ?_)
    have hW : gW D A ad2 (Wd G ad2 N2 (s_X4_letGuardsHear C2 N2 w.toNatClampNeg) M o) H := hW
    refine lv_aload hx hb dX4_tell_141 (lv_at hl 2 rfl) ?_
    refine lv_dup hx hb dX4_tell_143 rfl ?_
    refine va_get (D := D) (ci := 3) (v := .int ((s_X4_letGuardsHear C2 N2 w.toNatClampNeg) 35 w.toNatClampNeg)) (C := RX2) (T := TX2) (N := 6) hx hb hts inX2 hown hK (hW.p (e := (eS (s_X4_letGuardsHear C2 N2 w.toNatClampNeg) w.toNatClampNeg)) (Wd_S h3)) 0 rfl rfl 5 (by decide) (hts (.fieldLink RX4 133 "StoryToll$Scene" "timesTold" "I") (List.mem_of_getElem? (i := 10) rfl)) (fun _ h9 => h9) rfl dX4_tell_144 ?_
    refine lv_iconst (v := 1) hx hb dX4_tell_147 (by decide) ?_
    refine lv_iadd hx hb dX4_tell_148 ?_
    refine g_put (D := D) (ci := 3) (v := .int (((s_X4_letGuardsHear C2 N2 w.toNatClampNeg) 35 w.toNatClampNeg) + 1)) (ty := .int) (C := RX2) (T := TX2) (N := 6) (ct' := (Wd G ad2 N2 (tset (s_X4_letGuardsHear C2 N2 w.toNatClampNeg) 35 w.toNatClampNeg (((s_X4_letGuardsHear C2 N2 w.toNatClampNeg) 35 w.toNatClampNeg) + 1)) M o)) hx hb hts inX2 tyX2 tyX2_ok nmX2 hown hK hW hS (show Wd G ad2 N2 (s_X4_letGuardsHear C2 N2 w.toNatClampNeg) M o 3 w.toNatClampNeg = some (eS (s_X4_letGuardsHear C2 N2 w.toNatClampNeg) w.toNatClampNeg) from (Wd_S h3)) rfl 5 (by decide) (hts (.fieldLink RX4 133 "StoryToll$Scene" "timesTold" "I") (List.mem_of_getElem? (i := 10) rfl)) (fun _ h9 => h9) rfl (by decide +kernel) rfl rfl (Nat.le_of_ble_eq_true rfl) dX4_tell_149 (Wd_f35 h3) (Wd_tk (by decide)) (fun H locs hW hS => ?_)
    refine lv_aload hx hb dX4_tell_152 (lv_at hl 1 rfl) ?_
    refine lv_dup hx hb dX4_tell_154 rfl ?_
    refine va_get (D := D) (ci := 4) (v := .int ((tset (s_X4_letGuardsHear C2 N2 w.toNatClampNeg) 35 w.toNatClampNeg (((s_X4_letGuardsHear C2 N2 w.toNatClampNeg) 35 w.toNatClampNeg) + 1)) 54 v.toNatClampNeg)) (C := RX3) (T := TX3) (N := 5) hx hb hts inX3 hown hK (hW.p (e := (eTr (tset (s_X4_letGuardsHear C2 N2 w.toNatClampNeg) 35 w.toNatClampNeg (((s_X4_letGuardsHear C2 N2 w.toNatClampNeg) 35 w.toNatClampNeg) + 1)) v.toNatClampNeg)) (Wd_Tr h5)) 0 rfl rfl 4 (by decide) (hts (.fieldLink RX4 136 "StoryToll$Traveller" "scenesTold" "I") (List.mem_of_getElem? (i := 11) rfl)) (fun _ h9 => h9) rfl dX4_tell_155 ?_
    rw [show ((tset (s_X4_letGuardsHear C2 N2 w.toNatClampNeg) 35 w.toNatClampNeg (((s_X4_letGuardsHear C2 N2 w.toNatClampNeg) 35 w.toNatClampNeg) + 1)) 54 v.toNatClampNeg) = ((s_X4_letGuardsHear C2 N2 w.toNatClampNeg) 54 v.toNatClampNeg) from by rw [tset_of (by decide)]]
    refine lv_iconst (v := 1) hx hb dX4_tell_158 (by decide) ?_
    refine lv_iadd hx hb dX4_tell_159 ?_
    refine g_put (D := D) (ci := 4) (v := .int (((s_X4_letGuardsHear C2 N2 w.toNatClampNeg) 54 v.toNatClampNeg) + 1)) (ty := .int) (C := RX3) (T := TX3) (N := 5) (ct' := (Wd G ad2 N2 (tset (tset (s_X4_letGuardsHear C2 N2 w.toNatClampNeg) 35 w.toNatClampNeg (((s_X4_letGuardsHear C2 N2 w.toNatClampNeg) 35 w.toNatClampNeg) + 1)) 54 v.toNatClampNeg (((s_X4_letGuardsHear C2 N2 w.toNatClampNeg) 54 v.toNatClampNeg) + 1)) M o)) hx hb hts inX3 tyX3 tyX3_ok nmX3 hown hK hW hS (show Wd G ad2 N2 (tset (s_X4_letGuardsHear C2 N2 w.toNatClampNeg) 35 w.toNatClampNeg (((s_X4_letGuardsHear C2 N2 w.toNatClampNeg) 35 w.toNatClampNeg) + 1)) M o 5 v.toNatClampNeg = some (eTr (tset (s_X4_letGuardsHear C2 N2 w.toNatClampNeg) 35 w.toNatClampNeg (((s_X4_letGuardsHear C2 N2 w.toNatClampNeg) 35 w.toNatClampNeg) + 1)) v.toNatClampNeg) from (Wd_Tr h5)) rfl 4 (by decide) (hts (.fieldLink RX4 136 "StoryToll$Traveller" "scenesTold" "I") (List.mem_of_getElem? (i := 11) rfl)) (fun _ h9 => h9) rfl (by decide +kernel) rfl rfl (Nat.le_of_ble_eq_true rfl) dX4_tell_160 (Wd_f54 h5) (Wd_tk (by decide)) (fun H locs hW hS => ?_)
    refine lv_aload hx hb dX4_tell_163 (lv_at hl 1 rfl) ?_
    refine lv_dup hx hb dX4_tell_165 rfl ?_
    refine va_get (D := D) (ci := 4) (v := .int ((tset (tset (s_X4_letGuardsHear C2 N2 w.toNatClampNeg) 35 w.toNatClampNeg (((s_X4_letGuardsHear C2 N2 w.toNatClampNeg) 35 w.toNatClampNeg) + 1)) 54 v.toNatClampNeg (((s_X4_letGuardsHear C2 N2 w.toNatClampNeg) 54 v.toNatClampNeg) + 1)) 52 v.toNatClampNeg)) (C := RX3) (T := TX3) (N := 5) hx hb hts inX3 hown hK (hW.p (e := (eTr (tset (tset (s_X4_letGuardsHear C2 N2 w.toNatClampNeg) 35 w.toNatClampNeg (((s_X4_letGuardsHear C2 N2 w.toNatClampNeg) 35 w.toNatClampNeg) + 1)) 54 v.toNatClampNeg (((s_X4_letGuardsHear C2 N2 w.toNatClampNeg) 54 v.toNatClampNeg) + 1)) v.toNatClampNeg)) (Wd_Tr h5)) 0 rfl rfl 2 (by decide) (hts (.fieldLink RX4 139 "StoryToll$Traveller" "paid" "I") (List.mem_of_getElem? (i := 12) rfl)) (fun _ h9 => h9) rfl dX4_tell_166 ?_
    rw [show ((tset (tset (s_X4_letGuardsHear C2 N2 w.toNatClampNeg) 35 w.toNatClampNeg (((s_X4_letGuardsHear C2 N2 w.toNatClampNeg) 35 w.toNatClampNeg) + 1)) 54 v.toNatClampNeg (((s_X4_letGuardsHear C2 N2 w.toNatClampNeg) 54 v.toNatClampNeg) + 1)) 52 v.toNatClampNeg) = ((s_X4_letGuardsHear C2 N2 w.toNatClampNeg) 52 v.toNatClampNeg) from by rw [tset_of (by decide), tset_of (by decide)]]
    refine lv_iload hx hb dX4_tell_169 (lv_at hl 0 rfl) ?_
    refine lv_iadd hx hb dX4_tell_171 ?_
    refine g_put (D := D) (ci := 4) (v := .int (((s_X4_letGuardsHear C2 N2 w.toNatClampNeg) 52 v.toNatClampNeg) + (f_X4_tollOf C2 N2 w.toNatClampNeg))) (ty := .int) (C := RX3) (T := TX3) (N := 5) (ct' := (Wd G ad2 N2 (tset (tset (tset (s_X4_letGuardsHear C2 N2 w.toNatClampNeg) 35 w.toNatClampNeg (((s_X4_letGuardsHear C2 N2 w.toNatClampNeg) 35 w.toNatClampNeg) + 1)) 54 v.toNatClampNeg (((s_X4_letGuardsHear C2 N2 w.toNatClampNeg) 54 v.toNatClampNeg) + 1)) 52 v.toNatClampNeg (((s_X4_letGuardsHear C2 N2 w.toNatClampNeg) 52 v.toNatClampNeg) + (f_X4_tollOf C2 N2 w.toNatClampNeg))) M o)) hx hb hts inX3 tyX3 tyX3_ok nmX3 hown hK hW hS (show Wd G ad2 N2 (tset (tset (s_X4_letGuardsHear C2 N2 w.toNatClampNeg) 35 w.toNatClampNeg (((s_X4_letGuardsHear C2 N2 w.toNatClampNeg) 35 w.toNatClampNeg) + 1)) 54 v.toNatClampNeg (((s_X4_letGuardsHear C2 N2 w.toNatClampNeg) 54 v.toNatClampNeg) + 1)) M o 5 v.toNatClampNeg = some (eTr (tset (tset (s_X4_letGuardsHear C2 N2 w.toNatClampNeg) 35 w.toNatClampNeg (((s_X4_letGuardsHear C2 N2 w.toNatClampNeg) 35 w.toNatClampNeg) + 1)) 54 v.toNatClampNeg (((s_X4_letGuardsHear C2 N2 w.toNatClampNeg) 54 v.toNatClampNeg) + 1)) v.toNatClampNeg) from (Wd_Tr h5)) rfl 2 (by decide) (hts (.fieldLink RX4 139 "StoryToll$Traveller" "paid" "I") (List.mem_of_getElem? (i := 12) rfl)) (fun _ h9 => h9) rfl (by decide +kernel) rfl rfl (Nat.le_of_ble_eq_true rfl) dX4_tell_172 (Wd_f52 h5) (Wd_tk (by decide)) (fun H locs hW hS => ?_)
    refine lv_aload_n hx hb dX4_tell_175 rfl (lv_at hl 3 rfl) ?_
    refine lv_dup hx hb dX4_tell_176 rfl ?_
    refine va_get (D := D) (ci := 5) (v := .int ((tset (tset (tset (s_X4_letGuardsHear C2 N2 w.toNatClampNeg) 35 w.toNatClampNeg (((s_X4_letGuardsHear C2 N2 w.toNatClampNeg) 35 w.toNatClampNeg) + 1)) 54 v.toNatClampNeg (((s_X4_letGuardsHear C2 N2 w.toNatClampNeg) 54 v.toNatClampNeg) + 1)) 52 v.toNatClampNeg (((s_X4_letGuardsHear C2 N2 w.toNatClampNeg) 52 v.toNatClampNeg) + (f_X4_tollOf C2 N2 w.toNatClampNeg))) 0 7)) (C := RX4) (T := TX4) (N := 9) hx hb hts inX4 hown hK (hW.p (e := (eToll ad2 (tset (tset (tset (s_X4_letGuardsHear C2 N2 w.toNatClampNeg) 35 w.toNatClampNeg (((s_X4_letGuardsHear C2 N2 w.toNatClampNeg) 35 w.toNatClampNeg) + 1)) 54 v.toNatClampNeg (((s_X4_letGuardsHear C2 N2 w.toNatClampNeg) 54 v.toNatClampNeg) + 1)) 52 v.toNatClampNeg (((s_X4_letGuardsHear C2 N2 w.toNatClampNeg) 52 v.toNatClampNeg) + (f_X4_tollOf C2 N2 w.toNatClampNeg))))) rfl) 0 rfl rfl 7 (by decide) (hts (.fieldLink RX4 142 "StoryToll" "scenesTold" "I") (List.mem_of_getElem? (i := 13) rfl)) (fun _ h9 => h9) rfl dX4_tell_177 ?_
    rw [show ((tset (tset (tset (s_X4_letGuardsHear C2 N2 w.toNatClampNeg) 35 w.toNatClampNeg (((s_X4_letGuardsHear C2 N2 w.toNatClampNeg) 35 w.toNatClampNeg) + 1)) 54 v.toNatClampNeg (((s_X4_letGuardsHear C2 N2 w.toNatClampNeg) 54 v.toNatClampNeg) + 1)) 52 v.toNatClampNeg (((s_X4_letGuardsHear C2 N2 w.toNatClampNeg) 52 v.toNatClampNeg) + (f_X4_tollOf C2 N2 w.toNatClampNeg))) 0 7) = ((s_X4_letGuardsHear C2 N2 w.toNatClampNeg) 0 7) from by rw [tset_of (by decide), tset_of (by decide), tset_of (by decide)]]
    refine lv_iconst (v := 1) hx hb dX4_tell_180 (by decide) ?_
    refine lv_iadd hx hb dX4_tell_181 ?_
    refine g_put (D := D) (ci := 5) (v := .int (((s_X4_letGuardsHear C2 N2 w.toNatClampNeg) 0 7) + 1)) (ty := .int) (C := RX4) (T := TX4) (N := 9) (ct' := (Wd G ad2 N2 (tset (tset (tset (tset (s_X4_letGuardsHear C2 N2 w.toNatClampNeg) 35 w.toNatClampNeg (((s_X4_letGuardsHear C2 N2 w.toNatClampNeg) 35 w.toNatClampNeg) + 1)) 54 v.toNatClampNeg (((s_X4_letGuardsHear C2 N2 w.toNatClampNeg) 54 v.toNatClampNeg) + 1)) 52 v.toNatClampNeg (((s_X4_letGuardsHear C2 N2 w.toNatClampNeg) 52 v.toNatClampNeg) + (f_X4_tollOf C2 N2 w.toNatClampNeg))) 0 7 (((s_X4_letGuardsHear C2 N2 w.toNatClampNeg) 0 7) + 1)) M o)) hx hb hts inX4 tyX4 tyX4_ok nmX4 hown hK hW hS (show Wd G ad2 N2 (tset (tset (tset (s_X4_letGuardsHear C2 N2 w.toNatClampNeg) 35 w.toNatClampNeg (((s_X4_letGuardsHear C2 N2 w.toNatClampNeg) 35 w.toNatClampNeg) + 1)) 54 v.toNatClampNeg (((s_X4_letGuardsHear C2 N2 w.toNatClampNeg) 54 v.toNatClampNeg) + 1)) 52 v.toNatClampNeg (((s_X4_letGuardsHear C2 N2 w.toNatClampNeg) 52 v.toNatClampNeg) + (f_X4_tollOf C2 N2 w.toNatClampNeg))) M o 0 0 = some (eToll ad2 (tset (tset (tset (s_X4_letGuardsHear C2 N2 w.toNatClampNeg) 35 w.toNatClampNeg (((s_X4_letGuardsHear C2 N2 w.toNatClampNeg) 35 w.toNatClampNeg) + 1)) 54 v.toNatClampNeg (((s_X4_letGuardsHear C2 N2 w.toNatClampNeg) 54 v.toNatClampNeg) + 1)) 52 v.toNatClampNeg (((s_X4_letGuardsHear C2 N2 w.toNatClampNeg) 52 v.toNatClampNeg) + (f_X4_tollOf C2 N2 w.toNatClampNeg)))) from rfl) rfl 7 (by decide) (hts (.fieldLink RX4 142 "StoryToll" "scenesTold" "I") (List.mem_of_getElem? (i := 13) rfl)) (fun _ h9 => h9) rfl (by decide +kernel) rfl rfl (Nat.le_of_ble_eq_true rfl) dX4_tell_182 Wd_c7 Wd_t0 (fun H locs hW hS => ?_)
    refine lv_aload_n hx hb dX4_tell_185 rfl (lv_at hl 3 rfl) ?_
    refine lv_dup hx hb dX4_tell_186 rfl ?_
    refine va_get (D := D) (ci := 5) (v := .int ((tset (tset (tset (tset (s_X4_letGuardsHear C2 N2 w.toNatClampNeg) 35 w.toNatClampNeg (((s_X4_letGuardsHear C2 N2 w.toNatClampNeg) 35 w.toNatClampNeg) + 1)) 54 v.toNatClampNeg (((s_X4_letGuardsHear C2 N2 w.toNatClampNeg) 54 v.toNatClampNeg) + 1)) 52 v.toNatClampNeg (((s_X4_letGuardsHear C2 N2 w.toNatClampNeg) 52 v.toNatClampNeg) + (f_X4_tollOf C2 N2 w.toNatClampNeg))) 0 7 (((s_X4_letGuardsHear C2 N2 w.toNatClampNeg) 0 7) + 1)) 0 6)) (C := RX4) (T := TX4) (N := 9) hx hb hts inX4 hown hK (hW.p (e := (eToll ad2 (tset (tset (tset (tset (s_X4_letGuardsHear C2 N2 w.toNatClampNeg) 35 w.toNatClampNeg (((s_X4_letGuardsHear C2 N2 w.toNatClampNeg) 35 w.toNatClampNeg) + 1)) 54 v.toNatClampNeg (((s_X4_letGuardsHear C2 N2 w.toNatClampNeg) 54 v.toNatClampNeg) + 1)) 52 v.toNatClampNeg (((s_X4_letGuardsHear C2 N2 w.toNatClampNeg) 52 v.toNatClampNeg) + (f_X4_tollOf C2 N2 w.toNatClampNeg))) 0 7 (((s_X4_letGuardsHear C2 N2 w.toNatClampNeg) 0 7) + 1)))) rfl) 0 rfl rfl 6 (by decide) (hts (.fieldLink RX4 143 "StoryToll" "tolls" "I") (List.mem_of_getElem? (i := 14) rfl)) (fun _ h9 => h9) rfl dX4_tell_187 ?_
    rw [show ((tset (tset (tset (tset (s_X4_letGuardsHear C2 N2 w.toNatClampNeg) 35 w.toNatClampNeg (((s_X4_letGuardsHear C2 N2 w.toNatClampNeg) 35 w.toNatClampNeg) + 1)) 54 v.toNatClampNeg (((s_X4_letGuardsHear C2 N2 w.toNatClampNeg) 54 v.toNatClampNeg) + 1)) 52 v.toNatClampNeg (((s_X4_letGuardsHear C2 N2 w.toNatClampNeg) 52 v.toNatClampNeg) + (f_X4_tollOf C2 N2 w.toNatClampNeg))) 0 7 (((s_X4_letGuardsHear C2 N2 w.toNatClampNeg) 0 7) + 1)) 0 6) = ((s_X4_letGuardsHear C2 N2 w.toNatClampNeg) 0 6) from by rw [tset_oi (by decide), tset_of (by decide), tset_of (by decide), tset_of (by decide)]]
    refine lv_iload hx hb dX4_tell_190 (lv_at hl 0 rfl) ?_
    refine lv_iadd hx hb dX4_tell_192 ?_
    refine g_put (D := D) (ci := 5) (v := .int (((s_X4_letGuardsHear C2 N2 w.toNatClampNeg) 0 6) + (f_X4_tollOf C2 N2 w.toNatClampNeg))) (ty := .int) (C := RX4) (T := TX4) (N := 9) (ct' := (Wd G ad2 N2 (tset (tset (tset (tset (tset (s_X4_letGuardsHear C2 N2 w.toNatClampNeg) 35 w.toNatClampNeg (((s_X4_letGuardsHear C2 N2 w.toNatClampNeg) 35 w.toNatClampNeg) + 1)) 54 v.toNatClampNeg (((s_X4_letGuardsHear C2 N2 w.toNatClampNeg) 54 v.toNatClampNeg) + 1)) 52 v.toNatClampNeg (((s_X4_letGuardsHear C2 N2 w.toNatClampNeg) 52 v.toNatClampNeg) + (f_X4_tollOf C2 N2 w.toNatClampNeg))) 0 7 (((s_X4_letGuardsHear C2 N2 w.toNatClampNeg) 0 7) + 1)) 0 6 (((s_X4_letGuardsHear C2 N2 w.toNatClampNeg) 0 6) + (f_X4_tollOf C2 N2 w.toNatClampNeg))) M o)) hx hb hts inX4 tyX4 tyX4_ok nmX4 hown hK hW hS (show Wd G ad2 N2 (tset (tset (tset (tset (s_X4_letGuardsHear C2 N2 w.toNatClampNeg) 35 w.toNatClampNeg (((s_X4_letGuardsHear C2 N2 w.toNatClampNeg) 35 w.toNatClampNeg) + 1)) 54 v.toNatClampNeg (((s_X4_letGuardsHear C2 N2 w.toNatClampNeg) 54 v.toNatClampNeg) + 1)) 52 v.toNatClampNeg (((s_X4_letGuardsHear C2 N2 w.toNatClampNeg) 52 v.toNatClampNeg) + (f_X4_tollOf C2 N2 w.toNatClampNeg))) 0 7 (((s_X4_letGuardsHear C2 N2 w.toNatClampNeg) 0 7) + 1)) M o 0 0 = some (eToll ad2 (tset (tset (tset (tset (s_X4_letGuardsHear C2 N2 w.toNatClampNeg) 35 w.toNatClampNeg (((s_X4_letGuardsHear C2 N2 w.toNatClampNeg) 35 w.toNatClampNeg) + 1)) 54 v.toNatClampNeg (((s_X4_letGuardsHear C2 N2 w.toNatClampNeg) 54 v.toNatClampNeg) + 1)) 52 v.toNatClampNeg (((s_X4_letGuardsHear C2 N2 w.toNatClampNeg) 52 v.toNatClampNeg) + (f_X4_tollOf C2 N2 w.toNatClampNeg))) 0 7 (((s_X4_letGuardsHear C2 N2 w.toNatClampNeg) 0 7) + 1))) from rfl) rfl 6 (by decide) (hts (.fieldLink RX4 143 "StoryToll" "tolls" "I") (List.mem_of_getElem? (i := 14) rfl)) (fun _ h9 => h9) rfl (by decide +kernel) rfl rfl (Nat.le_of_ble_eq_true rfl) dX4_tell_193 Wd_c6 Wd_t0 (fun H locs hW hS => ?_)
    refine lv_iload hx hb dX4_tell_196 (lv_at hl 0 rfl) ?_
    exact vx_ret (g_wret (u := ad2) (post := fun r (u : gAd) => f_X4_tell C N v w x = .inl r ∧ ∀ i, u 0 i = ad 0 i) (B := fun u H => gW D A u (Wd G u (n_X4_tell C N v w x) (s_X4_tell C N v w x) M o) H) hx hb hr hlk hh hS ⟨hF, h02⟩ (show gW D A ad2 (Wd G ad2 (n_X4_tell C N v w x) (s_X4_tell C N v w x) M o) H from by rw [hG, hNa]; exact hW) dX4_tell_198)
  refine lv_aload_n hx hb dX4_tell_0 rfl (lv_at hl 0 rfl) ?_
  refine lv_iload_n hx hb dX4_tell_1 rfl (lv_at hl 1 rfl) ?_
  refine g_Vq (As := [.int v]) (rest := []) C0 (c_X4_travellerAt l D G A ad N C M o Hp hW hNN v) (cwV 1 hts gX4_tell_X4_travellerAt rfl rfl rfl (by decide +kernel) ⟨Nat.le_of_ble_eq_true rfl, Nat.le_of_ble_eq_true rfl⟩) hK (va_recv hK (hW.p rfl) (ci := 5) (q0 := 0) rfl rfl) rfl hl rfl (Nat.le_of_ble_eq_true rfl) dX4_tell_2 ⟨Nat.zero_le _, Nat.zero_le _⟩ hS (fun r_1 locs hr_1 hS => ?_)
  by_cases c_f_1 : gIn v (N 2)
  · replace hr_1 : r_1 = some (ad 5 v.toNatClampNeg) := hr_1.trans ((fe_X4_travellerAt _ _ _).trans (if_pos c_f_1))
    subst r_1
    have hr_1 := gIn_of (by omega) c_f_1
    refine lv_astore (lv' := [(4, .ref (ad 5 v.toNatClampNeg)), (0, .ref (ad 0 0)), (1, .int v), (2, .int w), (3, .int x)]) hx hb dX4_tell_5 hl (by decide) rfl (fun ls hl => ?_)
    refine lv_aload_n hx hb dX4_tell_7 rfl (lv_at hl 1 rfl) ?_
    refine lv_iload_n hx hb dX4_tell_8 rfl (lv_at hl 3 rfl) ?_
    refine g_Vq (As := [.int w]) (rest := []) C0 (c_X4_sceneAt l D G A ad N C M o Hp hW hNN w) (cwV 1 hts gX4_tell_X4_sceneAt rfl rfl rfl (by decide +kernel) ⟨Nat.le_of_ble_eq_true rfl, Nat.le_of_ble_eq_true rfl⟩) hK (va_recv hK (hW.p rfl) (ci := 5) (q0 := 0) rfl rfl) rfl hl rfl (Nat.le_of_ble_eq_true rfl) dX4_tell_9 ⟨Nat.zero_le _, Nat.zero_le _⟩ hS (fun r_3 locs hr_3 hS => ?_)
    by_cases c_f_3 : gIn w (N 0)
    · replace hr_3 : r_3 = some (ad 3 w.toNatClampNeg) := hr_3.trans ((fe_X4_sceneAt _ _ _).trans (if_pos c_f_3))
      subst r_3
      have hr_3 := gIn_of (by omega) c_f_3
      refine lv_astore (lv' := [(5, .ref (ad 3 w.toNatClampNeg)), (4, .ref (ad 5 v.toNatClampNeg)), (0, .ref (ad 0 0)), (1, .int v), (2, .int w), (3, .int x)]) hx hb dX4_tell_12 hl (by decide) rfl (fun ls hl => ?_)
      refine lv_aload hx hb dX4_tell_14 (lv_at hl 1 rfl) ?_
      refine lv_ifnull hx hb dX4_tell_16 ?_
      refine lv_aload hx hb dX4_tell_19 (lv_at hl 0 rfl) ?_
      refine lv_ifnonnull (tgt := 34) hx hb dX4_tell_21 (by decide) ?_
      refine lv_aload_n hx hb dX4_tell_34 rfl (lv_at hl 2 rfl) ?_
      refine lv_iload_n hx hb dX4_tell_35 rfl (lv_at hl 5 rfl) ?_
      refine g_Vq (As := [.int x]) (rest := []) C0 (c_X4_plotAt l D G A ad N C M o Hp hW hNN x) (cwV 1 hts gX4_tell_X4_plotAt rfl rfl rfl (by decide +kernel) ⟨Nat.le_of_ble_eq_true rfl, Nat.le_of_ble_eq_true rfl⟩) hK (va_recv hK (hW.p rfl) (ci := 5) (q0 := 0) rfl rfl) rfl hl rfl (Nat.le_of_ble_eq_true rfl) dX4_tell_36 ⟨Nat.zero_le _, Nat.zero_le _⟩ hS (fun r_5 locs hr_5 hS => ?_)
      by_cases c_f_5 : gIn x (N 3)
      · replace hr_5 : r_5 = some (ad 6 x.toNatClampNeg) := hr_5.trans ((fe_X4_plotAt _ _ _).trans (if_pos c_f_5))
        subst r_5
        have hr_5 := gIn_of (by omega) c_f_5
        refine lv_astore (lv' := [(6, .ref (ad 6 x.toNatClampNeg)), (5, .ref (ad 3 w.toNatClampNeg)), (4, .ref (ad 5 v.toNatClampNeg)), (0, .ref (ad 0 0)), (1, .int v), (2, .int w), (3, .int x)]) hx hb dX4_tell_39 hl (by decide) rfl (fun ls hl => ?_)
        refine lv_aload hx hb dX4_tell_41 (lv_at hl 1 rfl) ?_
        refine va_get (D := D) (ci := 3) (v := .int (C 31 w.toNatClampNeg)) (C := RX2) (T := TX2) (N := 6) hx hb hts inX2 hown hK (hW.p (e := (eS C w.toNatClampNeg)) (Wd_S hr_3.2)) 0 rfl rfl 1 (by decide) (hts (.fieldLink RX4 63 "StoryToll$Scene" "kind" "I") (List.mem_of_getElem? (i := 5) rfl)) (fun _ h9 => h9) rfl dX4_tell_43 ?_
        refine lv_if_eq (tgt := 64) hx hb dX4_tell_46 (by decide) (fun c_46_6 => ?_) (fun c_46_6 => ?_)
        · refine lv_aload_n hx hb dX4_tell_64 rfl (lv_at hl 3 rfl) ?_
          refine lv_aload hx hb dX4_tell_65 (lv_at hl 2 rfl) ?_
          refine lv_aload hx hb dX4_tell_67 (lv_at hl 1 rfl) ?_
          refine lv_aload hx hb dX4_tell_69 (lv_at hl 0 rfl) ?_
          refine g_Vi (As := [.ref (ad 5 v.toNatClampNeg), .ref (ad 3 w.toNatClampNeg), .ref (ad 6 x.toNatClampNeg)]) (rest := []) C0 (c_X4_canTell l D G A ad N C M o Hp hW hC v.toNatClampNeg hr_1.2 w.toNatClampNeg hr_3.2 x.toNatClampNeg hr_5.2) (cwV 3 hts gX4_tell_X4_canTell rfl rfl rfl (by decide +kernel) ⟨Nat.le_of_ble_eq_true rfl, Nat.le_of_ble_eq_true rfl⟩) hK (va_recv hK (hW.p rfl) (ci := 5) (q0 := 0) rfl rfl) rfl hl rfl (Nat.le_of_ble_eq_true rfl) dX4_tell_71 ⟨Nat.zero_le _, Nat.zero_le _⟩ hS (fun r_8 locs hr_8 hS => ?_)
          replace hr_8 : r_8 = (f_X4_canTell C N v.toNatClampNeg w.toNatClampNeg x.toNatClampNeg) := hr_8
          subst r_8
          refine lv_if_ne (tgt := 87) hx hb dX4_tell_74 (by decide) (fun c_74_8 => ?_) (fun c_74_8 => ?_)
          · have hct9 := canTell_b hc3 c_74_8
            refine lv_aload hx hb dX4_tell_87 (lv_at hl 1 rfl) ?_
            refine va_get (D := D) (ci := 3) (v := .int (C 31 w.toNatClampNeg)) (C := RX2) (T := TX2) (N := 6) hx hb hts inX2 hown hK (hW.p (e := (eS C w.toNatClampNeg)) (Wd_S hr_3.2)) 0 rfl rfl 1 (by decide) (hts (.fieldLink RX4 63 "StoryToll$Scene" "kind" "I") (List.mem_of_getElem? (i := 5) rfl)) (fun _ h9 => h9) rfl dX4_tell_89 ?_
            refine lv_if_ne (tgt := 115) hx hb dX4_tell_92 (by decide) (fun c_92_9 => ?_) (fun c_92_9 => ?_)
            · exact absurd c_46_6 c_92_9
            · refine lv_aload_n hx hb dX4_tell_95 rfl (lv_at hl 3 rfl) ?_
              refine va_get (D := D) (ci := 5) (v := .ref (ad 1 3)) (C := RX4) (T := TX4) (N := 9) hx hb hts inX4 hown hK (hW.p (e := (eToll ad C)) rfl) 0 rfl rfl 3 (by decide) (hts (.fieldLink RX4 22 "StoryToll" "plots" "Ljava/util/ArrayList;") (List.mem_of_getElem? (i := 6) rfl)) (fun _ h9 => h9) rfl dX4_tell_96 ?_
              have hlt9 := hct9.1 c_46_6
              refine g_new (D := D) (C := RX1) (T := TX1) (N := 6) (ci := 2) hx hb hts inX1 tyX1 tyX1_ok hown (hts (.classLink RX4 118 RX1) (List.mem_of_getElem? (i := 7) rfl)) (hts (.instantiable RX1 6) (List.mem_of_getElem? (i := 8) rfl)) (hts (.initialized RX1) (List.mem_of_getElem? (i := 9) rfl)) hK hW hS hA rfl (fs := [.null, .int 0, .int 0, .null, .int 0, .int 0]) (fun j9 hj9 => match j9, hj9 with | 0, _ => rfl | 1, _ => rfl | 2, _ => rfl | 3, _ => rfl | 4, _ => rfl | 5, _ => rfl | n9 + 6, h9 => absurd h9 (by omega)) (Nat.le_of_ble_eq_true rfl) (Nat.le_of_ble_eq_true rfl) dX4_tell_99 6 (N 3) (fun q9 H hW hS hq9 => ?_)
              refine g_adr0 (ad := (adset ad 6 (N 3) q9)) (b := 6) (i := (N 3)) adset_s ?_
              refine lv_dup hx hb dX4_tell_102 rfl ?_
              refine lv_aload hx hb dX4_tell_103 (lv_at hl 1 rfl) ?_
              refine g_wIv (As := [.ref ((adset ad 6 (N 3) q9) 3 w.toNatClampNeg)]) (rest := [.ref ((adset ad 6 (N 3) q9) 6 (N 3)), .ref ((adset ad 6 (N 3) q9) 1 3)]) (B := (fun (q8 : Nat) H => gW D A (adset (adset ad 6 (N 3) q9) 8 (N 3) q8) (tellCt G (adset (adset ad 6 (N 3) q9) 8 (N 3) q8) (ctset (ctset (ctset (Wd G ad N C M o) 6 (N 3) (some (.inr (2, [.null, .int 0, .int 0, .null, .int 0, .int 0])))) 8 (N 3) (some (.inl (G.1, 8, .inl (fun _ => 0))))) 6 (N 3) (some (.inr (2, [.ref ((adset (adset ad 6 (N 3) q9) 8 (N 3) q8) 8 (N 3)), .int 0, .int 0, .null, .int 0, .int (-1)])))) (N 3) w.toNatClampNeg 0 0 0 (-1) (fun _ => 0) (C 30 w.toNatClampNeg) (C 32 w.toNatClampNeg)) H)) (mc := 1) (ms := 8) C0 (c_X1_init l D G A (adset ad 6 (N 3) q9) (ctset (Wd G ad N C M o) 6 (N 3) (some (.inr (2, [.null, .int 0, .int 0, .null, .int 0, .int 0])))) H hW (fun q h9 => hA q (Nat.le_trans hS.1 h9)) (N 3) w.toNatClampNeg ctset_s (C 30 w.toNatClampNeg) (C 31 w.toNatClampNeg) (C 32 w.toNatClampNeg) (C 33 w.toNatClampNeg) (C 34 w.toNatClampNeg) (C 35 w.toNatClampNeg) ((ctset_o (fun z => absurd z.1 (by decide))).trans (Wd_S hr_3.2))) (cwI 1 hts gX4_tell_X1_init rfl rfl rfl (hts (.initialized RX1) (List.mem_of_getElem? (i := 9) rfl)) (hts (.methodLink RX4 120 yX1_init) (List.mem_of_getElem? (i := 93) rfl)) (hts (.instanceMethod yX1_init) (List.mem_of_getElem? (i := 94) rfl)) rfl (by decide +kernel) ⟨Nat.le_of_ble_eq_true rfl, Nat.le_of_ble_eq_true rfl⟩) hK rfl hl rfl (Nat.le_of_ble_eq_true rfl) dX4_tell_105 ⟨(Nat.le_of_ble_eq_true rfl), (Nat.le_of_ble_eq_true rfl)⟩ hS (fun u9 H locs hu9 hW hz9 hS => ?_)
              have hW : gW D A (adset (adset ad 6 (N 3) q9) 8 (N 3) u9) (ctset (ctset (Wd G ad N C M o) 8 (N 3) (some (.inl (G.1, 8, .inl (upd (fun _ => 0) 0 (C 30 w.toNatClampNeg)))))) 6 (N 3) (some (.inr (2, [.ref u9, .int (0 + C 32 w.toNatClampNeg), .int (nI (0 + 1)), .ref (ad 3 w.toNatClampNeg), .int ((0 : Int32) ||| (1 <<< (C 30 w.toNatClampNeg &&& 31))), .int (-1)])))) H := by
                have h7 := hW
                simp only [tellCt, adset_s] at h7
                rw [ctset_8686] at h7
                exact h7
              have hM9 := c_add l D G A (adset (adset ad 6 (N 3) q9) 8 (N 3) u9) (ctset (ctset (Wd G ad N C M o) 8 (N 3) (some (.inl (G.1, 8, .inl (upd (fun _ => 0) 0 (C 30 w.toNatClampNeg)))))) 6 (N 3) (some (.inr (2, [.ref u9, .int (0 + C 32 w.toNatClampNeg), .int (nI (0 + 1)), .ref (ad 3 w.toNatClampNeg), .int ((0 : Int32) ||| (1 <<< (C 30 w.toNatClampNeg &&& 31))), .int (-1)])))) H hW (fun q h9 => hA q (Nat.le_trans hS.1 h9)) mi 3 (by decide) (N 3) (N (4 + 3)) (C 1 3) ((ctset_o (fun z => absurd z.1 (by decide))).trans ((ctset_o (fun z => absurd z.1 (by decide))).trans (Wd_Li (by decide)))) (fun h9 => by rw [gArr_c (w := ad (3 + 3)) (fun k9 hk9 => (adset_o (by omega)).trans (adset_o (by omega)))]; exact (ctset_o (fun z => absurd z.1 (by decide))).trans ((ctset_o (fun z => absurd z.1 (by decide))).trans (Wd_El (by decide) h9))) (by omega) (fun h9 => ⟨(hNN 3 (by decide)).1, hR 3 (by decide) h9⟩) ((ctset_o (fun z => absurd z.1 (by decide))).trans ((ctset_o (fun z => absurd z.1 (by decide))).trans (rfl))) 2 (RX1, TX1, 6) rfl (fun U h9 => h9.2.2.2.2.2.2.1) (fun i9 hi9 => by
                by_cases h8 : i9 = (N 3)
                · subst h8; exact ⟨_, ctset_s⟩
                · exact ⟨_, (ctset_o (fun z => h8 z.2)).trans ((ctset_o (fun z => h8 z.2)).trans (Wd_Pl (by omega)))⟩)
              refine g_LVi (As := [.ref ((adset (adset ad 6 (N 3) q9) 8 (N 3) u9) 6 (N 3))]) (rest := []) (post := fun (r : Int32) (_ : Nat) => r = 1) (B := fun ra H => gW D A (adset (adset (adset ad 6 (N 3) q9) 8 (N 3) u9) 2 3 ra) (ctset (ctset (ctset (ctset (Wd G ad N C M o) 8 (N 3) (some (.inl (G.1, 8, .inl (upd (fun _ => 0) 0 (C 30 w.toNatClampNeg)))))) 6 (N 3) (some (.inr (2, [.ref u9, .int (0 + C 32 w.toNatClampNeg), .int (nI (0 + 1)), .ref (ad 3 w.toNatClampNeg), .int ((0 : Int32) ||| (1 <<< (C 30 w.toNatClampNeg &&& 31))), .int (-1)])))) 2 3 (some (.inl (G.2.2.1, (gRoom (N 3) (N (4 + 3))), .inr (.inr (.inr (.inr (gArr ((adset (adset ad 6 (N 3) q9) 8 (N 3) u9) (3 + 3)) ((N 3) + 1))))))))) 1 3 (some (.inr (0, [.int (C 1 3 + 1), .ref ra, .int (nI ((N 3) + 1))])))) H) (mc := 1) (ms := 33) C0 hM9 (cwV 1 hts gX4_tell_Jx4a65c_add_9ea2d rfl rfl rfl (by decide +kernel) ⟨Nat.le_of_ble_eq_true rfl, Nat.le_of_ble_eq_true rfl⟩) hK hL hh (va_recv hK (hW.p ((ctset_o (fun z => absurd z.1 (by decide))).trans ((ctset_o (fun z => absurd z.1 (by decide))).trans (Wd_Li (by decide))))) (ci := 0) (q0 := 0) rfl rfl) rfl hl rfl (Nat.le_of_ble_eq_true rfl) dX4_tell_108 ⟨(Nat.le_of_ble_eq_true rfl), (Nat.le_of_ble_eq_true rfl)⟩ hS (fun r8 u8 H locs hr8 hW hz8 hS => ?_)
              have hW : gW D A (adset (adset (adset ad 6 (N 3) q9) 8 (N 3) u9) 2 3 u8) (Wd G (adset (adset (adset ad 6 (N 3) q9) 8 (N 3) u9) 2 3 u8) (nN N 3) (plC C (N 3) w.toNatClampNeg (C 30 w.toNatClampNeg) (C 32 w.toNatClampNeg)) M o) H := hW.eq (fun b9 i9 => Wd_pl (by omega) (by omega) b9 i9)
              refine lv_pop hx hb dX4_tell_111 rfl ?_
              refine lv_goto (tgt := 127) hx hb dX4_tell_112 (by decide) ?_
              exact cut127 (adset (adset (adset ad 6 (N 3) q9) 8 (N 3) u9) 2 3 u8) (nN N 3) (plC C (N 3) w.toNatClampNeg (C 30 w.toNatClampNeg) (C 32 w.toNatClampNeg)) H locs ls (fun _ => rfl) (show f_X4_tell C N v w x = .inl (f_X4_tellB (plC C (N 3) w.toNatClampNeg (C 30 w.toNatClampNeg) (C 32 w.toNatClampNeg)) (nN N 3) v w) from by rw [f_X4_tell, if_pos c_f_1, if_pos c_f_3, if_pos c_f_5, if_pos c_46_6, if_neg c_74_8]) (show s_X4_tell C N v w x = s_X4_tellB (plC C (N 3) w.toNatClampNeg (C 30 w.toNatClampNeg) (C 32 w.toNatClampNeg)) (nN N 3) v w from by rw [s_X4_tell, if_pos c_f_1, if_pos c_f_3, if_pos c_f_5, if_pos c_46_6, if_neg c_74_8]) (show n_X4_tell C N v w x = (nN N 3) from by rw [n_X4_tell, if_pos c_f_1, if_pos c_f_3, if_pos c_f_5, if_pos c_46_6, if_neg c_74_8]) (IC_pl hC hR hlt9 (hr_3.2)) (by rw [nN_o (by decide) (by decide)]; exact hr_1.2) (by rw [nN_o (by decide) (by decide)]; exact hr_3.2) (lv_sub hl [2, 1, 3] rfl) hW hS
          · exact g_thr (u := ()) (px := fun _ => True) (B := fun E _ H => f_X4_tell C N v w x = .inr E ∧ gW D A ad (Wd G ad N C M o) H) (E := xS) (text := "this traveller cannot tell this scene") hx hb hl0 hml hown hts (fun w hw => List.mem_cons_of_mem _ (List.mem_append_right _ hw)) xb_S xg_S (hts (.classLink RX4 40 "java/lang/IllegalStateException") (List.mem_of_getElem? (i := 3) rfl)) (hts (.initialized "java/lang/IllegalStateException") (List.mem_of_getElem? (i := 4) rfl)) hE hE.1.2.2.1 (by decide) (by decide) (by rw [hh]; exact hS) hl dX4_tell_77 dX4_tell_80 dX4_tell_81 dX4_tell_83 dX4_tell_86 hnt ⟨by decide, by decide, by decide, by decide⟩ hlk trivial (fun H1 hk9 => ⟨(show f_X4_tell C N v w x = .inr xS from by rw [f_X4_tell, if_pos c_f_1, if_pos c_f_3, if_pos c_f_5, if_pos c_46_6, if_pos c_74_8]), hW.keep hk9⟩) (by decide) (by decide)
        · refine lv_aload hx hb dX4_tell_49 (lv_at hl 0 rfl) ?_
          refine lv_ifnonnull (tgt := 64) hx hb dX4_tell_51 (by decide) ?_
          refine lv_aload_n hx hb dX4_tell_64 rfl (lv_at hl 3 rfl) ?_
          refine lv_aload hx hb dX4_tell_65 (lv_at hl 2 rfl) ?_
          refine lv_aload hx hb dX4_tell_67 (lv_at hl 1 rfl) ?_
          refine lv_aload hx hb dX4_tell_69 (lv_at hl 0 rfl) ?_
          refine g_Vi (As := [.ref (ad 5 v.toNatClampNeg), .ref (ad 3 w.toNatClampNeg), .ref (ad 6 x.toNatClampNeg)]) (rest := []) C0 (c_X4_canTell l D G A ad N C M o Hp hW hC v.toNatClampNeg hr_1.2 w.toNatClampNeg hr_3.2 x.toNatClampNeg hr_5.2) (cwV 3 hts gX4_tell_X4_canTell rfl rfl rfl (by decide +kernel) ⟨Nat.le_of_ble_eq_true rfl, Nat.le_of_ble_eq_true rfl⟩) hK (va_recv hK (hW.p rfl) (ci := 5) (q0 := 0) rfl rfl) rfl hl rfl (Nat.le_of_ble_eq_true rfl) dX4_tell_71 ⟨Nat.zero_le _, Nat.zero_le _⟩ hS (fun r_13 locs hr_13 hS => ?_)
          replace hr_13 : r_13 = (f_X4_canTell C N v.toNatClampNeg w.toNatClampNeg x.toNatClampNeg) := hr_13
          subst r_13
          refine lv_if_ne (tgt := 87) hx hb dX4_tell_74 (by decide) (fun c_74_13 => ?_) (fun c_74_13 => ?_)
          · have hct9 := canTell_b hc3 c_74_13
            refine lv_aload hx hb dX4_tell_87 (lv_at hl 1 rfl) ?_
            refine va_get (D := D) (ci := 3) (v := .int (C 31 w.toNatClampNeg)) (C := RX2) (T := TX2) (N := 6) hx hb hts inX2 hown hK (hW.p (e := (eS C w.toNatClampNeg)) (Wd_S hr_3.2)) 0 rfl rfl 1 (by decide) (hts (.fieldLink RX4 63 "StoryToll$Scene" "kind" "I") (List.mem_of_getElem? (i := 5) rfl)) (fun _ h9 => h9) rfl dX4_tell_89 ?_
            refine lv_if_ne (tgt := 115) hx hb dX4_tell_92 (by decide) (fun c_92_14 => ?_) (fun c_92_14 => ?_)
            · refine lv_aload hx hb dX4_tell_115 (lv_at hl 0 rfl) ?_
              refine lv_ifnull hx hb dX4_tell_117 ?_
              refine lv_aload hx hb dX4_tell_120 (lv_at hl 0 rfl) ?_
              refine lv_aload hx hb dX4_tell_122 (lv_at hl 1 rfl) ?_
              have hb9 := (canTell_b hc3 c_74_13).2 c_46_6
              have hq9 := hCp x.toNatClampNeg hr_5.2
              have hz9 := sz_lt hq9.2.1 hq9.2.2 hb9
              refine g_wVv (As := [.ref (ad 3 w.toNatClampNeg)]) (rest := []) (B := fun (_ : Unit) H => gW D A ad (tellCt G ad (Wd G ad N C M o) x.toNatClampNeg w.toNatClampNeg (szC C x.toNatClampNeg) (C 61 x.toNatClampNeg) (C 64 x.toNatClampNeg) (C 65 x.toNatClampNeg) (C (200 + x.toNatClampNeg)) (C 30 w.toNatClampNeg) (C 32 w.toNatClampNeg)) H) (mc := 0) (ms := 0) C0 (c_X1_tellOn l D G A ad (Wd G ad N C M o) Hp hW x.toNatClampNeg w.toNatClampNeg (szC C x.toNatClampNeg) hz9 (C 61 x.toNatClampNeg) (C 64 x.toNatClampNeg) (C 65 x.toNatClampNeg) _ (C (200 + x.toNatClampNeg)) (by rw [Wd_Pl hr_5.2, ePl, hq9.2.1]) (Wd_Rw hr_5.2) (C 30 w.toNatClampNeg) (C 31 w.toNatClampNeg) (C 32 w.toNatClampNeg) (C 33 w.toNatClampNeg) (C 34 w.toNatClampNeg) (C 35 w.toNatClampNeg) (Wd_S hr_3.2)) (cwV 1 hts gX4_tell_X1_tellOn rfl rfl rfl (by decide +kernel) ⟨Nat.le_of_ble_eq_true rfl, Nat.le_of_ble_eq_true rfl⟩) hK (va_recv hK (hW.p (Wd_Pl hr_5.2)) (ci := 2) (q0 := 0) rfl rfl) rfl hl rfl (Nat.le_of_ble_eq_true rfl) dX4_tell_124 ⟨Nat.zero_le _, Nat.zero_le _⟩ hS (fun u8 H locs hu8 hW hz8 hS => ?_)
              have hW : gW D A ad (Wd G ad N (toC C x.toNatClampNeg w.toNatClampNeg) M o) H := hW.eq (fun b9 i9 => Wd_to (by omega) hr_5.2 (by omega) b9 i9)
              refine W.widen (k := 3) (n := 47) (by omega) (by omega) ?_
              exact cut127 ad N (toC C x.toNatClampNeg w.toNatClampNeg) H locs ls (fun _ => rfl) (show f_X4_tell C N v w x = .inl (f_X4_tellB (toC C x.toNatClampNeg w.toNatClampNeg) N v w) from by rw [f_X4_tell, if_pos c_f_1, if_pos c_f_3, if_pos c_f_5, if_neg c_46_6, if_neg c_74_13]) (show s_X4_tell C N v w x = s_X4_tellB (toC C x.toNatClampNeg w.toNatClampNeg) N v w from by rw [s_X4_tell, if_pos c_f_1, if_pos c_f_3, if_pos c_f_5, if_neg c_46_6, if_neg c_74_13]) (show n_X4_tell C N v w x = N from by rw [n_X4_tell, if_pos c_f_1, if_pos c_f_3, if_pos c_f_5, if_neg c_46_6, if_neg c_74_13]) (IC_to hC hr_3.2 hr_5.2 hz9) hr_1.2 hr_3.2 (lv_sub hl [2, 1, 3] rfl) hW hS
            · exact absurd c_92_14 c_46_6
          · exact g_thr (u := ()) (px := fun _ => True) (B := fun E _ H => f_X4_tell C N v w x = .inr E ∧ gW D A ad (Wd G ad N C M o) H) (E := xS) (text := "this traveller cannot tell this scene") hx hb hl0 hml hown hts (fun w hw => List.mem_cons_of_mem _ (List.mem_append_right _ hw)) xb_S xg_S (hts (.classLink RX4 40 "java/lang/IllegalStateException") (List.mem_of_getElem? (i := 3) rfl)) (hts (.initialized "java/lang/IllegalStateException") (List.mem_of_getElem? (i := 4) rfl)) hE hE.1.2.2.1 (by decide) (by decide) (by rw [hh]; exact hS) hl dX4_tell_77 dX4_tell_80 dX4_tell_81 dX4_tell_83 dX4_tell_86 hnt ⟨by decide, by decide, by decide, by decide⟩ hlk trivial (fun H1 hk9 => ⟨(show f_X4_tell C N v w x = .inr xS from by rw [f_X4_tell, if_pos c_f_1, if_pos c_f_3, if_pos c_f_5, if_neg c_46_6, if_pos c_74_13]), hW.keep hk9⟩) (by decide) (by decide)
      · replace hr_5 : r_5 = none := hr_5.trans ((fe_X4_plotAt _ _ _).trans (if_neg c_f_5))
        subst r_5
        refine lv_astoreN (lv' := [(6, .null), (5, .ref (ad 3 w.toNatClampNeg)), (4, .ref (ad 5 v.toNatClampNeg)), (0, .ref (ad 0 0)), (1, .int v), (2, .int w), (3, .int x)]) hx hb dX4_tell_39 hl (by decide) rfl (fun ls hl => ?_)
        refine lv_aload hx hb dX4_tell_41 (lv_at hl 1 rfl) ?_
        refine va_get (D := D) (ci := 3) (v := .int (C 31 w.toNatClampNeg)) (C := RX2) (T := TX2) (N := 6) hx hb hts inX2 hown hK (hW.p (e := (eS C w.toNatClampNeg)) (Wd_S hr_3.2)) 0 rfl rfl 1 (by decide) (hts (.fieldLink RX4 63 "StoryToll$Scene" "kind" "I") (List.mem_of_getElem? (i := 5) rfl)) (fun _ h9 => h9) rfl dX4_tell_43 ?_
        refine lv_if_eq (tgt := 64) hx hb dX4_tell_46 (by decide) (fun c_46_15 => ?_) (fun c_46_15 => ?_)
        · refine lv_aload_n hx hb dX4_tell_64 rfl (lv_at hl 3 rfl) ?_
          refine lv_aload hx hb dX4_tell_65 (lv_at hl 2 rfl) ?_
          refine lv_aload hx hb dX4_tell_67 (lv_at hl 1 rfl) ?_
          refine lv_aloadN hx hb dX4_tell_69 (lv_at hl 0 rfl) ?_
          refine g_Vi (As := [.ref (ad 5 v.toNatClampNeg), .ref (ad 3 w.toNatClampNeg), .null]) (rest := []) C0 (c_X4_canTellN l D G A ad N C M o Hp hW hC v.toNatClampNeg hr_1.2 w.toNatClampNeg hr_3.2) (cwV 3 hts gX4_tell_X4_canTell rfl rfl rfl (by decide +kernel) ⟨Nat.le_of_ble_eq_true rfl, Nat.le_of_ble_eq_true rfl⟩) hK (va_recv hK (hW.p rfl) (ci := 5) (q0 := 0) rfl rfl) rfl hl rfl (Nat.le_of_ble_eq_true rfl) dX4_tell_71 ⟨Nat.zero_le _, Nat.zero_le _⟩ hS (fun r_17 locs hr_17 hS => ?_)
          replace hr_17 : r_17 = (f_X4_canTellN C N v.toNatClampNeg w.toNatClampNeg) := hr_17
          subst r_17
          refine lv_if_ne (tgt := 87) hx hb dX4_tell_74 (by decide) (fun c_74_17 => ?_) (fun c_74_17 => ?_)
          · have hlt9 := canTellN_b hc3 c_74_17
            refine lv_aload hx hb dX4_tell_87 (lv_at hl 1 rfl) ?_
            refine va_get (D := D) (ci := 3) (v := .int (C 31 w.toNatClampNeg)) (C := RX2) (T := TX2) (N := 6) hx hb hts inX2 hown hK (hW.p (e := (eS C w.toNatClampNeg)) (Wd_S hr_3.2)) 0 rfl rfl 1 (by decide) (hts (.fieldLink RX4 63 "StoryToll$Scene" "kind" "I") (List.mem_of_getElem? (i := 5) rfl)) (fun _ h9 => h9) rfl dX4_tell_89 ?_
            refine lv_if_ne (tgt := 115) hx hb dX4_tell_92 (by decide) (fun c_92_18 => ?_) (fun c_92_18 => ?_)
            · exact absurd c_46_15 c_92_18
            · refine lv_aload_n hx hb dX4_tell_95 rfl (lv_at hl 3 rfl) ?_
              refine va_get (D := D) (ci := 5) (v := .ref (ad 1 3)) (C := RX4) (T := TX4) (N := 9) hx hb hts inX4 hown hK (hW.p (e := (eToll ad C)) rfl) 0 rfl rfl 3 (by decide) (hts (.fieldLink RX4 22 "StoryToll" "plots" "Ljava/util/ArrayList;") (List.mem_of_getElem? (i := 6) rfl)) (fun _ h9 => h9) rfl dX4_tell_96 ?_
              refine g_new (D := D) (C := RX1) (T := TX1) (N := 6) (ci := 2) hx hb hts inX1 tyX1 tyX1_ok hown (hts (.classLink RX4 118 RX1) (List.mem_of_getElem? (i := 7) rfl)) (hts (.instantiable RX1 6) (List.mem_of_getElem? (i := 8) rfl)) (hts (.initialized RX1) (List.mem_of_getElem? (i := 9) rfl)) hK hW hS hA rfl (fs := [.null, .int 0, .int 0, .null, .int 0, .int 0]) (fun j9 hj9 => match j9, hj9 with | 0, _ => rfl | 1, _ => rfl | 2, _ => rfl | 3, _ => rfl | 4, _ => rfl | 5, _ => rfl | n9 + 6, h9 => absurd h9 (by omega)) (Nat.le_of_ble_eq_true rfl) (Nat.le_of_ble_eq_true rfl) dX4_tell_99 6 (N 3) (fun q9 H hW hS hq9 => ?_)
              refine g_adr0 (ad := (adset ad 6 (N 3) q9)) (b := 6) (i := (N 3)) adset_s ?_
              refine lv_dup hx hb dX4_tell_102 rfl ?_
              refine lv_aload hx hb dX4_tell_103 (lv_at hl 1 rfl) ?_
              refine g_wIv (As := [.ref ((adset ad 6 (N 3) q9) 3 w.toNatClampNeg)]) (rest := [.ref ((adset ad 6 (N 3) q9) 6 (N 3)), .ref ((adset ad 6 (N 3) q9) 1 3)]) (B := (fun (q8 : Nat) H => gW D A (adset (adset ad 6 (N 3) q9) 8 (N 3) q8) (tellCt G (adset (adset ad 6 (N 3) q9) 8 (N 3) q8) (ctset (ctset (ctset (Wd G ad N C M o) 6 (N 3) (some (.inr (2, [.null, .int 0, .int 0, .null, .int 0, .int 0])))) 8 (N 3) (some (.inl (G.1, 8, .inl (fun _ => 0))))) 6 (N 3) (some (.inr (2, [.ref ((adset (adset ad 6 (N 3) q9) 8 (N 3) q8) 8 (N 3)), .int 0, .int 0, .null, .int 0, .int (-1)])))) (N 3) w.toNatClampNeg 0 0 0 (-1) (fun _ => 0) (C 30 w.toNatClampNeg) (C 32 w.toNatClampNeg)) H)) (mc := 1) (ms := 8) C0 (c_X1_init l D G A (adset ad 6 (N 3) q9) (ctset (Wd G ad N C M o) 6 (N 3) (some (.inr (2, [.null, .int 0, .int 0, .null, .int 0, .int 0])))) H hW (fun q h9 => hA q (Nat.le_trans hS.1 h9)) (N 3) w.toNatClampNeg ctset_s (C 30 w.toNatClampNeg) (C 31 w.toNatClampNeg) (C 32 w.toNatClampNeg) (C 33 w.toNatClampNeg) (C 34 w.toNatClampNeg) (C 35 w.toNatClampNeg) ((ctset_o (fun z => absurd z.1 (by decide))).trans (Wd_S hr_3.2))) (cwI 1 hts gX4_tell_X1_init rfl rfl rfl (hts (.initialized RX1) (List.mem_of_getElem? (i := 9) rfl)) (hts (.methodLink RX4 120 yX1_init) (List.mem_of_getElem? (i := 93) rfl)) (hts (.instanceMethod yX1_init) (List.mem_of_getElem? (i := 94) rfl)) rfl (by decide +kernel) ⟨Nat.le_of_ble_eq_true rfl, Nat.le_of_ble_eq_true rfl⟩) hK rfl hl rfl (Nat.le_of_ble_eq_true rfl) dX4_tell_105 ⟨(Nat.le_of_ble_eq_true rfl), (Nat.le_of_ble_eq_true rfl)⟩ hS (fun u9 H locs hu9 hW hz9 hS => ?_)
              have hW : gW D A (adset (adset ad 6 (N 3) q9) 8 (N 3) u9) (ctset (ctset (Wd G ad N C M o) 8 (N 3) (some (.inl (G.1, 8, .inl (upd (fun _ => 0) 0 (C 30 w.toNatClampNeg)))))) 6 (N 3) (some (.inr (2, [.ref u9, .int (0 + C 32 w.toNatClampNeg), .int (nI (0 + 1)), .ref (ad 3 w.toNatClampNeg), .int ((0 : Int32) ||| (1 <<< (C 30 w.toNatClampNeg &&& 31))), .int (-1)])))) H := by
                have h7 := hW
                simp only [tellCt, adset_s] at h7
                rw [ctset_8686] at h7
                exact h7
              have hM9 := c_add l D G A (adset (adset ad 6 (N 3) q9) 8 (N 3) u9) (ctset (ctset (Wd G ad N C M o) 8 (N 3) (some (.inl (G.1, 8, .inl (upd (fun _ => 0) 0 (C 30 w.toNatClampNeg)))))) 6 (N 3) (some (.inr (2, [.ref u9, .int (0 + C 32 w.toNatClampNeg), .int (nI (0 + 1)), .ref (ad 3 w.toNatClampNeg), .int ((0 : Int32) ||| (1 <<< (C 30 w.toNatClampNeg &&& 31))), .int (-1)])))) H hW (fun q h9 => hA q (Nat.le_trans hS.1 h9)) mi 3 (by decide) (N 3) (N (4 + 3)) (C 1 3) ((ctset_o (fun z => absurd z.1 (by decide))).trans ((ctset_o (fun z => absurd z.1 (by decide))).trans (Wd_Li (by decide)))) (fun h9 => by rw [gArr_c (w := ad (3 + 3)) (fun k9 hk9 => (adset_o (by omega)).trans (adset_o (by omega)))]; exact (ctset_o (fun z => absurd z.1 (by decide))).trans ((ctset_o (fun z => absurd z.1 (by decide))).trans (Wd_El (by decide) h9))) (by omega) (fun h9 => ⟨(hNN 3 (by decide)).1, hR 3 (by decide) h9⟩) ((ctset_o (fun z => absurd z.1 (by decide))).trans ((ctset_o (fun z => absurd z.1 (by decide))).trans (rfl))) 2 (RX1, TX1, 6) rfl (fun U h9 => h9.2.2.2.2.2.2.1) (fun i9 hi9 => by
                by_cases h8 : i9 = (N 3)
                · subst h8; exact ⟨_, ctset_s⟩
                · exact ⟨_, (ctset_o (fun z => h8 z.2)).trans ((ctset_o (fun z => h8 z.2)).trans (Wd_Pl (by omega)))⟩)
              refine g_LVi (As := [.ref ((adset (adset ad 6 (N 3) q9) 8 (N 3) u9) 6 (N 3))]) (rest := []) (post := fun (r : Int32) (_ : Nat) => r = 1) (B := fun ra H => gW D A (adset (adset (adset ad 6 (N 3) q9) 8 (N 3) u9) 2 3 ra) (ctset (ctset (ctset (ctset (Wd G ad N C M o) 8 (N 3) (some (.inl (G.1, 8, .inl (upd (fun _ => 0) 0 (C 30 w.toNatClampNeg)))))) 6 (N 3) (some (.inr (2, [.ref u9, .int (0 + C 32 w.toNatClampNeg), .int (nI (0 + 1)), .ref (ad 3 w.toNatClampNeg), .int ((0 : Int32) ||| (1 <<< (C 30 w.toNatClampNeg &&& 31))), .int (-1)])))) 2 3 (some (.inl (G.2.2.1, (gRoom (N 3) (N (4 + 3))), .inr (.inr (.inr (.inr (gArr ((adset (adset ad 6 (N 3) q9) 8 (N 3) u9) (3 + 3)) ((N 3) + 1))))))))) 1 3 (some (.inr (0, [.int (C 1 3 + 1), .ref ra, .int (nI ((N 3) + 1))])))) H) (mc := 1) (ms := 33) C0 hM9 (cwV 1 hts gX4_tell_Jx4a65c_add_9ea2d rfl rfl rfl (by decide +kernel) ⟨Nat.le_of_ble_eq_true rfl, Nat.le_of_ble_eq_true rfl⟩) hK hL hh (va_recv hK (hW.p ((ctset_o (fun z => absurd z.1 (by decide))).trans ((ctset_o (fun z => absurd z.1 (by decide))).trans (Wd_Li (by decide))))) (ci := 0) (q0 := 0) rfl rfl) rfl hl rfl (Nat.le_of_ble_eq_true rfl) dX4_tell_108 ⟨(Nat.le_of_ble_eq_true rfl), (Nat.le_of_ble_eq_true rfl)⟩ hS (fun r8 u8 H locs hr8 hW hz8 hS => ?_)
              have hW : gW D A (adset (adset (adset ad 6 (N 3) q9) 8 (N 3) u9) 2 3 u8) (Wd G (adset (adset (adset ad 6 (N 3) q9) 8 (N 3) u9) 2 3 u8) (nN N 3) (plC C (N 3) w.toNatClampNeg (C 30 w.toNatClampNeg) (C 32 w.toNatClampNeg)) M o) H := hW.eq (fun b9 i9 => Wd_pl (by omega) (by omega) b9 i9)
              refine lv_pop hx hb dX4_tell_111 rfl ?_
              refine lv_goto (tgt := 127) hx hb dX4_tell_112 (by decide) ?_
              exact cut127 (adset (adset (adset ad 6 (N 3) q9) 8 (N 3) u9) 2 3 u8) (nN N 3) (plC C (N 3) w.toNatClampNeg (C 30 w.toNatClampNeg) (C 32 w.toNatClampNeg)) H locs ls (fun _ => rfl) (show f_X4_tell C N v w x = .inl (f_X4_tellB (plC C (N 3) w.toNatClampNeg (C 30 w.toNatClampNeg) (C 32 w.toNatClampNeg)) (nN N 3) v w) from by rw [f_X4_tell, if_pos c_f_1, if_pos c_f_3, if_neg c_f_5, if_pos c_46_15, if_neg c_74_17]) (show s_X4_tell C N v w x = s_X4_tellB (plC C (N 3) w.toNatClampNeg (C 30 w.toNatClampNeg) (C 32 w.toNatClampNeg)) (nN N 3) v w from by rw [s_X4_tell, if_pos c_f_1, if_pos c_f_3, if_neg c_f_5, if_pos c_46_15, if_neg c_74_17]) (show n_X4_tell C N v w x = (nN N 3) from by rw [n_X4_tell, if_pos c_f_1, if_pos c_f_3, if_neg c_f_5, if_pos c_46_15, if_neg c_74_17]) (IC_pl hC hR hlt9 (hr_3.2)) (by rw [nN_o (by decide) (by decide)]; exact hr_1.2) (by rw [nN_o (by decide) (by decide)]; exact hr_3.2) (lv_sub hl [2, 1, 3] rfl) hW hS
          · exact g_thr (u := ()) (px := fun _ => True) (B := fun E _ H => f_X4_tell C N v w x = .inr E ∧ gW D A ad (Wd G ad N C M o) H) (E := xS) (text := "this traveller cannot tell this scene") hx hb hl0 hml hown hts (fun w hw => List.mem_cons_of_mem _ (List.mem_append_right _ hw)) xb_S xg_S (hts (.classLink RX4 40 "java/lang/IllegalStateException") (List.mem_of_getElem? (i := 3) rfl)) (hts (.initialized "java/lang/IllegalStateException") (List.mem_of_getElem? (i := 4) rfl)) hE hE.1.2.2.1 (by decide) (by decide) (by rw [hh]; exact hS) hl dX4_tell_77 dX4_tell_80 dX4_tell_81 dX4_tell_83 dX4_tell_86 hnt ⟨by decide, by decide, by decide, by decide⟩ hlk trivial (fun H1 hk9 => ⟨(show f_X4_tell C N v w x = .inr xS from by rw [f_X4_tell, if_pos c_f_1, if_pos c_f_3, if_neg c_f_5, if_pos c_46_15, if_pos c_74_17]), hW.keep hk9⟩) (by decide) (by decide)
        · refine lv_aloadN hx hb dX4_tell_49 (lv_at hl 0 rfl) ?_
          refine lv_ifnonnullN hx hb dX4_tell_51 ?_
          exact g_thr (u := ()) (px := fun _ => True) (B := fun E _ H => f_X4_tell C N v w x = .inr E ∧ gW D A ad (Wd G ad N C M o) H) (E := xI) (text := "no such plot") hx hb hl0 hml hown hts (fun w hw => List.mem_cons_of_mem _ (List.mem_append_left _ (List.mem_append_right _ hw))) xb_I xg_I (hts (.classLink RX4 58 "java/lang/IndexOutOfBoundsException") (List.mem_of_getElem? (i := 1) rfl)) (hts (.initialized "java/lang/IndexOutOfBoundsException") (List.mem_of_getElem? (i := 2) rfl)) hE hE.1.1 (by decide) (by decide) (by rw [hh]; exact hS) hl dX4_tell_54 dX4_tell_57 dX4_tell_58 dX4_tell_60 dX4_tell_63 hnt ⟨by decide, by decide, by decide, by decide⟩ hlk trivial (fun H1 hk9 => ⟨(show f_X4_tell C N v w x = .inr xI from by rw [f_X4_tell, if_pos c_f_1, if_pos c_f_3, if_neg c_f_5, if_neg c_46_15]), hW.keep hk9⟩) (by decide) (by decide)
    · replace hr_3 : r_3 = none := hr_3.trans ((fe_X4_sceneAt _ _ _).trans (if_neg c_f_3))
      subst r_3
      refine lv_astoreN (lv' := [(5, .null), (4, .ref (ad 5 v.toNatClampNeg)), (0, .ref (ad 0 0)), (1, .int v), (2, .int w), (3, .int x)]) hx hb dX4_tell_12 hl (by decide) rfl (fun ls hl => ?_)
      refine lv_aload hx hb dX4_tell_14 (lv_at hl 1 rfl) ?_
      refine lv_ifnull hx hb dX4_tell_16 ?_
      refine lv_aloadN hx hb dX4_tell_19 (lv_at hl 0 rfl) ?_
      refine lv_ifnonnullN hx hb dX4_tell_21 ?_
      exact g_thr (u := ()) (px := fun _ => True) (B := fun E _ H => f_X4_tell C N v w x = .inr E ∧ gW D A ad (Wd G ad N C M o) H) (E := xI) (text := "no such traveller or scene") hx hb hl0 hml hown hts (fun w hw => List.mem_cons_of_mem _ (List.mem_append_left _ (List.mem_append_right _ hw))) xb_I xg_I (hts (.classLink RX4 58 "java/lang/IndexOutOfBoundsException") (List.mem_of_getElem? (i := 1) rfl)) (hts (.initialized "java/lang/IndexOutOfBoundsException") (List.mem_of_getElem? (i := 2) rfl)) hE hE.1.1 (by decide) (by decide) (by rw [hh]; exact hS) hl dX4_tell_24 dX4_tell_27 dX4_tell_28 dX4_tell_30 dX4_tell_33 hnt ⟨by decide, by decide, by decide, by decide⟩ hlk trivial (fun H1 hk9 => ⟨(show f_X4_tell C N v w x = .inr xI from by rw [f_X4_tell, if_pos c_f_1, if_neg c_f_3]), hW.keep hk9⟩) (by decide) (by decide)
  · replace hr_1 : r_1 = none := hr_1.trans ((fe_X4_travellerAt _ _ _).trans (if_neg c_f_1))
    subst r_1
    refine lv_astoreN (lv' := [(4, .null), (0, .ref (ad 0 0)), (1, .int v), (2, .int w), (3, .int x)]) hx hb dX4_tell_5 hl (by decide) rfl (fun ls hl => ?_)
    refine lv_aload_n hx hb dX4_tell_7 rfl (lv_at hl 1 rfl) ?_
    refine lv_iload_n hx hb dX4_tell_8 rfl (lv_at hl 3 rfl) ?_
    refine g_Vq (As := [.int w]) (rest := []) C0 (c_X4_sceneAt l D G A ad N C M o Hp hW hNN w) (cwV 1 hts gX4_tell_X4_sceneAt rfl rfl rfl (by decide +kernel) ⟨Nat.le_of_ble_eq_true rfl, Nat.le_of_ble_eq_true rfl⟩) hK (va_recv hK (hW.p rfl) (ci := 5) (q0 := 0) rfl rfl) rfl hl rfl (Nat.le_of_ble_eq_true rfl) dX4_tell_9 ⟨Nat.zero_le _, Nat.zero_le _⟩ hS (fun r_20 locs hr_20 hS => ?_)
    by_cases c_f_20 : gIn w (N 0)
    · replace hr_20 : r_20 = some (ad 3 w.toNatClampNeg) := hr_20.trans ((fe_X4_sceneAt _ _ _).trans (if_pos c_f_20))
      subst r_20
      have hr_20 := gIn_of (by omega) c_f_20
      refine lv_astore (lv' := [(5, .ref (ad 3 w.toNatClampNeg)), (4, .null), (0, .ref (ad 0 0)), (1, .int v), (2, .int w), (3, .int x)]) hx hb dX4_tell_12 hl (by decide) rfl (fun ls hl => ?_)
      refine lv_aloadN hx hb dX4_tell_14 (lv_at hl 1 rfl) ?_
      refine lv_ifnullN (tgt := 24) hx hb dX4_tell_16 (by decide) ?_
      exact g_thr (u := ()) (px := fun _ => True) (B := fun E _ H => f_X4_tell C N v w x = .inr E ∧ gW D A ad (Wd G ad N C M o) H) (E := xI) (text := "no such traveller or scene") hx hb hl0 hml hown hts (fun w hw => List.mem_cons_of_mem _ (List.mem_append_left _ (List.mem_append_right _ hw))) xb_I xg_I (hts (.classLink RX4 58 "java/lang/IndexOutOfBoundsException") (List.mem_of_getElem? (i := 1) rfl)) (hts (.initialized "java/lang/IndexOutOfBoundsException") (List.mem_of_getElem? (i := 2) rfl)) hE hE.1.1 (by decide) (by decide) (by rw [hh]; exact hS) hl dX4_tell_24 dX4_tell_27 dX4_tell_28 dX4_tell_30 dX4_tell_33 hnt ⟨by decide, by decide, by decide, by decide⟩ hlk trivial (fun H1 hk9 => ⟨(show f_X4_tell C N v w x = .inr xI from by rw [f_X4_tell, if_neg c_f_1, if_pos c_f_20]), hW.keep hk9⟩) (by decide) (by decide)
    · replace hr_20 : r_20 = none := hr_20.trans ((fe_X4_sceneAt _ _ _).trans (if_neg c_f_20))
      subst r_20
      refine lv_astoreN (lv' := [(5, .null), (4, .null), (0, .ref (ad 0 0)), (1, .int v), (2, .int w), (3, .int x)]) hx hb dX4_tell_12 hl (by decide) rfl (fun ls hl => ?_)
      refine lv_aloadN hx hb dX4_tell_14 (lv_at hl 1 rfl) ?_
      refine lv_ifnullN (tgt := 24) hx hb dX4_tell_16 (by decide) ?_
      exact g_thr (u := ()) (px := fun _ => True) (B := fun E _ H => f_X4_tell C N v w x = .inr E ∧ gW D A ad (Wd G ad N C M o) H) (E := xI) (text := "no such traveller or scene") hx hb hl0 hml hown hts (fun w hw => List.mem_cons_of_mem _ (List.mem_append_left _ (List.mem_append_right _ hw))) xb_I xg_I (hts (.classLink RX4 58 "java/lang/IndexOutOfBoundsException") (List.mem_of_getElem? (i := 1) rfl)) (hts (.initialized "java/lang/IndexOutOfBoundsException") (List.mem_of_getElem? (i := 2) rfl)) hE hE.1.1 (by decide) (by decide) (by rw [hh]; exact hS) hl dX4_tell_24 dX4_tell_27 dX4_tell_28 dX4_tell_30 dX4_tell_33 hnt ⟨by decide, by decide, by decide, by decide⟩ hlk trivial (fun H1 hk9 => ⟨(show f_X4_tell C N v w x = .inr xI from by rw [f_X4_tell, if_neg c_f_1, if_neg c_f_20]), hW.keep hk9⟩) (by decide) (by decide)
theorem IC_X4_tellB {N : gN} {C : gT} {v w : Int32} (h : IC N C) : IC N (s_X4_tellB C N v w) := by
  unfold s_X4_tellB
  repeat' (first | with_reducible exact h | with_reducible exact IC_X4_letGuardsHear h | with_reducible refine IC_t (by omega) (by omega) ?_)
theorem IN_X4_tell {N : gN} {C : gT} {v w x : Int32} (h : IC N C) (hR : IR N) : IC (n_X4_tell C N v w x) (s_X4_tell C N v w x) ∧ IR (n_X4_tell C N v w x) := by
  have hb := h.1
  have k5 : ∀ {y : Int32} {n : Nat}, n ≤ 24 → gIn y n → y.toNatClampNeg < n := fun hn h9 => (gIn_of (by omega) h9).2
  unfold n_X4_tell s_X4_tell
  repeat' split
  all_goals first
    | exact ⟨h, hR⟩
    | (rename_i a1 a2 a3 a4 a5; have hl := (canTell_b hb.2.2.2 a5).1 a4; exact ⟨IC_X4_tellB (IC_pl h hR hl (k5 hb.1 a2)), IR_n h.2.1 hR (by decide) (by omega)⟩)
    | (rename_i a1 a2 a3 a4 a5; have hz := (canTell_b hb.2.2.2 a5).2 a4; have hp := k5 (by omega) a3; have hq := h.2.2 _ hp; exact ⟨IC_X4_tellB (IC_to h (k5 hb.1 a2) hp (sz_lt hq.2.1 hq.2.2 hz)), hR⟩)
    | (rename_i a1 a2 a3 a4 a5; have hl := canTellN_b hb.2.2.2 a5; exact ⟨IC_X4_tellB (IC_pl h hR hl (k5 hb.1 a2)), IR_n h.2.1 hR (by decide) (by omega)⟩)
