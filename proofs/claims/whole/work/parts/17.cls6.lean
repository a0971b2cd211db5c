/-! THE CLASS: best, most, and public methods that write numbers -/
def L_best (C : gT) (N : gN) (t : Nat) (q : Nat) (j : Nat) (acc : Int32 × Int32) : Int32 × Int32 := (if (f_X4_canTell C N t j q) = 0 then (acc.1, acc.2) else (if (f_X4_tollOf C N j) ≤ acc.2 then (acc.1, acc.2) else ((nI j), (f_X4_tollOf C N j))))
def f_X4_best (C : gT) (N : gN) (v : Int32) (w : Int32) : Int32 ⊕ String := (if gIn v (N 2) then (if gIn w (N 3) then (Sum.inl (gIt (L_best C N v.toNatClampNeg w.toNatClampNeg) ((-1), (-1)) (N 0)).1) else (Sum.inr xI)) else (if gIn w (N 3) then (Sum.inr xI) else (Sum.inr xI)))
set_option maxHeartbeats 4000000 in
set_option maxRecDepth 100000 in
theorem c_X4_best (l : Launch) (D : va_G) (G : gG) (A : Nat → Prop) (ad : gAd) (N : gN) (C M : gT) (o : Nat → Int64) (Hp : Heap) (hW : gW D A ad (Wd G ad N C M o) Hp) (hl0 : l.stackTraces = false) (hC : IC N C) (v w : Int32) : vx_Met l yX4_best wsX4_best ({ frames := 6, cells := 1, slots := 6, locals := 90 }) (va_Pc [.ref (ad 0 0), .int v, .int w] (gQX D (gTs G) Hp A)) (va_Qi (fun r (_ : Unit) => f_X4_best C N v w = .inl r) (fun _ t => gW D A ad (Wd G ad N (C) M o) t.heap) A) (vx_X (fun (_ : Unit) => True) (fun E _ t => f_X4_best C N v w = .inr E ∧ gW D A ad (Wd G ad N C M o) t.heap) A) 1 6 A := by
  refine g_startX (cc := cX4_best) (maxL := 10) (ret := (some .int)) (by decide) rfl (Nat.le_of_ble_eq_true rfl) (fun p e s m below meth c ls C0 hr hlk hh hK hE hnt hl => ?_)
  obtain ⟨hx, hb, hml, hown, hts⟩ := id C0
  have hown : s.vm.findClass RX4 = some m.cls := hown
  have hS : va_S A Hp Hp [] := va_S.rf
  have hl : lv_has ls 10 [(0, .ref (ad 0 0)), (1, .int v), (2, .int w)] := hl
  have inX4 : ∀ w ∈ wsX40, w ∈ wsX4_best := by decide +kernel
  obtain ⟨⟨hc0, hc1, hc2, hc3⟩, hNN, hCp⟩ := id hC
  have hn0 := hNN 0 (by decide)
  have hn1 := hNN 1 (by decide)
  have hn2 := hNN 2 (by decide)
  have hn3 := hNN 3 (by decide)
  refine lv_aload_n hx hb dX4_best_0 rfl (lv_at hl 0 rfl) ?_
  refine lv_iload_n hx hb dX4_best_1 rfl (lv_at hl 1 rfl) ?_
  refine g_Vq (As := [.int v]) (rest := []) C0 (c_X4_travellerAt l D G A ad N C M o Hp hW hNN v) (cwV 1 hts gX4_best_X4_travellerAt rfl rfl rfl (by decide +kernel) ⟨Nat.le_of_ble_eq_true rfl, Nat.le_of_ble_eq_true rfl⟩) hK (va_recv hK (hW.p rfl) (ci := 5) (q0 := 0) rfl rfl) rfl hl rfl (Nat.le_of_ble_eq_true rfl) dX4_best_2 ⟨Nat.zero_le _, Nat.zero_le _⟩ hS (fun r_1 locs hr_1 hS => ?_)
  by_cases c_f_1 : gIn v (N 2)
  · replace hr_1 : r_1 = some (ad 5 v.toNatClampNeg) := hr_1.trans ((fe_X4_travellerAt _ _ _).trans (if_pos c_f_1))
    subst r_1
    have hr_1 := gIn_of (by omega) c_f_1
    refine lv_astore_n (lv' := [(3, .ref (ad 5 v.toNatClampNeg)), (0, .ref (ad 0 0)), (1, .int v), (2, .int w)]) hx hb dX4_best_5 rfl hl (by decide) rfl (fun ls hl => ?_)
    refine lv_aload_n hx hb dX4_best_6 rfl (lv_at hl 1 rfl) ?_
    refine lv_iload_n hx hb dX4_best_7 rfl (lv_at hl 3 rfl) ?_
    refine g_Vq (As := [.int w]) (rest := []) C0 (c_X4_plotAt l D G A ad N C M o Hp hW hNN w) (cwV 1 hts gX4_best_X4_plotAt rfl rfl rfl (by decide +kernel) ⟨Nat.le_of_ble_eq_true rfl, Nat.le_of_ble_eq_true rfl⟩) hK (va_recv hK (hW.p rfl) (ci := 5) (q0 := 0) rfl rfl) rfl hl rfl (Nat.le_of_ble_eq_true rfl) dX4_best_8 ⟨Nat.zero_le _, Nat.zero_le _⟩ hS (fun r_3 locs hr_3 hS => ?_)
    by_cases c_f_3 : gIn w (N 3)
    · replace hr_3 : r_3 = some (ad 6 w.toNatClampNeg) := hr_3.trans ((fe_X4_plotAt _ _ _).trans (if_pos c_f_3))
      subst r_3
      have hr_3 := gIn_of (by omega) c_f_3
      refine lv_astore (lv' := [(4, .ref (ad 6 w.toNatClampNeg)), (3, .ref (ad 5 v.toNatClampNeg)), (0, .ref (ad 0 0)), (1, .int v), (2, .int w)]) hx hb dX4_best_11 hl (by decide) rfl (fun ls hl => ?_)
      refine lv_aload_n hx hb dX4_best_13 rfl (lv_at hl 1 rfl) ?_
      refine lv_ifnull hx hb dX4_best_14 ?_
      refine lv_aload hx hb dX4_best_17 (lv_at hl 0 rfl) ?_
      refine lv_ifnonnull (tgt := 32) hx hb dX4_best_19 (by decide) ?_
      refine lv_iconst (v := (-1)) hx hb dX4_best_32 (by decide) ?_
      refine lv_istore (lv' := [(5, .int (-1)), (4, .ref (ad 6 w.toNatClampNeg)), (3, .ref (ad 5 v.toNatClampNeg)), (0, .ref (ad 0 0)), (1, .int v), (2, .int w)]) hx hb dX4_best_33 hl (by decide) rfl (fun ls hl => ?_)
      refine lv_iconst (v := (-1)) hx hb dX4_best_35 (by decide) ?_
      refine lv_istore (lv' := [(6, .int (-1)), (5, .int (-1)), (4, .ref (ad 6 w.toNatClampNeg)), (3, .ref (ad 5 v.toNatClampNeg)), (0, .ref (ad 0 0)), (1, .int v), (2, .int w)]) hx hb dX4_best_36 hl (by decide) rfl (fun ls hl => ?_)
      refine lv_iconst (v := 0) hx hb dX4_best_38 (by decide) ?_
      refine lv_istore (lv' := [(7, .int 0), (6, .int (-1)), (5, .int (-1)), (4, .ref (ad 6 w.toNatClampNeg)), (3, .ref (ad 5 v.toNatClampNeg)), (0, .ref (ad 0 0)), (1, .int v), (2, .int w)]) hx hb dX4_best_39 hl (by decide) rfl (fun ls hl => ?_)
      refine g_loop (N 0) (fun j ls => lv_has ls 10 [(7, .int (nI j)), (6, .int (gIt (L_best C N v.toNatClampNeg w.toNatClampNeg) ((-1), (-1)) j).2), (5, .int (gIt (L_best C N v.toNatClampNeg w.toNatClampNeg) ((-1), (-1)) j).1), (4, .ref (ad 6 w.toNatClampNeg)), (3, .ref (ad 5 v.toNatClampNeg)), (0, .ref (ad 0 0)), (1, .int v), (2, .int w)]) (lv_sub hl [0, 1, 2, 3, 4, 5, 6, 7] rfl) hS (fun ls locs hl hS => ?_) (fun j ls locs hj hl hS ih => ?_)
      · have hl : lv_has ls 10 [(7, .int (nI (N 0))), (6, .int (gIt (L_best C N v.toNatClampNeg w.toNatClampNeg) ((-1), (-1)) (N 0)).2), (5, .int (gIt (L_best C N v.toNatClampNeg w.toNatClampNeg) ((-1), (-1)) (N 0)).1), (4, .ref (ad 6 w.toNatClampNeg)), (3, .ref (ad 5 v.toNatClampNeg)), (0, .ref (ad 0 0)), (1, .int v), (2, .int w)] := hl
        refine lv_iload hx hb dX4_best_41 (lv_at hl 0 rfl) ?_
        refine lv_aload_n hx hb dX4_best_43 rfl (lv_at hl 5 rfl) ?_
        refine va_get (D := D) (ci := 5) (v := .ref (ad 1 0)) (C := RX4) (T := TX4) (N := 9) hx hb hts inX4 hown hK (hW.p (e := (eToll ad C)) rfl) 0 rfl rfl 0 (by decide) (hts (.fieldLink RX4 10 "StoryToll" "scenes" "Ljava/util/ArrayList;") (List.mem_of_getElem? (i := 3) rfl)) (fun _ h9 => h9) rfl dX4_best_44 ?_
        refine g_Vi (As := []) (rest := [.int (nI (N 0))]) C0 (c_Jx4a65c_size_8abf5 l D G A ad N C M o Hp hW 0 (by decide)) (cwV 0 hts gX4_best_Jx4a65c_size_8abf5 rfl rfl rfl (by decide +kernel) ⟨Nat.le_of_ble_eq_true rfl, Nat.le_of_ble_eq_true rfl⟩) hK (va_recv hK (hW.p (Wd_Li (by omega))) (ci := 0) (q0 := 0) rfl rfl) rfl hl rfl (Nat.le_of_ble_eq_true rfl) dX4_best_47 ⟨Nat.zero_le _, Nat.zero_le _⟩ hS (fun r_5 locs hr_5 hS => ?_)
        replace hr_5 : r_5 = (nI (N 0)) := hr_5
        subst r_5
        refine lv_icmp_ge (tgt := 108) hx hb dX4_best_50 (by decide) (fun c_50_5 => ?_) (fun c_50_5 => ?_)
        · refine lv_iload hx hb dX4_best_108 (lv_at hl 2 rfl) ?_
          refine W.widen (k := 1) (n := 6) (by omega) (by omega) ?_
          exact vx_ret (g_wret (u := ()) (post := fun r _ => f_X4_best C N v w = .inl r) (B := fun _ H => gW D A ad (Wd G ad N (C) M o) H) hx hb hr hlk hh hS (show f_X4_best C N v w = .inl (gIt (L_best C N v.toNatClampNeg w.toNatClampNeg) ((-1), (-1)) (N 0)).1 from by rw [f_X4_best, if_pos c_f_1, if_pos c_f_3]) (show gW D A ad (Wd G ad N (C) M o) Hp from hW) dX4_best_110)
        · exact absurd (g_le rfl (by omega)) c_50_5
      · have hl : lv_has ls 10 [(7, .int (nI j)), (6, .int (gIt (L_best C N v.toNatClampNeg w.toNatClampNeg) ((-1), (-1)) j).2), (5, .int (gIt (L_best C N v.toNatClampNeg w.toNatClampNeg) ((-1), (-1)) j).1), (4, .ref (ad 6 w.toNatClampNeg)), (3, .ref (ad 5 v.toNatClampNeg)), (0, .ref (ad 0 0)), (1, .int v), (2, .int w)] := hl
        refine lv_iload hx hb dX4_best_41 (lv_at hl 0 rfl) ?_
        refine lv_aload_n hx hb dX4_best_43 rfl (lv_at hl 5 rfl) ?_
        refine va_get (D := D) (ci := 5) (v := .ref (ad 1 0)) (C := RX4) (T := TX4) (N := 9) hx hb hts inX4 hown hK (hW.p (e := (eToll ad C)) rfl) 0 rfl rfl 0 (by decide) (hts (.fieldLink RX4 10 "StoryToll" "scenes" "Ljava/util/ArrayList;") (List.mem_of_getElem? (i := 3) rfl)) (fun _ h9 => h9) rfl dX4_best_44 ?_
        refine g_Vi (As := []) (rest := [.int (nI j)]) C0 (c_Jx4a65c_size_8abf5 l D G A ad N C M o Hp hW 0 (by decide)) (cwV 0 hts gX4_best_Jx4a65c_size_8abf5 rfl rfl rfl (by decide +kernel) ⟨Nat.le_of_ble_eq_true rfl, Nat.le_of_ble_eq_true rfl⟩) hK (va_recv hK (hW.p (Wd_Li (by omega))) (ci := 0) (q0 := 0) rfl rfl) rfl hl rfl (Nat.le_of_ble_eq_true rfl) dX4_best_47 ⟨Nat.zero_le _, Nat.zero_le _⟩ hS (fun r_7 locs hr_7 hS => ?_)
        replace hr_7 : r_7 = (nI (N 0)) := hr_7
        subst r_7
        refine lv_icmp_ge (tgt := 108) hx hb dX4_best_50 (by decide) (fun c_50_7 => ?_) (fun c_50_7 => ?_)
        · exact absurd c_50_7 (g_ge rfl (by omega) hj)
        · refine lv_aload_n hx hb dX4_best_53 rfl (lv_at hl 5 rfl) ?_
          refine va_get (D := D) (ci := 5) (v := .ref (ad 1 0)) (C := RX4) (T := TX4) (N := 9) hx hb hts inX4 hown hK (hW.p (e := (eToll ad C)) rfl) 0 rfl rfl 0 (by decide) (hts (.fieldLink RX4 10 "StoryToll" "scenes" "Ljava/util/ArrayList;") (List.mem_of_getElem? (i := 3) rfl)) (fun _ h9 => h9) rfl dX4_best_54 ?_
          refine lv_iload hx hb dX4_best_57 (lv_at hl 0 rfl) ?_
          refine g_Vr (As := [.int (nI j)]) (rest := []) C0 (c_Jx4a65c_get_915e3 l D G A ad N C M o Hp hW 0 (by decide) hNN j _ rfl (by omega)) (cwV 1 hts gX4_best_Jx4a65c_get_915e3 rfl rfl rfl (by decide +kernel) ⟨Nat.le_of_ble_eq_true rfl, Nat.le_of_ble_eq_true rfl⟩) hK (va_recv hK (hW.p (Wd_Li (by omega))) (ci := 0) (q0 := 0) rfl rfl) rfl hl rfl (Nat.le_of_ble_eq_true rfl) dX4_best_59 ⟨Nat.zero_le _, Nat.zero_le _⟩ hS (fun r_9 locs hr_9 hS => ?_)
          replace hr_9 : r_9 = ad 3 j := hr_9
          subst r_9
          refine g_cast hx hb hown hK hW (Wd_S (by omega)) rfl (hts (.classLink RX4 45 "StoryToll$Scene") (List.mem_of_getElem? (i := 4) rfl)) dX4_best_62 ?_
          refine lv_astore (lv' := [(8, .ref (ad 3 j)), (7, .int (nI j)), (6, .int (gIt (L_best C N v.toNatClampNeg w.toNatClampNeg) ((-1), (-1)) j).2), (5, .int (gIt (L_best C N v.toNatClampNeg w.toNatClampNeg) ((-1), (-1)) j).1), (4, .ref (ad 6 w.toNatClampNeg)), (3, .ref (ad 5 v.toNatClampNeg)), (0, .ref (ad 0 0)), (1, .int v), (2, .int w)]) hx hb dX4_best_65 hl (by decide) rfl (fun ls hl => ?_)
          refine lv_aload_n hx hb dX4_best_67 rfl (lv_at hl 6 rfl) ?_
          refine lv_aload_n hx hb dX4_best_68 rfl (lv_at hl 5 rfl) ?_
          refine lv_aload hx hb dX4_best_69 (lv_at hl 0 rfl) ?_
          refine lv_aload hx hb dX4_best_71 (lv_at hl 4 rfl) ?_
          refine g_Vi (As := [.ref (ad 5 v.toNatClampNeg), .ref (ad 3 j), .ref (ad 6 w.toNatClampNeg)]) (rest := []) C0 (c_X4_canTell l D G A ad N C M o Hp hW hC v.toNatClampNeg hr_1.2 j (by omega) w.toNatClampNeg hr_3.2) (cwV 3 hts gX4_best_X4_canTell rfl rfl rfl (by decide +kernel) ⟨Nat.le_of_ble_eq_true rfl, Nat.le_of_ble_eq_true rfl⟩) hK (va_recv hK (hW.p rfl) (ci := 5) (q0 := 0) rfl rfl) rfl hl rfl (Nat.le_of_ble_eq_true rfl) dX4_best_73 ⟨Nat.zero_le _, Nat.zero_le _⟩ hS (fun r_10 locs hr_10 hS => ?_)
          replace hr_10 : r_10 = (f_X4_canTell C N v.toNatClampNeg j w.toNatClampNeg) := hr_10
          subst r_10
          refine lv_if_eq (tgt := 102) hx hb dX4_best_76 (by decide) (fun c_76_10 => ?_) (fun c_76_10 => ?_)
          · refine lv_iinc (v := (nI (j + 1))) (lv' := [(7, .int (nI (j + 1))), (8, .ref (ad 3 j)), (6, .int (gIt (L_best C N v.toNatClampNeg w.toNatClampNeg) ((-1), (-1)) j).2), (5, .int (gIt (L_best C N v.toNatClampNeg w.toNatClampNeg) ((-1), (-1)) j).1), (4, .ref (ad 6 w.toNatClampNeg)), (3, .ref (ad 5 v.toNatClampNeg)), (0, .ref (ad 0 0)), (1, .int v), (2, .int w)]) hx hb dX4_best_102 hl (k := 1) rfl (nI_1 _) (by decide) rfl (fun ls hl => ?_)
            refine lv_goto (tgt := 41) hx hb dX4_best_105 (by decide) ?_
            have ea : ((gIt (L_best C N v.toNatClampNeg w.toNatClampNeg) ((-1), (-1)) j).1, (gIt (L_best C N v.toNatClampNeg w.toNatClampNeg) ((-1), (-1)) j).2) = (gIt (L_best C N v.toNatClampNeg w.toNatClampNeg) ((-1), (-1)) (j + 1)) := (show ((gIt (L_best C N v.toNatClampNeg w.toNatClampNeg) ((-1), (-1)) j).1, (gIt (L_best C N v.toNatClampNeg w.toNatClampNeg) ((-1), (-1)) j).2) = L_best C N v.toNatClampNeg w.toNatClampNeg j (gIt (L_best C N v.toNatClampNeg w.toNatClampNeg) ((-1), (-1)) j) from by (rw [L_best, if_pos c_76_10]) <;> rfl)
            have hl2 : lv_has ls 10 [(7, .int (nI (j + 1))), (6, .int (gIt (L_best C N v.toNatClampNeg w.toNatClampNeg) ((-1), (-1)) (j + 1)).2), (5, .int (gIt (L_best C N v.toNatClampNeg w.toNatClampNeg) ((-1), (-1)) (j + 1)).1), (4, .ref (ad 6 w.toNatClampNeg)), (3, .ref (ad 5 v.toNatClampNeg)), (0, .ref (ad 0 0)), (1, .int v), (2, .int w)] := by rw [← ea]; exact lv_sub hl [0, 2, 3, 4, 5, 6, 7, 8] rfl
            exact ih ls locs hl2 hS
          · refine lv_aload_n hx hb dX4_best_79 rfl (lv_at hl 6 rfl) ?_
            refine lv_aload hx hb dX4_best_80 (lv_at hl 0 rfl) ?_
            refine g_Vi (As := [.ref (ad 3 j)]) (rest := []) C0 (c_X4_tollOf l D G A ad N C M o Hp hW hC j (by omega)) (cwV 1 hts gX4_best_X4_tollOf rfl rfl rfl (by decide +kernel) ⟨Nat.le_of_ble_eq_true rfl, Nat.le_of_ble_eq_true rfl⟩) hK (va_recv hK (hW.p rfl) (ci := 5) (q0 := 0) rfl rfl) rfl hl rfl (Nat.le_of_ble_eq_true rfl) dX4_best_82 ⟨Nat.zero_le _, Nat.zero_le _⟩ hS (fun r_12 locs hr_12 hS => ?_)
            replace hr_12 : r_12 = (f_X4_tollOf C N j) := hr_12
            subst r_12
            refine lv_istore (lv' := [(9, .int (f_X4_tollOf C N j)), (8, .ref (ad 3 j)), (7, .int (nI j)), (6, .int (gIt (L_best C N v.toNatClampNeg w.toNatClampNeg) ((-1), (-1)) j).2), (5, .int (gIt (L_best C N v.toNatClampNeg w.toNatClampNeg) ((-1), (-1)) j).1), (4, .ref (ad 6 w.toNatClampNeg)), (3, .ref (ad 5 v.toNatClampNeg)), (0, .ref (ad 0 0)), (1, .int v), (2, .int w)]) hx hb dX4_best_85 hl (by decide) rfl (fun ls hl => ?_)
            refine lv_iload hx hb dX4_best_87 (lv_at hl 0 rfl) ?_
            refine lv_iload hx hb dX4_best_89 (lv_at hl 3 rfl) ?_
            refine lv_icmp_le (tgt := 102) hx hb dX4_best_91 (by decide) (fun c_91_12 => ?_) (fun c_91_12 => ?_)
            · refine lv_iinc (v := (nI (j + 1))) (lv' := [(7, .int (nI (j + 1))), (9, .int (f_X4_tollOf C N j)), (8, .ref (ad 3 j)), (6, .int (gIt (L_best C N v.toNatClampNeg w.toNatClampNeg) ((-1), (-1)) j).2), (5, .int (gIt (L_best C N v.toNatClampNeg w.toNatClampNeg) ((-1), (-1)) j).1), (4, .ref (ad 6 w.toNatClampNeg)), (3, .ref (ad 5 v.toNatClampNeg)), (0, .ref (ad 0 0)), (1, .int v), (2, .int w)]) hx hb dX4_best_102 hl (k := 2) rfl (nI_1 _) (by decide) rfl (fun ls hl => ?_)
              refine lv_goto (tgt := 41) hx hb dX4_best_105 (by decide) ?_
              have ea : ((gIt (L_best C N v.toNatClampNeg w.toNatClampNeg) ((-1), (-1)) j).1, (gIt (L_best C N v.toNatClampNeg w.toNatClampNeg) ((-1), (-1)) j).2) = (gIt (L_best C N v.toNatClampNeg w.toNatClampNeg) ((-1), (-1)) (j + 1)) := (show ((gIt (L_best C N v.toNatClampNeg w.toNatClampNeg) ((-1), (-1)) j).1, (gIt (L_best C N v.toNatClampNeg w.toNatClampNeg) ((-1), (-1)) j).2) = L_best C N v.toNatClampNeg w.toNatClampNeg j (gIt (L_best C N v.toNatClampNeg w.toNatClampNeg) ((-1), (-1)) j) from by (rw [L_best, if_neg c_76_10, if_pos c_91_12]) <;> rfl)
              have hl2 : lv_has ls 10 [(7, .int (nI (j + 1))), (6, .int (gIt (L_best C N v.toNatClampNeg w.toNatClampNeg) ((-1), (-1)) (j + 1)).2), (5, .int (gIt (L_best C N v.toNatClampNeg w.toNatClampNeg) ((-1), (-1)) (j + 1)).1), (4, .ref (ad 6 w.toNatClampNeg)), (3, .ref (ad 5 v.toNatClampNeg)), (0, .ref (ad 0 0)), (1, .int v), (2, .int w)] := by rw [← ea]; exact lv_sub hl [0, 3, 4, 5, 6, 7, 8, 9] rfl
              exact ih ls locs hl2 hS
            · refine lv_iload hx hb dX4_best_94 (lv_at hl 0 rfl) ?_
              refine lv_istore (lv' := [(6, .int (f_X4_tollOf C N j)), (9, .int (f_X4_tollOf C N j)), (8, .ref (ad 3 j)), (7, .int (nI j)), (5, .int (gIt (L_best C N v.toNatClampNeg w.toNatClampNeg) ((-1), (-1)) j).1), (4, .ref (ad 6 w.toNatClampNeg)), (3, .ref (ad 5 v.toNatClampNeg)), (0, .ref (ad 0 0)), (1, .int v), (2, .int w)]) hx hb dX4_best_96 hl (by decide) rfl (fun ls hl => ?_)
              refine lv_iload hx hb dX4_best_98 (lv_at hl 3 rfl) ?_
              refine lv_istore (lv' := [(5, .int (nI j)), (6, .int (f_X4_tollOf C N j)), (9, .int (f_X4_tollOf C N j)), (8, .ref (ad 3 j)), (7, .int (nI j)), (4, .ref (ad 6 w.toNatClampNeg)), (3, .ref (ad 5 v.toNatClampNeg)), (0, .ref (ad 0 0)), (1, .int v), (2, .int w)]) hx hb dX4_best_100 hl (by decide) rfl (fun ls hl => ?_)
              refine lv_iinc (v := (nI (j + 1))) (lv' := [(7, .int (nI (j + 1))), (5, .int (nI j)), (6, .int (f_X4_tollOf C N j)), (9, .int (f_X4_tollOf C N j)), (8, .ref (ad 3 j)), (4, .ref (ad 6 w.toNatClampNeg)), (3, .ref (ad 5 v.toNatClampNeg)), (0, .ref (ad 0 0)), (1, .int v), (2, .int w)]) hx hb dX4_best_102 hl (k := 4) rfl (nI_1 _) (by decide) rfl (fun ls hl => ?_)
              refine lv_goto (tgt := 41) hx hb dX4_best_105 (by decide) ?_
              have ea : ((nI j), (f_X4_tollOf C N j)) = (gIt (L_best C N v.toNatClampNeg w.toNatClampNeg) ((-1), (-1)) (j + 1)) := (show ((nI j), (f_X4_tollOf C N j)) = L_best C N v.toNatClampNeg w.toNatClampNeg j (gIt (L_best C N v.toNatClampNeg w.toNatClampNeg) ((-1), (-1)) j) from by (rw [L_best, if_neg c_76_10, if_neg c_91_12]) <;> rfl)
              have hl2 : lv_has ls 10 [(7, .int (nI (j + 1))), (6, .int (gIt (L_best C N v.toNatClampNeg w.toNatClampNeg) ((-1), (-1)) (j + 1)).2), (5, .int (gIt (L_best C N v.toNatClampNeg w.toNatClampNeg) ((-1), (-1)) (j + 1)).1), (4, .ref (ad 6 w.toNatClampNeg)), (3, .ref (ad 5 v.toNatClampNeg)), (0, .ref (ad 0 0)), (1, .int v), (2, .int w)] := by rw [← ea]; exact lv_sub hl [0, 2, 1, 5, 6, 7, 8, 9] rfl
              exact ih ls locs hl2 hS
    · replace hr_3 : r_3 = none := hr_3.trans ((fe_X4_plotAt _ _ _).trans (if_neg c_f_3))
      subst r_3
      refine lv_astoreN (lv' := [(4, .null), (3, .ref (ad 5 v.toNatClampNeg)), (0, .ref (ad 0 0)), (1, .int v), (2, .int w)]) hx hb dX4_best_11 hl (by decide) rfl (fun ls hl => ?_)
      refine lv_aload_n hx hb dX4_best_13 rfl (lv_at hl 1 rfl) ?_
      refine lv_ifnull hx hb dX4_best_14 ?_
      refine lv_aloadN hx hb dX4_best_17 (lv_at hl 0 rfl) ?_
      refine lv_ifnonnullN hx hb dX4_best_19 ?_
      exact g_thr (u := ()) (px := fun _ => True) (B := fun E _ H => f_X4_best C N v w = .inr E ∧ gW D A ad (Wd G ad N C M o) H) (E := xI) (text := "no such traveller or plot") hx hb hl0 hml hown hts (fun w hw => List.mem_cons_of_mem _ (List.mem_append_right _ hw)) xb_I xg_I (hts (.classLink RX4 58 "java/lang/IndexOutOfBoundsException") (List.mem_of_getElem? (i := 1) rfl)) (hts (.initialized "java/lang/IndexOutOfBoundsException") (List.mem_of_getElem? (i := 2) rfl)) hE hE.1.1 (by decide) (by decide) (by rw [hh]; exact hS) hl dX4_best_22 dX4_best_25 dX4_best_26 dX4_best_28 dX4_best_31 hnt ⟨by decide, by decide, by decide, by decide⟩ hlk trivial (fun H1 hk9 => ⟨(show f_X4_best C N v w = .inr xI from by rw [f_X4_best, if_pos c_f_1, if_neg c_f_3]), hW.keep hk9⟩) (by decide) (by decide)
  · replace hr_1 : r_1 = none := hr_1.trans ((fe_X4_travellerAt _ _ _).trans (if_neg c_f_1))
    subst r_1
    refine lv_astore_nN (lv' := [(3, .null), (0, .ref (ad 0 0)), (1, .int v), (2, .int w)]) hx hb dX4_best_5 rfl hl (by decide) rfl (fun ls hl => ?_)
    refine lv_aload_n hx hb dX4_best_6 rfl (lv_at hl 1 rfl) ?_
    refine lv_iload_n hx hb dX4_best_7 rfl (lv_at hl 3 rfl) ?_
    refine g_Vq (As := [.int w]) (rest := []) C0 (c_X4_plotAt l D G A ad N C M o Hp hW hNN w) (cwV 1 hts gX4_best_X4_plotAt rfl rfl rfl (by decide +kernel) ⟨Nat.le_of_ble_eq_true rfl, Nat.le_of_ble_eq_true rfl⟩) hK (va_recv hK (hW.p rfl) (ci := 5) (q0 := 0) rfl rfl) rfl hl rfl (Nat.le_of_ble_eq_true rfl) dX4_best_8 ⟨Nat.zero_le _, Nat.zero_le _⟩ hS (fun r_14 locs hr_14 hS => ?_)
    by_cases c_f_14 : gIn w (N 3)
    · replace hr_14 : r_14 = some (ad 6 w.toNatClampNeg) := hr_14.trans ((fe_X4_plotAt _ _ _).trans (if_pos c_f_14))
      subst r_14
      have hr_14 := gIn_of (by omega) c_f_14
      refine lv_astore (lv' := [(4, .ref (ad 6 w.toNatClampNeg)), (3, .null), (0, .ref (ad 0 0)), (1, .int v), (2, .int w)]) hx hb dX4_best_11 hl (by decide) rfl (fun ls hl => ?_)
      refine lv_aload_nN hx hb dX4_best_13 rfl (lv_at hl 1 rfl) ?_
      refine lv_ifnullN (tgt := 22) hx hb dX4_best_14 (by decide) ?_
      exact g_thr (u := ()) (px := fun _ => True) (B := fun E _ H => f_X4_best C N v w = .inr E ∧ gW D A ad (Wd G ad N C M o) H) (E := xI) (text := "no such traveller or plot") hx hb hl0 hml hown hts (fun w hw => List.mem_cons_of_mem _ (List.mem_append_right _ hw)) xb_I xg_I (hts (.classLink RX4 58 "java/lang/IndexOutOfBoundsException") (List.mem_of_getElem? (i := 1) rfl)) (hts (.initialized "java/lang/IndexOutOfBoundsException") (List.mem_of_getElem? (i := 2) rfl)) hE hE.1.1 (by decide) (by decide) (by rw [hh]; exact hS) hl dX4_best_22 dX4_best_25 dX4_best_26 dX4_best_28 dX4_best_31 hnt ⟨by decide, by decide, by decide, by decide⟩ hlk trivial (fun H1 hk9 => ⟨(show f_X4_best C N v w = .inr xI from by rw [f_X4_best, if_neg c_f_1, if_pos c_f_14]), hW.keep hk9⟩) (by decide) (by decide)
    · replace hr_14 : r_14 = none := hr_14.trans ((fe_X4_plotAt _ _ _).trans (if_neg c_f_14))
      subst r_14
      refine lv_astoreN (lv' := [(4, .null), (3, .null), (0, .ref (ad 0 0)), (1, .int v), (2, .int w)]) hx hb dX4_best_11 hl (by decide) rfl (fun ls hl => ?_)
      refine lv_aload_nN hx hb dX4_best_13 rfl (lv_at hl 1 rfl) ?_
      refine lv_ifnullN (tgt := 22) hx hb dX4_best_14 (by decide) ?_
      exact g_thr (u := ()) (px := fun _ => True) (B := fun E _ H => f_X4_best C N v w = .inr E ∧ gW D A ad (Wd G ad N C M o) H) (E := xI) (text := "no such traveller or plot") hx hb hl0 hml hown hts (fun w hw => List.mem_cons_of_mem _ (List.mem_append_right _ hw)) xb_I xg_I (hts (.classLink RX4 58 "java/lang/IndexOutOfBoundsException") (List.mem_of_getElem? (i := 1) rfl)) (hts (.initialized "java/lang/IndexOutOfBoundsException") (List.mem_of_getElem? (i := 2) rfl)) hE hE.1.1 (by decide) (by decide) (by rw [hh]; exact hS) hl dX4_best_22 dX4_best_25 dX4_best_26 dX4_best_28 dX4_best_31 hnt ⟨by decide, by decide, by decide, by decide⟩ hlk trivial (fun H1 hk9 => ⟨(show f_X4_best C N v w = .inr xI from by rw [f_X4_best, if_neg c_f_1, if_neg c_f_14]), hW.keep hk9⟩) (by decide) (by decide)
def f_X4_most (C : gT) (N : gN) (v : Int32) : Int32 ⊕ String := (if gIn v (N 3) then (if (f_X1_isOpen C v.toNatClampNeg) = 0 then (Sum.inl 0) else (Sum.inl (f_mwb C (N 0) ((8 - szC C v.toNatClampNeg)) ((C 63 v.toNatClampNeg).toNatClampNeg) (C 64 v.toNatClampNeg)))) else (Sum.inr xI))
set_option maxHeartbeats 4000000 in
set_option maxRecDepth 100000 in
theorem c_X4_most (l : Launch) (D : va_G) (G : gG) (A : Nat → Prop) (ad : gAd) (N : gN) (C M : gT) (o : Nat → Int64) (Hp : Heap) (hW : gW D A ad (Wd G ad N C M o) Hp) (hl0 : l.stackTraces = false) (hC : IC N C) (v : Int32) : vx_Met l yX4_most wsX4_most ({ frames := 14, cells := 1, slots := 6, locals := 400 }) (va_Pc [.ref (ad 0 0), .int v] (gQX D (gTs G) Hp A)) (va_Qi (fun r (_ : Unit) => f_X4_most C N v = .inl r) (fun _ t => gW D A ad (Wd G ad N (C) M o) t.heap) A) (vx_X (fun (_ : Unit) => True) (fun E _ t => f_X4_most C N v = .inr E ∧ gW D A ad (Wd G ad N C M o) t.heap) A) 1 6 A := by
  refine g_startX (cc := cX4_most) (maxL := 3) (ret := (some .int)) (by decide) rfl (Nat.le_of_ble_eq_true rfl) (fun p e s m below meth c ls C0 hr hlk hh hK hE hnt hl => ?_)
  obtain ⟨hx, hb, hml, hown, hts⟩ := id C0
  have hown : s.vm.findClass RX4 = some m.cls := hown
  have hS : va_S A Hp Hp [] := va_S.rf
  have hl : lv_has ls 3 [(0, .ref (ad 0 0)), (1, .int v)] := hl
  have inX4 : ∀ w ∈ wsX40, w ∈ wsX4_most := by decide +kernel
  have inX1 : ∀ w ∈ wsX10, w ∈ wsX4_most := by decide +kernel
  obtain ⟨⟨hc0, hc1, hc2, hc3⟩, hNN, hCp⟩ := id hC
  have hn0 := hNN 0 (by decide)
  have hn1 := hNN 1 (by decide)
  have hn2 := hNN 2 (by decide)
  have hn3 := hNN 3 (by decide)
  refine lv_aload_n hx hb dX4_most_0 rfl (lv_at hl 0 rfl) ?_
  refine lv_iload_n hx hb dX4_most_1 rfl (lv_at hl 1 rfl) ?_
  refine g_Vq (As := [.int v]) (rest := []) C0 (c_X4_plotAt l D G A ad N C M o Hp hW hNN v) (cwV 1 hts gX4_most_X4_plotAt rfl rfl rfl (by decide +kernel) ⟨Nat.le_of_ble_eq_true rfl, Nat.le_of_ble_eq_true rfl⟩) hK (va_recv hK (hW.p rfl) (ci := 5) (q0 := 0) rfl rfl) rfl hl rfl (Nat.le_of_ble_eq_true rfl) dX4_most_2 ⟨Nat.zero_le _, Nat.zero_le _⟩ hS (fun r_1 locs hr_1 hS => ?_)
  by_cases c_f_1 : gIn v (N 3)
  · replace hr_1 : r_1 = some (ad 6 v.toNatClampNeg) := hr_1.trans ((fe_X4_plotAt _ _ _).trans (if_pos c_f_1))
    subst r_1
    have hr_1 := gIn_of (by omega) c_f_1
    obtain ⟨hla, hlen, hlen8⟩ := hCp _ hr_1.2
    refine lv_astore_n (lv' := [(2, .ref (ad 6 v.toNatClampNeg)), (0, .ref (ad 0 0)), (1, .int v)]) hx hb dX4_most_5 rfl hl (by decide) rfl (fun ls hl => ?_)
    refine lv_aload_n hx hb dX4_most_6 rfl (lv_at hl 0 rfl) ?_
    refine lv_ifnonnull (tgt := 20) hx hb dX4_most_7 (by decide) ?_
    refine lv_aload_n hx hb dX4_most_20 rfl (lv_at hl 0 rfl) ?_
    refine g_Vi (As := []) (rest := []) C0 (c_X1_isOpen l D G A ad N C M o Hp hW hC v.toNatClampNeg hr_1.2) (cwV 0 hts gX4_most_X1_isOpen rfl rfl rfl (by decide +kernel) ⟨Nat.le_of_ble_eq_true rfl, Nat.le_of_ble_eq_true rfl⟩) hK (va_recv hK (hW.p (Wd_Pl hr_1.2)) (ci := 2) (q0 := 0) rfl rfl) rfl hl rfl (Nat.le_of_ble_eq_true rfl) dX4_most_21 ⟨Nat.zero_le _, Nat.zero_le _⟩ hS (fun r_3 locs hr_3 hS => ?_)
    replace hr_3 : r_3 = (f_X1_isOpen C v.toNatClampNeg) := hr_3
    subst r_3
    refine lv_if_ne (tgt := 29) hx hb dX4_most_24 (by decide) (fun c_24_3 => ?_) (fun c_24_3 => ?_)
    · refine lv_aload_n hx hb dX4_most_29 rfl (lv_at hl 1 rfl) ?_
      refine va_get (D := D) (ci := 5) (v := .ref (ad 1 0)) (C := RX4) (T := TX4) (N := 9) hx hb hts inX4 hown hK (hW.p (e := (eToll ad C)) rfl) 0 rfl rfl 0 (by decide) (hts (.fieldLink RX4 10 "StoryToll" "scenes" "Ljava/util/ArrayList;") (List.mem_of_getElem? (i := 3) rfl)) (fun _ h9 => h9) rfl dX4_most_30 ?_
      refine lv_aload_n hx hb dX4_most_33 rfl (lv_at hl 0 rfl) ?_
      refine va_get (D := D) (ci := 2) (v := .ref (ad 3 (C 63 v.toNatClampNeg).toNatClampNeg)) (C := RX1) (T := TX1) (N := 6) hx hb hts inX1 hown hK (hW.p (e := (ePl ad C v.toNatClampNeg)) (Wd_Pl hr_1.2)) 0 rfl rfl 3 (by decide) (hts (.fieldLink RX4 221 "StoryToll$Plot" "last" "LStoryToll$Scene;") (List.mem_of_getElem? (i := 4) rfl)) (fun _ h9 => h9) rfl dX4_most_34 ?_
      refine lv_aload_n hx hb dX4_most_37 rfl (lv_at hl 0 rfl) ?_
      refine va_get (D := D) (ci := 2) (v := .int (C 64 v.toNatClampNeg)) (C := RX1) (T := TX1) (N := 6) hx hb hts inX1 hown hK (hW.p (e := (ePl ad C v.toNatClampNeg)) (Wd_Pl hr_1.2)) 0 rfl rfl 4 (by decide) (hts (.fieldLink RX4 225 "StoryToll$Plot" "inIt" "I") (List.mem_of_getElem? (i := 5) rfl)) (fun _ h9 => h9) rfl dX4_most_38 ?_
      refine lv_bipush (v := 8) hx hb dX4_most_41 (by decide) ?_
      refine lv_aload_n hx hb dX4_most_43 rfl (lv_at hl 0 rfl) ?_
      refine va_get (D := D) (ci := 2) (v := .int (C 62 v.toNatClampNeg)) (C := RX1) (T := TX1) (N := 6) hx hb hts inX1 hown hK (hW.p (e := (ePl ad C v.toNatClampNeg)) (Wd_Pl hr_1.2)) 0 rfl rfl 2 (by decide) (hts (.fieldLink RX4 202 "StoryToll$Plot" "length" "I") (List.mem_of_getElem? (i := 6) rfl)) (fun _ h9 => h9) rfl dX4_most_44 ?_
      refine lv_isub hx hb dX4_most_47 ?_
      rw [show (8 - (C 62 v.toNatClampNeg)) = (nI (8 - szC C v.toNatClampNeg)) from (by rw [hlen, show (8 : Int32) = nI 8 from rfl, pk_sub hlen8])]
      refine g_Si (As := [.ref (ad 1 0), .ref (ad 3 (C 63 v.toNatClampNeg).toNatClampNeg), .int (C 64 v.toNatClampNeg), .int (nI (8 - szC C v.toNatClampNeg))]) (rest := []) C0 (c_X4_mostWonderBehind l D G A ad N C M o Hp hW hC ((8 - szC C v.toNatClampNeg)) (C 63 v.toNatClampNeg).toNatClampNeg (C 64 v.toNatClampNeg) hla (by omega)) (va_cwS 4 hts gX4_most_X4_mostWonderBehind rfl rfl rfl (by decide +kernel) ⟨(by show ((8 - szC C v.toNatClampNeg) + 4) + 1 ≤ 14; omega), (by show 8 + (9 + 11) + (30 * ((8 - szC C v.toNatClampNeg)) + 100) ≤ 400; omega)⟩) hK rfl hl rfl (Nat.le_of_ble_eq_true rfl) dX4_most_48 ⟨Nat.zero_le _, Nat.zero_le _⟩ hS (fun r_5 locs hr_5 hS => ?_)
      replace hr_5 : r_5 = (f_mwb C (N 0) ((8 - szC C v.toNatClampNeg)) ((C 63 v.toNatClampNeg).toNatClampNeg) (C 64 v.toNatClampNeg)) := hr_5
      subst r_5
      refine W.widen (k := 1) (n := 6) (by omega) (by omega) ?_
      exact vx_ret (g_wret (u := ()) (post := fun r _ => f_X4_most C N v = .inl r) (B := fun _ H => gW D A ad (Wd G ad N (C) M o) H) hx hb hr hlk hh hS (show f_X4_most C N v = .inl (f_mwb C (N 0) ((8 - szC C v.toNatClampNeg)) ((C 63 v.toNatClampNeg).toNatClampNeg) (C 64 v.toNatClampNeg)) from by rw [f_X4_most, if_pos c_f_1, if_neg c_24_3]) (show gW D A ad (Wd G ad N (C) M o) Hp from hW) dX4_most_51)
    · refine lv_iconst (v := 0) hx hb dX4_most_27 (by decide) ?_
      refine W.widen (k := 1) (n := 6) (by omega) (by omega) ?_
      exact vx_ret (g_wret (u := ()) (post := fun r _ => f_X4_most C N v = .inl r) (B := fun _ H => gW D A ad (Wd G ad N (C) M o) H) hx hb hr hlk hh hS (show f_X4_most C N v = .inl 0 from by rw [f_X4_most, if_pos c_f_1, if_pos c_24_3]) (show gW D A ad (Wd G ad N (C) M o) Hp from hW) dX4_most_28)
  · replace hr_1 : r_1 = none := hr_1.trans ((fe_X4_plotAt _ _ _).trans (if_neg c_f_1))
    subst r_1
    refine lv_astore_nN (lv' := [(2, .null), (0, .ref (ad 0 0)), (1, .int v)]) hx hb dX4_most_5 rfl hl (by decide) rfl (fun ls hl => ?_)
    refine lv_aload_nN hx hb dX4_most_6 rfl (lv_at hl 0 rfl) ?_
    refine lv_ifnonnullN hx hb dX4_most_7 ?_
    exact g_thr (u := ()) (px := fun _ => True) (B := fun E _ H => f_X4_most C N v = .inr E ∧ gW D A ad (Wd G ad N C M o) H) (E := xI) (text := "no such plot") hx hb hl0 hml hown hts (fun w hw => List.mem_cons_of_mem _ (List.mem_append_right _ hw)) xb_I xg_I (hts (.classLink RX4 58 "java/lang/IndexOutOfBoundsException") (List.mem_of_getElem? (i := 1) rfl)) (hts (.initialized "java/lang/IndexOutOfBoundsException") (List.mem_of_getElem? (i := 2) rfl)) hE hE.1.1 (by decide) (by decide) (by rw [hh]; exact hS) hl dX4_most_10 dX4_most_13 dX4_most_14 dX4_most_16 dX4_most_19 hnt ⟨by decide, by decide, by decide, by decide⟩ hlk trivial (fun H1 hk9 => ⟨(show f_X4_most C N v = .inr xI from by rw [f_X4_most, if_neg c_f_1]), hW.keep hk9⟩) (by decide) (by decide)
def f_X4_follow (C : gT) (N : gN) (v : Int32) (w : Int32) : Int32 ⊕ String := (if gIn v (N 0) then (if gIn w (N 0) then (if (C 31 v.toNatClampNeg) = 2 then (Sum.inr xA) else (if (C 31 w.toNatClampNeg) = 0 then (Sum.inr xA) else (if (C 30 v.toNatClampNeg) = (C 30 w.toNatClampNeg) then (Sum.inr xA) else (if (f_X2_canLeadTo C v.toNatClampNeg w.toNatClampNeg) = 0 then (if (C 0 4) < 60 then (Sum.inl ((C 0 4) + 1)) else (Sum.inr xS)) else (Sum.inl (C 0 4)))))) else (Sum.inr xI)) else (if gIn w (N 0) then (Sum.inr xI) else (Sum.inr xI)))
def s_X4_follow (C : gT) (N : gN) (v : Int32) (w : Int32) : gT := (if gIn v (N 0) then (if gIn w (N 0) then (if (C 31 v.toNatClampNeg) = 2 then C else (if (C 31 w.toNatClampNeg) = 0 then C else (if (C 30 v.toNatClampNeg) = (C 30 w.toNatClampNeg) then C else (if (f_X2_canLeadTo C v.toNatClampNeg w.toNatClampNeg) = 0 then (if (C 0 4) < 60 then (tset (tset C 34 v.toNatClampNeg ((C 34 v.toNatClampNeg) ||| (f_X2_asSet C w.toNatClampNeg))) 0 4 ((C 0 4) + 1)) else C) else C)))) else C) else (if gIn w (N 0) then C else C))
set_option maxHeartbeats 4000000 in
set_option maxRecDepth 100000 in
theorem c_X4_follow (l : Launch) (D : va_G) (G : gG) (A : Nat → Prop) (ad : gAd) (N : gN) (C M : gT) (o : Nat → Int64) (Hp : Heap) (hW : gW D A ad (Wd G ad N C M o) Hp) (hl0 : l.stackTraces = false) (hC : IC N C) (v w : Int32) : vx_Met l yX4_follow wsX4_follow ({ frames := 6, cells := 1, slots := 6, locals := 90 }) (va_Pc [.ref (ad 0 0), .int v, .int w] (gQX D (gTs G) Hp A)) (va_Qi (fun r (_ : Unit) => f_X4_follow C N v w = .inl r) (fun _ t => gW D A ad (Wd G ad N (s_X4_follow C N v w) M o) t.heap) A) (vx_X (fun (_ : Unit) => True) (fun E _ t => f_X4_follow C N v w = .inr E ∧ gW D A ad (Wd G ad N C M o) t.heap) A) 1 6 A := by
  refine g_startX (cc := cX4_follow) (maxL := 5) (ret := (some .int)) (by decide) rfl (Nat.le_of_ble_eq_true rfl) (fun p e s m below meth c ls C0 hr hlk hh hK hE hnt hl => ?_)
  obtain ⟨hx, hb, hml, hown, hts⟩ := id C0
  have hown : s.vm.findClass RX4 = some m.cls := hown
  have hS : va_S A Hp Hp [] := va_S.rf
  have hl : lv_has ls 5 [(0, .ref (ad 0 0)), (1, .int v), (2, .int w)] := hl
  have inX2 : ∀ w ∈ wsX20, w ∈ wsX4_follow := by decide +kernel
  have inX4 : ∀ w ∈ wsX40, w ∈ wsX4_follow := by decide +kernel
  obtain ⟨⟨hc0, hc1, hc2, hc3⟩, hNN, hCp⟩ := id hC
  have hn0 := hNN 0 (by decide)
  have hn1 := hNN 1 (by decide)
  have hn2 := hNN 2 (by decide)
  have hn3 := hNN 3 (by decide)
  refine lv_aload_n hx hb dX4_follow_0 rfl (lv_at hl 0 rfl) ?_
  refine lv_iload_n hx hb dX4_follow_1 rfl (lv_at hl 1 rfl) ?_
  refine g_Vq (As := [.int v]) (rest := []) C0 (c_X4_sceneAt l D G A ad N C M o Hp hW hNN v) (cwV 1 hts gX4_follow_X4_sceneAt rfl rfl rfl (by decide +kernel) ⟨Nat.le_of_ble_eq_true rfl, Nat.le_of_ble_eq_true rfl⟩) hK (va_recv hK (hW.p rfl) (ci := 5) (q0 := 0) rfl rfl) rfl hl rfl (Nat.le_of_ble_eq_true rfl) dX4_follow_2 ⟨Nat.zero_le _, Nat.zero_le _⟩ hS (fun r_1 locs hr_1 hS => ?_)
  by_cases c_f_1 : gIn v (N 0)
  · replace hr_1 : r_1 = some (ad 3 v.toNatClampNeg) := hr_1.trans ((fe_X4_sceneAt _ _ _).trans (if_pos c_f_1))
    subst r_1
    have hr_1 := gIn_of (by omega) c_f_1
    refine lv_astore_n (lv' := [(3, .ref (ad 3 v.toNatClampNeg)), (0, .ref (ad 0 0)), (1, .int v), (2, .int w)]) hx hb dX4_follow_5 rfl hl (by decide) rfl (fun ls hl => ?_)
    refine lv_aload_n hx hb dX4_follow_6 rfl (lv_at hl 1 rfl) ?_
    refine lv_iload_n hx hb dX4_follow_7 rfl (lv_at hl 3 rfl) ?_
    refine g_Vq (As := [.int w]) (rest := []) C0 (c_X4_sceneAt l D G A ad N C M o Hp hW hNN w) (cwV 1 hts gX4_follow_X4_sceneAt rfl rfl rfl (by decide +kernel) ⟨Nat.le_of_ble_eq_true rfl, Nat.le_of_ble_eq_true rfl⟩) hK (va_recv hK (hW.p rfl) (ci := 5) (q0 := 0) rfl rfl) rfl hl rfl (Nat.le_of_ble_eq_true rfl) dX4_follow_8 ⟨Nat.zero_le _, Nat.zero_le _⟩ hS (fun r_3 locs hr_3 hS => ?_)
    by_cases c_f_3 : gIn w (N 0)
    · replace hr_3 : r_3 = some (ad 3 w.toNatClampNeg) := hr_3.trans ((fe_X4_sceneAt _ _ _).trans (if_pos c_f_3))
      subst r_3
      have hr_3 := gIn_of (by omega) c_f_3
      refine lv_astore (lv' := [(4, .ref (ad 3 w.toNatClampNeg)), (3, .ref (ad 3 v.toNatClampNeg)), (0, .ref (ad 0 0)), (1, .int v), (2, .int w)]) hx hb dX4_follow_11 hl (by decide) rfl (fun ls hl => ?_)
      refine lv_aload_n hx hb dX4_follow_13 rfl (lv_at hl 1 rfl) ?_
      refine lv_ifnull hx hb dX4_follow_14 ?_
      refine lv_aload hx hb dX4_follow_17 (lv_at hl 0 rfl) ?_
      refine lv_ifnonnull (tgt := 32) hx hb dX4_follow_19 (by decide) ?_
      refine lv_aload_n hx hb dX4_follow_32 rfl (lv_at hl 1 rfl) ?_
      refine va_get (D := D) (ci := 3) (v := .int (C 31 v.toNatClampNeg)) (C := RX2) (T := TX2) (N := 6) hx hb hts inX2 hown hK (hW.p (e := (eS C v.toNatClampNeg)) (Wd_S hr_1.2)) 0 rfl rfl 1 (by decide) (hts (.fieldLink RX4 63 "StoryToll$Scene" "kind" "I") (List.mem_of_getElem? (i := 7) rfl)) (fun _ h9 => h9) rfl dX4_follow_33 ?_
      refine lv_iconst (v := 2) hx hb dX4_follow_36 (by decide) ?_
      refine lv_icmp_eq (tgt := 60) hx hb dX4_follow_37 (by decide) (fun c_37_4 => ?_) (fun c_37_4 => ?_)
      · exact g_thr (u := ()) (px := fun _ => True) (B := fun E _ H => f_X4_follow C N v w = .inr E ∧ gW D A ad (Wd G ad N C M o) H) (E := xA) (text := "these scenes cannot follow each other") hx hb hl0 hml hown hts (fun w hw => List.mem_cons_of_mem _ (List.mem_append_left _ (List.mem_append_right _ hw))) xb_A xg_A (hts (.classLink RX4 29 "java/lang/IllegalArgumentException") (List.mem_of_getElem? (i := 3) rfl)) (hts (.initialized "java/lang/IllegalArgumentException") (List.mem_of_getElem? (i := 4) rfl)) hE hE.1.2.1 (by decide) (by decide) (by rw [hh]; exact hS) hl dX4_follow_60 dX4_follow_63 dX4_follow_64 dX4_follow_66 dX4_follow_69 hnt ⟨by decide, by decide, by decide, by decide⟩ hlk trivial (fun H1 hk9 => ⟨(show f_X4_follow C N v w = .inr xA from by rw [f_X4_follow, if_pos c_f_1, if_pos c_f_3, if_pos c_37_4]), hW.keep hk9⟩) (by decide) (by decide)
      · refine lv_aload hx hb dX4_follow_40 (lv_at hl 0 rfl) ?_
        refine va_get (D := D) (ci := 3) (v := .int (C 31 w.toNatClampNeg)) (C := RX2) (T := TX2) (N := 6) hx hb hts inX2 hown hK (hW.p (e := (eS C w.toNatClampNeg)) (Wd_S hr_3.2)) 0 rfl rfl 1 (by decide) (hts (.fieldLink RX4 63 "StoryToll$Scene" "kind" "I") (List.mem_of_getElem? (i := 7) rfl)) (fun _ h9 => h9) rfl dX4_follow_42 ?_
        refine lv_if_eq (tgt := 60) hx hb dX4_follow_45 (by decide) (fun c_45_5 => ?_) (fun c_45_5 => ?_)
        · exact g_thr (u := ()) (px := fun _ => True) (B := fun E _ H => f_X4_follow C N v w = .inr E ∧ gW D A ad (Wd G ad N C M o) H) (E := xA) (text := "these scenes cannot follow each other") hx hb hl0 hml hown hts (fun w hw => List.mem_cons_of_mem _ (List.mem_append_left _ (List.mem_append_right _ hw))) xb_A xg_A (hts (.classLink RX4 29 "java/lang/IllegalArgumentException") (List.mem_of_getElem? (i := 3) rfl)) (hts (.initialized "java/lang/IllegalArgumentException") (List.mem_of_getElem? (i := 4) rfl)) hE hE.1.2.1 (by decide) (by decide) (by rw [hh]; exact hS) hl dX4_follow_60 dX4_follow_63 dX4_follow_64 dX4_follow_66 dX4_follow_69 hnt ⟨by decide, by decide, by decide, by decide⟩ hlk trivial (fun H1 hk9 => ⟨(show f_X4_follow C N v w = .inr xA from by rw [f_X4_follow, if_pos c_f_1, if_pos c_f_3, if_neg c_37_4, if_pos c_45_5]), hW.keep hk9⟩) (by decide) (by decide)
        · refine lv_aload_n hx hb dX4_follow_48 rfl (lv_at hl 1 rfl) ?_
          refine va_get (D := D) (ci := 3) (v := .int (C 30 v.toNatClampNeg)) (C := RX2) (T := TX2) (N := 6) hx hb hts inX2 hown hK (hW.p (e := (eS C v.toNatClampNeg)) (Wd_S hr_1.2)) 0 rfl rfl 0 (by decide) (hts (.fieldLink RX4 66 "StoryToll$Scene" "number" "I") (List.mem_of_getElem? (i := 8) rfl)) (fun _ h9 => h9) rfl dX4_follow_49 ?_
          refine lv_aload hx hb dX4_follow_52 (lv_at hl 0 rfl) ?_
          refine va_get (D := D) (ci := 3) (v := .int (C 30 w.toNatClampNeg)) (C := RX2) (T := TX2) (N := 6) hx hb hts inX2 hown hK (hW.p (e := (eS C w.toNatClampNeg)) (Wd_S hr_3.2)) 0 rfl rfl 0 (by decide) (hts (.fieldLink RX4 66 "StoryToll$Scene" "number" "I") (List.mem_of_getElem? (i := 8) rfl)) (fun _ h9 => h9) rfl dX4_follow_54 ?_
          refine lv_icmp_ne (tgt := 70) hx hb dX4_follow_57 (by decide) (fun c_57_6 => ?_) (fun c_57_6 => ?_)
          · refine lv_aload_n hx hb dX4_follow_70 rfl (lv_at hl 1 rfl) ?_
            refine lv_aload hx hb dX4_follow_71 (lv_at hl 0 rfl) ?_
            refine g_Vi (As := [.ref (ad 3 w.toNatClampNeg)]) (rest := []) C0 (c_X2_canLeadTo l D G A ad N C M o Hp hW v.toNatClampNeg hr_1.2 w.toNatClampNeg hr_3.2) (cwV 1 hts gX4_follow_X2_canLeadTo rfl rfl rfl (by decide +kernel) ⟨Nat.le_of_ble_eq_true rfl, Nat.le_of_ble_eq_true rfl⟩) hK (va_recv hK (hW.p (Wd_S hr_1.2)) (ci := 3) (q0 := 0) rfl rfl) rfl hl rfl (Nat.le_of_ble_eq_true rfl) dX4_follow_73 ⟨Nat.zero_le _, Nat.zero_le _⟩ hS (fun r_8 locs hr_8 hS => ?_)
            replace hr_8 : r_8 = (f_X2_canLeadTo C v.toNatClampNeg w.toNatClampNeg) := hr_8
            subst r_8
            refine lv_if_eq (tgt := 84) hx hb dX4_follow_76 (by decide) (fun c_76_8 => ?_) (fun c_76_8 => ?_)
            · refine lv_aload_n hx hb dX4_follow_84 rfl (lv_at hl 2 rfl) ?_
              refine va_get (D := D) (ci := 5) (v := .int (C 0 4)) (C := RX4) (T := TX4) (N := 9) hx hb hts inX4 hown hK (hW.p (e := (eToll ad C)) rfl) 0 rfl rfl 4 (by decide) (hts (.fieldLink RX4 75 "StoryToll" "pairs" "I") (List.mem_of_getElem? (i := 9) rfl)) (fun _ h9 => h9) rfl dX4_follow_85 ?_
              refine lv_bipush (v := 60) hx hb dX4_follow_88 (by decide) ?_
              refine lv_icmp_lt (tgt := 103) hx hb dX4_follow_90 (by decide) (fun c_90_9 => ?_) (fun c_90_9 => ?_)
              · refine lv_aload_n hx hb dX4_follow_103 rfl (lv_at hl 1 rfl) ?_
                refine lv_dup hx hb dX4_follow_104 rfl ?_
                refine va_get (D := D) (ci := 3) (v := .int (C 34 v.toNatClampNeg)) (C := RX2) (T := TX2) (N := 6) hx hb hts inX2 hown hK (hW.p (e := (eS C v.toNatClampNeg)) (Wd_S hr_1.2)) 0 rfl rfl 4 (by decide) (hts (.fieldLink RX4 80 "StoryToll$Scene" "followers" "I") (List.mem_of_getElem? (i := 10) rfl)) (fun _ h9 => h9) rfl dX4_follow_105 ?_
                refine lv_aload hx hb dX4_follow_108 (lv_at hl 0 rfl) ?_
                refine g_Vi (As := []) (rest := [.int (C 34 v.toNatClampNeg), .ref (ad 3 v.toNatClampNeg)]) C0 (c_X2_asSet l D G A ad N C M o Hp hW w.toNatClampNeg hr_3.2) (cwV 0 hts gX4_follow_X2_asSet rfl rfl rfl (by decide +kernel) ⟨Nat.le_of_ble_eq_true rfl, Nat.le_of_ble_eq_true rfl⟩) hK (va_recv hK (hW.p (Wd_S hr_3.2)) (ci := 3) (q0 := 0) rfl rfl) rfl hl rfl (Nat.le_of_ble_eq_true rfl) dX4_follow_110 ⟨Nat.zero_le _, Nat.zero_le _⟩ hS (fun r_11 locs hr_11 hS => ?_)
                replace hr_11 : r_11 = (f_X2_asSet C w.toNatClampNeg) := hr_11
                subst r_11
                refine lv_ior hx hb dX4_follow_113 ?_
                refine g_put (D := D) (ci := 3) (v := .int ((C 34 v.toNatClampNeg) ||| (f_X2_asSet C w.toNatClampNeg))) (ty := .int) (C := RX2) (T := TX2) (N := 6) (ct' := (Wd G ad N (tset C 34 v.toNatClampNeg ((C 34 v.toNatClampNeg) ||| (f_X2_asSet C w.toNatClampNeg))) M o)) hx hb hts inX2 tyX2 tyX2_ok nmX2 hown hK hW hS (show Wd G ad N C M o 3 v.toNatClampNeg = some (eS C v.toNatClampNeg) from (Wd_S hr_1.2)) rfl 4 (by decide) (hts (.fieldLink RX4 80 "StoryToll$Scene" "followers" "I") (List.mem_of_getElem? (i := 10) rfl)) (fun _ h9 => h9) rfl (by decide +kernel) rfl rfl (Nat.le_of_ble_eq_true rfl) dX4_follow_114 (Wd_f34 hr_1.2) (Wd_tk (by decide)) (fun H locs hW hS => ?_)
                refine lv_aload_n hx hb dX4_follow_117 rfl (lv_at hl 2 rfl) ?_
                refine lv_dup hx hb dX4_follow_118 rfl ?_
                refine va_get (D := D) (ci := 5) (v := .int ((tset C 34 v.toNatClampNeg ((C 34 v.toNatClampNeg) ||| (f_X2_asSet C w.toNatClampNeg))) 0 4)) (C := RX4) (T := TX4) (N := 9) hx hb hts inX4 hown hK (hW.p (e := (eToll ad (tset C 34 v.toNatClampNeg ((C 34 v.toNatClampNeg) ||| (f_X2_asSet C w.toNatClampNeg))))) rfl) 0 rfl rfl 4 (by decide) (hts (.fieldLink RX4 75 "StoryToll" "pairs" "I") (List.mem_of_getElem? (i := 9) rfl)) (fun _ h9 => h9) rfl dX4_follow_119 ?_
                rw [show ((tset C 34 v.toNatClampNeg ((C 34 v.toNatClampNeg) ||| (f_X2_asSet C w.toNatClampNeg))) 0 4) = (C 0 4) from by rw [tset_of (by decide)]]
                refine lv_iconst (v := 1) hx hb dX4_follow_122 (by decide) ?_
                refine lv_iadd hx hb dX4_follow_123 ?_
                refine g_put (D := D) (ci := 5) (v := .int ((C 0 4) + 1)) (ty := .int) (C := RX4) (T := TX4) (N := 9) (ct' := (Wd G ad N (tset (tset C 34 v.toNatClampNeg ((C 34 v.toNatClampNeg) ||| (f_X2_asSet C w.toNatClampNeg))) 0 4 ((C 0 4) + 1)) M o)) hx hb hts inX4 tyX4 tyX4_ok nmX4 hown hK hW hS (show Wd G ad N (tset C 34 v.toNatClampNeg ((C 34 v.toNatClampNeg) ||| (f_X2_asSet C w.toNatClampNeg))) M o 0 0 = some (eToll ad (tset C 34 v.toNatClampNeg ((C 34 v.toNatClampNeg) ||| (f_X2_asSet C w.toNatClampNeg)))) from rfl) rfl 4 (by decide) (hts (.fieldLink RX4 75 "StoryToll" "pairs" "I") (List.mem_of_getElem? (i := 9) rfl)) (fun _ h9 => h9) rfl (by decide +kernel) rfl rfl (Nat.le_of_ble_eq_true rfl) dX4_follow_124 Wd_c4 Wd_t0 (fun H locs hW hS => ?_)
                refine lv_aload_n hx hb dX4_follow_127 rfl (lv_at hl 2 rfl) ?_
                refine va_get (D := D) (ci := 5) (v := .int ((tset (tset C 34 v.toNatClampNeg ((C 34 v.toNatClampNeg) ||| (f_X2_asSet C w.toNatClampNeg))) 0 4 ((C 0 4) + 1)) 0 4)) (C := RX4) (T := TX4) (N := 9) hx hb hts inX4 hown hK (hW.p (e := (eToll ad (tset (tset C 34 v.toNatClampNeg ((C 34 v.toNatClampNeg) ||| (f_X2_asSet C w.toNatClampNeg))) 0 4 ((C 0 4) + 1)))) rfl) 0 rfl rfl 4 (by decide) (hts (.fieldLink RX4 75 "StoryToll" "pairs" "I") (List.mem_of_getElem? (i := 9) rfl)) (fun _ h9 => h9) rfl dX4_follow_128 ?_
                rw [show ((tset (tset C 34 v.toNatClampNeg ((C 34 v.toNatClampNeg) ||| (f_X2_asSet C w.toNatClampNeg))) 0 4 ((C 0 4) + 1)) 0 4) = ((C 0 4) + 1) from by rw [tset_s]]
                refine W.widen (k := 1) (n := 6) (by omega) (by omega) ?_
                exact vx_ret (g_wret (u := ()) (post := fun r _ => f_X4_follow C N v w = .inl r) (B := fun _ H => gW D A ad (Wd G ad N (s_X4_follow C N v w) M o) H) hx hb hr hlk hh hS (show f_X4_follow C N v w = .inl ((C 0 4) + 1) from by rw [f_X4_follow, if_pos c_f_1, if_pos c_f_3, if_neg c_37_4, if_neg c_45_5, if_neg c_57_6, if_pos c_76_8, if_pos c_90_9]) (show gW D A ad (Wd G ad N (s_X4_follow C N v w) M o) H from by rw [s_X4_follow, if_pos c_f_1, if_pos c_f_3, if_neg c_37_4, if_neg c_45_5, if_neg c_57_6, if_pos c_76_8, if_pos c_90_9]; exact hW) dX4_follow_131)
              · exact g_thr (u := ()) (px := fun _ => True) (B := fun E _ H => f_X4_follow C N v w = .inr E ∧ gW D A ad (Wd G ad N C M o) H) (E := xS) (text := "there are 60 pairs") hx hb hl0 hml hown hts (fun w hw => List.mem_cons_of_mem _ (List.mem_append_right _ hw)) xb_S xg_S (hts (.classLink RX4 40 "java/lang/IllegalStateException") (List.mem_of_getElem? (i := 5) rfl)) (hts (.initialized "java/lang/IllegalStateException") (List.mem_of_getElem? (i := 6) rfl)) hE hE.1.2.2.1 (by decide) (by decide) (by rw [hh]; exact hS) hl dX4_follow_93 dX4_follow_96 dX4_follow_97 dX4_follow_99 dX4_follow_102 hnt ⟨by decide, by decide, by decide, by decide⟩ hlk trivial (fun H1 hk9 => ⟨(show f_X4_follow C N v w = .inr xS from by rw [f_X4_follow, if_pos c_f_1, if_pos c_f_3, if_neg c_37_4, if_neg c_45_5, if_neg c_57_6, if_pos c_76_8, if_neg c_90_9]), hW.keep hk9⟩) (by decide) (by decide)
            · refine lv_aload_n hx hb dX4_follow_79 rfl (lv_at hl 2 rfl) ?_
              refine va_get (D := D) (ci := 5) (v := .int (C 0 4)) (C := RX4) (T := TX4) (N := 9) hx hb hts inX4 hown hK (hW.p (e := (eToll ad C)) rfl) 0 rfl rfl 4 (by decide) (hts (.fieldLink RX4 75 "StoryToll" "pairs" "I") (List.mem_of_getElem? (i := 9) rfl)) (fun _ h9 => h9) rfl dX4_follow_80 ?_
              refine W.widen (k := 1) (n := 6) (by omega) (by omega) ?_
              exact vx_ret (g_wret (u := ()) (post := fun r _ => f_X4_follow C N v w = .inl r) (B := fun _ H => gW D A ad (Wd G ad N (s_X4_follow C N v w) M o) H) hx hb hr hlk hh hS (show f_X4_follow C N v w = .inl (C 0 4) from by rw [f_X4_follow, if_pos c_f_1, if_pos c_f_3, if_neg c_37_4, if_neg c_45_5, if_neg c_57_6, if_neg c_76_8]) (show gW D A ad (Wd G ad N (s_X4_follow C N v w) M o) Hp from by rw [s_X4_follow, if_pos c_f_1, if_pos c_f_3, if_neg c_37_4, if_neg c_45_5, if_neg c_57_6, if_neg c_76_8]; exact hW) dX4_follow_83)
          · exact g_thr (u := ()) (px := fun _ => True) (B := fun E _ H => f_X4_follow C N v w = .inr E ∧ gW D A ad (Wd G ad N C M o) H) (E := xA) (text := "these scenes cannot follow each other") hx hb hl0 hml hown hts (fun w hw => List.mem_cons_of_mem _ (List.mem_append_left _ (List.mem_append_right _ hw))) xb_A xg_A (hts (.classLink RX4 29 "java/lang/IllegalArgumentException") (List.mem_of_getElem? (i := 3) rfl)) (hts (.initialized "java/lang/IllegalArgumentException") (List.mem_of_getElem? (i := 4) rfl)) hE hE.1.2.1 (by decide) (by decide) (by rw [hh]; exact hS) hl dX4_follow_60 dX4_follow_63 dX4_follow_64 dX4_follow_66 dX4_follow_69 hnt ⟨by decide, by decide, by decide, by decide⟩ hlk trivial (fun H1 hk9 => ⟨(show f_X4_follow C N v w = .inr xA from by rw [f_X4_follow, if_pos c_f_1, if_pos c_f_3, if_neg c_37_4, if_neg c_45_5, if_pos c_57_6]), hW.keep hk9⟩) (by decide) (by decide)
    · replace hr_3 : r_3 = none := hr_3.trans ((fe_X4_sceneAt _ _ _).trans (if_neg c_f_3))
      subst r_3
      refine lv_astoreN (lv' := [(4, .null), (3, .ref (ad 3 v.toNatClampNeg)), (0, .ref (ad 0 0)), (1, .int v), (2, .int w)]) hx hb dX4_follow_11 hl (by decide) rfl (fun ls hl => ?_)
      refine lv_aload_n hx hb dX4_follow_13 rfl (lv_at hl 1 rfl) ?_
      refine lv_ifnull hx hb dX4_follow_14 ?_
      refine lv_aloadN hx hb dX4_follow_17 (lv_at hl 0 rfl) ?_
      refine lv_ifnonnullN hx hb dX4_follow_19 ?_
      exact g_thr (u := ()) (px := fun _ => True) (B := fun E _ H => f_X4_follow C N v w = .inr E ∧ gW D A ad (Wd G ad N C M o) H) (E := xI) (text := "no such scene") hx hb hl0 hml hown hts (fun w hw => List.mem_cons_of_mem _ (List.mem_append_left _ (List.mem_append_left _ (List.mem_append_right _ hw)))) xb_I xg_I (hts (.classLink RX4 58 "java/lang/IndexOutOfBoundsException") (List.mem_of_getElem? (i := 1) rfl)) (hts (.initialized "java/lang/IndexOutOfBoundsException") (List.mem_of_getElem? (i := 2) rfl)) hE hE.1.1 (by decide) (by decide) (by rw [hh]; exact hS) hl dX4_follow_22 dX4_follow_25 dX4_follow_26 dX4_follow_28 dX4_follow_31 hnt ⟨by decide, by decide, by decide, by decide⟩ hlk trivial (fun H1 hk9 => ⟨(show f_X4_follow C N v w = .inr xI from by rw [f_X4_follow, if_pos c_f_1, if_neg c_f_3]), hW.keep hk9⟩) (by decide) (by decide)
  · replace hr_1 : r_1 = none := hr_1.trans ((fe_X4_sceneAt _ _ _).trans (if_neg c_f_1))
    subst r_1
    refine lv_astore_nN (lv' := [(3, .null), (0, .ref (ad 0 0)), (1, .int v), (2, .int w)]) hx hb dX4_follow_5 rfl hl (by decide) rfl (fun ls hl => ?_)
    refine lv_aload_n hx hb dX4_follow_6 rfl (lv_at hl 1 rfl) ?_
    refine lv_iload_n hx hb dX4_follow_7 rfl (lv_at hl 3 rfl) ?_
    refine g_Vq (As := [.int w]) (rest := []) C0 (c_X4_sceneAt l D G A ad N C M o Hp hW hNN w) (cwV 1 hts gX4_follow_X4_sceneAt rfl rfl rfl (by decide +kernel) ⟨Nat.le_of_ble_eq_true rfl, Nat.le_of_ble_eq_true rfl⟩) hK (va_recv hK (hW.p rfl) (ci := 5) (q0 := 0) rfl rfl) rfl hl rfl (Nat.le_of_ble_eq_true rfl) dX4_follow_8 ⟨Nat.zero_le _, Nat.zero_le _⟩ hS (fun r_12 locs hr_12 hS => ?_)
    by_cases c_f_12 : gIn w (N 0)
    · replace hr_12 : r_12 = some (ad 3 w.toNatClampNeg) := hr_12.trans ((fe_X4_sceneAt _ _ _).trans (if_pos c_f_12))
      subst r_12
      have hr_12 := gIn_of (by omega) c_f_12
      refine lv_astore (lv' := [(4, .ref (ad 3 w.toNatClampNeg)), (3, .null), (0, .ref (ad 0 0)), (1, .int v), (2, .int w)]) hx hb dX4_follow_11 hl (by decide) rfl (fun ls hl => ?_)
      refine lv_aload_nN hx hb dX4_follow_13 rfl (lv_at hl 1 rfl) ?_
      refine lv_ifnullN (tgt := 22) hx hb dX4_follow_14 (by decide) ?_
      exact g_thr (u := ()) (px := fun _ => True) (B := fun E _ H => f_X4_follow C N v w = .inr E ∧ gW D A ad (Wd G ad N C M o) H) (E := xI) (text := "no such scene") hx hb hl0 hml hown hts (fun w hw => List.mem_cons_of_mem _ (List.mem_append_left _ (List.mem_append_left _ (List.mem_append_right _ hw)))) xb_I xg_I (hts (.classLink RX4 58 "java/lang/IndexOutOfBoundsException") (List.mem_of_getElem? (i := 1) rfl)) (hts (.initialized "java/lang/IndexOutOfBoundsException") (List.mem_of_getElem? (i := 2) rfl)) hE hE.1.1 (by decide) (by decide) (by rw [hh]; exact hS) hl dX4_follow_22 dX4_follow_25 dX4_follow_26 dX4_follow_28 dX4_follow_31 hnt ⟨by decide, by decide, by decide, by decide⟩ hlk trivial (fun H1 hk9 => ⟨(show f_X4_follow C N v w = .inr xI from by rw [f_X4_follow, if_neg c_f_1, if_pos c_f_12]), hW.keep hk9⟩) (by decide) (by decide)
    · replace hr_12 : r_12 = none := hr_12.trans ((fe_X4_sceneAt _ _ _).trans (if_neg c_f_12))
      subst r_12
      refine lv_astoreN (lv' := [(4, .null), (3, .null), (0, .ref (ad 0 0)), (1, .int v), (2, .int w)]) hx hb dX4_follow_11 hl (by decide) rfl (fun ls hl => ?_)
      refine lv_aload_nN hx hb dX4_follow_13 rfl (lv_at hl 1 rfl) ?_
      refine lv_ifnullN (tgt := 22) hx hb dX4_follow_14 (by decide) ?_
      exact g_thr (u := ()) (px := fun _ => True) (B := fun E _ H => f_X4_follow C N v w = .inr E ∧ gW D A ad (Wd G ad N C M o) H) (E := xI) (text := "no such scene") hx hb hl0 hml hown hts (fun w hw => List.mem_cons_of_mem _ (List.mem_append_left _ (List.mem_append_left _ (List.mem_append_right _ hw)))) xb_I xg_I (hts (.classLink RX4 58 "java/lang/IndexOutOfBoundsException") (List.mem_of_getElem? (i := 1) rfl)) (hts (.initialized "java/lang/IndexOutOfBoundsException") (List.mem_of_getElem? (i := 2) rfl)) hE hE.1.1 (by decide) (by decide) (by rw [hh]; exact hS) hl dX4_follow_22 dX4_follow_25 dX4_follow_26 dX4_follow_28 dX4_follow_31 hnt ⟨by decide, by decide, by decide, by decide⟩ hlk trivial (fun H1 hk9 => ⟨(show f_X4_follow C N v w = .inr xI from by rw [f_X4_follow, if_neg c_f_1, if_neg c_f_12]), hW.keep hk9⟩) (by decide) (by decide)
theorem IC_X4_follow {N : gN} {C : gT} {v w : Int32} (h : IC N C) : IC N (s_X4_follow C N v w) := by
  unfold s_X4_follow
  repeat' (first | with_reducible exact h | with_reducible refine IC_if ?_ ?_ | with_reducible refine IC_t (by omega) (by omega) ?_)
def f_X4_reserve (C : gT) (N : gN) (v : Int32) (w : Int32) : Int32 ⊕ String := (if gIn v (N 2) then (if gIn w (N 3) then (if (C 53 v.toNatClampNeg) = 0 then (if (C 52 v.toNatClampNeg) < 5 then (Sum.inr xS) else (if (f_X1_isOpen C w.toNatClampNeg) = 0 then (Sum.inr xS) else (if (C 65 w.toNatClampNeg) = (-1) then (Sum.inl ((C 52 v.toNatClampNeg) - 5)) else (Sum.inr xS)))) else (Sum.inr xS)) else (Sum.inr xI)) else (if gIn w (N 3) then (Sum.inr xI) else (Sum.inr xI)))
def s_X4_reserve (C : gT) (N : gN) (v : Int32) (w : Int32) : gT := (if gIn v (N 2) then (if gIn w (N 3) then (if (C 53 v.toNatClampNeg) = 0 then (if (C 52 v.toNatClampNeg) < 5 then C else (if (f_X1_isOpen C w.toNatClampNeg) = 0 then C else (if (C 65 w.toNatClampNeg) = (-1) then (tset (tset C 52 v.toNatClampNeg ((C 52 v.toNatClampNeg) - 5)) 65 w.toNatClampNeg (C 50 v.toNatClampNeg)) else C))) else C) else C) else (if gIn w (N 3) then C else C))
set_option maxHeartbeats 4000000 in
set_option maxRecDepth 100000 in
theorem c_X4_reserve (l : Launch) (D : va_G) (G : gG) (A : Nat → Prop) (ad : gAd) (N : gN) (C M : gT) (o : Nat → Int64) (Hp : Heap) (hW : gW D A ad (Wd G ad N C M o) Hp) (hl0 : l.stackTraces = false) (hC : IC N C) (v w : Int32) : vx_Met l yX4_reserve wsX4_reserve ({ frames := 6, cells := 1, slots := 6, locals := 90 }) (va_Pc [.ref (ad 0 0), .int v, .int w] (gQX D (gTs G) Hp A)) (va_Qi (fun r (_ : Unit) => f_X4_reserve C N v w = .inl r) (fun _ t => gW D A ad (Wd G ad N (s_X4_reserve C N v w) M o) t.heap) A) (vx_X (fun (_ : Unit) => True) (fun E _ t => f_X4_reserve C N v w = .inr E ∧ gW D A ad (Wd G ad N C M o) t.heap) A) 1 6 A := by
  refine g_startX (cc := cX4_reserve) (maxL := 5) (ret := (some .int)) (by decide) rfl (Nat.le_of_ble_eq_true rfl) (fun p e s m below meth c ls C0 hr hlk hh hK hE hnt hl => ?_)
  obtain ⟨hx, hb, hml, hown, hts⟩ := id C0
  have hown : s.vm.findClass RX4 = some m.cls := hown
  have hS : va_S A Hp Hp [] := va_S.rf
  have hl : lv_has ls 5 [(0, .ref (ad 0 0)), (1, .int v), (2, .int w)] := hl
  have inX3 : ∀ w ∈ wsX30, w ∈ wsX4_reserve := by decide +kernel
  have inX1 : ∀ w ∈ wsX10, w ∈ wsX4_reserve := by decide +kernel
  obtain ⟨⟨hc0, hc1, hc2, hc3⟩, hNN, hCp⟩ := id hC
  have hn0 := hNN 0 (by decide)
  have hn1 := hNN 1 (by decide)
  have hn2 := hNN 2 (by decide)
  have hn3 := hNN 3 (by decide)
  refine lv_aload_n hx hb dX4_reserve_0 rfl (lv_at hl 0 rfl) ?_
  refine lv_iload_n hx hb dX4_reserve_1 rfl (lv_at hl 1 rfl) ?_
  refine g_Vq (As := [.int v]) (rest := []) C0 (c_X4_travellerAt l D G A ad N C M o Hp hW hNN v) (cwV 1 hts gX4_reserve_X4_travellerAt rfl rfl rfl (by decide +kernel) ⟨Nat.le_of_ble_eq_true rfl, Nat.le_of_ble_eq_true rfl⟩) hK (va_recv hK (hW.p rfl) (ci := 5) (q0 := 0) rfl rfl) rfl hl rfl (Nat.le_of_ble_eq_true rfl) dX4_reserve_2 ⟨Nat.zero_le _, Nat.zero_le _⟩ hS (fun r_1 locs hr_1 hS => ?_)
  by_cases c_f_1 : gIn v (N 2)
  · replace hr_1 : r_1 = some (ad 5 v.toNatClampNeg) := hr_1.trans ((fe_X4_travellerAt _ _ _).trans (if_pos c_f_1))
    subst r_1
    have hr_1 := gIn_of (by omega) c_f_1
    refine lv_astore_n (lv' := [(3, .ref (ad 5 v.toNatClampNeg)), (0, .ref (ad 0 0)), (1, .int v), (2, .int w)]) hx hb dX4_reserve_5 rfl hl (by decide) rfl (fun ls hl => ?_)
    refine lv_aload_n hx hb dX4_reserve_6 rfl (lv_at hl 1 rfl) ?_
    refine lv_iload_n hx hb dX4_reserve_7 rfl (lv_at hl 3 rfl) ?_
    refine g_Vq (As := [.int w]) (rest := []) C0 (c_X4_plotAt l D G A ad N C M o Hp hW hNN w) (cwV 1 hts gX4_reserve_X4_plotAt rfl rfl rfl (by decide +kernel) ⟨Nat.le_of_ble_eq_true rfl, Nat.le_of_ble_eq_true rfl⟩) hK (va_recv hK (hW.p rfl) (ci := 5) (q0 := 0) rfl rfl) rfl hl rfl (Nat.le_of_ble_eq_true rfl) dX4_reserve_8 ⟨Nat.zero_le _, Nat.zero_le _⟩ hS (fun r_3 locs hr_3 hS => ?_)
    by_cases c_f_3 : gIn w (N 3)
    · replace hr_3 : r_3 = some (ad 6 w.toNatClampNeg) := hr_3.trans ((fe_X4_plotAt _ _ _).trans (if_pos c_f_3))
      subst r_3
      have hr_3 := gIn_of (by omega) c_f_3
      obtain ⟨hla, hlen, hlen8⟩ := hCp _ hr_3.2
      refine lv_astore (lv' := [(4, .ref (ad 6 w.toNatClampNeg)), (3, .ref (ad 5 v.toNatClampNeg)), (0, .ref (ad 0 0)), (1, .int v), (2, .int w)]) hx hb dX4_reserve_11 hl (by decide) rfl (fun ls hl => ?_)
      refine lv_aload_n hx hb dX4_reserve_13 rfl (lv_at hl 1 rfl) ?_
      refine lv_ifnull hx hb dX4_reserve_14 ?_
      refine lv_aload hx hb dX4_reserve_17 (lv_at hl 0 rfl) ?_
      refine lv_ifnonnull (tgt := 32) hx hb dX4_reserve_19 (by decide) ?_
      refine lv_aload_n hx hb dX4_reserve_32 rfl (lv_at hl 1 rfl) ?_
      refine va_get (D := D) (ci := 4) (v := .int (C 53 v.toNatClampNeg)) (C := RX3) (T := TX3) (N := 5) hx hb hts inX3 hown hK (hW.p (e := (eTr C v.toNatClampNeg)) (Wd_Tr hr_1.2)) 0 rfl rfl 3 (by decide) (hts (.fieldLink RX4 148 "StoryToll$Traveller" "state" "I") (List.mem_of_getElem? (i := 5) rfl)) (fun _ h9 => h9) rfl dX4_reserve_33 ?_
      refine lv_if_ne (tgt := 64) hx hb dX4_reserve_36 (by decide) (fun c_36_4 => ?_) (fun c_36_4 => ?_)
      · exact g_thr (u := ()) (px := fun _ => True) (B := fun E _ H => f_X4_reserve C N v w = .inr E ∧ gW D A ad (Wd G ad N C M o) H) (E := xS) (text := "this traveller cannot reserve this ending") hx hb hl0 hml hown hts (fun w hw => List.mem_cons_of_mem _ (List.mem_append_right _ hw)) xb_S xg_S (hts (.classLink RX4 40 "java/lang/IllegalStateException") (List.mem_of_getElem? (i := 3) rfl)) (hts (.initialized "java/lang/IllegalStateException") (List.mem_of_getElem? (i := 4) rfl)) hE hE.1.2.2.1 (by decide) (by decide) (by rw [hh]; exact hS) hl dX4_reserve_64 dX4_reserve_67 dX4_reserve_68 dX4_reserve_70 dX4_reserve_73 hnt ⟨by decide, by decide, by decide, by decide⟩ hlk trivial (fun H1 hk9 => ⟨(show f_X4_reserve C N v w = .inr xS from by rw [f_X4_reserve, if_pos c_f_1, if_pos c_f_3, if_neg c_36_4]), hW.keep hk9⟩) (by decide) (by decide)
      · refine lv_aload_n hx hb dX4_reserve_39 rfl (lv_at hl 1 rfl) ?_
        refine va_get (D := D) (ci := 4) (v := .int (C 52 v.toNatClampNeg)) (C := RX3) (T := TX3) (N := 5) hx hb hts inX3 hown hK (hW.p (e := (eTr C v.toNatClampNeg)) (Wd_Tr hr_1.2)) 0 rfl rfl 2 (by decide) (hts (.fieldLink RX4 139 "StoryToll$Traveller" "paid" "I") (List.mem_of_getElem? (i := 6) rfl)) (fun _ h9 => h9) rfl dX4_reserve_40 ?_
        refine lv_iconst (v := 5) hx hb dX4_reserve_43 (by decide) ?_
        refine lv_icmp_lt (tgt := 64) hx hb dX4_reserve_44 (by decide) (fun c_44_5 => ?_) (fun c_44_5 => ?_)
        · exact g_thr (u := ()) (px := fun _ => True) (B := fun E _ H => f_X4_reserve C N v w = .inr E ∧ gW D A ad (Wd G ad N C M o) H) (E := xS) (text := "this traveller cannot reserve this ending") hx hb hl0 hml hown hts (fun w hw => List.mem_cons_of_mem _ (List.mem_append_right _ hw)) xb_S xg_S (hts (.classLink RX4 40 "java/lang/IllegalStateException") (List.mem_of_getElem? (i := 3) rfl)) (hts (.initialized "java/lang/IllegalStateException") (List.mem_of_getElem? (i := 4) rfl)) hE hE.1.2.2.1 (by decide) (by decide) (by rw [hh]; exact hS) hl dX4_reserve_64 dX4_reserve_67 dX4_reserve_68 dX4_reserve_70 dX4_reserve_73 hnt ⟨by decide, by decide, by decide, by decide⟩ hlk trivial (fun H1 hk9 => ⟨(show f_X4_reserve C N v w = .inr xS from by rw [f_X4_reserve, if_pos c_f_1, if_pos c_f_3, if_pos c_36_4, if_pos c_44_5]), hW.keep hk9⟩) (by decide) (by decide)
        · refine lv_aload hx hb dX4_reserve_47 (lv_at hl 0 rfl) ?_
          refine g_Vi (As := []) (rest := []) C0 (c_X1_isOpen l D G A ad N C M o Hp hW hC w.toNatClampNeg hr_3.2) (cwV 0 hts gX4_reserve_X1_isOpen rfl rfl rfl (by decide +kernel) ⟨Nat.le_of_ble_eq_true rfl, Nat.le_of_ble_eq_true rfl⟩) hK (va_recv hK (hW.p (Wd_Pl hr_3.2)) (ci := 2) (q0 := 0) rfl rfl) rfl hl rfl (Nat.le_of_ble_eq_true rfl) dX4_reserve_49 ⟨Nat.zero_le _, Nat.zero_le _⟩ hS (fun r_7 locs hr_7 hS => ?_)
          replace hr_7 : r_7 = (f_X1_isOpen C w.toNatClampNeg) := hr_7
          subst r_7
          refine lv_if_eq (tgt := 64) hx hb dX4_reserve_52 (by decide) (fun c_52_7 => ?_) (fun c_52_7 => ?_)
          · exact g_thr (u := ()) (px := fun _ => True) (B := fun E _ H => f_X4_reserve C N v w = .inr E ∧ gW D A ad (Wd G ad N C M o) H) (E := xS) (text := "this traveller cannot reserve this ending") hx hb hl0 hml hown hts (fun w hw => List.mem_cons_of_mem _ (List.mem_append_right _ hw)) xb_S xg_S (hts (.classLink RX4 40 "java/lang/IllegalStateException") (List.mem_of_getElem? (i := 3) rfl)) (hts (.initialized "java/lang/IllegalStateException") (List.mem_of_getElem? (i := 4) rfl)) hE hE.1.2.2.1 (by decide) (by decide) (by rw [hh]; exact hS) hl dX4_reserve_64 dX4_reserve_67 dX4_reserve_68 dX4_reserve_70 dX4_reserve_73 hnt ⟨by decide, by decide, by decide, by decide⟩ hlk trivial (fun H1 hk9 => ⟨(show f_X4_reserve C N v w = .inr xS from by rw [f_X4_reserve, if_pos c_f_1, if_pos c_f_3, if_pos c_36_4, if_neg c_44_5, if_pos c_52_7]), hW.keep hk9⟩) (by decide) (by decide)
          · refine lv_aload hx hb dX4_reserve_55 (lv_at hl 0 rfl) ?_
            refine va_get (D := D) (ci := 2) (v := .int (C 65 w.toNatClampNeg)) (C := RX1) (T := TX1) (N := 6) hx hb hts inX1 hown hK (hW.p (e := (ePl ad C w.toNatClampNeg)) (Wd_Pl hr_3.2)) 0 rfl rfl 5 (by decide) (hts (.fieldLink RX4 155 "StoryToll$Plot" "holder" "I") (List.mem_of_getElem? (i := 7) rfl)) (fun _ h9 => h9) rfl dX4_reserve_57 ?_
            refine lv_iconst (v := (-1)) hx hb dX4_reserve_60 (by decide) ?_
            refine lv_icmp_eq (tgt := 74) hx hb dX4_reserve_61 (by decide) (fun c_61_8 => ?_) (fun c_61_8 => ?_)
            · refine lv_aload_n hx hb dX4_reserve_74 rfl (lv_at hl 1 rfl) ?_
              refine lv_dup hx hb dX4_reserve_75 rfl ?_
              refine va_get (D := D) (ci := 4) (v := .int (C 52 v.toNatClampNeg)) (C := RX3) (T := TX3) (N := 5) hx hb hts inX3 hown hK (hW.p (e := (eTr C v.toNatClampNeg)) (Wd_Tr hr_1.2)) 0 rfl rfl 2 (by decide) (hts (.fieldLink RX4 139 "StoryToll$Traveller" "paid" "I") (List.mem_of_getElem? (i := 6) rfl)) (fun _ h9 => h9) rfl dX4_reserve_76 ?_
              refine lv_iconst (v := 5) hx hb dX4_reserve_79 (by decide) ?_
              refine lv_isub hx hb dX4_reserve_80 ?_
              refine g_put (D := D) (ci := 4) (v := .int ((C 52 v.toNatClampNeg) - 5)) (ty := .int) (C := RX3) (T := TX3) (N := 5) (ct' := (Wd G ad N (tset C 52 v.toNatClampNeg ((C 52 v.toNatClampNeg) - 5)) M o)) hx hb hts inX3 tyX3 tyX3_ok nmX3 hown hK hW hS (show Wd G ad N C M o 5 v.toNatClampNeg = some (eTr C v.toNatClampNeg) from (Wd_Tr hr_1.2)) rfl 2 (by decide) (hts (.fieldLink RX4 139 "StoryToll$Traveller" "paid" "I") (List.mem_of_getElem? (i := 6) rfl)) (fun _ h9 => h9) rfl (by decide +kernel) rfl rfl (Nat.le_of_ble_eq_true rfl) dX4_reserve_81 (Wd_f52 hr_1.2) (Wd_tk (by decide)) (fun H locs hW hS => ?_)
              refine lv_aload hx hb dX4_reserve_84 (lv_at hl 0 rfl) ?_
              refine lv_aload_n hx hb dX4_reserve_86 rfl (lv_at hl 1 rfl) ?_
              refine va_get (D := D) (ci := 4) (v := .int ((tset C 52 v.toNatClampNeg ((C 52 v.toNatClampNeg) - 5)) 50 v.toNatClampNeg)) (C := RX3) (T := TX3) (N := 5) hx hb hts inX3 hown hK (hW.p (e := (eTr (tset C 52 v.toNatClampNeg ((C 52 v.toNatClampNeg) - 5)) v.toNatClampNeg)) (Wd_Tr hr_1.2)) 0 rfl rfl 0 (by decide) (hts (.fieldLink RX4 160 "StoryToll$Traveller" "number" "I") (List.mem_of_getElem? (i := 8) rfl)) (fun _ h9 => h9) rfl dX4_reserve_87 ?_
              rw [show ((tset C 52 v.toNatClampNeg ((C 52 v.toNatClampNeg) - 5)) 50 v.toNatClampNeg) = (C 50 v.toNatClampNeg) from by rw [tset_of (by decide)]]
              refine g_put (D := D) (ci := 2) (v := .int (C 50 v.toNatClampNeg)) (ty := .int) (C := RX1) (T := TX1) (N := 6) (ct' := (Wd G ad N (tset (tset C 52 v.toNatClampNeg ((C 52 v.toNatClampNeg) - 5)) 65 w.toNatClampNeg (C 50 v.toNatClampNeg)) M o)) hx hb hts inX1 tyX1 tyX1_ok nmX1 hown hK hW hS (show Wd G ad N (tset C 52 v.toNatClampNeg ((C 52 v.toNatClampNeg) - 5)) M o 6 w.toNatClampNeg = some (ePl ad (tset C 52 v.toNatClampNeg ((C 52 v.toNatClampNeg) - 5)) w.toNatClampNeg) from (Wd_Pl hr_3.2)) rfl 5 (by decide) (hts (.fieldLink RX4 155 "StoryToll$Plot" "holder" "I") (List.mem_of_getElem? (i := 7) rfl)) (fun _ h9 => h9) rfl (by decide +kernel) rfl rfl (Nat.le_of_ble_eq_true rfl) dX4_reserve_90 (Wd_f65 hr_3.2) (Wd_tk (by decide)) (fun H locs hW hS => ?_)
              refine lv_aload_n hx hb dX4_reserve_93 rfl (lv_at hl 1 rfl) ?_
              refine va_get (D := D) (ci := 4) (v := .int ((tset (tset C 52 v.toNatClampNeg ((C 52 v.toNatClampNeg) - 5)) 65 w.toNatClampNeg (C 50 v.toNatClampNeg)) 52 v.toNatClampNeg)) (C := RX3) (T := TX3) (N := 5) hx hb hts inX3 hown hK (hW.p (e := (eTr (tset (tset C 52 v.toNatClampNeg ((C 52 v.toNatClampNeg) - 5)) 65 w.toNatClampNeg (C 50 v.toNatClampNeg)) v.toNatClampNeg)) (Wd_Tr hr_1.2)) 0 rfl rfl 2 (by decide) (hts (.fieldLink RX4 139 "StoryToll$Traveller" "paid" "I") (List.mem_of_getElem? (i := 6) rfl)) (fun _ h9 => h9) rfl dX4_reserve_94 ?_
              rw [show ((tset (tset C 52 v.toNatClampNeg ((C 52 v.toNatClampNeg) - 5)) 65 w.toNatClampNeg (C 50 v.toNatClampNeg)) 52 v.toNatClampNeg) = ((C 52 v.toNatClampNeg) - 5) from by rw [tset_of (by decide), tset_s]]
              refine W.widen (k := 1) (n := 6) (by omega) (by omega) ?_
              exact vx_ret (g_wret (u := ()) (post := fun r _ => f_X4_reserve C N v w = .inl r) (B := fun _ H => gW D A ad (Wd G ad N (s_X4_reserve C N v w) M o) H) hx hb hr hlk hh hS (show f_X4_reserve C N v w = .inl ((C 52 v.toNatClampNeg) - 5) from by rw [f_X4_reserve, if_pos c_f_1, if_pos c_f_3, if_pos c_36_4, if_neg c_44_5, if_neg c_52_7, if_pos c_61_8]) (show gW D A ad (Wd G ad N (s_X4_reserve C N v w) M o) H from by rw [s_X4_reserve, if_pos c_f_1, if_pos c_f_3, if_pos c_36_4, if_neg c_44_5, if_neg c_52_7, if_pos c_61_8]; exact hW) dX4_reserve_97)
            · exact g_thr (u := ()) (px := fun _ => True) (B := fun E _ H => f_X4_reserve C N v w = .inr E ∧ gW D A ad (Wd G ad N C M o) H) (E := xS) (text := "this traveller cannot reserve this ending") hx hb hl0 hml hown hts (fun w hw => List.mem_cons_of_mem _ (List.mem_append_right _ hw)) xb_S xg_S (hts (.classLink RX4 40 "java/lang/IllegalStateException") (List.mem_of_getElem? (i := 3) rfl)) (hts (.initialized "java/lang/IllegalStateException") (List.mem_of_getElem? (i := 4) rfl)) hE hE.1.2.2.1 (by decide) (by decide) (by rw [hh]; exact hS) hl dX4_reserve_64 dX4_reserve_67 dX4_reserve_68 dX4_reserve_70 dX4_reserve_73 hnt ⟨by decide, by decide, by decide, by decide⟩ hlk trivial (fun H1 hk9 => ⟨(show f_X4_reserve C N v w = .inr xS from by rw [f_X4_reserve, if_pos c_f_1, if_pos c_f_3, if_pos c_36_4, if_neg c_44_5, if_neg c_52_7, if_neg c_61_8]), hW.keep hk9⟩) (by decide) (by decide)
    · replace hr_3 : r_3 = none := hr_3.trans ((fe_X4_plotAt _ _ _).trans (if_neg c_f_3))
      subst r_3
      refine lv_astoreN (lv' := [(4, .null), (3, .ref (ad 5 v.toNatClampNeg)), (0, .ref (ad 0 0)), (1, .int v), (2, .int w)]) hx hb dX4_reserve_11 hl (by decide) rfl (fun ls hl => ?_)
      refine lv_aload_n hx hb dX4_reserve_13 rfl (lv_at hl 1 rfl) ?_
      refine lv_ifnull hx hb dX4_reserve_14 ?_
      refine lv_aloadN hx hb dX4_reserve_17 (lv_at hl 0 rfl) ?_
      refine lv_ifnonnullN hx hb dX4_reserve_19 ?_
      exact g_thr (u := ()) (px := fun _ => True) (B := fun E _ H => f_X4_reserve C N v w = .inr E ∧ gW D A ad (Wd G ad N C M o) H) (E := xI) (text := "no such traveller or plot") hx hb hl0 hml hown hts (fun w hw => List.mem_cons_of_mem _ (List.mem_append_left _ (List.mem_append_right _ hw))) xb_I xg_I (hts (.classLink RX4 58 "java/lang/IndexOutOfBoundsException") (List.mem_of_getElem? (i := 1) rfl)) (hts (.initialized "java/lang/IndexOutOfBoundsException") (List.mem_of_getElem? (i := 2) rfl)) hE hE.1.1 (by decide) (by decide) (by rw [hh]; exact hS) hl dX4_reserve_22 dX4_reserve_25 dX4_reserve_26 dX4_reserve_28 dX4_reserve_31 hnt ⟨by decide, by decide, by decide, by decide⟩ hlk trivial (fun H1 hk9 => ⟨(show f_X4_reserve C N v w = .inr xI from by rw [f_X4_reserve, if_pos c_f_1, if_neg c_f_3]), hW.keep hk9⟩) (by decide) (by decide)
  · replace hr_1 : r_1 = none := hr_1.trans ((fe_X4_travellerAt _ _ _).trans (if_neg c_f_1))
    subst r_1
    refine lv_astore_nN (lv' := [(3, .null), (0, .ref (ad 0 0)), (1, .int v), (2, .int w)]) hx hb dX4_reserve_5 rfl hl (by decide) rfl (fun ls hl => ?_)
    refine lv_aload_n hx hb dX4_reserve_6 rfl (lv_at hl 1 rfl) ?_
    refine lv_iload_n hx hb dX4_reserve_7 rfl (lv_at hl 3 rfl) ?_
    refine g_Vq (As := [.int w]) (rest := []) C0 (c_X4_plotAt l D G A ad N C M o Hp hW hNN w) (cwV 1 hts gX4_reserve_X4_plotAt rfl rfl rfl (by decide +kernel) ⟨Nat.le_of_ble_eq_true rfl, Nat.le_of_ble_eq_true rfl⟩) hK (va_recv hK (hW.p rfl) (ci := 5) (q0 := 0) rfl rfl) rfl hl rfl (Nat.le_of_ble_eq_true rfl) dX4_reserve_8 ⟨Nat.zero_le _, Nat.zero_le _⟩ hS (fun r_10 locs hr_10 hS => ?_)
    by_cases c_f_10 : gIn w (N 3)
    · replace hr_10 : r_10 = some (ad 6 w.toNatClampNeg) := hr_10.trans ((fe_X4_plotAt _ _ _).trans (if_pos c_f_10))
      subst r_10
      have hr_10 := gIn_of (by omega) c_f_10
      obtain ⟨hla, hlen, hlen8⟩ := hCp _ hr_10.2
      refine lv_astore (lv' := [(4, .ref (ad 6 w.toNatClampNeg)), (3, .null), (0, .ref (ad 0 0)), (1, .int v), (2, .int w)]) hx hb dX4_reserve_11 hl (by decide) rfl (fun ls hl => ?_)
      refine lv_aload_nN hx hb dX4_reserve_13 rfl (lv_at hl 1 rfl) ?_
      refine lv_ifnullN (tgt := 22) hx hb dX4_reserve_14 (by decide) ?_
      exact g_thr (u := ()) (px := fun _ => True) (B := fun E _ H => f_X4_reserve C N v w = .inr E ∧ gW D A ad (Wd G ad N C M o) H) (E := xI) (text := "no such traveller or plot") hx hb hl0 hml hown hts (fun w hw => List.mem_cons_of_mem _ (List.mem_append_left _ (List.mem_append_right _ hw))) xb_I xg_I (hts (.classLink RX4 58 "java/lang/IndexOutOfBoundsException") (List.mem_of_getElem? (i := 1) rfl)) (hts (.initialized "java/lang/IndexOutOfBoundsException") (List.mem_of_getElem? (i := 2) rfl)) hE hE.1.1 (by decide) (by decide) (by rw [hh]; exact hS) hl dX4_reserve_22 dX4_reserve_25 dX4_reserve_26 dX4_reserve_28 dX4_reserve_31 hnt ⟨by decide, by decide, by decide, by decide⟩ hlk trivial (fun H1 hk9 => ⟨(show f_X4_reserve C N v w = .inr xI from by rw [f_X4_reserve, if_neg c_f_1, if_pos c_f_10]), hW.keep hk9⟩) (by decide) (by decide)
    · replace hr_10 : r_10 = none := hr_10.trans ((fe_X4_plotAt _ _ _).trans (if_neg c_f_10))
      subst r_10
      refine lv_astoreN (lv' := [(4, .null), (3, .null), (0, .ref (ad 0 0)), (1, .int v), (2, .int w)]) hx hb dX4_reserve_11 hl (by decide) rfl (fun ls hl => ?_)
      refine lv_aload_nN hx hb dX4_reserve_13 rfl (lv_at hl 1 rfl) ?_
      refine lv_ifnullN (tgt := 22) hx hb dX4_reserve_14 (by decide) ?_
      exact g_thr (u := ()) (px := fun _ => True) (B := fun E _ H => f_X4_reserve C N v w = .inr E ∧ gW D A ad (Wd G ad N C M o) H) (E := xI) (text := "no such traveller or plot") hx hb hl0 hml hown hts (fun w hw => List.mem_cons_of_mem _ (List.mem_append_left _ (List.mem_append_right _ hw))) xb_I xg_I (hts (.classLink RX4 58 "java/lang/IndexOutOfBoundsException") (List.mem_of_getElem? (i := 1) rfl)) (hts (.initialized "java/lang/IndexOutOfBoundsException") (List.mem_of_getElem? (i := 2) rfl)) hE hE.1.1 (by decide) (by decide) (by rw [hh]; exact hS) hl dX4_reserve_22 dX4_reserve_25 dX4_reserve_26 dX4_reserve_28 dX4_reserve_31 hnt ⟨by decide, by decide, by decide, by decide⟩ hlk trivial (fun H1 hk9 => ⟨(show f_X4_reserve C N v w = .inr xI from by rw [f_X4_reserve, if_neg c_f_1, if_neg c_f_10]), hW.keep hk9⟩) (by decide) (by decide)
theorem IC_X4_reserve {N : gN} {C : gT} {v w : Int32} (h : IC N C) : IC N (s_X4_reserve C N v w) := by
  unfold s_X4_reserve
  repeat' (first | with_reducible exact h | with_reducible refine IC_if ?_ ?_ | with_reducible refine IC_t (by omega) (by omega) ?_)
def f_X4_pass (C : gT) (N : gN) (v : Int32) : Int32 ⊕ String := (if gIn v (N 2) then (if (C 53 v.toNatClampNeg) = 0 then (if 15 ≤ (C 52 v.toNatClampNeg) then (Sum.inl 1) else (if (f_X4_guardsAwake C N) ≤ 0 then (Sum.inl 1) else (Sum.inl 0))) else (Sum.inr xS)) else (Sum.inr xI))
def s_X4_pass (C : gT) (N : gN) (v : Int32) : gT := (if gIn v (N 2) then (if (C 53 v.toNatClampNeg) = 0 then (if 15 ≤ (C 52 v.toNatClampNeg) then (tset C 53 v.toNatClampNeg 1) else (if (f_X4_guardsAwake C N) ≤ 0 then (tset C 53 v.toNatClampNeg 1) else C)) else C) else C)
set_option maxHeartbeats 4000000 in
set_option maxRecDepth 100000 in
theorem c_X4_pass (l : Launch) (D : va_G) (G : gG) (A : Nat → Prop) (ad : gAd) (N : gN) (C M : gT) (o : Nat → Int64) (Hp : Heap) (hW : gW D A ad (Wd G ad N C M o) Hp) (hl0 : l.stackTraces = false) (hC : IC N C) (v : Int32) : vx_Met l yX4_pass wsX4_pass ({ frames := 6, cells := 1, slots := 6, locals := 90 }) (va_Pc [.ref (ad 0 0), .int v] (gQX D (gTs G) Hp A)) (va_Qi (fun r (_ : Unit) => f_X4_pass C N v = .inl r) (fun _ t => gW D A ad (Wd G ad N (s_X4_pass C N v) M o) t.heap) A) (vx_X (fun (_ : Unit) => True) (fun E _ t => f_X4_pass C N v = .inr E ∧ gW D A ad (Wd G ad N C M o) t.heap) A) 1 6 A := by
  refine g_startX (cc := cX4_pass) (maxL := 3) (ret := (some .boolean)) (by decide) rfl (Nat.le_of_ble_eq_true rfl) (fun p e s m below meth c ls C0 hr hlk hh hK hE hnt hl => ?_)
  obtain ⟨hx, hb, hml, hown, hts⟩ := id C0
  have hown : s.vm.findClass RX4 = some m.cls := hown
  have hS : va_S A Hp Hp [] := va_S.rf
  have hl : lv_has ls 3 [(0, .ref (ad 0 0)), (1, .int v)] := hl
  have inX3 : ∀ w ∈ wsX30, w ∈ wsX4_pass := by decide +kernel
  obtain ⟨⟨hc0, hc1, hc2, hc3⟩, hNN, hCp⟩ := id hC
  have hn0 := hNN 0 (by decide)
  have hn1 := hNN 1 (by decide)
  have hn2 := hNN 2 (by decide)
  have hn3 := hNN 3 (by decide)
  refine lv_aload_n hx hb dX4_pass_0 rfl (lv_at hl 0 rfl) ?_
  refine lv_iload_n hx hb dX4_pass_1 rfl (lv_at hl 1 rfl) ?_
  refine g_Vq (As := [.int v]) (rest := []) C0 (c_X4_travellerAt l D G A ad N C M o Hp hW hNN v) (cwV 1 hts gX4_pass_X4_travellerAt rfl rfl rfl (by decide +kernel) ⟨Nat.le_of_ble_eq_true rfl, Nat.le_of_ble_eq_true rfl⟩) hK (va_recv hK (hW.p rfl) (ci := 5) (q0 := 0) rfl rfl) rfl hl rfl (Nat.le_of_ble_eq_true rfl) dX4_pass_2 ⟨Nat.zero_le _, Nat.zero_le _⟩ hS (fun r_1 locs hr_1 hS => ?_)
  by_cases c_f_1 : gIn v (N 2)
  · replace hr_1 : r_1 = some (ad 5 v.toNatClampNeg) := hr_1.trans ((fe_X4_travellerAt _ _ _).trans (if_pos c_f_1))
    subst r_1
    have hr_1 := gIn_of (by omega) c_f_1
    refine lv_astore_n (lv' := [(2, .ref (ad 5 v.toNatClampNeg)), (0, .ref (ad 0 0)), (1, .int v)]) hx hb dX4_pass_5 rfl hl (by decide) rfl (fun ls hl => ?_)
    refine lv_aload_n hx hb dX4_pass_6 rfl (lv_at hl 0 rfl) ?_
    refine lv_ifnonnull (tgt := 20) hx hb dX4_pass_7 (by decide) ?_
    refine lv_aload_n hx hb dX4_pass_20 rfl (lv_at hl 0 rfl) ?_
    refine va_get (D := D) (ci := 4) (v := .int (C 53 v.toNatClampNeg)) (C := RX3) (T := TX3) (N := 5) hx hb hts inX3 hown hK (hW.p (e := (eTr C v.toNatClampNeg)) (Wd_Tr hr_1.2)) 0 rfl rfl 3 (by decide) (hts (.fieldLink RX4 148 "StoryToll$Traveller" "state" "I") (List.mem_of_getElem? (i := 5) rfl)) (fun _ h9 => h9) rfl dX4_pass_21 ?_
    refine lv_if_eq (tgt := 37) hx hb dX4_pass_24 (by decide) (fun c_24_2 => ?_) (fun c_24_2 => ?_)
    · refine lv_aload_n hx hb dX4_pass_37 rfl (lv_at hl 0 rfl) ?_
      refine va_get (D := D) (ci := 4) (v := .int (C 52 v.toNatClampNeg)) (C := RX3) (T := TX3) (N := 5) hx hb hts inX3 hown hK (hW.p (e := (eTr C v.toNatClampNeg)) (Wd_Tr hr_1.2)) 0 rfl rfl 2 (by decide) (hts (.fieldLink RX4 139 "StoryToll$Traveller" "paid" "I") (List.mem_of_getElem? (i := 6) rfl)) (fun _ h9 => h9) rfl dX4_pass_38 ?_
      refine lv_bipush (v := 15) hx hb dX4_pass_41 (by decide) ?_
      refine lv_icmp_ge (tgt := 55) hx hb dX4_pass_43 (by decide) (fun c_43_3 => ?_) (fun c_43_3 => ?_)
      · refine lv_aload_n hx hb dX4_pass_55 rfl (lv_at hl 0 rfl) ?_
        refine lv_iconst (v := 1) hx hb dX4_pass_56 (by decide) ?_
        refine g_put (D := D) (ci := 4) (v := .int 1) (ty := .int) (C := RX3) (T := TX3) (N := 5) (ct' := (Wd G ad N (tset C 53 v.toNatClampNeg 1) M o)) hx hb hts inX3 tyX3 tyX3_ok nmX3 hown hK hW hS (show Wd G ad N C M o 5 v.toNatClampNeg = some (eTr C v.toNatClampNeg) from (Wd_Tr hr_1.2)) rfl 3 (by decide) (hts (.fieldLink RX4 148 "StoryToll$Traveller" "state" "I") (List.mem_of_getElem? (i := 5) rfl)) (fun _ h9 => h9) rfl (by decide +kernel) rfl rfl (Nat.le_of_ble_eq_true rfl) dX4_pass_57 (Wd_f53 hr_1.2) (Wd_tk (by decide)) (fun H locs hW hS => ?_)
        refine lv_iconst (v := 1) hx hb dX4_pass_60 (by decide) ?_
        refine W.widen (k := 1) (n := 6) (by omega) (by omega) ?_
        exact vx_ret (g_wzret (u := ()) (post := fun r _ => f_X4_pass C N v = .inl r) (B := fun _ H => gW D A ad (Wd G ad N (s_X4_pass C N v) M o) H) hx hb hr hlk hh hS (Or.inr rfl) (show f_X4_pass C N v = .inl 1 from by rw [f_X4_pass, if_pos c_f_1, if_pos c_24_2, if_pos c_43_3]) (show gW D A ad (Wd G ad N (s_X4_pass C N v) M o) H from by rw [s_X4_pass, if_pos c_f_1, if_pos c_24_2, if_pos c_43_3]; exact hW) dX4_pass_61)
      · refine lv_aload_n hx hb dX4_pass_46 rfl (lv_at hl 1 rfl) ?_
        refine g_Vi (As := []) (rest := []) C0 (c_X4_guardsAwake l D G A ad N C M o Hp hW hC) (cwV 0 hts gX4_pass_X4_guardsAwake rfl rfl rfl (by decide +kernel) ⟨Nat.le_of_ble_eq_true rfl, Nat.le_of_ble_eq_true rfl⟩) hK (va_recv hK (hW.p rfl) (ci := 5) (q0 := 0) rfl rfl) rfl hl rfl (Nat.le_of_ble_eq_true rfl) dX4_pass_47 ⟨Nat.zero_le _, Nat.zero_le _⟩ hS (fun r_5 locs hr_5 hS => ?_)
        replace hr_5 : r_5 = (f_X4_guardsAwake C N) := hr_5
        subst r_5
        refine lv_if_le (tgt := 55) hx hb dX4_pass_50 (by decide) (fun c_50_5 => ?_) (fun c_50_5 => ?_)
        · refine lv_aload_n hx hb dX4_pass_55 rfl (lv_at hl 0 rfl) ?_
          refine lv_iconst (v := 1) hx hb dX4_pass_56 (by decide) ?_
          refine g_put (D := D) (ci := 4) (v := .int 1) (ty := .int) (C := RX3) (T := TX3) (N := 5) (ct' := (Wd G ad N (tset C 53 v.toNatClampNeg 1) M o)) hx hb hts inX3 tyX3 tyX3_ok nmX3 hown hK hW hS (show Wd G ad N C M o 5 v.toNatClampNeg = some (eTr C v.toNatClampNeg) from (Wd_Tr hr_1.2)) rfl 3 (by decide) (hts (.fieldLink RX4 148 "StoryToll$Traveller" "state" "I") (List.mem_of_getElem? (i := 5) rfl)) (fun _ h9 => h9) rfl (by decide +kernel) rfl rfl (Nat.le_of_ble_eq_true rfl) dX4_pass_57 (Wd_f53 hr_1.2) (Wd_tk (by decide)) (fun H locs hW hS => ?_)
          refine lv_iconst (v := 1) hx hb dX4_pass_60 (by decide) ?_
          refine W.widen (k := 1) (n := 6) (by omega) (by omega) ?_
          exact vx_ret (g_wzret (u := ()) (post := fun r _ => f_X4_pass C N v = .inl r) (B := fun _ H => gW D A ad (Wd G ad N (s_X4_pass C N v) M o) H) hx hb hr hlk hh hS (Or.inr rfl) (show f_X4_pass C N v = .inl 1 from by rw [f_X4_pass, if_pos c_f_1, if_pos c_24_2, if_neg c_43_3, if_pos c_50_5]) (show gW D A ad (Wd G ad N (s_X4_pass C N v) M o) H from by rw [s_X4_pass, if_pos c_f_1, if_pos c_24_2, if_neg c_43_3, if_pos c_50_5]; exact hW) dX4_pass_61)
        · refine lv_iconst (v := 0) hx hb dX4_pass_53 (by decide) ?_
          refine W.widen (k := 1) (n := 6) (by omega) (by omega) ?_
          exact vx_ret (g_wzret (u := ()) (post := fun r _ => f_X4_pass C N v = .inl r) (B := fun _ H => gW D A ad (Wd G ad N (s_X4_pass C N v) M o) H) hx hb hr hlk hh hS (Or.inl rfl) (show f_X4_pass C N v = .inl 0 from by rw [f_X4_pass, if_pos c_f_1, if_pos c_24_2, if_neg c_43_3, if_neg c_50_5]) (show gW D A ad (Wd G ad N (s_X4_pass C N v) M o) Hp from by rw [s_X4_pass, if_pos c_f_1, if_pos c_24_2, if_neg c_43_3, if_neg c_50_5]; exact hW) dX4_pass_54)
    · exact g_thr (u := ()) (px := fun _ => True) (B := fun E _ H => f_X4_pass C N v = .inr E ∧ gW D A ad (Wd G ad N C M o) H) (E := xS) (text := "this traveller is not on the way") hx hb hl0 hml hown hts (fun w hw => List.mem_cons_of_mem _ (List.mem_append_right _ hw)) xb_S xg_S (hts (.classLink RX4 40 "java/lang/IllegalStateException") (List.mem_of_getElem? (i := 3) rfl)) (hts (.initialized "java/lang/IllegalStateException") (List.mem_of_getElem? (i := 4) rfl)) hE hE.1.2.2.1 (by decide) (by decide) (by rw [hh]; exact hS) hl dX4_pass_27 dX4_pass_30 dX4_pass_31 dX4_pass_33 dX4_pass_36 hnt ⟨by decide, by decide, by decide, by decide⟩ hlk trivial (fun H1 hk9 => ⟨(show f_X4_pass C N v = .inr xS from by rw [f_X4_pass, if_pos c_f_1, if_neg c_24_2]), hW.keep hk9⟩) (by decide) (by decide)
  · replace hr_1 : r_1 = none := hr_1.trans ((fe_X4_travellerAt _ _ _).trans (if_neg c_f_1))
    subst r_1
    refine lv_astore_nN (lv' := [(2, .null), (0, .ref (ad 0 0)), (1, .int v)]) hx hb dX4_pass_5 rfl hl (by decide) rfl (fun ls hl => ?_)
    refine lv_aload_nN hx hb dX4_pass_6 rfl (lv_at hl 0 rfl) ?_
    refine lv_ifnonnullN hx hb dX4_pass_7 ?_
    exact g_thr (u := ()) (px := fun _ => True) (B := fun E _ H => f_X4_pass C N v = .inr E ∧ gW D A ad (Wd G ad N C M o) H) (E := xI) (text := "no such traveller") hx hb hl0 hml hown hts (fun w hw => List.mem_cons_of_mem _ (List.mem_append_left _ (List.mem_append_right _ hw))) xb_I xg_I (hts (.classLink RX4 58 "java/lang/IndexOutOfBoundsException") (List.mem_of_getElem? (i := 1) rfl)) (hts (.initialized "java/lang/IndexOutOfBoundsException") (List.mem_of_getElem? (i := 2) rfl)) hE hE.1.1 (by decide) (by decide) (by rw [hh]; exact hS) hl dX4_pass_10 dX4_pass_13 dX4_pass_14 dX4_pass_16 dX4_pass_19 hnt ⟨by decide, by decide, by decide, by decide⟩ hlk trivial (fun H1 hk9 => ⟨(show f_X4_pass C N v = .inr xI from by rw [f_X4_pass, if_neg c_f_1]), hW.keep hk9⟩) (by decide) (by decide)
theorem IC_X4_pass {N : gN} {C : gT} {v : Int32} (h : IC N C) : IC N (s_X4_pass C N v) := by
  unfold s_X4_pass
  repeat' (first | with_reducible exact h | with_reducible refine IC_if ?_ ?_ | with_reducible refine IC_t (by omega) (by omega) ?_)
def L_send (t : Nat) (j : Nat) (acc : gT) : gT := (if (acc 65 j) = (acc 50 t) then (tset acc 65 j (-1)) else acc)
def f_X4_send (C : gT) (N : gN) (v : Int32) : Int32 ⊕ String := (if gIn v (N 2) then (if (C 53 v.toNatClampNeg) = 0 then (Sum.inl ((gIt (L_send v.toNatClampNeg) (tset C 53 v.toNatClampNeg 2) (N 3)) 52 v.toNatClampNeg)) else (Sum.inr xS)) else (Sum.inr xI))
def s_X4_send (C : gT) (N : gN) (v : Int32) : gT := (if gIn v (N 2) then (if (C 53 v.toNatClampNeg) = 0 then (gIt (L_send v.toNatClampNeg) (tset C 53 v.toNatClampNeg 2) (N 3)) else C) else C)
theorem IC_L_send {N : gN} {C : gT} {t j : Nat} (h : IC N C) : IC N (L_send t j C) := by
  unfold L_send
  repeat' (first | with_reducible exact h | with_reducible refine IC_if ?_ ?_ | with_reducible refine IC_t (by omega) (by omega) ?_)
set_option maxHeartbeats 4000000 in
set_option maxRecDepth 100000 in
theorem c_X4_send (l : Launch) (D : va_G) (G : gG) (A : Nat → Prop) (ad : gAd) (N : gN) (C M : gT) (o : Nat → Int64) (Hp : Heap) (hW : gW D A ad (Wd G ad N C M o) Hp) (hl0 : l.stackTraces = false) (hC : IC N C) (v : Int32) : vx_Met l yX4_send wsX4_send ({ frames := 6, cells := 1, slots := 6, locals := 90 }) (va_Pc [.ref (ad 0 0), .int v] (gQX D (gTs G) Hp A)) (va_Qi (fun r (_ : Unit) => f_X4_send C N v = .inl r) (fun _ t => gW D A ad (Wd G ad N (s_X4_send C N v) M o) t.heap) A) (vx_X (fun (_ : Unit) => True) (fun E _ t => f_X4_send C N v = .inr E ∧ gW D A ad (Wd G ad N C M o) t.heap) A) 1 6 A := by
  refine g_startX (cc := cX4_send) (maxL := 5) (ret := (some .int)) (by decide) rfl (Nat.le_of_ble_eq_true rfl) (fun p e s m below meth c ls C0 hr hlk hh hK hE hnt hl => ?_)
  obtain ⟨hx, hb, hml, hown, hts⟩ := id C0
  have hown : s.vm.findClass RX4 = some m.cls := hown
  have hS : va_S A Hp Hp [] := va_S.rf
  have hl : lv_has ls 5 [(0, .ref (ad 0 0)), (1, .int v)] := hl
  have inX3 : ∀ w ∈ wsX30, w ∈ wsX4_send := by decide +kernel
  have inX4 : ∀ w ∈ wsX40, w ∈ wsX4_send := by decide +kernel
  have inX1 : ∀ w ∈ wsX10, w ∈ wsX4_send := by decide +kernel
  obtain ⟨⟨hc0, hc1, hc2, hc3⟩, hNN, hCp⟩ := id hC
  have hn0 := hNN 0 (by decide)
  have hn1 := hNN 1 (by decide)
  have hn2 := hNN 2 (by decide)
  have hn3 := hNN 3 (by decide)
  refine lv_aload_n hx hb dX4_send_0 rfl (lv_at hl 0 rfl) ?_
  refine lv_iload_n hx hb dX4_send_1 rfl (lv_at hl 1 rfl) ?_
  refine g_Vq (As := [.int v]) (rest := []) C0 (c_X4_travellerAt l D G A ad N C M o Hp hW hNN v) (cwV 1 hts gX4_send_X4_travellerAt rfl rfl rfl (by decide +kernel) ⟨Nat.le_of_ble_eq_true rfl, Nat.le_of_ble_eq_true rfl⟩) hK (va_recv hK (hW.p rfl) (ci := 5) (q0 := 0) rfl rfl) rfl hl rfl (Nat.le_of_ble_eq_true rfl) dX4_send_2 ⟨Nat.zero_le _, Nat.zero_le _⟩ hS (fun r_1 locs hr_1 hS => ?_)
  by_cases c_f_1 : gIn v (N 2)
  · replace hr_1 : r_1 = some (ad 5 v.toNatClampNeg) := hr_1.trans ((fe_X4_travellerAt _ _ _).trans (if_pos c_f_1))
    subst r_1
    have hr_1 := gIn_of (by omega) c_f_1
    refine lv_astore_n (lv' := [(2, .ref (ad 5 v.toNatClampNeg)), (0, .ref (ad 0 0)), (1, .int v)]) hx hb dX4_send_5 rfl hl (by decide) rfl (fun ls hl => ?_)
    refine lv_aload_n hx hb dX4_send_6 rfl (lv_at hl 0 rfl) ?_
    refine lv_ifnonnull (tgt := 20) hx hb dX4_send_7 (by decide) ?_
    refine lv_aload_n hx hb dX4_send_20 rfl (lv_at hl 0 rfl) ?_
    refine va_get (D := D) (ci := 4) (v := .int (C 53 v.toNatClampNeg)) (C := RX3) (T := TX3) (N := 5) hx hb hts inX3 hown hK (hW.p (e := (eTr C v.toNatClampNeg)) (Wd_Tr hr_1.2)) 0 rfl rfl 3 (by decide) (hts (.fieldLink RX4 148 "StoryToll$Traveller" "state" "I") (List.mem_of_getElem? (i := 5) rfl)) (fun _ h9 => h9) rfl dX4_send_21 ?_
    refine lv_if_eq (tgt := 37) hx hb dX4_send_24 (by decide) (fun c_24_2 => ?_) (fun c_24_2 => ?_)
    · refine lv_aload_n hx hb dX4_send_37 rfl (lv_at hl 0 rfl) ?_
      refine lv_iconst (v := 2) hx hb dX4_send_38 (by decide) ?_
      refine g_put (D := D) (ci := 4) (v := .int 2) (ty := .int) (C := RX3) (T := TX3) (N := 5) (ct' := (Wd G ad N (tset C 53 v.toNatClampNeg 2) M o)) hx hb hts inX3 tyX3 tyX3_ok nmX3 hown hK hW hS (show Wd G ad N C M o 5 v.toNatClampNeg = some (eTr C v.toNatClampNeg) from (Wd_Tr hr_1.2)) rfl 3 (by decide) (hts (.fieldLink RX4 148 "StoryToll$Traveller" "state" "I") (List.mem_of_getElem? (i := 5) rfl)) (fun _ h9 => h9) rfl (by decide +kernel) rfl rfl (Nat.le_of_ble_eq_true rfl) dX4_send_39 (Wd_f53 hr_1.2) (Wd_tk (by decide)) (fun H locs hW hS => ?_)
      refine lv_iconst (v := 0) hx hb dX4_send_42 (by decide) ?_
      refine lv_istore_n (lv' := [(3, .int 0), (2, .ref (ad 5 v.toNatClampNeg)), (0, .ref (ad 0 0)), (1, .int v)]) hx hb dX4_send_43 rfl hl (by decide) rfl (fun ls hl => ?_)
      refine g_loopH (N 3) 0 0 (fun j ls H => lv_has ls 5 [(3, .int (nI j)), (2, .ref (ad 5 v.toNatClampNeg)), (0, .ref (ad 0 0)), (1, .int v)] ∧ gW D A ad (Wd G ad N (gIt (L_send v.toNatClampNeg) (tset C 53 v.toNatClampNeg 2) j) M o) H) ⟨lv_sub hl [0, 1, 2, 3] rfl, hW⟩ hS (fun ls H locs hlW hS => ?_) (fun j ls H locs hj hlW hS ih => ?_)
      · obtain ⟨hl, hW⟩ : lv_has ls 5 [(3, .int (nI (N 3))), (2, .ref (ad 5 v.toNatClampNeg)), (0, .ref (ad 0 0)), (1, .int v)] ∧ gW D A ad (Wd G ad N (gIt (L_send v.toNatClampNeg) (tset C 53 v.toNatClampNeg 2) (N 3)) M o) H := hlW
        refine W.widen (k := 0) (n := 0) (by omega) (by omega) ?_
        refine lv_iload_n hx hb dX4_send_44 rfl (lv_at hl 0 rfl) ?_
        refine lv_aload_n hx hb dX4_send_45 rfl (lv_at hl 2 rfl) ?_
        refine va_get (D := D) (ci := 5) (v := .ref (ad 1 3)) (C := RX4) (T := TX4) (N := 9) hx hb hts inX4 hown hK (hW.p (e := (eToll ad (gIt (L_send v.toNatClampNeg) (tset C 53 v.toNatClampNeg 2) (N 3)))) rfl) 0 rfl rfl 3 (by decide) (hts (.fieldLink RX4 22 "StoryToll" "plots" "Ljava/util/ArrayList;") (List.mem_of_getElem? (i := 6) rfl)) (fun _ h9 => h9) rfl dX4_send_46 ?_
        refine g_Vi (As := []) (rest := [.int (nI (N 3))]) C0 (c_Jx4a65c_size_8abf5 l D G A ad N (gIt (L_send v.toNatClampNeg) (tset C 53 v.toNatClampNeg 2) (N 3)) M o H hW 3 (by decide)) (cwV 0 hts gX4_send_Jx4a65c_size_8abf5 rfl rfl rfl (by decide +kernel) ⟨Nat.le_of_ble_eq_true rfl, Nat.le_of_ble_eq_true rfl⟩) hK (va_recv hK (hW.p (Wd_Li (by omega))) (ci := 0) (q0 := 0) rfl rfl) rfl hl rfl (Nat.le_of_ble_eq_true rfl) dX4_send_49 ⟨Nat.zero_le _, Nat.zero_le _⟩ hS (fun r_4 locs hr_4 hS => ?_)
        replace hr_4 : r_4 = (nI (N 3)) := hr_4
        subst r_4
        refine lv_icmp_ge (tgt := 92) hx hb dX4_send_52 (by decide) (fun c_52_4 => ?_) (fun c_52_4 => ?_)
        · refine lv_aload_n hx hb dX4_send_92 rfl (lv_at hl 1 rfl) ?_
          refine va_get (D := D) (ci := 4) (v := .int ((gIt (L_send v.toNatClampNeg) (tset C 53 v.toNatClampNeg 2) (N 3)) 52 v.toNatClampNeg)) (C := RX3) (T := TX3) (N := 5) hx hb hts inX3 hown hK (hW.p (e := (eTr (gIt (L_send v.toNatClampNeg) (tset C 53 v.toNatClampNeg 2) (N 3)) v.toNatClampNeg)) (Wd_Tr hr_1.2)) 0 rfl rfl 2 (by decide) (hts (.fieldLink RX4 139 "StoryToll$Traveller" "paid" "I") (List.mem_of_getElem? (i := 10) rfl)) (fun _ h9 => h9) rfl dX4_send_93 ?_
          refine W.widen (k := 1) (n := 6) (by omega) (by omega) ?_
          exact vx_ret (g_wret (u := ()) (post := fun r _ => f_X4_send C N v = .inl r) (B := fun _ H => gW D A ad (Wd G ad N (s_X4_send C N v) M o) H) hx hb hr hlk hh hS (show f_X4_send C N v = .inl ((gIt (L_send v.toNatClampNeg) (tset C 53 v.toNatClampNeg 2) (N 3)) 52 v.toNatClampNeg) from by rw [f_X4_send, if_pos c_f_1, if_pos c_24_2]) (show gW D A ad (Wd G ad N (s_X4_send C N v) M o) H from by rw [s_X4_send, if_pos c_f_1, if_pos c_24_2]; exact hW) dX4_send_96)
        · exact absurd (g_le rfl (by omega)) c_52_4
      · obtain ⟨hl, hW⟩ : lv_has ls 5 [(3, .int (nI j)), (2, .ref (ad 5 v.toNatClampNeg)), (0, .ref (ad 0 0)), (1, .int v)] ∧ gW D A ad (Wd G ad N (gIt (L_send v.toNatClampNeg) (tset C 53 v.toNatClampNeg 2) j) M o) H := hlW
        refine W.widen (k := 0) (n := 0) (by omega) (by omega) ?_
        refine lv_iload_n hx hb dX4_send_44 rfl (lv_at hl 0 rfl) ?_
        refine lv_aload_n hx hb dX4_send_45 rfl (lv_at hl 2 rfl) ?_
        refine va_get (D := D) (ci := 5) (v := .ref (ad 1 3)) (C := RX4) (T := TX4) (N := 9) hx hb hts inX4 hown hK (hW.p (e := (eToll ad (gIt (L_send v.toNatClampNeg) (tset C 53 v.toNatClampNeg 2) j))) rfl) 0 rfl rfl 3 (by decide) (hts (.fieldLink RX4 22 "StoryToll" "plots" "Ljava/util/ArrayList;") (List.mem_of_getElem? (i := 6) rfl)) (fun _ h9 => h9) rfl dX4_send_46 ?_
        refine g_Vi (As := []) (rest := [.int (nI j)]) C0 (c_Jx4a65c_size_8abf5 l D G A ad N (gIt (L_send v.toNatClampNeg) (tset C 53 v.toNatClampNeg 2) j) M o H hW 3 (by decide)) (cwV 0 hts gX4_send_Jx4a65c_size_8abf5 rfl rfl rfl (by decide +kernel) ⟨Nat.le_of_ble_eq_true rfl, Nat.le_of_ble_eq_true rfl⟩) hK (va_recv hK (hW.p (Wd_Li (by omega))) (ci := 0) (q0 := 0) rfl rfl) rfl hl rfl (Nat.le_of_ble_eq_true rfl) dX4_send_49 ⟨Nat.zero_le _, Nat.zero_le _⟩ hS (fun r_6 locs hr_6 hS => ?_)
        replace hr_6 : r_6 = (nI (N 3)) := hr_6
        subst r_6
        refine lv_icmp_ge (tgt := 92) hx hb dX4_send_52 (by decide) (fun c_52_6 => ?_) (fun c_52_6 => ?_)
        · exact absurd c_52_6 (g_ge rfl (by omega) hj)
        · refine lv_aload_n hx hb dX4_send_55 rfl (lv_at hl 2 rfl) ?_
          refine va_get (D := D) (ci := 5) (v := .ref (ad 1 3)) (C := RX4) (T := TX4) (N := 9) hx hb hts inX4 hown hK (hW.p (e := (eToll ad (gIt (L_send v.toNatClampNeg) (tset C 53 v.toNatClampNeg 2) j))) rfl) 0 rfl rfl 3 (by decide) (hts (.fieldLink RX4 22 "StoryToll" "plots" "Ljava/util/ArrayList;") (List.mem_of_getElem? (i := 6) rfl)) (fun _ h9 => h9) rfl dX4_send_56 ?_
          refine lv_iload_n hx hb dX4_send_59 rfl (lv_at hl 0 rfl) ?_
          refine g_Vr (As := [.int (nI j)]) (rest := []) C0 (c_Jx4a65c_get_915e3 l D G A ad N (gIt (L_send v.toNatClampNeg) (tset C 53 v.toNatClampNeg 2) j) M o H hW 3 (by decide) hNN j _ rfl (by omega)) (cwV 1 hts gX4_send_Jx4a65c_get_915e3 rfl rfl rfl (by decide +kernel) ⟨Nat.le_of_ble_eq_true rfl, Nat.le_of_ble_eq_true rfl⟩) hK (va_recv hK (hW.p (Wd_Li (by omega))) (ci := 0) (q0 := 0) rfl rfl) rfl hl rfl (Nat.le_of_ble_eq_true rfl) dX4_send_60 ⟨Nat.zero_le _, Nat.zero_le _⟩ hS (fun r_8 locs hr_8 hS => ?_)
          replace hr_8 : r_8 = ad 6 j := hr_8
          subst r_8
          refine g_cast hx hb hown hK hW (Wd_Pl (by omega)) rfl (hts (.classLink RX4 118 "StoryToll$Plot") (List.mem_of_getElem? (i := 7) rfl)) dX4_send_63 ?_
          refine lv_astore (lv' := [(4, .ref (ad 6 j)), (3, .int (nI j)), (2, .ref (ad 5 v.toNatClampNeg)), (0, .ref (ad 0 0)), (1, .int v)]) hx hb dX4_send_66 hl (by decide) rfl (fun ls hl => ?_)
          refine lv_aload hx hb dX4_send_68 (lv_at hl 0 rfl) ?_
          refine va_get (D := D) (ci := 2) (v := .int ((gIt (L_send v.toNatClampNeg) (tset C 53 v.toNatClampNeg 2) j) 65 j)) (C := RX1) (T := TX1) (N := 6) hx hb hts inX1 hown hK (hW.p (e := (ePl ad (gIt (L_send v.toNatClampNeg) (tset C 53 v.toNatClampNeg 2) j) j)) (Wd_Pl (by omega))) 0 rfl rfl 5 (by decide) (hts (.fieldLink RX4 155 "StoryToll$Plot" "holder" "I") (List.mem_of_getElem? (i := 8) rfl)) (fun _ h9 => h9) rfl dX4_send_70 ?_
          refine lv_aload_n hx hb dX4_send_73 rfl (lv_at hl 2 rfl) ?_
          refine va_get (D := D) (ci := 4) (v := .int ((gIt (L_send v.toNatClampNeg) (tset C 53 v.toNatClampNeg 2) j) 50 v.toNatClampNeg)) (C := RX3) (T := TX3) (N := 5) hx hb hts inX3 hown hK (hW.p (e := (eTr (gIt (L_send v.toNatClampNeg) (tset C 53 v.toNatClampNeg 2) j) v.toNatClampNeg)) (Wd_Tr hr_1.2)) 0 rfl rfl 0 (by decide) (hts (.fieldLink RX4 160 "StoryToll$Traveller" "number" "I") (List.mem_of_getElem? (i := 9) rfl)) (fun _ h9 => h9) rfl dX4_send_74 ?_
          refine lv_icmp_ne (tgt := 86) hx hb dX4_send_77 (by decide) (fun c_77_8 => ?_) (fun c_77_8 => ?_)
          · refine lv_iinc (v := (nI (j + 1))) (lv' := [(3, .int (nI (j + 1))), (4, .ref (ad 6 j)), (2, .ref (ad 5 v.toNatClampNeg)), (0, .ref (ad 0 0)), (1, .int v)]) hx hb dX4_send_86 hl (k := 1) rfl (nI_1 _) (by decide) rfl (fun ls hl => ?_)
            refine lv_goto (tgt := 44) hx hb dX4_send_89 (by decide) ?_
            have ea : (gIt (L_send v.toNatClampNeg) (tset C 53 v.toNatClampNeg 2) j) = (gIt (L_send v.toNatClampNeg) (tset C 53 v.toNatClampNeg 2) (j + 1)) := (show (gIt (L_send v.toNatClampNeg) (tset C 53 v.toNatClampNeg 2) j) = L_send v.toNatClampNeg j (gIt (L_send v.toNatClampNeg) (tset C 53 v.toNatClampNeg 2) j) from by (rw [L_send, if_neg c_77_8]) <;> rfl)
            have hl2 : lv_has ls 5 [(3, .int (nI (j + 1))), (2, .ref (ad 5 v.toNatClampNeg)), (0, .ref (ad 0 0)), (1, .int v)] ∧ gW D A ad (Wd G ad N (gIt (L_send v.toNatClampNeg) (tset C 53 v.toNatClampNeg 2) (j + 1)) M o) H := by rw [← ea]; exact ⟨lv_sub hl [0, 2, 3, 4] rfl, hW⟩
            refine W.widen (k := 0 + (j + 1) * 0) (n := 0 + (j + 1) * 0) (by omega) (by omega) ?_
            exact ih ls H locs hl2 hS
          · refine lv_aload hx hb dX4_send_80 (lv_at hl 0 rfl) ?_
            refine lv_iconst (v := (-1)) hx hb dX4_send_82 (by decide) ?_
            refine g_put (D := D) (ci := 2) (v := .int (-1)) (ty := .int) (C := RX1) (T := TX1) (N := 6) (ct' := (Wd G ad N (tset (gIt (L_send v.toNatClampNeg) (tset C 53 v.toNatClampNeg 2) j) 65 j (-1)) M o)) hx hb hts inX1 tyX1 tyX1_ok nmX1 hown hK hW hS (show Wd G ad N (gIt (L_send v.toNatClampNeg) (tset C 53 v.toNatClampNeg 2) j) M o 6 j = some (ePl ad (gIt (L_send v.toNatClampNeg) (tset C 53 v.toNatClampNeg 2) j) j) from (Wd_Pl (by omega))) rfl 5 (by decide) (hts (.fieldLink RX4 155 "StoryToll$Plot" "holder" "I") (List.mem_of_getElem? (i := 8) rfl)) (fun _ h9 => h9) rfl (by decide +kernel) rfl rfl (Nat.le_of_ble_eq_true rfl) dX4_send_83 (Wd_f65 (by omega)) (Wd_tk (by decide)) (fun H locs hW hS => ?_)
            refine lv_iinc (v := (nI (j + 1))) (lv' := [(3, .int (nI (j + 1))), (4, .ref (ad 6 j)), (2, .ref (ad 5 v.toNatClampNeg)), (0, .ref (ad 0 0)), (1, .int v)]) hx hb dX4_send_86 hl (k := 1) rfl (nI_1 _) (by decide) rfl (fun ls hl => ?_)
            refine lv_goto (tgt := 44) hx hb dX4_send_89 (by decide) ?_
            have ea : (tset (gIt (L_send v.toNatClampNeg) (tset C 53 v.toNatClampNeg 2) j) 65 j (-1)) = (gIt (L_send v.toNatClampNeg) (tset C 53 v.toNatClampNeg 2) (j + 1)) := (show (tset (gIt (L_send v.toNatClampNeg) (tset C 53 v.toNatClampNeg 2) j) 65 j (-1)) = L_send v.toNatClampNeg j (gIt (L_send v.toNatClampNeg) (tset C 53 v.toNatClampNeg 2) j) from by (rw [L_send, if_pos c_77_8]) <;> rfl)
            have hl2 : lv_has ls 5 [(3, .int (nI (j + 1))), (2, .ref (ad 5 v.toNatClampNeg)), (0, .ref (ad 0 0)), (1, .int v)] ∧ gW D A ad (Wd G ad N (gIt (L_send v.toNatClampNeg) (tset C 53 v.toNatClampNeg 2) (j + 1)) M o) H := by rw [← ea]; exact ⟨lv_sub hl [0, 2, 3, 4] rfl, hW⟩
            refine W.widen (k := 0 + (j + 1) * 0) (n := 0 + (j + 1) * 0) (by omega) (by omega) ?_
            exact ih ls H locs hl2 hS
    · exact g_thr (u := ()) (px := fun _ => True) (B := fun E _ H => f_X4_send C N v = .inr E ∧ gW D A ad (Wd G ad N C M o) H) (E := xS) (text := "this traveller is not on the way") hx hb hl0 hml hown hts (fun w hw => List.mem_cons_of_mem _ (List.mem_append_right _ hw)) xb_S xg_S (hts (.classLink RX4 40 "java/lang/IllegalStateException") (List.mem_of_getElem? (i := 3) rfl)) (hts (.initialized "java/lang/IllegalStateException") (List.mem_of_getElem? (i := 4) rfl)) hE hE.1.2.2.1 (by decide) (by decide) (by rw [hh]; exact hS) hl dX4_send_27 dX4_send_30 dX4_send_31 dX4_send_33 dX4_send_36 hnt ⟨by decide, by decide, by decide, by decide⟩ hlk trivial (fun H1 hk9 => ⟨(show f_X4_send C N v = .inr xS from by rw [f_X4_send, if_pos c_f_1, if_neg c_24_2]), hW.keep hk9⟩) (by decide) (by decide)
  · replace hr_1 : r_1 = none := hr_1.trans ((fe_X4_travellerAt _ _ _).trans (if_neg c_f_1))
    subst r_1
    refine lv_astore_nN (lv' := [(2, .null), (0, .ref (ad 0 0)), (1, .int v)]) hx hb dX4_send_5 rfl hl (by decide) rfl (fun ls hl => ?_)
    refine lv_aload_nN hx hb dX4_send_6 rfl (lv_at hl 0 rfl) ?_
    refine lv_ifnonnullN hx hb dX4_send_7 ?_
    exact g_thr (u := ()) (px := fun _ => True) (B := fun E _ H => f_X4_send C N v = .inr E ∧ gW D A ad (Wd G ad N C M o) H) (E := xI) (text := "no such traveller") hx hb hl0 hml hown hts (fun w hw => List.mem_cons_of_mem _ (List.mem_append_left _ (List.mem_append_right _ hw))) xb_I xg_I (hts (.classLink RX4 58 "java/lang/IndexOutOfBoundsException") (List.mem_of_getElem? (i := 1) rfl)) (hts (.initialized "java/lang/IndexOutOfBoundsException") (List.mem_of_getElem? (i := 2) rfl)) hE hE.1.1 (by decide) (by decide) (by rw [hh]; exact hS) hl dX4_send_10 dX4_send_13 dX4_send_14 dX4_send_16 dX4_send_19 hnt ⟨by decide, by decide, by decide, by decide⟩ hlk trivial (fun H1 hk9 => ⟨(show f_X4_send C N v = .inr xI from by rw [f_X4_send, if_neg c_f_1]), hW.keep hk9⟩) (by decide) (by decide)
theorem IC_X4_send {N : gN} {C : gT} {v : Int32} (h : IC N C) : IC N (s_X4_send C N v) := by
  unfold s_X4_send
  repeat' (first | with_reducible exact h | with_reducible refine IC_if ?_ ?_ | with_reducible refine IC_t (by omega) (by omega) ?_ | with_reducible refine IC_it (fun j D h9 => IC_L_send h9) ?_ _)
theorem wt_of {v : Int32} (h0 : ¬ v < 1) (h1 : v ≤ 100) : v = nI v.toNatClampNeg ∧ v.toNatClampNeg < 101 := by
  rw [Int32.lt_iff_toInt_lt, show (1 : Int32).toInt = 1 from rfl] at h0
  rw [Int32.le_iff_toInt_le, show (100 : Int32).toInt = 100 from rfl] at h1
  refine gIn_of (by decide) ⟨?_, ?_⟩
  · rw [Int32.lt_iff_toInt_lt, show (0 : Int32).toInt = 0 from rfl]
    omega
  · rw [Int32.lt_iff_toInt_lt, show (nI 101).toInt = 101 from rfl]
    omega
def L_watchg  (k2 : Nat) (acc : gT) : gT := (s_X0_letWatchGoBy acc k2)
def L_watch (N : gN) (j : Nat) (acc : gT) : gT := (tset (gIt L_watchg acc (N 1)) 0 5 (((gIt L_watchg acc (N 1)) 0 5) + 1))
def f_X4_watch (C : gT) (N : gN) (v : Int32) : Int32 ⊕ String := (if v < 1 then (Sum.inr xA) else (if v ≤ 100 then (Sum.inl (f_X4_guardsAwake (gIt (L_watch N) C v.toNatClampNeg) N)) else (Sum.inr xA)))
def s_X4_watch (C : gT) (N : gN) (v : Int32) : gT := (if v < 1 then C else (if v ≤ 100 then (gIt (L_watch N) C v.toNatClampNeg) else C))
theorem IC_L_watch {N : gN} {C : gT} {j : Nat} (h : IC N C) : IC N (L_watch N j C) := by
  unfold L_watch
  exact IC_t (by omega) (by omega) (IC_it (fun k D h9 => by unfold L_watchg; exact IC_X0_letWatchGoBy h9) h _)
set_option maxHeartbeats 4000000 in
set_option maxRecDepth 100000 in
theorem c_X4_watch (l : Launch) (D : va_G) (G : gG) (A : Nat → Prop) (ad : gAd) (N : gN) (C M : gT) (o : Nat → Int64) (Hp : Heap) (hW : gW D A ad (Wd G ad N C M o) Hp) (hl0 : l.stackTraces = false) (hC : IC N C) (v : Int32) : vx_Met l yX4_watch wsX4_watch ({ frames := 6, cells := 1, slots := 6, locals := 90 }) (va_Pc [.ref (ad 0 0), .int v] (gQX D (gTs G) Hp A)) (va_Qi (fun r (_ : Unit) => f_X4_watch C N v = .inl r) (fun _ t => gW D A ad (Wd G ad N (s_X4_watch C N v) M o) t.heap) A) (vx_X (fun (_ : Unit) => True) (fun E _ t => f_X4_watch C N v = .inr E ∧ gW D A ad (Wd G ad N C M o) t.heap) A) 1 6 A := by
  refine g_startX (cc := cX4_watch) (maxL := 4) (ret := (some .int)) (by decide) rfl (Nat.le_of_ble_eq_true rfl) (fun p e s m below meth c ls C0 hr hlk hh hK hE hnt hl => ?_)
  obtain ⟨hx, hb, hml, hown, hts⟩ := id C0
  have hown : s.vm.findClass RX4 = some m.cls := hown
  have hS : va_S A Hp Hp [] := va_S.rf
  have hl : lv_has ls 4 [(0, .ref (ad 0 0)), (1, .int v)] := hl
  have inX4 : ∀ w ∈ wsX40, w ∈ wsX4_watch := by decide +kernel
  obtain ⟨⟨hc0, hc1, hc2, hc3⟩, hNN, hCp⟩ := id hC
  have hn0 := hNN 0 (by decide)
  have hn1 := hNN 1 (by decide)
  have hn2 := hNN 2 (by decide)
  have hn3 := hNN 3 (by decide)
  refine lv_iload_n hx hb dX4_watch_0 rfl (lv_at hl 1 rfl) ?_
  refine lv_iconst (v := 1) hx hb dX4_watch_1 (by decide) ?_
  refine lv_icmp_lt (tgt := 11) hx hb dX4_watch_2 (by decide) (fun c_2_0 => ?_) (fun c_2_0 => ?_)
  · exact g_thr (u := ()) (px := fun _ => True) (B := fun E _ H => f_X4_watch C N v = .inr E ∧ gW D A ad (Wd G ad N C M o) H) (E := xA) (text := "not 1 to 100 watches") hx hb hl0 hml hown hts (fun w hw => List.mem_cons_of_mem _ (List.mem_append_right _ hw)) xb_A xg_A (hts (.classLink RX4 29 "java/lang/IllegalArgumentException") (List.mem_of_getElem? (i := 1) rfl)) (hts (.initialized "java/lang/IllegalArgumentException") (List.mem_of_getElem? (i := 2) rfl)) hE hE.1.2.1 (by decide) (by decide) (by rw [hh]; exact hS) hl dX4_watch_11 dX4_watch_14 dX4_watch_15 dX4_watch_17 dX4_watch_20 hnt ⟨by decide, by decide, by decide, by decide⟩ hlk trivial (fun H1 hk9 => ⟨(show f_X4_watch C N v = .inr xA from by rw [f_X4_watch, if_pos c_2_0]), hW.keep hk9⟩) (by decide) (by decide)
  · refine lv_iload_n hx hb dX4_watch_5 rfl (lv_at hl 1 rfl) ?_
    refine lv_bipush (v := 100) hx hb dX4_watch_6 (by decide) ?_
    refine lv_icmp_le (tgt := 21) hx hb dX4_watch_8 (by decide) (fun c_8_1 => ?_) (fun c_8_1 => ?_)
    · have hv := wt_of c_2_0 c_8_1
      have hv2 := hv.2
      have hC0 := hC
      refine lv_iconst (v := 0) hx hb dX4_watch_21 (by decide) ?_
      refine lv_istore_n (lv' := [(2, .int 0), (0, .ref (ad 0 0)), (1, .int v)]) hx hb dX4_watch_22 rfl hl (by decide) rfl (fun ls hl => ?_)
      refine g_loopH (v.toNatClampNeg) 0 0 (fun j ls H => lv_has ls 4 [(2, .int (nI j)), (0, .ref (ad 0 0)), (1, .int v)] ∧ gW D A ad (Wd G ad N (gIt (L_watch N) C j) M o) H) ⟨lv_sub hl [0, 1, 2] rfl, hW⟩ hS (fun ls H locs hlW hS => ?_) (fun j ls H locs hj hlW hS ih => ?_)
      · obtain ⟨hl, hW⟩ : lv_has ls 4 [(2, .int (nI v.toNatClampNeg)), (0, .ref (ad 0 0)), (1, .int v)] ∧ gW D A ad (Wd G ad N (gIt (L_watch N) C v.toNatClampNeg) M o) H := hlW
        refine W.widen (k := 0) (n := 0) (by omega) (by omega) ?_
        have hC := IC_it (f := L_watch N) (fun j D h => IC_L_watch h) hC0 v.toNatClampNeg
        refine lv_iload_n hx hb dX4_watch_23 rfl (lv_at hl 0 rfl) ?_
        refine lv_iload_n hx hb dX4_watch_24 rfl (lv_at hl 2 rfl) ?_
        refine lv_icmp_ge (tgt := 77) hx hb dX4_watch_25 (by decide) (fun c_25_2 => ?_) (fun c_25_2 => ?_)
        · refine lv_aload_n hx hb dX4_watch_77 rfl (lv_at hl 1 rfl) ?_
          refine g_Vi (As := []) (rest := []) C0 (c_X4_guardsAwake l D G A ad N (gIt (L_watch N) C v.toNatClampNeg) M o H hW hC) (cwV 0 hts gX4_watch_X4_guardsAwake rfl rfl rfl (by decide +kernel) ⟨Nat.le_of_ble_eq_true rfl, Nat.le_of_ble_eq_true rfl⟩) hK (va_recv hK (hW.p rfl) (ci := 5) (q0 := 0) rfl rfl) rfl hl rfl (Nat.le_of_ble_eq_true rfl) dX4_watch_78 ⟨Nat.zero_le _, Nat.zero_le _⟩ hS (fun r_4 locs hr_4 hS => ?_)
          replace hr_4 : r_4 = (f_X4_guardsAwake (gIt (L_watch N) C v.toNatClampNeg) N) := hr_4
          subst r_4
          refine W.widen (k := 1) (n := 6) (by omega) (by omega) ?_
          exact vx_ret (g_wret (u := ()) (post := fun r _ => f_X4_watch C N v = .inl r) (B := fun _ H => gW D A ad (Wd G ad N (s_X4_watch C N v) M o) H) hx hb hr hlk hh hS (show f_X4_watch C N v = .inl (f_X4_guardsAwake (gIt (L_watch N) C v.toNatClampNeg) N) from by rw [f_X4_watch, if_neg c_2_0, if_pos c_8_1]) (show gW D A ad (Wd G ad N (s_X4_watch C N v) M o) H from by rw [s_X4_watch, if_neg c_2_0, if_pos c_8_1]; exact hW) dX4_watch_81)
        · exact absurd (g_le hv.1 (by omega)) c_25_2
      · obtain ⟨hl, hW⟩ : lv_has ls 4 [(2, .int (nI j)), (0, .ref (ad 0 0)), (1, .int v)] ∧ gW D A ad (Wd G ad N (gIt (L_watch N) C j) M o) H := hlW
        refine W.widen (k := 0) (n := 0) (by omega) (by omega) ?_
        refine lv_iload_n hx hb dX4_watch_23 rfl (lv_at hl 0 rfl) ?_
        refine lv_iload_n hx hb dX4_watch_24 rfl (lv_at hl 2 rfl) ?_
        refine lv_icmp_ge (tgt := 77) hx hb dX4_watch_25 (by decide) (fun c_25_4 => ?_) (fun c_25_4 => ?_)
        · exact absurd c_25_4 (g_ge hv.1 (by omega) hj)
        · refine lv_iconst (v := 0) hx hb dX4_watch_28 (by decide) ?_
          refine lv_istore_n (lv' := [(3, .int 0), (2, .int (nI j)), (0, .ref (ad 0 0)), (1, .int v)]) hx hb dX4_watch_29 rfl hl (by decide) rfl (fun ls hl => ?_)
          refine g_loopH (N 1) 0 0 (fun k2 ls H => lv_has ls 4 [(3, .int (nI k2)), (2, .int (nI j)), (0, .ref (ad 0 0)), (1, .int v)] ∧ gW D A ad (Wd G ad N (gIt L_watchg (gIt (L_watch N) C j) k2) M o) H) ⟨lv_sub hl [0, 1, 2, 3] rfl, hW⟩ hS (fun ls H locs hlW hS => ?_) (fun k2 ls H locs hk2 hlW hS ih => ?_)
          · obtain ⟨hl, hW⟩ : lv_has ls 4 [(3, .int (nI (N 1))), (2, .int (nI j)), (0, .ref (ad 0 0)), (1, .int v)] ∧ gW D A ad (Wd G ad N (gIt L_watchg (gIt (L_watch N) C j) (N 1)) M o) H := hlW
            refine W.widen (k := 0) (n := 0) (by omega) (by omega) ?_
            refine lv_iload_n hx hb dX4_watch_30 rfl (lv_at hl 0 rfl) ?_
            refine lv_aload_n hx hb dX4_watch_31 rfl (lv_at hl 2 rfl) ?_
            refine va_get (D := D) (ci := 5) (v := .ref (ad 1 1)) (C := RX4) (T := TX4) (N := 9) hx hb hts inX4 hown hK (hW.p (e := (eToll ad (gIt L_watchg (gIt (L_watch N) C j) (N 1)))) rfl) 0 rfl rfl 1 (by decide) (hts (.fieldLink RX4 16 "StoryToll" "guards" "Ljava/util/ArrayList;") (List.mem_of_getElem? (i := 3) rfl)) (fun _ h9 => h9) rfl dX4_watch_32 ?_
            refine g_Vi (As := []) (rest := [.int (nI (N 1))]) C0 (c_Jx4a65c_size_8abf5 l D G A ad N (gIt L_watchg (gIt (L_watch N) C j) (N 1)) M o H hW 1 (by decide)) (cwV 0 hts gX4_watch_Jx4a65c_size_8abf5 rfl rfl rfl (by decide +kernel) ⟨Nat.le_of_ble_eq_true rfl, Nat.le_of_ble_eq_true rfl⟩) hK (va_recv hK (hW.p (Wd_Li (by omega))) (ci := 0) (q0 := 0) rfl rfl) rfl hl rfl (Nat.le_of_ble_eq_true rfl) dX4_watch_35 ⟨Nat.zero_le _, Nat.zero_le _⟩ hS (fun r_6 locs hr_6 hS => ?_)
            replace hr_6 : r_6 = (nI (N 1)) := hr_6
            subst r_6
            refine lv_icmp_ge (tgt := 61) hx hb dX4_watch_38 (by decide) (fun c_38_6 => ?_) (fun c_38_6 => ?_)
            · refine lv_aload_n hx hb dX4_watch_61 rfl (lv_at hl 2 rfl) ?_
              refine lv_dup hx hb dX4_watch_62 rfl ?_
              refine va_get (D := D) (ci := 5) (v := .int ((gIt L_watchg (gIt (L_watch N) C j) (N 1)) 0 5)) (C := RX4) (T := TX4) (N := 9) hx hb hts inX4 hown hK (hW.p (e := (eToll ad (gIt L_watchg (gIt (L_watch N) C j) (N 1)))) rfl) 0 rfl rfl 5 (by decide) (hts (.fieldLink RX4 177 "StoryToll" "watchNow" "I") (List.mem_of_getElem? (i := 5) rfl)) (fun _ h9 => h9) rfl dX4_watch_63 ?_
              refine lv_iconst (v := 1) hx hb dX4_watch_66 (by decide) ?_
              refine lv_iadd hx hb dX4_watch_67 ?_
              refine g_put (D := D) (ci := 5) (v := .int (((gIt L_watchg (gIt (L_watch N) C j) (N 1)) 0 5) + 1)) (ty := .int) (C := RX4) (T := TX4) (N := 9) (ct' := (Wd G ad N (tset (gIt L_watchg (gIt (L_watch N) C j) (N 1)) 0 5 (((gIt L_watchg (gIt (L_watch N) C j) (N 1)) 0 5) + 1)) M o)) hx hb hts inX4 tyX4 tyX4_ok nmX4 hown hK hW hS (show Wd G ad N (gIt L_watchg (gIt (L_watch N) C j) (N 1)) M o 0 0 = some (eToll ad (gIt L_watchg (gIt (L_watch N) C j) (N 1))) from rfl) rfl 5 (by decide) (hts (.fieldLink RX4 177 "StoryToll" "watchNow" "I") (List.mem_of_getElem? (i := 5) rfl)) (fun _ h9 => h9) rfl (by decide +kernel) rfl rfl (Nat.le_of_ble_eq_true rfl) dX4_watch_68 Wd_c5 Wd_t0 (fun H locs hW hS => ?_)
              refine lv_iinc (v := (nI (j + 1))) (lv' := [(2, .int (nI (j + 1))), (3, .int (nI (N 1))), (0, .ref (ad 0 0)), (1, .int v)]) hx hb dX4_watch_71 hl (k := 1) rfl (nI_1 _) (by decide) rfl (fun ls hl => ?_)
              refine lv_goto (tgt := 23) hx hb dX4_watch_74 (by decide) ?_
              have ea : (tset (gIt L_watchg (gIt (L_watch N) C j) (N 1)) 0 5 (((gIt L_watchg (gIt (L_watch N) C j) (N 1)) 0 5) + 1)) = (gIt (L_watch N) C (j + 1)) := (show (tset (gIt L_watchg (gIt (L_watch N) C j) (N 1)) 0 5 (((gIt L_watchg (gIt (L_watch N) C j) (N 1)) 0 5) + 1)) = L_watch N j (gIt (L_watch N) C j) from by (rw [L_watch]) <;> rfl)
              have hl2 : lv_has ls 4 [(2, .int (nI (j + 1))), (0, .ref (ad 0 0)), (1, .int v)] ∧ gW D A ad (Wd G ad N (gIt (L_watch N) C (j + 1)) M o) H := by rw [← ea]; exact ⟨lv_sub hl [0, 2, 3] rfl, hW⟩
              refine W.widen (k := 0 + (j + 1) * 0) (n := 0 + (j + 1) * 0) (by omega) (by omega) ?_
              exact ih ls H locs hl2 hS
            · exact absurd (g_le rfl (by omega)) c_38_6
          · obtain ⟨hl, hW⟩ : lv_has ls 4 [(3, .int (nI k2)), (2, .int (nI j)), (0, .ref (ad 0 0)), (1, .int v)] ∧ gW D A ad (Wd G ad N (gIt L_watchg (gIt (L_watch N) C j) k2) M o) H := hlW
            refine W.widen (k := 0) (n := 0) (by omega) (by omega) ?_
            refine lv_iload_n hx hb dX4_watch_30 rfl (lv_at hl 0 rfl) ?_
            refine lv_aload_n hx hb dX4_watch_31 rfl (lv_at hl 2 rfl) ?_
            refine va_get (D := D) (ci := 5) (v := .ref (ad 1 1)) (C := RX4) (T := TX4) (N := 9) hx hb hts inX4 hown hK (hW.p (e := (eToll ad (gIt L_watchg (gIt (L_watch N) C j) k2))) rfl) 0 rfl rfl 1 (by decide) (hts (.fieldLink RX4 16 "StoryToll" "guards" "Ljava/util/ArrayList;") (List.mem_of_getElem? (i := 3) rfl)) (fun _ h9 => h9) rfl dX4_watch_32 ?_
            refine g_Vi (As := []) (rest := [.int (nI k2)]) C0 (c_Jx4a65c_size_8abf5 l D G A ad N (gIt L_watchg (gIt (L_watch N) C j) k2) M o H hW 1 (by decide)) (cwV 0 hts gX4_watch_Jx4a65c_size_8abf5 rfl rfl rfl (by decide +kernel) ⟨Nat.le_of_ble_eq_true rfl, Nat.le_of_ble_eq_true rfl⟩) hK (va_recv hK (hW.p (Wd_Li (by omega))) (ci := 0) (q0 := 0) rfl rfl) rfl hl rfl (Nat.le_of_ble_eq_true rfl) dX4_watch_35 ⟨Nat.zero_le _, Nat.zero_le _⟩ hS (fun r_8 locs hr_8 hS => ?_)
            replace hr_8 : r_8 = (nI (N 1)) := hr_8
            subst r_8
            refine lv_icmp_ge (tgt := 61) hx hb dX4_watch_38 (by decide) (fun c_38_8 => ?_) (fun c_38_8 => ?_)
            · exact absurd c_38_8 (g_ge rfl (by omega) hk2)
            · refine lv_aload_n hx hb dX4_watch_41 rfl (lv_at hl 2 rfl) ?_
              refine va_get (D := D) (ci := 5) (v := .ref (ad 1 1)) (C := RX4) (T := TX4) (N := 9) hx hb hts inX4 hown hK (hW.p (e := (eToll ad (gIt L_watchg (gIt (L_watch N) C j) k2))) rfl) 0 rfl rfl 1 (by decide) (hts (.fieldLink RX4 16 "StoryToll" "guards" "Ljava/util/ArrayList;") (List.mem_of_getElem? (i := 3) rfl)) (fun _ h9 => h9) rfl dX4_watch_42 ?_
              refine lv_iload_n hx hb dX4_watch_45 rfl (lv_at hl 0 rfl) ?_
              refine g_Vr (As := [.int (nI k2)]) (rest := []) C0 (c_Jx4a65c_get_915e3 l D G A ad N (gIt L_watchg (gIt (L_watch N) C j) k2) M o H hW 1 (by decide) hNN k2 _ rfl (by omega)) (cwV 1 hts gX4_watch_Jx4a65c_get_915e3 rfl rfl rfl (by decide +kernel) ⟨Nat.le_of_ble_eq_true rfl, Nat.le_of_ble_eq_true rfl⟩) hK (va_recv hK (hW.p (Wd_Li (by omega))) (ci := 0) (q0 := 0) rfl rfl) rfl hl rfl (Nat.le_of_ble_eq_true rfl) dX4_watch_46 ⟨Nat.zero_le _, Nat.zero_le _⟩ hS (fun r_10 locs hr_10 hS => ?_)
              replace hr_10 : r_10 = ad 4 k2 := hr_10
              subst r_10
              refine g_cast hx hb hown hK hW (Wd_Gd (by omega)) rfl (hts (.classLink RX4 88 "StoryToll$Guard") (List.mem_of_getElem? (i := 4) rfl)) dX4_watch_49 ?_
              refine g_wVv (As := []) (rest := []) (B := fun (_ : Unit) H => gW D A ad (Wd G ad N (s_X0_letWatchGoBy (gIt L_watchg (gIt (L_watch N) C j) k2) k2) M o) H) (mc := 0) (ms := 0) C0 (c_X0_letWatchGoBy l D G A ad N (gIt L_watchg (gIt (L_watch N) C j) k2) M o H hW k2 (by omega)) (cwV 0 hts gX4_watch_X0_letWatchGoBy rfl rfl rfl (by decide +kernel) ⟨Nat.le_of_ble_eq_true rfl, Nat.le_of_ble_eq_true rfl⟩) hK (va_recv hK (hW.p (Wd_Gd (by omega))) (ci := 1) (q0 := 0) rfl rfl) rfl hl rfl (Nat.le_of_ble_eq_true rfl) dX4_watch_52 ⟨Nat.zero_le _, Nat.zero_le _⟩ hS (fun ur_11 H locs hr_11 hW hzr_11 hS => ?_)
              have hW : gW D A ad (Wd G ad N (s_X0_letWatchGoBy (gIt L_watchg (gIt (L_watch N) C j) k2) k2) M o) H := hW
              refine lv_iinc (v := (nI (k2 + 1))) (lv' := [(3, .int (nI (k2 + 1))), (2, .int (nI j)), (0, .ref (ad 0 0)), (1, .int v)]) hx hb dX4_watch_55 hl (k := 0) rfl (nI_1 _) (by decide) rfl (fun ls hl => ?_)
              refine lv_goto (tgt := 30) hx hb dX4_watch_58 (by decide) ?_
              have ea : (s_X0_letWatchGoBy (gIt L_watchg (gIt (L_watch N) C j) k2) k2) = (gIt L_watchg (gIt (L_watch N) C j) (k2 + 1)) := (show (s_X0_letWatchGoBy (gIt L_watchg (gIt (L_watch N) C j) k2) k2) = L_watchg k2 (gIt L_watchg (gIt (L_watch N) C j) k2) from by (rw [L_watchg]) <;> rfl)
              have hl2 : lv_has ls 4 [(3, .int (nI (k2 + 1))), (2, .int (nI j)), (0, .ref (ad 0 0)), (1, .int v)] ∧ gW D A ad (Wd G ad N (gIt L_watchg (gIt (L_watch N) C j) (k2 + 1)) M o) H := by rw [← ea]; exact ⟨lv_sub hl [0, 1, 2, 3] rfl, hW⟩
              refine W.widen (k := 0 + (k2 + 1) * 0) (n := 0 + (k2 + 1) * 0) (by omega) (by omega) ?_
              exact ih ls H locs hl2 hS
    · exact g_thr (u := ()) (px := fun _ => True) (B := fun E _ H => f_X4_watch C N v = .inr E ∧ gW D A ad (Wd G ad N C M o) H) (E := xA) (text := "not 1 to 100 watches") hx hb hl0 hml hown hts (fun w hw => List.mem_cons_of_mem _ (List.mem_append_right _ hw)) xb_A xg_A (hts (.classLink RX4 29 "java/lang/IllegalArgumentException") (List.mem_of_getElem? (i := 1) rfl)) (hts (.initialized "java/lang/IllegalArgumentException") (List.mem_of_getElem? (i := 2) rfl)) hE hE.1.2.1 (by decide) (by decide) (by rw [hh]; exact hS) hl dX4_watch_11 dX4_watch_14 dX4_watch_15 dX4_watch_17 dX4_watch_20 hnt ⟨by decide, by decide, by decide, by decide⟩ hlk trivial (fun H1 hk9 => ⟨(show f_X4_watch C N v = .inr xA from by rw [f_X4_watch, if_neg c_2_0, if_neg c_8_1]), hW.keep hk9⟩) (by decide) (by decide)
theorem IC_X4_watch {N : gN} {C : gT} {v : Int32} (h : IC N C) : IC N (s_X4_watch C N v) := by
  unfold s_X4_watch
  repeat' (first | with_reducible exact h | with_reducible refine IC_if ?_ ?_ | with_reducible refine IC_t (by omega) (by omega) ?_ | with_reducible refine IC_it (fun j D h9 => IC_L_watch h9) ?_ _)
