/-! THE REFERENCE: choices, the wonder behind a scene, who sleeps when, the mean -/
def L_X5_best (n : gN) (M : gT) (tv : Nat) (q : Nat) (j : Nat) (acc : Int32) : Int32 := (if (f_X5_can M tv j q) = 0 then acc else (if acc = (-1) then (nI j) else (if (f_X5_toll n M j) ≤ (f_X5_toll n M acc.toNatClampNeg) then acc else (nI j))))
def f_X5_best (n : gN) (M : gT) (v1 : Int32) (v2 : Int32) : Int32 := (if (f_X5_isTraveller (tset M 0 0 0) v1) = 0 then (f_X5_no (tset M 0 0 0) 1) else (if (f_X5_isPlot (tset M 0 0 0) v2) = 0 then (f_X5_no (tset M 0 0 0) 1) else (gIt (L_X5_best n (tset M 0 0 0) v1.toNatClampNeg v2.toNatClampNeg) (-1) (n 0))))
def s_X5_best (n : gN) (M : gT) (v1 : Int32) (v2 : Int32) : gT := (if (f_X5_isTraveller (tset M 0 0 0) v1) = 0 then (s_X5_no (tset M 0 0 0) 1) else (if (f_X5_isPlot (tset M 0 0 0) v2) = 0 then (s_X5_no (tset M 0 0 0) 1) else (tset M 0 0 0)))
theorem best_it {n : gN} {M : gT} {tv q : Nat} (j : Nat) : gIt (L_X5_best n M tv q) (-1) j = -1 ∨ ∃ b, b < j ∧ gIt (L_X5_best n M tv q) (-1) j = nI b := by
  induction j with
  | zero => exact Or.inl rfl
  | succ j ih =>
    have h1 : L_X5_best n M tv q j (gIt (L_X5_best n M tv q) (-1) j) = gIt (L_X5_best n M tv q) (-1) j ∨ L_X5_best n M tv q j (gIt (L_X5_best n M tv q) (-1) j) = nI j := by
      generalize gIt (L_X5_best n M tv q) (-1) j = x
      unfold L_X5_best
      (repeat' split) <;> (first | exact Or.inl rfl | exact Or.inr rfl)
    rw [gIt_s]
    rcases h1 with h1 | h1
    · rw [h1]
      rcases ih with h | ⟨b, hb, h⟩
      · exact Or.inl h
      · exact Or.inr ⟨b, by omega, h⟩
    · rw [h1]
      exact Or.inr ⟨j, by omega, rfl⟩
theorem best_ix {n : gN} {M : gT} {tv q : Nat} (j : Nat) (hj : j < 1000) (h : ¬ gIt (L_X5_best n M tv q) (-1) j = -1) : gIt (L_X5_best n M tv q) (-1) j = nI (gIt (L_X5_best n M tv q) (-1) j).toNatClampNeg ∧ (gIt (L_X5_best n M tv q) (-1) j).toNatClampNeg < j := by
  rcases best_it (n := n) (M := M) (tv := tv) (q := q) j with h1 | ⟨b, hb, h1⟩
  · exact absurd h1 h
  · rw [h1, nI_clamp (by omega)]
    exact ⟨rfl, hb⟩
set_option maxHeartbeats 4000000 in
set_option maxRecDepth 100000 in
theorem c_X5_best (l : Launch) (D : va_G) (G : gG) (A : Nat → Prop) (ad : gAd) (N : gN) (C M : gT) (o : Nat → Int64) (Hp : Heap) (hW : gW D A ad (Wd G ad N C M o) Hp) (n : gN) (hI : IM n M) (v1 v2 : Int32) : Met l yX5_best wsX5_best ({ frames := 3, cells := 0, slots := 0, locals := 65 }) (va_Pc [.ref (ad 0 1), .int v1, .int v2] (gQ D (gTs G) Hp)) (va_Qi (fun r (_ : Unit) => r = f_X5_best n M v1 v2) (fun _ t => gW D A ad (Wd G ad N C (s_X5_best n M v1 v2) o) t.heap) A) 0 0 A := by
  refine g_start (cc := cX5_best) (maxL := 5) (ret := (some .int)) (by decide) rfl (Nat.le_of_ble_eq_true rfl) (fun p e s m below meth c ls C0 hr hlk hnm hh hK hl => ?_)
  obtain ⟨hx, hb, hml, hown, hts⟩ := id C0
  have hown : s.vm.findClass RX5 = some m.cls := hown
  have hS : va_S A Hp Hp [] := va_S.rf
  have hl : lv_has ls 5 [(0, .ref (ad 0 1)), (1, .int v1), (2, .int v2)] := hl
  have inX5 : ∀ w ∈ wsX50, w ∈ wsX5_best := by decide +kernel
  obtain ⟨⟨hb0, hn0⟩, ⟨hb1, hn1⟩, ⟨hb2, hn2⟩, ⟨hb3, hn3⟩, hpl, hhe⟩ := id hI
  have hI0 := IM_t0 (v := 0) hI
  refine lv_aload_n hx hb dX5_best_0 rfl (lv_at hl 0 rfl) ?_
  refine lv_iconst (v := 0) hx hb dX5_best_1 (by decide) ?_
  refine g_put (D := D) (ci := 6) (v := .int 0) (ty := .int) (C := RX5) (T := TX5) (N := 23) (ct' := (Wd G ad N C (tset M 0 0 0) o)) hx hb hts inX5 tyX5 tyX5_ok nmX5 hown hK hW hS (show Wd G ad N C M o 0 1 = some (eMod ad M) from rfl) rfl 0 (by decide) (hts (.fieldLink RX5 59 "StoryTollModel" "thrown" "I") (List.mem_of_getElem? (i := 1) rfl)) (fun _ h9 => h9) rfl (by decide +kernel) rfl rfl (Nat.le_of_ble_eq_true rfl) dX5_best_2 Wd_m0 (Wd_tM rfl) (fun H locs hW hS => ?_)
  refine lv_aload_n hx hb dX5_best_5 rfl (lv_at hl 0 rfl) ?_
  refine lv_iload_n hx hb dX5_best_6 rfl (lv_at hl 1 rfl) ?_
  refine g_Vi (As := [.int v1]) (rest := []) C0 (c_X5_isTraveller l D G A ad N C (tset M 0 0 0) o H hW v1) (cwV 1 hts gX5_best_X5_isTraveller rfl rfl rfl (by decide +kernel) ⟨Nat.le_of_ble_eq_true rfl, Nat.le_of_ble_eq_true rfl⟩) hK (va_recv hK (hW.p rfl) (ci := 6) (q0 := 0) rfl rfl) rfl hl rfl (Nat.le_of_ble_eq_true rfl) dX5_best_7 ⟨Nat.zero_le _, Nat.zero_le _⟩ hS (fun r_1 locs hr_1 hS => ?_)
  subst hr_1
  refine lv_if_eq (tgt := 21) hx hb dX5_best_10 (by decide) (fun c_10_1 => ?_) (fun c_10_1 => ?_)
  · refine lv_aload_n hx hb dX5_best_21 rfl (lv_at hl 0 rfl) ?_
    refine lv_iconst (v := 1) hx hb dX5_best_22 (by decide) ?_
    refine g_wVi (As := [.int 1]) (rest := []) (B := fun (_ : Unit) H => gW D A ad (Wd G ad N C (s_X5_no (tset M 0 0 0) 1) o) H) (mc := 0) (ms := 0) C0 (c_X5_no l D G A ad N C (tset M 0 0 0) o H hW 1) (cwV 1 hts gX5_best_X5_no rfl rfl rfl (by decide +kernel) ⟨Nat.le_of_ble_eq_true rfl, Nat.le_of_ble_eq_true rfl⟩) hK (va_recv hK (hW.p rfl) (ci := 6) (q0 := 0) rfl rfl) rfl hl rfl (Nat.le_of_ble_eq_true rfl) dX5_best_23 ⟨Nat.zero_le _, Nat.zero_le _⟩ hS (fun r_3 ur_3 H locs hr_3 hW hzr_3 hS => ?_)
    have hW : gW D A ad (Wd G ad N C (s_X5_no (tset M 0 0 0) 1) o) H := hW
    subst hr_3
    exact g_wret (u := ()) (post := fun r _ => r = f_X5_best n M v1 v2) (B := fun _ H => gW D A ad (Wd G ad N C (s_X5_best n M v1 v2) o) H) hx hb hr hlk hh hS (show (f_X5_no (tset M 0 0 0) 1) = f_X5_best n M v1 v2 from by rw [f_X5_best, if_pos c_10_1]) (show gW D A ad (Wd G ad N C (s_X5_best n M v1 v2) o) H from by rw [s_X5_best, if_pos c_10_1]; exact hW) dX5_best_26
  · have hv1 := is_idx hb2 (by omega) c_10_1
    refine lv_aload_n hx hb dX5_best_13 rfl (lv_at hl 0 rfl) ?_
    refine lv_iload_n hx hb dX5_best_14 rfl (lv_at hl 2 rfl) ?_
    refine g_Vi (As := [.int v2]) (rest := []) C0 (c_X5_isPlot l D G A ad N C (tset M 0 0 0) o H hW v2) (cwV 1 hts gX5_best_X5_isPlot rfl rfl rfl (by decide +kernel) ⟨Nat.le_of_ble_eq_true rfl, Nat.le_of_ble_eq_true rfl⟩) hK (va_recv hK (hW.p rfl) (ci := 6) (q0 := 0) rfl rfl) rfl hl rfl (Nat.le_of_ble_eq_true rfl) dX5_best_15 ⟨Nat.zero_le _, Nat.zero_le _⟩ hS (fun r_4 locs hr_4 hS => ?_)
    subst hr_4
    refine lv_if_ne (tgt := 27) hx hb dX5_best_18 (by decide) (fun c_18_4 => ?_) (fun c_18_4 => ?_)
    · have hv2 := is_idx hb3 (by omega) c_18_4
      refine lv_iconst (v := (-1)) hx hb dX5_best_27 (by decide) ?_
      refine lv_istore_n (lv' := [(3, .int (-1)), (0, .ref (ad 0 1)), (1, .int v1), (2, .int v2)]) hx hb dX5_best_28 rfl hl (by decide) rfl (fun ls hl => ?_)
      refine lv_iconst (v := 0) hx hb dX5_best_29 (by decide) ?_
      refine lv_istore (lv' := [(4, .int 0), (3, .int (-1)), (0, .ref (ad 0 1)), (1, .int v1), (2, .int v2)]) hx hb dX5_best_30 hl (by decide) rfl (fun ls hl => ?_)
      refine g_loop (n 0) (fun j ls => lv_has ls 5 [(4, .int (nI j)), (3, .int (gIt (L_X5_best n (tset M 0 0 0) v1.toNatClampNeg v2.toNatClampNeg) (-1) j)), (0, .ref (ad 0 1)), (1, .int v1), (2, .int v2)]) (lv_sub hl [0, 1, 2, 3, 4] rfl) hS (fun ls locs hl hS => ?_) (fun j ls locs hj hl hS ih => ?_)
      · have hl : lv_has ls 5 [(4, .int (nI (n 0))), (3, .int (gIt (L_X5_best n (tset M 0 0 0) v1.toNatClampNeg v2.toNatClampNeg) (-1) (n 0))), (0, .ref (ad 0 1)), (1, .int v1), (2, .int v2)] := hl
        refine lv_iload hx hb dX5_best_32 (lv_at hl 0 rfl) ?_
        refine lv_aload_n hx hb dX5_best_34 rfl (lv_at hl 2 rfl) ?_
        refine va_get (D := D) (ci := 6) (v := .int ((tset M 0 0 0) 2 0)) (C := RX5) (T := TX5) (N := 23) hx hb hts inX5 hown hK (hW.p (e := (eMod ad (tset M 0 0 0))) rfl) 0 rfl rfl 2 (by decide) (hts (.fieldLink RX5 62 "StoryTollModel" "scenes" "I") (List.mem_of_getElem? (i := 2) rfl)) (fun _ h9 => h9) rfl dX5_best_35 ?_
        rw [show ((tset M 0 0 0) 2 0) = (M 2 0) from by rw [tset_of (by decide)]]
        refine lv_icmp_ge (tgt := 80) hx hb dX5_best_38 (by decide) (fun c_38_5 => ?_) (fun c_38_5 => ?_)
        · refine lv_iload_n hx hb dX5_best_80 rfl (lv_at hl 1 rfl) ?_
          exact g_wret (u := ()) (post := fun r _ => r = f_X5_best n M v1 v2) (B := fun _ H => gW D A ad (Wd G ad N C (s_X5_best n M v1 v2) o) H) hx hb hr hlk hh hS (show (gIt (L_X5_best n (tset M 0 0 0) v1.toNatClampNeg v2.toNatClampNeg) (-1) (n 0)) = f_X5_best n M v1 v2 from by rw [f_X5_best, if_neg c_10_1, if_neg c_18_4]) (show gW D A ad (Wd G ad N C (s_X5_best n M v1 v2) o) H from by rw [s_X5_best, if_neg c_10_1, if_neg c_18_4]; exact hW) dX5_best_81
        · exact absurd (g_le hb0 (by omega)) c_38_5
      · have hl : lv_has ls 5 [(4, .int (nI j)), (3, .int (gIt (L_X5_best n (tset M 0 0 0) v1.toNatClampNeg v2.toNatClampNeg) (-1) j)), (0, .ref (ad 0 1)), (1, .int v1), (2, .int v2)] := hl
        refine lv_iload hx hb dX5_best_32 (lv_at hl 0 rfl) ?_
        refine lv_aload_n hx hb dX5_best_34 rfl (lv_at hl 2 rfl) ?_
        refine va_get (D := D) (ci := 6) (v := .int ((tset M 0 0 0) 2 0)) (C := RX5) (T := TX5) (N := 23) hx hb hts inX5 hown hK (hW.p (e := (eMod ad (tset M 0 0 0))) rfl) 0 rfl rfl 2 (by decide) (hts (.fieldLink RX5 62 "StoryTollModel" "scenes" "I") (List.mem_of_getElem? (i := 2) rfl)) (fun _ h9 => h9) rfl dX5_best_35 ?_
        rw [show ((tset M 0 0 0) 2 0) = (M 2 0) from by rw [tset_of (by decide)]]
        refine lv_icmp_ge (tgt := 80) hx hb dX5_best_38 (by decide) (fun c_38_6 => ?_) (fun c_38_6 => ?_)
        · exact absurd c_38_6 (g_ge hb0 (by omega) hj)
        · refine lv_aload_n hx hb dX5_best_41 rfl (lv_at hl 2 rfl) ?_
          refine lv_iload_n hx hb dX5_best_42 rfl (lv_at hl 3 rfl) ?_
          refine lv_iload hx hb dX5_best_43 (lv_at hl 0 rfl) ?_
          refine lv_iload_n hx hb dX5_best_45 rfl (lv_at hl 4 rfl) ?_
          refine g_Vi (As := [.int v1, .int (nI j), .int v2]) (rest := []) C0 ((by have h9 := c_X5_can l D G A ad N C (tset M 0 0 0) o H hW n hI0 v1.toNatClampNeg j v2.toNatClampNeg v2 (by omega) (by omega) (fun _ => hv2); rw [← hv1.1] at h9; exact h9)) (cwV 3 hts gX5_best_X5_can rfl rfl rfl (by decide +kernel) ⟨Nat.le_of_ble_eq_true rfl, Nat.le_of_ble_eq_true rfl⟩) hK (va_recv hK (hW.p rfl) (ci := 6) (q0 := 0) rfl rfl) rfl hl rfl (Nat.le_of_ble_eq_true rfl) dX5_best_46 ⟨Nat.zero_le _, Nat.zero_le _⟩ hS (fun r_8 locs hr_8 hS => ?_)
          subst hr_8
          refine lv_if_eq (tgt := 74) hx hb dX5_best_49 (by decide) (fun c_49_8 => ?_) (fun c_49_8 => ?_)
          · refine lv_iinc (v := (nI (j + 1))) (lv' := [(4, .int (nI (j + 1))), (3, .int (gIt (L_X5_best n (tset M 0 0 0) v1.toNatClampNeg v2.toNatClampNeg) (-1) j)), (0, .ref (ad 0 1)), (1, .int v1), (2, .int v2)]) hx hb dX5_best_74 hl (k := 0) rfl (nI_1 _) (by decide) rfl (fun ls hl => ?_)
            refine lv_goto (tgt := 32) hx hb dX5_best_77 (by decide) ?_
            have ea : (gIt (L_X5_best n (tset M 0 0 0) v1.toNatClampNeg v2.toNatClampNeg) (-1) j) = (gIt (L_X5_best n (tset M 0 0 0) v1.toNatClampNeg v2.toNatClampNeg) (-1) (j + 1)) := by rw [gIt_s, L_X5_best, if_pos c_49_8]
            have hl2 : lv_has ls 5 [(4, .int (nI (j + 1))), (3, .int (gIt (L_X5_best n (tset M 0 0 0) v1.toNatClampNeg v2.toNatClampNeg) (-1) (j + 1))), (0, .ref (ad 0 1)), (1, .int v1), (2, .int v2)] := by rw [← ea]; exact lv_sub hl [0, 1, 2, 3, 4] rfl
            exact ih ls locs hl2 hS
          · refine lv_iload_n hx hb dX5_best_52 rfl (lv_at hl 1 rfl) ?_
            refine lv_iconst (v := (-1)) hx hb dX5_best_53 (by decide) ?_
            refine lv_icmp_eq (tgt := 71) hx hb dX5_best_54 (by decide) (fun c_54_9 => ?_) (fun c_54_9 => ?_)
            · refine lv_iload hx hb dX5_best_71 (lv_at hl 0 rfl) ?_
              refine lv_istore_n (lv' := [(3, .int (nI j)), (4, .int (nI j)), (0, .ref (ad 0 1)), (1, .int v1), (2, .int v2)]) hx hb dX5_best_73 rfl hl (by decide) rfl (fun ls hl => ?_)
              refine lv_iinc (v := (nI (j + 1))) (lv' := [(4, .int (nI (j + 1))), (3, .int (nI j)), (0, .ref (ad 0 1)), (1, .int v1), (2, .int v2)]) hx hb dX5_best_74 hl (k := 1) rfl (nI_1 _) (by decide) rfl (fun ls hl => ?_)
              refine lv_goto (tgt := 32) hx hb dX5_best_77 (by decide) ?_
              have ea : (nI j) = (gIt (L_X5_best n (tset M 0 0 0) v1.toNatClampNeg v2.toNatClampNeg) (-1) (j + 1)) := by rw [gIt_s, L_X5_best, if_neg c_49_8, if_pos c_54_9]
              have hl2 : lv_has ls 5 [(4, .int (nI (j + 1))), (3, .int (gIt (L_X5_best n (tset M 0 0 0) v1.toNatClampNeg v2.toNatClampNeg) (-1) (j + 1))), (0, .ref (ad 0 1)), (1, .int v1), (2, .int v2)] := by rw [← ea]; exact lv_sub hl [0, 1, 2, 3, 4] rfl
              exact ih ls locs hl2 hS
            · have hb9 := best_ix (n := n) (M := (tset M 0 0 0)) (tv := v1.toNatClampNeg) (q := v2.toNatClampNeg) j (by omega) c_54_9
              refine lv_aload_n hx hb dX5_best_57 rfl (lv_at hl 2 rfl) ?_
              refine lv_iload hx hb dX5_best_58 (lv_at hl 0 rfl) ?_
              refine g_Vi (As := [.int (nI j)]) (rest := []) C0 (c_X5_toll l D G A ad N C (tset M 0 0 0) o H hW n hb1 (by omega) hhe j (by omega)) (cwV 1 hts gX5_best_X5_toll rfl rfl rfl (by decide +kernel) ⟨Nat.le_of_ble_eq_true rfl, Nat.le_of_ble_eq_true rfl⟩) hK (va_recv hK (hW.p rfl) (ci := 6) (q0 := 0) rfl rfl) rfl hl rfl (Nat.le_of_ble_eq_true rfl) dX5_best_60 ⟨Nat.zero_le _, Nat.zero_le _⟩ hS (fun r_11 locs hr_11 hS => ?_)
              subst hr_11
              refine lv_aload_n hx hb dX5_best_63 rfl (lv_at hl 2 rfl) ?_
              refine lv_iload_n hx hb dX5_best_64 rfl (lv_at hl 1 rfl) ?_
              refine g_Vi (As := [.int (gIt (L_X5_best n (tset M 0 0 0) v1.toNatClampNeg v2.toNatClampNeg) (-1) j)]) (rest := [.int (f_X5_toll n (tset M 0 0 0) j)]) C0 ((by have h9 := c_X5_toll l D G A ad N C (tset M 0 0 0) o H hW n hb1 (by omega) hhe (gIt (L_X5_best n (tset M 0 0 0) v1.toNatClampNeg v2.toNatClampNeg) (-1) j).toNatClampNeg (by omega); rw [← hb9.1] at h9; exact h9)) (cwV 1 hts gX5_best_X5_toll rfl rfl rfl (by decide +kernel) ⟨Nat.le_of_ble_eq_true rfl, Nat.le_of_ble_eq_true rfl⟩) hK (va_recv hK (hW.p rfl) (ci := 6) (q0 := 0) rfl rfl) rfl hl rfl (Nat.le_of_ble_eq_true rfl) dX5_best_65 ⟨Nat.zero_le _, Nat.zero_le _⟩ hS (fun r_12 locs hr_12 hS => ?_)
              subst hr_12
              refine lv_icmp_le (tgt := 74) hx hb dX5_best_68 (by decide) (fun c_68_12 => ?_) (fun c_68_12 => ?_)
              · refine lv_iinc (v := (nI (j + 1))) (lv' := [(4, .int (nI (j + 1))), (3, .int (gIt (L_X5_best n (tset M 0 0 0) v1.toNatClampNeg v2.toNatClampNeg) (-1) j)), (0, .ref (ad 0 1)), (1, .int v1), (2, .int v2)]) hx hb dX5_best_74 hl (k := 0) rfl (nI_1 _) (by decide) rfl (fun ls hl => ?_)
                refine lv_goto (tgt := 32) hx hb dX5_best_77 (by decide) ?_
                have ea : (gIt (L_X5_best n (tset M 0 0 0) v1.toNatClampNeg v2.toNatClampNeg) (-1) j) = (gIt (L_X5_best n (tset M 0 0 0) v1.toNatClampNeg v2.toNatClampNeg) (-1) (j + 1)) := by rw [gIt_s, L_X5_best, if_neg c_49_8, if_neg c_54_9, if_pos c_68_12]
                have hl2 : lv_has ls 5 [(4, .int (nI (j + 1))), (3, .int (gIt (L_X5_best n (tset M 0 0 0) v1.toNatClampNeg v2.toNatClampNeg) (-1) (j + 1))), (0, .ref (ad 0 1)), (1, .int v1), (2, .int v2)] := by rw [← ea]; exact lv_sub hl [0, 1, 2, 3, 4] rfl
                exact ih ls locs hl2 hS
              · refine lv_iload hx hb dX5_best_71 (lv_at hl 0 rfl) ?_
                refine lv_istore_n (lv' := [(3, .int (nI j)), (4, .int (nI j)), (0, .ref (ad 0 1)), (1, .int v1), (2, .int v2)]) hx hb dX5_best_73 rfl hl (by decide) rfl (fun ls hl => ?_)
                refine lv_iinc (v := (nI (j + 1))) (lv' := [(4, .int (nI (j + 1))), (3, .int (nI j)), (0, .ref (ad 0 1)), (1, .int v1), (2, .int v2)]) hx hb dX5_best_74 hl (k := 1) rfl (nI_1 _) (by decide) rfl (fun ls hl => ?_)
                refine lv_goto (tgt := 32) hx hb dX5_best_77 (by decide) ?_
                have ea : (nI j) = (gIt (L_X5_best n (tset M 0 0 0) v1.toNatClampNeg v2.toNatClampNeg) (-1) (j + 1)) := by rw [gIt_s, L_X5_best, if_neg c_49_8, if_neg c_54_9, if_neg c_68_12]
                have hl2 : lv_has ls 5 [(4, .int (nI (j + 1))), (3, .int (gIt (L_X5_best n (tset M 0 0 0) v1.toNatClampNeg v2.toNatClampNeg) (-1) (j + 1))), (0, .ref (ad 0 1)), (1, .int v1), (2, .int v2)] := by rw [← ea]; exact lv_sub hl [0, 1, 2, 3, 4] rfl
                exact ih ls locs hl2 hS
    · refine lv_aload_n hx hb dX5_best_21 rfl (lv_at hl 0 rfl) ?_
      refine lv_iconst (v := 1) hx hb dX5_best_22 (by decide) ?_
      refine g_wVi (As := [.int 1]) (rest := []) (B := fun (_ : Unit) H => gW D A ad (Wd G ad N C (s_X5_no (tset M 0 0 0) 1) o) H) (mc := 0) (ms := 0) C0 (c_X5_no l D G A ad N C (tset M 0 0 0) o H hW 1) (cwV 1 hts gX5_best_X5_no rfl rfl rfl (by decide +kernel) ⟨Nat.le_of_ble_eq_true rfl, Nat.le_of_ble_eq_true rfl⟩) hK (va_recv hK (hW.p rfl) (ci := 6) (q0 := 0) rfl rfl) rfl hl rfl (Nat.le_of_ble_eq_true rfl) dX5_best_23 ⟨Nat.zero_le _, Nat.zero_le _⟩ hS (fun r_14 ur_14 H locs hr_14 hW hzr_14 hS => ?_)
      have hW : gW D A ad (Wd G ad N C (s_X5_no (tset M 0 0 0) 1) o) H := hW
      subst hr_14
      exact g_wret (u := ()) (post := fun r _ => r = f_X5_best n M v1 v2) (B := fun _ H => gW D A ad (Wd G ad N C (s_X5_best n M v1 v2) o) H) hx hb hr hlk hh hS (show (f_X5_no (tset M 0 0 0) 1) = f_X5_best n M v1 v2 from by rw [f_X5_best, if_neg c_10_1, if_pos c_18_4]) (show gW D A ad (Wd G ad N C (s_X5_best n M v1 v2) o) H from by rw [s_X5_best, if_neg c_10_1, if_pos c_18_4]; exact hW) dX5_best_26
/-- the wonder behind a scene: at most d scenes more, none of the set -/
def f_wond (n : gN) (M : gT) : Nat → Nat → Int32 → Int32
  | 0, _, _ => -1
  | d + 1, i, set => gIt (fun j acc => if f_X5_has (M 6 i) (nI j) = 0 then acc else if f_X5_has set (nI j) = 0 then (if M 3 j = 2 then (if (0 : Int32) = -1 then acc else (if acc < (M 4 j) + 0 then (M 4 j) + 0 else acc)) else (if f_wond n M d j (set ||| (1 <<< ((nI j) &&& 31))) = -1 then acc else (if acc < (M 4 j) + (f_wond n M d j (set ||| (1 <<< ((nI j) &&& 31)))) then (M 4 j) + (f_wond n M d j (set ||| (1 <<< ((nI j) &&& 31)))) else acc))) else acc) (-1) (n 0)
theorem f_wond_0 (n : gN) (M : gT) (i : Nat) (set : Int32) : f_wond n M 0 i set = -1 := by unfold f_wond; rfl
def L_wond (n : gN) (M : gT) (d i : Nat) (set : Int32) (j : Nat) (acc : Int32) : Int32 := if f_X5_has (M 6 i) (nI j) = 0 then acc else if f_X5_has set (nI j) = 0 then (if M 3 j = 2 then (if (0 : Int32) = -1 then acc else (if acc < (M 4 j) + 0 then (M 4 j) + 0 else acc)) else (if f_wond n M d j (set ||| (1 <<< ((nI j) &&& 31))) = -1 then acc else (if acc < (M 4 j) + (f_wond n M d j (set ||| (1 <<< ((nI j) &&& 31)))) then (M 4 j) + (f_wond n M d j (set ||| (1 <<< ((nI j) &&& 31)))) else acc))) else acc
theorem f_wond_s (n : gN) (M : gT) (d i : Nat) (set : Int32) : f_wond n M (d + 1) i set = gIt (L_wond n M d i set) (-1) (n 0) := by unfold f_wond; rfl
set_option maxHeartbeats 4000000 in
set_option maxRecDepth 100000 in
theorem c_X5_wonders (l : Launch) (D : va_G) (G : gG) (A : Nat → Prop) (ad : gAd) (N : gN) (C M : gT) (o : Nat → Int64) (Hp : Heap) (hW : gW D A ad (Wd G ad N C M o) Hp) (n : gN) (hI : IM n M) : ∀ (d i : Nat) (set : Int32), i < n 0 → d ≤ 100 → Met l yX5_wonders wsX5_wonders ({ frames := d + 1, cells := 0, slots := 0, locals := 30 * (d + 1) }) (va_Pc [.ref (ad 0 1), .int (nI i), .int (nI d), .int set] (gQ D (gTs G) Hp)) (gRi (fun r => r = f_wond n M d i set) Hp) 0 0 gF := by
  intro d
  induction d with
  | zero =>
    intro i set hi hd
    refine g_start (cc := cX5_wonders) (maxL := 7) (ret := (some .int)) (by decide) rfl (Nat.le_of_ble_eq_true rfl) (fun p e s m below meth c ls C0 hr hlk hnm hh hK hl => ?_)
    obtain ⟨hx, hb, hml, hown, hts⟩ := id C0
    have hown : s.vm.findClass RX5 = some m.cls := hown
    have hS : va_S gF Hp Hp [] := va_S.rf
    have hl : lv_has ls 7 [(0, .ref (ad 0 1)), (1, .int (nI i)), (2, .int (nI 0)), (3, .int set)] := hl
    have inX5 : ∀ w ∈ wsX50, w ∈ wsX5_wonders := by decide +kernel
    obtain ⟨⟨hb0, hn0⟩, ⟨hb1, hn1⟩, ⟨hb2, hn2⟩, ⟨hb3, hn3⟩, hpl, hhe⟩ := id hI
    refine lv_iconst (v := (-1)) hx hb dX5_wonders_0 (by decide) ?_
    refine lv_istore (lv' := [(4, .int (-1)), (0, .ref (ad 0 1)), (1, .int (nI i)), (2, .int (nI 0)), (3, .int set)]) hx hb dX5_wonders_1 hl (by decide) rfl (fun ls hl => ?_)
    refine lv_iconst (v := 0) hx hb dX5_wonders_3 (by decide) ?_
    refine lv_istore (lv' := [(5, .int 0), (4, .int (-1)), (0, .ref (ad 0 1)), (1, .int (nI i)), (2, .int (nI 0)), (3, .int set)]) hx hb dX5_wonders_4 hl (by decide) rfl (fun ls hl => ?_)
    refine lv_iload hx hb dX5_wonders_6 (lv_at hl 0 rfl) ?_
    refine lv_aload_n hx hb dX5_wonders_8 rfl (lv_at hl 2 rfl) ?_
    refine va_get (D := D) (ci := 6) (v := .int (M 2 0)) (C := RX5) (T := TX5) (N := 23) hx hb hts inX5 hown hK (hW.p (e := (eMod ad M)) rfl) 0 rfl rfl 2 (by decide) (hts (.fieldLink RX5 62 "StoryTollModel" "scenes" "I") (List.mem_of_getElem? (i := 1) rfl)) (fun _ h9 => h9) rfl dX5_wonders_9 ?_
    refine lv_icmp_ge (tgt := 106) hx hb dX5_wonders_12 (by decide) (fun c_12_0 => ?_) (fun c_12_0 => ?_)
    · refine lv_iload hx hb dX5_wonders_106 (lv_at hl 1 rfl) ?_
      exact g_iret hx hb hr hlk hh hS (show (-1) = f_wond n M 0 i set from (f_wond_0 n M i set).symm) dX5_wonders_108
    · refine lv_iload_n hx hb dX5_wonders_15 rfl (lv_at hl 4 rfl) ?_
      refine lv_if_le (tgt := 106) hx hb dX5_wonders_16 (by decide) (fun c_16_1 => ?_) (fun c_16_1 => ?_)
      · refine lv_iload hx hb dX5_wonders_106 (lv_at hl 1 rfl) ?_
        exact g_iret hx hb hr hlk hh hS (show (-1) = f_wond n M 0 i set from (f_wond_0 n M i set).symm) dX5_wonders_108
      · exact absurd (by decide) c_16_1
  | succ d ih9 =>
    intro i set hi hd
    refine g_start (cc := cX5_wonders) (maxL := 7) (ret := (some .int)) (by decide) rfl (Nat.le_of_ble_eq_true rfl) (fun p e s m below meth c ls C0 hr hlk hnm hh hK hl => ?_)
    obtain ⟨hx, hb, hml, hown, hts⟩ := id C0
    have hown : s.vm.findClass RX5 = some m.cls := hown
    have hS : va_S gF Hp Hp [] := va_S.rf
    have hl : lv_has ls 7 [(0, .ref (ad 0 1)), (1, .int (nI i)), (2, .int (nI (d + 1))), (3, .int set)] := hl
    have inX5 : ∀ w ∈ wsX50, w ∈ wsX5_wonders := by decide +kernel
    obtain ⟨⟨hb0, hn0⟩, ⟨hb1, hn1⟩, ⟨hb2, hn2⟩, ⟨hb3, hn3⟩, hpl, hhe⟩ := id hI
    refine lv_iconst (v := (-1)) hx hb dX5_wonders_0 (by decide) ?_
    refine lv_istore (lv' := [(4, .int (-1)), (0, .ref (ad 0 1)), (1, .int (nI i)), (2, .int (nI (d + 1))), (3, .int set)]) hx hb dX5_wonders_1 hl (by decide) rfl (fun ls hl => ?_)
    refine lv_iconst (v := 0) hx hb dX5_wonders_3 (by decide) ?_
    refine lv_istore (lv' := [(5, .int 0), (4, .int (-1)), (0, .ref (ad 0 1)), (1, .int (nI i)), (2, .int (nI (d + 1))), (3, .int set)]) hx hb dX5_wonders_4 hl (by decide) rfl (fun ls hl => ?_)
    refine g_loop (n 0) (fun j ls => lv_has ls 7 [(5, .int (nI j)), (4, .int (gIt (L_wond n M d i set) (-1) j)), (0, .ref (ad 0 1)), (1, .int (nI i)), (2, .int (nI (d + 1))), (3, .int set)]) (lv_sub hl [0, 1, 2, 3, 4, 5] rfl) hS (fun ls locs hl hS => ?_) (fun j ls locs hj hl hS ih => ?_)
    · have hl : lv_has ls 7 [(5, .int (nI (n 0))), (4, .int (gIt (L_wond n M d i set) (-1) (n 0))), (0, .ref (ad 0 1)), (1, .int (nI i)), (2, .int (nI (d + 1))), (3, .int set)] := hl
      refine lv_iload hx hb dX5_wonders_6 (lv_at hl 0 rfl) ?_
      refine lv_aload_n hx hb dX5_wonders_8 rfl (lv_at hl 2 rfl) ?_
      refine va_get (D := D) (ci := 6) (v := .int (M 2 0)) (C := RX5) (T := TX5) (N := 23) hx hb hts inX5 hown hK (hW.p (e := (eMod ad M)) rfl) 0 rfl rfl 2 (by decide) (hts (.fieldLink RX5 62 "StoryTollModel" "scenes" "I") (List.mem_of_getElem? (i := 1) rfl)) (fun _ h9 => h9) rfl dX5_wonders_9 ?_
      refine lv_icmp_ge (tgt := 106) hx hb dX5_wonders_12 (by decide) (fun c_12_0 => ?_) (fun c_12_0 => ?_)
      · refine lv_iload hx hb dX5_wonders_106 (lv_at hl 1 rfl) ?_
        exact g_iret hx hb hr hlk hh hS (show (gIt (L_wond n M d i set) (-1) (n 0)) = f_wond n M (d + 1) i set from (f_wond_s n M d i set).symm) dX5_wonders_108
      · exact absurd (g_le hb0 (by omega)) c_12_0
    · have hl : lv_has ls 7 [(5, .int (nI j)), (4, .int (gIt (L_wond n M d i set) (-1) j)), (0, .ref (ad 0 1)), (1, .int (nI i)), (2, .int (nI (d + 1))), (3, .int set)] := hl
      refine lv_iload hx hb dX5_wonders_6 (lv_at hl 0 rfl) ?_
      refine lv_aload_n hx hb dX5_wonders_8 rfl (lv_at hl 2 rfl) ?_
      refine va_get (D := D) (ci := 6) (v := .int (M 2 0)) (C := RX5) (T := TX5) (N := 23) hx hb hts inX5 hown hK (hW.p (e := (eMod ad M)) rfl) 0 rfl rfl 2 (by decide) (hts (.fieldLink RX5 62 "StoryTollModel" "scenes" "I") (List.mem_of_getElem? (i := 1) rfl)) (fun _ h9 => h9) rfl dX5_wonders_9 ?_
      refine lv_icmp_ge (tgt := 106) hx hb dX5_wonders_12 (by decide) (fun c_12_1 => ?_) (fun c_12_1 => ?_)
      · exact absurd c_12_1 (g_ge hb0 (by omega) hj)
      · refine lv_iload_n hx hb dX5_wonders_15 rfl (lv_at hl 4 rfl) ?_
        refine lv_if_le (tgt := 106) hx hb dX5_wonders_16 (by decide) (fun c_16_2 => ?_) (fun c_16_2 => ?_)
        · exact absurd c_16_2 (nI_nle (by omega) (by omega))
        · refine lv_aload_n hx hb dX5_wonders_19 rfl (lv_at hl 2 rfl) ?_
          refine va_get (D := D) (ci := 6) (v := .ref (ad 9 6)) (C := RX5) (T := TX5) (N := 23) hx hb hts inX5 hown hK (hW.p (e := (eMod ad M)) rfl) 0 rfl rfl 6 (by decide) (hts (.fieldLink RX5 19 "StoryTollModel" "behind" "[I") (List.mem_of_getElem? (i := 2) rfl)) (fun _ h9 => h9) rfl dX5_wonders_20 ?_
          refine lv_iload_n hx hb dX5_wonders_23 rfl (lv_at hl 3 rfl) ?_
          refine g_ild hx hb hK hW 0 (n := 24) (f := (M 6)) rfl rfl (k := i) rfl (by omega) (by decide) dX5_wonders_24 ?_
          refine lv_iload hx hb dX5_wonders_25 (lv_at hl 0 rfl) ?_
          refine g_Si (As := [.int (M 6 i), .int (nI j)]) (rest := []) C0 (c_X5_has l D G Hp (M 6 i) (nI j)) (va_cwS 2 hts gX5_wonders_X5_has rfl rfl rfl (by decide +kernel) ⟨(by show 0 + 1 ≤ d + 1 + 1; omega), (by show 8 + (2 + 11) + 0 ≤ 30 * (d + 1 + 1); omega)⟩) hK rfl hl rfl (Nat.le_of_ble_eq_true rfl) dX5_wonders_27 ⟨Nat.zero_le _, Nat.zero_le _⟩ hS (fun r_4 locs hr_4 hS => ?_)
          subst hr_4
          refine lv_if_eq (tgt := 100) hx hb dX5_wonders_30 (by decide) (fun c_30_4 => ?_) (fun c_30_4 => ?_)
          · refine lv_iinc (v := (nI (j + 1))) (lv' := [(5, .int (nI (j + 1))), (4, .int (gIt (L_wond n M d i set) (-1) j)), (0, .ref (ad 0 1)), (1, .int (nI i)), (2, .int (nI (d + 1))), (3, .int set)]) hx hb dX5_wonders_100 hl (k := 0) rfl (nI_1 _) (by decide) rfl (fun ls hl => ?_)
            refine lv_goto (tgt := 6) hx hb dX5_wonders_103 (by decide) ?_
            have ea : (gIt (L_wond n M d i set) (-1) j) = (gIt (L_wond n M d i set) (-1) (j + 1)) := by rw [gIt_s, L_wond, if_pos c_30_4]
            have hl2 : lv_has ls 7 [(5, .int (nI (j + 1))), (4, .int (gIt (L_wond n M d i set) (-1) (j + 1))), (0, .ref (ad 0 1)), (1, .int (nI i)), (2, .int (nI (d + 1))), (3, .int set)] := by rw [← ea]; exact lv_sub hl [0, 1, 2, 3, 4, 5] rfl
            exact ih ls locs hl2 hS
          · refine lv_iload_n hx hb dX5_wonders_33 rfl (lv_at hl 5 rfl) ?_
            refine lv_iload hx hb dX5_wonders_34 (lv_at hl 0 rfl) ?_
            refine g_Si (As := [.int set, .int (nI j)]) (rest := []) C0 (c_X5_has l D G Hp set (nI j)) (va_cwS 2 hts gX5_wonders_X5_has rfl rfl rfl (by decide +kernel) ⟨(by show 0 + 1 ≤ d + 1 + 1; omega), (by show 8 + (2 + 11) + 0 ≤ 30 * (d + 1 + 1); omega)⟩) hK rfl hl rfl (Nat.le_of_ble_eq_true rfl) dX5_wonders_36 ⟨Nat.zero_le _, Nat.zero_le _⟩ hS (fun r_6 locs hr_6 hS => ?_)
            subst hr_6
            refine lv_if_eq (tgt := 45) hx hb dX5_wonders_39 (by decide) (fun c_39_6 => ?_) (fun c_39_6 => ?_)
            · refine lv_aload_n hx hb dX5_wonders_45 rfl (lv_at hl 2 rfl) ?_
              refine va_get (D := D) (ci := 6) (v := .ref (ad 9 3)) (C := RX5) (T := TX5) (N := 23) hx hb hts inX5 hown hK (hW.p (e := (eMod ad M)) rfl) 0 rfl rfl 3 (by decide) (hts (.fieldLink RX5 9 "StoryTollModel" "kind" "[I") (List.mem_of_getElem? (i := 3) rfl)) (fun _ h9 => h9) rfl dX5_wonders_46 ?_
              refine lv_iload hx hb dX5_wonders_49 (lv_at hl 0 rfl) ?_
              refine g_ild hx hb hK hW 0 (n := 24) (f := (M 3)) rfl rfl (k := j) rfl (by omega) (by decide) dX5_wonders_51 ?_
              refine lv_iconst (v := 2) hx hb dX5_wonders_52 (by decide) ?_
              refine lv_icmp_ne (tgt := 60) hx hb dX5_wonders_53 (by decide) (fun c_53_7 => ?_) (fun c_53_7 => ?_)
              · refine lv_aload_n hx hb dX5_wonders_60 rfl (lv_at hl 2 rfl) ?_
                refine lv_iload hx hb dX5_wonders_61 (lv_at hl 0 rfl) ?_
                refine lv_iload_n hx hb dX5_wonders_63 rfl (lv_at hl 4 rfl) ?_
                refine lv_iconst (v := 1) hx hb dX5_wonders_64 (by decide) ?_
                refine lv_isub hx hb dX5_wonders_65 ?_
                rw [show ((nI (d + 1)) - 1) = (nI d) from nI_pred d]
                refine lv_iload_n hx hb dX5_wonders_66 rfl (lv_at hl 5 rfl) ?_
                refine lv_iconst (v := 1) hx hb dX5_wonders_67 (by decide) ?_
                refine lv_iload hx hb dX5_wonders_68 (lv_at hl 0 rfl) ?_
                refine lv_ishl hx hb dX5_wonders_70 ?_
                refine lv_ior hx hb dX5_wonders_71 ?_
                refine g_Vi (As := [.int (nI j), .int (nI d), .int (set ||| (1 <<< ((nI j) &&& 31)))]) (rest := []) C0 (ih9 j (set ||| (1 <<< ((nI j) &&& 31))) (by omega) (by omega)) (cwV 3 hts gX5_wonders_X5_wonders rfl rfl rfl (by decide +kernel) ⟨(by show (d + 1) + 1 ≤ (d + 1) + 1; omega), (by show 8 + (7 + 11) + 30 * (d + 1) ≤ 30 * ((d + 1) + 1); omega)⟩) hK (va_recv hK (hW.p rfl) (ci := 6) (q0 := 0) rfl rfl) rfl hl rfl (Nat.le_of_ble_eq_true rfl) dX5_wonders_72 ⟨Nat.zero_le _, Nat.zero_le _⟩ hS (fun r_9 locs hr_9 hS => ?_)
                subst hr_9
                refine lv_istore (lv' := [(6, .int (f_wond n M d j (set ||| (1 <<< ((nI j) &&& 31))))), (5, .int (nI j)), (4, .int (gIt (L_wond n M d i set) (-1) j)), (0, .ref (ad 0 1)), (1, .int (nI i)), (2, .int (nI (d + 1))), (3, .int set)]) hx hb dX5_wonders_75 hl (by decide) rfl (fun ls hl => ?_)
                refine lv_iload hx hb dX5_wonders_77 (lv_at hl 0 rfl) ?_
                refine lv_iconst (v := (-1)) hx hb dX5_wonders_79 (by decide) ?_
                refine lv_icmp_eq (tgt := 100) hx hb dX5_wonders_80 (by decide) (fun c_80_9 => ?_) (fun c_80_9 => ?_)
                · refine lv_iinc (v := (nI (j + 1))) (lv' := [(5, .int (nI (j + 1))), (6, .int (f_wond n M d j (set ||| (1 <<< ((nI j) &&& 31))))), (4, .int (gIt (L_wond n M d i set) (-1) j)), (0, .ref (ad 0 1)), (1, .int (nI i)), (2, .int (nI (d + 1))), (3, .int set)]) hx hb dX5_wonders_100 hl (k := 1) rfl (nI_1 _) (by decide) rfl (fun ls hl => ?_)
                  refine lv_goto (tgt := 6) hx hb dX5_wonders_103 (by decide) ?_
                  have ea : (gIt (L_wond n M d i set) (-1) j) = (gIt (L_wond n M d i set) (-1) (j + 1)) := by rw [gIt_s, L_wond, if_neg c_30_4, if_pos c_39_6, if_neg c_53_7, if_pos c_80_9]
                  have hl2 : lv_has ls 7 [(5, .int (nI (j + 1))), (4, .int (gIt (L_wond n M d i set) (-1) (j + 1))), (0, .ref (ad 0 1)), (1, .int (nI i)), (2, .int (nI (d + 1))), (3, .int set)] := by rw [← ea]; exact lv_sub hl [0, 2, 3, 4, 5, 6] rfl
                  exact ih ls locs hl2 hS
                · refine lv_iload hx hb dX5_wonders_83 (lv_at hl 2 rfl) ?_
                  refine lv_aload_n hx hb dX5_wonders_85 rfl (lv_at hl 3 rfl) ?_
                  refine va_get (D := D) (ci := 6) (v := .ref (ad 9 4)) (C := RX5) (T := TX5) (N := 23) hx hb hts inX5 hown hK (hW.p (e := (eMod ad M)) rfl) 0 rfl rfl 4 (by decide) (hts (.fieldLink RX5 13 "StoryTollModel" "wonder" "[I") (List.mem_of_getElem? (i := 4) rfl)) (fun _ h9 => h9) rfl dX5_wonders_86 ?_
                  refine lv_iload hx hb dX5_wonders_89 (lv_at hl 1 rfl) ?_
                  refine g_ild hx hb hK hW 0 (n := 24) (f := (M 4)) rfl rfl (k := j) rfl (by omega) (by decide) dX5_wonders_91 ?_
                  refine lv_iload hx hb dX5_wonders_92 (lv_at hl 0 rfl) ?_
                  refine lv_iadd hx hb dX5_wonders_94 ?_
                  refine va_mmax hx hb (hml.trans hl.1.symm) hown (hts (.methodLink RX5 109 Lib.Math.max.name) (List.mem_of_getElem? (i := 5) rfl)) (hts (.static Lib.Math.max.name) (List.mem_of_getElem? (i := 6) rfl)) (hts (.initialized "java/lang/Math") (List.mem_of_getElem? (i := 7) rfl)) (hts (.code Lib.Math.max.name Lib.Math.max.code 2 (some .int)) (List.mem_of_getElem? (i := 8) rfl)) (by show 1 ≤ d + 2; omega) (by show _ ≤ 30 * (d + 2); exact Nat.le_trans (Nat.le_of_ble_eq_true rfl : _ ≤ 13) (by omega)) (Nat.zero_le _) (Nat.zero_le _) dX5_wonders_95 ?_
                  refine lv_istore (lv' := [(4, .int (if (gIt (L_wond n M d i set) (-1) j) < ((M 4 j) + (f_wond n M d j (set ||| (1 <<< ((nI j) &&& 31))))) then ((M 4 j) + (f_wond n M d j (set ||| (1 <<< ((nI j) &&& 31))))) else (gIt (L_wond n M d i set) (-1) j))), (6, .int (f_wond n M d j (set ||| (1 <<< ((nI j) &&& 31))))), (5, .int (nI j)), (0, .ref (ad 0 1)), (1, .int (nI i)), (2, .int (nI (d + 1))), (3, .int set)]) hx hb dX5_wonders_98 hl (by decide) rfl (fun ls hl => ?_)
                  refine lv_iinc (v := (nI (j + 1))) (lv' := [(5, .int (nI (j + 1))), (4, .int (if (gIt (L_wond n M d i set) (-1) j) < ((M 4 j) + (f_wond n M d j (set ||| (1 <<< ((nI j) &&& 31))))) then ((M 4 j) + (f_wond n M d j (set ||| (1 <<< ((nI j) &&& 31))))) else (gIt (L_wond n M d i set) (-1) j))), (6, .int (f_wond n M d j (set ||| (1 <<< ((nI j) &&& 31))))), (0, .ref (ad 0 1)), (1, .int (nI i)), (2, .int (nI (d + 1))), (3, .int set)]) hx hb dX5_wonders_100 hl (k := 2) rfl (nI_1 _) (by decide) rfl (fun ls hl => ?_)
                  refine lv_goto (tgt := 6) hx hb dX5_wonders_103 (by decide) ?_
                  have ea : (if (gIt (L_wond n M d i set) (-1) j) < ((M 4 j) + (f_wond n M d j (set ||| (1 <<< ((nI j) &&& 31))))) then ((M 4 j) + (f_wond n M d j (set ||| (1 <<< ((nI j) &&& 31))))) else (gIt (L_wond n M d i set) (-1) j)) = (gIt (L_wond n M d i set) (-1) (j + 1)) := by rw [gIt_s, L_wond, if_neg c_30_4, if_pos c_39_6, if_neg c_53_7, if_neg c_80_9]
                  have hl2 : lv_has ls 7 [(5, .int (nI (j + 1))), (4, .int (gIt (L_wond n M d i set) (-1) (j + 1))), (0, .ref (ad 0 1)), (1, .int (nI i)), (2, .int (nI (d + 1))), (3, .int set)] := by rw [← ea]; exact lv_sub hl [0, 1, 3, 4, 5, 6] rfl
                  exact ih ls locs hl2 hS
              · refine lv_iconst (v := 0) hx hb dX5_wonders_56 (by decide) ?_
                refine lv_goto (tgt := 75) hx hb dX5_wonders_57 (by decide) ?_
                refine lv_istore (lv' := [(6, .int 0), (5, .int (nI j)), (4, .int (gIt (L_wond n M d i set) (-1) j)), (0, .ref (ad 0 1)), (1, .int (nI i)), (2, .int (nI (d + 1))), (3, .int set)]) hx hb dX5_wonders_75 hl (by decide) rfl (fun ls hl => ?_)
                refine lv_iload hx hb dX5_wonders_77 (lv_at hl 0 rfl) ?_
                refine lv_iconst (v := (-1)) hx hb dX5_wonders_79 (by decide) ?_
                refine lv_icmp_eq (tgt := 100) hx hb dX5_wonders_80 (by decide) (fun c_80_10 => ?_) (fun c_80_10 => ?_)
                · refine lv_iinc (v := (nI (j + 1))) (lv' := [(5, .int (nI (j + 1))), (6, .int 0), (4, .int (gIt (L_wond n M d i set) (-1) j)), (0, .ref (ad 0 1)), (1, .int (nI i)), (2, .int (nI (d + 1))), (3, .int set)]) hx hb dX5_wonders_100 hl (k := 1) rfl (nI_1 _) (by decide) rfl (fun ls hl => ?_)
                  refine lv_goto (tgt := 6) hx hb dX5_wonders_103 (by decide) ?_
                  have ea : (gIt (L_wond n M d i set) (-1) j) = (gIt (L_wond n M d i set) (-1) (j + 1)) := by rw [gIt_s, L_wond, if_neg c_30_4, if_pos c_39_6, if_pos c_53_7, if_pos c_80_10]
                  have hl2 : lv_has ls 7 [(5, .int (nI (j + 1))), (4, .int (gIt (L_wond n M d i set) (-1) (j + 1))), (0, .ref (ad 0 1)), (1, .int (nI i)), (2, .int (nI (d + 1))), (3, .int set)] := by rw [← ea]; exact lv_sub hl [0, 2, 3, 4, 5, 6] rfl
                  exact ih ls locs hl2 hS
                · refine lv_iload hx hb dX5_wonders_83 (lv_at hl 2 rfl) ?_
                  refine lv_aload_n hx hb dX5_wonders_85 rfl (lv_at hl 3 rfl) ?_
                  refine va_get (D := D) (ci := 6) (v := .ref (ad 9 4)) (C := RX5) (T := TX5) (N := 23) hx hb hts inX5 hown hK (hW.p (e := (eMod ad M)) rfl) 0 rfl rfl 4 (by decide) (hts (.fieldLink RX5 13 "StoryTollModel" "wonder" "[I") (List.mem_of_getElem? (i := 4) rfl)) (fun _ h9 => h9) rfl dX5_wonders_86 ?_
                  refine lv_iload hx hb dX5_wonders_89 (lv_at hl 1 rfl) ?_
                  refine g_ild hx hb hK hW 0 (n := 24) (f := (M 4)) rfl rfl (k := j) rfl (by omega) (by decide) dX5_wonders_91 ?_
                  refine lv_iload hx hb dX5_wonders_92 (lv_at hl 0 rfl) ?_
                  refine lv_iadd hx hb dX5_wonders_94 ?_
                  refine va_mmax hx hb (hml.trans hl.1.symm) hown (hts (.methodLink RX5 109 Lib.Math.max.name) (List.mem_of_getElem? (i := 5) rfl)) (hts (.static Lib.Math.max.name) (List.mem_of_getElem? (i := 6) rfl)) (hts (.initialized "java/lang/Math") (List.mem_of_getElem? (i := 7) rfl)) (hts (.code Lib.Math.max.name Lib.Math.max.code 2 (some .int)) (List.mem_of_getElem? (i := 8) rfl)) (by show 1 ≤ d + 2; omega) (by show _ ≤ 30 * (d + 2); exact Nat.le_trans (Nat.le_of_ble_eq_true rfl : _ ≤ 13) (by omega)) (Nat.zero_le _) (Nat.zero_le _) dX5_wonders_95 ?_
                  refine lv_istore (lv' := [(4, .int (if (gIt (L_wond n M d i set) (-1) j) < ((M 4 j) + 0) then ((M 4 j) + 0) else (gIt (L_wond n M d i set) (-1) j))), (6, .int 0), (5, .int (nI j)), (0, .ref (ad 0 1)), (1, .int (nI i)), (2, .int (nI (d + 1))), (3, .int set)]) hx hb dX5_wonders_98 hl (by decide) rfl (fun ls hl => ?_)
                  refine lv_iinc (v := (nI (j + 1))) (lv' := [(5, .int (nI (j + 1))), (4, .int (if (gIt (L_wond n M d i set) (-1) j) < ((M 4 j) + 0) then ((M 4 j) + 0) else (gIt (L_wond n M d i set) (-1) j))), (6, .int 0), (0, .ref (ad 0 1)), (1, .int (nI i)), (2, .int (nI (d + 1))), (3, .int set)]) hx hb dX5_wonders_100 hl (k := 2) rfl (nI_1 _) (by decide) rfl (fun ls hl => ?_)
                  refine lv_goto (tgt := 6) hx hb dX5_wonders_103 (by decide) ?_
                  have ea : (if (gIt (L_wond n M d i set) (-1) j) < ((M 4 j) + 0) then ((M 4 j) + 0) else (gIt (L_wond n M d i set) (-1) j)) = (gIt (L_wond n M d i set) (-1) (j + 1)) := by rw [gIt_s, L_wond, if_neg c_30_4, if_pos c_39_6, if_pos c_53_7, if_neg c_80_10]
                  have hl2 : lv_has ls 7 [(5, .int (nI (j + 1))), (4, .int (gIt (L_wond n M d i set) (-1) (j + 1))), (0, .ref (ad 0 1)), (1, .int (nI i)), (2, .int (nI (d + 1))), (3, .int set)] := by rw [← ea]; exact lv_sub hl [0, 1, 3, 4, 5, 6] rfl
                  exact ih ls locs hl2 hS
            · refine lv_goto (tgt := 100) hx hb dX5_wonders_42 (by decide) ?_
              refine lv_iinc (v := (nI (j + 1))) (lv' := [(5, .int (nI (j + 1))), (4, .int (gIt (L_wond n M d i set) (-1) j)), (0, .ref (ad 0 1)), (1, .int (nI i)), (2, .int (nI (d + 1))), (3, .int set)]) hx hb dX5_wonders_100 hl (k := 0) rfl (nI_1 _) (by decide) rfl (fun ls hl => ?_)
              refine lv_goto (tgt := 6) hx hb dX5_wonders_103 (by decide) ?_
              have ea : (gIt (L_wond n M d i set) (-1) j) = (gIt (L_wond n M d i set) (-1) (j + 1)) := by rw [gIt_s, L_wond, if_neg c_30_4, if_neg c_39_6]
              have hl2 : lv_has ls 7 [(5, .int (nI (j + 1))), (4, .int (gIt (L_wond n M d i set) (-1) (j + 1))), (0, .ref (ad 0 1)), (1, .int (nI i)), (2, .int (nI (d + 1))), (3, .int set)] := by rw [← ea]; exact lv_sub hl [0, 1, 2, 3, 4, 5] rfl
              exact ih ls locs hl2 hS
def L_X5_most (M : gT) (q : Nat) (j : Nat) (acc : Int32) : Int32 := (acc ||| (1 <<< ((M 21 (8 * q + j)) &&& 31)))
def f_X5_most (n : gN) (M : gT) (v1 : Int32) : Int32 := (if (f_X5_isPlot (tset M 0 0 0) v1) = 0 then (f_X5_no (tset M 0 0 0) 1) else (if (f_X5_isOpen (tset M 0 0 0) v1.toNatClampNeg) = 0 then 0 else (f_wond n (tset M 0 0 0) (8 - szM M v1.toNatClampNeg) (laM (tset M 0 0 0) v1.toNatClampNeg) (gIt (L_X5_most M v1.toNatClampNeg) 0 (szM M v1.toNatClampNeg)))))
def s_X5_most (n : gN) (M : gT) (v1 : Int32) : gT := (if (f_X5_isPlot (tset M 0 0 0) v1) = 0 then (s_X5_no (tset M 0 0 0) 1) else (if (f_X5_isOpen (tset M 0 0 0) v1.toNatClampNeg) = 0 then (tset M 0 0 0) else (tset M 0 0 0)))
set_option maxHeartbeats 4000000 in
set_option maxRecDepth 100000 in
theorem c_X5_most (l : Launch) (D : va_G) (G : gG) (A : Nat → Prop) (ad : gAd) (N : gN) (C M : gT) (o : Nat → Int64) (Hp : Heap) (hW : gW D A ad (Wd G ad N C M o) Hp) (n : gN) (hI : IM n M) (v1 : Int32) : Met l yX5_most wsX5_most ({ frames := 11, cells := 0, slots := 0, locals := 326 }) (va_Pc [.ref (ad 0 1), .int v1] (gQ D (gTs G) Hp)) (va_Qi (fun r (_ : Unit) => r = f_X5_most n M v1) (fun _ t => gW D A ad (Wd G ad N C (s_X5_most n M v1) o) t.heap) A) 0 0 A := by
  refine g_start (cc := cX5_most) (maxL := 4) (ret := (some .int)) (by decide) rfl (Nat.le_of_ble_eq_true rfl) (fun p e s m below meth c ls C0 hr hlk hnm hh hK hl => ?_)
  obtain ⟨hx, hb, hml, hown, hts⟩ := id C0
  have hown : s.vm.findClass RX5 = some m.cls := hown
  have hS : va_S A Hp Hp [] := va_S.rf
  have hl : lv_has ls 4 [(0, .ref (ad 0 1)), (1, .int v1)] := hl
  have inX5 : ∀ w ∈ wsX50, w ∈ wsX5_most := by decide +kernel
  obtain ⟨⟨hb0, hn0⟩, ⟨hb1, hn1⟩, ⟨hb2, hn2⟩, ⟨hb3, hn3⟩, hpl, hhe⟩ := id hI
  have hI0 := IM_t0 (v := 0) hI
  refine lv_aload_n hx hb dX5_most_0 rfl (lv_at hl 0 rfl) ?_
  refine lv_iconst (v := 0) hx hb dX5_most_1 (by decide) ?_
  refine g_put (D := D) (ci := 6) (v := .int 0) (ty := .int) (C := RX5) (T := TX5) (N := 23) (ct' := (Wd G ad N C (tset M 0 0 0) o)) hx hb hts inX5 tyX5 tyX5_ok nmX5 hown hK hW hS (show Wd G ad N C M o 0 1 = some (eMod ad M) from rfl) rfl 0 (by decide) (hts (.fieldLink RX5 59 "StoryTollModel" "thrown" "I") (List.mem_of_getElem? (i := 1) rfl)) (fun _ h9 => h9) rfl (by decide +kernel) rfl rfl (Nat.le_of_ble_eq_true rfl) dX5_most_2 Wd_m0 (Wd_tM rfl) (fun H locs hW hS => ?_)
  refine lv_aload_n hx hb dX5_most_5 rfl (lv_at hl 0 rfl) ?_
  refine lv_iload_n hx hb dX5_most_6 rfl (lv_at hl 1 rfl) ?_
  refine g_Vi (As := [.int v1]) (rest := []) C0 (c_X5_isPlot l D G A ad N C (tset M 0 0 0) o H hW v1) (cwV 1 hts gX5_most_X5_isPlot rfl rfl rfl (by decide +kernel) ⟨Nat.le_of_ble_eq_true rfl, Nat.le_of_ble_eq_true rfl⟩) hK (va_recv hK (hW.p rfl) (ci := 6) (q0 := 0) rfl rfl) rfl hl rfl (Nat.le_of_ble_eq_true rfl) dX5_most_7 ⟨Nat.zero_le _, Nat.zero_le _⟩ hS (fun r_1 locs hr_1 hS => ?_)
  subst hr_1
  refine lv_if_ne (tgt := 19) hx hb dX5_most_10 (by decide) (fun c_10_1 => ?_) (fun c_10_1 => ?_)
  · have hv1 := is_idx hb3 (by omega) c_10_1
    obtain ⟨hs1, hs2, hs3, hrw⟩ := hpl v1.toNatClampNeg hv1.2
    have hla := f_last_eq hI0 hv1.2
    refine lv_aload_n hx hb dX5_most_19 rfl (lv_at hl 0 rfl) ?_
    refine lv_iload_n hx hb dX5_most_20 rfl (lv_at hl 1 rfl) ?_
    refine g_Vi (As := [.int v1]) (rest := []) C0 ((by have h9 := c_X5_isOpen l D G A ad N C (tset M 0 0 0) o H hW n hI0 v1.toNatClampNeg (by omega); rw [← hv1.1] at h9; exact h9)) (cwV 1 hts gX5_most_X5_isOpen rfl rfl rfl (by decide +kernel) ⟨Nat.le_of_ble_eq_true rfl, Nat.le_of_ble_eq_true rfl⟩) hK (va_recv hK (hW.p rfl) (ci := 6) (q0 := 0) rfl rfl) rfl hl rfl (Nat.le_of_ble_eq_true rfl) dX5_most_21 ⟨Nat.zero_le _, Nat.zero_le _⟩ hS (fun r_3 locs hr_3 hS => ?_)
    subst hr_3
    refine lv_if_ne (tgt := 29) hx hb dX5_most_24 (by decide) (fun c_24_3 => ?_) (fun c_24_3 => ?_)
    · refine lv_iconst (v := 0) hx hb dX5_most_29 (by decide) ?_
      refine lv_istore_n (lv' := [(2, .int 0), (0, .ref (ad 0 1)), (1, .int v1)]) hx hb dX5_most_30 rfl hl (by decide) rfl (fun ls hl => ?_)
      refine lv_iconst (v := 0) hx hb dX5_most_31 (by decide) ?_
      refine lv_istore_n (lv' := [(3, .int 0), (2, .int 0), (0, .ref (ad 0 1)), (1, .int v1)]) hx hb dX5_most_32 rfl hl (by decide) rfl (fun ls hl => ?_)
      refine g_loop (szM M v1.toNatClampNeg) (fun j ls => lv_has ls 4 [(3, .int (nI j)), (2, .int (gIt (L_X5_most M v1.toNatClampNeg) 0 j)), (0, .ref (ad 0 1)), (1, .int v1)]) (lv_sub hl [0, 1, 2, 3] rfl) hS (fun ls locs hl hS => ?_) (fun j ls locs hj hl hS ih => ?_)
      · have hl : lv_has ls 4 [(3, .int (nI (szM M v1.toNatClampNeg))), (2, .int (gIt (L_X5_most M v1.toNatClampNeg) 0 (szM M v1.toNatClampNeg))), (0, .ref (ad 0 1)), (1, .int v1)] := hl
        refine lv_iload_n hx hb dX5_most_33 rfl (lv_at hl 0 rfl) ?_
        refine lv_aload_n hx hb dX5_most_34 rfl (lv_at hl 2 rfl) ?_
        refine va_get (D := D) (ci := 6) (v := .ref (ad 9 20)) (C := RX5) (T := TX5) (N := 23) hx hb hts inX5 hown hK (hW.p (e := (eMod ad (tset M 0 0 0))) rfl) 0 rfl rfl 20 (by decide) (hts (.fieldLink RX5 50 "StoryTollModel" "size" "[I") (List.mem_of_getElem? (i := 2) rfl)) (fun _ h9 => h9) rfl dX5_most_35 ?_
        refine lv_iload_n hx hb dX5_most_38 rfl (lv_at hl 3 rfl) ?_
        refine g_ild hx hb hK hW 0 (n := 8) (f := ((tset M 0 0 0) 20)) rfl rfl (k := v1.toNatClampNeg) hv1.1 (by omega) (by decide) dX5_most_39 ?_
        rw [show ((tset M 0 0 0) 20 v1.toNatClampNeg) = (M 20 v1.toNatClampNeg) from by rw [tset_of (by decide)]]
        refine lv_icmp_ge (tgt := 65) hx hb dX5_most_40 (by decide) (fun c_40_4 => ?_) (fun c_40_4 => ?_)
        · refine lv_aload_n hx hb dX5_most_65 rfl (lv_at hl 2 rfl) ?_
          refine lv_aload_n hx hb dX5_most_66 rfl (lv_at hl 2 rfl) ?_
          refine lv_iload_n hx hb dX5_most_67 rfl (lv_at hl 3 rfl) ?_
          refine g_Vi (As := [.int v1]) (rest := [.ref (ad 0 1)]) C0 ((by have h9 := c_X5_last l D G A ad N C (tset M 0 0 0) o H hW n hI0 v1.toNatClampNeg (by omega); rw [← hv1.1] at h9; exact h9)) (cwV 1 hts gX5_most_X5_last rfl rfl rfl (by decide +kernel) ⟨Nat.le_of_ble_eq_true rfl, Nat.le_of_ble_eq_true rfl⟩) hK (va_recv hK (hW.p rfl) (ci := 6) (q0 := 0) rfl rfl) rfl hl rfl (Nat.le_of_ble_eq_true rfl) dX5_most_68 ⟨Nat.zero_le _, Nat.zero_le _⟩ hS (fun r_6 locs hr_6 hS => ?_)
          subst hr_6
          rw [show (f_X5_last (tset M 0 0 0) v1.toNatClampNeg) = (nI (laM (tset M 0 0 0) v1.toNatClampNeg)) from hla.1]
          refine lv_bipush (v := 8) hx hb dX5_most_71 (by decide) ?_
          refine lv_aload_n hx hb dX5_most_73 rfl (lv_at hl 2 rfl) ?_
          refine va_get (D := D) (ci := 6) (v := .ref (ad 9 20)) (C := RX5) (T := TX5) (N := 23) hx hb hts inX5 hown hK (hW.p (e := (eMod ad (tset M 0 0 0))) rfl) 0 rfl rfl 20 (by decide) (hts (.fieldLink RX5 50 "StoryTollModel" "size" "[I") (List.mem_of_getElem? (i := 2) rfl)) (fun _ h9 => h9) rfl dX5_most_74 ?_
          refine lv_iload_n hx hb dX5_most_77 rfl (lv_at hl 3 rfl) ?_
          refine g_ild hx hb hK hW 0 (n := 8) (f := ((tset M 0 0 0) 20)) rfl rfl (k := v1.toNatClampNeg) hv1.1 (by omega) (by decide) dX5_most_78 ?_
          rw [show ((tset M 0 0 0) 20 v1.toNatClampNeg) = (M 20 v1.toNatClampNeg) from by rw [tset_of (by decide)]]
          refine lv_isub hx hb dX5_most_79 ?_
          rw [show (8 - (M 20 v1.toNatClampNeg)) = (nI (8 - szM M v1.toNatClampNeg)) from (by rw [hs1, show (8 : Int32) = nI 8 from rfl, pk_sub hs3])]
          refine lv_iload_n hx hb dX5_most_80 rfl (lv_at hl 1 rfl) ?_
          refine g_Vi (As := [.int (nI (laM (tset M 0 0 0) v1.toNatClampNeg)), .int (nI (8 - szM M v1.toNatClampNeg)), .int (gIt (L_X5_most M v1.toNatClampNeg) 0 (szM M v1.toNatClampNeg))]) (rest := []) C0 (c_X5_wonders l D G A ad N C (tset M 0 0 0) o H hW n hI0 (8 - szM M v1.toNatClampNeg) (laM (tset M 0 0 0) v1.toNatClampNeg) (gIt (L_X5_most M v1.toNatClampNeg) 0 (szM M v1.toNatClampNeg)) (by omega) (by omega)) (cwV 3 hts gX5_most_X5_wonders rfl rfl rfl (by decide +kernel) ⟨(by show (8 - szM M v1.toNatClampNeg + 1) + 1 ≤ 11; omega), (by show 8 + (7 + 11) + 30 * (8 - szM M v1.toNatClampNeg + 1) ≤ 326; omega)⟩) hK (va_recv hK (hW.p rfl) (ci := 6) (q0 := 0) rfl rfl) rfl hl rfl (Nat.le_of_ble_eq_true rfl) dX5_most_81 ⟨Nat.zero_le _, Nat.zero_le _⟩ hS (fun r_7 locs hr_7 hS => ?_)
          subst hr_7
          exact g_wret (u := ()) (post := fun r _ => r = f_X5_most n M v1) (B := fun _ H => gW D A ad (Wd G ad N C (s_X5_most n M v1) o) H) hx hb hr hlk hh hS (show (f_wond n (tset M 0 0 0) (8 - szM M v1.toNatClampNeg) (laM (tset M 0 0 0) v1.toNatClampNeg) (gIt (L_X5_most M v1.toNatClampNeg) 0 (szM M v1.toNatClampNeg))) = f_X5_most n M v1 from by rw [f_X5_most, if_neg c_10_1, if_neg c_24_3]) (show gW D A ad (Wd G ad N C (s_X5_most n M v1) o) H from by rw [s_X5_most, if_neg c_10_1, if_neg c_24_3]; exact hW) dX5_most_84
        · exact absurd (g_le hs1 (by omega)) c_40_4
      · have hl : lv_has ls 4 [(3, .int (nI j)), (2, .int (gIt (L_X5_most M v1.toNatClampNeg) 0 j)), (0, .ref (ad 0 1)), (1, .int v1)] := hl
        refine lv_iload_n hx hb dX5_most_33 rfl (lv_at hl 0 rfl) ?_
        refine lv_aload_n hx hb dX5_most_34 rfl (lv_at hl 2 rfl) ?_
        refine va_get (D := D) (ci := 6) (v := .ref (ad 9 20)) (C := RX5) (T := TX5) (N := 23) hx hb hts inX5 hown hK (hW.p (e := (eMod ad (tset M 0 0 0))) rfl) 0 rfl rfl 20 (by decide) (hts (.fieldLink RX5 50 "StoryTollModel" "size" "[I") (List.mem_of_getElem? (i := 2) rfl)) (fun _ h9 => h9) rfl dX5_most_35 ?_
        refine lv_iload_n hx hb dX5_most_38 rfl (lv_at hl 3 rfl) ?_
        refine g_ild hx hb hK hW 0 (n := 8) (f := ((tset M 0 0 0) 20)) rfl rfl (k := v1.toNatClampNeg) hv1.1 (by omega) (by decide) dX5_most_39 ?_
        rw [show ((tset M 0 0 0) 20 v1.toNatClampNeg) = (M 20 v1.toNatClampNeg) from by rw [tset_of (by decide)]]
        refine lv_icmp_ge (tgt := 65) hx hb dX5_most_40 (by decide) (fun c_40_7 => ?_) (fun c_40_7 => ?_)
        · exact absurd c_40_7 (g_ge hs1 (by omega) hj)
        · refine lv_iload_n hx hb dX5_most_43 rfl (lv_at hl 1 rfl) ?_
          refine lv_iconst (v := 1) hx hb dX5_most_44 (by decide) ?_
          refine lv_aload_n hx hb dX5_most_45 rfl (lv_at hl 2 rfl) ?_
          refine va_get (D := D) (ci := 6) (v := .ref (ad 9 21)) (C := RX5) (T := TX5) (N := 23) hx hb hts inX5 hown hK (hW.p (e := (eMod ad (tset M 0 0 0))) rfl) 0 rfl rfl 21 (by decide) (hts (.fieldLink RX5 53 "StoryTollModel" "row" "[I") (List.mem_of_getElem? (i := 3) rfl)) (fun _ h9 => h9) rfl dX5_most_46 ?_
          refine lv_bipush (v := 8) hx hb dX5_most_49 (by decide) ?_
          refine lv_iload_n hx hb dX5_most_51 rfl (lv_at hl 3 rfl) ?_
          refine lv_imul hx hb dX5_most_52 ?_
          refine lv_iload_n hx hb dX5_most_53 rfl (lv_at hl 0 rfl) ?_
          refine lv_iadd hx hb dX5_most_54 ?_
          refine g_ild hx hb hK hW 0 (n := 64) (f := ((tset M 0 0 0) 21)) rfl rfl (k := (8 * v1.toNatClampNeg + j)) ((congrArg (fun a => 8 * a + nI j) hv1.1).trans (ix8 _ _)) (by omega) (by decide) dX5_most_55 ?_
          rw [show ((tset M 0 0 0) 21 (8 * v1.toNatClampNeg + j)) = (M 21 (8 * v1.toNatClampNeg + j)) from by rw [tset_of (by decide)]]
          refine lv_ishl hx hb dX5_most_56 ?_
          refine lv_ior hx hb dX5_most_57 ?_
          refine lv_istore_n (lv' := [(2, .int ((gIt (L_X5_most M v1.toNatClampNeg) 0 j) ||| (1 <<< ((M 21 (8 * v1.toNatClampNeg + j)) &&& 31)))), (3, .int (nI j)), (0, .ref (ad 0 1)), (1, .int v1)]) hx hb dX5_most_58 rfl hl (by decide) rfl (fun ls hl => ?_)
          refine lv_iinc (v := (nI (j + 1))) (lv' := [(3, .int (nI (j + 1))), (2, .int ((gIt (L_X5_most M v1.toNatClampNeg) 0 j) ||| (1 <<< ((M 21 (8 * v1.toNatClampNeg + j)) &&& 31)))), (0, .ref (ad 0 1)), (1, .int v1)]) hx hb dX5_most_59 hl (k := 1) rfl (nI_1 _) (by decide) rfl (fun ls hl => ?_)
          refine lv_goto (tgt := 33) hx hb dX5_most_62 (by decide) ?_
          have ea : ((gIt (L_X5_most M v1.toNatClampNeg) 0 j) ||| (1 <<< ((M 21 (8 * v1.toNatClampNeg + j)) &&& 31))) = (gIt (L_X5_most M v1.toNatClampNeg) 0 (j + 1)) := by rw [gIt_s, L_X5_most]
          have hl2 : lv_has ls 4 [(3, .int (nI (j + 1))), (2, .int (gIt (L_X5_most M v1.toNatClampNeg) 0 (j + 1))), (0, .ref (ad 0 1)), (1, .int v1)] := by rw [← ea]; exact lv_sub hl [0, 1, 2, 3] rfl
          exact ih ls locs hl2 hS
    · refine lv_iconst (v := 0) hx hb dX5_most_27 (by decide) ?_
      exact g_wret (u := ()) (post := fun r _ => r = f_X5_most n M v1) (B := fun _ H => gW D A ad (Wd G ad N C (s_X5_most n M v1) o) H) hx hb hr hlk hh hS (show 0 = f_X5_most n M v1 from by rw [f_X5_most, if_neg c_10_1, if_pos c_24_3]) (show gW D A ad (Wd G ad N C (s_X5_most n M v1) o) H from by rw [s_X5_most, if_neg c_10_1, if_pos c_24_3]; exact hW) dX5_most_28
  · refine lv_aload_n hx hb dX5_most_13 rfl (lv_at hl 0 rfl) ?_
    refine lv_iconst (v := 1) hx hb dX5_most_14 (by decide) ?_
    refine g_wVi (As := [.int 1]) (rest := []) (B := fun (_ : Unit) H => gW D A ad (Wd G ad N C (s_X5_no (tset M 0 0 0) 1) o) H) (mc := 0) (ms := 0) C0 (c_X5_no l D G A ad N C (tset M 0 0 0) o H hW 1) (cwV 1 hts gX5_most_X5_no rfl rfl rfl (by decide +kernel) ⟨Nat.le_of_ble_eq_true rfl, Nat.le_of_ble_eq_true rfl⟩) hK (va_recv hK (hW.p rfl) (ci := 6) (q0 := 0) rfl rfl) rfl hl rfl (Nat.le_of_ble_eq_true rfl) dX5_most_15 ⟨Nat.zero_le _, Nat.zero_le _⟩ hS (fun r_9 ur_9 H locs hr_9 hW hzr_9 hS => ?_)
    have hW : gW D A ad (Wd G ad N C (s_X5_no (tset M 0 0 0) 1) o) H := hW
    subst hr_9
    exact g_wret (u := ()) (post := fun r _ => r = f_X5_most n M v1) (B := fun _ H => gW D A ad (Wd G ad N C (s_X5_most n M v1) o) H) hx hb hr hlk hh hS (show (f_X5_no (tset M 0 0 0) 1) = f_X5_most n M v1 from by rw [f_X5_most, if_pos c_10_1]) (show gW D A ad (Wd G ad N C (s_X5_most n M v1) o) H from by rw [s_X5_most, if_pos c_10_1]; exact hW) dX5_most_18
def L_X5_sleeps (M : gT) (g : Nat) (j : Nat) (acc : Int32) : Int32 × Option Int32 := (if ((f_X5_later (acc - acc / 100 * 100) (acc / 100)) / 100) = (M 11 g) then ((f_X5_later (acc - acc / 100 * 100) (acc / 100)), none) else (acc, some (nI (j + 1))))
def f_X5_sleeps (n : gN) (M : gT) (v1 : Int32) : Int32 := (if (f_X5_isGuard (tset M 0 0 0) v1) = 0 then (f_X5_no (tset M 0 0 0) 1) else (gEx (L_X5_sleeps M v1.toNatClampNeg) 100 0 ((100 * (M 11 v1.toNatClampNeg)) + (M 12 v1.toNatClampNeg))))
def s_X5_sleeps (n : gN) (M : gT) (v1 : Int32) : gT := (if (f_X5_isGuard (tset M 0 0 0) v1) = 0 then (s_X5_no (tset M 0 0 0) 1) else (tset M 0 0 0))
set_option maxHeartbeats 4000000 in
set_option maxRecDepth 100000 in
theorem c_X5_sleeps (l : Launch) (D : va_G) (G : gG) (A : Nat → Prop) (ad : gAd) (N : gN) (C M : gT) (o : Nat → Int64) (Hp : Heap) (hW : gW D A ad (Wd G ad N C M o) Hp) (n : gN) (hI : IM n M) (v1 : Int32) : Met l yX5_sleeps wsX5_sleeps ({ frames := 2, cells := 0, slots := 0, locals := 43 }) (va_Pc [.ref (ad 0 1), .int v1] (gQ D (gTs G) Hp)) (va_Qi (fun r (_ : Unit) => r = f_X5_sleeps n M v1) (fun _ t => gW D A ad (Wd G ad N C (s_X5_sleeps n M v1) o) t.heap) A) 0 0 A := by
  refine g_start (cc := cX5_sleeps) (maxL := 4) (ret := (some .int)) (by decide) rfl (Nat.le_of_ble_eq_true rfl) (fun p e s m below meth c ls C0 hr hlk hnm hh hK hl => ?_)
  obtain ⟨hx, hb, hml, hown, hts⟩ := id C0
  have hown : s.vm.findClass RX5 = some m.cls := hown
  have hS : va_S A Hp Hp [] := va_S.rf
  have hl : lv_has ls 4 [(0, .ref (ad 0 1)), (1, .int v1)] := hl
  have inX5 : ∀ w ∈ wsX50, w ∈ wsX5_sleeps := by decide +kernel
  obtain ⟨⟨hb0, hn0⟩, ⟨hb1, hn1⟩, ⟨hb2, hn2⟩, ⟨hb3, hn3⟩, hpl, hhe⟩ := id hI
  have hI0 := IM_t0 (v := 0) hI
  refine lv_aload_n hx hb dX5_sleeps_0 rfl (lv_at hl 0 rfl) ?_
  refine lv_iconst (v := 0) hx hb dX5_sleeps_1 (by decide) ?_
  refine g_put (D := D) (ci := 6) (v := .int 0) (ty := .int) (C := RX5) (T := TX5) (N := 23) (ct' := (Wd G ad N C (tset M 0 0 0) o)) hx hb hts inX5 tyX5 tyX5_ok nmX5 hown hK hW hS (show Wd G ad N C M o 0 1 = some (eMod ad M) from rfl) rfl 0 (by decide) (hts (.fieldLink RX5 59 "StoryTollModel" "thrown" "I") (List.mem_of_getElem? (i := 1) rfl)) (fun _ h9 => h9) rfl (by decide +kernel) rfl rfl (Nat.le_of_ble_eq_true rfl) dX5_sleeps_2 Wd_m0 (Wd_tM rfl) (fun H locs hW hS => ?_)
  refine lv_aload_n hx hb dX5_sleeps_5 rfl (lv_at hl 0 rfl) ?_
  refine lv_iload_n hx hb dX5_sleeps_6 rfl (lv_at hl 1 rfl) ?_
  refine g_Vi (As := [.int v1]) (rest := []) C0 (c_X5_isGuard l D G A ad N C (tset M 0 0 0) o H hW v1) (cwV 1 hts gX5_sleeps_X5_isGuard rfl rfl rfl (by decide +kernel) ⟨Nat.le_of_ble_eq_true rfl, Nat.le_of_ble_eq_true rfl⟩) hK (va_recv hK (hW.p rfl) (ci := 6) (q0 := 0) rfl rfl) rfl hl rfl (Nat.le_of_ble_eq_true rfl) dX5_sleeps_7 ⟨Nat.zero_le _, Nat.zero_le _⟩ hS (fun r_1 locs hr_1 hS => ?_)
  subst hr_1
  refine lv_if_ne (tgt := 19) hx hb dX5_sleeps_10 (by decide) (fun c_10_1 => ?_) (fun c_10_1 => ?_)
  · have hv1 := is_idx hb1 (by omega) c_10_1
    refine lv_bipush (v := 100) hx hb dX5_sleeps_19 (by decide) ?_
    refine lv_aload_n hx hb dX5_sleeps_21 rfl (lv_at hl 0 rfl) ?_
    refine va_get (D := D) (ci := 6) (v := .ref (ad 9 11)) (C := RX5) (T := TX5) (N := 23) hx hb hts inX5 hown hK (hW.p (e := (eMod ad (tset M 0 0 0))) rfl) 0 rfl rfl 11 (by decide) (hts (.fieldLink RX5 29 "StoryTollModel" "asleep" "[I") (List.mem_of_getElem? (i := 2) rfl)) (fun _ h9 => h9) rfl dX5_sleeps_22 ?_
    refine lv_iload_n hx hb dX5_sleeps_25 rfl (lv_at hl 1 rfl) ?_
    refine g_ild hx hb hK hW 0 (n := 4) (f := ((tset M 0 0 0) 11)) rfl rfl (k := v1.toNatClampNeg) hv1.1 (by omega) (by decide) dX5_sleeps_26 ?_
    rw [show ((tset M 0 0 0) 11 v1.toNatClampNeg) = (M 11 v1.toNatClampNeg) from by rw [tset_of (by decide)]]
    refine lv_imul hx hb dX5_sleeps_27 ?_
    refine lv_aload_n hx hb dX5_sleeps_28 rfl (lv_at hl 0 rfl) ?_
    refine va_get (D := D) (ci := 6) (v := .ref (ad 9 12)) (C := RX5) (T := TX5) (N := 23) hx hb hts inX5 hown hK (hW.p (e := (eMod ad (tset M 0 0 0))) rfl) 0 rfl rfl 12 (by decide) (hts (.fieldLink RX5 32 "StoryTollModel" "patience" "[I") (List.mem_of_getElem? (i := 3) rfl)) (fun _ h9 => h9) rfl dX5_sleeps_29 ?_
    refine lv_iload_n hx hb dX5_sleeps_32 rfl (lv_at hl 1 rfl) ?_
    refine g_ild hx hb hK hW 0 (n := 4) (f := ((tset M 0 0 0) 12)) rfl rfl (k := v1.toNatClampNeg) hv1.1 (by omega) (by decide) dX5_sleeps_33 ?_
    rw [show ((tset M 0 0 0) 12 v1.toNatClampNeg) = (M 12 v1.toNatClampNeg) from by rw [tset_of (by decide)]]
    refine lv_iadd hx hb dX5_sleeps_34 ?_
    refine lv_istore_n (lv' := [(2, .int ((100 * (M 11 v1.toNatClampNeg)) + (M 12 v1.toNatClampNeg))), (0, .ref (ad 0 1)), (1, .int v1)]) hx hb dX5_sleeps_35 rfl hl (by decide) rfl (fun ls hl => ?_)
    refine lv_iconst (v := 1) hx hb dX5_sleeps_36 (by decide) ?_
    refine lv_istore_n (lv' := [(3, .int 1), (2, .int ((100 * (M 11 v1.toNatClampNeg)) + (M 12 v1.toNatClampNeg))), (0, .ref (ad 0 1)), (1, .int v1)]) hx hb dX5_sleeps_37 rfl hl (by decide) rfl (fun ls hl => ?_)
    refine g_loop 100 (fun j ls => ∃ a : Int32, lv_has ls 4 [(3, .int (nI (j + 1))), (2, .int a), (0, .ref (ad 0 1)), (1, .int v1)] ∧ gEx (L_X5_sleeps M v1.toNatClampNeg) 100 0 ((100 * (M 11 v1.toNatClampNeg)) + (M 12 v1.toNatClampNeg)) = gEx (L_X5_sleeps M v1.toNatClampNeg) (100 - j) j a) ⟨_, lv_sub hl [0, 1, 2, 3] rfl, rfl⟩ hS (fun ls locs hlE hS => ?_) (fun j ls locs hj hlE hS ih => ?_)
    · obtain ⟨a, hl, hE⟩ : ∃ a : Int32, lv_has ls 4 [(3, .int (nI (100 + 1))), (2, .int a), (0, .ref (ad 0 1)), (1, .int v1)] ∧ gEx (L_X5_sleeps M v1.toNatClampNeg) 100 0 ((100 * (M 11 v1.toNatClampNeg)) + (M 12 v1.toNatClampNeg)) = gEx (L_X5_sleeps M v1.toNatClampNeg) (100 - 100) 100 a := hlE
      refine lv_iload_n hx hb dX5_sleeps_38 rfl (lv_at hl 0 rfl) ?_
      refine lv_bipush (v := 100) hx hb dX5_sleeps_39 (by decide) ?_
      refine lv_icmp_gt (tgt := 77) hx hb dX5_sleeps_41 (by decide) (fun c_41_2 => ?_) (fun c_41_2 => ?_)
      · refine lv_iconst (v := (-1)) hx hb dX5_sleeps_77 (by decide) ?_
        exact g_wret (u := ()) (post := fun r _ => r = f_X5_sleeps n M v1) (B := fun _ H => gW D A ad (Wd G ad N C (s_X5_sleeps n M v1) o) H) hx hb hr hlk hh hS (show (-1) = f_X5_sleeps n M v1 from by rw [f_X5_sleeps, if_neg c_10_1]; exact hE.symm) (show gW D A ad (Wd G ad N C (s_X5_sleeps n M v1) o) H from by rw [s_X5_sleeps, if_neg c_10_1]; exact hW) dX5_sleeps_78
      · exact absurd (g_gtx (n := 100) rfl (by decide)) c_41_2
    · obtain ⟨a, hl, hE⟩ : ∃ a : Int32, lv_has ls 4 [(3, .int (nI (j + 1))), (2, .int a), (0, .ref (ad 0 1)), (1, .int v1)] ∧ gEx (L_X5_sleeps M v1.toNatClampNeg) 100 0 ((100 * (M 11 v1.toNatClampNeg)) + (M 12 v1.toNatClampNeg)) = gEx (L_X5_sleeps M v1.toNatClampNeg) (100 - j) j a := hlE
      refine lv_iload_n hx hb dX5_sleeps_38 rfl (lv_at hl 0 rfl) ?_
      refine lv_bipush (v := 100) hx hb dX5_sleeps_39 (by decide) ?_
      refine lv_icmp_gt (tgt := 77) hx hb dX5_sleeps_41 (by decide) (fun c_41_3 => ?_) (fun c_41_3 => ?_)
      · exact absurd c_41_3 (g_gt (n := 100) rfl hj (by decide))
      · refine lv_iload_n hx hb dX5_sleeps_44 rfl (lv_at hl 1 rfl) ?_
        refine lv_bipush (v := 100) hx hb dX5_sleeps_45 (by decide) ?_
        refine lv_irem hx hb dX5_sleeps_47 (by decide) ?_
        refine lv_iload_n hx hb dX5_sleeps_48 rfl (lv_at hl 1 rfl) ?_
        refine lv_bipush (v := 100) hx hb dX5_sleeps_49 (by decide) ?_
        refine lv_idiv hx hb dX5_sleeps_51 (by decide) ?_
        refine g_Si (As := [.int (a - a / 100 * 100), .int (a / 100)]) (rest := []) C0 (c_X5_later l D G H (a - a / 100 * 100) (a / 100)) (va_cwS 2 hts gX5_sleeps_X5_later rfl rfl rfl (by decide +kernel) ⟨Nat.le_of_ble_eq_true rfl, Nat.le_of_ble_eq_true rfl⟩) hK rfl hl rfl (Nat.le_of_ble_eq_true rfl) dX5_sleeps_52 ⟨Nat.zero_le _, Nat.zero_le _⟩ hS (fun r_5 locs hr_5 hS => ?_)
        subst hr_5
        refine lv_istore_n (lv' := [(2, .int (f_X5_later (a - a / 100 * 100) (a / 100))), (3, .int (nI (j + 1))), (0, .ref (ad 0 1)), (1, .int v1)]) hx hb dX5_sleeps_55 rfl hl (by decide) rfl (fun ls hl => ?_)
        refine lv_iload_n hx hb dX5_sleeps_56 rfl (lv_at hl 0 rfl) ?_
        refine lv_bipush (v := 100) hx hb dX5_sleeps_57 (by decide) ?_
        refine lv_idiv hx hb dX5_sleeps_59 (by decide) ?_
        refine lv_aload_n hx hb dX5_sleeps_60 rfl (lv_at hl 2 rfl) ?_
        refine va_get (D := D) (ci := 6) (v := .ref (ad 9 11)) (C := RX5) (T := TX5) (N := 23) hx hb hts inX5 hown hK (hW.p (e := (eMod ad (tset M 0 0 0))) rfl) 0 rfl rfl 11 (by decide) (hts (.fieldLink RX5 29 "StoryTollModel" "asleep" "[I") (List.mem_of_getElem? (i := 2) rfl)) (fun _ h9 => h9) rfl dX5_sleeps_61 ?_
        refine lv_iload_n hx hb dX5_sleeps_64 rfl (lv_at hl 3 rfl) ?_
        refine g_ild hx hb hK hW 0 (n := 4) (f := ((tset M 0 0 0) 11)) rfl rfl (k := v1.toNatClampNeg) hv1.1 (by omega) (by decide) dX5_sleeps_65 ?_
        rw [show ((tset M 0 0 0) 11 v1.toNatClampNeg) = (M 11 v1.toNatClampNeg) from by rw [tset_of (by decide)]]
        refine lv_icmp_eq (tgt := 71) hx hb dX5_sleeps_66 (by decide) (fun c_66_5 => ?_) (fun c_66_5 => ?_)
        · refine lv_iinc (v := (nI ((j + 1) + 1))) (lv' := [(3, .int (nI ((j + 1) + 1))), (2, .int (f_X5_later (a - a / 100 * 100) (a / 100))), (0, .ref (ad 0 1)), (1, .int v1)]) hx hb dX5_sleeps_71 hl (k := 1) rfl (nI_1 _) (by decide) rfl (fun ls hl => ?_)
          refine lv_goto (tgt := 38) hx hb dX5_sleeps_74 (by decide) ?_
          exact ih ls locs ⟨(f_X5_later (a - a / 100 * 100) (a / 100)), lv_sub hl [0, 1, 2, 3] rfl, hE.trans (gEx_b hj (by rw [L_X5_sleeps, if_pos c_66_5]))⟩ hS
        · refine lv_iload_n hx hb dX5_sleeps_69 rfl (lv_at hl 1 rfl) ?_
          exact g_wret (u := ()) (post := fun r _ => r = f_X5_sleeps n M v1) (B := fun _ H => gW D A ad (Wd G ad N C (s_X5_sleeps n M v1) o) H) hx hb hr hlk hh hS (show (nI (j + 1)) = f_X5_sleeps n M v1 from by rw [f_X5_sleeps, if_neg c_10_1]; exact (hE.trans (gEx_r (a' := a) hj (by rw [L_X5_sleeps, if_neg c_66_5]))).symm) (show gW D A ad (Wd G ad N C (s_X5_sleeps n M v1) o) H from by rw [s_X5_sleeps, if_neg c_10_1]; exact hW) dX5_sleeps_70
  · refine lv_aload_n hx hb dX5_sleeps_13 rfl (lv_at hl 0 rfl) ?_
    refine lv_iconst (v := 1) hx hb dX5_sleeps_14 (by decide) ?_
    refine g_wVi (As := [.int 1]) (rest := []) (B := fun (_ : Unit) H => gW D A ad (Wd G ad N C (s_X5_no (tset M 0 0 0) 1) o) H) (mc := 0) (ms := 0) C0 (c_X5_no l D G A ad N C (tset M 0 0 0) o H hW 1) (cwV 1 hts gX5_sleeps_X5_no rfl rfl rfl (by decide +kernel) ⟨Nat.le_of_ble_eq_true rfl, Nat.le_of_ble_eq_true rfl⟩) hK (va_recv hK (hW.p rfl) (ci := 6) (q0 := 0) rfl rfl) rfl hl rfl (Nat.le_of_ble_eq_true rfl) dX5_sleeps_15 ⟨Nat.zero_le _, Nat.zero_le _⟩ hS (fun r_7 ur_7 H locs hr_7 hW hzr_7 hS => ?_)
    have hW : gW D A ad (Wd G ad N C (s_X5_no (tset M 0 0 0) 1) o) H := hW
    subst hr_7
    exact g_wret (u := ()) (post := fun r _ => r = f_X5_sleeps n M v1) (B := fun _ H => gW D A ad (Wd G ad N C (s_X5_sleeps n M v1) o) H) hx hb hr hlk hh hS (show (f_X5_no (tset M 0 0 0) 1) = f_X5_sleeps n M v1 from by rw [f_X5_sleeps, if_pos c_10_1]) (show gW D A ad (Wd G ad N C (s_X5_sleeps n M v1) o) H from by rw [s_X5_sleeps, if_pos c_10_1]; exact hW) dX5_sleeps_18
def L_X5_mean (M : gT) (j : Nat) (acc : Int32) : Int32 := (acc + (M 7 j))
def f_X5_mean (n : gN) (M : gT) : UInt64 := (if (gIt (L_X5_mean M) 0 (n 0)) = 0 then FP.dconst0 else (FP.ddiv (FP.i2d (M 9 0)) (FP.i2d (gIt (L_X5_mean M) 0 (n 0)))))
def s_X5_mean (n : gN) (M : gT) : gT := (if (gIt (L_X5_mean M) 0 (n 0)) = 0 then (tset M 0 0 0) else (tset M 0 0 0))
set_option maxHeartbeats 4000000 in
set_option maxRecDepth 100000 in
theorem c_X5_mean (l : Launch) (D : va_G) (G : gG) (A : Nat → Prop) (ad : gAd) (N : gN) (C M : gT) (o : Nat → Int64) (Hp : Heap) (hW : gW D A ad (Wd G ad N C M o) Hp) (n : gN) (hI : IM n M) : Met l yX5_mean wsX5_mean ({ frames := 0, cells := 0, slots := 0, locals := 0 }) (va_Pc [.ref (ad 0 1)] (gQ D (gTs G) Hp)) (va_Qd (fun r (_ : Unit) => r = f_X5_mean n M) (fun _ t => gW D A ad (Wd G ad N C (s_X5_mean n M) o) t.heap) A) 0 0 A := by
  refine g_start (cc := cX5_mean) (maxL := 3) (ret := (some .double)) (by decide) rfl (Nat.le_of_ble_eq_true rfl) (fun p e s m below meth c ls C0 hr hlk hnm hh hK hl => ?_)
  obtain ⟨hx, hb, hml, hown, hts⟩ := id C0
  have hown : s.vm.findClass RX5 = some m.cls := hown
  have hS : va_S A Hp Hp [] := va_S.rf
  have hl : lv_has ls 3 [(0, .ref (ad 0 1))] := hl
  have inX5 : ∀ w ∈ wsX50, w ∈ wsX5_mean := by decide +kernel
  obtain ⟨⟨hb0, hn0⟩, ⟨hb1, hn1⟩, ⟨hb2, hn2⟩, ⟨hb3, hn3⟩, hpl, hhe⟩ := id hI
  have hI0 := IM_t0 (v := 0) hI
  refine lv_aload_n hx hb dX5_mean_0 rfl (lv_at hl 0 rfl) ?_
  refine lv_iconst (v := 0) hx hb dX5_mean_1 (by decide) ?_
  refine g_put (D := D) (ci := 6) (v := .int 0) (ty := .int) (C := RX5) (T := TX5) (N := 23) (ct' := (Wd G ad N C (tset M 0 0 0) o)) hx hb hts inX5 tyX5 tyX5_ok nmX5 hown hK hW hS (show Wd G ad N C M o 0 1 = some (eMod ad M) from rfl) rfl 0 (by decide) (hts (.fieldLink RX5 59 "StoryTollModel" "thrown" "I") (List.mem_of_getElem? (i := 1) rfl)) (fun _ h9 => h9) rfl (by decide +kernel) rfl rfl (Nat.le_of_ble_eq_true rfl) dX5_mean_2 Wd_m0 (Wd_tM rfl) (fun H locs hW hS => ?_)
  refine lv_iconst (v := 0) hx hb dX5_mean_5 (by decide) ?_
  refine lv_istore_n (lv' := [(1, .int 0), (0, .ref (ad 0 1))]) hx hb dX5_mean_6 rfl hl (by decide) rfl (fun ls hl => ?_)
  refine lv_iconst (v := 0) hx hb dX5_mean_7 (by decide) ?_
  refine lv_istore_n (lv' := [(2, .int 0), (1, .int 0), (0, .ref (ad 0 1))]) hx hb dX5_mean_8 rfl hl (by decide) rfl (fun ls hl => ?_)
  refine g_loop (n 0) (fun j ls => lv_has ls 3 [(2, .int (nI j)), (1, .int (gIt (L_X5_mean M) 0 j)), (0, .ref (ad 0 1))]) (lv_sub hl [0, 1, 2] rfl) hS (fun ls locs hl hS => ?_) (fun j ls locs hj hl hS ih => ?_)
  · have hl : lv_has ls 3 [(2, .int (nI (n 0))), (1, .int (gIt (L_X5_mean M) 0 (n 0))), (0, .ref (ad 0 1))] := hl
    refine lv_iload_n hx hb dX5_mean_9 rfl (lv_at hl 0 rfl) ?_
    refine lv_aload_n hx hb dX5_mean_10 rfl (lv_at hl 2 rfl) ?_
    refine va_get (D := D) (ci := 6) (v := .int ((tset M 0 0 0) 2 0)) (C := RX5) (T := TX5) (N := 23) hx hb hts inX5 hown hK (hW.p (e := (eMod ad (tset M 0 0 0))) rfl) 0 rfl rfl 2 (by decide) (hts (.fieldLink RX5 62 "StoryTollModel" "scenes" "I") (List.mem_of_getElem? (i := 2) rfl)) (fun _ h9 => h9) rfl dX5_mean_11 ?_
    rw [show ((tset M 0 0 0) 2 0) = (M 2 0) from by rw [tset_of (by decide)]]
    refine lv_icmp_ge (tgt := 32) hx hb dX5_mean_14 (by decide) (fun c_14_0 => ?_) (fun c_14_0 => ?_)
    · refine lv_iload_n hx hb dX5_mean_32 rfl (lv_at hl 1 rfl) ?_
      refine lv_if_ne (tgt := 40) hx hb dX5_mean_33 (by decide) (fun c_33_1 => ?_) (fun c_33_1 => ?_)
      · refine lv_aload_n hx hb dX5_mean_40 rfl (lv_at hl 2 rfl) ?_
        refine va_get (D := D) (ci := 6) (v := .int ((tset M 0 0 0) 9 0)) (C := RX5) (T := TX5) (N := 23) hx hb hts inX5 hown hK (hW.p (e := (eMod ad (tset M 0 0 0))) rfl) 0 rfl rfl 9 (by decide) (hts (.fieldLink RX5 133 "StoryTollModel" "tolls" "I") (List.mem_of_getElem? (i := 4) rfl)) (fun _ h9 => h9) rfl dX5_mean_41 ?_
        rw [show ((tset M 0 0 0) 9 0) = (M 9 0) from by rw [tset_of (by decide)]]
        refine lv_i2d hx hb dX5_mean_44 ?_
        refine lv_iload_n hx hb dX5_mean_45 rfl (lv_at hl 1 rfl) ?_
        refine lv_i2d hx hb dX5_mean_46 ?_
        refine lv_ddiv hx hb dX5_mean_47 (mean_nn c_33_1) ?_
        exact g_wdret (u := ()) (post := fun r _ => r = f_X5_mean n M) (B := fun _ H => gW D A ad (Wd G ad N C (s_X5_mean n M) o) H) hx hb hr hlk hh hS (show (FP.ddiv (FP.i2d (M 9 0)) (FP.i2d (gIt (L_X5_mean M) 0 (n 0)))) = f_X5_mean n M from by rw [f_X5_mean, if_neg c_33_1]) (show gW D A ad (Wd G ad N C (s_X5_mean n M) o) H from by rw [s_X5_mean, if_neg c_33_1]; exact hW) dX5_mean_48
      · refine lv_dconst0 hx hb dX5_mean_36 ?_
        refine lv_goto (tgt := 48) hx hb dX5_mean_37 (by decide) ?_
        exact g_wdret (u := ()) (post := fun r _ => r = f_X5_mean n M) (B := fun _ H => gW D A ad (Wd G ad N C (s_X5_mean n M) o) H) hx hb hr hlk hh hS (show FP.dconst0 = f_X5_mean n M from by rw [f_X5_mean, if_pos c_33_1]) (show gW D A ad (Wd G ad N C (s_X5_mean n M) o) H from by rw [s_X5_mean, if_pos c_33_1]; exact hW) dX5_mean_48
    · exact absurd (g_le hb0 (by omega)) c_14_0
  · have hl : lv_has ls 3 [(2, .int (nI j)), (1, .int (gIt (L_X5_mean M) 0 j)), (0, .ref (ad 0 1))] := hl
    refine lv_iload_n hx hb dX5_mean_9 rfl (lv_at hl 0 rfl) ?_
    refine lv_aload_n hx hb dX5_mean_10 rfl (lv_at hl 2 rfl) ?_
    refine va_get (D := D) (ci := 6) (v := .int ((tset M 0 0 0) 2 0)) (C := RX5) (T := TX5) (N := 23) hx hb hts inX5 hown hK (hW.p (e := (eMod ad (tset M 0 0 0))) rfl) 0 rfl rfl 2 (by decide) (hts (.fieldLink RX5 62 "StoryTollModel" "scenes" "I") (List.mem_of_getElem? (i := 2) rfl)) (fun _ h9 => h9) rfl dX5_mean_11 ?_
    rw [show ((tset M 0 0 0) 2 0) = (M 2 0) from by rw [tset_of (by decide)]]
    refine lv_icmp_ge (tgt := 32) hx hb dX5_mean_14 (by decide) (fun c_14_2 => ?_) (fun c_14_2 => ?_)
    · exact absurd c_14_2 (g_ge hb0 (by omega) hj)
    · refine lv_iload_n hx hb dX5_mean_17 rfl (lv_at hl 1 rfl) ?_
      refine lv_aload_n hx hb dX5_mean_18 rfl (lv_at hl 2 rfl) ?_
      refine va_get (D := D) (ci := 6) (v := .ref (ad 9 7)) (C := RX5) (T := TX5) (N := 23) hx hb hts inX5 hown hK (hW.p (e := (eMod ad (tset M 0 0 0))) rfl) 0 rfl rfl 7 (by decide) (hts (.fieldLink RX5 22 "StoryTollModel" "times" "[I") (List.mem_of_getElem? (i := 3) rfl)) (fun _ h9 => h9) rfl dX5_mean_19 ?_
      refine lv_iload_n hx hb dX5_mean_22 rfl (lv_at hl 0 rfl) ?_
      refine g_ild hx hb hK hW 0 (n := 24) (f := ((tset M 0 0 0) 7)) rfl rfl (k := j) rfl (by omega) (by decide) dX5_mean_23 ?_
      rw [show ((tset M 0 0 0) 7 j) = (M 7 j) from by rw [tset_of (by decide)]]
      refine lv_iadd hx hb dX5_mean_24 ?_
      refine lv_istore_n (lv' := [(1, .int ((gIt (L_X5_mean M) 0 j) + (M 7 j))), (2, .int (nI j)), (0, .ref (ad 0 1))]) hx hb dX5_mean_25 rfl hl (by decide) rfl (fun ls hl => ?_)
      refine lv_iinc (v := (nI (j + 1))) (lv' := [(2, .int (nI (j + 1))), (1, .int ((gIt (L_X5_mean M) 0 j) + (M 7 j))), (0, .ref (ad 0 1))]) hx hb dX5_mean_26 hl (k := 1) rfl (nI_1 _) (by decide) rfl (fun ls hl => ?_)
      refine lv_goto (tgt := 9) hx hb dX5_mean_29 (by decide) ?_
      have ea : ((gIt (L_X5_mean M) 0 j) + (M 7 j)) = (gIt (L_X5_mean M) 0 (j + 1)) := by rw [gIt_s, L_X5_mean]
      have hl2 : lv_has ls 3 [(2, .int (nI (j + 1))), (1, .int (gIt (L_X5_mean M) 0 (j + 1))), (0, .ref (ad 0 1))] := by rw [← ea]; exact lv_sub hl [0, 1, 2] rfl
      exact ih ls locs hl2 hS
