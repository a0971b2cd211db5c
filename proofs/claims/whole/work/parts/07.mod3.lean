/-! THE REFERENCE: what is left: watches, answers out of rows made for one call, choices, the wonder behind, checksums -/
def L_X5_watchG  (k2 : Nat) (acc : gT) : gT := (tset (tset acc 11 k2 ((f_X5_later (acc 12 k2) (acc 11 k2)) / 100)) 12 k2 ((f_X5_later (acc 12 k2) (acc 11 k2)) - (f_X5_later (acc 12 k2) (acc 11 k2)) / 100 * 100))
def L_X5_watch (n : gN) (j : Nat) (acc : gT) : gT := (gIt L_X5_watchG acc (n 1))
def f_X5_watch (n : gN) (M : gT) (v1 : Int32) : Int32 := (if (f_X5_isIn v1 1 100) = 0 then (f_X5_no (tset M 0 0 0) 1) else (f_X5_awake n (tset (gIt (L_X5_watch n) (tset M 0 0 0) v1.toNatClampNeg) 1 0 (((gIt (L_X5_watch n) (tset M 0 0 0) v1.toNatClampNeg) 1 0) + v1))))
def s_X5_watch (n : gN) (M : gT) (v1 : Int32) : gT := (if (f_X5_isIn v1 1 100) = 0 then (s_X5_no (tset M 0 0 0) 1) else (tset (gIt (L_X5_watch n) (tset M 0 0 0) v1.toNatClampNeg) 1 0 (((gIt (L_X5_watch n) (tset M 0 0 0) v1.toNatClampNeg) 1 0) + v1)))
theorem watchG_it {M : gT} (j : Nat) : gIt L_X5_watchG M j 10 0 = M 10 0 := by
  induction j with
  | zero => rfl
  | succ j ih =>
    rw [gIt_s, L_X5_watchG, tset_of (by decide), tset_of (by decide)]
    exact ih
theorem watch_it {n : gN} {M : gT} (j : Nat) : gIt (L_X5_watch n) M j 10 0 = M 10 0 := by
  induction j with
  | zero => rfl
  | succ j ih =>
    rw [gIt_s, L_X5_watch, watchG_it]
    exact ih
set_option maxHeartbeats 4000000 in
set_option maxRecDepth 100000 in
theorem c_X5_watch (l : Launch) (D : va_G) (G : gG) (A : Nat → Prop) (ad : gAd) (N : gN) (C M : gT) (o : Nat → Int64) (Hp : Heap) (hW : gW D A ad (Wd G ad N C M o) Hp) (n : gN) (hI : IM n M) (v1 : Int32) : Met l yX5_watch wsX5_watch ({ frames := 1, cells := 0, slots := 0, locals := 22 }) (va_Pc [.ref (ad 0 1), .int v1] (gQ D (gTs G) Hp)) (va_Qi (fun r (_ : Unit) => r = f_X5_watch n M v1) (fun _ t => gW D A ad (Wd G ad N C (s_X5_watch n M v1) o) t.heap) A) 0 0 A := by
  refine g_start (cc := cX5_watch) (maxL := 5) (ret := (some .int)) (by decide) rfl (Nat.le_of_ble_eq_true rfl) (fun p e s m below meth c ls C0 hr hlk hnm hh hK hl => ?_)
  obtain ⟨hx, hb, hml, hown, hts⟩ := id C0
  have hown : s.vm.findClass RX5 = some m.cls := hown
  have hS : va_S A Hp Hp [] := va_S.rf
  have hl : lv_has ls 5 [(0, .ref (ad 0 1)), (1, .int v1)] := hl
  have inX5 : ∀ w ∈ wsX50, w ∈ wsX5_watch := by decide +kernel
  obtain ⟨⟨hb0, hn0⟩, ⟨hb1, hn1⟩, ⟨hb2, hn2⟩, ⟨hb3, hn3⟩, hpl, hhe⟩ := id hI
  have hI0 := IM_t0 (v := 0) hI
  refine lv_aload_n hx hb dX5_watch_0 rfl (lv_at hl 0 rfl) ?_
  refine lv_iconst (v := 0) hx hb dX5_watch_1 (by decide) ?_
  refine g_put (D := D) (ci := 6) (v := .int 0) (ty := .int) (C := RX5) (T := TX5) (N := 23) (ct' := (Wd G ad N C (tset M 0 0 0) o)) hx hb hts inX5 tyX5 tyX5_ok nmX5 hown hK hW hS (show Wd G ad N C M o 0 1 = some (eMod ad M) from rfl) rfl 0 (by decide) (hts (.fieldLink RX5 59 "StoryTollModel" "thrown" "I") (List.mem_of_getElem? (i := 1) rfl)) (fun _ h9 => h9) rfl (by decide +kernel) rfl rfl (Nat.le_of_ble_eq_true rfl) dX5_watch_2 Wd_m0 (Wd_tM rfl) (fun H locs hW hS => ?_)
  refine lv_iload_n hx hb dX5_watch_5 rfl (lv_at hl 1 rfl) ?_
  refine lv_iconst (v := 1) hx hb dX5_watch_6 (by decide) ?_
  refine lv_bipush (v := 100) hx hb dX5_watch_7 (by decide) ?_
  refine g_Si (As := [.int v1, .int 1, .int 100]) (rest := []) C0 (c_X5_isIn l D G H v1 1 100) (va_cwS 3 hts gX5_watch_X5_isIn rfl rfl rfl (by decide +kernel) ⟨Nat.le_of_ble_eq_true rfl, Nat.le_of_ble_eq_true rfl⟩) hK rfl hl rfl (Nat.le_of_ble_eq_true rfl) dX5_watch_9 ⟨Nat.zero_le _, Nat.zero_le _⟩ hS (fun r_1 locs hr_1 hS => ?_)
  subst hr_1
  refine lv_if_ne (tgt := 21) hx hb dX5_watch_12 (by decide) (fun c_12_1 => ?_) (fun c_12_1 => ?_)
  · have hv1 := is_pos c_12_1
    have hv2 := hv1.2
    refine lv_iconst (v := 0) hx hb dX5_watch_21 (by decide) ?_
    refine lv_istore_n (lv' := [(2, .int 0), (0, .ref (ad 0 1)), (1, .int v1)]) hx hb dX5_watch_22 rfl hl (by decide) rfl (fun ls hl => ?_)
    refine g_loopH (v1.toNatClampNeg) 0 0 (fun j ls H => lv_has ls 5 [(2, .int (nI j)), (0, .ref (ad 0 1)), (1, .int v1)] ∧ gW D A ad (Wd G ad N C (gIt (L_X5_watch n) (tset M 0 0 0) j) o) H) ⟨lv_sub hl [0, 1, 2] rfl, hW⟩ hS (fun ls H locs hlW hS => ?_) (fun j ls H locs hj hlW hS ih => ?_)
    · obtain ⟨hl, hW⟩ : lv_has ls 5 [(2, .int (nI v1.toNatClampNeg)), (0, .ref (ad 0 1)), (1, .int v1)] ∧ gW D A ad (Wd G ad N C (gIt (L_X5_watch n) (tset M 0 0 0) v1.toNatClampNeg) o) H := hlW
      refine W.widen (k := 0) (n := 0) (by omega) (by omega) ?_
      have hbw : gIt (L_X5_watch n) (tset M 0 0 0) v1.toNatClampNeg 10 0 = nI (n 1) := (watch_it _).trans hb1
      refine lv_iload_n hx hb dX5_watch_23 rfl (lv_at hl 0 rfl) ?_
      refine lv_iload_n hx hb dX5_watch_24 rfl (lv_at hl 2 rfl) ?_
      refine lv_icmp_ge (tgt := 89) hx hb dX5_watch_25 (by decide) (fun c_25_2 => ?_) (fun c_25_2 => ?_)
      · refine lv_aload_n hx hb dX5_watch_89 rfl (lv_at hl 1 rfl) ?_
        refine lv_dup hx hb dX5_watch_90 rfl ?_
        refine va_get (D := D) (ci := 6) (v := .int ((gIt (L_X5_watch n) (tset M 0 0 0) v1.toNatClampNeg) 1 0)) (C := RX5) (T := TX5) (N := 23) hx hb hts inX5 hown hK (hW.p (e := (eMod ad (gIt (L_X5_watch n) (tset M 0 0 0) v1.toNatClampNeg))) rfl) 0 rfl rfl 1 (by decide) (hts (.fieldLink RX5 142 "StoryTollModel" "watch" "I") (List.mem_of_getElem? (i := 5) rfl)) (fun _ h9 => h9) rfl dX5_watch_91 ?_
        refine lv_iload_n hx hb dX5_watch_94 rfl (lv_at hl 2 rfl) ?_
        refine lv_iadd hx hb dX5_watch_95 ?_
        refine g_put (D := D) (ci := 6) (v := .int (((gIt (L_X5_watch n) (tset M 0 0 0) v1.toNatClampNeg) 1 0) + v1)) (ty := .int) (C := RX5) (T := TX5) (N := 23) (ct' := (Wd G ad N C (tset (gIt (L_X5_watch n) (tset M 0 0 0) v1.toNatClampNeg) 1 0 (((gIt (L_X5_watch n) (tset M 0 0 0) v1.toNatClampNeg) 1 0) + v1)) o)) hx hb hts inX5 tyX5 tyX5_ok nmX5 hown hK hW hS (show Wd G ad N C (gIt (L_X5_watch n) (tset M 0 0 0) v1.toNatClampNeg) o 0 1 = some (eMod ad (gIt (L_X5_watch n) (tset M 0 0 0) v1.toNatClampNeg)) from rfl) rfl 1 (by decide) (hts (.fieldLink RX5 142 "StoryTollModel" "watch" "I") (List.mem_of_getElem? (i := 5) rfl)) (fun _ h9 => h9) rfl (by decide +kernel) rfl rfl (Nat.le_of_ble_eq_true rfl) dX5_watch_96 Wd_m1 (Wd_tM rfl) (fun H locs hW hS => ?_)
        refine lv_aload_n hx hb dX5_watch_99 rfl (lv_at hl 1 rfl) ?_
        refine g_Vi (As := []) (rest := []) C0 (c_X5_awake l D G A ad N C (tset (gIt (L_X5_watch n) (tset M 0 0 0) v1.toNatClampNeg) 1 0 (((gIt (L_X5_watch n) (tset M 0 0 0) v1.toNatClampNeg) 1 0) + v1)) o H hW n (by rw [tset_of (by decide)]; exact hbw) (by omega)) (cwV 0 hts gX5_watch_X5_awake rfl rfl rfl (by decide +kernel) ⟨Nat.le_of_ble_eq_true rfl, Nat.le_of_ble_eq_true rfl⟩) hK (va_recv hK (hW.p rfl) (ci := 6) (q0 := 0) rfl rfl) rfl hl rfl (Nat.le_of_ble_eq_true rfl) dX5_watch_100 ⟨Nat.zero_le _, Nat.zero_le _⟩ hS (fun r_4 locs hr_4 hS => ?_)
        subst hr_4
        exact g_wret (u := ()) (post := fun r _ => r = f_X5_watch n M v1) (B := fun _ H => gW D A ad (Wd G ad N C (s_X5_watch n M v1) o) H) hx hb hr hlk hh hS (show (f_X5_awake n (tset (gIt (L_X5_watch n) (tset M 0 0 0) v1.toNatClampNeg) 1 0 (((gIt (L_X5_watch n) (tset M 0 0 0) v1.toNatClampNeg) 1 0) + v1))) = f_X5_watch n M v1 from by rw [f_X5_watch, if_neg c_12_1]) (show gW D A ad (Wd G ad N C (s_X5_watch n M v1) o) H from by rw [s_X5_watch, if_neg c_12_1]; exact hW) dX5_watch_103
      · exact absurd (g_le hv1.1 (by omega)) c_25_2
    · obtain ⟨hl, hW⟩ : lv_has ls 5 [(2, .int (nI j)), (0, .ref (ad 0 1)), (1, .int v1)] ∧ gW D A ad (Wd G ad N C (gIt (L_X5_watch n) (tset M 0 0 0) j) o) H := hlW
      refine W.widen (k := 0) (n := 0) (by omega) (by omega) ?_
      have hko : gIt (L_X5_watch n) (tset M 0 0 0) j 10 0 = nI (n 1) := (watch_it j).trans hb1
      refine lv_iload_n hx hb dX5_watch_23 rfl (lv_at hl 0 rfl) ?_
      refine lv_iload_n hx hb dX5_watch_24 rfl (lv_at hl 2 rfl) ?_
      refine lv_icmp_ge (tgt := 89) hx hb dX5_watch_25 (by decide) (fun c_25_4 => ?_) (fun c_25_4 => ?_)
      · exact absurd c_25_4 (g_ge hv1.1 (by omega) hj)
      · refine lv_iconst (v := 0) hx hb dX5_watch_28 (by decide) ?_
        refine lv_istore_n (lv' := [(3, .int 0), (2, .int (nI j)), (0, .ref (ad 0 1)), (1, .int v1)]) hx hb dX5_watch_29 rfl hl (by decide) rfl (fun ls hl => ?_)
        refine g_loopH (n 1) 0 0 (fun k2 ls H => lv_has ls 5 [(3, .int (nI k2)), (2, .int (nI j)), (0, .ref (ad 0 1)), (1, .int v1)] ∧ gW D A ad (Wd G ad N C (gIt L_X5_watchG (gIt (L_X5_watch n) (tset M 0 0 0) j) k2) o) H) ⟨lv_sub hl [0, 1, 2, 3] rfl, hW⟩ hS (fun ls H locs hlW hS => ?_) (fun k2 ls H locs hk2 hlW hS ih => ?_)
        · obtain ⟨hl, hW⟩ : lv_has ls 5 [(3, .int (nI (n 1))), (2, .int (nI j)), (0, .ref (ad 0 1)), (1, .int v1)] ∧ gW D A ad (Wd G ad N C (gIt L_X5_watchG (gIt (L_X5_watch n) (tset M 0 0 0) j) (n 1)) o) H := hlW
          refine W.widen (k := 0) (n := 0) (by omega) (by omega) ?_
          have hk10 : gIt L_X5_watchG (gIt (L_X5_watch n) (tset M 0 0 0) j) (n 1) 10 0 = nI (n 1) := (watchG_it (n 1)).trans hko
          refine lv_iload_n hx hb dX5_watch_30 rfl (lv_at hl 0 rfl) ?_
          refine lv_aload_n hx hb dX5_watch_31 rfl (lv_at hl 2 rfl) ?_
          refine va_get (D := D) (ci := 6) (v := .int ((gIt L_X5_watchG (gIt (L_X5_watch n) (tset M 0 0 0) j) (n 1)) 10 0)) (C := RX5) (T := TX5) (N := 23) hx hb hts inX5 hown hK (hW.p (e := (eMod ad (gIt L_X5_watchG (gIt (L_X5_watch n) (tset M 0 0 0) j) (n 1)))) rfl) 0 rfl rfl 10 (by decide) (hts (.fieldLink RX5 69 "StoryTollModel" "guards" "I") (List.mem_of_getElem? (i := 2) rfl)) (fun _ h9 => h9) rfl dX5_watch_32 ?_
          refine lv_icmp_ge (tgt := 83) hx hb dX5_watch_35 (by decide) (fun c_35_5 => ?_) (fun c_35_5 => ?_)
          · refine lv_iinc (v := (nI (j + 1))) (lv' := [(2, .int (nI (j + 1))), (3, .int (nI (n 1))), (0, .ref (ad 0 1)), (1, .int v1)]) hx hb dX5_watch_83 hl (k := 1) rfl (nI_1 _) (by decide) rfl (fun ls hl => ?_)
            refine lv_goto (tgt := 23) hx hb dX5_watch_86 (by decide) ?_
            have ea : (gIt L_X5_watchG (gIt (L_X5_watch n) (tset M 0 0 0) j) (n 1)) = (gIt (L_X5_watch n) (tset M 0 0 0) (j + 1)) := by rw [gIt_s, L_X5_watch]
            have hl2 : lv_has ls 5 [(2, .int (nI (j + 1))), (0, .ref (ad 0 1)), (1, .int v1)] ∧ gW D A ad (Wd G ad N C (gIt (L_X5_watch n) (tset M 0 0 0) (j + 1)) o) H := by rw [← ea]; exact ⟨lv_sub hl [0, 2, 3] rfl, hW⟩
            refine W.widen (k := 0 + (j + 1) * 0) (n := 0 + (j + 1) * 0) (by omega) (by omega) ?_
            exact ih ls H locs hl2 hS
          · exact absurd (g_le hk10 (by omega)) c_35_5
        · obtain ⟨hl, hW⟩ : lv_has ls 5 [(3, .int (nI k2)), (2, .int (nI j)), (0, .ref (ad 0 1)), (1, .int v1)] ∧ gW D A ad (Wd G ad N C (gIt L_X5_watchG (gIt (L_X5_watch n) (tset M 0 0 0) j) k2) o) H := hlW
          refine W.widen (k := 0) (n := 0) (by omega) (by omega) ?_
          have hk10 : gIt L_X5_watchG (gIt (L_X5_watch n) (tset M 0 0 0) j) k2 10 0 = nI (n 1) := (watchG_it k2).trans hko
          refine lv_iload_n hx hb dX5_watch_30 rfl (lv_at hl 0 rfl) ?_
          refine lv_aload_n hx hb dX5_watch_31 rfl (lv_at hl 2 rfl) ?_
          refine va_get (D := D) (ci := 6) (v := .int ((gIt L_X5_watchG (gIt (L_X5_watch n) (tset M 0 0 0) j) k2) 10 0)) (C := RX5) (T := TX5) (N := 23) hx hb hts inX5 hown hK (hW.p (e := (eMod ad (gIt L_X5_watchG (gIt (L_X5_watch n) (tset M 0 0 0) j) k2))) rfl) 0 rfl rfl 10 (by decide) (hts (.fieldLink RX5 69 "StoryTollModel" "guards" "I") (List.mem_of_getElem? (i := 2) rfl)) (fun _ h9 => h9) rfl dX5_watch_32 ?_
          refine lv_icmp_ge (tgt := 83) hx hb dX5_watch_35 (by decide) (fun c_35_6 => ?_) (fun c_35_6 => ?_)
          · exact absurd c_35_6 (g_ge hk10 (by omega) hk2)
          · refine lv_aload_n hx hb dX5_watch_38 rfl (lv_at hl 2 rfl) ?_
            refine va_get (D := D) (ci := 6) (v := .ref (ad 9 12)) (C := RX5) (T := TX5) (N := 23) hx hb hts inX5 hown hK (hW.p (e := (eMod ad (gIt L_X5_watchG (gIt (L_X5_watch n) (tset M 0 0 0) j) k2))) rfl) 0 rfl rfl 12 (by decide) (hts (.fieldLink RX5 32 "StoryTollModel" "patience" "[I") (List.mem_of_getElem? (i := 3) rfl)) (fun _ h9 => h9) rfl dX5_watch_39 ?_
            refine lv_iload_n hx hb dX5_watch_42 rfl (lv_at hl 0 rfl) ?_
            refine g_ild hx hb hK hW 0 (n := 4) (f := ((gIt L_X5_watchG (gIt (L_X5_watch n) (tset M 0 0 0) j) k2) 12)) rfl rfl (k := k2) rfl (by omega) (by decide) dX5_watch_43 ?_
            refine lv_aload_n hx hb dX5_watch_44 rfl (lv_at hl 2 rfl) ?_
            refine va_get (D := D) (ci := 6) (v := .ref (ad 9 11)) (C := RX5) (T := TX5) (N := 23) hx hb hts inX5 hown hK (hW.p (e := (eMod ad (gIt L_X5_watchG (gIt (L_X5_watch n) (tset M 0 0 0) j) k2))) rfl) 0 rfl rfl 11 (by decide) (hts (.fieldLink RX5 29 "StoryTollModel" "asleep" "[I") (List.mem_of_getElem? (i := 4) rfl)) (fun _ h9 => h9) rfl dX5_watch_45 ?_
            refine lv_iload_n hx hb dX5_watch_48 rfl (lv_at hl 0 rfl) ?_
            refine g_ild hx hb hK hW 0 (n := 4) (f := ((gIt L_X5_watchG (gIt (L_X5_watch n) (tset M 0 0 0) j) k2) 11)) rfl rfl (k := k2) rfl (by omega) (by decide) dX5_watch_49 ?_
            refine g_Si (As := [.int ((gIt L_X5_watchG (gIt (L_X5_watch n) (tset M 0 0 0) j) k2) 12 k2), .int ((gIt L_X5_watchG (gIt (L_X5_watch n) (tset M 0 0 0) j) k2) 11 k2)]) (rest := []) C0 (c_X5_later l D G H ((gIt L_X5_watchG (gIt (L_X5_watch n) (tset M 0 0 0) j) k2) 12 k2) ((gIt L_X5_watchG (gIt (L_X5_watch n) (tset M 0 0 0) j) k2) 11 k2)) (va_cwS 2 hts gX5_watch_X5_later rfl rfl rfl (by decide +kernel) ⟨Nat.le_of_ble_eq_true rfl, Nat.le_of_ble_eq_true rfl⟩) hK rfl hl rfl (Nat.le_of_ble_eq_true rfl) dX5_watch_50 ⟨Nat.zero_le _, Nat.zero_le _⟩ hS (fun r_8 locs hr_8 hS => ?_)
            subst hr_8
            refine lv_istore (lv' := [(4, .int (f_X5_later ((gIt L_X5_watchG (gIt (L_X5_watch n) (tset M 0 0 0) j) k2) 12 k2) ((gIt L_X5_watchG (gIt (L_X5_watch n) (tset M 0 0 0) j) k2) 11 k2))), (3, .int (nI k2)), (2, .int (nI j)), (0, .ref (ad 0 1)), (1, .int v1)]) hx hb dX5_watch_53 hl (by decide) rfl (fun ls hl => ?_)
            refine lv_aload_n hx hb dX5_watch_55 rfl (lv_at hl 3 rfl) ?_
            refine va_get (D := D) (ci := 6) (v := .ref (ad 9 11)) (C := RX5) (T := TX5) (N := 23) hx hb hts inX5 hown hK (hW.p (e := (eMod ad (gIt L_X5_watchG (gIt (L_X5_watch n) (tset M 0 0 0) j) k2))) rfl) 0 rfl rfl 11 (by decide) (hts (.fieldLink RX5 29 "StoryTollModel" "asleep" "[I") (List.mem_of_getElem? (i := 4) rfl)) (fun _ h9 => h9) rfl dX5_watch_56 ?_
            refine lv_iload_n hx hb dX5_watch_59 rfl (lv_at hl 1 rfl) ?_
            refine lv_iload hx hb dX5_watch_60 (lv_at hl 0 rfl) ?_
            refine lv_bipush (v := 100) hx hb dX5_watch_62 (by decide) ?_
            refine lv_idiv hx hb dX5_watch_64 (by decide) ?_
            refine g_istN (ct' := (Wd G ad N C (tset (gIt L_X5_watchG (gIt (L_X5_watch n) (tset M 0 0 0) j) k2) 11 k2 ((f_X5_later ((gIt L_X5_watchG (gIt (L_X5_watch n) (tset M 0 0 0) j) k2) 12 k2) ((gIt L_X5_watchG (gIt (L_X5_watch n) (tset M 0 0 0) j) k2) 11 k2)) / 100)) o)) hx hb hK hW hS 0 (n := 4) (f := ((gIt L_X5_watchG (gIt (L_X5_watch n) (tset M 0 0 0) j) k2) 11)) rfl rfl (k := k2) rfl (by omega) (by decide) dX5_watch_65 (Wd_An (by decide)) (Wd_tA (by decide)) (fun H locs hW hS => ?_)
            refine lv_aload_n hx hb dX5_watch_66 rfl (lv_at hl 3 rfl) ?_
            refine va_get (D := D) (ci := 6) (v := .ref (ad 9 12)) (C := RX5) (T := TX5) (N := 23) hx hb hts inX5 hown hK (hW.p (e := (eMod ad (tset (gIt L_X5_watchG (gIt (L_X5_watch n) (tset M 0 0 0) j) k2) 11 k2 ((f_X5_later ((gIt L_X5_watchG (gIt (L_X5_watch n) (tset M 0 0 0) j) k2) 12 k2) ((gIt L_X5_watchG (gIt (L_X5_watch n) (tset M 0 0 0) j) k2) 11 k2)) / 100)))) rfl) 0 rfl rfl 12 (by decide) (hts (.fieldLink RX5 32 "StoryTollModel" "patience" "[I") (List.mem_of_getElem? (i := 3) rfl)) (fun _ h9 => h9) rfl dX5_watch_67 ?_
            refine lv_iload_n hx hb dX5_watch_70 rfl (lv_at hl 1 rfl) ?_
            refine lv_iload hx hb dX5_watch_71 (lv_at hl 0 rfl) ?_
            refine lv_bipush (v := 100) hx hb dX5_watch_73 (by decide) ?_
            refine lv_irem hx hb dX5_watch_75 (by decide) ?_
            refine g_istN (ct' := (Wd G ad N C (tset (tset (gIt L_X5_watchG (gIt (L_X5_watch n) (tset M 0 0 0) j) k2) 11 k2 ((f_X5_later ((gIt L_X5_watchG (gIt (L_X5_watch n) (tset M 0 0 0) j) k2) 12 k2) ((gIt L_X5_watchG (gIt (L_X5_watch n) (tset M 0 0 0) j) k2) 11 k2)) / 100)) 12 k2 ((f_X5_later ((gIt L_X5_watchG (gIt (L_X5_watch n) (tset M 0 0 0) j) k2) 12 k2) ((gIt L_X5_watchG (gIt (L_X5_watch n) (tset M 0 0 0) j) k2) 11 k2)) - (f_X5_later ((gIt L_X5_watchG (gIt (L_X5_watch n) (tset M 0 0 0) j) k2) 12 k2) ((gIt L_X5_watchG (gIt (L_X5_watch n) (tset M 0 0 0) j) k2) 11 k2)) / 100 * 100)) o)) hx hb hK hW hS 0 (n := 4) (f := ((tset (gIt L_X5_watchG (gIt (L_X5_watch n) (tset M 0 0 0) j) k2) 11 k2 ((f_X5_later ((gIt L_X5_watchG (gIt (L_X5_watch n) (tset M 0 0 0) j) k2) 12 k2) ((gIt L_X5_watchG (gIt (L_X5_watch n) (tset M 0 0 0) j) k2) 11 k2)) / 100)) 12)) rfl rfl (k := k2) rfl (by omega) (by decide) dX5_watch_76 (Wd_An (by decide)) (Wd_tA (by decide)) (fun H locs hW hS => ?_)
            refine lv_iinc (v := (nI (k2 + 1))) (lv' := [(3, .int (nI (k2 + 1))), (4, .int (f_X5_later ((gIt L_X5_watchG (gIt (L_X5_watch n) (tset M 0 0 0) j) k2) 12 k2) ((gIt L_X5_watchG (gIt (L_X5_watch n) (tset M 0 0 0) j) k2) 11 k2))), (2, .int (nI j)), (0, .ref (ad 0 1)), (1, .int v1)]) hx hb dX5_watch_77 hl (k := 1) rfl (nI_1 _) (by decide) rfl (fun ls hl => ?_)
            refine lv_goto (tgt := 30) hx hb dX5_watch_80 (by decide) ?_
            have ea : (tset (tset (gIt L_X5_watchG (gIt (L_X5_watch n) (tset M 0 0 0) j) k2) 11 k2 ((f_X5_later ((gIt L_X5_watchG (gIt (L_X5_watch n) (tset M 0 0 0) j) k2) 12 k2) ((gIt L_X5_watchG (gIt (L_X5_watch n) (tset M 0 0 0) j) k2) 11 k2)) / 100)) 12 k2 ((f_X5_later ((gIt L_X5_watchG (gIt (L_X5_watch n) (tset M 0 0 0) j) k2) 12 k2) ((gIt L_X5_watchG (gIt (L_X5_watch n) (tset M 0 0 0) j) k2) 11 k2)) - (f_X5_later ((gIt L_X5_watchG (gIt (L_X5_watch n) (tset M 0 0 0) j) k2) 12 k2) ((gIt L_X5_watchG (gIt (L_X5_watch n) (tset M 0 0 0) j) k2) 11 k2)) / 100 * 100)) = (gIt L_X5_watchG (gIt (L_X5_watch n) (tset M 0 0 0) j) (k2 + 1)) := by rw [gIt_s, L_X5_watchG]
            have hl2 : lv_has ls 5 [(3, .int (nI (k2 + 1))), (2, .int (nI j)), (0, .ref (ad 0 1)), (1, .int v1)] ∧ gW D A ad (Wd G ad N C (gIt L_X5_watchG (gIt (L_X5_watch n) (tset M 0 0 0) j) (k2 + 1)) o) H := by rw [← ea]; exact ⟨lv_sub hl [0, 2, 3, 4] rfl, hW⟩
            refine W.widen (k := 0 + (k2 + 1) * 0) (n := 0 + (k2 + 1) * 0) (by omega) (by omega) ?_
            exact ih ls H locs hl2 hS
  · refine lv_aload_n hx hb dX5_watch_15 rfl (lv_at hl 0 rfl) ?_
    refine lv_iconst (v := 1) hx hb dX5_watch_16 (by decide) ?_
    refine g_wVi (As := [.int 1]) (rest := []) (B := fun (_ : Unit) H => gW D A ad (Wd G ad N C (s_X5_no (tset M 0 0 0) 1) o) H) (mc := 0) (ms := 0) C0 (c_X5_no l D G A ad N C (tset M 0 0 0) o H hW 1) (cwV 1 hts gX5_watch_X5_no rfl rfl rfl (by decide +kernel) ⟨Nat.le_of_ble_eq_true rfl, Nat.le_of_ble_eq_true rfl⟩) hK (va_recv hK (hW.p rfl) (ci := 6) (q0 := 0) rfl rfl) rfl hl rfl (Nat.le_of_ble_eq_true rfl) dX5_watch_17 ⟨Nat.zero_le _, Nat.zero_le _⟩ hS (fun r_9 ur_9 H locs hr_9 hW hzr_9 hS => ?_)
    have hW : gW D A ad (Wd G ad N C (s_X5_no (tset M 0 0 0) 1) o) H := hW
    subst hr_9
    exact g_wret (u := ()) (post := fun r _ => r = f_X5_watch n M v1) (B := fun _ H => gW D A ad (Wd G ad N C (s_X5_watch n M v1) o) H) hx hb hr hlk hh hS (show (f_X5_no (tset M 0 0 0) 1) = f_X5_watch n M v1 from by rw [f_X5_watch, if_pos c_12_1]) (show gW D A ad (Wd G ad N C (s_X5_watch n M v1) o) H from by rw [s_X5_watch, if_pos c_12_1]; exact hW) dX5_watch_20
def L_X5_tvt (M : gT) (tv : Nat) (j : Nat) (acc : Int32) : Int32 := (if (M 22 j) = (nI tv) then (acc + 1) else (acc + 0))
def f_X5_travellerTold (n : gN) (M : gT) (tv : Nat) (k : Nat) : Int32 := ((upd (upd (upd (upd (upd (fun _ => 0) 0 (M 15 tv)) 1 (M 16 tv)) 2 (M 17 tv)) 3 (M 18 tv)) 4 (gIt (L_X5_tvt M tv) 0 (n 3))) k)
def s_X5_travellerTold (n : gN) (M : gT) (tv : Nat) (k : Nat) : gT := M
set_option maxHeartbeats 4000000 in
set_option maxRecDepth 100000 in
theorem c_X5_travellerTold (l : Launch) (D : va_G) (G : gG) (A : Nat → Prop) (ad : gAd) (N : gN) (C M : gT) (o : Nat → Int64) (Hp : Heap) (hW : gW D A ad (Wd G ad N C M o) Hp) (hA : ∀ q, Hp.size ≤ q → A q) (n : gN) (hI : IM n M) (tv k : Nat) (ht : tv < n 2) (hk : k < 5) : Met l yX5_travellerTold wsX5_travellerTold ({ frames := 0, cells := 1, slots := 5, locals := 0 }) (va_Pc [.ref (ad 0 1), .int (nI tv), .int (nI k)] (gQ D (gTs G) Hp)) (va_Qi (fun r (_ : Unit) => r = f_X5_travellerTold n M tv k) (fun _ t => gW D A ad (Wd G ad N C (s_X5_travellerTold n M tv k) o) t.heap) A) 1 5 A := by
  refine g_start (cc := cX5_travellerTold) (maxL := 5) (ret := (some .int)) (by decide) rfl (Nat.le_of_ble_eq_true rfl) (fun p e s m below meth c ls C0 hr hlk hnm hh hK hl => ?_)
  obtain ⟨hx, hb, hml, hown, hts⟩ := id C0
  have hown : s.vm.findClass RX5 = some m.cls := hown
  have hS : va_S A Hp Hp [] := va_S.rf
  have hl : lv_has ls 5 [(0, .ref (ad 0 1)), (1, .int (nI tv)), (2, .int (nI k))] := hl
  have inX5 : ∀ w ∈ wsX50, w ∈ wsX5_travellerTold := by decide +kernel
  obtain ⟨⟨hb0, hn0⟩, ⟨hb1, hn1⟩, ⟨hb2, hn2⟩, ⟨hb3, hn3⟩, hpl, hhe⟩ := id hI
  refine lv_iconst (v := 0) hx hb dX5_travellerTold_0 (by decide) ?_
  refine lv_istore_n (lv' := [(3, .int 0), (0, .ref (ad 0 1)), (1, .int (nI tv)), (2, .int (nI k))]) hx hb dX5_travellerTold_1 rfl hl (by decide) rfl (fun ls hl => ?_)
  refine lv_iconst (v := 0) hx hb dX5_travellerTold_2 (by decide) ?_
  refine lv_istore (lv' := [(4, .int 0), (3, .int 0), (0, .ref (ad 0 1)), (1, .int (nI tv)), (2, .int (nI k))]) hx hb dX5_travellerTold_3 hl (by decide) rfl (fun ls hl => ?_)
  refine g_loop (n 3) (fun j ls => lv_has ls 5 [(4, .int (nI j)), (3, .int (gIt (L_X5_tvt M tv) 0 j)), (0, .ref (ad 0 1)), (1, .int (nI tv)), (2, .int (nI k))]) (lv_sub hl [0, 1, 2, 3, 4] rfl) hS (fun ls locs hl hS => ?_) (fun j ls locs hj hl hS ih => ?_)
  · have hl : lv_has ls 5 [(4, .int (nI (n 3))), (3, .int (gIt (L_X5_tvt M tv) 0 (n 3))), (0, .ref (ad 0 1)), (1, .int (nI tv)), (2, .int (nI k))] := hl
    refine lv_iload hx hb dX5_travellerTold_5 (lv_at hl 0 rfl) ?_
    refine lv_aload_n hx hb dX5_travellerTold_7 rfl (lv_at hl 2 rfl) ?_
    refine va_get (D := D) (ci := 6) (v := .int (M 19 0)) (C := RX5) (T := TX5) (N := 23) hx hb hts inX5 hown hK (hW.p (e := (eMod ad M)) rfl) 0 rfl rfl 19 (by decide) (hts (.fieldLink RX5 75 "StoryTollModel" "plots" "I") (List.mem_of_getElem? (i := 1) rfl)) (fun _ h9 => h9) rfl dX5_travellerTold_8 ?_
    refine lv_icmp_ge (tgt := 39) hx hb dX5_travellerTold_11 (by decide) (fun c_11_0 => ?_) (fun c_11_0 => ?_)
    · refine lv_iconst (v := 5) hx hb dX5_travellerTold_39 (by decide) ?_
      refine g_newa (D := D) hx hb (hts (.arrayClass .int) (List.mem_of_getElem? (i := 3) rfl)) hK hW hS hA 0 rfl (n := 5) (N' := 5) (by decide) (by decide) (by decide) (Nat.le_of_ble_eq_true rfl) (Nat.le_of_ble_eq_true rfl) dX5_travellerTold_40 0 9 (fun q_2 H hT hS hq => ?_)
      have hW := tmp_drop hT
      refine lv_dup hx hb dX5_travellerTold_42 rfl ?_
      refine lv_iconst (v := 0) hx hb dX5_travellerTold_43 (by decide) ?_
      refine lv_aload_n hx hb dX5_travellerTold_44 rfl (lv_at hl 2 rfl) ?_
      refine va_get (D := D) (ci := 6) (v := .ref (ad 9 15)) (C := RX5) (T := TX5) (N := 23) hx hb hts inX5 hown hK (hW.p (e := (eMod ad M)) rfl) 0 rfl rfl 15 (by decide) (hts (.fieldLink RX5 38 "StoryTollModel" "knows" "[I") (List.mem_of_getElem? (i := 4) rfl)) (fun _ h9 => h9) rfl dX5_travellerTold_45 ?_
      refine lv_iload_n hx hb dX5_travellerTold_48 rfl (lv_at hl 3 rfl) ?_
      refine g_ild hx hb hK hW 0 (n := 12) (f := (M 15)) rfl rfl (k := tv) rfl (by omega) (by decide) dX5_travellerTold_49 ?_
      refine g_istN (ad := adset ad 0 9 q_2) (b := 0) (i := 9) (ct' := ctset (Wd G ad N C M o) 0 9 (some (.inl (G.1, 5, .inl (upd (fun _ => 0) 0 (M 15 tv)))))) hx hb hK hT hS 0 (n := 5) (f := (fun _ => 0)) ctset_s rfl (k := 0) rfl (by decide) (by decide) dX5_travellerTold_50 ctset_s (fun b' i' h9 => (ctset_o h9).trans (ctset_o h9).symm) (fun H locs hT hS => ?_)
      have hW := tmp_drop hT
      refine lv_dup hx hb dX5_travellerTold_51 rfl ?_
      refine lv_iconst (v := 1) hx hb dX5_travellerTold_52 (by decide) ?_
      refine lv_aload_n hx hb dX5_travellerTold_53 rfl (lv_at hl 2 rfl) ?_
      refine va_get (D := D) (ci := 6) (v := .ref (ad 9 16)) (C := RX5) (T := TX5) (N := 23) hx hb hts inX5 hown hK (hW.p (e := (eMod ad M)) rfl) 0 rfl rfl 16 (by decide) (hts (.fieldLink RX5 41 "StoryTollModel" "paid" "[I") (List.mem_of_getElem? (i := 5) rfl)) (fun _ h9 => h9) rfl dX5_travellerTold_54 ?_
      refine lv_iload_n hx hb dX5_travellerTold_57 rfl (lv_at hl 3 rfl) ?_
      refine g_ild hx hb hK hW 0 (n := 12) (f := (M 16)) rfl rfl (k := tv) rfl (by omega) (by decide) dX5_travellerTold_58 ?_
      refine g_istN (ad := adset ad 0 9 q_2) (b := 0) (i := 9) (ct' := ctset (Wd G ad N C M o) 0 9 (some (.inl (G.1, 5, .inl (upd (upd (fun _ => 0) 0 (M 15 tv)) 1 (M 16 tv)))))) hx hb hK hT hS 0 (n := 5) (f := (upd (fun _ => 0) 0 (M 15 tv))) ctset_s rfl (k := 1) rfl (by decide) (by decide) dX5_travellerTold_59 ctset_s (fun b' i' h9 => (ctset_o h9).trans (ctset_o h9).symm) (fun H locs hT hS => ?_)
      have hW := tmp_drop hT
      refine lv_dup hx hb dX5_travellerTold_60 rfl ?_
      refine lv_iconst (v := 2) hx hb dX5_travellerTold_61 (by decide) ?_
      refine lv_aload_n hx hb dX5_travellerTold_62 rfl (lv_at hl 2 rfl) ?_
      refine va_get (D := D) (ci := 6) (v := .ref (ad 9 17)) (C := RX5) (T := TX5) (N := 23) hx hb hts inX5 hown hK (hW.p (e := (eMod ad M)) rfl) 0 rfl rfl 17 (by decide) (hts (.fieldLink RX5 44 "StoryTollModel" "where" "[I") (List.mem_of_getElem? (i := 6) rfl)) (fun _ h9 => h9) rfl dX5_travellerTold_63 ?_
      refine lv_iload_n hx hb dX5_travellerTold_66 rfl (lv_at hl 3 rfl) ?_
      refine g_ild hx hb hK hW 0 (n := 12) (f := (M 17)) rfl rfl (k := tv) rfl (by omega) (by decide) dX5_travellerTold_67 ?_
      refine g_istN (ad := adset ad 0 9 q_2) (b := 0) (i := 9) (ct' := ctset (Wd G ad N C M o) 0 9 (some (.inl (G.1, 5, .inl (upd (upd (upd (fun _ => 0) 0 (M 15 tv)) 1 (M 16 tv)) 2 (M 17 tv)))))) hx hb hK hT hS 0 (n := 5) (f := (upd (upd (fun _ => 0) 0 (M 15 tv)) 1 (M 16 tv))) ctset_s rfl (k := 2) rfl (by decide) (by decide) dX5_travellerTold_68 ctset_s (fun b' i' h9 => (ctset_o h9).trans (ctset_o h9).symm) (fun H locs hT hS => ?_)
      have hW := tmp_drop hT
      refine lv_dup hx hb dX5_travellerTold_69 rfl ?_
      refine lv_iconst (v := 3) hx hb dX5_travellerTold_70 (by decide) ?_
      refine lv_aload_n hx hb dX5_travellerTold_71 rfl (lv_at hl 2 rfl) ?_
      refine va_get (D := D) (ci := 6) (v := .ref (ad 9 18)) (C := RX5) (T := TX5) (N := 23) hx hb hts inX5 hown hK (hW.p (e := (eMod ad M)) rfl) 0 rfl rfl 18 (by decide) (hts (.fieldLink RX5 47 "StoryTollModel" "told" "[I") (List.mem_of_getElem? (i := 7) rfl)) (fun _ h9 => h9) rfl dX5_travellerTold_72 ?_
      refine lv_iload_n hx hb dX5_travellerTold_75 rfl (lv_at hl 3 rfl) ?_
      refine g_ild hx hb hK hW 0 (n := 12) (f := (M 18)) rfl rfl (k := tv) rfl (by omega) (by decide) dX5_travellerTold_76 ?_
      refine g_istN (ad := adset ad 0 9 q_2) (b := 0) (i := 9) (ct' := ctset (Wd G ad N C M o) 0 9 (some (.inl (G.1, 5, .inl (upd (upd (upd (upd (fun _ => 0) 0 (M 15 tv)) 1 (M 16 tv)) 2 (M 17 tv)) 3 (M 18 tv)))))) hx hb hK hT hS 0 (n := 5) (f := (upd (upd (upd (fun _ => 0) 0 (M 15 tv)) 1 (M 16 tv)) 2 (M 17 tv))) ctset_s rfl (k := 3) rfl (by decide) (by decide) dX5_travellerTold_77 ctset_s (fun b' i' h9 => (ctset_o h9).trans (ctset_o h9).symm) (fun H locs hT hS => ?_)
      have hW := tmp_drop hT
      refine lv_dup hx hb dX5_travellerTold_78 rfl ?_
      refine lv_iconst (v := 4) hx hb dX5_travellerTold_79 (by decide) ?_
      refine lv_iload_n hx hb dX5_travellerTold_80 rfl (lv_at hl 1 rfl) ?_
      refine g_istN (ad := adset ad 0 9 q_2) (b := 0) (i := 9) (ct' := ctset (Wd G ad N C M o) 0 9 (some (.inl (G.1, 5, .inl (upd (upd (upd (upd (upd (fun _ => 0) 0 (M 15 tv)) 1 (M 16 tv)) 2 (M 17 tv)) 3 (M 18 tv)) 4 (gIt (L_X5_tvt M tv) 0 (n 3))))))) hx hb hK hT hS 0 (n := 5) (f := (upd (upd (upd (upd (fun _ => 0) 0 (M 15 tv)) 1 (M 16 tv)) 2 (M 17 tv)) 3 (M 18 tv))) ctset_s rfl (k := 4) rfl (by decide) (by decide) dX5_travellerTold_81 ctset_s (fun b' i' h9 => (ctset_o h9).trans (ctset_o h9).symm) (fun H locs hT hS => ?_)
      have hW := tmp_drop hT
      refine lv_astore (lv' := [(4, .ref q_2), (3, .int (gIt (L_X5_tvt M tv) 0 (n 3))), (0, .ref (ad 0 1)), (1, .int (nI tv)), (2, .int (nI k))]) hx hb dX5_travellerTold_82 hl (by decide) rfl (fun ls hl => ?_)
      refine lv_aload hx hb dX5_travellerTold_84 (lv_at hl 0 rfl) ?_
      refine lv_iload_n hx hb dX5_travellerTold_86 rfl (lv_at hl 4 rfl) ?_
      refine g_ild (ad := adset ad 0 9 q_2) (b := 0) (i := 9) hx hb hK hT 0 (n := 5) (f := (upd (upd (upd (upd (upd (fun _ => 0) 0 (M 15 tv)) 1 (M 16 tv)) 2 (M 17 tv)) 3 (M 18 tv)) 4 (gIt (L_X5_tvt M tv) 0 (n 3)))) ctset_s rfl (k := k) rfl (by omega) (by decide) dX5_travellerTold_87 ?_
      exact g_wret (u := ()) (post := fun r _ => r = f_X5_travellerTold n M tv k) (B := fun _ H => gW D A ad (Wd G ad N C (s_X5_travellerTold n M tv k) o) H) hx hb hr hlk hh hS (show ((upd (upd (upd (upd (upd (fun _ => 0) 0 (M 15 tv)) 1 (M 16 tv)) 2 (M 17 tv)) 3 (M 18 tv)) 4 (gIt (L_X5_tvt M tv) 0 (n 3))) k) = f_X5_travellerTold n M tv k from by rw [f_X5_travellerTold]) (show gW D A ad (Wd G ad N C (s_X5_travellerTold n M tv k) o) H from by rw [s_X5_travellerTold]; exact hW) dX5_travellerTold_88
    · exact absurd (g_le hb3 (by omega)) c_11_0
  · have hl : lv_has ls 5 [(4, .int (nI j)), (3, .int (gIt (L_X5_tvt M tv) 0 j)), (0, .ref (ad 0 1)), (1, .int (nI tv)), (2, .int (nI k))] := hl
    refine lv_iload hx hb dX5_travellerTold_5 (lv_at hl 0 rfl) ?_
    refine lv_aload_n hx hb dX5_travellerTold_7 rfl (lv_at hl 2 rfl) ?_
    refine va_get (D := D) (ci := 6) (v := .int (M 19 0)) (C := RX5) (T := TX5) (N := 23) hx hb hts inX5 hown hK (hW.p (e := (eMod ad M)) rfl) 0 rfl rfl 19 (by decide) (hts (.fieldLink RX5 75 "StoryTollModel" "plots" "I") (List.mem_of_getElem? (i := 1) rfl)) (fun _ h9 => h9) rfl dX5_travellerTold_8 ?_
    refine lv_icmp_ge (tgt := 39) hx hb dX5_travellerTold_11 (by decide) (fun c_11_2 => ?_) (fun c_11_2 => ?_)
    · exact absurd c_11_2 (g_ge hb3 (by omega) hj)
    · refine lv_iload_n hx hb dX5_travellerTold_14 rfl (lv_at hl 1 rfl) ?_
      refine lv_aload_n hx hb dX5_travellerTold_15 rfl (lv_at hl 2 rfl) ?_
      refine va_get (D := D) (ci := 6) (v := .ref (ad 9 22)) (C := RX5) (T := TX5) (N := 23) hx hb hts inX5 hown hK (hW.p (e := (eMod ad M)) rfl) 0 rfl rfl 22 (by decide) (hts (.fieldLink RX5 56 "StoryTollModel" "keeper" "[I") (List.mem_of_getElem? (i := 2) rfl)) (fun _ h9 => h9) rfl dX5_travellerTold_16 ?_
      refine lv_iload hx hb dX5_travellerTold_19 (lv_at hl 0 rfl) ?_
      refine g_ild hx hb hK hW 0 (n := 8) (f := (M 22)) rfl rfl (k := j) rfl (by omega) (by decide) dX5_travellerTold_21 ?_
      refine lv_iload_n hx hb dX5_travellerTold_22 rfl (lv_at hl 3 rfl) ?_
      refine lv_icmp_ne (tgt := 30) hx hb dX5_travellerTold_23 (by decide) (fun c_23_3 => ?_) (fun c_23_3 => ?_)
      · refine lv_iconst (v := 0) hx hb dX5_travellerTold_30 (by decide) ?_
        refine lv_iadd hx hb dX5_travellerTold_31 ?_
        refine lv_istore_n (lv' := [(3, .int ((gIt (L_X5_tvt M tv) 0 j) + 0)), (4, .int (nI j)), (0, .ref (ad 0 1)), (1, .int (nI tv)), (2, .int (nI k))]) hx hb dX5_travellerTold_32 rfl hl (by decide) rfl (fun ls hl => ?_)
        refine lv_iinc (v := (nI (j + 1))) (lv' := [(4, .int (nI (j + 1))), (3, .int ((gIt (L_X5_tvt M tv) 0 j) + 0)), (0, .ref (ad 0 1)), (1, .int (nI tv)), (2, .int (nI k))]) hx hb dX5_travellerTold_33 hl (k := 1) rfl (nI_1 _) (by decide) rfl (fun ls hl => ?_)
        refine lv_goto (tgt := 5) hx hb dX5_travellerTold_36 (by decide) ?_
        have ea : ((gIt (L_X5_tvt M tv) 0 j) + 0) = (gIt (L_X5_tvt M tv) 0 (j + 1)) := by rw [gIt_s, L_X5_tvt, if_neg c_23_3]
        have hl2 : lv_has ls 5 [(4, .int (nI (j + 1))), (3, .int (gIt (L_X5_tvt M tv) 0 (j + 1))), (0, .ref (ad 0 1)), (1, .int (nI tv)), (2, .int (nI k))] := by rw [← ea]; exact lv_sub hl [0, 1, 2, 3, 4] rfl
        exact ih ls locs hl2 hS
      · refine lv_iconst (v := 1) hx hb dX5_travellerTold_26 (by decide) ?_
        refine lv_goto (tgt := 31) hx hb dX5_travellerTold_27 (by decide) ?_
        refine lv_iadd hx hb dX5_travellerTold_31 ?_
        refine lv_istore_n (lv' := [(3, .int ((gIt (L_X5_tvt M tv) 0 j) + 1)), (4, .int (nI j)), (0, .ref (ad 0 1)), (1, .int (nI tv)), (2, .int (nI k))]) hx hb dX5_travellerTold_32 rfl hl (by decide) rfl (fun ls hl => ?_)
        refine lv_iinc (v := (nI (j + 1))) (lv' := [(4, .int (nI (j + 1))), (3, .int ((gIt (L_X5_tvt M tv) 0 j) + 1)), (0, .ref (ad 0 1)), (1, .int (nI tv)), (2, .int (nI k))]) hx hb dX5_travellerTold_33 hl (k := 1) rfl (nI_1 _) (by decide) rfl (fun ls hl => ?_)
        refine lv_goto (tgt := 5) hx hb dX5_travellerTold_36 (by decide) ?_
        have ea : ((gIt (L_X5_tvt M tv) 0 j) + 1) = (gIt (L_X5_tvt M tv) 0 (j + 1)) := by rw [gIt_s, L_X5_tvt, if_pos c_23_3]
        have hl2 : lv_has ls 5 [(4, .int (nI (j + 1))), (3, .int (gIt (L_X5_tvt M tv) 0 (j + 1))), (0, .ref (ad 0 1)), (1, .int (nI tv)), (2, .int (nI k))] := by rw [← ea]; exact lv_sub hl [0, 1, 2, 3, 4] rfl
        exact ih ls locs hl2 hS
def f_X5_traveller (n : gN) (M : gT) (v1 : Int32) (v2 : Int32) : Int32 := (if (f_X5_isTraveller (tset M 0 0 0) v1) = 0 then (f_X5_no (tset M 0 0 0) 1) else (if (f_X5_isIn v2 0 4) = 0 then (f_X5_no (tset M 0 0 0) 1) else (f_X5_travellerTold n (tset M 0 0 0) v1.toNatClampNeg v2.toNatClampNeg)))
def s_X5_traveller (n : gN) (M : gT) (v1 : Int32) (v2 : Int32) : gT := (if (f_X5_isTraveller (tset M 0 0 0) v1) = 0 then (s_X5_no (tset M 0 0 0) 1) else (if (f_X5_isIn v2 0 4) = 0 then (s_X5_no (tset M 0 0 0) 1) else (s_X5_travellerTold n (tset M 0 0 0) v1.toNatClampNeg v2.toNatClampNeg)))
set_option maxHeartbeats 4000000 in
set_option maxRecDepth 100000 in
theorem c_X5_traveller (l : Launch) (D : va_G) (G : gG) (A : Nat → Prop) (ad : gAd) (N : gN) (C M : gT) (o : Nat → Int64) (Hp : Heap) (hW : gW D A ad (Wd G ad N C M o) Hp) (hA : ∀ q, Hp.size ≤ q → A q) (n : gN) (hI : IM n M) (v1 v2 : Int32) : Met l yX5_traveller wsX5_traveller ({ frames := 2, cells := 1, slots := 5, locals := 43 }) (va_Pc [.ref (ad 0 1), .int v1, .int v2] (gQ D (gTs G) Hp)) (va_Qi (fun r (_ : Unit) => r = f_X5_traveller n M v1 v2) (fun _ t => gW D A ad (Wd G ad N C (s_X5_traveller n M v1 v2) o) t.heap) A) 1 5 A := by
  refine g_start (cc := cX5_traveller) (maxL := 3) (ret := (some .int)) (by decide) rfl (Nat.le_of_ble_eq_true rfl) (fun p e s m below meth c ls C0 hr hlk hnm hh hK hl => ?_)
  obtain ⟨hx, hb, hml, hown, hts⟩ := id C0
  have hown : s.vm.findClass RX5 = some m.cls := hown
  have hS : va_S A Hp Hp [] := va_S.rf
  have hl : lv_has ls 3 [(0, .ref (ad 0 1)), (1, .int v1), (2, .int v2)] := hl
  have inX5 : ∀ w ∈ wsX50, w ∈ wsX5_traveller := by decide +kernel
  obtain ⟨⟨hb0, hn0⟩, ⟨hb1, hn1⟩, ⟨hb2, hn2⟩, ⟨hb3, hn3⟩, hpl, hhe⟩ := id hI
  have hI0 := IM_t0 (v := 0) hI
  refine lv_aload_n hx hb dX5_traveller_0 rfl (lv_at hl 0 rfl) ?_
  refine lv_iconst (v := 0) hx hb dX5_traveller_1 (by decide) ?_
  refine g_put (D := D) (ci := 6) (v := .int 0) (ty := .int) (C := RX5) (T := TX5) (N := 23) (ct' := (Wd G ad N C (tset M 0 0 0) o)) hx hb hts inX5 tyX5 tyX5_ok nmX5 hown hK hW hS (show Wd G ad N C M o 0 1 = some (eMod ad M) from rfl) rfl 0 (by decide) (hts (.fieldLink RX5 59 "StoryTollModel" "thrown" "I") (List.mem_of_getElem? (i := 1) rfl)) (fun _ h9 => h9) rfl (by decide +kernel) rfl rfl (Nat.le_of_ble_eq_true rfl) dX5_traveller_2 Wd_m0 (Wd_tM rfl) (fun H locs hW hS => ?_)
  refine lv_aload_n hx hb dX5_traveller_5 rfl (lv_at hl 0 rfl) ?_
  refine lv_iload_n hx hb dX5_traveller_6 rfl (lv_at hl 1 rfl) ?_
  refine g_Vi (As := [.int v1]) (rest := []) C0 (c_X5_isTraveller l D G A ad N C (tset M 0 0 0) o H hW v1) (cwV 1 hts gX5_traveller_X5_isTraveller rfl rfl rfl (by decide +kernel) ⟨Nat.le_of_ble_eq_true rfl, Nat.le_of_ble_eq_true rfl⟩) hK (va_recv hK (hW.p rfl) (ci := 6) (q0 := 0) rfl rfl) rfl hl rfl (Nat.le_of_ble_eq_true rfl) dX5_traveller_7 ⟨Nat.zero_le _, Nat.zero_le _⟩ hS (fun r_1 locs hr_1 hS => ?_)
  subst hr_1
  refine lv_if_eq (tgt := 31) hx hb dX5_traveller_10 (by decide) (fun c_10_1 => ?_) (fun c_10_1 => ?_)
  · refine lv_aload_n hx hb dX5_traveller_31 rfl (lv_at hl 0 rfl) ?_
    refine lv_iconst (v := 1) hx hb dX5_traveller_32 (by decide) ?_
    refine g_wVi (As := [.int 1]) (rest := []) (B := fun (_ : Unit) H => gW D A ad (Wd G ad N C (s_X5_no (tset M 0 0 0) 1) o) H) (mc := 0) (ms := 0) C0 (c_X5_no l D G A ad N C (tset M 0 0 0) o H hW 1) (cwV 1 hts gX5_traveller_X5_no rfl rfl rfl (by decide +kernel) ⟨Nat.le_of_ble_eq_true rfl, Nat.le_of_ble_eq_true rfl⟩) hK (va_recv hK (hW.p rfl) (ci := 6) (q0 := 0) rfl rfl) rfl hl rfl (Nat.le_of_ble_eq_true rfl) dX5_traveller_33 ⟨Nat.zero_le _, Nat.zero_le _⟩ hS (fun r_3 ur_3 H locs hr_3 hW hzr_3 hS => ?_)
    have hW : gW D A ad (Wd G ad N C (s_X5_no (tset M 0 0 0) 1) o) H := hW
    subst hr_3
    refine W.widen (k := 1) (n := 5) (by omega) (by omega) ?_
    exact g_wret (u := ()) (post := fun r _ => r = f_X5_traveller n M v1 v2) (B := fun _ H => gW D A ad (Wd G ad N C (s_X5_traveller n M v1 v2) o) H) hx hb hr hlk hh hS (show (f_X5_no (tset M 0 0 0) 1) = f_X5_traveller n M v1 v2 from by rw [f_X5_traveller, if_pos c_10_1]) (show gW D A ad (Wd G ad N C (s_X5_traveller n M v1 v2) o) H from by rw [s_X5_traveller, if_pos c_10_1]; exact hW) dX5_traveller_36
  · have hv1 := is_idx hb2 (by omega) c_10_1
    refine lv_iload_n hx hb dX5_traveller_13 rfl (lv_at hl 2 rfl) ?_
    refine lv_iconst (v := 0) hx hb dX5_traveller_14 (by decide) ?_
    refine lv_iconst (v := 4) hx hb dX5_traveller_15 (by decide) ?_
    refine g_Si (As := [.int v2, .int 0, .int 4]) (rest := []) C0 (c_X5_isIn l D G H v2 0 4) (va_cwS 3 hts gX5_traveller_X5_isIn rfl rfl rfl (by decide +kernel) ⟨Nat.le_of_ble_eq_true rfl, Nat.le_of_ble_eq_true rfl⟩) hK rfl hl rfl (Nat.le_of_ble_eq_true rfl) dX5_traveller_16 ⟨Nat.zero_le _, Nat.zero_le _⟩ hS (fun r_4 locs hr_4 hS => ?_)
    subst hr_4
    refine lv_if_eq (tgt := 31) hx hb dX5_traveller_19 (by decide) (fun c_19_4 => ?_) (fun c_19_4 => ?_)
    · refine lv_aload_n hx hb dX5_traveller_31 rfl (lv_at hl 0 rfl) ?_
      refine lv_iconst (v := 1) hx hb dX5_traveller_32 (by decide) ?_
      refine g_wVi (As := [.int 1]) (rest := []) (B := fun (_ : Unit) H => gW D A ad (Wd G ad N C (s_X5_no (tset M 0 0 0) 1) o) H) (mc := 0) (ms := 0) C0 (c_X5_no l D G A ad N C (tset M 0 0 0) o H hW 1) (cwV 1 hts gX5_traveller_X5_no rfl rfl rfl (by decide +kernel) ⟨Nat.le_of_ble_eq_true rfl, Nat.le_of_ble_eq_true rfl⟩) hK (va_recv hK (hW.p rfl) (ci := 6) (q0 := 0) rfl rfl) rfl hl rfl (Nat.le_of_ble_eq_true rfl) dX5_traveller_33 ⟨Nat.zero_le _, Nat.zero_le _⟩ hS (fun r_6 ur_6 H locs hr_6 hW hzr_6 hS => ?_)
      have hW : gW D A ad (Wd G ad N C (s_X5_no (tset M 0 0 0) 1) o) H := hW
      subst hr_6
      refine W.widen (k := 1) (n := 5) (by omega) (by omega) ?_
      exact g_wret (u := ()) (post := fun r _ => r = f_X5_traveller n M v1 v2) (B := fun _ H => gW D A ad (Wd G ad N C (s_X5_traveller n M v1 v2) o) H) hx hb hr hlk hh hS (show (f_X5_no (tset M 0 0 0) 1) = f_X5_traveller n M v1 v2 from by rw [f_X5_traveller, if_neg c_10_1, if_pos c_19_4]) (show gW D A ad (Wd G ad N C (s_X5_traveller n M v1 v2) o) H from by rw [s_X5_traveller, if_neg c_10_1, if_pos c_19_4]; exact hW) dX5_traveller_36
    · have hv2 := is_idx2 (show (4 : Int32) = nI 4 from rfl) (by decide) c_19_4
      refine lv_aload_n hx hb dX5_traveller_22 rfl (lv_at hl 0 rfl) ?_
      refine lv_iload_n hx hb dX5_traveller_23 rfl (lv_at hl 1 rfl) ?_
      refine lv_iload_n hx hb dX5_traveller_24 rfl (lv_at hl 2 rfl) ?_
      refine g_wVi (As := [.int v1, .int v2]) (rest := []) (B := fun (_ : Unit) H => gW D A ad (Wd G ad N C (s_X5_travellerTold n (tset M 0 0 0) v1.toNatClampNeg v2.toNatClampNeg) o) H) (mc := 1) (ms := 5) C0 ((by have h9 := c_X5_travellerTold l D G A ad N C (tset M 0 0 0) o H hW (fun q h => hA q (Nat.le_trans hS.1 h)) n hI0 v1.toNatClampNeg v2.toNatClampNeg (by omega) (by omega); rw [← hv1.1, ← hv2.1] at h9; exact h9)) (cwV 2 hts gX5_traveller_X5_travellerTold rfl rfl rfl (by decide +kernel) ⟨Nat.le_of_ble_eq_true rfl, Nat.le_of_ble_eq_true rfl⟩) hK (va_recv hK (hW.p rfl) (ci := 6) (q0 := 0) rfl rfl) rfl hl rfl (Nat.le_of_ble_eq_true rfl) dX5_traveller_25 ⟨(Nat.le_of_ble_eq_true rfl), (Nat.le_of_ble_eq_true rfl)⟩ hS (fun r_7 ur_7 H locs hr_7 hW hzr_7 hS => ?_)
      have hW : gW D A ad (Wd G ad N C (s_X5_travellerTold n (tset M 0 0 0) v1.toNatClampNeg v2.toNatClampNeg) o) H := hW
      subst hr_7
      refine lv_goto (tgt := 36) hx hb dX5_traveller_28 (by decide) ?_
      exact g_wret (u := ()) (post := fun r _ => r = f_X5_traveller n M v1 v2) (B := fun _ H => gW D A ad (Wd G ad N C (s_X5_traveller n M v1 v2) o) H) hx hb hr hlk hh hS (show (f_X5_travellerTold n (tset M 0 0 0) v1.toNatClampNeg v2.toNatClampNeg) = f_X5_traveller n M v1 v2 from by rw [f_X5_traveller, if_neg c_10_1, if_neg c_19_4]) (show gW D A ad (Wd G ad N C (s_X5_traveller n M v1 v2) o) H from by rw [s_X5_traveller, if_neg c_10_1, if_neg c_19_4]; exact hW) dX5_traveller_36
def L_X5_ct2 (M : gT) (j : Nat) (acc : Int32) : Int32 := (if (f_X5_isOpen M j) = 0 then (acc + 0) else (acc + 1))
def L_X5_ct1 (M : gT) (j : Nat) (acc : Int32 × Int32) : Int32 × Int32 := (if (M 17 j) = 0 then (if (M 17 j) = 1 then ((acc.1 + 1), (acc.2 + 1)) else ((acc.1 + 1), (acc.2 + 0))) else (if (M 17 j) = 1 then ((acc.1 + 0), (acc.2 + 1)) else ((acc.1 + 0), (acc.2 + 0))))
def f_X5_counted (n : gN) (M : gT) (k : Nat) : Int32 := ((upd (upd (upd (upd (upd (upd (upd (upd (upd (upd (upd (fun _ => 0) 0 (M 1 0)) 1 (M 2 0)) 2 (f_X5_pairs n M)) 3 (M 10 0)) 4 (f_X5_awake n M)) 5 (M 14 0)) 6 (gIt (L_X5_ct1 M) (0, 0) (n 2)).1) 7 (gIt (L_X5_ct1 M) (0, 0) (n 2)).2) 8 (M 19 0)) 9 (gIt (L_X5_ct2 M) 0 (n 3))) 10 (M 9 0)) k)
def s_X5_counted (n : gN) (M : gT) (k : Nat) : gT := M
set_option maxHeartbeats 4000000 in
set_option maxRecDepth 100000 in
theorem c_X5_counted (l : Launch) (D : va_G) (G : gG) (A : Nat → Prop) (ad : gAd) (N : gN) (C M : gT) (o : Nat → Int64) (Hp : Heap) (hW : gW D A ad (Wd G ad N C M o) Hp) (hA : ∀ q, Hp.size ≤ q → A q) (n : gN) (hI : IM n M) (k : Nat) (hk : k < 11) : Met l yX5_counted wsX5_counted ({ frames := 2, cells := 1, slots := 11, locals := 42 }) (va_Pc [.ref (ad 0 1), .int (nI k)] (gQ D (gTs G) Hp)) (va_Qi (fun r (_ : Unit) => r = f_X5_counted n M k) (fun _ t => gW D A ad (Wd G ad N C (s_X5_counted n M k) o) t.heap) A) 1 11 A := by
  refine g_start (cc := cX5_counted) (maxL := 6) (ret := (some .int)) (by decide) rfl (Nat.le_of_ble_eq_true rfl) (fun p e s m below meth c ls C0 hr hlk hnm hh hK hl => ?_)
  obtain ⟨hx, hb, hml, hown, hts⟩ := id C0
  have hown : s.vm.findClass RX5 = some m.cls := hown
  have hS : va_S A Hp Hp [] := va_S.rf
  have hl : lv_has ls 6 [(0, .ref (ad 0 1)), (1, .int (nI k))] := hl
  have inX5 : ∀ w ∈ wsX50, w ∈ wsX5_counted := by decide +kernel
  obtain ⟨⟨hb0, hn0⟩, ⟨hb1, hn1⟩, ⟨hb2, hn2⟩, ⟨hb3, hn3⟩, hpl, hhe⟩ := id hI
  refine lv_iconst (v := 0) hx hb dX5_counted_0 (by decide) ?_
  refine lv_istore_n (lv' := [(2, .int 0), (0, .ref (ad 0 1)), (1, .int (nI k))]) hx hb dX5_counted_1 rfl hl (by decide) rfl (fun ls hl => ?_)
  refine lv_iconst (v := 0) hx hb dX5_counted_2 (by decide) ?_
  refine lv_istore_n (lv' := [(3, .int 0), (2, .int 0), (0, .ref (ad 0 1)), (1, .int (nI k))]) hx hb dX5_counted_3 rfl hl (by decide) rfl (fun ls hl => ?_)
  refine lv_iconst (v := 0) hx hb dX5_counted_4 (by decide) ?_
  refine lv_istore (lv' := [(4, .int 0), (3, .int 0), (2, .int 0), (0, .ref (ad 0 1)), (1, .int (nI k))]) hx hb dX5_counted_5 hl (by decide) rfl (fun ls hl => ?_)
  refine lv_iconst (v := 0) hx hb dX5_counted_7 (by decide) ?_
  refine lv_istore (lv' := [(5, .int 0), (4, .int 0), (3, .int 0), (2, .int 0), (0, .ref (ad 0 1)), (1, .int (nI k))]) hx hb dX5_counted_8 hl (by decide) rfl (fun ls hl => ?_)
  refine g_loop (n 2) (fun j ls => lv_has ls 6 [(5, .int (nI j)), (4, .int 0), (3, .int (gIt (L_X5_ct1 M) (0, 0) j).2), (2, .int (gIt (L_X5_ct1 M) (0, 0) j).1), (0, .ref (ad 0 1)), (1, .int (nI k))]) (lv_sub hl [0, 1, 2, 3, 4, 5] rfl) hS (fun ls locs hl hS => ?_) (fun j ls locs hj hl hS ih => ?_)
  · have hl : lv_has ls 6 [(5, .int (nI (n 2))), (4, .int 0), (3, .int (gIt (L_X5_ct1 M) (0, 0) (n 2)).2), (2, .int (gIt (L_X5_ct1 M) (0, 0) (n 2)).1), (0, .ref (ad 0 1)), (1, .int (nI k))] := hl
    refine lv_iload hx hb dX5_counted_10 (lv_at hl 0 rfl) ?_
    refine lv_aload_n hx hb dX5_counted_12 rfl (lv_at hl 4 rfl) ?_
    refine va_get (D := D) (ci := 6) (v := .int (M 14 0)) (C := RX5) (T := TX5) (N := 23) hx hb hts inX5 hown hK (hW.p (e := (eMod ad M)) rfl) 0 rfl rfl 14 (by decide) (hts (.fieldLink RX5 72 "StoryTollModel" "travellers" "I") (List.mem_of_getElem? (i := 1) rfl)) (fun _ h9 => h9) rfl dX5_counted_13 ?_
    refine lv_icmp_ge (tgt := 62) hx hb dX5_counted_16 (by decide) (fun c_16_0 => ?_) (fun c_16_0 => ?_)
    · refine lv_iconst (v := 0) hx hb dX5_counted_62 (by decide) ?_
      refine lv_istore (lv' := [(5, .int 0), (4, .int 0), (3, .int (gIt (L_X5_ct1 M) (0, 0) (n 2)).2), (2, .int (gIt (L_X5_ct1 M) (0, 0) (n 2)).1), (0, .ref (ad 0 1)), (1, .int (nI k))]) hx hb dX5_counted_63 hl (by decide) rfl (fun ls hl => ?_)
      refine g_loop (n 3) (fun j ls => lv_has ls 6 [(5, .int (nI j)), (4, .int (gIt (L_X5_ct2 M) 0 j)), (3, .int (gIt (L_X5_ct1 M) (0, 0) (n 2)).2), (2, .int (gIt (L_X5_ct1 M) (0, 0) (n 2)).1), (0, .ref (ad 0 1)), (1, .int (nI k))]) (lv_sub hl [0, 1, 2, 3, 4, 5] rfl) hS (fun ls locs hl hS => ?_) (fun j ls locs hj hl hS ih => ?_)
      · have hl : lv_has ls 6 [(5, .int (nI (n 3))), (4, .int (gIt (L_X5_ct2 M) 0 (n 3))), (3, .int (gIt (L_X5_ct1 M) (0, 0) (n 2)).2), (2, .int (gIt (L_X5_ct1 M) (0, 0) (n 2)).1), (0, .ref (ad 0 1)), (1, .int (nI k))] := hl
        refine lv_iload hx hb dX5_counted_65 (lv_at hl 0 rfl) ?_
        refine lv_aload_n hx hb dX5_counted_67 rfl (lv_at hl 4 rfl) ?_
        refine va_get (D := D) (ci := 6) (v := .int (M 19 0)) (C := RX5) (T := TX5) (N := 23) hx hb hts inX5 hown hK (hW.p (e := (eMod ad M)) rfl) 0 rfl rfl 19 (by decide) (hts (.fieldLink RX5 75 "StoryTollModel" "plots" "I") (List.mem_of_getElem? (i := 3) rfl)) (fun _ h9 => h9) rfl dX5_counted_68 ?_
        refine lv_icmp_ge (tgt := 99) hx hb dX5_counted_71 (by decide) (fun c_71_1 => ?_) (fun c_71_1 => ?_)
        · refine lv_bipush (v := 11) hx hb dX5_counted_99 (by decide) ?_
          refine g_newa (D := D) hx hb (hts (.arrayClass .int) (List.mem_of_getElem? (i := 4) rfl)) hK hW hS hA 0 rfl (n := 11) (N' := 11) (by decide) (by decide) (by decide) (Nat.le_of_ble_eq_true rfl) (Nat.le_of_ble_eq_true rfl) dX5_counted_101 0 9 (fun q_3 H hT hS hq => ?_)
          have hW := tmp_drop hT
          refine lv_dup hx hb dX5_counted_103 rfl ?_
          refine lv_iconst (v := 0) hx hb dX5_counted_104 (by decide) ?_
          refine lv_aload_n hx hb dX5_counted_105 rfl (lv_at hl 4 rfl) ?_
          refine va_get (D := D) (ci := 6) (v := .int (M 1 0)) (C := RX5) (T := TX5) (N := 23) hx hb hts inX5 hown hK (hW.p (e := (eMod ad M)) rfl) 0 rfl rfl 1 (by decide) (hts (.fieldLink RX5 142 "StoryTollModel" "watch" "I") (List.mem_of_getElem? (i := 5) rfl)) (fun _ h9 => h9) rfl dX5_counted_106 ?_
          refine g_istN (ad := adset ad 0 9 q_3) (b := 0) (i := 9) (ct' := ctset (Wd G ad N C M o) 0 9 (some (.inl (G.1, 11, .inl (upd (fun _ => 0) 0 (M 1 0)))))) hx hb hK hT hS 0 (n := 11) (f := (fun _ => 0)) ctset_s rfl (k := 0) rfl (by decide) (by decide) dX5_counted_109 ctset_s (fun b' i' h9 => (ctset_o h9).trans (ctset_o h9).symm) (fun H locs hT hS => ?_)
          have hW := tmp_drop hT
          refine lv_dup hx hb dX5_counted_110 rfl ?_
          refine lv_iconst (v := 1) hx hb dX5_counted_111 (by decide) ?_
          refine lv_aload_n hx hb dX5_counted_112 rfl (lv_at hl 4 rfl) ?_
          refine va_get (D := D) (ci := 6) (v := .int (M 2 0)) (C := RX5) (T := TX5) (N := 23) hx hb hts inX5 hown hK (hW.p (e := (eMod ad M)) rfl) 0 rfl rfl 2 (by decide) (hts (.fieldLink RX5 62 "StoryTollModel" "scenes" "I") (List.mem_of_getElem? (i := 6) rfl)) (fun _ h9 => h9) rfl dX5_counted_113 ?_
          refine g_istN (ad := adset ad 0 9 q_3) (b := 0) (i := 9) (ct' := ctset (Wd G ad N C M o) 0 9 (some (.inl (G.1, 11, .inl (upd (upd (fun _ => 0) 0 (M 1 0)) 1 (M 2 0)))))) hx hb hK hT hS 0 (n := 11) (f := (upd (fun _ => 0) 0 (M 1 0))) ctset_s rfl (k := 1) rfl (by decide) (by decide) dX5_counted_116 ctset_s (fun b' i' h9 => (ctset_o h9).trans (ctset_o h9).symm) (fun H locs hT hS => ?_)
          have hW := tmp_drop hT
          refine lv_dup hx hb dX5_counted_117 rfl ?_
          refine lv_iconst (v := 2) hx hb dX5_counted_118 (by decide) ?_
          refine lv_aload_n hx hb dX5_counted_119 rfl (lv_at hl 4 rfl) ?_
          refine g_Vi (As := []) (rest := [.int 2, .ref q_3, .ref q_3]) C0 (c_X5_pairs l D G A ad N C M o H hW n hb0 (by omega)) (cwV 0 hts gX5_counted_X5_pairs rfl rfl rfl (by decide +kernel) ⟨Nat.le_of_ble_eq_true rfl, Nat.le_of_ble_eq_true rfl⟩) hK (va_recv hK (hW.p rfl) (ci := 6) (q0 := 0) rfl rfl) rfl hl rfl (Nat.le_of_ble_eq_true rfl) dX5_counted_120 ⟨(Nat.le_of_ble_eq_true rfl), (Nat.le_of_ble_eq_true rfl)⟩ hS (fun r_4 locs hr_4 hS => ?_)
          subst hr_4
          refine g_istN (ad := adset ad 0 9 q_3) (b := 0) (i := 9) (ct' := ctset (Wd G ad N C M o) 0 9 (some (.inl (G.1, 11, .inl (upd (upd (upd (fun _ => 0) 0 (M 1 0)) 1 (M 2 0)) 2 (f_X5_pairs n M)))))) hx hb hK hT hS 0 (n := 11) (f := (upd (upd (fun _ => 0) 0 (M 1 0)) 1 (M 2 0))) ctset_s rfl (k := 2) rfl (by decide) (by decide) dX5_counted_123 ctset_s (fun b' i' h9 => (ctset_o h9).trans (ctset_o h9).symm) (fun H locs hT hS => ?_)
          have hW := tmp_drop hT
          refine lv_dup hx hb dX5_counted_124 rfl ?_
          refine lv_iconst (v := 3) hx hb dX5_counted_125 (by decide) ?_
          refine lv_aload_n hx hb dX5_counted_126 rfl (lv_at hl 4 rfl) ?_
          refine va_get (D := D) (ci := 6) (v := .int (M 10 0)) (C := RX5) (T := TX5) (N := 23) hx hb hts inX5 hown hK (hW.p (e := (eMod ad M)) rfl) 0 rfl rfl 10 (by decide) (hts (.fieldLink RX5 69 "StoryTollModel" "guards" "I") (List.mem_of_getElem? (i := 7) rfl)) (fun _ h9 => h9) rfl dX5_counted_127 ?_
          refine g_istN (ad := adset ad 0 9 q_3) (b := 0) (i := 9) (ct' := ctset (Wd G ad N C M o) 0 9 (some (.inl (G.1, 11, .inl (upd (upd (upd (upd (fun _ => 0) 0 (M 1 0)) 1 (M 2 0)) 2 (f_X5_pairs n M)) 3 (M 10 0)))))) hx hb hK hT hS 0 (n := 11) (f := (upd (upd (upd (fun _ => 0) 0 (M 1 0)) 1 (M 2 0)) 2 (f_X5_pairs n M))) ctset_s rfl (k := 3) rfl (by decide) (by decide) dX5_counted_130 ctset_s (fun b' i' h9 => (ctset_o h9).trans (ctset_o h9).symm) (fun H locs hT hS => ?_)
          have hW := tmp_drop hT
          refine lv_dup hx hb dX5_counted_131 rfl ?_
          refine lv_iconst (v := 4) hx hb dX5_counted_132 (by decide) ?_
          refine lv_aload_n hx hb dX5_counted_133 rfl (lv_at hl 4 rfl) ?_
          refine g_Vi (As := []) (rest := [.int 4, .ref q_3, .ref q_3]) C0 (c_X5_awake l D G A ad N C M o H hW n hb1 (by omega)) (cwV 0 hts gX5_counted_X5_awake rfl rfl rfl (by decide +kernel) ⟨Nat.le_of_ble_eq_true rfl, Nat.le_of_ble_eq_true rfl⟩) hK (va_recv hK (hW.p rfl) (ci := 6) (q0 := 0) rfl rfl) rfl hl rfl (Nat.le_of_ble_eq_true rfl) dX5_counted_134 ⟨(Nat.le_of_ble_eq_true rfl), (Nat.le_of_ble_eq_true rfl)⟩ hS (fun r_5 locs hr_5 hS => ?_)
          subst hr_5
          refine g_istN (ad := adset ad 0 9 q_3) (b := 0) (i := 9) (ct' := ctset (Wd G ad N C M o) 0 9 (some (.inl (G.1, 11, .inl (upd (upd (upd (upd (upd (fun _ => 0) 0 (M 1 0)) 1 (M 2 0)) 2 (f_X5_pairs n M)) 3 (M 10 0)) 4 (f_X5_awake n M)))))) hx hb hK hT hS 0 (n := 11) (f := (upd (upd (upd (upd (fun _ => 0) 0 (M 1 0)) 1 (M 2 0)) 2 (f_X5_pairs n M)) 3 (M 10 0))) ctset_s rfl (k := 4) rfl (by decide) (by decide) dX5_counted_137 ctset_s (fun b' i' h9 => (ctset_o h9).trans (ctset_o h9).symm) (fun H locs hT hS => ?_)
          have hW := tmp_drop hT
          refine lv_dup hx hb dX5_counted_138 rfl ?_
          refine lv_iconst (v := 5) hx hb dX5_counted_139 (by decide) ?_
          refine lv_aload_n hx hb dX5_counted_140 rfl (lv_at hl 4 rfl) ?_
          refine va_get (D := D) (ci := 6) (v := .int (M 14 0)) (C := RX5) (T := TX5) (N := 23) hx hb hts inX5 hown hK (hW.p (e := (eMod ad M)) rfl) 0 rfl rfl 14 (by decide) (hts (.fieldLink RX5 72 "StoryTollModel" "travellers" "I") (List.mem_of_getElem? (i := 1) rfl)) (fun _ h9 => h9) rfl dX5_counted_141 ?_
          refine g_istN (ad := adset ad 0 9 q_3) (b := 0) (i := 9) (ct' := ctset (Wd G ad N C M o) 0 9 (some (.inl (G.1, 11, .inl (upd (upd (upd (upd (upd (upd (fun _ => 0) 0 (M 1 0)) 1 (M 2 0)) 2 (f_X5_pairs n M)) 3 (M 10 0)) 4 (f_X5_awake n M)) 5 (M 14 0)))))) hx hb hK hT hS 0 (n := 11) (f := (upd (upd (upd (upd (upd (fun _ => 0) 0 (M 1 0)) 1 (M 2 0)) 2 (f_X5_pairs n M)) 3 (M 10 0)) 4 (f_X5_awake n M))) ctset_s rfl (k := 5) rfl (by decide) (by decide) dX5_counted_144 ctset_s (fun b' i' h9 => (ctset_o h9).trans (ctset_o h9).symm) (fun H locs hT hS => ?_)
          have hW := tmp_drop hT
          refine lv_dup hx hb dX5_counted_145 rfl ?_
          refine lv_bipush (v := 6) hx hb dX5_counted_146 (by decide) ?_
          refine lv_iload_n hx hb dX5_counted_148 rfl (lv_at hl 3 rfl) ?_
          refine g_istN (ad := adset ad 0 9 q_3) (b := 0) (i := 9) (ct' := ctset (Wd G ad N C M o) 0 9 (some (.inl (G.1, 11, .inl (upd (upd (upd (upd (upd (upd (upd (fun _ => 0) 0 (M 1 0)) 1 (M 2 0)) 2 (f_X5_pairs n M)) 3 (M 10 0)) 4 (f_X5_awake n M)) 5 (M 14 0)) 6 (gIt (L_X5_ct1 M) (0, 0) (n 2)).1))))) hx hb hK hT hS 0 (n := 11) (f := (upd (upd (upd (upd (upd (upd (fun _ => 0) 0 (M 1 0)) 1 (M 2 0)) 2 (f_X5_pairs n M)) 3 (M 10 0)) 4 (f_X5_awake n M)) 5 (M 14 0))) ctset_s rfl (k := 6) rfl (by decide) (by decide) dX5_counted_149 ctset_s (fun b' i' h9 => (ctset_o h9).trans (ctset_o h9).symm) (fun H locs hT hS => ?_)
          have hW := tmp_drop hT
          refine lv_dup hx hb dX5_counted_150 rfl ?_
          refine lv_bipush (v := 7) hx hb dX5_counted_151 (by decide) ?_
          refine lv_iload_n hx hb dX5_counted_153 rfl (lv_at hl 2 rfl) ?_
          refine g_istN (ad := adset ad 0 9 q_3) (b := 0) (i := 9) (ct' := ctset (Wd G ad N C M o) 0 9 (some (.inl (G.1, 11, .inl (upd (upd (upd (upd (upd (upd (upd (upd (fun _ => 0) 0 (M 1 0)) 1 (M 2 0)) 2 (f_X5_pairs n M)) 3 (M 10 0)) 4 (f_X5_awake n M)) 5 (M 14 0)) 6 (gIt (L_X5_ct1 M) (0, 0) (n 2)).1) 7 (gIt (L_X5_ct1 M) (0, 0) (n 2)).2))))) hx hb hK hT hS 0 (n := 11) (f := (upd (upd (upd (upd (upd (upd (upd (fun _ => 0) 0 (M 1 0)) 1 (M 2 0)) 2 (f_X5_pairs n M)) 3 (M 10 0)) 4 (f_X5_awake n M)) 5 (M 14 0)) 6 (gIt (L_X5_ct1 M) (0, 0) (n 2)).1)) ctset_s rfl (k := 7) rfl (by decide) (by decide) dX5_counted_154 ctset_s (fun b' i' h9 => (ctset_o h9).trans (ctset_o h9).symm) (fun H locs hT hS => ?_)
          have hW := tmp_drop hT
          refine lv_dup hx hb dX5_counted_155 rfl ?_
          refine lv_bipush (v := 8) hx hb dX5_counted_156 (by decide) ?_
          refine lv_aload_n hx hb dX5_counted_158 rfl (lv_at hl 4 rfl) ?_
          refine va_get (D := D) (ci := 6) (v := .int (M 19 0)) (C := RX5) (T := TX5) (N := 23) hx hb hts inX5 hown hK (hW.p (e := (eMod ad M)) rfl) 0 rfl rfl 19 (by decide) (hts (.fieldLink RX5 75 "StoryTollModel" "plots" "I") (List.mem_of_getElem? (i := 3) rfl)) (fun _ h9 => h9) rfl dX5_counted_159 ?_
          refine g_istN (ad := adset ad 0 9 q_3) (b := 0) (i := 9) (ct' := ctset (Wd G ad N C M o) 0 9 (some (.inl (G.1, 11, .inl (upd (upd (upd (upd (upd (upd (upd (upd (upd (fun _ => 0) 0 (M 1 0)) 1 (M 2 0)) 2 (f_X5_pairs n M)) 3 (M 10 0)) 4 (f_X5_awake n M)) 5 (M 14 0)) 6 (gIt (L_X5_ct1 M) (0, 0) (n 2)).1) 7 (gIt (L_X5_ct1 M) (0, 0) (n 2)).2) 8 (M 19 0)))))) hx hb hK hT hS 0 (n := 11) (f := (upd (upd (upd (upd (upd (upd (upd (upd (fun _ => 0) 0 (M 1 0)) 1 (M 2 0)) 2 (f_X5_pairs n M)) 3 (M 10 0)) 4 (f_X5_awake n M)) 5 (M 14 0)) 6 (gIt (L_X5_ct1 M) (0, 0) (n 2)).1) 7 (gIt (L_X5_ct1 M) (0, 0) (n 2)).2)) ctset_s rfl (k := 8) rfl (by decide) (by decide) dX5_counted_162 ctset_s (fun b' i' h9 => (ctset_o h9).trans (ctset_o h9).symm) (fun H locs hT hS => ?_)
          have hW := tmp_drop hT
          refine lv_dup hx hb dX5_counted_163 rfl ?_
          refine lv_bipush (v := 9) hx hb dX5_counted_164 (by decide) ?_
          refine lv_iload hx hb dX5_counted_166 (lv_at hl 1 rfl) ?_
          refine g_istN (ad := adset ad 0 9 q_3) (b := 0) (i := 9) (ct' := ctset (Wd G ad N C M o) 0 9 (some (.inl (G.1, 11, .inl (upd (upd (upd (upd (upd (upd (upd (upd (upd (upd (fun _ => 0) 0 (M 1 0)) 1 (M 2 0)) 2 (f_X5_pairs n M)) 3 (M 10 0)) 4 (f_X5_awake n M)) 5 (M 14 0)) 6 (gIt (L_X5_ct1 M) (0, 0) (n 2)).1) 7 (gIt (L_X5_ct1 M) (0, 0) (n 2)).2) 8 (M 19 0)) 9 (gIt (L_X5_ct2 M) 0 (n 3))))))) hx hb hK hT hS 0 (n := 11) (f := (upd (upd (upd (upd (upd (upd (upd (upd (upd (fun _ => 0) 0 (M 1 0)) 1 (M 2 0)) 2 (f_X5_pairs n M)) 3 (M 10 0)) 4 (f_X5_awake n M)) 5 (M 14 0)) 6 (gIt (L_X5_ct1 M) (0, 0) (n 2)).1) 7 (gIt (L_X5_ct1 M) (0, 0) (n 2)).2) 8 (M 19 0))) ctset_s rfl (k := 9) rfl (by decide) (by decide) dX5_counted_168 ctset_s (fun b' i' h9 => (ctset_o h9).trans (ctset_o h9).symm) (fun H locs hT hS => ?_)
          have hW := tmp_drop hT
          refine lv_dup hx hb dX5_counted_169 rfl ?_
          refine lv_bipush (v := 10) hx hb dX5_counted_170 (by decide) ?_
          refine lv_aload_n hx hb dX5_counted_172 rfl (lv_at hl 4 rfl) ?_
          refine va_get (D := D) (ci := 6) (v := .int (M 9 0)) (C := RX5) (T := TX5) (N := 23) hx hb hts inX5 hown hK (hW.p (e := (eMod ad M)) rfl) 0 rfl rfl 9 (by decide) (hts (.fieldLink RX5 133 "StoryTollModel" "tolls" "I") (List.mem_of_getElem? (i := 8) rfl)) (fun _ h9 => h9) rfl dX5_counted_173 ?_
          refine g_istN (ad := adset ad 0 9 q_3) (b := 0) (i := 9) (ct' := ctset (Wd G ad N C M o) 0 9 (some (.inl (G.1, 11, .inl (upd (upd (upd (upd (upd (upd (upd (upd (upd (upd (upd (fun _ => 0) 0 (M 1 0)) 1 (M 2 0)) 2 (f_X5_pairs n M)) 3 (M 10 0)) 4 (f_X5_awake n M)) 5 (M 14 0)) 6 (gIt (L_X5_ct1 M) (0, 0) (n 2)).1) 7 (gIt (L_X5_ct1 M) (0, 0) (n 2)).2) 8 (M 19 0)) 9 (gIt (L_X5_ct2 M) 0 (n 3))) 10 (M 9 0)))))) hx hb hK hT hS 0 (n := 11) (f := (upd (upd (upd (upd (upd (upd (upd (upd (upd (upd (fun _ => 0) 0 (M 1 0)) 1 (M 2 0)) 2 (f_X5_pairs n M)) 3 (M 10 0)) 4 (f_X5_awake n M)) 5 (M 14 0)) 6 (gIt (L_X5_ct1 M) (0, 0) (n 2)).1) 7 (gIt (L_X5_ct1 M) (0, 0) (n 2)).2) 8 (M 19 0)) 9 (gIt (L_X5_ct2 M) 0 (n 3)))) ctset_s rfl (k := 10) rfl (by decide) (by decide) dX5_counted_176 ctset_s (fun b' i' h9 => (ctset_o h9).trans (ctset_o h9).symm) (fun H locs hT hS => ?_)
          have hW := tmp_drop hT
          refine lv_astore (lv' := [(5, .ref q_3), (4, .int (gIt (L_X5_ct2 M) 0 (n 3))), (3, .int (gIt (L_X5_ct1 M) (0, 0) (n 2)).2), (2, .int (gIt (L_X5_ct1 M) (0, 0) (n 2)).1), (0, .ref (ad 0 1)), (1, .int (nI k))]) hx hb dX5_counted_177 hl (by decide) rfl (fun ls hl => ?_)
          refine lv_aload hx hb dX5_counted_179 (lv_at hl 0 rfl) ?_
          refine lv_iload_n hx hb dX5_counted_181 rfl (lv_at hl 5 rfl) ?_
          refine g_ild (ad := adset ad 0 9 q_3) (b := 0) (i := 9) hx hb hK hT 0 (n := 11) (f := (upd (upd (upd (upd (upd (upd (upd (upd (upd (upd (upd (fun _ => 0) 0 (M 1 0)) 1 (M 2 0)) 2 (f_X5_pairs n M)) 3 (M 10 0)) 4 (f_X5_awake n M)) 5 (M 14 0)) 6 (gIt (L_X5_ct1 M) (0, 0) (n 2)).1) 7 (gIt (L_X5_ct1 M) (0, 0) (n 2)).2) 8 (M 19 0)) 9 (gIt (L_X5_ct2 M) 0 (n 3))) 10 (M 9 0))) ctset_s rfl (k := k) rfl (by omega) (by decide) dX5_counted_182 ?_
          exact g_wret (u := ()) (post := fun r _ => r = f_X5_counted n M k) (B := fun _ H => gW D A ad (Wd G ad N C (s_X5_counted n M k) o) H) hx hb hr hlk hh hS (show ((upd (upd (upd (upd (upd (upd (upd (upd (upd (upd (upd (fun _ => 0) 0 (M 1 0)) 1 (M 2 0)) 2 (f_X5_pairs n M)) 3 (M 10 0)) 4 (f_X5_awake n M)) 5 (M 14 0)) 6 (gIt (L_X5_ct1 M) (0, 0) (n 2)).1) 7 (gIt (L_X5_ct1 M) (0, 0) (n 2)).2) 8 (M 19 0)) 9 (gIt (L_X5_ct2 M) 0 (n 3))) 10 (M 9 0)) k) = f_X5_counted n M k from by rw [f_X5_counted]) (show gW D A ad (Wd G ad N C (s_X5_counted n M k) o) H from by rw [s_X5_counted]; exact hW) dX5_counted_183
        · exact absurd (g_le hb3 (by omega)) c_71_1
      · have hl : lv_has ls 6 [(5, .int (nI j)), (4, .int (gIt (L_X5_ct2 M) 0 j)), (3, .int (gIt (L_X5_ct1 M) (0, 0) (n 2)).2), (2, .int (gIt (L_X5_ct1 M) (0, 0) (n 2)).1), (0, .ref (ad 0 1)), (1, .int (nI k))] := hl
        refine lv_iload hx hb dX5_counted_65 (lv_at hl 0 rfl) ?_
        refine lv_aload_n hx hb dX5_counted_67 rfl (lv_at hl 4 rfl) ?_
        refine va_get (D := D) (ci := 6) (v := .int (M 19 0)) (C := RX5) (T := TX5) (N := 23) hx hb hts inX5 hown hK (hW.p (e := (eMod ad M)) rfl) 0 rfl rfl 19 (by decide) (hts (.fieldLink RX5 75 "StoryTollModel" "plots" "I") (List.mem_of_getElem? (i := 3) rfl)) (fun _ h9 => h9) rfl dX5_counted_68 ?_
        refine lv_icmp_ge (tgt := 99) hx hb dX5_counted_71 (by decide) (fun c_71_5 => ?_) (fun c_71_5 => ?_)
        · exact absurd c_71_5 (g_ge hb3 (by omega) hj)
        · refine lv_iload hx hb dX5_counted_74 (lv_at hl 1 rfl) ?_
          refine lv_aload_n hx hb dX5_counted_76 rfl (lv_at hl 4 rfl) ?_
          refine lv_iload hx hb dX5_counted_77 (lv_at hl 0 rfl) ?_
          refine g_Vi (As := [.int (nI j)]) (rest := [.int (gIt (L_X5_ct2 M) 0 j)]) C0 (c_X5_isOpen l D G A ad N C M o Hp hW n hI j (by omega)) (cwV 1 hts gX5_counted_X5_isOpen rfl rfl rfl (by decide +kernel) ⟨Nat.le_of_ble_eq_true rfl, Nat.le_of_ble_eq_true rfl⟩) hK (va_recv hK (hW.p rfl) (ci := 6) (q0 := 0) rfl rfl) rfl hl rfl (Nat.le_of_ble_eq_true rfl) dX5_counted_79 ⟨Nat.zero_le _, Nat.zero_le _⟩ hS (fun r_7 locs hr_7 hS => ?_)
          subst hr_7
          refine lv_if_eq (tgt := 89) hx hb dX5_counted_82 (by decide) (fun c_82_7 => ?_) (fun c_82_7 => ?_)
          · refine lv_iconst (v := 0) hx hb dX5_counted_89 (by decide) ?_
            refine lv_iadd hx hb dX5_counted_90 ?_
            refine lv_istore (lv' := [(4, .int ((gIt (L_X5_ct2 M) 0 j) + 0)), (5, .int (nI j)), (3, .int (gIt (L_X5_ct1 M) (0, 0) (n 2)).2), (2, .int (gIt (L_X5_ct1 M) (0, 0) (n 2)).1), (0, .ref (ad 0 1)), (1, .int (nI k))]) hx hb dX5_counted_91 hl (by decide) rfl (fun ls hl => ?_)
            refine lv_iinc (v := (nI (j + 1))) (lv' := [(5, .int (nI (j + 1))), (4, .int ((gIt (L_X5_ct2 M) 0 j) + 0)), (3, .int (gIt (L_X5_ct1 M) (0, 0) (n 2)).2), (2, .int (gIt (L_X5_ct1 M) (0, 0) (n 2)).1), (0, .ref (ad 0 1)), (1, .int (nI k))]) hx hb dX5_counted_93 hl (k := 1) rfl (nI_1 _) (by decide) rfl (fun ls hl => ?_)
            refine lv_goto (tgt := 65) hx hb dX5_counted_96 (by decide) ?_
            have ea : ((gIt (L_X5_ct2 M) 0 j) + 0) = (gIt (L_X5_ct2 M) 0 (j + 1)) := by rw [gIt_s, L_X5_ct2, if_pos c_82_7]
            have hl2 : lv_has ls 6 [(5, .int (nI (j + 1))), (4, .int (gIt (L_X5_ct2 M) 0 (j + 1))), (3, .int (gIt (L_X5_ct1 M) (0, 0) (n 2)).2), (2, .int (gIt (L_X5_ct1 M) (0, 0) (n 2)).1), (0, .ref (ad 0 1)), (1, .int (nI k))] := by rw [← ea]; exact lv_sub hl [0, 1, 2, 3, 4, 5] rfl
            exact ih ls locs hl2 hS
          · refine lv_iconst (v := 1) hx hb dX5_counted_85 (by decide) ?_
            refine lv_goto (tgt := 90) hx hb dX5_counted_86 (by decide) ?_
            refine lv_iadd hx hb dX5_counted_90 ?_
            refine lv_istore (lv' := [(4, .int ((gIt (L_X5_ct2 M) 0 j) + 1)), (5, .int (nI j)), (3, .int (gIt (L_X5_ct1 M) (0, 0) (n 2)).2), (2, .int (gIt (L_X5_ct1 M) (0, 0) (n 2)).1), (0, .ref (ad 0 1)), (1, .int (nI k))]) hx hb dX5_counted_91 hl (by decide) rfl (fun ls hl => ?_)
            refine lv_iinc (v := (nI (j + 1))) (lv' := [(5, .int (nI (j + 1))), (4, .int ((gIt (L_X5_ct2 M) 0 j) + 1)), (3, .int (gIt (L_X5_ct1 M) (0, 0) (n 2)).2), (2, .int (gIt (L_X5_ct1 M) (0, 0) (n 2)).1), (0, .ref (ad 0 1)), (1, .int (nI k))]) hx hb dX5_counted_93 hl (k := 1) rfl (nI_1 _) (by decide) rfl (fun ls hl => ?_)
            refine lv_goto (tgt := 65) hx hb dX5_counted_96 (by decide) ?_
            have ea : ((gIt (L_X5_ct2 M) 0 j) + 1) = (gIt (L_X5_ct2 M) 0 (j + 1)) := by rw [gIt_s, L_X5_ct2, if_neg c_82_7]
            have hl2 : lv_has ls 6 [(5, .int (nI (j + 1))), (4, .int (gIt (L_X5_ct2 M) 0 (j + 1))), (3, .int (gIt (L_X5_ct1 M) (0, 0) (n 2)).2), (2, .int (gIt (L_X5_ct1 M) (0, 0) (n 2)).1), (0, .ref (ad 0 1)), (1, .int (nI k))] := by rw [← ea]; exact lv_sub hl [0, 1, 2, 3, 4, 5] rfl
            exact ih ls locs hl2 hS
    · exact absurd (g_le hb2 (by omega)) c_16_0
  · have hl : lv_has ls 6 [(5, .int (nI j)), (4, .int 0), (3, .int (gIt (L_X5_ct1 M) (0, 0) j).2), (2, .int (gIt (L_X5_ct1 M) (0, 0) j).1), (0, .ref (ad 0 1)), (1, .int (nI k))] := hl
    refine lv_iload hx hb dX5_counted_10 (lv_at hl 0 rfl) ?_
    refine lv_aload_n hx hb dX5_counted_12 rfl (lv_at hl 4 rfl) ?_
    refine va_get (D := D) (ci := 6) (v := .int (M 14 0)) (C := RX5) (T := TX5) (N := 23) hx hb hts inX5 hown hK (hW.p (e := (eMod ad M)) rfl) 0 rfl rfl 14 (by decide) (hts (.fieldLink RX5 72 "StoryTollModel" "travellers" "I") (List.mem_of_getElem? (i := 1) rfl)) (fun _ h9 => h9) rfl dX5_counted_13 ?_
    refine lv_icmp_ge (tgt := 62) hx hb dX5_counted_16 (by decide) (fun c_16_8 => ?_) (fun c_16_8 => ?_)
    · exact absurd c_16_8 (g_ge hb2 (by omega) hj)
    · refine lv_iload_n hx hb dX5_counted_19 rfl (lv_at hl 3 rfl) ?_
      refine lv_aload_n hx hb dX5_counted_20 rfl (lv_at hl 4 rfl) ?_
      refine va_get (D := D) (ci := 6) (v := .ref (ad 9 17)) (C := RX5) (T := TX5) (N := 23) hx hb hts inX5 hown hK (hW.p (e := (eMod ad M)) rfl) 0 rfl rfl 17 (by decide) (hts (.fieldLink RX5 44 "StoryTollModel" "where" "[I") (List.mem_of_getElem? (i := 2) rfl)) (fun _ h9 => h9) rfl dX5_counted_21 ?_
      refine lv_iload hx hb dX5_counted_24 (lv_at hl 0 rfl) ?_
      refine g_ild hx hb hK hW 0 (n := 12) (f := (M 17)) rfl rfl (k := j) rfl (by omega) (by decide) dX5_counted_26 ?_
      refine lv_if_ne (tgt := 34) hx hb dX5_counted_27 (by decide) (fun c_27_9 => ?_) (fun c_27_9 => ?_)
      · refine lv_iconst (v := 0) hx hb dX5_counted_34 (by decide) ?_
        refine lv_iadd hx hb dX5_counted_35 ?_
        refine lv_istore_n (lv' := [(2, .int ((gIt (L_X5_ct1 M) (0, 0) j).1 + 0)), (5, .int (nI j)), (4, .int 0), (3, .int (gIt (L_X5_ct1 M) (0, 0) j).2), (0, .ref (ad 0 1)), (1, .int (nI k))]) hx hb dX5_counted_36 rfl hl (by decide) rfl (fun ls hl => ?_)
        refine lv_iload_n hx hb dX5_counted_37 rfl (lv_at hl 3 rfl) ?_
        refine lv_aload_n hx hb dX5_counted_38 rfl (lv_at hl 4 rfl) ?_
        refine va_get (D := D) (ci := 6) (v := .ref (ad 9 17)) (C := RX5) (T := TX5) (N := 23) hx hb hts inX5 hown hK (hW.p (e := (eMod ad M)) rfl) 0 rfl rfl 17 (by decide) (hts (.fieldLink RX5 44 "StoryTollModel" "where" "[I") (List.mem_of_getElem? (i := 2) rfl)) (fun _ h9 => h9) rfl dX5_counted_39 ?_
        refine lv_iload hx hb dX5_counted_42 (lv_at hl 1 rfl) ?_
        refine g_ild hx hb hK hW 0 (n := 12) (f := (M 17)) rfl rfl (k := j) rfl (by omega) (by decide) dX5_counted_44 ?_
        refine lv_iconst (v := 1) hx hb dX5_counted_45 (by decide) ?_
        refine lv_icmp_ne (tgt := 53) hx hb dX5_counted_46 (by decide) (fun c_46_10 => ?_) (fun c_46_10 => ?_)
        · refine lv_iconst (v := 0) hx hb dX5_counted_53 (by decide) ?_
          refine lv_iadd hx hb dX5_counted_54 ?_
          refine lv_istore_n (lv' := [(3, .int ((gIt (L_X5_ct1 M) (0, 0) j).2 + 0)), (2, .int ((gIt (L_X5_ct1 M) (0, 0) j).1 + 0)), (5, .int (nI j)), (4, .int 0), (0, .ref (ad 0 1)), (1, .int (nI k))]) hx hb dX5_counted_55 rfl hl (by decide) rfl (fun ls hl => ?_)
          refine lv_iinc (v := (nI (j + 1))) (lv' := [(5, .int (nI (j + 1))), (3, .int ((gIt (L_X5_ct1 M) (0, 0) j).2 + 0)), (2, .int ((gIt (L_X5_ct1 M) (0, 0) j).1 + 0)), (4, .int 0), (0, .ref (ad 0 1)), (1, .int (nI k))]) hx hb dX5_counted_56 hl (k := 2) rfl (nI_1 _) (by decide) rfl (fun ls hl => ?_)
          refine lv_goto (tgt := 10) hx hb dX5_counted_59 (by decide) ?_
          have ea : (((gIt (L_X5_ct1 M) (0, 0) j).1 + 0), ((gIt (L_X5_ct1 M) (0, 0) j).2 + 0)) = (gIt (L_X5_ct1 M) (0, 0) (j + 1)) := by rw [gIt_s, L_X5_ct1, if_neg c_27_9, if_neg c_46_10]
          have hl2 : lv_has ls 6 [(5, .int (nI (j + 1))), (4, .int 0), (3, .int (gIt (L_X5_ct1 M) (0, 0) (j + 1)).2), (2, .int (gIt (L_X5_ct1 M) (0, 0) (j + 1)).1), (0, .ref (ad 0 1)), (1, .int (nI k))] := by rw [← ea]; exact lv_sub hl [0, 3, 1, 2, 4, 5] rfl
          exact ih ls locs hl2 hS
        · refine lv_iconst (v := 1) hx hb dX5_counted_49 (by decide) ?_
          refine lv_goto (tgt := 54) hx hb dX5_counted_50 (by decide) ?_
          refine lv_iadd hx hb dX5_counted_54 ?_
          refine lv_istore_n (lv' := [(3, .int ((gIt (L_X5_ct1 M) (0, 0) j).2 + 1)), (2, .int ((gIt (L_X5_ct1 M) (0, 0) j).1 + 0)), (5, .int (nI j)), (4, .int 0), (0, .ref (ad 0 1)), (1, .int (nI k))]) hx hb dX5_counted_55 rfl hl (by decide) rfl (fun ls hl => ?_)
          refine lv_iinc (v := (nI (j + 1))) (lv' := [(5, .int (nI (j + 1))), (3, .int ((gIt (L_X5_ct1 M) (0, 0) j).2 + 1)), (2, .int ((gIt (L_X5_ct1 M) (0, 0) j).1 + 0)), (4, .int 0), (0, .ref (ad 0 1)), (1, .int (nI k))]) hx hb dX5_counted_56 hl (k := 2) rfl (nI_1 _) (by decide) rfl (fun ls hl => ?_)
          refine lv_goto (tgt := 10) hx hb dX5_counted_59 (by decide) ?_
          have ea : (((gIt (L_X5_ct1 M) (0, 0) j).1 + 0), ((gIt (L_X5_ct1 M) (0, 0) j).2 + 1)) = (gIt (L_X5_ct1 M) (0, 0) (j + 1)) := by rw [gIt_s, L_X5_ct1, if_neg c_27_9, if_pos c_46_10]
          have hl2 : lv_has ls 6 [(5, .int (nI (j + 1))), (4, .int 0), (3, .int (gIt (L_X5_ct1 M) (0, 0) (j + 1)).2), (2, .int (gIt (L_X5_ct1 M) (0, 0) (j + 1)).1), (0, .ref (ad 0 1)), (1, .int (nI k))] := by rw [← ea]; exact lv_sub hl [0, 3, 1, 2, 4, 5] rfl
          exact ih ls locs hl2 hS
      · refine lv_iconst (v := 1) hx hb dX5_counted_30 (by decide) ?_
        refine lv_goto (tgt := 35) hx hb dX5_counted_31 (by decide) ?_
        refine lv_iadd hx hb dX5_counted_35 ?_
        refine lv_istore_n (lv' := [(2, .int ((gIt (L_X5_ct1 M) (0, 0) j).1 + 1)), (5, .int (nI j)), (4, .int 0), (3, .int (gIt (L_X5_ct1 M) (0, 0) j).2), (0, .ref (ad 0 1)), (1, .int (nI k))]) hx hb dX5_counted_36 rfl hl (by decide) rfl (fun ls hl => ?_)
        refine lv_iload_n hx hb dX5_counted_37 rfl (lv_at hl 3 rfl) ?_
        refine lv_aload_n hx hb dX5_counted_38 rfl (lv_at hl 4 rfl) ?_
        refine va_get (D := D) (ci := 6) (v := .ref (ad 9 17)) (C := RX5) (T := TX5) (N := 23) hx hb hts inX5 hown hK (hW.p (e := (eMod ad M)) rfl) 0 rfl rfl 17 (by decide) (hts (.fieldLink RX5 44 "StoryTollModel" "where" "[I") (List.mem_of_getElem? (i := 2) rfl)) (fun _ h9 => h9) rfl dX5_counted_39 ?_
        refine lv_iload hx hb dX5_counted_42 (lv_at hl 1 rfl) ?_
        refine g_ild hx hb hK hW 0 (n := 12) (f := (M 17)) rfl rfl (k := j) rfl (by omega) (by decide) dX5_counted_44 ?_
        refine lv_iconst (v := 1) hx hb dX5_counted_45 (by decide) ?_
        refine lv_icmp_ne (tgt := 53) hx hb dX5_counted_46 (by decide) (fun c_46_11 => ?_) (fun c_46_11 => ?_)
        · refine lv_iconst (v := 0) hx hb dX5_counted_53 (by decide) ?_
          refine lv_iadd hx hb dX5_counted_54 ?_
          refine lv_istore_n (lv' := [(3, .int ((gIt (L_X5_ct1 M) (0, 0) j).2 + 0)), (2, .int ((gIt (L_X5_ct1 M) (0, 0) j).1 + 1)), (5, .int (nI j)), (4, .int 0), (0, .ref (ad 0 1)), (1, .int (nI k))]) hx hb dX5_counted_55 rfl hl (by decide) rfl (fun ls hl => ?_)
          refine lv_iinc (v := (nI (j + 1))) (lv' := [(5, .int (nI (j + 1))), (3, .int ((gIt (L_X5_ct1 M) (0, 0) j).2 + 0)), (2, .int ((gIt (L_X5_ct1 M) (0, 0) j).1 + 1)), (4, .int 0), (0, .ref (ad 0 1)), (1, .int (nI k))]) hx hb dX5_counted_56 hl (k := 2) rfl (nI_1 _) (by decide) rfl (fun ls hl => ?_)
          refine lv_goto (tgt := 10) hx hb dX5_counted_59 (by decide) ?_
          have ea : (((gIt (L_X5_ct1 M) (0, 0) j).1 + 1), ((gIt (L_X5_ct1 M) (0, 0) j).2 + 0)) = (gIt (L_X5_ct1 M) (0, 0) (j + 1)) := by rw [gIt_s, L_X5_ct1, if_pos c_27_9, if_neg c_46_11]
          have hl2 : lv_has ls 6 [(5, .int (nI (j + 1))), (4, .int 0), (3, .int (gIt (L_X5_ct1 M) (0, 0) (j + 1)).2), (2, .int (gIt (L_X5_ct1 M) (0, 0) (j + 1)).1), (0, .ref (ad 0 1)), (1, .int (nI k))] := by rw [← ea]; exact lv_sub hl [0, 3, 1, 2, 4, 5] rfl
          exact ih ls locs hl2 hS
        · refine lv_iconst (v := 1) hx hb dX5_counted_49 (by decide) ?_
          refine lv_goto (tgt := 54) hx hb dX5_counted_50 (by decide) ?_
          refine lv_iadd hx hb dX5_counted_54 ?_
          refine lv_istore_n (lv' := [(3, .int ((gIt (L_X5_ct1 M) (0, 0) j).2 + 1)), (2, .int ((gIt (L_X5_ct1 M) (0, 0) j).1 + 1)), (5, .int (nI j)), (4, .int 0), (0, .ref (ad 0 1)), (1, .int (nI k))]) hx hb dX5_counted_55 rfl hl (by decide) rfl (fun ls hl => ?_)
          refine lv_iinc (v := (nI (j + 1))) (lv' := [(5, .int (nI (j + 1))), (3, .int ((gIt (L_X5_ct1 M) (0, 0) j).2 + 1)), (2, .int ((gIt (L_X5_ct1 M) (0, 0) j).1 + 1)), (4, .int 0), (0, .ref (ad 0 1)), (1, .int (nI k))]) hx hb dX5_counted_56 hl (k := 2) rfl (nI_1 _) (by decide) rfl (fun ls hl => ?_)
          refine lv_goto (tgt := 10) hx hb dX5_counted_59 (by decide) ?_
          have ea : (((gIt (L_X5_ct1 M) (0, 0) j).1 + 1), ((gIt (L_X5_ct1 M) (0, 0) j).2 + 1)) = (gIt (L_X5_ct1 M) (0, 0) (j + 1)) := by rw [gIt_s, L_X5_ct1, if_pos c_27_9, if_pos c_46_11]
          have hl2 : lv_has ls 6 [(5, .int (nI (j + 1))), (4, .int 0), (3, .int (gIt (L_X5_ct1 M) (0, 0) (j + 1)).2), (2, .int (gIt (L_X5_ct1 M) (0, 0) (j + 1)).1), (0, .ref (ad 0 1)), (1, .int (nI k))] := by rw [← ea]; exact lv_sub hl [0, 3, 1, 2, 4, 5] rfl
          exact ih ls locs hl2 hS
def f_X5_count (n : gN) (M : gT) (v1 : Int32) : Int32 := (if (f_X5_isIn v1 0 10) = 0 then (f_X5_no (tset M 0 0 0) 1) else (f_X5_counted n (tset M 0 0 0) v1.toNatClampNeg))
def s_X5_count (n : gN) (M : gT) (v1 : Int32) : gT := (if (f_X5_isIn v1 0 10) = 0 then (s_X5_no (tset M 0 0 0) 1) else (s_X5_counted n (tset M 0 0 0) v1.toNatClampNeg))
set_option maxHeartbeats 4000000 in
set_option maxRecDepth 100000 in
theorem c_X5_count (l : Launch) (D : va_G) (G : gG) (A : Nat → Prop) (ad : gAd) (N : gN) (C M : gT) (o : Nat → Int64) (Hp : Heap) (hW : gW D A ad (Wd G ad N C M o) Hp) (hA : ∀ q, Hp.size ≤ q → A q) (n : gN) (hI : IM n M) (v1 : Int32) : Met l yX5_count wsX5_count ({ frames := 3, cells := 1, slots := 11, locals := 67 }) (va_Pc [.ref (ad 0 1), .int v1] (gQ D (gTs G) Hp)) (va_Qi (fun r (_ : Unit) => r = f_X5_count n M v1) (fun _ t => gW D A ad (Wd G ad N C (s_X5_count n M v1) o) t.heap) A) 1 11 A := by
  refine g_start (cc := cX5_count) (maxL := 2) (ret := (some .int)) (by decide) rfl (Nat.le_of_ble_eq_true rfl) (fun p e s m below meth c ls C0 hr hlk hnm hh hK hl => ?_)
  obtain ⟨hx, hb, hml, hown, hts⟩ := id C0
  have hown : s.vm.findClass RX5 = some m.cls := hown
  have hS : va_S A Hp Hp [] := va_S.rf
  have hl : lv_has ls 2 [(0, .ref (ad 0 1)), (1, .int v1)] := hl
  have inX5 : ∀ w ∈ wsX50, w ∈ wsX5_count := by decide +kernel
  obtain ⟨⟨hb0, hn0⟩, ⟨hb1, hn1⟩, ⟨hb2, hn2⟩, ⟨hb3, hn3⟩, hpl, hhe⟩ := id hI
  have hI0 := IM_t0 (v := 0) hI
  refine lv_aload_n hx hb dX5_count_0 rfl (lv_at hl 0 rfl) ?_
  refine lv_iconst (v := 0) hx hb dX5_count_1 (by decide) ?_
  refine g_put (D := D) (ci := 6) (v := .int 0) (ty := .int) (C := RX5) (T := TX5) (N := 23) (ct' := (Wd G ad N C (tset M 0 0 0) o)) hx hb hts inX5 tyX5 tyX5_ok nmX5 hown hK hW hS (show Wd G ad N C M o 0 1 = some (eMod ad M) from rfl) rfl 0 (by decide) (hts (.fieldLink RX5 59 "StoryTollModel" "thrown" "I") (List.mem_of_getElem? (i := 1) rfl)) (fun _ h9 => h9) rfl (by decide +kernel) rfl rfl (Nat.le_of_ble_eq_true rfl) dX5_count_2 Wd_m0 (Wd_tM rfl) (fun H locs hW hS => ?_)
  refine lv_iload_n hx hb dX5_count_5 rfl (lv_at hl 1 rfl) ?_
  refine lv_iconst (v := 0) hx hb dX5_count_6 (by decide) ?_
  refine lv_bipush (v := 10) hx hb dX5_count_7 (by decide) ?_
  refine g_Si (As := [.int v1, .int 0, .int 10]) (rest := []) C0 (c_X5_isIn l D G H v1 0 10) (va_cwS 3 hts gX5_count_X5_isIn rfl rfl rfl (by decide +kernel) ⟨Nat.le_of_ble_eq_true rfl, Nat.le_of_ble_eq_true rfl⟩) hK rfl hl rfl (Nat.le_of_ble_eq_true rfl) dX5_count_9 ⟨Nat.zero_le _, Nat.zero_le _⟩ hS (fun r_1 locs hr_1 hS => ?_)
  subst hr_1
  refine lv_if_eq (tgt := 23) hx hb dX5_count_12 (by decide) (fun c_12_1 => ?_) (fun c_12_1 => ?_)
  · refine lv_aload_n hx hb dX5_count_23 rfl (lv_at hl 0 rfl) ?_
    refine lv_iconst (v := 1) hx hb dX5_count_24 (by decide) ?_
    refine g_wVi (As := [.int 1]) (rest := []) (B := fun (_ : Unit) H => gW D A ad (Wd G ad N C (s_X5_no (tset M 0 0 0) 1) o) H) (mc := 0) (ms := 0) C0 (c_X5_no l D G A ad N C (tset M 0 0 0) o H hW 1) (cwV 1 hts gX5_count_X5_no rfl rfl rfl (by decide +kernel) ⟨Nat.le_of_ble_eq_true rfl, Nat.le_of_ble_eq_true rfl⟩) hK (va_recv hK (hW.p rfl) (ci := 6) (q0 := 0) rfl rfl) rfl hl rfl (Nat.le_of_ble_eq_true rfl) dX5_count_25 ⟨Nat.zero_le _, Nat.zero_le _⟩ hS (fun r_3 ur_3 H locs hr_3 hW hzr_3 hS => ?_)
    have hW : gW D A ad (Wd G ad N C (s_X5_no (tset M 0 0 0) 1) o) H := hW
    subst hr_3
    refine W.widen (k := 1) (n := 11) (by omega) (by omega) ?_
    exact g_wret (u := ()) (post := fun r _ => r = f_X5_count n M v1) (B := fun _ H => gW D A ad (Wd G ad N C (s_X5_count n M v1) o) H) hx hb hr hlk hh hS (show (f_X5_no (tset M 0 0 0) 1) = f_X5_count n M v1 from by rw [f_X5_count, if_pos c_12_1]) (show gW D A ad (Wd G ad N C (s_X5_count n M v1) o) H from by rw [s_X5_count, if_pos c_12_1]; exact hW) dX5_count_28
  · have hv1 := is_idx2 (show (10 : Int32) = nI 10 from rfl) (by decide) c_12_1
    refine lv_aload_n hx hb dX5_count_15 rfl (lv_at hl 0 rfl) ?_
    refine lv_iload_n hx hb dX5_count_16 rfl (lv_at hl 1 rfl) ?_
    refine g_wVi (As := [.int v1]) (rest := []) (B := fun (_ : Unit) H => gW D A ad (Wd G ad N C (s_X5_counted n (tset M 0 0 0) v1.toNatClampNeg) o) H) (mc := 1) (ms := 11) C0 ((by have h9 := c_X5_counted l D G A ad N C (tset M 0 0 0) o H hW (fun q h => hA q (Nat.le_trans hS.1 h)) n hI0 v1.toNatClampNeg (by omega); rw [← hv1.1] at h9; exact h9)) (cwV 1 hts gX5_count_X5_counted rfl rfl rfl (by decide +kernel) ⟨Nat.le_of_ble_eq_true rfl, Nat.le_of_ble_eq_true rfl⟩) hK (va_recv hK (hW.p rfl) (ci := 6) (q0 := 0) rfl rfl) rfl hl rfl (Nat.le_of_ble_eq_true rfl) dX5_count_17 ⟨(Nat.le_of_ble_eq_true rfl), (Nat.le_of_ble_eq_true rfl)⟩ hS (fun r_4 ur_4 H locs hr_4 hW hzr_4 hS => ?_)
    have hW : gW D A ad (Wd G ad N C (s_X5_counted n (tset M 0 0 0) v1.toNatClampNeg) o) H := hW
    subst hr_4
    refine lv_goto (tgt := 28) hx hb dX5_count_20 (by decide) ?_
    exact g_wret (u := ()) (post := fun r _ => r = f_X5_count n M v1) (B := fun _ H => gW D A ad (Wd G ad N C (s_X5_count n M v1) o) H) hx hb hr hlk hh hS (show (f_X5_counted n (tset M 0 0 0) v1.toNatClampNeg) = f_X5_count n M v1 from by rw [f_X5_count, if_neg c_12_1]) (show gW D A ad (Wd G ad N C (s_X5_count n M v1) o) H from by rw [s_X5_count, if_neg c_12_1]; exact hW) dX5_count_28
