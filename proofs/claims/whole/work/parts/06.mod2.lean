/-! THE REFERENCE: methods that write -/
theorem isIn_ne {v lo hi : Int32} (h : ¬ f_X5_isIn v lo hi = 0) : ¬ v < lo ∧ ¬ hi < v := by
  by_cases h1 : v < lo
  · exact absurd (by rw [f_X5_isIn, if_pos h1]) h
  · by_cases h2 : hi < v
    · exact absurd (by rw [f_X5_isIn, if_neg h1, if_pos h2]) h
    · exact ⟨h1, h2⟩
theorem is_idx {v b : Int32} {k : Nat} (hb : b = nI k) (hk : k ≤ 1000) (h : ¬ f_X5_isIn v 0 (b - 1) = 0) : v = nI v.toNatClampNeg ∧ v.toNatClampNeg < k := idx_of hb hk (isIn_ne h).1 (isIn_ne h).2
theorem is_idx2 {v hi : Int32} {k : Nat} (hb : hi = nI k) (hk : k ≤ 900) (h : ¬ f_X5_isIn v 0 hi = 0) : v = nI v.toNatClampNeg ∧ v.toNatClampNeg < k + 1 := by
  refine is_idx (b := nI (k + 1)) (k := k + 1) rfl (by omega) ?_
  rw [nI_p _ (by omega), Nat.add_sub_cancel, ← hb]
  exact h
theorem is_pos {v : Int32} (h : ¬ f_X5_isIn v 1 100 = 0) : v = nI v.toNatClampNeg ∧ 1 ≤ v.toNatClampNeg ∧ v.toNatClampNeg < 101 := by
  obtain ⟨h1, h2⟩ := isIn_ne h
  have h0 : ¬ f_X5_isIn v 0 100 = 0 := by
    rw [f_X5_isIn, if_neg (fun z => h1 (Int32.lt_iff_toInt_lt.mpr (by have := Int32.lt_iff_toInt_lt.mp z; rw [show (0 : Int32).toInt = 0 from rfl] at this; rw [show (1 : Int32).toInt = 1 from rfl]; omega))), if_neg h2]
    decide
  obtain ⟨h3, h4⟩ := is_idx2 (k := 100) rfl (by omega) h0
  refine ⟨h3, ?_, h4⟩
  rcases Nat.eq_zero_or_pos v.toNatClampNeg with z | z
  · rw [z] at h3
    exact absurd (by rw [h3]; decide) h1
  · exact z
theorem ne_lt {x y : Int32} {k m : Nat} (hx : x = nI k) (hy : y = nI m) (h : k ≤ m) (hc : ¬ x = y) : k < m := by
  rcases Nat.lt_or_eq_of_le h with z | z
  · exact z
  · exact absurd (by rw [hx, hy, z]) hc
def f_X5_no (M : gT) (v : Int32) : Int32 := 0
def s_X5_no (M : gT) (v : Int32) : gT := (tset M 0 0 v)
set_option maxHeartbeats 4000000 in
set_option maxRecDepth 100000 in
theorem c_X5_no (l : Launch) (D : va_G) (G : gG) (A : Nat → Prop) (ad : gAd) (N : gN) (C M : gT) (o : Nat → Int64) (Hp : Heap) (hW : gW D A ad (Wd G ad N C M o) Hp) (v : Int32) : Met l yX5_no wsX5_no ({ frames := 0, cells := 0, slots := 0, locals := 0 }) (va_Pc [.ref (ad 0 1), .int v] (gQ D (gTs G) Hp)) (va_Qi (fun r (_ : Unit) => r = f_X5_no M v) (fun _ t => gW D A ad (Wd G ad N C (s_X5_no M v) o) t.heap) A) 0 0 A := by
  refine g_start (cc := cX5_no) (maxL := 2) (ret := (some .int)) (by decide) rfl (Nat.le_of_ble_eq_true rfl) (fun p e s m below meth c ls C0 hr hlk hnm hh hK hl => ?_)
  obtain ⟨hx, hb, hml, hown, hts⟩ := id C0
  have hown : s.vm.findClass RX5 = some m.cls := hown
  have hS : va_S A Hp Hp [] := va_S.rf
  have hl : lv_has ls 2 [(0, .ref (ad 0 1)), (1, .int v)] := hl
  have inX5 : ∀ w ∈ wsX50, w ∈ wsX5_no := by decide +kernel
  refine lv_aload_n hx hb dX5_no_0 rfl (lv_at hl 0 rfl) ?_
  refine lv_iload_n hx hb dX5_no_1 rfl (lv_at hl 1 rfl) ?_
  refine g_put (D := D) (ci := 6) (v := .int v) (ty := .int) (C := RX5) (T := TX5) (N := 23) (ct' := (Wd G ad N C (tset M 0 0 v) o)) hx hb hts inX5 tyX5 tyX5_ok nmX5 hown hK hW hS (show Wd G ad N C M o 0 1 = some (eMod ad M) from rfl) rfl 0 (by decide) (hts (.fieldLink RX5 59 "StoryTollModel" "thrown" "I") (List.mem_of_getElem? (i := 1) rfl)) (fun _ h9 => h9) rfl (by decide +kernel) rfl rfl (Nat.le_of_ble_eq_true rfl) dX5_no_2 Wd_m0 (Wd_tM rfl) (fun H locs hW hS => ?_)
  refine lv_iconst (v := 0) hx hb dX5_no_5 (by decide) ?_
  exact g_wret (u := ()) (post := fun r _ => r = f_X5_no M v) (B := fun _ H => gW D A ad (Wd G ad N C (s_X5_no M v) o) H) hx hb hr hlk hh hS (show 0 = f_X5_no M v from by rw [f_X5_no]) (show gW D A ad (Wd G ad N C (s_X5_no M v) o) H from by rw [s_X5_no]; exact hW) dX5_no_6
def f_X5_thrown (M : gT) : Int32 := (M 0 0)
set_option maxHeartbeats 4000000 in
set_option maxRecDepth 100000 in
theorem c_X5_thrown (l : Launch) (D : va_G) (G : gG) (A : Nat → Prop) (ad : gAd) (N : gN) (C M : gT) (o : Nat → Int64) (Hp : Heap) (hW : gW D A ad (Wd G ad N C M o) Hp)  : Met l yX5_thrown wsX5_thrown ({ frames := 0, cells := 0, slots := 0, locals := 0 }) (va_Pc [.ref (ad 0 1)] (gQ D (gTs G) Hp)) (gRi (fun r => r = f_X5_thrown M) Hp) 0 0 gF := by
  refine g_start (cc := cX5_thrown) (maxL := 1) (ret := (some .int)) (by decide) rfl (Nat.le_of_ble_eq_true rfl) (fun p e s m below meth c ls C0 hr hlk hnm hh hK hl => ?_)
  obtain ⟨hx, hb, hml, hown, hts⟩ := id C0
  have hown : s.vm.findClass RX5 = some m.cls := hown
  have hS : va_S gF Hp Hp [] := va_S.rf
  have hl : lv_has ls 1 [(0, .ref (ad 0 1))] := hl
  have inX5 : ∀ w ∈ wsX50, w ∈ wsX5_thrown := by decide +kernel
  refine lv_aload_n hx hb dX5_thrown_0 rfl (lv_at hl 0 rfl) ?_
  refine va_get (D := D) (ci := 6) (v := .int (M 0 0)) (C := RX5) (T := TX5) (N := 23) hx hb hts inX5 hown hK (hW.p (e := (eMod ad M)) rfl) 0 rfl rfl 0 (by decide) (hts (.fieldLink RX5 59 "StoryTollModel" "thrown" "I") (List.mem_of_getElem? (i := 1) rfl)) (fun _ h9 => h9) rfl dX5_thrown_1 ?_
  exact g_iret hx hb hr hlk hh hS (show (M 0 0) = f_X5_thrown M from by rw [f_X5_thrown]) dX5_thrown_4
def f_X5_make (n : gN) (M : gT) (v1 : Int32) (v2 : Int32) (v3 : Int32) : Int32 := (if (f_X5_isIn v1 0 2) = 0 then (f_X5_no (tset M 0 0 0) 1) else (if (f_X5_isIn v2 1 20) = 0 then (f_X5_no (tset M 0 0 0) 1) else (if (f_X5_isIn v3 0 5) = 0 then (f_X5_no (tset M 0 0 0) 1) else (if (M 2 0) = 24 then (f_X5_no (tset M 0 0 0) 2) else (((M 2 0) + 1) - 1)))))
def s_X5_make (n : gN) (M : gT) (v1 : Int32) (v2 : Int32) (v3 : Int32) : gT := (if (f_X5_isIn v1 0 2) = 0 then (s_X5_no (tset M 0 0 0) 1) else (if (f_X5_isIn v2 1 20) = 0 then (s_X5_no (tset M 0 0 0) 1) else (if (f_X5_isIn v3 0 5) = 0 then (s_X5_no (tset M 0 0 0) 1) else (if (M 2 0) = 24 then (s_X5_no (tset M 0 0 0) 2) else (tset (tset (tset (tset (tset M 0 0 0) 3 (n 0) v1) 4 (n 0) v2) 5 (n 0) v3) 2 0 ((M 2 0) + 1))))))
set_option maxHeartbeats 4000000 in
set_option maxRecDepth 100000 in
theorem c_X5_make (l : Launch) (D : va_G) (G : gG) (A : Nat → Prop) (ad : gAd) (N : gN) (C M : gT) (o : Nat → Int64) (Hp : Heap) (hW : gW D A ad (Wd G ad N C M o) Hp) (n : gN) (hI : IM n M) (v1 v2 v3 : Int32) : Met l yX5_make wsX5_make ({ frames := 1, cells := 0, slots := 0, locals := 22 }) (va_Pc [.ref (ad 0 1), .int v1, .int v2, .int v3] (gQ D (gTs G) Hp)) (va_Qi (fun r (_ : Unit) => r = f_X5_make n M v1 v2 v3) (fun _ t => gW D A ad (Wd G ad N C (s_X5_make n M v1 v2 v3) o) t.heap) A) 0 0 A := by
  refine g_start (cc := cX5_make) (maxL := 4) (ret := (some .int)) (by decide) rfl (Nat.le_of_ble_eq_true rfl) (fun p e s m below meth c ls C0 hr hlk hnm hh hK hl => ?_)
  obtain ⟨hx, hb, hml, hown, hts⟩ := id C0
  have hown : s.vm.findClass RX5 = some m.cls := hown
  have hS : va_S A Hp Hp [] := va_S.rf
  have hl : lv_has ls 4 [(0, .ref (ad 0 1)), (1, .int v1), (2, .int v2), (3, .int v3)] := hl
  have inX5 : ∀ w ∈ wsX50, w ∈ wsX5_make := by decide +kernel
  obtain ⟨⟨hb0, hn0⟩, ⟨hb1, hn1⟩, ⟨hb2, hn2⟩, ⟨hb3, hn3⟩, hpl, hhe⟩ := id hI
  have hI0 := IM_t0 (v := 0) hI
  refine lv_aload_n hx hb dX5_make_0 rfl (lv_at hl 0 rfl) ?_
  refine lv_iconst (v := 0) hx hb dX5_make_1 (by decide) ?_
  refine g_put (D := D) (ci := 6) (v := .int 0) (ty := .int) (C := RX5) (T := TX5) (N := 23) (ct' := (Wd G ad N C (tset M 0 0 0) o)) hx hb hts inX5 tyX5 tyX5_ok nmX5 hown hK hW hS (show Wd G ad N C M o 0 1 = some (eMod ad M) from rfl) rfl 0 (by decide) (hts (.fieldLink RX5 59 "StoryTollModel" "thrown" "I") (List.mem_of_getElem? (i := 1) rfl)) (fun _ h9 => h9) rfl (by decide +kernel) rfl rfl (Nat.le_of_ble_eq_true rfl) dX5_make_2 Wd_m0 (Wd_tM rfl) (fun H locs hW hS => ?_)
  refine lv_iload_n hx hb dX5_make_5 rfl (lv_at hl 1 rfl) ?_
  refine lv_iconst (v := 0) hx hb dX5_make_6 (by decide) ?_
  refine lv_iconst (v := 2) hx hb dX5_make_7 (by decide) ?_
  refine g_Si (As := [.int v1, .int 0, .int 2]) (rest := []) C0 (c_X5_isIn l D G H v1 0 2) (va_cwS 3 hts gX5_make_X5_isIn rfl rfl rfl (by decide +kernel) ⟨Nat.le_of_ble_eq_true rfl, Nat.le_of_ble_eq_true rfl⟩) hK rfl hl rfl (Nat.le_of_ble_eq_true rfl) dX5_make_8 ⟨Nat.zero_le _, Nat.zero_le _⟩ hS (fun r_1 locs hr_1 hS => ?_)
  subst hr_1
  refine lv_if_eq (tgt := 33) hx hb dX5_make_11 (by decide) (fun c_11_1 => ?_) (fun c_11_1 => ?_)
  · refine lv_aload_n hx hb dX5_make_33 rfl (lv_at hl 0 rfl) ?_
    refine lv_iconst (v := 1) hx hb dX5_make_34 (by decide) ?_
    refine g_wVi (As := [.int 1]) (rest := []) (B := fun (_ : Unit) H => gW D A ad (Wd G ad N C (s_X5_no (tset M 0 0 0) 1) o) H) (mc := 0) (ms := 0) C0 (c_X5_no l D G A ad N C (tset M 0 0 0) o H hW 1) (cwV 1 hts gX5_make_X5_no rfl rfl rfl (by decide +kernel) ⟨Nat.le_of_ble_eq_true rfl, Nat.le_of_ble_eq_true rfl⟩) hK (va_recv hK (hW.p rfl) (ci := 6) (q0 := 0) rfl rfl) rfl hl rfl (Nat.le_of_ble_eq_true rfl) dX5_make_35 ⟨Nat.zero_le _, Nat.zero_le _⟩ hS (fun r_3 ur_3 H locs hr_3 hW hzr_3 hS => ?_)
    have hW : gW D A ad (Wd G ad N C (s_X5_no (tset M 0 0 0) 1) o) H := hW
    subst hr_3
    exact g_wret (u := ()) (post := fun r _ => r = f_X5_make n M v1 v2 v3) (B := fun _ H => gW D A ad (Wd G ad N C (s_X5_make n M v1 v2 v3) o) H) hx hb hr hlk hh hS (show (f_X5_no (tset M 0 0 0) 1) = f_X5_make n M v1 v2 v3 from by rw [f_X5_make, if_pos c_11_1]) (show gW D A ad (Wd G ad N C (s_X5_make n M v1 v2 v3) o) H from by rw [s_X5_make, if_pos c_11_1]; exact hW) dX5_make_38
  · refine lv_iload_n hx hb dX5_make_14 rfl (lv_at hl 2 rfl) ?_
    refine lv_iconst (v := 1) hx hb dX5_make_15 (by decide) ?_
    refine lv_bipush (v := 20) hx hb dX5_make_16 (by decide) ?_
    refine g_Si (As := [.int v2, .int 1, .int 20]) (rest := []) C0 (c_X5_isIn l D G H v2 1 20) (va_cwS 3 hts gX5_make_X5_isIn rfl rfl rfl (by decide +kernel) ⟨Nat.le_of_ble_eq_true rfl, Nat.le_of_ble_eq_true rfl⟩) hK rfl hl rfl (Nat.le_of_ble_eq_true rfl) dX5_make_18 ⟨Nat.zero_le _, Nat.zero_le _⟩ hS (fun r_4 locs hr_4 hS => ?_)
    subst hr_4
    refine lv_if_eq (tgt := 33) hx hb dX5_make_21 (by decide) (fun c_21_4 => ?_) (fun c_21_4 => ?_)
    · refine lv_aload_n hx hb dX5_make_33 rfl (lv_at hl 0 rfl) ?_
      refine lv_iconst (v := 1) hx hb dX5_make_34 (by decide) ?_
      refine g_wVi (As := [.int 1]) (rest := []) (B := fun (_ : Unit) H => gW D A ad (Wd G ad N C (s_X5_no (tset M 0 0 0) 1) o) H) (mc := 0) (ms := 0) C0 (c_X5_no l D G A ad N C (tset M 0 0 0) o H hW 1) (cwV 1 hts gX5_make_X5_no rfl rfl rfl (by decide +kernel) ⟨Nat.le_of_ble_eq_true rfl, Nat.le_of_ble_eq_true rfl⟩) hK (va_recv hK (hW.p rfl) (ci := 6) (q0 := 0) rfl rfl) rfl hl rfl (Nat.le_of_ble_eq_true rfl) dX5_make_35 ⟨Nat.zero_le _, Nat.zero_le _⟩ hS (fun r_6 ur_6 H locs hr_6 hW hzr_6 hS => ?_)
      have hW : gW D A ad (Wd G ad N C (s_X5_no (tset M 0 0 0) 1) o) H := hW
      subst hr_6
      exact g_wret (u := ()) (post := fun r _ => r = f_X5_make n M v1 v2 v3) (B := fun _ H => gW D A ad (Wd G ad N C (s_X5_make n M v1 v2 v3) o) H) hx hb hr hlk hh hS (show (f_X5_no (tset M 0 0 0) 1) = f_X5_make n M v1 v2 v3 from by rw [f_X5_make, if_neg c_11_1, if_pos c_21_4]) (show gW D A ad (Wd G ad N C (s_X5_make n M v1 v2 v3) o) H from by rw [s_X5_make, if_neg c_11_1, if_pos c_21_4]; exact hW) dX5_make_38
    · refine lv_iload_n hx hb dX5_make_24 rfl (lv_at hl 3 rfl) ?_
      refine lv_iconst (v := 0) hx hb dX5_make_25 (by decide) ?_
      refine lv_iconst (v := 5) hx hb dX5_make_26 (by decide) ?_
      refine g_Si (As := [.int v3, .int 0, .int 5]) (rest := []) C0 (c_X5_isIn l D G H v3 0 5) (va_cwS 3 hts gX5_make_X5_isIn rfl rfl rfl (by decide +kernel) ⟨Nat.le_of_ble_eq_true rfl, Nat.le_of_ble_eq_true rfl⟩) hK rfl hl rfl (Nat.le_of_ble_eq_true rfl) dX5_make_27 ⟨Nat.zero_le _, Nat.zero_le _⟩ hS (fun r_7 locs hr_7 hS => ?_)
      subst hr_7
      refine lv_if_ne (tgt := 39) hx hb dX5_make_30 (by decide) (fun c_30_7 => ?_) (fun c_30_7 => ?_)
      · refine lv_aload_n hx hb dX5_make_39 rfl (lv_at hl 0 rfl) ?_
        refine va_get (D := D) (ci := 6) (v := .int ((tset M 0 0 0) 2 0)) (C := RX5) (T := TX5) (N := 23) hx hb hts inX5 hown hK (hW.p (e := (eMod ad (tset M 0 0 0))) rfl) 0 rfl rfl 2 (by decide) (hts (.fieldLink RX5 62 "StoryTollModel" "scenes" "I") (List.mem_of_getElem? (i := 2) rfl)) (fun _ h9 => h9) rfl dX5_make_40 ?_
        rw [show ((tset M 0 0 0) 2 0) = (M 2 0) from by rw [tset_of (by decide)]]
        refine lv_bipush (v := 24) hx hb dX5_make_43 (by decide) ?_
        refine lv_icmp_ne (tgt := 54) hx hb dX5_make_45 (by decide) (fun c_45_8 => ?_) (fun c_45_8 => ?_)
        · have hlt := ne_lt hb0 (show (24 : Int32) = nI 24 from rfl) hn0 c_45_8
          refine lv_aload_n hx hb dX5_make_54 rfl (lv_at hl 0 rfl) ?_
          refine va_get (D := D) (ci := 6) (v := .ref (ad 9 3)) (C := RX5) (T := TX5) (N := 23) hx hb hts inX5 hown hK (hW.p (e := (eMod ad (tset M 0 0 0))) rfl) 0 rfl rfl 3 (by decide) (hts (.fieldLink RX5 9 "StoryTollModel" "kind" "[I") (List.mem_of_getElem? (i := 3) rfl)) (fun _ h9 => h9) rfl dX5_make_55 ?_
          refine lv_aload_n hx hb dX5_make_58 rfl (lv_at hl 0 rfl) ?_
          refine va_get (D := D) (ci := 6) (v := .int ((tset M 0 0 0) 2 0)) (C := RX5) (T := TX5) (N := 23) hx hb hts inX5 hown hK (hW.p (e := (eMod ad (tset M 0 0 0))) rfl) 0 rfl rfl 2 (by decide) (hts (.fieldLink RX5 62 "StoryTollModel" "scenes" "I") (List.mem_of_getElem? (i := 2) rfl)) (fun _ h9 => h9) rfl dX5_make_59 ?_
          rw [show ((tset M 0 0 0) 2 0) = (M 2 0) from by rw [tset_of (by decide)]]
          refine lv_iload_n hx hb dX5_make_62 rfl (lv_at hl 1 rfl) ?_
          refine g_istN (ct' := (Wd G ad N C (tset (tset M 0 0 0) 3 (n 0) v1) o)) hx hb hK hW hS 0 (n := 24) (f := ((tset M 0 0 0) 3)) rfl rfl (k := (n 0)) hb0 (by omega) (by decide) dX5_make_63 (Wd_An (by decide)) (Wd_tA (by decide)) (fun H locs hW hS => ?_)
          refine lv_aload_n hx hb dX5_make_64 rfl (lv_at hl 0 rfl) ?_
          refine va_get (D := D) (ci := 6) (v := .ref (ad 9 4)) (C := RX5) (T := TX5) (N := 23) hx hb hts inX5 hown hK (hW.p (e := (eMod ad (tset (tset M 0 0 0) 3 (n 0) v1))) rfl) 0 rfl rfl 4 (by decide) (hts (.fieldLink RX5 13 "StoryTollModel" "wonder" "[I") (List.mem_of_getElem? (i := 4) rfl)) (fun _ h9 => h9) rfl dX5_make_65 ?_
          refine lv_aload_n hx hb dX5_make_68 rfl (lv_at hl 0 rfl) ?_
          refine va_get (D := D) (ci := 6) (v := .int ((tset (tset M 0 0 0) 3 (n 0) v1) 2 0)) (C := RX5) (T := TX5) (N := 23) hx hb hts inX5 hown hK (hW.p (e := (eMod ad (tset (tset M 0 0 0) 3 (n 0) v1))) rfl) 0 rfl rfl 2 (by decide) (hts (.fieldLink RX5 62 "StoryTollModel" "scenes" "I") (List.mem_of_getElem? (i := 2) rfl)) (fun _ h9 => h9) rfl dX5_make_69 ?_
          rw [show ((tset (tset M 0 0 0) 3 (n 0) v1) 2 0) = (M 2 0) from by rw [tset_of (by decide), tset_of (by decide)]]
          refine lv_iload_n hx hb dX5_make_72 rfl (lv_at hl 2 rfl) ?_
          refine g_istN (ct' := (Wd G ad N C (tset (tset (tset M 0 0 0) 3 (n 0) v1) 4 (n 0) v2) o)) hx hb hK hW hS 0 (n := 24) (f := ((tset (tset M 0 0 0) 3 (n 0) v1) 4)) rfl rfl (k := (n 0)) hb0 (by omega) (by decide) dX5_make_73 (Wd_An (by decide)) (Wd_tA (by decide)) (fun H locs hW hS => ?_)
          refine lv_aload_n hx hb dX5_make_74 rfl (lv_at hl 0 rfl) ?_
          refine va_get (D := D) (ci := 6) (v := .ref (ad 9 5)) (C := RX5) (T := TX5) (N := 23) hx hb hts inX5 hown hK (hW.p (e := (eMod ad (tset (tset (tset M 0 0 0) 3 (n 0) v1) 4 (n 0) v2))) rfl) 0 rfl rfl 5 (by decide) (hts (.fieldLink RX5 16 "StoryTollModel" "hue" "[I") (List.mem_of_getElem? (i := 5) rfl)) (fun _ h9 => h9) rfl dX5_make_75 ?_
          refine lv_aload_n hx hb dX5_make_78 rfl (lv_at hl 0 rfl) ?_
          refine va_get (D := D) (ci := 6) (v := .int ((tset (tset (tset M 0 0 0) 3 (n 0) v1) 4 (n 0) v2) 2 0)) (C := RX5) (T := TX5) (N := 23) hx hb hts inX5 hown hK (hW.p (e := (eMod ad (tset (tset (tset M 0 0 0) 3 (n 0) v1) 4 (n 0) v2))) rfl) 0 rfl rfl 2 (by decide) (hts (.fieldLink RX5 62 "StoryTollModel" "scenes" "I") (List.mem_of_getElem? (i := 2) rfl)) (fun _ h9 => h9) rfl dX5_make_79 ?_
          rw [show ((tset (tset (tset M 0 0 0) 3 (n 0) v1) 4 (n 0) v2) 2 0) = (M 2 0) from by rw [tset_of (by decide), tset_of (by decide), tset_of (by decide)]]
          refine lv_iload_n hx hb dX5_make_82 rfl (lv_at hl 3 rfl) ?_
          refine g_istN (ct' := (Wd G ad N C (tset (tset (tset (tset M 0 0 0) 3 (n 0) v1) 4 (n 0) v2) 5 (n 0) v3) o)) hx hb hK hW hS 0 (n := 24) (f := ((tset (tset (tset M 0 0 0) 3 (n 0) v1) 4 (n 0) v2) 5)) rfl rfl (k := (n 0)) hb0 (by omega) (by decide) dX5_make_83 (Wd_An (by decide)) (Wd_tA (by decide)) (fun H locs hW hS => ?_)
          refine lv_aload_n hx hb dX5_make_84 rfl (lv_at hl 0 rfl) ?_
          refine lv_dup hx hb dX5_make_85 rfl ?_
          refine va_get (D := D) (ci := 6) (v := .int ((tset (tset (tset (tset M 0 0 0) 3 (n 0) v1) 4 (n 0) v2) 5 (n 0) v3) 2 0)) (C := RX5) (T := TX5) (N := 23) hx hb hts inX5 hown hK (hW.p (e := (eMod ad (tset (tset (tset (tset M 0 0 0) 3 (n 0) v1) 4 (n 0) v2) 5 (n 0) v3))) rfl) 0 rfl rfl 2 (by decide) (hts (.fieldLink RX5 62 "StoryTollModel" "scenes" "I") (List.mem_of_getElem? (i := 2) rfl)) (fun _ h9 => h9) rfl dX5_make_86 ?_
          rw [show ((tset (tset (tset (tset M 0 0 0) 3 (n 0) v1) 4 (n 0) v2) 5 (n 0) v3) 2 0) = (M 2 0) from by rw [tset_of (by decide), tset_of (by decide), tset_of (by decide), tset_of (by decide)]]
          refine lv_iconst (v := 1) hx hb dX5_make_89 (by decide) ?_
          refine lv_iadd hx hb dX5_make_90 ?_
          refine g_put (D := D) (ci := 6) (v := .int ((M 2 0) + 1)) (ty := .int) (C := RX5) (T := TX5) (N := 23) (ct' := (Wd G ad N C (tset (tset (tset (tset (tset M 0 0 0) 3 (n 0) v1) 4 (n 0) v2) 5 (n 0) v3) 2 0 ((M 2 0) + 1)) o)) hx hb hts inX5 tyX5 tyX5_ok nmX5 hown hK hW hS (show Wd G ad N C (tset (tset (tset (tset M 0 0 0) 3 (n 0) v1) 4 (n 0) v2) 5 (n 0) v3) o 0 1 = some (eMod ad (tset (tset (tset (tset M 0 0 0) 3 (n 0) v1) 4 (n 0) v2) 5 (n 0) v3)) from rfl) rfl 2 (by decide) (hts (.fieldLink RX5 62 "StoryTollModel" "scenes" "I") (List.mem_of_getElem? (i := 2) rfl)) (fun _ h9 => h9) rfl (by decide +kernel) rfl rfl (Nat.le_of_ble_eq_true rfl) dX5_make_91 Wd_m2 (Wd_tM rfl) (fun H locs hW hS => ?_)
          refine lv_aload_n hx hb dX5_make_94 rfl (lv_at hl 0 rfl) ?_
          refine va_get (D := D) (ci := 6) (v := .int ((tset (tset (tset (tset (tset M 0 0 0) 3 (n 0) v1) 4 (n 0) v2) 5 (n 0) v3) 2 0 ((M 2 0) + 1)) 2 0)) (C := RX5) (T := TX5) (N := 23) hx hb hts inX5 hown hK (hW.p (e := (eMod ad (tset (tset (tset (tset (tset M 0 0 0) 3 (n 0) v1) 4 (n 0) v2) 5 (n 0) v3) 2 0 ((M 2 0) + 1)))) rfl) 0 rfl rfl 2 (by decide) (hts (.fieldLink RX5 62 "StoryTollModel" "scenes" "I") (List.mem_of_getElem? (i := 2) rfl)) (fun _ h9 => h9) rfl dX5_make_95 ?_
          rw [show ((tset (tset (tset (tset (tset M 0 0 0) 3 (n 0) v1) 4 (n 0) v2) 5 (n 0) v3) 2 0 ((M 2 0) + 1)) 2 0) = ((M 2 0) + 1) from by rw [tset_s]]
          refine lv_iconst (v := 1) hx hb dX5_make_98 (by decide) ?_
          refine lv_isub hx hb dX5_make_99 ?_
          exact g_wret (u := ()) (post := fun r _ => r = f_X5_make n M v1 v2 v3) (B := fun _ H => gW D A ad (Wd G ad N C (s_X5_make n M v1 v2 v3) o) H) hx hb hr hlk hh hS (show (((M 2 0) + 1) - 1) = f_X5_make n M v1 v2 v3 from by rw [f_X5_make, if_neg c_11_1, if_neg c_21_4, if_neg c_30_7, if_neg c_45_8]) (show gW D A ad (Wd G ad N C (s_X5_make n M v1 v2 v3) o) H from by rw [s_X5_make, if_neg c_11_1, if_neg c_21_4, if_neg c_30_7, if_neg c_45_8]; exact hW) dX5_make_100
        · refine lv_aload_n hx hb dX5_make_48 rfl (lv_at hl 0 rfl) ?_
          refine lv_iconst (v := 2) hx hb dX5_make_49 (by decide) ?_
          refine g_wVi (As := [.int 2]) (rest := []) (B := fun (_ : Unit) H => gW D A ad (Wd G ad N C (s_X5_no (tset M 0 0 0) 2) o) H) (mc := 0) (ms := 0) C0 (c_X5_no l D G A ad N C (tset M 0 0 0) o H hW 2) (cwV 1 hts gX5_make_X5_no rfl rfl rfl (by decide +kernel) ⟨Nat.le_of_ble_eq_true rfl, Nat.le_of_ble_eq_true rfl⟩) hK (va_recv hK (hW.p rfl) (ci := 6) (q0 := 0) rfl rfl) rfl hl rfl (Nat.le_of_ble_eq_true rfl) dX5_make_50 ⟨Nat.zero_le _, Nat.zero_le _⟩ hS (fun r_10 ur_10 H locs hr_10 hW hzr_10 hS => ?_)
          have hW : gW D A ad (Wd G ad N C (s_X5_no (tset M 0 0 0) 2) o) H := hW
          subst hr_10
          exact g_wret (u := ()) (post := fun r _ => r = f_X5_make n M v1 v2 v3) (B := fun _ H => gW D A ad (Wd G ad N C (s_X5_make n M v1 v2 v3) o) H) hx hb hr hlk hh hS (show (f_X5_no (tset M 0 0 0) 2) = f_X5_make n M v1 v2 v3 from by rw [f_X5_make, if_neg c_11_1, if_neg c_21_4, if_neg c_30_7, if_pos c_45_8]) (show gW D A ad (Wd G ad N C (s_X5_make n M v1 v2 v3) o) H from by rw [s_X5_make, if_neg c_11_1, if_neg c_21_4, if_neg c_30_7, if_pos c_45_8]; exact hW) dX5_make_53
      · refine lv_aload_n hx hb dX5_make_33 rfl (lv_at hl 0 rfl) ?_
        refine lv_iconst (v := 1) hx hb dX5_make_34 (by decide) ?_
        refine g_wVi (As := [.int 1]) (rest := []) (B := fun (_ : Unit) H => gW D A ad (Wd G ad N C (s_X5_no (tset M 0 0 0) 1) o) H) (mc := 0) (ms := 0) C0 (c_X5_no l D G A ad N C (tset M 0 0 0) o H hW 1) (cwV 1 hts gX5_make_X5_no rfl rfl rfl (by decide +kernel) ⟨Nat.le_of_ble_eq_true rfl, Nat.le_of_ble_eq_true rfl⟩) hK (va_recv hK (hW.p rfl) (ci := 6) (q0 := 0) rfl rfl) rfl hl rfl (Nat.le_of_ble_eq_true rfl) dX5_make_35 ⟨Nat.zero_le _, Nat.zero_le _⟩ hS (fun r_11 ur_11 H locs hr_11 hW hzr_11 hS => ?_)
        have hW : gW D A ad (Wd G ad N C (s_X5_no (tset M 0 0 0) 1) o) H := hW
        subst hr_11
        exact g_wret (u := ()) (post := fun r _ => r = f_X5_make n M v1 v2 v3) (B := fun _ H => gW D A ad (Wd G ad N C (s_X5_make n M v1 v2 v3) o) H) hx hb hr hlk hh hS (show (f_X5_no (tset M 0 0 0) 1) = f_X5_make n M v1 v2 v3 from by rw [f_X5_make, if_neg c_11_1, if_neg c_21_4, if_pos c_30_7]) (show gW D A ad (Wd G ad N C (s_X5_make n M v1 v2 v3) o) H from by rw [s_X5_make, if_neg c_11_1, if_neg c_21_4, if_pos c_30_7]; exact hW) dX5_make_38
def f_X5_follow (n : gN) (M : gT) (v1 : Int32) (v2 : Int32) : Int32 := (if (f_X5_isScene (tset M 0 0 0) v1) = 0 then (f_X5_no (tset M 0 0 0) 1) else (if (f_X5_isScene (tset M 0 0 0) v2) = 0 then (f_X5_no (tset M 0 0 0) 1) else (if (M 3 v1.toNatClampNeg) = 2 then (f_X5_no (tset M 0 0 0) 2) else (if (M 3 v2.toNatClampNeg) = 0 then (f_X5_no (tset M 0 0 0) 2) else (if v1 = v2 then (f_X5_no (tset M 0 0 0) 2) else (if (f_X5_has (M 6 v1.toNatClampNeg) v2) = 0 then (if (f_X5_pairs n (tset M 0 0 0)) = 60 then (f_X5_no (tset M 0 0 0) 3) else (f_X5_pairs n (tset (tset M 0 0 0) 6 v1.toNatClampNeg ((M 6 v1.toNatClampNeg) ||| (1 <<< (v2 &&& 31)))))) else (f_X5_pairs n (tset (tset M 0 0 0) 6 v1.toNatClampNeg ((M 6 v1.toNatClampNeg) ||| (1 <<< (v2 &&& 31)))))))))))
def s_X5_follow (n : gN) (M : gT) (v1 : Int32) (v2 : Int32) : gT := (if (f_X5_isScene (tset M 0 0 0) v1) = 0 then (s_X5_no (tset M 0 0 0) 1) else (if (f_X5_isScene (tset M 0 0 0) v2) = 0 then (s_X5_no (tset M 0 0 0) 1) else (if (M 3 v1.toNatClampNeg) = 2 then (s_X5_no (tset M 0 0 0) 2) else (if (M 3 v2.toNatClampNeg) = 0 then (s_X5_no (tset M 0 0 0) 2) else (if v1 = v2 then (s_X5_no (tset M 0 0 0) 2) else (if (f_X5_has (M 6 v1.toNatClampNeg) v2) = 0 then (if (f_X5_pairs n (tset M 0 0 0)) = 60 then (s_X5_no (tset M 0 0 0) 3) else (tset (tset M 0 0 0) 6 v1.toNatClampNeg ((M 6 v1.toNatClampNeg) ||| (1 <<< (v2 &&& 31))))) else (tset (tset M 0 0 0) 6 v1.toNatClampNeg ((M 6 v1.toNatClampNeg) ||| (1 <<< (v2 &&& 31))))))))))
set_option maxHeartbeats 4000000 in
set_option maxRecDepth 100000 in
theorem c_X5_follow (l : Launch) (D : va_G) (G : gG) (A : Nat → Prop) (ad : gAd) (N : gN) (C M : gT) (o : Nat → Int64) (Hp : Heap) (hW : gW D A ad (Wd G ad N C M o) Hp) (n : gN) (hI : IM n M) (v1 v2 : Int32) : Met l yX5_follow wsX5_follow ({ frames := 2, cells := 0, slots := 0, locals := 43 }) (va_Pc [.ref (ad 0 1), .int v1, .int v2] (gQ D (gTs G) Hp)) (va_Qi (fun r (_ : Unit) => r = f_X5_follow n M v1 v2) (fun _ t => gW D A ad (Wd G ad N C (s_X5_follow n M v1 v2) o) t.heap) A) 0 0 A := by
  refine g_start (cc := cX5_follow) (maxL := 3) (ret := (some .int)) (by decide) rfl (Nat.le_of_ble_eq_true rfl) (fun p e s m below meth c ls C0 hr hlk hnm hh hK hl => ?_)
  obtain ⟨hx, hb, hml, hown, hts⟩ := id C0
  have hown : s.vm.findClass RX5 = some m.cls := hown
  have hS : va_S A Hp Hp [] := va_S.rf
  have hl : lv_has ls 3 [(0, .ref (ad 0 1)), (1, .int v1), (2, .int v2)] := hl
  have inX5 : ∀ w ∈ wsX50, w ∈ wsX5_follow := by decide +kernel
  obtain ⟨⟨hb0, hn0⟩, ⟨hb1, hn1⟩, ⟨hb2, hn2⟩, ⟨hb3, hn3⟩, hpl, hhe⟩ := id hI
  have hI0 := IM_t0 (v := 0) hI
  refine lv_aload_n hx hb dX5_follow_0 rfl (lv_at hl 0 rfl) ?_
  refine lv_iconst (v := 0) hx hb dX5_follow_1 (by decide) ?_
  refine g_put (D := D) (ci := 6) (v := .int 0) (ty := .int) (C := RX5) (T := TX5) (N := 23) (ct' := (Wd G ad N C (tset M 0 0 0) o)) hx hb hts inX5 tyX5 tyX5_ok nmX5 hown hK hW hS (show Wd G ad N C M o 0 1 = some (eMod ad M) from rfl) rfl 0 (by decide) (hts (.fieldLink RX5 59 "StoryTollModel" "thrown" "I") (List.mem_of_getElem? (i := 1) rfl)) (fun _ h9 => h9) rfl (by decide +kernel) rfl rfl (Nat.le_of_ble_eq_true rfl) dX5_follow_2 Wd_m0 (Wd_tM rfl) (fun H locs hW hS => ?_)
  refine lv_aload_n hx hb dX5_follow_5 rfl (lv_at hl 0 rfl) ?_
  refine lv_iload_n hx hb dX5_follow_6 rfl (lv_at hl 1 rfl) ?_
  refine g_Vi (As := [.int v1]) (rest := []) C0 (c_X5_isScene l D G A ad N C (tset M 0 0 0) o H hW v1) (cwV 1 hts gX5_follow_X5_isScene rfl rfl rfl (by decide +kernel) ⟨Nat.le_of_ble_eq_true rfl, Nat.le_of_ble_eq_true rfl⟩) hK (va_recv hK (hW.p rfl) (ci := 6) (q0 := 0) rfl rfl) rfl hl rfl (Nat.le_of_ble_eq_true rfl) dX5_follow_7 ⟨Nat.zero_le _, Nat.zero_le _⟩ hS (fun r_1 locs hr_1 hS => ?_)
  subst hr_1
  refine lv_if_eq (tgt := 21) hx hb dX5_follow_10 (by decide) (fun c_10_1 => ?_) (fun c_10_1 => ?_)
  · refine lv_aload_n hx hb dX5_follow_21 rfl (lv_at hl 0 rfl) ?_
    refine lv_iconst (v := 1) hx hb dX5_follow_22 (by decide) ?_
    refine g_wVi (As := [.int 1]) (rest := []) (B := fun (_ : Unit) H => gW D A ad (Wd G ad N C (s_X5_no (tset M 0 0 0) 1) o) H) (mc := 0) (ms := 0) C0 (c_X5_no l D G A ad N C (tset M 0 0 0) o H hW 1) (cwV 1 hts gX5_follow_X5_no rfl rfl rfl (by decide +kernel) ⟨Nat.le_of_ble_eq_true rfl, Nat.le_of_ble_eq_true rfl⟩) hK (va_recv hK (hW.p rfl) (ci := 6) (q0 := 0) rfl rfl) rfl hl rfl (Nat.le_of_ble_eq_true rfl) dX5_follow_23 ⟨Nat.zero_le _, Nat.zero_le _⟩ hS (fun r_3 ur_3 H locs hr_3 hW hzr_3 hS => ?_)
    have hW : gW D A ad (Wd G ad N C (s_X5_no (tset M 0 0 0) 1) o) H := hW
    subst hr_3
    exact g_wret (u := ()) (post := fun r _ => r = f_X5_follow n M v1 v2) (B := fun _ H => gW D A ad (Wd G ad N C (s_X5_follow n M v1 v2) o) H) hx hb hr hlk hh hS (show (f_X5_no (tset M 0 0 0) 1) = f_X5_follow n M v1 v2 from by rw [f_X5_follow, if_pos c_10_1]) (show gW D A ad (Wd G ad N C (s_X5_follow n M v1 v2) o) H from by rw [s_X5_follow, if_pos c_10_1]; exact hW) dX5_follow_26
  · have hv1 := is_idx hb0 (by omega) c_10_1
    refine lv_aload_n hx hb dX5_follow_13 rfl (lv_at hl 0 rfl) ?_
    refine lv_iload_n hx hb dX5_follow_14 rfl (lv_at hl 2 rfl) ?_
    refine g_Vi (As := [.int v2]) (rest := []) C0 (c_X5_isScene l D G A ad N C (tset M 0 0 0) o H hW v2) (cwV 1 hts gX5_follow_X5_isScene rfl rfl rfl (by decide +kernel) ⟨Nat.le_of_ble_eq_true rfl, Nat.le_of_ble_eq_true rfl⟩) hK (va_recv hK (hW.p rfl) (ci := 6) (q0 := 0) rfl rfl) rfl hl rfl (Nat.le_of_ble_eq_true rfl) dX5_follow_15 ⟨Nat.zero_le _, Nat.zero_le _⟩ hS (fun r_4 locs hr_4 hS => ?_)
    subst hr_4
    refine lv_if_ne (tgt := 27) hx hb dX5_follow_18 (by decide) (fun c_18_4 => ?_) (fun c_18_4 => ?_)
    · have hv2 := is_idx hb0 (by omega) c_18_4
      refine lv_aload_n hx hb dX5_follow_27 rfl (lv_at hl 0 rfl) ?_
      refine va_get (D := D) (ci := 6) (v := .ref (ad 9 3)) (C := RX5) (T := TX5) (N := 23) hx hb hts inX5 hown hK (hW.p (e := (eMod ad (tset M 0 0 0))) rfl) 0 rfl rfl 3 (by decide) (hts (.fieldLink RX5 9 "StoryTollModel" "kind" "[I") (List.mem_of_getElem? (i := 2) rfl)) (fun _ h9 => h9) rfl dX5_follow_28 ?_
      refine lv_iload_n hx hb dX5_follow_31 rfl (lv_at hl 1 rfl) ?_
      refine g_ild hx hb hK hW 0 (n := 24) (f := ((tset M 0 0 0) 3)) rfl rfl (k := v1.toNatClampNeg) hv1.1 (by omega) (by decide) dX5_follow_32 ?_
      rw [show ((tset M 0 0 0) 3 v1.toNatClampNeg) = (M 3 v1.toNatClampNeg) from by rw [tset_of (by decide)]]
      refine lv_iconst (v := 2) hx hb dX5_follow_33 (by decide) ?_
      refine lv_icmp_eq (tgt := 51) hx hb dX5_follow_34 (by decide) (fun c_34_5 => ?_) (fun c_34_5 => ?_)
      · refine lv_aload_n hx hb dX5_follow_51 rfl (lv_at hl 0 rfl) ?_
        refine lv_iconst (v := 2) hx hb dX5_follow_52 (by decide) ?_
        refine g_wVi (As := [.int 2]) (rest := []) (B := fun (_ : Unit) H => gW D A ad (Wd G ad N C (s_X5_no (tset M 0 0 0) 2) o) H) (mc := 0) (ms := 0) C0 (c_X5_no l D G A ad N C (tset M 0 0 0) o H hW 2) (cwV 1 hts gX5_follow_X5_no rfl rfl rfl (by decide +kernel) ⟨Nat.le_of_ble_eq_true rfl, Nat.le_of_ble_eq_true rfl⟩) hK (va_recv hK (hW.p rfl) (ci := 6) (q0 := 0) rfl rfl) rfl hl rfl (Nat.le_of_ble_eq_true rfl) dX5_follow_53 ⟨Nat.zero_le _, Nat.zero_le _⟩ hS (fun r_7 ur_7 H locs hr_7 hW hzr_7 hS => ?_)
        have hW : gW D A ad (Wd G ad N C (s_X5_no (tset M 0 0 0) 2) o) H := hW
        subst hr_7
        exact g_wret (u := ()) (post := fun r _ => r = f_X5_follow n M v1 v2) (B := fun _ H => gW D A ad (Wd G ad N C (s_X5_follow n M v1 v2) o) H) hx hb hr hlk hh hS (show (f_X5_no (tset M 0 0 0) 2) = f_X5_follow n M v1 v2 from by rw [f_X5_follow, if_neg c_10_1, if_neg c_18_4, if_pos c_34_5]) (show gW D A ad (Wd G ad N C (s_X5_follow n M v1 v2) o) H from by rw [s_X5_follow, if_neg c_10_1, if_neg c_18_4, if_pos c_34_5]; exact hW) dX5_follow_56
      · refine lv_aload_n hx hb dX5_follow_37 rfl (lv_at hl 0 rfl) ?_
        refine va_get (D := D) (ci := 6) (v := .ref (ad 9 3)) (C := RX5) (T := TX5) (N := 23) hx hb hts inX5 hown hK (hW.p (e := (eMod ad (tset M 0 0 0))) rfl) 0 rfl rfl 3 (by decide) (hts (.fieldLink RX5 9 "StoryTollModel" "kind" "[I") (List.mem_of_getElem? (i := 2) rfl)) (fun _ h9 => h9) rfl dX5_follow_38 ?_
        refine lv_iload_n hx hb dX5_follow_41 rfl (lv_at hl 2 rfl) ?_
        refine g_ild hx hb hK hW 0 (n := 24) (f := ((tset M 0 0 0) 3)) rfl rfl (k := v2.toNatClampNeg) hv2.1 (by omega) (by decide) dX5_follow_42 ?_
        rw [show ((tset M 0 0 0) 3 v2.toNatClampNeg) = (M 3 v2.toNatClampNeg) from by rw [tset_of (by decide)]]
        refine lv_if_eq (tgt := 51) hx hb dX5_follow_43 (by decide) (fun c_43_7 => ?_) (fun c_43_7 => ?_)
        · refine lv_aload_n hx hb dX5_follow_51 rfl (lv_at hl 0 rfl) ?_
          refine lv_iconst (v := 2) hx hb dX5_follow_52 (by decide) ?_
          refine g_wVi (As := [.int 2]) (rest := []) (B := fun (_ : Unit) H => gW D A ad (Wd G ad N C (s_X5_no (tset M 0 0 0) 2) o) H) (mc := 0) (ms := 0) C0 (c_X5_no l D G A ad N C (tset M 0 0 0) o H hW 2) (cwV 1 hts gX5_follow_X5_no rfl rfl rfl (by decide +kernel) ⟨Nat.le_of_ble_eq_true rfl, Nat.le_of_ble_eq_true rfl⟩) hK (va_recv hK (hW.p rfl) (ci := 6) (q0 := 0) rfl rfl) rfl hl rfl (Nat.le_of_ble_eq_true rfl) dX5_follow_53 ⟨Nat.zero_le _, Nat.zero_le _⟩ hS (fun r_9 ur_9 H locs hr_9 hW hzr_9 hS => ?_)
          have hW : gW D A ad (Wd G ad N C (s_X5_no (tset M 0 0 0) 2) o) H := hW
          subst hr_9
          exact g_wret (u := ()) (post := fun r _ => r = f_X5_follow n M v1 v2) (B := fun _ H => gW D A ad (Wd G ad N C (s_X5_follow n M v1 v2) o) H) hx hb hr hlk hh hS (show (f_X5_no (tset M 0 0 0) 2) = f_X5_follow n M v1 v2 from by rw [f_X5_follow, if_neg c_10_1, if_neg c_18_4, if_neg c_34_5, if_pos c_43_7]) (show gW D A ad (Wd G ad N C (s_X5_follow n M v1 v2) o) H from by rw [s_X5_follow, if_neg c_10_1, if_neg c_18_4, if_neg c_34_5, if_pos c_43_7]; exact hW) dX5_follow_56
        · refine lv_iload_n hx hb dX5_follow_46 rfl (lv_at hl 1 rfl) ?_
          refine lv_iload_n hx hb dX5_follow_47 rfl (lv_at hl 2 rfl) ?_
          refine lv_icmp_ne (tgt := 57) hx hb dX5_follow_48 (by decide) (fun c_48_9 => ?_) (fun c_48_9 => ?_)
          · refine lv_aload_n hx hb dX5_follow_57 rfl (lv_at hl 0 rfl) ?_
            refine va_get (D := D) (ci := 6) (v := .ref (ad 9 6)) (C := RX5) (T := TX5) (N := 23) hx hb hts inX5 hown hK (hW.p (e := (eMod ad (tset M 0 0 0))) rfl) 0 rfl rfl 6 (by decide) (hts (.fieldLink RX5 19 "StoryTollModel" "behind" "[I") (List.mem_of_getElem? (i := 3) rfl)) (fun _ h9 => h9) rfl dX5_follow_58 ?_
            refine lv_iload_n hx hb dX5_follow_61 rfl (lv_at hl 1 rfl) ?_
            refine g_ild hx hb hK hW 0 (n := 24) (f := ((tset M 0 0 0) 6)) rfl rfl (k := v1.toNatClampNeg) hv1.1 (by omega) (by decide) dX5_follow_62 ?_
            rw [show ((tset M 0 0 0) 6 v1.toNatClampNeg) = (M 6 v1.toNatClampNeg) from by rw [tset_of (by decide)]]
            refine lv_iload_n hx hb dX5_follow_63 rfl (lv_at hl 2 rfl) ?_
            refine g_Si (As := [.int (M 6 v1.toNatClampNeg), .int v2]) (rest := []) C0 (c_X5_has l D G H (M 6 v1.toNatClampNeg) v2) (va_cwS 2 hts gX5_follow_X5_has rfl rfl rfl (by decide +kernel) ⟨Nat.le_of_ble_eq_true rfl, Nat.le_of_ble_eq_true rfl⟩) hK rfl hl rfl (Nat.le_of_ble_eq_true rfl) dX5_follow_64 ⟨Nat.zero_le _, Nat.zero_le _⟩ hS (fun r_11 locs hr_11 hS => ?_)
            subst hr_11
            refine lv_if_ne (tgt := 85) hx hb dX5_follow_67 (by decide) (fun c_67_11 => ?_) (fun c_67_11 => ?_)
            · refine lv_aload_n hx hb dX5_follow_85 rfl (lv_at hl 0 rfl) ?_
              refine va_get (D := D) (ci := 6) (v := .ref (ad 9 6)) (C := RX5) (T := TX5) (N := 23) hx hb hts inX5 hown hK (hW.p (e := (eMod ad (tset M 0 0 0))) rfl) 0 rfl rfl 6 (by decide) (hts (.fieldLink RX5 19 "StoryTollModel" "behind" "[I") (List.mem_of_getElem? (i := 3) rfl)) (fun _ h9 => h9) rfl dX5_follow_86 ?_
              refine lv_iload_n hx hb dX5_follow_89 rfl (lv_at hl 1 rfl) ?_
              refine lv_dup2_11 hx hb dX5_follow_90 rfl rfl ?_
              refine g_ild hx hb hK hW 0 (n := 24) (f := ((tset M 0 0 0) 6)) rfl rfl (k := v1.toNatClampNeg) hv1.1 (by omega) (by decide) dX5_follow_91 ?_
              rw [show ((tset M 0 0 0) 6 v1.toNatClampNeg) = (M 6 v1.toNatClampNeg) from by rw [tset_of (by decide)]]
              refine lv_iconst (v := 1) hx hb dX5_follow_92 (by decide) ?_
              refine lv_iload_n hx hb dX5_follow_93 rfl (lv_at hl 2 rfl) ?_
              refine lv_ishl hx hb dX5_follow_94 ?_
              refine lv_ior hx hb dX5_follow_95 ?_
              refine g_istN (ct' := (Wd G ad N C (tset (tset M 0 0 0) 6 v1.toNatClampNeg ((M 6 v1.toNatClampNeg) ||| (1 <<< (v2 &&& 31)))) o)) hx hb hK hW hS 0 (n := 24) (f := ((tset M 0 0 0) 6)) rfl rfl (k := v1.toNatClampNeg) hv1.1 (by omega) (by decide) dX5_follow_96 (Wd_An (by decide)) (Wd_tA (by decide)) (fun H locs hW hS => ?_)
              refine lv_aload_n hx hb dX5_follow_97 rfl (lv_at hl 0 rfl) ?_
              refine g_Vi (As := []) (rest := []) C0 (c_X5_pairs l D G A ad N C (tset (tset M 0 0 0) 6 v1.toNatClampNeg ((M 6 v1.toNatClampNeg) ||| (1 <<< (v2 &&& 31)))) o H hW n hb0 (by omega)) (cwV 0 hts gX5_follow_X5_pairs rfl rfl rfl (by decide +kernel) ⟨Nat.le_of_ble_eq_true rfl, Nat.le_of_ble_eq_true rfl⟩) hK (va_recv hK (hW.p rfl) (ci := 6) (q0 := 0) rfl rfl) rfl hl rfl (Nat.le_of_ble_eq_true rfl) dX5_follow_98 ⟨Nat.zero_le _, Nat.zero_le _⟩ hS (fun r_13 locs hr_13 hS => ?_)
              subst hr_13
              exact g_wret (u := ()) (post := fun r _ => r = f_X5_follow n M v1 v2) (B := fun _ H => gW D A ad (Wd G ad N C (s_X5_follow n M v1 v2) o) H) hx hb hr hlk hh hS (show (f_X5_pairs n (tset (tset M 0 0 0) 6 v1.toNatClampNeg ((M 6 v1.toNatClampNeg) ||| (1 <<< (v2 &&& 31))))) = f_X5_follow n M v1 v2 from by rw [f_X5_follow, if_neg c_10_1, if_neg c_18_4, if_neg c_34_5, if_neg c_43_7, if_neg c_48_9, if_neg c_67_11]) (show gW D A ad (Wd G ad N C (s_X5_follow n M v1 v2) o) H from by rw [s_X5_follow, if_neg c_10_1, if_neg c_18_4, if_neg c_34_5, if_neg c_43_7, if_neg c_48_9, if_neg c_67_11]; exact hW) dX5_follow_101
            · refine lv_aload_n hx hb dX5_follow_70 rfl (lv_at hl 0 rfl) ?_
              refine g_Vi (As := []) (rest := []) C0 (c_X5_pairs l D G A ad N C (tset M 0 0 0) o H hW n hb0 (by omega)) (cwV 0 hts gX5_follow_X5_pairs rfl rfl rfl (by decide +kernel) ⟨Nat.le_of_ble_eq_true rfl, Nat.le_of_ble_eq_true rfl⟩) hK (va_recv hK (hW.p rfl) (ci := 6) (q0 := 0) rfl rfl) rfl hl rfl (Nat.le_of_ble_eq_true rfl) dX5_follow_71 ⟨Nat.zero_le _, Nat.zero_le _⟩ hS (fun r_14 locs hr_14 hS => ?_)
              subst hr_14
              refine lv_bipush (v := 60) hx hb dX5_follow_74 (by decide) ?_
              refine lv_icmp_ne (tgt := 85) hx hb dX5_follow_76 (by decide) (fun c_76_14 => ?_) (fun c_76_14 => ?_)
              · refine lv_aload_n hx hb dX5_follow_85 rfl (lv_at hl 0 rfl) ?_
                refine va_get (D := D) (ci := 6) (v := .ref (ad 9 6)) (C := RX5) (T := TX5) (N := 23) hx hb hts inX5 hown hK (hW.p (e := (eMod ad (tset M 0 0 0))) rfl) 0 rfl rfl 6 (by decide) (hts (.fieldLink RX5 19 "StoryTollModel" "behind" "[I") (List.mem_of_getElem? (i := 3) rfl)) (fun _ h9 => h9) rfl dX5_follow_86 ?_
                refine lv_iload_n hx hb dX5_follow_89 rfl (lv_at hl 1 rfl) ?_
                refine lv_dup2_11 hx hb dX5_follow_90 rfl rfl ?_
                refine g_ild hx hb hK hW 0 (n := 24) (f := ((tset M 0 0 0) 6)) rfl rfl (k := v1.toNatClampNeg) hv1.1 (by omega) (by decide) dX5_follow_91 ?_
                rw [show ((tset M 0 0 0) 6 v1.toNatClampNeg) = (M 6 v1.toNatClampNeg) from by rw [tset_of (by decide)]]
                refine lv_iconst (v := 1) hx hb dX5_follow_92 (by decide) ?_
                refine lv_iload_n hx hb dX5_follow_93 rfl (lv_at hl 2 rfl) ?_
                refine lv_ishl hx hb dX5_follow_94 ?_
                refine lv_ior hx hb dX5_follow_95 ?_
                refine g_istN (ct' := (Wd G ad N C (tset (tset M 0 0 0) 6 v1.toNatClampNeg ((M 6 v1.toNatClampNeg) ||| (1 <<< (v2 &&& 31)))) o)) hx hb hK hW hS 0 (n := 24) (f := ((tset M 0 0 0) 6)) rfl rfl (k := v1.toNatClampNeg) hv1.1 (by omega) (by decide) dX5_follow_96 (Wd_An (by decide)) (Wd_tA (by decide)) (fun H locs hW hS => ?_)
                refine lv_aload_n hx hb dX5_follow_97 rfl (lv_at hl 0 rfl) ?_
                refine g_Vi (As := []) (rest := []) C0 (c_X5_pairs l D G A ad N C (tset (tset M 0 0 0) 6 v1.toNatClampNeg ((M 6 v1.toNatClampNeg) ||| (1 <<< (v2 &&& 31)))) o H hW n hb0 (by omega)) (cwV 0 hts gX5_follow_X5_pairs rfl rfl rfl (by decide +kernel) ⟨Nat.le_of_ble_eq_true rfl, Nat.le_of_ble_eq_true rfl⟩) hK (va_recv hK (hW.p rfl) (ci := 6) (q0 := 0) rfl rfl) rfl hl rfl (Nat.le_of_ble_eq_true rfl) dX5_follow_98 ⟨Nat.zero_le _, Nat.zero_le _⟩ hS (fun r_16 locs hr_16 hS => ?_)
                subst hr_16
                exact g_wret (u := ()) (post := fun r _ => r = f_X5_follow n M v1 v2) (B := fun _ H => gW D A ad (Wd G ad N C (s_X5_follow n M v1 v2) o) H) hx hb hr hlk hh hS (show (f_X5_pairs n (tset (tset M 0 0 0) 6 v1.toNatClampNeg ((M 6 v1.toNatClampNeg) ||| (1 <<< (v2 &&& 31))))) = f_X5_follow n M v1 v2 from by rw [f_X5_follow, if_neg c_10_1, if_neg c_18_4, if_neg c_34_5, if_neg c_43_7, if_neg c_48_9, if_pos c_67_11, if_neg c_76_14]) (show gW D A ad (Wd G ad N C (s_X5_follow n M v1 v2) o) H from by rw [s_X5_follow, if_neg c_10_1, if_neg c_18_4, if_neg c_34_5, if_neg c_43_7, if_neg c_48_9, if_pos c_67_11, if_neg c_76_14]; exact hW) dX5_follow_101
              · refine lv_aload_n hx hb dX5_follow_79 rfl (lv_at hl 0 rfl) ?_
                refine lv_iconst (v := 3) hx hb dX5_follow_80 (by decide) ?_
                refine g_wVi (As := [.int 3]) (rest := []) (B := fun (_ : Unit) H => gW D A ad (Wd G ad N C (s_X5_no (tset M 0 0 0) 3) o) H) (mc := 0) (ms := 0) C0 (c_X5_no l D G A ad N C (tset M 0 0 0) o H hW 3) (cwV 1 hts gX5_follow_X5_no rfl rfl rfl (by decide +kernel) ⟨Nat.le_of_ble_eq_true rfl, Nat.le_of_ble_eq_true rfl⟩) hK (va_recv hK (hW.p rfl) (ci := 6) (q0 := 0) rfl rfl) rfl hl rfl (Nat.le_of_ble_eq_true rfl) dX5_follow_81 ⟨Nat.zero_le _, Nat.zero_le _⟩ hS (fun r_17 ur_17 H locs hr_17 hW hzr_17 hS => ?_)
                have hW : gW D A ad (Wd G ad N C (s_X5_no (tset M 0 0 0) 3) o) H := hW
                subst hr_17
                exact g_wret (u := ()) (post := fun r _ => r = f_X5_follow n M v1 v2) (B := fun _ H => gW D A ad (Wd G ad N C (s_X5_follow n M v1 v2) o) H) hx hb hr hlk hh hS (show (f_X5_no (tset M 0 0 0) 3) = f_X5_follow n M v1 v2 from by rw [f_X5_follow, if_neg c_10_1, if_neg c_18_4, if_neg c_34_5, if_neg c_43_7, if_neg c_48_9, if_pos c_67_11, if_pos c_76_14]) (show gW D A ad (Wd G ad N C (s_X5_follow n M v1 v2) o) H from by rw [s_X5_follow, if_neg c_10_1, if_neg c_18_4, if_neg c_34_5, if_neg c_43_7, if_neg c_48_9, if_pos c_67_11, if_pos c_76_14]; exact hW) dX5_follow_84
          · refine lv_aload_n hx hb dX5_follow_51 rfl (lv_at hl 0 rfl) ?_
            refine lv_iconst (v := 2) hx hb dX5_follow_52 (by decide) ?_
            refine g_wVi (As := [.int 2]) (rest := []) (B := fun (_ : Unit) H => gW D A ad (Wd G ad N C (s_X5_no (tset M 0 0 0) 2) o) H) (mc := 0) (ms := 0) C0 (c_X5_no l D G A ad N C (tset M 0 0 0) o H hW 2) (cwV 1 hts gX5_follow_X5_no rfl rfl rfl (by decide +kernel) ⟨Nat.le_of_ble_eq_true rfl, Nat.le_of_ble_eq_true rfl⟩) hK (va_recv hK (hW.p rfl) (ci := 6) (q0 := 0) rfl rfl) rfl hl rfl (Nat.le_of_ble_eq_true rfl) dX5_follow_53 ⟨Nat.zero_le _, Nat.zero_le _⟩ hS (fun r_18 ur_18 H locs hr_18 hW hzr_18 hS => ?_)
            have hW : gW D A ad (Wd G ad N C (s_X5_no (tset M 0 0 0) 2) o) H := hW
            subst hr_18
            exact g_wret (u := ()) (post := fun r _ => r = f_X5_follow n M v1 v2) (B := fun _ H => gW D A ad (Wd G ad N C (s_X5_follow n M v1 v2) o) H) hx hb hr hlk hh hS (show (f_X5_no (tset M 0 0 0) 2) = f_X5_follow n M v1 v2 from by rw [f_X5_follow, if_neg c_10_1, if_neg c_18_4, if_neg c_34_5, if_neg c_43_7, if_pos c_48_9]) (show gW D A ad (Wd G ad N C (s_X5_follow n M v1 v2) o) H from by rw [s_X5_follow, if_neg c_10_1, if_neg c_18_4, if_neg c_34_5, if_neg c_43_7, if_pos c_48_9]; exact hW) dX5_follow_56
    · refine lv_aload_n hx hb dX5_follow_21 rfl (lv_at hl 0 rfl) ?_
      refine lv_iconst (v := 1) hx hb dX5_follow_22 (by decide) ?_
      refine g_wVi (As := [.int 1]) (rest := []) (B := fun (_ : Unit) H => gW D A ad (Wd G ad N C (s_X5_no (tset M 0 0 0) 1) o) H) (mc := 0) (ms := 0) C0 (c_X5_no l D G A ad N C (tset M 0 0 0) o H hW 1) (cwV 1 hts gX5_follow_X5_no rfl rfl rfl (by decide +kernel) ⟨Nat.le_of_ble_eq_true rfl, Nat.le_of_ble_eq_true rfl⟩) hK (va_recv hK (hW.p rfl) (ci := 6) (q0 := 0) rfl rfl) rfl hl rfl (Nat.le_of_ble_eq_true rfl) dX5_follow_23 ⟨Nat.zero_le _, Nat.zero_le _⟩ hS (fun r_19 ur_19 H locs hr_19 hW hzr_19 hS => ?_)
      have hW : gW D A ad (Wd G ad N C (s_X5_no (tset M 0 0 0) 1) o) H := hW
      subst hr_19
      exact g_wret (u := ()) (post := fun r _ => r = f_X5_follow n M v1 v2) (B := fun _ H => gW D A ad (Wd G ad N C (s_X5_follow n M v1 v2) o) H) hx hb hr hlk hh hS (show (f_X5_no (tset M 0 0 0) 1) = f_X5_follow n M v1 v2 from by rw [f_X5_follow, if_neg c_10_1, if_pos c_18_4]) (show gW D A ad (Wd G ad N C (s_X5_follow n M v1 v2) o) H from by rw [s_X5_follow, if_neg c_10_1, if_pos c_18_4]; exact hW) dX5_follow_26
def f_X5_post (n : gN) (M : gT) : Int32 := (if (M 10 0) = 4 then (f_X5_no (tset M 0 0 0) 1) else (((M 10 0) + 1) - 1))
def s_X5_post (n : gN) (M : gT) : gT := (if (M 10 0) = 4 then (s_X5_no (tset M 0 0 0) 1) else (tset (tset (tset M 0 0 0) 12 (n 1) 20) 10 0 ((M 10 0) + 1)))
set_option maxHeartbeats 4000000 in
set_option maxRecDepth 100000 in
theorem c_X5_post (l : Launch) (D : va_G) (G : gG) (A : Nat → Prop) (ad : gAd) (N : gN) (C M : gT) (o : Nat → Int64) (Hp : Heap) (hW : gW D A ad (Wd G ad N C M o) Hp) (n : gN) (hI : IM n M) : Met l yX5_post wsX5_post ({ frames := 1, cells := 0, slots := 0, locals := 21 }) (va_Pc [.ref (ad 0 1)] (gQ D (gTs G) Hp)) (va_Qi (fun r (_ : Unit) => r = f_X5_post n M) (fun _ t => gW D A ad (Wd G ad N C (s_X5_post n M) o) t.heap) A) 0 0 A := by
  refine g_start (cc := cX5_post) (maxL := 1) (ret := (some .int)) (by decide) rfl (Nat.le_of_ble_eq_true rfl) (fun p e s m below meth c ls C0 hr hlk hnm hh hK hl => ?_)
  obtain ⟨hx, hb, hml, hown, hts⟩ := id C0
  have hown : s.vm.findClass RX5 = some m.cls := hown
  have hS : va_S A Hp Hp [] := va_S.rf
  have hl : lv_has ls 1 [(0, .ref (ad 0 1))] := hl
  have inX5 : ∀ w ∈ wsX50, w ∈ wsX5_post := by decide +kernel
  obtain ⟨⟨hb0, hn0⟩, ⟨hb1, hn1⟩, ⟨hb2, hn2⟩, ⟨hb3, hn3⟩, hpl, hhe⟩ := id hI
  have hI0 := IM_t0 (v := 0) hI
  refine lv_aload_n hx hb dX5_post_0 rfl (lv_at hl 0 rfl) ?_
  refine lv_iconst (v := 0) hx hb dX5_post_1 (by decide) ?_
  refine g_put (D := D) (ci := 6) (v := .int 0) (ty := .int) (C := RX5) (T := TX5) (N := 23) (ct' := (Wd G ad N C (tset M 0 0 0) o)) hx hb hts inX5 tyX5 tyX5_ok nmX5 hown hK hW hS (show Wd G ad N C M o 0 1 = some (eMod ad M) from rfl) rfl 0 (by decide) (hts (.fieldLink RX5 59 "StoryTollModel" "thrown" "I") (List.mem_of_getElem? (i := 1) rfl)) (fun _ h9 => h9) rfl (by decide +kernel) rfl rfl (Nat.le_of_ble_eq_true rfl) dX5_post_2 Wd_m0 (Wd_tM rfl) (fun H locs hW hS => ?_)
  refine lv_aload_n hx hb dX5_post_5 rfl (lv_at hl 0 rfl) ?_
  refine va_get (D := D) (ci := 6) (v := .int ((tset M 0 0 0) 10 0)) (C := RX5) (T := TX5) (N := 23) hx hb hts inX5 hown hK (hW.p (e := (eMod ad (tset M 0 0 0))) rfl) 0 rfl rfl 10 (by decide) (hts (.fieldLink RX5 69 "StoryTollModel" "guards" "I") (List.mem_of_getElem? (i := 2) rfl)) (fun _ h9 => h9) rfl dX5_post_6 ?_
  rw [show ((tset M 0 0 0) 10 0) = (M 10 0) from by rw [tset_of (by decide)]]
  refine lv_iconst (v := 4) hx hb dX5_post_9 (by decide) ?_
  refine lv_icmp_ne (tgt := 19) hx hb dX5_post_10 (by decide) (fun c_10_0 => ?_) (fun c_10_0 => ?_)
  · have hlt := ne_lt hb1 (show (4 : Int32) = nI 4 from rfl) hn1 c_10_0
    refine lv_aload_n hx hb dX5_post_19 rfl (lv_at hl 0 rfl) ?_
    refine va_get (D := D) (ci := 6) (v := .ref (ad 9 12)) (C := RX5) (T := TX5) (N := 23) hx hb hts inX5 hown hK (hW.p (e := (eMod ad (tset M 0 0 0))) rfl) 0 rfl rfl 12 (by decide) (hts (.fieldLink RX5 32 "StoryTollModel" "patience" "[I") (List.mem_of_getElem? (i := 3) rfl)) (fun _ h9 => h9) rfl dX5_post_20 ?_
    refine lv_aload_n hx hb dX5_post_23 rfl (lv_at hl 0 rfl) ?_
    refine va_get (D := D) (ci := 6) (v := .int ((tset M 0 0 0) 10 0)) (C := RX5) (T := TX5) (N := 23) hx hb hts inX5 hown hK (hW.p (e := (eMod ad (tset M 0 0 0))) rfl) 0 rfl rfl 10 (by decide) (hts (.fieldLink RX5 69 "StoryTollModel" "guards" "I") (List.mem_of_getElem? (i := 2) rfl)) (fun _ h9 => h9) rfl dX5_post_24 ?_
    rw [show ((tset M 0 0 0) 10 0) = (M 10 0) from by rw [tset_of (by decide)]]
    refine lv_bipush (v := 20) hx hb dX5_post_27 (by decide) ?_
    refine g_istN (ct' := (Wd G ad N C (tset (tset M 0 0 0) 12 (n 1) 20) o)) hx hb hK hW hS 0 (n := 4) (f := ((tset M 0 0 0) 12)) rfl rfl (k := (n 1)) hb1 (by omega) (by decide) dX5_post_29 (Wd_An (by decide)) (Wd_tA (by decide)) (fun H locs hW hS => ?_)
    refine lv_aload_n hx hb dX5_post_30 rfl (lv_at hl 0 rfl) ?_
    refine lv_dup hx hb dX5_post_31 rfl ?_
    refine va_get (D := D) (ci := 6) (v := .int ((tset (tset M 0 0 0) 12 (n 1) 20) 10 0)) (C := RX5) (T := TX5) (N := 23) hx hb hts inX5 hown hK (hW.p (e := (eMod ad (tset (tset M 0 0 0) 12 (n 1) 20))) rfl) 0 rfl rfl 10 (by decide) (hts (.fieldLink RX5 69 "StoryTollModel" "guards" "I") (List.mem_of_getElem? (i := 2) rfl)) (fun _ h9 => h9) rfl dX5_post_32 ?_
    rw [show ((tset (tset M 0 0 0) 12 (n 1) 20) 10 0) = (M 10 0) from by rw [tset_of (by decide), tset_of (by decide)]]
    refine lv_iconst (v := 1) hx hb dX5_post_35 (by decide) ?_
    refine lv_iadd hx hb dX5_post_36 ?_
    refine g_put (D := D) (ci := 6) (v := .int ((M 10 0) + 1)) (ty := .int) (C := RX5) (T := TX5) (N := 23) (ct' := (Wd G ad N C (tset (tset (tset M 0 0 0) 12 (n 1) 20) 10 0 ((M 10 0) + 1)) o)) hx hb hts inX5 tyX5 tyX5_ok nmX5 hown hK hW hS (show Wd G ad N C (tset (tset M 0 0 0) 12 (n 1) 20) o 0 1 = some (eMod ad (tset (tset M 0 0 0) 12 (n 1) 20)) from rfl) rfl 10 (by decide) (hts (.fieldLink RX5 69 "StoryTollModel" "guards" "I") (List.mem_of_getElem? (i := 2) rfl)) (fun _ h9 => h9) rfl (by decide +kernel) rfl rfl (Nat.le_of_ble_eq_true rfl) dX5_post_37 Wd_m10 (Wd_tM rfl) (fun H locs hW hS => ?_)
    refine lv_aload_n hx hb dX5_post_40 rfl (lv_at hl 0 rfl) ?_
    refine va_get (D := D) (ci := 6) (v := .int ((tset (tset (tset M 0 0 0) 12 (n 1) 20) 10 0 ((M 10 0) + 1)) 10 0)) (C := RX5) (T := TX5) (N := 23) hx hb hts inX5 hown hK (hW.p (e := (eMod ad (tset (tset (tset M 0 0 0) 12 (n 1) 20) 10 0 ((M 10 0) + 1)))) rfl) 0 rfl rfl 10 (by decide) (hts (.fieldLink RX5 69 "StoryTollModel" "guards" "I") (List.mem_of_getElem? (i := 2) rfl)) (fun _ h9 => h9) rfl dX5_post_41 ?_
    rw [show ((tset (tset (tset M 0 0 0) 12 (n 1) 20) 10 0 ((M 10 0) + 1)) 10 0) = ((M 10 0) + 1) from by rw [tset_s]]
    refine lv_iconst (v := 1) hx hb dX5_post_44 (by decide) ?_
    refine lv_isub hx hb dX5_post_45 ?_
    exact g_wret (u := ()) (post := fun r _ => r = f_X5_post n M) (B := fun _ H => gW D A ad (Wd G ad N C (s_X5_post n M) o) H) hx hb hr hlk hh hS (show (((M 10 0) + 1) - 1) = f_X5_post n M from by rw [f_X5_post, if_neg c_10_0]) (show gW D A ad (Wd G ad N C (s_X5_post n M) o) H from by rw [s_X5_post, if_neg c_10_0]; exact hW) dX5_post_46
  · refine lv_aload_n hx hb dX5_post_13 rfl (lv_at hl 0 rfl) ?_
    refine lv_iconst (v := 1) hx hb dX5_post_14 (by decide) ?_
    refine g_wVi (As := [.int 1]) (rest := []) (B := fun (_ : Unit) H => gW D A ad (Wd G ad N C (s_X5_no (tset M 0 0 0) 1) o) H) (mc := 0) (ms := 0) C0 (c_X5_no l D G A ad N C (tset M 0 0 0) o H hW 1) (cwV 1 hts gX5_post_X5_no rfl rfl rfl (by decide +kernel) ⟨Nat.le_of_ble_eq_true rfl, Nat.le_of_ble_eq_true rfl⟩) hK (va_recv hK (hW.p rfl) (ci := 6) (q0 := 0) rfl rfl) rfl hl rfl (Nat.le_of_ble_eq_true rfl) dX5_post_15 ⟨Nat.zero_le _, Nat.zero_le _⟩ hS (fun r_2 ur_2 H locs hr_2 hW hzr_2 hS => ?_)
    have hW : gW D A ad (Wd G ad N C (s_X5_no (tset M 0 0 0) 1) o) H := hW
    subst hr_2
    exact g_wret (u := ()) (post := fun r _ => r = f_X5_post n M) (B := fun _ H => gW D A ad (Wd G ad N C (s_X5_post n M) o) H) hx hb hr hlk hh hS (show (f_X5_no (tset M 0 0 0) 1) = f_X5_post n M from by rw [f_X5_post, if_pos c_10_0]) (show gW D A ad (Wd G ad N C (s_X5_post n M) o) H from by rw [s_X5_post, if_pos c_10_0]; exact hW) dX5_post_18
def f_X5_come (n : gN) (M : gT) (v1 : Int32) : Int32 := (if v1 < 0 then (f_X5_no (tset M 0 0 0) 1) else (if (v1 >>> ((M 2 0) &&& 31)) = 0 then (if (M 14 0) = 12 then (f_X5_no (tset M 0 0 0) 2) else (((M 14 0) + 1) - 1)) else (f_X5_no (tset M 0 0 0) 1)))
def s_X5_come (n : gN) (M : gT) (v1 : Int32) : gT := (if v1 < 0 then (s_X5_no (tset M 0 0 0) 1) else (if (v1 >>> ((M 2 0) &&& 31)) = 0 then (if (M 14 0) = 12 then (s_X5_no (tset M 0 0 0) 2) else (tset (tset (tset M 0 0 0) 15 (n 2) v1) 14 0 ((M 14 0) + 1))) else (s_X5_no (tset M 0 0 0) 1)))
set_option maxHeartbeats 4000000 in
set_option maxRecDepth 100000 in
theorem c_X5_come (l : Launch) (D : va_G) (G : gG) (A : Nat → Prop) (ad : gAd) (N : gN) (C M : gT) (o : Nat → Int64) (Hp : Heap) (hW : gW D A ad (Wd G ad N C M o) Hp) (n : gN) (hI : IM n M) (v1 : Int32) : Met l yX5_come wsX5_come ({ frames := 1, cells := 0, slots := 0, locals := 21 }) (va_Pc [.ref (ad 0 1), .int v1] (gQ D (gTs G) Hp)) (va_Qi (fun r (_ : Unit) => r = f_X5_come n M v1) (fun _ t => gW D A ad (Wd G ad N C (s_X5_come n M v1) o) t.heap) A) 0 0 A := by
  refine g_start (cc := cX5_come) (maxL := 2) (ret := (some .int)) (by decide) rfl (Nat.le_of_ble_eq_true rfl) (fun p e s m below meth c ls C0 hr hlk hnm hh hK hl => ?_)
  obtain ⟨hx, hb, hml, hown, hts⟩ := id C0
  have hown : s.vm.findClass RX5 = some m.cls := hown
  have hS : va_S A Hp Hp [] := va_S.rf
  have hl : lv_has ls 2 [(0, .ref (ad 0 1)), (1, .int v1)] := hl
  have inX5 : ∀ w ∈ wsX50, w ∈ wsX5_come := by decide +kernel
  obtain ⟨⟨hb0, hn0⟩, ⟨hb1, hn1⟩, ⟨hb2, hn2⟩, ⟨hb3, hn3⟩, hpl, hhe⟩ := id hI
  have hI0 := IM_t0 (v := 0) hI
  refine lv_aload_n hx hb dX5_come_0 rfl (lv_at hl 0 rfl) ?_
  refine lv_iconst (v := 0) hx hb dX5_come_1 (by decide) ?_
  refine g_put (D := D) (ci := 6) (v := .int 0) (ty := .int) (C := RX5) (T := TX5) (N := 23) (ct' := (Wd G ad N C (tset M 0 0 0) o)) hx hb hts inX5 tyX5 tyX5_ok nmX5 hown hK hW hS (show Wd G ad N C M o 0 1 = some (eMod ad M) from rfl) rfl 0 (by decide) (hts (.fieldLink RX5 59 "StoryTollModel" "thrown" "I") (List.mem_of_getElem? (i := 1) rfl)) (fun _ h9 => h9) rfl (by decide +kernel) rfl rfl (Nat.le_of_ble_eq_true rfl) dX5_come_2 Wd_m0 (Wd_tM rfl) (fun H locs hW hS => ?_)
  refine lv_iload_n hx hb dX5_come_5 rfl (lv_at hl 1 rfl) ?_
  refine lv_if_lt (tgt := 18) hx hb dX5_come_6 (by decide) (fun c_6_0 => ?_) (fun c_6_0 => ?_)
  · refine lv_aload_n hx hb dX5_come_18 rfl (lv_at hl 0 rfl) ?_
    refine lv_iconst (v := 1) hx hb dX5_come_19 (by decide) ?_
    refine g_wVi (As := [.int 1]) (rest := []) (B := fun (_ : Unit) H => gW D A ad (Wd G ad N C (s_X5_no (tset M 0 0 0) 1) o) H) (mc := 0) (ms := 0) C0 (c_X5_no l D G A ad N C (tset M 0 0 0) o H hW 1) (cwV 1 hts gX5_come_X5_no rfl rfl rfl (by decide +kernel) ⟨Nat.le_of_ble_eq_true rfl, Nat.le_of_ble_eq_true rfl⟩) hK (va_recv hK (hW.p rfl) (ci := 6) (q0 := 0) rfl rfl) rfl hl rfl (Nat.le_of_ble_eq_true rfl) dX5_come_20 ⟨Nat.zero_le _, Nat.zero_le _⟩ hS (fun r_2 ur_2 H locs hr_2 hW hzr_2 hS => ?_)
    have hW : gW D A ad (Wd G ad N C (s_X5_no (tset M 0 0 0) 1) o) H := hW
    subst hr_2
    exact g_wret (u := ()) (post := fun r _ => r = f_X5_come n M v1) (B := fun _ H => gW D A ad (Wd G ad N C (s_X5_come n M v1) o) H) hx hb hr hlk hh hS (show (f_X5_no (tset M 0 0 0) 1) = f_X5_come n M v1 from by rw [f_X5_come, if_pos c_6_0]) (show gW D A ad (Wd G ad N C (s_X5_come n M v1) o) H from by rw [s_X5_come, if_pos c_6_0]; exact hW) dX5_come_23
  · refine lv_iload_n hx hb dX5_come_9 rfl (lv_at hl 1 rfl) ?_
    refine lv_aload_n hx hb dX5_come_10 rfl (lv_at hl 0 rfl) ?_
    refine va_get (D := D) (ci := 6) (v := .int ((tset M 0 0 0) 2 0)) (C := RX5) (T := TX5) (N := 23) hx hb hts inX5 hown hK (hW.p (e := (eMod ad (tset M 0 0 0))) rfl) 0 rfl rfl 2 (by decide) (hts (.fieldLink RX5 62 "StoryTollModel" "scenes" "I") (List.mem_of_getElem? (i := 2) rfl)) (fun _ h9 => h9) rfl dX5_come_11 ?_
    rw [show ((tset M 0 0 0) 2 0) = (M 2 0) from by rw [tset_of (by decide)]]
    refine lv_ishr hx hb dX5_come_14 ?_
    refine lv_if_eq (tgt := 24) hx hb dX5_come_15 (by decide) (fun c_15_2 => ?_) (fun c_15_2 => ?_)
    · refine lv_aload_n hx hb dX5_come_24 rfl (lv_at hl 0 rfl) ?_
      refine va_get (D := D) (ci := 6) (v := .int ((tset M 0 0 0) 14 0)) (C := RX5) (T := TX5) (N := 23) hx hb hts inX5 hown hK (hW.p (e := (eMod ad (tset M 0 0 0))) rfl) 0 rfl rfl 14 (by decide) (hts (.fieldLink RX5 72 "StoryTollModel" "travellers" "I") (List.mem_of_getElem? (i := 3) rfl)) (fun _ h9 => h9) rfl dX5_come_25 ?_
      rw [show ((tset M 0 0 0) 14 0) = (M 14 0) from by rw [tset_of (by decide)]]
      refine lv_bipush (v := 12) hx hb dX5_come_28 (by decide) ?_
      refine lv_icmp_ne (tgt := 39) hx hb dX5_come_30 (by decide) (fun c_30_3 => ?_) (fun c_30_3 => ?_)
      · have hlt := ne_lt hb2 (show (12 : Int32) = nI 12 from rfl) hn2 c_30_3
        refine lv_aload_n hx hb dX5_come_39 rfl (lv_at hl 0 rfl) ?_
        refine va_get (D := D) (ci := 6) (v := .ref (ad 9 15)) (C := RX5) (T := TX5) (N := 23) hx hb hts inX5 hown hK (hW.p (e := (eMod ad (tset M 0 0 0))) rfl) 0 rfl rfl 15 (by decide) (hts (.fieldLink RX5 38 "StoryTollModel" "knows" "[I") (List.mem_of_getElem? (i := 4) rfl)) (fun _ h9 => h9) rfl dX5_come_40 ?_
        refine lv_aload_n hx hb dX5_come_43 rfl (lv_at hl 0 rfl) ?_
        refine va_get (D := D) (ci := 6) (v := .int ((tset M 0 0 0) 14 0)) (C := RX5) (T := TX5) (N := 23) hx hb hts inX5 hown hK (hW.p (e := (eMod ad (tset M 0 0 0))) rfl) 0 rfl rfl 14 (by decide) (hts (.fieldLink RX5 72 "StoryTollModel" "travellers" "I") (List.mem_of_getElem? (i := 3) rfl)) (fun _ h9 => h9) rfl dX5_come_44 ?_
        rw [show ((tset M 0 0 0) 14 0) = (M 14 0) from by rw [tset_of (by decide)]]
        refine lv_iload_n hx hb dX5_come_47 rfl (lv_at hl 1 rfl) ?_
        refine g_istN (ct' := (Wd G ad N C (tset (tset M 0 0 0) 15 (n 2) v1) o)) hx hb hK hW hS 0 (n := 12) (f := ((tset M 0 0 0) 15)) rfl rfl (k := (n 2)) hb2 (by omega) (by decide) dX5_come_48 (Wd_An (by decide)) (Wd_tA (by decide)) (fun H locs hW hS => ?_)
        refine lv_aload_n hx hb dX5_come_49 rfl (lv_at hl 0 rfl) ?_
        refine lv_dup hx hb dX5_come_50 rfl ?_
        refine va_get (D := D) (ci := 6) (v := .int ((tset (tset M 0 0 0) 15 (n 2) v1) 14 0)) (C := RX5) (T := TX5) (N := 23) hx hb hts inX5 hown hK (hW.p (e := (eMod ad (tset (tset M 0 0 0) 15 (n 2) v1))) rfl) 0 rfl rfl 14 (by decide) (hts (.fieldLink RX5 72 "StoryTollModel" "travellers" "I") (List.mem_of_getElem? (i := 3) rfl)) (fun _ h9 => h9) rfl dX5_come_51 ?_
        rw [show ((tset (tset M 0 0 0) 15 (n 2) v1) 14 0) = (M 14 0) from by rw [tset_of (by decide), tset_of (by decide)]]
        refine lv_iconst (v := 1) hx hb dX5_come_54 (by decide) ?_
        refine lv_iadd hx hb dX5_come_55 ?_
        refine g_put (D := D) (ci := 6) (v := .int ((M 14 0) + 1)) (ty := .int) (C := RX5) (T := TX5) (N := 23) (ct' := (Wd G ad N C (tset (tset (tset M 0 0 0) 15 (n 2) v1) 14 0 ((M 14 0) + 1)) o)) hx hb hts inX5 tyX5 tyX5_ok nmX5 hown hK hW hS (show Wd G ad N C (tset (tset M 0 0 0) 15 (n 2) v1) o 0 1 = some (eMod ad (tset (tset M 0 0 0) 15 (n 2) v1)) from rfl) rfl 14 (by decide) (hts (.fieldLink RX5 72 "StoryTollModel" "travellers" "I") (List.mem_of_getElem? (i := 3) rfl)) (fun _ h9 => h9) rfl (by decide +kernel) rfl rfl (Nat.le_of_ble_eq_true rfl) dX5_come_56 Wd_m14 (Wd_tM rfl) (fun H locs hW hS => ?_)
        refine lv_aload_n hx hb dX5_come_59 rfl (lv_at hl 0 rfl) ?_
        refine va_get (D := D) (ci := 6) (v := .int ((tset (tset (tset M 0 0 0) 15 (n 2) v1) 14 0 ((M 14 0) + 1)) 14 0)) (C := RX5) (T := TX5) (N := 23) hx hb hts inX5 hown hK (hW.p (e := (eMod ad (tset (tset (tset M 0 0 0) 15 (n 2) v1) 14 0 ((M 14 0) + 1)))) rfl) 0 rfl rfl 14 (by decide) (hts (.fieldLink RX5 72 "StoryTollModel" "travellers" "I") (List.mem_of_getElem? (i := 3) rfl)) (fun _ h9 => h9) rfl dX5_come_60 ?_
        rw [show ((tset (tset (tset M 0 0 0) 15 (n 2) v1) 14 0 ((M 14 0) + 1)) 14 0) = ((M 14 0) + 1) from by rw [tset_s]]
        refine lv_iconst (v := 1) hx hb dX5_come_63 (by decide) ?_
        refine lv_isub hx hb dX5_come_64 ?_
        exact g_wret (u := ()) (post := fun r _ => r = f_X5_come n M v1) (B := fun _ H => gW D A ad (Wd G ad N C (s_X5_come n M v1) o) H) hx hb hr hlk hh hS (show (((M 14 0) + 1) - 1) = f_X5_come n M v1 from by rw [f_X5_come, if_neg c_6_0, if_pos c_15_2, if_neg c_30_3]) (show gW D A ad (Wd G ad N C (s_X5_come n M v1) o) H from by rw [s_X5_come, if_neg c_6_0, if_pos c_15_2, if_neg c_30_3]; exact hW) dX5_come_65
      · refine lv_aload_n hx hb dX5_come_33 rfl (lv_at hl 0 rfl) ?_
        refine lv_iconst (v := 2) hx hb dX5_come_34 (by decide) ?_
        refine g_wVi (As := [.int 2]) (rest := []) (B := fun (_ : Unit) H => gW D A ad (Wd G ad N C (s_X5_no (tset M 0 0 0) 2) o) H) (mc := 0) (ms := 0) C0 (c_X5_no l D G A ad N C (tset M 0 0 0) o H hW 2) (cwV 1 hts gX5_come_X5_no rfl rfl rfl (by decide +kernel) ⟨Nat.le_of_ble_eq_true rfl, Nat.le_of_ble_eq_true rfl⟩) hK (va_recv hK (hW.p rfl) (ci := 6) (q0 := 0) rfl rfl) rfl hl rfl (Nat.le_of_ble_eq_true rfl) dX5_come_35 ⟨Nat.zero_le _, Nat.zero_le _⟩ hS (fun r_5 ur_5 H locs hr_5 hW hzr_5 hS => ?_)
        have hW : gW D A ad (Wd G ad N C (s_X5_no (tset M 0 0 0) 2) o) H := hW
        subst hr_5
        exact g_wret (u := ()) (post := fun r _ => r = f_X5_come n M v1) (B := fun _ H => gW D A ad (Wd G ad N C (s_X5_come n M v1) o) H) hx hb hr hlk hh hS (show (f_X5_no (tset M 0 0 0) 2) = f_X5_come n M v1 from by rw [f_X5_come, if_neg c_6_0, if_pos c_15_2, if_pos c_30_3]) (show gW D A ad (Wd G ad N C (s_X5_come n M v1) o) H from by rw [s_X5_come, if_neg c_6_0, if_pos c_15_2, if_pos c_30_3]; exact hW) dX5_come_38
    · refine lv_aload_n hx hb dX5_come_18 rfl (lv_at hl 0 rfl) ?_
      refine lv_iconst (v := 1) hx hb dX5_come_19 (by decide) ?_
      refine g_wVi (As := [.int 1]) (rest := []) (B := fun (_ : Unit) H => gW D A ad (Wd G ad N C (s_X5_no (tset M 0 0 0) 1) o) H) (mc := 0) (ms := 0) C0 (c_X5_no l D G A ad N C (tset M 0 0 0) o H hW 1) (cwV 1 hts gX5_come_X5_no rfl rfl rfl (by decide +kernel) ⟨Nat.le_of_ble_eq_true rfl, Nat.le_of_ble_eq_true rfl⟩) hK (va_recv hK (hW.p rfl) (ci := 6) (q0 := 0) rfl rfl) rfl hl rfl (Nat.le_of_ble_eq_true rfl) dX5_come_20 ⟨Nat.zero_le _, Nat.zero_le _⟩ hS (fun r_6 ur_6 H locs hr_6 hW hzr_6 hS => ?_)
      have hW : gW D A ad (Wd G ad N C (s_X5_no (tset M 0 0 0) 1) o) H := hW
      subst hr_6
      exact g_wret (u := ()) (post := fun r _ => r = f_X5_come n M v1) (B := fun _ H => gW D A ad (Wd G ad N C (s_X5_come n M v1) o) H) hx hb hr hlk hh hS (show (f_X5_no (tset M 0 0 0) 1) = f_X5_come n M v1 from by rw [f_X5_come, if_neg c_6_0, if_neg c_15_2]) (show gW D A ad (Wd G ad N C (s_X5_come n M v1) o) H from by rw [s_X5_come, if_neg c_6_0, if_neg c_15_2]; exact hW) dX5_come_23
def s_X5_listen (M : gT) (g : Nat) (i : Nat) : gT := (if (M 11 g) = 1 then M else (if (f_X5_worthOf M g i) ≤ 3 then (if (if 0 < ((M 12 g) - 4) then ((M 12 g) - 4) else 0) = 0 then (tset (tset (tset M 13 (24 * g + i) ((M 13 (24 * g + i)) + 1)) 12 g (if 0 < ((M 12 g) - 4) then ((M 12 g) - 4) else 0)) 11 g 1) else (tset (tset M 13 (24 * g + i) ((M 13 (24 * g + i)) + 1)) 12 g (if 0 < ((M 12 g) - 4) then ((M 12 g) - 4) else 0))) else (if (if ((M 12 g) + 3) < 30 then ((M 12 g) + 3) else 30) = 0 then (tset (tset (tset M 13 (24 * g + i) ((M 13 (24 * g + i)) + 1)) 12 g (if ((M 12 g) + 3) < 30 then ((M 12 g) + 3) else 30)) 11 g 1) else (tset (tset M 13 (24 * g + i) ((M 13 (24 * g + i)) + 1)) 12 g (if ((M 12 g) + 3) < 30 then ((M 12 g) + 3) else 30)))))
set_option maxHeartbeats 4000000 in
set_option maxRecDepth 100000 in
theorem c_X5_listen (l : Launch) (D : va_G) (G : gG) (A : Nat → Prop) (ad : gAd) (N : gN) (C M : gT) (o : Nat → Int64) (Hp : Heap) (hW : gW D A ad (Wd G ad N C M o) Hp) (g i h9 : Nat) (hg : g < 4) (hi : i < 24) (hv2 : M 13 (24 * g + i) = nI h9) (hv1 : h9 < 1000) : Met l yX5_listen wsX5_listen ({ frames := 1, cells := 0, slots := 0, locals := 22 }) (va_Pc [.ref (ad 0 1), .int (nI g), .int (nI i)] (gQ D (gTs G) Hp)) (va_Qv (fun (_ : Unit) => True) (fun _ t => gW D A ad (Wd G ad N C (s_X5_listen M g i) o) t.heap) A) 0 0 A := by
  refine g_start (cc := cX5_listen) (maxL := 4) (ret := none) (by decide) rfl (Nat.le_of_ble_eq_true rfl) (fun p e s m below meth c ls C0 hr hlk hnm hh hK hl => ?_)
  obtain ⟨hx, hb, hml, hown, hts⟩ := id C0
  have hown : s.vm.findClass RX5 = some m.cls := hown
  have hS : va_S A Hp Hp [] := va_S.rf
  have hl : lv_has ls 4 [(0, .ref (ad 0 1)), (1, .int (nI g)), (2, .int (nI i))] := hl
  have inX5 : ∀ w ∈ wsX50, w ∈ wsX5_listen := by decide +kernel
  have hv := And.intro hv1 hv2
  refine lv_aload_n hx hb dX5_listen_0 rfl (lv_at hl 0 rfl) ?_
  refine va_get (D := D) (ci := 6) (v := .ref (ad 9 11)) (C := RX5) (T := TX5) (N := 23) hx hb hts inX5 hown hK (hW.p (e := (eMod ad M)) rfl) 0 rfl rfl 11 (by decide) (hts (.fieldLink RX5 29 "StoryTollModel" "asleep" "[I") (List.mem_of_getElem? (i := 1) rfl)) (fun _ h9 => h9) rfl dX5_listen_1 ?_
  refine lv_iload_n hx hb dX5_listen_4 rfl (lv_at hl 1 rfl) ?_
  refine g_ild hx hb hK hW 0 (n := 4) (f := (M 11)) rfl rfl (k := g) rfl (by omega) (by decide) dX5_listen_5 ?_
  refine lv_iconst (v := 1) hx hb dX5_listen_6 (by decide) ?_
  refine lv_icmp_ne (tgt := 11) hx hb dX5_listen_7 (by decide) (fun c_7_0 => ?_) (fun c_7_0 => ?_)
  · refine lv_aload_n hx hb dX5_listen_11 rfl (lv_at hl 0 rfl) ?_
    refine lv_iload_n hx hb dX5_listen_12 rfl (lv_at hl 1 rfl) ?_
    refine lv_iload_n hx hb dX5_listen_13 rfl (lv_at hl 2 rfl) ?_
    refine g_Vi (As := [.int (nI g), .int (nI i)]) (rest := []) C0 (c_X5_worthOf l D G A ad N C M o Hp hW g i h9 (by omega) (by omega) hv.2 hv.1) (cwV 2 hts gX5_listen_X5_worthOf rfl rfl rfl (by decide +kernel) ⟨Nat.le_of_ble_eq_true rfl, Nat.le_of_ble_eq_true rfl⟩) hK (va_recv hK (hW.p rfl) (ci := 6) (q0 := 0) rfl rfl) rfl hl rfl (Nat.le_of_ble_eq_true rfl) dX5_listen_14 ⟨Nat.zero_le _, Nat.zero_le _⟩ hS (fun r_2 locs hr_2 hS => ?_)
    subst hr_2
    refine lv_istore_n (lv' := [(3, .int (f_X5_worthOf M g i)), (0, .ref (ad 0 1)), (1, .int (nI g)), (2, .int (nI i))]) hx hb dX5_listen_17 rfl hl (by decide) rfl (fun ls hl => ?_)
    refine lv_aload_n hx hb dX5_listen_18 rfl (lv_at hl 1 rfl) ?_
    refine va_get (D := D) (ci := 6) (v := .ref (ad 9 13)) (C := RX5) (T := TX5) (N := 23) hx hb hts inX5 hown hK (hW.p (e := (eMod ad M)) rfl) 0 rfl rfl 13 (by decide) (hts (.fieldLink RX5 35 "StoryTollModel" "heard" "[I") (List.mem_of_getElem? (i := 2) rfl)) (fun _ h9 => h9) rfl dX5_listen_19 ?_
    refine lv_bipush (v := 24) hx hb dX5_listen_22 (by decide) ?_
    refine lv_iload_n hx hb dX5_listen_24 rfl (lv_at hl 2 rfl) ?_
    refine lv_imul hx hb dX5_listen_25 ?_
    refine lv_iload_n hx hb dX5_listen_26 rfl (lv_at hl 3 rfl) ?_
    refine lv_iadd hx hb dX5_listen_27 ?_
    refine lv_dup2_11 hx hb dX5_listen_28 rfl rfl ?_
    refine g_ild hx hb hK hW 0 (n := 96) (f := (M 13)) rfl rfl (k := (24 * g + i)) (ix24 g i) (by omega) (by decide) dX5_listen_29 ?_
    refine lv_iconst (v := 1) hx hb dX5_listen_30 (by decide) ?_
    refine lv_iadd hx hb dX5_listen_31 ?_
    refine g_istN (ct' := (Wd G ad N C (tset M 13 (24 * g + i) ((M 13 (24 * g + i)) + 1)) o)) hx hb hK hW hS 0 (n := 96) (f := (M 13)) rfl rfl (k := (24 * g + i)) (ix24 g i) (by omega) (by decide) dX5_listen_32 (Wd_An (by decide)) (Wd_tA (by decide)) (fun H locs hW hS => ?_)
    refine lv_aload_n hx hb dX5_listen_33 rfl (lv_at hl 1 rfl) ?_
    refine va_get (D := D) (ci := 6) (v := .ref (ad 9 12)) (C := RX5) (T := TX5) (N := 23) hx hb hts inX5 hown hK (hW.p (e := (eMod ad (tset M 13 (24 * g + i) ((M 13 (24 * g + i)) + 1)))) rfl) 0 rfl rfl 12 (by decide) (hts (.fieldLink RX5 32 "StoryTollModel" "patience" "[I") (List.mem_of_getElem? (i := 3) rfl)) (fun _ h9 => h9) rfl dX5_listen_34 ?_
    refine lv_iload_n hx hb dX5_listen_37 rfl (lv_at hl 2 rfl) ?_
    refine lv_iload_n hx hb dX5_listen_38 rfl (lv_at hl 0 rfl) ?_
    refine lv_iconst (v := 3) hx hb dX5_listen_39 (by decide) ?_
    refine lv_icmp_le (tgt := 59) hx hb dX5_listen_40 (by decide) (fun c_40_2 => ?_) (fun c_40_2 => ?_)
    · refine lv_iconst (v := 0) hx hb dX5_listen_59 (by decide) ?_
      refine lv_aload_n hx hb dX5_listen_60 rfl (lv_at hl 1 rfl) ?_
      refine va_get (D := D) (ci := 6) (v := .ref (ad 9 12)) (C := RX5) (T := TX5) (N := 23) hx hb hts inX5 hown hK (hW.p (e := (eMod ad (tset M 13 (24 * g + i) ((M 13 (24 * g + i)) + 1)))) rfl) 0 rfl rfl 12 (by decide) (hts (.fieldLink RX5 32 "StoryTollModel" "patience" "[I") (List.mem_of_getElem? (i := 3) rfl)) (fun _ h9 => h9) rfl dX5_listen_61 ?_
      refine lv_iload_n hx hb dX5_listen_64 rfl (lv_at hl 2 rfl) ?_
      refine g_ild hx hb hK hW 0 (n := 4) (f := ((tset M 13 (24 * g + i) ((M 13 (24 * g + i)) + 1)) 12)) rfl rfl (k := g) rfl (by omega) (by decide) dX5_listen_65 ?_
      rw [show ((tset M 13 (24 * g + i) ((M 13 (24 * g + i)) + 1)) 12 g) = (M 12 g) from by rw [tset_of (by decide)]]
      refine lv_iconst (v := 4) hx hb dX5_listen_66 (by decide) ?_
      refine lv_isub hx hb dX5_listen_67 ?_
      refine va_mmax hx hb (hml.trans hl.1.symm) hown (hts (.methodLink RX5 109 Lib.Math.max.name) (List.mem_of_getElem? (i := 8) rfl)) (hts (.static Lib.Math.max.name) (List.mem_of_getElem? (i := 9) rfl)) (hts (.initialized "java/lang/Math") (List.mem_of_getElem? (i := 6) rfl)) (hts (.code Lib.Math.max.name Lib.Math.max.code 2 (some .int)) (List.mem_of_getElem? (i := 10) rfl)) (Nat.le_of_ble_eq_true rfl) (Nat.le_of_ble_eq_true rfl) (Nat.le_of_ble_eq_true rfl) (Nat.le_of_ble_eq_true rfl) dX5_listen_68 ?_
      refine g_istN (ct' := (Wd G ad N C (tset (tset M 13 (24 * g + i) ((M 13 (24 * g + i)) + 1)) 12 g (if 0 < ((M 12 g) - 4) then ((M 12 g) - 4) else 0)) o)) hx hb hK hW hS 0 (n := 4) (f := ((tset M 13 (24 * g + i) ((M 13 (24 * g + i)) + 1)) 12)) rfl rfl (k := g) rfl (by omega) (by decide) dX5_listen_71 (Wd_An (by decide)) (Wd_tA (by decide)) (fun H locs hW hS => ?_)
      refine lv_aload_n hx hb dX5_listen_72 rfl (lv_at hl 1 rfl) ?_
      refine va_get (D := D) (ci := 6) (v := .ref (ad 9 12)) (C := RX5) (T := TX5) (N := 23) hx hb hts inX5 hown hK (hW.p (e := (eMod ad (tset (tset M 13 (24 * g + i) ((M 13 (24 * g + i)) + 1)) 12 g (if 0 < ((M 12 g) - 4) then ((M 12 g) - 4) else 0)))) rfl) 0 rfl rfl 12 (by decide) (hts (.fieldLink RX5 32 "StoryTollModel" "patience" "[I") (List.mem_of_getElem? (i := 3) rfl)) (fun _ h9 => h9) rfl dX5_listen_73 ?_
      refine lv_iload_n hx hb dX5_listen_76 rfl (lv_at hl 2 rfl) ?_
      refine g_ild hx hb hK hW 0 (n := 4) (f := ((tset (tset M 13 (24 * g + i) ((M 13 (24 * g + i)) + 1)) 12 g (if 0 < ((M 12 g) - 4) then ((M 12 g) - 4) else 0)) 12)) rfl rfl (k := g) rfl (by omega) (by decide) dX5_listen_77 ?_
      rw [show ((tset (tset M 13 (24 * g + i) ((M 13 (24 * g + i)) + 1)) 12 g (if 0 < ((M 12 g) - 4) then ((M 12 g) - 4) else 0)) 12 g) = (if 0 < ((M 12 g) - 4) then ((M 12 g) - 4) else 0) from by rw [tset_s]]
      refine lv_if_ne (tgt := 88) hx hb dX5_listen_78 (by decide) (fun c_78_3 => ?_) (fun c_78_3 => ?_)
      · exact g_wvret (u := ()) (B := fun _ H => gW D A ad (Wd G ad N C (s_X5_listen M g i) o) H) hx hb hr hlk hh hS trivial (show gW D A ad (Wd G ad N C (s_X5_listen M g i) o) H from by rw [s_X5_listen, if_neg c_7_0, if_pos c_40_2, if_neg c_78_3]; exact hW) dX5_listen_88
      · refine lv_aload_n hx hb dX5_listen_81 rfl (lv_at hl 1 rfl) ?_
        refine va_get (D := D) (ci := 6) (v := .ref (ad 9 11)) (C := RX5) (T := TX5) (N := 23) hx hb hts inX5 hown hK (hW.p (e := (eMod ad (tset (tset M 13 (24 * g + i) ((M 13 (24 * g + i)) + 1)) 12 g (if 0 < ((M 12 g) - 4) then ((M 12 g) - 4) else 0)))) rfl) 0 rfl rfl 11 (by decide) (hts (.fieldLink RX5 29 "StoryTollModel" "asleep" "[I") (List.mem_of_getElem? (i := 1) rfl)) (fun _ h9 => h9) rfl dX5_listen_82 ?_
        refine lv_iload_n hx hb dX5_listen_85 rfl (lv_at hl 2 rfl) ?_
        refine lv_iconst (v := 1) hx hb dX5_listen_86 (by decide) ?_
        refine g_istN (ct' := (Wd G ad N C (tset (tset (tset M 13 (24 * g + i) ((M 13 (24 * g + i)) + 1)) 12 g (if 0 < ((M 12 g) - 4) then ((M 12 g) - 4) else 0)) 11 g 1) o)) hx hb hK hW hS 0 (n := 4) (f := ((tset (tset M 13 (24 * g + i) ((M 13 (24 * g + i)) + 1)) 12 g (if 0 < ((M 12 g) - 4) then ((M 12 g) - 4) else 0)) 11)) rfl rfl (k := g) rfl (by omega) (by decide) dX5_listen_87 (Wd_An (by decide)) (Wd_tA (by decide)) (fun H locs hW hS => ?_)
        exact g_wvret (u := ()) (B := fun _ H => gW D A ad (Wd G ad N C (s_X5_listen M g i) o) H) hx hb hr hlk hh hS trivial (show gW D A ad (Wd G ad N C (s_X5_listen M g i) o) H from by rw [s_X5_listen, if_neg c_7_0, if_pos c_40_2, if_pos c_78_3]; exact hW) dX5_listen_88
    · refine lv_bipush (v := 30) hx hb dX5_listen_43 (by decide) ?_
      refine lv_aload_n hx hb dX5_listen_45 rfl (lv_at hl 1 rfl) ?_
      refine va_get (D := D) (ci := 6) (v := .ref (ad 9 12)) (C := RX5) (T := TX5) (N := 23) hx hb hts inX5 hown hK (hW.p (e := (eMod ad (tset M 13 (24 * g + i) ((M 13 (24 * g + i)) + 1)))) rfl) 0 rfl rfl 12 (by decide) (hts (.fieldLink RX5 32 "StoryTollModel" "patience" "[I") (List.mem_of_getElem? (i := 3) rfl)) (fun _ h9 => h9) rfl dX5_listen_46 ?_
      refine lv_iload_n hx hb dX5_listen_49 rfl (lv_at hl 2 rfl) ?_
      refine g_ild hx hb hK hW 0 (n := 4) (f := ((tset M 13 (24 * g + i) ((M 13 (24 * g + i)) + 1)) 12)) rfl rfl (k := g) rfl (by omega) (by decide) dX5_listen_50 ?_
      rw [show ((tset M 13 (24 * g + i) ((M 13 (24 * g + i)) + 1)) 12 g) = (M 12 g) from by rw [tset_of (by decide)]]
      refine lv_iconst (v := 3) hx hb dX5_listen_51 (by decide) ?_
      refine lv_iadd hx hb dX5_listen_52 ?_
      refine va_mmin hx hb (hml.trans hl.1.symm) hown (hts (.methodLink RX5 114 Lib.Math.min.name) (List.mem_of_getElem? (i := 4) rfl)) (hts (.static Lib.Math.min.name) (List.mem_of_getElem? (i := 5) rfl)) (hts (.initialized "java/lang/Math") (List.mem_of_getElem? (i := 6) rfl)) (hts (.code Lib.Math.min.name Lib.Math.min.code 2 (some .int)) (List.mem_of_getElem? (i := 7) rfl)) (Nat.le_of_ble_eq_true rfl) (Nat.le_of_ble_eq_true rfl) (Nat.le_of_ble_eq_true rfl) (Nat.le_of_ble_eq_true rfl) dX5_listen_53 ?_
      refine lv_goto (tgt := 71) hx hb dX5_listen_56 (by decide) ?_
      refine g_istN (ct' := (Wd G ad N C (tset (tset M 13 (24 * g + i) ((M 13 (24 * g + i)) + 1)) 12 g (if ((M 12 g) + 3) < 30 then ((M 12 g) + 3) else 30)) o)) hx hb hK hW hS 0 (n := 4) (f := ((tset M 13 (24 * g + i) ((M 13 (24 * g + i)) + 1)) 12)) rfl rfl (k := g) rfl (by omega) (by decide) dX5_listen_71 (Wd_An (by decide)) (Wd_tA (by decide)) (fun H locs hW hS => ?_)
      refine lv_aload_n hx hb dX5_listen_72 rfl (lv_at hl 1 rfl) ?_
      refine va_get (D := D) (ci := 6) (v := .ref (ad 9 12)) (C := RX5) (T := TX5) (N := 23) hx hb hts inX5 hown hK (hW.p (e := (eMod ad (tset (tset M 13 (24 * g + i) ((M 13 (24 * g + i)) + 1)) 12 g (if ((M 12 g) + 3) < 30 then ((M 12 g) + 3) else 30)))) rfl) 0 rfl rfl 12 (by decide) (hts (.fieldLink RX5 32 "StoryTollModel" "patience" "[I") (List.mem_of_getElem? (i := 3) rfl)) (fun _ h9 => h9) rfl dX5_listen_73 ?_
      refine lv_iload_n hx hb dX5_listen_76 rfl (lv_at hl 2 rfl) ?_
      refine g_ild hx hb hK hW 0 (n := 4) (f := ((tset (tset M 13 (24 * g + i) ((M 13 (24 * g + i)) + 1)) 12 g (if ((M 12 g) + 3) < 30 then ((M 12 g) + 3) else 30)) 12)) rfl rfl (k := g) rfl (by omega) (by decide) dX5_listen_77 ?_
      rw [show ((tset (tset M 13 (24 * g + i) ((M 13 (24 * g + i)) + 1)) 12 g (if ((M 12 g) + 3) < 30 then ((M 12 g) + 3) else 30)) 12 g) = (if ((M 12 g) + 3) < 30 then ((M 12 g) + 3) else 30) from by rw [tset_s]]
      refine lv_if_ne (tgt := 88) hx hb dX5_listen_78 (by decide) (fun c_78_4 => ?_) (fun c_78_4 => ?_)
      · exact g_wvret (u := ()) (B := fun _ H => gW D A ad (Wd G ad N C (s_X5_listen M g i) o) H) hx hb hr hlk hh hS trivial (show gW D A ad (Wd G ad N C (s_X5_listen M g i) o) H from by rw [s_X5_listen, if_neg c_7_0, if_neg c_40_2, if_neg c_78_4]; exact hW) dX5_listen_88
      · refine lv_aload_n hx hb dX5_listen_81 rfl (lv_at hl 1 rfl) ?_
        refine va_get (D := D) (ci := 6) (v := .ref (ad 9 11)) (C := RX5) (T := TX5) (N := 23) hx hb hts inX5 hown hK (hW.p (e := (eMod ad (tset (tset M 13 (24 * g + i) ((M 13 (24 * g + i)) + 1)) 12 g (if ((M 12 g) + 3) < 30 then ((M 12 g) + 3) else 30)))) rfl) 0 rfl rfl 11 (by decide) (hts (.fieldLink RX5 29 "StoryTollModel" "asleep" "[I") (List.mem_of_getElem? (i := 1) rfl)) (fun _ h9 => h9) rfl dX5_listen_82 ?_
        refine lv_iload_n hx hb dX5_listen_85 rfl (lv_at hl 2 rfl) ?_
        refine lv_iconst (v := 1) hx hb dX5_listen_86 (by decide) ?_
        refine g_istN (ct' := (Wd G ad N C (tset (tset (tset M 13 (24 * g + i) ((M 13 (24 * g + i)) + 1)) 12 g (if ((M 12 g) + 3) < 30 then ((M 12 g) + 3) else 30)) 11 g 1) o)) hx hb hK hW hS 0 (n := 4) (f := ((tset (tset M 13 (24 * g + i) ((M 13 (24 * g + i)) + 1)) 12 g (if ((M 12 g) + 3) < 30 then ((M 12 g) + 3) else 30)) 11)) rfl rfl (k := g) rfl (by omega) (by decide) dX5_listen_87 (Wd_An (by decide)) (Wd_tA (by decide)) (fun H locs hW hS => ?_)
        exact g_wvret (u := ()) (B := fun _ H => gW D A ad (Wd G ad N C (s_X5_listen M g i) o) H) hx hb hr hlk hh hS trivial (show gW D A ad (Wd G ad N C (s_X5_listen M g i) o) H from by rw [s_X5_listen, if_neg c_7_0, if_neg c_40_2, if_pos c_78_4]; exact hW) dX5_listen_88
  · exact g_wvret (u := ()) (B := fun _ H => gW D A ad (Wd G ad N C (s_X5_listen M g i) o) H) hx hb hr hlk hh hS trivial (show gW D A ad (Wd G ad N C (s_X5_listen M g i) o) Hp from by rw [s_X5_listen, if_pos c_7_0]; exact hW) dX5_listen_10
theorem s_listen_o {M : gT} {g i f k : Nat} (hf : ¬ (f = 11 ∨ f = 12 ∨ f = 13)) : s_X5_listen M g i f k = M f k := by
  have e : ∀ (X : gT) (f' k' : Nat) (v : Int32), (f' = 11 ∨ f' = 12 ∨ f' = 13) → tset X f' k' v f k = X f k := fun X f' k' v h => tset_o (fun z => hf (by rw [z.1]; exact h))
  unfold s_X5_listen
  (repeat' split) <;> (first | rfl | (repeat rw [e _ _ _ _ (by omega)]))
theorem s_listen_13 {M : gT} {g i k : Nat} (hk : k ≠ 24 * g + i) : s_X5_listen M g i 13 k = M 13 k := by
  unfold s_X5_listen
  (repeat' split) <;> (first | rfl | (repeat rw [tset_o (by omega)]))
theorem can_begin {n : gN} {M : gT} {t i q : Nat} (hb3 : M 19 0 = nI (n 3)) (hn3 : n 3 ≤ 8) (h : M 3 i = 0) (hc : ¬ f_X5_can M t i q = 0) : n 3 < 8 := by
  rcases Nat.lt_or_eq_of_le hn3 with z | z
  · exact z
  · refine absurd ?_ hc
    unfold f_X5_can
    rw [if_pos h, if_pos (show 8 ≤ M 19 0 by rw [hb3, z]; decide)]
    (repeat' split) <;> rfl
theorem can_on {M : gT} {t i q : Nat} (hs1 : M 20 q = nI (szM M q)) (hs3 : szM M q ≤ 8) (h : ¬ M 3 i = 0) (hc : ¬ f_X5_can M t i q = 0) : szM M q < 8 := by
  rcases Nat.lt_or_eq_of_le hs3 with z | z
  · exact z
  · refine absurd ?_ hc
    unfold f_X5_can
    rw [if_neg h, if_pos (show M 20 q = 8 by rw [hs1, z]; rfl)]
    (repeat' split) <;> rfl
def L_tell0 (i : Nat) (j : Nat) (acc : gT) : gT := s_X5_listen acc j i
theorem listen_it {n : gN} {i : Nat} {M : gT} (j : Nat) (hi : i < 24) (hb1 : M 10 0 = nI (n 1)) (hhe : ∀ x, x < 96 → ∃ h, h < 1000 ∧ M 13 x = nI h) :
    gIt (L_tell0 i) M j 10 0 = nI (n 1) ∧ ∀ x, x < 96 → 24 * j + i ≤ x → ∃ h, h < 1000 ∧ gIt (L_tell0 i) M j 13 x = nI h := by
  induction j with
  | zero => exact ⟨hb1, fun x hx _ => hhe x hx⟩
  | succ j ih =>
    obtain ⟨h1, h2⟩ := ih
    refine ⟨?_, fun x hx hj => ?_⟩
    · rw [gIt_s, L_tell0, s_listen_o (by decide)]
      exact h1
    · rw [gIt_s, L_tell0, s_listen_13 (by omega)]
      exact h2 x hx (by omega)
def f_X5_tell2 (n : gN) (M2 : gT) (v1 : Int32) (v2 : Int32) : Int32 := (f_X5_toll n M2 v2.toNatClampNeg)
def s_X5_tell2 (n : gN) (M2 : gT) (v1 : Int32) (v2 : Int32) : gT := (tset (tset (tset (tset (tset (gIt (L_tell0 v2.toNatClampNeg) M2 (n 1)) 8 0 ((gIt (L_tell0 v2.toNatClampNeg) M2 (n 1)) 5 v2.toNatClampNeg)) 7 v2.toNatClampNeg (((gIt (L_tell0 v2.toNatClampNeg) M2 (n 1)) 7 v2.toNatClampNeg) + 1)) 18 v1.toNatClampNeg (((gIt (L_tell0 v2.toNatClampNeg) M2 (n 1)) 18 v1.toNatClampNeg) + 1)) 16 v1.toNatClampNeg (((gIt (L_tell0 v2.toNatClampNeg) M2 (n 1)) 16 v1.toNatClampNeg) + (f_X5_toll n M2 v2.toNatClampNeg))) 9 0 (((gIt (L_tell0 v2.toNatClampNeg) M2 (n 1)) 9 0) + (f_X5_toll n M2 v2.toNatClampNeg)))
def f_X5_tell (n : gN) (M : gT) (v1 : Int32) (v2 : Int32) (v3 : Int32) : Int32 := (if (f_X5_isTraveller (tset M 0 0 0) v1) = 0 then (f_X5_no (tset M 0 0 0) 1) else (if (f_X5_isScene (tset M 0 0 0) v2) = 0 then (f_X5_no (tset M 0 0 0) 1) else (if (M 3 v2.toNatClampNeg) = 0 then (if (f_X5_can (tset M 0 0 0) v1.toNatClampNeg v2.toNatClampNeg v3.toNatClampNeg) = 0 then (f_X5_no (tset M 0 0 0) 2) else (f_X5_tell2 n (tset (tset (tset (tset (tset (tset M 0 0 0) 20 (n 3) 0) 22 (n 3) (-1)) 19 0 ((M 19 0) + 1)) 21 (8 * n 3) v2) 20 (n 3) (0 + 1)) v1 v2)) else (if (f_X5_isPlot (tset M 0 0 0) v3) = 0 then (f_X5_no (tset M 0 0 0) 1) else (if (f_X5_can (tset M 0 0 0) v1.toNatClampNeg v2.toNatClampNeg v3.toNatClampNeg) = 0 then (f_X5_no (tset M 0 0 0) 2) else (f_X5_tell2 n (tset (tset (tset M 0 0 0) 21 (8 * v3.toNatClampNeg + szM M v3.toNatClampNeg) v2) 20 v3.toNatClampNeg ((M 20 v3.toNatClampNeg) + 1)) v1 v2))))))
def s_X5_tell (n : gN) (M : gT) (v1 : Int32) (v2 : Int32) (v3 : Int32) : gT := (if (f_X5_isTraveller (tset M 0 0 0) v1) = 0 then (s_X5_no (tset M 0 0 0) 1) else (if (f_X5_isScene (tset M 0 0 0) v2) = 0 then (s_X5_no (tset M 0 0 0) 1) else (if (M 3 v2.toNatClampNeg) = 0 then (if (f_X5_can (tset M 0 0 0) v1.toNatClampNeg v2.toNatClampNeg v3.toNatClampNeg) = 0 then (s_X5_no (tset M 0 0 0) 2) else (s_X5_tell2 n (tset (tset (tset (tset (tset (tset M 0 0 0) 20 (n 3) 0) 22 (n 3) (-1)) 19 0 ((M 19 0) + 1)) 21 (8 * n 3) v2) 20 (n 3) (0 + 1)) v1 v2)) else (if (f_X5_isPlot (tset M 0 0 0) v3) = 0 then (s_X5_no (tset M 0 0 0) 1) else (if (f_X5_can (tset M 0 0 0) v1.toNatClampNeg v2.toNatClampNeg v3.toNatClampNeg) = 0 then (s_X5_no (tset M 0 0 0) 2) else (s_X5_tell2 n (tset (tset (tset M 0 0 0) 21 (8 * v3.toNatClampNeg + szM M v3.toNatClampNeg) v2) 20 v3.toNatClampNeg ((M 20 v3.toNatClampNeg) + 1)) v1 v2))))))
set_option maxHeartbeats 4000000 in
set_option maxRecDepth 100000 in
theorem c_X5_tell (l : Launch) (D : va_G) (G : gG) (A : Nat → Prop) (ad : gAd) (N : gN) (C M : gT) (o : Nat → Int64) (Hp : Heap) (hW : gW D A ad (Wd G ad N C M o) Hp) (n : gN) (hI : IM n M) (v1 v2 v3 : Int32) : Met l yX5_tell wsX5_tell ({ frames := 3, cells := 0, slots := 0, locals := 65 }) (va_Pc [.ref (ad 0 1), .int v1, .int v2, .int v3] (gQ D (gTs G) Hp)) (va_Qi (fun r (_ : Unit) => r = f_X5_tell n M v1 v2 v3) (fun _ t => gW D A ad (Wd G ad N C (s_X5_tell n M v1 v2 v3) o) t.heap) A) 0 0 A := by
  refine g_start (cc := cX5_tell) (maxL := 7) (ret := (some .int)) (by decide) rfl (Nat.le_of_ble_eq_true rfl) (fun p e s m below meth c ls C0 hr hlk hnm hh hK hl => ?_)
  obtain ⟨hx, hb, hml, hown, hts⟩ := id C0
  have hown : s.vm.findClass RX5 = some m.cls := hown
  have hS : va_S A Hp Hp [] := va_S.rf
  have hl : lv_has ls 7 [(0, .ref (ad 0 1)), (1, .int v1), (2, .int v2), (3, .int v3)] := hl
  have inX5 : ∀ w ∈ wsX50, w ∈ wsX5_tell := by decide +kernel
  obtain ⟨⟨hb0, hn0⟩, ⟨hb1, hn1⟩, ⟨hb2, hn2⟩, ⟨hb3, hn3⟩, hpl, hhe⟩ := id hI
  have hI0 := IM_t0 (v := 0) hI
  have cut134 : ∀ (M2 : gT) (H : Heap) (locs : List Loc) (ls : Array Slot), f_X5_tell n M v1 v2 v3 = f_X5_tell2 n M2 v1 v2 → s_X5_tell n M v1 v2 v3 = s_X5_tell2 n M2 v1 v2 → v1 = nI v1.toNatClampNeg ∧ v1.toNatClampNeg < n 2 → v2 = nI v2.toNatClampNeg ∧ v2.toNatClampNeg < n 0 → M2 10 0 = nI (n 1) → (∀ x, x < 96 → ∃ h, h < 1000 ∧ M2 13 x = nI h) →  lv_has ls 7 [(0, .ref (ad 0 1)), (1, .int v1), (2, .int v2)] → gW D A ad (Wd G ad N C M2 o) H → va_S A Hp H locs → W p l e ({ frames := 3, cells := 0, slots := 0, locals := 65 }) s m ([.ref (ad 0 1), .int v1, .int v2, .int v3] : List Value).toArray below meth c H locs 0 0 (MQ below (va_Qi (fun r (_ : Unit) => r = f_X5_tell n M v1 v2 v3) (fun _ t => gW D A ad (Wd G ad N C (s_X5_tell n M v1 v2 v3) o) t.heap) A) ([.ref (ad 0 1), .int v1, .int v2, .int v3] : List Value).toArray s 0 0 A) (F0 m 134 ls []) := by
    intro M2 H locs ls hF hG hv1 hv2 hb1 hhe hl hW hS
    refine lv_aload_n hx hb dX5_tell_134 rfl (lv_at hl 0 rfl) ?_
    refine lv_iload_n hx hb dX5_tell_135 rfl (lv_at hl 2 rfl) ?_
    refine g_Vi (As := [.int v2]) (rest := []) C0 ((by have h9 := c_X5_toll l D G A ad N C M2 o H hW n hb1 (by omega) hhe v2.toNatClampNeg (by omega); rw [← hv2.1] at h9; exact h9)) (cwV 1 hts gX5_tell_X5_toll rfl rfl rfl (by decide +kernel) ⟨Nat.le_of_ble_eq_true rfl, Nat.le_of_ble_eq_true rfl⟩) hK (va_recv hK (hW.p rfl) (ci := 6) (q0 := 0) rfl rfl) rfl hl rfl (Nat.le_of_ble_eq_true rfl) dX5_tell_136 ⟨Nat.zero_le _, Nat.zero_le _⟩ hS (fun r_11 locs hr_11 hS => ?_)
    subst hr_11
    refine lv_istore (lv' := [(5, .int (f_X5_toll n M2 v2.toNatClampNeg)), (0, .ref (ad 0 1)), (1, .int v1), (2, .int v2)]) hx hb dX5_tell_139 hl (by decide) rfl (fun ls hl => ?_)
    refine lv_iconst (v := 0) hx hb dX5_tell_141 (by decide) ?_
    refine lv_istore (lv' := [(6, .int 0), (5, .int (f_X5_toll n M2 v2.toNatClampNeg)), (0, .ref (ad 0 1)), (1, .int v1), (2, .int v2)]) hx hb dX5_tell_142 hl (by decide) rfl (fun ls hl => ?_)
    refine g_loopH (n 1) 0 0 (fun j ls H => lv_has ls 7 [(6, .int (nI j)), (5, .int (f_X5_toll n M2 v2.toNatClampNeg)), (0, .ref (ad 0 1)), (1, .int v1), (2, .int v2)] ∧ gW D A ad (Wd G ad N C (gIt (L_tell0 v2.toNatClampNeg) M2 j) o) H) ⟨lv_sub hl [0, 1, 2, 3, 4] rfl, hW⟩ hS (fun ls H locs hlW hS => ?_) (fun j ls H locs hj hlW hS ih => ?_)
    · obtain ⟨hl, hW⟩ : lv_has ls 7 [(6, .int (nI (n 1))), (5, .int (f_X5_toll n M2 v2.toNatClampNeg)), (0, .ref (ad 0 1)), (1, .int v1), (2, .int v2)] ∧ gW D A ad (Wd G ad N C (gIt (L_tell0 v2.toNatClampNeg) M2 (n 1)) o) H := hlW
      refine W.widen (k := 0) (n := 0) (by omega) (by omega) ?_
      have hk10 := (listen_it (n := n) (i := v2.toNatClampNeg) (M := M2) (n 1) (by omega) hb1 hhe).1
      refine lv_iload hx hb dX5_tell_144 (lv_at hl 0 rfl) ?_
      refine lv_aload_n hx hb dX5_tell_146 rfl (lv_at hl 2 rfl) ?_
      refine va_get (D := D) (ci := 6) (v := .int ((gIt (L_tell0 v2.toNatClampNeg) M2 (n 1)) 10 0)) (C := RX5) (T := TX5) (N := 23) hx hb hts inX5 hown hK (hW.p (e := (eMod ad (gIt (L_tell0 v2.toNatClampNeg) M2 (n 1)))) rfl) 0 rfl rfl 10 (by decide) (hts (.fieldLink RX5 69 "StoryTollModel" "guards" "I") (List.mem_of_getElem? (i := 7) rfl)) (fun _ h9 => h9) rfl dX5_tell_147 ?_
      refine lv_icmp_ge (tgt := 166) hx hb dX5_tell_150 (by decide) (fun c_150_11 => ?_) (fun c_150_11 => ?_)
      · refine lv_aload_n hx hb dX5_tell_166 rfl (lv_at hl 2 rfl) ?_
        refine lv_aload_n hx hb dX5_tell_167 rfl (lv_at hl 2 rfl) ?_
        refine va_get (D := D) (ci := 6) (v := .ref (ad 9 5)) (C := RX5) (T := TX5) (N := 23) hx hb hts inX5 hown hK (hW.p (e := (eMod ad (gIt (L_tell0 v2.toNatClampNeg) M2 (n 1)))) rfl) 0 rfl rfl 5 (by decide) (hts (.fieldLink RX5 16 "StoryTollModel" "hue" "[I") (List.mem_of_getElem? (i := 8) rfl)) (fun _ h9 => h9) rfl dX5_tell_168 ?_
        refine lv_iload_n hx hb dX5_tell_171 rfl (lv_at hl 4 rfl) ?_
        refine g_ild hx hb hK hW 0 (n := 24) (f := ((gIt (L_tell0 v2.toNatClampNeg) M2 (n 1)) 5)) rfl rfl (k := v2.toNatClampNeg) hv2.1 (by omega) (by decide) dX5_tell_172 ?_
        refine g_put (D := D) (ci := 6) (v := .int ((gIt (L_tell0 v2.toNatClampNeg) M2 (n 1)) 5 v2.toNatClampNeg)) (ty := .int) (C := RX5) (T := TX5) (N := 23) (ct' := (Wd G ad N C (tset (gIt (L_tell0 v2.toNatClampNeg) M2 (n 1)) 8 0 ((gIt (L_tell0 v2.toNatClampNeg) M2 (n 1)) 5 v2.toNatClampNeg)) o)) hx hb hts inX5 tyX5 tyX5_ok nmX5 hown hK hW hS (show Wd G ad N C (gIt (L_tell0 v2.toNatClampNeg) M2 (n 1)) o 0 1 = some (eMod ad (gIt (L_tell0 v2.toNatClampNeg) M2 (n 1))) from rfl) rfl 8 (by decide) (hts (.fieldLink RX5 25 "StoryTollModel" "lastHue" "I") (List.mem_of_getElem? (i := 9) rfl)) (fun _ h9 => h9) rfl (by decide +kernel) rfl rfl (Nat.le_of_ble_eq_true rfl) dX5_tell_173 Wd_m8 (Wd_tM rfl) (fun H locs hW hS => ?_)
        refine lv_aload_n hx hb dX5_tell_176 rfl (lv_at hl 2 rfl) ?_
        refine va_get (D := D) (ci := 6) (v := .ref (ad 9 7)) (C := RX5) (T := TX5) (N := 23) hx hb hts inX5 hown hK (hW.p (e := (eMod ad (tset (gIt (L_tell0 v2.toNatClampNeg) M2 (n 1)) 8 0 ((gIt (L_tell0 v2.toNatClampNeg) M2 (n 1)) 5 v2.toNatClampNeg)))) rfl) 0 rfl rfl 7 (by decide) (hts (.fieldLink RX5 22 "StoryTollModel" "times" "[I") (List.mem_of_getElem? (i := 10) rfl)) (fun _ h9 => h9) rfl dX5_tell_177 ?_
        refine lv_iload_n hx hb dX5_tell_180 rfl (lv_at hl 4 rfl) ?_
        refine lv_dup2_11 hx hb dX5_tell_181 rfl rfl ?_
        refine g_ild hx hb hK hW 0 (n := 24) (f := ((tset (gIt (L_tell0 v2.toNatClampNeg) M2 (n 1)) 8 0 ((gIt (L_tell0 v2.toNatClampNeg) M2 (n 1)) 5 v2.toNatClampNeg)) 7)) rfl rfl (k := v2.toNatClampNeg) hv2.1 (by omega) (by decide) dX5_tell_182 ?_
        rw [show ((tset (gIt (L_tell0 v2.toNatClampNeg) M2 (n 1)) 8 0 ((gIt (L_tell0 v2.toNatClampNeg) M2 (n 1)) 5 v2.toNatClampNeg)) 7 v2.toNatClampNeg) = ((gIt (L_tell0 v2.toNatClampNeg) M2 (n 1)) 7 v2.toNatClampNeg) from by rw [tset_of (by decide)]]
        refine lv_iconst (v := 1) hx hb dX5_tell_183 (by decide) ?_
        refine lv_iadd hx hb dX5_tell_184 ?_
        refine g_istN (ct' := (Wd G ad N C (tset (tset (gIt (L_tell0 v2.toNatClampNeg) M2 (n 1)) 8 0 ((gIt (L_tell0 v2.toNatClampNeg) M2 (n 1)) 5 v2.toNatClampNeg)) 7 v2.toNatClampNeg (((gIt (L_tell0 v2.toNatClampNeg) M2 (n 1)) 7 v2.toNatClampNeg) + 1)) o)) hx hb hK hW hS 0 (n := 24) (f := ((tset (gIt (L_tell0 v2.toNatClampNeg) M2 (n 1)) 8 0 ((gIt (L_tell0 v2.toNatClampNeg) M2 (n 1)) 5 v2.toNatClampNeg)) 7)) rfl rfl (k := v2.toNatClampNeg) hv2.1 (by omega) (by decide) dX5_tell_185 (Wd_An (by decide)) (Wd_tA (by decide)) (fun H locs hW hS => ?_)
        refine lv_aload_n hx hb dX5_tell_186 rfl (lv_at hl 2 rfl) ?_
        refine va_get (D := D) (ci := 6) (v := .ref (ad 9 18)) (C := RX5) (T := TX5) (N := 23) hx hb hts inX5 hown hK (hW.p (e := (eMod ad (tset (tset (gIt (L_tell0 v2.toNatClampNeg) M2 (n 1)) 8 0 ((gIt (L_tell0 v2.toNatClampNeg) M2 (n 1)) 5 v2.toNatClampNeg)) 7 v2.toNatClampNeg (((gIt (L_tell0 v2.toNatClampNeg) M2 (n 1)) 7 v2.toNatClampNeg) + 1)))) rfl) 0 rfl rfl 18 (by decide) (hts (.fieldLink RX5 47 "StoryTollModel" "told" "[I") (List.mem_of_getElem? (i := 11) rfl)) (fun _ h9 => h9) rfl dX5_tell_187 ?_
        refine lv_iload_n hx hb dX5_tell_190 rfl (lv_at hl 3 rfl) ?_
        refine lv_dup2_11 hx hb dX5_tell_191 rfl rfl ?_
        refine g_ild hx hb hK hW 0 (n := 12) (f := ((tset (tset (gIt (L_tell0 v2.toNatClampNeg) M2 (n 1)) 8 0 ((gIt (L_tell0 v2.toNatClampNeg) M2 (n 1)) 5 v2.toNatClampNeg)) 7 v2.toNatClampNeg (((gIt (L_tell0 v2.toNatClampNeg) M2 (n 1)) 7 v2.toNatClampNeg) + 1)) 18)) rfl rfl (k := v1.toNatClampNeg) hv1.1 (by omega) (by decide) dX5_tell_192 ?_
        rw [show ((tset (tset (gIt (L_tell0 v2.toNatClampNeg) M2 (n 1)) 8 0 ((gIt (L_tell0 v2.toNatClampNeg) M2 (n 1)) 5 v2.toNatClampNeg)) 7 v2.toNatClampNeg (((gIt (L_tell0 v2.toNatClampNeg) M2 (n 1)) 7 v2.toNatClampNeg) + 1)) 18 v1.toNatClampNeg) = ((gIt (L_tell0 v2.toNatClampNeg) M2 (n 1)) 18 v1.toNatClampNeg) from by rw [tset_of (by decide), tset_of (by decide)]]
        refine lv_iconst (v := 1) hx hb dX5_tell_193 (by decide) ?_
        refine lv_iadd hx hb dX5_tell_194 ?_
        refine g_istN (ct' := (Wd G ad N C (tset (tset (tset (gIt (L_tell0 v2.toNatClampNeg) M2 (n 1)) 8 0 ((gIt (L_tell0 v2.toNatClampNeg) M2 (n 1)) 5 v2.toNatClampNeg)) 7 v2.toNatClampNeg (((gIt (L_tell0 v2.toNatClampNeg) M2 (n 1)) 7 v2.toNatClampNeg) + 1)) 18 v1.toNatClampNeg (((gIt (L_tell0 v2.toNatClampNeg) M2 (n 1)) 18 v1.toNatClampNeg) + 1)) o)) hx hb hK hW hS 0 (n := 12) (f := ((tset (tset (gIt (L_tell0 v2.toNatClampNeg) M2 (n 1)) 8 0 ((gIt (L_tell0 v2.toNatClampNeg) M2 (n 1)) 5 v2.toNatClampNeg)) 7 v2.toNatClampNeg (((gIt (L_tell0 v2.toNatClampNeg) M2 (n 1)) 7 v2.toNatClampNeg) + 1)) 18)) rfl rfl (k := v1.toNatClampNeg) hv1.1 (by omega) (by decide) dX5_tell_195 (Wd_An (by decide)) (Wd_tA (by decide)) (fun H locs hW hS => ?_)
        refine lv_aload_n hx hb dX5_tell_196 rfl (lv_at hl 2 rfl) ?_
        refine va_get (D := D) (ci := 6) (v := .ref (ad 9 16)) (C := RX5) (T := TX5) (N := 23) hx hb hts inX5 hown hK (hW.p (e := (eMod ad (tset (tset (tset (gIt (L_tell0 v2.toNatClampNeg) M2 (n 1)) 8 0 ((gIt (L_tell0 v2.toNatClampNeg) M2 (n 1)) 5 v2.toNatClampNeg)) 7 v2.toNatClampNeg (((gIt (L_tell0 v2.toNatClampNeg) M2 (n 1)) 7 v2.toNatClampNeg) + 1)) 18 v1.toNatClampNeg (((gIt (L_tell0 v2.toNatClampNeg) M2 (n 1)) 18 v1.toNatClampNeg) + 1)))) rfl) 0 rfl rfl 16 (by decide) (hts (.fieldLink RX5 41 "StoryTollModel" "paid" "[I") (List.mem_of_getElem? (i := 12) rfl)) (fun _ h9 => h9) rfl dX5_tell_197 ?_
        refine lv_iload_n hx hb dX5_tell_200 rfl (lv_at hl 3 rfl) ?_
        refine lv_dup2_11 hx hb dX5_tell_201 rfl rfl ?_
        refine g_ild hx hb hK hW 0 (n := 12) (f := ((tset (tset (tset (gIt (L_tell0 v2.toNatClampNeg) M2 (n 1)) 8 0 ((gIt (L_tell0 v2.toNatClampNeg) M2 (n 1)) 5 v2.toNatClampNeg)) 7 v2.toNatClampNeg (((gIt (L_tell0 v2.toNatClampNeg) M2 (n 1)) 7 v2.toNatClampNeg) + 1)) 18 v1.toNatClampNeg (((gIt (L_tell0 v2.toNatClampNeg) M2 (n 1)) 18 v1.toNatClampNeg) + 1)) 16)) rfl rfl (k := v1.toNatClampNeg) hv1.1 (by omega) (by decide) dX5_tell_202 ?_
        rw [show ((tset (tset (tset (gIt (L_tell0 v2.toNatClampNeg) M2 (n 1)) 8 0 ((gIt (L_tell0 v2.toNatClampNeg) M2 (n 1)) 5 v2.toNatClampNeg)) 7 v2.toNatClampNeg (((gIt (L_tell0 v2.toNatClampNeg) M2 (n 1)) 7 v2.toNatClampNeg) + 1)) 18 v1.toNatClampNeg (((gIt (L_tell0 v2.toNatClampNeg) M2 (n 1)) 18 v1.toNatClampNeg) + 1)) 16 v1.toNatClampNeg) = ((gIt (L_tell0 v2.toNatClampNeg) M2 (n 1)) 16 v1.toNatClampNeg) from by rw [tset_of (by decide), tset_of (by decide), tset_of (by decide)]]
        refine lv_iload hx hb dX5_tell_203 (lv_at hl 1 rfl) ?_
        refine lv_iadd hx hb dX5_tell_205 ?_
        refine g_istN (ct' := (Wd G ad N C (tset (tset (tset (tset (gIt (L_tell0 v2.toNatClampNeg) M2 (n 1)) 8 0 ((gIt (L_tell0 v2.toNatClampNeg) M2 (n 1)) 5 v2.toNatClampNeg)) 7 v2.toNatClampNeg (((gIt (L_tell0 v2.toNatClampNeg) M2 (n 1)) 7 v2.toNatClampNeg) + 1)) 18 v1.toNatClampNeg (((gIt (L_tell0 v2.toNatClampNeg) M2 (n 1)) 18 v1.toNatClampNeg) + 1)) 16 v1.toNatClampNeg (((gIt (L_tell0 v2.toNatClampNeg) M2 (n 1)) 16 v1.toNatClampNeg) + (f_X5_toll n M2 v2.toNatClampNeg))) o)) hx hb hK hW hS 0 (n := 12) (f := ((tset (tset (tset (gIt (L_tell0 v2.toNatClampNeg) M2 (n 1)) 8 0 ((gIt (L_tell0 v2.toNatClampNeg) M2 (n 1)) 5 v2.toNatClampNeg)) 7 v2.toNatClampNeg (((gIt (L_tell0 v2.toNatClampNeg) M2 (n 1)) 7 v2.toNatClampNeg) + 1)) 18 v1.toNatClampNeg (((gIt (L_tell0 v2.toNatClampNeg) M2 (n 1)) 18 v1.toNatClampNeg) + 1)) 16)) rfl rfl (k := v1.toNatClampNeg) hv1.1 (by omega) (by decide) dX5_tell_206 (Wd_An (by decide)) (Wd_tA (by decide)) (fun H locs hW hS => ?_)
        refine lv_aload_n hx hb dX5_tell_207 rfl (lv_at hl 2 rfl) ?_
        refine lv_dup hx hb dX5_tell_208 rfl ?_
        refine va_get (D := D) (ci := 6) (v := .int ((tset (tset (tset (tset (gIt (L_tell0 v2.toNatClampNeg) M2 (n 1)) 8 0 ((gIt (L_tell0 v2.toNatClampNeg) M2 (n 1)) 5 v2.toNatClampNeg)) 7 v2.toNatClampNeg (((gIt (L_tell0 v2.toNatClampNeg) M2 (n 1)) 7 v2.toNatClampNeg) + 1)) 18 v1.toNatClampNeg (((gIt (L_tell0 v2.toNatClampNeg) M2 (n 1)) 18 v1.toNatClampNeg) + 1)) 16 v1.toNatClampNeg (((gIt (L_tell0 v2.toNatClampNeg) M2 (n 1)) 16 v1.toNatClampNeg) + (f_X5_toll n M2 v2.toNatClampNeg))) 9 0)) (C := RX5) (T := TX5) (N := 23) hx hb hts inX5 hown hK (hW.p (e := (eMod ad (tset (tset (tset (tset (gIt (L_tell0 v2.toNatClampNeg) M2 (n 1)) 8 0 ((gIt (L_tell0 v2.toNatClampNeg) M2 (n 1)) 5 v2.toNatClampNeg)) 7 v2.toNatClampNeg (((gIt (L_tell0 v2.toNatClampNeg) M2 (n 1)) 7 v2.toNatClampNeg) + 1)) 18 v1.toNatClampNeg (((gIt (L_tell0 v2.toNatClampNeg) M2 (n 1)) 18 v1.toNatClampNeg) + 1)) 16 v1.toNatClampNeg (((gIt (L_tell0 v2.toNatClampNeg) M2 (n 1)) 16 v1.toNatClampNeg) + (f_X5_toll n M2 v2.toNatClampNeg))))) rfl) 0 rfl rfl 9 (by decide) (hts (.fieldLink RX5 133 "StoryTollModel" "tolls" "I") (List.mem_of_getElem? (i := 13) rfl)) (fun _ h9 => h9) rfl dX5_tell_209 ?_
        rw [show ((tset (tset (tset (tset (gIt (L_tell0 v2.toNatClampNeg) M2 (n 1)) 8 0 ((gIt (L_tell0 v2.toNatClampNeg) M2 (n 1)) 5 v2.toNatClampNeg)) 7 v2.toNatClampNeg (((gIt (L_tell0 v2.toNatClampNeg) M2 (n 1)) 7 v2.toNatClampNeg) + 1)) 18 v1.toNatClampNeg (((gIt (L_tell0 v2.toNatClampNeg) M2 (n 1)) 18 v1.toNatClampNeg) + 1)) 16 v1.toNatClampNeg (((gIt (L_tell0 v2.toNatClampNeg) M2 (n 1)) 16 v1.toNatClampNeg) + (f_X5_toll n M2 v2.toNatClampNeg))) 9 0) = ((gIt (L_tell0 v2.toNatClampNeg) M2 (n 1)) 9 0) from by rw [tset_of (by decide), tset_of (by decide), tset_of (by decide), tset_of (by decide)]]
        refine lv_iload hx hb dX5_tell_212 (lv_at hl 1 rfl) ?_
        refine lv_iadd hx hb dX5_tell_214 ?_
        refine g_put (D := D) (ci := 6) (v := .int (((gIt (L_tell0 v2.toNatClampNeg) M2 (n 1)) 9 0) + (f_X5_toll n M2 v2.toNatClampNeg))) (ty := .int) (C := RX5) (T := TX5) (N := 23) (ct' := (Wd G ad N C (tset (tset (tset (tset (tset (gIt (L_tell0 v2.toNatClampNeg) M2 (n 1)) 8 0 ((gIt (L_tell0 v2.toNatClampNeg) M2 (n 1)) 5 v2.toNatClampNeg)) 7 v2.toNatClampNeg (((gIt (L_tell0 v2.toNatClampNeg) M2 (n 1)) 7 v2.toNatClampNeg) + 1)) 18 v1.toNatClampNeg (((gIt (L_tell0 v2.toNatClampNeg) M2 (n 1)) 18 v1.toNatClampNeg) + 1)) 16 v1.toNatClampNeg (((gIt (L_tell0 v2.toNatClampNeg) M2 (n 1)) 16 v1.toNatClampNeg) + (f_X5_toll n M2 v2.toNatClampNeg))) 9 0 (((gIt (L_tell0 v2.toNatClampNeg) M2 (n 1)) 9 0) + (f_X5_toll n M2 v2.toNatClampNeg))) o)) hx hb hts inX5 tyX5 tyX5_ok nmX5 hown hK hW hS (show Wd G ad N C (tset (tset (tset (tset (gIt (L_tell0 v2.toNatClampNeg) M2 (n 1)) 8 0 ((gIt (L_tell0 v2.toNatClampNeg) M2 (n 1)) 5 v2.toNatClampNeg)) 7 v2.toNatClampNeg (((gIt (L_tell0 v2.toNatClampNeg) M2 (n 1)) 7 v2.toNatClampNeg) + 1)) 18 v1.toNatClampNeg (((gIt (L_tell0 v2.toNatClampNeg) M2 (n 1)) 18 v1.toNatClampNeg) + 1)) 16 v1.toNatClampNeg (((gIt (L_tell0 v2.toNatClampNeg) M2 (n 1)) 16 v1.toNatClampNeg) + (f_X5_toll n M2 v2.toNatClampNeg))) o 0 1 = some (eMod ad (tset (tset (tset (tset (gIt (L_tell0 v2.toNatClampNeg) M2 (n 1)) 8 0 ((gIt (L_tell0 v2.toNatClampNeg) M2 (n 1)) 5 v2.toNatClampNeg)) 7 v2.toNatClampNeg (((gIt (L_tell0 v2.toNatClampNeg) M2 (n 1)) 7 v2.toNatClampNeg) + 1)) 18 v1.toNatClampNeg (((gIt (L_tell0 v2.toNatClampNeg) M2 (n 1)) 18 v1.toNatClampNeg) + 1)) 16 v1.toNatClampNeg (((gIt (L_tell0 v2.toNatClampNeg) M2 (n 1)) 16 v1.toNatClampNeg) + (f_X5_toll n M2 v2.toNatClampNeg)))) from rfl) rfl 9 (by decide) (hts (.fieldLink RX5 133 "StoryTollModel" "tolls" "I") (List.mem_of_getElem? (i := 13) rfl)) (fun _ h9 => h9) rfl (by decide +kernel) rfl rfl (Nat.le_of_ble_eq_true rfl) dX5_tell_215 Wd_m9 (Wd_tM rfl) (fun H locs hW hS => ?_)
        refine lv_iload hx hb dX5_tell_218 (lv_at hl 1 rfl) ?_
        exact g_wret (u := ()) (post := fun r _ => r = f_X5_tell n M v1 v2 v3) (B := fun _ H => gW D A ad (Wd G ad N C (s_X5_tell n M v1 v2 v3) o) H) hx hb hr hlk hh hS (show (f_X5_toll n M2 v2.toNatClampNeg) = f_X5_tell n M v1 v2 v3 from by rw [hF, f_X5_tell2]) (show gW D A ad (Wd G ad N C (s_X5_tell n M v1 v2 v3) o) H from by rw [hG, s_X5_tell2]; exact hW) dX5_tell_220
      · exact absurd (g_le hk10 (by omega)) c_150_11
    · obtain ⟨hl, hW⟩ : lv_has ls 7 [(6, .int (nI j)), (5, .int (f_X5_toll n M2 v2.toNatClampNeg)), (0, .ref (ad 0 1)), (1, .int v1), (2, .int v2)] ∧ gW D A ad (Wd G ad N C (gIt (L_tell0 v2.toNatClampNeg) M2 j) o) H := hlW
      refine W.widen (k := 0) (n := 0) (by omega) (by omega) ?_
      obtain ⟨hk10, hk13⟩ := listen_it (n := n) (i := v2.toNatClampNeg) (M := M2) j (by omega) hb1 hhe
      obtain ⟨h9, hk13⟩ := hk13 (24 * j + v2.toNatClampNeg) (by omega) (by omega)
      refine lv_iload hx hb dX5_tell_144 (lv_at hl 0 rfl) ?_
      refine lv_aload_n hx hb dX5_tell_146 rfl (lv_at hl 2 rfl) ?_
      refine va_get (D := D) (ci := 6) (v := .int ((gIt (L_tell0 v2.toNatClampNeg) M2 j) 10 0)) (C := RX5) (T := TX5) (N := 23) hx hb hts inX5 hown hK (hW.p (e := (eMod ad (gIt (L_tell0 v2.toNatClampNeg) M2 j))) rfl) 0 rfl rfl 10 (by decide) (hts (.fieldLink RX5 69 "StoryTollModel" "guards" "I") (List.mem_of_getElem? (i := 7) rfl)) (fun _ h9 => h9) rfl dX5_tell_147 ?_
      refine lv_icmp_ge (tgt := 166) hx hb dX5_tell_150 (by decide) (fun c_150_12 => ?_) (fun c_150_12 => ?_)
      · exact absurd c_150_12 (g_ge hk10 (by omega) hj)
      · refine lv_aload_n hx hb dX5_tell_153 rfl (lv_at hl 2 rfl) ?_
        refine lv_iload hx hb dX5_tell_154 (lv_at hl 0 rfl) ?_
        refine lv_iload_n hx hb dX5_tell_156 rfl (lv_at hl 4 rfl) ?_
        refine g_wVv (As := [.int (nI j), .int v2]) (rest := []) (B := fun (_ : Unit) H => gW D A ad (Wd G ad N C (s_X5_listen (gIt (L_tell0 v2.toNatClampNeg) M2 j) j v2.toNatClampNeg) o) H) (mc := 0) (ms := 0) C0 ((by have h9 := c_X5_listen l D G A ad N C (gIt (L_tell0 v2.toNatClampNeg) M2 j) o H hW j v2.toNatClampNeg h9 (by omega) (by omega) hk13.2 hk13.1; rw [← hv2.1] at h9; exact h9)) (cwV 2 hts gX5_tell_X5_listen rfl rfl rfl (by decide +kernel) ⟨Nat.le_of_ble_eq_true rfl, Nat.le_of_ble_eq_true rfl⟩) hK (va_recv hK (hW.p rfl) (ci := 6) (q0 := 0) rfl rfl) rfl hl rfl (Nat.le_of_ble_eq_true rfl) dX5_tell_157 ⟨Nat.zero_le _, Nat.zero_le _⟩ hS (fun ur_14 H locs hr_14 hW hzr_14 hS => ?_)
        have hW : gW D A ad (Wd G ad N C (s_X5_listen (gIt (L_tell0 v2.toNatClampNeg) M2 j) j v2.toNatClampNeg) o) H := hW
        refine lv_iinc (v := (nI (j + 1))) (lv' := [(6, .int (nI (j + 1))), (5, .int (f_X5_toll n M2 v2.toNatClampNeg)), (0, .ref (ad 0 1)), (1, .int v1), (2, .int v2)]) hx hb dX5_tell_160 hl (k := 0) rfl (nI_1 _) (by decide) rfl (fun ls hl => ?_)
        refine lv_goto (tgt := 144) hx hb dX5_tell_163 (by decide) ?_
        have ea : (s_X5_listen (gIt (L_tell0 v2.toNatClampNeg) M2 j) j v2.toNatClampNeg) = (gIt (L_tell0 v2.toNatClampNeg) M2 (j + 1)) := by rw [gIt_s, L_tell0]
        have hl2 : lv_has ls 7 [(6, .int (nI (j + 1))), (5, .int (f_X5_toll n M2 v2.toNatClampNeg)), (0, .ref (ad 0 1)), (1, .int v1), (2, .int v2)] ∧ gW D A ad (Wd G ad N C (gIt (L_tell0 v2.toNatClampNeg) M2 (j + 1)) o) H := by rw [← ea]; exact ⟨lv_sub hl [0, 1, 2, 3, 4] rfl, hW⟩
        refine W.widen (k := 0 + (j + 1) * 0) (n := 0 + (j + 1) * 0) (by omega) (by omega) ?_
        exact ih ls H locs hl2 hS
  refine lv_aload_n hx hb dX5_tell_0 rfl (lv_at hl 0 rfl) ?_
  refine lv_iconst (v := 0) hx hb dX5_tell_1 (by decide) ?_
  refine g_put (D := D) (ci := 6) (v := .int 0) (ty := .int) (C := RX5) (T := TX5) (N := 23) (ct' := (Wd G ad N C (tset M 0 0 0) o)) hx hb hts inX5 tyX5 tyX5_ok nmX5 hown hK hW hS (show Wd G ad N C M o 0 1 = some (eMod ad M) from rfl) rfl 0 (by decide) (hts (.fieldLink RX5 59 "StoryTollModel" "thrown" "I") (List.mem_of_getElem? (i := 1) rfl)) (fun _ h9 => h9) rfl (by decide +kernel) rfl rfl (Nat.le_of_ble_eq_true rfl) dX5_tell_2 Wd_m0 (Wd_tM rfl) (fun H locs hW hS => ?_)
  refine lv_aload_n hx hb dX5_tell_5 rfl (lv_at hl 0 rfl) ?_
  refine lv_iload_n hx hb dX5_tell_6 rfl (lv_at hl 1 rfl) ?_
  refine g_Vi (As := [.int v1]) (rest := []) C0 (c_X5_isTraveller l D G A ad N C (tset M 0 0 0) o H hW v1) (cwV 1 hts gX5_tell_X5_isTraveller rfl rfl rfl (by decide +kernel) ⟨Nat.le_of_ble_eq_true rfl, Nat.le_of_ble_eq_true rfl⟩) hK (va_recv hK (hW.p rfl) (ci := 6) (q0 := 0) rfl rfl) rfl hl rfl (Nat.le_of_ble_eq_true rfl) dX5_tell_7 ⟨Nat.zero_le _, Nat.zero_le _⟩ hS (fun r_1 locs hr_1 hS => ?_)
  subst hr_1
  refine lv_if_eq (tgt := 38) hx hb dX5_tell_10 (by decide) (fun c_10_1 => ?_) (fun c_10_1 => ?_)
  · refine lv_aload_n hx hb dX5_tell_38 rfl (lv_at hl 0 rfl) ?_
    refine lv_iconst (v := 1) hx hb dX5_tell_39 (by decide) ?_
    refine g_wVi (As := [.int 1]) (rest := []) (B := fun (_ : Unit) H => gW D A ad (Wd G ad N C (s_X5_no (tset M 0 0 0) 1) o) H) (mc := 0) (ms := 0) C0 (c_X5_no l D G A ad N C (tset M 0 0 0) o H hW 1) (cwV 1 hts gX5_tell_X5_no rfl rfl rfl (by decide +kernel) ⟨Nat.le_of_ble_eq_true rfl, Nat.le_of_ble_eq_true rfl⟩) hK (va_recv hK (hW.p rfl) (ci := 6) (q0 := 0) rfl rfl) rfl hl rfl (Nat.le_of_ble_eq_true rfl) dX5_tell_40 ⟨Nat.zero_le _, Nat.zero_le _⟩ hS (fun r_3 ur_3 H locs hr_3 hW hzr_3 hS => ?_)
    have hW : gW D A ad (Wd G ad N C (s_X5_no (tset M 0 0 0) 1) o) H := hW
    subst hr_3
    exact g_wret (u := ()) (post := fun r _ => r = f_X5_tell n M v1 v2 v3) (B := fun _ H => gW D A ad (Wd G ad N C (s_X5_tell n M v1 v2 v3) o) H) hx hb hr hlk hh hS (show (f_X5_no (tset M 0 0 0) 1) = f_X5_tell n M v1 v2 v3 from by rw [f_X5_tell, if_pos c_10_1]) (show gW D A ad (Wd G ad N C (s_X5_tell n M v1 v2 v3) o) H from by rw [s_X5_tell, if_pos c_10_1]; exact hW) dX5_tell_43
  · have hv1 := is_idx hb2 (by omega) c_10_1
    refine lv_aload_n hx hb dX5_tell_13 rfl (lv_at hl 0 rfl) ?_
    refine lv_iload_n hx hb dX5_tell_14 rfl (lv_at hl 2 rfl) ?_
    refine g_Vi (As := [.int v2]) (rest := []) C0 (c_X5_isScene l D G A ad N C (tset M 0 0 0) o H hW v2) (cwV 1 hts gX5_tell_X5_isScene rfl rfl rfl (by decide +kernel) ⟨Nat.le_of_ble_eq_true rfl, Nat.le_of_ble_eq_true rfl⟩) hK (va_recv hK (hW.p rfl) (ci := 6) (q0 := 0) rfl rfl) rfl hl rfl (Nat.le_of_ble_eq_true rfl) dX5_tell_15 ⟨Nat.zero_le _, Nat.zero_le _⟩ hS (fun r_4 locs hr_4 hS => ?_)
    subst hr_4
    refine lv_if_eq (tgt := 38) hx hb dX5_tell_18 (by decide) (fun c_18_4 => ?_) (fun c_18_4 => ?_)
    · refine lv_aload_n hx hb dX5_tell_38 rfl (lv_at hl 0 rfl) ?_
      refine lv_iconst (v := 1) hx hb dX5_tell_39 (by decide) ?_
      refine g_wVi (As := [.int 1]) (rest := []) (B := fun (_ : Unit) H => gW D A ad (Wd G ad N C (s_X5_no (tset M 0 0 0) 1) o) H) (mc := 0) (ms := 0) C0 (c_X5_no l D G A ad N C (tset M 0 0 0) o H hW 1) (cwV 1 hts gX5_tell_X5_no rfl rfl rfl (by decide +kernel) ⟨Nat.le_of_ble_eq_true rfl, Nat.le_of_ble_eq_true rfl⟩) hK (va_recv hK (hW.p rfl) (ci := 6) (q0 := 0) rfl rfl) rfl hl rfl (Nat.le_of_ble_eq_true rfl) dX5_tell_40 ⟨Nat.zero_le _, Nat.zero_le _⟩ hS (fun r_6 ur_6 H locs hr_6 hW hzr_6 hS => ?_)
      have hW : gW D A ad (Wd G ad N C (s_X5_no (tset M 0 0 0) 1) o) H := hW
      subst hr_6
      exact g_wret (u := ()) (post := fun r _ => r = f_X5_tell n M v1 v2 v3) (B := fun _ H => gW D A ad (Wd G ad N C (s_X5_tell n M v1 v2 v3) o) H) hx hb hr hlk hh hS (show (f_X5_no (tset M 0 0 0) 1) = f_X5_tell n M v1 v2 v3 from by rw [f_X5_tell, if_neg c_10_1, if_pos c_18_4]) (show gW D A ad (Wd G ad N C (s_X5_tell n M v1 v2 v3) o) H from by rw [s_X5_tell, if_neg c_10_1, if_pos c_18_4]; exact hW) dX5_tell_43
    · have hv2 := is_idx hb0 (by omega) c_18_4
      refine lv_aload_n hx hb dX5_tell_21 rfl (lv_at hl 0 rfl) ?_
      refine va_get (D := D) (ci := 6) (v := .ref (ad 9 3)) (C := RX5) (T := TX5) (N := 23) hx hb hts inX5 hown hK (hW.p (e := (eMod ad (tset M 0 0 0))) rfl) 0 rfl rfl 3 (by decide) (hts (.fieldLink RX5 9 "StoryTollModel" "kind" "[I") (List.mem_of_getElem? (i := 2) rfl)) (fun _ h9 => h9) rfl dX5_tell_22 ?_
      refine lv_iload_n hx hb dX5_tell_25 rfl (lv_at hl 2 rfl) ?_
      refine g_ild hx hb hK hW 0 (n := 24) (f := ((tset M 0 0 0) 3)) rfl rfl (k := v2.toNatClampNeg) hv2.1 (by omega) (by decide) dX5_tell_26 ?_
      rw [show ((tset M 0 0 0) 3 v2.toNatClampNeg) = (M 3 v2.toNatClampNeg) from by rw [tset_of (by decide)]]
      refine lv_if_eq (tgt := 44) hx hb dX5_tell_27 (by decide) (fun c_27_6 => ?_) (fun c_27_6 => ?_)
      · refine lv_aload_n hx hb dX5_tell_44 rfl (lv_at hl 0 rfl) ?_
        refine lv_iload_n hx hb dX5_tell_45 rfl (lv_at hl 1 rfl) ?_
        refine lv_iload_n hx hb dX5_tell_46 rfl (lv_at hl 2 rfl) ?_
        refine lv_iload_n hx hb dX5_tell_47 rfl (lv_at hl 3 rfl) ?_
        refine g_Vi (As := [.int v1, .int v2, .int v3]) (rest := []) C0 ((by have h9 := c_X5_can l D G A ad N C (tset M 0 0 0) o H hW n hI0 v1.toNatClampNeg v2.toNatClampNeg v3.toNatClampNeg v3 (by omega) (by omega) (fun z => absurd c_27_6 z); rw [← hv1.1, ← hv2.1] at h9; exact h9)) (cwV 3 hts gX5_tell_X5_can rfl rfl rfl (by decide +kernel) ⟨Nat.le_of_ble_eq_true rfl, Nat.le_of_ble_eq_true rfl⟩) hK (va_recv hK (hW.p rfl) (ci := 6) (q0 := 0) rfl rfl) rfl hl rfl (Nat.le_of_ble_eq_true rfl) dX5_tell_48 ⟨Nat.zero_le _, Nat.zero_le _⟩ hS (fun r_8 locs hr_8 hS => ?_)
        subst hr_8
        refine lv_if_ne (tgt := 60) hx hb dX5_tell_51 (by decide) (fun c_51_8 => ?_) (fun c_51_8 => ?_)
        · have hlt := can_begin hb3 hn3 c_27_6 c_51_8
          refine lv_iload_n hx hb dX5_tell_60 rfl (lv_at hl 3 rfl) ?_
          refine lv_istore (lv' := [(4, .int v3), (0, .ref (ad 0 1)), (1, .int v1), (2, .int v2), (3, .int v3)]) hx hb dX5_tell_61 hl (by decide) rfl (fun ls hl => ?_)
          refine lv_aload_n hx hb dX5_tell_63 rfl (lv_at hl 1 rfl) ?_
          refine va_get (D := D) (ci := 6) (v := .ref (ad 9 3)) (C := RX5) (T := TX5) (N := 23) hx hb hts inX5 hown hK (hW.p (e := (eMod ad (tset M 0 0 0))) rfl) 0 rfl rfl 3 (by decide) (hts (.fieldLink RX5 9 "StoryTollModel" "kind" "[I") (List.mem_of_getElem? (i := 2) rfl)) (fun _ h9 => h9) rfl dX5_tell_64 ?_
          refine lv_iload_n hx hb dX5_tell_67 rfl (lv_at hl 3 rfl) ?_
          refine g_ild hx hb hK hW 0 (n := 24) (f := ((tset M 0 0 0) 3)) rfl rfl (k := v2.toNatClampNeg) hv2.1 (by omega) (by decide) dX5_tell_68 ?_
          rw [show ((tset M 0 0 0) 3 v2.toNatClampNeg) = (M 3 v2.toNatClampNeg) from by rw [tset_of (by decide)]]
          refine lv_if_ne (tgt := 104) hx hb dX5_tell_69 (by decide) (fun c_69_9 => ?_) (fun c_69_9 => ?_)
          · exact absurd c_27_6 c_69_9
          · refine lv_aload_n hx hb dX5_tell_72 rfl (lv_at hl 1 rfl) ?_
            refine va_get (D := D) (ci := 6) (v := .int ((tset M 0 0 0) 19 0)) (C := RX5) (T := TX5) (N := 23) hx hb hts inX5 hown hK (hW.p (e := (eMod ad (tset M 0 0 0))) rfl) 0 rfl rfl 19 (by decide) (hts (.fieldLink RX5 75 "StoryTollModel" "plots" "I") (List.mem_of_getElem? (i := 3) rfl)) (fun _ h9 => h9) rfl dX5_tell_73 ?_
            rw [show ((tset M 0 0 0) 19 0) = (M 19 0) from by rw [tset_of (by decide)]]
            refine lv_istore (lv' := [(4, .int (M 19 0)), (0, .ref (ad 0 1)), (1, .int v1), (2, .int v2), (3, .int v3)]) hx hb dX5_tell_76 hl (by decide) rfl (fun ls hl => ?_)
            refine lv_aload_n hx hb dX5_tell_78 rfl (lv_at hl 1 rfl) ?_
            refine va_get (D := D) (ci := 6) (v := .ref (ad 9 20)) (C := RX5) (T := TX5) (N := 23) hx hb hts inX5 hown hK (hW.p (e := (eMod ad (tset M 0 0 0))) rfl) 0 rfl rfl 20 (by decide) (hts (.fieldLink RX5 50 "StoryTollModel" "size" "[I") (List.mem_of_getElem? (i := 4) rfl)) (fun _ h9 => h9) rfl dX5_tell_79 ?_
            refine lv_iload hx hb dX5_tell_82 (lv_at hl 0 rfl) ?_
            refine lv_iconst (v := 0) hx hb dX5_tell_84 (by decide) ?_
            refine g_istN (ct' := (Wd G ad N C (tset (tset M 0 0 0) 20 (n 3) 0) o)) hx hb hK hW hS 0 (n := 8) (f := ((tset M 0 0 0) 20)) rfl rfl (k := (n 3)) hb3 (by omega) (by decide) dX5_tell_85 (Wd_An (by decide)) (Wd_tA (by decide)) (fun H locs hW hS => ?_)
            refine lv_aload_n hx hb dX5_tell_86 rfl (lv_at hl 1 rfl) ?_
            refine va_get (D := D) (ci := 6) (v := .ref (ad 9 22)) (C := RX5) (T := TX5) (N := 23) hx hb hts inX5 hown hK (hW.p (e := (eMod ad (tset (tset M 0 0 0) 20 (n 3) 0))) rfl) 0 rfl rfl 22 (by decide) (hts (.fieldLink RX5 56 "StoryTollModel" "keeper" "[I") (List.mem_of_getElem? (i := 5) rfl)) (fun _ h9 => h9) rfl dX5_tell_87 ?_
            refine lv_iload hx hb dX5_tell_90 (lv_at hl 0 rfl) ?_
            refine lv_iconst (v := (-1)) hx hb dX5_tell_92 (by decide) ?_
            refine g_istN (ct' := (Wd G ad N C (tset (tset (tset M 0 0 0) 20 (n 3) 0) 22 (n 3) (-1)) o)) hx hb hK hW hS 0 (n := 8) (f := ((tset (tset M 0 0 0) 20 (n 3) 0) 22)) rfl rfl (k := (n 3)) hb3 (by omega) (by decide) dX5_tell_93 (Wd_An (by decide)) (Wd_tA (by decide)) (fun H locs hW hS => ?_)
            refine lv_aload_n hx hb dX5_tell_94 rfl (lv_at hl 1 rfl) ?_
            refine lv_dup hx hb dX5_tell_95 rfl ?_
            refine va_get (D := D) (ci := 6) (v := .int ((tset (tset (tset M 0 0 0) 20 (n 3) 0) 22 (n 3) (-1)) 19 0)) (C := RX5) (T := TX5) (N := 23) hx hb hts inX5 hown hK (hW.p (e := (eMod ad (tset (tset (tset M 0 0 0) 20 (n 3) 0) 22 (n 3) (-1)))) rfl) 0 rfl rfl 19 (by decide) (hts (.fieldLink RX5 75 "StoryTollModel" "plots" "I") (List.mem_of_getElem? (i := 3) rfl)) (fun _ h9 => h9) rfl dX5_tell_96 ?_
            rw [show ((tset (tset (tset M 0 0 0) 20 (n 3) 0) 22 (n 3) (-1)) 19 0) = (M 19 0) from by rw [tset_of (by decide), tset_of (by decide), tset_of (by decide)]]
            refine lv_iconst (v := 1) hx hb dX5_tell_99 (by decide) ?_
            refine lv_iadd hx hb dX5_tell_100 ?_
            refine g_put (D := D) (ci := 6) (v := .int ((M 19 0) + 1)) (ty := .int) (C := RX5) (T := TX5) (N := 23) (ct' := (Wd G ad N C (tset (tset (tset (tset M 0 0 0) 20 (n 3) 0) 22 (n 3) (-1)) 19 0 ((M 19 0) + 1)) o)) hx hb hts inX5 tyX5 tyX5_ok nmX5 hown hK hW hS (show Wd G ad N C (tset (tset (tset M 0 0 0) 20 (n 3) 0) 22 (n 3) (-1)) o 0 1 = some (eMod ad (tset (tset (tset M 0 0 0) 20 (n 3) 0) 22 (n 3) (-1))) from rfl) rfl 19 (by decide) (hts (.fieldLink RX5 75 "StoryTollModel" "plots" "I") (List.mem_of_getElem? (i := 3) rfl)) (fun _ h9 => h9) rfl (by decide +kernel) rfl rfl (Nat.le_of_ble_eq_true rfl) dX5_tell_101 Wd_m19 (Wd_tM rfl) (fun H locs hW hS => ?_)
            refine lv_aload_n hx hb dX5_tell_104 rfl (lv_at hl 1 rfl) ?_
            refine va_get (D := D) (ci := 6) (v := .ref (ad 9 21)) (C := RX5) (T := TX5) (N := 23) hx hb hts inX5 hown hK (hW.p (e := (eMod ad (tset (tset (tset (tset M 0 0 0) 20 (n 3) 0) 22 (n 3) (-1)) 19 0 ((M 19 0) + 1)))) rfl) 0 rfl rfl 21 (by decide) (hts (.fieldLink RX5 53 "StoryTollModel" "row" "[I") (List.mem_of_getElem? (i := 6) rfl)) (fun _ h9 => h9) rfl dX5_tell_105 ?_
            refine lv_bipush (v := 8) hx hb dX5_tell_108 (by decide) ?_
            refine lv_iload hx hb dX5_tell_110 (lv_at hl 0 rfl) ?_
            refine lv_imul hx hb dX5_tell_112 ?_
            refine lv_aload_n hx hb dX5_tell_113 rfl (lv_at hl 1 rfl) ?_
            refine va_get (D := D) (ci := 6) (v := .ref (ad 9 20)) (C := RX5) (T := TX5) (N := 23) hx hb hts inX5 hown hK (hW.p (e := (eMod ad (tset (tset (tset (tset M 0 0 0) 20 (n 3) 0) 22 (n 3) (-1)) 19 0 ((M 19 0) + 1)))) rfl) 0 rfl rfl 20 (by decide) (hts (.fieldLink RX5 50 "StoryTollModel" "size" "[I") (List.mem_of_getElem? (i := 4) rfl)) (fun _ h9 => h9) rfl dX5_tell_114 ?_
            refine lv_iload hx hb dX5_tell_117 (lv_at hl 0 rfl) ?_
            refine g_ild hx hb hK hW 0 (n := 8) (f := ((tset (tset (tset (tset M 0 0 0) 20 (n 3) 0) 22 (n 3) (-1)) 19 0 ((M 19 0) + 1)) 20)) rfl rfl (k := (n 3)) hb3 (by omega) (by decide) dX5_tell_119 ?_
            rw [show ((tset (tset (tset (tset M 0 0 0) 20 (n 3) 0) 22 (n 3) (-1)) 19 0 ((M 19 0) + 1)) 20 (n 3)) = 0 from by rw [tset_of (by decide), tset_of (by decide), tset_s]]
            refine lv_iadd hx hb dX5_tell_120 ?_
            refine lv_iload_n hx hb dX5_tell_121 rfl (lv_at hl 3 rfl) ?_
            refine g_istN (ct' := (Wd G ad N C (tset (tset (tset (tset (tset M 0 0 0) 20 (n 3) 0) 22 (n 3) (-1)) 19 0 ((M 19 0) + 1)) 21 (8 * n 3) v2) o)) hx hb hK hW hS 0 (n := 64) (f := ((tset (tset (tset (tset M 0 0 0) 20 (n 3) 0) 22 (n 3) (-1)) 19 0 ((M 19 0) + 1)) 21)) rfl rfl (k := (8 * n 3)) (by rw [hb3, show (0 : Int32) = nI 0 from rfl, ix8]; rfl) (by omega) (by decide) dX5_tell_122 (Wd_An (by decide)) (Wd_tA (by decide)) (fun H locs hW hS => ?_)
            refine lv_aload_n hx hb dX5_tell_123 rfl (lv_at hl 1 rfl) ?_
            refine va_get (D := D) (ci := 6) (v := .ref (ad 9 20)) (C := RX5) (T := TX5) (N := 23) hx hb hts inX5 hown hK (hW.p (e := (eMod ad (tset (tset (tset (tset (tset M 0 0 0) 20 (n 3) 0) 22 (n 3) (-1)) 19 0 ((M 19 0) + 1)) 21 (8 * n 3) v2))) rfl) 0 rfl rfl 20 (by decide) (hts (.fieldLink RX5 50 "StoryTollModel" "size" "[I") (List.mem_of_getElem? (i := 4) rfl)) (fun _ h9 => h9) rfl dX5_tell_124 ?_
            refine lv_iload hx hb dX5_tell_127 (lv_at hl 0 rfl) ?_
            refine lv_dup2_11 hx hb dX5_tell_129 rfl rfl ?_
            refine g_ild hx hb hK hW 0 (n := 8) (f := ((tset (tset (tset (tset (tset M 0 0 0) 20 (n 3) 0) 22 (n 3) (-1)) 19 0 ((M 19 0) + 1)) 21 (8 * n 3) v2) 20)) rfl rfl (k := (n 3)) hb3 (by omega) (by decide) dX5_tell_130 ?_
            rw [show ((tset (tset (tset (tset (tset M 0 0 0) 20 (n 3) 0) 22 (n 3) (-1)) 19 0 ((M 19 0) + 1)) 21 (8 * n 3) v2) 20 (n 3)) = 0 from by rw [tset_of (by decide), tset_of (by decide), tset_of (by decide), tset_s]]
            refine lv_iconst (v := 1) hx hb dX5_tell_131 (by decide) ?_
            refine lv_iadd hx hb dX5_tell_132 ?_
            refine g_istN (ct' := (Wd G ad N C (tset (tset (tset (tset (tset (tset M 0 0 0) 20 (n 3) 0) 22 (n 3) (-1)) 19 0 ((M 19 0) + 1)) 21 (8 * n 3) v2) 20 (n 3) (0 + 1)) o)) hx hb hK hW hS 0 (n := 8) (f := ((tset (tset (tset (tset (tset M 0 0 0) 20 (n 3) 0) 22 (n 3) (-1)) 19 0 ((M 19 0) + 1)) 21 (8 * n 3) v2) 20)) rfl rfl (k := (n 3)) hb3 (by omega) (by decide) dX5_tell_133 (Wd_An (by decide)) (Wd_tA (by decide)) (fun H locs hW hS => ?_)
            exact cut134 (tset (tset (tset (tset (tset (tset M 0 0 0) 20 (n 3) 0) 22 (n 3) (-1)) 19 0 ((M 19 0) + 1)) 21 (8 * n 3) v2) 20 (n 3) (0 + 1)) H locs ls (show f_X5_tell n M v1 v2 v3 = (f_X5_tell2 n (tset (tset (tset (tset (tset (tset M 0 0 0) 20 (n 3) 0) 22 (n 3) (-1)) 19 0 ((M 19 0) + 1)) 21 (8 * n 3) v2) 20 (n 3) (0 + 1)) v1 v2) from by rw [f_X5_tell, if_neg c_10_1, if_neg c_18_4, if_pos c_27_6, if_neg c_51_8]) (show s_X5_tell n M v1 v2 v3 = (s_X5_tell2 n (tset (tset (tset (tset (tset (tset M 0 0 0) 20 (n 3) 0) 22 (n 3) (-1)) 19 0 ((M 19 0) + 1)) 21 (8 * n 3) v2) 20 (n 3) (0 + 1)) v1 v2) from by rw [s_X5_tell, if_neg c_10_1, if_neg c_18_4, if_pos c_27_6, if_neg c_51_8]) hv1 hv2 hb1 hhe (lv_sub hl [1, 2, 3] rfl) hW hS
        · refine lv_aload_n hx hb dX5_tell_54 rfl (lv_at hl 0 rfl) ?_
          refine lv_iconst (v := 2) hx hb dX5_tell_55 (by decide) ?_
          refine g_wVi (As := [.int 2]) (rest := []) (B := fun (_ : Unit) H => gW D A ad (Wd G ad N C (s_X5_no (tset M 0 0 0) 2) o) H) (mc := 0) (ms := 0) C0 (c_X5_no l D G A ad N C (tset M 0 0 0) o H hW 2) (cwV 1 hts gX5_tell_X5_no rfl rfl rfl (by decide +kernel) ⟨Nat.le_of_ble_eq_true rfl, Nat.le_of_ble_eq_true rfl⟩) hK (va_recv hK (hW.p rfl) (ci := 6) (q0 := 0) rfl rfl) rfl hl rfl (Nat.le_of_ble_eq_true rfl) dX5_tell_56 ⟨Nat.zero_le _, Nat.zero_le _⟩ hS (fun r_15 ur_15 H locs hr_15 hW hzr_15 hS => ?_)
          have hW : gW D A ad (Wd G ad N C (s_X5_no (tset M 0 0 0) 2) o) H := hW
          subst hr_15
          exact g_wret (u := ()) (post := fun r _ => r = f_X5_tell n M v1 v2 v3) (B := fun _ H => gW D A ad (Wd G ad N C (s_X5_tell n M v1 v2 v3) o) H) hx hb hr hlk hh hS (show (f_X5_no (tset M 0 0 0) 2) = f_X5_tell n M v1 v2 v3 from by rw [f_X5_tell, if_neg c_10_1, if_neg c_18_4, if_pos c_27_6, if_pos c_51_8]) (show gW D A ad (Wd G ad N C (s_X5_tell n M v1 v2 v3) o) H from by rw [s_X5_tell, if_neg c_10_1, if_neg c_18_4, if_pos c_27_6, if_pos c_51_8]; exact hW) dX5_tell_59
      · refine lv_aload_n hx hb dX5_tell_30 rfl (lv_at hl 0 rfl) ?_
        refine lv_iload_n hx hb dX5_tell_31 rfl (lv_at hl 3 rfl) ?_
        refine g_Vi (As := [.int v3]) (rest := []) C0 (c_X5_isPlot l D G A ad N C (tset M 0 0 0) o H hW v3) (cwV 1 hts gX5_tell_X5_isPlot rfl rfl rfl (by decide +kernel) ⟨Nat.le_of_ble_eq_true rfl, Nat.le_of_ble_eq_true rfl⟩) hK (va_recv hK (hW.p rfl) (ci := 6) (q0 := 0) rfl rfl) rfl hl rfl (Nat.le_of_ble_eq_true rfl) dX5_tell_32 ⟨Nat.zero_le _, Nat.zero_le _⟩ hS (fun r_16 locs hr_16 hS => ?_)
        subst hr_16
        refine lv_if_ne (tgt := 44) hx hb dX5_tell_35 (by decide) (fun c_35_16 => ?_) (fun c_35_16 => ?_)
        · have hv3 := is_idx hb3 (by omega) c_35_16
          refine lv_aload_n hx hb dX5_tell_44 rfl (lv_at hl 0 rfl) ?_
          refine lv_iload_n hx hb dX5_tell_45 rfl (lv_at hl 1 rfl) ?_
          refine lv_iload_n hx hb dX5_tell_46 rfl (lv_at hl 2 rfl) ?_
          refine lv_iload_n hx hb dX5_tell_47 rfl (lv_at hl 3 rfl) ?_
          refine g_Vi (As := [.int v1, .int v2, .int v3]) (rest := []) C0 ((by have h9 := c_X5_can l D G A ad N C (tset M 0 0 0) o H hW n hI0 v1.toNatClampNeg v2.toNatClampNeg v3.toNatClampNeg v3 (by omega) (by omega) (fun _ => hv3); rw [← hv1.1, ← hv2.1] at h9; exact h9)) (cwV 3 hts gX5_tell_X5_can rfl rfl rfl (by decide +kernel) ⟨Nat.le_of_ble_eq_true rfl, Nat.le_of_ble_eq_true rfl⟩) hK (va_recv hK (hW.p rfl) (ci := 6) (q0 := 0) rfl rfl) rfl hl rfl (Nat.le_of_ble_eq_true rfl) dX5_tell_48 ⟨Nat.zero_le _, Nat.zero_le _⟩ hS (fun r_18 locs hr_18 hS => ?_)
          subst hr_18
          refine lv_if_ne (tgt := 60) hx hb dX5_tell_51 (by decide) (fun c_51_18 => ?_) (fun c_51_18 => ?_)
          · obtain ⟨hs1, hs2, hs3, hrw⟩ := hpl v3.toNatClampNeg hv3.2
            have hlt := can_on hs1 hs3 c_27_6 c_51_18
            refine lv_iload_n hx hb dX5_tell_60 rfl (lv_at hl 3 rfl) ?_
            refine lv_istore (lv' := [(4, .int v3), (0, .ref (ad 0 1)), (1, .int v1), (2, .int v2), (3, .int v3)]) hx hb dX5_tell_61 hl (by decide) rfl (fun ls hl => ?_)
            refine lv_aload_n hx hb dX5_tell_63 rfl (lv_at hl 1 rfl) ?_
            refine va_get (D := D) (ci := 6) (v := .ref (ad 9 3)) (C := RX5) (T := TX5) (N := 23) hx hb hts inX5 hown hK (hW.p (e := (eMod ad (tset M 0 0 0))) rfl) 0 rfl rfl 3 (by decide) (hts (.fieldLink RX5 9 "StoryTollModel" "kind" "[I") (List.mem_of_getElem? (i := 2) rfl)) (fun _ h9 => h9) rfl dX5_tell_64 ?_
            refine lv_iload_n hx hb dX5_tell_67 rfl (lv_at hl 3 rfl) ?_
            refine g_ild hx hb hK hW 0 (n := 24) (f := ((tset M 0 0 0) 3)) rfl rfl (k := v2.toNatClampNeg) hv2.1 (by omega) (by decide) dX5_tell_68 ?_
            rw [show ((tset M 0 0 0) 3 v2.toNatClampNeg) = (M 3 v2.toNatClampNeg) from by rw [tset_of (by decide)]]
            refine lv_if_ne (tgt := 104) hx hb dX5_tell_69 (by decide) (fun c_69_19 => ?_) (fun c_69_19 => ?_)
            · refine lv_aload_n hx hb dX5_tell_104 rfl (lv_at hl 1 rfl) ?_
              refine va_get (D := D) (ci := 6) (v := .ref (ad 9 21)) (C := RX5) (T := TX5) (N := 23) hx hb hts inX5 hown hK (hW.p (e := (eMod ad (tset M 0 0 0))) rfl) 0 rfl rfl 21 (by decide) (hts (.fieldLink RX5 53 "StoryTollModel" "row" "[I") (List.mem_of_getElem? (i := 6) rfl)) (fun _ h9 => h9) rfl dX5_tell_105 ?_
              refine lv_bipush (v := 8) hx hb dX5_tell_108 (by decide) ?_
              refine lv_iload hx hb dX5_tell_110 (lv_at hl 0 rfl) ?_
              refine lv_imul hx hb dX5_tell_112 ?_
              refine lv_aload_n hx hb dX5_tell_113 rfl (lv_at hl 1 rfl) ?_
              refine va_get (D := D) (ci := 6) (v := .ref (ad 9 20)) (C := RX5) (T := TX5) (N := 23) hx hb hts inX5 hown hK (hW.p (e := (eMod ad (tset M 0 0 0))) rfl) 0 rfl rfl 20 (by decide) (hts (.fieldLink RX5 50 "StoryTollModel" "size" "[I") (List.mem_of_getElem? (i := 4) rfl)) (fun _ h9 => h9) rfl dX5_tell_114 ?_
              refine lv_iload hx hb dX5_tell_117 (lv_at hl 0 rfl) ?_
              refine g_ild hx hb hK hW 0 (n := 8) (f := ((tset M 0 0 0) 20)) rfl rfl (k := v3.toNatClampNeg) hv3.1 (by omega) (by decide) dX5_tell_119 ?_
              rw [show ((tset M 0 0 0) 20 v3.toNatClampNeg) = (M 20 v3.toNatClampNeg) from by rw [tset_of (by decide)]]
              refine lv_iadd hx hb dX5_tell_120 ?_
              refine lv_iload_n hx hb dX5_tell_121 rfl (lv_at hl 3 rfl) ?_
              refine g_istN (ct' := (Wd G ad N C (tset (tset M 0 0 0) 21 (8 * v3.toNatClampNeg + szM M v3.toNatClampNeg) v2) o)) hx hb hK hW hS 0 (n := 64) (f := ((tset M 0 0 0) 21)) rfl rfl (k := (8 * v3.toNatClampNeg + szM M v3.toNatClampNeg)) (by rw [hv3.1, ← hv3.1, hs1]; exact (congrArg (fun z => 8 * z + _) hv3.1).trans (ix8 _ _)) (by omega) (by decide) dX5_tell_122 (Wd_An (by decide)) (Wd_tA (by decide)) (fun H locs hW hS => ?_)
              refine lv_aload_n hx hb dX5_tell_123 rfl (lv_at hl 1 rfl) ?_
              refine va_get (D := D) (ci := 6) (v := .ref (ad 9 20)) (C := RX5) (T := TX5) (N := 23) hx hb hts inX5 hown hK (hW.p (e := (eMod ad (tset (tset M 0 0 0) 21 (8 * v3.toNatClampNeg + szM M v3.toNatClampNeg) v2))) rfl) 0 rfl rfl 20 (by decide) (hts (.fieldLink RX5 50 "StoryTollModel" "size" "[I") (List.mem_of_getElem? (i := 4) rfl)) (fun _ h9 => h9) rfl dX5_tell_124 ?_
              refine lv_iload hx hb dX5_tell_127 (lv_at hl 0 rfl) ?_
              refine lv_dup2_11 hx hb dX5_tell_129 rfl rfl ?_
              refine g_ild hx hb hK hW 0 (n := 8) (f := ((tset (tset M 0 0 0) 21 (8 * v3.toNatClampNeg + szM M v3.toNatClampNeg) v2) 20)) rfl rfl (k := v3.toNatClampNeg) hv3.1 (by omega) (by decide) dX5_tell_130 ?_
              rw [show ((tset (tset M 0 0 0) 21 (8 * v3.toNatClampNeg + szM M v3.toNatClampNeg) v2) 20 v3.toNatClampNeg) = (M 20 v3.toNatClampNeg) from by rw [tset_of (by decide), tset_of (by decide)]]
              refine lv_iconst (v := 1) hx hb dX5_tell_131 (by decide) ?_
              refine lv_iadd hx hb dX5_tell_132 ?_
              refine g_istN (ct' := (Wd G ad N C (tset (tset (tset M 0 0 0) 21 (8 * v3.toNatClampNeg + szM M v3.toNatClampNeg) v2) 20 v3.toNatClampNeg ((M 20 v3.toNatClampNeg) + 1)) o)) hx hb hK hW hS 0 (n := 8) (f := ((tset (tset M 0 0 0) 21 (8 * v3.toNatClampNeg + szM M v3.toNatClampNeg) v2) 20)) rfl rfl (k := v3.toNatClampNeg) hv3.1 (by omega) (by decide) dX5_tell_133 (Wd_An (by decide)) (Wd_tA (by decide)) (fun H locs hW hS => ?_)
              exact cut134 (tset (tset (tset M 0 0 0) 21 (8 * v3.toNatClampNeg + szM M v3.toNatClampNeg) v2) 20 v3.toNatClampNeg ((M 20 v3.toNatClampNeg) + 1)) H locs ls (show f_X5_tell n M v1 v2 v3 = (f_X5_tell2 n (tset (tset (tset M 0 0 0) 21 (8 * v3.toNatClampNeg + szM M v3.toNatClampNeg) v2) 20 v3.toNatClampNeg ((M 20 v3.toNatClampNeg) + 1)) v1 v2) from by rw [f_X5_tell, if_neg c_10_1, if_neg c_18_4, if_neg c_27_6, if_neg c_35_16, if_neg c_51_18]) (show s_X5_tell n M v1 v2 v3 = (s_X5_tell2 n (tset (tset (tset M 0 0 0) 21 (8 * v3.toNatClampNeg + szM M v3.toNatClampNeg) v2) 20 v3.toNatClampNeg ((M 20 v3.toNatClampNeg) + 1)) v1 v2) from by rw [s_X5_tell, if_neg c_10_1, if_neg c_18_4, if_neg c_27_6, if_neg c_35_16, if_neg c_51_18]) hv1 hv2 hb1 hhe (lv_sub hl [1, 2, 3] rfl) hW hS
            · exact absurd c_69_19 c_27_6
          · refine lv_aload_n hx hb dX5_tell_54 rfl (lv_at hl 0 rfl) ?_
            refine lv_iconst (v := 2) hx hb dX5_tell_55 (by decide) ?_
            refine g_wVi (As := [.int 2]) (rest := []) (B := fun (_ : Unit) H => gW D A ad (Wd G ad N C (s_X5_no (tset M 0 0 0) 2) o) H) (mc := 0) (ms := 0) C0 (c_X5_no l D G A ad N C (tset M 0 0 0) o H hW 2) (cwV 1 hts gX5_tell_X5_no rfl rfl rfl (by decide +kernel) ⟨Nat.le_of_ble_eq_true rfl, Nat.le_of_ble_eq_true rfl⟩) hK (va_recv hK (hW.p rfl) (ci := 6) (q0 := 0) rfl rfl) rfl hl rfl (Nat.le_of_ble_eq_true rfl) dX5_tell_56 ⟨Nat.zero_le _, Nat.zero_le _⟩ hS (fun r_21 ur_21 H locs hr_21 hW hzr_21 hS => ?_)
            have hW : gW D A ad (Wd G ad N C (s_X5_no (tset M 0 0 0) 2) o) H := hW
            subst hr_21
            exact g_wret (u := ()) (post := fun r _ => r = f_X5_tell n M v1 v2 v3) (B := fun _ H => gW D A ad (Wd G ad N C (s_X5_tell n M v1 v2 v3) o) H) hx hb hr hlk hh hS (show (f_X5_no (tset M 0 0 0) 2) = f_X5_tell n M v1 v2 v3 from by rw [f_X5_tell, if_neg c_10_1, if_neg c_18_4, if_neg c_27_6, if_neg c_35_16, if_pos c_51_18]) (show gW D A ad (Wd G ad N C (s_X5_tell n M v1 v2 v3) o) H from by rw [s_X5_tell, if_neg c_10_1, if_neg c_18_4, if_neg c_27_6, if_neg c_35_16, if_pos c_51_18]; exact hW) dX5_tell_59
        · refine lv_aload_n hx hb dX5_tell_38 rfl (lv_at hl 0 rfl) ?_
          refine lv_iconst (v := 1) hx hb dX5_tell_39 (by decide) ?_
          refine g_wVi (As := [.int 1]) (rest := []) (B := fun (_ : Unit) H => gW D A ad (Wd G ad N C (s_X5_no (tset M 0 0 0) 1) o) H) (mc := 0) (ms := 0) C0 (c_X5_no l D G A ad N C (tset M 0 0 0) o H hW 1) (cwV 1 hts gX5_tell_X5_no rfl rfl rfl (by decide +kernel) ⟨Nat.le_of_ble_eq_true rfl, Nat.le_of_ble_eq_true rfl⟩) hK (va_recv hK (hW.p rfl) (ci := 6) (q0 := 0) rfl rfl) rfl hl rfl (Nat.le_of_ble_eq_true rfl) dX5_tell_40 ⟨Nat.zero_le _, Nat.zero_le _⟩ hS (fun r_22 ur_22 H locs hr_22 hW hzr_22 hS => ?_)
          have hW : gW D A ad (Wd G ad N C (s_X5_no (tset M 0 0 0) 1) o) H := hW
          subst hr_22
          exact g_wret (u := ()) (post := fun r _ => r = f_X5_tell n M v1 v2 v3) (B := fun _ H => gW D A ad (Wd G ad N C (s_X5_tell n M v1 v2 v3) o) H) hx hb hr hlk hh hS (show (f_X5_no (tset M 0 0 0) 1) = f_X5_tell n M v1 v2 v3 from by rw [f_X5_tell, if_neg c_10_1, if_neg c_18_4, if_neg c_27_6, if_pos c_35_16]) (show gW D A ad (Wd G ad N C (s_X5_tell n M v1 v2 v3) o) H from by rw [s_X5_tell, if_neg c_10_1, if_neg c_18_4, if_neg c_27_6, if_pos c_35_16]; exact hW) dX5_tell_43
def f_X5_reserve (n : gN) (M : gT) (v1 : Int32) (v2 : Int32) : Int32 := (if (f_X5_isTraveller (tset M 0 0 0) v1) = 0 then (f_X5_no (tset M 0 0 0) 1) else (if (f_X5_isPlot (tset M 0 0 0) v2) = 0 then (f_X5_no (tset M 0 0 0) 1) else (if (M 17 v1.toNatClampNeg) = 0 then (if (M 16 v1.toNatClampNeg) < 5 then (f_X5_no (tset M 0 0 0) 2) else (if (f_X5_isOpen (tset M 0 0 0) v2.toNatClampNeg) = 0 then (f_X5_no (tset M 0 0 0) 2) else (if (M 22 v2.toNatClampNeg) = (-1) then ((M 16 v1.toNatClampNeg) - 5) else (f_X5_no (tset M 0 0 0) 2)))) else (f_X5_no (tset M 0 0 0) 2))))
def s_X5_reserve (n : gN) (M : gT) (v1 : Int32) (v2 : Int32) : gT := (if (f_X5_isTraveller (tset M 0 0 0) v1) = 0 then (s_X5_no (tset M 0 0 0) 1) else (if (f_X5_isPlot (tset M 0 0 0) v2) = 0 then (s_X5_no (tset M 0 0 0) 1) else (if (M 17 v1.toNatClampNeg) = 0 then (if (M 16 v1.toNatClampNeg) < 5 then (s_X5_no (tset M 0 0 0) 2) else (if (f_X5_isOpen (tset M 0 0 0) v2.toNatClampNeg) = 0 then (s_X5_no (tset M 0 0 0) 2) else (if (M 22 v2.toNatClampNeg) = (-1) then (tset (tset (tset M 0 0 0) 22 v2.toNatClampNeg v1) 16 v1.toNatClampNeg ((M 16 v1.toNatClampNeg) - 5)) else (s_X5_no (tset M 0 0 0) 2)))) else (s_X5_no (tset M 0 0 0) 2))))
set_option maxHeartbeats 4000000 in
set_option maxRecDepth 100000 in
theorem c_X5_reserve (l : Launch) (D : va_G) (G : gG) (A : Nat → Prop) (ad : gAd) (N : gN) (C M : gT) (o : Nat → Int64) (Hp : Heap) (hW : gW D A ad (Wd G ad N C M o) Hp) (n : gN) (hI : IM n M) (v1 v2 : Int32) : Met l yX5_reserve wsX5_reserve ({ frames := 2, cells := 0, slots := 0, locals := 43 }) (va_Pc [.ref (ad 0 1), .int v1, .int v2] (gQ D (gTs G) Hp)) (va_Qi (fun r (_ : Unit) => r = f_X5_reserve n M v1 v2) (fun _ t => gW D A ad (Wd G ad N C (s_X5_reserve n M v1 v2) o) t.heap) A) 0 0 A := by
  refine g_start (cc := cX5_reserve) (maxL := 3) (ret := (some .int)) (by decide) rfl (Nat.le_of_ble_eq_true rfl) (fun p e s m below meth c ls C0 hr hlk hnm hh hK hl => ?_)
  obtain ⟨hx, hb, hml, hown, hts⟩ := id C0
  have hown : s.vm.findClass RX5 = some m.cls := hown
  have hS : va_S A Hp Hp [] := va_S.rf
  have hl : lv_has ls 3 [(0, .ref (ad 0 1)), (1, .int v1), (2, .int v2)] := hl
  have inX5 : ∀ w ∈ wsX50, w ∈ wsX5_reserve := by decide +kernel
  obtain ⟨⟨hb0, hn0⟩, ⟨hb1, hn1⟩, ⟨hb2, hn2⟩, ⟨hb3, hn3⟩, hpl, hhe⟩ := id hI
  have hI0 := IM_t0 (v := 0) hI
  refine lv_aload_n hx hb dX5_reserve_0 rfl (lv_at hl 0 rfl) ?_
  refine lv_iconst (v := 0) hx hb dX5_reserve_1 (by decide) ?_
  refine g_put (D := D) (ci := 6) (v := .int 0) (ty := .int) (C := RX5) (T := TX5) (N := 23) (ct' := (Wd G ad N C (tset M 0 0 0) o)) hx hb hts inX5 tyX5 tyX5_ok nmX5 hown hK hW hS (show Wd G ad N C M o 0 1 = some (eMod ad M) from rfl) rfl 0 (by decide) (hts (.fieldLink RX5 59 "StoryTollModel" "thrown" "I") (List.mem_of_getElem? (i := 1) rfl)) (fun _ h9 => h9) rfl (by decide +kernel) rfl rfl (Nat.le_of_ble_eq_true rfl) dX5_reserve_2 Wd_m0 (Wd_tM rfl) (fun H locs hW hS => ?_)
  refine lv_aload_n hx hb dX5_reserve_5 rfl (lv_at hl 0 rfl) ?_
  refine lv_iload_n hx hb dX5_reserve_6 rfl (lv_at hl 1 rfl) ?_
  refine g_Vi (As := [.int v1]) (rest := []) C0 (c_X5_isTraveller l D G A ad N C (tset M 0 0 0) o H hW v1) (cwV 1 hts gX5_reserve_X5_isTraveller rfl rfl rfl (by decide +kernel) ⟨Nat.le_of_ble_eq_true rfl, Nat.le_of_ble_eq_true rfl⟩) hK (va_recv hK (hW.p rfl) (ci := 6) (q0 := 0) rfl rfl) rfl hl rfl (Nat.le_of_ble_eq_true rfl) dX5_reserve_7 ⟨Nat.zero_le _, Nat.zero_le _⟩ hS (fun r_1 locs hr_1 hS => ?_)
  subst hr_1
  refine lv_if_eq (tgt := 21) hx hb dX5_reserve_10 (by decide) (fun c_10_1 => ?_) (fun c_10_1 => ?_)
  · refine lv_aload_n hx hb dX5_reserve_21 rfl (lv_at hl 0 rfl) ?_
    refine lv_iconst (v := 1) hx hb dX5_reserve_22 (by decide) ?_
    refine g_wVi (As := [.int 1]) (rest := []) (B := fun (_ : Unit) H => gW D A ad (Wd G ad N C (s_X5_no (tset M 0 0 0) 1) o) H) (mc := 0) (ms := 0) C0 (c_X5_no l D G A ad N C (tset M 0 0 0) o H hW 1) (cwV 1 hts gX5_reserve_X5_no rfl rfl rfl (by decide +kernel) ⟨Nat.le_of_ble_eq_true rfl, Nat.le_of_ble_eq_true rfl⟩) hK (va_recv hK (hW.p rfl) (ci := 6) (q0 := 0) rfl rfl) rfl hl rfl (Nat.le_of_ble_eq_true rfl) dX5_reserve_23 ⟨Nat.zero_le _, Nat.zero_le _⟩ hS (fun r_3 ur_3 H locs hr_3 hW hzr_3 hS => ?_)
    have hW : gW D A ad (Wd G ad N C (s_X5_no (tset M 0 0 0) 1) o) H := hW
    subst hr_3
    exact g_wret (u := ()) (post := fun r _ => r = f_X5_reserve n M v1 v2) (B := fun _ H => gW D A ad (Wd G ad N C (s_X5_reserve n M v1 v2) o) H) hx hb hr hlk hh hS (show (f_X5_no (tset M 0 0 0) 1) = f_X5_reserve n M v1 v2 from by rw [f_X5_reserve, if_pos c_10_1]) (show gW D A ad (Wd G ad N C (s_X5_reserve n M v1 v2) o) H from by rw [s_X5_reserve, if_pos c_10_1]; exact hW) dX5_reserve_26
  · have hv1 := is_idx hb2 (by omega) c_10_1
    refine lv_aload_n hx hb dX5_reserve_13 rfl (lv_at hl 0 rfl) ?_
    refine lv_iload_n hx hb dX5_reserve_14 rfl (lv_at hl 2 rfl) ?_
    refine g_Vi (As := [.int v2]) (rest := []) C0 (c_X5_isPlot l D G A ad N C (tset M 0 0 0) o H hW v2) (cwV 1 hts gX5_reserve_X5_isPlot rfl rfl rfl (by decide +kernel) ⟨Nat.le_of_ble_eq_true rfl, Nat.le_of_ble_eq_true rfl⟩) hK (va_recv hK (hW.p rfl) (ci := 6) (q0 := 0) rfl rfl) rfl hl rfl (Nat.le_of_ble_eq_true rfl) dX5_reserve_15 ⟨Nat.zero_le _, Nat.zero_le _⟩ hS (fun r_4 locs hr_4 hS => ?_)
    subst hr_4
    refine lv_if_ne (tgt := 27) hx hb dX5_reserve_18 (by decide) (fun c_18_4 => ?_) (fun c_18_4 => ?_)
    · have hv2 := is_idx hb3 (by omega) c_18_4
      refine lv_aload_n hx hb dX5_reserve_27 rfl (lv_at hl 0 rfl) ?_
      refine va_get (D := D) (ci := 6) (v := .ref (ad 9 17)) (C := RX5) (T := TX5) (N := 23) hx hb hts inX5 hown hK (hW.p (e := (eMod ad (tset M 0 0 0))) rfl) 0 rfl rfl 17 (by decide) (hts (.fieldLink RX5 44 "StoryTollModel" "where" "[I") (List.mem_of_getElem? (i := 2) rfl)) (fun _ h9 => h9) rfl dX5_reserve_28 ?_
      refine lv_iload_n hx hb dX5_reserve_31 rfl (lv_at hl 1 rfl) ?_
      refine g_ild hx hb hK hW 0 (n := 12) (f := ((tset M 0 0 0) 17)) rfl rfl (k := v1.toNatClampNeg) hv1.1 (by omega) (by decide) dX5_reserve_32 ?_
      rw [show ((tset M 0 0 0) 17 v1.toNatClampNeg) = (M 17 v1.toNatClampNeg) from by rw [tset_of (by decide)]]
      refine lv_if_ne (tgt := 64) hx hb dX5_reserve_33 (by decide) (fun c_33_5 => ?_) (fun c_33_5 => ?_)
      · refine lv_aload_n hx hb dX5_reserve_64 rfl (lv_at hl 0 rfl) ?_
        refine lv_iconst (v := 2) hx hb dX5_reserve_65 (by decide) ?_
        refine g_wVi (As := [.int 2]) (rest := []) (B := fun (_ : Unit) H => gW D A ad (Wd G ad N C (s_X5_no (tset M 0 0 0) 2) o) H) (mc := 0) (ms := 0) C0 (c_X5_no l D G A ad N C (tset M 0 0 0) o H hW 2) (cwV 1 hts gX5_reserve_X5_no rfl rfl rfl (by decide +kernel) ⟨Nat.le_of_ble_eq_true rfl, Nat.le_of_ble_eq_true rfl⟩) hK (va_recv hK (hW.p rfl) (ci := 6) (q0 := 0) rfl rfl) rfl hl rfl (Nat.le_of_ble_eq_true rfl) dX5_reserve_66 ⟨Nat.zero_le _, Nat.zero_le _⟩ hS (fun r_7 ur_7 H locs hr_7 hW hzr_7 hS => ?_)
        have hW : gW D A ad (Wd G ad N C (s_X5_no (tset M 0 0 0) 2) o) H := hW
        subst hr_7
        exact g_wret (u := ()) (post := fun r _ => r = f_X5_reserve n M v1 v2) (B := fun _ H => gW D A ad (Wd G ad N C (s_X5_reserve n M v1 v2) o) H) hx hb hr hlk hh hS (show (f_X5_no (tset M 0 0 0) 2) = f_X5_reserve n M v1 v2 from by rw [f_X5_reserve, if_neg c_10_1, if_neg c_18_4, if_neg c_33_5]) (show gW D A ad (Wd G ad N C (s_X5_reserve n M v1 v2) o) H from by rw [s_X5_reserve, if_neg c_10_1, if_neg c_18_4, if_neg c_33_5]; exact hW) dX5_reserve_69
      · refine lv_aload_n hx hb dX5_reserve_36 rfl (lv_at hl 0 rfl) ?_
        refine va_get (D := D) (ci := 6) (v := .ref (ad 9 16)) (C := RX5) (T := TX5) (N := 23) hx hb hts inX5 hown hK (hW.p (e := (eMod ad (tset M 0 0 0))) rfl) 0 rfl rfl 16 (by decide) (hts (.fieldLink RX5 41 "StoryTollModel" "paid" "[I") (List.mem_of_getElem? (i := 3) rfl)) (fun _ h9 => h9) rfl dX5_reserve_37 ?_
        refine lv_iload_n hx hb dX5_reserve_40 rfl (lv_at hl 1 rfl) ?_
        refine g_ild hx hb hK hW 0 (n := 12) (f := ((tset M 0 0 0) 16)) rfl rfl (k := v1.toNatClampNeg) hv1.1 (by omega) (by decide) dX5_reserve_41 ?_
        rw [show ((tset M 0 0 0) 16 v1.toNatClampNeg) = (M 16 v1.toNatClampNeg) from by rw [tset_of (by decide)]]
        refine lv_iconst (v := 5) hx hb dX5_reserve_42 (by decide) ?_
        refine lv_icmp_lt (tgt := 64) hx hb dX5_reserve_43 (by decide) (fun c_43_7 => ?_) (fun c_43_7 => ?_)
        · refine lv_aload_n hx hb dX5_reserve_64 rfl (lv_at hl 0 rfl) ?_
          refine lv_iconst (v := 2) hx hb dX5_reserve_65 (by decide) ?_
          refine g_wVi (As := [.int 2]) (rest := []) (B := fun (_ : Unit) H => gW D A ad (Wd G ad N C (s_X5_no (tset M 0 0 0) 2) o) H) (mc := 0) (ms := 0) C0 (c_X5_no l D G A ad N C (tset M 0 0 0) o H hW 2) (cwV 1 hts gX5_reserve_X5_no rfl rfl rfl (by decide +kernel) ⟨Nat.le_of_ble_eq_true rfl, Nat.le_of_ble_eq_true rfl⟩) hK (va_recv hK (hW.p rfl) (ci := 6) (q0 := 0) rfl rfl) rfl hl rfl (Nat.le_of_ble_eq_true rfl) dX5_reserve_66 ⟨Nat.zero_le _, Nat.zero_le _⟩ hS (fun r_9 ur_9 H locs hr_9 hW hzr_9 hS => ?_)
          have hW : gW D A ad (Wd G ad N C (s_X5_no (tset M 0 0 0) 2) o) H := hW
          subst hr_9
          exact g_wret (u := ()) (post := fun r _ => r = f_X5_reserve n M v1 v2) (B := fun _ H => gW D A ad (Wd G ad N C (s_X5_reserve n M v1 v2) o) H) hx hb hr hlk hh hS (show (f_X5_no (tset M 0 0 0) 2) = f_X5_reserve n M v1 v2 from by rw [f_X5_reserve, if_neg c_10_1, if_neg c_18_4, if_pos c_33_5, if_pos c_43_7]) (show gW D A ad (Wd G ad N C (s_X5_reserve n M v1 v2) o) H from by rw [s_X5_reserve, if_neg c_10_1, if_neg c_18_4, if_pos c_33_5, if_pos c_43_7]; exact hW) dX5_reserve_69
        · refine lv_aload_n hx hb dX5_reserve_46 rfl (lv_at hl 0 rfl) ?_
          refine lv_iload_n hx hb dX5_reserve_47 rfl (lv_at hl 2 rfl) ?_
          refine g_Vi (As := [.int v2]) (rest := []) C0 ((by have h9 := c_X5_isOpen l D G A ad N C (tset M 0 0 0) o H hW n hI0 v2.toNatClampNeg (by omega); rw [← hv2.1] at h9; exact h9)) (cwV 1 hts gX5_reserve_X5_isOpen rfl rfl rfl (by decide +kernel) ⟨Nat.le_of_ble_eq_true rfl, Nat.le_of_ble_eq_true rfl⟩) hK (va_recv hK (hW.p rfl) (ci := 6) (q0 := 0) rfl rfl) rfl hl rfl (Nat.le_of_ble_eq_true rfl) dX5_reserve_48 ⟨Nat.zero_le _, Nat.zero_le _⟩ hS (fun r_10 locs hr_10 hS => ?_)
          subst hr_10
          refine lv_if_eq (tgt := 64) hx hb dX5_reserve_51 (by decide) (fun c_51_10 => ?_) (fun c_51_10 => ?_)
          · refine lv_aload_n hx hb dX5_reserve_64 rfl (lv_at hl 0 rfl) ?_
            refine lv_iconst (v := 2) hx hb dX5_reserve_65 (by decide) ?_
            refine g_wVi (As := [.int 2]) (rest := []) (B := fun (_ : Unit) H => gW D A ad (Wd G ad N C (s_X5_no (tset M 0 0 0) 2) o) H) (mc := 0) (ms := 0) C0 (c_X5_no l D G A ad N C (tset M 0 0 0) o H hW 2) (cwV 1 hts gX5_reserve_X5_no rfl rfl rfl (by decide +kernel) ⟨Nat.le_of_ble_eq_true rfl, Nat.le_of_ble_eq_true rfl⟩) hK (va_recv hK (hW.p rfl) (ci := 6) (q0 := 0) rfl rfl) rfl hl rfl (Nat.le_of_ble_eq_true rfl) dX5_reserve_66 ⟨Nat.zero_le _, Nat.zero_le _⟩ hS (fun r_12 ur_12 H locs hr_12 hW hzr_12 hS => ?_)
            have hW : gW D A ad (Wd G ad N C (s_X5_no (tset M 0 0 0) 2) o) H := hW
            subst hr_12
            exact g_wret (u := ()) (post := fun r _ => r = f_X5_reserve n M v1 v2) (B := fun _ H => gW D A ad (Wd G ad N C (s_X5_reserve n M v1 v2) o) H) hx hb hr hlk hh hS (show (f_X5_no (tset M 0 0 0) 2) = f_X5_reserve n M v1 v2 from by rw [f_X5_reserve, if_neg c_10_1, if_neg c_18_4, if_pos c_33_5, if_neg c_43_7, if_pos c_51_10]) (show gW D A ad (Wd G ad N C (s_X5_reserve n M v1 v2) o) H from by rw [s_X5_reserve, if_neg c_10_1, if_neg c_18_4, if_pos c_33_5, if_neg c_43_7, if_pos c_51_10]; exact hW) dX5_reserve_69
          · refine lv_aload_n hx hb dX5_reserve_54 rfl (lv_at hl 0 rfl) ?_
            refine va_get (D := D) (ci := 6) (v := .ref (ad 9 22)) (C := RX5) (T := TX5) (N := 23) hx hb hts inX5 hown hK (hW.p (e := (eMod ad (tset M 0 0 0))) rfl) 0 rfl rfl 22 (by decide) (hts (.fieldLink RX5 56 "StoryTollModel" "keeper" "[I") (List.mem_of_getElem? (i := 4) rfl)) (fun _ h9 => h9) rfl dX5_reserve_55 ?_
            refine lv_iload_n hx hb dX5_reserve_58 rfl (lv_at hl 2 rfl) ?_
            refine g_ild hx hb hK hW 0 (n := 8) (f := ((tset M 0 0 0) 22)) rfl rfl (k := v2.toNatClampNeg) hv2.1 (by omega) (by decide) dX5_reserve_59 ?_
            rw [show ((tset M 0 0 0) 22 v2.toNatClampNeg) = (M 22 v2.toNatClampNeg) from by rw [tset_of (by decide)]]
            refine lv_iconst (v := (-1)) hx hb dX5_reserve_60 (by decide) ?_
            refine lv_icmp_eq (tgt := 70) hx hb dX5_reserve_61 (by decide) (fun c_61_12 => ?_) (fun c_61_12 => ?_)
            · refine lv_aload_n hx hb dX5_reserve_70 rfl (lv_at hl 0 rfl) ?_
              refine va_get (D := D) (ci := 6) (v := .ref (ad 9 22)) (C := RX5) (T := TX5) (N := 23) hx hb hts inX5 hown hK (hW.p (e := (eMod ad (tset M 0 0 0))) rfl) 0 rfl rfl 22 (by decide) (hts (.fieldLink RX5 56 "StoryTollModel" "keeper" "[I") (List.mem_of_getElem? (i := 4) rfl)) (fun _ h9 => h9) rfl dX5_reserve_71 ?_
              refine lv_iload_n hx hb dX5_reserve_74 rfl (lv_at hl 2 rfl) ?_
              refine lv_iload_n hx hb dX5_reserve_75 rfl (lv_at hl 1 rfl) ?_
              refine g_istN (ct' := (Wd G ad N C (tset (tset M 0 0 0) 22 v2.toNatClampNeg v1) o)) hx hb hK hW hS 0 (n := 8) (f := ((tset M 0 0 0) 22)) rfl rfl (k := v2.toNatClampNeg) hv2.1 (by omega) (by decide) dX5_reserve_76 (Wd_An (by decide)) (Wd_tA (by decide)) (fun H locs hW hS => ?_)
              refine lv_aload_n hx hb dX5_reserve_77 rfl (lv_at hl 0 rfl) ?_
              refine va_get (D := D) (ci := 6) (v := .ref (ad 9 16)) (C := RX5) (T := TX5) (N := 23) hx hb hts inX5 hown hK (hW.p (e := (eMod ad (tset (tset M 0 0 0) 22 v2.toNatClampNeg v1))) rfl) 0 rfl rfl 16 (by decide) (hts (.fieldLink RX5 41 "StoryTollModel" "paid" "[I") (List.mem_of_getElem? (i := 3) rfl)) (fun _ h9 => h9) rfl dX5_reserve_78 ?_
              refine lv_iload_n hx hb dX5_reserve_81 rfl (lv_at hl 1 rfl) ?_
              refine lv_dup2_11 hx hb dX5_reserve_82 rfl rfl ?_
              refine g_ild hx hb hK hW 0 (n := 12) (f := ((tset (tset M 0 0 0) 22 v2.toNatClampNeg v1) 16)) rfl rfl (k := v1.toNatClampNeg) hv1.1 (by omega) (by decide) dX5_reserve_83 ?_
              rw [show ((tset (tset M 0 0 0) 22 v2.toNatClampNeg v1) 16 v1.toNatClampNeg) = (M 16 v1.toNatClampNeg) from by rw [tset_of (by decide), tset_of (by decide)]]
              refine lv_iconst (v := 5) hx hb dX5_reserve_84 (by decide) ?_
              refine lv_isub hx hb dX5_reserve_85 ?_
              refine g_istN (ct' := (Wd G ad N C (tset (tset (tset M 0 0 0) 22 v2.toNatClampNeg v1) 16 v1.toNatClampNeg ((M 16 v1.toNatClampNeg) - 5)) o)) hx hb hK hW hS 0 (n := 12) (f := ((tset (tset M 0 0 0) 22 v2.toNatClampNeg v1) 16)) rfl rfl (k := v1.toNatClampNeg) hv1.1 (by omega) (by decide) dX5_reserve_86 (Wd_An (by decide)) (Wd_tA (by decide)) (fun H locs hW hS => ?_)
              refine lv_aload_n hx hb dX5_reserve_87 rfl (lv_at hl 0 rfl) ?_
              refine va_get (D := D) (ci := 6) (v := .ref (ad 9 16)) (C := RX5) (T := TX5) (N := 23) hx hb hts inX5 hown hK (hW.p (e := (eMod ad (tset (tset (tset M 0 0 0) 22 v2.toNatClampNeg v1) 16 v1.toNatClampNeg ((M 16 v1.toNatClampNeg) - 5)))) rfl) 0 rfl rfl 16 (by decide) (hts (.fieldLink RX5 41 "StoryTollModel" "paid" "[I") (List.mem_of_getElem? (i := 3) rfl)) (fun _ h9 => h9) rfl dX5_reserve_88 ?_
              refine lv_iload_n hx hb dX5_reserve_91 rfl (lv_at hl 1 rfl) ?_
              refine g_ild hx hb hK hW 0 (n := 12) (f := ((tset (tset (tset M 0 0 0) 22 v2.toNatClampNeg v1) 16 v1.toNatClampNeg ((M 16 v1.toNatClampNeg) - 5)) 16)) rfl rfl (k := v1.toNatClampNeg) hv1.1 (by omega) (by decide) dX5_reserve_92 ?_
              rw [show ((tset (tset (tset M 0 0 0) 22 v2.toNatClampNeg v1) 16 v1.toNatClampNeg ((M 16 v1.toNatClampNeg) - 5)) 16 v1.toNatClampNeg) = ((M 16 v1.toNatClampNeg) - 5) from by rw [tset_s]]
              exact g_wret (u := ()) (post := fun r _ => r = f_X5_reserve n M v1 v2) (B := fun _ H => gW D A ad (Wd G ad N C (s_X5_reserve n M v1 v2) o) H) hx hb hr hlk hh hS (show ((M 16 v1.toNatClampNeg) - 5) = f_X5_reserve n M v1 v2 from by rw [f_X5_reserve, if_neg c_10_1, if_neg c_18_4, if_pos c_33_5, if_neg c_43_7, if_neg c_51_10, if_pos c_61_12]) (show gW D A ad (Wd G ad N C (s_X5_reserve n M v1 v2) o) H from by rw [s_X5_reserve, if_neg c_10_1, if_neg c_18_4, if_pos c_33_5, if_neg c_43_7, if_neg c_51_10, if_pos c_61_12]; exact hW) dX5_reserve_93
            · refine lv_aload_n hx hb dX5_reserve_64 rfl (lv_at hl 0 rfl) ?_
              refine lv_iconst (v := 2) hx hb dX5_reserve_65 (by decide) ?_
              refine g_wVi (As := [.int 2]) (rest := []) (B := fun (_ : Unit) H => gW D A ad (Wd G ad N C (s_X5_no (tset M 0 0 0) 2) o) H) (mc := 0) (ms := 0) C0 (c_X5_no l D G A ad N C (tset M 0 0 0) o H hW 2) (cwV 1 hts gX5_reserve_X5_no rfl rfl rfl (by decide +kernel) ⟨Nat.le_of_ble_eq_true rfl, Nat.le_of_ble_eq_true rfl⟩) hK (va_recv hK (hW.p rfl) (ci := 6) (q0 := 0) rfl rfl) rfl hl rfl (Nat.le_of_ble_eq_true rfl) dX5_reserve_66 ⟨Nat.zero_le _, Nat.zero_le _⟩ hS (fun r_14 ur_14 H locs hr_14 hW hzr_14 hS => ?_)
              have hW : gW D A ad (Wd G ad N C (s_X5_no (tset M 0 0 0) 2) o) H := hW
              subst hr_14
              exact g_wret (u := ()) (post := fun r _ => r = f_X5_reserve n M v1 v2) (B := fun _ H => gW D A ad (Wd G ad N C (s_X5_reserve n M v1 v2) o) H) hx hb hr hlk hh hS (show (f_X5_no (tset M 0 0 0) 2) = f_X5_reserve n M v1 v2 from by rw [f_X5_reserve, if_neg c_10_1, if_neg c_18_4, if_pos c_33_5, if_neg c_43_7, if_neg c_51_10, if_neg c_61_12]) (show gW D A ad (Wd G ad N C (s_X5_reserve n M v1 v2) o) H from by rw [s_X5_reserve, if_neg c_10_1, if_neg c_18_4, if_pos c_33_5, if_neg c_43_7, if_neg c_51_10, if_neg c_61_12]; exact hW) dX5_reserve_69
    · refine lv_aload_n hx hb dX5_reserve_21 rfl (lv_at hl 0 rfl) ?_
      refine lv_iconst (v := 1) hx hb dX5_reserve_22 (by decide) ?_
      refine g_wVi (As := [.int 1]) (rest := []) (B := fun (_ : Unit) H => gW D A ad (Wd G ad N C (s_X5_no (tset M 0 0 0) 1) o) H) (mc := 0) (ms := 0) C0 (c_X5_no l D G A ad N C (tset M 0 0 0) o H hW 1) (cwV 1 hts gX5_reserve_X5_no rfl rfl rfl (by decide +kernel) ⟨Nat.le_of_ble_eq_true rfl, Nat.le_of_ble_eq_true rfl⟩) hK (va_recv hK (hW.p rfl) (ci := 6) (q0 := 0) rfl rfl) rfl hl rfl (Nat.le_of_ble_eq_true rfl) dX5_reserve_23 ⟨Nat.zero_le _, Nat.zero_le _⟩ hS (fun r_15 ur_15 H locs hr_15 hW hzr_15 hS => ?_)
      have hW : gW D A ad (Wd G ad N C (s_X5_no (tset M 0 0 0) 1) o) H := hW
      subst hr_15
      exact g_wret (u := ()) (post := fun r _ => r = f_X5_reserve n M v1 v2) (B := fun _ H => gW D A ad (Wd G ad N C (s_X5_reserve n M v1 v2) o) H) hx hb hr hlk hh hS (show (f_X5_no (tset M 0 0 0) 1) = f_X5_reserve n M v1 v2 from by rw [f_X5_reserve, if_neg c_10_1, if_pos c_18_4]) (show gW D A ad (Wd G ad N C (s_X5_reserve n M v1 v2) o) H from by rw [s_X5_reserve, if_neg c_10_1, if_pos c_18_4]; exact hW) dX5_reserve_26
def f_X5_pass (n : gN) (M : gT) (v1 : Int32) : Int32 := (if (f_X5_isTraveller (tset M 0 0 0) v1) = 0 then (if (f_X5_no (tset M 0 0 0) 1) = 0 then 0 else 1) else (if (M 17 v1.toNatClampNeg) = 0 then (if 15 ≤ (M 16 v1.toNatClampNeg) then 1 else (if (f_X5_awake n (tset M 0 0 0)) ≤ 0 then 1 else 0)) else (if (f_X5_no (tset M 0 0 0) 2) = 0 then 0 else 1)))
def s_X5_pass (n : gN) (M : gT) (v1 : Int32) : gT := (if (f_X5_isTraveller (tset M 0 0 0) v1) = 0 then (if (f_X5_no (tset M 0 0 0) 1) = 0 then (s_X5_no (tset M 0 0 0) 1) else (s_X5_no (tset M 0 0 0) 1)) else (if (M 17 v1.toNatClampNeg) = 0 then (if 15 ≤ (M 16 v1.toNatClampNeg) then (tset (tset M 0 0 0) 17 v1.toNatClampNeg 1) else (if (f_X5_awake n (tset M 0 0 0)) ≤ 0 then (tset (tset M 0 0 0) 17 v1.toNatClampNeg 1) else (tset M 0 0 0))) else (if (f_X5_no (tset M 0 0 0) 2) = 0 then (s_X5_no (tset M 0 0 0) 2) else (s_X5_no (tset M 0 0 0) 2))))
set_option maxHeartbeats 4000000 in
set_option maxRecDepth 100000 in
theorem c_X5_pass (l : Launch) (D : va_G) (G : gG) (A : Nat → Prop) (ad : gAd) (N : gN) (C M : gT) (o : Nat → Int64) (Hp : Heap) (hW : gW D A ad (Wd G ad N C M o) Hp) (n : gN) (hI : IM n M) (v1 : Int32) : Met l yX5_pass wsX5_pass ({ frames := 2, cells := 0, slots := 0, locals := 43 }) (va_Pc [.ref (ad 0 1), .int v1] (gQ D (gTs G) Hp)) (va_Qi (fun r (_ : Unit) => r = f_X5_pass n M v1) (fun _ t => gW D A ad (Wd G ad N C (s_X5_pass n M v1) o) t.heap) A) 0 0 A := by
  refine g_start (cc := cX5_pass) (maxL := 2) (ret := (some .boolean)) (by decide) rfl (Nat.le_of_ble_eq_true rfl) (fun p e s m below meth c ls C0 hr hlk hnm hh hK hl => ?_)
  obtain ⟨hx, hb, hml, hown, hts⟩ := id C0
  have hown : s.vm.findClass RX5 = some m.cls := hown
  have hS : va_S A Hp Hp [] := va_S.rf
  have hl : lv_has ls 2 [(0, .ref (ad 0 1)), (1, .int v1)] := hl
  have inX5 : ∀ w ∈ wsX50, w ∈ wsX5_pass := by decide +kernel
  obtain ⟨⟨hb0, hn0⟩, ⟨hb1, hn1⟩, ⟨hb2, hn2⟩, ⟨hb3, hn3⟩, hpl, hhe⟩ := id hI
  have hI0 := IM_t0 (v := 0) hI
  refine lv_aload_n hx hb dX5_pass_0 rfl (lv_at hl 0 rfl) ?_
  refine lv_iconst (v := 0) hx hb dX5_pass_1 (by decide) ?_
  refine g_put (D := D) (ci := 6) (v := .int 0) (ty := .int) (C := RX5) (T := TX5) (N := 23) (ct' := (Wd G ad N C (tset M 0 0 0) o)) hx hb hts inX5 tyX5 tyX5_ok nmX5 hown hK hW hS (show Wd G ad N C M o 0 1 = some (eMod ad M) from rfl) rfl 0 (by decide) (hts (.fieldLink RX5 59 "StoryTollModel" "thrown" "I") (List.mem_of_getElem? (i := 1) rfl)) (fun _ h9 => h9) rfl (by decide +kernel) rfl rfl (Nat.le_of_ble_eq_true rfl) dX5_pass_2 Wd_m0 (Wd_tM rfl) (fun H locs hW hS => ?_)
  refine lv_aload_n hx hb dX5_pass_5 rfl (lv_at hl 0 rfl) ?_
  refine lv_iload_n hx hb dX5_pass_6 rfl (lv_at hl 1 rfl) ?_
  refine g_Vi (As := [.int v1]) (rest := []) C0 (c_X5_isTraveller l D G A ad N C (tset M 0 0 0) o H hW v1) (cwV 1 hts gX5_pass_X5_isTraveller rfl rfl rfl (by decide +kernel) ⟨Nat.le_of_ble_eq_true rfl, Nat.le_of_ble_eq_true rfl⟩) hK (va_recv hK (hW.p rfl) (ci := 6) (q0 := 0) rfl rfl) rfl hl rfl (Nat.le_of_ble_eq_true rfl) dX5_pass_7 ⟨Nat.zero_le _, Nat.zero_le _⟩ hS (fun r_1 locs hr_1 hS => ?_)
  subst hr_1
  refine lv_if_ne (tgt := 27) hx hb dX5_pass_10 (by decide) (fun c_10_1 => ?_) (fun c_10_1 => ?_)
  · have hv1 := is_idx hb2 (by omega) c_10_1
    refine lv_aload_n hx hb dX5_pass_27 rfl (lv_at hl 0 rfl) ?_
    refine va_get (D := D) (ci := 6) (v := .ref (ad 9 17)) (C := RX5) (T := TX5) (N := 23) hx hb hts inX5 hown hK (hW.p (e := (eMod ad (tset M 0 0 0))) rfl) 0 rfl rfl 17 (by decide) (hts (.fieldLink RX5 44 "StoryTollModel" "where" "[I") (List.mem_of_getElem? (i := 2) rfl)) (fun _ h9 => h9) rfl dX5_pass_28 ?_
    refine lv_iload_n hx hb dX5_pass_31 rfl (lv_at hl 1 rfl) ?_
    refine g_ild hx hb hK hW 0 (n := 12) (f := ((tset M 0 0 0) 17)) rfl rfl (k := v1.toNatClampNeg) hv1.1 (by omega) (by decide) dX5_pass_32 ?_
    rw [show ((tset M 0 0 0) 17 v1.toNatClampNeg) = (M 17 v1.toNatClampNeg) from by rw [tset_of (by decide)]]
    refine lv_if_eq (tgt := 50) hx hb dX5_pass_33 (by decide) (fun c_33_2 => ?_) (fun c_33_2 => ?_)
    · refine lv_aload_n hx hb dX5_pass_50 rfl (lv_at hl 0 rfl) ?_
      refine va_get (D := D) (ci := 6) (v := .ref (ad 9 16)) (C := RX5) (T := TX5) (N := 23) hx hb hts inX5 hown hK (hW.p (e := (eMod ad (tset M 0 0 0))) rfl) 0 rfl rfl 16 (by decide) (hts (.fieldLink RX5 41 "StoryTollModel" "paid" "[I") (List.mem_of_getElem? (i := 3) rfl)) (fun _ h9 => h9) rfl dX5_pass_51 ?_
      refine lv_iload_n hx hb dX5_pass_54 rfl (lv_at hl 1 rfl) ?_
      refine g_ild hx hb hK hW 0 (n := 12) (f := ((tset M 0 0 0) 16)) rfl rfl (k := v1.toNatClampNeg) hv1.1 (by omega) (by decide) dX5_pass_55 ?_
      rw [show ((tset M 0 0 0) 16 v1.toNatClampNeg) = (M 16 v1.toNatClampNeg) from by rw [tset_of (by decide)]]
      refine lv_bipush (v := 15) hx hb dX5_pass_56 (by decide) ?_
      refine lv_icmp_ge (tgt := 70) hx hb dX5_pass_58 (by decide) (fun c_58_3 => ?_) (fun c_58_3 => ?_)
      · refine lv_aload_n hx hb dX5_pass_70 rfl (lv_at hl 0 rfl) ?_
        refine va_get (D := D) (ci := 6) (v := .ref (ad 9 17)) (C := RX5) (T := TX5) (N := 23) hx hb hts inX5 hown hK (hW.p (e := (eMod ad (tset M 0 0 0))) rfl) 0 rfl rfl 17 (by decide) (hts (.fieldLink RX5 44 "StoryTollModel" "where" "[I") (List.mem_of_getElem? (i := 2) rfl)) (fun _ h9 => h9) rfl dX5_pass_71 ?_
        refine lv_iload_n hx hb dX5_pass_74 rfl (lv_at hl 1 rfl) ?_
        refine lv_iconst (v := 1) hx hb dX5_pass_75 (by decide) ?_
        refine g_istN (ct' := (Wd G ad N C (tset (tset M 0 0 0) 17 v1.toNatClampNeg 1) o)) hx hb hK hW hS 0 (n := 12) (f := ((tset M 0 0 0) 17)) rfl rfl (k := v1.toNatClampNeg) hv1.1 (by omega) (by decide) dX5_pass_76 (Wd_An (by decide)) (Wd_tA (by decide)) (fun H locs hW hS => ?_)
        refine lv_iconst (v := 1) hx hb dX5_pass_77 (by decide) ?_
        exact g_wzret (u := ()) (post := fun r _ => r = f_X5_pass n M v1) (B := fun _ H => gW D A ad (Wd G ad N C (s_X5_pass n M v1) o) H) hx hb hr hlk hh hS (Or.inr rfl) (show 1 = f_X5_pass n M v1 from by rw [f_X5_pass, if_neg c_10_1, if_pos c_33_2, if_pos c_58_3]) (show gW D A ad (Wd G ad N C (s_X5_pass n M v1) o) H from by rw [s_X5_pass, if_neg c_10_1, if_pos c_33_2, if_pos c_58_3]; exact hW) dX5_pass_78
      · refine lv_aload_n hx hb dX5_pass_61 rfl (lv_at hl 0 rfl) ?_
        refine g_Vi (As := []) (rest := []) C0 (c_X5_awake l D G A ad N C (tset M 0 0 0) o H hW n hb1 (by omega)) (cwV 0 hts gX5_pass_X5_awake rfl rfl rfl (by decide +kernel) ⟨Nat.le_of_ble_eq_true rfl, Nat.le_of_ble_eq_true rfl⟩) hK (va_recv hK (hW.p rfl) (ci := 6) (q0 := 0) rfl rfl) rfl hl rfl (Nat.le_of_ble_eq_true rfl) dX5_pass_62 ⟨Nat.zero_le _, Nat.zero_le _⟩ hS (fun r_5 locs hr_5 hS => ?_)
        subst hr_5
        refine lv_if_le (tgt := 70) hx hb dX5_pass_65 (by decide) (fun c_65_5 => ?_) (fun c_65_5 => ?_)
        · refine lv_aload_n hx hb dX5_pass_70 rfl (lv_at hl 0 rfl) ?_
          refine va_get (D := D) (ci := 6) (v := .ref (ad 9 17)) (C := RX5) (T := TX5) (N := 23) hx hb hts inX5 hown hK (hW.p (e := (eMod ad (tset M 0 0 0))) rfl) 0 rfl rfl 17 (by decide) (hts (.fieldLink RX5 44 "StoryTollModel" "where" "[I") (List.mem_of_getElem? (i := 2) rfl)) (fun _ h9 => h9) rfl dX5_pass_71 ?_
          refine lv_iload_n hx hb dX5_pass_74 rfl (lv_at hl 1 rfl) ?_
          refine lv_iconst (v := 1) hx hb dX5_pass_75 (by decide) ?_
          refine g_istN (ct' := (Wd G ad N C (tset (tset M 0 0 0) 17 v1.toNatClampNeg 1) o)) hx hb hK hW hS 0 (n := 12) (f := ((tset M 0 0 0) 17)) rfl rfl (k := v1.toNatClampNeg) hv1.1 (by omega) (by decide) dX5_pass_76 (Wd_An (by decide)) (Wd_tA (by decide)) (fun H locs hW hS => ?_)
          refine lv_iconst (v := 1) hx hb dX5_pass_77 (by decide) ?_
          exact g_wzret (u := ()) (post := fun r _ => r = f_X5_pass n M v1) (B := fun _ H => gW D A ad (Wd G ad N C (s_X5_pass n M v1) o) H) hx hb hr hlk hh hS (Or.inr rfl) (show 1 = f_X5_pass n M v1 from by rw [f_X5_pass, if_neg c_10_1, if_pos c_33_2, if_neg c_58_3, if_pos c_65_5]) (show gW D A ad (Wd G ad N C (s_X5_pass n M v1) o) H from by rw [s_X5_pass, if_neg c_10_1, if_pos c_33_2, if_neg c_58_3, if_pos c_65_5]; exact hW) dX5_pass_78
        · refine lv_iconst (v := 0) hx hb dX5_pass_68 (by decide) ?_
          exact g_wzret (u := ()) (post := fun r _ => r = f_X5_pass n M v1) (B := fun _ H => gW D A ad (Wd G ad N C (s_X5_pass n M v1) o) H) hx hb hr hlk hh hS (Or.inl rfl) (show 0 = f_X5_pass n M v1 from by rw [f_X5_pass, if_neg c_10_1, if_pos c_33_2, if_neg c_58_3, if_neg c_65_5]) (show gW D A ad (Wd G ad N C (s_X5_pass n M v1) o) H from by rw [s_X5_pass, if_neg c_10_1, if_pos c_33_2, if_neg c_58_3, if_neg c_65_5]; exact hW) dX5_pass_69
    · refine lv_aload_n hx hb dX5_pass_36 rfl (lv_at hl 0 rfl) ?_
      refine lv_iconst (v := 2) hx hb dX5_pass_37 (by decide) ?_
      refine g_wVi (As := [.int 2]) (rest := []) (B := fun (_ : Unit) H => gW D A ad (Wd G ad N C (s_X5_no (tset M 0 0 0) 2) o) H) (mc := 0) (ms := 0) C0 (c_X5_no l D G A ad N C (tset M 0 0 0) o H hW 2) (cwV 1 hts gX5_pass_X5_no rfl rfl rfl (by decide +kernel) ⟨Nat.le_of_ble_eq_true rfl, Nat.le_of_ble_eq_true rfl⟩) hK (va_recv hK (hW.p rfl) (ci := 6) (q0 := 0) rfl rfl) rfl hl rfl (Nat.le_of_ble_eq_true rfl) dX5_pass_38 ⟨Nat.zero_le _, Nat.zero_le _⟩ hS (fun r_7 ur_7 H locs hr_7 hW hzr_7 hS => ?_)
      have hW : gW D A ad (Wd G ad N C (s_X5_no (tset M 0 0 0) 2) o) H := hW
      subst hr_7
      refine lv_if_eq (tgt := 48) hx hb dX5_pass_41 (by decide) (fun c_41_7 => ?_) (fun c_41_7 => ?_)
      · refine lv_iconst (v := 0) hx hb dX5_pass_48 (by decide) ?_
        exact g_wzret (u := ()) (post := fun r _ => r = f_X5_pass n M v1) (B := fun _ H => gW D A ad (Wd G ad N C (s_X5_pass n M v1) o) H) hx hb hr hlk hh hS (Or.inl rfl) (show 0 = f_X5_pass n M v1 from by rw [f_X5_pass, if_neg c_10_1, if_neg c_33_2, if_pos c_41_7]) (show gW D A ad (Wd G ad N C (s_X5_pass n M v1) o) H from by rw [s_X5_pass, if_neg c_10_1, if_neg c_33_2, if_pos c_41_7]; exact hW) dX5_pass_49
      · refine lv_iconst (v := 1) hx hb dX5_pass_44 (by decide) ?_
        refine lv_goto (tgt := 49) hx hb dX5_pass_45 (by decide) ?_
        exact g_wzret (u := ()) (post := fun r _ => r = f_X5_pass n M v1) (B := fun _ H => gW D A ad (Wd G ad N C (s_X5_pass n M v1) o) H) hx hb hr hlk hh hS (Or.inr rfl) (show 1 = f_X5_pass n M v1 from by rw [f_X5_pass, if_neg c_10_1, if_neg c_33_2, if_neg c_41_7]) (show gW D A ad (Wd G ad N C (s_X5_pass n M v1) o) H from by rw [s_X5_pass, if_neg c_10_1, if_neg c_33_2, if_neg c_41_7]; exact hW) dX5_pass_49
  · refine lv_aload_n hx hb dX5_pass_13 rfl (lv_at hl 0 rfl) ?_
    refine lv_iconst (v := 1) hx hb dX5_pass_14 (by decide) ?_
    refine g_wVi (As := [.int 1]) (rest := []) (B := fun (_ : Unit) H => gW D A ad (Wd G ad N C (s_X5_no (tset M 0 0 0) 1) o) H) (mc := 0) (ms := 0) C0 (c_X5_no l D G A ad N C (tset M 0 0 0) o H hW 1) (cwV 1 hts gX5_pass_X5_no rfl rfl rfl (by decide +kernel) ⟨Nat.le_of_ble_eq_true rfl, Nat.le_of_ble_eq_true rfl⟩) hK (va_recv hK (hW.p rfl) (ci := 6) (q0 := 0) rfl rfl) rfl hl rfl (Nat.le_of_ble_eq_true rfl) dX5_pass_15 ⟨Nat.zero_le _, Nat.zero_le _⟩ hS (fun r_9 ur_9 H locs hr_9 hW hzr_9 hS => ?_)
    have hW : gW D A ad (Wd G ad N C (s_X5_no (tset M 0 0 0) 1) o) H := hW
    subst hr_9
    refine lv_if_eq (tgt := 25) hx hb dX5_pass_18 (by decide) (fun c_18_9 => ?_) (fun c_18_9 => ?_)
    · refine lv_iconst (v := 0) hx hb dX5_pass_25 (by decide) ?_
      exact g_wzret (u := ()) (post := fun r _ => r = f_X5_pass n M v1) (B := fun _ H => gW D A ad (Wd G ad N C (s_X5_pass n M v1) o) H) hx hb hr hlk hh hS (Or.inl rfl) (show 0 = f_X5_pass n M v1 from by rw [f_X5_pass, if_pos c_10_1, if_pos c_18_9]) (show gW D A ad (Wd G ad N C (s_X5_pass n M v1) o) H from by rw [s_X5_pass, if_pos c_10_1, if_pos c_18_9]; exact hW) dX5_pass_26
    · refine lv_iconst (v := 1) hx hb dX5_pass_21 (by decide) ?_
      refine lv_goto (tgt := 26) hx hb dX5_pass_22 (by decide) ?_
      exact g_wzret (u := ()) (post := fun r _ => r = f_X5_pass n M v1) (B := fun _ H => gW D A ad (Wd G ad N C (s_X5_pass n M v1) o) H) hx hb hr hlk hh hS (Or.inr rfl) (show 1 = f_X5_pass n M v1 from by rw [f_X5_pass, if_pos c_10_1, if_neg c_18_9]) (show gW D A ad (Wd G ad N C (s_X5_pass n M v1) o) H from by rw [s_X5_pass, if_pos c_10_1, if_neg c_18_9]; exact hW) dX5_pass_26
def L_send0 (v : Int32) (j : Nat) (acc : gT) : gT := if acc 22 j = v then tset acc 22 j (-1) else acc
theorem send_it {v : Int32} {M : gT} (j f k : Nat) (hf : f ≠ 22) : gIt (L_send0 v) M j f k = M f k := by
  induction j with
  | zero => rfl
  | succ j ih =>
    rw [gIt_s, L_send0]
    split
    · rw [tset_o (by omega)]
      exact ih
    · exact ih
def f_X5_send (n : gN) (M : gT) (v1 : Int32) : Int32 := (if (f_X5_isTraveller (tset M 0 0 0) v1) = 0 then (f_X5_no (tset M 0 0 0) 1) else (if (M 17 v1.toNatClampNeg) = 0 then ((gIt (L_send0 v1) (tset (tset M 0 0 0) 17 v1.toNatClampNeg 2) (n 3)) 16 v1.toNatClampNeg) else (f_X5_no (tset M 0 0 0) 2)))
def s_X5_send (n : gN) (M : gT) (v1 : Int32) : gT := (if (f_X5_isTraveller (tset M 0 0 0) v1) = 0 then (s_X5_no (tset M 0 0 0) 1) else (if (M 17 v1.toNatClampNeg) = 0 then (gIt (L_send0 v1) (tset (tset M 0 0 0) 17 v1.toNatClampNeg 2) (n 3)) else (s_X5_no (tset M 0 0 0) 2)))
set_option maxHeartbeats 4000000 in
set_option maxRecDepth 100000 in
theorem c_X5_send (l : Launch) (D : va_G) (G : gG) (A : Nat → Prop) (ad : gAd) (N : gN) (C M : gT) (o : Nat → Int64) (Hp : Heap) (hW : gW D A ad (Wd G ad N C M o) Hp) (n : gN) (hI : IM n M) (v1 : Int32) : Met l yX5_send wsX5_send ({ frames := 2, cells := 0, slots := 0, locals := 43 }) (va_Pc [.ref (ad 0 1), .int v1] (gQ D (gTs G) Hp)) (va_Qi (fun r (_ : Unit) => r = f_X5_send n M v1) (fun _ t => gW D A ad (Wd G ad N C (s_X5_send n M v1) o) t.heap) A) 0 0 A := by
  refine g_start (cc := cX5_send) (maxL := 3) (ret := (some .int)) (by decide) rfl (Nat.le_of_ble_eq_true rfl) (fun p e s m below meth c ls C0 hr hlk hnm hh hK hl => ?_)
  obtain ⟨hx, hb, hml, hown, hts⟩ := id C0
  have hown : s.vm.findClass RX5 = some m.cls := hown
  have hS : va_S A Hp Hp [] := va_S.rf
  have hl : lv_has ls 3 [(0, .ref (ad 0 1)), (1, .int v1)] := hl
  have inX5 : ∀ w ∈ wsX50, w ∈ wsX5_send := by decide +kernel
  obtain ⟨⟨hb0, hn0⟩, ⟨hb1, hn1⟩, ⟨hb2, hn2⟩, ⟨hb3, hn3⟩, hpl, hhe⟩ := id hI
  have hI0 := IM_t0 (v := 0) hI
  refine lv_aload_n hx hb dX5_send_0 rfl (lv_at hl 0 rfl) ?_
  refine lv_iconst (v := 0) hx hb dX5_send_1 (by decide) ?_
  refine g_put (D := D) (ci := 6) (v := .int 0) (ty := .int) (C := RX5) (T := TX5) (N := 23) (ct' := (Wd G ad N C (tset M 0 0 0) o)) hx hb hts inX5 tyX5 tyX5_ok nmX5 hown hK hW hS (show Wd G ad N C M o 0 1 = some (eMod ad M) from rfl) rfl 0 (by decide) (hts (.fieldLink RX5 59 "StoryTollModel" "thrown" "I") (List.mem_of_getElem? (i := 1) rfl)) (fun _ h9 => h9) rfl (by decide +kernel) rfl rfl (Nat.le_of_ble_eq_true rfl) dX5_send_2 Wd_m0 (Wd_tM rfl) (fun H locs hW hS => ?_)
  refine lv_aload_n hx hb dX5_send_5 rfl (lv_at hl 0 rfl) ?_
  refine lv_iload_n hx hb dX5_send_6 rfl (lv_at hl 1 rfl) ?_
  refine g_Vi (As := [.int v1]) (rest := []) C0 (c_X5_isTraveller l D G A ad N C (tset M 0 0 0) o H hW v1) (cwV 1 hts gX5_send_X5_isTraveller rfl rfl rfl (by decide +kernel) ⟨Nat.le_of_ble_eq_true rfl, Nat.le_of_ble_eq_true rfl⟩) hK (va_recv hK (hW.p rfl) (ci := 6) (q0 := 0) rfl rfl) rfl hl rfl (Nat.le_of_ble_eq_true rfl) dX5_send_7 ⟨Nat.zero_le _, Nat.zero_le _⟩ hS (fun r_1 locs hr_1 hS => ?_)
  subst hr_1
  refine lv_if_ne (tgt := 19) hx hb dX5_send_10 (by decide) (fun c_10_1 => ?_) (fun c_10_1 => ?_)
  · have hv1 := is_idx hb2 (by omega) c_10_1
    refine lv_aload_n hx hb dX5_send_19 rfl (lv_at hl 0 rfl) ?_
    refine va_get (D := D) (ci := 6) (v := .ref (ad 9 17)) (C := RX5) (T := TX5) (N := 23) hx hb hts inX5 hown hK (hW.p (e := (eMod ad (tset M 0 0 0))) rfl) 0 rfl rfl 17 (by decide) (hts (.fieldLink RX5 44 "StoryTollModel" "where" "[I") (List.mem_of_getElem? (i := 2) rfl)) (fun _ h9 => h9) rfl dX5_send_20 ?_
    refine lv_iload_n hx hb dX5_send_23 rfl (lv_at hl 1 rfl) ?_
    refine g_ild hx hb hK hW 0 (n := 12) (f := ((tset M 0 0 0) 17)) rfl rfl (k := v1.toNatClampNeg) hv1.1 (by omega) (by decide) dX5_send_24 ?_
    rw [show ((tset M 0 0 0) 17 v1.toNatClampNeg) = (M 17 v1.toNatClampNeg) from by rw [tset_of (by decide)]]
    refine lv_if_eq (tgt := 34) hx hb dX5_send_25 (by decide) (fun c_25_2 => ?_) (fun c_25_2 => ?_)
    · refine lv_aload_n hx hb dX5_send_34 rfl (lv_at hl 0 rfl) ?_
      refine va_get (D := D) (ci := 6) (v := .ref (ad 9 17)) (C := RX5) (T := TX5) (N := 23) hx hb hts inX5 hown hK (hW.p (e := (eMod ad (tset M 0 0 0))) rfl) 0 rfl rfl 17 (by decide) (hts (.fieldLink RX5 44 "StoryTollModel" "where" "[I") (List.mem_of_getElem? (i := 2) rfl)) (fun _ h9 => h9) rfl dX5_send_35 ?_
      refine lv_iload_n hx hb dX5_send_38 rfl (lv_at hl 1 rfl) ?_
      refine lv_iconst (v := 2) hx hb dX5_send_39 (by decide) ?_
      refine g_istN (ct' := (Wd G ad N C (tset (tset M 0 0 0) 17 v1.toNatClampNeg 2) o)) hx hb hK hW hS 0 (n := 12) (f := ((tset M 0 0 0) 17)) rfl rfl (k := v1.toNatClampNeg) hv1.1 (by omega) (by decide) dX5_send_40 (Wd_An (by decide)) (Wd_tA (by decide)) (fun H locs hW hS => ?_)
      refine lv_iconst (v := 0) hx hb dX5_send_41 (by decide) ?_
      refine lv_istore_n (lv' := [(2, .int 0), (0, .ref (ad 0 1)), (1, .int v1)]) hx hb dX5_send_42 rfl hl (by decide) rfl (fun ls hl => ?_)
      refine g_loopH (n 3) 0 0 (fun j ls H => lv_has ls 3 [(2, .int (nI j)), (0, .ref (ad 0 1)), (1, .int v1)] ∧ gW D A ad (Wd G ad N C (gIt (L_send0 v1) (tset (tset M 0 0 0) 17 v1.toNatClampNeg 2) j) o) H) ⟨lv_sub hl [0, 1, 2] rfl, hW⟩ hS (fun ls H locs hlW hS => ?_) (fun j ls H locs hj hlW hS ih => ?_)
      · obtain ⟨hl, hW⟩ : lv_has ls 3 [(2, .int (nI (n 3))), (0, .ref (ad 0 1)), (1, .int v1)] ∧ gW D A ad (Wd G ad N C (gIt (L_send0 v1) (tset (tset M 0 0 0) 17 v1.toNatClampNeg 2) (n 3)) o) H := hlW
        refine W.widen (k := 0) (n := 0) (by omega) (by omega) ?_
        have hk19 : gIt (L_send0 v1) (tset (tset M 0 0 0) 17 v1.toNatClampNeg 2) (n 3) 19 0 = nI (n 3) := (send_it (n 3) 19 0 (by decide)).trans hb3
        refine lv_iload_n hx hb dX5_send_43 rfl (lv_at hl 0 rfl) ?_
        refine lv_aload_n hx hb dX5_send_44 rfl (lv_at hl 1 rfl) ?_
        refine va_get (D := D) (ci := 6) (v := .int ((gIt (L_send0 v1) (tset (tset M 0 0 0) 17 v1.toNatClampNeg 2) (n 3)) 19 0)) (C := RX5) (T := TX5) (N := 23) hx hb hts inX5 hown hK (hW.p (e := (eMod ad (gIt (L_send0 v1) (tset (tset M 0 0 0) 17 v1.toNatClampNeg 2) (n 3)))) rfl) 0 rfl rfl 19 (by decide) (hts (.fieldLink RX5 75 "StoryTollModel" "plots" "I") (List.mem_of_getElem? (i := 3) rfl)) (fun _ h9 => h9) rfl dX5_send_45 ?_
        refine lv_icmp_ge (tgt := 74) hx hb dX5_send_48 (by decide) (fun c_48_3 => ?_) (fun c_48_3 => ?_)
        · refine lv_aload_n hx hb dX5_send_74 rfl (lv_at hl 1 rfl) ?_
          refine va_get (D := D) (ci := 6) (v := .ref (ad 9 16)) (C := RX5) (T := TX5) (N := 23) hx hb hts inX5 hown hK (hW.p (e := (eMod ad (gIt (L_send0 v1) (tset (tset M 0 0 0) 17 v1.toNatClampNeg 2) (n 3)))) rfl) 0 rfl rfl 16 (by decide) (hts (.fieldLink RX5 41 "StoryTollModel" "paid" "[I") (List.mem_of_getElem? (i := 5) rfl)) (fun _ h9 => h9) rfl dX5_send_75 ?_
          refine lv_iload_n hx hb dX5_send_78 rfl (lv_at hl 2 rfl) ?_
          refine g_ild hx hb hK hW 0 (n := 12) (f := ((gIt (L_send0 v1) (tset (tset M 0 0 0) 17 v1.toNatClampNeg 2) (n 3)) 16)) rfl rfl (k := v1.toNatClampNeg) hv1.1 (by omega) (by decide) dX5_send_79 ?_
          exact g_wret (u := ()) (post := fun r _ => r = f_X5_send n M v1) (B := fun _ H => gW D A ad (Wd G ad N C (s_X5_send n M v1) o) H) hx hb hr hlk hh hS (show ((gIt (L_send0 v1) (tset (tset M 0 0 0) 17 v1.toNatClampNeg 2) (n 3)) 16 v1.toNatClampNeg) = f_X5_send n M v1 from by rw [f_X5_send, if_neg c_10_1, if_pos c_25_2]) (show gW D A ad (Wd G ad N C (s_X5_send n M v1) o) H from by rw [s_X5_send, if_neg c_10_1, if_pos c_25_2]; exact hW) dX5_send_80
        · exact absurd (g_le hk19 (by omega)) c_48_3
      · obtain ⟨hl, hW⟩ : lv_has ls 3 [(2, .int (nI j)), (0, .ref (ad 0 1)), (1, .int v1)] ∧ gW D A ad (Wd G ad N C (gIt (L_send0 v1) (tset (tset M 0 0 0) 17 v1.toNatClampNeg 2) j) o) H := hlW
        refine W.widen (k := 0) (n := 0) (by omega) (by omega) ?_
        have hk19 : gIt (L_send0 v1) (tset (tset M 0 0 0) 17 v1.toNatClampNeg 2) j 19 0 = nI (n 3) := (send_it j 19 0 (by decide)).trans hb3
        refine lv_iload_n hx hb dX5_send_43 rfl (lv_at hl 0 rfl) ?_
        refine lv_aload_n hx hb dX5_send_44 rfl (lv_at hl 1 rfl) ?_
        refine va_get (D := D) (ci := 6) (v := .int ((gIt (L_send0 v1) (tset (tset M 0 0 0) 17 v1.toNatClampNeg 2) j) 19 0)) (C := RX5) (T := TX5) (N := 23) hx hb hts inX5 hown hK (hW.p (e := (eMod ad (gIt (L_send0 v1) (tset (tset M 0 0 0) 17 v1.toNatClampNeg 2) j))) rfl) 0 rfl rfl 19 (by decide) (hts (.fieldLink RX5 75 "StoryTollModel" "plots" "I") (List.mem_of_getElem? (i := 3) rfl)) (fun _ h9 => h9) rfl dX5_send_45 ?_
        refine lv_icmp_ge (tgt := 74) hx hb dX5_send_48 (by decide) (fun c_48_4 => ?_) (fun c_48_4 => ?_)
        · exact absurd c_48_4 (g_ge hk19 (by omega) hj)
        · refine lv_aload_n hx hb dX5_send_51 rfl (lv_at hl 1 rfl) ?_
          refine va_get (D := D) (ci := 6) (v := .ref (ad 9 22)) (C := RX5) (T := TX5) (N := 23) hx hb hts inX5 hown hK (hW.p (e := (eMod ad (gIt (L_send0 v1) (tset (tset M 0 0 0) 17 v1.toNatClampNeg 2) j))) rfl) 0 rfl rfl 22 (by decide) (hts (.fieldLink RX5 56 "StoryTollModel" "keeper" "[I") (List.mem_of_getElem? (i := 4) rfl)) (fun _ h9 => h9) rfl dX5_send_52 ?_
          refine lv_iload_n hx hb dX5_send_55 rfl (lv_at hl 0 rfl) ?_
          refine g_ild hx hb hK hW 0 (n := 8) (f := ((gIt (L_send0 v1) (tset (tset M 0 0 0) 17 v1.toNatClampNeg 2) j) 22)) rfl rfl (k := j) rfl (by omega) (by decide) dX5_send_56 ?_
          refine lv_iload_n hx hb dX5_send_57 rfl (lv_at hl 2 rfl) ?_
          refine lv_icmp_ne (tgt := 68) hx hb dX5_send_58 (by decide) (fun c_58_5 => ?_) (fun c_58_5 => ?_)
          · refine lv_iinc (v := (nI (j + 1))) (lv' := [(2, .int (nI (j + 1))), (0, .ref (ad 0 1)), (1, .int v1)]) hx hb dX5_send_68 hl (k := 0) rfl (nI_1 _) (by decide) rfl (fun ls hl => ?_)
            refine lv_goto (tgt := 43) hx hb dX5_send_71 (by decide) ?_
            have ea : (gIt (L_send0 v1) (tset (tset M 0 0 0) 17 v1.toNatClampNeg 2) j) = (gIt (L_send0 v1) (tset (tset M 0 0 0) 17 v1.toNatClampNeg 2) (j + 1)) := by rw [gIt_s, L_send0, if_neg c_58_5]
            have hl2 : lv_has ls 3 [(2, .int (nI (j + 1))), (0, .ref (ad 0 1)), (1, .int v1)] ∧ gW D A ad (Wd G ad N C (gIt (L_send0 v1) (tset (tset M 0 0 0) 17 v1.toNatClampNeg 2) (j + 1)) o) H := by rw [← ea]; exact ⟨lv_sub hl [0, 1, 2] rfl, hW⟩
            refine W.widen (k := 0 + (j + 1) * 0) (n := 0 + (j + 1) * 0) (by omega) (by omega) ?_
            exact ih ls H locs hl2 hS
          · refine lv_aload_n hx hb dX5_send_61 rfl (lv_at hl 1 rfl) ?_
            refine va_get (D := D) (ci := 6) (v := .ref (ad 9 22)) (C := RX5) (T := TX5) (N := 23) hx hb hts inX5 hown hK (hW.p (e := (eMod ad (gIt (L_send0 v1) (tset (tset M 0 0 0) 17 v1.toNatClampNeg 2) j))) rfl) 0 rfl rfl 22 (by decide) (hts (.fieldLink RX5 56 "StoryTollModel" "keeper" "[I") (List.mem_of_getElem? (i := 4) rfl)) (fun _ h9 => h9) rfl dX5_send_62 ?_
            refine lv_iload_n hx hb dX5_send_65 rfl (lv_at hl 0 rfl) ?_
            refine lv_iconst (v := (-1)) hx hb dX5_send_66 (by decide) ?_
            refine g_istN (ct' := (Wd G ad N C (tset (gIt (L_send0 v1) (tset (tset M 0 0 0) 17 v1.toNatClampNeg 2) j) 22 j (-1)) o)) hx hb hK hW hS 0 (n := 8) (f := ((gIt (L_send0 v1) (tset (tset M 0 0 0) 17 v1.toNatClampNeg 2) j) 22)) rfl rfl (k := j) rfl (by omega) (by decide) dX5_send_67 (Wd_An (by decide)) (Wd_tA (by decide)) (fun H locs hW hS => ?_)
            refine lv_iinc (v := (nI (j + 1))) (lv' := [(2, .int (nI (j + 1))), (0, .ref (ad 0 1)), (1, .int v1)]) hx hb dX5_send_68 hl (k := 0) rfl (nI_1 _) (by decide) rfl (fun ls hl => ?_)
            refine lv_goto (tgt := 43) hx hb dX5_send_71 (by decide) ?_
            have ea : (tset (gIt (L_send0 v1) (tset (tset M 0 0 0) 17 v1.toNatClampNeg 2) j) 22 j (-1)) = (gIt (L_send0 v1) (tset (tset M 0 0 0) 17 v1.toNatClampNeg 2) (j + 1)) := by rw [gIt_s, L_send0, if_pos c_58_5]
            have hl2 : lv_has ls 3 [(2, .int (nI (j + 1))), (0, .ref (ad 0 1)), (1, .int v1)] ∧ gW D A ad (Wd G ad N C (gIt (L_send0 v1) (tset (tset M 0 0 0) 17 v1.toNatClampNeg 2) (j + 1)) o) H := by rw [← ea]; exact ⟨lv_sub hl [0, 1, 2] rfl, hW⟩
            refine W.widen (k := 0 + (j + 1) * 0) (n := 0 + (j + 1) * 0) (by omega) (by omega) ?_
            exact ih ls H locs hl2 hS
    · refine lv_aload_n hx hb dX5_send_28 rfl (lv_at hl 0 rfl) ?_
      refine lv_iconst (v := 2) hx hb dX5_send_29 (by decide) ?_
      refine g_wVi (As := [.int 2]) (rest := []) (B := fun (_ : Unit) H => gW D A ad (Wd G ad N C (s_X5_no (tset M 0 0 0) 2) o) H) (mc := 0) (ms := 0) C0 (c_X5_no l D G A ad N C (tset M 0 0 0) o H hW 2) (cwV 1 hts gX5_send_X5_no rfl rfl rfl (by decide +kernel) ⟨Nat.le_of_ble_eq_true rfl, Nat.le_of_ble_eq_true rfl⟩) hK (va_recv hK (hW.p rfl) (ci := 6) (q0 := 0) rfl rfl) rfl hl rfl (Nat.le_of_ble_eq_true rfl) dX5_send_30 ⟨Nat.zero_le _, Nat.zero_le _⟩ hS (fun r_7 ur_7 H locs hr_7 hW hzr_7 hS => ?_)
      have hW : gW D A ad (Wd G ad N C (s_X5_no (tset M 0 0 0) 2) o) H := hW
      subst hr_7
      exact g_wret (u := ()) (post := fun r _ => r = f_X5_send n M v1) (B := fun _ H => gW D A ad (Wd G ad N C (s_X5_send n M v1) o) H) hx hb hr hlk hh hS (show (f_X5_no (tset M 0 0 0) 2) = f_X5_send n M v1 from by rw [f_X5_send, if_neg c_10_1, if_neg c_25_2]) (show gW D A ad (Wd G ad N C (s_X5_send n M v1) o) H from by rw [s_X5_send, if_neg c_10_1, if_neg c_25_2]; exact hW) dX5_send_33
  · refine lv_aload_n hx hb dX5_send_13 rfl (lv_at hl 0 rfl) ?_
    refine lv_iconst (v := 1) hx hb dX5_send_14 (by decide) ?_
    refine g_wVi (As := [.int 1]) (rest := []) (B := fun (_ : Unit) H => gW D A ad (Wd G ad N C (s_X5_no (tset M 0 0 0) 1) o) H) (mc := 0) (ms := 0) C0 (c_X5_no l D G A ad N C (tset M 0 0 0) o H hW 1) (cwV 1 hts gX5_send_X5_no rfl rfl rfl (by decide +kernel) ⟨Nat.le_of_ble_eq_true rfl, Nat.le_of_ble_eq_true rfl⟩) hK (va_recv hK (hW.p rfl) (ci := 6) (q0 := 0) rfl rfl) rfl hl rfl (Nat.le_of_ble_eq_true rfl) dX5_send_15 ⟨Nat.zero_le _, Nat.zero_le _⟩ hS (fun r_8 ur_8 H locs hr_8 hW hzr_8 hS => ?_)
    have hW : gW D A ad (Wd G ad N C (s_X5_no (tset M 0 0 0) 1) o) H := hW
    subst hr_8
    exact g_wret (u := ()) (post := fun r _ => r = f_X5_send n M v1) (B := fun _ H => gW D A ad (Wd G ad N C (s_X5_send n M v1) o) H) hx hb hr hlk hh hS (show (f_X5_no (tset M 0 0 0) 1) = f_X5_send n M v1 from by rw [f_X5_send, if_pos c_10_1]) (show gW D A ad (Wd G ad N C (s_X5_send n M v1) o) H from by rw [s_X5_send, if_pos c_10_1]; exact hW) dX5_send_18
def f_X5_scene (n : gN) (M : gT) (v1 : Int32) (v2 : Int32) : Int32 := (if (f_X5_isScene (tset M 0 0 0) v1) = 0 then (f_X5_no (tset M 0 0 0) 1) else (if (f_X5_isIn v2 0 4) = 0 then (f_X5_no (tset M 0 0 0) 1) else (f_X5_sceneTold (tset M 0 0 0) v1.toNatClampNeg v2)))
def s_X5_scene (n : gN) (M : gT) (v1 : Int32) (v2 : Int32) : gT := (if (f_X5_isScene (tset M 0 0 0) v1) = 0 then (s_X5_no (tset M 0 0 0) 1) else (if (f_X5_isIn v2 0 4) = 0 then (s_X5_no (tset M 0 0 0) 1) else (tset M 0 0 0)))
set_option maxHeartbeats 4000000 in
set_option maxRecDepth 100000 in
theorem c_X5_scene (l : Launch) (D : va_G) (G : gG) (A : Nat → Prop) (ad : gAd) (N : gN) (C M : gT) (o : Nat → Int64) (Hp : Heap) (hW : gW D A ad (Wd G ad N C M o) Hp) (n : gN) (hI : IM n M) (v1 v2 : Int32) : Met l yX5_scene wsX5_scene ({ frames := 2, cells := 0, slots := 0, locals := 43 }) (va_Pc [.ref (ad 0 1), .int v1, .int v2] (gQ D (gTs G) Hp)) (va_Qi (fun r (_ : Unit) => r = f_X5_scene n M v1 v2) (fun _ t => gW D A ad (Wd G ad N C (s_X5_scene n M v1 v2) o) t.heap) A) 0 0 A := by
  refine g_start (cc := cX5_scene) (maxL := 3) (ret := (some .int)) (by decide) rfl (Nat.le_of_ble_eq_true rfl) (fun p e s m below meth c ls C0 hr hlk hnm hh hK hl => ?_)
  obtain ⟨hx, hb, hml, hown, hts⟩ := id C0
  have hown : s.vm.findClass RX5 = some m.cls := hown
  have hS : va_S A Hp Hp [] := va_S.rf
  have hl : lv_has ls 3 [(0, .ref (ad 0 1)), (1, .int v1), (2, .int v2)] := hl
  have inX5 : ∀ w ∈ wsX50, w ∈ wsX5_scene := by decide +kernel
  obtain ⟨⟨hb0, hn0⟩, ⟨hb1, hn1⟩, ⟨hb2, hn2⟩, ⟨hb3, hn3⟩, hpl, hhe⟩ := id hI
  have hI0 := IM_t0 (v := 0) hI
  refine lv_aload_n hx hb dX5_scene_0 rfl (lv_at hl 0 rfl) ?_
  refine lv_iconst (v := 0) hx hb dX5_scene_1 (by decide) ?_
  refine g_put (D := D) (ci := 6) (v := .int 0) (ty := .int) (C := RX5) (T := TX5) (N := 23) (ct' := (Wd G ad N C (tset M 0 0 0) o)) hx hb hts inX5 tyX5 tyX5_ok nmX5 hown hK hW hS (show Wd G ad N C M o 0 1 = some (eMod ad M) from rfl) rfl 0 (by decide) (hts (.fieldLink RX5 59 "StoryTollModel" "thrown" "I") (List.mem_of_getElem? (i := 1) rfl)) (fun _ h9 => h9) rfl (by decide +kernel) rfl rfl (Nat.le_of_ble_eq_true rfl) dX5_scene_2 Wd_m0 (Wd_tM rfl) (fun H locs hW hS => ?_)
  refine lv_aload_n hx hb dX5_scene_5 rfl (lv_at hl 0 rfl) ?_
  refine lv_iload_n hx hb dX5_scene_6 rfl (lv_at hl 1 rfl) ?_
  refine g_Vi (As := [.int v1]) (rest := []) C0 (c_X5_isScene l D G A ad N C (tset M 0 0 0) o H hW v1) (cwV 1 hts gX5_scene_X5_isScene rfl rfl rfl (by decide +kernel) ⟨Nat.le_of_ble_eq_true rfl, Nat.le_of_ble_eq_true rfl⟩) hK (va_recv hK (hW.p rfl) (ci := 6) (q0 := 0) rfl rfl) rfl hl rfl (Nat.le_of_ble_eq_true rfl) dX5_scene_7 ⟨Nat.zero_le _, Nat.zero_le _⟩ hS (fun r_1 locs hr_1 hS => ?_)
  subst hr_1
  refine lv_if_eq (tgt := 31) hx hb dX5_scene_10 (by decide) (fun c_10_1 => ?_) (fun c_10_1 => ?_)
  · refine lv_aload_n hx hb dX5_scene_31 rfl (lv_at hl 0 rfl) ?_
    refine lv_iconst (v := 1) hx hb dX5_scene_32 (by decide) ?_
    refine g_wVi (As := [.int 1]) (rest := []) (B := fun (_ : Unit) H => gW D A ad (Wd G ad N C (s_X5_no (tset M 0 0 0) 1) o) H) (mc := 0) (ms := 0) C0 (c_X5_no l D G A ad N C (tset M 0 0 0) o H hW 1) (cwV 1 hts gX5_scene_X5_no rfl rfl rfl (by decide +kernel) ⟨Nat.le_of_ble_eq_true rfl, Nat.le_of_ble_eq_true rfl⟩) hK (va_recv hK (hW.p rfl) (ci := 6) (q0 := 0) rfl rfl) rfl hl rfl (Nat.le_of_ble_eq_true rfl) dX5_scene_33 ⟨Nat.zero_le _, Nat.zero_le _⟩ hS (fun r_3 ur_3 H locs hr_3 hW hzr_3 hS => ?_)
    have hW : gW D A ad (Wd G ad N C (s_X5_no (tset M 0 0 0) 1) o) H := hW
    subst hr_3
    exact g_wret (u := ()) (post := fun r _ => r = f_X5_scene n M v1 v2) (B := fun _ H => gW D A ad (Wd G ad N C (s_X5_scene n M v1 v2) o) H) hx hb hr hlk hh hS (show (f_X5_no (tset M 0 0 0) 1) = f_X5_scene n M v1 v2 from by rw [f_X5_scene, if_pos c_10_1]) (show gW D A ad (Wd G ad N C (s_X5_scene n M v1 v2) o) H from by rw [s_X5_scene, if_pos c_10_1]; exact hW) dX5_scene_36
  · have hv1 := is_idx hb0 (by omega) c_10_1
    refine lv_iload_n hx hb dX5_scene_13 rfl (lv_at hl 2 rfl) ?_
    refine lv_iconst (v := 0) hx hb dX5_scene_14 (by decide) ?_
    refine lv_iconst (v := 4) hx hb dX5_scene_15 (by decide) ?_
    refine g_Si (As := [.int v2, .int 0, .int 4]) (rest := []) C0 (c_X5_isIn l D G H v2 0 4) (va_cwS 3 hts gX5_scene_X5_isIn rfl rfl rfl (by decide +kernel) ⟨Nat.le_of_ble_eq_true rfl, Nat.le_of_ble_eq_true rfl⟩) hK rfl hl rfl (Nat.le_of_ble_eq_true rfl) dX5_scene_16 ⟨Nat.zero_le _, Nat.zero_le _⟩ hS (fun r_4 locs hr_4 hS => ?_)
    subst hr_4
    refine lv_if_eq (tgt := 31) hx hb dX5_scene_19 (by decide) (fun c_19_4 => ?_) (fun c_19_4 => ?_)
    · refine lv_aload_n hx hb dX5_scene_31 rfl (lv_at hl 0 rfl) ?_
      refine lv_iconst (v := 1) hx hb dX5_scene_32 (by decide) ?_
      refine g_wVi (As := [.int 1]) (rest := []) (B := fun (_ : Unit) H => gW D A ad (Wd G ad N C (s_X5_no (tset M 0 0 0) 1) o) H) (mc := 0) (ms := 0) C0 (c_X5_no l D G A ad N C (tset M 0 0 0) o H hW 1) (cwV 1 hts gX5_scene_X5_no rfl rfl rfl (by decide +kernel) ⟨Nat.le_of_ble_eq_true rfl, Nat.le_of_ble_eq_true rfl⟩) hK (va_recv hK (hW.p rfl) (ci := 6) (q0 := 0) rfl rfl) rfl hl rfl (Nat.le_of_ble_eq_true rfl) dX5_scene_33 ⟨Nat.zero_le _, Nat.zero_le _⟩ hS (fun r_6 ur_6 H locs hr_6 hW hzr_6 hS => ?_)
      have hW : gW D A ad (Wd G ad N C (s_X5_no (tset M 0 0 0) 1) o) H := hW
      subst hr_6
      exact g_wret (u := ()) (post := fun r _ => r = f_X5_scene n M v1 v2) (B := fun _ H => gW D A ad (Wd G ad N C (s_X5_scene n M v1 v2) o) H) hx hb hr hlk hh hS (show (f_X5_no (tset M 0 0 0) 1) = f_X5_scene n M v1 v2 from by rw [f_X5_scene, if_neg c_10_1, if_pos c_19_4]) (show gW D A ad (Wd G ad N C (s_X5_scene n M v1 v2) o) H from by rw [s_X5_scene, if_neg c_10_1, if_pos c_19_4]; exact hW) dX5_scene_36
    · refine lv_aload_n hx hb dX5_scene_22 rfl (lv_at hl 0 rfl) ?_
      refine lv_iload_n hx hb dX5_scene_23 rfl (lv_at hl 1 rfl) ?_
      refine lv_iload_n hx hb dX5_scene_24 rfl (lv_at hl 2 rfl) ?_
      refine g_Vi (As := [.int v1, .int v2]) (rest := []) C0 ((by have h9 := c_X5_sceneTold l D G A ad N C (tset M 0 0 0) o H hW n hI0 v1.toNatClampNeg v2 (by omega); rw [← hv1.1] at h9; exact h9)) (cwV 2 hts gX5_scene_X5_sceneTold rfl rfl rfl (by decide +kernel) ⟨Nat.le_of_ble_eq_true rfl, Nat.le_of_ble_eq_true rfl⟩) hK (va_recv hK (hW.p rfl) (ci := 6) (q0 := 0) rfl rfl) rfl hl rfl (Nat.le_of_ble_eq_true rfl) dX5_scene_25 ⟨Nat.zero_le _, Nat.zero_le _⟩ hS (fun r_7 locs hr_7 hS => ?_)
      subst hr_7
      refine lv_goto (tgt := 36) hx hb dX5_scene_28 (by decide) ?_
      exact g_wret (u := ()) (post := fun r _ => r = f_X5_scene n M v1 v2) (B := fun _ H => gW D A ad (Wd G ad N C (s_X5_scene n M v1 v2) o) H) hx hb hr hlk hh hS (show (f_X5_sceneTold (tset M 0 0 0) v1.toNatClampNeg v2) = f_X5_scene n M v1 v2 from by rw [f_X5_scene, if_neg c_10_1, if_neg c_19_4]) (show gW D A ad (Wd G ad N C (s_X5_scene n M v1 v2) o) H from by rw [s_X5_scene, if_neg c_10_1, if_neg c_19_4]; exact hW) dX5_scene_36
def f_X5_guard (n : gN) (M : gT) (v1 : Int32) (v2 : Int32) : Int32 := (if (f_X5_isGuard (tset M 0 0 0) v1) = 0 then (f_X5_no (tset M 0 0 0) 1) else (if (f_X5_isIn v2 0 2) = 0 then (f_X5_no (tset M 0 0 0) 1) else (f_X5_guardTold (tset M 0 0 0) v1.toNatClampNeg v2)))
def s_X5_guard (n : gN) (M : gT) (v1 : Int32) (v2 : Int32) : gT := (if (f_X5_isGuard (tset M 0 0 0) v1) = 0 then (s_X5_no (tset M 0 0 0) 1) else (if (f_X5_isIn v2 0 2) = 0 then (s_X5_no (tset M 0 0 0) 1) else (tset M 0 0 0)))
set_option maxHeartbeats 4000000 in
set_option maxRecDepth 100000 in
theorem c_X5_guard (l : Launch) (D : va_G) (G : gG) (A : Nat → Prop) (ad : gAd) (N : gN) (C M : gT) (o : Nat → Int64) (Hp : Heap) (hW : gW D A ad (Wd G ad N C M o) Hp) (n : gN) (hI : IM n M) (v1 v2 : Int32) : Met l yX5_guard wsX5_guard ({ frames := 2, cells := 0, slots := 0, locals := 43 }) (va_Pc [.ref (ad 0 1), .int v1, .int v2] (gQ D (gTs G) Hp)) (va_Qi (fun r (_ : Unit) => r = f_X5_guard n M v1 v2) (fun _ t => gW D A ad (Wd G ad N C (s_X5_guard n M v1 v2) o) t.heap) A) 0 0 A := by
  refine g_start (cc := cX5_guard) (maxL := 3) (ret := (some .int)) (by decide) rfl (Nat.le_of_ble_eq_true rfl) (fun p e s m below meth c ls C0 hr hlk hnm hh hK hl => ?_)
  obtain ⟨hx, hb, hml, hown, hts⟩ := id C0
  have hown : s.vm.findClass RX5 = some m.cls := hown
  have hS : va_S A Hp Hp [] := va_S.rf
  have hl : lv_has ls 3 [(0, .ref (ad 0 1)), (1, .int v1), (2, .int v2)] := hl
  have inX5 : ∀ w ∈ wsX50, w ∈ wsX5_guard := by decide +kernel
  obtain ⟨⟨hb0, hn0⟩, ⟨hb1, hn1⟩, ⟨hb2, hn2⟩, ⟨hb3, hn3⟩, hpl, hhe⟩ := id hI
  have hI0 := IM_t0 (v := 0) hI
  refine lv_aload_n hx hb dX5_guard_0 rfl (lv_at hl 0 rfl) ?_
  refine lv_iconst (v := 0) hx hb dX5_guard_1 (by decide) ?_
  refine g_put (D := D) (ci := 6) (v := .int 0) (ty := .int) (C := RX5) (T := TX5) (N := 23) (ct' := (Wd G ad N C (tset M 0 0 0) o)) hx hb hts inX5 tyX5 tyX5_ok nmX5 hown hK hW hS (show Wd G ad N C M o 0 1 = some (eMod ad M) from rfl) rfl 0 (by decide) (hts (.fieldLink RX5 59 "StoryTollModel" "thrown" "I") (List.mem_of_getElem? (i := 1) rfl)) (fun _ h9 => h9) rfl (by decide +kernel) rfl rfl (Nat.le_of_ble_eq_true rfl) dX5_guard_2 Wd_m0 (Wd_tM rfl) (fun H locs hW hS => ?_)
  refine lv_aload_n hx hb dX5_guard_5 rfl (lv_at hl 0 rfl) ?_
  refine lv_iload_n hx hb dX5_guard_6 rfl (lv_at hl 1 rfl) ?_
  refine g_Vi (As := [.int v1]) (rest := []) C0 (c_X5_isGuard l D G A ad N C (tset M 0 0 0) o H hW v1) (cwV 1 hts gX5_guard_X5_isGuard rfl rfl rfl (by decide +kernel) ⟨Nat.le_of_ble_eq_true rfl, Nat.le_of_ble_eq_true rfl⟩) hK (va_recv hK (hW.p rfl) (ci := 6) (q0 := 0) rfl rfl) rfl hl rfl (Nat.le_of_ble_eq_true rfl) dX5_guard_7 ⟨Nat.zero_le _, Nat.zero_le _⟩ hS (fun r_1 locs hr_1 hS => ?_)
  subst hr_1
  refine lv_if_eq (tgt := 31) hx hb dX5_guard_10 (by decide) (fun c_10_1 => ?_) (fun c_10_1 => ?_)
  · refine lv_aload_n hx hb dX5_guard_31 rfl (lv_at hl 0 rfl) ?_
    refine lv_iconst (v := 1) hx hb dX5_guard_32 (by decide) ?_
    refine g_wVi (As := [.int 1]) (rest := []) (B := fun (_ : Unit) H => gW D A ad (Wd G ad N C (s_X5_no (tset M 0 0 0) 1) o) H) (mc := 0) (ms := 0) C0 (c_X5_no l D G A ad N C (tset M 0 0 0) o H hW 1) (cwV 1 hts gX5_guard_X5_no rfl rfl rfl (by decide +kernel) ⟨Nat.le_of_ble_eq_true rfl, Nat.le_of_ble_eq_true rfl⟩) hK (va_recv hK (hW.p rfl) (ci := 6) (q0 := 0) rfl rfl) rfl hl rfl (Nat.le_of_ble_eq_true rfl) dX5_guard_33 ⟨Nat.zero_le _, Nat.zero_le _⟩ hS (fun r_3 ur_3 H locs hr_3 hW hzr_3 hS => ?_)
    have hW : gW D A ad (Wd G ad N C (s_X5_no (tset M 0 0 0) 1) o) H := hW
    subst hr_3
    exact g_wret (u := ()) (post := fun r _ => r = f_X5_guard n M v1 v2) (B := fun _ H => gW D A ad (Wd G ad N C (s_X5_guard n M v1 v2) o) H) hx hb hr hlk hh hS (show (f_X5_no (tset M 0 0 0) 1) = f_X5_guard n M v1 v2 from by rw [f_X5_guard, if_pos c_10_1]) (show gW D A ad (Wd G ad N C (s_X5_guard n M v1 v2) o) H from by rw [s_X5_guard, if_pos c_10_1]; exact hW) dX5_guard_36
  · have hv1 := is_idx hb1 (by omega) c_10_1
    refine lv_iload_n hx hb dX5_guard_13 rfl (lv_at hl 2 rfl) ?_
    refine lv_iconst (v := 0) hx hb dX5_guard_14 (by decide) ?_
    refine lv_iconst (v := 2) hx hb dX5_guard_15 (by decide) ?_
    refine g_Si (As := [.int v2, .int 0, .int 2]) (rest := []) C0 (c_X5_isIn l D G H v2 0 2) (va_cwS 3 hts gX5_guard_X5_isIn rfl rfl rfl (by decide +kernel) ⟨Nat.le_of_ble_eq_true rfl, Nat.le_of_ble_eq_true rfl⟩) hK rfl hl rfl (Nat.le_of_ble_eq_true rfl) dX5_guard_16 ⟨Nat.zero_le _, Nat.zero_le _⟩ hS (fun r_4 locs hr_4 hS => ?_)
    subst hr_4
    refine lv_if_eq (tgt := 31) hx hb dX5_guard_19 (by decide) (fun c_19_4 => ?_) (fun c_19_4 => ?_)
    · refine lv_aload_n hx hb dX5_guard_31 rfl (lv_at hl 0 rfl) ?_
      refine lv_iconst (v := 1) hx hb dX5_guard_32 (by decide) ?_
      refine g_wVi (As := [.int 1]) (rest := []) (B := fun (_ : Unit) H => gW D A ad (Wd G ad N C (s_X5_no (tset M 0 0 0) 1) o) H) (mc := 0) (ms := 0) C0 (c_X5_no l D G A ad N C (tset M 0 0 0) o H hW 1) (cwV 1 hts gX5_guard_X5_no rfl rfl rfl (by decide +kernel) ⟨Nat.le_of_ble_eq_true rfl, Nat.le_of_ble_eq_true rfl⟩) hK (va_recv hK (hW.p rfl) (ci := 6) (q0 := 0) rfl rfl) rfl hl rfl (Nat.le_of_ble_eq_true rfl) dX5_guard_33 ⟨Nat.zero_le _, Nat.zero_le _⟩ hS (fun r_6 ur_6 H locs hr_6 hW hzr_6 hS => ?_)
      have hW : gW D A ad (Wd G ad N C (s_X5_no (tset M 0 0 0) 1) o) H := hW
      subst hr_6
      exact g_wret (u := ()) (post := fun r _ => r = f_X5_guard n M v1 v2) (B := fun _ H => gW D A ad (Wd G ad N C (s_X5_guard n M v1 v2) o) H) hx hb hr hlk hh hS (show (f_X5_no (tset M 0 0 0) 1) = f_X5_guard n M v1 v2 from by rw [f_X5_guard, if_neg c_10_1, if_pos c_19_4]) (show gW D A ad (Wd G ad N C (s_X5_guard n M v1 v2) o) H from by rw [s_X5_guard, if_neg c_10_1, if_pos c_19_4]; exact hW) dX5_guard_36
    · refine lv_aload_n hx hb dX5_guard_22 rfl (lv_at hl 0 rfl) ?_
      refine lv_iload_n hx hb dX5_guard_23 rfl (lv_at hl 1 rfl) ?_
      refine lv_iload_n hx hb dX5_guard_24 rfl (lv_at hl 2 rfl) ?_
      refine g_Vi (As := [.int v1, .int v2]) (rest := []) C0 ((by have h9 := c_X5_guardTold l D G A ad N C (tset M 0 0 0) o H hW n hI0 v1.toNatClampNeg v2 (by omega); rw [← hv1.1] at h9; exact h9)) (cwV 2 hts gX5_guard_X5_guardTold rfl rfl rfl (by decide +kernel) ⟨Nat.le_of_ble_eq_true rfl, Nat.le_of_ble_eq_true rfl⟩) hK (va_recv hK (hW.p rfl) (ci := 6) (q0 := 0) rfl rfl) rfl hl rfl (Nat.le_of_ble_eq_true rfl) dX5_guard_25 ⟨Nat.zero_le _, Nat.zero_le _⟩ hS (fun r_7 locs hr_7 hS => ?_)
      subst hr_7
      refine lv_goto (tgt := 36) hx hb dX5_guard_28 (by decide) ?_
      exact g_wret (u := ()) (post := fun r _ => r = f_X5_guard n M v1 v2) (B := fun _ H => gW D A ad (Wd G ad N C (s_X5_guard n M v1 v2) o) H) hx hb hr hlk hh hS (show (f_X5_guardTold (tset M 0 0 0) v1.toNatClampNeg v2) = f_X5_guard n M v1 v2 from by rw [f_X5_guard, if_neg c_10_1, if_neg c_19_4]) (show gW D A ad (Wd G ad N C (s_X5_guard n M v1 v2) o) H from by rw [s_X5_guard, if_neg c_10_1, if_neg c_19_4]; exact hW) dX5_guard_36
def f_X5_plot (n : gN) (M : gT) (v1 : Int32) (v2 : Int32) : Int32 := (if (f_X5_isPlot (tset M 0 0 0) v1) = 0 then (f_X5_no (tset M 0 0 0) 1) else (if (f_X5_isIn v2 0 3) = 0 then (f_X5_no (tset M 0 0 0) 1) else (f_X5_plotTold (tset M 0 0 0) v1.toNatClampNeg v2)))
def s_X5_plot (n : gN) (M : gT) (v1 : Int32) (v2 : Int32) : gT := (if (f_X5_isPlot (tset M 0 0 0) v1) = 0 then (s_X5_no (tset M 0 0 0) 1) else (if (f_X5_isIn v2 0 3) = 0 then (s_X5_no (tset M 0 0 0) 1) else (tset M 0 0 0)))
set_option maxHeartbeats 4000000 in
set_option maxRecDepth 100000 in
theorem c_X5_plot (l : Launch) (D : va_G) (G : gG) (A : Nat → Prop) (ad : gAd) (N : gN) (C M : gT) (o : Nat → Int64) (Hp : Heap) (hW : gW D A ad (Wd G ad N C M o) Hp) (n : gN) (hI : IM n M) (v1 v2 : Int32) : Met l yX5_plot wsX5_plot ({ frames := 3, cells := 0, slots := 0, locals := 66 }) (va_Pc [.ref (ad 0 1), .int v1, .int v2] (gQ D (gTs G) Hp)) (va_Qi (fun r (_ : Unit) => r = f_X5_plot n M v1 v2) (fun _ t => gW D A ad (Wd G ad N C (s_X5_plot n M v1 v2) o) t.heap) A) 0 0 A := by
  refine g_start (cc := cX5_plot) (maxL := 3) (ret := (some .int)) (by decide) rfl (Nat.le_of_ble_eq_true rfl) (fun p e s m below meth c ls C0 hr hlk hnm hh hK hl => ?_)
  obtain ⟨hx, hb, hml, hown, hts⟩ := id C0
  have hown : s.vm.findClass RX5 = some m.cls := hown
  have hS : va_S A Hp Hp [] := va_S.rf
  have hl : lv_has ls 3 [(0, .ref (ad 0 1)), (1, .int v1), (2, .int v2)] := hl
  have inX5 : ∀ w ∈ wsX50, w ∈ wsX5_plot := by decide +kernel
  obtain ⟨⟨hb0, hn0⟩, ⟨hb1, hn1⟩, ⟨hb2, hn2⟩, ⟨hb3, hn3⟩, hpl, hhe⟩ := id hI
  have hI0 := IM_t0 (v := 0) hI
  refine lv_aload_n hx hb dX5_plot_0 rfl (lv_at hl 0 rfl) ?_
  refine lv_iconst (v := 0) hx hb dX5_plot_1 (by decide) ?_
  refine g_put (D := D) (ci := 6) (v := .int 0) (ty := .int) (C := RX5) (T := TX5) (N := 23) (ct' := (Wd G ad N C (tset M 0 0 0) o)) hx hb hts inX5 tyX5 tyX5_ok nmX5 hown hK hW hS (show Wd G ad N C M o 0 1 = some (eMod ad M) from rfl) rfl 0 (by decide) (hts (.fieldLink RX5 59 "StoryTollModel" "thrown" "I") (List.mem_of_getElem? (i := 1) rfl)) (fun _ h9 => h9) rfl (by decide +kernel) rfl rfl (Nat.le_of_ble_eq_true rfl) dX5_plot_2 Wd_m0 (Wd_tM rfl) (fun H locs hW hS => ?_)
  refine lv_aload_n hx hb dX5_plot_5 rfl (lv_at hl 0 rfl) ?_
  refine lv_iload_n hx hb dX5_plot_6 rfl (lv_at hl 1 rfl) ?_
  refine g_Vi (As := [.int v1]) (rest := []) C0 (c_X5_isPlot l D G A ad N C (tset M 0 0 0) o H hW v1) (cwV 1 hts gX5_plot_X5_isPlot rfl rfl rfl (by decide +kernel) ⟨Nat.le_of_ble_eq_true rfl, Nat.le_of_ble_eq_true rfl⟩) hK (va_recv hK (hW.p rfl) (ci := 6) (q0 := 0) rfl rfl) rfl hl rfl (Nat.le_of_ble_eq_true rfl) dX5_plot_7 ⟨Nat.zero_le _, Nat.zero_le _⟩ hS (fun r_1 locs hr_1 hS => ?_)
  subst hr_1
  refine lv_if_eq (tgt := 31) hx hb dX5_plot_10 (by decide) (fun c_10_1 => ?_) (fun c_10_1 => ?_)
  · refine lv_aload_n hx hb dX5_plot_31 rfl (lv_at hl 0 rfl) ?_
    refine lv_iconst (v := 1) hx hb dX5_plot_32 (by decide) ?_
    refine g_wVi (As := [.int 1]) (rest := []) (B := fun (_ : Unit) H => gW D A ad (Wd G ad N C (s_X5_no (tset M 0 0 0) 1) o) H) (mc := 0) (ms := 0) C0 (c_X5_no l D G A ad N C (tset M 0 0 0) o H hW 1) (cwV 1 hts gX5_plot_X5_no rfl rfl rfl (by decide +kernel) ⟨Nat.le_of_ble_eq_true rfl, Nat.le_of_ble_eq_true rfl⟩) hK (va_recv hK (hW.p rfl) (ci := 6) (q0 := 0) rfl rfl) rfl hl rfl (Nat.le_of_ble_eq_true rfl) dX5_plot_33 ⟨Nat.zero_le _, Nat.zero_le _⟩ hS (fun r_3 ur_3 H locs hr_3 hW hzr_3 hS => ?_)
    have hW : gW D A ad (Wd G ad N C (s_X5_no (tset M 0 0 0) 1) o) H := hW
    subst hr_3
    exact g_wret (u := ()) (post := fun r _ => r = f_X5_plot n M v1 v2) (B := fun _ H => gW D A ad (Wd G ad N C (s_X5_plot n M v1 v2) o) H) hx hb hr hlk hh hS (show (f_X5_no (tset M 0 0 0) 1) = f_X5_plot n M v1 v2 from by rw [f_X5_plot, if_pos c_10_1]) (show gW D A ad (Wd G ad N C (s_X5_plot n M v1 v2) o) H from by rw [s_X5_plot, if_pos c_10_1]; exact hW) dX5_plot_36
  · have hv1 := is_idx hb3 (by omega) c_10_1
    refine lv_iload_n hx hb dX5_plot_13 rfl (lv_at hl 2 rfl) ?_
    refine lv_iconst (v := 0) hx hb dX5_plot_14 (by decide) ?_
    refine lv_iconst (v := 3) hx hb dX5_plot_15 (by decide) ?_
    refine g_Si (As := [.int v2, .int 0, .int 3]) (rest := []) C0 (c_X5_isIn l D G H v2 0 3) (va_cwS 3 hts gX5_plot_X5_isIn rfl rfl rfl (by decide +kernel) ⟨Nat.le_of_ble_eq_true rfl, Nat.le_of_ble_eq_true rfl⟩) hK rfl hl rfl (Nat.le_of_ble_eq_true rfl) dX5_plot_16 ⟨Nat.zero_le _, Nat.zero_le _⟩ hS (fun r_4 locs hr_4 hS => ?_)
    subst hr_4
    refine lv_if_eq (tgt := 31) hx hb dX5_plot_19 (by decide) (fun c_19_4 => ?_) (fun c_19_4 => ?_)
    · refine lv_aload_n hx hb dX5_plot_31 rfl (lv_at hl 0 rfl) ?_
      refine lv_iconst (v := 1) hx hb dX5_plot_32 (by decide) ?_
      refine g_wVi (As := [.int 1]) (rest := []) (B := fun (_ : Unit) H => gW D A ad (Wd G ad N C (s_X5_no (tset M 0 0 0) 1) o) H) (mc := 0) (ms := 0) C0 (c_X5_no l D G A ad N C (tset M 0 0 0) o H hW 1) (cwV 1 hts gX5_plot_X5_no rfl rfl rfl (by decide +kernel) ⟨Nat.le_of_ble_eq_true rfl, Nat.le_of_ble_eq_true rfl⟩) hK (va_recv hK (hW.p rfl) (ci := 6) (q0 := 0) rfl rfl) rfl hl rfl (Nat.le_of_ble_eq_true rfl) dX5_plot_33 ⟨Nat.zero_le _, Nat.zero_le _⟩ hS (fun r_6 ur_6 H locs hr_6 hW hzr_6 hS => ?_)
      have hW : gW D A ad (Wd G ad N C (s_X5_no (tset M 0 0 0) 1) o) H := hW
      subst hr_6
      exact g_wret (u := ()) (post := fun r _ => r = f_X5_plot n M v1 v2) (B := fun _ H => gW D A ad (Wd G ad N C (s_X5_plot n M v1 v2) o) H) hx hb hr hlk hh hS (show (f_X5_no (tset M 0 0 0) 1) = f_X5_plot n M v1 v2 from by rw [f_X5_plot, if_neg c_10_1, if_pos c_19_4]) (show gW D A ad (Wd G ad N C (s_X5_plot n M v1 v2) o) H from by rw [s_X5_plot, if_neg c_10_1, if_pos c_19_4]; exact hW) dX5_plot_36
    · refine lv_aload_n hx hb dX5_plot_22 rfl (lv_at hl 0 rfl) ?_
      refine lv_iload_n hx hb dX5_plot_23 rfl (lv_at hl 1 rfl) ?_
      refine lv_iload_n hx hb dX5_plot_24 rfl (lv_at hl 2 rfl) ?_
      refine g_Vi (As := [.int v1, .int v2]) (rest := []) C0 ((by have h9 := c_X5_plotTold l D G A ad N C (tset M 0 0 0) o H hW n hI0 v1.toNatClampNeg v2 (by omega); rw [← hv1.1] at h9; exact h9)) (cwV 2 hts gX5_plot_X5_plotTold rfl rfl rfl (by decide +kernel) ⟨Nat.le_of_ble_eq_true rfl, Nat.le_of_ble_eq_true rfl⟩) hK (va_recv hK (hW.p rfl) (ci := 6) (q0 := 0) rfl rfl) rfl hl rfl (Nat.le_of_ble_eq_true rfl) dX5_plot_25 ⟨Nat.zero_le _, Nat.zero_le _⟩ hS (fun r_7 locs hr_7 hS => ?_)
      subst hr_7
      refine lv_goto (tgt := 36) hx hb dX5_plot_28 (by decide) ?_
      exact g_wret (u := ()) (post := fun r _ => r = f_X5_plot n M v1 v2) (B := fun _ H => gW D A ad (Wd G ad N C (s_X5_plot n M v1 v2) o) H) hx hb hr hlk hh hS (show (f_X5_plotTold (tset M 0 0 0) v1.toNatClampNeg v2) = f_X5_plot n M v1 v2 from by rw [f_X5_plot, if_neg c_10_1, if_neg c_19_4]) (show gW D A ad (Wd G ad N C (s_X5_plot n M v1 v2) o) H from by rw [s_X5_plot, if_neg c_10_1, if_neg c_19_4]; exact hW) dX5_plot_36
def f_X5_told (n : gN) (M : gT) (v1 : Int32) (v2 : Int32) : Int32 := (if (f_X5_isPlot (tset M 0 0 0) v1) = 0 then (f_X5_no (tset M 0 0 0) 1) else (if (f_X5_isIn v2 0 ((M 20 v1.toNatClampNeg) - 1)) = 0 then (f_X5_no (tset M 0 0 0) 1) else (M 21 (8 * v1.toNatClampNeg + v2.toNatClampNeg))))
def s_X5_told (n : gN) (M : gT) (v1 : Int32) (v2 : Int32) : gT := (if (f_X5_isPlot (tset M 0 0 0) v1) = 0 then (s_X5_no (tset M 0 0 0) 1) else (if (f_X5_isIn v2 0 ((M 20 v1.toNatClampNeg) - 1)) = 0 then (s_X5_no (tset M 0 0 0) 1) else (tset M 0 0 0)))
set_option maxHeartbeats 4000000 in
set_option maxRecDepth 100000 in
theorem c_X5_told (l : Launch) (D : va_G) (G : gG) (A : Nat → Prop) (ad : gAd) (N : gN) (C M : gT) (o : Nat → Int64) (Hp : Heap) (hW : gW D A ad (Wd G ad N C M o) Hp) (n : gN) (hI : IM n M) (v1 v2 : Int32) : Met l yX5_told wsX5_told ({ frames := 2, cells := 0, slots := 0, locals := 43 }) (va_Pc [.ref (ad 0 1), .int v1, .int v2] (gQ D (gTs G) Hp)) (va_Qi (fun r (_ : Unit) => r = f_X5_told n M v1 v2) (fun _ t => gW D A ad (Wd G ad N C (s_X5_told n M v1 v2) o) t.heap) A) 0 0 A := by
  refine g_start (cc := cX5_told) (maxL := 3) (ret := (some .int)) (by decide) rfl (Nat.le_of_ble_eq_true rfl) (fun p e s m below meth c ls C0 hr hlk hnm hh hK hl => ?_)
  obtain ⟨hx, hb, hml, hown, hts⟩ := id C0
  have hown : s.vm.findClass RX5 = some m.cls := hown
  have hS : va_S A Hp Hp [] := va_S.rf
  have hl : lv_has ls 3 [(0, .ref (ad 0 1)), (1, .int v1), (2, .int v2)] := hl
  have inX5 : ∀ w ∈ wsX50, w ∈ wsX5_told := by decide +kernel
  obtain ⟨⟨hb0, hn0⟩, ⟨hb1, hn1⟩, ⟨hb2, hn2⟩, ⟨hb3, hn3⟩, hpl, hhe⟩ := id hI
  have hI0 := IM_t0 (v := 0) hI
  refine lv_aload_n hx hb dX5_told_0 rfl (lv_at hl 0 rfl) ?_
  refine lv_iconst (v := 0) hx hb dX5_told_1 (by decide) ?_
  refine g_put (D := D) (ci := 6) (v := .int 0) (ty := .int) (C := RX5) (T := TX5) (N := 23) (ct' := (Wd G ad N C (tset M 0 0 0) o)) hx hb hts inX5 tyX5 tyX5_ok nmX5 hown hK hW hS (show Wd G ad N C M o 0 1 = some (eMod ad M) from rfl) rfl 0 (by decide) (hts (.fieldLink RX5 59 "StoryTollModel" "thrown" "I") (List.mem_of_getElem? (i := 1) rfl)) (fun _ h9 => h9) rfl (by decide +kernel) rfl rfl (Nat.le_of_ble_eq_true rfl) dX5_told_2 Wd_m0 (Wd_tM rfl) (fun H locs hW hS => ?_)
  refine lv_aload_n hx hb dX5_told_5 rfl (lv_at hl 0 rfl) ?_
  refine lv_iload_n hx hb dX5_told_6 rfl (lv_at hl 1 rfl) ?_
  refine g_Vi (As := [.int v1]) (rest := []) C0 (c_X5_isPlot l D G A ad N C (tset M 0 0 0) o H hW v1) (cwV 1 hts gX5_told_X5_isPlot rfl rfl rfl (by decide +kernel) ⟨Nat.le_of_ble_eq_true rfl, Nat.le_of_ble_eq_true rfl⟩) hK (va_recv hK (hW.p rfl) (ci := 6) (q0 := 0) rfl rfl) rfl hl rfl (Nat.le_of_ble_eq_true rfl) dX5_told_7 ⟨Nat.zero_le _, Nat.zero_le _⟩ hS (fun r_1 locs hr_1 hS => ?_)
  subst hr_1
  refine lv_if_eq (tgt := 43) hx hb dX5_told_10 (by decide) (fun c_10_1 => ?_) (fun c_10_1 => ?_)
  · refine lv_aload_n hx hb dX5_told_43 rfl (lv_at hl 0 rfl) ?_
    refine lv_iconst (v := 1) hx hb dX5_told_44 (by decide) ?_
    refine g_wVi (As := [.int 1]) (rest := []) (B := fun (_ : Unit) H => gW D A ad (Wd G ad N C (s_X5_no (tset M 0 0 0) 1) o) H) (mc := 0) (ms := 0) C0 (c_X5_no l D G A ad N C (tset M 0 0 0) o H hW 1) (cwV 1 hts gX5_told_X5_no rfl rfl rfl (by decide +kernel) ⟨Nat.le_of_ble_eq_true rfl, Nat.le_of_ble_eq_true rfl⟩) hK (va_recv hK (hW.p rfl) (ci := 6) (q0 := 0) rfl rfl) rfl hl rfl (Nat.le_of_ble_eq_true rfl) dX5_told_45 ⟨Nat.zero_le _, Nat.zero_le _⟩ hS (fun r_3 ur_3 H locs hr_3 hW hzr_3 hS => ?_)
    have hW : gW D A ad (Wd G ad N C (s_X5_no (tset M 0 0 0) 1) o) H := hW
    subst hr_3
    exact g_wret (u := ()) (post := fun r _ => r = f_X5_told n M v1 v2) (B := fun _ H => gW D A ad (Wd G ad N C (s_X5_told n M v1 v2) o) H) hx hb hr hlk hh hS (show (f_X5_no (tset M 0 0 0) 1) = f_X5_told n M v1 v2 from by rw [f_X5_told, if_pos c_10_1]) (show gW D A ad (Wd G ad N C (s_X5_told n M v1 v2) o) H from by rw [s_X5_told, if_pos c_10_1]; exact hW) dX5_told_48
  · have hv1 := is_idx hb3 (by omega) c_10_1
    refine lv_iload_n hx hb dX5_told_13 rfl (lv_at hl 2 rfl) ?_
    refine lv_iconst (v := 0) hx hb dX5_told_14 (by decide) ?_
    refine lv_aload_n hx hb dX5_told_15 rfl (lv_at hl 0 rfl) ?_
    refine va_get (D := D) (ci := 6) (v := .ref (ad 9 20)) (C := RX5) (T := TX5) (N := 23) hx hb hts inX5 hown hK (hW.p (e := (eMod ad (tset M 0 0 0))) rfl) 0 rfl rfl 20 (by decide) (hts (.fieldLink RX5 50 "StoryTollModel" "size" "[I") (List.mem_of_getElem? (i := 2) rfl)) (fun _ h9 => h9) rfl dX5_told_16 ?_
    refine lv_iload_n hx hb dX5_told_19 rfl (lv_at hl 1 rfl) ?_
    refine g_ild hx hb hK hW 0 (n := 8) (f := ((tset M 0 0 0) 20)) rfl rfl (k := v1.toNatClampNeg) hv1.1 (by omega) (by decide) dX5_told_20 ?_
    rw [show ((tset M 0 0 0) 20 v1.toNatClampNeg) = (M 20 v1.toNatClampNeg) from by rw [tset_of (by decide)]]
    refine lv_iconst (v := 1) hx hb dX5_told_21 (by decide) ?_
    refine lv_isub hx hb dX5_told_22 ?_
    refine g_Si (As := [.int v2, .int 0, .int ((M 20 v1.toNatClampNeg) - 1)]) (rest := []) C0 (c_X5_isIn l D G H v2 0 ((M 20 v1.toNatClampNeg) - 1)) (va_cwS 3 hts gX5_told_X5_isIn rfl rfl rfl (by decide +kernel) ⟨Nat.le_of_ble_eq_true rfl, Nat.le_of_ble_eq_true rfl⟩) hK rfl hl rfl (Nat.le_of_ble_eq_true rfl) dX5_told_23 ⟨Nat.zero_le _, Nat.zero_le _⟩ hS (fun r_4 locs hr_4 hS => ?_)
    subst hr_4
    refine lv_if_eq (tgt := 43) hx hb dX5_told_26 (by decide) (fun c_26_4 => ?_) (fun c_26_4 => ?_)
    · refine lv_aload_n hx hb dX5_told_43 rfl (lv_at hl 0 rfl) ?_
      refine lv_iconst (v := 1) hx hb dX5_told_44 (by decide) ?_
      refine g_wVi (As := [.int 1]) (rest := []) (B := fun (_ : Unit) H => gW D A ad (Wd G ad N C (s_X5_no (tset M 0 0 0) 1) o) H) (mc := 0) (ms := 0) C0 (c_X5_no l D G A ad N C (tset M 0 0 0) o H hW 1) (cwV 1 hts gX5_told_X5_no rfl rfl rfl (by decide +kernel) ⟨Nat.le_of_ble_eq_true rfl, Nat.le_of_ble_eq_true rfl⟩) hK (va_recv hK (hW.p rfl) (ci := 6) (q0 := 0) rfl rfl) rfl hl rfl (Nat.le_of_ble_eq_true rfl) dX5_told_45 ⟨Nat.zero_le _, Nat.zero_le _⟩ hS (fun r_6 ur_6 H locs hr_6 hW hzr_6 hS => ?_)
      have hW : gW D A ad (Wd G ad N C (s_X5_no (tset M 0 0 0) 1) o) H := hW
      subst hr_6
      exact g_wret (u := ()) (post := fun r _ => r = f_X5_told n M v1 v2) (B := fun _ H => gW D A ad (Wd G ad N C (s_X5_told n M v1 v2) o) H) hx hb hr hlk hh hS (show (f_X5_no (tset M 0 0 0) 1) = f_X5_told n M v1 v2 from by rw [f_X5_told, if_neg c_10_1, if_pos c_26_4]) (show gW D A ad (Wd G ad N C (s_X5_told n M v1 v2) o) H from by rw [s_X5_told, if_neg c_10_1, if_pos c_26_4]; exact hW) dX5_told_48
    · obtain ⟨hs1, hs2, hs3, hrw⟩ := hpl v1.toNatClampNeg hv1.2
      have hv2 := is_idx hs1 (by omega) c_26_4
      refine lv_aload_n hx hb dX5_told_29 rfl (lv_at hl 0 rfl) ?_
      refine va_get (D := D) (ci := 6) (v := .ref (ad 9 21)) (C := RX5) (T := TX5) (N := 23) hx hb hts inX5 hown hK (hW.p (e := (eMod ad (tset M 0 0 0))) rfl) 0 rfl rfl 21 (by decide) (hts (.fieldLink RX5 53 "StoryTollModel" "row" "[I") (List.mem_of_getElem? (i := 3) rfl)) (fun _ h9 => h9) rfl dX5_told_30 ?_
      refine lv_bipush (v := 8) hx hb dX5_told_33 (by decide) ?_
      refine lv_iload_n hx hb dX5_told_35 rfl (lv_at hl 1 rfl) ?_
      refine lv_imul hx hb dX5_told_36 ?_
      refine lv_iload_n hx hb dX5_told_37 rfl (lv_at hl 2 rfl) ?_
      refine lv_iadd hx hb dX5_told_38 ?_
      refine g_ild hx hb hK hW 0 (n := 64) (f := ((tset M 0 0 0) 21)) rfl rfl (k := (8 * v1.toNatClampNeg + v2.toNatClampNeg)) ((congr (congrArg (fun a b => 8 * a + b) hv1.1) hv2.1).trans (ix8 _ _)) (by omega) (by decide) dX5_told_39 ?_
      rw [show ((tset M 0 0 0) 21 (8 * v1.toNatClampNeg + v2.toNatClampNeg)) = (M 21 (8 * v1.toNatClampNeg + v2.toNatClampNeg)) from by rw [tset_of (by decide)]]
      refine lv_goto (tgt := 48) hx hb dX5_told_40 (by decide) ?_
      exact g_wret (u := ()) (post := fun r _ => r = f_X5_told n M v1 v2) (B := fun _ H => gW D A ad (Wd G ad N C (s_X5_told n M v1 v2) o) H) hx hb hr hlk hh hS (show (M 21 (8 * v1.toNatClampNeg + v2.toNatClampNeg)) = f_X5_told n M v1 v2 from by rw [f_X5_told, if_neg c_10_1, if_neg c_26_4]) (show gW D A ad (Wd G ad N C (s_X5_told n M v1 v2) o) H from by rw [s_X5_told, if_neg c_10_1, if_neg c_26_4]; exact hW) dX5_told_48
def f_X5_worth (n : gN) (M : gT) (v1 : Int32) (v2 : Int32) : Int32 := (if (f_X5_isGuard (tset M 0 0 0) v1) = 0 then (f_X5_no (tset M 0 0 0) 1) else (if (f_X5_isScene (tset M 0 0 0) v2) = 0 then (f_X5_no (tset M 0 0 0) 1) else (f_X5_worthOf (tset M 0 0 0) v1.toNatClampNeg v2.toNatClampNeg)))
def s_X5_worth (n : gN) (M : gT) (v1 : Int32) (v2 : Int32) : gT := (if (f_X5_isGuard (tset M 0 0 0) v1) = 0 then (s_X5_no (tset M 0 0 0) 1) else (if (f_X5_isScene (tset M 0 0 0) v2) = 0 then (s_X5_no (tset M 0 0 0) 1) else (tset M 0 0 0)))
set_option maxHeartbeats 4000000 in
set_option maxRecDepth 100000 in
theorem c_X5_worth (l : Launch) (D : va_G) (G : gG) (A : Nat → Prop) (ad : gAd) (N : gN) (C M : gT) (o : Nat → Int64) (Hp : Heap) (hW : gW D A ad (Wd G ad N C M o) Hp) (n : gN) (hI : IM n M) (v1 v2 : Int32) : Met l yX5_worth wsX5_worth ({ frames := 2, cells := 0, slots := 0, locals := 43 }) (va_Pc [.ref (ad 0 1), .int v1, .int v2] (gQ D (gTs G) Hp)) (va_Qi (fun r (_ : Unit) => r = f_X5_worth n M v1 v2) (fun _ t => gW D A ad (Wd G ad N C (s_X5_worth n M v1 v2) o) t.heap) A) 0 0 A := by
  refine g_start (cc := cX5_worth) (maxL := 3) (ret := (some .int)) (by decide) rfl (Nat.le_of_ble_eq_true rfl) (fun p e s m below meth c ls C0 hr hlk hnm hh hK hl => ?_)
  obtain ⟨hx, hb, hml, hown, hts⟩ := id C0
  have hown : s.vm.findClass RX5 = some m.cls := hown
  have hS : va_S A Hp Hp [] := va_S.rf
  have hl : lv_has ls 3 [(0, .ref (ad 0 1)), (1, .int v1), (2, .int v2)] := hl
  have inX5 : ∀ w ∈ wsX50, w ∈ wsX5_worth := by decide +kernel
  obtain ⟨⟨hb0, hn0⟩, ⟨hb1, hn1⟩, ⟨hb2, hn2⟩, ⟨hb3, hn3⟩, hpl, hhe⟩ := id hI
  have hI0 := IM_t0 (v := 0) hI
  refine lv_aload_n hx hb dX5_worth_0 rfl (lv_at hl 0 rfl) ?_
  refine lv_iconst (v := 0) hx hb dX5_worth_1 (by decide) ?_
  refine g_put (D := D) (ci := 6) (v := .int 0) (ty := .int) (C := RX5) (T := TX5) (N := 23) (ct' := (Wd G ad N C (tset M 0 0 0) o)) hx hb hts inX5 tyX5 tyX5_ok nmX5 hown hK hW hS (show Wd G ad N C M o 0 1 = some (eMod ad M) from rfl) rfl 0 (by decide) (hts (.fieldLink RX5 59 "StoryTollModel" "thrown" "I") (List.mem_of_getElem? (i := 1) rfl)) (fun _ h9 => h9) rfl (by decide +kernel) rfl rfl (Nat.le_of_ble_eq_true rfl) dX5_worth_2 Wd_m0 (Wd_tM rfl) (fun H locs hW hS => ?_)
  refine lv_aload_n hx hb dX5_worth_5 rfl (lv_at hl 0 rfl) ?_
  refine lv_iload_n hx hb dX5_worth_6 rfl (lv_at hl 1 rfl) ?_
  refine g_Vi (As := [.int v1]) (rest := []) C0 (c_X5_isGuard l D G A ad N C (tset M 0 0 0) o H hW v1) (cwV 1 hts gX5_worth_X5_isGuard rfl rfl rfl (by decide +kernel) ⟨Nat.le_of_ble_eq_true rfl, Nat.le_of_ble_eq_true rfl⟩) hK (va_recv hK (hW.p rfl) (ci := 6) (q0 := 0) rfl rfl) rfl hl rfl (Nat.le_of_ble_eq_true rfl) dX5_worth_7 ⟨Nat.zero_le _, Nat.zero_le _⟩ hS (fun r_1 locs hr_1 hS => ?_)
  subst hr_1
  refine lv_if_eq (tgt := 30) hx hb dX5_worth_10 (by decide) (fun c_10_1 => ?_) (fun c_10_1 => ?_)
  · refine lv_aload_n hx hb dX5_worth_30 rfl (lv_at hl 0 rfl) ?_
    refine lv_iconst (v := 1) hx hb dX5_worth_31 (by decide) ?_
    refine g_wVi (As := [.int 1]) (rest := []) (B := fun (_ : Unit) H => gW D A ad (Wd G ad N C (s_X5_no (tset M 0 0 0) 1) o) H) (mc := 0) (ms := 0) C0 (c_X5_no l D G A ad N C (tset M 0 0 0) o H hW 1) (cwV 1 hts gX5_worth_X5_no rfl rfl rfl (by decide +kernel) ⟨Nat.le_of_ble_eq_true rfl, Nat.le_of_ble_eq_true rfl⟩) hK (va_recv hK (hW.p rfl) (ci := 6) (q0 := 0) rfl rfl) rfl hl rfl (Nat.le_of_ble_eq_true rfl) dX5_worth_32 ⟨Nat.zero_le _, Nat.zero_le _⟩ hS (fun r_3 ur_3 H locs hr_3 hW hzr_3 hS => ?_)
    have hW : gW D A ad (Wd G ad N C (s_X5_no (tset M 0 0 0) 1) o) H := hW
    subst hr_3
    exact g_wret (u := ()) (post := fun r _ => r = f_X5_worth n M v1 v2) (B := fun _ H => gW D A ad (Wd G ad N C (s_X5_worth n M v1 v2) o) H) hx hb hr hlk hh hS (show (f_X5_no (tset M 0 0 0) 1) = f_X5_worth n M v1 v2 from by rw [f_X5_worth, if_pos c_10_1]) (show gW D A ad (Wd G ad N C (s_X5_worth n M v1 v2) o) H from by rw [s_X5_worth, if_pos c_10_1]; exact hW) dX5_worth_35
  · have hv1 := is_idx hb1 (by omega) c_10_1
    refine lv_aload_n hx hb dX5_worth_13 rfl (lv_at hl 0 rfl) ?_
    refine lv_iload_n hx hb dX5_worth_14 rfl (lv_at hl 2 rfl) ?_
    refine g_Vi (As := [.int v2]) (rest := []) C0 (c_X5_isScene l D G A ad N C (tset M 0 0 0) o H hW v2) (cwV 1 hts gX5_worth_X5_isScene rfl rfl rfl (by decide +kernel) ⟨Nat.le_of_ble_eq_true rfl, Nat.le_of_ble_eq_true rfl⟩) hK (va_recv hK (hW.p rfl) (ci := 6) (q0 := 0) rfl rfl) rfl hl rfl (Nat.le_of_ble_eq_true rfl) dX5_worth_15 ⟨Nat.zero_le _, Nat.zero_le _⟩ hS (fun r_4 locs hr_4 hS => ?_)
    subst hr_4
    refine lv_if_eq (tgt := 30) hx hb dX5_worth_18 (by decide) (fun c_18_4 => ?_) (fun c_18_4 => ?_)
    · refine lv_aload_n hx hb dX5_worth_30 rfl (lv_at hl 0 rfl) ?_
      refine lv_iconst (v := 1) hx hb dX5_worth_31 (by decide) ?_
      refine g_wVi (As := [.int 1]) (rest := []) (B := fun (_ : Unit) H => gW D A ad (Wd G ad N C (s_X5_no (tset M 0 0 0) 1) o) H) (mc := 0) (ms := 0) C0 (c_X5_no l D G A ad N C (tset M 0 0 0) o H hW 1) (cwV 1 hts gX5_worth_X5_no rfl rfl rfl (by decide +kernel) ⟨Nat.le_of_ble_eq_true rfl, Nat.le_of_ble_eq_true rfl⟩) hK (va_recv hK (hW.p rfl) (ci := 6) (q0 := 0) rfl rfl) rfl hl rfl (Nat.le_of_ble_eq_true rfl) dX5_worth_32 ⟨Nat.zero_le _, Nat.zero_le _⟩ hS (fun r_6 ur_6 H locs hr_6 hW hzr_6 hS => ?_)
      have hW : gW D A ad (Wd G ad N C (s_X5_no (tset M 0 0 0) 1) o) H := hW
      subst hr_6
      exact g_wret (u := ()) (post := fun r _ => r = f_X5_worth n M v1 v2) (B := fun _ H => gW D A ad (Wd G ad N C (s_X5_worth n M v1 v2) o) H) hx hb hr hlk hh hS (show (f_X5_no (tset M 0 0 0) 1) = f_X5_worth n M v1 v2 from by rw [f_X5_worth, if_neg c_10_1, if_pos c_18_4]) (show gW D A ad (Wd G ad N C (s_X5_worth n M v1 v2) o) H from by rw [s_X5_worth, if_neg c_10_1, if_pos c_18_4]; exact hW) dX5_worth_35
    · have hv2 := is_idx hb0 (by omega) c_18_4
      obtain ⟨hq, hw9⟩ := hhe (24 * v1.toNatClampNeg + v2.toNatClampNeg) (by omega)
      refine lv_aload_n hx hb dX5_worth_21 rfl (lv_at hl 0 rfl) ?_
      refine lv_iload_n hx hb dX5_worth_22 rfl (lv_at hl 1 rfl) ?_
      refine lv_iload_n hx hb dX5_worth_23 rfl (lv_at hl 2 rfl) ?_
      refine g_Vi (As := [.int v1, .int v2]) (rest := []) C0 ((by have h9 := c_X5_worthOf l D G A ad N C (tset M 0 0 0) o H hW v1.toNatClampNeg v2.toNatClampNeg hq (by omega) (by omega) hw9.2 hw9.1; rw [← hv1.1, ← hv2.1] at h9; exact h9)) (cwV 2 hts gX5_worth_X5_worthOf rfl rfl rfl (by decide +kernel) ⟨Nat.le_of_ble_eq_true rfl, Nat.le_of_ble_eq_true rfl⟩) hK (va_recv hK (hW.p rfl) (ci := 6) (q0 := 0) rfl rfl) rfl hl rfl (Nat.le_of_ble_eq_true rfl) dX5_worth_24 ⟨Nat.zero_le _, Nat.zero_le _⟩ hS (fun r_7 locs hr_7 hS => ?_)
      subst hr_7
      refine lv_goto (tgt := 35) hx hb dX5_worth_27 (by decide) ?_
      exact g_wret (u := ()) (post := fun r _ => r = f_X5_worth n M v1 v2) (B := fun _ H => gW D A ad (Wd G ad N C (s_X5_worth n M v1 v2) o) H) hx hb hr hlk hh hS (show (f_X5_worthOf (tset M 0 0 0) v1.toNatClampNeg v2.toNatClampNeg) = f_X5_worth n M v1 v2 from by rw [f_X5_worth, if_neg c_10_1, if_neg c_18_4]) (show gW D A ad (Wd G ad N C (s_X5_worth n M v1 v2) o) H from by rw [s_X5_worth, if_neg c_10_1, if_neg c_18_4]; exact hW) dX5_worth_35
