/-! THE CLASS: public methods that only read -/
def f_X4_scene (C : gT) (N : gN) (v : Int32) (w : Int32) : Int32 ⊕ String := (if gIn v (N 0) then (if w < 0 then (Sum.inr xI) else (if w ≤ 4 then (Sum.inl (f_X2_answer C v.toNatClampNeg w)) else (Sum.inr xI))) else (Sum.inr xI))
set_option maxHeartbeats 4000000 in
set_option maxRecDepth 100000 in
theorem c_X4_scene (l : Launch) (D : va_G) (G : gG) (A : Nat → Prop) (ad : gAd) (N : gN) (C M : gT) (o : Nat → Int64) (Hp : Heap) (hW : gW D A ad (Wd G ad N C M o) Hp) (hl0 : l.stackTraces = false) (hC : IC N C) (v w : Int32) : vx_Met l yX4_scene wsX4_scene ({ frames := 6, cells := 1, slots := 6, locals := 90 }) (va_Pc [.ref (ad 0 0), .int v, .int w] (gQX D (gTs G) Hp A)) (va_Qi (fun r (_ : Unit) => f_X4_scene C N v w = .inl r) (fun _ t => gW D A ad (Wd G ad N (C) M o) t.heap) A) (vx_X (fun (_ : Unit) => True) (fun E _ t => f_X4_scene C N v w = .inr E ∧ gW D A ad (Wd G ad N C M o) t.heap) A) 1 6 A := by
  refine g_startX (cc := cX4_scene) (maxL := 4) (ret := (some .int)) (by decide) rfl (Nat.le_of_ble_eq_true rfl) (fun p e s m below meth c ls C0 hr hlk hh hK hE hnt hl => ?_)
  obtain ⟨hx, hb, hml, hown, hts⟩ := id C0
  have hown : s.vm.findClass RX4 = some m.cls := hown
  have hS : va_S A Hp Hp [] := va_S.rf
  have hl : lv_has ls 4 [(0, .ref (ad 0 0)), (1, .int v), (2, .int w)] := hl
  obtain ⟨⟨hc0, hc1, hc2, hc3⟩, hNN, hCp⟩ := id hC
  have hn0 := hNN 0 (by decide)
  have hn1 := hNN 1 (by decide)
  have hn2 := hNN 2 (by decide)
  have hn3 := hNN 3 (by decide)
  refine lv_aload_n hx hb dX4_scene_0 rfl (lv_at hl 0 rfl) ?_
  refine lv_iload_n hx hb dX4_scene_1 rfl (lv_at hl 1 rfl) ?_
  refine g_Vq (As := [.int v]) (rest := []) C0 (c_X4_sceneAt l D G A ad N C M o Hp hW hNN v) (cwV 1 hts gX4_scene_X4_sceneAt rfl rfl rfl (by decide +kernel) ⟨Nat.le_of_ble_eq_true rfl, Nat.le_of_ble_eq_true rfl⟩) hK (va_recv hK (hW.p rfl) (ci := 5) (q0 := 0) rfl rfl) rfl hl rfl (Nat.le_of_ble_eq_true rfl) dX4_scene_2 ⟨Nat.zero_le _, Nat.zero_le _⟩ hS (fun r_1 locs hr_1 hS => ?_)
  by_cases c_f_1 : gIn v (N 0)
  · replace hr_1 : r_1 = some (ad 3 v.toNatClampNeg) := hr_1.trans ((fe_X4_sceneAt _ _ _).trans (if_pos c_f_1))
    subst r_1
    have hr_1 := gIn_of (by omega) c_f_1
    refine lv_astore_n (lv' := [(3, .ref (ad 3 v.toNatClampNeg)), (0, .ref (ad 0 0)), (1, .int v), (2, .int w)]) hx hb dX4_scene_5 rfl hl (by decide) rfl (fun ls hl => ?_)
    refine lv_aload_n hx hb dX4_scene_6 rfl (lv_at hl 0 rfl) ?_
    refine lv_ifnull hx hb dX4_scene_7 ?_
    refine lv_iload_n hx hb dX4_scene_10 rfl (lv_at hl 3 rfl) ?_
    refine lv_if_lt (tgt := 19) hx hb dX4_scene_11 (by decide) (fun c_11_2 => ?_) (fun c_11_2 => ?_)
    · exact g_thr (u := ()) (px := fun _ => True) (B := fun E _ H => f_X4_scene C N v w = .inr E ∧ gW D A ad (Wd G ad N C M o) H) (E := xI) (text := "no such scene or question") hx hb hl0 hml hown hts (fun w hw => List.mem_cons_of_mem _ (List.mem_append_right _ hw)) xb_I xg_I (hts (.classLink RX4 58 "java/lang/IndexOutOfBoundsException") (List.mem_of_getElem? (i := 1) rfl)) (hts (.initialized "java/lang/IndexOutOfBoundsException") (List.mem_of_getElem? (i := 2) rfl)) hE hE.1.1 (by decide) (by decide) (by rw [hh]; exact hS) hl dX4_scene_19 dX4_scene_22 dX4_scene_23 dX4_scene_25 dX4_scene_28 hnt ⟨by decide, by decide, by decide, by decide⟩ hlk trivial (fun H1 hk9 => ⟨(show f_X4_scene C N v w = .inr xI from by rw [f_X4_scene, if_pos c_f_1, if_pos c_11_2]), hW.keep hk9⟩) (by decide) (by decide)
    · refine lv_iload_n hx hb dX4_scene_14 rfl (lv_at hl 3 rfl) ?_
      refine lv_iconst (v := 4) hx hb dX4_scene_15 (by decide) ?_
      refine lv_icmp_le (tgt := 29) hx hb dX4_scene_16 (by decide) (fun c_16_3 => ?_) (fun c_16_3 => ?_)
      · refine lv_aload_n hx hb dX4_scene_29 rfl (lv_at hl 0 rfl) ?_
        refine lv_iload_n hx hb dX4_scene_30 rfl (lv_at hl 3 rfl) ?_
        refine g_Vi (As := [.int w]) (rest := []) C0 (c_X2_answer l D G A ad N C M o Hp hW v.toNatClampNeg hr_1.2 w) (cwV 1 hts gX4_scene_X2_answer rfl rfl rfl (by decide +kernel) ⟨Nat.le_of_ble_eq_true rfl, Nat.le_of_ble_eq_true rfl⟩) hK (va_recv hK (hW.p (Wd_S hr_1.2)) (ci := 3) (q0 := 0) rfl rfl) rfl hl rfl (Nat.le_of_ble_eq_true rfl) dX4_scene_31 ⟨Nat.zero_le _, Nat.zero_le _⟩ hS (fun r_5 locs hr_5 hS => ?_)
        replace hr_5 : r_5 = (f_X2_answer C v.toNatClampNeg w) := hr_5
        subst r_5
        refine W.widen (k := 1) (n := 6) (by omega) (by omega) ?_
        exact vx_ret (g_wret (u := ()) (post := fun r _ => f_X4_scene C N v w = .inl r) (B := fun _ H => gW D A ad (Wd G ad N (C) M o) H) hx hb hr hlk hh hS (show f_X4_scene C N v w = .inl (f_X2_answer C v.toNatClampNeg w) from by rw [f_X4_scene, if_pos c_f_1, if_neg c_11_2, if_pos c_16_3]) (show gW D A ad (Wd G ad N (C) M o) Hp from hW) dX4_scene_34)
      · exact g_thr (u := ()) (px := fun _ => True) (B := fun E _ H => f_X4_scene C N v w = .inr E ∧ gW D A ad (Wd G ad N C M o) H) (E := xI) (text := "no such scene or question") hx hb hl0 hml hown hts (fun w hw => List.mem_cons_of_mem _ (List.mem_append_right _ hw)) xb_I xg_I (hts (.classLink RX4 58 "java/lang/IndexOutOfBoundsException") (List.mem_of_getElem? (i := 1) rfl)) (hts (.initialized "java/lang/IndexOutOfBoundsException") (List.mem_of_getElem? (i := 2) rfl)) hE hE.1.1 (by decide) (by decide) (by rw [hh]; exact hS) hl dX4_scene_19 dX4_scene_22 dX4_scene_23 dX4_scene_25 dX4_scene_28 hnt ⟨by decide, by decide, by decide, by decide⟩ hlk trivial (fun H1 hk9 => ⟨(show f_X4_scene C N v w = .inr xI from by rw [f_X4_scene, if_pos c_f_1, if_neg c_11_2, if_neg c_16_3]), hW.keep hk9⟩) (by decide) (by decide)
  · replace hr_1 : r_1 = none := hr_1.trans ((fe_X4_sceneAt _ _ _).trans (if_neg c_f_1))
    subst r_1
    refine lv_astore_nN (lv' := [(3, .null), (0, .ref (ad 0 0)), (1, .int v), (2, .int w)]) hx hb dX4_scene_5 rfl hl (by decide) rfl (fun ls hl => ?_)
    refine lv_aload_nN hx hb dX4_scene_6 rfl (lv_at hl 0 rfl) ?_
    refine lv_ifnullN (tgt := 19) hx hb dX4_scene_7 (by decide) ?_
    exact g_thr (u := ()) (px := fun _ => True) (B := fun E _ H => f_X4_scene C N v w = .inr E ∧ gW D A ad (Wd G ad N C M o) H) (E := xI) (text := "no such scene or question") hx hb hl0 hml hown hts (fun w hw => List.mem_cons_of_mem _ (List.mem_append_right _ hw)) xb_I xg_I (hts (.classLink RX4 58 "java/lang/IndexOutOfBoundsException") (List.mem_of_getElem? (i := 1) rfl)) (hts (.initialized "java/lang/IndexOutOfBoundsException") (List.mem_of_getElem? (i := 2) rfl)) hE hE.1.1 (by decide) (by decide) (by rw [hh]; exact hS) hl dX4_scene_19 dX4_scene_22 dX4_scene_23 dX4_scene_25 dX4_scene_28 hnt ⟨by decide, by decide, by decide, by decide⟩ hlk trivial (fun H1 hk9 => ⟨(show f_X4_scene C N v w = .inr xI from by rw [f_X4_scene, if_neg c_f_1]), hW.keep hk9⟩) (by decide) (by decide)
def f_X4_guard (C : gT) (N : gN) (v : Int32) (w : Int32) : Int32 ⊕ String := (if gIn v (N 1) then (if w < 0 then (Sum.inr xI) else (if w ≤ 2 then (Sum.inl (f_X0_answer C v.toNatClampNeg w)) else (Sum.inr xI))) else (Sum.inr xI))
set_option maxHeartbeats 4000000 in
set_option maxRecDepth 100000 in
theorem c_X4_guard (l : Launch) (D : va_G) (G : gG) (A : Nat → Prop) (ad : gAd) (N : gN) (C M : gT) (o : Nat → Int64) (Hp : Heap) (hW : gW D A ad (Wd G ad N C M o) Hp) (hl0 : l.stackTraces = false) (hC : IC N C) (v w : Int32) : vx_Met l yX4_guard wsX4_guard ({ frames := 6, cells := 1, slots := 6, locals := 90 }) (va_Pc [.ref (ad 0 0), .int v, .int w] (gQX D (gTs G) Hp A)) (va_Qi (fun r (_ : Unit) => f_X4_guard C N v w = .inl r) (fun _ t => gW D A ad (Wd G ad N (C) M o) t.heap) A) (vx_X (fun (_ : Unit) => True) (fun E _ t => f_X4_guard C N v w = .inr E ∧ gW D A ad (Wd G ad N C M o) t.heap) A) 1 6 A := by
  refine g_startX (cc := cX4_guard) (maxL := 4) (ret := (some .int)) (by decide) rfl (Nat.le_of_ble_eq_true rfl) (fun p e s m below meth c ls C0 hr hlk hh hK hE hnt hl => ?_)
  obtain ⟨hx, hb, hml, hown, hts⟩ := id C0
  have hown : s.vm.findClass RX4 = some m.cls := hown
  have hS : va_S A Hp Hp [] := va_S.rf
  have hl : lv_has ls 4 [(0, .ref (ad 0 0)), (1, .int v), (2, .int w)] := hl
  obtain ⟨⟨hc0, hc1, hc2, hc3⟩, hNN, hCp⟩ := id hC
  have hn0 := hNN 0 (by decide)
  have hn1 := hNN 1 (by decide)
  have hn2 := hNN 2 (by decide)
  have hn3 := hNN 3 (by decide)
  refine lv_aload_n hx hb dX4_guard_0 rfl (lv_at hl 0 rfl) ?_
  refine lv_iload_n hx hb dX4_guard_1 rfl (lv_at hl 1 rfl) ?_
  refine g_Vq (As := [.int v]) (rest := []) C0 (c_X4_guardAt l D G A ad N C M o Hp hW hNN v) (cwV 1 hts gX4_guard_X4_guardAt rfl rfl rfl (by decide +kernel) ⟨Nat.le_of_ble_eq_true rfl, Nat.le_of_ble_eq_true rfl⟩) hK (va_recv hK (hW.p rfl) (ci := 5) (q0 := 0) rfl rfl) rfl hl rfl (Nat.le_of_ble_eq_true rfl) dX4_guard_2 ⟨Nat.zero_le _, Nat.zero_le _⟩ hS (fun r_1 locs hr_1 hS => ?_)
  by_cases c_f_1 : gIn v (N 1)
  · replace hr_1 : r_1 = some (ad 4 v.toNatClampNeg) := hr_1.trans ((fe_X4_guardAt _ _ _).trans (if_pos c_f_1))
    subst r_1
    have hr_1 := gIn_of (by omega) c_f_1
    refine lv_astore_n (lv' := [(3, .ref (ad 4 v.toNatClampNeg)), (0, .ref (ad 0 0)), (1, .int v), (2, .int w)]) hx hb dX4_guard_5 rfl hl (by decide) rfl (fun ls hl => ?_)
    refine lv_aload_n hx hb dX4_guard_6 rfl (lv_at hl 0 rfl) ?_
    refine lv_ifnull hx hb dX4_guard_7 ?_
    refine lv_iload_n hx hb dX4_guard_10 rfl (lv_at hl 3 rfl) ?_
    refine lv_if_lt (tgt := 19) hx hb dX4_guard_11 (by decide) (fun c_11_2 => ?_) (fun c_11_2 => ?_)
    · exact g_thr (u := ()) (px := fun _ => True) (B := fun E _ H => f_X4_guard C N v w = .inr E ∧ gW D A ad (Wd G ad N C M o) H) (E := xI) (text := "no such guard or question") hx hb hl0 hml hown hts (fun w hw => List.mem_cons_of_mem _ (List.mem_append_right _ hw)) xb_I xg_I (hts (.classLink RX4 58 "java/lang/IndexOutOfBoundsException") (List.mem_of_getElem? (i := 1) rfl)) (hts (.initialized "java/lang/IndexOutOfBoundsException") (List.mem_of_getElem? (i := 2) rfl)) hE hE.1.1 (by decide) (by decide) (by rw [hh]; exact hS) hl dX4_guard_19 dX4_guard_22 dX4_guard_23 dX4_guard_25 dX4_guard_28 hnt ⟨by decide, by decide, by decide, by decide⟩ hlk trivial (fun H1 hk9 => ⟨(show f_X4_guard C N v w = .inr xI from by rw [f_X4_guard, if_pos c_f_1, if_pos c_11_2]), hW.keep hk9⟩) (by decide) (by decide)
    · refine lv_iload_n hx hb dX4_guard_14 rfl (lv_at hl 3 rfl) ?_
      refine lv_iconst (v := 2) hx hb dX4_guard_15 (by decide) ?_
      refine lv_icmp_le (tgt := 29) hx hb dX4_guard_16 (by decide) (fun c_16_3 => ?_) (fun c_16_3 => ?_)
      · refine lv_aload_n hx hb dX4_guard_29 rfl (lv_at hl 0 rfl) ?_
        refine lv_iload_n hx hb dX4_guard_30 rfl (lv_at hl 3 rfl) ?_
        refine g_Vi (As := [.int w]) (rest := []) C0 (c_X0_answer l D G A ad N C M o Hp hW v.toNatClampNeg hr_1.2 w) (cwV 1 hts gX4_guard_X0_answer rfl rfl rfl (by decide +kernel) ⟨Nat.le_of_ble_eq_true rfl, Nat.le_of_ble_eq_true rfl⟩) hK (va_recv hK (hW.p (Wd_Gd hr_1.2)) (ci := 1) (q0 := 0) rfl rfl) rfl hl rfl (Nat.le_of_ble_eq_true rfl) dX4_guard_31 ⟨Nat.zero_le _, Nat.zero_le _⟩ hS (fun r_5 locs hr_5 hS => ?_)
        replace hr_5 : r_5 = (f_X0_answer C v.toNatClampNeg w) := hr_5
        subst r_5
        refine W.widen (k := 1) (n := 6) (by omega) (by omega) ?_
        exact vx_ret (g_wret (u := ()) (post := fun r _ => f_X4_guard C N v w = .inl r) (B := fun _ H => gW D A ad (Wd G ad N (C) M o) H) hx hb hr hlk hh hS (show f_X4_guard C N v w = .inl (f_X0_answer C v.toNatClampNeg w) from by rw [f_X4_guard, if_pos c_f_1, if_neg c_11_2, if_pos c_16_3]) (show gW D A ad (Wd G ad N (C) M o) Hp from hW) dX4_guard_34)
      · exact g_thr (u := ()) (px := fun _ => True) (B := fun E _ H => f_X4_guard C N v w = .inr E ∧ gW D A ad (Wd G ad N C M o) H) (E := xI) (text := "no such guard or question") hx hb hl0 hml hown hts (fun w hw => List.mem_cons_of_mem _ (List.mem_append_right _ hw)) xb_I xg_I (hts (.classLink RX4 58 "java/lang/IndexOutOfBoundsException") (List.mem_of_getElem? (i := 1) rfl)) (hts (.initialized "java/lang/IndexOutOfBoundsException") (List.mem_of_getElem? (i := 2) rfl)) hE hE.1.1 (by decide) (by decide) (by rw [hh]; exact hS) hl dX4_guard_19 dX4_guard_22 dX4_guard_23 dX4_guard_25 dX4_guard_28 hnt ⟨by decide, by decide, by decide, by decide⟩ hlk trivial (fun H1 hk9 => ⟨(show f_X4_guard C N v w = .inr xI from by rw [f_X4_guard, if_pos c_f_1, if_neg c_11_2, if_neg c_16_3]), hW.keep hk9⟩) (by decide) (by decide)
  · replace hr_1 : r_1 = none := hr_1.trans ((fe_X4_guardAt _ _ _).trans (if_neg c_f_1))
    subst r_1
    refine lv_astore_nN (lv' := [(3, .null), (0, .ref (ad 0 0)), (1, .int v), (2, .int w)]) hx hb dX4_guard_5 rfl hl (by decide) rfl (fun ls hl => ?_)
    refine lv_aload_nN hx hb dX4_guard_6 rfl (lv_at hl 0 rfl) ?_
    refine lv_ifnullN (tgt := 19) hx hb dX4_guard_7 (by decide) ?_
    exact g_thr (u := ()) (px := fun _ => True) (B := fun E _ H => f_X4_guard C N v w = .inr E ∧ gW D A ad (Wd G ad N C M o) H) (E := xI) (text := "no such guard or question") hx hb hl0 hml hown hts (fun w hw => List.mem_cons_of_mem _ (List.mem_append_right _ hw)) xb_I xg_I (hts (.classLink RX4 58 "java/lang/IndexOutOfBoundsException") (List.mem_of_getElem? (i := 1) rfl)) (hts (.initialized "java/lang/IndexOutOfBoundsException") (List.mem_of_getElem? (i := 2) rfl)) hE hE.1.1 (by decide) (by decide) (by rw [hh]; exact hS) hl dX4_guard_19 dX4_guard_22 dX4_guard_23 dX4_guard_25 dX4_guard_28 hnt ⟨by decide, by decide, by decide, by decide⟩ hlk trivial (fun H1 hk9 => ⟨(show f_X4_guard C N v w = .inr xI from by rw [f_X4_guard, if_neg c_f_1]), hW.keep hk9⟩) (by decide) (by decide)
def f_X4_traveller (C : gT) (N : gN) (v : Int32) (w : Int32) : Int32 ⊕ String := (if gIn v (N 2) then (if w < 0 then (Sum.inr xI) else (if w ≤ 4 then (Sum.inl (f_X4_answerOfTraveller C N v.toNatClampNeg w)) else (Sum.inr xI))) else (Sum.inr xI))
set_option maxHeartbeats 4000000 in
set_option maxRecDepth 100000 in
theorem c_X4_traveller (l : Launch) (D : va_G) (G : gG) (A : Nat → Prop) (ad : gAd) (N : gN) (C M : gT) (o : Nat → Int64) (Hp : Heap) (hW : gW D A ad (Wd G ad N C M o) Hp) (hl0 : l.stackTraces = false) (hC : IC N C) (v w : Int32) : vx_Met l yX4_traveller wsX4_traveller ({ frames := 6, cells := 1, slots := 6, locals := 109 }) (va_Pc [.ref (ad 0 0), .int v, .int w] (gQX D (gTs G) Hp A)) (va_Qi (fun r (_ : Unit) => f_X4_traveller C N v w = .inl r) (fun _ t => gW D A ad (Wd G ad N (C) M o) t.heap) A) (vx_X (fun (_ : Unit) => True) (fun E _ t => f_X4_traveller C N v w = .inr E ∧ gW D A ad (Wd G ad N C M o) t.heap) A) 1 6 A := by
  refine g_startX (cc := cX4_traveller) (maxL := 4) (ret := (some .int)) (by decide) rfl (Nat.le_of_ble_eq_true rfl) (fun p e s m below meth c ls C0 hr hlk hh hK hE hnt hl => ?_)
  obtain ⟨hx, hb, hml, hown, hts⟩ := id C0
  have hown : s.vm.findClass RX4 = some m.cls := hown
  have hS : va_S A Hp Hp [] := va_S.rf
  have hl : lv_has ls 4 [(0, .ref (ad 0 0)), (1, .int v), (2, .int w)] := hl
  obtain ⟨⟨hc0, hc1, hc2, hc3⟩, hNN, hCp⟩ := id hC
  have hn0 := hNN 0 (by decide)
  have hn1 := hNN 1 (by decide)
  have hn2 := hNN 2 (by decide)
  have hn3 := hNN 3 (by decide)
  refine lv_aload_n hx hb dX4_traveller_0 rfl (lv_at hl 0 rfl) ?_
  refine lv_iload_n hx hb dX4_traveller_1 rfl (lv_at hl 1 rfl) ?_
  refine g_Vq (As := [.int v]) (rest := []) C0 (c_X4_travellerAt l D G A ad N C M o Hp hW hNN v) (cwV 1 hts gX4_traveller_X4_travellerAt rfl rfl rfl (by decide +kernel) ⟨Nat.le_of_ble_eq_true rfl, Nat.le_of_ble_eq_true rfl⟩) hK (va_recv hK (hW.p rfl) (ci := 5) (q0 := 0) rfl rfl) rfl hl rfl (Nat.le_of_ble_eq_true rfl) dX4_traveller_2 ⟨Nat.zero_le _, Nat.zero_le _⟩ hS (fun r_1 locs hr_1 hS => ?_)
  by_cases c_f_1 : gIn v (N 2)
  · replace hr_1 : r_1 = some (ad 5 v.toNatClampNeg) := hr_1.trans ((fe_X4_travellerAt _ _ _).trans (if_pos c_f_1))
    subst r_1
    have hr_1 := gIn_of (by omega) c_f_1
    refine lv_astore_n (lv' := [(3, .ref (ad 5 v.toNatClampNeg)), (0, .ref (ad 0 0)), (1, .int v), (2, .int w)]) hx hb dX4_traveller_5 rfl hl (by decide) rfl (fun ls hl => ?_)
    refine lv_aload_n hx hb dX4_traveller_6 rfl (lv_at hl 0 rfl) ?_
    refine lv_ifnull hx hb dX4_traveller_7 ?_
    refine lv_iload_n hx hb dX4_traveller_10 rfl (lv_at hl 3 rfl) ?_
    refine lv_if_lt (tgt := 19) hx hb dX4_traveller_11 (by decide) (fun c_11_2 => ?_) (fun c_11_2 => ?_)
    · exact g_thr (u := ()) (px := fun _ => True) (B := fun E _ H => f_X4_traveller C N v w = .inr E ∧ gW D A ad (Wd G ad N C M o) H) (E := xI) (text := "no such traveller or question") hx hb hl0 hml hown hts (fun w hw => List.mem_cons_of_mem _ (List.mem_append_right _ hw)) xb_I xg_I (hts (.classLink RX4 58 "java/lang/IndexOutOfBoundsException") (List.mem_of_getElem? (i := 1) rfl)) (hts (.initialized "java/lang/IndexOutOfBoundsException") (List.mem_of_getElem? (i := 2) rfl)) hE hE.1.1 (by decide) (by decide) (by rw [hh]; exact hS) hl dX4_traveller_19 dX4_traveller_22 dX4_traveller_23 dX4_traveller_25 dX4_traveller_28 hnt ⟨by decide, by decide, by decide, by decide⟩ hlk trivial (fun H1 hk9 => ⟨(show f_X4_traveller C N v w = .inr xI from by rw [f_X4_traveller, if_pos c_f_1, if_pos c_11_2]), hW.keep hk9⟩) (by decide) (by decide)
    · refine lv_iload_n hx hb dX4_traveller_14 rfl (lv_at hl 3 rfl) ?_
      refine lv_iconst (v := 4) hx hb dX4_traveller_15 (by decide) ?_
      refine lv_icmp_le (tgt := 29) hx hb dX4_traveller_16 (by decide) (fun c_16_3 => ?_) (fun c_16_3 => ?_)
      · refine lv_aload_n hx hb dX4_traveller_29 rfl (lv_at hl 1 rfl) ?_
        refine lv_aload_n hx hb dX4_traveller_30 rfl (lv_at hl 0 rfl) ?_
        refine lv_iload_n hx hb dX4_traveller_31 rfl (lv_at hl 3 rfl) ?_
        refine g_Vi (As := [.ref (ad 5 v.toNatClampNeg), .int w]) (rest := []) C0 (c_X4_answerOfTraveller l D G A ad N C M o Hp hW hC v.toNatClampNeg hr_1.2 w) (cwV 2 hts gX4_traveller_X4_answerOfTraveller rfl rfl rfl (by decide +kernel) ⟨Nat.le_of_ble_eq_true rfl, Nat.le_of_ble_eq_true rfl⟩) hK (va_recv hK (hW.p rfl) (ci := 5) (q0 := 0) rfl rfl) rfl hl rfl (Nat.le_of_ble_eq_true rfl) dX4_traveller_32 ⟨Nat.zero_le _, Nat.zero_le _⟩ hS (fun r_5 locs hr_5 hS => ?_)
        replace hr_5 : r_5 = (f_X4_answerOfTraveller C N v.toNatClampNeg w) := hr_5
        subst r_5
        refine W.widen (k := 1) (n := 6) (by omega) (by omega) ?_
        exact vx_ret (g_wret (u := ()) (post := fun r _ => f_X4_traveller C N v w = .inl r) (B := fun _ H => gW D A ad (Wd G ad N (C) M o) H) hx hb hr hlk hh hS (show f_X4_traveller C N v w = .inl (f_X4_answerOfTraveller C N v.toNatClampNeg w) from by rw [f_X4_traveller, if_pos c_f_1, if_neg c_11_2, if_pos c_16_3]) (show gW D A ad (Wd G ad N (C) M o) Hp from hW) dX4_traveller_35)
      · exact g_thr (u := ()) (px := fun _ => True) (B := fun E _ H => f_X4_traveller C N v w = .inr E ∧ gW D A ad (Wd G ad N C M o) H) (E := xI) (text := "no such traveller or question") hx hb hl0 hml hown hts (fun w hw => List.mem_cons_of_mem _ (List.mem_append_right _ hw)) xb_I xg_I (hts (.classLink RX4 58 "java/lang/IndexOutOfBoundsException") (List.mem_of_getElem? (i := 1) rfl)) (hts (.initialized "java/lang/IndexOutOfBoundsException") (List.mem_of_getElem? (i := 2) rfl)) hE hE.1.1 (by decide) (by decide) (by rw [hh]; exact hS) hl dX4_traveller_19 dX4_traveller_22 dX4_traveller_23 dX4_traveller_25 dX4_traveller_28 hnt ⟨by decide, by decide, by decide, by decide⟩ hlk trivial (fun H1 hk9 => ⟨(show f_X4_traveller C N v w = .inr xI from by rw [f_X4_traveller, if_pos c_f_1, if_neg c_11_2, if_neg c_16_3]), hW.keep hk9⟩) (by decide) (by decide)
  · replace hr_1 : r_1 = none := hr_1.trans ((fe_X4_travellerAt _ _ _).trans (if_neg c_f_1))
    subst r_1
    refine lv_astore_nN (lv' := [(3, .null), (0, .ref (ad 0 0)), (1, .int v), (2, .int w)]) hx hb dX4_traveller_5 rfl hl (by decide) rfl (fun ls hl => ?_)
    refine lv_aload_nN hx hb dX4_traveller_6 rfl (lv_at hl 0 rfl) ?_
    refine lv_ifnullN (tgt := 19) hx hb dX4_traveller_7 (by decide) ?_
    exact g_thr (u := ()) (px := fun _ => True) (B := fun E _ H => f_X4_traveller C N v w = .inr E ∧ gW D A ad (Wd G ad N C M o) H) (E := xI) (text := "no such traveller or question") hx hb hl0 hml hown hts (fun w hw => List.mem_cons_of_mem _ (List.mem_append_right _ hw)) xb_I xg_I (hts (.classLink RX4 58 "java/lang/IndexOutOfBoundsException") (List.mem_of_getElem? (i := 1) rfl)) (hts (.initialized "java/lang/IndexOutOfBoundsException") (List.mem_of_getElem? (i := 2) rfl)) hE hE.1.1 (by decide) (by decide) (by rw [hh]; exact hS) hl dX4_traveller_19 dX4_traveller_22 dX4_traveller_23 dX4_traveller_25 dX4_traveller_28 hnt ⟨by decide, by decide, by decide, by decide⟩ hlk trivial (fun H1 hk9 => ⟨(show f_X4_traveller C N v w = .inr xI from by rw [f_X4_traveller, if_neg c_f_1]), hW.keep hk9⟩) (by decide) (by decide)
def f_X4_plot (C : gT) (N : gN) (v : Int32) (w : Int32) : Int32 ⊕ String := (if gIn v (N 3) then (if w < 0 then (Sum.inr xI) else (if w ≤ 3 then (Sum.inl (f_X1_answer C v.toNatClampNeg w)) else (Sum.inr xI))) else (Sum.inr xI))
set_option maxHeartbeats 4000000 in
set_option maxRecDepth 100000 in
theorem c_X4_plot (l : Launch) (D : va_G) (G : gG) (A : Nat → Prop) (ad : gAd) (N : gN) (C M : gT) (o : Nat → Int64) (Hp : Heap) (hW : gW D A ad (Wd G ad N C M o) Hp) (hl0 : l.stackTraces = false) (hC : IC N C) (v w : Int32) : vx_Met l yX4_plot wsX4_plot ({ frames := 6, cells := 1, slots := 6, locals := 90 }) (va_Pc [.ref (ad 0 0), .int v, .int w] (gQX D (gTs G) Hp A)) (va_Qi (fun r (_ : Unit) => f_X4_plot C N v w = .inl r) (fun _ t => gW D A ad (Wd G ad N (C) M o) t.heap) A) (vx_X (fun (_ : Unit) => True) (fun E _ t => f_X4_plot C N v w = .inr E ∧ gW D A ad (Wd G ad N C M o) t.heap) A) 1 6 A := by
  refine g_startX (cc := cX4_plot) (maxL := 4) (ret := (some .int)) (by decide) rfl (Nat.le_of_ble_eq_true rfl) (fun p e s m below meth c ls C0 hr hlk hh hK hE hnt hl => ?_)
  obtain ⟨hx, hb, hml, hown, hts⟩ := id C0
  have hown : s.vm.findClass RX4 = some m.cls := hown
  have hS : va_S A Hp Hp [] := va_S.rf
  have hl : lv_has ls 4 [(0, .ref (ad 0 0)), (1, .int v), (2, .int w)] := hl
  obtain ⟨⟨hc0, hc1, hc2, hc3⟩, hNN, hCp⟩ := id hC
  have hn0 := hNN 0 (by decide)
  have hn1 := hNN 1 (by decide)
  have hn2 := hNN 2 (by decide)
  have hn3 := hNN 3 (by decide)
  refine lv_aload_n hx hb dX4_plot_0 rfl (lv_at hl 0 rfl) ?_
  refine lv_iload_n hx hb dX4_plot_1 rfl (lv_at hl 1 rfl) ?_
  refine g_Vq (As := [.int v]) (rest := []) C0 (c_X4_plotAt l D G A ad N C M o Hp hW hNN v) (cwV 1 hts gX4_plot_X4_plotAt rfl rfl rfl (by decide +kernel) ⟨Nat.le_of_ble_eq_true rfl, Nat.le_of_ble_eq_true rfl⟩) hK (va_recv hK (hW.p rfl) (ci := 5) (q0 := 0) rfl rfl) rfl hl rfl (Nat.le_of_ble_eq_true rfl) dX4_plot_2 ⟨Nat.zero_le _, Nat.zero_le _⟩ hS (fun r_1 locs hr_1 hS => ?_)
  by_cases c_f_1 : gIn v (N 3)
  · replace hr_1 : r_1 = some (ad 6 v.toNatClampNeg) := hr_1.trans ((fe_X4_plotAt _ _ _).trans (if_pos c_f_1))
    subst r_1
    have hr_1 := gIn_of (by omega) c_f_1
    refine lv_astore_n (lv' := [(3, .ref (ad 6 v.toNatClampNeg)), (0, .ref (ad 0 0)), (1, .int v), (2, .int w)]) hx hb dX4_plot_5 rfl hl (by decide) rfl (fun ls hl => ?_)
    refine lv_aload_n hx hb dX4_plot_6 rfl (lv_at hl 0 rfl) ?_
    refine lv_ifnull hx hb dX4_plot_7 ?_
    refine lv_iload_n hx hb dX4_plot_10 rfl (lv_at hl 3 rfl) ?_
    refine lv_if_lt (tgt := 19) hx hb dX4_plot_11 (by decide) (fun c_11_2 => ?_) (fun c_11_2 => ?_)
    · exact g_thr (u := ()) (px := fun _ => True) (B := fun E _ H => f_X4_plot C N v w = .inr E ∧ gW D A ad (Wd G ad N C M o) H) (E := xI) (text := "no such plot or question") hx hb hl0 hml hown hts (fun w hw => List.mem_cons_of_mem _ (List.mem_append_right _ hw)) xb_I xg_I (hts (.classLink RX4 58 "java/lang/IndexOutOfBoundsException") (List.mem_of_getElem? (i := 1) rfl)) (hts (.initialized "java/lang/IndexOutOfBoundsException") (List.mem_of_getElem? (i := 2) rfl)) hE hE.1.1 (by decide) (by decide) (by rw [hh]; exact hS) hl dX4_plot_19 dX4_plot_22 dX4_plot_23 dX4_plot_25 dX4_plot_28 hnt ⟨by decide, by decide, by decide, by decide⟩ hlk trivial (fun H1 hk9 => ⟨(show f_X4_plot C N v w = .inr xI from by rw [f_X4_plot, if_pos c_f_1, if_pos c_11_2]), hW.keep hk9⟩) (by decide) (by decide)
    · refine lv_iload_n hx hb dX4_plot_14 rfl (lv_at hl 3 rfl) ?_
      refine lv_iconst (v := 3) hx hb dX4_plot_15 (by decide) ?_
      refine lv_icmp_le (tgt := 29) hx hb dX4_plot_16 (by decide) (fun c_16_3 => ?_) (fun c_16_3 => ?_)
      · refine lv_aload_n hx hb dX4_plot_29 rfl (lv_at hl 0 rfl) ?_
        refine lv_iload_n hx hb dX4_plot_30 rfl (lv_at hl 3 rfl) ?_
        refine g_Vi (As := [.int w]) (rest := []) C0 (c_X1_answer l D G A ad N C M o Hp hW hC v.toNatClampNeg hr_1.2 w) (cwV 1 hts gX4_plot_X1_answer rfl rfl rfl (by decide +kernel) ⟨Nat.le_of_ble_eq_true rfl, Nat.le_of_ble_eq_true rfl⟩) hK (va_recv hK (hW.p (Wd_Pl hr_1.2)) (ci := 2) (q0 := 0) rfl rfl) rfl hl rfl (Nat.le_of_ble_eq_true rfl) dX4_plot_31 ⟨Nat.zero_le _, Nat.zero_le _⟩ hS (fun r_5 locs hr_5 hS => ?_)
        replace hr_5 : r_5 = (f_X1_answer C v.toNatClampNeg w) := hr_5
        subst r_5
        refine W.widen (k := 1) (n := 6) (by omega) (by omega) ?_
        exact vx_ret (g_wret (u := ()) (post := fun r _ => f_X4_plot C N v w = .inl r) (B := fun _ H => gW D A ad (Wd G ad N (C) M o) H) hx hb hr hlk hh hS (show f_X4_plot C N v w = .inl (f_X1_answer C v.toNatClampNeg w) from by rw [f_X4_plot, if_pos c_f_1, if_neg c_11_2, if_pos c_16_3]) (show gW D A ad (Wd G ad N (C) M o) Hp from hW) dX4_plot_34)
      · exact g_thr (u := ()) (px := fun _ => True) (B := fun E _ H => f_X4_plot C N v w = .inr E ∧ gW D A ad (Wd G ad N C M o) H) (E := xI) (text := "no such plot or question") hx hb hl0 hml hown hts (fun w hw => List.mem_cons_of_mem _ (List.mem_append_right _ hw)) xb_I xg_I (hts (.classLink RX4 58 "java/lang/IndexOutOfBoundsException") (List.mem_of_getElem? (i := 1) rfl)) (hts (.initialized "java/lang/IndexOutOfBoundsException") (List.mem_of_getElem? (i := 2) rfl)) hE hE.1.1 (by decide) (by decide) (by rw [hh]; exact hS) hl dX4_plot_19 dX4_plot_22 dX4_plot_23 dX4_plot_25 dX4_plot_28 hnt ⟨by decide, by decide, by decide, by decide⟩ hlk trivial (fun H1 hk9 => ⟨(show f_X4_plot C N v w = .inr xI from by rw [f_X4_plot, if_pos c_f_1, if_neg c_11_2, if_neg c_16_3]), hW.keep hk9⟩) (by decide) (by decide)
  · replace hr_1 : r_1 = none := hr_1.trans ((fe_X4_plotAt _ _ _).trans (if_neg c_f_1))
    subst r_1
    refine lv_astore_nN (lv' := [(3, .null), (0, .ref (ad 0 0)), (1, .int v), (2, .int w)]) hx hb dX4_plot_5 rfl hl (by decide) rfl (fun ls hl => ?_)
    refine lv_aload_nN hx hb dX4_plot_6 rfl (lv_at hl 0 rfl) ?_
    refine lv_ifnullN (tgt := 19) hx hb dX4_plot_7 (by decide) ?_
    exact g_thr (u := ()) (px := fun _ => True) (B := fun E _ H => f_X4_plot C N v w = .inr E ∧ gW D A ad (Wd G ad N C M o) H) (E := xI) (text := "no such plot or question") hx hb hl0 hml hown hts (fun w hw => List.mem_cons_of_mem _ (List.mem_append_right _ hw)) xb_I xg_I (hts (.classLink RX4 58 "java/lang/IndexOutOfBoundsException") (List.mem_of_getElem? (i := 1) rfl)) (hts (.initialized "java/lang/IndexOutOfBoundsException") (List.mem_of_getElem? (i := 2) rfl)) hE hE.1.1 (by decide) (by decide) (by rw [hh]; exact hS) hl dX4_plot_19 dX4_plot_22 dX4_plot_23 dX4_plot_25 dX4_plot_28 hnt ⟨by decide, by decide, by decide, by decide⟩ hlk trivial (fun H1 hk9 => ⟨(show f_X4_plot C N v w = .inr xI from by rw [f_X4_plot, if_neg c_f_1]), hW.keep hk9⟩) (by decide) (by decide)
def f_X4_told (C : gT) (N : gN) (v : Int32) (w : Int32) : Int32 ⊕ String := (if gIn v (N 3) then (if w < 0 then (Sum.inr xI) else (if w < (C 62 v.toNatClampNeg) then (Sum.inl (f_X1_numberAt C v.toNatClampNeg w)) else (Sum.inr xI))) else (Sum.inr xI))
set_option maxHeartbeats 4000000 in
set_option maxRecDepth 100000 in
theorem c_X4_told (l : Launch) (D : va_G) (G : gG) (A : Nat → Prop) (ad : gAd) (N : gN) (C M : gT) (o : Nat → Int64) (Hp : Heap) (hW : gW D A ad (Wd G ad N C M o) Hp) (hl0 : l.stackTraces = false) (hC : IC N C) (v w : Int32) : vx_Met l yX4_told wsX4_told ({ frames := 6, cells := 1, slots := 6, locals := 90 }) (va_Pc [.ref (ad 0 0), .int v, .int w] (gQX D (gTs G) Hp A)) (va_Qi (fun r (_ : Unit) => f_X4_told C N v w = .inl r) (fun _ t => gW D A ad (Wd G ad N (C) M o) t.heap) A) (vx_X (fun (_ : Unit) => True) (fun E _ t => f_X4_told C N v w = .inr E ∧ gW D A ad (Wd G ad N C M o) t.heap) A) 1 6 A := by
  refine g_startX (cc := cX4_told) (maxL := 4) (ret := (some .int)) (by decide) rfl (Nat.le_of_ble_eq_true rfl) (fun p e s m below meth c ls C0 hr hlk hh hK hE hnt hl => ?_)
  obtain ⟨hx, hb, hml, hown, hts⟩ := id C0
  have hown : s.vm.findClass RX4 = some m.cls := hown
  have hS : va_S A Hp Hp [] := va_S.rf
  have hl : lv_has ls 4 [(0, .ref (ad 0 0)), (1, .int v), (2, .int w)] := hl
  have inX1 : ∀ w ∈ wsX10, w ∈ wsX4_told := by decide +kernel
  obtain ⟨⟨hc0, hc1, hc2, hc3⟩, hNN, hCp⟩ := id hC
  have hn0 := hNN 0 (by decide)
  have hn1 := hNN 1 (by decide)
  have hn2 := hNN 2 (by decide)
  have hn3 := hNN 3 (by decide)
  refine lv_aload_n hx hb dX4_told_0 rfl (lv_at hl 0 rfl) ?_
  refine lv_iload_n hx hb dX4_told_1 rfl (lv_at hl 1 rfl) ?_
  refine g_Vq (As := [.int v]) (rest := []) C0 (c_X4_plotAt l D G A ad N C M o Hp hW hNN v) (cwV 1 hts gX4_told_X4_plotAt rfl rfl rfl (by decide +kernel) ⟨Nat.le_of_ble_eq_true rfl, Nat.le_of_ble_eq_true rfl⟩) hK (va_recv hK (hW.p rfl) (ci := 5) (q0 := 0) rfl rfl) rfl hl rfl (Nat.le_of_ble_eq_true rfl) dX4_told_2 ⟨Nat.zero_le _, Nat.zero_le _⟩ hS (fun r_1 locs hr_1 hS => ?_)
  by_cases c_f_1 : gIn v (N 3)
  · replace hr_1 : r_1 = some (ad 6 v.toNatClampNeg) := hr_1.trans ((fe_X4_plotAt _ _ _).trans (if_pos c_f_1))
    subst r_1
    have hr_1 := gIn_of (by omega) c_f_1
    refine lv_astore_n (lv' := [(3, .ref (ad 6 v.toNatClampNeg)), (0, .ref (ad 0 0)), (1, .int v), (2, .int w)]) hx hb dX4_told_5 rfl hl (by decide) rfl (fun ls hl => ?_)
    refine lv_aload_n hx hb dX4_told_6 rfl (lv_at hl 0 rfl) ?_
    refine lv_ifnull hx hb dX4_told_7 ?_
    refine lv_iload_n hx hb dX4_told_10 rfl (lv_at hl 3 rfl) ?_
    refine lv_if_lt (tgt := 22) hx hb dX4_told_11 (by decide) (fun c_11_2 => ?_) (fun c_11_2 => ?_)
    · exact g_thr (u := ()) (px := fun _ => True) (B := fun E _ H => f_X4_told C N v w = .inr E ∧ gW D A ad (Wd G ad N C M o) H) (E := xI) (text := "no such plot or place") hx hb hl0 hml hown hts (fun w hw => List.mem_cons_of_mem _ (List.mem_append_right _ hw)) xb_I xg_I (hts (.classLink RX4 58 "java/lang/IndexOutOfBoundsException") (List.mem_of_getElem? (i := 1) rfl)) (hts (.initialized "java/lang/IndexOutOfBoundsException") (List.mem_of_getElem? (i := 2) rfl)) hE hE.1.1 (by decide) (by decide) (by rw [hh]; exact hS) hl dX4_told_22 dX4_told_25 dX4_told_26 dX4_told_28 dX4_told_31 hnt ⟨by decide, by decide, by decide, by decide⟩ hlk trivial (fun H1 hk9 => ⟨(show f_X4_told C N v w = .inr xI from by rw [f_X4_told, if_pos c_f_1, if_pos c_11_2]), hW.keep hk9⟩) (by decide) (by decide)
    · refine lv_iload_n hx hb dX4_told_14 rfl (lv_at hl 3 rfl) ?_
      refine lv_aload_n hx hb dX4_told_15 rfl (lv_at hl 0 rfl) ?_
      refine va_get (D := D) (ci := 2) (v := .int (C 62 v.toNatClampNeg)) (C := RX1) (T := TX1) (N := 6) hx hb hts inX1 hown hK (hW.p (e := (ePl ad C v.toNatClampNeg)) (Wd_Pl hr_1.2)) 0 rfl rfl 2 (by decide) (hts (.fieldLink RX4 202 "StoryToll$Plot" "length" "I") (List.mem_of_getElem? (i := 3) rfl)) (fun _ h9 => h9) rfl dX4_told_16 ?_
      refine lv_icmp_lt (tgt := 32) hx hb dX4_told_19 (by decide) (fun c_19_3 => ?_) (fun c_19_3 => ?_)
      · refine lv_aload_n hx hb dX4_told_32 rfl (lv_at hl 0 rfl) ?_
        refine lv_iload_n hx hb dX4_told_33 rfl (lv_at hl 3 rfl) ?_
        refine g_Vi (As := [.int w]) (rest := []) C0 (c_X1_numberAt l D G A ad N C M o Hp hW v.toNatClampNeg hr_1.2 w) (cwV 1 hts gX4_told_X1_numberAt rfl rfl rfl (by decide +kernel) ⟨Nat.le_of_ble_eq_true rfl, Nat.le_of_ble_eq_true rfl⟩) hK (va_recv hK (hW.p (Wd_Pl hr_1.2)) (ci := 2) (q0 := 0) rfl rfl) rfl hl rfl (Nat.le_of_ble_eq_true rfl) dX4_told_34 ⟨Nat.zero_le _, Nat.zero_le _⟩ hS (fun r_5 locs hr_5 hS => ?_)
        replace hr_5 : r_5 = (f_X1_numberAt C v.toNatClampNeg w) := hr_5
        subst r_5
        refine W.widen (k := 1) (n := 6) (by omega) (by omega) ?_
        exact vx_ret (g_wret (u := ()) (post := fun r _ => f_X4_told C N v w = .inl r) (B := fun _ H => gW D A ad (Wd G ad N (C) M o) H) hx hb hr hlk hh hS (show f_X4_told C N v w = .inl (f_X1_numberAt C v.toNatClampNeg w) from by rw [f_X4_told, if_pos c_f_1, if_neg c_11_2, if_pos c_19_3]) (show gW D A ad (Wd G ad N (C) M o) Hp from hW) dX4_told_37)
      · exact g_thr (u := ()) (px := fun _ => True) (B := fun E _ H => f_X4_told C N v w = .inr E ∧ gW D A ad (Wd G ad N C M o) H) (E := xI) (text := "no such plot or place") hx hb hl0 hml hown hts (fun w hw => List.mem_cons_of_mem _ (List.mem_append_right _ hw)) xb_I xg_I (hts (.classLink RX4 58 "java/lang/IndexOutOfBoundsException") (List.mem_of_getElem? (i := 1) rfl)) (hts (.initialized "java/lang/IndexOutOfBoundsException") (List.mem_of_getElem? (i := 2) rfl)) hE hE.1.1 (by decide) (by decide) (by rw [hh]; exact hS) hl dX4_told_22 dX4_told_25 dX4_told_26 dX4_told_28 dX4_told_31 hnt ⟨by decide, by decide, by decide, by decide⟩ hlk trivial (fun H1 hk9 => ⟨(show f_X4_told C N v w = .inr xI from by rw [f_X4_told, if_pos c_f_1, if_neg c_11_2, if_neg c_19_3]), hW.keep hk9⟩) (by decide) (by decide)
  · replace hr_1 : r_1 = none := hr_1.trans ((fe_X4_plotAt _ _ _).trans (if_neg c_f_1))
    subst r_1
    refine lv_astore_nN (lv' := [(3, .null), (0, .ref (ad 0 0)), (1, .int v), (2, .int w)]) hx hb dX4_told_5 rfl hl (by decide) rfl (fun ls hl => ?_)
    refine lv_aload_nN hx hb dX4_told_6 rfl (lv_at hl 0 rfl) ?_
    refine lv_ifnullN (tgt := 22) hx hb dX4_told_7 (by decide) ?_
    exact g_thr (u := ()) (px := fun _ => True) (B := fun E _ H => f_X4_told C N v w = .inr E ∧ gW D A ad (Wd G ad N C M o) H) (E := xI) (text := "no such plot or place") hx hb hl0 hml hown hts (fun w hw => List.mem_cons_of_mem _ (List.mem_append_right _ hw)) xb_I xg_I (hts (.classLink RX4 58 "java/lang/IndexOutOfBoundsException") (List.mem_of_getElem? (i := 1) rfl)) (hts (.initialized "java/lang/IndexOutOfBoundsException") (List.mem_of_getElem? (i := 2) rfl)) hE hE.1.1 (by decide) (by decide) (by rw [hh]; exact hS) hl dX4_told_22 dX4_told_25 dX4_told_26 dX4_told_28 dX4_told_31 hnt ⟨by decide, by decide, by decide, by decide⟩ hlk trivial (fun H1 hk9 => ⟨(show f_X4_told C N v w = .inr xI from by rw [f_X4_told, if_neg c_f_1]), hW.keep hk9⟩) (by decide) (by decide)
def f_X4_count (C : gT) (N : gN) (v : Int32) : Int32 ⊕ String := (if v < 0 then (Sum.inr xI) else (if v ≤ 10 then (Sum.inl (f_X4_answerOfGate C N v)) else (Sum.inr xI)))
set_option maxHeartbeats 4000000 in
set_option maxRecDepth 100000 in
theorem c_X4_count (l : Launch) (D : va_G) (G : gG) (A : Nat → Prop) (ad : gAd) (N : gN) (C M : gT) (o : Nat → Int64) (Hp : Heap) (hW : gW D A ad (Wd G ad N C M o) Hp) (hl0 : l.stackTraces = false) (hC : IC N C) (v : Int32) : vx_Met l yX4_count wsX4_count ({ frames := 6, cells := 1, slots := 6, locals := 108 }) (va_Pc [.ref (ad 0 0), .int v] (gQX D (gTs G) Hp A)) (va_Qi (fun r (_ : Unit) => f_X4_count C N v = .inl r) (fun _ t => gW D A ad (Wd G ad N (C) M o) t.heap) A) (vx_X (fun (_ : Unit) => True) (fun E _ t => f_X4_count C N v = .inr E ∧ gW D A ad (Wd G ad N C M o) t.heap) A) 1 6 A := by
  refine g_startX (cc := cX4_count) (maxL := 2) (ret := (some .int)) (by decide) rfl (Nat.le_of_ble_eq_true rfl) (fun p e s m below meth c ls C0 hr hlk hh hK hE hnt hl => ?_)
  obtain ⟨hx, hb, hml, hown, hts⟩ := id C0
  have hown : s.vm.findClass RX4 = some m.cls := hown
  have hS : va_S A Hp Hp [] := va_S.rf
  have hl : lv_has ls 2 [(0, .ref (ad 0 0)), (1, .int v)] := hl
  obtain ⟨⟨hc0, hc1, hc2, hc3⟩, hNN, hCp⟩ := id hC
  have hn0 := hNN 0 (by decide)
  have hn1 := hNN 1 (by decide)
  have hn2 := hNN 2 (by decide)
  have hn3 := hNN 3 (by decide)
  refine lv_iload_n hx hb dX4_count_0 rfl (lv_at hl 1 rfl) ?_
  refine lv_if_lt (tgt := 10) hx hb dX4_count_1 (by decide) (fun c_1_0 => ?_) (fun c_1_0 => ?_)
  · exact g_thr (u := ()) (px := fun _ => True) (B := fun E _ H => f_X4_count C N v = .inr E ∧ gW D A ad (Wd G ad N C M o) H) (E := xI) (text := "no such question") hx hb hl0 hml hown hts (fun w hw => List.mem_cons_of_mem _ (List.mem_append_right _ hw)) xb_I xg_I (hts (.classLink RX4 58 "java/lang/IndexOutOfBoundsException") (List.mem_of_getElem? (i := 1) rfl)) (hts (.initialized "java/lang/IndexOutOfBoundsException") (List.mem_of_getElem? (i := 2) rfl)) hE hE.1.1 (by decide) (by decide) (by rw [hh]; exact hS) hl dX4_count_10 dX4_count_13 dX4_count_14 dX4_count_16 dX4_count_19 hnt ⟨by decide, by decide, by decide, by decide⟩ hlk trivial (fun H1 hk9 => ⟨(show f_X4_count C N v = .inr xI from by rw [f_X4_count, if_pos c_1_0]), hW.keep hk9⟩) (by decide) (by decide)
  · refine lv_iload_n hx hb dX4_count_4 rfl (lv_at hl 1 rfl) ?_
    refine lv_bipush (v := 10) hx hb dX4_count_5 (by decide) ?_
    refine lv_icmp_le (tgt := 20) hx hb dX4_count_7 (by decide) (fun c_7_1 => ?_) (fun c_7_1 => ?_)
    · refine lv_aload_n hx hb dX4_count_20 rfl (lv_at hl 0 rfl) ?_
      refine lv_iload_n hx hb dX4_count_21 rfl (lv_at hl 1 rfl) ?_
      refine g_Vi (As := [.int v]) (rest := []) C0 (c_X4_answerOfGate l D G A ad N C M o Hp hW hC v) (cwV 1 hts gX4_count_X4_answerOfGate rfl rfl rfl (by decide +kernel) ⟨Nat.le_of_ble_eq_true rfl, Nat.le_of_ble_eq_true rfl⟩) hK (va_recv hK (hW.p rfl) (ci := 5) (q0 := 0) rfl rfl) rfl hl rfl (Nat.le_of_ble_eq_true rfl) dX4_count_22 ⟨Nat.zero_le _, Nat.zero_le _⟩ hS (fun r_3 locs hr_3 hS => ?_)
      replace hr_3 : r_3 = (f_X4_answerOfGate C N v) := hr_3
      subst r_3
      refine W.widen (k := 1) (n := 6) (by omega) (by omega) ?_
      exact vx_ret (g_wret (u := ()) (post := fun r _ => f_X4_count C N v = .inl r) (B := fun _ H => gW D A ad (Wd G ad N (C) M o) H) hx hb hr hlk hh hS (show f_X4_count C N v = .inl (f_X4_answerOfGate C N v) from by rw [f_X4_count, if_neg c_1_0, if_pos c_7_1]) (show gW D A ad (Wd G ad N (C) M o) Hp from hW) dX4_count_25)
    · exact g_thr (u := ()) (px := fun _ => True) (B := fun E _ H => f_X4_count C N v = .inr E ∧ gW D A ad (Wd G ad N C M o) H) (E := xI) (text := "no such question") hx hb hl0 hml hown hts (fun w hw => List.mem_cons_of_mem _ (List.mem_append_right _ hw)) xb_I xg_I (hts (.classLink RX4 58 "java/lang/IndexOutOfBoundsException") (List.mem_of_getElem? (i := 1) rfl)) (hts (.initialized "java/lang/IndexOutOfBoundsException") (List.mem_of_getElem? (i := 2) rfl)) hE hE.1.1 (by decide) (by decide) (by rw [hh]; exact hS) hl dX4_count_10 dX4_count_13 dX4_count_14 dX4_count_16 dX4_count_19 hnt ⟨by decide, by decide, by decide, by decide⟩ hlk trivial (fun H1 hk9 => ⟨(show f_X4_count C N v = .inr xI from by rw [f_X4_count, if_neg c_1_0, if_neg c_7_1]), hW.keep hk9⟩) (by decide) (by decide)
def f_X4_worth (C : gT) (N : gN) (v : Int32) (w : Int32) : Int32 ⊕ String := (if gIn v (N 1) then (if gIn w (N 0) then (Sum.inl (f_X0_worthOf C v.toNatClampNeg w.toNatClampNeg (C 0 8))) else (Sum.inr xI)) else (if gIn w (N 0) then (Sum.inr xI) else (Sum.inr xI)))
set_option maxHeartbeats 4000000 in
set_option maxRecDepth 100000 in
theorem c_X4_worth (l : Launch) (D : va_G) (G : gG) (A : Nat → Prop) (ad : gAd) (N : gN) (C M : gT) (o : Nat → Int64) (Hp : Heap) (hW : gW D A ad (Wd G ad N C M o) Hp) (hl0 : l.stackTraces = false) (hC : IC N C) (v w : Int32) : vx_Met l yX4_worth wsX4_worth ({ frames := 6, cells := 1, slots := 6, locals := 90 }) (va_Pc [.ref (ad 0 0), .int v, .int w] (gQX D (gTs G) Hp A)) (va_Qi (fun r (_ : Unit) => f_X4_worth C N v w = .inl r) (fun _ t => gW D A ad (Wd G ad N (C) M o) t.heap) A) (vx_X (fun (_ : Unit) => True) (fun E _ t => f_X4_worth C N v w = .inr E ∧ gW D A ad (Wd G ad N C M o) t.heap) A) 1 6 A := by
  refine g_startX (cc := cX4_worth) (maxL := 5) (ret := (some .int)) (by decide) rfl (Nat.le_of_ble_eq_true rfl) (fun p e s m below meth c ls C0 hr hlk hh hK hE hnt hl => ?_)
  obtain ⟨hx, hb, hml, hown, hts⟩ := id C0
  have hown : s.vm.findClass RX4 = some m.cls := hown
  have hS : va_S A Hp Hp [] := va_S.rf
  have hl : lv_has ls 5 [(0, .ref (ad 0 0)), (1, .int v), (2, .int w)] := hl
  have inX4 : ∀ w ∈ wsX40, w ∈ wsX4_worth := by decide +kernel
  obtain ⟨⟨hc0, hc1, hc2, hc3⟩, hNN, hCp⟩ := id hC
  have hn0 := hNN 0 (by decide)
  have hn1 := hNN 1 (by decide)
  have hn2 := hNN 2 (by decide)
  have hn3 := hNN 3 (by decide)
  refine lv_aload_n hx hb dX4_worth_0 rfl (lv_at hl 0 rfl) ?_
  refine lv_iload_n hx hb dX4_worth_1 rfl (lv_at hl 1 rfl) ?_
  refine g_Vq (As := [.int v]) (rest := []) C0 (c_X4_guardAt l D G A ad N C M o Hp hW hNN v) (cwV 1 hts gX4_worth_X4_guardAt rfl rfl rfl (by decide +kernel) ⟨Nat.le_of_ble_eq_true rfl, Nat.le_of_ble_eq_true rfl⟩) hK (va_recv hK (hW.p rfl) (ci := 5) (q0 := 0) rfl rfl) rfl hl rfl (Nat.le_of_ble_eq_true rfl) dX4_worth_2 ⟨Nat.zero_le _, Nat.zero_le _⟩ hS (fun r_1 locs hr_1 hS => ?_)
  by_cases c_f_1 : gIn v (N 1)
  · replace hr_1 : r_1 = some (ad 4 v.toNatClampNeg) := hr_1.trans ((fe_X4_guardAt _ _ _).trans (if_pos c_f_1))
    subst r_1
    have hr_1 := gIn_of (by omega) c_f_1
    refine lv_astore_n (lv' := [(3, .ref (ad 4 v.toNatClampNeg)), (0, .ref (ad 0 0)), (1, .int v), (2, .int w)]) hx hb dX4_worth_5 rfl hl (by decide) rfl (fun ls hl => ?_)
    refine lv_aload_n hx hb dX4_worth_6 rfl (lv_at hl 1 rfl) ?_
    refine lv_iload_n hx hb dX4_worth_7 rfl (lv_at hl 3 rfl) ?_
    refine g_Vq (As := [.int w]) (rest := []) C0 (c_X4_sceneAt l D G A ad N C M o Hp hW hNN w) (cwV 1 hts gX4_worth_X4_sceneAt rfl rfl rfl (by decide +kernel) ⟨Nat.le_of_ble_eq_true rfl, Nat.le_of_ble_eq_true rfl⟩) hK (va_recv hK (hW.p rfl) (ci := 5) (q0 := 0) rfl rfl) rfl hl rfl (Nat.le_of_ble_eq_true rfl) dX4_worth_8 ⟨Nat.zero_le _, Nat.zero_le _⟩ hS (fun r_3 locs hr_3 hS => ?_)
    by_cases c_f_3 : gIn w (N 0)
    · replace hr_3 : r_3 = some (ad 3 w.toNatClampNeg) := hr_3.trans ((fe_X4_sceneAt _ _ _).trans (if_pos c_f_3))
      subst r_3
      have hr_3 := gIn_of (by omega) c_f_3
      refine lv_astore (lv' := [(4, .ref (ad 3 w.toNatClampNeg)), (3, .ref (ad 4 v.toNatClampNeg)), (0, .ref (ad 0 0)), (1, .int v), (2, .int w)]) hx hb dX4_worth_11 hl (by decide) rfl (fun ls hl => ?_)
      refine lv_aload_n hx hb dX4_worth_13 rfl (lv_at hl 1 rfl) ?_
      refine lv_ifnull hx hb dX4_worth_14 ?_
      refine lv_aload hx hb dX4_worth_17 (lv_at hl 0 rfl) ?_
      refine lv_ifnonnull (tgt := 32) hx hb dX4_worth_19 (by decide) ?_
      refine lv_aload_n hx hb dX4_worth_32 rfl (lv_at hl 1 rfl) ?_
      refine lv_aload hx hb dX4_worth_33 (lv_at hl 0 rfl) ?_
      refine lv_aload_n hx hb dX4_worth_35 rfl (lv_at hl 2 rfl) ?_
      refine va_get (D := D) (ci := 5) (v := .int (C 0 8)) (C := RX4) (T := TX4) (N := 9) hx hb hts inX4 hown hK (hW.p (e := (eToll ad C)) rfl) 0 rfl rfl 8 (by decide) (hts (.fieldLink RX4 25 "StoryToll" "hueBefore" "I") (List.mem_of_getElem? (i := 3) rfl)) (fun _ h9 => h9) rfl dX4_worth_36 ?_
      refine g_Vi (As := [.ref (ad 3 w.toNatClampNeg), .int (C 0 8)]) (rest := []) C0 (c_X0_worthOf l D G A ad N C M o Hp hW v.toNatClampNeg hr_1.2 w.toNatClampNeg hr_3.2 (C 0 8)) (cwV 2 hts gX4_worth_X0_worthOf rfl rfl rfl (by decide +kernel) ⟨Nat.le_of_ble_eq_true rfl, Nat.le_of_ble_eq_true rfl⟩) hK (va_recv hK (hW.p (Wd_Gd hr_1.2)) (ci := 1) (q0 := 0) rfl rfl) rfl hl rfl (Nat.le_of_ble_eq_true rfl) dX4_worth_39 ⟨Nat.zero_le _, Nat.zero_le _⟩ hS (fun r_5 locs hr_5 hS => ?_)
      replace hr_5 : r_5 = (f_X0_worthOf C v.toNatClampNeg w.toNatClampNeg (C 0 8)) := hr_5
      subst r_5
      refine W.widen (k := 1) (n := 6) (by omega) (by omega) ?_
      exact vx_ret (g_wret (u := ()) (post := fun r _ => f_X4_worth C N v w = .inl r) (B := fun _ H => gW D A ad (Wd G ad N (C) M o) H) hx hb hr hlk hh hS (show f_X4_worth C N v w = .inl (f_X0_worthOf C v.toNatClampNeg w.toNatClampNeg (C 0 8)) from by rw [f_X4_worth, if_pos c_f_1, if_pos c_f_3]) (show gW D A ad (Wd G ad N (C) M o) Hp from hW) dX4_worth_42)
    · replace hr_3 : r_3 = none := hr_3.trans ((fe_X4_sceneAt _ _ _).trans (if_neg c_f_3))
      subst r_3
      refine lv_astoreN (lv' := [(4, .null), (3, .ref (ad 4 v.toNatClampNeg)), (0, .ref (ad 0 0)), (1, .int v), (2, .int w)]) hx hb dX4_worth_11 hl (by decide) rfl (fun ls hl => ?_)
      refine lv_aload_n hx hb dX4_worth_13 rfl (lv_at hl 1 rfl) ?_
      refine lv_ifnull hx hb dX4_worth_14 ?_
      refine lv_aloadN hx hb dX4_worth_17 (lv_at hl 0 rfl) ?_
      refine lv_ifnonnullN hx hb dX4_worth_19 ?_
      exact g_thr (u := ()) (px := fun _ => True) (B := fun E _ H => f_X4_worth C N v w = .inr E ∧ gW D A ad (Wd G ad N C M o) H) (E := xI) (text := "no such guard or scene") hx hb hl0 hml hown hts (fun w hw => List.mem_cons_of_mem _ (List.mem_append_right _ hw)) xb_I xg_I (hts (.classLink RX4 58 "java/lang/IndexOutOfBoundsException") (List.mem_of_getElem? (i := 1) rfl)) (hts (.initialized "java/lang/IndexOutOfBoundsException") (List.mem_of_getElem? (i := 2) rfl)) hE hE.1.1 (by decide) (by decide) (by rw [hh]; exact hS) hl dX4_worth_22 dX4_worth_25 dX4_worth_26 dX4_worth_28 dX4_worth_31 hnt ⟨by decide, by decide, by decide, by decide⟩ hlk trivial (fun H1 hk9 => ⟨(show f_X4_worth C N v w = .inr xI from by rw [f_X4_worth, if_pos c_f_1, if_neg c_f_3]), hW.keep hk9⟩) (by decide) (by decide)
  · replace hr_1 : r_1 = none := hr_1.trans ((fe_X4_guardAt _ _ _).trans (if_neg c_f_1))
    subst r_1
    refine lv_astore_nN (lv' := [(3, .null), (0, .ref (ad 0 0)), (1, .int v), (2, .int w)]) hx hb dX4_worth_5 rfl hl (by decide) rfl (fun ls hl => ?_)
    refine lv_aload_n hx hb dX4_worth_6 rfl (lv_at hl 1 rfl) ?_
    refine lv_iload_n hx hb dX4_worth_7 rfl (lv_at hl 3 rfl) ?_
    refine g_Vq (As := [.int w]) (rest := []) C0 (c_X4_sceneAt l D G A ad N C M o Hp hW hNN w) (cwV 1 hts gX4_worth_X4_sceneAt rfl rfl rfl (by decide +kernel) ⟨Nat.le_of_ble_eq_true rfl, Nat.le_of_ble_eq_true rfl⟩) hK (va_recv hK (hW.p rfl) (ci := 5) (q0 := 0) rfl rfl) rfl hl rfl (Nat.le_of_ble_eq_true rfl) dX4_worth_8 ⟨Nat.zero_le _, Nat.zero_le _⟩ hS (fun r_6 locs hr_6 hS => ?_)
    by_cases c_f_6 : gIn w (N 0)
    · replace hr_6 : r_6 = some (ad 3 w.toNatClampNeg) := hr_6.trans ((fe_X4_sceneAt _ _ _).trans (if_pos c_f_6))
      subst r_6
      have hr_6 := gIn_of (by omega) c_f_6
      refine lv_astore (lv' := [(4, .ref (ad 3 w.toNatClampNeg)), (3, .null), (0, .ref (ad 0 0)), (1, .int v), (2, .int w)]) hx hb dX4_worth_11 hl (by decide) rfl (fun ls hl => ?_)
      refine lv_aload_nN hx hb dX4_worth_13 rfl (lv_at hl 1 rfl) ?_
      refine lv_ifnullN (tgt := 22) hx hb dX4_worth_14 (by decide) ?_
      exact g_thr (u := ()) (px := fun _ => True) (B := fun E _ H => f_X4_worth C N v w = .inr E ∧ gW D A ad (Wd G ad N C M o) H) (E := xI) (text := "no such guard or scene") hx hb hl0 hml hown hts (fun w hw => List.mem_cons_of_mem _ (List.mem_append_right _ hw)) xb_I xg_I (hts (.classLink RX4 58 "java/lang/IndexOutOfBoundsException") (List.mem_of_getElem? (i := 1) rfl)) (hts (.initialized "java/lang/IndexOutOfBoundsException") (List.mem_of_getElem? (i := 2) rfl)) hE hE.1.1 (by decide) (by decide) (by rw [hh]; exact hS) hl dX4_worth_22 dX4_worth_25 dX4_worth_26 dX4_worth_28 dX4_worth_31 hnt ⟨by decide, by decide, by decide, by decide⟩ hlk trivial (fun H1 hk9 => ⟨(show f_X4_worth C N v w = .inr xI from by rw [f_X4_worth, if_neg c_f_1, if_pos c_f_6]), hW.keep hk9⟩) (by decide) (by decide)
    · replace hr_6 : r_6 = none := hr_6.trans ((fe_X4_sceneAt _ _ _).trans (if_neg c_f_6))
      subst r_6
      refine lv_astoreN (lv' := [(4, .null), (3, .null), (0, .ref (ad 0 0)), (1, .int v), (2, .int w)]) hx hb dX4_worth_11 hl (by decide) rfl (fun ls hl => ?_)
      refine lv_aload_nN hx hb dX4_worth_13 rfl (lv_at hl 1 rfl) ?_
      refine lv_ifnullN (tgt := 22) hx hb dX4_worth_14 (by decide) ?_
      exact g_thr (u := ()) (px := fun _ => True) (B := fun E _ H => f_X4_worth C N v w = .inr E ∧ gW D A ad (Wd G ad N C M o) H) (E := xI) (text := "no such guard or scene") hx hb hl0 hml hown hts (fun w hw => List.mem_cons_of_mem _ (List.mem_append_right _ hw)) xb_I xg_I (hts (.classLink RX4 58 "java/lang/IndexOutOfBoundsException") (List.mem_of_getElem? (i := 1) rfl)) (hts (.initialized "java/lang/IndexOutOfBoundsException") (List.mem_of_getElem? (i := 2) rfl)) hE hE.1.1 (by decide) (by decide) (by rw [hh]; exact hS) hl dX4_worth_22 dX4_worth_25 dX4_worth_26 dX4_worth_28 dX4_worth_31 hnt ⟨by decide, by decide, by decide, by decide⟩ hlk trivial (fun H1 hk9 => ⟨(show f_X4_worth C N v w = .inr xI from by rw [f_X4_worth, if_neg c_f_1, if_neg c_f_6]), hW.keep hk9⟩) (by decide) (by decide)
def f_X4_sleeps (C : gT) (N : gN) (v : Int32) : Int32 ⊕ String := (if gIn v (N 1) then (Sum.inl (f_X0_watchesTillOtherwise C v.toNatClampNeg)) else (Sum.inr xI))
set_option maxHeartbeats 4000000 in
set_option maxRecDepth 100000 in
theorem c_X4_sleeps (l : Launch) (D : va_G) (G : gG) (A : Nat → Prop) (ad : gAd) (N : gN) (C M : gT) (o : Nat → Int64) (Hp : Heap) (hW : gW D A ad (Wd G ad N C M o) Hp) (hl0 : l.stackTraces = false) (hC : IC N C) (v : Int32) : vx_Met l yX4_sleeps wsX4_sleeps ({ frames := 6, cells := 1, slots := 6, locals := 90 }) (va_Pc [.ref (ad 0 0), .int v] (gQX D (gTs G) Hp A)) (va_Qi (fun r (_ : Unit) => f_X4_sleeps C N v = .inl r) (fun _ t => gW D A ad (Wd G ad N (C) M o) t.heap) A) (vx_X (fun (_ : Unit) => True) (fun E _ t => f_X4_sleeps C N v = .inr E ∧ gW D A ad (Wd G ad N C M o) t.heap) A) 1 6 A := by
  refine g_startX (cc := cX4_sleeps) (maxL := 3) (ret := (some .int)) (by decide) rfl (Nat.le_of_ble_eq_true rfl) (fun p e s m below meth c ls C0 hr hlk hh hK hE hnt hl => ?_)
  obtain ⟨hx, hb, hml, hown, hts⟩ := id C0
  have hown : s.vm.findClass RX4 = some m.cls := hown
  have hS : va_S A Hp Hp [] := va_S.rf
  have hl : lv_has ls 3 [(0, .ref (ad 0 0)), (1, .int v)] := hl
  obtain ⟨⟨hc0, hc1, hc2, hc3⟩, hNN, hCp⟩ := id hC
  have hn0 := hNN 0 (by decide)
  have hn1 := hNN 1 (by decide)
  have hn2 := hNN 2 (by decide)
  have hn3 := hNN 3 (by decide)
  refine lv_aload_n hx hb dX4_sleeps_0 rfl (lv_at hl 0 rfl) ?_
  refine lv_iload_n hx hb dX4_sleeps_1 rfl (lv_at hl 1 rfl) ?_
  refine g_Vq (As := [.int v]) (rest := []) C0 (c_X4_guardAt l D G A ad N C M o Hp hW hNN v) (cwV 1 hts gX4_sleeps_X4_guardAt rfl rfl rfl (by decide +kernel) ⟨Nat.le_of_ble_eq_true rfl, Nat.le_of_ble_eq_true rfl⟩) hK (va_recv hK (hW.p rfl) (ci := 5) (q0 := 0) rfl rfl) rfl hl rfl (Nat.le_of_ble_eq_true rfl) dX4_sleeps_2 ⟨Nat.zero_le _, Nat.zero_le _⟩ hS (fun r_1 locs hr_1 hS => ?_)
  by_cases c_f_1 : gIn v (N 1)
  · replace hr_1 : r_1 = some (ad 4 v.toNatClampNeg) := hr_1.trans ((fe_X4_guardAt _ _ _).trans (if_pos c_f_1))
    subst r_1
    have hr_1 := gIn_of (by omega) c_f_1
    refine lv_astore_n (lv' := [(2, .ref (ad 4 v.toNatClampNeg)), (0, .ref (ad 0 0)), (1, .int v)]) hx hb dX4_sleeps_5 rfl hl (by decide) rfl (fun ls hl => ?_)
    refine lv_aload_n hx hb dX4_sleeps_6 rfl (lv_at hl 0 rfl) ?_
    refine lv_ifnonnull (tgt := 20) hx hb dX4_sleeps_7 (by decide) ?_
    refine lv_aload_n hx hb dX4_sleeps_20 rfl (lv_at hl 0 rfl) ?_
    refine g_Vi (As := []) (rest := []) C0 (c_X0_watchesTillOtherwise l D G A ad N C M o Hp hW v.toNatClampNeg hr_1.2) (cwV 0 hts gX4_sleeps_X0_watchesTillOtherwise rfl rfl rfl (by decide +kernel) ⟨Nat.le_of_ble_eq_true rfl, Nat.le_of_ble_eq_true rfl⟩) hK (va_recv hK (hW.p (Wd_Gd hr_1.2)) (ci := 1) (q0 := 0) rfl rfl) rfl hl rfl (Nat.le_of_ble_eq_true rfl) dX4_sleeps_21 ⟨Nat.zero_le _, Nat.zero_le _⟩ hS (fun r_3 locs hr_3 hS => ?_)
    replace hr_3 : r_3 = (f_X0_watchesTillOtherwise C v.toNatClampNeg) := hr_3
    subst r_3
    refine W.widen (k := 1) (n := 6) (by omega) (by omega) ?_
    exact vx_ret (g_wret (u := ()) (post := fun r _ => f_X4_sleeps C N v = .inl r) (B := fun _ H => gW D A ad (Wd G ad N (C) M o) H) hx hb hr hlk hh hS (show f_X4_sleeps C N v = .inl (f_X0_watchesTillOtherwise C v.toNatClampNeg) from by rw [f_X4_sleeps, if_pos c_f_1]) (show gW D A ad (Wd G ad N (C) M o) Hp from hW) dX4_sleeps_24)
  · replace hr_1 : r_1 = none := hr_1.trans ((fe_X4_guardAt _ _ _).trans (if_neg c_f_1))
    subst r_1
    refine lv_astore_nN (lv' := [(2, .null), (0, .ref (ad 0 0)), (1, .int v)]) hx hb dX4_sleeps_5 rfl hl (by decide) rfl (fun ls hl => ?_)
    refine lv_aload_nN hx hb dX4_sleeps_6 rfl (lv_at hl 0 rfl) ?_
    refine lv_ifnonnullN hx hb dX4_sleeps_7 ?_
    exact g_thr (u := ()) (px := fun _ => True) (B := fun E _ H => f_X4_sleeps C N v = .inr E ∧ gW D A ad (Wd G ad N C M o) H) (E := xI) (text := "no such guard") hx hb hl0 hml hown hts (fun w hw => List.mem_cons_of_mem _ (List.mem_append_right _ hw)) xb_I xg_I (hts (.classLink RX4 58 "java/lang/IndexOutOfBoundsException") (List.mem_of_getElem? (i := 1) rfl)) (hts (.initialized "java/lang/IndexOutOfBoundsException") (List.mem_of_getElem? (i := 2) rfl)) hE hE.1.1 (by decide) (by decide) (by rw [hh]; exact hS) hl dX4_sleeps_10 dX4_sleeps_13 dX4_sleeps_14 dX4_sleeps_16 dX4_sleeps_19 hnt ⟨by decide, by decide, by decide, by decide⟩ hlk trivial (fun H1 hk9 => ⟨(show f_X4_sleeps C N v = .inr xI from by rw [f_X4_sleeps, if_neg c_f_1]), hW.keep hk9⟩) (by decide) (by decide)
