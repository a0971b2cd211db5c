/-! THE REFERENCE: methods that only read -/
def f_X5_isIn (v : Int32) (lo : Int32) (hi : Int32) : Int32 := (if v < lo then 0 else (if hi < v then 0 else 1))
set_option maxHeartbeats 4000000 in
set_option maxRecDepth 100000 in
theorem c_X5_isIn (l : Launch) (D : va_G) (G : gG) (Hp : Heap) (v lo hi : Int32) : Met l yX5_isIn wsX5_isIn ({ frames := 0, cells := 0, slots := 0, locals := 0 }) (va_Pc [.int v, .int lo, .int hi] (gQ D (gTs G) Hp)) (gRi (fun r => r = f_X5_isIn v lo hi) Hp) 0 0 gF := by
  refine g_start (cc := cX5_isIn) (maxL := 3) (ret := (some .boolean)) (by decide) rfl (Nat.le_of_ble_eq_true rfl) (fun p e s m below meth c ls C0 hr hlk hnm hh hK hl => ?_)
  obtain ⟨hx, hb, hml, hown, hts⟩ := id C0
  have hown : s.vm.findClass RX5 = some m.cls := hown
  have hS : va_S gF Hp Hp [] := va_S.rf
  have hl : lv_has ls 3 [(0, .int v), (1, .int lo), (2, .int hi)] := hl
  refine lv_iload_n hx hb dX5_isIn_0 rfl (lv_at hl 0 rfl) ?_
  refine lv_iload_n hx hb dX5_isIn_1 rfl (lv_at hl 1 rfl) ?_
  refine lv_icmp_lt (tgt := 14) hx hb dX5_isIn_2 (by decide) (fun c_2_0 => ?_) (fun c_2_0 => ?_)
  · refine lv_iconst (v := 0) hx hb dX5_isIn_14 (by decide) ?_
    exact g_zret hx hb hr hlk hh hS (Or.inl rfl) (show 0 = f_X5_isIn v lo hi from by rw [f_X5_isIn, if_pos c_2_0]) dX5_isIn_15
  · refine lv_iload_n hx hb dX5_isIn_5 rfl (lv_at hl 0 rfl) ?_
    refine lv_iload_n hx hb dX5_isIn_6 rfl (lv_at hl 2 rfl) ?_
    refine lv_icmp_gt (tgt := 14) hx hb dX5_isIn_7 (by decide) (fun c_7_1 => ?_) (fun c_7_1 => ?_)
    · refine lv_iconst (v := 0) hx hb dX5_isIn_14 (by decide) ?_
      exact g_zret hx hb hr hlk hh hS (Or.inl rfl) (show 0 = f_X5_isIn v lo hi from by rw [f_X5_isIn, if_neg c_2_0, if_pos c_7_1]) dX5_isIn_15
    · refine lv_iconst (v := 1) hx hb dX5_isIn_10 (by decide) ?_
      refine lv_goto (tgt := 15) hx hb dX5_isIn_11 (by decide) ?_
      exact g_zret hx hb hr hlk hh hS (Or.inr rfl) (show 1 = f_X5_isIn v lo hi from by rw [f_X5_isIn, if_neg c_2_0, if_neg c_7_1]) dX5_isIn_15
theorem zo_isIn (v lo hi : Int32) : f_X5_isIn v lo hi = 0 ∨ f_X5_isIn v lo hi = 1 := by
  unfold f_X5_isIn
  repeat (first | exact Or.inl rfl | exact Or.inr rfl | split)
def f_X5_isScene (M : gT) (v : Int32) : Int32 := (f_X5_isIn v 0 ((M 2 0) - 1))
set_option maxHeartbeats 4000000 in
set_option maxRecDepth 100000 in
theorem c_X5_isScene (l : Launch) (D : va_G) (G : gG) (A : Nat → Prop) (ad : gAd) (N : gN) (C M : gT) (o : Nat → Int64) (Hp : Heap) (hW : gW D A ad (Wd G ad N C M o) Hp) (v : Int32) : Met l yX5_isScene wsX5_isScene ({ frames := 1, cells := 0, slots := 0, locals := 22 }) (va_Pc [.ref (ad 0 1), .int v] (gQ D (gTs G) Hp)) (gRi (fun r => r = f_X5_isScene M v) Hp) 0 0 gF := by
  refine g_start (cc := cX5_isScene) (maxL := 2) (ret := (some .boolean)) (by decide) rfl (Nat.le_of_ble_eq_true rfl) (fun p e s m below meth c ls C0 hr hlk hnm hh hK hl => ?_)
  obtain ⟨hx, hb, hml, hown, hts⟩ := id C0
  have hown : s.vm.findClass RX5 = some m.cls := hown
  have hS : va_S gF Hp Hp [] := va_S.rf
  have hl : lv_has ls 2 [(0, .ref (ad 0 1)), (1, .int v)] := hl
  have inX5 : ∀ w ∈ wsX50, w ∈ wsX5_isScene := by decide +kernel
  refine lv_iload_n hx hb dX5_isScene_0 rfl (lv_at hl 1 rfl) ?_
  refine lv_iconst (v := 0) hx hb dX5_isScene_1 (by decide) ?_
  refine lv_aload_n hx hb dX5_isScene_2 rfl (lv_at hl 0 rfl) ?_
  refine va_get (D := D) (ci := 6) (v := .int (M 2 0)) (C := RX5) (T := TX5) (N := 23) hx hb hts inX5 hown hK (hW.p (e := (eMod ad M)) rfl) 0 rfl rfl 2 (by decide) (hts (.fieldLink RX5 62 "StoryTollModel" "scenes" "I") (List.mem_of_getElem? (i := 1) rfl)) (fun _ h9 => h9) rfl dX5_isScene_3 ?_
  refine lv_iconst (v := 1) hx hb dX5_isScene_6 (by decide) ?_
  refine lv_isub hx hb dX5_isScene_7 ?_
  refine g_Si (As := [.int v, .int 0, .int ((M 2 0) - 1)]) (rest := []) C0 (c_X5_isIn l D G Hp v 0 ((M 2 0) - 1)) (va_cwS 3 hts gX5_isScene_X5_isIn rfl rfl rfl (by decide +kernel) ⟨Nat.le_of_ble_eq_true rfl, Nat.le_of_ble_eq_true rfl⟩) hK rfl hl rfl (Nat.le_of_ble_eq_true rfl) dX5_isScene_8 ⟨Nat.zero_le _, Nat.zero_le _⟩ hS (fun r_1 locs hr_1 hS => ?_)
  subst hr_1
  exact g_zret hx hb hr hlk hh hS (zo_isIn _ _ _) (show (f_X5_isIn v 0 ((M 2 0) - 1)) = f_X5_isScene M v from by rw [f_X5_isScene]) dX5_isScene_11
def f_X5_isGuard (M : gT) (v : Int32) : Int32 := (f_X5_isIn v 0 ((M 10 0) - 1))
set_option maxHeartbeats 4000000 in
set_option maxRecDepth 100000 in
theorem c_X5_isGuard (l : Launch) (D : va_G) (G : gG) (A : Nat → Prop) (ad : gAd) (N : gN) (C M : gT) (o : Nat → Int64) (Hp : Heap) (hW : gW D A ad (Wd G ad N C M o) Hp) (v : Int32) : Met l yX5_isGuard wsX5_isGuard ({ frames := 1, cells := 0, slots := 0, locals := 22 }) (va_Pc [.ref (ad 0 1), .int v] (gQ D (gTs G) Hp)) (gRi (fun r => r = f_X5_isGuard M v) Hp) 0 0 gF := by
  refine g_start (cc := cX5_isGuard) (maxL := 2) (ret := (some .boolean)) (by decide) rfl (Nat.le_of_ble_eq_true rfl) (fun p e s m below meth c ls C0 hr hlk hnm hh hK hl => ?_)
  obtain ⟨hx, hb, hml, hown, hts⟩ := id C0
  have hown : s.vm.findClass RX5 = some m.cls := hown
  have hS : va_S gF Hp Hp [] := va_S.rf
  have hl : lv_has ls 2 [(0, .ref (ad 0 1)), (1, .int v)] := hl
  have inX5 : ∀ w ∈ wsX50, w ∈ wsX5_isGuard := by decide +kernel
  refine lv_iload_n hx hb dX5_isGuard_0 rfl (lv_at hl 1 rfl) ?_
  refine lv_iconst (v := 0) hx hb dX5_isGuard_1 (by decide) ?_
  refine lv_aload_n hx hb dX5_isGuard_2 rfl (lv_at hl 0 rfl) ?_
  refine va_get (D := D) (ci := 6) (v := .int (M 10 0)) (C := RX5) (T := TX5) (N := 23) hx hb hts inX5 hown hK (hW.p (e := (eMod ad M)) rfl) 0 rfl rfl 10 (by decide) (hts (.fieldLink RX5 69 "StoryTollModel" "guards" "I") (List.mem_of_getElem? (i := 1) rfl)) (fun _ h9 => h9) rfl dX5_isGuard_3 ?_
  refine lv_iconst (v := 1) hx hb dX5_isGuard_6 (by decide) ?_
  refine lv_isub hx hb dX5_isGuard_7 ?_
  refine g_Si (As := [.int v, .int 0, .int ((M 10 0) - 1)]) (rest := []) C0 (c_X5_isIn l D G Hp v 0 ((M 10 0) - 1)) (va_cwS 3 hts gX5_isGuard_X5_isIn rfl rfl rfl (by decide +kernel) ⟨Nat.le_of_ble_eq_true rfl, Nat.le_of_ble_eq_true rfl⟩) hK rfl hl rfl (Nat.le_of_ble_eq_true rfl) dX5_isGuard_8 ⟨Nat.zero_le _, Nat.zero_le _⟩ hS (fun r_1 locs hr_1 hS => ?_)
  subst hr_1
  exact g_zret hx hb hr hlk hh hS (zo_isIn _ _ _) (show (f_X5_isIn v 0 ((M 10 0) - 1)) = f_X5_isGuard M v from by rw [f_X5_isGuard]) dX5_isGuard_11
def f_X5_isTraveller (M : gT) (v : Int32) : Int32 := (f_X5_isIn v 0 ((M 14 0) - 1))
set_option maxHeartbeats 4000000 in
set_option maxRecDepth 100000 in
theorem c_X5_isTraveller (l : Launch) (D : va_G) (G : gG) (A : Nat → Prop) (ad : gAd) (N : gN) (C M : gT) (o : Nat → Int64) (Hp : Heap) (hW : gW D A ad (Wd G ad N C M o) Hp) (v : Int32) : Met l yX5_isTraveller wsX5_isTraveller ({ frames := 1, cells := 0, slots := 0, locals := 22 }) (va_Pc [.ref (ad 0 1), .int v] (gQ D (gTs G) Hp)) (gRi (fun r => r = f_X5_isTraveller M v) Hp) 0 0 gF := by
  refine g_start (cc := cX5_isTraveller) (maxL := 2) (ret := (some .boolean)) (by decide) rfl (Nat.le_of_ble_eq_true rfl) (fun p e s m below meth c ls C0 hr hlk hnm hh hK hl => ?_)
  obtain ⟨hx, hb, hml, hown, hts⟩ := id C0
  have hown : s.vm.findClass RX5 = some m.cls := hown
  have hS : va_S gF Hp Hp [] := va_S.rf
  have hl : lv_has ls 2 [(0, .ref (ad 0 1)), (1, .int v)] := hl
  have inX5 : ∀ w ∈ wsX50, w ∈ wsX5_isTraveller := by decide +kernel
  refine lv_iload_n hx hb dX5_isTraveller_0 rfl (lv_at hl 1 rfl) ?_
  refine lv_iconst (v := 0) hx hb dX5_isTraveller_1 (by decide) ?_
  refine lv_aload_n hx hb dX5_isTraveller_2 rfl (lv_at hl 0 rfl) ?_
  refine va_get (D := D) (ci := 6) (v := .int (M 14 0)) (C := RX5) (T := TX5) (N := 23) hx hb hts inX5 hown hK (hW.p (e := (eMod ad M)) rfl) 0 rfl rfl 14 (by decide) (hts (.fieldLink RX5 72 "StoryTollModel" "travellers" "I") (List.mem_of_getElem? (i := 1) rfl)) (fun _ h9 => h9) rfl dX5_isTraveller_3 ?_
  refine lv_iconst (v := 1) hx hb dX5_isTraveller_6 (by decide) ?_
  refine lv_isub hx hb dX5_isTraveller_7 ?_
  refine g_Si (As := [.int v, .int 0, .int ((M 14 0) - 1)]) (rest := []) C0 (c_X5_isIn l D G Hp v 0 ((M 14 0) - 1)) (va_cwS 3 hts gX5_isTraveller_X5_isIn rfl rfl rfl (by decide +kernel) ⟨Nat.le_of_ble_eq_true rfl, Nat.le_of_ble_eq_true rfl⟩) hK rfl hl rfl (Nat.le_of_ble_eq_true rfl) dX5_isTraveller_8 ⟨Nat.zero_le _, Nat.zero_le _⟩ hS (fun r_1 locs hr_1 hS => ?_)
  subst hr_1
  exact g_zret hx hb hr hlk hh hS (zo_isIn _ _ _) (show (f_X5_isIn v 0 ((M 14 0) - 1)) = f_X5_isTraveller M v from by rw [f_X5_isTraveller]) dX5_isTraveller_11
def f_X5_isPlot (M : gT) (v : Int32) : Int32 := (f_X5_isIn v 0 ((M 19 0) - 1))
set_option maxHeartbeats 4000000 in
set_option maxRecDepth 100000 in
theorem c_X5_isPlot (l : Launch) (D : va_G) (G : gG) (A : Nat → Prop) (ad : gAd) (N : gN) (C M : gT) (o : Nat → Int64) (Hp : Heap) (hW : gW D A ad (Wd G ad N C M o) Hp) (v : Int32) : Met l yX5_isPlot wsX5_isPlot ({ frames := 1, cells := 0, slots := 0, locals := 22 }) (va_Pc [.ref (ad 0 1), .int v] (gQ D (gTs G) Hp)) (gRi (fun r => r = f_X5_isPlot M v) Hp) 0 0 gF := by
  refine g_start (cc := cX5_isPlot) (maxL := 2) (ret := (some .boolean)) (by decide) rfl (Nat.le_of_ble_eq_true rfl) (fun p e s m below meth c ls C0 hr hlk hnm hh hK hl => ?_)
  obtain ⟨hx, hb, hml, hown, hts⟩ := id C0
  have hown : s.vm.findClass RX5 = some m.cls := hown
  have hS : va_S gF Hp Hp [] := va_S.rf
  have hl : lv_has ls 2 [(0, .ref (ad 0 1)), (1, .int v)] := hl
  have inX5 : ∀ w ∈ wsX50, w ∈ wsX5_isPlot := by decide +kernel
  refine lv_iload_n hx hb dX5_isPlot_0 rfl (lv_at hl 1 rfl) ?_
  refine lv_iconst (v := 0) hx hb dX5_isPlot_1 (by decide) ?_
  refine lv_aload_n hx hb dX5_isPlot_2 rfl (lv_at hl 0 rfl) ?_
  refine va_get (D := D) (ci := 6) (v := .int (M 19 0)) (C := RX5) (T := TX5) (N := 23) hx hb hts inX5 hown hK (hW.p (e := (eMod ad M)) rfl) 0 rfl rfl 19 (by decide) (hts (.fieldLink RX5 75 "StoryTollModel" "plots" "I") (List.mem_of_getElem? (i := 1) rfl)) (fun _ h9 => h9) rfl dX5_isPlot_3 ?_
  refine lv_iconst (v := 1) hx hb dX5_isPlot_6 (by decide) ?_
  refine lv_isub hx hb dX5_isPlot_7 ?_
  refine g_Si (As := [.int v, .int 0, .int ((M 19 0) - 1)]) (rest := []) C0 (c_X5_isIn l D G Hp v 0 ((M 19 0) - 1)) (va_cwS 3 hts gX5_isPlot_X5_isIn rfl rfl rfl (by decide +kernel) ⟨Nat.le_of_ble_eq_true rfl, Nat.le_of_ble_eq_true rfl⟩) hK rfl hl rfl (Nat.le_of_ble_eq_true rfl) dX5_isPlot_8 ⟨Nat.zero_le _, Nat.zero_le _⟩ hS (fun r_1 locs hr_1 hS => ?_)
  subst hr_1
  exact g_zret hx hb hr hlk hh hS (zo_isIn _ _ _) (show (f_X5_isIn v 0 ((M 19 0) - 1)) = f_X5_isPlot M v from by rw [f_X5_isPlot]) dX5_isPlot_11
def f_X5_has (bits : Int32) (k : Int32) : Int32 := (if ((bits >>> (k &&& 31)) &&& 1) = 1 then 1 else 0)
set_option maxHeartbeats 4000000 in
set_option maxRecDepth 100000 in
theorem c_X5_has (l : Launch) (D : va_G) (G : gG) (Hp : Heap) (bits k : Int32) : Met l yX5_has wsX5_has ({ frames := 0, cells := 0, slots := 0, locals := 0 }) (va_Pc [.int bits, .int k] (gQ D (gTs G) Hp)) (gRi (fun r => r = f_X5_has bits k) Hp) 0 0 gF := by
  refine g_start (cc := cX5_has) (maxL := 2) (ret := (some .boolean)) (by decide) rfl (Nat.le_of_ble_eq_true rfl) (fun p e s m below meth c ls C0 hr hlk hnm hh hK hl => ?_)
  obtain ⟨hx, hb, hml, hown, hts⟩ := id C0
  have hown : s.vm.findClass RX5 = some m.cls := hown
  have hS : va_S gF Hp Hp [] := va_S.rf
  have hl : lv_has ls 2 [(0, .int bits), (1, .int k)] := hl
  refine lv_iload_n hx hb dX5_has_0 rfl (lv_at hl 0 rfl) ?_
  refine lv_iload_n hx hb dX5_has_1 rfl (lv_at hl 1 rfl) ?_
  refine lv_ishr hx hb dX5_has_2 ?_
  refine lv_iconst (v := 1) hx hb dX5_has_3 (by decide) ?_
  refine lv_iand hx hb dX5_has_4 ?_
  refine lv_iconst (v := 1) hx hb dX5_has_5 (by decide) ?_
  refine lv_icmp_ne (tgt := 13) hx hb dX5_has_6 (by decide) (fun c_6_0 => ?_) (fun c_6_0 => ?_)
  · refine lv_iconst (v := 0) hx hb dX5_has_13 (by decide) ?_
    exact g_zret hx hb hr hlk hh hS (Or.inl rfl) (show 0 = f_X5_has bits k from by rw [f_X5_has, if_neg c_6_0]) dX5_has_14
  · refine lv_iconst (v := 1) hx hb dX5_has_9 (by decide) ?_
    refine lv_goto (tgt := 14) hx hb dX5_has_10 (by decide) ?_
    exact g_zret hx hb hr hlk hh hS (Or.inr rfl) (show 1 = f_X5_has bits k from by rw [f_X5_has, if_pos c_6_0]) dX5_has_14
def f_X5_later (pa : Int32) (sl : Int32) : Int32 := (if sl = 1 then (if 10 ≤ (pa + 5) then (pa + 5) else ((100 + pa) + 5)) else (if pa ≤ 1 then 100 else (pa - 1)))
set_option maxHeartbeats 4000000 in
set_option maxRecDepth 100000 in
theorem c_X5_later (l : Launch) (D : va_G) (G : gG) (Hp : Heap) (pa sl : Int32) : Met l yX5_later wsX5_later ({ frames := 0, cells := 0, slots := 0, locals := 0 }) (va_Pc [.int pa, .int sl] (gQ D (gTs G) Hp)) (gRi (fun r => r = f_X5_later pa sl) Hp) 0 0 gF := by
  refine g_start (cc := cX5_later) (maxL := 2) (ret := (some .int)) (by decide) rfl (Nat.le_of_ble_eq_true rfl) (fun p e s m below meth c ls C0 hr hlk hnm hh hK hl => ?_)
  obtain ⟨hx, hb, hml, hown, hts⟩ := id C0
  have hown : s.vm.findClass RX5 = some m.cls := hown
  have hS : va_S gF Hp Hp [] := va_S.rf
  have hl : lv_has ls 2 [(0, .int pa), (1, .int sl)] := hl
  refine lv_iload_n hx hb dX5_later_0 rfl (lv_at hl 1 rfl) ?_
  refine lv_iconst (v := 1) hx hb dX5_later_1 (by decide) ?_
  refine lv_icmp_ne (tgt := 26) hx hb dX5_later_2 (by decide) (fun c_2_0 => ?_) (fun c_2_0 => ?_)
  · refine lv_iload_n hx hb dX5_later_26 rfl (lv_at hl 0 rfl) ?_
    refine lv_iconst (v := 1) hx hb dX5_later_27 (by decide) ?_
    refine lv_icmp_le (tgt := 37) hx hb dX5_later_28 (by decide) (fun c_28_1 => ?_) (fun c_28_1 => ?_)
    · refine lv_bipush (v := 100) hx hb dX5_later_37 (by decide) ?_
      exact g_iret hx hb hr hlk hh hS (show 100 = f_X5_later pa sl from by rw [f_X5_later, if_neg c_2_0, if_pos c_28_1]) dX5_later_39
    · refine lv_iload_n hx hb dX5_later_31 rfl (lv_at hl 0 rfl) ?_
      refine lv_iconst (v := 1) hx hb dX5_later_32 (by decide) ?_
      refine lv_isub hx hb dX5_later_33 ?_
      refine lv_goto (tgt := 39) hx hb dX5_later_34 (by decide) ?_
      exact g_iret hx hb hr hlk hh hS (show (pa - 1) = f_X5_later pa sl from by rw [f_X5_later, if_neg c_2_0, if_neg c_28_1]) dX5_later_39
  · refine lv_iload_n hx hb dX5_later_5 rfl (lv_at hl 0 rfl) ?_
    refine lv_iconst (v := 5) hx hb dX5_later_6 (by decide) ?_
    refine lv_iadd hx hb dX5_later_7 ?_
    refine lv_bipush (v := 10) hx hb dX5_later_8 (by decide) ?_
    refine lv_icmp_ge (tgt := 22) hx hb dX5_later_10 (by decide) (fun c_10_2 => ?_) (fun c_10_2 => ?_)
    · refine lv_iload_n hx hb dX5_later_22 rfl (lv_at hl 0 rfl) ?_
      refine lv_iconst (v := 5) hx hb dX5_later_23 (by decide) ?_
      refine lv_iadd hx hb dX5_later_24 ?_
      exact g_iret hx hb hr hlk hh hS (show (pa + 5) = f_X5_later pa sl from by rw [f_X5_later, if_pos c_2_0, if_pos c_10_2]) dX5_later_25
    · refine lv_bipush (v := 100) hx hb dX5_later_13 (by decide) ?_
      refine lv_iload_n hx hb dX5_later_15 rfl (lv_at hl 0 rfl) ?_
      refine lv_iadd hx hb dX5_later_16 ?_
      refine lv_iconst (v := 5) hx hb dX5_later_17 (by decide) ?_
      refine lv_iadd hx hb dX5_later_18 ?_
      refine lv_goto (tgt := 25) hx hb dX5_later_19 (by decide) ?_
      exact g_iret hx hb hr hlk hh hS (show ((100 + pa) + 5) = f_X5_later pa sl from by rw [f_X5_later, if_pos c_2_0, if_neg c_10_2]) dX5_later_25
def f_bitc (x : Int32) : Int32 := ((((((((x - (((Int32.toUInt32 x >>> (Int32.toUInt32 1 &&& Int32.toUInt32 31)).toInt32) &&& 1431655765)) &&& 858993459) + (((Int32.toUInt32 (x - (((Int32.toUInt32 x >>> (Int32.toUInt32 1 &&& Int32.toUInt32 31)).toInt32) &&& 1431655765)) >>> (Int32.toUInt32 2 &&& Int32.toUInt32 31)).toInt32) &&& 858993459)) + ((Int32.toUInt32 (((x - (((Int32.toUInt32 x >>> (Int32.toUInt32 1 &&& Int32.toUInt32 31)).toInt32) &&& 1431655765)) &&& 858993459) + (((Int32.toUInt32 (x - (((Int32.toUInt32 x >>> (Int32.toUInt32 1 &&& Int32.toUInt32 31)).toInt32) &&& 1431655765)) >>> (Int32.toUInt32 2 &&& Int32.toUInt32 31)).toInt32) &&& 858993459)) >>> (Int32.toUInt32 4 &&& Int32.toUInt32 31)).toInt32)) &&& 252645135) + ((Int32.toUInt32 (((((x - (((Int32.toUInt32 x >>> (Int32.toUInt32 1 &&& Int32.toUInt32 31)).toInt32) &&& 1431655765)) &&& 858993459) + (((Int32.toUInt32 (x - (((Int32.toUInt32 x >>> (Int32.toUInt32 1 &&& Int32.toUInt32 31)).toInt32) &&& 1431655765)) >>> (Int32.toUInt32 2 &&& Int32.toUInt32 31)).toInt32) &&& 858993459)) + ((Int32.toUInt32 (((x - (((Int32.toUInt32 x >>> (Int32.toUInt32 1 &&& Int32.toUInt32 31)).toInt32) &&& 1431655765)) &&& 858993459) + (((Int32.toUInt32 (x - (((Int32.toUInt32 x >>> (Int32.toUInt32 1 &&& Int32.toUInt32 31)).toInt32) &&& 1431655765)) >>> (Int32.toUInt32 2 &&& Int32.toUInt32 31)).toInt32) &&& 858993459)) >>> (Int32.toUInt32 4 &&& Int32.toUInt32 31)).toInt32)) &&& 252645135) >>> (Int32.toUInt32 8 &&& Int32.toUInt32 31)).toInt32)) + ((Int32.toUInt32 ((((((x - (((Int32.toUInt32 x >>> (Int32.toUInt32 1 &&& Int32.toUInt32 31)).toInt32) &&& 1431655765)) &&& 858993459) + (((Int32.toUInt32 (x - (((Int32.toUInt32 x >>> (Int32.toUInt32 1 &&& Int32.toUInt32 31)).toInt32) &&& 1431655765)) >>> (Int32.toUInt32 2 &&& Int32.toUInt32 31)).toInt32) &&& 858993459)) + ((Int32.toUInt32 (((x - (((Int32.toUInt32 x >>> (Int32.toUInt32 1 &&& Int32.toUInt32 31)).toInt32) &&& 1431655765)) &&& 858993459) + (((Int32.toUInt32 (x - (((Int32.toUInt32 x >>> (Int32.toUInt32 1 &&& Int32.toUInt32 31)).toInt32) &&& 1431655765)) >>> (Int32.toUInt32 2 &&& Int32.toUInt32 31)).toInt32) &&& 858993459)) >>> (Int32.toUInt32 4 &&& Int32.toUInt32 31)).toInt32)) &&& 252645135) + ((Int32.toUInt32 (((((x - (((Int32.toUInt32 x >>> (Int32.toUInt32 1 &&& Int32.toUInt32 31)).toInt32) &&& 1431655765)) &&& 858993459) + (((Int32.toUInt32 (x - (((Int32.toUInt32 x >>> (Int32.toUInt32 1 &&& Int32.toUInt32 31)).toInt32) &&& 1431655765)) >>> (Int32.toUInt32 2 &&& Int32.toUInt32 31)).toInt32) &&& 858993459)) + ((Int32.toUInt32 (((x - (((Int32.toUInt32 x >>> (Int32.toUInt32 1 &&& Int32.toUInt32 31)).toInt32) &&& 1431655765)) &&& 858993459) + (((Int32.toUInt32 (x - (((Int32.toUInt32 x >>> (Int32.toUInt32 1 &&& Int32.toUInt32 31)).toInt32) &&& 1431655765)) >>> (Int32.toUInt32 2 &&& Int32.toUInt32 31)).toInt32) &&& 858993459)) >>> (Int32.toUInt32 4 &&& Int32.toUInt32 31)).toInt32)) &&& 252645135) >>> (Int32.toUInt32 8 &&& Int32.toUInt32 31)).toInt32)) >>> (Int32.toUInt32 16 &&& Int32.toUInt32 31)).toInt32)) &&& 63)
set_option maxHeartbeats 4000000 in
set_option maxRecDepth 100000 in
theorem c_J6_bitCount_0f7a4 (l : Launch) (D : va_G) (G : gG) (Hp : Heap) (x : Int32) : Met l yJ6_bitCount_0f7a4 wsJ6_bitCount_0f7a4 ({ frames := 0, cells := 0, slots := 0, locals := 0 }) (va_Pc [.int x] (gQ D (gTs G) Hp)) (gRi (fun r => r = f_bitc x) Hp) 0 0 gF := by
  refine g_start (cc := cJ6_bitCount_0f7a4) (maxL := 1) (ret := (some .int)) (by decide) rfl (Nat.le_of_ble_eq_true rfl) (fun p e s m below meth c ls C0 hr hlk hnm hh hK hl => ?_)
  obtain ⟨hx, hb, hml, hown, hts⟩ := id C0
  have hown : s.vm.findClass RJ6 = some m.cls := hown
  have hS : va_S gF Hp Hp [] := va_S.rf
  have hl : lv_has ls 1 [(0, .int x)] := hl
  refine lv_iload_n hx hb dJ6_bitCount_0f7a4_0 rfl (lv_at hl 0 rfl) ?_
  refine lv_iload_n hx hb dJ6_bitCount_0f7a4_1 rfl (lv_at hl 0 rfl) ?_
  refine lv_iconst (v := 1) hx hb dJ6_bitCount_0f7a4_2 (by decide) ?_
  refine lv_iushr hx hb dJ6_bitCount_0f7a4_3 rfl ?_
  refine lv_ldcw (v := 1431655765) hx hb hown (hts (.constant RJ6 265 (1431655765)) (List.mem_of_getElem? (i := 1) rfl)) dJ6_bitCount_0f7a4_4 ?_
  refine lv_iand hx hb dJ6_bitCount_0f7a4_7 ?_
  refine lv_isub hx hb dJ6_bitCount_0f7a4_8 ?_
  refine lv_istore_n (lv' := [(0, .int (x - (((Int32.toUInt32 x >>> (Int32.toUInt32 1 &&& Int32.toUInt32 31)).toInt32) &&& 1431655765)))]) hx hb dJ6_bitCount_0f7a4_9 rfl hl (by decide) rfl (fun ls hl => ?_)
  refine lv_iload_n hx hb dJ6_bitCount_0f7a4_10 rfl (lv_at hl 0 rfl) ?_
  refine lv_ldcw (v := 858993459) hx hb hown (hts (.constant RJ6 266 (858993459)) (List.mem_of_getElem? (i := 2) rfl)) dJ6_bitCount_0f7a4_11 ?_
  refine lv_iand hx hb dJ6_bitCount_0f7a4_14 ?_
  refine lv_iload_n hx hb dJ6_bitCount_0f7a4_15 rfl (lv_at hl 0 rfl) ?_
  refine lv_iconst (v := 2) hx hb dJ6_bitCount_0f7a4_16 (by decide) ?_
  refine lv_iushr hx hb dJ6_bitCount_0f7a4_17 rfl ?_
  refine lv_ldcw (v := 858993459) hx hb hown (hts (.constant RJ6 266 (858993459)) (List.mem_of_getElem? (i := 2) rfl)) dJ6_bitCount_0f7a4_18 ?_
  refine lv_iand hx hb dJ6_bitCount_0f7a4_21 ?_
  refine lv_iadd hx hb dJ6_bitCount_0f7a4_22 ?_
  refine lv_istore_n (lv' := [(0, .int (((x - (((Int32.toUInt32 x >>> (Int32.toUInt32 1 &&& Int32.toUInt32 31)).toInt32) &&& 1431655765)) &&& 858993459) + (((Int32.toUInt32 (x - (((Int32.toUInt32 x >>> (Int32.toUInt32 1 &&& Int32.toUInt32 31)).toInt32) &&& 1431655765)) >>> (Int32.toUInt32 2 &&& Int32.toUInt32 31)).toInt32) &&& 858993459)))]) hx hb dJ6_bitCount_0f7a4_23 rfl hl (by decide) rfl (fun ls hl => ?_)
  refine lv_iload_n hx hb dJ6_bitCount_0f7a4_24 rfl (lv_at hl 0 rfl) ?_
  refine lv_iload_n hx hb dJ6_bitCount_0f7a4_25 rfl (lv_at hl 0 rfl) ?_
  refine lv_iconst (v := 4) hx hb dJ6_bitCount_0f7a4_26 (by decide) ?_
  refine lv_iushr hx hb dJ6_bitCount_0f7a4_27 rfl ?_
  refine lv_iadd hx hb dJ6_bitCount_0f7a4_28 ?_
  refine lv_ldcw (v := 252645135) hx hb hown (hts (.constant RJ6 267 (252645135)) (List.mem_of_getElem? (i := 3) rfl)) dJ6_bitCount_0f7a4_29 ?_
  refine lv_iand hx hb dJ6_bitCount_0f7a4_32 ?_
  refine lv_istore_n (lv' := [(0, .int (((((x - (((Int32.toUInt32 x >>> (Int32.toUInt32 1 &&& Int32.toUInt32 31)).toInt32) &&& 1431655765)) &&& 858993459) + (((Int32.toUInt32 (x - (((Int32.toUInt32 x >>> (Int32.toUInt32 1 &&& Int32.toUInt32 31)).toInt32) &&& 1431655765)) >>> (Int32.toUInt32 2 &&& Int32.toUInt32 31)).toInt32) &&& 858993459)) + ((Int32.toUInt32 (((x - (((Int32.toUInt32 x >>> (Int32.toUInt32 1 &&& Int32.toUInt32 31)).toInt32) &&& 1431655765)) &&& 858993459) + (((Int32.toUInt32 (x - (((Int32.toUInt32 x >>> (Int32.toUInt32 1 &&& Int32.toUInt32 31)).toInt32) &&& 1431655765)) >>> (Int32.toUInt32 2 &&& Int32.toUInt32 31)).toInt32) &&& 858993459)) >>> (Int32.toUInt32 4 &&& Int32.toUInt32 31)).toInt32)) &&& 252645135))]) hx hb dJ6_bitCount_0f7a4_33 rfl hl (by decide) rfl (fun ls hl => ?_)
  refine lv_iload_n hx hb dJ6_bitCount_0f7a4_34 rfl (lv_at hl 0 rfl) ?_
  refine lv_iload_n hx hb dJ6_bitCount_0f7a4_35 rfl (lv_at hl 0 rfl) ?_
  refine lv_bipush (v := 8) hx hb dJ6_bitCount_0f7a4_36 (by decide) ?_
  refine lv_iushr hx hb dJ6_bitCount_0f7a4_38 rfl ?_
  refine lv_iadd hx hb dJ6_bitCount_0f7a4_39 ?_
  refine lv_istore_n (lv' := [(0, .int ((((((x - (((Int32.toUInt32 x >>> (Int32.toUInt32 1 &&& Int32.toUInt32 31)).toInt32) &&& 1431655765)) &&& 858993459) + (((Int32.toUInt32 (x - (((Int32.toUInt32 x >>> (Int32.toUInt32 1 &&& Int32.toUInt32 31)).toInt32) &&& 1431655765)) >>> (Int32.toUInt32 2 &&& Int32.toUInt32 31)).toInt32) &&& 858993459)) + ((Int32.toUInt32 (((x - (((Int32.toUInt32 x >>> (Int32.toUInt32 1 &&& Int32.toUInt32 31)).toInt32) &&& 1431655765)) &&& 858993459) + (((Int32.toUInt32 (x - (((Int32.toUInt32 x >>> (Int32.toUInt32 1 &&& Int32.toUInt32 31)).toInt32) &&& 1431655765)) >>> (Int32.toUInt32 2 &&& Int32.toUInt32 31)).toInt32) &&& 858993459)) >>> (Int32.toUInt32 4 &&& Int32.toUInt32 31)).toInt32)) &&& 252645135) + ((Int32.toUInt32 (((((x - (((Int32.toUInt32 x >>> (Int32.toUInt32 1 &&& Int32.toUInt32 31)).toInt32) &&& 1431655765)) &&& 858993459) + (((Int32.toUInt32 (x - (((Int32.toUInt32 x >>> (Int32.toUInt32 1 &&& Int32.toUInt32 31)).toInt32) &&& 1431655765)) >>> (Int32.toUInt32 2 &&& Int32.toUInt32 31)).toInt32) &&& 858993459)) + ((Int32.toUInt32 (((x - (((Int32.toUInt32 x >>> (Int32.toUInt32 1 &&& Int32.toUInt32 31)).toInt32) &&& 1431655765)) &&& 858993459) + (((Int32.toUInt32 (x - (((Int32.toUInt32 x >>> (Int32.toUInt32 1 &&& Int32.toUInt32 31)).toInt32) &&& 1431655765)) >>> (Int32.toUInt32 2 &&& Int32.toUInt32 31)).toInt32) &&& 858993459)) >>> (Int32.toUInt32 4 &&& Int32.toUInt32 31)).toInt32)) &&& 252645135) >>> (Int32.toUInt32 8 &&& Int32.toUInt32 31)).toInt32)))]) hx hb dJ6_bitCount_0f7a4_40 rfl hl (by decide) rfl (fun ls hl => ?_)
  refine lv_iload_n hx hb dJ6_bitCount_0f7a4_41 rfl (lv_at hl 0 rfl) ?_
  refine lv_iload_n hx hb dJ6_bitCount_0f7a4_42 rfl (lv_at hl 0 rfl) ?_
  refine lv_bipush (v := 16) hx hb dJ6_bitCount_0f7a4_43 (by decide) ?_
  refine lv_iushr hx hb dJ6_bitCount_0f7a4_45 rfl ?_
  refine lv_iadd hx hb dJ6_bitCount_0f7a4_46 ?_
  refine lv_istore_n (lv' := [(0, .int (((((((x - (((Int32.toUInt32 x >>> (Int32.toUInt32 1 &&& Int32.toUInt32 31)).toInt32) &&& 1431655765)) &&& 858993459) + (((Int32.toUInt32 (x - (((Int32.toUInt32 x >>> (Int32.toUInt32 1 &&& Int32.toUInt32 31)).toInt32) &&& 1431655765)) >>> (Int32.toUInt32 2 &&& Int32.toUInt32 31)).toInt32) &&& 858993459)) + ((Int32.toUInt32 (((x - (((Int32.toUInt32 x >>> (Int32.toUInt32 1 &&& Int32.toUInt32 31)).toInt32) &&& 1431655765)) &&& 858993459) + (((Int32.toUInt32 (x - (((Int32.toUInt32 x >>> (Int32.toUInt32 1 &&& Int32.toUInt32 31)).toInt32) &&& 1431655765)) >>> (Int32.toUInt32 2 &&& Int32.toUInt32 31)).toInt32) &&& 858993459)) >>> (Int32.toUInt32 4 &&& Int32.toUInt32 31)).toInt32)) &&& 252645135) + ((Int32.toUInt32 (((((x - (((Int32.toUInt32 x >>> (Int32.toUInt32 1 &&& Int32.toUInt32 31)).toInt32) &&& 1431655765)) &&& 858993459) + (((Int32.toUInt32 (x - (((Int32.toUInt32 x >>> (Int32.toUInt32 1 &&& Int32.toUInt32 31)).toInt32) &&& 1431655765)) >>> (Int32.toUInt32 2 &&& Int32.toUInt32 31)).toInt32) &&& 858993459)) + ((Int32.toUInt32 (((x - (((Int32.toUInt32 x >>> (Int32.toUInt32 1 &&& Int32.toUInt32 31)).toInt32) &&& 1431655765)) &&& 858993459) + (((Int32.toUInt32 (x - (((Int32.toUInt32 x >>> (Int32.toUInt32 1 &&& Int32.toUInt32 31)).toInt32) &&& 1431655765)) >>> (Int32.toUInt32 2 &&& Int32.toUInt32 31)).toInt32) &&& 858993459)) >>> (Int32.toUInt32 4 &&& Int32.toUInt32 31)).toInt32)) &&& 252645135) >>> (Int32.toUInt32 8 &&& Int32.toUInt32 31)).toInt32)) + ((Int32.toUInt32 ((((((x - (((Int32.toUInt32 x >>> (Int32.toUInt32 1 &&& Int32.toUInt32 31)).toInt32) &&& 1431655765)) &&& 858993459) + (((Int32.toUInt32 (x - (((Int32.toUInt32 x >>> (Int32.toUInt32 1 &&& Int32.toUInt32 31)).toInt32) &&& 1431655765)) >>> (Int32.toUInt32 2 &&& Int32.toUInt32 31)).toInt32) &&& 858993459)) + ((Int32.toUInt32 (((x - (((Int32.toUInt32 x >>> (Int32.toUInt32 1 &&& Int32.toUInt32 31)).toInt32) &&& 1431655765)) &&& 858993459) + (((Int32.toUInt32 (x - (((Int32.toUInt32 x >>> (Int32.toUInt32 1 &&& Int32.toUInt32 31)).toInt32) &&& 1431655765)) >>> (Int32.toUInt32 2 &&& Int32.toUInt32 31)).toInt32) &&& 858993459)) >>> (Int32.toUInt32 4 &&& Int32.toUInt32 31)).toInt32)) &&& 252645135) + ((Int32.toUInt32 (((((x - (((Int32.toUInt32 x >>> (Int32.toUInt32 1 &&& Int32.toUInt32 31)).toInt32) &&& 1431655765)) &&& 858993459) + (((Int32.toUInt32 (x - (((Int32.toUInt32 x >>> (Int32.toUInt32 1 &&& Int32.toUInt32 31)).toInt32) &&& 1431655765)) >>> (Int32.toUInt32 2 &&& Int32.toUInt32 31)).toInt32) &&& 858993459)) + ((Int32.toUInt32 (((x - (((Int32.toUInt32 x >>> (Int32.toUInt32 1 &&& Int32.toUInt32 31)).toInt32) &&& 1431655765)) &&& 858993459) + (((Int32.toUInt32 (x - (((Int32.toUInt32 x >>> (Int32.toUInt32 1 &&& Int32.toUInt32 31)).toInt32) &&& 1431655765)) >>> (Int32.toUInt32 2 &&& Int32.toUInt32 31)).toInt32) &&& 858993459)) >>> (Int32.toUInt32 4 &&& Int32.toUInt32 31)).toInt32)) &&& 252645135) >>> (Int32.toUInt32 8 &&& Int32.toUInt32 31)).toInt32)) >>> (Int32.toUInt32 16 &&& Int32.toUInt32 31)).toInt32)))]) hx hb dJ6_bitCount_0f7a4_47 rfl hl (by decide) rfl (fun ls hl => ?_)
  refine lv_iload_n hx hb dJ6_bitCount_0f7a4_48 rfl (lv_at hl 0 rfl) ?_
  refine lv_bipush (v := 63) hx hb dJ6_bitCount_0f7a4_49 (by decide) ?_
  refine lv_iand hx hb dJ6_bitCount_0f7a4_51 ?_
  exact g_iret hx hb hr hlk hh hS (show ((((((((x - (((Int32.toUInt32 x >>> (Int32.toUInt32 1 &&& Int32.toUInt32 31)).toInt32) &&& 1431655765)) &&& 858993459) + (((Int32.toUInt32 (x - (((Int32.toUInt32 x >>> (Int32.toUInt32 1 &&& Int32.toUInt32 31)).toInt32) &&& 1431655765)) >>> (Int32.toUInt32 2 &&& Int32.toUInt32 31)).toInt32) &&& 858993459)) + ((Int32.toUInt32 (((x - (((Int32.toUInt32 x >>> (Int32.toUInt32 1 &&& Int32.toUInt32 31)).toInt32) &&& 1431655765)) &&& 858993459) + (((Int32.toUInt32 (x - (((Int32.toUInt32 x >>> (Int32.toUInt32 1 &&& Int32.toUInt32 31)).toInt32) &&& 1431655765)) >>> (Int32.toUInt32 2 &&& Int32.toUInt32 31)).toInt32) &&& 858993459)) >>> (Int32.toUInt32 4 &&& Int32.toUInt32 31)).toInt32)) &&& 252645135) + ((Int32.toUInt32 (((((x - (((Int32.toUInt32 x >>> (Int32.toUInt32 1 &&& Int32.toUInt32 31)).toInt32) &&& 1431655765)) &&& 858993459) + (((Int32.toUInt32 (x - (((Int32.toUInt32 x >>> (Int32.toUInt32 1 &&& Int32.toUInt32 31)).toInt32) &&& 1431655765)) >>> (Int32.toUInt32 2 &&& Int32.toUInt32 31)).toInt32) &&& 858993459)) + ((Int32.toUInt32 (((x - (((Int32.toUInt32 x >>> (Int32.toUInt32 1 &&& Int32.toUInt32 31)).toInt32) &&& 1431655765)) &&& 858993459) + (((Int32.toUInt32 (x - (((Int32.toUInt32 x >>> (Int32.toUInt32 1 &&& Int32.toUInt32 31)).toInt32) &&& 1431655765)) >>> (Int32.toUInt32 2 &&& Int32.toUInt32 31)).toInt32) &&& 858993459)) >>> (Int32.toUInt32 4 &&& Int32.toUInt32 31)).toInt32)) &&& 252645135) >>> (Int32.toUInt32 8 &&& Int32.toUInt32 31)).toInt32)) + ((Int32.toUInt32 ((((((x - (((Int32.toUInt32 x >>> (Int32.toUInt32 1 &&& Int32.toUInt32 31)).toInt32) &&& 1431655765)) &&& 858993459) + (((Int32.toUInt32 (x - (((Int32.toUInt32 x >>> (Int32.toUInt32 1 &&& Int32.toUInt32 31)).toInt32) &&& 1431655765)) >>> (Int32.toUInt32 2 &&& Int32.toUInt32 31)).toInt32) &&& 858993459)) + ((Int32.toUInt32 (((x - (((Int32.toUInt32 x >>> (Int32.toUInt32 1 &&& Int32.toUInt32 31)).toInt32) &&& 1431655765)) &&& 858993459) + (((Int32.toUInt32 (x - (((Int32.toUInt32 x >>> (Int32.toUInt32 1 &&& Int32.toUInt32 31)).toInt32) &&& 1431655765)) >>> (Int32.toUInt32 2 &&& Int32.toUInt32 31)).toInt32) &&& 858993459)) >>> (Int32.toUInt32 4 &&& Int32.toUInt32 31)).toInt32)) &&& 252645135) + ((Int32.toUInt32 (((((x - (((Int32.toUInt32 x >>> (Int32.toUInt32 1 &&& Int32.toUInt32 31)).toInt32) &&& 1431655765)) &&& 858993459) + (((Int32.toUInt32 (x - (((Int32.toUInt32 x >>> (Int32.toUInt32 1 &&& Int32.toUInt32 31)).toInt32) &&& 1431655765)) >>> (Int32.toUInt32 2 &&& Int32.toUInt32 31)).toInt32) &&& 858993459)) + ((Int32.toUInt32 (((x - (((Int32.toUInt32 x >>> (Int32.toUInt32 1 &&& Int32.toUInt32 31)).toInt32) &&& 1431655765)) &&& 858993459) + (((Int32.toUInt32 (x - (((Int32.toUInt32 x >>> (Int32.toUInt32 1 &&& Int32.toUInt32 31)).toInt32) &&& 1431655765)) >>> (Int32.toUInt32 2 &&& Int32.toUInt32 31)).toInt32) &&& 858993459)) >>> (Int32.toUInt32 4 &&& Int32.toUInt32 31)).toInt32)) &&& 252645135) >>> (Int32.toUInt32 8 &&& Int32.toUInt32 31)).toInt32)) >>> (Int32.toUInt32 16 &&& Int32.toUInt32 31)).toInt32)) &&& 63) = f_bitc x from by rw [f_bitc]) dJ6_bitCount_0f7a4_52
def L_X5_pairs (M : gT) (j : Nat) (acc : Int32) : Int32 := (acc + (f_bitc (M 6 j)))
def f_X5_pairs (n : gN) (M : gT) : Int32 := (gIt (L_X5_pairs M) 0 (n 0))
set_option maxHeartbeats 4000000 in
set_option maxRecDepth 100000 in
theorem c_X5_pairs (l : Launch) (D : va_G) (G : gG) (A : Nat → Prop) (ad : gAd) (N : gN) (C M : gT) (o : Nat → Int64) (Hp : Heap) (hW : gW D A ad (Wd G ad N C M o) Hp) (n : gN) (hb0 : M 2 0 = nI (n 0)) (hn0 : n 0 ≤ 24) : Met l yX5_pairs wsX5_pairs ({ frames := 1, cells := 0, slots := 0, locals := 20 }) (va_Pc [.ref (ad 0 1)] (gQ D (gTs G) Hp)) (gRi (fun r => r = f_X5_pairs n M) Hp) 0 0 gF := by
  refine g_start (cc := cX5_pairs) (maxL := 3) (ret := (some .int)) (by decide) rfl (Nat.le_of_ble_eq_true rfl) (fun p e s m below meth c ls C0 hr hlk hnm hh hK hl => ?_)
  obtain ⟨hx, hb, hml, hown, hts⟩ := id C0
  have hown : s.vm.findClass RX5 = some m.cls := hown
  have hS : va_S gF Hp Hp [] := va_S.rf
  have hl : lv_has ls 3 [(0, .ref (ad 0 1))] := hl
  have inX5 : ∀ w ∈ wsX50, w ∈ wsX5_pairs := by decide +kernel
  refine lv_iconst (v := 0) hx hb dX5_pairs_0 (by decide) ?_
  refine lv_istore_n (lv' := [(1, .int 0), (0, .ref (ad 0 1))]) hx hb dX5_pairs_1 rfl hl (by decide) rfl (fun ls hl => ?_)
  refine lv_iconst (v := 0) hx hb dX5_pairs_2 (by decide) ?_
  refine lv_istore_n (lv' := [(2, .int 0), (1, .int 0), (0, .ref (ad 0 1))]) hx hb dX5_pairs_3 rfl hl (by decide) rfl (fun ls hl => ?_)
  refine g_loop (n 0) (fun j ls => lv_has ls 3 [(2, .int (nI j)), (1, .int (gIt (L_X5_pairs M) 0 j)), (0, .ref (ad 0 1))]) (lv_sub hl [0, 1, 2] rfl) hS (fun ls locs hl hS => ?_) (fun j ls locs hj hl hS ih => ?_)
  · have hl : lv_has ls 3 [(2, .int (nI (n 0))), (1, .int (gIt (L_X5_pairs M) 0 (n 0))), (0, .ref (ad 0 1))] := hl
    refine lv_iload_n hx hb dX5_pairs_4 rfl (lv_at hl 0 rfl) ?_
    refine lv_aload_n hx hb dX5_pairs_5 rfl (lv_at hl 2 rfl) ?_
    refine va_get (D := D) (ci := 6) (v := .int (M 2 0)) (C := RX5) (T := TX5) (N := 23) hx hb hts inX5 hown hK (hW.p (e := (eMod ad M)) rfl) 0 rfl rfl 2 (by decide) (hts (.fieldLink RX5 62 "StoryTollModel" "scenes" "I") (List.mem_of_getElem? (i := 1) rfl)) (fun _ h9 => h9) rfl dX5_pairs_6 ?_
    refine lv_icmp_ge (tgt := 30) hx hb dX5_pairs_9 (by decide) (fun c_9_0 => ?_) (fun c_9_0 => ?_)
    · refine lv_iload_n hx hb dX5_pairs_30 rfl (lv_at hl 1 rfl) ?_
      exact g_iret hx hb hr hlk hh hS (show (gIt (L_X5_pairs M) 0 (n 0)) = f_X5_pairs n M from by rw [f_X5_pairs]) dX5_pairs_31
    · exact absurd (g_le hb0 (by omega)) c_9_0
  · have hl : lv_has ls 3 [(2, .int (nI j)), (1, .int (gIt (L_X5_pairs M) 0 j)), (0, .ref (ad 0 1))] := hl
    refine lv_iload_n hx hb dX5_pairs_4 rfl (lv_at hl 0 rfl) ?_
    refine lv_aload_n hx hb dX5_pairs_5 rfl (lv_at hl 2 rfl) ?_
    refine va_get (D := D) (ci := 6) (v := .int (M 2 0)) (C := RX5) (T := TX5) (N := 23) hx hb hts inX5 hown hK (hW.p (e := (eMod ad M)) rfl) 0 rfl rfl 2 (by decide) (hts (.fieldLink RX5 62 "StoryTollModel" "scenes" "I") (List.mem_of_getElem? (i := 1) rfl)) (fun _ h9 => h9) rfl dX5_pairs_6 ?_
    refine lv_icmp_ge (tgt := 30) hx hb dX5_pairs_9 (by decide) (fun c_9_1 => ?_) (fun c_9_1 => ?_)
    · exact absurd c_9_1 (g_ge hb0 (by omega) hj)
    · refine lv_iload_n hx hb dX5_pairs_12 rfl (lv_at hl 1 rfl) ?_
      refine lv_aload_n hx hb dX5_pairs_13 rfl (lv_at hl 2 rfl) ?_
      refine va_get (D := D) (ci := 6) (v := .ref (ad 9 6)) (C := RX5) (T := TX5) (N := 23) hx hb hts inX5 hown hK (hW.p (e := (eMod ad M)) rfl) 0 rfl rfl 6 (by decide) (hts (.fieldLink RX5 19 "StoryTollModel" "behind" "[I") (List.mem_of_getElem? (i := 2) rfl)) (fun _ h9 => h9) rfl dX5_pairs_14 ?_
      refine lv_iload_n hx hb dX5_pairs_17 rfl (lv_at hl 0 rfl) ?_
      refine g_ild hx hb hK hW 0 (n := 24) (f := (M 6)) rfl rfl (k := j) rfl (by omega) (by decide) dX5_pairs_18 ?_
      refine g_Si (As := [.int (M 6 j)]) (rest := [.int (gIt (L_X5_pairs M) 0 j)]) C0 (c_J6_bitCount_0f7a4 l D G Hp (M 6 j)) (va_cwS 1 hts gX5_pairs_J6_bitCount_0f7a4 rfl rfl rfl (by decide +kernel) ⟨Nat.le_of_ble_eq_true rfl, Nat.le_of_ble_eq_true rfl⟩) hK rfl hl rfl (Nat.le_of_ble_eq_true rfl) dX5_pairs_19 ⟨Nat.zero_le _, Nat.zero_le _⟩ hS (fun r_3 locs hr_3 hS => ?_)
      subst hr_3
      refine lv_iadd hx hb dX5_pairs_22 ?_
      refine lv_istore_n (lv' := [(1, .int ((gIt (L_X5_pairs M) 0 j) + (f_bitc (M 6 j)))), (2, .int (nI j)), (0, .ref (ad 0 1))]) hx hb dX5_pairs_23 rfl hl (by decide) rfl (fun ls hl => ?_)
      refine lv_iinc (v := (nI (j + 1))) (lv' := [(2, .int (nI (j + 1))), (1, .int ((gIt (L_X5_pairs M) 0 j) + (f_bitc (M 6 j)))), (0, .ref (ad 0 1))]) hx hb dX5_pairs_24 hl (k := 1) rfl (nI_1 _) (by decide) rfl (fun ls hl => ?_)
      refine lv_goto (tgt := 4) hx hb dX5_pairs_27 (by decide) ?_
      have ea : ((gIt (L_X5_pairs M) 0 j) + (f_bitc (M 6 j))) = (gIt (L_X5_pairs M) 0 (j + 1)) := by rw [gIt_s, L_X5_pairs]
      have hl2 : lv_has ls 3 [(2, .int (nI (j + 1))), (1, .int (gIt (L_X5_pairs M) 0 (j + 1))), (0, .ref (ad 0 1))] := by rw [← ea]; exact lv_sub hl [0, 1, 2] rfl
      exact ih ls locs hl2 hS
def f_X5_last (M : gT) (q : Nat) : Int32 := (M 21 (8 * q + (szM M q - 1)))
set_option maxHeartbeats 4000000 in
set_option maxRecDepth 100000 in
theorem c_X5_last (l : Launch) (D : va_G) (G : gG) (A : Nat → Prop) (ad : gAd) (N : gN) (C M : gT) (o : Nat → Int64) (Hp : Heap) (hW : gW D A ad (Wd G ad N C M o) Hp) (n : gN) (hI : IM n M) (q : Nat) (hp : q < n 3) : Met l yX5_last wsX5_last ({ frames := 0, cells := 0, slots := 0, locals := 0 }) (va_Pc [.ref (ad 0 1), .int (nI q)] (gQ D (gTs G) Hp)) (gRi (fun r => r = f_X5_last M q) Hp) 0 0 gF := by
  refine g_start (cc := cX5_last) (maxL := 2) (ret := (some .int)) (by decide) rfl (Nat.le_of_ble_eq_true rfl) (fun p e s m below meth c ls C0 hr hlk hnm hh hK hl => ?_)
  obtain ⟨hx, hb, hml, hown, hts⟩ := id C0
  have hown : s.vm.findClass RX5 = some m.cls := hown
  have hS : va_S gF Hp Hp [] := va_S.rf
  have hl : lv_has ls 2 [(0, .ref (ad 0 1)), (1, .int (nI q))] := hl
  have inX5 : ∀ w ∈ wsX50, w ∈ wsX5_last := by decide +kernel
  obtain ⟨⟨hb0, hn0⟩, ⟨hb1, hn1⟩, ⟨hb2, hn2⟩, ⟨hb3, hn3⟩, hpl, hhe⟩ := id hI
  obtain ⟨hs1, hs2, hs3, hrw⟩ := hpl q hp
  have hla := hrw (szM M q - 1) (by omega)
  refine lv_aload_n hx hb dX5_last_0 rfl (lv_at hl 0 rfl) ?_
  refine va_get (D := D) (ci := 6) (v := .ref (ad 9 21)) (C := RX5) (T := TX5) (N := 23) hx hb hts inX5 hown hK (hW.p (e := (eMod ad M)) rfl) 0 rfl rfl 21 (by decide) (hts (.fieldLink RX5 53 "StoryTollModel" "row" "[I") (List.mem_of_getElem? (i := 1) rfl)) (fun _ h9 => h9) rfl dX5_last_1 ?_
  refine lv_bipush (v := 8) hx hb dX5_last_4 (by decide) ?_
  refine lv_iload_n hx hb dX5_last_6 rfl (lv_at hl 1 rfl) ?_
  refine lv_imul hx hb dX5_last_7 ?_
  refine lv_aload_n hx hb dX5_last_8 rfl (lv_at hl 0 rfl) ?_
  refine va_get (D := D) (ci := 6) (v := .ref (ad 9 20)) (C := RX5) (T := TX5) (N := 23) hx hb hts inX5 hown hK (hW.p (e := (eMod ad M)) rfl) 0 rfl rfl 20 (by decide) (hts (.fieldLink RX5 50 "StoryTollModel" "size" "[I") (List.mem_of_getElem? (i := 2) rfl)) (fun _ h9 => h9) rfl dX5_last_9 ?_
  refine lv_iload_n hx hb dX5_last_12 rfl (lv_at hl 1 rfl) ?_
  refine g_ild hx hb hK hW 0 (n := 8) (f := (M 20)) rfl rfl (k := q) rfl (by omega) (by decide) dX5_last_13 ?_
  refine lv_iadd hx hb dX5_last_14 ?_
  refine lv_iconst (v := 1) hx hb dX5_last_15 (by decide) ?_
  refine lv_isub hx hb dX5_last_16 ?_
  refine g_ild hx hb hK hW 0 (n := 64) (f := (M 21)) rfl rfl (k := (8 * q + (szM M q - 1))) (by rw [hs1]; exact ix8p q _ hs2) (by omega) (by decide) dX5_last_17 ?_
  exact g_iret hx hb hr hlk hh hS (show (M 21 (8 * q + (szM M q - 1))) = f_X5_last M q from by rw [f_X5_last]) dX5_last_18
theorem f_last_eq {n : gN} {M : gT} (hI : IM n M) {q : Nat} (hp : q < n 3) : f_X5_last M q = nI (laM M q) ∧ laM M q < n 0 := by
  obtain ⟨-, -, -, -, hpl, -⟩ := id hI
  obtain ⟨hs1, hs2, hs3, hrw⟩ := hpl q hp
  exact hrw (szM M q - 1) (by omega)
def f_X5_isOpen (M : gT) (q : Nat) : Int32 := (if (M 3 (laM M q)) = 2 then 0 else 1)
set_option maxHeartbeats 4000000 in
set_option maxRecDepth 100000 in
theorem c_X5_isOpen (l : Launch) (D : va_G) (G : gG) (A : Nat → Prop) (ad : gAd) (N : gN) (C M : gT) (o : Nat → Int64) (Hp : Heap) (hW : gW D A ad (Wd G ad N C M o) Hp) (n : gN) (hI : IM n M) (q : Nat) (hp : q < n 3) : Met l yX5_isOpen wsX5_isOpen ({ frames := 1, cells := 0, slots := 0, locals := 21 }) (va_Pc [.ref (ad 0 1), .int (nI q)] (gQ D (gTs G) Hp)) (gRi (fun r => r = f_X5_isOpen M q) Hp) 0 0 gF := by
  refine g_start (cc := cX5_isOpen) (maxL := 2) (ret := (some .boolean)) (by decide) rfl (Nat.le_of_ble_eq_true rfl) (fun p e s m below meth c ls C0 hr hlk hnm hh hK hl => ?_)
  obtain ⟨hx, hb, hml, hown, hts⟩ := id C0
  have hown : s.vm.findClass RX5 = some m.cls := hown
  have hS : va_S gF Hp Hp [] := va_S.rf
  have hl : lv_has ls 2 [(0, .ref (ad 0 1)), (1, .int (nI q))] := hl
  have inX5 : ∀ w ∈ wsX50, w ∈ wsX5_isOpen := by decide +kernel
  obtain ⟨⟨hb0, hn0⟩, ⟨hb1, hn1⟩, ⟨hb2, hn2⟩, ⟨hb3, hn3⟩, hpl, hhe⟩ := id hI
  obtain ⟨hs1, hs2, hs3, hrw⟩ := hpl q hp
  have hla := f_last_eq hI hp
  refine lv_aload_n hx hb dX5_isOpen_0 rfl (lv_at hl 0 rfl) ?_
  refine va_get (D := D) (ci := 6) (v := .ref (ad 9 3)) (C := RX5) (T := TX5) (N := 23) hx hb hts inX5 hown hK (hW.p (e := (eMod ad M)) rfl) 0 rfl rfl 3 (by decide) (hts (.fieldLink RX5 9 "StoryTollModel" "kind" "[I") (List.mem_of_getElem? (i := 1) rfl)) (fun _ h9 => h9) rfl dX5_isOpen_1 ?_
  refine lv_aload_n hx hb dX5_isOpen_4 rfl (lv_at hl 0 rfl) ?_
  refine lv_iload_n hx hb dX5_isOpen_5 rfl (lv_at hl 1 rfl) ?_
  refine g_Vi (As := [.int (nI q)]) (rest := [.ref (ad 9 3)]) C0 (c_X5_last l D G A ad N C M o Hp hW n hI q (by omega)) (cwV 1 hts gX5_isOpen_X5_last rfl rfl rfl (by decide +kernel) ⟨Nat.le_of_ble_eq_true rfl, Nat.le_of_ble_eq_true rfl⟩) hK (va_recv hK (hW.p rfl) (ci := 6) (q0 := 0) rfl rfl) rfl hl rfl (Nat.le_of_ble_eq_true rfl) dX5_isOpen_6 ⟨Nat.zero_le _, Nat.zero_le _⟩ hS (fun r_1 locs hr_1 hS => ?_)
  subst hr_1
  rw [show (f_X5_last M q) = (nI (laM M q)) from (f_last_eq hI (by omega)).1]
  refine g_ild hx hb hK hW 0 (n := 24) (f := (M 3)) rfl rfl (k := (laM M q)) rfl (by omega) (by decide) dX5_isOpen_9 ?_
  refine lv_iconst (v := 2) hx hb dX5_isOpen_10 (by decide) ?_
  refine lv_icmp_eq (tgt := 18) hx hb dX5_isOpen_11 (by decide) (fun c_11_1 => ?_) (fun c_11_1 => ?_)
  · refine lv_iconst (v := 0) hx hb dX5_isOpen_18 (by decide) ?_
    exact g_zret hx hb hr hlk hh hS (Or.inl rfl) (show 0 = f_X5_isOpen M q from by rw [f_X5_isOpen, if_pos c_11_1]) dX5_isOpen_19
  · refine lv_iconst (v := 1) hx hb dX5_isOpen_14 (by decide) ?_
    refine lv_goto (tgt := 19) hx hb dX5_isOpen_15 (by decide) ?_
    exact g_zret hx hb hr hlk hh hS (Or.inr rfl) (show 1 = f_X5_isOpen M q from by rw [f_X5_isOpen, if_neg c_11_1]) dX5_isOpen_19
def f_X5_can (M : gT) (t : Nat) (i : Nat) (q : Nat) : Int32 := (if (M 17 t) = 0 then (if (f_X5_has (M 15 t) (nI i)) = 0 then 0 else (if (M 3 i) = 0 then (if 8 ≤ (M 19 0) then 0 else 1) else (if (f_X5_isOpen M q) = 0 then 0 else (if (M 20 q) = 8 then 0 else (if (f_X5_has (M 6 (laM M q)) (nI i)) = 0 then 0 else (if (M 3 i) = 2 then (if (M 22 q) = (-1) then 1 else (if (M 22 q) = (nI t) then 1 else 0)) else 1)))))) else 0)
set_option maxHeartbeats 4000000 in
set_option maxRecDepth 100000 in
theorem c_X5_can (l : Launch) (D : va_G) (G : gG) (A : Nat → Prop) (ad : gAd) (N : gN) (C M : gT) (o : Nat → Int64) (Hp : Heap) (hW : gW D A ad (Wd G ad N C M o) Hp) (n : gN) (hI : IM n M) (t i q : Nat) (pl : Int32) (ht : t < n 2) (hi : i < n 0) (hp : ¬ M 3 i = 0 → pl = nI q ∧ q < n 3) : Met l yX5_can wsX5_can ({ frames := 2, cells := 0, slots := 0, locals := 42 }) (va_Pc [.ref (ad 0 1), .int (nI t), .int (nI i), .int pl] (gQ D (gTs G) Hp)) (gRi (fun r => r = f_X5_can M t i q) Hp) 0 0 gF := by
  refine g_start (cc := cX5_can) (maxL := 4) (ret := (some .boolean)) (by decide) rfl (Nat.le_of_ble_eq_true rfl) (fun p e s m below meth c ls C0 hr hlk hnm hh hK hl => ?_)
  obtain ⟨hx, hb, hml, hown, hts⟩ := id C0
  have hown : s.vm.findClass RX5 = some m.cls := hown
  have hS : va_S gF Hp Hp [] := va_S.rf
  have hl : lv_has ls 4 [(0, .ref (ad 0 1)), (1, .int (nI t)), (2, .int (nI i)), (3, .int pl)] := hl
  have inX5 : ∀ w ∈ wsX50, w ∈ wsX5_can := by decide +kernel
  obtain ⟨⟨hb0, hn0⟩, ⟨hb1, hn1⟩, ⟨hb2, hn2⟩, ⟨hb3, hn3⟩, hpl, hhe⟩ := id hI
  refine lv_aload_n hx hb dX5_can_0 rfl (lv_at hl 0 rfl) ?_
  refine va_get (D := D) (ci := 6) (v := .ref (ad 9 17)) (C := RX5) (T := TX5) (N := 23) hx hb hts inX5 hown hK (hW.p (e := (eMod ad M)) rfl) 0 rfl rfl 17 (by decide) (hts (.fieldLink RX5 44 "StoryTollModel" "where" "[I") (List.mem_of_getElem? (i := 1) rfl)) (fun _ h9 => h9) rfl dX5_can_1 ?_
  refine lv_iload_n hx hb dX5_can_4 rfl (lv_at hl 1 rfl) ?_
  refine g_ild hx hb hK hW 0 (n := 12) (f := (M 17)) rfl rfl (k := t) rfl (by omega) (by decide) dX5_can_5 ?_
  refine lv_if_ne (tgt := 22) hx hb dX5_can_6 (by decide) (fun c_6_0 => ?_) (fun c_6_0 => ?_)
  · refine lv_iconst (v := 0) hx hb dX5_can_22 (by decide) ?_
    exact g_zret hx hb hr hlk hh hS (Or.inl rfl) (show 0 = f_X5_can M t i q from by rw [f_X5_can, if_neg c_6_0]) dX5_can_23
  · refine lv_aload_n hx hb dX5_can_9 rfl (lv_at hl 0 rfl) ?_
    refine va_get (D := D) (ci := 6) (v := .ref (ad 9 15)) (C := RX5) (T := TX5) (N := 23) hx hb hts inX5 hown hK (hW.p (e := (eMod ad M)) rfl) 0 rfl rfl 15 (by decide) (hts (.fieldLink RX5 38 "StoryTollModel" "knows" "[I") (List.mem_of_getElem? (i := 2) rfl)) (fun _ h9 => h9) rfl dX5_can_10 ?_
    refine lv_iload_n hx hb dX5_can_13 rfl (lv_at hl 1 rfl) ?_
    refine g_ild hx hb hK hW 0 (n := 12) (f := (M 15)) rfl rfl (k := t) rfl (by omega) (by decide) dX5_can_14 ?_
    refine lv_iload_n hx hb dX5_can_15 rfl (lv_at hl 2 rfl) ?_
    refine g_Si (As := [.int (M 15 t), .int (nI i)]) (rest := []) C0 (c_X5_has l D G Hp (M 15 t) (nI i)) (va_cwS 2 hts gX5_can_X5_has rfl rfl rfl (by decide +kernel) ⟨Nat.le_of_ble_eq_true rfl, Nat.le_of_ble_eq_true rfl⟩) hK rfl hl rfl (Nat.le_of_ble_eq_true rfl) dX5_can_16 ⟨Nat.zero_le _, Nat.zero_le _⟩ hS (fun r_2 locs hr_2 hS => ?_)
    subst hr_2
    refine lv_if_ne (tgt := 24) hx hb dX5_can_19 (by decide) (fun c_19_2 => ?_) (fun c_19_2 => ?_)
    · refine lv_aload_n hx hb dX5_can_24 rfl (lv_at hl 0 rfl) ?_
      refine va_get (D := D) (ci := 6) (v := .ref (ad 9 3)) (C := RX5) (T := TX5) (N := 23) hx hb hts inX5 hown hK (hW.p (e := (eMod ad M)) rfl) 0 rfl rfl 3 (by decide) (hts (.fieldLink RX5 9 "StoryTollModel" "kind" "[I") (List.mem_of_getElem? (i := 3) rfl)) (fun _ h9 => h9) rfl dX5_can_25 ?_
      refine lv_iload_n hx hb dX5_can_28 rfl (lv_at hl 2 rfl) ?_
      refine g_ild hx hb hK hW 0 (n := 24) (f := (M 3)) rfl rfl (k := i) rfl (by omega) (by decide) dX5_can_29 ?_
      refine lv_if_ne (tgt := 48) hx hb dX5_can_30 (by decide) (fun c_30_3 => ?_) (fun c_30_3 => ?_)
      · obtain ⟨rfl, hq9⟩ := hp c_30_3
        obtain ⟨hs1, hs2, hs3, hrw⟩ := hpl q hq9
        have hla := f_last_eq hI hq9
        refine lv_aload_n hx hb dX5_can_48 rfl (lv_at hl 0 rfl) ?_
        refine lv_iload_n hx hb dX5_can_49 rfl (lv_at hl 3 rfl) ?_
        refine g_Vi (As := [.int (nI q)]) (rest := []) C0 (c_X5_isOpen l D G A ad N C M o Hp hW n hI q (by omega)) (cwV 1 hts gX5_can_X5_isOpen rfl rfl rfl (by decide +kernel) ⟨Nat.le_of_ble_eq_true rfl, Nat.le_of_ble_eq_true rfl⟩) hK (va_recv hK (hW.p rfl) (ci := 6) (q0 := 0) rfl rfl) rfl hl rfl (Nat.le_of_ble_eq_true rfl) dX5_can_50 ⟨Nat.zero_le _, Nat.zero_le _⟩ hS (fun r_5 locs hr_5 hS => ?_)
        subst hr_5
        refine lv_if_eq (tgt := 84) hx hb dX5_can_53 (by decide) (fun c_53_5 => ?_) (fun c_53_5 => ?_)
        · refine lv_iconst (v := 0) hx hb dX5_can_84 (by decide) ?_
          exact g_zret hx hb hr hlk hh hS (Or.inl rfl) (show 0 = f_X5_can M t i q from by rw [f_X5_can, if_pos c_6_0, if_neg c_19_2, if_neg c_30_3, if_pos c_53_5]) dX5_can_85
        · refine lv_aload_n hx hb dX5_can_56 rfl (lv_at hl 0 rfl) ?_
          refine va_get (D := D) (ci := 6) (v := .ref (ad 9 20)) (C := RX5) (T := TX5) (N := 23) hx hb hts inX5 hown hK (hW.p (e := (eMod ad M)) rfl) 0 rfl rfl 20 (by decide) (hts (.fieldLink RX5 50 "StoryTollModel" "size" "[I") (List.mem_of_getElem? (i := 5) rfl)) (fun _ h9 => h9) rfl dX5_can_57 ?_
          refine lv_iload_n hx hb dX5_can_60 rfl (lv_at hl 3 rfl) ?_
          refine g_ild hx hb hK hW 0 (n := 8) (f := (M 20)) rfl rfl (k := q) rfl (by omega) (by decide) dX5_can_61 ?_
          refine lv_bipush (v := 8) hx hb dX5_can_62 (by decide) ?_
          refine lv_icmp_eq (tgt := 84) hx hb dX5_can_64 (by decide) (fun c_64_6 => ?_) (fun c_64_6 => ?_)
          · refine lv_iconst (v := 0) hx hb dX5_can_84 (by decide) ?_
            exact g_zret hx hb hr hlk hh hS (Or.inl rfl) (show 0 = f_X5_can M t i q from by rw [f_X5_can, if_pos c_6_0, if_neg c_19_2, if_neg c_30_3, if_neg c_53_5, if_pos c_64_6]) dX5_can_85
          · refine lv_aload_n hx hb dX5_can_67 rfl (lv_at hl 0 rfl) ?_
            refine va_get (D := D) (ci := 6) (v := .ref (ad 9 6)) (C := RX5) (T := TX5) (N := 23) hx hb hts inX5 hown hK (hW.p (e := (eMod ad M)) rfl) 0 rfl rfl 6 (by decide) (hts (.fieldLink RX5 19 "StoryTollModel" "behind" "[I") (List.mem_of_getElem? (i := 6) rfl)) (fun _ h9 => h9) rfl dX5_can_68 ?_
            refine lv_aload_n hx hb dX5_can_71 rfl (lv_at hl 0 rfl) ?_
            refine lv_iload_n hx hb dX5_can_72 rfl (lv_at hl 3 rfl) ?_
            refine g_Vi (As := [.int (nI q)]) (rest := [.ref (ad 9 6)]) C0 (c_X5_last l D G A ad N C M o Hp hW n hI q (by omega)) (cwV 1 hts gX5_can_X5_last rfl rfl rfl (by decide +kernel) ⟨Nat.le_of_ble_eq_true rfl, Nat.le_of_ble_eq_true rfl⟩) hK (va_recv hK (hW.p rfl) (ci := 6) (q0 := 0) rfl rfl) rfl hl rfl (Nat.le_of_ble_eq_true rfl) dX5_can_73 ⟨Nat.zero_le _, Nat.zero_le _⟩ hS (fun r_8 locs hr_8 hS => ?_)
            subst hr_8
            rw [show (f_X5_last M q) = (nI (laM M q)) from (f_last_eq hI (by omega)).1]
            refine g_ild hx hb hK hW 0 (n := 24) (f := (M 6)) rfl rfl (k := (laM M q)) rfl (by omega) (by decide) dX5_can_76 ?_
            refine lv_iload_n hx hb dX5_can_77 rfl (lv_at hl 2 rfl) ?_
            refine g_Si (As := [.int (M 6 (laM M q)), .int (nI i)]) (rest := []) C0 (c_X5_has l D G Hp (M 6 (laM M q)) (nI i)) (va_cwS 2 hts gX5_can_X5_has rfl rfl rfl (by decide +kernel) ⟨Nat.le_of_ble_eq_true rfl, Nat.le_of_ble_eq_true rfl⟩) hK rfl hl rfl (Nat.le_of_ble_eq_true rfl) dX5_can_78 ⟨Nat.zero_le _, Nat.zero_le _⟩ hS (fun r_9 locs hr_9 hS => ?_)
            subst hr_9
            refine lv_if_ne (tgt := 86) hx hb dX5_can_81 (by decide) (fun c_81_9 => ?_) (fun c_81_9 => ?_)
            · refine lv_aload_n hx hb dX5_can_86 rfl (lv_at hl 0 rfl) ?_
              refine va_get (D := D) (ci := 6) (v := .ref (ad 9 3)) (C := RX5) (T := TX5) (N := 23) hx hb hts inX5 hown hK (hW.p (e := (eMod ad M)) rfl) 0 rfl rfl 3 (by decide) (hts (.fieldLink RX5 9 "StoryTollModel" "kind" "[I") (List.mem_of_getElem? (i := 3) rfl)) (fun _ h9 => h9) rfl dX5_can_87 ?_
              refine lv_iload_n hx hb dX5_can_90 rfl (lv_at hl 2 rfl) ?_
              refine g_ild hx hb hK hW 0 (n := 24) (f := (M 3)) rfl rfl (k := i) rfl (by omega) (by decide) dX5_can_91 ?_
              refine lv_iconst (v := 2) hx hb dX5_can_92 (by decide) ?_
              refine lv_icmp_ne (tgt := 116) hx hb dX5_can_93 (by decide) (fun c_93_10 => ?_) (fun c_93_10 => ?_)
              · refine lv_iconst (v := 1) hx hb dX5_can_116 (by decide) ?_
                refine lv_goto (tgt := 121) hx hb dX5_can_117 (by decide) ?_
                exact g_zret hx hb hr hlk hh hS (Or.inr rfl) (show 1 = f_X5_can M t i q from by rw [f_X5_can, if_pos c_6_0, if_neg c_19_2, if_neg c_30_3, if_neg c_53_5, if_neg c_64_6, if_neg c_81_9, if_neg c_93_10]) dX5_can_121
              · refine lv_aload_n hx hb dX5_can_96 rfl (lv_at hl 0 rfl) ?_
                refine va_get (D := D) (ci := 6) (v := .ref (ad 9 22)) (C := RX5) (T := TX5) (N := 23) hx hb hts inX5 hown hK (hW.p (e := (eMod ad M)) rfl) 0 rfl rfl 22 (by decide) (hts (.fieldLink RX5 56 "StoryTollModel" "keeper" "[I") (List.mem_of_getElem? (i := 7) rfl)) (fun _ h9 => h9) rfl dX5_can_97 ?_
                refine lv_iload_n hx hb dX5_can_100 rfl (lv_at hl 3 rfl) ?_
                refine g_ild hx hb hK hW 0 (n := 8) (f := (M 22)) rfl rfl (k := q) rfl (by omega) (by decide) dX5_can_101 ?_
                refine lv_iconst (v := (-1)) hx hb dX5_can_102 (by decide) ?_
                refine lv_icmp_eq (tgt := 116) hx hb dX5_can_103 (by decide) (fun c_103_11 => ?_) (fun c_103_11 => ?_)
                · refine lv_iconst (v := 1) hx hb dX5_can_116 (by decide) ?_
                  refine lv_goto (tgt := 121) hx hb dX5_can_117 (by decide) ?_
                  exact g_zret hx hb hr hlk hh hS (Or.inr rfl) (show 1 = f_X5_can M t i q from by rw [f_X5_can, if_pos c_6_0, if_neg c_19_2, if_neg c_30_3, if_neg c_53_5, if_neg c_64_6, if_neg c_81_9, if_pos c_93_10, if_pos c_103_11]) dX5_can_121
                · refine lv_aload_n hx hb dX5_can_106 rfl (lv_at hl 0 rfl) ?_
                  refine va_get (D := D) (ci := 6) (v := .ref (ad 9 22)) (C := RX5) (T := TX5) (N := 23) hx hb hts inX5 hown hK (hW.p (e := (eMod ad M)) rfl) 0 rfl rfl 22 (by decide) (hts (.fieldLink RX5 56 "StoryTollModel" "keeper" "[I") (List.mem_of_getElem? (i := 7) rfl)) (fun _ h9 => h9) rfl dX5_can_107 ?_
                  refine lv_iload_n hx hb dX5_can_110 rfl (lv_at hl 3 rfl) ?_
                  refine g_ild hx hb hK hW 0 (n := 8) (f := (M 22)) rfl rfl (k := q) rfl (by omega) (by decide) dX5_can_111 ?_
                  refine lv_iload_n hx hb dX5_can_112 rfl (lv_at hl 1 rfl) ?_
                  refine lv_icmp_ne (tgt := 120) hx hb dX5_can_113 (by decide) (fun c_113_12 => ?_) (fun c_113_12 => ?_)
                  · refine lv_iconst (v := 0) hx hb dX5_can_120 (by decide) ?_
                    exact g_zret hx hb hr hlk hh hS (Or.inl rfl) (show 0 = f_X5_can M t i q from by rw [f_X5_can, if_pos c_6_0, if_neg c_19_2, if_neg c_30_3, if_neg c_53_5, if_neg c_64_6, if_neg c_81_9, if_pos c_93_10, if_neg c_103_11, if_neg c_113_12]) dX5_can_121
                  · refine lv_iconst (v := 1) hx hb dX5_can_116 (by decide) ?_
                    refine lv_goto (tgt := 121) hx hb dX5_can_117 (by decide) ?_
                    exact g_zret hx hb hr hlk hh hS (Or.inr rfl) (show 1 = f_X5_can M t i q from by rw [f_X5_can, if_pos c_6_0, if_neg c_19_2, if_neg c_30_3, if_neg c_53_5, if_neg c_64_6, if_neg c_81_9, if_pos c_93_10, if_neg c_103_11, if_pos c_113_12]) dX5_can_121
            · refine lv_iconst (v := 0) hx hb dX5_can_84 (by decide) ?_
              exact g_zret hx hb hr hlk hh hS (Or.inl rfl) (show 0 = f_X5_can M t i q from by rw [f_X5_can, if_pos c_6_0, if_neg c_19_2, if_neg c_30_3, if_neg c_53_5, if_neg c_64_6, if_pos c_81_9]) dX5_can_85
      · refine lv_aload_n hx hb dX5_can_33 rfl (lv_at hl 0 rfl) ?_
        refine va_get (D := D) (ci := 6) (v := .int (M 19 0)) (C := RX5) (T := TX5) (N := 23) hx hb hts inX5 hown hK (hW.p (e := (eMod ad M)) rfl) 0 rfl rfl 19 (by decide) (hts (.fieldLink RX5 75 "StoryTollModel" "plots" "I") (List.mem_of_getElem? (i := 4) rfl)) (fun _ h9 => h9) rfl dX5_can_34 ?_
        refine lv_bipush (v := 8) hx hb dX5_can_37 (by decide) ?_
        refine lv_icmp_ge (tgt := 46) hx hb dX5_can_39 (by decide) (fun c_39_13 => ?_) (fun c_39_13 => ?_)
        · refine lv_iconst (v := 0) hx hb dX5_can_46 (by decide) ?_
          exact g_zret hx hb hr hlk hh hS (Or.inl rfl) (show 0 = f_X5_can M t i q from by rw [f_X5_can, if_pos c_6_0, if_neg c_19_2, if_pos c_30_3, if_pos c_39_13]) dX5_can_47
        · refine lv_iconst (v := 1) hx hb dX5_can_42 (by decide) ?_
          refine lv_goto (tgt := 47) hx hb dX5_can_43 (by decide) ?_
          exact g_zret hx hb hr hlk hh hS (Or.inr rfl) (show 1 = f_X5_can M t i q from by rw [f_X5_can, if_pos c_6_0, if_neg c_19_2, if_pos c_30_3, if_neg c_39_13]) dX5_can_47
    · refine lv_iconst (v := 0) hx hb dX5_can_22 (by decide) ?_
      exact g_zret hx hb hr hlk hh hS (Or.inl rfl) (show 0 = f_X5_can M t i q from by rw [f_X5_can, if_pos c_6_0, if_pos c_19_2]) dX5_can_23
def f_X5_worthOf (M : gT) (g : Nat) (i : Nat) : Int32 := (if (M 5 i) = (M 8 0) then (((M 4 i) / (1 + (M 13 (24 * g + i)))) + 0) else (((M 4 i) / (1 + (M 13 (24 * g + i)))) + 2))
set_option maxHeartbeats 4000000 in
set_option maxRecDepth 100000 in
theorem c_X5_worthOf (l : Launch) (D : va_G) (G : gG) (A : Nat → Prop) (ad : gAd) (N : gN) (C M : gT) (o : Nat → Int64) (Hp : Heap) (hW : gW D A ad (Wd G ad N C M o) Hp) (g i h9 : Nat) (hg : g < 4) (hi : i < 24) (hv2 : M 13 (24 * g + i) = nI h9) (hv1 : h9 < 1000) : Met l yX5_worthOf wsX5_worthOf ({ frames := 0, cells := 0, slots := 0, locals := 0 }) (va_Pc [.ref (ad 0 1), .int (nI g), .int (nI i)] (gQ D (gTs G) Hp)) (gRi (fun r => r = f_X5_worthOf M g i) Hp) 0 0 gF := by
  refine g_start (cc := cX5_worthOf) (maxL := 3) (ret := (some .int)) (by decide) rfl (Nat.le_of_ble_eq_true rfl) (fun p e s m below meth c ls C0 hr hlk hnm hh hK hl => ?_)
  obtain ⟨hx, hb, hml, hown, hts⟩ := id C0
  have hown : s.vm.findClass RX5 = some m.cls := hown
  have hS : va_S gF Hp Hp [] := va_S.rf
  have hl : lv_has ls 3 [(0, .ref (ad 0 1)), (1, .int (nI g)), (2, .int (nI i))] := hl
  have inX5 : ∀ w ∈ wsX50, w ∈ wsX5_worthOf := by decide +kernel
  refine lv_aload_n hx hb dX5_worthOf_0 rfl (lv_at hl 0 rfl) ?_
  refine va_get (D := D) (ci := 6) (v := .ref (ad 9 4)) (C := RX5) (T := TX5) (N := 23) hx hb hts inX5 hown hK (hW.p (e := (eMod ad M)) rfl) 0 rfl rfl 4 (by decide) (hts (.fieldLink RX5 13 "StoryTollModel" "wonder" "[I") (List.mem_of_getElem? (i := 1) rfl)) (fun _ h9 => h9) rfl dX5_worthOf_1 ?_
  refine lv_iload_n hx hb dX5_worthOf_4 rfl (lv_at hl 2 rfl) ?_
  refine g_ild hx hb hK hW 0 (n := 24) (f := (M 4)) rfl rfl (k := i) rfl (by omega) (by decide) dX5_worthOf_5 ?_
  refine lv_iconst (v := 1) hx hb dX5_worthOf_6 (by decide) ?_
  refine lv_aload_n hx hb dX5_worthOf_7 rfl (lv_at hl 0 rfl) ?_
  refine va_get (D := D) (ci := 6) (v := .ref (ad 9 13)) (C := RX5) (T := TX5) (N := 23) hx hb hts inX5 hown hK (hW.p (e := (eMod ad M)) rfl) 0 rfl rfl 13 (by decide) (hts (.fieldLink RX5 35 "StoryTollModel" "heard" "[I") (List.mem_of_getElem? (i := 2) rfl)) (fun _ h9 => h9) rfl dX5_worthOf_8 ?_
  refine lv_bipush (v := 24) hx hb dX5_worthOf_11 (by decide) ?_
  refine lv_iload_n hx hb dX5_worthOf_13 rfl (lv_at hl 1 rfl) ?_
  refine lv_imul hx hb dX5_worthOf_14 ?_
  refine lv_iload_n hx hb dX5_worthOf_15 rfl (lv_at hl 2 rfl) ?_
  refine lv_iadd hx hb dX5_worthOf_16 ?_
  refine g_ild hx hb hK hW 0 (n := 96) (f := (M 13)) rfl rfl (k := (24 * g + i)) (ix24 g i) (by omega) (by decide) dX5_worthOf_17 ?_
  refine lv_iadd hx hb dX5_worthOf_18 ?_
  refine lv_idiv hx hb dX5_worthOf_19 (by rw [hv2, show (1 : Int32) = nI 1 from rfl, nI_add]; exact nI_ne0 (by omega) (by omega)) ?_
  refine lv_aload_n hx hb dX5_worthOf_20 rfl (lv_at hl 0 rfl) ?_
  refine va_get (D := D) (ci := 6) (v := .ref (ad 9 5)) (C := RX5) (T := TX5) (N := 23) hx hb hts inX5 hown hK (hW.p (e := (eMod ad M)) rfl) 0 rfl rfl 5 (by decide) (hts (.fieldLink RX5 16 "StoryTollModel" "hue" "[I") (List.mem_of_getElem? (i := 3) rfl)) (fun _ h9 => h9) rfl dX5_worthOf_21 ?_
  refine lv_iload_n hx hb dX5_worthOf_24 rfl (lv_at hl 2 rfl) ?_
  refine g_ild hx hb hK hW 0 (n := 24) (f := (M 5)) rfl rfl (k := i) rfl (by omega) (by decide) dX5_worthOf_25 ?_
  refine lv_aload_n hx hb dX5_worthOf_26 rfl (lv_at hl 0 rfl) ?_
  refine va_get (D := D) (ci := 6) (v := .int (M 8 0)) (C := RX5) (T := TX5) (N := 23) hx hb hts inX5 hown hK (hW.p (e := (eMod ad M)) rfl) 0 rfl rfl 8 (by decide) (hts (.fieldLink RX5 25 "StoryTollModel" "lastHue" "I") (List.mem_of_getElem? (i := 4) rfl)) (fun _ h9 => h9) rfl dX5_worthOf_27 ?_
  refine lv_icmp_ne (tgt := 37) hx hb dX5_worthOf_30 (by decide) (fun c_30_0 => ?_) (fun c_30_0 => ?_)
  · refine lv_iconst (v := 2) hx hb dX5_worthOf_37 (by decide) ?_
    refine lv_iadd hx hb dX5_worthOf_38 ?_
    exact g_iret hx hb hr hlk hh hS (show (((M 4 i) / (1 + (M 13 (24 * g + i)))) + 2) = f_X5_worthOf M g i from by rw [f_X5_worthOf, if_neg c_30_0]) dX5_worthOf_39
  · refine lv_iconst (v := 0) hx hb dX5_worthOf_33 (by decide) ?_
    refine lv_goto (tgt := 38) hx hb dX5_worthOf_34 (by decide) ?_
    refine lv_iadd hx hb dX5_worthOf_38 ?_
    exact g_iret hx hb hr hlk hh hS (show (((M 4 i) / (1 + (M 13 (24 * g + i)))) + 0) = f_X5_worthOf M g i from by rw [f_X5_worthOf, if_pos c_30_0]) dX5_worthOf_39
def L_X5_toll (M : gT) (i : Nat) (j : Nat) (acc : Int32) : Int32 := (if (M 11 j) = 0 then (if acc < (f_X5_worthOf M j i) then (f_X5_worthOf M j i) else acc) else acc)
def f_X5_toll (n : gN) (M : gT) (i : Nat) : Int32 := (gIt (L_X5_toll M i) 0 (n 1))
set_option maxHeartbeats 4000000 in
set_option maxRecDepth 100000 in
theorem c_X5_toll (l : Launch) (D : va_G) (G : gG) (A : Nat → Prop) (ad : gAd) (N : gN) (C M : gT) (o : Nat → Int64) (Hp : Heap) (hW : gW D A ad (Wd G ad N C M o) Hp) (n : gN) (hb1 : M 10 0 = nI (n 1)) (hn1 : n 1 ≤ 4) (hhe : ∀ x, x < 96 → ∃ h, h < 1000 ∧ M 13 x = nI h) (i : Nat) (hi : i < 24) : Met l yX5_toll wsX5_toll ({ frames := 1, cells := 0, slots := 0, locals := 22 }) (va_Pc [.ref (ad 0 1), .int (nI i)] (gQ D (gTs G) Hp)) (gRi (fun r => r = f_X5_toll n M i) Hp) 0 0 gF := by
  refine g_start (cc := cX5_toll) (maxL := 4) (ret := (some .int)) (by decide) rfl (Nat.le_of_ble_eq_true rfl) (fun p e s m below meth c ls C0 hr hlk hnm hh hK hl => ?_)
  obtain ⟨hx, hb, hml, hown, hts⟩ := id C0
  have hown : s.vm.findClass RX5 = some m.cls := hown
  have hS : va_S gF Hp Hp [] := va_S.rf
  have hl : lv_has ls 4 [(0, .ref (ad 0 1)), (1, .int (nI i))] := hl
  have inX5 : ∀ w ∈ wsX50, w ∈ wsX5_toll := by decide +kernel
  refine lv_iconst (v := 0) hx hb dX5_toll_0 (by decide) ?_
  refine lv_istore_n (lv' := [(2, .int 0), (0, .ref (ad 0 1)), (1, .int (nI i))]) hx hb dX5_toll_1 rfl hl (by decide) rfl (fun ls hl => ?_)
  refine lv_iconst (v := 0) hx hb dX5_toll_2 (by decide) ?_
  refine lv_istore_n (lv' := [(3, .int 0), (2, .int 0), (0, .ref (ad 0 1)), (1, .int (nI i))]) hx hb dX5_toll_3 rfl hl (by decide) rfl (fun ls hl => ?_)
  refine g_loop (n 1) (fun j ls => lv_has ls 4 [(3, .int (nI j)), (2, .int (gIt (L_X5_toll M i) 0 j)), (0, .ref (ad 0 1)), (1, .int (nI i))]) (lv_sub hl [0, 1, 2, 3] rfl) hS (fun ls locs hl hS => ?_) (fun j ls locs hj hl hS ih => ?_)
  · have hl : lv_has ls 4 [(3, .int (nI (n 1))), (2, .int (gIt (L_X5_toll M i) 0 (n 1))), (0, .ref (ad 0 1)), (1, .int (nI i))] := hl
    refine lv_iload_n hx hb dX5_toll_4 rfl (lv_at hl 0 rfl) ?_
    refine lv_aload_n hx hb dX5_toll_5 rfl (lv_at hl 2 rfl) ?_
    refine va_get (D := D) (ci := 6) (v := .int (M 10 0)) (C := RX5) (T := TX5) (N := 23) hx hb hts inX5 hown hK (hW.p (e := (eMod ad M)) rfl) 0 rfl rfl 10 (by decide) (hts (.fieldLink RX5 69 "StoryTollModel" "guards" "I") (List.mem_of_getElem? (i := 1) rfl)) (fun _ h9 => h9) rfl dX5_toll_6 ?_
    refine lv_icmp_ge (tgt := 38) hx hb dX5_toll_9 (by decide) (fun c_9_0 => ?_) (fun c_9_0 => ?_)
    · refine lv_iload_n hx hb dX5_toll_38 rfl (lv_at hl 1 rfl) ?_
      exact g_iret hx hb hr hlk hh hS (show (gIt (L_X5_toll M i) 0 (n 1)) = f_X5_toll n M i from by rw [f_X5_toll]) dX5_toll_39
    · exact absurd (g_le hb1 (by omega)) c_9_0
  · have hl : lv_has ls 4 [(3, .int (nI j)), (2, .int (gIt (L_X5_toll M i) 0 j)), (0, .ref (ad 0 1)), (1, .int (nI i))] := hl
    obtain ⟨h9, hv⟩ := hhe (24 * j + i) (by omega)
    refine lv_iload_n hx hb dX5_toll_4 rfl (lv_at hl 0 rfl) ?_
    refine lv_aload_n hx hb dX5_toll_5 rfl (lv_at hl 2 rfl) ?_
    refine va_get (D := D) (ci := 6) (v := .int (M 10 0)) (C := RX5) (T := TX5) (N := 23) hx hb hts inX5 hown hK (hW.p (e := (eMod ad M)) rfl) 0 rfl rfl 10 (by decide) (hts (.fieldLink RX5 69 "StoryTollModel" "guards" "I") (List.mem_of_getElem? (i := 1) rfl)) (fun _ h9 => h9) rfl dX5_toll_6 ?_
    refine lv_icmp_ge (tgt := 38) hx hb dX5_toll_9 (by decide) (fun c_9_1 => ?_) (fun c_9_1 => ?_)
    · exact absurd c_9_1 (g_ge hb1 (by omega) hj)
    · refine lv_aload_n hx hb dX5_toll_12 rfl (lv_at hl 2 rfl) ?_
      refine va_get (D := D) (ci := 6) (v := .ref (ad 9 11)) (C := RX5) (T := TX5) (N := 23) hx hb hts inX5 hown hK (hW.p (e := (eMod ad M)) rfl) 0 rfl rfl 11 (by decide) (hts (.fieldLink RX5 29 "StoryTollModel" "asleep" "[I") (List.mem_of_getElem? (i := 2) rfl)) (fun _ h9 => h9) rfl dX5_toll_13 ?_
      refine lv_iload_n hx hb dX5_toll_16 rfl (lv_at hl 0 rfl) ?_
      refine g_ild hx hb hK hW 0 (n := 4) (f := (M 11)) rfl rfl (k := j) rfl (by omega) (by decide) dX5_toll_17 ?_
      refine lv_if_ne (tgt := 32) hx hb dX5_toll_18 (by decide) (fun c_18_2 => ?_) (fun c_18_2 => ?_)
      · refine lv_iinc (v := (nI (j + 1))) (lv' := [(3, .int (nI (j + 1))), (2, .int (gIt (L_X5_toll M i) 0 j)), (0, .ref (ad 0 1)), (1, .int (nI i))]) hx hb dX5_toll_32 hl (k := 0) rfl (nI_1 _) (by decide) rfl (fun ls hl => ?_)
        refine lv_goto (tgt := 4) hx hb dX5_toll_35 (by decide) ?_
        have ea : (gIt (L_X5_toll M i) 0 j) = (gIt (L_X5_toll M i) 0 (j + 1)) := by rw [gIt_s, L_X5_toll, if_neg c_18_2]
        have hl2 : lv_has ls 4 [(3, .int (nI (j + 1))), (2, .int (gIt (L_X5_toll M i) 0 (j + 1))), (0, .ref (ad 0 1)), (1, .int (nI i))] := by rw [← ea]; exact lv_sub hl [0, 1, 2, 3] rfl
        exact ih ls locs hl2 hS
      · refine lv_iload_n hx hb dX5_toll_21 rfl (lv_at hl 1 rfl) ?_
        refine lv_aload_n hx hb dX5_toll_22 rfl (lv_at hl 2 rfl) ?_
        refine lv_iload_n hx hb dX5_toll_23 rfl (lv_at hl 0 rfl) ?_
        refine lv_iload_n hx hb dX5_toll_24 rfl (lv_at hl 3 rfl) ?_
        refine g_Vi (As := [.int (nI j), .int (nI i)]) (rest := [.int (gIt (L_X5_toll M i) 0 j)]) C0 (c_X5_worthOf l D G A ad N C M o Hp hW j i h9 (by omega) (by omega) hv.2 hv.1) (cwV 2 hts gX5_toll_X5_worthOf rfl rfl rfl (by decide +kernel) ⟨Nat.le_of_ble_eq_true rfl, Nat.le_of_ble_eq_true rfl⟩) hK (va_recv hK (hW.p rfl) (ci := 6) (q0 := 0) rfl rfl) rfl hl rfl (Nat.le_of_ble_eq_true rfl) dX5_toll_25 ⟨Nat.zero_le _, Nat.zero_le _⟩ hS (fun r_4 locs hr_4 hS => ?_)
        subst hr_4
        refine va_mmax hx hb (hml.trans hl.1.symm) hown (hts (.methodLink RX5 109 Lib.Math.max.name) (List.mem_of_getElem? (i := 3) rfl)) (hts (.static Lib.Math.max.name) (List.mem_of_getElem? (i := 4) rfl)) (hts (.initialized "java/lang/Math") (List.mem_of_getElem? (i := 5) rfl)) (hts (.code Lib.Math.max.name Lib.Math.max.code 2 (some .int)) (List.mem_of_getElem? (i := 6) rfl)) (Nat.le_of_ble_eq_true rfl) (Nat.le_of_ble_eq_true rfl) (Nat.le_of_ble_eq_true rfl) (Nat.le_of_ble_eq_true rfl) dX5_toll_28 ?_
        refine lv_istore_n (lv' := [(2, .int (if (gIt (L_X5_toll M i) 0 j) < (f_X5_worthOf M j i) then (f_X5_worthOf M j i) else (gIt (L_X5_toll M i) 0 j))), (3, .int (nI j)), (0, .ref (ad 0 1)), (1, .int (nI i))]) hx hb dX5_toll_31 rfl hl (by decide) rfl (fun ls hl => ?_)
        refine lv_iinc (v := (nI (j + 1))) (lv' := [(3, .int (nI (j + 1))), (2, .int (if (gIt (L_X5_toll M i) 0 j) < (f_X5_worthOf M j i) then (f_X5_worthOf M j i) else (gIt (L_X5_toll M i) 0 j))), (0, .ref (ad 0 1)), (1, .int (nI i))]) hx hb dX5_toll_32 hl (k := 1) rfl (nI_1 _) (by decide) rfl (fun ls hl => ?_)
        refine lv_goto (tgt := 4) hx hb dX5_toll_35 (by decide) ?_
        have ea : (if (gIt (L_X5_toll M i) 0 j) < (f_X5_worthOf M j i) then (f_X5_worthOf M j i) else (gIt (L_X5_toll M i) 0 j)) = (gIt (L_X5_toll M i) 0 (j + 1)) := by rw [gIt_s, L_X5_toll, if_pos c_18_2]
        have hl2 : lv_has ls 4 [(3, .int (nI (j + 1))), (2, .int (gIt (L_X5_toll M i) 0 (j + 1))), (0, .ref (ad 0 1)), (1, .int (nI i))] := by rw [← ea]; exact lv_sub hl [0, 1, 2, 3] rfl
        exact ih ls locs hl2 hS
def L_X5_awake (M : gT) (j : Nat) (acc : Int32) : Int32 := (acc + (1 - (M 11 j)))
def f_X5_awake (n : gN) (M : gT) : Int32 := (gIt (L_X5_awake M) 0 (n 1))
set_option maxHeartbeats 4000000 in
set_option maxRecDepth 100000 in
theorem c_X5_awake (l : Launch) (D : va_G) (G : gG) (A : Nat → Prop) (ad : gAd) (N : gN) (C M : gT) (o : Nat → Int64) (Hp : Heap) (hW : gW D A ad (Wd G ad N C M o) Hp) (n : gN) (hb1 : M 10 0 = nI (n 1)) (hn1 : n 1 ≤ 4) : Met l yX5_awake wsX5_awake ({ frames := 0, cells := 0, slots := 0, locals := 0 }) (va_Pc [.ref (ad 0 1)] (gQ D (gTs G) Hp)) (gRi (fun r => r = f_X5_awake n M) Hp) 0 0 gF := by
  refine g_start (cc := cX5_awake) (maxL := 3) (ret := (some .int)) (by decide) rfl (Nat.le_of_ble_eq_true rfl) (fun p e s m below meth c ls C0 hr hlk hnm hh hK hl => ?_)
  obtain ⟨hx, hb, hml, hown, hts⟩ := id C0
  have hown : s.vm.findClass RX5 = some m.cls := hown
  have hS : va_S gF Hp Hp [] := va_S.rf
  have hl : lv_has ls 3 [(0, .ref (ad 0 1))] := hl
  have inX5 : ∀ w ∈ wsX50, w ∈ wsX5_awake := by decide +kernel
  refine lv_iconst (v := 0) hx hb dX5_awake_0 (by decide) ?_
  refine lv_istore_n (lv' := [(1, .int 0), (0, .ref (ad 0 1))]) hx hb dX5_awake_1 rfl hl (by decide) rfl (fun ls hl => ?_)
  refine lv_iconst (v := 0) hx hb dX5_awake_2 (by decide) ?_
  refine lv_istore_n (lv' := [(2, .int 0), (1, .int 0), (0, .ref (ad 0 1))]) hx hb dX5_awake_3 rfl hl (by decide) rfl (fun ls hl => ?_)
  refine g_loop (n 1) (fun j ls => lv_has ls 3 [(2, .int (nI j)), (1, .int (gIt (L_X5_awake M) 0 j)), (0, .ref (ad 0 1))]) (lv_sub hl [0, 1, 2] rfl) hS (fun ls locs hl hS => ?_) (fun j ls locs hj hl hS ih => ?_)
  · have hl : lv_has ls 3 [(2, .int (nI (n 1))), (1, .int (gIt (L_X5_awake M) 0 (n 1))), (0, .ref (ad 0 1))] := hl
    refine lv_iload_n hx hb dX5_awake_4 rfl (lv_at hl 0 rfl) ?_
    refine lv_aload_n hx hb dX5_awake_5 rfl (lv_at hl 2 rfl) ?_
    refine va_get (D := D) (ci := 6) (v := .int (M 10 0)) (C := RX5) (T := TX5) (N := 23) hx hb hts inX5 hown hK (hW.p (e := (eMod ad M)) rfl) 0 rfl rfl 10 (by decide) (hts (.fieldLink RX5 69 "StoryTollModel" "guards" "I") (List.mem_of_getElem? (i := 1) rfl)) (fun _ h9 => h9) rfl dX5_awake_6 ?_
    refine lv_icmp_ge (tgt := 29) hx hb dX5_awake_9 (by decide) (fun c_9_0 => ?_) (fun c_9_0 => ?_)
    · refine lv_iload_n hx hb dX5_awake_29 rfl (lv_at hl 1 rfl) ?_
      exact g_iret hx hb hr hlk hh hS (show (gIt (L_X5_awake M) 0 (n 1)) = f_X5_awake n M from by rw [f_X5_awake]) dX5_awake_30
    · exact absurd (g_le hb1 (by omega)) c_9_0
  · have hl : lv_has ls 3 [(2, .int (nI j)), (1, .int (gIt (L_X5_awake M) 0 j)), (0, .ref (ad 0 1))] := hl
    refine lv_iload_n hx hb dX5_awake_4 rfl (lv_at hl 0 rfl) ?_
    refine lv_aload_n hx hb dX5_awake_5 rfl (lv_at hl 2 rfl) ?_
    refine va_get (D := D) (ci := 6) (v := .int (M 10 0)) (C := RX5) (T := TX5) (N := 23) hx hb hts inX5 hown hK (hW.p (e := (eMod ad M)) rfl) 0 rfl rfl 10 (by decide) (hts (.fieldLink RX5 69 "StoryTollModel" "guards" "I") (List.mem_of_getElem? (i := 1) rfl)) (fun _ h9 => h9) rfl dX5_awake_6 ?_
    refine lv_icmp_ge (tgt := 29) hx hb dX5_awake_9 (by decide) (fun c_9_1 => ?_) (fun c_9_1 => ?_)
    · exact absurd c_9_1 (g_ge hb1 (by omega) hj)
    · refine lv_iload_n hx hb dX5_awake_12 rfl (lv_at hl 1 rfl) ?_
      refine lv_iconst (v := 1) hx hb dX5_awake_13 (by decide) ?_
      refine lv_aload_n hx hb dX5_awake_14 rfl (lv_at hl 2 rfl) ?_
      refine va_get (D := D) (ci := 6) (v := .ref (ad 9 11)) (C := RX5) (T := TX5) (N := 23) hx hb hts inX5 hown hK (hW.p (e := (eMod ad M)) rfl) 0 rfl rfl 11 (by decide) (hts (.fieldLink RX5 29 "StoryTollModel" "asleep" "[I") (List.mem_of_getElem? (i := 2) rfl)) (fun _ h9 => h9) rfl dX5_awake_15 ?_
      refine lv_iload_n hx hb dX5_awake_18 rfl (lv_at hl 0 rfl) ?_
      refine g_ild hx hb hK hW 0 (n := 4) (f := (M 11)) rfl rfl (k := j) rfl (by omega) (by decide) dX5_awake_19 ?_
      refine lv_isub hx hb dX5_awake_20 ?_
      refine lv_iadd hx hb dX5_awake_21 ?_
      refine lv_istore_n (lv' := [(1, .int ((gIt (L_X5_awake M) 0 j) + (1 - (M 11 j)))), (2, .int (nI j)), (0, .ref (ad 0 1))]) hx hb dX5_awake_22 rfl hl (by decide) rfl (fun ls hl => ?_)
      refine lv_iinc (v := (nI (j + 1))) (lv' := [(2, .int (nI (j + 1))), (1, .int ((gIt (L_X5_awake M) 0 j) + (1 - (M 11 j)))), (0, .ref (ad 0 1))]) hx hb dX5_awake_23 hl (k := 1) rfl (nI_1 _) (by decide) rfl (fun ls hl => ?_)
      refine lv_goto (tgt := 4) hx hb dX5_awake_26 (by decide) ?_
      have ea : ((gIt (L_X5_awake M) 0 j) + (1 - (M 11 j))) = (gIt (L_X5_awake M) 0 (j + 1)) := by rw [gIt_s, L_X5_awake]
      have hl2 : lv_has ls 3 [(2, .int (nI (j + 1))), (1, .int (gIt (L_X5_awake M) 0 (j + 1))), (0, .ref (ad 0 1))] := by rw [← ea]; exact lv_sub hl [0, 1, 2] rfl
      exact ih ls locs hl2 hS
def f_X5_sceneTold (M : gT) (i : Nat) (w : Int32) : Int32 := (if w = 0 then (M 3 i) else (if w = 1 then (M 4 i) else (if w = 2 then (M 5 i) else (if w = 3 then (f_bitc (M 6 i)) else (M 7 i)))))
set_option maxHeartbeats 4000000 in
set_option maxRecDepth 100000 in
theorem c_X5_sceneTold (l : Launch) (D : va_G) (G : gG) (A : Nat → Prop) (ad : gAd) (N : gN) (C M : gT) (o : Nat → Int64) (Hp : Heap) (hW : gW D A ad (Wd G ad N C M o) Hp) (n : gN) (hI : IM n M) (i : Nat) (w : Int32) (hi : i < n 0) : Met l yX5_sceneTold wsX5_sceneTold ({ frames := 1, cells := 0, slots := 0, locals := 20 }) (va_Pc [.ref (ad 0 1), .int (nI i), .int w] (gQ D (gTs G) Hp)) (gRi (fun r => r = f_X5_sceneTold M i w) Hp) 0 0 gF := by
  refine g_start (cc := cX5_sceneTold) (maxL := 3) (ret := (some .int)) (by decide) rfl (Nat.le_of_ble_eq_true rfl) (fun p e s m below meth c ls C0 hr hlk hnm hh hK hl => ?_)
  obtain ⟨hx, hb, hml, hown, hts⟩ := id C0
  have hown : s.vm.findClass RX5 = some m.cls := hown
  have hS : va_S gF Hp Hp [] := va_S.rf
  have hl : lv_has ls 3 [(0, .ref (ad 0 1)), (1, .int (nI i)), (2, .int w)] := hl
  have inX5 : ∀ w ∈ wsX50, w ∈ wsX5_sceneTold := by decide +kernel
  obtain ⟨⟨hb0, hn0⟩, ⟨hb1, hn1⟩, ⟨hb2, hn2⟩, ⟨hb3, hn3⟩, hpl, hhe⟩ := id hI
  refine lv_iload_n hx hb dX5_sceneTold_0 rfl (lv_at hl 2 rfl) ?_
  refine lv_if_ne (tgt := 13) hx hb dX5_sceneTold_1 (by decide) (fun c_1_0 => ?_) (fun c_1_0 => ?_)
  · refine lv_iload_n hx hb dX5_sceneTold_13 rfl (lv_at hl 2 rfl) ?_
    refine lv_iconst (v := 1) hx hb dX5_sceneTold_14 (by decide) ?_
    refine lv_icmp_ne (tgt := 27) hx hb dX5_sceneTold_15 (by decide) (fun c_15_1 => ?_) (fun c_15_1 => ?_)
    · refine lv_iload_n hx hb dX5_sceneTold_27 rfl (lv_at hl 2 rfl) ?_
      refine lv_iconst (v := 2) hx hb dX5_sceneTold_28 (by decide) ?_
      refine lv_icmp_ne (tgt := 41) hx hb dX5_sceneTold_29 (by decide) (fun c_29_2 => ?_) (fun c_29_2 => ?_)
      · refine lv_iload_n hx hb dX5_sceneTold_41 rfl (lv_at hl 2 rfl) ?_
        refine lv_iconst (v := 3) hx hb dX5_sceneTold_42 (by decide) ?_
        refine lv_icmp_ne (tgt := 58) hx hb dX5_sceneTold_43 (by decide) (fun c_43_3 => ?_) (fun c_43_3 => ?_)
        · refine lv_aload_n hx hb dX5_sceneTold_58 rfl (lv_at hl 0 rfl) ?_
          refine va_get (D := D) (ci := 6) (v := .ref (ad 9 7)) (C := RX5) (T := TX5) (N := 23) hx hb hts inX5 hown hK (hW.p (e := (eMod ad M)) rfl) 0 rfl rfl 7 (by decide) (hts (.fieldLink RX5 22 "StoryTollModel" "times" "[I") (List.mem_of_getElem? (i := 5) rfl)) (fun _ h9 => h9) rfl dX5_sceneTold_59 ?_
          refine lv_iload_n hx hb dX5_sceneTold_62 rfl (lv_at hl 1 rfl) ?_
          refine g_ild hx hb hK hW 0 (n := 24) (f := (M 7)) rfl rfl (k := i) rfl (by omega) (by decide) dX5_sceneTold_63 ?_
          exact g_iret hx hb hr hlk hh hS (show (M 7 i) = f_X5_sceneTold M i w from by rw [f_X5_sceneTold, if_neg c_1_0, if_neg c_15_1, if_neg c_29_2, if_neg c_43_3]) dX5_sceneTold_64
        · refine lv_aload_n hx hb dX5_sceneTold_46 rfl (lv_at hl 0 rfl) ?_
          refine va_get (D := D) (ci := 6) (v := .ref (ad 9 6)) (C := RX5) (T := TX5) (N := 23) hx hb hts inX5 hown hK (hW.p (e := (eMod ad M)) rfl) 0 rfl rfl 6 (by decide) (hts (.fieldLink RX5 19 "StoryTollModel" "behind" "[I") (List.mem_of_getElem? (i := 4) rfl)) (fun _ h9 => h9) rfl dX5_sceneTold_47 ?_
          refine lv_iload_n hx hb dX5_sceneTold_50 rfl (lv_at hl 1 rfl) ?_
          refine g_ild hx hb hK hW 0 (n := 24) (f := (M 6)) rfl rfl (k := i) rfl (by omega) (by decide) dX5_sceneTold_51 ?_
          refine g_Si (As := [.int (M 6 i)]) (rest := []) C0 (c_J6_bitCount_0f7a4 l D G Hp (M 6 i)) (va_cwS 1 hts gX5_sceneTold_J6_bitCount_0f7a4 rfl rfl rfl (by decide +kernel) ⟨Nat.le_of_ble_eq_true rfl, Nat.le_of_ble_eq_true rfl⟩) hK rfl hl rfl (Nat.le_of_ble_eq_true rfl) dX5_sceneTold_52 ⟨Nat.zero_le _, Nat.zero_le _⟩ hS (fun r_5 locs hr_5 hS => ?_)
          subst hr_5
          refine lv_goto (tgt := 64) hx hb dX5_sceneTold_55 (by decide) ?_
          exact g_iret hx hb hr hlk hh hS (show (f_bitc (M 6 i)) = f_X5_sceneTold M i w from by rw [f_X5_sceneTold, if_neg c_1_0, if_neg c_15_1, if_neg c_29_2, if_pos c_43_3]) dX5_sceneTold_64
      · refine lv_aload_n hx hb dX5_sceneTold_32 rfl (lv_at hl 0 rfl) ?_
        refine va_get (D := D) (ci := 6) (v := .ref (ad 9 5)) (C := RX5) (T := TX5) (N := 23) hx hb hts inX5 hown hK (hW.p (e := (eMod ad M)) rfl) 0 rfl rfl 5 (by decide) (hts (.fieldLink RX5 16 "StoryTollModel" "hue" "[I") (List.mem_of_getElem? (i := 3) rfl)) (fun _ h9 => h9) rfl dX5_sceneTold_33 ?_
        refine lv_iload_n hx hb dX5_sceneTold_36 rfl (lv_at hl 1 rfl) ?_
        refine g_ild hx hb hK hW 0 (n := 24) (f := (M 5)) rfl rfl (k := i) rfl (by omega) (by decide) dX5_sceneTold_37 ?_
        refine lv_goto (tgt := 64) hx hb dX5_sceneTold_38 (by decide) ?_
        exact g_iret hx hb hr hlk hh hS (show (M 5 i) = f_X5_sceneTold M i w from by rw [f_X5_sceneTold, if_neg c_1_0, if_neg c_15_1, if_pos c_29_2]) dX5_sceneTold_64
    · refine lv_aload_n hx hb dX5_sceneTold_18 rfl (lv_at hl 0 rfl) ?_
      refine va_get (D := D) (ci := 6) (v := .ref (ad 9 4)) (C := RX5) (T := TX5) (N := 23) hx hb hts inX5 hown hK (hW.p (e := (eMod ad M)) rfl) 0 rfl rfl 4 (by decide) (hts (.fieldLink RX5 13 "StoryTollModel" "wonder" "[I") (List.mem_of_getElem? (i := 2) rfl)) (fun _ h9 => h9) rfl dX5_sceneTold_19 ?_
      refine lv_iload_n hx hb dX5_sceneTold_22 rfl (lv_at hl 1 rfl) ?_
      refine g_ild hx hb hK hW 0 (n := 24) (f := (M 4)) rfl rfl (k := i) rfl (by omega) (by decide) dX5_sceneTold_23 ?_
      refine lv_goto (tgt := 64) hx hb dX5_sceneTold_24 (by decide) ?_
      exact g_iret hx hb hr hlk hh hS (show (M 4 i) = f_X5_sceneTold M i w from by rw [f_X5_sceneTold, if_neg c_1_0, if_pos c_15_1]) dX5_sceneTold_64
  · refine lv_aload_n hx hb dX5_sceneTold_4 rfl (lv_at hl 0 rfl) ?_
    refine va_get (D := D) (ci := 6) (v := .ref (ad 9 3)) (C := RX5) (T := TX5) (N := 23) hx hb hts inX5 hown hK (hW.p (e := (eMod ad M)) rfl) 0 rfl rfl 3 (by decide) (hts (.fieldLink RX5 9 "StoryTollModel" "kind" "[I") (List.mem_of_getElem? (i := 1) rfl)) (fun _ h9 => h9) rfl dX5_sceneTold_5 ?_
    refine lv_iload_n hx hb dX5_sceneTold_8 rfl (lv_at hl 1 rfl) ?_
    refine g_ild hx hb hK hW 0 (n := 24) (f := (M 3)) rfl rfl (k := i) rfl (by omega) (by decide) dX5_sceneTold_9 ?_
    refine lv_goto (tgt := 64) hx hb dX5_sceneTold_10 (by decide) ?_
    exact g_iret hx hb hr hlk hh hS (show (M 3 i) = f_X5_sceneTold M i w from by rw [f_X5_sceneTold, if_pos c_1_0]) dX5_sceneTold_64
def L_X5_guardTold (M : gT) (g : Nat) (j : Nat) (acc : Int32) : Int32 := (acc + (M 13 (24 * g + j)))
def f_X5_guardTold (M : gT) (g : Nat) (w : Int32) : Int32 := (if w = 0 then (1 - (M 11 g)) else (if w = 1 then (M 12 g) else (gIt (L_X5_guardTold M g) 0 24)))
set_option maxHeartbeats 4000000 in
set_option maxRecDepth 100000 in
theorem c_X5_guardTold (l : Launch) (D : va_G) (G : gG) (A : Nat → Prop) (ad : gAd) (N : gN) (C M : gT) (o : Nat → Int64) (Hp : Heap) (hW : gW D A ad (Wd G ad N C M o) Hp) (n : gN) (hI : IM n M) (g : Nat) (w : Int32) (hg : g < n 1) : Met l yX5_guardTold wsX5_guardTold ({ frames := 0, cells := 0, slots := 0, locals := 0 }) (va_Pc [.ref (ad 0 1), .int (nI g), .int w] (gQ D (gTs G) Hp)) (gRi (fun r => r = f_X5_guardTold M g w) Hp) 0 0 gF := by
  refine g_start (cc := cX5_guardTold) (maxL := 5) (ret := (some .int)) (by decide) rfl (Nat.le_of_ble_eq_true rfl) (fun p e s m below meth c ls C0 hr hlk hnm hh hK hl => ?_)
  obtain ⟨hx, hb, hml, hown, hts⟩ := id C0
  have hown : s.vm.findClass RX5 = some m.cls := hown
  have hS : va_S gF Hp Hp [] := va_S.rf
  have hl : lv_has ls 5 [(0, .ref (ad 0 1)), (1, .int (nI g)), (2, .int w)] := hl
  have inX5 : ∀ w ∈ wsX50, w ∈ wsX5_guardTold := by decide +kernel
  obtain ⟨⟨hb0, hn0⟩, ⟨hb1, hn1⟩, ⟨hb2, hn2⟩, ⟨hb3, hn3⟩, hpl, hhe⟩ := id hI
  refine lv_iconst (v := 0) hx hb dX5_guardTold_0 (by decide) ?_
  refine lv_istore_n (lv' := [(3, .int 0), (0, .ref (ad 0 1)), (1, .int (nI g)), (2, .int w)]) hx hb dX5_guardTold_1 rfl hl (by decide) rfl (fun ls hl => ?_)
  refine lv_iconst (v := 0) hx hb dX5_guardTold_2 (by decide) ?_
  refine lv_istore (lv' := [(4, .int 0), (3, .int 0), (0, .ref (ad 0 1)), (1, .int (nI g)), (2, .int w)]) hx hb dX5_guardTold_3 hl (by decide) rfl (fun ls hl => ?_)
  refine g_loop (24) (fun j ls => lv_has ls 5 [(4, .int (nI j)), (3, .int (gIt (L_X5_guardTold M g) 0 j)), (0, .ref (ad 0 1)), (1, .int (nI g)), (2, .int w)]) (lv_sub hl [0, 1, 2, 3, 4] rfl) hS (fun ls locs hl hS => ?_) (fun j ls locs hj hl hS ih => ?_)
  · have hl : lv_has ls 5 [(4, .int (nI 24)), (3, .int (gIt (L_X5_guardTold M g) 0 24)), (0, .ref (ad 0 1)), (1, .int (nI g)), (2, .int w)] := hl
    refine lv_iload hx hb dX5_guardTold_5 (lv_at hl 0 rfl) ?_
    refine lv_bipush (v := 24) hx hb dX5_guardTold_7 (by decide) ?_
    refine lv_icmp_ge (tgt := 33) hx hb dX5_guardTold_9 (by decide) (fun c_9_0 => ?_) (fun c_9_0 => ?_)
    · refine lv_iload_n hx hb dX5_guardTold_33 rfl (lv_at hl 4 rfl) ?_
      refine lv_if_ne (tgt := 48) hx hb dX5_guardTold_34 (by decide) (fun c_34_1 => ?_) (fun c_34_1 => ?_)
      · refine lv_iload_n hx hb dX5_guardTold_48 rfl (lv_at hl 4 rfl) ?_
        refine lv_iconst (v := 1) hx hb dX5_guardTold_49 (by decide) ?_
        refine lv_icmp_ne (tgt := 62) hx hb dX5_guardTold_50 (by decide) (fun c_50_2 => ?_) (fun c_50_2 => ?_)
        · refine lv_iload_n hx hb dX5_guardTold_62 rfl (lv_at hl 1 rfl) ?_
          exact g_iret hx hb hr hlk hh hS (show (gIt (L_X5_guardTold M g) 0 24) = f_X5_guardTold M g w from by rw [f_X5_guardTold, if_neg c_34_1, if_neg c_50_2]) dX5_guardTold_63
        · refine lv_aload_n hx hb dX5_guardTold_53 rfl (lv_at hl 2 rfl) ?_
          refine va_get (D := D) (ci := 6) (v := .ref (ad 9 12)) (C := RX5) (T := TX5) (N := 23) hx hb hts inX5 hown hK (hW.p (e := (eMod ad M)) rfl) 0 rfl rfl 12 (by decide) (hts (.fieldLink RX5 32 "StoryTollModel" "patience" "[I") (List.mem_of_getElem? (i := 3) rfl)) (fun _ h9 => h9) rfl dX5_guardTold_54 ?_
          refine lv_iload_n hx hb dX5_guardTold_57 rfl (lv_at hl 3 rfl) ?_
          refine g_ild hx hb hK hW 0 (n := 4) (f := (M 12)) rfl rfl (k := g) rfl (by omega) (by decide) dX5_guardTold_58 ?_
          refine lv_goto (tgt := 63) hx hb dX5_guardTold_59 (by decide) ?_
          exact g_iret hx hb hr hlk hh hS (show (M 12 g) = f_X5_guardTold M g w from by rw [f_X5_guardTold, if_neg c_34_1, if_pos c_50_2]) dX5_guardTold_63
      · refine lv_iconst (v := 1) hx hb dX5_guardTold_37 (by decide) ?_
        refine lv_aload_n hx hb dX5_guardTold_38 rfl (lv_at hl 2 rfl) ?_
        refine va_get (D := D) (ci := 6) (v := .ref (ad 9 11)) (C := RX5) (T := TX5) (N := 23) hx hb hts inX5 hown hK (hW.p (e := (eMod ad M)) rfl) 0 rfl rfl 11 (by decide) (hts (.fieldLink RX5 29 "StoryTollModel" "asleep" "[I") (List.mem_of_getElem? (i := 2) rfl)) (fun _ h9 => h9) rfl dX5_guardTold_39 ?_
        refine lv_iload_n hx hb dX5_guardTold_42 rfl (lv_at hl 3 rfl) ?_
        refine g_ild hx hb hK hW 0 (n := 4) (f := (M 11)) rfl rfl (k := g) rfl (by omega) (by decide) dX5_guardTold_43 ?_
        refine lv_isub hx hb dX5_guardTold_44 ?_
        refine lv_goto (tgt := 63) hx hb dX5_guardTold_45 (by decide) ?_
        exact g_iret hx hb hr hlk hh hS (show (1 - (M 11 g)) = f_X5_guardTold M g w from by rw [f_X5_guardTold, if_pos c_34_1]) dX5_guardTold_63
    · exact absurd (g_le (show (24 : Int32) = nI 24 from rfl) (by omega)) c_9_0
  · have hl : lv_has ls 5 [(4, .int (nI j)), (3, .int (gIt (L_X5_guardTold M g) 0 j)), (0, .ref (ad 0 1)), (1, .int (nI g)), (2, .int w)] := hl
    refine lv_iload hx hb dX5_guardTold_5 (lv_at hl 0 rfl) ?_
    refine lv_bipush (v := 24) hx hb dX5_guardTold_7 (by decide) ?_
    refine lv_icmp_ge (tgt := 33) hx hb dX5_guardTold_9 (by decide) (fun c_9_3 => ?_) (fun c_9_3 => ?_)
    · exact absurd c_9_3 (g_ge (show (24 : Int32) = nI 24 from rfl) (by omega) hj)
    · refine lv_iload_n hx hb dX5_guardTold_12 rfl (lv_at hl 1 rfl) ?_
      refine lv_aload_n hx hb dX5_guardTold_13 rfl (lv_at hl 2 rfl) ?_
      refine va_get (D := D) (ci := 6) (v := .ref (ad 9 13)) (C := RX5) (T := TX5) (N := 23) hx hb hts inX5 hown hK (hW.p (e := (eMod ad M)) rfl) 0 rfl rfl 13 (by decide) (hts (.fieldLink RX5 35 "StoryTollModel" "heard" "[I") (List.mem_of_getElem? (i := 1) rfl)) (fun _ h9 => h9) rfl dX5_guardTold_14 ?_
      refine lv_bipush (v := 24) hx hb dX5_guardTold_17 (by decide) ?_
      refine lv_iload_n hx hb dX5_guardTold_19 rfl (lv_at hl 3 rfl) ?_
      refine lv_imul hx hb dX5_guardTold_20 ?_
      refine lv_iload hx hb dX5_guardTold_21 (lv_at hl 0 rfl) ?_
      refine lv_iadd hx hb dX5_guardTold_23 ?_
      refine g_ild hx hb hK hW 0 (n := 96) (f := (M 13)) rfl rfl (k := (24 * g + j)) (ix24 g j) (by omega) (by decide) dX5_guardTold_24 ?_
      refine lv_iadd hx hb dX5_guardTold_25 ?_
      refine lv_istore_n (lv' := [(3, .int ((gIt (L_X5_guardTold M g) 0 j) + (M 13 (24 * g + j)))), (4, .int (nI j)), (0, .ref (ad 0 1)), (1, .int (nI g)), (2, .int w)]) hx hb dX5_guardTold_26 rfl hl (by decide) rfl (fun ls hl => ?_)
      refine lv_iinc (v := (nI (j + 1))) (lv' := [(4, .int (nI (j + 1))), (3, .int ((gIt (L_X5_guardTold M g) 0 j) + (M 13 (24 * g + j)))), (0, .ref (ad 0 1)), (1, .int (nI g)), (2, .int w)]) hx hb dX5_guardTold_27 hl (k := 1) rfl (nI_1 _) (by decide) rfl (fun ls hl => ?_)
      refine lv_goto (tgt := 5) hx hb dX5_guardTold_30 (by decide) ?_
      have ea : ((gIt (L_X5_guardTold M g) 0 j) + (M 13 (24 * g + j))) = (gIt (L_X5_guardTold M g) 0 (j + 1)) := by rw [gIt_s, L_X5_guardTold]
      have hl2 : lv_has ls 5 [(4, .int (nI (j + 1))), (3, .int (gIt (L_X5_guardTold M g) 0 (j + 1))), (0, .ref (ad 0 1)), (1, .int (nI g)), (2, .int w)] := by rw [← ea]; exact lv_sub hl [0, 1, 2, 3, 4] rfl
      exact ih ls locs hl2 hS
def L_X5_plotTold (M : gT) (q : Nat) (j : Nat) (acc : Int32) : Int32 := (acc + (M 4 (rwM M q j)))
def f_X5_plotTold (M : gT) (q : Nat) (w : Int32) : Int32 := (if w = 0 then (M 20 q) else (if w = 1 then (if (f_X5_isOpen M q) = 0 then 0 else 1) else (if w = 2 then (M 22 q) else (gIt (L_X5_plotTold M q) 0 (szM M q)))))
set_option maxHeartbeats 4000000 in
set_option maxRecDepth 100000 in
theorem c_X5_plotTold (l : Launch) (D : va_G) (G : gG) (A : Nat → Prop) (ad : gAd) (N : gN) (C M : gT) (o : Nat → Int64) (Hp : Heap) (hW : gW D A ad (Wd G ad N C M o) Hp) (n : gN) (hI : IM n M) (q : Nat) (w : Int32) (hp : q < n 3) : Met l yX5_plotTold wsX5_plotTold ({ frames := 2, cells := 0, slots := 0, locals := 42 }) (va_Pc [.ref (ad 0 1), .int (nI q), .int w] (gQ D (gTs G) Hp)) (gRi (fun r => r = f_X5_plotTold M q w) Hp) 0 0 gF := by
  refine g_start (cc := cX5_plotTold) (maxL := 5) (ret := (some .int)) (by decide) rfl (Nat.le_of_ble_eq_true rfl) (fun p e s m below meth c ls C0 hr hlk hnm hh hK hl => ?_)
  obtain ⟨hx, hb, hml, hown, hts⟩ := id C0
  have hown : s.vm.findClass RX5 = some m.cls := hown
  have hS : va_S gF Hp Hp [] := va_S.rf
  have hl : lv_has ls 5 [(0, .ref (ad 0 1)), (1, .int (nI q)), (2, .int w)] := hl
  have inX5 : ∀ w ∈ wsX50, w ∈ wsX5_plotTold := by decide +kernel
  obtain ⟨⟨hb0, hn0⟩, ⟨hb1, hn1⟩, ⟨hb2, hn2⟩, ⟨hb3, hn3⟩, hpl, hhe⟩ := id hI
  obtain ⟨hs1, hs2, hs3, hrw⟩ := hpl q hp
  refine lv_iconst (v := 0) hx hb dX5_plotTold_0 (by decide) ?_
  refine lv_istore_n (lv' := [(3, .int 0), (0, .ref (ad 0 1)), (1, .int (nI q)), (2, .int w)]) hx hb dX5_plotTold_1 rfl hl (by decide) rfl (fun ls hl => ?_)
  refine lv_iconst (v := 0) hx hb dX5_plotTold_2 (by decide) ?_
  refine lv_istore (lv' := [(4, .int 0), (3, .int 0), (0, .ref (ad 0 1)), (1, .int (nI q)), (2, .int w)]) hx hb dX5_plotTold_3 hl (by decide) rfl (fun ls hl => ?_)
  refine g_loop (szM M q) (fun j ls => lv_has ls 5 [(4, .int (nI j)), (3, .int (gIt (L_X5_plotTold M q) 0 j)), (0, .ref (ad 0 1)), (1, .int (nI q)), (2, .int w)]) (lv_sub hl [0, 1, 2, 3, 4] rfl) hS (fun ls locs hl hS => ?_) (fun j ls locs hj hl hS ih => ?_)
  · have hl : lv_has ls 5 [(4, .int (nI (szM M q))), (3, .int (gIt (L_X5_plotTold M q) 0 (szM M q))), (0, .ref (ad 0 1)), (1, .int (nI q)), (2, .int w)] := hl
    refine lv_iload hx hb dX5_plotTold_5 (lv_at hl 0 rfl) ?_
    refine lv_aload_n hx hb dX5_plotTold_7 rfl (lv_at hl 2 rfl) ?_
    refine va_get (D := D) (ci := 6) (v := .ref (ad 9 20)) (C := RX5) (T := TX5) (N := 23) hx hb hts inX5 hown hK (hW.p (e := (eMod ad M)) rfl) 0 rfl rfl 20 (by decide) (hts (.fieldLink RX5 50 "StoryTollModel" "size" "[I") (List.mem_of_getElem? (i := 1) rfl)) (fun _ h9 => h9) rfl dX5_plotTold_8 ?_
    refine lv_iload_n hx hb dX5_plotTold_11 rfl (lv_at hl 3 rfl) ?_
    refine g_ild hx hb hK hW 0 (n := 8) (f := (M 20)) rfl rfl (k := q) rfl (by omega) (by decide) dX5_plotTold_12 ?_
    refine lv_icmp_ge (tgt := 42) hx hb dX5_plotTold_13 (by decide) (fun c_13_0 => ?_) (fun c_13_0 => ?_)
    · refine lv_iload_n hx hb dX5_plotTold_42 rfl (lv_at hl 4 rfl) ?_
      refine lv_if_ne (tgt := 55) hx hb dX5_plotTold_43 (by decide) (fun c_43_1 => ?_) (fun c_43_1 => ?_)
      · refine lv_iload_n hx hb dX5_plotTold_55 rfl (lv_at hl 4 rfl) ?_
        refine lv_iconst (v := 1) hx hb dX5_plotTold_56 (by decide) ?_
        refine lv_icmp_ne (tgt := 76) hx hb dX5_plotTold_57 (by decide) (fun c_57_2 => ?_) (fun c_57_2 => ?_)
        · refine lv_iload_n hx hb dX5_plotTold_76 rfl (lv_at hl 4 rfl) ?_
          refine lv_iconst (v := 2) hx hb dX5_plotTold_77 (by decide) ?_
          refine lv_icmp_ne (tgt := 90) hx hb dX5_plotTold_78 (by decide) (fun c_78_3 => ?_) (fun c_78_3 => ?_)
          · refine lv_iload_n hx hb dX5_plotTold_90 rfl (lv_at hl 1 rfl) ?_
            exact g_iret hx hb hr hlk hh hS (show (gIt (L_X5_plotTold M q) 0 (szM M q)) = f_X5_plotTold M q w from by rw [f_X5_plotTold, if_neg c_43_1, if_neg c_57_2, if_neg c_78_3]) dX5_plotTold_91
          · refine lv_aload_n hx hb dX5_plotTold_81 rfl (lv_at hl 2 rfl) ?_
            refine va_get (D := D) (ci := 6) (v := .ref (ad 9 22)) (C := RX5) (T := TX5) (N := 23) hx hb hts inX5 hown hK (hW.p (e := (eMod ad M)) rfl) 0 rfl rfl 22 (by decide) (hts (.fieldLink RX5 56 "StoryTollModel" "keeper" "[I") (List.mem_of_getElem? (i := 4) rfl)) (fun _ h9 => h9) rfl dX5_plotTold_82 ?_
            refine lv_iload_n hx hb dX5_plotTold_85 rfl (lv_at hl 3 rfl) ?_
            refine g_ild hx hb hK hW 0 (n := 8) (f := (M 22)) rfl rfl (k := q) rfl (by omega) (by decide) dX5_plotTold_86 ?_
            refine lv_goto (tgt := 91) hx hb dX5_plotTold_87 (by decide) ?_
            exact g_iret hx hb hr hlk hh hS (show (M 22 q) = f_X5_plotTold M q w from by rw [f_X5_plotTold, if_neg c_43_1, if_neg c_57_2, if_pos c_78_3]) dX5_plotTold_91
        · refine lv_aload_n hx hb dX5_plotTold_60 rfl (lv_at hl 2 rfl) ?_
          refine lv_iload_n hx hb dX5_plotTold_61 rfl (lv_at hl 3 rfl) ?_
          refine g_Vi (As := [.int (nI q)]) (rest := []) C0 (c_X5_isOpen l D G A ad N C M o Hp hW n hI q (by omega)) (cwV 1 hts gX5_plotTold_X5_isOpen rfl rfl rfl (by decide +kernel) ⟨Nat.le_of_ble_eq_true rfl, Nat.le_of_ble_eq_true rfl⟩) hK (va_recv hK (hW.p rfl) (ci := 6) (q0 := 0) rfl rfl) rfl hl rfl (Nat.le_of_ble_eq_true rfl) dX5_plotTold_62 ⟨Nat.zero_le _, Nat.zero_le _⟩ hS (fun r_5 locs hr_5 hS => ?_)
          subst hr_5
          refine lv_if_eq (tgt := 72) hx hb dX5_plotTold_65 (by decide) (fun c_65_5 => ?_) (fun c_65_5 => ?_)
          · refine lv_iconst (v := 0) hx hb dX5_plotTold_72 (by decide) ?_
            refine lv_goto (tgt := 91) hx hb dX5_plotTold_73 (by decide) ?_
            exact g_iret hx hb hr hlk hh hS (show 0 = f_X5_plotTold M q w from by rw [f_X5_plotTold, if_neg c_43_1, if_pos c_57_2, if_pos c_65_5]) dX5_plotTold_91
          · refine lv_iconst (v := 1) hx hb dX5_plotTold_68 (by decide) ?_
            refine lv_goto (tgt := 91) hx hb dX5_plotTold_69 (by decide) ?_
            exact g_iret hx hb hr hlk hh hS (show 1 = f_X5_plotTold M q w from by rw [f_X5_plotTold, if_neg c_43_1, if_pos c_57_2, if_neg c_65_5]) dX5_plotTold_91
      · refine lv_aload_n hx hb dX5_plotTold_46 rfl (lv_at hl 2 rfl) ?_
        refine va_get (D := D) (ci := 6) (v := .ref (ad 9 20)) (C := RX5) (T := TX5) (N := 23) hx hb hts inX5 hown hK (hW.p (e := (eMod ad M)) rfl) 0 rfl rfl 20 (by decide) (hts (.fieldLink RX5 50 "StoryTollModel" "size" "[I") (List.mem_of_getElem? (i := 1) rfl)) (fun _ h9 => h9) rfl dX5_plotTold_47 ?_
        refine lv_iload_n hx hb dX5_plotTold_50 rfl (lv_at hl 3 rfl) ?_
        refine g_ild hx hb hK hW 0 (n := 8) (f := (M 20)) rfl rfl (k := q) rfl (by omega) (by decide) dX5_plotTold_51 ?_
        refine lv_goto (tgt := 91) hx hb dX5_plotTold_52 (by decide) ?_
        exact g_iret hx hb hr hlk hh hS (show (M 20 q) = f_X5_plotTold M q w from by rw [f_X5_plotTold, if_pos c_43_1]) dX5_plotTold_91
    · exact absurd (g_le hs1 (by omega)) c_13_0
  · have hl : lv_has ls 5 [(4, .int (nI j)), (3, .int (gIt (L_X5_plotTold M q) 0 j)), (0, .ref (ad 0 1)), (1, .int (nI q)), (2, .int w)] := hl
    obtain ⟨hq1, hq2⟩ := hrw j hj
    refine lv_iload hx hb dX5_plotTold_5 (lv_at hl 0 rfl) ?_
    refine lv_aload_n hx hb dX5_plotTold_7 rfl (lv_at hl 2 rfl) ?_
    refine va_get (D := D) (ci := 6) (v := .ref (ad 9 20)) (C := RX5) (T := TX5) (N := 23) hx hb hts inX5 hown hK (hW.p (e := (eMod ad M)) rfl) 0 rfl rfl 20 (by decide) (hts (.fieldLink RX5 50 "StoryTollModel" "size" "[I") (List.mem_of_getElem? (i := 1) rfl)) (fun _ h9 => h9) rfl dX5_plotTold_8 ?_
    refine lv_iload_n hx hb dX5_plotTold_11 rfl (lv_at hl 3 rfl) ?_
    refine g_ild hx hb hK hW 0 (n := 8) (f := (M 20)) rfl rfl (k := q) rfl (by omega) (by decide) dX5_plotTold_12 ?_
    refine lv_icmp_ge (tgt := 42) hx hb dX5_plotTold_13 (by decide) (fun c_13_6 => ?_) (fun c_13_6 => ?_)
    · exact absurd c_13_6 (g_ge hs1 (by omega) hj)
    · refine lv_iload_n hx hb dX5_plotTold_16 rfl (lv_at hl 1 rfl) ?_
      refine lv_aload_n hx hb dX5_plotTold_17 rfl (lv_at hl 2 rfl) ?_
      refine va_get (D := D) (ci := 6) (v := .ref (ad 9 4)) (C := RX5) (T := TX5) (N := 23) hx hb hts inX5 hown hK (hW.p (e := (eMod ad M)) rfl) 0 rfl rfl 4 (by decide) (hts (.fieldLink RX5 13 "StoryTollModel" "wonder" "[I") (List.mem_of_getElem? (i := 2) rfl)) (fun _ h9 => h9) rfl dX5_plotTold_18 ?_
      refine lv_aload_n hx hb dX5_plotTold_21 rfl (lv_at hl 2 rfl) ?_
      refine va_get (D := D) (ci := 6) (v := .ref (ad 9 21)) (C := RX5) (T := TX5) (N := 23) hx hb hts inX5 hown hK (hW.p (e := (eMod ad M)) rfl) 0 rfl rfl 21 (by decide) (hts (.fieldLink RX5 53 "StoryTollModel" "row" "[I") (List.mem_of_getElem? (i := 3) rfl)) (fun _ h9 => h9) rfl dX5_plotTold_22 ?_
      refine lv_bipush (v := 8) hx hb dX5_plotTold_25 (by decide) ?_
      refine lv_iload_n hx hb dX5_plotTold_27 rfl (lv_at hl 3 rfl) ?_
      refine lv_imul hx hb dX5_plotTold_28 ?_
      refine lv_iload hx hb dX5_plotTold_29 (lv_at hl 0 rfl) ?_
      refine lv_iadd hx hb dX5_plotTold_31 ?_
      refine g_ild hx hb hK hW 0 (n := 64) (f := (M 21)) rfl rfl (k := (8 * q + j)) (ix8 q j) (by omega) (by decide) dX5_plotTold_32 ?_
      refine g_ild hx hb hK hW 0 (n := 24) (f := (M 4)) rfl rfl (k := (rwM M q j)) hq1 (by omega) (by decide) dX5_plotTold_33 ?_
      refine lv_iadd hx hb dX5_plotTold_34 ?_
      refine lv_istore_n (lv' := [(3, .int ((gIt (L_X5_plotTold M q) 0 j) + (M 4 (rwM M q j)))), (4, .int (nI j)), (0, .ref (ad 0 1)), (1, .int (nI q)), (2, .int w)]) hx hb dX5_plotTold_35 rfl hl (by decide) rfl (fun ls hl => ?_)
      refine lv_iinc (v := (nI (j + 1))) (lv' := [(4, .int (nI (j + 1))), (3, .int ((gIt (L_X5_plotTold M q) 0 j) + (M 4 (rwM M q j)))), (0, .ref (ad 0 1)), (1, .int (nI q)), (2, .int w)]) hx hb dX5_plotTold_36 hl (k := 1) rfl (nI_1 _) (by decide) rfl (fun ls hl => ?_)
      refine lv_goto (tgt := 5) hx hb dX5_plotTold_39 (by decide) ?_
      have ea : ((gIt (L_X5_plotTold M q) 0 j) + (M 4 (rwM M q j))) = (gIt (L_X5_plotTold M q) 0 (j + 1)) := by rw [gIt_s, L_X5_plotTold]
      have hl2 : lv_has ls 5 [(4, .int (nI (j + 1))), (3, .int (gIt (L_X5_plotTold M q) 0 (j + 1))), (0, .ref (ad 0 1)), (1, .int (nI q)), (2, .int w)] := by rw [← ea]; exact lv_sub hl [0, 1, 2, 3, 4] rfl
      exact ih ls locs hl2 hS
