/-! THE CLASS: what its methods read of the lists -/
def f_X4_sceneAt (ad : gAd) (N : gN) (v : Int32) : Option Nat := (if v < 0 then none else (if (nI (N 0)) ≤ v then none else (some (ad 3 v.toNatClampNeg))))
set_option maxHeartbeats 4000000 in
set_option maxRecDepth 100000 in
theorem c_X4_sceneAt (l : Launch) (D : va_G) (G : gG) (A : Nat → Prop) (ad : gAd) (N : gN) (C M : gT) (o : Nat → Int64) (Hp : Heap) (hW : gW D A ad (Wd G ad N C M o) Hp) (hNN : gNN N) (v : Int32) : Met l yX4_sceneAt wsX4_sceneAt ({ frames := 3, cells := 0, slots := 0, locals := 64 }) (va_Pc [.ref (ad 0 0), .int v] (gQ D (gTs G) Hp)) (gRq (fun r => r = f_X4_sceneAt ad N v) Hp) 0 0 gF := by
  refine g_start (cc := cX4_sceneAt) (maxL := 2) (ret := (some (.object "StoryToll$Scene"))) (by decide) rfl (Nat.le_of_ble_eq_true rfl) (fun p e s m below meth c ls C0 hr hlk hnm hh hK hl => ?_)
  obtain ⟨hx, hb, hml, hown, hts⟩ := id C0
  have hown : s.vm.findClass RX4 = some m.cls := hown
  have hS : va_S gF Hp Hp [] := va_S.rf
  have hl : lv_has ls 2 [(0, .ref (ad 0 0)), (1, .int v)] := hl
  have inX4 : ∀ w ∈ wsX40, w ∈ wsX4_sceneAt := by decide +kernel
  have hn0 := hNN 0 (by decide)
  have hn1 := hNN 1 (by decide)
  have hn2 := hNN 2 (by decide)
  have hn3 := hNN 3 (by decide)
  refine lv_iload_n hx hb dX4_sceneAt_0 rfl (lv_at hl 1 rfl) ?_
  refine lv_if_lt (tgt := 29) hx hb dX4_sceneAt_1 (by decide) (fun c_1_0 => ?_) (fun c_1_0 => ?_)
  · refine lv_null hx hb dX4_sceneAt_29 ?_
    exact g_qret (r := none) rfl hx hb hr (Or.inl ⟨_, rfl⟩) hlk hh hS (show none = f_X4_sceneAt ad N v from by rw [f_X4_sceneAt, if_pos c_1_0]) dX4_sceneAt_30
  · refine lv_iload_n hx hb dX4_sceneAt_4 rfl (lv_at hl 1 rfl) ?_
    refine lv_aload_n hx hb dX4_sceneAt_5 rfl (lv_at hl 0 rfl) ?_
    refine va_get (D := D) (ci := 5) (v := .ref (ad 1 0)) (C := RX4) (T := TX4) (N := 9) hx hb hts inX4 hown hK (hW.p (e := (eToll ad C)) rfl) 0 rfl rfl 0 (by decide) (hts (.fieldLink RX4 10 "StoryToll" "scenes" "Ljava/util/ArrayList;") (List.mem_of_getElem? (i := 1) rfl)) (fun _ h9 => h9) rfl dX4_sceneAt_6 ?_
    refine g_Vi (As := []) (rest := [.int v]) C0 (c_Jx4a65c_size_8abf5 l D G A ad N C M o Hp hW 0 (by decide)) (cwV 0 hts gX4_sceneAt_Jx4a65c_size_8abf5 rfl rfl rfl (by decide +kernel) ⟨Nat.le_of_ble_eq_true rfl, Nat.le_of_ble_eq_true rfl⟩) hK (va_recv hK (hW.p (Wd_Li (by omega))) (ci := 0) (q0 := 0) rfl rfl) rfl hl rfl (Nat.le_of_ble_eq_true rfl) dX4_sceneAt_9 ⟨Nat.zero_le _, Nat.zero_le _⟩ hS (fun r_2 locs hr_2 hS => ?_)
    replace hr_2 : r_2 = (nI (N 0)) := hr_2
    subst r_2
    refine lv_icmp_ge (tgt := 29) hx hb dX4_sceneAt_12 (by decide) (fun c_12_2 => ?_) (fun c_12_2 => ?_)
    · refine lv_null hx hb dX4_sceneAt_29 ?_
      exact g_qret (r := none) rfl hx hb hr (Or.inl ⟨_, rfl⟩) hlk hh hS (show none = f_X4_sceneAt ad N v from by rw [f_X4_sceneAt, if_neg c_1_0, if_pos c_12_2]) dX4_sceneAt_30
    · have hv := gIn_of (n := N 0) (by omega) (gIn_p c_1_0 c_12_2 rfl)
      refine lv_aload_n hx hb dX4_sceneAt_15 rfl (lv_at hl 0 rfl) ?_
      refine va_get (D := D) (ci := 5) (v := .ref (ad 1 0)) (C := RX4) (T := TX4) (N := 9) hx hb hts inX4 hown hK (hW.p (e := (eToll ad C)) rfl) 0 rfl rfl 0 (by decide) (hts (.fieldLink RX4 10 "StoryToll" "scenes" "Ljava/util/ArrayList;") (List.mem_of_getElem? (i := 1) rfl)) (fun _ h9 => h9) rfl dX4_sceneAt_16 ?_
      refine lv_iload_n hx hb dX4_sceneAt_19 rfl (lv_at hl 1 rfl) ?_
      refine g_Vr (As := [.int v]) (rest := []) C0 (c_Jx4a65c_get_915e3 l D G A ad N C M o Hp hW 0 (by decide) hNN v.toNatClampNeg _ hv.1 (by omega)) (cwV 1 hts gX4_sceneAt_Jx4a65c_get_915e3 rfl rfl rfl (by decide +kernel) ⟨Nat.le_of_ble_eq_true rfl, Nat.le_of_ble_eq_true rfl⟩) hK (va_recv hK (hW.p (Wd_Li (by omega))) (ci := 0) (q0 := 0) rfl rfl) rfl hl rfl (Nat.le_of_ble_eq_true rfl) dX4_sceneAt_20 ⟨Nat.zero_le _, Nat.zero_le _⟩ hS (fun r_4 locs hr_4 hS => ?_)
      replace hr_4 : r_4 = ad 3 v.toNatClampNeg := hr_4
      subst r_4
      refine g_cast hx hb hown hK hW (Wd_S (by omega)) rfl (hts (.classLink RX4 45 "StoryToll$Scene") (List.mem_of_getElem? (i := 2) rfl)) dX4_sceneAt_23 ?_
      refine lv_goto (tgt := 30) hx hb dX4_sceneAt_26 (by decide) ?_
      exact g_qret (r := (some (ad 3 v.toNatClampNeg))) rfl hx hb hr (Or.inl ⟨_, rfl⟩) hlk hh hS (show (some (ad 3 v.toNatClampNeg)) = f_X4_sceneAt ad N v from by rw [f_X4_sceneAt, if_neg c_1_0, if_neg c_12_2]) dX4_sceneAt_30
theorem fe_X4_sceneAt (ad : gAd) (N : gN) (v : Int32) : f_X4_sceneAt ad N v = if gIn v (N 0) then some (ad 3 v.toNatClampNeg) else none := by
  unfold f_X4_sceneAt
  by_cases h0 : v < 0
  · rw [if_pos h0, if_neg (fun z => z.1 h0)]
  · by_cases h1 : nI (N 0) ≤ v
    · rw [if_neg h0, if_pos h1, if_neg (fun z => absurd z.2 (Int32.not_lt.mpr h1))]
    · rw [if_neg h0, if_neg h1, if_pos ⟨h0, Int32.not_le.mp h1⟩]
def f_X4_guardAt (ad : gAd) (N : gN) (v : Int32) : Option Nat := (if v < 0 then none else (if (nI (N 1)) ≤ v then none else (some (ad 4 v.toNatClampNeg))))
set_option maxHeartbeats 4000000 in
set_option maxRecDepth 100000 in
theorem c_X4_guardAt (l : Launch) (D : va_G) (G : gG) (A : Nat → Prop) (ad : gAd) (N : gN) (C M : gT) (o : Nat → Int64) (Hp : Heap) (hW : gW D A ad (Wd G ad N C M o) Hp) (hNN : gNN N) (v : Int32) : Met l yX4_guardAt wsX4_guardAt ({ frames := 3, cells := 0, slots := 0, locals := 64 }) (va_Pc [.ref (ad 0 0), .int v] (gQ D (gTs G) Hp)) (gRq (fun r => r = f_X4_guardAt ad N v) Hp) 0 0 gF := by
  refine g_start (cc := cX4_guardAt) (maxL := 2) (ret := (some (.object "StoryToll$Guard"))) (by decide) rfl (Nat.le_of_ble_eq_true rfl) (fun p e s m below meth c ls C0 hr hlk hnm hh hK hl => ?_)
  obtain ⟨hx, hb, hml, hown, hts⟩ := id C0
  have hown : s.vm.findClass RX4 = some m.cls := hown
  have hS : va_S gF Hp Hp [] := va_S.rf
  have hl : lv_has ls 2 [(0, .ref (ad 0 0)), (1, .int v)] := hl
  have inX4 : ∀ w ∈ wsX40, w ∈ wsX4_guardAt := by decide +kernel
  have hn0 := hNN 0 (by decide)
  have hn1 := hNN 1 (by decide)
  have hn2 := hNN 2 (by decide)
  have hn3 := hNN 3 (by decide)
  refine lv_iload_n hx hb dX4_guardAt_0 rfl (lv_at hl 1 rfl) ?_
  refine lv_if_lt (tgt := 29) hx hb dX4_guardAt_1 (by decide) (fun c_1_0 => ?_) (fun c_1_0 => ?_)
  · refine lv_null hx hb dX4_guardAt_29 ?_
    exact g_qret (r := none) rfl hx hb hr (Or.inl ⟨_, rfl⟩) hlk hh hS (show none = f_X4_guardAt ad N v from by rw [f_X4_guardAt, if_pos c_1_0]) dX4_guardAt_30
  · refine lv_iload_n hx hb dX4_guardAt_4 rfl (lv_at hl 1 rfl) ?_
    refine lv_aload_n hx hb dX4_guardAt_5 rfl (lv_at hl 0 rfl) ?_
    refine va_get (D := D) (ci := 5) (v := .ref (ad 1 1)) (C := RX4) (T := TX4) (N := 9) hx hb hts inX4 hown hK (hW.p (e := (eToll ad C)) rfl) 0 rfl rfl 1 (by decide) (hts (.fieldLink RX4 16 "StoryToll" "guards" "Ljava/util/ArrayList;") (List.mem_of_getElem? (i := 1) rfl)) (fun _ h9 => h9) rfl dX4_guardAt_6 ?_
    refine g_Vi (As := []) (rest := [.int v]) C0 (c_Jx4a65c_size_8abf5 l D G A ad N C M o Hp hW 1 (by decide)) (cwV 0 hts gX4_guardAt_Jx4a65c_size_8abf5 rfl rfl rfl (by decide +kernel) ⟨Nat.le_of_ble_eq_true rfl, Nat.le_of_ble_eq_true rfl⟩) hK (va_recv hK (hW.p (Wd_Li (by omega))) (ci := 0) (q0 := 0) rfl rfl) rfl hl rfl (Nat.le_of_ble_eq_true rfl) dX4_guardAt_9 ⟨Nat.zero_le _, Nat.zero_le _⟩ hS (fun r_2 locs hr_2 hS => ?_)
    replace hr_2 : r_2 = (nI (N 1)) := hr_2
    subst r_2
    refine lv_icmp_ge (tgt := 29) hx hb dX4_guardAt_12 (by decide) (fun c_12_2 => ?_) (fun c_12_2 => ?_)
    · refine lv_null hx hb dX4_guardAt_29 ?_
      exact g_qret (r := none) rfl hx hb hr (Or.inl ⟨_, rfl⟩) hlk hh hS (show none = f_X4_guardAt ad N v from by rw [f_X4_guardAt, if_neg c_1_0, if_pos c_12_2]) dX4_guardAt_30
    · have hv := gIn_of (n := N 1) (by omega) (gIn_p c_1_0 c_12_2 rfl)
      refine lv_aload_n hx hb dX4_guardAt_15 rfl (lv_at hl 0 rfl) ?_
      refine va_get (D := D) (ci := 5) (v := .ref (ad 1 1)) (C := RX4) (T := TX4) (N := 9) hx hb hts inX4 hown hK (hW.p (e := (eToll ad C)) rfl) 0 rfl rfl 1 (by decide) (hts (.fieldLink RX4 16 "StoryToll" "guards" "Ljava/util/ArrayList;") (List.mem_of_getElem? (i := 1) rfl)) (fun _ h9 => h9) rfl dX4_guardAt_16 ?_
      refine lv_iload_n hx hb dX4_guardAt_19 rfl (lv_at hl 1 rfl) ?_
      refine g_Vr (As := [.int v]) (rest := []) C0 (c_Jx4a65c_get_915e3 l D G A ad N C M o Hp hW 1 (by decide) hNN v.toNatClampNeg _ hv.1 (by omega)) (cwV 1 hts gX4_guardAt_Jx4a65c_get_915e3 rfl rfl rfl (by decide +kernel) ⟨Nat.le_of_ble_eq_true rfl, Nat.le_of_ble_eq_true rfl⟩) hK (va_recv hK (hW.p (Wd_Li (by omega))) (ci := 0) (q0 := 0) rfl rfl) rfl hl rfl (Nat.le_of_ble_eq_true rfl) dX4_guardAt_20 ⟨Nat.zero_le _, Nat.zero_le _⟩ hS (fun r_4 locs hr_4 hS => ?_)
      replace hr_4 : r_4 = ad 4 v.toNatClampNeg := hr_4
      subst r_4
      refine g_cast hx hb hown hK hW (Wd_Gd (by omega)) rfl (hts (.classLink RX4 88 "StoryToll$Guard") (List.mem_of_getElem? (i := 2) rfl)) dX4_guardAt_23 ?_
      refine lv_goto (tgt := 30) hx hb dX4_guardAt_26 (by decide) ?_
      exact g_qret (r := (some (ad 4 v.toNatClampNeg))) rfl hx hb hr (Or.inl ⟨_, rfl⟩) hlk hh hS (show (some (ad 4 v.toNatClampNeg)) = f_X4_guardAt ad N v from by rw [f_X4_guardAt, if_neg c_1_0, if_neg c_12_2]) dX4_guardAt_30
theorem fe_X4_guardAt (ad : gAd) (N : gN) (v : Int32) : f_X4_guardAt ad N v = if gIn v (N 1) then some (ad 4 v.toNatClampNeg) else none := by
  unfold f_X4_guardAt
  by_cases h0 : v < 0
  · rw [if_pos h0, if_neg (fun z => z.1 h0)]
  · by_cases h1 : nI (N 1) ≤ v
    · rw [if_neg h0, if_pos h1, if_neg (fun z => absurd z.2 (Int32.not_lt.mpr h1))]
    · rw [if_neg h0, if_neg h1, if_pos ⟨h0, Int32.not_le.mp h1⟩]
def f_X4_travellerAt (ad : gAd) (N : gN) (v : Int32) : Option Nat := (if v < 0 then none else (if (nI (N 2)) ≤ v then none else (some (ad 5 v.toNatClampNeg))))
set_option maxHeartbeats 4000000 in
set_option maxRecDepth 100000 in
theorem c_X4_travellerAt (l : Launch) (D : va_G) (G : gG) (A : Nat → Prop) (ad : gAd) (N : gN) (C M : gT) (o : Nat → Int64) (Hp : Heap) (hW : gW D A ad (Wd G ad N C M o) Hp) (hNN : gNN N) (v : Int32) : Met l yX4_travellerAt wsX4_travellerAt ({ frames := 3, cells := 0, slots := 0, locals := 64 }) (va_Pc [.ref (ad 0 0), .int v] (gQ D (gTs G) Hp)) (gRq (fun r => r = f_X4_travellerAt ad N v) Hp) 0 0 gF := by
  refine g_start (cc := cX4_travellerAt) (maxL := 2) (ret := (some (.object "StoryToll$Traveller"))) (by decide) rfl (Nat.le_of_ble_eq_true rfl) (fun p e s m below meth c ls C0 hr hlk hnm hh hK hl => ?_)
  obtain ⟨hx, hb, hml, hown, hts⟩ := id C0
  have hown : s.vm.findClass RX4 = some m.cls := hown
  have hS : va_S gF Hp Hp [] := va_S.rf
  have hl : lv_has ls 2 [(0, .ref (ad 0 0)), (1, .int v)] := hl
  have inX4 : ∀ w ∈ wsX40, w ∈ wsX4_travellerAt := by decide +kernel
  have hn0 := hNN 0 (by decide)
  have hn1 := hNN 1 (by decide)
  have hn2 := hNN 2 (by decide)
  have hn3 := hNN 3 (by decide)
  refine lv_iload_n hx hb dX4_travellerAt_0 rfl (lv_at hl 1 rfl) ?_
  refine lv_if_lt (tgt := 29) hx hb dX4_travellerAt_1 (by decide) (fun c_1_0 => ?_) (fun c_1_0 => ?_)
  · refine lv_null hx hb dX4_travellerAt_29 ?_
    exact g_qret (r := none) rfl hx hb hr (Or.inl ⟨_, rfl⟩) hlk hh hS (show none = f_X4_travellerAt ad N v from by rw [f_X4_travellerAt, if_pos c_1_0]) dX4_travellerAt_30
  · refine lv_iload_n hx hb dX4_travellerAt_4 rfl (lv_at hl 1 rfl) ?_
    refine lv_aload_n hx hb dX4_travellerAt_5 rfl (lv_at hl 0 rfl) ?_
    refine va_get (D := D) (ci := 5) (v := .ref (ad 1 2)) (C := RX4) (T := TX4) (N := 9) hx hb hts inX4 hown hK (hW.p (e := (eToll ad C)) rfl) 0 rfl rfl 2 (by decide) (hts (.fieldLink RX4 19 "StoryToll" "travellers" "Ljava/util/ArrayList;") (List.mem_of_getElem? (i := 1) rfl)) (fun _ h9 => h9) rfl dX4_travellerAt_6 ?_
    refine g_Vi (As := []) (rest := [.int v]) C0 (c_Jx4a65c_size_8abf5 l D G A ad N C M o Hp hW 2 (by decide)) (cwV 0 hts gX4_travellerAt_Jx4a65c_size_8abf5 rfl rfl rfl (by decide +kernel) ⟨Nat.le_of_ble_eq_true rfl, Nat.le_of_ble_eq_true rfl⟩) hK (va_recv hK (hW.p (Wd_Li (by omega))) (ci := 0) (q0 := 0) rfl rfl) rfl hl rfl (Nat.le_of_ble_eq_true rfl) dX4_travellerAt_9 ⟨Nat.zero_le _, Nat.zero_le _⟩ hS (fun r_2 locs hr_2 hS => ?_)
    replace hr_2 : r_2 = (nI (N 2)) := hr_2
    subst r_2
    refine lv_icmp_ge (tgt := 29) hx hb dX4_travellerAt_12 (by decide) (fun c_12_2 => ?_) (fun c_12_2 => ?_)
    · refine lv_null hx hb dX4_travellerAt_29 ?_
      exact g_qret (r := none) rfl hx hb hr (Or.inl ⟨_, rfl⟩) hlk hh hS (show none = f_X4_travellerAt ad N v from by rw [f_X4_travellerAt, if_neg c_1_0, if_pos c_12_2]) dX4_travellerAt_30
    · have hv := gIn_of (n := N 2) (by omega) (gIn_p c_1_0 c_12_2 rfl)
      refine lv_aload_n hx hb dX4_travellerAt_15 rfl (lv_at hl 0 rfl) ?_
      refine va_get (D := D) (ci := 5) (v := .ref (ad 1 2)) (C := RX4) (T := TX4) (N := 9) hx hb hts inX4 hown hK (hW.p (e := (eToll ad C)) rfl) 0 rfl rfl 2 (by decide) (hts (.fieldLink RX4 19 "StoryToll" "travellers" "Ljava/util/ArrayList;") (List.mem_of_getElem? (i := 1) rfl)) (fun _ h9 => h9) rfl dX4_travellerAt_16 ?_
      refine lv_iload_n hx hb dX4_travellerAt_19 rfl (lv_at hl 1 rfl) ?_
      refine g_Vr (As := [.int v]) (rest := []) C0 (c_Jx4a65c_get_915e3 l D G A ad N C M o Hp hW 2 (by decide) hNN v.toNatClampNeg _ hv.1 (by omega)) (cwV 1 hts gX4_travellerAt_Jx4a65c_get_915e3 rfl rfl rfl (by decide +kernel) ⟨Nat.le_of_ble_eq_true rfl, Nat.le_of_ble_eq_true rfl⟩) hK (va_recv hK (hW.p (Wd_Li (by omega))) (ci := 0) (q0 := 0) rfl rfl) rfl hl rfl (Nat.le_of_ble_eq_true rfl) dX4_travellerAt_20 ⟨Nat.zero_le _, Nat.zero_le _⟩ hS (fun r_4 locs hr_4 hS => ?_)
      replace hr_4 : r_4 = ad 5 v.toNatClampNeg := hr_4
      subst r_4
      refine g_cast hx hb hown hK hW (Wd_Tr (by omega)) rfl (hts (.classLink RX4 95 "StoryToll$Traveller") (List.mem_of_getElem? (i := 2) rfl)) dX4_travellerAt_23 ?_
      refine lv_goto (tgt := 30) hx hb dX4_travellerAt_26 (by decide) ?_
      exact g_qret (r := (some (ad 5 v.toNatClampNeg))) rfl hx hb hr (Or.inl ⟨_, rfl⟩) hlk hh hS (show (some (ad 5 v.toNatClampNeg)) = f_X4_travellerAt ad N v from by rw [f_X4_travellerAt, if_neg c_1_0, if_neg c_12_2]) dX4_travellerAt_30
theorem fe_X4_travellerAt (ad : gAd) (N : gN) (v : Int32) : f_X4_travellerAt ad N v = if gIn v (N 2) then some (ad 5 v.toNatClampNeg) else none := by
  unfold f_X4_travellerAt
  by_cases h0 : v < 0
  · rw [if_pos h0, if_neg (fun z => z.1 h0)]
  · by_cases h1 : nI (N 2) ≤ v
    · rw [if_neg h0, if_pos h1, if_neg (fun z => absurd z.2 (Int32.not_lt.mpr h1))]
    · rw [if_neg h0, if_neg h1, if_pos ⟨h0, Int32.not_le.mp h1⟩]
def f_X4_plotAt (ad : gAd) (N : gN) (v : Int32) : Option Nat := (if v < 0 then none else (if (nI (N 3)) ≤ v then none else (some (ad 6 v.toNatClampNeg))))
set_option maxHeartbeats 4000000 in
set_option maxRecDepth 100000 in
theorem c_X4_plotAt (l : Launch) (D : va_G) (G : gG) (A : Nat → Prop) (ad : gAd) (N : gN) (C M : gT) (o : Nat → Int64) (Hp : Heap) (hW : gW D A ad (Wd G ad N C M o) Hp) (hNN : gNN N) (v : Int32) : Met l yX4_plotAt wsX4_plotAt ({ frames := 3, cells := 0, slots := 0, locals := 64 }) (va_Pc [.ref (ad 0 0), .int v] (gQ D (gTs G) Hp)) (gRq (fun r => r = f_X4_plotAt ad N v) Hp) 0 0 gF := by
  refine g_start (cc := cX4_plotAt) (maxL := 2) (ret := (some (.object "StoryToll$Plot"))) (by decide) rfl (Nat.le_of_ble_eq_true rfl) (fun p e s m below meth c ls C0 hr hlk hnm hh hK hl => ?_)
  obtain ⟨hx, hb, hml, hown, hts⟩ := id C0
  have hown : s.vm.findClass RX4 = some m.cls := hown
  have hS : va_S gF Hp Hp [] := va_S.rf
  have hl : lv_has ls 2 [(0, .ref (ad 0 0)), (1, .int v)] := hl
  have inX4 : ∀ w ∈ wsX40, w ∈ wsX4_plotAt := by decide +kernel
  have hn0 := hNN 0 (by decide)
  have hn1 := hNN 1 (by decide)
  have hn2 := hNN 2 (by decide)
  have hn3 := hNN 3 (by decide)
  refine lv_iload_n hx hb dX4_plotAt_0 rfl (lv_at hl 1 rfl) ?_
  refine lv_if_lt (tgt := 29) hx hb dX4_plotAt_1 (by decide) (fun c_1_0 => ?_) (fun c_1_0 => ?_)
  · refine lv_null hx hb dX4_plotAt_29 ?_
    exact g_qret (r := none) rfl hx hb hr (Or.inl ⟨_, rfl⟩) hlk hh hS (show none = f_X4_plotAt ad N v from by rw [f_X4_plotAt, if_pos c_1_0]) dX4_plotAt_30
  · refine lv_iload_n hx hb dX4_plotAt_4 rfl (lv_at hl 1 rfl) ?_
    refine lv_aload_n hx hb dX4_plotAt_5 rfl (lv_at hl 0 rfl) ?_
    refine va_get (D := D) (ci := 5) (v := .ref (ad 1 3)) (C := RX4) (T := TX4) (N := 9) hx hb hts inX4 hown hK (hW.p (e := (eToll ad C)) rfl) 0 rfl rfl 3 (by decide) (hts (.fieldLink RX4 22 "StoryToll" "plots" "Ljava/util/ArrayList;") (List.mem_of_getElem? (i := 1) rfl)) (fun _ h9 => h9) rfl dX4_plotAt_6 ?_
    refine g_Vi (As := []) (rest := [.int v]) C0 (c_Jx4a65c_size_8abf5 l D G A ad N C M o Hp hW 3 (by decide)) (cwV 0 hts gX4_plotAt_Jx4a65c_size_8abf5 rfl rfl rfl (by decide +kernel) ⟨Nat.le_of_ble_eq_true rfl, Nat.le_of_ble_eq_true rfl⟩) hK (va_recv hK (hW.p (Wd_Li (by omega))) (ci := 0) (q0 := 0) rfl rfl) rfl hl rfl (Nat.le_of_ble_eq_true rfl) dX4_plotAt_9 ⟨Nat.zero_le _, Nat.zero_le _⟩ hS (fun r_2 locs hr_2 hS => ?_)
    replace hr_2 : r_2 = (nI (N 3)) := hr_2
    subst r_2
    refine lv_icmp_ge (tgt := 29) hx hb dX4_plotAt_12 (by decide) (fun c_12_2 => ?_) (fun c_12_2 => ?_)
    · refine lv_null hx hb dX4_plotAt_29 ?_
      exact g_qret (r := none) rfl hx hb hr (Or.inl ⟨_, rfl⟩) hlk hh hS (show none = f_X4_plotAt ad N v from by rw [f_X4_plotAt, if_neg c_1_0, if_pos c_12_2]) dX4_plotAt_30
    · have hv := gIn_of (n := N 3) (by omega) (gIn_p c_1_0 c_12_2 rfl)
      refine lv_aload_n hx hb dX4_plotAt_15 rfl (lv_at hl 0 rfl) ?_
      refine va_get (D := D) (ci := 5) (v := .ref (ad 1 3)) (C := RX4) (T := TX4) (N := 9) hx hb hts inX4 hown hK (hW.p (e := (eToll ad C)) rfl) 0 rfl rfl 3 (by decide) (hts (.fieldLink RX4 22 "StoryToll" "plots" "Ljava/util/ArrayList;") (List.mem_of_getElem? (i := 1) rfl)) (fun _ h9 => h9) rfl dX4_plotAt_16 ?_
      refine lv_iload_n hx hb dX4_plotAt_19 rfl (lv_at hl 1 rfl) ?_
      refine g_Vr (As := [.int v]) (rest := []) C0 (c_Jx4a65c_get_915e3 l D G A ad N C M o Hp hW 3 (by decide) hNN v.toNatClampNeg _ hv.1 (by omega)) (cwV 1 hts gX4_plotAt_Jx4a65c_get_915e3 rfl rfl rfl (by decide +kernel) ⟨Nat.le_of_ble_eq_true rfl, Nat.le_of_ble_eq_true rfl⟩) hK (va_recv hK (hW.p (Wd_Li (by omega))) (ci := 0) (q0 := 0) rfl rfl) rfl hl rfl (Nat.le_of_ble_eq_true rfl) dX4_plotAt_20 ⟨Nat.zero_le _, Nat.zero_le _⟩ hS (fun r_4 locs hr_4 hS => ?_)
      replace hr_4 : r_4 = ad 6 v.toNatClampNeg := hr_4
      subst r_4
      refine g_cast hx hb hown hK hW (Wd_Pl (by omega)) rfl (hts (.classLink RX4 118 "StoryToll$Plot") (List.mem_of_getElem? (i := 2) rfl)) dX4_plotAt_23 ?_
      refine lv_goto (tgt := 30) hx hb dX4_plotAt_26 (by decide) ?_
      exact g_qret (r := (some (ad 6 v.toNatClampNeg))) rfl hx hb hr (Or.inl ⟨_, rfl⟩) hlk hh hS (show (some (ad 6 v.toNatClampNeg)) = f_X4_plotAt ad N v from by rw [f_X4_plotAt, if_neg c_1_0, if_neg c_12_2]) dX4_plotAt_30
theorem fe_X4_plotAt (ad : gAd) (N : gN) (v : Int32) : f_X4_plotAt ad N v = if gIn v (N 3) then some (ad 6 v.toNatClampNeg) else none := by
  unfold f_X4_plotAt
  by_cases h0 : v < 0
  · rw [if_pos h0, if_neg (fun z => z.1 h0)]
  · by_cases h1 : nI (N 3) ≤ v
    · rw [if_neg h0, if_pos h1, if_neg (fun z => absurd z.2 (Int32.not_lt.mpr h1))]
    · rw [if_neg h0, if_neg h1, if_pos ⟨h0, Int32.not_le.mp h1⟩]
def f_X4_canTell (C : gT) (N : gN) (tv : Nat) (i : Nat) (q : Nat) : Int32 := (if (C 53 tv) = 0 then (if (f_X3_knows C tv i) = 0 then 0 else (if (C 31 i) = 0 then (if 8 ≤ (nI (N 3)) then 0 else 1) else (if (f_X1_canGoOnWith C q i (C 50 tv)) = 0 then 0 else 1))) else 0)
set_option maxHeartbeats 4000000 in
set_option maxRecDepth 100000 in
theorem c_X4_canTell (l : Launch) (D : va_G) (G : gG) (A : Nat → Prop) (ad : gAd) (N : gN) (C M : gT) (o : Nat → Int64) (Hp : Heap) (hW : gW D A ad (Wd G ad N C M o) Hp) (hC : IC N C) (tv : Nat) (htv : tv < N 2) (i : Nat) (hi : i < N 0) (q : Nat) (hq : q < N 3) : Met l yX4_canTell wsX4_canTell ({ frames := 3, cells := 0, slots := 0, locals := 63 }) (va_Pc [.ref (ad 0 0), .ref (ad 5 tv), .ref (ad 3 i), .ref (ad 6 q)] (gQ D (gTs G) Hp)) (gRi (fun r => r = f_X4_canTell C N tv i q) Hp) 0 0 gF := by
  refine g_start (cc := cX4_canTell) (maxL := 4) (ret := (some .boolean)) (by decide) rfl (Nat.le_of_ble_eq_true rfl) (fun p e s m below meth c ls C0 hr hlk hnm hh hK hl => ?_)
  obtain ⟨hx, hb, hml, hown, hts⟩ := id C0
  have hown : s.vm.findClass RX4 = some m.cls := hown
  have hS : va_S gF Hp Hp [] := va_S.rf
  have hl : lv_has ls 4 [(0, .ref (ad 0 0)), (1, .ref (ad 5 tv)), (2, .ref (ad 3 i)), (3, .ref (ad 6 q))] := hl
  have inX3 : ∀ w ∈ wsX30, w ∈ wsX4_canTell := by decide +kernel
  have inX2 : ∀ w ∈ wsX20, w ∈ wsX4_canTell := by decide +kernel
  have inX4 : ∀ w ∈ wsX40, w ∈ wsX4_canTell := by decide +kernel
  obtain ⟨⟨hc0, hc1, hc2, hc3⟩, hNN, hCp⟩ := id hC
  have hn0 := hNN 0 (by decide)
  have hn1 := hNN 1 (by decide)
  have hn2 := hNN 2 (by decide)
  have hn3 := hNN 3 (by decide)
  refine lv_aload_n hx hb dX4_canTell_0 rfl (lv_at hl 1 rfl) ?_
  refine va_get (D := D) (ci := 4) (v := .int (C 53 tv)) (C := RX3) (T := TX3) (N := 5) hx hb hts inX3 hown hK (hW.p (e := (eTr C tv)) (Wd_Tr htv)) 0 rfl rfl 3 (by decide) (hts (.fieldLink RX4 148 "StoryToll$Traveller" "state" "I") (List.mem_of_getElem? (i := 1) rfl)) (fun _ h9 => h9) rfl dX4_canTell_1 ?_
  refine lv_if_ne (tgt := 15) hx hb dX4_canTell_4 (by decide) (fun c_4_0 => ?_) (fun c_4_0 => ?_)
  · refine lv_iconst (v := 0) hx hb dX4_canTell_15 (by decide) ?_
    exact g_zret hx hb hr hlk hh hS (Or.inl rfl) (show 0 = f_X4_canTell C N tv i q from by rw [f_X4_canTell, if_neg c_4_0]) dX4_canTell_16
  · refine lv_aload_n hx hb dX4_canTell_7 rfl (lv_at hl 1 rfl) ?_
    refine lv_aload_n hx hb dX4_canTell_8 rfl (lv_at hl 2 rfl) ?_
    refine g_Vi (As := [.ref (ad 3 i)]) (rest := []) C0 (c_X3_knows l D G A ad N C M o Hp hW tv htv i hi) (cwV 1 hts gX4_canTell_X3_knows rfl rfl rfl (by decide +kernel) ⟨Nat.le_of_ble_eq_true rfl, Nat.le_of_ble_eq_true rfl⟩) hK (va_recv hK (hW.p (Wd_Tr htv)) (ci := 4) (q0 := 0) rfl rfl) rfl hl rfl (Nat.le_of_ble_eq_true rfl) dX4_canTell_9 ⟨Nat.zero_le _, Nat.zero_le _⟩ hS (fun r_2 locs hr_2 hS => ?_)
    replace hr_2 : r_2 = (f_X3_knows C tv i) := hr_2
    subst r_2
    refine lv_if_ne (tgt := 17) hx hb dX4_canTell_12 (by decide) (fun c_12_2 => ?_) (fun c_12_2 => ?_)
    · refine lv_aload_n hx hb dX4_canTell_17 rfl (lv_at hl 2 rfl) ?_
      refine va_get (D := D) (ci := 3) (v := .int (C 31 i)) (C := RX2) (T := TX2) (N := 6) hx hb hts inX2 hown hK (hW.p (e := (eS C i)) (Wd_S hi)) 0 rfl rfl 1 (by decide) (hts (.fieldLink RX4 63 "StoryToll$Scene" "kind" "I") (List.mem_of_getElem? (i := 2) rfl)) (fun _ h9 => h9) rfl dX4_canTell_18 ?_
      refine lv_if_ne (tgt := 42) hx hb dX4_canTell_21 (by decide) (fun c_21_3 => ?_) (fun c_21_3 => ?_)
      · refine lv_aload_n hx hb dX4_canTell_42 rfl (lv_at hl 3 rfl) ?_
        refine lv_ifnull hx hb dX4_canTell_43 ?_
        refine lv_aload_n hx hb dX4_canTell_46 rfl (lv_at hl 3 rfl) ?_
        refine lv_aload_n hx hb dX4_canTell_47 rfl (lv_at hl 2 rfl) ?_
        refine lv_aload_n hx hb dX4_canTell_48 rfl (lv_at hl 1 rfl) ?_
        refine va_get (D := D) (ci := 4) (v := .int (C 50 tv)) (C := RX3) (T := TX3) (N := 5) hx hb hts inX3 hown hK (hW.p (e := (eTr C tv)) (Wd_Tr htv)) 0 rfl rfl 0 (by decide) (hts (.fieldLink RX4 160 "StoryToll$Traveller" "number" "I") (List.mem_of_getElem? (i := 4) rfl)) (fun _ h9 => h9) rfl dX4_canTell_49 ?_
        refine g_Vi (As := [.ref (ad 3 i), .int (C 50 tv)]) (rest := []) C0 (c_X1_canGoOnWith l D G A ad N C M o Hp hW hC q hq i hi (C 50 tv)) (cwV 2 hts gX4_canTell_X1_canGoOnWith rfl rfl rfl (by decide +kernel) ⟨Nat.le_of_ble_eq_true rfl, Nat.le_of_ble_eq_true rfl⟩) hK (va_recv hK (hW.p (Wd_Pl hq)) (ci := 2) (q0 := 0) rfl rfl) rfl hl rfl (Nat.le_of_ble_eq_true rfl) dX4_canTell_52 ⟨Nat.zero_le _, Nat.zero_le _⟩ hS (fun r_5 locs hr_5 hS => ?_)
        replace hr_5 : r_5 = (f_X1_canGoOnWith C q i (C 50 tv)) := hr_5
        subst r_5
        refine lv_if_eq (tgt := 62) hx hb dX4_canTell_55 (by decide) (fun c_55_5 => ?_) (fun c_55_5 => ?_)
        · refine lv_iconst (v := 0) hx hb dX4_canTell_62 (by decide) ?_
          exact g_zret hx hb hr hlk hh hS (Or.inl rfl) (show 0 = f_X4_canTell C N tv i q from by rw [f_X4_canTell, if_pos c_4_0, if_neg c_12_2, if_neg c_21_3, if_pos c_55_5]) dX4_canTell_63
        · refine lv_iconst (v := 1) hx hb dX4_canTell_58 (by decide) ?_
          refine lv_goto (tgt := 63) hx hb dX4_canTell_59 (by decide) ?_
          exact g_zret hx hb hr hlk hh hS (Or.inr rfl) (show 1 = f_X4_canTell C N tv i q from by rw [f_X4_canTell, if_pos c_4_0, if_neg c_12_2, if_neg c_21_3, if_neg c_55_5]) dX4_canTell_63
      · refine lv_aload_n hx hb dX4_canTell_24 rfl (lv_at hl 0 rfl) ?_
        refine va_get (D := D) (ci := 5) (v := .ref (ad 1 3)) (C := RX4) (T := TX4) (N := 9) hx hb hts inX4 hown hK (hW.p (e := (eToll ad C)) rfl) 0 rfl rfl 3 (by decide) (hts (.fieldLink RX4 22 "StoryToll" "plots" "Ljava/util/ArrayList;") (List.mem_of_getElem? (i := 3) rfl)) (fun _ h9 => h9) rfl dX4_canTell_25 ?_
        refine g_Vi (As := []) (rest := []) C0 (c_Jx4a65c_size_8abf5 l D G A ad N C M o Hp hW 3 (by decide)) (cwV 0 hts gX4_canTell_Jx4a65c_size_8abf5 rfl rfl rfl (by decide +kernel) ⟨Nat.le_of_ble_eq_true rfl, Nat.le_of_ble_eq_true rfl⟩) hK (va_recv hK (hW.p (Wd_Li (by omega))) (ci := 0) (q0 := 0) rfl rfl) rfl hl rfl (Nat.le_of_ble_eq_true rfl) dX4_canTell_28 ⟨Nat.zero_le _, Nat.zero_le _⟩ hS (fun r_7 locs hr_7 hS => ?_)
        replace hr_7 : r_7 = (nI (N 3)) := hr_7
        subst r_7
        refine lv_bipush (v := 8) hx hb dX4_canTell_31 (by decide) ?_
        refine lv_icmp_ge (tgt := 40) hx hb dX4_canTell_33 (by decide) (fun c_33_7 => ?_) (fun c_33_7 => ?_)
        · refine lv_iconst (v := 0) hx hb dX4_canTell_40 (by decide) ?_
          exact g_zret hx hb hr hlk hh hS (Or.inl rfl) (show 0 = f_X4_canTell C N tv i q from by rw [f_X4_canTell, if_pos c_4_0, if_neg c_12_2, if_pos c_21_3, if_pos c_33_7]) dX4_canTell_41
        · refine lv_iconst (v := 1) hx hb dX4_canTell_36 (by decide) ?_
          refine lv_goto (tgt := 41) hx hb dX4_canTell_37 (by decide) ?_
          exact g_zret hx hb hr hlk hh hS (Or.inr rfl) (show 1 = f_X4_canTell C N tv i q from by rw [f_X4_canTell, if_pos c_4_0, if_neg c_12_2, if_pos c_21_3, if_neg c_33_7]) dX4_canTell_41
    · refine lv_iconst (v := 0) hx hb dX4_canTell_15 (by decide) ?_
      exact g_zret hx hb hr hlk hh hS (Or.inl rfl) (show 0 = f_X4_canTell C N tv i q from by rw [f_X4_canTell, if_pos c_4_0, if_pos c_12_2]) dX4_canTell_16
def L_tollOf (C : gT) (i : Nat) (j : Nat) (acc : Int32) : Int32 := (if (C 43 j) = 0 then acc else (if acc < (f_X0_worthOf C j i (C 0 8)) then (f_X0_worthOf C j i (C 0 8)) else acc))
def f_X4_tollOf (C : gT) (N : gN) (i : Nat) : Int32 := (gIt (L_tollOf C i) 0 (N 1))
set_option maxHeartbeats 4000000 in
set_option maxRecDepth 100000 in
theorem c_X4_tollOf (l : Launch) (D : va_G) (G : gG) (A : Nat → Prop) (ad : gAd) (N : gN) (C M : gT) (o : Nat → Int64) (Hp : Heap) (hW : gW D A ad (Wd G ad N C M o) Hp) (hC : IC N C) (i : Nat) (hi : i < N 0) : Met l yX4_tollOf wsX4_tollOf ({ frames := 3, cells := 0, slots := 0, locals := 64 }) (va_Pc [.ref (ad 0 0), .ref (ad 3 i)] (gQ D (gTs G) Hp)) (gRi (fun r => r = f_X4_tollOf C N i) Hp) 0 0 gF := by
  refine g_start (cc := cX4_tollOf) (maxL := 5) (ret := (some .int)) (by decide) rfl (Nat.le_of_ble_eq_true rfl) (fun p e s m below meth c ls C0 hr hlk hnm hh hK hl => ?_)
  obtain ⟨hx, hb, hml, hown, hts⟩ := id C0
  have hown : s.vm.findClass RX4 = some m.cls := hown
  have hS : va_S gF Hp Hp [] := va_S.rf
  have hl : lv_has ls 5 [(0, .ref (ad 0 0)), (1, .ref (ad 3 i))] := hl
  have inX4 : ∀ w ∈ wsX40, w ∈ wsX4_tollOf := by decide +kernel
  have inX0 : ∀ w ∈ wsX00, w ∈ wsX4_tollOf := by decide +kernel
  obtain ⟨⟨hc0, hc1, hc2, hc3⟩, hNN, hCp⟩ := id hC
  have hn0 := hNN 0 (by decide)
  have hn1 := hNN 1 (by decide)
  have hn2 := hNN 2 (by decide)
  have hn3 := hNN 3 (by decide)
  refine lv_iconst (v := 0) hx hb dX4_tollOf_0 (by decide) ?_
  refine lv_istore_n (lv' := [(2, .int 0), (0, .ref (ad 0 0)), (1, .ref (ad 3 i))]) hx hb dX4_tollOf_1 rfl hl (by decide) rfl (fun ls hl => ?_)
  refine lv_iconst (v := 0) hx hb dX4_tollOf_2 (by decide) ?_
  refine lv_istore_n (lv' := [(3, .int 0), (2, .int 0), (0, .ref (ad 0 0)), (1, .ref (ad 3 i))]) hx hb dX4_tollOf_3 rfl hl (by decide) rfl (fun ls hl => ?_)
  refine g_loop (N 1) (fun j ls => lv_has ls 5 [(3, .int (nI j)), (2, .int (gIt (L_tollOf C i) 0 j)), (0, .ref (ad 0 0)), (1, .ref (ad 3 i))]) (lv_sub hl [0, 1, 2, 3] rfl) hS (fun ls locs hl hS => ?_) (fun j ls locs hj hl hS ih => ?_)
  · have hl : lv_has ls 5 [(3, .int (nI (N 1))), (2, .int (gIt (L_tollOf C i) 0 (N 1))), (0, .ref (ad 0 0)), (1, .ref (ad 3 i))] := hl
    refine lv_iload_n hx hb dX4_tollOf_4 rfl (lv_at hl 0 rfl) ?_
    refine lv_aload_n hx hb dX4_tollOf_5 rfl (lv_at hl 2 rfl) ?_
    refine va_get (D := D) (ci := 5) (v := .ref (ad 1 1)) (C := RX4) (T := TX4) (N := 9) hx hb hts inX4 hown hK (hW.p (e := (eToll ad C)) rfl) 0 rfl rfl 1 (by decide) (hts (.fieldLink RX4 16 "StoryToll" "guards" "Ljava/util/ArrayList;") (List.mem_of_getElem? (i := 1) rfl)) (fun _ h9 => h9) rfl dX4_tollOf_6 ?_
    refine g_Vi (As := []) (rest := [.int (nI (N 1))]) C0 (c_Jx4a65c_size_8abf5 l D G A ad N C M o Hp hW 1 (by decide)) (cwV 0 hts gX4_tollOf_Jx4a65c_size_8abf5 rfl rfl rfl (by decide +kernel) ⟨Nat.le_of_ble_eq_true rfl, Nat.le_of_ble_eq_true rfl⟩) hK (va_recv hK (hW.p (Wd_Li (by omega))) (ci := 0) (q0 := 0) rfl rfl) rfl hl rfl (Nat.le_of_ble_eq_true rfl) dX4_tollOf_9 ⟨Nat.zero_le _, Nat.zero_le _⟩ hS (fun r_1 locs hr_1 hS => ?_)
    replace hr_1 : r_1 = (nI (N 1)) := hr_1
    subst r_1
    refine lv_icmp_ge (tgt := 57) hx hb dX4_tollOf_12 (by decide) (fun c_12_1 => ?_) (fun c_12_1 => ?_)
    · refine lv_iload_n hx hb dX4_tollOf_57 rfl (lv_at hl 1 rfl) ?_
      exact g_iret hx hb hr hlk hh hS (show (gIt (L_tollOf C i) 0 (N 1)) = f_X4_tollOf C N i from by rw [f_X4_tollOf]) dX4_tollOf_58
    · exact absurd (g_le rfl (by omega)) c_12_1
  · have hl : lv_has ls 5 [(3, .int (nI j)), (2, .int (gIt (L_tollOf C i) 0 j)), (0, .ref (ad 0 0)), (1, .ref (ad 3 i))] := hl
    refine lv_iload_n hx hb dX4_tollOf_4 rfl (lv_at hl 0 rfl) ?_
    refine lv_aload_n hx hb dX4_tollOf_5 rfl (lv_at hl 2 rfl) ?_
    refine va_get (D := D) (ci := 5) (v := .ref (ad 1 1)) (C := RX4) (T := TX4) (N := 9) hx hb hts inX4 hown hK (hW.p (e := (eToll ad C)) rfl) 0 rfl rfl 1 (by decide) (hts (.fieldLink RX4 16 "StoryToll" "guards" "Ljava/util/ArrayList;") (List.mem_of_getElem? (i := 1) rfl)) (fun _ h9 => h9) rfl dX4_tollOf_6 ?_
    refine g_Vi (As := []) (rest := [.int (nI j)]) C0 (c_Jx4a65c_size_8abf5 l D G A ad N C M o Hp hW 1 (by decide)) (cwV 0 hts gX4_tollOf_Jx4a65c_size_8abf5 rfl rfl rfl (by decide +kernel) ⟨Nat.le_of_ble_eq_true rfl, Nat.le_of_ble_eq_true rfl⟩) hK (va_recv hK (hW.p (Wd_Li (by omega))) (ci := 0) (q0 := 0) rfl rfl) rfl hl rfl (Nat.le_of_ble_eq_true rfl) dX4_tollOf_9 ⟨Nat.zero_le _, Nat.zero_le _⟩ hS (fun r_3 locs hr_3 hS => ?_)
    replace hr_3 : r_3 = (nI (N 1)) := hr_3
    subst r_3
    refine lv_icmp_ge (tgt := 57) hx hb dX4_tollOf_12 (by decide) (fun c_12_3 => ?_) (fun c_12_3 => ?_)
    · exact absurd c_12_3 (g_ge rfl (by omega) hj)
    · refine lv_aload_n hx hb dX4_tollOf_15 rfl (lv_at hl 2 rfl) ?_
      refine va_get (D := D) (ci := 5) (v := .ref (ad 1 1)) (C := RX4) (T := TX4) (N := 9) hx hb hts inX4 hown hK (hW.p (e := (eToll ad C)) rfl) 0 rfl rfl 1 (by decide) (hts (.fieldLink RX4 16 "StoryToll" "guards" "Ljava/util/ArrayList;") (List.mem_of_getElem? (i := 1) rfl)) (fun _ h9 => h9) rfl dX4_tollOf_16 ?_
      refine lv_iload_n hx hb dX4_tollOf_19 rfl (lv_at hl 0 rfl) ?_
      refine g_Vr (As := [.int (nI j)]) (rest := []) C0 (c_Jx4a65c_get_915e3 l D G A ad N C M o Hp hW 1 (by decide) hNN j _ rfl (by omega)) (cwV 1 hts gX4_tollOf_Jx4a65c_get_915e3 rfl rfl rfl (by decide +kernel) ⟨Nat.le_of_ble_eq_true rfl, Nat.le_of_ble_eq_true rfl⟩) hK (va_recv hK (hW.p (Wd_Li (by omega))) (ci := 0) (q0 := 0) rfl rfl) rfl hl rfl (Nat.le_of_ble_eq_true rfl) dX4_tollOf_20 ⟨Nat.zero_le _, Nat.zero_le _⟩ hS (fun r_5 locs hr_5 hS => ?_)
      replace hr_5 : r_5 = ad 4 j := hr_5
      subst r_5
      refine g_cast hx hb hown hK hW (Wd_Gd (by omega)) rfl (hts (.classLink RX4 88 "StoryToll$Guard") (List.mem_of_getElem? (i := 2) rfl)) dX4_tollOf_23 ?_
      refine lv_astore (lv' := [(4, .ref (ad 4 j)), (3, .int (nI j)), (2, .int (gIt (L_tollOf C i) 0 j)), (0, .ref (ad 0 0)), (1, .ref (ad 3 i))]) hx hb dX4_tollOf_26 hl (by decide) rfl (fun ls hl => ?_)
      refine lv_aload hx hb dX4_tollOf_28 (lv_at hl 0 rfl) ?_
      refine va_get (D := D) (ci := 1) (v := .int (C 43 j)) (C := RX0) (T := TX0) (N := 4) hx hb hts inX0 hown hK (hW.p (e := (eGd ad C j)) (Wd_Gd (by omega))) 0 rfl rfl 3 (by decide) (hts (.fieldLink RX4 252 "StoryToll$Guard" "awake" "Z") (List.mem_of_getElem? (i := 3) rfl)) (fun _ h9 => h9) rfl dX4_tollOf_30 ?_
      refine lv_if_eq (tgt := 51) hx hb dX4_tollOf_33 (by decide) (fun c_33_5 => ?_) (fun c_33_5 => ?_)
      · refine lv_iinc (v := (nI (j + 1))) (lv' := [(3, .int (nI (j + 1))), (4, .ref (ad 4 j)), (2, .int (gIt (L_tollOf C i) 0 j)), (0, .ref (ad 0 0)), (1, .ref (ad 3 i))]) hx hb dX4_tollOf_51 hl (k := 1) rfl (nI_1 _) (by decide) rfl (fun ls hl => ?_)
        refine lv_goto (tgt := 4) hx hb dX4_tollOf_54 (by decide) ?_
        have ea : (gIt (L_tollOf C i) 0 j) = (gIt (L_tollOf C i) 0 (j + 1)) := (show (gIt (L_tollOf C i) 0 j) = L_tollOf C i j (gIt (L_tollOf C i) 0 j) from by (rw [L_tollOf, if_pos c_33_5]) <;> rfl)
        have hl2 : lv_has ls 5 [(3, .int (nI (j + 1))), (2, .int (gIt (L_tollOf C i) 0 (j + 1))), (0, .ref (ad 0 0)), (1, .ref (ad 3 i))] := by rw [← ea]; exact lv_sub hl [0, 2, 3, 4] rfl
        exact ih ls locs hl2 hS
      · refine lv_iload_n hx hb dX4_tollOf_36 rfl (lv_at hl 2 rfl) ?_
        refine lv_aload hx hb dX4_tollOf_37 (lv_at hl 0 rfl) ?_
        refine lv_aload_n hx hb dX4_tollOf_39 rfl (lv_at hl 4 rfl) ?_
        refine lv_aload_n hx hb dX4_tollOf_40 rfl (lv_at hl 3 rfl) ?_
        refine va_get (D := D) (ci := 5) (v := .int (C 0 8)) (C := RX4) (T := TX4) (N := 9) hx hb hts inX4 hown hK (hW.p (e := (eToll ad C)) rfl) 0 rfl rfl 8 (by decide) (hts (.fieldLink RX4 25 "StoryToll" "hueBefore" "I") (List.mem_of_getElem? (i := 4) rfl)) (fun _ h9 => h9) rfl dX4_tollOf_41 ?_
        refine g_Vi (As := [.ref (ad 3 i), .int (C 0 8)]) (rest := [.int (gIt (L_tollOf C i) 0 j)]) C0 (c_X0_worthOf l D G A ad N C M o Hp hW j (by omega) i hi (C 0 8)) (cwV 2 hts gX4_tollOf_X0_worthOf rfl rfl rfl (by decide +kernel) ⟨Nat.le_of_ble_eq_true rfl, Nat.le_of_ble_eq_true rfl⟩) hK (va_recv hK (hW.p (Wd_Gd (by omega))) (ci := 1) (q0 := 0) rfl rfl) rfl hl rfl (Nat.le_of_ble_eq_true rfl) dX4_tollOf_44 ⟨Nat.zero_le _, Nat.zero_le _⟩ hS (fun r_7 locs hr_7 hS => ?_)
        replace hr_7 : r_7 = (f_X0_worthOf C j i (C 0 8)) := hr_7
        subst r_7
        refine va_mmax hx hb (hml.trans hl.1.symm) hown (hts (.methodLink RX4 256 Lib.Math.max.name) (List.mem_of_getElem? (i := 5) rfl)) (hts (.static Lib.Math.max.name) (List.mem_of_getElem? (i := 6) rfl)) (hts (.initialized "java/lang/Math") (List.mem_of_getElem? (i := 7) rfl)) (hts (.code Lib.Math.max.name Lib.Math.max.code 2 (some .int)) (List.mem_of_getElem? (i := 8) rfl)) (Nat.le_of_ble_eq_true rfl) (Nat.le_of_ble_eq_true rfl) (Nat.le_of_ble_eq_true rfl) (Nat.le_of_ble_eq_true rfl) dX4_tollOf_47 ?_
        refine lv_istore_n (lv' := [(2, .int (if (gIt (L_tollOf C i) 0 j) < (f_X0_worthOf C j i (C 0 8)) then (f_X0_worthOf C j i (C 0 8)) else (gIt (L_tollOf C i) 0 j))), (4, .ref (ad 4 j)), (3, .int (nI j)), (0, .ref (ad 0 0)), (1, .ref (ad 3 i))]) hx hb dX4_tollOf_50 rfl hl (by decide) rfl (fun ls hl => ?_)
        refine lv_iinc (v := (nI (j + 1))) (lv' := [(3, .int (nI (j + 1))), (2, .int (if (gIt (L_tollOf C i) 0 j) < (f_X0_worthOf C j i (C 0 8)) then (f_X0_worthOf C j i (C 0 8)) else (gIt (L_tollOf C i) 0 j))), (4, .ref (ad 4 j)), (0, .ref (ad 0 0)), (1, .ref (ad 3 i))]) hx hb dX4_tollOf_51 hl (k := 2) rfl (nI_1 _) (by decide) rfl (fun ls hl => ?_)
        refine lv_goto (tgt := 4) hx hb dX4_tollOf_54 (by decide) ?_
        have ea : (if (gIt (L_tollOf C i) 0 j) < (f_X0_worthOf C j i (C 0 8)) then (f_X0_worthOf C j i (C 0 8)) else (gIt (L_tollOf C i) 0 j)) = (gIt (L_tollOf C i) 0 (j + 1)) := (show (if (gIt (L_tollOf C i) 0 j) < (f_X0_worthOf C j i (C 0 8)) then (f_X0_worthOf C j i (C 0 8)) else (gIt (L_tollOf C i) 0 j)) = L_tollOf C i j (gIt (L_tollOf C i) 0 j) from by (rw [L_tollOf, if_neg c_33_5]) <;> rfl)
        have hl2 : lv_has ls 5 [(3, .int (nI (j + 1))), (2, .int (gIt (L_tollOf C i) 0 (j + 1))), (0, .ref (ad 0 0)), (1, .ref (ad 3 i))] := by rw [← ea]; exact lv_sub hl [0, 1, 3, 4] rfl
        exact ih ls locs hl2 hS
def L_guardsAwake (C : gT) (j : Nat) (acc : Int32) : Int32 := (if (C 43 j) = 0 then acc else (acc + 1))
def f_X4_guardsAwake (C : gT) (N : gN) : Int32 := (gIt (L_guardsAwake C) 0 (N 1))
set_option maxHeartbeats 4000000 in
set_option maxRecDepth 100000 in
theorem c_X4_guardsAwake (l : Launch) (D : va_G) (G : gG) (A : Nat → Prop) (ad : gAd) (N : gN) (C M : gT) (o : Nat → Int64) (Hp : Heap) (hW : gW D A ad (Wd G ad N C M o) Hp) (hC : IC N C)  : Met l yX4_guardsAwake wsX4_guardsAwake ({ frames := 3, cells := 0, slots := 0, locals := 64 }) (va_Pc [.ref (ad 0 0)] (gQ D (gTs G) Hp)) (gRi (fun r => r = f_X4_guardsAwake C N) Hp) 0 0 gF := by
  refine g_start (cc := cX4_guardsAwake) (maxL := 3) (ret := (some .int)) (by decide) rfl (Nat.le_of_ble_eq_true rfl) (fun p e s m below meth c ls C0 hr hlk hnm hh hK hl => ?_)
  obtain ⟨hx, hb, hml, hown, hts⟩ := id C0
  have hown : s.vm.findClass RX4 = some m.cls := hown
  have hS : va_S gF Hp Hp [] := va_S.rf
  have hl : lv_has ls 3 [(0, .ref (ad 0 0))] := hl
  have inX4 : ∀ w ∈ wsX40, w ∈ wsX4_guardsAwake := by decide +kernel
  have inX0 : ∀ w ∈ wsX00, w ∈ wsX4_guardsAwake := by decide +kernel
  obtain ⟨⟨hc0, hc1, hc2, hc3⟩, hNN, hCp⟩ := id hC
  have hn0 := hNN 0 (by decide)
  have hn1 := hNN 1 (by decide)
  have hn2 := hNN 2 (by decide)
  have hn3 := hNN 3 (by decide)
  refine lv_iconst (v := 0) hx hb dX4_guardsAwake_0 (by decide) ?_
  refine lv_istore_n (lv' := [(1, .int 0), (0, .ref (ad 0 0))]) hx hb dX4_guardsAwake_1 rfl hl (by decide) rfl (fun ls hl => ?_)
  refine lv_iconst (v := 0) hx hb dX4_guardsAwake_2 (by decide) ?_
  refine lv_istore_n (lv' := [(2, .int 0), (1, .int 0), (0, .ref (ad 0 0))]) hx hb dX4_guardsAwake_3 rfl hl (by decide) rfl (fun ls hl => ?_)
  refine g_loop (N 1) (fun j ls => lv_has ls 3 [(2, .int (nI j)), (1, .int (gIt (L_guardsAwake C) 0 j)), (0, .ref (ad 0 0))]) (lv_sub hl [0, 1, 2] rfl) hS (fun ls locs hl hS => ?_) (fun j ls locs hj hl hS ih => ?_)
  · have hl : lv_has ls 3 [(2, .int (nI (N 1))), (1, .int (gIt (L_guardsAwake C) 0 (N 1))), (0, .ref (ad 0 0))] := hl
    refine lv_iload_n hx hb dX4_guardsAwake_4 rfl (lv_at hl 0 rfl) ?_
    refine lv_aload_n hx hb dX4_guardsAwake_5 rfl (lv_at hl 2 rfl) ?_
    refine va_get (D := D) (ci := 5) (v := .ref (ad 1 1)) (C := RX4) (T := TX4) (N := 9) hx hb hts inX4 hown hK (hW.p (e := (eToll ad C)) rfl) 0 rfl rfl 1 (by decide) (hts (.fieldLink RX4 16 "StoryToll" "guards" "Ljava/util/ArrayList;") (List.mem_of_getElem? (i := 1) rfl)) (fun _ h9 => h9) rfl dX4_guardsAwake_6 ?_
    refine g_Vi (As := []) (rest := [.int (nI (N 1))]) C0 (c_Jx4a65c_size_8abf5 l D G A ad N C M o Hp hW 1 (by decide)) (cwV 0 hts gX4_guardsAwake_Jx4a65c_size_8abf5 rfl rfl rfl (by decide +kernel) ⟨Nat.le_of_ble_eq_true rfl, Nat.le_of_ble_eq_true rfl⟩) hK (va_recv hK (hW.p (Wd_Li (by omega))) (ci := 0) (q0 := 0) rfl rfl) rfl hl rfl (Nat.le_of_ble_eq_true rfl) dX4_guardsAwake_9 ⟨Nat.zero_le _, Nat.zero_le _⟩ hS (fun r_1 locs hr_1 hS => ?_)
    replace hr_1 : r_1 = (nI (N 1)) := hr_1
    subst r_1
    refine lv_icmp_ge (tgt := 41) hx hb dX4_guardsAwake_12 (by decide) (fun c_12_1 => ?_) (fun c_12_1 => ?_)
    · refine lv_iload_n hx hb dX4_guardsAwake_41 rfl (lv_at hl 1 rfl) ?_
      exact g_iret hx hb hr hlk hh hS (show (gIt (L_guardsAwake C) 0 (N 1)) = f_X4_guardsAwake C N from by rw [f_X4_guardsAwake]) dX4_guardsAwake_42
    · exact absurd (g_le rfl (by omega)) c_12_1
  · have hl : lv_has ls 3 [(2, .int (nI j)), (1, .int (gIt (L_guardsAwake C) 0 j)), (0, .ref (ad 0 0))] := hl
    refine lv_iload_n hx hb dX4_guardsAwake_4 rfl (lv_at hl 0 rfl) ?_
    refine lv_aload_n hx hb dX4_guardsAwake_5 rfl (lv_at hl 2 rfl) ?_
    refine va_get (D := D) (ci := 5) (v := .ref (ad 1 1)) (C := RX4) (T := TX4) (N := 9) hx hb hts inX4 hown hK (hW.p (e := (eToll ad C)) rfl) 0 rfl rfl 1 (by decide) (hts (.fieldLink RX4 16 "StoryToll" "guards" "Ljava/util/ArrayList;") (List.mem_of_getElem? (i := 1) rfl)) (fun _ h9 => h9) rfl dX4_guardsAwake_6 ?_
    refine g_Vi (As := []) (rest := [.int (nI j)]) C0 (c_Jx4a65c_size_8abf5 l D G A ad N C M o Hp hW 1 (by decide)) (cwV 0 hts gX4_guardsAwake_Jx4a65c_size_8abf5 rfl rfl rfl (by decide +kernel) ⟨Nat.le_of_ble_eq_true rfl, Nat.le_of_ble_eq_true rfl⟩) hK (va_recv hK (hW.p (Wd_Li (by omega))) (ci := 0) (q0 := 0) rfl rfl) rfl hl rfl (Nat.le_of_ble_eq_true rfl) dX4_guardsAwake_9 ⟨Nat.zero_le _, Nat.zero_le _⟩ hS (fun r_3 locs hr_3 hS => ?_)
    replace hr_3 : r_3 = (nI (N 1)) := hr_3
    subst r_3
    refine lv_icmp_ge (tgt := 41) hx hb dX4_guardsAwake_12 (by decide) (fun c_12_3 => ?_) (fun c_12_3 => ?_)
    · exact absurd c_12_3 (g_ge rfl (by omega) hj)
    · refine lv_aload_n hx hb dX4_guardsAwake_15 rfl (lv_at hl 2 rfl) ?_
      refine va_get (D := D) (ci := 5) (v := .ref (ad 1 1)) (C := RX4) (T := TX4) (N := 9) hx hb hts inX4 hown hK (hW.p (e := (eToll ad C)) rfl) 0 rfl rfl 1 (by decide) (hts (.fieldLink RX4 16 "StoryToll" "guards" "Ljava/util/ArrayList;") (List.mem_of_getElem? (i := 1) rfl)) (fun _ h9 => h9) rfl dX4_guardsAwake_16 ?_
      refine lv_iload_n hx hb dX4_guardsAwake_19 rfl (lv_at hl 0 rfl) ?_
      refine g_Vr (As := [.int (nI j)]) (rest := []) C0 (c_Jx4a65c_get_915e3 l D G A ad N C M o Hp hW 1 (by decide) hNN j _ rfl (by omega)) (cwV 1 hts gX4_guardsAwake_Jx4a65c_get_915e3 rfl rfl rfl (by decide +kernel) ⟨Nat.le_of_ble_eq_true rfl, Nat.le_of_ble_eq_true rfl⟩) hK (va_recv hK (hW.p (Wd_Li (by omega))) (ci := 0) (q0 := 0) rfl rfl) rfl hl rfl (Nat.le_of_ble_eq_true rfl) dX4_guardsAwake_20 ⟨Nat.zero_le _, Nat.zero_le _⟩ hS (fun r_5 locs hr_5 hS => ?_)
      replace hr_5 : r_5 = ad 4 j := hr_5
      subst r_5
      refine g_cast hx hb hown hK hW (Wd_Gd (by omega)) rfl (hts (.classLink RX4 88 "StoryToll$Guard") (List.mem_of_getElem? (i := 2) rfl)) dX4_guardsAwake_23 ?_
      refine va_get (D := D) (ci := 1) (v := .int (C 43 j)) (C := RX0) (T := TX0) (N := 4) hx hb hts inX0 hown hK (hW.p (e := (eGd ad C j)) (Wd_Gd (by omega))) 0 rfl rfl 3 (by decide) (hts (.fieldLink RX4 252 "StoryToll$Guard" "awake" "Z") (List.mem_of_getElem? (i := 3) rfl)) (fun _ h9 => h9) rfl dX4_guardsAwake_26 ?_
      refine lv_if_eq (tgt := 35) hx hb dX4_guardsAwake_29 (by decide) (fun c_29_5 => ?_) (fun c_29_5 => ?_)
      · refine lv_iinc (v := (nI (j + 1))) (lv' := [(2, .int (nI (j + 1))), (1, .int (gIt (L_guardsAwake C) 0 j)), (0, .ref (ad 0 0))]) hx hb dX4_guardsAwake_35 hl (k := 0) rfl (nI_1 _) (by decide) rfl (fun ls hl => ?_)
        refine lv_goto (tgt := 4) hx hb dX4_guardsAwake_38 (by decide) ?_
        have ea : (gIt (L_guardsAwake C) 0 j) = (gIt (L_guardsAwake C) 0 (j + 1)) := (show (gIt (L_guardsAwake C) 0 j) = L_guardsAwake C j (gIt (L_guardsAwake C) 0 j) from by (rw [L_guardsAwake, if_pos c_29_5]) <;> rfl)
        have hl2 : lv_has ls 3 [(2, .int (nI (j + 1))), (1, .int (gIt (L_guardsAwake C) 0 (j + 1))), (0, .ref (ad 0 0))] := by rw [← ea]; exact lv_sub hl [0, 1, 2] rfl
        exact ih ls locs hl2 hS
      · refine lv_iinc (v := ((gIt (L_guardsAwake C) 0 j) + 1)) (lv' := [(1, .int ((gIt (L_guardsAwake C) 0 j) + 1)), (2, .int (nI j)), (0, .ref (ad 0 0))]) hx hb dX4_guardsAwake_32 hl (k := 1) rfl rfl (by decide) rfl (fun ls hl => ?_)
        refine lv_iinc (v := (nI (j + 1))) (lv' := [(2, .int (nI (j + 1))), (1, .int ((gIt (L_guardsAwake C) 0 j) + 1)), (0, .ref (ad 0 0))]) hx hb dX4_guardsAwake_35 hl (k := 1) rfl (nI_1 _) (by decide) rfl (fun ls hl => ?_)
        refine lv_goto (tgt := 4) hx hb dX4_guardsAwake_38 (by decide) ?_
        have ea : ((gIt (L_guardsAwake C) 0 j) + 1) = (gIt (L_guardsAwake C) 0 (j + 1)) := (show ((gIt (L_guardsAwake C) 0 j) + 1) = L_guardsAwake C j (gIt (L_guardsAwake C) 0 j) from by (rw [L_guardsAwake, if_neg c_29_5]) <;> rfl)
        have hl2 : lv_has ls 3 [(2, .int (nI (j + 1))), (1, .int (gIt (L_guardsAwake C) 0 (j + 1))), (0, .ref (ad 0 0))] := by rw [← ea]; exact lv_sub hl [0, 1, 2] rfl
        exact ih ls locs hl2 hS
def L_travIn (C : gT) (v : Int32) (j : Nat) (acc : Int32) : Int32 := (if (C 53 j) = v then (acc + 1) else acc)
def f_X4_travellersInState (C : gT) (N : gN) (v : Int32) : Int32 := (gIt (L_travIn C v) 0 (N 2))
set_option maxHeartbeats 4000000 in
set_option maxRecDepth 100000 in
theorem c_X4_travellersInState (l : Launch) (D : va_G) (G : gG) (A : Nat → Prop) (ad : gAd) (N : gN) (C M : gT) (o : Nat → Int64) (Hp : Heap) (hW : gW D A ad (Wd G ad N C M o) Hp) (hC : IC N C) (v : Int32) : Met l yX4_travellersInState wsX4_travellersInState ({ frames := 3, cells := 0, slots := 0, locals := 64 }) (va_Pc [.ref (ad 0 0), .int v] (gQ D (gTs G) Hp)) (gRi (fun r => r = f_X4_travellersInState C N v) Hp) 0 0 gF := by
  refine g_start (cc := cX4_travellersInState) (maxL := 4) (ret := (some .int)) (by decide) rfl (Nat.le_of_ble_eq_true rfl) (fun p e s m below meth c ls C0 hr hlk hnm hh hK hl => ?_)
  obtain ⟨hx, hb, hml, hown, hts⟩ := id C0
  have hown : s.vm.findClass RX4 = some m.cls := hown
  have hS : va_S gF Hp Hp [] := va_S.rf
  have hl : lv_has ls 4 [(0, .ref (ad 0 0)), (1, .int v)] := hl
  have inX4 : ∀ w ∈ wsX40, w ∈ wsX4_travellersInState := by decide +kernel
  have inX3 : ∀ w ∈ wsX30, w ∈ wsX4_travellersInState := by decide +kernel
  obtain ⟨⟨hc0, hc1, hc2, hc3⟩, hNN, hCp⟩ := id hC
  have hn0 := hNN 0 (by decide)
  have hn1 := hNN 1 (by decide)
  have hn2 := hNN 2 (by decide)
  have hn3 := hNN 3 (by decide)
  refine lv_iconst (v := 0) hx hb dX4_travellersInState_0 (by decide) ?_
  refine lv_istore_n (lv' := [(2, .int 0), (0, .ref (ad 0 0)), (1, .int v)]) hx hb dX4_travellersInState_1 rfl hl (by decide) rfl (fun ls hl => ?_)
  refine lv_iconst (v := 0) hx hb dX4_travellersInState_2 (by decide) ?_
  refine lv_istore_n (lv' := [(3, .int 0), (2, .int 0), (0, .ref (ad 0 0)), (1, .int v)]) hx hb dX4_travellersInState_3 rfl hl (by decide) rfl (fun ls hl => ?_)
  refine g_loop (N 2) (fun j ls => lv_has ls 4 [(3, .int (nI j)), (2, .int (gIt (L_travIn C v) 0 j)), (0, .ref (ad 0 0)), (1, .int v)]) (lv_sub hl [0, 1, 2, 3] rfl) hS (fun ls locs hl hS => ?_) (fun j ls locs hj hl hS ih => ?_)
  · have hl : lv_has ls 4 [(3, .int (nI (N 2))), (2, .int (gIt (L_travIn C v) 0 (N 2))), (0, .ref (ad 0 0)), (1, .int v)] := hl
    refine lv_iload_n hx hb dX4_travellersInState_4 rfl (lv_at hl 0 rfl) ?_
    refine lv_aload_n hx hb dX4_travellersInState_5 rfl (lv_at hl 2 rfl) ?_
    refine va_get (D := D) (ci := 5) (v := .ref (ad 1 2)) (C := RX4) (T := TX4) (N := 9) hx hb hts inX4 hown hK (hW.p (e := (eToll ad C)) rfl) 0 rfl rfl 2 (by decide) (hts (.fieldLink RX4 19 "StoryToll" "travellers" "Ljava/util/ArrayList;") (List.mem_of_getElem? (i := 1) rfl)) (fun _ h9 => h9) rfl dX4_travellersInState_6 ?_
    refine g_Vi (As := []) (rest := [.int (nI (N 2))]) C0 (c_Jx4a65c_size_8abf5 l D G A ad N C M o Hp hW 2 (by decide)) (cwV 0 hts gX4_travellersInState_Jx4a65c_size_8abf5 rfl rfl rfl (by decide +kernel) ⟨Nat.le_of_ble_eq_true rfl, Nat.le_of_ble_eq_true rfl⟩) hK (va_recv hK (hW.p (Wd_Li (by omega))) (ci := 0) (q0 := 0) rfl rfl) rfl hl rfl (Nat.le_of_ble_eq_true rfl) dX4_travellersInState_9 ⟨Nat.zero_le _, Nat.zero_le _⟩ hS (fun r_1 locs hr_1 hS => ?_)
    replace hr_1 : r_1 = (nI (N 2)) := hr_1
    subst r_1
    refine lv_icmp_ge (tgt := 42) hx hb dX4_travellersInState_12 (by decide) (fun c_12_1 => ?_) (fun c_12_1 => ?_)
    · refine lv_iload_n hx hb dX4_travellersInState_42 rfl (lv_at hl 1 rfl) ?_
      exact g_iret hx hb hr hlk hh hS (show (gIt (L_travIn C v) 0 (N 2)) = f_X4_travellersInState C N v from by rw [f_X4_travellersInState]) dX4_travellersInState_43
    · exact absurd (g_le rfl (by omega)) c_12_1
  · have hl : lv_has ls 4 [(3, .int (nI j)), (2, .int (gIt (L_travIn C v) 0 j)), (0, .ref (ad 0 0)), (1, .int v)] := hl
    refine lv_iload_n hx hb dX4_travellersInState_4 rfl (lv_at hl 0 rfl) ?_
    refine lv_aload_n hx hb dX4_travellersInState_5 rfl (lv_at hl 2 rfl) ?_
    refine va_get (D := D) (ci := 5) (v := .ref (ad 1 2)) (C := RX4) (T := TX4) (N := 9) hx hb hts inX4 hown hK (hW.p (e := (eToll ad C)) rfl) 0 rfl rfl 2 (by decide) (hts (.fieldLink RX4 19 "StoryToll" "travellers" "Ljava/util/ArrayList;") (List.mem_of_getElem? (i := 1) rfl)) (fun _ h9 => h9) rfl dX4_travellersInState_6 ?_
    refine g_Vi (As := []) (rest := [.int (nI j)]) C0 (c_Jx4a65c_size_8abf5 l D G A ad N C M o Hp hW 2 (by decide)) (cwV 0 hts gX4_travellersInState_Jx4a65c_size_8abf5 rfl rfl rfl (by decide +kernel) ⟨Nat.le_of_ble_eq_true rfl, Nat.le_of_ble_eq_true rfl⟩) hK (va_recv hK (hW.p (Wd_Li (by omega))) (ci := 0) (q0 := 0) rfl rfl) rfl hl rfl (Nat.le_of_ble_eq_true rfl) dX4_travellersInState_9 ⟨Nat.zero_le _, Nat.zero_le _⟩ hS (fun r_3 locs hr_3 hS => ?_)
    replace hr_3 : r_3 = (nI (N 2)) := hr_3
    subst r_3
    refine lv_icmp_ge (tgt := 42) hx hb dX4_travellersInState_12 (by decide) (fun c_12_3 => ?_) (fun c_12_3 => ?_)
    · exact absurd c_12_3 (g_ge rfl (by omega) hj)
    · refine lv_aload_n hx hb dX4_travellersInState_15 rfl (lv_at hl 2 rfl) ?_
      refine va_get (D := D) (ci := 5) (v := .ref (ad 1 2)) (C := RX4) (T := TX4) (N := 9) hx hb hts inX4 hown hK (hW.p (e := (eToll ad C)) rfl) 0 rfl rfl 2 (by decide) (hts (.fieldLink RX4 19 "StoryToll" "travellers" "Ljava/util/ArrayList;") (List.mem_of_getElem? (i := 1) rfl)) (fun _ h9 => h9) rfl dX4_travellersInState_16 ?_
      refine lv_iload_n hx hb dX4_travellersInState_19 rfl (lv_at hl 0 rfl) ?_
      refine g_Vr (As := [.int (nI j)]) (rest := []) C0 (c_Jx4a65c_get_915e3 l D G A ad N C M o Hp hW 2 (by decide) hNN j _ rfl (by omega)) (cwV 1 hts gX4_travellersInState_Jx4a65c_get_915e3 rfl rfl rfl (by decide +kernel) ⟨Nat.le_of_ble_eq_true rfl, Nat.le_of_ble_eq_true rfl⟩) hK (va_recv hK (hW.p (Wd_Li (by omega))) (ci := 0) (q0 := 0) rfl rfl) rfl hl rfl (Nat.le_of_ble_eq_true rfl) dX4_travellersInState_20 ⟨Nat.zero_le _, Nat.zero_le _⟩ hS (fun r_5 locs hr_5 hS => ?_)
      replace hr_5 : r_5 = ad 5 j := hr_5
      subst r_5
      refine g_cast hx hb hown hK hW (Wd_Tr (by omega)) rfl (hts (.classLink RX4 95 "StoryToll$Traveller") (List.mem_of_getElem? (i := 2) rfl)) dX4_travellersInState_23 ?_
      refine va_get (D := D) (ci := 4) (v := .int (C 53 j)) (C := RX3) (T := TX3) (N := 5) hx hb hts inX3 hown hK (hW.p (e := (eTr C j)) (Wd_Tr (by omega))) 0 rfl rfl 3 (by decide) (hts (.fieldLink RX4 148 "StoryToll$Traveller" "state" "I") (List.mem_of_getElem? (i := 3) rfl)) (fun _ h9 => h9) rfl dX4_travellersInState_26 ?_
      refine lv_iload_n hx hb dX4_travellersInState_29 rfl (lv_at hl 3 rfl) ?_
      refine lv_icmp_ne (tgt := 36) hx hb dX4_travellersInState_30 (by decide) (fun c_30_5 => ?_) (fun c_30_5 => ?_)
      · refine lv_iinc (v := (nI (j + 1))) (lv' := [(3, .int (nI (j + 1))), (2, .int (gIt (L_travIn C v) 0 j)), (0, .ref (ad 0 0)), (1, .int v)]) hx hb dX4_travellersInState_36 hl (k := 0) rfl (nI_1 _) (by decide) rfl (fun ls hl => ?_)
        refine lv_goto (tgt := 4) hx hb dX4_travellersInState_39 (by decide) ?_
        have ea : (gIt (L_travIn C v) 0 j) = (gIt (L_travIn C v) 0 (j + 1)) := (show (gIt (L_travIn C v) 0 j) = L_travIn C v j (gIt (L_travIn C v) 0 j) from by (rw [L_travIn, if_neg c_30_5]) <;> rfl)
        have hl2 : lv_has ls 4 [(3, .int (nI (j + 1))), (2, .int (gIt (L_travIn C v) 0 (j + 1))), (0, .ref (ad 0 0)), (1, .int v)] := by rw [← ea]; exact lv_sub hl [0, 1, 2, 3] rfl
        exact ih ls locs hl2 hS
      · refine lv_iinc (v := ((gIt (L_travIn C v) 0 j) + 1)) (lv' := [(2, .int ((gIt (L_travIn C v) 0 j) + 1)), (3, .int (nI j)), (0, .ref (ad 0 0)), (1, .int v)]) hx hb dX4_travellersInState_33 hl (k := 1) rfl rfl (by decide) rfl (fun ls hl => ?_)
        refine lv_iinc (v := (nI (j + 1))) (lv' := [(3, .int (nI (j + 1))), (2, .int ((gIt (L_travIn C v) 0 j) + 1)), (0, .ref (ad 0 0)), (1, .int v)]) hx hb dX4_travellersInState_36 hl (k := 1) rfl (nI_1 _) (by decide) rfl (fun ls hl => ?_)
        refine lv_goto (tgt := 4) hx hb dX4_travellersInState_39 (by decide) ?_
        have ea : ((gIt (L_travIn C v) 0 j) + 1) = (gIt (L_travIn C v) 0 (j + 1)) := (show ((gIt (L_travIn C v) 0 j) + 1) = L_travIn C v j (gIt (L_travIn C v) 0 j) from by (rw [L_travIn, if_pos c_30_5]) <;> rfl)
        have hl2 : lv_has ls 4 [(3, .int (nI (j + 1))), (2, .int (gIt (L_travIn C v) 0 (j + 1))), (0, .ref (ad 0 0)), (1, .int v)] := by rw [← ea]; exact lv_sub hl [0, 1, 2, 3] rfl
        exact ih ls locs hl2 hS
def L_openPlots (C : gT) (j : Nat) (acc : Int32) : Int32 := (if (f_X1_isOpen C j) = 0 then acc else (acc + 1))
def f_X4_openPlots (C : gT) (N : gN) : Int32 := (gIt (L_openPlots C) 0 (N 3))
set_option maxHeartbeats 4000000 in
set_option maxRecDepth 100000 in
theorem c_X4_openPlots (l : Launch) (D : va_G) (G : gG) (A : Nat → Prop) (ad : gAd) (N : gN) (C M : gT) (o : Nat → Int64) (Hp : Heap) (hW : gW D A ad (Wd G ad N C M o) Hp) (hC : IC N C)  : Met l yX4_openPlots wsX4_openPlots ({ frames := 3, cells := 0, slots := 0, locals := 64 }) (va_Pc [.ref (ad 0 0)] (gQ D (gTs G) Hp)) (gRi (fun r => r = f_X4_openPlots C N) Hp) 0 0 gF := by
  refine g_start (cc := cX4_openPlots) (maxL := 3) (ret := (some .int)) (by decide) rfl (Nat.le_of_ble_eq_true rfl) (fun p e s m below meth c ls C0 hr hlk hnm hh hK hl => ?_)
  obtain ⟨hx, hb, hml, hown, hts⟩ := id C0
  have hown : s.vm.findClass RX4 = some m.cls := hown
  have hS : va_S gF Hp Hp [] := va_S.rf
  have hl : lv_has ls 3 [(0, .ref (ad 0 0))] := hl
  have inX4 : ∀ w ∈ wsX40, w ∈ wsX4_openPlots := by decide +kernel
  obtain ⟨⟨hc0, hc1, hc2, hc3⟩, hNN, hCp⟩ := id hC
  have hn0 := hNN 0 (by decide)
  have hn1 := hNN 1 (by decide)
  have hn2 := hNN 2 (by decide)
  have hn3 := hNN 3 (by decide)
  refine lv_iconst (v := 0) hx hb dX4_openPlots_0 (by decide) ?_
  refine lv_istore_n (lv' := [(1, .int 0), (0, .ref (ad 0 0))]) hx hb dX4_openPlots_1 rfl hl (by decide) rfl (fun ls hl => ?_)
  refine lv_iconst (v := 0) hx hb dX4_openPlots_2 (by decide) ?_
  refine lv_istore_n (lv' := [(2, .int 0), (1, .int 0), (0, .ref (ad 0 0))]) hx hb dX4_openPlots_3 rfl hl (by decide) rfl (fun ls hl => ?_)
  refine g_loop (N 3) (fun j ls => lv_has ls 3 [(2, .int (nI j)), (1, .int (gIt (L_openPlots C) 0 j)), (0, .ref (ad 0 0))]) (lv_sub hl [0, 1, 2] rfl) hS (fun ls locs hl hS => ?_) (fun j ls locs hj hl hS ih => ?_)
  · have hl : lv_has ls 3 [(2, .int (nI (N 3))), (1, .int (gIt (L_openPlots C) 0 (N 3))), (0, .ref (ad 0 0))] := hl
    refine lv_iload_n hx hb dX4_openPlots_4 rfl (lv_at hl 0 rfl) ?_
    refine lv_aload_n hx hb dX4_openPlots_5 rfl (lv_at hl 2 rfl) ?_
    refine va_get (D := D) (ci := 5) (v := .ref (ad 1 3)) (C := RX4) (T := TX4) (N := 9) hx hb hts inX4 hown hK (hW.p (e := (eToll ad C)) rfl) 0 rfl rfl 3 (by decide) (hts (.fieldLink RX4 22 "StoryToll" "plots" "Ljava/util/ArrayList;") (List.mem_of_getElem? (i := 1) rfl)) (fun _ h9 => h9) rfl dX4_openPlots_6 ?_
    refine g_Vi (As := []) (rest := [.int (nI (N 3))]) C0 (c_Jx4a65c_size_8abf5 l D G A ad N C M o Hp hW 3 (by decide)) (cwV 0 hts gX4_openPlots_Jx4a65c_size_8abf5 rfl rfl rfl (by decide +kernel) ⟨Nat.le_of_ble_eq_true rfl, Nat.le_of_ble_eq_true rfl⟩) hK (va_recv hK (hW.p (Wd_Li (by omega))) (ci := 0) (q0 := 0) rfl rfl) rfl hl rfl (Nat.le_of_ble_eq_true rfl) dX4_openPlots_9 ⟨Nat.zero_le _, Nat.zero_le _⟩ hS (fun r_1 locs hr_1 hS => ?_)
    replace hr_1 : r_1 = (nI (N 3)) := hr_1
    subst r_1
    refine lv_icmp_ge (tgt := 41) hx hb dX4_openPlots_12 (by decide) (fun c_12_1 => ?_) (fun c_12_1 => ?_)
    · refine lv_iload_n hx hb dX4_openPlots_41 rfl (lv_at hl 1 rfl) ?_
      exact g_iret hx hb hr hlk hh hS (show (gIt (L_openPlots C) 0 (N 3)) = f_X4_openPlots C N from by rw [f_X4_openPlots]) dX4_openPlots_42
    · exact absurd (g_le rfl (by omega)) c_12_1
  · have hl : lv_has ls 3 [(2, .int (nI j)), (1, .int (gIt (L_openPlots C) 0 j)), (0, .ref (ad 0 0))] := hl
    refine lv_iload_n hx hb dX4_openPlots_4 rfl (lv_at hl 0 rfl) ?_
    refine lv_aload_n hx hb dX4_openPlots_5 rfl (lv_at hl 2 rfl) ?_
    refine va_get (D := D) (ci := 5) (v := .ref (ad 1 3)) (C := RX4) (T := TX4) (N := 9) hx hb hts inX4 hown hK (hW.p (e := (eToll ad C)) rfl) 0 rfl rfl 3 (by decide) (hts (.fieldLink RX4 22 "StoryToll" "plots" "Ljava/util/ArrayList;") (List.mem_of_getElem? (i := 1) rfl)) (fun _ h9 => h9) rfl dX4_openPlots_6 ?_
    refine g_Vi (As := []) (rest := [.int (nI j)]) C0 (c_Jx4a65c_size_8abf5 l D G A ad N C M o Hp hW 3 (by decide)) (cwV 0 hts gX4_openPlots_Jx4a65c_size_8abf5 rfl rfl rfl (by decide +kernel) ⟨Nat.le_of_ble_eq_true rfl, Nat.le_of_ble_eq_true rfl⟩) hK (va_recv hK (hW.p (Wd_Li (by omega))) (ci := 0) (q0 := 0) rfl rfl) rfl hl rfl (Nat.le_of_ble_eq_true rfl) dX4_openPlots_9 ⟨Nat.zero_le _, Nat.zero_le _⟩ hS (fun r_3 locs hr_3 hS => ?_)
    replace hr_3 : r_3 = (nI (N 3)) := hr_3
    subst r_3
    refine lv_icmp_ge (tgt := 41) hx hb dX4_openPlots_12 (by decide) (fun c_12_3 => ?_) (fun c_12_3 => ?_)
    · exact absurd c_12_3 (g_ge rfl (by omega) hj)
    · refine lv_aload_n hx hb dX4_openPlots_15 rfl (lv_at hl 2 rfl) ?_
      refine va_get (D := D) (ci := 5) (v := .ref (ad 1 3)) (C := RX4) (T := TX4) (N := 9) hx hb hts inX4 hown hK (hW.p (e := (eToll ad C)) rfl) 0 rfl rfl 3 (by decide) (hts (.fieldLink RX4 22 "StoryToll" "plots" "Ljava/util/ArrayList;") (List.mem_of_getElem? (i := 1) rfl)) (fun _ h9 => h9) rfl dX4_openPlots_16 ?_
      refine lv_iload_n hx hb dX4_openPlots_19 rfl (lv_at hl 0 rfl) ?_
      refine g_Vr (As := [.int (nI j)]) (rest := []) C0 (c_Jx4a65c_get_915e3 l D G A ad N C M o Hp hW 3 (by decide) hNN j _ rfl (by omega)) (cwV 1 hts gX4_openPlots_Jx4a65c_get_915e3 rfl rfl rfl (by decide +kernel) ⟨Nat.le_of_ble_eq_true rfl, Nat.le_of_ble_eq_true rfl⟩) hK (va_recv hK (hW.p (Wd_Li (by omega))) (ci := 0) (q0 := 0) rfl rfl) rfl hl rfl (Nat.le_of_ble_eq_true rfl) dX4_openPlots_20 ⟨Nat.zero_le _, Nat.zero_le _⟩ hS (fun r_5 locs hr_5 hS => ?_)
      replace hr_5 : r_5 = ad 6 j := hr_5
      subst r_5
      refine g_cast hx hb hown hK hW (Wd_Pl (by omega)) rfl (hts (.classLink RX4 118 "StoryToll$Plot") (List.mem_of_getElem? (i := 2) rfl)) dX4_openPlots_23 ?_
      refine g_Vi (As := []) (rest := []) C0 (c_X1_isOpen l D G A ad N C M o Hp hW hC j (by omega)) (cwV 0 hts gX4_openPlots_X1_isOpen rfl rfl rfl (by decide +kernel) ⟨Nat.le_of_ble_eq_true rfl, Nat.le_of_ble_eq_true rfl⟩) hK (va_recv hK (hW.p (Wd_Pl (by omega))) (ci := 2) (q0 := 0) rfl rfl) rfl hl rfl (Nat.le_of_ble_eq_true rfl) dX4_openPlots_26 ⟨Nat.zero_le _, Nat.zero_le _⟩ hS (fun r_6 locs hr_6 hS => ?_)
      replace hr_6 : r_6 = (f_X1_isOpen C j) := hr_6
      subst r_6
      refine lv_if_eq (tgt := 35) hx hb dX4_openPlots_29 (by decide) (fun c_29_6 => ?_) (fun c_29_6 => ?_)
      · refine lv_iinc (v := (nI (j + 1))) (lv' := [(2, .int (nI (j + 1))), (1, .int (gIt (L_openPlots C) 0 j)), (0, .ref (ad 0 0))]) hx hb dX4_openPlots_35 hl (k := 0) rfl (nI_1 _) (by decide) rfl (fun ls hl => ?_)
        refine lv_goto (tgt := 4) hx hb dX4_openPlots_38 (by decide) ?_
        have ea : (gIt (L_openPlots C) 0 j) = (gIt (L_openPlots C) 0 (j + 1)) := (show (gIt (L_openPlots C) 0 j) = L_openPlots C j (gIt (L_openPlots C) 0 j) from by (rw [L_openPlots, if_pos c_29_6]) <;> rfl)
        have hl2 : lv_has ls 3 [(2, .int (nI (j + 1))), (1, .int (gIt (L_openPlots C) 0 (j + 1))), (0, .ref (ad 0 0))] := by rw [← ea]; exact lv_sub hl [0, 1, 2] rfl
        exact ih ls locs hl2 hS
      · refine lv_iinc (v := ((gIt (L_openPlots C) 0 j) + 1)) (lv' := [(1, .int ((gIt (L_openPlots C) 0 j) + 1)), (2, .int (nI j)), (0, .ref (ad 0 0))]) hx hb dX4_openPlots_32 hl (k := 1) rfl rfl (by decide) rfl (fun ls hl => ?_)
        refine lv_iinc (v := (nI (j + 1))) (lv' := [(2, .int (nI (j + 1))), (1, .int ((gIt (L_openPlots C) 0 j) + 1)), (0, .ref (ad 0 0))]) hx hb dX4_openPlots_35 hl (k := 1) rfl (nI_1 _) (by decide) rfl (fun ls hl => ?_)
        refine lv_goto (tgt := 4) hx hb dX4_openPlots_38 (by decide) ?_
        have ea : ((gIt (L_openPlots C) 0 j) + 1) = (gIt (L_openPlots C) 0 (j + 1)) := (show ((gIt (L_openPlots C) 0 j) + 1) = L_openPlots C j (gIt (L_openPlots C) 0 j) from by (rw [L_openPlots, if_neg c_29_6]) <;> rfl)
        have hl2 : lv_has ls 3 [(2, .int (nI (j + 1))), (1, .int (gIt (L_openPlots C) 0 (j + 1))), (0, .ref (ad 0 0))] := by rw [← ea]; exact lv_sub hl [0, 1, 2] rfl
        exact ih ls locs hl2 hS
def L_endRes (C : gT) (v : Int32) (j : Nat) (acc : Int32) : Int32 := (if (C 65 j) = v then (acc + 1) else acc)
def f_X4_endingsReservedBy (C : gT) (N : gN) (v : Int32) : Int32 := (gIt (L_endRes C v) 0 (N 3))
set_option maxHeartbeats 4000000 in
set_option maxRecDepth 100000 in
theorem c_X4_endingsReservedBy (l : Launch) (D : va_G) (G : gG) (A : Nat → Prop) (ad : gAd) (N : gN) (C M : gT) (o : Nat → Int64) (Hp : Heap) (hW : gW D A ad (Wd G ad N C M o) Hp) (hC : IC N C) (v : Int32) : Met l yX4_endingsReservedBy wsX4_endingsReservedBy ({ frames := 3, cells := 0, slots := 0, locals := 64 }) (va_Pc [.ref (ad 0 0), .int v] (gQ D (gTs G) Hp)) (gRi (fun r => r = f_X4_endingsReservedBy C N v) Hp) 0 0 gF := by
  refine g_start (cc := cX4_endingsReservedBy) (maxL := 4) (ret := (some .int)) (by decide) rfl (Nat.le_of_ble_eq_true rfl) (fun p e s m below meth c ls C0 hr hlk hnm hh hK hl => ?_)
  obtain ⟨hx, hb, hml, hown, hts⟩ := id C0
  have hown : s.vm.findClass RX4 = some m.cls := hown
  have hS : va_S gF Hp Hp [] := va_S.rf
  have hl : lv_has ls 4 [(0, .ref (ad 0 0)), (1, .int v)] := hl
  have inX4 : ∀ w ∈ wsX40, w ∈ wsX4_endingsReservedBy := by decide +kernel
  have inX1 : ∀ w ∈ wsX10, w ∈ wsX4_endingsReservedBy := by decide +kernel
  obtain ⟨⟨hc0, hc1, hc2, hc3⟩, hNN, hCp⟩ := id hC
  have hn0 := hNN 0 (by decide)
  have hn1 := hNN 1 (by decide)
  have hn2 := hNN 2 (by decide)
  have hn3 := hNN 3 (by decide)
  refine lv_iconst (v := 0) hx hb dX4_endingsReservedBy_0 (by decide) ?_
  refine lv_istore_n (lv' := [(2, .int 0), (0, .ref (ad 0 0)), (1, .int v)]) hx hb dX4_endingsReservedBy_1 rfl hl (by decide) rfl (fun ls hl => ?_)
  refine lv_iconst (v := 0) hx hb dX4_endingsReservedBy_2 (by decide) ?_
  refine lv_istore_n (lv' := [(3, .int 0), (2, .int 0), (0, .ref (ad 0 0)), (1, .int v)]) hx hb dX4_endingsReservedBy_3 rfl hl (by decide) rfl (fun ls hl => ?_)
  refine g_loop (N 3) (fun j ls => lv_has ls 4 [(3, .int (nI j)), (2, .int (gIt (L_endRes C v) 0 j)), (0, .ref (ad 0 0)), (1, .int v)]) (lv_sub hl [0, 1, 2, 3] rfl) hS (fun ls locs hl hS => ?_) (fun j ls locs hj hl hS ih => ?_)
  · have hl : lv_has ls 4 [(3, .int (nI (N 3))), (2, .int (gIt (L_endRes C v) 0 (N 3))), (0, .ref (ad 0 0)), (1, .int v)] := hl
    refine lv_iload_n hx hb dX4_endingsReservedBy_4 rfl (lv_at hl 0 rfl) ?_
    refine lv_aload_n hx hb dX4_endingsReservedBy_5 rfl (lv_at hl 2 rfl) ?_
    refine va_get (D := D) (ci := 5) (v := .ref (ad 1 3)) (C := RX4) (T := TX4) (N := 9) hx hb hts inX4 hown hK (hW.p (e := (eToll ad C)) rfl) 0 rfl rfl 3 (by decide) (hts (.fieldLink RX4 22 "StoryToll" "plots" "Ljava/util/ArrayList;") (List.mem_of_getElem? (i := 1) rfl)) (fun _ h9 => h9) rfl dX4_endingsReservedBy_6 ?_
    refine g_Vi (As := []) (rest := [.int (nI (N 3))]) C0 (c_Jx4a65c_size_8abf5 l D G A ad N C M o Hp hW 3 (by decide)) (cwV 0 hts gX4_endingsReservedBy_Jx4a65c_size_8abf5 rfl rfl rfl (by decide +kernel) ⟨Nat.le_of_ble_eq_true rfl, Nat.le_of_ble_eq_true rfl⟩) hK (va_recv hK (hW.p (Wd_Li (by omega))) (ci := 0) (q0 := 0) rfl rfl) rfl hl rfl (Nat.le_of_ble_eq_true rfl) dX4_endingsReservedBy_9 ⟨Nat.zero_le _, Nat.zero_le _⟩ hS (fun r_1 locs hr_1 hS => ?_)
    replace hr_1 : r_1 = (nI (N 3)) := hr_1
    subst r_1
    refine lv_icmp_ge (tgt := 42) hx hb dX4_endingsReservedBy_12 (by decide) (fun c_12_1 => ?_) (fun c_12_1 => ?_)
    · refine lv_iload_n hx hb dX4_endingsReservedBy_42 rfl (lv_at hl 1 rfl) ?_
      exact g_iret hx hb hr hlk hh hS (show (gIt (L_endRes C v) 0 (N 3)) = f_X4_endingsReservedBy C N v from by rw [f_X4_endingsReservedBy]) dX4_endingsReservedBy_43
    · exact absurd (g_le rfl (by omega)) c_12_1
  · have hl : lv_has ls 4 [(3, .int (nI j)), (2, .int (gIt (L_endRes C v) 0 j)), (0, .ref (ad 0 0)), (1, .int v)] := hl
    refine lv_iload_n hx hb dX4_endingsReservedBy_4 rfl (lv_at hl 0 rfl) ?_
    refine lv_aload_n hx hb dX4_endingsReservedBy_5 rfl (lv_at hl 2 rfl) ?_
    refine va_get (D := D) (ci := 5) (v := .ref (ad 1 3)) (C := RX4) (T := TX4) (N := 9) hx hb hts inX4 hown hK (hW.p (e := (eToll ad C)) rfl) 0 rfl rfl 3 (by decide) (hts (.fieldLink RX4 22 "StoryToll" "plots" "Ljava/util/ArrayList;") (List.mem_of_getElem? (i := 1) rfl)) (fun _ h9 => h9) rfl dX4_endingsReservedBy_6 ?_
    refine g_Vi (As := []) (rest := [.int (nI j)]) C0 (c_Jx4a65c_size_8abf5 l D G A ad N C M o Hp hW 3 (by decide)) (cwV 0 hts gX4_endingsReservedBy_Jx4a65c_size_8abf5 rfl rfl rfl (by decide +kernel) ⟨Nat.le_of_ble_eq_true rfl, Nat.le_of_ble_eq_true rfl⟩) hK (va_recv hK (hW.p (Wd_Li (by omega))) (ci := 0) (q0 := 0) rfl rfl) rfl hl rfl (Nat.le_of_ble_eq_true rfl) dX4_endingsReservedBy_9 ⟨Nat.zero_le _, Nat.zero_le _⟩ hS (fun r_3 locs hr_3 hS => ?_)
    replace hr_3 : r_3 = (nI (N 3)) := hr_3
    subst r_3
    refine lv_icmp_ge (tgt := 42) hx hb dX4_endingsReservedBy_12 (by decide) (fun c_12_3 => ?_) (fun c_12_3 => ?_)
    · exact absurd c_12_3 (g_ge rfl (by omega) hj)
    · refine lv_aload_n hx hb dX4_endingsReservedBy_15 rfl (lv_at hl 2 rfl) ?_
      refine va_get (D := D) (ci := 5) (v := .ref (ad 1 3)) (C := RX4) (T := TX4) (N := 9) hx hb hts inX4 hown hK (hW.p (e := (eToll ad C)) rfl) 0 rfl rfl 3 (by decide) (hts (.fieldLink RX4 22 "StoryToll" "plots" "Ljava/util/ArrayList;") (List.mem_of_getElem? (i := 1) rfl)) (fun _ h9 => h9) rfl dX4_endingsReservedBy_16 ?_
      refine lv_iload_n hx hb dX4_endingsReservedBy_19 rfl (lv_at hl 0 rfl) ?_
      refine g_Vr (As := [.int (nI j)]) (rest := []) C0 (c_Jx4a65c_get_915e3 l D G A ad N C M o Hp hW 3 (by decide) hNN j _ rfl (by omega)) (cwV 1 hts gX4_endingsReservedBy_Jx4a65c_get_915e3 rfl rfl rfl (by decide +kernel) ⟨Nat.le_of_ble_eq_true rfl, Nat.le_of_ble_eq_true rfl⟩) hK (va_recv hK (hW.p (Wd_Li (by omega))) (ci := 0) (q0 := 0) rfl rfl) rfl hl rfl (Nat.le_of_ble_eq_true rfl) dX4_endingsReservedBy_20 ⟨Nat.zero_le _, Nat.zero_le _⟩ hS (fun r_5 locs hr_5 hS => ?_)
      replace hr_5 : r_5 = ad 6 j := hr_5
      subst r_5
      refine g_cast hx hb hown hK hW (Wd_Pl (by omega)) rfl (hts (.classLink RX4 118 "StoryToll$Plot") (List.mem_of_getElem? (i := 2) rfl)) dX4_endingsReservedBy_23 ?_
      refine va_get (D := D) (ci := 2) (v := .int (C 65 j)) (C := RX1) (T := TX1) (N := 6) hx hb hts inX1 hown hK (hW.p (e := (ePl ad C j)) (Wd_Pl (by omega))) 0 rfl rfl 5 (by decide) (hts (.fieldLink RX4 155 "StoryToll$Plot" "holder" "I") (List.mem_of_getElem? (i := 3) rfl)) (fun _ h9 => h9) rfl dX4_endingsReservedBy_26 ?_
      refine lv_iload_n hx hb dX4_endingsReservedBy_29 rfl (lv_at hl 3 rfl) ?_
      refine lv_icmp_ne (tgt := 36) hx hb dX4_endingsReservedBy_30 (by decide) (fun c_30_5 => ?_) (fun c_30_5 => ?_)
      · refine lv_iinc (v := (nI (j + 1))) (lv' := [(3, .int (nI (j + 1))), (2, .int (gIt (L_endRes C v) 0 j)), (0, .ref (ad 0 0)), (1, .int v)]) hx hb dX4_endingsReservedBy_36 hl (k := 0) rfl (nI_1 _) (by decide) rfl (fun ls hl => ?_)
        refine lv_goto (tgt := 4) hx hb dX4_endingsReservedBy_39 (by decide) ?_
        have ea : (gIt (L_endRes C v) 0 j) = (gIt (L_endRes C v) 0 (j + 1)) := (show (gIt (L_endRes C v) 0 j) = L_endRes C v j (gIt (L_endRes C v) 0 j) from by (rw [L_endRes, if_neg c_30_5]) <;> rfl)
        have hl2 : lv_has ls 4 [(3, .int (nI (j + 1))), (2, .int (gIt (L_endRes C v) 0 (j + 1))), (0, .ref (ad 0 0)), (1, .int v)] := by rw [← ea]; exact lv_sub hl [0, 1, 2, 3] rfl
        exact ih ls locs hl2 hS
      · refine lv_iinc (v := ((gIt (L_endRes C v) 0 j) + 1)) (lv' := [(2, .int ((gIt (L_endRes C v) 0 j) + 1)), (3, .int (nI j)), (0, .ref (ad 0 0)), (1, .int v)]) hx hb dX4_endingsReservedBy_33 hl (k := 1) rfl rfl (by decide) rfl (fun ls hl => ?_)
        refine lv_iinc (v := (nI (j + 1))) (lv' := [(3, .int (nI (j + 1))), (2, .int ((gIt (L_endRes C v) 0 j) + 1)), (0, .ref (ad 0 0)), (1, .int v)]) hx hb dX4_endingsReservedBy_36 hl (k := 1) rfl (nI_1 _) (by decide) rfl (fun ls hl => ?_)
        refine lv_goto (tgt := 4) hx hb dX4_endingsReservedBy_39 (by decide) ?_
        have ea : ((gIt (L_endRes C v) 0 j) + 1) = (gIt (L_endRes C v) 0 (j + 1)) := (show ((gIt (L_endRes C v) 0 j) + 1) = L_endRes C v j (gIt (L_endRes C v) 0 j) from by (rw [L_endRes, if_pos c_30_5]) <;> rfl)
        have hl2 : lv_has ls 4 [(3, .int (nI (j + 1))), (2, .int (gIt (L_endRes C v) 0 (j + 1))), (0, .ref (ad 0 0)), (1, .int v)] := by rw [← ea]; exact lv_sub hl [0, 1, 2, 3] rfl
        exact ih ls locs hl2 hS
def f_X4_answerOfGate (C : gT) (N : gN) (w : Int32) : Int32 := (if w = 0 then (C 0 5) else (if w = 1 then (nI (N 0)) else (if w = 2 then (C 0 4) else (if w = 3 then (nI (N 1)) else (if w = 4 then (f_X4_guardsAwake C N) else (if w = 5 then (nI (N 2)) else (if w = 6 then (f_X4_travellersInState C N 0) else (if w = 7 then (f_X4_travellersInState C N 1) else (if w = 8 then (nI (N 3)) else (if w = 9 then (f_X4_openPlots C N) else (C 0 6)))))))))))
set_option maxHeartbeats 4000000 in
set_option maxRecDepth 100000 in
theorem c_X4_answerOfGate (l : Launch) (D : va_G) (G : gG) (A : Nat → Prop) (ad : gAd) (N : gN) (C M : gT) (o : Nat → Int64) (Hp : Heap) (hW : gW D A ad (Wd G ad N C M o) Hp) (hC : IC N C) (w : Int32) : Met l yX4_answerOfGate wsX4_answerOfGate ({ frames := 4, cells := 0, slots := 0, locals := 87 }) (va_Pc [.ref (ad 0 0), .int w] (gQ D (gTs G) Hp)) (gRi (fun r => r = f_X4_answerOfGate C N w) Hp) 0 0 gF := by
  refine g_start (cc := cX4_answerOfGate) (maxL := 2) (ret := (some .int)) (by decide) rfl (Nat.le_of_ble_eq_true rfl) (fun p e s m below meth c ls C0 hr hlk hnm hh hK hl => ?_)
  obtain ⟨hx, hb, hml, hown, hts⟩ := id C0
  have hown : s.vm.findClass RX4 = some m.cls := hown
  have hS : va_S gF Hp Hp [] := va_S.rf
  have hl : lv_has ls 2 [(0, .ref (ad 0 0)), (1, .int w)] := hl
  have inX4 : ∀ w ∈ wsX40, w ∈ wsX4_answerOfGate := by decide +kernel
  obtain ⟨⟨hc0, hc1, hc2, hc3⟩, hNN, hCp⟩ := id hC
  have hn0 := hNN 0 (by decide)
  have hn1 := hNN 1 (by decide)
  have hn2 := hNN 2 (by decide)
  have hn3 := hNN 3 (by decide)
  refine lv_iload_n hx hb dX4_answerOfGate_0 rfl (lv_at hl 1 rfl) ?_
  by_cases c_f_0 : w = 0
  · refine lv_tableIn (off := 55) (tgt := 56) hx hb dX4_answerOfGate_1 (by rw [c_f_0]; decide) (by rw [c_f_0]; decide) (by rw [c_f_0]; rfl) (by decide) ?_
    refine lv_aload_n hx hb dX4_answerOfGate_56 rfl (lv_at hl 0 rfl) ?_
    refine va_get (D := D) (ci := 5) (v := .int (C 0 5)) (C := RX4) (T := TX4) (N := 9) hx hb hts inX4 hown hK (hW.p (e := (eToll ad C)) rfl) 0 rfl rfl 5 (by decide) (hts (.fieldLink RX4 177 "StoryToll" "watchNow" "I") (List.mem_of_getElem? (i := 1) rfl)) (fun _ h9 => h9) rfl dX4_answerOfGate_57 ?_
    exact g_iret hx hb hr hlk hh hS (show (C 0 5) = f_X4_answerOfGate C N w from by rw [f_X4_answerOfGate, if_pos c_f_0]) dX4_answerOfGate_60
  · by_cases c_f_1 : w = 1
    · refine lv_tableIn (off := 60) (tgt := 61) hx hb dX4_answerOfGate_1 (by rw [c_f_1]; decide) (by rw [c_f_1]; decide) (by rw [c_f_1]; rfl) (by decide) ?_
      refine lv_aload_n hx hb dX4_answerOfGate_61 rfl (lv_at hl 0 rfl) ?_
      refine va_get (D := D) (ci := 5) (v := .ref (ad 1 0)) (C := RX4) (T := TX4) (N := 9) hx hb hts inX4 hown hK (hW.p (e := (eToll ad C)) rfl) 0 rfl rfl 0 (by decide) (hts (.fieldLink RX4 10 "StoryToll" "scenes" "Ljava/util/ArrayList;") (List.mem_of_getElem? (i := 2) rfl)) (fun _ h9 => h9) rfl dX4_answerOfGate_62 ?_
      refine g_Vi (As := []) (rest := []) C0 (c_Jx4a65c_size_8abf5 l D G A ad N C M o Hp hW 0 (by decide)) (cwV 0 hts gX4_answerOfGate_Jx4a65c_size_8abf5 rfl rfl rfl (by decide +kernel) ⟨Nat.le_of_ble_eq_true rfl, Nat.le_of_ble_eq_true rfl⟩) hK (va_recv hK (hW.p (Wd_Li (by omega))) (ci := 0) (q0 := 0) rfl rfl) rfl hl rfl (Nat.le_of_ble_eq_true rfl) dX4_answerOfGate_65 ⟨Nat.zero_le _, Nat.zero_le _⟩ hS (fun r_3 locs hr_3 hS => ?_)
      replace hr_3 : r_3 = (nI (N 0)) := hr_3
      subst r_3
      exact g_iret hx hb hr hlk hh hS (show (nI (N 0)) = f_X4_answerOfGate C N w from by rw [f_X4_answerOfGate, if_neg c_f_0, if_pos c_f_1]) dX4_answerOfGate_68
    · by_cases c_f_3 : w = 2
      · refine lv_tableIn (off := 68) (tgt := 69) hx hb dX4_answerOfGate_1 (by rw [c_f_3]; decide) (by rw [c_f_3]; decide) (by rw [c_f_3]; rfl) (by decide) ?_
        refine lv_aload_n hx hb dX4_answerOfGate_69 rfl (lv_at hl 0 rfl) ?_
        refine va_get (D := D) (ci := 5) (v := .int (C 0 4)) (C := RX4) (T := TX4) (N := 9) hx hb hts inX4 hown hK (hW.p (e := (eToll ad C)) rfl) 0 rfl rfl 4 (by decide) (hts (.fieldLink RX4 75 "StoryToll" "pairs" "I") (List.mem_of_getElem? (i := 3) rfl)) (fun _ h9 => h9) rfl dX4_answerOfGate_70 ?_
        exact g_iret hx hb hr hlk hh hS (show (C 0 4) = f_X4_answerOfGate C N w from by rw [f_X4_answerOfGate, if_neg c_f_0, if_neg c_f_1, if_pos c_f_3]) dX4_answerOfGate_73
      · by_cases c_f_4 : w = 3
        · refine lv_tableIn (off := 73) (tgt := 74) hx hb dX4_answerOfGate_1 (by rw [c_f_4]; decide) (by rw [c_f_4]; decide) (by rw [c_f_4]; rfl) (by decide) ?_
          refine lv_aload_n hx hb dX4_answerOfGate_74 rfl (lv_at hl 0 rfl) ?_
          refine va_get (D := D) (ci := 5) (v := .ref (ad 1 1)) (C := RX4) (T := TX4) (N := 9) hx hb hts inX4 hown hK (hW.p (e := (eToll ad C)) rfl) 0 rfl rfl 1 (by decide) (hts (.fieldLink RX4 16 "StoryToll" "guards" "Ljava/util/ArrayList;") (List.mem_of_getElem? (i := 4) rfl)) (fun _ h9 => h9) rfl dX4_answerOfGate_75 ?_
          refine g_Vi (As := []) (rest := []) C0 (c_Jx4a65c_size_8abf5 l D G A ad N C M o Hp hW 1 (by decide)) (cwV 0 hts gX4_answerOfGate_Jx4a65c_size_8abf5 rfl rfl rfl (by decide +kernel) ⟨Nat.le_of_ble_eq_true rfl, Nat.le_of_ble_eq_true rfl⟩) hK (va_recv hK (hW.p (Wd_Li (by omega))) (ci := 0) (q0 := 0) rfl rfl) rfl hl rfl (Nat.le_of_ble_eq_true rfl) dX4_answerOfGate_78 ⟨Nat.zero_le _, Nat.zero_le _⟩ hS (fun r_6 locs hr_6 hS => ?_)
          replace hr_6 : r_6 = (nI (N 1)) := hr_6
          subst r_6
          exact g_iret hx hb hr hlk hh hS (show (nI (N 1)) = f_X4_answerOfGate C N w from by rw [f_X4_answerOfGate, if_neg c_f_0, if_neg c_f_1, if_neg c_f_3, if_pos c_f_4]) dX4_answerOfGate_81
        · by_cases c_f_6 : w = 4
          · refine lv_tableIn (off := 81) (tgt := 82) hx hb dX4_answerOfGate_1 (by rw [c_f_6]; decide) (by rw [c_f_6]; decide) (by rw [c_f_6]; rfl) (by decide) ?_
            refine lv_aload_n hx hb dX4_answerOfGate_82 rfl (lv_at hl 0 rfl) ?_
            refine g_Vi (As := []) (rest := []) C0 (c_X4_guardsAwake l D G A ad N C M o Hp hW hC) (cwV 0 hts gX4_answerOfGate_X4_guardsAwake rfl rfl rfl (by decide +kernel) ⟨Nat.le_of_ble_eq_true rfl, Nat.le_of_ble_eq_true rfl⟩) hK (va_recv hK (hW.p rfl) (ci := 5) (q0 := 0) rfl rfl) rfl hl rfl (Nat.le_of_ble_eq_true rfl) dX4_answerOfGate_83 ⟨Nat.zero_le _, Nat.zero_le _⟩ hS (fun r_8 locs hr_8 hS => ?_)
            replace hr_8 : r_8 = (f_X4_guardsAwake C N) := hr_8
            subst r_8
            exact g_iret hx hb hr hlk hh hS (show (f_X4_guardsAwake C N) = f_X4_answerOfGate C N w from by rw [f_X4_answerOfGate, if_neg c_f_0, if_neg c_f_1, if_neg c_f_3, if_neg c_f_4, if_pos c_f_6]) dX4_answerOfGate_86
          · by_cases c_f_8 : w = 5
            · refine lv_tableIn (off := 86) (tgt := 87) hx hb dX4_answerOfGate_1 (by rw [c_f_8]; decide) (by rw [c_f_8]; decide) (by rw [c_f_8]; rfl) (by decide) ?_
              refine lv_aload_n hx hb dX4_answerOfGate_87 rfl (lv_at hl 0 rfl) ?_
              refine va_get (D := D) (ci := 5) (v := .ref (ad 1 2)) (C := RX4) (T := TX4) (N := 9) hx hb hts inX4 hown hK (hW.p (e := (eToll ad C)) rfl) 0 rfl rfl 2 (by decide) (hts (.fieldLink RX4 19 "StoryToll" "travellers" "Ljava/util/ArrayList;") (List.mem_of_getElem? (i := 5) rfl)) (fun _ h9 => h9) rfl dX4_answerOfGate_88 ?_
              refine g_Vi (As := []) (rest := []) C0 (c_Jx4a65c_size_8abf5 l D G A ad N C M o Hp hW 2 (by decide)) (cwV 0 hts gX4_answerOfGate_Jx4a65c_size_8abf5 rfl rfl rfl (by decide +kernel) ⟨Nat.le_of_ble_eq_true rfl, Nat.le_of_ble_eq_true rfl⟩) hK (va_recv hK (hW.p (Wd_Li (by omega))) (ci := 0) (q0 := 0) rfl rfl) rfl hl rfl (Nat.le_of_ble_eq_true rfl) dX4_answerOfGate_91 ⟨Nat.zero_le _, Nat.zero_le _⟩ hS (fun r_10 locs hr_10 hS => ?_)
              replace hr_10 : r_10 = (nI (N 2)) := hr_10
              subst r_10
              exact g_iret hx hb hr hlk hh hS (show (nI (N 2)) = f_X4_answerOfGate C N w from by rw [f_X4_answerOfGate, if_neg c_f_0, if_neg c_f_1, if_neg c_f_3, if_neg c_f_4, if_neg c_f_6, if_pos c_f_8]) dX4_answerOfGate_94
            · by_cases c_f_10 : w = 6
              · refine lv_tableIn (off := 94) (tgt := 95) hx hb dX4_answerOfGate_1 (by rw [c_f_10]; decide) (by rw [c_f_10]; decide) (by rw [c_f_10]; rfl) (by decide) ?_
                refine lv_aload_n hx hb dX4_answerOfGate_95 rfl (lv_at hl 0 rfl) ?_
                refine lv_iconst (v := 0) hx hb dX4_answerOfGate_96 (by decide) ?_
                refine g_Vi (As := [.int 0]) (rest := []) C0 (c_X4_travellersInState l D G A ad N C M o Hp hW hC 0) (cwV 1 hts gX4_answerOfGate_X4_travellersInState rfl rfl rfl (by decide +kernel) ⟨Nat.le_of_ble_eq_true rfl, Nat.le_of_ble_eq_true rfl⟩) hK (va_recv hK (hW.p rfl) (ci := 5) (q0 := 0) rfl rfl) rfl hl rfl (Nat.le_of_ble_eq_true rfl) dX4_answerOfGate_97 ⟨Nat.zero_le _, Nat.zero_le _⟩ hS (fun r_12 locs hr_12 hS => ?_)
                replace hr_12 : r_12 = (f_X4_travellersInState C N 0) := hr_12
                subst r_12
                exact g_iret hx hb hr hlk hh hS (show (f_X4_travellersInState C N 0) = f_X4_answerOfGate C N w from by rw [f_X4_answerOfGate, if_neg c_f_0, if_neg c_f_1, if_neg c_f_3, if_neg c_f_4, if_neg c_f_6, if_neg c_f_8, if_pos c_f_10]) dX4_answerOfGate_100
              · by_cases c_f_12 : w = 7
                · refine lv_tableIn (off := 100) (tgt := 101) hx hb dX4_answerOfGate_1 (by rw [c_f_12]; decide) (by rw [c_f_12]; decide) (by rw [c_f_12]; rfl) (by decide) ?_
                  refine lv_aload_n hx hb dX4_answerOfGate_101 rfl (lv_at hl 0 rfl) ?_
                  refine lv_iconst (v := 1) hx hb dX4_answerOfGate_102 (by decide) ?_
                  refine g_Vi (As := [.int 1]) (rest := []) C0 (c_X4_travellersInState l D G A ad N C M o Hp hW hC 1) (cwV 1 hts gX4_answerOfGate_X4_travellersInState rfl rfl rfl (by decide +kernel) ⟨Nat.le_of_ble_eq_true rfl, Nat.le_of_ble_eq_true rfl⟩) hK (va_recv hK (hW.p rfl) (ci := 5) (q0 := 0) rfl rfl) rfl hl rfl (Nat.le_of_ble_eq_true rfl) dX4_answerOfGate_103 ⟨Nat.zero_le _, Nat.zero_le _⟩ hS (fun r_14 locs hr_14 hS => ?_)
                  replace hr_14 : r_14 = (f_X4_travellersInState C N 1) := hr_14
                  subst r_14
                  exact g_iret hx hb hr hlk hh hS (show (f_X4_travellersInState C N 1) = f_X4_answerOfGate C N w from by rw [f_X4_answerOfGate, if_neg c_f_0, if_neg c_f_1, if_neg c_f_3, if_neg c_f_4, if_neg c_f_6, if_neg c_f_8, if_neg c_f_10, if_pos c_f_12]) dX4_answerOfGate_106
                · by_cases c_f_14 : w = 8
                  · refine lv_tableIn (off := 106) (tgt := 107) hx hb dX4_answerOfGate_1 (by rw [c_f_14]; decide) (by rw [c_f_14]; decide) (by rw [c_f_14]; rfl) (by decide) ?_
                    refine lv_aload_n hx hb dX4_answerOfGate_107 rfl (lv_at hl 0 rfl) ?_
                    refine va_get (D := D) (ci := 5) (v := .ref (ad 1 3)) (C := RX4) (T := TX4) (N := 9) hx hb hts inX4 hown hK (hW.p (e := (eToll ad C)) rfl) 0 rfl rfl 3 (by decide) (hts (.fieldLink RX4 22 "StoryToll" "plots" "Ljava/util/ArrayList;") (List.mem_of_getElem? (i := 6) rfl)) (fun _ h9 => h9) rfl dX4_answerOfGate_108 ?_
                    refine g_Vi (As := []) (rest := []) C0 (c_Jx4a65c_size_8abf5 l D G A ad N C M o Hp hW 3 (by decide)) (cwV 0 hts gX4_answerOfGate_Jx4a65c_size_8abf5 rfl rfl rfl (by decide +kernel) ⟨Nat.le_of_ble_eq_true rfl, Nat.le_of_ble_eq_true rfl⟩) hK (va_recv hK (hW.p (Wd_Li (by omega))) (ci := 0) (q0 := 0) rfl rfl) rfl hl rfl (Nat.le_of_ble_eq_true rfl) dX4_answerOfGate_111 ⟨Nat.zero_le _, Nat.zero_le _⟩ hS (fun r_16 locs hr_16 hS => ?_)
                    replace hr_16 : r_16 = (nI (N 3)) := hr_16
                    subst r_16
                    exact g_iret hx hb hr hlk hh hS (show (nI (N 3)) = f_X4_answerOfGate C N w from by rw [f_X4_answerOfGate, if_neg c_f_0, if_neg c_f_1, if_neg c_f_3, if_neg c_f_4, if_neg c_f_6, if_neg c_f_8, if_neg c_f_10, if_neg c_f_12, if_pos c_f_14]) dX4_answerOfGate_114
                  · by_cases c_f_16 : w = 9
                    · refine lv_tableIn (off := 114) (tgt := 115) hx hb dX4_answerOfGate_1 (by rw [c_f_16]; decide) (by rw [c_f_16]; decide) (by rw [c_f_16]; rfl) (by decide) ?_
                      refine lv_aload_n hx hb dX4_answerOfGate_115 rfl (lv_at hl 0 rfl) ?_
                      refine g_Vi (As := []) (rest := []) C0 (c_X4_openPlots l D G A ad N C M o Hp hW hC) (cwV 0 hts gX4_answerOfGate_X4_openPlots rfl rfl rfl (by decide +kernel) ⟨Nat.le_of_ble_eq_true rfl, Nat.le_of_ble_eq_true rfl⟩) hK (va_recv hK (hW.p rfl) (ci := 5) (q0 := 0) rfl rfl) rfl hl rfl (Nat.le_of_ble_eq_true rfl) dX4_answerOfGate_116 ⟨Nat.zero_le _, Nat.zero_le _⟩ hS (fun r_18 locs hr_18 hS => ?_)
                      replace hr_18 : r_18 = (f_X4_openPlots C N) := hr_18
                      subst r_18
                      exact g_iret hx hb hr hlk hh hS (show (f_X4_openPlots C N) = f_X4_answerOfGate C N w from by rw [f_X4_answerOfGate, if_neg c_f_0, if_neg c_f_1, if_neg c_f_3, if_neg c_f_4, if_neg c_f_6, if_neg c_f_8, if_neg c_f_10, if_neg c_f_12, if_neg c_f_14, if_pos c_f_16]) dX4_answerOfGate_119
                    · refine lv_tableOut (tgt := 120) hx hb dX4_answerOfGate_1 (by have e0 := g_ti c_f_0 (k := 0) rfl; have e1 := g_ti c_f_1 (k := 1) rfl; have e2 := g_ti c_f_3 (k := 2) rfl; have e3 := g_ti c_f_4 (k := 3) rfl; have e4 := g_ti c_f_6 (k := 4) rfl; have e5 := g_ti c_f_8 (k := 5) rfl; have e6 := g_ti c_f_10 (k := 6) rfl; have e7 := g_ti c_f_12 (k := 7) rfl; have e8 := g_ti c_f_14 (k := 8) rfl; have e9 := g_ti c_f_16 (k := 9) rfl; omega) (by decide) ?_
                      refine lv_aload_n hx hb dX4_answerOfGate_120 rfl (lv_at hl 0 rfl) ?_
                      refine va_get (D := D) (ci := 5) (v := .int (C 0 6)) (C := RX4) (T := TX4) (N := 9) hx hb hts inX4 hown hK (hW.p (e := (eToll ad C)) rfl) 0 rfl rfl 6 (by decide) (hts (.fieldLink RX4 143 "StoryToll" "tolls" "I") (List.mem_of_getElem? (i := 7) rfl)) (fun _ h9 => h9) rfl dX4_answerOfGate_121 ?_
                      exact g_iret hx hb hr hlk hh hS (show (C 0 6) = f_X4_answerOfGate C N w from by rw [f_X4_answerOfGate, if_neg c_f_0, if_neg c_f_1, if_neg c_f_3, if_neg c_f_4, if_neg c_f_6, if_neg c_f_8, if_neg c_f_10, if_neg c_f_12, if_neg c_f_14, if_neg c_f_16]) dX4_answerOfGate_124
def f_X4_answerOfTraveller (C : gT) (N : gN) (tv : Nat) (w : Int32) : Int32 := (if w = 0 then (C 51 tv) else (if w = 1 then (C 52 tv) else (if w = 2 then (C 53 tv) else (if w = 3 then (C 54 tv) else (f_X4_endingsReservedBy C N (C 50 tv))))))
set_option maxHeartbeats 4000000 in
set_option maxRecDepth 100000 in
theorem c_X4_answerOfTraveller (l : Launch) (D : va_G) (G : gG) (A : Nat → Prop) (ad : gAd) (N : gN) (C M : gT) (o : Nat → Int64) (Hp : Heap) (hW : gW D A ad (Wd G ad N C M o) Hp) (hC : IC N C) (tv : Nat) (htv : tv < N 2) (w : Int32) : Met l yX4_answerOfTraveller wsX4_answerOfTraveller ({ frames := 4, cells := 0, slots := 0, locals := 87 }) (va_Pc [.ref (ad 0 0), .ref (ad 5 tv), .int w] (gQ D (gTs G) Hp)) (gRi (fun r => r = f_X4_answerOfTraveller C N tv w) Hp) 0 0 gF := by
  refine g_start (cc := cX4_answerOfTraveller) (maxL := 3) (ret := (some .int)) (by decide) rfl (Nat.le_of_ble_eq_true rfl) (fun p e s m below meth c ls C0 hr hlk hnm hh hK hl => ?_)
  obtain ⟨hx, hb, hml, hown, hts⟩ := id C0
  have hown : s.vm.findClass RX4 = some m.cls := hown
  have hS : va_S gF Hp Hp [] := va_S.rf
  have hl : lv_has ls 3 [(0, .ref (ad 0 0)), (1, .ref (ad 5 tv)), (2, .int w)] := hl
  have inX3 : ∀ w ∈ wsX30, w ∈ wsX4_answerOfTraveller := by decide +kernel
  obtain ⟨⟨hc0, hc1, hc2, hc3⟩, hNN, hCp⟩ := id hC
  have hn0 := hNN 0 (by decide)
  have hn1 := hNN 1 (by decide)
  have hn2 := hNN 2 (by decide)
  have hn3 := hNN 3 (by decide)
  refine lv_iload_n hx hb dX4_answerOfTraveller_0 rfl (lv_at hl 2 rfl) ?_
  by_cases c_f_0 : w = 0
  · refine lv_tableIn (off := 31) (tgt := 32) hx hb dX4_answerOfTraveller_1 (by rw [c_f_0]; decide) (by rw [c_f_0]; decide) (by rw [c_f_0]; rfl) (by decide) ?_
    refine lv_aload_n hx hb dX4_answerOfTraveller_32 rfl (lv_at hl 1 rfl) ?_
    refine va_get (D := D) (ci := 4) (v := .int (C 51 tv)) (C := RX3) (T := TX3) (N := 5) hx hb hts inX3 hown hK (hW.p (e := (eTr C tv)) (Wd_Tr htv)) 0 rfl rfl 1 (by decide) (hts (.fieldLink RX4 275 "StoryToll$Traveller" "known" "I") (List.mem_of_getElem? (i := 1) rfl)) (fun _ h9 => h9) rfl dX4_answerOfTraveller_33 ?_
    exact g_iret hx hb hr hlk hh hS (show (C 51 tv) = f_X4_answerOfTraveller C N tv w from by rw [f_X4_answerOfTraveller, if_pos c_f_0]) dX4_answerOfTraveller_36
  · by_cases c_f_1 : w = 1
    · refine lv_tableIn (off := 36) (tgt := 37) hx hb dX4_answerOfTraveller_1 (by rw [c_f_1]; decide) (by rw [c_f_1]; decide) (by rw [c_f_1]; rfl) (by decide) ?_
      refine lv_aload_n hx hb dX4_answerOfTraveller_37 rfl (lv_at hl 1 rfl) ?_
      refine va_get (D := D) (ci := 4) (v := .int (C 52 tv)) (C := RX3) (T := TX3) (N := 5) hx hb hts inX3 hown hK (hW.p (e := (eTr C tv)) (Wd_Tr htv)) 0 rfl rfl 2 (by decide) (hts (.fieldLink RX4 139 "StoryToll$Traveller" "paid" "I") (List.mem_of_getElem? (i := 2) rfl)) (fun _ h9 => h9) rfl dX4_answerOfTraveller_38 ?_
      exact g_iret hx hb hr hlk hh hS (show (C 52 tv) = f_X4_answerOfTraveller C N tv w from by rw [f_X4_answerOfTraveller, if_neg c_f_0, if_pos c_f_1]) dX4_answerOfTraveller_41
    · by_cases c_f_2 : w = 2
      · refine lv_tableIn (off := 41) (tgt := 42) hx hb dX4_answerOfTraveller_1 (by rw [c_f_2]; decide) (by rw [c_f_2]; decide) (by rw [c_f_2]; rfl) (by decide) ?_
        refine lv_aload_n hx hb dX4_answerOfTraveller_42 rfl (lv_at hl 1 rfl) ?_
        refine va_get (D := D) (ci := 4) (v := .int (C 53 tv)) (C := RX3) (T := TX3) (N := 5) hx hb hts inX3 hown hK (hW.p (e := (eTr C tv)) (Wd_Tr htv)) 0 rfl rfl 3 (by decide) (hts (.fieldLink RX4 148 "StoryToll$Traveller" "state" "I") (List.mem_of_getElem? (i := 3) rfl)) (fun _ h9 => h9) rfl dX4_answerOfTraveller_43 ?_
        exact g_iret hx hb hr hlk hh hS (show (C 53 tv) = f_X4_answerOfTraveller C N tv w from by rw [f_X4_answerOfTraveller, if_neg c_f_0, if_neg c_f_1, if_pos c_f_2]) dX4_answerOfTraveller_46
      · by_cases c_f_3 : w = 3
        · refine lv_tableIn (off := 46) (tgt := 47) hx hb dX4_answerOfTraveller_1 (by rw [c_f_3]; decide) (by rw [c_f_3]; decide) (by rw [c_f_3]; rfl) (by decide) ?_
          refine lv_aload_n hx hb dX4_answerOfTraveller_47 rfl (lv_at hl 1 rfl) ?_
          refine va_get (D := D) (ci := 4) (v := .int (C 54 tv)) (C := RX3) (T := TX3) (N := 5) hx hb hts inX3 hown hK (hW.p (e := (eTr C tv)) (Wd_Tr htv)) 0 rfl rfl 4 (by decide) (hts (.fieldLink RX4 136 "StoryToll$Traveller" "scenesTold" "I") (List.mem_of_getElem? (i := 4) rfl)) (fun _ h9 => h9) rfl dX4_answerOfTraveller_48 ?_
          exact g_iret hx hb hr hlk hh hS (show (C 54 tv) = f_X4_answerOfTraveller C N tv w from by rw [f_X4_answerOfTraveller, if_neg c_f_0, if_neg c_f_1, if_neg c_f_2, if_pos c_f_3]) dX4_answerOfTraveller_51
        · refine lv_tableOut (tgt := 52) hx hb dX4_answerOfTraveller_1 (by have e0 := g_ti c_f_0 (k := 0) rfl; have e1 := g_ti c_f_1 (k := 1) rfl; have e2 := g_ti c_f_2 (k := 2) rfl; have e3 := g_ti c_f_3 (k := 3) rfl; omega) (by decide) ?_
          refine lv_aload_n hx hb dX4_answerOfTraveller_52 rfl (lv_at hl 0 rfl) ?_
          refine lv_aload_n hx hb dX4_answerOfTraveller_53 rfl (lv_at hl 1 rfl) ?_
          refine va_get (D := D) (ci := 4) (v := .int (C 50 tv)) (C := RX3) (T := TX3) (N := 5) hx hb hts inX3 hown hK (hW.p (e := (eTr C tv)) (Wd_Tr htv)) 0 rfl rfl 0 (by decide) (hts (.fieldLink RX4 160 "StoryToll$Traveller" "number" "I") (List.mem_of_getElem? (i := 5) rfl)) (fun _ h9 => h9) rfl dX4_answerOfTraveller_54 ?_
          refine g_Vi (As := [.int (C 50 tv)]) (rest := []) C0 (c_X4_endingsReservedBy l D G A ad N C M o Hp hW hC (C 50 tv)) (cwV 1 hts gX4_answerOfTraveller_X4_endingsReservedBy rfl rfl rfl (by decide +kernel) ⟨Nat.le_of_ble_eq_true rfl, Nat.le_of_ble_eq_true rfl⟩) hK (va_recv hK (hW.p rfl) (ci := 5) (q0 := 0) rfl rfl) rfl hl rfl (Nat.le_of_ble_eq_true rfl) dX4_answerOfTraveller_57 ⟨Nat.zero_le _, Nat.zero_le _⟩ hS (fun r_5 locs hr_5 hS => ?_)
          replace hr_5 : r_5 = (f_X4_endingsReservedBy C N (C 50 tv)) := hr_5
          subst r_5
          exact g_iret hx hb hr hlk hh hS (show (f_X4_endingsReservedBy C N (C 50 tv)) = f_X4_answerOfTraveller C N tv w from by rw [f_X4_answerOfTraveller, if_neg c_f_0, if_neg c_f_1, if_neg c_f_2, if_neg c_f_3]) dX4_answerOfTraveller_60
