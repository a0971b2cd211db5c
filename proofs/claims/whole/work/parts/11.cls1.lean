/-! THE CLASS: lists, and leaf methods that only read -/
def szC (C : gT) (q : Nat) : Nat := (C 62 q).toNatClampNeg
/-- what the class's methods need of its numbers -/
def IC (N : gN) (C : gT) : Prop := (N 0 ≤ 24 ∧ N 1 ≤ 4 ∧ N 2 ≤ 12 ∧ N 3 ≤ 8) ∧ gNN N ∧ ∀ q, q < N 3 → (C 63 q).toNatClampNeg < N 0 ∧ C 62 q = nI (szC C q) ∧ szC C q ≤ 8
theorem gIn_mk {v x : Int32} {n : Nat} (h0 : ¬ v < 0) (h1 : v < x) (hx : x = nI n) : gIn v n := ⟨h0, by rw [← hx]; exact h1⟩
theorem gIn_p {v x : Int32} {n : Nat} (h0 : ¬ v < 0) (h1 : ¬ x ≤ v) (hx : x = nI n) : gIn v n := ⟨h0, by rw [← hx]; exact Int32.not_le.mp h1⟩
def f_Jx4a65c_size_8abf5 (N : gN) (j : Nat) : Int32 := (nI (N j))
set_option maxHeartbeats 4000000 in
set_option maxRecDepth 100000 in
theorem c_Jx4a65c_size_8abf5 (l : Launch) (D : va_G) (G : gG) (A : Nat → Prop) (ad : gAd) (N : gN) (C M : gT) (o : Nat → Int64) (Hp : Heap) (hW : gW D A ad (Wd G ad N C M o) Hp) (j : Nat) (hj : j < 4) : Met l yJx4a65c_size_8abf5 wsJx4a65c_size_8abf5 ({ frames := 0, cells := 0, slots := 0, locals := 0 }) (va_Pc [.ref (ad 1 j)] (gQ D (gTs G) Hp)) (gRi (fun r => r = f_Jx4a65c_size_8abf5 N j) Hp) 0 0 gF := by
  refine g_start (cc := cJx4a65c_size_8abf5) (maxL := 1) (ret := (some .int)) (by decide) rfl (Nat.le_of_ble_eq_true rfl) (fun p e s m below meth c ls C0 hr hlk hnm hh hK hl => ?_)
  obtain ⟨hx, hb, hml, hown, hts⟩ := id C0
  have hown : s.vm.findClass RJx4a65c = some m.cls := hown
  have hS : va_S gF Hp Hp [] := va_S.rf
  have hl : lv_has ls 1 [(0, .ref (ad 1 j))] := hl
  have inJx4a65c : ∀ w ∈ wsJx4a65c0, w ∈ wsJx4a65c_size_8abf5 := by decide +kernel
  refine lv_aload_n hx hb dJx4a65c_size_8abf5_0 rfl (lv_at hl 0 rfl) ?_
  refine va_get (D := D) (ci := 0) (v := .int (nI (N j))) (C := RJx4a65c) (T := TJx4a65c) (N := 3) hx hb hts inJx4a65c hown hK (hW.p (e := (eList G ad N C j)) (Wd_Li hj)) 0 rfl rfl 2 (by decide) (hts (.fieldLink RJx4a65c 48 "java/util/ArrayList" "size" "I") (List.mem_of_getElem? (i := 1) rfl)) (fun _ h9 => h9) rfl dJx4a65c_size_8abf5_1 ?_
  exact g_iret hx hb hr hlk hh hS (show (nI (N j)) = f_Jx4a65c_size_8abf5 N j from by rw [f_Jx4a65c_size_8abf5]) dJx4a65c_size_8abf5_4
def f_J3_checkIndex_8e157 (v : Int32) (b : Int32) : Int32 := v
set_option maxHeartbeats 4000000 in
set_option maxRecDepth 100000 in
theorem c_J3_checkIndex_8e157 (l : Launch) (D : va_G) (G : gG) (Hp : Heap) (v b : Int32) (h0 : ¬ v < 0) (h1 : v < b) : Met l yJ3_checkIndex_8e157 wsJ3_checkIndex_8e157 ({ frames := 0, cells := 0, slots := 0, locals := 0 }) (va_Pc [.int v, .int b, .null] (gQ D (gTs G) Hp)) (gRi (fun r => r = f_J3_checkIndex_8e157 v b) Hp) 0 0 gF := by
  refine g_start (cc := cJ3_checkIndex_8e157) (maxL := 3) (ret := (some .int)) (by decide) rfl (Nat.le_of_ble_eq_true rfl) (fun p e s m below meth c ls C0 hr hlk hnm hh hK hl => ?_)
  obtain ⟨hx, hb, hml, hown, hts⟩ := id C0
  have hown : s.vm.findClass RJ3 = some m.cls := hown
  have hS : va_S gF Hp Hp [] := va_S.rf
  have hl : lv_has ls 3 [(0, .int v), (1, .int b), (2, .null)] := hl
  refine lv_iload_n hx hb dJ3_checkIndex_8e157_0 rfl (lv_at hl 0 rfl) ?_
  refine lv_if_lt (tgt := 9) hx hb dJ3_checkIndex_8e157_1 (by decide) (fun c_1_0 => ?_) (fun c_1_0 => ?_)
  · exact absurd c_1_0 h0
  · refine lv_iload_n hx hb dJ3_checkIndex_8e157_4 rfl (lv_at hl 0 rfl) ?_
    refine lv_iload_n hx hb dJ3_checkIndex_8e157_5 rfl (lv_at hl 1 rfl) ?_
    refine lv_icmp_lt (tgt := 16) hx hb dJ3_checkIndex_8e157_6 (by decide) (fun c_6_1 => ?_) (fun c_6_1 => ?_)
    · refine lv_iload_n hx hb dJ3_checkIndex_8e157_16 rfl (lv_at hl 0 rfl) ?_
      exact g_iret hx hb hr hlk hh hS (show v = f_J3_checkIndex_8e157 v b from by rw [f_J3_checkIndex_8e157]) dJ3_checkIndex_8e157_17
    · exact absurd h1 c_6_1
def f_J15_checkIndex_7cf53 (v : Int32) (b : Int32) : Int32 := (f_J3_checkIndex_8e157 v b)
set_option maxHeartbeats 4000000 in
set_option maxRecDepth 100000 in
theorem c_J15_checkIndex_7cf53 (l : Launch) (D : va_G) (G : gG) (Hp : Heap) (v b : Int32) (h0 : ¬ v < 0) (h1 : v < b) : Met l yJ15_checkIndex_7cf53 wsJ15_checkIndex_7cf53 ({ frames := 1, cells := 0, slots := 0, locals := 22 }) (va_Pc [.int v, .int b] (gQ D (gTs G) Hp)) (gRi (fun r => r = f_J15_checkIndex_7cf53 v b) Hp) 0 0 gF := by
  refine g_start (cc := cJ15_checkIndex_7cf53) (maxL := 2) (ret := (some .int)) (by decide) rfl (Nat.le_of_ble_eq_true rfl) (fun p e s m below meth c ls C0 hr hlk hnm hh hK hl => ?_)
  obtain ⟨hx, hb, hml, hown, hts⟩ := id C0
  have hown : s.vm.findClass RJ15 = some m.cls := hown
  have hS : va_S gF Hp Hp [] := va_S.rf
  have hl : lv_has ls 2 [(0, .int v), (1, .int b)] := hl
  refine lv_iload_n hx hb dJ15_checkIndex_7cf53_0 rfl (lv_at hl 0 rfl) ?_
  refine lv_iload_n hx hb dJ15_checkIndex_7cf53_1 rfl (lv_at hl 1 rfl) ?_
  refine lv_null hx hb dJ15_checkIndex_7cf53_2 ?_
  refine g_Si (As := [.int v, .int b, .null]) (rest := []) C0 (c_J3_checkIndex_8e157 l D G Hp v b h0 h1) (va_cwS 3 hts gJ15_checkIndex_7cf53_J3_checkIndex_8e157 rfl rfl rfl (by decide +kernel) ⟨Nat.le_of_ble_eq_true rfl, Nat.le_of_ble_eq_true rfl⟩) hK rfl hl rfl (Nat.le_of_ble_eq_true rfl) dJ15_checkIndex_7cf53_3 ⟨Nat.zero_le _, Nat.zero_le _⟩ hS (fun r_1 locs hr_1 hS => ?_)
  subst r_1
  exact g_iret hx hb hr hlk hh hS (show (f_J3_checkIndex_8e157 v b) = f_J15_checkIndex_7cf53 v b from by rw [f_J15_checkIndex_7cf53]) dJ15_checkIndex_7cf53_6
set_option maxHeartbeats 4000000 in
set_option maxRecDepth 100000 in
theorem c_Jx4a65c_elementData_915e3 (l : Launch) (D : va_G) (G : gG) (A : Nat → Prop) (ad : gAd) (N : gN) (C M : gT) (o : Nat → Int64) (Hp : Heap) (hW : gW D A ad (Wd G ad N C M o) Hp) (j : Nat) (hj : j < 4) (hNN : gNN N) (k : Nat) (x : Int32) (hxk : x = nI k) (hk : k < N j) : Met l yJx4a65c_elementData_915e3 wsJx4a65c_elementData_915e3 ({ frames := 0, cells := 0, slots := 0, locals := 0 }) (va_Pc [.ref (ad 1 j), .int x] (gQ D (gTs G) Hp)) (gRr (fun r => r = ad (3 + j) k) Hp) 0 0 gF := by
  refine g_start (cc := cJx4a65c_elementData_915e3) (maxL := 2) (ret := (some (.object "java/lang/Object"))) (by decide) rfl (Nat.le_of_ble_eq_true rfl) (fun p e s m below meth c ls C0 hr hlk hnm hh hK hl => ?_)
  obtain ⟨hx, hb, hml, hown, hts⟩ := id C0
  have hown : s.vm.findClass RJx4a65c = some m.cls := hown
  have hS : va_S gF Hp Hp [] := va_S.rf
  have hl : lv_has ls 2 [(0, .ref (ad 1 j)), (1, .int x)] := hl
  have inJx4a65c : ∀ w ∈ wsJx4a65c0, w ∈ wsJx4a65c_elementData_915e3 := by decide +kernel
  obtain ⟨hn1, hn2⟩ := hNN j hj
  have hne : N j ≠ 0 := by omega
  refine lv_aload_n hx hb dJx4a65c_elementData_915e3_0 rfl (lv_at hl 0 rfl) ?_
  refine va_get (D := D) (ci := 0) (v := .ref (ad 2 j)) (C := RJx4a65c) (T := TJx4a65c) (N := 3) hx hb hts inJx4a65c hown hK (hW.p (e := (.inr (0, [.int (C 1 j), .ref (ad 2 j), .int (nI (N j))]))) (Wd_Le hj hne)) 0 rfl rfl 1 (by decide) (hts (.fieldLink RJx4a65c 9 "java/util/ArrayList" "elementData" "[Ljava/lang/Object;") (List.mem_of_getElem? (i := 1) rfl)) (fun _ h9 => h9) rfl dJx4a65c_elementData_915e3_1 ?_
  refine lv_iload_n hx hb dJx4a65c_elementData_915e3_4 rfl (lv_at hl 1 rfl) ?_
  refine g_ald hx hb hK hW 2 (n := N (4 + j)) (Wd_El hj hne) rfl (k := k) hxk (by omega) (by omega) (r := ad (3 + j) k) (show (if k < N j then some (ad (3 + j) k) else none) = _ from if_pos hk) dJx4a65c_elementData_915e3_5 ?_
  exact g_rret hx hb hr (Or.inl ⟨_, rfl⟩) hlk hh hS rfl dJx4a65c_elementData_915e3_6
set_option maxHeartbeats 4000000 in
set_option maxRecDepth 100000 in
theorem c_Jx4a65c_get_915e3 (l : Launch) (D : va_G) (G : gG) (A : Nat → Prop) (ad : gAd) (N : gN) (C M : gT) (o : Nat → Int64) (Hp : Heap) (hW : gW D A ad (Wd G ad N C M o) Hp) (j : Nat) (hj : j < 4) (hNN : gNN N) (k : Nat) (x : Int32) (hxk : x = nI k) (hk : k < N j) : Met l yJx4a65c_get_915e3 wsJx4a65c_get_915e3 ({ frames := 2, cells := 0, slots := 0, locals := 43 }) (va_Pc [.ref (ad 1 j), .int x] (gQ D (gTs G) Hp)) (gRr (fun r => r = ad (3 + j) k) Hp) 0 0 gF := by
  refine g_start (cc := cJx4a65c_get_915e3) (maxL := 2) (ret := (some (.object "java/lang/Object"))) (by decide) rfl (Nat.le_of_ble_eq_true rfl) (fun p e s m below meth c ls C0 hr hlk hnm hh hK hl => ?_)
  obtain ⟨hx, hb, hml, hown, hts⟩ := id C0
  have hown : s.vm.findClass RJx4a65c = some m.cls := hown
  have hS : va_S gF Hp Hp [] := va_S.rf
  have hl : lv_has ls 2 [(0, .ref (ad 1 j)), (1, .int x)] := hl
  have inJx4a65c : ∀ w ∈ wsJx4a65c0, w ∈ wsJx4a65c_get_915e3 := by decide +kernel
  obtain ⟨hn1, hn2⟩ := hNN j hj
  have hne : N j ≠ 0 := by omega
  refine lv_iload_n hx hb dJx4a65c_get_915e3_0 rfl (lv_at hl 1 rfl) ?_
  refine lv_aload_n hx hb dJx4a65c_get_915e3_1 rfl (lv_at hl 0 rfl) ?_
  refine va_get (D := D) (ci := 0) (v := .int (nI (N j))) (C := RJx4a65c) (T := TJx4a65c) (N := 3) hx hb hts inJx4a65c hown hK (hW.p (e := (.inr (0, [.int (C 1 j), .ref (ad 2 j), .int (nI (N j))]))) (Wd_Le hj hne)) 0 rfl rfl 2 (by decide) (hts (.fieldLink RJx4a65c 48 "java/util/ArrayList" "size" "I") (List.mem_of_getElem? (i := 1) rfl)) (fun _ h9 => h9) rfl dJx4a65c_get_915e3_2 ?_
  refine g_Si (As := [.int x, .int (nI (N j))]) (rest := []) C0 (c_J15_checkIndex_7cf53 l D G Hp x (nI (N j)) (by rw [hxk]; exact nI_pos (by omega)) (by rw [hxk]; exact nI_lt hk (by omega))) (va_cwS 2 hts gJx4a65c_get_915e3_J15_checkIndex_7cf53 rfl rfl rfl (by decide +kernel) ⟨Nat.le_of_ble_eq_true rfl, Nat.le_of_ble_eq_true rfl⟩) hK rfl hl rfl (Nat.le_of_ble_eq_true rfl) dJx4a65c_get_915e3_5 ⟨Nat.zero_le _, Nat.zero_le _⟩ hS (fun r_1 locs hr_1 hS => ?_)
  subst r_1
  refine lv_pop hx hb dJx4a65c_get_915e3_8 rfl ?_
  refine lv_aload_n hx hb dJx4a65c_get_915e3_9 rfl (lv_at hl 0 rfl) ?_
  refine lv_iload_n hx hb dJx4a65c_get_915e3_10 rfl (lv_at hl 1 rfl) ?_
  refine g_Vr (As := [.int x]) (rest := []) C0 (c_Jx4a65c_elementData_915e3 l D G A ad N C M o Hp hW j hj hNN k _ hxk (by omega)) (cwV 1 hts gJx4a65c_get_915e3_Jx4a65c_elementData_915e3 rfl rfl rfl (by decide +kernel) ⟨Nat.le_of_ble_eq_true rfl, Nat.le_of_ble_eq_true rfl⟩) hK (va_recv hK (hW.p (Wd_Le hj hne)) (ci := 0) (q0 := 0) rfl rfl) rfl hl rfl (Nat.le_of_ble_eq_true rfl) dJx4a65c_get_915e3_11 ⟨Nat.zero_le _, Nat.zero_le _⟩ hS (fun r_2 locs hr_2 hS => ?_)
  replace hr_2 : r_2 = ad (3 + j) k := hr_2
  subst r_2
  exact g_rret hx hb hr (Or.inl ⟨_, rfl⟩) hlk hh hS rfl dJx4a65c_get_915e3_14
def f_X2_asSet (C : gT) (i : Nat) : Int32 := (1 <<< ((C 30 i) &&& 31))
set_option maxHeartbeats 4000000 in
set_option maxRecDepth 100000 in
theorem c_X2_asSet (l : Launch) (D : va_G) (G : gG) (A : Nat → Prop) (ad : gAd) (N : gN) (C M : gT) (o : Nat → Int64) (Hp : Heap) (hW : gW D A ad (Wd G ad N C M o) Hp) (i : Nat) (hi : i < N 0) : Met l yX2_asSet wsX2_asSet ({ frames := 0, cells := 0, slots := 0, locals := 0 }) (va_Pc [.ref (ad 3 i)] (gQ D (gTs G) Hp)) (gRi (fun r => r = f_X2_asSet C i) Hp) 0 0 gF := by
  refine g_start (cc := cX2_asSet) (maxL := 1) (ret := (some .int)) (by decide) rfl (Nat.le_of_ble_eq_true rfl) (fun p e s m below meth c ls C0 hr hlk hnm hh hK hl => ?_)
  obtain ⟨hx, hb, hml, hown, hts⟩ := id C0
  have hown : s.vm.findClass RX2 = some m.cls := hown
  have hS : va_S gF Hp Hp [] := va_S.rf
  have hl : lv_has ls 1 [(0, .ref (ad 3 i))] := hl
  have inX2 : ∀ w ∈ wsX20, w ∈ wsX2_asSet := by decide +kernel
  refine lv_iconst (v := 1) hx hb dX2_asSet_0 (by decide) ?_
  refine lv_aload_n hx hb dX2_asSet_1 rfl (lv_at hl 0 rfl) ?_
  refine va_get (D := D) (ci := 3) (v := .int (C 30 i)) (C := RX2) (T := TX2) (N := 6) hx hb hts inX2 hown hK (hW.p (e := (eS C i)) (Wd_S hi)) 0 rfl rfl 0 (by decide) (hts (.fieldLink RX2 7 "StoryToll$Scene" "number" "I") (List.mem_of_getElem? (i := 1) rfl)) (fun _ h9 => h9) rfl dX2_asSet_2 ?_
  refine lv_ishl hx hb dX2_asSet_5 ?_
  exact g_iret hx hb hr hlk hh hS (show (1 <<< ((C 30 i) &&& 31)) = f_X2_asSet C i from by rw [f_X2_asSet]) dX2_asSet_6
def f_X2_canLeadTo (C : gT) (i : Nat) (k : Nat) : Int32 := (if ((C 34 i) &&& (f_X2_asSet C k)) = 0 then 0 else 1)
set_option maxHeartbeats 4000000 in
set_option maxRecDepth 100000 in
theorem c_X2_canLeadTo (l : Launch) (D : va_G) (G : gG) (A : Nat → Prop) (ad : gAd) (N : gN) (C M : gT) (o : Nat → Int64) (Hp : Heap) (hW : gW D A ad (Wd G ad N C M o) Hp) (i : Nat) (hi : i < N 0) (k : Nat) (hk : k < N 0) : Met l yX2_canLeadTo wsX2_canLeadTo ({ frames := 1, cells := 0, slots := 0, locals := 20 }) (va_Pc [.ref (ad 3 i), .ref (ad 3 k)] (gQ D (gTs G) Hp)) (gRi (fun r => r = f_X2_canLeadTo C i k) Hp) 0 0 gF := by
  refine g_start (cc := cX2_canLeadTo) (maxL := 2) (ret := (some .boolean)) (by decide) rfl (Nat.le_of_ble_eq_true rfl) (fun p e s m below meth c ls C0 hr hlk hnm hh hK hl => ?_)
  obtain ⟨hx, hb, hml, hown, hts⟩ := id C0
  have hown : s.vm.findClass RX2 = some m.cls := hown
  have hS : va_S gF Hp Hp [] := va_S.rf
  have hl : lv_has ls 2 [(0, .ref (ad 3 i)), (1, .ref (ad 3 k))] := hl
  have inX2 : ∀ w ∈ wsX20, w ∈ wsX2_canLeadTo := by decide +kernel
  refine lv_aload_n hx hb dX2_canLeadTo_0 rfl (lv_at hl 0 rfl) ?_
  refine va_get (D := D) (ci := 3) (v := .int (C 34 i)) (C := RX2) (T := TX2) (N := 6) hx hb hts inX2 hown hK (hW.p (e := (eS C i)) (Wd_S hi)) 0 rfl rfl 4 (by decide) (hts (.fieldLink RX2 22 "StoryToll$Scene" "followers" "I") (List.mem_of_getElem? (i := 1) rfl)) (fun _ h9 => h9) rfl dX2_canLeadTo_1 ?_
  refine lv_aload_n hx hb dX2_canLeadTo_4 rfl (lv_at hl 1 rfl) ?_
  refine g_Vi (As := []) (rest := [.int (C 34 i)]) C0 (c_X2_asSet l D G A ad N C M o Hp hW k hk) (cwV 0 hts gX2_canLeadTo_X2_asSet rfl rfl rfl (by decide +kernel) ⟨Nat.le_of_ble_eq_true rfl, Nat.le_of_ble_eq_true rfl⟩) hK (va_recv hK (hW.p (Wd_S hk)) (ci := 3) (q0 := 0) rfl rfl) rfl hl rfl (Nat.le_of_ble_eq_true rfl) dX2_canLeadTo_5 ⟨Nat.zero_le _, Nat.zero_le _⟩ hS (fun r_1 locs hr_1 hS => ?_)
  replace hr_1 : r_1 = (f_X2_asSet C k) := hr_1
  subst r_1
  refine lv_iand hx hb dX2_canLeadTo_8 ?_
  refine lv_if_eq (tgt := 16) hx hb dX2_canLeadTo_9 (by decide) (fun c_9_1 => ?_) (fun c_9_1 => ?_)
  · refine lv_iconst (v := 0) hx hb dX2_canLeadTo_16 (by decide) ?_
    exact g_zret hx hb hr hlk hh hS (Or.inl rfl) (show 0 = f_X2_canLeadTo C i k from by rw [f_X2_canLeadTo, if_pos c_9_1]) dX2_canLeadTo_17
  · refine lv_iconst (v := 1) hx hb dX2_canLeadTo_12 (by decide) ?_
    refine lv_goto (tgt := 17) hx hb dX2_canLeadTo_13 (by decide) ?_
    exact g_zret hx hb hr hlk hh hS (Or.inr rfl) (show 1 = f_X2_canLeadTo C i k from by rw [f_X2_canLeadTo, if_neg c_9_1]) dX2_canLeadTo_17
def f_X2_answer (C : gT) (i : Nat) (w : Int32) : Int32 := (if w = 0 then (C 31 i) else (if w = 1 then (C 32 i) else (if w = 2 then (C 33 i) else (if w = 3 then (f_bitc (C 34 i)) else (C 35 i)))))
set_option maxHeartbeats 4000000 in
set_option maxRecDepth 100000 in
theorem c_X2_answer (l : Launch) (D : va_G) (G : gG) (A : Nat → Prop) (ad : gAd) (N : gN) (C M : gT) (o : Nat → Int64) (Hp : Heap) (hW : gW D A ad (Wd G ad N C M o) Hp) (i : Nat) (hi : i < N 0) (w : Int32) : Met l yX2_answer wsX2_answer ({ frames := 1, cells := 0, slots := 0, locals := 20 }) (va_Pc [.ref (ad 3 i), .int w] (gQ D (gTs G) Hp)) (gRi (fun r => r = f_X2_answer C i w) Hp) 0 0 gF := by
  refine g_start (cc := cX2_answer) (maxL := 2) (ret := (some .int)) (by decide) rfl (Nat.le_of_ble_eq_true rfl) (fun p e s m below meth c ls C0 hr hlk hnm hh hK hl => ?_)
  obtain ⟨hx, hb, hml, hown, hts⟩ := id C0
  have hown : s.vm.findClass RX2 = some m.cls := hown
  have hS : va_S gF Hp Hp [] := va_S.rf
  have hl : lv_has ls 2 [(0, .ref (ad 3 i)), (1, .int w)] := hl
  have inX2 : ∀ w ∈ wsX20, w ∈ wsX2_answer := by decide +kernel
  refine lv_iload_n hx hb dX2_answer_0 rfl (lv_at hl 1 rfl) ?_
  by_cases c_f_0 : w = 0
  · refine lv_tableIn (off := 31) (tgt := 32) hx hb dX2_answer_1 (by rw [c_f_0]; decide) (by rw [c_f_0]; decide) (by rw [c_f_0]; rfl) (by decide) ?_
    refine lv_aload_n hx hb dX2_answer_32 rfl (lv_at hl 0 rfl) ?_
    refine va_get (D := D) (ci := 3) (v := .int (C 31 i)) (C := RX2) (T := TX2) (N := 6) hx hb hts inX2 hown hK (hW.p (e := (eS C i)) (Wd_S hi)) 0 rfl rfl 1 (by decide) (hts (.fieldLink RX2 13 "StoryToll$Scene" "kind" "I") (List.mem_of_getElem? (i := 1) rfl)) (fun _ h9 => h9) rfl dX2_answer_33 ?_
    exact g_iret hx hb hr hlk hh hS (show (C 31 i) = f_X2_answer C i w from by rw [f_X2_answer, if_pos c_f_0]) dX2_answer_36
  · by_cases c_f_1 : w = 1
    · refine lv_tableIn (off := 36) (tgt := 37) hx hb dX2_answer_1 (by rw [c_f_1]; decide) (by rw [c_f_1]; decide) (by rw [c_f_1]; rfl) (by decide) ?_
      refine lv_aload_n hx hb dX2_answer_37 rfl (lv_at hl 0 rfl) ?_
      refine va_get (D := D) (ci := 3) (v := .int (C 32 i)) (C := RX2) (T := TX2) (N := 6) hx hb hts inX2 hown hK (hW.p (e := (eS C i)) (Wd_S hi)) 0 rfl rfl 2 (by decide) (hts (.fieldLink RX2 16 "StoryToll$Scene" "wonder" "I") (List.mem_of_getElem? (i := 2) rfl)) (fun _ h9 => h9) rfl dX2_answer_38 ?_
      exact g_iret hx hb hr hlk hh hS (show (C 32 i) = f_X2_answer C i w from by rw [f_X2_answer, if_neg c_f_0, if_pos c_f_1]) dX2_answer_41
    · by_cases c_f_2 : w = 2
      · refine lv_tableIn (off := 41) (tgt := 42) hx hb dX2_answer_1 (by rw [c_f_2]; decide) (by rw [c_f_2]; decide) (by rw [c_f_2]; rfl) (by decide) ?_
        refine lv_aload_n hx hb dX2_answer_42 rfl (lv_at hl 0 rfl) ?_
        refine va_get (D := D) (ci := 3) (v := .int (C 33 i)) (C := RX2) (T := TX2) (N := 6) hx hb hts inX2 hown hK (hW.p (e := (eS C i)) (Wd_S hi)) 0 rfl rfl 3 (by decide) (hts (.fieldLink RX2 19 "StoryToll$Scene" "hue" "I") (List.mem_of_getElem? (i := 3) rfl)) (fun _ h9 => h9) rfl dX2_answer_43 ?_
        exact g_iret hx hb hr hlk hh hS (show (C 33 i) = f_X2_answer C i w from by rw [f_X2_answer, if_neg c_f_0, if_neg c_f_1, if_pos c_f_2]) dX2_answer_46
      · by_cases c_f_3 : w = 3
        · refine lv_tableIn (off := 46) (tgt := 47) hx hb dX2_answer_1 (by rw [c_f_3]; decide) (by rw [c_f_3]; decide) (by rw [c_f_3]; rfl) (by decide) ?_
          refine lv_aload_n hx hb dX2_answer_47 rfl (lv_at hl 0 rfl) ?_
          refine va_get (D := D) (ci := 3) (v := .int (C 34 i)) (C := RX2) (T := TX2) (N := 6) hx hb hts inX2 hown hK (hW.p (e := (eS C i)) (Wd_S hi)) 0 rfl rfl 4 (by decide) (hts (.fieldLink RX2 22 "StoryToll$Scene" "followers" "I") (List.mem_of_getElem? (i := 4) rfl)) (fun _ h9 => h9) rfl dX2_answer_48 ?_
          refine g_Si (As := [.int (C 34 i)]) (rest := []) C0 (c_J6_bitCount_0f7a4 l D G Hp (C 34 i)) (va_cwS 1 hts gX2_answer_J6_bitCount_0f7a4 rfl rfl rfl (by decide +kernel) ⟨Nat.le_of_ble_eq_true rfl, Nat.le_of_ble_eq_true rfl⟩) hK rfl hl rfl (Nat.le_of_ble_eq_true rfl) dX2_answer_51 ⟨Nat.zero_le _, Nat.zero_le _⟩ hS (fun r_5 locs hr_5 hS => ?_)
          subst r_5
          exact g_iret hx hb hr hlk hh hS (show (f_bitc (C 34 i)) = f_X2_answer C i w from by rw [f_X2_answer, if_neg c_f_0, if_neg c_f_1, if_neg c_f_2, if_pos c_f_3]) dX2_answer_54
        · refine lv_tableOut (tgt := 55) hx hb dX2_answer_1 (by have e0 := g_ti c_f_0 (k := 0) rfl; have e1 := g_ti c_f_1 (k := 1) rfl; have e2 := g_ti c_f_2 (k := 2) rfl; have e3 := g_ti c_f_3 (k := 3) rfl; omega) (by decide) ?_
          refine lv_aload_n hx hb dX2_answer_55 rfl (lv_at hl 0 rfl) ?_
          refine va_get (D := D) (ci := 3) (v := .int (C 35 i)) (C := RX2) (T := TX2) (N := 6) hx hb hts inX2 hown hK (hW.p (e := (eS C i)) (Wd_S hi)) 0 rfl rfl 5 (by decide) (hts (.fieldLink RX2 35 "StoryToll$Scene" "timesTold" "I") (List.mem_of_getElem? (i := 5) rfl)) (fun _ h9 => h9) rfl dX2_answer_56 ?_
          exact g_iret hx hb hr hlk hh hS (show (C 35 i) = f_X2_answer C i w from by rw [f_X2_answer, if_neg c_f_0, if_neg c_f_1, if_neg c_f_2, if_neg c_f_3]) dX2_answer_59
def f_X0_timesHeard (C : gT) (g : Nat) (v : Int32) : Int32 := (if v < 0 then 0 else (if 24 ≤ v then 0 else (C (100 + g) v.toNatClampNeg)))
set_option maxHeartbeats 4000000 in
set_option maxRecDepth 100000 in
theorem c_X0_timesHeard (l : Launch) (D : va_G) (G : gG) (A : Nat → Prop) (ad : gAd) (N : gN) (C M : gT) (o : Nat → Int64) (Hp : Heap) (hW : gW D A ad (Wd G ad N C M o) Hp) (g : Nat) (hg : g < N 1) (v : Int32) : Met l yX0_timesHeard wsX0_timesHeard ({ frames := 0, cells := 0, slots := 0, locals := 0 }) (va_Pc [.ref (ad 4 g), .int v] (gQ D (gTs G) Hp)) (gRi (fun r => r = f_X0_timesHeard C g v) Hp) 0 0 gF := by
  refine g_start (cc := cX0_timesHeard) (maxL := 2) (ret := (some .int)) (by decide) rfl (Nat.le_of_ble_eq_true rfl) (fun p e s m below meth c ls C0 hr hlk hnm hh hK hl => ?_)
  obtain ⟨hx, hb, hml, hown, hts⟩ := id C0
  have hown : s.vm.findClass RX0 = some m.cls := hown
  have hS : va_S gF Hp Hp [] := va_S.rf
  have hl : lv_has ls 2 [(0, .ref (ad 4 g)), (1, .int v)] := hl
  have inX0 : ∀ w ∈ wsX00, w ∈ wsX0_timesHeard := by decide +kernel
  refine lv_iload_n hx hb dX0_timesHeard_0 rfl (lv_at hl 1 rfl) ?_
  refine lv_if_lt (tgt := 22) hx hb dX0_timesHeard_1 (by decide) (fun c_1_0 => ?_) (fun c_1_0 => ?_)
  · refine lv_iconst (v := 0) hx hb dX0_timesHeard_22 (by decide) ?_
    exact g_iret hx hb hr hlk hh hS (show 0 = f_X0_timesHeard C g v from by rw [f_X0_timesHeard, if_pos c_1_0]) dX0_timesHeard_23
  · refine lv_iload_n hx hb dX0_timesHeard_4 rfl (lv_at hl 1 rfl) ?_
    refine lv_aload_n hx hb dX0_timesHeard_5 rfl (lv_at hl 0 rfl) ?_
    refine va_get (D := D) (ci := 1) (v := .ref (ad 7 g)) (C := RX0) (T := TX0) (N := 4) hx hb hts inX0 hown hK (hW.p (e := (eGd ad C g)) (Wd_Gd hg)) 0 rfl rfl 0 (by decide) (hts (.fieldLink RX0 9 "StoryToll$Guard" "heard" "[I") (List.mem_of_getElem? (i := 1) rfl)) (fun _ h9 => h9) rfl dX0_timesHeard_6 ?_
    refine va_alen hx hb hK (hW.p (Wd_Hd hg)) 0 0 (x := (24, .inl (C (100 + g)))) rfl rfl (v := 24) rfl dX0_timesHeard_9 ?_
    refine lv_icmp_ge (tgt := 22) hx hb dX0_timesHeard_10 (by decide) (fun c_10_1 => ?_) (fun c_10_1 => ?_)
    · refine lv_iconst (v := 0) hx hb dX0_timesHeard_22 (by decide) ?_
      exact g_iret hx hb hr hlk hh hS (show 0 = f_X0_timesHeard C g v from by rw [f_X0_timesHeard, if_neg c_1_0, if_pos c_10_1]) dX0_timesHeard_23
    · refine lv_aload_n hx hb dX0_timesHeard_13 rfl (lv_at hl 0 rfl) ?_
      refine va_get (D := D) (ci := 1) (v := .ref (ad 7 g)) (C := RX0) (T := TX0) (N := 4) hx hb hts inX0 hown hK (hW.p (e := (eGd ad C g)) (Wd_Gd hg)) 0 rfl rfl 0 (by decide) (hts (.fieldLink RX0 9 "StoryToll$Guard" "heard" "[I") (List.mem_of_getElem? (i := 1) rfl)) (fun _ h9 => h9) rfl dX0_timesHeard_14 ?_
      refine lv_iload_n hx hb dX0_timesHeard_17 rfl (lv_at hl 1 rfl) ?_
      refine g_ild hx hb hK hW 0 (n := 24) (f := (C (100 + g))) (Wd_Hd hg) rfl (k := v.toNatClampNeg) (gIn_of (n := 24) (by decide) (gIn_p c_1_0 c_10_1 rfl)).1 (gIn_of (n := 24) (by decide) (gIn_p c_1_0 c_10_1 rfl)).2 (by decide) dX0_timesHeard_18 ?_
      refine lv_goto (tgt := 23) hx hb dX0_timesHeard_19 (by decide) ?_
      exact g_iret hx hb hr hlk hh hS (show (C (100 + g) v.toNatClampNeg) = f_X0_timesHeard C g v from by rw [f_X0_timesHeard, if_neg c_1_0, if_neg c_10_1]) dX0_timesHeard_23
theorem g_nz {x : Int32} (h : ¬ x ≤ 0) : ¬ x = 0 := fun z => h (by rw [z]; exact Int32.le_refl 0)
def f_X0_worthOf (C : gT) (g : Nat) (i : Nat) (hu : Int32) : Int32 := (if (1 + (f_X0_timesHeard C g (C 30 i))) ≤ 0 then (if (C 33 i) = hu then 0 else (0 + 2)) else (if (C 33 i) = hu then ((C 32 i) / (1 + (f_X0_timesHeard C g (C 30 i)))) else (((C 32 i) / (1 + (f_X0_timesHeard C g (C 30 i)))) + 2)))
set_option maxHeartbeats 4000000 in
set_option maxRecDepth 100000 in
theorem c_X0_worthOf (l : Launch) (D : va_G) (G : gG) (A : Nat → Prop) (ad : gAd) (N : gN) (C M : gT) (o : Nat → Int64) (Hp : Heap) (hW : gW D A ad (Wd G ad N C M o) Hp) (g : Nat) (hg : g < N 1) (i : Nat) (hi : i < N 0) (hu : Int32) : Met l yX0_worthOf wsX0_worthOf ({ frames := 1, cells := 0, slots := 0, locals := 21 }) (va_Pc [.ref (ad 4 g), .ref (ad 3 i), .int hu] (gQ D (gTs G) Hp)) (gRi (fun r => r = f_X0_worthOf C g i hu) Hp) 0 0 gF := by
  refine g_start (cc := cX0_worthOf) (maxL := 5) (ret := (some .int)) (by decide) rfl (Nat.le_of_ble_eq_true rfl) (fun p e s m below meth c ls C0 hr hlk hnm hh hK hl => ?_)
  obtain ⟨hx, hb, hml, hown, hts⟩ := id C0
  have hown : s.vm.findClass RX0 = some m.cls := hown
  have hS : va_S gF Hp Hp [] := va_S.rf
  have hl : lv_has ls 5 [(0, .ref (ad 4 g)), (1, .ref (ad 3 i)), (2, .int hu)] := hl
  have inX2 : ∀ w ∈ wsX20, w ∈ wsX0_worthOf := by decide +kernel
  refine lv_iconst (v := 1) hx hb dX0_worthOf_0 (by decide) ?_
  refine lv_aload_n hx hb dX0_worthOf_1 rfl (lv_at hl 0 rfl) ?_
  refine lv_aload_n hx hb dX0_worthOf_2 rfl (lv_at hl 1 rfl) ?_
  refine va_get (D := D) (ci := 3) (v := .int (C 30 i)) (C := RX2) (T := TX2) (N := 6) hx hb hts inX2 hown hK (hW.p (e := (eS C i)) (Wd_S hi)) 0 rfl rfl 0 (by decide) (hts (.fieldLink RX0 23 "StoryToll$Scene" "number" "I") (List.mem_of_getElem? (i := 1) rfl)) (fun _ h9 => h9) rfl dX0_worthOf_3 ?_
  refine g_Vi (As := [.int (C 30 i)]) (rest := [.int 1]) C0 (c_X0_timesHeard l D G A ad N C M o Hp hW g hg (C 30 i)) (cwV 1 hts gX0_worthOf_X0_timesHeard rfl rfl rfl (by decide +kernel) ⟨Nat.le_of_ble_eq_true rfl, Nat.le_of_ble_eq_true rfl⟩) hK (va_recv hK (hW.p (Wd_Gd hg)) (ci := 1) (q0 := 0) rfl rfl) rfl hl rfl (Nat.le_of_ble_eq_true rfl) dX0_worthOf_6 ⟨Nat.zero_le _, Nat.zero_le _⟩ hS (fun r_1 locs hr_1 hS => ?_)
  replace hr_1 : r_1 = (f_X0_timesHeard C g (C 30 i)) := hr_1
  subst r_1
  refine lv_iadd hx hb dX0_worthOf_9 ?_
  refine lv_istore_n (lv' := [(3, .int (1 + (f_X0_timesHeard C g (C 30 i)))), (0, .ref (ad 4 g)), (1, .ref (ad 3 i)), (2, .int hu)]) hx hb dX0_worthOf_10 rfl hl (by decide) rfl (fun ls hl => ?_)
  refine lv_iload_n hx hb dX0_worthOf_11 rfl (lv_at hl 0 rfl) ?_
  refine lv_if_le (tgt := 24) hx hb dX0_worthOf_12 (by decide) (fun c_12_1 => ?_) (fun c_12_1 => ?_)
  · refine lv_iconst (v := 0) hx hb dX0_worthOf_24 (by decide) ?_
    refine lv_istore (lv' := [(4, .int 0), (3, .int (1 + (f_X0_timesHeard C g (C 30 i)))), (0, .ref (ad 4 g)), (1, .ref (ad 3 i)), (2, .int hu)]) hx hb dX0_worthOf_25 hl (by decide) rfl (fun ls hl => ?_)
    refine lv_aload_n hx hb dX0_worthOf_27 rfl (lv_at hl 3 rfl) ?_
    refine va_get (D := D) (ci := 3) (v := .int (C 33 i)) (C := RX2) (T := TX2) (N := 6) hx hb hts inX2 hown hK (hW.p (e := (eS C i)) (Wd_S hi)) 0 rfl rfl 3 (by decide) (hts (.fieldLink RX0 35 "StoryToll$Scene" "hue" "I") (List.mem_of_getElem? (i := 3) rfl)) (fun _ h9 => h9) rfl dX0_worthOf_28 ?_
    refine lv_iload_n hx hb dX0_worthOf_31 rfl (lv_at hl 4 rfl) ?_
    refine lv_icmp_eq (tgt := 42) hx hb dX0_worthOf_32 (by decide) (fun c_32_2 => ?_) (fun c_32_2 => ?_)
    · refine lv_iload hx hb dX0_worthOf_42 (lv_at hl 0 rfl) ?_
      exact g_iret hx hb hr hlk hh hS (show 0 = f_X0_worthOf C g i hu from by rw [f_X0_worthOf, if_pos c_12_1, if_pos c_32_2]) dX0_worthOf_44
    · refine lv_iload hx hb dX0_worthOf_35 (lv_at hl 0 rfl) ?_
      refine lv_iconst (v := 2) hx hb dX0_worthOf_37 (by decide) ?_
      refine lv_iadd hx hb dX0_worthOf_38 ?_
      refine lv_goto (tgt := 44) hx hb dX0_worthOf_39 (by decide) ?_
      exact g_iret hx hb hr hlk hh hS (show (0 + 2) = f_X0_worthOf C g i hu from by rw [f_X0_worthOf, if_pos c_12_1, if_neg c_32_2]) dX0_worthOf_44
  · have hdz := g_nz c_12_1
    refine lv_aload_n hx hb dX0_worthOf_15 rfl (lv_at hl 2 rfl) ?_
    refine va_get (D := D) (ci := 3) (v := .int (C 32 i)) (C := RX2) (T := TX2) (N := 6) hx hb hts inX2 hown hK (hW.p (e := (eS C i)) (Wd_S hi)) 0 rfl rfl 2 (by decide) (hts (.fieldLink RX0 32 "StoryToll$Scene" "wonder" "I") (List.mem_of_getElem? (i := 2) rfl)) (fun _ h9 => h9) rfl dX0_worthOf_16 ?_
    refine lv_iload_n hx hb dX0_worthOf_19 rfl (lv_at hl 0 rfl) ?_
    refine lv_idiv hx hb dX0_worthOf_20 hdz ?_
    refine lv_goto (tgt := 25) hx hb dX0_worthOf_21 (by decide) ?_
    refine lv_istore (lv' := [(4, .int ((C 32 i) / (1 + (f_X0_timesHeard C g (C 30 i))))), (3, .int (1 + (f_X0_timesHeard C g (C 30 i)))), (0, .ref (ad 4 g)), (1, .ref (ad 3 i)), (2, .int hu)]) hx hb dX0_worthOf_25 hl (by decide) rfl (fun ls hl => ?_)
    refine lv_aload_n hx hb dX0_worthOf_27 rfl (lv_at hl 3 rfl) ?_
    refine va_get (D := D) (ci := 3) (v := .int (C 33 i)) (C := RX2) (T := TX2) (N := 6) hx hb hts inX2 hown hK (hW.p (e := (eS C i)) (Wd_S hi)) 0 rfl rfl 3 (by decide) (hts (.fieldLink RX0 35 "StoryToll$Scene" "hue" "I") (List.mem_of_getElem? (i := 3) rfl)) (fun _ h9 => h9) rfl dX0_worthOf_28 ?_
    refine lv_iload_n hx hb dX0_worthOf_31 rfl (lv_at hl 4 rfl) ?_
    refine lv_icmp_eq (tgt := 42) hx hb dX0_worthOf_32 (by decide) (fun c_32_3 => ?_) (fun c_32_3 => ?_)
    · refine lv_iload hx hb dX0_worthOf_42 (lv_at hl 0 rfl) ?_
      exact g_iret hx hb hr hlk hh hS (show ((C 32 i) / (1 + (f_X0_timesHeard C g (C 30 i)))) = f_X0_worthOf C g i hu from by rw [f_X0_worthOf, if_neg c_12_1, if_pos c_32_3]) dX0_worthOf_44
    · refine lv_iload hx hb dX0_worthOf_35 (lv_at hl 0 rfl) ?_
      refine lv_iconst (v := 2) hx hb dX0_worthOf_37 (by decide) ?_
      refine lv_iadd hx hb dX0_worthOf_38 ?_
      refine lv_goto (tgt := 44) hx hb dX0_worthOf_39 (by decide) ?_
      exact g_iret hx hb hr hlk hh hS (show (((C 32 i) / (1 + (f_X0_timesHeard C g (C 30 i)))) + 2) = f_X0_worthOf C g i hu from by rw [f_X0_worthOf, if_neg c_12_1, if_neg c_32_3]) dX0_worthOf_44
def f_X0_patienceBehindWatch (aw : Int32) (pa : Int32) : Int32 := (if aw = 0 then (if (pa + 5) < 30 then (pa + 5) else 30) else (if 0 < (pa - 1) then (pa - 1) else 0))
set_option maxHeartbeats 4000000 in
set_option maxRecDepth 100000 in
theorem c_X0_patienceBehindWatch (l : Launch) (D : va_G) (G : gG) (Hp : Heap) (aw pa : Int32) : Met l yX0_patienceBehindWatch wsX0_patienceBehindWatch ({ frames := 1, cells := 0, slots := 0, locals := 21 }) (va_Pc [.int aw, .int pa] (gQ D (gTs G) Hp)) (gRi (fun r => r = f_X0_patienceBehindWatch aw pa) Hp) 0 0 gF := by
  refine g_start (cc := cX0_patienceBehindWatch) (maxL := 2) (ret := (some .int)) (by decide) rfl (Nat.le_of_ble_eq_true rfl) (fun p e s m below meth c ls C0 hr hlk hnm hh hK hl => ?_)
  obtain ⟨hx, hb, hml, hown, hts⟩ := id C0
  have hown : s.vm.findClass RX0 = some m.cls := hown
  have hS : va_S gF Hp Hp [] := va_S.rf
  have hl : lv_has ls 2 [(0, .int aw), (1, .int pa)] := hl
  refine lv_iload_n hx hb dX0_patienceBehindWatch_0 rfl (lv_at hl 0 rfl) ?_
  refine lv_if_eq (tgt := 14) hx hb dX0_patienceBehindWatch_1 (by decide) (fun c_1_0 => ?_) (fun c_1_0 => ?_)
  · refine lv_bipush (v := 30) hx hb dX0_patienceBehindWatch_14 (by decide) ?_
    refine lv_iload_n hx hb dX0_patienceBehindWatch_16 rfl (lv_at hl 1 rfl) ?_
    refine lv_iconst (v := 5) hx hb dX0_patienceBehindWatch_17 (by decide) ?_
    refine lv_iadd hx hb dX0_patienceBehindWatch_18 ?_
    refine va_mmin hx hb (hml.trans hl.1.symm) hown (hts (.methodLink RX0 42 Lib.Math.min.name) (List.mem_of_getElem? (i := 5) rfl)) (hts (.static Lib.Math.min.name) (List.mem_of_getElem? (i := 6) rfl)) (hts (.initialized "java/lang/Math") (List.mem_of_getElem? (i := 3) rfl)) (hts (.code Lib.Math.min.name Lib.Math.min.code 2 (some .int)) (List.mem_of_getElem? (i := 7) rfl)) (Nat.le_of_ble_eq_true rfl) (Nat.le_of_ble_eq_true rfl) (Nat.le_of_ble_eq_true rfl) (Nat.le_of_ble_eq_true rfl) dX0_patienceBehindWatch_19 ?_
    exact g_iret hx hb hr hlk hh hS (show (if (pa + 5) < 30 then (pa + 5) else 30) = f_X0_patienceBehindWatch aw pa from by rw [f_X0_patienceBehindWatch, if_pos c_1_0]) dX0_patienceBehindWatch_22
  · refine lv_iconst (v := 0) hx hb dX0_patienceBehindWatch_4 (by decide) ?_
    refine lv_iload_n hx hb dX0_patienceBehindWatch_5 rfl (lv_at hl 1 rfl) ?_
    refine lv_iconst (v := 1) hx hb dX0_patienceBehindWatch_6 (by decide) ?_
    refine lv_isub hx hb dX0_patienceBehindWatch_7 ?_
    refine va_mmax hx hb (hml.trans hl.1.symm) hown (hts (.methodLink RX0 48 Lib.Math.max.name) (List.mem_of_getElem? (i := 1) rfl)) (hts (.static Lib.Math.max.name) (List.mem_of_getElem? (i := 2) rfl)) (hts (.initialized "java/lang/Math") (List.mem_of_getElem? (i := 3) rfl)) (hts (.code Lib.Math.max.name Lib.Math.max.code 2 (some .int)) (List.mem_of_getElem? (i := 4) rfl)) (Nat.le_of_ble_eq_true rfl) (Nat.le_of_ble_eq_true rfl) (Nat.le_of_ble_eq_true rfl) (Nat.le_of_ble_eq_true rfl) dX0_patienceBehindWatch_8 ?_
    refine lv_goto (tgt := 22) hx hb dX0_patienceBehindWatch_11 (by decide) ?_
    exact g_iret hx hb hr hlk hh hS (show (if 0 < (pa - 1) then (pa - 1) else 0) = f_X0_patienceBehindWatch aw pa from by rw [f_X0_patienceBehindWatch, if_neg c_1_0]) dX0_patienceBehindWatch_22
def f_X0_isAwakeBehindWatch (aw : Int32) (pa : Int32) : Int32 := (if aw = 0 then (if pa < 10 then 0 else 1) else (if pa ≤ 0 then 0 else 1))
set_option maxHeartbeats 4000000 in
set_option maxRecDepth 100000 in
theorem c_X0_isAwakeBehindWatch (l : Launch) (D : va_G) (G : gG) (Hp : Heap) (aw pa : Int32) : Met l yX0_isAwakeBehindWatch wsX0_isAwakeBehindWatch ({ frames := 0, cells := 0, slots := 0, locals := 0 }) (va_Pc [.int aw, .int pa] (gQ D (gTs G) Hp)) (gRi (fun r => r = f_X0_isAwakeBehindWatch aw pa) Hp) 0 0 gF := by
  refine g_start (cc := cX0_isAwakeBehindWatch) (maxL := 2) (ret := (some .boolean)) (by decide) rfl (Nat.le_of_ble_eq_true rfl) (fun p e s m below meth c ls C0 hr hlk hnm hh hK hl => ?_)
  obtain ⟨hx, hb, hml, hown, hts⟩ := id C0
  have hown : s.vm.findClass RX0 = some m.cls := hown
  have hS : va_S gF Hp Hp [] := va_S.rf
  have hl : lv_has ls 2 [(0, .int aw), (1, .int pa)] := hl
  refine lv_iload_n hx hb dX0_isAwakeBehindWatch_0 rfl (lv_at hl 0 rfl) ?_
  refine lv_if_eq (tgt := 16) hx hb dX0_isAwakeBehindWatch_1 (by decide) (fun c_1_0 => ?_) (fun c_1_0 => ?_)
  · refine lv_iload_n hx hb dX0_isAwakeBehindWatch_16 rfl (lv_at hl 1 rfl) ?_
    refine lv_bipush (v := 10) hx hb dX0_isAwakeBehindWatch_17 (by decide) ?_
    refine lv_icmp_lt (tgt := 26) hx hb dX0_isAwakeBehindWatch_19 (by decide) (fun c_19_1 => ?_) (fun c_19_1 => ?_)
    · refine lv_iconst (v := 0) hx hb dX0_isAwakeBehindWatch_26 (by decide) ?_
      exact g_zret hx hb hr hlk hh hS (Or.inl rfl) (show 0 = f_X0_isAwakeBehindWatch aw pa from by rw [f_X0_isAwakeBehindWatch, if_pos c_1_0, if_pos c_19_1]) dX0_isAwakeBehindWatch_27
    · refine lv_iconst (v := 1) hx hb dX0_isAwakeBehindWatch_22 (by decide) ?_
      refine lv_goto (tgt := 27) hx hb dX0_isAwakeBehindWatch_23 (by decide) ?_
      exact g_zret hx hb hr hlk hh hS (Or.inr rfl) (show 1 = f_X0_isAwakeBehindWatch aw pa from by rw [f_X0_isAwakeBehindWatch, if_pos c_1_0, if_neg c_19_1]) dX0_isAwakeBehindWatch_27
  · refine lv_iload_n hx hb dX0_isAwakeBehindWatch_4 rfl (lv_at hl 1 rfl) ?_
    refine lv_if_le (tgt := 12) hx hb dX0_isAwakeBehindWatch_5 (by decide) (fun c_5_2 => ?_) (fun c_5_2 => ?_)
    · refine lv_iconst (v := 0) hx hb dX0_isAwakeBehindWatch_12 (by decide) ?_
      refine lv_goto (tgt := 27) hx hb dX0_isAwakeBehindWatch_13 (by decide) ?_
      exact g_zret hx hb hr hlk hh hS (Or.inl rfl) (show 0 = f_X0_isAwakeBehindWatch aw pa from by rw [f_X0_isAwakeBehindWatch, if_neg c_1_0, if_pos c_5_2]) dX0_isAwakeBehindWatch_27
    · refine lv_iconst (v := 1) hx hb dX0_isAwakeBehindWatch_8 (by decide) ?_
      refine lv_goto (tgt := 27) hx hb dX0_isAwakeBehindWatch_9 (by decide) ?_
      exact g_zret hx hb hr hlk hh hS (Or.inr rfl) (show 1 = f_X0_isAwakeBehindWatch aw pa from by rw [f_X0_isAwakeBehindWatch, if_neg c_1_0, if_neg c_5_2]) dX0_isAwakeBehindWatch_27
def L_X0_wto (C : gT) (g : Nat) (j : Nat) (acc : Int32) : Int32 × Option Int32 := (if (f_X0_isAwakeBehindWatch (C 43 g) (f_X0_patienceBehindWatch (C 43 g) acc)) = (C 43 g) then ((f_X0_patienceBehindWatch (C 43 g) acc), none) else (acc, some (nI (j + 1))))
def f_X0_watchesTillOtherwise (C : gT) (g : Nat) : Int32 := (gEx (L_X0_wto C g) 100 0 (C 42 g))
set_option maxHeartbeats 4000000 in
set_option maxRecDepth 100000 in
theorem c_X0_watchesTillOtherwise (l : Launch) (D : va_G) (G : gG) (A : Nat → Prop) (ad : gAd) (N : gN) (C M : gT) (o : Nat → Int64) (Hp : Heap) (hW : gW D A ad (Wd G ad N C M o) Hp) (g : Nat) (hg : g < N 1) : Met l yX0_watchesTillOtherwise wsX0_watchesTillOtherwise ({ frames := 2, cells := 0, slots := 0, locals := 42 }) (va_Pc [.ref (ad 4 g)] (gQ D (gTs G) Hp)) (gRi (fun r => r = f_X0_watchesTillOtherwise C g) Hp) 0 0 gF := by
  refine g_start (cc := cX0_watchesTillOtherwise) (maxL := 3) (ret := (some .int)) (by decide) rfl (Nat.le_of_ble_eq_true rfl) (fun p e s m below meth c ls C0 hr hlk hnm hh hK hl => ?_)
  obtain ⟨hx, hb, hml, hown, hts⟩ := id C0
  have hown : s.vm.findClass RX0 = some m.cls := hown
  have hS : va_S gF Hp Hp [] := va_S.rf
  have hl : lv_has ls 3 [(0, .ref (ad 4 g))] := hl
  have inX0 : ∀ w ∈ wsX00, w ∈ wsX0_watchesTillOtherwise := by decide +kernel
  refine lv_aload_n hx hb dX0_watchesTillOtherwise_0 rfl (lv_at hl 0 rfl) ?_
  refine va_get (D := D) (ci := 1) (v := .int (C 42 g)) (C := RX0) (T := TX0) (N := 4) hx hb hts inX0 hown hK (hW.p (e := (eGd ad C g)) (Wd_Gd hg)) 0 rfl rfl 2 (by decide) (hts (.fieldLink RX0 15 "StoryToll$Guard" "patience" "I") (List.mem_of_getElem? (i := 1) rfl)) (fun _ h9 => h9) rfl dX0_watchesTillOtherwise_1 ?_
  refine lv_istore_n (lv' := [(1, .int (C 42 g)), (0, .ref (ad 4 g))]) hx hb dX0_watchesTillOtherwise_4 rfl hl (by decide) rfl (fun ls hl => ?_)
  refine lv_iconst (v := 1) hx hb dX0_watchesTillOtherwise_5 (by decide) ?_
  refine lv_istore_n (lv' := [(2, .int 1), (1, .int (C 42 g)), (0, .ref (ad 4 g))]) hx hb dX0_watchesTillOtherwise_6 rfl hl (by decide) rfl (fun ls hl => ?_)
  refine g_loop 100 (fun j ls => ∃ a : Int32, lv_has ls 3 [(2, .int (nI (j + 1))), (1, .int a), (0, .ref (ad 4 g))] ∧ gEx (L_X0_wto C g) 100 0 (C 42 g) = gEx (L_X0_wto C g) (100 - j) j a) ⟨_, lv_sub hl [0, 1, 2] rfl, rfl⟩ hS (fun ls locs hlE hS => ?_) (fun j ls locs hj hlE hS ih => ?_)
  · obtain ⟨a, hl, hE⟩ : ∃ a : Int32, lv_has ls 3 [(2, .int (nI (100 + 1))), (1, .int a), (0, .ref (ad 4 g))] ∧ gEx (L_X0_wto C g) 100 0 (C 42 g) = gEx (L_X0_wto C g) (100 - 100) 100 a := hlE
    refine lv_iload_n hx hb dX0_watchesTillOtherwise_7 rfl (lv_at hl 0 rfl) ?_
    refine lv_bipush (v := 100) hx hb dX0_watchesTillOtherwise_8 (by decide) ?_
    refine lv_icmp_gt (tgt := 45) hx hb dX0_watchesTillOtherwise_10 (by decide) (fun c_10_0 => ?_) (fun c_10_0 => ?_)
    · refine lv_iconst (v := (-1)) hx hb dX0_watchesTillOtherwise_45 (by decide) ?_
      exact g_iret hx hb hr hlk hh hS (show (-1) = f_X0_watchesTillOtherwise C g from by rw [f_X0_watchesTillOtherwise]; exact hE.symm) dX0_watchesTillOtherwise_46
    · exact absurd (g_gtx (n := 100) rfl (by decide)) c_10_0
  · obtain ⟨a, hl, hE⟩ : ∃ a : Int32, lv_has ls 3 [(2, .int (nI (j + 1))), (1, .int a), (0, .ref (ad 4 g))] ∧ gEx (L_X0_wto C g) 100 0 (C 42 g) = gEx (L_X0_wto C g) (100 - j) j a := hlE
    refine lv_iload_n hx hb dX0_watchesTillOtherwise_7 rfl (lv_at hl 0 rfl) ?_
    refine lv_bipush (v := 100) hx hb dX0_watchesTillOtherwise_8 (by decide) ?_
    refine lv_icmp_gt (tgt := 45) hx hb dX0_watchesTillOtherwise_10 (by decide) (fun c_10_1 => ?_) (fun c_10_1 => ?_)
    · exact absurd c_10_1 (g_gt (n := 100) rfl hj (by decide))
    · refine lv_aload_n hx hb dX0_watchesTillOtherwise_13 rfl (lv_at hl 2 rfl) ?_
      refine va_get (D := D) (ci := 1) (v := .int (C 43 g)) (C := RX0) (T := TX0) (N := 4) hx hb hts inX0 hown hK (hW.p (e := (eGd ad C g)) (Wd_Gd hg)) 0 rfl rfl 3 (by decide) (hts (.fieldLink RX0 19 "StoryToll$Guard" "awake" "Z") (List.mem_of_getElem? (i := 2) rfl)) (fun _ h9 => h9) rfl dX0_watchesTillOtherwise_14 ?_
      refine lv_iload_n hx hb dX0_watchesTillOtherwise_17 rfl (lv_at hl 1 rfl) ?_
      refine g_Si (As := [.int (C 43 g), .int a]) (rest := []) C0 (c_X0_patienceBehindWatch l D G Hp (C 43 g) a) (va_cwS 2 hts gX0_watchesTillOtherwise_X0_patienceBehindWatch rfl rfl rfl (by decide +kernel) ⟨Nat.le_of_ble_eq_true rfl, Nat.le_of_ble_eq_true rfl⟩) hK rfl hl rfl (Nat.le_of_ble_eq_true rfl) dX0_watchesTillOtherwise_18 ⟨Nat.zero_le _, Nat.zero_le _⟩ hS (fun r_3 locs hr_3 hS => ?_)
      subst r_3
      refine lv_istore_n (lv' := [(1, .int (f_X0_patienceBehindWatch (C 43 g) a)), (2, .int (nI (j + 1))), (0, .ref (ad 4 g))]) hx hb dX0_watchesTillOtherwise_21 rfl hl (by decide) rfl (fun ls hl => ?_)
      refine lv_aload_n hx hb dX0_watchesTillOtherwise_22 rfl (lv_at hl 2 rfl) ?_
      refine va_get (D := D) (ci := 1) (v := .int (C 43 g)) (C := RX0) (T := TX0) (N := 4) hx hb hts inX0 hown hK (hW.p (e := (eGd ad C g)) (Wd_Gd hg)) 0 rfl rfl 3 (by decide) (hts (.fieldLink RX0 19 "StoryToll$Guard" "awake" "Z") (List.mem_of_getElem? (i := 2) rfl)) (fun _ h9 => h9) rfl dX0_watchesTillOtherwise_23 ?_
      refine lv_iload_n hx hb dX0_watchesTillOtherwise_26 rfl (lv_at hl 0 rfl) ?_
      refine g_Si (As := [.int (C 43 g), .int (f_X0_patienceBehindWatch (C 43 g) a)]) (rest := []) C0 (c_X0_isAwakeBehindWatch l D G Hp (C 43 g) (f_X0_patienceBehindWatch (C 43 g) a)) (va_cwS 2 hts gX0_watchesTillOtherwise_X0_isAwakeBehindWatch rfl rfl rfl (by decide +kernel) ⟨Nat.le_of_ble_eq_true rfl, Nat.le_of_ble_eq_true rfl⟩) hK rfl hl rfl (Nat.le_of_ble_eq_true rfl) dX0_watchesTillOtherwise_27 ⟨Nat.zero_le _, Nat.zero_le _⟩ hS (fun r_4 locs hr_4 hS => ?_)
      subst r_4
      refine lv_aload_n hx hb dX0_watchesTillOtherwise_30 rfl (lv_at hl 2 rfl) ?_
      refine va_get (D := D) (ci := 1) (v := .int (C 43 g)) (C := RX0) (T := TX0) (N := 4) hx hb hts inX0 hown hK (hW.p (e := (eGd ad C g)) (Wd_Gd hg)) 0 rfl rfl 3 (by decide) (hts (.fieldLink RX0 19 "StoryToll$Guard" "awake" "Z") (List.mem_of_getElem? (i := 2) rfl)) (fun _ h9 => h9) rfl dX0_watchesTillOtherwise_31 ?_
      refine lv_icmp_eq (tgt := 39) hx hb dX0_watchesTillOtherwise_34 (by decide) (fun c_34_4 => ?_) (fun c_34_4 => ?_)
      · refine lv_iinc (v := (nI ((j + 1) + 1))) (lv' := [(2, .int (nI ((j + 1) + 1))), (1, .int (f_X0_patienceBehindWatch (C 43 g) a)), (0, .ref (ad 4 g))]) hx hb dX0_watchesTillOtherwise_39 hl (k := 1) rfl (nI_1 _) (by decide) rfl (fun ls hl => ?_)
        refine lv_goto (tgt := 7) hx hb dX0_watchesTillOtherwise_42 (by decide) ?_
        exact ih ls locs ⟨(f_X0_patienceBehindWatch (C 43 g) a), lv_sub hl [0, 1, 2] rfl, hE.trans (gEx_b hj (by rw [L_X0_wto, if_pos c_34_4]))⟩ hS
      · refine lv_iload_n hx hb dX0_watchesTillOtherwise_37 rfl (lv_at hl 1 rfl) ?_
        exact g_iret hx hb hr hlk hh hS (show (nI (j + 1)) = f_X0_watchesTillOtherwise C g from by rw [f_X0_watchesTillOtherwise]; exact (hE.trans (gEx_r (a' := a) hj (by rw [L_X0_wto, if_neg c_34_4]))).symm) dX0_watchesTillOtherwise_38
def f_X0_answer (C : gT) (g : Nat) (w : Int32) : Int32 := (if w = 0 then (if (C 43 g) = 0 then 0 else 1) else (if w = 1 then (C 42 g) else (C 41 g)))
set_option maxHeartbeats 4000000 in
set_option maxRecDepth 100000 in
theorem c_X0_answer (l : Launch) (D : va_G) (G : gG) (A : Nat → Prop) (ad : gAd) (N : gN) (C M : gT) (o : Nat → Int64) (Hp : Heap) (hW : gW D A ad (Wd G ad N C M o) Hp) (g : Nat) (hg : g < N 1) (w : Int32) : Met l yX0_answer wsX0_answer ({ frames := 0, cells := 0, slots := 0, locals := 0 }) (va_Pc [.ref (ad 4 g), .int w] (gQ D (gTs G) Hp)) (gRi (fun r => r = f_X0_answer C g w) Hp) 0 0 gF := by
  refine g_start (cc := cX0_answer) (maxL := 2) (ret := (some .int)) (by decide) rfl (Nat.le_of_ble_eq_true rfl) (fun p e s m below meth c ls C0 hr hlk hnm hh hK hl => ?_)
  obtain ⟨hx, hb, hml, hown, hts⟩ := id C0
  have hown : s.vm.findClass RX0 = some m.cls := hown
  have hS : va_S gF Hp Hp [] := va_S.rf
  have hl : lv_has ls 2 [(0, .ref (ad 4 g)), (1, .int w)] := hl
  have inX0 : ∀ w ∈ wsX00, w ∈ wsX0_answer := by decide +kernel
  refine lv_iload_n hx hb dX0_answer_0 rfl (lv_at hl 1 rfl) ?_
  by_cases c_f_0 : w = 0
  · refine lv_lookup (off := 27) (tgt := 28) hx hb dX0_answer_1 (by decide) (by rw [c_f_0]; rfl) (by decide) ?_
    refine lv_aload_n hx hb dX0_answer_28 rfl (lv_at hl 0 rfl) ?_
    refine va_get (D := D) (ci := 1) (v := .int (C 43 g)) (C := RX0) (T := TX0) (N := 4) hx hb hts inX0 hown hK (hW.p (e := (eGd ad C g)) (Wd_Gd hg)) 0 rfl rfl 3 (by decide) (hts (.fieldLink RX0 19 "StoryToll$Guard" "awake" "Z") (List.mem_of_getElem? (i := 1) rfl)) (fun _ h9 => h9) rfl dX0_answer_29 ?_
    refine lv_if_eq (tgt := 39) hx hb dX0_answer_32 (by decide) (fun c_32_1 => ?_) (fun c_32_1 => ?_)
    · refine lv_iconst (v := 0) hx hb dX0_answer_39 (by decide) ?_
      exact g_iret hx hb hr hlk hh hS (show 0 = f_X0_answer C g w from by rw [f_X0_answer, if_pos c_f_0, if_pos c_32_1]) dX0_answer_40
    · refine lv_iconst (v := 1) hx hb dX0_answer_35 (by decide) ?_
      refine lv_goto (tgt := 40) hx hb dX0_answer_36 (by decide) ?_
      exact g_iret hx hb hr hlk hh hS (show 1 = f_X0_answer C g w from by rw [f_X0_answer, if_pos c_f_0, if_neg c_32_1]) dX0_answer_40
  · by_cases c_f_2 : w = 1
    · refine lv_lookup (off := 40) (tgt := 41) hx hb dX0_answer_1 (by decide) (by rw [lv_osw (a := 0) c_f_0 rfl]; rw [c_f_2]; rfl) (by decide) ?_
      refine lv_aload_n hx hb dX0_answer_41 rfl (lv_at hl 0 rfl) ?_
      refine va_get (D := D) (ci := 1) (v := .int (C 42 g)) (C := RX0) (T := TX0) (N := 4) hx hb hts inX0 hown hK (hW.p (e := (eGd ad C g)) (Wd_Gd hg)) 0 rfl rfl 2 (by decide) (hts (.fieldLink RX0 15 "StoryToll$Guard" "patience" "I") (List.mem_of_getElem? (i := 2) rfl)) (fun _ h9 => h9) rfl dX0_answer_42 ?_
      exact g_iret hx hb hr hlk hh hS (show (C 42 g) = f_X0_answer C g w from by rw [f_X0_answer, if_neg c_f_0, if_pos c_f_2]) dX0_answer_45
    · refine lv_lookup (off := 45) (tgt := 46) hx hb dX0_answer_1 (by decide) (by show Op.lookupswitch.offset (_ :: _) _ _ = _; rw [lv_osw (a := 0) c_f_0 rfl, lv_osw (a := 1) c_f_2 rfl]; rfl) (by decide) ?_
      refine lv_aload_n hx hb dX0_answer_46 rfl (lv_at hl 0 rfl) ?_
      refine va_get (D := D) (ci := 1) (v := .int (C 41 g)) (C := RX0) (T := TX0) (N := 4) hx hb hts inX0 hown hK (hW.p (e := (eGd ad C g)) (Wd_Gd hg)) 0 rfl rfl 1 (by decide) (hts (.fieldLink RX0 51 "StoryToll$Guard" "scenesHeard" "I") (List.mem_of_getElem? (i := 3) rfl)) (fun _ h9 => h9) rfl dX0_answer_47 ?_
      exact g_iret hx hb hr hlk hh hS (show (C 41 g) = f_X0_answer C g w from by rw [f_X0_answer, if_neg c_f_0, if_neg c_f_2]) dX0_answer_50
def f_X3_knows (C : gT) (tv : Nat) (i : Nat) : Int32 := (if ((C 51 tv) &&& (f_X2_asSet C i)) = 0 then 0 else 1)
set_option maxHeartbeats 4000000 in
set_option maxRecDepth 100000 in
theorem c_X3_knows (l : Launch) (D : va_G) (G : gG) (A : Nat → Prop) (ad : gAd) (N : gN) (C M : gT) (o : Nat → Int64) (Hp : Heap) (hW : gW D A ad (Wd G ad N C M o) Hp) (tv : Nat) (htv : tv < N 2) (i : Nat) (hi : i < N 0) : Met l yX3_knows wsX3_knows ({ frames := 1, cells := 0, slots := 0, locals := 20 }) (va_Pc [.ref (ad 5 tv), .ref (ad 3 i)] (gQ D (gTs G) Hp)) (gRi (fun r => r = f_X3_knows C tv i) Hp) 0 0 gF := by
  refine g_start (cc := cX3_knows) (maxL := 2) (ret := (some .boolean)) (by decide) rfl (Nat.le_of_ble_eq_true rfl) (fun p e s m below meth c ls C0 hr hlk hnm hh hK hl => ?_)
  obtain ⟨hx, hb, hml, hown, hts⟩ := id C0
  have hown : s.vm.findClass RX3 = some m.cls := hown
  have hS : va_S gF Hp Hp [] := va_S.rf
  have hl : lv_has ls 2 [(0, .ref (ad 5 tv)), (1, .ref (ad 3 i))] := hl
  have inX3 : ∀ w ∈ wsX30, w ∈ wsX3_knows := by decide +kernel
  refine lv_aload_n hx hb dX3_knows_0 rfl (lv_at hl 0 rfl) ?_
  refine va_get (D := D) (ci := 4) (v := .int (C 51 tv)) (C := RX3) (T := TX3) (N := 5) hx hb hts inX3 hown hK (hW.p (e := (eTr C tv)) (Wd_Tr htv)) 0 rfl rfl 1 (by decide) (hts (.fieldLink RX3 18 "StoryToll$Traveller" "known" "I") (List.mem_of_getElem? (i := 1) rfl)) (fun _ h9 => h9) rfl dX3_knows_1 ?_
  refine lv_aload_n hx hb dX3_knows_4 rfl (lv_at hl 1 rfl) ?_
  refine g_Vi (As := []) (rest := [.int (C 51 tv)]) C0 (c_X2_asSet l D G A ad N C M o Hp hW i hi) (cwV 0 hts gX3_knows_X2_asSet rfl rfl rfl (by decide +kernel) ⟨Nat.le_of_ble_eq_true rfl, Nat.le_of_ble_eq_true rfl⟩) hK (va_recv hK (hW.p (Wd_S hi)) (ci := 3) (q0 := 0) rfl rfl) rfl hl rfl (Nat.le_of_ble_eq_true rfl) dX3_knows_5 ⟨Nat.zero_le _, Nat.zero_le _⟩ hS (fun r_1 locs hr_1 hS => ?_)
  replace hr_1 : r_1 = (f_X2_asSet C i) := hr_1
  subst r_1
  refine lv_iand hx hb dX3_knows_8 ?_
  refine lv_if_eq (tgt := 16) hx hb dX3_knows_9 (by decide) (fun c_9_1 => ?_) (fun c_9_1 => ?_)
  · refine lv_iconst (v := 0) hx hb dX3_knows_16 (by decide) ?_
    exact g_zret hx hb hr hlk hh hS (Or.inl rfl) (show 0 = f_X3_knows C tv i from by rw [f_X3_knows, if_pos c_9_1]) dX3_knows_17
  · refine lv_iconst (v := 1) hx hb dX3_knows_12 (by decide) ?_
    refine lv_goto (tgt := 17) hx hb dX3_knows_13 (by decide) ?_
    exact g_zret hx hb hr hlk hh hS (Or.inr rfl) (show 1 = f_X3_knows C tv i from by rw [f_X3_knows, if_neg c_9_1]) dX3_knows_17
def f_X1_isOpen (C : gT) (q : Nat) : Int32 := (if (C 31 (C 63 q).toNatClampNeg) = 2 then 0 else 1)
set_option maxHeartbeats 4000000 in
set_option maxRecDepth 100000 in
theorem c_X1_isOpen (l : Launch) (D : va_G) (G : gG) (A : Nat → Prop) (ad : gAd) (N : gN) (C M : gT) (o : Nat → Int64) (Hp : Heap) (hW : gW D A ad (Wd G ad N C M o) Hp) (hC : IC N C) (q : Nat) (hq : q < N 3) : Met l yX1_isOpen wsX1_isOpen ({ frames := 0, cells := 0, slots := 0, locals := 0 }) (va_Pc [.ref (ad 6 q)] (gQ D (gTs G) Hp)) (gRi (fun r => r = f_X1_isOpen C q) Hp) 0 0 gF := by
  refine g_start (cc := cX1_isOpen) (maxL := 1) (ret := (some .boolean)) (by decide) rfl (Nat.le_of_ble_eq_true rfl) (fun p e s m below meth c ls C0 hr hlk hnm hh hK hl => ?_)
  obtain ⟨hx, hb, hml, hown, hts⟩ := id C0
  have hown : s.vm.findClass RX1 = some m.cls := hown
  have hS : va_S gF Hp Hp [] := va_S.rf
  have hl : lv_has ls 1 [(0, .ref (ad 6 q))] := hl
  have inX1 : ∀ w ∈ wsX10, w ∈ wsX1_isOpen := by decide +kernel
  have inX2 : ∀ w ∈ wsX20, w ∈ wsX1_isOpen := by decide +kernel
  obtain ⟨⟨hc0, hc1, hc2, hc3⟩, hNN, hCp⟩ := id hC
  obtain ⟨hla, hlen, hlen8⟩ := hCp q hq
  refine lv_aload_n hx hb dX1_isOpen_0 rfl (lv_at hl 0 rfl) ?_
  refine va_get (D := D) (ci := 2) (v := .ref (ad 3 (C 63 q).toNatClampNeg)) (C := RX1) (T := TX1) (N := 6) hx hb hts inX1 hown hK (hW.p (e := (ePl ad C q)) (Wd_Pl hq)) 0 rfl rfl 3 (by decide) (hts (.fieldLink RX1 42 "StoryToll$Plot" "last" "LStoryToll$Scene;") (List.mem_of_getElem? (i := 1) rfl)) (fun _ h9 => h9) rfl dX1_isOpen_1 ?_
  refine va_get (D := D) (ci := 3) (v := .int (C 31 (C 63 q).toNatClampNeg)) (C := RX2) (T := TX2) (N := 6) hx hb hts inX2 hown hK (hW.p (e := (eS C (C 63 q).toNatClampNeg)) (Wd_S hla)) 0 rfl rfl 1 (by decide) (hts (.fieldLink RX1 46 "StoryToll$Scene" "kind" "I") (List.mem_of_getElem? (i := 2) rfl)) (fun _ h9 => h9) rfl dX1_isOpen_4 ?_
  refine lv_iconst (v := 2) hx hb dX1_isOpen_7 (by decide) ?_
  refine lv_icmp_eq (tgt := 15) hx hb dX1_isOpen_8 (by decide) (fun c_8_0 => ?_) (fun c_8_0 => ?_)
  · refine lv_iconst (v := 0) hx hb dX1_isOpen_15 (by decide) ?_
    exact g_zret hx hb hr hlk hh hS (Or.inl rfl) (show 0 = f_X1_isOpen C q from by rw [f_X1_isOpen, if_pos c_8_0]) dX1_isOpen_16
  · refine lv_iconst (v := 1) hx hb dX1_isOpen_11 (by decide) ?_
    refine lv_goto (tgt := 16) hx hb dX1_isOpen_12 (by decide) ?_
    exact g_zret hx hb hr hlk hh hS (Or.inr rfl) (show 1 = f_X1_isOpen C q from by rw [f_X1_isOpen, if_neg c_8_0]) dX1_isOpen_16
def f_X1_canGoOnWith (C : gT) (q : Nat) (i : Nat) (te : Int32) : Int32 := (if (f_X1_isOpen C q) = 0 then 0 else (if 8 ≤ (C 62 q) then 0 else (if (f_X2_canLeadTo C (C 63 q).toNatClampNeg i) = 0 then 0 else (if (C 31 i) = 2 then (if (C 65 q) = (-1) then 1 else (if (C 65 q) = te then 1 else 0)) else 1))))
set_option maxHeartbeats 4000000 in
set_option maxRecDepth 100000 in
theorem c_X1_canGoOnWith (l : Launch) (D : va_G) (G : gG) (A : Nat → Prop) (ad : gAd) (N : gN) (C M : gT) (o : Nat → Int64) (Hp : Heap) (hW : gW D A ad (Wd G ad N C M o) Hp) (hC : IC N C) (q : Nat) (hq : q < N 3) (i : Nat) (hi : i < N 0) (te : Int32) : Met l yX1_canGoOnWith wsX1_canGoOnWith ({ frames := 2, cells := 0, slots := 0, locals := 41 }) (va_Pc [.ref (ad 6 q), .ref (ad 3 i), .int te] (gQ D (gTs G) Hp)) (gRi (fun r => r = f_X1_canGoOnWith C q i te) Hp) 0 0 gF := by
  refine g_start (cc := cX1_canGoOnWith) (maxL := 3) (ret := (some .boolean)) (by decide) rfl (Nat.le_of_ble_eq_true rfl) (fun p e s m below meth c ls C0 hr hlk hnm hh hK hl => ?_)
  obtain ⟨hx, hb, hml, hown, hts⟩ := id C0
  have hown : s.vm.findClass RX1 = some m.cls := hown
  have hS : va_S gF Hp Hp [] := va_S.rf
  have hl : lv_has ls 3 [(0, .ref (ad 6 q)), (1, .ref (ad 3 i)), (2, .int te)] := hl
  have inX1 : ∀ w ∈ wsX10, w ∈ wsX1_canGoOnWith := by decide +kernel
  have inX2 : ∀ w ∈ wsX20, w ∈ wsX1_canGoOnWith := by decide +kernel
  obtain ⟨⟨hc0, hc1, hc2, hc3⟩, hNN, hCp⟩ := id hC
  obtain ⟨hla, hlen, hlen8⟩ := hCp q hq
  refine lv_aload_n hx hb dX1_canGoOnWith_0 rfl (lv_at hl 0 rfl) ?_
  refine g_Vi (As := []) (rest := []) C0 (c_X1_isOpen l D G A ad N C M o Hp hW hC q hq) (cwV 0 hts gX1_canGoOnWith_X1_isOpen rfl rfl rfl (by decide +kernel) ⟨Nat.le_of_ble_eq_true rfl, Nat.le_of_ble_eq_true rfl⟩) hK (va_recv hK (hW.p (Wd_Pl hq)) (ci := 2) (q0 := 0) rfl rfl) rfl hl rfl (Nat.le_of_ble_eq_true rfl) dX1_canGoOnWith_1 ⟨Nat.zero_le _, Nat.zero_le _⟩ hS (fun r_1 locs hr_1 hS => ?_)
  replace hr_1 : r_1 = (f_X1_isOpen C q) := hr_1
  subst r_1
  refine lv_if_eq (tgt := 30) hx hb dX1_canGoOnWith_4 (by decide) (fun c_4_1 => ?_) (fun c_4_1 => ?_)
  · refine lv_iconst (v := 0) hx hb dX1_canGoOnWith_30 (by decide) ?_
    exact g_zret hx hb hr hlk hh hS (Or.inl rfl) (show 0 = f_X1_canGoOnWith C q i te from by rw [f_X1_canGoOnWith, if_pos c_4_1]) dX1_canGoOnWith_31
  · refine lv_aload_n hx hb dX1_canGoOnWith_7 rfl (lv_at hl 0 rfl) ?_
    refine va_get (D := D) (ci := 2) (v := .int (C 62 q)) (C := RX1) (T := TX1) (N := 6) hx hb hts inX1 hown hK (hW.p (e := (ePl ad C q)) (Wd_Pl hq)) 0 rfl rfl 2 (by decide) (hts (.fieldLink RX1 23 "StoryToll$Plot" "length" "I") (List.mem_of_getElem? (i := 1) rfl)) (fun _ h9 => h9) rfl dX1_canGoOnWith_8 ?_
    refine lv_aload_n hx hb dX1_canGoOnWith_11 rfl (lv_at hl 0 rfl) ?_
    refine va_get (D := D) (ci := 2) (v := .ref (ad 8 q)) (C := RX1) (T := TX1) (N := 6) hx hb hts inX1 hown hK (hW.p (e := (ePl ad C q)) (Wd_Pl hq)) 0 rfl rfl 0 (by decide) (hts (.fieldLink RX1 9 "StoryToll$Plot" "row" "[I") (List.mem_of_getElem? (i := 2) rfl)) (fun _ h9 => h9) rfl dX1_canGoOnWith_12 ?_
    refine va_alen hx hb hK (hW.p (Wd_Rw hq)) 0 0 (x := (8, .inl (C (200 + q)))) rfl rfl (v := 8) rfl dX1_canGoOnWith_15 ?_
    refine lv_icmp_ge (tgt := 30) hx hb dX1_canGoOnWith_16 (by decide) (fun c_16_2 => ?_) (fun c_16_2 => ?_)
    · refine lv_iconst (v := 0) hx hb dX1_canGoOnWith_30 (by decide) ?_
      exact g_zret hx hb hr hlk hh hS (Or.inl rfl) (show 0 = f_X1_canGoOnWith C q i te from by rw [f_X1_canGoOnWith, if_neg c_4_1, if_pos c_16_2]) dX1_canGoOnWith_31
    · refine lv_aload_n hx hb dX1_canGoOnWith_19 rfl (lv_at hl 0 rfl) ?_
      refine va_get (D := D) (ci := 2) (v := .ref (ad 3 (C 63 q).toNatClampNeg)) (C := RX1) (T := TX1) (N := 6) hx hb hts inX1 hown hK (hW.p (e := (ePl ad C q)) (Wd_Pl hq)) 0 rfl rfl 3 (by decide) (hts (.fieldLink RX1 42 "StoryToll$Plot" "last" "LStoryToll$Scene;") (List.mem_of_getElem? (i := 3) rfl)) (fun _ h9 => h9) rfl dX1_canGoOnWith_20 ?_
      refine lv_aload_n hx hb dX1_canGoOnWith_23 rfl (lv_at hl 1 rfl) ?_
      refine g_Vi (As := [.ref (ad 3 i)]) (rest := []) C0 (c_X2_canLeadTo l D G A ad N C M o Hp hW (C 63 q).toNatClampNeg hla i hi) (cwV 1 hts gX1_canGoOnWith_X2_canLeadTo rfl rfl rfl (by decide +kernel) ⟨Nat.le_of_ble_eq_true rfl, Nat.le_of_ble_eq_true rfl⟩) hK (va_recv hK (hW.p (Wd_S hla)) (ci := 3) (q0 := 0) rfl rfl) rfl hl rfl (Nat.le_of_ble_eq_true rfl) dX1_canGoOnWith_24 ⟨Nat.zero_le _, Nat.zero_le _⟩ hS (fun r_4 locs hr_4 hS => ?_)
      replace hr_4 : r_4 = (f_X2_canLeadTo C (C 63 q).toNatClampNeg i) := hr_4
      subst r_4
      refine lv_if_ne (tgt := 32) hx hb dX1_canGoOnWith_27 (by decide) (fun c_27_4 => ?_) (fun c_27_4 => ?_)
      · refine lv_aload_n hx hb dX1_canGoOnWith_32 rfl (lv_at hl 1 rfl) ?_
        refine va_get (D := D) (ci := 3) (v := .int (C 31 i)) (C := RX2) (T := TX2) (N := 6) hx hb hts inX2 hown hK (hW.p (e := (eS C i)) (Wd_S hi)) 0 rfl rfl 1 (by decide) (hts (.fieldLink RX1 46 "StoryToll$Scene" "kind" "I") (List.mem_of_getElem? (i := 4) rfl)) (fun _ h9 => h9) rfl dX1_canGoOnWith_33 ?_
        refine lv_iconst (v := 2) hx hb dX1_canGoOnWith_36 (by decide) ?_
        refine lv_icmp_ne (tgt := 56) hx hb dX1_canGoOnWith_37 (by decide) (fun c_37_5 => ?_) (fun c_37_5 => ?_)
        · refine lv_iconst (v := 1) hx hb dX1_canGoOnWith_56 (by decide) ?_
          refine lv_goto (tgt := 61) hx hb dX1_canGoOnWith_57 (by decide) ?_
          exact g_zret hx hb hr hlk hh hS (Or.inr rfl) (show 1 = f_X1_canGoOnWith C q i te from by rw [f_X1_canGoOnWith, if_neg c_4_1, if_neg c_16_2, if_neg c_27_4, if_neg c_37_5]) dX1_canGoOnWith_61
        · refine lv_aload_n hx hb dX1_canGoOnWith_40 rfl (lv_at hl 0 rfl) ?_
          refine va_get (D := D) (ci := 2) (v := .int (C 65 q)) (C := RX1) (T := TX1) (N := 6) hx hb hts inX1 hown hK (hW.p (e := (ePl ad C q)) (Wd_Pl hq)) 0 rfl rfl 5 (by decide) (hts (.fieldLink RX1 15 "StoryToll$Plot" "holder" "I") (List.mem_of_getElem? (i := 5) rfl)) (fun _ h9 => h9) rfl dX1_canGoOnWith_41 ?_
          refine lv_iconst (v := (-1)) hx hb dX1_canGoOnWith_44 (by decide) ?_
          refine lv_icmp_eq (tgt := 56) hx hb dX1_canGoOnWith_45 (by decide) (fun c_45_6 => ?_) (fun c_45_6 => ?_)
          · refine lv_iconst (v := 1) hx hb dX1_canGoOnWith_56 (by decide) ?_
            refine lv_goto (tgt := 61) hx hb dX1_canGoOnWith_57 (by decide) ?_
            exact g_zret hx hb hr hlk hh hS (Or.inr rfl) (show 1 = f_X1_canGoOnWith C q i te from by rw [f_X1_canGoOnWith, if_neg c_4_1, if_neg c_16_2, if_neg c_27_4, if_pos c_37_5, if_pos c_45_6]) dX1_canGoOnWith_61
          · refine lv_aload_n hx hb dX1_canGoOnWith_48 rfl (lv_at hl 0 rfl) ?_
            refine va_get (D := D) (ci := 2) (v := .int (C 65 q)) (C := RX1) (T := TX1) (N := 6) hx hb hts inX1 hown hK (hW.p (e := (ePl ad C q)) (Wd_Pl hq)) 0 rfl rfl 5 (by decide) (hts (.fieldLink RX1 15 "StoryToll$Plot" "holder" "I") (List.mem_of_getElem? (i := 5) rfl)) (fun _ h9 => h9) rfl dX1_canGoOnWith_49 ?_
            refine lv_iload_n hx hb dX1_canGoOnWith_52 rfl (lv_at hl 2 rfl) ?_
            refine lv_icmp_ne (tgt := 60) hx hb dX1_canGoOnWith_53 (by decide) (fun c_53_7 => ?_) (fun c_53_7 => ?_)
            · refine lv_iconst (v := 0) hx hb dX1_canGoOnWith_60 (by decide) ?_
              exact g_zret hx hb hr hlk hh hS (Or.inl rfl) (show 0 = f_X1_canGoOnWith C q i te from by rw [f_X1_canGoOnWith, if_neg c_4_1, if_neg c_16_2, if_neg c_27_4, if_pos c_37_5, if_neg c_45_6, if_neg c_53_7]) dX1_canGoOnWith_61
            · refine lv_iconst (v := 1) hx hb dX1_canGoOnWith_56 (by decide) ?_
              refine lv_goto (tgt := 61) hx hb dX1_canGoOnWith_57 (by decide) ?_
              exact g_zret hx hb hr hlk hh hS (Or.inr rfl) (show 1 = f_X1_canGoOnWith C q i te from by rw [f_X1_canGoOnWith, if_neg c_4_1, if_neg c_16_2, if_neg c_27_4, if_pos c_37_5, if_neg c_45_6, if_pos c_53_7]) dX1_canGoOnWith_61
      · refine lv_iconst (v := 0) hx hb dX1_canGoOnWith_30 (by decide) ?_
        exact g_zret hx hb hr hlk hh hS (Or.inl rfl) (show 0 = f_X1_canGoOnWith C q i te from by rw [f_X1_canGoOnWith, if_neg c_4_1, if_neg c_16_2, if_pos c_27_4]) dX1_canGoOnWith_31
def f_X1_numberAt (C : gT) (q : Nat) (v : Int32) : Int32 := (if v < 0 then (-1) else (if 8 ≤ v then (-1) else (C (200 + q) v.toNatClampNeg)))
set_option maxHeartbeats 4000000 in
set_option maxRecDepth 100000 in
theorem c_X1_numberAt (l : Launch) (D : va_G) (G : gG) (A : Nat → Prop) (ad : gAd) (N : gN) (C M : gT) (o : Nat → Int64) (Hp : Heap) (hW : gW D A ad (Wd G ad N C M o) Hp) (q : Nat) (hq : q < N 3) (v : Int32) : Met l yX1_numberAt wsX1_numberAt ({ frames := 0, cells := 0, slots := 0, locals := 0 }) (va_Pc [.ref (ad 6 q), .int v] (gQ D (gTs G) Hp)) (gRi (fun r => r = f_X1_numberAt C q v) Hp) 0 0 gF := by
  refine g_start (cc := cX1_numberAt) (maxL := 2) (ret := (some .int)) (by decide) rfl (Nat.le_of_ble_eq_true rfl) (fun p e s m below meth c ls C0 hr hlk hnm hh hK hl => ?_)
  obtain ⟨hx, hb, hml, hown, hts⟩ := id C0
  have hown : s.vm.findClass RX1 = some m.cls := hown
  have hS : va_S gF Hp Hp [] := va_S.rf
  have hl : lv_has ls 2 [(0, .ref (ad 6 q)), (1, .int v)] := hl
  have inX1 : ∀ w ∈ wsX10, w ∈ wsX1_numberAt := by decide +kernel
  refine lv_iload_n hx hb dX1_numberAt_0 rfl (lv_at hl 1 rfl) ?_
  refine lv_if_lt (tgt := 22) hx hb dX1_numberAt_1 (by decide) (fun c_1_0 => ?_) (fun c_1_0 => ?_)
  · refine lv_iconst (v := (-1)) hx hb dX1_numberAt_22 (by decide) ?_
    exact g_iret hx hb hr hlk hh hS (show (-1) = f_X1_numberAt C q v from by rw [f_X1_numberAt, if_pos c_1_0]) dX1_numberAt_23
  · refine lv_iload_n hx hb dX1_numberAt_4 rfl (lv_at hl 1 rfl) ?_
    refine lv_aload_n hx hb dX1_numberAt_5 rfl (lv_at hl 0 rfl) ?_
    refine va_get (D := D) (ci := 2) (v := .ref (ad 8 q)) (C := RX1) (T := TX1) (N := 6) hx hb hts inX1 hown hK (hW.p (e := (ePl ad C q)) (Wd_Pl hq)) 0 rfl rfl 0 (by decide) (hts (.fieldLink RX1 9 "StoryToll$Plot" "row" "[I") (List.mem_of_getElem? (i := 1) rfl)) (fun _ h9 => h9) rfl dX1_numberAt_6 ?_
    refine va_alen hx hb hK (hW.p (Wd_Rw hq)) 0 0 (x := (8, .inl (C (200 + q)))) rfl rfl (v := 8) rfl dX1_numberAt_9 ?_
    refine lv_icmp_ge (tgt := 22) hx hb dX1_numberAt_10 (by decide) (fun c_10_1 => ?_) (fun c_10_1 => ?_)
    · refine lv_iconst (v := (-1)) hx hb dX1_numberAt_22 (by decide) ?_
      exact g_iret hx hb hr hlk hh hS (show (-1) = f_X1_numberAt C q v from by rw [f_X1_numberAt, if_neg c_1_0, if_pos c_10_1]) dX1_numberAt_23
    · refine lv_aload_n hx hb dX1_numberAt_13 rfl (lv_at hl 0 rfl) ?_
      refine va_get (D := D) (ci := 2) (v := .ref (ad 8 q)) (C := RX1) (T := TX1) (N := 6) hx hb hts inX1 hown hK (hW.p (e := (ePl ad C q)) (Wd_Pl hq)) 0 rfl rfl 0 (by decide) (hts (.fieldLink RX1 9 "StoryToll$Plot" "row" "[I") (List.mem_of_getElem? (i := 1) rfl)) (fun _ h9 => h9) rfl dX1_numberAt_14 ?_
      refine lv_iload_n hx hb dX1_numberAt_17 rfl (lv_at hl 1 rfl) ?_
      refine g_ild hx hb hK hW 0 (n := 8) (f := (C (200 + q))) (Wd_Rw hq) rfl (k := v.toNatClampNeg) (gIn_of (n := 8) (by decide) (gIn_p c_1_0 c_10_1 rfl)).1 (gIn_of (n := 8) (by decide) (gIn_p c_1_0 c_10_1 rfl)).2 (by decide) dX1_numberAt_18 ?_
      refine lv_goto (tgt := 23) hx hb dX1_numberAt_19 (by decide) ?_
      exact g_iret hx hb hr hlk hh hS (show (C (200 + q) v.toNatClampNeg) = f_X1_numberAt C q v from by rw [f_X1_numberAt, if_neg c_1_0, if_neg c_10_1]) dX1_numberAt_23
def f_X1_answer (C : gT) (q : Nat) (w : Int32) : Int32 := (if w = 0 then (C 62 q) else (if w = 1 then (if (f_X1_isOpen C q) = 0 then 0 else 1) else (if w = 2 then (C 65 q) else (C 61 q))))
set_option maxHeartbeats 4000000 in
set_option maxRecDepth 100000 in
theorem c_X1_answer (l : Launch) (D : va_G) (G : gG) (A : Nat → Prop) (ad : gAd) (N : gN) (C M : gT) (o : Nat → Int64) (Hp : Heap) (hW : gW D A ad (Wd G ad N C M o) Hp) (hC : IC N C) (q : Nat) (hq : q < N 3) (w : Int32) : Met l yX1_answer wsX1_answer ({ frames := 1, cells := 0, slots := 0, locals := 20 }) (va_Pc [.ref (ad 6 q), .int w] (gQ D (gTs G) Hp)) (gRi (fun r => r = f_X1_answer C q w) Hp) 0 0 gF := by
  refine g_start (cc := cX1_answer) (maxL := 2) (ret := (some .int)) (by decide) rfl (Nat.le_of_ble_eq_true rfl) (fun p e s m below meth c ls C0 hr hlk hnm hh hK hl => ?_)
  obtain ⟨hx, hb, hml, hown, hts⟩ := id C0
  have hown : s.vm.findClass RX1 = some m.cls := hown
  have hS : va_S gF Hp Hp [] := va_S.rf
  have hl : lv_has ls 2 [(0, .ref (ad 6 q)), (1, .int w)] := hl
  have inX1 : ∀ w ∈ wsX10, w ∈ wsX1_answer := by decide +kernel
  obtain ⟨⟨hc0, hc1, hc2, hc3⟩, hNN, hCp⟩ := id hC
  obtain ⟨hla, hlen, hlen8⟩ := hCp q hq
  refine lv_iload_n hx hb dX1_answer_0 rfl (lv_at hl 1 rfl) ?_
  by_cases c_f_0 : w = 0
  · refine lv_tableIn (off := 27) (tgt := 28) hx hb dX1_answer_1 (by rw [c_f_0]; decide) (by rw [c_f_0]; decide) (by rw [c_f_0]; rfl) (by decide) ?_
    refine lv_aload_n hx hb dX1_answer_28 rfl (lv_at hl 0 rfl) ?_
    refine va_get (D := D) (ci := 2) (v := .int (C 62 q)) (C := RX1) (T := TX1) (N := 6) hx hb hts inX1 hown hK (hW.p (e := (ePl ad C q)) (Wd_Pl hq)) 0 rfl rfl 2 (by decide) (hts (.fieldLink RX1 23 "StoryToll$Plot" "length" "I") (List.mem_of_getElem? (i := 1) rfl)) (fun _ h9 => h9) rfl dX1_answer_29 ?_
    exact g_iret hx hb hr hlk hh hS (show (C 62 q) = f_X1_answer C q w from by rw [f_X1_answer, if_pos c_f_0]) dX1_answer_32
  · by_cases c_f_1 : w = 1
    · refine lv_tableIn (off := 32) (tgt := 33) hx hb dX1_answer_1 (by rw [c_f_1]; decide) (by rw [c_f_1]; decide) (by rw [c_f_1]; rfl) (by decide) ?_
      refine lv_aload_n hx hb dX1_answer_33 rfl (lv_at hl 0 rfl) ?_
      refine g_Vi (As := []) (rest := []) C0 (c_X1_isOpen l D G A ad N C M o Hp hW hC q hq) (cwV 0 hts gX1_answer_X1_isOpen rfl rfl rfl (by decide +kernel) ⟨Nat.le_of_ble_eq_true rfl, Nat.le_of_ble_eq_true rfl⟩) hK (va_recv hK (hW.p (Wd_Pl hq)) (ci := 2) (q0 := 0) rfl rfl) rfl hl rfl (Nat.le_of_ble_eq_true rfl) dX1_answer_34 ⟨Nat.zero_le _, Nat.zero_le _⟩ hS (fun r_3 locs hr_3 hS => ?_)
      replace hr_3 : r_3 = (f_X1_isOpen C q) := hr_3
      subst r_3
      refine lv_if_eq (tgt := 44) hx hb dX1_answer_37 (by decide) (fun c_37_3 => ?_) (fun c_37_3 => ?_)
      · refine lv_iconst (v := 0) hx hb dX1_answer_44 (by decide) ?_
        exact g_iret hx hb hr hlk hh hS (show 0 = f_X1_answer C q w from by rw [f_X1_answer, if_neg c_f_0, if_pos c_f_1, if_pos c_37_3]) dX1_answer_45
      · refine lv_iconst (v := 1) hx hb dX1_answer_40 (by decide) ?_
        refine lv_goto (tgt := 45) hx hb dX1_answer_41 (by decide) ?_
        exact g_iret hx hb hr hlk hh hS (show 1 = f_X1_answer C q w from by rw [f_X1_answer, if_neg c_f_0, if_pos c_f_1, if_neg c_37_3]) dX1_answer_45
    · by_cases c_f_4 : w = 2
      · refine lv_tableIn (off := 45) (tgt := 46) hx hb dX1_answer_1 (by rw [c_f_4]; decide) (by rw [c_f_4]; decide) (by rw [c_f_4]; rfl) (by decide) ?_
        refine lv_aload_n hx hb dX1_answer_46 rfl (lv_at hl 0 rfl) ?_
        refine va_get (D := D) (ci := 2) (v := .int (C 65 q)) (C := RX1) (T := TX1) (N := 6) hx hb hts inX1 hown hK (hW.p (e := (ePl ad C q)) (Wd_Pl hq)) 0 rfl rfl 5 (by decide) (hts (.fieldLink RX1 15 "StoryToll$Plot" "holder" "I") (List.mem_of_getElem? (i := 2) rfl)) (fun _ h9 => h9) rfl dX1_answer_47 ?_
        exact g_iret hx hb hr hlk hh hS (show (C 65 q) = f_X1_answer C q w from by rw [f_X1_answer, if_neg c_f_0, if_neg c_f_1, if_pos c_f_4]) dX1_answer_50
      · refine lv_tableOut (tgt := 51) hx hb dX1_answer_1 (by have e0 := g_ti c_f_0 (k := 0) rfl; have e1 := g_ti c_f_1 (k := 1) rfl; have e2 := g_ti c_f_4 (k := 2) rfl; omega) (by decide) ?_
        refine lv_aload_n hx hb dX1_answer_51 rfl (lv_at hl 0 rfl) ?_
        refine va_get (D := D) (ci := 2) (v := .int (C 61 q)) (C := RX1) (T := TX1) (N := 6) hx hb hts inX1 hown hK (hW.p (e := (ePl ad C q)) (Wd_Pl hq)) 0 rfl rfl 1 (by decide) (hts (.fieldLink RX1 31 "StoryToll$Plot" "wonder" "I") (List.mem_of_getElem? (i := 3) rfl)) (fun _ h9 => h9) rfl dX1_answer_52 ?_
        exact g_iret hx hb hr hlk hh hS (show (C 61 q) = f_X1_answer C q w from by rw [f_X1_answer, if_neg c_f_0, if_neg c_f_1, if_neg c_f_4]) dX1_answer_55
def L_X1_ad1 (C : gT) (q : Nat) (j : Nat) (acc : Int64) : Int64 := ((acc * 31) + (f_X1_numberAt C q (nI j)).toInt64)
def L_X1_ad0 (C : gT) (q : Nat) (j : Nat) (acc : Int64) : Int64 := ((acc * 31) + (f_X1_answer C q (nI j)).toInt64)
def f_X1_addedTo (C : gT) (q : Nat) (d : Int64) : Int64 := (gIt (L_X1_ad1 C q) (gIt (L_X1_ad0 C q) d 4) (szC C q))
set_option maxHeartbeats 4000000 in
set_option maxRecDepth 100000 in
theorem c_X1_addedTo (l : Launch) (D : va_G) (G : gG) (A : Nat → Prop) (ad : gAd) (N : gN) (C M : gT) (o : Nat → Int64) (Hp : Heap) (hW : gW D A ad (Wd G ad N C M o) Hp) (hC : IC N C) (q : Nat) (hq : q < N 3) (d : Int64) : Met l yX1_addedTo wsX1_addedTo ({ frames := 2, cells := 0, slots := 0, locals := 41 }) (va_Pc [.ref (ad 6 q), .long d] (gQ D (gTs G) Hp)) (gRl (fun r => r = f_X1_addedTo C q d) Hp) 0 0 gF := by
  refine g_start (cc := cX1_addedTo) (maxL := 6) (ret := (some .long)) (by decide) rfl (Nat.le_of_ble_eq_true rfl) (fun p e s m below meth c ls C0 hr hlk hnm hh hK hl => ?_)
  obtain ⟨hx, hb, hml, hown, hts⟩ := id C0
  have hown : s.vm.findClass RX1 = some m.cls := hown
  have hS : va_S gF Hp Hp [] := va_S.rf
  have hl : lv_has ls 6 [(0, .ref (ad 6 q)), (1, .long d)] := hl
  have inX1 : ∀ w ∈ wsX10, w ∈ wsX1_addedTo := by decide +kernel
  obtain ⟨⟨hc0, hc1, hc2, hc3⟩, hNN, hCp⟩ := id hC
  obtain ⟨hla, hlen, hlen8⟩ := hCp q hq
  refine lv_lload_n hx hb dX1_addedTo_0 rfl (lv_at hl 1 rfl) ?_
  refine lv_lstore_n (lv' := [(3, .long d), (0, .ref (ad 6 q)), (1, .long d)]) hx hb dX1_addedTo_1 rfl hl (by decide) rfl (fun ls hl => ?_)
  refine lv_iconst (v := 0) hx hb dX1_addedTo_2 (by decide) ?_
  refine lv_istore (lv' := [(5, .int 0), (3, .long d), (0, .ref (ad 6 q)), (1, .long d)]) hx hb dX1_addedTo_3 hl (by decide) rfl (fun ls hl => ?_)
  refine g_loop (4) (fun j ls => lv_has ls 6 [(5, .int (nI j)), (3, .long (gIt (L_X1_ad0 C q) d j)), (0, .ref (ad 6 q)), (1, .long d)]) (lv_sub hl [0, 1, 2, 3] rfl) hS (fun ls locs hl hS => ?_) (fun j ls locs hj hl hS ih => ?_)
  · have hl : lv_has ls 6 [(5, .int (nI 4)), (3, .long (gIt (L_X1_ad0 C q) d 4)), (0, .ref (ad 6 q)), (1, .long d)] := hl
    refine lv_iload hx hb dX1_addedTo_5 (lv_at hl 0 rfl) ?_
    refine lv_iconst (v := 3) hx hb dX1_addedTo_7 (by decide) ?_
    refine lv_icmp_gt (tgt := 31) hx hb dX1_addedTo_8 (by decide) (fun c_8_0 => ?_) (fun c_8_0 => ?_)
    · refine lv_iconst (v := 0) hx hb dX1_addedTo_31 (by decide) ?_
      refine lv_istore (lv' := [(5, .int 0), (3, .long (gIt (L_X1_ad0 C q) d 4)), (0, .ref (ad 6 q)), (1, .long d)]) hx hb dX1_addedTo_32 hl (by decide) rfl (fun ls hl => ?_)
      refine g_loop (szC C q) (fun j ls => lv_has ls 6 [(5, .int (nI j)), (3, .long (gIt (L_X1_ad1 C q) (gIt (L_X1_ad0 C q) d 4) j)), (0, .ref (ad 6 q)), (1, .long d)]) (lv_sub hl [0, 1, 2, 3] rfl) hS (fun ls locs hl hS => ?_) (fun j ls locs hj hl hS ih => ?_)
      · have hl : lv_has ls 6 [(5, .int (nI (szC C q))), (3, .long (gIt (L_X1_ad1 C q) (gIt (L_X1_ad0 C q) d 4) (szC C q))), (0, .ref (ad 6 q)), (1, .long d)] := hl
        refine lv_iload hx hb dX1_addedTo_34 (lv_at hl 0 rfl) ?_
        refine lv_aload_n hx hb dX1_addedTo_36 rfl (lv_at hl 2 rfl) ?_
        refine va_get (D := D) (ci := 2) (v := .int (C 62 q)) (C := RX1) (T := TX1) (N := 6) hx hb hts inX1 hown hK (hW.p (e := (ePl ad C q)) (Wd_Pl hq)) 0 rfl rfl 2 (by decide) (hts (.fieldLink RX1 23 "StoryToll$Plot" "length" "I") (List.mem_of_getElem? (i := 2) rfl)) (fun _ h9 => h9) rfl dX1_addedTo_37 ?_
        refine lv_icmp_ge (tgt := 63) hx hb dX1_addedTo_40 (by decide) (fun c_40_1 => ?_) (fun c_40_1 => ?_)
        · refine lv_lload_n hx hb dX1_addedTo_63 rfl (lv_at hl 1 rfl) ?_
          exact g_lret hx hb hr hlk hh hS (show (gIt (L_X1_ad1 C q) (gIt (L_X1_ad0 C q) d 4) (szC C q)) = f_X1_addedTo C q d from by rw [f_X1_addedTo]) dX1_addedTo_64
        · exact absurd (g_le hlen (by omega)) c_40_1
      · have hl : lv_has ls 6 [(5, .int (nI j)), (3, .long (gIt (L_X1_ad1 C q) (gIt (L_X1_ad0 C q) d 4) j)), (0, .ref (ad 6 q)), (1, .long d)] := hl
        refine lv_iload hx hb dX1_addedTo_34 (lv_at hl 0 rfl) ?_
        refine lv_aload_n hx hb dX1_addedTo_36 rfl (lv_at hl 2 rfl) ?_
        refine va_get (D := D) (ci := 2) (v := .int (C 62 q)) (C := RX1) (T := TX1) (N := 6) hx hb hts inX1 hown hK (hW.p (e := (ePl ad C q)) (Wd_Pl hq)) 0 rfl rfl 2 (by decide) (hts (.fieldLink RX1 23 "StoryToll$Plot" "length" "I") (List.mem_of_getElem? (i := 2) rfl)) (fun _ h9 => h9) rfl dX1_addedTo_37 ?_
        refine lv_icmp_ge (tgt := 63) hx hb dX1_addedTo_40 (by decide) (fun c_40_2 => ?_) (fun c_40_2 => ?_)
        · exact absurd c_40_2 (g_ge hlen (by omega) hj)
        · refine lv_lload_n hx hb dX1_addedTo_43 rfl (lv_at hl 1 rfl) ?_
          refine lv_ldc2 (v := 31) hx hb hown (hts (.constantLong RX1 57 (31)) (List.mem_of_getElem? (i := 1) rfl)) dX1_addedTo_44 ?_
          refine lv_lmul hx hb dX1_addedTo_47 ?_
          refine lv_aload_n hx hb dX1_addedTo_48 rfl (lv_at hl 2 rfl) ?_
          refine lv_iload hx hb dX1_addedTo_49 (lv_at hl 0 rfl) ?_
          refine g_Vi (As := [.int (nI j)]) (rest := [.long ((gIt (L_X1_ad1 C q) (gIt (L_X1_ad0 C q) d 4) j) * 31)]) C0 (c_X1_numberAt l D G A ad N C M o Hp hW q hq (nI j)) (cwV 1 hts gX1_addedTo_X1_numberAt rfl rfl rfl (by decide +kernel) ⟨Nat.le_of_ble_eq_true rfl, Nat.le_of_ble_eq_true rfl⟩) hK (va_recv hK (hW.p (Wd_Pl hq)) (ci := 2) (q0 := 0) rfl rfl) rfl hl rfl (Nat.le_of_ble_eq_true rfl) dX1_addedTo_51 ⟨Nat.zero_le _, Nat.zero_le _⟩ hS (fun r_4 locs hr_4 hS => ?_)
          replace hr_4 : r_4 = (f_X1_numberAt C q (nI j)) := hr_4
          subst r_4
          refine lv_i2l (v := (f_X1_numberAt C q (nI j)).toInt64) hx hb dX1_addedTo_54 rfl ?_
          refine lv_ladd hx hb dX1_addedTo_55 ?_
          refine lv_lstore_n (lv' := [(3, .long (((gIt (L_X1_ad1 C q) (gIt (L_X1_ad0 C q) d 4) j) * 31) + (f_X1_numberAt C q (nI j)).toInt64)), (5, .int (nI j)), (0, .ref (ad 6 q)), (1, .long d)]) hx hb dX1_addedTo_56 rfl hl (by decide) rfl (fun ls hl => ?_)
          refine lv_iinc (v := (nI (j + 1))) (lv' := [(5, .int (nI (j + 1))), (3, .long (((gIt (L_X1_ad1 C q) (gIt (L_X1_ad0 C q) d 4) j) * 31) + (f_X1_numberAt C q (nI j)).toInt64)), (0, .ref (ad 6 q)), (1, .long d)]) hx hb dX1_addedTo_57 hl (k := 1) rfl (nI_1 _) (by decide) rfl (fun ls hl => ?_)
          refine lv_goto (tgt := 34) hx hb dX1_addedTo_60 (by decide) ?_
          have ea : (((gIt (L_X1_ad1 C q) (gIt (L_X1_ad0 C q) d 4) j) * 31) + (f_X1_numberAt C q (nI j)).toInt64) = (gIt (L_X1_ad1 C q) (gIt (L_X1_ad0 C q) d 4) (j + 1)) := (show (((gIt (L_X1_ad1 C q) (gIt (L_X1_ad0 C q) d 4) j) * 31) + (f_X1_numberAt C q (nI j)).toInt64) = L_X1_ad1 C q j (gIt (L_X1_ad1 C q) (gIt (L_X1_ad0 C q) d 4) j) from by (rw [L_X1_ad1]) <;> rfl)
          have hl2 : lv_has ls 6 [(5, .int (nI (j + 1))), (3, .long (gIt (L_X1_ad1 C q) (gIt (L_X1_ad0 C q) d 4) (j + 1))), (0, .ref (ad 6 q)), (1, .long d)] := by rw [← ea]; exact lv_sub hl [0, 1, 2, 3] rfl
          exact ih ls locs hl2 hS
    · exact absurd (g_gtx (n := 3) rfl (by decide)) c_8_0
  · have hl : lv_has ls 6 [(5, .int (nI j)), (3, .long (gIt (L_X1_ad0 C q) d j)), (0, .ref (ad 6 q)), (1, .long d)] := hl
    refine lv_iload hx hb dX1_addedTo_5 (lv_at hl 0 rfl) ?_
    refine lv_iconst (v := 3) hx hb dX1_addedTo_7 (by decide) ?_
    refine lv_icmp_gt (tgt := 31) hx hb dX1_addedTo_8 (by decide) (fun c_8_4 => ?_) (fun c_8_4 => ?_)
    · exact absurd c_8_4 (g_gtj (n := 3) rfl hj (by decide))
    · refine lv_lload_n hx hb dX1_addedTo_11 rfl (lv_at hl 1 rfl) ?_
      refine lv_ldc2 (v := 31) hx hb hown (hts (.constantLong RX1 57 (31)) (List.mem_of_getElem? (i := 1) rfl)) dX1_addedTo_12 ?_
      refine lv_lmul hx hb dX1_addedTo_15 ?_
      refine lv_aload_n hx hb dX1_addedTo_16 rfl (lv_at hl 2 rfl) ?_
      refine lv_iload hx hb dX1_addedTo_17 (lv_at hl 0 rfl) ?_
      refine g_Vi (As := [.int (nI j)]) (rest := [.long ((gIt (L_X1_ad0 C q) d j) * 31)]) C0 (c_X1_answer l D G A ad N C M o Hp hW hC q hq (nI j)) (cwV 1 hts gX1_addedTo_X1_answer rfl rfl rfl (by decide +kernel) ⟨Nat.le_of_ble_eq_true rfl, Nat.le_of_ble_eq_true rfl⟩) hK (va_recv hK (hW.p (Wd_Pl hq)) (ci := 2) (q0 := 0) rfl rfl) rfl hl rfl (Nat.le_of_ble_eq_true rfl) dX1_addedTo_19 ⟨Nat.zero_le _, Nat.zero_le _⟩ hS (fun r_6 locs hr_6 hS => ?_)
      replace hr_6 : r_6 = (f_X1_answer C q (nI j)) := hr_6
      subst r_6
      refine lv_i2l (v := (f_X1_answer C q (nI j)).toInt64) hx hb dX1_addedTo_22 rfl ?_
      refine lv_ladd hx hb dX1_addedTo_23 ?_
      refine lv_lstore_n (lv' := [(3, .long (((gIt (L_X1_ad0 C q) d j) * 31) + (f_X1_answer C q (nI j)).toInt64)), (5, .int (nI j)), (0, .ref (ad 6 q)), (1, .long d)]) hx hb dX1_addedTo_24 rfl hl (by decide) rfl (fun ls hl => ?_)
      refine lv_iinc (v := (nI (j + 1))) (lv' := [(5, .int (nI (j + 1))), (3, .long (((gIt (L_X1_ad0 C q) d j) * 31) + (f_X1_answer C q (nI j)).toInt64)), (0, .ref (ad 6 q)), (1, .long d)]) hx hb dX1_addedTo_25 hl (k := 1) rfl (nI_1 _) (by decide) rfl (fun ls hl => ?_)
      refine lv_goto (tgt := 5) hx hb dX1_addedTo_28 (by decide) ?_
      have ea : (((gIt (L_X1_ad0 C q) d j) * 31) + (f_X1_answer C q (nI j)).toInt64) = (gIt (L_X1_ad0 C q) d (j + 1)) := (show (((gIt (L_X1_ad0 C q) d j) * 31) + (f_X1_answer C q (nI j)).toInt64) = L_X1_ad0 C q j (gIt (L_X1_ad0 C q) d j) from by (rw [L_X1_ad0]) <;> rfl)
      have hl2 : lv_has ls 6 [(5, .int (nI (j + 1))), (3, .long (gIt (L_X1_ad0 C q) d (j + 1))), (0, .ref (ad 6 q)), (1, .long d)] := by rw [← ea]; exact lv_sub hl [0, 1, 2, 3] rfl
      exact ih ls locs hl2 hS
