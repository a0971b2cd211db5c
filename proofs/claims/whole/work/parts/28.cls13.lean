/-! THE LISTS GROW: by one -/
set_option maxHeartbeats 4000000 in
set_option maxRecDepth 100000 in
theorem c_growOne_E (l : Launch) (D : va_G) (G : gG) (A : Nat → Prop) (ad : gAd) (ct : gC) (Hp : Heap) (hW : gW D A ad ct Hp) (hA : ∀ q, Hp.size ≤ q → A q) (mi j : Nat) (md : Int32) (hc1 : ct 1 j = some (.inr (0, [.int md, .ref G.2.2.2, .int 0]))) : Met l yJx4a65c_grow_d5877 wsJx4a65c_grow_d5877 ({ frames := 4, cells := 1, slots := 10, locals := 160 }) (va_Pc [.ref (ad 1 j)] (gQL D G Hp mi A)) (va_Qr (fun (_ : Unit) => True) (fun _ ra t => gW D A (adset ad 2 j ra) (ctset (ctset ct 2 j (some (.inl (G.2.2.1, 10, .inr (.inr (.inr (.inr (fun _ => none)))))))) 1 j (some (.inr (0, [.int md, .ref ra, .int 0])))) t.heap) A) 1 10 A := by
  refine g_startP (cc := cJx4a65c_grow_d5877) (maxL := 1) (ret := (some (.array (.object "java/lang/Object")))) (by decide) rfl (Nat.le_of_ble_eq_true rfl) (fun p e s m below meth c ls C0 hr hlk hnm hv hl => ?_)
  obtain ⟨hh, hK, hE⟩ := hv
  refine g_heq hh ?_
  obtain ⟨hx, hb, hml, hown, hts⟩ := id C0
  have hown : s.vm.findClass RJx4a65c = some m.cls := hown
  have hS : va_S A Hp Hp [] := va_S.rf
  have hl : lv_has ls 1 [(0, .ref (ad 1 j))] := hl
  have inJx4a65c : ∀ w ∈ wsJx4a65c0, w ∈ wsJx4a65c_grow_d5877 := by decide +kernel
  refine lv_aload_n hx hb dJx4a65c_grow_d5877_0 rfl (lv_at hl 0 rfl) ?_
  refine lv_aload_n hx hb dJx4a65c_grow_d5877_1 rfl (lv_at hl 0 rfl) ?_
  refine va_get (D := D) (ci := 0) (v := .int 0) (C := RJx4a65c) (T := TJx4a65c) (N := 3) hx hb hts inJx4a65c hown hK (hW.p hc1) 0 rfl rfl 2 (by decide) (hts (.fieldLink RJx4a65c 48 "java/util/ArrayList" "size" "I") (List.mem_of_getElem? (i := 1) rfl)) (fun _ h9 => h9) rfl dJx4a65c_grow_d5877_2 ?_
  refine lv_iconst (v := 1) hx hb dJx4a65c_grow_d5877_5 (by decide) ?_
  refine lv_iadd hx hb dJx4a65c_grow_d5877_6 ?_
  rw [show (0 : Int32) + 1 = 1 from rfl]
  refine g_LVr (As := [.int 1]) (rest := []) (post := fun (_ : Unit) => True) (B := fun _ ra H => gW D A (adset ad 2 j ra) (ctset (ctset ct 2 j (some (.inl (G.2.2.1, 10, .inr (.inr (.inr (.inr (fun _ => none)))))))) 1 j (some (.inr (0, [.int md, .ref ra, .int 0])))) H) (mc := 1) (ms := 10) C0 (c_grow_E l D G A ad ct Hp hW hA mi j md hc1) (cwV 1 hts gJx4a65c_grow_d5877_Jx4a65c_grow_92f84 rfl rfl rfl (by decide +kernel) ⟨Nat.le_of_ble_eq_true rfl, Nat.le_of_ble_eq_true rfl⟩) hK hE hh (va_recv hK (hW.p hc1) (ci := 0) (q0 := 0) rfl rfl) rfl hl rfl (Nat.le_of_ble_eq_true rfl) dJx4a65c_grow_d5877_7 ⟨Nat.le_of_ble_eq_true rfl, Nat.le_of_ble_eq_true rfl⟩ hS (fun u ra H1 locs1 hu hW hz hS => ?_)
  refine W.widen (k := 1) (n := 10) (by omega) (by omega) ?_
  exact g_wrret (u := ()) (post := fun _ => True) (B := fun _ ra H => gW D A (adset ad 2 j ra) (ctset (ctset ct 2 j (some (.inl (G.2.2.1, 10, .inr (.inr (.inr (.inr (fun _ => none)))))))) 1 j (some (.inr (0, [.int md, .ref ra, .int 0])))) H) hx hb hr (Or.inr ⟨_, rfl⟩) hlk hh hS trivial hW dJx4a65c_grow_d5877_10
set_option maxHeartbeats 4000000 in
set_option maxRecDepth 100000 in
theorem c_growOne_F (l : Launch) (D : va_G) (G : gG) (A : Nat → Prop) (ad : gAd) (ct : gC) (Hp : Heap) (hW : gW D A ad ct Hp) (hA : ∀ q, Hp.size ≤ q → A q) (mi j : Nat) (n n1 : Nat) (md : Int32) (f : Nat → Option Nat) (hc1 : ct 1 j = some (.inr (0, [.int md, .ref (ad 2 j), .int (nI n)]))) (hc2 : ct 2 j = some (.inl (G.2.2.1, n, .inr (.inr (.inr (.inr f)))))) (hn0 : 0 < n) (hn01 : n ≤ n1) (hn1 : n1 ≤ 1000) (hnl : nI n + (if (nI (n + 1) - nI n) < (nI n >>> ((1 : Int32) &&& 31)) then (nI n >>> ((1 : Int32) &&& 31)) else (nI (n + 1) - nI n)) = nI n1) (hel : ∀ (U : State), va_K D vwCl (gTs G) U → gLe mi G.2.2.2 A U → ∀ j : Nat, j < n → ∀ y : Nat, f j = some y → va_Any cOb U Hp y) : Met l yJx4a65c_grow_d5877 wsJx4a65c_grow_d5877 ({ frames := 4, cells := 1, slots := n1, locals := 160 }) (va_Pc [.ref (ad 1 j)] (gQL D G Hp mi A)) (va_Qr (fun (_ : Unit) => True) (fun _ ra t => gW D A (adset ad 10 0 ra) (ctset (ctset ct 10 0 (some (.inl (G.2.2.1, n1, .inr (.inr (.inr (.inr (va_cpy f (fun _ => none) 0 0 n)))))))) 1 j (some (.inr (0, [.int md, .ref ra, .int (nI n)])))) t.heap) A) 1 n1 A := by
  refine g_startP (cc := cJx4a65c_grow_d5877) (maxL := 1) (ret := (some (.array (.object "java/lang/Object")))) (by decide) rfl (Nat.le_of_ble_eq_true rfl) (fun p e s m below meth c ls C0 hr hlk hnm hv hl => ?_)
  obtain ⟨hh, hK, hE⟩ := hv
  refine g_heq hh ?_
  obtain ⟨hx, hb, hml, hown, hts⟩ := id C0
  have hown : s.vm.findClass RJx4a65c = some m.cls := hown
  have hS : va_S A Hp Hp [] := va_S.rf
  have hl : lv_has ls 1 [(0, .ref (ad 1 j))] := hl
  have inJx4a65c : ∀ w ∈ wsJx4a65c0, w ∈ wsJx4a65c_grow_d5877 := by decide +kernel
  refine lv_aload_n hx hb dJx4a65c_grow_d5877_0 rfl (lv_at hl 0 rfl) ?_
  refine lv_aload_n hx hb dJx4a65c_grow_d5877_1 rfl (lv_at hl 0 rfl) ?_
  refine va_get (D := D) (ci := 0) (v := .int (nI n)) (C := RJx4a65c) (T := TJx4a65c) (N := 3) hx hb hts inJx4a65c hown hK (hW.p hc1) 0 rfl rfl 2 (by decide) (hts (.fieldLink RJx4a65c 48 "java/util/ArrayList" "size" "I") (List.mem_of_getElem? (i := 1) rfl)) (fun _ h9 => h9) rfl dJx4a65c_grow_d5877_2 ?_
  refine lv_iconst (v := 1) hx hb dJx4a65c_grow_d5877_5 (by decide) ?_
  refine lv_iadd hx hb dJx4a65c_grow_d5877_6 ?_
  rw [show nI n + 1 = nI (n + 1) from (nI_succ n).symm]
  refine g_LVr (As := [.int (nI (n + 1))]) (rest := []) (post := fun (_ : Unit) => True) (B := fun _ ra H => gW D A (adset ad 10 0 ra) (ctset (ctset ct 10 0 (some (.inl (G.2.2.1, n1, .inr (.inr (.inr (.inr (va_cpy f (fun _ => none) 0 0 n)))))))) 1 j (some (.inr (0, [.int md, .ref ra, .int (nI n)])))) H) (mc := 1) (ms := n1) C0 (c_grow_F l D G A ad ct Hp hW hA mi j n n1 md f hc1 hc2 hn0 hn01 hn1 hnl hel) (cwV 1 hts gJx4a65c_grow_d5877_Jx4a65c_grow_92f84 rfl rfl rfl (by decide +kernel) ⟨Nat.le_of_ble_eq_true rfl, Nat.le_of_ble_eq_true rfl⟩) hK hE hh (va_recv hK (hW.p hc1) (ci := 0) (q0 := 0) rfl rfl) rfl hl rfl (Nat.le_of_ble_eq_true rfl) dJx4a65c_grow_d5877_7 ⟨(by show 0 + 1 ≤ 1; omega), (by show 0 + n1 ≤ n1; omega)⟩ hS (fun u ra H1 locs1 hu hW hz hS => ?_)
  refine W.widen (k := 1) (n := n1) (by omega) (by omega) ?_
  exact g_wrret (u := ()) (post := fun _ => True) (B := fun _ ra H => gW D A (adset ad 10 0 ra) (ctset (ctset ct 10 0 (some (.inl (G.2.2.1, n1, .inr (.inr (.inr (.inr (va_cpy f (fun _ => none) 0 0 n)))))))) 1 j (some (.inr (0, [.int md, .ref ra, .int (nI n)])))) H) hx hb hr (Or.inr ⟨_, rfl⟩) hlk hh hS trivial hW dJx4a65c_grow_d5877_10
