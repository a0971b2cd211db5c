/-! THE LISTS GROW: the copy from outside -/
set_option maxHeartbeats 4000000 in
set_option maxRecDepth 100000 in
theorem c_J7_copyOf_1904c (l : Launch) (D : va_G) (G : gG) (A : Nat → Prop) (ad : gAd) (ct : gC) (Hp : Heap) (hW : gW D A ad ct Hp) (hA : ∀ q, Hp.size ≤ q → A q) (mi b0 i0 n0 n1 : Nat) (hne : ¬ (b0 = 10 ∧ i0 = 0)) (f : Nat → Option Nat) (hc0 : ct b0 i0 = some (.inl (G.2.2.1, n0, .inr (.inr (.inr (.inr f)))))) (hn01 : n0 ≤ n1) (hn1 : n1 ≤ 1000) (hel : ∀ (U : State), va_K D vwCl (gTs G) U → gLe mi G.2.2.2 A U → ∀ j : Nat, j < n0 → ∀ y : Nat, f j = some y → va_Any cOb U Hp y) : Met l yJ7_copyOf_1904c wsJ7_copyOf_1904c ({ frames := 2, cells := 1, slots := n1, locals := 90 }) (va_Pc [.ref (ad b0 i0), .int (nI n1)] (gQL D G Hp mi A)) (va_Qr (fun (_ : Unit) => True) (fun _ a t => gW D A (adset ad 10 0 a) (ctset ct 10 0 (some (.inl (G.2.2.1, n1, .inr (.inr (.inr (.inr (va_cpy f (fun _ => none) 0 0 n0)))))))) t.heap) A) 1 n1 A := by
  refine g_startP (cc := cJ7_copyOf_1904c) (maxL := 2) (ret := (some (.array (.object "java/lang/Object")))) (by decide) rfl (Nat.le_of_ble_eq_true rfl) (fun p e s m below meth c ls C0 hr hlk hnm hv hl => ?_)
  obtain ⟨hh, hK, hE⟩ := hv
  obtain ⟨hM, hDc, hAO, -⟩ := id hE
  refine g_heq hh ?_
  obtain ⟨hx, hb, hml, hown, hts⟩ := id C0
  have hown : s.vm.findClass RJ7 = some m.cls := hown
  have hS : va_S A Hp Hp [] := va_S.rf
  have hl : lv_has ls 2 [(0, .ref (ad b0 i0)), (1, .int (nI n1))] := hl
  refine lv_aload_n hx hb dJ7_copyOf_1904c_0 rfl (lv_at hl 0 rfl) ?_
  refine lv_iload_n hx hb dJ7_copyOf_1904c_1 rfl (lv_at hl 1 rfl) ?_
  refine lv_aload_n hx hb dJ7_copyOf_1904c_2 rfl (lv_at hl 0 rfl) ?_
  have hfc : s.vm.findClass "[Ljava/lang/Object;" = some G.2.2.1 := by
    obtain ⟨-, -, -, -, -, h9⟩ := (hK.2 2 _ rfl).2
    exact h9
  refine va_getC hx hb (hml.trans hl.1.symm) hown (hts (.methodLink RJ7 86 ⟨"java/lang/Object", "getClass", "()Ljava/lang/Class;"⟩) (List.mem_of_getElem? (i := 1) rfl)) (va_Dc.use hDc) (hts (.selects "[Ljava/lang/Object;" ⟨"java/lang/Object", "getClass", "()Ljava/lang/Class;"⟩ ⟨"java/lang/Object", "getClass", "()Ljava/lang/Class;"⟩) (List.mem_of_getElem? (i := 2) rfl)) (hts (.instanceMethod ⟨"java/lang/Object", "getClass", "()Ljava/lang/Class;"⟩) (List.mem_of_getElem? (i := 3) rfl)) (hts (.native ⟨"java/lang/Object", "getClass", "()Ljava/lang/Class;"⟩) (List.mem_of_getElem? (i := 4) rfl)) hM ⟨_, (hW.1 b0 i0 _ hc0).1, rfl, hfc⟩ (Nat.le_of_ble_eq_true rfl) (Nat.le_of_ble_eq_true rfl) dJ7_copyOf_1904c_3 ?_
  refine g_LSr (As := [.ref (ad b0 i0), .int (nI n1), .ref mi]) (rest := []) (post := fun (_ : Unit) => True) (B := fun _ a H => gW D A (adset ad 10 0 a) (ctset ct 10 0 (some (.inl (G.2.2.1, n1, .inr (.inr (.inr (.inr (va_cpy f (fun _ => none) 0 0 n0)))))))) H) (mc := 1) (ms := n1) C0 (c_J7_copyOf_6403c l D G A ad ct Hp hW hA mi b0 i0 n0 n1 hne f hc0 hn01 hn1 hel) (va_cwS 3 hts gJ7_copyOf_1904c_J7_copyOf_6403c rfl rfl rfl (by decide +kernel) ⟨Nat.le_of_ble_eq_true rfl, Nat.le_of_ble_eq_true rfl⟩) hK hE hh rfl hl rfl (Nat.le_of_ble_eq_true rfl) dJ7_copyOf_1904c_6 ⟨(by show 0 + 1 ≤ 1; omega), (by show 0 + n1 ≤ n1; omega)⟩ hS (fun u ra H1 locs1 hu hW hz hS => ?_)
  refine W.widen (k := 1) (n := n1) (by omega) (by omega) ?_
  exact g_wrret (u := ()) (post := fun _ => True) (B := fun _ a H => gW D A (adset ad 10 0 a) (ctset ct 10 0 (some (.inl (G.2.2.1, n1, .inr (.inr (.inr (.inr (va_cpy f (fun _ => none) 0 0 n0)))))))) H) hx hb hr (Or.inr ⟨_, rfl⟩) hlk hh hS trivial hW dJ7_copyOf_1904c_9
