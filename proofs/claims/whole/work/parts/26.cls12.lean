/-! THE LISTS GROW: a wider array -/
set_option maxHeartbeats 4000000 in
set_option maxRecDepth 100000 in
theorem c_grow_F (l : Launch) (D : va_G) (G : gG) (A : Nat → Prop) (ad : gAd) (ct : gC) (Hp : Heap) (hW : gW D A ad ct Hp) (hA : ∀ q, Hp.size ≤ q → A q) (mi j n n1 : Nat) (md : Int32) (f : Nat → Option Nat) (hc1 : ct 1 j = some (.inr (0, [.int md, .ref (ad 2 j), .int (nI n)]))) (hc2 : ct 2 j = some (.inl (G.2.2.1, n, .inr (.inr (.inr (.inr f)))))) (hn0 : 0 < n) (hn01 : n ≤ n1) (hn1 : n1 ≤ 1000) (hnl : nI n + (if (nI (n + 1) - nI n) < (nI n >>> ((1 : Int32) &&& 31)) then (nI n >>> ((1 : Int32) &&& 31)) else (nI (n + 1) - nI n)) = nI n1) (hel : ∀ (U : State), va_K D vwCl (gTs G) U → gLe mi G.2.2.2 A U → ∀ j : Nat, j < n → ∀ y : Nat, f j = some y → va_Any cOb U Hp y) : Met l yJx4a65c_grow_92f84 wsJx4a65c_grow_92f84 ({ frames := 3, cells := 1, slots := n1, locals := 130 }) (va_Pc [.ref (ad 1 j), .int (nI (n + 1))] (gQL D G Hp mi A)) (va_Qr (fun (_ : Unit) => True) (fun _ ra t => gW D A (adset ad 10 0 ra) (ctset (ctset ct 10 0 (some (.inl (G.2.2.1, n1, .inr (.inr (.inr (.inr (va_cpy f (fun _ => none) 0 0 n)))))))) 1 j (some (.inr (0, [.int md, .ref ra, .int (nI n)])))) t.heap) A) 1 n1 A := by
  refine g_startP (cc := cJx4a65c_grow_92f84) (maxL := 4) (ret := (some (.array (.object "java/lang/Object")))) (by decide) rfl (Nat.le_of_ble_eq_true rfl) (fun p e s m below meth c ls C0 hr hlk hnm hv hl => ?_)
  obtain ⟨hh, hK, hE⟩ := hv
  refine g_heq hh ?_
  obtain ⟨hx, hb, hml, hown, hts⟩ := id C0
  have hown : s.vm.findClass RJx4a65c = some m.cls := hown
  have hS : va_S A Hp Hp [] := va_S.rf
  have hl : lv_has ls 4 [(0, .ref (ad 1 j)), (1, .int (nI (n + 1)))] := hl
  have inJx4a65c : ∀ w ∈ wsJx4a65c0, w ∈ wsJx4a65c_grow_92f84 := by decide +kernel
  refine lv_aload_n hx hb dJx4a65c_grow_92f84_0 rfl (lv_at hl 0 rfl) ?_
  refine va_get (D := D) (ci := 0) (v := .ref (ad 2 j)) (C := RJx4a65c) (T := TJx4a65c) (N := 3) hx hb hts inJx4a65c hown hK (hW.p hc1) 0 rfl rfl 1 (by decide) (hts (.fieldLink RJx4a65c 9 "java/util/ArrayList" "elementData" "[Ljava/lang/Object;") (List.mem_of_getElem? (i := 1) rfl)) (fun _ h9 => h9) rfl dJx4a65c_grow_92f84_1 ?_
  refine va_alen hx hb hK (hW.p hc2) 0 2 (x := (n, .inr (.inr (.inr (.inr f))))) rfl rfl (v := nI n) rfl dJx4a65c_grow_92f84_4 ?_
  refine lv_istore_n (lv' := [(2, .int (nI n)), (0, .ref (ad 1 j)), (1, .int (nI (n + 1)))]) hx hb dJx4a65c_grow_92f84_5 rfl hl (by decide) rfl (fun ls hl => ?_)
  refine lv_iload_n hx hb dJx4a65c_grow_92f84_6 rfl (lv_at hl 0 rfl) ?_
  refine lv_if_gt (tgt := 20) hx hb dJx4a65c_grow_92f84_7 (by decide) (fun _ => ?_) (fun c => absurd (Int32.not_le.mp (nI_nle (by omega) (by omega))) c)
  refine lv_iload_n hx hb dJx4a65c_grow_92f84_20 rfl (lv_at hl 0 rfl) ?_
  refine lv_iload_n hx hb dJx4a65c_grow_92f84_21 rfl (lv_at hl 2 rfl) ?_
  refine lv_iload_n hx hb dJx4a65c_grow_92f84_22 rfl (lv_at hl 0 rfl) ?_
  refine lv_isub hx hb dJx4a65c_grow_92f84_23 ?_
  refine lv_iload_n hx hb dJx4a65c_grow_92f84_24 rfl (lv_at hl 0 rfl) ?_
  refine lv_iconst (v := 1) hx hb dJx4a65c_grow_92f84_25 (by decide) ?_
  refine lv_ishr hx hb dJx4a65c_grow_92f84_26 ?_
  refine g_Si (As := [.int (nI n), .int (nI (n + 1) - nI n), .int (nI n >>> ((1 : Int32) &&& 31))]) (rest := []) C0 (c_J8_newLength_cabcc l D G Hp (nI n) (nI (n + 1) - nI n) (nI n >>> ((1 : Int32) &&& 31)) (by rw [hnl]; exact nI_nle (by omega) (by omega)) (by rw [hnl]; exact nI_nlt (a := 2147483639) (by omega) (by decide))) (va_cwS 3 hts gJx4a65c_grow_92f84_J8_newLength_cabcc rfl rfl rfl (by decide +kernel) ⟨Nat.le_of_ble_eq_true rfl, Nat.le_of_ble_eq_true rfl⟩) hK rfl hl rfl (Nat.le_of_ble_eq_true rfl) dJx4a65c_grow_92f84_27 ⟨Nat.zero_le _, Nat.zero_le _⟩ hS (fun r9 locs hr9 hS => ?_)
  replace hr9 : r9 = nI n1 := hr9.trans hnl
  subst r9
  refine lv_istore_n (lv' := [(3, .int (nI n1)), (2, .int (nI n)), (0, .ref (ad 1 j)), (1, .int (nI (n + 1)))]) hx hb dJx4a65c_grow_92f84_30 rfl hl (by decide) rfl (fun ls hl => ?_)
  refine lv_aload_n hx hb dJx4a65c_grow_92f84_31 rfl (lv_at hl 2 rfl) ?_
  refine lv_aload_n hx hb dJx4a65c_grow_92f84_32 rfl (lv_at hl 2 rfl) ?_
  refine va_get (D := D) (ci := 0) (v := .ref (ad 2 j)) (C := RJx4a65c) (T := TJx4a65c) (N := 3) hx hb hts inJx4a65c hown hK (hW.p hc1) 0 rfl rfl 1 (by decide) (hts (.fieldLink RJx4a65c 9 "java/util/ArrayList" "elementData" "[Ljava/lang/Object;") (List.mem_of_getElem? (i := 1) rfl)) (fun _ h9 => h9) rfl dJx4a65c_grow_92f84_33 ?_
  refine lv_iload_n hx hb dJx4a65c_grow_92f84_36 rfl (lv_at hl 0 rfl) ?_
  refine g_LSr (As := [.ref (ad 2 j), .int (nI n1)]) (rest := [.ref (ad 1 j)]) (post := fun (_ : Unit) => True) (B := fun _ ra H => gW D A (adset ad 10 0 ra) (ctset ct 10 0 (some (.inl (G.2.2.1, n1, .inr (.inr (.inr (.inr (va_cpy f (fun _ => none) 0 0 n)))))))) H) (mc := 1) (ms := n1) C0 (c_J7_copyOf_1904c l D G A ad ct Hp hW hA mi 2 j n n1 (fun z => absurd z.1 (by decide)) f hc2 hn01 hn1 hel) (va_cwS 2 hts gJx4a65c_grow_92f84_J7_copyOf_1904c rfl rfl rfl (by decide +kernel) ⟨Nat.le_of_ble_eq_true rfl, Nat.le_of_ble_eq_true rfl⟩) hK hE hh rfl hl rfl (Nat.le_of_ble_eq_true rfl) dJx4a65c_grow_92f84_37 ⟨(by show 0 + 1 ≤ 1; omega), (by show 0 + n1 ≤ n1; omega)⟩ hS (fun u ra H1 locs1 hu hW hz hS => ?_)
  refine lv_dup_x1 hx hb dJx4a65c_grow_92f84_40 rfl rfl ?_
  refine g_adr (ad := (adset ad 10 0 ra)) (b := 1) (i := j) (adset_o (fun z => absurd z.1 (by decide))) ?_
  refine g_put (ad := (adset ad 10 0 ra)) (D := D) (ci := 0) (v := .ref ra) (ty := .array (.object cOb)) (C := RJx4a65c) (T := TJx4a65c) (N := 3) (ct' := (ctset (ctset ct 10 0 (some (.inl (G.2.2.1, n1, .inr (.inr (.inr (.inr (va_cpy f (fun _ => none) 0 0 n)))))))) 1 j (some (.inr (0, [.int md, .ref ra, .int (nI n)]))))) hx hb hts inJx4a65c tyJx4a65c tyJx4a65c_ok nmJx4a65c hown hK hW hS (fs := [.int md, .ref (ad 2 j), .int (nI n)]) ((ctset_o (fun z => absurd z.1 (by decide))).trans hc1) rfl 1 (by decide) (hts (.fieldLink RJx4a65c 9 "java/util/ArrayList" "elementData" "[Ljava/lang/Object;") (List.mem_of_getElem? (i := 1) rfl)) (fun _ h9 => h9) rfl (by decide +kernel) rfl rfl (Nat.le_of_ble_eq_true rfl) dJx4a65c_grow_92f84_41 ctset_s (fun b' i' h9 => ctset_o h9) (fun H locs hW hS => ?_)
  refine W.widen (k := 1) (n := n1) (by omega) (by omega) ?_
  exact g_wrret (u := ()) (post := fun _ => True) (B := fun _ ra H => gW D A (adset ad 10 0 ra) (ctset (ctset ct 10 0 (some (.inl (G.2.2.1, n1, .inr (.inr (.inr (.inr (va_cpy f (fun _ => none) 0 0 n)))))))) 1 j (some (.inr (0, [.int md, .ref ra, .int (nI n)])))) H) hx hb hr (Or.inr ⟨_, rfl⟩) hlk hh hS trivial hW dJx4a65c_grow_92f84_44
