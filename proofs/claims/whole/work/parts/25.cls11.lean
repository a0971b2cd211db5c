/-! THE LISTS GROW: the first array -/
set_option maxHeartbeats 4000000 in
set_option maxRecDepth 100000 in
theorem c_grow_E (l : Launch) (D : va_G) (G : gG) (A : Nat → Prop) (ad : gAd) (ct : gC) (Hp : Heap) (hW : gW D A ad ct Hp) (hA : ∀ q, Hp.size ≤ q → A q) (mi j : Nat) (md : Int32) (hc1 : ct 1 j = some (.inr (0, [.int md, .ref G.2.2.2, .int 0]))) : Met l yJx4a65c_grow_92f84 wsJx4a65c_grow_92f84 ({ frames := 1, cells := 1, slots := 10, locals := 60 }) (va_Pc [.ref (ad 1 j), .int 1] (gQL D G Hp mi A)) (va_Qr (fun (_ : Unit) => True) (fun _ q t => gW D A (adset ad 2 j q) (ctset (ctset ct 2 j (some (.inl (G.2.2.1, 10, .inr (.inr (.inr (.inr (fun _ => none)))))))) 1 j (some (.inr (0, [.int md, .ref q, .int 0])))) t.heap) A) 1 10 A := by
  refine g_startP (cc := cJx4a65c_grow_92f84) (maxL := 4) (ret := (some (.array (.object "java/lang/Object")))) (by decide) rfl (Nat.le_of_ble_eq_true rfl) (fun p e s m below meth c ls C0 hr hlk hnm hv hl => ?_)
  obtain ⟨hh, hK, hE⟩ := hv
  obtain ⟨hM, hDc, hAO, hZ, hT, -⟩ := id hE
  refine g_heq hh ?_
  obtain ⟨hx, hb, hml, hown, hts⟩ := id C0
  have hown : s.vm.findClass RJx4a65c = some m.cls := hown
  have hS : va_S A Hp Hp [] := va_S.rf
  have hl : lv_has ls 4 [(0, .ref (ad 1 j)), (1, .int 1)] := hl
  have inJx4a65c : ∀ w ∈ wsJx4a65c0, w ∈ wsJx4a65c_grow_92f84 := by decide +kernel
  refine lv_aload_n hx hb dJx4a65c_grow_92f84_0 rfl (lv_at hl 0 rfl) ?_
  refine va_get (D := D) (ci := 0) (v := .ref G.2.2.2) (C := RJx4a65c) (T := TJx4a65c) (N := 3) hx hb hts inJx4a65c hown hK (hW.p hc1) 0 rfl rfl 1 (by decide) (hts (.fieldLink RJx4a65c 9 "java/util/ArrayList" "elementData" "[Ljava/lang/Object;") (List.mem_of_getElem? (i := 1) rfl)) (fun _ h9 => h9) rfl dJx4a65c_grow_92f84_1 ?_
  refine va_tlen hx hb hT (by rw [hh]; exact hS) (v := 0) rfl dJx4a65c_grow_92f84_4 ?_
  refine lv_istore_n (lv' := [(2, .int 0), (0, .ref (ad 1 j)), (1, .int 1)]) hx hb dJx4a65c_grow_92f84_5 rfl hl (by decide) rfl (fun ls hl => ?_)
  refine lv_iload_n hx hb dJx4a65c_grow_92f84_6 rfl (lv_at hl 0 rfl) ?_
  refine lv_if_gt (tgt := 20) hx hb dJx4a65c_grow_92f84_7 (by decide) (fun c => absurd c (by decide)) (fun _ => ?_)
  refine lv_aload_n hx hb dJx4a65c_grow_92f84_10 rfl (lv_at hl 1 rfl) ?_
  refine va_get (D := D) (ci := 0) (v := .ref G.2.2.2) (C := RJx4a65c) (T := TJx4a65c) (N := 3) hx hb hts inJx4a65c hown hK (hW.p hc1) 0 rfl rfl 1 (by decide) (hts (.fieldLink RJx4a65c 9 "java/util/ArrayList" "elementData" "[Ljava/lang/Object;") (List.mem_of_getElem? (i := 1) rfl)) (fun _ h9 => h9) rfl dJx4a65c_grow_92f84_11 ?_
  refine va_gets hx hb hZ (by rw [hh]; exact hS) hown (hts (.fieldLink RJx4a65c 39 "java/util/ArrayList" "DEFAULTCAPACITY_EMPTY_ELEMENTDATA" "[Ljava/lang/Object;") (List.mem_of_getElem? (i := 2) rfl)) (fun _ h9 => h9) dJx4a65c_grow_92f84_14 ?_
  refine lv_acmp_eq (tgt := 45) (rx := some G.2.2.2) (ry := some G.2.2.2) hx hb dJx4a65c_grow_92f84_17 (by decide) (fun _ => ?_) (fun c => absurd rfl c)
  refine lv_aload_n hx hb dJx4a65c_grow_92f84_45 rfl (lv_at hl 1 rfl) ?_
  refine lv_bipush (v := 10) hx hb dJx4a65c_grow_92f84_46 (by decide) ?_
  refine lv_iload_n hx hb dJx4a65c_grow_92f84_48 rfl (lv_at hl 2 rfl) ?_
  refine va_mmax hx hb (hml.trans hl.1.symm) hown (hts (.methodLink RJx4a65c 79 Lib.Math.max.name) (List.mem_of_getElem? (i := 3) rfl)) (hts (.static Lib.Math.max.name) (List.mem_of_getElem? (i := 4) rfl)) (hts (.initialized "java/lang/Math") (List.mem_of_getElem? (i := 5) rfl)) (hts (.code Lib.Math.max.name Lib.Math.max.code 2 (some .int)) (List.mem_of_getElem? (i := 6) rfl)) (Nat.le_of_ble_eq_true rfl) (Nat.le_of_ble_eq_true rfl) (Nat.le_of_ble_eq_true rfl) (Nat.le_of_ble_eq_true rfl) dJx4a65c_grow_92f84_49 ?_
  rw [show (if (10 : Int32) < 1 then (1 : Int32) else 10) = 10 from rfl]
  refine g_newq (D := D) hx hb hown (hts (.classLink RJx4a65c 7 "java/lang/Object") (List.mem_of_getElem? (i := 7) rfl)) hAO hK hW hS hA 2 rfl (N' := 10) (by decide) rfl (by decide) (Nat.le_of_ble_eq_true rfl) (Nat.le_of_ble_eq_true rfl) dJx4a65c_grow_92f84_52 2 j (fun q H hW hS hq ho9 hz9 => ?_)
  refine lv_dup_x1 hx hb dJx4a65c_grow_92f84_55 rfl rfl ?_
  refine g_adr (ad := (adset ad 2 j q)) (b := 1) (i := j) (adset_o (fun z => absurd z.1 (by decide))) ?_
  refine g_put (ad := (adset ad 2 j q)) (D := D) (ci := 0) (v := .ref q) (ty := .array (.object cOb)) (C := RJx4a65c) (T := TJx4a65c) (N := 3) (ct' := (ctset (ctset ct 2 j (some (.inl (G.2.2.1, 10, .inr (.inr (.inr (.inr (fun _ => none)))))))) 1 j (some (.inr (0, [.int md, .ref q, .int 0]))))) hx hb hts inJx4a65c tyJx4a65c tyJx4a65c_ok nmJx4a65c hown hK hW hS (fs := [.int md, .ref G.2.2.2, .int 0]) ((ctset_o (fun z => absurd z.1 (by decide))).trans hc1) rfl 1 (by decide) (hts (.fieldLink RJx4a65c 9 "java/util/ArrayList" "elementData" "[Ljava/lang/Object;") (List.mem_of_getElem? (i := 1) rfl)) (fun _ h9 => h9) rfl (by decide +kernel) rfl rfl (Nat.le_of_ble_eq_true rfl) dJx4a65c_grow_92f84_56 ctset_s (fun b' i' h9 => ctset_o h9) (fun H locs hW hS => ?_)
  exact g_wrret (u := ()) (post := fun _ => True) (B := fun _ q H => gW D A (adset ad 2 j q) (ctset (ctset ct 2 j (some (.inl (G.2.2.1, 10, .inr (.inr (.inr (.inr (fun _ => none)))))))) 1 j (some (.inr (0, [.int md, .ref q, .int 0])))) H) hx hb hr (Or.inr ⟨_, rfl⟩) hlk hh hS trivial hW dJx4a65c_grow_92f84_59
