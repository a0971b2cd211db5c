/-! A LIST TAKES AN OBJECT: where there is room -/
set_option maxHeartbeats 4000000 in
set_option maxRecDepth 100000 in
theorem c_addTo_R (l : Launch) (D : va_G) (G : gG) (A : Nat → Prop) (ad : gAd) (ct : gC) (Hp : Heap) (hW : gW D A ad ct Hp) (mi j n cap v : Nat) (md : Int32) (f : Nat → Option Nat) (hc1 : ct 1 j = some (.inr (0, [.int md, .ref (ad 2 j), .int (nI n)]))) (hc2 : ct 2 j = some (.inl (G.2.2.1, cap, .inr (.inr (.inr (.inr f)))))) (hlt : n < cap) (hcap : cap ≤ 1000) (hv9 : ∀ (U : State), va_K D vwCl (gTs G) U → gLe mi G.2.2.2 A U → va_Any cOb U Hp v) : Met l yJx4a65c_add_72be8 wsJx4a65c_add_72be8 ({ frames := 5, cells := 0, slots := 0, locals := 190 }) (va_Pc [.ref (ad 1 j), .ref v, .ref (ad 2 j), .int (nI n)] (gQL D G Hp mi A)) (va_Qv (fun (_ : Unit) => True) (fun _ t => gW D A ad (ctset (ctset ct 2 j (some (.inl (G.2.2.1, cap, .inr (.inr (.inr (.inr (va_up f n (some v))))))))) 1 j (some (.inr (0, [.int md, .ref (ad 2 j), .int (nI (n + 1))])))) t.heap) A) 0 0 A := by
  refine g_startP (cc := cJx4a65c_add_72be8) (maxL := 4) (ret := none) (by decide) rfl (Nat.le_of_ble_eq_true rfl) (fun p e s m below meth c ls C0 hr hlk hnm hv hl => ?_)
  obtain ⟨hh, hK, hE⟩ := hv
  refine g_heq hh ?_
  obtain ⟨hx, hb, hml, hown, hts⟩ := id C0
  have hown : s.vm.findClass RJx4a65c = some m.cls := hown
  have hS : va_S A Hp Hp [] := va_S.rf
  have hl : lv_has ls 4 [(0, .ref (ad 1 j)), (1, .ref v), (2, .ref (ad 2 j)), (3, .int (nI n))] := hl
  have inJx4a65c : ∀ w ∈ wsJx4a65c0, w ∈ wsJx4a65c_add_72be8 := by decide +kernel
  refine lv_iload_n hx hb dJx4a65c_add_72be8_0 rfl (lv_at hl 3 rfl) ?_
  refine lv_aload_n hx hb dJx4a65c_add_72be8_1 rfl (lv_at hl 2 rfl) ?_
  refine va_alen hx hb hK (hW.p hc2) 0 2 (x := (cap, .inr (.inr (.inr (.inr f))))) rfl rfl (v := nI cap) rfl dJx4a65c_add_72be8_2 ?_
  refine lv_icmp_ne (tgt := 11) hx hb dJx4a65c_add_72be8_3 (by decide) (fun _ => ?_) (fun c => absurd c (fun z => absurd (nI_lt hlt (by omega)) (by rw [z]; exact nI_nlt (Nat.le_refl _) (by omega))))
  refine lv_aload_n hx hb dJx4a65c_add_72be8_11 rfl (lv_at hl 2 rfl) ?_
  refine lv_iload_n hx hb dJx4a65c_add_72be8_12 rfl (lv_at hl 3 rfl) ?_
  refine lv_aload_n hx hb dJx4a65c_add_72be8_13 rfl (lv_at hl 1 rfl) ?_
  refine g_astq (ct' := (ctset ct 2 j (some (.inl (G.2.2.1, cap, .inr (.inr (.inr (.inr (va_up f n (some v)))))))))) hx hb hK hW hS 2 hc2 rfl (hv9 s hK hE) n rfl hlt (by omega) dJx4a65c_add_72be8_14 ctset_s (fun b' i' h9 => ctset_o h9) (fun H locs hW hS hz => ?_)
  refine lv_aload_n hx hb dJx4a65c_add_72be8_15 rfl (lv_at hl 0 rfl) ?_
  refine lv_iload_n hx hb dJx4a65c_add_72be8_16 rfl (lv_at hl 3 rfl) ?_
  refine lv_iconst (v := 1) hx hb dJx4a65c_add_72be8_17 (by decide) ?_
  refine lv_iadd hx hb dJx4a65c_add_72be8_18 ?_
  rw [show nI n + 1 = nI (n + 1) from (nI_succ n).symm]
  refine g_put (D := D) (ci := 0) (v := .int (nI (n + 1))) (ty := .int) (C := RJx4a65c) (T := TJx4a65c) (N := 3) (ct' := (ctset (ctset ct 2 j (some (.inl (G.2.2.1, cap, .inr (.inr (.inr (.inr (va_up f n (some v))))))))) 1 j (some (.inr (0, [.int md, .ref (ad 2 j), .int (nI (n + 1))]))))) hx hb hts inJx4a65c tyJx4a65c tyJx4a65c_ok nmJx4a65c hown hK hW hS (fs := [.int md, .ref (ad 2 j), .int (nI n)]) ((ctset_o (fun z => absurd z.1 (by decide))).trans hc1) rfl 2 (by decide) (hts (.fieldLink RJx4a65c 48 "java/util/ArrayList" "size" "I") (List.mem_of_getElem? (i := 1) rfl)) (fun _ h9 => h9) rfl (by decide +kernel) rfl rfl (Nat.le_of_ble_eq_true rfl) dJx4a65c_add_72be8_19 ctset_s (fun b' i' h9 => ctset_o h9) (fun H locs hW hS => ?_)
  exact g_wvret (u := ()) (B := fun _ H => gW D A ad (ctset (ctset ct 2 j (some (.inl (G.2.2.1, cap, .inr (.inr (.inr (.inr (va_up f n (some v))))))))) 1 j (some (.inr (0, [.int md, .ref (ad 2 j), .int (nI (n + 1))])))) H) hx hb hr hlk hh hS trivial hW dJx4a65c_add_72be8_22
