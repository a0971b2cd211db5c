/-! THE LISTS GROW -/
def f_J8_newLength_cabcc (x : Int32) (y : Int32) (z : Int32) : Int32 := (x + (if y < z then z else y))
set_option maxHeartbeats 4000000 in
set_option maxRecDepth 100000 in
theorem c_J8_newLength_cabcc (l : Launch) (D : va_G) (G : gG) (Hp : Heap) (x y z : Int32) (h0 : ¬ (x + (if y < z then z else y)) ≤ 0) (h1 : ¬ 2147483639 < (x + (if y < z then z else y))) : Met l yJ8_newLength_cabcc wsJ8_newLength_cabcc ({ frames := 1, cells := 0, slots := 0, locals := 21 }) (va_Pc [.int x, .int y, .int z] (gQ D (gTs G) Hp)) (gRi (fun r => r = f_J8_newLength_cabcc x y z) Hp) 0 0 gF := by
  refine g_start (cc := cJ8_newLength_cabcc) (maxL := 4) (ret := (some .int)) (by decide) rfl (Nat.le_of_ble_eq_true rfl) (fun p e s m below meth c ls C0 hr hlk hnm hh hK hl => ?_)
  obtain ⟨hx, hb, hml, hown, hts⟩ := id C0
  have hown : s.vm.findClass RJ8 = some m.cls := hown
  have hS : va_S gF Hp Hp [] := va_S.rf
  have hl : lv_has ls 4 [(0, .int x), (1, .int y), (2, .int z)] := hl
  refine lv_iload_n hx hb dJ8_newLength_cabcc_0 rfl (lv_at hl 0 rfl) ?_
  refine lv_iload_n hx hb dJ8_newLength_cabcc_1 rfl (lv_at hl 1 rfl) ?_
  refine lv_iload_n hx hb dJ8_newLength_cabcc_2 rfl (lv_at hl 2 rfl) ?_
  refine va_mmax hx hb (hml.trans hl.1.symm) hown (hts (.methodLink RJ8 194 Lib.Math.max.name) (List.mem_of_getElem? (i := 1) rfl)) (hts (.static Lib.Math.max.name) (List.mem_of_getElem? (i := 2) rfl)) (hts (.initialized "java/lang/Math") (List.mem_of_getElem? (i := 3) rfl)) (hts (.code Lib.Math.max.name Lib.Math.max.code 2 (some .int)) (List.mem_of_getElem? (i := 4) rfl)) (Nat.le_of_ble_eq_true rfl) (Nat.le_of_ble_eq_true rfl) (Nat.le_of_ble_eq_true rfl) (Nat.le_of_ble_eq_true rfl) dJ8_newLength_cabcc_3 ?_
  refine lv_iadd hx hb dJ8_newLength_cabcc_6 ?_
  refine lv_istore_n (lv' := [(3, .int (x + (if y < z then z else y))), (0, .int x), (1, .int y), (2, .int z)]) hx hb dJ8_newLength_cabcc_7 rfl hl (by decide) rfl (fun ls hl => ?_)
  refine lv_iconst (v := 0) hx hb dJ8_newLength_cabcc_8 (by decide) ?_
  refine lv_iload_n hx hb dJ8_newLength_cabcc_9 rfl (lv_at hl 0 rfl) ?_
  refine lv_icmp_ge (tgt := 21) hx hb dJ8_newLength_cabcc_10 (by decide) (fun c_10_0 => ?_) (fun c_10_0 => ?_)
  · exact absurd c_10_0 h0
  · refine lv_iload_n hx hb dJ8_newLength_cabcc_13 rfl (lv_at hl 0 rfl) ?_
    refine lv_ldc (v := 2147483639) hx hb hown (hts (.constant RJ8 200 (2147483639)) (List.mem_of_getElem? (i := 5) rfl)) dJ8_newLength_cabcc_14 ?_
    refine lv_icmp_gt (tgt := 21) hx hb dJ8_newLength_cabcc_16 (by decide) (fun c_16_1 => ?_) (fun c_16_1 => ?_)
    · exact absurd c_16_1 h1
    · refine lv_iload_n hx hb dJ8_newLength_cabcc_19 rfl (lv_at hl 0 rfl) ?_
      exact g_iret hx hb hr hlk hh hS (show (x + (if y < z then z else y)) = f_J8_newLength_cabcc x y z from by rw [f_J8_newLength_cabcc]) dJ8_newLength_cabcc_20
theorem ctset_ss {ct : gC} {b i : Nat} {e e' : Option va_E} : ctset (ctset ct b i e) b i e' = ctset ct b i e' := by
  funext b' i'
  by_cases h : b' = b ∧ i' = i
  · rw [h.1, h.2, ctset_s, ctset_s]
  · rw [ctset_o h, ctset_o h, ctset_o h]
set_option maxHeartbeats 4000000 in
set_option maxRecDepth 100000 in
theorem c_X3_init (l : Launch) (D : va_G) (G : gG) (A : Nat → Prop) (ad : gAd) (ct : gC) (Hp : Heap) (hW : gW D A ad ct Hp) (b i : Nat) (x0 x1 x2 x3 x4 nu kn : Int32) (hc0 : ct b i = some (.inr (4, [.int x0, .int x1, .int x2, .int x3, .int x4]))) : Met l yX3_init wsX3_init ({ frames := 1, cells := 0, slots := 0, locals := 24 }) (va_Pc [.ref (ad b i), .int nu, .int kn] (gQ D (gTs G) Hp)) (va_Qv (fun (_ : Unit) => True) (fun _ t => gW D A ad (ctset ct b i (some (.inr (4, [.int nu, .int kn, .int x2, .int 0, .int x4])))) t.heap) A) 0 0 A := by
  refine g_start (cc := cX3_init) (maxL := 3) (ret := none) (by decide) rfl (Nat.le_of_ble_eq_true rfl) (fun p e s m below meth c ls C0 hr hlk hnm hh hK hl => ?_)
  obtain ⟨hx, hb, hml, hown, hts⟩ := id C0
  have hown : s.vm.findClass RX3 = some m.cls := hown
  have hS : va_S A Hp Hp [] := va_S.rf
  have hl : lv_has ls 3 [(0, .ref (ad b i)), (1, .int nu), (2, .int kn)] := hl
  have inX3 : ∀ w ∈ wsX30, w ∈ wsX3_init := by decide +kernel
  refine lv_aload_n hx hb dX3_init_0 rfl (lv_at hl 0 rfl) ?_
  refine W.objInit hx hb hown (hts (.methodLink RX3 3 objectInit) (List.mem_of_getElem? (i := 1) rfl)) (hts (.instanceMethod objectInit) (List.mem_of_getElem? (i := 2) rfl)) (hts (.code objectInit ⟨#[0xb1]⟩ 1 none) (List.mem_of_getElem? (i := 3) rfl)) rfl (by rw [hml]; exact hl.1) rfl dX3_init_1 (Nat.le_of_ble_eq_true rfl) (Nat.le_of_ble_eq_true rfl) ?_
  refine lv_aload_n hx hb dX3_init_4 rfl (lv_at hl 0 rfl) ?_
  refine lv_iconst (v := 0) hx hb dX3_init_5 (by decide) ?_
  refine g_put (D := D) (ci := 4) (v := .int 0) (ty := .int) (C := RX3) (T := TX3) (N := 5) (ct' := (ctset ct b i (some (.inr (4, [.int x0, .int x1, .int x2, .int 0, .int x4]))))) hx hb hts inX3 tyX3 tyX3_ok nmX3 hown hK hW hS (fs := [.int x0, .int x1, .int x2, .int x3, .int x4]) hc0 rfl 3 (by decide) (hts (.fieldLink RX3 9 "StoryToll$Traveller" "state" "I") (List.mem_of_getElem? (i := 4) rfl)) (fun _ h9 => h9) rfl (by decide +kernel) rfl rfl (Nat.le_of_ble_eq_true rfl) dX3_init_6 ctset_s (fun b' i' h9 => ctset_o h9) (fun H locs hW hS => ?_)
  refine lv_aload_n hx hb dX3_init_9 rfl (lv_at hl 0 rfl) ?_
  refine lv_iload_n hx hb dX3_init_10 rfl (lv_at hl 1 rfl) ?_
  refine g_putF (D := D) (ci := 4) (v := .int nu) (ty := .int) (C := RX3) (T := TX3) (N := 5) (ct' := (ctset ct b i (some (.inr (4, [.int nu, .int x1, .int x2, .int 0, .int x4]))))) hx hb hts inX3 tyX3 tyX3_ok nmX3 hown hK hW hS (fs := [.int x0, .int x1, .int x2, .int 0, .int x4]) ctset_s rfl 0 (by decide) (hts (.fieldLink RX3 15 "StoryToll$Traveller" "number" "I") (List.mem_of_getElem? (i := 5) rfl)) (fun _ h9 => h9) rfl hnm rfl (by decide +kernel) rfl rfl (Nat.le_of_ble_eq_true rfl) dX3_init_11 ctset_s (fun b' i' h9 => (ctset_o h9).trans (ctset_o h9).symm) (fun H locs hW hS => ?_)
  refine lv_aload_n hx hb dX3_init_14 rfl (lv_at hl 0 rfl) ?_
  refine lv_iload_n hx hb dX3_init_15 rfl (lv_at hl 2 rfl) ?_
  refine g_putF (D := D) (ci := 4) (v := .int kn) (ty := .int) (C := RX3) (T := TX3) (N := 5) (ct' := (ctset ct b i (some (.inr (4, [.int nu, .int kn, .int x2, .int 0, .int x4]))))) hx hb hts inX3 tyX3 tyX3_ok nmX3 hown hK hW hS (fs := [.int nu, .int x1, .int x2, .int 0, .int x4]) ctset_s rfl 1 (by decide) (hts (.fieldLink RX3 18 "StoryToll$Traveller" "known" "I") (List.mem_of_getElem? (i := 6) rfl)) (fun _ h9 => h9) rfl hnm rfl (by decide +kernel) rfl rfl (Nat.le_of_ble_eq_true rfl) dX3_init_16 ctset_s (fun b' i' h9 => (ctset_o h9).trans (ctset_o h9).symm) (fun H locs hW hS => ?_)
  exact g_wvret (u := ()) (B := fun _ H => gW D A ad (ctset ct b i (some (.inr (4, [.int nu, .int kn, .int x2, .int 0, .int x4])))) H) hx hb hr hlk hh hS trivial hW dX3_init_19
set_option maxHeartbeats 4000000 in
set_option maxRecDepth 100000 in
theorem c_X2_init (l : Launch) (D : va_G) (G : gG) (A : Nat → Prop) (ad : gAd) (ct : gC) (Hp : Heap) (hW : gW D A ad ct Hp) (b i : Nat) (x0 x1 x2 x3 x4 x5 nu ki wo hu : Int32) (hc0 : ct b i = some (.inr (3, [.int x0, .int x1, .int x2, .int x3, .int x4, .int x5]))) : Met l yX2_init wsX2_init ({ frames := 1, cells := 0, slots := 0, locals := 24 }) (va_Pc [.ref (ad b i), .int nu, .int ki, .int wo, .int hu] (gQ D (gTs G) Hp)) (va_Qv (fun (_ : Unit) => True) (fun _ t => gW D A ad (ctset ct b i (some (.inr (3, [.int nu, .int ki, .int wo, .int hu, .int x4, .int x5])))) t.heap) A) 0 0 A := by
  refine g_start (cc := cX2_init) (maxL := 5) (ret := none) (by decide) rfl (Nat.le_of_ble_eq_true rfl) (fun p e s m below meth c ls C0 hr hlk hnm hh hK hl => ?_)
  obtain ⟨hx, hb, hml, hown, hts⟩ := id C0
  have hown : s.vm.findClass RX2 = some m.cls := hown
  have hS : va_S A Hp Hp [] := va_S.rf
  have hl : lv_has ls 5 [(0, .ref (ad b i)), (1, .int nu), (2, .int ki), (3, .int wo), (4, .int hu)] := hl
  have inX2 : ∀ w ∈ wsX20, w ∈ wsX2_init := by decide +kernel
  refine lv_aload_n hx hb dX2_init_0 rfl (lv_at hl 0 rfl) ?_
  refine W.objInit hx hb hown (hts (.methodLink RX2 1 objectInit) (List.mem_of_getElem? (i := 1) rfl)) (hts (.instanceMethod objectInit) (List.mem_of_getElem? (i := 2) rfl)) (hts (.code objectInit ⟨#[0xb1]⟩ 1 none) (List.mem_of_getElem? (i := 3) rfl)) rfl (by rw [hml]; exact hl.1) rfl dX2_init_1 (Nat.le_of_ble_eq_true rfl) (Nat.le_of_ble_eq_true rfl) ?_
  refine lv_aload_n hx hb dX2_init_4 rfl (lv_at hl 0 rfl) ?_
  refine lv_iload_n hx hb dX2_init_5 rfl (lv_at hl 1 rfl) ?_
  refine g_putF (D := D) (ci := 3) (v := .int nu) (ty := .int) (C := RX2) (T := TX2) (N := 6) (ct' := (ctset ct b i (some (.inr (3, [.int nu, .int x1, .int x2, .int x3, .int x4, .int x5]))))) hx hb hts inX2 tyX2 tyX2_ok nmX2 hown hK hW hS (fs := [.int x0, .int x1, .int x2, .int x3, .int x4, .int x5]) hc0 rfl 0 (by decide) (hts (.fieldLink RX2 7 "StoryToll$Scene" "number" "I") (List.mem_of_getElem? (i := 4) rfl)) (fun _ h9 => h9) rfl hnm rfl (by decide +kernel) rfl rfl (Nat.le_of_ble_eq_true rfl) dX2_init_6 ctset_s (fun b' i' h9 => ctset_o h9) (fun H locs hW hS => ?_)
  refine lv_aload_n hx hb dX2_init_9 rfl (lv_at hl 0 rfl) ?_
  refine lv_iload_n hx hb dX2_init_10 rfl (lv_at hl 2 rfl) ?_
  refine g_putF (D := D) (ci := 3) (v := .int ki) (ty := .int) (C := RX2) (T := TX2) (N := 6) (ct' := (ctset ct b i (some (.inr (3, [.int nu, .int ki, .int x2, .int x3, .int x4, .int x5]))))) hx hb hts inX2 tyX2 tyX2_ok nmX2 hown hK hW hS (fs := [.int nu, .int x1, .int x2, .int x3, .int x4, .int x5]) ctset_s rfl 1 (by decide) (hts (.fieldLink RX2 13 "StoryToll$Scene" "kind" "I") (List.mem_of_getElem? (i := 5) rfl)) (fun _ h9 => h9) rfl hnm rfl (by decide +kernel) rfl rfl (Nat.le_of_ble_eq_true rfl) dX2_init_11 ctset_s (fun b' i' h9 => (ctset_o h9).trans (ctset_o h9).symm) (fun H locs hW hS => ?_)
  refine lv_aload_n hx hb dX2_init_14 rfl (lv_at hl 0 rfl) ?_
  refine lv_iload_n hx hb dX2_init_15 rfl (lv_at hl 3 rfl) ?_
  refine g_putF (D := D) (ci := 3) (v := .int wo) (ty := .int) (C := RX2) (T := TX2) (N := 6) (ct' := (ctset ct b i (some (.inr (3, [.int nu, .int ki, .int wo, .int x3, .int x4, .int x5]))))) hx hb hts inX2 tyX2 tyX2_ok nmX2 hown hK hW hS (fs := [.int nu, .int ki, .int x2, .int x3, .int x4, .int x5]) ctset_s rfl 2 (by decide) (hts (.fieldLink RX2 16 "StoryToll$Scene" "wonder" "I") (List.mem_of_getElem? (i := 6) rfl)) (fun _ h9 => h9) rfl hnm rfl (by decide +kernel) rfl rfl (Nat.le_of_ble_eq_true rfl) dX2_init_16 ctset_s (fun b' i' h9 => (ctset_o h9).trans (ctset_o h9).symm) (fun H locs hW hS => ?_)
  refine lv_aload_n hx hb dX2_init_19 rfl (lv_at hl 0 rfl) ?_
  refine lv_iload hx hb dX2_init_20 (lv_at hl 4 rfl) ?_
  refine g_putF (D := D) (ci := 3) (v := .int hu) (ty := .int) (C := RX2) (T := TX2) (N := 6) (ct' := (ctset ct b i (some (.inr (3, [.int nu, .int ki, .int wo, .int hu, .int x4, .int x5]))))) hx hb hts inX2 tyX2 tyX2_ok nmX2 hown hK hW hS (fs := [.int nu, .int ki, .int wo, .int x3, .int x4, .int x5]) ctset_s rfl 3 (by decide) (hts (.fieldLink RX2 19 "StoryToll$Scene" "hue" "I") (List.mem_of_getElem? (i := 7) rfl)) (fun _ h9 => h9) rfl hnm rfl (by decide +kernel) rfl rfl (Nat.le_of_ble_eq_true rfl) dX2_init_22 ctset_s (fun b' i' h9 => (ctset_o h9).trans (ctset_o h9).symm) (fun H locs hW hS => ?_)
  exact g_wvret (u := ()) (B := fun _ H => gW D A ad (ctset ct b i (some (.inr (3, [.int nu, .int ki, .int wo, .int hu, .int x4, .int x5])))) H) hx hb hr hlk hh hS trivial hW dX2_init_25
section GAdr
variable {p : Program} {l : Launch} {e : Env} {R : Room} {s : State} {m : MethodId} {args : Array Value} {below : List Frame} {meth : Method} {c : Code} {H : Heap} {locs : List Loc} {cells slots : Nat} {Q : State → Prop}
theorem g_adr {pc : Nat} {ls : Array Slot} {rest : List Value} {v : Value} {ad : gAd} {b i a : Nat} (ha : ad b i = a) (k : W p l e R s m args below meth c H locs cells slots Q (F0 m pc ls (v :: .ref (ad b i) :: rest))) : W p l e R s m args below meth c H locs cells slots Q (F0 m pc ls (v :: .ref a :: rest)) := by
  subst ha
  exact k
end GAdr
set_option maxHeartbeats 4000000 in
set_option maxRecDepth 100000 in
theorem c_X0_init (l : Launch) (D : va_G) (G : gG) (A : Nat → Prop) (ad : gAd) (ct : gC) (Hp : Heap) (hW : gW D A ad ct Hp) (hA : ∀ q, Hp.size ≤ q → A q) (b i b2 i2 : Nat) (hne : ¬ (b = b2 ∧ i = i2)) (x1 x2 x3 : Int32) (v0 : Value) (hc0 : ct b i = some (.inr (1, [v0, .int x1, .int x2, .int x3]))) : Met l yX0_init wsX0_init ({ frames := 1, cells := 1, slots := 24, locals := 24 }) (va_Pc [.ref (ad b i)] (gQ D (gTs G) Hp)) (va_Qv (fun (_ : Nat) => True) (fun q t => gW D A (adset ad b2 i2 q) (ctset (ctset ct b2 i2 (some (.inl (G.1, 24, .inl (fun _ => 0))))) b i (some (.inr (1, [.ref q, .int x1, .int 20, .int 1])))) t.heap) A) 1 24 A := by
  refine g_start (cc := cX0_init) (maxL := 1) (ret := none) (by decide) rfl (Nat.le_of_ble_eq_true rfl) (fun p e s m below meth c ls C0 hr hlk hnm hh hK hl => ?_)
  obtain ⟨hx, hb, hml, hown, hts⟩ := id C0
  have hown : s.vm.findClass RX0 = some m.cls := hown
  have hS : va_S A Hp Hp [] := va_S.rf
  have hl : lv_has ls 1 [(0, .ref (ad b i))] := hl
  have inX0 : ∀ w ∈ wsX00, w ∈ wsX0_init := by decide +kernel
  refine lv_aload_n hx hb dX0_init_0 rfl (lv_at hl 0 rfl) ?_
  refine W.objInit hx hb hown (hts (.methodLink RX0 3 objectInit) (List.mem_of_getElem? (i := 1) rfl)) (hts (.instanceMethod objectInit) (List.mem_of_getElem? (i := 2) rfl)) (hts (.code objectInit ⟨#[0xb1]⟩ 1 none) (List.mem_of_getElem? (i := 3) rfl)) rfl (by rw [hml]; exact hl.1) rfl dX0_init_1 (Nat.le_of_ble_eq_true rfl) (Nat.le_of_ble_eq_true rfl) ?_
  refine lv_aload_n hx hb dX0_init_4 rfl (lv_at hl 0 rfl) ?_
  refine lv_bipush (v := 24) hx hb dX0_init_5 (by decide) ?_
  refine g_newa (D := D) hx hb (hts (.arrayClass .int) (List.mem_of_getElem? (i := 4) rfl)) hK hW hS hA 0 rfl (n := 24) (N' := 24) (by decide) (by decide) (by decide) (Nat.le_of_ble_eq_true rfl) (Nat.le_of_ble_eq_true rfl) dX0_init_7 b2 i2 (fun q H hW hS hq => ?_)
  refine g_adr (ad := (adset ad b2 i2 q)) (b := b) (i := i) (adset_o hne) ?_
  refine g_putF (ad := (adset ad b2 i2 q)) (D := D) (ci := 1) (v := .ref q) (ty := (.array .int)) (C := RX0) (T := TX0) (N := 4) (ct' := (ctset (ctset ct b2 i2 (some (.inl (G.1, 24, .inl (fun _ => 0))))) b i (some (.inr (1, [.ref q, .int x1, .int x2, .int x3]))))) hx hb hts inX0 tyX0 tyX0_ok nmX0 hown hK hW hS (fs := [v0, .int x1, .int x2, .int x3]) ((ctset_o hne).trans hc0) rfl 0 (by decide) (hts (.fieldLink RX0 9 "StoryToll$Guard" "heard" "[I") (List.mem_of_getElem? (i := 5) rfl)) (fun _ h9 => h9) rfl hnm rfl (by decide +kernel) rfl rfl (Nat.le_of_ble_eq_true rfl) dX0_init_9 ctset_s (fun b' i' h9 => ctset_o h9) (fun H locs hW hS => ?_)
  refine lv_aload_n hx hb dX0_init_12 rfl (lv_at hl 0 rfl) ?_
  refine lv_bipush (v := 20) hx hb dX0_init_13 (by decide) ?_
  refine g_adr (ad := (adset ad b2 i2 q)) (b := b) (i := i) (adset_o hne) ?_
  refine g_put (ad := (adset ad b2 i2 q)) (D := D) (ci := 1) (v := .int 20) (ty := .int) (C := RX0) (T := TX0) (N := 4) (ct' := (ctset (ctset ct b2 i2 (some (.inl (G.1, 24, .inl (fun _ => 0))))) b i (some (.inr (1, [.ref q, .int x1, .int 20, .int x3]))))) hx hb hts inX0 tyX0 tyX0_ok nmX0 hown hK hW hS (fs := [.ref q, .int x1, .int x2, .int x3]) ctset_s rfl 2 (by decide) (hts (.fieldLink RX0 15 "StoryToll$Guard" "patience" "I") (List.mem_of_getElem? (i := 6) rfl)) (fun _ h9 => h9) rfl (by decide +kernel) rfl rfl (Nat.le_of_ble_eq_true rfl) dX0_init_15 ctset_s (fun b' i' h9 => (ctset_o h9).trans (ctset_o h9).symm) (fun H locs hW hS => ?_)
  refine lv_aload_n hx hb dX0_init_18 rfl (lv_at hl 0 rfl) ?_
  refine lv_iconst (v := 1) hx hb dX0_init_19 (by decide) ?_
  refine g_adr (ad := (adset ad b2 i2 q)) (b := b) (i := i) (adset_o hne) ?_
  refine g_put (ad := (adset ad b2 i2 q)) (D := D) (ci := 1) (v := .int 1) (ty := .boolean) (C := RX0) (T := TX0) (N := 4) (ct' := (ctset (ctset ct b2 i2 (some (.inl (G.1, 24, .inl (fun _ => 0))))) b i (some (.inr (1, [.ref q, .int x1, .int 20, .int 1]))))) hx hb hts inX0 tyX0 tyX0_ok nmX0 hown hK hW hS (fs := [.ref q, .int x1, .int 20, .int x3]) ctset_s rfl 3 (by decide) (hts (.fieldLink RX0 19 "StoryToll$Guard" "awake" "Z") (List.mem_of_getElem? (i := 7) rfl)) (fun _ h9 => h9) rfl (by decide +kernel) rfl rfl (Nat.le_of_ble_eq_true rfl) dX0_init_20 ctset_s (fun b' i' h9 => (ctset_o h9).trans (ctset_o h9).symm) (fun H locs hW hS => ?_)
  exact g_wvret (u := q) (B := fun q H => gW D A (adset ad b2 i2 q) (ctset (ctset ct b2 i2 (some (.inl (G.1, 24, .inl (fun _ => 0))))) b i (some (.inr (1, [.ref q, .int x1, .int 20, .int 1])))) H) hx hb hr hlk hh hS trivial hW dX0_init_23
