/-! THE CLASS: a plot tells on, on any world that holds it -/
set_option maxHeartbeats 4000000 in
set_option maxRecDepth 100000 in
theorem c_X2_asSetG (l : Launch) (D : va_G) (G : gG) (A : Nat → Prop) (ad : gAd) (ct : gC) (Hp : Heap) (hW : gW D A ad ct Hp) (j : Nat) (n0 n1 n2 n3 n4 n5 : Int32) (h3 : ct 3 j = some (.inr (3, [.int n0, .int n1, .int n2, .int n3, .int n4, .int n5]))) : Met l yX2_asSet wsX2_asSet ({ frames := 0, cells := 0, slots := 0, locals := 0 }) (va_Pc [.ref (ad 3 j)] (gQ D (gTs G) Hp)) (gRi (fun r => r = (1 <<< (n0 &&& 31))) Hp) 0 0 gF := by
  refine g_start (cc := cX2_asSet) (maxL := 1) (ret := (some .int)) (by decide) rfl (Nat.le_of_ble_eq_true rfl) (fun p e s m below meth c ls C0 hr hlk hnm hh hK hl => ?_)
  obtain ⟨hx, hb, hml, hown, hts⟩ := id C0
  have hown : s.vm.findClass RX2 = some m.cls := hown
  have hS : va_S gF Hp Hp [] := va_S.rf
  have hl : lv_has ls 1 [(0, .ref (ad 3 j))] := hl
  have inX2 : ∀ w ∈ wsX20, w ∈ wsX2_asSet := by decide +kernel
  refine lv_iconst (v := 1) hx hb dX2_asSet_0 (by decide) ?_
  refine lv_aload_n hx hb dX2_asSet_1 rfl (lv_at hl 0 rfl) ?_
  refine va_get (D := D) (ci := 3) (v := .int n0) (C := RX2) (T := TX2) (N := 6) hx hb hts inX2 hown hK (hW.p h3) 0 rfl rfl 0 (by decide) (hts (.fieldLink RX2 7 "StoryToll$Scene" "number" "I") (List.mem_of_getElem? (i := 1) rfl)) (fun _ h9 => h9) rfl dX2_asSet_2 ?_
  refine lv_ishl hx hb dX2_asSet_5 ?_
  exact g_iret hx hb hr hlk hh hS rfl dX2_asSet_6
/-- the world behind tellOn -/
abbrev tellCt (G : gG) (ad : gAd) (ct : gC) (q j k : Nat) (w it ho : Int32) (r : Nat → Int32) (n0 n2 : Int32) : gC := (ctset (ctset ct 8 q (some (.inl (G.1, 8, .inl (upd r k n0))))) 6 q (some (.inr (2, [.ref (ad 8 q), .int (w + n2), .int (nI (k + 1)), .ref (ad 3 j), .int (it ||| (1 <<< (n0 &&& 31))), .int ho]))))
set_option maxHeartbeats 4000000 in
set_option maxRecDepth 100000 in
theorem c_X1_tellOn (l : Launch) (D : va_G) (G : gG) (A : Nat → Prop) (ad : gAd) (ct : gC) (Hp : Heap) (hW : gW D A ad ct Hp) (q j k : Nat) (hk : k < 8) (w it ho : Int32) (v3 : Value) (r : Nat → Int32) (h6 : ct 6 q = some (.inr (2, [.ref (ad 8 q), .int w, .int (nI k), v3, .int it, .int ho]))) (h8 : ct 8 q = some (.inl (G.1, 8, .inl r))) (n0 n1 n2 n3 n4 n5 : Int32) (h3 : ct 3 j = some (.inr (3, [.int n0, .int n1, .int n2, .int n3, .int n4, .int n5]))) : Met l yX1_tellOn wsX1_tellOn ({ frames := 1, cells := 0, slots := 0, locals := 24 }) (va_Pc [.ref (ad 6 q), .ref (ad 3 j)] (gQ D (gTs G) Hp)) (va_Qv (fun (_ : Unit) => True) (fun _ t => gW D A ad (tellCt G ad ct q j k w it ho r n0 n2) t.heap) A) 0 0 A := by
  refine g_start (cc := cX1_tellOn) (maxL := 2) (ret := none) (by decide) rfl (Nat.le_of_ble_eq_true rfl) (fun p e s m below meth c ls C0 hr hlk hnm hh hK hl => ?_)
  obtain ⟨hx, hb, hml, hown, hts⟩ := id C0
  have hown : s.vm.findClass RX1 = some m.cls := hown
  have hS : va_S A Hp Hp [] := va_S.rf
  have hl : lv_has ls 2 [(0, .ref (ad 6 q)), (1, .ref (ad 3 j))] := hl
  have inX1 : ∀ w ∈ wsX10, w ∈ wsX1_tellOn := by decide +kernel
  have inX2 : ∀ w ∈ wsX20, w ∈ wsX1_tellOn := by decide +kernel
  refine lv_aload_n hx hb dX1_tellOn_0 rfl (lv_at hl 0 rfl) ?_
  refine va_get (D := D) (ci := 2) (v := .int (nI k)) (C := RX1) (T := TX1) (N := 6) hx hb hts inX1 hown hK (hW.p h6) 0 rfl rfl 2 (by decide) (hts (.fieldLink RX1 23 "StoryToll$Plot" "length" "I") (List.mem_of_getElem? (i := 1) rfl)) (fun _ h9 => h9) rfl dX1_tellOn_1 ?_
  refine lv_if_lt (tgt := 73) hx hb dX1_tellOn_4 (by decide) (fun c => absurd c (nI_pos (by omega))) (fun _ => ?_)
  refine lv_aload_n hx hb dX1_tellOn_7 rfl (lv_at hl 0 rfl) ?_
  refine va_get (D := D) (ci := 2) (v := .int (nI k)) (C := RX1) (T := TX1) (N := 6) hx hb hts inX1 hown hK (hW.p h6) 0 rfl rfl 2 (by decide) (hts (.fieldLink RX1 23 "StoryToll$Plot" "length" "I") (List.mem_of_getElem? (i := 1) rfl)) (fun _ h9 => h9) rfl dX1_tellOn_8 ?_
  refine lv_aload_n hx hb dX1_tellOn_11 rfl (lv_at hl 0 rfl) ?_
  refine va_get (D := D) (ci := 2) (v := .ref (ad 8 q)) (C := RX1) (T := TX1) (N := 6) hx hb hts inX1 hown hK (hW.p h6) 0 rfl rfl 0 (by decide) (hts (.fieldLink RX1 9 "StoryToll$Plot" "row" "[I") (List.mem_of_getElem? (i := 2) rfl)) (fun _ h9 => h9) rfl dX1_tellOn_12 ?_
  refine va_alen hx hb hK (hW.p h8) 0 0 (x := (8, .inl r)) rfl rfl (v := 8) rfl dX1_tellOn_15 ?_
  refine lv_icmp_ge (tgt := 73) hx hb dX1_tellOn_16 (by decide) (fun c => absurd c (nI_ge (b := 8) hk (by decide))) (fun _ => ?_)
  refine lv_aload_n hx hb dX1_tellOn_19 rfl (lv_at hl 0 rfl) ?_
  refine va_get (D := D) (ci := 2) (v := .ref (ad 8 q)) (C := RX1) (T := TX1) (N := 6) hx hb hts inX1 hown hK (hW.p h6) 0 rfl rfl 0 (by decide) (hts (.fieldLink RX1 9 "StoryToll$Plot" "row" "[I") (List.mem_of_getElem? (i := 2) rfl)) (fun _ h9 => h9) rfl dX1_tellOn_20 ?_
  refine lv_aload_n hx hb dX1_tellOn_23 rfl (lv_at hl 0 rfl) ?_
  refine va_get (D := D) (ci := 2) (v := .int (nI k)) (C := RX1) (T := TX1) (N := 6) hx hb hts inX1 hown hK (hW.p h6) 0 rfl rfl 2 (by decide) (hts (.fieldLink RX1 23 "StoryToll$Plot" "length" "I") (List.mem_of_getElem? (i := 1) rfl)) (fun _ h9 => h9) rfl dX1_tellOn_24 ?_
  refine lv_aload_n hx hb dX1_tellOn_27 rfl (lv_at hl 1 rfl) ?_
  refine va_get (D := D) (ci := 3) (v := .int n0) (C := RX2) (T := TX2) (N := 6) hx hb hts inX2 hown hK (hW.p h3) 0 rfl rfl 0 (by decide) (hts (.fieldLink RX1 26 "StoryToll$Scene" "number" "I") (List.mem_of_getElem? (i := 3) rfl)) (fun _ h9 => h9) rfl dX1_tellOn_28 ?_
  refine g_istN (ct' := (ctset ct 8 q (some (.inl (G.1, 8, .inl (upd r k n0)))))) hx hb hK hW hS 0 (n := 8) (f := r) h8 rfl (k := k) rfl hk (by decide) dX1_tellOn_31 ctset_s (fun b' i' h9 => ctset_o h9) (fun H locs hW hS => ?_)
  refine lv_aload_n hx hb dX1_tellOn_32 rfl (lv_at hl 0 rfl) ?_
  refine lv_dup hx hb dX1_tellOn_33 rfl ?_
  refine va_get (D := D) (ci := 2) (v := .int (nI k)) (C := RX1) (T := TX1) (N := 6) hx hb hts inX1 hown hK (hW.p ((ctset_o (fun z => absurd z.1 (by decide))).trans h6)) 0 rfl rfl 2 (by decide) (hts (.fieldLink RX1 23 "StoryToll$Plot" "length" "I") (List.mem_of_getElem? (i := 1) rfl)) (fun _ h9 => h9) rfl dX1_tellOn_34 ?_
  refine lv_iconst (v := 1) hx hb dX1_tellOn_37 (by decide) ?_
  refine lv_iadd hx hb dX1_tellOn_38 ?_
  rw [show nI k + 1 = nI (k + 1) from (nI_succ k).symm]
  refine g_put (D := D) (ci := 2) (v := .int (nI (k + 1))) (ty := .int) (C := RX1) (T := TX1) (N := 6) (ct' := (ctset (ctset ct 8 q (some (.inl (G.1, 8, .inl (upd r k n0))))) 6 q (some (.inr (2, [.ref (ad 8 q), .int w, .int (nI (k + 1)), v3, .int it, .int ho]))))) hx hb hts inX1 tyX1 tyX1_ok nmX1 hown hK hW hS (fs := [.ref (ad 8 q), .int w, .int (nI k), v3, .int it, .int ho]) ((ctset_o (fun z => absurd z.1 (by decide))).trans h6) rfl 2 (by decide) (hts (.fieldLink RX1 23 "StoryToll$Plot" "length" "I") (List.mem_of_getElem? (i := 1) rfl)) (fun _ h9 => h9) rfl (by decide +kernel) rfl rfl (Nat.le_of_ble_eq_true rfl) dX1_tellOn_39 ctset_s (fun b' i' h9 => ctset_o h9) (fun H locs hW hS => ?_)
  refine lv_aload_n hx hb dX1_tellOn_42 rfl (lv_at hl 0 rfl) ?_
  refine lv_dup hx hb dX1_tellOn_43 rfl ?_
  refine va_get (D := D) (ci := 2) (v := .int w) (C := RX1) (T := TX1) (N := 6) hx hb hts inX1 hown hK (hW.p ctset_s) 0 rfl rfl 1 (by decide) (hts (.fieldLink RX1 31 "StoryToll$Plot" "wonder" "I") (List.mem_of_getElem? (i := 4) rfl)) (fun _ h9 => h9) rfl dX1_tellOn_44 ?_
  refine lv_aload_n hx hb dX1_tellOn_47 rfl (lv_at hl 1 rfl) ?_
  refine va_get (D := D) (ci := 3) (v := .int n2) (C := RX2) (T := TX2) (N := 6) hx hb hts inX2 hown hK (hW.p ((ctset_o (fun z => absurd z.1 (by decide))).trans ((ctset_o (fun z => absurd z.1 (by decide))).trans h3))) 0 rfl rfl 2 (by decide) (hts (.fieldLink RX1 34 "StoryToll$Scene" "wonder" "I") (List.mem_of_getElem? (i := 5) rfl)) (fun _ h9 => h9) rfl dX1_tellOn_48 ?_
  refine lv_iadd hx hb dX1_tellOn_51 ?_
  refine g_put (D := D) (ci := 2) (v := .int (w + n2)) (ty := .int) (C := RX1) (T := TX1) (N := 6) (ct' := (ctset (ctset ct 8 q (some (.inl (G.1, 8, .inl (upd r k n0))))) 6 q (some (.inr (2, [.ref (ad 8 q), .int (w + n2), .int (nI (k + 1)), v3, .int it, .int ho]))))) hx hb hts inX1 tyX1 tyX1_ok nmX1 hown hK hW hS (fs := [.ref (ad 8 q), .int w, .int (nI (k + 1)), v3, .int it, .int ho]) ctset_s rfl 1 (by decide) (hts (.fieldLink RX1 31 "StoryToll$Plot" "wonder" "I") (List.mem_of_getElem? (i := 4) rfl)) (fun _ h9 => h9) rfl (by decide +kernel) rfl rfl (Nat.le_of_ble_eq_true rfl) dX1_tellOn_52 ctset_s (fun b' i' h9 => (ctset_o h9).trans (ctset_o h9).symm) (fun H locs hW hS => ?_)
  refine lv_aload_n hx hb dX1_tellOn_55 rfl (lv_at hl 0 rfl) ?_
  refine lv_dup hx hb dX1_tellOn_56 rfl ?_
  refine va_get (D := D) (ci := 2) (v := .int it) (C := RX1) (T := TX1) (N := 6) hx hb hts inX1 hown hK (hW.p ctset_s) 0 rfl rfl 4 (by decide) (hts (.fieldLink RX1 35 "StoryToll$Plot" "inIt" "I") (List.mem_of_getElem? (i := 6) rfl)) (fun _ h9 => h9) rfl dX1_tellOn_57 ?_
  refine lv_aload_n hx hb dX1_tellOn_60 rfl (lv_at hl 1 rfl) ?_
  refine g_Vi (As := []) (rest := [.int it, .ref (ad 6 q)]) C0 (c_X2_asSetG l D G A ad (ctset (ctset ct 8 q (some (.inl (G.1, 8, .inl (upd r k n0))))) 6 q (some (.inr (2, [.ref (ad 8 q), .int (w + n2), .int (nI (k + 1)), v3, .int it, .int ho])))) H hW j n0 n1 n2 n3 n4 n5 ((ctset_o (fun z => absurd z.1 (by decide))).trans ((ctset_o (fun z => absurd z.1 (by decide))).trans h3))) (cwV 0 hts gX1_tellOn_X2_asSet rfl rfl rfl (by decide +kernel) ⟨Nat.le_of_ble_eq_true rfl, Nat.le_of_ble_eq_true rfl⟩) hK (va_recv hK (hW.p ((ctset_o (fun z => absurd z.1 (by decide))).trans ((ctset_o (fun z => absurd z.1 (by decide))).trans h3))) (ci := 3) (q0 := 0) rfl rfl) rfl hl rfl (Nat.le_of_ble_eq_true rfl) dX1_tellOn_61 ⟨Nat.zero_le _, Nat.zero_le _⟩ hS (fun r9 locs hr9 hS => ?_)
  subst r9
  refine lv_ior hx hb dX1_tellOn_64 ?_
  refine g_put (D := D) (ci := 2) (v := .int (it ||| (1 <<< (n0 &&& 31)))) (ty := .int) (C := RX1) (T := TX1) (N := 6) (ct' := (ctset (ctset ct 8 q (some (.inl (G.1, 8, .inl (upd r k n0))))) 6 q (some (.inr (2, [.ref (ad 8 q), .int (w + n2), .int (nI (k + 1)), v3, .int (it ||| (1 <<< (n0 &&& 31))), .int ho]))))) hx hb hts inX1 tyX1 tyX1_ok nmX1 hown hK hW hS (fs := [.ref (ad 8 q), .int (w + n2), .int (nI (k + 1)), v3, .int it, .int ho]) ctset_s rfl 4 (by decide) (hts (.fieldLink RX1 35 "StoryToll$Plot" "inIt" "I") (List.mem_of_getElem? (i := 6) rfl)) (fun _ h9 => h9) rfl (by decide +kernel) rfl rfl (Nat.le_of_ble_eq_true rfl) dX1_tellOn_65 ctset_s (fun b' i' h9 => (ctset_o h9).trans (ctset_o h9).symm) (fun H locs hW hS => ?_)
  refine lv_aload_n hx hb dX1_tellOn_68 rfl (lv_at hl 0 rfl) ?_
  refine lv_aload_n hx hb dX1_tellOn_69 rfl (lv_at hl 1 rfl) ?_
  refine g_put (D := D) (ci := 2) (v := .ref (ad 3 j)) (ty := (.object "StoryToll$Scene")) (C := RX1) (T := TX1) (N := 6) (ct' := (ctset (ctset ct 8 q (some (.inl (G.1, 8, .inl (upd r k n0))))) 6 q (some (.inr (2, [.ref (ad 8 q), .int (w + n2), .int (nI (k + 1)), .ref (ad 3 j), .int (it ||| (1 <<< (n0 &&& 31))), .int ho]))))) hx hb hts inX1 tyX1 tyX1_ok nmX1 hown hK hW hS (fs := [.ref (ad 8 q), .int (w + n2), .int (nI (k + 1)), v3, .int (it ||| (1 <<< (n0 &&& 31))), .int ho]) ctset_s rfl 3 (by decide) (hts (.fieldLink RX1 42 "StoryToll$Plot" "last" "LStoryToll$Scene;") (List.mem_of_getElem? (i := 7) rfl)) (fun _ h9 => h9) rfl (by decide +kernel) rfl rfl (Nat.le_of_ble_eq_true rfl) dX1_tellOn_70 ctset_s (fun b' i' h9 => (ctset_o h9).trans (ctset_o h9).symm) (fun H locs hW hS => ?_)
  exact g_wvret (u := ()) (B := fun _ H => gW D A ad (ctset (ctset ct 8 q (some (.inl (G.1, 8, .inl (upd r k n0))))) 6 q (some (.inr (2, [.ref (ad 8 q), .int (w + n2), .int (nI (k + 1)), .ref (ad 3 j), .int (it ||| (1 <<< (n0 &&& 31))), .int ho])))) H) hx hb hr hlk hh hS trivial hW dX1_tellOn_73
section GAdr3
variable {p : Program} {l : Launch} {e : Env} {R : Room} {s : State} {m : MethodId} {args : Array Value} {below : List Frame} {meth : Method} {c : Code} {H : Heap} {locs : List Loc} {cells slots : Nat} {Q : State → Prop}
theorem g_adr3 {pc : Nat} {ls : Array Slot} {rest : List Value} {ad : gAd} {b i a b' i' a' : Nat} (ha : ad b i = a) (ha' : ad b' i' = a') (k : W p l e R s m args below meth c H locs cells slots Q (F0 m pc ls (.ref (ad b' i') :: .ref (ad b i) :: rest))) : W p l e R s m args below meth c H locs cells slots Q (F0 m pc ls (.ref a' :: .ref a :: rest)) := by
  subst ha
  subst ha'
  exact k
end GAdr3
set_option maxHeartbeats 4000000 in
set_option maxRecDepth 100000 in
theorem c_X1_init (l : Launch) (D : va_G) (G : gG) (A : Nat → Prop) (ad : gAd) (ct : gC) (Hp : Heap) (hW : gW D A ad ct Hp) (hA : ∀ q, Hp.size ≤ q → A q) (q j : Nat) (hc0 : ct 6 q = some (.inr (2, [.null, .int 0, .int 0, .null, .int 0, .int 0]))) (n0 n1 n2 n3 n4 n5 : Int32) (h3 : ct 3 j = some (.inr (3, [.int n0, .int n1, .int n2, .int n3, .int n4, .int n5]))) : Met l yX1_init wsX1_init ({ frames := 2, cells := 1, slots := 8, locals := 60 }) (va_Pc [.ref (ad 6 q), .ref (ad 3 j)] (gQ D (gTs G) Hp)) (va_Qv (fun (_ : Nat) => True) (fun q9 t => gW D A (adset ad 8 q q9) (tellCt G (adset ad 8 q q9) (ctset (ctset ct 8 q (some (.inl (G.1, 8, .inl (fun _ => 0))))) 6 q (some (.inr (2, [.ref ((adset ad 8 q q9) 8 q), .int 0, .int 0, .null, .int 0, .int (-1)])))) q j 0 0 0 (-1) (fun _ => 0) n0 n2) t.heap) A) 1 8 A := by
  refine g_start (cc := cX1_init) (maxL := 2) (ret := none) (by decide) rfl (Nat.le_of_ble_eq_true rfl) (fun p e s m below meth c ls C0 hr hlk hnm hh hK hl => ?_)
  obtain ⟨hx, hb, hml, hown, hts⟩ := id C0
  have hown : s.vm.findClass RX1 = some m.cls := hown
  have hS : va_S A Hp Hp [] := va_S.rf
  have hl : lv_has ls 2 [(0, .ref (ad 6 q)), (1, .ref (ad 3 j))] := hl
  have inX1 : ∀ w ∈ wsX10, w ∈ wsX1_init := by decide +kernel
  refine lv_aload_n hx hb dX1_init_0 rfl (lv_at hl 0 rfl) ?_
  refine W.objInit hx hb hown (hts (.methodLink RX1 3 objectInit) (List.mem_of_getElem? (i := 1) rfl)) (hts (.instanceMethod objectInit) (List.mem_of_getElem? (i := 2) rfl)) (hts (.code objectInit ⟨#[0xb1]⟩ 1 none) (List.mem_of_getElem? (i := 3) rfl)) rfl (by rw [hml]; exact hl.1) rfl dX1_init_1 (Nat.le_of_ble_eq_true rfl) (Nat.le_of_ble_eq_true rfl) ?_
  refine lv_aload_n hx hb dX1_init_4 rfl (lv_at hl 0 rfl) ?_
  refine lv_bipush (v := 8) hx hb dX1_init_5 (by decide) ?_
  refine g_newa (D := D) hx hb (hts (.arrayClass .int) (List.mem_of_getElem? (i := 4) rfl)) hK hW hS hA 0 rfl (n := 8) (N' := 8) (by decide) (by decide) (by decide) (Nat.le_of_ble_eq_true rfl) (Nat.le_of_ble_eq_true rfl) dX1_init_7 8 q (fun q9 H hW hS hq => ?_)
  refine g_adr3 (ad := (adset ad 8 q q9)) (b := 6) (i := q) (b' := 8) (i' := q) (adset_o (fun z => absurd z.1 (by decide))) adset_s ?_
  refine g_putF (ad := (adset ad 8 q q9)) (D := D) (ci := 2) (v := .ref ((adset ad 8 q q9) 8 q)) (ty := (.array .int)) (C := RX1) (T := TX1) (N := 6) (ct' := (ctset (ctset ct 8 q (some (.inl (G.1, 8, .inl (fun _ => 0))))) 6 q (some (.inr (2, [.ref ((adset ad 8 q q9) 8 q), .int 0, .int 0, .null, .int 0, .int 0]))))) hx hb hts inX1 tyX1 tyX1_ok nmX1 hown hK hW hS (fs := [.null, .int 0, .int 0, .null, .int 0, .int 0]) ((ctset_o (fun z => absurd z.1 (by decide))).trans hc0) rfl 0 (by decide) (hts (.fieldLink RX1 9 "StoryToll$Plot" "row" "[I") (List.mem_of_getElem? (i := 5) rfl)) (fun _ h9 => h9) rfl hnm rfl (by decide +kernel) rfl rfl (Nat.le_of_ble_eq_true rfl) dX1_init_9 ctset_s (fun b' i' h9 => ctset_o h9) (fun H locs hW hS => ?_)
  refine lv_aload_n hx hb dX1_init_12 rfl (lv_at hl 0 rfl) ?_
  refine lv_iconst (v := (-1)) hx hb dX1_init_13 (by decide) ?_
  refine g_adr (ad := (adset ad 8 q q9)) (b := 6) (i := q) (adset_o (fun z => absurd z.1 (by decide))) ?_
  refine g_put (ad := (adset ad 8 q q9)) (D := D) (ci := 2) (v := .int (-1)) (ty := .int) (C := RX1) (T := TX1) (N := 6) (ct' := (ctset (ctset ct 8 q (some (.inl (G.1, 8, .inl (fun _ => 0))))) 6 q (some (.inr (2, [.ref ((adset ad 8 q q9) 8 q), .int 0, .int 0, .null, .int 0, .int (-1)]))))) hx hb hts inX1 tyX1 tyX1_ok nmX1 hown hK hW hS (fs := [.ref ((adset ad 8 q q9) 8 q), .int 0, .int 0, .null, .int 0, .int 0]) ctset_s rfl 5 (by decide) (hts (.fieldLink RX1 15 "StoryToll$Plot" "holder" "I") (List.mem_of_getElem? (i := 6) rfl)) (fun _ h9 => h9) rfl (by decide +kernel) rfl rfl (Nat.le_of_ble_eq_true rfl) dX1_init_14 ctset_s (fun b' i' h9 => (ctset_o h9).trans (ctset_o h9).symm) (fun H locs hW hS => ?_)
  refine lv_aload_n hx hb dX1_init_17 rfl (lv_at hl 0 rfl) ?_
  refine lv_aload_n hx hb dX1_init_18 rfl (lv_at hl 1 rfl) ?_
  refine g_adr3 (ad := (adset ad 8 q q9)) (b := 6) (i := q) (b' := 3) (i' := j) (adset_o (fun z => absurd z.1 (by decide))) (adset_o (fun z => absurd z.1 (by decide))) ?_
  refine g_wVv (As := [.ref ((adset ad 8 q q9) 3 j)]) (rest := []) (B := fun (_ : Unit) H => gW D A (adset ad 8 q q9) (tellCt G (adset ad 8 q q9) (ctset (ctset ct 8 q (some (.inl (G.1, 8, .inl (fun _ => 0))))) 6 q (some (.inr (2, [.ref ((adset ad 8 q q9) 8 q), .int 0, .int 0, .null, .int 0, .int (-1)])))) q j 0 0 0 (-1) (fun _ => 0) n0 n2) H) (mc := 0) (ms := 0) C0 (c_X1_tellOn l D G A (adset ad 8 q q9) (ctset (ctset ct 8 q (some (.inl (G.1, 8, .inl (fun _ => 0))))) 6 q (some (.inr (2, [.ref ((adset ad 8 q q9) 8 q), .int 0, .int 0, .null, .int 0, .int (-1)])))) H hW q j 0 (by decide) 0 0 (-1) .null (fun _ => 0) ctset_s ((ctset_o (fun z => absurd z.1 (by decide))).trans ctset_s) n0 n1 n2 n3 n4 n5 ((ctset_o (fun z => absurd z.1 (by decide))).trans ((ctset_o (fun z => absurd z.1 (by decide))).trans h3))) (cwV 1 hts gX1_init_X1_tellOn rfl rfl rfl (by decide +kernel) ⟨Nat.le_of_ble_eq_true rfl, Nat.le_of_ble_eq_true rfl⟩) hK (va_recv hK (hW.p (b := 6) (i := q) ctset_s) (ci := 2) (q0 := 0) rfl rfl) rfl hl rfl (Nat.le_of_ble_eq_true rfl) dX1_init_19 ⟨Nat.le_of_ble_eq_true rfl, Nat.le_of_ble_eq_true rfl⟩ hS (fun u H locs hu hW hz hS => ?_)
  exact g_wvret (u := q9) (B := fun q9 H => gW D A (adset ad 8 q q9) (tellCt G (adset ad 8 q q9) (ctset (ctset ct 8 q (some (.inl (G.1, 8, .inl (fun _ => 0))))) 6 q (some (.inr (2, [.ref ((adset ad 8 q q9) 8 q), .int 0, .int 0, .null, .int 0, .int (-1)])))) q j 0 0 0 (-1) (fun _ => 0) n0 n2) H) hx hb hr hlk hh hS trivial hW dX1_init_22
