/-! THE LAW'S WRAPPERS -/
set_option maxHeartbeats 4000000 in
set_option maxRecDepth 100000 in
theorem c_L_make (l : Launch) (D : va_G) (G : gG) (A : Nat → Prop) (ad : gAd) (N : gN) (C M : gT) (o : Nat → Int64) (Hp : Heap) (hW : gW D A ad (Wd G ad N C M o) Hp) (hl0 : l.stackTraces = false) (hC : IC N C) (hA : ∀ q, Hp.size ≤ q → A q) (hR : IR N) (mi : Nat) (v w x : Int32) : Met l yL_make wsL_make ({ frames := 8, cells := 2, slots := 39, locals := 285 }) (va_Pc [.ref (ad 0 0), .int v, .int w, .int x, .ref (ad 0 2)] (gQZ D G Hp mi A)) (va_Qi (fun r (u : gAd) => okW oAS (f_X4_make C N v w x) r ∧ ∀ i, u 0 i = ad 0 i) (fun u t => gW D A u (oW (f_X4_make C N v w x) (fun a => Wd G u (n_X4_make C N v w x) (s_X4_make C N v w x) M (oL o a.toInt64)) (Wd G u N C M o)) t.heap) A) 2 39 A := by
  refine g_startW (cc := cL_make) (maxL := 6) (ret := (some .int)) (hh := [(0, 12, 15, 13), (0, 12, 19, 15)]) (by decide) rfl (Nat.le_of_ble_eq_true rfl) (fun p e s m below meth c ls C0 hr hlk hh hK hE hL hNe hNc htab hl => ?_)
  obtain ⟨hx, hb, hml, hown, hts⟩ := id C0
  have hown : s.vm.findClass RL = some m.cls := hown
  have hS : va_S A Hp Hp [] := va_S.rf
  have hl : lv_has ls 6 [(0, .ref (ad 0 0)), (1, .int v), (2, .int w), (3, .int x), (4, .ref (ad 0 2))] := hl
  refine lv_aload hx hb dL_make_0 (lv_at hl 4 rfl) ?_
  refine lv_iconst (v := 0) hx hb dL_make_2 (by decide) ?_
  refine lv_aload_n hx hb dL_make_3 rfl (lv_at hl 0 rfl) ?_
  refine lv_iload_n hx hb dL_make_4 rfl (lv_at hl 1 rfl) ?_
  refine lv_iload_n hx hb dL_make_5 rfl (lv_at hl 2 rfl) ?_
  refine lv_iload_n hx hb dL_make_6 rfl (lv_at hl 3 rfl) ?_
  have hM9 := c_X4_make l D G A ad N C M o Hp hW hl0 hA hR mi hC v w x
  refine g_VXi (As := [.int v, .int w, .int x]) (rest := [.int 0, .ref (ad 0 2)]) (B := fun (u : gAd) H => gW D A u (Wd G u (n_X4_make C N v w x) (s_X4_make C N v w x) M o) H) (BX := fun E H => f_X4_make C N v w x = .inr E ∧ gW D A ad (Wd G ad N C M o) H) (mc := 2) (ms := 39) C0 hM9 (cwV 3 hts gL_make_X4_make rfl rfl rfl (by decide +kernel) ⟨Nat.le_of_ble_eq_true rfl, Nat.le_of_ble_eq_true rfl⟩) g_Yblind (fun U hU hW9 => ⟨hU, va_K.moved hW9.alike hK, hE.moved hW9 (fun q h1 h2 => by rw [hU, hh]), hL.moved hW9 (fun q h1 h2 => by rw [hU, hh]), va_Nw.warmM hW9 hNe⟩) (va_recv hK (hW.p rfl) (ci := 5) (q0 := 0) rfl rfl) rfl hl rfl (Nat.le_of_ble_eq_true rfl) dL_make_7 ⟨Nat.le_of_ble_eq_true rfl, Nat.le_of_ble_eq_true rfl⟩ hS (fun E ce q9 H locs hX9 hz9 hS hcell hv9 hcl9 => ?_) (fun r9 u9 H locs hr9 hW hz9 hS => ?_)
  · obtain ⟨hf9, hW⟩ := hX9
    obtain ⟨-, hEE⟩ := er_make hf9
    rcases hEE with rfl | rfl
    · refine vx_catch (E := xA) (name := xA) hown [] ⟨0, 12, 15, 13⟩ [⟨0, 12, 19, 15⟩] htab (fun z hz => absurd hz (by simp)) (by decide) (by decide) (hts (.classLink RL 13 "java/lang/IllegalArgumentException") (List.mem_of_getElem? (i := 1) rfl)) (va_Nw.use rfl hE.1.2.1) hcell hv9 hcl9 ?_
      refine lv_astore (lv' := [(5, .ref q9), (0, .ref (ad 0 0)), (1, .int v), (2, .int w), (3, .int x), (4, .ref (ad 0 2))]) hx hb dL_make_15 hl (by decide) rfl (fun ls hl => ?_)
      refine lv_iconst (v := 1) hx hb dL_make_17 (by decide) ?_
      refine W.widen (k := 2) (n := 39) (by omega) (by omega) ?_
      exact g_wret (u := ad) (post := fun r (u : gAd) => okW oAS (f_X4_make C N v w x) r ∧ ∀ i, u 0 i = ad 0 i) (B := fun u H => gW D A u (oW (f_X4_make C N v w x) (fun a => Wd G u (n_X4_make C N v w x) (s_X4_make C N v w x) M (oL o a.toInt64)) (Wd G u N C M o)) H) hx hb hr hlk hh hS ⟨(by rw [hf9]; exact (by decide +kernel : (1 : Int32) = cdF oAS xA)), fun _ => rfl⟩ (show gW D A ad (oW (f_X4_make C N v w x) (fun a => Wd G ad (n_X4_make C N v w x) (s_X4_make C N v w x) M (oL o a.toInt64)) (Wd G ad N C M o)) H from by rw [hf9]; exact hW) dL_make_18
    · refine vx_catch (E := xS) (name := xS) hown [⟨0, 12, 15, 13⟩] ⟨0, 12, 19, 15⟩ [] htab (fun z hz => by
          cases List.mem_singleton.mp hz
          exact Or.inr ⟨by decide, xA, hts (.classLink RL 13 "java/lang/IllegalArgumentException") (List.mem_of_getElem? (i := 1) rfl), hNc.1⟩) (by decide) (by decide) (hts (.classLink RL 15 "java/lang/IllegalStateException") (List.mem_of_getElem? (i := 2) rfl)) (va_Nw.use rfl hE.1.2.2.1) hcell hv9 hcl9 ?_
      refine lv_astore (lv' := [(5, .ref q9), (0, .ref (ad 0 0)), (1, .int v), (2, .int w), (3, .int x), (4, .ref (ad 0 2))]) hx hb dL_make_19 hl (by decide) rfl (fun ls hl => ?_)
      refine lv_iconst (v := 2) hx hb dL_make_21 (by decide) ?_
      refine W.widen (k := 2) (n := 39) (by omega) (by omega) ?_
      exact g_wret (u := ad) (post := fun r (u : gAd) => okW oAS (f_X4_make C N v w x) r ∧ ∀ i, u 0 i = ad 0 i) (B := fun u H => gW D A u (oW (f_X4_make C N v w x) (fun a => Wd G u (n_X4_make C N v w x) (s_X4_make C N v w x) M (oL o a.toInt64)) (Wd G u N C M o)) H) hx hb hr hlk hh hS ⟨(by rw [hf9]; exact (by decide +kernel : (2 : Int32) = cdF oAS xS)), fun _ => rfl⟩ (show gW D A ad (oW (f_X4_make C N v w x) (fun a => Wd G ad (n_X4_make C N v w x) (s_X4_make C N v w x) M (oL o a.toInt64)) (Wd G ad N C M o)) H from by rw [hf9]; exact hW) dL_make_22
  · obtain ⟨hr8, hu8⟩ := hr9
    refine lv_i2l (v := r9.toInt64) hx hb dL_make_10 rfl ?_
    refine g_adr4 (ad := u9) (b := 0) (i := 2) (hu8 2) ?_
    refine g_lst (ad := u9) (ct' := Wd G u9 (n_X4_make C N v w x) (s_X4_make C N v w x) M (oL o r9.toInt64)) hx hb hK hW hS 1 (n := 1) (f := o) rfl rfl (j := 0) (x := r9.toInt64) (vp_in_nI (by decide : 0 < 1) (by decide)) dL_make_11 rfl (fun b' i' h9 => Wd_o b' i' h9) (fun H locs hW hS => ?_)
    refine lv_goto (tgt := 23) hx hb dL_make_12 (by decide) ?_
    refine lv_iconst (v := 0) hx hb dL_make_23 (by decide) ?_
    refine W.widen (k := 2) (n := 39) (by omega) (by omega) ?_
    exact g_wret (u := u9) (post := fun r (u : gAd) => okW oAS (f_X4_make C N v w x) r ∧ ∀ i, u 0 i = ad 0 i) (B := fun u H => gW D A u (oW (f_X4_make C N v w x) (fun a => Wd G u (n_X4_make C N v w x) (s_X4_make C N v w x) M (oL o a.toInt64)) (Wd G u N C M o)) H) hx hb hr hlk hh hS ⟨(by have h7 : okW oAS (Sum.inl r9) 0 := rfl; rw [← hr8] at h7; exact h7), hu8⟩ (show gW D A u9 (oW (f_X4_make C N v w x) (fun a => Wd G u9 (n_X4_make C N v w x) (s_X4_make C N v w x) M (oL o a.toInt64)) (Wd G u9 N C M o)) H from by rw [hr8]; exact hW) dL_make_24
set_option maxHeartbeats 4000000 in
set_option maxRecDepth 100000 in
theorem c_L_follow (l : Launch) (D : va_G) (G : gG) (A : Nat → Prop) (ad : gAd) (N : gN) (C M : gT) (o : Nat → Int64) (Hp : Heap) (hW : gW D A ad (Wd G ad N C M o) Hp) (hl0 : l.stackTraces = false) (hC : IC N C) (mi : Nat) (v w : Int32) : Met l yL_follow wsL_follow ({ frames := 7, cells := 1, slots := 6, locals := 114 }) (va_Pc [.ref (ad 0 0), .int v, .int w, .ref (ad 0 2)] (gQZ D G Hp mi A)) (va_Qi (fun r (_ : Unit) => okW oIAS (f_X4_follow C N v w) r) (fun _ t => gW D A ad (oW (f_X4_follow C N v w) (fun a => Wd G ad N (s_X4_follow C N v w) M (oL o a.toInt64)) (Wd G ad N C M o)) t.heap) A) 1 6 A := by
  refine g_startW (cc := cL_follow) (maxL := 5) (ret := (some .int)) (hh := [(0, 10, 13, 21), (0, 10, 17, 13), (0, 10, 21, 15)]) (by decide) rfl (Nat.le_of_ble_eq_true rfl) (fun p e s m below meth c ls C0 hr hlk hh hK hE hL hNe hNc htab hl => ?_)
  obtain ⟨hx, hb, hml, hown, hts⟩ := id C0
  have hown : s.vm.findClass RL = some m.cls := hown
  have hS : va_S A Hp Hp [] := va_S.rf
  have hl : lv_has ls 5 [(0, .ref (ad 0 0)), (1, .int v), (2, .int w), (3, .ref (ad 0 2))] := hl
  refine lv_aload_n hx hb dL_follow_0 rfl (lv_at hl 3 rfl) ?_
  refine lv_iconst (v := 0) hx hb dL_follow_1 (by decide) ?_
  refine lv_aload_n hx hb dL_follow_2 rfl (lv_at hl 0 rfl) ?_
  refine lv_iload_n hx hb dL_follow_3 rfl (lv_at hl 1 rfl) ?_
  refine lv_iload_n hx hb dL_follow_4 rfl (lv_at hl 2 rfl) ?_
  have hM9 := c_X4_follow l D G A ad N C M o Hp hW hl0 hC v w
  refine g_VXi (As := [.int v, .int w]) (rest := [.int 0, .ref (ad 0 2)]) (B := fun (_ : Unit) H => gW D A ad (Wd G ad N (s_X4_follow C N v w) M o) H) (BX := fun E H => f_X4_follow C N v w = .inr E ∧ gW D A ad (Wd G ad N C M o) H) (mc := 1) (ms := 6) C0 hM9 (cwV 2 hts gL_follow_X4_follow rfl rfl rfl (by decide +kernel) ⟨Nat.le_of_ble_eq_true rfl, Nat.le_of_ble_eq_true rfl⟩) g_Xblind (fun U hU hW9 => ⟨hU, va_K.moved hW9.alike hK, hE.moved hW9 (fun q h1 h2 => by rw [hU, hh])⟩) (va_recv hK (hW.p rfl) (ci := 5) (q0 := 0) rfl rfl) rfl hl rfl (Nat.le_of_ble_eq_true rfl) dL_follow_5 ⟨Nat.le_of_ble_eq_true rfl, Nat.le_of_ble_eq_true rfl⟩ hS (fun E ce q9 H locs hX9 hz9 hS hcell hv9 hcl9 => ?_) (fun r9 u9 H locs hr9 hW hz9 hS => ?_)
  · obtain ⟨hf9, hW⟩ := hX9
    obtain ⟨-, hEE⟩ := er_follow hf9
    rcases hEE with rfl | rfl | rfl
    · refine vx_catch (E := xI) (name := xI) hown [] ⟨0, 10, 13, 21⟩ [⟨0, 10, 17, 13⟩, ⟨0, 10, 21, 15⟩] htab (fun z hz => absurd hz (by simp)) (by decide) (by decide) (hts (.classLink RL 21 "java/lang/IndexOutOfBoundsException") (List.mem_of_getElem? (i := 1) rfl)) (va_Nw.use rfl hE.1.1) hcell hv9 hcl9 ?_
      refine lv_astore (lv' := [(4, .ref q9), (0, .ref (ad 0 0)), (1, .int v), (2, .int w), (3, .ref (ad 0 2))]) hx hb dL_follow_13 hl (by decide) rfl (fun ls hl => ?_)
      refine lv_iconst (v := 1) hx hb dL_follow_15 (by decide) ?_
      refine W.widen (k := 1) (n := 6) (by omega) (by omega) ?_
      exact g_wret (u := ()) (post := fun r (_ : Unit) => okW oIAS (f_X4_follow C N v w) r) (B := fun (_ : Unit) H => gW D A ad (oW (f_X4_follow C N v w) (fun a => Wd G ad N (s_X4_follow C N v w) M (oL o a.toInt64)) (Wd G ad N C M o)) H) hx hb hr hlk hh hS (by rw [hf9]; exact (by decide +kernel : (1 : Int32) = cdF oIAS xI)) (show gW D A ad (oW (f_X4_follow C N v w) (fun a => Wd G ad N (s_X4_follow C N v w) M (oL o a.toInt64)) (Wd G ad N C M o)) H from by rw [hf9]; exact hW) dL_follow_16
    · refine vx_catch (E := xA) (name := xA) hown [⟨0, 10, 13, 21⟩] ⟨0, 10, 17, 13⟩ [⟨0, 10, 21, 15⟩] htab (fun z hz => by
          cases List.mem_singleton.mp hz
          exact Or.inr ⟨by decide, xI, hts (.classLink RL 21 "java/lang/IndexOutOfBoundsException") (List.mem_of_getElem? (i := 1) rfl), hNc.2.1⟩) (by decide) (by decide) (hts (.classLink RL 13 "java/lang/IllegalArgumentException") (List.mem_of_getElem? (i := 2) rfl)) (va_Nw.use rfl hE.1.2.1) hcell hv9 hcl9 ?_
      refine lv_astore (lv' := [(4, .ref q9), (0, .ref (ad 0 0)), (1, .int v), (2, .int w), (3, .ref (ad 0 2))]) hx hb dL_follow_17 hl (by decide) rfl (fun ls hl => ?_)
      refine lv_iconst (v := 2) hx hb dL_follow_19 (by decide) ?_
      refine W.widen (k := 1) (n := 6) (by omega) (by omega) ?_
      exact g_wret (u := ()) (post := fun r (_ : Unit) => okW oIAS (f_X4_follow C N v w) r) (B := fun (_ : Unit) H => gW D A ad (oW (f_X4_follow C N v w) (fun a => Wd G ad N (s_X4_follow C N v w) M (oL o a.toInt64)) (Wd G ad N C M o)) H) hx hb hr hlk hh hS (by rw [hf9]; exact (by decide +kernel : (2 : Int32) = cdF oIAS xA)) (show gW D A ad (oW (f_X4_follow C N v w) (fun a => Wd G ad N (s_X4_follow C N v w) M (oL o a.toInt64)) (Wd G ad N C M o)) H from by rw [hf9]; exact hW) dL_follow_20
    · refine vx_catch (E := xS) (name := xS) hown [⟨0, 10, 13, 21⟩, ⟨0, 10, 17, 13⟩] ⟨0, 10, 21, 15⟩ [] htab (fun z hz => by
          rcases List.mem_cons.mp hz with rfl | hz
          · exact Or.inr ⟨by decide, xI, hts (.classLink RL 21 "java/lang/IndexOutOfBoundsException") (List.mem_of_getElem? (i := 1) rfl), hNc.2.2⟩
          · cases List.mem_singleton.mp hz
            exact Or.inr ⟨by decide, xA, hts (.classLink RL 13 "java/lang/IllegalArgumentException") (List.mem_of_getElem? (i := 2) rfl), hNc.1⟩) (by decide) (by decide) (hts (.classLink RL 15 "java/lang/IllegalStateException") (List.mem_of_getElem? (i := 3) rfl)) (va_Nw.use rfl hE.1.2.2.1) hcell hv9 hcl9 ?_
      refine lv_astore (lv' := [(4, .ref q9), (0, .ref (ad 0 0)), (1, .int v), (2, .int w), (3, .ref (ad 0 2))]) hx hb dL_follow_21 hl (by decide) rfl (fun ls hl => ?_)
      refine lv_iconst (v := 3) hx hb dL_follow_23 (by decide) ?_
      refine W.widen (k := 1) (n := 6) (by omega) (by omega) ?_
      exact g_wret (u := ()) (post := fun r (_ : Unit) => okW oIAS (f_X4_follow C N v w) r) (B := fun (_ : Unit) H => gW D A ad (oW (f_X4_follow C N v w) (fun a => Wd G ad N (s_X4_follow C N v w) M (oL o a.toInt64)) (Wd G ad N C M o)) H) hx hb hr hlk hh hS (by rw [hf9]; exact (by decide +kernel : (3 : Int32) = cdF oIAS xS)) (show gW D A ad (oW (f_X4_follow C N v w) (fun a => Wd G ad N (s_X4_follow C N v w) M (oL o a.toInt64)) (Wd G ad N C M o)) H from by rw [hf9]; exact hW) dL_follow_24
  · have hr8 := hr9
    refine lv_i2l (v := r9.toInt64) hx hb dL_follow_8 rfl ?_
    refine g_lst (ad := ad) (ct' := Wd G ad N (s_X4_follow C N v w) M (oL o r9.toInt64)) hx hb hK hW hS 1 (n := 1) (f := o) rfl rfl (j := 0) (x := r9.toInt64) (vp_in_nI (by decide : 0 < 1) (by decide)) dL_follow_9 rfl (fun b' i' h9 => Wd_o b' i' h9) (fun H locs hW hS => ?_)
    refine lv_goto (tgt := 25) hx hb dL_follow_10 (by decide) ?_
    refine lv_iconst (v := 0) hx hb dL_follow_25 (by decide) ?_
    refine W.widen (k := 1) (n := 6) (by omega) (by omega) ?_
    exact g_wret (u := ()) (post := fun r (_ : Unit) => okW oIAS (f_X4_follow C N v w) r) (B := fun (_ : Unit) H => gW D A ad (oW (f_X4_follow C N v w) (fun a => Wd G ad N (s_X4_follow C N v w) M (oL o a.toInt64)) (Wd G ad N C M o)) H) hx hb hr hlk hh hS (by have h7 : okW oIAS (Sum.inl r9) 0 := rfl; rw [← hr8] at h7; exact h7) (show gW D A ad (oW (f_X4_follow C N v w) (fun a => Wd G ad N (s_X4_follow C N v w) M (oL o a.toInt64)) (Wd G ad N C M o)) H from by rw [hr8]; exact hW) dL_follow_26
set_option maxHeartbeats 4000000 in
set_option maxRecDepth 100000 in
theorem c_L_post (l : Launch) (D : va_G) (G : gG) (A : Nat → Prop) (ad : gAd) (N : gN) (C M : gT) (o : Nat → Int64) (Hp : Heap) (hW : gW D A ad (Wd G ad N C M o) Hp) (hl0 : l.stackTraces = false) (hC : IC N C) (hA : ∀ q, Hp.size ≤ q → A q) (hR : IR N) (mi : Nat) : Met l yL_post wsL_post ({ frames := 8, cells := 3, slots := 61, locals := 282 }) (va_Pc [.ref (ad 0 0), .ref (ad 0 2)] (gQZ D G Hp mi A)) (va_Qi (fun r (u : gAd) => okW oS (f_X4_post C N) r ∧ ∀ i, u 0 i = ad 0 i) (fun u t => gW D A u (oW (f_X4_post C N) (fun a => Wd G u (n_X4_post C N ) (s_X4_post C N ) M (oL o a.toInt64)) (Wd G u N C M o)) t.heap) A) 3 61 A := by
  refine g_startW (cc := cL_post) (maxL := 3) (ret := (some .int)) (hh := [(0, 8, 11, 15)]) (by decide) rfl (Nat.le_of_ble_eq_true rfl) (fun p e s m below meth c ls C0 hr hlk hh hK hE hL hNe hNc htab hl => ?_)
  obtain ⟨hx, hb, hml, hown, hts⟩ := id C0
  have hown : s.vm.findClass RL = some m.cls := hown
  have hS : va_S A Hp Hp [] := va_S.rf
  have hl : lv_has ls 3 [(0, .ref (ad 0 0)), (1, .ref (ad 0 2))] := hl
  refine lv_aload_n hx hb dL_post_0 rfl (lv_at hl 1 rfl) ?_
  refine lv_iconst (v := 0) hx hb dL_post_1 (by decide) ?_
  refine lv_aload_n hx hb dL_post_2 rfl (lv_at hl 0 rfl) ?_
  have hM9 := c_X4_post l D G A ad N C M o Hp hW hl0 hA hR mi hC 
  refine g_VXi (As := []) (rest := [.int 0, .ref (ad 0 2)]) (B := fun (u : gAd) H => gW D A u (Wd G u (n_X4_post C N ) (s_X4_post C N ) M o) H) (BX := fun E H => f_X4_post C N = .inr E ∧ gW D A ad (Wd G ad N C M o) H) (mc := 3) (ms := 61) C0 hM9 (cwV 0 hts gL_post_X4_post rfl rfl rfl (by decide +kernel) ⟨Nat.le_of_ble_eq_true rfl, Nat.le_of_ble_eq_true rfl⟩) g_Yblind (fun U hU hW9 => ⟨hU, va_K.moved hW9.alike hK, hE.moved hW9 (fun q h1 h2 => by rw [hU, hh]), hL.moved hW9 (fun q h1 h2 => by rw [hU, hh]), va_Nw.warmM hW9 hNe⟩) (va_recv hK (hW.p rfl) (ci := 5) (q0 := 0) rfl rfl) rfl hl rfl (Nat.le_of_ble_eq_true rfl) dL_post_3 ⟨Nat.le_of_ble_eq_true rfl, Nat.le_of_ble_eq_true rfl⟩ hS (fun E ce q9 H locs hX9 hz9 hS hcell hv9 hcl9 => ?_) (fun r9 u9 H locs hr9 hW hz9 hS => ?_)
  · obtain ⟨hf9, hW⟩ := hX9
    obtain ⟨-, hEE⟩ := er_post hf9
    subst hEE
    refine vx_catch (E := xS) (name := xS) hown [] ⟨0, 8, 11, 15⟩ [] htab (fun z hz => absurd hz (by simp)) (by decide) (by decide) (hts (.classLink RL 15 "java/lang/IllegalStateException") (List.mem_of_getElem? (i := 1) rfl)) (va_Nw.use rfl hE.1.2.2.1) hcell hv9 hcl9 ?_
    refine lv_astore_n (lv' := [(2, .ref q9), (0, .ref (ad 0 0)), (1, .ref (ad 0 2))]) hx hb dL_post_11 rfl hl (by decide) rfl (fun ls hl => ?_)
    refine lv_iconst (v := 1) hx hb dL_post_12 (by decide) ?_
    refine W.widen (k := 3) (n := 61) (by omega) (by omega) ?_
    exact g_wret (u := ad) (post := fun r (u : gAd) => okW oS (f_X4_post C N) r ∧ ∀ i, u 0 i = ad 0 i) (B := fun u H => gW D A u (oW (f_X4_post C N) (fun a => Wd G u (n_X4_post C N ) (s_X4_post C N ) M (oL o a.toInt64)) (Wd G u N C M o)) H) hx hb hr hlk hh hS ⟨(by rw [hf9]; exact (by decide +kernel : (1 : Int32) = cdF oS xS)), fun _ => rfl⟩ (show gW D A ad (oW (f_X4_post C N) (fun a => Wd G ad (n_X4_post C N ) (s_X4_post C N ) M (oL o a.toInt64)) (Wd G ad N C M o)) H from by rw [hf9]; exact hW) dL_post_13
  · obtain ⟨hr8, hu8⟩ := hr9
    refine lv_i2l (v := r9.toInt64) hx hb dL_post_6 rfl ?_
    refine g_adr4 (ad := u9) (b := 0) (i := 2) (hu8 2) ?_
    refine g_lst (ad := u9) (ct' := Wd G u9 (n_X4_post C N ) (s_X4_post C N ) M (oL o r9.toInt64)) hx hb hK hW hS 1 (n := 1) (f := o) rfl rfl (j := 0) (x := r9.toInt64) (vp_in_nI (by decide : 0 < 1) (by decide)) dL_post_7 rfl (fun b' i' h9 => Wd_o b' i' h9) (fun H locs hW hS => ?_)
    refine lv_goto (tgt := 14) hx hb dL_post_8 (by decide) ?_
    refine lv_iconst (v := 0) hx hb dL_post_14 (by decide) ?_
    refine W.widen (k := 3) (n := 61) (by omega) (by omega) ?_
    exact g_wret (u := u9) (post := fun r (u : gAd) => okW oS (f_X4_post C N) r ∧ ∀ i, u 0 i = ad 0 i) (B := fun u H => gW D A u (oW (f_X4_post C N) (fun a => Wd G u (n_X4_post C N ) (s_X4_post C N ) M (oL o a.toInt64)) (Wd G u N C M o)) H) hx hb hr hlk hh hS ⟨(by have h7 : okW oS (Sum.inl r9) 0 := rfl; rw [← hr8] at h7; exact h7), hu8⟩ (show gW D A u9 (oW (f_X4_post C N) (fun a => Wd G u9 (n_X4_post C N ) (s_X4_post C N ) M (oL o a.toInt64)) (Wd G u9 N C M o)) H from by rw [hr8]; exact hW) dL_post_15
set_option maxHeartbeats 4000000 in
set_option maxRecDepth 100000 in
theorem c_L_come (l : Launch) (D : va_G) (G : gG) (A : Nat → Prop) (ad : gAd) (N : gN) (C M : gT) (o : Nat → Int64) (Hp : Heap) (hW : gW D A ad (Wd G ad N C M o) Hp) (hl0 : l.stackTraces = false) (hC : IC N C) (hA : ∀ q, Hp.size ≤ q → A q) (hR : IR N) (mi : Nat) (v : Int32) : Met l yL_come wsL_come ({ frames := 8, cells := 2, slots := 38, locals := 283 }) (va_Pc [.ref (ad 0 0), .int v, .ref (ad 0 2)] (gQZ D G Hp mi A)) (va_Qi (fun r (u : gAd) => okW oAS (f_X4_come C N v) r ∧ ∀ i, u 0 i = ad 0 i) (fun u t => gW D A u (oW (f_X4_come C N v) (fun a => Wd G u (n_X4_come C N v) (s_X4_come C N v) M (oL o a.toInt64)) (Wd G u N C M o)) t.heap) A) 2 38 A := by
  refine g_startW (cc := cL_come) (maxL := 4) (ret := (some .int)) (hh := [(0, 9, 12, 13), (0, 9, 15, 15)]) (by decide) rfl (Nat.le_of_ble_eq_true rfl) (fun p e s m below meth c ls C0 hr hlk hh hK hE hL hNe hNc htab hl => ?_)
  obtain ⟨hx, hb, hml, hown, hts⟩ := id C0
  have hown : s.vm.findClass RL = some m.cls := hown
  have hS : va_S A Hp Hp [] := va_S.rf
  have hl : lv_has ls 4 [(0, .ref (ad 0 0)), (1, .int v), (2, .ref (ad 0 2))] := hl
  refine lv_aload_n hx hb dL_come_0 rfl (lv_at hl 2 rfl) ?_
  refine lv_iconst (v := 0) hx hb dL_come_1 (by decide) ?_
  refine lv_aload_n hx hb dL_come_2 rfl (lv_at hl 0 rfl) ?_
  refine lv_iload_n hx hb dL_come_3 rfl (lv_at hl 1 rfl) ?_
  have hM9 := c_X4_come l D G A ad N C M o Hp hW hl0 hA hR mi hC v
  refine g_VXi (As := [.int v]) (rest := [.int 0, .ref (ad 0 2)]) (B := fun (u : gAd) H => gW D A u (Wd G u (n_X4_come C N v) (s_X4_come C N v) M o) H) (BX := fun E H => f_X4_come C N v = .inr E ∧ gW D A ad (Wd G ad N C M o) H) (mc := 2) (ms := 38) C0 hM9 (cwV 1 hts gL_come_X4_come rfl rfl rfl (by decide +kernel) ⟨Nat.le_of_ble_eq_true rfl, Nat.le_of_ble_eq_true rfl⟩) g_Yblind (fun U hU hW9 => ⟨hU, va_K.moved hW9.alike hK, hE.moved hW9 (fun q h1 h2 => by rw [hU, hh]), hL.moved hW9 (fun q h1 h2 => by rw [hU, hh]), va_Nw.warmM hW9 hNe⟩) (va_recv hK (hW.p rfl) (ci := 5) (q0 := 0) rfl rfl) rfl hl rfl (Nat.le_of_ble_eq_true rfl) dL_come_4 ⟨Nat.le_of_ble_eq_true rfl, Nat.le_of_ble_eq_true rfl⟩ hS (fun E ce q9 H locs hX9 hz9 hS hcell hv9 hcl9 => ?_) (fun r9 u9 H locs hr9 hW hz9 hS => ?_)
  · obtain ⟨hf9, hW⟩ := hX9
    obtain ⟨-, hEE⟩ := er_come hf9
    rcases hEE with rfl | rfl
    · refine vx_catch (E := xA) (name := xA) hown [] ⟨0, 9, 12, 13⟩ [⟨0, 9, 15, 15⟩] htab (fun z hz => absurd hz (by simp)) (by decide) (by decide) (hts (.classLink RL 13 "java/lang/IllegalArgumentException") (List.mem_of_getElem? (i := 1) rfl)) (va_Nw.use rfl hE.1.2.1) hcell hv9 hcl9 ?_
      refine lv_astore_n (lv' := [(3, .ref q9), (0, .ref (ad 0 0)), (1, .int v), (2, .ref (ad 0 2))]) hx hb dL_come_12 rfl hl (by decide) rfl (fun ls hl => ?_)
      refine lv_iconst (v := 1) hx hb dL_come_13 (by decide) ?_
      refine W.widen (k := 2) (n := 38) (by omega) (by omega) ?_
      exact g_wret (u := ad) (post := fun r (u : gAd) => okW oAS (f_X4_come C N v) r ∧ ∀ i, u 0 i = ad 0 i) (B := fun u H => gW D A u (oW (f_X4_come C N v) (fun a => Wd G u (n_X4_come C N v) (s_X4_come C N v) M (oL o a.toInt64)) (Wd G u N C M o)) H) hx hb hr hlk hh hS ⟨(by rw [hf9]; exact (by decide +kernel : (1 : Int32) = cdF oAS xA)), fun _ => rfl⟩ (show gW D A ad (oW (f_X4_come C N v) (fun a => Wd G ad (n_X4_come C N v) (s_X4_come C N v) M (oL o a.toInt64)) (Wd G ad N C M o)) H from by rw [hf9]; exact hW) dL_come_14
    · refine vx_catch (E := xS) (name := xS) hown [⟨0, 9, 12, 13⟩] ⟨0, 9, 15, 15⟩ [] htab (fun z hz => by
          cases List.mem_singleton.mp hz
          exact Or.inr ⟨by decide, xA, hts (.classLink RL 13 "java/lang/IllegalArgumentException") (List.mem_of_getElem? (i := 1) rfl), hNc.1⟩) (by decide) (by decide) (hts (.classLink RL 15 "java/lang/IllegalStateException") (List.mem_of_getElem? (i := 2) rfl)) (va_Nw.use rfl hE.1.2.2.1) hcell hv9 hcl9 ?_
      refine lv_astore_n (lv' := [(3, .ref q9), (0, .ref (ad 0 0)), (1, .int v), (2, .ref (ad 0 2))]) hx hb dL_come_15 rfl hl (by decide) rfl (fun ls hl => ?_)
      refine lv_iconst (v := 2) hx hb dL_come_16 (by decide) ?_
      refine W.widen (k := 2) (n := 38) (by omega) (by omega) ?_
      exact g_wret (u := ad) (post := fun r (u : gAd) => okW oAS (f_X4_come C N v) r ∧ ∀ i, u 0 i = ad 0 i) (B := fun u H => gW D A u (oW (f_X4_come C N v) (fun a => Wd G u (n_X4_come C N v) (s_X4_come C N v) M (oL o a.toInt64)) (Wd G u N C M o)) H) hx hb hr hlk hh hS ⟨(by rw [hf9]; exact (by decide +kernel : (2 : Int32) = cdF oAS xS)), fun _ => rfl⟩ (show gW D A ad (oW (f_X4_come C N v) (fun a => Wd G ad (n_X4_come C N v) (s_X4_come C N v) M (oL o a.toInt64)) (Wd G ad N C M o)) H from by rw [hf9]; exact hW) dL_come_17
  · obtain ⟨hr8, hu8⟩ := hr9
    refine lv_i2l (v := r9.toInt64) hx hb dL_come_7 rfl ?_
    refine g_adr4 (ad := u9) (b := 0) (i := 2) (hu8 2) ?_
    refine g_lst (ad := u9) (ct' := Wd G u9 (n_X4_come C N v) (s_X4_come C N v) M (oL o r9.toInt64)) hx hb hK hW hS 1 (n := 1) (f := o) rfl rfl (j := 0) (x := r9.toInt64) (vp_in_nI (by decide : 0 < 1) (by decide)) dL_come_8 rfl (fun b' i' h9 => Wd_o b' i' h9) (fun H locs hW hS => ?_)
    refine lv_goto (tgt := 18) hx hb dL_come_9 (by decide) ?_
    refine lv_iconst (v := 0) hx hb dL_come_18 (by decide) ?_
    refine W.widen (k := 2) (n := 38) (by omega) (by omega) ?_
    exact g_wret (u := u9) (post := fun r (u : gAd) => okW oAS (f_X4_come C N v) r ∧ ∀ i, u 0 i = ad 0 i) (B := fun u H => gW D A u (oW (f_X4_come C N v) (fun a => Wd G u (n_X4_come C N v) (s_X4_come C N v) M (oL o a.toInt64)) (Wd G u N C M o)) H) hx hb hr hlk hh hS ⟨(by have h7 : okW oAS (Sum.inl r9) 0 := rfl; rw [← hr8] at h7; exact h7), hu8⟩ (show gW D A u9 (oW (f_X4_come C N v) (fun a => Wd G u9 (n_X4_come C N v) (s_X4_come C N v) M (oL o a.toInt64)) (Wd G u9 N C M o)) H from by rw [hr8]; exact hW) dL_come_19
set_option maxHeartbeats 4000000 in
set_option maxRecDepth 100000 in
theorem c_L_tell (l : Launch) (D : va_G) (G : gG) (A : Nat → Prop) (ad : gAd) (N : gN) (C M : gT) (o : Nat → Int64) (Hp : Heap) (hW : gW D A ad (Wd G ad N C M o) Hp) (hl0 : l.stackTraces = false) (hC : IC N C) (hA : ∀ q, Hp.size ≤ q → A q) (hR : IR N) (mi : Nat) (v w x : Int32) : Met l yL_tell wsL_tell ({ frames := 8, cells := 3, slots := 47, locals := 288 }) (va_Pc [.ref (ad 0 0), .int v, .int w, .int x, .ref (ad 0 2)] (gQZ D G Hp mi A)) (va_Qi (fun r (u : gAd) => okW oIS (f_X4_tell C N v w x) r ∧ ∀ i, u 0 i = ad 0 i) (fun u t => gW D A u (oW (f_X4_tell C N v w x) (fun a => Wd G u (n_X4_tell C N v w x) (s_X4_tell C N v w x) M (oL o a.toInt64)) (Wd G u N C M o)) t.heap) A) 3 47 A := by
  refine g_startW (cc := cL_tell) (maxL := 6) (ret := (some .int)) (hh := [(0, 12, 15, 21), (0, 12, 19, 15)]) (by decide) rfl (Nat.le_of_ble_eq_true rfl) (fun p e s m below meth c ls C0 hr hlk hh hK hE hL hNe hNc htab hl => ?_)
  obtain ⟨hx, hb, hml, hown, hts⟩ := id C0
  have hown : s.vm.findClass RL = some m.cls := hown
  have hS : va_S A Hp Hp [] := va_S.rf
  have hl : lv_has ls 6 [(0, .ref (ad 0 0)), (1, .int v), (2, .int w), (3, .int x), (4, .ref (ad 0 2))] := hl
  refine lv_aload hx hb dL_tell_0 (lv_at hl 4 rfl) ?_
  refine lv_iconst (v := 0) hx hb dL_tell_2 (by decide) ?_
  refine lv_aload_n hx hb dL_tell_3 rfl (lv_at hl 0 rfl) ?_
  refine lv_iload_n hx hb dL_tell_4 rfl (lv_at hl 1 rfl) ?_
  refine lv_iload_n hx hb dL_tell_5 rfl (lv_at hl 2 rfl) ?_
  refine lv_iload_n hx hb dL_tell_6 rfl (lv_at hl 3 rfl) ?_
  have hM9 := c_X4_tell l D G A ad N C M o Hp hW hl0 hA hR mi hC v w x
  refine g_VXi (As := [.int v, .int w, .int x]) (rest := [.int 0, .ref (ad 0 2)]) (B := fun (u : gAd) H => gW D A u (Wd G u (n_X4_tell C N v w x) (s_X4_tell C N v w x) M o) H) (BX := fun E H => f_X4_tell C N v w x = .inr E ∧ gW D A ad (Wd G ad N C M o) H) (mc := 3) (ms := 47) C0 hM9 (cwV 3 hts gL_tell_X4_tell rfl rfl rfl (by decide +kernel) ⟨Nat.le_of_ble_eq_true rfl, Nat.le_of_ble_eq_true rfl⟩) g_Yblind (fun U hU hW9 => ⟨hU, va_K.moved hW9.alike hK, hE.moved hW9 (fun q h1 h2 => by rw [hU, hh]), hL.moved hW9 (fun q h1 h2 => by rw [hU, hh]), va_Nw.warmM hW9 hNe⟩) (va_recv hK (hW.p rfl) (ci := 5) (q0 := 0) rfl rfl) rfl hl rfl (Nat.le_of_ble_eq_true rfl) dL_tell_7 ⟨Nat.le_of_ble_eq_true rfl, Nat.le_of_ble_eq_true rfl⟩ hS (fun E ce q9 H locs hX9 hz9 hS hcell hv9 hcl9 => ?_) (fun r9 u9 H locs hr9 hW hz9 hS => ?_)
  · obtain ⟨hf9, hW⟩ := hX9
    obtain ⟨-, hEE⟩ := er_tell hf9
    rcases hEE with rfl | rfl
    · refine vx_catch (E := xI) (name := xI) hown [] ⟨0, 12, 15, 21⟩ [⟨0, 12, 19, 15⟩] htab (fun z hz => absurd hz (by simp)) (by decide) (by decide) (hts (.classLink RL 21 "java/lang/IndexOutOfBoundsException") (List.mem_of_getElem? (i := 1) rfl)) (va_Nw.use rfl hE.1.1) hcell hv9 hcl9 ?_
      refine lv_astore (lv' := [(5, .ref q9), (0, .ref (ad 0 0)), (1, .int v), (2, .int w), (3, .int x), (4, .ref (ad 0 2))]) hx hb dL_tell_15 hl (by decide) rfl (fun ls hl => ?_)
      refine lv_iconst (v := 1) hx hb dL_tell_17 (by decide) ?_
      refine W.widen (k := 3) (n := 47) (by omega) (by omega) ?_
      exact g_wret (u := ad) (post := fun r (u : gAd) => okW oIS (f_X4_tell C N v w x) r ∧ ∀ i, u 0 i = ad 0 i) (B := fun u H => gW D A u (oW (f_X4_tell C N v w x) (fun a => Wd G u (n_X4_tell C N v w x) (s_X4_tell C N v w x) M (oL o a.toInt64)) (Wd G u N C M o)) H) hx hb hr hlk hh hS ⟨(by rw [hf9]; exact (by decide +kernel : (1 : Int32) = cdF oIS xI)), fun _ => rfl⟩ (show gW D A ad (oW (f_X4_tell C N v w x) (fun a => Wd G ad (n_X4_tell C N v w x) (s_X4_tell C N v w x) M (oL o a.toInt64)) (Wd G ad N C M o)) H from by rw [hf9]; exact hW) dL_tell_18
    · refine vx_catch (E := xS) (name := xS) hown [⟨0, 12, 15, 21⟩] ⟨0, 12, 19, 15⟩ [] htab (fun z hz => by
          cases List.mem_singleton.mp hz
          exact Or.inr ⟨by decide, xI, hts (.classLink RL 21 "java/lang/IndexOutOfBoundsException") (List.mem_of_getElem? (i := 1) rfl), hNc.2.2⟩) (by decide) (by decide) (hts (.classLink RL 15 "java/lang/IllegalStateException") (List.mem_of_getElem? (i := 2) rfl)) (va_Nw.use rfl hE.1.2.2.1) hcell hv9 hcl9 ?_
      refine lv_astore (lv' := [(5, .ref q9), (0, .ref (ad 0 0)), (1, .int v), (2, .int w), (3, .int x), (4, .ref (ad 0 2))]) hx hb dL_tell_19 hl (by decide) rfl (fun ls hl => ?_)
      refine lv_iconst (v := 2) hx hb dL_tell_21 (by decide) ?_
      refine W.widen (k := 3) (n := 47) (by omega) (by omega) ?_
      exact g_wret (u := ad) (post := fun r (u : gAd) => okW oIS (f_X4_tell C N v w x) r ∧ ∀ i, u 0 i = ad 0 i) (B := fun u H => gW D A u (oW (f_X4_tell C N v w x) (fun a => Wd G u (n_X4_tell C N v w x) (s_X4_tell C N v w x) M (oL o a.toInt64)) (Wd G u N C M o)) H) hx hb hr hlk hh hS ⟨(by rw [hf9]; exact (by decide +kernel : (2 : Int32) = cdF oIS xS)), fun _ => rfl⟩ (show gW D A ad (oW (f_X4_tell C N v w x) (fun a => Wd G ad (n_X4_tell C N v w x) (s_X4_tell C N v w x) M (oL o a.toInt64)) (Wd G ad N C M o)) H from by rw [hf9]; exact hW) dL_tell_22
  · obtain ⟨hr8, hu8⟩ := hr9
    refine lv_i2l (v := r9.toInt64) hx hb dL_tell_10 rfl ?_
    refine g_adr4 (ad := u9) (b := 0) (i := 2) (hu8 2) ?_
    refine g_lst (ad := u9) (ct' := Wd G u9 (n_X4_tell C N v w x) (s_X4_tell C N v w x) M (oL o r9.toInt64)) hx hb hK hW hS 1 (n := 1) (f := o) rfl rfl (j := 0) (x := r9.toInt64) (vp_in_nI (by decide : 0 < 1) (by decide)) dL_tell_11 rfl (fun b' i' h9 => Wd_o b' i' h9) (fun H locs hW hS => ?_)
    refine lv_goto (tgt := 23) hx hb dL_tell_12 (by decide) ?_
    refine lv_iconst (v := 0) hx hb dL_tell_23 (by decide) ?_
    refine W.widen (k := 3) (n := 47) (by omega) (by omega) ?_
    exact g_wret (u := u9) (post := fun r (u : gAd) => okW oIS (f_X4_tell C N v w x) r ∧ ∀ i, u 0 i = ad 0 i) (B := fun u H => gW D A u (oW (f_X4_tell C N v w x) (fun a => Wd G u (n_X4_tell C N v w x) (s_X4_tell C N v w x) M (oL o a.toInt64)) (Wd G u N C M o)) H) hx hb hr hlk hh hS ⟨(by have h7 : okW oIS (Sum.inl r9) 0 := rfl; rw [← hr8] at h7; exact h7), hu8⟩ (show gW D A u9 (oW (f_X4_tell C N v w x) (fun a => Wd G u9 (n_X4_tell C N v w x) (s_X4_tell C N v w x) M (oL o a.toInt64)) (Wd G u9 N C M o)) H from by rw [hr8]; exact hW) dL_tell_24
set_option maxHeartbeats 4000000 in
set_option maxRecDepth 100000 in
theorem c_L_reserve (l : Launch) (D : va_G) (G : gG) (A : Nat → Prop) (ad : gAd) (N : gN) (C M : gT) (o : Nat → Int64) (Hp : Heap) (hW : gW D A ad (Wd G ad N C M o) Hp) (hl0 : l.stackTraces = false) (hC : IC N C) (mi : Nat) (v w : Int32) : Met l yL_reserve wsL_reserve ({ frames := 7, cells := 1, slots := 6, locals := 114 }) (va_Pc [.ref (ad 0 0), .int v, .int w, .ref (ad 0 2)] (gQZ D G Hp mi A)) (va_Qi (fun r (_ : Unit) => okW oIS (f_X4_reserve C N v w) r) (fun _ t => gW D A ad (oW (f_X4_reserve C N v w) (fun a => Wd G ad N (s_X4_reserve C N v w) M (oL o a.toInt64)) (Wd G ad N C M o)) t.heap) A) 1 6 A := by
  refine g_startW (cc := cL_reserve) (maxL := 5) (ret := (some .int)) (hh := [(0, 10, 13, 21), (0, 10, 17, 15)]) (by decide) rfl (Nat.le_of_ble_eq_true rfl) (fun p e s m below meth c ls C0 hr hlk hh hK hE hL hNe hNc htab hl => ?_)
  obtain ⟨hx, hb, hml, hown, hts⟩ := id C0
  have hown : s.vm.findClass RL = some m.cls := hown
  have hS : va_S A Hp Hp [] := va_S.rf
  have hl : lv_has ls 5 [(0, .ref (ad 0 0)), (1, .int v), (2, .int w), (3, .ref (ad 0 2))] := hl
  refine lv_aload_n hx hb dL_reserve_0 rfl (lv_at hl 3 rfl) ?_
  refine lv_iconst (v := 0) hx hb dL_reserve_1 (by decide) ?_
  refine lv_aload_n hx hb dL_reserve_2 rfl (lv_at hl 0 rfl) ?_
  refine lv_iload_n hx hb dL_reserve_3 rfl (lv_at hl 1 rfl) ?_
  refine lv_iload_n hx hb dL_reserve_4 rfl (lv_at hl 2 rfl) ?_
  have hM9 := c_X4_reserve l D G A ad N C M o Hp hW hl0 hC v w
  refine g_VXi (As := [.int v, .int w]) (rest := [.int 0, .ref (ad 0 2)]) (B := fun (_ : Unit) H => gW D A ad (Wd G ad N (s_X4_reserve C N v w) M o) H) (BX := fun E H => f_X4_reserve C N v w = .inr E ∧ gW D A ad (Wd G ad N C M o) H) (mc := 1) (ms := 6) C0 hM9 (cwV 2 hts gL_reserve_X4_reserve rfl rfl rfl (by decide +kernel) ⟨Nat.le_of_ble_eq_true rfl, Nat.le_of_ble_eq_true rfl⟩) g_Xblind (fun U hU hW9 => ⟨hU, va_K.moved hW9.alike hK, hE.moved hW9 (fun q h1 h2 => by rw [hU, hh])⟩) (va_recv hK (hW.p rfl) (ci := 5) (q0 := 0) rfl rfl) rfl hl rfl (Nat.le_of_ble_eq_true rfl) dL_reserve_5 ⟨Nat.le_of_ble_eq_true rfl, Nat.le_of_ble_eq_true rfl⟩ hS (fun E ce q9 H locs hX9 hz9 hS hcell hv9 hcl9 => ?_) (fun r9 u9 H locs hr9 hW hz9 hS => ?_)
  · obtain ⟨hf9, hW⟩ := hX9
    obtain ⟨-, hEE⟩ := er_reserve hf9
    rcases hEE with rfl | rfl
    · refine vx_catch (E := xI) (name := xI) hown [] ⟨0, 10, 13, 21⟩ [⟨0, 10, 17, 15⟩] htab (fun z hz => absurd hz (by simp)) (by decide) (by decide) (hts (.classLink RL 21 "java/lang/IndexOutOfBoundsException") (List.mem_of_getElem? (i := 1) rfl)) (va_Nw.use rfl hE.1.1) hcell hv9 hcl9 ?_
      refine lv_astore (lv' := [(4, .ref q9), (0, .ref (ad 0 0)), (1, .int v), (2, .int w), (3, .ref (ad 0 2))]) hx hb dL_reserve_13 hl (by decide) rfl (fun ls hl => ?_)
      refine lv_iconst (v := 1) hx hb dL_reserve_15 (by decide) ?_
      refine W.widen (k := 1) (n := 6) (by omega) (by omega) ?_
      exact g_wret (u := ()) (post := fun r (_ : Unit) => okW oIS (f_X4_reserve C N v w) r) (B := fun (_ : Unit) H => gW D A ad (oW (f_X4_reserve C N v w) (fun a => Wd G ad N (s_X4_reserve C N v w) M (oL o a.toInt64)) (Wd G ad N C M o)) H) hx hb hr hlk hh hS (by rw [hf9]; exact (by decide +kernel : (1 : Int32) = cdF oIS xI)) (show gW D A ad (oW (f_X4_reserve C N v w) (fun a => Wd G ad N (s_X4_reserve C N v w) M (oL o a.toInt64)) (Wd G ad N C M o)) H from by rw [hf9]; exact hW) dL_reserve_16
    · refine vx_catch (E := xS) (name := xS) hown [⟨0, 10, 13, 21⟩] ⟨0, 10, 17, 15⟩ [] htab (fun z hz => by
          cases List.mem_singleton.mp hz
          exact Or.inr ⟨by decide, xI, hts (.classLink RL 21 "java/lang/IndexOutOfBoundsException") (List.mem_of_getElem? (i := 1) rfl), hNc.2.2⟩) (by decide) (by decide) (hts (.classLink RL 15 "java/lang/IllegalStateException") (List.mem_of_getElem? (i := 2) rfl)) (va_Nw.use rfl hE.1.2.2.1) hcell hv9 hcl9 ?_
      refine lv_astore (lv' := [(4, .ref q9), (0, .ref (ad 0 0)), (1, .int v), (2, .int w), (3, .ref (ad 0 2))]) hx hb dL_reserve_17 hl (by decide) rfl (fun ls hl => ?_)
      refine lv_iconst (v := 2) hx hb dL_reserve_19 (by decide) ?_
      refine W.widen (k := 1) (n := 6) (by omega) (by omega) ?_
      exact g_wret (u := ()) (post := fun r (_ : Unit) => okW oIS (f_X4_reserve C N v w) r) (B := fun (_ : Unit) H => gW D A ad (oW (f_X4_reserve C N v w) (fun a => Wd G ad N (s_X4_reserve C N v w) M (oL o a.toInt64)) (Wd G ad N C M o)) H) hx hb hr hlk hh hS (by rw [hf9]; exact (by decide +kernel : (2 : Int32) = cdF oIS xS)) (show gW D A ad (oW (f_X4_reserve C N v w) (fun a => Wd G ad N (s_X4_reserve C N v w) M (oL o a.toInt64)) (Wd G ad N C M o)) H from by rw [hf9]; exact hW) dL_reserve_20
  · have hr8 := hr9
    refine lv_i2l (v := r9.toInt64) hx hb dL_reserve_8 rfl ?_
    refine g_lst (ad := ad) (ct' := Wd G ad N (s_X4_reserve C N v w) M (oL o r9.toInt64)) hx hb hK hW hS 1 (n := 1) (f := o) rfl rfl (j := 0) (x := r9.toInt64) (vp_in_nI (by decide : 0 < 1) (by decide)) dL_reserve_9 rfl (fun b' i' h9 => Wd_o b' i' h9) (fun H locs hW hS => ?_)
    refine lv_goto (tgt := 21) hx hb dL_reserve_10 (by decide) ?_
    refine lv_iconst (v := 0) hx hb dL_reserve_21 (by decide) ?_
    refine W.widen (k := 1) (n := 6) (by omega) (by omega) ?_
    exact g_wret (u := ()) (post := fun r (_ : Unit) => okW oIS (f_X4_reserve C N v w) r) (B := fun (_ : Unit) H => gW D A ad (oW (f_X4_reserve C N v w) (fun a => Wd G ad N (s_X4_reserve C N v w) M (oL o a.toInt64)) (Wd G ad N C M o)) H) hx hb hr hlk hh hS (by have h7 : okW oIS (Sum.inl r9) 0 := rfl; rw [← hr8] at h7; exact h7) (show gW D A ad (oW (f_X4_reserve C N v w) (fun a => Wd G ad N (s_X4_reserve C N v w) M (oL o a.toInt64)) (Wd G ad N C M o)) H from by rw [hr8]; exact hW) dL_reserve_22
set_option maxHeartbeats 4000000 in
set_option maxRecDepth 100000 in
theorem c_L_pass (l : Launch) (D : va_G) (G : gG) (A : Nat → Prop) (ad : gAd) (N : gN) (C M : gT) (o : Nat → Int64) (Hp : Heap) (hW : gW D A ad (Wd G ad N C M o) Hp) (hl0 : l.stackTraces = false) (hC : IC N C) (mi : Nat) (v : Int32) : Met l yL_pass wsL_pass ({ frames := 7, cells := 1, slots := 6, locals := 112 }) (va_Pc [.ref (ad 0 0), .int v, .ref (ad 0 2)] (gQZ D G Hp mi A)) (va_Qi (fun r (_ : Unit) => okW oIS (f_X4_pass C N v) r) (fun _ t => gW D A ad (oW (f_X4_pass C N v) (fun a => Wd G ad N (s_X4_pass C N v) M (oL o (if a = 0 then (0 : Int64) else 1))) (Wd G ad N C M o)) t.heap) A) 1 6 A := by
  refine g_startW (cc := cL_pass) (maxL := 4) (ret := (some .int)) (hh := [(0, 16, 19, 21), (0, 16, 22, 15)]) (by decide) rfl (Nat.le_of_ble_eq_true rfl) (fun p e s m below meth c ls C0 hr hlk hh hK hE hL hNe hNc htab hl => ?_)
  obtain ⟨hx, hb, hml, hown, hts⟩ := id C0
  have hown : s.vm.findClass RL = some m.cls := hown
  have hS : va_S A Hp Hp [] := va_S.rf
  have hl : lv_has ls 4 [(0, .ref (ad 0 0)), (1, .int v), (2, .ref (ad 0 2))] := hl
  refine lv_aload_n hx hb dL_pass_0 rfl (lv_at hl 2 rfl) ?_
  refine lv_iconst (v := 0) hx hb dL_pass_1 (by decide) ?_
  refine lv_aload_n hx hb dL_pass_2 rfl (lv_at hl 0 rfl) ?_
  refine lv_iload_n hx hb dL_pass_3 rfl (lv_at hl 1 rfl) ?_
  have hM9 := c_X4_pass l D G A ad N C M o Hp hW hl0 hC v
  refine g_VXi (As := [.int v]) (rest := [.int 0, .ref (ad 0 2)]) (B := fun (_ : Unit) H => gW D A ad (Wd G ad N (s_X4_pass C N v) M o) H) (BX := fun E H => f_X4_pass C N v = .inr E ∧ gW D A ad (Wd G ad N C M o) H) (mc := 1) (ms := 6) C0 hM9 (cwV 1 hts gL_pass_X4_pass rfl rfl rfl (by decide +kernel) ⟨Nat.le_of_ble_eq_true rfl, Nat.le_of_ble_eq_true rfl⟩) g_Xblind (fun U hU hW9 => ⟨hU, va_K.moved hW9.alike hK, hE.moved hW9 (fun q h1 h2 => by rw [hU, hh])⟩) (va_recv hK (hW.p rfl) (ci := 5) (q0 := 0) rfl rfl) rfl hl rfl (Nat.le_of_ble_eq_true rfl) dL_pass_4 ⟨Nat.le_of_ble_eq_true rfl, Nat.le_of_ble_eq_true rfl⟩ hS (fun E ce q9 H locs hX9 hz9 hS hcell hv9 hcl9 => ?_) (fun r9 u9 H locs hr9 hW hz9 hS => ?_)
  · obtain ⟨hf9, hW⟩ := hX9
    obtain ⟨-, hEE⟩ := er_pass hf9
    rcases hEE with rfl | rfl
    · refine vx_catch (E := xI) (name := xI) hown [] ⟨0, 16, 19, 21⟩ [⟨0, 16, 22, 15⟩] htab (fun z hz => absurd hz (by simp)) (by decide) (by decide) (hts (.classLink RL 21 "java/lang/IndexOutOfBoundsException") (List.mem_of_getElem? (i := 1) rfl)) (va_Nw.use rfl hE.1.1) hcell hv9 hcl9 ?_
      refine lv_astore_n (lv' := [(3, .ref q9), (0, .ref (ad 0 0)), (1, .int v), (2, .ref (ad 0 2))]) hx hb dL_pass_19 rfl hl (by decide) rfl (fun ls hl => ?_)
      refine lv_iconst (v := 1) hx hb dL_pass_20 (by decide) ?_
      refine W.widen (k := 1) (n := 6) (by omega) (by omega) ?_
      exact g_wret (u := ()) (post := fun r (_ : Unit) => okW oIS (f_X4_pass C N v) r) (B := fun (_ : Unit) H => gW D A ad (oW (f_X4_pass C N v) (fun a => Wd G ad N (s_X4_pass C N v) M (oL o (if a = 0 then (0 : Int64) else 1))) (Wd G ad N C M o)) H) hx hb hr hlk hh hS (by rw [hf9]; exact (by decide +kernel : (1 : Int32) = cdF oIS xI)) (show gW D A ad (oW (f_X4_pass C N v) (fun a => Wd G ad N (s_X4_pass C N v) M (oL o (if a = 0 then (0 : Int64) else 1))) (Wd G ad N C M o)) H from by rw [hf9]; exact hW) dL_pass_21
    · refine vx_catch (E := xS) (name := xS) hown [⟨0, 16, 19, 21⟩] ⟨0, 16, 22, 15⟩ [] htab (fun z hz => by
          cases List.mem_singleton.mp hz
          exact Or.inr ⟨by decide, xI, hts (.classLink RL 21 "java/lang/IndexOutOfBoundsException") (List.mem_of_getElem? (i := 1) rfl), hNc.2.2⟩) (by decide) (by decide) (hts (.classLink RL 15 "java/lang/IllegalStateException") (List.mem_of_getElem? (i := 2) rfl)) (va_Nw.use rfl hE.1.2.2.1) hcell hv9 hcl9 ?_
      refine lv_astore_n (lv' := [(3, .ref q9), (0, .ref (ad 0 0)), (1, .int v), (2, .ref (ad 0 2))]) hx hb dL_pass_22 rfl hl (by decide) rfl (fun ls hl => ?_)
      refine lv_iconst (v := 2) hx hb dL_pass_23 (by decide) ?_
      refine W.widen (k := 1) (n := 6) (by omega) (by omega) ?_
      exact g_wret (u := ()) (post := fun r (_ : Unit) => okW oIS (f_X4_pass C N v) r) (B := fun (_ : Unit) H => gW D A ad (oW (f_X4_pass C N v) (fun a => Wd G ad N (s_X4_pass C N v) M (oL o (if a = 0 then (0 : Int64) else 1))) (Wd G ad N C M o)) H) hx hb hr hlk hh hS (by rw [hf9]; exact (by decide +kernel : (2 : Int32) = cdF oIS xS)) (show gW D A ad (oW (f_X4_pass C N v) (fun a => Wd G ad N (s_X4_pass C N v) M (oL o (if a = 0 then (0 : Int64) else 1))) (Wd G ad N C M o)) H from by rw [hf9]; exact hW) dL_pass_24
  · have hr8 := hr9
    refine lv_if_eq (tgt := 14) hx hb dL_pass_7 (by decide) (fun c9 => ?_) (fun c9 => ?_)
    · refine lv_lconst (v := 0) hx hb dL_pass_14 (by decide) ?_
      refine g_lst (ad := ad) (ct' := Wd G ad N (s_X4_pass C N v) M (oL o 0)) hx hb hK hW hS 1 (n := 1) (f := o) rfl rfl (j := 0) (x := 0) (vp_in_nI (by decide : 0 < 1) (by decide)) dL_pass_15 rfl (fun b' i' h9 => Wd_o b' i' h9) (fun H locs hW hS => ?_)
      refine lv_goto (tgt := 25) hx hb dL_pass_16 (by decide) ?_
      refine lv_iconst (v := 0) hx hb dL_pass_25 (by decide) ?_
      refine W.widen (k := 1) (n := 6) (by omega) (by omega) ?_
      exact g_wret (u := ()) (post := fun r (_ : Unit) => okW oIS (f_X4_pass C N v) r) (B := fun (_ : Unit) H => gW D A ad (oW (f_X4_pass C N v) (fun a => Wd G ad N (s_X4_pass C N v) M (oL o (if a = 0 then (0 : Int64) else 1))) (Wd G ad N C M o)) H) hx hb hr hlk hh hS (by have h7 : okW oIS (Sum.inl r9) 0 := rfl; rw [← hr8] at h7; exact h7) (show gW D A ad (oW (f_X4_pass C N v) (fun a => Wd G ad N (s_X4_pass C N v) M (oL o (if a = 0 then (0 : Int64) else 1))) (Wd G ad N C M o)) H from by rw [hr8]; show gW D A ad (Wd G ad N (s_X4_pass C N v) M (oL o (if r9 = 0 then (0 : Int64) else 1))) H; rw [if_pos c9]; exact hW) dL_pass_26
    · refine lv_lconst (v := 1) hx hb dL_pass_10 (by decide) ?_
      refine lv_goto (tgt := 15) hx hb dL_pass_11 (by decide) ?_
      refine g_lst (ad := ad) (ct' := Wd G ad N (s_X4_pass C N v) M (oL o 1)) hx hb hK hW hS 1 (n := 1) (f := o) rfl rfl (j := 0) (x := 1) (vp_in_nI (by decide : 0 < 1) (by decide)) dL_pass_15 rfl (fun b' i' h9 => Wd_o b' i' h9) (fun H locs hW hS => ?_)
      refine lv_goto (tgt := 25) hx hb dL_pass_16 (by decide) ?_
      refine lv_iconst (v := 0) hx hb dL_pass_25 (by decide) ?_
      refine W.widen (k := 1) (n := 6) (by omega) (by omega) ?_
      exact g_wret (u := ()) (post := fun r (_ : Unit) => okW oIS (f_X4_pass C N v) r) (B := fun (_ : Unit) H => gW D A ad (oW (f_X4_pass C N v) (fun a => Wd G ad N (s_X4_pass C N v) M (oL o (if a = 0 then (0 : Int64) else 1))) (Wd G ad N C M o)) H) hx hb hr hlk hh hS (by have h7 : okW oIS (Sum.inl r9) 0 := rfl; rw [← hr8] at h7; exact h7) (show gW D A ad (oW (f_X4_pass C N v) (fun a => Wd G ad N (s_X4_pass C N v) M (oL o (if a = 0 then (0 : Int64) else 1))) (Wd G ad N C M o)) H from by rw [hr8]; show gW D A ad (Wd G ad N (s_X4_pass C N v) M (oL o (if r9 = 0 then (0 : Int64) else 1))) H; rw [if_neg c9]; exact hW) dL_pass_26
set_option maxHeartbeats 4000000 in
set_option maxRecDepth 100000 in
theorem c_L_send (l : Launch) (D : va_G) (G : gG) (A : Nat → Prop) (ad : gAd) (N : gN) (C M : gT) (o : Nat → Int64) (Hp : Heap) (hW : gW D A ad (Wd G ad N C M o) Hp) (hl0 : l.stackTraces = false) (hC : IC N C) (mi : Nat) (v : Int32) : Met l yL_send wsL_send ({ frames := 7, cells := 1, slots := 6, locals := 114 }) (va_Pc [.ref (ad 0 0), .int v, .ref (ad 0 2)] (gQZ D G Hp mi A)) (va_Qi (fun r (_ : Unit) => okW oIS (f_X4_send C N v) r) (fun _ t => gW D A ad (oW (f_X4_send C N v) (fun a => Wd G ad N (s_X4_send C N v) M (oL o a.toInt64)) (Wd G ad N C M o)) t.heap) A) 1 6 A := by
  refine g_startW (cc := cL_send) (maxL := 4) (ret := (some .int)) (hh := [(0, 9, 12, 21), (0, 9, 15, 15)]) (by decide) rfl (Nat.le_of_ble_eq_true rfl) (fun p e s m below meth c ls C0 hr hlk hh hK hE hL hNe hNc htab hl => ?_)
  obtain ⟨hx, hb, hml, hown, hts⟩ := id C0
  have hown : s.vm.findClass RL = some m.cls := hown
  have hS : va_S A Hp Hp [] := va_S.rf
  have hl : lv_has ls 4 [(0, .ref (ad 0 0)), (1, .int v), (2, .ref (ad 0 2))] := hl
  refine lv_aload_n hx hb dL_send_0 rfl (lv_at hl 2 rfl) ?_
  refine lv_iconst (v := 0) hx hb dL_send_1 (by decide) ?_
  refine lv_aload_n hx hb dL_send_2 rfl (lv_at hl 0 rfl) ?_
  refine lv_iload_n hx hb dL_send_3 rfl (lv_at hl 1 rfl) ?_
  have hM9 := c_X4_send l D G A ad N C M o Hp hW hl0 hC v
  refine g_VXi (As := [.int v]) (rest := [.int 0, .ref (ad 0 2)]) (B := fun (_ : Unit) H => gW D A ad (Wd G ad N (s_X4_send C N v) M o) H) (BX := fun E H => f_X4_send C N v = .inr E ∧ gW D A ad (Wd G ad N C M o) H) (mc := 1) (ms := 6) C0 hM9 (cwV 1 hts gL_send_X4_send rfl rfl rfl (by decide +kernel) ⟨Nat.le_of_ble_eq_true rfl, Nat.le_of_ble_eq_true rfl⟩) g_Xblind (fun U hU hW9 => ⟨hU, va_K.moved hW9.alike hK, hE.moved hW9 (fun q h1 h2 => by rw [hU, hh])⟩) (va_recv hK (hW.p rfl) (ci := 5) (q0 := 0) rfl rfl) rfl hl rfl (Nat.le_of_ble_eq_true rfl) dL_send_4 ⟨Nat.le_of_ble_eq_true rfl, Nat.le_of_ble_eq_true rfl⟩ hS (fun E ce q9 H locs hX9 hz9 hS hcell hv9 hcl9 => ?_) (fun r9 u9 H locs hr9 hW hz9 hS => ?_)
  · obtain ⟨hf9, hW⟩ := hX9
    obtain ⟨-, hEE⟩ := er_send hf9
    rcases hEE with rfl | rfl
    · refine vx_catch (E := xI) (name := xI) hown [] ⟨0, 9, 12, 21⟩ [⟨0, 9, 15, 15⟩] htab (fun z hz => absurd hz (by simp)) (by decide) (by decide) (hts (.classLink RL 21 "java/lang/IndexOutOfBoundsException") (List.mem_of_getElem? (i := 1) rfl)) (va_Nw.use rfl hE.1.1) hcell hv9 hcl9 ?_
      refine lv_astore_n (lv' := [(3, .ref q9), (0, .ref (ad 0 0)), (1, .int v), (2, .ref (ad 0 2))]) hx hb dL_send_12 rfl hl (by decide) rfl (fun ls hl => ?_)
      refine lv_iconst (v := 1) hx hb dL_send_13 (by decide) ?_
      refine W.widen (k := 1) (n := 6) (by omega) (by omega) ?_
      exact g_wret (u := ()) (post := fun r (_ : Unit) => okW oIS (f_X4_send C N v) r) (B := fun (_ : Unit) H => gW D A ad (oW (f_X4_send C N v) (fun a => Wd G ad N (s_X4_send C N v) M (oL o a.toInt64)) (Wd G ad N C M o)) H) hx hb hr hlk hh hS (by rw [hf9]; exact (by decide +kernel : (1 : Int32) = cdF oIS xI)) (show gW D A ad (oW (f_X4_send C N v) (fun a => Wd G ad N (s_X4_send C N v) M (oL o a.toInt64)) (Wd G ad N C M o)) H from by rw [hf9]; exact hW) dL_send_14
    · refine vx_catch (E := xS) (name := xS) hown [⟨0, 9, 12, 21⟩] ⟨0, 9, 15, 15⟩ [] htab (fun z hz => by
          cases List.mem_singleton.mp hz
          exact Or.inr ⟨by decide, xI, hts (.classLink RL 21 "java/lang/IndexOutOfBoundsException") (List.mem_of_getElem? (i := 1) rfl), hNc.2.2⟩) (by decide) (by decide) (hts (.classLink RL 15 "java/lang/IllegalStateException") (List.mem_of_getElem? (i := 2) rfl)) (va_Nw.use rfl hE.1.2.2.1) hcell hv9 hcl9 ?_
      refine lv_astore_n (lv' := [(3, .ref q9), (0, .ref (ad 0 0)), (1, .int v), (2, .ref (ad 0 2))]) hx hb dL_send_15 rfl hl (by decide) rfl (fun ls hl => ?_)
      refine lv_iconst (v := 2) hx hb dL_send_16 (by decide) ?_
      refine W.widen (k := 1) (n := 6) (by omega) (by omega) ?_
      exact g_wret (u := ()) (post := fun r (_ : Unit) => okW oIS (f_X4_send C N v) r) (B := fun (_ : Unit) H => gW D A ad (oW (f_X4_send C N v) (fun a => Wd G ad N (s_X4_send C N v) M (oL o a.toInt64)) (Wd G ad N C M o)) H) hx hb hr hlk hh hS (by rw [hf9]; exact (by decide +kernel : (2 : Int32) = cdF oIS xS)) (show gW D A ad (oW (f_X4_send C N v) (fun a => Wd G ad N (s_X4_send C N v) M (oL o a.toInt64)) (Wd G ad N C M o)) H from by rw [hf9]; exact hW) dL_send_17
  · have hr8 := hr9
    refine lv_i2l (v := r9.toInt64) hx hb dL_send_7 rfl ?_
    refine g_lst (ad := ad) (ct' := Wd G ad N (s_X4_send C N v) M (oL o r9.toInt64)) hx hb hK hW hS 1 (n := 1) (f := o) rfl rfl (j := 0) (x := r9.toInt64) (vp_in_nI (by decide : 0 < 1) (by decide)) dL_send_8 rfl (fun b' i' h9 => Wd_o b' i' h9) (fun H locs hW hS => ?_)
    refine lv_goto (tgt := 18) hx hb dL_send_9 (by decide) ?_
    refine lv_iconst (v := 0) hx hb dL_send_18 (by decide) ?_
    refine W.widen (k := 1) (n := 6) (by omega) (by omega) ?_
    exact g_wret (u := ()) (post := fun r (_ : Unit) => okW oIS (f_X4_send C N v) r) (B := fun (_ : Unit) H => gW D A ad (oW (f_X4_send C N v) (fun a => Wd G ad N (s_X4_send C N v) M (oL o a.toInt64)) (Wd G ad N C M o)) H) hx hb hr hlk hh hS (by have h7 : okW oIS (Sum.inl r9) 0 := rfl; rw [← hr8] at h7; exact h7) (show gW D A ad (oW (f_X4_send C N v) (fun a => Wd G ad N (s_X4_send C N v) M (oL o a.toInt64)) (Wd G ad N C M o)) H from by rw [hr8]; exact hW) dL_send_19
set_option maxHeartbeats 4000000 in
set_option maxRecDepth 100000 in
theorem c_L_watch (l : Launch) (D : va_G) (G : gG) (A : Nat → Prop) (ad : gAd) (N : gN) (C M : gT) (o : Nat → Int64) (Hp : Heap) (hW : gW D A ad (Wd G ad N C M o) Hp) (hl0 : l.stackTraces = false) (hC : IC N C) (mi : Nat) (v : Int32) : Met l yL_watch wsL_watch ({ frames := 7, cells := 1, slots := 6, locals := 113 }) (va_Pc [.ref (ad 0 0), .int v, .ref (ad 0 2)] (gQZ D G Hp mi A)) (va_Qi (fun r (_ : Unit) => okW oA (f_X4_watch C N v) r) (fun _ t => gW D A ad (oW (f_X4_watch C N v) (fun a => Wd G ad N (s_X4_watch C N v) M (oL o a.toInt64)) (Wd G ad N C M o)) t.heap) A) 1 6 A := by
  refine g_startW (cc := cL_watch) (maxL := 4) (ret := (some .int)) (hh := [(0, 9, 12, 13)]) (by decide) rfl (Nat.le_of_ble_eq_true rfl) (fun p e s m below meth c ls C0 hr hlk hh hK hE hL hNe hNc htab hl => ?_)
  obtain ⟨hx, hb, hml, hown, hts⟩ := id C0
  have hown : s.vm.findClass RL = some m.cls := hown
  have hS : va_S A Hp Hp [] := va_S.rf
  have hl : lv_has ls 4 [(0, .ref (ad 0 0)), (1, .int v), (2, .ref (ad 0 2))] := hl
  refine lv_aload_n hx hb dL_watch_0 rfl (lv_at hl 2 rfl) ?_
  refine lv_iconst (v := 0) hx hb dL_watch_1 (by decide) ?_
  refine lv_aload_n hx hb dL_watch_2 rfl (lv_at hl 0 rfl) ?_
  refine lv_iload_n hx hb dL_watch_3 rfl (lv_at hl 1 rfl) ?_
  have hM9 := c_X4_watch l D G A ad N C M o Hp hW hl0 hC v
  refine g_VXi (As := [.int v]) (rest := [.int 0, .ref (ad 0 2)]) (B := fun (_ : Unit) H => gW D A ad (Wd G ad N (s_X4_watch C N v) M o) H) (BX := fun E H => f_X4_watch C N v = .inr E ∧ gW D A ad (Wd G ad N C M o) H) (mc := 1) (ms := 6) C0 hM9 (cwV 1 hts gL_watch_X4_watch rfl rfl rfl (by decide +kernel) ⟨Nat.le_of_ble_eq_true rfl, Nat.le_of_ble_eq_true rfl⟩) g_Xblind (fun U hU hW9 => ⟨hU, va_K.moved hW9.alike hK, hE.moved hW9 (fun q h1 h2 => by rw [hU, hh])⟩) (va_recv hK (hW.p rfl) (ci := 5) (q0 := 0) rfl rfl) rfl hl rfl (Nat.le_of_ble_eq_true rfl) dL_watch_4 ⟨Nat.le_of_ble_eq_true rfl, Nat.le_of_ble_eq_true rfl⟩ hS (fun E ce q9 H locs hX9 hz9 hS hcell hv9 hcl9 => ?_) (fun r9 u9 H locs hr9 hW hz9 hS => ?_)
  · obtain ⟨hf9, hW⟩ := hX9
    obtain ⟨-, hEE⟩ := er_watch hf9
    subst hEE
    refine vx_catch (E := xA) (name := xA) hown [] ⟨0, 9, 12, 13⟩ [] htab (fun z hz => absurd hz (by simp)) (by decide) (by decide) (hts (.classLink RL 13 "java/lang/IllegalArgumentException") (List.mem_of_getElem? (i := 1) rfl)) (va_Nw.use rfl hE.1.2.1) hcell hv9 hcl9 ?_
    refine lv_astore_n (lv' := [(3, .ref q9), (0, .ref (ad 0 0)), (1, .int v), (2, .ref (ad 0 2))]) hx hb dL_watch_12 rfl hl (by decide) rfl (fun ls hl => ?_)
    refine lv_iconst (v := 1) hx hb dL_watch_13 (by decide) ?_
    refine W.widen (k := 1) (n := 6) (by omega) (by omega) ?_
    exact g_wret (u := ()) (post := fun r (_ : Unit) => okW oA (f_X4_watch C N v) r) (B := fun (_ : Unit) H => gW D A ad (oW (f_X4_watch C N v) (fun a => Wd G ad N (s_X4_watch C N v) M (oL o a.toInt64)) (Wd G ad N C M o)) H) hx hb hr hlk hh hS (by rw [hf9]; exact (by decide +kernel : (1 : Int32) = cdF oA xA)) (show gW D A ad (oW (f_X4_watch C N v) (fun a => Wd G ad N (s_X4_watch C N v) M (oL o a.toInt64)) (Wd G ad N C M o)) H from by rw [hf9]; exact hW) dL_watch_14
  · have hr8 := hr9
    refine lv_i2l (v := r9.toInt64) hx hb dL_watch_7 rfl ?_
    refine g_lst (ad := ad) (ct' := Wd G ad N (s_X4_watch C N v) M (oL o r9.toInt64)) hx hb hK hW hS 1 (n := 1) (f := o) rfl rfl (j := 0) (x := r9.toInt64) (vp_in_nI (by decide : 0 < 1) (by decide)) dL_watch_8 rfl (fun b' i' h9 => Wd_o b' i' h9) (fun H locs hW hS => ?_)
    refine lv_goto (tgt := 15) hx hb dL_watch_9 (by decide) ?_
    refine lv_iconst (v := 0) hx hb dL_watch_15 (by decide) ?_
    refine W.widen (k := 1) (n := 6) (by omega) (by omega) ?_
    exact g_wret (u := ()) (post := fun r (_ : Unit) => okW oA (f_X4_watch C N v) r) (B := fun (_ : Unit) H => gW D A ad (oW (f_X4_watch C N v) (fun a => Wd G ad N (s_X4_watch C N v) M (oL o a.toInt64)) (Wd G ad N C M o)) H) hx hb hr hlk hh hS (by have h7 : okW oA (Sum.inl r9) 0 := rfl; rw [← hr8] at h7; exact h7) (show gW D A ad (oW (f_X4_watch C N v) (fun a => Wd G ad N (s_X4_watch C N v) M (oL o a.toInt64)) (Wd G ad N C M o)) H from by rw [hr8]; exact hW) dL_watch_16
set_option maxHeartbeats 4000000 in
set_option maxRecDepth 100000 in
theorem c_L_scene (l : Launch) (D : va_G) (G : gG) (A : Nat → Prop) (ad : gAd) (N : gN) (C M : gT) (o : Nat → Int64) (Hp : Heap) (hW : gW D A ad (Wd G ad N C M o) Hp) (hl0 : l.stackTraces = false) (hC : IC N C) (mi : Nat) (v w : Int32) : Met l yL_scene wsL_scene ({ frames := 7, cells := 1, slots := 6, locals := 113 }) (va_Pc [.ref (ad 0 0), .int v, .int w, .ref (ad 0 2)] (gQZ D G Hp mi A)) (va_Qi (fun r (_ : Unit) => okW oI (f_X4_scene C N v w) r) (fun _ t => gW D A ad (oW (f_X4_scene C N v w) (fun a => Wd G ad N C M (oL o a.toInt64)) (Wd G ad N C M o)) t.heap) A) 1 6 A := by
  refine g_startW (cc := cL_scene) (maxL := 5) (ret := (some .int)) (hh := [(0, 10, 13, 21)]) (by decide) rfl (Nat.le_of_ble_eq_true rfl) (fun p e s m below meth c ls C0 hr hlk hh hK hE hL hNe hNc htab hl => ?_)
  obtain ⟨hx, hb, hml, hown, hts⟩ := id C0
  have hown : s.vm.findClass RL = some m.cls := hown
  have hS : va_S A Hp Hp [] := va_S.rf
  have hl : lv_has ls 5 [(0, .ref (ad 0 0)), (1, .int v), (2, .int w), (3, .ref (ad 0 2))] := hl
  refine lv_aload_n hx hb dL_scene_0 rfl (lv_at hl 3 rfl) ?_
  refine lv_iconst (v := 0) hx hb dL_scene_1 (by decide) ?_
  refine lv_aload_n hx hb dL_scene_2 rfl (lv_at hl 0 rfl) ?_
  refine lv_iload_n hx hb dL_scene_3 rfl (lv_at hl 1 rfl) ?_
  refine lv_iload_n hx hb dL_scene_4 rfl (lv_at hl 2 rfl) ?_
  have hM9 := c_X4_scene l D G A ad N C M o Hp hW hl0 hC v w
  refine g_VXi (As := [.int v, .int w]) (rest := [.int 0, .ref (ad 0 2)]) (B := fun (_ : Unit) H => gW D A ad (Wd G ad N C M o) H) (BX := fun E H => f_X4_scene C N v w = .inr E ∧ gW D A ad (Wd G ad N C M o) H) (mc := 1) (ms := 6) C0 hM9 (cwV 2 hts gL_scene_X4_scene rfl rfl rfl (by decide +kernel) ⟨Nat.le_of_ble_eq_true rfl, Nat.le_of_ble_eq_true rfl⟩) g_Xblind (fun U hU hW9 => ⟨hU, va_K.moved hW9.alike hK, hE.moved hW9 (fun q h1 h2 => by rw [hU, hh])⟩) (va_recv hK (hW.p rfl) (ci := 5) (q0 := 0) rfl rfl) rfl hl rfl (Nat.le_of_ble_eq_true rfl) dL_scene_5 ⟨Nat.le_of_ble_eq_true rfl, Nat.le_of_ble_eq_true rfl⟩ hS (fun E ce q9 H locs hX9 hz9 hS hcell hv9 hcl9 => ?_) (fun r9 u9 H locs hr9 hW hz9 hS => ?_)
  · obtain ⟨hf9, hW⟩ := hX9
    obtain ⟨-, hEE⟩ := er_scene hf9
    subst hEE
    refine vx_catch (E := xI) (name := xI) hown [] ⟨0, 10, 13, 21⟩ [] htab (fun z hz => absurd hz (by simp)) (by decide) (by decide) (hts (.classLink RL 21 "java/lang/IndexOutOfBoundsException") (List.mem_of_getElem? (i := 1) rfl)) (va_Nw.use rfl hE.1.1) hcell hv9 hcl9 ?_
    refine lv_astore (lv' := [(4, .ref q9), (0, .ref (ad 0 0)), (1, .int v), (2, .int w), (3, .ref (ad 0 2))]) hx hb dL_scene_13 hl (by decide) rfl (fun ls hl => ?_)
    refine lv_iconst (v := 1) hx hb dL_scene_15 (by decide) ?_
    refine W.widen (k := 1) (n := 6) (by omega) (by omega) ?_
    exact g_wret (u := ()) (post := fun r (_ : Unit) => okW oI (f_X4_scene C N v w) r) (B := fun (_ : Unit) H => gW D A ad (oW (f_X4_scene C N v w) (fun a => Wd G ad N C M (oL o a.toInt64)) (Wd G ad N C M o)) H) hx hb hr hlk hh hS (by rw [hf9]; exact (by decide +kernel : (1 : Int32) = cdF oI xI)) (show gW D A ad (oW (f_X4_scene C N v w) (fun a => Wd G ad N C M (oL o a.toInt64)) (Wd G ad N C M o)) H from by rw [hf9]; exact hW) dL_scene_16
  · have hr8 := hr9
    refine lv_i2l (v := r9.toInt64) hx hb dL_scene_8 rfl ?_
    refine g_lst (ad := ad) (ct' := Wd G ad N C M (oL o r9.toInt64)) hx hb hK hW hS 1 (n := 1) (f := o) rfl rfl (j := 0) (x := r9.toInt64) (vp_in_nI (by decide : 0 < 1) (by decide)) dL_scene_9 rfl (fun b' i' h9 => Wd_o b' i' h9) (fun H locs hW hS => ?_)
    refine lv_goto (tgt := 17) hx hb dL_scene_10 (by decide) ?_
    refine lv_iconst (v := 0) hx hb dL_scene_17 (by decide) ?_
    refine W.widen (k := 1) (n := 6) (by omega) (by omega) ?_
    exact g_wret (u := ()) (post := fun r (_ : Unit) => okW oI (f_X4_scene C N v w) r) (B := fun (_ : Unit) H => gW D A ad (oW (f_X4_scene C N v w) (fun a => Wd G ad N C M (oL o a.toInt64)) (Wd G ad N C M o)) H) hx hb hr hlk hh hS (by have h7 : okW oI (Sum.inl r9) 0 := rfl; rw [← hr8] at h7; exact h7) (show gW D A ad (oW (f_X4_scene C N v w) (fun a => Wd G ad N C M (oL o a.toInt64)) (Wd G ad N C M o)) H from by rw [hr8]; exact hW) dL_scene_18
set_option maxHeartbeats 4000000 in
set_option maxRecDepth 100000 in
theorem c_L_guard (l : Launch) (D : va_G) (G : gG) (A : Nat → Prop) (ad : gAd) (N : gN) (C M : gT) (o : Nat → Int64) (Hp : Heap) (hW : gW D A ad (Wd G ad N C M o) Hp) (hl0 : l.stackTraces = false) (hC : IC N C) (mi : Nat) (v w : Int32) : Met l yL_guard wsL_guard ({ frames := 7, cells := 1, slots := 6, locals := 113 }) (va_Pc [.ref (ad 0 0), .int v, .int w, .ref (ad 0 2)] (gQZ D G Hp mi A)) (va_Qi (fun r (_ : Unit) => okW oI (f_X4_guard C N v w) r) (fun _ t => gW D A ad (oW (f_X4_guard C N v w) (fun a => Wd G ad N C M (oL o a.toInt64)) (Wd G ad N C M o)) t.heap) A) 1 6 A := by
  refine g_startW (cc := cL_guard) (maxL := 5) (ret := (some .int)) (hh := [(0, 10, 13, 21)]) (by decide) rfl (Nat.le_of_ble_eq_true rfl) (fun p e s m below meth c ls C0 hr hlk hh hK hE hL hNe hNc htab hl => ?_)
  obtain ⟨hx, hb, hml, hown, hts⟩ := id C0
  have hown : s.vm.findClass RL = some m.cls := hown
  have hS : va_S A Hp Hp [] := va_S.rf
  have hl : lv_has ls 5 [(0, .ref (ad 0 0)), (1, .int v), (2, .int w), (3, .ref (ad 0 2))] := hl
  refine lv_aload_n hx hb dL_guard_0 rfl (lv_at hl 3 rfl) ?_
  refine lv_iconst (v := 0) hx hb dL_guard_1 (by decide) ?_
  refine lv_aload_n hx hb dL_guard_2 rfl (lv_at hl 0 rfl) ?_
  refine lv_iload_n hx hb dL_guard_3 rfl (lv_at hl 1 rfl) ?_
  refine lv_iload_n hx hb dL_guard_4 rfl (lv_at hl 2 rfl) ?_
  have hM9 := c_X4_guard l D G A ad N C M o Hp hW hl0 hC v w
  refine g_VXi (As := [.int v, .int w]) (rest := [.int 0, .ref (ad 0 2)]) (B := fun (_ : Unit) H => gW D A ad (Wd G ad N C M o) H) (BX := fun E H => f_X4_guard C N v w = .inr E ∧ gW D A ad (Wd G ad N C M o) H) (mc := 1) (ms := 6) C0 hM9 (cwV 2 hts gL_guard_X4_guard rfl rfl rfl (by decide +kernel) ⟨Nat.le_of_ble_eq_true rfl, Nat.le_of_ble_eq_true rfl⟩) g_Xblind (fun U hU hW9 => ⟨hU, va_K.moved hW9.alike hK, hE.moved hW9 (fun q h1 h2 => by rw [hU, hh])⟩) (va_recv hK (hW.p rfl) (ci := 5) (q0 := 0) rfl rfl) rfl hl rfl (Nat.le_of_ble_eq_true rfl) dL_guard_5 ⟨Nat.le_of_ble_eq_true rfl, Nat.le_of_ble_eq_true rfl⟩ hS (fun E ce q9 H locs hX9 hz9 hS hcell hv9 hcl9 => ?_) (fun r9 u9 H locs hr9 hW hz9 hS => ?_)
  · obtain ⟨hf9, hW⟩ := hX9
    obtain ⟨-, hEE⟩ := er_guard hf9
    subst hEE
    refine vx_catch (E := xI) (name := xI) hown [] ⟨0, 10, 13, 21⟩ [] htab (fun z hz => absurd hz (by simp)) (by decide) (by decide) (hts (.classLink RL 21 "java/lang/IndexOutOfBoundsException") (List.mem_of_getElem? (i := 1) rfl)) (va_Nw.use rfl hE.1.1) hcell hv9 hcl9 ?_
    refine lv_astore (lv' := [(4, .ref q9), (0, .ref (ad 0 0)), (1, .int v), (2, .int w), (3, .ref (ad 0 2))]) hx hb dL_guard_13 hl (by decide) rfl (fun ls hl => ?_)
    refine lv_iconst (v := 1) hx hb dL_guard_15 (by decide) ?_
    refine W.widen (k := 1) (n := 6) (by omega) (by omega) ?_
    exact g_wret (u := ()) (post := fun r (_ : Unit) => okW oI (f_X4_guard C N v w) r) (B := fun (_ : Unit) H => gW D A ad (oW (f_X4_guard C N v w) (fun a => Wd G ad N C M (oL o a.toInt64)) (Wd G ad N C M o)) H) hx hb hr hlk hh hS (by rw [hf9]; exact (by decide +kernel : (1 : Int32) = cdF oI xI)) (show gW D A ad (oW (f_X4_guard C N v w) (fun a => Wd G ad N C M (oL o a.toInt64)) (Wd G ad N C M o)) H from by rw [hf9]; exact hW) dL_guard_16
  · have hr8 := hr9
    refine lv_i2l (v := r9.toInt64) hx hb dL_guard_8 rfl ?_
    refine g_lst (ad := ad) (ct' := Wd G ad N C M (oL o r9.toInt64)) hx hb hK hW hS 1 (n := 1) (f := o) rfl rfl (j := 0) (x := r9.toInt64) (vp_in_nI (by decide : 0 < 1) (by decide)) dL_guard_9 rfl (fun b' i' h9 => Wd_o b' i' h9) (fun H locs hW hS => ?_)
    refine lv_goto (tgt := 17) hx hb dL_guard_10 (by decide) ?_
    refine lv_iconst (v := 0) hx hb dL_guard_17 (by decide) ?_
    refine W.widen (k := 1) (n := 6) (by omega) (by omega) ?_
    exact g_wret (u := ()) (post := fun r (_ : Unit) => okW oI (f_X4_guard C N v w) r) (B := fun (_ : Unit) H => gW D A ad (oW (f_X4_guard C N v w) (fun a => Wd G ad N C M (oL o a.toInt64)) (Wd G ad N C M o)) H) hx hb hr hlk hh hS (by have h7 : okW oI (Sum.inl r9) 0 := rfl; rw [← hr8] at h7; exact h7) (show gW D A ad (oW (f_X4_guard C N v w) (fun a => Wd G ad N C M (oL o a.toInt64)) (Wd G ad N C M o)) H from by rw [hr8]; exact hW) dL_guard_18
set_option maxHeartbeats 4000000 in
set_option maxRecDepth 100000 in
theorem c_L_traveller (l : Launch) (D : va_G) (G : gG) (A : Nat → Prop) (ad : gAd) (N : gN) (C M : gT) (o : Nat → Int64) (Hp : Heap) (hW : gW D A ad (Wd G ad N C M o) Hp) (hl0 : l.stackTraces = false) (hC : IC N C) (mi : Nat) (v w : Int32) : Met l yL_traveller wsL_traveller ({ frames := 7, cells := 1, slots := 6, locals := 132 }) (va_Pc [.ref (ad 0 0), .int v, .int w, .ref (ad 0 2)] (gQZ D G Hp mi A)) (va_Qi (fun r (_ : Unit) => okW oI (f_X4_traveller C N v w) r) (fun _ t => gW D A ad (oW (f_X4_traveller C N v w) (fun a => Wd G ad N C M (oL o a.toInt64)) (Wd G ad N C M o)) t.heap) A) 1 6 A := by
  refine g_startW (cc := cL_traveller) (maxL := 5) (ret := (some .int)) (hh := [(0, 10, 13, 21)]) (by decide) rfl (Nat.le_of_ble_eq_true rfl) (fun p e s m below meth c ls C0 hr hlk hh hK hE hL hNe hNc htab hl => ?_)
  obtain ⟨hx, hb, hml, hown, hts⟩ := id C0
  have hown : s.vm.findClass RL = some m.cls := hown
  have hS : va_S A Hp Hp [] := va_S.rf
  have hl : lv_has ls 5 [(0, .ref (ad 0 0)), (1, .int v), (2, .int w), (3, .ref (ad 0 2))] := hl
  refine lv_aload_n hx hb dL_traveller_0 rfl (lv_at hl 3 rfl) ?_
  refine lv_iconst (v := 0) hx hb dL_traveller_1 (by decide) ?_
  refine lv_aload_n hx hb dL_traveller_2 rfl (lv_at hl 0 rfl) ?_
  refine lv_iload_n hx hb dL_traveller_3 rfl (lv_at hl 1 rfl) ?_
  refine lv_iload_n hx hb dL_traveller_4 rfl (lv_at hl 2 rfl) ?_
  have hM9 := c_X4_traveller l D G A ad N C M o Hp hW hl0 hC v w
  refine g_VXi (As := [.int v, .int w]) (rest := [.int 0, .ref (ad 0 2)]) (B := fun (_ : Unit) H => gW D A ad (Wd G ad N C M o) H) (BX := fun E H => f_X4_traveller C N v w = .inr E ∧ gW D A ad (Wd G ad N C M o) H) (mc := 1) (ms := 6) C0 hM9 (cwV 2 hts gL_traveller_X4_traveller rfl rfl rfl (by decide +kernel) ⟨Nat.le_of_ble_eq_true rfl, Nat.le_of_ble_eq_true rfl⟩) g_Xblind (fun U hU hW9 => ⟨hU, va_K.moved hW9.alike hK, hE.moved hW9 (fun q h1 h2 => by rw [hU, hh])⟩) (va_recv hK (hW.p rfl) (ci := 5) (q0 := 0) rfl rfl) rfl hl rfl (Nat.le_of_ble_eq_true rfl) dL_traveller_5 ⟨Nat.le_of_ble_eq_true rfl, Nat.le_of_ble_eq_true rfl⟩ hS (fun E ce q9 H locs hX9 hz9 hS hcell hv9 hcl9 => ?_) (fun r9 u9 H locs hr9 hW hz9 hS => ?_)
  · obtain ⟨hf9, hW⟩ := hX9
    obtain ⟨-, hEE⟩ := er_traveller hf9
    subst hEE
    refine vx_catch (E := xI) (name := xI) hown [] ⟨0, 10, 13, 21⟩ [] htab (fun z hz => absurd hz (by simp)) (by decide) (by decide) (hts (.classLink RL 21 "java/lang/IndexOutOfBoundsException") (List.mem_of_getElem? (i := 1) rfl)) (va_Nw.use rfl hE.1.1) hcell hv9 hcl9 ?_
    refine lv_astore (lv' := [(4, .ref q9), (0, .ref (ad 0 0)), (1, .int v), (2, .int w), (3, .ref (ad 0 2))]) hx hb dL_traveller_13 hl (by decide) rfl (fun ls hl => ?_)
    refine lv_iconst (v := 1) hx hb dL_traveller_15 (by decide) ?_
    refine W.widen (k := 1) (n := 6) (by omega) (by omega) ?_
    exact g_wret (u := ()) (post := fun r (_ : Unit) => okW oI (f_X4_traveller C N v w) r) (B := fun (_ : Unit) H => gW D A ad (oW (f_X4_traveller C N v w) (fun a => Wd G ad N C M (oL o a.toInt64)) (Wd G ad N C M o)) H) hx hb hr hlk hh hS (by rw [hf9]; exact (by decide +kernel : (1 : Int32) = cdF oI xI)) (show gW D A ad (oW (f_X4_traveller C N v w) (fun a => Wd G ad N C M (oL o a.toInt64)) (Wd G ad N C M o)) H from by rw [hf9]; exact hW) dL_traveller_16
  · have hr8 := hr9
    refine lv_i2l (v := r9.toInt64) hx hb dL_traveller_8 rfl ?_
    refine g_lst (ad := ad) (ct' := Wd G ad N C M (oL o r9.toInt64)) hx hb hK hW hS 1 (n := 1) (f := o) rfl rfl (j := 0) (x := r9.toInt64) (vp_in_nI (by decide : 0 < 1) (by decide)) dL_traveller_9 rfl (fun b' i' h9 => Wd_o b' i' h9) (fun H locs hW hS => ?_)
    refine lv_goto (tgt := 17) hx hb dL_traveller_10 (by decide) ?_
    refine lv_iconst (v := 0) hx hb dL_traveller_17 (by decide) ?_
    refine W.widen (k := 1) (n := 6) (by omega) (by omega) ?_
    exact g_wret (u := ()) (post := fun r (_ : Unit) => okW oI (f_X4_traveller C N v w) r) (B := fun (_ : Unit) H => gW D A ad (oW (f_X4_traveller C N v w) (fun a => Wd G ad N C M (oL o a.toInt64)) (Wd G ad N C M o)) H) hx hb hr hlk hh hS (by have h7 : okW oI (Sum.inl r9) 0 := rfl; rw [← hr8] at h7; exact h7) (show gW D A ad (oW (f_X4_traveller C N v w) (fun a => Wd G ad N C M (oL o a.toInt64)) (Wd G ad N C M o)) H from by rw [hr8]; exact hW) dL_traveller_18
set_option maxHeartbeats 4000000 in
set_option maxRecDepth 100000 in
theorem c_L_plot (l : Launch) (D : va_G) (G : gG) (A : Nat → Prop) (ad : gAd) (N : gN) (C M : gT) (o : Nat → Int64) (Hp : Heap) (hW : gW D A ad (Wd G ad N C M o) Hp) (hl0 : l.stackTraces = false) (hC : IC N C) (mi : Nat) (v w : Int32) : Met l yL_plot wsL_plot ({ frames := 7, cells := 1, slots := 6, locals := 113 }) (va_Pc [.ref (ad 0 0), .int v, .int w, .ref (ad 0 2)] (gQZ D G Hp mi A)) (va_Qi (fun r (_ : Unit) => okW oI (f_X4_plot C N v w) r) (fun _ t => gW D A ad (oW (f_X4_plot C N v w) (fun a => Wd G ad N C M (oL o a.toInt64)) (Wd G ad N C M o)) t.heap) A) 1 6 A := by
  refine g_startW (cc := cL_plot) (maxL := 5) (ret := (some .int)) (hh := [(0, 10, 13, 21)]) (by decide) rfl (Nat.le_of_ble_eq_true rfl) (fun p e s m below meth c ls C0 hr hlk hh hK hE hL hNe hNc htab hl => ?_)
  obtain ⟨hx, hb, hml, hown, hts⟩ := id C0
  have hown : s.vm.findClass RL = some m.cls := hown
  have hS : va_S A Hp Hp [] := va_S.rf
  have hl : lv_has ls 5 [(0, .ref (ad 0 0)), (1, .int v), (2, .int w), (3, .ref (ad 0 2))] := hl
  refine lv_aload_n hx hb dL_plot_0 rfl (lv_at hl 3 rfl) ?_
  refine lv_iconst (v := 0) hx hb dL_plot_1 (by decide) ?_
  refine lv_aload_n hx hb dL_plot_2 rfl (lv_at hl 0 rfl) ?_
  refine lv_iload_n hx hb dL_plot_3 rfl (lv_at hl 1 rfl) ?_
  refine lv_iload_n hx hb dL_plot_4 rfl (lv_at hl 2 rfl) ?_
  have hM9 := c_X4_plot l D G A ad N C M o Hp hW hl0 hC v w
  refine g_VXi (As := [.int v, .int w]) (rest := [.int 0, .ref (ad 0 2)]) (B := fun (_ : Unit) H => gW D A ad (Wd G ad N C M o) H) (BX := fun E H => f_X4_plot C N v w = .inr E ∧ gW D A ad (Wd G ad N C M o) H) (mc := 1) (ms := 6) C0 hM9 (cwV 2 hts gL_plot_X4_plot rfl rfl rfl (by decide +kernel) ⟨Nat.le_of_ble_eq_true rfl, Nat.le_of_ble_eq_true rfl⟩) g_Xblind (fun U hU hW9 => ⟨hU, va_K.moved hW9.alike hK, hE.moved hW9 (fun q h1 h2 => by rw [hU, hh])⟩) (va_recv hK (hW.p rfl) (ci := 5) (q0 := 0) rfl rfl) rfl hl rfl (Nat.le_of_ble_eq_true rfl) dL_plot_5 ⟨Nat.le_of_ble_eq_true rfl, Nat.le_of_ble_eq_true rfl⟩ hS (fun E ce q9 H locs hX9 hz9 hS hcell hv9 hcl9 => ?_) (fun r9 u9 H locs hr9 hW hz9 hS => ?_)
  · obtain ⟨hf9, hW⟩ := hX9
    obtain ⟨-, hEE⟩ := er_plot hf9
    subst hEE
    refine vx_catch (E := xI) (name := xI) hown [] ⟨0, 10, 13, 21⟩ [] htab (fun z hz => absurd hz (by simp)) (by decide) (by decide) (hts (.classLink RL 21 "java/lang/IndexOutOfBoundsException") (List.mem_of_getElem? (i := 1) rfl)) (va_Nw.use rfl hE.1.1) hcell hv9 hcl9 ?_
    refine lv_astore (lv' := [(4, .ref q9), (0, .ref (ad 0 0)), (1, .int v), (2, .int w), (3, .ref (ad 0 2))]) hx hb dL_plot_13 hl (by decide) rfl (fun ls hl => ?_)
    refine lv_iconst (v := 1) hx hb dL_plot_15 (by decide) ?_
    refine W.widen (k := 1) (n := 6) (by omega) (by omega) ?_
    exact g_wret (u := ()) (post := fun r (_ : Unit) => okW oI (f_X4_plot C N v w) r) (B := fun (_ : Unit) H => gW D A ad (oW (f_X4_plot C N v w) (fun a => Wd G ad N C M (oL o a.toInt64)) (Wd G ad N C M o)) H) hx hb hr hlk hh hS (by rw [hf9]; exact (by decide +kernel : (1 : Int32) = cdF oI xI)) (show gW D A ad (oW (f_X4_plot C N v w) (fun a => Wd G ad N C M (oL o a.toInt64)) (Wd G ad N C M o)) H from by rw [hf9]; exact hW) dL_plot_16
  · have hr8 := hr9
    refine lv_i2l (v := r9.toInt64) hx hb dL_plot_8 rfl ?_
    refine g_lst (ad := ad) (ct' := Wd G ad N C M (oL o r9.toInt64)) hx hb hK hW hS 1 (n := 1) (f := o) rfl rfl (j := 0) (x := r9.toInt64) (vp_in_nI (by decide : 0 < 1) (by decide)) dL_plot_9 rfl (fun b' i' h9 => Wd_o b' i' h9) (fun H locs hW hS => ?_)
    refine lv_goto (tgt := 17) hx hb dL_plot_10 (by decide) ?_
    refine lv_iconst (v := 0) hx hb dL_plot_17 (by decide) ?_
    refine W.widen (k := 1) (n := 6) (by omega) (by omega) ?_
    exact g_wret (u := ()) (post := fun r (_ : Unit) => okW oI (f_X4_plot C N v w) r) (B := fun (_ : Unit) H => gW D A ad (oW (f_X4_plot C N v w) (fun a => Wd G ad N C M (oL o a.toInt64)) (Wd G ad N C M o)) H) hx hb hr hlk hh hS (by have h7 : okW oI (Sum.inl r9) 0 := rfl; rw [← hr8] at h7; exact h7) (show gW D A ad (oW (f_X4_plot C N v w) (fun a => Wd G ad N C M (oL o a.toInt64)) (Wd G ad N C M o)) H from by rw [hr8]; exact hW) dL_plot_18
set_option maxHeartbeats 4000000 in
set_option maxRecDepth 100000 in
theorem c_L_told (l : Launch) (D : va_G) (G : gG) (A : Nat → Prop) (ad : gAd) (N : gN) (C M : gT) (o : Nat → Int64) (Hp : Heap) (hW : gW D A ad (Wd G ad N C M o) Hp) (hl0 : l.stackTraces = false) (hC : IC N C) (mi : Nat) (v w : Int32) : Met l yL_told wsL_told ({ frames := 7, cells := 1, slots := 6, locals := 113 }) (va_Pc [.ref (ad 0 0), .int v, .int w, .ref (ad 0 2)] (gQZ D G Hp mi A)) (va_Qi (fun r (_ : Unit) => okW oI (f_X4_told C N v w) r) (fun _ t => gW D A ad (oW (f_X4_told C N v w) (fun a => Wd G ad N C M (oL o a.toInt64)) (Wd G ad N C M o)) t.heap) A) 1 6 A := by
  refine g_startW (cc := cL_told) (maxL := 5) (ret := (some .int)) (hh := [(0, 10, 13, 21)]) (by decide) rfl (Nat.le_of_ble_eq_true rfl) (fun p e s m below meth c ls C0 hr hlk hh hK hE hL hNe hNc htab hl => ?_)
  obtain ⟨hx, hb, hml, hown, hts⟩ := id C0
  have hown : s.vm.findClass RL = some m.cls := hown
  have hS : va_S A Hp Hp [] := va_S.rf
  have hl : lv_has ls 5 [(0, .ref (ad 0 0)), (1, .int v), (2, .int w), (3, .ref (ad 0 2))] := hl
  refine lv_aload_n hx hb dL_told_0 rfl (lv_at hl 3 rfl) ?_
  refine lv_iconst (v := 0) hx hb dL_told_1 (by decide) ?_
  refine lv_aload_n hx hb dL_told_2 rfl (lv_at hl 0 rfl) ?_
  refine lv_iload_n hx hb dL_told_3 rfl (lv_at hl 1 rfl) ?_
  refine lv_iload_n hx hb dL_told_4 rfl (lv_at hl 2 rfl) ?_
  have hM9 := c_X4_told l D G A ad N C M o Hp hW hl0 hC v w
  refine g_VXi (As := [.int v, .int w]) (rest := [.int 0, .ref (ad 0 2)]) (B := fun (_ : Unit) H => gW D A ad (Wd G ad N C M o) H) (BX := fun E H => f_X4_told C N v w = .inr E ∧ gW D A ad (Wd G ad N C M o) H) (mc := 1) (ms := 6) C0 hM9 (cwV 2 hts gL_told_X4_told rfl rfl rfl (by decide +kernel) ⟨Nat.le_of_ble_eq_true rfl, Nat.le_of_ble_eq_true rfl⟩) g_Xblind (fun U hU hW9 => ⟨hU, va_K.moved hW9.alike hK, hE.moved hW9 (fun q h1 h2 => by rw [hU, hh])⟩) (va_recv hK (hW.p rfl) (ci := 5) (q0 := 0) rfl rfl) rfl hl rfl (Nat.le_of_ble_eq_true rfl) dL_told_5 ⟨Nat.le_of_ble_eq_true rfl, Nat.le_of_ble_eq_true rfl⟩ hS (fun E ce q9 H locs hX9 hz9 hS hcell hv9 hcl9 => ?_) (fun r9 u9 H locs hr9 hW hz9 hS => ?_)
  · obtain ⟨hf9, hW⟩ := hX9
    obtain ⟨-, hEE⟩ := er_told hf9
    subst hEE
    refine vx_catch (E := xI) (name := xI) hown [] ⟨0, 10, 13, 21⟩ [] htab (fun z hz => absurd hz (by simp)) (by decide) (by decide) (hts (.classLink RL 21 "java/lang/IndexOutOfBoundsException") (List.mem_of_getElem? (i := 1) rfl)) (va_Nw.use rfl hE.1.1) hcell hv9 hcl9 ?_
    refine lv_astore (lv' := [(4, .ref q9), (0, .ref (ad 0 0)), (1, .int v), (2, .int w), (3, .ref (ad 0 2))]) hx hb dL_told_13 hl (by decide) rfl (fun ls hl => ?_)
    refine lv_iconst (v := 1) hx hb dL_told_15 (by decide) ?_
    refine W.widen (k := 1) (n := 6) (by omega) (by omega) ?_
    exact g_wret (u := ()) (post := fun r (_ : Unit) => okW oI (f_X4_told C N v w) r) (B := fun (_ : Unit) H => gW D A ad (oW (f_X4_told C N v w) (fun a => Wd G ad N C M (oL o a.toInt64)) (Wd G ad N C M o)) H) hx hb hr hlk hh hS (by rw [hf9]; exact (by decide +kernel : (1 : Int32) = cdF oI xI)) (show gW D A ad (oW (f_X4_told C N v w) (fun a => Wd G ad N C M (oL o a.toInt64)) (Wd G ad N C M o)) H from by rw [hf9]; exact hW) dL_told_16
  · have hr8 := hr9
    refine lv_i2l (v := r9.toInt64) hx hb dL_told_8 rfl ?_
    refine g_lst (ad := ad) (ct' := Wd G ad N C M (oL o r9.toInt64)) hx hb hK hW hS 1 (n := 1) (f := o) rfl rfl (j := 0) (x := r9.toInt64) (vp_in_nI (by decide : 0 < 1) (by decide)) dL_told_9 rfl (fun b' i' h9 => Wd_o b' i' h9) (fun H locs hW hS => ?_)
    refine lv_goto (tgt := 17) hx hb dL_told_10 (by decide) ?_
    refine lv_iconst (v := 0) hx hb dL_told_17 (by decide) ?_
    refine W.widen (k := 1) (n := 6) (by omega) (by omega) ?_
    exact g_wret (u := ()) (post := fun r (_ : Unit) => okW oI (f_X4_told C N v w) r) (B := fun (_ : Unit) H => gW D A ad (oW (f_X4_told C N v w) (fun a => Wd G ad N C M (oL o a.toInt64)) (Wd G ad N C M o)) H) hx hb hr hlk hh hS (by have h7 : okW oI (Sum.inl r9) 0 := rfl; rw [← hr8] at h7; exact h7) (show gW D A ad (oW (f_X4_told C N v w) (fun a => Wd G ad N C M (oL o a.toInt64)) (Wd G ad N C M o)) H from by rw [hr8]; exact hW) dL_told_18
set_option maxHeartbeats 4000000 in
set_option maxRecDepth 100000 in
theorem c_L_count (l : Launch) (D : va_G) (G : gG) (A : Nat → Prop) (ad : gAd) (N : gN) (C M : gT) (o : Nat → Int64) (Hp : Heap) (hW : gW D A ad (Wd G ad N C M o) Hp) (hl0 : l.stackTraces = false) (hC : IC N C) (mi : Nat) (v : Int32) : Met l yL_count wsL_count ({ frames := 7, cells := 1, slots := 6, locals := 129 }) (va_Pc [.ref (ad 0 0), .int v, .ref (ad 0 2)] (gQZ D G Hp mi A)) (va_Qi (fun r (_ : Unit) => okW oI (f_X4_count C N v) r) (fun _ t => gW D A ad (oW (f_X4_count C N v) (fun a => Wd G ad N C M (oL o a.toInt64)) (Wd G ad N C M o)) t.heap) A) 1 6 A := by
  refine g_startW (cc := cL_count) (maxL := 4) (ret := (some .int)) (hh := [(0, 9, 12, 21)]) (by decide) rfl (Nat.le_of_ble_eq_true rfl) (fun p e s m below meth c ls C0 hr hlk hh hK hE hL hNe hNc htab hl => ?_)
  obtain ⟨hx, hb, hml, hown, hts⟩ := id C0
  have hown : s.vm.findClass RL = some m.cls := hown
  have hS : va_S A Hp Hp [] := va_S.rf
  have hl : lv_has ls 4 [(0, .ref (ad 0 0)), (1, .int v), (2, .ref (ad 0 2))] := hl
  refine lv_aload_n hx hb dL_count_0 rfl (lv_at hl 2 rfl) ?_
  refine lv_iconst (v := 0) hx hb dL_count_1 (by decide) ?_
  refine lv_aload_n hx hb dL_count_2 rfl (lv_at hl 0 rfl) ?_
  refine lv_iload_n hx hb dL_count_3 rfl (lv_at hl 1 rfl) ?_
  have hM9 := c_X4_count l D G A ad N C M o Hp hW hl0 hC v
  refine g_VXi (As := [.int v]) (rest := [.int 0, .ref (ad 0 2)]) (B := fun (_ : Unit) H => gW D A ad (Wd G ad N C M o) H) (BX := fun E H => f_X4_count C N v = .inr E ∧ gW D A ad (Wd G ad N C M o) H) (mc := 1) (ms := 6) C0 hM9 (cwV 1 hts gL_count_X4_count rfl rfl rfl (by decide +kernel) ⟨Nat.le_of_ble_eq_true rfl, Nat.le_of_ble_eq_true rfl⟩) g_Xblind (fun U hU hW9 => ⟨hU, va_K.moved hW9.alike hK, hE.moved hW9 (fun q h1 h2 => by rw [hU, hh])⟩) (va_recv hK (hW.p rfl) (ci := 5) (q0 := 0) rfl rfl) rfl hl rfl (Nat.le_of_ble_eq_true rfl) dL_count_4 ⟨Nat.le_of_ble_eq_true rfl, Nat.le_of_ble_eq_true rfl⟩ hS (fun E ce q9 H locs hX9 hz9 hS hcell hv9 hcl9 => ?_) (fun r9 u9 H locs hr9 hW hz9 hS => ?_)
  · obtain ⟨hf9, hW⟩ := hX9
    obtain ⟨-, hEE⟩ := er_count hf9
    subst hEE
    refine vx_catch (E := xI) (name := xI) hown [] ⟨0, 9, 12, 21⟩ [] htab (fun z hz => absurd hz (by simp)) (by decide) (by decide) (hts (.classLink RL 21 "java/lang/IndexOutOfBoundsException") (List.mem_of_getElem? (i := 1) rfl)) (va_Nw.use rfl hE.1.1) hcell hv9 hcl9 ?_
    refine lv_astore_n (lv' := [(3, .ref q9), (0, .ref (ad 0 0)), (1, .int v), (2, .ref (ad 0 2))]) hx hb dL_count_12 rfl hl (by decide) rfl (fun ls hl => ?_)
    refine lv_iconst (v := 1) hx hb dL_count_13 (by decide) ?_
    refine W.widen (k := 1) (n := 6) (by omega) (by omega) ?_
    exact g_wret (u := ()) (post := fun r (_ : Unit) => okW oI (f_X4_count C N v) r) (B := fun (_ : Unit) H => gW D A ad (oW (f_X4_count C N v) (fun a => Wd G ad N C M (oL o a.toInt64)) (Wd G ad N C M o)) H) hx hb hr hlk hh hS (by rw [hf9]; exact (by decide +kernel : (1 : Int32) = cdF oI xI)) (show gW D A ad (oW (f_X4_count C N v) (fun a => Wd G ad N C M (oL o a.toInt64)) (Wd G ad N C M o)) H from by rw [hf9]; exact hW) dL_count_14
  · have hr8 := hr9
    refine lv_i2l (v := r9.toInt64) hx hb dL_count_7 rfl ?_
    refine g_lst (ad := ad) (ct' := Wd G ad N C M (oL o r9.toInt64)) hx hb hK hW hS 1 (n := 1) (f := o) rfl rfl (j := 0) (x := r9.toInt64) (vp_in_nI (by decide : 0 < 1) (by decide)) dL_count_8 rfl (fun b' i' h9 => Wd_o b' i' h9) (fun H locs hW hS => ?_)
    refine lv_goto (tgt := 15) hx hb dL_count_9 (by decide) ?_
    refine lv_iconst (v := 0) hx hb dL_count_15 (by decide) ?_
    refine W.widen (k := 1) (n := 6) (by omega) (by omega) ?_
    exact g_wret (u := ()) (post := fun r (_ : Unit) => okW oI (f_X4_count C N v) r) (B := fun (_ : Unit) H => gW D A ad (oW (f_X4_count C N v) (fun a => Wd G ad N C M (oL o a.toInt64)) (Wd G ad N C M o)) H) hx hb hr hlk hh hS (by have h7 : okW oI (Sum.inl r9) 0 := rfl; rw [← hr8] at h7; exact h7) (show gW D A ad (oW (f_X4_count C N v) (fun a => Wd G ad N C M (oL o a.toInt64)) (Wd G ad N C M o)) H from by rw [hr8]; exact hW) dL_count_16
set_option maxHeartbeats 4000000 in
set_option maxRecDepth 100000 in
theorem c_L_worth (l : Launch) (D : va_G) (G : gG) (A : Nat → Prop) (ad : gAd) (N : gN) (C M : gT) (o : Nat → Int64) (Hp : Heap) (hW : gW D A ad (Wd G ad N C M o) Hp) (hl0 : l.stackTraces = false) (hC : IC N C) (mi : Nat) (v w : Int32) : Met l yL_worth wsL_worth ({ frames := 7, cells := 1, slots := 6, locals := 114 }) (va_Pc [.ref (ad 0 0), .int v, .int w, .ref (ad 0 2)] (gQZ D G Hp mi A)) (va_Qi (fun r (_ : Unit) => okW oI (f_X4_worth C N v w) r) (fun _ t => gW D A ad (oW (f_X4_worth C N v w) (fun a => Wd G ad N C M (oL o a.toInt64)) (Wd G ad N C M o)) t.heap) A) 1 6 A := by
  refine g_startW (cc := cL_worth) (maxL := 5) (ret := (some .int)) (hh := [(0, 10, 13, 21)]) (by decide) rfl (Nat.le_of_ble_eq_true rfl) (fun p e s m below meth c ls C0 hr hlk hh hK hE hL hNe hNc htab hl => ?_)
  obtain ⟨hx, hb, hml, hown, hts⟩ := id C0
  have hown : s.vm.findClass RL = some m.cls := hown
  have hS : va_S A Hp Hp [] := va_S.rf
  have hl : lv_has ls 5 [(0, .ref (ad 0 0)), (1, .int v), (2, .int w), (3, .ref (ad 0 2))] := hl
  refine lv_aload_n hx hb dL_worth_0 rfl (lv_at hl 3 rfl) ?_
  refine lv_iconst (v := 0) hx hb dL_worth_1 (by decide) ?_
  refine lv_aload_n hx hb dL_worth_2 rfl (lv_at hl 0 rfl) ?_
  refine lv_iload_n hx hb dL_worth_3 rfl (lv_at hl 1 rfl) ?_
  refine lv_iload_n hx hb dL_worth_4 rfl (lv_at hl 2 rfl) ?_
  have hM9 := c_X4_worth l D G A ad N C M o Hp hW hl0 hC v w
  refine g_VXi (As := [.int v, .int w]) (rest := [.int 0, .ref (ad 0 2)]) (B := fun (_ : Unit) H => gW D A ad (Wd G ad N C M o) H) (BX := fun E H => f_X4_worth C N v w = .inr E ∧ gW D A ad (Wd G ad N C M o) H) (mc := 1) (ms := 6) C0 hM9 (cwV 2 hts gL_worth_X4_worth rfl rfl rfl (by decide +kernel) ⟨Nat.le_of_ble_eq_true rfl, Nat.le_of_ble_eq_true rfl⟩) g_Xblind (fun U hU hW9 => ⟨hU, va_K.moved hW9.alike hK, hE.moved hW9 (fun q h1 h2 => by rw [hU, hh])⟩) (va_recv hK (hW.p rfl) (ci := 5) (q0 := 0) rfl rfl) rfl hl rfl (Nat.le_of_ble_eq_true rfl) dL_worth_5 ⟨Nat.le_of_ble_eq_true rfl, Nat.le_of_ble_eq_true rfl⟩ hS (fun E ce q9 H locs hX9 hz9 hS hcell hv9 hcl9 => ?_) (fun r9 u9 H locs hr9 hW hz9 hS => ?_)
  · obtain ⟨hf9, hW⟩ := hX9
    obtain ⟨-, hEE⟩ := er_worth hf9
    subst hEE
    refine vx_catch (E := xI) (name := xI) hown [] ⟨0, 10, 13, 21⟩ [] htab (fun z hz => absurd hz (by simp)) (by decide) (by decide) (hts (.classLink RL 21 "java/lang/IndexOutOfBoundsException") (List.mem_of_getElem? (i := 1) rfl)) (va_Nw.use rfl hE.1.1) hcell hv9 hcl9 ?_
    refine lv_astore (lv' := [(4, .ref q9), (0, .ref (ad 0 0)), (1, .int v), (2, .int w), (3, .ref (ad 0 2))]) hx hb dL_worth_13 hl (by decide) rfl (fun ls hl => ?_)
    refine lv_iconst (v := 1) hx hb dL_worth_15 (by decide) ?_
    refine W.widen (k := 1) (n := 6) (by omega) (by omega) ?_
    exact g_wret (u := ()) (post := fun r (_ : Unit) => okW oI (f_X4_worth C N v w) r) (B := fun (_ : Unit) H => gW D A ad (oW (f_X4_worth C N v w) (fun a => Wd G ad N C M (oL o a.toInt64)) (Wd G ad N C M o)) H) hx hb hr hlk hh hS (by rw [hf9]; exact (by decide +kernel : (1 : Int32) = cdF oI xI)) (show gW D A ad (oW (f_X4_worth C N v w) (fun a => Wd G ad N C M (oL o a.toInt64)) (Wd G ad N C M o)) H from by rw [hf9]; exact hW) dL_worth_16
  · have hr8 := hr9
    refine lv_i2l (v := r9.toInt64) hx hb dL_worth_8 rfl ?_
    refine g_lst (ad := ad) (ct' := Wd G ad N C M (oL o r9.toInt64)) hx hb hK hW hS 1 (n := 1) (f := o) rfl rfl (j := 0) (x := r9.toInt64) (vp_in_nI (by decide : 0 < 1) (by decide)) dL_worth_9 rfl (fun b' i' h9 => Wd_o b' i' h9) (fun H locs hW hS => ?_)
    refine lv_goto (tgt := 17) hx hb dL_worth_10 (by decide) ?_
    refine lv_iconst (v := 0) hx hb dL_worth_17 (by decide) ?_
    refine W.widen (k := 1) (n := 6) (by omega) (by omega) ?_
    exact g_wret (u := ()) (post := fun r (_ : Unit) => okW oI (f_X4_worth C N v w) r) (B := fun (_ : Unit) H => gW D A ad (oW (f_X4_worth C N v w) (fun a => Wd G ad N C M (oL o a.toInt64)) (Wd G ad N C M o)) H) hx hb hr hlk hh hS (by have h7 : okW oI (Sum.inl r9) 0 := rfl; rw [← hr8] at h7; exact h7) (show gW D A ad (oW (f_X4_worth C N v w) (fun a => Wd G ad N C M (oL o a.toInt64)) (Wd G ad N C M o)) H from by rw [hr8]; exact hW) dL_worth_18
set_option maxHeartbeats 4000000 in
set_option maxRecDepth 100000 in
theorem c_L_best (l : Launch) (D : va_G) (G : gG) (A : Nat → Prop) (ad : gAd) (N : gN) (C M : gT) (o : Nat → Int64) (Hp : Heap) (hW : gW D A ad (Wd G ad N C M o) Hp) (hl0 : l.stackTraces = false) (hC : IC N C) (mi : Nat) (v w : Int32) : Met l yL_best wsL_best ({ frames := 7, cells := 1, slots := 6, locals := 119 }) (va_Pc [.ref (ad 0 0), .int v, .int w, .ref (ad 0 2)] (gQZ D G Hp mi A)) (va_Qi (fun r (_ : Unit) => okW oI (f_X4_best C N v w) r) (fun _ t => gW D A ad (oW (f_X4_best C N v w) (fun a => Wd G ad N C M (oL o a.toInt64)) (Wd G ad N C M o)) t.heap) A) 1 6 A := by
  refine g_startW (cc := cL_best) (maxL := 5) (ret := (some .int)) (hh := [(0, 10, 13, 21)]) (by decide) rfl (Nat.le_of_ble_eq_true rfl) (fun p e s m below meth c ls C0 hr hlk hh hK hE hL hNe hNc htab hl => ?_)
  obtain ⟨hx, hb, hml, hown, hts⟩ := id C0
  have hown : s.vm.findClass RL = some m.cls := hown
  have hS : va_S A Hp Hp [] := va_S.rf
  have hl : lv_has ls 5 [(0, .ref (ad 0 0)), (1, .int v), (2, .int w), (3, .ref (ad 0 2))] := hl
  refine lv_aload_n hx hb dL_best_0 rfl (lv_at hl 3 rfl) ?_
  refine lv_iconst (v := 0) hx hb dL_best_1 (by decide) ?_
  refine lv_aload_n hx hb dL_best_2 rfl (lv_at hl 0 rfl) ?_
  refine lv_iload_n hx hb dL_best_3 rfl (lv_at hl 1 rfl) ?_
  refine lv_iload_n hx hb dL_best_4 rfl (lv_at hl 2 rfl) ?_
  have hM9 := c_X4_best l D G A ad N C M o Hp hW hl0 hC v w
  refine g_VXi (As := [.int v, .int w]) (rest := [.int 0, .ref (ad 0 2)]) (B := fun (_ : Unit) H => gW D A ad (Wd G ad N C M o) H) (BX := fun E H => f_X4_best C N v w = .inr E ∧ gW D A ad (Wd G ad N C M o) H) (mc := 1) (ms := 6) C0 hM9 (cwV 2 hts gL_best_X4_best rfl rfl rfl (by decide +kernel) ⟨Nat.le_of_ble_eq_true rfl, Nat.le_of_ble_eq_true rfl⟩) g_Xblind (fun U hU hW9 => ⟨hU, va_K.moved hW9.alike hK, hE.moved hW9 (fun q h1 h2 => by rw [hU, hh])⟩) (va_recv hK (hW.p rfl) (ci := 5) (q0 := 0) rfl rfl) rfl hl rfl (Nat.le_of_ble_eq_true rfl) dL_best_5 ⟨Nat.le_of_ble_eq_true rfl, Nat.le_of_ble_eq_true rfl⟩ hS (fun E ce q9 H locs hX9 hz9 hS hcell hv9 hcl9 => ?_) (fun r9 u9 H locs hr9 hW hz9 hS => ?_)
  · obtain ⟨hf9, hW⟩ := hX9
    obtain ⟨-, hEE⟩ := er_best hf9
    subst hEE
    refine vx_catch (E := xI) (name := xI) hown [] ⟨0, 10, 13, 21⟩ [] htab (fun z hz => absurd hz (by simp)) (by decide) (by decide) (hts (.classLink RL 21 "java/lang/IndexOutOfBoundsException") (List.mem_of_getElem? (i := 1) rfl)) (va_Nw.use rfl hE.1.1) hcell hv9 hcl9 ?_
    refine lv_astore (lv' := [(4, .ref q9), (0, .ref (ad 0 0)), (1, .int v), (2, .int w), (3, .ref (ad 0 2))]) hx hb dL_best_13 hl (by decide) rfl (fun ls hl => ?_)
    refine lv_iconst (v := 1) hx hb dL_best_15 (by decide) ?_
    refine W.widen (k := 1) (n := 6) (by omega) (by omega) ?_
    exact g_wret (u := ()) (post := fun r (_ : Unit) => okW oI (f_X4_best C N v w) r) (B := fun (_ : Unit) H => gW D A ad (oW (f_X4_best C N v w) (fun a => Wd G ad N C M (oL o a.toInt64)) (Wd G ad N C M o)) H) hx hb hr hlk hh hS (by rw [hf9]; exact (by decide +kernel : (1 : Int32) = cdF oI xI)) (show gW D A ad (oW (f_X4_best C N v w) (fun a => Wd G ad N C M (oL o a.toInt64)) (Wd G ad N C M o)) H from by rw [hf9]; exact hW) dL_best_16
  · have hr8 := hr9
    refine lv_i2l (v := r9.toInt64) hx hb dL_best_8 rfl ?_
    refine g_lst (ad := ad) (ct' := Wd G ad N C M (oL o r9.toInt64)) hx hb hK hW hS 1 (n := 1) (f := o) rfl rfl (j := 0) (x := r9.toInt64) (vp_in_nI (by decide : 0 < 1) (by decide)) dL_best_9 rfl (fun b' i' h9 => Wd_o b' i' h9) (fun H locs hW hS => ?_)
    refine lv_goto (tgt := 17) hx hb dL_best_10 (by decide) ?_
    refine lv_iconst (v := 0) hx hb dL_best_17 (by decide) ?_
    refine W.widen (k := 1) (n := 6) (by omega) (by omega) ?_
    exact g_wret (u := ()) (post := fun r (_ : Unit) => okW oI (f_X4_best C N v w) r) (B := fun (_ : Unit) H => gW D A ad (oW (f_X4_best C N v w) (fun a => Wd G ad N C M (oL o a.toInt64)) (Wd G ad N C M o)) H) hx hb hr hlk hh hS (by have h7 : okW oI (Sum.inl r9) 0 := rfl; rw [← hr8] at h7; exact h7) (show gW D A ad (oW (f_X4_best C N v w) (fun a => Wd G ad N C M (oL o a.toInt64)) (Wd G ad N C M o)) H from by rw [hr8]; exact hW) dL_best_18
set_option maxHeartbeats 4000000 in
set_option maxRecDepth 100000 in
theorem c_L_most (l : Launch) (D : va_G) (G : gG) (A : Nat → Prop) (ad : gAd) (N : gN) (C M : gT) (o : Nat → Int64) (Hp : Heap) (hW : gW D A ad (Wd G ad N C M o) Hp) (hl0 : l.stackTraces = false) (hC : IC N C) (mi : Nat) (v : Int32) : Met l yL_most wsL_most ({ frames := 15, cells := 1, slots := 6, locals := 422 }) (va_Pc [.ref (ad 0 0), .int v, .ref (ad 0 2)] (gQZ D G Hp mi A)) (va_Qi (fun r (_ : Unit) => okW oI (f_X4_most C N v) r) (fun _ t => gW D A ad (oW (f_X4_most C N v) (fun a => Wd G ad N C M (oL o a.toInt64)) (Wd G ad N C M o)) t.heap) A) 1 6 A := by
  refine g_startW (cc := cL_most) (maxL := 4) (ret := (some .int)) (hh := [(0, 9, 12, 21)]) (by decide) rfl (Nat.le_of_ble_eq_true rfl) (fun p e s m below meth c ls C0 hr hlk hh hK hE hL hNe hNc htab hl => ?_)
  obtain ⟨hx, hb, hml, hown, hts⟩ := id C0
  have hown : s.vm.findClass RL = some m.cls := hown
  have hS : va_S A Hp Hp [] := va_S.rf
  have hl : lv_has ls 4 [(0, .ref (ad 0 0)), (1, .int v), (2, .ref (ad 0 2))] := hl
  refine lv_aload_n hx hb dL_most_0 rfl (lv_at hl 2 rfl) ?_
  refine lv_iconst (v := 0) hx hb dL_most_1 (by decide) ?_
  refine lv_aload_n hx hb dL_most_2 rfl (lv_at hl 0 rfl) ?_
  refine lv_iload_n hx hb dL_most_3 rfl (lv_at hl 1 rfl) ?_
  have hM9 := c_X4_most l D G A ad N C M o Hp hW hl0 hC v
  refine g_VXi (As := [.int v]) (rest := [.int 0, .ref (ad 0 2)]) (B := fun (_ : Unit) H => gW D A ad (Wd G ad N C M o) H) (BX := fun E H => f_X4_most C N v = .inr E ∧ gW D A ad (Wd G ad N C M o) H) (mc := 1) (ms := 6) C0 hM9 (cwV 1 hts gL_most_X4_most rfl rfl rfl (by decide +kernel) ⟨Nat.le_of_ble_eq_true rfl, Nat.le_of_ble_eq_true rfl⟩) g_Xblind (fun U hU hW9 => ⟨hU, va_K.moved hW9.alike hK, hE.moved hW9 (fun q h1 h2 => by rw [hU, hh])⟩) (va_recv hK (hW.p rfl) (ci := 5) (q0 := 0) rfl rfl) rfl hl rfl (Nat.le_of_ble_eq_true rfl) dL_most_4 ⟨Nat.le_of_ble_eq_true rfl, Nat.le_of_ble_eq_true rfl⟩ hS (fun E ce q9 H locs hX9 hz9 hS hcell hv9 hcl9 => ?_) (fun r9 u9 H locs hr9 hW hz9 hS => ?_)
  · obtain ⟨hf9, hW⟩ := hX9
    obtain ⟨-, hEE⟩ := er_most hf9
    subst hEE
    refine vx_catch (E := xI) (name := xI) hown [] ⟨0, 9, 12, 21⟩ [] htab (fun z hz => absurd hz (by simp)) (by decide) (by decide) (hts (.classLink RL 21 "java/lang/IndexOutOfBoundsException") (List.mem_of_getElem? (i := 1) rfl)) (va_Nw.use rfl hE.1.1) hcell hv9 hcl9 ?_
    refine lv_astore_n (lv' := [(3, .ref q9), (0, .ref (ad 0 0)), (1, .int v), (2, .ref (ad 0 2))]) hx hb dL_most_12 rfl hl (by decide) rfl (fun ls hl => ?_)
    refine lv_iconst (v := 1) hx hb dL_most_13 (by decide) ?_
    refine W.widen (k := 1) (n := 6) (by omega) (by omega) ?_
    exact g_wret (u := ()) (post := fun r (_ : Unit) => okW oI (f_X4_most C N v) r) (B := fun (_ : Unit) H => gW D A ad (oW (f_X4_most C N v) (fun a => Wd G ad N C M (oL o a.toInt64)) (Wd G ad N C M o)) H) hx hb hr hlk hh hS (by rw [hf9]; exact (by decide +kernel : (1 : Int32) = cdF oI xI)) (show gW D A ad (oW (f_X4_most C N v) (fun a => Wd G ad N C M (oL o a.toInt64)) (Wd G ad N C M o)) H from by rw [hf9]; exact hW) dL_most_14
  · have hr8 := hr9
    refine lv_i2l (v := r9.toInt64) hx hb dL_most_7 rfl ?_
    refine g_lst (ad := ad) (ct' := Wd G ad N C M (oL o r9.toInt64)) hx hb hK hW hS 1 (n := 1) (f := o) rfl rfl (j := 0) (x := r9.toInt64) (vp_in_nI (by decide : 0 < 1) (by decide)) dL_most_8 rfl (fun b' i' h9 => Wd_o b' i' h9) (fun H locs hW hS => ?_)
    refine lv_goto (tgt := 15) hx hb dL_most_9 (by decide) ?_
    refine lv_iconst (v := 0) hx hb dL_most_15 (by decide) ?_
    refine W.widen (k := 1) (n := 6) (by omega) (by omega) ?_
    exact g_wret (u := ()) (post := fun r (_ : Unit) => okW oI (f_X4_most C N v) r) (B := fun (_ : Unit) H => gW D A ad (oW (f_X4_most C N v) (fun a => Wd G ad N C M (oL o a.toInt64)) (Wd G ad N C M o)) H) hx hb hr hlk hh hS (by have h7 : okW oI (Sum.inl r9) 0 := rfl; rw [← hr8] at h7; exact h7) (show gW D A ad (oW (f_X4_most C N v) (fun a => Wd G ad N C M (oL o a.toInt64)) (Wd G ad N C M o)) H from by rw [hr8]; exact hW) dL_most_16
set_option maxHeartbeats 4000000 in
set_option maxRecDepth 100000 in
theorem c_L_sleeps (l : Launch) (D : va_G) (G : gG) (A : Nat → Prop) (ad : gAd) (N : gN) (C M : gT) (o : Nat → Int64) (Hp : Heap) (hW : gW D A ad (Wd G ad N C M o) Hp) (hl0 : l.stackTraces = false) (hC : IC N C) (mi : Nat) (v : Int32) : Met l yL_sleeps wsL_sleeps ({ frames := 7, cells := 1, slots := 6, locals := 112 }) (va_Pc [.ref (ad 0 0), .int v, .ref (ad 0 2)] (gQZ D G Hp mi A)) (va_Qi (fun r (_ : Unit) => okW oI (f_X4_sleeps C N v) r) (fun _ t => gW D A ad (oW (f_X4_sleeps C N v) (fun a => Wd G ad N C M (oL o a.toInt64)) (Wd G ad N C M o)) t.heap) A) 1 6 A := by
  refine g_startW (cc := cL_sleeps) (maxL := 4) (ret := (some .int)) (hh := [(0, 9, 12, 21)]) (by decide) rfl (Nat.le_of_ble_eq_true rfl) (fun p e s m below meth c ls C0 hr hlk hh hK hE hL hNe hNc htab hl => ?_)
  obtain ⟨hx, hb, hml, hown, hts⟩ := id C0
  have hown : s.vm.findClass RL = some m.cls := hown
  have hS : va_S A Hp Hp [] := va_S.rf
  have hl : lv_has ls 4 [(0, .ref (ad 0 0)), (1, .int v), (2, .ref (ad 0 2))] := hl
  refine lv_aload_n hx hb dL_sleeps_0 rfl (lv_at hl 2 rfl) ?_
  refine lv_iconst (v := 0) hx hb dL_sleeps_1 (by decide) ?_
  refine lv_aload_n hx hb dL_sleeps_2 rfl (lv_at hl 0 rfl) ?_
  refine lv_iload_n hx hb dL_sleeps_3 rfl (lv_at hl 1 rfl) ?_
  have hM9 := c_X4_sleeps l D G A ad N C M o Hp hW hl0 hC v
  refine g_VXi (As := [.int v]) (rest := [.int 0, .ref (ad 0 2)]) (B := fun (_ : Unit) H => gW D A ad (Wd G ad N C M o) H) (BX := fun E H => f_X4_sleeps C N v = .inr E ∧ gW D A ad (Wd G ad N C M o) H) (mc := 1) (ms := 6) C0 hM9 (cwV 1 hts gL_sleeps_X4_sleeps rfl rfl rfl (by decide +kernel) ⟨Nat.le_of_ble_eq_true rfl, Nat.le_of_ble_eq_true rfl⟩) g_Xblind (fun U hU hW9 => ⟨hU, va_K.moved hW9.alike hK, hE.moved hW9 (fun q h1 h2 => by rw [hU, hh])⟩) (va_recv hK (hW.p rfl) (ci := 5) (q0 := 0) rfl rfl) rfl hl rfl (Nat.le_of_ble_eq_true rfl) dL_sleeps_4 ⟨Nat.le_of_ble_eq_true rfl, Nat.le_of_ble_eq_true rfl⟩ hS (fun E ce q9 H locs hX9 hz9 hS hcell hv9 hcl9 => ?_) (fun r9 u9 H locs hr9 hW hz9 hS => ?_)
  · obtain ⟨hf9, hW⟩ := hX9
    obtain ⟨-, hEE⟩ := er_sleeps hf9
    subst hEE
    refine vx_catch (E := xI) (name := xI) hown [] ⟨0, 9, 12, 21⟩ [] htab (fun z hz => absurd hz (by simp)) (by decide) (by decide) (hts (.classLink RL 21 "java/lang/IndexOutOfBoundsException") (List.mem_of_getElem? (i := 1) rfl)) (va_Nw.use rfl hE.1.1) hcell hv9 hcl9 ?_
    refine lv_astore_n (lv' := [(3, .ref q9), (0, .ref (ad 0 0)), (1, .int v), (2, .ref (ad 0 2))]) hx hb dL_sleeps_12 rfl hl (by decide) rfl (fun ls hl => ?_)
    refine lv_iconst (v := 1) hx hb dL_sleeps_13 (by decide) ?_
    refine W.widen (k := 1) (n := 6) (by omega) (by omega) ?_
    exact g_wret (u := ()) (post := fun r (_ : Unit) => okW oI (f_X4_sleeps C N v) r) (B := fun (_ : Unit) H => gW D A ad (oW (f_X4_sleeps C N v) (fun a => Wd G ad N C M (oL o a.toInt64)) (Wd G ad N C M o)) H) hx hb hr hlk hh hS (by rw [hf9]; exact (by decide +kernel : (1 : Int32) = cdF oI xI)) (show gW D A ad (oW (f_X4_sleeps C N v) (fun a => Wd G ad N C M (oL o a.toInt64)) (Wd G ad N C M o)) H from by rw [hf9]; exact hW) dL_sleeps_14
  · have hr8 := hr9
    refine lv_i2l (v := r9.toInt64) hx hb dL_sleeps_7 rfl ?_
    refine g_lst (ad := ad) (ct' := Wd G ad N C M (oL o r9.toInt64)) hx hb hK hW hS 1 (n := 1) (f := o) rfl rfl (j := 0) (x := r9.toInt64) (vp_in_nI (by decide : 0 < 1) (by decide)) dL_sleeps_8 rfl (fun b' i' h9 => Wd_o b' i' h9) (fun H locs hW hS => ?_)
    refine lv_goto (tgt := 15) hx hb dL_sleeps_9 (by decide) ?_
    refine lv_iconst (v := 0) hx hb dL_sleeps_15 (by decide) ?_
    refine W.widen (k := 1) (n := 6) (by omega) (by omega) ?_
    exact g_wret (u := ()) (post := fun r (_ : Unit) => okW oI (f_X4_sleeps C N v) r) (B := fun (_ : Unit) H => gW D A ad (oW (f_X4_sleeps C N v) (fun a => Wd G ad N C M (oL o a.toInt64)) (Wd G ad N C M o)) H) hx hb hr hlk hh hS (by have h7 : okW oI (Sum.inl r9) 0 := rfl; rw [← hr8] at h7; exact h7) (show gW D A ad (oW (f_X4_sleeps C N v) (fun a => Wd G ad N C M (oL o a.toInt64)) (Wd G ad N C M o)) H from by rw [hr8]; exact hW) dL_sleeps_16
