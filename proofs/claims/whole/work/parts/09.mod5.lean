/-! THE REFERENCE: the checksum -/
def L_dg4r (M : gT) (i : Nat) (k2 : Nat) (acc : Int64) : Int64 := ((acc * 31) + (M 21 (8 * i + k2)).toInt64)
def L_dg4w (M : gT) (i : Nat) (k2 : Nat) (acc : Int64) : Int64 := ((acc * 31) + (f_X5_plotTold M i (nI k2)).toInt64)
def L_dg4 (M : gT) (j : Nat) (acc : Int64) : Int64 := (gIt (L_dg4r M j) (gIt (L_dg4w M j) acc 4) (szM M j))
def L_dg3w (n : gN) (M : gT) (i : Nat) (k2 : Nat) (acc : Int64) : Int64 := ((acc * 31) + (f_X5_travellerTold n M i k2).toInt64)
def L_dg3 (n : gN) (M : gT) (j : Nat) (acc : Int64) : Int64 := (gIt (L_dg3w n M j) acc 5)
def L_dg2w (M : gT) (i : Nat) (k2 : Nat) (acc : Int64) : Int64 := ((acc * 31) + (f_X5_guardTold M i (nI k2)).toInt64)
def L_dg2 (M : gT) (j : Nat) (acc : Int64) : Int64 := (gIt (L_dg2w M j) acc 3)
def L_dg1w (M : gT) (i : Nat) (k2 : Nat) (acc : Int64) : Int64 := ((acc * 31) + (f_X5_sceneTold M i (nI k2)).toInt64)
def L_dg1 (M : gT) (j : Nat) (acc : Int64) : Int64 := (gIt (L_dg1w M j) acc 5)
def L_dg0 (n : gN) (M : gT) (j : Nat) (acc : Int64) : Int64 := ((acc * 31) + (f_X5_counted n M j).toInt64)
def f_X5_digest (n : gN) (M : gT) : Int64 := (gIt (L_dg4 (tset M 0 0 0)) (gIt (L_dg3 n (tset M 0 0 0)) (gIt (L_dg2 (tset M 0 0 0)) (gIt (L_dg1 (tset M 0 0 0)) (gIt (L_dg0 n (tset M 0 0 0)) 839 11) (n 0)) (n 1)) (n 2)) (n 3))
def s_X5_digest (n : gN) (M : gT) : gT := (tset M 0 0 0)
set_option maxHeartbeats 4000000 in
set_option maxRecDepth 100000 in
theorem c_X5_digest (l : Launch) (D : va_G) (G : gG) (A : Nat → Prop) (ad : gAd) (N : gN) (C M : gT) (o : Nat → Int64) (Hp : Heap) (hW : gW D A ad (Wd G ad N C M o) Hp) (hA : ∀ q, Hp.size ≤ q → A q) (n : gN) (hI : IM n M) : Met l yX5_digest wsX5_digest ({ frames := 3, cells := 71, slots := 421, locals := 67 }) (va_Pc [.ref (ad 0 1)] (gQ D (gTs G) Hp)) (va_Ql (fun r (_ : Unit) => r = f_X5_digest n M) (fun _ t => gW D A ad (Wd G ad N C (s_X5_digest n M) o) t.heap) A) 71 421 A := by
  refine g_start (cc := cX5_digest) (maxL := 5) (ret := (some .long)) (by decide) rfl (Nat.le_of_ble_eq_true rfl) (fun p e s m below meth c ls C0 hr hlk hnm hh hK hl => ?_)
  obtain ⟨hx, hb, hml, hown, hts⟩ := id C0
  have hown : s.vm.findClass RX5 = some m.cls := hown
  have hS : va_S A Hp Hp [] := va_S.rf
  have hl : lv_has ls 5 [(0, .ref (ad 0 1))] := hl
  have inX5 : ∀ w ∈ wsX50, w ∈ wsX5_digest := by decide +kernel
  obtain ⟨⟨hb0, hn0⟩, ⟨hb1, hn1⟩, ⟨hb2, hn2⟩, ⟨hb3, hn3⟩, hpl, hhe⟩ := id hI
  have hI0 := IM_t0 (v := 0) hI
  refine lv_aload_n hx hb dX5_digest_0 rfl (lv_at hl 0 rfl) ?_
  refine lv_iconst (v := 0) hx hb dX5_digest_1 (by decide) ?_
  refine g_put (D := D) (ci := 6) (v := .int 0) (ty := .int) (C := RX5) (T := TX5) (N := 23) (ct' := (Wd G ad N C (tset M 0 0 0) o)) hx hb hts inX5 tyX5 tyX5_ok nmX5 hown hK hW hS (show Wd G ad N C M o 0 1 = some (eMod ad M) from rfl) rfl 0 (by decide) (hts (.fieldLink RX5 59 "StoryTollModel" "thrown" "I") (List.mem_of_getElem? (i := 1) rfl)) (fun _ h9 => h9) rfl (by decide +kernel) rfl rfl (Nat.le_of_ble_eq_true rfl) dX5_digest_2 Wd_m0 (Wd_tM rfl) (fun H locs hW hS => ?_)
  refine lv_ldc2 (v := 839) hx hb hown (hts (.constantLong RX5 167 (839)) (List.mem_of_getElem? (i := 2) rfl)) dX5_digest_5 ?_
  refine lv_lstore_n (lv' := [(1, .long 839), (0, .ref (ad 0 1))]) hx hb dX5_digest_8 rfl hl (by decide) rfl (fun ls hl => ?_)
  refine lv_iconst (v := 0) hx hb dX5_digest_9 (by decide) ?_
  refine lv_istore_n (lv' := [(3, .int 0), (1, .long 839), (0, .ref (ad 0 1))]) hx hb dX5_digest_10 rfl hl (by decide) rfl (fun ls hl => ?_)
  refine g_loopH (11) 1 11 (fun j ls H => lv_has ls 5 [(3, .int (nI j)), (1, .long (gIt (L_dg0 n (tset M 0 0 0)) 839 j)), (0, .ref (ad 0 1))] ∧ gW D A ad (Wd G ad N C (tset M 0 0 0) o) H) ⟨lv_sub hl [0, 1, 2] rfl, hW⟩ hS (fun ls H locs hlW hS => ?_) (fun j ls H locs hj hlW hS ih => ?_)
  · obtain ⟨hl, hW⟩ : lv_has ls 5 [(3, .int (nI 11)), (1, .long (gIt (L_dg0 n (tset M 0 0 0)) 839 11)), (0, .ref (ad 0 1))] ∧ gW D A ad (Wd G ad N C (tset M 0 0 0) o) H := hlW
    refine W.widen (k := 0 + 11 * 1) (n := 0 + 11 * 11) (by omega) (by omega) ?_
    refine lv_iload_n hx hb dX5_digest_11 rfl (lv_at hl 0 rfl) ?_
    refine lv_bipush (v := 11) hx hb dX5_digest_12 (by decide) ?_
    refine lv_icmp_ge (tgt := 36) hx hb dX5_digest_14 (by decide) (fun c_14_0 => ?_) (fun c_14_0 => ?_)
    · refine lv_iconst (v := 0) hx hb dX5_digest_36 (by decide) ?_
      refine lv_istore_n (lv' := [(3, .int 0), (1, .long (gIt (L_dg0 n (tset M 0 0 0)) 839 11)), (0, .ref (ad 0 1))]) hx hb dX5_digest_37 rfl hl (by decide) rfl (fun ls hl => ?_)
      refine g_loop (n 0) (fun j ls => lv_has ls 5 [(3, .int (nI j)), (1, .long (gIt (L_dg1 (tset M 0 0 0)) (gIt (L_dg0 n (tset M 0 0 0)) 839 11) j)), (0, .ref (ad 0 1))]) (lv_sub hl [0, 1, 2] rfl) hS (fun ls locs hl hS => ?_) (fun j ls locs hj hl hS ih => ?_)
      · have hl : lv_has ls 5 [(3, .int (nI (n 0))), (1, .long (gIt (L_dg1 (tset M 0 0 0)) (gIt (L_dg0 n (tset M 0 0 0)) 839 11) (n 0))), (0, .ref (ad 0 1))] := hl
        refine lv_iload_n hx hb dX5_digest_38 rfl (lv_at hl 0 rfl) ?_
        refine lv_aload_n hx hb dX5_digest_39 rfl (lv_at hl 2 rfl) ?_
        refine va_get (D := D) (ci := 6) (v := .int ((tset M 0 0 0) 2 0)) (C := RX5) (T := TX5) (N := 23) hx hb hts inX5 hown hK (hW.p (e := (eMod ad (tset M 0 0 0))) rfl) 0 rfl rfl 2 (by decide) (hts (.fieldLink RX5 62 "StoryTollModel" "scenes" "I") (List.mem_of_getElem? (i := 4) rfl)) (fun _ h9 => h9) rfl dX5_digest_40 ?_
        rw [show ((tset M 0 0 0) 2 0) = (M 2 0) from by rw [tset_of (by decide)]]
        refine lv_icmp_ge (tgt := 82) hx hb dX5_digest_43 (by decide) (fun c_43_1 => ?_) (fun c_43_1 => ?_)
        · refine lv_iconst (v := 0) hx hb dX5_digest_82 (by decide) ?_
          refine lv_istore_n (lv' := [(3, .int 0), (1, .long (gIt (L_dg1 (tset M 0 0 0)) (gIt (L_dg0 n (tset M 0 0 0)) 839 11) (n 0))), (0, .ref (ad 0 1))]) hx hb dX5_digest_83 rfl hl (by decide) rfl (fun ls hl => ?_)
          refine g_loop (n 1) (fun j ls => lv_has ls 5 [(3, .int (nI j)), (1, .long (gIt (L_dg2 (tset M 0 0 0)) (gIt (L_dg1 (tset M 0 0 0)) (gIt (L_dg0 n (tset M 0 0 0)) 839 11) (n 0)) j)), (0, .ref (ad 0 1))]) (lv_sub hl [0, 1, 2] rfl) hS (fun ls locs hl hS => ?_) (fun j ls locs hj hl hS ih => ?_)
          · have hl : lv_has ls 5 [(3, .int (nI (n 1))), (1, .long (gIt (L_dg2 (tset M 0 0 0)) (gIt (L_dg1 (tset M 0 0 0)) (gIt (L_dg0 n (tset M 0 0 0)) 839 11) (n 0)) (n 1))), (0, .ref (ad 0 1))] := hl
            refine lv_iload_n hx hb dX5_digest_84 rfl (lv_at hl 0 rfl) ?_
            refine lv_aload_n hx hb dX5_digest_85 rfl (lv_at hl 2 rfl) ?_
            refine va_get (D := D) (ci := 6) (v := .int ((tset M 0 0 0) 10 0)) (C := RX5) (T := TX5) (N := 23) hx hb hts inX5 hown hK (hW.p (e := (eMod ad (tset M 0 0 0))) rfl) 0 rfl rfl 10 (by decide) (hts (.fieldLink RX5 69 "StoryTollModel" "guards" "I") (List.mem_of_getElem? (i := 5) rfl)) (fun _ h9 => h9) rfl dX5_digest_86 ?_
            rw [show ((tset M 0 0 0) 10 0) = (M 10 0) from by rw [tset_of (by decide)]]
            refine lv_icmp_ge (tgt := 128) hx hb dX5_digest_89 (by decide) (fun c_89_2 => ?_) (fun c_89_2 => ?_)
            · refine lv_iconst (v := 0) hx hb dX5_digest_128 (by decide) ?_
              refine lv_istore_n (lv' := [(3, .int 0), (1, .long (gIt (L_dg2 (tset M 0 0 0)) (gIt (L_dg1 (tset M 0 0 0)) (gIt (L_dg0 n (tset M 0 0 0)) 839 11) (n 0)) (n 1))), (0, .ref (ad 0 1))]) hx hb dX5_digest_129 rfl hl (by decide) rfl (fun ls hl => ?_)
              refine g_loopH (n 2) 5 25 (fun j ls H => lv_has ls 5 [(3, .int (nI j)), (1, .long (gIt (L_dg3 n (tset M 0 0 0)) (gIt (L_dg2 (tset M 0 0 0)) (gIt (L_dg1 (tset M 0 0 0)) (gIt (L_dg0 n (tset M 0 0 0)) 839 11) (n 0)) (n 1)) j)), (0, .ref (ad 0 1))] ∧ gW D A ad (Wd G ad N C (tset M 0 0 0) o) H) ⟨lv_sub hl [0, 1, 2] rfl, hW⟩ hS (fun ls H locs hlW hS => ?_) (fun j ls H locs hj hlW hS ih => ?_)
              · obtain ⟨hl, hW⟩ : lv_has ls 5 [(3, .int (nI (n 2))), (1, .long (gIt (L_dg3 n (tset M 0 0 0)) (gIt (L_dg2 (tset M 0 0 0)) (gIt (L_dg1 (tset M 0 0 0)) (gIt (L_dg0 n (tset M 0 0 0)) 839 11) (n 0)) (n 1)) (n 2))), (0, .ref (ad 0 1))] ∧ gW D A ad (Wd G ad N C (tset M 0 0 0) o) H := hlW
                refine W.widen (k := 0 + 11 * 1 + (n 2) * 5) (n := 0 + 11 * 11 + (n 2) * 25) (by omega) (by omega) ?_
                refine lv_iload_n hx hb dX5_digest_130 rfl (lv_at hl 0 rfl) ?_
                refine lv_aload_n hx hb dX5_digest_131 rfl (lv_at hl 2 rfl) ?_
                refine va_get (D := D) (ci := 6) (v := .int ((tset M 0 0 0) 14 0)) (C := RX5) (T := TX5) (N := 23) hx hb hts inX5 hown hK (hW.p (e := (eMod ad (tset M 0 0 0))) rfl) 0 rfl rfl 14 (by decide) (hts (.fieldLink RX5 72 "StoryTollModel" "travellers" "I") (List.mem_of_getElem? (i := 6) rfl)) (fun _ h9 => h9) rfl dX5_digest_132 ?_
                rw [show ((tset M 0 0 0) 14 0) = (M 14 0) from by rw [tset_of (by decide)]]
                refine lv_icmp_ge (tgt := 174) hx hb dX5_digest_135 (by decide) (fun c_135_3 => ?_) (fun c_135_3 => ?_)
                · refine lv_iconst (v := 0) hx hb dX5_digest_174 (by decide) ?_
                  refine lv_istore_n (lv' := [(3, .int 0), (1, .long (gIt (L_dg3 n (tset M 0 0 0)) (gIt (L_dg2 (tset M 0 0 0)) (gIt (L_dg1 (tset M 0 0 0)) (gIt (L_dg0 n (tset M 0 0 0)) 839 11) (n 0)) (n 1)) (n 2))), (0, .ref (ad 0 1))]) hx hb dX5_digest_175 rfl hl (by decide) rfl (fun ls hl => ?_)
                  refine g_loop (n 3) (fun j ls => lv_has ls 5 [(3, .int (nI j)), (1, .long (gIt (L_dg4 (tset M 0 0 0)) (gIt (L_dg3 n (tset M 0 0 0)) (gIt (L_dg2 (tset M 0 0 0)) (gIt (L_dg1 (tset M 0 0 0)) (gIt (L_dg0 n (tset M 0 0 0)) 839 11) (n 0)) (n 1)) (n 2)) j)), (0, .ref (ad 0 1))]) (lv_sub hl [0, 1, 2] rfl) hS (fun ls locs hl hS => ?_) (fun j ls locs hj hl hS ih => ?_)
                  · have hl : lv_has ls 5 [(3, .int (nI (n 3))), (1, .long (gIt (L_dg4 (tset M 0 0 0)) (gIt (L_dg3 n (tset M 0 0 0)) (gIt (L_dg2 (tset M 0 0 0)) (gIt (L_dg1 (tset M 0 0 0)) (gIt (L_dg0 n (tset M 0 0 0)) 839 11) (n 0)) (n 1)) (n 2)) (n 3))), (0, .ref (ad 0 1))] := hl
                    refine lv_iload_n hx hb dX5_digest_176 rfl (lv_at hl 0 rfl) ?_
                    refine lv_aload_n hx hb dX5_digest_177 rfl (lv_at hl 2 rfl) ?_
                    refine va_get (D := D) (ci := 6) (v := .int ((tset M 0 0 0) 19 0)) (C := RX5) (T := TX5) (N := 23) hx hb hts inX5 hown hK (hW.p (e := (eMod ad (tset M 0 0 0))) rfl) 0 rfl rfl 19 (by decide) (hts (.fieldLink RX5 75 "StoryTollModel" "plots" "I") (List.mem_of_getElem? (i := 7) rfl)) (fun _ h9 => h9) rfl dX5_digest_178 ?_
                    rw [show ((tset M 0 0 0) 19 0) = (M 19 0) from by rw [tset_of (by decide)]]
                    refine lv_icmp_ge (tgt := 260) hx hb dX5_digest_181 (by decide) (fun c_181_4 => ?_) (fun c_181_4 => ?_)
                    · refine lv_lload_n hx hb dX5_digest_260 rfl (lv_at hl 1 rfl) ?_
                      refine W.widen (k := 71) (n := 421) (by omega) (by omega) ?_
                      exact g_wlret (u := ()) (post := fun r _ => r = f_X5_digest n M) (B := fun _ H => gW D A ad (Wd G ad N C (s_X5_digest n M) o) H) hx hb hr hlk hh hS (show (gIt (L_dg4 (tset M 0 0 0)) (gIt (L_dg3 n (tset M 0 0 0)) (gIt (L_dg2 (tset M 0 0 0)) (gIt (L_dg1 (tset M 0 0 0)) (gIt (L_dg0 n (tset M 0 0 0)) 839 11) (n 0)) (n 1)) (n 2)) (n 3)) = f_X5_digest n M from by rw [f_X5_digest]) (show gW D A ad (Wd G ad N C (s_X5_digest n M) o) H from by rw [s_X5_digest]; exact hW) dX5_digest_261
                    · exact absurd (g_le hb3 (by omega)) c_181_4
                  · have hl : lv_has ls 5 [(3, .int (nI j)), (1, .long (gIt (L_dg4 (tset M 0 0 0)) (gIt (L_dg3 n (tset M 0 0 0)) (gIt (L_dg2 (tset M 0 0 0)) (gIt (L_dg1 (tset M 0 0 0)) (gIt (L_dg0 n (tset M 0 0 0)) 839 11) (n 0)) (n 1)) (n 2)) j)), (0, .ref (ad 0 1))] := hl
                    obtain ⟨-, -, -, -, hpl0, -⟩ := id hI0
                    obtain ⟨hs1, hs2, hs3, hrw⟩ := hpl0 j hj
                    refine lv_iload_n hx hb dX5_digest_176 rfl (lv_at hl 0 rfl) ?_
                    refine lv_aload_n hx hb dX5_digest_177 rfl (lv_at hl 2 rfl) ?_
                    refine va_get (D := D) (ci := 6) (v := .int ((tset M 0 0 0) 19 0)) (C := RX5) (T := TX5) (N := 23) hx hb hts inX5 hown hK (hW.p (e := (eMod ad (tset M 0 0 0))) rfl) 0 rfl rfl 19 (by decide) (hts (.fieldLink RX5 75 "StoryTollModel" "plots" "I") (List.mem_of_getElem? (i := 7) rfl)) (fun _ h9 => h9) rfl dX5_digest_178 ?_
                    rw [show ((tset M 0 0 0) 19 0) = (M 19 0) from by rw [tset_of (by decide)]]
                    refine lv_icmp_ge (tgt := 260) hx hb dX5_digest_181 (by decide) (fun c_181_5 => ?_) (fun c_181_5 => ?_)
                    · exact absurd c_181_5 (g_ge hb3 (by omega) hj)
                    · refine lv_iconst (v := 0) hx hb dX5_digest_184 (by decide) ?_
                      refine lv_istore (lv' := [(4, .int 0), (3, .int (nI j)), (1, .long (gIt (L_dg4 (tset M 0 0 0)) (gIt (L_dg3 n (tset M 0 0 0)) (gIt (L_dg2 (tset M 0 0 0)) (gIt (L_dg1 (tset M 0 0 0)) (gIt (L_dg0 n (tset M 0 0 0)) 839 11) (n 0)) (n 1)) (n 2)) j)), (0, .ref (ad 0 1))]) hx hb dX5_digest_185 hl (by decide) rfl (fun ls hl => ?_)
                      refine g_loop (4) (fun k2 ls => lv_has ls 5 [(4, .int (nI k2)), (3, .int (nI j)), (1, .long (gIt (L_dg4w (tset M 0 0 0) j) (gIt (L_dg4 (tset M 0 0 0)) (gIt (L_dg3 n (tset M 0 0 0)) (gIt (L_dg2 (tset M 0 0 0)) (gIt (L_dg1 (tset M 0 0 0)) (gIt (L_dg0 n (tset M 0 0 0)) 839 11) (n 0)) (n 1)) (n 2)) j) k2)), (0, .ref (ad 0 1))]) (lv_sub hl [0, 1, 2, 3] rfl) hS (fun ls locs hl hS => ?_) (fun k2 ls locs hk2 hl hS ih => ?_)
                      · have hl : lv_has ls 5 [(4, .int (nI 4)), (3, .int (nI j)), (1, .long (gIt (L_dg4w (tset M 0 0 0) j) (gIt (L_dg4 (tset M 0 0 0)) (gIt (L_dg3 n (tset M 0 0 0)) (gIt (L_dg2 (tset M 0 0 0)) (gIt (L_dg1 (tset M 0 0 0)) (gIt (L_dg0 n (tset M 0 0 0)) 839 11) (n 0)) (n 1)) (n 2)) j) 4)), (0, .ref (ad 0 1))] := hl
                        refine lv_iload hx hb dX5_digest_187 (lv_at hl 0 rfl) ?_
                        refine lv_iconst (v := 4) hx hb dX5_digest_189 (by decide) ?_
                        refine lv_icmp_ge (tgt := 214) hx hb dX5_digest_190 (by decide) (fun c_190_6 => ?_) (fun c_190_6 => ?_)
                        · refine lv_iconst (v := 0) hx hb dX5_digest_214 (by decide) ?_
                          refine lv_istore (lv' := [(4, .int 0), (3, .int (nI j)), (1, .long (gIt (L_dg4w (tset M 0 0 0) j) (gIt (L_dg4 (tset M 0 0 0)) (gIt (L_dg3 n (tset M 0 0 0)) (gIt (L_dg2 (tset M 0 0 0)) (gIt (L_dg1 (tset M 0 0 0)) (gIt (L_dg0 n (tset M 0 0 0)) 839 11) (n 0)) (n 1)) (n 2)) j) 4)), (0, .ref (ad 0 1))]) hx hb dX5_digest_215 hl (by decide) rfl (fun ls hl => ?_)
                          refine g_loop (szM (tset M 0 0 0) j) (fun k2 ls => lv_has ls 5 [(4, .int (nI k2)), (3, .int (nI j)), (1, .long (gIt (L_dg4r (tset M 0 0 0) j) (gIt (L_dg4w (tset M 0 0 0) j) (gIt (L_dg4 (tset M 0 0 0)) (gIt (L_dg3 n (tset M 0 0 0)) (gIt (L_dg2 (tset M 0 0 0)) (gIt (L_dg1 (tset M 0 0 0)) (gIt (L_dg0 n (tset M 0 0 0)) 839 11) (n 0)) (n 1)) (n 2)) j) 4) k2)), (0, .ref (ad 0 1))]) (lv_sub hl [0, 1, 2, 3] rfl) hS (fun ls locs hl hS => ?_) (fun k2 ls locs hk2 hl hS ih => ?_)
                          · have hl : lv_has ls 5 [(4, .int (nI (szM (tset M 0 0 0) j))), (3, .int (nI j)), (1, .long (gIt (L_dg4r (tset M 0 0 0) j) (gIt (L_dg4w (tset M 0 0 0) j) (gIt (L_dg4 (tset M 0 0 0)) (gIt (L_dg3 n (tset M 0 0 0)) (gIt (L_dg2 (tset M 0 0 0)) (gIt (L_dg1 (tset M 0 0 0)) (gIt (L_dg0 n (tset M 0 0 0)) 839 11) (n 0)) (n 1)) (n 2)) j) 4) (szM (tset M 0 0 0) j))), (0, .ref (ad 0 1))] := hl
                            refine lv_iload hx hb dX5_digest_217 (lv_at hl 0 rfl) ?_
                            refine lv_aload_n hx hb dX5_digest_219 rfl (lv_at hl 3 rfl) ?_
                            refine va_get (D := D) (ci := 6) (v := .ref (ad 9 20)) (C := RX5) (T := TX5) (N := 23) hx hb hts inX5 hown hK (hW.p (e := (eMod ad (tset M 0 0 0))) rfl) 0 rfl rfl 20 (by decide) (hts (.fieldLink RX5 50 "StoryTollModel" "size" "[I") (List.mem_of_getElem? (i := 8) rfl)) (fun _ h9 => h9) rfl dX5_digest_220 ?_
                            refine lv_iload_n hx hb dX5_digest_223 rfl (lv_at hl 1 rfl) ?_
                            refine g_ild hx hb hK hW 0 (n := 8) (f := ((tset M 0 0 0) 20)) rfl rfl (k := j) rfl (by omega) (by decide) dX5_digest_224 ?_
                            rw [show ((tset M 0 0 0) 20 j) = (M 20 j) from by rw [tset_of (by decide)]]
                            refine lv_icmp_ge (tgt := 254) hx hb dX5_digest_225 (by decide) (fun c_225_7 => ?_) (fun c_225_7 => ?_)
                            · refine lv_iinc (v := (nI (j + 1))) (lv' := [(3, .int (nI (j + 1))), (4, .int (nI (szM (tset M 0 0 0) j))), (1, .long (gIt (L_dg4r (tset M 0 0 0) j) (gIt (L_dg4w (tset M 0 0 0) j) (gIt (L_dg4 (tset M 0 0 0)) (gIt (L_dg3 n (tset M 0 0 0)) (gIt (L_dg2 (tset M 0 0 0)) (gIt (L_dg1 (tset M 0 0 0)) (gIt (L_dg0 n (tset M 0 0 0)) 839 11) (n 0)) (n 1)) (n 2)) j) 4) (szM (tset M 0 0 0) j))), (0, .ref (ad 0 1))]) hx hb dX5_digest_254 hl (k := 1) rfl (nI_1 _) (by decide) rfl (fun ls hl => ?_)
                              refine lv_goto (tgt := 176) hx hb dX5_digest_257 (by decide) ?_
                              have ea : (gIt (L_dg4r (tset M 0 0 0) j) (gIt (L_dg4w (tset M 0 0 0) j) (gIt (L_dg4 (tset M 0 0 0)) (gIt (L_dg3 n (tset M 0 0 0)) (gIt (L_dg2 (tset M 0 0 0)) (gIt (L_dg1 (tset M 0 0 0)) (gIt (L_dg0 n (tset M 0 0 0)) 839 11) (n 0)) (n 1)) (n 2)) j) 4) (szM (tset M 0 0 0) j)) = (gIt (L_dg4 (tset M 0 0 0)) (gIt (L_dg3 n (tset M 0 0 0)) (gIt (L_dg2 (tset M 0 0 0)) (gIt (L_dg1 (tset M 0 0 0)) (gIt (L_dg0 n (tset M 0 0 0)) 839 11) (n 0)) (n 1)) (n 2)) (j + 1)) := (show (gIt (L_dg4r (tset M 0 0 0) j) (gIt (L_dg4w (tset M 0 0 0) j) (gIt (L_dg4 (tset M 0 0 0)) (gIt (L_dg3 n (tset M 0 0 0)) (gIt (L_dg2 (tset M 0 0 0)) (gIt (L_dg1 (tset M 0 0 0)) (gIt (L_dg0 n (tset M 0 0 0)) 839 11) (n 0)) (n 1)) (n 2)) j) 4) (szM (tset M 0 0 0) j)) = L_dg4 (tset M 0 0 0) j (gIt (L_dg4 (tset M 0 0 0)) (gIt (L_dg3 n (tset M 0 0 0)) (gIt (L_dg2 (tset M 0 0 0)) (gIt (L_dg1 (tset M 0 0 0)) (gIt (L_dg0 n (tset M 0 0 0)) 839 11) (n 0)) (n 1)) (n 2)) j) from by (rw [L_dg4]) <;> rfl)
                              have hl2 : lv_has ls 5 [(3, .int (nI (j + 1))), (1, .long (gIt (L_dg4 (tset M 0 0 0)) (gIt (L_dg3 n (tset M 0 0 0)) (gIt (L_dg2 (tset M 0 0 0)) (gIt (L_dg1 (tset M 0 0 0)) (gIt (L_dg0 n (tset M 0 0 0)) 839 11) (n 0)) (n 1)) (n 2)) (j + 1))), (0, .ref (ad 0 1))] := by rw [← ea]; exact lv_sub hl [0, 2, 3] rfl
                              exact ih ls locs hl2 hS
                            · exact absurd (g_le hs1 (by omega)) c_225_7
                          · have hl : lv_has ls 5 [(4, .int (nI k2)), (3, .int (nI j)), (1, .long (gIt (L_dg4r (tset M 0 0 0) j) (gIt (L_dg4w (tset M 0 0 0) j) (gIt (L_dg4 (tset M 0 0 0)) (gIt (L_dg3 n (tset M 0 0 0)) (gIt (L_dg2 (tset M 0 0 0)) (gIt (L_dg1 (tset M 0 0 0)) (gIt (L_dg0 n (tset M 0 0 0)) 839 11) (n 0)) (n 1)) (n 2)) j) 4) k2)), (0, .ref (ad 0 1))] := hl
                            refine lv_iload hx hb dX5_digest_217 (lv_at hl 0 rfl) ?_
                            refine lv_aload_n hx hb dX5_digest_219 rfl (lv_at hl 3 rfl) ?_
                            refine va_get (D := D) (ci := 6) (v := .ref (ad 9 20)) (C := RX5) (T := TX5) (N := 23) hx hb hts inX5 hown hK (hW.p (e := (eMod ad (tset M 0 0 0))) rfl) 0 rfl rfl 20 (by decide) (hts (.fieldLink RX5 50 "StoryTollModel" "size" "[I") (List.mem_of_getElem? (i := 8) rfl)) (fun _ h9 => h9) rfl dX5_digest_220 ?_
                            refine lv_iload_n hx hb dX5_digest_223 rfl (lv_at hl 1 rfl) ?_
                            refine g_ild hx hb hK hW 0 (n := 8) (f := ((tset M 0 0 0) 20)) rfl rfl (k := j) rfl (by omega) (by decide) dX5_digest_224 ?_
                            rw [show ((tset M 0 0 0) 20 j) = (M 20 j) from by rw [tset_of (by decide)]]
                            refine lv_icmp_ge (tgt := 254) hx hb dX5_digest_225 (by decide) (fun c_225_8 => ?_) (fun c_225_8 => ?_)
                            · exact absurd c_225_8 (g_ge hs1 (by omega) hk2)
                            · refine lv_lload_n hx hb dX5_digest_228 rfl (lv_at hl 2 rfl) ?_
                              refine lv_ldc2 (v := 31) hx hb hown (hts (.constantLong RX5 169 (31)) (List.mem_of_getElem? (i := 3) rfl)) dX5_digest_229 ?_
                              refine lv_lmul hx hb dX5_digest_232 ?_
                              refine lv_aload_n hx hb dX5_digest_233 rfl (lv_at hl 3 rfl) ?_
                              refine va_get (D := D) (ci := 6) (v := .ref (ad 9 21)) (C := RX5) (T := TX5) (N := 23) hx hb hts inX5 hown hK (hW.p (e := (eMod ad (tset M 0 0 0))) rfl) 0 rfl rfl 21 (by decide) (hts (.fieldLink RX5 53 "StoryTollModel" "row" "[I") (List.mem_of_getElem? (i := 9) rfl)) (fun _ h9 => h9) rfl dX5_digest_234 ?_
                              refine lv_bipush (v := 8) hx hb dX5_digest_237 (by decide) ?_
                              refine lv_iload_n hx hb dX5_digest_239 rfl (lv_at hl 1 rfl) ?_
                              refine lv_imul hx hb dX5_digest_240 ?_
                              refine lv_iload hx hb dX5_digest_241 (lv_at hl 0 rfl) ?_
                              refine lv_iadd hx hb dX5_digest_243 ?_
                              refine g_ild hx hb hK hW 0 (n := 64) (f := ((tset M 0 0 0) 21)) rfl rfl (k := (8 * j + k2)) (ix8 j k2) (by omega) (by decide) dX5_digest_244 ?_
                              rw [show ((tset M 0 0 0) 21 (8 * j + k2)) = (M 21 (8 * j + k2)) from by rw [tset_of (by decide)]]
                              refine lv_i2l (v := (M 21 (8 * j + k2)).toInt64) hx hb dX5_digest_245 rfl ?_
                              refine lv_ladd hx hb dX5_digest_246 ?_
                              refine lv_lstore_n (lv' := [(1, .long (((gIt (L_dg4r (tset M 0 0 0) j) (gIt (L_dg4w (tset M 0 0 0) j) (gIt (L_dg4 (tset M 0 0 0)) (gIt (L_dg3 n (tset M 0 0 0)) (gIt (L_dg2 (tset M 0 0 0)) (gIt (L_dg1 (tset M 0 0 0)) (gIt (L_dg0 n (tset M 0 0 0)) 839 11) (n 0)) (n 1)) (n 2)) j) 4) k2) * 31) + (M 21 (8 * j + k2)).toInt64)), (4, .int (nI k2)), (3, .int (nI j)), (0, .ref (ad 0 1))]) hx hb dX5_digest_247 rfl hl (by decide) rfl (fun ls hl => ?_)
                              refine lv_iinc (v := (nI (k2 + 1))) (lv' := [(4, .int (nI (k2 + 1))), (1, .long (((gIt (L_dg4r (tset M 0 0 0) j) (gIt (L_dg4w (tset M 0 0 0) j) (gIt (L_dg4 (tset M 0 0 0)) (gIt (L_dg3 n (tset M 0 0 0)) (gIt (L_dg2 (tset M 0 0 0)) (gIt (L_dg1 (tset M 0 0 0)) (gIt (L_dg0 n (tset M 0 0 0)) 839 11) (n 0)) (n 1)) (n 2)) j) 4) k2) * 31) + (M 21 (8 * j + k2)).toInt64)), (3, .int (nI j)), (0, .ref (ad 0 1))]) hx hb dX5_digest_248 hl (k := 1) rfl (nI_1 _) (by decide) rfl (fun ls hl => ?_)
                              refine lv_goto (tgt := 217) hx hb dX5_digest_251 (by decide) ?_
                              have ea : (((gIt (L_dg4r (tset M 0 0 0) j) (gIt (L_dg4w (tset M 0 0 0) j) (gIt (L_dg4 (tset M 0 0 0)) (gIt (L_dg3 n (tset M 0 0 0)) (gIt (L_dg2 (tset M 0 0 0)) (gIt (L_dg1 (tset M 0 0 0)) (gIt (L_dg0 n (tset M 0 0 0)) 839 11) (n 0)) (n 1)) (n 2)) j) 4) k2) * 31) + (M 21 (8 * j + k2)).toInt64) = (gIt (L_dg4r (tset M 0 0 0) j) (gIt (L_dg4w (tset M 0 0 0) j) (gIt (L_dg4 (tset M 0 0 0)) (gIt (L_dg3 n (tset M 0 0 0)) (gIt (L_dg2 (tset M 0 0 0)) (gIt (L_dg1 (tset M 0 0 0)) (gIt (L_dg0 n (tset M 0 0 0)) 839 11) (n 0)) (n 1)) (n 2)) j) 4) (k2 + 1)) := (show (((gIt (L_dg4r (tset M 0 0 0) j) (gIt (L_dg4w (tset M 0 0 0) j) (gIt (L_dg4 (tset M 0 0 0)) (gIt (L_dg3 n (tset M 0 0 0)) (gIt (L_dg2 (tset M 0 0 0)) (gIt (L_dg1 (tset M 0 0 0)) (gIt (L_dg0 n (tset M 0 0 0)) 839 11) (n 0)) (n 1)) (n 2)) j) 4) k2) * 31) + (M 21 (8 * j + k2)).toInt64) = L_dg4r (tset M 0 0 0) j k2 (gIt (L_dg4r (tset M 0 0 0) j) (gIt (L_dg4w (tset M 0 0 0) j) (gIt (L_dg4 (tset M 0 0 0)) (gIt (L_dg3 n (tset M 0 0 0)) (gIt (L_dg2 (tset M 0 0 0)) (gIt (L_dg1 (tset M 0 0 0)) (gIt (L_dg0 n (tset M 0 0 0)) 839 11) (n 0)) (n 1)) (n 2)) j) 4) k2) from by (rw [L_dg4r]) <;> rfl)
                              have hl2 : lv_has ls 5 [(4, .int (nI (k2 + 1))), (3, .int (nI j)), (1, .long (gIt (L_dg4r (tset M 0 0 0) j) (gIt (L_dg4w (tset M 0 0 0) j) (gIt (L_dg4 (tset M 0 0 0)) (gIt (L_dg3 n (tset M 0 0 0)) (gIt (L_dg2 (tset M 0 0 0)) (gIt (L_dg1 (tset M 0 0 0)) (gIt (L_dg0 n (tset M 0 0 0)) 839 11) (n 0)) (n 1)) (n 2)) j) 4) (k2 + 1))), (0, .ref (ad 0 1))] := by rw [← ea]; exact lv_sub hl [0, 2, 1, 3] rfl
                              exact ih ls locs hl2 hS
                        · exact absurd (g_le (show (4 : Int32) = nI 4 from rfl) (by omega)) c_190_6
                      · have hl : lv_has ls 5 [(4, .int (nI k2)), (3, .int (nI j)), (1, .long (gIt (L_dg4w (tset M 0 0 0) j) (gIt (L_dg4 (tset M 0 0 0)) (gIt (L_dg3 n (tset M 0 0 0)) (gIt (L_dg2 (tset M 0 0 0)) (gIt (L_dg1 (tset M 0 0 0)) (gIt (L_dg0 n (tset M 0 0 0)) 839 11) (n 0)) (n 1)) (n 2)) j) k2)), (0, .ref (ad 0 1))] := hl
                        refine lv_iload hx hb dX5_digest_187 (lv_at hl 0 rfl) ?_
                        refine lv_iconst (v := 4) hx hb dX5_digest_189 (by decide) ?_
                        refine lv_icmp_ge (tgt := 214) hx hb dX5_digest_190 (by decide) (fun c_190_9 => ?_) (fun c_190_9 => ?_)
                        · exact absurd c_190_9 (g_ge (show (4 : Int32) = nI 4 from rfl) (by omega) hk2)
                        · refine lv_lload_n hx hb dX5_digest_193 rfl (lv_at hl 2 rfl) ?_
                          refine lv_ldc2 (v := 31) hx hb hown (hts (.constantLong RX5 169 (31)) (List.mem_of_getElem? (i := 3) rfl)) dX5_digest_194 ?_
                          refine lv_lmul hx hb dX5_digest_197 ?_
                          refine lv_aload_n hx hb dX5_digest_198 rfl (lv_at hl 3 rfl) ?_
                          refine lv_iload_n hx hb dX5_digest_199 rfl (lv_at hl 1 rfl) ?_
                          refine lv_iload hx hb dX5_digest_200 (lv_at hl 0 rfl) ?_
                          refine g_Vi (As := [.int (nI j), .int (nI k2)]) (rest := [.long ((gIt (L_dg4w (tset M 0 0 0) j) (gIt (L_dg4 (tset M 0 0 0)) (gIt (L_dg3 n (tset M 0 0 0)) (gIt (L_dg2 (tset M 0 0 0)) (gIt (L_dg1 (tset M 0 0 0)) (gIt (L_dg0 n (tset M 0 0 0)) 839 11) (n 0)) (n 1)) (n 2)) j) k2) * 31)]) C0 (c_X5_plotTold l D G A ad N C (tset M 0 0 0) o H hW n hI0 j (nI k2) (by omega)) (cwV 2 hts gX5_digest_X5_plotTold rfl rfl rfl (by decide +kernel) ⟨Nat.le_of_ble_eq_true rfl, Nat.le_of_ble_eq_true rfl⟩) hK (va_recv hK (hW.p rfl) (ci := 6) (q0 := 0) rfl rfl) rfl hl rfl (Nat.le_of_ble_eq_true rfl) dX5_digest_202 ⟨(by show _ ≤ 71; omega), (by show _ ≤ 421; omega)⟩ hS (fun r_11 locs hr_11 hS => ?_)
                          subst hr_11
                          refine lv_i2l (v := (f_X5_plotTold (tset M 0 0 0) j (nI k2)).toInt64) hx hb dX5_digest_205 rfl ?_
                          refine lv_ladd hx hb dX5_digest_206 ?_
                          refine lv_lstore_n (lv' := [(1, .long (((gIt (L_dg4w (tset M 0 0 0) j) (gIt (L_dg4 (tset M 0 0 0)) (gIt (L_dg3 n (tset M 0 0 0)) (gIt (L_dg2 (tset M 0 0 0)) (gIt (L_dg1 (tset M 0 0 0)) (gIt (L_dg0 n (tset M 0 0 0)) 839 11) (n 0)) (n 1)) (n 2)) j) k2) * 31) + (f_X5_plotTold (tset M 0 0 0) j (nI k2)).toInt64)), (4, .int (nI k2)), (3, .int (nI j)), (0, .ref (ad 0 1))]) hx hb dX5_digest_207 rfl hl (by decide) rfl (fun ls hl => ?_)
                          refine lv_iinc (v := (nI (k2 + 1))) (lv' := [(4, .int (nI (k2 + 1))), (1, .long (((gIt (L_dg4w (tset M 0 0 0) j) (gIt (L_dg4 (tset M 0 0 0)) (gIt (L_dg3 n (tset M 0 0 0)) (gIt (L_dg2 (tset M 0 0 0)) (gIt (L_dg1 (tset M 0 0 0)) (gIt (L_dg0 n (tset M 0 0 0)) 839 11) (n 0)) (n 1)) (n 2)) j) k2) * 31) + (f_X5_plotTold (tset M 0 0 0) j (nI k2)).toInt64)), (3, .int (nI j)), (0, .ref (ad 0 1))]) hx hb dX5_digest_208 hl (k := 1) rfl (nI_1 _) (by decide) rfl (fun ls hl => ?_)
                          refine lv_goto (tgt := 187) hx hb dX5_digest_211 (by decide) ?_
                          have ea : (((gIt (L_dg4w (tset M 0 0 0) j) (gIt (L_dg4 (tset M 0 0 0)) (gIt (L_dg3 n (tset M 0 0 0)) (gIt (L_dg2 (tset M 0 0 0)) (gIt (L_dg1 (tset M 0 0 0)) (gIt (L_dg0 n (tset M 0 0 0)) 839 11) (n 0)) (n 1)) (n 2)) j) k2) * 31) + (f_X5_plotTold (tset M 0 0 0) j (nI k2)).toInt64) = (gIt (L_dg4w (tset M 0 0 0) j) (gIt (L_dg4 (tset M 0 0 0)) (gIt (L_dg3 n (tset M 0 0 0)) (gIt (L_dg2 (tset M 0 0 0)) (gIt (L_dg1 (tset M 0 0 0)) (gIt (L_dg0 n (tset M 0 0 0)) 839 11) (n 0)) (n 1)) (n 2)) j) (k2 + 1)) := (show (((gIt (L_dg4w (tset M 0 0 0) j) (gIt (L_dg4 (tset M 0 0 0)) (gIt (L_dg3 n (tset M 0 0 0)) (gIt (L_dg2 (tset M 0 0 0)) (gIt (L_dg1 (tset M 0 0 0)) (gIt (L_dg0 n (tset M 0 0 0)) 839 11) (n 0)) (n 1)) (n 2)) j) k2) * 31) + (f_X5_plotTold (tset M 0 0 0) j (nI k2)).toInt64) = L_dg4w (tset M 0 0 0) j k2 (gIt (L_dg4w (tset M 0 0 0) j) (gIt (L_dg4 (tset M 0 0 0)) (gIt (L_dg3 n (tset M 0 0 0)) (gIt (L_dg2 (tset M 0 0 0)) (gIt (L_dg1 (tset M 0 0 0)) (gIt (L_dg0 n (tset M 0 0 0)) 839 11) (n 0)) (n 1)) (n 2)) j) k2) from by (rw [L_dg4w]) <;> rfl)
                          have hl2 : lv_has ls 5 [(4, .int (nI (k2 + 1))), (3, .int (nI j)), (1, .long (gIt (L_dg4w (tset M 0 0 0) j) (gIt (L_dg4 (tset M 0 0 0)) (gIt (L_dg3 n (tset M 0 0 0)) (gIt (L_dg2 (tset M 0 0 0)) (gIt (L_dg1 (tset M 0 0 0)) (gIt (L_dg0 n (tset M 0 0 0)) 839 11) (n 0)) (n 1)) (n 2)) j) (k2 + 1))), (0, .ref (ad 0 1))] := by rw [← ea]; exact lv_sub hl [0, 2, 1, 3] rfl
                          exact ih ls locs hl2 hS
                · exact absurd (g_le hb2 (by omega)) c_135_3
              · obtain ⟨hl, hW⟩ : lv_has ls 5 [(3, .int (nI j)), (1, .long (gIt (L_dg3 n (tset M 0 0 0)) (gIt (L_dg2 (tset M 0 0 0)) (gIt (L_dg1 (tset M 0 0 0)) (gIt (L_dg0 n (tset M 0 0 0)) 839 11) (n 0)) (n 1)) j)), (0, .ref (ad 0 1))] ∧ gW D A ad (Wd G ad N C (tset M 0 0 0) o) H := hlW
                refine W.widen (k := 0 + 11 * 1 + j * 5) (n := 0 + 11 * 11 + j * 25) (by omega) (by omega) ?_
                refine lv_iload_n hx hb dX5_digest_130 rfl (lv_at hl 0 rfl) ?_
                refine lv_aload_n hx hb dX5_digest_131 rfl (lv_at hl 2 rfl) ?_
                refine va_get (D := D) (ci := 6) (v := .int ((tset M 0 0 0) 14 0)) (C := RX5) (T := TX5) (N := 23) hx hb hts inX5 hown hK (hW.p (e := (eMod ad (tset M 0 0 0))) rfl) 0 rfl rfl 14 (by decide) (hts (.fieldLink RX5 72 "StoryTollModel" "travellers" "I") (List.mem_of_getElem? (i := 6) rfl)) (fun _ h9 => h9) rfl dX5_digest_132 ?_
                rw [show ((tset M 0 0 0) 14 0) = (M 14 0) from by rw [tset_of (by decide)]]
                refine lv_icmp_ge (tgt := 174) hx hb dX5_digest_135 (by decide) (fun c_135_11 => ?_) (fun c_135_11 => ?_)
                · exact absurd c_135_11 (g_ge hb2 (by omega) hj)
                · refine lv_iconst (v := 0) hx hb dX5_digest_138 (by decide) ?_
                  refine lv_istore (lv' := [(4, .int 0), (3, .int (nI j)), (1, .long (gIt (L_dg3 n (tset M 0 0 0)) (gIt (L_dg2 (tset M 0 0 0)) (gIt (L_dg1 (tset M 0 0 0)) (gIt (L_dg0 n (tset M 0 0 0)) 839 11) (n 0)) (n 1)) j)), (0, .ref (ad 0 1))]) hx hb dX5_digest_139 hl (by decide) rfl (fun ls hl => ?_)
                  refine g_loopH (5) 1 5 (fun k2 ls H => lv_has ls 5 [(4, .int (nI k2)), (3, .int (nI j)), (1, .long (gIt (L_dg3w n (tset M 0 0 0) j) (gIt (L_dg3 n (tset M 0 0 0)) (gIt (L_dg2 (tset M 0 0 0)) (gIt (L_dg1 (tset M 0 0 0)) (gIt (L_dg0 n (tset M 0 0 0)) 839 11) (n 0)) (n 1)) j) k2)), (0, .ref (ad 0 1))] ∧ gW D A ad (Wd G ad N C (tset M 0 0 0) o) H) ⟨lv_sub hl [0, 1, 2, 3] rfl, hW⟩ hS (fun ls H locs hlW hS => ?_) (fun k2 ls H locs hk2 hlW hS ih => ?_)
                  · obtain ⟨hl, hW⟩ : lv_has ls 5 [(4, .int (nI 5)), (3, .int (nI j)), (1, .long (gIt (L_dg3w n (tset M 0 0 0) j) (gIt (L_dg3 n (tset M 0 0 0)) (gIt (L_dg2 (tset M 0 0 0)) (gIt (L_dg1 (tset M 0 0 0)) (gIt (L_dg0 n (tset M 0 0 0)) 839 11) (n 0)) (n 1)) j) 5)), (0, .ref (ad 0 1))] ∧ gW D A ad (Wd G ad N C (tset M 0 0 0) o) H := hlW
                    refine W.widen (k := 0 + 11 * 1 + j * 5 + 5 * 1) (n := 0 + 11 * 11 + j * 25 + 5 * 5) (by omega) (by omega) ?_
                    refine lv_iload hx hb dX5_digest_141 (lv_at hl 0 rfl) ?_
                    refine lv_iconst (v := 5) hx hb dX5_digest_143 (by decide) ?_
                    refine lv_icmp_ge (tgt := 168) hx hb dX5_digest_144 (by decide) (fun c_144_12 => ?_) (fun c_144_12 => ?_)
                    · refine lv_iinc (v := (nI (j + 1))) (lv' := [(3, .int (nI (j + 1))), (4, .int (nI 5)), (1, .long (gIt (L_dg3w n (tset M 0 0 0) j) (gIt (L_dg3 n (tset M 0 0 0)) (gIt (L_dg2 (tset M 0 0 0)) (gIt (L_dg1 (tset M 0 0 0)) (gIt (L_dg0 n (tset M 0 0 0)) 839 11) (n 0)) (n 1)) j) 5)), (0, .ref (ad 0 1))]) hx hb dX5_digest_168 hl (k := 1) rfl (nI_1 _) (by decide) rfl (fun ls hl => ?_)
                      refine lv_goto (tgt := 130) hx hb dX5_digest_171 (by decide) ?_
                      have ea : (gIt (L_dg3w n (tset M 0 0 0) j) (gIt (L_dg3 n (tset M 0 0 0)) (gIt (L_dg2 (tset M 0 0 0)) (gIt (L_dg1 (tset M 0 0 0)) (gIt (L_dg0 n (tset M 0 0 0)) 839 11) (n 0)) (n 1)) j) 5) = (gIt (L_dg3 n (tset M 0 0 0)) (gIt (L_dg2 (tset M 0 0 0)) (gIt (L_dg1 (tset M 0 0 0)) (gIt (L_dg0 n (tset M 0 0 0)) 839 11) (n 0)) (n 1)) (j + 1)) := (show (gIt (L_dg3w n (tset M 0 0 0) j) (gIt (L_dg3 n (tset M 0 0 0)) (gIt (L_dg2 (tset M 0 0 0)) (gIt (L_dg1 (tset M 0 0 0)) (gIt (L_dg0 n (tset M 0 0 0)) 839 11) (n 0)) (n 1)) j) 5) = L_dg3 n (tset M 0 0 0) j (gIt (L_dg3 n (tset M 0 0 0)) (gIt (L_dg2 (tset M 0 0 0)) (gIt (L_dg1 (tset M 0 0 0)) (gIt (L_dg0 n (tset M 0 0 0)) 839 11) (n 0)) (n 1)) j) from by (rw [L_dg3]) <;> rfl)
                      have hl2 : lv_has ls 5 [(3, .int (nI (j + 1))), (1, .long (gIt (L_dg3 n (tset M 0 0 0)) (gIt (L_dg2 (tset M 0 0 0)) (gIt (L_dg1 (tset M 0 0 0)) (gIt (L_dg0 n (tset M 0 0 0)) 839 11) (n 0)) (n 1)) (j + 1))), (0, .ref (ad 0 1))] ∧ gW D A ad (Wd G ad N C (tset M 0 0 0) o) H := by rw [← ea]; exact ⟨lv_sub hl [0, 2, 3] rfl, hW⟩
                      refine W.widen (k := 0 + 11 * 1 + (j + 1) * 5) (n := 0 + 11 * 11 + (j + 1) * 25) (by omega) (by omega) ?_
                      exact ih ls H locs hl2 hS
                    · exact absurd (g_le (show (5 : Int32) = nI 5 from rfl) (by omega)) c_144_12
                  · obtain ⟨hl, hW⟩ : lv_has ls 5 [(4, .int (nI k2)), (3, .int (nI j)), (1, .long (gIt (L_dg3w n (tset M 0 0 0) j) (gIt (L_dg3 n (tset M 0 0 0)) (gIt (L_dg2 (tset M 0 0 0)) (gIt (L_dg1 (tset M 0 0 0)) (gIt (L_dg0 n (tset M 0 0 0)) 839 11) (n 0)) (n 1)) j) k2)), (0, .ref (ad 0 1))] ∧ gW D A ad (Wd G ad N C (tset M 0 0 0) o) H := hlW
                    refine W.widen (k := 0 + 11 * 1 + j * 5 + k2 * 1) (n := 0 + 11 * 11 + j * 25 + k2 * 5) (by omega) (by omega) ?_
                    refine lv_iload hx hb dX5_digest_141 (lv_at hl 0 rfl) ?_
                    refine lv_iconst (v := 5) hx hb dX5_digest_143 (by decide) ?_
                    refine lv_icmp_ge (tgt := 168) hx hb dX5_digest_144 (by decide) (fun c_144_13 => ?_) (fun c_144_13 => ?_)
                    · exact absurd c_144_13 (g_ge (show (5 : Int32) = nI 5 from rfl) (by omega) hk2)
                    · refine lv_lload_n hx hb dX5_digest_147 rfl (lv_at hl 2 rfl) ?_
                      refine lv_ldc2 (v := 31) hx hb hown (hts (.constantLong RX5 169 (31)) (List.mem_of_getElem? (i := 3) rfl)) dX5_digest_148 ?_
                      refine lv_lmul hx hb dX5_digest_151 ?_
                      refine lv_aload_n hx hb dX5_digest_152 rfl (lv_at hl 3 rfl) ?_
                      refine lv_iload_n hx hb dX5_digest_153 rfl (lv_at hl 1 rfl) ?_
                      refine lv_iload hx hb dX5_digest_154 (lv_at hl 0 rfl) ?_
                      refine g_wVi (As := [.int (nI j), .int (nI k2)]) (rest := [.long ((gIt (L_dg3w n (tset M 0 0 0) j) (gIt (L_dg3 n (tset M 0 0 0)) (gIt (L_dg2 (tset M 0 0 0)) (gIt (L_dg1 (tset M 0 0 0)) (gIt (L_dg0 n (tset M 0 0 0)) 839 11) (n 0)) (n 1)) j) k2) * 31)]) (B := fun (_ : Unit) H => gW D A ad (Wd G ad N C (tset M 0 0 0) o) H) (mc := 1) (ms := 5) C0 (c_X5_travellerTold l D G A ad N C (tset M 0 0 0) o H hW (fun q h => hA q (Nat.le_trans hS.1 h)) n hI0 j k2 (by omega) (by omega)) (cwV 2 hts gX5_digest_X5_travellerTold rfl rfl rfl (by decide +kernel) ⟨Nat.le_of_ble_eq_true rfl, Nat.le_of_ble_eq_true rfl⟩) hK (va_recv hK (hW.p rfl) (ci := 6) (q0 := 0) rfl rfl) rfl hl rfl (Nat.le_of_ble_eq_true rfl) dX5_digest_156 ⟨(by show _ ≤ 71; omega), (by show _ ≤ 421; omega)⟩ hS (fun r_15 ur_15 H locs hr_15 hW hzr_15 hS => ?_)
                      have hW : gW D A ad (Wd G ad N C (tset M 0 0 0) o) H := hW
                      subst hr_15
                      refine lv_i2l (v := (f_X5_travellerTold n (tset M 0 0 0) j k2).toInt64) hx hb dX5_digest_159 rfl ?_
                      refine lv_ladd hx hb dX5_digest_160 ?_
                      refine lv_lstore_n (lv' := [(1, .long (((gIt (L_dg3w n (tset M 0 0 0) j) (gIt (L_dg3 n (tset M 0 0 0)) (gIt (L_dg2 (tset M 0 0 0)) (gIt (L_dg1 (tset M 0 0 0)) (gIt (L_dg0 n (tset M 0 0 0)) 839 11) (n 0)) (n 1)) j) k2) * 31) + (f_X5_travellerTold n (tset M 0 0 0) j k2).toInt64)), (4, .int (nI k2)), (3, .int (nI j)), (0, .ref (ad 0 1))]) hx hb dX5_digest_161 rfl hl (by decide) rfl (fun ls hl => ?_)
                      refine lv_iinc (v := (nI (k2 + 1))) (lv' := [(4, .int (nI (k2 + 1))), (1, .long (((gIt (L_dg3w n (tset M 0 0 0) j) (gIt (L_dg3 n (tset M 0 0 0)) (gIt (L_dg2 (tset M 0 0 0)) (gIt (L_dg1 (tset M 0 0 0)) (gIt (L_dg0 n (tset M 0 0 0)) 839 11) (n 0)) (n 1)) j) k2) * 31) + (f_X5_travellerTold n (tset M 0 0 0) j k2).toInt64)), (3, .int (nI j)), (0, .ref (ad 0 1))]) hx hb dX5_digest_162 hl (k := 1) rfl (nI_1 _) (by decide) rfl (fun ls hl => ?_)
                      refine lv_goto (tgt := 141) hx hb dX5_digest_165 (by decide) ?_
                      have ea : (((gIt (L_dg3w n (tset M 0 0 0) j) (gIt (L_dg3 n (tset M 0 0 0)) (gIt (L_dg2 (tset M 0 0 0)) (gIt (L_dg1 (tset M 0 0 0)) (gIt (L_dg0 n (tset M 0 0 0)) 839 11) (n 0)) (n 1)) j) k2) * 31) + (f_X5_travellerTold n (tset M 0 0 0) j k2).toInt64) = (gIt (L_dg3w n (tset M 0 0 0) j) (gIt (L_dg3 n (tset M 0 0 0)) (gIt (L_dg2 (tset M 0 0 0)) (gIt (L_dg1 (tset M 0 0 0)) (gIt (L_dg0 n (tset M 0 0 0)) 839 11) (n 0)) (n 1)) j) (k2 + 1)) := (show (((gIt (L_dg3w n (tset M 0 0 0) j) (gIt (L_dg3 n (tset M 0 0 0)) (gIt (L_dg2 (tset M 0 0 0)) (gIt (L_dg1 (tset M 0 0 0)) (gIt (L_dg0 n (tset M 0 0 0)) 839 11) (n 0)) (n 1)) j) k2) * 31) + (f_X5_travellerTold n (tset M 0 0 0) j k2).toInt64) = L_dg3w n (tset M 0 0 0) j k2 (gIt (L_dg3w n (tset M 0 0 0) j) (gIt (L_dg3 n (tset M 0 0 0)) (gIt (L_dg2 (tset M 0 0 0)) (gIt (L_dg1 (tset M 0 0 0)) (gIt (L_dg0 n (tset M 0 0 0)) 839 11) (n 0)) (n 1)) j) k2) from by (rw [L_dg3w]) <;> rfl)
                      have hl2 : lv_has ls 5 [(4, .int (nI (k2 + 1))), (3, .int (nI j)), (1, .long (gIt (L_dg3w n (tset M 0 0 0) j) (gIt (L_dg3 n (tset M 0 0 0)) (gIt (L_dg2 (tset M 0 0 0)) (gIt (L_dg1 (tset M 0 0 0)) (gIt (L_dg0 n (tset M 0 0 0)) 839 11) (n 0)) (n 1)) j) (k2 + 1))), (0, .ref (ad 0 1))] ∧ gW D A ad (Wd G ad N C (tset M 0 0 0) o) H := by rw [← ea]; exact ⟨lv_sub hl [0, 2, 1, 3] rfl, hW⟩
                      refine W.widen (k := 0 + 11 * 1 + j * 5 + (k2 + 1) * 1) (n := 0 + 11 * 11 + j * 25 + (k2 + 1) * 5) (by omega) (by omega) ?_
                      exact ih ls H locs hl2 hS
            · exact absurd (g_le hb1 (by omega)) c_89_2
          · have hl : lv_has ls 5 [(3, .int (nI j)), (1, .long (gIt (L_dg2 (tset M 0 0 0)) (gIt (L_dg1 (tset M 0 0 0)) (gIt (L_dg0 n (tset M 0 0 0)) 839 11) (n 0)) j)), (0, .ref (ad 0 1))] := hl
            refine lv_iload_n hx hb dX5_digest_84 rfl (lv_at hl 0 rfl) ?_
            refine lv_aload_n hx hb dX5_digest_85 rfl (lv_at hl 2 rfl) ?_
            refine va_get (D := D) (ci := 6) (v := .int ((tset M 0 0 0) 10 0)) (C := RX5) (T := TX5) (N := 23) hx hb hts inX5 hown hK (hW.p (e := (eMod ad (tset M 0 0 0))) rfl) 0 rfl rfl 10 (by decide) (hts (.fieldLink RX5 69 "StoryTollModel" "guards" "I") (List.mem_of_getElem? (i := 5) rfl)) (fun _ h9 => h9) rfl dX5_digest_86 ?_
            rw [show ((tset M 0 0 0) 10 0) = (M 10 0) from by rw [tset_of (by decide)]]
            refine lv_icmp_ge (tgt := 128) hx hb dX5_digest_89 (by decide) (fun c_89_15 => ?_) (fun c_89_15 => ?_)
            · exact absurd c_89_15 (g_ge hb1 (by omega) hj)
            · refine lv_iconst (v := 0) hx hb dX5_digest_92 (by decide) ?_
              refine lv_istore (lv' := [(4, .int 0), (3, .int (nI j)), (1, .long (gIt (L_dg2 (tset M 0 0 0)) (gIt (L_dg1 (tset M 0 0 0)) (gIt (L_dg0 n (tset M 0 0 0)) 839 11) (n 0)) j)), (0, .ref (ad 0 1))]) hx hb dX5_digest_93 hl (by decide) rfl (fun ls hl => ?_)
              refine g_loop (3) (fun k2 ls => lv_has ls 5 [(4, .int (nI k2)), (3, .int (nI j)), (1, .long (gIt (L_dg2w (tset M 0 0 0) j) (gIt (L_dg2 (tset M 0 0 0)) (gIt (L_dg1 (tset M 0 0 0)) (gIt (L_dg0 n (tset M 0 0 0)) 839 11) (n 0)) j) k2)), (0, .ref (ad 0 1))]) (lv_sub hl [0, 1, 2, 3] rfl) hS (fun ls locs hl hS => ?_) (fun k2 ls locs hk2 hl hS ih => ?_)
              · have hl : lv_has ls 5 [(4, .int (nI 3)), (3, .int (nI j)), (1, .long (gIt (L_dg2w (tset M 0 0 0) j) (gIt (L_dg2 (tset M 0 0 0)) (gIt (L_dg1 (tset M 0 0 0)) (gIt (L_dg0 n (tset M 0 0 0)) 839 11) (n 0)) j) 3)), (0, .ref (ad 0 1))] := hl
                refine lv_iload hx hb dX5_digest_95 (lv_at hl 0 rfl) ?_
                refine lv_iconst (v := 3) hx hb dX5_digest_97 (by decide) ?_
                refine lv_icmp_ge (tgt := 122) hx hb dX5_digest_98 (by decide) (fun c_98_16 => ?_) (fun c_98_16 => ?_)
                · refine lv_iinc (v := (nI (j + 1))) (lv' := [(3, .int (nI (j + 1))), (4, .int (nI 3)), (1, .long (gIt (L_dg2w (tset M 0 0 0) j) (gIt (L_dg2 (tset M 0 0 0)) (gIt (L_dg1 (tset M 0 0 0)) (gIt (L_dg0 n (tset M 0 0 0)) 839 11) (n 0)) j) 3)), (0, .ref (ad 0 1))]) hx hb dX5_digest_122 hl (k := 1) rfl (nI_1 _) (by decide) rfl (fun ls hl => ?_)
                  refine lv_goto (tgt := 84) hx hb dX5_digest_125 (by decide) ?_
                  have ea : (gIt (L_dg2w (tset M 0 0 0) j) (gIt (L_dg2 (tset M 0 0 0)) (gIt (L_dg1 (tset M 0 0 0)) (gIt (L_dg0 n (tset M 0 0 0)) 839 11) (n 0)) j) 3) = (gIt (L_dg2 (tset M 0 0 0)) (gIt (L_dg1 (tset M 0 0 0)) (gIt (L_dg0 n (tset M 0 0 0)) 839 11) (n 0)) (j + 1)) := (show (gIt (L_dg2w (tset M 0 0 0) j) (gIt (L_dg2 (tset M 0 0 0)) (gIt (L_dg1 (tset M 0 0 0)) (gIt (L_dg0 n (tset M 0 0 0)) 839 11) (n 0)) j) 3) = L_dg2 (tset M 0 0 0) j (gIt (L_dg2 (tset M 0 0 0)) (gIt (L_dg1 (tset M 0 0 0)) (gIt (L_dg0 n (tset M 0 0 0)) 839 11) (n 0)) j) from by (rw [L_dg2]) <;> rfl)
                  have hl2 : lv_has ls 5 [(3, .int (nI (j + 1))), (1, .long (gIt (L_dg2 (tset M 0 0 0)) (gIt (L_dg1 (tset M 0 0 0)) (gIt (L_dg0 n (tset M 0 0 0)) 839 11) (n 0)) (j + 1))), (0, .ref (ad 0 1))] := by rw [← ea]; exact lv_sub hl [0, 2, 3] rfl
                  exact ih ls locs hl2 hS
                · exact absurd (g_le (show (3 : Int32) = nI 3 from rfl) (by omega)) c_98_16
              · have hl : lv_has ls 5 [(4, .int (nI k2)), (3, .int (nI j)), (1, .long (gIt (L_dg2w (tset M 0 0 0) j) (gIt (L_dg2 (tset M 0 0 0)) (gIt (L_dg1 (tset M 0 0 0)) (gIt (L_dg0 n (tset M 0 0 0)) 839 11) (n 0)) j) k2)), (0, .ref (ad 0 1))] := hl
                refine lv_iload hx hb dX5_digest_95 (lv_at hl 0 rfl) ?_
                refine lv_iconst (v := 3) hx hb dX5_digest_97 (by decide) ?_
                refine lv_icmp_ge (tgt := 122) hx hb dX5_digest_98 (by decide) (fun c_98_17 => ?_) (fun c_98_17 => ?_)
                · exact absurd c_98_17 (g_ge (show (3 : Int32) = nI 3 from rfl) (by omega) hk2)
                · refine lv_lload_n hx hb dX5_digest_101 rfl (lv_at hl 2 rfl) ?_
                  refine lv_ldc2 (v := 31) hx hb hown (hts (.constantLong RX5 169 (31)) (List.mem_of_getElem? (i := 3) rfl)) dX5_digest_102 ?_
                  refine lv_lmul hx hb dX5_digest_105 ?_
                  refine lv_aload_n hx hb dX5_digest_106 rfl (lv_at hl 3 rfl) ?_
                  refine lv_iload_n hx hb dX5_digest_107 rfl (lv_at hl 1 rfl) ?_
                  refine lv_iload hx hb dX5_digest_108 (lv_at hl 0 rfl) ?_
                  refine g_Vi (As := [.int (nI j), .int (nI k2)]) (rest := [.long ((gIt (L_dg2w (tset M 0 0 0) j) (gIt (L_dg2 (tset M 0 0 0)) (gIt (L_dg1 (tset M 0 0 0)) (gIt (L_dg0 n (tset M 0 0 0)) 839 11) (n 0)) j) k2) * 31)]) C0 (c_X5_guardTold l D G A ad N C (tset M 0 0 0) o H hW n hI0 j (nI k2) (by omega)) (cwV 2 hts gX5_digest_X5_guardTold rfl rfl rfl (by decide +kernel) ⟨Nat.le_of_ble_eq_true rfl, Nat.le_of_ble_eq_true rfl⟩) hK (va_recv hK (hW.p rfl) (ci := 6) (q0 := 0) rfl rfl) rfl hl rfl (Nat.le_of_ble_eq_true rfl) dX5_digest_110 ⟨(Nat.le_of_ble_eq_true rfl), (Nat.le_of_ble_eq_true rfl)⟩ hS (fun r_19 locs hr_19 hS => ?_)
                  subst hr_19
                  refine lv_i2l (v := (f_X5_guardTold (tset M 0 0 0) j (nI k2)).toInt64) hx hb dX5_digest_113 rfl ?_
                  refine lv_ladd hx hb dX5_digest_114 ?_
                  refine lv_lstore_n (lv' := [(1, .long (((gIt (L_dg2w (tset M 0 0 0) j) (gIt (L_dg2 (tset M 0 0 0)) (gIt (L_dg1 (tset M 0 0 0)) (gIt (L_dg0 n (tset M 0 0 0)) 839 11) (n 0)) j) k2) * 31) + (f_X5_guardTold (tset M 0 0 0) j (nI k2)).toInt64)), (4, .int (nI k2)), (3, .int (nI j)), (0, .ref (ad 0 1))]) hx hb dX5_digest_115 rfl hl (by decide) rfl (fun ls hl => ?_)
                  refine lv_iinc (v := (nI (k2 + 1))) (lv' := [(4, .int (nI (k2 + 1))), (1, .long (((gIt (L_dg2w (tset M 0 0 0) j) (gIt (L_dg2 (tset M 0 0 0)) (gIt (L_dg1 (tset M 0 0 0)) (gIt (L_dg0 n (tset M 0 0 0)) 839 11) (n 0)) j) k2) * 31) + (f_X5_guardTold (tset M 0 0 0) j (nI k2)).toInt64)), (3, .int (nI j)), (0, .ref (ad 0 1))]) hx hb dX5_digest_116 hl (k := 1) rfl (nI_1 _) (by decide) rfl (fun ls hl => ?_)
                  refine lv_goto (tgt := 95) hx hb dX5_digest_119 (by decide) ?_
                  have ea : (((gIt (L_dg2w (tset M 0 0 0) j) (gIt (L_dg2 (tset M 0 0 0)) (gIt (L_dg1 (tset M 0 0 0)) (gIt (L_dg0 n (tset M 0 0 0)) 839 11) (n 0)) j) k2) * 31) + (f_X5_guardTold (tset M 0 0 0) j (nI k2)).toInt64) = (gIt (L_dg2w (tset M 0 0 0) j) (gIt (L_dg2 (tset M 0 0 0)) (gIt (L_dg1 (tset M 0 0 0)) (gIt (L_dg0 n (tset M 0 0 0)) 839 11) (n 0)) j) (k2 + 1)) := (show (((gIt (L_dg2w (tset M 0 0 0) j) (gIt (L_dg2 (tset M 0 0 0)) (gIt (L_dg1 (tset M 0 0 0)) (gIt (L_dg0 n (tset M 0 0 0)) 839 11) (n 0)) j) k2) * 31) + (f_X5_guardTold (tset M 0 0 0) j (nI k2)).toInt64) = L_dg2w (tset M 0 0 0) j k2 (gIt (L_dg2w (tset M 0 0 0) j) (gIt (L_dg2 (tset M 0 0 0)) (gIt (L_dg1 (tset M 0 0 0)) (gIt (L_dg0 n (tset M 0 0 0)) 839 11) (n 0)) j) k2) from by (rw [L_dg2w]) <;> rfl)
                  have hl2 : lv_has ls 5 [(4, .int (nI (k2 + 1))), (3, .int (nI j)), (1, .long (gIt (L_dg2w (tset M 0 0 0) j) (gIt (L_dg2 (tset M 0 0 0)) (gIt (L_dg1 (tset M 0 0 0)) (gIt (L_dg0 n (tset M 0 0 0)) 839 11) (n 0)) j) (k2 + 1))), (0, .ref (ad 0 1))] := by rw [← ea]; exact lv_sub hl [0, 2, 1, 3] rfl
                  exact ih ls locs hl2 hS
        · exact absurd (g_le hb0 (by omega)) c_43_1
      · have hl : lv_has ls 5 [(3, .int (nI j)), (1, .long (gIt (L_dg1 (tset M 0 0 0)) (gIt (L_dg0 n (tset M 0 0 0)) 839 11) j)), (0, .ref (ad 0 1))] := hl
        refine lv_iload_n hx hb dX5_digest_38 rfl (lv_at hl 0 rfl) ?_
        refine lv_aload_n hx hb dX5_digest_39 rfl (lv_at hl 2 rfl) ?_
        refine va_get (D := D) (ci := 6) (v := .int ((tset M 0 0 0) 2 0)) (C := RX5) (T := TX5) (N := 23) hx hb hts inX5 hown hK (hW.p (e := (eMod ad (tset M 0 0 0))) rfl) 0 rfl rfl 2 (by decide) (hts (.fieldLink RX5 62 "StoryTollModel" "scenes" "I") (List.mem_of_getElem? (i := 4) rfl)) (fun _ h9 => h9) rfl dX5_digest_40 ?_
        rw [show ((tset M 0 0 0) 2 0) = (M 2 0) from by rw [tset_of (by decide)]]
        refine lv_icmp_ge (tgt := 82) hx hb dX5_digest_43 (by decide) (fun c_43_19 => ?_) (fun c_43_19 => ?_)
        · exact absurd c_43_19 (g_ge hb0 (by omega) hj)
        · refine lv_iconst (v := 0) hx hb dX5_digest_46 (by decide) ?_
          refine lv_istore (lv' := [(4, .int 0), (3, .int (nI j)), (1, .long (gIt (L_dg1 (tset M 0 0 0)) (gIt (L_dg0 n (tset M 0 0 0)) 839 11) j)), (0, .ref (ad 0 1))]) hx hb dX5_digest_47 hl (by decide) rfl (fun ls hl => ?_)
          refine g_loop (5) (fun k2 ls => lv_has ls 5 [(4, .int (nI k2)), (3, .int (nI j)), (1, .long (gIt (L_dg1w (tset M 0 0 0) j) (gIt (L_dg1 (tset M 0 0 0)) (gIt (L_dg0 n (tset M 0 0 0)) 839 11) j) k2)), (0, .ref (ad 0 1))]) (lv_sub hl [0, 1, 2, 3] rfl) hS (fun ls locs hl hS => ?_) (fun k2 ls locs hk2 hl hS ih => ?_)
          · have hl : lv_has ls 5 [(4, .int (nI 5)), (3, .int (nI j)), (1, .long (gIt (L_dg1w (tset M 0 0 0) j) (gIt (L_dg1 (tset M 0 0 0)) (gIt (L_dg0 n (tset M 0 0 0)) 839 11) j) 5)), (0, .ref (ad 0 1))] := hl
            refine lv_iload hx hb dX5_digest_49 (lv_at hl 0 rfl) ?_
            refine lv_iconst (v := 5) hx hb dX5_digest_51 (by decide) ?_
            refine lv_icmp_ge (tgt := 76) hx hb dX5_digest_52 (by decide) (fun c_52_20 => ?_) (fun c_52_20 => ?_)
            · refine lv_iinc (v := (nI (j + 1))) (lv' := [(3, .int (nI (j + 1))), (4, .int (nI 5)), (1, .long (gIt (L_dg1w (tset M 0 0 0) j) (gIt (L_dg1 (tset M 0 0 0)) (gIt (L_dg0 n (tset M 0 0 0)) 839 11) j) 5)), (0, .ref (ad 0 1))]) hx hb dX5_digest_76 hl (k := 1) rfl (nI_1 _) (by decide) rfl (fun ls hl => ?_)
              refine lv_goto (tgt := 38) hx hb dX5_digest_79 (by decide) ?_
              have ea : (gIt (L_dg1w (tset M 0 0 0) j) (gIt (L_dg1 (tset M 0 0 0)) (gIt (L_dg0 n (tset M 0 0 0)) 839 11) j) 5) = (gIt (L_dg1 (tset M 0 0 0)) (gIt (L_dg0 n (tset M 0 0 0)) 839 11) (j + 1)) := (show (gIt (L_dg1w (tset M 0 0 0) j) (gIt (L_dg1 (tset M 0 0 0)) (gIt (L_dg0 n (tset M 0 0 0)) 839 11) j) 5) = L_dg1 (tset M 0 0 0) j (gIt (L_dg1 (tset M 0 0 0)) (gIt (L_dg0 n (tset M 0 0 0)) 839 11) j) from by (rw [L_dg1]) <;> rfl)
              have hl2 : lv_has ls 5 [(3, .int (nI (j + 1))), (1, .long (gIt (L_dg1 (tset M 0 0 0)) (gIt (L_dg0 n (tset M 0 0 0)) 839 11) (j + 1))), (0, .ref (ad 0 1))] := by rw [← ea]; exact lv_sub hl [0, 2, 3] rfl
              exact ih ls locs hl2 hS
            · exact absurd (g_le (show (5 : Int32) = nI 5 from rfl) (by omega)) c_52_20
          · have hl : lv_has ls 5 [(4, .int (nI k2)), (3, .int (nI j)), (1, .long (gIt (L_dg1w (tset M 0 0 0) j) (gIt (L_dg1 (tset M 0 0 0)) (gIt (L_dg0 n (tset M 0 0 0)) 839 11) j) k2)), (0, .ref (ad 0 1))] := hl
            refine lv_iload hx hb dX5_digest_49 (lv_at hl 0 rfl) ?_
            refine lv_iconst (v := 5) hx hb dX5_digest_51 (by decide) ?_
            refine lv_icmp_ge (tgt := 76) hx hb dX5_digest_52 (by decide) (fun c_52_21 => ?_) (fun c_52_21 => ?_)
            · exact absurd c_52_21 (g_ge (show (5 : Int32) = nI 5 from rfl) (by omega) hk2)
            · refine lv_lload_n hx hb dX5_digest_55 rfl (lv_at hl 2 rfl) ?_
              refine lv_ldc2 (v := 31) hx hb hown (hts (.constantLong RX5 169 (31)) (List.mem_of_getElem? (i := 3) rfl)) dX5_digest_56 ?_
              refine lv_lmul hx hb dX5_digest_59 ?_
              refine lv_aload_n hx hb dX5_digest_60 rfl (lv_at hl 3 rfl) ?_
              refine lv_iload_n hx hb dX5_digest_61 rfl (lv_at hl 1 rfl) ?_
              refine lv_iload hx hb dX5_digest_62 (lv_at hl 0 rfl) ?_
              refine g_Vi (As := [.int (nI j), .int (nI k2)]) (rest := [.long ((gIt (L_dg1w (tset M 0 0 0) j) (gIt (L_dg1 (tset M 0 0 0)) (gIt (L_dg0 n (tset M 0 0 0)) 839 11) j) k2) * 31)]) C0 (c_X5_sceneTold l D G A ad N C (tset M 0 0 0) o H hW n hI0 j (nI k2) (by omega)) (cwV 2 hts gX5_digest_X5_sceneTold rfl rfl rfl (by decide +kernel) ⟨Nat.le_of_ble_eq_true rfl, Nat.le_of_ble_eq_true rfl⟩) hK (va_recv hK (hW.p rfl) (ci := 6) (q0 := 0) rfl rfl) rfl hl rfl (Nat.le_of_ble_eq_true rfl) dX5_digest_64 ⟨(Nat.le_of_ble_eq_true rfl), (Nat.le_of_ble_eq_true rfl)⟩ hS (fun r_23 locs hr_23 hS => ?_)
              subst hr_23
              refine lv_i2l (v := (f_X5_sceneTold (tset M 0 0 0) j (nI k2)).toInt64) hx hb dX5_digest_67 rfl ?_
              refine lv_ladd hx hb dX5_digest_68 ?_
              refine lv_lstore_n (lv' := [(1, .long (((gIt (L_dg1w (tset M 0 0 0) j) (gIt (L_dg1 (tset M 0 0 0)) (gIt (L_dg0 n (tset M 0 0 0)) 839 11) j) k2) * 31) + (f_X5_sceneTold (tset M 0 0 0) j (nI k2)).toInt64)), (4, .int (nI k2)), (3, .int (nI j)), (0, .ref (ad 0 1))]) hx hb dX5_digest_69 rfl hl (by decide) rfl (fun ls hl => ?_)
              refine lv_iinc (v := (nI (k2 + 1))) (lv' := [(4, .int (nI (k2 + 1))), (1, .long (((gIt (L_dg1w (tset M 0 0 0) j) (gIt (L_dg1 (tset M 0 0 0)) (gIt (L_dg0 n (tset M 0 0 0)) 839 11) j) k2) * 31) + (f_X5_sceneTold (tset M 0 0 0) j (nI k2)).toInt64)), (3, .int (nI j)), (0, .ref (ad 0 1))]) hx hb dX5_digest_70 hl (k := 1) rfl (nI_1 _) (by decide) rfl (fun ls hl => ?_)
              refine lv_goto (tgt := 49) hx hb dX5_digest_73 (by decide) ?_
              have ea : (((gIt (L_dg1w (tset M 0 0 0) j) (gIt (L_dg1 (tset M 0 0 0)) (gIt (L_dg0 n (tset M 0 0 0)) 839 11) j) k2) * 31) + (f_X5_sceneTold (tset M 0 0 0) j (nI k2)).toInt64) = (gIt (L_dg1w (tset M 0 0 0) j) (gIt (L_dg1 (tset M 0 0 0)) (gIt (L_dg0 n (tset M 0 0 0)) 839 11) j) (k2 + 1)) := (show (((gIt (L_dg1w (tset M 0 0 0) j) (gIt (L_dg1 (tset M 0 0 0)) (gIt (L_dg0 n (tset M 0 0 0)) 839 11) j) k2) * 31) + (f_X5_sceneTold (tset M 0 0 0) j (nI k2)).toInt64) = L_dg1w (tset M 0 0 0) j k2 (gIt (L_dg1w (tset M 0 0 0) j) (gIt (L_dg1 (tset M 0 0 0)) (gIt (L_dg0 n (tset M 0 0 0)) 839 11) j) k2) from by (rw [L_dg1w]) <;> rfl)
              have hl2 : lv_has ls 5 [(4, .int (nI (k2 + 1))), (3, .int (nI j)), (1, .long (gIt (L_dg1w (tset M 0 0 0) j) (gIt (L_dg1 (tset M 0 0 0)) (gIt (L_dg0 n (tset M 0 0 0)) 839 11) j) (k2 + 1))), (0, .ref (ad 0 1))] := by rw [← ea]; exact lv_sub hl [0, 2, 1, 3] rfl
              exact ih ls locs hl2 hS
    · exact absurd (g_le (show (11 : Int32) = nI 11 from rfl) (by omega)) c_14_0
  · obtain ⟨hl, hW⟩ : lv_has ls 5 [(3, .int (nI j)), (1, .long (gIt (L_dg0 n (tset M 0 0 0)) 839 j)), (0, .ref (ad 0 1))] ∧ gW D A ad (Wd G ad N C (tset M 0 0 0) o) H := hlW
    refine W.widen (k := 0 + j * 1) (n := 0 + j * 11) (by omega) (by omega) ?_
    refine lv_iload_n hx hb dX5_digest_11 rfl (lv_at hl 0 rfl) ?_
    refine lv_bipush (v := 11) hx hb dX5_digest_12 (by decide) ?_
    refine lv_icmp_ge (tgt := 36) hx hb dX5_digest_14 (by decide) (fun c_14_23 => ?_) (fun c_14_23 => ?_)
    · exact absurd c_14_23 (g_ge (show (11 : Int32) = nI 11 from rfl) (by omega) hj)
    · refine lv_lload_n hx hb dX5_digest_17 rfl (lv_at hl 1 rfl) ?_
      refine lv_ldc2 (v := 31) hx hb hown (hts (.constantLong RX5 169 (31)) (List.mem_of_getElem? (i := 3) rfl)) dX5_digest_18 ?_
      refine lv_lmul hx hb dX5_digest_21 ?_
      refine lv_aload_n hx hb dX5_digest_22 rfl (lv_at hl 2 rfl) ?_
      refine lv_iload_n hx hb dX5_digest_23 rfl (lv_at hl 0 rfl) ?_
      refine g_wVi (As := [.int (nI j)]) (rest := [.long ((gIt (L_dg0 n (tset M 0 0 0)) 839 j) * 31)]) (B := fun (_ : Unit) H => gW D A ad (Wd G ad N C (tset M 0 0 0) o) H) (mc := 1) (ms := 11) C0 (c_X5_counted l D G A ad N C (tset M 0 0 0) o H hW (fun q h => hA q (Nat.le_trans hS.1 h)) n hI0 j (by omega)) (cwV 1 hts gX5_digest_X5_counted rfl rfl rfl (by decide +kernel) ⟨Nat.le_of_ble_eq_true rfl, Nat.le_of_ble_eq_true rfl⟩) hK (va_recv hK (hW.p rfl) (ci := 6) (q0 := 0) rfl rfl) rfl hl rfl (Nat.le_of_ble_eq_true rfl) dX5_digest_24 ⟨(by show _ ≤ 71; omega), (by show _ ≤ 421; omega)⟩ hS (fun r_25 ur_25 H locs hr_25 hW hzr_25 hS => ?_)
      have hW : gW D A ad (Wd G ad N C (tset M 0 0 0) o) H := hW
      subst hr_25
      refine lv_i2l (v := (f_X5_counted n (tset M 0 0 0) j).toInt64) hx hb dX5_digest_27 rfl ?_
      refine lv_ladd hx hb dX5_digest_28 ?_
      refine lv_lstore_n (lv' := [(1, .long (((gIt (L_dg0 n (tset M 0 0 0)) 839 j) * 31) + (f_X5_counted n (tset M 0 0 0) j).toInt64)), (3, .int (nI j)), (0, .ref (ad 0 1))]) hx hb dX5_digest_29 rfl hl (by decide) rfl (fun ls hl => ?_)
      refine lv_iinc (v := (nI (j + 1))) (lv' := [(3, .int (nI (j + 1))), (1, .long (((gIt (L_dg0 n (tset M 0 0 0)) 839 j) * 31) + (f_X5_counted n (tset M 0 0 0) j).toInt64)), (0, .ref (ad 0 1))]) hx hb dX5_digest_30 hl (k := 1) rfl (nI_1 _) (by decide) rfl (fun ls hl => ?_)
      refine lv_goto (tgt := 11) hx hb dX5_digest_33 (by decide) ?_
      have ea : (((gIt (L_dg0 n (tset M 0 0 0)) 839 j) * 31) + (f_X5_counted n (tset M 0 0 0) j).toInt64) = (gIt (L_dg0 n (tset M 0 0 0)) 839 (j + 1)) := (show (((gIt (L_dg0 n (tset M 0 0 0)) 839 j) * 31) + (f_X5_counted n (tset M 0 0 0) j).toInt64) = L_dg0 n (tset M 0 0 0) j (gIt (L_dg0 n (tset M 0 0 0)) 839 j) from by (rw [L_dg0]) <;> rfl)
      have hl2 : lv_has ls 5 [(3, .int (nI (j + 1))), (1, .long (gIt (L_dg0 n (tset M 0 0 0)) 839 (j + 1))), (0, .ref (ad 0 1))] ∧ gW D A ad (Wd G ad N C (tset M 0 0 0) o) H := by rw [← ea]; exact ⟨lv_sub hl [0, 1, 2] rfl, hW⟩
      refine W.widen (k := 0 + (j + 1) * 1) (n := 0 + (j + 1) * 11) (by omega) (by omega) ?_
      exact ih ls H locs hl2 hS
