/-! THE CLASS: hearing and watches, the checksum, what is most behind a scene -/
theorem IC_t {N : gN} {C : gT} {f i : Nat} {v : Int32} (h2 : f ≠ 62) (h3 : f ≠ 63) (h : IC N C) : IC N (tset C f i v) := by
  obtain ⟨a, b, c⟩ := h
  refine ⟨a, b, fun q hq => ?_⟩
  rw [szC, tset_f (Ne.symm h2), tset_f (Ne.symm h3)]
  exact c q hq
theorem IC_it {N : gN} {f : Nat → gT → gT} (hf : ∀ j C, IC N C → IC N (f j C)) {C : gT} (h : IC N C) (n : Nat) : IC N (gIt f C n) := by
  induction n with
  | zero => exact h
  | succ n ih => exact hf n _ ih
theorem zb_if (v : Int32) (h : v = 0 ∨ v = 1) : narrow .boolean (.int v) = .int v ∧ fits .boolean (.int v) = true := by
  rcases h with rfl | rfl <;> exact ⟨rfl, rfl⟩
def s_X0_hear (C : gT) (g : Nat) (i : Nat) (hu : Int32) : gT := (if (f_X0_worthOf C g i hu) < 4 then (if (if 0 < ((C 42 g) - 4) then ((C 42 g) - 4) else 0) ≤ 0 then (if (C 30 i) < 0 then (tset (tset (tset C 42 g (if 0 < ((C 42 g) - 4) then ((C 42 g) - 4) else 0)) 43 g 0) 41 g ((C 41 g) + 1)) else (if 24 ≤ (C 30 i) then (tset (tset (tset C 42 g (if 0 < ((C 42 g) - 4) then ((C 42 g) - 4) else 0)) 43 g 0) 41 g ((C 41 g) + 1)) else (tset (tset (tset (tset C 42 g (if 0 < ((C 42 g) - 4) then ((C 42 g) - 4) else 0)) 43 g 0) (100 + g) (C 30 i).toNatClampNeg ((C (100 + g) (C 30 i).toNatClampNeg) + 1)) 41 g ((C 41 g) + 1)))) else (if (C 30 i) < 0 then (tset (tset (tset C 42 g (if 0 < ((C 42 g) - 4) then ((C 42 g) - 4) else 0)) 43 g 1) 41 g ((C 41 g) + 1)) else (if 24 ≤ (C 30 i) then (tset (tset (tset C 42 g (if 0 < ((C 42 g) - 4) then ((C 42 g) - 4) else 0)) 43 g 1) 41 g ((C 41 g) + 1)) else (tset (tset (tset (tset C 42 g (if 0 < ((C 42 g) - 4) then ((C 42 g) - 4) else 0)) 43 g 1) (100 + g) (C 30 i).toNatClampNeg ((C (100 + g) (C 30 i).toNatClampNeg) + 1)) 41 g ((C 41 g) + 1))))) else (if (if ((C 42 g) + 3) < 30 then ((C 42 g) + 3) else 30) ≤ 0 then (if (C 30 i) < 0 then (tset (tset (tset C 42 g (if ((C 42 g) + 3) < 30 then ((C 42 g) + 3) else 30)) 43 g 0) 41 g ((C 41 g) + 1)) else (if 24 ≤ (C 30 i) then (tset (tset (tset C 42 g (if ((C 42 g) + 3) < 30 then ((C 42 g) + 3) else 30)) 43 g 0) 41 g ((C 41 g) + 1)) else (tset (tset (tset (tset C 42 g (if ((C 42 g) + 3) < 30 then ((C 42 g) + 3) else 30)) 43 g 0) (100 + g) (C 30 i).toNatClampNeg ((C (100 + g) (C 30 i).toNatClampNeg) + 1)) 41 g ((C 41 g) + 1)))) else (if (C 30 i) < 0 then (tset (tset (tset C 42 g (if ((C 42 g) + 3) < 30 then ((C 42 g) + 3) else 30)) 43 g 1) 41 g ((C 41 g) + 1)) else (if 24 ≤ (C 30 i) then (tset (tset (tset C 42 g (if ((C 42 g) + 3) < 30 then ((C 42 g) + 3) else 30)) 43 g 1) 41 g ((C 41 g) + 1)) else (tset (tset (tset (tset C 42 g (if ((C 42 g) + 3) < 30 then ((C 42 g) + 3) else 30)) 43 g 1) (100 + g) (C 30 i).toNatClampNeg ((C (100 + g) (C 30 i).toNatClampNeg) + 1)) 41 g ((C 41 g) + 1))))))
set_option maxHeartbeats 4000000 in
set_option maxRecDepth 100000 in
theorem c_X0_hear (l : Launch) (D : va_G) (G : gG) (A : Nat → Prop) (ad : gAd) (N : gN) (C M : gT) (o : Nat → Int64) (Hp : Heap) (hW : gW D A ad (Wd G ad N C M o) Hp) (hC : IC N C) (g : Nat) (hg : g < N 1) (i : Nat) (hi : i < N 0) (hu : Int32) : Met l yX0_hear wsX0_hear ({ frames := 2, cells := 0, slots := 0, locals := 45 }) (va_Pc [.ref (ad 4 g), .ref (ad 3 i), .int hu] (gQ D (gTs G) Hp)) (va_Qv (fun (_ : Unit) => True) (fun _ t => gW D A ad (Wd G ad N (s_X0_hear C g i hu) M o) t.heap) A) 0 0 A := by
  refine g_start (cc := cX0_hear) (maxL := 4) (ret := none) (by decide) rfl (Nat.le_of_ble_eq_true rfl) (fun p e s m below meth c ls C0 hr hlk hnm hh hK hl => ?_)
  obtain ⟨hx, hb, hml, hown, hts⟩ := id C0
  have hown : s.vm.findClass RX0 = some m.cls := hown
  have hS : va_S A Hp Hp [] := va_S.rf
  have hl : lv_has ls 4 [(0, .ref (ad 4 g)), (1, .ref (ad 3 i)), (2, .int hu)] := hl
  have inX0 : ∀ w ∈ wsX00, w ∈ wsX0_hear := by decide +kernel
  have inX2 : ∀ w ∈ wsX20, w ∈ wsX0_hear := by decide +kernel
  obtain ⟨⟨hc0, hc1, hc2, hc3⟩, hNN, hCp⟩ := id hC
  refine lv_aload_n hx hb dX0_hear_0 rfl (lv_at hl 0 rfl) ?_
  refine lv_aload_n hx hb dX0_hear_1 rfl (lv_at hl 1 rfl) ?_
  refine lv_iload_n hx hb dX0_hear_2 rfl (lv_at hl 2 rfl) ?_
  refine g_Vi (As := [.ref (ad 3 i), .int hu]) (rest := []) C0 (c_X0_worthOf l D G A ad N C M o Hp hW g hg i hi hu) (cwV 2 hts gX0_hear_X0_worthOf rfl rfl rfl (by decide +kernel) ⟨Nat.le_of_ble_eq_true rfl, Nat.le_of_ble_eq_true rfl⟩) hK (va_recv hK (hW.p (Wd_Gd hg)) (ci := 1) (q0 := 0) rfl rfl) rfl hl rfl (Nat.le_of_ble_eq_true rfl) dX0_hear_3 ⟨Nat.zero_le _, Nat.zero_le _⟩ hS (fun r_1 locs hr_1 hS => ?_)
  replace hr_1 : r_1 = (f_X0_worthOf C g i hu) := hr_1
  subst r_1
  refine lv_iconst (v := 4) hx hb dX0_hear_6 (by decide) ?_
  refine lv_icmp_lt (tgt := 14) hx hb dX0_hear_7 (by decide) (fun c_7_1 => ?_) (fun c_7_1 => ?_)
  · refine lv_iconst (v := 0) hx hb dX0_hear_14 (by decide) ?_
    refine lv_istore_n (lv' := [(3, .int 0), (0, .ref (ad 4 g)), (1, .ref (ad 3 i)), (2, .int hu)]) hx hb dX0_hear_15 rfl hl (by decide) rfl (fun ls hl => ?_)
    refine lv_aload_n hx hb dX0_hear_16 rfl (lv_at hl 1 rfl) ?_
    refine lv_iload_n hx hb dX0_hear_17 rfl (lv_at hl 0 rfl) ?_
    refine lv_if_eq (tgt := 35) hx hb dX0_hear_18 (by decide) (fun c_18_2 => ?_) (fun c_18_2 => ?_)
    · refine lv_iconst (v := 0) hx hb dX0_hear_35 (by decide) ?_
      refine lv_aload_n hx hb dX0_hear_36 rfl (lv_at hl 1 rfl) ?_
      refine va_get (D := D) (ci := 1) (v := .int (C 42 g)) (C := RX0) (T := TX0) (N := 4) hx hb hts inX0 hown hK (hW.p (e := (eGd ad C g)) (Wd_Gd hg)) 0 rfl rfl 2 (by decide) (hts (.fieldLink RX0 15 "StoryToll$Guard" "patience" "I") (List.mem_of_getElem? (i := 1) rfl)) (fun _ h9 => h9) rfl dX0_hear_37 ?_
      refine lv_iconst (v := 4) hx hb dX0_hear_40 (by decide) ?_
      refine lv_isub hx hb dX0_hear_41 ?_
      refine va_mmax hx hb (hml.trans hl.1.symm) hown (hts (.methodLink RX0 48 Lib.Math.max.name) (List.mem_of_getElem? (i := 6) rfl)) (hts (.static Lib.Math.max.name) (List.mem_of_getElem? (i := 7) rfl)) (hts (.initialized "java/lang/Math") (List.mem_of_getElem? (i := 4) rfl)) (hts (.code Lib.Math.max.name Lib.Math.max.code 2 (some .int)) (List.mem_of_getElem? (i := 8) rfl)) (Nat.le_of_ble_eq_true rfl) (Nat.le_of_ble_eq_true rfl) (Nat.le_of_ble_eq_true rfl) (Nat.le_of_ble_eq_true rfl) dX0_hear_42 ?_
      refine g_put (D := D) (ci := 1) (v := .int (if 0 < ((C 42 g) - 4) then ((C 42 g) - 4) else 0)) (ty := .int) (C := RX0) (T := TX0) (N := 4) (ct' := (Wd G ad N (tset C 42 g (if 0 < ((C 42 g) - 4) then ((C 42 g) - 4) else 0)) M o)) hx hb hts inX0 tyX0 tyX0_ok nmX0 hown hK hW hS (show Wd G ad N C M o 4 g = some (eGd ad C g) from (Wd_Gd hg)) rfl 2 (by decide) (hts (.fieldLink RX0 15 "StoryToll$Guard" "patience" "I") (List.mem_of_getElem? (i := 1) rfl)) (fun _ h9 => h9) rfl (by decide +kernel) rfl rfl (Nat.le_of_ble_eq_true rfl) dX0_hear_45 (Wd_f42 hg) (Wd_tk (by decide)) (fun H locs hW hS => ?_)
      refine lv_aload_n hx hb dX0_hear_48 rfl (lv_at hl 1 rfl) ?_
      refine lv_aload_n hx hb dX0_hear_49 rfl (lv_at hl 1 rfl) ?_
      refine va_get (D := D) (ci := 1) (v := .int ((tset C 42 g (if 0 < ((C 42 g) - 4) then ((C 42 g) - 4) else 0)) 42 g)) (C := RX0) (T := TX0) (N := 4) hx hb hts inX0 hown hK (hW.p (e := (eGd ad (tset C 42 g (if 0 < ((C 42 g) - 4) then ((C 42 g) - 4) else 0)) g)) (Wd_Gd hg)) 0 rfl rfl 2 (by decide) (hts (.fieldLink RX0 15 "StoryToll$Guard" "patience" "I") (List.mem_of_getElem? (i := 1) rfl)) (fun _ h9 => h9) rfl dX0_hear_50 ?_
      rw [show ((tset C 42 g (if 0 < ((C 42 g) - 4) then ((C 42 g) - 4) else 0)) 42 g) = (if 0 < ((C 42 g) - 4) then ((C 42 g) - 4) else 0) from by rw [tset_s]]
      refine lv_if_le (tgt := 60) hx hb dX0_hear_53 (by decide) (fun c_53_3 => ?_) (fun c_53_3 => ?_)
      · refine lv_iconst (v := 0) hx hb dX0_hear_60 (by decide) ?_
        refine g_put (D := D) (ci := 1) (v := .int 0) (ty := .boolean) (C := RX0) (T := TX0) (N := 4) (ct' := (Wd G ad N (tset (tset C 42 g (if 0 < ((C 42 g) - 4) then ((C 42 g) - 4) else 0)) 43 g 0) M o)) hx hb hts inX0 tyX0 tyX0_ok nmX0 hown hK hW hS (show Wd G ad N (tset C 42 g (if 0 < ((C 42 g) - 4) then ((C 42 g) - 4) else 0)) M o 4 g = some (eGd ad (tset C 42 g (if 0 < ((C 42 g) - 4) then ((C 42 g) - 4) else 0)) g) from (Wd_Gd hg)) rfl 3 (by decide) (hts (.fieldLink RX0 19 "StoryToll$Guard" "awake" "Z") (List.mem_of_getElem? (i := 9) rfl)) (fun _ h9 => h9) rfl (by decide +kernel) rfl rfl (Nat.le_of_ble_eq_true rfl) dX0_hear_61 (Wd_f43 hg) (Wd_tk (by decide)) (fun H locs hW hS => ?_)
        refine lv_aload_n hx hb dX0_hear_64 rfl (lv_at hl 2 rfl) ?_
        refine va_get (D := D) (ci := 3) (v := .int ((tset (tset C 42 g (if 0 < ((C 42 g) - 4) then ((C 42 g) - 4) else 0)) 43 g 0) 30 i)) (C := RX2) (T := TX2) (N := 6) hx hb hts inX2 hown hK (hW.p (e := (eS (tset (tset C 42 g (if 0 < ((C 42 g) - 4) then ((C 42 g) - 4) else 0)) 43 g 0) i)) (Wd_S hi)) 0 rfl rfl 0 (by decide) (hts (.fieldLink RX0 23 "StoryToll$Scene" "number" "I") (List.mem_of_getElem? (i := 10) rfl)) (fun _ h9 => h9) rfl dX0_hear_65 ?_
        rw [show ((tset (tset C 42 g (if 0 < ((C 42 g) - 4) then ((C 42 g) - 4) else 0)) 43 g 0) 30 i) = (C 30 i) from by rw [tset_of (by decide), tset_of (by decide)]]
        refine lv_if_lt (tgt := 96) hx hb dX0_hear_68 (by decide) (fun c_68_4 => ?_) (fun c_68_4 => ?_)
        · refine lv_aload_n hx hb dX0_hear_96 rfl (lv_at hl 1 rfl) ?_
          refine lv_dup hx hb dX0_hear_97 rfl ?_
          refine va_get (D := D) (ci := 1) (v := .int ((tset (tset C 42 g (if 0 < ((C 42 g) - 4) then ((C 42 g) - 4) else 0)) 43 g 0) 41 g)) (C := RX0) (T := TX0) (N := 4) hx hb hts inX0 hown hK (hW.p (e := (eGd ad (tset (tset C 42 g (if 0 < ((C 42 g) - 4) then ((C 42 g) - 4) else 0)) 43 g 0) g)) (Wd_Gd hg)) 0 rfl rfl 1 (by decide) (hts (.fieldLink RX0 51 "StoryToll$Guard" "scenesHeard" "I") (List.mem_of_getElem? (i := 12) rfl)) (fun _ h9 => h9) rfl dX0_hear_98 ?_
          rw [show ((tset (tset C 42 g (if 0 < ((C 42 g) - 4) then ((C 42 g) - 4) else 0)) 43 g 0) 41 g) = (C 41 g) from by rw [tset_of (by decide), tset_of (by decide)]]
          refine lv_iconst (v := 1) hx hb dX0_hear_101 (by decide) ?_
          refine lv_iadd hx hb dX0_hear_102 ?_
          refine g_put (D := D) (ci := 1) (v := .int ((C 41 g) + 1)) (ty := .int) (C := RX0) (T := TX0) (N := 4) (ct' := (Wd G ad N (tset (tset (tset C 42 g (if 0 < ((C 42 g) - 4) then ((C 42 g) - 4) else 0)) 43 g 0) 41 g ((C 41 g) + 1)) M o)) hx hb hts inX0 tyX0 tyX0_ok nmX0 hown hK hW hS (show Wd G ad N (tset (tset C 42 g (if 0 < ((C 42 g) - 4) then ((C 42 g) - 4) else 0)) 43 g 0) M o 4 g = some (eGd ad (tset (tset C 42 g (if 0 < ((C 42 g) - 4) then ((C 42 g) - 4) else 0)) 43 g 0) g) from (Wd_Gd hg)) rfl 1 (by decide) (hts (.fieldLink RX0 51 "StoryToll$Guard" "scenesHeard" "I") (List.mem_of_getElem? (i := 12) rfl)) (fun _ h9 => h9) rfl (by decide +kernel) rfl rfl (Nat.le_of_ble_eq_true rfl) dX0_hear_103 (Wd_f41 hg) (Wd_tk (by decide)) (fun H locs hW hS => ?_)
          exact g_wvret (u := ()) (B := fun _ H => gW D A ad (Wd G ad N (s_X0_hear C g i hu) M o) H) hx hb hr hlk hh hS trivial (show gW D A ad (Wd G ad N (s_X0_hear C g i hu) M o) H from by rw [s_X0_hear, if_pos c_7_1, if_pos c_53_3, if_pos c_68_4]; exact hW) dX0_hear_106
        · refine lv_aload_n hx hb dX0_hear_71 rfl (lv_at hl 2 rfl) ?_
          refine va_get (D := D) (ci := 3) (v := .int ((tset (tset C 42 g (if 0 < ((C 42 g) - 4) then ((C 42 g) - 4) else 0)) 43 g 0) 30 i)) (C := RX2) (T := TX2) (N := 6) hx hb hts inX2 hown hK (hW.p (e := (eS (tset (tset C 42 g (if 0 < ((C 42 g) - 4) then ((C 42 g) - 4) else 0)) 43 g 0) i)) (Wd_S hi)) 0 rfl rfl 0 (by decide) (hts (.fieldLink RX0 23 "StoryToll$Scene" "number" "I") (List.mem_of_getElem? (i := 10) rfl)) (fun _ h9 => h9) rfl dX0_hear_72 ?_
          rw [show ((tset (tset C 42 g (if 0 < ((C 42 g) - 4) then ((C 42 g) - 4) else 0)) 43 g 0) 30 i) = (C 30 i) from by rw [tset_of (by decide), tset_of (by decide)]]
          refine lv_aload_n hx hb dX0_hear_75 rfl (lv_at hl 1 rfl) ?_
          refine va_get (D := D) (ci := 1) (v := .ref (ad 7 g)) (C := RX0) (T := TX0) (N := 4) hx hb hts inX0 hown hK (hW.p (e := (eGd ad (tset (tset C 42 g (if 0 < ((C 42 g) - 4) then ((C 42 g) - 4) else 0)) 43 g 0) g)) (Wd_Gd hg)) 0 rfl rfl 0 (by decide) (hts (.fieldLink RX0 9 "StoryToll$Guard" "heard" "[I") (List.mem_of_getElem? (i := 11) rfl)) (fun _ h9 => h9) rfl dX0_hear_76 ?_
          refine va_alen hx hb hK (hW.p (Wd_Hd hg)) 0 0 (x := (24, .inl ((tset (tset C 42 g (if 0 < ((C 42 g) - 4) then ((C 42 g) - 4) else 0)) 43 g 0) (100 + g)))) rfl rfl (v := 24) rfl dX0_hear_79 ?_
          refine lv_icmp_ge (tgt := 96) hx hb dX0_hear_80 (by decide) (fun c_80_5 => ?_) (fun c_80_5 => ?_)
          · refine lv_aload_n hx hb dX0_hear_96 rfl (lv_at hl 1 rfl) ?_
            refine lv_dup hx hb dX0_hear_97 rfl ?_
            refine va_get (D := D) (ci := 1) (v := .int ((tset (tset C 42 g (if 0 < ((C 42 g) - 4) then ((C 42 g) - 4) else 0)) 43 g 0) 41 g)) (C := RX0) (T := TX0) (N := 4) hx hb hts inX0 hown hK (hW.p (e := (eGd ad (tset (tset C 42 g (if 0 < ((C 42 g) - 4) then ((C 42 g) - 4) else 0)) 43 g 0) g)) (Wd_Gd hg)) 0 rfl rfl 1 (by decide) (hts (.fieldLink RX0 51 "StoryToll$Guard" "scenesHeard" "I") (List.mem_of_getElem? (i := 12) rfl)) (fun _ h9 => h9) rfl dX0_hear_98 ?_
            rw [show ((tset (tset C 42 g (if 0 < ((C 42 g) - 4) then ((C 42 g) - 4) else 0)) 43 g 0) 41 g) = (C 41 g) from by rw [tset_of (by decide), tset_of (by decide)]]
            refine lv_iconst (v := 1) hx hb dX0_hear_101 (by decide) ?_
            refine lv_iadd hx hb dX0_hear_102 ?_
            refine g_put (D := D) (ci := 1) (v := .int ((C 41 g) + 1)) (ty := .int) (C := RX0) (T := TX0) (N := 4) (ct' := (Wd G ad N (tset (tset (tset C 42 g (if 0 < ((C 42 g) - 4) then ((C 42 g) - 4) else 0)) 43 g 0) 41 g ((C 41 g) + 1)) M o)) hx hb hts inX0 tyX0 tyX0_ok nmX0 hown hK hW hS (show Wd G ad N (tset (tset C 42 g (if 0 < ((C 42 g) - 4) then ((C 42 g) - 4) else 0)) 43 g 0) M o 4 g = some (eGd ad (tset (tset C 42 g (if 0 < ((C 42 g) - 4) then ((C 42 g) - 4) else 0)) 43 g 0) g) from (Wd_Gd hg)) rfl 1 (by decide) (hts (.fieldLink RX0 51 "StoryToll$Guard" "scenesHeard" "I") (List.mem_of_getElem? (i := 12) rfl)) (fun _ h9 => h9) rfl (by decide +kernel) rfl rfl (Nat.le_of_ble_eq_true rfl) dX0_hear_103 (Wd_f41 hg) (Wd_tk (by decide)) (fun H locs hW hS => ?_)
            exact g_wvret (u := ()) (B := fun _ H => gW D A ad (Wd G ad N (s_X0_hear C g i hu) M o) H) hx hb hr hlk hh hS trivial (show gW D A ad (Wd G ad N (s_X0_hear C g i hu) M o) H from by rw [s_X0_hear, if_pos c_7_1, if_pos c_53_3, if_neg c_68_4, if_pos c_80_5]; exact hW) dX0_hear_106
          · refine lv_aload_n hx hb dX0_hear_83 rfl (lv_at hl 1 rfl) ?_
            refine va_get (D := D) (ci := 1) (v := .ref (ad 7 g)) (C := RX0) (T := TX0) (N := 4) hx hb hts inX0 hown hK (hW.p (e := (eGd ad (tset (tset C 42 g (if 0 < ((C 42 g) - 4) then ((C 42 g) - 4) else 0)) 43 g 0) g)) (Wd_Gd hg)) 0 rfl rfl 0 (by decide) (hts (.fieldLink RX0 9 "StoryToll$Guard" "heard" "[I") (List.mem_of_getElem? (i := 11) rfl)) (fun _ h9 => h9) rfl dX0_hear_84 ?_
            refine lv_aload_n hx hb dX0_hear_87 rfl (lv_at hl 2 rfl) ?_
            refine va_get (D := D) (ci := 3) (v := .int ((tset (tset C 42 g (if 0 < ((C 42 g) - 4) then ((C 42 g) - 4) else 0)) 43 g 0) 30 i)) (C := RX2) (T := TX2) (N := 6) hx hb hts inX2 hown hK (hW.p (e := (eS (tset (tset C 42 g (if 0 < ((C 42 g) - 4) then ((C 42 g) - 4) else 0)) 43 g 0) i)) (Wd_S hi)) 0 rfl rfl 0 (by decide) (hts (.fieldLink RX0 23 "StoryToll$Scene" "number" "I") (List.mem_of_getElem? (i := 10) rfl)) (fun _ h9 => h9) rfl dX0_hear_88 ?_
            rw [show ((tset (tset C 42 g (if 0 < ((C 42 g) - 4) then ((C 42 g) - 4) else 0)) 43 g 0) 30 i) = (C 30 i) from by rw [tset_of (by decide), tset_of (by decide)]]
            refine lv_dup2_11 hx hb dX0_hear_91 rfl rfl ?_
            refine g_ild hx hb hK hW 0 (n := 24) (f := ((tset (tset C 42 g (if 0 < ((C 42 g) - 4) then ((C 42 g) - 4) else 0)) 43 g 0) (100 + g))) (Wd_Hd hg) rfl (k := (C 30 i).toNatClampNeg) (gIn_of (n := 24) (by decide) (gIn_p c_68_4 c_80_5 rfl)).1 (gIn_of (n := 24) (by decide) (gIn_p c_68_4 c_80_5 rfl)).2 (by decide) dX0_hear_92 ?_
            rw [show ((tset (tset C 42 g (if 0 < ((C 42 g) - 4) then ((C 42 g) - 4) else 0)) 43 g 0) (100 + g) (C 30 i).toNatClampNeg) = (C (100 + g) (C 30 i).toNatClampNeg) from by rw [tset_of (by omega), tset_of (by omega)]]
            refine lv_iconst (v := 1) hx hb dX0_hear_93 (by decide) ?_
            refine lv_iadd hx hb dX0_hear_94 ?_
            refine g_istN (ct' := (Wd G ad N (tset (tset (tset C 42 g (if 0 < ((C 42 g) - 4) then ((C 42 g) - 4) else 0)) 43 g 0) (100 + g) (C 30 i).toNatClampNeg ((C (100 + g) (C 30 i).toNatClampNeg) + 1)) M o)) hx hb hK hW hS 0 (n := 24) (f := ((tset (tset C 42 g (if 0 < ((C 42 g) - 4) then ((C 42 g) - 4) else 0)) 43 g 0) (100 + g))) (Wd_Hd hg) rfl (k := (C 30 i).toNatClampNeg) (gIn_of (n := 24) (by decide) (gIn_p c_68_4 c_80_5 rfl)).1 (gIn_of (n := 24) (by decide) (gIn_p c_68_4 c_80_5 rfl)).2 (by decide) dX0_hear_95 (by rw [Wd_Hd hg, tset_row]) (Wd_t7 ⟨by omega, by omega⟩ (by omega)) (fun H locs hW hS => ?_)
            refine lv_aload_n hx hb dX0_hear_96 rfl (lv_at hl 1 rfl) ?_
            refine lv_dup hx hb dX0_hear_97 rfl ?_
            refine va_get (D := D) (ci := 1) (v := .int ((tset (tset (tset C 42 g (if 0 < ((C 42 g) - 4) then ((C 42 g) - 4) else 0)) 43 g 0) (100 + g) (C 30 i).toNatClampNeg ((C (100 + g) (C 30 i).toNatClampNeg) + 1)) 41 g)) (C := RX0) (T := TX0) (N := 4) hx hb hts inX0 hown hK (hW.p (e := (eGd ad (tset (tset (tset C 42 g (if 0 < ((C 42 g) - 4) then ((C 42 g) - 4) else 0)) 43 g 0) (100 + g) (C 30 i).toNatClampNeg ((C (100 + g) (C 30 i).toNatClampNeg) + 1)) g)) (Wd_Gd hg)) 0 rfl rfl 1 (by decide) (hts (.fieldLink RX0 51 "StoryToll$Guard" "scenesHeard" "I") (List.mem_of_getElem? (i := 12) rfl)) (fun _ h9 => h9) rfl dX0_hear_98 ?_
            rw [show ((tset (tset (tset C 42 g (if 0 < ((C 42 g) - 4) then ((C 42 g) - 4) else 0)) 43 g 0) (100 + g) (C 30 i).toNatClampNeg ((C (100 + g) (C 30 i).toNatClampNeg) + 1)) 41 g) = (C 41 g) from by rw [tset_of (by omega), tset_of (by decide), tset_of (by decide)]]
            refine lv_iconst (v := 1) hx hb dX0_hear_101 (by decide) ?_
            refine lv_iadd hx hb dX0_hear_102 ?_
            refine g_put (D := D) (ci := 1) (v := .int ((C 41 g) + 1)) (ty := .int) (C := RX0) (T := TX0) (N := 4) (ct' := (Wd G ad N (tset (tset (tset (tset C 42 g (if 0 < ((C 42 g) - 4) then ((C 42 g) - 4) else 0)) 43 g 0) (100 + g) (C 30 i).toNatClampNeg ((C (100 + g) (C 30 i).toNatClampNeg) + 1)) 41 g ((C 41 g) + 1)) M o)) hx hb hts inX0 tyX0 tyX0_ok nmX0 hown hK hW hS (show Wd G ad N (tset (tset (tset C 42 g (if 0 < ((C 42 g) - 4) then ((C 42 g) - 4) else 0)) 43 g 0) (100 + g) (C 30 i).toNatClampNeg ((C (100 + g) (C 30 i).toNatClampNeg) + 1)) M o 4 g = some (eGd ad (tset (tset (tset C 42 g (if 0 < ((C 42 g) - 4) then ((C 42 g) - 4) else 0)) 43 g 0) (100 + g) (C 30 i).toNatClampNeg ((C (100 + g) (C 30 i).toNatClampNeg) + 1)) g) from (Wd_Gd hg)) rfl 1 (by decide) (hts (.fieldLink RX0 51 "StoryToll$Guard" "scenesHeard" "I") (List.mem_of_getElem? (i := 12) rfl)) (fun _ h9 => h9) rfl (by decide +kernel) rfl rfl (Nat.le_of_ble_eq_true rfl) dX0_hear_103 (Wd_f41 hg) (Wd_tk (by decide)) (fun H locs hW hS => ?_)
            exact g_wvret (u := ()) (B := fun _ H => gW D A ad (Wd G ad N (s_X0_hear C g i hu) M o) H) hx hb hr hlk hh hS trivial (show gW D A ad (Wd G ad N (s_X0_hear C g i hu) M o) H from by rw [s_X0_hear, if_pos c_7_1, if_pos c_53_3, if_neg c_68_4, if_neg c_80_5]; exact hW) dX0_hear_106
      · refine lv_iconst (v := 1) hx hb dX0_hear_56 (by decide) ?_
        refine lv_goto (tgt := 61) hx hb dX0_hear_57 (by decide) ?_
        refine g_put (D := D) (ci := 1) (v := .int 1) (ty := .boolean) (C := RX0) (T := TX0) (N := 4) (ct' := (Wd G ad N (tset (tset C 42 g (if 0 < ((C 42 g) - 4) then ((C 42 g) - 4) else 0)) 43 g 1) M o)) hx hb hts inX0 tyX0 tyX0_ok nmX0 hown hK hW hS (show Wd G ad N (tset C 42 g (if 0 < ((C 42 g) - 4) then ((C 42 g) - 4) else 0)) M o 4 g = some (eGd ad (tset C 42 g (if 0 < ((C 42 g) - 4) then ((C 42 g) - 4) else 0)) g) from (Wd_Gd hg)) rfl 3 (by decide) (hts (.fieldLink RX0 19 "StoryToll$Guard" "awake" "Z") (List.mem_of_getElem? (i := 9) rfl)) (fun _ h9 => h9) rfl (by decide +kernel) rfl rfl (Nat.le_of_ble_eq_true rfl) dX0_hear_61 (Wd_f43 hg) (Wd_tk (by decide)) (fun H locs hW hS => ?_)
        refine lv_aload_n hx hb dX0_hear_64 rfl (lv_at hl 2 rfl) ?_
        refine va_get (D := D) (ci := 3) (v := .int ((tset (tset C 42 g (if 0 < ((C 42 g) - 4) then ((C 42 g) - 4) else 0)) 43 g 1) 30 i)) (C := RX2) (T := TX2) (N := 6) hx hb hts inX2 hown hK (hW.p (e := (eS (tset (tset C 42 g (if 0 < ((C 42 g) - 4) then ((C 42 g) - 4) else 0)) 43 g 1) i)) (Wd_S hi)) 0 rfl rfl 0 (by decide) (hts (.fieldLink RX0 23 "StoryToll$Scene" "number" "I") (List.mem_of_getElem? (i := 10) rfl)) (fun _ h9 => h9) rfl dX0_hear_65 ?_
        rw [show ((tset (tset C 42 g (if 0 < ((C 42 g) - 4) then ((C 42 g) - 4) else 0)) 43 g 1) 30 i) = (C 30 i) from by rw [tset_of (by decide), tset_of (by decide)]]
        refine lv_if_lt (tgt := 96) hx hb dX0_hear_68 (by decide) (fun c_68_6 => ?_) (fun c_68_6 => ?_)
        · refine lv_aload_n hx hb dX0_hear_96 rfl (lv_at hl 1 rfl) ?_
          refine lv_dup hx hb dX0_hear_97 rfl ?_
          refine va_get (D := D) (ci := 1) (v := .int ((tset (tset C 42 g (if 0 < ((C 42 g) - 4) then ((C 42 g) - 4) else 0)) 43 g 1) 41 g)) (C := RX0) (T := TX0) (N := 4) hx hb hts inX0 hown hK (hW.p (e := (eGd ad (tset (tset C 42 g (if 0 < ((C 42 g) - 4) then ((C 42 g) - 4) else 0)) 43 g 1) g)) (Wd_Gd hg)) 0 rfl rfl 1 (by decide) (hts (.fieldLink RX0 51 "StoryToll$Guard" "scenesHeard" "I") (List.mem_of_getElem? (i := 12) rfl)) (fun _ h9 => h9) rfl dX0_hear_98 ?_
          rw [show ((tset (tset C 42 g (if 0 < ((C 42 g) - 4) then ((C 42 g) - 4) else 0)) 43 g 1) 41 g) = (C 41 g) from by rw [tset_of (by decide), tset_of (by decide)]]
          refine lv_iconst (v := 1) hx hb dX0_hear_101 (by decide) ?_
          refine lv_iadd hx hb dX0_hear_102 ?_
          refine g_put (D := D) (ci := 1) (v := .int ((C 41 g) + 1)) (ty := .int) (C := RX0) (T := TX0) (N := 4) (ct' := (Wd G ad N (tset (tset (tset C 42 g (if 0 < ((C 42 g) - 4) then ((C 42 g) - 4) else 0)) 43 g 1) 41 g ((C 41 g) + 1)) M o)) hx hb hts inX0 tyX0 tyX0_ok nmX0 hown hK hW hS (show Wd G ad N (tset (tset C 42 g (if 0 < ((C 42 g) - 4) then ((C 42 g) - 4) else 0)) 43 g 1) M o 4 g = some (eGd ad (tset (tset C 42 g (if 0 < ((C 42 g) - 4) then ((C 42 g) - 4) else 0)) 43 g 1) g) from (Wd_Gd hg)) rfl 1 (by decide) (hts (.fieldLink RX0 51 "StoryToll$Guard" "scenesHeard" "I") (List.mem_of_getElem? (i := 12) rfl)) (fun _ h9 => h9) rfl (by decide +kernel) rfl rfl (Nat.le_of_ble_eq_true rfl) dX0_hear_103 (Wd_f41 hg) (Wd_tk (by decide)) (fun H locs hW hS => ?_)
          exact g_wvret (u := ()) (B := fun _ H => gW D A ad (Wd G ad N (s_X0_hear C g i hu) M o) H) hx hb hr hlk hh hS trivial (show gW D A ad (Wd G ad N (s_X0_hear C g i hu) M o) H from by rw [s_X0_hear, if_pos c_7_1, if_neg c_53_3, if_pos c_68_6]; exact hW) dX0_hear_106
        · refine lv_aload_n hx hb dX0_hear_71 rfl (lv_at hl 2 rfl) ?_
          refine va_get (D := D) (ci := 3) (v := .int ((tset (tset C 42 g (if 0 < ((C 42 g) - 4) then ((C 42 g) - 4) else 0)) 43 g 1) 30 i)) (C := RX2) (T := TX2) (N := 6) hx hb hts inX2 hown hK (hW.p (e := (eS (tset (tset C 42 g (if 0 < ((C 42 g) - 4) then ((C 42 g) - 4) else 0)) 43 g 1) i)) (Wd_S hi)) 0 rfl rfl 0 (by decide) (hts (.fieldLink RX0 23 "StoryToll$Scene" "number" "I") (List.mem_of_getElem? (i := 10) rfl)) (fun _ h9 => h9) rfl dX0_hear_72 ?_
          rw [show ((tset (tset C 42 g (if 0 < ((C 42 g) - 4) then ((C 42 g) - 4) else 0)) 43 g 1) 30 i) = (C 30 i) from by rw [tset_of (by decide), tset_of (by decide)]]
          refine lv_aload_n hx hb dX0_hear_75 rfl (lv_at hl 1 rfl) ?_
          refine va_get (D := D) (ci := 1) (v := .ref (ad 7 g)) (C := RX0) (T := TX0) (N := 4) hx hb hts inX0 hown hK (hW.p (e := (eGd ad (tset (tset C 42 g (if 0 < ((C 42 g) - 4) then ((C 42 g) - 4) else 0)) 43 g 1) g)) (Wd_Gd hg)) 0 rfl rfl 0 (by decide) (hts (.fieldLink RX0 9 "StoryToll$Guard" "heard" "[I") (List.mem_of_getElem? (i := 11) rfl)) (fun _ h9 => h9) rfl dX0_hear_76 ?_
          refine va_alen hx hb hK (hW.p (Wd_Hd hg)) 0 0 (x := (24, .inl ((tset (tset C 42 g (if 0 < ((C 42 g) - 4) then ((C 42 g) - 4) else 0)) 43 g 1) (100 + g)))) rfl rfl (v := 24) rfl dX0_hear_79 ?_
          refine lv_icmp_ge (tgt := 96) hx hb dX0_hear_80 (by decide) (fun c_80_7 => ?_) (fun c_80_7 => ?_)
          · refine lv_aload_n hx hb dX0_hear_96 rfl (lv_at hl 1 rfl) ?_
            refine lv_dup hx hb dX0_hear_97 rfl ?_
            refine va_get (D := D) (ci := 1) (v := .int ((tset (tset C 42 g (if 0 < ((C 42 g) - 4) then ((C 42 g) - 4) else 0)) 43 g 1) 41 g)) (C := RX0) (T := TX0) (N := 4) hx hb hts inX0 hown hK (hW.p (e := (eGd ad (tset (tset C 42 g (if 0 < ((C 42 g) - 4) then ((C 42 g) - 4) else 0)) 43 g 1) g)) (Wd_Gd hg)) 0 rfl rfl 1 (by decide) (hts (.fieldLink RX0 51 "StoryToll$Guard" "scenesHeard" "I") (List.mem_of_getElem? (i := 12) rfl)) (fun _ h9 => h9) rfl dX0_hear_98 ?_
            rw [show ((tset (tset C 42 g (if 0 < ((C 42 g) - 4) then ((C 42 g) - 4) else 0)) 43 g 1) 41 g) = (C 41 g) from by rw [tset_of (by decide), tset_of (by decide)]]
            refine lv_iconst (v := 1) hx hb dX0_hear_101 (by decide) ?_
            refine lv_iadd hx hb dX0_hear_102 ?_
            refine g_put (D := D) (ci := 1) (v := .int ((C 41 g) + 1)) (ty := .int) (C := RX0) (T := TX0) (N := 4) (ct' := (Wd G ad N (tset (tset (tset C 42 g (if 0 < ((C 42 g) - 4) then ((C 42 g) - 4) else 0)) 43 g 1) 41 g ((C 41 g) + 1)) M o)) hx hb hts inX0 tyX0 tyX0_ok nmX0 hown hK hW hS (show Wd G ad N (tset (tset C 42 g (if 0 < ((C 42 g) - 4) then ((C 42 g) - 4) else 0)) 43 g 1) M o 4 g = some (eGd ad (tset (tset C 42 g (if 0 < ((C 42 g) - 4) then ((C 42 g) - 4) else 0)) 43 g 1) g) from (Wd_Gd hg)) rfl 1 (by decide) (hts (.fieldLink RX0 51 "StoryToll$Guard" "scenesHeard" "I") (List.mem_of_getElem? (i := 12) rfl)) (fun _ h9 => h9) rfl (by decide +kernel) rfl rfl (Nat.le_of_ble_eq_true rfl) dX0_hear_103 (Wd_f41 hg) (Wd_tk (by decide)) (fun H locs hW hS => ?_)
            exact g_wvret (u := ()) (B := fun _ H => gW D A ad (Wd G ad N (s_X0_hear C g i hu) M o) H) hx hb hr hlk hh hS trivial (show gW D A ad (Wd G ad N (s_X0_hear C g i hu) M o) H from by rw [s_X0_hear, if_pos c_7_1, if_neg c_53_3, if_neg c_68_6, if_pos c_80_7]; exact hW) dX0_hear_106
          · refine lv_aload_n hx hb dX0_hear_83 rfl (lv_at hl 1 rfl) ?_
            refine va_get (D := D) (ci := 1) (v := .ref (ad 7 g)) (C := RX0) (T := TX0) (N := 4) hx hb hts inX0 hown hK (hW.p (e := (eGd ad (tset (tset C 42 g (if 0 < ((C 42 g) - 4) then ((C 42 g) - 4) else 0)) 43 g 1) g)) (Wd_Gd hg)) 0 rfl rfl 0 (by decide) (hts (.fieldLink RX0 9 "StoryToll$Guard" "heard" "[I") (List.mem_of_getElem? (i := 11) rfl)) (fun _ h9 => h9) rfl dX0_hear_84 ?_
            refine lv_aload_n hx hb dX0_hear_87 rfl (lv_at hl 2 rfl) ?_
            refine va_get (D := D) (ci := 3) (v := .int ((tset (tset C 42 g (if 0 < ((C 42 g) - 4) then ((C 42 g) - 4) else 0)) 43 g 1) 30 i)) (C := RX2) (T := TX2) (N := 6) hx hb hts inX2 hown hK (hW.p (e := (eS (tset (tset C 42 g (if 0 < ((C 42 g) - 4) then ((C 42 g) - 4) else 0)) 43 g 1) i)) (Wd_S hi)) 0 rfl rfl 0 (by decide) (hts (.fieldLink RX0 23 "StoryToll$Scene" "number" "I") (List.mem_of_getElem? (i := 10) rfl)) (fun _ h9 => h9) rfl dX0_hear_88 ?_
            rw [show ((tset (tset C 42 g (if 0 < ((C 42 g) - 4) then ((C 42 g) - 4) else 0)) 43 g 1) 30 i) = (C 30 i) from by rw [tset_of (by decide), tset_of (by decide)]]
            refine lv_dup2_11 hx hb dX0_hear_91 rfl rfl ?_
            refine g_ild hx hb hK hW 0 (n := 24) (f := ((tset (tset C 42 g (if 0 < ((C 42 g) - 4) then ((C 42 g) - 4) else 0)) 43 g 1) (100 + g))) (Wd_Hd hg) rfl (k := (C 30 i).toNatClampNeg) (gIn_of (n := 24) (by decide) (gIn_p c_68_6 c_80_7 rfl)).1 (gIn_of (n := 24) (by decide) (gIn_p c_68_6 c_80_7 rfl)).2 (by decide) dX0_hear_92 ?_
            rw [show ((tset (tset C 42 g (if 0 < ((C 42 g) - 4) then ((C 42 g) - 4) else 0)) 43 g 1) (100 + g) (C 30 i).toNatClampNeg) = (C (100 + g) (C 30 i).toNatClampNeg) from by rw [tset_of (by omega), tset_of (by omega)]]
            refine lv_iconst (v := 1) hx hb dX0_hear_93 (by decide) ?_
            refine lv_iadd hx hb dX0_hear_94 ?_
            refine g_istN (ct' := (Wd G ad N (tset (tset (tset C 42 g (if 0 < ((C 42 g) - 4) then ((C 42 g) - 4) else 0)) 43 g 1) (100 + g) (C 30 i).toNatClampNeg ((C (100 + g) (C 30 i).toNatClampNeg) + 1)) M o)) hx hb hK hW hS 0 (n := 24) (f := ((tset (tset C 42 g (if 0 < ((C 42 g) - 4) then ((C 42 g) - 4) else 0)) 43 g 1) (100 + g))) (Wd_Hd hg) rfl (k := (C 30 i).toNatClampNeg) (gIn_of (n := 24) (by decide) (gIn_p c_68_6 c_80_7 rfl)).1 (gIn_of (n := 24) (by decide) (gIn_p c_68_6 c_80_7 rfl)).2 (by decide) dX0_hear_95 (by rw [Wd_Hd hg, tset_row]) (Wd_t7 ⟨by omega, by omega⟩ (by omega)) (fun H locs hW hS => ?_)
            refine lv_aload_n hx hb dX0_hear_96 rfl (lv_at hl 1 rfl) ?_
            refine lv_dup hx hb dX0_hear_97 rfl ?_
            refine va_get (D := D) (ci := 1) (v := .int ((tset (tset (tset C 42 g (if 0 < ((C 42 g) - 4) then ((C 42 g) - 4) else 0)) 43 g 1) (100 + g) (C 30 i).toNatClampNeg ((C (100 + g) (C 30 i).toNatClampNeg) + 1)) 41 g)) (C := RX0) (T := TX0) (N := 4) hx hb hts inX0 hown hK (hW.p (e := (eGd ad (tset (tset (tset C 42 g (if 0 < ((C 42 g) - 4) then ((C 42 g) - 4) else 0)) 43 g 1) (100 + g) (C 30 i).toNatClampNeg ((C (100 + g) (C 30 i).toNatClampNeg) + 1)) g)) (Wd_Gd hg)) 0 rfl rfl 1 (by decide) (hts (.fieldLink RX0 51 "StoryToll$Guard" "scenesHeard" "I") (List.mem_of_getElem? (i := 12) rfl)) (fun _ h9 => h9) rfl dX0_hear_98 ?_
            rw [show ((tset (tset (tset C 42 g (if 0 < ((C 42 g) - 4) then ((C 42 g) - 4) else 0)) 43 g 1) (100 + g) (C 30 i).toNatClampNeg ((C (100 + g) (C 30 i).toNatClampNeg) + 1)) 41 g) = (C 41 g) from by rw [tset_of (by omega), tset_of (by decide), tset_of (by decide)]]
            refine lv_iconst (v := 1) hx hb dX0_hear_101 (by decide) ?_
            refine lv_iadd hx hb dX0_hear_102 ?_
            refine g_put (D := D) (ci := 1) (v := .int ((C 41 g) + 1)) (ty := .int) (C := RX0) (T := TX0) (N := 4) (ct' := (Wd G ad N (tset (tset (tset (tset C 42 g (if 0 < ((C 42 g) - 4) then ((C 42 g) - 4) else 0)) 43 g 1) (100 + g) (C 30 i).toNatClampNeg ((C (100 + g) (C 30 i).toNatClampNeg) + 1)) 41 g ((C 41 g) + 1)) M o)) hx hb hts inX0 tyX0 tyX0_ok nmX0 hown hK hW hS (show Wd G ad N (tset (tset (tset C 42 g (if 0 < ((C 42 g) - 4) then ((C 42 g) - 4) else 0)) 43 g 1) (100 + g) (C 30 i).toNatClampNeg ((C (100 + g) (C 30 i).toNatClampNeg) + 1)) M o 4 g = some (eGd ad (tset (tset (tset C 42 g (if 0 < ((C 42 g) - 4) then ((C 42 g) - 4) else 0)) 43 g 1) (100 + g) (C 30 i).toNatClampNeg ((C (100 + g) (C 30 i).toNatClampNeg) + 1)) g) from (Wd_Gd hg)) rfl 1 (by decide) (hts (.fieldLink RX0 51 "StoryToll$Guard" "scenesHeard" "I") (List.mem_of_getElem? (i := 12) rfl)) (fun _ h9 => h9) rfl (by decide +kernel) rfl rfl (Nat.le_of_ble_eq_true rfl) dX0_hear_103 (Wd_f41 hg) (Wd_tk (by decide)) (fun H locs hW hS => ?_)
            exact g_wvret (u := ()) (B := fun _ H => gW D A ad (Wd G ad N (s_X0_hear C g i hu) M o) H) hx hb hr hlk hh hS trivial (show gW D A ad (Wd G ad N (s_X0_hear C g i hu) M o) H from by rw [s_X0_hear, if_pos c_7_1, if_neg c_53_3, if_neg c_68_6, if_neg c_80_7]; exact hW) dX0_hear_106
    · exact absurd (by decide) c_18_2
  · refine lv_iconst (v := 1) hx hb dX0_hear_10 (by decide) ?_
    refine lv_goto (tgt := 15) hx hb dX0_hear_11 (by decide) ?_
    refine lv_istore_n (lv' := [(3, .int 1), (0, .ref (ad 4 g)), (1, .ref (ad 3 i)), (2, .int hu)]) hx hb dX0_hear_15 rfl hl (by decide) rfl (fun ls hl => ?_)
    refine lv_aload_n hx hb dX0_hear_16 rfl (lv_at hl 1 rfl) ?_
    refine lv_iload_n hx hb dX0_hear_17 rfl (lv_at hl 0 rfl) ?_
    refine lv_if_eq (tgt := 35) hx hb dX0_hear_18 (by decide) (fun c_18_8 => ?_) (fun c_18_8 => ?_)
    · exact absurd c_18_8 (by decide)
    · refine lv_bipush (v := 30) hx hb dX0_hear_21 (by decide) ?_
      refine lv_aload_n hx hb dX0_hear_23 rfl (lv_at hl 1 rfl) ?_
      refine va_get (D := D) (ci := 1) (v := .int (C 42 g)) (C := RX0) (T := TX0) (N := 4) hx hb hts inX0 hown hK (hW.p (e := (eGd ad C g)) (Wd_Gd hg)) 0 rfl rfl 2 (by decide) (hts (.fieldLink RX0 15 "StoryToll$Guard" "patience" "I") (List.mem_of_getElem? (i := 1) rfl)) (fun _ h9 => h9) rfl dX0_hear_24 ?_
      refine lv_iconst (v := 3) hx hb dX0_hear_27 (by decide) ?_
      refine lv_iadd hx hb dX0_hear_28 ?_
      refine va_mmin hx hb (hml.trans hl.1.symm) hown (hts (.methodLink RX0 42 Lib.Math.min.name) (List.mem_of_getElem? (i := 2) rfl)) (hts (.static Lib.Math.min.name) (List.mem_of_getElem? (i := 3) rfl)) (hts (.initialized "java/lang/Math") (List.mem_of_getElem? (i := 4) rfl)) (hts (.code Lib.Math.min.name Lib.Math.min.code 2 (some .int)) (List.mem_of_getElem? (i := 5) rfl)) (Nat.le_of_ble_eq_true rfl) (Nat.le_of_ble_eq_true rfl) (Nat.le_of_ble_eq_true rfl) (Nat.le_of_ble_eq_true rfl) dX0_hear_29 ?_
      refine lv_goto (tgt := 45) hx hb dX0_hear_32 (by decide) ?_
      refine g_put (D := D) (ci := 1) (v := .int (if ((C 42 g) + 3) < 30 then ((C 42 g) + 3) else 30)) (ty := .int) (C := RX0) (T := TX0) (N := 4) (ct' := (Wd G ad N (tset C 42 g (if ((C 42 g) + 3) < 30 then ((C 42 g) + 3) else 30)) M o)) hx hb hts inX0 tyX0 tyX0_ok nmX0 hown hK hW hS (show Wd G ad N C M o 4 g = some (eGd ad C g) from (Wd_Gd hg)) rfl 2 (by decide) (hts (.fieldLink RX0 15 "StoryToll$Guard" "patience" "I") (List.mem_of_getElem? (i := 1) rfl)) (fun _ h9 => h9) rfl (by decide +kernel) rfl rfl (Nat.le_of_ble_eq_true rfl) dX0_hear_45 (Wd_f42 hg) (Wd_tk (by decide)) (fun H locs hW hS => ?_)
      refine lv_aload_n hx hb dX0_hear_48 rfl (lv_at hl 1 rfl) ?_
      refine lv_aload_n hx hb dX0_hear_49 rfl (lv_at hl 1 rfl) ?_
      refine va_get (D := D) (ci := 1) (v := .int ((tset C 42 g (if ((C 42 g) + 3) < 30 then ((C 42 g) + 3) else 30)) 42 g)) (C := RX0) (T := TX0) (N := 4) hx hb hts inX0 hown hK (hW.p (e := (eGd ad (tset C 42 g (if ((C 42 g) + 3) < 30 then ((C 42 g) + 3) else 30)) g)) (Wd_Gd hg)) 0 rfl rfl 2 (by decide) (hts (.fieldLink RX0 15 "StoryToll$Guard" "patience" "I") (List.mem_of_getElem? (i := 1) rfl)) (fun _ h9 => h9) rfl dX0_hear_50 ?_
      rw [show ((tset C 42 g (if ((C 42 g) + 3) < 30 then ((C 42 g) + 3) else 30)) 42 g) = (if ((C 42 g) + 3) < 30 then ((C 42 g) + 3) else 30) from by rw [tset_s]]
      refine lv_if_le (tgt := 60) hx hb dX0_hear_53 (by decide) (fun c_53_9 => ?_) (fun c_53_9 => ?_)
      · refine lv_iconst (v := 0) hx hb dX0_hear_60 (by decide) ?_
        refine g_put (D := D) (ci := 1) (v := .int 0) (ty := .boolean) (C := RX0) (T := TX0) (N := 4) (ct' := (Wd G ad N (tset (tset C 42 g (if ((C 42 g) + 3) < 30 then ((C 42 g) + 3) else 30)) 43 g 0) M o)) hx hb hts inX0 tyX0 tyX0_ok nmX0 hown hK hW hS (show Wd G ad N (tset C 42 g (if ((C 42 g) + 3) < 30 then ((C 42 g) + 3) else 30)) M o 4 g = some (eGd ad (tset C 42 g (if ((C 42 g) + 3) < 30 then ((C 42 g) + 3) else 30)) g) from (Wd_Gd hg)) rfl 3 (by decide) (hts (.fieldLink RX0 19 "StoryToll$Guard" "awake" "Z") (List.mem_of_getElem? (i := 9) rfl)) (fun _ h9 => h9) rfl (by decide +kernel) rfl rfl (Nat.le_of_ble_eq_true rfl) dX0_hear_61 (Wd_f43 hg) (Wd_tk (by decide)) (fun H locs hW hS => ?_)
        refine lv_aload_n hx hb dX0_hear_64 rfl (lv_at hl 2 rfl) ?_
        refine va_get (D := D) (ci := 3) (v := .int ((tset (tset C 42 g (if ((C 42 g) + 3) < 30 then ((C 42 g) + 3) else 30)) 43 g 0) 30 i)) (C := RX2) (T := TX2) (N := 6) hx hb hts inX2 hown hK (hW.p (e := (eS (tset (tset C 42 g (if ((C 42 g) + 3) < 30 then ((C 42 g) + 3) else 30)) 43 g 0) i)) (Wd_S hi)) 0 rfl rfl 0 (by decide) (hts (.fieldLink RX0 23 "StoryToll$Scene" "number" "I") (List.mem_of_getElem? (i := 10) rfl)) (fun _ h9 => h9) rfl dX0_hear_65 ?_
        rw [show ((tset (tset C 42 g (if ((C 42 g) + 3) < 30 then ((C 42 g) + 3) else 30)) 43 g 0) 30 i) = (C 30 i) from by rw [tset_of (by decide), tset_of (by decide)]]
        refine lv_if_lt (tgt := 96) hx hb dX0_hear_68 (by decide) (fun c_68_10 => ?_) (fun c_68_10 => ?_)
        · refine lv_aload_n hx hb dX0_hear_96 rfl (lv_at hl 1 rfl) ?_
          refine lv_dup hx hb dX0_hear_97 rfl ?_
          refine va_get (D := D) (ci := 1) (v := .int ((tset (tset C 42 g (if ((C 42 g) + 3) < 30 then ((C 42 g) + 3) else 30)) 43 g 0) 41 g)) (C := RX0) (T := TX0) (N := 4) hx hb hts inX0 hown hK (hW.p (e := (eGd ad (tset (tset C 42 g (if ((C 42 g) + 3) < 30 then ((C 42 g) + 3) else 30)) 43 g 0) g)) (Wd_Gd hg)) 0 rfl rfl 1 (by decide) (hts (.fieldLink RX0 51 "StoryToll$Guard" "scenesHeard" "I") (List.mem_of_getElem? (i := 12) rfl)) (fun _ h9 => h9) rfl dX0_hear_98 ?_
          rw [show ((tset (tset C 42 g (if ((C 42 g) + 3) < 30 then ((C 42 g) + 3) else 30)) 43 g 0) 41 g) = (C 41 g) from by rw [tset_of (by decide), tset_of (by decide)]]
          refine lv_iconst (v := 1) hx hb dX0_hear_101 (by decide) ?_
          refine lv_iadd hx hb dX0_hear_102 ?_
          refine g_put (D := D) (ci := 1) (v := .int ((C 41 g) + 1)) (ty := .int) (C := RX0) (T := TX0) (N := 4) (ct' := (Wd G ad N (tset (tset (tset C 42 g (if ((C 42 g) + 3) < 30 then ((C 42 g) + 3) else 30)) 43 g 0) 41 g ((C 41 g) + 1)) M o)) hx hb hts inX0 tyX0 tyX0_ok nmX0 hown hK hW hS (show Wd G ad N (tset (tset C 42 g (if ((C 42 g) + 3) < 30 then ((C 42 g) + 3) else 30)) 43 g 0) M o 4 g = some (eGd ad (tset (tset C 42 g (if ((C 42 g) + 3) < 30 then ((C 42 g) + 3) else 30)) 43 g 0) g) from (Wd_Gd hg)) rfl 1 (by decide) (hts (.fieldLink RX0 51 "StoryToll$Guard" "scenesHeard" "I") (List.mem_of_getElem? (i := 12) rfl)) (fun _ h9 => h9) rfl (by decide +kernel) rfl rfl (Nat.le_of_ble_eq_true rfl) dX0_hear_103 (Wd_f41 hg) (Wd_tk (by decide)) (fun H locs hW hS => ?_)
          exact g_wvret (u := ()) (B := fun _ H => gW D A ad (Wd G ad N (s_X0_hear C g i hu) M o) H) hx hb hr hlk hh hS trivial (show gW D A ad (Wd G ad N (s_X0_hear C g i hu) M o) H from by rw [s_X0_hear, if_neg c_7_1, if_pos c_53_9, if_pos c_68_10]; exact hW) dX0_hear_106
        · refine lv_aload_n hx hb dX0_hear_71 rfl (lv_at hl 2 rfl) ?_
          refine va_get (D := D) (ci := 3) (v := .int ((tset (tset C 42 g (if ((C 42 g) + 3) < 30 then ((C 42 g) + 3) else 30)) 43 g 0) 30 i)) (C := RX2) (T := TX2) (N := 6) hx hb hts inX2 hown hK (hW.p (e := (eS (tset (tset C 42 g (if ((C 42 g) + 3) < 30 then ((C 42 g) + 3) else 30)) 43 g 0) i)) (Wd_S hi)) 0 rfl rfl 0 (by decide) (hts (.fieldLink RX0 23 "StoryToll$Scene" "number" "I") (List.mem_of_getElem? (i := 10) rfl)) (fun _ h9 => h9) rfl dX0_hear_72 ?_
          rw [show ((tset (tset C 42 g (if ((C 42 g) + 3) < 30 then ((C 42 g) + 3) else 30)) 43 g 0) 30 i) = (C 30 i) from by rw [tset_of (by decide), tset_of (by decide)]]
          refine lv_aload_n hx hb dX0_hear_75 rfl (lv_at hl 1 rfl) ?_
          refine va_get (D := D) (ci := 1) (v := .ref (ad 7 g)) (C := RX0) (T := TX0) (N := 4) hx hb hts inX0 hown hK (hW.p (e := (eGd ad (tset (tset C 42 g (if ((C 42 g) + 3) < 30 then ((C 42 g) + 3) else 30)) 43 g 0) g)) (Wd_Gd hg)) 0 rfl rfl 0 (by decide) (hts (.fieldLink RX0 9 "StoryToll$Guard" "heard" "[I") (List.mem_of_getElem? (i := 11) rfl)) (fun _ h9 => h9) rfl dX0_hear_76 ?_
          refine va_alen hx hb hK (hW.p (Wd_Hd hg)) 0 0 (x := (24, .inl ((tset (tset C 42 g (if ((C 42 g) + 3) < 30 then ((C 42 g) + 3) else 30)) 43 g 0) (100 + g)))) rfl rfl (v := 24) rfl dX0_hear_79 ?_
          refine lv_icmp_ge (tgt := 96) hx hb dX0_hear_80 (by decide) (fun c_80_11 => ?_) (fun c_80_11 => ?_)
          · refine lv_aload_n hx hb dX0_hear_96 rfl (lv_at hl 1 rfl) ?_
            refine lv_dup hx hb dX0_hear_97 rfl ?_
            refine va_get (D := D) (ci := 1) (v := .int ((tset (tset C 42 g (if ((C 42 g) + 3) < 30 then ((C 42 g) + 3) else 30)) 43 g 0) 41 g)) (C := RX0) (T := TX0) (N := 4) hx hb hts inX0 hown hK (hW.p (e := (eGd ad (tset (tset C 42 g (if ((C 42 g) + 3) < 30 then ((C 42 g) + 3) else 30)) 43 g 0) g)) (Wd_Gd hg)) 0 rfl rfl 1 (by decide) (hts (.fieldLink RX0 51 "StoryToll$Guard" "scenesHeard" "I") (List.mem_of_getElem? (i := 12) rfl)) (fun _ h9 => h9) rfl dX0_hear_98 ?_
            rw [show ((tset (tset C 42 g (if ((C 42 g) + 3) < 30 then ((C 42 g) + 3) else 30)) 43 g 0) 41 g) = (C 41 g) from by rw [tset_of (by decide), tset_of (by decide)]]
            refine lv_iconst (v := 1) hx hb dX0_hear_101 (by decide) ?_
            refine lv_iadd hx hb dX0_hear_102 ?_
            refine g_put (D := D) (ci := 1) (v := .int ((C 41 g) + 1)) (ty := .int) (C := RX0) (T := TX0) (N := 4) (ct' := (Wd G ad N (tset (tset (tset C 42 g (if ((C 42 g) + 3) < 30 then ((C 42 g) + 3) else 30)) 43 g 0) 41 g ((C 41 g) + 1)) M o)) hx hb hts inX0 tyX0 tyX0_ok nmX0 hown hK hW hS (show Wd G ad N (tset (tset C 42 g (if ((C 42 g) + 3) < 30 then ((C 42 g) + 3) else 30)) 43 g 0) M o 4 g = some (eGd ad (tset (tset C 42 g (if ((C 42 g) + 3) < 30 then ((C 42 g) + 3) else 30)) 43 g 0) g) from (Wd_Gd hg)) rfl 1 (by decide) (hts (.fieldLink RX0 51 "StoryToll$Guard" "scenesHeard" "I") (List.mem_of_getElem? (i := 12) rfl)) (fun _ h9 => h9) rfl (by decide +kernel) rfl rfl (Nat.le_of_ble_eq_true rfl) dX0_hear_103 (Wd_f41 hg) (Wd_tk (by decide)) (fun H locs hW hS => ?_)
            exact g_wvret (u := ()) (B := fun _ H => gW D A ad (Wd G ad N (s_X0_hear C g i hu) M o) H) hx hb hr hlk hh hS trivial (show gW D A ad (Wd G ad N (s_X0_hear C g i hu) M o) H from by rw [s_X0_hear, if_neg c_7_1, if_pos c_53_9, if_neg c_68_10, if_pos c_80_11]; exact hW) dX0_hear_106
          · refine lv_aload_n hx hb dX0_hear_83 rfl (lv_at hl 1 rfl) ?_
            refine va_get (D := D) (ci := 1) (v := .ref (ad 7 g)) (C := RX0) (T := TX0) (N := 4) hx hb hts inX0 hown hK (hW.p (e := (eGd ad (tset (tset C 42 g (if ((C 42 g) + 3) < 30 then ((C 42 g) + 3) else 30)) 43 g 0) g)) (Wd_Gd hg)) 0 rfl rfl 0 (by decide) (hts (.fieldLink RX0 9 "StoryToll$Guard" "heard" "[I") (List.mem_of_getElem? (i := 11) rfl)) (fun _ h9 => h9) rfl dX0_hear_84 ?_
            refine lv_aload_n hx hb dX0_hear_87 rfl (lv_at hl 2 rfl) ?_
            refine va_get (D := D) (ci := 3) (v := .int ((tset (tset C 42 g (if ((C 42 g) + 3) < 30 then ((C 42 g) + 3) else 30)) 43 g 0) 30 i)) (C := RX2) (T := TX2) (N := 6) hx hb hts inX2 hown hK (hW.p (e := (eS (tset (tset C 42 g (if ((C 42 g) + 3) < 30 then ((C 42 g) + 3) else 30)) 43 g 0) i)) (Wd_S hi)) 0 rfl rfl 0 (by decide) (hts (.fieldLink RX0 23 "StoryToll$Scene" "number" "I") (List.mem_of_getElem? (i := 10) rfl)) (fun _ h9 => h9) rfl dX0_hear_88 ?_
            rw [show ((tset (tset C 42 g (if ((C 42 g) + 3) < 30 then ((C 42 g) + 3) else 30)) 43 g 0) 30 i) = (C 30 i) from by rw [tset_of (by decide), tset_of (by decide)]]
            refine lv_dup2_11 hx hb dX0_hear_91 rfl rfl ?_
            refine g_ild hx hb hK hW 0 (n := 24) (f := ((tset (tset C 42 g (if ((C 42 g) + 3) < 30 then ((C 42 g) + 3) else 30)) 43 g 0) (100 + g))) (Wd_Hd hg) rfl (k := (C 30 i).toNatClampNeg) (gIn_of (n := 24) (by decide) (gIn_p c_68_10 c_80_11 rfl)).1 (gIn_of (n := 24) (by decide) (gIn_p c_68_10 c_80_11 rfl)).2 (by decide) dX0_hear_92 ?_
            rw [show ((tset (tset C 42 g (if ((C 42 g) + 3) < 30 then ((C 42 g) + 3) else 30)) 43 g 0) (100 + g) (C 30 i).toNatClampNeg) = (C (100 + g) (C 30 i).toNatClampNeg) from by rw [tset_of (by omega), tset_of (by omega)]]
            refine lv_iconst (v := 1) hx hb dX0_hear_93 (by decide) ?_
            refine lv_iadd hx hb dX0_hear_94 ?_
            refine g_istN (ct' := (Wd G ad N (tset (tset (tset C 42 g (if ((C 42 g) + 3) < 30 then ((C 42 g) + 3) else 30)) 43 g 0) (100 + g) (C 30 i).toNatClampNeg ((C (100 + g) (C 30 i).toNatClampNeg) + 1)) M o)) hx hb hK hW hS 0 (n := 24) (f := ((tset (tset C 42 g (if ((C 42 g) + 3) < 30 then ((C 42 g) + 3) else 30)) 43 g 0) (100 + g))) (Wd_Hd hg) rfl (k := (C 30 i).toNatClampNeg) (gIn_of (n := 24) (by decide) (gIn_p c_68_10 c_80_11 rfl)).1 (gIn_of (n := 24) (by decide) (gIn_p c_68_10 c_80_11 rfl)).2 (by decide) dX0_hear_95 (by rw [Wd_Hd hg, tset_row]) (Wd_t7 ⟨by omega, by omega⟩ (by omega)) (fun H locs hW hS => ?_)
            refine lv_aload_n hx hb dX0_hear_96 rfl (lv_at hl 1 rfl) ?_
            refine lv_dup hx hb dX0_hear_97 rfl ?_
            refine va_get (D := D) (ci := 1) (v := .int ((tset (tset (tset C 42 g (if ((C 42 g) + 3) < 30 then ((C 42 g) + 3) else 30)) 43 g 0) (100 + g) (C 30 i).toNatClampNeg ((C (100 + g) (C 30 i).toNatClampNeg) + 1)) 41 g)) (C := RX0) (T := TX0) (N := 4) hx hb hts inX0 hown hK (hW.p (e := (eGd ad (tset (tset (tset C 42 g (if ((C 42 g) + 3) < 30 then ((C 42 g) + 3) else 30)) 43 g 0) (100 + g) (C 30 i).toNatClampNeg ((C (100 + g) (C 30 i).toNatClampNeg) + 1)) g)) (Wd_Gd hg)) 0 rfl rfl 1 (by decide) (hts (.fieldLink RX0 51 "StoryToll$Guard" "scenesHeard" "I") (List.mem_of_getElem? (i := 12) rfl)) (fun _ h9 => h9) rfl dX0_hear_98 ?_
            rw [show ((tset (tset (tset C 42 g (if ((C 42 g) + 3) < 30 then ((C 42 g) + 3) else 30)) 43 g 0) (100 + g) (C 30 i).toNatClampNeg ((C (100 + g) (C 30 i).toNatClampNeg) + 1)) 41 g) = (C 41 g) from by rw [tset_of (by omega), tset_of (by decide), tset_of (by decide)]]
            refine lv_iconst (v := 1) hx hb dX0_hear_101 (by decide) ?_
            refine lv_iadd hx hb dX0_hear_102 ?_
            refine g_put (D := D) (ci := 1) (v := .int ((C 41 g) + 1)) (ty := .int) (C := RX0) (T := TX0) (N := 4) (ct' := (Wd G ad N (tset (tset (tset (tset C 42 g (if ((C 42 g) + 3) < 30 then ((C 42 g) + 3) else 30)) 43 g 0) (100 + g) (C 30 i).toNatClampNeg ((C (100 + g) (C 30 i).toNatClampNeg) + 1)) 41 g ((C 41 g) + 1)) M o)) hx hb hts inX0 tyX0 tyX0_ok nmX0 hown hK hW hS (show Wd G ad N (tset (tset (tset C 42 g (if ((C 42 g) + 3) < 30 then ((C 42 g) + 3) else 30)) 43 g 0) (100 + g) (C 30 i).toNatClampNeg ((C (100 + g) (C 30 i).toNatClampNeg) + 1)) M o 4 g = some (eGd ad (tset (tset (tset C 42 g (if ((C 42 g) + 3) < 30 then ((C 42 g) + 3) else 30)) 43 g 0) (100 + g) (C 30 i).toNatClampNeg ((C (100 + g) (C 30 i).toNatClampNeg) + 1)) g) from (Wd_Gd hg)) rfl 1 (by decide) (hts (.fieldLink RX0 51 "StoryToll$Guard" "scenesHeard" "I") (List.mem_of_getElem? (i := 12) rfl)) (fun _ h9 => h9) rfl (by decide +kernel) rfl rfl (Nat.le_of_ble_eq_true rfl) dX0_hear_103 (Wd_f41 hg) (Wd_tk (by decide)) (fun H locs hW hS => ?_)
            exact g_wvret (u := ()) (B := fun _ H => gW D A ad (Wd G ad N (s_X0_hear C g i hu) M o) H) hx hb hr hlk hh hS trivial (show gW D A ad (Wd G ad N (s_X0_hear C g i hu) M o) H from by rw [s_X0_hear, if_neg c_7_1, if_pos c_53_9, if_neg c_68_10, if_neg c_80_11]; exact hW) dX0_hear_106
      · refine lv_iconst (v := 1) hx hb dX0_hear_56 (by decide) ?_
        refine lv_goto (tgt := 61) hx hb dX0_hear_57 (by decide) ?_
        refine g_put (D := D) (ci := 1) (v := .int 1) (ty := .boolean) (C := RX0) (T := TX0) (N := 4) (ct' := (Wd G ad N (tset (tset C 42 g (if ((C 42 g) + 3) < 30 then ((C 42 g) + 3) else 30)) 43 g 1) M o)) hx hb hts inX0 tyX0 tyX0_ok nmX0 hown hK hW hS (show Wd G ad N (tset C 42 g (if ((C 42 g) + 3) < 30 then ((C 42 g) + 3) else 30)) M o 4 g = some (eGd ad (tset C 42 g (if ((C 42 g) + 3) < 30 then ((C 42 g) + 3) else 30)) g) from (Wd_Gd hg)) rfl 3 (by decide) (hts (.fieldLink RX0 19 "StoryToll$Guard" "awake" "Z") (List.mem_of_getElem? (i := 9) rfl)) (fun _ h9 => h9) rfl (by decide +kernel) rfl rfl (Nat.le_of_ble_eq_true rfl) dX0_hear_61 (Wd_f43 hg) (Wd_tk (by decide)) (fun H locs hW hS => ?_)
        refine lv_aload_n hx hb dX0_hear_64 rfl (lv_at hl 2 rfl) ?_
        refine va_get (D := D) (ci := 3) (v := .int ((tset (tset C 42 g (if ((C 42 g) + 3) < 30 then ((C 42 g) + 3) else 30)) 43 g 1) 30 i)) (C := RX2) (T := TX2) (N := 6) hx hb hts inX2 hown hK (hW.p (e := (eS (tset (tset C 42 g (if ((C 42 g) + 3) < 30 then ((C 42 g) + 3) else 30)) 43 g 1) i)) (Wd_S hi)) 0 rfl rfl 0 (by decide) (hts (.fieldLink RX0 23 "StoryToll$Scene" "number" "I") (List.mem_of_getElem? (i := 10) rfl)) (fun _ h9 => h9) rfl dX0_hear_65 ?_
        rw [show ((tset (tset C 42 g (if ((C 42 g) + 3) < 30 then ((C 42 g) + 3) else 30)) 43 g 1) 30 i) = (C 30 i) from by rw [tset_of (by decide), tset_of (by decide)]]
        refine lv_if_lt (tgt := 96) hx hb dX0_hear_68 (by decide) (fun c_68_12 => ?_) (fun c_68_12 => ?_)
        · refine lv_aload_n hx hb dX0_hear_96 rfl (lv_at hl 1 rfl) ?_
          refine lv_dup hx hb dX0_hear_97 rfl ?_
          refine va_get (D := D) (ci := 1) (v := .int ((tset (tset C 42 g (if ((C 42 g) + 3) < 30 then ((C 42 g) + 3) else 30)) 43 g 1) 41 g)) (C := RX0) (T := TX0) (N := 4) hx hb hts inX0 hown hK (hW.p (e := (eGd ad (tset (tset C 42 g (if ((C 42 g) + 3) < 30 then ((C 42 g) + 3) else 30)) 43 g 1) g)) (Wd_Gd hg)) 0 rfl rfl 1 (by decide) (hts (.fieldLink RX0 51 "StoryToll$Guard" "scenesHeard" "I") (List.mem_of_getElem? (i := 12) rfl)) (fun _ h9 => h9) rfl dX0_hear_98 ?_
          rw [show ((tset (tset C 42 g (if ((C 42 g) + 3) < 30 then ((C 42 g) + 3) else 30)) 43 g 1) 41 g) = (C 41 g) from by rw [tset_of (by decide), tset_of (by decide)]]
          refine lv_iconst (v := 1) hx hb dX0_hear_101 (by decide) ?_
          refine lv_iadd hx hb dX0_hear_102 ?_
          refine g_put (D := D) (ci := 1) (v := .int ((C 41 g) + 1)) (ty := .int) (C := RX0) (T := TX0) (N := 4) (ct' := (Wd G ad N (tset (tset (tset C 42 g (if ((C 42 g) + 3) < 30 then ((C 42 g) + 3) else 30)) 43 g 1) 41 g ((C 41 g) + 1)) M o)) hx hb hts inX0 tyX0 tyX0_ok nmX0 hown hK hW hS (show Wd G ad N (tset (tset C 42 g (if ((C 42 g) + 3) < 30 then ((C 42 g) + 3) else 30)) 43 g 1) M o 4 g = some (eGd ad (tset (tset C 42 g (if ((C 42 g) + 3) < 30 then ((C 42 g) + 3) else 30)) 43 g 1) g) from (Wd_Gd hg)) rfl 1 (by decide) (hts (.fieldLink RX0 51 "StoryToll$Guard" "scenesHeard" "I") (List.mem_of_getElem? (i := 12) rfl)) (fun _ h9 => h9) rfl (by decide +kernel) rfl rfl (Nat.le_of_ble_eq_true rfl) dX0_hear_103 (Wd_f41 hg) (Wd_tk (by decide)) (fun H locs hW hS => ?_)
          exact g_wvret (u := ()) (B := fun _ H => gW D A ad (Wd G ad N (s_X0_hear C g i hu) M o) H) hx hb hr hlk hh hS trivial (show gW D A ad (Wd G ad N (s_X0_hear C g i hu) M o) H from by rw [s_X0_hear, if_neg c_7_1, if_neg c_53_9, if_pos c_68_12]; exact hW) dX0_hear_106
        · refine lv_aload_n hx hb dX0_hear_71 rfl (lv_at hl 2 rfl) ?_
          refine va_get (D := D) (ci := 3) (v := .int ((tset (tset C 42 g (if ((C 42 g) + 3) < 30 then ((C 42 g) + 3) else 30)) 43 g 1) 30 i)) (C := RX2) (T := TX2) (N := 6) hx hb hts inX2 hown hK (hW.p (e := (eS (tset (tset C 42 g (if ((C 42 g) + 3) < 30 then ((C 42 g) + 3) else 30)) 43 g 1) i)) (Wd_S hi)) 0 rfl rfl 0 (by decide) (hts (.fieldLink RX0 23 "StoryToll$Scene" "number" "I") (List.mem_of_getElem? (i := 10) rfl)) (fun _ h9 => h9) rfl dX0_hear_72 ?_
          rw [show ((tset (tset C 42 g (if ((C 42 g) + 3) < 30 then ((C 42 g) + 3) else 30)) 43 g 1) 30 i) = (C 30 i) from by rw [tset_of (by decide), tset_of (by decide)]]
          refine lv_aload_n hx hb dX0_hear_75 rfl (lv_at hl 1 rfl) ?_
          refine va_get (D := D) (ci := 1) (v := .ref (ad 7 g)) (C := RX0) (T := TX0) (N := 4) hx hb hts inX0 hown hK (hW.p (e := (eGd ad (tset (tset C 42 g (if ((C 42 g) + 3) < 30 then ((C 42 g) + 3) else 30)) 43 g 1) g)) (Wd_Gd hg)) 0 rfl rfl 0 (by decide) (hts (.fieldLink RX0 9 "StoryToll$Guard" "heard" "[I") (List.mem_of_getElem? (i := 11) rfl)) (fun _ h9 => h9) rfl dX0_hear_76 ?_
          refine va_alen hx hb hK (hW.p (Wd_Hd hg)) 0 0 (x := (24, .inl ((tset (tset C 42 g (if ((C 42 g) + 3) < 30 then ((C 42 g) + 3) else 30)) 43 g 1) (100 + g)))) rfl rfl (v := 24) rfl dX0_hear_79 ?_
          refine lv_icmp_ge (tgt := 96) hx hb dX0_hear_80 (by decide) (fun c_80_13 => ?_) (fun c_80_13 => ?_)
          · refine lv_aload_n hx hb dX0_hear_96 rfl (lv_at hl 1 rfl) ?_
            refine lv_dup hx hb dX0_hear_97 rfl ?_
            refine va_get (D := D) (ci := 1) (v := .int ((tset (tset C 42 g (if ((C 42 g) + 3) < 30 then ((C 42 g) + 3) else 30)) 43 g 1) 41 g)) (C := RX0) (T := TX0) (N := 4) hx hb hts inX0 hown hK (hW.p (e := (eGd ad (tset (tset C 42 g (if ((C 42 g) + 3) < 30 then ((C 42 g) + 3) else 30)) 43 g 1) g)) (Wd_Gd hg)) 0 rfl rfl 1 (by decide) (hts (.fieldLink RX0 51 "StoryToll$Guard" "scenesHeard" "I") (List.mem_of_getElem? (i := 12) rfl)) (fun _ h9 => h9) rfl dX0_hear_98 ?_
            rw [show ((tset (tset C 42 g (if ((C 42 g) + 3) < 30 then ((C 42 g) + 3) else 30)) 43 g 1) 41 g) = (C 41 g) from by rw [tset_of (by decide), tset_of (by decide)]]
            refine lv_iconst (v := 1) hx hb dX0_hear_101 (by decide) ?_
            refine lv_iadd hx hb dX0_hear_102 ?_
            refine g_put (D := D) (ci := 1) (v := .int ((C 41 g) + 1)) (ty := .int) (C := RX0) (T := TX0) (N := 4) (ct' := (Wd G ad N (tset (tset (tset C 42 g (if ((C 42 g) + 3) < 30 then ((C 42 g) + 3) else 30)) 43 g 1) 41 g ((C 41 g) + 1)) M o)) hx hb hts inX0 tyX0 tyX0_ok nmX0 hown hK hW hS (show Wd G ad N (tset (tset C 42 g (if ((C 42 g) + 3) < 30 then ((C 42 g) + 3) else 30)) 43 g 1) M o 4 g = some (eGd ad (tset (tset C 42 g (if ((C 42 g) + 3) < 30 then ((C 42 g) + 3) else 30)) 43 g 1) g) from (Wd_Gd hg)) rfl 1 (by decide) (hts (.fieldLink RX0 51 "StoryToll$Guard" "scenesHeard" "I") (List.mem_of_getElem? (i := 12) rfl)) (fun _ h9 => h9) rfl (by decide +kernel) rfl rfl (Nat.le_of_ble_eq_true rfl) dX0_hear_103 (Wd_f41 hg) (Wd_tk (by decide)) (fun H locs hW hS => ?_)
            exact g_wvret (u := ()) (B := fun _ H => gW D A ad (Wd G ad N (s_X0_hear C g i hu) M o) H) hx hb hr hlk hh hS trivial (show gW D A ad (Wd G ad N (s_X0_hear C g i hu) M o) H from by rw [s_X0_hear, if_neg c_7_1, if_neg c_53_9, if_neg c_68_12, if_pos c_80_13]; exact hW) dX0_hear_106
          · refine lv_aload_n hx hb dX0_hear_83 rfl (lv_at hl 1 rfl) ?_
            refine va_get (D := D) (ci := 1) (v := .ref (ad 7 g)) (C := RX0) (T := TX0) (N := 4) hx hb hts inX0 hown hK (hW.p (e := (eGd ad (tset (tset C 42 g (if ((C 42 g) + 3) < 30 then ((C 42 g) + 3) else 30)) 43 g 1) g)) (Wd_Gd hg)) 0 rfl rfl 0 (by decide) (hts (.fieldLink RX0 9 "StoryToll$Guard" "heard" "[I") (List.mem_of_getElem? (i := 11) rfl)) (fun _ h9 => h9) rfl dX0_hear_84 ?_
            refine lv_aload_n hx hb dX0_hear_87 rfl (lv_at hl 2 rfl) ?_
            refine va_get (D := D) (ci := 3) (v := .int ((tset (tset C 42 g (if ((C 42 g) + 3) < 30 then ((C 42 g) + 3) else 30)) 43 g 1) 30 i)) (C := RX2) (T := TX2) (N := 6) hx hb hts inX2 hown hK (hW.p (e := (eS (tset (tset C 42 g (if ((C 42 g) + 3) < 30 then ((C 42 g) + 3) else 30)) 43 g 1) i)) (Wd_S hi)) 0 rfl rfl 0 (by decide) (hts (.fieldLink RX0 23 "StoryToll$Scene" "number" "I") (List.mem_of_getElem? (i := 10) rfl)) (fun _ h9 => h9) rfl dX0_hear_88 ?_
            rw [show ((tset (tset C 42 g (if ((C 42 g) + 3) < 30 then ((C 42 g) + 3) else 30)) 43 g 1) 30 i) = (C 30 i) from by rw [tset_of (by decide), tset_of (by decide)]]
            refine lv_dup2_11 hx hb dX0_hear_91 rfl rfl ?_
            refine g_ild hx hb hK hW 0 (n := 24) (f := ((tset (tset C 42 g (if ((C 42 g) + 3) < 30 then ((C 42 g) + 3) else 30)) 43 g 1) (100 + g))) (Wd_Hd hg) rfl (k := (C 30 i).toNatClampNeg) (gIn_of (n := 24) (by decide) (gIn_p c_68_12 c_80_13 rfl)).1 (gIn_of (n := 24) (by decide) (gIn_p c_68_12 c_80_13 rfl)).2 (by decide) dX0_hear_92 ?_
            rw [show ((tset (tset C 42 g (if ((C 42 g) + 3) < 30 then ((C 42 g) + 3) else 30)) 43 g 1) (100 + g) (C 30 i).toNatClampNeg) = (C (100 + g) (C 30 i).toNatClampNeg) from by rw [tset_of (by omega), tset_of (by omega)]]
            refine lv_iconst (v := 1) hx hb dX0_hear_93 (by decide) ?_
            refine lv_iadd hx hb dX0_hear_94 ?_
            refine g_istN (ct' := (Wd G ad N (tset (tset (tset C 42 g (if ((C 42 g) + 3) < 30 then ((C 42 g) + 3) else 30)) 43 g 1) (100 + g) (C 30 i).toNatClampNeg ((C (100 + g) (C 30 i).toNatClampNeg) + 1)) M o)) hx hb hK hW hS 0 (n := 24) (f := ((tset (tset C 42 g (if ((C 42 g) + 3) < 30 then ((C 42 g) + 3) else 30)) 43 g 1) (100 + g))) (Wd_Hd hg) rfl (k := (C 30 i).toNatClampNeg) (gIn_of (n := 24) (by decide) (gIn_p c_68_12 c_80_13 rfl)).1 (gIn_of (n := 24) (by decide) (gIn_p c_68_12 c_80_13 rfl)).2 (by decide) dX0_hear_95 (by rw [Wd_Hd hg, tset_row]) (Wd_t7 ⟨by omega, by omega⟩ (by omega)) (fun H locs hW hS => ?_)
            refine lv_aload_n hx hb dX0_hear_96 rfl (lv_at hl 1 rfl) ?_
            refine lv_dup hx hb dX0_hear_97 rfl ?_
            refine va_get (D := D) (ci := 1) (v := .int ((tset (tset (tset C 42 g (if ((C 42 g) + 3) < 30 then ((C 42 g) + 3) else 30)) 43 g 1) (100 + g) (C 30 i).toNatClampNeg ((C (100 + g) (C 30 i).toNatClampNeg) + 1)) 41 g)) (C := RX0) (T := TX0) (N := 4) hx hb hts inX0 hown hK (hW.p (e := (eGd ad (tset (tset (tset C 42 g (if ((C 42 g) + 3) < 30 then ((C 42 g) + 3) else 30)) 43 g 1) (100 + g) (C 30 i).toNatClampNeg ((C (100 + g) (C 30 i).toNatClampNeg) + 1)) g)) (Wd_Gd hg)) 0 rfl rfl 1 (by decide) (hts (.fieldLink RX0 51 "StoryToll$Guard" "scenesHeard" "I") (List.mem_of_getElem? (i := 12) rfl)) (fun _ h9 => h9) rfl dX0_hear_98 ?_
            rw [show ((tset (tset (tset C 42 g (if ((C 42 g) + 3) < 30 then ((C 42 g) + 3) else 30)) 43 g 1) (100 + g) (C 30 i).toNatClampNeg ((C (100 + g) (C 30 i).toNatClampNeg) + 1)) 41 g) = (C 41 g) from by rw [tset_of (by omega), tset_of (by decide), tset_of (by decide)]]
            refine lv_iconst (v := 1) hx hb dX0_hear_101 (by decide) ?_
            refine lv_iadd hx hb dX0_hear_102 ?_
            refine g_put (D := D) (ci := 1) (v := .int ((C 41 g) + 1)) (ty := .int) (C := RX0) (T := TX0) (N := 4) (ct' := (Wd G ad N (tset (tset (tset (tset C 42 g (if ((C 42 g) + 3) < 30 then ((C 42 g) + 3) else 30)) 43 g 1) (100 + g) (C 30 i).toNatClampNeg ((C (100 + g) (C 30 i).toNatClampNeg) + 1)) 41 g ((C 41 g) + 1)) M o)) hx hb hts inX0 tyX0 tyX0_ok nmX0 hown hK hW hS (show Wd G ad N (tset (tset (tset C 42 g (if ((C 42 g) + 3) < 30 then ((C 42 g) + 3) else 30)) 43 g 1) (100 + g) (C 30 i).toNatClampNeg ((C (100 + g) (C 30 i).toNatClampNeg) + 1)) M o 4 g = some (eGd ad (tset (tset (tset C 42 g (if ((C 42 g) + 3) < 30 then ((C 42 g) + 3) else 30)) 43 g 1) (100 + g) (C 30 i).toNatClampNeg ((C (100 + g) (C 30 i).toNatClampNeg) + 1)) g) from (Wd_Gd hg)) rfl 1 (by decide) (hts (.fieldLink RX0 51 "StoryToll$Guard" "scenesHeard" "I") (List.mem_of_getElem? (i := 12) rfl)) (fun _ h9 => h9) rfl (by decide +kernel) rfl rfl (Nat.le_of_ble_eq_true rfl) dX0_hear_103 (Wd_f41 hg) (Wd_tk (by decide)) (fun H locs hW hS => ?_)
            exact g_wvret (u := ()) (B := fun _ H => gW D A ad (Wd G ad N (s_X0_hear C g i hu) M o) H) hx hb hr hlk hh hS trivial (show gW D A ad (Wd G ad N (s_X0_hear C g i hu) M o) H from by rw [s_X0_hear, if_neg c_7_1, if_neg c_53_9, if_neg c_68_12, if_neg c_80_13]; exact hW) dX0_hear_106
theorem IC_if {N : gN} {A B : gT} {P : Prop} {_ : Decidable P} (ha : IC N A) (hb : IC N B) : IC N (if P then A else B) := by
  by_cases h : P
  · rw [if_pos h]; exact ha
  · rw [if_neg h]; exact hb
theorem zo_awake (a b : Int32) : f_X0_isAwakeBehindWatch a b = 0 ∨ f_X0_isAwakeBehindWatch a b = 1 := by
  unfold f_X0_isAwakeBehindWatch
  repeat (first | exact Or.inl rfl | exact Or.inr rfl | split)
theorem IC_X0_hear {N : gN} {C : gT} {g i : Nat} {hu : Int32} (h : IC N C) : IC N (s_X0_hear C g i hu) := by
  unfold s_X0_hear
  repeat' (first | with_reducible exact h | with_reducible refine IC_if ?_ ?_ | with_reducible refine IC_t (by omega) (by omega) ?_)
def s_X0_letWatchGoBy (C : gT) (g : Nat) : gT := (tset (tset C 42 g (f_X0_patienceBehindWatch (C 43 g) (C 42 g))) 43 g (f_X0_isAwakeBehindWatch (C 43 g) (f_X0_patienceBehindWatch (C 43 g) (C 42 g))))
set_option maxHeartbeats 4000000 in
set_option maxRecDepth 100000 in
theorem c_X0_letWatchGoBy (l : Launch) (D : va_G) (G : gG) (A : Nat → Prop) (ad : gAd) (N : gN) (C M : gT) (o : Nat → Int64) (Hp : Heap) (hW : gW D A ad (Wd G ad N C M o) Hp) (g : Nat) (hg : g < N 1) : Met l yX0_letWatchGoBy wsX0_letWatchGoBy ({ frames := 2, cells := 0, slots := 0, locals := 42 }) (va_Pc [.ref (ad 4 g)] (gQ D (gTs G) Hp)) (va_Qv (fun (_ : Unit) => True) (fun _ t => gW D A ad (Wd G ad N (s_X0_letWatchGoBy C g) M o) t.heap) A) 0 0 A := by
  refine g_start (cc := cX0_letWatchGoBy) (maxL := 1) (ret := none) (by decide) rfl (Nat.le_of_ble_eq_true rfl) (fun p e s m below meth c ls C0 hr hlk hnm hh hK hl => ?_)
  obtain ⟨hx, hb, hml, hown, hts⟩ := id C0
  have hown : s.vm.findClass RX0 = some m.cls := hown
  have hS : va_S A Hp Hp [] := va_S.rf
  have hl : lv_has ls 1 [(0, .ref (ad 4 g))] := hl
  have inX0 : ∀ w ∈ wsX00, w ∈ wsX0_letWatchGoBy := by decide +kernel
  refine lv_aload_n hx hb dX0_letWatchGoBy_0 rfl (lv_at hl 0 rfl) ?_
  refine lv_aload_n hx hb dX0_letWatchGoBy_1 rfl (lv_at hl 0 rfl) ?_
  refine va_get (D := D) (ci := 1) (v := .int (C 43 g)) (C := RX0) (T := TX0) (N := 4) hx hb hts inX0 hown hK (hW.p (e := (eGd ad C g)) (Wd_Gd hg)) 0 rfl rfl 3 (by decide) (hts (.fieldLink RX0 19 "StoryToll$Guard" "awake" "Z") (List.mem_of_getElem? (i := 1) rfl)) (fun _ h9 => h9) rfl dX0_letWatchGoBy_2 ?_
  refine lv_aload_n hx hb dX0_letWatchGoBy_5 rfl (lv_at hl 0 rfl) ?_
  refine va_get (D := D) (ci := 1) (v := .int (C 42 g)) (C := RX0) (T := TX0) (N := 4) hx hb hts inX0 hown hK (hW.p (e := (eGd ad C g)) (Wd_Gd hg)) 0 rfl rfl 2 (by decide) (hts (.fieldLink RX0 15 "StoryToll$Guard" "patience" "I") (List.mem_of_getElem? (i := 2) rfl)) (fun _ h9 => h9) rfl dX0_letWatchGoBy_6 ?_
  refine g_Si (As := [.int (C 43 g), .int (C 42 g)]) (rest := [.ref (ad 4 g)]) C0 (c_X0_patienceBehindWatch l D G Hp (C 43 g) (C 42 g)) (va_cwS 2 hts gX0_letWatchGoBy_X0_patienceBehindWatch rfl rfl rfl (by decide +kernel) ⟨Nat.le_of_ble_eq_true rfl, Nat.le_of_ble_eq_true rfl⟩) hK rfl hl rfl (Nat.le_of_ble_eq_true rfl) dX0_letWatchGoBy_9 ⟨Nat.zero_le _, Nat.zero_le _⟩ hS (fun r_1 locs hr_1 hS => ?_)
  subst r_1
  refine g_put (D := D) (ci := 1) (v := .int (f_X0_patienceBehindWatch (C 43 g) (C 42 g))) (ty := .int) (C := RX0) (T := TX0) (N := 4) (ct' := (Wd G ad N (tset C 42 g (f_X0_patienceBehindWatch (C 43 g) (C 42 g))) M o)) hx hb hts inX0 tyX0 tyX0_ok nmX0 hown hK hW hS (show Wd G ad N C M o 4 g = some (eGd ad C g) from (Wd_Gd hg)) rfl 2 (by decide) (hts (.fieldLink RX0 15 "StoryToll$Guard" "patience" "I") (List.mem_of_getElem? (i := 2) rfl)) (fun _ h9 => h9) rfl (by decide +kernel) rfl rfl (Nat.le_of_ble_eq_true rfl) dX0_letWatchGoBy_12 (Wd_f42 hg) (Wd_tk (by decide)) (fun H locs hW hS => ?_)
  refine lv_aload_n hx hb dX0_letWatchGoBy_15 rfl (lv_at hl 0 rfl) ?_
  refine lv_aload_n hx hb dX0_letWatchGoBy_16 rfl (lv_at hl 0 rfl) ?_
  refine va_get (D := D) (ci := 1) (v := .int ((tset C 42 g (f_X0_patienceBehindWatch (C 43 g) (C 42 g))) 43 g)) (C := RX0) (T := TX0) (N := 4) hx hb hts inX0 hown hK (hW.p (e := (eGd ad (tset C 42 g (f_X0_patienceBehindWatch (C 43 g) (C 42 g))) g)) (Wd_Gd hg)) 0 rfl rfl 3 (by decide) (hts (.fieldLink RX0 19 "StoryToll$Guard" "awake" "Z") (List.mem_of_getElem? (i := 1) rfl)) (fun _ h9 => h9) rfl dX0_letWatchGoBy_17 ?_
  rw [show ((tset C 42 g (f_X0_patienceBehindWatch (C 43 g) (C 42 g))) 43 g) = (C 43 g) from by rw [tset_of (by decide)]]
  refine lv_aload_n hx hb dX0_letWatchGoBy_20 rfl (lv_at hl 0 rfl) ?_
  refine va_get (D := D) (ci := 1) (v := .int ((tset C 42 g (f_X0_patienceBehindWatch (C 43 g) (C 42 g))) 42 g)) (C := RX0) (T := TX0) (N := 4) hx hb hts inX0 hown hK (hW.p (e := (eGd ad (tset C 42 g (f_X0_patienceBehindWatch (C 43 g) (C 42 g))) g)) (Wd_Gd hg)) 0 rfl rfl 2 (by decide) (hts (.fieldLink RX0 15 "StoryToll$Guard" "patience" "I") (List.mem_of_getElem? (i := 2) rfl)) (fun _ h9 => h9) rfl dX0_letWatchGoBy_21 ?_
  rw [show ((tset C 42 g (f_X0_patienceBehindWatch (C 43 g) (C 42 g))) 42 g) = (f_X0_patienceBehindWatch (C 43 g) (C 42 g)) from by rw [tset_s]]
  refine g_Si (As := [.int (C 43 g), .int (f_X0_patienceBehindWatch (C 43 g) (C 42 g))]) (rest := [.ref (ad 4 g)]) C0 (c_X0_isAwakeBehindWatch l D G H (C 43 g) (f_X0_patienceBehindWatch (C 43 g) (C 42 g))) (va_cwS 2 hts gX0_letWatchGoBy_X0_isAwakeBehindWatch rfl rfl rfl (by decide +kernel) ⟨Nat.le_of_ble_eq_true rfl, Nat.le_of_ble_eq_true rfl⟩) hK rfl hl rfl (Nat.le_of_ble_eq_true rfl) dX0_letWatchGoBy_24 ⟨Nat.zero_le _, Nat.zero_le _⟩ hS (fun r_2 locs hr_2 hS => ?_)
  subst r_2
  refine g_put (D := D) (ci := 1) (v := .int (f_X0_isAwakeBehindWatch (C 43 g) (f_X0_patienceBehindWatch (C 43 g) (C 42 g)))) (ty := .boolean) (C := RX0) (T := TX0) (N := 4) (ct' := (Wd G ad N (tset (tset C 42 g (f_X0_patienceBehindWatch (C 43 g) (C 42 g))) 43 g (f_X0_isAwakeBehindWatch (C 43 g) (f_X0_patienceBehindWatch (C 43 g) (C 42 g)))) M o)) hx hb hts inX0 tyX0 tyX0_ok nmX0 hown hK hW hS (show Wd G ad N (tset C 42 g (f_X0_patienceBehindWatch (C 43 g) (C 42 g))) M o 4 g = some (eGd ad (tset C 42 g (f_X0_patienceBehindWatch (C 43 g) (C 42 g))) g) from (Wd_Gd hg)) rfl 3 (by decide) (hts (.fieldLink RX0 19 "StoryToll$Guard" "awake" "Z") (List.mem_of_getElem? (i := 1) rfl)) (fun _ h9 => h9) rfl (by decide +kernel) (zb_if _ (zo_awake _ _)).1 (zb_if _ (zo_awake _ _)).2 (Nat.le_of_ble_eq_true rfl) dX0_letWatchGoBy_27 (Wd_f43 hg) (Wd_tk (by decide)) (fun H locs hW hS => ?_)
  exact g_wvret (u := ()) (B := fun _ H => gW D A ad (Wd G ad N (s_X0_letWatchGoBy C g) M o) H) hx hb hr hlk hh hS trivial (show gW D A ad (Wd G ad N (s_X0_letWatchGoBy C g) M o) H from by rw [s_X0_letWatchGoBy]; exact hW) dX0_letWatchGoBy_30
theorem IC_X0_letWatchGoBy {N : gN} {C : gT} {g : Nat} (h : IC N C) : IC N (s_X0_letWatchGoBy C g) := by
  unfold s_X0_letWatchGoBy
  repeat' (first | with_reducible exact h | with_reducible refine IC_if ?_ ?_ | with_reducible refine IC_t (by omega) (by omega) ?_)
def L_lgh (i : Nat) (j : Nat) (acc : gT) : gT := (if (acc 43 j) = 0 then acc else (s_X0_hear acc j i (acc 0 8)))
def s_X4_letGuardsHear (C : gT) (N : gN) (i : Nat) : gT := (tset (gIt (L_lgh i) C (N 1)) 0 8 ((gIt (L_lgh i) C (N 1)) 33 i))
theorem IC_L_lgh {N : gN} {C : gT} {i j : Nat} (h : IC N C) : IC N (L_lgh i j C) := by
  unfold L_lgh
  repeat' (first | with_reducible exact h | with_reducible refine IC_if ?_ ?_ | with_reducible exact IC_X0_hear h)
set_option maxHeartbeats 4000000 in
set_option maxRecDepth 100000 in
theorem c_X4_letGuardsHear (l : Launch) (D : va_G) (G : gG) (A : Nat → Prop) (ad : gAd) (N : gN) (C M : gT) (o : Nat → Int64) (Hp : Heap) (hW : gW D A ad (Wd G ad N C M o) Hp) (hC : IC N C) (i : Nat) (hi : i < N 0) : Met l yX4_letGuardsHear wsX4_letGuardsHear ({ frames := 3, cells := 0, slots := 0, locals := 68 }) (va_Pc [.ref (ad 0 0), .ref (ad 3 i)] (gQ D (gTs G) Hp)) (va_Qv (fun (_ : Unit) => True) (fun _ t => gW D A ad (Wd G ad N (s_X4_letGuardsHear C N i) M o) t.heap) A) 0 0 A := by
  refine g_start (cc := cX4_letGuardsHear) (maxL := 4) (ret := none) (by decide) rfl (Nat.le_of_ble_eq_true rfl) (fun p e s m below meth c ls C0 hr hlk hnm hh hK hl => ?_)
  obtain ⟨hx, hb, hml, hown, hts⟩ := id C0
  have hown : s.vm.findClass RX4 = some m.cls := hown
  have hS : va_S A Hp Hp [] := va_S.rf
  have hl : lv_has ls 4 [(0, .ref (ad 0 0)), (1, .ref (ad 3 i))] := hl
  have inX4 : ∀ w ∈ wsX40, w ∈ wsX4_letGuardsHear := by decide +kernel
  have inX2 : ∀ w ∈ wsX20, w ∈ wsX4_letGuardsHear := by decide +kernel
  have inX0 : ∀ w ∈ wsX00, w ∈ wsX4_letGuardsHear := by decide +kernel
  obtain ⟨⟨hc0, hc1, hc2, hc3⟩, hNN, hCp⟩ := id hC
  have hn0 := hNN 0 (by decide)
  have hn1 := hNN 1 (by decide)
  have hn2 := hNN 2 (by decide)
  have hn3 := hNN 3 (by decide)
  have hC0 := hC
  refine lv_iconst (v := 0) hx hb dX4_letGuardsHear_0 (by decide) ?_
  refine lv_istore_n (lv' := [(2, .int 0), (0, .ref (ad 0 0)), (1, .ref (ad 3 i))]) hx hb dX4_letGuardsHear_1 rfl hl (by decide) rfl (fun ls hl => ?_)
  refine g_loopH (N 1) 0 0 (fun j ls H => lv_has ls 4 [(2, .int (nI j)), (0, .ref (ad 0 0)), (1, .ref (ad 3 i))] ∧ gW D A ad (Wd G ad N (gIt (L_lgh i) C j) M o) H) ⟨lv_sub hl [0, 1, 2] rfl, hW⟩ hS (fun ls H locs hlW hS => ?_) (fun j ls H locs hj hlW hS ih => ?_)
  · obtain ⟨hl, hW⟩ : lv_has ls 4 [(2, .int (nI (N 1))), (0, .ref (ad 0 0)), (1, .ref (ad 3 i))] ∧ gW D A ad (Wd G ad N (gIt (L_lgh i) C (N 1)) M o) H := hlW
    refine W.widen (k := 0) (n := 0) (by omega) (by omega) ?_
    refine lv_iload_n hx hb dX4_letGuardsHear_2 rfl (lv_at hl 0 rfl) ?_
    refine lv_aload_n hx hb dX4_letGuardsHear_3 rfl (lv_at hl 1 rfl) ?_
    refine va_get (D := D) (ci := 5) (v := .ref (ad 1 1)) (C := RX4) (T := TX4) (N := 9) hx hb hts inX4 hown hK (hW.p (e := (eToll ad (gIt (L_lgh i) C (N 1)))) rfl) 0 rfl rfl 1 (by decide) (hts (.fieldLink RX4 16 "StoryToll" "guards" "Ljava/util/ArrayList;") (List.mem_of_getElem? (i := 1) rfl)) (fun _ h9 => h9) rfl dX4_letGuardsHear_4 ?_
    refine g_Vi (As := []) (rest := [.int (nI (N 1))]) C0 (c_Jx4a65c_size_8abf5 l D G A ad N (gIt (L_lgh i) C (N 1)) M o H hW 1 (by decide)) (cwV 0 hts gX4_letGuardsHear_Jx4a65c_size_8abf5 rfl rfl rfl (by decide +kernel) ⟨Nat.le_of_ble_eq_true rfl, Nat.le_of_ble_eq_true rfl⟩) hK (va_recv hK (hW.p (Wd_Li (by omega))) (ci := 0) (q0 := 0) rfl rfl) rfl hl rfl (Nat.le_of_ble_eq_true rfl) dX4_letGuardsHear_7 ⟨Nat.zero_le _, Nat.zero_le _⟩ hS (fun r_1 locs hr_1 hS => ?_)
    replace hr_1 : r_1 = (nI (N 1)) := hr_1
    subst r_1
    refine lv_icmp_ge (tgt := 47) hx hb dX4_letGuardsHear_10 (by decide) (fun c_10_1 => ?_) (fun c_10_1 => ?_)
    · refine lv_aload_n hx hb dX4_letGuardsHear_47 rfl (lv_at hl 1 rfl) ?_
      refine lv_aload_n hx hb dX4_letGuardsHear_48 rfl (lv_at hl 2 rfl) ?_
      refine va_get (D := D) (ci := 3) (v := .int ((gIt (L_lgh i) C (N 1)) 33 i)) (C := RX2) (T := TX2) (N := 6) hx hb hts inX2 hown hK (hW.p (e := (eS (gIt (L_lgh i) C (N 1)) i)) (Wd_S hi)) 0 rfl rfl 3 (by decide) (hts (.fieldLink RX4 266 "StoryToll$Scene" "hue" "I") (List.mem_of_getElem? (i := 5) rfl)) (fun _ h9 => h9) rfl dX4_letGuardsHear_49 ?_
      refine g_put (D := D) (ci := 5) (v := .int ((gIt (L_lgh i) C (N 1)) 33 i)) (ty := .int) (C := RX4) (T := TX4) (N := 9) (ct' := (Wd G ad N (tset (gIt (L_lgh i) C (N 1)) 0 8 ((gIt (L_lgh i) C (N 1)) 33 i)) M o)) hx hb hts inX4 tyX4 tyX4_ok nmX4 hown hK hW hS (show Wd G ad N (gIt (L_lgh i) C (N 1)) M o 0 0 = some (eToll ad (gIt (L_lgh i) C (N 1))) from rfl) rfl 8 (by decide) (hts (.fieldLink RX4 25 "StoryToll" "hueBefore" "I") (List.mem_of_getElem? (i := 4) rfl)) (fun _ h9 => h9) rfl (by decide +kernel) rfl rfl (Nat.le_of_ble_eq_true rfl) dX4_letGuardsHear_52 Wd_c8 Wd_t0 (fun H locs hW hS => ?_)
      exact g_wvret (u := ()) (B := fun _ H => gW D A ad (Wd G ad N (s_X4_letGuardsHear C N i) M o) H) hx hb hr hlk hh hS trivial (show gW D A ad (Wd G ad N (s_X4_letGuardsHear C N i) M o) H from by rw [s_X4_letGuardsHear]; exact hW) dX4_letGuardsHear_55
    · exact absurd (g_le rfl (by omega)) c_10_1
  · obtain ⟨hl, hW⟩ : lv_has ls 4 [(2, .int (nI j)), (0, .ref (ad 0 0)), (1, .ref (ad 3 i))] ∧ gW D A ad (Wd G ad N (gIt (L_lgh i) C j) M o) H := hlW
    refine W.widen (k := 0) (n := 0) (by omega) (by omega) ?_
    have hC := IC_it (f := L_lgh i) (fun j D h => IC_L_lgh (i := i) (j := j) h) hC0 j
    refine lv_iload_n hx hb dX4_letGuardsHear_2 rfl (lv_at hl 0 rfl) ?_
    refine lv_aload_n hx hb dX4_letGuardsHear_3 rfl (lv_at hl 1 rfl) ?_
    refine va_get (D := D) (ci := 5) (v := .ref (ad 1 1)) (C := RX4) (T := TX4) (N := 9) hx hb hts inX4 hown hK (hW.p (e := (eToll ad (gIt (L_lgh i) C j))) rfl) 0 rfl rfl 1 (by decide) (hts (.fieldLink RX4 16 "StoryToll" "guards" "Ljava/util/ArrayList;") (List.mem_of_getElem? (i := 1) rfl)) (fun _ h9 => h9) rfl dX4_letGuardsHear_4 ?_
    refine g_Vi (As := []) (rest := [.int (nI j)]) C0 (c_Jx4a65c_size_8abf5 l D G A ad N (gIt (L_lgh i) C j) M o H hW 1 (by decide)) (cwV 0 hts gX4_letGuardsHear_Jx4a65c_size_8abf5 rfl rfl rfl (by decide +kernel) ⟨Nat.le_of_ble_eq_true rfl, Nat.le_of_ble_eq_true rfl⟩) hK (va_recv hK (hW.p (Wd_Li (by omega))) (ci := 0) (q0 := 0) rfl rfl) rfl hl rfl (Nat.le_of_ble_eq_true rfl) dX4_letGuardsHear_7 ⟨Nat.zero_le _, Nat.zero_le _⟩ hS (fun r_3 locs hr_3 hS => ?_)
    replace hr_3 : r_3 = (nI (N 1)) := hr_3
    subst r_3
    refine lv_icmp_ge (tgt := 47) hx hb dX4_letGuardsHear_10 (by decide) (fun c_10_3 => ?_) (fun c_10_3 => ?_)
    · exact absurd c_10_3 (g_ge rfl (by omega) hj)
    · refine lv_aload_n hx hb dX4_letGuardsHear_13 rfl (lv_at hl 1 rfl) ?_
      refine va_get (D := D) (ci := 5) (v := .ref (ad 1 1)) (C := RX4) (T := TX4) (N := 9) hx hb hts inX4 hown hK (hW.p (e := (eToll ad (gIt (L_lgh i) C j))) rfl) 0 rfl rfl 1 (by decide) (hts (.fieldLink RX4 16 "StoryToll" "guards" "Ljava/util/ArrayList;") (List.mem_of_getElem? (i := 1) rfl)) (fun _ h9 => h9) rfl dX4_letGuardsHear_14 ?_
      refine lv_iload_n hx hb dX4_letGuardsHear_17 rfl (lv_at hl 0 rfl) ?_
      refine g_Vr (As := [.int (nI j)]) (rest := []) C0 (c_Jx4a65c_get_915e3 l D G A ad N (gIt (L_lgh i) C j) M o H hW 1 (by decide) hNN j _ rfl (by omega)) (cwV 1 hts gX4_letGuardsHear_Jx4a65c_get_915e3 rfl rfl rfl (by decide +kernel) ⟨Nat.le_of_ble_eq_true rfl, Nat.le_of_ble_eq_true rfl⟩) hK (va_recv hK (hW.p (Wd_Li (by omega))) (ci := 0) (q0 := 0) rfl rfl) rfl hl rfl (Nat.le_of_ble_eq_true rfl) dX4_letGuardsHear_18 ⟨Nat.zero_le _, Nat.zero_le _⟩ hS (fun r_5 locs hr_5 hS => ?_)
      replace hr_5 : r_5 = ad 4 j := hr_5
      subst r_5
      refine g_cast hx hb hown hK hW (Wd_Gd (by omega)) rfl (hts (.classLink RX4 88 "StoryToll$Guard") (List.mem_of_getElem? (i := 2) rfl)) dX4_letGuardsHear_21 ?_
      refine lv_astore_n (lv' := [(3, .ref (ad 4 j)), (2, .int (nI j)), (0, .ref (ad 0 0)), (1, .ref (ad 3 i))]) hx hb dX4_letGuardsHear_24 rfl hl (by decide) rfl (fun ls hl => ?_)
      refine lv_aload_n hx hb dX4_letGuardsHear_25 rfl (lv_at hl 0 rfl) ?_
      refine va_get (D := D) (ci := 1) (v := .int ((gIt (L_lgh i) C j) 43 j)) (C := RX0) (T := TX0) (N := 4) hx hb hts inX0 hown hK (hW.p (e := (eGd ad (gIt (L_lgh i) C j) j)) (Wd_Gd (by omega))) 0 rfl rfl 3 (by decide) (hts (.fieldLink RX4 252 "StoryToll$Guard" "awake" "Z") (List.mem_of_getElem? (i := 3) rfl)) (fun _ h9 => h9) rfl dX4_letGuardsHear_26 ?_
      refine lv_if_eq (tgt := 41) hx hb dX4_letGuardsHear_29 (by decide) (fun c_29_5 => ?_) (fun c_29_5 => ?_)
      · refine lv_iinc (v := (nI (j + 1))) (lv' := [(2, .int (nI (j + 1))), (3, .ref (ad 4 j)), (0, .ref (ad 0 0)), (1, .ref (ad 3 i))]) hx hb dX4_letGuardsHear_41 hl (k := 1) rfl (nI_1 _) (by decide) rfl (fun ls hl => ?_)
        refine lv_goto (tgt := 2) hx hb dX4_letGuardsHear_44 (by decide) ?_
        have ea : (gIt (L_lgh i) C j) = (gIt (L_lgh i) C (j + 1)) := (show (gIt (L_lgh i) C j) = L_lgh i j (gIt (L_lgh i) C j) from by (rw [L_lgh, if_pos c_29_5]) <;> rfl)
        have hl2 : lv_has ls 4 [(2, .int (nI (j + 1))), (0, .ref (ad 0 0)), (1, .ref (ad 3 i))] ∧ gW D A ad (Wd G ad N (gIt (L_lgh i) C (j + 1)) M o) H := by rw [← ea]; exact ⟨lv_sub hl [0, 2, 3] rfl, hW⟩
        refine W.widen (k := 0 + (j + 1) * 0) (n := 0 + (j + 1) * 0) (by omega) (by omega) ?_
        exact ih ls H locs hl2 hS
      · refine lv_aload_n hx hb dX4_letGuardsHear_32 rfl (lv_at hl 0 rfl) ?_
        refine lv_aload_n hx hb dX4_letGuardsHear_33 rfl (lv_at hl 3 rfl) ?_
        refine lv_aload_n hx hb dX4_letGuardsHear_34 rfl (lv_at hl 2 rfl) ?_
        refine va_get (D := D) (ci := 5) (v := .int ((gIt (L_lgh i) C j) 0 8)) (C := RX4) (T := TX4) (N := 9) hx hb hts inX4 hown hK (hW.p (e := (eToll ad (gIt (L_lgh i) C j))) rfl) 0 rfl rfl 8 (by decide) (hts (.fieldLink RX4 25 "StoryToll" "hueBefore" "I") (List.mem_of_getElem? (i := 4) rfl)) (fun _ h9 => h9) rfl dX4_letGuardsHear_35 ?_
        refine g_wVv (As := [.ref (ad 3 i), .int ((gIt (L_lgh i) C j) 0 8)]) (rest := []) (B := fun (_ : Unit) H => gW D A ad (Wd G ad N (s_X0_hear (gIt (L_lgh i) C j) j i ((gIt (L_lgh i) C j) 0 8)) M o) H) (mc := 0) (ms := 0) C0 (c_X0_hear l D G A ad N (gIt (L_lgh i) C j) M o H hW hC j (by omega) i hi ((gIt (L_lgh i) C j) 0 8)) (cwV 2 hts gX4_letGuardsHear_X0_hear rfl rfl rfl (by decide +kernel) ⟨Nat.le_of_ble_eq_true rfl, Nat.le_of_ble_eq_true rfl⟩) hK (va_recv hK (hW.p (Wd_Gd (by omega))) (ci := 1) (q0 := 0) rfl rfl) rfl hl rfl (Nat.le_of_ble_eq_true rfl) dX4_letGuardsHear_38 ⟨Nat.zero_le _, Nat.zero_le _⟩ hS (fun ur_7 H locs hr_7 hW hzr_7 hS => ?_)
        have hW : gW D A ad (Wd G ad N (s_X0_hear (gIt (L_lgh i) C j) j i ((gIt (L_lgh i) C j) 0 8)) M o) H := hW
        refine lv_iinc (v := (nI (j + 1))) (lv' := [(2, .int (nI (j + 1))), (3, .ref (ad 4 j)), (0, .ref (ad 0 0)), (1, .ref (ad 3 i))]) hx hb dX4_letGuardsHear_41 hl (k := 1) rfl (nI_1 _) (by decide) rfl (fun ls hl => ?_)
        refine lv_goto (tgt := 2) hx hb dX4_letGuardsHear_44 (by decide) ?_
        have ea : (s_X0_hear (gIt (L_lgh i) C j) j i ((gIt (L_lgh i) C j) 0 8)) = (gIt (L_lgh i) C (j + 1)) := (show (s_X0_hear (gIt (L_lgh i) C j) j i ((gIt (L_lgh i) C j) 0 8)) = L_lgh i j (gIt (L_lgh i) C j) from by (rw [L_lgh, if_neg c_29_5]) <;> rfl)
        have hl2 : lv_has ls 4 [(2, .int (nI (j + 1))), (0, .ref (ad 0 0)), (1, .ref (ad 3 i))] ∧ gW D A ad (Wd G ad N (gIt (L_lgh i) C (j + 1)) M o) H := by rw [← ea]; exact ⟨lv_sub hl [0, 2, 3] rfl, hW⟩
        refine W.widen (k := 0 + (j + 1) * 0) (n := 0 + (j + 1) * 0) (by omega) (by omega) ?_
        exact ih ls H locs hl2 hS
theorem IC_X4_letGuardsHear {N : gN} {C : gT} {i : Nat} (h : IC N C) : IC N (s_X4_letGuardsHear C N i) := by
  unfold s_X4_letGuardsHear
  exact IC_t (by omega) (by omega) (IC_it (fun j D h => IC_L_lgh h) h _)
def L_cd4 (C : gT) (j : Nat) (acc : Int64) : Int64 := (f_X1_addedTo C j acc)
def L_cd3w (C : gT) (N : gN) (i : Nat) (k2 : Nat) (acc : Int64) : Int64 := ((acc * 31) + (f_X4_answerOfTraveller C N i (nI k2)).toInt64)
def L_cd3 (C : gT) (N : gN) (j : Nat) (acc : Int64) : Int64 := (gIt (L_cd3w C N j) acc 5)
def L_cd2w (C : gT) (i : Nat) (k2 : Nat) (acc : Int64) : Int64 := ((acc * 31) + (f_X0_answer C i (nI k2)).toInt64)
def L_cd2 (C : gT) (j : Nat) (acc : Int64) : Int64 := (gIt (L_cd2w C j) acc 3)
def L_cd1w (C : gT) (i : Nat) (k2 : Nat) (acc : Int64) : Int64 := ((acc * 31) + (f_X2_answer C i (nI k2)).toInt64)
def L_cd1 (C : gT) (j : Nat) (acc : Int64) : Int64 := (gIt (L_cd1w C j) acc 5)
def L_cd0 (C : gT) (N : gN) (j : Nat) (acc : Int64) : Int64 := ((acc * 31) + (f_X4_answerOfGate C N (nI j)).toInt64)
def f_X4_digest (C : gT) (N : gN) : Int64 := (gIt (L_cd4 C) (gIt (L_cd3 C N) (gIt (L_cd2 C) (gIt (L_cd1 C) (gIt (L_cd0 C N) 839 11) (N 0)) (N 1)) (N 2)) (N 3))
set_option maxHeartbeats 4000000 in
set_option maxRecDepth 100000 in
theorem c_X4_digest (l : Launch) (D : va_G) (G : gG) (A : Nat → Prop) (ad : gAd) (N : gN) (C M : gT) (o : Nat → Int64) (Hp : Heap) (hW : gW D A ad (Wd G ad N C M o) Hp) (hC : IC N C)  : Met l yX4_digest wsX4_digest ({ frames := 5, cells := 0, slots := 0, locals := 109 }) (va_Pc [.ref (ad 0 0)] (gQ D (gTs G) Hp)) (gRl (fun r => r = f_X4_digest C N) Hp) 0 0 gF := by
  refine g_start (cc := cX4_digest) (maxL := 5) (ret := (some .long)) (by decide) rfl (Nat.le_of_ble_eq_true rfl) (fun p e s m below meth c ls C0 hr hlk hnm hh hK hl => ?_)
  obtain ⟨hx, hb, hml, hown, hts⟩ := id C0
  have hown : s.vm.findClass RX4 = some m.cls := hown
  have hS : va_S gF Hp Hp [] := va_S.rf
  have hl : lv_has ls 5 [(0, .ref (ad 0 0))] := hl
  have inX4 : ∀ w ∈ wsX40, w ∈ wsX4_digest := by decide +kernel
  obtain ⟨⟨hc0, hc1, hc2, hc3⟩, hNN, hCp⟩ := id hC
  have hn0 := hNN 0 (by decide)
  have hn1 := hNN 1 (by decide)
  have hn2 := hNN 2 (by decide)
  have hn3 := hNN 3 (by decide)
  refine lv_ldc2 (v := 839) hx hb hown (hts (.constantLong RX4 237 (839)) (List.mem_of_getElem? (i := 1) rfl)) dX4_digest_0 ?_
  refine lv_lstore_n (lv' := [(1, .long 839), (0, .ref (ad 0 0))]) hx hb dX4_digest_3 rfl hl (by decide) rfl (fun ls hl => ?_)
  refine lv_iconst (v := 0) hx hb dX4_digest_4 (by decide) ?_
  refine lv_istore_n (lv' := [(3, .int 0), (1, .long 839), (0, .ref (ad 0 0))]) hx hb dX4_digest_5 rfl hl (by decide) rfl (fun ls hl => ?_)
  refine g_loop (11) (fun j ls => lv_has ls 5 [(3, .int (nI j)), (1, .long (gIt (L_cd0 C N) 839 j)), (0, .ref (ad 0 0))]) (lv_sub hl [0, 1, 2] rfl) hS (fun ls locs hl hS => ?_) (fun j ls locs hj hl hS ih => ?_)
  · have hl : lv_has ls 5 [(3, .int (nI 11)), (1, .long (gIt (L_cd0 C N) 839 11)), (0, .ref (ad 0 0))] := hl
    refine lv_iload_n hx hb dX4_digest_6 rfl (lv_at hl 0 rfl) ?_
    refine lv_bipush (v := 10) hx hb dX4_digest_7 (by decide) ?_
    refine lv_icmp_gt (tgt := 31) hx hb dX4_digest_9 (by decide) (fun c_9_0 => ?_) (fun c_9_0 => ?_)
    · refine lv_iconst (v := 0) hx hb dX4_digest_31 (by decide) ?_
      refine lv_istore_n (lv' := [(3, .int 0), (1, .long (gIt (L_cd0 C N) 839 11)), (0, .ref (ad 0 0))]) hx hb dX4_digest_32 rfl hl (by decide) rfl (fun ls hl => ?_)
      refine g_loop (N 0) (fun j ls => lv_has ls 5 [(3, .int (nI j)), (1, .long (gIt (L_cd1 C) (gIt (L_cd0 C N) 839 11) j)), (0, .ref (ad 0 0))]) (lv_sub hl [0, 1, 2] rfl) hS (fun ls locs hl hS => ?_) (fun j ls locs hj hl hS ih => ?_)
      · have hl : lv_has ls 5 [(3, .int (nI (N 0))), (1, .long (gIt (L_cd1 C) (gIt (L_cd0 C N) 839 11) (N 0))), (0, .ref (ad 0 0))] := hl
        refine lv_iload_n hx hb dX4_digest_33 rfl (lv_at hl 0 rfl) ?_
        refine lv_aload_n hx hb dX4_digest_34 rfl (lv_at hl 2 rfl) ?_
        refine va_get (D := D) (ci := 5) (v := .ref (ad 1 0)) (C := RX4) (T := TX4) (N := 9) hx hb hts inX4 hown hK (hW.p (e := (eToll ad C)) rfl) 0 rfl rfl 0 (by decide) (hts (.fieldLink RX4 10 "StoryToll" "scenes" "Ljava/util/ArrayList;") (List.mem_of_getElem? (i := 3) rfl)) (fun _ h9 => h9) rfl dX4_digest_35 ?_
        refine g_Vi (As := []) (rest := [.int (nI (N 0))]) C0 (c_Jx4a65c_size_8abf5 l D G A ad N C M o Hp hW 0 (by decide)) (cwV 0 hts gX4_digest_Jx4a65c_size_8abf5 rfl rfl rfl (by decide +kernel) ⟨Nat.le_of_ble_eq_true rfl, Nat.le_of_ble_eq_true rfl⟩) hK (va_recv hK (hW.p (Wd_Li (by omega))) (ci := 0) (q0 := 0) rfl rfl) rfl hl rfl (Nat.le_of_ble_eq_true rfl) dX4_digest_38 ⟨Nat.zero_le _, Nat.zero_le _⟩ hS (fun r_2 locs hr_2 hS => ?_)
        replace hr_2 : r_2 = (nI (N 0)) := hr_2
        subst r_2
        refine lv_icmp_ge (tgt := 89) hx hb dX4_digest_41 (by decide) (fun c_41_2 => ?_) (fun c_41_2 => ?_)
        · refine lv_iconst (v := 0) hx hb dX4_digest_89 (by decide) ?_
          refine lv_istore_n (lv' := [(3, .int 0), (1, .long (gIt (L_cd1 C) (gIt (L_cd0 C N) 839 11) (N 0))), (0, .ref (ad 0 0))]) hx hb dX4_digest_90 rfl hl (by decide) rfl (fun ls hl => ?_)
          refine g_loop (N 1) (fun j ls => lv_has ls 5 [(3, .int (nI j)), (1, .long (gIt (L_cd2 C) (gIt (L_cd1 C) (gIt (L_cd0 C N) 839 11) (N 0)) j)), (0, .ref (ad 0 0))]) (lv_sub hl [0, 1, 2] rfl) hS (fun ls locs hl hS => ?_) (fun j ls locs hj hl hS ih => ?_)
          · have hl : lv_has ls 5 [(3, .int (nI (N 1))), (1, .long (gIt (L_cd2 C) (gIt (L_cd1 C) (gIt (L_cd0 C N) 839 11) (N 0)) (N 1))), (0, .ref (ad 0 0))] := hl
            refine lv_iload_n hx hb dX4_digest_91 rfl (lv_at hl 0 rfl) ?_
            refine lv_aload_n hx hb dX4_digest_92 rfl (lv_at hl 2 rfl) ?_
            refine va_get (D := D) (ci := 5) (v := .ref (ad 1 1)) (C := RX4) (T := TX4) (N := 9) hx hb hts inX4 hown hK (hW.p (e := (eToll ad C)) rfl) 0 rfl rfl 1 (by decide) (hts (.fieldLink RX4 16 "StoryToll" "guards" "Ljava/util/ArrayList;") (List.mem_of_getElem? (i := 5) rfl)) (fun _ h9 => h9) rfl dX4_digest_93 ?_
            refine g_Vi (As := []) (rest := [.int (nI (N 1))]) C0 (c_Jx4a65c_size_8abf5 l D G A ad N C M o Hp hW 1 (by decide)) (cwV 0 hts gX4_digest_Jx4a65c_size_8abf5 rfl rfl rfl (by decide +kernel) ⟨Nat.le_of_ble_eq_true rfl, Nat.le_of_ble_eq_true rfl⟩) hK (va_recv hK (hW.p (Wd_Li (by omega))) (ci := 0) (q0 := 0) rfl rfl) rfl hl rfl (Nat.le_of_ble_eq_true rfl) dX4_digest_96 ⟨Nat.zero_le _, Nat.zero_le _⟩ hS (fun r_4 locs hr_4 hS => ?_)
            replace hr_4 : r_4 = (nI (N 1)) := hr_4
            subst r_4
            refine lv_icmp_ge (tgt := 147) hx hb dX4_digest_99 (by decide) (fun c_99_4 => ?_) (fun c_99_4 => ?_)
            · refine lv_iconst (v := 0) hx hb dX4_digest_147 (by decide) ?_
              refine lv_istore_n (lv' := [(3, .int 0), (1, .long (gIt (L_cd2 C) (gIt (L_cd1 C) (gIt (L_cd0 C N) 839 11) (N 0)) (N 1))), (0, .ref (ad 0 0))]) hx hb dX4_digest_148 rfl hl (by decide) rfl (fun ls hl => ?_)
              refine g_loop (N 2) (fun j ls => lv_has ls 5 [(3, .int (nI j)), (1, .long (gIt (L_cd3 C N) (gIt (L_cd2 C) (gIt (L_cd1 C) (gIt (L_cd0 C N) 839 11) (N 0)) (N 1)) j)), (0, .ref (ad 0 0))]) (lv_sub hl [0, 1, 2] rfl) hS (fun ls locs hl hS => ?_) (fun j ls locs hj hl hS ih => ?_)
              · have hl : lv_has ls 5 [(3, .int (nI (N 2))), (1, .long (gIt (L_cd3 C N) (gIt (L_cd2 C) (gIt (L_cd1 C) (gIt (L_cd0 C N) 839 11) (N 0)) (N 1)) (N 2))), (0, .ref (ad 0 0))] := hl
                refine lv_iload_n hx hb dX4_digest_149 rfl (lv_at hl 0 rfl) ?_
                refine lv_aload_n hx hb dX4_digest_150 rfl (lv_at hl 2 rfl) ?_
                refine va_get (D := D) (ci := 5) (v := .ref (ad 1 2)) (C := RX4) (T := TX4) (N := 9) hx hb hts inX4 hown hK (hW.p (e := (eToll ad C)) rfl) 0 rfl rfl 2 (by decide) (hts (.fieldLink RX4 19 "StoryToll" "travellers" "Ljava/util/ArrayList;") (List.mem_of_getElem? (i := 7) rfl)) (fun _ h9 => h9) rfl dX4_digest_151 ?_
                refine g_Vi (As := []) (rest := [.int (nI (N 2))]) C0 (c_Jx4a65c_size_8abf5 l D G A ad N C M o Hp hW 2 (by decide)) (cwV 0 hts gX4_digest_Jx4a65c_size_8abf5 rfl rfl rfl (by decide +kernel) ⟨Nat.le_of_ble_eq_true rfl, Nat.le_of_ble_eq_true rfl⟩) hK (va_recv hK (hW.p (Wd_Li (by omega))) (ci := 0) (q0 := 0) rfl rfl) rfl hl rfl (Nat.le_of_ble_eq_true rfl) dX4_digest_154 ⟨Nat.zero_le _, Nat.zero_le _⟩ hS (fun r_6 locs hr_6 hS => ?_)
                replace hr_6 : r_6 = (nI (N 2)) := hr_6
                subst r_6
                refine lv_icmp_ge (tgt := 206) hx hb dX4_digest_157 (by decide) (fun c_157_6 => ?_) (fun c_157_6 => ?_)
                · refine lv_iconst (v := 0) hx hb dX4_digest_206 (by decide) ?_
                  refine lv_istore_n (lv' := [(3, .int 0), (1, .long (gIt (L_cd3 C N) (gIt (L_cd2 C) (gIt (L_cd1 C) (gIt (L_cd0 C N) 839 11) (N 0)) (N 1)) (N 2))), (0, .ref (ad 0 0))]) hx hb dX4_digest_207 rfl hl (by decide) rfl (fun ls hl => ?_)
                  refine g_loop (N 3) (fun j ls => lv_has ls 5 [(3, .int (nI j)), (1, .long (gIt (L_cd4 C) (gIt (L_cd3 C N) (gIt (L_cd2 C) (gIt (L_cd1 C) (gIt (L_cd0 C N) 839 11) (N 0)) (N 1)) (N 2)) j)), (0, .ref (ad 0 0))]) (lv_sub hl [0, 1, 2] rfl) hS (fun ls locs hl hS => ?_) (fun j ls locs hj hl hS ih => ?_)
                  · have hl : lv_has ls 5 [(3, .int (nI (N 3))), (1, .long (gIt (L_cd4 C) (gIt (L_cd3 C N) (gIt (L_cd2 C) (gIt (L_cd1 C) (gIt (L_cd0 C N) 839 11) (N 0)) (N 1)) (N 2)) (N 3))), (0, .ref (ad 0 0))] := hl
                    refine lv_iload_n hx hb dX4_digest_208 rfl (lv_at hl 0 rfl) ?_
                    refine lv_aload_n hx hb dX4_digest_209 rfl (lv_at hl 2 rfl) ?_
                    refine va_get (D := D) (ci := 5) (v := .ref (ad 1 3)) (C := RX4) (T := TX4) (N := 9) hx hb hts inX4 hown hK (hW.p (e := (eToll ad C)) rfl) 0 rfl rfl 3 (by decide) (hts (.fieldLink RX4 22 "StoryToll" "plots" "Ljava/util/ArrayList;") (List.mem_of_getElem? (i := 9) rfl)) (fun _ h9 => h9) rfl dX4_digest_210 ?_
                    refine g_Vi (As := []) (rest := [.int (nI (N 3))]) C0 (c_Jx4a65c_size_8abf5 l D G A ad N C M o Hp hW 3 (by decide)) (cwV 0 hts gX4_digest_Jx4a65c_size_8abf5 rfl rfl rfl (by decide +kernel) ⟨Nat.le_of_ble_eq_true rfl, Nat.le_of_ble_eq_true rfl⟩) hK (va_recv hK (hW.p (Wd_Li (by omega))) (ci := 0) (q0 := 0) rfl rfl) rfl hl rfl (Nat.le_of_ble_eq_true rfl) dX4_digest_213 ⟨Nat.zero_le _, Nat.zero_le _⟩ hS (fun r_8 locs hr_8 hS => ?_)
                    replace hr_8 : r_8 = (nI (N 3)) := hr_8
                    subst r_8
                    refine lv_icmp_ge (tgt := 241) hx hb dX4_digest_216 (by decide) (fun c_216_8 => ?_) (fun c_216_8 => ?_)
                    · refine lv_lload_n hx hb dX4_digest_241 rfl (lv_at hl 1 rfl) ?_
                      exact g_lret hx hb hr hlk hh hS (show (gIt (L_cd4 C) (gIt (L_cd3 C N) (gIt (L_cd2 C) (gIt (L_cd1 C) (gIt (L_cd0 C N) 839 11) (N 0)) (N 1)) (N 2)) (N 3)) = f_X4_digest C N from by rw [f_X4_digest]) dX4_digest_242
                    · exact absurd (g_le rfl (by omega)) c_216_8
                  · have hl : lv_has ls 5 [(3, .int (nI j)), (1, .long (gIt (L_cd4 C) (gIt (L_cd3 C N) (gIt (L_cd2 C) (gIt (L_cd1 C) (gIt (L_cd0 C N) 839 11) (N 0)) (N 1)) (N 2)) j)), (0, .ref (ad 0 0))] := hl
                    refine lv_iload_n hx hb dX4_digest_208 rfl (lv_at hl 0 rfl) ?_
                    refine lv_aload_n hx hb dX4_digest_209 rfl (lv_at hl 2 rfl) ?_
                    refine va_get (D := D) (ci := 5) (v := .ref (ad 1 3)) (C := RX4) (T := TX4) (N := 9) hx hb hts inX4 hown hK (hW.p (e := (eToll ad C)) rfl) 0 rfl rfl 3 (by decide) (hts (.fieldLink RX4 22 "StoryToll" "plots" "Ljava/util/ArrayList;") (List.mem_of_getElem? (i := 9) rfl)) (fun _ h9 => h9) rfl dX4_digest_210 ?_
                    refine g_Vi (As := []) (rest := [.int (nI j)]) C0 (c_Jx4a65c_size_8abf5 l D G A ad N C M o Hp hW 3 (by decide)) (cwV 0 hts gX4_digest_Jx4a65c_size_8abf5 rfl rfl rfl (by decide +kernel) ⟨Nat.le_of_ble_eq_true rfl, Nat.le_of_ble_eq_true rfl⟩) hK (va_recv hK (hW.p (Wd_Li (by omega))) (ci := 0) (q0 := 0) rfl rfl) rfl hl rfl (Nat.le_of_ble_eq_true rfl) dX4_digest_213 ⟨Nat.zero_le _, Nat.zero_le _⟩ hS (fun r_10 locs hr_10 hS => ?_)
                    replace hr_10 : r_10 = (nI (N 3)) := hr_10
                    subst r_10
                    refine lv_icmp_ge (tgt := 241) hx hb dX4_digest_216 (by decide) (fun c_216_10 => ?_) (fun c_216_10 => ?_)
                    · exact absurd c_216_10 (g_ge rfl (by omega) hj)
                    · refine lv_aload_n hx hb dX4_digest_219 rfl (lv_at hl 2 rfl) ?_
                      refine va_get (D := D) (ci := 5) (v := .ref (ad 1 3)) (C := RX4) (T := TX4) (N := 9) hx hb hts inX4 hown hK (hW.p (e := (eToll ad C)) rfl) 0 rfl rfl 3 (by decide) (hts (.fieldLink RX4 22 "StoryToll" "plots" "Ljava/util/ArrayList;") (List.mem_of_getElem? (i := 9) rfl)) (fun _ h9 => h9) rfl dX4_digest_220 ?_
                      refine lv_iload_n hx hb dX4_digest_223 rfl (lv_at hl 0 rfl) ?_
                      refine g_Vr (As := [.int (nI j)]) (rest := []) C0 (c_Jx4a65c_get_915e3 l D G A ad N C M o Hp hW 3 (by decide) hNN j _ rfl (by omega)) (cwV 1 hts gX4_digest_Jx4a65c_get_915e3 rfl rfl rfl (by decide +kernel) ⟨Nat.le_of_ble_eq_true rfl, Nat.le_of_ble_eq_true rfl⟩) hK (va_recv hK (hW.p (Wd_Li (by omega))) (ci := 0) (q0 := 0) rfl rfl) rfl hl rfl (Nat.le_of_ble_eq_true rfl) dX4_digest_224 ⟨Nat.zero_le _, Nat.zero_le _⟩ hS (fun r_12 locs hr_12 hS => ?_)
                      replace hr_12 : r_12 = ad 6 j := hr_12
                      subst r_12
                      refine g_cast hx hb hown hK hW (Wd_Pl (by omega)) rfl (hts (.classLink RX4 118 "StoryToll$Plot") (List.mem_of_getElem? (i := 10) rfl)) dX4_digest_227 ?_
                      refine lv_lload_n hx hb dX4_digest_230 rfl (lv_at hl 1 rfl) ?_
                      refine g_Vl (As := [.long (gIt (L_cd4 C) (gIt (L_cd3 C N) (gIt (L_cd2 C) (gIt (L_cd1 C) (gIt (L_cd0 C N) 839 11) (N 0)) (N 1)) (N 2)) j)]) (rest := []) C0 (c_X1_addedTo l D G A ad N C M o Hp hW hC j (by omega) (gIt (L_cd4 C) (gIt (L_cd3 C N) (gIt (L_cd2 C) (gIt (L_cd1 C) (gIt (L_cd0 C N) 839 11) (N 0)) (N 1)) (N 2)) j)) (cwV 1 hts gX4_digest_X1_addedTo rfl rfl rfl (by decide +kernel) ⟨Nat.le_of_ble_eq_true rfl, Nat.le_of_ble_eq_true rfl⟩) hK (va_recv hK (hW.p (Wd_Pl (by omega))) (ci := 2) (q0 := 0) rfl rfl) rfl hl rfl (Nat.le_of_ble_eq_true rfl) dX4_digest_231 ⟨Nat.zero_le _, Nat.zero_le _⟩ hS (fun r_13 locs hr_13 hS => ?_)
                      replace hr_13 : r_13 = (f_X1_addedTo C j (gIt (L_cd4 C) (gIt (L_cd3 C N) (gIt (L_cd2 C) (gIt (L_cd1 C) (gIt (L_cd0 C N) 839 11) (N 0)) (N 1)) (N 2)) j)) := hr_13
                      subst r_13
                      refine lv_lstore_n (lv' := [(1, .long (f_X1_addedTo C j (gIt (L_cd4 C) (gIt (L_cd3 C N) (gIt (L_cd2 C) (gIt (L_cd1 C) (gIt (L_cd0 C N) 839 11) (N 0)) (N 1)) (N 2)) j))), (3, .int (nI j)), (0, .ref (ad 0 0))]) hx hb dX4_digest_234 rfl hl (by decide) rfl (fun ls hl => ?_)
                      refine lv_iinc (v := (nI (j + 1))) (lv' := [(3, .int (nI (j + 1))), (1, .long (f_X1_addedTo C j (gIt (L_cd4 C) (gIt (L_cd3 C N) (gIt (L_cd2 C) (gIt (L_cd1 C) (gIt (L_cd0 C N) 839 11) (N 0)) (N 1)) (N 2)) j))), (0, .ref (ad 0 0))]) hx hb dX4_digest_235 hl (k := 1) rfl (nI_1 _) (by decide) rfl (fun ls hl => ?_)
                      refine lv_goto (tgt := 208) hx hb dX4_digest_238 (by decide) ?_
                      have ea : (f_X1_addedTo C j (gIt (L_cd4 C) (gIt (L_cd3 C N) (gIt (L_cd2 C) (gIt (L_cd1 C) (gIt (L_cd0 C N) 839 11) (N 0)) (N 1)) (N 2)) j)) = (gIt (L_cd4 C) (gIt (L_cd3 C N) (gIt (L_cd2 C) (gIt (L_cd1 C) (gIt (L_cd0 C N) 839 11) (N 0)) (N 1)) (N 2)) (j + 1)) := (show (f_X1_addedTo C j (gIt (L_cd4 C) (gIt (L_cd3 C N) (gIt (L_cd2 C) (gIt (L_cd1 C) (gIt (L_cd0 C N) 839 11) (N 0)) (N 1)) (N 2)) j)) = L_cd4 C j (gIt (L_cd4 C) (gIt (L_cd3 C N) (gIt (L_cd2 C) (gIt (L_cd1 C) (gIt (L_cd0 C N) 839 11) (N 0)) (N 1)) (N 2)) j) from by (rw [L_cd4]) <;> rfl)
                      have hl2 : lv_has ls 5 [(3, .int (nI (j + 1))), (1, .long (gIt (L_cd4 C) (gIt (L_cd3 C N) (gIt (L_cd2 C) (gIt (L_cd1 C) (gIt (L_cd0 C N) 839 11) (N 0)) (N 1)) (N 2)) (j + 1))), (0, .ref (ad 0 0))] := by rw [← ea]; exact lv_sub hl [0, 1, 2] rfl
                      exact ih ls locs hl2 hS
                · exact absurd (g_le rfl (by omega)) c_157_6
              · have hl : lv_has ls 5 [(3, .int (nI j)), (1, .long (gIt (L_cd3 C N) (gIt (L_cd2 C) (gIt (L_cd1 C) (gIt (L_cd0 C N) 839 11) (N 0)) (N 1)) j)), (0, .ref (ad 0 0))] := hl
                refine lv_iload_n hx hb dX4_digest_149 rfl (lv_at hl 0 rfl) ?_
                refine lv_aload_n hx hb dX4_digest_150 rfl (lv_at hl 2 rfl) ?_
                refine va_get (D := D) (ci := 5) (v := .ref (ad 1 2)) (C := RX4) (T := TX4) (N := 9) hx hb hts inX4 hown hK (hW.p (e := (eToll ad C)) rfl) 0 rfl rfl 2 (by decide) (hts (.fieldLink RX4 19 "StoryToll" "travellers" "Ljava/util/ArrayList;") (List.mem_of_getElem? (i := 7) rfl)) (fun _ h9 => h9) rfl dX4_digest_151 ?_
                refine g_Vi (As := []) (rest := [.int (nI j)]) C0 (c_Jx4a65c_size_8abf5 l D G A ad N C M o Hp hW 2 (by decide)) (cwV 0 hts gX4_digest_Jx4a65c_size_8abf5 rfl rfl rfl (by decide +kernel) ⟨Nat.le_of_ble_eq_true rfl, Nat.le_of_ble_eq_true rfl⟩) hK (va_recv hK (hW.p (Wd_Li (by omega))) (ci := 0) (q0 := 0) rfl rfl) rfl hl rfl (Nat.le_of_ble_eq_true rfl) dX4_digest_154 ⟨Nat.zero_le _, Nat.zero_le _⟩ hS (fun r_14 locs hr_14 hS => ?_)
                replace hr_14 : r_14 = (nI (N 2)) := hr_14
                subst r_14
                refine lv_icmp_ge (tgt := 206) hx hb dX4_digest_157 (by decide) (fun c_157_14 => ?_) (fun c_157_14 => ?_)
                · exact absurd c_157_14 (g_ge rfl (by omega) hj)
                · refine lv_iconst (v := 0) hx hb dX4_digest_160 (by decide) ?_
                  refine lv_istore (lv' := [(4, .int 0), (3, .int (nI j)), (1, .long (gIt (L_cd3 C N) (gIt (L_cd2 C) (gIt (L_cd1 C) (gIt (L_cd0 C N) 839 11) (N 0)) (N 1)) j)), (0, .ref (ad 0 0))]) hx hb dX4_digest_161 hl (by decide) rfl (fun ls hl => ?_)
                  refine g_loop (5) (fun k2 ls => lv_has ls 5 [(4, .int (nI k2)), (3, .int (nI j)), (1, .long (gIt (L_cd3w C N j) (gIt (L_cd3 C N) (gIt (L_cd2 C) (gIt (L_cd1 C) (gIt (L_cd0 C N) 839 11) (N 0)) (N 1)) j) k2)), (0, .ref (ad 0 0))]) (lv_sub hl [0, 1, 2, 3] rfl) hS (fun ls locs hl hS => ?_) (fun k2 ls locs hk2 hl hS ih => ?_)
                  · have hl : lv_has ls 5 [(4, .int (nI 5)), (3, .int (nI j)), (1, .long (gIt (L_cd3w C N j) (gIt (L_cd3 C N) (gIt (L_cd2 C) (gIt (L_cd1 C) (gIt (L_cd0 C N) 839 11) (N 0)) (N 1)) j) 5)), (0, .ref (ad 0 0))] := hl
                    refine lv_iload hx hb dX4_digest_163 (lv_at hl 0 rfl) ?_
                    refine lv_iconst (v := 4) hx hb dX4_digest_165 (by decide) ?_
                    refine lv_icmp_gt (tgt := 200) hx hb dX4_digest_166 (by decide) (fun c_166_15 => ?_) (fun c_166_15 => ?_)
                    · refine lv_iinc (v := (nI (j + 1))) (lv' := [(3, .int (nI (j + 1))), (4, .int (nI 5)), (1, .long (gIt (L_cd3w C N j) (gIt (L_cd3 C N) (gIt (L_cd2 C) (gIt (L_cd1 C) (gIt (L_cd0 C N) 839 11) (N 0)) (N 1)) j) 5)), (0, .ref (ad 0 0))]) hx hb dX4_digest_200 hl (k := 1) rfl (nI_1 _) (by decide) rfl (fun ls hl => ?_)
                      refine lv_goto (tgt := 149) hx hb dX4_digest_203 (by decide) ?_
                      have ea : (gIt (L_cd3w C N j) (gIt (L_cd3 C N) (gIt (L_cd2 C) (gIt (L_cd1 C) (gIt (L_cd0 C N) 839 11) (N 0)) (N 1)) j) 5) = (gIt (L_cd3 C N) (gIt (L_cd2 C) (gIt (L_cd1 C) (gIt (L_cd0 C N) 839 11) (N 0)) (N 1)) (j + 1)) := (show (gIt (L_cd3w C N j) (gIt (L_cd3 C N) (gIt (L_cd2 C) (gIt (L_cd1 C) (gIt (L_cd0 C N) 839 11) (N 0)) (N 1)) j) 5) = L_cd3 C N j (gIt (L_cd3 C N) (gIt (L_cd2 C) (gIt (L_cd1 C) (gIt (L_cd0 C N) 839 11) (N 0)) (N 1)) j) from by (rw [L_cd3]) <;> rfl)
                      have hl2 : lv_has ls 5 [(3, .int (nI (j + 1))), (1, .long (gIt (L_cd3 C N) (gIt (L_cd2 C) (gIt (L_cd1 C) (gIt (L_cd0 C N) 839 11) (N 0)) (N 1)) (j + 1))), (0, .ref (ad 0 0))] := by rw [← ea]; exact lv_sub hl [0, 2, 3] rfl
                      exact ih ls locs hl2 hS
                    · exact absurd (g_gtx (n := 4) rfl (by decide)) c_166_15
                  · have hl : lv_has ls 5 [(4, .int (nI k2)), (3, .int (nI j)), (1, .long (gIt (L_cd3w C N j) (gIt (L_cd3 C N) (gIt (L_cd2 C) (gIt (L_cd1 C) (gIt (L_cd0 C N) 839 11) (N 0)) (N 1)) j) k2)), (0, .ref (ad 0 0))] := hl
                    refine lv_iload hx hb dX4_digest_163 (lv_at hl 0 rfl) ?_
                    refine lv_iconst (v := 4) hx hb dX4_digest_165 (by decide) ?_
                    refine lv_icmp_gt (tgt := 200) hx hb dX4_digest_166 (by decide) (fun c_166_16 => ?_) (fun c_166_16 => ?_)
                    · exact absurd c_166_16 (g_gtj (n := 4) rfl hk2 (by decide))
                    · refine lv_lload_n hx hb dX4_digest_169 rfl (lv_at hl 2 rfl) ?_
                      refine lv_ldc2 (v := 31) hx hb hown (hts (.constantLong RX4 239 (31)) (List.mem_of_getElem? (i := 2) rfl)) dX4_digest_170 ?_
                      refine lv_lmul hx hb dX4_digest_173 ?_
                      refine lv_aload_n hx hb dX4_digest_174 rfl (lv_at hl 3 rfl) ?_
                      refine lv_aload_n hx hb dX4_digest_175 rfl (lv_at hl 3 rfl) ?_
                      refine va_get (D := D) (ci := 5) (v := .ref (ad 1 2)) (C := RX4) (T := TX4) (N := 9) hx hb hts inX4 hown hK (hW.p (e := (eToll ad C)) rfl) 0 rfl rfl 2 (by decide) (hts (.fieldLink RX4 19 "StoryToll" "travellers" "Ljava/util/ArrayList;") (List.mem_of_getElem? (i := 7) rfl)) (fun _ h9 => h9) rfl dX4_digest_176 ?_
                      refine lv_iload_n hx hb dX4_digest_179 rfl (lv_at hl 1 rfl) ?_
                      refine g_Vr (As := [.int (nI j)]) (rest := [.ref (ad 0 0), .long ((gIt (L_cd3w C N j) (gIt (L_cd3 C N) (gIt (L_cd2 C) (gIt (L_cd1 C) (gIt (L_cd0 C N) 839 11) (N 0)) (N 1)) j) k2) * 31)]) C0 (c_Jx4a65c_get_915e3 l D G A ad N C M o Hp hW 2 (by decide) hNN j _ rfl (by omega)) (cwV 1 hts gX4_digest_Jx4a65c_get_915e3 rfl rfl rfl (by decide +kernel) ⟨Nat.le_of_ble_eq_true rfl, Nat.le_of_ble_eq_true rfl⟩) hK (va_recv hK (hW.p (Wd_Li (by omega))) (ci := 0) (q0 := 0) rfl rfl) rfl hl rfl (Nat.le_of_ble_eq_true rfl) dX4_digest_180 ⟨Nat.zero_le _, Nat.zero_le _⟩ hS (fun r_18 locs hr_18 hS => ?_)
                      replace hr_18 : r_18 = ad 5 j := hr_18
                      subst r_18
                      refine g_cast hx hb hown hK hW (Wd_Tr (by omega)) rfl (hts (.classLink RX4 95 "StoryToll$Traveller") (List.mem_of_getElem? (i := 8) rfl)) dX4_digest_183 ?_
                      refine lv_iload hx hb dX4_digest_186 (lv_at hl 0 rfl) ?_
                      refine g_Vi (As := [.ref (ad 5 j), .int (nI k2)]) (rest := [.long ((gIt (L_cd3w C N j) (gIt (L_cd3 C N) (gIt (L_cd2 C) (gIt (L_cd1 C) (gIt (L_cd0 C N) 839 11) (N 0)) (N 1)) j) k2) * 31)]) C0 (c_X4_answerOfTraveller l D G A ad N C M o Hp hW hC j (by omega) (nI k2)) (cwV 2 hts gX4_digest_X4_answerOfTraveller rfl rfl rfl (by decide +kernel) ⟨Nat.le_of_ble_eq_true rfl, Nat.le_of_ble_eq_true rfl⟩) hK (va_recv hK (hW.p rfl) (ci := 5) (q0 := 0) rfl rfl) rfl hl rfl (Nat.le_of_ble_eq_true rfl) dX4_digest_188 ⟨Nat.zero_le _, Nat.zero_le _⟩ hS (fun r_19 locs hr_19 hS => ?_)
                      replace hr_19 : r_19 = (f_X4_answerOfTraveller C N j (nI k2)) := hr_19
                      subst r_19
                      refine lv_i2l (v := (f_X4_answerOfTraveller C N j (nI k2)).toInt64) hx hb dX4_digest_191 rfl ?_
                      refine lv_ladd hx hb dX4_digest_192 ?_
                      refine lv_lstore_n (lv' := [(1, .long (((gIt (L_cd3w C N j) (gIt (L_cd3 C N) (gIt (L_cd2 C) (gIt (L_cd1 C) (gIt (L_cd0 C N) 839 11) (N 0)) (N 1)) j) k2) * 31) + (f_X4_answerOfTraveller C N j (nI k2)).toInt64)), (4, .int (nI k2)), (3, .int (nI j)), (0, .ref (ad 0 0))]) hx hb dX4_digest_193 rfl hl (by decide) rfl (fun ls hl => ?_)
                      refine lv_iinc (v := (nI (k2 + 1))) (lv' := [(4, .int (nI (k2 + 1))), (1, .long (((gIt (L_cd3w C N j) (gIt (L_cd3 C N) (gIt (L_cd2 C) (gIt (L_cd1 C) (gIt (L_cd0 C N) 839 11) (N 0)) (N 1)) j) k2) * 31) + (f_X4_answerOfTraveller C N j (nI k2)).toInt64)), (3, .int (nI j)), (0, .ref (ad 0 0))]) hx hb dX4_digest_194 hl (k := 1) rfl (nI_1 _) (by decide) rfl (fun ls hl => ?_)
                      refine lv_goto (tgt := 163) hx hb dX4_digest_197 (by decide) ?_
                      have ea : (((gIt (L_cd3w C N j) (gIt (L_cd3 C N) (gIt (L_cd2 C) (gIt (L_cd1 C) (gIt (L_cd0 C N) 839 11) (N 0)) (N 1)) j) k2) * 31) + (f_X4_answerOfTraveller C N j (nI k2)).toInt64) = (gIt (L_cd3w C N j) (gIt (L_cd3 C N) (gIt (L_cd2 C) (gIt (L_cd1 C) (gIt (L_cd0 C N) 839 11) (N 0)) (N 1)) j) (k2 + 1)) := (show (((gIt (L_cd3w C N j) (gIt (L_cd3 C N) (gIt (L_cd2 C) (gIt (L_cd1 C) (gIt (L_cd0 C N) 839 11) (N 0)) (N 1)) j) k2) * 31) + (f_X4_answerOfTraveller C N j (nI k2)).toInt64) = L_cd3w C N j k2 (gIt (L_cd3w C N j) (gIt (L_cd3 C N) (gIt (L_cd2 C) (gIt (L_cd1 C) (gIt (L_cd0 C N) 839 11) (N 0)) (N 1)) j) k2) from by (rw [L_cd3w]) <;> rfl)
                      have hl2 : lv_has ls 5 [(4, .int (nI (k2 + 1))), (3, .int (nI j)), (1, .long (gIt (L_cd3w C N j) (gIt (L_cd3 C N) (gIt (L_cd2 C) (gIt (L_cd1 C) (gIt (L_cd0 C N) 839 11) (N 0)) (N 1)) j) (k2 + 1))), (0, .ref (ad 0 0))] := by rw [← ea]; exact lv_sub hl [0, 2, 1, 3] rfl
                      exact ih ls locs hl2 hS
            · exact absurd (g_le rfl (by omega)) c_99_4
          · have hl : lv_has ls 5 [(3, .int (nI j)), (1, .long (gIt (L_cd2 C) (gIt (L_cd1 C) (gIt (L_cd0 C N) 839 11) (N 0)) j)), (0, .ref (ad 0 0))] := hl
            refine lv_iload_n hx hb dX4_digest_91 rfl (lv_at hl 0 rfl) ?_
            refine lv_aload_n hx hb dX4_digest_92 rfl (lv_at hl 2 rfl) ?_
            refine va_get (D := D) (ci := 5) (v := .ref (ad 1 1)) (C := RX4) (T := TX4) (N := 9) hx hb hts inX4 hown hK (hW.p (e := (eToll ad C)) rfl) 0 rfl rfl 1 (by decide) (hts (.fieldLink RX4 16 "StoryToll" "guards" "Ljava/util/ArrayList;") (List.mem_of_getElem? (i := 5) rfl)) (fun _ h9 => h9) rfl dX4_digest_93 ?_
            refine g_Vi (As := []) (rest := [.int (nI j)]) C0 (c_Jx4a65c_size_8abf5 l D G A ad N C M o Hp hW 1 (by decide)) (cwV 0 hts gX4_digest_Jx4a65c_size_8abf5 rfl rfl rfl (by decide +kernel) ⟨Nat.le_of_ble_eq_true rfl, Nat.le_of_ble_eq_true rfl⟩) hK (va_recv hK (hW.p (Wd_Li (by omega))) (ci := 0) (q0 := 0) rfl rfl) rfl hl rfl (Nat.le_of_ble_eq_true rfl) dX4_digest_96 ⟨Nat.zero_le _, Nat.zero_le _⟩ hS (fun r_20 locs hr_20 hS => ?_)
            replace hr_20 : r_20 = (nI (N 1)) := hr_20
            subst r_20
            refine lv_icmp_ge (tgt := 147) hx hb dX4_digest_99 (by decide) (fun c_99_20 => ?_) (fun c_99_20 => ?_)
            · exact absurd c_99_20 (g_ge rfl (by omega) hj)
            · refine lv_iconst (v := 0) hx hb dX4_digest_102 (by decide) ?_
              refine lv_istore (lv' := [(4, .int 0), (3, .int (nI j)), (1, .long (gIt (L_cd2 C) (gIt (L_cd1 C) (gIt (L_cd0 C N) 839 11) (N 0)) j)), (0, .ref (ad 0 0))]) hx hb dX4_digest_103 hl (by decide) rfl (fun ls hl => ?_)
              refine g_loop (3) (fun k2 ls => lv_has ls 5 [(4, .int (nI k2)), (3, .int (nI j)), (1, .long (gIt (L_cd2w C j) (gIt (L_cd2 C) (gIt (L_cd1 C) (gIt (L_cd0 C N) 839 11) (N 0)) j) k2)), (0, .ref (ad 0 0))]) (lv_sub hl [0, 1, 2, 3] rfl) hS (fun ls locs hl hS => ?_) (fun k2 ls locs hk2 hl hS ih => ?_)
              · have hl : lv_has ls 5 [(4, .int (nI 3)), (3, .int (nI j)), (1, .long (gIt (L_cd2w C j) (gIt (L_cd2 C) (gIt (L_cd1 C) (gIt (L_cd0 C N) 839 11) (N 0)) j) 3)), (0, .ref (ad 0 0))] := hl
                refine lv_iload hx hb dX4_digest_105 (lv_at hl 0 rfl) ?_
                refine lv_iconst (v := 2) hx hb dX4_digest_107 (by decide) ?_
                refine lv_icmp_gt (tgt := 141) hx hb dX4_digest_108 (by decide) (fun c_108_21 => ?_) (fun c_108_21 => ?_)
                · refine lv_iinc (v := (nI (j + 1))) (lv' := [(3, .int (nI (j + 1))), (4, .int (nI 3)), (1, .long (gIt (L_cd2w C j) (gIt (L_cd2 C) (gIt (L_cd1 C) (gIt (L_cd0 C N) 839 11) (N 0)) j) 3)), (0, .ref (ad 0 0))]) hx hb dX4_digest_141 hl (k := 1) rfl (nI_1 _) (by decide) rfl (fun ls hl => ?_)
                  refine lv_goto (tgt := 91) hx hb dX4_digest_144 (by decide) ?_
                  have ea : (gIt (L_cd2w C j) (gIt (L_cd2 C) (gIt (L_cd1 C) (gIt (L_cd0 C N) 839 11) (N 0)) j) 3) = (gIt (L_cd2 C) (gIt (L_cd1 C) (gIt (L_cd0 C N) 839 11) (N 0)) (j + 1)) := (show (gIt (L_cd2w C j) (gIt (L_cd2 C) (gIt (L_cd1 C) (gIt (L_cd0 C N) 839 11) (N 0)) j) 3) = L_cd2 C j (gIt (L_cd2 C) (gIt (L_cd1 C) (gIt (L_cd0 C N) 839 11) (N 0)) j) from by (rw [L_cd2]) <;> rfl)
                  have hl2 : lv_has ls 5 [(3, .int (nI (j + 1))), (1, .long (gIt (L_cd2 C) (gIt (L_cd1 C) (gIt (L_cd0 C N) 839 11) (N 0)) (j + 1))), (0, .ref (ad 0 0))] := by rw [← ea]; exact lv_sub hl [0, 2, 3] rfl
                  exact ih ls locs hl2 hS
                · exact absurd (g_gtx (n := 2) rfl (by decide)) c_108_21
              · have hl : lv_has ls 5 [(4, .int (nI k2)), (3, .int (nI j)), (1, .long (gIt (L_cd2w C j) (gIt (L_cd2 C) (gIt (L_cd1 C) (gIt (L_cd0 C N) 839 11) (N 0)) j) k2)), (0, .ref (ad 0 0))] := hl
                refine lv_iload hx hb dX4_digest_105 (lv_at hl 0 rfl) ?_
                refine lv_iconst (v := 2) hx hb dX4_digest_107 (by decide) ?_
                refine lv_icmp_gt (tgt := 141) hx hb dX4_digest_108 (by decide) (fun c_108_22 => ?_) (fun c_108_22 => ?_)
                · exact absurd c_108_22 (g_gtj (n := 2) rfl hk2 (by decide))
                · refine lv_lload_n hx hb dX4_digest_111 rfl (lv_at hl 2 rfl) ?_
                  refine lv_ldc2 (v := 31) hx hb hown (hts (.constantLong RX4 239 (31)) (List.mem_of_getElem? (i := 2) rfl)) dX4_digest_112 ?_
                  refine lv_lmul hx hb dX4_digest_115 ?_
                  refine lv_aload_n hx hb dX4_digest_116 rfl (lv_at hl 3 rfl) ?_
                  refine va_get (D := D) (ci := 5) (v := .ref (ad 1 1)) (C := RX4) (T := TX4) (N := 9) hx hb hts inX4 hown hK (hW.p (e := (eToll ad C)) rfl) 0 rfl rfl 1 (by decide) (hts (.fieldLink RX4 16 "StoryToll" "guards" "Ljava/util/ArrayList;") (List.mem_of_getElem? (i := 5) rfl)) (fun _ h9 => h9) rfl dX4_digest_117 ?_
                  refine lv_iload_n hx hb dX4_digest_120 rfl (lv_at hl 1 rfl) ?_
                  refine g_Vr (As := [.int (nI j)]) (rest := [.long ((gIt (L_cd2w C j) (gIt (L_cd2 C) (gIt (L_cd1 C) (gIt (L_cd0 C N) 839 11) (N 0)) j) k2) * 31)]) C0 (c_Jx4a65c_get_915e3 l D G A ad N C M o Hp hW 1 (by decide) hNN j _ rfl (by omega)) (cwV 1 hts gX4_digest_Jx4a65c_get_915e3 rfl rfl rfl (by decide +kernel) ⟨Nat.le_of_ble_eq_true rfl, Nat.le_of_ble_eq_true rfl⟩) hK (va_recv hK (hW.p (Wd_Li (by omega))) (ci := 0) (q0 := 0) rfl rfl) rfl hl rfl (Nat.le_of_ble_eq_true rfl) dX4_digest_121 ⟨Nat.zero_le _, Nat.zero_le _⟩ hS (fun r_24 locs hr_24 hS => ?_)
                  replace hr_24 : r_24 = ad 4 j := hr_24
                  subst r_24
                  refine g_cast hx hb hown hK hW (Wd_Gd (by omega)) rfl (hts (.classLink RX4 88 "StoryToll$Guard") (List.mem_of_getElem? (i := 6) rfl)) dX4_digest_124 ?_
                  refine lv_iload hx hb dX4_digest_127 (lv_at hl 0 rfl) ?_
                  refine g_Vi (As := [.int (nI k2)]) (rest := [.long ((gIt (L_cd2w C j) (gIt (L_cd2 C) (gIt (L_cd1 C) (gIt (L_cd0 C N) 839 11) (N 0)) j) k2) * 31)]) C0 (c_X0_answer l D G A ad N C M o Hp hW j (by omega) (nI k2)) (cwV 1 hts gX4_digest_X0_answer rfl rfl rfl (by decide +kernel) ⟨Nat.le_of_ble_eq_true rfl, Nat.le_of_ble_eq_true rfl⟩) hK (va_recv hK (hW.p (Wd_Gd (by omega))) (ci := 1) (q0 := 0) rfl rfl) rfl hl rfl (Nat.le_of_ble_eq_true rfl) dX4_digest_129 ⟨Nat.zero_le _, Nat.zero_le _⟩ hS (fun r_25 locs hr_25 hS => ?_)
                  replace hr_25 : r_25 = (f_X0_answer C j (nI k2)) := hr_25
                  subst r_25
                  refine lv_i2l (v := (f_X0_answer C j (nI k2)).toInt64) hx hb dX4_digest_132 rfl ?_
                  refine lv_ladd hx hb dX4_digest_133 ?_
                  refine lv_lstore_n (lv' := [(1, .long (((gIt (L_cd2w C j) (gIt (L_cd2 C) (gIt (L_cd1 C) (gIt (L_cd0 C N) 839 11) (N 0)) j) k2) * 31) + (f_X0_answer C j (nI k2)).toInt64)), (4, .int (nI k2)), (3, .int (nI j)), (0, .ref (ad 0 0))]) hx hb dX4_digest_134 rfl hl (by decide) rfl (fun ls hl => ?_)
                  refine lv_iinc (v := (nI (k2 + 1))) (lv' := [(4, .int (nI (k2 + 1))), (1, .long (((gIt (L_cd2w C j) (gIt (L_cd2 C) (gIt (L_cd1 C) (gIt (L_cd0 C N) 839 11) (N 0)) j) k2) * 31) + (f_X0_answer C j (nI k2)).toInt64)), (3, .int (nI j)), (0, .ref (ad 0 0))]) hx hb dX4_digest_135 hl (k := 1) rfl (nI_1 _) (by decide) rfl (fun ls hl => ?_)
                  refine lv_goto (tgt := 105) hx hb dX4_digest_138 (by decide) ?_
                  have ea : (((gIt (L_cd2w C j) (gIt (L_cd2 C) (gIt (L_cd1 C) (gIt (L_cd0 C N) 839 11) (N 0)) j) k2) * 31) + (f_X0_answer C j (nI k2)).toInt64) = (gIt (L_cd2w C j) (gIt (L_cd2 C) (gIt (L_cd1 C) (gIt (L_cd0 C N) 839 11) (N 0)) j) (k2 + 1)) := (show (((gIt (L_cd2w C j) (gIt (L_cd2 C) (gIt (L_cd1 C) (gIt (L_cd0 C N) 839 11) (N 0)) j) k2) * 31) + (f_X0_answer C j (nI k2)).toInt64) = L_cd2w C j k2 (gIt (L_cd2w C j) (gIt (L_cd2 C) (gIt (L_cd1 C) (gIt (L_cd0 C N) 839 11) (N 0)) j) k2) from by (rw [L_cd2w]) <;> rfl)
                  have hl2 : lv_has ls 5 [(4, .int (nI (k2 + 1))), (3, .int (nI j)), (1, .long (gIt (L_cd2w C j) (gIt (L_cd2 C) (gIt (L_cd1 C) (gIt (L_cd0 C N) 839 11) (N 0)) j) (k2 + 1))), (0, .ref (ad 0 0))] := by rw [← ea]; exact lv_sub hl [0, 2, 1, 3] rfl
                  exact ih ls locs hl2 hS
        · exact absurd (g_le rfl (by omega)) c_41_2
      · have hl : lv_has ls 5 [(3, .int (nI j)), (1, .long (gIt (L_cd1 C) (gIt (L_cd0 C N) 839 11) j)), (0, .ref (ad 0 0))] := hl
        refine lv_iload_n hx hb dX4_digest_33 rfl (lv_at hl 0 rfl) ?_
        refine lv_aload_n hx hb dX4_digest_34 rfl (lv_at hl 2 rfl) ?_
        refine va_get (D := D) (ci := 5) (v := .ref (ad 1 0)) (C := RX4) (T := TX4) (N := 9) hx hb hts inX4 hown hK (hW.p (e := (eToll ad C)) rfl) 0 rfl rfl 0 (by decide) (hts (.fieldLink RX4 10 "StoryToll" "scenes" "Ljava/util/ArrayList;") (List.mem_of_getElem? (i := 3) rfl)) (fun _ h9 => h9) rfl dX4_digest_35 ?_
        refine g_Vi (As := []) (rest := [.int (nI j)]) C0 (c_Jx4a65c_size_8abf5 l D G A ad N C M o Hp hW 0 (by decide)) (cwV 0 hts gX4_digest_Jx4a65c_size_8abf5 rfl rfl rfl (by decide +kernel) ⟨Nat.le_of_ble_eq_true rfl, Nat.le_of_ble_eq_true rfl⟩) hK (va_recv hK (hW.p (Wd_Li (by omega))) (ci := 0) (q0 := 0) rfl rfl) rfl hl rfl (Nat.le_of_ble_eq_true rfl) dX4_digest_38 ⟨Nat.zero_le _, Nat.zero_le _⟩ hS (fun r_26 locs hr_26 hS => ?_)
        replace hr_26 : r_26 = (nI (N 0)) := hr_26
        subst r_26
        refine lv_icmp_ge (tgt := 89) hx hb dX4_digest_41 (by decide) (fun c_41_26 => ?_) (fun c_41_26 => ?_)
        · exact absurd c_41_26 (g_ge rfl (by omega) hj)
        · refine lv_iconst (v := 0) hx hb dX4_digest_44 (by decide) ?_
          refine lv_istore (lv' := [(4, .int 0), (3, .int (nI j)), (1, .long (gIt (L_cd1 C) (gIt (L_cd0 C N) 839 11) j)), (0, .ref (ad 0 0))]) hx hb dX4_digest_45 hl (by decide) rfl (fun ls hl => ?_)
          refine g_loop (5) (fun k2 ls => lv_has ls 5 [(4, .int (nI k2)), (3, .int (nI j)), (1, .long (gIt (L_cd1w C j) (gIt (L_cd1 C) (gIt (L_cd0 C N) 839 11) j) k2)), (0, .ref (ad 0 0))]) (lv_sub hl [0, 1, 2, 3] rfl) hS (fun ls locs hl hS => ?_) (fun k2 ls locs hk2 hl hS ih => ?_)
          · have hl : lv_has ls 5 [(4, .int (nI 5)), (3, .int (nI j)), (1, .long (gIt (L_cd1w C j) (gIt (L_cd1 C) (gIt (L_cd0 C N) 839 11) j) 5)), (0, .ref (ad 0 0))] := hl
            refine lv_iload hx hb dX4_digest_47 (lv_at hl 0 rfl) ?_
            refine lv_iconst (v := 4) hx hb dX4_digest_49 (by decide) ?_
            refine lv_icmp_gt (tgt := 83) hx hb dX4_digest_50 (by decide) (fun c_50_27 => ?_) (fun c_50_27 => ?_)
            · refine lv_iinc (v := (nI (j + 1))) (lv' := [(3, .int (nI (j + 1))), (4, .int (nI 5)), (1, .long (gIt (L_cd1w C j) (gIt (L_cd1 C) (gIt (L_cd0 C N) 839 11) j) 5)), (0, .ref (ad 0 0))]) hx hb dX4_digest_83 hl (k := 1) rfl (nI_1 _) (by decide) rfl (fun ls hl => ?_)
              refine lv_goto (tgt := 33) hx hb dX4_digest_86 (by decide) ?_
              have ea : (gIt (L_cd1w C j) (gIt (L_cd1 C) (gIt (L_cd0 C N) 839 11) j) 5) = (gIt (L_cd1 C) (gIt (L_cd0 C N) 839 11) (j + 1)) := (show (gIt (L_cd1w C j) (gIt (L_cd1 C) (gIt (L_cd0 C N) 839 11) j) 5) = L_cd1 C j (gIt (L_cd1 C) (gIt (L_cd0 C N) 839 11) j) from by (rw [L_cd1]) <;> rfl)
              have hl2 : lv_has ls 5 [(3, .int (nI (j + 1))), (1, .long (gIt (L_cd1 C) (gIt (L_cd0 C N) 839 11) (j + 1))), (0, .ref (ad 0 0))] := by rw [← ea]; exact lv_sub hl [0, 2, 3] rfl
              exact ih ls locs hl2 hS
            · exact absurd (g_gtx (n := 4) rfl (by decide)) c_50_27
          · have hl : lv_has ls 5 [(4, .int (nI k2)), (3, .int (nI j)), (1, .long (gIt (L_cd1w C j) (gIt (L_cd1 C) (gIt (L_cd0 C N) 839 11) j) k2)), (0, .ref (ad 0 0))] := hl
            refine lv_iload hx hb dX4_digest_47 (lv_at hl 0 rfl) ?_
            refine lv_iconst (v := 4) hx hb dX4_digest_49 (by decide) ?_
            refine lv_icmp_gt (tgt := 83) hx hb dX4_digest_50 (by decide) (fun c_50_28 => ?_) (fun c_50_28 => ?_)
            · exact absurd c_50_28 (g_gtj (n := 4) rfl hk2 (by decide))
            · refine lv_lload_n hx hb dX4_digest_53 rfl (lv_at hl 2 rfl) ?_
              refine lv_ldc2 (v := 31) hx hb hown (hts (.constantLong RX4 239 (31)) (List.mem_of_getElem? (i := 2) rfl)) dX4_digest_54 ?_
              refine lv_lmul hx hb dX4_digest_57 ?_
              refine lv_aload_n hx hb dX4_digest_58 rfl (lv_at hl 3 rfl) ?_
              refine va_get (D := D) (ci := 5) (v := .ref (ad 1 0)) (C := RX4) (T := TX4) (N := 9) hx hb hts inX4 hown hK (hW.p (e := (eToll ad C)) rfl) 0 rfl rfl 0 (by decide) (hts (.fieldLink RX4 10 "StoryToll" "scenes" "Ljava/util/ArrayList;") (List.mem_of_getElem? (i := 3) rfl)) (fun _ h9 => h9) rfl dX4_digest_59 ?_
              refine lv_iload_n hx hb dX4_digest_62 rfl (lv_at hl 1 rfl) ?_
              refine g_Vr (As := [.int (nI j)]) (rest := [.long ((gIt (L_cd1w C j) (gIt (L_cd1 C) (gIt (L_cd0 C N) 839 11) j) k2) * 31)]) C0 (c_Jx4a65c_get_915e3 l D G A ad N C M o Hp hW 0 (by decide) hNN j _ rfl (by omega)) (cwV 1 hts gX4_digest_Jx4a65c_get_915e3 rfl rfl rfl (by decide +kernel) ⟨Nat.le_of_ble_eq_true rfl, Nat.le_of_ble_eq_true rfl⟩) hK (va_recv hK (hW.p (Wd_Li (by omega))) (ci := 0) (q0 := 0) rfl rfl) rfl hl rfl (Nat.le_of_ble_eq_true rfl) dX4_digest_63 ⟨Nat.zero_le _, Nat.zero_le _⟩ hS (fun r_30 locs hr_30 hS => ?_)
              replace hr_30 : r_30 = ad 3 j := hr_30
              subst r_30
              refine g_cast hx hb hown hK hW (Wd_S (by omega)) rfl (hts (.classLink RX4 45 "StoryToll$Scene") (List.mem_of_getElem? (i := 4) rfl)) dX4_digest_66 ?_
              refine lv_iload hx hb dX4_digest_69 (lv_at hl 0 rfl) ?_
              refine g_Vi (As := [.int (nI k2)]) (rest := [.long ((gIt (L_cd1w C j) (gIt (L_cd1 C) (gIt (L_cd0 C N) 839 11) j) k2) * 31)]) C0 (c_X2_answer l D G A ad N C M o Hp hW j (by omega) (nI k2)) (cwV 1 hts gX4_digest_X2_answer rfl rfl rfl (by decide +kernel) ⟨Nat.le_of_ble_eq_true rfl, Nat.le_of_ble_eq_true rfl⟩) hK (va_recv hK (hW.p (Wd_S (by omega))) (ci := 3) (q0 := 0) rfl rfl) rfl hl rfl (Nat.le_of_ble_eq_true rfl) dX4_digest_71 ⟨Nat.zero_le _, Nat.zero_le _⟩ hS (fun r_31 locs hr_31 hS => ?_)
              replace hr_31 : r_31 = (f_X2_answer C j (nI k2)) := hr_31
              subst r_31
              refine lv_i2l (v := (f_X2_answer C j (nI k2)).toInt64) hx hb dX4_digest_74 rfl ?_
              refine lv_ladd hx hb dX4_digest_75 ?_
              refine lv_lstore_n (lv' := [(1, .long (((gIt (L_cd1w C j) (gIt (L_cd1 C) (gIt (L_cd0 C N) 839 11) j) k2) * 31) + (f_X2_answer C j (nI k2)).toInt64)), (4, .int (nI k2)), (3, .int (nI j)), (0, .ref (ad 0 0))]) hx hb dX4_digest_76 rfl hl (by decide) rfl (fun ls hl => ?_)
              refine lv_iinc (v := (nI (k2 + 1))) (lv' := [(4, .int (nI (k2 + 1))), (1, .long (((gIt (L_cd1w C j) (gIt (L_cd1 C) (gIt (L_cd0 C N) 839 11) j) k2) * 31) + (f_X2_answer C j (nI k2)).toInt64)), (3, .int (nI j)), (0, .ref (ad 0 0))]) hx hb dX4_digest_77 hl (k := 1) rfl (nI_1 _) (by decide) rfl (fun ls hl => ?_)
              refine lv_goto (tgt := 47) hx hb dX4_digest_80 (by decide) ?_
              have ea : (((gIt (L_cd1w C j) (gIt (L_cd1 C) (gIt (L_cd0 C N) 839 11) j) k2) * 31) + (f_X2_answer C j (nI k2)).toInt64) = (gIt (L_cd1w C j) (gIt (L_cd1 C) (gIt (L_cd0 C N) 839 11) j) (k2 + 1)) := (show (((gIt (L_cd1w C j) (gIt (L_cd1 C) (gIt (L_cd0 C N) 839 11) j) k2) * 31) + (f_X2_answer C j (nI k2)).toInt64) = L_cd1w C j k2 (gIt (L_cd1w C j) (gIt (L_cd1 C) (gIt (L_cd0 C N) 839 11) j) k2) from by (rw [L_cd1w]) <;> rfl)
              have hl2 : lv_has ls 5 [(4, .int (nI (k2 + 1))), (3, .int (nI j)), (1, .long (gIt (L_cd1w C j) (gIt (L_cd1 C) (gIt (L_cd0 C N) 839 11) j) (k2 + 1))), (0, .ref (ad 0 0))] := by rw [← ea]; exact lv_sub hl [0, 2, 1, 3] rfl
              exact ih ls locs hl2 hS
    · exact absurd (g_gtx (n := 10) rfl (by decide)) c_9_0
  · have hl : lv_has ls 5 [(3, .int (nI j)), (1, .long (gIt (L_cd0 C N) 839 j)), (0, .ref (ad 0 0))] := hl
    refine lv_iload_n hx hb dX4_digest_6 rfl (lv_at hl 0 rfl) ?_
    refine lv_bipush (v := 10) hx hb dX4_digest_7 (by decide) ?_
    refine lv_icmp_gt (tgt := 31) hx hb dX4_digest_9 (by decide) (fun c_9_31 => ?_) (fun c_9_31 => ?_)
    · exact absurd c_9_31 (g_gtj (n := 10) rfl hj (by decide))
    · refine lv_lload_n hx hb dX4_digest_12 rfl (lv_at hl 1 rfl) ?_
      refine lv_ldc2 (v := 31) hx hb hown (hts (.constantLong RX4 239 (31)) (List.mem_of_getElem? (i := 2) rfl)) dX4_digest_13 ?_
      refine lv_lmul hx hb dX4_digest_16 ?_
      refine lv_aload_n hx hb dX4_digest_17 rfl (lv_at hl 2 rfl) ?_
      refine lv_iload_n hx hb dX4_digest_18 rfl (lv_at hl 0 rfl) ?_
      refine g_Vi (As := [.int (nI j)]) (rest := [.long ((gIt (L_cd0 C N) 839 j) * 31)]) C0 (c_X4_answerOfGate l D G A ad N C M o Hp hW hC (nI j)) (cwV 1 hts gX4_digest_X4_answerOfGate rfl rfl rfl (by decide +kernel) ⟨Nat.le_of_ble_eq_true rfl, Nat.le_of_ble_eq_true rfl⟩) hK (va_recv hK (hW.p rfl) (ci := 5) (q0 := 0) rfl rfl) rfl hl rfl (Nat.le_of_ble_eq_true rfl) dX4_digest_19 ⟨Nat.zero_le _, Nat.zero_le _⟩ hS (fun r_33 locs hr_33 hS => ?_)
      replace hr_33 : r_33 = (f_X4_answerOfGate C N (nI j)) := hr_33
      subst r_33
      refine lv_i2l (v := (f_X4_answerOfGate C N (nI j)).toInt64) hx hb dX4_digest_22 rfl ?_
      refine lv_ladd hx hb dX4_digest_23 ?_
      refine lv_lstore_n (lv' := [(1, .long (((gIt (L_cd0 C N) 839 j) * 31) + (f_X4_answerOfGate C N (nI j)).toInt64)), (3, .int (nI j)), (0, .ref (ad 0 0))]) hx hb dX4_digest_24 rfl hl (by decide) rfl (fun ls hl => ?_)
      refine lv_iinc (v := (nI (j + 1))) (lv' := [(3, .int (nI (j + 1))), (1, .long (((gIt (L_cd0 C N) 839 j) * 31) + (f_X4_answerOfGate C N (nI j)).toInt64)), (0, .ref (ad 0 0))]) hx hb dX4_digest_25 hl (k := 1) rfl (nI_1 _) (by decide) rfl (fun ls hl => ?_)
      refine lv_goto (tgt := 6) hx hb dX4_digest_28 (by decide) ?_
      have ea : (((gIt (L_cd0 C N) 839 j) * 31) + (f_X4_answerOfGate C N (nI j)).toInt64) = (gIt (L_cd0 C N) 839 (j + 1)) := (show (((gIt (L_cd0 C N) 839 j) * 31) + (f_X4_answerOfGate C N (nI j)).toInt64) = L_cd0 C N j (gIt (L_cd0 C N) 839 j) from by (rw [L_cd0]) <;> rfl)
      have hl2 : lv_has ls 5 [(3, .int (nI (j + 1))), (1, .long (gIt (L_cd0 C N) 839 (j + 1))), (0, .ref (ad 0 0))] := by rw [← ea]; exact lv_sub hl [0, 1, 2] rfl
      exact ih ls locs hl2 hS
def f_X4_mean (C : gT) : UInt64 := (if (C 0 7) = 0 then FP.dconst0 else (FP.ddiv (FP.i2d (C 0 6)) (FP.i2d (C 0 7))))
def s_X4_mean (C : gT) : gT := (if (C 0 7) = 0 then C else C)
set_option maxHeartbeats 4000000 in
set_option maxRecDepth 100000 in
theorem c_X4_mean (l : Launch) (D : va_G) (G : gG) (A : Nat → Prop) (ad : gAd) (N : gN) (C M : gT) (o : Nat → Int64) (Hp : Heap) (hW : gW D A ad (Wd G ad N C M o) Hp)  : Met l yX4_mean wsX4_mean ({ frames := 0, cells := 0, slots := 0, locals := 0 }) (va_Pc [.ref (ad 0 0)] (gQ D (gTs G) Hp)) (va_Qd (fun r (_ : Unit) => r = f_X4_mean C) (fun _ t => gW D A ad (Wd G ad N (s_X4_mean C) M o) t.heap) A) 0 0 A := by
  refine g_start (cc := cX4_mean) (maxL := 1) (ret := (some .double)) (by decide) rfl (Nat.le_of_ble_eq_true rfl) (fun p e s m below meth c ls C0 hr hlk hnm hh hK hl => ?_)
  obtain ⟨hx, hb, hml, hown, hts⟩ := id C0
  have hown : s.vm.findClass RX4 = some m.cls := hown
  have hS : va_S A Hp Hp [] := va_S.rf
  have hl : lv_has ls 1 [(0, .ref (ad 0 0))] := hl
  have inX4 : ∀ w ∈ wsX40, w ∈ wsX4_mean := by decide +kernel
  refine lv_aload_n hx hb dX4_mean_0 rfl (lv_at hl 0 rfl) ?_
  refine va_get (D := D) (ci := 5) (v := .int (C 0 7)) (C := RX4) (T := TX4) (N := 9) hx hb hts inX4 hown hK (hW.p (e := (eToll ad C)) rfl) 0 rfl rfl 7 (by decide) (hts (.fieldLink RX4 142 "StoryToll" "scenesTold" "I") (List.mem_of_getElem? (i := 1) rfl)) (fun _ h9 => h9) rfl dX4_mean_1 ?_
  refine lv_if_ne (tgt := 9) hx hb dX4_mean_4 (by decide) (fun c_4_0 => ?_) (fun c_4_0 => ?_)
  · refine lv_aload_n hx hb dX4_mean_9 rfl (lv_at hl 0 rfl) ?_
    refine va_get (D := D) (ci := 5) (v := .int (C 0 6)) (C := RX4) (T := TX4) (N := 9) hx hb hts inX4 hown hK (hW.p (e := (eToll ad C)) rfl) 0 rfl rfl 6 (by decide) (hts (.fieldLink RX4 143 "StoryToll" "tolls" "I") (List.mem_of_getElem? (i := 2) rfl)) (fun _ h9 => h9) rfl dX4_mean_10 ?_
    refine lv_i2d hx hb dX4_mean_13 ?_
    refine lv_aload_n hx hb dX4_mean_14 rfl (lv_at hl 0 rfl) ?_
    refine va_get (D := D) (ci := 5) (v := .int (C 0 7)) (C := RX4) (T := TX4) (N := 9) hx hb hts inX4 hown hK (hW.p (e := (eToll ad C)) rfl) 0 rfl rfl 7 (by decide) (hts (.fieldLink RX4 142 "StoryToll" "scenesTold" "I") (List.mem_of_getElem? (i := 1) rfl)) (fun _ h9 => h9) rfl dX4_mean_15 ?_
    refine lv_i2d hx hb dX4_mean_18 ?_
    refine lv_ddiv hx hb dX4_mean_19 (mean_nn c_4_0) ?_
    exact g_wdret (u := ()) (post := fun r _ => r = f_X4_mean C) (B := fun _ H => gW D A ad (Wd G ad N (s_X4_mean C) M o) H) hx hb hr hlk hh hS (show (FP.ddiv (FP.i2d (C 0 6)) (FP.i2d (C 0 7))) = f_X4_mean C from by rw [f_X4_mean, if_neg c_4_0]) (show gW D A ad (Wd G ad N (s_X4_mean C) M o) Hp from by rw [s_X4_mean, if_neg c_4_0]; exact hW) dX4_mean_20
  · refine lv_dconst0 hx hb dX4_mean_7 ?_
    exact g_wdret (u := ()) (post := fun r _ => r = f_X4_mean C) (B := fun _ H => gW D A ad (Wd G ad N (s_X4_mean C) M o) H) hx hb hr hlk hh hS (show FP.dconst0 = f_X4_mean C from by rw [f_X4_mean, if_pos c_4_0]) (show gW D A ad (Wd G ad N (s_X4_mean C) M o) Hp from by rw [s_X4_mean, if_pos c_4_0]; exact hW) dX4_mean_8
