/-! THE CLASS: the most wonder behind a scene -/
theorem sh_amt : ∀ k, k < 32 → ((nI k &&& 31).toBitVec.smod 32).toNat = k := by decide +kernel
theorem sh_int (x : Int32) {k : Nat} (hk : k < 32) : (x >>> (nI k &&& 31)).toInt = x.toInt / 2 ^ k := by
  show ((x >>> (nI k &&& 31)).toBitVec).toInt = _
  rw [Int32.toBitVec_shiftRight]
  show (x.toBitVec.sshiftRight (((nI k &&& 31).toBitVec.smod 32).toNat)).toInt = _
  rw [sh_amt k hk, BitVec.toInt_sshiftRight, Int.shiftRight_eq_div_pow]
  rfl
theorem sh_stop {x : Int32} {j k : Nat} (hjk : j ≤ k) (hk : k < 32) (h : x >>> (nI j &&& 31) = 0) : x >>> (nI k &&& 31) = 0 := by
  have h1 := sh_int x (show j < 32 by omega)
  rw [h] at h1
  have h3 : x.toInt / 2 ^ j = 0 := h1.symm
  refine Int32.toInt_inj.mp ((sh_int x hk).trans ?_)
  have e : (2 : Int) ^ k = 2 ^ j * 2 ^ (k - j) := by rw [← Int.pow_add, Nat.add_sub_cancel' hjk]
  have h2 : (0 : Int) ≤ 2 ^ j := Int.le_of_lt (Int.pow_pos (by decide))
  rw [e, ← Int.ediv_ediv_of_nonneg h2, h3, Int.zero_ediv]
  rfl
theorem gIt_stop {α : Type} {f : Nat → α → α} {a : α} {j n : Nat} (hj : j ≤ n) (h : ∀ k b, j ≤ k → k < n → f k b = b) : gIt f a n = gIt f a j := by
  induction n with
  | zero => cases Nat.le_zero.mp hj; rfl
  | succ n ih =>
    by_cases e : j = n + 1
    · rw [e]
    · rw [gIt_s, h n _ (by omega) (by omega)]
      exact ih (by omega) (fun k b h1 h2 => h k b h1 (by omega))
def f_mwb (C : gT) (n : Nat) : Nat → Nat → Int32 → Int32
  | 0, _, _ => -1
  | d + 1, i, u => gIt (fun j acc => if ((((C 34 i) &&& (u ^^^ (-1))) >>> ((nI j) &&& 31)) &&& 1) = 0 then acc else if (C 31 j) = 2 then (if acc < ((C 32 j) + 0) then ((C 32 j) + 0) else acc) else if (f_mwb C n d j (u ||| (f_X2_asSet C j))) < 0 then acc else (if acc < ((C 32 j) + (f_mwb C n d j (u ||| (f_X2_asSet C j)))) then ((C 32 j) + (f_mwb C n d j (u ||| (f_X2_asSet C j)))) else acc)) (-1) n
def L_mwb (C : gT) (n d i : Nat) (u : Int32) (j : Nat) (acc : Int32) : Int32 := if ((((C 34 i) &&& (u ^^^ (-1))) >>> ((nI j) &&& 31)) &&& 1) = 0 then acc else if (C 31 j) = 2 then (if acc < ((C 32 j) + 0) then ((C 32 j) + 0) else acc) else if (f_mwb C n d j (u ||| (f_X2_asSet C j))) < 0 then acc else (if acc < ((C 32 j) + (f_mwb C n d j (u ||| (f_X2_asSet C j)))) then ((C 32 j) + (f_mwb C n d j (u ||| (f_X2_asSet C j)))) else acc)
theorem f_mwb_0 (C : gT) (n i : Nat) (u : Int32) : f_mwb C n 0 i u = -1 := by unfold f_mwb; rfl
theorem f_mwb_s (C : gT) (n d i : Nat) (u : Int32) : f_mwb C n (d + 1) i u = gIt (L_mwb C n d i u) (-1) n := by unfold f_mwb; rfl
theorem f_mwb_e {C : gT} {n d i : Nat} {u : Int32} {j : Nat} (hj : j < n) (hn : n ≤ 32) (h : (((C 34 i) &&& (u ^^^ (-1))) >>> ((nI j) &&& 31)) = 0) : gIt (L_mwb C n d i u) (-1) j = f_mwb C n (d + 1) i u := by
  rw [f_mwb_s]
  refine (gIt_stop (by omega) (fun k b h1 h2 => ?_)).symm
  unfold L_mwb
  rw [sh_stop h1 (by omega) h]
  exact if_pos (by decide)
set_option maxHeartbeats 4000000 in
set_option maxRecDepth 100000 in
theorem c_X4_mostWonderBehind (l : Launch) (D : va_G) (G : gG) (A : Nat → Prop) (ad : gAd) (N : gN) (C M : gT) (o : Nat → Int64) (Hp : Heap) (hW : gW D A ad (Wd G ad N C M o) Hp) (hC : IC N C) : ∀ (d i : Nat) (u : Int32), i < N 0 → d ≤ 100 → Met l yX4_mostWonderBehind wsX4_mostWonderBehind ({ frames := d + 4, cells := 0, slots := 0, locals := 30 * d + 100 }) (va_Pc [.ref (ad 1 0), .ref (ad 3 i), .int u, .int (nI d)] (gQ D (gTs G) Hp)) (gRi (fun r => r = f_mwb C (N 0) d i u) Hp) 0 0 gF := by
  intro d
  induction d with
  | zero =>
    intro i u hi hd
    refine g_start (cc := cX4_mostWonderBehind) (maxL := 9) (ret := (some .int)) (by decide) rfl (Nat.le_of_ble_eq_true rfl) (fun p e s m below meth c ls C0 hr hlk hnm hh hK hl => ?_)
    obtain ⟨hx, hb, hml, hown, hts⟩ := id C0
    have hown : s.vm.findClass RX4 = some m.cls := hown
    have hS : va_S gF Hp Hp [] := va_S.rf
    have hl : lv_has ls 9 [(0, .ref (ad 1 0)), (1, .ref (ad 3 i)), (2, .int u), (3, .int (nI 0))] := hl
    obtain ⟨⟨hc0, hc1, hc2, hc3⟩, hNN, hCp⟩ := id hC
    have hn0 := hNN 0 (by decide)
    have hn1 := hNN 1 (by decide)
    have hn2 := hNN 2 (by decide)
    have hn3 := hNN 3 (by decide)
    refine lv_iload_n hx hb dX4_mostWonderBehind_0 rfl (lv_at hl 3 rfl) ?_
    refine lv_if_gt (tgt := 6) hx hb dX4_mostWonderBehind_1 (by decide) (fun c_1_0 => ?_) (fun c_1_0 => ?_)
    · exact absurd c_1_0 (by decide)
    · refine lv_iconst (v := (-1)) hx hb dX4_mostWonderBehind_4 (by decide) ?_
      exact g_iret hx hb hr hlk hh hS (show (-1) = f_mwb C (N 0) 0 i u from (f_mwb_0 C (N 0) i u).symm) dX4_mostWonderBehind_5
  | succ d ih9 =>
    intro i u hi hd
    refine g_start (cc := cX4_mostWonderBehind) (maxL := 9) (ret := (some .int)) (by decide) rfl (Nat.le_of_ble_eq_true rfl) (fun p e s m below meth c ls C0 hr hlk hnm hh hK hl => ?_)
    obtain ⟨hx, hb, hml, hown, hts⟩ := id C0
    have hown : s.vm.findClass RX4 = some m.cls := hown
    have hS : va_S gF Hp Hp [] := va_S.rf
    have hl : lv_has ls 9 [(0, .ref (ad 1 0)), (1, .ref (ad 3 i)), (2, .int u), (3, .int (nI (d + 1)))] := hl
    have inX2 : ∀ w ∈ wsX20, w ∈ wsX4_mostWonderBehind := by decide +kernel
    obtain ⟨⟨hc0, hc1, hc2, hc3⟩, hNN, hCp⟩ := id hC
    have hn0 := hNN 0 (by decide)
    have hn1 := hNN 1 (by decide)
    have hn2 := hNN 2 (by decide)
    have hn3 := hNN 3 (by decide)
    refine lv_iload_n hx hb dX4_mostWonderBehind_0 rfl (lv_at hl 3 rfl) ?_
    refine lv_if_gt (tgt := 6) hx hb dX4_mostWonderBehind_1 (by decide) (fun c_1_0 => ?_) (fun c_1_0 => ?_)
    · refine lv_iconst (v := (-1)) hx hb dX4_mostWonderBehind_6 (by decide) ?_
      refine lv_istore (lv' := [(4, .int (-1)), (0, .ref (ad 1 0)), (1, .ref (ad 3 i)), (2, .int u), (3, .int (nI (d + 1)))]) hx hb dX4_mostWonderBehind_7 hl (by decide) rfl (fun ls hl => ?_)
      refine lv_aload_n hx hb dX4_mostWonderBehind_9 rfl (lv_at hl 2 rfl) ?_
      refine va_get (D := D) (ci := 3) (v := .int (C 34 i)) (C := RX2) (T := TX2) (N := 6) hx hb hts inX2 hown hK (hW.p (e := (eS C i)) (Wd_S hi)) 0 rfl rfl 4 (by decide) (hts (.fieldLink RX4 80 "StoryToll$Scene" "followers" "I") (List.mem_of_getElem? (i := 1) rfl)) (fun _ h9 => h9) rfl dX4_mostWonderBehind_10 ?_
      refine lv_iload_n hx hb dX4_mostWonderBehind_13 rfl (lv_at hl 3 rfl) ?_
      refine lv_iconst (v := (-1)) hx hb dX4_mostWonderBehind_14 (by decide) ?_
      refine lv_ixor hx hb dX4_mostWonderBehind_15 ?_
      refine lv_iand hx hb dX4_mostWonderBehind_16 ?_
      refine lv_istore (lv' := [(5, .int ((C 34 i) &&& (u ^^^ (-1)))), (4, .int (-1)), (0, .ref (ad 1 0)), (1, .ref (ad 3 i)), (2, .int u), (3, .int (nI (d + 1)))]) hx hb dX4_mostWonderBehind_17 hl (by decide) rfl (fun ls hl => ?_)
      refine lv_iconst (v := 0) hx hb dX4_mostWonderBehind_19 (by decide) ?_
      refine lv_istore (lv' := [(6, .int 0), (5, .int ((C 34 i) &&& (u ^^^ (-1)))), (4, .int (-1)), (0, .ref (ad 1 0)), (1, .ref (ad 3 i)), (2, .int u), (3, .int (nI (d + 1)))]) hx hb dX4_mostWonderBehind_20 hl (by decide) rfl (fun ls hl => ?_)
      refine g_loop (N 0) (fun j ls => lv_has ls 9 [(6, .int (nI j)), (5, .int ((C 34 i) &&& (u ^^^ (-1)))), (4, .int (gIt (L_mwb C (N 0) d i u) (-1) j)), (0, .ref (ad 1 0)), (1, .ref (ad 3 i)), (2, .int u), (3, .int (nI (d + 1)))]) (lv_sub hl [0, 1, 2, 3, 4, 5, 6] rfl) hS (fun ls locs hl hS => ?_) (fun j ls locs hj hl hS ih => ?_)
      · have hl : lv_has ls 9 [(6, .int (nI (N 0))), (5, .int ((C 34 i) &&& (u ^^^ (-1)))), (4, .int (gIt (L_mwb C (N 0) d i u) (-1) (N 0))), (0, .ref (ad 1 0)), (1, .ref (ad 3 i)), (2, .int u), (3, .int (nI (d + 1)))] := hl
        refine lv_iload hx hb dX4_mostWonderBehind_22 (lv_at hl 0 rfl) ?_
        refine lv_aload_n hx hb dX4_mostWonderBehind_24 rfl (lv_at hl 3 rfl) ?_
        refine g_Vi (As := []) (rest := [.int (nI (N 0))]) C0 (c_Jx4a65c_size_8abf5 l D G A ad N C M o Hp hW 0 (by decide)) (cwV 0 hts gX4_mostWonderBehind_Jx4a65c_size_8abf5 rfl rfl rfl (by decide +kernel) ⟨(by show 1 ≤ d + 1 + 4; omega), (by show 20 ≤ 30 * (d + 1) + 100; omega)⟩) hK (va_recv hK (hW.p (Wd_Li (by decide))) (ci := 0) (q0 := 0) rfl rfl) rfl hl rfl (Nat.le_of_ble_eq_true rfl) dX4_mostWonderBehind_25 ⟨Nat.zero_le _, Nat.zero_le _⟩ hS (fun r_2 locs hr_2 hS => ?_)
        replace hr_2 : r_2 = (nI (N 0)) := hr_2
        subst r_2
        refine lv_icmp_ge (tgt := 117) hx hb dX4_mostWonderBehind_28 (by decide) (fun c_28_2 => ?_) (fun c_28_2 => ?_)
        · refine lv_iload hx hb dX4_mostWonderBehind_117 (lv_at hl 2 rfl) ?_
          exact g_iret hx hb hr hlk hh hS (show (gIt (L_mwb C (N 0) d i u) (-1) (N 0)) = f_mwb C (N 0) (d + 1) i u from (f_mwb_s C (N 0) d i u).symm) dX4_mostWonderBehind_119
        · exact absurd (g_le rfl (by omega)) c_28_2
      · have hl : lv_has ls 9 [(6, .int (nI j)), (5, .int ((C 34 i) &&& (u ^^^ (-1)))), (4, .int (gIt (L_mwb C (N 0) d i u) (-1) j)), (0, .ref (ad 1 0)), (1, .ref (ad 3 i)), (2, .int u), (3, .int (nI (d + 1)))] := hl
        refine lv_iload hx hb dX4_mostWonderBehind_22 (lv_at hl 0 rfl) ?_
        refine lv_aload_n hx hb dX4_mostWonderBehind_24 rfl (lv_at hl 3 rfl) ?_
        refine g_Vi (As := []) (rest := [.int (nI j)]) C0 (c_Jx4a65c_size_8abf5 l D G A ad N C M o Hp hW 0 (by decide)) (cwV 0 hts gX4_mostWonderBehind_Jx4a65c_size_8abf5 rfl rfl rfl (by decide +kernel) ⟨(by show 1 ≤ d + 1 + 4; omega), (by show 20 ≤ 30 * (d + 1) + 100; omega)⟩) hK (va_recv hK (hW.p (Wd_Li (by decide))) (ci := 0) (q0 := 0) rfl rfl) rfl hl rfl (Nat.le_of_ble_eq_true rfl) dX4_mostWonderBehind_25 ⟨Nat.zero_le _, Nat.zero_le _⟩ hS (fun r_4 locs hr_4 hS => ?_)
        replace hr_4 : r_4 = (nI (N 0)) := hr_4
        subst r_4
        refine lv_icmp_ge (tgt := 117) hx hb dX4_mostWonderBehind_28 (by decide) (fun c_28_4 => ?_) (fun c_28_4 => ?_)
        · exact absurd c_28_4 (g_ge rfl (by omega) hj)
        · refine lv_iload hx hb dX4_mostWonderBehind_31 (lv_at hl 1 rfl) ?_
          refine lv_iload hx hb dX4_mostWonderBehind_33 (lv_at hl 0 rfl) ?_
          refine lv_ishr hx hb dX4_mostWonderBehind_35 ?_
          refine lv_if_eq (tgt := 117) hx hb dX4_mostWonderBehind_36 (by decide) (fun c_36_5 => ?_) (fun c_36_5 => ?_)
          · refine lv_iload hx hb dX4_mostWonderBehind_117 (lv_at hl 2 rfl) ?_
            exact g_iret hx hb hr hlk hh hS (show (gIt (L_mwb C (N 0) d i u) (-1) j) = f_mwb C (N 0) (d + 1) i u from f_mwb_e hj (by omega) c_36_5) dX4_mostWonderBehind_119
          · skip
            refine lv_iload hx hb dX4_mostWonderBehind_39 (lv_at hl 1 rfl) ?_
            refine lv_iload hx hb dX4_mostWonderBehind_41 (lv_at hl 0 rfl) ?_
            refine lv_ishr hx hb dX4_mostWonderBehind_43 ?_
            refine lv_iconst (v := 1) hx hb dX4_mostWonderBehind_44 (by decide) ?_
            refine lv_iand hx hb dX4_mostWonderBehind_45 ?_
            refine lv_if_eq (tgt := 111) hx hb dX4_mostWonderBehind_46 (by decide) (fun c_46_6 => ?_) (fun c_46_6 => ?_)
            · refine lv_iinc (v := (nI (j + 1))) (lv' := [(6, .int (nI (j + 1))), (5, .int ((C 34 i) &&& (u ^^^ (-1)))), (4, .int (gIt (L_mwb C (N 0) d i u) (-1) j)), (0, .ref (ad 1 0)), (1, .ref (ad 3 i)), (2, .int u), (3, .int (nI (d + 1)))]) hx hb dX4_mostWonderBehind_111 hl (k := 0) rfl (nI_1 _) (by decide) rfl (fun ls hl => ?_)
              refine lv_goto (tgt := 22) hx hb dX4_mostWonderBehind_114 (by decide) ?_
              have ea : (gIt (L_mwb C (N 0) d i u) (-1) j) = (gIt (L_mwb C (N 0) d i u) (-1) (j + 1)) := (show (gIt (L_mwb C (N 0) d i u) (-1) j) = L_mwb C (N 0) d i u j (gIt (L_mwb C (N 0) d i u) (-1) j) from by (rw [L_mwb, if_pos c_46_6]) <;> rfl)
              have hl2 : lv_has ls 9 [(6, .int (nI (j + 1))), (5, .int ((C 34 i) &&& (u ^^^ (-1)))), (4, .int (gIt (L_mwb C (N 0) d i u) (-1) (j + 1))), (0, .ref (ad 1 0)), (1, .ref (ad 3 i)), (2, .int u), (3, .int (nI (d + 1)))] := by rw [← ea]; exact lv_sub hl [0, 1, 2, 3, 4, 5, 6] rfl
              exact ih ls locs hl2 hS
            · refine lv_aload_n hx hb dX4_mostWonderBehind_49 rfl (lv_at hl 3 rfl) ?_
              refine lv_iload hx hb dX4_mostWonderBehind_50 (lv_at hl 0 rfl) ?_
              refine g_Vr (As := [.int (nI j)]) (rest := []) C0 (c_Jx4a65c_get_915e3 l D G A ad N C M o Hp hW 0 (by decide) hNN j _ rfl (by omega)) (cwV 1 hts gX4_mostWonderBehind_Jx4a65c_get_915e3 rfl rfl rfl (by decide +kernel) ⟨(by show 3 ≤ d + 1 + 4; omega), (by show 64 ≤ 30 * (d + 1) + 100; omega)⟩) hK (va_recv hK (hW.p (Wd_Li (by decide))) (ci := 0) (q0 := 0) rfl rfl) rfl hl rfl (Nat.le_of_ble_eq_true rfl) dX4_mostWonderBehind_52 ⟨Nat.zero_le _, Nat.zero_le _⟩ hS (fun r_8 locs hr_8 hS => ?_)
              replace hr_8 : r_8 = ad 3 j := hr_8
              subst r_8
              refine g_cast hx hb hown hK hW (Wd_S (by omega)) rfl (hts (.classLink RX4 45 "StoryToll$Scene") (List.mem_of_getElem? (i := 2) rfl)) dX4_mostWonderBehind_55 ?_
              refine lv_astore (lv' := [(7, .ref (ad 3 j)), (6, .int (nI j)), (5, .int ((C 34 i) &&& (u ^^^ (-1)))), (4, .int (gIt (L_mwb C (N 0) d i u) (-1) j)), (0, .ref (ad 1 0)), (1, .ref (ad 3 i)), (2, .int u), (3, .int (nI (d + 1)))]) hx hb dX4_mostWonderBehind_58 hl (by decide) rfl (fun ls hl => ?_)
              refine lv_aload hx hb dX4_mostWonderBehind_60 (lv_at hl 0 rfl) ?_
              refine va_get (D := D) (ci := 3) (v := .int (C 31 j)) (C := RX2) (T := TX2) (N := 6) hx hb hts inX2 hown hK (hW.p (e := (eS C j)) (Wd_S (by omega))) 0 rfl rfl 1 (by decide) (hts (.fieldLink RX4 63 "StoryToll$Scene" "kind" "I") (List.mem_of_getElem? (i := 3) rfl)) (fun _ h9 => h9) rfl dX4_mostWonderBehind_62 ?_
              refine lv_iconst (v := 2) hx hb dX4_mostWonderBehind_65 (by decide) ?_
              refine lv_icmp_ne (tgt := 73) hx hb dX4_mostWonderBehind_66 (by decide) (fun c_66_8 => ?_) (fun c_66_8 => ?_)
              · refine lv_aload_n hx hb dX4_mostWonderBehind_73 rfl (lv_at hl 4 rfl) ?_
                refine lv_aload hx hb dX4_mostWonderBehind_74 (lv_at hl 0 rfl) ?_
                refine lv_iload_n hx hb dX4_mostWonderBehind_76 rfl (lv_at hl 6 rfl) ?_
                refine lv_aload hx hb dX4_mostWonderBehind_77 (lv_at hl 0 rfl) ?_
                refine g_Vi (As := []) (rest := [.int u, .ref (ad 3 j), .ref (ad 1 0)]) C0 (c_X2_asSet l D G A ad N C M o Hp hW j (by omega)) (cwV 0 hts gX4_mostWonderBehind_X2_asSet rfl rfl rfl (by decide +kernel) ⟨(by show 1 ≤ d + 1 + 4; omega), (by show 20 ≤ 30 * (d + 1) + 100; omega)⟩) hK (va_recv hK (hW.p (Wd_S (by omega))) (ci := 3) (q0 := 0) rfl rfl) rfl hl rfl (Nat.le_of_ble_eq_true rfl) dX4_mostWonderBehind_79 ⟨Nat.zero_le _, Nat.zero_le _⟩ hS (fun r_10 locs hr_10 hS => ?_)
                replace hr_10 : r_10 = (f_X2_asSet C j) := hr_10
                subst r_10
                refine lv_ior hx hb dX4_mostWonderBehind_82 ?_
                refine lv_iload_n hx hb dX4_mostWonderBehind_83 rfl (lv_at hl 7 rfl) ?_
                refine lv_iconst (v := 1) hx hb dX4_mostWonderBehind_84 (by decide) ?_
                refine lv_isub hx hb dX4_mostWonderBehind_85 ?_
                rw [show ((nI (d + 1)) - 1) = (nI d) from nI_pred d]
                refine g_Si (As := [.ref (ad 1 0), .ref (ad 3 j), .int (u ||| (f_X2_asSet C j)), .int (nI d)]) (rest := []) C0 (ih9 j (u ||| (f_X2_asSet C j)) (by omega) (by omega)) (va_cwS 4 hts gX4_mostWonderBehind_X4_mostWonderBehind rfl rfl rfl (by decide +kernel) ⟨(by show (d + 4) + 1 ≤ d + 1 + 4; omega), (by show 8 + (9 + 11) + (30 * d + 100) ≤ 30 * (d + 1) + 100; omega)⟩) hK rfl hl rfl (Nat.le_of_ble_eq_true rfl) dX4_mostWonderBehind_86 ⟨Nat.zero_le _, Nat.zero_le _⟩ hS (fun r_11 locs hr_11 hS => ?_)
                replace hr_11 : r_11 = (f_mwb C (N 0) d j (u ||| (f_X2_asSet C j))) := hr_11
                subst r_11
                refine lv_istore (lv' := [(8, .int (f_mwb C (N 0) d j (u ||| (f_X2_asSet C j)))), (7, .ref (ad 3 j)), (6, .int (nI j)), (5, .int ((C 34 i) &&& (u ^^^ (-1)))), (4, .int (gIt (L_mwb C (N 0) d i u) (-1) j)), (0, .ref (ad 1 0)), (1, .ref (ad 3 i)), (2, .int u), (3, .int (nI (d + 1)))]) hx hb dX4_mostWonderBehind_89 hl (by decide) rfl (fun ls hl => ?_)
                refine lv_iload hx hb dX4_mostWonderBehind_91 (lv_at hl 0 rfl) ?_
                refine lv_if_lt (tgt := 111) hx hb dX4_mostWonderBehind_93 (by decide) (fun c_93_11 => ?_) (fun c_93_11 => ?_)
                · refine lv_iinc (v := (nI (j + 1))) (lv' := [(6, .int (nI (j + 1))), (8, .int (f_mwb C (N 0) d j (u ||| (f_X2_asSet C j)))), (7, .ref (ad 3 j)), (5, .int ((C 34 i) &&& (u ^^^ (-1)))), (4, .int (gIt (L_mwb C (N 0) d i u) (-1) j)), (0, .ref (ad 1 0)), (1, .ref (ad 3 i)), (2, .int u), (3, .int (nI (d + 1)))]) hx hb dX4_mostWonderBehind_111 hl (k := 2) rfl (nI_1 _) (by decide) rfl (fun ls hl => ?_)
                  refine lv_goto (tgt := 22) hx hb dX4_mostWonderBehind_114 (by decide) ?_
                  have ea : (gIt (L_mwb C (N 0) d i u) (-1) j) = (gIt (L_mwb C (N 0) d i u) (-1) (j + 1)) := (show (gIt (L_mwb C (N 0) d i u) (-1) j) = L_mwb C (N 0) d i u j (gIt (L_mwb C (N 0) d i u) (-1) j) from by (rw [L_mwb, if_neg c_46_6, if_neg c_66_8, if_pos c_93_11]) <;> rfl)
                  have hl2 : lv_has ls 9 [(6, .int (nI (j + 1))), (5, .int ((C 34 i) &&& (u ^^^ (-1)))), (4, .int (gIt (L_mwb C (N 0) d i u) (-1) (j + 1))), (0, .ref (ad 1 0)), (1, .ref (ad 3 i)), (2, .int u), (3, .int (nI (d + 1)))] := by rw [← ea]; exact lv_sub hl [0, 3, 4, 5, 6, 7, 8] rfl
                  exact ih ls locs hl2 hS
                · refine lv_iload hx hb dX4_mostWonderBehind_96 (lv_at hl 4 rfl) ?_
                  refine lv_aload hx hb dX4_mostWonderBehind_98 (lv_at hl 1 rfl) ?_
                  refine va_get (D := D) (ci := 3) (v := .int (C 32 j)) (C := RX2) (T := TX2) (N := 6) hx hb hts inX2 hown hK (hW.p (e := (eS C j)) (Wd_S (by omega))) 0 rfl rfl 2 (by decide) (hts (.fieldLink RX4 281 "StoryToll$Scene" "wonder" "I") (List.mem_of_getElem? (i := 4) rfl)) (fun _ h9 => h9) rfl dX4_mostWonderBehind_100 ?_
                  refine lv_iload hx hb dX4_mostWonderBehind_103 (lv_at hl 0 rfl) ?_
                  refine lv_iadd hx hb dX4_mostWonderBehind_105 ?_
                  refine va_mmax hx hb (hml.trans hl.1.symm) hown (hts (.methodLink RX4 256 Lib.Math.max.name) (List.mem_of_getElem? (i := 5) rfl)) (hts (.static Lib.Math.max.name) (List.mem_of_getElem? (i := 6) rfl)) (hts (.initialized "java/lang/Math") (List.mem_of_getElem? (i := 7) rfl)) (hts (.code Lib.Math.max.name Lib.Math.max.code 2 (some .int)) (List.mem_of_getElem? (i := 8) rfl)) (by show 1 ≤ d + 1 + 4; omega) (by show _ ≤ 30 * (d + 1) + 100; exact Nat.le_trans (Nat.le_of_ble_eq_true rfl : _ ≤ 30) (by omega)) (Nat.zero_le _) (Nat.zero_le _) dX4_mostWonderBehind_106 ?_
                  refine lv_istore (lv' := [(4, .int (if (gIt (L_mwb C (N 0) d i u) (-1) j) < ((C 32 j) + (f_mwb C (N 0) d j (u ||| (f_X2_asSet C j)))) then ((C 32 j) + (f_mwb C (N 0) d j (u ||| (f_X2_asSet C j)))) else (gIt (L_mwb C (N 0) d i u) (-1) j))), (8, .int (f_mwb C (N 0) d j (u ||| (f_X2_asSet C j)))), (7, .ref (ad 3 j)), (6, .int (nI j)), (5, .int ((C 34 i) &&& (u ^^^ (-1)))), (0, .ref (ad 1 0)), (1, .ref (ad 3 i)), (2, .int u), (3, .int (nI (d + 1)))]) hx hb dX4_mostWonderBehind_109 hl (by decide) rfl (fun ls hl => ?_)
                  refine lv_iinc (v := (nI (j + 1))) (lv' := [(6, .int (nI (j + 1))), (4, .int (if (gIt (L_mwb C (N 0) d i u) (-1) j) < ((C 32 j) + (f_mwb C (N 0) d j (u ||| (f_X2_asSet C j)))) then ((C 32 j) + (f_mwb C (N 0) d j (u ||| (f_X2_asSet C j)))) else (gIt (L_mwb C (N 0) d i u) (-1) j))), (8, .int (f_mwb C (N 0) d j (u ||| (f_X2_asSet C j)))), (7, .ref (ad 3 j)), (5, .int ((C 34 i) &&& (u ^^^ (-1)))), (0, .ref (ad 1 0)), (1, .ref (ad 3 i)), (2, .int u), (3, .int (nI (d + 1)))]) hx hb dX4_mostWonderBehind_111 hl (k := 3) rfl (nI_1 _) (by decide) rfl (fun ls hl => ?_)
                  refine lv_goto (tgt := 22) hx hb dX4_mostWonderBehind_114 (by decide) ?_
                  have ea : (if (gIt (L_mwb C (N 0) d i u) (-1) j) < ((C 32 j) + (f_mwb C (N 0) d j (u ||| (f_X2_asSet C j)))) then ((C 32 j) + (f_mwb C (N 0) d j (u ||| (f_X2_asSet C j)))) else (gIt (L_mwb C (N 0) d i u) (-1) j)) = (gIt (L_mwb C (N 0) d i u) (-1) (j + 1)) := (show (if (gIt (L_mwb C (N 0) d i u) (-1) j) < ((C 32 j) + (f_mwb C (N 0) d j (u ||| (f_X2_asSet C j)))) then ((C 32 j) + (f_mwb C (N 0) d j (u ||| (f_X2_asSet C j)))) else (gIt (L_mwb C (N 0) d i u) (-1) j)) = L_mwb C (N 0) d i u j (gIt (L_mwb C (N 0) d i u) (-1) j) from by (rw [L_mwb, if_neg c_46_6, if_neg c_66_8, if_neg c_93_11]) <;> rfl)
                  have hl2 : lv_has ls 9 [(6, .int (nI (j + 1))), (5, .int ((C 34 i) &&& (u ^^^ (-1)))), (4, .int (gIt (L_mwb C (N 0) d i u) (-1) (j + 1))), (0, .ref (ad 1 0)), (1, .ref (ad 3 i)), (2, .int u), (3, .int (nI (d + 1)))] := by rw [← ea]; exact lv_sub hl [0, 4, 1, 5, 6, 7, 8] rfl
                  exact ih ls locs hl2 hS
              · refine lv_iconst (v := 0) hx hb dX4_mostWonderBehind_69 (by decide) ?_
                refine lv_goto (tgt := 89) hx hb dX4_mostWonderBehind_70 (by decide) ?_
                refine lv_istore (lv' := [(8, .int 0), (7, .ref (ad 3 j)), (6, .int (nI j)), (5, .int ((C 34 i) &&& (u ^^^ (-1)))), (4, .int (gIt (L_mwb C (N 0) d i u) (-1) j)), (0, .ref (ad 1 0)), (1, .ref (ad 3 i)), (2, .int u), (3, .int (nI (d + 1)))]) hx hb dX4_mostWonderBehind_89 hl (by decide) rfl (fun ls hl => ?_)
                refine lv_iload hx hb dX4_mostWonderBehind_91 (lv_at hl 0 rfl) ?_
                refine lv_if_lt (tgt := 111) hx hb dX4_mostWonderBehind_93 (by decide) (fun c_93_12 => ?_) (fun c_93_12 => ?_)
                · exact absurd c_93_12 (by decide)
                · refine lv_iload hx hb dX4_mostWonderBehind_96 (lv_at hl 4 rfl) ?_
                  refine lv_aload hx hb dX4_mostWonderBehind_98 (lv_at hl 1 rfl) ?_
                  refine va_get (D := D) (ci := 3) (v := .int (C 32 j)) (C := RX2) (T := TX2) (N := 6) hx hb hts inX2 hown hK (hW.p (e := (eS C j)) (Wd_S (by omega))) 0 rfl rfl 2 (by decide) (hts (.fieldLink RX4 281 "StoryToll$Scene" "wonder" "I") (List.mem_of_getElem? (i := 4) rfl)) (fun _ h9 => h9) rfl dX4_mostWonderBehind_100 ?_
                  refine lv_iload hx hb dX4_mostWonderBehind_103 (lv_at hl 0 rfl) ?_
                  refine lv_iadd hx hb dX4_mostWonderBehind_105 ?_
                  refine va_mmax hx hb (hml.trans hl.1.symm) hown (hts (.methodLink RX4 256 Lib.Math.max.name) (List.mem_of_getElem? (i := 5) rfl)) (hts (.static Lib.Math.max.name) (List.mem_of_getElem? (i := 6) rfl)) (hts (.initialized "java/lang/Math") (List.mem_of_getElem? (i := 7) rfl)) (hts (.code Lib.Math.max.name Lib.Math.max.code 2 (some .int)) (List.mem_of_getElem? (i := 8) rfl)) (by show 1 ≤ d + 1 + 4; omega) (by show _ ≤ 30 * (d + 1) + 100; exact Nat.le_trans (Nat.le_of_ble_eq_true rfl : _ ≤ 30) (by omega)) (Nat.zero_le _) (Nat.zero_le _) dX4_mostWonderBehind_106 ?_
                  refine lv_istore (lv' := [(4, .int (if (gIt (L_mwb C (N 0) d i u) (-1) j) < ((C 32 j) + 0) then ((C 32 j) + 0) else (gIt (L_mwb C (N 0) d i u) (-1) j))), (8, .int 0), (7, .ref (ad 3 j)), (6, .int (nI j)), (5, .int ((C 34 i) &&& (u ^^^ (-1)))), (0, .ref (ad 1 0)), (1, .ref (ad 3 i)), (2, .int u), (3, .int (nI (d + 1)))]) hx hb dX4_mostWonderBehind_109 hl (by decide) rfl (fun ls hl => ?_)
                  refine lv_iinc (v := (nI (j + 1))) (lv' := [(6, .int (nI (j + 1))), (4, .int (if (gIt (L_mwb C (N 0) d i u) (-1) j) < ((C 32 j) + 0) then ((C 32 j) + 0) else (gIt (L_mwb C (N 0) d i u) (-1) j))), (8, .int 0), (7, .ref (ad 3 j)), (5, .int ((C 34 i) &&& (u ^^^ (-1)))), (0, .ref (ad 1 0)), (1, .ref (ad 3 i)), (2, .int u), (3, .int (nI (d + 1)))]) hx hb dX4_mostWonderBehind_111 hl (k := 3) rfl (nI_1 _) (by decide) rfl (fun ls hl => ?_)
                  refine lv_goto (tgt := 22) hx hb dX4_mostWonderBehind_114 (by decide) ?_
                  have ea : (if (gIt (L_mwb C (N 0) d i u) (-1) j) < ((C 32 j) + 0) then ((C 32 j) + 0) else (gIt (L_mwb C (N 0) d i u) (-1) j)) = (gIt (L_mwb C (N 0) d i u) (-1) (j + 1)) := (show (if (gIt (L_mwb C (N 0) d i u) (-1) j) < ((C 32 j) + 0) then ((C 32 j) + 0) else (gIt (L_mwb C (N 0) d i u) (-1) j)) = L_mwb C (N 0) d i u j (gIt (L_mwb C (N 0) d i u) (-1) j) from by (rw [L_mwb, if_neg c_46_6, if_pos c_66_8]) <;> rfl)
                  have hl2 : lv_has ls 9 [(6, .int (nI (j + 1))), (5, .int ((C 34 i) &&& (u ^^^ (-1)))), (4, .int (gIt (L_mwb C (N 0) d i u) (-1) (j + 1))), (0, .ref (ad 1 0)), (1, .ref (ad 3 i)), (2, .int u), (3, .int (nI (d + 1)))] := by rw [← ea]; exact lv_sub hl [0, 4, 1, 5, 6, 7, 8] rfl
                  exact ih ls locs hl2 hS
    · exact absurd (Int32.not_le.mp (nI_nle (by omega) (by omega))) c_1_0
