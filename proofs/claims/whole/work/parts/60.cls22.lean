/-! THE LAW'S LOOP -/
set_option maxHeartbeats 4000000 in
set_option maxRecDepth 100000 in
theorem law_loop {p : Program} {l : Launch} {e : Env} {s : State} {m : MethodId} {below : List Frame} {meth : Method} {c : Code} {b L : Nat} {xs : Nat → Int32} {D : va_G} {G : gG} {mi : Nat} (hLC : LC p l s m meth c b L xs D G mi) :
    ∀ (n k : Nat), 4 * k ≤ L → L < 4 * (k + n) → ∀ (ad : gAd) (N : gN) (C M : gT) (o : Nat → Int64) (H : Heap) (locs : List Loc) (ls : Array Slot), gW D (lwA s) ad (Wd G ad N C M o) H → Rel k N C M → va_S (lwA s) s.heap H locs → lv_has ls 9 [(4, .int (nI (4 * k))), (0, .ref b), (1, .ref (ad 0 0)), (2, .ref (ad 0 1)), (3, .ref (ad 0 2))] → W p l e room_1 s m #[Value.ref b] below meth c H locs (22 + k * 1173) (397 + k * 14243) (lw_Z below #[Value.ref b] s) (F0 m 23 ls []) := by
  obtain ⟨hAt, hl0, hK, hE, hL, hNe, hNc, hL2⟩ := id hLC
  obtain ⟨hx, hb, hrt, hml, hown, hts0, hX, hbl, hlocks, hgv⟩ := hAt
  have hbA : ¬ lwA s b := Nat.not_le.mpr hbl
  intro n
  induction n with
  | zero =>
    intro k h1 h2
    exact absurd h2 (by omega)
  | succ n ih =>
    intro k h1 h2 ad N C M o H locs ls hW hR hS hl
    refine lv_iload hx hb dL_law_23 (lv_at hl 0 rfl) ?_
    refine lv_aload_n hx hb dL_law_25 rfl (lv_at hl 1 rfl) ?_
    refine va_slen hx hb hX hbl hbA hS dL_law_26 ?_
    refine lv_iconst (v := 4) hx hb dL_law_27 (by decide) ?_
    refine lv_isub hx hb dL_law_28 ?_
    have eL : (Int32.ofNat L - 4).toInt = (L : Int) - 4 := pk_sub_toInt (a := L) (b := 4) (by omega) (by omega)
    refine lv_icmp_gt (tgt := 1412) hx hb dL_law_29 (by decide) (fun c9 => ?_) (fun c9 => ?_)
    · refine lv_iconst (v := 1) hx hb dL_law_1412 (by decide) ?_
      refine va_forget (fun q hq => hS.2.2 q hq) ?_
      refine W.widen (k := 601024) (n := 7293034) (by omega) (by omega) ?_
      exact lw_ret (d0 := s.drawn) (Drawn.sameBut.refl s.drawn lw_cs) hx hb hrt hlocks dL_law_1413
    · have hk : 4 * k + 4 ≤ L := by
        rw [Int32.lt_iff_toInt_lt, eL, nI_toInt (by omega)] at c9
        omega
      have nx : ∀ (ad2 : gAd) (N2 : gN) (C2 M2 : gT) (o2 : Nat → Int64) (H2 : Heap) (locs2 : List Loc) (ls2 : Array Slot), gW D (lwA s) ad2 (Wd G ad2 N2 C2 M2 o2) H2 → Rel (k + 1) N2 C2 M2 → (∀ i, ad2 0 i = ad 0 i) → va_S (lwA s) s.heap H2 locs2 → lv_has ls2 9 [(4, .int (nI (4 * k))), (0, .ref b), (1, .ref (ad 0 0)), (2, .ref (ad 0 1)), (3, .ref (ad 0 2))] → W p l e room_1 s m #[Value.ref b] below meth c H2 locs2 (22 + (k + 1) * 1173) (397 + (k + 1) * 14243) (lw_Z below #[Value.ref b] s) (F0 m 1406 ls2 []) := by
        intro ad2 N2 C2 M2 o2 H2 locs2 ls2 hW hR hu hS hl
        refine lv_iinc (v := nI (4 * (k + 1))) (lv' := [(4, .int (nI (4 * (k + 1)))), (0, .ref b), (1, .ref (ad 0 0)), (2, .ref (ad 0 1)), (3, .ref (ad 0 2))]) hx hb dL_law_1406 hl (k := 0) rfl (nI_add _ 4) (by decide) rfl (fun ls hl => ?_)
        refine lv_goto (tgt := 23) hx hb dL_law_1409 (by decide) ?_
        rw [← hu 0, ← hu 1, ← hu 2] at hl
        exact ih (k + 1) (by omega) (by omega) ad2 N2 C2 M2 o2 H2 locs2 _ hW hR hS hl
      refine lv_aload_n hx hb dL_law_32 rfl (lv_at hl 1 rfl) ?_
      refine lv_iload hx hb dL_law_33 (lv_at hl 0 rfl) ?_
      refine va_sld hx hb hX hbl hbA hS (vp_in_nI (show 4 * k < L by omega) (by omega)) dL_law_35 ?_
      refine lv_bipush (v := 31) hx hb dL_law_36 (by decide) ?_
      refine lv_iand hx hb dL_law_38 ?_
      generalize (xs (nI (4 * k)).toNatClampNeg &&& 31) = z
      by_cases c_0 : z = 0
      · refine lv_tableIn (off := 97) (tgt := 136) hx hb dL_law_39 (by rw [c_0]; decide) (by rw [c_0]; decide) (by rw [c_0]; rfl) (by decide) ?_
        exact law_make hLC hk hW hR hS hl nx
      by_cases c_1 : z = 1
      · refine lv_tableIn (off := 177) (tgt := 216) hx hb dL_law_39 (by rw [c_1]; decide) (by rw [c_1]; decide) (by rw [c_1]; rfl) (by decide) ?_
        exact law_follow hLC hk hW hR hS hl nx
      by_cases c_2 : z = 2
      · refine lv_tableIn (off := 245) (tgt := 284) hx hb dL_law_39 (by rw [c_2]; decide) (by rw [c_2]; decide) (by rw [c_2]; rfl) (by decide) ?_
        exact law_post hLC hk hW hR hS hl nx
      by_cases c_3 : z = 3
      · refine lv_tableIn (off := 289) (tgt := 328) hx hb dL_law_39 (by rw [c_3]; decide) (by rw [c_3]; decide) (by rw [c_3]; rfl) (by decide) ?_
        exact law_come hLC hk hW hR hS hl nx
      by_cases c_4 : z = 4
      · refine lv_tableIn (off := 345) (tgt := 384) hx hb dL_law_39 (by rw [c_4]; decide) (by rw [c_4]; decide) (by rw [c_4]; rfl) (by decide) ?_
        exact law_tell hLC hk hW hR hS hl nx
      by_cases c_5 : z = 5
      · refine lv_tableIn (off := 425) (tgt := 464) hx hb dL_law_39 (by rw [c_5]; decide) (by rw [c_5]; decide) (by rw [c_5]; rfl) (by decide) ?_
        exact law_reserve hLC hk hW hR hS hl nx
      by_cases c_6 : z = 6
      · refine lv_tableIn (off := 493) (tgt := 532) hx hb dL_law_39 (by rw [c_6]; decide) (by rw [c_6]; decide) (by rw [c_6]; rfl) (by decide) ?_
        exact law_pass hLC hk hW hR hS hl nx
      by_cases c_7 : z = 7
      · refine lv_tableIn (off := 556) (tgt := 595) hx hb dL_law_39 (by rw [c_7]; decide) (by rw [c_7]; decide) (by rw [c_7]; rfl) (by decide) ?_
        exact law_send hLC hk hW hR hS hl nx
      by_cases c_8 : z = 8
      · refine lv_tableIn (off := 612) (tgt := 651) hx hb dL_law_39 (by rw [c_8]; decide) (by rw [c_8]; decide) (by rw [c_8]; rfl) (by decide) ?_
        exact law_watch hLC hk hW hR hS hl nx
      by_cases c_9 : z = 9
      · refine lv_tableIn (off := 668) (tgt := 707) hx hb dL_law_39 (by rw [c_9]; decide) (by rw [c_9]; decide) (by rw [c_9]; rfl) (by decide) ?_
        exact law_scene hLC hk hW hR hS hl nx
      by_cases c_10 : z = 10
      · refine lv_tableIn (off := 736) (tgt := 775) hx hb dL_law_39 (by rw [c_10]; decide) (by rw [c_10]; decide) (by rw [c_10]; rfl) (by decide) ?_
        exact law_guard hLC hk hW hR hS hl nx
      by_cases c_11 : z = 11
      · refine lv_tableIn (off := 804) (tgt := 843) hx hb dL_law_39 (by rw [c_11]; decide) (by rw [c_11]; decide) (by rw [c_11]; rfl) (by decide) ?_
        exact law_traveller hLC hk hW hR hS hl nx
      by_cases c_12 : z = 12
      · refine lv_tableIn (off := 872) (tgt := 911) hx hb dL_law_39 (by rw [c_12]; decide) (by rw [c_12]; decide) (by rw [c_12]; rfl) (by decide) ?_
        exact law_plot hLC hk hW hR hS hl nx
      by_cases c_13 : z = 13
      · refine lv_tableIn (off := 940) (tgt := 979) hx hb dL_law_39 (by rw [c_13]; decide) (by rw [c_13]; decide) (by rw [c_13]; rfl) (by decide) ?_
        exact law_told hLC hk hW hR hS hl nx
      by_cases c_14 : z = 14
      · refine lv_tableIn (off := 1008) (tgt := 1047) hx hb dL_law_39 (by rw [c_14]; decide) (by rw [c_14]; decide) (by rw [c_14]; rfl) (by decide) ?_
        exact law_count hLC hk hW hR hS hl nx
      by_cases c_15 : z = 15
      · refine lv_tableIn (off := 1064) (tgt := 1103) hx hb dL_law_39 (by rw [c_15]; decide) (by rw [c_15]; decide) (by rw [c_15]; rfl) (by decide) ?_
        exact law_worth hLC hk hW hR hS hl nx
      by_cases c_16 : z = 16
      · refine lv_tableIn (off := 1132) (tgt := 1171) hx hb dL_law_39 (by rw [c_16]; decide) (by rw [c_16]; decide) (by rw [c_16]; rfl) (by decide) ?_
        exact law_best hLC hk hW hR hS hl nx
      by_cases c_17 : z = 17
      · refine lv_tableIn (off := 1200) (tgt := 1239) hx hb dL_law_39 (by rw [c_17]; decide) (by rw [c_17]; decide) (by rw [c_17]; rfl) (by decide) ?_
        exact law_most hLC hk hW hR hS hl nx
      by_cases c_18 : z = 18
      · refine lv_tableIn (off := 1256) (tgt := 1295) hx hb dL_law_39 (by rw [c_18]; decide) (by rw [c_18]; decide) (by rw [c_18]; rfl) (by decide) ?_
        exact law_sleeps hLC hk hW hR hS hl nx
      by_cases c_19 : z = 19
      · refine lv_tableIn (off := 1312) (tgt := 1351) hx hb dL_law_39 (by rw [c_19]; decide) (by rw [c_19]; decide) (by rw [c_19]; rfl) (by decide) ?_
        exact law_mean hLC hk hW hR hS hl nx
      by_cases c_20 : z = 20
      · refine lv_tableIn (off := 1353) (tgt := 1392) hx hb dL_law_39 (by rw [c_20]; decide) (by rw [c_20]; decide) (by rw [c_20]; rfl) (by decide) ?_
        exact law_digest hLC hk hW hR hS hl nx
      refine lv_tableOut (tgt := 1406) hx hb dL_law_39 (by have e0 := g_ti c_0 (k := 0) rfl; have e1 := g_ti c_1 (k := 1) rfl; have e2 := g_ti c_2 (k := 2) rfl; have e3 := g_ti c_3 (k := 3) rfl; have e4 := g_ti c_4 (k := 4) rfl; have e5 := g_ti c_5 (k := 5) rfl; have e6 := g_ti c_6 (k := 6) rfl; have e7 := g_ti c_7 (k := 7) rfl; have e8 := g_ti c_8 (k := 8) rfl; have e9 := g_ti c_9 (k := 9) rfl; have e10 := g_ti c_10 (k := 10) rfl; have e11 := g_ti c_11 (k := 11) rfl; have e12 := g_ti c_12 (k := 12) rfl; have e13 := g_ti c_13 (k := 13) rfl; have e14 := g_ti c_14 (k := 14) rfl; have e15 := g_ti c_15 (k := 15) rfl; have e16 := g_ti c_16 (k := 16) rfl; have e17 := g_ti c_17 (k := 17) rfl; have e18 := g_ti c_18 (k := 18) rfl; have e19 := g_ti c_19 (k := 19) rfl; have e20 := g_ti c_20 (k := 20) rfl; omega) (by decide) ?_
      refine W.widen (k := 22 + (k + 1) * 1173) (n := 397 + (k + 1) * 14243) (by omega) (by omega) ?_
      exact nx ad N C M o H locs _ hW (hR.mono (Nat.le_succ k)) (fun _ => rfl) hS hl
