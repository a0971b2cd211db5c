/-! THE LAW, from its entry -/
set_option maxHeartbeats 4000000 in
set_option maxRecDepth 100000 in
theorem whole_start {p : Program} {e : Env} {s : State} {m : MethodId} {below : List Frame} {meth : Method} {c : Code} (l : Launch) (hflags : l.flags = flags0) {b L : Nat} {xs : Nat → Int32} (hL : L ≤ 2048) (C0 : lw_At p s m meth c b L xs) : W p l e room_1 s m #[Value.ref b] below meth c s.heap [] 0 0 (lw_Z below #[Value.ref b] s) (entryFrame m ([Value.ref b] : List Value).toArray 9) := by
  obtain ⟨D, G, mi, hLC⟩ := law_env hflags hL C0
  obtain ⟨hAt, hl0, hK, hE, hLe, hNe, hNc, hL2⟩ := id hLC
  obtain ⟨hx, hb, hrt, hml, hown, hts, hX, hbl, hlocks, hgv⟩ := id C0
  have hown : s.vm.findClass RL = some m.cls := hown
  have hts2 : ∀ w ∈ wsL_law, w.before #[Value.ref b] s = true := fun w h => hts w (wsL_law_in w h)
  have C1 : CallFix p m c cL_law 9 s #[Value.ref b] wsL_law RL := ⟨hx, hb, hml, hown, hts2⟩
  have hS : va_S (lwA s) s.heap s.heap [] := va_S.rf
  have hA : ∀ q : Nat, s.heap.size ≤ q → lwA s q := fun _ h => h
  have hl := lv_entry ([.ref b]) (n := 9) (Nat.le_of_ble_eq_true rfl)
  rw [lg_entry_eq]
  generalize (lg_sl ([.ref b]) ++ List.replicate (9 - (lg_sl ([.ref b])).length) Slot.unset).toArray = ls at hl ⊢
  have hl : lv_has ls 9 [(0, .ref b)] := hl
  have hW : gW D (lwA s) (fun _ _ => 0) (fun _ _ => none) s.heap := ⟨fun b i e h => (by cases h), fun b i b' i' h => absurd rfl h⟩
  refine g_new (D := D) (C := RX4) (T := TX4) (N := 9) (ci := 5) hx hb hts inX4 tyX4 tyX4_ok hown (hts _ (in_c _ (List.mem_of_getElem? (i := 27) rfl))) (hts _ (in_c _ (List.mem_of_getElem? (i := 25) rfl))) (hts _ (in_c _ (List.mem_of_getElem? (i := 28) rfl))) hK hW hS hA rfl (fs := [.null, .null, .null, .null, .int 0, .int 0, .int 0, .int 0, .int 0]) (fun j9 hj9 => match j9, hj9 with | 0, _ => rfl | 1, _ => rfl | 2, _ => rfl | 3, _ => rfl | 4, _ => rfl | 5, _ => rfl | 6, _ => rfl | 7, _ => rfl | 8, _ => rfl | n9 + 9, h9 => absurd h9 (by omega)) (Nat.le_of_ble_eq_true rfl) (Nat.le_of_ble_eq_true rfl) dL_law_0 0 0 (fun q0 H hW hS hq => ?_)
  refine g_adr0 (ad := (adset (fun _ _ => 0) 0 0 q0)) (b := 0) (i := 0) adset_s ?_
  refine lv_dup hx hb dL_law_3 rfl ?_
  refine g_LIv (As := []) (rest := [.ref ((adset (fun _ _ => 0) 0 0 q0) 0 0)]) (post := fun u => ∀ b i, b ≠ 1 → u b i = (adset (fun _ _ => 0) 0 0 q0) b i) (B := fun u H => gW D (lwA s) u (c4W G u (ctset (fun _ _ => none) 0 0 (some (.inr (5, [.null, .null, .null, .null, .int 0, .int 0, .int 0, .int 0, .int 0]))))) H) (mc := 4) (ms := 12) C1 (c_X4_init l D G (lwA s) (adset (fun _ _ => 0) 0 0 q0) (ctset (fun _ _ => none) 0 0 (some (.inr (5, [.null, .null, .null, .null, .int 0, .int 0, .int 0, .int 0, .int 0])))) H hW (fun q h => Nat.le_trans hS.1 h) mi ctset_s) (cwI 0 hts2 gL_law_X4_init rfl rfl rfl (hts _ (in_c _ (List.mem_of_getElem? (i := 28) rfl))) (hts _ (in_c _ (List.mem_of_getElem? (i := 31) rfl))) (hts _ (in_c _ (List.mem_of_getElem? (i := 32) rfl))) rfl (by decide +kernel) ⟨Nat.le_of_ble_eq_true rfl, Nat.le_of_ble_eq_true rfl⟩) hK hLe rfl rfl hl rfl (Nat.le_of_ble_eq_true rfl) dL_law_4 ⟨Nat.le_of_ble_eq_true rfl, Nat.le_of_ble_eq_true rfl⟩ hS (fun u4 H locs hu4 hW hz hS => ?_)
  refine lv_astore_n (lv' := [(1, .ref ((adset (fun _ _ => 0) 0 0 q0) 0 0)), (0, .ref b)]) hx hb dL_law_7 rfl hl (by decide) rfl (fun ls hl => ?_)
  rw [← hu4 0 0 (by decide)] at hl
  refine g_new (D := D) (C := RX5) (T := TX5) (N := 23) (ci := 6) hx hb hts inX5 tyX5 tyX5_ok hown (hts _ (in_c _ (List.mem_of_getElem? (i := 29) rfl))) (hts _ (in_c _ (List.mem_of_getElem? (i := 26) rfl))) (hts _ (in_c _ (List.mem_of_getElem? (i := 30) rfl))) hK hW hS hA rfl (fs := [.int 0, .int 0, .int 0, .null, .null, .null, .null, .null, .int 0, .int 0, .int 0, .null, .null, .null, .int 0, .null, .null, .null, .null, .int 0, .null, .null, .null]) (fun j9 hj9 => match j9, hj9 with | 0, _ => rfl | 1, _ => rfl | 2, _ => rfl | 3, _ => rfl | 4, _ => rfl | 5, _ => rfl | 6, _ => rfl | 7, _ => rfl | 8, _ => rfl | 9, _ => rfl | 10, _ => rfl | 11, _ => rfl | 12, _ => rfl | 13, _ => rfl | 14, _ => rfl | 15, _ => rfl | 16, _ => rfl | 17, _ => rfl | 18, _ => rfl | 19, _ => rfl | 20, _ => rfl | 21, _ => rfl | 22, _ => rfl | n9 + 23, h9 => absurd h9 (by omega)) (Nat.le_of_ble_eq_true rfl) (Nat.le_of_ble_eq_true rfl) dL_law_8 0 1 (fun q1 H hW hS hq => ?_)
  refine g_adr0 (ad := (adset u4 0 1 q1)) (b := 0) (i := 1) adset_s ?_
  refine lv_dup hx hb dL_law_11 rfl ?_
  refine g_wIv (As := []) (rest := [.ref ((adset u4 0 1 q1) 0 1)]) (post := fun u => ∀ b i, b ≠ 9 → u b i = (adset u4 0 1 q1) b i) (B := fun u H => gW D (lwA s) u (c5W G u (ctset (c4W G u4 (ctset (fun _ _ => none) 0 0 (some (.inr (5, [.null, .null, .null, .null, .int 0, .int 0, .int 0, .int 0, .int 0]))))) 0 1 (some (.inr (6, [.int 0, .int 0, .int 0, .null, .null, .null, .null, .null, .int 0, .int 0, .int 0, .null, .null, .null, .int 0, .null, .null, .null, .null, .int 0, .null, .null, .null]))))) H) (mc := 15) (ms := 352) C1 (c_X5_init l D G (lwA s) (adset u4 0 1 q1) (ctset (c4W G u4 (ctset (fun _ _ => none) 0 0 (some (.inr (5, [.null, .null, .null, .null, .int 0, .int 0, .int 0, .int 0, .int 0]))))) 0 1 (some (.inr (6, [.int 0, .int 0, .int 0, .null, .null, .null, .null, .null, .int 0, .int 0, .int 0, .null, .null, .null, .int 0, .null, .null, .null, .null, .int 0, .null, .null, .null])))) H hW (fun q h => Nat.le_trans hS.1 h) ctset_s) (cwI 0 hts2 gL_law_X5_init rfl rfl rfl (hts _ (in_c _ (List.mem_of_getElem? (i := 30) rfl))) (hts _ (in_c _ (List.mem_of_getElem? (i := 33) rfl))) (hts _ (in_c _ (List.mem_of_getElem? (i := 34) rfl))) rfl (by decide +kernel) ⟨Nat.le_of_ble_eq_true rfl, Nat.le_of_ble_eq_true rfl⟩) hK rfl hl rfl (Nat.le_of_ble_eq_true rfl) dL_law_12 ⟨Nat.le_of_ble_eq_true rfl, Nat.le_of_ble_eq_true rfl⟩ hS (fun u5 H locs hu5 hW hz hS => ?_)
  refine lv_astore_n (lv' := [(2, .ref ((adset u4 0 1 q1) 0 1)), (1, .ref (u4 0 0)), (0, .ref b)]) hx hb dL_law_15 rfl hl (by decide) rfl (fun ls hl => ?_)
  refine lv_iconst (v := 1) hx hb dL_law_16 (by decide) ?_
  refine g_newal (D := D) hx hb (hts _ (in_c _ (List.mem_of_getElem? (i := 13) rfl))) hK hW hS hA 1 rfl (n := 1) (N' := 1) (by decide) (by decide) (by decide) (Nat.le_of_ble_eq_true rfl) (Nat.le_of_ble_eq_true rfl) dL_law_17 0 2 (fun q2 H hW hS hq => ?_)
  refine g_adr0 (ad := (adset u5 0 2 q2)) (b := 0) (i := 2) adset_s ?_
  refine lv_astore_n (lv' := [(3, .ref ((adset u5 0 2 q2) 0 2)), (2, .ref ((adset u4 0 1 q1) 0 1)), (1, .ref (u4 0 0)), (0, .ref b)]) hx hb dL_law_19 rfl hl (by decide) rfl (fun ls hl => ?_)
  refine lv_iconst (v := 0) hx hb dL_law_20 (by decide) ?_
  refine lv_istore (lv' := [(4, .int 0), (3, .ref ((adset u5 0 2 q2) 0 2)), (2, .ref ((adset u4 0 1 q1) 0 1)), (1, .ref (u4 0 0)), (0, .ref b)]) hx hb dL_law_21 hl (by decide) rfl (fun ls hl => ?_)
  have e0 : (adset u5 0 2 q2) 0 0 = u4 0 0 := (adset_o (by omega)).trans ((hu5 0 0 (by decide)).trans (adset_o (by omega)))
  have e1 : (adset u5 0 2 q2) 0 1 = (adset u4 0 1 q1) 0 1 := (adset_o (by omega)).trans (hu5 0 1 (by decide))
  have hl9 : lv_has ls 9 [(4, .int (nI (4 * 0))), (0, .ref b), (1, .ref ((adset u5 0 2 q2) 0 0)), (2, .ref ((adset u5 0 2 q2) 0 1)), (3, .ref ((adset u5 0 2 q2) 0 2))] := by
    rw [e0, e1]
    exact lv_sub hl [0, 4, 3, 2, 1] rfl
  have hW : gW D (lwA s) (adset u5 0 2 q2) (Wd G (adset u5 0 2 q2) N0 C00 M0 o0) H := hW.eq (fun b i => Wd_init hu5 b i)
  refine W.widen (k := 22 + 0 * 1173) (n := 397 + 0 * 14243) (by omega) (by omega) ?_
  exact law_loop hLC 513 0 (Nat.zero_le _) (by omega) (adset u5 0 2 q2) N0 C00 M0 o0 H locs ls hW rel_0 hS hl9
set_option maxHeartbeats 4000000 in
theorem lw_walk (l : Launch) (hflags : l.flags = flags0) (b : Addr) (xs : List Int32) : MetFree l x (headSpec (Jvm.Cond.code x code maxLocals ret :: tables_1) room_1) (lw_P b xs) (fun _ _ _ _ _ => True) lw_Q := by
  refine MetFree.of_bodyS (code := code) (maxLocals := maxLocals) (ret := ret) (by decide) ?_ ?_
  · intro args s m h hn
    obtain ⟨meth, c, h1, h2, h3, h4, h5, h6, -, -⟩ := Cond.code_spec hn (atoms_spec (ws := Jvm.Cond.code x code maxLocals ret :: tables_1) h _ List.mem_cons_self)
    exact ⟨meth, c, h1, h2, h3, h4, h5, h6⟩
  · intro p e s m args below meth c s₁ B hml0 hP _
    obtain ⟨rfl, hx, hbd, hgv⟩ := hP
    obtain ⟨scr, harrAt, hlist, hof, hsmall⟩ := hx
    obtain ⟨hcb, hkn, -, -⟩ := State.arrayAt?_spec harrAt
    have hown : s.vm.findClass R_law = some m.cls := findClass_of_methodNamed B.named
    have hts0 : ∀ c ∈ (Jvm.Cond.code x code maxLocals ret :: tables_1), c.before #[Value.ref b] s = true := atoms_spec (ws := Jvm.Cond.code x code maxLocals ret :: tables_1) B.pre
    have hts : ∀ w ∈ lw_tbl, w.before #[Value.ref b] s = true := k2_hts_sels lw_privs (fun w hw => hts0 w (List.mem_cons_of_mem _ hw)) lw_privs_ok
    have hml : c.maxLocals = 9 := B.maxLocals_eq (hts0 _ List.mem_cons_self)
    have X₀ : Stand p l e room_1 s m #[Value.ref b] below meth c s₁ [] 0 0 := Stand.of_body B
    have hh0 : s₁.heap = s.heap := by rw [B.state]; rfl
    have hsz : scr.slots.size = xs.length := by rw [← Array.length_toList, hlist, List.length_map]
    have hval : ∀ j : Nat, j < xs.length → scr.slots[j]? = some (.int (xs.getD j 0)) := fun j hj => by
      rw [← Array.getElem?_toList, hlist]
      simp [hj]
    have hbl : b < s.heap.size := (Array.getElem?_eq_some_iff.mp hcb).1
    have hX : va_X b xs.length (fun j => xs.getD j 0) s s.heap := ⟨scr, hcb, hof, hkn, hsz, hval⟩
    have K : W p l e room_1 s m #[Value.ref b] below meth c s₁.heap [] 0 0 (lw_Z below #[Value.ref b] s) (entryFrame m ([Value.ref b] : List Value).toArray 9) := by
      rw [hh0]
      exact whole_start l hflags hbd ⟨B.exec, B.bytes, B.returns, hml, hown, hts, hX, hbl, B.notSynchronized, hgv⟩
    obtain ⟨t, a1, o, b1, b2, b3⟩ := K s₁ rfl X₀
    exact ⟨t, o, a1, b1, b2, b3⟩
theorem lw_pre_spec {args : Array Value} {s : State} (h : (Jvm.Cond.and given_1 narrow_1).before args s = true) (hr : rest_1_c.before args s = true) : ∃ (b : Addr) (xs : List Int32), lw_P b xs args s := by
  have hs := flat_of_before _ h
  have hq := flat_of_before _ hr
  have hc : (Cond.count 1).before args s = true := hs _ (by decide +kernel)
  have harr : (Cond.arrayOf (.arg 0) .int).before args s = true := hs _ (by decide +kernel)
  have hle : (Cond.le (.length (.arg 0)) (.int 2048)).before args s = true := hs _ (by decide +kernel)
  have hlen : (Cond.isInt (.length (.arg 0))).before args s = true := hq _ (by decide +kernel)
  have hall : (Cond.all (.arg 0) (.isInt (.elem (.arg 0) (.index 0)))).before args s = true := hq _ (by decide +kernel)
  obtain ⟨b, xs, hb, hx⟩ := State.ints_of_pre rfl harr hlen hall
  have hsm : xs.length < 2 ^ 31 := hx.choose_spec.2.2.2
  have hev : (Term.length (.arg 0)).eval args s none [] s = some (.int xs.length.toInt32) := hx.length_eval hb
  have hv := Cond.le_ints hev (show (Term.int 2048).eval args s none [] s = some (.int 2048) from rfl)
  have hd : xs.length.toInt32 ≤ 2048 := by
    simpa [Cond.before, Cond.holds, hv] using hle
  have hN : xs.length ≤ 2048 := (Int32.ofNat_le_ofNat hsm (by decide)).mp (show Int32.ofNat xs.length ≤ Int32.ofNat 2048 from hd)
  exact ⟨b, xs, Cond.one_arg hc (show args[0]? = some (.ref b) from hb), hx, hN, h⟩
theorem lw_comes (l : Launch) (hflags : l.flags = flags0) : Comes l x (Jvm.Cond.code x code maxLocals ret :: tables_1) room_1 (fun tb e args s => Calls_1 tb e args s ∧ rest_1 tb e args s ∧ Pre_1 tb e args s)
    (fun _ _ args s o t => lw_Q args s o t) := by
  intro p e ha hc hk s m args below hf hfit hheap happ hpre
  obtain ⟨b, xs, hP⟩ := lw_pre_spec hpre.2.2 hpre.2.1
  obtain ⟨k, o, h1, h2, h3, hQ⟩ := lw_walk l hflags b xs p e ha hc hk s m args below hf ((Spec.applies_iff_loose hf).mp happ).1 hP trivial
  exact ⟨k, o, h1, h2, h3, hQ⟩
theorem lw_frame {s t : State} {o : Outcome} {args : Array Value} (h : State.butDraws s t lw_cs (fun t1 => Framed s o t1 [] 601024 7293034)) :
    State.butDraws s t [Jvm.Choice.named "NaN.bits"] (fun t1 => Framed s o t1 (fieldLocs frame_1_writes args s ++ arrayLocs frame_1_arrays args s ++ staticLocs frame_1_statics s) 601024 7293034) := h
theorem lw_limb (L : Cond) (hL : ∀ (args : Array Value) (s t : State), L.after args s (.returned (some (.int 1))) t = true) :
    ArmFor flags0 classFile x code maxLocals ret World_1 tables_1 room_1 Calls_1 rest_1 Pre_1
      (fun tb e a s o t => postC L tb e a s o t ∧ State.butDraws s t [Jvm.Choice.named "NaN.bits"] (fun t1 => Framed s o t1 (fieldLocs frame_1_writes a s ++ arrayLocs frame_1_arrays a s ++ staticLocs frame_1_statics s) 601024 7293034)) := by
  intro l hflags _ _ p e ha hc hk s m args below hf hfit hheap happ hpre
  obtain ⟨k, o, h1, h2, h3, rfl, hF⟩ := lw_comes l hflags p e ha hc hk s m args below hf hfit hheap happ hpre
  exact ⟨k, _, h1, h2, h3, hL args s _, lw_frame hF⟩
theorem i_vc : Claimed_1_1 ∧ Claimed_1_2 := ⟨lw_limb limb_1_1 (fun args s t => by simp [limb_1_1, Cond.after, Cond.holds, Cond.value]), lw_limb limb_1_2 (fun args s t => Cond.after_iff.mpr (by
  first | (rw [show limb_1_2 = Cond.eq .result (.int 1) from rfl, Cond.eq_ints (x := 1) (y := 1) rfl rfl]; simp; done) | (simp [limb_1_2, Cond.value, Term.eval]; done)))⟩
