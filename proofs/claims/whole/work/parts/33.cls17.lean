/-! THE CLASS: methods that make objects -/
def gQY (D : va_G) (G : gG) (Hp : Heap) (mi : Nat) (A : Nat → Prop) (U : State) : Prop := U.heap = Hp ∧ va_K D vwCl (gTs G) U ∧ gXe A U ∧ gLe mi G.2.2.2 A U ∧ va_Nw (.methodLinkNest RX4 90 yX0_init "StoryToll") U
section GY
variable {l : Launch} {y : MethodName} {ws ws' : List Cond} {rm : Room} {av : List Value} {D : va_G} {G : gG} {Hp : Heap} {mi : Nat} {Qc : Array Value → State → Outcome → State → Prop} {XC : String → State → State → Prop} {mc ms : Nat} {free : Addr → Prop} {cc : ByteArray} {maxL : Nat} {ret : Option FieldType} {A : Nat → Prop}
theorem g_startY (hy : plainName y.cls = true) (hw : ws = Cond.code y cc maxL ret :: ws') (hlen : (lg_sl av).length ≤ maxL)
    (body : ∀ (p : Program) (e : Env) (s : State) (m : MethodId) (below : List Frame) (meth : Method) (c : Code) (ls : Array Slot), CallFix p m c cc maxL s av.toArray ws y.cls → meth.sig.returnType = ret → meth.locks = false → s.heap = Hp → va_K D vwCl (gTs G) s → gXe A s → gLe mi G.2.2.2 A s → va_Nw (.methodLinkNest RX4 90 yX0_init "StoryToll") s → (∀ x ∈ c.exceptionTable.toList, False) → lv_has ls maxL (lv_args 0 av) →
      W p l e rm s m av.toArray below meth c Hp [] 0 0 (vx_MQ below Qc XC av.toArray s mc ms free) (F0 m 0 ls [])) : vx_Met l y ws rm (va_Pc av (gQY D G Hp mi A)) Qc XC mc ms free := by
  refine vx_ofW (cc := cc) (maxL := maxL) (ret := ret) hy hw ?_
  intro p e s m args below meth c s₁ B hml ht hv
  obtain ⟨rfl, hh, hK, hE, hL, hNe⟩ := hv
  have hts := atoms_spec (ws := ws) B.pre
  have hl := lv_entry av (n := maxL) hlen
  rw [lg_entry_eq]
  exact g_heq hh (body p e s m below meth c _ ⟨B.exec, B.bytes, hml, findClass_of_methodNamed B.named, hts⟩ B.returns B.notSynchronized hh hK hE hL hNe ht hl)
end GY
section GIn
variable {p : Program} {l : Launch} {e : Env} {R : Room} {s : State} {m : MethodId} {args : Array Value} {below : List Frame} {meth : Method} {c : Code} {H : Heap} {locs : List Loc} {cells slots : Nat} {Q : State → Prop}
variable {cc bytes : ByteArray} {pc n nL maxL index : Nat} {ls : Array Slot} {lv : List (Nat × Value)} {rest st0 As : List Value} {D : va_G} {A0 : Nat → Prop} {H0 : Heap} {tys : List (ClassId × FieldType)} {Ts ws : List Cond} {rm : Room} {own C host : String} {y : MethodName} {b : Nat} {ret : Option FieldType}
theorem g_wINv {SS : Type} {post : SS → Prop} {B : SS → Heap → Prop} {mc ms : Nat} (S : CallFix p m c cc nL s args Ts own) (hM : Met l y ws rm (va_Pc (.ref b :: As) (gQ D tys H)) (va_Qv post (fun u t => B u t.heap) A0) mc ms A0) (cw : va_CN R s args own index y host bytes maxL none ws rm mc ms n ∧ y.name = "<init>" ∧ (Cond.instanceMethod y).before args s = true) (hK : va_K D vwCl tys s)
    (hn : As.length = n) (hl : lv_has ls nL lv) (hstack : st0 = As.reverse ++ .ref b :: rest) (hcat : (rest.map fun v => v.category).sum ≤ 8) (hdg : decode cc pc = .ok (.invokespecial index, 3)) (hf : cells + mc ≤ R.cells ∧ slots + ms ≤ R.slots) (hS : va_S A0 H0 H locs)
    (kk : ∀ (u : SS) (H1 : Heap) (locs1 : List Loc), post u → B u H1 → H.size ≤ H1.size → va_S A0 H0 H1 locs1 → W p l e R s m args below meth c H1 locs1 (cells + mc) (slots + ms) Q (F0 m (pc + 3) ls rest)) : W p l e R s m args below meth c H locs cells slots Q (F0 m pc ls st0) := by
  refine va_callv (va_runIN (As := As) (rest := rest) (g := F0 m pc ls st0) S hM cw ⟨g_blind, fun U hU hW => ⟨rfl, hU, va_K.moved hW.alike hK⟩⟩ rfl hn hl.1 hstack (lv_room hcat) hdg hf) hS (fun q _ h => h) (fun q h => h) (fun u t H1 locs1 ht hvm hw hB hz1 hk1 hS2 => ?_)
  exact kk u H1 locs1 hw (by rw [← ht]; exact hB) hz1 hS2
end GIn
theorem lt_T {k n : Nat} (hn : n < 2 ^ 31) (h : nI n < nI k) : n < k := by
  rcases Nat.lt_or_ge n k with h1 | h1
  · exact h1
  · exact absurd h (nI_nlt h1 hn)
theorem ctset_aba {ct : gC} {b b2 i i2 : Nat} {e e' e2 : Option va_E} (h : b2 ≠ b) : ctset (ctset (ctset ct b i e) b2 i2 e2) b i e' = ctset (ctset ct b2 i2 e2) b i e' := by
  funext b' i'
  by_cases h1 : b' = b ∧ i' = i
  · rw [h1.1, h1.2, ctset_s, ctset_s]
  · rw [ctset_o h1, ctset_o h1]
    by_cases h2 : b' = b2 ∧ i' = i2
    · rw [h2.1, h2.2, ctset_s, ctset_s]
    · rw [ctset_o h2, ctset_o h1, ctset_o h2]
theorem IC_mk {N : gN} {C : gT} {nu ki wo hu : Int32} (h : IC N C) (hR : IR N) (hn : N 0 < 24) : IC (nN N 0) (mkC C (N 0) nu ki wo hu) := by
  refine ⟨⟨by rw [nN_s]; omega, by rw [nN_o (by decide) (by decide)]; exact h.1.2.1, by rw [nN_o (by decide) (by decide)]; exact h.1.2.2.1, by rw [nN_o (by decide) (by decide)]; exact h.1.2.2.2⟩, gNN_n h.2.1 hR (by decide) hn, fun q hq => ?_⟩
  rw [nN_o (by decide) (by decide)] at hq
  obtain ⟨h1, h2, h3⟩ := h.2.2 q hq
  rw [szC, mkC_o (by omega) (by omega), mkC_o (by omega) (by omega), nN_s]
  exact ⟨by omega, h2, h3⟩
theorem IC_co {N : gN} {C : gT} {nu kn : Int32} (h : IC N C) (hR : IR N) (hn : N 2 < 12) : IC (nN N 2) (coC C (N 2) nu kn) := by
  refine ⟨⟨by rw [nN_o (by decide) (by decide)]; exact h.1.1, by rw [nN_o (by decide) (by decide)]; exact h.1.2.1, by rw [nN_s]; omega, by rw [nN_o (by decide) (by decide)]; exact h.1.2.2.2⟩, gNN_n h.2.1 hR (by decide) (by omega), fun q hq => ?_⟩
  rw [nN_o (by decide) (by decide)] at hq
  obtain ⟨h1, h2, h3⟩ := h.2.2 q hq
  rw [szC, coC_o (by omega) (by omega), coC_o (by omega) (by omega), nN_o (by decide) (by decide)]
  exact ⟨h1, h2, h3⟩
theorem IC_po {N : gN} {C : gT} (h : IC N C) (hR : IR N) (hn : N 1 < 4) : IC (nN N 1) (poC C (N 1)) := by
  refine ⟨⟨by rw [nN_o (by decide) (by decide)]; exact h.1.1, by rw [nN_s]; omega, by rw [nN_o (by decide) (by decide)]; exact h.1.2.2.1, by rw [nN_o (by decide) (by decide)]; exact h.1.2.2.2⟩, gNN_n h.2.1 hR (by decide) (by omega), fun q hq => ?_⟩
  rw [nN_o (by decide) (by decide)] at hq
  obtain ⟨h1, h2, h3⟩ := h.2.2 q hq
  rw [szC, poC_o (by omega) (by omega) (by omega), poC_o (by omega) (by omega) (by omega), nN_o (by decide) (by decide)]
  exact ⟨h1, h2, h3⟩
theorem IC_pl {N : gN} {C : gT} {i : Nat} {nu wo : Int32} (h : IC N C) (hR : IR N) (hn : N 3 < 8) (hi : i < N 0) : IC (nN N 3) (plC C (N 3) i nu wo) := by
  refine ⟨⟨by rw [nN_o (by decide) (by decide)]; exact h.1.1, by rw [nN_o (by decide) (by decide)]; exact h.1.2.1, by rw [nN_o (by decide) (by decide)]; exact h.1.2.2.1, by rw [nN_s]; omega⟩, gNN_n h.2.1 hR (by decide) (by omega), fun q hq => ?_⟩
  rw [nN_s] at hq
  rw [nN_o (by decide) (by decide)]
  have h9 := h.1.1
  by_cases hq3 : q = N 3
  · subst hq3
    rw [szC, plC_62, plC_63, nI_clamp (by omega)]
    exact ⟨hi, by decide, by decide⟩
  · have := h.1.2.2.2
    obtain ⟨h1, h2, h3⟩ := h.2.2 q (by omega)
    rw [szC, plC_o (by omega) (by omega) (by omega), plC_o (by omega) (by omega) (by omega)]
    exact ⟨h1, h2, h3⟩
def f_X4_make (C : gT) (N : gN) (v : Int32) (w : Int32) (x : Int32) : Int32 ⊕ String := (if v < 0 then (Sum.inr xA) else (if 2 < v then (Sum.inr xA) else (if w < 1 then (Sum.inr xA) else (if 20 < w then (Sum.inr xA) else (if x < 0 then (Sum.inr xA) else (if x ≤ 5 then (if (nI (N 0)) < 24 then (Sum.inl (nI (N 0))) else (Sum.inr xS)) else (Sum.inr xA)))))))
def s_X4_make (C : gT) (N : gN) (v : Int32) (w : Int32) (x : Int32) : gT := (if v < 0 then C else (if 2 < v then C else (if w < 1 then C else (if 20 < w then C else (if x < 0 then C else (if x ≤ 5 then (if (nI (N 0)) < 24 then (mkC C (N 0) (nI (N 0)) v w x) else C) else C))))))
def n_X4_make (C : gT) (N : gN) (v : Int32) (w : Int32) (x : Int32) : gN := (if v < 0 then N else (if 2 < v then N else (if w < 1 then N else (if 20 < w then N else (if x < 0 then N else (if x ≤ 5 then (if (nI (N 0)) < 24 then (nN N 0) else N) else N))))))
set_option maxHeartbeats 4000000 in
set_option maxRecDepth 100000 in
theorem c_X4_make (l : Launch) (D : va_G) (G : gG) (A : Nat → Prop) (ad : gAd) (N : gN) (C M : gT) (o : Nat → Int64) (Hp : Heap) (hW : gW D A ad (Wd G ad N C M o) Hp) (hl0 : l.stackTraces = false) (hA : ∀ q, Hp.size ≤ q → A q) (hR : IR N) (mi : Nat) (hC : IC N C) (v w x : Int32) : vx_Met l yX4_make wsX4_make ({ frames := 7, cells := 2, slots := 39, locals := 261 }) (va_Pc [.ref (ad 0 0), .int v, .int w, .int x] (gQY D G Hp mi A)) (va_Qi (fun r (u : gAd) => f_X4_make C N v w x = .inl r ∧ ∀ i, u 0 i = ad 0 i) (fun u t => gW D A u (Wd G u (n_X4_make C N v w x) (s_X4_make C N v w x) M o) t.heap) A) (vx_X (fun (_ : Unit) => True) (fun E _ t => f_X4_make C N v w x = .inr E ∧ gW D A ad (Wd G ad N C M o) t.heap) A) 2 39 A := by
  refine g_startY (cc := cX4_make) (maxL := 5) (ret := (some .int)) (by decide) rfl (Nat.le_of_ble_eq_true rfl) (fun p e s m below meth c ls C0 hr hlk hh hK hE hL hNe hnt hl => ?_)
  obtain ⟨hx, hb, hml, hown, hts⟩ := id C0
  have hown : s.vm.findClass RX4 = some m.cls := hown
  have hS : va_S A Hp Hp [] := va_S.rf
  have hl : lv_has ls 5 [(0, .ref (ad 0 0)), (1, .int v), (2, .int w), (3, .int x)] := hl
  have inX4 : ∀ w ∈ wsX40, w ∈ wsX4_make := by decide +kernel
  have inX2 : ∀ w ∈ wsX20, w ∈ wsX4_make := by decide +kernel
  obtain ⟨⟨hc0, hc1, hc2, hc3⟩, hNN, hCp⟩ := id hC
  have hn0 := hNN 0 (by decide)
  have hn1 := hNN 1 (by decide)
  have hn2 := hNN 2 (by decide)
  have hn3 := hNN 3 (by decide)
  have hCl : ∀ p, p < N 3 → (C 63 p).toNatClampNeg < N 0 := fun p h9 => (hCp p h9).1
  refine lv_iload_n hx hb dX4_make_0 rfl (lv_at hl 1 rfl) ?_
  refine lv_if_lt (tgt := 29) hx hb dX4_make_1 (by decide) (fun c_1_0 => ?_) (fun c_1_0 => ?_)
  · exact g_thr (u := ()) (px := fun _ => True) (B := fun E _ H => f_X4_make C N v w x = .inr E ∧ gW D A ad (Wd G ad N C M o) H) (E := xA) (text := "no such kind, wonder or hue") hx hb hl0 hml hown hts (fun w hw => List.mem_cons_of_mem _ (List.mem_append_left _ (List.mem_append_right _ hw))) xb_A xg_A (hts (.classLink RX4 29 "java/lang/IllegalArgumentException") (List.mem_of_getElem? (i := 1) rfl)) (hts (.initialized "java/lang/IllegalArgumentException") (List.mem_of_getElem? (i := 2) rfl)) hE hE.1.2.1 (by decide) (by decide) (by rw [hh]; exact hS) hl dX4_make_29 dX4_make_32 dX4_make_33 dX4_make_35 dX4_make_38 hnt ⟨by decide, by decide, by decide, by decide⟩ hlk trivial (fun H1 hk9 => ⟨(show f_X4_make C N v w x = .inr xA from by rw [f_X4_make, if_pos c_1_0]), hW.keep hk9⟩) (by decide) (by decide)
  · refine lv_iload_n hx hb dX4_make_4 rfl (lv_at hl 1 rfl) ?_
    refine lv_iconst (v := 2) hx hb dX4_make_5 (by decide) ?_
    refine lv_icmp_gt (tgt := 29) hx hb dX4_make_6 (by decide) (fun c_6_1 => ?_) (fun c_6_1 => ?_)
    · exact g_thr (u := ()) (px := fun _ => True) (B := fun E _ H => f_X4_make C N v w x = .inr E ∧ gW D A ad (Wd G ad N C M o) H) (E := xA) (text := "no such kind, wonder or hue") hx hb hl0 hml hown hts (fun w hw => List.mem_cons_of_mem _ (List.mem_append_left _ (List.mem_append_right _ hw))) xb_A xg_A (hts (.classLink RX4 29 "java/lang/IllegalArgumentException") (List.mem_of_getElem? (i := 1) rfl)) (hts (.initialized "java/lang/IllegalArgumentException") (List.mem_of_getElem? (i := 2) rfl)) hE hE.1.2.1 (by decide) (by decide) (by rw [hh]; exact hS) hl dX4_make_29 dX4_make_32 dX4_make_33 dX4_make_35 dX4_make_38 hnt ⟨by decide, by decide, by decide, by decide⟩ hlk trivial (fun H1 hk9 => ⟨(show f_X4_make C N v w x = .inr xA from by rw [f_X4_make, if_neg c_1_0, if_pos c_6_1]), hW.keep hk9⟩) (by decide) (by decide)
    · refine lv_iload_n hx hb dX4_make_9 rfl (lv_at hl 2 rfl) ?_
      refine lv_iconst (v := 1) hx hb dX4_make_10 (by decide) ?_
      refine lv_icmp_lt (tgt := 29) hx hb dX4_make_11 (by decide) (fun c_11_2 => ?_) (fun c_11_2 => ?_)
      · exact g_thr (u := ()) (px := fun _ => True) (B := fun E _ H => f_X4_make C N v w x = .inr E ∧ gW D A ad (Wd G ad N C M o) H) (E := xA) (text := "no such kind, wonder or hue") hx hb hl0 hml hown hts (fun w hw => List.mem_cons_of_mem _ (List.mem_append_left _ (List.mem_append_right _ hw))) xb_A xg_A (hts (.classLink RX4 29 "java/lang/IllegalArgumentException") (List.mem_of_getElem? (i := 1) rfl)) (hts (.initialized "java/lang/IllegalArgumentException") (List.mem_of_getElem? (i := 2) rfl)) hE hE.1.2.1 (by decide) (by decide) (by rw [hh]; exact hS) hl dX4_make_29 dX4_make_32 dX4_make_33 dX4_make_35 dX4_make_38 hnt ⟨by decide, by decide, by decide, by decide⟩ hlk trivial (fun H1 hk9 => ⟨(show f_X4_make C N v w x = .inr xA from by rw [f_X4_make, if_neg c_1_0, if_neg c_6_1, if_pos c_11_2]), hW.keep hk9⟩) (by decide) (by decide)
      · refine lv_iload_n hx hb dX4_make_14 rfl (lv_at hl 2 rfl) ?_
        refine lv_bipush (v := 20) hx hb dX4_make_15 (by decide) ?_
        refine lv_icmp_gt (tgt := 29) hx hb dX4_make_17 (by decide) (fun c_17_3 => ?_) (fun c_17_3 => ?_)
        · exact g_thr (u := ()) (px := fun _ => True) (B := fun E _ H => f_X4_make C N v w x = .inr E ∧ gW D A ad (Wd G ad N C M o) H) (E := xA) (text := "no such kind, wonder or hue") hx hb hl0 hml hown hts (fun w hw => List.mem_cons_of_mem _ (List.mem_append_left _ (List.mem_append_right _ hw))) xb_A xg_A (hts (.classLink RX4 29 "java/lang/IllegalArgumentException") (List.mem_of_getElem? (i := 1) rfl)) (hts (.initialized "java/lang/IllegalArgumentException") (List.mem_of_getElem? (i := 2) rfl)) hE hE.1.2.1 (by decide) (by decide) (by rw [hh]; exact hS) hl dX4_make_29 dX4_make_32 dX4_make_33 dX4_make_35 dX4_make_38 hnt ⟨by decide, by decide, by decide, by decide⟩ hlk trivial (fun H1 hk9 => ⟨(show f_X4_make C N v w x = .inr xA from by rw [f_X4_make, if_neg c_1_0, if_neg c_6_1, if_neg c_11_2, if_pos c_17_3]), hW.keep hk9⟩) (by decide) (by decide)
        · refine lv_iload_n hx hb dX4_make_20 rfl (lv_at hl 3 rfl) ?_
          refine lv_if_lt (tgt := 29) hx hb dX4_make_21 (by decide) (fun c_21_4 => ?_) (fun c_21_4 => ?_)
          · exact g_thr (u := ()) (px := fun _ => True) (B := fun E _ H => f_X4_make C N v w x = .inr E ∧ gW D A ad (Wd G ad N C M o) H) (E := xA) (text := "no such kind, wonder or hue") hx hb hl0 hml hown hts (fun w hw => List.mem_cons_of_mem _ (List.mem_append_left _ (List.mem_append_right _ hw))) xb_A xg_A (hts (.classLink RX4 29 "java/lang/IllegalArgumentException") (List.mem_of_getElem? (i := 1) rfl)) (hts (.initialized "java/lang/IllegalArgumentException") (List.mem_of_getElem? (i := 2) rfl)) hE hE.1.2.1 (by decide) (by decide) (by rw [hh]; exact hS) hl dX4_make_29 dX4_make_32 dX4_make_33 dX4_make_35 dX4_make_38 hnt ⟨by decide, by decide, by decide, by decide⟩ hlk trivial (fun H1 hk9 => ⟨(show f_X4_make C N v w x = .inr xA from by rw [f_X4_make, if_neg c_1_0, if_neg c_6_1, if_neg c_11_2, if_neg c_17_3, if_pos c_21_4]), hW.keep hk9⟩) (by decide) (by decide)
          · refine lv_iload_n hx hb dX4_make_24 rfl (lv_at hl 3 rfl) ?_
            refine lv_iconst (v := 5) hx hb dX4_make_25 (by decide) ?_
            refine lv_icmp_le (tgt := 39) hx hb dX4_make_26 (by decide) (fun c_26_5 => ?_) (fun c_26_5 => ?_)
            · refine lv_aload_n hx hb dX4_make_39 rfl (lv_at hl 0 rfl) ?_
              refine va_get (D := D) (ci := 5) (v := .ref (ad 1 0)) (C := RX4) (T := TX4) (N := 9) hx hb hts inX4 hown hK (hW.p (e := (eToll ad C)) rfl) 0 rfl rfl 0 (by decide) (hts (.fieldLink RX4 10 "StoryToll" "scenes" "Ljava/util/ArrayList;") (List.mem_of_getElem? (i := 5) rfl)) (fun _ h9 => h9) rfl dX4_make_40 ?_
              refine g_Vi (As := []) (rest := []) C0 (c_Jx4a65c_size_8abf5 l D G A ad N C M o Hp hW 0 (by decide)) (cwV 0 hts gX4_make_Jx4a65c_size_8abf5 rfl rfl rfl (by decide +kernel) ⟨Nat.le_of_ble_eq_true rfl, Nat.le_of_ble_eq_true rfl⟩) hK (va_recv hK (hW.p (Wd_Li (by omega))) (ci := 0) (q0 := 0) rfl rfl) rfl hl rfl (Nat.le_of_ble_eq_true rfl) dX4_make_43 ⟨Nat.zero_le _, Nat.zero_le _⟩ hS (fun r_7 locs hr_7 hS => ?_)
              replace hr_7 : r_7 = (nI (N 0)) := hr_7
              subst r_7
              refine lv_istore (lv' := [(4, .int (nI (N 0))), (0, .ref (ad 0 0)), (1, .int v), (2, .int w), (3, .int x)]) hx hb dX4_make_46 hl (by decide) rfl (fun ls hl => ?_)
              refine lv_iload hx hb dX4_make_48 (lv_at hl 0 rfl) ?_
              refine lv_bipush (v := 24) hx hb dX4_make_50 (by decide) ?_
              refine lv_icmp_lt (tgt := 65) hx hb dX4_make_52 (by decide) (fun c_52_7 => ?_) (fun c_52_7 => ?_)
              · have hlt9 := lt_T (k := 24) (by omega) c_52_7
                refine lv_aload_n hx hb dX4_make_65 rfl (lv_at hl 1 rfl) ?_
                refine va_get (D := D) (ci := 5) (v := .ref (ad 1 0)) (C := RX4) (T := TX4) (N := 9) hx hb hts inX4 hown hK (hW.p (e := (eToll ad C)) rfl) 0 rfl rfl 0 (by decide) (hts (.fieldLink RX4 10 "StoryToll" "scenes" "Ljava/util/ArrayList;") (List.mem_of_getElem? (i := 5) rfl)) (fun _ h9 => h9) rfl dX4_make_66 ?_
                refine g_new (D := D) (C := RX2) (T := TX2) (N := 6) (ci := 3) hx hb hts inX2 tyX2 tyX2_ok hown (hts (.classLink RX4 45 RX2) (List.mem_of_getElem? (i := 6) rfl)) (hts (.instantiable RX2 6) (List.mem_of_getElem? (i := 7) rfl)) (hts (.initialized RX2) (List.mem_of_getElem? (i := 8) rfl)) hK hW hS hA rfl (fs := [.int 0, .int 0, .int 0, .int 0, .int 0, .int 0]) (fun j9 hj9 => match j9, hj9 with | 0, _ => rfl | 1, _ => rfl | 2, _ => rfl | 3, _ => rfl | 4, _ => rfl | 5, _ => rfl | n9 + 6, h9 => absurd h9 (by omega)) (Nat.le_of_ble_eq_true rfl) (Nat.le_of_ble_eq_true rfl) dX4_make_69 3 (N 0) (fun q9 H hW hS hq9 => ?_)
                refine g_adr0 (ad := (adset ad 3 (N 0) q9)) (b := 3) (i := (N 0)) adset_s ?_
                refine lv_dup hx hb dX4_make_72 rfl ?_
                refine lv_iload hx hb dX4_make_73 (lv_at hl 0 rfl) ?_
                refine lv_iload_n hx hb dX4_make_75 rfl (lv_at hl 2 rfl) ?_
                refine lv_iload_n hx hb dX4_make_76 rfl (lv_at hl 3 rfl) ?_
                refine lv_iload_n hx hb dX4_make_77 rfl (lv_at hl 4 rfl) ?_
                refine g_wIv (As := [.int (nI (N 0)), .int v, .int w, .int x]) (rest := [.ref ((adset ad 3 (N 0) q9) 3 (N 0)), .ref ((adset ad 3 (N 0) q9) 1 0)]) (B := (fun (_ : Unit) H => gW D A (adset ad 3 (N 0) q9) (ctset (ctset (Wd G ad N C M o) 3 (N 0) (some (.inr (3, [.int 0, .int 0, .int 0, .int 0, .int 0, .int 0])))) 3 (N 0) (some (.inr (3, [.int (nI (N 0)), .int v, .int w, .int x, .int 0, .int 0])))) H)) (mc := 0) (ms := 0) C0 (c_X2_init l D G A (adset ad 3 (N 0) q9) (ctset (Wd G ad N C M o) 3 (N 0) (some (.inr (3, [.int 0, .int 0, .int 0, .int 0, .int 0, .int 0])))) H hW 3 (N 0) 0 0 0 0 0 0 (nI (N 0)) v w x ctset_s) (cwI 4 hts gX4_make_X2_init rfl rfl rfl (hts (.initialized RX2) (List.mem_of_getElem? (i := 8) rfl)) (hts (.methodLink RX4 47 yX2_init) (List.mem_of_getElem? (i := 15) rfl)) (hts (.instanceMethod yX2_init) (List.mem_of_getElem? (i := 16) rfl)) rfl (by decide +kernel) ⟨Nat.le_of_ble_eq_true rfl, Nat.le_of_ble_eq_true rfl⟩) hK rfl hl rfl (Nat.le_of_ble_eq_true rfl) dX4_make_78 ⟨(Nat.le_of_ble_eq_true rfl), (Nat.le_of_ble_eq_true rfl)⟩ hS (fun u9 H locs hu9 hW hz9 hS => ?_)
                rw [ctset_ss] at hW
                have hM9 := c_add l D G A (adset ad 3 (N 0) q9) (ctset (Wd G ad N C M o) 3 (N 0) (some (.inr (3, [.int (nI (N 0)), .int v, .int w, .int x, .int 0, .int 0])))) H hW (fun q h9 => hA q (Nat.le_trans hS.1 h9)) mi 0 (by decide) (N 0) (N (4 + 0)) (C 1 0) ((ctset_o (fun z => absurd z.1 (by decide))).trans (Wd_Li (by decide))) (fun h9 => by rw [gArr_c (w := ad (3 + 0)) (fun k9 hk9 => adset_o (by omega))]; exact (ctset_o (fun z => absurd z.1 (by decide))).trans (Wd_El (by decide) h9)) (by omega) (fun h9 => ⟨(hNN 0 (by decide)).1, hR 0 (by decide) h9⟩) ((ctset_o (fun z => absurd z.1 (by decide))).trans (rfl)) 3 (RX2, TX2, 6) rfl (fun U h9 => h9.2.2.2.2.2.2.2.1) (fun i9 hi9 => by
                  by_cases h8 : i9 = (N 0)
                  · subst h8; exact ⟨_, ctset_s⟩
                  · exact ⟨_, (ctset_o (fun z => h8 z.2)).trans (Wd_S (by omega))⟩)
                refine g_LVi (As := [.ref ((adset ad 3 (N 0) q9) 3 (N 0))]) (rest := []) (post := fun (r : Int32) (_ : Nat) => r = 1) (B := fun ra H => gW D A (adset (adset ad 3 (N 0) q9) 2 0 ra) (ctset (ctset (ctset (Wd G ad N C M o) 3 (N 0) (some (.inr (3, [.int (nI (N 0)), .int v, .int w, .int x, .int 0, .int 0])))) 2 0 (some (.inl (G.2.2.1, (gRoom (N 0) (N (4 + 0))), .inr (.inr (.inr (.inr (gArr ((adset ad 3 (N 0) q9) (3 + 0)) ((N 0) + 1))))))))) 1 0 (some (.inr (0, [.int (C 1 0 + 1), .ref ra, .int (nI ((N 0) + 1))])))) H) (mc := 1) (ms := 33) C0 hM9 (cwV 1 hts gX4_make_Jx4a65c_add_9ea2d rfl rfl rfl (by decide +kernel) ⟨Nat.le_of_ble_eq_true rfl, Nat.le_of_ble_eq_true rfl⟩) hK hL hh (va_recv hK (hW.p ((ctset_o (fun z => absurd z.1 (by decide))).trans (Wd_Li (by decide)))) (ci := 0) (q0 := 0) rfl rfl) rfl hl rfl (Nat.le_of_ble_eq_true rfl) dX4_make_81 ⟨(Nat.le_of_ble_eq_true rfl), (Nat.le_of_ble_eq_true rfl)⟩ hS (fun r8 u8 H locs hr8 hW hz8 hS => ?_)
                have hW : gW D A (adset (adset ad 3 (N 0) q9) 2 0 u8) (Wd G (adset (adset ad 3 (N 0) q9) 2 0 u8) (nN N 0) (mkC C (N 0) (nI (N 0)) v w x) M o) H := hW.eq (fun b9 i9 => Wd_mk hCl b9 i9)
                refine lv_pop hx hb dX4_make_84 rfl ?_
                refine lv_iload hx hb dX4_make_85 (lv_at hl 0 rfl) ?_
                exact vx_ret (g_wret (u := (adset (adset ad 3 (N 0) q9) 2 0 u8)) (post := fun r (u : gAd) => f_X4_make C N v w x = .inl r ∧ ∀ i, u 0 i = ad 0 i) (B := fun u H => gW D A u (Wd G u (n_X4_make C N v w x) (s_X4_make C N v w x) M o) H) hx hb hr hlk hh hS ⟨(show f_X4_make C N v w x = .inl (nI (N 0)) from by rw [f_X4_make, if_neg c_1_0, if_neg c_6_1, if_neg c_11_2, if_neg c_17_3, if_neg c_21_4, if_pos c_26_5, if_pos c_52_7]), fun _ => rfl⟩ (show gW D A (adset (adset ad 3 (N 0) q9) 2 0 u8) (Wd G (adset (adset ad 3 (N 0) q9) 2 0 u8) (n_X4_make C N v w x) (s_X4_make C N v w x) M o) H from by rw [s_X4_make, if_neg c_1_0, if_neg c_6_1, if_neg c_11_2, if_neg c_17_3, if_neg c_21_4, if_pos c_26_5, if_pos c_52_7]; rw [n_X4_make, if_neg c_1_0, if_neg c_6_1, if_neg c_11_2, if_neg c_17_3, if_neg c_21_4, if_pos c_26_5, if_pos c_52_7]; exact hW) dX4_make_87)
              · exact g_thr (u := ()) (px := fun _ => True) (B := fun E _ H => f_X4_make C N v w x = .inr E ∧ gW D A ad (Wd G ad N C M o) H) (E := xS) (text := "there are 24 scenes") hx hb hl0 hml hown hts (fun w hw => List.mem_cons_of_mem _ (List.mem_append_right _ hw)) xb_S xg_S (hts (.classLink RX4 40 "java/lang/IllegalStateException") (List.mem_of_getElem? (i := 3) rfl)) (hts (.initialized "java/lang/IllegalStateException") (List.mem_of_getElem? (i := 4) rfl)) hE hE.1.2.2.1 (by decide) (by decide) (by rw [hh]; exact hS) hl dX4_make_55 dX4_make_58 dX4_make_59 dX4_make_61 dX4_make_64 hnt ⟨by decide, by decide, by decide, by decide⟩ hlk trivial (fun H1 hk9 => ⟨(show f_X4_make C N v w x = .inr xS from by rw [f_X4_make, if_neg c_1_0, if_neg c_6_1, if_neg c_11_2, if_neg c_17_3, if_neg c_21_4, if_pos c_26_5, if_neg c_52_7]), hW.keep hk9⟩) (by decide) (by decide)
            · exact g_thr (u := ()) (px := fun _ => True) (B := fun E _ H => f_X4_make C N v w x = .inr E ∧ gW D A ad (Wd G ad N C M o) H) (E := xA) (text := "no such kind, wonder or hue") hx hb hl0 hml hown hts (fun w hw => List.mem_cons_of_mem _ (List.mem_append_left _ (List.mem_append_right _ hw))) xb_A xg_A (hts (.classLink RX4 29 "java/lang/IllegalArgumentException") (List.mem_of_getElem? (i := 1) rfl)) (hts (.initialized "java/lang/IllegalArgumentException") (List.mem_of_getElem? (i := 2) rfl)) hE hE.1.2.1 (by decide) (by decide) (by rw [hh]; exact hS) hl dX4_make_29 dX4_make_32 dX4_make_33 dX4_make_35 dX4_make_38 hnt ⟨by decide, by decide, by decide, by decide⟩ hlk trivial (fun H1 hk9 => ⟨(show f_X4_make C N v w x = .inr xA from by rw [f_X4_make, if_neg c_1_0, if_neg c_6_1, if_neg c_11_2, if_neg c_17_3, if_neg c_21_4, if_neg c_26_5]), hW.keep hk9⟩) (by decide) (by decide)
def f_X4_post (C : gT) (N : gN) : Int32 ⊕ String := (if (nI (N 1)) < 4 then (Sum.inl (nI (N 1))) else (Sum.inr xS))
def s_X4_post (C : gT) (N : gN) : gT := (if (nI (N 1)) < 4 then (poC C (N 1)) else C)
def n_X4_post (C : gT) (N : gN) : gN := (if (nI (N 1)) < 4 then (nN N 1) else N)
set_option maxHeartbeats 4000000 in
set_option maxRecDepth 100000 in
theorem c_X4_post (l : Launch) (D : va_G) (G : gG) (A : Nat → Prop) (ad : gAd) (N : gN) (C M : gT) (o : Nat → Int64) (Hp : Heap) (hW : gW D A ad (Wd G ad N C M o) Hp) (hl0 : l.stackTraces = false) (hA : ∀ q, Hp.size ≤ q → A q) (hR : IR N) (mi : Nat) (hC : IC N C)  : vx_Met l yX4_post wsX4_post ({ frames := 7, cells := 3, slots := 61, locals := 261 }) (va_Pc [.ref (ad 0 0)] (gQY D G Hp mi A)) (va_Qi (fun r (u : gAd) => f_X4_post C N = .inl r ∧ ∀ i, u 0 i = ad 0 i) (fun u t => gW D A u (Wd G u (n_X4_post C N) (s_X4_post C N) M o) t.heap) A) (vx_X (fun (_ : Unit) => True) (fun E _ t => f_X4_post C N = .inr E ∧ gW D A ad (Wd G ad N C M o) t.heap) A) 3 61 A := by
  refine g_startY (cc := cX4_post) (maxL := 2) (ret := (some .int)) (by decide) rfl (Nat.le_of_ble_eq_true rfl) (fun p e s m below meth c ls C0 hr hlk hh hK hE hL hNe hnt hl => ?_)
  obtain ⟨hx, hb, hml, hown, hts⟩ := id C0
  have hown : s.vm.findClass RX4 = some m.cls := hown
  have hS : va_S A Hp Hp [] := va_S.rf
  have hl : lv_has ls 2 [(0, .ref (ad 0 0))] := hl
  have inX4 : ∀ w ∈ wsX40, w ∈ wsX4_post := by decide +kernel
  have inX0 : ∀ w ∈ wsX00, w ∈ wsX4_post := by decide +kernel
  obtain ⟨⟨hc0, hc1, hc2, hc3⟩, hNN, hCp⟩ := id hC
  have hn0 := hNN 0 (by decide)
  have hn1 := hNN 1 (by decide)
  have hn2 := hNN 2 (by decide)
  have hn3 := hNN 3 (by decide)
  have hCl : ∀ p, p < N 3 → (C 63 p).toNatClampNeg < N 0 := fun p h9 => (hCp p h9).1
  refine lv_aload_n hx hb dX4_post_0 rfl (lv_at hl 0 rfl) ?_
  refine va_get (D := D) (ci := 5) (v := .ref (ad 1 1)) (C := RX4) (T := TX4) (N := 9) hx hb hts inX4 hown hK (hW.p (e := (eToll ad C)) rfl) 0 rfl rfl 1 (by decide) (hts (.fieldLink RX4 16 "StoryToll" "guards" "Ljava/util/ArrayList;") (List.mem_of_getElem? (i := 3) rfl)) (fun _ h9 => h9) rfl dX4_post_1 ?_
  refine g_Vi (As := []) (rest := []) C0 (c_Jx4a65c_size_8abf5 l D G A ad N C M o Hp hW 1 (by decide)) (cwV 0 hts gX4_post_Jx4a65c_size_8abf5 rfl rfl rfl (by decide +kernel) ⟨Nat.le_of_ble_eq_true rfl, Nat.le_of_ble_eq_true rfl⟩) hK (va_recv hK (hW.p (Wd_Li (by omega))) (ci := 0) (q0 := 0) rfl rfl) rfl hl rfl (Nat.le_of_ble_eq_true rfl) dX4_post_4 ⟨Nat.zero_le _, Nat.zero_le _⟩ hS (fun r_1 locs hr_1 hS => ?_)
  replace hr_1 : r_1 = (nI (N 1)) := hr_1
  subst r_1
  refine lv_istore_n (lv' := [(1, .int (nI (N 1))), (0, .ref (ad 0 0))]) hx hb dX4_post_7 rfl hl (by decide) rfl (fun ls hl => ?_)
  refine lv_iload_n hx hb dX4_post_8 rfl (lv_at hl 0 rfl) ?_
  refine lv_iconst (v := 4) hx hb dX4_post_9 (by decide) ?_
  refine lv_icmp_lt (tgt := 23) hx hb dX4_post_10 (by decide) (fun c_10_1 => ?_) (fun c_10_1 => ?_)
  · have hlt9 := lt_T (k := 4) (by omega) c_10_1
    refine lv_aload_n hx hb dX4_post_23 rfl (lv_at hl 1 rfl) ?_
    refine va_get (D := D) (ci := 5) (v := .ref (ad 1 1)) (C := RX4) (T := TX4) (N := 9) hx hb hts inX4 hown hK (hW.p (e := (eToll ad C)) rfl) 0 rfl rfl 1 (by decide) (hts (.fieldLink RX4 16 "StoryToll" "guards" "Ljava/util/ArrayList;") (List.mem_of_getElem? (i := 3) rfl)) (fun _ h9 => h9) rfl dX4_post_24 ?_
    refine g_new (D := D) (C := RX0) (T := TX0) (N := 4) (ci := 1) hx hb hts inX0 tyX0 tyX0_ok hown (hts (.classLink RX4 88 RX0) (List.mem_of_getElem? (i := 4) rfl)) (hts (.instantiable RX0 4) (List.mem_of_getElem? (i := 5) rfl)) (hts (.initialized RX0) (List.mem_of_getElem? (i := 6) rfl)) hK hW hS hA rfl (fs := [.null, .int 0, .int 0, .int 0]) (fun j9 hj9 => match j9, hj9 with | 0, _ => rfl | 1, _ => rfl | 2, _ => rfl | 3, _ => rfl | n9 + 4, h9 => absurd h9 (by omega)) (Nat.le_of_ble_eq_true rfl) (Nat.le_of_ble_eq_true rfl) dX4_post_27 4 (N 1) (fun q9 H hW hS hq9 => ?_)
    refine g_adr0 (ad := (adset ad 4 (N 1) q9)) (b := 4) (i := (N 1)) adset_s ?_
    refine lv_dup hx hb dX4_post_30 rfl ?_
    refine g_wINv (As := []) (rest := [.ref ((adset ad 4 (N 1) q9) 4 (N 1)), .ref ((adset ad 4 (N 1) q9) 1 1)]) (B := (fun q8 H => gW D A (adset (adset ad 4 (N 1) q9) 7 (N 1) q8) (ctset (ctset (ctset (Wd G ad N C M o) 4 (N 1) (some (.inr (1, [.null, .int 0, .int 0, .int 0])))) 7 (N 1) (some (.inl (G.1, 24, .inl (fun _ => 0))))) 4 (N 1) (some (.inr (1, [.ref q8, .int 0, .int 20, .int 1])))) H)) (mc := 1) (ms := 24) C0 (c_X0_init l D G A (adset ad 4 (N 1) q9) (ctset (Wd G ad N C M o) 4 (N 1) (some (.inr (1, [.null, .int 0, .int 0, .int 0])))) H hW (fun q h9 => hA q (Nat.le_trans hS.1 h9)) 4 (N 1) 7 (N 1) (fun z => absurd z.1 (by decide)) 0 0 0 .null ctset_s) (⟨va_cnB 0 hts gX4_post_X0_init_n90 rfl rfl rfl hNe (hts (.initialized RX0) (List.mem_of_getElem? (i := 6) rfl)) (by decide +kernel) ⟨Nat.le_of_ble_eq_true rfl, Nat.le_of_ble_eq_true rfl⟩, rfl, (hts (.instanceMethod yX0_init) (List.mem_of_getElem? (i := 13) rfl))⟩) hK rfl hl rfl (Nat.le_of_ble_eq_true rfl) dX4_post_31 ⟨(Nat.le_of_ble_eq_true rfl), (Nat.le_of_ble_eq_true rfl)⟩ hS (fun u9 H locs hu9 hW hz9 hS => ?_)
    have hW : gW D A (adset (adset ad 4 (N 1) q9) 7 (N 1) u9) (ctset (ctset (Wd G ad N C M o) 7 (N 1) (some (.inl (G.1, 24, .inl (fun _ => 0))))) 4 (N 1) (some (.inr (1, [.ref u9, .int 0, .int 20, .int 1])))) H := by
      have h7 := hW
      rw [ctset_aba (by decide : (7 : Nat) ≠ 4)] at h7
      exact h7
    have hM9 := c_add l D G A (adset (adset ad 4 (N 1) q9) 7 (N 1) u9) (ctset (ctset (Wd G ad N C M o) 7 (N 1) (some (.inl (G.1, 24, .inl (fun _ => 0))))) 4 (N 1) (some (.inr (1, [.ref u9, .int 0, .int 20, .int 1])))) H hW (fun q h9 => hA q (Nat.le_trans hS.1 h9)) mi 1 (by decide) (N 1) (N (4 + 1)) (C 1 1) ((ctset_o (fun z => absurd z.1 (by decide))).trans ((ctset_o (fun z => absurd z.1 (by decide))).trans (Wd_Li (by decide)))) (fun h9 => by rw [gArr_c (w := ad (3 + 1)) (fun k9 hk9 => (adset_o (by omega)).trans (adset_o (by omega)))]; exact (ctset_o (fun z => absurd z.1 (by decide))).trans ((ctset_o (fun z => absurd z.1 (by decide))).trans (Wd_El (by decide) h9))) (by omega) (fun h9 => ⟨(hNN 1 (by decide)).1, hR 1 (by decide) h9⟩) ((ctset_o (fun z => absurd z.1 (by decide))).trans ((ctset_o (fun z => absurd z.1 (by decide))).trans (rfl))) 1 (RX0, TX0, 4) rfl (fun U h9 => h9.2.2.2.2.2.1) (fun i9 hi9 => by
      by_cases h8 : i9 = (N 1)
      · subst h8; exact ⟨_, ctset_s⟩
      · exact ⟨_, (ctset_o (fun z => h8 z.2)).trans ((ctset_o (fun z => h8 z.2)).trans (Wd_Gd (by omega)))⟩)
    refine g_LVi (As := [.ref ((adset (adset ad 4 (N 1) q9) 7 (N 1) u9) 4 (N 1))]) (rest := []) (post := fun (r : Int32) (_ : Nat) => r = 1) (B := fun ra H => gW D A (adset (adset (adset ad 4 (N 1) q9) 7 (N 1) u9) 2 1 ra) (ctset (ctset (ctset (ctset (Wd G ad N C M o) 7 (N 1) (some (.inl (G.1, 24, .inl (fun _ => 0))))) 4 (N 1) (some (.inr (1, [.ref u9, .int 0, .int 20, .int 1])))) 2 1 (some (.inl (G.2.2.1, (gRoom (N 1) (N (4 + 1))), .inr (.inr (.inr (.inr (gArr ((adset (adset ad 4 (N 1) q9) 7 (N 1) u9) (3 + 1)) ((N 1) + 1))))))))) 1 1 (some (.inr (0, [.int (C 1 1 + 1), .ref ra, .int (nI ((N 1) + 1))])))) H) (mc := 1) (ms := 33) C0 hM9 (cwV 1 hts gX4_post_Jx4a65c_add_9ea2d rfl rfl rfl (by decide +kernel) ⟨Nat.le_of_ble_eq_true rfl, Nat.le_of_ble_eq_true rfl⟩) hK hL hh (va_recv hK (hW.p ((ctset_o (fun z => absurd z.1 (by decide))).trans ((ctset_o (fun z => absurd z.1 (by decide))).trans (Wd_Li (by decide))))) (ci := 0) (q0 := 0) rfl rfl) rfl hl rfl (Nat.le_of_ble_eq_true rfl) dX4_post_34 ⟨(Nat.le_of_ble_eq_true rfl), (Nat.le_of_ble_eq_true rfl)⟩ hS (fun r8 u8 H locs hr8 hW hz8 hS => ?_)
    have hW : gW D A (adset (adset (adset ad 4 (N 1) q9) 7 (N 1) u9) 2 1 u8) (Wd G (adset (adset (adset ad 4 (N 1) q9) 7 (N 1) u9) 2 1 u8) (nN N 1) (poC C (N 1)) M o) H := hW.eq (fun b9 i9 => Wd_po (by omega) b9 i9)
    refine lv_pop hx hb dX4_post_37 rfl ?_
    refine lv_iload_n hx hb dX4_post_38 rfl (lv_at hl 0 rfl) ?_
    exact vx_ret (g_wret (u := (adset (adset (adset ad 4 (N 1) q9) 7 (N 1) u9) 2 1 u8)) (post := fun r (u : gAd) => f_X4_post C N = .inl r ∧ ∀ i, u 0 i = ad 0 i) (B := fun u H => gW D A u (Wd G u (n_X4_post C N) (s_X4_post C N) M o) H) hx hb hr hlk hh hS ⟨(show f_X4_post C N = .inl (nI (N 1)) from by rw [f_X4_post, if_pos c_10_1]), fun _ => rfl⟩ (show gW D A (adset (adset (adset ad 4 (N 1) q9) 7 (N 1) u9) 2 1 u8) (Wd G (adset (adset (adset ad 4 (N 1) q9) 7 (N 1) u9) 2 1 u8) (n_X4_post C N) (s_X4_post C N) M o) H from by rw [s_X4_post, if_pos c_10_1]; rw [n_X4_post, if_pos c_10_1]; exact hW) dX4_post_39)
  · exact g_thr (u := ()) (px := fun _ => True) (B := fun E _ H => f_X4_post C N = .inr E ∧ gW D A ad (Wd G ad N C M o) H) (E := xS) (text := "there are 4 guards") hx hb hl0 hml hown hts (fun w hw => List.mem_cons_of_mem _ (List.mem_append_right _ hw)) xb_S xg_S (hts (.classLink RX4 40 "java/lang/IllegalStateException") (List.mem_of_getElem? (i := 1) rfl)) (hts (.initialized "java/lang/IllegalStateException") (List.mem_of_getElem? (i := 2) rfl)) hE hE.1.2.2.1 (by decide) (by decide) (by rw [hh]; exact hS) hl dX4_post_13 dX4_post_16 dX4_post_17 dX4_post_19 dX4_post_22 hnt ⟨by decide, by decide, by decide, by decide⟩ hlk trivial (fun H1 hk9 => ⟨(show f_X4_post C N = .inr xS from by rw [f_X4_post, if_neg c_10_1]), hW.keep hk9⟩) (by decide) (by decide)
def f_X4_come (C : gT) (N : gN) (v : Int32) : Int32 ⊕ String := (if v < 0 then (Sum.inr xA) else (if (v >>> ((nI (N 0)) &&& 31)) = 0 then (if (nI (N 2)) < 12 then (Sum.inl (nI (N 2))) else (Sum.inr xS)) else (Sum.inr xA)))
def s_X4_come (C : gT) (N : gN) (v : Int32) : gT := (if v < 0 then C else (if (v >>> ((nI (N 0)) &&& 31)) = 0 then (if (nI (N 2)) < 12 then (coC C (N 2) (nI (N 2)) v) else C) else C))
def n_X4_come (C : gT) (N : gN) (v : Int32) : gN := (if v < 0 then N else (if (v >>> ((nI (N 0)) &&& 31)) = 0 then (if (nI (N 2)) < 12 then (nN N 2) else N) else N))
set_option maxHeartbeats 4000000 in
set_option maxRecDepth 100000 in
theorem c_X4_come (l : Launch) (D : va_G) (G : gG) (A : Nat → Prop) (ad : gAd) (N : gN) (C M : gT) (o : Nat → Int64) (Hp : Heap) (hW : gW D A ad (Wd G ad N C M o) Hp) (hl0 : l.stackTraces = false) (hA : ∀ q, Hp.size ≤ q → A q) (hR : IR N) (mi : Nat) (hC : IC N C) (v : Int32) : vx_Met l yX4_come wsX4_come ({ frames := 7, cells := 2, slots := 38, locals := 261 }) (va_Pc [.ref (ad 0 0), .int v] (gQY D G Hp mi A)) (va_Qi (fun r (u : gAd) => f_X4_come C N v = .inl r ∧ ∀ i, u 0 i = ad 0 i) (fun u t => gW D A u (Wd G u (n_X4_come C N v) (s_X4_come C N v) M o) t.heap) A) (vx_X (fun (_ : Unit) => True) (fun E _ t => f_X4_come C N v = .inr E ∧ gW D A ad (Wd G ad N C M o) t.heap) A) 2 38 A := by
  refine g_startY (cc := cX4_come) (maxL := 3) (ret := (some .int)) (by decide) rfl (Nat.le_of_ble_eq_true rfl) (fun p e s m below meth c ls C0 hr hlk hh hK hE hL hNe hnt hl => ?_)
  obtain ⟨hx, hb, hml, hown, hts⟩ := id C0
  have hown : s.vm.findClass RX4 = some m.cls := hown
  have hS : va_S A Hp Hp [] := va_S.rf
  have hl : lv_has ls 3 [(0, .ref (ad 0 0)), (1, .int v)] := hl
  have inX4 : ∀ w ∈ wsX40, w ∈ wsX4_come := by decide +kernel
  have inX3 : ∀ w ∈ wsX30, w ∈ wsX4_come := by decide +kernel
  obtain ⟨⟨hc0, hc1, hc2, hc3⟩, hNN, hCp⟩ := id hC
  have hn0 := hNN 0 (by decide)
  have hn1 := hNN 1 (by decide)
  have hn2 := hNN 2 (by decide)
  have hn3 := hNN 3 (by decide)
  have hCl : ∀ p, p < N 3 → (C 63 p).toNatClampNeg < N 0 := fun p h9 => (hCp p h9).1
  refine lv_iload_n hx hb dX4_come_0 rfl (lv_at hl 1 rfl) ?_
  refine lv_if_lt (tgt := 16) hx hb dX4_come_1 (by decide) (fun c_1_0 => ?_) (fun c_1_0 => ?_)
  · exact g_thr (u := ()) (px := fun _ => True) (B := fun E _ H => f_X4_come C N v = .inr E ∧ gW D A ad (Wd G ad N C M o) H) (E := xA) (text := "no set of scenes that there are") hx hb hl0 hml hown hts (fun w hw => List.mem_cons_of_mem _ (List.mem_append_left _ (List.mem_append_right _ hw))) xb_A xg_A (hts (.classLink RX4 29 "java/lang/IllegalArgumentException") (List.mem_of_getElem? (i := 1) rfl)) (hts (.initialized "java/lang/IllegalArgumentException") (List.mem_of_getElem? (i := 2) rfl)) hE hE.1.2.1 (by decide) (by decide) (by rw [hh]; exact hS) hl dX4_come_16 dX4_come_19 dX4_come_20 dX4_come_22 dX4_come_25 hnt ⟨by decide, by decide, by decide, by decide⟩ hlk trivial (fun H1 hk9 => ⟨(show f_X4_come C N v = .inr xA from by rw [f_X4_come, if_pos c_1_0]), hW.keep hk9⟩) (by decide) (by decide)
  · refine lv_iload_n hx hb dX4_come_4 rfl (lv_at hl 1 rfl) ?_
    refine lv_aload_n hx hb dX4_come_5 rfl (lv_at hl 0 rfl) ?_
    refine va_get (D := D) (ci := 5) (v := .ref (ad 1 0)) (C := RX4) (T := TX4) (N := 9) hx hb hts inX4 hown hK (hW.p (e := (eToll ad C)) rfl) 0 rfl rfl 0 (by decide) (hts (.fieldLink RX4 10 "StoryToll" "scenes" "Ljava/util/ArrayList;") (List.mem_of_getElem? (i := 5) rfl)) (fun _ h9 => h9) rfl dX4_come_6 ?_
    refine g_Vi (As := []) (rest := [.int v]) C0 (c_Jx4a65c_size_8abf5 l D G A ad N C M o Hp hW 0 (by decide)) (cwV 0 hts gX4_come_Jx4a65c_size_8abf5 rfl rfl rfl (by decide +kernel) ⟨Nat.le_of_ble_eq_true rfl, Nat.le_of_ble_eq_true rfl⟩) hK (va_recv hK (hW.p (Wd_Li (by omega))) (ci := 0) (q0 := 0) rfl rfl) rfl hl rfl (Nat.le_of_ble_eq_true rfl) dX4_come_9 ⟨Nat.zero_le _, Nat.zero_le _⟩ hS (fun r_2 locs hr_2 hS => ?_)
    replace hr_2 : r_2 = (nI (N 0)) := hr_2
    subst r_2
    refine lv_ishr hx hb dX4_come_12 ?_
    refine lv_if_eq (tgt := 26) hx hb dX4_come_13 (by decide) (fun c_13_2 => ?_) (fun c_13_2 => ?_)
    · refine lv_aload_n hx hb dX4_come_26 rfl (lv_at hl 0 rfl) ?_
      refine va_get (D := D) (ci := 5) (v := .ref (ad 1 2)) (C := RX4) (T := TX4) (N := 9) hx hb hts inX4 hown hK (hW.p (e := (eToll ad C)) rfl) 0 rfl rfl 2 (by decide) (hts (.fieldLink RX4 19 "StoryToll" "travellers" "Ljava/util/ArrayList;") (List.mem_of_getElem? (i := 6) rfl)) (fun _ h9 => h9) rfl dX4_come_27 ?_
      refine g_Vi (As := []) (rest := []) C0 (c_Jx4a65c_size_8abf5 l D G A ad N C M o Hp hW 2 (by decide)) (cwV 0 hts gX4_come_Jx4a65c_size_8abf5 rfl rfl rfl (by decide +kernel) ⟨Nat.le_of_ble_eq_true rfl, Nat.le_of_ble_eq_true rfl⟩) hK (va_recv hK (hW.p (Wd_Li (by omega))) (ci := 0) (q0 := 0) rfl rfl) rfl hl rfl (Nat.le_of_ble_eq_true rfl) dX4_come_30 ⟨Nat.zero_le _, Nat.zero_le _⟩ hS (fun r_4 locs hr_4 hS => ?_)
      replace hr_4 : r_4 = (nI (N 2)) := hr_4
      subst r_4
      refine lv_istore_n (lv' := [(2, .int (nI (N 2))), (0, .ref (ad 0 0)), (1, .int v)]) hx hb dX4_come_33 rfl hl (by decide) rfl (fun ls hl => ?_)
      refine lv_iload_n hx hb dX4_come_34 rfl (lv_at hl 0 rfl) ?_
      refine lv_bipush (v := 12) hx hb dX4_come_35 (by decide) ?_
      refine lv_icmp_lt (tgt := 50) hx hb dX4_come_37 (by decide) (fun c_37_4 => ?_) (fun c_37_4 => ?_)
      · have hlt9 := lt_T (k := 12) (by omega) c_37_4
        refine lv_aload_n hx hb dX4_come_50 rfl (lv_at hl 1 rfl) ?_
        refine va_get (D := D) (ci := 5) (v := .ref (ad 1 2)) (C := RX4) (T := TX4) (N := 9) hx hb hts inX4 hown hK (hW.p (e := (eToll ad C)) rfl) 0 rfl rfl 2 (by decide) (hts (.fieldLink RX4 19 "StoryToll" "travellers" "Ljava/util/ArrayList;") (List.mem_of_getElem? (i := 6) rfl)) (fun _ h9 => h9) rfl dX4_come_51 ?_
        refine g_new (D := D) (C := RX3) (T := TX3) (N := 5) (ci := 4) hx hb hts inX3 tyX3 tyX3_ok hown (hts (.classLink RX4 95 RX3) (List.mem_of_getElem? (i := 7) rfl)) (hts (.instantiable RX3 5) (List.mem_of_getElem? (i := 8) rfl)) (hts (.initialized RX3) (List.mem_of_getElem? (i := 9) rfl)) hK hW hS hA rfl (fs := [.int 0, .int 0, .int 0, .int 0, .int 0]) (fun j9 hj9 => match j9, hj9 with | 0, _ => rfl | 1, _ => rfl | 2, _ => rfl | 3, _ => rfl | 4, _ => rfl | n9 + 5, h9 => absurd h9 (by omega)) (Nat.le_of_ble_eq_true rfl) (Nat.le_of_ble_eq_true rfl) dX4_come_54 5 (N 2) (fun q9 H hW hS hq9 => ?_)
        refine g_adr0 (ad := (adset ad 5 (N 2) q9)) (b := 5) (i := (N 2)) adset_s ?_
        refine lv_dup hx hb dX4_come_57 rfl ?_
        refine lv_iload_n hx hb dX4_come_58 rfl (lv_at hl 0 rfl) ?_
        refine lv_iload_n hx hb dX4_come_59 rfl (lv_at hl 2 rfl) ?_
        refine g_wIv (As := [.int (nI (N 2)), .int v]) (rest := [.ref ((adset ad 5 (N 2) q9) 5 (N 2)), .ref ((adset ad 5 (N 2) q9) 1 2)]) (B := (fun (_ : Unit) H => gW D A (adset ad 5 (N 2) q9) (ctset (ctset (Wd G ad N C M o) 5 (N 2) (some (.inr (4, [.int 0, .int 0, .int 0, .int 0, .int 0])))) 5 (N 2) (some (.inr (4, [.int (nI (N 2)), .int v, .int 0, .int 0, .int 0])))) H)) (mc := 0) (ms := 0) C0 (c_X3_init l D G A (adset ad 5 (N 2) q9) (ctset (Wd G ad N C M o) 5 (N 2) (some (.inr (4, [.int 0, .int 0, .int 0, .int 0, .int 0])))) H hW 5 (N 2) 0 0 0 0 0 (nI (N 2)) v ctset_s) (cwI 2 hts gX4_come_X3_init rfl rfl rfl (hts (.initialized RX3) (List.mem_of_getElem? (i := 9) rfl)) (hts (.methodLink RX4 97 yX3_init) (List.mem_of_getElem? (i := 16) rfl)) (hts (.instanceMethod yX3_init) (List.mem_of_getElem? (i := 17) rfl)) rfl (by decide +kernel) ⟨Nat.le_of_ble_eq_true rfl, Nat.le_of_ble_eq_true rfl⟩) hK rfl hl rfl (Nat.le_of_ble_eq_true rfl) dX4_come_60 ⟨(Nat.le_of_ble_eq_true rfl), (Nat.le_of_ble_eq_true rfl)⟩ hS (fun u9 H locs hu9 hW hz9 hS => ?_)
        rw [ctset_ss] at hW
        have hM9 := c_add l D G A (adset ad 5 (N 2) q9) (ctset (Wd G ad N C M o) 5 (N 2) (some (.inr (4, [.int (nI (N 2)), .int v, .int 0, .int 0, .int 0])))) H hW (fun q h9 => hA q (Nat.le_trans hS.1 h9)) mi 2 (by decide) (N 2) (N (4 + 2)) (C 1 2) ((ctset_o (fun z => absurd z.1 (by decide))).trans (Wd_Li (by decide))) (fun h9 => by rw [gArr_c (w := ad (3 + 2)) (fun k9 hk9 => adset_o (by omega))]; exact (ctset_o (fun z => absurd z.1 (by decide))).trans (Wd_El (by decide) h9)) (by omega) (fun h9 => ⟨(hNN 2 (by decide)).1, hR 2 (by decide) h9⟩) ((ctset_o (fun z => absurd z.1 (by decide))).trans (rfl)) 4 (RX3, TX3, 5) rfl (fun U h9 => h9.2.2.2.2.2.2.2.2) (fun i9 hi9 => by
          by_cases h8 : i9 = (N 2)
          · subst h8; exact ⟨_, ctset_s⟩
          · exact ⟨_, (ctset_o (fun z => h8 z.2)).trans (Wd_Tr (by omega))⟩)
        refine g_LVi (As := [.ref ((adset ad 5 (N 2) q9) 5 (N 2))]) (rest := []) (post := fun (r : Int32) (_ : Nat) => r = 1) (B := fun ra H => gW D A (adset (adset ad 5 (N 2) q9) 2 2 ra) (ctset (ctset (ctset (Wd G ad N C M o) 5 (N 2) (some (.inr (4, [.int (nI (N 2)), .int v, .int 0, .int 0, .int 0])))) 2 2 (some (.inl (G.2.2.1, (gRoom (N 2) (N (4 + 2))), .inr (.inr (.inr (.inr (gArr ((adset ad 5 (N 2) q9) (3 + 2)) ((N 2) + 1))))))))) 1 2 (some (.inr (0, [.int (C 1 2 + 1), .ref ra, .int (nI ((N 2) + 1))])))) H) (mc := 1) (ms := 33) C0 hM9 (cwV 1 hts gX4_come_Jx4a65c_add_9ea2d rfl rfl rfl (by decide +kernel) ⟨Nat.le_of_ble_eq_true rfl, Nat.le_of_ble_eq_true rfl⟩) hK hL hh (va_recv hK (hW.p ((ctset_o (fun z => absurd z.1 (by decide))).trans (Wd_Li (by decide)))) (ci := 0) (q0 := 0) rfl rfl) rfl hl rfl (Nat.le_of_ble_eq_true rfl) dX4_come_63 ⟨(Nat.le_of_ble_eq_true rfl), (Nat.le_of_ble_eq_true rfl)⟩ hS (fun r8 u8 H locs hr8 hW hz8 hS => ?_)
        have hW : gW D A (adset (adset ad 5 (N 2) q9) 2 2 u8) (Wd G (adset (adset ad 5 (N 2) q9) 2 2 u8) (nN N 2) (coC C (N 2) (nI (N 2)) v) M o) H := hW.eq (fun b9 i9 => Wd_co b9 i9)
        refine lv_pop hx hb dX4_come_66 rfl ?_
        refine lv_iload_n hx hb dX4_come_67 rfl (lv_at hl 0 rfl) ?_
        exact vx_ret (g_wret (u := (adset (adset ad 5 (N 2) q9) 2 2 u8)) (post := fun r (u : gAd) => f_X4_come C N v = .inl r ∧ ∀ i, u 0 i = ad 0 i) (B := fun u H => gW D A u (Wd G u (n_X4_come C N v) (s_X4_come C N v) M o) H) hx hb hr hlk hh hS ⟨(show f_X4_come C N v = .inl (nI (N 2)) from by rw [f_X4_come, if_neg c_1_0, if_pos c_13_2, if_pos c_37_4]), fun _ => rfl⟩ (show gW D A (adset (adset ad 5 (N 2) q9) 2 2 u8) (Wd G (adset (adset ad 5 (N 2) q9) 2 2 u8) (n_X4_come C N v) (s_X4_come C N v) M o) H from by rw [s_X4_come, if_neg c_1_0, if_pos c_13_2, if_pos c_37_4]; rw [n_X4_come, if_neg c_1_0, if_pos c_13_2, if_pos c_37_4]; exact hW) dX4_come_68)
      · exact g_thr (u := ()) (px := fun _ => True) (B := fun E _ H => f_X4_come C N v = .inr E ∧ gW D A ad (Wd G ad N C M o) H) (E := xS) (text := "there are 12 travellers") hx hb hl0 hml hown hts (fun w hw => List.mem_cons_of_mem _ (List.mem_append_right _ hw)) xb_S xg_S (hts (.classLink RX4 40 "java/lang/IllegalStateException") (List.mem_of_getElem? (i := 3) rfl)) (hts (.initialized "java/lang/IllegalStateException") (List.mem_of_getElem? (i := 4) rfl)) hE hE.1.2.2.1 (by decide) (by decide) (by rw [hh]; exact hS) hl dX4_come_40 dX4_come_43 dX4_come_44 dX4_come_46 dX4_come_49 hnt ⟨by decide, by decide, by decide, by decide⟩ hlk trivial (fun H1 hk9 => ⟨(show f_X4_come C N v = .inr xS from by rw [f_X4_come, if_neg c_1_0, if_pos c_13_2, if_neg c_37_4]), hW.keep hk9⟩) (by decide) (by decide)
    · exact g_thr (u := ()) (px := fun _ => True) (B := fun E _ H => f_X4_come C N v = .inr E ∧ gW D A ad (Wd G ad N C M o) H) (E := xA) (text := "no set of scenes that there are") hx hb hl0 hml hown hts (fun w hw => List.mem_cons_of_mem _ (List.mem_append_left _ (List.mem_append_right _ hw))) xb_A xg_A (hts (.classLink RX4 29 "java/lang/IllegalArgumentException") (List.mem_of_getElem? (i := 1) rfl)) (hts (.initialized "java/lang/IllegalArgumentException") (List.mem_of_getElem? (i := 2) rfl)) hE hE.1.2.1 (by decide) (by decide) (by rw [hh]; exact hS) hl dX4_come_16 dX4_come_19 dX4_come_20 dX4_come_22 dX4_come_25 hnt ⟨by decide, by decide, by decide, by decide⟩ hlk trivial (fun H1 hk9 => ⟨(show f_X4_come C N v = .inr xA from by rw [f_X4_come, if_neg c_1_0, if_neg c_13_2]), hW.keep hk9⟩) (by decide) (by decide)
theorem IN_X4_make {N : gN} {C : gT} {v w x : Int32} (h : IC N C) (hR : IR N) : IC (n_X4_make C N v w x) (s_X4_make C N v w x) ∧ IR (n_X4_make C N v w x) := by
  have hb := h.1
  unfold n_X4_make s_X4_make
  repeat' split
  all_goals first | exact ⟨h, hR⟩ | (rename_i h9; exact ⟨IC_mk h hR (lt_T (by omega) h9), IR_n h.2.1 hR (by decide) (Nat.lt_of_lt_of_le (lt_T (by omega) h9) (by decide))⟩)
theorem IN_X4_post {N : gN} {C : gT} (h : IC N C) (hR : IR N) : IC (n_X4_post C N) (s_X4_post C N) ∧ IR (n_X4_post C N) := by
  have hb := h.1
  unfold n_X4_post s_X4_post
  repeat' split
  all_goals first | exact ⟨h, hR⟩ | (rename_i h9; exact ⟨IC_po h hR (lt_T (by omega) h9), IR_n h.2.1 hR (by decide) (Nat.lt_of_lt_of_le (lt_T (by omega) h9) (by decide))⟩)
theorem IN_X4_come {N : gN} {C : gT} {v : Int32} (h : IC N C) (hR : IR N) : IC (n_X4_come C N v) (s_X4_come C N v) ∧ IR (n_X4_come C N v) := by
  have hb := h.1
  unfold n_X4_come s_X4_come
  repeat' split
  all_goals first | exact ⟨h, hR⟩ | (rename_i h9; exact ⟨IC_co h hR (lt_T (by omega) h9), IR_n h.2.1 hR (by decide) (Nat.lt_of_lt_of_le (lt_T (by omega) h9) (by decide))⟩)
