/-! A LIST TAKES AN OBJECT: ArrayList.add -/
section GLi
variable {p : Program} {l : Launch} {e : Env} {R : Room} {s : State} {m : MethodId} {args : Array Value} {below : List Frame} {meth : Method} {c : Code} {H : Heap} {locs : List Loc} {cells slots : Nat} {Q : State → Prop}
variable {cc bytes : ByteArray} {pc n nL maxL index : Nat} {ls : Array Slot} {lv : List (Nat × Value)} {rest st0 As : List Value} {D : va_G} {A0 : Nat → Prop} {H0 : Heap} {Ts ws : List Cond} {rm : Room} {own C : String} {y : MethodName} {b : Nat} {ret : Option FieldType}
theorem g_LVi {SS : Type} {post : Int32 → SS → Prop} {B : SS → Heap → Prop} {mc ms mi : Nat} {G : gG} (S : CallFix p m c cc nL s args Ts own) (hM : Met l y ws rm (va_Pc (.ref b :: As) (gQL D G H mi A0)) (va_Qi post (fun u t => B u t.heap) A0) mc ms A0) (cw : CallW R s args own C index y bytes maxL ret ws rm mc ms n) (hK : va_K D vwCl (gTs G) s) (hE : gLe mi G.2.2.2 A0 s) (hh : s.heap = H0) (hrecv : ∃ cellB : Cell, H[b]? = some cellB ∧ cellB.vm.isStatics = false ∧ s.vm.findClass C = some cellB.cls)
    (hn : As.length = n) (hl : lv_has ls nL lv) (hstack : st0 = As.reverse ++ .ref b :: rest) (hcat : (rest.map fun v => v.category).sum ≤ 8) (hdg : decode cc pc = .ok (.invokevirtual index, 3)) (hf : cells + mc ≤ R.cells ∧ slots + ms ≤ R.slots) (hS : va_S A0 H0 H locs)
    (kk : ∀ (r : Int32) (u : SS) (H1 : Heap) (locs1 : List Loc), post r u → B u H1 → H.size ≤ H1.size → va_S A0 H0 H1 locs1 → W p l e R s m args below meth c H1 locs1 (cells + mc) (slots + ms) Q (F0 m (pc + 3) ls (.int r :: rest))) : W p l e R s m args below meth c H locs cells slots Q (F0 m pc ls st0) := by
  subst hh
  refine va_calli (va_runV (As := As) (rest := rest) (g := F0 m pc ls st0) S hM cw ⟨g_Lblind, hrecv, fun U hU hW => ⟨rfl, hU, va_K.moved hW.alike hK, hE.moved hW (fun q h1 h2 => by rw [hU]; exact hS.2.1 q h1 h2)⟩⟩ rfl hn hl.1 hstack (lv_room hcat) hdg hf) hS (fun q _ h => h) (fun q h => h) (fun r u t H1 locs1 ht hvm hw hB hz1 hk1 hS2 => ?_)
  exact kk r u H1 locs1 hw (by rw [← ht]; exact hB) hz1 hS2
end GLi
theorem ctset_121 {ct : gC} {j : Nat} {e1 e1' e2 : Option va_E} : ctset (ctset (ctset ct 1 j e1) 2 j e2) 1 j e1' = ctset (ctset ct 2 j e2) 1 j e1' := by
  funext b i
  by_cases h1 : b = 1 ∧ i = j
  · rw [h1.1, h1.2, ctset_s, ctset_s]
  · rw [ctset_o h1, ctset_o h1]
    by_cases h2 : b = 2 ∧ i = j
    · rw [h2.1, h2.2, ctset_s, ctset_s]
    · rw [ctset_o h2, ctset_o h1, ctset_o h2]
def gRoom (n cap : Nat) : Nat := if n = 0 then 10 else if n < cap then cap else n + n / 2
theorem gRoom_ok {n cap : Nat} (h : n ≠ 0 → n ≤ cap ∧ (cap = 10 ∨ cap = 15 ∨ cap = 22 ∨ cap = 33)) (hn : n < 24) : n + 1 ≤ gRoom n cap ∧ (gRoom n cap = 10 ∨ gRoom n cap = 15 ∨ gRoom n cap = 22 ∨ gRoom n cap = 33) := by
  unfold gRoom
  by_cases h0 : n = 0
  · subst h0
    exact ⟨(by decide : 0 + 1 ≤ 10), Or.inl rfl⟩
  · rw [if_neg h0]
    obtain ⟨h1, h2⟩ := h h0
    by_cases h3 : n < cap
    · rw [if_pos h3]
      exact ⟨h3, h2⟩
    · rw [if_neg h3]
      have h4 : n = cap := by omega
      subst h4
      rcases h2 with rfl | rfl | rfl | rfl
      · exact ⟨by decide, Or.inr (Or.inl rfl)⟩
      · exact ⟨by decide, Or.inr (Or.inr (Or.inl rfl))⟩
      · exact ⟨by decide, Or.inr (Or.inr (Or.inr rfl))⟩
      · omega
set_option maxHeartbeats 4000000 in
set_option maxRecDepth 100000 in
theorem c_add (l : Launch) (D : va_G) (G : gG) (A : Nat → Prop) (ad : gAd) (ct : gC) (Hp : Heap) (hW : gW D A ad ct Hp) (hA : ∀ q, Hp.size ≤ q → A q) (mi j : Nat) (hj : j < 4) (n cap : Nat) (md : Int32) (hc1 : ct 1 j = some (.inr (0, [.int md, .ref (if n = 0 then G.2.2.2 else ad 2 j), .int (nI n)]))) (hc2 : n ≠ 0 → ct 2 j = (some (.inl (G.2.2.1, cap, .inr (.inr (.inr (.inr (gArr (ad (3 + j)) n)))))))) (hn : n < 24) (hcap : n ≠ 0 → n ≤ cap ∧ (cap = 10 ∨ cap = 15 ∨ cap = 22 ∨ cap = 33)) (h10 : ct 10 0 = none) (civ : Nat) (rv : vw_C) (hcv : vwCl[civ]? = some rv) (hcast : ∀ U : State, gLe mi G.2.2.2 A U → va_Nw (.castable rv.1 cOb) U) (hels : ∀ i : Nat, i < n + 1 → ∃ fs : List Value, ct (3 + j) i = some (.inr (civ, fs))) : Met l yJx4a65c_add_9ea2d wsJx4a65c_add_9ea2d ({ frames := 6, cells := 1, slots := 33, locals := 240 }) (va_Pc [.ref (ad 1 j), .ref (ad (3 + j) n)] (gQL D G Hp mi A)) (va_Qi (fun (r : Int32) (_ : Nat) => r = 1) (fun ra t => gW D A (adset ad 2 j ra) (ctset (ctset ct 2 j (some (.inl (G.2.2.1, (gRoom n cap), .inr (.inr (.inr (.inr (gArr (ad (3 + j)) (n + 1))))))))) 1 j (some (.inr (0, [.int (md + 1), .ref ra, .int (nI (n + 1))])))) t.heap) A) 1 33 A := by
  refine g_startP (cc := cJx4a65c_add_9ea2d) (maxL := 2) (ret := (some .boolean)) (by decide) rfl (Nat.le_of_ble_eq_true rfl) (fun p e s m below meth c ls C0 hr hlk hnm hv hl => ?_)
  obtain ⟨hh, hK, hE⟩ := hv
  refine g_heq hh ?_
  obtain ⟨hx, hb, hml, hown, hts⟩ := id C0
  have hown : s.vm.findClass RJx4a65c = some m.cls := hown
  have hS : va_S A Hp Hp [] := va_S.rf
  have hl : lv_has ls 2 [(0, .ref (ad 1 j)), (1, .ref (ad (3 + j) n))] := hl
  have inJx4a65c : ∀ w ∈ wsJx4a65c0, w ∈ wsJx4a65c_add_9ea2d := by decide +kernel
  by_cases hn0 : n = 0
  · subst hn0
    replace hc1 : ct 1 j = some (.inr (0, [.int md, .ref G.2.2.2, .int 0])) := hc1
    refine lv_aload_n hx hb dJx4a65c_add_9ea2d_0 rfl (lv_at hl 0 rfl) ?_
    refine lv_dup hx hb dJx4a65c_add_9ea2d_1 rfl ?_
    refine va_get (D := D) (ci := 0) (v := .int md) (C := RJx4a65c) (T := TJx4a65c) (N := 3) hx hb hts inJx4a65c hown hK (hW.p hc1) 0 rfl rfl 0 (by decide) (hts (.fieldLink RJx4a65c 63 "java/util/ArrayList" "modCount" "I") (List.mem_of_getElem? (i := 1) rfl)) (fun x9 h9 => u_same (hts (.sameField "java/util/ArrayList" "java/util/AbstractList" "modCount" "I") (List.mem_of_getElem? (i := 2) rfl)) x9 h9) rfl dJx4a65c_add_9ea2d_2 ?_
    refine lv_iconst (v := 1) hx hb dJx4a65c_add_9ea2d_5 (by decide) ?_
    refine lv_iadd hx hb dJx4a65c_add_9ea2d_6 ?_
    refine g_put (D := D) (ci := 0) (v := .int (md + 1)) (ty := .int) (C := RJx4a65c) (T := TJx4a65c) (N := 3) (ct' := (ctset ct 1 j (some (.inr (0, [.int (md + 1), .ref G.2.2.2, .int 0]))))) hx hb hts inJx4a65c tyJx4a65c tyJx4a65c_ok nmJx4a65c hown hK hW hS (fs := [.int md, .ref G.2.2.2, .int 0]) hc1 rfl 0 (by decide) (hts (.fieldLink RJx4a65c 63 "java/util/ArrayList" "modCount" "I") (List.mem_of_getElem? (i := 1) rfl)) (fun x9 h9 => u_same (hts (.sameField "java/util/ArrayList" "java/util/AbstractList" "modCount" "I") (List.mem_of_getElem? (i := 2) rfl)) x9 h9) rfl (by decide +kernel) rfl rfl (Nat.le_of_ble_eq_true rfl) dJx4a65c_add_9ea2d_7 ctset_s (fun b' i' h9 => ctset_o h9) (fun H locs hW hS => ?_)
    refine lv_aload_n hx hb dJx4a65c_add_9ea2d_10 rfl (lv_at hl 0 rfl) ?_
    refine lv_aload_n hx hb dJx4a65c_add_9ea2d_11 rfl (lv_at hl 1 rfl) ?_
    refine lv_aload_n hx hb dJx4a65c_add_9ea2d_12 rfl (lv_at hl 0 rfl) ?_
    refine va_get (D := D) (ci := 0) (v := .ref G.2.2.2) (C := RJx4a65c) (T := TJx4a65c) (N := 3) hx hb hts inJx4a65c hown hK (hW.p ctset_s) 0 rfl rfl 1 (by decide) (hts (.fieldLink RJx4a65c 9 "java/util/ArrayList" "elementData" "[Ljava/lang/Object;") (List.mem_of_getElem? (i := 3) rfl)) (fun _ h9 => h9) rfl dJx4a65c_add_9ea2d_13 ?_
    refine lv_aload_n hx hb dJx4a65c_add_9ea2d_16 rfl (lv_at hl 0 rfl) ?_
    refine va_get (D := D) (ci := 0) (v := .int 0) (C := RJx4a65c) (T := TJx4a65c) (N := 3) hx hb hts inJx4a65c hown hK (hW.p ctset_s) 0 rfl rfl 2 (by decide) (hts (.fieldLink RJx4a65c 48 "java/util/ArrayList" "size" "I") (List.mem_of_getElem? (i := 4) rfl)) (fun _ h9 => h9) rfl dJx4a65c_add_9ea2d_17 ?_
    refine g_LVv (As := [.ref (ad (3 + j) 0), .ref G.2.2.2, .int 0]) (rest := []) (post := fun (_ : Nat) => True) (B := (fun (ra : Nat) H => gW D A (adset ad 2 j ra) (ctset (ctset (ctset ct 1 j (some (.inr (0, [.int (md + 1), .ref G.2.2.2, .int 0])))) 2 j (some (.inl (G.2.2.1, 10, .inr (.inr (.inr (.inr (gArr (ad (3 + j)) (0 + 1))))))))) 1 j (some (.inr (0, [.int (md + 1), .ref ra, .int (nI (0 + 1))])))) H)) (mc := 1) (ms := 10) C0 (c_addTo_E l D G A ad (ctset ct 1 j (some (.inr (0, [.int (md + 1), .ref G.2.2.2, .int 0])))) H hW (fun q h9 => hA q (Nat.le_trans hS.1 h9)) mi j hj (md + 1) ctset_s civ rv hcv hcast (fun i9 h9 => by obtain ⟨fs9, hf9⟩ := hels i9 h9; exact ⟨fs9, (ctset_o (fun z => absurd z.1 (by omega))).trans hf9⟩)) (cwV 3 hts gJx4a65c_add_9ea2d_Jx4a65c_add_72be8 rfl rfl rfl (by decide +kernel) ⟨Nat.le_of_ble_eq_true rfl, Nat.le_of_ble_eq_true rfl⟩) hK hE hh (va_recv hK (hW.p ctset_s) (ci := 0) (q0 := 0) rfl rfl) rfl hl rfl (Nat.le_of_ble_eq_true rfl) dJx4a65c_add_9ea2d_20 ⟨(by show 0 + 1 ≤ 1; omega), (by show 0 + 10 ≤ 33; omega)⟩ hS (fun u H locs hu hW hz hS => ?_)
    refine lv_iconst (v := 1) hx hb dJx4a65c_add_9ea2d_23 (by decide) ?_
    have hW1 : gW D A (adset ad 2 j u) (ctset (ctset ct 2 j (some (.inl (G.2.2.1, (gRoom 0 cap), .inr (.inr (.inr (.inr (gArr (ad (3 + j)) (0 + 1))))))))) 1 j (some (.inr (0, [.int (md + 1), .ref u, .int (nI (0 + 1))])))) H := by
      have h7 := hW
      rw [ctset_121] at h7
      rw [show gRoom 0 cap = 10 from rfl]
      exact h7
    refine W.widen (k := 1) (n := 33) (by omega) (by omega) ?_
    exact g_wzret (u := u) (post := fun r _ => r = 1) (B := fun ra H => gW D A (adset ad 2 j ra) (ctset (ctset ct 2 j (some (.inl (G.2.2.1, (gRoom 0 cap), .inr (.inr (.inr (.inr (gArr (ad (3 + j)) (0 + 1))))))))) 1 j (some (.inr (0, [.int (md + 1), .ref ra, .int (nI (0 + 1))])))) H) hx hb hr hlk hh hS (Or.inr rfl) rfl hW1 dJx4a65c_add_9ea2d_24
  · rw [if_neg hn0] at hc1
    replace hc2 := hc2 hn0
    obtain ⟨hnc, hcap⟩ := hcap hn0
    by_cases hlt : n < cap
    · have hcap9 : cap ≤ 1000 := by omega
      refine lv_aload_n hx hb dJx4a65c_add_9ea2d_0 rfl (lv_at hl 0 rfl) ?_
      refine lv_dup hx hb dJx4a65c_add_9ea2d_1 rfl ?_
      refine va_get (D := D) (ci := 0) (v := .int md) (C := RJx4a65c) (T := TJx4a65c) (N := 3) hx hb hts inJx4a65c hown hK (hW.p hc1) 0 rfl rfl 0 (by decide) (hts (.fieldLink RJx4a65c 63 "java/util/ArrayList" "modCount" "I") (List.mem_of_getElem? (i := 1) rfl)) (fun x9 h9 => u_same (hts (.sameField "java/util/ArrayList" "java/util/AbstractList" "modCount" "I") (List.mem_of_getElem? (i := 2) rfl)) x9 h9) rfl dJx4a65c_add_9ea2d_2 ?_
      refine lv_iconst (v := 1) hx hb dJx4a65c_add_9ea2d_5 (by decide) ?_
      refine lv_iadd hx hb dJx4a65c_add_9ea2d_6 ?_
      refine g_put (D := D) (ci := 0) (v := .int (md + 1)) (ty := .int) (C := RJx4a65c) (T := TJx4a65c) (N := 3) (ct' := (ctset ct 1 j (some (.inr (0, [.int (md + 1), .ref (ad 2 j), .int (nI n)]))))) hx hb hts inJx4a65c tyJx4a65c tyJx4a65c_ok nmJx4a65c hown hK hW hS (fs := [.int md, .ref (ad 2 j), .int (nI n)]) hc1 rfl 0 (by decide) (hts (.fieldLink RJx4a65c 63 "java/util/ArrayList" "modCount" "I") (List.mem_of_getElem? (i := 1) rfl)) (fun x9 h9 => u_same (hts (.sameField "java/util/ArrayList" "java/util/AbstractList" "modCount" "I") (List.mem_of_getElem? (i := 2) rfl)) x9 h9) rfl (by decide +kernel) rfl rfl (Nat.le_of_ble_eq_true rfl) dJx4a65c_add_9ea2d_7 ctset_s (fun b' i' h9 => ctset_o h9) (fun H locs hW hS => ?_)
      refine lv_aload_n hx hb dJx4a65c_add_9ea2d_10 rfl (lv_at hl 0 rfl) ?_
      refine lv_aload_n hx hb dJx4a65c_add_9ea2d_11 rfl (lv_at hl 1 rfl) ?_
      refine lv_aload_n hx hb dJx4a65c_add_9ea2d_12 rfl (lv_at hl 0 rfl) ?_
      refine va_get (D := D) (ci := 0) (v := .ref (ad 2 j)) (C := RJx4a65c) (T := TJx4a65c) (N := 3) hx hb hts inJx4a65c hown hK (hW.p ctset_s) 0 rfl rfl 1 (by decide) (hts (.fieldLink RJx4a65c 9 "java/util/ArrayList" "elementData" "[Ljava/lang/Object;") (List.mem_of_getElem? (i := 3) rfl)) (fun _ h9 => h9) rfl dJx4a65c_add_9ea2d_13 ?_
      refine lv_aload_n hx hb dJx4a65c_add_9ea2d_16 rfl (lv_at hl 0 rfl) ?_
      refine va_get (D := D) (ci := 0) (v := .int (nI n)) (C := RJx4a65c) (T := TJx4a65c) (N := 3) hx hb hts inJx4a65c hown hK (hW.p ctset_s) 0 rfl rfl 2 (by decide) (hts (.fieldLink RJx4a65c 48 "java/util/ArrayList" "size" "I") (List.mem_of_getElem? (i := 4) rfl)) (fun _ h9 => h9) rfl dJx4a65c_add_9ea2d_17 ?_
      refine g_LVv (As := [.ref (ad (3 + j) n), .ref (ad 2 j), .int (nI n)]) (rest := []) (post := fun (_ : Unit) => True) (B := (fun (_ : Unit) H => gW D A ad (ctset (ctset (ctset ct 1 j (some (.inr (0, [.int (md + 1), .ref (ad 2 j), .int (nI n)])))) 2 j (some (.inl (G.2.2.1, cap, .inr (.inr (.inr (.inr (va_up (gArr (ad (3 + j)) n) n (some (ad (3 + j) n)))))))))) 1 j (some (.inr (0, [.int (md + 1), .ref (ad 2 j), .int (nI (n + 1))])))) H)) (mc := 0) (ms := 0) C0 (c_addTo_R l D G A ad (ctset ct 1 j (some (.inr (0, [.int (md + 1), .ref (ad 2 j), .int (nI n)])))) H hW mi j n cap (ad (3 + j) n) (md + 1) (gArr (ad (3 + j)) n) ctset_s ((ctset_o (fun z => absurd z.1 (by decide))).trans hc2) hlt (by omega) (fun U hK9 hE9 => by obtain ⟨fs9, hf9⟩ := hels n (by omega); exact g_any (args := #[]) hK9 hW ((ctset_o (fun z => absurd z.1 (by omega))).trans hf9) hcv (hcast U hE9))) (cwV 3 hts gJx4a65c_add_9ea2d_Jx4a65c_add_72be8 rfl rfl rfl (by decide +kernel) ⟨Nat.le_of_ble_eq_true rfl, Nat.le_of_ble_eq_true rfl⟩) hK hE hh (va_recv hK (hW.p ctset_s) (ci := 0) (q0 := 0) rfl rfl) rfl hl rfl (Nat.le_of_ble_eq_true rfl) dJx4a65c_add_9ea2d_20 ⟨(by show 0 + 0 ≤ 1; omega), (by show 0 + 0 ≤ 33; omega)⟩ hS (fun u H locs hu hW hz hS => ?_)
      refine lv_iconst (v := 1) hx hb dJx4a65c_add_9ea2d_23 (by decide) ?_
      have hW1 : gW D A (adset ad 2 j (ad 2 j)) (ctset (ctset ct 2 j (some (.inl (G.2.2.1, (gRoom n cap), .inr (.inr (.inr (.inr (gArr (ad (3 + j)) (n + 1))))))))) 1 j (some (.inr (0, [.int (md + 1), .ref (ad 2 j), .int (nI (n + 1))])))) H := by
        have h7 := hW
        rw [gArr_up, ctset_121] at h7
        rw [adset_self, show gRoom n cap = cap from by rw [gRoom, if_neg hn0, if_pos hlt]]
        exact h7
      refine W.widen (k := 1) (n := 33) (by omega) (by omega) ?_
      exact g_wzret (u := (ad 2 j)) (post := fun r _ => r = 1) (B := fun ra H => gW D A (adset ad 2 j ra) (ctset (ctset ct 2 j (some (.inl (G.2.2.1, (gRoom n cap), .inr (.inr (.inr (.inr (gArr (ad (3 + j)) (n + 1))))))))) 1 j (some (.inr (0, [.int (md + 1), .ref ra, .int (nI (n + 1))])))) H) hx hb hr hlk hh hS (Or.inr rfl) rfl hW1 dJx4a65c_add_9ea2d_24
    · have hnc2 : n = cap := by omega
      have hnl : nI n + (if (nI (n + 1) - nI n) < (nI n >>> ((1 : Int32) &&& 31)) then (nI n >>> ((1 : Int32) &&& 31)) else (nI (n + 1) - nI n)) = nI (n + n / 2) := by
        rcases hcap with h9 | h9 | h9 | h9
        · rw [hnc2, h9]; decide
        · rw [hnc2, h9]; decide
        · rw [hnc2, h9]; decide
        · omega
      have hc2 : ct 2 j = (some (.inl (G.2.2.1, n, .inr (.inr (.inr (.inr (gArr (ad (3 + j)) n))))))) := by rw [hc2, ← hnc2]
      refine lv_aload_n hx hb dJx4a65c_add_9ea2d_0 rfl (lv_at hl 0 rfl) ?_
      refine lv_dup hx hb dJx4a65c_add_9ea2d_1 rfl ?_
      refine va_get (D := D) (ci := 0) (v := .int md) (C := RJx4a65c) (T := TJx4a65c) (N := 3) hx hb hts inJx4a65c hown hK (hW.p hc1) 0 rfl rfl 0 (by decide) (hts (.fieldLink RJx4a65c 63 "java/util/ArrayList" "modCount" "I") (List.mem_of_getElem? (i := 1) rfl)) (fun x9 h9 => u_same (hts (.sameField "java/util/ArrayList" "java/util/AbstractList" "modCount" "I") (List.mem_of_getElem? (i := 2) rfl)) x9 h9) rfl dJx4a65c_add_9ea2d_2 ?_
      refine lv_iconst (v := 1) hx hb dJx4a65c_add_9ea2d_5 (by decide) ?_
      refine lv_iadd hx hb dJx4a65c_add_9ea2d_6 ?_
      refine g_put (D := D) (ci := 0) (v := .int (md + 1)) (ty := .int) (C := RJx4a65c) (T := TJx4a65c) (N := 3) (ct' := (ctset ct 1 j (some (.inr (0, [.int (md + 1), .ref (ad 2 j), .int (nI n)]))))) hx hb hts inJx4a65c tyJx4a65c tyJx4a65c_ok nmJx4a65c hown hK hW hS (fs := [.int md, .ref (ad 2 j), .int (nI n)]) hc1 rfl 0 (by decide) (hts (.fieldLink RJx4a65c 63 "java/util/ArrayList" "modCount" "I") (List.mem_of_getElem? (i := 1) rfl)) (fun x9 h9 => u_same (hts (.sameField "java/util/ArrayList" "java/util/AbstractList" "modCount" "I") (List.mem_of_getElem? (i := 2) rfl)) x9 h9) rfl (by decide +kernel) rfl rfl (Nat.le_of_ble_eq_true rfl) dJx4a65c_add_9ea2d_7 ctset_s (fun b' i' h9 => ctset_o h9) (fun H locs hW hS => ?_)
      refine lv_aload_n hx hb dJx4a65c_add_9ea2d_10 rfl (lv_at hl 0 rfl) ?_
      refine lv_aload_n hx hb dJx4a65c_add_9ea2d_11 rfl (lv_at hl 1 rfl) ?_
      refine lv_aload_n hx hb dJx4a65c_add_9ea2d_12 rfl (lv_at hl 0 rfl) ?_
      refine va_get (D := D) (ci := 0) (v := .ref (ad 2 j)) (C := RJx4a65c) (T := TJx4a65c) (N := 3) hx hb hts inJx4a65c hown hK (hW.p ctset_s) 0 rfl rfl 1 (by decide) (hts (.fieldLink RJx4a65c 9 "java/util/ArrayList" "elementData" "[Ljava/lang/Object;") (List.mem_of_getElem? (i := 3) rfl)) (fun _ h9 => h9) rfl dJx4a65c_add_9ea2d_13 ?_
      refine lv_aload_n hx hb dJx4a65c_add_9ea2d_16 rfl (lv_at hl 0 rfl) ?_
      refine va_get (D := D) (ci := 0) (v := .int (nI n)) (C := RJx4a65c) (T := TJx4a65c) (N := 3) hx hb hts inJx4a65c hown hK (hW.p ctset_s) 0 rfl rfl 2 (by decide) (hts (.fieldLink RJx4a65c 48 "java/util/ArrayList" "size" "I") (List.mem_of_getElem? (i := 4) rfl)) (fun _ h9 => h9) rfl dJx4a65c_add_9ea2d_17 ?_
      refine g_LVv (As := [.ref (ad (3 + j) n), .ref (ad 2 j), .int (nI n)]) (rest := []) (post := fun (_ : Nat) => True) (B := (fun (ra : Nat) H => gW D A (adset ad 2 j ra) (ctset (ctset (ctset ct 1 j (some (.inr (0, [.int (md + 1), .ref (ad 2 j), .int (nI n)])))) 2 j (some (.inl (G.2.2.1, (n + n / 2), .inr (.inr (.inr (.inr (gArr (ad (3 + j)) (n + 1))))))))) 1 j (some (.inr (0, [.int (md + 1), .ref ra, .int (nI (n + 1))])))) H)) (mc := 1) (ms := (n + n / 2)) C0 (c_addTo_F l D G A ad (ctset ct 1 j (some (.inr (0, [.int (md + 1), .ref (ad 2 j), .int (nI n)])))) H hW (fun q h9 => hA q (Nat.le_trans hS.1 h9)) mi j hj n (n + n / 2) (md + 1) ctset_s ((ctset_o (fun z => absurd z.1 (by decide))).trans hc2) (by omega) (by omega) (by omega) hnl ((ctset_o (fun z => absurd z.1 (by decide))).trans h10) civ rv hcv hcast (fun i9 h9 => by obtain ⟨fs9, hf9⟩ := hels i9 h9; exact ⟨fs9, (ctset_o (fun z => absurd z.1 (by omega))).trans hf9⟩)) (cwV 3 hts gJx4a65c_add_9ea2d_Jx4a65c_add_72be8 rfl rfl rfl (by decide +kernel) ⟨Nat.le_of_ble_eq_true rfl, Nat.le_of_ble_eq_true rfl⟩) hK hE hh (va_recv hK (hW.p ctset_s) (ci := 0) (q0 := 0) rfl rfl) rfl hl rfl (Nat.le_of_ble_eq_true rfl) dJx4a65c_add_9ea2d_20 ⟨(by show 0 + 1 ≤ 1; omega), (by show 0 + (n + n / 2) ≤ 33; omega)⟩ hS (fun u H locs hu hW hz hS => ?_)
      refine lv_iconst (v := 1) hx hb dJx4a65c_add_9ea2d_23 (by decide) ?_
      have hW1 : gW D A (adset ad 2 j u) (ctset (ctset ct 2 j (some (.inl (G.2.2.1, (gRoom n cap), .inr (.inr (.inr (.inr (gArr (ad (3 + j)) (n + 1))))))))) 1 j (some (.inr (0, [.int (md + 1), .ref u, .int (nI (n + 1))])))) H := by
        have h7 := hW
        rw [ctset_121] at h7
        rw [show gRoom n cap = (n + n / 2) from by rw [gRoom, if_neg hn0, if_neg hlt]]
        exact h7
      refine W.widen (k := 1) (n := 33) (by omega) (by omega) ?_
      exact g_wzret (u := u) (post := fun r _ => r = 1) (B := fun ra H => gW D A (adset ad 2 j ra) (ctset (ctset ct 2 j (some (.inl (G.2.2.1, (gRoom n cap), .inr (.inr (.inr (.inr (gArr (ad (3 + j)) (n + 1))))))))) 1 j (some (.inr (0, [.int (md + 1), .ref ra, .int (nI (n + 1))])))) H) hx hb hr hlk hh hS (Or.inr rfl) rfl hW1 dJx4a65c_add_9ea2d_24
