/-! A LIST TAKES AN OBJECT: empty, full, and the whole -/
abbrev gArr (w : Nat → Nat) (n : Nat) : Nat → Option Nat := fun i => if i < n then some (w i) else none
theorem gArr_up {w : Nat → Nat} {n : Nat} : va_up (gArr w n) n (some (w n)) = gArr w (n + 1) := by
  funext i
  show (if i = n then some (w n) else if i < n then some (w i) else none) = if i < n + 1 then some (w i) else none
  by_cases h : i = n
  · rw [if_pos h, if_pos (by omega), h]
  · rw [if_neg h]
    by_cases h2 : i < n
    · rw [if_pos h2, if_pos (by omega)]
    · rw [if_neg h2, if_neg (by omega)]
theorem gArr_0 {w : Nat → Nat} : (fun _ => none) = gArr w 0 := by
  funext i
  exact (if_neg (Nat.not_lt_zero _)).symm
theorem gArr_cpy {w : Nat → Nat} {n : Nat} : va_cpy (gArr w n) (fun _ => none) 0 0 n = gArr w n := by
  funext i
  show (if 0 ≤ i ∧ i < 0 + n then (if 0 + (i - 0) < n then some (w (0 + (i - 0))) else none) else none) = if i < n then some (w i) else none
  by_cases h : i < n
  · rw [if_pos ⟨Nat.zero_le _, by omega⟩, if_pos (by omega), if_pos h]
    congr 2
    omega
  · rw [if_neg (fun z => h (by omega)), if_neg h]
theorem adset_self {ad : gAd} {b i : Nat} : adset ad b i (ad b i) = ad := by
  funext b' i'
  by_cases h : b' = b ∧ i' = i
  · rw [h.1, h.2, adset_s]
  · rw [adset_o h]
theorem ctset_2121 {ct : gC} {j : Nat} {e1 e2 e1' e2' : Option va_E} : ctset (ctset (ctset (ctset ct 2 j e2) 1 j e1) 2 j e2') 1 j e1' = ctset (ctset ct 2 j e2') 1 j e1' := by
  funext b i
  by_cases h1 : b = 1 ∧ i = j
  · rw [h1.1, h1.2, ctset_s, ctset_s]
  · rw [ctset_o h1, ctset_o h1]
    by_cases h2 : b = 2 ∧ i = j
    · rw [h2.1, h2.2, ctset_s, ctset_s]
    · rw [ctset_o h2, ctset_o h1, ctset_o h2, ctset_o h2]
section GAdr4
variable {p : Program} {l : Launch} {e : Env} {R : Room} {s : State} {m : MethodId} {args : Array Value} {below : List Frame} {meth : Method} {c : Code} {H : Heap} {locs : List Loc} {cells slots : Nat} {Q : State → Prop}
theorem g_adr4 {pc : Nat} {ls : Array Slot} {rest : List Value} {x y : Value} {ad : gAd} {b i a : Nat} (ha : ad b i = a) (k : W p l e R s m args below meth c H locs cells slots Q (F0 m pc ls (x :: y :: .ref (ad b i) :: rest))) : W p l e R s m args below meth c H locs cells slots Q (F0 m pc ls (x :: y :: .ref a :: rest)) := by
  subst ha
  exact k
theorem g_adr0 {pc : Nat} {ls : Array Slot} {rest : List Value} {ad : gAd} {b i a : Nat} (ha : ad b i = a) (k : W p l e R s m args below meth c H locs cells slots Q (F0 m pc ls (.ref (ad b i) :: rest))) : W p l e R s m args below meth c H locs cells slots Q (F0 m pc ls (.ref a :: rest)) := by
  subst ha
  exact k
end GAdr4
set_option maxHeartbeats 4000000 in
set_option maxRecDepth 100000 in
theorem c_addTo_E (l : Launch) (D : va_G) (G : gG) (A : Nat → Prop) (ad : gAd) (ct : gC) (Hp : Heap) (hW : gW D A ad ct Hp) (hA : ∀ q, Hp.size ≤ q → A q) (mi j : Nat) (hj : j < 4) (md : Int32) (hc1 : ct 1 j = some (.inr (0, [.int md, .ref G.2.2.2, .int 0]))) (civ : Nat) (rv : vw_C) (hcv : vwCl[civ]? = some rv) (hcast : ∀ U : State, gLe mi G.2.2.2 A U → va_Nw (.castable rv.1 cOb) U) (hels : ∀ i : Nat, i < 0 + 1 → ∃ fs : List Value, ct (3 + j) i = some (.inr (civ, fs))) : Met l yJx4a65c_add_72be8 wsJx4a65c_add_72be8 ({ frames := 5, cells := 1, slots := 10, locals := 190 }) (va_Pc [.ref (ad 1 j), .ref (ad (3 + j) 0), .ref G.2.2.2, .int 0] (gQL D G Hp mi A)) (va_Qv (fun (_ : Nat) => True) (fun ra t => gW D A (adset ad 2 j ra) (ctset (ctset ct 2 j (some (.inl (G.2.2.1, 10, .inr (.inr (.inr (.inr (gArr (ad (3 + j)) (0 + 1))))))))) 1 j (some (.inr (0, [.int md, .ref ra, .int (nI (0 + 1))])))) t.heap) A) 1 10 A := by
  refine g_startP (cc := cJx4a65c_add_72be8) (maxL := 4) (ret := none) (by decide) rfl (Nat.le_of_ble_eq_true rfl) (fun p e s m below meth c ls C0 hr hlk hnm hv hl => ?_)
  obtain ⟨hh, hK, hE⟩ := hv
  obtain ⟨hM, hDc, hAO, hZ, hT, -⟩ := id hE
  refine g_heq hh ?_
  obtain ⟨hx, hb, hml, hown, hts⟩ := id C0
  have hown : s.vm.findClass RJx4a65c = some m.cls := hown
  have hS : va_S A Hp Hp [] := va_S.rf
  have hl : lv_has ls 4 [(0, .ref (ad 1 j)), (1, .ref (ad (3 + j) 0)), (2, .ref G.2.2.2), (3, .int 0)] := hl
  have inJx4a65c : ∀ w ∈ wsJx4a65c0, w ∈ wsJx4a65c_add_72be8 := by decide +kernel
  refine lv_iload_n hx hb dJx4a65c_add_72be8_0 rfl (lv_at hl 3 rfl) ?_
  refine lv_aload_n hx hb dJx4a65c_add_72be8_1 rfl (lv_at hl 2 rfl) ?_
  refine va_tlen hx hb hT (by rw [hh]; exact hS) (v := 0) rfl dJx4a65c_add_72be8_2 ?_
  refine lv_icmp_ne (tgt := 11) hx hb dJx4a65c_add_72be8_3 (by decide) (fun c => absurd rfl c) (fun _ => ?_)
  refine lv_aload_n hx hb dJx4a65c_add_72be8_6 rfl (lv_at hl 0 rfl) ?_
  have hM0 := c_growOne_E l D G A ad ct Hp hW hA mi j md hc1
  refine g_LVr (As := []) (rest := []) (post := fun (_ : Unit) => True) (B := fun _ ra H => gW D A (adset ad 2 j ra) (ctset (ctset ct 2 j (some (.inl (G.2.2.1, 10, .inr (.inr (.inr (.inr (fun _ => none)))))))) 1 j (some (.inr (0, [.int md, .ref ra, .int 0])))) H) (mc := 1) (ms := 10) C0 hM0 (cwV 0 hts gJx4a65c_add_72be8_Jx4a65c_grow_d5877 rfl rfl rfl (by decide +kernel) ⟨Nat.le_of_ble_eq_true rfl, Nat.le_of_ble_eq_true rfl⟩) hK hE hh (va_recv hK (hW.p hc1) (ci := 0) (q0 := 0) rfl rfl) rfl hl rfl (Nat.le_of_ble_eq_true rfl) dJx4a65c_add_72be8_7 ⟨(by show 0 + 1 ≤ 1; omega), (by show 0 + 10 ≤ 10; omega)⟩ hS (fun u ra H1 locs1 hu hW hz hS => ?_)
  refine lv_astore_n (lv' := [(2, .ref ra), (0, .ref (ad 1 j)), (1, .ref (ad (3 + j) 0)), (3, .int 0)]) hx hb dJx4a65c_add_72be8_10 rfl hl (by decide) rfl (fun ls hl => ?_)
  refine lv_aload_n hx hb dJx4a65c_add_72be8_11 rfl (lv_at hl 0 rfl) ?_
  refine lv_iload_n hx hb dJx4a65c_add_72be8_12 rfl (lv_at hl 3 rfl) ?_
  refine lv_aload_n hx hb dJx4a65c_add_72be8_13 rfl (lv_at hl 2 rfl) ?_
  refine g_adr4 (ad := (adset ad 2 j ra)) (b := 2) (i := j) adset_s ?_
  obtain ⟨fsv, hfv⟩ := hels 0 (by omega)
  have hany : va_Any cOb s H1 (ad (3 + j) 0) := by
    have h7 := g_any (args := #[]) hK hW (b := 3 + j) (i := 0) (((ctset_o (fun z => absurd z.1 (by omega))).trans (ctset_o (fun z => absurd z.1 (by omega)))).trans hfv) hcv (hcast s hE)
    rwa [adset_o (fun z => absurd z.1 (by omega))] at h7
  refine g_astq (ad := (adset ad 2 j ra)) (f := (fun _ => none)) (ct' := (ctset (ctset (ctset ct 2 j (some (.inl (G.2.2.1, 10, .inr (.inr (.inr (.inr (fun _ => none)))))))) 1 j (some (.inr (0, [.int md, .ref ra, .int 0])))) 2 j (some (.inl (G.2.2.1, 10, .inr (.inr (.inr (.inr (va_up (fun _ => none) 0 (some (ad (3 + j) 0))))))))))) hx hb hK hW hS 2 ((ctset_o (fun z => absurd z.1 (by decide))).trans ctset_s) rfl hany 0 rfl (by omega) (by omega) dJx4a65c_add_72be8_14 ctset_s (fun b' i' h9 => ctset_o h9) (fun H locs hW hS hz => ?_)
  refine lv_aload_n hx hb dJx4a65c_add_72be8_15 rfl (lv_at hl 1 rfl) ?_
  refine lv_iload_n hx hb dJx4a65c_add_72be8_16 rfl (lv_at hl 3 rfl) ?_
  refine lv_iconst (v := 1) hx hb dJx4a65c_add_72be8_17 (by decide) ?_
  refine lv_iadd hx hb dJx4a65c_add_72be8_18 ?_
  rw [show (0 : Int32) + 1 = nI (0 + 1) from rfl]
  refine g_adr (ad := (adset ad 2 j ra)) (b := 1) (i := j) (adset_o (fun z => absurd z.1 (by decide))) ?_
  refine g_put (ad := (adset ad 2 j ra)) (D := D) (ci := 0) (v := .int (nI (0 + 1))) (ty := .int) (C := RJx4a65c) (T := TJx4a65c) (N := 3) (ct' := (ctset (ctset (ctset (ctset ct 2 j (some (.inl (G.2.2.1, 10, .inr (.inr (.inr (.inr (fun _ => none)))))))) 1 j (some (.inr (0, [.int md, .ref ra, .int 0])))) 2 j (some (.inl (G.2.2.1, 10, .inr (.inr (.inr (.inr (va_up (fun _ => none) 0 (some (ad (3 + j) 0)))))))))) 1 j (some (.inr (0, [.int md, .ref ra, .int (nI (0 + 1))]))))) hx hb hts inJx4a65c tyJx4a65c tyJx4a65c_ok nmJx4a65c hown hK hW hS (fs := [.int md, .ref ra, .int 0]) ((ctset_o (fun z => absurd z.1 (by decide))).trans ctset_s) rfl 2 (by decide) (hts (.fieldLink RJx4a65c 48 "java/util/ArrayList" "size" "I") (List.mem_of_getElem? (i := 1) rfl)) (fun _ h9 => h9) rfl (by decide +kernel) rfl rfl (Nat.le_of_ble_eq_true rfl) dJx4a65c_add_72be8_19 ctset_s (fun b' i' h9 => ctset_o h9) (fun H locs hW hS => ?_)
  have hW1 : gW D A (adset ad 2 j ra) (ctset (ctset ct 2 j (some (.inl (G.2.2.1, 10, .inr (.inr (.inr (.inr (gArr (ad (3 + j)) (0 + 1))))))))) 1 j (some (.inr (0, [.int md, .ref ra, .int (nI (0 + 1))])))) H := by
    have h7 := hW
    rw [ctset_2121, gArr_0 (w := ad (3 + j)), gArr_up] at h7
    exact h7
  refine W.widen (k := 1) (n := 10) (by omega) (by omega) ?_
  exact g_wvret (u := ra) (post := fun _ => True) (B := fun ra H => gW D A (adset ad 2 j ra) (ctset (ctset ct 2 j (some (.inl (G.2.2.1, 10, .inr (.inr (.inr (.inr (gArr (ad (3 + j)) (0 + 1))))))))) 1 j (some (.inr (0, [.int md, .ref ra, .int (nI (0 + 1))])))) H) hx hb hr hlk hh hS trivial hW1 dJx4a65c_add_72be8_22
set_option maxHeartbeats 4000000 in
set_option maxRecDepth 100000 in
theorem c_addTo_F (l : Launch) (D : va_G) (G : gG) (A : Nat → Prop) (ad : gAd) (ct : gC) (Hp : Heap) (hW : gW D A ad ct Hp) (hA : ∀ q, Hp.size ≤ q → A q) (mi j : Nat) (hj : j < 4) (n n1 : Nat) (md : Int32) (hc1 : ct 1 j = some (.inr (0, [.int md, .ref (ad 2 j), .int (nI n)]))) (hc2 : ct 2 j = some (.inl (G.2.2.1, n, .inr (.inr (.inr (.inr (gArr (ad (3 + j)) n))))))) (hn0 : 0 < n) (hn01 : n < n1) (hn1 : n1 ≤ 1000) (hnl : nI n + (if (nI (n + 1) - nI n) < (nI n >>> ((1 : Int32) &&& 31)) then (nI n >>> ((1 : Int32) &&& 31)) else (nI (n + 1) - nI n)) = nI n1) (h10 : ct 10 0 = none) (civ : Nat) (rv : vw_C) (hcv : vwCl[civ]? = some rv) (hcast : ∀ U : State, gLe mi G.2.2.2 A U → va_Nw (.castable rv.1 cOb) U) (hels : ∀ i : Nat, i < n + 1 → ∃ fs : List Value, ct (3 + j) i = some (.inr (civ, fs))) : Met l yJx4a65c_add_72be8 wsJx4a65c_add_72be8 ({ frames := 5, cells := 1, slots := n1, locals := 190 }) (va_Pc [.ref (ad 1 j), .ref (ad (3 + j) n), .ref (ad 2 j), .int (nI n)] (gQL D G Hp mi A)) (va_Qv (fun (_ : Nat) => True) (fun ra t => gW D A (adset ad 2 j ra) (ctset (ctset ct 2 j (some (.inl (G.2.2.1, n1, .inr (.inr (.inr (.inr (gArr (ad (3 + j)) (n + 1))))))))) 1 j (some (.inr (0, [.int md, .ref ra, .int (nI (n + 1))])))) t.heap) A) 1 n1 A := by
  refine g_startP (cc := cJx4a65c_add_72be8) (maxL := 4) (ret := none) (by decide) rfl (Nat.le_of_ble_eq_true rfl) (fun p e s m below meth c ls C0 hr hlk hnm hv hl => ?_)
  obtain ⟨hh, hK, hE⟩ := hv
  obtain ⟨hM, hDc, hAO, hZ, hT, -⟩ := id hE
  refine g_heq hh ?_
  obtain ⟨hx, hb, hml, hown, hts⟩ := id C0
  have hown : s.vm.findClass RJx4a65c = some m.cls := hown
  have hS : va_S A Hp Hp [] := va_S.rf
  have hl : lv_has ls 4 [(0, .ref (ad 1 j)), (1, .ref (ad (3 + j) n)), (2, .ref (ad 2 j)), (3, .int (nI n))] := hl
  have inJx4a65c : ∀ w ∈ wsJx4a65c0, w ∈ wsJx4a65c_add_72be8 := by decide +kernel
  refine lv_iload_n hx hb dJx4a65c_add_72be8_0 rfl (lv_at hl 3 rfl) ?_
  refine lv_aload_n hx hb dJx4a65c_add_72be8_1 rfl (lv_at hl 2 rfl) ?_
  refine va_alen hx hb hK (hW.p hc2) 0 2 (x := (n, .inr (.inr (.inr (.inr (gArr (ad (3 + j)) n)))))) rfl rfl (v := nI n) rfl dJx4a65c_add_72be8_2 ?_
  refine lv_icmp_ne (tgt := 11) hx hb dJx4a65c_add_72be8_3 (by decide) (fun c => absurd rfl c) (fun _ => ?_)
  refine lv_aload_n hx hb dJx4a65c_add_72be8_6 rfl (lv_at hl 0 rfl) ?_
  have hcpy : va_cpy (gArr (ad (3 + j)) n) (fun _ => none) 0 0 n = gArr (ad (3 + j)) n := gArr_cpy
  have hM0 := c_growOne_F l D G A ad ct Hp hW hA mi j n n1 md (gArr (ad (3 + j)) n) hc1 hc2 hn0 (Nat.le_of_lt hn01) hn1 hnl (fun U hK9 hE9 k9 hk9 y9 hy9 => by obtain ⟨fs9, hf9⟩ := hels k9 (by omega); cases Option.some.inj ((if_pos hk9).symm.trans hy9); exact g_any (args := #[]) hK9 hW hf9 hcv (hcast U hE9))
  rw [hcpy] at hM0
  refine g_LVr (As := []) (rest := []) (post := fun (_ : Unit) => True) (B := fun _ ra H => gW D A (adset ad 10 0 ra) (ctset (ctset ct 10 0 (some (.inl (G.2.2.1, n1, .inr (.inr (.inr (.inr (gArr (ad (3 + j)) n)))))))) 1 j (some (.inr (0, [.int md, .ref ra, .int (nI n)])))) H) (mc := 1) (ms := n1) C0 hM0 (cwV 0 hts gJx4a65c_add_72be8_Jx4a65c_grow_d5877 rfl rfl rfl (by decide +kernel) ⟨Nat.le_of_ble_eq_true rfl, Nat.le_of_ble_eq_true rfl⟩) hK hE hh (va_recv hK (hW.p hc1) (ci := 0) (q0 := 0) rfl rfl) rfl hl rfl (Nat.le_of_ble_eq_true rfl) dJx4a65c_add_72be8_7 ⟨(by show 0 + 1 ≤ 1; omega), (by show 0 + n1 ≤ n1; omega)⟩ hS (fun u ra H1 locs1 hu hW hz hS => ?_)
  refine lv_astore_n (lv' := [(2, .ref ra), (0, .ref (ad 1 j)), (1, .ref (ad (3 + j) n)), (3, .int (nI n))]) hx hb dJx4a65c_add_72be8_10 rfl hl (by decide) rfl (fun ls hl => ?_)
  refine lv_aload_n hx hb dJx4a65c_add_72be8_11 rfl (lv_at hl 0 rfl) ?_
  refine lv_iload_n hx hb dJx4a65c_add_72be8_12 rfl (lv_at hl 3 rfl) ?_
  refine lv_aload_n hx hb dJx4a65c_add_72be8_13 rfl (lv_at hl 2 rfl) ?_
  refine g_adr4 (ad := (adset ad 10 0 ra)) (b := 10) (i := 0) adset_s ?_
  obtain ⟨fsv, hfv⟩ := hels n (by omega)
  have hany : va_Any cOb s H1 (ad (3 + j) n) := by
    have h7 := g_any (args := #[]) hK hW (b := 3 + j) (i := n) (((ctset_o (fun z => absurd z.1 (by omega))).trans (ctset_o (fun z => absurd z.1 (by omega)))).trans hfv) hcv (hcast s hE)
    rwa [adset_o (fun z => absurd z.1 (by omega))] at h7
  refine g_astq (ad := (adset ad 10 0 ra)) (f := (gArr (ad (3 + j)) n)) (ct' := (ctset (ctset (ctset ct 10 0 (some (.inl (G.2.2.1, n1, .inr (.inr (.inr (.inr (gArr (ad (3 + j)) n)))))))) 1 j (some (.inr (0, [.int md, .ref ra, .int (nI n)])))) 10 0 (some (.inl (G.2.2.1, n1, .inr (.inr (.inr (.inr (va_up (gArr (ad (3 + j)) n) n (some (ad (3 + j) n))))))))))) hx hb hK hW hS 2 ((ctset_o (fun z => absurd z.1 (by decide))).trans ctset_s) rfl hany n rfl (by omega) (by omega) dJx4a65c_add_72be8_14 ctset_s (fun b' i' h9 => ctset_o h9) (fun H locs hW hS hz => ?_)
  refine lv_aload_n hx hb dJx4a65c_add_72be8_15 rfl (lv_at hl 1 rfl) ?_
  refine lv_iload_n hx hb dJx4a65c_add_72be8_16 rfl (lv_at hl 3 rfl) ?_
  refine lv_iconst (v := 1) hx hb dJx4a65c_add_72be8_17 (by decide) ?_
  refine lv_iadd hx hb dJx4a65c_add_72be8_18 ?_
  rw [show nI n + 1 = nI (n + 1) from (nI_succ n).symm]
  refine g_adr (ad := (adset ad 10 0 ra)) (b := 1) (i := j) (adset_o (fun z => absurd z.1 (by decide))) ?_
  refine g_put (ad := (adset ad 10 0 ra)) (D := D) (ci := 0) (v := .int (nI (n + 1))) (ty := .int) (C := RJx4a65c) (T := TJx4a65c) (N := 3) (ct' := (ctset (ctset (ctset (ctset ct 10 0 (some (.inl (G.2.2.1, n1, .inr (.inr (.inr (.inr (gArr (ad (3 + j)) n)))))))) 1 j (some (.inr (0, [.int md, .ref ra, .int (nI n)])))) 10 0 (some (.inl (G.2.2.1, n1, .inr (.inr (.inr (.inr (va_up (gArr (ad (3 + j)) n) n (some (ad (3 + j) n)))))))))) 1 j (some (.inr (0, [.int md, .ref ra, .int (nI (n + 1))]))))) hx hb hts inJx4a65c tyJx4a65c tyJx4a65c_ok nmJx4a65c hown hK hW hS (fs := [.int md, .ref ra, .int (nI n)]) ((ctset_o (fun z => absurd z.1 (by decide))).trans ctset_s) rfl 2 (by decide) (hts (.fieldLink RJx4a65c 48 "java/util/ArrayList" "size" "I") (List.mem_of_getElem? (i := 1) rfl)) (fun _ h9 => h9) rfl (by decide +kernel) rfl rfl (Nat.le_of_ble_eq_true rfl) dJx4a65c_add_72be8_19 ctset_s (fun b' i' h9 => ctset_o h9) (fun H locs hW hS => ?_)
  rw [gArr_up] at hW
  have hW1 : gW D A (adset ad 2 j ra) (ctset (ctset ct 2 j (some (.inl (G.2.2.1, n1, .inr (.inr (.inr (.inr (gArr (ad (3 + j)) (n + 1))))))))) 1 j (some (.inr (0, [.int md, .ref ra, .int (nI (n + 1))])))) H := by
    refine hW.move (b := 10) (i := 0) (b2 := 2) (i2 := j) (fun z => absurd z.1 (by decide)) (adset_s.trans adset_s.symm) ?_ ?_ (fun b' i' h1 h2 => ⟨?_, ?_⟩)
    · rw [ctset_o (fun z => absurd z.1 (by decide)), ctset_s, ctset_o (fun z => absurd z.1 (by decide)), ctset_s]
    · rw [ctset_o (fun z => absurd z.1 (by decide)), ctset_o (fun z => absurd z.1 (by decide)), h10]
    · by_cases h3 : b' = 1 ∧ i' = j
      · rw [h3.1, h3.2, ctset_s, ctset_s]
      · rw [ctset_o h3, ctset_o h1, ctset_o h3, ctset_o h2, ctset_o h3, ctset_o h2]
    · rw [adset_o h1, adset_o h2]
  refine W.widen (k := 1) (n := n1) (by omega) (by omega) ?_
  exact g_wvret (u := ra) (post := fun _ => True) (B := fun ra H => gW D A (adset ad 2 j ra) (ctset (ctset ct 2 j (some (.inl (G.2.2.1, n1, .inr (.inr (.inr (.inr (gArr (ad (3 + j)) (n + 1))))))))) 1 j (some (.inr (0, [.int md, .ref ra, .int (nI (n + 1))])))) H) hx hb hr hlk hh hS trivial hW1 dJx4a65c_add_72be8_22
