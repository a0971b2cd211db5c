/-! THE LISTS GROW: what it needs, and the copy -/
abbrev cOb : String := "java/lang/Object"
def gLe (mi t0 : Nat) (A : Nat → Prop) (U : State) : Prop := va_Mi "[Ljava/lang/Object;" mi U ∧ va_Dc U ∧ va_AO cOb U ∧ va_Z RJx4a65c "DEFAULTCAPACITY_EMPTY_ELEMENTDATA" "[Ljava/lang/Object;" (.ref t0) A U U.heap ∧ va_T (.object cOb) t0 0 (fun _ => .null) A U U.heap ∧ va_Nw (.castable RX0 cOb) U ∧ va_Nw (.castable RX1 cOb) U ∧ va_Nw (.castable RX2 cOb) U ∧ va_Nw (.castable RX3 cOb) U
theorem gLe.moved {mi t0 : Nat} {A : Nat → Prop} {s U : State} (h : gLe mi t0 A s) (hW : s.WarmedH U.vm) (hk : ∀ q : Nat, q < s.heap.size → ¬ A q → U.heap[q]? = s.heap[q]?) : gLe mi t0 A U := by
  obtain ⟨h1, h2, h3, h4, h5, c0, c1, c2, c3⟩ := h
  exact ⟨va_Mi.moved hW.alike h1, va_Dc.moved hW.alike h2, va_AO.moved hW.alike h3, va_Z.moved hW.alike (h4.kept hk), va_T.moved hW.alike (h5.kept hk), va_Nw.warmC hW c0, va_Nw.warmC hW c1, va_Nw.warmC hW c2, va_Nw.warmC hW c3⟩
def gQL (D : va_G) (G : gG) (Hp : Heap) (mi : Nat) (A : Nat → Prop) (U : State) : Prop := U.heap = Hp ∧ va_K D vwCl (gTs G) U ∧ gLe mi G.2.2.2 A U
section GLr
variable {p : Program} {l : Launch} {e : Env} {s : State} {m : MethodId} {args : Array Value} {below : List Frame} {meth : Method} {c : Code} {H : Heap} {locs : List Loc} {cc : ByteArray} {pc : Nat} {ls : Array Slot}
theorem g_wrret {SS : Type} {post : SS → Prop} {B : SS → Nat → Heap → Prop} {A : Nat → Prop} {R : Room} {cells slots : Nat} {H0 : Heap} {a : Nat} {u : SS} {rt : FieldType} (hexec : p.tables.exec = Jvm.exec) (hb : c.code = cc) (hr : meth.sig.returnType = some rt) (hrt : (∃ n, rt = .object n) ∨ ∃ t, rt = .array t) (hlocks : meth.locks = false) (hh : s.heap = H0) (hS : va_S A H0 H locs) (hp : post u) (hB : B u a H) (hdg : decode cc pc = .ok (.areturn, 1)) :
    W p l e R s m args below meth c H locs cells slots (MQ below (va_Qr post (fun u a t => B u a t.heap) A) args s cells slots A) (F0 m pc ls [.ref a]) := by
  subst hh
  exact W.aret hexec hb hr hrt (Or.inr ⟨_, rfl⟩) (fun t ht _ => ⟨⟨u, a, rfl, hp, by show B u a t.heap; rw [ht]; exact hB⟩, hS.F ht⟩) hS.2.2 hdg hlocks
end GLr
theorem mmin_n {a b : Nat} (h : a ≤ b) (hb : b < 2 ^ 31) : (if nI b < nI a then nI b else nI a) = nI a := if_neg (nI_nlt h hb)
theorem va_Any.keep {E : String} {s : State} {H H1 : Heap} {a : Nat} (h : va_Any E s H a) (hk : ∀ x : Nat, x < H.size → H1[x]? = H[x]?) : va_Any E s H1 a := by
  obtain ⟨cellV, h1, h2⟩ := h
  exact ⟨cellV, (hk a (Array.getElem?_eq_some_iff.mp h1).1).trans h1, h2⟩
section GAdr5
variable {p : Program} {l : Launch} {e : Env} {R : Room} {s : State} {m : MethodId} {args : Array Value} {below : List Frame} {meth : Method} {c : Code} {H : Heap} {locs : List Loc} {cells slots : Nat} {Q : State → Prop}
theorem g_adr5 {pc : Nat} {ls : Array Slot} {rest : List Value} {x y z : Value} {ad : gAd} {b i a b' i' a' : Nat} (ha : ad b i = a) (ha' : ad b' i' = a') (k : W p l e R s m args below meth c H locs cells slots Q (F0 m pc ls (x :: y :: .ref (ad b' i') :: z :: .ref (ad b i) :: rest))) : W p l e R s m args below meth c H locs cells slots Q (F0 m pc ls (x :: y :: .ref a' :: z :: .ref a :: rest)) := by
  subst ha
  subst ha'
  exact k
end GAdr5
set_option maxHeartbeats 4000000 in
set_option maxRecDepth 100000 in
theorem c_J7_copyOf_6403c (l : Launch) (D : va_G) (G : gG) (A : Nat → Prop) (ad : gAd) (ct : gC) (Hp : Heap) (hW : gW D A ad ct Hp) (hA : ∀ q, Hp.size ≤ q → A q) (mi b0 i0 n0 n1 : Nat) (hne : ¬ (b0 = 10 ∧ i0 = 0)) (f : Nat → Option Nat) (hc0 : ct b0 i0 = some (.inl (G.2.2.1, n0, .inr (.inr (.inr (.inr f)))))) (hn01 : n0 ≤ n1) (hn1 : n1 ≤ 1000) (hel : ∀ (U : State), va_K D vwCl (gTs G) U → gLe mi G.2.2.2 A U → ∀ j : Nat, j < n0 → ∀ y : Nat, f j = some y → va_Any cOb U Hp y) : Met l yJ7_copyOf_6403c wsJ7_copyOf_6403c ({ frames := 1, cells := 1, slots := n1, locals := 60 }) (va_Pc [.ref (ad b0 i0), .int (nI n1), .ref mi] (gQL D G Hp mi A)) (va_Qr (fun (_ : Unit) => True) (fun _ a t => gW D A (adset ad 10 0 a) (ctset ct 10 0 (some (.inl (G.2.2.1, n1, .inr (.inr (.inr (.inr (va_cpy f (fun _ => none) 0 0 n0)))))))) t.heap) A) 1 n1 A := by
  refine g_startP (cc := cJ7_copyOf_6403c) (maxL := 4) (ret := (some (.array (.object "java/lang/Object")))) (by decide) rfl (Nat.le_of_ble_eq_true rfl) (fun p e s m below meth c ls C0 hr hlk hnm hv hl => ?_)
  obtain ⟨hh, hK, hE⟩ := hv
  have hel := hel s hK hE
  obtain ⟨hM, hDc, hAO, -⟩ := id hE
  refine g_heq hh ?_
  obtain ⟨hx, hb, hml, hown, hts⟩ := id C0
  have hown : s.vm.findClass RJ7 = some m.cls := hown
  have hS : va_S A Hp Hp [] := va_S.rf
  have hl : lv_has ls 4 [(0, .ref (ad b0 i0)), (1, .int (nI n1)), (2, .ref mi)] := hl
  refine lv_aload_n hx hb dJ7_copyOf_6403c_0 rfl (lv_at hl 2 rfl) ?_
  refine va_ldcM hx hb hown (hts (.classLink RJ7 110 "[Ljava/lang/Object;") (List.mem_of_getElem? (i := 1) rfl)) hM dJ7_copyOf_6403c_1 ?_
  refine lv_acmp_ne (tgt := 13) (rx := some mi) (ry := some mi) hx hb dJ7_copyOf_6403c_3 (by decide) (fun c => absurd rfl c) (fun _ => ?_)
  refine lv_iload_n hx hb dJ7_copyOf_6403c_6 rfl (lv_at hl 1 rfl) ?_
  refine g_newq (D := D) hx hb hown (hts (.classLink RJ7 2 "java/lang/Object") (List.mem_of_getElem? (i := 2) rfl)) hAO hK hW hS hA 2 rfl (N' := n1) (nI_pos (by omega)) (nI_clamp (by omega)) (by omega) (by show _ ≤ 1; omega) (by show _ ≤ n1; omega) dJ7_copyOf_6403c_7 10 0 (fun q9 H hW hS hq ho9 hz9 => ?_)
  refine lv_goto (tgt := 24) hx hb dJ7_copyOf_6403c_10 (by decide) ?_
  refine lv_astore_n (lv' := [(3, .ref q9), (0, .ref (ad b0 i0)), (1, .int (nI n1)), (2, .ref mi)]) hx hb dJ7_copyOf_6403c_24 rfl hl (by decide) rfl (fun ls hl => ?_)
  refine lv_aload_n hx hb dJ7_copyOf_6403c_25 rfl (lv_at hl 1 rfl) ?_
  refine lv_iconst (v := 0) hx hb dJ7_copyOf_6403c_26 (by decide) ?_
  refine lv_aload_n hx hb dJ7_copyOf_6403c_27 rfl (lv_at hl 0 rfl) ?_
  refine lv_iconst (v := 0) hx hb dJ7_copyOf_6403c_28 (by decide) ?_
  refine lv_aload_n hx hb dJ7_copyOf_6403c_29 rfl (lv_at hl 1 rfl) ?_
  have h0 : (ctset ct 10 0 (some (.inl (G.2.2.1, n1, .inr (.inr (.inr (.inr (fun _ => none)))))))) b0 i0 = some (.inl (G.2.2.1, n0, .inr (.inr (.inr (.inr f))))) := (ctset_o hne).trans hc0
  have had : (adset ad 10 0 q9) b0 i0 = ad b0 i0 := adset_o hne
  have hP0 := hW.p h0
  rw [had] at hP0
  refine va_alen hx hb hK hP0 0 2 (x := (n0, .inr (.inr (.inr (.inr f))))) rfl rfl (v := nI n0) rfl dJ7_copyOf_6403c_30 ?_
  refine lv_iload_n hx hb dJ7_copyOf_6403c_31 rfl (lv_at hl 2 rfl) ?_
  refine va_mmin hx hb (hml.trans hl.1.symm) hown (hts (.methodLink RJ7 304 Lib.Math.min.name) (List.mem_of_getElem? (i := 3) rfl)) (hts (.static Lib.Math.min.name) (List.mem_of_getElem? (i := 4) rfl)) (hts (.initialized "java/lang/Math") (List.mem_of_getElem? (i := 5) rfl)) (hts (.code Lib.Math.min.name Lib.Math.min.code 2 (some .int)) (List.mem_of_getElem? (i := 6) rfl)) (Nat.le_of_ble_eq_true rfl) (Nat.le_of_ble_eq_true rfl) (by show _ ≤ 1; omega) (by show _ ≤ n1; omega) dJ7_copyOf_6403c_32 ?_
  rw [mmin_n hn01 (by omega)]
  refine g_adr5 (ad := adset ad 10 0 q9) (b := b0) (i := i0) (b' := 10) (i' := 0) had adset_s ?_
  refine g_copy (ad := adset ad 10 0 q9) (ct' := (ctset ct 10 0 (some (.inl (G.2.2.1, n1, .inr (.inr (.inr (.inr (va_cpy f (fun _ => none) 0 0 n0))))))))) hx hb (hml.trans hl.1.symm) hown (hts (.methodLink RJ7 150 arraycopyName) (List.mem_of_getElem? (i := 7) rfl)) (hts (.native arraycopyName) (List.mem_of_getElem? (i := 8) rfl)) (hts (.static arraycopyName) (List.mem_of_getElem? (i := 9) rfl)) (hts (.initialized "java/lang/System") (List.mem_of_getElem? (i := 10) rfl)) hK hW hS 2 (k := n0) (n0 := n0) (n1 := n1) (f := f) (g := fun _ => none) h0 ctset_s rfl (by omega) (Nat.le_refl _) hn01 (fun j hj y hy => ?_) (Nat.le_of_ble_eq_true rfl) (Nat.le_of_ble_eq_true rfl) dJ7_copyOf_6403c_35 ctset_s (fun b' i' h9 => (ctset_o h9).trans (ctset_o h9).symm) (fun H1 locs1 hW hS => ?_)
  · exact (hel j hj y hy).keep ho9
  refine lv_aload_n hx hb dJ7_copyOf_6403c_38 rfl (lv_at hl 0 rfl) ?_
  refine W.widen (k := 1) (n := n1) (by omega) (by omega) ?_
  exact g_wrret (u := ()) (post := fun _ => True) (B := fun _ a H => gW D A (adset ad 10 0 a) (ctset ct 10 0 (some (.inl (G.2.2.1, n1, .inr (.inr (.inr (.inr (va_cpy f (fun _ => none) 0 0 n0)))))))) H) hx hb hr (Or.inr ⟨_, rfl⟩) hlk hh hS trivial hW dJ7_copyOf_6403c_39
