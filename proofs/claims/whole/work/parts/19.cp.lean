/-! THE LAYER: arraycopy between coded cells, from their starts -/
section GCp
variable {p : Program} {l : Launch} {e : Env} {R : Room} {s : State} {m : MethodId} {args : Array Value} {below : List Frame} {meth : Method} {c : Code} {H : Heap} {locs : List Loc} {cells slots : Nat} {Q : State → Prop}
variable {cc : ByteArray} {pc : Nat} {ls : Array Slot} {rest : List Value} {D : va_G} {A : Nat → Prop} {ad : gAd} {ct ct' : gC} {tys : List (ClassId × FieldType)} {H0 : Heap} {b i b0 i0 : Nat}
theorem g_copy (hexec : p.tables.exec = Jvm.exec) (hb : c.code = cc) (hml : c.maxLocals = ls.size) {own : String} {index : Nat} (hown : s.vm.findClass own = some m.cls) (hlink : (Cond.methodLink own index arraycopyName).before args s = true) (hnat : (Cond.native arraycopyName).before args s = true) (hstat : (Cond.static arraycopyName).before args s = true) (hini : (Cond.initialized "java/lang/System").before args s = true)
    (hK : va_K D vwCl tys s) (hW : gW D A ad ct H) (hS : va_S A H0 H locs) (t0 : Nat) {cA : ClassId} {n0 n1 k : Nat} {f g : Nat → Option Nat} {E : String} (ha0 : ct b0 i0 = some (.inl (cA, n0, .inr (.inr (.inr (.inr f)))))) (ha1 : ct b i = some (.inl (cA, n1, .inr (.inr (.inr (.inr g)))))) (ht : tys[t0]? = some (cA, .object E))
    (hk31 : k < 2 ^ 31) (h4 : k ≤ n0) (h5 : k ≤ n1) (hel : ∀ j : Nat, j < k → ∀ y : Nat, f j = some y → va_Any E s H y)
    (hframes : 1 ≤ R.frames) (hlocals : (rest.map fun v => v.category).sum + (nativeFrameWords "java/lang/System" "arraycopy" 5 + 11) ≤ R.locals) (hdg : decode cc pc = .ok (.invokestatic index, 3))
    (he' : ct' b i = some (.inl (cA, n1, .inr (.inr (.inr (.inr (va_cpy f g 0 0 k))))))) (ho : ∀ b' i', ¬ (b' = b ∧ i' = i) → ct' b' i' = ct b' i')
    (kk : ∀ (H1 : Heap) (locs1 : List Loc), gW D A ad ct' H1 → va_S A H0 H1 locs1 → W p l e R s m args below meth c H1 locs1 cells slots Q (F0 m (pc + 3) ls rest)) : W p l e R s m args below meth c H locs cells slots Q (F0 m pc ls (.int (nI k) :: .int 0 :: .ref (ad b i) :: .int 0 :: .ref (ad b0 i0) :: rest)) := by
  obtain ⟨hc0, -⟩ := hW.1 b0 i0 _ ha0
  obtain ⟨hc1, hA1⟩ := hW.1 b i _ ha1
  have hc0 : H[ad b0 i0]? = some (vp_cell cA (n0, .inr (.inr (.inr (.inr f))))) := hc0
  have hc1 : H[ad b i]? = some (vp_cell cA (n1, .inr (.inr (.inr (.inr g))))) := hc1
  have hkc : (nI k).toNatClampNeg = k := nI_clamp hk31
  have hki : (nI k).toInt = (k : Int) := nI_toInt hk31
  have hz0 : (0 : Int32).toNatClampNeg = 0 := rfl
  have hzi : (0 : Int32).toInt = 0 := rfl
  obtain ⟨-, k0, hk0, cm0, hkk0⟩ := (hK.2 t0 _ ht).1 n0 (fun j => va_rf (f j))
  obtain ⟨-, k1, hk1, cm1, hkk1⟩ := (hK.2 t0 _ ht).1 n1 (fun j => va_rf (g j))
  intro T hT X
  obtain ⟨vm', X', step⟩ := X.arraycopy hexec hown hlink hnat hstat hini (src := ad b0 i0) (dst := ad b i) (cs := vp_cell cA (n0, .inr (.inr (.inr (.inr f))))) (cd := vp_cell cA (n1, .inr (.inr (.inr (.inr g))))) (srcPos := 0) (destPos := 0) (n := nI k) (by rw [hT]; exact hc0) (by rw [hT]; exact hc1)
    (fun _ h => by cases h) (fun _ h => by cases h) (fun h => by cases h) (fun h => by cases h) hk0 hk1 hkk0 hkk1 rfl (by decide) (by decide) (nI_pos hk31)
    (by rw [hki, hzi]; show ¬ _ > ((arrV cA n0 (fun j => va_rf (f j))).slots.size : Int); rw [arrV_size]; omega)
    (by rw [hki, hzi]; show ¬ _ > ((arrV cA n1 (fun j => va_rf (g j))).slots.size : Int); rw [arrV_size]; omega)
    (fun vm₁ hal j hj => by
      rw [hkc] at hj
      have e : (vp_cell cA (n0, .inr (.inr (.inr (.inr f))))).slots.getD ((0 : Int32).toNatClampNeg + j) .null = va_rf (f j) := by
        show (arrV cA n0 (fun j => va_rf (f j))).slots.getD _ _ = _
        rw [hz0, Nat.zero_add, Array.getD_eq_getD_getElem?, arrV_read _ _ (show j < n0 by omega)]
        rfl
      rw [e]
      cases hy : f j with
      | none => trivial
      | some y =>
        obtain ⟨cellV, g1, g2, ⟨kC, hkC⟩, hasg⟩ := hel j hj y hy
        obtain ⟨kA, comp, r1, r2, r3, -⟩ := (hK.2 t0 _ ht).2
        cases hk1.symm.trans r1
        cases hkk1.symm.trans r2
        obtain ⟨kE, hkE, -⟩ := Vm.findClass_spec r3
        obtain ⟨kC', hkC', -⟩ := hal.2.2 _ _ hkC
        obtain ⟨kE', hkE', -⟩ := hal.2.2 _ _ hkE
        refine ⟨rfl, cellV, (show T.heap[y]? = some cellV by rw [hT]; exact g1), (fun q h => by rw [h] at g2; cases g2), ⟨kC', hkC'⟩, ⟨kE', hkE'⟩, ?_⟩
        show vm₁.assignable _ _ = true
        rw [hal.assignable]
        exact hasg _ r3)
    (g := F0 m pc ls (.int (nI k) :: .int 0 :: .ref (ad b i) :: .int 0 :: .ref (ad b0 i0) :: rest)) rfl (by rw [hml]) (rest := rest) rfl (by rw [hb]; exact hdg) hframes (by show 2 * 0 + _ + _ ≤ _; omega)
  have e1 : copied (vp_cell cA (n0, .inr (.inr (.inr (.inr f))))) (vp_cell cA (n1, .inr (.inr (.inr (.inr g))))) 0 0 (nI k) = vp_cell cA (n1, .inr (.inr (.inr (.inr (va_cpy f g 0 0 k))))) := by
    have h9 : copied (vp_cell cA (n0, .inr (.inr (.inr (.inr f))))) (vp_cell cA (n1, .inr (.inr (.inr (.inr g))))) 0 0 (nI k) = vp_cell cA (n1, .inr (.inr (.inr (.inr (va_cpy f g (0 : Int32).toNatClampNeg (0 : Int32).toNatClampNeg (nI k).toNatClampNeg))))) := by
      rw [vp_cell_q, vp_cell_q, vp_cell_q]
      exact va_copied (fun z => va_rf z) cA cA f g (show (0 : Int32).toNatClampNeg + (nI k).toNatClampNeg ≤ n0 by rw [hz0, hkc]; omega)
    rw [hz0, hkc] at h9
    exact h9
  rw [e1] at X' step
  generalize hce : vp_cell cA (n1, .inr (.inr (.inr (.inr (va_cpy f g 0 0 k))))) = ce at X' step e1
  have hl : ad b i < H.size := (Array.getElem?_eq_some_iff.mp hc1).1
  have hheap : ((T.setVm vm').setCell (ad b i) ce).heap = H.setIfInBounds (ad b i) ce := by rw [← hT]; rfl
  have oq : ∀ q : Nat, q ≠ ad b i → (H.setIfInBounds (ad b i) ce)[q]? = H[q]? := fun q hq => by simp [Array.getElem?_setIfInBounds, Ne.symm hq]
  have hat : va_at D vwCl (ad b i, .inl (cA, n1, .inr (.inr (.inr (.inr (va_cpy f g 0 0 k)))))) (H.setIfInBounds (ad b i) ce) := by
    show (H.setIfInBounds (ad b i) ce)[ad b i]? = some (vp_cell _ _)
    rw [hce]
    simp [Array.getElem?_setIfInBounds, hl]
  obtain ⟨t, a1, b1⟩ := kk _ _ (hW.put ha1 he' ho hat oq) ⟨by simp; exact hS.1, fun q g1 g2 => by
      rw [oq q (fun e => g2 (by rw [e]; exact hA1))]
      exact hS.2.1 q g1 g2, fun q hq => by
      rcases List.mem_append.mp hq with h | h
      · exact hS.2.2 q h
      · obtain ⟨z, -, hz⟩ := List.mem_map.mp h
        rw [← hz]
        exact hA1⟩ _ hheap X'
  exact ⟨t, step t a1, b1⟩
end GCp
