/-! THE LAYER: arrays of references, made and written -/
section GQ
variable {p : Program} {l : Launch} {e : Env} {R : Room} {s : State} {m : MethodId} {args : Array Value} {below : List Frame} {meth : Method} {c : Code} {H : Heap} {locs : List Loc} {cells slots : Nat} {Q : State → Prop}
variable {cc : ByteArray} {pc : Nat} {ls : Array Slot} {rest : List Value} {D : va_G} {A : Nat → Prop} {ad : gAd} {ct ct' : gC} {tys : List (ClassId × FieldType)} {H0 : Heap} {b i : Nat}
/-- aastore into a coded cell -/
theorem g_astq (hexec : p.tables.exec = Jvm.exec) (hb : c.code = cc) (hK : va_K D vwCl tys s) (hW : gW D A ad ct H) (hS : va_S A H0 H locs) (t0 : Nat) {E : String} {cA : ClassId} {n v : Nat} {f : Nat → Option Nat} (ha : ct b i = some (.inl (cA, n, .inr (.inr (.inr (.inr f)))))) (ht : tys[t0]? = some (cA, .object E)) (hr : va_Any E s H v) {j : Int32} (k : Nat) (hjk : j = nI k) (hk : k < n) (hn : n < 2 ^ 31) (hdg : decode cc pc = .ok (.aastore, 1))
    (he' : ct' b i = some (.inl (cA, n, .inr (.inr (.inr (.inr (va_up f k (some v)))))))) (ho : ∀ b' i', ¬ (b' = b ∧ i' = i) → ct' b' i' = ct b' i')
    (kk : ∀ (H1 : Heap) (locs1 : List Loc), gW D A ad ct' H1 → va_S A H0 H1 locs1 → H1.size = H.size → W p l e R s m args below meth c H1 locs1 cells slots Q (F0 m (pc + 1) ls rest)) : W p l e R s m args below meth c H locs cells slots Q (F0 m pc ls (.ref v :: .int j :: .ref (ad b i) :: rest)) := by
  subst hjk
  have hin := vp_in_nI hk hn
  have hkc : (nI k).toNatClampNeg = k := nI_clamp (by omega)
  obtain ⟨hat, hAa⟩ := hW.1 b i _ ha
  obtain ⟨cellV, g1, g3, ⟨kC, hkC⟩, hasg⟩ := hr
  obtain ⟨kA, comp, k1, k2, k3, -⟩ := (hK.2 t0 _ ht).2
  obtain ⟨kE, hkE, -⟩ := Vm.findClass_spec k3
  refine W.aast hexec hb hat (fun q h => by cases h) (fun h => by cases h) k1 k2 rfl hkE ⟨fun q => hin (Or.inl q), by show _ < (arrV _ _ _).slots.size; rw [arrV_size, hkc]; exact hk⟩ g1 (fun q h => by rw [h] at g3; cases g3) hkC (hasg _ k3) rfl rfl hdg fun H1 e z oq => ?_
  refine kk H1 _ (hW.put ha he' ho ?_ oq) (hS.put z oq hAa) z
  show H1[ad b i]? = some (vp_cell _ _)
  rw [e, hkc, vp_cell_q, vp_cell_q, arrV_store]
  congr 2
  funext q
  by_cases hq : q = k
  · subst hq
    simp [updV, va_up, va_rf]
  · simp [updV, va_up, hq]
/-- anewarray: a coded cell more -/
theorem g_newq (hexec : p.tables.exec = Jvm.exec) (hb : c.code = cc) {own C : String} {index : Nat} (hown : s.vm.findClass own = some m.cls) (hclink : (Cond.classLink own index C).before args s = true) (hover : va_AO C s) (hK : va_K D vwCl tys s) (hW : gW D A ad ct H) (hS : va_S A H0 H locs) (hA : ∀ q, H0.size ≤ q → A q)
    (t0 : Nat) {cA : ClassId} (ht : tys[t0]? = some (cA, .object C)) {n : Int32} {N' : Nat} (hn : ¬ n < 0) (hN : n.toNatClampNeg = N') (hbytes : N' * 4 ≤ 536870912) (hcells : cells + 1 ≤ R.cells) (hslots : slots + N' ≤ R.slots) (hdg : decode cc pc = .ok (.anewarray index, 3)) (b i : Nat)
    (kk : ∀ (q : Nat) (H1 : Heap), gW D A (adset ad b i q) (ctset ct b i (some (.inl (cA, N', .inr (.inr (.inr (.inr (fun _ => none)))))))) H1 → va_S A H0 H1 locs → q = H.size → (∀ x : Nat, x < H.size → H1[x]? = H[x]?) → H1.size = H.size + 1 →
      W p l e R s m args below meth c H1 locs (cells + 1) (slots + N') Q (F0 m (pc + 3) ls (.ref q :: rest))) : W p l e R s m args below meth c H locs cells slots Q (F0 m pc ls (.int n :: rest)) := by
  subst hN
  refine W.anew hexec hb hown hclink (va_AO.use hover) rfl hdg rfl hn hbytes hcells hslots fun cB kA comp f1 f2 f3 f4 => ?_
  have hcc : cB = cA := by
    obtain ⟨-, -, -, -, -, h9⟩ := (hK.2 t0 _ ht).2
    exact Option.some.inj (f1.symm.trans h9)
  subst hcc
  generalize hH1 : H.push ({ cls := cB, slots := Array.replicate n.toNatClampNeg .null, vm := .none } : Cell) = H1
  have z1 : H1.size = H.size + 1 := by rw [← hH1, Array.size_push]
  have e1 : H1[H.size]? = some (arrV cB n.toNatClampNeg (fun _ => .null)) := by rw [← hH1, Array.getElem?_push_size, ← arrV_new]
  have o1 : ∀ q : Nat, q < H.size → H1[q]? = H[q]? := fun q hq => by rw [← hH1, Array.getElem?_push, if_neg (Nat.ne_of_lt hq)]
  refine kk H.size H1 (hW.new (e := .inl (cB, n.toNatClampNeg, .inr (.inr (.inr (.inr (fun _ => none)))))) adset_s (hA _ hS.1) ctset_s (fun b' i' hb => ⟨ctset_o hb, adset_o hb⟩) ?_ o1) (hS.ext (by omega) o1) rfl o1 z1
  show H1[H.size]? = some (vp_cell _ _)
  rw [vp_cell_q]
  exact e1
end GQ
/-- an object of a class that goes into an array of E -/
theorem g_any {s : State} {args : Array Value} {H : Heap} {D : va_G} {A : Nat → Prop} {ad : gAd} {ct : gC} {tys : List (ClassId × FieldType)} {b i ci : Nat} {fs : List Value} {r : vw_C} {E : String} (hK : va_K D vwCl tys s) (hW : gW D A ad ct H) (he : ct b i = some (.inr (ci, fs))) (hc : vwCl[ci]? = some r) (hcast : va_Nw (.castable r.1 E) s) : va_Any E s H (ad b i) := by
  refine va_rAny hK (hW.p he) (q0 := 0) rfl hc (fun comp c0 h1 h2 => ?_)
  obtain ⟨c1, t1, f1, f2, f3⟩ := Cond.castable_spec (va_Nw.use (A := args) rfl hcast)
  rw [Option.some.inj (h2.symm.trans f1), Option.some.inj (h1.symm.trans f2)]
  exact f3
