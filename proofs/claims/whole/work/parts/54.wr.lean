/-! THE LAW'S WRAPPERS: rows -/
def gNc (U : State) : Prop := va_Nc xS xA U ∧ va_Nc xA xI U ∧ va_Nc xS xI U
theorem gNc.moved {s U : State} (hvm : s.vm.Alike U.vm) (h : gNc s) : gNc U := ⟨h.1.moved hvm, h.2.1.moved hvm, h.2.2.moved hvm⟩
def gQZ (D : va_G) (G : gG) (Hp : Heap) (mi : Nat) (A : Nat → Prop) (U : State) : Prop := U.heap = Hp ∧ va_K D vwCl (gTs G) U ∧ gXe A U ∧ gLe mi G.2.2.2 A U ∧ va_Nw (.methodLinkNest RX4 90 yX0_init "StoryToll") U ∧ gNc U
theorem gXe.blind {A : Nat → Prop} {U : State} (h : gXe A U) : gXe A U := h
theorem g_Xblind {av : List Value} {D : va_G} {tys : List (ClassId × FieldType)} {Hp : Heap} {A : Nat → Prop} : FrameBlind (va_Pc av (gQX D tys Hp A)) := fun _ U _ _ q => ⟨q.1, q.2.1, va_K.moved (Vm.Alike.refl U.vm) q.2.2.1, q.2.2.2.moved (State.WarmedH.refl U) (fun _ _ _ => rfl)⟩
theorem g_Yblind {av : List Value} {D : va_G} {G : gG} {Hp : Heap} {mi : Nat} {A : Nat → Prop} : FrameBlind (va_Pc av (gQY D G Hp mi A)) := fun _ U _ _ q => ⟨q.1, q.2.1, va_K.moved (Vm.Alike.refl U.vm) q.2.2.1, q.2.2.2.1.moved (State.WarmedH.refl U) (fun _ _ _ => rfl), q.2.2.2.2.1.moved (State.WarmedH.refl U) (fun _ _ _ => rfl), va_Nw.warmM (State.WarmedH.refl U) q.2.2.2.2.2⟩
theorem g_Zblind {av : List Value} {D : va_G} {G : gG} {Hp : Heap} {mi : Nat} {A : Nat → Prop} : FrameBlind (va_Pc av (gQZ D G Hp mi A)) := fun _ U _ _ q => ⟨q.1, q.2.1, va_K.moved (Vm.Alike.refl U.vm) q.2.2.1, q.2.2.2.1.moved (State.WarmedH.refl U) (fun _ _ _ => rfl), q.2.2.2.2.1.moved (State.WarmedH.refl U) (fun _ _ _ => rfl), va_Nw.warmM (State.WarmedH.refl U) q.2.2.2.2.2.1, q.2.2.2.2.2.2.moved (Vm.Alike.refl U.vm)⟩
section GZ
variable {l : Launch} {y : MethodName} {ws ws' : List Cond} {rm : Room} {av : List Value} {D : va_G} {G : gG} {Hp : Heap} {mi : Nat} {Qc : Array Value → State → Outcome → State → Prop} {mc ms : Nat} {free : Addr → Prop} {cc : ByteArray} {maxL : Nat} {ret : Option FieldType} {A : Nat → Prop} {hh : List (Nat × Nat × Nat × Nat)}
theorem g_startW (hy : plainName y.cls = true) (hw : ws = Cond.codeWith y cc maxL ret hh :: ws') (hlen : (lg_sl av).length ≤ maxL)
    (body : ∀ (p : Program) (e : Env) (s : State) (m : MethodId) (below : List Frame) (meth : Method) (c : Code) (ls : Array Slot), CallFix p m c cc maxL s av.toArray ws y.cls → meth.sig.returnType = ret → meth.locks = false → s.heap = Hp → va_K D vwCl (gTs G) s → gXe A s → gLe mi G.2.2.2 A s → va_Nw (.methodLinkNest RX4 90 yX0_init "StoryToll") s → gNc s → c.exceptionTable.toList = tableOf hh → lv_has ls maxL (lv_args 0 av) →
      W p l e rm s m av.toArray below meth c Hp [] 0 0 (MQ below Qc av.toArray s mc ms free) (F0 m 0 ls [])) : Met l y ws rm (va_Pc av (gQZ D G Hp mi A)) Qc mc ms free := by
  refine va_MetW (cc := cc) (maxL := maxL) (ret := ret) (hh := hh) hy hw ?_
  intro p e s m args below meth c s₁ B hml hv
  obtain ⟨rfl, hh9, hK, hE, hL, hNe, hNc⟩ := hv
  have hts := atoms_spec (ws := ws) B.pre
  have htab := vx_table (x := y) B (hts _ (by rw [hw]; exact List.mem_cons_self))
  have hl := lv_entry av (n := maxL) hlen
  rw [lg_entry_eq]
  exact g_heq hh9 (body p e s m below meth c _ ⟨B.exec, B.bytes, hml, findClass_of_methodNamed B.named, hts⟩ B.returns B.notSynchronized hh9 hK hE hL hNe hNc htab hl)
end GZ
section GVx
variable {p : Program} {l : Launch} {e : Env} {R : Room} {s : State} {m : MethodId} {args : Array Value} {below : List Frame} {meth : Method} {c : Code} {H : Heap} {locs : List Loc} {cells slots : Nat} {Q : State → Prop}
variable {cc bytes : ByteArray} {pc n nL maxL index : Nat} {ls : Array Slot} {lv : List (Nat × Value)} {rest st0 As : List Value} {D : va_G} {A0 : Nat → Prop} {H0 : Heap} {Ts ws : List Cond} {rm : Room} {own C : String} {y : MethodName} {b : Nat} {ret : Option FieldType}
theorem g_VXi {SS : Type} {post : Int32 → SS → Prop} {B : SS → Heap → Prop} {BX : String → Heap → Prop} {Pre : State → Prop} {mc ms : Nat} (S : CallFix p m c cc nL s args Ts own) (hM : vx_Met l y ws rm (va_Pc (.ref b :: As) Pre) (va_Qi post (fun u t => B u t.heap) A0) (vx_X (fun (_ : Unit) => True) (fun E _ t => BX E t.heap) A0) mc ms A0) (cw : CallW R s args own C index y bytes maxL ret ws rm mc ms n) (hbl : FrameBlind (va_Pc (.ref b :: As) Pre)) (hPre : ∀ U : State, U.heap = H → s.WarmedH U.vm → Pre U) (hrecv : ∃ cellB : Cell, H[b]? = some cellB ∧ cellB.vm.isStatics = false ∧ s.vm.findClass C = some cellB.cls)
    (hn : As.length = n) (hl : lv_has ls nL lv) (hstack : st0 = As.reverse ++ .ref b :: rest) (hcat : (rest.map fun v => v.category).sum ≤ 8) (hdg : decode cc pc = .ok (.invokevirtual index, 3)) (hf : cells + mc ≤ R.cells ∧ slots + ms ≤ R.slots) (hS : va_S A0 H0 H locs)
    (kx : ∀ (E : String) (ce : Cell) (q9 : Addr) (H1 : Heap) (locs1 : List Loc), BX E H1 → H.size ≤ H1.size → va_S A0 H0 H1 locs1 → H1[q9]? = some ce → ce.vm = .none → s.vm.findClass E = some ce.cls → vx_W p l e R s m args below meth c H1 locs1 (cells + mc) (slots + ms) Q (F0 m pc ls rest) q9)
    (kk : ∀ (r : Int32) (u : SS) (H1 : Heap) (locs1 : List Loc), post r u → B u H1 → H.size ≤ H1.size → va_S A0 H0 H1 locs1 → W p l e R s m args below meth c H1 locs1 (cells + mc) (slots + ms) Q (F0 m (pc + 3) ls (.int r :: rest))) : W p l e R s m args below meth c H locs cells slots Q (F0 m pc ls st0) := by
  refine vx_calli (vx_runV (As := As) (rest := rest) (g := F0 m pc ls st0) S hM cw ⟨hbl, hrecv, fun U hU hW => ⟨rfl, hPre U hU hW⟩⟩ rfl hn hl.1 hstack (lv_room hcat) hdg hf) hS (fun q _ h => h) (fun q h => h) (fun q _ h => h) (fun E ce q9 u t H1 locs1 ht hvm hp hB hz1 hk1 hS2 h1 h2 h3 => ?_) (fun r u t H1 locs1 ht hvm hw hB hz1 hk1 hS2 => ?_)
  · exact kx E ce q9 H1 locs1 (by rw [← ht]; exact hB) hz1 hS2 h1 h2 h3
  · exact kk r u H1 locs1 hw (by rw [← ht]; exact hB) hz1 hS2
end GVx
