/-! THE LAYER: calls of methods that make lists grow -/
section GLc
variable {p : Program} {l : Launch} {e : Env} {R : Room} {s : State} {m : MethodId} {args : Array Value} {below : List Frame} {meth : Method} {c : Code} {H : Heap} {locs : List Loc} {cells slots : Nat} {Q : State → Prop}
variable {cc bytes : ByteArray} {pc n nL maxL index : Nat} {ls : Array Slot} {lv : List (Nat × Value)} {rest st0 As : List Value} {D : va_G} {A0 : Nat → Prop} {H0 : Heap} {tys : List (ClassId × FieldType)} {Ts ws : List Cond} {rm : Room} {own C : String} {y : MethodName} {b : Nat} {ret : Option FieldType}
theorem g_Lblind {av : List Value} {D : va_G} {G : gG} {Hp : Heap} {mi : Nat} {A : Nat → Prop} : FrameBlind (va_Pc av (gQL D G Hp mi A)) := fun _ U _ _ q => ⟨q.1, q.2.1, va_K.moved (Vm.Alike.refl U.vm) q.2.2.1, q.2.2.2.moved (State.WarmedH.refl U) (fun _ _ _ => rfl)⟩
theorem g_LSr {SS : Type} {post : SS → Prop} {B : SS → Nat → Heap → Prop} {mc ms mi : Nat} {G : gG} (S : CallFix p m c cc nL s args Ts own) (hM : Met l y ws rm (va_Pc As (gQL D G H mi A0)) (va_Qr post (fun u a t => B u a t.heap) A0) mc ms A0) (cw : CallB R s args own index y bytes maxL ret ws rm mc ms n ∧ (Cond.static y).before args s = true) (hK : va_K D vwCl (gTs G) s) (hE : gLe mi G.2.2.2 A0 s) (hh : s.heap = H0)
    (hn : As.length = n) (hl : lv_has ls nL lv) (hstack : st0 = As.reverse ++ rest) (hcat : (rest.map fun v => v.category).sum ≤ 8) (hdg : decode cc pc = .ok (.invokestatic index, 3)) (hf : cells + mc ≤ R.cells ∧ slots + ms ≤ R.slots) (hS : va_S A0 H0 H locs)
    (kk : ∀ (u : SS) (ra : Nat) (H1 : Heap) (locs1 : List Loc), post u → B u ra H1 → H.size ≤ H1.size → va_S A0 H0 H1 locs1 → W p l e R s m args below meth c H1 locs1 (cells + mc) (slots + ms) Q (F0 m (pc + 3) ls (.ref ra :: rest))) : W p l e R s m args below meth c H locs cells slots Q (F0 m pc ls st0) := by
  subst hh
  refine va_callr (va_runS (As := As) (rest := rest) (g := F0 m pc ls st0) S hM cw ⟨g_Lblind, fun U hU hW => ⟨rfl, hU, va_K.moved hW.alike hK, hE.moved hW (fun q h1 h2 => by rw [hU]; exact hS.2.1 q h1 h2)⟩⟩ rfl hn hl.1 hstack (lv_room hcat) hdg hf) hS (fun q _ h => h) (fun q h => h) (fun u ra t H1 locs1 ht hvm hw hB hz1 hk1 hS2 => ?_)
  exact kk u ra H1 locs1 hw (by rw [← ht]; exact hB) hz1 hS2
end GLc
