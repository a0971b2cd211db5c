/-! THE CLASS: what its throws need -/
abbrev xnm : List String := ["java/lang/RuntimeException", "java/lang/Exception"]
abbrev xI : String := "java/lang/IndexOutOfBoundsException"
abbrev xA : String := "java/lang/IllegalArgumentException"
abbrev xS : String := "java/lang/IllegalStateException"
abbrev xdc : List Cond := [.declares (Bundle.initS "java/lang/RuntimeException"), .declares (Bundle.initS "java/lang/Exception"), .declares (Bundle.initS Bundle.tN)]
def xtx : List (Nat × String) := [(104, "no such traveller or scene"), (110, "no such plot"), (116, "this traveller cannot tell this scene"), (146, "no such traveller or plot"), (158, "this traveller cannot reserve this ending"), (161, "no such traveller"), (163, "this traveller is not on the way"), (172, "not 1 to 100 watches"), (180, "no such scene or question"), (190, "no such guard or question"), (193, "no such traveller or question"), (199, "no such plot or question"), (205, "no such plot or place"), (210, "no such question"), (215, "no such guard or scene"), (232, "no such guard"), (31, "no such kind, wonder or hue"), (42, "there are 24 scenes"), (60, "no such scene"), (69, "these scenes cannot follow each other"), (78, "there are 60 pairs"), (86, "there are 4 guards"), (91, "no set of scenes that there are"), (93, "there are 12 travellers")]
theorem xb_I : ∀ w ∈ (vx_atS RX4 62 xI xnm).filter (fun w => !goodWord w), w ∈ Cond.castable xI xI :: xdc := by decide +kernel
theorem xg_I : ∀ w ∈ Cond.classLink RX4 58 xI :: Cond.initialized xI :: vx_atS RX4 62 xI xnm, vx_ot w = true := by decide +kernel
theorem xb_A : ∀ w ∈ (vx_atS RX4 33 xA xnm).filter (fun w => !goodWord w), w ∈ Cond.castable xA xA :: xdc := by decide +kernel
theorem xg_A : ∀ w ∈ Cond.classLink RX4 29 xA :: Cond.initialized xA :: vx_atS RX4 33 xA xnm, vx_ot w = true := by decide +kernel
theorem xb_S : ∀ w ∈ (vx_atS RX4 44 xS xnm).filter (fun w => !goodWord w), w ∈ Cond.castable xS xS :: xdc := by decide +kernel
theorem xg_S : ∀ w ∈ Cond.classLink RX4 40 xS :: Cond.initialized xS :: vx_atS RX4 44 xS xnm, vx_ot w = true := by decide +kernel
def gXe (A : Nat → Prop) (U : State) : Prop := (va_Nw (.castable xI xI) U ∧ va_Nw (.castable xA xA) U ∧ va_Nw (.castable xS xS) U ∧ va_Nw (.declares (Bundle.initS "java/lang/RuntimeException")) U ∧ va_Nw (.declares (Bundle.initS "java/lang/Exception")) U ∧ va_Nw (.declares (Bundle.initS Bundle.tN)) U) ∧ (∀ t ∈ xtx, ∃ a, vk_R RX4 t.1 t.2 a U) ∧ vx_Zq Bundle.tN "UNASSIGNED_STACK" Bundle.steD A U U.heap ∧ vx_Zq Bundle.tN "SUPPRESSED_SENTINEL" Bundle.listD A U U.heap
theorem gXe.moved {A : Nat → Prop} {s U : State} (h : gXe A s) (hW : s.WarmedH U.vm) (hk : ∀ q : Nat, q < s.heap.size → ¬ A q → U.heap[q]? = s.heap[q]?) : gXe A U :=
  ⟨⟨va_Nw.warmC hW h.1.1, va_Nw.warmC hW h.1.2.1, va_Nw.warmC hW h.1.2.2.1, va_Nw.warmD hW h.1.2.2.2.1, va_Nw.warmD hW h.1.2.2.2.2.1, va_Nw.warmD hW h.1.2.2.2.2.2⟩, fun t ht => ⟨_, vk_R.warm hW (h.2.1 t ht).choose_spec⟩, vx_Zq.moved hW.alike (h.2.2.1.kept hk), vx_Zq.moved hW.alike (h.2.2.2.kept hk)⟩
/-- what a method that may throw starts from -/
def gQX (D : va_G) (tys : List (ClassId × FieldType)) (Hp : Heap) (A : Nat → Prop) (U : State) : Prop := U.heap = Hp ∧ va_K D vwCl tys U ∧ gXe A U
section GX
variable {l : Launch} {y : MethodName} {ws ws' : List Cond} {rm : Room} {av : List Value} {D : va_G} {tys : List (ClassId × FieldType)} {Hp : Heap} {Qc : Array Value → State → Outcome → State → Prop} {XC : String → State → State → Prop} {mc ms : Nat} {free : Addr → Prop} {cc : ByteArray} {maxL : Nat} {ret : Option FieldType} {A : Nat → Prop}
theorem g_startX (hy : plainName y.cls = true) (hw : ws = Cond.code y cc maxL ret :: ws') (hlen : (lg_sl av).length ≤ maxL)
    (body : ∀ (p : Program) (e : Env) (s : State) (m : MethodId) (below : List Frame) (meth : Method) (c : Code) (ls : Array Slot), CallFix p m c cc maxL s av.toArray ws y.cls → meth.sig.returnType = ret → meth.locks = false → s.heap = Hp → va_K D vwCl tys s → gXe A s → (∀ x ∈ c.exceptionTable.toList, False) → lv_has ls maxL (lv_args 0 av) →
      W p l e rm s m av.toArray below meth c Hp [] 0 0 (vx_MQ below Qc XC av.toArray s mc ms free) (F0 m 0 ls [])) : vx_Met l y ws rm (va_Pc av (gQX D tys Hp A)) Qc XC mc ms free := by
  refine vx_ofW (cc := cc) (maxL := maxL) (ret := ret) hy hw ?_
  intro p e s m args below meth c s₁ B hml ht hv
  obtain ⟨rfl, hh, hK, hE⟩ := hv
  have hts := atoms_spec (ws := ws) B.pre
  have hl := lv_entry av (n := maxL) hlen
  rw [lg_entry_eq]
  exact g_heq hh (body p e s m below meth c _ ⟨B.exec, B.bytes, hml, findClass_of_methodNamed B.named, hts⟩ B.returns B.notSynchronized hh hK hE ht hl)
end GX
section GXt
variable {p : Program} {l : Launch} {e : Env} {R : Room} {s : State} {m : MethodId} {args : Array Value} {below : List Frame} {meth : Method} {c : Code} {H : Heap} {locs : List Loc} {cells slots : Nat} {A : Nat → Prop} {Qc : Array Value → State → Outcome → State → Prop}
theorem g_thr {SS : Type} {px : SS → Prop} {B : String → SS → Heap → Prop} {cc : ByteArray} {pc nL : Nat} {lv : List (Nat × Value)} {ls : Array Slot} {Ts : List Cond} {E text : String} {ik is ic mc ms : Nat} (hexec : p.tables.exec = Jvm.exec) (hb : c.code = cc) (hl0 : l.stackTraces = false) (hml : c.maxLocals = nL) (hown : s.vm.findClass RX4 = some m.cls)
    (hts : ∀ w ∈ Ts, w.before args s = true) (hmem : ∀ w ∈ (vx_atS RX4 ic E xnm).filter goodWord, w ∈ Ts) (hbw : ∀ w ∈ (vx_atS RX4 ic E xnm).filter (fun w => !goodWord w), w ∈ Cond.castable E E :: xdc) (hgw : ∀ w ∈ Cond.classLink RX4 ik E :: Cond.initialized E :: vx_atS RX4 ic E xnm, vx_ot w = true)
    (hk : (Cond.classLink RX4 ik E).before args s = true) (hini : (Cond.initialized E).before args s = true) (hE : gXe A s) (hcast : va_Nw (.castable E E) s) (hstr : (is, text) ∈ xtx) (hfit : Bundle.fit E = true) (hS : va_S A s.heap H locs) (hl : lv_has ls nL lv)
    (d0 : decode cc pc = .ok (.new ik, 3)) (d3 : decode cc (pc + 3) = .ok (.dup, 1)) (d4 : decode cc (pc + 4) = .ok (.ldc is, 2)) (d6 : decode cc (pc + 6) = .ok (.invokespecial ic, 3)) (d9 : decode cc (pc + 9) = .ok (.athrow, 1))
    (ht : ∀ x ∈ c.exceptionTable.toList, False) (hR : 5 < R.frames ∧ 90 ≤ R.locals ∧ cells + 1 ≤ R.cells ∧ slots + 6 ≤ R.slots) (hlocks : meth.locks = false) {u : SS} (hp : px u) (hB : ∀ H1 : Heap, (∀ q : Nat, q < H.size → H1[q]? = H[q]?) → B E u H1) (hc : cells + 1 ≤ mc) (hs : slots + 6 ≤ ms) :
    W p l e R s m args below meth c H locs cells slots (vx_MQ below Qc (vx_X px (fun E u t => B E u t.heap) A) args s mc ms A) (F0 m pc ls []) := by
  obtain ⟨⟨-, -, -, hd1, hd2, hd3⟩, hst, hU, hN⟩ := hE
  obtain ⟨sa, hsa⟩ := hst _ hstr
  refine vx_throwS hexec hb hl0 hown hfit (names := xnm) (by decide) hk hini hsa (vx_hat (B := Cond.castable E E :: xdc) (fun w hw => hts w (hmem w hw)) hbw (vx_c (va_Nw.use rfl hcast) (vx_c (va_Nw.use rfl hd1) (vx_c (va_Nw.use rfl hd2) (vx_c (va_Nw.use rfl hd3) vx_n))))) hgw hU hN hS (hl.1.trans hml.symm) d0 d3 d4 d6 d9 (fun x hx => (ht x hx).elim) hR.1 (by show 0 + _ ≤ _; exact Nat.le_trans (by decide) hR.2.1) hR.2.2.1 hR.2.2.2 hlocks ?_ hS.2.2 hc hs
  intro t _ z hq
  exact ⟨u, hp, hB _ hq, Nat.le_trans hS.1 z, fun q h1 h2 => (hq q (Nat.lt_of_lt_of_le h1 hS.1)).trans (hS.2.1 q h1 h2)⟩
end GXt
