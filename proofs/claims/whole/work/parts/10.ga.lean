/-! THE LAYER, more rows: arrays of references, casts, answers that are references, switches -/
section GA
variable {p : Program} {l : Launch} {e : Env} {R : Room} {s : State} {m : MethodId} {args : Array Value} {below : List Frame} {meth : Method} {c : Code} {H : Heap} {locs : List Loc} {cells slots : Nat} {Q : State → Prop}
variable {cc : ByteArray} {pc : Nat} {ls : Array Slot} {rest : List Value} {D : va_G} {A : Nat → Prop} {ad : gAd} {ct ct' : gC} {tys : List (ClassId × FieldType)} {H0 : Heap} {b i : Nat}
theorem g_ald (hexec : p.tables.exec = Jvm.exec) (hb : c.code = cc) (hK : va_K D vwCl tys s) (hW : gW D A ad ct H) (t0 : Nat) {cA : ClassId} {C : String} {n : Nat} {f : Nat → Option Nat} (ha : ct b i = some (.inl (cA, n, .inr (.inr (.inr (.inr f)))))) (ht : tys[t0]? = some (cA, .object C)) (k : Nat) {x : Int32} (hxk : x = nI k) (hk : k < n) (hn : n < 2 ^ 31) {r : Nat} (hf : f k = some r) (hdg : decode cc pc = .ok (.aaload, 1))
    (kk : W p l e R s m args below meth c H locs cells slots Q (F0 m (pc + 1) ls (.ref r :: rest))) : W p l e R s m args below meth c H locs cells slots Q (F0 m pc ls (.int x :: .ref (ad b i) :: rest)) := by
  subst hxk
  refine va_aldq hexec hb hK (hW.p ha) 0 t0 rfl ht (vp_in_nI hk hn) hdg ?_
  rw [nI_clamp (by omega), hf]
  exact kk
theorem g_cast (hexec : p.tables.exec = Jvm.exec) (hb : c.code = cc) {own C : String} {T : u_T} {N ci index : Nat} {fs : List Value} (hown : s.vm.findClass own = some m.cls) (hK : va_K D vwCl tys s) (hW : gW D A ad ct H) (ha : ct b i = some (.inr (ci, fs))) (hc : vwCl[ci]? = some (C, T, N)) (hlink : (Cond.classLink own index C).before args s = true) (hdg : decode cc pc = .ok (.checkcast index, 3))
    (kk : W p l e R s m args below meth c H locs cells slots Q (F0 m (pc + 3) ls (.ref (ad b i) :: rest))) : W p l e R s m args below meth c H locs cells slots Q (F0 m pc ls (.ref (ad b i) :: rest)) :=
  va_castS hexec hb hown hlink (hK.1 ci _ hc).2 (va_recv hK (hW.p ha) hc (q0 := 0) rfl) hdg kk
end GA
section GAr
variable {p : Program} {l : Launch} {e : Env} {R : Room} {s : State} {m : MethodId} {args : Array Value} {below : List Frame} {meth : Method} {c : Code} {H : Heap} {locs : List Loc} {cc : ByteArray} {pc : Nat} {ls : Array Slot}
theorem g_rret {post : Nat → Prop} {a : Nat} {rt : FieldType} (hexec : p.tables.exec = Jvm.exec) (hb : c.code = cc) (hr : meth.sig.returnType = some rt) (hrt : (∃ n, rt = .object n) ∨ ∃ t, rt = .array t) (hlocks : meth.locks = false) (hh : s.heap = H) (hS : va_S gF H H locs) (hp : post a) (hdg : decode cc pc = .ok (.areturn, 1)) :
    W p l e R s m args below meth c H locs 0 0 (MQ below (gRr post H) args s 0 0 gF) (F0 m pc ls [.ref a]) :=
  W.aret hexec hb hr hrt (Or.inr ⟨_, rfl⟩) (fun t ht _ => ⟨⟨(), a, rfl, trivial, hp, ht⟩, by rw [hh, ht]; exact Nat.le_refl _, fun q _ _ => by rw [ht, hh]⟩) hS.2.2 hdg hlocks
theorem g_qret {post : Option Nat → Prop} {r : Option Nat} {v : Value} {rt : FieldType} (hv : v = va_rf r) (hexec : p.tables.exec = Jvm.exec) (hb : c.code = cc) (hr : meth.sig.returnType = some rt) (hrt : (∃ n, rt = .object n) ∨ ∃ t, rt = .array t) (hlocks : meth.locks = false) (hh : s.heap = H) (hS : va_S gF H H locs) (hp : post r) (hdg : decode cc pc = .ok (.areturn, 1)) :
    W p l e R s m args below meth c H locs 0 0 (MQ below (gRq post H) args s 0 0 gF) (F0 m pc ls [v]) := by
  subst hv
  exact W.aret hexec hb hr hrt (by cases r with | none => exact Or.inl rfl | some a => exact Or.inr ⟨a, rfl⟩) (fun t ht _ => ⟨⟨r, (), rfl, hp, ht⟩, by rw [hh, ht]; exact Nat.le_refl _, fun q _ _ => by rw [ht, hh]⟩) hS.2.2 hdg hlocks
end GAr
theorem g_ti {x y : Int32} {k : Int} (h : ¬ x = y) (hy : y.toInt = k) : ¬ x.toInt = k := fun z => h (Int32.toInt_inj.mp (z.trans hy.symm))
/-- a number of a list's place -/
abbrev gIn (v : Int32) (n : Nat) : Prop := ¬ v < 0 ∧ v < nI n
theorem gIn_of {v : Int32} {n : Nat} (hn : n < 2 ^ 31) (h : gIn v n) : v = nI v.toNatClampNeg ∧ v.toNatClampNeg < n := by
  obtain ⟨h0, h1⟩ := h
  have h2 : 0 ≤ v.toInt := by
    have := mt Int32.lt_iff_toInt_lt.mpr h0
    rw [show (0 : Int32).toInt = 0 from rfl] at this
    omega
  have h3 : v.toInt < n := by
    have := Int32.lt_iff_toInt_lt.mp h1
    rw [nI_toInt hn] at this
    exact this
  obtain ⟨j, hj, rfl⟩ := vp_in_of (vp_in_iff.mpr ⟨h2, h3⟩) hn
  rw [nI_clamp (by omega)]
  exact ⟨rfl, hj⟩
/-- what the lists are to each other -/
def gNN (N : gN) : Prop := ∀ j, j < 4 → N j ≤ N (4 + j) ∧ N (4 + j) ≤ 1000
theorem Wd_Le {G : gG} {ad : gAd} {N : gN} {C M : gT} {o : Nat → Int64} {j : Nat} (hj : j < 4) (h : N j ≠ 0) : Wd G ad N C M o 1 j = some (.inr (0, [.int (C 1 j), .ref (ad 2 j), .int (nI (N j))])) := by
  rw [Wd_Li hj, eList, if_neg h]
theorem g_gtj {x : Int32} {n j : Nat} (h : x = nI n) (hj : j < n + 1) (hn : n < 2 ^ 31) : ¬ x < nI j := by
  rw [h]
  exact nI_nlt (by omega) (by omega)
