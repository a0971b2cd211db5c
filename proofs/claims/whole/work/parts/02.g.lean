/-! THE WORLD BY CODES: a cell has a code (b, i), its address is ad b i; ct says what each coded cell holds -/
abbrev gC : Type := Nat → Nat → Option va_E
abbrev gAd : Type := Nat → Nat → Nat
def gW (D : va_G) (A : Nat → Prop) (ad : gAd) (ct : gC) (H : Heap) : Prop :=
  (∀ (b i : Nat) (e : va_E), ct b i = some e → va_at D vwCl (ad b i, e) H ∧ A (ad b i)) ∧
  ∀ (b i b' i' : Nat), ct b i ≠ none → ct b' i' ≠ none → ad b i = ad b' i' → b = b' ∧ i = i'
def adset (ad : gAd) (b i q : Nat) : gAd := fun b' i' => if b' = b ∧ i' = i then q else ad b' i'
def ctset (ct : gC) (b i : Nat) (e : Option va_E) : gC := fun b' i' => if b' = b ∧ i' = i then e else ct b' i'
theorem adset_s {ad : gAd} {b i q : Nat} : adset ad b i q b i = q := if_pos ⟨rfl, rfl⟩
theorem adset_o {ad : gAd} {b i q b' i' : Nat} (h : ¬ (b' = b ∧ i' = i)) : adset ad b i q b' i' = ad b' i' := if_neg h
theorem ctset_s {ct : gC} {b i : Nat} {e : Option va_E} : ctset ct b i e b i = e := if_pos ⟨rfl, rfl⟩
theorem ctset_o {ct : gC} {b i : Nat} {e : Option va_E} {b' i' : Nat} (h : ¬ (b' = b ∧ i' = i)) : ctset ct b i e b' i' = ct b' i' := if_neg h
theorem g_some {α : Type} {x : Option α} {y : α} (h : x = some y) : x ≠ none := fun z => by rw [h] at z; cases z
theorem g_p1 {D : va_G} {q : Nat × va_E} {H : Heap} (h : va_at D vwCl q H) : va_P D vwCl [q] H := by
  intro k q' hk
  cases k with
  | zero => cases hk; exact h
  | succ k => simp at hk
section GWs
variable {D : va_G} {A : Nat → Prop} {ad ad' : gAd} {ct ct' : gC} {H H1 : Heap}
theorem gW.p (h : gW D A ad ct H) {b i : Nat} {e : va_E} (hc : ct b i = some e) : va_P D vwCl [(ad b i, e)] H := g_p1 (h.1 b i e hc).1
theorem gW.put (h : gW D A ad ct H) {b i : Nat} {e e' : va_E} (hc : ct b i = some e) (hc' : ct' b i = some e') (ho : ∀ b' i', ¬ (b' = b ∧ i' = i) → ct' b' i' = ct b' i')
    (hat : va_at D vwCl (ad b i, e') H1) (hk : ∀ q : Nat, q ≠ ad b i → H1[q]? = H[q]?) : gW D A ad ct' H1 := by
  have hn : ∀ b' i', ct' b' i' ≠ none → ct b' i' ≠ none := by
    intro b' i' h1
    by_cases hb : b' = b ∧ i' = i
    · obtain ⟨rfl, rfl⟩ := hb
      exact g_some hc
    · rw [← ho b' i' hb]
      exact h1
  refine ⟨fun b' i' e2 h2 => ?_, fun b1 i1 b2 i2 h1 h2 h3 => h.2 b1 i1 b2 i2 (hn _ _ h1) (hn _ _ h2) h3⟩
  by_cases hb : b' = b ∧ i' = i
  · obtain ⟨rfl, rfl⟩ := hb
    cases Option.some.inj (hc'.symm.trans h2)
    exact ⟨hat, (h.1 _ _ _ hc).2⟩
  · rw [ho b' i' hb] at h2
    obtain ⟨h4, h5⟩ := h.1 b' i' e2 h2
    exact ⟨h4.kept (hk _ (fun z => hb (h.2 b' i' b i (g_some h2) (g_some hc) z))), h5⟩
theorem gW.new (h : gW D A ad ct H) {b i : Nat} {e : va_E} (ha : ad' b i = H.size) (hA : A H.size) (hc' : ct' b i = some e)
    (ho : ∀ b' i', ¬ (b' = b ∧ i' = i) → ct' b' i' = ct b' i' ∧ ad' b' i' = ad b' i')
    (hat : va_at D vwCl (H.size, e) H1) (hk : ∀ q : Nat, q < H.size → H1[q]? = H[q]?) : gW D A ad' ct' H1 := by
  have hlt : ∀ b' i', ¬ (b' = b ∧ i' = i) → ct' b' i' ≠ none → ct b' i' ≠ none ∧ ad' b' i' = ad b' i' ∧ ad b' i' < H.size := by
    intro b' i' hb h1
    obtain ⟨o1, o2⟩ := ho b' i' hb
    rw [o1] at h1
    refine ⟨h1, o2, ?_⟩
    cases h9 : ct b' i' with
    | none => exact absurd h9 h1
    | some e9 => exact (h.1 _ _ _ h9).1.lt
  refine ⟨fun b' i' e2 h2 => ?_, fun b1 i1 b2 i2 h1 h2 h3 => ?_⟩
  · by_cases hb : b' = b ∧ i' = i
    · obtain ⟨rfl, rfl⟩ := hb
      cases Option.some.inj (hc'.symm.trans h2)
      rw [ha]
      exact ⟨hat, hA⟩
    · obtain ⟨o1, o2⟩ := ho b' i' hb
      rw [o1] at h2
      obtain ⟨h4, h5⟩ := h.1 b' i' e2 h2
      rw [o2]
      exact ⟨h4.kept (hk _ h4.lt), h5⟩
  · by_cases hb1 : b1 = b ∧ i1 = i <;> by_cases hb2 : b2 = b ∧ i2 = i
    · exact ⟨hb1.1.trans hb2.1.symm, hb1.2.trans hb2.2.symm⟩
    · obtain ⟨-, k1, k2⟩ := hlt b2 i2 hb2 h2
      rw [hb1.1, hb1.2, ha, k1] at h3
      omega
    · obtain ⟨-, k1, k2⟩ := hlt b1 i1 hb1 h1
      rw [hb2.1, hb2.2, ha, k1] at h3
      omega
    · obtain ⟨j1, k1, -⟩ := hlt b1 i1 hb1 h1
      obtain ⟨j2, k2, -⟩ := hlt b2 i2 hb2 h2
      rw [k1, k2] at h3
      exact h.2 _ _ _ _ j1 j2 h3
theorem gW.sub (h : gW D A ad ct H) (hs : ∀ b i e, ct' b i = some e → ct b i = some e) : gW D A ad ct' H := by
  have hn : ∀ b' i', ct' b' i' ≠ none → ct b' i' ≠ none := by
    intro b' i' h1
    cases h9 : ct' b' i' with
    | none => exact absurd h9 h1
    | some e9 => exact g_some (hs _ _ _ h9)
  exact ⟨fun b i e h2 => h.1 b i e (hs b i e h2), fun b1 i1 b2 i2 h1 h2 h3 => h.2 b1 i1 b2 i2 (hn _ _ h1) (hn _ _ h2) h3⟩
theorem gW.eq (h : gW D A ad ct H) (hs : ∀ b i, ct' b i = ct b i) : gW D A ad ct' H := h.sub (fun b i e h1 => by rw [← hs]; exact h1)
theorem gW.keep (h : gW D A ad ct H) (hk : ∀ q : Nat, q < H.size → H1[q]? = H[q]?) : gW D A ad ct H1 :=
  ⟨fun b i e h2 => ⟨(h.1 b i e h2).1.kept (hk _ (h.1 b i e h2).1.lt), (h.1 b i e h2).2⟩, h.2⟩
theorem gW.weak {B : Nat → Prop} (h : gW D A ad ct H) (hB : ∀ q, A q → B q) : gW D B ad ct H :=
  ⟨fun b i e h2 => ⟨(h.1 b i e h2).1, hB _ (h.1 b i e h2).2⟩, h.2⟩
theorem va_S.ext {H0 : Heap} {locs : List Loc} (h : va_S A H0 H locs) (z : H.size ≤ H1.size) (hk : ∀ q : Nat, q < H.size → H1[q]? = H[q]?) : va_S A H0 H1 locs :=
  ⟨Nat.le_trans h.1 z, fun q h1 h2 => (hk q (Nat.lt_of_lt_of_le h1 h.1)).trans (h.2.1 q h1 h2), h.2.2⟩
end GWs
/-- what a reading method starts from -/
def gQ (D : va_G) (tys : List (ClassId × FieldType)) (Hp : Heap) (U : State) : Prop := U.heap = Hp ∧ va_K D vwCl tys U
abbrev gTy (cI cL cO : ClassId) : List (ClassId × FieldType) := [(cI, .int), (cL, .long), (cO, .object "java/lang/Object")]
abbrev gF : Nat → Prop := fun _ => False
abbrev gRi (post : Int32 → Prop) (Hp : Heap) : Array Value → State → Outcome → State → Prop := va_Qi (fun r (_ : Unit) => post r) (fun _ t => t.heap = Hp) gF
abbrev gRl (post : Int64 → Prop) (Hp : Heap) : Array Value → State → Outcome → State → Prop := va_Ql (fun r (_ : Unit) => post r) (fun _ t => t.heap = Hp) gF
abbrev gRd (post : UInt64 → Prop) (Hp : Heap) : Array Value → State → Outcome → State → Prop := va_Qd (fun r (_ : Unit) => post r) (fun _ t => t.heap = Hp) gF
abbrev gRr (post : Nat → Prop) (Hp : Heap) : Array Value → State → Outcome → State → Prop := va_Qr (fun (_ : Unit) => True) (fun _ a t => post a ∧ t.heap = Hp) gF
abbrev gRq (post : Option Nat → Prop) (Hp : Heap) : Array Value → State → Outcome → State → Prop := va_Qq (fun r (_ : Unit) => post r) (fun _ t => t.heap = Hp) gF
theorem g_blind {av : List Value} {D : va_G} {tys : List (ClassId × FieldType)} {Hp : Heap} : FrameBlind (va_Pc av (gQ D tys Hp)) := fun _ U _ _ q => ⟨q.1, q.2.1, va_K.moved (Vm.Alike.refl U.vm) q.2.2⟩
theorem g_heq {p : Program} {l : Launch} {e : Env} {R : Room} {s : State} {m : MethodId} {args : Array Value} {below : List Frame} {meth : Method} {c : Code} {H H1 : Heap} {locs : List Loc} {cells slots : Nat} {Q : State → Prop} {g : JFrame} (h : H = H1)
    (k : W p l e R s m args below meth c H1 locs cells slots Q g) : W p l e R s m args below meth c H locs cells slots Q g := by
  subst h
  exact k
section GS
variable {l : Launch} {y : MethodName} {ws ws' : List Cond} {rm : Room} {av : List Value} {D : va_G} {tys : List (ClassId × FieldType)} {Hp : Heap} {Qc : Array Value → State → Outcome → State → Prop} {mc ms : Nat} {free : Addr → Prop} {cc : ByteArray} {maxL : Nat} {ret : Option FieldType}
/-- a method's body, its start laid out -/
theorem g_startP {B : State → Prop} (hy : plainName y.cls = true) (hw : ws = Cond.code y cc maxL ret :: ws') (hlen : (lg_sl av).length ≤ maxL)
    (body : ∀ (p : Program) (e : Env) (s : State) (m : MethodId) (below : List Frame) (meth : Method) (c : Code) (ls : Array Slot), CallFix p m c cc maxL s av.toArray ws y.cls → meth.sig.returnType = ret → meth.locks = false → meth.name = y.name → B s → lv_has ls maxL (lv_args 0 av) →
      W p l e rm s m av.toArray below meth c s.heap [] 0 0 (MQ below Qc av.toArray s mc ms free) (F0 m 0 ls [])) : Met l y ws rm (va_Pc av B) Qc mc ms free := by
  refine Met.ofW (cc := cc) (maxL := maxL) (ret := ret) hy hw ?_
  intro p e s m args below meth c s₁ B hml hv
  obtain ⟨rfl, hK⟩ := hv
  have hts := atoms_spec (ws := ws) B.pre
  have hl := lv_entry av (n := maxL) hlen
  rw [lg_entry_eq]
  exact body p e s m below meth c _ ⟨B.exec, B.bytes, hml, findClass_of_methodNamed B.named, hts⟩ B.returns B.notSynchronized (name_of_methodNamed B.named B.method).1 hK hl
theorem g_start (hy : plainName y.cls = true) (hw : ws = Cond.code y cc maxL ret :: ws') (hlen : (lg_sl av).length ≤ maxL)
    (body : ∀ (p : Program) (e : Env) (s : State) (m : MethodId) (below : List Frame) (meth : Method) (c : Code) (ls : Array Slot), CallFix p m c cc maxL s av.toArray ws y.cls → meth.sig.returnType = ret → meth.locks = false → meth.name = y.name → s.heap = Hp → va_K D vwCl tys s → lv_has ls maxL (lv_args 0 av) →
      W p l e rm s m av.toArray below meth c Hp [] 0 0 (MQ below Qc av.toArray s mc ms free) (F0 m 0 ls [])) : Met l y ws rm (va_Pc av (gQ D tys Hp)) Qc mc ms free :=
  g_startP hy hw hlen (fun p e s m below meth c ls a1 a2 a3 a4 a5 a6 => g_heq a5.1 (body p e s m below meth c ls a1 a2 a3 a4 a5.1 a5.2 a6))
end GS

section GR
variable {p : Program} {l : Launch} {e : Env} {R : Room} {s : State} {m : MethodId} {args : Array Value} {below : List Frame} {meth : Method} {c : Code} {H : Heap} {locs : List Loc} {cells slots : Nat} {Q : State → Prop}
variable {cc : ByteArray} {pc : Nat} {ls : Array Slot} {rest : List Value} {D : va_G} {A : Nat → Prop} {ad : gAd} {ct ct' : gC} {tys : List (ClassId × FieldType)} {H0 : Heap} {b i : Nat}
/-- putfield of a coded cell: ct' is ct but for it -/
theorem g_put (hexec : p.tables.exec = Jvm.exec) (hb : c.code = cc) {own ref C : String} {T : u_T} {N ci index : Nat} {Ts : List Cond} (hts : ∀ w ∈ Ts, w.before args s = true) (hin : ∀ w ∈ u_ws C T N, w ∈ Ts) (ty0 : Nat → FieldType) (hty : ∀ k, k < N → parseFieldDescriptor (T k).2.2.1 = some (ty0 k)) (hnm : ∀ a, a < N → ∀ b, b < N → a ≠ b → (T a).2.1 ≠ (T b).2.1) (hown : s.vm.findClass own = some m.cls) (hK : va_K D vwCl tys s)
    (hW : gW D A ad ct H) (hS0 : va_S A H0 H locs) {fs : List Value} (he : ct b i = some (.inr (ci, fs))) (hc : vwCl[ci]? = some (C, T, N)) (k : Nat) (hk : k < N) (hlink : (Cond.fieldLink own index ref (T k).2.1 (T k).2.2.1).before args s = true) (hsame : ∀ x, s.fieldFound? (T k).1 (T k).2.1 (T k).2.2.1 = some x → s.fieldFound? ref (T k).2.1 (T k).2.2.1 = some x) (hfin : (T k).2.2.2 = false) {ty : FieldType} {v : Value} (hd : parseFieldDescriptor (T k).2.2.1 = some ty) (hn : narrow ty v = v) (hfit : fits ty v = true) (hl : k < fs.length)
    (hdg : decode cc pc = .ok (.putfield index, 3)) (he' : ct' b i = some (.inr (ci, fs.set k v))) (ho : ∀ b' i', ¬ (b' = b ∧ i' = i) → ct' b' i' = ct b' i')
    (kk : ∀ (H1 : Heap) (locs1 : List Loc), gW D A ad ct' H1 → va_S A H0 H1 locs1 → W p l e R s m args below meth c H1 locs1 cells slots Q (F0 m (pc + 3) ls rest)) : W p l e R s m args below meth c H locs cells slots Q (F0 m pc ls (v :: .ref (ad b i) :: rest)) := by
  have hap := va_apart (own := own) hts hin ty0 hty hnm hK hc
  obtain ⟨hat, hAa⟩ := hW.1 b i _ he
  obtain ⟨r, h1, cell, q1, q2, q3, q4⟩ := hat
  have hr : r = (C, T, N) := Option.some.inj (h1.symm.trans hc)
  subst hr
  obtain ⟨hS, hfc, kC, hkC, hkind⟩ := hK.1 ci _ hc
  obtain ⟨cf, kf, fi, f, hi, hsl⟩ := hS k hk
  have hlay := hts _ (hin _ (u_in_lay hk))
  unfold u_lay at hlay
  rw [if_neg (by rw [hfin]; decide)] at hlay
  have hst := (u_facts hfc hkC (u_lays hts hin hk) hi).1
  have h6 := u_store hfc hkC hkind hlay hi hd hn hfit
  refine W.putK hexec hb (f := f) ⟨hown, hlink, ⟨_, _, _, hsame _ hi⟩, hst⟩ (by rw [q2]; exact h6) q1 q3 (by rw [hsl]; exact k2_hasslot (q4 k hk)) rfl rfl hdg fun H' e1 e2 e3 => ?_
  rw [hsl] at e1 ⊢
  exact kk H' _ (hW.put he he' ho ⟨_, hc, t_OB.to (V := updV (vp_V fs) k v) ⟨_, e1, q2, q3, t_set q4 hap hk v⟩ (fun j _ => vp_updV_set hl v j)⟩ e3) (hS0.put e2 e3 hAa)
/-- .. of a final field, in the constructor -/
theorem g_putF (hexec : p.tables.exec = Jvm.exec) (hb : c.code = cc) {own ref C : String} {T : u_T} {N ci index : Nat} {Ts : List Cond} (hts : ∀ w ∈ Ts, w.before args s = true) (hin : ∀ w ∈ u_ws C T N, w ∈ Ts) (ty0 : Nat → FieldType) (hty : ∀ k, k < N → parseFieldDescriptor (T k).2.2.1 = some (ty0 k)) (hnm : ∀ a, a < N → ∀ b, b < N → a ≠ b → (T a).2.1 ≠ (T b).2.1) (hown : s.vm.findClass own = some m.cls) (hK : va_K D vwCl tys s)
    (hW : gW D A ad ct H) (hS0 : va_S A H0 H locs) {fs : List Value} (he : ct b i = some (.inr (ci, fs))) (hc : vwCl[ci]? = some (C, T, N)) (k : Nat) (hk : k < N) (hlink : (Cond.fieldLink own index ref (T k).2.1 (T k).2.2.1).before args s = true) (hsame : ∀ x, s.fieldFound? (T k).1 (T k).2.1 (T k).2.2.1 = some x → s.fieldFound? ref (T k).2.1 (T k).2.2.1 = some x) (hfin : (T k).2.2.2 = true) (hin2 : meth.name = "<init>") (hdecl : (T k).1 = own) {ty : FieldType} {v : Value} (hd : parseFieldDescriptor (T k).2.2.1 = some ty) (hn : narrow ty v = v) (hfit : fits ty v = true) (hl : k < fs.length)
    (hdg : decode cc pc = .ok (.putfield index, 3)) (he' : ct' b i = some (.inr (ci, fs.set k v))) (ho : ∀ b' i', ¬ (b' = b ∧ i' = i) → ct' b' i' = ct b' i')
    (kk : ∀ (H1 : Heap) (locs1 : List Loc), gW D A ad ct' H1 → va_S A H0 H1 locs1 → W p l e R s m args below meth c H1 locs1 cells slots Q (F0 m (pc + 3) ls rest)) : W p l e R s m args below meth c H locs cells slots Q (F0 m pc ls (v :: .ref (ad b i) :: rest)) := by
  have hap := va_apart (own := own) hts hin ty0 hty hnm hK hc
  obtain ⟨hat, hAa⟩ := hW.1 b i _ he
  obtain ⟨r, h1, cell, q1, q2, q3, q4⟩ := hat
  have hr : r = (C, T, N) := Option.some.inj (h1.symm.trans hc)
  subst hr
  obtain ⟨hS, hfc, kC, hkC, hkind⟩ := hK.1 ci _ hc
  obtain ⟨cf, kf, fi, f, hi, hsl⟩ := hS k hk
  have hlay := hts _ (hin _ (u_in_lay hk))
  unfold u_lay at hlay
  rw [if_pos hfin] at hlay
  have hst := (u_facts hfc hkC (u_lays hts hin hk) hi).1
  have hcf : m.cls = cf := by
    obtain ⟨_, _, c', _, _, _, -, -, hf', -, -, -, hown2, -⟩ := Cond.laysFinal_spec hlay
    have e1 : c' = cf := by have := hi.symm.trans hf'; simp at this; exact this.1.symm
    rw [hdecl] at hown2
    rw [← e1]; exact Option.some.inj (hown.symm.trans hown2)
  have h6 := u_fits hfc hkC hkind (Or.inr hlay) hi hd hn hfit
  refine W.putFinK hexec hb hown hlink (hsame _ hi) hst hcf hin2 (by rw [q2]; exact h6) q1 q3 (by rw [hsl]; exact k2_hasslot (q4 k hk)) rfl rfl hdg fun H' e1 e2 e3 => ?_
  rw [hsl] at e1 ⊢
  exact kk H' _ (hW.put he he' ho ⟨_, hc, t_OB.to (V := updV (vp_V fs) k v) ⟨_, e1, q2, q3, t_set q4 hap hk v⟩ (fun j _ => vp_updV_set hl v j)⟩ e3) (hS0.put e2 e3 hAa)
theorem g_upd_cell {cA : ClassId} {n : Nat} {f : Nat → Int32} {k : Nat} {x : Int32} : (vp_cell cA (n, .inl f)).setSlot k (.int x) = vp_cell cA (n, .inl (upd f k x)) := by
  rw [vp_cell_i, vp_cell_i, arrV_store]
  congr 1
  funext q
  by_cases hq : q = k
  · subst hq
    simp [updV, upd]
  · simp [updV, upd, hq]
/-- iastore into a coded cell -/
theorem g_ist (hexec : p.tables.exec = Jvm.exec) (hb : c.code = cc) (hK : va_K D vwCl tys s) (hW : gW D A ad ct H) (hS : va_S A H0 H locs) (t0 : Nat) {cA : ClassId} {n : Nat} {f : Nat → Int32} (ha : ct b i = some (.inl (cA, n, .inl f))) (ht : tys[t0]? = some (cA, .int)) {j : Int32} {x : Int32} (hin : vp_in j n) (hdg : decode cc pc = .ok (.iastore, 1))
    (he' : ct' b i = some (.inl (cA, n, .inl (upd f j.toNatClampNeg x)))) (ho : ∀ b' i', ¬ (b' = b ∧ i' = i) → ct' b' i' = ct b' i')
    (kk : ∀ (H1 : Heap) (locs1 : List Loc), gW D A ad ct' H1 → va_S A H0 H1 locs1 → W p l e R s m args below meth c H1 locs1 cells slots Q (F0 m (pc + 1) ls rest)) : W p l e R s m args below meth c H locs cells slots Q (F0 m pc ls (.int x :: .int j :: .ref (ad b i) :: rest)) := by
  obtain ⟨hat, hAa⟩ := hW.1 b i _ ha
  refine W.iast hexec hb hat ((hK.2 t0 _ ht).1 n (fun j => .int (f j))) (fun q => by cases q) (by show ¬ (j < 0 ∨ (arrV _ _ _).slots.size ≤ _); rw [arrV_size]; exact hin) rfl rfl hdg fun H1 e z oq => ?_
  refine kk H1 _ (hW.put ha he' ho ?_ oq) (hS.put z oq hAa)
  show H1[ad b i]? = some (vp_cell _ _)
  rw [e]
  exact congrArg some g_upd_cell
/-- lastore into a coded cell -/
theorem g_lst (hexec : p.tables.exec = Jvm.exec) (hb : c.code = cc) (hK : va_K D vwCl tys s) (hW : gW D A ad ct H) (hS : va_S A H0 H locs) (t0 : Nat) {cA : ClassId} {n : Nat} {f : Nat → Int64} (ha : ct b i = some (.inl (cA, n, .inr (.inl f)))) (ht : tys[t0]? = some (cA, .long)) {j : Int32} {x : Int64} (hin : vp_in j n) (hdg : decode cc pc = .ok (.lastore, 1))
    (he' : ct' b i = some (.inl (cA, n, .inr (.inl (vp_updL f j.toNatClampNeg x))))) (ho : ∀ b' i', ¬ (b' = b ∧ i' = i) → ct' b' i' = ct b' i')
    (kk : ∀ (H1 : Heap) (locs1 : List Loc), gW D A ad ct' H1 → va_S A H0 H1 locs1 → W p l e R s m args below meth c H1 locs1 cells slots Q (F0 m (pc + 1) ls rest)) : W p l e R s m args below meth c H locs cells slots Q (F0 m pc ls (.long x :: .int j :: .ref (ad b i) :: rest)) := by
  obtain ⟨hat, hAa⟩ := hW.1 b i _ ha
  refine W.last hexec hb hat ((hK.2 t0 _ ht).1 n (fun j => .long (f j))) (fun q => by cases q) (by show ¬ (j < 0 ∨ (arrV _ _ _).slots.size ≤ _); rw [arrV_size]; exact hin) rfl rfl hdg fun H1 e z oq => ?_
  refine kk H1 _ (hW.put ha he' ho ?_ oq) (hS.put z oq hAa)
  show H1[ad b i]? = some (vp_cell _ _)
  rw [e]
  rw [vp_cell_l, vp_cell_l, arrV_store]
  congr 2
  funext q
  by_cases hq : q = j.toNatClampNeg
  · subst hq
    simp [updV, vp_updL]
  · simp [updV, vp_updL, hq]
/-- iaload and iastore at a place that is a natural number -/
theorem g_ild (hexec : p.tables.exec = Jvm.exec) (hb : c.code = cc) (hK : va_K D vwCl tys s) (hW : gW D A ad ct H) (t0 : Nat) {cA : ClassId} {n : Nat} {f : Nat → Int32} (ha : ct b i = some (.inl (cA, n, .inl f))) (ht : tys[t0]? = some (cA, .int)) (k : Nat) {x : Int32} (hxk : x = nI k) (hk : k < n) (hn : n < 2 ^ 31) (hdg : decode cc pc = .ok (.iaload, 1))
    (kk : W p l e R s m args below meth c H locs cells slots Q (F0 m (pc + 1) ls (.int (f k) :: rest))) : W p l e R s m args below meth c H locs cells slots Q (F0 m pc ls (.int x :: .ref (ad b i) :: rest)) := by
  subst hxk
  refine va_iald hexec hb hK (hW.p ha) 0 t0 rfl ht (vp_in_nI hk hn) hdg ?_
  rw [nI_clamp (by omega)]
  exact kk
theorem g_istN (hexec : p.tables.exec = Jvm.exec) (hb : c.code = cc) (hK : va_K D vwCl tys s) (hW : gW D A ad ct H) (hS : va_S A H0 H locs) (t0 : Nat) {cA : ClassId} {n : Nat} {f : Nat → Int32} (ha : ct b i = some (.inl (cA, n, .inl f))) (ht : tys[t0]? = some (cA, .int)) (k : Nat) {j : Int32} {x : Int32} (hxk : j = nI k) (hk : k < n) (hn : n < 2 ^ 31) (hdg : decode cc pc = .ok (.iastore, 1))
    (he' : ct' b i = some (.inl (cA, n, .inl (upd f k x)))) (ho : ∀ b' i', ¬ (b' = b ∧ i' = i) → ct' b' i' = ct b' i')
    (kk : ∀ (H1 : Heap) (locs1 : List Loc), gW D A ad ct' H1 → va_S A H0 H1 locs1 → W p l e R s m args below meth c H1 locs1 cells slots Q (F0 m (pc + 1) ls rest)) : W p l e R s m args below meth c H locs cells slots Q (F0 m pc ls (.int x :: .int j :: .ref (ad b i) :: rest)) := by
  subst hxk
  exact g_ist hexec hb hK hW hS t0 ha ht (vp_in_nI hk hn) hdg (by rw [nI_clamp (by omega)]; exact he') ho kk
/-- new: a coded cell comes -/
theorem g_new (hexec : p.tables.exec = Jvm.exec) (hb : c.code = cc) {own C : String} {T : u_T} {N ci index : Nat} {Ts : List Cond} (hts : ∀ w ∈ Ts, w.before args s = true) (hin : ∀ w ∈ u_ws C T N, w ∈ Ts) (ty : Nat → FieldType) (hty : ∀ k, k < N → parseFieldDescriptor (T k).2.2.1 = some (ty k)) (hown : s.vm.findClass own = some m.cls) (hcl : (Cond.classLink own index C).before args s = true) (hinst : (Cond.instantiable C N).before args s = true) (hini : (Cond.initialized C).before args s = true)
    (hK : va_K D vwCl tys s) (hW : gW D A ad ct H) (hS : va_S A H0 H locs) (hA : ∀ q, H0.size ≤ q → A q) (hc : vwCl[ci]? = some (C, T, N)) {fs : List Value} (hfs : ∀ j, j < N → defaultValue (ty j) = vp_V fs j) (hcells : cells + 1 ≤ R.cells) (hslots : slots + N ≤ R.slots) (hdg : decode cc pc = .ok (.new index, 3)) (b i : Nat)
    (kk : ∀ (q : Nat) (H1 : Heap), gW D A (adset ad b i q) (ctset ct b i (some (.inr (ci, fs)))) H1 → va_S A H0 H1 locs → q = H.size →
      W p l e R s m args below meth c H1 locs (cells + 1) (slots + N) Q (F0 m (pc + 3) ls (.ref q :: rest))) : W p l e R s m args below meth c H locs cells slots Q (F0 m pc ls rest) := by
  have hKn := hK.1 ci _ hc
  refine W.newcK hexec hb hown hcl hinst hini rfl hdg hcells hslots hKn.2.1 rfl fun H1 kC hkC e1 z1 o1 => ?_
  refine kk H.size H1 (hW.new (e := .inr (ci, fs)) adset_s (hA _ hS.1) ctset_s (fun b' i' hb => ⟨ctset_o hb, adset_o hb⟩) ⟨_, hc, (u_born ty hts hin hKn hkC e1 hty).to hfs⟩ o1) (hS.ext (by omega) o1) rfl
/-- new int[n]: a coded cell comes -/
theorem g_newa (hexec : p.tables.exec = Jvm.exec) (hb : c.code = cc) (harr : (Cond.arrayClass .int).before args s = true) (hK : va_K D vwCl tys s) (hW : gW D A ad ct H) (hS : va_S A H0 H locs) (hA : ∀ q, H0.size ≤ q → A q)
    (t0 : Nat) {cA : ClassId} (ht : tys[t0]? = some (cA, .int)) {n : Int32} {N' : Nat} (hn : ¬ n < 0) (hN : n.toNatClampNeg = N') (hbytes : N' * componentBytes .int ≤ 536870912) (hcells : cells + 1 ≤ R.cells) (hslots : slots + N' ≤ R.slots) (hdg : decode cc pc = .ok (.newarray .int, 2)) (b i : Nat)
    (kk : ∀ (q : Nat) (H1 : Heap), gW D A (adset ad b i q) (ctset ct b i (some (.inl (cA, N', .inl (fun _ => 0))))) H1 → va_S A H0 H1 locs → q = H.size →
      W p l e R s m args below meth c H1 locs (cells + 1) (slots + N') Q (F0 m (pc + 2) ls (.ref q :: rest))) : W p l e R s m args below meth c H locs cells slots Q (F0 m pc ls (.int n :: rest)) := by
  refine va_newaK (atype := .int) hexec hb harr rfl hdg rfl hn hN hbytes hcells hslots rfl fun H1 cA' e1 z1 o1 hAr hNm => ?_
  have hcc : cA' = cA := Option.some.inj (hNm.symm.trans (hK.2 t0 _ ht).2)
  subst hcc
  exact kk H.size H1 (hW.new (e := .inl (cA', N', .inl (fun _ => 0))) adset_s (hA _ hS.1) ctset_s (fun b' i' hb => ⟨ctset_o hb, adset_o hb⟩) e1 o1) (hS.ext (by omega) o1) rfl
theorem g_newal (hexec : p.tables.exec = Jvm.exec) (hb : c.code = cc) (harr : (Cond.arrayClass .long).before args s = true) (hK : va_K D vwCl tys s) (hW : gW D A ad ct H) (hS : va_S A H0 H locs) (hA : ∀ q, H0.size ≤ q → A q)
    (t0 : Nat) {cA : ClassId} (ht : tys[t0]? = some (cA, .long)) {n : Int32} {N' : Nat} (hn : ¬ n < 0) (hN : n.toNatClampNeg = N') (hbytes : N' * componentBytes .long ≤ 536870912) (hcells : cells + 1 ≤ R.cells) (hslots : slots + N' ≤ R.slots) (hdg : decode cc pc = .ok (.newarray .long, 2)) (b i : Nat)
    (kk : ∀ (q : Nat) (H1 : Heap), gW D A (adset ad b i q) (ctset ct b i (some (.inl (cA, N', .inr (.inl (fun _ => 0)))))) H1 → va_S A H0 H1 locs → q = H.size →
      W p l e R s m args below meth c H1 locs (cells + 1) (slots + N') Q (F0 m (pc + 2) ls (.ref q :: rest))) : W p l e R s m args below meth c H locs cells slots Q (F0 m pc ls (.int n :: rest)) := by
  refine va_newaK (atype := .long) hexec hb harr rfl hdg rfl hn hN hbytes hcells hslots rfl fun H1 cA' e1 z1 o1 hAr hNm => ?_
  have hcc : cA' = cA := Option.some.inj (hNm.symm.trans (hK.2 t0 _ ht).2)
  subst hcc
  exact kk H.size H1 (hW.new (e := .inl (cA', N', .inr (.inl (fun _ => 0)))) adset_s (hA _ hS.1) ctset_s (fun b' i' hb => ⟨ctset_o hb, adset_o hb⟩) e1 o1) (hS.ext (by omega) o1) rfl
end GR
section GE
variable {p : Program} {l : Launch} {e : Env} {R : Room} {s : State} {m : MethodId} {args : Array Value} {below : List Frame} {meth : Method} {c : Code} {H : Heap} {locs : List Loc}
variable {cc : ByteArray} {pc : Nat} {ls : Array Slot}
/-- a reading method's end -/
theorem g_iret {post : Int32 → Prop} {v : Int32} (hexec : p.tables.exec = Jvm.exec) (hb : c.code = cc) (hr : meth.sig.returnType = some .int) (hlocks : meth.locks = false) (hh : s.heap = H) (hS : va_S gF H H locs) (hp : post v) (hdg : decode cc pc = .ok (.ireturn, 1)) :
    W p l e R s m args below meth c H locs 0 0 (MQ below (gRi post H) args s 0 0 gF) (F0 m pc ls [.int v]) :=
  W.iret hexec hb hr (fun t ht _ => ⟨⟨v, (), rfl, hp, ht⟩, by rw [hh, ht]; exact Nat.le_refl _, fun q _ _ => by rw [ht, hh]⟩) hS.2.2 hdg hlocks
theorem g_zret {post : Int32 → Prop} {v : Int32} (hexec : p.tables.exec = Jvm.exec) (hb : c.code = cc) (hr : meth.sig.returnType = some .boolean) (hlocks : meth.locks = false) (hh : s.heap = H) (hS : va_S gF H H locs) (hv : v = 0 ∨ v = 1) (hp : post v) (hdg : decode cc pc = .ok (.ireturn, 1)) :
    W p l e R s m args below meth c H locs 0 0 (MQ below (gRi post H) args s 0 0 gF) (F0 m pc ls [.int v]) :=
  W.zret hexec hb hr (by rcases hv with rfl | rfl <;> rfl) (fun t ht _ => ⟨⟨v, (), rfl, hp, ht⟩, by rw [hh, ht]; exact Nat.le_refl _, fun q _ _ => by rw [ht, hh]⟩) hS.2.2 hdg hlocks
theorem g_lret {post : Int64 → Prop} {v : Int64} (hexec : p.tables.exec = Jvm.exec) (hb : c.code = cc) (hr : meth.sig.returnType = some .long) (hlocks : meth.locks = false) (hh : s.heap = H) (hS : va_S gF H H locs) (hp : post v) (hdg : decode cc pc = .ok (.lreturn, 1)) :
    W p l e R s m args below meth c H locs 0 0 (MQ below (gRl post H) args s 0 0 gF) (F0 m pc ls [.long v]) :=
  W.lret hexec hb hr (fun t ht _ => ⟨⟨v, (), rfl, hp, ht⟩, by rw [hh, ht]; exact Nat.le_refl _, fun q _ _ => by rw [ht, hh]⟩) hS.2.2 hdg hlocks
/-- a writing method's end -/
theorem g_wret {SS : Type} {post : Int32 → SS → Prop} {B : SS → Heap → Prop} {A : Nat → Prop} {R : Room} {cells slots : Nat} {H0 : Heap} {v : Int32} {u : SS} (hexec : p.tables.exec = Jvm.exec) (hb : c.code = cc) (hr : meth.sig.returnType = some .int) (hlocks : meth.locks = false) (hh : s.heap = H0) (hS : va_S A H0 H locs) (hp : post v u) (hB : B u H) (hdg : decode cc pc = .ok (.ireturn, 1)) :
    W p l e R s m args below meth c H locs cells slots (MQ below (va_Qi post (fun u t => B u t.heap) A) args s cells slots A) (F0 m pc ls [.int v]) := by
  subst hh
  exact W.iret hexec hb hr (fun t ht _ => ⟨⟨v, u, rfl, hp, by show B u t.heap; rw [ht]; exact hB⟩, hS.F ht⟩) hS.2.2 hdg hlocks
theorem g_wzret {SS : Type} {post : Int32 → SS → Prop} {B : SS → Heap → Prop} {A : Nat → Prop} {R : Room} {cells slots : Nat} {H0 : Heap} {v : Int32} {u : SS} (hexec : p.tables.exec = Jvm.exec) (hb : c.code = cc) (hr : meth.sig.returnType = some .boolean) (hlocks : meth.locks = false) (hh : s.heap = H0) (hS : va_S A H0 H locs) (hv : v = 0 ∨ v = 1) (hp : post v u) (hB : B u H) (hdg : decode cc pc = .ok (.ireturn, 1)) :
    W p l e R s m args below meth c H locs cells slots (MQ below (va_Qi post (fun u t => B u t.heap) A) args s cells slots A) (F0 m pc ls [.int v]) := by
  subst hh
  exact W.zret hexec hb hr (by rcases hv with rfl | rfl <;> rfl) (fun t ht _ => ⟨⟨v, u, rfl, hp, by show B u t.heap; rw [ht]; exact hB⟩, hS.F ht⟩) hS.2.2 hdg hlocks
theorem g_wlret {SS : Type} {post : Int64 → SS → Prop} {B : SS → Heap → Prop} {A : Nat → Prop} {R : Room} {cells slots : Nat} {H0 : Heap} {v : Int64} {u : SS} (hexec : p.tables.exec = Jvm.exec) (hb : c.code = cc) (hr : meth.sig.returnType = some .long) (hlocks : meth.locks = false) (hh : s.heap = H0) (hS : va_S A H0 H locs) (hp : post v u) (hB : B u H) (hdg : decode cc pc = .ok (.lreturn, 1)) :
    W p l e R s m args below meth c H locs cells slots (MQ below (va_Ql post (fun u t => B u t.heap) A) args s cells slots A) (F0 m pc ls [.long v]) := by
  subst hh
  exact W.lret hexec hb hr (fun t ht _ => ⟨⟨v, u, rfl, hp, by show B u t.heap; rw [ht]; exact hB⟩, hS.F ht⟩) hS.2.2 hdg hlocks
theorem g_wdret {SS : Type} {post : UInt64 → SS → Prop} {B : SS → Heap → Prop} {A : Nat → Prop} {R : Room} {cells slots : Nat} {H0 : Heap} {v : UInt64} {u : SS} (hexec : p.tables.exec = Jvm.exec) (hb : c.code = cc) (hr : meth.sig.returnType = some .double) (hlocks : meth.locks = false) (hh : s.heap = H0) (hS : va_S A H0 H locs) (hp : post v u) (hB : B u H) (hdg : decode cc pc = .ok (.dreturn, 1)) :
    W p l e R s m args below meth c H locs cells slots (MQ below (va_Qd post (fun u t => B u t.heap) A) args s cells slots A) (F0 m pc ls [.double v]) := by
  subst hh
  exact W.dret hexec hb hr (fun t ht _ => ⟨⟨v, u, rfl, hp, by show B u t.heap; rw [ht]; exact hB⟩, hS.F ht⟩) hS.2.2 hdg hlocks
theorem g_wvret {SS : Type} {post : SS → Prop} {B : SS → Heap → Prop} {A : Nat → Prop} {R : Room} {cells slots : Nat} {H0 : Heap} {u : SS} (hexec : p.tables.exec = Jvm.exec) (hb : c.code = cc) (hr : meth.sig.returnType = none) (hlocks : meth.locks = false) (hh : s.heap = H0) (hS : va_S A H0 H locs) (hp : post u) (hB : B u H) (hdg : decode cc pc = .ok (.return_, 1)) :
    W p l e R s m args below meth c H locs cells slots (MQ below (va_Qv post (fun u t => B u t.heap) A) args s cells slots A) (F0 m pc ls []) := by
  subst hh
  exact W.vret hexec hb hr (fun t ht _ => ⟨⟨u, rfl, hp, by show B u t.heap; rw [ht]; exact hB⟩, hS.F ht⟩) hS.2.2 hdg hlocks
end GE
section GCa
variable {p : Program} {l : Launch} {e : Env} {R : Room} {s : State} {m : MethodId} {args : Array Value} {below : List Frame} {meth : Method} {c : Code} {H : Heap} {locs : List Loc} {cells slots : Nat} {Q : State → Prop}
variable {cc bytes : ByteArray} {pc n nL maxL index : Nat} {ls : Array Slot} {lv : List (Nat × Value)} {rest st0 As : List Value} {D : va_G} {A0 : Nat → Prop} {H0 : Heap} {tys : List (ClassId × FieldType)} {Ts ws : List Cond} {rm : Room} {own C : String} {y : MethodName} {b : Nat} {ret : Option FieldType}
/-- calls of reading methods: the heap stays -/
theorem g_Vi {post : Int32 → Prop} (S : CallFix p m c cc nL s args Ts own) (hM : Met l y ws rm (va_Pc (.ref b :: As) (gQ D tys H)) (gRi post H) 0 0 gF) (cw : CallW R s args own C index y bytes maxL ret ws rm 0 0 n) (hK : va_K D vwCl tys s) (hrecv : ∃ cellB : Cell, H[b]? = some cellB ∧ cellB.vm.isStatics = false ∧ s.vm.findClass C = some cellB.cls)
    (hn : As.length = n) (hl : lv_has ls nL lv) (hstack : st0 = As.reverse ++ .ref b :: rest) (hcat : (rest.map fun v => v.category).sum ≤ 8) (hdg : decode cc pc = .ok (.invokevirtual index, 3)) (hf : cells ≤ R.cells ∧ slots ≤ R.slots) (hS : va_S A0 H0 H locs)
    (kk : ∀ (r : Int32) (locs1 : List Loc), post r → va_S A0 H0 H locs1 → W p l e R s m args below meth c H locs1 cells slots Q (F0 m (pc + 3) ls (.int r :: rest))) : W p l e R s m args below meth c H locs cells slots Q (F0 m pc ls st0) := by
  refine va_calli (va_runV (As := As) (rest := rest) (g := F0 m pc ls st0) S hM cw ⟨g_blind, hrecv, fun U hU hW => ⟨rfl, hU, va_K.moved hW.alike hK⟩⟩ rfl hn hl.1 hstack (lv_room hcat) hdg hf) hS (fun q _ h => h.elim) (fun q h => h.elim) (fun r u t H1 locs1 ht hvm hw hB hz1 hk1 hS2 => ?_)
  have e1 : H1 = H := ht.symm.trans hB
  subst e1
  exact kk r locs1 hw hS2
theorem g_Vl {post : Int64 → Prop} (S : CallFix p m c cc nL s args Ts own) (hM : Met l y ws rm (va_Pc (.ref b :: As) (gQ D tys H)) (gRl post H) 0 0 gF) (cw : CallW R s args own C index y bytes maxL ret ws rm 0 0 n) (hK : va_K D vwCl tys s) (hrecv : ∃ cellB : Cell, H[b]? = some cellB ∧ cellB.vm.isStatics = false ∧ s.vm.findClass C = some cellB.cls)
    (hn : As.length = n) (hl : lv_has ls nL lv) (hstack : st0 = As.reverse ++ .ref b :: rest) (hcat : (rest.map fun v => v.category).sum ≤ 8) (hdg : decode cc pc = .ok (.invokevirtual index, 3)) (hf : cells ≤ R.cells ∧ slots ≤ R.slots) (hS : va_S A0 H0 H locs)
    (kk : ∀ (r : Int64) (locs1 : List Loc), post r → va_S A0 H0 H locs1 → W p l e R s m args below meth c H locs1 cells slots Q (F0 m (pc + 3) ls (.long r :: rest))) : W p l e R s m args below meth c H locs cells slots Q (F0 m pc ls st0) := by
  refine va_calll (va_runV (As := As) (rest := rest) (g := F0 m pc ls st0) S hM cw ⟨g_blind, hrecv, fun U hU hW => ⟨rfl, hU, va_K.moved hW.alike hK⟩⟩ rfl hn hl.1 hstack (lv_room hcat) hdg hf) hS (fun q _ h => h.elim) (fun q h => h.elim) (fun r u t H1 locs1 ht hvm hw hB hz1 hk1 hS2 => ?_)
  have e1 : H1 = H := ht.symm.trans hB
  subst e1
  exact kk r locs1 hw hS2
theorem g_Vr {post : Nat → Prop} (S : CallFix p m c cc nL s args Ts own) (hM : Met l y ws rm (va_Pc (.ref b :: As) (gQ D tys H)) (gRr post H) 0 0 gF) (cw : CallW R s args own C index y bytes maxL ret ws rm 0 0 n) (hK : va_K D vwCl tys s) (hrecv : ∃ cellB : Cell, H[b]? = some cellB ∧ cellB.vm.isStatics = false ∧ s.vm.findClass C = some cellB.cls)
    (hn : As.length = n) (hl : lv_has ls nL lv) (hstack : st0 = As.reverse ++ .ref b :: rest) (hcat : (rest.map fun v => v.category).sum ≤ 8) (hdg : decode cc pc = .ok (.invokevirtual index, 3)) (hf : cells ≤ R.cells ∧ slots ≤ R.slots) (hS : va_S A0 H0 H locs)
    (kk : ∀ (r : Nat) (locs1 : List Loc), post r → va_S A0 H0 H locs1 → W p l e R s m args below meth c H locs1 cells slots Q (F0 m (pc + 3) ls (.ref r :: rest))) : W p l e R s m args below meth c H locs cells slots Q (F0 m pc ls st0) := by
  refine va_callr (va_runV (As := As) (rest := rest) (g := F0 m pc ls st0) S hM cw ⟨g_blind, hrecv, fun U hU hW => ⟨rfl, hU, va_K.moved hW.alike hK⟩⟩ rfl hn hl.1 hstack (lv_room hcat) hdg hf) hS (fun q _ h => h.elim) (fun q h => h.elim) (fun u r t H1 locs1 ht hvm hw hB hz1 hk1 hS2 => ?_)
  have e1 : H1 = H := ht.symm.trans hB.2
  subst e1
  exact kk r locs1 hB.1 hS2
theorem g_Vq {post : Option Nat → Prop} (S : CallFix p m c cc nL s args Ts own) (hM : Met l y ws rm (va_Pc (.ref b :: As) (gQ D tys H)) (gRq post H) 0 0 gF) (cw : CallW R s args own C index y bytes maxL ret ws rm 0 0 n) (hK : va_K D vwCl tys s) (hrecv : ∃ cellB : Cell, H[b]? = some cellB ∧ cellB.vm.isStatics = false ∧ s.vm.findClass C = some cellB.cls)
    (hn : As.length = n) (hl : lv_has ls nL lv) (hstack : st0 = As.reverse ++ .ref b :: rest) (hcat : (rest.map fun v => v.category).sum ≤ 8) (hdg : decode cc pc = .ok (.invokevirtual index, 3)) (hf : cells ≤ R.cells ∧ slots ≤ R.slots) (hS : va_S A0 H0 H locs)
    (kk : ∀ (r : Option Nat) (locs1 : List Loc), post r → va_S A0 H0 H locs1 → W p l e R s m args below meth c H locs1 cells slots Q (F0 m (pc + 3) ls (va_rf r :: rest))) : W p l e R s m args below meth c H locs cells slots Q (F0 m pc ls st0) := by
  refine va_callq (va_runV (As := As) (rest := rest) (g := F0 m pc ls st0) S hM cw ⟨g_blind, hrecv, fun U hU hW => ⟨rfl, hU, va_K.moved hW.alike hK⟩⟩ rfl hn hl.1 hstack (lv_room hcat) hdg hf) hS (fun q _ h => h.elim) (fun q h => h.elim) (fun r u t H1 locs1 ht hvm hw hB hz1 hk1 hS2 => ?_)
  have e1 : H1 = H := ht.symm.trans hB
  subst e1
  exact kk r locs1 hw hS2
theorem g_Si {post : Int32 → Prop} (S : CallFix p m c cc nL s args Ts own) (hM : Met l y ws rm (va_Pc As (gQ D tys H)) (gRi post H) 0 0 gF) (cw : CallB R s args own index y bytes maxL ret ws rm 0 0 n ∧ (Cond.static y).before args s = true) (hK : va_K D vwCl tys s)
    (hn : As.length = n) (hl : lv_has ls nL lv) (hstack : st0 = As.reverse ++ rest) (hcat : (rest.map fun v => v.category).sum ≤ 8) (hdg : decode cc pc = .ok (.invokestatic index, 3)) (hf : cells ≤ R.cells ∧ slots ≤ R.slots) (hS : va_S A0 H0 H locs)
    (kk : ∀ (r : Int32) (locs1 : List Loc), post r → va_S A0 H0 H locs1 → W p l e R s m args below meth c H locs1 cells slots Q (F0 m (pc + 3) ls (.int r :: rest))) : W p l e R s m args below meth c H locs cells slots Q (F0 m pc ls st0) := by
  refine va_calli (va_runS (As := As) (rest := rest) (g := F0 m pc ls st0) S hM cw ⟨g_blind, fun U hU hW => ⟨rfl, hU, va_K.moved hW.alike hK⟩⟩ rfl hn hl.1 hstack (lv_room hcat) hdg hf) hS (fun q _ h => h.elim) (fun q h => h.elim) (fun r u t H1 locs1 ht hvm hw hB hz1 hk1 hS2 => ?_)
  have e1 : H1 = H := ht.symm.trans hB
  subst e1
  exact kk r locs1 hw hS2
/-- calls of writing methods: what their end says of the heap -/
theorem g_wVi {SS : Type} {post : Int32 → SS → Prop} {B : SS → Heap → Prop} {mc ms : Nat} (S : CallFix p m c cc nL s args Ts own) (hM : Met l y ws rm (va_Pc (.ref b :: As) (gQ D tys H)) (va_Qi post (fun u t => B u t.heap) A0) mc ms A0) (cw : CallW R s args own C index y bytes maxL ret ws rm mc ms n) (hK : va_K D vwCl tys s) (hrecv : ∃ cellB : Cell, H[b]? = some cellB ∧ cellB.vm.isStatics = false ∧ s.vm.findClass C = some cellB.cls)
    (hn : As.length = n) (hl : lv_has ls nL lv) (hstack : st0 = As.reverse ++ .ref b :: rest) (hcat : (rest.map fun v => v.category).sum ≤ 8) (hdg : decode cc pc = .ok (.invokevirtual index, 3)) (hf : cells + mc ≤ R.cells ∧ slots + ms ≤ R.slots) (hS : va_S A0 H0 H locs)
    (kk : ∀ (r : Int32) (u : SS) (H1 : Heap) (locs1 : List Loc), post r u → B u H1 → H.size ≤ H1.size → va_S A0 H0 H1 locs1 → W p l e R s m args below meth c H1 locs1 (cells + mc) (slots + ms) Q (F0 m (pc + 3) ls (.int r :: rest))) : W p l e R s m args below meth c H locs cells slots Q (F0 m pc ls st0) := by
  refine va_calli (va_runV (As := As) (rest := rest) (g := F0 m pc ls st0) S hM cw ⟨g_blind, hrecv, fun U hU hW => ⟨rfl, hU, va_K.moved hW.alike hK⟩⟩ rfl hn hl.1 hstack (lv_room hcat) hdg hf) hS (fun q _ h => h) (fun q h => h) (fun r u t H1 locs1 ht hvm hw hB hz1 hk1 hS2 => ?_)
  exact kk r u H1 locs1 hw (by rw [← ht]; exact hB) hz1 hS2
theorem g_wVl {SS : Type} {post : Int64 → SS → Prop} {B : SS → Heap → Prop} {mc ms : Nat} (S : CallFix p m c cc nL s args Ts own) (hM : Met l y ws rm (va_Pc (.ref b :: As) (gQ D tys H)) (va_Ql post (fun u t => B u t.heap) A0) mc ms A0) (cw : CallW R s args own C index y bytes maxL ret ws rm mc ms n) (hK : va_K D vwCl tys s) (hrecv : ∃ cellB : Cell, H[b]? = some cellB ∧ cellB.vm.isStatics = false ∧ s.vm.findClass C = some cellB.cls)
    (hn : As.length = n) (hl : lv_has ls nL lv) (hstack : st0 = As.reverse ++ .ref b :: rest) (hcat : (rest.map fun v => v.category).sum ≤ 8) (hdg : decode cc pc = .ok (.invokevirtual index, 3)) (hf : cells + mc ≤ R.cells ∧ slots + ms ≤ R.slots) (hS : va_S A0 H0 H locs)
    (kk : ∀ (r : Int64) (u : SS) (H1 : Heap) (locs1 : List Loc), post r u → B u H1 → H.size ≤ H1.size → va_S A0 H0 H1 locs1 → W p l e R s m args below meth c H1 locs1 (cells + mc) (slots + ms) Q (F0 m (pc + 3) ls (.long r :: rest))) : W p l e R s m args below meth c H locs cells slots Q (F0 m pc ls st0) := by
  refine va_calll (va_runV (As := As) (rest := rest) (g := F0 m pc ls st0) S hM cw ⟨g_blind, hrecv, fun U hU hW => ⟨rfl, hU, va_K.moved hW.alike hK⟩⟩ rfl hn hl.1 hstack (lv_room hcat) hdg hf) hS (fun q _ h => h) (fun q h => h) (fun r u t H1 locs1 ht hvm hw hB hz1 hk1 hS2 => ?_)
  exact kk r u H1 locs1 hw (by rw [← ht]; exact hB) hz1 hS2
theorem g_wVd {SS : Type} {post : UInt64 → SS → Prop} {B : SS → Heap → Prop} {mc ms : Nat} (S : CallFix p m c cc nL s args Ts own) (hM : Met l y ws rm (va_Pc (.ref b :: As) (gQ D tys H)) (va_Qd post (fun u t => B u t.heap) A0) mc ms A0) (cw : CallW R s args own C index y bytes maxL ret ws rm mc ms n) (hK : va_K D vwCl tys s) (hrecv : ∃ cellB : Cell, H[b]? = some cellB ∧ cellB.vm.isStatics = false ∧ s.vm.findClass C = some cellB.cls)
    (hn : As.length = n) (hl : lv_has ls nL lv) (hstack : st0 = As.reverse ++ .ref b :: rest) (hcat : (rest.map fun v => v.category).sum ≤ 8) (hdg : decode cc pc = .ok (.invokevirtual index, 3)) (hf : cells + mc ≤ R.cells ∧ slots + ms ≤ R.slots) (hS : va_S A0 H0 H locs)
    (kk : ∀ (r : UInt64) (u : SS) (H1 : Heap) (locs1 : List Loc), post r u → B u H1 → H.size ≤ H1.size → va_S A0 H0 H1 locs1 → W p l e R s m args below meth c H1 locs1 (cells + mc) (slots + ms) Q (F0 m (pc + 3) ls (.double r :: rest))) : W p l e R s m args below meth c H locs cells slots Q (F0 m pc ls st0) := by
  refine va_calld (va_runV (As := As) (rest := rest) (g := F0 m pc ls st0) S hM cw ⟨g_blind, hrecv, fun U hU hW => ⟨rfl, hU, va_K.moved hW.alike hK⟩⟩ rfl hn hl.1 hstack (lv_room hcat) hdg hf) hS (fun q _ h => h) (fun q h => h) (fun r u t H1 locs1 ht hvm hw hB hz1 hk1 hS2 => ?_)
  exact kk r u H1 locs1 hw (by rw [← ht]; exact hB) hz1 hS2
theorem g_wVv {SS : Type} {post : SS → Prop} {B : SS → Heap → Prop} {mc ms : Nat} (S : CallFix p m c cc nL s args Ts own) (hM : Met l y ws rm (va_Pc (.ref b :: As) (gQ D tys H)) (va_Qv post (fun u t => B u t.heap) A0) mc ms A0) (cw : CallW R s args own C index y bytes maxL ret ws rm mc ms n) (hK : va_K D vwCl tys s) (hrecv : ∃ cellB : Cell, H[b]? = some cellB ∧ cellB.vm.isStatics = false ∧ s.vm.findClass C = some cellB.cls)
    (hn : As.length = n) (hl : lv_has ls nL lv) (hstack : st0 = As.reverse ++ .ref b :: rest) (hcat : (rest.map fun v => v.category).sum ≤ 8) (hdg : decode cc pc = .ok (.invokevirtual index, 3)) (hf : cells + mc ≤ R.cells ∧ slots + ms ≤ R.slots) (hS : va_S A0 H0 H locs)
    (kk : ∀ (u : SS) (H1 : Heap) (locs1 : List Loc), post u → B u H1 → H.size ≤ H1.size → va_S A0 H0 H1 locs1 → W p l e R s m args below meth c H1 locs1 (cells + mc) (slots + ms) Q (F0 m (pc + 3) ls rest)) : W p l e R s m args below meth c H locs cells slots Q (F0 m pc ls st0) := by
  refine va_callv (va_runV (As := As) (rest := rest) (g := F0 m pc ls st0) S hM cw ⟨g_blind, hrecv, fun U hU hW => ⟨rfl, hU, va_K.moved hW.alike hK⟩⟩ rfl hn hl.1 hstack (lv_room hcat) hdg hf) hS (fun q _ h => h) (fun q h => h) (fun u t H1 locs1 ht hvm hw hB hz1 hk1 hS2 => ?_)
  exact kk u H1 locs1 hw (by rw [← ht]; exact hB) hz1 hS2
theorem g_wIv {SS : Type} {post : SS → Prop} {B : SS → Heap → Prop} {mc ms : Nat} (S : CallFix p m c cc nL s args Ts own) (hM : Met l y ws rm (va_Pc (.ref b :: As) (gQ D tys H)) (va_Qv post (fun u t => B u t.heap) A0) mc ms A0) (cw : CallB R s args own index y bytes maxL none ws rm mc ms n ∧ y.name = "<init>" ∧ (Cond.instanceMethod y).before args s = true) (hK : va_K D vwCl tys s)
    (hn : As.length = n) (hl : lv_has ls nL lv) (hstack : st0 = As.reverse ++ .ref b :: rest) (hcat : (rest.map fun v => v.category).sum ≤ 8) (hdg : decode cc pc = .ok (.invokespecial index, 3)) (hf : cells + mc ≤ R.cells ∧ slots + ms ≤ R.slots) (hS : va_S A0 H0 H locs)
    (kk : ∀ (u : SS) (H1 : Heap) (locs1 : List Loc), post u → B u H1 → H.size ≤ H1.size → va_S A0 H0 H1 locs1 → W p l e R s m args below meth c H1 locs1 (cells + mc) (slots + ms) Q (F0 m (pc + 3) ls rest)) : W p l e R s m args below meth c H locs cells slots Q (F0 m pc ls st0) := by
  refine va_callv (va_runI (As := As) (rest := rest) (g := F0 m pc ls st0) S hM cw ⟨g_blind, fun U hU hW => ⟨rfl, hU, va_K.moved hW.alike hK⟩⟩ rfl hn hl.1 hstack (lv_room hcat) hdg hf) hS (fun q _ h => h) (fun q h => h) (fun u t H1 locs1 ht hvm hw hB hz1 hk1 hS2 => ?_)
  exact kk u H1 locs1 hw (by rw [← ht]; exact hB) hz1 hS2
/-- loops that count up, n rounds: the heap stays -/
theorem g_loop {pc0 : Nat} {st : List Value} (n0 : Nat) (I : Nat → Array Slot → Prop) (h0 : I 0 ls) (hS : va_S A0 H0 H locs)
    (hx : ∀ (ls : Array Slot) (locs : List Loc), I n0 ls → va_S A0 H0 H locs → W p l e R s m args below meth c H locs cells slots Q (F0 m pc0 ls st))
    (hs : ∀ (j : Nat) (ls : Array Slot) (locs : List Loc), j < n0 → I j ls → va_S A0 H0 H locs → (∀ (ls' : Array Slot) (locs' : List Loc), I (j + 1) ls' → va_S A0 H0 H locs' → W p l e R s m args below meth c H locs' cells slots Q (F0 m pc0 ls' st)) → W p l e R s m args below meth c H locs cells slots Q (F0 m pc0 ls st)) :
    W p l e R s m args below meth c H locs cells slots Q (F0 m pc0 ls st) := by
  have key : ∀ (d j : Nat), j + d = n0 → ∀ (ls : Array Slot) (locs : List Loc), I j ls → va_S A0 H0 H locs → W p l e R s m args below meth c H locs cells slots Q (F0 m pc0 ls st) := by
    intro d
    induction d with
    | zero =>
      intro j hj ls locs h1 h2
      cases hj
      exact hx ls locs h1 h2
    | succ d ih =>
      intro j hj ls locs h1 h2
      exact hs j ls locs (by omega) h1 h2 (fun ls' locs' h3 h4 => ih (j + 1) (by omega) ls' locs' h3 h4)
  exact key n0 0 (Nat.zero_add _) ls locs h0 hS
/-- .. that write, and may make cells -/
theorem g_loopH {pc0 : Nat} {st : List Value} (n0 mc ms : Nat) (I : Nat → Array Slot → Heap → Prop) (h0 : I 0 ls H) (hS : va_S A0 H0 H locs)
    (hx : ∀ (ls : Array Slot) (H : Heap) (locs : List Loc), I n0 ls H → va_S A0 H0 H locs → W p l e R s m args below meth c H locs (cells + n0 * mc) (slots + n0 * ms) Q (F0 m pc0 ls st))
    (hs : ∀ (j : Nat) (ls : Array Slot) (H : Heap) (locs : List Loc), j < n0 → I j ls H → va_S A0 H0 H locs → (∀ (ls' : Array Slot) (H' : Heap) (locs' : List Loc), I (j + 1) ls' H' → va_S A0 H0 H' locs' → W p l e R s m args below meth c H' locs' (cells + (j + 1) * mc) (slots + (j + 1) * ms) Q (F0 m pc0 ls' st)) → W p l e R s m args below meth c H locs (cells + j * mc) (slots + j * ms) Q (F0 m pc0 ls st)) :
    W p l e R s m args below meth c H locs cells slots Q (F0 m pc0 ls st) := by
  have key : ∀ (d j : Nat), j + d = n0 → ∀ (ls : Array Slot) (H : Heap) (locs : List Loc), I j ls H → va_S A0 H0 H locs → W p l e R s m args below meth c H locs (cells + j * mc) (slots + j * ms) Q (F0 m pc0 ls st) := by
    intro d
    induction d with
    | zero =>
      intro j hj ls H locs h1 h2
      cases hj
      exact hx ls H locs h1 h2
    | succ d ih =>
      intro j hj ls H locs h1 h2
      exact hs j ls H locs (by omega) h1 h2 (fun ls' H' locs' h3 h4 => ih (j + 1) (by omega) ls' H' locs' h3 h4)
  have h := key n0 0 (Nat.zero_add _) ls H locs h0 hS
  rw [Nat.zero_mul, Nat.zero_mul] at h
  exact h
/-- where ways meet -/
theorem g_cut {pc0 : Nat} (I : Array Slot → List Value → List Loc → Prop) {g : JFrame} (k : ∀ (ls : Array Slot) (st : List Value) (locs : List Loc), I ls st locs → W p l e R s m args below meth c H locs cells slots Q (F0 m pc0 ls st))
    (h : (∀ (ls : Array Slot) (st : List Value) (locs : List Loc), I ls st locs → W p l e R s m args below meth c H locs cells slots Q (F0 m pc0 ls st)) → W p l e R s m args below meth c H locs cells slots Q g) : W p l e R s m args below meth c H locs cells slots Q g := h k
end GCa
/-- f over the numbers below n, from a -/
def gIt {α : Type} (f : Nat → α → α) (a : α) : Nat → α
  | 0 => a
  | n + 1 => f n (gIt f a n)
theorem gIt_s {α : Type} (f : Nat → α → α) (a : α) (n : Nat) : gIt f a (n + 1) = f n (gIt f a n) := rfl
theorem gIt_0 {α : Type} (f : Nat → α → α) (a : α) : gIt f a 0 = a := rfl
def b2i (P : Prop) [Decidable P] : Int32 := if P then 1 else 0
theorem b2i_t {P : Prop} {d : Decidable P} (h : P) : b2i P = 1 := if_pos h
theorem b2i_f {P : Prop} {d : Decidable P} (h : ¬ P) : b2i P = 0 := if_neg h
theorem b2i_0 {P : Prop} {d : Decidable P} : b2i P = 0 ↔ ¬ P := by
  by_cases h : P
  · rw [b2i_t h]; exact ⟨fun z => absurd z (by decide), fun z => absurd h z⟩
  · rw [b2i_f h]; exact ⟨fun _ => h, fun _ => rfl⟩
theorem b2i_n {P : Prop} {d : Decidable P} : ¬ b2i P = 0 ↔ P := by
  by_cases h : P
  · rw [b2i_t h]; exact ⟨fun _ => h, fun _ => by decide⟩
  · rw [b2i_f h]; exact ⟨fun z => absurd rfl z, fun z => absurd z h⟩
theorem b2i_01 {P : Prop} {d : Decidable P} : b2i P = 0 ∨ b2i P = 1 := by
  by_cases h : P
  · exact Or.inr (b2i_t h)
  · exact Or.inl (b2i_f h)
/-- a search: from place j on, d rounds at most; -1 if nothing is found -/
def gEx {α : Type} (f : Nat → α → α × Option Int32) : Nat → Nat → α → Int32
  | 0, _, _ => -1
  | d + 1, j, a => match f j a with
    | (a', none) => gEx f d (j + 1) a'
    | (_, some r) => r
theorem gEx_b {α : Type} {f : Nat → α → α × Option Int32} {n j : Nat} {a a' : α} (hj : j < n) (h : f j a = (a', none)) : gEx f (n - j) j a = gEx f (n - (j + 1)) (j + 1) a' := by
  rw [show n - j = (n - (j + 1)) + 1 by omega, gEx, h]
theorem gEx_r {α : Type} {f : Nat → α → α × Option Int32} {n j : Nat} {a a' : α} {r : Int32} (hj : j < n) (h : f j a = (a', some r)) : gEx f (n - j) j a = r := by
  rw [show n - j = (n - (j + 1)) + 1 by omega, gEx, h]
theorem g_gt {j : Nat} {x : Int32} {n : Nat} (h : x = nI n) (hj : j < n) (hn : n < 2 ^ 31) : ¬ x < nI (j + 1) := by
  rw [h]
  exact nI_nlt (by omega) (by omega)
theorem g_gtx {x : Int32} {n : Nat} (h : x = nI n) (hn : n + 1 < 2 ^ 31) : x < nI (n + 1) := by
  rw [h]
  exact nI_lt (by omega) (by omega)
