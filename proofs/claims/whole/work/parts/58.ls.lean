/-! THE LAW: rows, what stands from its entry on -/
section GZs
variable {p : Program} {l : Launch} {e : Env} {R : Room} {s : State} {m : MethodId} {args : Array Value} {below : List Frame} {meth : Method} {c : Code} {H : Heap} {locs : List Loc} {cells slots : Nat} {Q : State → Prop}
variable {cc bytes : ByteArray} {pc n nL maxL index : Nat} {ls : Array Slot} {lv : List (Nat × Value)} {rest st0 As : List Value} {D : va_G} {A0 : Nat → Prop} {H0 : Heap} {Ts ws : List Cond} {rm : Room} {own C : String} {y : MethodName} {b : Nat} {ret : Option FieldType}
theorem g_ZSi {SS : Type} {post : Int32 → SS → Prop} {B : SS → Heap → Prop} {mc ms mi : Nat} {G : gG} {hhx : List (Nat × Nat × Nat × Nat)} (S : CallFix p m c cc nL s args Ts own) (hM : Met l y ws rm (va_Pc As (gQZ D G H mi A0)) (va_Qi post (fun u t => B u t.heap) A0) mc ms A0) (cw : vx_CSW R s args own index y bytes maxL ret hhx ws rm mc ms n) (hK : va_K D vwCl (gTs G) s) (hE : gXe A0 s) (hL : gLe mi G.2.2.2 A0 s) (hNe : va_Nw (.methodLinkNest RX4 90 yX0_init "StoryToll") s) (hNc : gNc s) (hh : s.heap = H0)
    (hn : As.length = n) (hl : lv_has ls nL lv) (hstack : st0 = As.reverse ++ rest) (hcat : (rest.map fun v => v.category).sum ≤ 8) (hdg : decode cc pc = .ok (.invokestatic index, 3)) (hf : cells + mc ≤ R.cells ∧ slots + ms ≤ R.slots) (hS : va_S A0 H0 H locs)
    (kk : ∀ (r : Int32) (u : SS) (H1 : Heap) (locs1 : List Loc), post r u → B u H1 → H.size ≤ H1.size → va_S A0 H0 H1 locs1 → W p l e R s m args below meth c H1 locs1 (cells + mc) (slots + ms) Q (F0 m (pc + 3) ls (.int r :: rest))) : W p l e R s m args below meth c H locs cells slots Q (F0 m pc ls st0) := by
  subst hh
  refine va_calli (vx_runSW (As := As) (rest := rest) (g := F0 m pc ls st0) S hM cw ⟨g_Zblind, fun U hU hW => ⟨rfl, hU, va_K.moved hW.alike hK, hE.moved hW (fun q h1 h2 => by rw [hU]; exact hS.2.1 q h1 h2), hL.moved hW (fun q h1 h2 => by rw [hU]; exact hS.2.1 q h1 h2), va_Nw.warmM hW hNe, hNc.moved hW.alike⟩⟩ rfl hn hl.1 hstack (lv_room hcat) hdg hf) hS (fun q _ h => h) (fun q h => h) (fun r u t H1 locs1 ht hvm hw hB hz1 hk1 hS2 => ?_)
  exact kk r u H1 locs1 hw (by rw [← ht]; exact hB) hz1 hS2
theorem g_lald {A : Nat → Prop} {ad : gAd} {ct : gC} {tys : List (ClassId × FieldType)} {b i : Nat} (hexec : p.tables.exec = Jvm.exec) (hb : c.code = cc) (hK : va_K D vwCl tys s) (hW : gW D A ad ct H) (t0 : Nat) {cA : ClassId} {n : Nat} {f : Nat → Int64} (ha : ct b i = some (.inl (cA, n, .inr (.inl f)))) (ht : tys[t0]? = some (cA, .long)) {x : Int32} (hin : vp_in x n) (hdg : decode cc pc = .ok (.laload, 1))
    (kk : W p l e R s m args below meth c H locs cells slots Q (F0 m (pc + 1) ls (.long (f x.toNatClampNeg) :: rest))) : W p l e R s m args below meth c H locs cells slots Q (F0 m pc ls (.int x :: .ref (ad b i) :: rest)) :=
  va_lald hexec hb hK (hW.p ha) 0 t0 rfl ht hin hdg kk
end GZs
theorem st_W {cs : List (String × Int32)} {f : Int32 ⊕ String} {r k9 : Int32} {D : va_G} {A : Nat → Prop} {u : gAd} {G : gG} {k : Nat} {N n2 : gN} {C s2 M M2 : gT} {o : Nat → Int64} {H : Heap} {val : Int32 → Int64} (hd : ∀ q ∈ cs, cdF cs q.1 = q.2 ∧ ¬ q.2 = 0) (hf : okW cs f k9) (hq : okR cs f r (M2 0 0)) (hW : gW D A u (oW f (fun a => Wd G u n2 s2 M (oL o (val a))) (Wd G u N C M o)) H) (hR : Rel k n2 s2 M2) (he : ∀ E : String, f = .inr E → n2 = N ∧ s2 = C) :
    ∃ (N1 : gN) (C1 : gT) (o1 : Nat → Int64), gW D A u (Wd G u N1 C1 M o1) H ∧ Rel k N1 C1 M2 ∧ M2 0 0 = k9 ∧ (k9 = 0 → o1 0 = val r) := by
  obtain ⟨h1, h2⟩ := okR_W hd hf hq
  cases f with
  | inl y =>
    have hy : y = r := hq.1
    subst hy
    exact ⟨n2, s2, oL o (val y), hW, hR, h1, fun _ => if_pos rfl⟩
  | inr E =>
    obtain ⟨e1, e2⟩ := he E rfl
    subst e1
    subst e2
    exact ⟨n2, s2, o, hW, hR, h1, fun z => absurd (h2 z) (by simp)⟩
theorem lg_cmp_self (x : Int64) : lg_cmp x x = 0 := by
  unfold lg_cmp
  rw [if_neg (by simp [Int64.lt_irrefl]), if_pos rfl]
abbrev lwA (s : State) : Nat → Prop := fun q => s.heap.size ≤ q
/-- what stands from the law's entry on -/
def LC (p : Program) (l : Launch) (s : State) (m : MethodId) (meth : Method) (c : Code) (b L : Nat) (xs : Nat → Int32) (D : va_G) (G : gG) (mi : Nat) : Prop :=
  lw_At p s m meth c b L xs ∧ l.stackTraces = false ∧ va_K D vwCl (gTs G) s ∧ gXe (lwA s) s ∧ gLe mi G.2.2.2 (lwA s) s ∧ va_Nw (.methodLinkNest RX4 90 yX0_init "StoryToll") s ∧ gNc s ∧ L ≤ 2048
theorem hd_I : ∀ q ∈ oI, cdF oI q.1 = q.2 ∧ ¬ q.2 = 0 := by decide +kernel
theorem hd_A : ∀ q ∈ oA, cdF oA q.1 = q.2 ∧ ¬ q.2 = 0 := by decide +kernel
theorem hd_S : ∀ q ∈ oS, cdF oS q.1 = q.2 ∧ ¬ q.2 = 0 := by decide +kernel
theorem hd_IS : ∀ q ∈ oIS, cdF oIS q.1 = q.2 ∧ ¬ q.2 = 0 := by decide +kernel
theorem hd_AS : ∀ q ∈ oAS, cdF oAS q.1 = q.2 ∧ ¬ q.2 = 0 := by decide +kernel
theorem hd_IAS : ∀ q ∈ oIAS, cdF oIAS q.1 = q.2 ∧ ¬ q.2 = 0 := by decide +kernel
