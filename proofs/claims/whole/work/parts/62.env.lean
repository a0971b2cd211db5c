/-! THE LAW'S BEGINNING: what the statement gives -/
theorem in_s1 : ∀ t ∈ xtx, Cond.stringRef RX4 t.1 t.2 ∈ lw_tbl := by decide +kernel
theorem in_s2 : ∀ t ∈ xtx, Cond.exactly (.string RX4 t.1) "java/lang/String" ∈ flatC (Jvm.Cond.and given_1 narrow_1) := by decide +kernel
theorem in_c : ∀ w ∈ [Cond.castable RX0 cOb, .castable RX1 cOb, .castable RX2 cOb, .castable RX3 cOb, .castable xI xI, .castable xA xA, .castable xS xS, .declares (Bundle.initS "java/lang/RuntimeException"), .declares (Bundle.initS "java/lang/Exception"), .declares (Bundle.initS Bundle.tN), .declares ⟨"java/lang/Object", "getClass", "()Ljava/lang/Class;"⟩, .arrayOver (.object cOb), .arrayClass .int, .arrayClass .long, .methodLinkNest RX4 90 yX0_init "StoryToll", .laysStatic "java/util/ArrayList" "DEFAULTCAPACITY_EMPTY_ELEMENTDATA" "[Ljava/lang/Object;", .initialized "java/util/ArrayList", .laysStatic Bundle.tN "UNASSIGNED_STACK" Bundle.steD, .laysStatic Bundle.tN "SUPPRESSED_SENTINEL" Bundle.listD, .initialized Bundle.tN, .instantiable RJx4a65c 3, .instantiable RX0 4, .instantiable RX1 6, .instantiable RX2 6, .instantiable RX3 5, .instantiable RX4 9, .instantiable RX5 23, .classLink RL 8 RX4, .initialized RX4, .classLink RL 78 RX5, .initialized RX5, .methodLink RL 77 yX4_init, .instanceMethod yX4_init, .methodLink RL 80 yX5_init, .instanceMethod yX5_init], w ∈ lw_tbl := by decide +kernel
theorem in_n : ∀ w ∈ [Cond.not (.castable xS xA), .not (.castable xA xI), .not (.castable xS xI), .isRef (.static Bundle.tN "UNASSIGNED_STACK" Bundle.steD), .isRef (.static Bundle.tN "SUPPRESSED_SENTINEL" Bundle.listD), .isRef (.mirror "[Ljava/lang/Object;"), .eq (.length (.static "java/util/ArrayList" "DEFAULTCAPACITY_EMPTY_ELEMENTDATA" "[Ljava/lang/Object;")) (.int 0), .arrayOf (.static "java/util/ArrayList" "DEFAULTCAPACITY_EMPTY_ELEMENTDATA" "[Ljava/lang/Object;") (.object "java/lang/Object")], w ∈ flatC (Jvm.Cond.and given_1 narrow_1) := by decide +kernel
theorem law_env {p : Program} {l : Launch} {s : State} {m : MethodId} {meth : Method} {c : Code} {b L : Nat} {xs : Nat → Int32} (hflags : l.flags = flags0) (hL2 : L ≤ 2048) (C0 : lw_At p s m meth c b L xs) : ∃ (D : va_G) (G : gG) (mi : Nat), LC p l s m meth c b L xs D G mi := by
  obtain ⟨hx, hb, hrt, hml, hown, hts, hX, hbl, hlocks, hgv⟩ := id C0
  have hs := flat_of_before _ hgv
  have hA9 : ∀ a : Nat, a < s.heap.size → ¬ lwA s a := fun a h => Nat.not_le.mpr h
  have hl0 : l.stackTraces = false := by
    unfold Launch.stackTraces
    rw [hflags]
    decide +kernel
  obtain ⟨c0, i0, k0⟩ := u_known (C := RJx4a65c) (T := TJx4a65c) (N := 3) (n := 3) hts inJx4a65c (hts _ (in_c _ (List.mem_of_getElem? (i := 20) rfl)))
  obtain ⟨c1, i1, k1⟩ := u_known (C := RX0) (T := TX0) (N := 4) (n := 4) hts inX0 (hts _ (in_c _ (List.mem_of_getElem? (i := 21) rfl)))
  obtain ⟨c2, i2, k2⟩ := u_known (C := RX1) (T := TX1) (N := 6) (n := 6) hts inX1 (hts _ (in_c _ (List.mem_of_getElem? (i := 22) rfl)))
  obtain ⟨c3, i3, k3⟩ := u_known (C := RX2) (T := TX2) (N := 6) (n := 6) hts inX2 (hts _ (in_c _ (List.mem_of_getElem? (i := 23) rfl)))
  obtain ⟨c4, i4, k4⟩ := u_known (C := RX3) (T := TX3) (N := 5) (n := 5) hts inX3 (hts _ (in_c _ (List.mem_of_getElem? (i := 24) rfl)))
  obtain ⟨c5, i5, k5⟩ := u_known (C := RX4) (T := TX4) (N := 9) (n := 9) hts inX4 (hts _ (in_c _ (List.mem_of_getElem? (i := 25) rfl)))
  obtain ⟨c6, i6, k6⟩ := u_known (C := RX5) (T := TX5) (N := 23) (n := 23) hts inX5 (hts _ (in_c _ (List.mem_of_getElem? (i := 26) rfl)))
  obtain ⟨D, hKc⟩ : ∃ D : va_G, ∀ (k : Nat) (q : vw_C), vwCl[k]? = some q → u_Kn s q.1 q.2.1 q.2.2 (D.1 k) (D.2 k) := by
    refine ⟨(fun k => match k with | 0 => c0 | 1 => c1 | 2 => c2 | 3 => c3 | 4 => c4 | 5 => c5 | _ => c6, fun k => match k with | 0 => i0 | 1 => i1 | 2 => i2 | 3 => i3 | 4 => i4 | 5 => i5 | _ => i6), ?_⟩
    intro k q hq
    match k, hq with
    | 0, hq => cases hq; exact k0
    | 1, hq => cases hq; exact k1
    | 2, hq => cases hq; exact k2
    | 3, hq => cases hq; exact k3
    | 4, hq => cases hq; exact k4
    | 5, hq => cases hq; exact k5
    | 6, hq => cases hq; exact k6
    | k + 7, hq => simp [vwCl] at hq
  obtain ⟨cI, kI, pI, hI1, hI2, hI3⟩ := Cond.arrayClass_spec (hts _ (in_c _ (List.mem_of_getElem? (i := 12) rfl)))
  obtain ⟨cL, kL, pL, hL1, hL2', hL3⟩ := Cond.arrayClass_spec (hts _ (in_c _ (List.mem_of_getElem? (i := 13) rfl)))
  obtain ⟨pO, cO, kO, hO1, -, hO3, hO4, hO5⟩ := Cond.arrayOver_spec (hts _ (in_c _ (List.mem_of_getElem? (i := 11) rfl)))
  have hlen := va_eqt (hs _ (in_n _ (List.mem_of_getElem? (i := 6) rfl)))
  obtain ⟨t0, ht0, hT⟩ := va_Tof (A := lwA s) (f := fun _ => .null) (N := 0) (by decide) (hs _ (in_n _ (List.mem_of_getElem? (i := 7) rfl))) hlen (fun j hj => absurd hj (Nat.not_lt_zero _)) hA9
  have hZ := va_Zof (A := lwA s) (hts _ (in_c _ (List.mem_of_getElem? (i := 15) rfl))) (hts _ (in_c _ (List.mem_of_getElem? (i := 16) rfl))) ht0 hA9
  obtain ⟨mi, hMi⟩ := va_Mi.of (hs _ (in_n _ (List.mem_of_getElem? (i := 5) rfl)))
  have hK : va_K D vwCl (gTs (cI, cL, cO, t0)) s := by
    refine ⟨hKc, fun k q hq => ?_⟩
    match k, hq with
    | 0, hq => cases hq; exact ⟨fun n z => ⟨fun k h => (by cases h), kI, hI2, pI, hI3⟩, hI1⟩
    | 1, hq => cases hq; exact ⟨fun n z => ⟨fun k h => (by cases h), kL, hL2', pL, hL3⟩, hL1⟩
    | 2, hq => cases hq; exact ⟨fun n z => ⟨fun k h => (by cases h), kO, hO3, pO, hO4⟩, kO, pO, hO3, hO4, hO1, hO5⟩
    | k + 3, hq => simp at hq
  refine ⟨D, (cI, cL, cO, t0), mi, C0, hl0, hK, ⟨⟨va_Nw.of rfl (hts _ (in_c _ (List.mem_of_getElem? (i := 4) rfl))), va_Nw.of rfl (hts _ (in_c _ (List.mem_of_getElem? (i := 5) rfl))), va_Nw.of rfl (hts _ (in_c _ (List.mem_of_getElem? (i := 6) rfl))), va_Nw.of rfl (hts _ (in_c _ (List.mem_of_getElem? (i := 7) rfl))), va_Nw.of rfl (hts _ (in_c _ (List.mem_of_getElem? (i := 8) rfl))), va_Nw.of rfl (hts _ (in_c _ (List.mem_of_getElem? (i := 9) rfl)))⟩, fun t ht => ?_, ?_, ?_⟩, ⟨hMi, ?_, ?_, hZ, hT, va_Nw.of rfl (hts _ (in_c _ (List.mem_of_getElem? (i := 0) rfl))), va_Nw.of rfl (hts _ (in_c _ (List.mem_of_getElem? (i := 1) rfl))), va_Nw.of rfl (hts _ (in_c _ (List.mem_of_getElem? (i := 2) rfl))), va_Nw.of rfl (hts _ (in_c _ (List.mem_of_getElem? (i := 3) rfl)))⟩, va_Nw.of rfl (hts _ (in_c _ (List.mem_of_getElem? (i := 14) rfl))), ⟨va_Nc.of (hs _ (in_n _ (List.mem_of_getElem? (i := 0) rfl))), va_Nc.of (hs _ (in_n _ (List.mem_of_getElem? (i := 1) rfl))), va_Nc.of (hs _ (in_n _ (List.mem_of_getElem? (i := 2) rfl)))⟩, hL2⟩
  · obtain ⟨a, c9, cell, k9, h1, -⟩ := Cond.exactly_spec (hs _ (in_s2 t ht))
    exact ⟨a, vk_R.of (hts _ (in_s1 t ht)) h1⟩
  · exact vx_Zqof (hts _ (in_c _ (List.mem_of_getElem? (i := 17) rfl))) (hts _ (in_c _ (List.mem_of_getElem? (i := 19) rfl))) (hs _ (in_n _ (List.mem_of_getElem? (i := 3) rfl))) hA9
  · exact vx_Zqof (hts _ (in_c _ (List.mem_of_getElem? (i := 18) rfl))) (hts _ (in_c _ (List.mem_of_getElem? (i := 19) rfl))) (hs _ (in_n _ (List.mem_of_getElem? (i := 4) rfl))) hA9
  · exact va_Dc.of (hts _ (in_c _ (List.mem_of_getElem? (i := 10) rfl)))
  · exact va_AO.of (hts _ (in_c _ (List.mem_of_getElem? (i := 11) rfl)))
