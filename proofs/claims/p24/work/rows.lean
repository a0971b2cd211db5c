section
/-! p24 AS IT IS PRINTED IS MET BY NO START: its head says that the law's entry method has no exception table; the class file that it names has one, of three rows. What stands here shows that, and nothing about the program. -/
/-- the file's entry method hasn't the code that the head says (no table) .. -/
theorem em_no : classFile.hasCode x code maxLocals ret = false := by decide +kernel
/-- .. it has these bytes with a table of three rows -/
theorem em_with : classFile.hasCodeWith x code maxLocals ret [(251, 387, 513, 59), (388, 475, 513, 59), (476, 509, 513, 59)] = true := by decide +kernel
/-- so no launch lists what the statement asks of one -/
theorem em_none (l : Launch) : ¬ Lists l classFile x code maxLocals ret tables_1 room_1 := by
  intro h
  have hm : (x, code, maxLocals, ret) ∈ (headSpec (Cond.code x code maxLocals ret :: tables_1) room_1).pre.codes ++ (headSpec (Cond.code x code maxLocals ret :: tables_1) room_1).post.codes :=
    List.mem_append_left _ (show (x, code, maxLocals, ret) ∈ [(x, code, maxLocals, ret)] ++ (allAtoms tables_1).codes from List.mem_append_left _ List.mem_cons_self)
  have h1 : ((l.file? x.cls).any fun f => f.hasCode x code maxLocals ret) = true := h.2.2.1.1 (x, code, maxLocals, ret) hm
  rw [h.2.1, Option.any_some, em_no] at h1
  cases h1
/-- the statement, as it is printed: true, and EMPTY (REPORT.md, STATEMENT): it says nothing of the program -/
theorem i_vc : Claimed_1_1 ∧ Claimed_1_2 := ⟨fun l _ h => (em_none l h).elim, fun l _ h => (em_none l h).elim⟩
end
