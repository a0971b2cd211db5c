/-! THE LAW'S WRAPPERS: what is thrown, and that nothing changes then -/
def cdF (cs : List (String × Int32)) (E : String) : Int32 := ((cs.find? (fun q => q.1 == E)).map (fun q => q.2)).getD 0
abbrev okW (cs : List (String × Int32)) (f : Int32 ⊕ String) (r : Int32) : Prop := match f with
  | .inl _ => r = 0
  | .inr E => r = cdF cs E
def oW (f : Int32 ⊕ String) (W1 : Int32 → gC) (W0 : gC) : gC := match f with
  | .inl x => W1 x
  | .inr _ => W0
theorem er_make {C : gT} {N : gN} {v : Int32} {w : Int32} {x : Int32} {E : String} : f_X4_make C N v w x = .inr E → (n_X4_make C N v w x = N ∧ s_X4_make C N v w x = C) ∧ (E = xA ∨ E = xS) := by
  unfold f_X4_make s_X4_make n_X4_make
  repeat' split
  all_goals first | (intro h; cases h; exact ⟨⟨rfl, rfl⟩, Or.inl rfl⟩) | (intro h; cases h; exact ⟨⟨rfl, rfl⟩, Or.inr (rfl)⟩) | (intro h; cases h)
theorem er_follow {C : gT} {N : gN} {v : Int32} {w : Int32} {E : String} : f_X4_follow C N v w = .inr E → s_X4_follow C N v w = C ∧ (E = xI ∨ E = xA ∨ E = xS) := by
  unfold f_X4_follow s_X4_follow
  repeat' split
  all_goals first | (intro h; cases h; exact ⟨rfl, Or.inl rfl⟩) | (intro h; cases h; exact ⟨rfl, Or.inr (Or.inl rfl)⟩) | (intro h; cases h; exact ⟨rfl, Or.inr (Or.inr (rfl))⟩) | (intro h; cases h)
theorem er_post {C : gT} {N : gN} {E : String} : f_X4_post C N  = .inr E → (n_X4_post C N  = N ∧ s_X4_post C N  = C) ∧ (E = xS) := by
  unfold f_X4_post s_X4_post n_X4_post
  repeat' split
  all_goals first | (intro h; cases h; exact ⟨⟨rfl, rfl⟩, rfl⟩) | (intro h; cases h)
theorem er_come {C : gT} {N : gN} {v : Int32} {E : String} : f_X4_come C N v = .inr E → (n_X4_come C N v = N ∧ s_X4_come C N v = C) ∧ (E = xA ∨ E = xS) := by
  unfold f_X4_come s_X4_come n_X4_come
  repeat' split
  all_goals first | (intro h; cases h; exact ⟨⟨rfl, rfl⟩, Or.inl rfl⟩) | (intro h; cases h; exact ⟨⟨rfl, rfl⟩, Or.inr (rfl)⟩) | (intro h; cases h)
theorem er_tell {C : gT} {N : gN} {v : Int32} {w : Int32} {x : Int32} {E : String} : f_X4_tell C N v w x = .inr E → (n_X4_tell C N v w x = N ∧ s_X4_tell C N v w x = C) ∧ (E = xI ∨ E = xS) := by
  unfold f_X4_tell s_X4_tell n_X4_tell
  repeat' split
  all_goals first | (intro h; cases h; exact ⟨⟨rfl, rfl⟩, Or.inl rfl⟩) | (intro h; cases h; exact ⟨⟨rfl, rfl⟩, Or.inr (rfl)⟩) | (intro h; cases h)
theorem er_reserve {C : gT} {N : gN} {v : Int32} {w : Int32} {E : String} : f_X4_reserve C N v w = .inr E → s_X4_reserve C N v w = C ∧ (E = xI ∨ E = xS) := by
  unfold f_X4_reserve s_X4_reserve
  repeat' split
  all_goals first | (intro h; cases h; exact ⟨rfl, Or.inl rfl⟩) | (intro h; cases h; exact ⟨rfl, Or.inr (rfl)⟩) | (intro h; cases h)
theorem er_pass {C : gT} {N : gN} {v : Int32} {E : String} : f_X4_pass C N v = .inr E → s_X4_pass C N v = C ∧ (E = xI ∨ E = xS) := by
  unfold f_X4_pass s_X4_pass
  repeat' split
  all_goals first | (intro h; cases h; exact ⟨rfl, Or.inl rfl⟩) | (intro h; cases h; exact ⟨rfl, Or.inr (rfl)⟩) | (intro h; cases h)
theorem er_send {C : gT} {N : gN} {v : Int32} {E : String} : f_X4_send C N v = .inr E → s_X4_send C N v = C ∧ (E = xI ∨ E = xS) := by
  unfold f_X4_send s_X4_send
  repeat' split
  all_goals first | (intro h; cases h; exact ⟨rfl, Or.inl rfl⟩) | (intro h; cases h; exact ⟨rfl, Or.inr (rfl)⟩) | (intro h; cases h)
theorem er_watch {C : gT} {N : gN} {v : Int32} {E : String} : f_X4_watch C N v = .inr E → s_X4_watch C N v = C ∧ (E = xA) := by
  unfold f_X4_watch s_X4_watch
  repeat' split
  all_goals first | (intro h; cases h; exact ⟨rfl, rfl⟩) | (intro h; cases h)
theorem er_scene {C : gT} {N : gN} {v : Int32} {w : Int32} {E : String} : f_X4_scene C N v w = .inr E → True ∧ (E = xI) := by
  unfold f_X4_scene
  repeat' split
  all_goals first | (intro h; cases h; exact ⟨trivial, rfl⟩) | (intro h; cases h)
theorem er_guard {C : gT} {N : gN} {v : Int32} {w : Int32} {E : String} : f_X4_guard C N v w = .inr E → True ∧ (E = xI) := by
  unfold f_X4_guard
  repeat' split
  all_goals first | (intro h; cases h; exact ⟨trivial, rfl⟩) | (intro h; cases h)
theorem er_traveller {C : gT} {N : gN} {v : Int32} {w : Int32} {E : String} : f_X4_traveller C N v w = .inr E → True ∧ (E = xI) := by
  unfold f_X4_traveller
  repeat' split
  all_goals first | (intro h; cases h; exact ⟨trivial, rfl⟩) | (intro h; cases h)
theorem er_plot {C : gT} {N : gN} {v : Int32} {w : Int32} {E : String} : f_X4_plot C N v w = .inr E → True ∧ (E = xI) := by
  unfold f_X4_plot
  repeat' split
  all_goals first | (intro h; cases h; exact ⟨trivial, rfl⟩) | (intro h; cases h)
theorem er_told {C : gT} {N : gN} {v : Int32} {w : Int32} {E : String} : f_X4_told C N v w = .inr E → True ∧ (E = xI) := by
  unfold f_X4_told
  repeat' split
  all_goals first | (intro h; cases h; exact ⟨trivial, rfl⟩) | (intro h; cases h)
theorem er_count {C : gT} {N : gN} {v : Int32} {E : String} : f_X4_count C N v = .inr E → True ∧ (E = xI) := by
  unfold f_X4_count
  repeat' split
  all_goals first | (intro h; cases h; exact ⟨trivial, rfl⟩) | (intro h; cases h)
theorem er_worth {C : gT} {N : gN} {v : Int32} {w : Int32} {E : String} : f_X4_worth C N v w = .inr E → True ∧ (E = xI) := by
  unfold f_X4_worth
  repeat' split
  all_goals first | (intro h; cases h; exact ⟨trivial, rfl⟩) | (intro h; cases h)
theorem er_best {C : gT} {N : gN} {v : Int32} {w : Int32} {E : String} : f_X4_best C N v w = .inr E → True ∧ (E = xI) := by
  unfold f_X4_best
  repeat' split
  all_goals first | (intro h; cases h; exact ⟨trivial, rfl⟩) | (intro h; cases h)
theorem er_most {C : gT} {N : gN} {v : Int32} {E : String} : f_X4_most C N v = .inr E → True ∧ (E = xI) := by
  unfold f_X4_most
  repeat' split
  all_goals first | (intro h; cases h; exact ⟨trivial, rfl⟩) | (intro h; cases h)
theorem er_sleeps {C : gT} {N : gN} {v : Int32} {E : String} : f_X4_sleeps C N v = .inr E → True ∧ (E = xI) := by
  unfold f_X4_sleeps
  repeat' split
  all_goals first | (intro h; cases h; exact ⟨trivial, rfl⟩) | (intro h; cases h)
theorem Wd_o {G : gG} {ad : gAd} {N : gN} {C M : gT} {o o' : Nat → Int64} (b i : Nat) (h : ¬ (b = 0 ∧ i = 2)) : Wd G ad N C M o' b i = Wd G ad N C M o b i := by
  match b with
  | 0 =>
    match i, h with
    | 0, _ => rfl
    | 1, _ => rfl
    | 2, h => exact absurd ⟨rfl, rfl⟩ h
    | (n + 3), _ => rfl
  | 1 => rfl
  | 2 => rfl
  | 3 => rfl
  | 4 => rfl
  | 5 => rfl
  | 6 => rfl
  | 7 => rfl
  | 8 => rfl
  | 9 => rfl
  | (n + 10) => rfl
abbrev oL (o : Nat → Int64) (x : Int64) : Nat → Int64 := vp_updL o (0 : Int32).toNatClampNeg x
theorem okR_W {cs : List (String × Int32)} {f : Int32 ⊕ String} {k r th : Int32} (hd : ∀ q ∈ cs, cdF cs q.1 = q.2 ∧ ¬ q.2 = 0) (h1 : okW cs f k) (h2 : okR cs f r th) : th = k ∧ (k = 0 → f = .inl r) := by
  cases f with
  | inl y =>
    obtain ⟨a1, a2⟩ : y = r ∧ th = 0 := h2
    have h1 : k = 0 := h1
    exact ⟨by rw [a2, h1], fun _ => by rw [a1]⟩
  | inr E =>
    have h1 : k = cdF cs E := h1
    have h2 : (E, th) ∈ cs := h2
    obtain ⟨d1, d2⟩ := hd _ h2
    refine ⟨by rw [h1]; exact d1.symm, fun z => absurd ?_ d2⟩
    exact d1.symm.trans (h1.symm.trans z)
