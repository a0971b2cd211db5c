/-! A CELL'S CODE CHANGES -/
theorem gW.move {D : va_G} {A : Nat → Prop} {ad ad' : gAd} {ct ct' : gC} {H : Heap} {b i b2 i2 : Nat} (h : gW D A ad ct H) (hne : ¬ (b = b2 ∧ i = i2)) (ha : ad' b2 i2 = ad b i) (hc : ct' b2 i2 = ct b i) (h0 : ct' b i = none) (ho : ∀ b' i', ¬ (b' = b2 ∧ i' = i2) → ¬ (b' = b ∧ i' = i) → ct' b' i' = ct b' i' ∧ ad' b' i' = ad b' i') : gW D A ad' ct' H := by
  have key : ∀ b' i' e, ct' b' i' = some e → ∃ x y, ct x y = some e ∧ ad' b' i' = ad x y ∧ ((b' = b2 ∧ i' = i2 ∧ x = b ∧ y = i) ∨ (¬ (b' = b2 ∧ i' = i2) ∧ ¬ (b' = b ∧ i' = i) ∧ x = b' ∧ y = i')) := by
    intro b' i' e h1
    by_cases k2 : b' = b2 ∧ i' = i2
    · obtain ⟨rfl, rfl⟩ := k2
      exact ⟨b, i, by rw [← hc]; exact h1, ha, Or.inl ⟨rfl, rfl, rfl, rfl⟩⟩
    · by_cases k1 : b' = b ∧ i' = i
      · obtain ⟨rfl, rfl⟩ := k1
        rw [h0] at h1
        cases h1
      · obtain ⟨o1, o2⟩ := ho b' i' k2 k1
        exact ⟨b', i', by rw [← o1]; exact h1, o2, Or.inr ⟨k2, k1, rfl, rfl⟩⟩
  refine ⟨fun b' i' e h1 => ?_, fun p1 q1 p2 q2 h1 h2 h3 => ?_⟩
  · obtain ⟨x, y, hx, ha', -⟩ := key b' i' e h1
    rw [ha']
    exact h.1 x y e hx
  · cases e1 : ct' p1 q1 with
    | none => exact absurd e1 h1
    | some v1 =>
      cases e2 : ct' p2 q2 with
      | none => exact absurd e2 h2
      | some v2 =>
        obtain ⟨x1, y1, hx1, ha1, c1⟩ := key p1 q1 v1 e1
        obtain ⟨x2, y2, hx2, ha2, c2⟩ := key p2 q2 v2 e2
        obtain ⟨r1, r2⟩ := h.2 x1 y1 x2 y2 (g_some hx1) (g_some hx2) (by rw [← ha1, ← ha2]; exact h3)
        rcases c1 with ⟨rfl, rfl, rfl, rfl⟩ | ⟨n1, m1, rfl, rfl⟩ <;> rcases c2 with ⟨rfl, rfl, rfl, rfl⟩ | ⟨n2, m2, rfl, rfl⟩
        · exact ⟨rfl, rfl⟩
        · exact absurd ⟨r1.symm, r2.symm⟩ m2
        · exact absurd ⟨r1, r2⟩ m1
        · exact ⟨r1, r2⟩
