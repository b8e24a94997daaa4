/-! the relation at the start -/
theorem m_RG0 : RG 0 z_X0 z_m0 := by
  refine ⟨⟨0, by decide, rfl, rfl, fun i hi => absurd hi (Nat.not_lt_zero _)⟩, ⟨0, 12, 0, 0, ⟨⟨by decide, by decide, by decide, by decide⟩, ⟨rfl, rfl, rfl, rfl⟩, ⟨rfl, rfl⟩, fun _ => ⟨rfl, rfl⟩, fun _ => rfl, fun i hi => ?_, fun o r ho => absurd ho (Nat.not_lt_zero _), fun o q ho => absurd ho (Nat.not_lt_zero _), fun o _ _ => rfl, fun _ i hi => absurd hi (Nat.not_lt_zero _), fun i hi => absurd hi (Nat.not_lt_zero _), fun i k _ hk => absurd hk (Nat.not_lt_zero _)⟩, by decide⟩, ⟨0, 0, by decide, by decide, rfl, rfl, rfl, fun j hj => absurd hj (Nat.not_lt_zero _)⟩, fun i hi => Or.inl ⟨rfl, rfl⟩⟩
  have hc : i = 0 ∨ i = 1 ∨ i = 2 ∨ i = 3 := by omega
  rcases hc with e | e | e | e <;> subst e <;> exact ⟨fun _ => rfl, fun _ => rfl⟩
