/-! append, clearText -/
section MR24
variable {N B : Nat} {X : z_X} {m : z_R}
theorem c_append (h : RG B X m) (x : Int32) : ∃ o X' b m', fX4_append N x X = some (o, X') ∧ fX5_append N x m = some (b, m') ∧ RG (B + 5000) X' m' ∧ ((o = .inl b ∧ m' 0 0 = 0) ∨ (o = .inr 1 ∧ m' 0 0 = 1) ∨ (o = .inr 2 ∧ m' 0 0 = 2)) := by
  obtain ⟨⟨len, t1, t2, t3, t4⟩, hn, hme, hsl⟩ := id h
  unfold fX4_append fX5_append
  rw [m_within]
  rcases m_rg (lo := 0) (hi := 255) (by decide) (by decide) x with hx | ⟨k, h1, h9, rfl⟩
  · have hx : x < 0 ∨ 255 < x := hx
    refine ⟨.inr 1, X, 0, z_u2 m 0 0 1, ?_, ?_, (h.kd 1).mono (by omega), Or.inr (Or.inl ⟨rfl, m_kd m 1⟩)⟩
    · by_cases c : x < 0
      · rw [if_pos c]
      · rw [if_neg c, if_neg (fun q => by
          have h2 := hx.resolve_left c
          rw [Int32.lt_iff_toInt_lt] at h2
          rw [Int32.le_iff_toInt_le] at q
          omega)]
    · rw [if_pos hx, m_bind, if_pos m_00, m_lt, m_kd, if_neg m_n1]
  · have b1 : ¬ nI k < (0 : Int32) := m_neg (by omega)
    have b2 : nI k ≤ (255 : Int32) := nI_le (b := 255) h9 (by decide)
    have b3 : ¬ (255 : Int32) < nI k := nI_nlt (b := k) (a := 255) h9 (by decide)
    rw [if_neg b1, if_pos b2, if_neg (fun q => q.elim b1 b3), m_bind, if_neg m_1_0, t3]
    unfold fX3_isFull
    rw [t2]
    by_cases c : len = 160
    · subst c
      refine ⟨.inr 2, X, 0, z_u2 m 0 0 2, ?_, ?_, (h.kd 2).mono (by omega), Or.inr (Or.inr ⟨rfl, m_kd m 2⟩)⟩
      · rw [if_neg (by decide), m_bind, if_neg m_1_0]
      · rw [if_pos (by decide), m_lt, m_kd, if_neg m_n2]
    · have hl : len < 160 := by omega
      have e1 : z_u2 m 0 0 0 0 2 = nI len := by rw [m_u2s, m_un _ _ (by decide)]; exact t3
      refine ⟨.inl (nI (len + 1)), (z_u2 (z_u2 X.1 1 len (nI k)) 0 0 (nI (len + 1)), X.2.1, X.2.2), nI (len + 1), z_u2 (z_u2 (z_u2 m 0 0 0) 8 len (nI k)) 0 2 (nI (len + 1)), ?_, ?_, ?_, Or.inl ⟨rfl, by rw [m_u2s, m_un _ _ (by decide), m_u2n _ _ _ (by decide : (0 : Nat) ≠ 8), m_kd]⟩⟩
      · rw [if_pos (show nI len < (160 : Int32) from nI_lt (b := 160) hl (by decide)), m_bind, if_pos m_00]
        unfold fX3_add
        rw [t2, if_neg (m_neg (by omega)), if_neg (show ¬ (160 : Int32) ≤ nI len from nI_ge (b := 160) hl (by decide)), m_in hl (by decide), m_ckt, m_clamp (by omega), m_lt, m_u2n _ _ _ (by decide : (0 : Nat) ≠ 1), t2, nI_1, m_lt, m_u2s, m_us, m_b2, m_lt]
      · rw [if_neg (show ¬ nI len = (160 : Int32) from fun q => c (m_nI_inj (a := len) (b := 160) (by omega) (by decide) q)), m_lt, m_kd, if_pos m_z0, e1, m_in hl (by decide), m_ckt, m_clamp (by omega), m_lt, m_u2n _ _ _ (by decide : (0 : Nat) ≠ 8), e1, nI_1, m_lt, m_u2s, m_us]
      · refine RG.mono (B := B) ⟨⟨len + 1, by omega, ?_, ?_, fun i hi => ?_⟩, ?_, ?_, ?_⟩ (by omega)
        · show z_u2 (z_u2 X.1 1 len (nI k)) 0 0 (nI (len + 1)) 0 0 = _
          rw [m_u2s, m_us]
        · rw [m_u2s, m_us]
        · show ∃ c, c < 256 ∧ z_u2 (z_u2 X.1 1 len (nI k)) 0 0 (nI (len + 1)) 1 i = nI c ∧ _
          rw [m_u2n _ _ _ (by decide : (1 : Nat) ≠ 0), m_u2s, m_u2n _ _ _ (by decide : (8 : Nat) ≠ 0), m_u2s, m_kd1 m 0 (by decide)]
          by_cases ci : i = len
          · subst ci; rw [m_us, m_us]; exact ⟨k, by omega, rfl, rfl⟩
          · rw [m_un _ _ ci, m_un _ _ ci]; exact t4 i (by omega)
        · rw [m_u2n _ _ _ (by decide : (1 : Nat) ≠ 0), m_u2n _ _ _ (by decide : (1 : Nat) ≠ 8), m_kd1 m 0 (by decide)]; exact hn
        · obtain ⟨old, sz, a1, a2, a3, a4, a5, a6⟩ := hme
          refine ⟨old, sz, a1, a2, a3, a4, ?_, fun j hj => ?_⟩
          · rw [m_u2s, m_un _ _ (by decide), m_u2n _ _ _ (by decide : (0 : Nat) ≠ 8), m_u2s, m_un _ _ (by decide)]; exact a5
          · rw [m_u2n _ _ _ (by decide : (5 : Nat) ≠ 0), m_u2n _ _ _ (by decide : (5 : Nat) ≠ 8), m_kd1 m 0 (by decide)]; exact a6 j hj
        · intro i hi
          rw [m_u2n _ _ _ (by decide : (7 : Nat) ≠ 0), m_u2n _ _ _ (by decide : (7 : Nat) ≠ 8), m_kd1 m 0 (by decide : (7 : Nat) ≠ 0), m_u2n _ _ _ (by decide : (6 : Nat) ≠ 0), m_u2n _ _ _ (by decide : (6 : Nat) ≠ 8), m_kd1 m 0 (by decide : (6 : Nat) ≠ 0)]
          exact hsl i hi
theorem c_clear (h : RG B X m) : ∃ b X' m', fX4_clearText N X = some (b, X') ∧ fX5_clearText N m = some (b, m') ∧ RG (B + 5000) X' m' := by
  obtain ⟨⟨len, t1, t2, t3, t4⟩, hn, hme, hsl⟩ := id h
  refine ⟨nI len, (z_u2 X.1 0 0 0, X.2.1, X.2.2), z_u2 (z_u2 m 0 0 0) 0 2 0, ?_, ?_, ?_⟩
  · unfold fX4_clearText fX3_empty
    rw [m_lt, t2, m_b2, m_lt]
  · unfold fX5_clearText
    rw [m_lt, m_lt, m_u2s, m_un _ _ (by decide), t3]
  · refine RG.mono (B := B) ⟨⟨0, by decide, ?_, ?_, fun i hi => by omega⟩, ?_, ?_, ?_⟩ (by omega)
    · show z_u2 X.1 0 0 0 0 0 = _
      rw [m_u2s, m_us]; rfl
    · rw [m_u2s, m_us]; rfl
    · rw [m_u2n _ _ _ (by decide : (1 : Nat) ≠ 0), m_kd1 m 0 (by decide)]; exact hn
    · obtain ⟨old, sz, a1, a2, a3, a4, a5, a6⟩ := hme
      refine ⟨old, sz, a1, a2, a3, a4, ?_, fun j hj => ?_⟩
      · rw [m_u2s, m_un _ _ (by decide), m_u2s, m_un _ _ (by decide)]; exact a5
      · rw [m_u2n _ _ _ (by decide : (5 : Nat) ≠ 0), m_kd1 m 0 (by decide)]; exact a6 j hj
    · intro i hi
      rw [m_u2n _ _ _ (by decide : (7 : Nat) ≠ 0), m_kd1 m 0 (by decide : (7 : Nat) ≠ 0), m_u2n _ _ _ (by decide : (6 : Nat) ≠ 0), m_kd1 m 0 (by decide : (6 : Nat) ≠ 0)]
      exact hsl i hi
end MR24
