/-! a whole command of five digits -/
section MR23
variable {N : Nat} {X X0 : z_X} {m m0 : z_R}
theorem m_bo01 {r : Int32} (h : r = 0 ∨ r = 1) : z_bo r = true := by
  rcases h with e | e <;> subst e <;> decide
theorem m_Cm.bo {B : Nat} {p : Option (Int32 × z_X)} {q : Option (Int32 × z_R)} (h : m_Cm B X0 m0 p q) : m_Cm B X0 m0 (z_b2 p fun r X => z_ck (z_bo r) (some (r, X))) (z_b2 q fun r g => z_ck (z_bo r) (some (r, g))) := by
  obtain ⟨r, X', m', h1, h2, h3, h4⟩ := h
  exact ⟨r, X', m', h1, by rw [h2, m_b2, m_bo01 h1, m_ckt], by rw [h3, m_b2, m_bo01 h1, m_ckt], h4⟩
theorem m_Cm.if {B : Nat} {p : Option (Int32 × z_X)} {q : Option (Int32 × z_R)} (h : m_Cm B X0 m0 p q) : m_Cm B X0 m0 (z_b2 p fun r X => if r = 0 then some (0, X) else some (1, X)) (z_b2 q fun r g => if r = 0 then some (0, g) else some (1, g)) := by
  obtain ⟨r, X', m', h1, h2, h3, h4⟩ := h
  rcases h1 with e | e <;> subst e
  · exact ⟨0, X', m', Or.inl rfl, by rw [h2, m_b2, if_pos m_00], by rw [h3, m_b2, if_pos m_00], h4⟩
  · exact ⟨1, X', m', Or.inr rfl, by rw [h2, m_b2, if_neg m_1_0], by rw [h3, m_b2, if_neg m_1_0], h4⟩
theorem m_Cm.ifR {B : Nat} {p : Option (Int32 × z_X)} {q : Option (Int32 × z_R)} (h : m_Cm B X0 m0 p q) : m_Cm B X0 m0 p (z_b2 q fun r g => if r = 0 then some (0, g) else some (1, g)) := by
  obtain ⟨r, X', m', h1, h2, h3, h4⟩ := h
  rcases h1 with e | e <;> subst e
  · exact ⟨0, X', m', Or.inl rfl, h2, by rw [h3, m_b2, if_pos m_00], h4⟩
  · exact ⟨1, X', m', Or.inr rfl, h2, by rw [h3, m_b2, if_neg m_1_0], h4⟩
theorem m_Cm.no {B : Nat} (h : m_TI B X0 m0 X m) : m_Cm (B + 5000) X0 m0 (some (0, X)) (some (0, m)) := ⟨0, X, m, Or.inl rfl, rfl, rfl, h.mono (by omega)⟩
theorem m_cheap {B : Nat} (h : m_TI B X0 m0 X m) {a : Nat} (ha : a < 10) (v : Int32) : m_Cm (B + 5000) X0 m0 ((fX4_isCheapOnTrial N (nI a) v X).bind fun r25 => z_ck (z_bo r25) (some (r25, X))) ((fX5_isAuthor N (nI a)).bind fun r25 => (if r25 = 0 then some ((0 : Int32), m) else z_ck (z_in ((9 : Int32) + nI a) 925) <| (if v < (m 1 (((9 : Int32) + nI a)).toNatClampNeg) then some ((0 : Int32), m) else some ((1 : Int32), m)))) := by
  obtain ⟨n, P, T, J, hrs, hT⟩ := h.2.2.2.2.2
  unfold fX4_isCheapOnTrial
  rcases m_au (N := N) (nI a) with ⟨a1, a2, b, hb, e⟩ | ⟨a1, a2⟩
  · have eab : a = b := m_nI_inj (by omega) (by omega) e
    subst eab
    rw [a1, m_bind, if_neg m_1_0, a2, m_bind, if_neg m_1_0, m_in hb (by decide), m_ckt, m_clamp (by omega), show (9 : Int32) + nI a = nI (9 + a) from nI_add 9 a, m_in (by omega) (by decide), m_ckt, m_clamp (by omega), hrs.rf hb trivial]
    by_cases c : v < X.2.2 1 11 a
    · rw [if_pos c, if_pos c, m_bind, m_b0, m_ckt]; exact m_Cm.no h
    · rw [if_neg c, if_neg c, m_bind, m_b1, m_ckt]; exact ⟨1, X, m, Or.inr rfl, rfl, rfl, h.mono (by omega)⟩
  · rw [a1, m_bind, if_pos m_00, m_bind, m_b0, m_ckt, a2, m_bind, if_pos m_00]; exact m_Cm.no h
theorem m_cmd {B : Nat} (h : m_TI B X0 m0 X m) (hB : B + 5000 < 2 ^ 30) (hN : 13000 ≤ N) (hN2 : N < 2 ^ 31) {k : Nat} (hk : k < 100000) : m_Cm (B + 5000) X0 m0 (fX4_succeeds N (nI k) X) (fX5_commands N (nI k) m) := by
  have e1 : nI k / (10000 : Int32) = nI (k / 10000) := pk_div (d := 10000) (by omega) (by decide) (by decide)
  have e2 : nI k / (100 : Int32) = nI (k / 100) := pk_div (d := 100) (by omega) (by decide) (by decide)
  have e3 : nI k - nI (k / 100) * (100 : Int32) = nI (k % 100) := by rw [← e2]; exact pk_rem (d := 100) (by omega) (by decide) (by decide)
  have e4 : nI (k / 100) - nI (k / 100) / (100 : Int32) * (100 : Int32) = nI (k / 100 % 100) := pk_rem (d := 100) (by omega) (by decide) (by decide)
  have e5 : nI k / (1000 : Int32) = nI (k / 1000) := pk_div (d := 1000) (by omega) (by decide) (by decide)
  have e6 : nI k - nI (k / 1000) * (1000 : Int32) = nI (k % 1000) := by rw [← e5]; exact pk_rem (d := 1000) (by omega) (by decide) (by decide)
  have e7 : nI (k / 1000) - nI (k / 1000) / (10 : Int32) * (10 : Int32) = nI (k / 1000 % 10) := pk_rem (d := 10) (by omega) (by decide) (by decide)
  have e8 : nI (k / 100 % 100) / (10 : Int32) = nI (k / 1000 % 10) := by
    rw [show nI (k / 100 % 100) / (10 : Int32) = nI (k / 100 % 100 / 10) from pk_div (d := 10) (by omega) (by decide) (by decide)]
    congr 1
    omega
  have e9 : (10 : Int32) * nI (k % 100) = nI (10 * (k % 100)) := pk_mul 10 _
  have hl : k % 100 < 100 := Nat.mod_lt _ (by decide)
  unfold fX4_succeeds fX5_commands
  rw [e1, e2, e3, e4, e5, e6, e7, e8, e9]
  by_cases c1 : nI (k / 10000) = (1 : Int32)
  · rw [if_pos c1, if_pos c1]
    by_cases d : nI (k % 100) = 0
    · rw [if_pos d, if_pos d]; exact (m_cRun h hB hN _).if
    · rw [if_neg d, if_neg d]; exact m_Cm.no h
  rw [if_neg c1, if_neg c1]
  by_cases c2 : nI (k / 10000) = (2 : Int32)
  · rw [if_pos c2, if_pos c2]
    by_cases d : nI (k / 100 % 100) = 0
    · rw [if_pos d, if_pos d]
      by_cases d2 : nI (k % 100) = 0
      · rw [if_pos d2, if_pos d2]; exact (m_cLay h hN).ifR
      · rw [if_neg d2, if_neg d2]; exact m_Cm.no h
    · rw [if_neg d, if_neg d]; exact m_Cm.no h
  rw [if_neg c2, if_neg c2]
  by_cases c3 : nI (k / 10000) = (3 : Int32)
  · rw [if_pos c3, if_pos c3]; exact (m_cMove h hN _ _).bo
  rw [if_neg c3, if_neg c3]
  by_cases c4 : nI (k / 10000) = (4 : Int32)
  · rw [if_pos c4, if_pos c4]
    by_cases d : nI (k / 100 % 100) = 0
    · rw [if_pos d, if_pos d]; exact (m_cTurn h hB hl).if
    · rw [if_neg d, if_neg d]; exact m_Cm.no h
  rw [if_neg c4, if_neg c4]
  by_cases c5 : nI (k / 10000) = (5 : Int32)
  · rw [if_pos c5, if_pos c5]; exact (m_cChg h _ _ _).bo
  rw [if_neg c5, if_neg c5]
  by_cases c6 : nI (k / 10000) = (6 : Int32)
  · rw [if_pos c6, if_pos c6]
    by_cases d : nI (k % 100) = (99 : Int32)
    · rw [if_pos d, if_pos d]; exact (m_cChg h _ _ _).bo
    · rw [if_neg d, if_neg d]; exact (m_cChg h _ _ _).bo
  rw [if_neg c6, if_neg c6]
  by_cases c7 : nI (k / 10000) = (7 : Int32)
  · rw [if_pos c7, if_pos c7]
    obtain ⟨r, h1, h2, h3⟩ := m_cSoon (N := N) h hB (nI (k / 100 % 100)) (nI (k % 100))
    exact ⟨r, X, m, h1, by rw [h2, m_bind, m_bo01 h1, m_ckt], by rw [h3, m_bind, m_bo01 h1, m_ckt], h.mono (by omega)⟩
  rw [if_neg c7, if_neg c7]
  by_cases c8 : nI (k / 10000) = (8 : Int32)
  · rw [if_pos c8, if_pos c8]; exact (m_cQuick h hB hN hN2 _ _).bo
  rw [if_neg c8, if_neg c8]
  by_cases c9 : nI (k / 10000) = (9 : Int32)
  · rw [if_pos c9, if_pos c9]; exact m_cheap h (by omega) _
  rw [if_neg c9, if_neg c9]
  exact m_Cm.no h
end MR23
