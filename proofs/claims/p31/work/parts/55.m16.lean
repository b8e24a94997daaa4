/-! author, jump, about, save, restore, addOrder -/
section MR16
variable {N B : Nat} {X : z_X} {m : z_R}
theorem m_authL {n P T J : Nat} {g : z_R} {s : Nat → Int32} (h : RS m_Al n P T J g s) (hm : m 1 = s) (x w : Int32) : ∀ (k i fu : Nat), i + k = n → k < fu → ∃ fv, lX5_author_43 N x w m fu (m_sum (fun o => if g 1 o = x then 1 else 0) i) (nI i) = lX5_author_43 N x w m (fv + 1) (m_sum (fun o => if g 1 o = x then 1 else 0) n) (nI n) := by
  have h16 := h.n16
  intro k
  induction k with
  | zero =>
    intro i fu hi hfu
    have e : i = n := by omega
    subst e
    exact ⟨fu - 1, by rw [show fu - 1 + 1 = fu by omega]⟩
  | succ k ih =>
    intro i fu hi hfu
    obtain ⟨fu, rfl⟩ : ∃ q, fu = q + 1 := ⟨fu - 1, by omega⟩
    obtain ⟨fv, hv⟩ := ih (i + 1) fu (by omega) (by omega)
    refine ⟨fv, ?_⟩
    rw [← hv, lX5_author_43.eq_2, m_t2, hm, h.sn, if_neg (nI_ge (by omega) (by omega)), m_part (p := 0) (k := 0) (r := 1) rfl rfl (by omega) (by decide), m_bind, hm, h.or (by omega) (by decide) (by decide) trivial, nI_1]
    rw [show m_sum (fun o => if g 1 o = x then 1 else 0) (i + 1) = m_sum (fun o => if g 1 o = x then 1 else 0) i + (if g 1 i = x then 1 else 0) from rfl]
    by_cases c : g 1 i = x
    · rw [if_pos c, if_pos c]
    · rw [if_neg c, if_neg c]
theorem c_author (h : RG B X m) (hN : 13000 ≤ N) (x w : Int32) : ∃ o X' b m', fX4_author N x w X = some (o, X') ∧ fX5_author N x w m = some (b, m') ∧ RG (B + 5000) X' m' ∧ ((o = .inl b ∧ m' 0 0 = 0) ∨ (o = .inr 3 ∧ m' 0 0 = 1) ∨ (o = .inr 1 ∧ m' 0 0 = 2)) := by
  obtain ⟨ht, ⟨n, P, T, J, hrs, hT⟩, hme, hsl⟩ := id h
  have h16 := hrs.n16
  unfold fX4_author fX5_author
  rcases m_au (N := N) x with ⟨a1, a2, a, ha, rfl⟩ | ⟨a1, a2⟩
  · rw [a1, m_bind, if_neg m_1_0, a2, m_bind, if_neg m_1_0]
    have e2 : (2 : Int32) = nI 3 - 1 := by decide
    have cnt := m_ooL (N := N) hrs (nI a) n 0 N (by omega) (by omega)
    obtain ⟨fv, hv⟩ := m_authL (N := N) (m := z_u2 m 0 0 0) hrs (m_kd1 m 0 (by decide)) (nI a) w n 0 N (by omega) (by omega)
    have hv : lX5_author_43 N (nI a) w (z_u2 m 0 0 0) N 0 0 = _ := hv
    rcases m_cs w (n := 3) (by decide) with ⟨k, hk, rfl⟩ | ⟨hw, hno⟩
    · have fin : ∀ r, fX4_author N (nI a) (nI k) X = some (.inl r, X) → lX5_author_43 N (nI a) (nI k) (z_u2 m 0 0 0) (fv + 1) (m_sum (fun o => if X.2.2 0 1 o = nI a then 1 else 0) n) (nI n) = some (r, z_u2 m 0 0 0) → ∃ o X' b m', fX4_author N (nI a) (nI k) X = some (o, X') ∧ ((fX5_within N (nI k) (0 : Int32) (2 : Int32)).bind fun r3 => (if r3 = 0 then z_lt (z_u2 m 0 0 (2 : Int32)) fun g5 => (if (g5 0 0) ≤ 0 then (lX5_author_43 N (nI a) (nI k) g5 N (0 : Int32) (0 : Int32)) else some ((0 : Int32), g5)) else z_lt (z_u2 m 0 0 (0 : Int32)) fun g14 => (if (g14 0 0) ≤ 0 then (lX5_author_43 N (nI a) (nI k) g14 N (0 : Int32) (0 : Int32)) else some ((0 : Int32), g14)))) = some (b, m') ∧ RG (B + 5000) X' m' ∧ ((o = .inl b ∧ m' 0 0 = 0) ∨ (o = .inr 3 ∧ m' 0 0 = 1) ∨ (o = .inr 1 ∧ m' 0 0 = 2)) := fun r h1 h2 => by
        refine ⟨.inl r, X, r, z_u2 m 0 0 0, h1, ?_, (h.kd 0).mono (by omega), Or.inl ⟨rfl, m_kd m 0⟩⟩
        rw [e2, m_wiY (by decide) hk, m_bind, if_neg m_1_0, m_lt, m_kd, if_pos m_z0, hv]
        exact h2
      have fin2 := fin
      unfold fX4_author at fin2
      simp only [a1, m_bind, if_neg m_1_0] at fin2
      rcases (show k = 0 ∨ k = 1 ∨ k = 2 by omega) with e | e | e
      · subst e
        refine fin2 (m_sum (fun o => if X.2.2 0 1 o = nI a then 1 else 0) n) ?_ ?_
        · rw [if_pos (show nI 0 = (0 : Int32) from rfl)]
          unfold fX2_ordersOf
          rw [show lX2_ordersOf_4 N (nI a) (X.2.2 0) N 0 0 = _ from cnt, m_bind]
        · rw [lX5_author_43.eq_2, m_t2, m_kd1 m 0 (by decide), hrs.sn, if_pos (nI_le (Nat.le_refl n) (by omega)), if_pos (show nI 0 = (0 : Int32) from rfl)]
      · subst e
        refine fin2 (X.2.2 0 10 a) ?_ ?_
        · rw [if_neg (show ¬ nI 1 = (0 : Int32) by decide), if_pos (show nI 1 = (1 : Int32) from rfl), m_in ha (by decide), m_ckt, m_clamp (by omega)]
        · rw [lX5_author_43.eq_2, m_t2, m_kd1 m 0 (by decide), hrs.sn, if_pos (nI_le (Nat.le_refl n) (by omega)), if_neg (show ¬ nI 1 = (0 : Int32) by decide), if_pos (show nI 1 = (1 : Int32) from rfl), show (5 : Int32) + nI a = nI (5 + a) from nI_add 5 a, m_in (by omega) (by decide), m_ckt, m_clamp (by omega), hrs.pd ha trivial]
      · subst e
        refine fin2 (X.2.2 0 11 a) ?_ ?_
        · rw [if_neg (show ¬ nI 2 = (0 : Int32) by decide), if_neg (show ¬ nI 2 = (1 : Int32) by decide), if_pos (show nI 2 = (2 : Int32) from rfl), m_in ha (by decide), m_ckt, m_clamp (by omega)]
        · rw [lX5_author_43.eq_2, m_t2, m_kd1 m 0 (by decide), hrs.sn, if_pos (nI_le (Nat.le_refl n) (by omega)), if_neg (show ¬ nI 2 = (0 : Int32) by decide), if_neg (show ¬ nI 2 = (1 : Int32) by decide), show (9 : Int32) + nI a = nI (9 + a) from nI_add 9 a, m_in (by omega) (by decide), m_ckt, m_clamp (by omega), hrs.rf ha trivial]
    · refine ⟨.inr 1, X, 0, z_u2 m 0 0 2, ?_, ?_, (h.kd 2).mono (by omega), Or.inr (Or.inr ⟨rfl, m_kd m 2⟩)⟩
      · have hne : ∀ k, k < 3 → ¬ w = nI k := fun k hk e => hno ⟨k, hk, e⟩
        rw [if_neg (show ¬ w = (0 : Int32) from hne 0 (by decide)), if_neg (show ¬ w = (1 : Int32) from hne 1 (by decide)), if_neg (show ¬ w = (2 : Int32) from hne 2 (by decide))]
      · rw [show fX5_within N w 0 2 = some 0 by rw [e2]; exact m_wiN (by decide) hw, m_bind, if_pos m_00, m_lt, m_kd, if_neg m_n2]
  · refine ⟨.inr 3, X, 0, z_u2 m 0 0 1, ?_, ?_, (h.kd 1).mono (by omega), Or.inr (Or.inl ⟨rfl, m_kd m 1⟩)⟩
    · rw [a1, m_bind, if_pos m_00]
    · rw [a2, m_bind, if_pos m_00, m_lt, m_kd, if_neg m_n1]
theorem c_jump (h : RG B X m) (x w : Int32) : ∃ o X' b m', fX4_jump N x w X = some (o, X') ∧ fX5_jump N x w m = some (b, m') ∧ RG (B + 5000) X' m' ∧ ((o = .inl b ∧ m' 0 0 = 0) ∨ (o = .inr 1 ∧ m' 0 0 = 1)) := by
  obtain ⟨ht, ⟨n, P, T, J, hrs, hT⟩, hme, hsl⟩ := id h
  have hJ := hrs.J256
  unfold fX4_jump fX5_jump
  have e2 : (2 : Int32) = nI 3 - 1 := by decide
  by_cases cx : x < 0
  · exact ⟨.inr 1, X, 0, z_u2 m 0 0 1, by rw [if_pos cx], by rw [if_pos cx, m_lt, m_kd, if_neg m_n1], (h.kd 1).mono (by omega), Or.inr ⟨rfl, m_kd m 1⟩⟩
  rw [if_neg cx, if_neg cx]
  rcases m_cs w (n := 3) (by decide) with ⟨k, hk, rfl⟩ | ⟨hw, hno⟩
  · have b1 : ¬ nI k < 0 := m_neg (by omega)
    have b2 : nI k ≤ (2 : Int32) := nI_le (b := 2) (by omega) (by decide)
    rw [if_neg b1, if_pos b2, m_wiY (N := N) (n := 3) (by decide) hk |> fun q => (show fX5_within N (nI k) 0 2 = some 1 by rw [e2]; exact q), m_bind, if_neg m_1_0, m_lt, m_kd, if_pos m_z0, m_t3, m_kd1 m 0 (by decide), hrs.sJ trivial]
    unfold fX0_number
    rw [if_neg cx, hrs.gJ]
    by_cases cJ : nI J ≤ x
    · have cJ2 : ¬ x < nI J := fun q => by
        rw [Int32.le_iff_toInt_le] at cJ
        rw [Int32.lt_iff_toInt_lt] at q
        omega
      exact ⟨.inl (-1), X, -1, z_u2 m 0 0 0, by rw [if_neg cJ2, m_bind], by rw [if_pos cJ], (h.kd 0).mono (by omega), Or.inl ⟨rfl, m_kd m 0⟩⟩
    · obtain ⟨i, hi, rfl⟩ := ((m_ix x (n := J) (by omega)).resolve_left cx).resolve_left cJ
      obtain ⟨j1, j2, j3⟩ := hrs.ju trivial hi
      rw [if_pos (nI_lt hi (by omega)), if_neg cJ, m_in (show i < 256 by omega) (by decide), m_clamp (by omega), m_jx, nI_add, m_in (by omega) (by decide), m_ckt, m_clamp (by omega)]
      rcases (show k = 0 ∨ k = 1 ∨ k = 2 by omega) with e | e | e <;> subst e
      · exact ⟨.inl (X.2.2 0 13 i), X, X.2.2 0 13 i, z_u2 m 0 0 0, rfl, by rw [Nat.add_zero, j1, m_ckt], (h.kd 0).mono (by omega), Or.inl ⟨rfl, m_kd m 0⟩⟩
      · exact ⟨.inl (X.2.2 0 14 i), X, X.2.2 0 14 i, z_u2 m 0 0 0, rfl, by rw [j2, m_ckt], (h.kd 0).mono (by omega), Or.inl ⟨rfl, m_kd m 0⟩⟩
      · exact ⟨.inl (X.2.2 0 15 i), X, X.2.2 0 15 i, z_u2 m 0 0 0, rfl, by rw [j3, m_ckt], (h.kd 0).mono (by omega), Or.inl ⟨rfl, m_kd m 0⟩⟩
  · refine ⟨.inr 1, X, 0, z_u2 m 0 0 1, ?_, ?_, (h.kd 1).mono (by omega), Or.inr ⟨rfl, m_kd m 1⟩⟩
    · by_cases c : w < 0
      · rw [if_pos c]
      · rw [if_neg c, if_neg (fun q => by
          have h2 := hw.resolve_left c
          rw [Int32.le_iff_toInt_le, nI_toInt (by decide)] at h2
          rw [Int32.le_iff_toInt_le, show (2 : Int32).toInt = 2 from by decide] at q
          omega)]
    · rw [e2, m_wiN (by decide) hw, m_bind, if_pos m_00, m_lt, m_kd, if_neg m_n1]
end MR16
