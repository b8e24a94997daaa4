/-! runScript -/
section MR28
variable {N B : Nat} {X : z_X} {m : z_R}
/-- where the script is one, both sides run its commands -/
theorem m_scR (h : RG B X m) (hB : B + 5000 * 4 < 2 ^ 30) (hN : 13000 ≤ N) (hN2 : N < 2 ^ 31) {M s : Nat} (h1 : 1 ≤ M) (h3 : M ≤ 3) (hs : m_s63 s) : ∃ r X' m', ((fX2_copyFrom N (X.2.2 0) (X.2.2 1)).bind fun u7 => z_lt ((X.1, X.2.1, z_u3 X.2.2 1 u7)) fun X8 => (lX4_runScript_51 N (nI M) (lN s) N (0 : Int32) X8)) = some (.inl r, X') ∧ ((fX5_copy N 925 925 ((z_u2 m 0 0 0) 1) (0 : Int32) (0 : Int32) ((z_u2 m 0 0 0) 3)).bind fun u87 => z_lt (z_uR (z_u2 m 0 0 0) 3 u87) fun g87 => (lX5_runScript_95 N (nI M) (lN s) (fun x6_95 g95_88 => (fX5_copy N 925 925 (g95_88 3) (0 : Int32) (0 : Int32) (g95_88 1)).bind fun u89 => z_lt (z_uR g95_88 1 u89) fun g89 => some (x6_95, g89)) N (-1 : Int32) (lN (m_pw M)) (0 : Int32) g87)) = some (r, m') ∧ RG (B + 5000) X' m' ∧ m' 0 0 = 0 := by
  obtain ⟨ht, ⟨n, P, T, J, hrs, hT⟩, hme, hsl⟩ := id h
  obtain ⟨u, u1, u2⟩ := m_copyC (N := N) hrs (by omega) hN2 (X.2.2 1)
  have hu := u2 (s'' := m 1) hrs (fun _ _ => rfl)
  rw [u1, m_bind, m_lt, m_kd1 m 0 (by decide : (1 : Nat) ≠ 0), m_kd1 m 0 (by decide : (3 : Nat) ≠ 0), m_copy0 hN, m_bind, m_lt]
  obtain ⟨m3, hm3⟩ : ∃ m3, m3 = z_uR (z_u2 m 0 0 0) 3 (m_cp (m 1) 0 (m 3) 0 925) := ⟨_, rfl⟩
  have hm31 : m3 1 = m 1 := by rw [hm3, m_other _ _ (by decide), m_kd1 m 0 (by decide)]
  have hTI : m_TI (B + 5000 * 0) X m3 (X.1, X.2.1, z_u3 X.2.2 1 u) m3 := by
    refine ⟨rfl, rfl, fun k hk => m_u3n _ _ (by omega), fun _ _ => rfl, fun _ _ => rfl, ?_⟩
    show m_St _ (z_u3 X.2.2 1 u 1) (m3 1)
    rw [m_u3s, hm31]
    exact ⟨n, P, T, J, hu, by omega⟩
  rw [← hm3]
  obtain ⟨r, X', m', p1, p2, p3⟩ := m_scL (N := N) hN hN2 (M := M) (B := B) h3 hs hB (fun x6_95 g95_88 => (fX5_copy N 925 925 (g95_88 3) (0 : Int32) (0 : Int32) (g95_88 1)).bind fun u89 => z_lt (z_uR g95_88 1 u89) fun g89 => some (x6_95, g89)) M 0 N N (X.1, X.2.1, z_u3 X.2.2 1 u) m3 (by omega) (by omega) (by omega) hTI
  obtain ⟨q1, q2, q3, q4, q5, -⟩ := p3
  have e3 : m' 3 = m_cp (m 1) 0 (m 3) 0 925 := by rw [q4 3 (by decide), hm3, m_same]
  have agr : ∀ k, k < 925 → m_cp (m' 3) 0 (m' 1) 0 925 k = m 1 k := fun k hk => by rw [m_cp0 _ _ hk, e3, m_cp0 _ _ hk]
  refine ⟨r, X', z_uR m' 1 (m_cp (m' 3) 0 (m' 1) 0 925), p1, ?_, ?_, ?_⟩
  · rw [show lX5_runScript_95 N (nI M) (lN s) _ N (-1) (lN (m_pw M)) 0 m3 = _ from p2, m_copy0 hN, m_bind, m_lt]
  · refine RG.mono ((h.kd 0).tk q1 q2 q3 (fun k hk => ?_) ⟨?_, ?_, ?_, ?_⟩ ⟨?_, ?_⟩) (by omega)
    · rw [m_same, agr k hk, m_kd1 m 0 (by decide)]
    · rw [m_other _ _ (by decide), q4 5 (by decide), hm3, m_other _ _ (by decide)]
    · rw [m_other _ _ (by decide), q4 6 (by decide), hm3, m_other _ _ (by decide)]
    · rw [m_other _ _ (by decide), q4 7 (by decide), hm3, m_other _ _ (by decide)]
    · rw [m_other _ _ (by decide), q4 8 (by decide), hm3, m_other _ _ (by decide)]
    · rw [m_other _ _ (by decide), q5 1 (by decide), hm3, m_other _ _ (by decide)]
    · rw [m_other _ _ (by decide), q5 2 (by decide), hm3, m_other _ _ (by decide)]
  · rw [m_other _ _ (by decide), q5 0 (by decide), hm3, m_other _ _ (by decide), m_kd]
theorem m_scB {M s : Nat} (h1 : 1 ≤ M) (h3 : M ≤ 3) (hs : m_s63 s) : (lg_cmp (lN (s / 100000 ^ M)) 0 ≤ 0) ↔ lg_cmp (lN s) (lN (m_pw M * 100000)) < 0 := by
  have hp : 100000 ^ M = m_pw M * 100000 ∧ 0 < m_pw M * 100000 ∧ m_pw M * 100000 < 2 ^ 63 := by
    rcases (show M = 1 ∨ M = 2 ∨ M = 3 by omega) with e | e | e <;> subst e <;> decide +kernel
  have hs : s < 2 ^ 63 := hs
  rw [m_cmpL, pk_lLT hs hp.2.2, hp.1]
  by_cases c : s < m_pw M * 100000
  · rw [Nat.div_eq_of_lt c]
    exact ⟨fun _ => c, fun _ => by decide +kernel⟩
  · have d : 0 < s / (m_pw M * 100000) := Nat.div_pos (Nat.le_of_not_lt c) hp.2.1
    exact ⟨fun q => absurd q (m_cmp0 (show (0 : Int64) < lN (s / (m_pw M * 100000)) from (pk_lLT (a := 0) (by decide) (Nat.lt_of_le_of_lt (Nat.div_le_self _ _) hs)).mpr d)), fun q => absurd q c⟩
end MR28
