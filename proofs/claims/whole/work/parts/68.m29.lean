/-! runScript, the command -/
section MR29
variable {N B : Nat} {X : z_X} {m : z_R}
theorem c_runScript (h : RG B X m) (hB : B + 5000 * 4 < 2 ^ 30) (hN : 13000 ≤ N) (hN2 : N < 2 ^ 31) (x : Int32) (y : Int64) : ∃ o X' b m', fX4_runScript N x y X = some (o, X') ∧ fX5_runScript N x y m = some (b, m') ∧ RG (B + 5000) X' m' ∧ ((o = .inl b ∧ m' 0 0 = 0) ∨ (o = .inr 1 ∧ m' 0 0 = 1)) := by
  have bad : ∀ {p : Option ((Int32 ⊕ Nat) × z_X)} {q : Option (Int32 × z_R)}, p = some (.inr 1, X) → q = some (0, z_u2 m 0 0 1) → ∃ o X' b m', p = some (o, X') ∧ q = some (b, m') ∧ RG (B + 5000) X' m' ∧ ((o = .inl b ∧ m' 0 0 = 0) ∨ (o = .inr 1 ∧ m' 0 0 = 1)) := fun p1 q1 => ⟨.inr 1, X, 0, z_u2 m 0 0 1, p1, q1, (h.kd 1).mono (by omega), Or.inr ⟨rfl, m_kd m 1⟩⟩
  rcases m_rg (lo := 1) (hi := 3) (by decide) (by decide) x with hx | ⟨M, h1, h3, rfl⟩
  · have hx : x < 1 ∨ 3 < x := hx
    have n1 : ¬ x = 1 := fun e => by subst e; revert hx; decide
    have n2 : ¬ x = 2 := fun e => by subst e; revert hx; decide
    unfold fX4_runScript fX5_runScript
    rw [if_neg n1, if_neg n2]
    by_cases c : x < 1
    · exact bad (by rw [if_pos c]) (by rw [if_pos c, m_lt, m_kd, if_neg m_n1])
    · exact bad (by rw [if_neg c, if_pos (hx.resolve_left c)]) (by rw [if_neg c, if_pos (hx.resolve_left c), m_lt, m_kd, if_neg m_n1])
  · have b1 : ¬ nI M < (1 : Int32) := nI_nlt (b := 1) h1 (by omega)
    have b2 : ¬ (3 : Int32) < nI M := nI_nlt (b := M) (a := 3) h3 (by decide)
    by_cases hy : y < 0
    · have c2 : lg_cmp y 0 < 0 := m_cmpL.mpr hy
      unfold fX4_runScript fX5_runScript
      refine bad (by rw [if_neg b1, if_neg b2, if_pos c2]) ?_
      rw [if_neg b1, if_neg b2, if_pos c2, if_neg b1, if_neg b2, if_pos c2, if_neg b1, if_neg b2, if_pos c2, m_lt, m_kd, if_neg m_n1, m_lt, m_kd, if_neg m_n1, m_lt, m_kd, if_neg m_n1]
      by_cases e1 : nI M = 1
      · rw [if_pos e1]
      · rw [if_neg e1]
        by_cases e2 : nI M = 2
        · rw [if_pos e2]
        · rw [if_neg e2]
    · obtain ⟨s, hs, rfl⟩ := pk_lOf hy
      have hs : m_s63 s := hs
      have c2 : ¬ lg_cmp (lN s) 0 < 0 := fun q => hy (m_cmpL.mp q)
      have hb := m_scB h1 h3 hs
      have cls : fX4_runScript N (nI M) (lN s) X = (if lg_cmp (lN (s / 100000 ^ M)) 0 ≤ 0 then ((fX2_copyFrom N (X.2.2 0) (X.2.2 1)).bind fun u7 => z_lt ((X.1, X.2.1, z_u3 X.2.2 1 u7)) fun X8 => (lX4_runScript_51 N (nI M) (lN s) N (0 : Int32) X8)) else some (.inr 1, X)) := by
        unfold fX4_runScript
        rw [if_neg b1, if_neg b2, if_neg c2, m_wl h3 hN hs, m_bind]
      obtain ⟨r, X', m', p1, p2, p3, p4⟩ := m_scR (N := N) h hB hN hN2 h1 h3 hs
      rw [cls]
      by_cases c : lg_cmp (lN s) (lN (m_pw M * 100000)) < 0
      · rw [if_pos (hb.mpr c)]
        refine ⟨.inl r, X', r, m', p1, ?_, p3, Or.inl ⟨rfl, p4⟩⟩
        rw [← p2]
        unfold fX5_runScript
        rcases (show M = 1 ∨ M = 2 ∨ M = 3 by clear hs c hb p1 p2; omega) with e | e | e <;> subst e
        · rw [if_pos (show nI 1 = (1 : Int32) from rfl), if_neg b1, if_neg b2, if_neg c2, show (100000 : Int64) / 100000 = lN (m_pw 1) by decide +kernel, if_pos (show lg_cmp (lN s) 100000 < 0 from c), m_lt, m_kd, if_pos m_z0]
        · rw [if_neg (show ¬ nI 2 = (1 : Int32) by decide), if_pos (show nI 2 = (2 : Int32) from rfl), if_neg b1, if_neg b2, if_neg c2, show (10000000000 : Int64) / 100000 = lN (m_pw 2) by decide +kernel, if_pos (show lg_cmp (lN s) 10000000000 < 0 by rw [show (10000000000 : Int64) = lN (m_pw 2 * 100000) by decide +kernel]; exact c), m_lt, m_kd, if_pos m_z0]
        · rw [if_neg (show ¬ nI 3 = (1 : Int32) by decide), if_neg (show ¬ nI 3 = (2 : Int32) by decide), if_neg b1, if_neg b2, if_neg c2, show (1000000000000000 : Int64) / 100000 = lN (m_pw 3) by decide +kernel, if_pos (show lg_cmp (lN s) 1000000000000000 < 0 by rw [show (1000000000000000 : Int64) = lN (m_pw 3 * 100000) by decide +kernel]; exact c), m_lt, m_kd, if_pos m_z0]
      · rw [if_neg (fun q => c (hb.mp q))]
        refine bad rfl ?_
        unfold fX5_runScript
        rcases (show M = 1 ∨ M = 2 ∨ M = 3 by clear hs c hb p1 p2; omega) with e | e | e <;> subst e
        · rw [if_pos (show nI 1 = (1 : Int32) from rfl), if_neg b1, if_neg b2, if_neg c2, if_neg (show ¬ lg_cmp (lN s) 100000 < 0 from c), m_lt, m_kd, if_neg m_n1]
        · rw [if_neg (show ¬ nI 2 = (1 : Int32) by decide), if_pos (show nI 2 = (2 : Int32) from rfl), if_neg b1, if_neg b2, if_neg c2, if_neg (show ¬ lg_cmp (lN s) 10000000000 < 0 by rw [show (10000000000 : Int64) = lN (m_pw 2 * 100000) by decide +kernel]; exact c), m_lt, m_kd, if_neg m_n1]
        · rw [if_neg (show ¬ nI 3 = (1 : Int32) by decide), if_neg (show ¬ nI 3 = (2 : Int32) by decide), if_neg b1, if_neg b2, if_neg c2, if_neg (show ¬ lg_cmp (lN s) 1000000000000000 < 0 by rw [show (1000000000000000 : Int64) = lN (m_pw 3 * 100000) by decide +kernel]; exact c), m_lt, m_kd, if_neg m_n1]
end MR29
