/-! simulate: the loop and the command -/
section MR26
variable {N : Nat} {X X0 : z_X} {m m0 : z_R}
def m_simE (N : Nat) (told : Int32) (X : z_X) : Option ((Int32 ⊕ Nat) × z_X) := (fX4_sum N 4 (X.2.2 1 11)).bind fun r6 => (fX4_sum N 4 (X.2.2 0 11)).bind fun r7 => some (.inl (((1000 : Int32) * told) + (if (999 : Int32) < (r6 - r7) then (999 : Int32) else (r6 - r7))), X)
/-- without orders nothing is simulated -/
theorem m_sim0 (hc : X.2.2 1 0 1 = 0) {M : Nat} (hM : M ≤ 50) : ∀ (k i fu : Nat) (x4 : Int64) (told : Int32), i + k = M → k < fu → lX4_simulate_42 N (nI M) fu x4 told (nI i) X = m_simE N told X := by
  intro k
  induction k with
  | zero =>
    intro i fu x4 told hi hfu
    obtain ⟨fu, rfl⟩ : ∃ q, fu = q + 1 := ⟨fu - 1, by omega⟩
    have e : i = M := by omega
    subst e
    rw [lX4_simulate_42.eq_2, if_pos (nI_le (Nat.le_refl i) (by omega))]
    rfl
  | succ k ih =>
    intro i fu x4 told hi hfu
    obtain ⟨fu, rfl⟩ : ∃ q, fu = q + 1 := ⟨fu - 1, by omega⟩
    rw [lX4_simulate_42.eq_2, if_neg (nI_ge (by omega) (by omega))]
    have e : ∀ r, fX4_simulateRun N r X = some (-1, X) := fun r => by
      unfold fX4_simulateRun
      rw [hc, if_pos (by decide)]
    rw [e, m_b2, if_neg (by decide), nI_1]
    exact ih (i + 1) fu _ told (by omega) (by omega)
theorem m_simL (hN : 13000 ≤ N) {M B : Nat} (hM : M ≤ 50) (hB : B + 5000 * 51 < 2 ^ 30) (kk : Int32 → z_R → Option (Int32 × z_R)) : ∀ (k i fu fv : Nat) (x4 : Int64) (told : Int32) (X : z_X) (m : z_R), i + k = M → k < fu → k < fv → m_TI (B + 5000 * i) X0 m0 X m → ∃ told' X' m', lX4_simulate_42 N (nI M) fu x4 told (nI i) X = m_simE N told' X' ∧ lX5_simulate_50 N (nI M) kk fv x4 told (nI i) m = kk told' m' ∧ m_TI (B + 5000 * 51) X0 m0 X' m' := by
  intro k
  induction k with
  | zero =>
    intro i fu fv x4 told X m hi hfu hfv h
    obtain ⟨fu, rfl⟩ : ∃ q, fu = q + 1 := ⟨fu - 1, by omega⟩
    obtain ⟨fv, rfl⟩ : ∃ q, fv = q + 1 := ⟨fv - 1, by omega⟩
    have e : i = M := by omega
    subst e
    refine ⟨told, X, m, ?_, ?_, h.mono (by omega)⟩
    · rw [lX4_simulate_42.eq_2, if_pos (nI_le (Nat.le_refl i) (by omega))]
      rfl
    · rw [lX5_simulate_50.eq_2, if_pos (nI_le (Nat.le_refl i) (by omega))]
  | succ k ih =>
    intro i fu fv x4 told X m hi hfu hfv h
    obtain ⟨n, P, T, J, hrs, hT⟩ := h.2.2.2.2.2
    by_cases hn : n = 0
    · subst hn
      refine ⟨told, X, m, m_sim0 hrs.gn hM (k + 1) i fu x4 told hi hfu, ?_, h.mono (by omega)⟩
      obtain ⟨fv, rfl⟩ : ∃ q, fv = q + 1 := ⟨fv - 1, by omega⟩
      rw [lX5_simulate_50.eq_2, if_neg (nI_ge (by omega) (by omega)), m_t2, hrs.sn, if_pos (by decide)]
    · obtain ⟨fu, rfl⟩ : ∃ q, fu = q + 1 := ⟨fu - 1, by omega⟩
      obtain ⟨fv, rfl⟩ : ∃ q, fv = q + 1 := ⟨fv - 1, by omega⟩
      have h16 := hrs.n16
      obtain ⟨q, hq, eq⟩ := m_rnd ((x4 * (6364136223846793005 : Int64)) + (1442695040888963407 : Int64))
      obtain ⟨e, X', m', r1, r2, r3⟩ := m_simR (N := N) (B := B + 5000 * i) h hrs hT (by omega) (by omega) hN hq (fun r16 g16 => (if r16 = 0 then (lX5_simulate_50 N (nI M) kk fv ((x4 * (6364136223846793005 : Int64)) + (1442695040888963407 : Int64)) (told + (1 : Int32)) (nI i + (1 : Int32)) g16) else (lX5_simulate_50 N (nI M) kk fv ((x4 * (6364136223846793005 : Int64)) + (1442695040888963407 : Int64)) (told + (0 : Int32)) (nI i + (1 : Int32)) g16)))
      have r3 : m_TI (B + 5000 * (i + 1)) X0 m0 X' m' := r3.mono (by omega)
      have cls : lX4_simulate_42 N (nI M) (fu + 1) x4 told (nI i) X = (if e = 0 then lX4_simulate_42 N (nI M) fu ((x4 * (6364136223846793005 : Int64)) + (1442695040888963407 : Int64)) (told + (1 : Int32)) (nI (i + 1)) X' else lX4_simulate_42 N (nI M) fu ((x4 * (6364136223846793005 : Int64)) + (1442695040888963407 : Int64)) told (nI (i + 1)) X') := by
        rw [lX4_simulate_42.eq_2, if_neg (nI_ge (by omega) (by omega)), eq, r1, m_b2, nI_1]
      have mdl : lX5_simulate_50 N (nI M) kk (fv + 1) x4 told (nI i) m = (if e = 0 then lX5_simulate_50 N (nI M) kk fv ((x4 * (6364136223846793005 : Int64)) + (1442695040888963407 : Int64)) (told + (1 : Int32)) (nI (i + 1)) m' else lX5_simulate_50 N (nI M) kk fv ((x4 * (6364136223846793005 : Int64)) + (1442695040888963407 : Int64)) told (nI (i + 1)) m') := by
        rw [lX5_simulate_50.eq_2, if_neg (nI_ge (by omega) (by omega)), m_t2, eq]
        rw [hrs.sn] at r2 ⊢
        rw [if_neg (nI_nle (by omega) (by omega)), m_nz (by omega) (by omega), m_ckt, Int32.add_zero, nI_1]
        rw [Int32.add_zero, nI_1] at r2
        exact r2
      rw [cls, mdl]
      by_cases c : e = 0
      · rw [if_pos c, if_pos c]
        exact ih (i + 1) fu fv _ _ X' m' (by omega) (by omega) (by omega) r3
      · rw [if_neg c, if_neg c]
        exact ih (i + 1) fu fv _ _ X' m' (by omega) (by omega) (by omega) r3
theorem c_simulate {B : Nat} (h : RG B X m) (hB : B + 5000 * 51 < 2 ^ 30) (hN : 13000 ≤ N) (hN2 : N < 2 ^ 31) (y : Int64) (x : Int32) : ∃ o X' b m', fX4_simulate N y x X = some (o, X') ∧ fX5_simulate N y x m = some (b, m') ∧ RG (B + 5000) X' m' ∧ ((o = .inl b ∧ m' 0 0 = 0) ∨ (o = .inr 1 ∧ m' 0 0 = 1)) := by
  obtain ⟨ht, ⟨n, P, T, J, hrs, hT⟩, hme, hsl⟩ := id h
  unfold fX4_simulate fX5_simulate
  rw [m_within]
  rcases m_rg (lo := 1) (hi := 50) (by decide) (by decide) x with hx | ⟨M, h1, h9, rfl⟩
  · have hx : x < 1 ∨ 50 < x := hx
    refine ⟨.inr 1, X, 0, z_u2 m 0 0 1, ?_, ?_, (h.kd 1).mono (by omega), Or.inr ⟨rfl, m_kd m 1⟩⟩
    · by_cases c : x < 1
      · rw [if_pos c]
      · rw [if_neg c, if_neg (fun q => by
          have h2 := hx.resolve_left c
          rw [Int32.lt_iff_toInt_lt] at h2
          rw [Int32.le_iff_toInt_le] at q
          omega)]
    · rw [if_pos hx, m_bind, if_pos m_00, m_lt, m_kd, if_neg m_n1]
  · have b1 : ¬ nI M < (1 : Int32) := nI_nlt (b := 1) h1 (by omega)
    have b2 : nI M ≤ (50 : Int32) := nI_le (b := 50) h9 (by decide)
    have b3 : ¬ (50 : Int32) < nI M := nI_nlt (b := M) (a := 50) h9 (by decide)
    obtain ⟨u, u1, u2⟩ := m_copyC (N := N) hrs (by omega) hN2 (X.2.2 1)
    have hu := u2 (s'' := m 1) hrs (fun _ _ => rfl)
    rw [if_neg b1, if_pos b2, u1, m_bind, m_lt, if_neg (fun q => q.elim b1 b3), m_bind, if_neg m_1_0, m_lt, m_kd, if_pos m_z0, m_kd1 m 0 (by decide : (1 : Nat) ≠ 0), m_kd1 m 0 (by decide : (3 : Nat) ≠ 0), m_copy0 hN, m_bind, m_lt]
    obtain ⟨m3, hm3⟩ : ∃ m3, m3 = z_uR (z_u2 m 0 0 0) 3 (m_cp (m 1) 0 (m 3) 0 925) := ⟨_, rfl⟩
    have hm31 : m3 1 = m 1 := by rw [hm3, m_other _ _ (by decide), m_kd1 m 0 (by decide)]
    have hTI : m_TI (B + 5000 * 0) X m3 (X.1, X.2.1, z_u3 X.2.2 1 u) m3 := by
      refine ⟨rfl, rfl, fun k hk => m_u3n _ _ (by omega), fun _ _ => rfl, fun _ _ => rfl, ?_⟩
      show m_St _ (z_u3 X.2.2 1 u 1) (m3 1)
      rw [m_u3s, hm31]
      exact ⟨n, P, T, J, hu, by omega⟩
    rw [← hm3]
    obtain ⟨told, X', m', p1, p2, p3⟩ := m_simL (N := N) hN (M := M) (B := B) h9 hB (fun x6_50 g50_26 => (fX5_refundedAll N g50_26).bind fun r27 => (fX5_copy N 925 925 (g50_26 3) (0 : Int32) (0 : Int32) (g50_26 1)).bind fun u28 => z_lt (z_uR g50_26 1 u28) fun g28 => (fX5_refundedAll N g28).bind fun r29 => (if (999 : Int32) ≤ (r27 - r29) then some ((((1000 : Int32) * x6_50) + (999 : Int32)), g28) else some ((((1000 : Int32) * x6_50) + (r27 - r29)), g28))) M 0 N N y 0 (X.1, X.2.1, z_u3 X.2.2 1 u) m3 (by omega) (by omega) (by omega) hTI
    obtain ⟨q1, q2, q3, q4, q5, n', P', T', J', q6, q7⟩ := p3
    have e3 : m' 3 = m_cp (m 1) 0 (m 3) 0 925 := by rw [q4 3 (by decide), hm3, m_same]
    have agr : ∀ k, k < 925 → m_cp (m' 3) 0 (m' 1) 0 925 k = m 1 k := fun k hk => by rw [m_cp0 _ _ hk, e3, m_cp0 _ _ hk]
    obtain ⟨ra, rb⟩ := m_refundedAll (N := N) (m := m') q6 trivial (by omega) hN2
    rw [m_self] at rb
    obtain ⟨rc, rd⟩ := m_refundedAll (N := N) (m := m') (hrs.ag agr) trivial (by omega) hN2
    obtain ⟨dd, hdd⟩ : ∃ dd, dd = m_sum (X'.2.2 1 11) 4 - m_sum (X.2.2 0 11) 4 := ⟨_, rfl⟩
    refine ⟨.inl (1000 * told + (if (999 : Int32) < dd then 999 else dd)), X', 1000 * told + (if (999 : Int32) < dd then 999 else dd), z_uR m' 1 (m_cp (m' 3) 0 (m' 1) 0 925), ?_, ?_, ?_, Or.inl ⟨rfl, ?_⟩⟩
    · rw [show lX4_simulate_42 N (nI M) N y 0 0 (X.1, X.2.1, z_u3 X.2.2 1 u) = _ from p1]
      unfold m_simE
      rw [ra, m_bind, q3 0 (Or.inl rfl), rc, m_bind, hdd]
    · rw [show lX5_simulate_50 N (nI M) _ N y 0 0 m3 = _ from p2, rb, m_bind, m_copy0 hN, m_bind, m_lt, rd, m_bind, ← hdd]
      by_cases c : (999 : Int32) < dd
      · rw [if_pos c, if_pos (by rw [Int32.le_iff_toInt_le]; rw [Int32.lt_iff_toInt_lt] at c; omega)]
      · rw [if_neg c]
        by_cases c2 : (999 : Int32) ≤ dd
        · have e : dd = 999 := by
            apply Int32.toInt_inj.mp
            rw [Int32.le_iff_toInt_le] at c2
            rw [Int32.lt_iff_toInt_lt] at c
            omega
          rw [if_pos c2, e]
        · rw [if_neg c2]
    · refine RG.mono ((h.kd 0).tk q1 q2 q3 (fun k hk => ?_) ⟨?_, ?_, ?_, ?_⟩ ⟨?_, ?_⟩) (by omega)
      · rw [m_same, agr k hk, m_kd1 m 0 (by decide)]
      · rw [m_other _ _ (by decide), q4 5 (by decide), hm3, m_other _ _ (by decide)]
      · rw [m_other _ _ (by decide), q4 6 (by decide), hm3, m_other _ _ (by decide)]
      · rw [m_other _ _ (by decide), q4 7 (by decide), hm3, m_other _ _ (by decide)]
      · rw [m_other _ _ (by decide), q4 8 (by decide), hm3, m_other _ _ (by decide)]
      · rw [m_other _ _ (by decide), q5 1 (by decide), hm3, m_other _ _ (by decide)]
      · rw [m_other _ _ (by decide), q5 2 (by decide), hm3, m_other _ _ (by decide)]
    · rw [m_other _ _ (by decide), q5 0 (by decide), hm3, m_other _ _ (by decide), m_kd]
end MR26
