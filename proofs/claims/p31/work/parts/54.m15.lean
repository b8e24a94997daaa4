/-! the commands that only look -/
section MR15
variable {N B : Nat} {X : z_X} {m : z_R}
theorem m_ticks {n P T J j : Nat} {s : Nat → Int32} (hrs : RS m_Al n P T J (X.2.2 j) s) (hm : m 1 = s) (hj : j ≠ 2) (hT : T + 4900 < 2 ^ 30) (hN : 13000 ≤ N) (hN2 : N < 2 ^ 31) (x : Int32) : ∃ T' e g' m', T ≤ T' ∧ T' ≤ T + 4900 ∧ fX4_ticksOfRun N j x X = some (nI (T' - T), (X.1, X.2.1, z_u3 X.2.2 2 g')) ∧ fX5_ticksOf N x m = some (nI (T' - T), m') ∧ g' 0 3 = e ∧ m' 0 3 = e ∧ (∀ k, k < 925 → m' 1 k = m 1 k) ∧ (∀ r, 3 ≤ r → m' r = m r) ∧ (∀ k, k ≠ 3 → m' 0 k = m 0 k) := by
  obtain ⟨u, u1, u2⟩ := m_copyC (N := N) hrs (by omega) hN2 (X.2.2 2)
  have hu := u2 (s'' := s) hrs (fun _ _ => rfl)
  obtain ⟨e, je, g', s', T', J', e1, e2, e3, e4, e5, e6, e7, e8, e9, -⟩ := m_runs (N := N) (m := z_uR m 2 (m_cp s 0 (m 2) 0 925)) hu ⟨trivial, trivial, trivial, trivial, trivial, trivial, trivial⟩ (fun _ => trivial) (by omega) hT x
  refine ⟨T', e, g', z_uR (z_u2 (z_uR (z_uR m 2 (m_cp s 0 (m 2) 0 925)) 1 s') 0 3 e) 1 (m_cp (m_cp s 0 (m 2) 0 925) 0 s' 0 925), e6, e7, ?_, ?_, e8, ?_, fun k hk => ?_, fun r hr => ?_, fun k hk => ?_⟩
  · unfold fX4_ticksOfRun
    rw [u1, m_bind, m_lt]
    dsimp only
    rw [m_u3s, e3, m_b2, m_lt]
    dsimp only
    rw [m_u3s, m_u3n _ g' hj, m_u3n _ u hj, e5.gT, hrs.gT, pk_sub e6]
    congr 4
    funext a
    by_cases c : a = 2
    · subst c; rw [m_u3s, m_u3s]
    · rw [m_u3n _ _ c, m_u3n _ _ c, m_u3n _ _ c]
  · unfold fX5_ticksOf
    have hmm : z_uR m 2 (m_cp s 0 (m 2) 0 925) = z_uR (z_uR m 2 (m_cp s 0 (m 2) 0 925)) 1 s := by
      rw [← hm]
      have q := m_self (z_uR m 2 (m_cp (m 1) 0 (m 2) 0 925)) 1
      rw [m_other _ _ (by decide : (1 : Nat) ≠ 2)] at q
      exact q.symm
    rw [← hmm] at e4
    rw [m_cpM (ln := 925) (lk := 925) (x := 0) (y := 0) (N := N) (a := 0) (b := 0) rfl rfl (by decide) (by decide) (by decide) (by decide) (by omega), m_bind, m_lt, hm, e4, m_b2, m_t4, m_same, e9, m_lt]
    rw [m_u2n _ _ _ (by decide : (2 : Nat) ≠ 0), m_other _ _ (by decide : (2 : Nat) ≠ 1), m_same, m_u2n _ _ _ (by decide : (1 : Nat) ≠ 0), m_same, m_cpM (ln := 925) (lk := 925) (x := 0) (y := 0) (N := N) (a := 0) (b := 0) rfl rfl (by decide) (by decide) (by decide) (by decide) (by omega), m_bind, m_lt, m_t1, e5.sT trivial]
    have q := m_cpI (f := s) (u := m 2) (a := 0) (b := 0) (k := 1) (by decide)
    rw [show 0 + 1 = 1 from rfl] at q
    rw [q, hrs.sT trivial, pk_sub e6]
  · rw [m_other _ _ (by decide : (0 : Nat) ≠ 1), m_u2s, m_us]
  · rw [m_same]
    have q := m_cpI (f := m_cp s 0 (m 2) 0 925) (u := s') (a := 0) (b := 0) hk
    rw [Nat.zero_add] at q
    rw [q]
    have q2 := m_cpI (f := s) (u := m 2) (a := 0) (b := 0) hk
    rw [Nat.zero_add] at q2
    rw [q2, hm]
  · rw [m_other _ _ (by omega : r ≠ 1), m_u2n _ _ _ (by omega : r ≠ 0), m_other _ _ (by omega : r ≠ 1), m_other _ _ (by omega : r ≠ 2)]
  · rw [m_other _ _ (by decide : (0 : Nat) ≠ 1), m_u2s, m_un _ _ hk, m_other _ _ (by decide : (0 : Nat) ≠ 1), m_other _ _ (by decide : (0 : Nat) ≠ 2)]
/-- the relation holds on where the reference's state is the same as far as it goes -/
theorem RG.tk (h : RG B X m) {X' : z_X} {m' : z_R} (h1 : X'.1 = X.1) (h2 : X'.2.1 = X.2.1) (h3 : ∀ k, k = 0 ∨ 3 ≤ k → X'.2.2 k = X.2.2 k) (h4 : ∀ k, k < 925 → m' 1 k = m 1 k) (h5 : m' 5 = m 5 ∧ m' 6 = m 6 ∧ m' 7 = m 7 ∧ m' 8 = m 8) (h6 : m' 0 1 = m 0 1 ∧ m' 0 2 = m 0 2) : RG B X' m' := by
  obtain ⟨ht, ⟨n, P, T, J, hrs, hT⟩, hme, hsl⟩ := h
  have hn : m_St B (X'.2.2 0) (m' 1) := by
    rw [h3 0 (Or.inl rfl)]
    exact ⟨n, P, T, J, hrs.cg (fun _ _ => rfl) (fun _ _ _ _ _ => rfl) (fun _ _ => ⟨rfl, rfl⟩) (fun _ _ => ⟨rfl, rfl, rfl⟩) h4, hT⟩
  have h0 : RG B X m := ⟨ht, ⟨n, P, T, J, hrs, hT⟩, hme, hsl⟩
  obtain ⟨q1, -, q3, q4⟩ := h0.fr (X' := X') (m' := z_uR m' 1 (m 1)) h1 h2 h3 ⟨m_same _ _ _, by rw [m_other _ _ (by decide)]; exact h5.1, by rw [m_other _ _ (by decide)]; exact h5.2.1, by rw [m_other _ _ (by decide)]; exact h5.2.2.1, by rw [m_other _ _ (by decide)]; exact h5.2.2.2⟩ ⟨by rw [m_other _ _ (by decide)]; exact h6.1, by rw [m_other _ _ (by decide)]; exact h6.2⟩
  refine ⟨?_, hn, ?_, ?_⟩
  · obtain ⟨len, t1, t2, t3, t4⟩ := q1
    exact ⟨len, t1, t2, by rw [m_other _ _ (by decide)] at t3; exact t3, by rw [m_other _ _ (by decide)] at t4; exact t4⟩
  · obtain ⟨old, sz, a1, a2, a3, a4, a5, a6⟩ := q3
    exact ⟨old, sz, a1, a2, a3, a4, by rw [m_other _ _ (by decide)] at a5; exact a5, by rw [m_other _ _ (by decide)] at a6; exact a6⟩
  · intro i hi
    have := q4 i hi
    rw [m_other _ _ (by decide : (7 : Nat) ≠ 1), m_other _ _ (by decide : (6 : Nat) ≠ 1)] at this
    exact this
theorem c_time (h : RG B X m) (hB : B + 5000 < 2 ^ 30) (hN : 13000 ≤ N) (hN2 : N < 2 ^ 31) (x : Int32) : ∃ o X' b m', fX4_time N x X = some (o, X') ∧ fX5_time N x m = some (b, m') ∧ RG (B + 5000) X' m' ∧ ((o = .inl b ∧ m' 0 0 = 0) ∨ (o = .inr 3 ∧ m' 0 0 = 1)) := by
  obtain ⟨ht, ⟨n, P, T, J, hrs, hT⟩, hme, hsl⟩ := id h
  have h16 := hrs.n16
  unfold fX4_time fX5_time
  rcases m_cs x (n := n) (by omega) with ⟨q, hq, e⟩ | ⟨hx, -⟩
  · obtain ⟨T', ee, g', m', t1, t2, t3, t4, t5, t6, t7, t8, t9⟩ := m_ticks (N := N) (m := z_u2 m 0 0 0) hrs (m_kd1 m 0 (by decide)) (by decide) (by omega) hN hN2 x
    refine ⟨.inl (nI (T' - T)), (X.1, X.2.1, z_u3 X.2.2 2 g'), nI (T' - T), m', ?_, ?_, ?_, Or.inl ⟨rfl, by rw [t9 0 (by decide), m_kd]⟩⟩
    · rw [e, m_hasY hrs.gn h16 hq, m_bind, if_neg m_1_0, ← e, t3, m_b2]
    · rw [e, m_ioY hrs.sn h16 hq, m_bind, if_neg m_1_0, m_lt, m_kd, if_pos m_z0, ← e, t4, m_b2]
    · refine RG.mono ((h.kd 0).tk (m' := m') rfl rfl (fun k hk => ?_) t7 ⟨t8 5 (by decide), t8 6 (by decide), t8 7 (by decide), t8 8 (by decide)⟩ ⟨t9 1 (by decide), t9 2 (by decide)⟩) (by omega)
      exact m_u3n _ _ (by omega)
  · refine ⟨.inr 3, X, 0, z_u2 m 0 0 1, ?_, ?_, (h.kd 1).mono (by omega), Or.inr ⟨rfl, m_kd m 1⟩⟩
    · rw [m_hasN hrs.gn hx, m_bind, if_pos m_00]
    · rw [m_ioN hrs.sn h16 hx, m_bind, if_pos m_00, m_lt, m_kd, if_neg m_n1]
theorem c_waits (h : RG B X m) (hB : B + 5000 < 2 ^ 30) (hN : 13000 ≤ N) (x : Int32) : ∃ o X' b m', fX4_waits N x X = some (o, X') ∧ fX5_waits N x m = some (b, m') ∧ RG (B + 5000) X' m' ∧ ((o = .inl b ∧ m' 0 0 = 0) ∨ (o = .inr 3 ∧ m' 0 0 = 1)) := by
  obtain ⟨ht, ⟨n, P, T, J, hrs, hT⟩, hme, hsl⟩ := id h
  have h16 := hrs.n16
  unfold fX4_waits fX5_waits
  rcases m_cs x (n := n) (by omega) with ⟨q, hq, rfl⟩ | ⟨hx, -⟩
  · rw [m_hasY hrs.gn h16 hq, m_bind, if_neg m_1_0, m_ioY hrs.sn h16 hq, m_bind, if_neg m_1_0, m_lt, m_kd, if_pos m_z0, m_part (p := 5) (k := 5) (r := 6) rfl rfl (by omega) (by decide), m_bind, m_kd1 m 0 (by decide), hrs.or hq (by decide) (by decide) trivial]
    by_cases c : X.2.2 0 6 q = -1
    · refine ⟨.inl (-1), X, -1, z_u2 m 0 0 0, ?_, by rw [if_pos c], (h.kd 0).mono (by omega), Or.inl ⟨rfl, m_kd m 0⟩⟩
      unfold fX2_waitFor fX2_isOnDrum
      rw [m_hasY hrs.gn h16 hq, m_bind, if_neg m_1_0, m_in (by omega) (by decide), m_ckt, m_clamp (by omega), if_pos c, m_bind, if_pos m_00, m_bind]
    · obtain ⟨p, hp, ep⟩ := (hrs.pl hq).resolve_left c
      obtain ⟨w1, w2⟩ := m_wait (N := N) (m := z_u2 m 0 0 0) hrs trivial trivial (by omega) hq ep hp
      rw [← m_rk 0] at w2
      exact ⟨.inl (nI ((p + P - T % P) % P)), X, nI ((p + P - T % P) % P), z_u2 m 0 0 0, by rw [w1, m_bind], by rw [if_neg c, w2, m_bind], (h.kd 0).mono (by omega), Or.inl ⟨rfl, m_kd m 0⟩⟩
  · refine ⟨.inr 3, X, 0, z_u2 m 0 0 1, ?_, ?_, (h.kd 1).mono (by omega), Or.inr ⟨rfl, m_kd m 1⟩⟩
    · rw [m_hasN hrs.gn hx, m_bind, if_pos m_00]
    · rw [m_ioN hrs.sn h16 hx, m_bind, if_pos m_00, m_lt, m_kd, if_neg m_n1]
theorem c_at (h : RG B X m) (hN : 13000 ≤ N) (x : Int32) : ∃ o X' b m', fX4_at N x X = some (o, X') ∧ fX5_at N x m = some (b, m') ∧ RG (B + 5000) X' m' ∧ ((o = .inl b ∧ m' 0 0 = 0) ∨ (o = .inr 3 ∧ m' 0 0 = 1)) := by
  obtain ⟨ht, ⟨n, P, T, J, hrs, hT⟩, hme, hsl⟩ := id h
  have h16 := hrs.n16
  have hP4 := hrs.P40
  unfold fX4_at fX5_at
  rcases m_cs x (n := P) (by omega) with ⟨p, hp, rfl⟩ | ⟨hx, -⟩
  · obtain ⟨r, a1, a2, -⟩ := m_on2 (N := N) (m := z_u2 m 0 0 0) hrs trivial (by omega) (p := nI p) (m_nN p (by omega))
    rw [← m_rk 0] at a2
    exact ⟨.inl r, X, r, z_u2 m 0 0 0, by rw [m_hpY hrs.gP (by omega) hp, m_bind, if_neg m_1_0, a1, m_bind], by rw [m_ipY hrs.sP hP4 hp, m_bind, if_neg m_1_0, m_lt, m_kd, if_pos m_z0, a2, m_bind], (h.kd 0).mono (by omega), Or.inl ⟨rfl, m_kd m 0⟩⟩
  · refine ⟨.inr 3, X, 0, z_u2 m 0 0 1, ?_, ?_, (h.kd 1).mono (by omega), Or.inr ⟨rfl, m_kd m 1⟩⟩
    · rw [m_hpN hrs.gP hx, m_bind, if_pos m_00]
    · rw [m_ipN hrs.sP hP4 hx, m_bind, if_pos m_00, m_lt, m_kd, if_neg m_n1]
theorem c_order (h : RG B X m) (hN : 13000 ≤ N) (x w : Int32) : ∃ o X' b m', fX4_order N x w X = some (o, X') ∧ fX5_order N x w m = some (b, m') ∧ RG (B + 5000) X' m' ∧ ((o = .inl b ∧ m' 0 0 = 0) ∨ (o = .inr 3 ∧ m' 0 0 = 1) ∨ (o = .inr 1 ∧ m' 0 0 = 2)) := by
  obtain ⟨ht, ⟨n, P, T, J, hrs, hT⟩, hme, hsl⟩ := id h
  have h16 := hrs.n16
  unfold fX4_order fX5_order
  rcases m_cs x (n := n) (by omega) with ⟨q, hq, rfl⟩ | ⟨hx, -⟩
  · rw [m_hasY hrs.gn h16 hq, m_bind, if_neg m_1_0, m_ioY hrs.sn h16 hq, m_bind, if_neg m_1_0]
    have e8 : (8 : Int32) = nI 9 - 1 := by decide
    rcases m_cs w (n := 9) (by decide) with ⟨k, hk, rfl⟩ | ⟨hw, hno⟩
    · have i1 : z_in (nI q) 16 = true := m_in (by omega) (by decide)
      have c1 : (nI q).toNatClampNeg = q := m_clamp (by omega)
      refine ⟨.inl (X.2.2 0 (k + 1) q), X, X.2.2 0 (k + 1) q, z_u2 m 0 0 0, ?_, ?_, (h.kd 0).mono (by omega), Or.inl ⟨rfl, m_kd m 0⟩⟩
      · rw [i1, c1]
        rcases (show k = 0 ∨ k = 1 ∨ k = 2 ∨ k = 3 ∨ k = 4 ∨ k = 5 ∨ k = 6 ∨ k = 7 ∨ k = 8 by omega) with e | e | e | e | e | e | e | e | e <;> subst e <;> rfl
      · rw [e8, m_wiY (by decide) hk, m_bind, if_neg m_1_0, m_lt, m_kd, if_pos m_z0, m_part (p := nI k) (k := k) (r := k + 1) rfl rfl (by omega) (by omega), m_bind, m_kd1 m 0 (by decide), hrs.or hq (by omega) (by omega) trivial]
    · refine ⟨.inr 1, X, 0, z_u2 m 0 0 2, ?_, ?_, (h.kd 2).mono (by omega), Or.inr (Or.inr ⟨rfl, m_kd m 2⟩)⟩
      · have hne : ∀ k, k < 9 → ¬ w = nI k := fun k hk e => hno ⟨k, hk, e⟩
        rw [if_neg (show ¬ w = (0 : Int32) from hne 0 (by decide)), if_neg (show ¬ w = (1 : Int32) from hne 1 (by decide)), if_neg (show ¬ w = (2 : Int32) from hne 2 (by decide)), if_neg (show ¬ w = (3 : Int32) from hne 3 (by decide)), if_neg (show ¬ w = (4 : Int32) from hne 4 (by decide)), if_neg (show ¬ w = (5 : Int32) from hne 5 (by decide)), if_neg (show ¬ w = (6 : Int32) from hne 6 (by decide)), if_neg (show ¬ w = (7 : Int32) from hne 7 (by decide)), if_neg (show ¬ w = (8 : Int32) from hne 8 (by decide))]
      · rw [e8, m_wiN (by decide) hw, m_bind, if_pos m_00, m_lt, m_kd, if_neg m_n2]
  · refine ⟨.inr 3, X, 0, z_u2 m 0 0 1, ?_, ?_, (h.kd 1).mono (by omega), Or.inr (Or.inl ⟨rfl, m_kd m 1⟩)⟩
    · rw [m_hasN hrs.gn hx, m_bind, if_pos m_00]
    · rw [m_ioN hrs.sn h16 hx, m_bind, if_pos m_00, m_lt, m_kd, if_neg m_n1]
end MR15
