/-! saves, bestPlace, leastBribe -/
section MR19
variable {N B : Nat} {X : z_X} {m : z_R}
theorem m_tickC {n P T J j : Nat} {s : Nat → Int32} (hrs : RS m_Al n P T J (X.2.2 j) s) (hj : j ≠ 2) (hT : T + 4900 < 2 ^ 30) (hN : 13000 ≤ N) (hN2 : N < 2 ^ 31) (x : Int32) : ∃ T' e g' s' J', T ≤ T' ∧ T' ≤ T + 4900 ∧ fX4_ticksOfRun N j x X = some (nI (T' - T), (X.1, X.2.1, z_u3 X.2.2 2 g')) ∧ fX5_runs N x (z_uR m 1 s) = some (e, z_uR m 1 s') ∧ RS m_Al n P T' J' g' s' ∧ g' 0 3 = e ∧ s' 4 = e := by
  obtain ⟨u, u1, u2⟩ := m_copyC (N := N) hrs (by omega) hN2 (X.2.2 2)
  have hu := u2 (s'' := s) hrs (fun _ _ => rfl)
  obtain ⟨e, je, g', s', T', J', e1, e2, e3, e4, e5, e6, e7, e8, e9, -⟩ := m_runs (N := N) (m := m) hu ⟨trivial, trivial, trivial, trivial, trivial, trivial, trivial⟩ (fun _ => trivial) (by omega) hT x
  refine ⟨T', e, g', s', J', e6, e7, ?_, e4, e5, e8, e9⟩
  unfold fX4_ticksOfRun
  rw [u1, m_bind, m_lt]
  dsimp only
  rw [m_u3s, e3, m_b2, m_lt]
  dsimp only
  rw [m_u3s, m_u3n _ g' hj, m_u3n _ u hj, e5.gT, hrs.gT, pk_sub e6]
  congr 4
  funext a
  by_cases c : a = 2
  · subst c; rw [m_u3s, m_u3s]
  · rw [m_u3n _ _ c, m_u3n _ _ c, m_u3n _ _ c]
theorem m_cp0 (f u : Nat → Int32) {k : Nat} (hk : k < 925) : m_cp f 0 u 0 925 k = f k := by
  have q := m_cpI (f := f) (u := u) (a := 0) (b := 0) hk
  rw [Nat.zero_add] at q
  exact q
theorem m_copy0 (hN : 13000 ≤ N) (f u : Nat → Int32) : fX5_copy N 925 925 f 0 0 u = some (m_cp f 0 u 0 925) := m_cpM (x := 0) (y := 0) (a := 0) (b := 0) rfl rfl (by decide) (by decide) (by decide) (by decide) (by omega) f u
theorem RS.ag {E : Nat → Prop} {n P T J : Nat} {g : z_R} {s s' : Nat → Int32} (h : RS E n P T J g s) (hs : ∀ k, k < 925 → s' k = s k) : RS E n P T J g s' := h.cg (fun _ _ => rfl) (fun _ _ _ _ _ => rfl) (fun _ _ => ⟨rfl, rfl⟩) (fun _ _ => ⟨rfl, rfl, rfl⟩) hs
theorem c_saves (h : RG B X m) (hB : B + 5000 < 2 ^ 30) (hN : 13000 ≤ N) (hN2 : N < 2 ^ 31) (x : Int32) : ∃ o X' b m', fX4_saves N x X = some (o, X') ∧ fX5_saves N x m = some (b, m') ∧ RG (B + 5000) X' m' ∧ ((o = .inl b ∧ m' 0 0 = 0) ∨ (o = .inr 3 ∧ m' 0 0 = 1)) := by
  obtain ⟨ht, ⟨n, P, T, J, hrs, hT⟩, hme, hsl⟩ := id h
  have h16 := hrs.n16
  unfold fX4_saves fX5_saves
  rcases m_cs x (n := n) (by omega) with ⟨q, hq, e⟩ | ⟨hx, -⟩
  · obtain ⟨u, u1, u2⟩ := m_copyC (N := N) hrs (by omega) hN2 (X.2.2 1)
    -- the reference's first run
    obtain ⟨T', ee, g0, m5, t1, t2, -, t4, t5, t6, t7, t8, t9⟩ := m_ticks (N := N) (X := X) (j := 0) (m := z_u2 m 0 0 0) hrs (m_kd1 m 0 (by decide)) (by decide) (by omega) hN hN2 x
    have t7 : ∀ k, k < 925 → m5 1 k = m 1 k := fun k hk => by rw [t7 k hk, m_kd1 m 0 (by decide)]
    have hu := u2 (s'' := m5 1) hrs t7
    obtain ⟨g1, s1, sum, l1, l2, l3, -⟩ := m_layAll (N := N) (m := z_uR m5 2 (m_cp (m5 1) 0 (m5 2) 0 925)) hu ⟨trivial, trivial, trivial, trivial, trivial⟩ (fun _ => trivial) (by omega)
    rw [show z_uR (z_uR m5 2 (m_cp (m5 1) 0 (m5 2) 0 925)) 1 (m5 1) = z_uR m5 2 (m_cp (m5 1) 0 (m5 2) 0 925) by
      have q := m_self (z_uR m5 2 (m_cp (m5 1) 0 (m5 2) 0 925)) 1
      rw [m_other _ _ (by decide : (1 : Nat) ≠ 2)] at q
      exact q] at l2
    obtain ⟨X6, hX6⟩ : ∃ X6 : z_X, X6 = (X.1, X.2.1, z_u3 (z_u3 X.2.2 1 u) 1 g1) := ⟨_, rfl⟩
    have x60 : X6.2.2 0 = X.2.2 0 := by rw [hX6]; dsimp only; rw [m_u3n _ _ (by decide), m_u3n _ _ (by decide)]
    obtain ⟨Ta, ea, ga, ma, a1, a2, a3, a4, -⟩ := m_ticks (N := N) (X := X6) (j := 0) (m := z_u2 m 0 0 0) (by rw [x60]; exact hrs) (m_kd1 m 0 (by decide)) (by decide) (by omega) hN hN2 x
    have eTa : nI (Ta - T) = nI (T' - T) := (Prod.mk.inj (Option.some.inj (a4.symm.trans t4))).1
    obtain ⟨X7, hX7⟩ : ∃ X7 : z_X, X7 = (X6.1, X6.2.1, z_u3 X6.2.2 2 ga) := ⟨_, rfl⟩
    have x71 : X7.2.2 1 = g1 := by rw [hX7]; dsimp only; rw [m_u3n _ _ (by decide), hX6]; dsimp only; rw [m_u3s]
    obtain ⟨Tb, eb, gb, sb, Jb, b1, b2, b3, b4, b5, b6, b7⟩ := m_tickC (N := N) (X := X7) (j := 1) (m := z_uR m5 2 (m_cp (m5 1) 0 (m5 2) 0 925)) (by rw [x71]; exact l3) (by decide) (by omega) hN hN2 x
    refine ⟨.inl (nI (T' - T) - nI (Tb - T)), (X7.1, X7.2.1, z_u3 X7.2.2 2 gb), nI (T' - T) - nI (Tb - T), z_uR (z_uR (z_uR m5 2 (m_cp (m5 1) 0 (m5 2) 0 925)) 1 sb) 1 (m_cp (m_cp (m5 1) 0 (m5 2) 0 925) 0 sb 0 925), ?_, ?_, ?_, Or.inl ⟨rfl, ?_⟩⟩
    · rw [e, m_hasY hrs.gn h16 hq, m_bind, if_neg m_1_0, ← e, u1, m_bind, m_lt]
      (try dsimp only)
      rw [m_u3s, l1, m_b2, m_lt]
      (try dsimp only)
      rw [← hX6, a3, m_b2, ← hX7, b3, m_b2, eTa]
    · rw [e, m_ioY hrs.sn h16 hq, m_bind, if_neg m_1_0, m_lt, m_kd, if_pos m_z0, ← e, t4, m_b2, m_copy0 hN, m_bind, m_lt, l2, m_b2, b4, m_b2, m_other _ _ (by decide : (2 : Nat) ≠ 1), m_same, m_same, m_copy0 hN, m_bind, m_lt, m_t1, m_same, b5.sT trivial, l3.sT trivial, pk_sub b1]
    · refine RG.mono ((h.kd 0).tk ?_ ?_ (fun k hk => ?_) (fun k hk => ?_) ⟨?_, ?_, ?_, ?_⟩ ⟨?_, ?_⟩) (by omega)
      · rw [hX7, hX6]
      · rw [hX7, hX6]
      · show z_u3 X7.2.2 2 gb k = X.2.2 k
        rw [m_u3n _ _ (by omega), hX7]
        show z_u3 X6.2.2 2 ga k = _
        rw [m_u3n _ _ (by omega), hX6]
        show z_u3 (z_u3 X.2.2 1 u) 1 g1 k = _
        rw [m_u3n _ _ (by omega), m_u3n _ _ (by omega)]
      · rw [m_same, m_cp0 _ _ hk, m_cp0 _ _ hk, t7 k hk, m_kd1 m 0 (by decide)]
      · rw [m_other _ _ (by decide), m_other _ _ (by decide), m_other _ _ (by decide)]; exact t8 5 (by decide)
      · rw [m_other _ _ (by decide), m_other _ _ (by decide), m_other _ _ (by decide)]; exact t8 6 (by decide)
      · rw [m_other _ _ (by decide), m_other _ _ (by decide), m_other _ _ (by decide)]; exact t8 7 (by decide)
      · rw [m_other _ _ (by decide), m_other _ _ (by decide), m_other _ _ (by decide)]; exact t8 8 (by decide)
      · rw [m_other _ _ (by decide), m_other _ _ (by decide), m_other _ _ (by decide)]; exact t9 1 (by decide)
      · rw [m_other _ _ (by decide), m_other _ _ (by decide), m_other _ _ (by decide)]; exact t9 2 (by decide)
    · rw [m_other _ _ (by decide), m_other _ _ (by decide), m_other _ _ (by decide), t9 0 (by decide), m_kd]
  · refine ⟨.inr 3, X, 0, z_u2 m 0 0 1, ?_, ?_, (h.kd 1).mono (by omega), Or.inr ⟨rfl, m_kd m 1⟩⟩
    · rw [m_hasN hrs.gn hx, m_bind, if_pos m_00]
    · rw [m_ioN hrs.sn h16 hx, m_bind, if_pos m_00, m_lt, m_kd, if_neg m_n1]
end MR19
