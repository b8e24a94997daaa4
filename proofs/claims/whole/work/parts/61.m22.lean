/-! a command of a script, on the trial and on the reference's state -/
section MR22
variable {N : Nat} {X X0 : z_X} {m m0 : z_R}
def m_TI (B : Nat) (X0 : z_X) (m0 : z_R) (X : z_X) (m : z_R) : Prop := X.1 = X0.1 ∧ X.2.1 = X0.2.1 ∧ (∀ k, k = 0 ∨ 3 ≤ k → X.2.2 k = X0.2.2 k) ∧ (∀ r, 3 ≤ r → m r = m0 r) ∧ (∀ k, k ≠ 3 → m 0 k = m0 0 k) ∧ m_St B (X.2.2 1) (m 1)
theorem m_TI.mono {B B' : Nat} (h : m_TI B X0 m0 X m) (hB : B ≤ B') : m_TI B' X0 m0 X m := ⟨h.1, h.2.1, h.2.2.1, h.2.2.2.1, h.2.2.2.2.1, h.2.2.2.2.2.mono hB⟩
/-- the trial is another one -/
theorem m_TI.tr {B B' : Nat} {g : z_R} {s : Nat → Int32} (h : m_TI B X0 m0 X m) (hs : m_St B' g s) : m_TI B' X0 m0 (X.1, X.2.1, z_u3 X.2.2 1 g) (z_uR m 1 s) := by
  refine ⟨h.1, h.2.1, fun k hk => ?_, fun r hr => ?_, fun k hk => ?_, ?_⟩
  · show z_u3 X.2.2 1 g k = _
    rw [m_u3n _ _ (by omega)]; exact h.2.2.1 k hk
  · rw [m_other _ _ (by omega)]; exact h.2.2.2.1 r hr
  · rw [m_other _ _ (by decide)]; exact h.2.2.2.2.1 k hk
  · show m_St B' (z_u3 X.2.2 1 g 1) _
    rw [m_u3s, m_same]; exact hs
def m_Cm (B : Nat) (X0 : z_X) (m0 : z_R) (p : Option (Int32 × z_X)) (q : Option (Int32 × z_R)) : Prop := ∃ r X' m', (r = 0 ∨ r = 1) ∧ p = some (r, X') ∧ q = some (r, m') ∧ m_TI B X0 m0 X' m'
theorem m_cRun {B : Nat} (h : m_TI B X0 m0 X m) (hB : B + 5000 < 2 ^ 30) (hN : 13000 ≤ N) (x : Int32) : m_Cm (B + 5000) X0 m0 (fX4_runsOnTrial N x X) (fX5_runsFrom N x m) := by
  obtain ⟨n, P, T, J, hrs, hT⟩ := h.2.2.2.2.2
  have h16 := hrs.n16
  unfold fX4_runsOnTrial fX5_runsFrom
  rcases m_cs x (n := n) (by omega) with ⟨q, hq, e⟩ | ⟨hx, -⟩
  · obtain ⟨ee, j, g', s', T', J', e1, e2, e3, e4, e5, e6, e7, -⟩ := m_runs (N := N) (m := m) hrs ⟨trivial, trivial, trivial, trivial, trivial, trivial, trivial⟩ (fun _ => trivial) (by omega) (by omega) x
    rw [m_self] at e4
    refine ⟨1, _, _, Or.inr rfl, ?_, ?_, h.tr (g := g') (s := s') ⟨n, P, T', J', e5, by omega⟩⟩
    · rw [e, m_hasY hrs.gn h16 hq, m_bind, if_neg m_1_0, ← e, e3, m_b2, m_lt]
    · rw [e, m_ioY hrs.sn h16 hq, m_bind, if_neg m_1_0, ← e, e4, m_b2, m_b1, m_ckt]
  · exact ⟨0, X, m, Or.inl rfl, by rw [m_hasN hrs.gn hx, m_bind, if_pos m_00], by rw [m_ioN hrs.sn h16 hx, m_bind, if_pos m_00, m_b0, m_ckt], h.mono (by omega)⟩
theorem m_cLay {B : Nat} (h : m_TI B X0 m0 X m) (hN : 13000 ≤ N) : m_Cm (B + 5000) X0 m0 (z_b2 (fX2_layAll N (X.2.2 1)) fun r7 u7 => z_lt ((X.1, X.2.1, z_u3 X.2.2 1 u7)) fun X8 => some ((1 : Int32), X8)) (fX5_lays N m) := by
  obtain ⟨n, P, T, J, hrs, hT⟩ := h.2.2.2.2.2
  obtain ⟨g', s', sum, e1, e2, e3, -⟩ := m_layAll (N := N) (m := m) hrs ⟨trivial, trivial, trivial, trivial, trivial⟩ (fun _ => trivial) (by omega)
  rw [m_self] at e2
  exact ⟨1, _, _, Or.inr rfl, by rw [e1, m_b2, m_lt], by unfold fX5_lays; rw [e2, m_b2], h.tr (g := g') (s := s') ⟨n, P, T, J, e3, by omega⟩⟩
theorem m_cMove {B : Nat} (h : m_TI B X0 m0 X m) (hN : 13000 ≤ N) (x y : Int32) : m_Cm (B + 5000) X0 m0 (fX4_movesOnTrial N x y X) (fX5_moves N x y m) := by
  obtain ⟨n, P, T, J, hrs, hT⟩ := h.2.2.2.2.2
  have h16 := hrs.n16
  have hP4 := hrs.P40
  unfold fX4_movesOnTrial fX5_moves
  rcases m_cs x (n := n) (by omega) with ⟨o, ho, rfl⟩ | ⟨hx, -⟩
  · rcases m_cs y (n := P) (by omega) with ⟨p, hp, rfl⟩ | ⟨hy, -⟩
    · rw [m_hasY hrs.gn h16 ho, m_bind, if_neg m_1_0, m_hpY hrs.gP (by omega) hp, m_bind, if_neg m_1_0]
      rcases m_free (N := N) (m := m) hrs (by omega) ho hp with ⟨f1, f2, f3⟩ | ⟨f1, f2⟩
      · rw [m_self] at f2
        obtain ⟨g', s', -, t1, t2, t3, -⟩ := m_put (N := N) (m := m) hrs trivial (fun _ => trivial) ho (v := nI p) (Or.inr ⟨p, hp, rfl⟩) (Or.inr f3)
        rw [m_self] at t2
        exact ⟨1, _, _, Or.inr rfl, by rw [f1, m_bind, if_neg m_1_0, t1, m_b2, m_lt], by rw [f2, m_bind, if_pos m_00, t2, m_b2], h.tr (g := g') (s := s') ⟨n, P, T, J, t3, by omega⟩⟩
      · rw [m_self] at f2
        exact ⟨0, X, m, Or.inl rfl, by rw [f1, m_bind, if_pos m_00], by rw [f2, m_bind, if_neg (by decide)], h.mono (by omega)⟩
    · refine ⟨0, X, m, Or.inl rfl, ?_, ?_, h.mono (by omega)⟩
      · rw [m_hasY hrs.gn h16 ho, m_bind, if_neg m_1_0, m_hpN hrs.gP hy, m_bind, if_pos m_00]
      · unfold fX5_whyNotMoved
        rw [m_ioY hrs.sn h16 ho, m_bind, if_neg m_1_0, m_ipN hrs.sP hP4 hy, m_bind, if_pos m_00, m_bind, if_neg m_1_0]
  · refine ⟨0, X, m, Or.inl rfl, ?_, ?_, h.mono (by omega)⟩
    · rw [m_hasN hrs.gn hx, m_bind, if_pos m_00]
    · unfold fX5_whyNotMoved
      rw [m_ioN hrs.sn h16 hx, m_bind, if_pos m_00, m_bind, if_neg m_1_0]
theorem m_cTurn {B : Nat} (h : m_TI B X0 m0 X m) (hB : B + 5000 < 2 ^ 30) {k : Nat} (hk : k < 100) : m_Cm (B + 5000) X0 m0 (fX4_turnsOnTrial N (nI k) X) (fX5_turns N (nI k) m) := by
  obtain ⟨n, P, T, J, hrs, hT⟩ := h.2.2.2.2.2
  unfold fX4_turnsOnTrial fX5_turns
  by_cases c : k = 0
  · subst c
    have a1 : fX4_isTurn N (nI 0) = some 0 := (m_tu (N := N) (x := nI 0) (Or.inl (by decide))).1
    refine ⟨0, X, m, Or.inl rfl, by rw [a1, m_bind, if_pos m_00], ?_, h.mono (by omega)⟩
    rw [m_t1, nI_0, Int32.add_zero, m_lt, if_pos m_z0]
    congr 2
    funext a
    by_cases c : a = 1
    · subst c
      rw [m_u2s]
      funext j
      by_cases c2 : j = 1
      · subst c2; rw [m_us]
      · rw [m_un _ _ c2]
    · rw [m_u2n _ _ _ c]
  · have a1 := (m_tuY (N := N) (k := k) (by omega) (by omega)).1
    have hr2 : RS m_Al n P (T + k) J (z_u2 (X.2.2 1) 0 2 (nI (T + k))) (upd (m 1) 1 (nI (T + k))) := hrs.tk
    refine ⟨1, _, _, Or.inr rfl, ?_, ?_, h.tr (g := z_u2 (X.2.2 1) 0 2 (nI (T + k))) (s := upd (m 1) 1 (nI (T + k))) ⟨n, P, T + k, J, hr2, by omega⟩⟩
    · rw [a1, m_bind, if_neg m_1_0, hrs.gT, nI_add, m_lt]
    · rw [m_t1, hrs.sT trivial, nI_add, m_uR, m_lt, if_neg (nI_nle (by omega) (by omega))]
theorem m_cChg {B : Nat} (h : m_TI B X0 m0 X m) (x w v : Int32) : m_Cm (B + 5000) X0 m0 (fX4_changesOnTrial N x w v X) (fX5_changes N x w v m) := by
  obtain ⟨n, P, T, J, hrs, hT⟩ := h.2.2.2.2.2
  have h16 := hrs.n16
  unfold fX4_changesOnTrial fX5_changes
  rcases m_cs x (n := n) (by omega) with ⟨q, hq, rfl⟩ | ⟨hx, -⟩
  · rw [m_hasY hrs.gn h16 hq, m_bind, if_neg m_1_0, m_ioY hrs.sn h16 hq, m_bind, if_neg m_1_0]
    rcases m_num (N := N) w v with ⟨a1, a2, k, hk, rfl, hv⟩ | ⟨a1, a2⟩
    · have q1 := m_setP (N := N) (m := m) (s := m 1) (j := q) (v := v) (p := nI k) (k := k) (r := k + 1) rfl rfl (by omega) (by omega)
      rw [m_self] at q1
      exact ⟨1, _, _, Or.inr rfl, by rw [a1, m_bind, if_neg m_1_0, m_repl hk (by omega), m_b2, m_lt], by rw [a2, m_bind, if_neg m_1_0, q1, m_bind], h.tr ⟨n, P, T, J, hrs.ch hk hq hv, by omega⟩⟩
    · exact ⟨0, X, m, Or.inl rfl, by rw [a1, m_bind, if_pos m_00], by rw [a2, m_bind, if_pos m_00], h.mono (by omega)⟩
  · exact ⟨0, X, m, Or.inl rfl, by rw [m_hasN hrs.gn hx, m_bind, if_pos m_00], by rw [m_ioN hrs.sn h16 hx, m_bind, if_pos m_00], h.mono (by omega)⟩
theorem m_cSoon {B : Nat} (h : m_TI B X0 m0 X m) (hB : B + 5000 < 2 ^ 30) (x y : Int32) : ∃ r, (r = 0 ∨ r = 1) ∧ fX4_isSoonOnTrial N x y X = some r ∧ fX5_isSoon N x y m = some r := by
  obtain ⟨n, P, T, J, hrs, hT⟩ := h.2.2.2.2.2
  have h16 := hrs.n16
  unfold fX4_isSoonOnTrial fX5_isSoon
  rcases m_cs x (n := n) (by omega) with ⟨q, hq, rfl⟩ | ⟨hx, -⟩
  · rw [m_ioY hrs.sn h16 hq, m_bind, if_neg m_1_0, m_part (p := 5) (k := 5) (r := 6) rfl rfl (by omega) (by decide), m_bind, hrs.or hq (by decide) (by decide) trivial]
    have hon : fX2_isOnDrum N (nI q) (X.2.2 1) = some (if X.2.2 1 6 q = -1 then 0 else 1) := by
      unfold fX2_isOnDrum
      rw [m_hasY hrs.gn h16 hq, m_bind, if_neg m_1_0, m_in (by omega) (by decide), m_ckt, m_clamp (by omega)]
      by_cases c : X.2.2 1 6 q = -1
      · rw [if_pos c, if_pos c]
      · rw [if_neg c, if_neg c]
    rw [hon, m_bind]
    by_cases c : X.2.2 1 6 q = -1
    · rw [if_pos c, if_pos m_00, if_pos c]
      exact ⟨0, Or.inl rfl, rfl, rfl⟩
    · obtain ⟨p, hp, ep⟩ := (hrs.pl hq).resolve_left c
      obtain ⟨w1, w2⟩ := m_wait (N := N) (m := m) hrs trivial trivial (by omega) hq ep hp
      rw [m_self] at w2
      rw [if_neg c, if_neg m_1_0, if_neg c, w1, m_bind, w2, m_bind]
      by_cases c2 : y < nI ((p + P - T % P) % P)
      · rw [if_pos c2]; exact ⟨0, Or.inl rfl, rfl, rfl⟩
      · rw [if_neg c2]; exact ⟨1, Or.inr rfl, rfl, rfl⟩
  · refine ⟨0, Or.inl rfl, ?_, by rw [m_ioN hrs.sn h16 hx, m_bind, if_pos m_00]⟩
    unfold fX2_isOnDrum
    rw [m_hasN hrs.gn hx, m_bind, if_pos m_00, m_bind, if_pos m_00]
theorem m_cQuick {B : Nat} (h : m_TI B X0 m0 X m) (hB : B + 5000 < 2 ^ 30) (hN : 13000 ≤ N) (hN2 : N < 2 ^ 31) (x y : Int32) : m_Cm (B + 5000) X0 m0 (fX4_isShortOnTrial N x y X) (fX5_isQuick N x y m) := by
  obtain ⟨n, P, T, J, hrs, hT⟩ := h.2.2.2.2.2
  have h16 := hrs.n16
  unfold fX4_isShortOnTrial fX5_isQuick
  rcases m_cs x (n := n) (by omega) with ⟨q, hq, e⟩ | ⟨hx, -⟩
  · obtain ⟨T', ee, g', m', t1, t2, t3, t4, t5, t6, t7, t8, t9⟩ := m_ticks (N := N) (X := X) (j := 1) (m := m) hrs rfl (by decide) (by omega) hN hN2 x
    have h2 : m_TI (B + 5000) X0 m0 (X.1, X.2.1, z_u3 X.2.2 2 g') m' := by
      refine ⟨h.1, h.2.1, fun k hk => ?_, fun r hr => by rw [t8 r hr]; exact h.2.2.2.1 r hr, fun k hk => by rw [t9 k hk]; exact h.2.2.2.2.1 k hk, ?_⟩
      · show z_u3 X.2.2 2 g' k = _
        rw [m_u3n _ _ (by omega)]; exact h.2.2.1 k hk
      · show m_St _ (z_u3 X.2.2 2 g' 1) _
        rw [m_u3n _ _ (by decide)]
        exact ⟨n, P, T, J, hrs.ag t7, by omega⟩
    obtain ⟨u, u1, u2⟩ := m_copyC (N := N) hrs (by omega) hN2 (X.2.2 2)
    have hu := u2 (s'' := m 1) hrs (fun _ _ => rfl)
    obtain ⟨e5, je, g5, s5, T5, J5, -, -, e3, -, -, -, -, e8, -⟩ := m_runs (N := N) (m := m) hu ⟨trivial, trivial, trivial, trivial, trivial, trivial, trivial⟩ (fun _ => trivial) (by omega) (by omega) x
    have t3' := t3
    unfold fX4_ticksOfRun at t3'
    rw [u1, m_bind, m_lt] at t3'
    dsimp only at t3'
    rw [m_u3s, e3, m_b2, m_lt] at t3'
    dsimp only at t3'
    obtain ⟨q1, q2⟩ := Prod.mk.inj (Option.some.inj t3')
    have q3 : g5 = g' := by
      have q := congrFun (Prod.mk.inj (Prod.mk.inj q2).2).2 2
      rw [m_u3s, m_u3s] at q
      exact q
    have q4 : ee = e5 := by rw [← t5, ← e8, q3]
    rw [e, m_hasY hrs.gn h16 hq, m_bind, if_neg m_1_0, m_ioY hrs.sn h16 hq, m_bind, if_neg m_1_0, ← e, t4, m_b2, t6, u1, m_bind, m_lt]
    dsimp only
    rw [m_u3s, e3, m_b2, m_lt]
    dsimp only
    rw [q1, q2, ← q4]
    by_cases c2 : ee = 0
    · rw [if_pos c2, if_pos c2]
      by_cases c : y < nI (T' - T)
      · exact ⟨0, _, _, Or.inl rfl, by rw [if_pos c], by rw [if_pos c], h2⟩
      · exact ⟨1, _, _, Or.inr rfl, by rw [if_neg c], by rw [if_neg c], h2⟩
    · rw [if_neg c2, if_neg c2]
      by_cases c : y < nI (T' - T)
      · exact ⟨0, _, _, Or.inl rfl, rfl, by rw [if_pos c], h2⟩
      · exact ⟨0, _, _, Or.inl rfl, rfl, by rw [if_neg c], h2⟩
  · exact ⟨0, X, m, Or.inl rfl, by rw [m_hasN hrs.gn hx, m_bind, if_pos m_00], by rw [m_ioN hrs.sn h16 hx, m_bind, if_pos m_00], h.mono (by omega)⟩
end MR22
