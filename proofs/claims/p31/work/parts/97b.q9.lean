/-! the least bribe, and all that would be -/
section Q9
variable {N B c P T J : Nat} {X : z_X} {g v w : z_R} {s : Nat → Int32}
/-- the delay of the order k, laid with the bribe b -/
def q_D (N : Nat) (g : z_R) (k b : Nat) : Int32 := match fX2_layAll N (z_u2 g 5 k (nI b)) with
  | some r => r.2 7 k
  | none => 0
theorem q_Dv (h : RS m_Al 6 P T J g s) (hN : 110 ≤ N) {k b : Nat} (hk : k < 6) (hb : b ≤ 99) : ∃ g' sum, fX2_layAll N (z_u2 g 5 k (nI b)) = some (sum, g') ∧ q_D N g k b = g' 7 k ∧ (∀ m : z_R, ∀ s1 : Nat → Int32, (∀ q, q < 925 → s1 q = s q) → ∃ s', fX5_laid N (z_uR m 1 (upd s1 (12 + 9 * k + 5) (nI b))) = some (sum, z_uR m 1 s') ∧ s' (12 + 9 * k + 7) = g' 7 k) := by
  have part : ∀ s1 : Nat → Int32, (∀ q, q < 925 → s1 q = s q) → RS m_Al 6 P T J (z_u2 g 5 k (nI b)) (upd s1 (12 + 9 * k + 5) (nI b)) := fun s1 hs => by
    refine (h.ag hs).part hk (by decide) (by decide) ?_ (fun e => by omega)
    refine ⟨?_, ?_, ?_, fun _ => ⟨b, hb, rfl⟩, ?_⟩ <;> intro e <;> omega
  obtain ⟨g', s', sum, a1, -⟩ := m_layAll (N := N) (m := fun _ _ => 0) (part s (fun _ _ => rfl)) ⟨trivial, trivial, trivial, trivial, trivial⟩ (fun _ => trivial) hN
  refine ⟨g', sum, a1, by unfold q_D; rw [a1], fun m s1 hs => ?_⟩
  obtain ⟨g2, s2, sum2, b1, b2, b3, -⟩ := m_layAll (N := N) (m := m) (part s1 hs) ⟨trivial, trivial, trivial, trivial, trivial⟩ (fun _ => trivial) hN
  rw [a1] at b1
  obtain ⟨e1, e2⟩ := Prod.mk.inj (Option.some.inj b1)
  subst e1 e2
  exact ⟨s2, b2, b3.or hk (by decide) (by decide) trivial⟩
/-- the reference's search, from i up -/
theorem q_lbM (h : RS m_Al 6 P T J g s) (hN : 13000 ≤ N) {k : Nat} (hk : k < 6) : ∀ (d i fu : Nat) (m : z_R), i + d = 100 → d + 1 < fu → (∀ q, q < 925 → m 1 q = s q) → (∀ q, q < 925 → m 2 q = s q) → ∃ r m', lX5_leastBribe_43 N (nI k) fu (-1) (nI i) m = some (r, m') ∧ m' 0 0 = m 0 0 ∧ ((r = -1 ∧ ∀ b, i ≤ b → b < 100 → q_D N g k b ≠ 0) ∨ ∃ b, i ≤ b ∧ b < 100 ∧ r = nI b ∧ q_D N g k b = 0 ∧ ∀ u, i ≤ u → u < b → q_D N g k u ≠ 0) := by
  intro d
  induction d with
  | zero =>
    intro i fu m hi hfu h1 h2
    obtain ⟨fu, rfl⟩ : ∃ q, fu = q + 1 := ⟨fu - 1, by omega⟩
    have e : i = 100 := by omega
    subst e
    exact ⟨-1, m, by rw [lX5_leastBribe_43.eq_2, if_pos (by decide)], rfl, Or.inl ⟨rfl, fun b q1 q2 => by omega⟩⟩
  | succ d ih =>
    intro i fu m hi hfu h1 h2
    obtain ⟨fu, rfl⟩ : ∃ q, fu = q + 2 := ⟨fu - 2, by omega⟩
    have hi99 : i ≤ 99 := by omega
    obtain ⟨g', sum, a1, a2, a3⟩ := q_Dv (N := N) h (by omega) hk hi99
    obtain ⟨s', b1, b2⟩ := a3 m (m 1) h1
    have sp : fX5_setPart N (nI k) (4 : Int32) (nI i) m = some (z_uR m 1 (upd (m 1) (12 + 9 * k + 5) (nI i))) := by
      have e := m_setP (N := N) (m := m) (s := m 1) (p := 4) (k := 4) (r := 5) (j := k) (v := nI i) rfl rfl (by omega) (by decide)
      rw [m_self] at e
      exact e
    have p6 : fX5_part N (nI k) (6 : Int32) (z_uR m 1 s') = some (q_D N g k i) := by
      rw [m_part (p := 6) (k := 6) (r := 7) rfl rfl (by omega) (by decide), m_same, b2, a2]
    have cp : fX5_copy N 925 925 ((z_uR m 1 s') 2) (0 : Int32) (0 : Int32) ((z_uR m 1 s') 1) = some (m_cp (m 2) 0 s' 0 925) := by
      rw [m_other _ _ (by decide : (2 : Nat) ≠ 1), m_same]
      exact m_cpM (a := 0) (b := 0) rfl rfl (by decide) (by decide) (by decide) (by decide) (by omega) _ _
    have agr : ∀ q, q < 925 → (z_uR (z_uR m 1 s') 1 (m_cp (m 2) 0 s' 0 925)) 1 q = s q := fun q hq => by
      rw [m_same]
      have e := m_cpI (f := m 2) (u := s') (a := 0) (b := 0) hq
      rw [Nat.zero_add] at e
      rw [e]; exact h2 q hq
    have ag2 : ∀ q, q < 925 → (z_uR (z_uR m 1 s') 1 (m_cp (m 2) 0 s' 0 925)) 2 q = s q := fun q hq => by
      rw [m_other _ _ (by decide), m_other _ _ (by decide)]; exact h2 q hq
    have m00 : (z_uR (z_uR m 1 s') 1 (m_cp (m 2) 0 s' 0 925)) 0 0 = m 0 0 := by rw [m_other _ _ (by decide), m_other _ _ (by decide)]
    rw [lX5_leastBribe_43.eq_2, if_neg (m_nlt99 hi99), if_pos rfl, sp, m_bind, b1, m_b2, p6, m_bind]
    by_cases c0 : q_D N g k i = 0
    · rw [if_pos c0, cp, m_bind, m_lt]
      refine ⟨nI i, _, ?_, m00, Or.inr ⟨i, Nat.le_refl i, by omega, rfl, c0, fun u u1 u2 => by omega⟩⟩
      rw [lX5_leastBribe_43.eq_2]
      by_cases c9 : (99 : Int32) < nI i + 1
      · rw [if_pos c9]
      · rw [if_neg c9, if_neg (m_nN i (by omega))]
    · rw [if_neg c0, cp, m_bind, m_lt, nI_1]
      obtain ⟨r, m', d1, d2, d3⟩ := ih (i + 1) (fu + 1) _ (by omega) (by omega) agr ag2
      refine ⟨r, m', d1, d2.trans m00, ?_⟩
      rcases d3 with ⟨e, q1⟩ | ⟨b, q1, q2, q3, q4, q5⟩
      · refine Or.inl ⟨e, fun b x1 x2 => ?_⟩
        by_cases eb : b = i
        · subst eb; exact c0
        · exact q1 b (by omega) x2
      · refine Or.inr ⟨b, by omega, q2, q3, q4, fun u x1 x2 => ?_⟩
        by_cases eb : u = i
        · subst eb; exact c0
        · exact q5 u (by omega) x2
theorem q_x1n (X : z_X) (g : z_R) : ((X.1, X.2.1, z_u3 X.2.2 1 g) : z_X).2.2 0 = X.2.2 0 := m_u3n X.2.2 (k := 1) (j := 0) g (by decide)
/-- the class's search leaves the state -/
theorem q_lbI (x : Int32) : ∀ (fu : Nat) (a : Int32) (X : z_X) (r : Int32) (X' : z_X), nlX4_leastBribe_34 N x fu a X = some (r, X') → X'.2.2 0 = X.2.2 0 := by
  intro fu
  induction fu with
  | zero => intro a X r X' h; cases h
  | succ fu ih =>
    intro a X r X' h
    rw [nlX4_leastBribe_34.eq_2] at h
    by_cases c : (99 : Int32) < a
    · rw [if_pos c] at h
      cases h
      rfl
    · rw [if_neg c] at h
      obtain ⟨-, h⟩ := z_ckE h
      obtain ⟨X7, e7, h⟩ := z_ltE h
      obtain ⟨r8, u8, -, h⟩ := z_b2E h
      obtain ⟨X9, e9, h⟩ := z_ltE h
      obtain ⟨-, h⟩ := z_ckE h
      have k9 : X9.2.2 0 = X.2.2 0 := by
        rw [e9]
        show z_u3 X7.2.2 1 u8 0 = _
        rw [m_u3n _ _ (by decide), e7]
        exact q_x1n _ _
      by_cases c2 : (X9.2.2 1 7 (x).toNatClampNeg) = 0
      · rw [if_pos c2] at h
        cases h
        exact k9
      · rw [if_neg c2] at h
        exact (ih _ _ _ _ h).trans k9
theorem q_lb6 (h : QG B c X v) (hN : 13000 ≤ N) (hN2 : N < 2 ^ 31) {k : Nat} (hk : k < 6) : ∃ r X', nX4_leastBribe N (nI k) X = some (r, X') ∧ QG (B + 5000) c X' v ∧ ((r = -1 ∧ ∀ b, b < 100 → q_D N (X.2.2 0) k b ≠ 0) ∨ ∃ b, b < 100 ∧ r = nI b ∧ q_D N (X.2.2 0) k b = 0 ∧ ∀ u, u < b → q_D N (X.2.2 0) k u ≠ 0) := by
  obtain ⟨m, P, T, J, hm, hrs, hT⟩ := h.rs
  obtain ⟨-, h6, q, he, hn, hj⟩ := h
  obtain ⟨o, X', b, m', a1, a2, a3, a4⟩ := c_leastBribe (N := N) hm hN hN2 (nI k)
  -- the reference's answer
  have ref : ∃ r m2, fX5_leastBribe N (nI k) m = some (r, m2) ∧ m2 0 0 = 0 ∧ ((r = -1 ∧ ∀ b, b < 100 → q_D N (X.2.2 0) k b ≠ 0) ∨ ∃ b, b < 100 ∧ r = nI b ∧ q_D N (X.2.2 0) k b = 0 ∧ ∀ u, u < b → q_D N (X.2.2 0) k u ≠ 0) := by
    have cp : fX5_copy N 925 925 ((z_u2 m 0 0 0) 1) (0 : Int32) (0 : Int32) ((z_u2 m 0 0 0) 2) = some (m_cp (m 1) 0 (m 2) 0 925) := by
      rw [m_kd1 m 0 (by decide : (1 : Nat) ≠ 0), m_kd1 m 0 (by decide : (2 : Nat) ≠ 0)]
      exact m_cpM (a := 0) (b := 0) rfl rfl (by decide) (by decide) (by decide) (by decide) (by omega) _ _
    obtain ⟨r, m2, d1, d2, d3⟩ := q_lbM (N := N) hrs hN hk 100 0 N (z_uR (z_u2 m 0 0 0) 2 (m_cp (m 1) 0 (m 2) 0 925)) (by omega) (by omega) (fun z hz => by rw [m_other _ _ (by decide), m_kd1 m 0 (by decide : (1 : Nat) ≠ 0)]) (fun z hz => by
      rw [m_same]
      have e := m_cpI (f := m 1) (u := m 2) (a := 0) (b := 0) hz
      rw [Nat.zero_add] at e
      exact e)
    refine ⟨r, m2, ?_, by rw [d2, m_other _ _ (by decide), m_kd], ?_⟩
    · unfold fX5_leastBribe
      rw [m_ioY hrs.sn (by decide) hk, m_bind, if_neg m_1_0, m_lt, m_kd, if_pos m_z0, cp, m_bind, m_lt]
      exact d1
    · rcases d3 with ⟨e, q1⟩ | ⟨b, -, q2, q3, q4, q5⟩
      · exact Or.inl ⟨e, fun b hb => q1 b (Nat.zero_le b) hb⟩
      · exact Or.inr ⟨b, q2, q3, q4, fun u hu => q5 u (Nat.zero_le u) hu⟩
  obtain ⟨r, m2, r1, r2, r3⟩ := ref
  rw [a2] at r1
  obtain ⟨e1, e2⟩ := Prod.mk.inj (Option.some.inj r1)
  subst e1 e2
  have eo : o = .inl b := by
    rcases a4 with ⟨e, -⟩ | ⟨-, e⟩
    · exact e
    · rw [r2] at e
      exact absurd e (by decide)
  have nn : nX4_leastBribe N (nI k) X = some (b, X') := by rw [n_leastBribe, a1, eo]; rfl
  have keep : X'.2.2 0 = X.2.2 0 := by
    have hh := nn
    unfold nX4_leastBribe at hh
    rw [m_hasY hrs.gn (by decide) hk, m_bind, if_neg m_1_0] at hh
    obtain ⟨u3, -, hh⟩ := z_bE hh
    obtain ⟨X4, e4, hh⟩ := z_ltE hh
    rw [q_lbI _ _ _ _ _ _ hh, e4]
    exact q_x1n _ _
  refine ⟨b, X', nn, ⟨⟨m', a3⟩, ?_⟩, r3⟩
  rw [keep]
  exact ⟨h6, q, he, hn, hj⟩
/-- the law's search, from 99 down, and its comparison -/
theorem q_lbL (h : QG B c X v) (hN : 13000 ≤ N) (hN2 : N < 2 ^ 31) {k : Nat} (hk : k < 6) : ∀ (d fu : Nat) (x : Int32) (w : z_R), d ≤ 100 → d < fu → ((x = -1 ∧ ∀ b, d ≤ b → b < 100 → q_D N (X.2.2 0) k b ≠ 0) ∨ ∃ b, d ≤ b ∧ b < 100 ∧ x = nI b ∧ q_D N (X.2.2 0) k b = 0 ∧ ∀ u, d ≤ u → u < b → q_D N (X.2.2 0) k u ≠ 0) → ∃ X' w', lL_would_255 N (nI k) fu x (nI d - 1) (X, v, w) = some (1, (X', v, w')) ∧ QG (B + 5000) c X' v := by
  obtain ⟨m, P, T, J, hm, hrs, hT⟩ := h.rs
  obtain ⟨-, h6, q, he, hn, hj⟩ := id h
  intro d
  induction d with
  | zero =>
    intro fu x w hd hfu hx
    obtain ⟨fu, rfl⟩ : ∃ q, fu = q + 1 := ⟨fu - 1, by omega⟩
    obtain ⟨r, X', a1, a2, a3⟩ := q_lb6 (N := N) h hN hN2 hk
    have e : r = x := by
      rcases a3 with ⟨e1, p1⟩ | ⟨b1, p1, p2, p3, p4⟩ <;> rcases hx with ⟨e2, q1⟩ | ⟨b2, -, q2, q3, q4, q5⟩
      · rw [e1, e2]
      · exact absurd q4 (p1 b2 q2)
      · exact absurd p3 (q1 b1 (Nat.zero_le _) p1)
      · have : b1 = b2 := by
          rcases Nat.lt_trichotomy b1 b2 with d | d | d
          · exact absurd p3 (q5 b1 (Nat.zero_le _) d)
          · exact d
          · exact absurd q4 (p4 b2 d)
        rw [p2, q3, this]
    refine ⟨X', w, ?_, a2⟩
    rw [lL_would_255.eq_2, if_pos (by decide)]
    (try dsimp +instances only)
    rw [a1, m_b2, m_lt, if_pos e]
  | succ d ih =>
    intro fu x w hd hfu hx
    obtain ⟨fu, rfl⟩ : ∃ q, fu = q + 1 := ⟨fu - 1, by omega⟩
    have hd99 : d ≤ 99 := by omega
    obtain ⟨g', sum, a1, a2, -⟩ := q_Dv (N := N) hrs (by omega) hk hd99
    have part : RS m_Al 6 P T J (z_u2 (X.2.2 0) 5 k (nI d)) (upd (m 1) (12 + 9 * k + 5) (nI d)) := by
      refine hrs.part hk (by decide) (by decide) ?_ (fun e => by omega)
      refine ⟨?_, ?_, ?_, fun _ => ⟨d, hd99, rfl⟩, ?_⟩ <;> intro e <;> omega
    have qW : QO (z_u2 (X.2.2 0) 5 k (nI d)) (z_u2 (q_c2 v w) 1 (9 * k + 4) (nI d)) := (q_c2O (w := w) q).set (o := k) (w := 4) (nI d) hk (by decide)
    obtain ⟨w2, b1, b2, -⟩ := q_lay (N := N) part ⟨trivial, trivial, trivial, trivial, trivial⟩ (fun _ => trivial) (by omega) qW a1
    have dl : w2 1 (9 * k + 6) = q_D N (X.2.2 0) k d := by rw [a2]; exact b2.or 6 hk (by decide)
    have e1 : nI (d + 1) - 1 = nI d := nI_pred d
    have e2 : nI d + (-1) = nI d - 1 := (Int32.sub_eq_add_neg (nI d) 1).symm
    have step : lL_would_255 N (nI k) (fu + 1) x (nI (d + 1) - 1) (X, v, w) = (if q_D N (X.2.2 0) k d = 0 then lL_would_255 N (nI k) fu (nI d) (nI d - 1) (X, v, w2) else lL_would_255 N (nI k) fu x (nI d - 1) (X, v, w2)) := by
      rw [lL_would_255.eq_2, e1, if_neg (m_neg (by omega))]
      (try dsimp +instances only)
      rw [q_cp (show 12 < N by omega) hN2, m_bind, m_lt]
      (try dsimp +instances only)
      rw [q_cp (show 54 < N by omega) hN2, m_bind, m_lt]
      (try dsimp +instances only)
      rw [q_i4, q_i6, m_in (show 9 * k + 4 < 54 by omega) (by decide), m_ckt, m_clamp (show 9 * k + 4 < 2 ^ 31 by omega), m_lt]
      (try dsimp +instances only)
      have eW : z_u2 (z_uR (z_uR w 0 (m_up (v 0) (w 0) 12)) 1 (m_up (v 1) (z_uR w 0 (m_up (v 0) (w 0) 12) 1) 54)) 1 (9 * k + 4) (nI d) = z_u2 (q_c2 v w) 1 (9 * k + 4) (nI d) := rfl
      rw [eW, b1, m_b2, m_lt]
      (try dsimp +instances only)
      rw [m_in (show 9 * k + 6 < 54 by omega) (by decide), m_ckt, m_clamp (show 9 * k + 6 < 2 ^ 31 by omega), dl, e2]
    rw [step]
    by_cases c0 : q_D N (X.2.2 0) k d = 0
    · rw [if_pos c0]
      exact ih fu (nI d) w2 (by omega) (by omega) (Or.inr ⟨d, Nat.le_refl d, by omega, rfl, c0, fun u u1 u2 => by omega⟩)
    · rw [if_neg c0]
      refine ih fu x w2 (by omega) (by omega) ?_
      rcases hx with ⟨e, q1⟩ | ⟨b, q1, q2, q3, q4, q5⟩
      · refine Or.inl ⟨e, fun b x1 x2 => ?_⟩
        by_cases eb : b = d
        · subst eb; exact c0
        · exact q1 b (by omega) x2
      · refine Or.inr ⟨b, by omega, q2, q3, q4, fun u x1 x2 => ?_⟩
        by_cases eb : u = d
        · subst eb; exact c0
        · exact q5 u (by omega) x2
/-- all that would be -/
theorem q_would (h : QG B c X v) (hB : B + 5000 < 2 ^ 30) (hN : 13000 ≤ N) (hN2 : N < 2 ^ 31) {k o : Nat} (hk : k < 6) (ho : o < 6) : ∃ X' w', fL_would N (nI k) (nI o) (X, v, w) = some (1, (X', v, w')) ∧ QG (B + 5000) c X' v := by
  obtain ⟨m, P, T, J, hm, h0, hT⟩ := h.rs
  obtain ⟨-, h6, q, he, hn, hj⟩ := id h
  have hP6 := h0.P6
  have hP4 := h0.P40
  -- the run as it is
  obtain ⟨W1, hW1⟩ : ∃ W1, W1 = z_uR (q_c2 v w) 2 (m_up (v 2) (q_c2 v w 2) 64) := ⟨_, rfl⟩
  have q1 : QO (X.2.2 0) W1 := by
    rw [hW1]
    exact (q_c2O (w := w) q).cg (fun z _ => by rw [m_other _ _ (by decide)]) (fun z _ => by rw [m_other _ _ (by decide)])
  have t1 : W1 0 1 = v 0 1 := q1.eT.trans q.eT.symm
  obtain ⟨r1, X1, e1, v1, a1, a2, a3, a4, a5, a6⟩ := q_ticks (N := N) (X := X) (j := 0) (v := W1) h0 (by omega) hN hN2 q1 hn (by decide) ho
  have g1 : QG B c X1 v := h.pr a4 a5 (fun z hz => a6 z (by omega))
  have x10 : X1.2.2 0 = X.2.2 0 := a6 0 (by decide)
  have tm : nX4_time N (nI o) X = some (r1, X1) := by
    unfold nX4_time
    rw [m_hasY h0.gn (by decide) ho, m_bind, if_neg m_1_0, a1, m_b2]
  -- the run behind a laying
  obtain ⟨u, u1, u2⟩ := m_copyC (N := N) h0 (by omega) hN2 (X1.2.2 1)
  have hu := u2 (s'' := m 1) h0 (fun _ _ => rfl)
  obtain ⟨gl, sl, sum, l1, -, l3, l4⟩ := m_layAll (N := N) (m := fun _ _ => 0) hu ⟨trivial, trivial, trivial, trivial, trivial⟩ (fun _ => trivial) (by omega)
  have q2 : QO u (q_c2 v v1) := q_cpy h0 hu (q_c2O (w := v1) q)
  obtain ⟨v2, b1, b2, -⟩ := q_lay (N := N) hu ⟨trivial, trivial, trivial, trivial, trivial⟩ (fun _ => trivial) (by omega) q2 l1
  have nu : QN gl := fun z hz => by rw [l4 3 (by decide) (by decide) (by decide) (by decide) (by decide)]; exact q_cpN h0 hu hn z hz
  obtain ⟨X6, hX6⟩ : ∃ X6 : z_X, X6 = (X1.1, X1.2.1, z_u3 (z_u3 X1.2.2 1 u) 1 gl) := ⟨_, rfl⟩
  have x60 : X6.2.2 0 = X.2.2 0 := by rw [hX6]; (try dsimp +instances only); rw [m_u3n _ _ (by decide), m_u3n _ _ (by decide)]; exact x10
  have x61 : X6.2.2 1 = gl := by
    rw [hX6]
    show z_u3 (z_u3 X1.2.2 1 u) 1 gl 1 = gl
    exact m_u3s _ _ _
  obtain ⟨r7, X7, e7, v7, c1, c2, c3, c4, c5, c6⟩ := q_ticks (N := N) (X := X6) (j := 0) (v := W1) (s := m 1) (by rw [x60]; exact h0) (by omega) hN hN2 (by rw [x60]; exact q1) (by rw [x60]; exact hn) (by decide) ho
  rw [a2] at c2
  obtain ⟨-, ev⟩ := Prod.mk.inj (Option.some.inj c2)
  subst ev
  have er7 : r7 = r1 := c3.trans a3.symm
  subst er7
  have x71 : X7.2.2 1 = gl := (c6 1 (by decide)).trans x61
  obtain ⟨r8, X8, e8, v8, d1, d2, d3, d4, d5, d6⟩ := q_ticks (N := N) (X := X7) (j := 1) (v := v2) (s := sl) (by rw [x71]; exact l3) (by omega) hN hN2 (by rw [x71]; exact b2) (by rw [x71]; exact nu) (by decide) ho
  have t2 : v2 0 1 = v 0 1 := by
    rw [b2.eT, l4 0 (by decide) (by decide) (by decide) (by decide) (by decide), q.eT, hu.gT, h0.gT]
  have sv : nX4_saves N (nI o) X1 = some (r7 - r8, X8) := by
    unfold nX4_saves
    rw [x10, m_hasY h0.gn (by decide) ho, m_bind, if_neg m_1_0, u1, m_bind, m_lt]
    (try dsimp +instances only)
    rw [m_u3s, l1, m_b2, m_lt]
    (try dsimp +instances only)
    rw [← hX6, c1, m_b2, d1, m_b2]
  have g8 : QG B c X8 v := by
    refine g1.pr ?_ ?_ (fun z hz => ?_)
    · rw [d4, c4, hX6]
    · rw [d5, c5, hX6]
    · rw [d6 z (by omega), c6 z (by omega), hX6]
      (try dsimp +instances only)
      rw [m_u3n _ _ (by omega), m_u3n _ _ (by omega)]
  have x80 : X8.2.2 0 = X.2.2 0 := by rw [d6 0 (by decide), c6 0 (by decide), x60]
  -- the best place
  obtain ⟨ub, ub1, ub2⟩ := m_copyC (N := N) h0 (by omega) hN2 (X8.2.2 1)
  have hub := ub2 (s'' := m 1) h0 (fun _ _ => rfl)
  obtain ⟨b, w9, X9, f1, f2, f3, f4, f5⟩ := q_bpL (N := N) h0 hub (by omega) hN hN2 q hn hk ho X8 P 0 N N (-1) 0 0 v8 (X8.1, X8.2.1, z_u3 X8.2.2 1 ub) (by omega) (by omega) (by omega) (Or.inl rfl) (by (try dsimp +instances only); rw [m_u3n _ _ (by decide)]; exact x80) (fun z => by (try dsimp +instances only); rw [m_u3s])
  have bp : nX4_bestPlace N (nI k) (nI o) X8 = some (b, X9) := by
    unfold nX4_bestPlace
    rw [x80, m_hasY h0.gn (by decide) hk, m_bind, if_neg m_1_0, m_hasY h0.gn (by decide) ho, m_bind, if_neg m_1_0, ub1, m_bind, m_lt]
    exact f2
  have g9 : QG B c X9 v := g8.pr f3 f4 (fun z hz => by rw [f5 z hz]; (try dsimp +instances only); rw [m_u3n _ _ (by omega)])
  -- the least bribe
  obtain ⟨X10, w10, k1, k2⟩ := q_lbL (N := N) g9 hN hN2 hk 100 300 (-1) w9 (by omega) (by omega) (Or.inl ⟨rfl, fun z z1 z2 => by omega⟩)
  refine ⟨X10, w10, ?_, k2⟩
  unfold fL_would
  (try dsimp +instances only)
  rw [q_cp (show 12 < N by omega) hN2, m_bind, m_lt]
  (try dsimp +instances only)
  rw [q_cp (show 54 < N by omega) hN2, m_bind, m_lt]
  (try dsimp +instances only)
  rw [q_cp (show 64 < N by omega) hN2, m_bind, m_lt]
  (try dsimp +instances only)
  have eW1 : z_uR (z_uR (z_uR w 0 (m_up (v 0) (w 0) 12)) 1 (m_up (v 1) (z_uR w 0 (m_up (v 0) (w 0) 12) 1) 54)) 2 (m_up (v 2) (z_uR (z_uR w 0 (m_up (v 0) (w 0) 12)) 1 (m_up (v 1) (z_uR w 0 (m_up (v 0) (w 0) 12) 1) 54) 2) 64) = W1 := by rw [hW1]; rfl
  rw [eW1, a2, m_b2, m_lt]
  (try dsimp +instances only)
  rw [tm, m_b2, m_lt, m_t1]
  (try dsimp +instances only)
  rw [if_pos (show r7 = v1 0 1 - v 0 1 by rw [a3, t1]), q_cp (show 12 < N by omega) hN2, m_bind, m_lt]
  (try dsimp +instances only)
  rw [q_cp (show 54 < N by omega) hN2, m_bind, m_lt]
  (try dsimp +instances only)
  have eW2 : z_uR (z_uR v1 0 (m_up (v 0) (v1 0) 12)) 1 (m_up (v 1) (z_uR v1 0 (m_up (v 0) (v1 0) 12) 1) 54) = q_c2 v v1 := rfl
  rw [eW2, b1, m_b2, m_lt]
  (try dsimp +instances only)
  rw [d2, m_b2, m_lt]
  (try dsimp +instances only)
  rw [sv, m_b2, m_lt]
  (try dsimp +instances only)
  rw [if_pos (show r7 - r8 = (v1 0 1 - v 0 1) - (v8 0 1 - v 0 1) by rw [a3, t1, d3, t2])]
  rw [show lL_would_115 N (nI k) (nI o) N (-1) 0 0 (X8, v, v8) = lL_would_115 N (nI k) (nI o) N (-1) 0 (nI 0) (X8, v, v8) from rfl, f1]
  unfold q_tb
  (try dsimp +instances only)
  rw [bp, m_b2, m_lt, if_pos rfl]
  exact k1
end Q9
