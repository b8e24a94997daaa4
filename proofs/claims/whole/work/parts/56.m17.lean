/-! about, save, restore, addOrder -/
section MR17
variable {N B : Nat} {X : z_X} {m : z_R}
theorem m_ab79 {s : Nat → Int32} (hm : m 1 = s) (x1 x2 x3 : Int32) : ∀ (k i fu : Nat), i + k = 4 → k < fu → ∃ fv, lX5_about_79 N x1 x2 x3 m fu (m_sum (fun a => s (5 + a)) i) (nI i) = lX5_about_79 N x1 x2 x3 m (fv + 1) (m_sum (fun a => s (5 + a)) 4) (nI 4) := by
  intro k
  induction k with
  | zero =>
    intro i fu hi hfu
    have e : i = 4 := by omega
    subst e
    exact ⟨fu - 1, by rw [show fu - 1 + 1 = fu by omega]⟩
  | succ k ih =>
    intro i fu hi hfu
    obtain ⟨fu, rfl⟩ : ∃ q, fu = q + 1 := ⟨fu - 1, by omega⟩
    obtain ⟨fv, hv⟩ := ih (i + 1) fu (by omega) (by omega)
    refine ⟨fv, ?_⟩
    rw [← hv, lX5_about_79.eq_2, if_neg (m_ge4 (by omega)), show (5 : Int32) + nI i = nI (5 + i) from nI_add 5 i, m_in (by omega) (by decide), m_ckt, m_clamp (by omega), hm, nI_1]
    rfl
theorem m_ab26 {n P T J : Nat} {g : z_R} {s : Nat → Int32} (h : RS m_Al n P T J g s) (hm : m 1 = s) (x1 : Int32) : ∀ (k i fu : Nat), i + k = n → k < fu → lX5_about_26 N x1 m fu (m_sum (fun o => if g 6 o = -1 then 0 else 1) i) (m_sum (g 8) i) (nI i) = lX5_about_79 N x1 (m_sum (fun o => if g 6 o = -1 then 0 else 1) n) (m_sum (g 8) n) m N 0 0 := by
  have h16 := h.n16
  intro k
  induction k with
  | zero =>
    intro i fu hi hfu
    obtain ⟨fu, rfl⟩ : ∃ q, fu = q + 1 := ⟨fu - 1, by omega⟩
    have e : i = n := by omega
    subst e
    rw [lX5_about_26.eq_2, m_t2, hm, h.sn, if_pos (nI_le (Nat.le_refl i) (by omega))]
  | succ k ih =>
    intro i fu hi hfu
    obtain ⟨fu, rfl⟩ : ∃ q, fu = q + 1 := ⟨fu - 1, by omega⟩
    rw [← ih (i + 1) fu (by omega) (by omega), lX5_about_26.eq_2, m_t2, hm, h.sn, if_neg (nI_ge (by omega) (by omega)), m_part (p := 5) (k := 5) (r := 6) rfl rfl (by omega) (by decide), m_bind, hm, h.or (by omega) (by decide) (by decide) trivial, m_part (p := 7) (k := 7) (r := 8) rfl rfl (by omega) (by decide), m_bind, m_bind, hm, h.or (by omega) (by decide) (by decide) trivial, nI_1]
    rw [show m_sum (fun o => if g 6 o = -1 then 0 else 1) (i + 1) = m_sum (fun o => if g 6 o = -1 then 0 else 1) i + (if g 6 i = -1 then 0 else 1) from rfl, show m_sum (g 8) (i + 1) = m_sum (g 8) i + g 8 i from rfl]
    by_cases c : g 6 i = -1
    · rw [if_pos c, if_pos c]
    · rw [if_neg c, if_neg c]
theorem c_about (h : RG B X m) (hB : B + 5000 < 2 ^ 30) (hN : 13000 ≤ N) (hN2 : N < 2 ^ 31) (x : Int32) : ∃ o X' b m', fX4_about N x X = some (o, X') ∧ fX5_about N x m = some (b, m') ∧ RG (B + 5000) X' m' ∧ ((o = .inl b ∧ m' 0 0 = 0) ∨ (o = .inr 1 ∧ m' 0 0 = 1)) := by
  obtain ⟨ht, ⟨n, P, T, J, hrs, hT⟩, hme, hsl⟩ := id h
  have h16 := hrs.n16
  have hP6 := hrs.P6
  have hP4 := hrs.P40
  have e9 : (9 : Int32) = nI 10 - 1 := by decide
  have mdl : ∀ kd : Int32, ∃ fv, lX5_about_26 N x (z_u2 m 0 0 kd) N 0 0 0 = lX5_about_79 N x (m_sum (fun o => if X.2.2 0 6 o = -1 then 0 else 1) n) (m_sum (X.2.2 0 8) n) (z_u2 m 0 0 kd) (fv + 1) (m_sum (X.2.2 0 10) 4) (nI 4) := fun kd => by
    obtain ⟨fv, hv⟩ := m_ab79 (N := N) (m := z_u2 m 0 0 kd) (m_kd1 m kd (by decide)) x (m_sum (fun o => if X.2.2 0 6 o = -1 then 0 else 1) n) (m_sum (X.2.2 0 8) n) 4 0 N (by omega) (by omega)
    have h1 := m_ab26 (N := N) (m := z_u2 m 0 0 kd) hrs (m_kd1 m kd (by decide)) x n 0 N (by omega) (by omega)
    have es : m_sum (fun a => m 1 (5 + a)) 4 = m_sum (X.2.2 0 10) 4 := m_sumE 4 fun i hi => hrs.pd hi trivial
    rw [es] at hv
    exact ⟨fv, (show lX5_about_26 N x (z_u2 m 0 0 kd) N 0 0 0 = _ from h1).trans hv⟩
  unfold fX5_about
  by_cases hx : ∃ k, k < 10 ∧ x = nI k
  · obtain ⟨k, hk, rfl⟩ := hx
    obtain ⟨fv, hv⟩ := mdl 0
    have w1 : fX5_within N (nI k) 0 9 = some 1 := by rw [e9]; exact m_wiY (by decide) hk
    rw [w1, m_bind, if_neg m_1_0, m_lt, hv, lX5_about_79.eq_2, if_pos (show (4 : Int32) ≤ nI 4 by decide)]
    have e00 : ∀ k, k ≠ 0 → z_u2 m 0 0 0 k = m k := fun k hk => m_kd1 m 0 hk
    rw [e00 1 (by decide), m_t0, m_t1, m_t2, m_t3, m_t4]
    have fin : ∀ r, fX4_about N (nI k) X = some (.inl r, X) → ∀ q : Option (Int32 × z_R), q = some (r, z_u2 m 0 0 0) → ∃ o X' b m', fX4_about N (nI k) X = some (o, X') ∧ q = some (b, m') ∧ RG (B + 5000) X' m' ∧ ((o = .inl b ∧ m' 0 0 = 0) ∨ (o = .inr 1 ∧ m' 0 0 = 1)) := fun r h1 q h2 => ⟨.inl r, X, r, z_u2 m 0 0 0, h1, h2, (h.kd 0).mono (by omega), Or.inl ⟨rfl, m_kd m 0⟩⟩
    rcases (show k = 0 ∨ k = 1 ∨ k = 2 ∨ k = 3 ∨ k = 4 ∨ k = 5 ∨ k = 6 ∨ k = 7 ∨ k = 8 ∨ k = 9 by omega) with e | e | e | e | e | e | e | e | e | e <;> subst e
    · exact fin (nI P) (by show some (Sum.inl (X.2.2 0 0 0), X) = _; rw [hrs.gP]) _ (by show some (m 1 0, _) = _; rw [hrs.sP])
    · exact fin (nI n) (by show some (Sum.inl (X.2.2 0 0 1), X) = _; rw [hrs.gn]) _ (by show some (m 1 2, _) = _; rw [hrs.sn])
    · exact fin (nI T) (by show some (Sum.inl (X.2.2 0 0 2), X) = _; rw [hrs.gT]) _ (by show some (m 1 1, _) = _; rw [hrs.sT trivial])
    · refine fin (nI (T % P)) (by show (fX2_around N (X.2.2 0 0 2) (X.2.2 0)).bind _ = _; rw [hrs.gT, m_aroundP hrs.gP (by omega) (by omega) (by omega), m_bind]) _ ?_
      show (fX5_comingBy N (z_u2 m 0 0 0)).bind _ = _
      unfold fX5_comingBy
      rw [e00 1 (by decide), m_t0, m_t1, hrs.sP, hrs.sT trivial, m_nz (by omega) (by omega), m_ckt, pk_rem (by omega) (by omega) (by omega), m_bind]
    · refine fin (m_sum (fun o => if X.2.2 0 6 o = -1 then 0 else 1) n) ?_ _ rfl
      show (fX2_laidOrders N (X.2.2 0)).bind _ = _
      unfold fX2_laidOrders
      rw [show lX2_laidOrders_4 N (X.2.2 0) N 0 0 = _ from m_ldL (N := N) hrs n 0 N (by omega) (by omega), m_bind]
    · refine fin (m_sum (X.2.2 0 10) 4) ?_ _ rfl
      show (fX4_sum N 4 (X.2.2 0 10)).bind _ = _
      rw [m_sumC (by omega) hN2, m_bind]
    · obtain ⟨r1, r2⟩ := m_refundedAll (N := N) (m := z_u2 m 0 0 0) hrs trivial (by omega) hN2
      rw [← m_rk 0] at r2
      refine fin (m_sum (X.2.2 0 11) 4) ?_ _ ?_
      · show (fX4_sum N 4 (X.2.2 0 11)).bind _ = _
        rw [r1, m_bind]
      · show (fX5_refundedAll N (z_u2 m 0 0 0)).bind _ = _
        rw [r2, m_bind]
    · refine fin (m_sum (X.2.2 0 8) n) ?_ _ rfl
      show (fX4_sum N 16 (X.2.2 0 8)).bind _ = _
      have e16 : m_sum (X.2.2 0 8) 16 = m_sum (X.2.2 0 8) n := by
        have q := m_sum0 (f := X.2.2 0 8) (a := n) (16 - n) (fun i h1 h2 => hrs.op0 h1 (by omega))
        rw [show n + (16 - n) = 16 by omega] at q
        exact q
      rw [m_sumC (by omega) hN2, m_bind, e16]
    · exact fin (nI J) (by show some (Sum.inl (X.2.2 0 0 4), X) = _; rw [hrs.gJ]) _ (by show some (m 1 3, _) = _; rw [hrs.sJ trivial])
    · exact fin (X.2.2 0 0 3) rfl _ (by show some (m 1 4, _) = _; rw [hrs.sE trivial])
  · have w0 : fX5_within N x 0 9 = some 0 := by
      rw [e9]
      rcases m_cs x (n := 10) (by decide) with q | ⟨q, -⟩
      · exact absurd q hx
      · exact m_wiN (by decide) q
    obtain ⟨fv, hv⟩ := mdl 1
    have hne : ∀ k, k < 10 → ¬ x = nI k := fun k hk e => hx ⟨k, hk, e⟩
    refine ⟨.inr 1, X, 0, z_u2 m 0 0 1, ?_, ?_, (h.kd 1).mono (by omega), Or.inr ⟨rfl, m_kd m 1⟩⟩
    · unfold fX4_about
      rw [if_neg (show ¬ x = (0 : Int32) from hne 0 (by decide)), if_neg (show ¬ x = (1 : Int32) from hne 1 (by decide)), if_neg (show ¬ x = (2 : Int32) from hne 2 (by decide)), if_neg (show ¬ x = (3 : Int32) from hne 3 (by decide)), if_neg (show ¬ x = (4 : Int32) from hne 4 (by decide)), if_neg (show ¬ x = (5 : Int32) from hne 5 (by decide)), if_neg (show ¬ x = (6 : Int32) from hne 6 (by decide)), if_neg (show ¬ x = (7 : Int32) from hne 7 (by decide)), if_neg (show ¬ x = (8 : Int32) from hne 8 (by decide)), if_neg (show ¬ x = (9 : Int32) from hne 9 (by decide))]
    · rw [w0, m_bind, if_pos m_00, m_lt, hv, lX5_about_79.eq_2, if_pos (show (4 : Int32) ≤ nI 4 by decide)]
      rw [if_neg (show ¬ x = (0 : Int32) from hne 0 (by decide)), if_neg (show ¬ x = (1 : Int32) from hne 1 (by decide)), if_neg (show ¬ x = (2 : Int32) from hne 2 (by decide)), if_neg (show ¬ x = (3 : Int32) from hne 3 (by decide)), if_neg (show ¬ x = (4 : Int32) from hne 4 (by decide)), if_neg (show ¬ x = (5 : Int32) from hne 5 (by decide)), if_neg (show ¬ x = (6 : Int32) from hne 6 (by decide)), if_neg (show ¬ x = (7 : Int32) from hne 7 (by decide)), if_neg (show ¬ x = (8 : Int32) from hne 8 (by decide)), if_neg (show ¬ x = (9 : Int32) from hne 9 (by decide))]
theorem m_slY {k : Nat} (hk : k < 2) : fX4_isSlot N (nI k) X = some 1 ∧ fX5_isSlot N (nI k) = some 1 := by
  rcases (show k = 0 ∨ k = 1 by omega) with e | e <;> subst e <;> exact ⟨rfl, rfl⟩
theorem m_slN {x : Int32} (hx : x < 0 ∨ nI 2 ≤ x) (hno : ¬ ∃ o, o < 2 ∧ x = nI o) : fX4_isSlot N x X = some 0 ∧ fX5_isSlot N x = some 0 := by
  refine ⟨?_, ?_⟩
  · unfold fX4_isSlot
    by_cases c : x < 0
    · rw [if_pos c]
    · rw [if_neg c, if_pos (show (2 : Int32) ≤ x from hx.resolve_left c)]
  · unfold fX5_isSlot
    rw [if_neg (show ¬ x = (0 : Int32) from fun e => hno ⟨0, by decide, e⟩), if_neg (show ¬ x = (1 : Int32) from fun e => hno ⟨1, by decide, e⟩)]
theorem m_925 (k : Nat) : (925 : Int32) * nI k = nI (925 * k) := pk_mul 925 k
theorem c_save (h : RG B X m) (hN : 13000 ≤ N) (hN2 : N < 2 ^ 31) (x : Int32) : ∃ o X' b m', fX4_save N x X = some (o, X') ∧ fX5_save N x m = some (b, m') ∧ RG (B + 5000) X' m' ∧ ((o = .inl b ∧ m' 0 0 = 0) ∨ (o = .inr 3 ∧ m' 0 0 = 1)) := by
  obtain ⟨ht, ⟨n, P, T, J, hrs, hT⟩, hme, hsl⟩ := id h
  unfold fX4_save fX5_save
  rcases m_cs x (n := 2) (by decide) with ⟨k, hk, rfl⟩ | ⟨hx, hno⟩
  · obtain ⟨a1, a2⟩ := m_slY (N := N) (X := X) hk
    obtain ⟨u, u1, u2⟩ := m_copyC (N := N) hrs (by omega) hN2 (X.2.2 (k + 17))
    refine ⟨.inl (nI n), (X.1, z_u2 X.2.1 1 k 1, z_u3 X.2.2 (k + 17) u), nI n, z_u2 (z_uR (z_u2 m 0 0 0) 6 (m_cp (m 1) 0 (m 6) (925 * k) 925)) 7 k 1, ?_, ?_, ?_, Or.inl ⟨rfl, by rw [m_u2n _ _ _ (by decide : (0 : Nat) ≠ 7), m_other _ _ (by decide : (0 : Nat) ≠ 6), m_kd]⟩⟩
    · rw [a1, m_bind, if_neg m_1_0, m_in hk (by decide), m_ckt, m_clamp (by omega), u1, m_bind, m_lt, m_ckt]
      dsimp only
      rw [m_lt]
      dsimp only
      rw [m_u3n _ u (by omega), hrs.gn]
    · rw [a2, m_bind, if_neg m_1_0, m_lt, m_kd, if_pos m_z0, m_925, m_kd1 m 0 (by decide : (1 : Nat) ≠ 0), m_kd1 m 0 (by decide : (6 : Nat) ≠ 0), m_cpM (ln := 925) (lk := 1850) (x := 0) (N := N) (a := 0) (b := 925 * k) rfl rfl (by decide) (by omega) (by decide) (by decide) (by omega), m_bind, m_lt, m_in hk (by decide), m_ckt, m_clamp (by omega), m_lt, m_t2, m_u2n _ _ _ (by decide : (1 : Nat) ≠ 7), m_other _ _ (by decide : (1 : Nat) ≠ 6), m_kd1 m 0 (by decide : (1 : Nat) ≠ 0), hrs.sn]
    · refine RG.mono (B := B) ?_ (by omega)
      obtain ⟨len, t1, t2, t3, t4⟩ := ht
      obtain ⟨old, sz, b1, b2, b3, b4, b5, b6⟩ := hme
      refine ⟨⟨len, t1, t2, ?_, ?_⟩, ?_, ⟨old, sz, b1, b2, ?_, ?_, ?_, fun j hj => ?_⟩, fun i hi => ?_⟩
      · rw [m_u2n _ _ _ (by decide : (0 : Nat) ≠ 7), m_other _ _ (by decide : (0 : Nat) ≠ 6), m_u2s, m_un _ _ (by decide)]; exact t3
      · rw [m_u2n _ _ _ (by decide : (8 : Nat) ≠ 7), m_other _ _ (by decide : (8 : Nat) ≠ 6), m_kd1 m 0 (by decide : (8 : Nat) ≠ 0)]; exact t4
      · rw [m_u2n _ _ _ (by decide : (1 : Nat) ≠ 7), m_other _ _ (by decide : (1 : Nat) ≠ 6), m_kd1 m 0 (by decide : (1 : Nat) ≠ 0)]
        show m_St B (z_u3 X.2.2 (k + 17) u 0) _
        rw [m_u3n _ u (by omega)]
        exact ⟨n, P, T, J, hrs, hT⟩
      · show z_u2 X.2.1 1 k 1 0 0 = _
        rw [m_u2n _ _ _ (by decide : (0 : Nat) ≠ 1)]; exact b3
      · show z_u2 X.2.1 1 k 1 0 1 = _
        rw [m_u2n _ _ _ (by decide : (0 : Nat) ≠ 1)]; exact b4
      · rw [m_u2n _ _ _ (by decide : (0 : Nat) ≠ 7), m_other _ _ (by decide : (0 : Nat) ≠ 6), m_u2s, m_un _ _ (by decide)]; exact b5
      · rw [m_u2n _ _ _ (by decide : (5 : Nat) ≠ 7), m_other _ _ (by decide : (5 : Nat) ≠ 6), m_kd1 m 0 (by decide : (5 : Nat) ≠ 0)]
        show m_St B (z_u3 X.2.2 (k + 17) u ((old + j) % 14 + 3)) _
        rw [m_u3n _ u (by omega)]
        exact b6 j hj
      · show (z_u2 X.2.1 1 k 1 1 i = 0 ∧ _) ∨ (z_u2 X.2.1 1 k 1 1 i = 1 ∧ _ ∧ m_St B (z_u3 X.2.2 (k + 17) u (i + 17)) _)
        rw [m_u2s, m_u2s, m_other _ _ (by decide : (7 : Nat) ≠ 6), m_kd1 m 0 (by decide : (7 : Nat) ≠ 0), m_u2n _ _ _ (by decide : (6 : Nat) ≠ 7), m_same]
        by_cases c : i = k
        · subst c
          rw [m_us, m_us, m_u3s]
          refine Or.inr ⟨rfl, rfl, n, P, T, J, u2 hrs (fun q hq => ?_), hT⟩
          show m_cp (m 1) 0 (m 6) (925 * i) 925 (925 * i + q) = m 1 q
          rw [m_cpI hq, Nat.zero_add]
        · rw [m_un _ _ c, m_un _ _ c, m_u3n _ u (by omega)]
          refine (hsl i hi).imp id fun q => ⟨q.1, q.2.1, ?_⟩
          obtain ⟨n', P', T', J', q1, q2⟩ := q.2.2
          exact ⟨n', P', T', J', q1.cg (fun _ _ => rfl) (fun _ _ _ _ _ => rfl) (fun _ _ => ⟨rfl, rfl⟩) (fun _ _ => ⟨rfl, rfl, rfl⟩) (fun q hq => by
            show m_cp (m 1) 0 (m 6) (925 * k) 925 (925 * i + q) = m 6 (925 * i + q)
            exact m_cpO (by omega)), q2⟩
  · obtain ⟨a1, a2⟩ := m_slN (N := N) (X := X) hx hno
    exact ⟨.inr 3, X, 0, z_u2 m 0 0 1, by rw [a1, m_bind, if_pos m_00], by rw [a2, m_bind, if_pos m_00, m_lt, m_kd, if_neg m_n1], (h.kd 1).mono (by omega), Or.inr ⟨rfl, m_kd m 1⟩⟩
theorem c_restore (h : RG B X m) (hN : 13000 ≤ N) (hN2 : N < 2 ^ 31) (x : Int32) : ∃ o X' b m', fX4_restore N x X = some (o, X') ∧ fX5_restore N x m = some (b, m') ∧ RG (B + 5000) X' m' ∧ ((o = .inl b ∧ m' 0 0 = 0) ∨ (o = .inr 3 ∧ m' 0 0 = 1) ∨ (o = .inr 2 ∧ m' 0 0 = 2)) := by
  obtain ⟨ht, hn, hme, hsl⟩ := id h
  unfold fX4_restore fX5_restore
  rcases m_cs x (n := 2) (by decide) with ⟨k, hk, rfl⟩ | ⟨hx, hno⟩
  · obtain ⟨a1, a2⟩ := m_slY (N := N) (X := X) hk
    rw [a1, m_bind, if_neg m_1_0, a2, m_bind, if_neg m_1_0, m_in hk (by decide), m_ckt, m_ckt, m_clamp (by omega), m_ckt]
    rcases hsl k hk with ⟨s1, s2⟩ | ⟨s1, s2, n, P, T, J, hrs, hT⟩
    · refine ⟨.inr 2, X, 0, z_u2 m 0 0 2, by rw [s1, if_pos m_00], ?_, (h.kd 2).mono (by omega), Or.inr (Or.inr ⟨rfl, m_kd m 2⟩)⟩
      rw [s2, if_neg (show ¬ (0 : Int32) = 1 by decide), m_lt, m_kd, if_neg m_n2]
    · obtain ⟨u, u1, u2⟩ := m_copyC (N := N) hrs (by omega) hN2 (X.2.2 0)
      have hu := u2 (s'' := m_cp (m 6) (925 * k) (m 1) 0 925) hrs (fun q hq => by
        have := m_cpI (f := m 6) (u := m 1) (a := 925 * k) (b := 0) hq
        rw [Nat.zero_add] at this
        exact this)
      have h2 := (h.kd 0).nw (g := u) (s := m_cp (m 6) (925 * k) (m 1) 0 925) (Nat.le_refl B) ⟨n, P, T, J, hu, hT⟩
      obtain ⟨q1, q2, -, q4⟩ := h2
      refine ⟨.inl (nI n), (X.1, z_u2 (z_u2 X.2.1 0 0 0) 0 1 0, z_u3 X.2.2 0 u), nI n, z_u2 (z_uR (z_u2 m 0 0 0) 1 (m_cp (m 6) (925 * k) (m 1) 0 925)) 0 1 0, ?_, ?_, ?_, Or.inl ⟨rfl, by rw [m_u2s, m_un _ _ (by decide), m_other _ _ (by decide : (0 : Nat) ≠ 1), m_kd]⟩⟩
      · rw [s1, if_neg m_1_0, u1, m_bind, m_lt]
        unfold fX1_forget
        rw [m_lt, m_lt, m_bind]
        dsimp only
        rw [m_u3s, hu.gn]
      · rw [s2, if_pos (show (1 : Int32) = 1 from rfl), m_lt, m_kd, if_pos m_z0, m_925, m_kd1 m 0 (by decide : (1 : Nat) ≠ 0), m_kd1 m 0 (by decide : (6 : Nat) ≠ 0), m_cpM (ln := 1850) (lk := 925) (y := 0) (N := N) (a := 925 * k) (b := 0) rfl rfl (by omega) (by decide) (by decide) (by decide) (by omega), m_bind, m_lt, m_lt, m_t2, m_u2n _ _ _ (by decide : (1 : Nat) ≠ 0), m_same, hu.sn]
      · refine RG.mono (B := B) ⟨?_, ?_, ⟨0, 0, by decide, by decide, ?_, ?_, ?_, fun j hj => by omega⟩, fun i hi => ?_⟩ (by omega)
        · obtain ⟨len, t1, t2, t3, t4⟩ := q1
          exact ⟨len, t1, t2, by rw [m_u2s, m_un _ _ (by decide)]; exact t3, by rw [m_u2n _ _ _ (by decide : (8 : Nat) ≠ 0)]; exact t4⟩
        · rw [m_u2n _ _ _ (by decide : (1 : Nat) ≠ 0)]; exact q2
        · show z_u2 (z_u2 X.2.1 0 0 0) 0 1 0 0 0 = _
          rw [m_u2s, m_un _ _ (by decide), m_u2s, m_us]; rfl
        · show z_u2 (z_u2 X.2.1 0 0 0) 0 1 0 0 1 = _
          rw [m_u2s, m_us]; rfl
        · rw [m_u2s, m_us]; rfl
        · show (z_u2 (z_u2 X.2.1 0 0 0) 0 1 0 1 i = 0 ∧ _) ∨ (z_u2 (z_u2 X.2.1 0 0 0) 0 1 0 1 i = 1 ∧ _ ∧ _)
          rw [m_u2n _ _ _ (by decide : (1 : Nat) ≠ 0), m_u2n _ _ _ (by decide : (1 : Nat) ≠ 0), m_u2n _ _ _ (by decide : (7 : Nat) ≠ 0), m_u2n _ _ _ (by decide : (6 : Nat) ≠ 0)]
          exact q4 i hi
  · obtain ⟨a1, a2⟩ := m_slN (N := N) (X := X) hx hno
    refine ⟨.inr 3, X, 0, z_u2 m 0 0 1, by rw [a1, m_bind, if_pos m_00], ?_, (h.kd 1).mono (by omega), Or.inr (Or.inl ⟨rfl, m_kd m 1⟩)⟩
    rw [a2, m_bind, if_pos m_00, m_lt, m_kd, if_neg m_n1]
end MR17
