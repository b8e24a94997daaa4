/-! leastBribe -/
section MR21
variable {N B : Nat} {X : z_X} {m : z_R}
def m_E0 : Nat → Prop := fun r => r ≠ 6 ∧ r ≠ 7 ∧ r ≠ 8 ∧ r ≠ 10 ∧ r ≠ 11
theorem RS.tr {E' : Nat → Prop} {n P T J : Nat} {g' gh : z_R} {s' s : Nat → Int32} (h' : RS E' n P T J g' s') (h : RS m_E0 n P T J gh s) (hq : ∀ q, q ≠ 6 → q ≠ 7 → q ≠ 8 → q ≠ 10 → q ≠ 11 → g' q = gh q) : RS m_E0 n P T J g' s := by
  have e0 := hq 0 (by decide) (by decide) (by decide) (by decide) (by decide)
  refine ⟨h'.1, h'.2.1, h.2.2.1, fun e => by rw [e0]; exact h.2.2.2.1 e, fun e => h.sJ e, fun i hi => ⟨fun e => absurd rfl e.2.2.2.1, fun e => absurd rfl e.2.2.2.2⟩, fun o r ho h1 h9 => ⟨fun e => ?_, h'.vd ho h1 h9⟩, h'.2.2.2.2.2.2.2.1, h'.2.2.2.2.2.2.2.2.1, fun e i hi => ?_, h'.2.2.2.2.2.2.2.2.2.2⟩
  · rw [hq r e.1 e.2.1 e.2.2.1 e.2.2.2.1 e.2.2.2.2]
    exact h.or ho h1 h9 e
  · rw [hq 13 (by decide) (by decide) (by decide) (by decide) (by decide), hq 14 (by decide) (by decide) (by decide) (by decide) (by decide), hq 15 (by decide) (by decide) (by decide) (by decide) (by decide)]
    exact h.ju e hi
theorem m_lbr {n P T J o : Nat} {X0 : z_X} {m0 : z_R} (h16 : n ≤ 16) (hN : 13000 ≤ N) (ho : o < n) : ∀ (k b fu fv : Nat) (X : z_X) (m : z_R), b + k = 100 → k < fu → k + 1 < fv → m_BI B X0 m0 X m → (∀ j, j < 925 → m 2 j = m0 1 j) → (∀ w, w ≤ 99 → RS m_E0 n P T J (z_u2 (X.2.2 1) 5 o (nI w)) (upd (m0 1) (12 + 9 * o + 5) (nI w))) → ∃ r X' m', lX4_leastBribe_34 N (nI o) fu (nI b) X = some (.inl r, X') ∧ lX5_leastBribe_43 N (nI o) fv (-1) (nI b) m = some (r, m') ∧ m_BI B X0 m0 X' m' := by
  intro k
  induction k with
  | zero =>
    intro b fu fv X m hi hfu hfv hb h2 ht
    obtain ⟨fu, rfl⟩ : ∃ q, fu = q + 1 := ⟨fu - 1, by omega⟩
    obtain ⟨fv, rfl⟩ : ∃ q, fv = q + 1 := ⟨fv - 1, by omega⟩
    have e : b = 100 := by omega
    subst e
    exact ⟨-1, X, m, by rw [lX4_leastBribe_34.eq_2, if_pos (by decide)], by rw [lX5_leastBribe_43.eq_2, if_pos (by decide)], hb⟩
  | succ k ih =>
    intro b fu fv X m hi hfu hfv hb h2 ht
    obtain ⟨fu, rfl⟩ : ∃ q, fu = q + 1 := ⟨fu - 1, by omega⟩
    obtain ⟨fv, rfl⟩ : ∃ q, fv = q + 2 := ⟨fv - 2, by omega⟩
    obtain ⟨b1, b2, b3, b4, b5, b6⟩ := id hb
    have ht1 : RS m_E0 n P T J (z_u2 (X.2.2 1) 5 o (nI b)) (upd (m 1) (12 + 9 * o + 5) (nI b)) := (ht b (by omega)).ag (fun q hq => by
      by_cases c : q = 12 + 9 * o + 5
      · subst c; rw [m_us, m_us]
      · rw [m_un _ _ c, m_un _ _ c]; exact b4 q hq)
    have E1 : m_E0 1 := ⟨by decide, by decide, by decide, by decide, by decide⟩
    have E2 : m_E0 2 := ⟨by decide, by decide, by decide, by decide, by decide⟩
    have E3 : m_E0 3 := ⟨by decide, by decide, by decide, by decide, by decide⟩
    have E5 : m_E0 5 := ⟨by decide, by decide, by decide, by decide, by decide⟩
    obtain ⟨g', s', sum, l1, l2, l3, l4⟩ := m_lay0 (N := N) (m := m) ht1 ⟨E1, E2, E3, E5⟩ (fun e => absurd rfl e.2.2.2.2) (by omega)
    have hd : s' (12 + 9 * o + 7) = g' 7 o := l3.or ho (by decide) (by decide) (Or.inr (Or.inr rfl))
    have s1 : fX5_setPart N (nI o) 4 (nI b) m = some (z_uR m 1 (upd (m 1) (12 + 9 * o + 5) (nI b))) := by
      have q := m_setP (N := N) (m := m) (s := m 1) (j := o) (v := nI b) (p := 4) (k := 4) (r := 5) rfl rfl (by omega) (by decide)
      rw [m_self] at q
      exact q
    -- behind the laying: the reference's state as it was
    obtain ⟨m3, hm3⟩ : ∃ m3, m3 = z_uR (z_uR m 1 s') 1 (m_cp (m 2) 0 s' 0 925) := ⟨_, rfl⟩
    have hb' : m_BI B X0 m0 (X.1, X.2.1, z_u3 (z_u3 X.2.2 1 (z_u2 (X.2.2 1) 5 o (nI b))) 1 g') m3 := by
      refine ⟨b1, b2, fun k hk => ?_, fun k hk => ?_, fun r hr => ?_, fun k hk => ?_⟩
      · dsimp only
        rw [m_u3n _ _ (by omega), m_u3n _ _ (by omega)]
        exact b3 k hk
      · rw [hm3, m_same, m_cp0 _ _ hk]
        exact h2 k hk
      · rw [hm3, m_other _ _ (by omega), m_other _ _ (by omega)]
        exact b5 r hr
      · rw [hm3, m_other _ _ (by decide), m_other _ _ (by decide)]
        exact b6 k hk
    have cls : lX4_leastBribe_34 N (nI o) (fu + 1) (nI b) X = (if g' 7 o = 0 then some (.inl (nI b), (X.1, X.2.1, z_u3 (z_u3 X.2.2 1 (z_u2 (X.2.2 1) 5 o (nI b))) 1 g')) else lX4_leastBribe_34 N (nI o) fu (nI (b + 1)) (X.1, X.2.1, z_u3 (z_u3 X.2.2 1 (z_u2 (X.2.2 1) 5 o (nI b))) 1 g')) := by
      rw [lX4_leastBribe_34.eq_2, if_neg (m_nlt99 (by omega)), m_in (show o < 16 by omega) (by decide), m_ckt, m_clamp (by omega), m_lt]
      (try dsimp only)
      rw [m_u3s, l1, m_b2, m_lt, m_ckt]
      simp only [m_u3s, nI_1]
    have mdl : lX5_leastBribe_43 N (nI o) (fv + 2) (-1) (nI b) m = (if g' 7 o = 0 then lX5_leastBribe_43 N (nI o) (fv + 1) (nI b) (nI (b + 1)) m3 else lX5_leastBribe_43 N (nI o) (fv + 1) (-1) (nI (b + 1)) m3) := by
      rw [lX5_leastBribe_43.eq_2, if_neg (m_nlt99 (by omega)), if_pos rfl, s1, m_bind, l2, m_b2, m_part (p := 6) (k := 6) (r := 7) rfl rfl (by omega) (by decide), m_bind, m_same, hd, m_other _ _ (by decide : (2 : Nat) ≠ 1), m_copy0 hN, m_bind, m_lt, m_bind, m_lt, nI_1, ← hm3]
    rw [cls, mdl]
    by_cases c : g' 7 o = 0
    · rw [if_pos c, if_pos c]
      refine ⟨nI b, _, m3, rfl, ?_, hb'⟩
      rw [lX5_leastBribe_43.eq_2]
      by_cases c9 : (99 : Int32) < nI (b + 1)
      · rw [if_pos c9]
      · rw [if_neg c9, if_neg (m_nN b (by omega))]
    · rw [if_neg c, if_neg c]
      refine ih (b + 1) fu (fv + 1) _ m3 (by omega) (by omega) (by omega) hb' (fun j hj => by rw [hm3, m_other _ _ (by decide), m_other _ _ (by decide)]; exact h2 j hj) (fun w hw => ?_)
      dsimp only
      rw [m_u3s]
      have t1 : RS m_E0 n P T J g' (upd (m0 1) (12 + 9 * o + 5) (nI b)) := l3.tr (ht b (by omega)) l4
      have t2 := t1.part (j := o) (r := 5) (v := nI w) ho (by decide) (by decide) (by
        refine ⟨?_, ?_, ?_, fun _ => ⟨w, hw, rfl⟩, ?_⟩ <;> intro e <;> omega) (fun e => by omega)
      rw [m_uu] at t2
      exact t2
theorem c_leastBribe (h : RG B X m) (hN : 13000 ≤ N) (hN2 : N < 2 ^ 31) (x : Int32) : ∃ o X' b m', fX4_leastBribe N x X = some (o, X') ∧ fX5_leastBribe N x m = some (b, m') ∧ RG (B + 5000) X' m' ∧ ((o = .inl b ∧ m' 0 0 = 0) ∨ (o = .inr 3 ∧ m' 0 0 = 1)) := by
  obtain ⟨ht, ⟨n, P, T, J, hrs, hT⟩, hme, hsl⟩ := id h
  have h16 := hrs.n16
  unfold fX4_leastBribe fX5_leastBribe
  rcases m_cs x (n := n) (by omega) with ⟨o, ho, rfl⟩ | ⟨hx, -⟩
  · obtain ⟨u, u1, u2⟩ := m_copyC (N := N) hrs (by omega) hN2 (X.2.2 1)
    have hu : RS m_E0 n P T J u (m 1) := (u2 (s'' := m 1) hrs (fun _ _ => rfl)).mo (fun _ _ => trivial)
    have h0 : RG B X (z_u2 m 0 0 0) := h.kd 0
    rw [m_hasY hrs.gn h16 ho, m_bind, if_neg m_1_0, u1, m_bind, m_lt, m_ioY hrs.sn h16 ho, m_bind, if_neg m_1_0, m_lt, m_kd, if_pos m_z0, m_kd1 m 0 (by decide : (1 : Nat) ≠ 0), m_kd1 m 0 (by decide : (2 : Nat) ≠ 0), m_copy0 hN, m_bind, m_lt]
    obtain ⟨r, X', m', p1, p2, p3⟩ := m_lbr (N := N) (B := B) (X0 := X) (m0 := z_u2 m 0 0 0) (P := P) (T := T) (J := J) h16 hN ho 100 0 N N (X.1, X.2.1, z_u3 X.2.2 1 u) (z_uR (z_u2 m 0 0 0) 2 (m_cp (m 1) 0 (m 2) 0 925)) (by omega) (by omega) (by omega) ⟨rfl, rfl, fun k hk => m_u3n _ _ (by omega), fun k hk => by rw [m_other _ _ (by decide)], fun r hr => by rw [m_other _ _ (by omega)], fun k hk => by rw [m_other _ _ (by decide)]⟩ (fun j hj => by rw [m_same, m_cp0 _ _ hj, m_kd1 m 0 (by decide)]) (fun w hw => by
      dsimp only
      rw [m_u3s, m_kd1 m 0 (by decide)]
      exact hu.part ho (by decide) (by decide) (by
        refine ⟨?_, ?_, ?_, fun _ => ⟨w, hw, rfl⟩, ?_⟩ <;> intro e <;> omega) (fun e => by omega))
    obtain ⟨q1, q2, q3, q4, q5, q6⟩ := p3
    refine ⟨.inl r, X', r, m', p1, p2, RG.mono (h0.tk q1 q2 q3 q4 ⟨q5 5 (by decide), q5 6 (by decide), q5 7 (by decide), q5 8 (by decide)⟩ ⟨q6 1 (by decide), q6 2 (by decide)⟩) (by omega), Or.inl ⟨rfl, ?_⟩⟩
    rw [q6 0 (by decide), m_kd]
  · refine ⟨.inr 3, X, 0, z_u2 m 0 0 1, ?_, ?_, (h.kd 1).mono (by omega), Or.inr ⟨rfl, m_kd m 1⟩⟩
    · rw [m_hasN hrs.gn hx, m_bind, if_pos m_00]
    · rw [m_ioN hrs.sn h16 hx, m_bind, if_pos m_00, m_lt, m_kd, if_neg m_n1]
end MR21
