/-! the commands: turn, setDrum, undo, move, save, restore -/
section MR14
variable {N B : Nat} {X : z_X} {m : z_R}
theorem c_turn (h : RG B X m) (hB : B + 5000 < 2 ^ 30) (hN : 13000 ≤ N) (hN2 : N < 2 ^ 31) (x : Int32) : ∃ o X' b m', fX4_turn N x X = some (o, X') ∧ fX5_turn N x m = some (b, m') ∧ RG (B + 5000) X' m' ∧ ((o = .inl b ∧ m' 0 0 = 0) ∨ (o = .inr 1 ∧ m' 0 0 = 1)) := by
  obtain ⟨ht, ⟨n, P, T, J, hrs, hT⟩, hme, hsl⟩ := id h
  have hP6 := hrs.P6
  have hP4 := hrs.P40
  unfold fX4_turn fX5_turn
  rcases m_rg (lo := 1) (hi := 99) (by decide) (by decide) x with hx | ⟨k, h1, h9, rfl⟩
  · obtain ⟨a1, a2⟩ := m_tu (N := N) (x := x) hx
    refine ⟨.inr 1, X, 0, z_u2 m 0 0 1, ?_, ?_, (h.kd 1).mono (by omega), Or.inr ⟨rfl, m_kd m 1⟩⟩
    · rw [a1, m_bind, if_pos m_00]
    · rw [a2, m_bind, if_pos m_00, m_lt, m_kd, if_neg m_n1]
  · obtain ⟨a1, a2⟩ := m_tuY (N := N) h1 h9
    obtain ⟨X1, m1, r1, r2, r3, r4, r5, r6⟩ := m_remember (N := N) (h.kd 0) hN hN2
    rw [m_kd] at r6
    rw [m_kd1 m 0 (by decide)] at r5
    have hr2 : RS m_Al n P (T + k) J (z_u2 (X.2.2 0) 0 2 (nI (T + k))) (upd (m 1) 1 (nI (T + k))) := hrs.tk
    refine ⟨.inl (nI ((T + k) % P)), (X1.1, X1.2.1, z_u3 X1.2.2 0 (z_u2 (X.2.2 0) 0 2 (nI (T + k)))), nI ((T + k) % P), z_uR m1 1 (upd (m 1) 1 (nI (T + k))), ?_, ?_, r3.nw (by omega) ⟨n, P, T + k, J, hr2, by omega⟩, Or.inl ⟨rfl, by rw [m_other _ _ (by decide : (0 : Nat) ≠ 1)]; exact r6⟩⟩
    · rw [a1, m_bind, if_neg m_1_0, r1, m_bind, r4, hrs.gT, nI_add, m_lt]
      dsimp only
      rw [m_u3s, hr2.gT, m_aroundP hr2.gP (by omega) (by omega) (by omega), m_bind]
    · rw [a2, m_bind, if_neg m_1_0, m_lt, m_kd, if_pos m_z0, r2, m_bind, m_t1, r5, hrs.sT trivial, nI_add, m_uR, r5, m_lt]
      unfold fX5_comingBy
      rw [m_same, m_t0, m_t1, hr2.sP, hr2.sT trivial, m_nz (by omega) (by omega), m_ckt, pk_rem (by omega) (by omega) (by omega), m_bind]
theorem RS.pc {E : Nat → Prop} {n P T J P' : Nat} {g : z_R} {s : Nat → Int32} (h : RS E n P T J g s) (h6 : 6 ≤ P') (h40 : P' ≤ 40) (hoff : ∀ o, o < n → g 6 o = -1) : RS E n P' T J (z_u2 g 0 0 (nI P')) (upd s 0 (nI P')) := by
  have h16 := h.n16
  refine ⟨⟨h16, h6, h40, h.J256⟩, ⟨by rw [m_u2s, m_us], ?_, ?_, ?_⟩, ⟨m_us _ _ _, ?_⟩, fun e => ?_, fun e => ?_, ?_, ?_, ?_, ?_, ?_, ?_, ?_⟩
  · rw [m_u2s, m_un _ _ (by decide)]; exact h.gn
  · rw [m_u2s, m_un _ _ (by decide)]; exact h.gT
  · rw [m_u2s, m_un _ _ (by decide)]; exact h.gJ
  · rw [m_un _ _ (by decide)]; exact h.sn
  · rw [m_un _ _ (by decide), m_un _ _ (by decide), m_u2s, m_un _ _ (by decide)]; exact h.2.2.2.1 e
  · rw [m_un _ _ (by decide)]; exact h.sJ e
  · intro i hi
    rw [m_un _ _ (by omega), m_un _ _ (by omega), m_u2n _ _ _ (by decide : (10 : Nat) ≠ 0), m_u2n _ _ _ (by decide : (11 : Nat) ≠ 0)]
    exact h.2.2.2.2.2.1 i hi
  · intro o r ho h1 h9
    rw [m_un _ _ (by omega), m_u2n _ _ _ (by omega : r ≠ 0)]
    obtain ⟨a, b1, b2, b3, b4, b5⟩ := h.2.2.2.2.2.2.1 o r ho h1 h9
    refine ⟨a, b1, b2, b3, b4, fun e => Or.inl ?_⟩
    rw [e]; exact hoff o ho
  · intro o q ho hq hoq
    rw [m_u2n _ _ _ (by decide : (6 : Nat) ≠ 0)]; exact h.ap ho hq hoq
  · intro o ho h16
    rw [m_u2n _ _ _ (by decide : (8 : Nat) ≠ 0)]; exact h.op0 ho h16
  · intro e i hi
    rw [m_un _ _ (by omega), m_un _ _ (by omega), m_un _ _ (by omega), m_u2n _ _ _ (by decide : (13 : Nat) ≠ 0), m_u2n _ _ _ (by decide : (14 : Nat) ≠ 0), m_u2n _ _ _ (by decide : (15 : Nat) ≠ 0)]
    exact h.ju e hi
  · intro i hi
    rw [m_u2n _ _ _ (by decide : (13 : Nat) ≠ 0), m_u2n _ _ _ (by decide : (14 : Nat) ≠ 0)]; exact h.jv hi
  · intro i k hi hk
    rw [m_u2n _ _ _ (by decide : (13 : Nat) ≠ 0), m_u2n _ _ _ (by decide : (14 : Nat) ≠ 0)]; exact h.jd hi hk
theorem c_setDrum (h : RG B X m) (hN : 13000 ≤ N) (hN2 : N < 2 ^ 31) (x : Int32) : ∃ o X' b m', fX4_setDrum N x X = some (o, X') ∧ fX5_setDrum N x m = some (b, m') ∧ RG (B + 5000) X' m' ∧ ((o = .inl b ∧ m' 0 0 = 0) ∨ (o = .inr 1 ∧ m' 0 0 = 1)) := by
  obtain ⟨ht, ⟨n, P, T, J, hrs, hT⟩, hme, hsl⟩ := id h
  unfold fX4_setDrum fX5_setDrum
  rw [m_within]
  rcases m_rg (lo := 6) (hi := 40) (by decide) (by decide) x with hx | ⟨k, h1, h9, rfl⟩
  · have hx : x < 6 ∨ 40 < x := hx
    refine ⟨.inr 1, X, 0, z_u2 m 0 0 1, ?_, ?_, (h.kd 1).mono (by omega), Or.inr ⟨rfl, m_kd m 1⟩⟩
    · by_cases c : x < 6
      · rw [if_pos c]
      · rw [if_neg c, if_neg (fun q => by
          have h2 := hx.resolve_left c
          rw [Int32.lt_iff_toInt_lt] at h2
          rw [Int32.le_iff_toInt_le] at q
          omega)]
    · rw [if_pos hx, m_bind, if_pos m_00, m_lt, m_kd, if_neg m_n1]
  · have b1 : ¬ nI k < (6 : Int32) := nI_nlt (b := 6) h1 (by omega)
    have b2 : nI k ≤ (40 : Int32) := nI_le (b := 40) h9 (by decide)
    have b3 : ¬ (40 : Int32) < nI k := nI_nlt (b := k) (a := 40) h9 (by decide)
    obtain ⟨X1, m1, r1, r2, r3, r4, r5, r6⟩ := m_remember (N := N) (h.kd 0) hN hN2
    rw [m_kd] at r6
    rw [m_kd1 m 0 (by decide)] at r5
    obtain ⟨g', s', t1, t2, t3, t4, -⟩ := m_takeOff (N := N) (m := m1) hrs trivial (fun _ => trivial) (by omega)
    rw [show z_uR m1 1 (m 1) = m1 by rw [← r5, m_self]] at t2
    have hr2 := t3.pc h1 h9 (fun o ho => (t4 o ho).1)
    refine ⟨.inl (nI P), (X1.1, X1.2.1, z_u3 X1.2.2 0 (z_u2 g' 0 0 (nI k))), nI P, z_uR m1 1 (upd s' 0 (nI k)), ?_, ?_, r3.nw (by omega) ⟨n, k, T, J, hr2, by omega⟩, Or.inl ⟨rfl, by rw [m_other _ _ (by decide : (0 : Nat) ≠ 1)]; exact r6⟩⟩
    · rw [if_neg b1, if_pos b2, r1, m_bind, r4, t1, m_bind, m_lt, m_lt]
      dsimp only
      rw [m_u3s, hrs.gP]
      congr 4
      funext a
      by_cases c : a = 0
      · subst c; rw [m_u3s, m_u3s]
      · rw [m_u3n _ _ c, m_u3n _ _ c, m_u3n _ _ c]
    · rw [if_neg (fun q => q.elim b1 b3), m_bind, if_neg m_1_0, m_lt, m_kd, if_pos m_z0, r2, m_bind, t2, m_bind, m_t0, m_uRR, m_lt, r5, hrs.sP]
theorem c_undo (h : RG B X m) (hN : 13000 ≤ N) (hN2 : N < 2 ^ 31) : ∃ o X' b m', fX4_undo N X = some (o, X') ∧ fX5_undo N m = some (b, m') ∧ RG (B + 5000) X' m' ∧ ((o = .inl b ∧ m' 0 0 = 0) ∨ (o = .inr 2 ∧ m' 0 0 = 1)) := by
  obtain ⟨ht, hn, ⟨old, sz, a1, a2, a3, a4, a5, a6⟩, hsl⟩ := id h
  unfold fX4_undo fX5_undo
  by_cases c : sz = 0
  · subst c
    refine ⟨.inr 2, X, 0, z_u2 m 0 0 1, ?_, ?_, (h.kd 1).mono (by omega), Or.inr ⟨rfl, m_kd m 1⟩⟩
    · rw [a4, if_neg (by decide)]
    · rw [a5, if_pos (by decide), m_lt, m_kd, if_neg m_n1]
  · obtain ⟨z, rfl⟩ : ∃ z, sz = z + 1 := ⟨sz - 1, by omega⟩
    obtain ⟨n, P, T, J, hrs, hT⟩ := a6 z (by omega)
    obtain ⟨u, u1, u2⟩ := m_copyC (N := N) hrs (by omega) hN2 (X.2.2 0)
    have hu := u2 (s'' := m_cp (m 5) (925 * z) (m 1) 0 925) hrs (fun k hk => by
      have := m_cpI (f := m 5) (u := m 1) (a := 925 * z) (b := 0) hk
      rw [Nat.zero_add] at this
      exact this)
    have hz1 : nI (z + 1) - 1 = nI z := nI_pred z
    refine ⟨.inl (nI z), (X.1, z_u2 X.2.1 0 1 (nI z), z_u3 X.2.2 0 u), nI z, z_uR (z_u2 (z_u2 m 0 0 0) 0 1 (nI z)) 1 (m_cp (m 5) (925 * z) (m 1) 0 925), ?_, ?_, ?_, Or.inl ⟨rfl, ?_⟩⟩
    · rw [a4, if_pos (show (1 : Int32) ≤ nI (z + 1) from nI_le (a := 1) (by omega) (by omega))]
      unfold fX1_bringBack
      rw [a4, if_pos (show (1 : Int32) ≤ nI (z + 1) from nI_le (a := 1) (by omega) (by omega)), hz1, m_lt]
      dsimp only
      rw [show z_u2 X.2.1 0 1 (nI z) 0 0 = nI old by rw [m_u2s, m_un _ _ (by decide)]; exact a3, show z_u2 X.2.1 0 1 (nI z) 0 1 = nI z by rw [m_u2s, m_us], nI_add, show (14 : Int32) = nI 14 from rfl, pk_rem (by omega) (by decide) (by decide), m_in (by omega) (by decide), m_ckt, m_clamp (by omega), u1, m_bind, m_lt, m_bind]
      dsimp only
      rw [show z_u2 X.2.1 0 1 (nI z) 0 1 = nI z by rw [m_u2s, m_us]]
    · rw [a5, if_neg (nI_nle (by omega) (by omega)), m_lt, m_kd, if_pos m_z0, show z_u2 m 0 0 0 0 1 = nI (z + 1) by rw [m_u2s, m_un _ _ (by decide)]; exact a5, hz1, m_lt, show z_u2 (z_u2 m 0 0 0) 0 1 (nI z) 0 1 = nI z by rw [m_u2s, m_us], m_u2n _ _ _ (by decide : (5 : Nat) ≠ 0), m_kd1 m 0 (by decide : (5 : Nat) ≠ 0), m_u2n _ _ _ (by decide : (1 : Nat) ≠ 0), m_kd1 m 0 (by decide : (1 : Nat) ≠ 0), show nI z * (925 : Int32) = nI (925 * z) by rw [show (925 : Int32) = nI 925 from rfl, pk_mul, Nat.mul_comm], m_cpM (ln := 12950) (lk := 925) (y := 0) (N := N) (a := 925 * z) (b := 0) rfl rfl (by omega) (by decide) (by decide) (by decide) (by omega), m_bind, m_lt, m_other _ _ (by decide : (0 : Nat) ≠ 1), show z_u2 (z_u2 m 0 0 0) 0 1 (nI z) 0 1 = nI z by rw [m_u2s, m_us]]
    · refine RG.mono (B := B) ?_ (by omega)
      obtain ⟨len, t1, t2, t3, t4⟩ := ht
      refine ⟨⟨len, t1, t2, ?_, ?_⟩, ?_, ⟨old, z, a1, by omega, ?_, ?_, ?_, fun j hj => ?_⟩, fun i hi => ?_⟩
      · rw [m_other _ _ (by decide : (0 : Nat) ≠ 1), m_u2s, m_un _ _ (by decide), m_u2s, m_un _ _ (by decide)]; exact t3
      · rw [m_other _ _ (by decide : (8 : Nat) ≠ 1), m_u2n _ _ _ (by decide : (8 : Nat) ≠ 0), m_kd1 m 0 (by decide : (8 : Nat) ≠ 0)]; exact t4
      · rw [m_same]
        show m_St B (z_u3 X.2.2 0 u 0) _
        rw [m_u3s]
        exact ⟨n, P, T, J, hu, hT⟩
      · show z_u2 X.2.1 0 1 (nI z) 0 0 = nI old
        rw [m_u2s, m_un _ _ (by decide)]; exact a3
      · show z_u2 X.2.1 0 1 (nI z) 0 1 = nI z
        rw [m_u2s, m_us]
      · rw [m_other _ _ (by decide : (0 : Nat) ≠ 1), m_u2s, m_us]
      · rw [m_other _ _ (by decide : (5 : Nat) ≠ 1), m_u2n _ _ _ (by decide : (5 : Nat) ≠ 0), m_kd1 m 0 (by decide : (5 : Nat) ≠ 0)]
        show m_St B (z_u3 X.2.2 0 u ((old + j) % 14 + 3)) _
        rw [m_u3n _ u (by omega)]
        exact a6 j (by omega)
      · show (z_u2 X.2.1 0 1 (nI z) 1 i = 0 ∧ _) ∨ (z_u2 X.2.1 0 1 (nI z) 1 i = 1 ∧ _ ∧ m_St B (z_u3 X.2.2 0 u (i + 17)) _)
        rw [m_u2n _ _ _ (by decide : (1 : Nat) ≠ 0), m_u3n _ u (by omega), m_other _ _ (by decide : (7 : Nat) ≠ 1), m_u2n _ _ _ (by decide : (7 : Nat) ≠ 0), m_kd1 m 0 (by decide : (7 : Nat) ≠ 0), m_other _ _ (by decide : (6 : Nat) ≠ 1), m_u2n _ _ _ (by decide : (6 : Nat) ≠ 0), m_kd1 m 0 (by decide : (6 : Nat) ≠ 0)]
        exact hsl i hi
    · rw [m_other _ _ (by decide : (0 : Nat) ≠ 1), m_u2s, m_un _ _ (by decide), m_u2s, m_us]
/-- whether an order may be moved -/
theorem m_free {n P T J : Nat} {g : z_R} {s : Nat → Int32} (h : RS m_Al n P T J g s) (hN : 17 ≤ N) {o p : Nat} (ho : o < n) (hp : p < P) : (fX2_isFreeFor N (nI o) (nI p) g = some 1 ∧ fX5_whyNotMoved N (nI o) (nI p) (z_uR m 1 s) = some 0 ∧ ∀ q, q < n → q ≠ o → g 6 q ≠ nI p) ∨ (fX2_isFreeFor N (nI o) (nI p) g = some 0 ∧ fX5_whyNotMoved N (nI o) (nI p) (z_uR m 1 s) = some 2) := by
  have h16 := h.n16
  have hP4 := h.P40
  obtain ⟨r, a1, a2, a3⟩ := m_on2 (N := N) (m := m) h trivial hN (p := nI p) (m_nN p (by omega))
  unfold fX2_isFreeFor fX5_whyNotMoved
  rw [a1, m_bind, m_ioY (n := n) (by rw [m_same]; exact h.sn) h16 ho, m_bind, if_neg m_1_0, m_ipY (P := P) (by rw [m_same]; exact h.sP) hP4 hp, m_bind, if_neg m_1_0, a2, m_bind]
  rcases a3 with ⟨e, hf⟩ | ⟨q, hq, e1, e2⟩
  · rw [if_pos e, if_pos e]
    exact Or.inl ⟨rfl, rfl, fun u hu _ => hf u hu⟩
  · rw [e2, if_neg (m_nN q (by omega)), if_neg (m_nN q (by omega))]
    by_cases c : q = o
    · subst c
      rw [if_pos rfl, if_pos rfl]
      refine Or.inl ⟨rfl, rfl, fun u hu huq e => ?_⟩
      have := h.ap hu hq huq (e.trans e1.symm)
      rw [e] at this
      exact m_nN p (by omega) this
    · have cn : ¬ nI q = nI o := fun e => c (m_nI_inj (by omega) (by omega) e)
      rw [if_neg cn, if_neg cn]
      exact Or.inr ⟨rfl, rfl⟩
theorem c_move (h : RG B X m) (hN : 13000 ≤ N) (hN2 : N < 2 ^ 31) (x y : Int32) : ∃ o X' b m', fX4_move N x y X = some (o, X') ∧ fX5_move N x y m = some (b, m') ∧ RG (B + 5000) X' m' ∧ ((o = .inl b ∧ m' 0 0 = 0) ∨ (o = .inr 3 ∧ m' 0 0 = 1) ∨ (o = .inr 2 ∧ m' 0 0 = 2)) := by
  obtain ⟨ht, ⟨n, P, T, J, hrs, hT⟩, hme, hsl⟩ := id h
  have h16 := hrs.n16
  have hP4 := hrs.P40
  unfold fX4_move fX5_move
  rcases m_cs x (n := n) (by omega) with ⟨o, ho, rfl⟩ | ⟨hx, -⟩
  · rcases m_cs y (n := P) (by omega) with ⟨p, hp, rfl⟩ | ⟨hy, -⟩
    · rw [m_hasY hrs.gn h16 ho, m_bind, if_neg m_1_0, m_hpY hrs.gP (by omega) hp, m_bind, if_neg m_1_0]
      rcases m_free (N := N) (m := m) hrs (by omega) ho hp with ⟨f1, f2, f3⟩ | ⟨f1, f2⟩
      · rw [m_self] at f2
        obtain ⟨X1, m1, r1, r2, r3, r4, r5, r6⟩ := m_remember (N := N) (h.kd 0) hN hN2
        rw [m_kd] at r6
        rw [m_kd1 m 0 (by decide)] at r5
        obtain ⟨g', s', -, t1, t2, t3, -⟩ := m_put (N := N) (m := m1) hrs trivial (fun _ => trivial) ho (v := nI p) (Or.inr ⟨p, hp, rfl⟩) (Or.inr f3)
        rw [show z_uR m1 1 (m 1) = m1 by rw [← r5, m_self], hrs.or ho (by decide) (by decide) trivial] at t2
        refine ⟨.inl (X.2.2 0 8 o), (X1.1, X1.2.1, z_u3 X1.2.2 0 g'), X.2.2 0 8 o, z_uR m1 1 s', ?_, ?_, r3.nw (by omega) ⟨n, P, T, J, t3, by omega⟩, Or.inl ⟨rfl, by rw [m_other _ _ (by decide : (0 : Nat) ≠ 1)]; exact r6⟩⟩
        · rw [f1, m_bind, if_neg m_1_0, r1, m_bind, r4, t1, m_b2, m_lt]
        · rw [f2, m_bind, m_lt, m_kd, if_pos m_z0, r2, m_bind, t2, m_b2]
      · rw [m_self] at f2
        refine ⟨.inr 2, X, 0, z_u2 m 0 0 2, ?_, ?_, (h.kd 2).mono (by omega), Or.inr (Or.inr ⟨rfl, m_kd m 2⟩)⟩
        · rw [f1, m_bind, if_pos m_00]
        · rw [f2, m_bind, m_lt, m_kd, if_neg m_n2]
    · refine ⟨.inr 3, X, 0, z_u2 m 0 0 1, ?_, ?_, (h.kd 1).mono (by omega), Or.inr (Or.inl ⟨rfl, m_kd m 1⟩)⟩
      · rw [m_hasY hrs.gn h16 ho, m_bind, if_neg m_1_0, m_hpN hrs.gP hy, m_bind, if_pos m_00]
      · unfold fX5_whyNotMoved
        rw [m_ioY hrs.sn h16 ho, m_bind, if_neg m_1_0, m_ipN hrs.sP hP4 hy, m_bind, if_pos m_00, m_bind, m_lt, m_kd, if_neg m_n1]
  · refine ⟨.inr 3, X, 0, z_u2 m 0 0 1, ?_, ?_, (h.kd 1).mono (by omega), Or.inr (Or.inl ⟨rfl, m_kd m 1⟩)⟩
    · rw [m_hasN hrs.gn hx, m_bind, if_pos m_00]
    · unfold fX5_whyNotMoved
      rw [m_ioN hrs.sn h16 hx, m_bind, if_pos m_00, m_bind, m_lt, m_kd, if_neg m_n1]
end MR14
