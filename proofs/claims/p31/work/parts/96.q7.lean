/-! all numbers of the class are the law's -/
section Q7
variable {N B c P T J : Nat} {X : z_X} {v : z_R} {s : Nat → Int32}
theorem q_ord (h : RS m_Al 6 P T J (X.2.2 0) s) {k w : Nat} (hk : k < 6) (hw : w < 9) : nX4_order N (nI k) (nI w) X = some (X.2.2 0 (w + 1) k) := by
  unfold nX4_order
  rw [m_hasY h.gn (by decide) hk, m_bind, if_neg m_1_0, m_in (show k < 16 by omega) (by decide), m_clamp (show k < 2 ^ 31 by omega)]
  simp only [m_ckt]
  rcases (show w = 0 ∨ w = 1 ∨ w = 2 ∨ w = 3 ∨ w = 4 ∨ w = 5 ∨ w = 6 ∨ w = 7 ∨ w = 8 by omega) with e | e | e | e | e | e | e | e | e <;> subst e <;> rfl
theorem q_waits (h : RS m_Al 6 P T J (X.2.2 0) s) (hT : T < 2 ^ 30) {k : Nat} (hk : k < 6) : (X.2.2 0 6 k = -1 → nX4_waits N (nI k) X = some (-1)) ∧ ∀ p, p < P → X.2.2 0 6 k = nI p → nX4_waits N (nI k) X = some (nI ((p + P - T % P) % P)) := by
  refine ⟨fun e => ?_, fun p hp e => ?_⟩
  · unfold nX4_waits fX2_waitFor fX2_isOnDrum
    rw [m_hasY h.gn (by decide) hk, m_bind, if_neg m_1_0, m_bind, if_neg m_1_0, m_in (show k < 16 by omega) (by decide), m_ckt, m_clamp (show k < 2 ^ 31 by omega), if_pos e, m_bind, if_pos m_00, m_bind]
  · obtain ⟨w1, -⟩ := m_wait (N := N) (m := fun _ _ => 0) h trivial trivial hT hk e hp
    unfold nX4_waits
    rw [m_hasY h.gn (by decide) hk, m_bind, if_neg m_1_0, w1, m_bind]
theorem q_at7 (h : RS m_Al 6 P T J (X.2.2 0) s) (hN : 17 ≤ N) {k p : Nat} (hk : k < 6) (hp : p < P) (e : X.2.2 0 6 k = nI p) : nX4_at N (nI p) X = some (nI k) := by
  have hP4 := h.P40
  unfold nX4_at
  obtain ⟨r, a1, a2⟩ := m_orderOn (N := N) (g := X.2.2 0) (n := 6) h.gn (by decide) hN (nI p)
  rw [m_hpY h.gP (by omega) hp, m_bind, if_neg m_1_0, a1, m_bind]
  rcases a2 with ⟨-, b⟩ | ⟨o, ho, b1, b2⟩
  · exact absurd e (b k hk)
  · by_cases c : o = k
    · subst c; rw [b2]
    · have := h.ap ho hk c (b1.trans e.symm)
      rw [b1] at this
      exact absurd this (m_nN p (by omega))
theorem q_author7 {a : Nat} (ha : a < 4) : nX4_author N (nI a) 1 X = some (X.2.2 0 10 a) ∧ nX4_author N (nI a) 2 X = some (X.2.2 0 11 a) := by
  unfold nX4_author
  rw [m_auY ha, m_bind, if_neg m_1_0, m_bind, if_neg m_1_0, m_in ha (by decide), m_clamp (show a < 2 ^ 31 by omega)]
  exact ⟨rfl, rfl⟩
theorem q_jump7 (h : RS m_Al 6 P T J (X.2.2 0) s) {i : Nat} (hi : i < J) : nX4_jump N (nI i) 0 X = some (X.2.2 0 13 i) ∧ nX4_jump N (nI i) 1 X = some (X.2.2 0 14 i) ∧ nX4_jump N (nI i) 2 X = some (X.2.2 0 15 i) := by
  have hJ := h.J256
  have n0 : ∀ w : Int32, fX0_number N (nI i) w (X.2.2 0) = if w = 0 then some (X.2.2 0 13 i) else if w = 1 then some (X.2.2 0 14 i) else some (X.2.2 0 15 i) := fun w => by
    unfold fX0_number
    rw [if_neg (m_neg (by omega)), h.gJ, if_pos ((m_ltI (by omega) (by omega)).mpr hi), m_in (show i < 256 by omega) (by decide), m_clamp (show i < 2 ^ 31 by omega)]
    rfl
  unfold nX4_jump
  rw [if_neg (m_neg (by omega)), if_neg (m_neg (by omega)), if_neg (m_neg (by omega)), n0, n0, n0]
  exact ⟨rfl, rfl, rfl⟩
theorem q_jumpE (h : RS m_Al 6 P T J (X.2.2 0) s) : nX4_jump N (nI J) 0 X = some (-1) := by
  have hJ := h.J256
  unfold nX4_jump fX0_number
  rw [if_neg (m_neg (by omega)), h.gJ, if_neg (m_neg (by omega)), if_neg (fun e => Nat.lt_irrefl J ((m_ltI (by omega) (by omega)).mp e))]
  rfl
theorem q_s32 (h : RS m_Al 6 P T J (X.2.2 0) s) (q : QO (X.2.2 0) v) (x4 x5 x6 x7 : Int32) {k : Nat} (hk : k < 6) (kk : Unit → Option Int32) : ∀ (d i fu : Nat), i + d = 9 → d < fu → lL_same_32 N x4 x5 x6 x7 (nI k) (nI (9 * k)) (X, v) kk fu (nI i) = kk () := by
  intro d
  induction d with
  | zero =>
    intro i fu hi hfu
    obtain ⟨fu, rfl⟩ : ∃ q, fu = q + 1 := ⟨fu - 1, by omega⟩
    have e : i = 9 := by omega
    subst e
    rw [lL_same_32.eq_2, if_pos (by decide)]
  | succ d ih =>
    intro i fu hi hfu
    obtain ⟨fu, rfl⟩ : ∃ q, fu = q + 1 := ⟨fu - 1, by omega⟩
    rw [lL_same_32.eq_2, if_neg (show ¬ (8 : Int32) < nI i from nI_nlt (b := i) (a := 8) (by omega) (by decide))]
    dsimp +instances only
    rw [q_ord h hk (show i < 9 by omega), m_bind, nI_add, m_in (show 9 * k + i < 54 by omega) (by decide), m_ckt, m_clamp (show 9 * k + i < 2 ^ 31 by omega), q.or i hk (by omega), if_pos rfl, nI_1]
    exact ih (i + 1) fu (by omega) (by omega)
/-- the counts of the law: open bribes, orders on the drum -/
def q_pl (g : z_R) : Nat → Int32 := fun o => if g 6 o = -1 then 0 else 1
theorem q_s15 (h : RS m_Al 6 P T J (X.2.2 0) s) (hT : T < 2 ^ 30) (q : QO (X.2.2 0) v) (hN : 20 ≤ N) (x4 x5 : Int32) : ∀ (d i fu : Nat), i + d = 6 → d < fu → lL_same_15 N x4 x5 (X, v) fu (m_sum (X.2.2 0 8) i) (m_sum (q_pl (X.2.2 0)) i) (nI i) = lL_same_179 N (m_sum (X.2.2 0 8) 6) (m_sum (q_pl (X.2.2 0)) 6) (X, v) N x4 x5 0 := by
  have hP6 := h.P6
  have hP4 := h.P40
  intro d
  induction d with
  | zero =>
    intro i fu hi hfu
    obtain ⟨fu, rfl⟩ : ∃ q, fu = q + 1 := ⟨fu - 1, by omega⟩
    have e : i = 6 := by omega
    subst e
    rw [lL_same_15.eq_2, if_pos (by decide)]
  | succ d ih =>
    intro i fu hi hfu
    obtain ⟨fu, rfl⟩ : ∃ q, fu = q + 1 := ⟨fu - 1, by omega⟩
    have hi6 : i < 6 := by omega
    have vP : v 0 0 = nI P := q.eP.trans h.gP
    have vT : v 0 1 = nI T := q.eT.trans h.gT
    have v5 : v 1 (9 * i + 5) = X.2.2 0 6 i := q.or 5 hi6 (by decide)
    have v7 : v 1 (9 * i + 7) = X.2.2 0 8 i := q.or 7 hi6 (by decide)
    have z5 : z_in (nI (9 * i + 5)) 54 = true := m_in (by omega) (by decide)
    have z7 : z_in (nI (9 * i + 7)) 54 = true := m_in (by omega) (by decide)
    have c5 : (nI (9 * i + 5)).toNatClampNeg = 9 * i + 5 := m_clamp (by omega)
    have c7 : (nI (9 * i + 7)).toNatClampNeg = 9 * i + 7 := m_clamp (by omega)
    have i7 : nI (9 * i) + (7 : Int32) = nI (9 * i + 7) := nI_add (9 * i) 7
    have i5 : nI (9 * i) + (5 : Int32) = nI (9 * i + 5) := nI_add (9 * i) 5
    have s8 : m_sum (X.2.2 0 8) i + X.2.2 0 8 i = m_sum (X.2.2 0 8) (i + 1) := rfl
    rw [lL_same_15.eq_2, if_neg (q_ge6 hi6), q_i0]
    rw [show (0 : Int32) = nI 0 from rfl, q_s32 h q x4 x5 _ _ hi6 _ 9 0 N (by omega) (by omega), nI_0]
    dsimp +instances only
    have j0 : jL_same_139_15 N (lL_same_15 N x4 x5 (X, v) fu) x4 x5 (m_sum (X.2.2 0 8) i) (m_sum (q_pl (X.2.2 0)) i) (nI i) (nI (9 * i)) (X, v) = lL_same_15 N x4 x5 (X, v) fu (m_sum (X.2.2 0 8) (i + 1)) (m_sum (q_pl (X.2.2 0)) (i + 1)) (nI (i + 1)) := by
      unfold jL_same_139_15
      dsimp +instances only
      have sp : m_sum (q_pl (X.2.2 0)) (i + 1) = m_sum (q_pl (X.2.2 0)) i + (if X.2.2 0 6 i = -1 then 0 else 1) := rfl
      rw [i7, i5, z7, z5, m_ckt, m_ckt, c7, c5, v7, v5, s8, nI_1, sp]
      rcases h.pl hi6 with e | ⟨p, hp, e⟩
      · rw [if_pos (show X.2.2 0 6 i < 0 by rw [e]; decide), if_pos e]
      · rw [if_neg (show ¬ X.2.2 0 6 i < 0 by rw [e]; exact m_neg (by omega)), if_neg (by rw [e]; exact m_nN p (by omega))]
    rw [i5, z5, m_ckt, m_ckt, c5, v5, m_t0, m_t1, vP, vT, m_nz (show 0 < P by omega) (by omega), m_ckt, m_ckt, j0]
    rcases h.pl hi6 with e | ⟨p, hp, e⟩
    · rw [if_neg (show ¬ 0 ≤ X.2.2 0 6 i by rw [e]; decide), (q_waits h hT hi6).1 e, m_bind, if_pos rfl, if_pos (show X.2.2 0 6 i < 0 by rw [e]; decide)]
      exact ih (i + 1) fu (by omega) (by omega)
    · have ht := Nat.mod_lt T (show 0 < P by omega)
      have en : ¬ X.2.2 0 6 i < 0 := by rw [e]; exact m_neg (by omega)
      rw [if_pos (m_le0.mpr en), (q_waits h hT hi6).2 p hp e, m_bind, if_neg en, e, pk_rem (by omega) (by omega) (by omega), q_subA (by omega) (by omega), pk_sub (by omega), pk_rem (by omega) (by omega) (by omega), if_pos rfl, m_ckt, q_at7 h (by omega) hi6 hp e, m_bind, if_pos rfl]
      exact ih (i + 1) fu (by omega) (by omega)
theorem q_s179 (q : QO (X.2.2 0) v) (x6 x7 : Int32) : ∀ (d i fu : Nat), i + d = 4 → d < fu → lL_same_179 N x6 x7 (X, v) fu (m_sum (X.2.2 0 10) i) (m_sum (X.2.2 0 11) i) (nI i) = lL_same_252 N (m_sum (X.2.2 0 10) 4) (m_sum (X.2.2 0 11) 4) x6 x7 (X, v) N 0 := by
  intro d
  induction d with
  | zero =>
    intro i fu hi hfu
    obtain ⟨fu, rfl⟩ : ∃ q, fu = q + 1 := ⟨fu - 1, by omega⟩
    have e : i = 4 := by omega
    subst e
    rw [lL_same_179.eq_2, if_pos (by decide)]
  | succ d ih =>
    intro i fu hi hfu
    obtain ⟨fu, rfl⟩ : ∃ q, fu = q + 1 := ⟨fu - 1, by omega⟩
    have hi4 : i < 4 := by omega
    rw [lL_same_179.eq_2, if_neg (m_ge4 hi4)]
    dsimp +instances only
    rw [(q_author7 (N := N) (X := X) hi4).1, (q_author7 (N := N) (X := X) hi4).2, m_bind, m_bind, show (3 : Int32) + nI i = nI (3 + i) from nI_add 3 i, show (7 : Int32) + nI i = nI (7 + i) from nI_add 7 i, m_in (show 3 + i < 12 by omega) (by decide), m_in (show 7 + i < 12 by omega) (by decide), m_ckt, m_ckt, m_ckt, m_ckt, m_clamp (show 3 + i < 2 ^ 31 by omega), m_clamp (show 7 + i < 2 ^ 31 by omega), q.pd hi4, q.rf hi4, if_pos rfl, if_pos rfl, nI_1]
    exact ih (i + 1) fu (by omega) (by omega)
theorem q_about7 (h : RS m_Al 6 P T J (X.2.2 0) s) (hN : 20 ≤ N) (hN2 : N < 2 ^ 31) (hT : T < 2 ^ 30) : nX4_about N 0 X = some (nI P) ∧ nX4_about N 2 X = some (nI T) ∧ nX4_about N 3 X = some (nI (T % P)) ∧ nX4_about N 4 X = some (m_sum (q_pl (X.2.2 0)) 6) ∧ nX4_about N 5 X = some (m_sum (X.2.2 0 10) 4) ∧ nX4_about N 6 X = some (m_sum (X.2.2 0 11) 4) ∧ nX4_about N 7 X = some (m_sum (X.2.2 0 8) 6) ∧ nX4_about N 8 X = some (nI J) ∧ nX4_about N 9 X = some (X.2.2 0 0 3) := by
  have hP6 := h.P6
  have hP4 := h.P40
  have ld : fX2_laidOrders N (X.2.2 0) = some (m_sum (q_pl (X.2.2 0)) 6) := m_ldL h 6 0 N (by omega) (by omega)
  have sm : fX4_sum N 16 (X.2.2 0 8) = some (m_sum (X.2.2 0 8) 6) := by
    rw [m_sumC (by omega) hN2, show 16 = 6 + 10 from rfl, m_sum0 10 (fun i h1 h2 => h.op0 h1 (by omega))]
  unfold nX4_about
  rw [h.gP, h.gT, h.gJ, m_aroundP h.gP (by omega) (by omega) (by omega), ld, m_sumC (show 4 < N by omega) hN2, m_sumC (show 4 < N by omega) hN2, sm]
  exact ⟨rfl, rfl, rfl, rfl, rfl, rfl, rfl, rfl, rfl⟩
theorem q_s252 (h : RS m_Al 6 P T J (X.2.2 0) s) (hT : T < 2 ^ 30) (q : QO (X.2.2 0) v) (he : v 0 2 = X.2.2 0 0 3) (hc : c < 2 ^ 29) (hj : QJ c (X.2.2 0) v) (hN : 20 ≤ N) (hN2 : N < 2 ^ 31) : ∀ (d i fu : Nat), i + d = J → d < fu → lL_same_252 N (m_sum (X.2.2 0 10) 4) (m_sum (X.2.2 0 11) 4) (m_sum (X.2.2 0 8) 6) (m_sum (q_pl (X.2.2 0)) 6) (X, v) fu (nI i) = some 1 := by
  have hP6 := h.P6
  have hP4 := h.P40
  have hJ := h.J256
  obtain ⟨j1, J', j2, j3, j4, -, -⟩ := hj
  have eJ : J' = J := m_nI_inj (by omega) (by omega) (j3.symm.trans h.gJ)
  subst eJ
  have v11 : v 0 11 = nI J' := j1.trans j3
  have vP : v 0 0 = nI P := q.eP.trans h.gP
  have vT : v 0 1 = nI T := q.eT.trans h.gT
  obtain ⟨a0, a2, a3, a4, a5, a6, a7, a8, a9⟩ := q_about7 (N := N) h hN hN2 hT
  intro d
  induction d with
  | zero =>
    intro i fu hi hfu
    obtain ⟨fu, rfl⟩ : ∃ q, fu = q + 1 := ⟨fu - 1, by omega⟩
    have e : i = J' := by omega
    subst e
    rw [lL_same_252.eq_2]
    dsimp +instances only
    rw [q_t11, v11, if_pos (nI_le (Nat.le_refl i) (by omega)), a0, m_bind, m_t0, vP, if_pos rfl, a2, m_bind, m_t1, vT, if_pos rfl, a3, m_bind, m_nz (show 0 < P by omega) (by omega), m_ckt, pk_rem (by omega) (by omega) (by omega), if_pos rfl, a4, m_bind, if_pos rfl, a5, m_bind, if_pos rfl, a6, m_bind, if_pos rfl, a7, m_bind, if_pos rfl, a8, m_bind, if_pos rfl, a9, m_bind, m_t2, he, if_pos rfl, q_jumpE h, m_bind, if_pos rfl]
  | succ d ih =>
    intro i fu hi hfu
    obtain ⟨fu, rfl⟩ : ∃ q, fu = q + 1 := ⟨fu - 1, by omega⟩
    have hiJ : i < J' := by omega
    obtain ⟨x, y, k, hx, hy, k1, k2, g13, g14, g15, v2⟩ := j4 i hiJ
    obtain ⟨b0, b1, b2⟩ := q_jump7 (N := N) h hiJ
    rw [lL_same_252.eq_2]
    dsimp +instances only
    rw [q_t11, v11, if_neg (nI_ge hiJ (by omega)), b0, b1, b2, m_bind, m_bind, m_bind, g13, g14, g15, q_8x, m_in (show 8 * x + y < 64 by omega) (by decide), m_ckt, m_clamp (show 8 * x + y < 2 ^ 31 by omega), v2, if_pos rfl, m_bind, if_pos (show (1 : Int32) ≤ nI k from nI_le (a := 1) k1 (by omega)), nI_1]
    exact ih (i + 1) fu (by omega) (by omega)
theorem q_same7 (hq : QG B c X v) (hB : B < 2 ^ 30) (hc : c < 2 ^ 29) (hN : 13000 ≤ N) (hN2 : N < 2 ^ 31) : fL_same N (X, v) = some 1 := by
  obtain ⟨m, P, T, J, -, h, hT⟩ := hq.rs
  obtain ⟨-, -, q, he, -, hj⟩ := hq
  have hJ := h.J256
  have e1 := q_s15 (N := N) h (by omega) q (by omega) 0 0 6 0 N (by omega) (by omega)
  have e2 := q_s179 (N := N) q (m_sum (X.2.2 0 8) 6) (m_sum (q_pl (X.2.2 0)) 6) 4 0 N (by omega) (by omega)
  have e3 := q_s252 (N := N) h (by omega) q he hc hj (by omega) hN2 J 0 N (by omega) (by omega)
  unfold fL_same
  exact e1.trans (e2.trans e3)
end Q7
