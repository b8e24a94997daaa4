/-! the law's actions beside the class's calls -/
def QG (B c : Nat) (X : z_X) (v : z_R) : Prop := (∃ m, RG B X m) ∧ (X.2.2 0) 0 1 = nI 6 ∧ QO (X.2.2 0) v ∧ v 0 2 = (X.2.2 0) 0 3 ∧ QN (X.2.2 0) ∧ QJ c (X.2.2 0) v
theorem q_x0 (X : z_X) (g : z_R) : ((X.1, X.2.1, z_u3 X.2.2 0 g) : z_X).2.2 0 = g := m_u3s X.2.2 0 g
section Q6
variable {N B c : Nat} {X X' : z_X} {v : z_R}
theorem QG.rs (h : QG B c X v) : ∃ m P T J, RG B X m ∧ RS m_Al 6 P T J (X.2.2 0) (m 1) ∧ T ≤ B := by
  obtain ⟨⟨m, hm⟩, h6, -⟩ := h
  obtain ⟨n, P, T, J, hrs, hT⟩ := id hm.2.1
  have e : n = 6 := m_nI_inj (by have := hrs.n16; omega) (by omega) (hrs.gn.symm.trans h6)
  subst e
  exact ⟨m, P, T, J, hm, hrs, hT⟩
theorem QG.mono {B' c' : Nat} (h : QG B c X v) (hB : B ≤ B') (hc : c ≤ c') : QG B' c' X v := by
  obtain ⟨⟨m, hm⟩, h6, q, e, hn, hj⟩ := h
  exact ⟨⟨m, hm.mono hB⟩, h6, q, e, hn, hj.mono hc⟩
/-- what is remembered leaves the state -/
theorem q_rem (h : fX1_remember N X = some X') : X'.2.2 0 = X.2.2 0 := by
  unfold fX1_remember at h
  obtain ⟨-, h⟩ := z_ckE h
  obtain ⟨u, -, h⟩ := z_bE h
  obtain ⟨X3, e3, h⟩ := z_ltE h
  have k : X3.2.2 0 = X.2.2 0 := by
    rw [e3]
    dsimp only
    exact m_u3n _ _ (by omega)
  by_cases c : (14 : Int32) ≤ (X3.2.1 0 1)
  · rw [if_pos c] at h
    obtain ⟨X5, e5, h⟩ := z_ltE h
    cases h
    rw [e5]; exact k
  · rw [if_neg c] at h
    obtain ⟨X5, e5, h⟩ := z_ltE h
    cases h
    rw [e5]; exact k
theorem q_lay6 (h : QG B c X v) (hN : 13000 ≤ N) (hN2 : N < 2 ^ 31) : ∃ b X' v', fX4_lay N X = some (b, X') ∧ fL_lay N v = some (b, v') ∧ QG (B + 5000) c X' v' := by
  obtain ⟨m, P, T, J, hm, hrs, hT⟩ := h.rs
  obtain ⟨-, h6, q, he, hn, hj⟩ := h
  obtain ⟨b, X', m', a1, -, a3⟩ := c_lay (N := N) hm hN hN2
  have a0 := a1
  unfold fX4_lay at a1
  obtain ⟨X1, r1, a1⟩ := z_bE a1
  obtain ⟨r2, u2, l2, a1⟩ := z_b2E a1
  obtain ⟨X3, e3, a1⟩ := z_ltE a1
  cases a1
  have k1 := q_rem r1
  rw [k1] at l2
  obtain ⟨g', s', sum, d1, -, -, d4⟩ := m_layAll (N := N) (m := m) hrs ⟨trivial, trivial, trivial, trivial, trivial⟩ (fun _ => trivial) (by omega)
  rw [l2] at d1
  obtain ⟨-, eg⟩ := Prod.mk.inj (Option.some.inj d1)
  subst eg
  obtain ⟨v', w1, w2, w3, w4, w5⟩ := q_lay (N := N) hrs ⟨trivial, trivial, trivial, trivial, trivial⟩ (fun _ => trivial) (by omega) q l2
  have k3 : X'.2.2 0 = u2 := by rw [e3]; exact q_x0 X1 u2
  have fr : ∀ r, r ≠ 6 → r ≠ 7 → r ≠ 8 → r ≠ 10 → r ≠ 11 → X'.2.2 0 r = X.2.2 0 r := by rw [k3]; exact d4
  refine ⟨b, X', v', a0, w1, ⟨m', a3⟩, by rw [fr 0 (by decide) (by decide) (by decide) (by decide) (by decide)]; exact h6, by rw [k3]; exact w2, by rw [w5, he, fr 0 (by decide) (by decide) (by decide) (by decide) (by decide)], fun o ho => by rw [fr 3 (by decide) (by decide) (by decide) (by decide) (by decide)]; exact hn o ho, ?_⟩
  exact hj.cg (by rw [fr 0 (by decide) (by decide) (by decide) (by decide) (by decide)]) (fr 13 (by decide) (by decide) (by decide) (by decide) (by decide)) (fr 14 (by decide) (by decide) (by decide) (by decide) (by decide)) (fr 15 (by decide) (by decide) (by decide) (by decide) (by decide)) w4 w3
theorem q_run6 (h : QG B c X v) (hB : B + 5000 < 2 ^ 30) (hc : c + 100 < 2 ^ 29) (hN : 13000 ≤ N) (hN2 : N < 2 ^ 31) {k : Nat} (hk : k < 6) : ∃ b X' v', nX4_run N (nI k) X = some (b, X') ∧ fL_run N (nI k) v = some (b, v') ∧ ¬ b < 0 ∧ QG (B + 5000) (c + 100) X' v' := by
  obtain ⟨m, P, T, J, hm, hrs, hT⟩ := h.rs
  obtain ⟨-, h6, q, he, hn, hj⟩ := h
  obtain ⟨o, X', b, m', a1, -, a3, a4⟩ := c_run (N := N) hm hB hN hN2 (nI k)
  have a0 := a1
  unfold fX4_run at a1
  rw [m_hasY hrs.gn (by decide) hk, m_bind, if_neg m_1_0] at a1
  obtain ⟨X1, r1, a1⟩ := z_bE a1
  obtain ⟨r2, u2, l2, a1⟩ := z_b2E a1
  obtain ⟨X3, e3, a1⟩ := z_ltE a1
  cases a1
  have k1 := q_rem r1
  rw [k1] at l2
  obtain ⟨ee, j, g', s', T', J', d1, d2, d3, -, d5, d6, d7, d8, d9, d10⟩ := m_runs (N := N) (m := m) hrs ⟨trivial, trivial, trivial, trivial, trivial, trivial, trivial⟩ (fun _ => trivial) (by omega) (by omega) (nI k)
  rw [l2] at d3
  obtain ⟨ee1, eg⟩ := Prod.mk.inj (Option.some.inj d3)
  subst eg
  subst ee1
  obtain ⟨v', w1, w2, w3, ⟨j', hj4, ej⟩, w5⟩ := q_run (N := N) hrs ⟨trivial, trivial, trivial, trivial, trivial, trivial, trivial⟩ (fun _ => trivial) (by omega) (by omega) q hn hk l2
  have k3 : X'.2.2 0 = u2 := by rw [e3]; exact q_x0 X1 u2
  refine ⟨r2, X', v', by rw [n_run, a0]; rfl, w1, by rw [ej]; exact m_neg (by omega), ⟨m', a3⟩, by rw [k3]; exact d5.gn, by rw [k3]; exact w3, by rw [k3, w2, d8], fun o ho => by rw [k3, d10 3 (by decide) (by decide) (by decide) (by decide) (by decide)]; exact hn o ho, by rw [k3]; exact w5 c hc hj⟩
theorem q_turn6 (h : QG B c X v) (hB : B + 5000 < 2 ^ 30) (hN : 13000 ≤ N) (hN2 : N < 2 ^ 31) {t : Nat} (h1 : 1 ≤ t) (h99 : t ≤ 99) : ∃ b X', nX4_turn N (nI t) X = some (b, X') ∧ QG (B + 5000) c X' (z_u2 v 0 1 (v 0 1 + nI t)) ∧ ∃ P, 0 < P ∧ P ≤ 40 ∧ v 0 0 = nI P ∧ b = (v 0 1 + nI t) - (v 0 1 + nI t) / nI P * nI P := by
  obtain ⟨m, P, T, J, hm, hrs, hT⟩ := h.rs
  obtain ⟨-, h6, q, he, hn, hj⟩ := h
  have hP6 := hrs.P6
  have hP4 := hrs.P40
  obtain ⟨o, X', b, m', a1, -, a3, a4⟩ := c_turn (N := N) hm hB hN hN2 (nI t)
  have a0 := a1
  unfold fX4_turn at a1
  rw [(m_tuY (N := N) h1 h99).1, m_bind, if_neg m_1_0] at a1
  obtain ⟨X1, r1, a1⟩ := z_bE a1
  obtain ⟨X3, e3, a1⟩ := z_ltE a1
  obtain ⟨r5, l5, a1⟩ := z_bE a1
  cases a1
  have k1 := q_rem r1
  have k3 : X'.2.2 0 = z_u2 (X.2.2 0) 0 2 (nI (T + t)) := by
    rw [e3, q_x0, k1, hrs.gT, nI_add]
  have vT : v 0 1 + nI t = nI (T + t) := by rw [q.eT, hrs.gT, nI_add]
  have l6 : fX2_around N ((X'.2.2 0) 0 2) (X'.2.2 0) = some r5 := l5
  rw [k3, m_u2s, m_us, m_aroundP (P := P) (by rw [m_u2s, m_un _ _ (by decide)]; exact hrs.gP) (by omega) (by omega) (by omega)] at l6
  refine ⟨r5, X', by rw [n_turn, a0]; rfl, ⟨⟨m', a3⟩, by rw [k3, m_u2s, m_un _ _ (by decide)]; exact h6, by rw [k3, vT]; exact q.tk _, ?_, fun o ho => by rw [k3, m_u2n _ _ _ (by decide)]; exact hn o ho, ?_⟩, P, by omega, hP4, q.eP.trans hrs.gP, ?_⟩
  · rw [k3, m_u2s, m_un _ _ (by decide), m_u2s, m_un _ _ (by decide)]; exact he
  · rw [k3]
    exact hj.cg (by rw [m_u2s, m_un _ _ (by decide)]) (m_u2n _ _ _ (by decide)) (m_u2n _ _ _ (by decide)) (m_u2n _ _ _ (by decide)) (by rw [m_u2s, m_un _ _ (by decide)]) (m_u2n _ _ _ (by decide))
  · rw [vT, pk_rem (by omega) (by omega) (by omega)]
    exact (Option.some.inj l6).symm
/-- what a change puts -/
def q_val (w : Nat) (x : Int32) : Prop := (w = 0 ∧ ∃ k, k < 4 ∧ x = nI k) ∨ (w = 1 ∧ ∃ k, 1 ≤ k ∧ k ≤ 9 ∧ x = nI k) ∨ ((w = 2 ∨ w = 3) ∧ (x = -1 ∨ ∃ k, k < 8 ∧ x = nI k)) ∨ (w = 4 ∧ ∃ k, k ≤ 99 ∧ x = nI k)
theorem q_num {w : Nat} {x : Int32} (h : q_val w x) : fX4_isNumberOfOrder N (nI w) x = some 1 := by
  rcases m_num (N := N) (nI w) x with ⟨a, -⟩ | ⟨a, -⟩
  · exact a
  · exfalso
    unfold fX4_isNumberOfOrder at a
    rcases h with ⟨e, k, hk, ex⟩ | ⟨e, k, k1, k9, ex⟩ | ⟨e, ex⟩ | ⟨e, k, hk, ex⟩
    · subst e
      rw [if_pos (by decide), ex, m_auY hk, m_bind, m_b1, m_ckt] at a
      exact absurd a (by decide)
    · subst e
      rw [if_neg (by decide), if_pos (by decide)] at a
      rcases m_wk (N := N) x with ⟨b, -⟩ | ⟨b, -⟩
      · rw [b, m_bind, m_b1, m_ckt] at a
        exact absurd a (by decide)
      · unfold fX4_isWork at b
        rw [ex, if_neg (show ¬ nI k < (1 : Int32) from nI_nlt (b := 1) k1 (by omega)), if_neg (show ¬ (9 : Int32) < nI k from nI_nlt (b := k) (a := 9) k9 (by decide))] at b
        exact absurd b (by decide)
    · have lk : fX4_isLink N x = some 1 := by
        rcases m_lk (N := N) x with ⟨b, -⟩ | ⟨b, -⟩
        · exact b
        · exfalso
          unfold fX4_isLink at b
          rcases ex with ex | ⟨k, hk, ex⟩
          · rw [ex] at b
            revert b; decide
          · rw [ex, if_neg (m_nN k (by omega))] at b
            revert b
            rw [if_neg (m_neg (by omega)), if_neg (m_ge16 (by omega))]
            decide
      rcases e with e | e <;> subst e
      · rw [if_neg (by decide), if_neg (by decide), if_pos (by decide), lk, m_bind, m_b1, m_ckt] at a
        exact absurd a (by decide)
      · rw [if_neg (by decide), if_neg (by decide), if_neg (by decide), if_pos (by decide), lk, m_bind, m_b1, m_ckt] at a
        exact absurd a (by decide)
    · subst e
      rw [if_neg (by decide), if_neg (by decide), if_neg (by decide), if_neg (by decide), if_pos (by decide)] at a
      rcases m_br (N := N) x with ⟨b, -⟩ | ⟨b, -⟩
      · rw [b, m_bind, m_b1, m_ckt] at a
        exact absurd a (by decide)
      · unfold fX4_isBribe at b
        rw [ex, if_neg (m_neg (by omega)), if_neg (m_nlt99 hk)] at b
        exact absurd b (by decide)
theorem q_change6 (h : QG B c X v) (hN : 13000 ≤ N) (hN2 : N < 2 ^ 31) {k w : Nat} (hk : k < 6) (hw : w < 5) {x : Int32} (hx : q_val w x) : ∃ X', nX4_change N (nI k) (nI w) x X = some (v 1 (9 * k + w), X') ∧ QG (B + 5000) c X' (z_u2 v 1 (9 * k + w) x) := by
  obtain ⟨m, P, T, J, hm, hrs, hT⟩ := h.rs
  obtain ⟨-, h6, q, he, hn, hj⟩ := h
  obtain ⟨o, X', b, m', a1, -, a3, a4⟩ := c_change (N := N) hm hN hN2 (nI k) (nI w) x
  have a0 := a1
  unfold fX4_change at a1
  rw [m_hasY hrs.gn (by decide) hk, m_bind, if_neg m_1_0, q_num hx, m_bind, if_neg m_1_0] at a1
  obtain ⟨X1, r1, a1⟩ := z_bE a1
  have k1 := q_rem r1
  rw [k1, m_repl hw (by omega), m_b2, m_lt] at a1
  cases a1
  have k3 : ((X1.1, X1.2.1, z_u3 X1.2.2 0 (z_u2 (X.2.2 0) (w + 1) k x)) : z_X).2.2 0 = z_u2 (X.2.2 0) (w + 1) k x := q_x0 _ _
  refine ⟨(X1.1, X1.2.1, z_u3 X1.2.2 0 (z_u2 (X.2.2 0) (w + 1) k x)), by rw [n_change, a0, q.or w hk (by omega)]; rfl, ⟨m', a3⟩, ?_, ?_, ?_, fun o ho => ?_, ?_⟩
  · rw [k3, m_u2n _ _ _ (by omega)]; exact h6
  · rw [k3]; exact q.set x hk (by omega)
  · rw [k3, m_u2n _ _ _ (by omega), m_u2n _ _ _ (by omega)]; exact he
  · rw [k3]
    by_cases c3 : w = 2
    · subst c3
      rw [show (2 : Nat) + 1 = 3 from rfl, m_u2s]
      by_cases co : o = k
      · subst co
        rw [m_us]
        rcases hx with ⟨e, -⟩ | ⟨e, -⟩ | ⟨-, e⟩ | ⟨e, -⟩
        · omega
        · omega
        · exact e
        · omega
      · rw [m_un _ _ co]; exact hn o ho
    · rw [m_u2n _ _ _ (by omega)]; exact hn o ho
  · rw [k3]
    exact hj.cg (by rw [m_u2n _ _ _ (by omega)]) (m_u2n _ _ _ (by omega)) (m_u2n _ _ _ (by omega)) (m_u2n _ _ _ (by omega)) (by rw [m_u2n _ _ _ (by decide)]) (m_u2n _ _ _ (by decide))
theorem q_move6 (h : QG B c X v) (hN : 13000 ≤ N) (hN2 : N < 2 ^ 31) {k p P : Nat} (hk : k < 6) (hP : v 0 0 = nI P) (hP4 : P ≤ 40) (hp : p < P) : ∃ t r X', fL_at N (nI p) v = some t ∧ fL_move N (nI k) (nI p) X = some (r, X') ∧ (((t < 0 ∨ t = nI k) ∧ r = v 1 (9 * k + 7) ∧ ∃ v1, fL_refund N (nI k) v = some v1 ∧ QG (B + 5000) c X' (z_u2 (z_u2 v1 1 (9 * k + 5) (nI p)) 1 (9 * k + 6) (-1))) ∨ (¬ t < 0 ∧ ¬ t = nI k ∧ r = -2 ∧ QG (B + 5000) c X' v)) := by
  obtain ⟨m, P', T, J, hm, hrs, hT⟩ := h.rs
  obtain ⟨-, h6, q, he, hn, hj⟩ := id h
  have hP4' := hrs.P40
  have eP : P' = P := m_nI_inj (by omega) (by omega) (hrs.gP.symm.trans (q.eP.symm.trans hP))
  subst eP
  obtain ⟨o, X', b, m', a1, -, a3, a4⟩ := c_move (N := N) hm hN hN2 (nI k) (nI p)
  obtain ⟨t, t1, t2⟩ := m_orderOn (N := N) (g := X.2.2 0) (n := 6) hrs.gn (by decide) (by omega) (nI p)
  have t3 := (q_at (N := N) q hrs.gn (by omega) (nI p)).trans t1
  have mv : fL_move N (nI k) (nI p) X = z_sm o (fun r => some (r, X')) (fun k => if k = 3 then some (-1, X') else if k = 2 then some (-2, X') else none) := by
    unfold fL_move
    rw [a1, m_b2]
  have a0 := a1
  unfold fX4_move at a1
  rw [m_hasY hrs.gn (by decide) hk, m_bind, if_neg m_1_0, m_hpY hrs.gP (by omega) hp, m_bind, if_neg m_1_0] at a1
  have fr : fX2_isFreeFor N (nI k) (nI p) (X.2.2 0) = if t = -1 then some 1 else if t = nI k then some 1 else some 0 := by
    unfold fX2_isFreeFor
    rw [t1, m_bind]
  have tn : t < 0 ↔ t = -1 := by
    rcases t2 with ⟨e, -⟩ | ⟨u, hu, -, e⟩
    · exact ⟨fun _ => e, fun _ => by rw [e]; decide⟩
    · exact ⟨fun d => absurd d (by rw [e]; exact m_neg (by omega)), fun d => by rw [d]; decide⟩
  by_cases cf : t = -1 ∨ t = nI k
  · have fr1 : fX2_isFreeFor N (nI k) (nI p) (X.2.2 0) = some 1 := by
      rw [fr]
      rcases cf with e | e
      · rw [if_pos e]
      · by_cases d : t = -1
        · rw [if_pos d]
        · rw [if_neg d, if_pos e]
    rw [fr1, m_bind, if_neg m_1_0] at a1
    obtain ⟨X1, r1, a1⟩ := z_bE a1
    have k1 := q_rem r1
    obtain ⟨a, ha4, ha⟩ := hrs.au hk
    have hput : fX2_put N (nI k) (nI p) (X.2.2 0) = some (X.2.2 0 8 k, z_u2 (z_u2 (z_u2 (z_u2 (X.2.2 0) 11 a (X.2.2 0 11 a + X.2.2 0 8 k)) 8 k 0) 6 k (nI p)) 7 k (-1)) := by
      unfold fX2_put
      rw [m_refC (by omega) ha ha4, m_b2, m_in (show k < 16 by omega) (by decide), m_ckt, m_clamp (by omega), m_lt, m_ckt, m_lt]
    rw [k1, hput, m_b2, m_lt] at a1
    obtain ⟨e1, e2⟩ := Prod.mk.inj (Option.some.inj a1)
    obtain ⟨v1, w1, w2, w3, w4, w5⟩ := q_refund (N := N) q hk ha ha4
    have w6 := (w2.set (o := k) (w := 5) (nI p) hk (by decide)).set (o := k) (w := 6) (-1) hk (by decide)
    obtain ⟨G, hG⟩ : ∃ G, G = z_u2 (z_u2 (z_u2 (z_u2 (X.2.2 0) 11 a (X.2.2 0 11 a + X.2.2 0 8 k)) 8 k 0) 6 k (nI p)) 7 k (-1) := ⟨_, rfl⟩
    have k3 : X'.2.2 0 = G := by
      rw [← e2, hG]
      exact q_x0 _ _
    have fG : ∀ r, r ≠ 6 → r ≠ 7 → r ≠ 8 → r ≠ 11 → G r = X.2.2 0 r := fun r x6 x7 x8 x11 => by rw [hG, m_u2n _ _ _ x7, m_u2n _ _ _ x6, m_u2n _ _ _ x8, m_u2n _ _ _ x11]
    refine ⟨t, X.2.2 0 8 k, X', t3, by rw [mv, ← e1]; rfl, Or.inl ⟨cf.imp tn.mpr id, (q.or 7 hk (by decide)).symm, v1, w1, ⟨m', a3⟩, ?_, ?_, ?_, fun o ho => ?_, ?_⟩⟩
    · rw [k3, fG 0 (by decide) (by decide) (by decide) (by decide)]; exact h6
    · rw [k3, hG]; exact w6
    · rw [k3, fG 0 (by decide) (by decide) (by decide) (by decide), m_u2n _ _ _ (by decide), m_u2n _ _ _ (by decide), w5]; exact he
    · rw [k3, fG 3 (by decide) (by decide) (by decide) (by decide)]; exact hn o ho
    · rw [k3]
      exact hj.cg (by rw [fG 0 (by decide) (by decide) (by decide) (by decide)]) (fG 13 (by decide) (by decide) (by decide) (by decide)) (fG 14 (by decide) (by decide) (by decide) (by decide)) (fG 15 (by decide) (by decide) (by decide) (by decide)) (by rw [m_u2n _ _ _ (by decide), m_u2n _ _ _ (by decide), w4]) (by rw [m_u2n _ _ _ (by decide), m_u2n _ _ _ (by decide), w3])
  · have fr0 : fX2_isFreeFor N (nI k) (nI p) (X.2.2 0) = some 0 := by
      rw [fr, if_neg (fun e => cf (Or.inl e)), if_neg (fun e => cf (Or.inr e))]
    rw [fr0, m_bind, if_pos m_00] at a1
    obtain ⟨e1, e2⟩ := Prod.mk.inj (Option.some.inj a1)
    subst e2
    refine ⟨t, -2, X, t3, by rw [mv, ← e1]; rfl, Or.inr ⟨fun d => cf (Or.inl (tn.mp d)), fun d => cf (Or.inr d), rfl, h.mono (by omega) (Nat.le_refl c)⟩⟩
end Q6
