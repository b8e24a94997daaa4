/-! what runs, layings, places and bribes would bring -/
theorem q_cpL {N ln : Nat} (hl : ln < 2 ^ 31) (f u : Nat → Int32) : ∀ (k i fu : Nat), i + k = ln → k < fu → lL_copy_2 N ln f fu (nI i) (m_up f u i) = some (m_up f u ln) := by
  intro k
  induction k with
  | zero =>
    intro i fu hi hfu
    obtain ⟨fu, rfl⟩ : ∃ q, fu = q + 1 := ⟨fu - 1, by omega⟩
    have e : i = ln := by omega
    subst e
    rw [lL_copy_2.eq_2, show (Int32.ofNat i) = nI i from rfl, if_pos (nI_le (Nat.le_refl i) hl)]
  | succ k ih =>
    intro i fu hi hfu
    obtain ⟨fu, rfl⟩ : ∃ q, fu = q + 1 := ⟨fu - 1, by omega⟩
    rw [lL_copy_2.eq_2, show (Int32.ofNat ln) = nI ln from rfl, if_neg (nI_ge (by omega) hl), m_in (by omega) hl, m_ckt, m_ckt, m_clamp (by omega), m_lt, nI_1]
    have e : upd (m_up f u i) i (f i) = m_up f u (i + 1) := by
      funext j
      by_cases c : j = i
      · subst c
        rw [m_us]
        exact (if_pos (Nat.lt_succ_self j)).symm
      · rw [m_un _ _ c]
        unfold m_up
        by_cases c2 : j < i
        · rw [if_pos c2, if_pos (by omega)]
        · rw [if_neg c2, if_neg (by omega)]
    rw [e]
    exact ih (i + 1) fu (by omega) (by omega)
theorem q_cp {N ln : Nat} (hl : ln < N) (hN : N < 2 ^ 31) (f u : Nat → Int32) : fL_copy N ln f u = some (m_up f u ln) := by
  have e : m_up f u 0 = u := by
    funext j
    exact if_neg (Nat.not_lt_zero j)
  have h := q_cpL (N := N) (ln := ln) (by omega) f u ln 0 N (by omega) hl
  rw [e] at h
  exact h
section Q8
variable {N B c P T J : Nat} {X : z_X} {g v w : z_R} {s : Nat → Int32}
theorem QO.cg {v' : z_R} (h : QO g v) (h0 : ∀ k, k < 12 → v' 0 k = v 0 k) (h1 : ∀ k, k < 54 → v' 1 k = v 1 k) : QO g v' := by
  refine ⟨(h0 0 (by decide)).trans h.eP, (h0 1 (by decide)).trans h.eT, fun a ha => ⟨(h0 _ (by omega)).trans (h.pd ha), (h0 _ (by omega)).trans (h.rf ha)⟩, fun o u ho hu => (h1 _ (by omega)).trans (h.or u ho hu)⟩
/-- the law's rows copied: q, or -/
def q_c2 (v w : z_R) : z_R := z_uR (z_uR w 0 (m_up (v 0) (w 0) 12)) 1 (m_up (v 1) ((z_uR w 0 (m_up (v 0) (w 0) 12)) 1) 54)
theorem q_c2O (h : QO g v) : QO g (q_c2 v w) := by
  refine h.cg (fun k hk => ?_) (fun k hk => ?_)
  · unfold q_c2
    rw [m_other _ _ (by decide), m_same]
    exact if_pos hk
  · unfold q_c2
    rw [m_same]
    exact if_pos hk
theorem q_c2T (h : QO g v) : q_c2 v w 0 1 = v 0 1 := (q_c2O (w := w) h).eT.trans h.eT.symm
theorem q_cpy {u : z_R} (h : RS m_Al 6 P T J g s) (hu : RS m_Al 6 P T J u s) (q : QO g v) : QO u v := by
  refine ⟨by rw [q.eP, h.gP, hu.gP], by rw [q.eT, h.gT, hu.gT], fun a ha => ⟨by rw [q.pd ha, ← h.pd ha trivial, hu.pd ha trivial], by rw [q.rf ha, ← h.rf ha trivial, hu.rf ha trivial]⟩, fun o w ho hw => by rw [q.or w ho hw, ← h.or ho (by omega) (by omega) trivial, hu.or ho (by omega) (by omega) trivial]⟩
theorem q_cpN {u : z_R} (h : RS m_Al 6 P T J g s) (hu : RS m_Al 6 P T J u s) (q : QN g) : QN u := fun o ho => by
  rw [← hu.or ho (by decide) (by decide) trivial, h.or ho (by decide) (by decide) trivial]
  exact q o ho
/-- the ticks of a run: the class's on its probe, the law's on its copies -/
theorem q_ticks {j o : Nat} (h : RS m_Al 6 P T J (X.2.2 j) s) (hT : T + 4900 < 2 ^ 30) (hN : 13000 ≤ N) (hN2 : N < 2 ^ 31) (q : QO (X.2.2 j) v) (hq : QN (X.2.2 j)) (hj : j ≠ 2) (ho : o < 6) : ∃ r X' e v', fX4_ticksOfRun N j (nI o) X = some (r, X') ∧ fL_run N (nI o) v = some (e, v') ∧ r = v' 0 1 - v 0 1 ∧ X'.1 = X.1 ∧ X'.2.1 = X.2.1 ∧ (∀ k, k ≠ 2 → X'.2.2 k = X.2.2 k) := by
  obtain ⟨u, u1, u2⟩ := m_copyC (N := N) h (by omega) hN2 (X.2.2 2)
  have hu := u2 (s'' := s) h (fun _ _ => rfl)
  obtain ⟨e, je, g', s', T', J', e1, e2, e3, -⟩ := m_runs (N := N) (m := fun _ _ => 0) hu ⟨trivial, trivial, trivial, trivial, trivial, trivial, trivial⟩ (fun _ => trivial) (by omega) hT (nI o)
  obtain ⟨v', w1, -, w3, -⟩ := q_run (N := N) hu ⟨trivial, trivial, trivial, trivial, trivial, trivial, trivial⟩ (fun _ => trivial) (by omega) hT (q_cpy h hu q) (q_cpN h hu hq) ho e3
  refine ⟨g' 0 2 - X.2.2 j 0 2, (X.1, X.2.1, z_u3 (z_u3 X.2.2 2 u) 2 g'), e, v', ?_, w1, by rw [w3.eT, q.eT], rfl, rfl, fun k hk => ?_⟩
  · unfold fX4_ticksOfRun
    rw [u1, m_bind, m_lt]
    dsimp +instances only
    rw [m_u3s, e3, m_b2, m_lt]
    dsimp +instances only
    rw [m_u3s, m_u3n _ g' hj, m_u3n _ u hj]
  · show z_u3 (z_u3 X.2.2 2 u) 2 g' k = _
    rw [m_u3n _ _ hk, m_u3n _ _ hk]
theorem QG.pr {X' : z_X} (h : QG B c X v) (h1 : X'.1 = X.1) (h2 : X'.2.1 = X.2.1) (h3 : ∀ k, k = 0 ∨ 3 ≤ k → X'.2.2 k = X.2.2 k) : QG B c X' v := by
  obtain ⟨⟨m, hm⟩, h6, q, he, hn, hj⟩ := h
  have e := h3 0 (Or.inl rfl)
  refine ⟨⟨m, hm.tk h1 h2 h3 (fun _ _ => rfl) ⟨rfl, rfl, rfl, rfl⟩ ⟨rfl, rfl⟩⟩, ?_⟩
  rw [e]
  exact ⟨h6, q, he, hn, hj⟩
/-- which places are free for an order: the law's question and the class's -/
theorem q_free (h : RS m_Al 6 P T J g s) (q : QO g v) (hN : 17 ≤ N) {k p : Nat} (hk : k < 6) (hp : p < P) : ∃ t, fL_at N (nI p) v = some t ∧ (((t < 0 ∨ t = nI k) ∧ fX2_isFreeFor N (nI k) (nI p) g = some 1 ∧ ∀ u, u < 6 → u ≠ k → g 6 u ≠ nI p) ∨ (¬ t < 0 ∧ ¬ t = nI k ∧ fX2_isFreeFor N (nI k) (nI p) g = some 0)) := by
  have hP4 := h.P40
  obtain ⟨t, t1, t2⟩ := m_orderOn (N := N) (g := g) (n := 6) h.gn (by decide) hN (nI p)
  have t3 := (q_at (N := N) q h.gn hN (nI p)).trans t1
  refine ⟨t, t3, ?_⟩
  have fr : fX2_isFreeFor N (nI k) (nI p) g = if t = -1 then some 1 else if t = nI k then some 1 else some 0 := by
    unfold fX2_isFreeFor
    rw [t1, m_bind]
  rcases t2 with ⟨e, hf⟩ | ⟨u, hu, e1, e2⟩
  · exact Or.inl ⟨Or.inl (by rw [e]; decide), by rw [fr, if_pos e], fun u hu _ => hf u hu⟩
  · have tn : ¬ t = -1 := by rw [e2]; exact m_nN u (by omega)
    have tn2 : ¬ t < 0 := by rw [e2]; exact m_neg (by omega)
    by_cases ck : t = nI k
    · have euk : u = k := m_nI_inj (by omega) (by omega) (e2.symm.trans ck)
      subst euk
      refine Or.inl ⟨Or.inr ck, by rw [fr, if_neg tn, if_pos ck], fun z hz hzk e => ?_⟩
      have := h.ap hz hu hzk (e.trans e1.symm)
      rw [e] at this
      exact m_nN p (by omega) this
    · exact Or.inr ⟨tn2, ck, by rw [fr, if_neg tn, if_neg ck]⟩
/-- the search for the best place -/
def q_tb (N : Nat) (x1 x2 : Int32) (b : Int32) (Y : z_O) : Option (Int32 × z_O) :=
z_b2 (nX4_bestPlace N x1 x2 Y.1) fun r24 u24 =>
z_lt ((u24, Y.2)) fun Y25 =>
(if r24 = b then
(lL_would_255 N x1 300 (-1 : Int32) (99 : Int32) Y25)
else
some ((0 : Int32), Y25))
theorem q_bpL {g0 u : z_R} (h : RS m_Al 6 P T J g0 s) (hu : RS m_Al 6 P T J u s) (hT : T + 4900 < 2 ^ 30) (hN : 13000 ≤ N) (hN2 : N < 2 ^ 31) (q : QO g0 v) (hq : QN g0) {k o : Nat} (hk : k < 6) (ho : o < 6) (X0 : z_X) : ∀ (d i fu fv : Nat) (best la lc : Int32) (w : z_R) (X : z_X), i + d = P → d < fu → d < fv → (best = -1 ∨ ∃ b, b < i ∧ best = nI b ∧ la = lc) → X.2.2 0 = g0 → (∀ z, z_u2 (X.2.2 1) 6 k z = z_u2 u 6 k z) → ∃ b w' X', lL_would_115 N (nI k) (nI o) fu best la (nI i) (X0, v, w) = q_tb N (nI k) (nI o) b (X0, v, w') ∧ nlX4_bestPlace_51 N (nI k) (nI o) fv best lc (nI i) X = some (b, X') ∧ X'.1 = X.1 ∧ X'.2.1 = X.2.1 ∧ (∀ z, z = 0 ∨ 3 ≤ z → X'.2.2 z = X.2.2 z) := by
  have hP6 := h.P6
  have hP4 := h.P40
  have vP : v 0 0 = nI P := q.eP.trans h.gP
  intro d
  induction d with
  | zero =>
    intro i fu fv best la lc w X hi hfu hfv hb h0 ht
    obtain ⟨fu, rfl⟩ : ∃ q, fu = q + 1 := ⟨fu - 1, by omega⟩
    obtain ⟨fv, rfl⟩ : ∃ q, fv = q + 1 := ⟨fv - 1, by omega⟩
    have e : i = P := by omega
    subst e
    refine ⟨best, w, X, ?_, ?_, rfl, rfl, fun _ _ => rfl⟩
    · rw [lL_would_115.eq_2]
      dsimp +instances only
      rw [m_t0, vP, if_pos (nI_le (Nat.le_refl i) (by omega))]
      rfl
    · rw [nlX4_bestPlace_51.eq_2, h0, h.gP, if_pos (nI_le (Nat.le_refl i) (by omega))]
  | succ d ih =>
    intro i fu fv best la lc w X hi hfu hfv hb h0 ht
    obtain ⟨fu, rfl⟩ : ∃ q, fu = q + 1 := ⟨fu - 1, by omega⟩
    obtain ⟨fv, rfl⟩ : ∃ q, fv = q + 1 := ⟨fv - 1, by omega⟩
    have hiP : i < P := by omega
    have hb1 : best = -1 ∨ ∃ b, b < i + 1 ∧ best = nI b ∧ la = lc := hb.imp id fun ⟨b, h1, h2⟩ => ⟨b, by omega, h2⟩
    have bn : best < 0 ↔ best = -1 := by
      rcases hb with e | ⟨b, hb, e, -⟩
      · exact ⟨fun _ => e, fun _ => by rw [e]; decide⟩
      · exact ⟨fun d => absurd d (by rw [e]; exact m_neg (by omega)), fun d => by rw [d]; decide⟩
    obtain ⟨t, t1, t2⟩ := q_free (N := N) h q (by omega) hk hiP
    have cls : nlX4_bestPlace_51 N (nI k) (nI o) (fv + 1) best lc (nI i) X = (fX2_isFreeFor N (nI k) (nI i) g0).bind fun r8 => (if r8 = 0 then (nlX4_bestPlace_51 N (nI k) (nI o) fv best lc (nI (i + 1)) X) else z_b2 (fX4_ticksOfRun N 1 (nI o) (X.1, X.2.1, z_u3 X.2.2 1 (z_u2 (X.2.2 1) 6 k (nI i)))) fun r12 X12 => (if best = (-1 : Int32) then (nlX4_bestPlace_51 N (nI k) (nI o) fv (nI i) r12 (nI (i + 1)) X12) else (if lc ≤ r12 then (nlX4_bestPlace_51 N (nI k) (nI o) fv best lc (nI (i + 1)) X12) else (nlX4_bestPlace_51 N (nI k) (nI o) fv (nI i) r12 (nI (i + 1)) X12)))) := by
      rw [nlX4_bestPlace_51.eq_2, h0, h.gP, if_neg (nI_ge hiP (by omega)), m_in (show k < 16 by omega) (by decide), m_clamp (by omega), nI_1]
      rfl
    have lst : lL_would_115 N (nI k) (nI o) (fu + 1) best la (nI i) (X0, v, w) = (if t < 0 then jL_would_147_115 N (lL_would_115 N (nI k) (nI o) fu) (nI k) (nI o) best la (nI i) (X0, v, w) else if t = nI k then jL_would_147_115 N (lL_would_115 N (nI k) (nI o) fu) (nI k) (nI o) best la (nI i) (X0, v, w) else lL_would_115 N (nI k) (nI o) fu best la (nI (i + 1)) (X0, v, w)) := by
      rw [lL_would_115.eq_2]
      dsimp +instances only
      rw [m_t0, vP, if_neg (nI_ge hiP (by omega)), t1, m_bind, m_bind, nI_1]
    rcases t2 with ⟨a1, a2, a3⟩ | ⟨a1, a2, a3⟩
    · -- free
      rw [a2, m_bind, if_neg m_1_0] at cls
      have lst2 : lL_would_115 N (nI k) (nI o) (fu + 1) best la (nI i) (X0, v, w) = jL_would_147_115 N (lL_would_115 N (nI k) (nI o) fu) (nI k) (nI o) best la (nI i) (X0, v, w) := by
        rw [lst]
        rcases a1 with e | e
        · rw [if_pos e]
        · by_cases d : t < 0
          · rw [if_pos d]
          · rw [if_neg d, if_pos e]
      obtain ⟨W, hW⟩ : ∃ W, W = z_u2 (q_c2 v w) 1 (9 * k + 5) (nI i) := ⟨_, rfl⟩
      have qu := q_cpy h hu q
      have qW : QO (z_u2 u 6 k (nI i)) W := by rw [hW]; exact (q_c2O (w := w) qu).set (o := k) (w := 5) (nI i) hk (by decide)
      have WT : W 0 1 = v 0 1 := by rw [hW, m_u2n _ _ _ (by decide)]; exact q_c2T q
      have e6 : ∀ z, z < 6 → u 6 z = g0 6 z := fun z hz => by rw [← hu.or hz (by decide) (by decide) trivial, h.or hz (by decide) (by decide) trivial]
      have hr1 : RS m_Al 6 P T J (z_u2 u 6 k (nI i)) (upd s (12 + 9 * k + 6) (nI i)) := hu.part hk (by decide) (by decide) (m_Vd6 (Or.inr ⟨i, hiP, rfl⟩)) (fun _ => Or.inr fun z hz hzk => by rw [e6 z hz]; exact a3 z hz hzk)
      obtain ⟨X1, hX1⟩ : ∃ X1 : z_X, X1 = (X.1, X.2.1, z_u3 X.2.2 1 (z_u2 (X.2.2 1) 6 k (nI i))) := ⟨_, rfl⟩
      have x11 : X1.2.2 1 = z_u2 u 6 k (nI i) := by rw [hX1]; dsimp +instances only; rw [m_u3s, ht]
      obtain ⟨r, X2, e, w2, k1, k2, k3, k4, k5, k6⟩ := q_ticks (N := N) (X := X1) (j := 1) (v := W) (s := upd s (12 + 9 * k + 6) (nI i)) (by rw [x11]; exact hr1) hT hN hN2 (by rw [x11]; exact qW) (by rw [x11]; exact fun z hz => by rw [m_u2n _ _ _ (by decide)]; exact q_cpN h hu hq z hz) (by decide) ho
      rw [← hX1, k1, m_b2] at cls
      rw [WT] at k3
      have j147 : jL_would_147_115 N (lL_would_115 N (nI k) (nI o) fu) (nI k) (nI o) best la (nI i) (X0, v, w) = (if best < 0 then lL_would_115 N (nI k) (nI o) fu (nI i) r (nI (i + 1)) (X0, v, w2) else if la ≤ r then (if best = nI i then lL_would_115 N (nI k) (nI o) fu best r (nI (i + 1)) (X0, v, w2) else lL_would_115 N (nI k) (nI o) fu best la (nI (i + 1)) (X0, v, w2)) else lL_would_115 N (nI k) (nI o) fu (nI i) r (nI (i + 1)) (X0, v, w2)) := by
        unfold jL_would_147_115 jL_would_204_115
        dsimp +instances only
        rw [q_cp (show 12 < N by omega) hN2, m_bind, m_lt]
        dsimp +instances only
        rw [q_cp (show 54 < N by omega) hN2, m_bind, m_lt]
        dsimp +instances only
        rw [q_i5, m_in (show 9 * k + 5 < 54 by omega) (by decide), m_ckt, m_clamp (show 9 * k + 5 < 2 ^ 31 by omega), m_lt]
        dsimp +instances only
        have eW : z_u2 (z_uR (z_uR w 0 (m_up (v 0) (w 0) 12)) 1 (m_up (v 1) (z_uR w 0 (m_up (v 0) (w 0) 12) 1) 54)) 1 (9 * k + 5) (nI i) = W := by rw [hW]; rfl
        rw [eW, k2, m_b2, m_lt]
        dsimp +instances only
        rw [m_t1, ← k3, if_pos rfl, nI_1]
      have x20 : X2.2.2 0 = g0 := by rw [k6 0 (by decide), hX1]; dsimp +instances only; rw [m_u3n _ _ (by decide)]; exact h0
      have x21 : ∀ z, z_u2 (X2.2.2 1) 6 k z = z_u2 u 6 k z := fun z => by rw [k6 1 (by decide), x11, q_u2u2]
      have kp1 : X2.1 = X.1 := by rw [k4, hX1]
      have kp2 : X2.2.1 = X.2.1 := by rw [k5, hX1]
      have kp3 : ∀ z, z = 0 ∨ 3 ≤ z → X2.2.2 z = X.2.2 z := fun z hz => by rw [k6 z (by omega), hX1]; dsimp +instances only; rw [m_u3n _ _ (by omega)]
      have fin : ∀ {b' la' lc'}, (b' = -1 ∨ ∃ b, b < i + 1 ∧ b' = nI b ∧ la' = lc') → lL_would_115 N (nI k) (nI o) (fu + 1) best la (nI i) (X0, v, w) = lL_would_115 N (nI k) (nI o) fu b' la' (nI (i + 1)) (X0, v, w2) → nlX4_bestPlace_51 N (nI k) (nI o) (fv + 1) best lc (nI i) X = nlX4_bestPlace_51 N (nI k) (nI o) fv b' lc' (nI (i + 1)) X2 → ∃ b w' X', lL_would_115 N (nI k) (nI o) (fu + 1) best la (nI i) (X0, v, w) = q_tb N (nI k) (nI o) b (X0, v, w') ∧ nlX4_bestPlace_51 N (nI k) (nI o) (fv + 1) best lc (nI i) X = some (b, X') ∧ X'.1 = X.1 ∧ X'.2.1 = X.2.1 ∧ (∀ z, z = 0 ∨ 3 ≤ z → X'.2.2 z = X.2.2 z) := fun {b' la' lc'} hb' e1 e2 => by
        obtain ⟨b, w', X', p1, p2, p3, p4, p5⟩ := ih (i + 1) fu fv b' la' lc' w2 X2 (by omega) (by omega) (by omega) hb' x20 x21
        exact ⟨b, w', X', e1.trans p1, e2.trans p2, p3.trans kp1, p4.trans kp2, fun z hz => (p5 z hz).trans (kp3 z hz)⟩
      rw [j147] at lst2
      by_cases c1 : best = -1
      · rw [if_pos (bn.mpr c1)] at lst2
        rw [if_pos c1] at cls
        exact fin (Or.inr ⟨i, by omega, rfl, rfl⟩) lst2 cls
      · rw [if_neg (fun d => c1 (bn.mp d))] at lst2
        rw [if_neg c1] at cls
        obtain ⟨b, hbi, hbe, hl⟩ := hb.resolve_left c1
        subst hl
        by_cases c2 : la ≤ r
        · rw [if_pos c2, if_neg (fun e => by have := m_nI_inj (by omega) (by omega) (hbe.symm.trans e); omega)] at lst2
          rw [if_pos c2] at cls
          exact fin (Or.inr ⟨b, by omega, hbe, rfl⟩) lst2 cls
        · rw [if_neg c2] at lst2
          rw [if_neg c2] at cls
          exact fin (Or.inr ⟨i, by omega, rfl, rfl⟩) lst2 cls
    · rw [if_neg a1, if_neg a2] at lst
      rw [a3, m_bind, if_pos m_00] at cls
      obtain ⟨b, w', X', p1, p2, p3⟩ := ih (i + 1) fu fv best la lc w X (by omega) (by omega) (by omega) hb1 h0 ht
      exact ⟨b, w', X', lst.trans p1, cls.trans p2, p3⟩
end Q8
