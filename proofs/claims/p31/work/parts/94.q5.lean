/-! a run, read by read -/
/-- what the law does behind the wait for an order -/
def q_kk (N : Nat) (bk : Int32 → Int32 → Int32 → z_R → Option (Int32 × z_R)) (x4 x5 x6 : Int32) : Int32 → z_R → Option (Int32 × z_R) := fun x7_93 g93_14 => z_ck (z_in (((9 : Int32) * x4) + (8 : Int32)) 54) <|
z_lt (z_u2 g93_14 1 ((((9 : Int32) * x4) + (8 : Int32))).toNatClampNeg x7_93) fun g16 =>
(if x5 < 0 then
(jL_run_154_9 N bk x4 x5 x6 g16)
else
(if x7_93 ≤ 0 then
(jL_run_154_9 N bk x4 x5 x6 g16)
else
(fL_refund N x4 (g16)).bind fun u55 =>
(jL_run_154_9 N bk x4 x5 x6 u55)))
section Q5
variable {E : Nat → Prop} {N n P T J : Nat} {g v u : z_R} {s : Nat → Int32}
theorem QJ.cg {c : Nat} {g' v' : z_R} (h : QJ c g v) (h4 : g' 0 4 = g 0 4) (h13 : g' 13 = g 13) (h14 : g' 14 = g 14) (h15 : g' 15 = g 15) (v11 : v' 0 11 = v 0 11) (v2 : v' 2 = v 2) : QJ c g' v' := by
  unfold QJ
  rw [h4, h13, h14, h15, v11, v2]
  exact h
theorem QJ.mono {c c' : Nat} (h : QJ c g v) (hc : c ≤ c') : QJ c' g v := by
  obtain ⟨j1, J', j2, j3, j4, j5, j6⟩ := h
  refine ⟨j1, J', j2, j3, fun i hi => ?_, j5, j6⟩
  obtain ⟨x, y, k, c1, c2, c3, c4, c5⟩ := j4 i hi
  exact ⟨x, y, k, c1, c2, c3, by omega, c5⟩
theorem q_ge100 {k : Nat} (h : k < 100) : ¬ (100 : Int32) ≤ nI k := nI_ge (b := 100) h (by decide)
theorem q_77 {bk : Int32 → Int32 → Int32 → z_R → Option (Int32 × z_R)} {x4 x5 : Int32} {k : Nat} (hk : k ≤ 99) : jL_run_77_9 N bk x4 x5 (nI k) u = if k = 99 then some (2, z_u2 u 0 2 2) else lL_run_93 N x4 x5 (nI k) (q_kk N bk x4 x5 (nI k)) N 0 (z_u2 u 0 2 2) := by
  unfold jL_run_77_9
  rw [m_t2, m_lt]
  by_cases c : k = 99
  · rw [if_pos ((m_99 hk).mpr c), if_pos c]
  · rw [if_neg (fun e => c ((m_99 hk).mp e)), if_neg c]
    rfl
theorem q_lp (q : QO g v) {o k p fv : Nat} {f : Int32} (ho : o < 6) (hk : k ≤ 99) (h6 : g 6 o = nI p) (hp : p < 2 ^ 30) (hex : g 4 o = -1 ∨ ∃ w, w < 16 ∧ g 4 o = nI w) (hf : f = -1 ∨ ∃ q, q < 6 ∧ f = nI q) : lL_run_9 N (fv + 1) (nI o) f (nI k) v = if ¬ f = -1 ∧ ¬ g 4 o = -1 ∧ ¬ g 4 o = f then some (1, z_u2 (z_u2 v 0 2 3) 0 2 1) else if k = 99 then some (2, z_u2 (z_u2 (z_u2 v 0 2 3) 0 2 1) 0 2 2) else lL_run_93 N (nI o) f (nI k) (q_kk N (lL_run_9 N fv) (nI o) f (nI k)) N 0 (z_u2 (z_u2 (z_u2 v 0 2 3) 0 2 1) 0 2 2) := by
  have e6 : z_u2 v 0 2 3 1 (9 * o + 5) = nI p := by rw [m_u2n _ _ _ (by decide), q.or 5 ho (by decide)]; exact h6
  have e4 : z_u2 (z_u2 v 0 2 3) 0 2 1 1 (9 * o + 3) = g 4 o := by rw [m_u2n _ _ _ (by decide), m_u2n _ _ _ (by decide)]; exact q.or 3 ho (by decide)
  rw [lL_run_9.eq_2, if_neg (q_ge100 (show k < 100 by omega)), m_t2, m_lt, if_neg (q_lt5 ho), q_i5, m_in (show 9 * o + 5 < 54 by omega) (by decide), m_ckt, m_clamp (show 9 * o + 5 < 2 ^ 31 by omega), e6, if_pos (m_le0.mpr (m_neg (by omega))), m_lt]
  rcases hf with e | ⟨w, hw, e⟩
  · rw [if_pos (show f < 0 by rw [e]; decide), if_neg (fun c => c.1 e), q_77 hk]
  · have fn : ¬ f = -1 := by rw [e]; exact m_nN w (by omega)
    rw [if_neg (show ¬ f < 0 by rw [e]; exact m_neg (by omega)), q_i3, m_in (show 9 * o + 3 < 54 by omega) (by decide), m_ckt, m_ckt, m_clamp (show 9 * o + 3 < 2 ^ 31 by omega), e4]
    rcases hex with h4 | ⟨z, hz, h4⟩
    · rw [if_pos (show g 4 o < 0 by rw [h4]; decide), if_neg (fun c => c.2.1 h4), q_77 hk]
    · have h4n : ¬ g 4 o = -1 := by rw [h4]; exact m_nN z (by omega)
      rw [if_neg (show ¬ g 4 o < 0 by rw [h4]; exact m_neg (by omega))]
      by_cases c : g 4 o = f
      · rw [if_pos c, if_neg (fun d => d.2.2 c), q_77 hk]
      · rw [if_neg c, if_pos ⟨fn, h4n, c⟩]
/-- an order is read, on both sides -/
theorem q_rd (h : RS E 6 P T J g s) (hN : 260 ≤ N) (hT : T + 49 < 2 ^ 30) {bk : Int32 → Int32 → Int32 → z_R → Option (Int32 × z_R)} (q : QO g u) {o p : Nat} {f x6 : Int32} (ho : o < 6) (h6 : g 6 o = nI p) (hp : p < P) (hf : f = -1 ∨ ∃ q, q < 6 ∧ f = nI q) : ∃ g1 u3, fX2_read N (nI o) (if f = -1 then 0 else 1) g = some g1 ∧ lL_run_93 N (nI o) f x6 (q_kk N bk (nI o) f x6) N 0 u = q_tl N bk (nI o) x6 u3 ∧ QO g1 u3 ∧ u3 2 = u 2 ∧ u3 0 11 = u 0 11 ∧ u3 0 2 = 0 := by
  have hP6 := h.P6
  have hP4 := h.P40
  obtain ⟨a, ha4, ha⟩ := h.au ho
  obtain ⟨w, hw⟩ : ∃ w, w = (p + P - T % P) % P := ⟨_, rfl⟩
  have hwP : w < P := by rw [hw]; exact Nat.mod_lt _ (by omega)
  have hr := q_readC (N := N) h (by omega) ho h6 hp hw (x := if f = -1 then 0 else 1) (by
    by_cases c : f = -1
    · exact Or.inl (if_pos c)
    · exact Or.inr (if_neg c))
  have q0 : QO (z_u2 g 0 2 (nI (T + 0))) u := by rw [Nat.add_zero, q_u2e g 0 2 h.gT]; exact q
  obtain ⟨u1, b1, b2, b3, b4⟩ := q_wait (N := N) (x5 := f) (x6 := x6) ⟨by omega, hP4⟩ ho hp h6 h.gP hw (by omega) (q_kk N bk (nI o) f x6) w 0 N u (by omega) (by omega) q0
  have b5 := b2.set (o := o) (w := 8) (nI w) ho (by decide)
  have fn : f < 0 ↔ f = -1 := by
    rcases hf with e | ⟨z, hz, e⟩
    · exact ⟨fun _ => e, fun _ => by rw [e]; decide⟩
    · exact ⟨fun c => absurd c (by rw [e]; exact m_neg (by omega)), fun c => by rw [c]; decide⟩
  have kk0 : q_kk N bk (nI o) f x6 (nI w) u1 = if f = -1 then jL_run_154_9 N bk (nI o) f x6 (z_u2 u1 1 (9 * o + 8) (nI w)) else if w = 0 then jL_run_154_9 N bk (nI o) f x6 (z_u2 u1 1 (9 * o + 8) (nI w)) else (fL_refund N (nI o) (z_u2 u1 1 (9 * o + 8) (nI w))).bind fun u55 => jL_run_154_9 N bk (nI o) f x6 u55 := by
    unfold q_kk
    rw [q_i8, m_in (show 9 * o + 8 < 54 by omega) (by decide), m_ckt, m_clamp (show 9 * o + 8 < 2 ^ 31 by omega), m_lt]
    by_cases c : f = -1
    · rw [if_pos (fn.mpr c), if_pos c]
    · rw [if_neg (fun d => c (fn.mp d)), if_neg c]
      by_cases c2 : w = 0
      · rw [if_pos (by rw [c2]; decide), if_pos c2]
      · rw [if_neg (nI_nle (by omega) (by omega)), if_neg c2]
  have z0 : ∀ A : z_R, ∀ r i x, r ≠ 0 → z_u2 A r i x 0 2 = A 0 2 := fun A r i x hr => by rw [m_u2n _ _ _ (fun e => hr e.symm)]
  have z2 : ∀ A : z_R, ∀ r i x, r ≠ 2 → z_u2 A r i x 2 o = A 2 o := fun A r i x hr => by rw [m_u2n _ _ _ (fun e => hr e.symm)]
  have t0 : z_u2 g 0 2 (nI (T + w)) 0 2 = nI (T + w) := by rw [m_u2s, m_us]
  have t2 : z_u2 g 0 2 (nI (T + w)) 2 o = g 2 o := by rw [m_u2n _ _ _ (by decide)]
  by_cases c : f = -1
  · rw [if_pos c] at kk0 hr
    rw [if_pos rfl] at hr
    obtain ⟨u3, d1, d2, d3, d4, d5⟩ := q_154 (N := N) (bk := bk) (f := f) (x6 := x6) b5 ho hf
    rw [if_pos c, z0 _ _ _ _ (by decide), z2 _ _ _ _ (by decide), t0, t2] at d2
    refine ⟨_, u3, by rw [if_pos c]; exact hr, ?_, d2, ?_, ?_, d5⟩
    · rw [show (0 : Int32) = nI 0 from rfl, b1, kk0]; exact d1
    · rw [d3, m_u2n _ _ _ (by decide), b3]
    · rw [d4, m_u2n _ _ _ (by decide), b4]
  · rw [if_neg c] at kk0 hr
    rw [if_neg m_1_0] at hr
    by_cases c2 : w = 0
    · rw [if_pos c2] at kk0 hr
      obtain ⟨u3, d1, d2, d3, d4, d5⟩ := q_154 (N := N) (bk := bk) (f := f) (x6 := x6) b5 ho hf
      rw [if_neg c, z0 _ _ _ _ (by decide), z2 _ _ _ _ (by decide), t0, t2] at d2
      refine ⟨_, u3, by rw [if_neg c]; exact hr, ?_, d2, ?_, ?_, d5⟩
      · rw [show lL_run_93 N (nI o) f x6 (q_kk N bk (nI o) f x6) N 0 u = _ from b1, kk0]; exact d1
      · rw [d3, m_u2n _ _ _ (by decide), b3]
      · rw [d4, m_u2n _ _ _ (by decide), b4]
    · rw [if_neg c2] at kk0 hr
      have a1 : z_u2 (z_u2 g 0 2 (nI (T + w))) (8 + 1) o (nI w) 1 o = nI a := by rw [m_u2n _ _ _ (by decide), m_u2n _ _ _ (by decide)]; exact ha
      obtain ⟨v1, e1, e2, e3, e4, e5⟩ := q_refund (N := N) b5 ho a1 ha4
      rw [e1, m_bind] at kk0
      have a8 : z_u2 (z_u2 g 0 2 (nI (T + w))) (8 + 1) o (nI w) 8 o = g 8 o := by rw [m_u2n _ _ _ (by decide), m_u2n _ _ _ (by decide)]
      have a11 : z_u2 (z_u2 g 0 2 (nI (T + w))) (8 + 1) o (nI w) 11 a = g 11 a := by rw [m_u2n _ _ _ (by decide), m_u2n _ _ _ (by decide)]
      rw [a8, a11] at e2
      rw [ha, m_clamp (show a < 2 ^ 31 by omega)] at hr
      obtain ⟨u3, d1, d2, d3, d4, d5⟩ := q_154 (N := N) (bk := bk) (f := f) (x6 := x6) e2 ho hf
      rw [if_neg c, z0 _ _ _ _ (by decide), z0 _ _ _ _ (by decide), z0 _ _ _ _ (by decide), z2 _ _ _ _ (by decide), z2 _ _ _ _ (by decide), z2 _ _ _ _ (by decide), t0, t2] at d2
      refine ⟨_, u3, by rw [if_neg c]; exact hr, ?_, d2, ?_, ?_, d5⟩
      · rw [show lL_run_93 N (nI o) f x6 (q_kk N bk (nI o) f x6) N 0 u = _ from b1, kk0]; exact d1
      · rw [d3, e3, m_u2n _ _ _ (by decide), b3]
      · rw [d4, e4, m_u2n _ _ _ (by decide), b4]
/-- a whole run -/
theorem q_runL (hE : E 0 ∧ E 1 ∧ E 2 ∧ E 3 ∧ E 4 ∧ E 6 ∧ E 12) (hE8 : E 11 → E 8) (hN : 260 ≤ N) (K : Int32 → z_R → Option (Int32 × z_R)) : ∀ (d k fu fv T J c : Nat) (f : Int32) (x : Nat) (g v : z_R) (s : Nat → Int32), k + d = 99 → d + 1 < fu → d < fv → T + 49 * (d + 1) < 2 ^ 30 → (f = -1 ∨ ∃ q, q < 6 ∧ f = nI q) → x < 8 → RS E 6 P T J g s → QO g v → QN g → ∃ e j g' v', e = nI j ∧ j < 4 ∧ lX2_runFrom_10 N K fu (-1) f (nI x) (nI k) g = K e g' ∧ lL_run_9 N fv (nI x) f (nI k) v = some (e, v') ∧ v' 0 2 = e ∧ QO g' v' ∧ (c + d + 1 < 2 ^ 29 → QJ c g v → QJ (c + d + 1) g' v') := by
  intro d
  induction d with
  | zero =>
    intro k fu fv T J c f x g v s hk hfu hfv hT hf hx h q hq
    obtain ⟨fu, rfl⟩ : ∃ q, fu = q + 2 := ⟨fu - 2, by omega⟩
    obtain ⟨fv, rfl⟩ : ∃ q, fv = q + 1 := ⟨fv - 1, by omega⟩
    have hk99 : k = 99 := by omega
    subst hk99
    have ndrum : (6 ≤ x ∨ (x < 6 ∧ g 6 x = -1)) → lX2_runFrom_10 N K (fu + 2) (-1) f (nI x) (nI 99) g = K (nI 3) g ∧ lL_run_9 N (fv + 1) (nI x) f (nI 99) v = some (nI 3, z_u2 v 0 2 3) := fun hc => by
      refine ⟨?_, ?_⟩
      · rw [lX2_runFrom_10.eq_2, if_neg (m_nlt99 (by omega)), if_pos rfl]
        have hz : fX2_isOnDrum N (nI x) g = some 0 := by
          unfold fX2_isOnDrum
          rcases hc with c1 | ⟨c1, c2⟩
          · rw [m_hasN h.gn (Or.inr (nI_le c1 (by omega))), m_bind, if_pos m_00]
          · rw [m_hasY h.gn (by decide) c1, m_bind, if_neg m_1_0, m_in (by omega) (by decide), m_ckt, m_clamp (by omega), if_pos c2]
        rw [hz, m_bind, if_pos m_00]
        exact m_wkE K (by decide)
      · rw [lL_run_9.eq_2, if_neg (by decide), m_t2, m_lt]
        rcases hc with c1 | ⟨c1, c2⟩
        · rw [if_pos (show (5 : Int32) < nI x from (m_ltI (a := 5) (by decide) (by omega)).mpr (by omega))]; rfl
        · rw [if_neg (q_lt5 c1), q_i5, m_in (show 9 * x + 5 < 54 by omega) (by decide), m_ckt, m_clamp (show 9 * x + 5 < 2 ^ 31 by omega), m_u2n _ _ _ (by decide), q.or 5 c1 (by decide), show g (5 + 1) x = -1 from c2, if_neg (by decide)]; rfl
    by_cases c6 : 6 ≤ x
    · obtain ⟨a1, a2⟩ := ndrum (Or.inl c6)
      exact ⟨nI 3, 3, g, _, rfl, by decide, a1, a2, by rw [m_u2s, m_us]; rfl, q.q2 (Or.inl rfl) 3, fun _ hj => (hj.cg rfl rfl rfl rfl (by rw [m_u2s, m_un _ _ (by decide)]) (by rw [m_u2n _ _ _ (by decide)])).mono (by omega)⟩
    · have hx6 : x < 6 := by omega
      rcases h.pl hx6 with h6 | ⟨p, hp, h6⟩
      · obtain ⟨a1, a2⟩ := ndrum (Or.inr ⟨hx6, h6⟩)
        exact ⟨nI 3, 3, g, _, rfl, by decide, a1, a2, by rw [m_u2s, m_us]; rfl, q.q2 (Or.inl rfl) 3, fun _ hj => (hj.cg rfl rfl rfl rfl (by rw [m_u2s, m_un _ _ (by decide)]) (by rw [m_u2n _ _ _ (by decide)])).mono (by omega)⟩
      · have hP4 := h.P40
        have h6n : ¬ g 6 x = -1 := by rw [h6]; exact m_nN p (by omega)
        have hon : fX2_isOnDrum N (nI x) g = some 1 := by
          unfold fX2_isOnDrum
          rw [m_hasY h.gn (by decide) hx6, m_bind, if_neg m_1_0, m_in (by omega) (by decide), m_ckt, m_clamp (by omega), if_neg h6n]
        have cl := m_wkB (N := N) (g := g) (k := 99) (fu := fu + 1) (f := f) K hon (by omega) (by omega)
        have la := q_lp (N := N) (fv := fv) (f := f) q hx6 (k := 99) (by omega) h6 (by omega) (h.ex hx6) hf
        by_cases cf : ¬ f = -1 ∧ ¬ g 4 x = -1 ∧ ¬ g 4 x = f
        · rw [if_pos cf] at cl la
          refine ⟨nI 1, 1, g, _, rfl, by decide, by rw [cl]; exact m_wkE K (by decide), la, by rw [m_u2s, m_us]; rfl, (q.q2 (Or.inl rfl) 3).q2 (Or.inl rfl) 1, fun _ hj => (hj.cg rfl rfl rfl rfl ?_ ?_).mono (by omega)⟩
          · rw [m_u2s, m_un _ _ (by decide), m_u2s, m_un _ _ (by decide)]
          · rw [m_u2n _ _ _ (by decide), m_u2n _ _ _ (by decide)]
        · rw [if_neg cf, if_pos rfl] at cl la
          refine ⟨nI 2, 2, g, _, rfl, by decide, by rw [cl]; exact m_wkE K (by decide), la, by rw [m_u2s, m_us]; rfl, ((q.q2 (Or.inl rfl) 3).q2 (Or.inl rfl) 1).q2 (Or.inl rfl) 2, fun _ hj => (hj.cg rfl rfl rfl rfl ?_ ?_).mono (by omega)⟩
          · rw [m_u2s, m_un _ _ (by decide), m_u2s, m_un _ _ (by decide), m_u2s, m_un _ _ (by decide)]
          · rw [m_u2n _ _ _ (by decide), m_u2n _ _ _ (by decide), m_u2n _ _ _ (by decide)]
  | succ d ih =>
    intro k fu fv T J c f x g v s hk hfu hfv hT hf hx h q hq
    obtain ⟨fu, rfl⟩ : ∃ q, fu = q + 2 := ⟨fu - 2, by omega⟩
    obtain ⟨fv, rfl⟩ : ∃ q, fv = q + 1 := ⟨fv - 1, by omega⟩
    have ndrum : (6 ≤ x ∨ (x < 6 ∧ g 6 x = -1)) → lX2_runFrom_10 N K (fu + 2) (-1) f (nI x) (nI k) g = K (nI 3) g ∧ lL_run_9 N (fv + 1) (nI x) f (nI k) v = some (nI 3, z_u2 v 0 2 3) := fun hc => by
      refine ⟨?_, ?_⟩
      · rw [lX2_runFrom_10.eq_2, if_neg (m_nlt99 (by omega)), if_pos rfl]
        have hz : fX2_isOnDrum N (nI x) g = some 0 := by
          unfold fX2_isOnDrum
          rcases hc with c1 | ⟨c1, c2⟩
          · rw [m_hasN h.gn (Or.inr (nI_le c1 (by omega))), m_bind, if_pos m_00]
          · rw [m_hasY h.gn (by decide) c1, m_bind, if_neg m_1_0, m_in (by omega) (by decide), m_ckt, m_clamp (by omega), if_pos c2]
        rw [hz, m_bind, if_pos m_00]
        exact m_wkE K (by decide)
      · rw [lL_run_9.eq_2, if_neg (q_ge100 (show k < 100 by omega)), m_t2, m_lt]
        rcases hc with c1 | ⟨c1, c2⟩
        · rw [if_pos (show (5 : Int32) < nI x from (m_ltI (a := 5) (by decide) (by omega)).mpr (by omega))]; rfl
        · rw [if_neg (q_lt5 c1), q_i5, m_in (show 9 * x + 5 < 54 by omega) (by decide), m_ckt, m_clamp (show 9 * x + 5 < 2 ^ 31 by omega), m_u2n _ _ _ (by decide), q.or 5 c1 (by decide), show g (5 + 1) x = -1 from c2, if_neg (by decide)]; rfl
    by_cases c6 : 6 ≤ x
    · obtain ⟨a1, a2⟩ := ndrum (Or.inl c6)
      exact ⟨nI 3, 3, g, _, rfl, by decide, a1, a2, by rw [m_u2s, m_us]; rfl, q.q2 (Or.inl rfl) 3, fun _ hj => (hj.cg rfl rfl rfl rfl (by rw [m_u2s, m_un _ _ (by decide)]) (by rw [m_u2n _ _ _ (by decide)])).mono (by omega)⟩
    · have hx6 : x < 6 := by omega
      rcases h.pl hx6 with h6 | ⟨p, hp, h6⟩
      · obtain ⟨a1, a2⟩ := ndrum (Or.inr ⟨hx6, h6⟩)
        exact ⟨nI 3, 3, g, _, rfl, by decide, a1, a2, by rw [m_u2s, m_us]; rfl, q.q2 (Or.inl rfl) 3, fun _ hj => (hj.cg rfl rfl rfl rfl (by rw [m_u2s, m_un _ _ (by decide)]) (by rw [m_u2n _ _ _ (by decide)])).mono (by omega)⟩
      · have hP4 := h.P40
        have h6n : ¬ g 6 x = -1 := by rw [h6]; exact m_nN p (by omega)
        have hon : fX2_isOnDrum N (nI x) g = some 1 := by
          unfold fX2_isOnDrum
          rw [m_hasY h.gn (by decide) hx6, m_bind, if_neg m_1_0, m_in (by omega) (by decide), m_ckt, m_clamp (by omega), if_neg h6n]
        have cl := m_wkB (N := N) (g := g) (k := k) (fu := fu + 1) (f := f) K hon (by omega) (by omega)
        have la := q_lp (N := N) (fv := fv) (f := f) q hx6 (k := k) (by omega) h6 (by omega) (h.ex hx6) hf
        by_cases cf : ¬ f = -1 ∧ ¬ g 4 x = -1 ∧ ¬ g 4 x = f
        · rw [if_pos cf] at cl la
          refine ⟨nI 1, 1, g, _, rfl, by decide, by rw [cl]; exact m_wkE K (by decide), la, by rw [m_u2s, m_us]; rfl, (q.q2 (Or.inl rfl) 3).q2 (Or.inl rfl) 1, fun _ hj => (hj.cg rfl rfl rfl rfl ?_ ?_).mono (by omega)⟩
          · rw [m_u2s, m_un _ _ (by decide), m_u2s, m_un _ _ (by decide)]
          · rw [m_u2n _ _ _ (by decide), m_u2n _ _ _ (by decide)]
        · rw [if_neg cf, if_neg (by omega)] at cl la
          have q8 : QO g (z_u2 (z_u2 (z_u2 v 0 2 3) 0 2 1) 0 2 2) := ((q.q2 (Or.inl rfl) 3).q2 (Or.inl rfl) 1).q2 (Or.inl rfl) 2
          obtain ⟨g1, u3, r1, r2, r3, r4, r5, r6⟩ := q_rd (N := N) (bk := lL_run_9 N fv) (f := f) (x6 := nI k) h hN (by omega) q8 hx6 h6 hp hf
          obtain ⟨g1', s1, T1, t1, t2, m1, -, m3, m4⟩ := m_read (N := N) (m := fun _ _ => 0) h ⟨hE.1, hE.2.1, hE.2.2.1, hE.2.2.2.2.2.1⟩ hE8 (by omega) hx6 h6 hp (x := if f = -1 then 0 else 1) (by
            by_cases c : f = -1
            · exact Or.inl (if_pos c)
            · exact Or.inr (if_neg c))
          have eg : g1' = g1 := Option.some.inj (m1.symm.trans r1)
          subst eg
          rw [r1, m_bind] at cl
          rw [r2] at la
          have j1 : QJ c g v → QJ c g1' u3 := fun hj => hj.cg (by rw [m3.gJ, h.gJ]) (m4 13 (by decide) (by decide) (by decide) (by decide)) (m4 14 (by decide) (by decide) (by decide) (by decide)) (m4 15 (by decide) (by decide) (by decide) (by decide)) (by rw [r5, m_u2s, m_un _ _ (by decide), m_u2s, m_un _ _ (by decide), m_u2s, m_un _ _ (by decide)]) (by rw [r4, m_u2n _ _ _ (by decide), m_u2n _ _ _ (by decide), m_u2n _ _ _ (by decide)])
          have e3 : g1' 3 = g 3 := m4 3 (by decide) (by decide) (by decide) (by decide)
          have u3n : u3 1 (9 * x + 2) = g 3 x := by rw [r3.or 2 hx6 (by decide), show g1' (2 + 1) x = g1' 3 x from rfl, e3]
          rw [e3] at cl
          rcases hq x hx6 with h3 | ⟨y, hy, h3⟩
          · rw [if_pos h3] at cl
            rw [q_tlN hx6 (u3n.trans h3)] at la
            refine ⟨nI 0, 0, g1', u3, rfl, by decide, by rw [cl]; exact m_wkE K (by decide), la, r6, r3, fun _ hj => (j1 hj).mono (by omega)⟩
          · rw [if_neg (by rw [h3]; exact m_nN y (by omega)), h3] at cl
            rw [q_tlY hx6 hy (u3n.trans h3)] at la
            obtain ⟨g2, n1, n2, n3, n4⟩ := q_note (N := N) (c := c) (u := u3) m3 hN hx6 hy
            obtain ⟨g2', s2, J2, p1, -, p3, p4⟩ := m_note (N := N) (m := fun _ _ => 0) m3 hE.2.2.2.2.2.2 hN (x := x) (y := y) (by omega) (by omega)
            have eg2 : g2' = g2 := Option.some.inj (p1.symm.trans n1)
            subst eg2
            rw [n1, m_bind, show g2' 3 x = nI y by rw [n3 3 (by decide) (by decide), e3, h3]] at cl
            have q9 : QO g2' (q_jm u3 x y) := by
              unfold q_jm
              exact ((r3.gj n2 n3).q2 (Or.inr rfl) _).j _ _
            obtain ⟨e, j, g', v', b1, b2, b3, b4, b5, b6, b7⟩ := ih (k + 1) (fu + 1) fv T1 J2 (c + 1) (nI x) y g2' (q_jm u3 x y) s2 (by omega) (by omega) (by omega) (by omega) (Or.inr ⟨x, hx6, rfl⟩) hy p3 q9 (fun o ho => by rw [n3 3 (by decide) (by decide), e3]; exact hq o ho)
            refine ⟨e, j, g', v', b1, b2, by rw [cl]; exact b3, by rw [la]; exact b4, b5, b6, fun hc hj => ?_⟩
            have := b7 (by omega) (n4 (by omega) (j1 hj))
            rw [show c + (d + 1) + 1 = c + 1 + d + 1 by omega]
            exact this
/-- the law runs as the class -/
theorem q_run (h : RS E 6 P T J g s) (hE : E 0 ∧ E 1 ∧ E 2 ∧ E 3 ∧ E 4 ∧ E 6 ∧ E 12) (hE8 : E 11 → E 8) (hN : 260 ≤ N) (hT : T + 4900 < 2 ^ 30) (q : QO g v) (hq : QN g) {o : Nat} (ho : o < 6) {e : Int32} {g' : z_R} (hg : fX2_runFrom N (nI o) g = some (e, g')) : ∃ v', fL_run N (nI o) v = some (e, v') ∧ v' 0 2 = e ∧ QO g' v' ∧ (∃ j, j < 4 ∧ e = nI j) ∧ ∀ c, c + 100 < 2 ^ 29 → QJ c g v → QJ (c + 100) g' v' := by
  have key : ∀ c, ∃ e j g' v', e = nI j ∧ j < 4 ∧ fX2_runFrom N (nI o) g = some (e, z_u2 g' 0 3 e) ∧ fL_run N (nI o) v = some (e, v') ∧ v' 0 2 = e ∧ QO g' v' ∧ (c + 100 < 2 ^ 29 → QJ c g v → QJ (c + 100) g' v') := fun c => by
    obtain ⟨e, j, g', v', a1, a2, a3, a4, a5, a6, a7⟩ := q_runL (N := N) hE hE8 hN (fun x2 g2 => z_lt (z_u2 g2 0 3 x2) fun g53 => some (x2, g53)) 99 0 N N T J c (-1) o g v s (by omega) (by omega) (by omega) (by omega) (Or.inl rfl) (by omega) h q hq
    refine ⟨e, j, g', v', a1, a2, ?_, a4, a5, a6, a7⟩
    rw [m_lt] at a3
    exact a3
  obtain ⟨e0, j0, g0, v0, b1, b2, b3, b4, b5, b6, -⟩ := key 0
  rw [hg] at b3
  obtain ⟨c1, c2⟩ := Prod.mk.inj (Option.some.inj b3)
  subst c1
  refine ⟨v0, b4, b5, by rw [c2]; exact b6.en _, ⟨j0, b2, b1⟩, fun c hc hj => ?_⟩
  obtain ⟨e1, j1, g1, v1, d1, d2, d3, d4, d5, d6, d7⟩ := key c
  rw [hg] at d3
  rw [b4] at d4
  obtain ⟨x1, x2⟩ := Prod.mk.inj (Option.some.inj d3)
  obtain ⟨y1, y2⟩ := Prod.mk.inj (Option.some.inj d4)
  rw [x2, y2]
  exact (d7 hc hj).cg (by rw [m_u2s, m_un _ _ (by decide)]) (m_u2n _ _ _ (by decide)) (m_u2n _ _ _ (by decide)) (m_u2n _ _ _ (by decide)) rfl rfl
end Q5
