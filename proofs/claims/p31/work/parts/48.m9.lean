/-! a run: both sides -/
section MR9
variable {E : Nat → Prop} {N n P T J : Nat} {g m : z_R} {s : Nat → Int32}
theorem m_99 {k : Nat} (hk : k ≤ 99) : (nI k = (99 : Int32)) ↔ k = 99 := by
  rw [show (99 : Int32) = nI 99 from rfl]
  exact nI_eq (by omega) (by omega)
theorem m_wkE {fu : Nat} {e f x k : Int32} (K : Int32 → z_R → Option (Int32 × z_R)) (he : ¬ e = -1) : lX2_runFrom_10 N K (fu + 1) e f x k g = K e g := by
  rw [lX2_runFrom_10.eq_2]
  by_cases c : (99 : Int32) < k
  · rw [if_pos c]
  · rw [if_neg c, if_neg he]
theorem m_wkB {o k fu : Nat} {f : Int32} (K : Int32 → z_R → Option (Int32 × z_R)) (hon : fX2_isOnDrum N (nI o) g = some 1) (ho : o < 16) (hk : k ≤ 99) : lX2_runFrom_10 N K (fu + 1) (-1) f (nI o) (nI k) g = (if ¬ f = -1 ∧ ¬ g 4 o = -1 ∧ ¬ g 4 o = f then lX2_runFrom_10 N K fu 1 f (nI o) (nI (k + 1)) g else if k = 99 then lX2_runFrom_10 N K fu 2 f (nI o) (nI (k + 1)) g else (fX2_read N (nI o) (if f = -1 then 0 else 1) g).bind fun g7 => if g7 3 o = -1 then lX2_runFrom_10 N K fu 0 f (nI o) (nI (k + 1)) g7 else (fX0_note N (nI o) (g7 3 o) g7).bind fun g11 => lX2_runFrom_10 N K fu (-1) (nI o) (g11 3 o) (nI (k + 1)) g11) := by
  have i1 : z_in (nI o) 16 = true := m_in ho (by decide)
  have c1 : (nI o).toNatClampNeg = o := m_clamp (by omega)
  rw [lX2_runFrom_10.eq_2, if_neg (m_nlt99 hk), if_pos rfl, hon, m_bind, if_neg m_1_0]
  simp only [i1, c1, m_ckt, nI_1]
  by_cases c0 : f = -1
  · simp only [if_pos c0]
    rw [if_neg (show ¬ (¬ f = -1 ∧ ¬ g 4 o = -1 ∧ ¬ g 4 o = f) from fun q => q.1 c0)]
    by_cases c9 : k = 99
    · rw [if_pos ((m_99 hk).mpr c9), if_pos c9]
    · rw [if_neg (fun q => c9 ((m_99 hk).mp q)), if_neg c9]
  · simp only [if_neg c0]
    by_cases c4 : g 4 o = -1
    · rw [if_pos c4, if_neg (show ¬ (¬ f = -1 ∧ ¬ g 4 o = -1 ∧ ¬ g 4 o = f) from fun q => q.2.1 c4)]
      by_cases c9 : k = 99
      · rw [if_pos ((m_99 hk).mpr c9), if_pos c9]
      · rw [if_neg (fun q => c9 ((m_99 hk).mp q)), if_neg c9]
    · rw [if_neg c4]
      by_cases c5 : g 4 o = f
      · rw [if_pos c5, if_neg (show ¬ (¬ f = -1 ∧ ¬ g 4 o = -1 ∧ ¬ g 4 o = f) from fun q => q.2.2 c5)]
        by_cases c9 : k = 99
        · rw [if_pos ((m_99 hk).mpr c9), if_pos c9]
        · rw [if_neg (fun q => c9 ((m_99 hk).mp q)), if_neg c9]
      · rw [if_neg c5, if_pos ⟨c0, c4, c5⟩]
theorem m_rnB {o k fv : Nat} {f : Int32} (hs : m 1 2 = nI n) (h16 : n ≤ 16) (ho : o < n) (h6 : ¬ m 1 (12 + 9 * o + 6) = -1) (hk : k ≤ 99) : lX5_runs_10 N (fv + 1) (nI o) f (-1) (nI k) m = (if ¬ f = -1 ∧ ¬ m 1 (12 + 9 * o + 4) = -1 ∧ ¬ m 1 (12 + 9 * o + 4) = f then lX5_runs_10 N fv (nI o) f 1 (nI k) m else if k = 99 then lX5_runs_10 N fv (nI o) f 2 (nI k) m else (fX5_reads N (nI o) (if f = -1 then 0 else 1) m).bind fun g10 => (fX5_part N (nI o) (2 : Int32) g10).bind fun r => if r = -1 then lX5_runs_10 N fv r (nI o) 0 (nI (k + 1)) g10 else (fX5_noteJump N (nI o) r g10).bind fun g13 => lX5_runs_10 N fv r (nI o) (-1) (nI (k + 1)) g13) := by
  have e4 : fX5_part N (nI o) (3 : Int32) m = some (m 1 (12 + 9 * o + 4)) := m_part (p := 3) (k := 3) (r := 4) rfl rfl (by omega) (by decide)
  rw [lX5_runs_10.eq_2, if_pos rfl, m_ioY hs h16 ho, m_bind, if_neg m_1_0, m_part (p := 5) (k := 5) (r := 6) rfl rfl (by omega) (by decide), m_bind, if_neg h6]
  simp only [e4, m_bind, nI_1]
  by_cases c0 : f = -1
  · simp only [if_pos c0]
    rw [if_neg (show ¬ (¬ f = -1 ∧ ¬ m 1 (12 + 9 * o + 4) = -1 ∧ ¬ m 1 (12 + 9 * o + 4) = f) from fun q => q.1 c0)]
    by_cases c9 : k = 99
    · rw [if_pos ((m_99 hk).mpr c9), if_pos c9]
    · rw [if_neg (fun q => c9 ((m_99 hk).mp q)), if_neg c9]
  · simp only [if_neg c0]
    by_cases c4 : m 1 (12 + 9 * o + 4) = -1
    · rw [if_pos c4, if_neg (show ¬ (¬ f = -1 ∧ ¬ m 1 (12 + 9 * o + 4) = -1 ∧ ¬ m 1 (12 + 9 * o + 4) = f) from fun q => q.2.1 c4)]
      by_cases c9 : k = 99
      · rw [if_pos ((m_99 hk).mpr c9), if_pos c9]
      · rw [if_neg (fun q => c9 ((m_99 hk).mp q)), if_neg c9]
    · rw [if_neg c4]
      by_cases c5 : m 1 (12 + 9 * o + 4) = f
      · rw [if_pos c5, if_neg (show ¬ (¬ f = -1 ∧ ¬ m 1 (12 + 9 * o + 4) = -1 ∧ ¬ m 1 (12 + 9 * o + 4) = f) from fun q => q.2.2 c5)]
        by_cases c9 : k = 99
        · rw [if_pos ((m_99 hk).mpr c9), if_pos c9]
        · rw [if_neg (fun q => c9 ((m_99 hk).mp q)), if_neg c9]
      · rw [if_neg c5, if_pos ⟨c0, c4, c5⟩]
theorem m_rnE {fv : Nat} {x f e k : Int32} (he : ¬ e = -1) : lX5_runs_10 N (fv + 1) x f e k (z_uR m 1 s) = some (e, z_uR m 1 (upd s 4 e)) := by
  rw [lX5_runs_10.eq_2, if_neg he, m_t4, m_uRR, m_lt]
theorem m_walk (K : Int32 → z_R → Option (Int32 × z_R)) (hE : E 0 ∧ E 1 ∧ E 2 ∧ E 3 ∧ E 4 ∧ E 6 ∧ E 12) (hE8 : E 11 → E 8) (hN : 260 ≤ N) : ∀ (d k fu fv T J : Nat) (f x : Int32) (g : z_R) (s : Nat → Int32), k + d = 99 → d + 1 < fu → d + 1 < fv → T + 49 * (d + 1) < 2 ^ 30 → (f = -1 ∨ ∃ q, q < 16 ∧ f = nI q) → RS E n P T J g s → ∃ e j g' s' T' J', e = nI j ∧ j < 4 ∧ lX2_runFrom_10 N K fu (-1) f x (nI k) g = K e g' ∧ lX5_runs_10 N fv x f (-1) (nI k) (z_uR m 1 s) = some (e, z_uR m 1 (upd s' 4 e)) ∧ RS E n P T' J' g' s' ∧ T ≤ T' ∧ T' ≤ T + 49 * (d + 1) ∧ (∀ q, 1 ≤ q → q ≤ 12 → q ≠ 8 → q ≠ 9 → q ≠ 11 → g' q = g q) := by
  obtain ⟨hE0, hE1, hE2, hE3, hE4, hE6, hE12⟩ := hE
  intro d
  induction d with
  | zero =>
    intro k fu fv T J f x g s hk hfu hfv hT hf h
    obtain ⟨fu, rfl⟩ : ∃ q, fu = q + 2 := ⟨fu - 2, by omega⟩
    obtain ⟨fv, rfl⟩ : ∃ q, fv = q + 2 := ⟨fv - 2, by omega⟩
    have h16 := h.n16
    have hsn : (z_uR m 1 s) 1 2 = nI n := by rw [m_same]; exact h.sn
    rcases m_cs x (n := n) (by omega) with ⟨o, ho, rfl⟩ | ⟨hx, -⟩
    · by_cases h6 : g 6 o = -1
      · refine ⟨3, 3, g, s, T, J, rfl, by decide, ?_, ?_, h, Nat.le_refl T, by omega, fun _ _ _ _ _ _ => rfl⟩
        · rw [lX2_runFrom_10.eq_2, if_neg (m_nlt99 (by omega)), if_pos rfl]
          unfold fX2_isOnDrum
          rw [m_hasY h.gn h16 ho, m_bind, if_neg m_1_0, m_in (by omega) (by decide), m_ckt, m_clamp (by omega), if_pos h6, m_bind, if_pos m_00]
          exact m_wkE K (by decide)
        · rw [lX5_runs_10.eq_2, if_pos rfl, m_ioY hsn h16 ho, m_bind, if_neg m_1_0, m_part (p := 5) (k := 5) (r := 6) rfl rfl (by omega) (by decide), m_bind, m_same, h.or ho (by decide) (by decide) hE6, if_pos h6]
          exact m_rnE (by decide)
      · have hon : fX2_isOnDrum N (nI o) g = some 1 := by
          unfold fX2_isOnDrum
          rw [m_hasY h.gn h16 ho, m_bind, if_neg m_1_0, m_in (by omega) (by decide), m_ckt, m_clamp (by omega), if_neg h6]
        have c := m_wkB (N := N) (g := g) (k := k) (fu := fu + 1) (f := f) K hon (by omega) (by omega)
        have c' := m_rnB (N := N) (m := z_uR m 1 s) (k := k) (fv := fv + 1) (f := f) hsn h16 ho (by rw [m_same, h.or ho (by decide) (by decide) hE6]; exact h6) (by omega)
        rw [m_same, h.or ho (by decide) (by decide) hE4] at c'
        by_cases cf : ¬ f = -1 ∧ ¬ g 4 o = -1 ∧ ¬ g 4 o = f
        · rw [if_pos cf] at c c'
          exact ⟨1, 1, g, s, T, J, rfl, by decide, by rw [c]; exact m_wkE K (by decide), by rw [c']; exact m_rnE (by decide), h, Nat.le_refl T, by omega, fun _ _ _ _ _ _ => rfl⟩
        · rw [if_neg cf, if_pos (by omega)] at c c'
          exact ⟨2, 2, g, s, T, J, rfl, by decide, by rw [c]; exact m_wkE K (by decide), by rw [c']; exact m_rnE (by decide), h, Nat.le_refl T, by omega, fun _ _ _ _ _ _ => rfl⟩
    · refine ⟨3, 3, g, s, T, J, rfl, by decide, ?_, ?_, h, Nat.le_refl T, by omega, fun _ _ _ _ _ _ => rfl⟩
      · rw [lX2_runFrom_10.eq_2, if_neg (m_nlt99 (by omega)), if_pos rfl]
        unfold fX2_isOnDrum
        rw [m_hasN h.gn hx, m_bind, if_pos m_00, m_bind, if_pos m_00]
        exact m_wkE K (by decide)
      · rw [lX5_runs_10.eq_2, if_pos rfl, m_ioN hsn h16 hx, m_bind, if_pos m_00]
        exact m_rnE (by decide)
  | succ d ih =>
    intro k fu fv T J f x g s hk hfu hfv hT hf h
    obtain ⟨fu, rfl⟩ : ∃ q, fu = q + 2 := ⟨fu - 2, by omega⟩
    obtain ⟨fv, rfl⟩ : ∃ q, fv = q + 2 := ⟨fv - 2, by omega⟩
    have h16 := h.n16
    have hsn : (z_uR m 1 s) 1 2 = nI n := by rw [m_same]; exact h.sn
    rcases m_cs x (n := n) (by omega) with ⟨o, ho, rfl⟩ | ⟨hx, -⟩
    · by_cases h6 : g 6 o = -1
      · refine ⟨3, 3, g, s, T, J, rfl, by decide, ?_, ?_, h, Nat.le_refl T, by omega, fun _ _ _ _ _ _ => rfl⟩
        · rw [lX2_runFrom_10.eq_2, if_neg (m_nlt99 (by omega)), if_pos rfl]
          unfold fX2_isOnDrum
          rw [m_hasY h.gn h16 ho, m_bind, if_neg m_1_0, m_in (by omega) (by decide), m_ckt, m_clamp (by omega), if_pos h6, m_bind, if_pos m_00]
          exact m_wkE K (by decide)
        · rw [lX5_runs_10.eq_2, if_pos rfl, m_ioY hsn h16 ho, m_bind, if_neg m_1_0, m_part (p := 5) (k := 5) (r := 6) rfl rfl (by omega) (by decide), m_bind, m_same, h.or ho (by decide) (by decide) hE6, if_pos h6]
          exact m_rnE (by decide)
      · have hon : fX2_isOnDrum N (nI o) g = some 1 := by
          unfold fX2_isOnDrum
          rw [m_hasY h.gn h16 ho, m_bind, if_neg m_1_0, m_in (by omega) (by decide), m_ckt, m_clamp (by omega), if_neg h6]
        have c := m_wkB (N := N) (g := g) (k := k) (fu := fu + 1) (f := f) K hon (by omega) (by omega)
        have c' := m_rnB (N := N) (m := z_uR m 1 s) (k := k) (fv := fv + 1) (f := f) hsn h16 ho (by rw [m_same, h.or ho (by decide) (by decide) hE6]; exact h6) (by omega)
        rw [m_same, h.or ho (by decide) (by decide) hE4] at c'
        by_cases cf : ¬ f = -1 ∧ ¬ g 4 o = -1 ∧ ¬ g 4 o = f
        · rw [if_pos cf] at c c'
          exact ⟨1, 1, g, s, T, J, rfl, by decide, by rw [c]; exact m_wkE K (by decide), by rw [c']; exact m_rnE (by decide), h, Nat.le_refl T, by omega, fun _ _ _ _ _ _ => rfl⟩
        · obtain ⟨p, hp, ep⟩ : ∃ p, p < P ∧ g 6 o = nI p := (h.pl ho).resolve_left h6
          obtain ⟨xx, hxx⟩ : ∃ xx : Int32, xx = if f = -1 then 0 else 1 := ⟨_, rfl⟩
          have hx01 : xx = 0 ∨ xx = 1 := by
            rw [hxx]
            by_cases q : f = -1
            · exact Or.inl (if_pos q)
            · exact Or.inr (if_neg q)
          obtain ⟨g1, s1, T1, t1, t2, r1, r2, r3, r4⟩ := m_read (N := N) (m := m) h ⟨hE0, hE1, hE2, hE6⟩ hE8 (by omega) ho ep hp hx01
          have hn3 : g1 3 o = g 3 o := by rw [r4 3 (by decide) (by decide) (by decide) (by decide)]
          have hp3 : fX5_part N (nI o) (2 : Int32) (z_uR m 1 s1) = some (g1 3 o) := by
            rw [m_part (p := 2) (k := 2) (r := 3) rfl rfl (by omega) (by decide), m_same, r3.or ho (by decide) (by decide) hE3]
          rw [if_neg cf, if_neg (by omega), ← hxx, r1, m_bind] at c
          rw [if_neg cf, if_neg (by omega), ← hxx, r2, m_bind, hp3, m_bind] at c'
          have hfr : ∀ q, 1 ≤ q → q ≤ 12 → q ≠ 8 → q ≠ 9 → q ≠ 11 → g1 q = g q := fun q q1 q2 q8 q9 q11 => r4 q (by omega) q8 q9 q11
          by_cases c3 : g1 3 o = -1
          · rw [if_pos c3] at c c'
            exact ⟨0, 0, g1, s1, T1, J, rfl, by decide, by rw [c]; exact m_wkE K (by decide), by rw [c', c3]; exact m_rnE (by decide), r3, t1, by omega, hfr⟩
          · obtain ⟨y, hy, ey⟩ : ∃ y, y < 16 ∧ g1 3 o = nI y := (r3.ne ho).resolve_left c3
            obtain ⟨g2, s2, J2, n1, n2, n3, n4⟩ := m_note (N := N) (m := m) r3 hE12 hN (x := o) (y := y) (by omega) hy
            rw [if_neg c3, ey, n1, m_bind, show g2 3 o = nI y by rw [n4 3 (by decide) (by decide)]; exact ey] at c
            rw [if_neg c3, ey, n2, m_bind] at c'
            obtain ⟨e, j, g', s', T', J', e1, e2, e3, e4, e5, e6, e7, e8⟩ := ih (k + 1) (fu + 1) (fv + 1) T1 J2 (nI o) (nI y) g2 s2 (by omega) (by omega) (by omega) (by omega) (Or.inr ⟨o, by omega, rfl⟩) n3
            exact ⟨e, j, g', s', T', J', e1, e2, by rw [c]; exact e3, by rw [c']; exact e4, e5, by omega, by omega, fun q q1 q2 q8 q9 q11 => by rw [e8 q q1 q2 q8 q9 q11, n4 q q1 q2, hfr q q1 q2 q8 q9 q11]⟩
    · refine ⟨3, 3, g, s, T, J, rfl, by decide, ?_, ?_, h, Nat.le_refl T, by omega, fun _ _ _ _ _ _ => rfl⟩
      · rw [lX2_runFrom_10.eq_2, if_neg (m_nlt99 (by omega)), if_pos rfl]
        unfold fX2_isOnDrum
        rw [m_hasN h.gn hx, m_bind, if_pos m_00, m_bind, if_pos m_00]
        exact m_wkE K (by decide)
      · rw [lX5_runs_10.eq_2, if_pos rfl, m_ioN hsn h16 hx, m_bind, if_pos m_00]
        exact m_rnE (by decide)
/-- a run from x, how it ends is kept -/
theorem m_runs (h : RS E n P T J g s) (hE : E 0 ∧ E 1 ∧ E 2 ∧ E 3 ∧ E 4 ∧ E 6 ∧ E 12) (hE8 : E 11 → E 8) (hN : 260 ≤ N) (hT : T + 4900 < 2 ^ 30) (x : Int32) : ∃ e j g' s' T' J', e = nI j ∧ j < 4 ∧ fX2_runFrom N x g = some (e, g') ∧ fX5_runs N x (z_uR m 1 s) = some (e, z_uR m 1 s') ∧ RS E n P T' J' g' s' ∧ T ≤ T' ∧ T' ≤ T + 4900 ∧ g' 0 3 = e ∧ s' 4 = e ∧ (∀ q, 1 ≤ q → q ≤ 12 → q ≠ 8 → q ≠ 9 → q ≠ 11 → g' q = g q) := by
  obtain ⟨e, j, g', s', T', J', e1, e2, e3, e4, e5, e6, e7, e8⟩ := m_walk (N := N) (m := m) (fun x2 g2 => z_lt (z_u2 g2 0 3 x2) fun g53 => some (x2, g53)) hE hE8 hN 99 0 N N T J (-1) x g s (by omega) (by omega) (by omega) (by omega) (Or.inl rfl) h
  refine ⟨e, j, z_u2 g' 0 3 e, upd s' 4 e, T', J', e1, e2, ?_, e4, e5.en e, e6, by omega, by rw [m_u2s, m_us], m_us _ _ _, fun q q1 q2 q8 q9 q11 => by rw [m_u2n _ _ _ (by omega), e8 q q1 q2 q8 q9 q11]⟩
  unfold fX2_runFrom
  rw [show (0 : Int32) = nI 0 from rfl, e3, m_lt]
end MR9
