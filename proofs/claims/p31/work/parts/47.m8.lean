/-! a jump is noted, a run is made: both sides -/
section MR8
variable {E : Nat → Prop} {N n P T J : Nat} {g m : z_R} {s : Nat → Int32}
theorem m_jx (i : Nat) : (157 : Int32) + (3 : Int32) * nI i = nI (157 + 3 * i) := by
  rw [show (157 : Int32) = nI 157 from rfl, show (3 : Int32) = nI 3 from rfl, pk_mul, nI_add]
theorem m_jx1 (i : Nat) : nI (157 + 3 * i) + (1 : Int32) = nI (157 + 3 * i + 1) := nI_1 _
theorem m_jx2 (i : Nat) : nI (157 + 3 * i) + (2 : Int32) = nI (157 + 3 * i + 2) := nI_add _ 2
/-- the class's search among the jumps -/
theorem m_ntC (h : RS E n P T J g s) (x y : Int32) : ∀ (k i fu : Nat), i + k = J → k < fu → (∀ q, q < i → ¬ (g 13 q = x ∧ g 14 q = y)) → (∃ q, q < J ∧ (∀ u, u < q → ¬ (g 13 u = x ∧ g 14 u = y)) ∧ g 13 q = x ∧ g 14 q = y ∧ lX0_note_2 N x y g fu (nI i) = some (z_u2 g 15 q (g 15 q + 1))) ∨ ((∀ q, q < J → ¬ (g 13 q = x ∧ g 14 q = y)) ∧ (J < 256 → lX0_note_2 N x y g fu (nI i) = some (z_u2 (z_u2 (z_u2 (z_u2 g 13 J x) 14 J y) 15 J 1) 0 4 (nI (J + 1))))) := by
  have hJ := h.J256
  intro k
  induction k with
  | zero =>
    intro i fu hi hfu hb
    obtain ⟨fu, rfl⟩ : ∃ q, fu = q + 1 := ⟨fu - 1, by omega⟩
    have e : i = J := by omega
    subst e
    refine Or.inr ⟨hb, fun hlt => ?_⟩
    rw [lX0_note_2.eq_2, h.gJ, if_pos (nI_le (Nat.le_refl i) (by omega)), if_neg (m_ge256 (by omega)), m_in (by omega) (by decide), m_ckt, m_clamp (by omega), m_lt]
    rw [show z_u2 g 13 i x 0 4 = nI i by rw [m_u2n _ _ _ (by decide : (0 : Nat) ≠ 13)]; exact h.gJ, m_in (by omega) (by decide), m_ckt, m_clamp (by omega), m_lt]
    rw [show z_u2 (z_u2 g 13 i x) 14 i y 0 4 = nI i by rw [m_u2n _ _ _ (by decide : (0 : Nat) ≠ 14), m_u2n _ _ _ (by decide : (0 : Nat) ≠ 13)]; exact h.gJ, m_in (by omega) (by decide), m_ckt, m_clamp (by omega), m_lt]
    rw [show z_u2 (z_u2 (z_u2 g 13 i x) 14 i y) 15 i 1 0 4 = nI i by rw [m_u2n _ _ _ (by decide : (0 : Nat) ≠ 15), m_u2n _ _ _ (by decide : (0 : Nat) ≠ 14), m_u2n _ _ _ (by decide : (0 : Nat) ≠ 13)]; exact h.gJ, nI_1, m_lt]
  | succ k ih =>
    intro i fu hi hfu hb
    obtain ⟨fu, rfl⟩ : ∃ q, fu = q + 1 := ⟨fu - 1, by omega⟩
    rw [lX0_note_2.eq_2, h.gJ, if_neg (nI_ge (by omega) (by omega)), m_in (by omega) (by decide), m_ckt, m_ckt, m_ckt, m_ckt, m_clamp (by omega)]
    by_cases c1 : g 13 i = x
    · rw [if_pos c1]
      by_cases c2 : g 14 i = y
      · rw [if_pos c2]
        exact Or.inl ⟨i, by omega, hb, c1, c2, by rw [m_lt]⟩
      · rw [if_neg c2, nI_1]
        exact ih (i + 1) fu (by omega) (by omega) (fun q hq => by
          by_cases e : q = i
          · subst e; exact fun z => c2 z.2
          · exact hb q (by omega))
    · rw [if_neg c1, nI_1]
      exact ih (i + 1) fu (by omega) (by omega) (fun q hq => by
        by_cases e : q = i
        · subst e; exact fun z => c1 z.1
        · exact hb q (by omega))
/-- the reference's -/
theorem m_ntM (h : RS E n P T J g s) (hE : E 12) (x y : Int32) (kk : Int32 → Option z_R) : ∀ (k i fu : Nat), i + k = J → k < fu → (∀ q, q < i → ¬ (g 13 q = x ∧ g 14 q = y)) → ∃ q, lX5_noteJump_2 N x y (z_uR m 1 s) kk fu (nI i) = kk (nI q) ∧ ((q < J ∧ (∀ u, u < q → ¬ (g 13 u = x ∧ g 14 u = y)) ∧ g 13 q = x ∧ g 14 q = y) ∨ (q = J ∧ ∀ u, u < J → ¬ (g 13 u = x ∧ g 14 u = y))) := by
  have hJ := h.J256
  intro k
  induction k with
  | zero =>
    intro i fu hi hfu hb
    obtain ⟨fu, rfl⟩ : ∃ q, fu = q + 1 := ⟨fu - 1, by omega⟩
    have e : i = J := by omega
    subst e
    refine ⟨i, ?_, Or.inr ⟨rfl, hb⟩⟩
    rw [lX5_noteJump_2.eq_2, m_same, m_t3, h.sJ hE, if_pos (nI_le (Nat.le_refl i) (by omega))]
  | succ k ih =>
    intro i fu hi hfu hb
    obtain ⟨fu, rfl⟩ : ∃ q, fu = q + 1 := ⟨fu - 1, by omega⟩
    obtain ⟨j1, j2, j3⟩ := h.ju hE (i := i) (by omega)
    rw [lX5_noteJump_2.eq_2, m_same, m_t3, h.sJ hE, if_neg (nI_ge (by omega) (by omega)), m_jx, m_in (by omega) (by decide), m_ckt, m_clamp (by omega), j1, m_jx1, m_in (by omega) (by decide), m_ckt, m_clamp (by omega), j2]
    by_cases c1 : g 13 i = x
    · rw [if_pos c1]
      by_cases c2 : g 14 i = y
      · rw [if_pos c2]
        exact ⟨i, rfl, Or.inl ⟨by omega, hb, c1, c2⟩⟩
      · rw [if_neg c2, nI_1]
        exact ih (i + 1) fu (by omega) (by omega) (fun q hq => by
          by_cases e : q = i
          · subst e; exact fun z => c2 z.2
          · exact hb q (by omega))
    · rw [if_neg c1, nI_1]
      exact ih (i + 1) fu (by omega) (by omega) (fun q hq => by
        by_cases e : q = i
        · subst e; exact fun z => c1 z.1
        · exact hb q (by omega))
/-- with all pairs noted, none is new -/
theorem RS.full (h : RS E n P T J g s) {x y : Nat} (hx : x < 16) (hy : y < 16) (hno : ∀ q, q < J → ¬ (g 13 q = nI x ∧ g 14 q = nI y)) : J < 256 := by
  have hJ := h.J256
  rcases Nat.lt_or_ge J 256 with c | c
  · exact c
  exfalso
  have e : J = 256 := by omega
  subst e
  refine m_php 256 (fun i => if i < 256 then 16 * (g 13 i).toNatClampNeg + (g 14 i).toNatClampNeg else 16 * x + y) (fun i hi => ?_) (fun i j hij hj => ?_)
  · show (if i < 256 then 16 * (g 13 i).toNatClampNeg + (g 14 i).toNatClampNeg else 16 * x + y) < 256
    by_cases c1 : i < 256
    · obtain ⟨⟨a, a1, a2⟩, b, b1, b2⟩ := h.jv c1
      rw [if_pos c1, a2, b2, m_clamp (by omega), m_clamp (by omega)]; omega
    · rw [if_neg c1]; omega
  · show (if i < 256 then 16 * (g 13 i).toNatClampNeg + (g 14 i).toNatClampNeg else 16 * x + y) ≠ (if j < 256 then 16 * (g 13 j).toNatClampNeg + (g 14 j).toNatClampNeg else 16 * x + y)
    have c1 : i < 256 := by omega
    obtain ⟨⟨a, a1, a2⟩, b, b1, b2⟩ := h.jv c1
    rw [if_pos c1, a2, b2, m_clamp (by omega), m_clamp (by omega)]
    by_cases c2 : j < 256
    · obtain ⟨⟨u, u1, u2⟩, v, v1, v2⟩ := h.jv c2
      rw [if_pos c2, u2, v2, m_clamp (by omega), m_clamp (by omega)]
      intro e
      refine h.jd hij c2 ⟨?_, ?_⟩
      · rw [a2, u2]; congr 1; omega
      · rw [b2, v2]; congr 1; omega
    · rw [if_neg c2]
      intro e
      refine hno i c1 ⟨?_, ?_⟩
      · rw [a2]; congr 1; omega
      · rw [b2]; congr 1; omega
/-- the jump from x to y is noted -/
theorem m_note (h : RS E n P T J g s) (hE : E 12) (hN : 260 ≤ N) {x y : Nat} (hx : x < 16) (hy : y < 16) : ∃ g' s' J', fX0_note N (nI x) (nI y) g = some g' ∧ fX5_noteJump N (nI x) (nI y) (z_uR m 1 s) = some (z_uR m 1 s') ∧ RS E n P T J' g' s' ∧ (∀ q, 1 ≤ q → q ≤ 12 → g' q = g q) := by
  have hJ := h.J256
  unfold fX5_noteJump fX0_note
  obtain ⟨q, q1, q2⟩ := m_ntM (N := N) (m := m) h hE (nI x) (nI y) (fun x3_2 => (if x3_2 = ((z_uR m 1 s) 1 ((3 : Int32)).toNatClampNeg) then
z_ck (z_in ((157 : Int32) + ((3 : Int32) * x3_2)) 925) <|
z_lt (z_u2 (z_uR m 1 s) 1 (((157 : Int32) + ((3 : Int32) * x3_2))).toNatClampNeg (nI x)) fun g11 =>
z_ck (z_in (((157 : Int32) + ((3 : Int32) * x3_2)) + (1 : Int32)) 925) <|
z_lt (z_u2 g11 1 ((((157 : Int32) + ((3 : Int32) * x3_2)) + (1 : Int32))).toNatClampNeg (nI y)) fun g13 =>
z_ck (z_in (((157 : Int32) + ((3 : Int32) * x3_2)) + (2 : Int32)) 925) <|
z_lt (z_u2 g13 1 ((((157 : Int32) + ((3 : Int32) * x3_2)) + (2 : Int32))).toNatClampNeg (0 : Int32)) fun g15 =>
z_lt (z_u2 g15 1 ((3 : Int32)).toNatClampNeg ((g15 1 ((3 : Int32)).toNatClampNeg) + (1 : Int32))) fun g16 =>
z_ck (z_in (((157 : Int32) + ((3 : Int32) * x3_2)) + (2 : Int32)) 925) <|
z_ck (z_in (((157 : Int32) + ((3 : Int32) * x3_2)) + (2 : Int32)) 925) <|
z_lt (z_u2 g16 1 ((((157 : Int32) + ((3 : Int32) * x3_2)) + (2 : Int32))).toNatClampNeg ((g16 1 ((((157 : Int32) + ((3 : Int32) * x3_2)) + (2 : Int32))).toNatClampNeg) + (1 : Int32))) fun g19 =>
some g19
else
z_ck (z_in (((157 : Int32) + ((3 : Int32) * x3_2)) + (2 : Int32)) 925) <|
z_ck (z_in (((157 : Int32) + ((3 : Int32) * x3_2)) + (2 : Int32)) 925) <|
z_lt (z_u2 (z_uR m 1 s) 1 ((((157 : Int32) + ((3 : Int32) * x3_2)) + (2 : Int32))).toNatClampNeg (((z_uR m 1 s) 1 ((((157 : Int32) + ((3 : Int32) * x3_2)) + (2 : Int32))).toNatClampNeg) + (1 : Int32))) fun g9 =>
some g9)) J 0 N (by omega) (by omega) (fun q hq => by omega)
  rw [nI_0] at q1
  rw [q1]
  have sJ := h.sJ hE
  rcases (by rw [← nI_0]; exact m_ntC (N := N) h (nI x) (nI y) J 0 N (by omega) (by omega) (fun q hq => by omega) : (∃ q, q < J ∧ (∀ u, u < q → ¬ (g 13 u = nI x ∧ g 14 u = nI y)) ∧ g 13 q = nI x ∧ g 14 q = nI y ∧ lX0_note_2 N (nI x) (nI y) g N (0 : Int32) = some (z_u2 g 15 q (g 15 q + 1))) ∨ ((∀ q, q < J → ¬ (g 13 q = nI x ∧ g 14 q = nI y)) ∧ (J < 256 → lX0_note_2 N (nI x) (nI y) g N (0 : Int32) = some (z_u2 (z_u2 (z_u2 (z_u2 g 13 J (nI x)) 14 J (nI y)) 15 J 1) 0 4 (nI (J + 1)))))) with ⟨u, u1, u2, u3, u4, u5⟩ | ⟨u1, u2⟩
  · -- it was noted before
    have hqu : q = u ∧ q < J := by
      rcases q2 with ⟨a1, a2, a3, a4⟩ | ⟨-, a2⟩
      · rcases Nat.lt_trichotomy q u with c | c | c
        · exact absurd ⟨a3, a4⟩ (u2 q c)
        · exact ⟨c, a1⟩
        · exact absurd ⟨u3, u4⟩ (a2 u c)
      · exact absurd ⟨u3, u4⟩ (a2 u u1)
    obtain ⟨rfl, hq⟩ := hqu
    obtain ⟨j1, j2, j3⟩ := h.ju hE hq
    refine ⟨_, upd s (157 + 3 * q + 2) (g 15 q + 1), J, u5, ?_, ?_, fun r h1 h2 => m_u2n _ _ _ (by omega)⟩
    · rw [m_same, m_t3, sJ, if_neg (fun e => by have := m_nI_inj (by omega) (by omega) e; omega), m_jx, m_jx2, m_in (by omega) (by decide), m_ckt, m_ckt, m_clamp (by omega), j3, m_uRR, m_lt]
    · refine h.jj hJ (fun r h1 h2 => m_u2n _ _ _ (by omega)) (fun k _ => by rw [m_u2n _ _ _ (by decide : (0 : Nat) ≠ 15)]) (by rw [m_u2n _ _ _ (by decide : (0 : Nat) ≠ 15)]; exact h.gJ) (fun k h1 h2 => m_un _ _ (by omega)) (fun _ => by rw [m_un _ _ (by omega)]; exact sJ) (fun e i hi => ?_) (fun i hi => ?_) (fun i k hi hk => ?_)
      · obtain ⟨i1, i2, i3⟩ := h.ju e hi
        rw [m_un _ _ (by omega), m_un _ _ (by omega), m_u2n _ _ _ (by decide : (13 : Nat) ≠ 15), m_u2n _ _ _ (by decide : (14 : Nat) ≠ 15), m_u2s]
        refine ⟨i1, i2, ?_⟩
        by_cases c : i = q
        · subst c; rw [m_us, m_us]
        · rw [m_un _ _ (by omega), m_un _ _ c]; exact i3
      · rw [m_u2n _ _ _ (by decide : (13 : Nat) ≠ 15), m_u2n _ _ _ (by decide : (14 : Nat) ≠ 15)]; exact h.jv hi
      · rw [m_u2n _ _ _ (by decide : (13 : Nat) ≠ 15), m_u2n _ _ _ (by decide : (14 : Nat) ≠ 15)]; exact h.jd hi hk
  · -- a new jump
    have hq : q = J := by
      rcases q2 with ⟨a1, a2, a3, a4⟩ | ⟨a1, -⟩
      · exact absurd ⟨a3, a4⟩ (u1 q a1)
      · exact a1
    subst hq
    have hlt := h.full hx hy u1
    refine ⟨_, upd (upd (upd (upd (upd s (157 + 3 * q) (nI x)) (157 + 3 * q + 1) (nI y)) (157 + 3 * q + 2) 0) 3 (nI (q + 1))) (157 + 3 * q + 2) 1, q + 1, u2 hlt, ?_, ?_, fun r h1 h2 => by rw [m_u2n _ _ _ (by omega), m_u2n _ _ _ (by omega), m_u2n _ _ _ (by omega), m_u2n _ _ _ (by omega)]⟩
    · rw [m_same, m_t3, sJ, if_pos rfl, m_jx, m_in (by omega) (by decide), m_ckt, m_clamp (by omega), m_uRR, m_lt, m_jx1, m_in (by omega) (by decide), m_ckt, m_clamp (by omega), m_uRR, m_lt, m_jx2, m_in (by omega) (by decide), m_ckt, m_clamp (by omega), m_uRR, m_lt, m_lt, m_ckt, m_ckt, m_lt, m_same, m_un _ _ (show 3 ≠ 157 + 3 * q + 2 by omega), m_un _ _ (show 3 ≠ 157 + 3 * q + 1 by omega), m_un _ _ (show 3 ≠ 157 + 3 * q by omega), sJ, nI_1, m_uRR, m_same, m_un _ _ (show 157 + 3 * q + 2 ≠ 3 by omega), m_us, m_uRR]
      rfl
    · refine h.jj (by omega) (fun r h1 h2 => by rw [m_u2n _ _ _ (by omega), m_u2n _ _ _ (by omega), m_u2n _ _ _ (by omega), m_u2n _ _ _ (by omega)]) (fun k h4 => by rw [m_u2s, m_un _ _ h4, m_u2n _ _ _ (by decide : (0 : Nat) ≠ 15), m_u2n _ _ _ (by decide : (0 : Nat) ≠ 14), m_u2n _ _ _ (by decide : (0 : Nat) ≠ 13)]) (by rw [m_u2s, m_us]) (fun k h1 h2 => by rw [m_un _ _ (by omega), m_un _ _ h2, m_un _ _ (by omega), m_un _ _ (by omega), m_un _ _ (by omega)]) (fun _ => by rw [m_un _ _ (by omega), m_us]) (fun e i hi => ?_) (fun i hi => ?_) (fun i k hi hk => ?_)
      all_goals rw [m_u2n _ _ _ (by decide : (13 : Nat) ≠ 0), m_u2n _ _ _ (by decide : (13 : Nat) ≠ 15), m_u2n _ _ _ (by decide : (13 : Nat) ≠ 14), m_u2s, m_u2n _ _ _ (by decide : (14 : Nat) ≠ 0), m_u2n _ _ _ (by decide : (14 : Nat) ≠ 15), m_u2s, m_u2n _ _ _ (by decide : (14 : Nat) ≠ 13)]
      · rw [m_u2n _ _ _ (by decide : (15 : Nat) ≠ 0), m_u2s, m_u2n _ _ _ (by decide : (15 : Nat) ≠ 14), m_u2n _ _ _ (by decide : (15 : Nat) ≠ 13)]
        by_cases c : i = q
        · subst c
          refine ⟨?_, ?_, ?_⟩
          · rw [m_un _ _ (by omega), m_un _ _ (by omega), m_un _ _ (by omega), m_un _ _ (by omega), m_us, m_us]
          · rw [m_un _ _ (by omega), m_un _ _ (by omega), m_un _ _ (by omega), m_us, m_us]
          · rw [m_us, m_us]
        · obtain ⟨i1, i2, i3⟩ := h.ju e (i := i) (by omega)
          refine ⟨?_, ?_, ?_⟩
          · rw [m_un _ _ (by omega), m_un _ _ (by omega), m_un _ _ (by omega), m_un _ _ (by omega), m_un _ _ (by omega), m_un _ _ c]; exact i1
          · rw [m_un _ _ (by omega), m_un _ _ (by omega), m_un _ _ (by omega), m_un _ _ (by omega), m_un _ _ (by omega), m_un _ _ c]; exact i2
          · rw [m_un _ _ (by omega), m_un _ _ (by omega), m_un _ _ (by omega), m_un _ _ (by omega), m_un _ _ (by omega), m_un _ _ c]; exact i3
      · by_cases c : i = q
        · subst c; rw [m_us, m_us]; exact ⟨⟨x, hx, rfl⟩, y, hy, rfl⟩
        · rw [m_un _ _ c, m_un _ _ c]; exact h.jv (by omega)
      · rw [m_un _ _ (show i ≠ q by omega), m_un _ _ (show i ≠ q by omega)]
        by_cases c : k = q
        · subst c; rw [m_us, m_us]; exact u1 i hi
        · rw [m_un _ _ c, m_un _ _ c]; exact h.jd hi (by omega)
end MR8
