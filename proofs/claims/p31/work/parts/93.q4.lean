/-! a run: the law's and the class's -/
theorem q_u2u2 (g : z_R) (i j : Nat) (x y : Int32) : z_u2 (z_u2 g i j x) i j y = z_u2 g i j y := by
  funext a
  by_cases h : a = i
  · subst h
    rw [m_u2s, m_u2s, m_u2s]
    funext b
    by_cases hb : b = j
    · subst hb; rw [m_us, m_us]
    · rw [m_un _ _ hb, m_un _ _ hb, m_un _ _ hb]
  · rw [m_u2n _ _ _ h, m_u2n _ _ _ h, m_u2n _ _ _ h]
theorem q_u2e (g : z_R) (i j : Nat) {x : Int32} (h : g i j = x) : z_u2 g i j x = g := by
  funext a
  by_cases ha : a = i
  · subst ha
    rw [m_u2s]
    funext b
    by_cases hb : b = j
    · subst hb; rw [m_us, h]
    · rw [m_un _ _ hb]
  · rw [m_u2n _ _ _ ha]
theorem q_8x {x y : Nat} : (8 : Int32) * nI x + nI y = nI (8 * x + y) := by
  rw [show (8 : Int32) * nI x = nI (8 * x) from pk_mul 8 x, nI_add]
/-- what a run does behind a read: to the next order -/
def q_tl (N : Nat) (bk : Int32 → Int32 → Int32 → z_R → Option (Int32 × z_R)) (x4 x6 : Int32) (g24 : z_R) : Option (Int32 × z_R) :=
z_ck (z_in (((9 : Int32) * x4) + (2 : Int32)) 54) <|
(if 0 ≤ (g24 1 ((((9 : Int32) * x4) + (2 : Int32))).toNatClampNeg) then
z_ck (z_in (((8 : Int32) * x4) + (g24 1 ((((9 : Int32) * x4) + (2 : Int32))).toNatClampNeg)) 64) <|
(if (g24 2 ((((8 : Int32) * x4) + (g24 1 ((((9 : Int32) * x4) + (2 : Int32))).toNatClampNeg))).toNatClampNeg) = 0 then
z_lt (z_u2 g24 0 ((11 : Int32)).toNatClampNeg ((g24 0 ((11 : Int32)).toNatClampNeg) + (1 : Int32))) fun g33 =>
z_ck (z_in (((8 : Int32) * x4) + (g24 1 ((((9 : Int32) * x4) + (2 : Int32))).toNatClampNeg)) 64) <|
z_ck (z_in (((8 : Int32) * x4) + (g24 1 ((((9 : Int32) * x4) + (2 : Int32))).toNatClampNeg)) 64) <|
z_lt (z_u2 g33 2 ((((8 : Int32) * x4) + (g24 1 ((((9 : Int32) * x4) + (2 : Int32))).toNatClampNeg))).toNatClampNeg ((g33 2 ((((8 : Int32) * x4) + (g24 1 ((((9 : Int32) * x4) + (2 : Int32))).toNatClampNeg))).toNatClampNeg) + (1 : Int32))) fun g36 =>
(bk (g24 1 ((((9 : Int32) * x4) + (2 : Int32))).toNatClampNeg) x4 (x6 + (1 : Int32)) g36)
else
z_lt (z_u2 g24 0 ((11 : Int32)).toNatClampNeg ((g24 0 ((11 : Int32)).toNatClampNeg) + (0 : Int32))) fun g29 =>
z_ck (z_in (((8 : Int32) * x4) + (g24 1 ((((9 : Int32) * x4) + (2 : Int32))).toNatClampNeg)) 64) <|
z_ck (z_in (((8 : Int32) * x4) + (g24 1 ((((9 : Int32) * x4) + (2 : Int32))).toNatClampNeg)) 64) <|
z_lt (z_u2 g29 2 ((((8 : Int32) * x4) + (g24 1 ((((9 : Int32) * x4) + (2 : Int32))).toNatClampNeg))).toNatClampNeg ((g29 2 ((((8 : Int32) * x4) + (g24 1 ((((9 : Int32) * x4) + (2 : Int32))).toNatClampNeg))).toNatClampNeg) + (1 : Int32))) fun g32 =>
(bk (g24 1 ((((9 : Int32) * x4) + (2 : Int32))).toNatClampNeg) x4 (x6 + (1 : Int32)) g32))
else
some ((0 : Int32), g24))
/-- the law's rows behind a jump from o to y -/
def q_jm (u : z_R) (o y : Nat) : z_R := z_u2 (z_u2 u 0 11 (u 0 11 + if u 2 (8 * o + y) = 0 then 1 else 0)) 2 (8 * o + y) (u 2 (8 * o + y) + 1)
section Q4
variable {E : Nat → Prop} {N n P T J : Nat} {g v u : z_R} {s : Nat → Int32}
theorem q_tlN {bk : Int32 → Int32 → Int32 → z_R → Option (Int32 × z_R)} {o : Nat} {x6 : Int32} (ho : o < 6) (e : u 1 (9 * o + 2) = -1) : q_tl N bk (nI o) x6 u = some (0, u) := by
  unfold q_tl
  rw [q_i2, m_in (show 9 * o + 2 < 54 by omega) (by decide), m_ckt, m_clamp (show 9 * o + 2 < 2 ^ 31 by omega), e, if_neg (by decide)]
theorem q_tlY {bk : Int32 → Int32 → Int32 → z_R → Option (Int32 × z_R)} {o y k : Nat} (ho : o < 6) (hy : y < 8) (e : u 1 (9 * o + 2) = nI y) : q_tl N bk (nI o) (nI k) u = bk (nI y) (nI o) (nI (k + 1)) (q_jm u o y) := by
  unfold q_tl q_jm
  rw [q_i2, m_in (show 9 * o + 2 < 54 by omega) (by decide), m_ckt, m_clamp (show 9 * o + 2 < 2 ^ 31 by omega), e, if_pos (m_le0.mpr (m_neg (by omega))), q_8x, m_in (show 8 * o + y < 64 by omega) (by decide), m_ckt, m_clamp (show 8 * o + y < 2 ^ 31 by omega), q_t11, nI_1]
  by_cases c : u 2 (8 * o + y) = 0
  · rw [if_pos c, if_pos c, m_lt, m_ckt, m_ckt, m_lt, m_u2n _ _ _ (by decide : (2 : Nat) ≠ 0)]
  · rw [if_neg c, if_neg c, m_lt, m_ckt, m_ckt, m_lt, m_u2n _ _ _ (by decide : (2 : Nat) ≠ 0)]
theorem q_154 {bk : Int32 → Int32 → Int32 → z_R → Option (Int32 × z_R)} {o : Nat} {f x6 : Int32} (q : QO g u) (ho : o < 6) (hf : f = -1 ∨ ∃ q, q < 6 ∧ f = nI q) : ∃ u', jL_run_154_9 N bk (nI o) f x6 u = q_tl N bk (nI o) x6 u' ∧ QO (z_u2 (if f = -1 then g else z_u2 g 8 o 0) 0 2 (g 0 2 + (1 + g 2 o))) u' ∧ u' 2 = u 2 ∧ u' 0 11 = u 0 11 ∧ u' 0 2 = 0 := by
  have i7 : z_in ((9 : Int32) * nI o + (7 : Int32)) 54 = true := by rw [q_i7]; exact m_in (by omega) (by decide)
  have i1 : z_in ((9 : Int32) * nI o + (1 : Int32)) 54 = true := by rw [q_i1]; exact m_in (by omega) (by decide)
  have c7 : ((9 : Int32) * nI o + (7 : Int32)).toNatClampNeg = 9 * o + 7 := by rw [q_i7]; exact m_clamp (by omega)
  have c1 : ((9 : Int32) * nI o + (1 : Int32)).toNatClampNeg = 9 * o + 1 := by rw [q_i1]; exact m_clamp (by omega)
  by_cases c : f = -1
  · refine ⟨z_u2 (z_u2 u 0 1 (g 0 2 + (1 + g 2 o))) 0 2 0, ?_, ?_, ?_, ?_, ?_⟩
    · unfold jL_run_154_9
      rw [if_pos (show f < 0 by rw [c]; decide), i7, i1, m_ckt, m_ckt, c7, c1, m_lt, q_u2e u 1 (9 * o + 7) rfl, m_ckt, m_t1, m_t2, m_lt, m_lt, q.or 1 ho (by decide), q.eT]
      rfl
    · rw [if_pos c]
      exact (q.tk _).q2 (Or.inl rfl) 0
    · rw [m_u2n _ _ _ (by decide), m_u2n _ _ _ (by decide)]
    · rw [m_u2s, m_un _ _ (by decide), m_u2s, m_un _ _ (by decide)]
    · rw [m_u2s, m_us]
  · have fn : ¬ f < 0 := by
      rcases hf with e | ⟨w, hw, e⟩
      · exact absurd e c
      · rw [e]; exact m_neg (by omega)
    have q1 := q.set (o := o) (w := 7) 0 ho (by decide)
    refine ⟨z_u2 (z_u2 (z_u2 u 1 (9 * o + 7) 0) 0 1 (g 0 2 + (1 + g 2 o))) 0 2 0, ?_, ?_, ?_, ?_, ?_⟩
    · unfold jL_run_154_9
      rw [if_neg fn, i7, i1, m_ckt, c7, c1, m_lt, m_ckt, m_t1, m_t2, m_lt, m_lt]
      have e1 : z_u2 u 1 (9 * o + 7) 0 1 (9 * o + 1) = g 2 o := by rw [m_u2s, m_un _ _ (by omega)]; exact q.or 1 ho (by decide)
      have e2 : z_u2 u 1 (9 * o + 7) 0 0 1 = g 0 2 := by rw [m_u2n _ _ _ (by decide)]; exact q.eT
      rw [e1, e2]
      rfl
    · rw [if_neg c]
      exact (q1.tk _).q2 (Or.inl rfl) 0
    · rw [m_u2n _ _ _ (by decide), m_u2n _ _ _ (by decide), m_u2n _ _ _ (by decide)]
    · rw [m_u2s, m_un _ _ (by decide), m_u2s, m_un _ _ (by decide), m_u2n _ _ _ (by decide)]
    · rw [m_u2s, m_us]
/-- the ticks of a wait -/
theorem q_wt {T P p j w : Nat} (hp : p < P) (hw : w = (p + P - T % P) % P) : (j < w → (T + j) % P ≠ p) ∧ (T + w) % P = p := by
  have h0 : 0 < P := by omega
  have ht := Nat.mod_lt T h0
  have e : ∀ x, (T + x) % P = (T % P + x) % P := fun x => (Nat.mod_add_mod T P x).symm
  obtain ⟨t, htt⟩ : ∃ t, t = T % P := ⟨_, rfl⟩
  rw [← htt] at ht hw
  rw [e, e, ← htt]
  by_cases c : t ≤ p
  · have hw2 : w = p - t := by
      rw [hw, show p + P - t = (p - t) + P by omega, Nat.add_mod_right, Nat.mod_eq_of_lt (by omega)]
    refine ⟨fun hj => ?_, ?_⟩
    · rw [Nat.mod_eq_of_lt (by omega)]; omega
    · rw [hw2, show t + (p - t) = p by omega, Nat.mod_eq_of_lt hp]
  · have hw2 : w = p + P - t := by rw [hw, Nat.mod_eq_of_lt (by omega)]
    refine ⟨fun hj => ?_, ?_⟩
    · by_cases c2 : t + j < P
      · rw [Nat.mod_eq_of_lt c2]; omega
      · rw [show t + j = (t + j - P) + P by omega, Nat.add_mod_right, Nat.mod_eq_of_lt (by omega)]; omega
    · rw [hw2, show t + (p + P - t) = p + P by omega, Nat.add_mod_right, Nat.mod_eq_of_lt hp]
theorem q_wait {o p w : Nat} {x5 x6 : Int32} (hP : 0 < P ∧ P ≤ 40) (ho : o < 6) (hp : p < P) (h6 : g 6 o = nI p) (hgP : g 0 0 = nI P) (hw : w = (p + P - T % P) % P) (hT : T + w < 2 ^ 30) (kk : Int32 → z_R → Option (Int32 × z_R)) : ∀ (k j fu : Nat) (u : z_R), j + k = w → k < fu → QO (z_u2 g 0 2 (nI (T + j))) u → ∃ u', lL_run_93 N (nI o) x5 x6 kk fu (nI j) u = kk (nI w) u' ∧ QO (z_u2 g 0 2 (nI (T + w))) u' ∧ u' 2 = u 2 ∧ u' 0 11 = u 0 11 := by
  intro k
  induction k with
  | zero =>
    intro j fu u hj hfu q
    obtain ⟨fu, rfl⟩ : ∃ q, fu = q + 1 := ⟨fu - 1, by omega⟩
    have e : j = w := by omega
    subst e
    refine ⟨u, ?_, q, rfl, rfl⟩
    have uP : u 0 0 = nI P := by rw [q.eP, m_u2s, m_un _ _ (by decide)]; exact hgP
    have uT : u 0 1 = nI (T + j) := by rw [q.eT, m_u2s, m_us]
    have u6 : u 1 (9 * o + 5) = nI p := by rw [q.or 5 ho (by decide), m_u2n _ _ _ (by decide)]; exact h6
    rw [lL_run_93.eq_2, m_t0, m_t1, uP, uT, m_nz hP.1 (by omega), m_ckt, q_i5, m_in (show 9 * o + 5 < 54 by omega) (by decide), m_ckt, m_clamp (show 9 * o + 5 < 2 ^ 31 by omega), u6, pk_rem (by omega) hP.1 (by omega), (q_wt (j := 0) hp hw).2, if_pos rfl]
  | succ k ih =>
    intro j fu u hj hfu q
    obtain ⟨fu, rfl⟩ : ∃ q, fu = q + 1 := ⟨fu - 1, by omega⟩
    have uP : u 0 0 = nI P := by rw [q.eP, m_u2s, m_un _ _ (by decide)]; exact hgP
    have uT : u 0 1 = nI (T + j) := by rw [q.eT, m_u2s, m_us]
    have u6 : u 1 (9 * o + 5) = nI p := by rw [q.or 5 ho (by decide), m_u2n _ _ _ (by decide)]; exact h6
    have hm := Nat.mod_lt (T + j) hP.1
    have q1 := q.tk (nI (T + (j + 1)))
    rw [q_u2u2] at q1
    obtain ⟨u', a1, a2, a3, a4⟩ := ih (j + 1) fu _ (by omega) (by omega) q1
    refine ⟨u', ?_, a2, by rw [a3, m_u2n _ _ _ (by decide)], by rw [a4, m_u2s, m_un _ _ (by decide)]⟩
    rw [lL_run_93.eq_2, m_t0, m_t1, uP, uT, m_nz hP.1 (by omega), m_ckt, q_i5, m_in (show 9 * o + 5 < 54 by omega) (by decide), m_ckt, m_clamp (show 9 * o + 5 < 2 ^ 31 by omega), u6, pk_rem (by omega) hP.1 (by omega), if_neg (fun e => (q_wt (w := w) hp hw).1 (show j < w by omega) (m_nI_inj (by omega) (by omega) e)), nI_1, nI_1, m_lt]
    exact a1
/-- the class's read, written out -/
theorem q_readC (h : RS E n P T J g s) (hT : T < 2 ^ 30) {o p w : Nat} (ho : o < n) (h6 : g 6 o = nI p) (hp : p < P) (hw : w = (p + P - T % P) % P) {x : Int32} (hx : x = 0 ∨ x = 1) : fX2_read N (nI o) x g = some (z_u2 (if x = 0 then z_u2 (z_u2 g 0 2 (nI (T + w))) 9 o (nI w) else z_u2 (if w = 0 then z_u2 (z_u2 g 0 2 (nI (T + w))) 9 o (nI w) else z_u2 (z_u2 (z_u2 (z_u2 g 0 2 (nI (T + w))) 9 o (nI w)) 11 (g 1 o).toNatClampNeg (g 11 (g 1 o).toNatClampNeg + g 8 o)) 8 o 0) 8 o 0) 0 2 (nI (T + w) + (1 + g 2 o))) := by
  have h16 := h.n16
  have hP6 := h.P6
  have hP4 := h.P40
  obtain ⟨a, ha4, ha⟩ := h.au ho
  have wa : fX2_around N (nI p - nI T) g = some (nI w) := by rw [hw]; exact m_aroundD h.gP (by omega) (by omega) (by omega) hT
  have hwP : w < P := by rw [hw]; exact Nat.mod_lt _ (by omega)
  have aT : ∀ r, r ≠ 0 → ∀ q z, z_u2 (z_u2 g 0 2 (nI (T + w))) 9 q z r = if r = 9 then upd (g 9) q z else g r := fun r hr q z => by
    by_cases c : r = 9
    · subst c; rw [m_u2s, m_u2n _ _ _ (by decide), if_pos rfl]
    · rw [m_u2n _ _ _ c, m_u2n _ _ _ hr, if_neg c]
  unfold fX2_read
  rw [m_in (show o < 16 by omega) (by decide), m_ckt, m_clamp (by omega), h6, h.gT, wa, m_bind, nI_add, m_lt, m_ckt, m_lt]
  have t0 : z_u2 (z_u2 g 0 2 (nI (T + w))) 9 o (nI w) 0 2 = nI (T + w) := by rw [m_u2n _ _ _ (by decide), m_u2s, m_us]
  have t2 : z_u2 (z_u2 g 0 2 (nI (T + w))) 9 o (nI w) 2 o = g 2 o := by rw [aT 2 (by decide), if_neg (by decide)]
  by_cases x0 : x = 0
  · rw [if_pos x0, if_pos x0, m_ckt, t0, t2, m_lt]
  · rw [if_neg x0, if_neg x0]
    by_cases c : w = 0
    · rw [if_pos (show nI w = 0 by rw [c]; rfl), if_pos c, m_ckt, m_lt, m_ckt, m_u2n _ _ _ (by decide : (0 : Nat) ≠ 8), m_u2n _ _ _ (by decide : (2 : Nat) ≠ 8), t0, t2, m_lt]
    · have a1 : z_u2 (z_u2 g 0 2 (nI (T + w))) 9 o (nI w) 1 o = nI a := by rw [aT 1 (by decide), if_neg (by decide)]; exact ha
      have a8 : z_u2 (z_u2 g 0 2 (nI (T + w))) 9 o (nI w) 8 o = g 8 o := by rw [aT 8 (by decide), if_neg (by decide)]
      have a11 : z_u2 (z_u2 g 0 2 (nI (T + w))) 9 o (nI w) 11 a = g 11 a := by rw [aT 11 (by decide), if_neg (by decide)]
      rw [if_neg (nI_ne0 (by omega) (by omega)), if_neg c, m_refC (show o < 16 by omega) a1 ha4, m_b2, m_ckt, m_lt, m_ckt, a8, a11, ha, m_clamp (show a < 2 ^ 31 by omega)]
      rw [m_u2n _ _ _ (by decide : (0 : Nat) ≠ 8), m_u2n _ _ _ (by decide : (0 : Nat) ≠ 8), m_u2n _ _ _ (by decide : (0 : Nat) ≠ 11), t0, m_u2n _ _ _ (by decide : (2 : Nat) ≠ 8), m_u2n _ _ _ (by decide : (2 : Nat) ≠ 8), m_u2n _ _ _ (by decide : (2 : Nat) ≠ 11), t2, m_lt]
/-- a jump is noted: the law's and the class's -/
theorem q_note (h : RS E 6 P T J g s) (hN : 260 ≤ N) {c x y : Nat} (hx : x < 6) (hy : y < 8) : ∃ g', fX0_note N (nI x) (nI y) g = some g' ∧ (∀ k, k ≠ 4 → g' 0 k = g 0 k) ∧ (∀ r, 1 ≤ r → r ≤ 12 → g' r = g r) ∧ (c < 2 ^ 29 → QJ c g u → QJ (c + 1) g' (q_jm u x y)) := by
  have hJ := h.J256
  unfold fX0_note
  rcases (by rw [← nI_0]; exact m_ntC (N := N) h (nI x) (nI y) J 0 N (by omega) (by omega) (fun q hq => by omega) : (∃ q, q < J ∧ (∀ u, u < q → ¬ (g 13 u = nI x ∧ g 14 u = nI y)) ∧ g 13 q = nI x ∧ g 14 q = nI y ∧ lX0_note_2 N (nI x) (nI y) g N (0 : Int32) = some (z_u2 g 15 q (g 15 q + 1))) ∨ ((∀ q, q < J → ¬ (g 13 q = nI x ∧ g 14 q = nI y)) ∧ (J < 256 → lX0_note_2 N (nI x) (nI y) g N (0 : Int32) = some (z_u2 (z_u2 (z_u2 (z_u2 g 13 J (nI x)) 14 J (nI y)) 15 J 1) 0 4 (nI (J + 1)))))) with ⟨i0, u1, u2, u3, u4, u5⟩ | ⟨u1, u2⟩
  · refine ⟨_, u5, fun k _ => by rw [m_u2n _ _ _ (by decide)], fun r h1 h2 => m_u2n _ _ _ (by omega), fun hc hj => ?_⟩
    obtain ⟨j1, J', j2, j3, j4, j5, j6⟩ := hj
    have eJ : J' = J := m_nI_inj (by omega) (by omega) (j3.symm.trans h.gJ)
    subst eJ
    obtain ⟨x1, y1, k1, b1, b2, b3, b4, b5, b6, b7, b8⟩ := j4 i0 u1
    have ex : x1 = x := m_nI_inj (by omega) (by omega) (b5.symm.trans u3)
    have ey : y1 = y := m_nI_inj (by omega) (by omega) (b6.symm.trans u4)
    subst ex ey
    have hne : ¬ u 2 (8 * x1 + y1) = 0 := by rw [b8]; exact nI_ne0 (by omega) (by omega)
    unfold q_jm
    refine ⟨?_, J', j2, ?_, fun i hi => ?_, fun i k hi hk => ?_, fun x' y' hx' hy' hno => ?_⟩
    · rw [m_u2n _ _ _ (by decide), m_u2s, m_us, if_neg hne, Int32.add_zero, m_u2n _ _ _ (by decide)]; exact j1
    · rw [m_u2n _ _ _ (by decide)]; exact j3
    · rw [m_u2n _ _ _ (by decide : (13 : Nat) ≠ 15), m_u2n _ _ _ (by decide : (14 : Nat) ≠ 15), m_u2s, m_u2s, m_u2n _ _ _ (by decide : (2 : Nat) ≠ 0)]
      by_cases e : i = i0
      · subst e
        refine ⟨x1, y1, k1 + 1, b1, b2, by omega, by omega, b5, b6, ?_, ?_⟩
        · rw [m_us, b7, nI_1]
        · rw [m_us, b8, nI_1]
      · obtain ⟨x', y', k', c1, c2, c3, c4, c5, c6, c7, c8⟩ := j4 i hi
        refine ⟨x', y', k', c1, c2, c3, by omega, c5, c6, by rw [m_un _ _ e]; exact c7, ?_⟩
        rw [m_un _ _ (fun e2 => ?_)]
        · exact c8
        · have ex : x' = x1 := by omega
          have ey : y' = y1 := by omega
          subst ex ey
          rcases Nat.lt_or_gt_of_ne e with d | d
          · exact j5 i i0 d u1 ⟨c5.trans u3.symm, c6.trans u4.symm⟩
          · exact j5 i0 i d hi ⟨u3.trans c5.symm, u4.trans c6.symm⟩
    · rw [m_u2n _ _ _ (by decide : (13 : Nat) ≠ 15), m_u2n _ _ _ (by decide : (14 : Nat) ≠ 15)]
      exact j5 i k hi hk
    · rw [m_u2n _ _ _ (by decide : (13 : Nat) ≠ 15), m_u2n _ _ _ (by decide : (14 : Nat) ≠ 15)] at hno
      rw [m_u2s, m_u2n _ _ _ (by decide : (2 : Nat) ≠ 0), m_un _ _ (fun e2 => ?_)]
      · exact j6 x' y' hx' hy' hno
      · have ex : x' = x1 := by omega
        have ey : y' = y1 := by omega
        subst ex ey
        exact hno i0 u1 ⟨u3, u4⟩
  · have hlt := h.full (x := x) (y := y) (by omega) (by omega) u1
    refine ⟨_, u2 hlt, fun k hk => ?_, fun r h1 h2 => ?_, fun hc hj => ?_⟩
    · rw [m_u2s, m_un _ _ hk, m_u2n _ _ _ (by decide), m_u2n _ _ _ (by decide), m_u2n _ _ _ (by decide)]
    · rw [m_u2n _ _ _ (by omega), m_u2n _ _ _ (by omega), m_u2n _ _ _ (by omega), m_u2n _ _ _ (by omega)]
    obtain ⟨j1, J', j2, j3, j4, j5, j6⟩ := hj
    have eJ : J' = J := m_nI_inj (by omega) (by omega) (j3.symm.trans h.gJ)
    subst eJ
    have hz := j6 x y hx hy u1
    have g13 : z_u2 (z_u2 (z_u2 (z_u2 g 13 J' (nI x)) 14 J' (nI y)) 15 J' 1) 0 4 (nI (J' + 1)) 13 = upd (g 13) J' (nI x) := by rw [m_u2n _ _ _ (by decide), m_u2n _ _ _ (by decide), m_u2n _ _ _ (by decide), m_u2s]
    have g14 : z_u2 (z_u2 (z_u2 (z_u2 g 13 J' (nI x)) 14 J' (nI y)) 15 J' 1) 0 4 (nI (J' + 1)) 14 = upd (g 14) J' (nI y) := by rw [m_u2n _ _ _ (by decide), m_u2n _ _ _ (by decide), m_u2s, m_u2n _ _ _ (by decide)]
    have g15 : z_u2 (z_u2 (z_u2 (z_u2 g 13 J' (nI x)) 14 J' (nI y)) 15 J' 1) 0 4 (nI (J' + 1)) 15 = upd (g 15) J' 1 := by rw [m_u2n _ _ _ (by decide), m_u2s, m_u2n _ _ _ (by decide), m_u2n _ _ _ (by decide)]
    have hju : ∀ k, q_jm u x y 2 k = if k = 8 * x + y then 1 else u 2 k := fun k => by
      unfold q_jm
      rw [m_u2s, m_u2n _ _ _ (by decide : (2 : Nat) ≠ 0)]
      by_cases e : k = 8 * x + y
      · subst e; rw [m_us, hz, if_pos rfl]; rfl
      · rw [m_un _ _ e, if_neg e]
    refine ⟨?_, J' + 1, by omega, by rw [m_u2s, m_us], fun i hi => ?_, fun i k hi hk => ?_, fun x' y' hx' hy' hno => ?_⟩
    · unfold q_jm
      rw [m_u2n _ _ _ (by decide), m_u2s, m_us, if_pos hz, m_u2s, m_us, j1, j3, nI_1]
    · rw [g13, g14, g15, ]
      by_cases e : i = J'
      · subst e
        refine ⟨x, y, 1, hx, hy, by omega, by omega, m_us _ _ _, m_us _ _ _, by rw [m_us]; rfl, by rw [hju, if_pos rfl]; rfl⟩
      · obtain ⟨x', y', k', c1, c2, c3, c4, c5, c6, c7, c8⟩ := j4 i (by omega)
        refine ⟨x', y', k', c1, c2, c3, by omega, by rw [m_un _ _ e]; exact c5, by rw [m_un _ _ e]; exact c6, by rw [m_un _ _ e]; exact c7, ?_⟩
        rw [hju, if_neg (fun e2 => ?_)]
        · exact c8
        · have ex : x' = x := by omega
          have ey : y' = y := by omega
          subst ex ey
          exact u1 i (by omega) ⟨c5, c6⟩
    · rw [g13, g14]
      by_cases e : k = J'
      · subst e
        rw [m_us, m_us, m_un _ _ (by omega), m_un _ _ (by omega)]
        exact u1 i hi
      · rw [m_un _ _ (show i ≠ J' by omega), m_un _ _ (show i ≠ J' by omega), m_un _ _ e, m_un _ _ e]
        exact j5 i k hi (by omega)
    · rw [g13, g14] at hno
      rw [hju, if_neg (fun e2 => ?_)]
      · exact j6 x' y' hx' hy' (fun i hi => by
          have := hno i (by omega)
          rw [m_un _ _ (show i ≠ J' by omega), m_un _ _ (show i ≠ J' by omega)] at this
          exact this)
      · have ex : x' = x := by omega
        have ey : y' = y := by omega
        subst ex ey
        exact hno J' (by omega) ⟨m_us _ _ _, m_us _ _ _⟩
end Q4
