/-! the class without its throws: its functions out of those with them -/
def z_nt {α : Type} (x : Option ((Int32 ⊕ Nat) × α)) : Option (Int32 × α) := x.bind fun y => z_sm y.1 (fun r => some (r, y.2)) (fun _ => none)
section NT
variable {α β γ : Type}
theorem nt_if {c : Prop} [Decidable c] (x y : Option ((Int32 ⊕ Nat) × α)) : z_nt (if c then x else y) = if c then z_nt x else z_nt y := by
  by_cases h : c
  · rw [if_pos h, if_pos h]
  · rw [if_neg h, if_neg h]
theorem nt_bind (x : Option β) (f : β → Option ((Int32 ⊕ Nat) × α)) : z_nt (x.bind f) = x.bind fun y => z_nt (f y) := by
  cases x <;> rfl
theorem nt_b2 (x : Option (β × γ)) (f : β → γ → Option ((Int32 ⊕ Nat) × α)) : z_nt (z_b2 x f) = z_b2 x fun a b => z_nt (f a b) := by
  cases x <;> rfl
theorem nt_lt (x : β) (f : β → Option ((Int32 ⊕ Nat) × α)) : z_nt (z_lt x f) = z_lt x fun y => z_nt (f y) := rfl
theorem nt_ck (b : Bool) (x : Option ((Int32 ⊕ Nat) × α)) : z_nt (z_ck b x) = z_ck b (z_nt x) := by
  cases b <;> rfl
theorem nt_l (r : Int32) (X : α) : z_nt (some (.inl r, X)) = some (r, X) := rfl
theorem nt_r (k : Nat) (X : α) : z_nt (some (.inr k, X)) = none := rfl
end NT
section NTX
variable {N : Nat} {X : z_X}
theorem n_setDrum (p : Int32) : nX4_setDrum N p X = z_nt (fX4_setDrum N p X) := by
  unfold nX4_setDrum fX4_setDrum
  simp only [nt_if, nt_bind, nt_b2, nt_lt, nt_ck, nt_l, nt_r]
theorem n_addOrder (a w x e b : Int32) : nX4_addOrder N a w x e b X = z_nt (fX4_addOrder N a w x e b X) := by
  unfold nX4_addOrder fX4_addOrder
  simp only [nt_if, nt_bind, nt_b2, nt_lt, nt_ck, nt_l, nt_r]
theorem n_change (x w v : Int32) : nX4_change N x w v X = z_nt (fX4_change N x w v X) := by
  unfold nX4_change fX4_change
  simp only [nt_if, nt_bind, nt_b2, nt_lt, nt_ck, nt_l, nt_r]
theorem n_run (x : Int32) : nX4_run N x X = z_nt (fX4_run N x X) := by
  unfold nX4_run fX4_run
  simp only [nt_if, nt_bind, nt_b2, nt_lt, nt_ck, nt_l, nt_r]
theorem n_turn (x : Int32) : nX4_turn N x X = z_nt (fX4_turn N x X) := by
  unfold nX4_turn fX4_turn
  simp only [nt_if, nt_bind, nt_b2, nt_lt, nt_ck, nt_l, nt_r]
theorem n_time (x : Int32) : nX4_time N x X = z_nt (fX4_time N x X) := by
  unfold nX4_time fX4_time
  simp only [nt_if, nt_bind, nt_b2, nt_lt, nt_ck, nt_l, nt_r]
theorem n_saves (x : Int32) : nX4_saves N x X = z_nt (fX4_saves N x X) := by
  unfold nX4_saves fX4_saves
  simp only [nt_if, nt_bind, nt_b2, nt_lt, nt_ck, nt_l, nt_r]
theorem n_bpL (x1 x2 : Int32) : ∀ (fu : Nat) (a b c : Int32) (X : z_X), nlX4_bestPlace_51 N x1 x2 fu a b c X = z_nt (lX4_bestPlace_51 N x1 x2 fu a b c X) := by
  intro fu
  induction fu with
  | zero => intro a b c X; rfl
  | succ fu ih =>
    intro a b c X
    rw [nlX4_bestPlace_51.eq_2, lX4_bestPlace_51.eq_2]
    simp only [nt_if, nt_bind, nt_b2, nt_lt, nt_ck, nt_l, nt_r, ih]
theorem n_bestPlace (x y : Int32) : nX4_bestPlace N x y X = z_nt (fX4_bestPlace N x y X) := by
  unfold nX4_bestPlace fX4_bestPlace
  simp only [nt_if, nt_bind, nt_b2, nt_lt, nt_ck, nt_l, nt_r, n_bpL]
theorem n_lbL (x1 : Int32) : ∀ (fu : Nat) (a : Int32) (X : z_X), nlX4_leastBribe_34 N x1 fu a X = z_nt (lX4_leastBribe_34 N x1 fu a X) := by
  intro fu
  induction fu with
  | zero => intro a X; rfl
  | succ fu ih =>
    intro a X
    rw [nlX4_leastBribe_34.eq_2, lX4_leastBribe_34.eq_2]
    simp only [nt_if, nt_bind, nt_b2, nt_lt, nt_ck, nt_l, nt_r, ih]
theorem n_leastBribe (x : Int32) : nX4_leastBribe N x X = z_nt (fX4_leastBribe N x X) := by
  unfold nX4_leastBribe fX4_leastBribe
  simp only [nt_if, nt_bind, nt_b2, nt_lt, nt_ck, nt_l, nt_r, n_lbL]
end NTX
/-! the law's rows beside the class's state -/
theorem q_i0 (k : Nat) : (9 : Int32) * nI k = nI (9 * k) := pk_mul 9 k
theorem q_ix (k w : Nat) : (9 : Int32) * nI k + nI w = nI (9 * k + w) := by rw [q_i0, nI_add]
theorem q_i1 (k : Nat) : (9 : Int32) * nI k + (1 : Int32) = nI (9 * k + 1) := q_ix k 1
theorem q_i2 (k : Nat) : (9 : Int32) * nI k + (2 : Int32) = nI (9 * k + 2) := q_ix k 2
theorem q_i3 (k : Nat) : (9 : Int32) * nI k + (3 : Int32) = nI (9 * k + 3) := q_ix k 3
theorem q_i4 (k : Nat) : (9 : Int32) * nI k + (4 : Int32) = nI (9 * k + 4) := q_ix k 4
theorem q_i5 (k : Nat) : (9 : Int32) * nI k + (5 : Int32) = nI (9 * k + 5) := q_ix k 5
theorem q_i6 (k : Nat) : (9 : Int32) * nI k + (6 : Int32) = nI (9 * k + 6) := q_ix k 6
theorem q_i7 (k : Nat) : (9 : Int32) * nI k + (7 : Int32) = nI (9 * k + 7) := q_ix k 7
theorem q_i8 (k : Nat) : (9 : Int32) * nI k + (8 : Int32) = nI (9 * k + 8) := q_ix k 8
theorem q_ge6 {o : Nat} (h : o < 6) : ¬ (6 : Int32) ≤ nI o := nI_ge (b := 6) h (by decide)
theorem q_lt5 {o : Nat} (h : o < 6) : ¬ (5 : Int32) < nI o := nI_nlt (b := o) (a := 5) (by omega) (by decide)
theorem q_t11 : ((11 : Int32)).toNatClampNeg = 11 := by decide
theorem q_n1 : (-1 : Int32) < 0 := by decide
/-- the law's numbers of the orders, the accounts, the drum: those of the class's state; the end apart -/
def QO (g v : z_R) : Prop := v 0 0 = g 0 0 ∧ v 0 1 = g 0 2 ∧ (∀ a, a < 4 → v 0 (3 + a) = g 10 a ∧ v 0 (7 + a) = g 11 a) ∧ (∀ o w, o < 6 → w < 9 → v 1 (9 * o + w) = g (w + 1) o)
/-- where the orders lead to -/
def QN (g : z_R) : Prop := ∀ o, o < 6 → g 3 o = -1 ∨ ∃ k, k < 8 ∧ g 3 o = nI k
/-- the jumps, at most c times each -/
def QJ (c : Nat) (g v : z_R) : Prop := v 0 11 = g 0 4 ∧ ∃ J, J ≤ 256 ∧ g 0 4 = nI J ∧ (∀ i, i < J → ∃ x y k, x < 6 ∧ y < 8 ∧ 1 ≤ k ∧ k ≤ c ∧ g 13 i = nI x ∧ g 14 i = nI y ∧ g 15 i = nI k ∧ v 2 (8 * x + y) = nI k) ∧ (∀ i k, i < k → k < J → ¬ (g 13 i = g 13 k ∧ g 14 i = g 14 k)) ∧ (∀ x y, x < 6 → y < 8 → (∀ i, i < J → ¬ (g 13 i = nI x ∧ g 14 i = nI y)) → v 2 (8 * x + y) = 0)
section Q1
variable {E : Nat → Prop} {N n P T J : Nat} {g v : z_R} {s : Nat → Int32}
theorem QO.eP (h : QO g v) : v 0 0 = g 0 0 := h.1
theorem QO.eT (h : QO g v) : v 0 1 = g 0 2 := h.2.1
theorem QO.pd (h : QO g v) {a : Nat} (ha : a < 4) : v 0 (3 + a) = g 10 a := (h.2.2.1 a ha).1
theorem QO.rf (h : QO g v) {a : Nat} (ha : a < 4) : v 0 (7 + a) = g 11 a := (h.2.2.1 a ha).2
theorem QO.or (h : QO g v) {o : Nat} (w : Nat) (ho : o < 6) (hw : w < 9) : v 1 (9 * o + w) = g (w + 1) o := h.2.2.2 o w ho hw
theorem QO.o0 (h : QO g v) {o : Nat} (ho : o < 6) : v 1 (9 * o) = g 1 o := h.or 0 ho (by decide)
/-- one number of an order is put, on both sides -/
theorem QO.set (h : QO g v) {o w : Nat} (x : Int32) (ho : o < 6) (hw : w < 9) : QO (z_u2 g (w + 1) o x) (z_u2 v 1 (9 * o + w) x) := by
  refine ⟨?_, ?_, fun a ha => ⟨?_, ?_⟩, fun q u hq hu => ?_⟩
  · rw [m_u2n _ _ _ (by decide), m_u2n _ _ _ (by omega)]; exact h.eP
  · rw [m_u2n _ _ _ (by decide), m_u2n _ _ _ (by omega)]; exact h.eT
  · rw [m_u2n _ _ _ (by decide), m_u2n _ _ _ (by omega)]; exact h.pd ha
  · rw [m_u2n _ _ _ (by decide), m_u2n _ _ _ (by omega)]; exact h.rf ha
  · rw [m_u2s]
    by_cases c : q = o ∧ u = w
    · obtain ⟨c1, c2⟩ := c
      subst c1 c2
      rw [m_us, m_u2s, m_us]
    · rw [m_un _ _ (show 9 * q + u ≠ 9 * o + w by omega), h.or u hq hu]
      by_cases cw : u = w
      · subst cw
        have cq : q ≠ o := fun e => c ⟨e, rfl⟩
        rw [m_u2s, m_un _ _ cq]
      · rw [m_u2n _ _ _ (show u + 1 ≠ w + 1 by omega)]
/-- the tick moves -/
theorem QO.tk (h : QO g v) (x : Int32) : QO (z_u2 g 0 2 x) (z_u2 v 0 1 x) := by
  refine ⟨?_, ?_, fun a ha => ⟨?_, ?_⟩, fun q u hq hu => ?_⟩
  · rw [m_u2s, m_un _ _ (by decide), m_u2s, m_un _ _ (by decide)]; exact h.eP
  · rw [m_u2s, m_us, m_u2s, m_us]
  · rw [m_u2s, m_un _ _ (by omega), m_u2n _ _ _ (by decide)]; exact h.pd ha
  · rw [m_u2s, m_un _ _ (by omega), m_u2n _ _ _ (by decide)]; exact h.rf ha
  · rw [m_u2n _ _ _ (by decide), m_u2n _ _ _ (by omega)]; exact h.or u hq hu
/-- the class's end, and what of the law's row is not spoken of -/
theorem QO.en (h : QO g v) (x : Int32) : QO (z_u2 g 0 3 x) v := by
  refine ⟨?_, ?_, fun a ha => ⟨?_, ?_⟩, fun q u hq hu => ?_⟩
  · rw [m_u2s, m_un _ _ (by decide)]; exact h.eP
  · rw [m_u2s, m_un _ _ (by decide)]; exact h.eT
  · rw [m_u2n _ _ _ (by decide)]; exact h.pd ha
  · rw [m_u2n _ _ _ (by decide)]; exact h.rf ha
  · rw [m_u2n _ _ _ (by omega)]; exact h.or u hq hu
theorem QO.q2 (h : QO g v) {k : Nat} (hk : k = 2 ∨ k = 11) (x : Int32) : QO g (z_u2 v 0 k x) := by
  refine ⟨?_, ?_, fun a ha => ⟨?_, ?_⟩, fun q u hq hu => ?_⟩
  · rw [m_u2s, m_un _ _ (by omega)]; exact h.eP
  · rw [m_u2s, m_un _ _ (by omega)]; exact h.eT
  · rw [m_u2s, m_un _ _ (by omega)]; exact h.pd ha
  · rw [m_u2s, m_un _ _ (by omega)]; exact h.rf ha
  · rw [m_u2n _ _ _ (by decide)]; exact h.or u hq hu
theorem QO.j (h : QO g v) (k : Nat) (x : Int32) : QO g (z_u2 v 2 k x) := by
  refine ⟨?_, ?_, fun a ha => ⟨?_, ?_⟩, fun q u hq hu => ?_⟩
  · rw [m_u2n _ _ _ (by decide)]; exact h.eP
  · rw [m_u2n _ _ _ (by decide)]; exact h.eT
  · rw [m_u2n _ _ _ (by decide)]; exact h.pd ha
  · rw [m_u2n _ _ _ (by decide)]; exact h.rf ha
  · rw [m_u2n _ _ _ (by decide)]; exact h.or u hq hu
/-- what the class's jumps hold is not spoken of -/
theorem QO.gj {g' : z_R} (h : QO g v) (h0 : ∀ k, k ≠ 4 → g' 0 k = g 0 k) (hr : ∀ r, 1 ≤ r → r ≤ 12 → g' r = g r) : QO g' v := by
  refine ⟨?_, ?_, fun a ha => ⟨?_, ?_⟩, fun q u hq hu => ?_⟩
  · rw [h0 0 (by decide)]; exact h.eP
  · rw [h0 2 (by decide)]; exact h.eT
  · rw [hr 10 (by decide) (by decide)]; exact h.pd ha
  · rw [hr 11 (by decide) (by decide)]; exact h.rf ha
  · rw [hr (u + 1) (by omega) (by omega)]; exact h.or u hq hu
/-- the accounts: paid, refunded -/
theorem QO.pay (h : QO g v) {a : Nat} (ha : a < 4) (x : Int32) : QO (z_u2 g 10 a x) (z_u2 v 0 (3 + a) x) := by
  refine ⟨?_, ?_, fun b hb => ⟨?_, ?_⟩, fun q u hq hu => ?_⟩
  · rw [m_u2s, m_un _ _ (by omega), m_u2n _ _ _ (by decide)]; exact h.eP
  · rw [m_u2s, m_un _ _ (by omega), m_u2n _ _ _ (by decide)]; exact h.eT
  · rw [m_u2s, m_u2s]
    by_cases c : b = a
    · subst c; rw [m_us, m_us]
    · rw [m_un _ _ (show 3 + b ≠ 3 + a by omega), m_un _ _ c]; exact h.pd hb
  · rw [m_u2s, m_un _ _ (by omega), m_u2n _ _ _ (by decide)]; exact h.rf hb
  · rw [m_u2n _ _ _ (by decide), m_u2n _ _ _ (by omega)]; exact h.or u hq hu
theorem QO.ref (h : QO g v) {a : Nat} (ha : a < 4) (x : Int32) : QO (z_u2 g 11 a x) (z_u2 v 0 (7 + a) x) := by
  refine ⟨?_, ?_, fun b hb => ⟨?_, ?_⟩, fun q u hq hu => ?_⟩
  · rw [m_u2s, m_un _ _ (by omega), m_u2n _ _ _ (by decide)]; exact h.eP
  · rw [m_u2s, m_un _ _ (by omega), m_u2n _ _ _ (by decide)]; exact h.eT
  · rw [m_u2s, m_un _ _ (by omega), m_u2n _ _ _ (by decide)]; exact h.pd hb
  · rw [m_u2s, m_u2s]
    by_cases c : b = a
    · subst c; rw [m_us, m_us]
    · rw [m_un _ _ (show 7 + b ≠ 7 + a by omega), m_un _ _ c]; exact h.rf hb
  · rw [m_u2n _ _ _ (by decide), m_u2n _ _ _ (by omega)]; exact h.or u hq hu
/-- a refund: the law's, and the class's -/
theorem q_refund (h : QO g v) {o a : Nat} (ho : o < 6) (ha : g 1 o = nI a) (ha4 : a < 4) : ∃ v', fL_refund N (nI o) v = some v' ∧ QO (z_u2 (z_u2 g 11 a (g 11 a + g 8 o)) 8 o 0) v' ∧ v' 2 = v 2 ∧ v' 0 11 = v 0 11 ∧ v' 0 2 = v 0 2 := by
  have h1 := (h.ref ha4 (g 11 a + g 8 o)).set (o := o) (w := 7) 0 ho (by decide)
  refine ⟨z_u2 (z_u2 v 0 (7 + a) (g 11 a + g 8 o)) 1 (9 * o + 7) 0, ?_, h1, ?_, ?_, ?_⟩
  · unfold fL_refund
    rw [q_i7, q_i0, m_in (show 9 * o < 54 by omega) (by decide), m_ckt, m_clamp (by omega), h.o0 ho, ha, show (7 : Int32) + nI a = nI (7 + a) from nI_add 7 a, m_in (show 7 + a < 12 by omega) (by decide), m_ckt, m_in (show 9 * o + 7 < 54 by omega) (by decide), m_ckt, m_ckt, m_clamp (show 7 + a < 2 ^ 31 by omega), m_clamp (show 9 * o + 7 < 2 ^ 31 by omega), h.rf ha4, h.or 7 ho (by decide), m_lt, m_ckt, m_lt]
  · rw [m_u2n _ _ _ (by decide), m_u2n _ _ _ (by decide)]
  · rw [m_u2n _ _ _ (by decide), m_u2s, m_un _ _ (by omega)]
  · rw [m_u2n _ _ _ (by decide), m_u2s, m_un _ _ (by omega)]
/-- which order stands on a place: the same walk on both sides -/
theorem q_atL (h : QO g v) (hn : g 0 1 = nI 6) (p : Int32) : ∀ (k i fu fv : Nat), i + k = 6 → k < fu → k < fv → lL_at_2 N p v fu (nI i) = lX2_orderOn_2 N p g fv (nI i) := by
  intro k
  induction k with
  | zero =>
    intro i fu fv hi hfu hfv
    obtain ⟨fu, rfl⟩ : ∃ q, fu = q + 1 := ⟨fu - 1, by omega⟩
    obtain ⟨fv, rfl⟩ : ∃ q, fv = q + 1 := ⟨fv - 1, by omega⟩
    have e : i = 6 := by omega
    subst e
    rw [lL_at_2.eq_2, if_pos (show (6 : Int32) ≤ nI 6 by decide), lX2_orderOn_2.eq_2, if_neg (m_ge16 (by omega)), m_hasN hn (Or.inr (nI_le (Nat.le_refl 6) (by omega))), m_bind, if_pos m_00]
  | succ k ih =>
    intro i fu fv hi hfu hfv
    obtain ⟨fu, rfl⟩ : ∃ q, fu = q + 1 := ⟨fu - 1, by omega⟩
    obtain ⟨fv, rfl⟩ : ∃ q, fv = q + 1 := ⟨fv - 1, by omega⟩
    rw [lL_at_2.eq_2, if_neg (q_ge6 (by omega)), q_i5, m_in (by omega) (by decide), m_ckt, m_clamp (by omega), h.or 5 (by omega) (by decide), lX2_orderOn_2.eq_2, if_neg (m_ge16 (by omega)), m_hasY hn (by decide) (by omega), m_bind, if_neg m_1_0, m_in (by omega) (by decide), m_ckt, m_clamp (by omega), nI_1]
    by_cases c : g 6 i = p
    · rw [if_pos c, if_pos c]
    · rw [if_neg c, if_neg c]
      exact ih (i + 1) fu fv (by omega) (by omega) (by omega)
theorem q_at (h : QO g v) (hn : g 0 1 = nI 6) (hN : 17 ≤ N) (p : Int32) : fL_at N p v = fX2_orderOn N p g := q_atL h hn p 6 0 N N (by omega) (by omega) (by omega)
end Q1
