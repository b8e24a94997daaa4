/-! counts and sums: both sides -/
section MR10
variable {E : Nat → Prop} {N n P T J : Nat} {g m : z_R} {s : Nat → Int32}
def m_sum (f : Nat → Int32) : Nat → Int32
  | 0 => 0
  | n + 1 => m_sum f n + f n
theorem m_sumE {f h : Nat → Int32} : ∀ n, (∀ i, i < n → f i = h i) → m_sum f n = m_sum h n := by
  intro n
  induction n with
  | zero => intro _; rfl
  | succ n ih =>
    intro hh
    show m_sum f n + f n = m_sum h n + h n
    rw [ih fun i hi => hh i (by omega), hh n (by omega)]
theorem m_sum0 {f : Nat → Int32} {a : Nat} : ∀ k, (∀ i, a ≤ i → i < a + k → f i = 0) → m_sum f (a + k) = m_sum f a := by
  intro k
  induction k with
  | zero => intro _; rfl
  | succ k ih =>
    intro hh
    show m_sum f (a + k) + f (a + k) = m_sum f a
    rw [ih fun i h1 h2 => hh i h1 (by omega), hh (a + k) (by omega) (by omega), Int32.add_zero]
theorem m_sumL {ln : Nat} (hl : ln < 2 ^ 31) (f : Nat → Int32) : ∀ (k i fu : Nat), i + k = ln → k < fu → lX4_sum_4 N ln f fu (m_sum f i) (nI i) = some (m_sum f ln) := by
  intro k
  induction k with
  | zero =>
    intro i fu hi hfu
    obtain ⟨fu, rfl⟩ : ∃ q, fu = q + 1 := ⟨fu - 1, by omega⟩
    have e : i = ln := by omega
    subst e
    rw [lX4_sum_4.eq_2, show (Int32.ofNat i) = nI i from rfl, if_pos (nI_le (Nat.le_refl i) hl)]
  | succ k ih =>
    intro i fu hi hfu
    obtain ⟨fu, rfl⟩ : ∃ q, fu = q + 1 := ⟨fu - 1, by omega⟩
    rw [lX4_sum_4.eq_2, show (Int32.ofNat ln) = nI ln from rfl, if_neg (nI_ge (by omega) hl), m_in (by omega) hl, m_ckt, m_clamp (by omega), nI_1]
    exact ih (i + 1) fu (by omega) (by omega)
theorem m_sumC {ln : Nat} (hl : ln < N) (hN : N < 2 ^ 31) (f : Nat → Int32) : fX4_sum N ln f = some (m_sum f ln) := m_sumL (by omega) f ln 0 N (by omega) hl
theorem m_raL (hm : m 1 = s) : ∀ (k i fu : Nat), i + k = 4 → k < fu → lX5_refundedAll_4 N m fu (m_sum (fun a => s (9 + a)) i) (nI i) = some (m_sum (fun a => s (9 + a)) 4) := by
  intro k
  induction k with
  | zero =>
    intro i fu hi hfu
    obtain ⟨fu, rfl⟩ : ∃ q, fu = q + 1 := ⟨fu - 1, by omega⟩
    have e : i = 4 := by omega
    subst e
    rw [lX5_refundedAll_4.eq_2, if_pos (by decide)]
  | succ k ih =>
    intro i fu hi hfu
    obtain ⟨fu, rfl⟩ : ∃ q, fu = q + 1 := ⟨fu - 1, by omega⟩
    rw [lX5_refundedAll_4.eq_2, if_neg (m_ge4 (by omega)), show (9 : Int32) + nI i = nI (9 + i) from nI_add 9 i, m_in (by omega) (by decide), m_ckt, m_clamp (by omega), hm, nI_1]
    exact ih (i + 1) fu (by omega) (by omega)
theorem m_refundedAll (h : RS E n P T J g s) (hE : E 11) (hN : 17 ≤ N) (hN2 : N < 2 ^ 31) : fX4_sum N 4 (g 11) = some (m_sum (g 11) 4) ∧ fX5_refundedAll N (z_uR m 1 s) = some (m_sum (g 11) 4) := by
  refine ⟨m_sumC (by omega) hN2 _, ?_⟩
  have e : m_sum (g 11) 4 = m_sum (fun a => s (9 + a)) 4 := m_sumE 4 fun i hi => (h.rf hi hE).symm
  rw [e]
  exact m_raL (m_same m 1 s) 4 0 N (by omega) (by omega)
theorem m_0n (x : Int32) : (0 : Int32) + x = x := Int32.zero_add x
/-- the class's count of orders on the drum -/
theorem m_ldL (h : RS E n P T J g s) : ∀ (k i fu : Nat), i + k = n → k < fu → lX2_laidOrders_4 N g fu (m_sum (fun o => if g 6 o = -1 then 0 else 1) i) (nI i) = some (m_sum (fun o => if g 6 o = -1 then 0 else 1) n) := by
  have h16 := h.n16
  intro k
  induction k with
  | zero =>
    intro i fu hi hfu
    obtain ⟨fu, rfl⟩ : ∃ q, fu = q + 1 := ⟨fu - 1, by omega⟩
    have e : i = n := by omega
    subst e
    rw [lX2_laidOrders_4.eq_2]
    by_cases c : (16 : Int32) ≤ nI i
    · rw [if_pos c]
    · rw [if_neg c, m_hasN h.gn (Or.inr (nI_le (by omega) (by omega))), m_bind, if_pos m_00]
  | succ k ih =>
    intro i fu hi hfu
    obtain ⟨fu, rfl⟩ : ∃ q, fu = q + 1 := ⟨fu - 1, by omega⟩
    have q := ih (i + 1) fu (by omega) (by omega)
    rw [show m_sum (fun o => if g 6 o = -1 then 0 else 1) (i + 1) = m_sum (fun o => if g 6 o = -1 then 0 else 1) i + (if g 6 i = -1 then 0 else 1) from rfl] at q
    rw [lX2_laidOrders_4.eq_2, if_neg (m_ge16 (by omega)), m_hasY h.gn h16 (by omega), m_bind, if_neg m_1_0, m_in (by omega) (by decide), m_ckt, m_clamp (by omega), nI_1]
    by_cases c : g 6 i = -1
    · rw [if_pos c]
      rw [if_pos c, Int32.add_zero] at q
      exact q
    · rw [if_neg c]
      rw [if_neg c] at q
      exact q
theorem m_ooL (h : RS E n P T J g s) (x : Int32) : ∀ (k i fu : Nat), i + k = n → k < fu → lX2_ordersOf_4 N x g fu (m_sum (fun o => if g 1 o = x then 1 else 0) i) (nI i) = some (m_sum (fun o => if g 1 o = x then 1 else 0) n) := by
  have h16 := h.n16
  intro k
  induction k with
  | zero =>
    intro i fu hi hfu
    obtain ⟨fu, rfl⟩ : ∃ q, fu = q + 1 := ⟨fu - 1, by omega⟩
    have e : i = n := by omega
    subst e
    rw [lX2_ordersOf_4.eq_2]
    by_cases c : (16 : Int32) ≤ nI i
    · rw [if_pos c]
    · rw [if_neg c, m_hasN h.gn (Or.inr (nI_le (by omega) (by omega))), m_bind, if_pos m_00]
  | succ k ih =>
    intro i fu hi hfu
    obtain ⟨fu, rfl⟩ : ∃ q, fu = q + 1 := ⟨fu - 1, by omega⟩
    have q := ih (i + 1) fu (by omega) (by omega)
    rw [show m_sum (fun o => if g 1 o = x then 1 else 0) (i + 1) = m_sum (fun o => if g 1 o = x then 1 else 0) i + (if g 1 i = x then 1 else 0) from rfl] at q
    rw [lX2_ordersOf_4.eq_2, if_neg (m_ge16 (by omega)), m_hasY h.gn h16 (by omega), m_bind, if_neg m_1_0, m_in (by omega) (by decide), m_ckt, m_clamp (by omega), nI_1]
    by_cases c : g 1 i = x
    · rw [if_pos c]
      rw [if_pos c] at q
      exact q
    · rw [if_neg c]
      rw [if_neg c, Int32.add_zero] at q
      exact q
end MR10
