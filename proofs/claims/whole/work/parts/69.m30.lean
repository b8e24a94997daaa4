/-! the bits of the orders met -/
theorem m_or {a b : Nat} (ha : a < 2 ^ 16) (hb : b < 2 ^ 16) : nI a ||| nI b = nI (a ||| b) := by
  have hab : a ||| b < 2 ^ 16 := Nat.or_lt_two_pow ha hb
  apply Int32.toBitVec_inj.mp
  apply BitVec.eq_of_toNat_eq
  show ((nI a).toBitVec ||| (nI b).toBitVec).toNat = _
  rw [BitVec.toNat_or, pk_tn (by omega), pk_tn (by omega), pk_tn (by omega)]
theorem m_sm : ∀ o, o < 16 → ((nI o).toBitVec.smod 32).toNat = o := by decide +kernel
theorem m_a31 {o : Nat} (ho : o < 16) : nI o &&& (31 : Int32) = nI o := by
  rw [pk_andN (n := o) (by omega) 5 (m := 31) (by decide), Nat.mod_eq_of_lt (by omega)]
theorem m_bit {u o : Nat} (hu : u < 2 ^ 16) (ho : o < 16) : (((nI u >>> (nI o &&& (31 : Int32))) &&& (1 : Int32)) = 0) ↔ u.testBit o = false := by
  have h1 : u / 2 ^ o < 2 ^ 31 := Nat.lt_of_le_of_lt (Nat.div_le_self _ _) (by omega)
  rw [m_a31 ho, pk_shrN (by omega) (nI o) o (m_sm o ho), pk_andN (by omega) 1 (m := 1) (by decide), show (0 : Int32) = nI 0 from rfl, nI_eq (by omega) (by decide), Nat.testBit_eq_decide_div_mod_eq]
  have h2 : u / 2 ^ o % 2 ^ 1 = u / 2 ^ o % 2 := rfl
  have := Nat.mod_lt (u / 2 ^ o) (show 0 < 2 by decide)
  rw [h2, decide_eq_false_iff_not]
  omega
theorem m_set {u o : Nat} (hu : u < 2 ^ 16) (ho : o < 16) : nI u ||| ((1 : Int32) <<< (nI o &&& (31 : Int32))) = nI (u ||| 2 ^ o) := by
  have h1 : 2 ^ o < 2 ^ 16 := Nat.pow_lt_pow_right (by decide) ho
  rw [m_a31 ho, show (1 : Int32) = nI 1 from rfl, pk_shlN (nI o) o (m_sm o ho) (by omega), Nat.one_mul, m_or hu h1]
theorem m_tb {u o q : Nat} : (u ||| 2 ^ o).testBit q = (u.testBit q || decide (o = q)) := by
  rw [Nat.testBit_or, Nat.testBit_two_pow]
/-- how many of the first n bits are set -/
def m_bc (f : Nat → Bool) : Nat → Nat
  | 0 => 0
  | n + 1 => m_bc f n + (if f n = true then 1 else 0)
theorem m_bc_le (f : Nat → Bool) : ∀ n, m_bc f n ≤ n := by
  intro n
  induction n with
  | zero => exact Nat.le_refl 0
  | succ n ih =>
    show m_bc f n + (if f n = true then 1 else 0) ≤ n + 1
    split <;> omega
theorem m_bc_all (f : Nat → Bool) : ∀ n, m_bc f n = n → ∀ q, q < n → f q = true := by
  intro n
  induction n with
  | zero => intro _ q hq; omega
  | succ n ih =>
    intro h q hq
    have h1 : m_bc f n + (if f n = true then 1 else 0) = n + 1 := h
    have h2 := m_bc_le f n
    by_cases c : f n = true
    · rw [if_pos c] at h1
      by_cases e : q = n
      · subst e; exact c
      · exact ih (by omega) q (by omega)
    · rw [if_neg c] at h1; omega
theorem m_bc_set {f g : Nat → Bool} {o : Nat} (hf : f o = false) (hg : ∀ q, g q = (f q || decide (o = q))) : ∀ n, (o < n → m_bc g n = m_bc f n + 1) ∧ (n ≤ o → m_bc g n = m_bc f n) := by
  intro n
  induction n with
  | zero => exact ⟨fun h => by omega, fun _ => rfl⟩
  | succ n ih =>
    have e : m_bc g (n + 1) = m_bc g n + (if g n = true then 1 else 0) := rfl
    have e2 : m_bc f (n + 1) = m_bc f n + (if f n = true then 1 else 0) := rfl
    refine ⟨fun h => ?_, fun h => ?_⟩
    · by_cases c : o = n
      · subst c
        rw [e, e2, ih.2 (Nat.le_refl o), hg o, hf]
        simp
      · rw [e, e2, ih.1 (by omega), hg n]
        simp [c]
        omega
    · rw [e, e2, ih.2 (by omega), hg n]
      have c : ¬ o = n := by omega
      simp [c]
