/-! chain -/
section MR31
variable {N B : Nat} {X : z_X} {m : z_R}
theorem m_sumB {f : Nat → Bool} {r : Nat → Int32} : ∀ n, (∀ q, q < n → r q = if f q = true then 1 else 0) → m_sum r n = nI (m_bc f n) := by
  intro n
  induction n with
  | zero => intro _; rfl
  | succ n ih =>
    intro h
    show m_sum r n + r n = nI (m_bc f n + (if f n = true then 1 else 0))
    rw [ih fun q hq => h q (by omega), h n (by omega), ← nI_add]
    by_cases c : f n = true
    · rw [if_pos c, if_pos c]; rfl
    · rw [if_neg c, if_neg c]; rfl
/-- both sides go along the chain -/
theorem m_goL {n P T J : Nat} {g : z_R} {s : Nat → Int32} (h : RS m_Al n P T J g s) (hm : m 1 = s) : ∀ (d u L fu fv : Nat) (x : Int32) (r : Nat → Int32), L + d = 16 → d < fu → d < fv → u < 2 ^ 16 → m_bc u.testBit 16 = L → (∀ q, q < 16 → r q = if u.testBit q = true then 1 else 0) → ∃ L' u' x' r', lX2_chainLength_7 N g fu (nI u) (nI L) x = some (nI L') ∧ (∀ kk, lX5_goAlong_23 N kk fv x (z_uR m 9 r) = kk x' (z_uR m 9 r')) ∧ u' < 2 ^ 16 ∧ m_bc u'.testBit 16 = L' ∧ (∀ q, q < 16 → r' q = if u'.testBit q = true then 1 else 0) := by
  have h16 := h.n16
  have hs1 : ∀ r, (z_uR m 9 r) 1 2 = nI n := fun r => by rw [m_other _ _ (by decide), hm]; exact h.sn
  intro d
  induction d with
  | zero =>
    intro u L fu fv x r hL hfu hfv hu hb hr
    obtain ⟨fu, rfl⟩ : ∃ q, fu = q + 1 := ⟨fu - 1, by omega⟩
    obtain ⟨fv, rfl⟩ : ∃ q, fv = q + 1 := ⟨fv - 1, by omega⟩
    have e : L = 16 := by omega
    subst e
    refine ⟨16, u, x, r, by rw [lX2_chainLength_7.eq_2, if_pos (by decide)], fun kk => ?_, hu, hb, hr⟩
    rw [lX5_goAlong_23.eq_2]
    rcases m_cs x (n := n) (by omega) with ⟨o, ho, rfl⟩ | ⟨hx, -⟩
    · rw [m_ioY (hs1 r) h16 ho, m_bind, if_neg m_1_0, m_in (by omega) (by decide), m_ckt, m_clamp (by omega), m_same, hr o (by omega), if_pos (m_bc_all _ 16 hb o (by omega)), if_neg m_1_0]
    · rw [m_ioN (hs1 r) h16 hx, m_bind, if_pos m_00]
  | succ d ih =>
    intro u L fu fv x r hL hfu hfv hu hb hr
    obtain ⟨fu, rfl⟩ : ∃ q, fu = q + 1 := ⟨fu - 1, by omega⟩
    obtain ⟨fv, rfl⟩ : ∃ q, fv = q + 1 := ⟨fv - 1, by omega⟩
    rcases m_cs x (n := n) (by omega) with ⟨o, ho, rfl⟩ | ⟨hx, -⟩
    · by_cases c : u.testBit o = true
      · have cb : ¬ ((nI u >>> (nI o &&& (31 : Int32))) &&& (1 : Int32)) = 0 := fun q => by
          have := (m_bit hu (by omega)).mp q
          rw [c] at this
          cases this
        refine ⟨L, u, nI o, r, ?_, fun kk => ?_, hu, hb, hr⟩
        · rw [lX2_chainLength_7.eq_2, if_neg (m_ge16 (by omega)), m_hasY h.gn h16 ho, m_bind, if_neg m_1_0, if_neg cb]
        · rw [lX5_goAlong_23.eq_2, m_ioY (hs1 r) h16 ho, m_bind, if_neg m_1_0, m_in (by omega) (by decide), m_ckt, m_clamp (by omega), m_same, hr o (by omega), if_pos c, if_neg m_1_0]
      · have c0 : u.testBit o = false := by
          cases hh : u.testBit o with
          | true => exact absurd hh c
          | false => rfl
        have cb := (m_bit hu (show o < 16 by omega)).mpr c0
        have hu2 : u ||| 2 ^ o < 2 ^ 16 := Nat.or_lt_two_pow hu (Nat.pow_lt_pow_right (by decide) (by omega))
        have hb2 : m_bc (u ||| 2 ^ o).testBit 16 = L + 1 := by
          rw [(m_bc_set (f := u.testBit) (g := (u ||| 2 ^ o).testBit) (o := o) c0 (fun q => m_tb) 16).1 (by omega), hb]
        obtain ⟨L', u', x', r', p1, p2, p3, p4, p5⟩ := ih (u ||| 2 ^ o) (L + 1) fu fv (g 3 o) (upd r o 1) (by omega) (by omega) (by omega) hu2 hb2 (fun q hq => by
          rw [m_tb]
          by_cases e : q = o
          · subst e; rw [m_us]; simp
          · rw [m_un _ _ e, hr q hq]
            have e2 : ¬ o = q := fun z => e z.symm
            simp [e2])
        refine ⟨L', u', x', r', ?_, fun kk => ?_, p3, p4, p5⟩
        · rw [lX2_chainLength_7.eq_2, if_neg (m_ge16 (by omega)), m_hasY h.gn h16 ho, m_bind, if_neg m_1_0, if_pos cb, m_in (by omega) (by decide), m_ckt, m_clamp (by omega), m_set hu (by omega), nI_1]
          exact p1
        · rw [lX5_goAlong_23.eq_2, m_ioY (hs1 r) h16 ho, m_bind, if_neg m_1_0, m_in (by omega) (by decide), m_ckt, m_clamp (by omega), m_same, hr o (by omega), if_neg c, if_pos m_00, m_ckt, m_uRR, m_lt, m_part (p := 2) (k := 2) (r := 3) rfl rfl (by omega) (by decide), m_bind, m_other _ _ (by decide : (1 : Nat) ≠ 9), hm, h.or ho (by decide) (by decide) trivial]
          exact p2 kk
    · refine ⟨L, u, x, r, ?_, fun kk => ?_, hu, hb, hr⟩
      · rw [lX2_chainLength_7.eq_2, if_neg (m_ge16 (by omega)), m_hasN h.gn hx, m_bind, if_pos m_00]
      · rw [lX5_goAlong_23.eq_2, m_ioN (hs1 r) h16 hx, m_bind, if_pos m_00]
def m_zr (u : Nat → Int32) (i : Nat) : Nat → Int32 := fun j => if j < i then 0 else u j
theorem m_go2 (u : Nat → Int32) (x : Int32) : ∀ (k i fu : Nat), i + k = 16 → k < fu → lX5_goAlong_2 N x fu (nI i) (z_uR m 9 (m_zr u i)) = lX5_goAlong_23 N (fun x2_23 g23_9 => (fX5_isOrder N x2_23 g23_9).bind fun r10 => (if r10 = 0 then some ((-1 : Int32), g23_9) else some (x2_23, g23_9))) N x (z_uR m 9 (m_zr u 16)) := by
  intro k
  induction k with
  | zero =>
    intro i fu hi hfu
    obtain ⟨fu, rfl⟩ : ∃ q, fu = q + 1 := ⟨fu - 1, by omega⟩
    have e : i = 16 := by omega
    subst e
    rw [lX5_goAlong_2.eq_2, if_pos (by decide)]
  | succ k ih =>
    intro i fu hi hfu
    obtain ⟨fu, rfl⟩ : ∃ q, fu = q + 1 := ⟨fu - 1, by omega⟩
    rw [← ih (i + 1) fu (by omega) (by omega), lX5_goAlong_2.eq_2, if_neg (m_ge16 (by omega)), m_in (by omega) (by decide), m_ckt, m_clamp (by omega), m_uRR, m_lt, nI_1]
    congr 2
    funext j
    by_cases c : j = i
    · subst c
      rw [m_us]
      unfold m_zr
      rw [if_pos (by omega)]
    · rw [m_un _ _ c]
      unfold m_zr
      by_cases c2 : j < i
      · rw [if_pos c2, if_pos (by omega)]
      · rw [if_neg c2, if_neg (by omega)]
theorem m_ch36 (r : Nat → Int32) : ∀ (k i fu : Nat), i + k = 16 → k < fu → lX5_chain_36 N (z_uR m 9 r) fu (m_sum r i) (nI i) = some (m_sum r 16, z_uR m 9 r) := by
  intro k
  induction k with
  | zero =>
    intro i fu hi hfu
    obtain ⟨fu, rfl⟩ : ∃ q, fu = q + 1 := ⟨fu - 1, by omega⟩
    have e : i = 16 := by omega
    subst e
    rw [lX5_chain_36.eq_2, if_pos (by decide)]
  | succ k ih =>
    intro i fu hi hfu
    obtain ⟨fu, rfl⟩ : ∃ q, fu = q + 1 := ⟨fu - 1, by omega⟩
    rw [lX5_chain_36.eq_2, if_neg (m_ge16 (by omega)), m_in (by omega) (by decide), m_ckt, m_clamp (by omega), m_same, nI_1]
    exact ih (i + 1) fu (by omega) (by omega)
theorem c_chain (h : RG B X m) (hN : 13000 ≤ N) (x : Int32) : ∃ o X' b m', fX4_chain N x X = some (o, X') ∧ fX5_chain N x m = some (b, m') ∧ RG (B + 5000) X' m' ∧ ((o = .inl b ∧ m' 0 0 = 0) ∨ (o = .inr 3 ∧ m' 0 0 = 1)) := by
  obtain ⟨ht, ⟨n, P, T, J, hrs, hT⟩, hme, hsl⟩ := id h
  have h16 := hrs.n16
  unfold fX4_chain fX5_chain
  rcases m_cs x (n := n) (by omega) with ⟨o, ho, e⟩ | ⟨hx, -⟩
  · obtain ⟨L', u', x', r', p1, p2, p3, p4, p5⟩ := m_goL (N := N) (m := z_u2 m 0 0 0) hrs (m_kd1 m 0 (by decide)) 16 0 0 N N x (m_zr (m 9) 16) (by decide) (by omega) (by omega) (by decide) (by decide) (fun q hq => by
      rw [Nat.zero_testBit]
      exact if_pos hq)
    have e9 : z_u2 m 0 0 0 = z_uR (z_u2 m 0 0 0) 9 (m_zr (m 9) 0) := by
      have e0 : m_zr (m 9) 0 = z_u2 m 0 0 0 9 := by
        rw [m_kd1 m 0 (by decide)]
        funext j
        exact if_neg (Nat.not_lt_zero j)
      rw [e0, m_self]
    have g2 : fX5_goAlong N x (z_u2 m 0 0 0) = (fX5_isOrder N x' (z_uR (z_u2 m 0 0 0) 9 r')).bind fun r10 => (if r10 = 0 then some ((-1 : Int32), z_uR (z_u2 m 0 0 0) 9 r') else some (x', z_uR (z_u2 m 0 0 0) 9 r')) := by
      unfold fX5_goAlong
      have q := m_go2 (N := N) (m := z_u2 m 0 0 0) (m 9) x 16 0 N (by decide) (by omega)
      rw [← e9] at q
      rw [show lX5_goAlong_2 N x N 0 (z_u2 m 0 0 0) = _ from q, p2]
    have hs1 : (z_uR (z_u2 m 0 0 0) 9 r') 1 2 = nI n := by rw [m_other _ _ (by decide), m_kd1 m 0 (by decide)]; exact hrs.sn
    obtain ⟨xx, g3⟩ : ∃ xx, fX5_goAlong N x (z_u2 m 0 0 0) = some (xx, z_uR (z_u2 m 0 0 0) 9 r') := by
      rw [g2]
      rcases m_cs x' (n := n) (by omega) with ⟨w, hw, rfl⟩ | ⟨hx', -⟩
      · exact ⟨nI w, by rw [m_ioY hs1 h16 hw, m_bind, if_neg m_1_0]⟩
      · exact ⟨-1, by rw [m_ioN hs1 h16 hx', m_bind, if_pos m_00]⟩
    have es : m_sum r' 16 = nI L' := by rw [m_sumB (f := u'.testBit) 16 p5, p4]
    refine ⟨.inl (nI L'), X, nI L', z_uR (z_u2 m 0 0 0) 9 r', ?_, ?_, ?_, Or.inl ⟨rfl, ?_⟩⟩
    · rw [e, m_hasY hrs.gn h16 ho, m_bind, if_neg m_1_0, ← e]
      unfold fX2_chainLength
      rw [show lX2_chainLength_7 N (X.2.2 0) N 0 0 x = _ from p1, m_bind]
    · rw [e, m_ioY hrs.sn h16 ho, m_bind, if_neg m_1_0, m_lt, m_kd, if_pos m_z0, ← e, g3, m_b2, ← es]
      exact m_ch36 (N := N) (m := z_u2 m 0 0 0) r' 16 0 N (by decide) (by omega)
    · refine RG.mono ((h.kd 0).fr rfl rfl (fun _ _ => rfl) ⟨?_, ?_, ?_, ?_, ?_⟩ ⟨?_, ?_⟩) (by omega) <;> rw [m_other _ _ (by decide)]
    · rw [m_other _ _ (by decide), m_kd]
  · refine ⟨.inr 3, X, 0, z_u2 m 0 0 1, ?_, ?_, (h.kd 1).mono (by omega), Or.inr ⟨rfl, m_kd m 1⟩⟩
    · rw [m_hasN hrs.gn hx, m_bind, if_pos m_00]
    · rw [m_ioN hrs.sn h16 hx, m_bind, if_pos m_00, m_lt, m_kd, if_neg m_n1]
end MR31
