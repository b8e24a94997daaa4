/-! evaluation: plain pieces of both sides -/
theorem m_ckt {α : Type} (x : Option α) : z_ck true x = x := rfl
theorem m_t0 : ((0 : Int32)).toNatClampNeg = 0 := by decide
theorem m_t1 : ((1 : Int32)).toNatClampNeg = 1 := by decide
theorem m_t2 : ((2 : Int32)).toNatClampNeg = 2 := by decide
theorem m_t3 : ((3 : Int32)).toNatClampNeg = 3 := by decide
theorem m_t4 : ((4 : Int32)).toNatClampNeg = 4 := by decide
theorem m_1_0 : ¬ (1 : Int32) = 0 := by decide
theorem m_00 : (0 : Int32) = 0 := rfl
theorem m_nN (k : Nat) (h : k < 2 ^ 31) : ¬ nI k = -1 := m_nI_ne h
theorem m_ge16 {o : Nat} (h : o < 16) : ¬ (16 : Int32) ≤ nI o := nI_ge (b := 16) h (by decide)
theorem m_ge4 {o : Nat} (h : o < 4) : ¬ (4 : Int32) ≤ nI o := nI_ge (b := 4) h (by decide)
theorem m_ge256 {o : Nat} (h : o < 256) : ¬ (256 : Int32) ≤ nI o := nI_ge (b := 256) h (by decide)
theorem m_nlt99 {o : Nat} (h : o ≤ 99) : ¬ (99 : Int32) < nI o := nI_nlt (b := o) (a := 99) h (by decide)
theorem m_lt0 {x : Int32} : x < 0 ↔ x.toInt < 0 := by
  rw [Int32.lt_iff_toInt_lt, show (0 : Int32).toInt = 0 from by decide]
theorem m_xorT {x y : Int32} : (x ^^^ y) < 0 ↔ ((x < 0) ≠ (y < 0)) := by
  have hm : ∀ z : Int32, (z < 0 ↔ z.toBitVec.msb = true) := fun z => by
    rw [m_lt0, BitVec.msb_eq_toInt, decide_eq_true_iff]
    rfl
  rw [hm, hm x, hm y, show (x ^^^ y).toBitVec = x.toBitVec ^^^ y.toBitVec from rfl, BitVec.msb_xor]
  cases x.toBitVec.msb <;> cases y.toBitVec.msb <;> simp
theorem m_le0 {x : Int32} : 0 ≤ x ↔ ¬ x < 0 := by
  rw [Int32.le_iff_toInt_le, Int32.lt_iff_toInt_lt, show (0 : Int32).toInt = 0 from by decide]
  omega
/-- the rest of a negative number -/
theorem m_remN {d P : Nat} (hd : d < 2 ^ 30) (h0 : 0 < P) (hP : P < 2 ^ 15) {x : Int32} (hx : x.toInt = -(d : Int)) : (x - x / nI P * nI P).toInt = -((d % P : Nat) : Int) := by
  have hPi : (nI P).toInt = (P : Int) := nI_toInt (by omega)
  have h1 : d / P ≤ d := Nat.div_le_self d P
  have h2 : d / P * P ≤ d := Nat.div_mul_le_self d P
  have h3 : d % P = d - d / P * P := by have := Nat.div_add_mod' d P; omega
  obtain ⟨y, hy⟩ : ∃ y, y = d / P := ⟨_, rfl⟩
  have e1 : (x / nI P).toInt = -(y : Int) := by
    rw [Int32.toInt_div, hx, hPi, Int.neg_tdiv, show (d : Int).tdiv (P : Int) = ((d / P : Nat) : Int) from rfl, ← hy]
    rw [← hy] at h1
    exact Int.bmod_eq_of_le (by omega) (by omega)
  obtain ⟨z, hz⟩ : ∃ z, z = d / P * P := ⟨_, rfl⟩
  have e2 : (x / nI P * nI P).toInt = -(z : Int) := by
    rw [← hz] at h2
    rw [Int32.toInt_mul, e1, hPi, Int.neg_mul, show (y : Int) * (P : Int) = ((y * P : Nat) : Int) from (Int.natCast_mul _ _).symm, hy, ← hz]
    exact Int.bmod_eq_of_le (by omega) (by omega)
  rw [← hz] at h2 h3
  rw [Int32.toInt_sub, hx, e2]
  rw [show -(d : Int) - -(z : Int) = -((d % P : Nat) : Int) by rw [h3]; omega]
  exact Int.bmod_eq_of_le (by omega) (by omega)
theorem m_fmP {N k P : Nat} (hk : k < 2 ^ 31) (h0 : 0 < P) (hP : P < 2 ^ 15) : fJ9_floorMod_7cf53 N (nI k) (nI P) = some (nI (k % P)) := by
  have h1 : (0 : Int32) ≤ (nI k ^^^ nI P) := by
    rw [m_le0, m_xorT]
    simp [m_neg hk, m_neg (show P < 2 ^ 31 by omega)]
  unfold fJ9_floorMod_7cf53
  rw [m_nz h0 (by omega), m_ckt, if_pos h1, pk_rem hk h0 (by omega)]
theorem m_modN {a b P : Nat} (h0 : 0 < P) (h : a < b) : (a + P - b % P) % P = if (b - a) % P = 0 then 0 else P - (b - a) % P := by
  have hb := Nat.div_add_mod b P
  have hd := Nat.div_add_mod (b - a) P
  have hr := Nat.mod_lt (b - a) h0
  have hv := Nat.mod_lt b h0
  have hq : (b - a) / P ≤ b / P := Nat.div_le_div_right (by omega)
  have hm : P * (b / P) = P * (b / P - (b - a) / P) + P * ((b - a) / P) := by rw [← Nat.mul_add]; congr 1; omega
  have e : a + P - b % P = P * (b / P - (b - a) / P) + (P - (b - a) % P) := by omega
  rw [e, Nat.mul_add_mod]
  by_cases hz : (b - a) % P = 0
  · rw [if_pos hz, hz, Nat.sub_zero, Nat.mod_self]
  · rw [if_neg hz, Nat.mod_eq_of_lt (by omega)]
theorem m_modP {a b P : Nat} (h0 : 0 < P) (h : b ≤ a) : (a + P - b % P) % P = (a - b) % P := by
  have hb := Nat.div_add_mod b P
  have hv := Nat.mod_lt b h0
  have e : a + P - b % P = (a - b) + P * (b / P + 1) := by rw [Nat.mul_add]; omega
  rw [e, Nat.add_mul_mod_self_left]
theorem m_fmD {N a b P : Nat} (ha : a < 2 ^ 30) (hb : b < 2 ^ 30) (h0 : 0 < P) (hP : P < 2 ^ 15) : fJ9_floorMod_7cf53 N (nI a - nI b) (nI P) = some (nI ((a + P - b % P) % P)) := by
  rcases Nat.lt_or_ge a b with h | h
  · have hx : (nI a - nI b).toInt = -((b - a : Nat) : Int) := by rw [pk_sub_toInt ha hb]; omega
    have hneg : nI a - nI b < 0 := pk_sneg hb h
    have h1 : ¬ (0 : Int32) ≤ ((nI a - nI b) ^^^ nI P) := by
      rw [m_le0, m_xorT]
      simp [hneg, m_neg (show P < 2 ^ 31 by omega)]
    have hr := m_remN (d := b - a) (by omega) h0 hP hx
    have hl := Nat.mod_lt (b - a) h0
    unfold fJ9_floorMod_7cf53
    rw [m_nz h0 (by omega), m_ckt, if_neg h1, m_modN h0 h]
    by_cases hz : (b - a) % P = 0
    · have e0 : (nI a - nI b) - (nI a - nI b) / nI P * nI P = 0 := by
        apply Int32.toInt_inj.mp
        rw [hr, hz]; decide
      rw [e0, if_pos rfl, if_pos hz]; rfl
    · have en : ¬ (nI a - nI b) - (nI a - nI b) / nI P * nI P = 0 := by
        intro e
        rw [e, show (0 : Int32).toInt = 0 from by decide] at hr
        omega
      rw [if_neg en, if_neg hz]
      congr 1
      apply Int32.toInt_inj.mp
      rw [Int32.toInt_add, hr, nI_toInt (by omega), nI_toInt (by omega)]
      rw [show -(((b - a) % P : Nat) : Int) + (P : Int) = ((P - (b - a) % P : Nat) : Int) by omega]
      exact Int.bmod_eq_of_le (by omega) (by omega)
  · rw [pk_sub h, m_fmP (by omega) h0 hP, m_modP h0 h]
section MEV
variable {N n P T J : Nat} {g m : z_R} {s : Nat → Int32}
theorem m_aroundP (hg : g 0 0 = nI P) (h0 : 0 < P) (hP : P < 2 ^ 15) {k : Nat} (hk : k < 2 ^ 31) : fX2_around N (nI k) g = some (nI (k % P)) := by
  unfold fX2_around
  rw [hg, if_neg (nI_nle h0 (by omega)), m_fmP hk h0 hP, m_bind]
theorem m_aroundD (hg : g 0 0 = nI P) (h0 : 0 < P) (hP : P < 2 ^ 15) {a b : Nat} (ha : a < 2 ^ 30) (hb : b < 2 ^ 30) : fX2_around N (nI a - nI b) g = some (nI ((a + P - b % P) % P)) := by
  unfold fX2_around
  rw [hg, if_neg (nI_nle h0 (by omega)), m_fmD ha hb h0 hP, m_bind]
theorem m_within {lo hi : Int32} {x : Int32} : fX5_within N x lo hi = some (if x < lo ∨ hi < x then 0 else 1) := by
  unfold fX5_within
  by_cases h1 : x < lo
  · rw [if_pos h1, if_pos (Or.inl h1)]
  · rw [if_neg h1]
    by_cases h2 : hi < x
    · rw [if_pos h2, if_pos (Or.inr h2)]
    · rw [if_neg h2, if_neg (fun q => q.elim h1 h2)]
/-- whether a number is below n -/
theorem m_cs (x : Int32) {n : Nat} (hn : n < 2 ^ 31) : (∃ o, o < n ∧ x = nI o) ∨ ((x < 0 ∨ nI n ≤ x) ∧ ¬ ∃ o, o < n ∧ x = nI o) := by
  rcases m_ix x hn with h | h | h
  · refine Or.inr ⟨Or.inl h, ?_⟩
    rintro ⟨o, ho, rfl⟩
    exact m_neg (by omega) h
  · refine Or.inr ⟨Or.inr h, ?_⟩
    rintro ⟨o, ho, rfl⟩
    exact nI_ge ho hn h
  · exact Or.inl h
theorem m_hasY (hn : g 0 1 = nI n) (h16 : n ≤ 16) {o : Nat} (ho : o < n) : fX2_has N (nI o) g = some 1 := by
  unfold fX2_has
  rw [if_neg (m_neg (by omega)), hn, if_neg (nI_ge ho (by omega)), if_neg (m_ge16 (by omega))]
theorem m_hasN (hn : g 0 1 = nI n) {x : Int32} (hx : x < 0 ∨ nI n ≤ x) : fX2_has N x g = some 0 := by
  unfold fX2_has
  rcases hx with h | h
  · rw [if_pos h]
  · rw [hn]
    by_cases h0 : x < 0
    · rw [if_pos h0]
    · rw [if_neg h0, if_pos h]
theorem m_hpY (hg : g 0 0 = nI P) (hP : P < 2 ^ 31) {p : Nat} (hp : p < P) : fX2_hasPlace N (nI p) g = some 1 := by
  unfold fX2_hasPlace
  rw [if_neg (m_neg (by omega)), hg, if_neg (nI_ge hp hP)]
theorem m_hpN (hg : g 0 0 = nI P) {x : Int32} (hx : x < 0 ∨ nI P ≤ x) : fX2_hasPlace N x g = some 0 := by
  unfold fX2_hasPlace
  rcases hx with h | h
  · rw [if_pos h]
  · rw [hg]
    by_cases h0 : x < 0
    · rw [if_pos h0]
    · rw [if_neg h0, if_pos h]
theorem m_pred {n : Nat} (h0 : 0 < n) : nI n - 1 = nI (n - 1) := by
  obtain ⟨k, rfl⟩ : ∃ k, n = k + 1 := ⟨n - 1, by omega⟩
  exact nI_pred k
theorem m_wiY {n : Nat} (hn : n < 2 ^ 31) {o : Nat} (ho : o < n) : fX5_within N (nI o) 0 (nI n - 1) = some 1 := by
  rw [m_within, m_pred (by omega), if_neg]
  rintro (h | h)
  · exact m_neg (by omega) h
  · exact nI_nlt (by omega) (by omega) h
theorem m_wiN {n : Nat} (hn : n < 2 ^ 31) {x : Int32} (hx : x < 0 ∨ nI n ≤ x) : fX5_within N x 0 (nI n - 1) = some 0 := by
  rw [m_within, if_pos]
  rcases hx with h | h
  · exact Or.inl h
  · rcases Nat.eq_zero_or_pos n with h0 | h0
    · subst h0
      by_cases hx : x < 0
      · exact Or.inl hx
      · refine Or.inr ?_
        rw [Int32.lt_iff_toInt_lt, show (nI 0 - 1 : Int32).toInt = -1 from by decide]
        rw [m_lt0] at hx
        omega
    · refine Or.inr ?_
      rw [m_pred h0, Int32.lt_iff_toInt_lt, nI_toInt (by omega)]
      rw [Int32.le_iff_toInt_le, nI_toInt hn] at h
      omega
theorem m_ioY (hs : m 1 2 = nI n) (h16 : n ≤ 16) {o : Nat} (ho : o < n) : fX5_isOrder N (nI o) m = some 1 := by
  unfold fX5_isOrder
  rw [m_t2, hs, m_wiY (by omega) ho, m_bind, m_b1, m_ckt]
theorem m_ioN (hs : m 1 2 = nI n) (h16 : n ≤ 16) {x : Int32} (hx : x < 0 ∨ nI n ≤ x) : fX5_isOrder N x m = some 0 := by
  unfold fX5_isOrder
  rw [m_t2, hs, m_wiN (by omega) hx, m_bind, m_b0, m_ckt]
theorem m_ipY (hs : m 1 0 = nI P) (hP : P ≤ 40) {p : Nat} (hp : p < P) : fX5_isPlace N (nI p) m = some 1 := by
  unfold fX5_isPlace
  rw [m_t0, hs, m_wiY (by omega) hp, m_bind, m_b1, m_ckt]
theorem m_ipN (hs : m 1 0 = nI P) (hP : P ≤ 40) {x : Int32} (hx : x < 0 ∨ nI P ≤ x) : fX5_isPlace N x m = some 0 := by
  unfold fX5_isPlace
  rw [m_t0, hs, m_wiN (by omega) hx, m_bind, m_b0, m_ckt]
theorem m_part {j k r : Nat} {p : Int32} (hp : p = nI k) (hr : k + 1 = r) (hj : j < 16) (hk : r ≤ 9) : fX5_part N (nI j) p m = some (m 1 (12 + 9 * j + r)) := by
  subst hp
  subst hr
  unfold fX5_part
  rw [m_idx, m_in (by omega) (by decide), m_ckt, m_clamp (by omega), show 13 + 9 * j + k = 12 + 9 * j + (k + 1) by omega]
theorem m_setP {j k r : Nat} {p v : Int32} (hp : p = nI k) (hr : k + 1 = r) (hj : j < 16) (hk : r ≤ 9) : fX5_setPart N (nI j) p v (z_uR m 1 s) = some (z_uR m 1 (upd s (12 + 9 * j + r) v)) := by
  subst hp
  subst hr
  unfold fX5_setPart
  rw [m_idx, m_in (by omega) (by decide), m_ckt, m_clamp (by omega), m_uRR, m_lt, show 13 + 9 * j + k = 12 + 9 * j + (k + 1) by omega]
/-- the order on a place: the first one -/
def m_On (n : Nat) (f : Nat → Int32) (p r : Int32) : Prop := (r = -1 ∧ ∀ o, o < n → f o ≠ p) ∨ ∃ o, o < n ∧ f o = p ∧ r = nI o
theorem m_On_u {f : Nat → Int32} {p r q : Int32} (hu : ∀ i j, i < n → j < n → i ≠ j → f i = f j → f i = -1) (hp : p ≠ -1) (h1 : m_On n f p r) (h2 : m_On n f p q) : r = q := by
  rcases h1 with ⟨e1, h1⟩ | ⟨o, ho, e1, r1⟩
  · rcases h2 with ⟨e2, h2⟩ | ⟨u, hu2, e2, r2⟩
    · rw [e1, e2]
    · exact absurd e2 (h1 u hu2)
  · rcases h2 with ⟨e2, h2⟩ | ⟨u, hu2, e2, r2⟩
    · exact absurd e1 (h2 o ho)
    · by_cases h : o = u
      · subst h; rw [r1, r2]
      · exact absurd ((e1.symm.trans (hu o u ho hu2 h (e1.trans e2.symm)))) hp
theorem m_onL (hn : g 0 1 = nI n) (h16 : n ≤ 16) (p : Int32) : ∀ (k i fu : Nat), i + k = n → k < fu → (∀ o, o < i → g 6 o ≠ p) → ∃ r, lX2_orderOn_2 N p g fu (nI i) = some r ∧ m_On n (g 6) p r := by
  intro k
  induction k with
  | zero =>
    intro i fu hi hfu hb
    obtain ⟨fu, rfl⟩ : ∃ q, fu = q + 1 := ⟨fu - 1, by omega⟩
    refine ⟨-1, ?_, Or.inl ⟨rfl, fun o ho => hb o (by omega)⟩⟩
    rw [lX2_orderOn_2.eq_2]
    by_cases h : (16 : Int32) ≤ nI i
    · rw [if_pos h]
    · rw [if_neg h, m_hasN hn (Or.inr (nI_le (by omega) (by omega))), m_bind, if_pos m_00]
  | succ k ih =>
    intro i fu hi hfu hb
    obtain ⟨fu, rfl⟩ : ∃ q, fu = q + 1 := ⟨fu - 1, by omega⟩
    rw [lX2_orderOn_2.eq_2, if_neg (m_ge16 (by omega)), m_hasY hn h16 (by omega), m_bind, if_neg m_1_0, m_in (by omega) (by decide), m_ckt, m_clamp (by omega)]
    by_cases h : g 6 i = p
    · rw [if_pos h]
      exact ⟨_, rfl, Or.inr ⟨i, by omega, h, rfl⟩⟩
    · rw [if_neg h, nI_1]
      exact ih (i + 1) fu (by omega) (by omega) (fun o ho => by
        by_cases e : o = i
        · subst e; exact h
        · exact hb o (by omega))
theorem m_orderOn (hn : g 0 1 = nI n) (h16 : n ≤ 16) (hN : 17 ≤ N) (p : Int32) : ∃ r, fX2_orderOn N p g = some r ∧ m_On n (g 6) p r := m_onL hn h16 p n 0 N (by omega) (by omega) (fun o ho => by omega)
theorem m_stL (hs : m 1 2 = nI n) (h16 : n ≤ 16) (p : Int32) : ∀ (k i fu : Nat) (x : Int32), i + k = n → k < fu → m_On i (fun o => m 1 (12 + 9 * o + 6)) p x → ∃ r, lX5_standing_4 N p m fu x (nI i) = some r ∧ m_On n (fun o => m 1 (12 + 9 * o + 6)) p r := by
  intro k
  induction k with
  | zero =>
    intro i fu x hi hfu hx
    obtain ⟨fu, rfl⟩ : ∃ q, fu = q + 1 := ⟨fu - 1, by omega⟩
    have e : i = n := by omega
    subst e
    refine ⟨x, ?_, hx⟩
    rw [lX5_standing_4.eq_2, m_t2, hs, if_pos (nI_le (by omega) (by omega))]
  | succ k ih =>
    intro i fu x hi hfu hx
    obtain ⟨fu, rfl⟩ : ∃ q, fu = q + 1 := ⟨fu - 1, by omega⟩
    rw [lX5_standing_4.eq_2, m_t2, hs, if_neg (nI_ge (by omega) (by omega)), m_part (p := 5) (k := 5) (r := 6) rfl rfl (by omega) (by decide), m_bind]
    by_cases h : m 1 (12 + 9 * i + 6) = p
    · rw [if_pos h, nI_1]
      exact ih (i + 1) fu _ (by omega) (by omega) (Or.inr ⟨i, by omega, h, rfl⟩)
    · rw [if_neg h, nI_1]
      refine ih (i + 1) fu _ (by omega) (by omega) ?_
      rcases hx with ⟨e, hx⟩ | ⟨o, ho, e, hr⟩
      · refine Or.inl ⟨e, fun o ho => ?_⟩
        by_cases ei : o = i
        · subst ei
          exact h
        · exact hx o (by omega)
      · exact Or.inr ⟨o, by omega, e, hr⟩
theorem m_standing (hs : m 1 2 = nI n) (h16 : n ≤ 16) (hN : 17 ≤ N) (p : Int32) : ∃ r, fX5_standing N p m = some r ∧ m_On n (fun o => m 1 (12 + 9 * o + 6)) p r := m_stL hs h16 p n 0 N (-1) (by omega) (by omega) (Or.inl ⟨rfl, fun o ho => by omega⟩)
end MEV
