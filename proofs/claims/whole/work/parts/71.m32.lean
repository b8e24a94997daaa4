/-! ring -/
def m_it (g : z_R) : Nat → Int32 → Int32
  | 0, x => x
  | i + 1, x => g 3 (m_it g i x).toNatClampNeg
theorem m_itA (g : z_R) (x : Int32) (i : Nat) : ∀ j, m_it g (i + j) x = m_it g j (m_it g i x) := by
  intro j
  induction j with
  | zero => rfl
  | succ j ih =>
    show g 3 (m_it g (i + j) x).toNatClampNeg = g 3 (m_it g j (m_it g i x)).toNatClampNeg
    rw [ih]
section MR32
variable {N B n P T J : Nat} {X : z_X} {g m : z_R} {s : Nat → Int32}
def m_vl (n : Nat) (x : Int32) : Prop := ∃ o, o < n ∧ x = nI o
theorem m_rgC (h : RS m_Al n P T J g s) (x : Int32) (kk : Int32 → Option Int32) : ∀ (k i fu : Nat), i + k = 16 → k < fu → (∀ j, j < i → m_vl n (m_it g j x)) → ∃ t, t ≤ 16 ∧ lX2_ringLength_4 N g kk fu (m_it g i x) (nI i) = kk (m_it g t x) ∧ (t = 16 ∨ ¬ m_vl n (m_it g t x)) ∧ ∀ j, j < t → m_vl n (m_it g j x) := by
  have h16 := h.n16
  intro k
  induction k with
  | zero =>
    intro i fu hi hfu hv
    obtain ⟨fu, rfl⟩ : ∃ q, fu = q + 1 := ⟨fu - 1, by omega⟩
    have e : i = 16 := by omega
    subst e
    exact ⟨16, Nat.le_refl _, by rw [lX2_ringLength_4.eq_2, if_pos (by decide)], Or.inl rfl, hv⟩
  | succ k ih =>
    intro i fu hi hfu hv
    obtain ⟨fu, rfl⟩ : ∃ q, fu = q + 1 := ⟨fu - 1, by omega⟩
    rcases m_cs (m_it g i x) (n := n) (by omega) with ⟨o, ho, e⟩ | ⟨hx, hno⟩
    · obtain ⟨t, t1, t2, t3, t4⟩ := ih (i + 1) fu (by omega) (by omega) (fun j hj => by
        by_cases c : j = i
        · subst c; exact ⟨o, ho, e⟩
        · exact hv j (by omega))
      refine ⟨t, t1, ?_, t3, t4⟩
      have e2 : m_it g (i + 1) x = g 3 o := by
        show g 3 (m_it g i x).toNatClampNeg = _
        rw [e, m_clamp (by omega)]
      rw [← t2, lX2_ringLength_4.eq_2, if_neg (m_ge16 (by omega)), e, m_hasY h.gn h16 ho, m_bind, if_neg m_1_0, m_in (by omega) (by decide), m_ckt, m_clamp (by omega), nI_1, e2]
    · exact ⟨i, by omega, by rw [lX2_ringLength_4.eq_2, if_neg (m_ge16 (by omega)), m_hasN h.gn hx, m_bind, if_pos m_00], Or.inr hno, hv⟩
/-- the reference goes along: up to the first order met before, or to the end -/
theorem m_goY (h : RS m_Al n P T J g s) (hm : m 1 = s) (x : Int32) : ∀ (d i fv : Nat) (r : Nat → Int32), i + d = 16 → d < fv → (∀ j, j < i → m_vl n (m_it g j x)) → (∀ j k, j < k → k < i → m_it g j x ≠ m_it g k x) → (∀ q, q < 16 → (r q = 0 ∧ ∀ j, j < i → m_it g j x ≠ nI q) ∨ (r q = 1 ∧ ∃ j, j < i ∧ m_it g j x = nI q)) → ∃ b r', (∀ kk, lX5_goAlong_23 N kk fv (m_it g i x) (z_uR m 9 r) = kk (m_it g b x) (z_uR m 9 r')) ∧ b ≤ 16 ∧ (∀ j, j < b → m_vl n (m_it g j x)) ∧ (¬ m_vl n (m_it g b x) ∨ ∃ a, a < b ∧ m_it g a x = m_it g b x) := by
  have h16 := h.n16
  have hs1 : ∀ r, (z_uR m 9 r) 1 2 = nI n := fun r => by rw [m_other _ _ (by decide), hm]; exact h.sn
  intro d
  induction d with
  | zero =>
    intro i fv r hi hfv hv hd hr
    obtain ⟨fv, rfl⟩ : ∃ q, fv = q + 1 := ⟨fv - 1, by omega⟩
    have e : i = 16 := by omega
    subst e
    rcases m_cs (m_it g 16 x) (n := n) (by omega) with ⟨o, ho, e⟩ | ⟨hx, hno⟩
    · rcases hr o (by omega) with ⟨r0, r1⟩ | ⟨r0, j, hj, ej⟩
      · exfalso
        refine m_php 16 (fun j => (m_it g j x).toNatClampNeg) (fun j hj => ?_) (fun j k hjk hk => ?_)
        · show (m_it g j x).toNatClampNeg < 16
          by_cases c : j = 16
          · subst c; rw [e, m_clamp (by omega)]; omega
          · obtain ⟨w, hw, ew⟩ := hv j (by omega)
            rw [ew, m_clamp (by omega)]; omega
        · show (m_it g j x).toNatClampNeg ≠ (m_it g k x).toNatClampNeg
          obtain ⟨w, hw, ew⟩ := hv j (by omega)
          by_cases c : k = 16
          · subst c
            rw [e, ew, m_clamp (by omega), m_clamp (by omega)]
            intro q
            exact r1 j (by omega) (by rw [ew, q])
          · obtain ⟨w2, hw2, ew2⟩ := hv k (by omega)
            rw [ew, ew2, m_clamp (by omega), m_clamp (by omega)]
            intro q
            exact hd j k hjk (by omega) (by rw [ew, ew2, q])
      · refine ⟨16, r, fun kk => ?_, Nat.le_refl _, hv, Or.inr ⟨j, hj, by rw [ej, e]⟩⟩
        rw [lX5_goAlong_23.eq_2, e, m_ioY (hs1 r) h16 ho, m_bind, if_neg m_1_0, m_in (by omega) (by decide), m_ckt, m_clamp (by omega), m_same, r0, if_neg m_1_0]
    · exact ⟨16, r, fun kk => by rw [lX5_goAlong_23.eq_2, m_ioN (hs1 r) h16 hx, m_bind, if_pos m_00], Nat.le_refl _, hv, Or.inl hno⟩
  | succ d ih =>
    intro i fv r hi hfv hv hd hr
    obtain ⟨fv, rfl⟩ : ∃ q, fv = q + 1 := ⟨fv - 1, by omega⟩
    rcases m_cs (m_it g i x) (n := n) (by omega) with ⟨o, ho, e⟩ | ⟨hx, hno⟩
    · rcases hr o (by omega) with ⟨r0, r1⟩ | ⟨r0, j, hj, ej⟩
      · have e2 : m_it g (i + 1) x = g 3 o := by
          show g 3 (m_it g i x).toNatClampNeg = _
          rw [e, m_clamp (by omega)]
        obtain ⟨b, r', p1, p2, p3, p4⟩ := ih (i + 1) fv (upd r o 1) (by omega) (by omega) (fun j hj => by
          by_cases c : j = i
          · subst c; exact ⟨o, ho, e⟩
          · exact hv j (by omega)) (fun j k hjk hk => by
          by_cases c : k = i
          · subst c; rw [e]; exact r1 j hjk
          · exact hd j k hjk (by omega)) (fun q hq => by
          by_cases c : q = o
          · subst c; rw [m_us]; exact Or.inr ⟨rfl, i, by omega, e⟩
          · rw [m_un _ _ c]
            rcases hr q hq with ⟨a1, a2⟩ | ⟨a1, j, hj, ej⟩
            · refine Or.inl ⟨a1, fun j hj => ?_⟩
              by_cases cj : j = i
              · subst cj; rw [e]; exact fun z => c (m_nI_inj (by omega) (by omega) z).symm
              · exact a2 j (by omega)
            · exact Or.inr ⟨a1, j, by omega, ej⟩)
        refine ⟨b, r', fun kk => ?_, p2, p3, p4⟩
        rw [← p1 kk, lX5_goAlong_23.eq_2, e, m_ioY (hs1 r) h16 ho, m_bind, if_neg m_1_0, m_in (by omega) (by decide), m_ckt, m_clamp (by omega), m_same, r0, if_pos m_00, m_ckt, m_uRR, m_lt, m_part (p := 2) (k := 2) (r := 3) rfl rfl (by omega) (by decide), m_bind, m_other _ _ (by decide : (1 : Nat) ≠ 9), hm, h.or ho (by decide) (by decide) trivial, e2]
      · refine ⟨i, r, fun kk => ?_, by omega, hv, Or.inr ⟨j, hj, by rw [ej, e]⟩⟩
        rw [lX5_goAlong_23.eq_2, e, m_ioY (hs1 r) h16 ho, m_bind, if_neg m_1_0, m_in (by omega) (by decide), m_ckt, m_clamp (by omega), m_same, r0, if_neg m_1_0]
    · exact ⟨i, r, fun kk => by rw [lX5_goAlong_23.eq_2, m_ioN (hs1 r) h16 hx, m_bind, if_pos m_00], by omega, hv, Or.inl hno⟩
/-- the class's count on the ring -/
theorem m_chR (h : RS m_Al n P T J g s) {y : Int32} {r : Nat} (hv : ∀ j, m_vl n (m_it g j y)) (h0 : 0 < r) (hr : m_it g r y = y) (hmin : ∀ j, 0 < j → j < r → m_it g j y ≠ y) (hinj : ∀ j k, j < k → k < r → m_it g j y ≠ m_it g k y) (hr16 : r ≤ 16) : ∀ (d i u fu : Nat), i + d = r → d < fu → u < 2 ^ 16 → (∀ q, q < 16 → (u.testBit q = true ↔ ∃ j, j < i ∧ m_it g j y = nI q)) → lX2_chainLength_7 N g fu (nI u) (nI i) (m_it g i y) = some (nI r) := by
  have h16 := h.n16
  intro d
  induction d with
  | zero =>
    intro i u fu hi hfu hu hb
    obtain ⟨fu, rfl⟩ : ∃ q, fu = q + 1 := ⟨fu - 1, by omega⟩
    have e : i = r := by omega
    subst e
    rw [lX2_chainLength_7.eq_2]
    by_cases c : (16 : Int32) ≤ nI i
    · rw [if_pos c]
    · obtain ⟨o, ho, eo⟩ := hv 0
      have eo : y = nI o := eo
      have cb : ¬ ((nI u >>> (nI o &&& (31 : Int32))) &&& (1 : Int32)) = 0 := fun q => by
        have h1 := (m_bit hu (by omega)).mp q
        rw [(hb o (by omega)).mpr ⟨0, h0, eo⟩] at h1
        cases h1
      rw [if_neg c, hr, eo, m_hasY h.gn h16 ho, m_bind, if_neg m_1_0, if_neg cb]
  | succ d ih =>
    intro i u fu hi hfu hu hb
    obtain ⟨fu, rfl⟩ : ∃ q, fu = q + 1 := ⟨fu - 1, by omega⟩
    obtain ⟨o, ho, eo⟩ := hv i
    have c0 : u.testBit o = false := by
      cases hh : u.testBit o with
      | true =>
        obtain ⟨j, hj, ej⟩ := (hb o (by omega)).mp hh
        exact absurd (ej.trans eo.symm) (hinj j i hj (by omega))
      | false => rfl
    have e2 : m_it g (i + 1) y = g 3 o := by
      show g 3 (m_it g i y).toNatClampNeg = _
      rw [eo, m_clamp (by omega)]
    have q := ih (i + 1) (u ||| 2 ^ o) fu (by omega) (by omega) (Nat.or_lt_two_pow hu (Nat.pow_lt_pow_right (by decide) (by omega))) (fun w hw => by
      rw [m_tb, Bool.or_eq_true, hb w hw, decide_eq_true_iff]
      refine ⟨fun z => ?_, fun z => ?_⟩
      · rcases z with ⟨j, hj, ej⟩ | z
        · exact ⟨j, by omega, ej⟩
        · subst z; exact ⟨i, by omega, eo⟩
      · obtain ⟨j, hj, ej⟩ := z
        by_cases c : j = i
        · subst c; exact Or.inr (m_nI_inj (by omega) (by omega) (eo.symm.trans ej))
        · exact Or.inl ⟨j, by omega, ej⟩)
    rw [← q, lX2_chainLength_7.eq_2, if_neg (m_ge16 (by omega)), eo, m_hasY h.gn h16 ho, m_bind, if_neg m_1_0, if_pos ((m_bit hu (by omega)).mpr c0), m_in (by omega) (by decide), m_ckt, m_clamp (by omega), m_set hu (by omega), nI_1, e2]
end MR32
