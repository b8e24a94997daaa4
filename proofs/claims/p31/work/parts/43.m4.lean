/-! where an order wants to be laid -/
section MR4
variable {E : Nat → Prop} {N n P T J : Nat} {g m : z_R} {s : Nat → Int32}
theorem m_mod2 (x : Nat) {P : Nat} : (x + 2 * P) % P = x % P := by rw [Nat.mul_comm, Nat.add_mul_mod_self_left]
/-- the class's walk over the orders before: ends at the first one that stands and leads to o -/
theorem m_wC (hn : g 0 1 = nI n) (h16 : n ≤ 16) (x : Int32) (kk : Unit → Option Int32) : ∀ (k i fu : Nat), i + k = n → k < fu → ((∀ q, i ≤ q → q < n → ¬ (g 6 q ≠ -1 ∧ g 3 q = x)) ∧ lX2_wantedPlace_2 N x g kk fu (nI i) = kk ()) ∨ ∃ q, i ≤ q ∧ q < n ∧ g 6 q ≠ -1 ∧ g 3 q = x ∧ (∀ u, i ≤ u → u < q → ¬ (g 6 u ≠ -1 ∧ g 3 u = x)) ∧ lX2_wantedPlace_2 N x g kk fu (nI i) = fX2_around N ((g 6 q + 1) + g 2 q) g := by
  intro k
  induction k with
  | zero =>
    intro i fu hi hfu
    obtain ⟨fu, rfl⟩ : ∃ q, fu = q + 1 := ⟨fu - 1, by omega⟩
    refine Or.inl ⟨fun q h1 h2 => by omega, ?_⟩
    rw [lX2_wantedPlace_2.eq_2]
    by_cases c : (16 : Int32) ≤ nI i
    · rw [if_pos c]
    · rw [if_neg c, m_hasN hn (Or.inr (nI_le (by omega) (by omega))), m_bind, if_pos m_00]
  | succ k ih =>
    intro i fu hi hfu
    obtain ⟨fu, rfl⟩ : ∃ q, fu = q + 1 := ⟨fu - 1, by omega⟩
    have step : lX2_wantedPlace_2 N x g kk (fu + 1) (nI i) = (if g 6 i = -1 then lX2_wantedPlace_2 N x g kk fu (nI (i + 1)) else if g 3 i = x then fX2_around N ((g 6 i + 1) + g 2 i) g else lX2_wantedPlace_2 N x g kk fu (nI (i + 1))) := by
      rw [lX2_wantedPlace_2.eq_2, if_neg (m_ge16 (by omega)), m_hasY hn h16 (by omega), m_bind, if_neg m_1_0, m_in (by omega) (by decide), m_ckt, m_ckt, m_ckt, m_ckt, m_clamp (by omega), nI_1]
      congr 1
      congr 1
      cases fX2_around N (g 6 i + 1 + g 2 i) g <;> rfl
    by_cases h6 : g 6 i = -1
    · rw [step, if_pos h6]
      rcases ih (i + 1) fu (by omega) (by omega) with ⟨a, b⟩ | ⟨q, a1, a2, a3, a4, a5, b⟩
      · refine Or.inl ⟨fun q h1 h2 => ?_, b⟩
        by_cases e : q = i
        · subst e; exact fun h => h.1 h6
        · exact a q (by omega) h2
      · refine Or.inr ⟨q, by omega, a2, a3, a4, fun u h1 h2 => ?_, b⟩
        by_cases e : u = i
        · subst e; exact fun h => h.1 h6
        · exact a5 u (by omega) h2
    · by_cases h3 : g 3 i = x
      · rw [step, if_neg h6, if_pos h3]
        exact Or.inr ⟨i, Nat.le_refl i, by omega, h6, h3, fun u h1 h2 => by omega, rfl⟩
      · rw [step, if_neg h6, if_neg h3]
        rcases ih (i + 1) fu (by omega) (by omega) with ⟨a, b⟩ | ⟨q, a1, a2, a3, a4, a5, b⟩
        · refine Or.inl ⟨fun q h1 h2 => ?_, b⟩
          by_cases e : q = i
          · subst e; exact fun h => h3 h.2
          · exact a q (by omega) h2
        · refine Or.inr ⟨q, by omega, a2, a3, a4, fun u h1 h2 => ?_, b⟩
          by_cases e : u = i
          · subst e; exact fun h => h3 h.2
          · exact a5 u (by omega) h2
/-- the reference's walk back: the value of the first one wins -/
theorem m_wM (hP : m 1 0 = nI P) (h0 : 0 < P) (hP4 : P ≤ 40) (h16 : n ≤ 16) (x : Int32) : ∀ (i fu : Nat) (y : Int32), i ≤ n → i < fu → ∃ z, lX5_wanted_53 N x m fu y (nI i - 1) = some ((z + 2 * nI P) - (z + 2 * nI P) / nI P * nI P) ∧ (((∀ q, q < i → ¬ (m 1 (12 + 9 * q + 6) ≠ -1 ∧ m 1 (12 + 9 * q + 3) = x)) ∧ z = y) ∨ ∃ q, q < i ∧ m 1 (12 + 9 * q + 6) ≠ -1 ∧ m 1 (12 + 9 * q + 3) = x ∧ (∀ u, u < q → ¬ (m 1 (12 + 9 * u + 6) ≠ -1 ∧ m 1 (12 + 9 * u + 3) = x)) ∧ z = (m 1 (12 + 9 * q + 6) + 1) + m 1 (12 + 9 * q + 2)) := by
  intro i
  induction i with
  | zero =>
    intro fu y hi hfu
    obtain ⟨fu, rfl⟩ : ∃ q, fu = q + 1 := ⟨fu - 1, by omega⟩
    refine ⟨y, ?_, Or.inl ⟨fun q h => by omega, rfl⟩⟩
    rw [lX5_wanted_53.eq_2, if_pos (by decide), m_t0, hP, m_nz h0 (by omega), m_ckt]
  | succ i ih =>
    intro fu y hi hfu
    obtain ⟨fu, rfl⟩ : ∃ q, fu = q + 1 := ⟨fu - 1, by omega⟩
    have e1 : nI (i + 1) - 1 = nI i := nI_pred i
    have e2 : nI i + (-1) = nI i - 1 := (Int32.sub_eq_add_neg (nI i) 1).symm
    have step : lX5_wanted_53 N x m (fu + 1) y (nI (i + 1) - 1) = (if m 1 (12 + 9 * i + 6) = -1 then lX5_wanted_53 N x m fu y (nI i - 1) else if m 1 (12 + 9 * i + 3) = x then lX5_wanted_53 N x m fu ((m 1 (12 + 9 * i + 6) + 1) + m 1 (12 + 9 * i + 2)) (nI i - 1) else lX5_wanted_53 N x m fu y (nI i - 1)) := by
      rw [lX5_wanted_53.eq_2, e1, if_neg (m_neg (by omega)), m_part (p := 5) (k := 5) (r := 6) rfl rfl (by omega) (by decide), m_bind, e2, m_part (p := 2) (k := 2) (r := 3) rfl rfl (by omega) (by decide), m_bind, m_bind, m_part (p := 1) (k := 1) (r := 2) rfl rfl (by omega) (by decide), m_bind]
    by_cases h6 : m 1 (12 + 9 * i + 6) = -1
    · obtain ⟨z, hz, hc⟩ := ih fu y (by omega) (by omega)
      refine ⟨z, by rw [step, if_pos h6]; exact hz, ?_⟩
      rcases hc with ⟨a, b⟩ | ⟨q, a1, a2, a3, a4, b⟩
      · refine Or.inl ⟨fun q hq => ?_, b⟩
        by_cases e : q = i
        · subst e; exact fun h => h.1 h6
        · exact a q (by omega)
      · exact Or.inr ⟨q, by omega, a2, a3, a4, b⟩
    · by_cases h3 : m 1 (12 + 9 * i + 3) = x
      · obtain ⟨z, hz, hc⟩ := ih fu ((m 1 (12 + 9 * i + 6) + 1) + m 1 (12 + 9 * i + 2)) (by omega) (by omega)
        refine ⟨z, by rw [step, if_neg h6, if_pos h3]; exact hz, ?_⟩
        rcases hc with ⟨a, b⟩ | ⟨q, a1, a2, a3, a4, b⟩
        · exact Or.inr ⟨i, by omega, h6, h3, a, b⟩
        · exact Or.inr ⟨q, by omega, a2, a3, a4, b⟩
      · obtain ⟨z, hz, hc⟩ := ih fu y (by omega) (by omega)
        refine ⟨z, by rw [step, if_neg h6, if_neg h3]; exact hz, ?_⟩
        rcases hc with ⟨a, b⟩ | ⟨q, a1, a2, a3, a4, b⟩
        · refine Or.inl ⟨fun q hq => ?_, b⟩
          by_cases e : q = i
          · subst e; exact fun h => h3 h.2
          · exact a q (by omega)
        · exact Or.inr ⟨q, by omega, a2, a3, a4, b⟩
theorem m_2P (P : Nat) : (2 : Int32) * nI P = nI (2 * P) := pk_mul 2 P
theorem m_fin {k : Nat} (h0 : 0 < P) (hP : P ≤ 40) (hk : k < 2 ^ 30) : (nI k + 2 * nI P) - (nI k + 2 * nI P) / nI P * nI P = nI (k % P) := by
  rw [m_2P, nI_add, pk_rem (by omega) h0 (by omega), m_mod2]
theorem m_finD {p w : Nat} (h0 : 6 ≤ P) (hP : P ≤ 40) (hp : p < P) (hw : w ≤ 9) : (((nI p - 1) - nI w) + 2 * nI P) - (((nI p - 1) - nI w) + 2 * nI P) / nI P * nI P = nI ((p + 2 * P - 1 - w) % P) ∧ fX2_around N ((nI p - 1) - nI w) g = fX2_around N (nI p - nI (1 + w)) g := by
  have e1 : (nI p - 1) - nI w = nI p - nI (1 + w) := by
    rw [← nI_add, show nI 1 = (1 : Int32) from rfl]
    apply Int32.toBitVec_inj.mp
    show (nI p).toBitVec - (1 : Int32).toBitVec - (nI w).toBitVec = (nI p).toBitVec - ((1 : Int32).toBitVec + (nI w).toBitVec)
    bv_omega
  refine ⟨?_, by rw [e1]⟩
  have e2 : nI p - nI (1 + w) + 2 * nI P = nI (p + 2 * P - 1 - w) := by
    rw [m_2P]
    have e3 : nI p + nI (2 * P) = nI (p + 2 * P - 1 - w) + nI (1 + w) := by rw [nI_add, nI_add]; congr 1; omega
    apply Int32.toBitVec_inj.mp
    have e4 := congrArg Int32.toBitVec e3
    have e5 : (nI p).toBitVec + (nI (2 * P)).toBitVec = (nI (p + 2 * P - 1 - w)).toBitVec + (nI (1 + w)).toBitVec := e4
    show (nI p).toBitVec - (nI (1 + w)).toBitVec + (nI (2 * P)).toBitVec = (nI (p + 2 * P - 1 - w)).toBitVec
    bv_omega
  rw [e1, e2, pk_rem (by omega) (by omega) (by omega)]
/-- both sides want the same place -/
theorem m_wanted (h : RS E n P T J g s) (hE2 : E 2) (hE3 : E 3) (hE6 : E 6) (hN : 17 ≤ N) {o : Nat} (ho : o < n) : ∃ w, w < P ∧ fX2_wantedPlace N (nI o) g = some (nI w) ∧ fX5_wanted N (nI o) (z_uR m 1 s) = some (nI w) := by
  have h16 := h.n16
  have hP6 := h.P6
  have hP4 := h.P40
  have hsP : (z_uR m 1 s) 1 0 = nI P := by rw [m_same]; exact h.sP
  have hsn : (z_uR m 1 s) 1 2 = nI n := by rw [m_same]; exact h.sn
  have r6 : ∀ {q}, q < n → s (12 + 9 * q + 6) = g 6 q := fun hq => h.or hq (by decide) (by decide) hE6
  have r3 : ∀ {q}, q < n → s (12 + 9 * q + 3) = g 3 q := fun hq => h.or hq (by decide) (by decide) hE3
  have r2 : ∀ {q}, q < n → s (12 + 9 * q + 2) = g 2 q := fun hq => h.or hq (by decide) (by decide) hE2
  -- what the reference begins with
  obtain ⟨y, hy, hyv⟩ : ∃ y, fX5_wanted N (nI o) (z_uR m 1 s) = lX5_wanted_53 N (nI o) (z_uR m 1 s) N y (nI n - 1) ∧ ((y = 0 ∧ fX2_isOnDrum N (g 3 o) g = some 0) ∨ ∃ q, q < n ∧ g 3 o = nI q ∧ g 6 q ≠ -1 ∧ y = (g 6 q - 1) - g 2 o) := by
    unfold fX5_wanted
    rw [m_part (p := 2) (k := 2) (r := 3) rfl rfl (by omega) (by decide), m_bind, m_same, r3 ho]
    rcases m_cs (g 3 o) (n := n) (by omega) with ⟨q, hq, e⟩ | ⟨hx, hno⟩
    · rw [e, m_ioY hsn h16 hq, m_bind, if_neg m_1_0, m_part (p := 5) (k := 5) (r := 6) rfl rfl (by omega) (by decide), m_bind, m_bind, m_same, r6 hq, m_t2, h.sn]
      by_cases h6 : g 6 q = -1
      · refine ⟨0, by rw [if_pos h6], Or.inl ⟨rfl, ?_⟩⟩
        unfold fX2_isOnDrum
        rw [m_hasY h.gn h16 hq, m_bind, if_neg m_1_0, m_in (by omega) (by decide), m_ckt, m_clamp (by omega), if_pos h6]
      · rw [if_neg h6, m_part (p := 1) (k := 1) (r := 2) rfl rfl (by omega) (by decide), m_bind, m_same, r2 ho]
        exact ⟨_, rfl, Or.inr ⟨q, hq, rfl, h6, rfl⟩⟩
    · rw [m_ioN hsn h16 hx, m_bind, if_pos m_00, m_t2, h.sn]
      refine ⟨0, rfl, Or.inl ⟨rfl, ?_⟩⟩
      unfold fX2_isOnDrum
      rw [m_hasN h.gn hx, m_bind, if_pos m_00]
  obtain ⟨z, hz, hzv⟩ := m_wM (N := N) hsP (by omega) hP4 h16 (nI o) n N y (Nat.le_refl n) (by omega)
  rw [hy, hz]
  rw [m_same] at hzv
  obtain ⟨wo, hw1, hw9, hwe⟩ := h.wo ho
  unfold fX2_wantedPlace
  rcases m_wC (N := N) h.gn h16 (nI o) _ n 0 N (by omega) (by omega) with ⟨a, b⟩ | ⟨q, a1, a2, a3, a4, a5, b⟩
  · rw [nI_0] at b
    rw [b]
    have hz0 : z = y := by
      rcases hzv with ⟨-, e⟩ | ⟨q, q1, q2, q3, -, -⟩
      · exact e
      · exact absurd ⟨by rw [← r6 q1]; exact q2, by rw [← r3 q1]; exact q3⟩ (a q (Nat.zero_le q) q1)
    rw [m_in (show o < 16 by omega) (by decide), m_ckt, m_clamp (by omega), hz0]
    rcases hyv with ⟨e, hd⟩ | ⟨q, hq, e3, h6, e⟩
    · refine ⟨0, by omega, ?_, ?_⟩
      · rw [hd, m_bind, if_pos m_00]
        rfl
      · rw [e, show (0 : Int32) = nI 0 from rfl, m_fin (by omega) hP4 (by decide), Nat.zero_mod]
    · obtain ⟨p, hp, ep⟩ : ∃ p, p < P ∧ g 6 q = nI p := (h.pl hq).resolve_left h6
      have hon : fX2_isOnDrum N (g 3 o) g = some 1 := by
        unfold fX2_isOnDrum
        rw [e3, m_hasY h.gn h16 hq, m_bind, if_neg m_1_0, m_in (by omega) (by decide), m_ckt, m_clamp (by omega), if_neg h6]
      have hf := m_finD (N := N) (g := g) (w := wo) hP6 hP4 hp hw9
      refine ⟨(p + 2 * P - 1 - wo) % P, Nat.mod_lt _ (by omega), ?_, ?_⟩
      · rw [hon, m_bind, if_neg m_1_0, m_ckt, e3, m_in (show q < 16 by omega) (by decide), m_ckt, m_ckt, m_clamp (by omega), hwe, ep, hf.2, m_aroundD h.gP (by omega) (by omega) (by omega) (by omega), m_bind]
        congr 2
        have hlt : (1 + wo) % P ≤ 1 + wo := Nat.mod_le _ _
        have := Nat.div_add_mod (1 + wo) P
        rcases Nat.lt_or_ge (1 + wo) P with hh | hh
        · rw [Nat.mod_eq_of_lt hh, show p + 2 * P - 1 - wo = (p + P - (1 + wo)) + P by omega, Nat.add_mod_right]
        · have hd1 : (1 + wo) / P = 1 := by
            apply Nat.div_eq_of_lt_le <;> omega
          rw [hd1] at this
          rw [show p + 2 * P - 1 - wo = p + P - (1 + wo) % P by omega]
      · rw [e, ep, hwe, hf.1]
  · rw [nI_0] at b
    rw [b]
    obtain ⟨p, hp, ep⟩ : ∃ p, p < P ∧ g 6 q = nI p := (h.pl a2).resolve_left a3
    obtain ⟨wq, hq1, hq9, hqe⟩ := h.wo a2
    have hzq : z = (g 6 q + 1) + g 2 q := by
      rcases hzv with ⟨c, -⟩ | ⟨u, u1, u2, u3, u4, u5⟩
      · exact absurd ⟨by rw [r6 a2]; exact a3, by rw [r3 a2]; exact a4⟩ (c q a2)
      · have hqu : u = q := by
          rcases Nat.lt_trichotomy u q with hl | hl | hl
          · exact absurd ⟨by rw [← r6 u1]; exact u2, by rw [← r3 u1]; exact u3⟩ (a5 u (Nat.zero_le u) hl)
          · exact hl
          · exact absurd ⟨by rw [r6 a2]; exact a3, by rw [r3 a2]; exact a4⟩ (u4 q hl)
        subst hqu
        rw [u5, r6 u1, r2 u1]
    have ev : (nI p + 1) + nI wq = nI (p + 1 + wq) := by rw [nI_1, nI_add]
    refine ⟨(p + 1 + wq) % P, Nat.mod_lt _ (by omega), ?_, ?_⟩
    · rw [ep, hqe, ev, m_aroundP h.gP (by omega) (by omega) (by omega)]
    · rw [hzq, ep, hqe, ev, m_fin (by omega) hP4 (by omega)]
end MR4
