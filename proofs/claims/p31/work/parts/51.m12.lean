/-! the whole relation of the class and the reference; what is remembered -/
theorem m_u3n (G : Nat → z_R) {k j : Nat} (g : z_R) (h : j ≠ k) : z_u3 G k g j = G j := if_neg h
theorem m_u3s (G : Nat → z_R) (k : Nat) (g : z_R) : z_u3 G k g k = g := if_pos rfl
theorem m_self (m : z_R) (r : Nat) : z_uR m r (m r) = m := m_uRself m r
def m_St (B : Nat) (g : z_R) (s : Nat → Int32) : Prop := ∃ n P T J, RS (fun _ => True) n P T J g s ∧ T ≤ B
def m_Tx (X : z_X) (m : z_R) : Prop := ∃ len, len ≤ 160 ∧ X.1 0 0 = nI len ∧ m 0 2 = nI len ∧ ∀ i, i < len → ∃ c, c < 256 ∧ X.1 1 i = nI c ∧ m 8 i = nI c
def m_Me (B : Nat) (X : z_X) (m : z_R) : Prop := ∃ old sz, old < 14 ∧ sz ≤ 14 ∧ X.2.1 0 0 = nI old ∧ X.2.1 0 1 = nI sz ∧ m 0 1 = nI sz ∧ ∀ j, j < sz → m_St B (X.2.2 ((old + j) % 14 + 3)) (fun k => m 5 (925 * j + k))
def m_Sl (B : Nat) (X : z_X) (m : z_R) : Prop := ∀ i, i < 2 → (X.2.1 1 i = 0 ∧ m 7 i = 0) ∨ (X.2.1 1 i = 1 ∧ m 7 i = 1 ∧ m_St B (X.2.2 (i + 17)) (fun k => m 6 (925 * i + k)))
def RG (B : Nat) (X : z_X) (m : z_R) : Prop := m_Tx X m ∧ m_St B (X.2.2 0) (m 1) ∧ m_Me B X m ∧ m_Sl B X m
theorem m_St.mono {B B' : Nat} {g : z_R} {s : Nat → Int32} (h : m_St B g s) (hB : B ≤ B') : m_St B' g s := by
  obtain ⟨n, P, T, J, a, b⟩ := h
  exact ⟨n, P, T, J, a, Nat.le_trans b hB⟩
theorem RG.mono {B B' : Nat} {X : z_X} {m : z_R} (h : RG B X m) (hB : B ≤ B') : RG B' X m := by
  obtain ⟨h1, h2, ⟨old, sz, a1, a2, a3, a4, a5, a6⟩, h4⟩ := h
  exact ⟨h1, h2.mono hB, ⟨old, sz, a1, a2, a3, a4, a5, fun j hj => (a6 j hj).mono hB⟩, fun i hi => (h4 i hi).imp id fun q => ⟨q.1, q.2.1, q.2.2.mono hB⟩⟩
/-- what the relation does not speak of may change -/
theorem RG.fr {B : Nat} {X X' : z_X} {m m' : z_R} (h : RG B X m) (h1 : X'.1 = X.1) (h2 : X'.2.1 = X.2.1) (h3 : ∀ k, k = 0 ∨ 3 ≤ k → X'.2.2 k = X.2.2 k) (h4 : m' 1 = m 1 ∧ m' 5 = m 5 ∧ m' 6 = m 6 ∧ m' 7 = m 7 ∧ m' 8 = m 8) (h5 : m' 0 1 = m 0 1 ∧ m' 0 2 = m 0 2) : RG B X' m' := by
  obtain ⟨e1, e5, e6, e7, e8⟩ := h4
  obtain ⟨⟨len, t1, t2, t3, t4⟩, q2, ⟨old, sz, a1, a2, a3, a4, a5, a6⟩, q4⟩ := h
  refine ⟨⟨len, t1, by rw [h1]; exact t2, by rw [h5.2]; exact t3, by rw [h1, e8]; exact t4⟩, by rw [h3 0 (Or.inl rfl), e1]; exact q2, ⟨old, sz, a1, a2, by rw [h2]; exact a3, by rw [h2]; exact a4, by rw [h5.1]; exact a5, fun j hj => by rw [h3 _ (Or.inr (by omega)), e5]; exact a6 j hj⟩, fun i hi => ?_⟩
  rw [h2, h3 _ (Or.inr (by omega)), e6, e7]
  exact q4 i hi
/-- the state now is another one -/
theorem RG.nw {B B' : Nat} {X : z_X} {m : z_R} {g : z_R} {s : Nat → Int32} (h : RG B X m) (hB : B ≤ B') (hs : m_St B' g s) : RG B' (X.1, X.2.1, z_u3 X.2.2 0 g) (z_uR m 1 s) := by
  obtain ⟨⟨len, t1, t2, t3, t4⟩, q2, ⟨old, sz, a1, a2, a3, a4, a5, a6⟩, q4⟩ := h.mono hB
  refine ⟨⟨len, t1, t2, by rw [m_other _ _ (by decide : (0 : Nat) ≠ 1)]; exact t3, by rw [m_other _ _ (by decide : (8 : Nat) ≠ 1)]; exact t4⟩, by rw [m_same]; exact hs, ⟨old, sz, a1, a2, a3, a4, by rw [m_other _ _ (by decide : (0 : Nat) ≠ 1)]; exact a5, fun j hj => ?_⟩, fun i hi => ?_⟩
  · rw [m_other _ _ (by decide : (5 : Nat) ≠ 1)]
    show m_St B' (z_u3 X.2.2 0 g ((old + j) % 14 + 3)) _
    rw [m_u3n _ g (by omega)]
    exact a6 j hj
  · rw [m_other _ _ (by decide : (6 : Nat) ≠ 1), m_other _ _ (by decide : (7 : Nat) ≠ 1)]
    show (X.2.1 1 i = 0 ∧ _) ∨ (X.2.1 1 i = 1 ∧ _ ∧ m_St B' (z_u3 X.2.2 0 g (i + 17)) _)
    rw [m_u3n _ g (by omega)]
    exact q4 i hi
theorem m_kd (m : z_R) (k : Int32) : z_u2 m 0 0 k 0 0 = k := by rw [m_u2s, m_us]
theorem m_kd1 (m : z_R) (k : Int32) {r : Nat} (hr : r ≠ 0) : z_u2 m 0 0 k r = m r := m_u2n m 0 k hr
theorem RG.kd {B : Nat} {X : z_X} {m : z_R} (h : RG B X m) (k : Int32) : RG B X (z_u2 m 0 0 k) := h.fr rfl rfl (fun _ _ => rfl) ⟨m_kd1 m k (by decide), m_kd1 m k (by decide), m_kd1 m k (by decide), m_kd1 m k (by decide), m_kd1 m k (by decide)⟩ ⟨by rw [m_u2s, m_un _ _ (by decide)], by rw [m_u2s, m_un _ _ (by decide)]⟩
section MR12
variable {N B : Nat} {X : z_X} {m : z_R}
def m_shf (u : Nat → Int32) (i : Nat) : Nat → Int32 := fun j => if j < i then u (j + 925) else u j
theorem m_rmL (u : Nat → Int32) : ∀ (k i fu : Nat), i + k = 12025 → k < fu → ∃ fv, lX5_remember_11 N fu (nI i) (z_uR m 5 (m_shf u i)) = lX5_remember_11 N (fv + 1) (nI 12025) (z_uR m 5 (m_shf u 12025)) := by
  intro k
  induction k with
  | zero =>
    intro i fu hi hfu
    have e : i = 12025 := by omega
    subst e
    exact ⟨fu - 1, by rw [show fu - 1 + 1 = fu by omega]⟩
  | succ k ih =>
    intro i fu hi hfu
    obtain ⟨fu, rfl⟩ : ∃ q, fu = q + 1 := ⟨fu - 1, by omega⟩
    obtain ⟨fv, hv⟩ := ih (i + 1) fu (by omega) (by omega)
    refine ⟨fv, ?_⟩
    rw [← hv, lX5_remember_11.eq_2, if_neg (show ¬ (12025 : Int32) ≤ nI i from nI_ge (b := 12025) (by omega) (by decide)), show nI i + (925 : Int32) = nI (i + 925) from nI_add i 925, m_in (by omega) (by decide), m_ckt, m_in (by omega) (by decide), m_ckt, m_clamp (by omega), m_clamp (by omega), m_same, m_uRR, m_lt, nI_1]
    have e : upd (m_shf u i) i (m_shf u i (i + 925)) = m_shf u (i + 1) := by
      funext j
      by_cases c : j = i
      · subst c
        rw [m_us]
        unfold m_shf
        rw [if_neg (by omega), if_pos (by omega)]
      · rw [m_un _ _ c]
        unfold m_shf
        by_cases c2 : j < i
        · rw [if_pos c2, if_pos (by omega)]
        · rw [if_neg c2, if_neg (by omega)]
    rw [e]
/-- the state now is remembered, on both sides -/
theorem m_remember (h : RG B X m) (hN : 13000 ≤ N) (hN2 : N < 2 ^ 31) : ∃ X' m', fX1_remember N X = some X' ∧ fX5_remember N m = some m' ∧ RG B X' m' ∧ X'.2.2 0 = X.2.2 0 ∧ m' 1 = m 1 ∧ m' 0 0 = m 0 0 := by
  obtain ⟨ht, hn, ⟨old, sz, a1, a2, a3, a4, a5, a6⟩, hsl⟩ := h
  obtain ⟨n, P, T, J, hrs, hT⟩ := id hn
  have hix : (X.2.1 0 0 + X.2.1 0 1) - (X.2.1 0 0 + X.2.1 0 1) / (14 : Int32) * (14 : Int32) = nI ((old + sz) % 14) := by
    rw [a3, a4, nI_add, show (14 : Int32) = nI 14 from rfl, pk_rem (by omega) (by decide) (by decide)]
  obtain ⟨u, u1, u2⟩ := m_copyC (N := N) hrs (by omega) hN2 (X.2.2 ((old + sz) % 14 + 3))
  have hu : ∀ s' : Nat → Int32, (∀ k, k < 925 → s' k = m 1 k) → m_St B u s' := fun s' hs' => ⟨n, P, T, J, u2 hrs hs', hT⟩
  by_cases c : sz < 14
  · refine ⟨(X.1, z_u2 X.2.1 0 1 (nI (sz + 1)), z_u3 X.2.2 ((old + sz) % 14 + 3) u), z_u2 (z_uR m 5 (m_cp (m 1) 0 (m 5) (925 * sz) 925)) 0 1 (nI (sz + 1)), ?_, ?_, ⟨?_, ?_, ?_, ?_⟩, m_u3n (k := (old + sz) % 14 + 3) (j := 0) X.2.2 u (by omega), ?_, ?_⟩
    · unfold fX1_remember
      rw [hix, m_in (by omega) (by decide), m_ckt, m_clamp (by omega), u1, m_bind, m_lt]
      dsimp only
      rw [a4, if_neg (show ¬ (14 : Int32) ≤ nI sz from nI_ge (b := 14) c (by decide)), nI_1, m_lt]
    · unfold fX5_remember
      rw [a5, if_neg (show ¬ nI sz = (14 : Int32) from fun e => by have := m_nI_inj (a := sz) (b := 14) (by omega) (by decide) e; omega), show nI sz * (925 : Int32) = nI (925 * sz) by rw [show (925 : Int32) = nI 925 from rfl, pk_mul, Nat.mul_comm], m_cpM (ln := 925) (lk := 12950) (x := 0) (N := N) (a := 0) (b := 925 * sz) rfl rfl (by decide) (by omega) (by decide) (by decide) (by omega), m_bind, m_lt, m_lt, m_other _ _ (by decide : (0 : Nat) ≠ 5), a5, nI_1]
    · obtain ⟨len, t1, t2, t3, t4⟩ := ht
      refine ⟨len, t1, t2, by rw [m_u2s, m_un _ _ (by decide), m_other _ _ (by decide : (0 : Nat) ≠ 5)]; exact t3, by rw [m_u2n _ _ _ (by decide : (8 : Nat) ≠ 0), m_other _ _ (by decide : (8 : Nat) ≠ 5)]; exact t4⟩
    · rw [m_u2n _ _ _ (by decide : (1 : Nat) ≠ 0), m_other _ _ (by decide : (1 : Nat) ≠ 5)]
      show m_St B (z_u3 X.2.2 ((old + sz) % 14 + 3) u 0) _
      rw [m_u3n _ u (by omega)]
      exact hn
    · refine ⟨old, sz + 1, a1, by omega, ?_, ?_, by rw [m_u2s, m_us], fun j hj => ?_⟩
      · show z_u2 X.2.1 0 1 (nI (sz + 1)) 0 0 = nI old
        rw [m_u2s, m_un _ _ (by decide)]; exact a3
      · show z_u2 X.2.1 0 1 (nI (sz + 1)) 0 1 = nI (sz + 1)
        rw [m_u2s, m_us]
      · rw [m_u2n _ _ _ (by decide : (5 : Nat) ≠ 0), m_same]
        by_cases e : j = sz
        · subst e
          show m_St B (z_u3 X.2.2 ((old + j) % 14 + 3) u ((old + j) % 14 + 3)) _
          rw [m_u3s]
          exact hu _ fun k hk => by
            show m_cp (m 1) 0 (m 5) (925 * j) 925 (925 * j + k) = m 1 k
            rw [m_cpI hk, Nat.zero_add]
        · show m_St B (z_u3 X.2.2 ((old + sz) % 14 + 3) u ((old + j) % 14 + 3)) _
          rw [m_u3n _ u (by omega)]
          obtain ⟨n', P', T', J', b1, b2⟩ := a6 j (by omega)
          exact ⟨n', P', T', J', b1.cg (fun _ _ => rfl) (fun _ _ _ _ _ => rfl) (fun _ _ => ⟨rfl, rfl⟩) (fun _ _ => ⟨rfl, rfl, rfl⟩) (fun k hk => by
            show m_cp (m 1) 0 (m 5) (925 * sz) 925 (925 * j + k) = m 5 (925 * j + k)
            exact m_cpO (Or.inl (by omega))), b2⟩
    · intro i hi
      show (z_u2 X.2.1 0 1 (nI (sz + 1)) 1 i = 0 ∧ _) ∨ (z_u2 X.2.1 0 1 (nI (sz + 1)) 1 i = 1 ∧ _ ∧ m_St B (z_u3 X.2.2 ((old + sz) % 14 + 3) u (i + 17)) _)
      rw [m_u2n _ _ _ (by decide : (7 : Nat) ≠ 0), m_other _ _ (by decide : (7 : Nat) ≠ 5), m_u2n _ _ _ (by decide : (6 : Nat) ≠ 0), m_other _ _ (by decide : (6 : Nat) ≠ 5), m_u2n _ _ _ (by decide : (1 : Nat) ≠ 0), m_u3n _ u (by omega)]
      exact hsl i hi
    · rw [m_u2n _ _ _ (by decide : (1 : Nat) ≠ 0), m_other _ _ (by decide : (1 : Nat) ≠ 5)]
    · rw [m_u2s, m_un _ _ (by decide), m_other _ _ (by decide : (0 : Nat) ≠ 5)]
  · have e14 : sz = 14 := by omega
    subst e14
    refine ⟨(X.1, z_u2 X.2.1 0 0 (nI ((old + 1) % 14)), z_u3 X.2.2 ((old + 14) % 14 + 3) u), z_u2 (z_uR (z_u2 (z_uR m 5 (m_shf (m 5) 12025)) 0 1 (nI 13)) 5 (m_cp (m 1) 0 (m_shf (m 5) 12025) 12025 925)) 0 1 (nI 14), ?_, ?_, ⟨?_, ?_, ?_, ?_⟩, m_u3n (k := (old + 14) % 14 + 3) (j := 0) X.2.2 u (by omega), ?_, ?_⟩
    · unfold fX1_remember
      rw [hix, m_in (by omega) (by decide), m_ckt, m_clamp (by omega), u1, m_bind, m_lt]
      dsimp only
      rw [a4, if_pos (show (14 : Int32) ≤ nI 14 by decide), a3, nI_1, show (14 : Int32) = nI 14 from rfl, pk_rem (by omega) (by decide) (by decide), m_lt]
    · unfold fX5_remember
      obtain ⟨fv, hv⟩ := m_rmL (N := N) (m := m) (m 5) 12025 0 N (by decide) (by omega)
      have e0 : m_shf (m 5) 0 = m 5 := by
        funext j
        exact if_neg (Nat.not_lt_zero j)
      rw [e0, m_self] at hv
      rw [a5, if_pos (show nI 14 = (14 : Int32) from rfl), show (0 : Int32) = nI 0 from rfl, hv, lX5_remember_11.eq_2, if_pos (by decide), m_other _ _ (by decide : (0 : Nat) ≠ 5), a5, show nI 14 - (1 : Int32) = nI 13 by decide, m_lt]
      rw [m_u2n _ _ _ (by decide : (1 : Nat) ≠ 0), m_u2n _ _ _ (by decide : (5 : Nat) ≠ 0), m_other _ _ (by decide : (1 : Nat) ≠ 5), m_same, show z_u2 (z_uR m 5 (m_shf (m 5) 12025)) 0 1 (nI 13) 0 1 = nI 13 by rw [m_u2s, m_us], show nI 13 * (925 : Int32) = nI 12025 by decide, m_cpM (ln := 925) (lk := 12950) (x := 0) (N := N) (a := 0) (b := 12025) rfl rfl (by decide) (by decide) (by decide) (by decide) (by omega), m_bind, m_lt, m_other _ _ (by decide : (0 : Nat) ≠ 5), show z_u2 (z_uR m 5 (m_shf (m 5) 12025)) 0 1 (nI 13) 0 1 = nI 13 by rw [m_u2s, m_us], show nI 13 + (1 : Int32) = nI 14 by decide, m_lt]
    · obtain ⟨len, t1, t2, t3, t4⟩ := ht
      refine ⟨len, t1, t2, by rw [m_u2s, m_un _ _ (by decide), m_other _ _ (by decide : (0 : Nat) ≠ 5), m_u2s, m_un _ _ (by decide), m_other _ _ (by decide : (0 : Nat) ≠ 5)]; exact t3, by rw [m_u2n _ _ _ (by decide : (8 : Nat) ≠ 0), m_other _ _ (by decide : (8 : Nat) ≠ 5), m_u2n _ _ _ (by decide : (8 : Nat) ≠ 0), m_other _ _ (by decide : (8 : Nat) ≠ 5)]; exact t4⟩
    · rw [m_u2n _ _ _ (by decide : (1 : Nat) ≠ 0), m_other _ _ (by decide : (1 : Nat) ≠ 5), m_u2n _ _ _ (by decide : (1 : Nat) ≠ 0), m_other _ _ (by decide : (1 : Nat) ≠ 5)]
      show m_St B (z_u3 X.2.2 ((old + 14) % 14 + 3) u 0) _
      rw [m_u3n _ u (by omega)]
      exact hn
    · refine ⟨(old + 1) % 14, 14, by omega, by decide, ?_, ?_, by rw [m_u2s, m_us], fun j hj => ?_⟩
      · show z_u2 X.2.1 0 0 (nI ((old + 1) % 14)) 0 0 = nI ((old + 1) % 14)
        rw [m_u2s, m_us]
      · show z_u2 X.2.1 0 0 (nI ((old + 1) % 14)) 0 1 = nI 14
        rw [m_u2s, m_un _ _ (by decide)]; exact a4
      · rw [m_u2n _ _ _ (by decide : (5 : Nat) ≠ 0), m_same]
        by_cases e : j = 13
        · subst e
          show m_St B (z_u3 X.2.2 ((old + 14) % 14 + 3) u (((old + 1) % 14 + 13) % 14 + 3)) _
          rw [show ((old + 1) % 14 + 13) % 14 + 3 = (old + 14) % 14 + 3 by omega, m_u3s]
          exact hu _ fun k hk => by
            show m_cp (m 1) 0 (m_shf (m 5) 12025) 12025 925 (925 * 13 + k) = m 1 k
            rw [show 925 * 13 + k = 12025 + k by omega, m_cpI hk, Nat.zero_add]
        · show m_St B (z_u3 X.2.2 ((old + 14) % 14 + 3) u (((old + 1) % 14 + j) % 14 + 3)) _
          rw [m_u3n _ u (by omega)]
          obtain ⟨n', P', T', J', b1, b2⟩ := a6 (j + 1) (by omega)
          rw [show ((old + 1) % 14 + j) % 14 + 3 = (old + (j + 1)) % 14 + 3 by omega]
          exact ⟨n', P', T', J', b1.cg (fun _ _ => rfl) (fun _ _ _ _ _ => rfl) (fun _ _ => ⟨rfl, rfl⟩) (fun _ _ => ⟨rfl, rfl, rfl⟩) (fun k hk => by
            show m_cp (m 1) 0 (m_shf (m 5) 12025) 12025 925 (925 * j + k) = m 5 (925 * (j + 1) + k)
            rw [m_cpO (Or.inl (by omega))]
            unfold m_shf
            rw [if_pos (by omega)]
            congr 1
            omega), b2⟩
    · intro i hi
      show (z_u2 X.2.1 0 0 (nI ((old + 1) % 14)) 1 i = 0 ∧ _) ∨ (z_u2 X.2.1 0 0 (nI ((old + 1) % 14)) 1 i = 1 ∧ _ ∧ m_St B (z_u3 X.2.2 ((old + 14) % 14 + 3) u (i + 17)) _)
      rw [m_u2n _ _ _ (by decide : (7 : Nat) ≠ 0), m_other _ _ (by decide : (7 : Nat) ≠ 5), m_u2n _ _ _ (by decide : (7 : Nat) ≠ 0), m_other _ _ (by decide : (7 : Nat) ≠ 5), m_u2n _ _ _ (by decide : (6 : Nat) ≠ 0), m_other _ _ (by decide : (6 : Nat) ≠ 5), m_u2n _ _ _ (by decide : (6 : Nat) ≠ 0), m_other _ _ (by decide : (6 : Nat) ≠ 5), m_u2n _ _ _ (by decide : (1 : Nat) ≠ 0), m_u3n _ u (by omega)]
      exact hsl i hi
    · rw [m_u2n _ _ _ (by decide : (1 : Nat) ≠ 0), m_other _ _ (by decide : (1 : Nat) ≠ 5), m_u2n _ _ _ (by decide : (1 : Nat) ≠ 0), m_other _ _ (by decide : (1 : Nat) ≠ 5)]
    · rw [m_u2s, m_un _ _ (by decide), m_other _ _ (by decide : (0 : Nat) ≠ 5), m_u2s, m_un _ _ (by decide), m_other _ _ (by decide : (0 : Nat) ≠ 5)]
end MR12
