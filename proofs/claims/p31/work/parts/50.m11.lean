/-! copies of states, on both sides -/
section MR11
variable {E : Nat → Prop} {N n P T J : Nat} {g g' h m : z_R} {s s' : Nat → Int32}
theorem RS.cg (h : RS E n P T J g s) (hg0 : ∀ k, k ≤ 4 → g' 0 k = g 0 k) (hg : ∀ r o, 1 ≤ r → r ≤ 9 → o < 16 → g' r o = g r o) (h10 : ∀ i, i < 4 → g' 10 i = g 10 i ∧ g' 11 i = g 11 i) (hj : ∀ i, i < J → g' 13 i = g 13 i ∧ g' 14 i = g 14 i ∧ g' 15 i = g 15 i) (hs : ∀ k, k < 925 → s' k = s k) : RS E n P T J g' s' := by
  have h16 := h.n16
  have hJ := h.J256
  refine ⟨h.1, ?_, ?_, ?_, ?_, ?_, ?_, ?_, ?_, ?_, ?_, ?_⟩
  · rw [hg0 0 (by decide), hg0 1 (by decide), hg0 2 (by decide), hg0 4 (by decide)]; exact h.2.1
  · rw [hs 0 (by decide), hs 2 (by decide)]; exact h.2.2.1
  · rw [hs 1 (by decide), hs 4 (by decide), hg0 3 (by decide)]; exact h.2.2.2.1
  · rw [hs 3 (by decide)]; exact h.2.2.2.2.1
  · intro i hi
    rw [hs (5 + i) (by omega), hs (9 + i) (by omega), (h10 i hi).1, (h10 i hi).2]
    exact h.2.2.2.2.2.1 i hi
  · intro o r ho h1 h9
    rw [hs _ (by omega), hg r o h1 h9 (by omega)]
    exact h.2.2.2.2.2.2.1 o r ho h1 h9
  · intro o q ho hq hoq
    rw [hg 6 o (by decide) (by decide) (by omega), hg 6 q (by decide) (by decide) (by omega)]; exact h.ap ho hq hoq
  · intro o ho h16
    rw [hg 8 o (by decide) (by decide) h16]; exact h.op0 ho h16
  · intro e i hi
    rw [hs _ (by omega), hs _ (by omega), hs _ (by omega), (hj i hi).1, (hj i hi).2.1, (hj i hi).2.2]
    exact h.ju e hi
  · intro i hi
    rw [(hj i hi).1, (hj i hi).2.1]; exact h.jv hi
  · intro i k hi hk
    rw [(hj i (by omega)).1, (hj i (by omega)).2.1, (hj k hk).1, (hj k hk).2.1]; exact h.jd hi hk
def m_up (f u : Nat → Int32) (n : Nat) : Nat → Int32 := fun j => if j < n then f j else u j
theorem m_crL {ln : Nat} (hl : ln < 2 ^ 31) (f u : Nat → Int32) : ∀ (k i fu : Nat), i + k = ln → k < fu → lX2_copyRow_2 N ln f fu (nI i) (m_up f u i) = some (m_up f u ln) := by
  intro k
  induction k with
  | zero =>
    intro i fu hi hfu
    obtain ⟨fu, rfl⟩ : ∃ q, fu = q + 1 := ⟨fu - 1, by omega⟩
    have e : i = ln := by omega
    subst e
    rw [lX2_copyRow_2.eq_2, show (Int32.ofNat i) = nI i from rfl, if_pos (nI_le (Nat.le_refl i) hl)]
  | succ k ih =>
    intro i fu hi hfu
    obtain ⟨fu, rfl⟩ : ∃ q, fu = q + 1 := ⟨fu - 1, by omega⟩
    rw [lX2_copyRow_2.eq_2, show (Int32.ofNat ln) = nI ln from rfl, if_neg (nI_ge (by omega) hl), if_neg (nI_ge (by omega) hl), m_in (by omega) hl, m_ckt, m_ckt, m_clamp (by omega), m_lt, nI_1]
    have e : upd (m_up f u i) i (f i) = m_up f u (i + 1) := by
      funext j
      by_cases c : j = i
      · subst c
        rw [m_us]
        exact (if_pos (Nat.lt_succ_self j)).symm
      · rw [m_un _ _ c]
        unfold m_up
        by_cases c2 : j < i
        · rw [if_pos c2, if_pos (by omega)]
        · rw [if_neg c2, if_neg (by omega)]
    rw [e]
    exact ih (i + 1) fu (by omega) (by omega)
theorem m_cr {ln : Nat} (hl : ln < N) (hN : N < 2 ^ 31) (f u : Nat → Int32) : fX2_copyRow N ln f u = some (m_up f u ln) := by
  have e : m_up f u 0 = u := by
    funext j
    exact if_neg (Nat.not_lt_zero j)
  have h := m_crL (N := N) (ln := ln) (by omega) f u ln 0 N (by omega) hl
  rw [e] at h
  exact h
theorem m_cjL (hJ : h 0 4 = nI J) (hJ6 : J ≤ 256) : ∀ (k i fu : Nat) (g : z_R), i + k = J → k < fu → (∀ q, q < i → g 13 q = h 13 q ∧ g 14 q = h 14 q ∧ g 15 q = h 15 q) → ∃ g', lX0_copyFrom_2 N h fu (nI i) g = some g' ∧ (∀ q, q < J → g' 13 q = h 13 q ∧ g' 14 q = h 14 q ∧ g' 15 q = h 15 q) ∧ g' 0 4 = nI J ∧ (∀ k, k ≠ 4 → g' 0 k = g 0 k) ∧ (∀ r, 1 ≤ r → r ≤ 12 → g' r = g r) := by
  intro k
  induction k with
  | zero =>
    intro i fu g hi hfu hb
    obtain ⟨fu, rfl⟩ : ∃ q, fu = q + 1 := ⟨fu - 1, by omega⟩
    have e : i = J := by omega
    subst e
    refine ⟨z_u2 g 0 4 (nI i), ?_, fun q hq => ?_, by rw [m_u2s, m_us], fun k hk => by rw [m_u2s, m_un _ _ hk], fun r h1 h2 => m_u2n _ _ _ (by omega)⟩
    · rw [lX0_copyFrom_2.eq_2, hJ, if_pos (nI_le (Nat.le_refl i) (by omega)), m_lt]
    · rw [m_u2n _ _ _ (by decide), m_u2n _ _ _ (by decide), m_u2n _ _ _ (by decide)]; exact hb q hq
  | succ k ih =>
    intro i fu g hi hfu hb
    obtain ⟨fu, rfl⟩ : ∃ q, fu = q + 1 := ⟨fu - 1, by omega⟩
    obtain ⟨G, hG⟩ : ∃ G, G = z_u2 (z_u2 (z_u2 g 13 i (h 13 i)) 14 i (h 14 i)) 15 i (h 15 i) := ⟨_, rfl⟩
    have g13 : G 13 = upd (g 13) i (h 13 i) := by rw [hG, m_u2n _ _ _ (by decide), m_u2n _ _ _ (by decide), m_u2s]
    have g14 : G 14 = upd (g 14) i (h 14 i) := by rw [hG, m_u2n _ _ _ (by decide), m_u2s, m_u2n _ _ _ (by decide)]
    have g15 : G 15 = upd (g 15) i (h 15 i) := by rw [hG, m_u2s, m_u2n _ _ _ (by decide), m_u2n _ _ _ (by decide)]
    have gr : ∀ r, r ≤ 12 → G r = g r := fun r hr => by rw [hG, m_u2n _ _ _ (by omega), m_u2n _ _ _ (by omega), m_u2n _ _ _ (by omega)]
    obtain ⟨g', a1, a2, a3, a4, a5⟩ := ih (i + 1) fu G (by omega) (by omega) (fun q hq => by
      rw [g13, g14, g15]
      by_cases c : q = i
      · subst c; rw [m_us, m_us, m_us]; exact ⟨rfl, rfl, rfl⟩
      · rw [m_un _ _ c, m_un _ _ c, m_un _ _ c]; exact hb q (by omega))
    refine ⟨g', ?_, a2, a3, fun k hk => by rw [a4 k hk, gr 0 (by decide)], fun r h1 h2 => by rw [a5 r h1 h2, gr r h2]⟩
    rw [lX0_copyFrom_2.eq_2, hJ, if_neg (nI_ge (by omega) (by omega)), m_in (by omega) (by decide), m_ckt, m_ckt, m_clamp (by omega), m_lt, m_ckt, m_ckt, m_lt, m_ckt, m_ckt, m_lt, nI_1, ← hG]
    exact a1
/-- the class copies a state -/
theorem m_copyC (hs : RS E n P T J h s) (hN : 260 ≤ N) (hN2 : N < 2 ^ 31) (g : z_R) : ∃ g', fX2_copyFrom N h g = some g' ∧ ∀ {E' : Nat → Prop} {n' P' T' J' : Nat} {s' s'' : Nat → Int32}, RS E' n' P' T' J' h s' → (∀ k, k < 925 → s'' k = s' k) → RS E' n' P' T' J' g' s'' := by
  obtain ⟨G, hG⟩ : ∃ G, G = z_u2 (z_u2 (z_u2 (z_u2 g 0 0 (h 0 0)) 0 1 (h 0 1)) 0 2 (h 0 2)) 0 3 (h 0 3) := ⟨_, rfl⟩
  obtain ⟨G', hG'⟩ : ∃ G', G' = z_uR (z_uR (z_uR (z_uR (z_uR (z_uR (z_uR (z_uR (z_uR (z_uR (z_uR G 1 (m_up (h 1) (G 1) 16)) 2 (m_up (h 2) (G 2) 16)) 3 (m_up (h 3) (G 3) 16)) 4 (m_up (h 4) (G 4) 16)) 5 (m_up (h 5) (G 5) 16)) 6 (m_up (h 6) (G 6) 16)) 7 (m_up (h 7) (G 7) 16)) 8 (m_up (h 8) (G 8) 16)) 9 (m_up (h 9) (G 9) 16)) 10 (m_up (h 10) (G 10) 4)) 11 (m_up (h 11) (G 11) 4) := ⟨_, rfl⟩
  obtain ⟨g', a1, a2, a3, a4, a5⟩ := m_cjL (N := N) hs.gJ hs.J256 J 0 N G' (by omega) (by have := hs.J256; omega) (fun q hq => absurd hq (Nat.not_lt_zero q))
  refine ⟨g', ?_, fun {E' n' P' T' J' s' s''} h1 h2 => ?_⟩
  · unfold fX2_copyFrom fX0_copyFrom
    have c16 : ∀ f u, fX2_copyRow N 16 f u = some (m_up f u 16) := fun f u => m_cr (by omega) hN2 f u
    have c4 : ∀ f u, fX2_copyRow N 4 f u = some (m_up f u 4) := fun f u => m_cr (by omega) hN2 f u
    rw [m_lt, m_lt, m_lt, m_lt, ← hG]
    simp only [c16, c4, m_bind, m_lt]
    rw [m_other _ _ (show (2 : Nat) ≠ 1 by decide)]
    simp only [m_other _ _ (show (3 : Nat) ≠ 2 by decide), m_other _ _ (show (3 : Nat) ≠ 1 by decide), m_other _ _ (show (4 : Nat) ≠ 3 by decide), m_other _ _ (show (4 : Nat) ≠ 2 by decide), m_other _ _ (show (4 : Nat) ≠ 1 by decide), m_other _ _ (show (5 : Nat) ≠ 4 by decide), m_other _ _ (show (5 : Nat) ≠ 3 by decide), m_other _ _ (show (5 : Nat) ≠ 2 by decide), m_other _ _ (show (5 : Nat) ≠ 1 by decide), m_other _ _ (show (6 : Nat) ≠ 5 by decide), m_other _ _ (show (6 : Nat) ≠ 4 by decide), m_other _ _ (show (6 : Nat) ≠ 3 by decide), m_other _ _ (show (6 : Nat) ≠ 2 by decide), m_other _ _ (show (6 : Nat) ≠ 1 by decide), m_other _ _ (show (7 : Nat) ≠ 6 by decide), m_other _ _ (show (7 : Nat) ≠ 5 by decide), m_other _ _ (show (7 : Nat) ≠ 4 by decide), m_other _ _ (show (7 : Nat) ≠ 3 by decide), m_other _ _ (show (7 : Nat) ≠ 2 by decide), m_other _ _ (show (7 : Nat) ≠ 1 by decide), m_other _ _ (show (8 : Nat) ≠ 7 by decide), m_other _ _ (show (8 : Nat) ≠ 6 by decide), m_other _ _ (show (8 : Nat) ≠ 5 by decide), m_other _ _ (show (8 : Nat) ≠ 4 by decide), m_other _ _ (show (8 : Nat) ≠ 3 by decide), m_other _ _ (show (8 : Nat) ≠ 2 by decide), m_other _ _ (show (8 : Nat) ≠ 1 by decide), m_other _ _ (show (9 : Nat) ≠ 8 by decide), m_other _ _ (show (9 : Nat) ≠ 7 by decide), m_other _ _ (show (9 : Nat) ≠ 6 by decide), m_other _ _ (show (9 : Nat) ≠ 5 by decide), m_other _ _ (show (9 : Nat) ≠ 4 by decide), m_other _ _ (show (9 : Nat) ≠ 3 by decide), m_other _ _ (show (9 : Nat) ≠ 2 by decide), m_other _ _ (show (9 : Nat) ≠ 1 by decide), m_other _ _ (show (10 : Nat) ≠ 9 by decide), m_other _ _ (show (10 : Nat) ≠ 8 by decide), m_other _ _ (show (10 : Nat) ≠ 7 by decide), m_other _ _ (show (10 : Nat) ≠ 6 by decide), m_other _ _ (show (10 : Nat) ≠ 5 by decide), m_other _ _ (show (10 : Nat) ≠ 4 by decide), m_other _ _ (show (10 : Nat) ≠ 3 by decide), m_other _ _ (show (10 : Nat) ≠ 2 by decide), m_other _ _ (show (10 : Nat) ≠ 1 by decide), m_other _ _ (show (11 : Nat) ≠ 10 by decide), m_other _ _ (show (11 : Nat) ≠ 9 by decide), m_other _ _ (show (11 : Nat) ≠ 8 by decide), m_other _ _ (show (11 : Nat) ≠ 7 by decide), m_other _ _ (show (11 : Nat) ≠ 6 by decide), m_other _ _ (show (11 : Nat) ≠ 5 by decide), m_other _ _ (show (11 : Nat) ≠ 4 by decide), m_other _ _ (show (11 : Nat) ≠ 3 by decide), m_other _ _ (show (11 : Nat) ≠ 2 by decide), m_other _ _ (show (11 : Nat) ≠ 1 by decide)]
    rw [← hG', show (0 : Int32) = nI 0 from rfl, a1, m_bind]
  · have hJJ : J' = J := m_nI_inj (by have := h1.J256; omega) (by have := hs.J256; omega) (h1.gJ.symm.trans hs.gJ)
    subst hJJ
    have row : ∀ r o, 1 ≤ r → r ≤ 9 → o < 16 → g' r o = h r o := fun r o r1 r9 ho => by
      rw [a5 r r1 (by omega), hG']
      have hup : ∀ f u : Nat → Int32, m_up f u 16 o = f o := fun f u => if_pos ho
      rcases (show r = 1 ∨ r = 2 ∨ r = 3 ∨ r = 4 ∨ r = 5 ∨ r = 6 ∨ r = 7 ∨ r = 8 ∨ r = 9 by omega) with e | e | e | e | e | e | e | e | e <;> subst e <;> simp [z_uR, hup]
    have g00 : ∀ k, k ≤ 3 → g' 0 k = h 0 k := fun k hk => by
      rw [a4 k (by omega), hG']
      have e0 : G 0 k = h 0 k := by
        rw [hG]
        rcases (show k = 0 ∨ k = 1 ∨ k = 2 ∨ k = 3 by omega) with e | e | e | e <;> subst e <;> simp [z_u2, upd]
      simp [z_uR, e0]
    refine h1.cg (fun k hk => ?_) row (fun i hi => ?_) a2 h2
    · by_cases c : k = 4
      · subst c; rw [a3, h1.gJ]
      · exact g00 k (by omega)
    · have hup : ∀ f u : Nat → Int32, m_up f u 4 i = f i := fun f u => if_pos hi
      rw [a5 10 (by decide) (by decide), a5 11 (by decide) (by decide), hG']
      simp [z_uR, hup]
/-- the reference copies 925 numbers -/
def m_cp (f : Nat → Int32) (a : Nat) (u : Nat → Int32) (b i : Nat) : Nat → Int32 := fun j => if b ≤ j ∧ j < b + i then f (a + (j - b)) else u j
theorem m_cpL {ln lk a b : Nat} (ha : a + 925 ≤ ln) (hb : b + 925 ≤ lk) (hln : ln < 2 ^ 31) (hlk : lk < 2 ^ 31) (f u : Nat → Int32) : ∀ (k i fu : Nat), i + k = 925 → k < fu → lX5_copy_3 N ln lk f (nI a) (nI b) fu (nI i) (m_cp f a u b i) = some (m_cp f a u b 925) := by
  intro k
  induction k with
  | zero =>
    intro i fu hi hfu
    obtain ⟨fu, rfl⟩ : ∃ q, fu = q + 1 := ⟨fu - 1, by omega⟩
    have e : i = 925 := by omega
    subst e
    rw [lX5_copy_3.eq_2, if_pos (by decide)]
  | succ k ih =>
    intro i fu hi hfu
    obtain ⟨fu, rfl⟩ : ∃ q, fu = q + 1 := ⟨fu - 1, by omega⟩
    rw [lX5_copy_3.eq_2, if_neg (show ¬ (925 : Int32) ≤ nI i from nI_ge (b := 925) (by omega) (by decide)), nI_add, nI_add, m_in (by omega) hln, m_ckt, m_in (by omega) hlk, m_ckt, m_clamp (by omega), m_clamp (by omega), m_lt, nI_1]
    have e : upd (m_cp f a u b i) (b + i) (f (a + i)) = m_cp f a u b (i + 1) := by
      funext j
      by_cases c : j = b + i
      · subst c
        rw [m_us]
        unfold m_cp
        rw [if_pos ⟨by omega, by omega⟩, show a + (b + i - b) = a + i by omega]
      · rw [m_un _ _ c]
        unfold m_cp
        by_cases c2 : b ≤ j ∧ j < b + i
        · rw [if_pos c2, if_pos ⟨c2.1, by omega⟩]
        · rw [if_neg c2, if_neg (by omega)]
    rw [e]
    exact ih (i + 1) fu (by omega) (by omega)
theorem m_cpM {ln lk a b : Nat} {x y : Int32} (hx : x = nI a) (hy : y = nI b) (ha : a + 925 ≤ ln) (hb : b + 925 ≤ lk) (hln : ln < 2 ^ 31) (hlk : lk < 2 ^ 31) (hN : 930 ≤ N) (f u : Nat → Int32) : fX5_copy N ln lk f x y u = some (m_cp f a u b 925) := by
  subst hx
  subst hy
  have e : m_cp f a u b 0 = u := by
    funext j
    exact if_neg (by omega)
  have h := m_cpL (N := N) ha hb hln hlk f u 925 0 N (by omega) (by omega)
  rw [e] at h
  exact h
theorem m_cpI {f u : Nat → Int32} {a b k : Nat} (hk : k < 925) : m_cp f a u b 925 (b + k) = f (a + k) := by
  unfold m_cp
  rw [if_pos ⟨by omega, by omega⟩, show a + (b + k - b) = a + k by omega]
theorem m_cpO {f u : Nat → Int32} {a b j : Nat} (hj : j < b ∨ b + 925 ≤ j) : m_cp f a u b 925 j = u j := if_neg (by omega)
end MR11
