/-! the text: the reference's reading of digits and links -/
section MT2
variable {N len : Nat} {c : Nat → Nat} {m : z_R}
theorem m_wm {l u : Int32} {lo : Nat} (hl : l = nI lo) (h : lo < 2 ^ 31) : fX5_within N (-1) l u = some 0 := by
  rw [m_within]
  refine congrArg some (if_pos (Or.inl ?_))
  rw [hl, Int32.lt_iff_toInt_lt, nI_toInt h, m_ne1]
  omega
theorem m_wi {d lo hi : Nat} {l u : Int32} (hl : l = nI lo) (hu : u = nI hi) (hd : d < 2 ^ 31) (h1 : lo < 2 ^ 31) (h2 : hi < 2 ^ 31) : (fX5_within N (nI d) l u = some 1 ∧ lo ≤ d ∧ d ≤ hi) ∨ (fX5_within N (nI d) l u = some 0 ∧ ¬ (lo ≤ d ∧ d ≤ hi)) := by
  rw [m_within, hl, hu]
  by_cases c1 : d < lo
  · exact Or.inr ⟨congrArg some (if_pos (Or.inl (nI_lt c1 h1))), by omega⟩
  · by_cases c2 : hi < d
    · exact Or.inr ⟨congrArg some (if_pos (Or.inr (nI_lt c2 hd))), by omega⟩
    · exact Or.inl ⟨congrArg some (if_neg (fun q => q.elim (nI_nlt (by omega) hd) (nI_nlt (by omega) h2))), by omega, by omega⟩
theorem m_dg (h : m_Tr c len m) (i : Nat) (hi : i < 2 ^ 31) : (fX5_digit N (nI i) m = some (nI (c i - 48)) ∧ i < len ∧ 48 ≤ c i ∧ c i ≤ 57) ∨ (fX5_digit N (nI i) m = some (-1) ∧ ¬ (i < len ∧ 48 ≤ c i ∧ c i ≤ 57)) := by
  have h1 := h.1
  unfold fX5_digit
  rw [h.2.1]
  by_cases c1 : len ≤ i
  · exact Or.inr ⟨if_pos (nI_le c1 hi), by omega⟩
  · obtain ⟨q1, q2⟩ := h.2.2 i (by omega)
    rw [if_neg (nI_ge (by omega) (by omega)), m_in (by omega) (by decide), m_ckt, m_clamp hi, q2]
    rcases m_wi (N := N) (d := c i) (lo := 48) (hi := 57) (l := 48) (u := 57) rfl rfl (by omega) (by decide) (by decide) with ⟨w, w1, w2⟩ | ⟨w, w1⟩
    · rw [w, m_bind, if_neg m_1_0, m_ckt, show nI (c i) - (48 : Int32) = nI (c i - 48) from pk_sub (b := 48) w1]
      exact Or.inl ⟨rfl, by omega, w1, w2⟩
    · rw [w, m_bind, if_pos m_00]
      exact Or.inr ⟨rfl, by omega⟩
theorem m_dgY (h : m_Tr c len m) {i : Nat} (hi : i < len) (h1 : 48 ≤ c i) (h2 : c i ≤ 57) : fX5_digit N (nI i) m = some (nI (c i - 48)) := by
  have h3 := h.1
  rcases m_dg (N := N) h i (by omega) with ⟨q, -⟩ | ⟨-, q⟩
  · exact q
  · exact absurd ⟨hi, h1, h2⟩ q
theorem m_mi (h : m_Tr c len m) (i : Nat) (hi : i < 2 ^ 31) : (fX5_isMinus N (nI i) m = some 1 ∧ i < len ∧ c i = 45) ∨ (fX5_isMinus N (nI i) m = some 0 ∧ ¬ (i < len ∧ c i = 45)) := by
  have h1 := h.1
  unfold fX5_isMinus
  rw [h.2.1]
  by_cases c1 : len ≤ i
  · exact Or.inr ⟨if_pos (nI_le c1 hi), by omega⟩
  · obtain ⟨q1, q2⟩ := h.2.2 i (by omega)
    rw [if_neg (nI_ge (by omega) (by omega)), m_in (by omega) (by decide), m_ckt, m_clamp hi, q2]
    by_cases c2 : c i = 45
    · exact Or.inl ⟨if_pos (show nI (c i) = (45 : Int32) from congrArg nI c2), by omega, c2⟩
    · exact Or.inr ⟨if_neg (show ¬ nI (c i) = (45 : Int32) from m_neq (k := 45) (by omega) (by decide) c2), by omega⟩
/-- a digit within bounds -/
theorem m_dw (h : m_Tr c len m) (i : Nat) (hi : i < 2 ^ 31) {lo hi' : Nat} {l u : Int32} (hl : l = nI lo) (hu : u = nI hi') (h1 : lo < 10) (h2 : hi' < 10) : ∃ r, fX5_digit N (nI i) m = some r ∧ ((fX5_within N r l u = some 1 ∧ r = nI (c i - 48) ∧ i < len ∧ 48 + lo ≤ c i ∧ c i ≤ 48 + hi') ∨ (fX5_within N r l u = some 0 ∧ ¬ (i < len ∧ 48 + lo ≤ c i ∧ c i ≤ 48 + hi'))) := by
  rcases m_dg (N := N) h i hi with ⟨q, q1, q2, q3⟩ | ⟨q, q1⟩
  · refine ⟨_, q, ?_⟩
    rcases m_wi (N := N) (d := c i - 48) hl hu (by omega) (by omega) (by omega) with ⟨w, w1, w2⟩ | ⟨w, w1⟩
    · exact Or.inl ⟨w, rfl, q1, by omega, by omega⟩
    · exact Or.inr ⟨w, by omega⟩
  · exact ⟨_, q, Or.inr ⟨m_wm hl (by omega), by omega⟩⟩
theorem m_bl (h : m_Tr c len m) (p : Nat) (hp : p < 1000) : (fX5_behindLink N (nI p) m = some (nI p) ∧ ¬ (p < len ∧ m_kk (c p))) ∨ (fX5_behindLink N (nI p) m = some (nI (p + 1)) ∧ p < len ∧ m_kk (c p) ∧ ¬ (p + 1 < len ∧ m_eL (c p) (c (p + 1)))) ∨ (fX5_behindLink N (nI p) m = some (nI (p + 2)) ∧ p < len ∧ m_kk (c p) ∧ p + 1 < len ∧ m_eL (c p) (c (p + 1))) := by
  have e1 : nI p + (1 : Int32) = nI (p + 1) := nI_add p 1
  have e2 : nI p + (2 : Int32) = nI (p + 2) := nI_add p 2
  unfold fX5_behindLink m_kk m_eL
  rw [e1, e2]
  rcases m_mi (N := N) h p (by omega) with ⟨a, a1, a2⟩ | ⟨a, a1⟩
  · rcases m_dg (N := N) h p (by omega) with ⟨q, q1, q2, q3⟩ | ⟨q, q1⟩
    · omega
    · rw [q, m_bind, a, m_bind, if_neg m_1_0, if_neg (show ¬ (0 : Int32) ≤ -1 by decide)]
      rcases m_mi (N := N) h (p + 1) (by omega) with ⟨b, b1, b2⟩ | ⟨b, b1⟩
      · rw [b, m_bind, if_neg m_1_0]
        exact Or.inr (Or.inr ⟨rfl, by omega, by omega, by omega, by omega⟩)
      · rw [b, m_bind, if_pos m_00]
        exact Or.inr (Or.inl ⟨rfl, by omega, by omega, by omega⟩)
  · obtain ⟨r, q, w⟩ := m_dw (N := N) (lo := 0) (hi' := 1) (l := 0) (u := 1) h p (by omega) rfl rfl (by decide) (by decide)
    rw [q, m_bind, a, m_bind, if_pos m_00]
    rcases w with ⟨w, wr, w1, w2, w3⟩ | ⟨w, w1⟩
    · rw [w, m_bind, if_neg m_1_0, wr, if_pos (nI_pos' (by omega))]
      rcases (show c p = 48 ∨ c p = 49 by omega) with k | k
      · obtain ⟨r2, b, v⟩ := m_dw (N := N) (lo := 0) (hi' := 9) (l := 0) (u := 9) h (p + 1) (by omega) rfl rfl (by decide) (by decide)
        rw [b, m_bind, if_pos (show nI (c p - 48) = 0 by rw [k]; exact nI_0)]
        rcases v with ⟨v, vr, v1, v2, v3⟩ | ⟨v, v1⟩
        · rw [v, m_bind, if_neg m_1_0]
          exact Or.inr (Or.inr ⟨rfl, by omega, by omega, by omega, by omega⟩)
        · rw [v, m_bind, if_pos m_00]
          exact Or.inr (Or.inl ⟨rfl, by omega, by omega, by omega⟩)
      · obtain ⟨r2, b, v⟩ := m_dw (N := N) (lo := 0) (hi' := 5) (l := 0) (u := 5) h (p + 1) (by omega) rfl rfl (by decide) (by decide)
        rw [b, m_bind, if_neg (show ¬ nI (c p - 48) = 0 by rw [k]; decide)]
        rcases v with ⟨v, vr, v1, v2, v3⟩ | ⟨v, v1⟩
        · rw [v, m_bind, if_neg m_1_0]
          exact Or.inr (Or.inr ⟨rfl, by omega, by omega, by omega, by omega⟩)
        · rw [v, m_bind, if_pos m_00]
          exact Or.inr (Or.inl ⟨rfl, by omega, by omega, by omega⟩)
    · rw [w, m_bind, if_pos m_00]
      exact Or.inl ⟨rfl, by omega⟩
/-- the number that two characters tell -/
def m_pv (a b : Nat) : Int32 := if a = 45 then -1 else nI (10 * (a - 48) + (b - 48))
theorem m_lkv (h : m_Tr c len m) {i : Nat} (h1 : i + 1 < len) (hk : m_kk (c i)) (he : m_eL (c i) (c (i + 1))) : fX5_link N (nI i) m = some (m_pv (c i) (c (i + 1))) := by
  have h3 := h.1
  unfold fX5_link m_pv
  unfold m_kk at hk
  unfold m_eL at he
  rcases m_mi (N := N) h i (by omega) with ⟨a, a1, a2⟩ | ⟨a, a1⟩
  · rw [a, m_bind, if_neg m_1_0, if_pos a2]
  · rw [a, m_bind, if_pos m_00, if_neg (show ¬ c i = 45 by omega), m_dgY h (by omega) (by omega) (by omega), m_bind, nI_1, m_dgY h (by omega) (by omega) (by omega), m_bind, show (10 : Int32) * nI (c i - 48) = nI (10 * (c i - 48)) from pk_mul 10 _, nI_add]
theorem m_pvL {a b : Nat} (hk : m_kk a) (he : m_eL a b) : m_pv a b = -1 ∨ ∃ k, k < 16 ∧ m_pv a b = nI k := by
  unfold m_pv
  unfold m_kk at hk
  unfold m_eL at he
  by_cases q : a = 45
  · exact Or.inl (if_pos q)
  · exact Or.inr ⟨10 * (a - 48) + (b - 48), by omega, if_neg q⟩
theorem m_pvB {a b : Nat} (h1 : 48 ≤ a) (h2 : a ≤ 57) (h3 : 48 ≤ b) (h4 : b ≤ 57) : m_pv a b = nI (10 * (a - 48) + (b - 48)) := if_neg (by omega)
/-- an order is read into the draft -/
def m_sN (s : Nat → Int32) (j : Nat) (c : Nat → Nat) : Nat → Int32 := upd (m_s9 s j (nI (c (3 + 9 * j + 1) - 48)) (nI (c (3 + 9 * j + 2) - 48)) (m_pv (c (3 + 9 * j + 3)) (c (3 + 9 * j + 4))) (m_pv (c (3 + 9 * j + 5)) (c (3 + 9 * j + 6))) (m_pv (c (3 + 9 * j + 7)) (c (3 + 9 * j + 8)))) 2 (nI (j + 1))
theorem m_stp {s0 s : Nat → Int32} {j p r : Nat} {q v : Int32} (hs : s0 2 = nI j) (hj : j < 16) (hq : q = nI p) (hp : p + 1 = r) (hr : r ≤ 9) {α : Type} (F : z_R → Option α) : z_ck (z_in (((13 : Int32) + ((9 : Int32) * ((z_uR m 4 s0) 4 ((2 : Int32)).toNatClampNeg))) + q) 925) (z_lt (z_u2 (z_uR m 4 s) 4 ((((13 : Int32) + ((9 : Int32) * ((z_uR m 4 s0) 4 ((2 : Int32)).toNatClampNeg))) + q)).toNatClampNeg v) F) = F (z_uR m 4 (upd s (12 + 9 * j + r) v)) := by
  rw [m_same, m_t2, hs, hq, m_idx, m_in (by omega) (by decide), m_ckt, m_clamp (by omega), m_uRR, m_lt, show 13 + 9 * j + p = 12 + 9 * j + r by omega]
theorem m_ro (h : m_Tr c len m) {e j : Nat} {s : Nat → Int32} (he : m_E c len e) (hj : j ≤ 16) (hs : s 2 = nI j) (hx : 3 + 9 * j ≤ e) (hxl : 3 + 9 * j < len) : (e < 3 + 9 * j + 9 ∧ fX5_readOrder N (nI (3 + 9 * j)) (z_uR m 4 s) = some (nI e, z_uR m 4 s)) ∨ (3 + 9 * j + 9 ≤ e ∧ j < 16 ∧ fX5_readOrder N (nI (3 + 9 * j)) (z_uR m 4 s) = some (-1, z_uR m 4 (m_sN s j c))) := by
  have h3 := h.1
  have he1 := he.1
  have he2 := he.e147
  have H := h.u s
  obtain ⟨x, hxe⟩ : ∃ x, x = 3 + 9 * j := ⟨_, rfl⟩
  rw [← hxe] at hx hxl ⊢
  have x1 : nI x + (1 : Int32) = nI (x + 1) := nI_add x 1
  have x2 : nI x + (2 : Int32) = nI (x + 2) := nI_add x 2
  have x3 : nI x + (3 : Int32) = nI (x + 3) := nI_add x 3
  have x5 : nI x + (5 : Int32) = nI (x + 5) := nI_add x 5
  have x7 : nI x + (7 : Int32) = nI (x + 7) := nI_add x 7
  have x8 : nI x + (8 : Int32) = nI (x + 8) := nI_add x 8
  unfold fX5_readOrder
  rw [x1, x2, x3, x5, x7, x8, m_in (by omega) (by decide), m_ckt, m_clamp (by omega), (H.2.2 x hxl).2]
  have hcx := (H.2.2 x hxl).1
  rcases Nat.lt_or_ge j 16 with hj | hj2
  rotate_left
  · have e16 : j = 16 := by omega
    subst e16
    have ee : e = x := by omega
    refine Or.inl ⟨by omega, ?_⟩
    rw [ee]
    by_cases k : c x = 111
    · rw [if_pos (show nI (c x) = (111 : Int32) from congrArg nI k), m_same, m_t2, hs, if_pos (show nI 16 = (16 : Int32) from rfl)]
    · rw [if_neg (show ¬ nI (c x) = (111 : Int32) from m_neq (k := 111) (by omega) (by decide) k)]
  have F : ∀ k, k < 9 → x + k ≤ e → (e = x + k ∧ ¬ (x + k < len ∧ m_alk c (x + k) k)) ∨ (x + (k + 1) ≤ e ∧ x + k < len ∧ m_alk c (x + k) k) := by
    intro k hk hke
    have ha := m_alx (c := c) (j := j) (k := k) hj hk
    rw [← hxe] at ha
    rw [← ha]
    by_cases q : e = x + k
    · refine Or.inl ⟨q, fun z => he.2.2 (by omega) ?_⟩
      rw [q]; exact z.2
    · exact Or.inr ⟨by omega, by omega, he.2.1 (x + k) (by omega)⟩
  rcases F 0 (by decide) (by omega) with ⟨f, g⟩ | ⟨f0, g0, a0⟩
  · refine Or.inl ⟨by omega, ?_⟩
    have k : ¬ c x = 111 := fun z => g ⟨hxl, fun _ => z, fun z => by omega, fun z => by omega, fun z => by omega, fun z => by omega, fun z => by omega⟩
    rw [if_neg (show ¬ nI (c x) = (111 : Int32) from m_neq (k := 111) (by omega) (by decide) k), f, Nat.add_zero]
  have k0 : c x = 111 := a0.1 rfl
  rw [if_pos (show nI (c x) = (111 : Int32) from congrArg nI k0)]
  have n16 : ¬ (z_uR m 4 s) 4 ((2 : Int32)).toNatClampNeg = (16 : Int32) := by
    rw [m_same, m_t2, hs]
    exact m_neq (k := 16) (by omega) (by decide) (by omega)
  rw [if_neg n16]
  obtain ⟨r1, p1, w1⟩ := m_dw (N := N) (lo := 0) (hi' := 3) (l := 0) (u := 3) H (x + 1) (by omega) rfl rfl (by decide) (by decide)
  rw [p1, m_bind]
  rcases F 1 (by decide) (by omega) with ⟨f, g⟩ | ⟨f1, g1, a1⟩
  · refine Or.inl ⟨by omega, ?_⟩
    rcases w1 with ⟨-, -, w1, w2, w3⟩ | ⟨w, -⟩
    · exact absurd ⟨w1, fun z => by omega, fun _ => ⟨by omega, by omega⟩, fun z => by omega, fun z => by omega, fun z => by omega, fun z => by omega⟩ g
    · rw [w, m_bind, if_pos m_00, f]
  have k1 := a1.2.1 rfl
  rcases w1 with ⟨w, wr, -, -, -⟩ | ⟨-, w1⟩
  rotate_left
  · exact absurd ⟨g1, by omega, by omega⟩ w1
  rw [w, m_bind, if_neg m_1_0]
  obtain ⟨r2, p2, w2⟩ := m_dw (N := N) (lo := 1) (hi' := 9) (l := 1) (u := 9) H (x + 2) (by omega) rfl rfl (by decide) (by decide)
  rw [p2, m_bind]
  rcases F 2 (by decide) (by omega) with ⟨f, g⟩ | ⟨f2, g2, a2⟩
  · refine Or.inl ⟨by omega, ?_⟩
    rcases w2 with ⟨-, -, w1, w2, w3⟩ | ⟨w, -⟩
    · exact absurd ⟨w1, fun z => by omega, fun z => by omega, fun _ => ⟨by omega, by omega⟩, fun z => by omega, fun z => by omega, fun z => by omega⟩ g
    · rw [w, m_bind, if_pos m_00, f]
  have k2 := a2.2.2.1 rfl
  rcases w2 with ⟨w2, wr2, -, -, -⟩ | ⟨-, w2⟩
  rotate_left
  · exact absurd ⟨g2, by omega, by omega⟩ w2
  rw [w2, m_bind, if_neg m_1_0]
  -- the first link
  have L3 := F 3 (by decide) (by omega)
  rcases m_bl (N := N) H (x + 3) (by omega) with ⟨b, b1⟩ | ⟨b, b1, b2, b3⟩ | ⟨b, b1, b2, b3, b4⟩
  · rw [b, m_bind, if_neg (nI_ge (by omega) (by omega))]
    rcases L3 with ⟨f, g⟩ | ⟨f, g, a⟩
    · exact Or.inl ⟨by omega, by rw [f]⟩
    · exact absurd ⟨g, a.2.2.2.1 (Or.inl rfl)⟩ b1
  · rw [b, m_bind, if_neg (nI_ge (by omega) (by omega))]
    rcases L3 with ⟨f, g⟩ | ⟨f3, g3, a3⟩
    · exact absurd ⟨b1, fun z => by omega, fun z => by omega, fun z => by omega, fun _ => b2, fun z => by omega, fun z => by omega⟩ g
    · rcases F 4 (by decide) (by omega) with ⟨f, g⟩ | ⟨f, g, a⟩
      · exact Or.inl ⟨by omega, by rw [f]⟩
      · exact absurd ⟨g, a.2.2.2.2.1 (Or.inl rfl)⟩ b3
  rw [b, m_bind, if_pos (nI_le (show x + 5 ≤ x + 3 + 2 by omega) (by omega))]
  rcases L3 with ⟨f, g⟩ | ⟨f3, g3, a3⟩
  · exact absurd ⟨b1, fun z => by omega, fun z => by omega, fun z => by omega, fun _ => b2, fun z => by omega, fun z => by omega⟩ g
  rcases F 4 (by decide) (by omega) with ⟨f, g⟩ | ⟨f4, g4, a4⟩
  · exact absurd ⟨b3, fun z => by omega, fun z => by omega, fun z => by omega, fun z => by omega, fun _ => b4, fun z => by omega⟩ g
  -- the second link
  have L5 := F 5 (by decide) (by omega)
  rcases m_bl (N := N) H (x + 5) (by omega) with ⟨d, d1⟩ | ⟨d, d1, d2, d3⟩ | ⟨d, d1, d2, d3, d4⟩
  · rw [d, m_bind, if_neg (nI_ge (by omega) (by omega))]
    rcases L5 with ⟨f, g⟩ | ⟨f, g, a⟩
    · exact Or.inl ⟨by omega, by rw [f]⟩
    · exact absurd ⟨g, a.2.2.2.1 (Or.inr rfl)⟩ d1
  · rw [d, m_bind, if_neg (nI_ge (by omega) (by omega))]
    rcases L5 with ⟨f, g⟩ | ⟨f5, g5, a5⟩
    · exact absurd ⟨d1, fun z => by omega, fun z => by omega, fun z => by omega, fun _ => d2, fun z => by omega, fun z => by omega⟩ g
    · rcases F 6 (by decide) (by omega) with ⟨f, g⟩ | ⟨f, g, a⟩
      · exact Or.inl ⟨by omega, by rw [f]⟩
      · exact absurd ⟨g, a.2.2.2.2.1 (Or.inr rfl)⟩ d3
  rw [d, m_bind, if_pos (nI_le (show x + 7 ≤ x + 5 + 2 by omega) (by omega))]
  rcases L5 with ⟨f, g⟩ | ⟨f5, g5, a5⟩
  · exact absurd ⟨d1, fun z => by omega, fun z => by omega, fun z => by omega, fun _ => d2, fun z => by omega, fun z => by omega⟩ g
  rcases F 6 (by decide) (by omega) with ⟨f, g⟩ | ⟨f6, g6, a6⟩
  · exact absurd ⟨d3, fun z => by omega, fun z => by omega, fun z => by omega, fun z => by omega, fun _ => d4, fun z => by omega⟩ g
  -- the bribe
  have n0 : ¬ (0 : Int32) ≤ -1 := by decide
  have n1 : (-1 : Int32) < 0 := by decide
  rcases m_dg (N := N) H (x + 7) (by omega) with ⟨t, t1, t2, t3⟩ | ⟨t, t1⟩
  rotate_left
  · rw [t, m_bind, if_pos n1, m_bind, if_neg n0]
    rcases F 7 (by decide) (by omega) with ⟨f, g⟩ | ⟨f, g, a⟩
    · exact Or.inl ⟨by omega, by rw [f]⟩
    · exact absurd ⟨g, a.2.2.2.2.2 (Or.inl rfl)⟩ t1
  rcases F 7 (by decide) (by omega) with ⟨f, g⟩ | ⟨f7, g7, a7⟩
  · exact absurd ⟨t1, fun z => by omega, fun z => by omega, fun z => by omega, fun z => by omega, fun z => by omega, fun _ => ⟨t2, t3⟩⟩ g
  rw [t, m_bind, if_neg (m_neg (by omega))]
  rcases m_dg (N := N) H (x + 8) (by omega) with ⟨u, u1, u2, u3⟩ | ⟨u, u1⟩
  rotate_left
  · rw [u, m_bind, if_neg n0, m_bind, if_pos (nI_pos' (by omega))]
    rcases F 8 (by decide) (by omega) with ⟨f, g⟩ | ⟨f, g, a⟩
    · exact Or.inl ⟨by omega, by rw [f]⟩
    · exact absurd ⟨g, a.2.2.2.2.2 (Or.inr rfl)⟩ u1
  rcases F 8 (by decide) (by omega) with ⟨f, g⟩ | ⟨f8, g8, a8⟩
  · exact absurd ⟨u1, fun z => by omega, fun z => by omega, fun z => by omega, fun z => by omega, fun z => by omega, fun _ => ⟨u2, u3⟩⟩ g
  refine Or.inr ⟨by omega, hj, ?_⟩
  have D2 : ∀ s', fX5_digit N (nI (x + 2)) (z_uR m 4 s') = some (nI (c (x + 2) - 48)) := fun s' => m_dgY (h.u s') (by omega) (by omega) (by omega)
  have D7 : ∀ s', fX5_digit N (nI (x + 7)) (z_uR m 4 s') = some (nI (c (x + 7) - 48)) := fun s' => m_dgY (h.u s') (by omega) (by omega) (by omega)
  have D8 : ∀ s', fX5_digit N (nI (x + 8)) (z_uR m 4 s') = some (nI (c (x + 8) - 48)) := fun s' => m_dgY (h.u s') (by omega) (by omega) (by omega)
  have K3 : ∀ s', fX5_link N (nI (x + 3)) (z_uR m 4 s') = some (m_pv (c (x + 3)) (c (x + 4))) := fun s' => m_lkv (h.u s') (i := x + 3) b3 b2 b4
  have K5 : ∀ s', fX5_link N (nI (x + 5)) (z_uR m 4 s') = some (m_pv (c (x + 5)) (c (x + 6))) := fun s' => m_lkv (h.u s') (i := x + 5) d3 d2 d4
  have S : ∀ (s' : Nat → Int32) (r : Nat) (v : Int32), s' 2 = nI j → (upd s' (12 + 9 * j + r) v) 2 = nI j := fun s' r v q => by
    rw [m_un _ _ (by omega)]; exact q
  rw [u, m_bind, if_pos (nI_pos' (by omega)), m_bind, wr]
  rw [m_stp (p := 0) (q := 0) (r := 1) hs hj rfl rfl (by decide)]
  have s1 := S s 1 (nI (c (x + 1) - 48)) hs
  rw [D2, m_bind, m_stp (p := 1) (q := 1) (r := 2) hs hj rfl rfl (by decide)]
  have s2 := S _ 2 (nI (c (x + 2) - 48)) s1
  rw [K3, m_bind, m_stp (p := 2) (q := 2) (r := 3) hs hj rfl rfl (by decide)]
  have s3 := S _ 3 (m_pv (c (x + 3)) (c (x + 4))) s2
  rw [K5, m_bind, m_stp (p := 3) (q := 3) (r := 4) hs hj rfl rfl (by decide)]
  have s4 := S _ 4 (m_pv (c (x + 5)) (c (x + 6))) s3
  rw [D7, m_bind, D8, m_bind, show (10 : Int32) * nI (c (x + 7) - 48) = nI (10 * (c (x + 7) - 48)) from pk_mul 10 _, nI_add, ← m_pvB (a := c (x + 7)) (b := c (x + 8)) t2 t3 u2 u3, m_stp (p := 4) (q := 4) (r := 5) hs hj rfl rfl (by decide)]
  have s5 := S _ 5 (m_pv (c (x + 7)) (c (x + 8))) s4
  rw [m_stp (p := 5) (q := 5) (r := 6) hs hj rfl rfl (by decide)]
  have s6 := S _ 6 (-1) s5
  rw [m_stp (p := 6) (q := 6) (r := 7) hs hj rfl rfl (by decide)]
  have s7 := S _ 7 (-1) s6
  rw [m_stp (p := 7) (q := 7) (r := 8) hs hj rfl rfl (by decide)]
  have s8 := S _ 8 0 s7
  rw [m_stp (p := 8) (q := 8) (r := 9) hs hj rfl rfl (by decide)]
  have s9 := S _ 9 (-1) s8
  rw [m_same, m_t2, s9, nI_1, m_uRR, m_lt]
  unfold m_sN m_s9
  rw [← hxe]
end MT2
