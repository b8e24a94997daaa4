/-! the text: the reference's reading, errorPosition -/
section MT3
variable {N B len : Nat} {c : Nat → Nat} {X : z_X} {m : z_R}
/-- the draft behind j orders -/
def m_D (c : Nat → Nat) (s : Nat → Int32) : Nat → (Nat → Int32)
  | 0 => s
  | j + 1 => m_sN (m_D c s j) j c
theorem m_D2 (c : Nat → Nat) {s : Nat → Int32} (hs : s 2 = nI 0) : ∀ j, m_D c s j 2 = nI j
  | 0 => hs
  | j + 1 => by
    show m_sN (m_D c s j) j c 2 = nI (j + 1)
    unfold m_sN
    exact m_us _ _ _
theorem m_rlL (h : m_Tr c len m) {e : Nat} (he : m_E c len e) {s : Nat → Int32} (hs : s 2 = nI 0) : ∀ (k j fu : Nat), j + k = 17 → k < fu → 3 + 9 * j ≤ e → (m_G len e ∧ lX5_readText_118 N fu (nI (3 + 9 * j)) (z_uR m 4 (m_D c s j)) = some (-1, z_uR m 4 (m_D c s ((len - 3) / 9)))) ∨ (¬ m_G len e ∧ ∃ s', lX5_readText_118 N fu (nI (3 + 9 * j)) (z_uR m 4 (m_D c s j)) = some (nI e, z_uR m 4 s')) := by
  have h1 := h.1
  have he1 := he.1
  have he2 := he.e147
  intro k
  induction k with
  | zero =>
    intro j fu hi hfu hx
    omega
  | succ k ih =>
    intro j fu hi hfu hx
    obtain ⟨fu, rfl⟩ : ∃ q, fu = q + 1 := ⟨fu - 1, by omega⟩
    rw [lX5_readText_118.eq_2, show (z_uR m 4 (m_D c s j)) 0 2 = nI len from (h.u _).2.1]
    by_cases c1 : len ≤ 3 + 9 * j
    · rw [if_pos (nI_le c1 (by omega))]
      exact Or.inl ⟨⟨by omega, by omega, by omega⟩, by rw [show (len - 3) / 9 = j by omega]⟩
    · rw [if_neg (nI_ge (by omega) (by omega))]
      rcases m_ro (N := N) h he (j := j) (by omega) (m_D2 c hs j) hx (by omega) with ⟨q, w⟩ | ⟨q, q2, w⟩
      · rw [w, m_b2, if_neg (m_nN e (by omega))]
        refine Or.inr ⟨fun z => ?_, _, rfl⟩
        have z1 := z.1
        have z3 := z.2.2
        omega
      · rw [w, m_b2, if_pos rfl, show nI (3 + 9 * j) + (9 : Int32) = nI (3 + 9 * (j + 1)) by rw [show (9 : Int32) = nI 9 from rfl, nI_add, show 3 + 9 * j + 9 = 3 + 9 * (j + 1) by omega]]
        exact ih (j + 1) fu (by omega) (by omega) (by omega)
theorem m_rl (h : m_Tr c len m) (hN : 200 ≤ N) {e : Nat} (he : m_E c len e) {s : Nat → Int32} (hs : s 2 = nI 0) (h3 : 3 ≤ e) : (m_G len e ∧ lX5_readText_118 N N (3 : Int32) (z_uR m 4 s) = some (-1, z_uR m 4 (m_D c s ((len - 3) / 9)))) ∨ (¬ m_G len e ∧ ∃ s', lX5_readText_118 N N (3 : Int32) (z_uR m 4 s) = some (nI e, z_uR m 4 s')) := m_rlL (N := N) h he hs 17 0 N (by decide) (by omega) h3
/-- the draft at the start -/
def m_s0 (u : Nat → Int32) : Nat → Int32 := upd (m_zr u 925) 4 (-1)
def m_s1 (u : Nat → Int32) (c : Nat → Nat) : Nat → Int32 := upd (m_s0 u) 0 (nI (10 * (c 1 - 48) + (c 2 - 48)))
theorem m_rz (u : Nat → Int32) : ∀ (k i fu : Nat), i + k = 925 → k < fu → ∃ fv, lX5_readText_2 N fu (nI i) (z_uR m 4 (m_zr u i)) = lX5_readText_2 N (fv + 1) (nI 925) (z_uR m 4 (m_zr u 925)) := by
  intro k
  induction k with
  | zero =>
    intro i fu hi hfu
    have e : i = 925 := by omega
    subst e
    exact ⟨fu - 1, by rw [show fu - 1 + 1 = fu by omega]⟩
  | succ k ih =>
    intro i fu hi hfu
    obtain ⟨fu, rfl⟩ : ∃ q, fu = q + 1 := ⟨fu - 1, by omega⟩
    obtain ⟨fv, hv⟩ := ih (i + 1) fu (by omega) (by omega)
    refine ⟨fv, ?_⟩
    rw [← hv, lX5_readText_2.eq_2, if_neg (show ¬ (925 : Int32) ≤ nI i from nI_ge (b := 925) (by omega) (by decide)), m_in (by omega) (by decide), m_ckt, m_clamp (by omega), m_uRR, m_lt, nI_1]
    have e : upd (m_zr u i) i 0 = m_zr u (i + 1) := by
      funext j
      by_cases q : j = i
      · subst q
        rw [m_us]
        unfold m_zr
        rw [if_pos (by omega)]
      · rw [m_un _ _ q]
        unfold m_zr
        by_cases q2 : j < i
        · rw [if_pos q2, if_pos (by omega)]
        · rw [if_neg q2, if_neg (by omega)]
    rw [e]
theorem m_hr (h : m_Tr c len m) (hN : 200 ≤ N) {e : Nat} (he : m_E c len e) {u : Nat → Int32} (hal : 3 ≤ e) {r5 r8 : Int32} (h5 : r5 = nI (c 1 - 48)) (h8 : r8 = nI (c 2 - 48)) : (m_G len e ∧ lX5_readText_118 N N (3 : Int32) (z_u2 (z_uR m 4 (m_s0 u)) 4 0 (((10 : Int32) * r5) + r8)) = some (-1, z_uR m 4 (m_D c (m_s1 u c) ((len - 3) / 9)))) ∨ (¬ m_G len e ∧ ∃ s', lX5_readText_118 N N (3 : Int32) (z_u2 (z_uR m 4 (m_s0 u)) 4 0 (((10 : Int32) * r5) + r8)) = some (nI e, z_uR m 4 s')) := by
  rw [h5, h8, m_uRR, show (10 : Int32) * nI (c 1 - 48) = nI (10 * (c 1 - 48)) from pk_mul 10 _, nI_add]
  exact m_rl (N := N) (s := m_s1 u c) h hN he (by
    unfold m_s1 m_s0
    rw [m_un _ _ (by decide), m_un _ _ (by decide)]
    unfold m_zr
    rw [if_pos (by decide)]
    exact nI_0.symm) hal
theorem m_rt (h : m_Tr c len m) (hN : 13000 ≤ N) {e : Nat} (he : m_E c len e) : (m_G len e ∧ fX5_readText N m = some (-1, z_uR m 4 (m_D c (m_s1 (m 4) c) ((len - 3) / 9)))) ∨ (¬ m_G len e ∧ ∃ s', fX5_readText N m = some (nI e, z_uR m 4 s')) := by
  have h1 := h.1
  have he1 := he.1
  have e0 : m_zr (m 4) 0 = m 4 := by
    funext j
    exact if_neg (Nat.not_lt_zero j)
  obtain ⟨fv, hv⟩ := m_rz (N := N) (m := m) (m 4) 925 0 N (by decide) (by omega)
  rw [e0, m_self] at hv
  have hv : fX5_readText N m = lX5_readText_2 N (fv + 1) (nI 925) (z_uR m 4 (m_zr (m 4) 925)) := hv
  have H := h.u (m_s0 (m 4))
  rw [hv, lX5_readText_2.eq_2, if_pos (show (925 : Int32) ≤ nI 925 by decide), m_t4, m_uRR, m_lt, show upd (m_zr (m 4) 925) 4 (-1) = m_s0 (m 4) from rfl, H.2.1]
  have ng : e < 3 → ¬ m_G len e := fun q z => by
    have z1 := z.1
    have z2 := z.2.1
    omega
  by_cases c0 : len = 0
  · have ee : e = 0 := by omega
    rw [if_pos (show nI len = 0 by rw [c0]; exact nI_0), ee]
    exact Or.inr ⟨by rw [← ee]; exact ng (by omega), _, rfl⟩
  rw [if_neg (nI_ne0 (by omega) (by omega)), m_t0, (H.2.2 0 (by omega)).2]
  have hc0 := (H.2.2 0 (by omega)).1
  by_cases k0 : e = 0
  · have hn : ¬ c 0 = 68 := fun q => he.2.2 (by omega) (by
      rw [k0]
      exact ⟨fun _ => q, fun z => by omega, fun z => by omega, fun z => by omega⟩)
    rw [if_neg (show ¬ nI (c 0) = (68 : Int32) from m_neq (k := 68) (by omega) (by decide) hn), k0]
    exact Or.inr ⟨by rw [← k0]; exact ng (by omega), _, rfl⟩
  have a0 := (he.2.1 0 (by omega)).1 rfl
  rw [if_pos (show nI (c 0) = (68 : Int32) from congrArg nI a0)]
  obtain ⟨r5, p5, w5⟩ := m_dw (N := N) (lo := 0) (hi' := 4) (l := 0) (u := 4) H 1 (by decide) rfl rfl (by decide) (by decide)
  have p5 : fX5_digit N (1 : Int32) (z_uR m 4 (m_s0 (m 4))) = some r5 := p5
  rw [p5, m_bind]
  by_cases k1 : e = 1
  · rcases w5 with ⟨-, -, w1, w2, w3⟩ | ⟨w, -⟩
    · refine absurd ?_ (he.2.2 (by omega))
      rw [k1]
      exact ⟨fun z => by omega, fun _ => ⟨by omega, by omega⟩, fun z => by omega, fun z => by omega⟩
    · rw [w, m_bind, if_pos m_00, k1]
      exact Or.inr ⟨by rw [← k1]; exact ng (by omega), _, rfl⟩
  have a1 := (he.2.1 1 (by omega)).2.1 rfl
  rcases w5 with ⟨w5, wr5, -, -, -⟩ | ⟨-, w⟩
  rotate_left
  · exact absurd ⟨by omega, by omega, by omega⟩ w
  rw [w5, m_bind, if_neg m_1_0]
  have al2 : m_al c 2 ↔ 48 ≤ c 2 ∧ c 2 ≤ 57 ∧ 6 ≤ 10 * (c 1 - 48) + (c 2 - 48) ∧ 10 * (c 1 - 48) + (c 2 - 48) ≤ 40 := ⟨fun z => z.2.2.1 rfl, fun z => ⟨fun z => by omega, fun z => by omega, fun _ => z, fun z => by omega⟩⟩
  have y2 : e = 2 → ¬ (2 < len ∧ 48 ≤ c 2 ∧ c 2 ≤ 57 ∧ 6 ≤ 10 * (c 1 - 48) + (c 2 - 48) ∧ 10 * (c 1 - 48) + (c 2 - 48) ≤ 40) := fun q z => he.2.2 (by omega) (by rw [q, al2]; exact z.2)
  have n2 : ¬ e = 2 → 3 ≤ e ∧ 48 ≤ c 2 ∧ c 2 ≤ 57 ∧ 6 ≤ 10 * (c 1 - 48) + (c 2 - 48) ∧ 10 * (c 1 - 48) + (c 2 - 48) ≤ 40 := fun q => ⟨by omega, al2.mp (he.2.1 2 (by omega))⟩
  have D2 : ¬ e = 2 → fX5_digit N (2 : Int32) (z_uR m 4 (m_s0 (m 4))) = some (nI (c 2 - 48)) := fun q => m_dgY (i := 2) H (by omega) (n2 q).2.1 (n2 q).2.2.1
  -- the second digit within its bounds
  have T : ∀ {lo hi' : Nat} {l u : Int32} (hl : l = nI lo) (hu : u = nI hi') (h1 : lo < 10) (h2 : hi' < 10), ((48 + lo ≤ c 2 ∧ c 2 ≤ 48 + hi') ↔ (48 ≤ c 2 ∧ c 2 ≤ 57 ∧ 6 ≤ 10 * (c 1 - 48) + (c 2 - 48) ∧ 10 * (c 1 - 48) + (c 2 - 48) ≤ 40)) → ∀ {Q : Option (Int32 × z_R)}, (Q = (fX5_digit N (2 : Int32) (z_uR m 4 (m_s0 (m 4)))).bind fun r8 => (fX5_within N r8 l u).bind fun r27 => if r27 = 0 then some ((2 : Int32), z_uR m 4 (m_s0 (m 4))) else (fX5_digit N (2 : Int32) (z_uR m 4 (m_s0 (m 4)))).bind fun r29 => z_lt (z_u2 (z_uR m 4 (m_s0 (m 4))) 4 0 (((10 : Int32) * r5) + r29)) fun g30 => lX5_readText_118 N N (3 : Int32) g30) → (m_G len e ∧ Q = some (-1, z_uR m 4 (m_D c (m_s1 (m 4) c) ((len - 3) / 9)))) ∨ (¬ m_G len e ∧ ∃ s', Q = some (nI e, z_uR m 4 s')) := by
    intro lo hi' l u hl hu h1 h2 hif Q hQ
    rw [hQ]
    obtain ⟨r8, p8, w8⟩ := m_dw (N := N) H 2 (by decide) hl hu h1 h2
    have p8 : fX5_digit N (2 : Int32) (z_uR m 4 (m_s0 (m 4))) = some r8 := p8
    rw [p8, m_bind]
    by_cases k2 : e = 2
    · rcases w8 with ⟨-, -, w1, w2, w3⟩ | ⟨w, -⟩
      · exact absurd ⟨w1, hif.mp ⟨w2, w3⟩⟩ (y2 k2)
      · rw [w, m_bind, if_pos m_00, k2]
        exact Or.inr ⟨by rw [← k2]; exact ng (by omega), _, rfl⟩
    · obtain ⟨z0, z⟩ := n2 k2
      rcases w8 with ⟨w, wr8, -, -, -⟩ | ⟨-, w⟩
      · rw [w, m_bind, if_neg m_1_0, m_bind, m_lt]
        exact m_hr h (by omega) he z0 wr5 wr8
      · exact absurd ⟨by omega, hif.mpr z⟩ w
  rcases (show c 1 = 48 ∨ c 1 = 49 ∨ c 1 = 50 ∨ c 1 = 51 ∨ c 1 = 52 by omega) with k | k | k | k | k
  · have e5 : r5 = 0 := by rw [wr5, k]; exact nI_0
    refine T (lo := 6) (hi' := 9) (l := 6) (u := 9) rfl rfl (by decide) (by decide) (by omega) ?_
    congr 1
    funext r8
    rw [if_pos e5, if_neg (by rw [e5]; decide)]
  · have e5 : r5 = nI 1 := by rw [wr5, k]
    refine T (lo := 0) (hi' := 9) (l := 0) (u := 9) rfl rfl (by decide) (by decide) (by omega) ?_
    congr 1
    funext r8
    rw [if_neg (by rw [e5]; decide), if_neg (by rw [e5]; decide)]
  · have e5 : r5 = nI 2 := by rw [wr5, k]
    refine T (lo := 0) (hi' := 9) (l := 0) (u := 9) rfl rfl (by decide) (by decide) (by omega) ?_
    congr 1
    funext r8
    rw [if_neg (by rw [e5]; decide), if_neg (by rw [e5]; decide)]
  · have e5 : r5 = nI 3 := by rw [wr5, k]
    refine T (lo := 0) (hi' := 9) (l := 0) (u := 9) rfl rfl (by decide) (by decide) (by omega) ?_
    congr 1
    funext r8
    rw [if_neg (by rw [e5]; decide), if_neg (by rw [e5]; decide)]
  · have e5 : r5 = nI 4 := by rw [wr5, k]
    refine T (lo := 0) (hi' := 0) (l := 0) (u := 0) rfl rfl (by decide) (by decide) (by omega) ?_
    congr 1
    funext r8
    rw [if_neg (by rw [e5]; decide), if_pos (by rw [e5]; decide)]
theorem m_Tr.kd (h : m_Tr c len m) (k : Int32) : m_Tr c len (z_u2 m 0 0 k) := by
  refine ⟨h.1, ?_, fun i hi => ?_⟩
  · rw [m_u2s, m_un _ _ (by decide)]; exact h.2.1
  · rw [m_kd1 m k (by decide)]; exact h.2.2 i hi
theorem RG.dr (h : RG B X m) (s : Nat → Int32) : RG B X (z_uR m 4 s) := by
  refine h.fr rfl rfl (fun _ _ => rfl) ⟨?_, ?_, ?_, ?_, ?_⟩ ⟨?_, ?_⟩ <;> rw [m_other _ _ (by decide)]
theorem c_errorPosition (h : RG B X m) (hN : 13000 ≤ N) : ∃ b m', fX4_errorPosition N X = some b ∧ fX5_errorPosition N m = some (b, m') ∧ RG (B + 5000) X m' := by
  obtain ⟨c, len, hk, hr⟩ := h.1.c
  obtain ⟨e, he⟩ := m_Eex c len
  unfold fX4_errorPosition fX5_errorPosition
  rw [m_lt]
  rcases m_fe (N := N) hk (by omega) he with ⟨g, q⟩ | ⟨g, q⟩ <;> rcases m_rt (N := N) (hr.kd 0) hN he with ⟨g2, w⟩ | ⟨g2, s', w⟩
  · exact ⟨-1, z_uR (z_u2 m 0 0 0) 4 (m_D c (m_s1 ((z_u2 m 0 0 0) 4) c) ((len - 3) / 9)), by rw [q, m_bind], by rw [w, m_b2], ((h.kd 0).dr _).mono (by omega)⟩
  · exact absurd g g2
  · exact absurd g2 g
  · exact ⟨nI e, z_uR (z_u2 m 0 0 0) 4 s', by rw [q, m_bind], by rw [w, m_b2], ((h.kd 0).dr _).mono (by omega)⟩
end MT3
