/-! load -/
section MT4
variable {N B len : Nat} {c : Nat → Nat} {X : z_X} {m : z_R}
theorem m_u33 (G : Nat → z_R) (k : Nat) (a b : z_R) : z_u3 (z_u3 G k a) k b = z_u3 G k b := by
  funext j
  by_cases q : j = k
  · subst q
    rw [m_u3s, m_u3s]
  · rw [m_u3n _ _ q, m_u3n _ _ q, m_u3n _ _ q]
theorem m_rs57 : ∀ (k i fu : Nat) (g : z_R), i + k = 16 → k < fu → (∀ q, q < i → g 8 q = 0) → ∃ g', lX2_reset_57 N fu (nI i) g = some g' ∧ (∀ q, q < 16 → g' 8 q = 0) ∧ ∀ r, r ≠ 8 → g' r = g r := by
  intro k
  induction k with
  | zero =>
    intro i fu g hi hfu hg
    obtain ⟨fu, rfl⟩ : ∃ q, fu = q + 1 := ⟨fu - 1, by omega⟩
    have e : i = 16 := by omega
    subst e
    exact ⟨g, by rw [lX2_reset_57.eq_2, if_pos (by decide)], hg, fun _ _ => rfl⟩
  | succ k ih =>
    intro i fu g hi hfu hg
    obtain ⟨fu, rfl⟩ : ∃ q, fu = q + 1 := ⟨fu - 1, by omega⟩
    obtain ⟨g', p1, p2, p3⟩ := ih (i + 1) fu (z_u2 g 8 i 0) (by omega) (by omega) (fun q hq => by
      rw [m_u2s]
      by_cases z : q = i
      · subst z; rw [m_us]
      · rw [m_un _ _ z]; exact hg q (by omega))
    refine ⟨g', ?_, p2, fun r hr => ?_⟩
    · rw [lX2_reset_57.eq_2, if_neg (m_ge16 (by omega)), m_in (by omega) (by decide), m_ckt, m_clamp (by omega), m_lt, nI_1]
      exact p1
    · rw [p3 r hr, m_u2n _ _ _ hr]
theorem m_rs30 (hN : 200 ≤ N) : ∀ (k i fu : Nat) (g : z_R), i + k = 4 → k < fu → (∀ q, q < i → g 10 q = 0 ∧ g 11 q = 0) → ∃ g', lX2_reset_30 N fu (nI i) g = some g' ∧ (∀ q, q < 16 → g' 8 q = 0) ∧ (∀ q, q < 4 → g' 10 q = 0 ∧ g' 11 q = 0) ∧ g' 0 = g 0 := by
  intro k
  induction k with
  | zero =>
    intro i fu g hi hfu hg
    obtain ⟨fu, rfl⟩ : ∃ q, fu = q + 1 := ⟨fu - 1, by omega⟩
    have e : i = 4 := by omega
    subst e
    obtain ⟨g', p1, p2, p3⟩ := m_rs57 (N := N) 16 0 N g (by decide) (by omega) (fun q hq => absurd hq (Nat.not_lt_zero q))
    refine ⟨g', ?_, p2, fun q hq => ?_, p3 0 (by decide)⟩
    · rw [lX2_reset_30.eq_2, if_pos (by decide)]
      exact p1
    · rw [p3 10 (by decide), p3 11 (by decide)]; exact hg q hq
  | succ k ih =>
    intro i fu g hi hfu hg
    obtain ⟨fu, rfl⟩ : ∃ q, fu = q + 1 := ⟨fu - 1, by omega⟩
    obtain ⟨g', p1, p2, p3, p4⟩ := ih (i + 1) fu (z_u2 (z_u2 g 10 i 0) 11 i 0) (by omega) (by omega) (fun q hq => by
      rw [m_u2n _ _ _ (by decide : (10 : Nat) ≠ 11), m_u2s, m_u2s, m_u2n _ _ _ (by decide : (11 : Nat) ≠ 10)]
      by_cases z : q = i
      · subst z; rw [m_us, m_us]; exact ⟨rfl, rfl⟩
      · rw [m_un _ _ z, m_un _ _ z]; exact hg q (by omega))
    refine ⟨g', ?_, p2, p3, ?_⟩
    · rw [lX2_reset_30.eq_2, if_neg (m_ge4 (by omega)), m_in (by omega) (by decide), m_ckt, m_clamp (by omega), m_lt, m_ckt, m_lt, nI_1]
      exact p1
    · rw [p4, m_u2n _ _ _ (by decide : (0 : Nat) ≠ 11), m_u2n _ _ _ (by decide : (0 : Nat) ≠ 10)]
theorem m_zr0 (u : Nat → Int32) {i n : Nat} (h : i < n) : m_zr u n i = 0 := if_pos h
theorem m_reset (hN : 200 ≤ N) (g : z_R) (u : Nat → Int32) {P : Nat} (h6 : 6 ≤ P) (h40 : P ≤ 40) : ∃ g', fX2_reset N (nI P) g = some g' ∧ RS m_Al 0 P 0 0 g' (upd (m_s0 u) 0 (nI P)) := by
  obtain ⟨g', p1, p2, p3, p4⟩ := m_rs30 (N := N) hN 4 0 N (z_u2 (z_u2 (z_u2 (z_u2 (z_u2 g 0 0 (nI P)) 0 1 0) 0 2 0) 0 3 (-1)) 0 4 0) (by decide) (by omega) (fun q hq => absurd hq (Nat.not_lt_zero q))
  refine ⟨g', ?_, ⟨⟨by decide, h6, h40, by decide⟩, ⟨?_, ?_, ?_, ?_⟩, ⟨m_us _ _ _, ?_⟩, fun _ => ⟨?_, ?_⟩, fun _ => ?_, fun i hi => ?_, fun o r ho => absurd ho (Nat.not_lt_zero _), fun o q ho => absurd ho (Nat.not_lt_zero _), fun o _ ho => p2 o ho, fun _ i hi => absurd hi (Nat.not_lt_zero _), fun i hi => absurd hi (Nat.not_lt_zero _), fun i k _ hk => absurd hk (Nat.not_lt_zero _)⟩⟩
  · unfold fX2_reset
    rw [m_lt, m_lt, m_lt, m_lt, m_lt]
    exact p1
  · rw [p4, m_u2s, m_un _ _ (by decide), m_u2s, m_un _ _ (by decide), m_u2s, m_un _ _ (by decide), m_u2s, m_un _ _ (by decide), m_u2s, m_us]
  · rw [p4, m_u2s, m_un _ _ (by decide), m_u2s, m_un _ _ (by decide), m_u2s, m_un _ _ (by decide), m_u2s, m_us]; exact nI_0.symm
  · rw [p4, m_u2s, m_un _ _ (by decide), m_u2s, m_un _ _ (by decide), m_u2s, m_us]; exact nI_0.symm
  · rw [p4, m_u2s, m_us]; exact nI_0.symm
  · unfold m_s0
    rw [m_un _ _ (by decide), m_un _ _ (by decide), m_zr0 _ (by decide)]; exact nI_0.symm
  · unfold m_s0
    rw [m_un _ _ (by decide), m_un _ _ (by decide), m_zr0 _ (by decide)]; exact nI_0.symm
  · unfold m_s0
    rw [m_un _ _ (by decide), m_us, p4, m_u2s, m_un _ _ (by decide), m_u2s, m_us]
  · unfold m_s0
    rw [m_un _ _ (by decide), m_un _ _ (by decide), m_zr0 _ (by decide)]; exact nI_0.symm
  · unfold m_s0
    rw [m_un _ _ (by omega), m_un _ _ (by omega), m_zr0 _ (by omega), m_un _ _ (by omega), m_un _ _ (by omega), m_zr0 _ (by omega)]
    exact ⟨fun _ => (p3 i hi).1.symm, fun _ => (p3 i hi).2.symm⟩
theorem m_dgC {t : z_R} (h : m_Tk c len t) {i : Nat} (hi : i < len) (h1 : 48 ≤ c i) : fX3_digit N (nI i) t = some (nI (c i - 48)) := by
  unfold fX3_digit
  rw [m_cd h hi, m_bind, show nI (c i) - (48 : Int32) = nI (c i - 48) from pk_sub (b := 48) h1]
theorem m_prC {t : z_R} (h : m_Tk c len t) {i : Nat} (hi : i + 1 < len) (h1 : c i = 45 ∨ (48 ≤ c i ∧ 48 ≤ c (i + 1))) : fX3_pair N (nI i) t = some (m_pv (c i) (c (i + 1))) := by
  have hc := (h.2.2 i (by omega)).1
  unfold fX3_pair m_pv
  rw [m_cd h (by omega), m_bind]
  by_cases q : c i = 45
  · rw [if_pos (show nI (c i) = (45 : Int32) from congrArg nI q), if_pos q]
  · have h2 := h1.resolve_left q
    rw [if_neg (show ¬ nI (c i) = (45 : Int32) from m_neq (k := 45) (by omega) (by decide) q), if_neg q, m_dgC h (by omega) h2.1, m_bind, nI_1, m_dgC h hi h2.2, m_bind, show (10 : Int32) * nI (c i - 48) = nI (10 * (c i - 48)) from pk_mul 10 _, nI_add]
theorem m_fillL (h : m_Tk c len X.1) (hall : ∀ i, i < len → m_al c i) {P J : Nat} (hJ : len = 3 + 9 * J) {s : Nat → Int32} : ∀ (k j fu : Nat) (g : z_R), j + k = J → k < fu → RS m_Al j P 0 0 g (m_D c s j) → ∃ g', lX3_fill_11 N fu (nI (3 + 9 * j)) (X.1, X.2.1, z_u3 X.2.2 0 g) = some (X.1, X.2.1, z_u3 X.2.2 0 g') ∧ RS m_Al J P 0 0 g' (m_D c s J) := by
  have h1 := h.1
  intro k
  induction k with
  | zero =>
    intro j fu g hi hfu hg
    obtain ⟨fu, rfl⟩ : ∃ q, fu = q + 1 := ⟨fu - 1, by omega⟩
    have e : j = J := by omega
    subst e
    refine ⟨g, ?_, hg⟩
    rw [lX3_fill_11.eq_2]
    dsimp only
    rw [h.2.1, if_pos (nI_le (by omega) (by omega))]
  | succ k ih =>
    intro j fu g hi hfu hg
    obtain ⟨fu, rfl⟩ : ∃ q, fu = q + 1 := ⟨fu - 1, by omega⟩
    have h147 : 3 + 9 * j + 8 < 147 := ((hall (3 + 9 * j + 8) (by omega)).2.2.2 (by omega)).1
    have hj : j < 16 := by omega
    have A : ∀ k, k < 9 → m_alk c (3 + 9 * j + k) k := fun k hk => (m_alx hj hk).mp (hall _ (by omega))
    have a1 := (A 1 (by decide)).2.1 rfl
    have a2 := (A 2 (by decide)).2.2.1 rfl
    have a3 := (A 3 (by decide)).2.2.2.1 (Or.inl rfl)
    have a4 : m_eL (c (3 + 9 * j + 3)) (c (3 + 9 * j + 4)) := (A 4 (by decide)).2.2.2.2.1 (Or.inl rfl)
    have a5 := (A 5 (by decide)).2.2.2.1 (Or.inr rfl)
    have a6 : m_eL (c (3 + 9 * j + 5)) (c (3 + 9 * j + 6)) := (A 6 (by decide)).2.2.2.2.1 (Or.inr rfl)
    have a7 := (A 7 (by decide)).2.2.2.2.2 (Or.inl rfl)
    have a8 := (A 8 (by decide)).2.2.2.2.2 (Or.inr rfl)
    have lk : ∀ {a b : Nat}, m_kk a → m_eL a b → a = 45 ∨ (48 ≤ a ∧ 48 ≤ b) := by
      intro a b z1 z2
      unfold m_kk at z1
      unfold m_eL at z2
      omega
    have d1 : fX3_digit N (nI (3 + 9 * j) + (1 : Int32)) X.1 = some (nI (c (3 + 9 * j + 1) - 48)) := by
      rw [nI_1]; exact m_dgC h (by omega) a1.1
    have d2 : fX3_digit N (nI (3 + 9 * j) + (2 : Int32)) X.1 = some (nI (c (3 + 9 * j + 2) - 48)) := by
      rw [show nI (3 + 9 * j) + (2 : Int32) = nI (3 + 9 * j + 2) from nI_add _ 2]; exact m_dgC h (by omega) (by omega)
    have d3 : fX3_pair N (nI (3 + 9 * j) + (3 : Int32)) X.1 = some (m_pv (c (3 + 9 * j + 3)) (c (3 + 9 * j + 4))) := by
      rw [show nI (3 + 9 * j) + (3 : Int32) = nI (3 + 9 * j + 3) from nI_add _ 3]; exact m_prC h (by omega) (lk a3 a4)
    have d5 : fX3_pair N (nI (3 + 9 * j) + (5 : Int32)) X.1 = some (m_pv (c (3 + 9 * j + 5)) (c (3 + 9 * j + 6))) := by
      rw [show nI (3 + 9 * j) + (5 : Int32) = nI (3 + 9 * j + 5) from nI_add _ 5]; exact m_prC h (by omega) (lk a5 a6)
    have d7 : fX3_pair N (nI (3 + 9 * j) + (7 : Int32)) X.1 = some (m_pv (c (3 + 9 * j + 7)) (c (3 + 9 * j + 8))) := by
      rw [show nI (3 + 9 * j) + (7 : Int32) = nI (3 + 9 * j + 7) from nI_add _ 7]; exact m_prC h (by omega) (Or.inr ⟨a7.1, a8.1⟩)
    have hr := hg.ad9 hj (a := nI (c (3 + 9 * j + 1) - 48)) (w := nI (c (3 + 9 * j + 2) - 48)) (x := m_pv (c (3 + 9 * j + 3)) (c (3 + 9 * j + 4))) (e := m_pv (c (3 + 9 * j + 5)) (c (3 + 9 * j + 6))) (b := m_pv (c (3 + 9 * j + 7)) (c (3 + 9 * j + 8))) ⟨_, by omega, rfl⟩ ⟨_, by omega, by omega, rfl⟩ (m_pvL a3 a4) (m_pvL a5 a6) ⟨10 * (c (3 + 9 * j + 7) - 48) + (c (3 + 9 * j + 8) - 48), by omega, m_pvB a7.1 a7.2 a8.1 a8.2⟩
    obtain ⟨g', p1, p2⟩ := ih (j + 1) fu _ (by omega) (by omega) hr
    refine ⟨g', ?_, p2⟩
    rw [← p1, lX3_fill_11.eq_2]
    dsimp only
    rw [h.2.1, if_neg (nI_ge (by omega) (by omega)), d1, m_bind, d2, m_bind, d3, m_bind, d5, m_bind, d7, m_bind, m_u3s, m_addC hg.gn hj, m_b2, m_lt, m_u33, show nI (3 + 9 * j) + (9 : Int32) = nI (3 + 9 * (j + 1)) by rw [show (9 : Int32) = nI 9 from rfl, nI_add, show 3 + 9 * j + 9 = 3 + 9 * (j + 1) by omega]]
theorem m_ld41 (X : z_X) (hN : 200 ≤ N) : lX4_load_41 N N (0 : Int32) X = some (.inl (X.2.2 0 0 1), (X.1, z_u2 (z_u2 X.2.1 1 0 0) 1 1 0, X.2.2)) := by
  obtain ⟨fu, rfl⟩ : ∃ q, N = q + 3 := ⟨N - 3, by omega⟩
  rw [lX4_load_41.eq_2, if_neg (by decide), show z_in (0 : Int32) 2 = true by decide, m_ckt, m_t0, m_lt, show (0 : Int32) + 1 = 1 by decide, lX4_load_41.eq_2, if_neg (by decide), show z_in (1 : Int32) 2 = true by decide, m_ckt, m_t1, m_lt, show (1 : Int32) + 1 = 2 by decide, lX4_load_41.eq_2, if_pos (by decide)] <;> rfl
theorem c_load (h : RG B X m) (hN : 13000 ≤ N) : ∃ o X' b m', fX4_load N X = some (o, X') ∧ fX5_load N m = some (b, m') ∧ RG (B + 5000) X' m' ∧ ((o = .inl b ∧ m' 0 0 = 0) ∨ (o = .inr 2 ∧ m' 0 0 = 1)) := by
  obtain ⟨c, len, hk, hr⟩ := h.1.c
  obtain ⟨e, he⟩ := m_Eex c len
  have no : ¬ m_G len e → fX3_firstError N X.1 = some (nI e) → (∃ s', fX5_readText N m = some (nI e, z_uR m 4 s')) → ∃ o X' b m', fX4_load N X = some (o, X') ∧ fX5_load N m = some (b, m') ∧ RG (B + 5000) X' m' ∧ ((o = .inl b ∧ m' 0 0 = 0) ∨ (o = .inr 2 ∧ m' 0 0 = 1)) := by
    rintro g q ⟨s', w⟩
    have he1 := he.e147
    unfold fX4_load fX5_load
    refine ⟨.inr 2, X, 0, z_u2 (z_uR m 4 s') 0 0 1, ?_, ?_, ((h.dr s').kd 1).mono (by omega), Or.inr ⟨rfl, m_kd _ 1⟩⟩
    · rw [q, m_bind, if_neg (m_nN e (by omega))]
    · rw [w, m_b2, if_neg (m_nN e (by omega)), m_lt, m_kd, if_neg m_n1]
  rcases m_fe (N := N) hk (by omega) he with ⟨g, q⟩ | ⟨g, q⟩ <;> rcases m_rt (N := N) hr hN he with ⟨g2, w⟩ | ⟨g2, w⟩
  rotate_left
  · exact absurd g g2
  · exact absurd g2 g
  · exact no g q w
  obtain ⟨ge, g3, g9⟩ := g
  subst ge
  obtain ⟨J, hJ⟩ : ∃ J, e = 3 + 9 * J := ⟨(e - 3) / 9, by omega⟩
  rw [show (e - 3) / 9 = J by omega] at w
  have hall := he.2.1
  have a1 := (hall 1 (by omega)).2.1 rfl
  have a2 := (hall 2 (by omega)).2.2.1 rfl
  obtain ⟨P, hP⟩ : ∃ P, P = 10 * (c 1 - 48) + (c 2 - 48) := ⟨_, rfl⟩
  obtain ⟨g0, r1, r2⟩ := m_reset (N := N) (by omega) (X.2.2 0) (m 4) (P := P) (by omega) (by omega)
  obtain ⟨g', f1, f2⟩ := m_fillL (N := N) hk hall hJ (s := m_s1 (m 4) c) J 0 N g0 (by omega) (by have := hk.1; omega) (by
    show RS m_Al 0 P 0 0 g0 (m_s1 (m 4) c)
    unfold m_s1
    rw [← hP]; exact r2)
  have f1 : lX3_fill_11 N N (3 : Int32) (X.1, X.2.1, z_u3 X.2.2 0 g0) = some (X.1, X.2.1, z_u3 X.2.2 0 g') := f1
  obtain ⟨S, hS⟩ : ∃ S, S = m_D c (m_s1 (m 4) c) J := ⟨_, rfl⟩
  rw [← hS] at w f2
  have pr : fX3_pair N (1 : Int32) X.1 = some (nI P) := by
    rw [show fX3_pair N (1 : Int32) X.1 = some (m_pv (c 1) (c 2)) from m_prC (i := 1) hk (by omega) (Or.inr ⟨a1.1, a2.1⟩), m_pvB a1.1 (by omega) a2.1 a2.2.1, hP]
  obtain ⟨ht, hn, hme, hsl⟩ := id h
  have u7 : ∀ k : Nat, k ≠ 7 → (z_u2 (z_u2 (z_u2 (z_uR (z_u2 (z_uR m 4 S) 0 0 0) 1 (m_cp S 0 (m 1) 0 925)) 0 1 0) 7 0 0) 7 1 0) k = z_u2 (z_uR (z_u2 (z_uR m 4 S) 0 0 0) 1 (m_cp S 0 (m 1) 0 925)) 0 1 0 k := fun k hk => by rw [m_u2n _ _ _ hk, m_u2n _ _ _ hk]
  refine ⟨.inl (nI J), (X.1, z_u2 (z_u2 (z_u2 (z_u2 X.2.1 0 0 0) 0 1 0) 1 0 0) 1 1 0, z_u3 X.2.2 0 g'), nI J, z_u2 (z_u2 (z_u2 (z_uR (z_u2 (z_uR m 4 S) 0 0 0) 1 (m_cp S 0 (m 1) 0 925)) 0 1 0) 7 0 0) 7 1 0, ?_, ?_, ?_, Or.inl ⟨rfl, ?_⟩⟩
  · unfold fX4_load fX3_fill
    rw [q, m_bind, if_pos rfl, pr, m_bind, r1, m_bind, m_lt, f1, m_bind]
    unfold fX1_forget
    rw [m_lt, m_lt, m_bind, m_ld41 _ (by omega)]
    dsimp only
    rw [m_u3s, f2.gn]
  · unfold fX5_load
    rw [w, m_b2, if_pos rfl, m_lt, m_kd, if_pos m_z0]
    rw [show z_u2 (z_uR m 4 S) 0 0 0 4 = S by rw [m_kd1 _ 0 (by decide), m_same], show z_u2 (z_uR m 4 S) 0 0 0 1 = m 1 by rw [m_kd1 _ 0 (by decide), m_other _ _ (by decide)], m_cpM (ln := 925) (lk := 925) (x := 0) (y := 0) (N := N) (a := 0) (b := 0) rfl rfl (by decide) (by decide) (by decide) (by decide) (by omega), m_bind, m_lt, m_lt, m_t0, m_lt, m_t1, m_lt, m_t2, u7 1 (by decide), m_u2n _ _ _ (by decide : (1 : Nat) ≠ 0), m_same]
    rw [show m_cp S 0 (m 1) 0 925 2 = S 2 from m_cpI (f := S) (u := m 1) (a := 0) (b := 0) (k := 2) (by decide), f2.sn]
  · refine ⟨?_, ?_, ?_, ?_⟩
    · obtain ⟨len, t1, t2, t3, t4⟩ := ht
      refine ⟨len, t1, t2, ?_, ?_⟩
      · rw [u7 0 (by decide), m_u2s, m_un _ _ (by decide), m_other _ _ (by decide), m_u2s, m_un _ _ (by decide), m_other _ _ (by decide)]; exact t3
      · rw [u7 8 (by decide), m_u2n _ _ _ (by decide), m_other _ _ (by decide), m_u2n _ _ _ (by decide), m_other _ _ (by decide)]; exact t4
    · refine ⟨J, P, 0, 0, ?_, by omega⟩
      rw [u7 1 (by decide), m_u2n _ _ _ (by decide : (1 : Nat) ≠ 0), m_same]
      show RS m_Al J P 0 0 (z_u3 X.2.2 0 g' 0) _
      rw [m_u3s]
      refine f2.cg (fun _ _ => rfl) (fun _ _ _ _ _ => rfl) (fun _ _ => ⟨rfl, rfl⟩) (fun _ _ => ⟨rfl, rfl, rfl⟩) (fun k hk => ?_)
      have z := m_cpI (f := S) (u := m 1) (a := 0) (b := 0) (k := k) hk
      rw [Nat.zero_add] at z
      exact z
    · refine ⟨0, 0, by decide, by decide, ?_, ?_, ?_, fun j hj => absurd hj (Nat.not_lt_zero j)⟩
      · show z_u2 (z_u2 (z_u2 (z_u2 X.2.1 0 0 0) 0 1 0) 1 0 0) 1 1 0 0 0 = _
        rw [m_u2n _ _ _ (by decide : (0 : Nat) ≠ 1), m_u2n _ _ _ (by decide : (0 : Nat) ≠ 1), m_u2s, m_un _ _ (by decide), m_u2s, m_us]; exact nI_0.symm
      · show z_u2 (z_u2 (z_u2 (z_u2 X.2.1 0 0 0) 0 1 0) 1 0 0) 1 1 0 0 1 = _
        rw [m_u2n _ _ _ (by decide : (0 : Nat) ≠ 1), m_u2n _ _ _ (by decide : (0 : Nat) ≠ 1), m_u2s, m_us]; exact nI_0.symm
      · rw [u7 0 (by decide), m_u2s, m_us]; exact nI_0.symm
    · intro i hi
      refine Or.inl ⟨?_, ?_⟩
      · show z_u2 (z_u2 (z_u2 (z_u2 X.2.1 0 0 0) 0 1 0) 1 0 0) 1 1 0 1 i = 0
        rw [m_u2s, m_u2s]
        rcases (show i = 0 ∨ i = 1 by omega) with z | z <;> subst z
        · rw [m_un _ _ (by decide), m_us]
        · rw [m_us]
      · rw [m_u2s, m_u2s]
        rcases (show i = 0 ∨ i = 1 by omega) with z | z <;> subst z
        · rw [m_un _ _ (by decide), m_us]
        · rw [m_us]
  · rw [u7 0 (by decide), m_u2s, m_un _ _ (by decide), m_other _ _ (by decide), m_kd]
end MT4
