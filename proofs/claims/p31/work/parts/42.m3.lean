/-! both sides in step: refund, put, all off, where an order wants to stand -/
theorem m_cm (g : z_R) {r q : Nat} (i j : Nat) (v w : Int32) (h : r ≠ q) : z_u2 (z_u2 g r i v) q j w = z_u2 (z_u2 g q j w) r i v := by
  funext a
  by_cases h1 : a = q
  · subst h1
    rw [m_u2s, m_u2n g i v (fun e => h e.symm), m_u2n _ i v (fun e => h e.symm), m_u2s]
  · rw [m_u2n _ j w h1]
    by_cases h2 : a = r
    · subst h2; rw [m_u2s, m_u2s, m_u2n g j w h]
    · rw [m_u2n g i v h2, m_u2n _ i v h2, m_u2n g j w h1]
theorem m_auY {N a : Nat} (ha : a < 4) : fX4_isAuthor N (nI a) = some 1 := by
  unfold fX4_isAuthor
  rw [if_neg (m_neg (by omega)), if_neg (m_ge4 (by omega))]
section MR3
variable {E : Nat → Prop} {N n P T J : Nat} {g m : z_R} {s : Nat → Int32}
theorem m_refC {o a : Nat} (ho : o < 16) (ha : g 1 o = nI a) (ha4 : a < 4) : fX2_refund N (nI o) g = some (g 8 o, z_u2 (z_u2 g 11 a (g 11 a + g 8 o)) 8 o 0) := by
  unfold fX2_refund
  rw [m_in ho (by decide), m_ckt, m_ckt, m_clamp (by omega), m_lt, m_ckt, m_u2n g o 0 (by decide : (1 : Nat) ≠ 8), ha, m_auY ha4, m_bind, if_neg m_1_0, m_ckt, m_in ha4 (by decide), m_ckt, m_ckt, m_clamp (by omega), m_lt, m_u2n g o 0 (by decide : (11 : Nat) ≠ 8), m_cm g o a 0 _ (by decide)]
theorem m_refM {o a : Nat} (ho : o < 16) (ha : s (12 + 9 * o + 1) = nI a) (ha4 : a < 4) : fX5_refund N (nI o) (z_uR m 1 s) = some (s (12 + 9 * o + 8), z_uR m 1 (upd (upd s (9 + a) (s (9 + a) + s (12 + 9 * o + 8))) (12 + 9 * o + 8) 0)) := by
  unfold fX5_refund
  rw [m_part (p := 7) (k := 7) (r := 8) rfl rfl ho (by decide), m_bind, m_part (p := 0) (k := 0) (r := 1) rfl rfl ho (by decide), m_bind, m_same, ha, show (9 : Int32) + nI a = nI (9 + a) from nI_add 9 a, m_in (by omega) (by decide), m_ckt, m_ckt, m_clamp (by omega), m_uRR, m_lt, m_setP (p := 7) (k := 7) (r := 8) rfl rfl ho (by decide), m_bind]
/-- the open bribe of an order is refunded, on both sides -/
theorem m_refund (h : RS E n P T J g s) (hE1 : E 1) (hE : E 11 → E 8) {o : Nat} (ho : o < n) : ∃ g' s', fX2_refund N (nI o) g = some (g 8 o, g') ∧ fX5_refund N (nI o) (z_uR m 1 s) = some (s (12 + 9 * o + 8), z_uR m 1 s') ∧ RS E n P T J g' s' ∧ (∀ r, r ≠ 8 → r ≠ 11 → g' r = g r) ∧ (∀ k, g' 8 k = 0 ∨ g' 8 k = g 8 k) ∧ g' 8 o = 0 ∧ (∀ k, k ≠ 12 + 9 * o + 8 → (k < 9 ∨ 13 ≤ k) → s' k = s k) := by
  obtain ⟨a, ha4, ha⟩ := h.au ho
  have h16 := h.n16
  have hsa : s (12 + 9 * o + 1) = nI a := by rw [h.or ho (by decide) (by decide) hE1, ha]
  have h1 := h.acc (i := a) (r := 11) (v := g 11 a + g 8 o) (w := s (9 + a) + s (12 + 9 * o + 8)) ha4 (Or.inr rfl) (fun e => by rw [h.rf ha4 e, h.or ho (by decide) (by decide) (hE e)])
  rw [show 4 * 11 - 35 + a = 9 + a by omega] at h1
  have h2 := h1.part (j := o) (r := 8) (v := 0) ho (by decide) (by decide) (by
    refine ⟨?_, ?_, ?_, ?_, ?_⟩ <;> intro e <;> omega) (fun e => by omega)
  refine ⟨_, _, m_refC (by omega) ha ha4, m_refM (by omega) hsa ha4, h2, fun r h8 h11 => ?_, fun k => ?_, ?_, fun k hk hk2 => ?_⟩
  · rw [m_u2n _ o 0 h8, m_u2n g a _ h11]
  · rw [m_u2s]
    by_cases hk : k = o
    · subst hk; exact Or.inl (m_us _ _ _)
    · rw [m_un _ 0 hk, m_u2n g a _ (by decide : (8 : Nat) ≠ 11)]; exact Or.inr rfl
  · rw [m_u2s, m_us]
  · rw [m_un _ _ hk, m_un _ _ (by omega)]
theorem m_Vd6 {P : Nat} {v : Int32} (h : v = -1 ∨ ∃ p, p < P ∧ v = nI p) : m_Vd P 6 v := by
  refine ⟨?_, ?_, ?_, ?_, fun _ => h⟩ <;> intro e <;> omega
theorem m_Vd7 {P : Nat} {v : Int32} {r : Nat} (h : 7 ≤ r) : m_Vd P r v := by
  refine ⟨?_, ?_, ?_, ?_, ?_⟩ <;> intro e <;> omega
/-- an order is put on a place (or off), with its refund: the class refunds first -/
theorem m_put (h : RS E n P T J g s) (hE1 : E 1) (hE : E 11 → E 8) {o : Nat} (ho : o < n) {v : Int32} (hv : v = -1 ∨ ∃ p, p < P ∧ v = nI p) (hf : v = -1 ∨ ∀ q, q < n → q ≠ o → g 6 q ≠ v) : ∃ g' s' s'', fX2_put N (nI o) v g = some (g 8 o, g') ∧ fX5_moved N (nI o) v (z_uR m 1 s) = some (s (12 + 9 * o + 8), z_uR m 1 s') ∧ RS E n P T J g' s' ∧
    (∃ s1, fX5_refund N (nI o) (z_uR m 1 s) = some (s (12 + 9 * o + 8), z_uR m 1 s1) ∧ s'' = upd (upd s1 (12 + 9 * o + 6) v) (12 + 9 * o + 7) (-1) ∧ ∀ k, k ≠ 12 + 9 * o + 8 → (k < 9 ∨ 13 ≤ k) → s1 k = s k) ∧ RS E n P T J g' s'' ∧ (∀ r, r ≠ 8 → r ≠ 11 → r ≠ 6 → r ≠ 7 → g' r = g r) ∧ g' 6 = upd (g 6) o v ∧ g' 7 = upd (g 7) o (-1) := by
  have h16 := h.n16
  obtain ⟨g1, s1, c1, c2, c3, c4, c5, c6⟩ := m_refund (N := N) (m := m) h hE1 hE ho
  have hv6 : ∀ {q}, q < n → q ≠ o → g1 6 q = g 6 q := fun _ _ => by rw [c4 6 (by decide) (by decide)]
  have d1 := (c3.part (j := o) (r := 6) (v := v) ho (by decide) (by decide) (m_Vd6 hv) (fun _ => hf.imp id fun hq q h1 h2 => by rw [hv6 h1 h2]; exact hq q h1 h2)).part (j := o) (r := 7) (v := -1) ho (by decide) (by decide) (m_Vd7 (by decide)) (fun e => by omega)
  -- the other order of the steps
  have e1 := (h.part (j := o) (r := 6) (v := v) ho (by decide) (by decide) (m_Vd6 hv) (fun _ => hf)).part (j := o) (r := 7) (v := -1) ho (by decide) (by decide) (m_Vd7 (by decide)) (fun e => by omega)
  obtain ⟨g2, s2, b1, b2, b3, b4, b5, b6⟩ := m_refund (N := N) (m := m) e1 hE1 hE ho
  obtain ⟨a, ha4, ha⟩ := h.au ho
  have hg8 : z_u2 (z_u2 g 6 o v) 7 o (-1) 8 = g 8 := by rw [m_u2n _ o _ (by decide : (8 : Nat) ≠ 7), m_u2n _ o _ (by decide : (8 : Nat) ≠ 6)]
  have hg11 : z_u2 (z_u2 g 6 o v) 7 o (-1) 11 = g 11 := by rw [m_u2n _ o _ (by decide : (11 : Nat) ≠ 7), m_u2n _ o _ (by decide : (11 : Nat) ≠ 6)]
  have hg1 : z_u2 (z_u2 g 6 o v) 7 o (-1) 1 = g 1 := by rw [m_u2n _ o _ (by decide : (1 : Nat) ≠ 7), m_u2n _ o _ (by decide : (1 : Nat) ≠ 6)]
  have eg1 : g1 = z_u2 (z_u2 g 11 a (g 11 a + g 8 o)) 8 o 0 := by
    rw [m_refC (by omega) ha ha4] at c1
    exact (Prod.mk.inj (Option.some.inj c1)).2.symm
  have eg2 : g2 = z_u2 (z_u2 (z_u2 (z_u2 g 6 o v) 7 o (-1)) 11 a (g 11 a + g 8 o)) 8 o 0 := by
    have q := m_refC (N := N) (g := z_u2 (z_u2 g 6 o v) 7 o (-1)) (o := o) (by omega) (by rw [hg1]; exact ha) ha4
    rw [q, hg8, hg11] at b1
    exact (Prod.mk.inj (Option.some.inj b1)).2.symm
  have eg : g2 = z_u2 (z_u2 g1 6 o v) 7 o (-1) := by
    rw [eg1, eg2]
    rw [m_cm _ o o 0 v (by decide : (8 : Nat) ≠ 6), m_cm _ o o 0 (-1) (by decide : (8 : Nat) ≠ 7), m_cm _ a o _ v (by decide : (11 : Nat) ≠ 6), m_cm _ a o _ (-1) (by decide : (11 : Nat) ≠ 7)]
  rw [eg] at b3
  have hs8 : upd (upd s (12 + 9 * o + 6) v) (12 + 9 * o + 7) (-1) (12 + 9 * o + 8) = s (12 + 9 * o + 8) := by rw [m_un _ _ (by omega), m_un _ _ (by omega)]
  rw [hs8] at b2
  refine ⟨_, s2, _, ?_, ?_, b3, ⟨s1, c2, rfl, c6.2⟩, d1, fun r r8 r11 r6 r7 => ?_, ?_, ?_⟩
  · unfold fX2_put
    rw [c1, m_b2, m_in (by omega) (by decide), m_ckt, m_clamp (by omega), m_lt, m_ckt, m_lt]
  · unfold fX5_moved
    rw [m_setP (p := 5) (k := 5) (r := 6) rfl rfl (by omega) (by decide), m_bind, m_setP (p := 6) (k := 6) (r := 7) rfl rfl (by omega) (by decide), m_bind, b2, m_b2]
  · rw [m_u2n _ o _ r7, m_u2n _ o _ r6, c4 r r8 r11]
  · rw [m_u2n _ o _ (by decide : (6 : Nat) ≠ 7), m_u2s, c4 6 (by decide) (by decide)]
  · rw [m_u2s, m_u2n _ o _ (by decide : (7 : Nat) ≠ 6), c4 7 (by decide) (by decide)]
theorem m_toC (hE1 : E 1) (hE : E 11 → E 8) : ∀ (k i fu fv : Nat) (g : z_R) (s : Nat → Int32), i + k = n → k < fu → k < fv → RS E n P T J g s → (∀ o, o < i → g 6 o = -1 ∧ g 7 o = -1 ∧ s (12 + 9 * o + 6) = -1 ∧ s (12 + 9 * o + 7) = -1) → ∃ g' s', lX2_takeAllOff_2 N fu (nI i) g = some g' ∧ lX5_takeOff_2 N fv (nI i) (z_uR m 1 s) = some (z_uR m 1 s') ∧ RS E n P T J g' s' ∧ (∀ o, o < n → g' 6 o = -1 ∧ g' 7 o = -1 ∧ s' (12 + 9 * o + 6) = -1 ∧ s' (12 + 9 * o + 7) = -1) ∧ (∀ r, r ≠ 8 → r ≠ 11 → r ≠ 6 → r ≠ 7 → g' r = g r) := by
  intro k
  induction k with
  | zero =>
    intro i fu fv g s hi hfu hfv h hb
    obtain ⟨fu, rfl⟩ : ∃ q, fu = q + 1 := ⟨fu - 1, by omega⟩
    obtain ⟨fv, rfl⟩ : ∃ q, fv = q + 1 := ⟨fv - 1, by omega⟩
    have e : i = n := by omega
    subst e
    have h16 := h.n16
    refine ⟨g, s, ?_, ?_, h, hb, fun _ _ _ _ _ => rfl⟩
    · rw [lX2_takeAllOff_2.eq_2]
      by_cases c : (16 : Int32) ≤ nI i
      · rw [if_pos c]
      · rw [if_neg c, m_hasN h.gn (Or.inr (nI_le (by omega) (by omega))), m_bind, if_pos m_00]
    · rw [lX5_takeOff_2.eq_2, m_same, m_t2, h.sn, if_pos (nI_le (by omega) (by omega))]
  | succ k ih =>
    intro i fu fv g s hi hfu hfv h hb
    obtain ⟨fu, rfl⟩ : ∃ q, fu = q + 1 := ⟨fu - 1, by omega⟩
    obtain ⟨fv, rfl⟩ : ∃ q, fv = q + 1 := ⟨fv - 1, by omega⟩
    have h16 := h.n16
    obtain ⟨g1, s0, s1, a1, -, -, ⟨s3, a4, a5, a10⟩, a6, a7, a8, a9⟩ := m_put (N := N) (m := m) h hE1 hE (o := i) (by omega) (v := -1) (Or.inl rfl) (Or.inl rfl)
    obtain ⟨g', s', b1, b2, b3, b4, b5⟩ := ih (i + 1) fu fv g1 s1 (by omega) (by omega) (by omega) a6 (fun o ho => by
      rw [a8, a9]
      by_cases e : o = i
      · subst e
        refine ⟨m_us _ _ _, m_us _ _ _, ?_, ?_⟩
        · rw [a5, m_un _ _ (by omega), m_us]
        · rw [a5, m_us]
      · rw [m_un _ _ e, m_un _ _ e, a5, m_un _ _ (by omega), m_un _ _ (by omega), m_un _ _ (by omega), m_un _ _ (by omega), a10 _ (by omega) (by omega), a10 _ (by omega) (by omega)]; exact hb o (by omega))
    refine ⟨g', s', ?_, ?_, b3, b4, fun r r8 r11 r6 r7 => by rw [b5 r r8 r11 r6 r7, a7 r r8 r11 r6 r7]⟩
    · rw [lX2_takeAllOff_2.eq_2, if_neg (m_ge16 (by omega)), m_hasY h.gn h16 (by omega), m_bind, if_neg m_1_0, a1, m_b2, nI_1]
      exact b1
    · rw [lX5_takeOff_2.eq_2, m_same, m_t2, h.sn, if_neg (nI_ge (by omega) (by omega)), a4, m_b2, m_setP (p := 5) (k := 5) (r := 6) rfl rfl (by omega) (by decide), m_bind, m_setP (p := 6) (k := 6) (r := 7) rfl rfl (by omega) (by decide), m_bind, nI_1, ← a5]
      exact b2
/-- all orders are taken off -/
theorem m_takeOff (h : RS E n P T J g s) (hE1 : E 1) (hE : E 11 → E 8) (hN : 17 ≤ N) : ∃ g' s', fX2_takeAllOff N g = some g' ∧ fX5_takeOff N (z_uR m 1 s) = some (z_uR m 1 s') ∧ RS E n P T J g' s' ∧ (∀ o, o < n → g' 6 o = -1 ∧ g' 7 o = -1 ∧ s' (12 + 9 * o + 6) = -1 ∧ s' (12 + 9 * o + 7) = -1) ∧ (∀ r, r ≠ 8 → r ≠ 11 → r ≠ 6 → r ≠ 7 → g' r = g r) := by
  have h16 := h.n16
  exact m_toC hE1 hE n 0 N N g s (by omega) (by omega) (by omega) h (fun o ho => by omega)
end MR3
