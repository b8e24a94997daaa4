/-! laying, both sides: the class takes the next order, the reference goes over bribes and orders -/
section MR6
variable {E : Nat → Prop} {N n P T J : Nat} {g m : z_R} {s : Nat → Int32}
theorem m_Vd8 {P r : Nat} {v : Int32} (h : 7 ≤ r) : m_Vd P r v := m_Vd7 h
/-- the accounts behind a laid order -/
theorem RS.lay (h : RS E n P T J g s) {o a p f b : Nat} (ho : o < n) (ha4 : a < 4) (hp : p < P) (hfree : ∀ q, q < n → g 6 q ≠ nI p) : RS E n P T J (z_u2 (z_u2 (z_u2 (z_u2 g 6 o (nI p)) 7 o (nI f)) 8 o (nI b)) 10 a (g 10 a + nI b)) (upd (upd (upd (upd s (12 + 9 * o + 6) (nI p)) (12 + 9 * o + 7) (nI f)) (12 + 9 * o + 8) (nI b)) (5 + a) (s (5 + a) + nI b)) := by
  have h1 := ((h.part (j := o) (r := 6) (v := nI p) ho (by decide) (by decide) (m_Vd6 (Or.inr ⟨p, hp, rfl⟩)) (fun _ => Or.inr fun q hq _ => hfree q hq)).part (j := o) (r := 7) (v := nI f) ho (by decide) (by decide) (m_Vd7 (by decide)) (fun e => by omega)).part (j := o) (r := 8) (v := nI b) ho (by decide) (by decide) (m_Vd7 (by decide)) (fun e => by omega)
  have h2 := h1.acc (i := a) (r := 10) (v := g 10 a + nI b) (w := s (5 + a) + nI b) ha4 (Or.inl rfl) (fun e => by rw [h.pd ha4 e])
  rw [show 4 * 10 - 35 + a = 5 + a by omega] at h2
  exact h2
theorem m_Nx_up {f : Nat → Int32} {pos : Nat} {r : Int32} (h : m_Nx n f pos r) (hno : ∀ o, o < n → m_key f o ≠ pos) : m_Nx n f (pos + 1) r := by
  rcases h with ⟨e, h⟩ | ⟨o, ho, e, h1, h2⟩
  · exact Or.inl ⟨e, fun o ho => by have := h o ho; omega⟩
  · exact Or.inr ⟨o, ho, e, by have := hno o ho; omega, fun q hq h3 => h2 q hq (by omega)⟩
theorem m_Nx_skip {f : Nat → Int32} {pos : Nat} {r : Int32} : ∀ (k : Nat), (∀ o, o < n → m_key f o < pos ∨ pos + k ≤ m_key f o) → m_Nx n f pos r → m_Nx n f (pos + k) r := by
  intro k
  induction k generalizing pos with
  | zero => intro _ h; exact h
  | succ k ih =>
    intro hno h
    have h1 := m_Nx_up h (fun o ho e => by rcases hno o ho with q | q <;> omega)
    have h2 := ih (pos := pos + 1) (fun o ho => by rcases hno o ho with q | q <;> omega) h1
    rw [show pos + (k + 1) = pos + 1 + k by omega]
    exact h2
/-- one bribe's orders -/
theorem m_l15 (hE : E 1 ∧ E 2 ∧ E 3 ∧ E 5 ∧ E 6) (hN : 50 ≤ N) {b : Nat} (hb : b ≤ 99) (kk : Int32 → z_R → Option (Int32 × z_R)) : ∀ (k i fu c : Nat) (sum r : Int32) (g : z_R) (s : Nat → Int32), i + k = n → k < fu → RS E n P T J g s → m_Nx n (g 5) ((99 - b) * 16 + i) r → c ≤ m_cnt (m_key (g 5)) ((99 - b) * 16 + i) n → (∀ o, o < n → (99 - b) * 16 + i ≤ m_key (g 5) o → g 6 o = -1 ∧ g 7 o = -1) →
    ∃ g' s' r' sum' c', lX5_laid_15 N (nI b) kk fu sum (nI i) (z_uR m 1 s) = kk sum' (z_uR m 1 s') ∧ (∀ fa, 17 ≤ fa + c → ∃ fa', 17 ≤ fa' + c' ∧ lX2_layAll_14 N fa sum r (nI c) g = lX2_layAll_14 N fa' sum' r' (nI c') g') ∧ RS E n P T J g' s' ∧ m_Nx n (g' 5) ((99 - b) * 16 + n) r' ∧ c' ≤ m_cnt (m_key (g' 5)) ((99 - b) * 16 + n) n ∧ (∀ o, o < n → (99 - b) * 16 + n ≤ m_key (g' 5) o → g' 6 o = -1 ∧ g' 7 o = -1) ∧ (∀ q, q ≠ 6 → q ≠ 7 → q ≠ 8 → q ≠ 10 → g' q = g q) := by
  obtain ⟨hE1, hE2, hE3, hE5, hE6⟩ := hE
  intro k
  induction k with
  | zero =>
    intro i fu c sum r g s hi hfu h hr hc hinv
    obtain ⟨fu, rfl⟩ : ∃ q, fu = q + 1 := ⟨fu - 1, by omega⟩
    have e : i = n := by omega
    subst e
    have h16 := h.n16
    refine ⟨g, s, r, sum, c, ?_, fun fa hfa => ⟨fa, hfa, rfl⟩, h, hr, hc, hinv, fun _ _ _ _ _ => rfl⟩
    rw [lX5_laid_15.eq_2, m_same, m_t2, h.sn, if_pos (nI_le (by omega) (by omega))]
  | succ k ih =>
    intro i fu c sum r g s hi hfu h hr hc hinv
    obtain ⟨fu, rfl⟩ : ∃ q, fu = q + 1 := ⟨fu - 1, by omega⟩
    have h16 := h.n16
    have hP6 := h.P6
    have hP4 := h.P40
    have hin : i < n := by omega
    obtain ⟨bi, k1, k2, k3⟩ := h.key hin
    have hs5 : s (12 + 9 * i + 5) = nI bi := by rw [h.or hin (by decide) (by decide) hE5, k2]
    by_cases hbi : bi = b
    · -- the order i is laid
      subst hbi
      have hr1 : r = nI i := by
        rcases hr with ⟨-, q⟩ | ⟨o, ho, e, q1, q2⟩
        · have := q i hin; omega
        · have q3 := q2 i hin (by omega)
          obtain ⟨bo, o1, o2, o3⟩ := h.key ho
          have : o = i := by omega
          rw [e, this]
      subst hr1
      have hc16 : c < 16 := by
        have := m_cnt_lt (m_key (g 5)) ((99 - bi) * 16 + i) i (by omega) n hin
        omega
      obtain ⟨a, ha4, ha⟩ := h.au hin
      have hsa : s (12 + 9 * i + 1) = nI a := by rw [h.or hin (by decide) (by decide) hE1, ha]
      obtain ⟨h6, h7⟩ := hinv i hin (by omega)
      obtain ⟨w, hw, w1, w2⟩ := m_wanted (N := N) (m := m) h hE2 hE3 hE6 (by omega) hin
      -- what the class does at this order
      have cls : ∀ g1 : z_R, fX2_layOne N (nI i) g = some g1 → ∀ r1, fX2_laidBehind N (nI i) g1 = some r1 → g1 0 1 = nI n → ∀ fa, 17 ≤ fa + c → ∃ fa', 17 ≤ fa' + (c + 1) ∧ lX2_layAll_14 N fa sum (nI i) (nI c) g = lX2_layAll_14 N fa' (if g1 7 i = -1 then sum else sum + g1 7 i) r1 (nI (c + 1)) g1 := by
        intro g1 e1 r1 e2 e3 fa hfa
        obtain ⟨fa, rfl⟩ : ∃ q, fa = q + 1 := ⟨fa - 1, by omega⟩
        refine ⟨fa, by omega, ?_⟩
        rw [lX2_layAll_14.eq_2, if_neg (m_ge16 (by omega)), m_hasY h.gn h16 hin, m_bind, if_neg m_1_0, e1, m_bind, m_in (by omega) (by decide), m_ckt, m_clamp (by omega), e2, m_bind, m_ckt, m_bind, nI_1]
        by_cases q : g1 7 i = -1
        · rw [if_pos q, if_pos q]
        · rw [if_neg q, if_neg q]
      have hlay : fX2_layOne N (nI i) g = lX2_layOne_8 N (nI i) (nI w) g N (nI 0) := by
        unfold fX2_layOne
        rw [w1, m_bind]
        rfl
      have hsn : (z_uR m 1 s) 1 2 = nI n := by rw [m_same]; exact h.sn
      have hsb : (z_uR m 1 s) 1 (12 + 9 * i + 5) = nI bi := by rw [m_same]; exact hs5
      rw [lX5_laid_15.eq_2, m_t2, hsn, if_neg (nI_ge (by omega) (by omega)), m_part (p := 4) (k := 4) (r := 5) rfl rfl (by omega) (by decide), m_bind, hsb, if_pos rfl, w2, m_bind]
      obtain ⟨f, f1, f2, f3⟩ := m_lay8 (N := N) (m := m) h hE6 (by omega) hin hw ha ha4 sum (nI bi) (nI i) (fun x5_45 => (if (z_uR m 1 s) 1 ((0 : Int32)).toNatClampNeg ≤ x5_45 then (lX5_laid_15 N (nI bi) kk fu sum (nI i + (1 : Int32)) (z_uR m 1 s)) else z_ck (z_nz ((z_uR m 1 s) 1 ((0 : Int32)).toNatClampNeg)) <| (fX5_setPart N (nI i) (5 : Int32) ((nI w + x5_45) - (nI w + x5_45) / ((z_uR m 1 s) 1 ((0 : Int32)).toNatClampNeg) * ((z_uR m 1 s) 1 ((0 : Int32)).toNatClampNeg)) (z_uR m 1 s)).bind fun g13 => (fX5_setPart N (nI i) (6 : Int32) x5_45 g13).bind fun g14 => (fX5_setPart N (nI i) (7 : Int32) (nI bi) g14).bind fun g15 => (fX5_part N (nI i) (0 : Int32) g15).bind fun r16 => z_ck (z_in ((5 : Int32) + r16) 925) <| z_ck (z_in ((5 : Int32) + r16) 925) <| z_lt (z_u2 g15 1 (((5 : Int32) + r16)).toNatClampNeg ((g15 1 (((5 : Int32) + r16)).toNatClampNeg) + (nI bi))) fun g19 => (lX5_laid_15 N (nI bi) kk fu (sum + x5_45) (nI i + (1 : Int32)) g19))) P 0 N N (by omega) (by omega) (by omega)
      rw [nI_0] at f2
      rw [f2]
      rw [m_same, m_t0, h.sP]
      rcases f3 with ⟨e, f4⟩ | ⟨e, hfree, f4⟩
      · -- no place is free
        subst e
        rw [if_pos (nI_le (Nat.le_refl f) (by omega)), nI_1]
        obtain ⟨r1, l1, l2⟩ := m_laidBehind (N := N) h (by omega) (nI i) (m_key (g 5) i + 1) (Or.inr ⟨i, hin, rfl, rfl⟩)
        rw [k3, show (99 - bi) * 16 + i + 1 = (99 - bi) * 16 + (i + 1) by omega] at l2
        obtain ⟨g', s', r', sum', c', d1, d2, d3, d4, d5, d6, d7⟩ := ih (i + 1) fu (c + 1) sum r1 g s (by omega) (by omega) h l2 (by
          have := m_cnt_s (m_key (g 5)) k3 n hin
          rw [show (99 - bi) * 16 + (i + 1) = (99 - bi) * 16 + i + 1 by omega]
          omega) (fun o ho hk => hinv o ho (by omega))
        refine ⟨g', s', r', sum', c', d1, fun fa hfa => ?_, d3, d4, d5, d6, d7⟩
        obtain ⟨fb, p1, p2⟩ := cls g (by rw [hlay]; exact f4) r1 l1 h.gn fa hfa
        rw [p2, if_pos h7]
        exact d2 fb p1
      · -- the order stands
        have hp : (w + f) % P < P := Nat.mod_lt _ (by omega)
        rw [k2] at f4
        have h1 := h.lay (f := f) (b := bi) hin ha4 hp hfree
        rw [if_neg (nI_ge e (by omega)), m_nz (by omega) (by omega), m_ckt, nI_add, pk_rem (by omega) (by omega) (by omega), m_setP (p := 5) (k := 5) (r := 6) rfl rfl (by omega) (by decide), m_bind, m_setP (p := 6) (k := 6) (r := 7) rfl rfl (by omega) (by decide), m_bind, m_setP (p := 7) (k := 7) (r := 8) rfl rfl (by omega) (by decide), m_bind, m_part (p := 0) (k := 0) (r := 1) rfl rfl (by omega) (by decide), m_bind, m_same, m_un _ _ (by omega), m_un _ _ (by omega), m_un _ _ (by omega), hsa, show (5 : Int32) + nI a = nI (5 + a) from nI_add 5 a, m_in (by omega) (by decide), m_ckt, m_ckt, m_clamp (by omega), m_un _ _ (show 5 + a ≠ 12 + 9 * i + 8 by omega), m_un _ _ (show 5 + a ≠ 12 + 9 * i + 7 by omega), m_un _ _ (show 5 + a ≠ 12 + 9 * i + 6 by omega), m_uRR, m_lt, nI_1]
        obtain ⟨G, hG⟩ : ∃ G, G = z_u2 (z_u2 (z_u2 (z_u2 g 6 i (nI ((w + f) % P))) 7 i (nI f)) 8 i (nI bi)) 10 a (g 10 a + nI bi) := ⟨_, rfl⟩
        rw [← hG] at f4 h1
        have g5 : G 5 = g 5 := by rw [hG, m_u2n _ _ _ (by decide), m_u2n _ _ _ (by decide), m_u2n _ _ _ (by decide), m_u2n _ _ _ (by decide)]
        have g7 : G 7 = upd (g 7) i (nI f) := by rw [hG, m_u2n _ _ _ (by decide), m_u2n _ _ _ (by decide), m_u2s, m_u2n _ _ _ (by decide)]
        have g6 : G 6 = upd (g 6) i (nI ((w + f) % P)) := by rw [hG, m_u2n _ _ _ (by decide), m_u2n _ _ _ (by decide), m_u2n _ _ _ (by decide), m_u2s]
        obtain ⟨r1, l1, l2⟩ := m_laidBehind (N := N) h1 (by omega) (nI i) (m_key (G 5) i + 1) (Or.inr ⟨i, hin, rfl, rfl⟩)
        rw [show m_key (G 5) i + 1 = (99 - bi) * 16 + (i + 1) by rw [g5, k3]; omega] at l2
        obtain ⟨g', s', r', sum', c', d1, d2, d3, d4, d5, d6, d7⟩ := ih (i + 1) fu (c + 1) (sum + nI f) r1 G _ (by omega) (by omega) h1 l2 (by
          have := m_cnt_s (m_key (g 5)) k3 n hin
          rw [g5, show (99 - bi) * 16 + (i + 1) = (99 - bi) * 16 + i + 1 by omega]
          omega) (fun o ho hk => by
          rw [g5] at hk
          have hoi : o ≠ i := fun e => by subst e; omega
          rw [g6, g7, m_un _ _ hoi, m_un _ _ hoi]
          exact hinv o ho (by omega))
        refine ⟨g', s', r', sum', c', d1, fun fa hfa => ?_, d3, d4, d5, d6, fun q q6 q7 q8 q10 => ?_⟩
        · obtain ⟨fb, p1, p2⟩ := cls G (by rw [hlay]; exact f4) r1 l1 h1.gn fa hfa
          rw [p2, if_neg (show ¬ G 7 i = -1 by rw [g7, m_us]; exact m_nN f (by omega)), show G 7 i = nI f by rw [g7, m_us]]
          exact d2 fb p1
        · rw [d7 q q6 q7 q8 q10, hG, m_u2n _ _ _ q10, m_u2n _ _ _ q8, m_u2n _ _ _ q7, m_u2n _ _ _ q6]
    · -- another bribe
      have hne : ∀ o, o < n → m_key (g 5) o ≠ (99 - b) * 16 + i := fun o ho e => by
        obtain ⟨bo, o1, o2, o3⟩ := h.key ho
        have : o = i := by omega
        subst this
        omega
      obtain ⟨g', s', r', sum', c', d1, d2, d3, d4, d5, d6, d7⟩ := ih (i + 1) fu c sum r g s (by omega) (by omega) h (by rw [show (99 - b) * 16 + (i + 1) = (99 - b) * 16 + i + 1 by omega]; exact m_Nx_up hr hne) (Nat.le_trans hc (m_cnt_mono _ (by omega) n)) (fun o ho hk => hinv o ho (by omega))
      refine ⟨g', s', r', sum', c', ?_, d2, d3, d4, d5, d6, d7⟩
      rw [lX5_laid_15.eq_2, m_same, m_t2, h.sn, if_neg (nI_ge (by omega) (by omega)), m_part (p := 4) (k := 4) (r := 5) rfl rfl (by omega) (by decide), m_bind, m_same, hs5, if_neg (fun e => hbi (m_nI_inj (by omega) (by omega) e)), nI_1]
      exact d1
/-- all bribes from b - 1 down -/
theorem m_l9 (hE : E 1 ∧ E 2 ∧ E 3 ∧ E 5 ∧ E 6) (hN : 110 ≤ N) : ∀ (b fu c : Nat) (sum r : Int32) (g : z_R) (s : Nat → Int32), b ≤ 100 → b < fu → RS E n P T J g s → m_Nx n (g 5) ((100 - b) * 16) r → c ≤ m_cnt (m_key (g 5)) ((100 - b) * 16) n → (∀ o, o < n → (100 - b) * 16 ≤ m_key (g 5) o → g 6 o = -1 ∧ g 7 o = -1) →
    ∃ g' s' sum', lX5_laid_9 N fu sum (nI b - 1) (z_uR m 1 s) = some (sum', z_uR m 1 s') ∧ (∀ fa, 17 ≤ fa + c → lX2_layAll_14 N fa sum r (nI c) g = some (sum', g')) ∧ RS E n P T J g' s' ∧ (∀ q, q ≠ 6 → q ≠ 7 → q ≠ 8 → q ≠ 10 → g' q = g q) := by
  intro b
  induction b with
  | zero =>
    intro fu c sum r g s hb hfu h hr hc hinv
    obtain ⟨fu, rfl⟩ : ∃ q, fu = q + 1 := ⟨fu - 1, by omega⟩
    have h16 := h.n16
    refine ⟨g, s, sum, ?_, fun fa hfa => ?_, h, fun _ _ _ _ _ => rfl⟩
    · rw [lX5_laid_9.eq_2, if_pos (by decide)]
    · have hr1 : r = -1 := by
        rcases hr with ⟨e, -⟩ | ⟨o, ho, e, h1, -⟩
        · exact e
        · obtain ⟨b, q1, q2, q3⟩ := h.key ho
          omega
      have hcn := m_cnt_le (m_key (g 5)) ((100 - 0) * 16) n
      obtain ⟨fa, rfl⟩ : ∃ q, fa = q + 1 := ⟨fa - 1, by omega⟩
      rw [lX2_layAll_14.eq_2, hr1]
      by_cases c16 : (16 : Int32) ≤ nI c
      · rw [if_pos c16]
      · rw [if_neg c16, m_hasN h.gn (Or.inl (by decide)), m_bind, if_pos m_00]
  | succ b ih =>
    intro fu c sum r g s hb hfu h hr hc hinv
    obtain ⟨fu, rfl⟩ : ∃ q, fu = q + 1 := ⟨fu - 1, by omega⟩
    have h16 := h.n16
    have e1 : nI (b + 1) - 1 = nI b := nI_pred b
    have e2 : nI b + (-1) = nI b - 1 := (Int32.sub_eq_add_neg (nI b) 1).symm
    rw [show (100 - (b + 1)) * 16 = (99 - b) * 16 + 0 by omega] at hr hc hinv
    obtain ⟨g1, s1, r1, sum1, c1, a1, a2, a3, a4, a5, a6, a7⟩ := m_l15 (N := N) (m := m) hE (by omega) (b := b) (by omega) (fun x1_15 g15_20 => (lX5_laid_9 N fu x1_15 (nI b + (-1 : Int32)) g15_20)) n 0 N c sum r g s (by omega) (by omega) h hr hc hinv
    have hgap : ∀ o, o < n → m_key (g1 5) o < (99 - b) * 16 + n ∨ (99 - b) * 16 + n + (16 - n) ≤ m_key (g1 5) o := fun o ho => by
      obtain ⟨bo, q1, q2, q3⟩ := a3.key ho
      omega
    have e3 : (99 - b) * 16 + n + (16 - n) = (100 - b) * 16 := by omega
    have a8 := m_Nx_skip (16 - n) hgap a4
    rw [e3] at a8
    obtain ⟨g', s', sum', d1, d2, d3, d4⟩ := ih fu c1 sum1 r1 g1 s1 (by omega) (by omega) a3 a8 (Nat.le_trans a5 (m_cnt_mono _ (by omega) n)) (fun o ho hk => a6 o ho (by omega))
    refine ⟨g', s', sum', ?_, fun fa hfa => ?_, d3, fun q q6 q7 q8 q10 => by rw [d4 q q6 q7 q8 q10, a7 q q6 q7 q8 q10]⟩
    · rw [lX5_laid_9.eq_2, e1, if_neg (m_neg (by omega)), show (0 : Int32) = nI 0 from rfl, a1, e2]
      exact d1
    · obtain ⟨fb, b1, b2⟩ := a2 fa hfa
      rw [b2]
      exact d2 fb b1
/-- the whole laying -/
theorem m_layAll (h : RS E n P T J g s) (hE : E 1 ∧ E 2 ∧ E 3 ∧ E 5 ∧ E 6) (hE8 : E 11 → E 8) (hN : 110 ≤ N) : ∃ g' s' sum, fX2_layAll N g = some (sum, g') ∧ fX5_laid N (z_uR m 1 s) = some (sum, z_uR m 1 s') ∧ RS E n P T J g' s' ∧ (∀ q, q ≠ 6 → q ≠ 7 → q ≠ 8 → q ≠ 10 → q ≠ 11 → g' q = g q) := by
  obtain ⟨g1, s1, a1, a2, a3, a4, a5⟩ := m_takeOff (N := N) (m := m) h hE.1 hE8 (by omega)
  obtain ⟨r, b1, b2⟩ := m_laidBehind (N := N) a3 (by omega) (-1) 0 (Or.inl ⟨rfl, rfl⟩)
  obtain ⟨g', s', sum, c1, c2, c3, c4⟩ := m_l9 (N := N) (m := m) hE hN 100 N 0 0 r g1 s1 (by omega) (by omega) a3 b2 (Nat.zero_le _) (fun o ho _ => ⟨(a4 o ho).1, (a4 o ho).2.1⟩)
  refine ⟨g', s', sum, ?_, ?_, c3, fun q q6 q7 q8 q10 q11 => by rw [c4 q q6 q7 q8 q10, a5 q q8 q11 q6 q7]⟩
  · unfold fX2_layAll
    rw [a1, m_bind, b1, m_bind]
    exact c2 N (by omega)
  · unfold fX5_laid
    rw [a2, m_bind, show (99 : Int32) = nI 100 - 1 by decide]
    exact c1
theorem RS.mo {E E' : Nat → Prop} (h : RS E n P T J g s) (hE : ∀ r, E' r → E r) : RS E' n P T J g s := ⟨h.1, h.2.1, h.2.2.1, fun e => h.2.2.2.1 (hE _ e), fun e => h.2.2.2.2.1 (hE _ e), fun i hi => ⟨fun e => h.pd hi (hE _ e), fun e => h.rf hi (hE _ e)⟩, fun o r ho h1 h9 => ⟨fun e => h.or ho h1 h9 (hE _ e), h.vd ho h1 h9⟩, h.2.2.2.2.2.2.2.1, h.2.2.2.2.2.2.2.2.1, fun e => h.2.2.2.2.2.2.2.2.2.1 (hE _ e), h.2.2.2.2.2.2.2.2.2.2⟩
theorem RS.up {E : Nat → Prop} (h : RS E n P T J g s) (h6 : ∀ o, o < n → s (12 + 9 * o + 6) = g 6 o ∧ s (12 + 9 * o + 7) = g 7 o) : RS (fun r => E r ∨ r = 6 ∨ r = 7) n P T J g s := ⟨h.1, h.2.1, h.2.2.1, fun e => h.2.2.2.1 (e.resolve_right (by omega)), fun e => h.2.2.2.2.1 (e.resolve_right (by omega)), fun i hi => ⟨fun e => h.pd hi (e.resolve_right (by omega)), fun e => h.rf hi (e.resolve_right (by omega))⟩, fun o r ho h1 h9 => ⟨fun e => by
  rcases e with e | e | e
  · exact h.or ho h1 h9 e
  · subst e; exact (h6 o ho).1
  · subst e; exact (h6 o ho).2, h.vd ho h1 h9⟩, h.2.2.2.2.2.2.2.1, h.2.2.2.2.2.2.2.2.1, fun e => h.2.2.2.2.2.2.2.2.2.1 (e.resolve_right (by omega)), h.2.2.2.2.2.2.2.2.2.2⟩
/-- the laying needs no places to begin with -/
theorem m_lay0 {E : Nat → Prop} (h : RS E n P T J g s) (hE : E 1 ∧ E 2 ∧ E 3 ∧ E 5) (hE8 : E 11 → E 8) (hN : 110 ≤ N) : ∃ g' s' sum, fX2_layAll N g = some (sum, g') ∧ fX5_laid N (z_uR m 1 s) = some (sum, z_uR m 1 s') ∧ RS (fun r => E r ∨ r = 6 ∨ r = 7) n P T J g' s' ∧ (∀ q, q ≠ 6 → q ≠ 7 → q ≠ 8 → q ≠ 10 → q ≠ 11 → g' q = g q) := by
  obtain ⟨g1, s1, a1, a2, a3, a4, a5⟩ := m_takeOff (N := N) (m := m) h hE.1 hE8 (by omega)
  have a6 := a3.up (fun o ho => ⟨(a4 o ho).2.2.1.trans (a4 o ho).1.symm, (a4 o ho).2.2.2.trans (a4 o ho).2.1.symm⟩)
  obtain ⟨r, b1, b2⟩ := m_laidBehind (N := N) a6 (by omega) (-1) 0 (Or.inl ⟨rfl, rfl⟩)
  obtain ⟨g', s', sum, c1, c2, c3, c4⟩ := m_l9 (N := N) (m := m) ⟨Or.inl hE.1, Or.inl hE.2.1, Or.inl hE.2.2.1, Or.inl hE.2.2.2, Or.inr (Or.inl rfl)⟩ hN 100 N 0 0 r g1 s1 (by omega) (by omega) a6 b2 (Nat.zero_le _) (fun o ho _ => ⟨(a4 o ho).1, (a4 o ho).2.1⟩)
  refine ⟨g', s', sum, ?_, ?_, c3, fun q q6 q7 q8 q10 q11 => by rw [c4 q q6 q7 q8 q10, a5 q q8 q11 q6 q7]⟩
  · unfold fX2_layAll
    rw [a1, m_bind, b1, m_bind]
    exact c2 N (by omega)
  · unfold fX5_laid
    rw [a2, m_bind, show (99 : Int32) = nI 100 - 1 by decide]
    exact c1
end MR6
