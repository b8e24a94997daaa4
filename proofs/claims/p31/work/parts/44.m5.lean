/-! the orders are laid, on both sides -/
def m_key (f : Nat → Int32) (o : Nat) : Nat := (99 - (f o).toNatClampNeg) * 16 + o
def m_Nx (n : Nat) (f : Nat → Int32) (pos : Nat) (r : Int32) : Prop := (r = -1 ∧ ∀ o, o < n → m_key f o < pos) ∨ ∃ o, o < n ∧ r = nI o ∧ pos ≤ m_key f o ∧ ∀ q, q < n → pos ≤ m_key f q → m_key f o ≤ m_key f q
def m_cnt (f : Nat → Nat) (pos : Nat) : Nat → Nat
  | 0 => 0
  | n + 1 => m_cnt f pos n + (if f n < pos then 1 else 0)
theorem m_cnt_le (f : Nat → Nat) (pos : Nat) : ∀ n, m_cnt f pos n ≤ n := by
  intro n
  induction n with
  | zero => exact Nat.le_refl 0
  | succ n ih =>
    show m_cnt f pos n + (if f n < pos then 1 else 0) ≤ n + 1
    split <;> omega
theorem m_cnt_lt (f : Nat → Nat) (pos o : Nat) (h : pos ≤ f o) : ∀ n, o < n → m_cnt f pos n < n := by
  intro n
  induction n with
  | zero => intro h0; omega
  | succ n ih =>
    intro ho
    show m_cnt f pos n + (if f n < pos then 1 else 0) < n + 1
    by_cases e : o = n
    · subst e
      rw [if_neg (by omega)]
      have := m_cnt_le f pos o
      omega
    · have := ih (by omega)
      split <;> omega
theorem m_cnt_mono (f : Nat → Nat) {p q : Nat} (h : p ≤ q) : ∀ n, m_cnt f p n ≤ m_cnt f q n := by
  intro n
  induction n with
  | zero => exact Nat.le_refl 0
  | succ n ih =>
    show m_cnt f p n + (if f n < p then 1 else 0) ≤ m_cnt f q n + (if f n < q then 1 else 0)
    by_cases h1 : f n < p
    · rw [if_pos h1, if_pos (by omega)]; omega
    · rw [if_neg h1]; omega
theorem m_cnt_s (f : Nat → Nat) {pos o : Nat} (h : f o = pos) : ∀ n, o < n → m_cnt f pos n + 1 ≤ m_cnt f (pos + 1) n := by
  intro n
  induction n with
  | zero => intro h0; omega
  | succ n ih =>
    intro ho
    show m_cnt f pos n + (if f n < pos then 1 else 0) + 1 ≤ m_cnt f (pos + 1) n + (if f n < pos + 1 then 1 else 0)
    by_cases e : o = n
    · subst e
      rw [if_neg (by omega), if_pos (by omega)]
      have := m_cnt_mono f (show pos ≤ pos + 1 by omega) o
      omega
    · have := ih (by omega)
      by_cases h1 : f n < pos
      · rw [if_pos h1, if_pos (by omega)]; omega
      · rw [if_neg h1]; omega
section MR5
variable {E : Nat → Prop} {N n P T J : Nat} {g m : z_R} {s : Nat → Int32}
theorem RS.key (h : RS E n P T J g s) {o : Nat} (ho : o < n) : ∃ b, b ≤ 99 ∧ g 5 o = nI b ∧ m_key (g 5) o = (99 - b) * 16 + o := by
  obtain ⟨b, hb, e⟩ := h.br ho
  refine ⟨b, hb, e, ?_⟩
  unfold m_key
  rw [e, m_clamp (by omega)]
/-- one more order is looked at, on the way to the next one to be laid -/
theorem m_nx1 {f : Nat → Int32} {pos i : Nat} {r : Int32} (hi : i < 16) (hb : ∀ o, o ≤ i → ∃ b, b ≤ 99 ∧ f o = nI b) (h : m_Nx i f pos r) : (m_key f i < pos → m_Nx (i + 1) f pos r) ∧ (pos ≤ m_key f i → (r = -1 → m_Nx (i + 1) f pos (nI i)) ∧ ∀ q, q < i → r = nI q → (f i ≤ f q → m_Nx (i + 1) f pos r) ∧ (¬ f i ≤ f q → m_Nx (i + 1) f pos (nI i))) := by
  have key : ∀ o, o ≤ i → ∃ b, b ≤ 99 ∧ f o = nI b ∧ m_key f o = (99 - b) * 16 + o := fun o ho => by
    obtain ⟨b, h1, h2⟩ := hb o ho
    exact ⟨b, h1, h2, by unfold m_key; rw [h2, m_clamp (by omega)]⟩
  refine ⟨fun hk => ?_, fun hk => ⟨fun hr => ?_, fun q hq hr => ⟨fun hle => ?_, fun hle => ?_⟩⟩⟩
  · rcases h with ⟨e, h⟩ | ⟨o, ho, e, h1, h2⟩
    · refine Or.inl ⟨e, fun o ho => ?_⟩
      by_cases c : o = i
      · subst c; exact hk
      · exact h o (by omega)
    · refine Or.inr ⟨o, by omega, e, h1, fun u hu h3 => ?_⟩
      by_cases c : u = i
      · subst c; omega
      · exact h2 u (by omega) h3
  · rcases h with ⟨e, h⟩ | ⟨o, ho, e, h1, h2⟩
    · refine Or.inr ⟨i, by omega, rfl, hk, fun u hu h3 => ?_⟩
      by_cases c : u = i
      · subst c; exact Nat.le_refl _
      · have := h u (by omega); omega
    · rw [e] at hr
      exact absurd hr (m_nN o (by omega))
  · rcases h with ⟨e, h⟩ | ⟨o, ho, e, h1, h2⟩
    · rw [e] at hr
      exact absurd hr.symm (m_nN q (by omega))
    · have eo : o = q := m_nI_inj (by omega) (by omega) (e.symm.trans hr)
      subst eo
      obtain ⟨bi, b1, b2, b3⟩ := key i (Nat.le_refl i)
      obtain ⟨bo, c1, c2, c3⟩ := key o (by omega)
      rw [b2, c2, m_leI (by omega) (by omega)] at hle
      refine Or.inr ⟨o, by omega, e, h1, fun u hu h3 => ?_⟩
      by_cases c : u = i
      · subst c; omega
      · exact h2 u (by omega) h3
  · rcases h with ⟨e, h⟩ | ⟨o, ho, e, h1, h2⟩
    · rw [e] at hr
      exact absurd hr.symm (m_nN q (by omega))
    · have eo : o = q := m_nI_inj (by omega) (by omega) (e.symm.trans hr)
      subst eo
      obtain ⟨bi, b1, b2, b3⟩ := key i (Nat.le_refl i)
      obtain ⟨bo, c1, c2, c3⟩ := key o (by omega)
      rw [b2, c2, m_leI (by omega) (by omega)] at hle
      refine Or.inr ⟨i, by omega, rfl, hk, fun u hu h3 => ?_⟩
      by_cases c : u = i
      · subst c; exact Nat.le_refl _
      · have := h2 u (by omega) h3; omega
/-- the order whose turn is behind that of the last: pos is its key and one, or 0 -/
theorem m_lbL (h : RS E n P T J g s) (x : Int32) (pos : Nat) (hx : (x = -1 ∧ pos = 0) ∨ ∃ l, l < n ∧ x = nI l ∧ pos = m_key (g 5) l + 1) : ∀ (k i fu : Nat) (r : Int32), i + k = n → k < fu → m_Nx i (g 5) pos r → ∃ r', lX2_laidBehind_4 N x g fu r (nI i) = some r' ∧ m_Nx n (g 5) pos r' := by
  have h16 := h.n16
  intro k
  induction k with
  | zero =>
    intro i fu r hi hfu hr
    obtain ⟨fu, rfl⟩ : ∃ q, fu = q + 1 := ⟨fu - 1, by omega⟩
    have e : i = n := by omega
    subst e
    refine ⟨r, ?_, hr⟩
    rw [lX2_laidBehind_4.eq_2]
    by_cases c : (16 : Int32) ≤ nI i
    · rw [if_pos c]
    · rw [if_neg c, m_hasN h.gn (Or.inr (nI_le (by omega) (by omega))), m_bind, if_pos m_00]
  | succ k ih =>
    intro i fu r hi hfu hr
    obtain ⟨fu, rfl⟩ : ∃ q, fu = q + 1 := ⟨fu - 1, by omega⟩
    have hin : i < n := by omega
    have st := m_nx1 (f := g 5) (pos := pos) (i := i) (by omega) (fun o ho => by obtain ⟨b, h1, h2, -⟩ := h.key (o := o) (by omega); exact ⟨b, h1, h2⟩) hr
    have hrc : r = -1 ∨ ∃ q, q < i ∧ r = nI q := by
      rcases hr with ⟨e, -⟩ | ⟨o, ho, e, -, -⟩
      · exact Or.inl e
      · exact Or.inr ⟨o, ho, e⟩
    -- the choice of the better one
    have best : pos ≤ m_key (g 5) i → ∃ r1, m_Nx (i + 1) (g 5) pos r1 ∧ (if r = (-1 : Int32) then lX2_laidBehind_4 N x g fu (nI i) (nI i + 1) else z_ck (z_in (nI i) 16) (z_ck (z_in r 16) (if g 5 (nI i).toNatClampNeg ≤ g 5 r.toNatClampNeg then lX2_laidBehind_4 N x g fu r (nI i + 1) else lX2_laidBehind_4 N x g fu (nI i) (nI i + 1)))) = lX2_laidBehind_4 N x g fu r1 (nI (i + 1)) := by
      intro hk
      rcases hrc with e | ⟨q, hq, e⟩
      · exact ⟨nI i, (st.2 hk).1 e, by rw [if_pos e, nI_1]⟩
      · have hqn : ¬ r = (-1 : Int32) := by rw [e]; exact m_nN q (by omega)
        have sq := (st.2 hk).2 q hq e
        rw [if_neg hqn, m_in (by omega) (by decide), m_ckt, e, m_in (by omega) (by decide), m_ckt, m_clamp (by omega), m_clamp (by omega), nI_1]
        by_cases c : g 5 i ≤ g 5 q
        · exact ⟨nI q, by rw [← e]; exact sq.1 c, by rw [if_pos c]⟩
        · exact ⟨nI i, sq.2 c, by rw [if_neg c]⟩
    rw [lX2_laidBehind_4.eq_2, if_neg (m_ge16 (by omega)), m_hasY h.gn h16 hin, m_bind, if_neg m_1_0]
    rcases hx with ⟨ex, ep⟩ | ⟨l, hl, ex, ep⟩
    · rw [show fX2_has N x g = some 0 by rw [ex]; exact m_hasN h.gn (Or.inl (by decide)), m_bind, if_pos m_00]
      obtain ⟨r1, q1, q2⟩ := best (by omega)
      rw [q2]
      exact ih (i + 1) fu r1 (by omega) (by omega) q1
    · obtain ⟨bi, b1, b2, b3⟩ := h.key hin
      obtain ⟨bl, c1, c2, c3⟩ := h.key hl
      rw [show fX2_has N x g = some 1 by rw [ex]; exact m_hasY h.gn h16 hl, m_bind, if_neg m_1_0, show z_in x 16 = true by rw [ex]; exact m_in (by omega) (by decide)]
      rw [show g 5 x.toNatClampNeg = nI bl by rw [ex, m_clamp (by omega)]; exact c2]
      rw [show g 5 (nI i).toNatClampNeg = nI bi by rw [m_clamp (by omega)]; exact b2] at best ⊢
      rw [show z_in (nI i) 16 = true from m_in (by omega) (by decide)] at best ⊢
      simp only [m_ckt] at best ⊢
      by_cases k1 : nI bi < nI bl
      · rw [if_pos k1]
        rw [m_ltI (by omega) (by omega)] at k1
        obtain ⟨r1, q1, q2⟩ := best (by omega)
        rw [q2]
        exact ih (i + 1) fu r1 (by omega) (by omega) q1
      · rw [if_neg k1]
        rw [m_ltI (by omega) (by omega)] at k1
        by_cases k2 : nI bi = nI bl
        · rw [if_pos k2]
          have k3 := m_nI_inj (by omega) (by omega) k2
          by_cases k4 : nI i ≤ x
          · rw [if_pos k4]
            rw [ex, m_leI (by omega) (by omega)] at k4
            rw [nI_1]
            exact ih (i + 1) fu r (by omega) (by omega) (st.1 (by omega))
          · rw [if_neg k4]
            rw [ex, m_leI (by omega) (by omega)] at k4
            obtain ⟨r1, q1, q2⟩ := best (by omega)
            rw [q2]
            exact ih (i + 1) fu r1 (by omega) (by omega) q1
        · rw [if_neg k2, nI_1]
          have k3 : bi ≠ bl := fun e => k2 (by rw [e])
          exact ih (i + 1) fu r (by omega) (by omega) (st.1 (by omega))
theorem m_laidBehind (h : RS E n P T J g s) (hN : 17 ≤ N) (x : Int32) (pos : Nat) (hx : (x = -1 ∧ pos = 0) ∨ ∃ l, l < n ∧ x = nI l ∧ pos = m_key (g 5) l + 1) : ∃ r', fX2_laidBehind N x g = some r' ∧ m_Nx n (g 5) pos r' := by
  have h16 := h.n16
  exact m_lbL h x pos hx n 0 N (-1) (by omega) (by omega) (Or.inl ⟨rfl, fun o ho => by omega⟩)
theorem m_on2 (h : RS E n P T J g s) (hE6 : E 6) (hN : 17 ≤ N) {p : Int32} (hp : p ≠ -1) : ∃ r, fX2_orderOn N p g = some r ∧ fX5_standing N p (z_uR m 1 s) = some r ∧ m_On n (g 6) p r := by
  have h16 := h.n16
  obtain ⟨r, a1, a2⟩ := m_orderOn (N := N) h.gn h16 hN p
  obtain ⟨q, b1, b2⟩ := m_standing (N := N) (m := z_uR m 1 s) (n := n) (by rw [m_same]; exact h.sn) h16 hN p
  have b3 : m_On n (g 6) p q := by
    rw [m_same] at b2
    rcases b2 with ⟨e, c⟩ | ⟨o, ho, c, e⟩
    · exact Or.inl ⟨e, fun o ho => by rw [← h.or ho (by decide) (by decide) hE6]; exact c o ho⟩
    · exact Or.inr ⟨o, ho, by rw [← h.or ho (by decide) (by decide) hE6]; exact c, e⟩
  have e := m_On_u (fun i j hi hj hij e => h.ap hi hj hij e) hp a2 b3
  exact ⟨r, a1, by rw [e]; exact b1, a2⟩
/-- the search of a free place, from f on -/
theorem m_lay8 (h : RS E n P T J g s) (hE6 : E 6) (hN : 17 ≤ N) {o w a : Nat} (ho : o < n) (hw : w < P) (ha : g 1 o = nI a) (ha4 : a < 4) (x1 x2 x3 : Int32) (kk : Int32 → Option (Int32 × z_R)) : ∀ (k f fu fv : Nat), f + k = P → k < fu → k < fv → ∃ f', f' ≤ P ∧ lX5_laid_45 N x1 x2 x3 (nI w) (z_uR m 1 s) kk fv (nI f) = kk (nI f') ∧ ((f' = P ∧ lX2_layOne_8 N (nI o) (nI w) g fu (nI f) = some g) ∨ (f' < P ∧ (∀ q, q < n → g 6 q ≠ nI ((w + f') % P)) ∧ lX2_layOne_8 N (nI o) (nI w) g fu (nI f) = some (z_u2 (z_u2 (z_u2 (z_u2 g 6 o (nI ((w + f') % P))) 7 o (nI f')) 8 o (g 5 o)) 10 a (g 10 a + g 5 o)))) := by
  have h16 := h.n16
  have hP6 := h.P6
  have hP4 := h.P40
  intro k
  induction k with
  | zero =>
    intro f fu fv hf hfu hfv
    obtain ⟨fu, rfl⟩ : ∃ q, fu = q + 1 := ⟨fu - 1, by omega⟩
    obtain ⟨fv, rfl⟩ : ∃ q, fv = q + 1 := ⟨fv - 1, by omega⟩
    have e : f = P := by omega
    subst e
    refine ⟨f, Nat.le_refl f, ?_, Or.inl ⟨rfl, ?_⟩⟩
    · rw [lX5_laid_45.eq_2, m_same, m_t0, h.sP, if_pos (nI_le (Nat.le_refl f) (by omega))]
    · rw [lX2_layOne_8.eq_2, h.gP, if_pos (nI_le (Nat.le_refl f) (by omega))]
  | succ k ih =>
    intro f fu fv hf hfu hfv
    obtain ⟨fu, rfl⟩ : ∃ q, fu = q + 1 := ⟨fu - 1, by omega⟩
    obtain ⟨fv, rfl⟩ : ∃ q, fv = q + 1 := ⟨fv - 1, by omega⟩
    have hlt := Nat.mod_lt (w + f) (show 0 < P by omega)
    obtain ⟨r, a1, a2, a3⟩ := m_on2 (N := N) (m := m) h hE6 hN (p := nI ((w + f) % P)) (m_nN _ (by omega))
    rw [lX5_laid_45.eq_2, m_same, m_t0, h.sP, if_neg (nI_ge (by omega) (by omega)), m_nz (by omega) (by omega), m_ckt, nI_add, pk_rem (by omega) (by omega) (by omega), a2, m_bind]
    rw [lX2_layOne_8.eq_2, h.gP, if_neg (nI_ge (by omega) (by omega)), nI_add, m_aroundP h.gP (by omega) (by omega) (by omega), m_bind, a1, m_bind]
    rcases a3 with ⟨e, hfree⟩ | ⟨q, hq, e1, e2⟩
    · rw [if_pos e, if_pos e]
      refine ⟨f, by omega, rfl, Or.inr ⟨by omega, hfree, ?_⟩⟩
      rw [m_in (show o < 16 by omega) (by decide), m_ckt, m_clamp (by omega), m_lt, m_ckt, m_lt, m_ckt, m_ckt, m_lt, m_ckt]
      rw [m_u2n _ o _ (by decide : (1 : Nat) ≠ 8), m_u2n _ o _ (by decide : (1 : Nat) ≠ 7), m_u2n _ o _ (by decide : (1 : Nat) ≠ 6), ha, m_auY ha4, m_bind, if_neg m_1_0, m_ckt, m_in ha4 (by decide), m_ckt, m_ckt, m_ckt, m_lt, m_clamp (by omega)]
      rw [m_u2n _ o _ (by decide : (5 : Nat) ≠ 7), m_u2n _ o _ (by decide : (5 : Nat) ≠ 6), m_u2n _ o _ (by decide : (10 : Nat) ≠ 8), m_u2n _ o _ (by decide : (10 : Nat) ≠ 7), m_u2n _ o _ (by decide : (10 : Nat) ≠ 6), m_u2n _ o _ (by decide : (5 : Nat) ≠ 8), m_u2n _ o _ (by decide : (5 : Nat) ≠ 7), m_u2n _ o _ (by decide : (5 : Nat) ≠ 6)]
    · have en : ¬ r = -1 := by rw [e2]; exact m_nN q (by omega)
      rw [if_neg en, if_neg en, nI_1]
      exact ih (f + 1) fu fv (by omega) (by omega) (by omega)
end MR5
