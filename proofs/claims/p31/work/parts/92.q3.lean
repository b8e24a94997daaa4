/-! laying: the law's choice is the class's next -/
theorem q_cntA (f : Nat → Nat) (pos : Nat) : ∀ n, (∀ o, o < n → f o < pos) → m_cnt f pos n = n := by
  intro n
  induction n with
  | zero => intro _; rfl
  | succ n ih =>
    intro h
    show m_cnt f pos n + (if f n < pos then 1 else 0) = n + 1
    rw [ih (fun o ho => h o (by omega)), if_pos (h n (by omega))]
theorem q_cntX (f : Nat → Nat) {pos q o : Nat} (hq : f o = q) (hp : pos ≤ q) : ∀ n, (∀ u, u < n → pos ≤ f u → f u ≤ q → u = o) → m_cnt f (q + 1) n = m_cnt f pos n + (if o < n then 1 else 0) := by
  intro n
  induction n with
  | zero => intro _; rw [if_neg (by omega)]; rfl
  | succ n ih =>
    intro h
    show m_cnt f (q + 1) n + (if f n < q + 1 then 1 else 0) = m_cnt f pos n + (if f n < pos then 1 else 0) + (if o < n + 1 then 1 else 0)
    rw [ih (fun u hu => h u (by omega))]
    by_cases c : n = o
    · subst c
      rw [if_neg (show ¬ n < n by omega), if_pos (show f n < q + 1 by omega), if_neg (show ¬ f n < pos by omega), if_pos (show n < n + 1 by omega)]
    · have h1 : f n < q + 1 ↔ f n < pos := ⟨fun h2 => Nat.lt_of_not_le fun h3 => c (h n (by omega) h3 (by omega)), fun h2 => by omega⟩
      by_cases c2 : f n < pos
      · rw [if_pos c2, if_pos (h1.mpr c2)]
        by_cases c3 : o < n
        · rw [if_pos c3, if_pos (by omega)]
        · rw [if_neg c3, if_neg (by omega)]
      · rw [if_neg c2, if_neg (fun h2 => c2 (h1.mp h2))]
        by_cases c3 : o < n
        · rw [if_pos c3, if_pos (by omega)]
        · rw [if_neg c3, if_neg (by omega)]
theorem q_cnt0 (f : Nat → Nat) : ∀ n, m_cnt f 0 n = 0 := by
  intro n
  induction n with
  | zero => rfl
  | succ n ih =>
    show m_cnt f 0 n + (if f n < 0 then 1 else 0) = 0
    rw [ih, if_neg (by omega)]
section Q3
variable {E : Nat → Prop} {N n P T J : Nat} {g v : z_R} {s d : Nat → Int32}
theorem q_keyI (h : RS E 6 P T J g s) {o u : Nat} (ho : o < 6) (hu : u < 6) (e : m_key (g 5) o = m_key (g 5) u) : o = u := by
  obtain ⟨a, -, -, a3⟩ := h.key ho
  obtain ⟨b, -, -, b3⟩ := h.key hu
  omega
theorem q_NxU (h : RS E 6 P T J g s) {pos : Nat} {r q : Int32} (h1 : m_Nx 6 (g 5) pos r) (h2 : m_Nx 6 (g 5) pos q) : r = q := by
  rcases h1 with ⟨e1, a1⟩ | ⟨o, o1, o2, o3, o4⟩ <;> rcases h2 with ⟨e2, a2⟩ | ⟨u, u1, u2, u3, u4⟩
  · rw [e1, e2]
  · have := a1 u u1; omega
  · have := a2 o o1; omega
  · have b1 := o4 u u1 u3
    have b2 := u4 o o1 o3
    rw [o2, u2, q_keyI h o1 u1 (by omega)]
/-- the law's choice -/
theorem q_sel (h : RS E 6 P T J g s) (q : QO g v) {pos : Nat} (hd : ∀ o, o < 6 → d o = if m_key (g 5) o < pos then 1 else 0) (x2 x4 : Int32) (kk : Int32 → Option (Int32 × z_R)) : ∀ (k i fu : Nat) (r : Int32), i + k = 6 → k < fu → m_Nx i (g 5) pos r → ∃ r', m_Nx 6 (g 5) pos r' ∧ lL_lay_67 N x2 x4 (v, d) kk fu r (nI i) = kk r' := by
  intro k
  induction k with
  | zero =>
    intro i fu r hi hfu hr
    obtain ⟨fu, rfl⟩ : ∃ q, fu = q + 1 := ⟨fu - 1, by omega⟩
    have e : i = 6 := by omega
    subst e
    exact ⟨r, hr, by rw [lL_lay_67.eq_2, if_pos (show (6 : Int32) ≤ nI 6 by decide)]⟩
  | succ k ih =>
    intro i fu r hi hfu hr
    obtain ⟨fu, rfl⟩ : ∃ q, fu = q + 1 := ⟨fu - 1, by omega⟩
    have hi6 : i < 6 := by omega
    have st := m_nx1 (f := g 5) (pos := pos) (i := i) (by omega) (fun o ho => by obtain ⟨b, h1, h2, -⟩ := h.key (o := o) (by omega); exact ⟨b, h1, h2⟩) hr
    have hd6 := hd i hi6
    rw [lL_lay_67.eq_2, if_neg (q_ge6 hi6), m_in (show i < 6 from hi6) (by decide), m_ckt, m_clamp (show i < 2 ^ 31 by omega), nI_1]
    have e2 : ((v, d) : z_V).2 i = d i := rfl
    rw [e2, hd6]
    by_cases c : m_key (g 5) i < pos
    · rw [if_pos c, if_neg m_1_0]
      exact ih (i + 1) fu r (by omega) (by omega) (st.1 c)
    · rw [if_neg c, if_pos m_00]
      have st2 := st.2 (by omega)
      have hrc : r = -1 ∨ ∃ q, q < i ∧ r = nI q := by
        rcases hr with ⟨e, -⟩ | ⟨o, ho, e, -, -⟩
        · exact Or.inl e
        · exact Or.inr ⟨o, ho, e⟩
      rcases hrc with e | ⟨u, hu, e⟩
      · rw [if_pos (by rw [e]; decide)]
        exact ih (i + 1) fu (nI i) (by omega) (by omega) (st2.1 e)
      · have su := st2.2 u hu e
        rw [e, if_neg (m_neg (by omega)), q_i4, q_i4, m_in (show 9 * i + 4 < 54 by omega) (by decide), m_ckt, m_in (show 9 * u + 4 < 54 by omega) (by decide), m_ckt, m_clamp (show 9 * i + 4 < 2 ^ 31 by omega), m_clamp (show 9 * u + 4 < 2 ^ 31 by omega)]
        have e3 : ((v, d) : z_V).1 1 (9 * i + 4) = g 5 i := q.or 4 hi6 (by decide)
        have e4 : ((v, d) : z_V).1 1 (9 * u + 4) = g 5 u := q.or 4 (show u < 6 by omega) (by decide)
        rw [e3, e4]
        by_cases c2 : g 5 i ≤ g 5 u
        · rw [if_pos c2, ← e]
          exact ih (i + 1) fu r (by omega) (by omega) (su.1 c2)
        · rw [if_neg c2]
          exact ih (i + 1) fu (nI i) (by omega) (by omega) (su.2 c2)
/-- the search of a free place -/
theorem q_dl (h : RS E 6 P T J g s) (q : QO g v) (hN : 17 ≤ N) {o w a : Nat} (ho : o < 6) (hw : w < P) (ha : g 1 o = nI a) (ha4 : a < 4) (x2 x4 x5 : Int32) (kk : Int32 → Option (Int32 × z_R)) : ∀ (k f fu fv : Nat), f + k = P → k < fu → k < fv → ∃ f', f' ≤ P ∧ lL_lay_134 N x2 x4 x5 (nI w) (v, d) kk fu (nI f) = kk (nI f') ∧ ((f' = P ∧ lX2_layOne_8 N (nI o) (nI w) g fv (nI f) = some g) ∨ (f' < P ∧ (∀ q, q < 6 → g 6 q ≠ nI ((w + f') % P)) ∧ lX2_layOne_8 N (nI o) (nI w) g fv (nI f) = some (z_u2 (z_u2 (z_u2 (z_u2 g 6 o (nI ((w + f') % P))) 7 o (nI f')) 8 o (g 5 o)) 10 a (g 10 a + g 5 o)))) := by
  have hP6 := h.P6
  have hP4 := h.P40
  have hvP : ((v, d) : z_V).1 0 ((0 : Int32)).toNatClampNeg = nI P := by rw [m_t0]; exact q.eP.trans h.gP
  intro k
  induction k with
  | zero =>
    intro f fu fv hf hfu hfv
    obtain ⟨fu, rfl⟩ : ∃ q, fu = q + 1 := ⟨fu - 1, by omega⟩
    obtain ⟨fv, rfl⟩ : ∃ q, fv = q + 1 := ⟨fv - 1, by omega⟩
    have e : f = P := by omega
    subst e
    refine ⟨f, Nat.le_refl f, ?_, Or.inl ⟨rfl, ?_⟩⟩
    · rw [lL_lay_134.eq_2, hvP, if_pos (nI_le (Nat.le_refl f) (by omega))]
    · rw [lX2_layOne_8.eq_2, h.gP, if_pos (nI_le (Nat.le_refl f) (by omega))]
  | succ k ih =>
    intro f fu fv hf hfu hfv
    obtain ⟨fu, rfl⟩ : ∃ q, fu = q + 1 := ⟨fu - 1, by omega⟩
    obtain ⟨fv, rfl⟩ : ∃ q, fv = q + 1 := ⟨fv - 1, by omega⟩
    have hlt := Nat.mod_lt (w + f) (show 0 < P by omega)
    obtain ⟨r, a1, a3⟩ := m_orderOn (N := N) (g := g) (n := 6) h.gn (by decide) hN (nI ((w + f) % P))
    have a2 : fL_at N (nI ((w + f) % P)) ((v, d) : z_V).1 = some r := by rw [← a1]; exact q_at q h.gn hN _
    rw [lL_lay_134.eq_2, hvP, if_neg (nI_ge (by omega) (by omega)), m_nz (by omega) (by omega), m_ckt, nI_add, pk_rem (by omega) (by omega) (by omega), a2, m_bind]
    rw [lX2_layOne_8.eq_2, h.gP, if_neg (nI_ge (by omega) (by omega)), nI_add, m_aroundP h.gP (by omega) (by omega) (by omega), m_bind, a1, m_bind]
    rcases a3 with ⟨e, hfree⟩ | ⟨q1, hq, e1, e2⟩
    · rw [if_pos (show r < 0 by rw [e]; decide), if_pos e]
      refine ⟨f, by omega, rfl, Or.inr ⟨by omega, hfree, ?_⟩⟩
      rw [m_in (show o < 16 by omega) (by decide), m_ckt, m_clamp (by omega), m_lt, m_ckt, m_lt, m_ckt, m_ckt, m_lt, m_ckt]
      rw [m_u2n _ o _ (by decide : (1 : Nat) ≠ 8), m_u2n _ o _ (by decide : (1 : Nat) ≠ 7), m_u2n _ o _ (by decide : (1 : Nat) ≠ 6), ha, m_auY ha4, m_bind, if_neg m_1_0, m_ckt, m_in ha4 (by decide), m_ckt, m_ckt, m_ckt, m_lt, m_clamp (by omega)]
      rw [m_u2n _ o _ (by decide : (5 : Nat) ≠ 7), m_u2n _ o _ (by decide : (5 : Nat) ≠ 6), m_u2n _ o _ (by decide : (10 : Nat) ≠ 8), m_u2n _ o _ (by decide : (10 : Nat) ≠ 7), m_u2n _ o _ (by decide : (10 : Nat) ≠ 6), m_u2n _ o _ (by decide : (5 : Nat) ≠ 8), m_u2n _ o _ (by decide : (5 : Nat) ≠ 7), m_u2n _ o _ (by decide : (5 : Nat) ≠ 6)]
    · have en : ¬ r = -1 := by rw [e2]; exact m_nN q1 (by omega)
      rw [if_neg (show ¬ r < 0 by rw [e2]; exact m_neg (by omega)), if_neg en, nI_1]
      exact ih (f + 1) fu fv (by omega) (by omega) (by omega)
/-- all orders are taken off -/
theorem q_takeL (x2 : Int32) : ∀ (k i fu fv : Nat) (g g' v : z_R), i + k = 6 → k < fu → k < fv → g 0 1 = nI 6 → (∀ o, o < 6 → ∃ a, a < 4 ∧ g 1 o = nI a) → QO g v → lX2_takeAllOff_2 N fv (nI i) g = some g' → ∃ v', lL_lay_10 N x2 fu (nI i) (v, d) = lL_lay_54 N N x2 0 (v', d) ∧ QO g' v' ∧ v' 2 = v 2 ∧ v' 0 11 = v 0 11 ∧ v' 0 2 = v 0 2 := by
  intro k
  induction k with
  | zero =>
    intro i fu fv g g' v hi hfu hfv hn hau q hg
    obtain ⟨fu, rfl⟩ : ∃ q, fu = q + 1 := ⟨fu - 1, by omega⟩
    obtain ⟨fv, rfl⟩ : ∃ q, fv = q + 1 := ⟨fv - 1, by omega⟩
    have e : i = 6 := by omega
    subst e
    rw [lX2_takeAllOff_2.eq_2, if_neg (m_ge16 (by omega)), m_hasN hn (Or.inr (nI_le (Nat.le_refl 6) (by omega))), m_bind, if_pos m_00] at hg
    cases hg
    exact ⟨v, by rw [lL_lay_10.eq_2, if_pos (show (6 : Int32) ≤ nI 6 by decide)], q, rfl, rfl, rfl⟩
  | succ k ih =>
    intro i fu fv g g' v hi hfu hfv hn hau q hg
    obtain ⟨fu, rfl⟩ : ∃ q, fu = q + 1 := ⟨fu - 1, by omega⟩
    obtain ⟨fv, rfl⟩ : ∃ q, fv = q + 1 := ⟨fv - 1, by omega⟩
    have hi6 : i < 6 := by omega
    obtain ⟨a, ha4, ha⟩ := hau i hi6
    obtain ⟨v1, w1, w2, w3, w4, w5⟩ := q_refund (N := N) q hi6 ha ha4
    have w6 := (w2.set (o := i) (w := 5) (-1) hi6 (by decide)).set (o := i) (w := 6) (-1) hi6 (by decide)
    rw [lX2_takeAllOff_2.eq_2, if_neg (m_ge16 (by omega)), m_hasY hn (by decide) hi6, m_bind, if_neg m_1_0] at hg
    have hput : fX2_put N (nI i) (-1) g = some (g 8 i, z_u2 (z_u2 (z_u2 (z_u2 g 11 a (g 11 a + g 8 i)) 8 i 0) 6 i (-1)) 7 i (-1)) := by
      unfold fX2_put
      rw [m_refC (by omega) ha ha4, m_b2, m_in (show i < 16 by omega) (by decide), m_ckt, m_clamp (by omega), m_lt, m_ckt, m_lt]
    rw [hput, m_b2, nI_1] at hg
    obtain ⟨v', b1, b2, b3, b4, b5⟩ := ih (i + 1) fu fv _ g' _ (by omega) (by omega) (by omega) (by rw [m_u2n _ _ _ (by decide), m_u2n _ _ _ (by decide), m_u2n _ _ _ (by decide), m_u2n _ _ _ (by decide)]; exact hn) (fun o ho => by
      obtain ⟨b, hb, hb2⟩ := hau o ho
      exact ⟨b, hb, by rw [m_u2n _ _ _ (by decide), m_u2n _ _ _ (by decide), m_u2n _ _ _ (by decide), m_u2n _ _ _ (by decide)]; exact hb2⟩) w6 hg
    refine ⟨v', ?_, b2, ?_, ?_, ?_⟩
    · rw [lL_lay_10.eq_2, if_neg (q_ge6 hi6), show ((v, d) : z_V).1 = v from rfl, w1, m_bind, m_lt, q_i5, q_i6, m_in (show 9 * i + 5 < 54 by omega) (by decide), m_ckt, m_in (show 9 * i + 6 < 54 by omega) (by decide), m_clamp (show 9 * i + 5 < 2 ^ 31 by omega), m_clamp (show 9 * i + 6 < 2 ^ 31 by omega), m_lt, m_ckt, m_lt, nI_1]
      exact b1
    · rw [b3, m_u2n _ _ _ (by decide), m_u2n _ _ _ (by decide), w3]
    · rw [b4, m_u2n _ _ _ (by decide), m_u2n _ _ _ (by decide), w4]
    · rw [b5, m_u2n _ _ _ (by decide), m_u2n _ _ _ (by decide), w5]
/-- the rounds -/
theorem q_layL (hN : 50 ≤ N) (hE : E 1 ∧ E 2 ∧ E 3 ∧ E 5 ∧ E 6) : ∀ (k i fu fv pos : Nat) (sum r sum' : Int32) (g g' v : z_R) (s d : Nat → Int32), i + k = 6 → k < fu → k < fv → RS E 6 P T J g s → QO g v → m_Nx 6 (g 5) pos r → (∀ o, o < 6 → d o = if m_key (g 5) o < pos then 1 else 0) → m_cnt (m_key (g 5)) pos 6 = i → (∀ o, o < 6 → pos ≤ m_key (g 5) o → g 7 o = -1) → lX2_layAll_14 N fv sum r (nI i) g = some (sum', g') → ∃ v', lL_lay_54 N fu sum (nI i) (v, d) = some (sum', v') ∧ QO g' v' ∧ v' 2 = v 2 ∧ v' 0 11 = v 0 11 ∧ v' 0 2 = v 0 2 := by
  intro k
  induction k with
  | zero =>
    intro i fu fv pos sum r sum' g g' v s d hi hfu hfv h q hr hd hc h7 hg
    obtain ⟨fu, rfl⟩ : ∃ q, fu = q + 1 := ⟨fu - 1, by omega⟩
    obtain ⟨fv, rfl⟩ : ∃ q, fv = q + 1 := ⟨fv - 1, by omega⟩
    have e : i = 6 := by omega
    subst e
    have er : r = -1 := by
      rcases hr with ⟨e, -⟩ | ⟨o, ho, -, h3, -⟩
      · exact e
      · have := m_cnt_lt (m_key (g 5)) pos o h3 6 ho
        omega
    rw [lX2_layAll_14.eq_2, if_neg (m_ge16 (by omega)), er, m_hasN h.gn (Or.inl (by decide)), m_bind, if_pos m_00] at hg
    cases hg
    exact ⟨v, by rw [lL_lay_54.eq_2, if_pos (show (6 : Int32) ≤ nI 6 by decide)], q, rfl, rfl, rfl⟩
  | succ k ih =>
    intro i fu fv pos sum r sum' g g' v s d hi hfu hfv h q hr hd hc h7 hg
    obtain ⟨fu, rfl⟩ : ∃ q, fu = q + 1 := ⟨fu - 1, by omega⟩
    obtain ⟨fv, rfl⟩ : ∃ q, fv = q + 1 := ⟨fv - 1, by omega⟩
    have hP6 := h.P6
    have hP4 := h.P40
    have hi6 : i < 6 := by omega
    obtain ⟨o, ho, er, ok, omin⟩ : ∃ o, o < 6 ∧ r = nI o ∧ pos ≤ m_key (g 5) o ∧ ∀ u, u < 6 → pos ≤ m_key (g 5) u → m_key (g 5) o ≤ m_key (g 5) u := by
      rcases hr with ⟨-, a⟩ | a
      · have := q_cntA (m_key (g 5)) pos 6 a
        omega
      · exact a
    have hr0 := hr
    subst er
    obtain ⟨a, ha4, ha⟩ := h.au ho
    obtain ⟨w, hw, w1, -⟩ := m_wanted (N := N) (m := fun _ _ => 0) h hE.2.1 hE.2.2.1 hE.2.2.2.2 (by omega) ho
    have wl := q_wanted (N := N) h q (by omega) ho
    rw [w1] at wl
    -- the next place in the order of laying
    have hkey : ∀ u, u < 6 → pos ≤ m_key (g 5) u → m_key (g 5) u ≤ m_key (g 5) o → u = o := fun u hu h1 h2 => q_keyI h hu ho (by have := omin u hu h1; omega)
    have hc' : m_cnt (m_key (g 5)) (m_key (g 5) o + 1) 6 = i + 1 := by
      rw [q_cntX (m_key (g 5)) rfl ok 6 hkey, if_pos ho, hc]
    have hd' : ∀ u, u < 6 → upd d o 1 u = if m_key (g 5) u < m_key (g 5) o + 1 then 1 else 0 := fun u hu => by
      by_cases c : u = o
      · subst c; rw [m_us, if_pos (by omega)]
      · rw [m_un _ _ c, hd u hu]
        by_cases c2 : m_key (g 5) u < pos
        · rw [if_pos c2, if_pos (by omega)]
        · rw [if_neg c2, if_neg (fun h2 => c (hkey u hu (by omega) (by omega)))]
    -- the law's choice, and its walk
    obtain ⟨r', s1, s2⟩ := q_sel (N := N) h q hd sum (nI i) (fun x5_67 => z_ck (z_in x5_67 6) <| z_lt ((((v, d) : z_V).1, upd ((v, d) : z_V).2 (x5_67).toNatClampNeg (1 : Int32))) fun Y12 => (fL_wanted N x5_67 (Y12.1)).bind fun r13 => (lL_lay_134 N sum (nI i) x5_67 r13 Y12 (fun x7_134 => (jL_lay_164_54 N (lL_lay_54 N fu) sum (nI i) x5_67 r13 x7_134 Y12)) N (0 : Int32))) 6 0 N (-1) (by omega) (by omega) (Or.inl ⟨rfl, fun u hu => by omega⟩)
    have er' := q_NxU h s1 hr0
    subst er'
    obtain ⟨f, f1, f2, f3⟩ := q_dl (N := N) (d := upd d o 1) h q (by omega) ho hw ha ha4 sum (nI i) (nI o) (fun x7_134 => (jL_lay_164_54 N (lL_lay_54 N fu) sum (nI i) (nI o) (nI w) x7_134 (v, upd d o 1))) P 0 N N (by omega) (by omega) (by omega)
    have lst : lL_lay_54 N (fu + 1) sum (nI i) (v, d) = jL_lay_164_54 N (lL_lay_54 N fu) sum (nI i) (nI o) (nI w) (nI f) (v, upd d o 1) := by
      rw [lL_lay_54.eq_2, if_neg (q_ge6 hi6)]
      refine Eq.trans s2 ?_
      dsimp only
      rw [m_in ho (by decide), m_ckt, m_clamp (show o < 2 ^ 31 by omega), m_lt]
      dsimp only
      rw [wl, m_bind]
      exact f2
    -- the class's step
    rw [lX2_layAll_14.eq_2, if_neg (m_ge16 (by omega)), m_hasY h.gn (by decide) ho, m_bind, if_neg m_1_0] at hg
    have hlay : fX2_layOne N (nI o) g = lX2_layOne_8 N (nI o) (nI w) g N (nI 0) := by
      unfold fX2_layOne
      rw [w1, m_bind]
      rfl
    rw [hlay] at hg
    rw [lst]
    have hvP : ((v, upd d o 1) : z_V).1 0 ((0 : Int32)).toNatClampNeg = nI P := by rw [m_t0]; exact q.eP.trans h.gP
    rcases f3 with ⟨e, f4⟩ | ⟨e, hfree, f4⟩
    · -- no place is free
      subst e
      rw [f4, m_bind, m_in (show o < 16 by omega) (by decide), m_ckt, m_clamp (show o < 2 ^ 31 by omega), if_pos (h7 o ho ok)] at hg
      obtain ⟨r1, l1, l2⟩ := m_laidBehind (N := N) h (by omega) (nI o) (m_key (g 5) o + 1) (Or.inr ⟨o, ho, rfl, rfl⟩)
      rw [l1, m_bind, nI_1] at hg
      obtain ⟨v', b1, b2⟩ := ih (i + 1) fu fv _ sum r1 sum' g g' v s (upd d o 1) (by omega) (by omega) (by omega) h q l2 hd' hc' (fun u hu hk => h7 u hu (by omega)) hg
      refine ⟨v', ?_, b2⟩
      unfold jL_lay_164_54
      rw [hvP, if_pos rfl, nI_1]
      exact b1
    · -- the order stands
      have hp : (w + f) % P < P := Nat.mod_lt _ (by omega)
      obtain ⟨b, hb, hb5⟩ := h.br ho
      rw [hb5] at f4
      have h1 := h.lay (f := f) (b := b) ho ha4 hp hfree
      have q1 := (((q.set (o := o) (w := 5) (nI ((w + f) % P)) ho (by decide)).set (o := o) (w := 6) (nI f) ho (by decide)).set (o := o) (w := 7) (nI b) ho (by decide)).pay ha4 (g 10 a + nI b)
      obtain ⟨G, hG⟩ : ∃ G, G = z_u2 (z_u2 (z_u2 (z_u2 g 6 o (nI ((w + f) % P))) 7 o (nI f)) 8 o (nI b)) 10 a (g 10 a + nI b) := ⟨_, rfl⟩
      have q1 : QO G (z_u2 (z_u2 (z_u2 (z_u2 v 1 (9 * o + 5) (nI ((w + f) % P))) 1 (9 * o + 6) (nI f)) 1 (9 * o + 7) (nI b)) 0 (3 + a) (g 10 a + nI b)) := by rw [hG]; exact q1
      rw [← hG] at f4 h1
      have g5 : G 5 = g 5 := by rw [hG, m_u2n _ _ _ (by decide), m_u2n _ _ _ (by decide), m_u2n _ _ _ (by decide), m_u2n _ _ _ (by decide)]
      have g7 : G 7 = upd (g 7) o (nI f) := by rw [hG, m_u2n _ _ _ (by decide), m_u2n _ _ _ (by decide), m_u2s, m_u2n _ _ _ (by decide)]
      rw [f4, m_bind, m_in (show o < 16 by omega) (by decide), m_ckt, m_clamp (show o < 2 ^ 31 by omega), if_neg (show ¬ G 7 o = -1 by rw [g7, m_us]; exact m_nN f (by omega)), m_ckt] at hg
      obtain ⟨r1, l1, l2⟩ := m_laidBehind (N := N) h1 (by omega) (nI o) (m_key (G 5) o + 1) (Or.inr ⟨o, ho, rfl, rfl⟩)
      rw [l1, m_bind, nI_1, show G 7 o = nI f by rw [g7, m_us]] at hg
      obtain ⟨v', b1, b2, b3, b4, b5⟩ := ih (i + 1) fu fv _ (sum + nI f) r1 sum' G g' _ _ (upd d o 1) (by omega) (by omega) (by omega) h1 q1 l2 (by rw [g5]; exact hd') (by rw [g5]; exact hc') (fun u hu hk => by
        rw [g5] at hk
        have huo : u ≠ o := fun e => by subst e; omega
        rw [g7, m_un _ _ huo]
        exact h7 u hu (by omega)) hg
      refine ⟨v', ?_, b2, ?_, ?_, ?_⟩
      · unfold jL_lay_164_54
        rw [hvP, if_neg (fun e2 => by have := m_nI_inj (by omega) (by omega) e2; omega), m_nz (by omega) (by omega), m_ckt, nI_add, pk_rem (by omega) (by omega) (by omega), q_i5, q_i6, q_i7, q_i4, q_i0, m_in (show 9 * o + 5 < 54 by omega) (by decide), m_ckt, m_in (show 9 * o + 6 < 54 by omega) (by decide), m_in (show 9 * o + 4 < 54 by omega) (by decide), m_in (show 9 * o + 7 < 54 by omega) (by decide), m_in (show 9 * o < 54 by omega) (by decide), m_clamp (show 9 * o + 5 < 2 ^ 31 by omega), m_clamp (show 9 * o + 6 < 2 ^ 31 by omega), m_clamp (show 9 * o + 4 < 2 ^ 31 by omega), m_clamp (show 9 * o + 7 < 2 ^ 31 by omega), m_clamp (show 9 * o < 2 ^ 31 by omega), m_lt, m_ckt, m_lt, m_ckt, m_ckt, m_lt, m_ckt]
        dsimp only
        have x4 : z_u2 (z_u2 v 1 (9 * o + 5) (nI ((w + f) % P))) 1 (9 * o + 6) (nI f) 1 (9 * o + 4) = nI b := by
          rw [m_u2s, m_un _ _ (by omega), m_u2s, m_un _ _ (by omega), q.or 4 ho (by decide)]
          exact hb5
        rw [x4]
        have x4b : z_u2 (z_u2 (z_u2 v 1 (9 * o + 5) (nI ((w + f) % P))) 1 (9 * o + 6) (nI f)) 1 (9 * o + 7) (nI b) 1 (9 * o + 4) = nI b := by
          rw [m_u2s, m_un _ _ (by omega), x4]
        have x1 : z_u2 (z_u2 (z_u2 v 1 (9 * o + 5) (nI ((w + f) % P))) 1 (9 * o + 6) (nI f)) 1 (9 * o + 7) (nI b) 1 (9 * o) = nI a := by
          rw [m_u2s, m_un _ _ (by omega), m_u2s, m_un _ _ (by omega), m_u2s, m_un _ _ (by omega), q.o0 ho, ha]
        have x3 : z_u2 (z_u2 (z_u2 v 1 (9 * o + 5) (nI ((w + f) % P))) 1 (9 * o + 6) (nI f)) 1 (9 * o + 7) (nI b) 0 (3 + a) = g 10 a := by
          rw [m_u2n _ _ _ (by decide), m_u2n _ _ _ (by decide), m_u2n _ _ _ (by decide), q.pd ha4]
        rw [x4b, x1, show (3 : Int32) + nI a = nI (3 + a) from nI_add 3 a, m_in (show 3 + a < 12 by omega) (by decide), m_ckt, m_ckt, m_ckt, m_clamp (show 3 + a < 2 ^ 31 by omega), x3, m_lt, nI_1]
        exact b1
      · rw [b3, m_u2n _ _ _ (by decide), m_u2n _ _ _ (by decide), m_u2n _ _ _ (by decide), m_u2n _ _ _ (by decide)]
      · rw [b4, m_u2s, m_un _ _ (by omega), m_u2n _ _ _ (by decide), m_u2n _ _ _ (by decide), m_u2n _ _ _ (by decide)]
      · rw [b5, m_u2s, m_un _ _ (by omega), m_u2n _ _ _ (by decide), m_u2n _ _ _ (by decide), m_u2n _ _ _ (by decide)]
/-- the law lays as the class -/
theorem q_lay (h : RS E 6 P T J g s) (hE : E 1 ∧ E 2 ∧ E 3 ∧ E 5 ∧ E 6) (hE8 : E 11 → E 8) (hN : 110 ≤ N) (q : QO g v) {sum : Int32} {g' : z_R} (hg : fX2_layAll N g = some (sum, g')) : ∃ v', fL_lay N v = some (sum, v') ∧ QO g' v' ∧ v' 2 = v 2 ∧ v' 0 11 = v 0 11 ∧ v' 0 2 = v 0 2 := by
  obtain ⟨g1, s1, a1, -, a3, a4, a5⟩ := m_takeOff (N := N) (m := fun _ _ => 0) h hE.1 hE8 (by omega)
  obtain ⟨r, b1, b2⟩ := m_laidBehind (N := N) a3 (by omega) (-1) 0 (Or.inl ⟨rfl, rfl⟩)
  unfold fX2_layAll at hg
  rw [a1, m_bind, b1, m_bind] at hg
  have a1' : lX2_takeAllOff_2 N N (nI 0) g = some g1 := a1
  obtain ⟨v1, c1, c2, c3, c4, c5⟩ := q_takeL (N := N) (d := fun _ => 0) 0 6 0 N N g g1 v (by omega) (by omega) (by omega) h.gn (fun o ho => h.au ho) q a1'
  obtain ⟨v', d1, d2, d3, d4, d5⟩ := q_layL (N := N) (by omega) hE 6 0 N N 0 0 r sum g1 g' v1 s1 (fun _ => 0) (by omega) (by omega) (by omega) a3 c2 b2 (fun o ho => by rw [if_neg (by omega)]) (q_cnt0 _ 6) (fun o ho _ => (a4 o ho).2.1) hg
  refine ⟨v', ?_, d2, d3.trans c3, d4.trans c4, d5.trans c5⟩
  unfold fL_lay
  rw [m_lt]
  show lL_lay_10 N 0 N (nI 0) (v, fun _ => 0) = _
  rw [c1]
  exact d1
end Q3
