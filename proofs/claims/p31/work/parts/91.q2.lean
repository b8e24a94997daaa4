/-! where the law wants an order: what the class wants -/
theorem q_subI {a b : Nat} (ha : a < 2 ^ 30) (hb : b < 2 ^ 30) : (nI a - nI b).toInt = (a : Int) - (b : Int) := by
  rw [Int32.toInt_sub, nI_toInt (by omega), nI_toInt (by omega)]
  exact Int.bmod_eq_of_le (by omega) (by omega)
theorem q_subL {a b : Nat} (ha : a < 2 ^ 30) (hb : b < 2 ^ 30) (h : a < b) : nI a - nI b < 0 := by
  rw [m_lt0, q_subI ha hb]
  omega
theorem q_subA {a b c : Nat} (ha : a + c < 2 ^ 30) (hb : b < 2 ^ 30) : nI a - nI b + nI c = nI (a + c) - nI b := by
  apply Int32.toInt_inj.mp
  rw [Int32.toInt_add, q_subI (by omega) hb, q_subI ha hb, nI_toInt (by omega)]
  rw [Int.bmod_eq_of_le (by omega) (by omega)]
  omega
theorem q_sub2 {a b : Nat} (ha : a < 2 ^ 29) (hb : b < 2 ^ 29) : nI a - 1 - nI b = nI a - nI (1 + b) := by
  apply Int32.toInt_inj.mp
  rw [show (1 : Int32) = nI 1 from rfl, Int32.toInt_sub, q_subI (by omega) (by omega), q_subI (by omega) (by omega), nI_toInt (by omega)]
  rw [Int.bmod_eq_of_le (by omega) (by omega)]
  omega
theorem q_md {a b t P : Nat} (h0 : 0 < P) (h : b ≤ a + t * P) : (a + t * P - b) % P = (a + P - b % P) % P := by
  have e := Nat.div_add_mod b P
  have hc := Nat.mod_lt b h0
  obtain ⟨d, hd⟩ : ∃ d, d = b / P := ⟨_, rfl⟩
  obtain ⟨c, hc2⟩ : ∃ c, c = b % P := ⟨_, rfl⟩
  rw [← hd, ← hc2, Nat.mul_comm] at e
  rw [← hc2] at hc ⊢
  by_cases ht : d + 1 ≤ t
  · obtain ⟨k, rfl⟩ : ∃ k, t = d + 1 + k := ⟨t - (d + 1), by omega⟩
    have q : (d + 1 + k) * P = d * P + P + k * P := by rw [Nat.add_mul, Nat.add_mul, Nat.one_mul]
    rw [show a + (d + 1 + k) * P - b = a + P - c + k * P by rw [q]; omega, Nat.add_mul_mod_self_right]
  · obtain ⟨k, rfl⟩ : ∃ k, d = t + k := ⟨d - t, by omega⟩
    have q : (t + k) * P = t * P + k * P := Nat.add_mul t k P
    rw [q] at e
    have q2 : (k + 1) * P = k * P + P := by rw [Nat.add_mul, Nat.one_mul]
    rw [show a + P - c = (a + t * P - b) + (k + 1) * P by rw [q2]; omega, Nat.add_mul_mod_self_right]
section Q2
variable {E : Nat → Prop} {N n P T J : Nat} {g v : z_R} {s : Nat → Int32}
theorem q_w133P (hP : v 0 0 = nI P) (h0 : 0 < P) (hP4 : P ≤ 40) {a fu : Nat} (ha : a < 2 ^ 29) : lL_wanted_133 N v (fu + 1) (nI a) = some (nI (a % P)) := by
  rw [lL_wanted_133.eq_2, if_pos (m_le0.mpr (m_neg (by omega))), m_t0, hP, m_nz h0 (by omega), m_ckt, pk_rem (by omega) h0 (by omega)]
theorem q_w133 (hP : v 0 0 = nI P) (h0 : 0 < P) (hP4 : P ≤ 40) {b : Nat} (hb : b < 2 ^ 20) : ∀ (j a fu : Nat), b ≤ a + j * P → a + j * P < 2 ^ 20 → j < fu → ∃ t, b ≤ a + t * P ∧ lL_wanted_133 N v fu (nI a - nI b) = some (nI ((a + t * P - b) % P)) := by
  intro j
  induction j with
  | zero =>
    intro a fu h1 h2 hfu
    obtain ⟨fu, rfl⟩ : ∃ q, fu = q + 1 := ⟨fu - 1, by omega⟩
    refine ⟨0, h1, ?_⟩
    rw [Nat.zero_mul] at h1 h2 ⊢
    rw [Nat.add_zero] at h1 h2
    rw [pk_sub h1, q_w133P hP h0 hP4 (by omega)]
    rfl
  | succ j ih =>
    intro a fu h1 h2 hfu
    obtain ⟨fu, rfl⟩ : ∃ q, fu = q + 1 := ⟨fu - 1, by omega⟩
    by_cases c : b ≤ a
    · refine ⟨0, by omega, ?_⟩
      rw [Nat.zero_mul, pk_sub c, q_w133P hP h0 hP4 (by omega)]
      rfl
    · have e : (j + 1) * P = j * P + P := by rw [Nat.add_mul, Nat.one_mul]
      rw [e] at h1 h2
      rw [lL_wanted_133.eq_2, if_neg (fun q => (m_le0.mp q) (q_subL (by omega) (by omega) (by omega))), m_t0, hP, q_subA (by omega) (by omega)]
      obtain ⟨t, t1, t2⟩ := ih (a + P) fu (by omega) (by omega) (by omega)
      refine ⟨t + 1, ?_, ?_⟩
      · rw [Nat.add_mul, Nat.one_mul]; omega
      · rw [t2, show a + (t + 1) * P - b = a + P + t * P - b by rw [Nat.add_mul, Nat.one_mul]; omega]
theorem q_w61f (x : Int32) : ∀ (k i fu : Nat) (y : Int32), i + k = 6 → k < fu → lL_wanted_61 N x v fu y 1 (nI i) = lL_wanted_133 N v N y := by
  intro k
  induction k with
  | zero =>
    intro i fu y hi hfu
    obtain ⟨fu, rfl⟩ : ∃ q, fu = q + 1 := ⟨fu - 1, by omega⟩
    have e : i = 6 := by omega
    subst e
    rw [lL_wanted_61.eq_2, if_pos (show (6 : Int32) ≤ nI 6 by decide)]
  | succ k ih =>
    intro i fu y hi hfu
    obtain ⟨fu, rfl⟩ : ∃ q, fu = q + 1 := ⟨fu - 1, by omega⟩
    rw [lL_wanted_61.eq_2, if_neg (q_ge6 (by omega)), if_neg m_1_0, nI_1]
    exact ih (i + 1) fu y (by omega) (by omega)
theorem q_w61 (h : RS E 6 P T J g s) (q : QO g v) (x : Int32) : ∀ (k i fu : Nat) (y : Int32), i + k = 6 → k < fu → ((∀ u, i ≤ u → u < 6 → ¬ (g 6 u ≠ -1 ∧ g 3 u = x)) ∧ lL_wanted_61 N x v fu y 0 (nI i) = lL_wanted_133 N v N y) ∨ ∃ u, i ≤ u ∧ u < 6 ∧ g 6 u ≠ -1 ∧ g 3 u = x ∧ (∀ w, i ≤ w → w < u → ¬ (g 6 w ≠ -1 ∧ g 3 w = x)) ∧ lL_wanted_61 N x v fu y 0 (nI i) = lL_wanted_133 N v N ((g 6 u + 1) + g 2 u) := by
  have hP4 := h.P40
  intro k
  induction k with
  | zero =>
    intro i fu y hi hfu
    obtain ⟨fu, rfl⟩ : ∃ q, fu = q + 1 := ⟨fu - 1, by omega⟩
    have e : i = 6 := by omega
    subst e
    exact Or.inl ⟨fun u h1 h2 => by omega, by rw [lL_wanted_61.eq_2, if_pos (show (6 : Int32) ≤ nI 6 by decide)]⟩
  | succ k ih =>
    intro i fu y hi hfu
    obtain ⟨fu, rfl⟩ : ∃ q, fu = q + 1 := ⟨fu - 1, by omega⟩
    have hi6 : i < 6 := by omega
    have step : lL_wanted_61 N x v (fu + 1) y 0 (nI i) = (if g 6 i < 0 then lL_wanted_61 N x v fu y 0 (nI (i + 1)) else if g 3 i = x then lL_wanted_61 N x v fu ((g 6 i + 1) + g 2 i) 1 (nI (i + 1)) else lL_wanted_61 N x v fu y 0 (nI (i + 1))) := by
      rw [lL_wanted_61.eq_2, if_neg (q_ge6 hi6), if_pos m_00, q_i5, q_i2, q_i1, m_in (show 9 * i + 5 < 54 by omega) (by decide), m_ckt, m_in (show 9 * i + 2 < 54 by omega) (by decide), m_ckt, m_ckt, m_in (show 9 * i + 1 < 54 by omega) (by decide), m_ckt, m_clamp (show 9 * i + 5 < 2 ^ 31 by omega), m_clamp (show 9 * i + 2 < 2 ^ 31 by omega), m_clamp (show 9 * i + 1 < 2 ^ 31 by omega), q.or 5 hi6 (by decide), q.or 2 hi6 (by decide), q.or 1 hi6 (by decide), nI_1]
    rcases h.pl hi6 with h6 | ⟨p, hp, h6⟩
    · rw [step, if_pos (by rw [h6]; decide)]
      rcases ih (i + 1) fu y (by omega) (by omega) with ⟨a, b⟩ | ⟨u, a1, a2, a3, a4, a5, b⟩
      · refine Or.inl ⟨fun u h1 h2 => ?_, b⟩
        by_cases e : u = i
        · subst e; exact fun h => h.1 h6
        · exact a u (by omega) h2
      · refine Or.inr ⟨u, by omega, a2, a3, a4, fun w h1 h2 => ?_, b⟩
        by_cases e : w = i
        · subst e; exact fun h => h.1 h6
        · exact a5 w (by omega) h2
    · have h6n : g 6 i ≠ -1 := by rw [h6]; exact m_nN p (by omega)
      rw [step, if_neg (by rw [h6]; exact m_neg (by omega))]
      by_cases h3 : g 3 i = x
      · rw [if_pos h3, q_w61f x k (i + 1) fu _ (by omega) (by omega)]
        exact Or.inr ⟨i, Nat.le_refl i, hi6, h6n, h3, fun w h1 h2 => by omega, rfl⟩
      · rw [if_neg h3]
        rcases ih (i + 1) fu y (by omega) (by omega) with ⟨a, b⟩ | ⟨u, a1, a2, a3, a4, a5, b⟩
        · refine Or.inl ⟨fun u h1 h2 => ?_, b⟩
          by_cases e : u = i
          · subst e; exact fun h => h3 h.2
          · exact a u (by omega) h2
        · refine Or.inr ⟨u, by omega, a2, a3, a4, fun w h1 h2 => ?_, b⟩
          by_cases e : w = i
          · subst e; exact fun h => h3 h.2
          · exact a5 w (by omega) h2
/-- where nobody before leads to o -/
theorem q_wN (h : RS E 6 P T J g s) (q : QO g v) (hN : 17 ≤ N) {o : Nat} (ho : o < 6) : ∃ y, fL_wanted N (nI o) v = lL_wanted_61 N (nI o) v N y 0 0 ∧ lL_wanted_133 N v N y = (z_ck (z_in (nI o) 16) <| (fX2_isOnDrum N (g 3 (nI o).toNatClampNeg) g).bind fun r12 => (if r12 = 0 then some ((0 : Int32)) else z_ck (z_in (nI o) 16) <| z_ck (z_in (g 3 (nI o).toNatClampNeg) 16) <| z_ck (z_in (nI o) 16) <| (fX2_around N (((g 6 (g 3 (nI o).toNatClampNeg).toNatClampNeg) - (1 : Int32)) - (g 2 (nI o).toNatClampNeg)) g).bind fun r17 => some (r17))) := by
  have hP6 := h.P6
  have hP4 := h.P40
  have hvP : v 0 0 = nI P := q.eP.trans h.gP
  obtain ⟨fu, hfu⟩ : ∃ fu, N = fu + 1 := ⟨N - 1, by omega⟩
  have z : lL_wanted_133 N v N 0 = some 0 := by
    have e := q_w133P (N := N) (fu := fu) hvP (by omega) hP4 (a := 0) (by omega)
    rw [Nat.zero_mod, ← hfu] at e
    exact e
  rw [m_in (show o < 16 by omega) (by decide), m_ckt, m_ckt, m_ckt, m_clamp (by omega)]
  have st : fL_wanted N (nI o) v = (if g 3 o < 0 then jL_wanted_52 N (nI o) v else if (6 : Int32) ≤ g 3 o then jL_wanted_52 N (nI o) v else z_ck (z_in ((9 : Int32) * g 3 o + (5 : Int32)) 54) (if v 1 ((9 : Int32) * g 3 o + (5 : Int32)).toNatClampNeg < 0 then jL_wanted_52 N (nI o) v else z_ck (z_in ((9 : Int32) * g 3 o + (5 : Int32)) 54) (lL_wanted_61 N (nI o) v N ((v 1 ((9 : Int32) * g 3 o + (5 : Int32)).toNatClampNeg - 1) - g 2 o) 0 0))) := by
    unfold fL_wanted
    rw [q_i2, q_i1, m_in (show 9 * o + 2 < 54 by omega) (by decide), m_ckt, m_in (show 9 * o + 1 < 54 by omega) (by decide), m_ckt, m_clamp (show 9 * o + 2 < 2 ^ 31 by omega), m_clamp (show 9 * o + 1 < 2 ^ 31 by omega), q.or 2 ho (by decide), q.or 1 ho (by decide)]
  have j52 : jL_wanted_52 N (nI o) v = lL_wanted_61 N (nI o) v N 0 0 0 := rfl
  rw [j52] at st
  rcases h.ne ho with e3 | ⟨k, hk, e3⟩
  · refine ⟨0, by rw [st, if_pos (by rw [e3]; decide)], ?_⟩
    rw [z, e3]
    unfold fX2_isOnDrum
    rw [m_hasN h.gn (Or.inl (by decide)), m_bind, if_pos m_00, m_bind, if_pos m_00]
  · rw [e3, if_neg (m_neg (by omega))] at st
    by_cases c6 : 6 ≤ k
    · rw [if_pos (show (6 : Int32) ≤ nI k from nI_le (a := 6) c6 (by omega))] at st
      refine ⟨0, st, ?_⟩
      rw [z, e3]
      unfold fX2_isOnDrum
      rw [m_hasN h.gn (Or.inr (nI_le c6 (by omega))), m_bind, if_pos m_00, m_bind, if_pos m_00]
    · have hk6 : k < 6 := by omega
      rw [if_neg (q_ge6 hk6), q_i5, m_in (show 9 * k + 5 < 54 by omega) (by decide), m_ckt, m_ckt, m_clamp (by omega), q.or 5 hk6 (by decide)] at st
      have hon : fX2_isOnDrum N (nI k) g = (if g 6 k = -1 then some 0 else some 1) := by
        unfold fX2_isOnDrum
        rw [m_hasY h.gn (by decide) hk6, m_bind, if_neg m_1_0, m_in (by omega) (by decide), m_ckt, m_clamp (by omega)]
      rw [e3, hon, m_in (show k < 16 by omega) (by decide), m_ckt, m_clamp (show k < 2 ^ 31 by omega)]
      rcases h.pl hk6 with h6 | ⟨p, hp, h6⟩
      · refine ⟨0, by rw [st, if_pos (by rw [show g (5 + 1) k = g 6 k from rfl, h6]; decide)], ?_⟩
        rw [z, if_pos h6, m_bind, if_pos m_00]
      · have h6n : ¬ g 6 k = -1 := by rw [h6]; exact m_nN p (by omega)
        obtain ⟨wo, w1, w9, we⟩ := h.wo ho
        rw [show g (5 + 1) k = g 6 k from rfl, h6, if_neg (m_neg (by omega)), we, q_sub2 (by omega) (by omega)] at st
        refine ⟨nI p - nI (1 + wo), st, ?_⟩
        obtain ⟨t, t1, t2⟩ := q_w133 (N := N) (v := v) hvP (show 0 < P by omega) hP4 (b := 1 + wo) (by omega) 2 p N (by omega) (by omega) (by omega)
        rw [t2, if_neg h6n, m_bind, if_neg m_1_0, h6, we, q_sub2 (by omega) (by omega), m_aroundD h.gP (by omega) (by omega) (by omega) (by omega), m_bind, q_md (by omega) t1]
theorem q_wanted (h : RS E 6 P T J g s) (q : QO g v) (hN : 17 ≤ N) {o : Nat} (ho : o < 6) : fL_wanted N (nI o) v = fX2_wantedPlace N (nI o) g := by
  have hP6 := h.P6
  have hP4 := h.P40
  have hvP : v 0 0 = nI P := q.eP.trans h.gP
  obtain ⟨y, y1, y2⟩ := q_wN (N := N) h q hN ho
  unfold fX2_wantedPlace
  rw [y1]
  obtain ⟨KK, hKK⟩ : ∃ KK : Unit → Option Int32, KK = (fun _ : Unit => z_ck (z_in (nI o) 16) <| (fX2_isOnDrum N (g 3 (nI o).toNatClampNeg) g).bind fun r12 => (if r12 = 0 then some ((0 : Int32)) else z_ck (z_in (nI o) 16) <| z_ck (z_in (g 3 (nI o).toNatClampNeg) 16) <| z_ck (z_in (nI o) 16) <| (fX2_around N (((g 6 (g 3 (nI o).toNatClampNeg).toNatClampNeg) - (1 : Int32)) - (g 2 (nI o).toNatClampNeg)) g).bind fun r17 => some (r17))) := ⟨_, rfl⟩
  have y3 : lL_wanted_133 N v N y = KK () := by rw [hKK]; exact y2
  rw [← hKK]
  have a := q_w61 (N := N) h q (nI o) 6 0 N y (by omega) (by omega)
  have b := m_wC (N := N) h.gn (by decide) (nI o) KK 6 0 N (by omega) (by omega)
  rw [show (0 : Int32) = nI 0 from rfl]
  rcases a with ⟨a1, a2⟩ | ⟨u, a1, a2, a3, a4, a5, a6⟩ <;> rcases b with ⟨b1, b2⟩ | ⟨w, b1, b2, b3, b4, b5, b6⟩
  · rw [show lL_wanted_61 N (nI o) v N y (nI 0) (nI 0) = _ from a2, b2, y3]
  · exact absurd ⟨b3, b4⟩ (a1 w b1 b2)
  · exact absurd ⟨a3, a4⟩ (b1 u a1 a2)
  · have e : u = w := by
      rcases Nat.lt_trichotomy u w with c | c | c
      · exact absurd ⟨a3, a4⟩ (b5 u (by omega) c)
      · exact c
      · exact absurd ⟨b3, b4⟩ (a5 w (by omega) c)
    subst e
    obtain ⟨wo, w1, w9, we⟩ := h.wo a2
    obtain ⟨p, hp, h6⟩ := (h.pl a2).resolve_left a3
    obtain ⟨fu, hfu⟩ : ∃ fu, N = fu + 1 := ⟨N - 1, by omega⟩
    rw [show lL_wanted_61 N (nI o) v N y (nI 0) (nI 0) = _ from a6, b6, h6, we, show (1 : Int32) = nI 1 from rfl, nI_add, nI_add, m_aroundP h.gP (by omega) (by omega) (by omega)]
    have e := q_w133P (N := N) (fu := fu) hvP (by omega) hP4 (a := p + 1 + wo) (by omega)
    rw [← hfu] at e
    exact e
end Q2
