/-! the law answers 1 -/
theorem q_low {N : Nat} (x : Int32) {n : Nat} (h0 : 0 < n) (hn : n < 2 ^ 31) : ∃ k, k < n ∧ fL_low N x (nI n) = some (nI k) := by
  obtain ⟨j, hj, e⟩ := pk_andE x (m := 2147483647) 31 (by decide)
  refine ⟨j % n, Nat.mod_lt _ h0, ?_⟩
  unfold fL_low
  rw [m_nz h0 hn, m_ckt, e, pk_rem hj h0 hn]
theorem q_cell {N L : Nat} (hL : L ≤ 260) (xs : Nat → Int32) (i : Nat) (hi : i < 2 ^ 20) : ∃ x, fL_cell N L xs (nI i) = some x := by
  unfold fL_cell
  by_cases c : Int32.ofNat L ≤ nI i
  · rw [if_pos c]; exact ⟨_, rfl⟩
  · rw [if_neg c]
    have hiL : i < L := Nat.lt_of_not_le fun h => c (nI_le (a := L) h (by omega))
    rw [m_in hiL (by omega), m_ckt]
    exact ⟨_, rfl⟩
section QA
variable {N L B c : Nat} {xs : Nat → Int32} {X : z_X} {v w : z_R}
/-- behind k added orders -/
def QA (k B : Nat) (X : z_X) (v : z_R) : Prop := (∃ m, RG B X m) ∧ (X.2.2 0) 0 1 = nI k ∧ v 0 0 = (X.2.2 0) 0 0 ∧ v 0 1 = (X.2.2 0) 0 2 ∧ (∀ a, a < 4 → v 0 (3 + a) = (X.2.2 0) 10 a ∧ v 0 (7 + a) = (X.2.2 0) 11 a) ∧ (∀ o u, o < k → u < 9 → v 1 (9 * o + u) = (X.2.2 0) (u + 1) o) ∧ (∀ o, k ≤ o → o < 6 → v 1 (9 * o + 7) = 0) ∧ v 0 2 = (X.2.2 0) 0 3 ∧ (∀ o, o < k → (X.2.2 0) 3 o = -1 ∨ ∃ y, y < 8 ∧ (X.2.2 0) 3 o = nI y) ∧ v 0 11 = 0 ∧ (X.2.2 0) 0 4 = 0 ∧ ∀ j, v 2 j = 0
theorem QA.g (h : QA 6 B X v) : QG B 0 X v := by
  obtain ⟨hm, h1, h2, h3, h4, h5, h6, h7, h8, h9, h10, h11⟩ := h
  exact ⟨hm, h1, ⟨h2, h3, h4, h5⟩, h7, h8, h9.trans h10.symm, 0, by omega, h10, fun i hi => by omega, fun i k _ hk => by omega, fun x y _ _ _ => h11 _⟩
/-- the law's row of an order, put number by number -/
def q_row (v : z_R) (k : Nat) (a w x e b : Int32) : z_R := z_u2 (z_u2 (z_u2 (z_u2 (z_u2 (z_u2 (z_u2 (z_u2 v 1 (9 * k) a) 1 (9 * k + 1) w) 1 (9 * k + 2) x) 1 (9 * k + 3) e) 1 (9 * k + 4) b) 1 (9 * k + 5) (-1)) 1 (9 * k + 6) (-1)) 1 (9 * k + 8) (-1)
theorem q_rowO {k : Nat} {a w x e b : Int32} {r : Nat} (hr : r ≠ 1) : q_row v k a w x e b r = v r := by
  unfold q_row
  rw [m_u2n _ _ _ hr, m_u2n _ _ _ hr, m_u2n _ _ _ hr, m_u2n _ _ _ hr, m_u2n _ _ _ hr, m_u2n _ _ _ hr, m_u2n _ _ _ hr, m_u2n _ _ _ hr]
theorem q_rowV {k : Nat} {a w x e b : Int32} (j : Nat) : q_row v k a w x e b 1 j = if j = 9 * k + 8 then -1 else if j = 9 * k + 6 then -1 else if j = 9 * k + 5 then -1 else if j = 9 * k + 4 then b else if j = 9 * k + 3 then e else if j = 9 * k + 2 then x else if j = 9 * k + 1 then w else if j = 9 * k then a else v 1 j := by
  unfold q_row
  rw [m_u2s, m_u2s, m_u2s, m_u2s, m_u2s, m_u2s, m_u2s, m_u2s]
  rfl
theorem q_add {k : Nat} (h : QA k B X v) (hN : 13000 ≤ N) (hN2 : N < 2 ^ 31) (hk : k < 6) {a w x e b : Int32} (va : ∃ z, z < 4 ∧ a = nI z) (vw : ∃ z, 1 ≤ z ∧ z ≤ 9 ∧ w = nI z) (vx : x = -1 ∨ ∃ z, z < 8 ∧ x = nI z) (ve : e = -1 ∨ ∃ z, z < 8 ∧ e = nI z) (vb : ∃ z, z ≤ 99 ∧ b = nI z) : ∃ X', nX4_addOrder N a w x e b X = some (nI k, X') ∧ QA (k + 1) (B + 5000) X' (q_row v k a w x e b) := by
  obtain ⟨⟨m, hm⟩, h1, h2, h3, h4, h5, h6, h7, h8, h9, h10, h11⟩ := h
  obtain ⟨o, X', r, m', a1, -, a3, -⟩ := c_addOrder (N := N) hm hN hN2 a w x e b
  have a0 := a1
  unfold fX4_addOrder at a1
  have t1 : fX4_isAuthor N a = some 1 := by
    obtain ⟨z, hz, e⟩ := va
    rw [e]; exact m_auY hz
  have t2 : fX4_isWork N w = some 1 := by
    obtain ⟨z, z1, z9, e⟩ := vw
    unfold fX4_isWork
    rw [e, if_neg (show ¬ nI z < (1 : Int32) from nI_nlt (b := 1) z1 (by omega)), if_neg (show ¬ (9 : Int32) < nI z from nI_nlt (b := z) (a := 9) z9 (by decide))]
  have lk : ∀ y : Int32, (y = -1 ∨ ∃ z, z < 8 ∧ y = nI z) → fX4_isLink N y = some 1 := fun y hy => by
    unfold fX4_isLink
    rcases hy with e | ⟨z, hz, e⟩
    · rw [if_pos e]
    · rw [e, if_neg (m_nN z (by omega)), if_neg (m_neg (by omega)), if_neg (m_ge16 (by omega))]
  have t5 : fX4_isBribe N b = some 1 := by
    obtain ⟨z, z9, e⟩ := vb
    unfold fX4_isBribe
    rw [e, if_neg (m_neg (by omega)), if_neg (m_nlt99 z9)]
  rw [t1, m_bind, if_neg m_1_0, t2, m_bind, if_neg m_1_0, lk x vx, m_bind, if_neg m_1_0, lk e ve, m_bind, if_neg m_1_0, t5, m_bind, if_neg m_1_0, h1, if_pos (show nI k < (16 : Int32) from nI_lt (b := 16) (by omega) (by decide))] at a1
  obtain ⟨X1, r1, a1⟩ := z_bE a1
  have k1 := q_rem r1
  rw [k1, m_addC h1 (by omega), m_b2, m_lt] at a1
  obtain ⟨e1, e2⟩ := Prod.mk.inj (Option.some.inj a1)
  obtain ⟨G, hG⟩ : ∃ G, G = z_u2 (m_g9 (X.2.2 0) k a w x e b) 0 1 (nI (k + 1)) := ⟨_, rfl⟩
  have k3 : X'.2.2 0 = G := by rw [← e2, hG]; exact q_x0 _ _
  have g0 : ∀ z, z ≠ 1 → G 0 z = X.2.2 0 0 z := fun z hz => by
    rw [hG, m_u2s, m_un _ _ hz]
    unfold m_g9
    rw [m_u2n _ _ _ (by decide), m_u2n _ _ _ (by decide), m_u2n _ _ _ (by decide), m_u2n _ _ _ (by decide), m_u2n _ _ _ (by decide), m_u2n _ _ _ (by decide), m_u2n _ _ _ (by decide), m_u2n _ _ _ (by decide), m_u2n _ _ _ (by decide)]
  have g10 : ∀ r, 10 ≤ r → G r = X.2.2 0 r := fun r hr => by
    rw [hG, m_u2n _ _ _ (by omega)]
    unfold m_g9
    rw [m_u2n _ _ _ (by omega), m_u2n _ _ _ (by omega), m_u2n _ _ _ (by omega), m_u2n _ _ _ (by omega), m_u2n _ _ _ (by omega), m_u2n _ _ _ (by omega), m_u2n _ _ _ (by omega), m_u2n _ _ _ (by omega), m_u2n _ _ _ (by omega)]
  have g9 : ∀ u, u < 9 → G (u + 1) = upd (X.2.2 0 (u + 1)) k (m_V a w x e b (u + 1)) := fun u hu => by
    rw [hG, m_u2n _ _ _ (by omega)]
    unfold m_g9
    rcases (show u = 0 ∨ u = 1 ∨ u = 2 ∨ u = 3 ∨ u = 4 ∨ u = 5 ∨ u = 6 ∨ u = 7 ∨ u = 8 by omega) with e | e | e | e | e | e | e | e | e <;> subst e <;> rfl
  refine ⟨X', by rw [n_addOrder, a0, ← e1]; rfl, ⟨m', a3⟩, ?_, ?_, ?_, fun z hz => ?_, fun u q hu hq => ?_, fun u hu hu6 => ?_, ?_, fun u hu => ?_, ?_, ?_, fun j => ?_⟩
  · rw [k3, hG, m_u2s, m_us]
  · rw [k3, q_rowO (by decide), g0 0 (by decide)]; exact h2
  · rw [k3, q_rowO (by decide), g0 2 (by decide)]; exact h3
  · rw [k3, q_rowO (by decide), g10 10 (by decide), g10 11 (by decide)]; exact h4 z hz
  · rw [k3, g9 q hq, q_rowV]
    by_cases cu : u = k
    · subst cu
      rw [m_us]
      rcases (show q = 0 ∨ q = 1 ∨ q = 2 ∨ q = 3 ∨ q = 4 ∨ q = 5 ∨ q = 6 ∨ q = 7 ∨ q = 8 by omega) with e | e | e | e | e | e | e | e | e <;> subst e
      · rw [if_neg (by omega), if_neg (by omega), if_neg (by omega), if_neg (by omega), if_neg (by omega), if_neg (by omega), if_neg (by omega), if_pos (by omega)]; rfl
      · rw [if_neg (by omega), if_neg (by omega), if_neg (by omega), if_neg (by omega), if_neg (by omega), if_neg (by omega), if_pos rfl]; rfl
      · rw [if_neg (by omega), if_neg (by omega), if_neg (by omega), if_neg (by omega), if_neg (by omega), if_pos rfl]; rfl
      · rw [if_neg (by omega), if_neg (by omega), if_neg (by omega), if_neg (by omega), if_pos rfl]; rfl
      · rw [if_neg (by omega), if_neg (by omega), if_neg (by omega), if_pos rfl]; rfl
      · rw [if_neg (by omega), if_neg (by omega), if_pos rfl]; rfl
      · rw [if_neg (by omega), if_pos rfl]; rfl
      · rw [if_neg (by omega), if_neg (by omega), if_neg (by omega), if_neg (by omega), if_neg (by omega), if_neg (by omega), if_neg (by omega), if_neg (by omega), h6 u (Nat.le_refl u) hk]; rfl
      · rw [if_pos rfl]; rfl
    · rw [m_un _ _ cu, if_neg (by omega), if_neg (by omega), if_neg (by omega), if_neg (by omega), if_neg (by omega), if_neg (by omega), if_neg (by omega), if_neg (by omega)]
      exact h5 u q (by omega) hq
  · rw [q_rowV, if_neg (by omega), if_neg (by omega), if_neg (by omega), if_neg (by omega), if_neg (by omega), if_neg (by omega), if_neg (by omega), if_neg (by omega)]
    exact h6 u (by omega) hu6
  · rw [k3, q_rowO (by decide), g0 3 (by decide)]; exact h7
  · rw [k3, show G 3 = upd (X.2.2 0 3) k x from g9 2 (by decide)]
    by_cases cu : u = k
    · subst cu; rw [m_us]; exact vx
    · rw [m_un _ _ cu]; exact h8 u (by omega)
  · rw [q_rowO (by decide)]; exact h9
  · rw [k3, g0 4 (by decide)]; exact h10
  · rw [q_rowO (by decide)]; exact h11 j
/-- behind an action: all is the same, and would be -/
theorem q_676 (h : QG B c X v) (hB : B + 5000 < 2 ^ 30) (hc : c < 2 ^ 29) (hN : 13000 ≤ N) (hN2 : N < 2 ^ 31) (bk : Int32 → z_O → Option Int32) {t k : Nat} (x9 : Int32) (hk : k < 6) : ∃ X' w', QG (B + 5000) c X' v ∧ jL_law_676_299 N L xs bk (nI t) x9 (nI k) (X, v, w) = bk (nI (t + 1)) (X', v, w') := by
  obtain ⟨o, ho, eo⟩ : ∃ o, o < 6 ∧ fL_low N (x9 >>> ((16 : Int32) &&& 31)) (6 : Int32) = some (nI o) := q_low _ (n := 6) (by decide) (by decide)
  obtain ⟨X', w', a1, a2⟩ := q_would (N := N) (w := w) h hB hN hN2 hk ho
  refine ⟨X', w', a2, ?_⟩
  unfold jL_law_676_299
  have e := q_same7 (N := N) h (by omega) hc hN hN2
  rw [show fL_same N (((X, v, w) : z_O).1, ((X, v, w) : z_O).2.1) = some 1 from e, m_bind, if_neg m_1_0, eo, m_bind, a1, m_b2, if_neg m_1_0, nI_1]
theorem q_510 {bk : Int32 → z_O → Option Int32} {x8 x9 x11 : Int32} {Y : z_O} : jL_law_510_299 N L xs bk x8 x9 x11 Y = jL_law_676_299 N L xs bk x8 x9 x11 Y := rfl
theorem q_487 (bk : Int32 → z_O → Option Int32) {x8 x9 : Int32} {k : Nat} {x13 : Int32} {v1 : z_R} (hk : k < 6) (hv : fL_refund N (nI k) v = some v1) : jL_law_487_299 N L xs bk x8 x9 (nI k) ((9 : Int32) * nI k) x13 (X, v, w) = jL_law_676_299 N L xs bk x8 x9 (nI k) (X, z_u2 (z_u2 v1 1 (9 * k + 5) x13) 1 (9 * k + 6) (-1), w) := by
  unfold jL_law_487_299
  rw [q_i5, q_i6, show ((X, v, w) : z_O).2.1 = v from rfl, hv, m_bind, m_lt, m_in (show 9 * k + 5 < 54 by omega) (by decide), m_ckt, m_lt, m_in (show 9 * k + 6 < 54 by omega) (by decide), m_ckt, m_lt, m_clamp (show 9 * k + 5 < 2 ^ 31 by omega), m_clamp (show 9 * k + 6 < 2 ^ 31 by omega)]
  rfl
theorem q_bs {a B B' d M : Nat} (h : B + 4 * (a * (d + 1 + 1)) < M) (h' : B' ≤ B + a) : B' + a < M ∧ B' + a + 4 * (a * (d + 1)) < M := by
  have e : a * (d + 1 + 1) = a * (d + 1) + a := Nat.mul_succ _ _
  obtain ⟨y, hy⟩ : ∃ y, y = a * (d + 1) := ⟨_, rfl⟩
  rw [← hy] at e
  rw [e] at h
  rw [← hy]
  omega
theorem q_bs1 {a B d M : Nat} (h : B + a * (d + 1 + 1) < M) : B + a + a * (d + 1) < M := by
  have e : a * (d + 1 + 1) = a * (d + 1) + a := Nat.mul_succ _ _
  obtain ⟨y, hy⟩ : ∃ y, y = a * (d + 1) := ⟨_, rfl⟩
  rw [← hy] at e
  rw [e] at h
  rw [← hy]
  omega
theorem q_turns (hL : L ≤ 260) (hN : 13000 ≤ N) (hN2 : N < 2 ^ 31) : ∀ (d t fu B c : Nat) (X : z_X) (v w : z_R), t + d = 9 → d < fu → B + 4 * (5000 * (d + 1)) < 2 ^ 29 → c + 100 * (d + 1) < 2 ^ 28 → QG B c X v → lL_law_299 N L xs fu (nI t) (X, v, w) = some 1 := by
  intro d
  induction d with
  | zero =>
    intro t fu B c X v w ht hfu hB hc h
    obtain ⟨fu, rfl⟩ : ∃ q, fu = q + 1 := ⟨fu - 1, by omega⟩
    have e : t = 9 := by omega
    subst e
    rw [lL_law_299.eq_2, if_pos (show (9 : Int32) ≤ nI 9 by decide)]
  | succ d ih =>
    intro t fu B c X v w ht hfu hB hc h
    obtain ⟨fu, rfl⟩ : ∃ q, fu = q + 1 := ⟨fu - 1, by omega⟩
    obtain ⟨x, ex⟩ : ∃ x, fL_cell N L xs ((7 : Int32) + nI t) = some x := by
      rw [show (7 : Int32) + nI t = nI (7 + t) from nI_add 7 t]
      exact q_cell hL xs (7 + t) (by omega)
    obtain ⟨kd, hkd, ekd⟩ : ∃ o, o < 8 ∧ fL_low N x (8 : Int32) = some (nI o) := q_low _ (n := 8) (by decide) (by decide)
    obtain ⟨k, hk, ek⟩ : ∃ o, o < 6 ∧ fL_low N (x >>> ((3 : Int32) &&& 31)) (6 : Int32) = some (nI o) := q_low _ (n := 6) (by decide) (by decide)
    -- behind the action: the rest
    have rest : ∀ (B' c' : Nat) (X' : z_X) (v' w' : z_R), QG B' c' X' v' → B' ≤ B + 5000 → c' ≤ c + 100 → jL_law_676_299 N L xs (lL_law_299 N L xs fu) (nI t) x (nI k) (X', v', w') = some 1 := fun B' c' X' v' w' h' hB' hc' => by
      obtain ⟨X2, w2, b1, b2⟩ := q_676 (N := N) (L := L) (xs := xs) (w := w') h' (Nat.lt_trans (q_bs hB hB').1 (by decide)) (by omega) hN hN2 (lL_law_299 N L xs fu) (t := t) x hk
      rw [b2]
      exact ih (t + 1) fu (B' + 5000) c' X2 v' w2 (by omega) (by omega) (q_bs hB hB').2 (by omega) b1
    have lays : jL_law_355_299 N L xs (lL_law_299 N L xs fu) (nI t) x (nI k) (X, v, w) = some 1 := by
      obtain ⟨b, X', v', a1, a2, a3⟩ := q_lay6 (N := N) h hN hN2
      unfold jL_law_355_299
      rw [show ((X, v, w) : z_O).1 = X from rfl, a1, m_b2, m_lt]
      dsimp +instances only
      rw [a2, m_b2, m_lt, if_pos rfl]
      exact rest _ _ X' v' w a3 (Nat.le_refl _) (by omega)
    rw [lL_law_299.eq_2, if_neg (show ¬ (9 : Int32) ≤ nI t from nI_ge (b := 9) (by omega) (by decide)), ex, m_bind, ekd, m_bind, ek, m_bind]
    by_cases c2 : nI kd < (2 : Int32)
    · rw [if_pos c2]; exact lays
    rw [if_neg c2]
    by_cases c0 : nI t = 0
    · rw [if_pos c0]; exact lays
    rw [if_neg c0]
    by_cases c5 : (5 : Int32) ≤ nI kd
    · rw [if_pos c5]
      by_cases e5 : nI kd = (5 : Int32)
      · -- a move
        rw [if_pos e5]
        obtain ⟨m, P, T, J, -, hrs, -⟩ := h.rs
        have hP6 := hrs.P6
        have hP4 := hrs.P40
        have vP : v 0 0 = nI P := h.2.2.1.eP.trans hrs.gP
        obtain ⟨p, hp, ep⟩ : ∃ o, o < P ∧ fL_low N (x >>> ((6 : Int32) &&& 31)) (nI P) = some (nI o) := q_low _ (by omega) (by omega)
        obtain ⟨tt, r, X', b1, b2, b3⟩ := q_move6 (N := N) h hN hN2 hk vP hP4 hp
        have v7 : ((X, v, w) : z_O).2.1 1 (9 * k + 7) = v 1 (9 * k + 7) := rfl
        rw [m_t0, show ((X, v, w) : z_O).2.1 0 0 = nI P from vP, ep, m_bind, show ((X, v, w) : z_O).2.1 = v from rfl, b1, m_bind, q_i7, m_in (show 9 * k + 7 < 54 by omega) (by decide), m_ckt, m_clamp (show 9 * k + 7 < 2 ^ 31 by omega), show ((X, v, w) : z_O).1 = X from rfl, b2, m_b2, m_lt]
        rcases b3 with ⟨d1, d2, v1, d3, d4⟩ | ⟨d1, d2, d3, d4⟩
        · have j487 : jL_law_487_299 N L xs (lL_law_299 N L xs fu) (nI t) x (nI k) ((9 : Int32) * nI k) (nI p) (X', v, w) = some 1 := by
            rw [q_487 (N := N) (L := L) (xs := xs) _ hk d3]
            exact rest _ _ X' _ w d4 (Nat.le_refl _) (by omega)
          by_cases tn : tt < 0
          · rw [if_pos tn, if_pos d2, if_pos tn]; exact j487
          · have tk := d1.resolve_left tn
            rw [if_neg tn, if_pos tk, if_pos d2, if_neg tn, if_pos tk]; exact j487
        · rw [if_neg d1, if_neg d2, if_pos d3, if_neg d1, if_neg d2, q_510]
          exact rest _ _ X' v w d4 (Nat.le_refl _) (by omega)
      · rw [if_neg e5]
        by_cases e6 : nI kd = (6 : Int32)
        · -- ticks
          rw [if_pos e6]
          obtain ⟨j, hj, ej⟩ : ∃ o, o < 99 ∧ fL_low N (x >>> ((6 : Int32) &&& 31)) (99 : Int32) = some (nI o) := q_low _ (n := 99) (by decide) (by decide)
          obtain ⟨b, X', b1, b2, P, h0, hP4, vP, b3⟩ := q_turn6 (N := N) h (Nat.lt_trans (q_bs hB (Nat.le_add_right B 5000)).1 (by decide)) hN hN2 (t := 1 + j) (by omega) (by omega)
          have e1 : (1 : Int32) + nI j = nI (1 + j) := nI_add 1 j
          rw [ej, m_bind, e1, m_t1, m_t0, m_lt]
          dsimp +instances only
          have u1 : z_u2 v 0 1 (v 0 1 + nI (1 + j)) 0 1 = v 0 1 + nI (1 + j) := by rw [m_u2s, m_us]
          have u0 : z_u2 v 0 1 (v 0 1 + nI (1 + j)) 0 0 = nI P := by rw [m_u2s, m_un _ _ (by decide)]; exact vP
          rw [b1, m_b2, m_lt]
          dsimp +instances only
          rw [u1, u0, m_nz h0 (by omega), m_ckt, if_pos b3]
          exact rest _ _ X' _ w b2 (Nat.le_refl _) (by omega)
        · -- a change
          rw [if_neg e6]
          obtain ⟨wt, hwt, ewt⟩ : ∃ o, o < 5 ∧ fL_low N (x >>> ((6 : Int32) &&& 31)) (5 : Int32) = some (nI o) := q_low _ (n := 5) (by decide) (by decide)
          have chg : ∀ y : Int32, q_val wt y → (z_b2 (nX4_change N (nI k) (nI wt) y ((X, v, w) : z_O).1) fun r54 u54 => z_lt ((u54, ((X, v, w) : z_O).2)) fun Y55 => z_ck (z_in (((9 : Int32) * nI k) + nI wt) 54) <| (if r54 = (Y55.2.1 1 ((((9 : Int32) * nI k) + nI wt)).toNatClampNeg) then z_ck (z_in (((9 : Int32) * nI k) + nI wt) 54) <| z_lt ((Y55.1, z_u2 Y55.2.1 1 ((((9 : Int32) * nI k) + nI wt)).toNatClampNeg y, Y55.2.2)) fun Y59 => (jL_law_676_299 N L xs (lL_law_299 N L xs fu) (nI t) x (nI k) Y59) else some (0 : Int32))) = some 1 := fun y hy => by
            obtain ⟨X', b1, b2⟩ := q_change6 (N := N) h hN hN2 hk hwt hy
            rw [q_ix, show ((X, v, w) : z_O).1 = X from rfl, b1, m_b2, m_lt, m_in (show 9 * k + wt < 54 by omega) (by decide), m_ckt, m_ckt, m_clamp (show 9 * k + wt < 2 ^ 31 by omega), m_lt]
            dsimp +instances only
            rw [if_pos rfl]
            exact rest _ _ X' _ w b2 (Nat.le_refl _) (by omega)
          rw [ewt, m_bind]
          by_cases w0 : nI wt = 0
          · rw [if_pos w0]
            obtain ⟨j, hj, ej⟩ : ∃ o, o < 4 ∧ fL_low N (x >>> ((9 : Int32) &&& 31)) (4 : Int32) = some (nI o) := q_low _ (n := 4) (by decide) (by decide)
            rw [ej, m_bind]
            exact chg _ (Or.inl ⟨m_nI_inj (b := 0) (by omega) (by decide) w0, j, hj, rfl⟩)
          rw [if_neg w0]
          by_cases w1 : nI wt = (1 : Int32)
          · rw [if_pos w1]
            obtain ⟨j, hj, ej⟩ : ∃ o, o < 9 ∧ fL_low N (x >>> ((9 : Int32) &&& 31)) (9 : Int32) = some (nI o) := q_low _ (n := 9) (by decide) (by decide)
            rw [ej, m_bind, show (1 : Int32) + nI j = nI (1 + j) from nI_add 1 j]
            exact chg _ (Or.inr (Or.inl ⟨m_nI_inj (b := 1) (by omega) (by decide) w1, 1 + j, by omega, by omega, rfl⟩))
          rw [if_neg w1]
          by_cases w4 : nI wt = (4 : Int32)
          · rw [if_pos w4]
            obtain ⟨j, hj, ej⟩ : ∃ o, o < 100 ∧ fL_low N (x >>> ((9 : Int32) &&& 31)) (100 : Int32) = some (nI o) := q_low _ (n := 100) (by decide) (by decide)
            rw [ej, m_bind]
            exact chg _ (Or.inr (Or.inr (Or.inr ⟨m_nI_inj (b := 4) (by omega) (by decide) w4, j, by omega, rfl⟩)))
          rw [if_neg w4]
          obtain ⟨j, hj, ej⟩ : ∃ o, o < 9 ∧ fL_low N (x >>> ((9 : Int32) &&& 31)) (9 : Int32) = some (nI o) := q_low _ (n := 9) (by decide) (by decide)
          rw [ej, m_bind]
          have hw23 : wt = 2 ∨ wt = 3 := by
            rcases (show wt = 0 ∨ wt = 1 ∨ wt = 2 ∨ wt = 3 ∨ wt = 4 by omega) with e | e | e | e | e <;> subst e
            · exact absurd rfl w0
            · exact absurd rfl w1
            · exact Or.inl rfl
            · exact Or.inr rfl
            · exact absurd rfl w4
          refine chg _ (Or.inr (Or.inr (Or.inl ⟨hw23, ?_⟩)))
          by_cases j0 : j = 0
          · subst j0; exact Or.inl (by decide)
          · exact Or.inr ⟨j - 1, by omega, m_pred (by omega)⟩
    · -- a run
      rw [if_neg c5]
      obtain ⟨b, X', v', b1, b2, b3, b4⟩ := q_run6 (N := N) h (Nat.lt_trans (q_bs hB (Nat.le_add_right B 5000)).1 (by decide)) (by omega) hN hN2 hk
      rw [show ((X, v, w) : z_O).2.1 = v from rfl, b2, m_b2, m_lt, if_neg b3]
      dsimp +instances only
      rw [b1, m_b2, m_lt, if_pos rfl]
      exact rest _ _ X' v' w b4 (Nat.le_refl _) (Nat.le_refl _)

theorem q_adds (hL : L ≤ 260) (hN : 13000 ≤ N) (hN2 : N < 2 ^ 31) : ∀ (d k fu B : Nat) (X : z_X) (v w : z_R), k + d = 6 → d < fu → B + 5000 * (d + 1) < 2 ^ 20 → QA k B X v → lL_law_79 N L xs fu (nI k) (X, v, w) = some 1 := by
  intro d
  induction d with
  | zero =>
    intro k fu B X v w hk hfu hB h
    obtain ⟨fu, rfl⟩ : ∃ q, fu = q + 1 := ⟨fu - 1, by omega⟩
    have e : k = 6 := by omega
    subst e
    rw [lL_law_79.eq_2, if_pos (show (6 : Int32) ≤ nI 6 by decide)]
    exact q_turns (N := N) (L := L) (xs := xs) hL hN hN2 9 0 300 B 0 X v w (by omega) (by omega) (by omega) (by omega) h.g
  | succ d ih =>
    intro k fu B X v w hk hfu hB h
    obtain ⟨fu, rfl⟩ : ∃ q, fu = q + 1 := ⟨fu - 1, by omega⟩
    have hk6 : k < 6 := by omega
    obtain ⟨x, ex⟩ : ∃ x, fL_cell N L xs ((1 : Int32) + nI k) = some x := by
      rw [show (1 : Int32) + nI k = nI (1 + k) from nI_add 1 k]
      exact q_cell hL xs (1 + k) (by omega)
    obtain ⟨a, ha, ea⟩ : ∃ o, o < 4 ∧ fL_low N x (4 : Int32) = some (nI o) := q_low _ (n := 4) (by decide) (by decide)
    obtain ⟨wk, hwk, ewk⟩ : ∃ o, o < 9 ∧ fL_low N (x >>> ((2 : Int32) &&& 31)) (9 : Int32) = some (nI o) := q_low _ (n := 9) (by decide) (by decide)
    obtain ⟨nx, hnx, enx⟩ : ∃ o, o < 9 ∧ fL_low N (x >>> ((6 : Int32) &&& 31)) (9 : Int32) = some (nI o) := q_low _ (n := 9) (by decide) (by decide)
    obtain ⟨u3, hu3, eu3⟩ : ∃ o, o < 3 ∧ fL_low N (x >>> ((10 : Int32) &&& 31)) (3 : Int32) = some (nI o) := q_low _ (n := 3) (by decide) (by decide)
    obtain ⟨es, hes, ees⟩ : ∃ o, o < 7 ∧ fL_low N (x >>> ((12 : Int32) &&& 31)) (7 : Int32) = some (nI o) := q_low _ (n := 7) (by decide) (by decide)
    obtain ⟨br, hbr, ebr⟩ : ∃ o, o < 100 ∧ fL_low N (x >>> ((15 : Int32) &&& 31)) (100 : Int32) = some (nI o) := q_low _ (n := 100) (by decide) (by decide)
    have e1 : (1 : Int32) + nI wk = nI (1 + wk) := nI_add 1 wk
    have vx : nI nx - 1 = -1 ∨ ∃ z, z < 8 ∧ nI nx - 1 = nI z := by
      by_cases j0 : nx = 0
      · subst j0; exact Or.inl (by decide)
      · exact Or.inr ⟨nx - 1, by omega, m_pred (by omega)⟩
    have fin : ∀ e : Int32, (e = -1 ∨ ∃ z, z < 8 ∧ e = nI z) → (z_b2 (nX4_addOrder N (q_row v k (nI a) (nI (1 + wk)) (nI nx - 1) e (nI br) 1 (9 * k)) (q_row v k (nI a) (nI (1 + wk)) (nI nx - 1) e (nI br) 1 (9 * k + 1)) (q_row v k (nI a) (nI (1 + wk)) (nI nx - 1) e (nI br) 1 (9 * k + 2)) (q_row v k (nI a) (nI (1 + wk)) (nI nx - 1) e (nI br) 1 (9 * k + 3)) (q_row v k (nI a) (nI (1 + wk)) (nI nx - 1) e (nI br) 1 (9 * k + 4)) X) fun r123 u123 => z_lt ((u123, q_row v k (nI a) (nI (1 + wk)) (nI nx - 1) e (nI br), w) : z_O) fun Y124 => (if r123 = nI k then (lL_law_79 N L xs fu (nI k + (1 : Int32)) Y124) else some (0 : Int32))) = some 1 := fun e he => by
      obtain ⟨X', b1, b2⟩ := q_add (N := N) h hN hN2 hk6 (a := nI a) (w := nI (1 + wk)) (x := nI nx - 1) (e := e) (b := nI br) ⟨a, ha, rfl⟩ ⟨1 + wk, by omega, by omega, rfl⟩ vx he ⟨br, by omega, rfl⟩
      have r0 : q_row v k (nI a) (nI (1 + wk)) (nI nx - 1) e (nI br) 1 (9 * k) = nI a := by
        rw [q_rowV, if_neg (by omega), if_neg (by omega), if_neg (by omega), if_neg (by omega), if_neg (by omega), if_neg (by omega), if_neg (by omega), if_pos rfl]
      have r1 : q_row v k (nI a) (nI (1 + wk)) (nI nx - 1) e (nI br) 1 (9 * k + 1) = nI (1 + wk) := by
        rw [q_rowV, if_neg (by omega), if_neg (by omega), if_neg (by omega), if_neg (by omega), if_neg (by omega), if_neg (by omega), if_pos rfl]
      have r2 : q_row v k (nI a) (nI (1 + wk)) (nI nx - 1) e (nI br) 1 (9 * k + 2) = nI nx - 1 := by
        rw [q_rowV, if_neg (by omega), if_neg (by omega), if_neg (by omega), if_neg (by omega), if_neg (by omega), if_pos rfl]
      have r3 : q_row v k (nI a) (nI (1 + wk)) (nI nx - 1) e (nI br) 1 (9 * k + 3) = e := by
        rw [q_rowV, if_neg (by omega), if_neg (by omega), if_neg (by omega), if_neg (by omega), if_pos rfl]
      have r4 : q_row v k (nI a) (nI (1 + wk)) (nI nx - 1) e (nI br) 1 (9 * k + 4) = nI br := by
        rw [q_rowV, if_neg (by omega), if_neg (by omega), if_neg (by omega), if_pos rfl]
      rw [r0, r1, r2, r3, r4, b1, m_b2, m_lt, if_pos rfl, nI_1]
      exact ih (k + 1) fu (B + 5000) X' _ w (by omega) (by omega) (q_bs1 hB) b2
    rw [lL_law_79.eq_2, if_neg (q_ge6 hk6), ex, m_bind, ea, m_bind, ewk, enx, eu3, ees, ebr]
    have j0 : (9 : Int32) * nI k = nI (9 * k) := q_i0 k
    have j1 : nI (9 * k) + (1 : Int32) = nI (9 * k + 1) := nI_add (9 * k) 1
    have j2 : nI (9 * k) + (2 : Int32) = nI (9 * k + 2) := nI_add (9 * k) 2
    have j3 : nI (9 * k) + (3 : Int32) = nI (9 * k + 3) := nI_add (9 * k) 3
    have j4 : nI (9 * k) + (4 : Int32) = nI (9 * k + 4) := nI_add (9 * k) 4
    have j5 : nI (9 * k) + (5 : Int32) = nI (9 * k + 5) := nI_add (9 * k) 5
    have j6 : nI (9 * k) + (6 : Int32) = nI (9 * k + 6) := nI_add (9 * k) 6
    have j8 : nI (9 * k) + (8 : Int32) = nI (9 * k + 8) := nI_add (9 * k) 8
    have n0 := m_in (show 9 * k < 54 by omega) (by decide)
    have p0 := m_clamp (show 9 * k < 2 ^ 31 by omega)
    have n1 := m_in (show 9 * k + 1 < 54 by omega) (by decide)
    have p1 := m_clamp (show 9 * k + 1 < 2 ^ 31 by omega)
    have n2 := m_in (show 9 * k + 2 < 54 by omega) (by decide)
    have p2 := m_clamp (show 9 * k + 2 < 2 ^ 31 by omega)
    have n3 := m_in (show 9 * k + 3 < 54 by omega) (by decide)
    have p3 := m_clamp (show 9 * k + 3 < 2 ^ 31 by omega)
    have n4 := m_in (show 9 * k + 4 < 54 by omega) (by decide)
    have p4 := m_clamp (show 9 * k + 4 < 2 ^ 31 by omega)
    have n5 := m_in (show 9 * k + 5 < 54 by omega) (by decide)
    have p5 := m_clamp (show 9 * k + 5 < 2 ^ 31 by omega)
    have n6 := m_in (show 9 * k + 6 < 54 by omega) (by decide)
    have p6 := m_clamp (show 9 * k + 6 < 2 ^ 31 by omega)
    have n8 := m_in (show 9 * k + 8 < 54 by omega) (by decide)
    have p8 := m_clamp (show 9 * k + 8 < 2 ^ 31 by omega)
    simp only [j0, j1, j2, j3, j4, j5, j6, j8, n0, n1, n2, n3, n4, n5, n6, n8, p0, p1, p2, p3, p4, p5, p6, p8, m_ckt, m_bind, m_lt, e1]
    by_cases c0 : nI u3 ≤ 0
    · rw [if_pos c0]
      exact fin (nI es) (Or.inr ⟨es, by omega, rfl⟩)
    · rw [if_neg c0]
      exact fin (-1) (Or.inl rfl)
/-- the drum is set -/
theorem q_main (hL : L ≤ 260) (hN : 13000 ≤ N) (hN2 : N < 2 ^ 31) : fL_main N L xs (z_X0, fun _ _ => 0, fun _ _ => 0) = some 1 := by
  obtain ⟨x, ex⟩ : ∃ x, fL_cell N L xs (0 : Int32) = some x := q_cell hL xs 0 (by decide)
  obtain ⟨p, hp, ep⟩ : ∃ o, o < 20 ∧ fL_low N x (20 : Int32) = some (nI o) := q_low _ (n := 20) (by decide) (by decide)
  have e6 : (6 : Int32) + nI p = nI (6 + p) := nI_add 6 p
  obtain ⟨V, hV⟩ : ∃ V : z_R, V = z_u2 (z_u2 (fun _ _ => 0) 0 0 (nI (6 + p))) 0 2 (-1) := ⟨_, rfl⟩
  obtain ⟨o, X', b, m', a1, -, a3, -⟩ := c_setDrum (N := N) m_RG0 hN hN2 (nI (6 + p))
  have a0 := a1
  unfold fX4_setDrum at a1
  rw [if_neg (show ¬ nI (6 + p) < (6 : Int32) from nI_nlt (b := 6) (by omega) (by omega)), if_pos (show nI (6 + p) ≤ (40 : Int32) from nI_le (b := 40) (by omega) (by decide))] at a1
  obtain ⟨X1, r1, a1⟩ := z_bE a1
  have k1 := q_rem r1
  have k1 : X1.2.2 0 = z_s0 := k1
  have tk : fX2_takeAllOff N z_s0 = some z_s0 := by
    unfold fX2_takeAllOff
    obtain ⟨q, hq⟩ : ∃ q, N = q + 1 := ⟨N - 1, by omega⟩
    rw [hq, show (0 : Int32) = nI 0 from rfl, lX2_takeAllOff_2.eq_2, if_neg (by decide), m_hasN (n := 0) rfl (Or.inr (by decide)), m_bind, if_pos m_00]
  rw [k1, tk, m_bind, m_lt, q_x0, m_lt] at a1
  obtain ⟨e1, e2⟩ := Prod.mk.inj (Option.some.inj a1)
  have k3 : X'.2.2 0 = z_u2 z_s0 0 0 (nI (6 + p)) := by rw [← e2]; exact q_x0 (X1.1, X1.2.1, z_u3 X1.2.2 0 z_s0) _
  have hA : QA 0 5000 X' V := by
    refine ⟨⟨m', by rw [Nat.zero_add] at a3; exact a3⟩, ?_, ?_, ?_, fun z hz => ?_, fun u q hu _ => by omega, fun u _ hu6 => ?_, ?_, fun u hu => by omega, ?_, ?_, fun j => ?_⟩
    · rw [k3, m_u2s, m_un _ _ (by decide)]; rfl
    · rw [k3, hV, m_u2s, m_un _ _ (by decide), m_u2s, m_us, m_u2s, m_us]
    · rw [k3, hV, m_u2s, m_un _ _ (by decide), m_u2s, m_un _ _ (by decide), m_u2s, m_un _ _ (by decide)]; rfl
    · rw [k3, hV, m_u2s, m_un _ _ (by omega), m_u2s, m_un _ _ (by omega), m_un _ _ (by omega), m_un _ _ (by omega), m_u2n _ _ _ (by decide), m_u2n _ _ _ (by decide)]; exact ⟨rfl, rfl⟩
    · rw [hV, m_u2n _ _ _ (by decide), m_u2n _ _ _ (by decide)]
    · rw [k3, hV, m_u2s, m_us, m_u2s, m_un _ _ (by decide)]; rfl
    · rw [hV, m_u2s, m_un _ _ (by decide), m_u2s, m_un _ _ (by decide)]
    · rw [k3, m_u2s, m_un _ _ (by decide)]; rfl
    · rw [hV, m_u2n _ _ _ (by decide), m_u2n _ _ _ (by decide)]
  have sd : nX4_setDrum N (nI (6 + p)) z_X0 = some (12, X') := by
    rw [n_setDrum, a0, ← e1]
    rfl
  have V0 : V 0 0 = nI (6 + p) := by rw [hV, m_u2s, m_un _ _ (by decide), m_u2s, m_us]
  unfold fL_main
  rw [ex, m_bind, ep, m_bind, m_lt, m_lt]
  dsimp +instances only
  rw [e6, m_t0, m_t2, ← hV, V0, sd, m_b2, m_lt, if_pos rfl]
  exact q_adds (N := N) (L := L) (xs := xs) hL hN hN2 6 0 N 5000 X' V _ (by omega) (by omega) (by omega) hA
end QA
