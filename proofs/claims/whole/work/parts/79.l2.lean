/-! the law's loop -/
section ML2
variable {N L : Nat} {xs : Nat → Int32}
theorem m_tl {Y : z_Y} {F : Option (Int32 × z_H)} {G : z_R → Option (Int32 × z_R)} {K : z_Y → Option Int32} {r b : Int32} {X' : z_X} {w : Nat → Int64} {m' : z_R} (M : Option Int32 → Option Int32) (hM : ∀ x, M x = x) (hF : F = some (r, (X', w))) (hG : G Y.2.1 = some (b, m')) (h0 : m' 0 0 = r) (hw : r = 0 → w 0 = b.toInt64) : (z_b2 F fun r5 Z5 => z_lt (Z5.1, Y.2.1, Z5.2) fun Y5 => M (z_b2 (G Y5.2.1) fun r7 u7 => z_lt (Y5.1, u7, Y5.2.2) fun Y7 => (fX5_thrown N Y7.2.1).bind fun r8 => if r8 = r5 then (if r5 = 0 then (if lg_cmp (Y7.2.2 ((0 : Int32)).toNatClampNeg) (r7).toInt64 = 0 then K Y7 else some (0 : Int32)) else K Y7) else some (0 : Int32))) = K (X', m', w) := by
  rw [hF, m_b2, m_lt, hM]
  dsimp only
  rw [hG, m_b2, m_lt]
  dsimp only
  unfold fX5_thrown
  rw [m_bind, if_pos h0]
  by_cases c : r = 0
  · have e : lg_cmp ((X', m', w).2.2 ((0 : Int32)).toNatClampNeg) b.toInt64 = 0 := by
      show lg_cmp (w 0) b.toInt64 = 0
      rw [hw c]
      exact m_cmpE _
    rw [if_pos c]
    exact if_pos e
  · rw [if_neg c]
theorem m_tl2 {Y : z_Y} {F : Option (Int32 × z_X)} {G : z_R → Option (Int32 × z_R)} {K : z_Y → Option Int32} {b : Int32} {X' : z_X} {m' : z_R} (hF : F = some (b, X')) (hG : G Y.2.1 = some (b, m')) : (z_b2 F fun r5 u5 => z_lt (u5, Y.2.1, Y.2.2) fun Y5 => z_b2 (G Y5.2.1) fun r7 u7 => z_lt (Y5.1, u7, Y5.2.2) fun Y7 => if r5 = r7 then K Y7 else some (0 : Int32)) = K (X', m', Y.2.2) := by
  rw [hF, m_b2, m_lt]
  dsimp only
  rw [hG, m_b2, m_lt, if_pos rfl]
theorem m_tl3 {Y : z_Y} {F : Option Int32} {G : Option (Int32 × z_R)} {K : z_Y → Option Int32} {b : Int32} {m' : z_R} (hF : F = some b) (hG : G = some (b, m')) : (F.bind fun r5 => z_b2 G fun r7 u7 => z_lt (Y.1, u7, Y.2.2) fun Y7 => if r5 = r7 then K Y7 else some (0 : Int32)) = K (Y.1, m', Y.2.2) := by
  rw [hF, m_bind, hG, m_b2, m_lt, if_pos rfl]
theorem m_lc {i : Nat} (hL : L ≤ 3072) (hi : i ≤ 4000) : ((Int32.ofNat L) - (6 : Int32) < nI i) ↔ L < i + 6 := by
  show nI L - nI 6 < nI i ↔ _
  by_cases c : 6 ≤ L
  · rw [pk_sub c, m_ltI (by omega) (by omega)]
    omega
  · have h : (nI L - nI 6).toInt < 0 := by
      rcases (show L = 0 ∨ L = 1 ∨ L = 2 ∨ L = 3 ∨ L = 4 ∨ L = 5 by omega) with q | q | q | q | q | q <;> subst q <;> decide
    rw [Int32.lt_iff_toInt_lt, nI_toInt (by omega)]
    omega
set_option maxRecDepth 8000 in
theorem m_lawL (hN : 13000 ≤ N) (hN2 : N < 2 ^ 31) (hL : L ≤ 3072) : ∀ (k i fu B : Nat) (Y : z_Y), 3072 ≤ i + 6 * k → i ≤ 3078 → k < fu → B + 5000 * k ≤ 3000000 → RG B Y.1 Y.2.1 → lL_law_23 N L xs fu (nI i) Y = some 1 := by
  intro k
  induction k with
  | zero =>
    intro i fu B Y hi hi2 hfu hB hY
    obtain ⟨fu, rfl⟩ : ∃ q, fu = q + 1 := ⟨fu - 1, by omega⟩
    rw [lL_law_23.eq_2]
    exact if_pos ((m_lc hL (by omega)).mpr (by omega))
  | succ k ih =>
    intro i fu B Y hi hi2 hfu hB hY
    obtain ⟨fu, rfl⟩ : ∃ q, fu = q + 1 := ⟨fu - 1, by omega⟩
    rw [lL_law_23.eq_2]
    by_cases c : L < i + 6
    · exact if_pos ((m_lc hL (by omega)).mpr c)
    refine (if_neg (fun q => c ((m_lc hL (by omega)).mp q))).trans ?_
    refine (m_ck (m_in (show i < L by omega) (by omega)) _).trans ?_
    have z : ∀ j : Nat, j < 6 → z_in (nI i + nI j) L = true := fun j hj => by
      rw [nI_add]; exact m_in (by omega) (by omega)
    have z1 : z_in (nI i + (1 : Int32)) L = true := z 1 (by decide)
    have z2 : z_in (nI i + (2 : Int32)) L = true := z 2 (by decide)
    have z3 : z_in (nI i + (3 : Int32)) L = true := z 3 (by decide)
    have z4 : z_in (nI i + (4 : Int32)) L = true := z 4 (by decide)
    have z5 : z_in (nI i + (5 : Int32)) L = true := z 5 (by decide)
    have hB2 : B + 5000 * 51 < 2 ^ 30 := Nat.lt_of_le_of_lt (show B + 5000 * 51 ≤ 3000000 + 255000 from Nat.add_le_add (show B ≤ 3000000 by omega) (show 5000 * 51 ≤ 255000 by decide)) (by decide)
    have nx : ∀ Y' : z_Y, RG (B + 5000) Y'.1 Y'.2.1 → lL_law_23 N L xs fu (nI i + (6 : Int32)) Y' = some 1 := fun Y' hY' => by
      rw [show nI i + (6 : Int32) = nI (i + 6) from nI_add i 6]
      exact ih (i + 6) fu (B + 5000) Y' (by omega) (by omega) (by omega) (by omega) hY'
    by_cases e0 : (xs (nI i).toNatClampNeg) &&& (31 : Int32) = (0 : Int32)
    · refine (if_pos e0).trans ?_
      obtain ⟨r, X', w, b, m', p1, p2, p3, p4, p5⟩ := l_append (N := N) hY hB2 hN hN2 (xs ((nI i + (1 : Int32))).toNatClampNeg) Y.2.2
      refine (m_ck z1 _).trans ?_
      exact (m_tl (N := N) (Y := Y) (G := fX5_append N (xs ((nI i + (1 : Int32))).toNatClampNeg)) (K := fun Y' => lL_law_23 N L xs fu (nI i + (6 : Int32)) Y') (fun x => z_ck (z_in (nI i + (1 : Int32)) L) (x)) (fun x => m_ck z1 _) p1 p2 p3 p4).trans (nx _ p5)
    refine (if_neg e0).trans ?_
    by_cases e1 : (xs (nI i).toNatClampNeg) &&& (31 : Int32) = (1 : Int32)
    · refine (if_pos e1).trans ?_
      obtain ⟨b, X', m', p1, p2, p5⟩ := c_clear (N := N) hY
      exact (m_tl2 (Y := Y) (G := fX5_clearText N) (K := fun Y' => lL_law_23 N L xs fu (nI i + (6 : Int32)) Y') p1 p2).trans (nx _ p5)
    refine (if_neg e1).trans ?_
    by_cases e2 : (xs (nI i).toNatClampNeg) &&& (31 : Int32) = (2 : Int32)
    · refine (if_pos e2).trans ?_
      obtain ⟨b, m', p1, p2, p5⟩ := c_errorPosition (N := N) hY hN
      exact (m_tl3 (Y := Y) (K := fun Y' => lL_law_23 N L xs fu (nI i + (6 : Int32)) Y') p1 p2).trans (nx _ p5)
    refine (if_neg e2).trans ?_
    by_cases e3 : (xs (nI i).toNatClampNeg) &&& (31 : Int32) = (3 : Int32)
    · refine (if_pos e3).trans ?_
      obtain ⟨r, X', w, b, m', p1, p2, p3, p4, p5⟩ := l_load (N := N) hY hB2 hN hN2  Y.2.2
      exact (m_tl (N := N) (Y := Y) (G := fX5_load N ) (K := fun Y' => lL_law_23 N L xs fu (nI i + (6 : Int32)) Y') (fun x => x) (fun x => rfl) p1 p2 p3 p4).trans (nx _ p5)
    refine (if_neg e3).trans ?_
    by_cases e4 : (xs (nI i).toNatClampNeg) &&& (31 : Int32) = (4 : Int32)
    · refine (if_pos e4).trans ?_
      obtain ⟨r, X', w, b, m', p1, p2, p3, p4, p5⟩ := l_about (N := N) hY hB2 hN hN2 (xs ((nI i + (1 : Int32))).toNatClampNeg) Y.2.2
      refine (m_ck z1 _).trans ?_
      exact (m_tl (N := N) (Y := Y) (G := fX5_about N (xs ((nI i + (1 : Int32))).toNatClampNeg)) (K := fun Y' => lL_law_23 N L xs fu (nI i + (6 : Int32)) Y') (fun x => z_ck (z_in (nI i + (1 : Int32)) L) (x)) (fun x => m_ck z1 _) p1 p2 p3 p4).trans (nx _ p5)
    refine (if_neg e4).trans ?_
    by_cases e5 : (xs (nI i).toNatClampNeg) &&& (31 : Int32) = (5 : Int32)
    · refine (if_pos e5).trans ?_
      obtain ⟨r, X', w, b, m', p1, p2, p3, p4, p5⟩ := l_order (N := N) hY hB2 hN hN2 (xs ((nI i + (1 : Int32))).toNatClampNeg) (xs ((nI i + (2 : Int32))).toNatClampNeg) Y.2.2
      refine (m_ck z1 _).trans ?_
      refine (m_ck z2 _).trans ?_
      exact (m_tl (N := N) (Y := Y) (G := fX5_order N (xs ((nI i + (1 : Int32))).toNatClampNeg) (xs ((nI i + (2 : Int32))).toNatClampNeg)) (K := fun Y' => lL_law_23 N L xs fu (nI i + (6 : Int32)) Y') (fun x => z_ck (z_in (nI i + (1 : Int32)) L) (z_ck (z_in (nI i + (2 : Int32)) L) (x))) (fun x => (m_ck z1 _).trans (m_ck z2 _)) p1 p2 p3 p4).trans (nx _ p5)
    refine (if_neg e5).trans ?_
    by_cases e6 : (xs (nI i).toNatClampNeg) &&& (31 : Int32) = (6 : Int32)
    · refine (if_pos e6).trans ?_
      obtain ⟨r, X', w, b, m', p1, p2, p3, p4, p5⟩ := l_author (N := N) hY hB2 hN hN2 (xs ((nI i + (1 : Int32))).toNatClampNeg) (xs ((nI i + (2 : Int32))).toNatClampNeg) Y.2.2
      refine (m_ck z1 _).trans ?_
      refine (m_ck z2 _).trans ?_
      exact (m_tl (N := N) (Y := Y) (G := fX5_author N (xs ((nI i + (1 : Int32))).toNatClampNeg) (xs ((nI i + (2 : Int32))).toNatClampNeg)) (K := fun Y' => lL_law_23 N L xs fu (nI i + (6 : Int32)) Y') (fun x => z_ck (z_in (nI i + (1 : Int32)) L) (z_ck (z_in (nI i + (2 : Int32)) L) (x))) (fun x => (m_ck z1 _).trans (m_ck z2 _)) p1 p2 p3 p4).trans (nx _ p5)
    refine (if_neg e6).trans ?_
    by_cases e7 : (xs (nI i).toNatClampNeg) &&& (31 : Int32) = (7 : Int32)
    · refine (if_pos e7).trans ?_
      obtain ⟨r, X', w, b, m', p1, p2, p3, p4, p5⟩ := l_at (N := N) hY hB2 hN hN2 (xs ((nI i + (1 : Int32))).toNatClampNeg) Y.2.2
      refine (m_ck z1 _).trans ?_
      exact (m_tl (N := N) (Y := Y) (G := fX5_at N (xs ((nI i + (1 : Int32))).toNatClampNeg)) (K := fun Y' => lL_law_23 N L xs fu (nI i + (6 : Int32)) Y') (fun x => z_ck (z_in (nI i + (1 : Int32)) L) (x)) (fun x => m_ck z1 _) p1 p2 p3 p4).trans (nx _ p5)
    refine (if_neg e7).trans ?_
    by_cases e8 : (xs (nI i).toNatClampNeg) &&& (31 : Int32) = (8 : Int32)
    · refine (if_pos e8).trans ?_
      obtain ⟨r, X', w, b, m', p1, p2, p3, p4, p5⟩ := l_jump (N := N) hY hB2 hN hN2 (xs ((nI i + (1 : Int32))).toNatClampNeg) (xs ((nI i + (2 : Int32))).toNatClampNeg) Y.2.2
      refine (m_ck z1 _).trans ?_
      refine (m_ck z2 _).trans ?_
      exact (m_tl (N := N) (Y := Y) (G := fX5_jump N (xs ((nI i + (1 : Int32))).toNatClampNeg) (xs ((nI i + (2 : Int32))).toNatClampNeg)) (K := fun Y' => lL_law_23 N L xs fu (nI i + (6 : Int32)) Y') (fun x => z_ck (z_in (nI i + (1 : Int32)) L) (z_ck (z_in (nI i + (2 : Int32)) L) (x))) (fun x => (m_ck z1 _).trans (m_ck z2 _)) p1 p2 p3 p4).trans (nx _ p5)
    refine (if_neg e8).trans ?_
    by_cases e9 : (xs (nI i).toNatClampNeg) &&& (31 : Int32) = (9 : Int32)
    · refine (if_pos e9).trans ?_
      obtain ⟨r, X', w, b, m', p1, p2, p3, p4, p5⟩ := l_chain (N := N) hY hB2 hN hN2 (xs ((nI i + (1 : Int32))).toNatClampNeg) Y.2.2
      refine (m_ck z1 _).trans ?_
      exact (m_tl (N := N) (Y := Y) (G := fX5_chain N (xs ((nI i + (1 : Int32))).toNatClampNeg)) (K := fun Y' => lL_law_23 N L xs fu (nI i + (6 : Int32)) Y') (fun x => z_ck (z_in (nI i + (1 : Int32)) L) (x)) (fun x => m_ck z1 _) p1 p2 p3 p4).trans (nx _ p5)
    refine (if_neg e9).trans ?_
    by_cases e10 : (xs (nI i).toNatClampNeg) &&& (31 : Int32) = (10 : Int32)
    · refine (if_pos e10).trans ?_
      obtain ⟨r, X', w, b, m', p1, p2, p3, p4, p5⟩ := l_ring (N := N) hY hB2 hN hN2 (xs ((nI i + (1 : Int32))).toNatClampNeg) Y.2.2
      refine (m_ck z1 _).trans ?_
      exact (m_tl (N := N) (Y := Y) (G := fX5_ring N (xs ((nI i + (1 : Int32))).toNatClampNeg)) (K := fun Y' => lL_law_23 N L xs fu (nI i + (6 : Int32)) Y') (fun x => z_ck (z_in (nI i + (1 : Int32)) L) (x)) (fun x => m_ck z1 _) p1 p2 p3 p4).trans (nx _ p5)
    refine (if_neg e10).trans ?_
    by_cases e11 : (xs (nI i).toNatClampNeg) &&& (31 : Int32) = (11 : Int32)
    · refine (if_pos e11).trans ?_
      obtain ⟨r, X', w, b, m', p1, p2, p3, p4, p5⟩ := l_setDrum (N := N) hY hB2 hN hN2 (xs ((nI i + (1 : Int32))).toNatClampNeg) Y.2.2
      refine (m_ck z1 _).trans ?_
      exact (m_tl (N := N) (Y := Y) (G := fX5_setDrum N (xs ((nI i + (1 : Int32))).toNatClampNeg)) (K := fun Y' => lL_law_23 N L xs fu (nI i + (6 : Int32)) Y') (fun x => z_ck (z_in (nI i + (1 : Int32)) L) (x)) (fun x => m_ck z1 _) p1 p2 p3 p4).trans (nx _ p5)
    refine (if_neg e11).trans ?_
    by_cases e12 : (xs (nI i).toNatClampNeg) &&& (31 : Int32) = (12 : Int32)
    · refine (if_pos e12).trans ?_
      obtain ⟨r, X', w, b, m', p1, p2, p3, p4, p5⟩ := l_addOrder (N := N) hY hB2 hN hN2 (xs ((nI i + (1 : Int32))).toNatClampNeg) (xs ((nI i + (2 : Int32))).toNatClampNeg) (xs ((nI i + (3 : Int32))).toNatClampNeg) (xs ((nI i + (4 : Int32))).toNatClampNeg) (xs ((nI i + (5 : Int32))).toNatClampNeg) Y.2.2
      refine (m_ck z1 _).trans ?_
      refine (m_ck z2 _).trans ?_
      refine (m_ck z3 _).trans ?_
      refine (m_ck z4 _).trans ?_
      refine (m_ck z5 _).trans ?_
      exact (m_tl (N := N) (Y := Y) (G := fX5_addOrder N (xs ((nI i + (1 : Int32))).toNatClampNeg) (xs ((nI i + (2 : Int32))).toNatClampNeg) (xs ((nI i + (3 : Int32))).toNatClampNeg) (xs ((nI i + (4 : Int32))).toNatClampNeg) (xs ((nI i + (5 : Int32))).toNatClampNeg)) (K := fun Y' => lL_law_23 N L xs fu (nI i + (6 : Int32)) Y') (fun x => z_ck (z_in (nI i + (1 : Int32)) L) (z_ck (z_in (nI i + (2 : Int32)) L) (z_ck (z_in (nI i + (3 : Int32)) L) (z_ck (z_in (nI i + (4 : Int32)) L) (z_ck (z_in (nI i + (5 : Int32)) L) (x)))))) (fun x => (m_ck z1 _).trans ((m_ck z2 _).trans ((m_ck z3 _).trans ((m_ck z4 _).trans (m_ck z5 _))))) p1 p2 p3 p4).trans (nx _ p5)
    refine (if_neg e12).trans ?_
    by_cases e13 : (xs (nI i).toNatClampNeg) &&& (31 : Int32) = (13 : Int32)
    · refine (if_pos e13).trans ?_
      obtain ⟨r, X', w, b, m', p1, p2, p3, p4, p5⟩ := l_change (N := N) hY hB2 hN hN2 (xs ((nI i + (1 : Int32))).toNatClampNeg) (xs ((nI i + (2 : Int32))).toNatClampNeg) (xs ((nI i + (3 : Int32))).toNatClampNeg) Y.2.2
      refine (m_ck z1 _).trans ?_
      refine (m_ck z2 _).trans ?_
      refine (m_ck z3 _).trans ?_
      exact (m_tl (N := N) (Y := Y) (G := fX5_change N (xs ((nI i + (1 : Int32))).toNatClampNeg) (xs ((nI i + (2 : Int32))).toNatClampNeg) (xs ((nI i + (3 : Int32))).toNatClampNeg)) (K := fun Y' => lL_law_23 N L xs fu (nI i + (6 : Int32)) Y') (fun x => z_ck (z_in (nI i + (1 : Int32)) L) (z_ck (z_in (nI i + (2 : Int32)) L) (z_ck (z_in (nI i + (3 : Int32)) L) (x)))) (fun x => (m_ck z1 _).trans ((m_ck z2 _).trans (m_ck z3 _))) p1 p2 p3 p4).trans (nx _ p5)
    refine (if_neg e13).trans ?_
    by_cases e14 : (xs (nI i).toNatClampNeg) &&& (31 : Int32) = (14 : Int32)
    · refine (if_pos e14).trans ?_
      obtain ⟨r, X', w, b, m', p1, p2, p3, p4, p5⟩ := l_move (N := N) hY hB2 hN hN2 (xs ((nI i + (1 : Int32))).toNatClampNeg) (xs ((nI i + (2 : Int32))).toNatClampNeg) Y.2.2
      refine (m_ck z1 _).trans ?_
      refine (m_ck z2 _).trans ?_
      exact (m_tl (N := N) (Y := Y) (G := fX5_move N (xs ((nI i + (1 : Int32))).toNatClampNeg) (xs ((nI i + (2 : Int32))).toNatClampNeg)) (K := fun Y' => lL_law_23 N L xs fu (nI i + (6 : Int32)) Y') (fun x => z_ck (z_in (nI i + (1 : Int32)) L) (z_ck (z_in (nI i + (2 : Int32)) L) (x))) (fun x => (m_ck z1 _).trans (m_ck z2 _)) p1 p2 p3 p4).trans (nx _ p5)
    refine (if_neg e14).trans ?_
    by_cases e15 : (xs (nI i).toNatClampNeg) &&& (31 : Int32) = (15 : Int32)
    · refine (if_pos e15).trans ?_
      obtain ⟨b, X', m', p1, p2, p5⟩ := c_lay (N := N) hY hN hN2
      exact (m_tl2 (Y := Y) (G := fX5_lay N) (K := fun Y' => lL_law_23 N L xs fu (nI i + (6 : Int32)) Y') p1 p2).trans (nx _ p5)
    refine (if_neg e15).trans ?_
    by_cases e16 : (xs (nI i).toNatClampNeg) &&& (31 : Int32) = (16 : Int32)
    · refine (if_pos e16).trans ?_
      obtain ⟨r, X', w, b, m', p1, p2, p3, p4, p5⟩ := l_run (N := N) hY hB2 hN hN2 (xs ((nI i + (1 : Int32))).toNatClampNeg) Y.2.2
      refine (m_ck z1 _).trans ?_
      exact (m_tl (N := N) (Y := Y) (G := fX5_run N (xs ((nI i + (1 : Int32))).toNatClampNeg)) (K := fun Y' => lL_law_23 N L xs fu (nI i + (6 : Int32)) Y') (fun x => z_ck (z_in (nI i + (1 : Int32)) L) (x)) (fun x => m_ck z1 _) p1 p2 p3 p4).trans (nx _ p5)
    refine (if_neg e16).trans ?_
    by_cases e17 : (xs (nI i).toNatClampNeg) &&& (31 : Int32) = (17 : Int32)
    · refine (if_pos e17).trans ?_
      obtain ⟨r, X', w, b, m', p1, p2, p3, p4, p5⟩ := l_turn (N := N) hY hB2 hN hN2 (xs ((nI i + (1 : Int32))).toNatClampNeg) Y.2.2
      refine (m_ck z1 _).trans ?_
      exact (m_tl (N := N) (Y := Y) (G := fX5_turn N (xs ((nI i + (1 : Int32))).toNatClampNeg)) (K := fun Y' => lL_law_23 N L xs fu (nI i + (6 : Int32)) Y') (fun x => z_ck (z_in (nI i + (1 : Int32)) L) (x)) (fun x => m_ck z1 _) p1 p2 p3 p4).trans (nx _ p5)
    refine (if_neg e17).trans ?_
    by_cases e18 : (xs (nI i).toNatClampNeg) &&& (31 : Int32) = (18 : Int32)
    · refine (if_pos e18).trans ?_
      obtain ⟨r, X', w, b, m', p1, p2, p3, p4, p5⟩ := l_undo (N := N) hY hB2 hN hN2  Y.2.2
      exact (m_tl (N := N) (Y := Y) (G := fX5_undo N ) (K := fun Y' => lL_law_23 N L xs fu (nI i + (6 : Int32)) Y') (fun x => x) (fun x => rfl) p1 p2 p3 p4).trans (nx _ p5)
    refine (if_neg e18).trans ?_
    by_cases e19 : (xs (nI i).toNatClampNeg) &&& (31 : Int32) = (19 : Int32)
    · refine (if_pos e19).trans ?_
      obtain ⟨r, X', w, b, m', p1, p2, p3, p4, p5⟩ := l_waits (N := N) hY hB2 hN hN2 (xs ((nI i + (1 : Int32))).toNatClampNeg) Y.2.2
      refine (m_ck z1 _).trans ?_
      exact (m_tl (N := N) (Y := Y) (G := fX5_waits N (xs ((nI i + (1 : Int32))).toNatClampNeg)) (K := fun Y' => lL_law_23 N L xs fu (nI i + (6 : Int32)) Y') (fun x => z_ck (z_in (nI i + (1 : Int32)) L) (x)) (fun x => m_ck z1 _) p1 p2 p3 p4).trans (nx _ p5)
    refine (if_neg e19).trans ?_
    by_cases e20 : (xs (nI i).toNatClampNeg) &&& (31 : Int32) = (20 : Int32)
    · refine (if_pos e20).trans ?_
      obtain ⟨r, X', w, b, m', p1, p2, p3, p4, p5⟩ := l_time (N := N) hY hB2 hN hN2 (xs ((nI i + (1 : Int32))).toNatClampNeg) Y.2.2
      refine (m_ck z1 _).trans ?_
      exact (m_tl (N := N) (Y := Y) (G := fX5_time N (xs ((nI i + (1 : Int32))).toNatClampNeg)) (K := fun Y' => lL_law_23 N L xs fu (nI i + (6 : Int32)) Y') (fun x => z_ck (z_in (nI i + (1 : Int32)) L) (x)) (fun x => m_ck z1 _) p1 p2 p3 p4).trans (nx _ p5)
    refine (if_neg e20).trans ?_
    by_cases e21 : (xs (nI i).toNatClampNeg) &&& (31 : Int32) = (21 : Int32)
    · refine (if_pos e21).trans ?_
      obtain ⟨r, X', w, b, m', p1, p2, p3, p4, p5⟩ := l_bestPlace (N := N) hY hB2 hN hN2 (xs ((nI i + (1 : Int32))).toNatClampNeg) (xs ((nI i + (2 : Int32))).toNatClampNeg) Y.2.2
      refine (m_ck z1 _).trans ?_
      refine (m_ck z2 _).trans ?_
      exact (m_tl (N := N) (Y := Y) (G := fX5_bestPlace N (xs ((nI i + (1 : Int32))).toNatClampNeg) (xs ((nI i + (2 : Int32))).toNatClampNeg)) (K := fun Y' => lL_law_23 N L xs fu (nI i + (6 : Int32)) Y') (fun x => z_ck (z_in (nI i + (1 : Int32)) L) (z_ck (z_in (nI i + (2 : Int32)) L) (x))) (fun x => (m_ck z1 _).trans (m_ck z2 _)) p1 p2 p3 p4).trans (nx _ p5)
    refine (if_neg e21).trans ?_
    by_cases e22 : (xs (nI i).toNatClampNeg) &&& (31 : Int32) = (22 : Int32)
    · refine (if_pos e22).trans ?_
      obtain ⟨r, X', w, b, m', p1, p2, p3, p4, p5⟩ := l_leastBribe (N := N) hY hB2 hN hN2 (xs ((nI i + (1 : Int32))).toNatClampNeg) Y.2.2
      refine (m_ck z1 _).trans ?_
      exact (m_tl (N := N) (Y := Y) (G := fX5_leastBribe N (xs ((nI i + (1 : Int32))).toNatClampNeg)) (K := fun Y' => lL_law_23 N L xs fu (nI i + (6 : Int32)) Y') (fun x => z_ck (z_in (nI i + (1 : Int32)) L) (x)) (fun x => m_ck z1 _) p1 p2 p3 p4).trans (nx _ p5)
    refine (if_neg e22).trans ?_
    by_cases e23 : (xs (nI i).toNatClampNeg) &&& (31 : Int32) = (23 : Int32)
    · refine (if_pos e23).trans ?_
      obtain ⟨r, X', w, b, m', p1, p2, p3, p4, p5⟩ := l_saves (N := N) hY hB2 hN hN2 (xs ((nI i + (1 : Int32))).toNatClampNeg) Y.2.2
      refine (m_ck z1 _).trans ?_
      exact (m_tl (N := N) (Y := Y) (G := fX5_saves N (xs ((nI i + (1 : Int32))).toNatClampNeg)) (K := fun Y' => lL_law_23 N L xs fu (nI i + (6 : Int32)) Y') (fun x => z_ck (z_in (nI i + (1 : Int32)) L) (x)) (fun x => m_ck z1 _) p1 p2 p3 p4).trans (nx _ p5)
    refine (if_neg e23).trans ?_
    by_cases e24 : (xs (nI i).toNatClampNeg) &&& (31 : Int32) = (24 : Int32)
    · refine (if_pos e24).trans ?_
      obtain ⟨r, X', w, b, m', p1, p2, p3, p4, p5⟩ := l_runScript (N := N) hY hB2 hN hN2 (xs ((nI i + (1 : Int32))).toNatClampNeg) ((((xs ((nI i + (2 : Int32))).toNatClampNeg)).toInt64 <<< ((32 : Int32).toInt64 &&& 63)) ||| (((xs ((nI i + (3 : Int32))).toNatClampNeg)).toInt64 &&& (4294967295 : Int64))) Y.2.2
      refine (m_ck z1 _).trans ?_
      refine (m_ck z2 _).trans ?_
      refine (m_ck z3 _).trans ?_
      exact (m_tl (N := N) (Y := Y) (G := fX5_runScript N (xs ((nI i + (1 : Int32))).toNatClampNeg) ((((xs ((nI i + (2 : Int32))).toNatClampNeg)).toInt64 <<< ((32 : Int32).toInt64 &&& 63)) ||| (((xs ((nI i + (3 : Int32))).toNatClampNeg)).toInt64 &&& (4294967295 : Int64)))) (K := fun Y' => lL_law_23 N L xs fu (nI i + (6 : Int32)) Y') (fun x => z_ck (z_in (nI i + (1 : Int32)) L) (z_ck (z_in (nI i + (2 : Int32)) L) (z_ck (z_in (nI i + (3 : Int32)) L) (x)))) (fun x => (m_ck z1 _).trans ((m_ck z2 _).trans (m_ck z3 _))) p1 p2 p3 p4).trans (nx _ p5)
    refine (if_neg e24).trans ?_
    by_cases e25 : (xs (nI i).toNatClampNeg) &&& (31 : Int32) = (25 : Int32)
    · refine (if_pos e25).trans ?_
      obtain ⟨r, X', w, b, m', p1, p2, p3, p4, p5⟩ := l_simulate (N := N) hY hB2 hN hN2 ((((xs ((nI i + (1 : Int32))).toNatClampNeg)).toInt64 <<< ((32 : Int32).toInt64 &&& 63)) ||| (((xs ((nI i + (2 : Int32))).toNatClampNeg)).toInt64 &&& (4294967295 : Int64))) (xs ((nI i + (3 : Int32))).toNatClampNeg) Y.2.2
      refine (m_ck z1 _).trans ?_
      refine (m_ck z2 _).trans ?_
      refine (m_ck z3 _).trans ?_
      exact (m_tl (N := N) (Y := Y) (G := fX5_simulate N ((((xs ((nI i + (1 : Int32))).toNatClampNeg)).toInt64 <<< ((32 : Int32).toInt64 &&& 63)) ||| (((xs ((nI i + (2 : Int32))).toNatClampNeg)).toInt64 &&& (4294967295 : Int64))) (xs ((nI i + (3 : Int32))).toNatClampNeg)) (K := fun Y' => lL_law_23 N L xs fu (nI i + (6 : Int32)) Y') (fun x => z_ck (z_in (nI i + (1 : Int32)) L) (z_ck (z_in (nI i + (2 : Int32)) L) (z_ck (z_in (nI i + (3 : Int32)) L) (x)))) (fun x => (m_ck z1 _).trans ((m_ck z2 _).trans (m_ck z3 _))) p1 p2 p3 p4).trans (nx _ p5)
    refine (if_neg e25).trans ?_
    by_cases e26 : (xs (nI i).toNatClampNeg) &&& (31 : Int32) = (26 : Int32)
    · refine (if_pos e26).trans ?_
      obtain ⟨r, X', w, b, m', p1, p2, p3, p4, p5⟩ := l_save (N := N) hY hB2 hN hN2 (xs ((nI i + (1 : Int32))).toNatClampNeg) Y.2.2
      refine (m_ck z1 _).trans ?_
      exact (m_tl (N := N) (Y := Y) (G := fX5_save N (xs ((nI i + (1 : Int32))).toNatClampNeg)) (K := fun Y' => lL_law_23 N L xs fu (nI i + (6 : Int32)) Y') (fun x => z_ck (z_in (nI i + (1 : Int32)) L) (x)) (fun x => m_ck z1 _) p1 p2 p3 p4).trans (nx _ p5)
    refine (if_neg e26).trans ?_
    by_cases e27 : (xs (nI i).toNatClampNeg) &&& (31 : Int32) = (27 : Int32)
    · refine (if_pos e27).trans ?_
      obtain ⟨r, X', w, b, m', p1, p2, p3, p4, p5⟩ := l_restore (N := N) hY hB2 hN hN2 (xs ((nI i + (1 : Int32))).toNatClampNeg) Y.2.2
      refine (m_ck z1 _).trans ?_
      exact (m_tl (N := N) (Y := Y) (G := fX5_restore N (xs ((nI i + (1 : Int32))).toNatClampNeg)) (K := fun Y' => lL_law_23 N L xs fu (nI i + (6 : Int32)) Y') (fun x => z_ck (z_in (nI i + (1 : Int32)) L) (x)) (fun x => m_ck z1 _) p1 p2 p3 p4).trans (nx _ p5)
    refine (if_neg e27).trans ?_
    exact nx Y (hY.mono (by omega))
end ML2
