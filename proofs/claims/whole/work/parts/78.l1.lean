/-! each command, as the law sees it -/
section ML1
variable {N B : Nat} {X : z_X} {m : z_R}
theorem l_append (h : RG B X m) (hB : B + 5000 * 51 < 2 ^ 30) (hN : 13000 ≤ N) (hN2 : N < 2 ^ 31) (p1 : Int32) (w : Nat → Int64) : ∃ r X' w' b m', fL_append N p1 (X, w) = some (r, (X', w')) ∧ fX5_append N p1 m = some (b, m') ∧ m' 0 0 = r ∧ (r = 0 → w' 0 = b.toInt64) ∧ RG (B + 5000) X' m' := by
  obtain ⟨o, X', b, m', p1, p2, p3, p4⟩ := c_append (N := N) h  p1
  unfold fL_append
  dsimp only
  rw [p1]
  rcases p4 with ⟨q, k⟩ | ⟨q, k⟩ | ⟨q, k⟩ <;> subst q
  · exact ⟨0, X', vp_updL w 0 b.toInt64, b, m', rfl, p2, k, fun _ => if_pos rfl, p3⟩
  · exact ⟨1, X', w, b, m', rfl, p2, k, fun z => absurd z (by decide), p3⟩
  · exact ⟨2, X', w, b, m', rfl, p2, k, fun z => absurd z (by decide), p3⟩
theorem l_load (h : RG B X m) (hB : B + 5000 * 51 < 2 ^ 30) (hN : 13000 ≤ N) (hN2 : N < 2 ^ 31)  (w : Nat → Int64) : ∃ r X' w' b m', fL_load N  (X, w) = some (r, (X', w')) ∧ fX5_load N  m = some (b, m') ∧ m' 0 0 = r ∧ (r = 0 → w' 0 = b.toInt64) ∧ RG (B + 5000) X' m' := by
  obtain ⟨o, X', b, m', p1, p2, p3, p4⟩ := c_load (N := N) h hN 
  unfold fL_load
  dsimp only
  rw [p1]
  rcases p4 with ⟨q, k⟩ | ⟨q, k⟩ <;> subst q
  · exact ⟨0, X', vp_updL w 0 b.toInt64, b, m', rfl, p2, k, fun _ => if_pos rfl, p3⟩
  · exact ⟨1, X', w, b, m', rfl, p2, k, fun z => absurd z (by decide), p3⟩
theorem l_about (h : RG B X m) (hB : B + 5000 * 51 < 2 ^ 30) (hN : 13000 ≤ N) (hN2 : N < 2 ^ 31) (p1 : Int32) (w : Nat → Int64) : ∃ r X' w' b m', fL_about N p1 (X, w) = some (r, (X', w')) ∧ fX5_about N p1 m = some (b, m') ∧ m' 0 0 = r ∧ (r = 0 → w' 0 = b.toInt64) ∧ RG (B + 5000) X' m' := by
  obtain ⟨o, X', b, m', p1, p2, p3, p4⟩ := c_about (N := N) h (by omega) hN hN2 p1
  unfold fL_about
  dsimp only
  rw [p1]
  rcases p4 with ⟨q, k⟩ | ⟨q, k⟩ <;> subst q
  · exact ⟨0, X', vp_updL w 0 b.toInt64, b, m', rfl, p2, k, fun _ => if_pos rfl, p3⟩
  · exact ⟨1, X', w, b, m', rfl, p2, k, fun z => absurd z (by decide), p3⟩
theorem l_order (h : RG B X m) (hB : B + 5000 * 51 < 2 ^ 30) (hN : 13000 ≤ N) (hN2 : N < 2 ^ 31) (p1 : Int32) (p2 : Int32) (w : Nat → Int64) : ∃ r X' w' b m', fL_order N p1 p2 (X, w) = some (r, (X', w')) ∧ fX5_order N p1 p2 m = some (b, m') ∧ m' 0 0 = r ∧ (r = 0 → w' 0 = b.toInt64) ∧ RG (B + 5000) X' m' := by
  obtain ⟨o, X', b, m', p1, p2, p3, p4⟩ := c_order (N := N) h hN p1 p2
  unfold fL_order
  dsimp only
  rw [p1]
  rcases p4 with ⟨q, k⟩ | ⟨q, k⟩ | ⟨q, k⟩ <;> subst q
  · exact ⟨0, X', vp_updL w 0 b.toInt64, b, m', rfl, p2, k, fun _ => if_pos rfl, p3⟩
  · exact ⟨1, X', w, b, m', rfl, p2, k, fun z => absurd z (by decide), p3⟩
  · exact ⟨2, X', w, b, m', rfl, p2, k, fun z => absurd z (by decide), p3⟩
theorem l_author (h : RG B X m) (hB : B + 5000 * 51 < 2 ^ 30) (hN : 13000 ≤ N) (hN2 : N < 2 ^ 31) (p1 : Int32) (p2 : Int32) (w : Nat → Int64) : ∃ r X' w' b m', fL_author N p1 p2 (X, w) = some (r, (X', w')) ∧ fX5_author N p1 p2 m = some (b, m') ∧ m' 0 0 = r ∧ (r = 0 → w' 0 = b.toInt64) ∧ RG (B + 5000) X' m' := by
  obtain ⟨o, X', b, m', p1, p2, p3, p4⟩ := c_author (N := N) h hN p1 p2
  unfold fL_author
  dsimp only
  rw [p1]
  rcases p4 with ⟨q, k⟩ | ⟨q, k⟩ | ⟨q, k⟩ <;> subst q
  · exact ⟨0, X', vp_updL w 0 b.toInt64, b, m', rfl, p2, k, fun _ => if_pos rfl, p3⟩
  · exact ⟨1, X', w, b, m', rfl, p2, k, fun z => absurd z (by decide), p3⟩
  · exact ⟨2, X', w, b, m', rfl, p2, k, fun z => absurd z (by decide), p3⟩
theorem l_at (h : RG B X m) (hB : B + 5000 * 51 < 2 ^ 30) (hN : 13000 ≤ N) (hN2 : N < 2 ^ 31) (p1 : Int32) (w : Nat → Int64) : ∃ r X' w' b m', fL_at N p1 (X, w) = some (r, (X', w')) ∧ fX5_at N p1 m = some (b, m') ∧ m' 0 0 = r ∧ (r = 0 → w' 0 = b.toInt64) ∧ RG (B + 5000) X' m' := by
  obtain ⟨o, X', b, m', p1, p2, p3, p4⟩ := c_at (N := N) h hN p1
  unfold fL_at
  dsimp only
  rw [p1]
  rcases p4 with ⟨q, k⟩ | ⟨q, k⟩ <;> subst q
  · exact ⟨0, X', vp_updL w 0 b.toInt64, b, m', rfl, p2, k, fun _ => if_pos rfl, p3⟩
  · exact ⟨1, X', w, b, m', rfl, p2, k, fun z => absurd z (by decide), p3⟩
theorem l_jump (h : RG B X m) (hB : B + 5000 * 51 < 2 ^ 30) (hN : 13000 ≤ N) (hN2 : N < 2 ^ 31) (p1 : Int32) (p2 : Int32) (w : Nat → Int64) : ∃ r X' w' b m', fL_jump N p1 p2 (X, w) = some (r, (X', w')) ∧ fX5_jump N p1 p2 m = some (b, m') ∧ m' 0 0 = r ∧ (r = 0 → w' 0 = b.toInt64) ∧ RG (B + 5000) X' m' := by
  obtain ⟨o, X', b, m', p1, p2, p3, p4⟩ := c_jump (N := N) h  p1 p2
  unfold fL_jump
  dsimp only
  rw [p1]
  rcases p4 with ⟨q, k⟩ | ⟨q, k⟩ <;> subst q
  · exact ⟨0, X', vp_updL w 0 b.toInt64, b, m', rfl, p2, k, fun _ => if_pos rfl, p3⟩
  · exact ⟨1, X', w, b, m', rfl, p2, k, fun z => absurd z (by decide), p3⟩
theorem l_chain (h : RG B X m) (hB : B + 5000 * 51 < 2 ^ 30) (hN : 13000 ≤ N) (hN2 : N < 2 ^ 31) (p1 : Int32) (w : Nat → Int64) : ∃ r X' w' b m', fL_chain N p1 (X, w) = some (r, (X', w')) ∧ fX5_chain N p1 m = some (b, m') ∧ m' 0 0 = r ∧ (r = 0 → w' 0 = b.toInt64) ∧ RG (B + 5000) X' m' := by
  obtain ⟨o, X', b, m', p1, p2, p3, p4⟩ := c_chain (N := N) h hN p1
  unfold fL_chain
  dsimp only
  rw [p1]
  rcases p4 with ⟨q, k⟩ | ⟨q, k⟩ <;> subst q
  · exact ⟨0, X', vp_updL w 0 b.toInt64, b, m', rfl, p2, k, fun _ => if_pos rfl, p3⟩
  · exact ⟨1, X', w, b, m', rfl, p2, k, fun z => absurd z (by decide), p3⟩
theorem l_ring (h : RG B X m) (hB : B + 5000 * 51 < 2 ^ 30) (hN : 13000 ≤ N) (hN2 : N < 2 ^ 31) (p1 : Int32) (w : Nat → Int64) : ∃ r X' w' b m', fL_ring N p1 (X, w) = some (r, (X', w')) ∧ fX5_ring N p1 m = some (b, m') ∧ m' 0 0 = r ∧ (r = 0 → w' 0 = b.toInt64) ∧ RG (B + 5000) X' m' := by
  obtain ⟨o, X', b, m', p1, p2, p3, p4⟩ := c_ring (N := N) h hN p1
  unfold fL_ring
  dsimp only
  rw [p1]
  rcases p4 with ⟨q, k⟩ | ⟨q, k⟩ <;> subst q
  · exact ⟨0, X', vp_updL w 0 b.toInt64, b, m', rfl, p2, k, fun _ => if_pos rfl, p3⟩
  · exact ⟨1, X', w, b, m', rfl, p2, k, fun z => absurd z (by decide), p3⟩
theorem l_setDrum (h : RG B X m) (hB : B + 5000 * 51 < 2 ^ 30) (hN : 13000 ≤ N) (hN2 : N < 2 ^ 31) (p1 : Int32) (w : Nat → Int64) : ∃ r X' w' b m', fL_setDrum N p1 (X, w) = some (r, (X', w')) ∧ fX5_setDrum N p1 m = some (b, m') ∧ m' 0 0 = r ∧ (r = 0 → w' 0 = b.toInt64) ∧ RG (B + 5000) X' m' := by
  obtain ⟨o, X', b, m', p1, p2, p3, p4⟩ := c_setDrum (N := N) h hN hN2 p1
  unfold fL_setDrum
  dsimp only
  rw [p1]
  rcases p4 with ⟨q, k⟩ | ⟨q, k⟩ <;> subst q
  · exact ⟨0, X', vp_updL w 0 b.toInt64, b, m', rfl, p2, k, fun _ => if_pos rfl, p3⟩
  · exact ⟨1, X', w, b, m', rfl, p2, k, fun z => absurd z (by decide), p3⟩
theorem l_addOrder (h : RG B X m) (hB : B + 5000 * 51 < 2 ^ 30) (hN : 13000 ≤ N) (hN2 : N < 2 ^ 31) (p1 : Int32) (p2 : Int32) (p3 : Int32) (p4 : Int32) (p5 : Int32) (w : Nat → Int64) : ∃ r X' w' b m', fL_addOrder N p1 p2 p3 p4 p5 (X, w) = some (r, (X', w')) ∧ fX5_addOrder N p1 p2 p3 p4 p5 m = some (b, m') ∧ m' 0 0 = r ∧ (r = 0 → w' 0 = b.toInt64) ∧ RG (B + 5000) X' m' := by
  obtain ⟨o, X', b, m', p1, p2, p3, p4⟩ := c_addOrder (N := N) h hN hN2 p1 p2 p3 p4 p5
  unfold fL_addOrder
  dsimp only
  rw [p1]
  rcases p4 with ⟨q, k⟩ | ⟨q, k⟩ | ⟨q, k⟩ <;> subst q
  · exact ⟨0, X', vp_updL w 0 b.toInt64, b, m', rfl, p2, k, fun _ => if_pos rfl, p3⟩
  · exact ⟨1, X', w, b, m', rfl, p2, k, fun z => absurd z (by decide), p3⟩
  · exact ⟨2, X', w, b, m', rfl, p2, k, fun z => absurd z (by decide), p3⟩
theorem l_change (h : RG B X m) (hB : B + 5000 * 51 < 2 ^ 30) (hN : 13000 ≤ N) (hN2 : N < 2 ^ 31) (p1 : Int32) (p2 : Int32) (p3 : Int32) (w : Nat → Int64) : ∃ r X' w' b m', fL_change N p1 p2 p3 (X, w) = some (r, (X', w')) ∧ fX5_change N p1 p2 p3 m = some (b, m') ∧ m' 0 0 = r ∧ (r = 0 → w' 0 = b.toInt64) ∧ RG (B + 5000) X' m' := by
  obtain ⟨o, X', b, m', p1, p2, p3, p4⟩ := c_change (N := N) h hN hN2 p1 p2 p3
  unfold fL_change
  dsimp only
  rw [p1]
  rcases p4 with ⟨q, k⟩ | ⟨q, k⟩ | ⟨q, k⟩ <;> subst q
  · exact ⟨0, X', vp_updL w 0 b.toInt64, b, m', rfl, p2, k, fun _ => if_pos rfl, p3⟩
  · exact ⟨1, X', w, b, m', rfl, p2, k, fun z => absurd z (by decide), p3⟩
  · exact ⟨2, X', w, b, m', rfl, p2, k, fun z => absurd z (by decide), p3⟩
theorem l_move (h : RG B X m) (hB : B + 5000 * 51 < 2 ^ 30) (hN : 13000 ≤ N) (hN2 : N < 2 ^ 31) (p1 : Int32) (p2 : Int32) (w : Nat → Int64) : ∃ r X' w' b m', fL_move N p1 p2 (X, w) = some (r, (X', w')) ∧ fX5_move N p1 p2 m = some (b, m') ∧ m' 0 0 = r ∧ (r = 0 → w' 0 = b.toInt64) ∧ RG (B + 5000) X' m' := by
  obtain ⟨o, X', b, m', p1, p2, p3, p4⟩ := c_move (N := N) h hN hN2 p1 p2
  unfold fL_move
  dsimp only
  rw [p1]
  rcases p4 with ⟨q, k⟩ | ⟨q, k⟩ | ⟨q, k⟩ <;> subst q
  · exact ⟨0, X', vp_updL w 0 b.toInt64, b, m', rfl, p2, k, fun _ => if_pos rfl, p3⟩
  · exact ⟨1, X', w, b, m', rfl, p2, k, fun z => absurd z (by decide), p3⟩
  · exact ⟨2, X', w, b, m', rfl, p2, k, fun z => absurd z (by decide), p3⟩
theorem l_run (h : RG B X m) (hB : B + 5000 * 51 < 2 ^ 30) (hN : 13000 ≤ N) (hN2 : N < 2 ^ 31) (p1 : Int32) (w : Nat → Int64) : ∃ r X' w' b m', fL_run N p1 (X, w) = some (r, (X', w')) ∧ fX5_run N p1 m = some (b, m') ∧ m' 0 0 = r ∧ (r = 0 → w' 0 = b.toInt64) ∧ RG (B + 5000) X' m' := by
  obtain ⟨o, X', b, m', p1, p2, p3, p4⟩ := c_run (N := N) h (by omega) hN hN2 p1
  unfold fL_run
  dsimp only
  rw [p1]
  rcases p4 with ⟨q, k⟩ | ⟨q, k⟩ <;> subst q
  · exact ⟨0, X', vp_updL w 0 b.toInt64, b, m', rfl, p2, k, fun _ => if_pos rfl, p3⟩
  · exact ⟨1, X', w, b, m', rfl, p2, k, fun z => absurd z (by decide), p3⟩
theorem l_turn (h : RG B X m) (hB : B + 5000 * 51 < 2 ^ 30) (hN : 13000 ≤ N) (hN2 : N < 2 ^ 31) (p1 : Int32) (w : Nat → Int64) : ∃ r X' w' b m', fL_turn N p1 (X, w) = some (r, (X', w')) ∧ fX5_turn N p1 m = some (b, m') ∧ m' 0 0 = r ∧ (r = 0 → w' 0 = b.toInt64) ∧ RG (B + 5000) X' m' := by
  obtain ⟨o, X', b, m', p1, p2, p3, p4⟩ := c_turn (N := N) h (by omega) hN hN2 p1
  unfold fL_turn
  dsimp only
  rw [p1]
  rcases p4 with ⟨q, k⟩ | ⟨q, k⟩ <;> subst q
  · exact ⟨0, X', vp_updL w 0 b.toInt64, b, m', rfl, p2, k, fun _ => if_pos rfl, p3⟩
  · exact ⟨1, X', w, b, m', rfl, p2, k, fun z => absurd z (by decide), p3⟩
theorem l_undo (h : RG B X m) (hB : B + 5000 * 51 < 2 ^ 30) (hN : 13000 ≤ N) (hN2 : N < 2 ^ 31)  (w : Nat → Int64) : ∃ r X' w' b m', fL_undo N  (X, w) = some (r, (X', w')) ∧ fX5_undo N  m = some (b, m') ∧ m' 0 0 = r ∧ (r = 0 → w' 0 = b.toInt64) ∧ RG (B + 5000) X' m' := by
  obtain ⟨o, X', b, m', p1, p2, p3, p4⟩ := c_undo (N := N) h hN hN2 
  unfold fL_undo
  dsimp only
  rw [p1]
  rcases p4 with ⟨q, k⟩ | ⟨q, k⟩ <;> subst q
  · exact ⟨0, X', vp_updL w 0 b.toInt64, b, m', rfl, p2, k, fun _ => if_pos rfl, p3⟩
  · exact ⟨1, X', w, b, m', rfl, p2, k, fun z => absurd z (by decide), p3⟩
theorem l_waits (h : RG B X m) (hB : B + 5000 * 51 < 2 ^ 30) (hN : 13000 ≤ N) (hN2 : N < 2 ^ 31) (p1 : Int32) (w : Nat → Int64) : ∃ r X' w' b m', fL_waits N p1 (X, w) = some (r, (X', w')) ∧ fX5_waits N p1 m = some (b, m') ∧ m' 0 0 = r ∧ (r = 0 → w' 0 = b.toInt64) ∧ RG (B + 5000) X' m' := by
  obtain ⟨o, X', b, m', p1, p2, p3, p4⟩ := c_waits (N := N) h (by omega) hN p1
  unfold fL_waits
  dsimp only
  rw [p1]
  rcases p4 with ⟨q, k⟩ | ⟨q, k⟩ <;> subst q
  · exact ⟨0, X', vp_updL w 0 b.toInt64, b, m', rfl, p2, k, fun _ => if_pos rfl, p3⟩
  · exact ⟨1, X', w, b, m', rfl, p2, k, fun z => absurd z (by decide), p3⟩
theorem l_time (h : RG B X m) (hB : B + 5000 * 51 < 2 ^ 30) (hN : 13000 ≤ N) (hN2 : N < 2 ^ 31) (p1 : Int32) (w : Nat → Int64) : ∃ r X' w' b m', fL_time N p1 (X, w) = some (r, (X', w')) ∧ fX5_time N p1 m = some (b, m') ∧ m' 0 0 = r ∧ (r = 0 → w' 0 = b.toInt64) ∧ RG (B + 5000) X' m' := by
  obtain ⟨o, X', b, m', p1, p2, p3, p4⟩ := c_time (N := N) h (by omega) hN hN2 p1
  unfold fL_time
  dsimp only
  rw [p1]
  rcases p4 with ⟨q, k⟩ | ⟨q, k⟩ <;> subst q
  · exact ⟨0, X', vp_updL w 0 b.toInt64, b, m', rfl, p2, k, fun _ => if_pos rfl, p3⟩
  · exact ⟨1, X', w, b, m', rfl, p2, k, fun z => absurd z (by decide), p3⟩
theorem l_bestPlace (h : RG B X m) (hB : B + 5000 * 51 < 2 ^ 30) (hN : 13000 ≤ N) (hN2 : N < 2 ^ 31) (p1 : Int32) (p2 : Int32) (w : Nat → Int64) : ∃ r X' w' b m', fL_bestPlace N p1 p2 (X, w) = some (r, (X', w')) ∧ fX5_bestPlace N p1 p2 m = some (b, m') ∧ m' 0 0 = r ∧ (r = 0 → w' 0 = b.toInt64) ∧ RG (B + 5000) X' m' := by
  obtain ⟨o, X', b, m', p1, p2, p3, p4⟩ := c_bestPlace (N := N) h (by omega) hN hN2 p1 p2
  unfold fL_bestPlace
  dsimp only
  rw [p1]
  rcases p4 with ⟨q, k⟩ | ⟨q, k⟩ <;> subst q
  · exact ⟨0, X', vp_updL w 0 b.toInt64, b, m', rfl, p2, k, fun _ => if_pos rfl, p3⟩
  · exact ⟨1, X', w, b, m', rfl, p2, k, fun z => absurd z (by decide), p3⟩
theorem l_leastBribe (h : RG B X m) (hB : B + 5000 * 51 < 2 ^ 30) (hN : 13000 ≤ N) (hN2 : N < 2 ^ 31) (p1 : Int32) (w : Nat → Int64) : ∃ r X' w' b m', fL_leastBribe N p1 (X, w) = some (r, (X', w')) ∧ fX5_leastBribe N p1 m = some (b, m') ∧ m' 0 0 = r ∧ (r = 0 → w' 0 = b.toInt64) ∧ RG (B + 5000) X' m' := by
  obtain ⟨o, X', b, m', p1, p2, p3, p4⟩ := c_leastBribe (N := N) h hN hN2 p1
  unfold fL_leastBribe
  dsimp only
  rw [p1]
  rcases p4 with ⟨q, k⟩ | ⟨q, k⟩ <;> subst q
  · exact ⟨0, X', vp_updL w 0 b.toInt64, b, m', rfl, p2, k, fun _ => if_pos rfl, p3⟩
  · exact ⟨1, X', w, b, m', rfl, p2, k, fun z => absurd z (by decide), p3⟩
theorem l_saves (h : RG B X m) (hB : B + 5000 * 51 < 2 ^ 30) (hN : 13000 ≤ N) (hN2 : N < 2 ^ 31) (p1 : Int32) (w : Nat → Int64) : ∃ r X' w' b m', fL_saves N p1 (X, w) = some (r, (X', w')) ∧ fX5_saves N p1 m = some (b, m') ∧ m' 0 0 = r ∧ (r = 0 → w' 0 = b.toInt64) ∧ RG (B + 5000) X' m' := by
  obtain ⟨o, X', b, m', p1, p2, p3, p4⟩ := c_saves (N := N) h (by omega) hN hN2 p1
  unfold fL_saves
  dsimp only
  rw [p1]
  rcases p4 with ⟨q, k⟩ | ⟨q, k⟩ <;> subst q
  · exact ⟨0, X', vp_updL w 0 b.toInt64, b, m', rfl, p2, k, fun _ => if_pos rfl, p3⟩
  · exact ⟨1, X', w, b, m', rfl, p2, k, fun z => absurd z (by decide), p3⟩
theorem l_runScript (h : RG B X m) (hB : B + 5000 * 51 < 2 ^ 30) (hN : 13000 ≤ N) (hN2 : N < 2 ^ 31) (p1 : Int32) (p2 : Int64) (w : Nat → Int64) : ∃ r X' w' b m', fL_runScript N p1 p2 (X, w) = some (r, (X', w')) ∧ fX5_runScript N p1 p2 m = some (b, m') ∧ m' 0 0 = r ∧ (r = 0 → w' 0 = b.toInt64) ∧ RG (B + 5000) X' m' := by
  obtain ⟨o, X', b, m', p1, p2, p3, p4⟩ := c_runScript (N := N) h (by omega) hN hN2 p1 p2
  unfold fL_runScript
  dsimp only
  rw [p1]
  rcases p4 with ⟨q, k⟩ | ⟨q, k⟩ <;> subst q
  · exact ⟨0, X', vp_updL w 0 b.toInt64, b, m', rfl, p2, k, fun _ => if_pos rfl, p3⟩
  · exact ⟨1, X', w, b, m', rfl, p2, k, fun z => absurd z (by decide), p3⟩
theorem l_simulate (h : RG B X m) (hB : B + 5000 * 51 < 2 ^ 30) (hN : 13000 ≤ N) (hN2 : N < 2 ^ 31) (p1 : Int64) (p3 : Int32) (w : Nat → Int64) : ∃ r X' w' b m', fL_simulate N p1 p3 (X, w) = some (r, (X', w')) ∧ fX5_simulate N p1 p3 m = some (b, m') ∧ m' 0 0 = r ∧ (r = 0 → w' 0 = b.toInt64) ∧ RG (B + 5000) X' m' := by
  obtain ⟨o, X', b, m', p1, p2, p3, p4⟩ := c_simulate (N := N) h (by omega) hN hN2 p1 p3
  unfold fL_simulate
  dsimp only
  rw [p1]
  rcases p4 with ⟨q, k⟩ | ⟨q, k⟩ <;> subst q
  · exact ⟨0, X', vp_updL w 0 b.toInt64, b, m', rfl, p2, k, fun _ => if_pos rfl, p3⟩
  · exact ⟨1, X', w, b, m', rfl, p2, k, fun z => absurd z (by decide), p3⟩
theorem l_save (h : RG B X m) (hB : B + 5000 * 51 < 2 ^ 30) (hN : 13000 ≤ N) (hN2 : N < 2 ^ 31) (p1 : Int32) (w : Nat → Int64) : ∃ r X' w' b m', fL_save N p1 (X, w) = some (r, (X', w')) ∧ fX5_save N p1 m = some (b, m') ∧ m' 0 0 = r ∧ (r = 0 → w' 0 = b.toInt64) ∧ RG (B + 5000) X' m' := by
  obtain ⟨o, X', b, m', p1, p2, p3, p4⟩ := c_save (N := N) h hN hN2 p1
  unfold fL_save
  dsimp only
  rw [p1]
  rcases p4 with ⟨q, k⟩ | ⟨q, k⟩ <;> subst q
  · exact ⟨0, X', vp_updL w 0 b.toInt64, b, m', rfl, p2, k, fun _ => if_pos rfl, p3⟩
  · exact ⟨1, X', w, b, m', rfl, p2, k, fun z => absurd z (by decide), p3⟩
theorem l_restore (h : RG B X m) (hB : B + 5000 * 51 < 2 ^ 30) (hN : 13000 ≤ N) (hN2 : N < 2 ^ 31) (p1 : Int32) (w : Nat → Int64) : ∃ r X' w' b m', fL_restore N p1 (X, w) = some (r, (X', w')) ∧ fX5_restore N p1 m = some (b, m') ∧ m' 0 0 = r ∧ (r = 0 → w' 0 = b.toInt64) ∧ RG (B + 5000) X' m' := by
  obtain ⟨o, X', b, m', p1, p2, p3, p4⟩ := c_restore (N := N) h hN hN2 p1
  unfold fL_restore
  dsimp only
  rw [p1]
  rcases p4 with ⟨q, k⟩ | ⟨q, k⟩ | ⟨q, k⟩ <;> subst q
  · exact ⟨0, X', vp_updL w 0 b.toInt64, b, m', rfl, p2, k, fun _ => if_pos rfl, p3⟩
  · exact ⟨1, X', w, b, m', rfl, p2, k, fun z => absurd z (by decide), p3⟩
  · exact ⟨2, X', w, b, m', rfl, p2, k, fun z => absurd z (by decide), p3⟩
end ML1
