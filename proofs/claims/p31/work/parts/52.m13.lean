/-! the commands: actions -/
section MR13
variable {N B : Nat} {X : z_X} {m : z_R}
abbrev m_Al : Nat → Prop := fun _ => True
theorem m_rk {m : z_R} (kd : Int32) : z_u2 m 0 0 kd = z_uR (z_u2 m 0 0 kd) 1 (m 1) := by rw [← m_kd1 m kd (by decide : (1 : Nat) ≠ 0), m_self]
theorem m_z0 : ((0 : Int32) ≤ 0) := by decide
theorem m_n1 : ¬ ((1 : Int32) ≤ 0) := by decide
theorem m_n2 : ¬ ((2 : Int32) ≤ 0) := by decide
/-- what a command leaves: the answers agree, or both sides throw the same -/
def m_Ok (o : Int32 ⊕ Nat) (b kd : Int32) (mp : Nat → Int32) : Prop := (o = .inl b ∧ kd = 0) ∨ ∃ k, o = .inr k ∧ kd = mp k ∧ ¬ kd = 0
theorem c_run (h : RG B X m) (hB : B + 5000 < 2 ^ 30) (hN : 13000 ≤ N) (hN2 : N < 2 ^ 31) (x : Int32) : ∃ o X' b m', fX4_run N x X = some (o, X') ∧ fX5_run N x m = some (b, m') ∧ RG (B + 5000) X' m' ∧ ((o = .inl b ∧ m' 0 0 = 0) ∨ (o = .inr 3 ∧ m' 0 0 = 1)) := by
  obtain ⟨ht, ⟨n, P, T, J, hrs, hT⟩, hme, hsl⟩ := id h
  have h16 := hrs.n16
  unfold fX4_run fX5_run
  rcases m_cs x (n := n) (by omega) with ⟨q, hq, e⟩ | ⟨hx, -⟩
  · obtain ⟨X1, m1, r1, r2, r3, r4, r5, r6⟩ := m_remember (N := N) (h.kd 0) hN hN2
    rw [m_kd] at r6
    rw [m_kd1 m 0 (by decide)] at r5
    obtain ⟨ee, j, g', s', T', J', e1, e2, e3, e4, e5, e6, e7, -⟩ := m_runs (N := N) (m := m1) hrs ⟨trivial, trivial, trivial, trivial, trivial, trivial, trivial⟩ (fun _ => trivial) (by omega) (by omega) x
    rw [show z_uR m1 1 (m 1) = m1 by rw [← r5, m_self]] at e4
    refine ⟨.inl ee, (X1.1, X1.2.1, z_u3 X1.2.2 0 g'), ee, z_uR m1 1 s', ?_, ?_, r3.nw (by omega) ⟨n, P, T', J', e5, by omega⟩, Or.inl ⟨rfl, by rw [m_other _ _ (by decide : (0 : Nat) ≠ 1)]; exact r6⟩⟩
    · rw [e, m_hasY hrs.gn h16 hq, m_bind, if_neg m_1_0, r1, m_bind, r4, ← e, e3, m_b2, m_lt]
    · rw [e, m_ioY hrs.sn h16 hq, m_bind, if_neg m_1_0, m_lt, m_kd, if_pos m_z0, r2, m_bind, ← e, e4, m_b2]
  · refine ⟨.inr 3, X, 0, z_u2 m 0 0 1, ?_, ?_, (h.kd 1).mono (by omega), Or.inr ⟨rfl, m_kd m 1⟩⟩
    · rw [m_hasN hrs.gn hx, m_bind, if_pos m_00]
    · rw [m_ioN hrs.sn h16 hx, m_bind, if_pos m_00, m_lt, m_kd, if_neg m_n1]
theorem c_lay (h : RG B X m) (hN : 13000 ≤ N) (hN2 : N < 2 ^ 31) : ∃ b X' m', fX4_lay N X = some (b, X') ∧ fX5_lay N m = some (b, m') ∧ RG (B + 5000) X' m' := by
  obtain ⟨ht, ⟨n, P, T, J, hrs, hT⟩, hme, hsl⟩ := id h
  obtain ⟨X1, m1, r1, r2, r3, r4, r5, r6⟩ := m_remember (N := N) (h.kd 0) hN hN2
  rw [m_kd1 m 0 (by decide)] at r5
  obtain ⟨g', s', sum, e1, e2, e3, -⟩ := m_layAll (N := N) (m := m1) hrs ⟨trivial, trivial, trivial, trivial, trivial⟩ (fun _ => trivial) (by omega)
  rw [show z_uR m1 1 (m 1) = m1 by rw [← r5, m_self]] at e2
  refine ⟨sum, (X1.1, X1.2.1, z_u3 X1.2.2 0 g'), z_uR m1 1 s', ?_, ?_, r3.nw (by omega) ⟨n, P, T, J, e3, by omega⟩⟩
  · unfold fX4_lay
    rw [r1, m_bind, r4, e1, m_b2, m_lt]
  · unfold fX5_lay
    rw [m_lt, r2, m_bind, e2, m_b2]
theorem m_tu {x : Int32} (hx : x < 1 ∨ 99 < x) : fX4_isTurn N x = some 0 ∧ fX5_within N x 1 99 = some 0 := by
  refine ⟨?_, by rw [m_within, if_pos hx]⟩
  unfold fX4_isTurn
  rcases hx with h | h
  · rw [if_pos h]
  · by_cases c : x < 1
    · rw [if_pos c]
    · rw [if_neg c, if_pos h]
theorem m_rg {lo hi : Nat} (hl : lo ≤ hi) (hh : hi < 2 ^ 30) (x : Int32) : (x < nI lo ∨ nI hi < x) ∨ ∃ k, lo ≤ k ∧ k ≤ hi ∧ x = nI k := by
  rcases m_ix x (n := hi + 1) (by omega) with h | h | ⟨k, hk, e⟩
  · refine Or.inl (Or.inl ?_)
    rw [m_lt0] at h
    rw [Int32.lt_iff_toInt_lt, nI_toInt (by omega)]
    omega
  · refine Or.inl (Or.inr ?_)
    rw [Int32.lt_iff_toInt_lt, nI_toInt (by omega)]
    rw [Int32.le_iff_toInt_le, nI_toInt (by omega)] at h
    omega
  · by_cases c : lo ≤ k
    · exact Or.inr ⟨k, c, by omega, e⟩
    · refine Or.inl (Or.inl ?_)
      rw [e]
      exact nI_lt (by omega) (by omega)

theorem m_tuY {k : Nat} (h1 : 1 ≤ k) (h9 : k ≤ 99) : fX4_isTurn N (nI k) = some 1 ∧ fX5_within N (nI k) 1 99 = some 1 := by
  have a1 : ¬ nI k < (1 : Int32) := nI_nlt (b := 1) h1 (by omega)
  have a2 : ¬ (99 : Int32) < nI k := m_nlt99 h9
  refine ⟨?_, by rw [m_within, if_neg (fun q => q.elim a1 a2)]⟩
  unfold fX4_isTurn
  rw [if_neg a1, if_neg a2]
theorem m_auN {x : Int32} (hx : x < 0 ∨ nI 4 ≤ x) : fX4_isAuthor N x = some 0 := by
  unfold fX4_isAuthor
  rcases hx with h | h
  · rw [if_pos h]
  · by_cases c : x < 0
    · rw [if_pos c]
    · rw [if_neg c, if_pos (show (4 : Int32) ≤ x from h)]
theorem m_au (x : Int32) : (fX4_isAuthor N x = some 1 ∧ fX5_isAuthor N x = some 1 ∧ ∃ a, a < 4 ∧ x = nI a) ∨ (fX4_isAuthor N x = some 0 ∧ fX5_isAuthor N x = some 0) := by
  have e3 : (3 : Int32) = nI 4 - 1 := by decide
  unfold fX5_isAuthor
  rw [e3]
  rcases m_cs x (n := 4) (by decide) with ⟨a, ha, rfl⟩ | ⟨hx, -⟩
  · exact Or.inl ⟨m_auY ha, by rw [m_wiY (by decide) ha, m_bind, m_b1, m_ckt], a, ha, rfl⟩
  · exact Or.inr ⟨m_auN hx, by rw [m_wiN (by decide) hx, m_bind, m_b0, m_ckt]⟩
theorem m_wk (x : Int32) : (fX4_isWork N x = some 1 ∧ fX5_within N x 1 9 = some 1 ∧ ∃ w, 1 ≤ w ∧ w ≤ 9 ∧ x = nI w) ∨ (fX4_isWork N x = some 0 ∧ fX5_within N x 1 9 = some 0) := by
  unfold fX4_isWork
  rcases m_rg (lo := 1) (hi := 9) (by decide) (by decide) x with h | ⟨k, h1, h9, rfl⟩
  · have h : x < 1 ∨ 9 < x := h
    refine Or.inr ⟨?_, by rw [m_within, if_pos h]⟩
    by_cases c : x < 1
    · rw [if_pos c]
    · rw [if_neg c, if_pos (h.resolve_left c)]
  · have a1 : ¬ nI k < (1 : Int32) := nI_nlt (b := 1) h1 (by omega)
    have a2 : ¬ (9 : Int32) < nI k := nI_nlt (b := k) (a := 9) h9 (by decide)
    exact Or.inl ⟨by rw [if_neg a1, if_neg a2], by rw [m_within, if_neg (fun q => q.elim a1 a2)], k, h1, h9, rfl⟩
theorem m_br (x : Int32) : (fX4_isBribe N x = some 1 ∧ fX5_within N x 0 99 = some 1 ∧ ∃ b, b ≤ 99 ∧ x = nI b) ∨ (fX4_isBribe N x = some 0 ∧ fX5_within N x 0 99 = some 0) := by
  unfold fX4_isBribe
  rcases m_rg (lo := 0) (hi := 99) (by decide) (by decide) x with h | ⟨k, h1, h9, rfl⟩
  · have h : x < 0 ∨ 99 < x := h
    refine Or.inr ⟨?_, by rw [m_within, if_pos h]⟩
    by_cases c : x < 0
    · rw [if_pos c]
    · rw [if_neg c, if_pos (h.resolve_left c)]
  · have a1 : ¬ nI k < (0 : Int32) := m_neg (by omega)
    have a2 : ¬ (99 : Int32) < nI k := m_nlt99 h9
    exact Or.inl ⟨by rw [if_neg a1, if_neg a2], by rw [m_within, if_neg (fun q => q.elim a1 a2)], k, h9, rfl⟩
theorem m_lk (x : Int32) : (fX4_isLink N x = some 1 ∧ fX5_within N x (-1) 15 = some 1 ∧ (x = -1 ∨ ∃ k, k < 16 ∧ x = nI k)) ∨ (fX4_isLink N x = some 0 ∧ fX5_within N x (-1) 15 = some 0) := by
  unfold fX4_isLink
  by_cases e : x = -1
  · subst e
    exact Or.inl ⟨if_pos rfl, by rw [m_within, if_neg (by decide)], Or.inl rfl⟩
  · rw [if_neg e]
    rcases m_cs x (n := 16) (by decide) with ⟨k, hk, rfl⟩ | ⟨hx, -⟩
    · have a1 : ¬ nI k < (-1 : Int32) := by
        rw [Int32.lt_iff_toInt_lt, nI_toInt (by omega), m_ne1]; omega
      have a2 : ¬ (15 : Int32) < nI k := nI_nlt (b := k) (a := 15) (by omega) (by decide)
      exact Or.inl ⟨by rw [if_neg (m_neg (by omega)), if_neg (m_ge16 hk)], by rw [m_within, if_neg (fun q => q.elim a1 a2)], Or.inr ⟨k, hk, rfl⟩⟩
    · refine Or.inr ⟨?_, ?_⟩
      · by_cases c : x < 0
        · rw [if_pos c]
        · rw [if_neg c, if_pos (show (16 : Int32) ≤ x from hx.resolve_left c)]
      · rw [m_within, if_pos]
        rcases hx with h | h
        · refine Or.inl ?_
          rw [m_lt0] at h
          rw [Int32.lt_iff_toInt_lt, m_ne1]
          have : x.toInt ≠ -1 := fun q => e (Int32.toInt_inj.mp (q.trans m_ne1.symm))
          omega
        · refine Or.inr ?_
          rw [Int32.le_iff_toInt_le, nI_toInt (by decide)] at h
          rw [Int32.lt_iff_toInt_lt, show (15 : Int32).toInt = 15 from by decide]
          omega
theorem m_num (w v : Int32) : (fX4_isNumberOfOrder N w v = some 1 ∧ fX5_isInRange N w v = some 1 ∧ ∃ k, k < 5 ∧ w = nI k ∧ ∀ P, m_Vd P (k + 1) v) ∨ (fX4_isNumberOfOrder N w v = some 0 ∧ fX5_isInRange N w v = some 0) := by
  unfold fX4_isNumberOfOrder fX5_isInRange
  by_cases c0 : w = 0
  · simp only [if_pos c0]
    rcases m_au (N := N) v with ⟨a, b, q⟩ | ⟨a, b⟩
    · refine Or.inl ⟨by rw [a, m_bind, m_b1, m_ckt], by rw [b, m_bind, m_b1, m_ckt], 0, by decide, c0, fun P => ?_⟩
      refine ⟨fun _ => q, ?_, ?_, ?_, ?_⟩ <;> intro e <;> omega
    · exact Or.inr ⟨by rw [a, m_bind, m_b0, m_ckt], by rw [b, m_bind, m_b0, m_ckt]⟩
  simp only [if_neg c0]
  by_cases c1 : w = 1
  · simp only [if_pos c1]
    rcases m_wk (N := N) v with ⟨a, b, q⟩ | ⟨a, b⟩
    · refine Or.inl ⟨by rw [a, m_bind, m_b1, m_ckt], by rw [b, m_bind, m_b1, m_ckt], 1, by decide, c1, fun P => ?_⟩
      refine ⟨?_, fun _ => q, ?_, ?_, ?_⟩ <;> intro e <;> omega
    · exact Or.inr ⟨by rw [a, m_bind, m_b0, m_ckt], by rw [b, m_bind, m_b0, m_ckt]⟩
  simp only [if_neg c1]
  by_cases c2 : w = 2
  · simp only [if_pos c2]
    rcases m_lk (N := N) v with ⟨a, b, q⟩ | ⟨a, b⟩
    · refine Or.inl ⟨by rw [a, m_bind, m_b1, m_ckt], by rw [b, m_bind, m_b1, m_ckt], 2, by decide, c2, fun P => ?_⟩
      refine ⟨?_, ?_, fun _ => q, ?_, ?_⟩ <;> intro e <;> omega
    · exact Or.inr ⟨by rw [a, m_bind, m_b0, m_ckt], by rw [b, m_bind, m_b0, m_ckt]⟩
  simp only [if_neg c2]
  by_cases c3 : w = 3
  · simp only [if_pos c3]
    rcases m_lk (N := N) v with ⟨a, b, q⟩ | ⟨a, b⟩
    · refine Or.inl ⟨by rw [a, m_bind, m_b1, m_ckt], by rw [b, m_bind, m_b1, m_ckt], 3, by decide, c3, fun P => ?_⟩
      refine ⟨?_, ?_, fun _ => q, ?_, ?_⟩ <;> intro e <;> omega
    · exact Or.inr ⟨by rw [a, m_bind, m_b0, m_ckt], by rw [b, m_bind, m_b0, m_ckt]⟩
  simp only [if_neg c3]
  by_cases c4 : w = 4
  · simp only [if_pos c4]
    rcases m_br (N := N) v with ⟨a, b, q⟩ | ⟨a, b⟩
    · refine Or.inl ⟨by rw [a, m_bind, m_b1, m_ckt], by rw [b, m_bind, m_b1, m_ckt], 4, by decide, c4, fun P => ?_⟩
      refine ⟨?_, ?_, ?_, fun _ => q, ?_⟩ <;> intro e <;> omega
    · exact Or.inr ⟨by rw [a, m_bind, m_b0, m_ckt], by rw [b, m_bind, m_b0, m_ckt]⟩
  rw [if_neg c4, if_neg c4]
  exact Or.inr ⟨rfl, rfl⟩
theorem m_repl {g : z_R} {k o : Nat} (hk : k < 5) (ho : o < 16) (v : Int32) : fX2_replace N (nI o) (nI k) v g = some (g (k + 1) o, z_u2 g (k + 1) o v) := by
  have a1 : ¬ nI o < 0 := m_neg (by omega)
  have a2 : nI o < (16 : Int32) := nI_lt (b := 16) ho (by decide)
  have i1 : z_in (nI o) 16 = true := m_in ho (by decide)
  have c1 : (nI o).toNatClampNeg = o := m_clamp (by omega)
  have hrow : fX2_changeableRow N (nI k) g = some (k + 1) := by
    rcases (show k = 0 ∨ k = 1 ∨ k = 2 ∨ k = 3 ∨ k = 4 by omega) with e | e | e | e | e <;> subst e <;> rfl
  unfold fX2_replace
  rw [hrow, m_bind]
  simp only [if_neg a1, if_pos a2, i1, m_ckt, c1, m_lt]
  rcases (show k = 0 ∨ k = 1 ∨ k = 2 ∨ k = 3 ∨ k = 4 by omega) with e | e | e | e | e <;> subst e <;> rfl
/-- a number of an order is changed -/
theorem RS.ch {E : Nat → Prop} {n P T J k o : Nat} {g : z_R} {s : Nat → Int32} {v : Int32} (h : RS E n P T J g s) (hk : k < 5) (ho : o < n) (hv : ∀ P, m_Vd P (k + 1) v) : RS E n P T J (z_u2 g (k + 1) o v) (upd s (12 + 9 * o + (k + 1)) v) := h.part ho (by omega) (by omega) (hv P) (fun e => by omega)
theorem c_change (h : RG B X m) (hN : 13000 ≤ N) (hN2 : N < 2 ^ 31) (x w v : Int32) : ∃ o X' b m', fX4_change N x w v X = some (o, X') ∧ fX5_change N x w v m = some (b, m') ∧ RG (B + 5000) X' m' ∧ ((o = .inl b ∧ m' 0 0 = 0) ∨ (o = .inr 3 ∧ m' 0 0 = 1) ∨ (o = .inr 1 ∧ m' 0 0 = 2)) := by
  obtain ⟨ht, ⟨n, P, T, J, hrs, hT⟩, hme, hsl⟩ := id h
  have h16 := hrs.n16
  unfold fX4_change fX5_change
  rcases m_cs x (n := n) (by omega) with ⟨q, hq, rfl⟩ | ⟨hx, -⟩
  · rw [m_hasY hrs.gn h16 hq, m_bind, if_neg m_1_0, m_ioY hrs.sn h16 hq, m_bind, if_neg m_1_0]
    rcases m_num (N := N) w v with ⟨a1, a2, k, hk, rfl, hv⟩ | ⟨a1, a2⟩
    · obtain ⟨X1, m1, r1, r2, r3, r4, r5, r6⟩ := m_remember (N := N) (h.kd 0) hN hN2
      rw [m_kd] at r6
      rw [m_kd1 m 0 (by decide)] at r5
      have hr2 := hrs.ch hk hq hv
      refine ⟨.inl (X.2.2 0 (k + 1) q), (X1.1, X1.2.1, z_u3 X1.2.2 0 (z_u2 (X.2.2 0) (k + 1) q v)), X.2.2 0 (k + 1) q, z_uR m1 1 (upd (m 1) (12 + 9 * q + (k + 1)) v), ?_, ?_, r3.nw (by omega) ⟨n, P, T, J, hr2, by omega⟩, Or.inl ⟨rfl, by rw [m_other _ _ (by decide : (0 : Nat) ≠ 1)]; exact r6⟩⟩
      · rw [a1, m_bind, if_neg m_1_0, r1, m_bind, r4, m_repl hk (by omega), m_b2, m_lt]
      · rw [a2, m_bind, if_neg m_1_0, m_lt, m_kd, if_pos m_z0, r2, m_bind, m_part (p := nI k) (k := k) (r := k + 1) rfl rfl (by omega) (by omega), m_bind, show m1 = z_uR m1 1 (m 1) by rw [← r5, m_self], m_setP (p := nI k) (k := k) (r := k + 1) rfl rfl (by omega) (by omega), m_bind, m_same, hrs.or hq (by omega) (by omega) trivial]
        rw [← r5, m_self]
    · refine ⟨.inr 1, X, 0, z_u2 m 0 0 2, ?_, ?_, (h.kd 2).mono (by omega), Or.inr (Or.inr ⟨rfl, m_kd m 2⟩)⟩
      · rw [a1, m_bind, if_pos m_00]
      · rw [a2, m_bind, if_pos m_00, m_lt, m_kd, if_neg m_n2]
  · refine ⟨.inr 3, X, 0, z_u2 m 0 0 1, ?_, ?_, (h.kd 1).mono (by omega), Or.inr (Or.inl ⟨rfl, m_kd m 1⟩)⟩
    · rw [m_hasN hrs.gn hx, m_bind, if_pos m_00]
    · rw [m_ioN hrs.sn h16 hx, m_bind, if_pos m_00, m_lt, m_kd, if_neg m_n1]
end MR13
