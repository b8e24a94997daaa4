/-! scripts -/
theorem m_cmpL {a b : Int64} : lg_cmp a b < 0 ↔ a < b := by
  unfold lg_cmp
  by_cases h1 : a > b
  · rw [if_pos h1]
    refine ⟨fun h => absurd h (by decide), fun h => ?_⟩
    have h1 : b < a := h1
    rw [Int64.lt_iff_toInt_lt] at h1 h
    omega
  · rw [if_neg h1]
    by_cases h2 : a = b
    · rw [if_pos h2]
      refine ⟨fun h => absurd h (by decide), fun h => ?_⟩
      rw [h2, Int64.lt_iff_toInt_lt] at h
      omega
    · rw [if_neg h2]
      refine ⟨fun _ => ?_, fun _ => by decide⟩
      have h1 : ¬ b < a := h1
      rw [Int64.lt_iff_toInt_lt] at h1 ⊢
      have : a.toInt ≠ b.toInt := fun e => h2 (Int64.toInt_inj.mp e)
      omega
theorem m_cmpG {a b : Int64} : 0 ≤ lg_cmp a b ↔ ¬ a < b := by
  rw [m_le0, m_cmpL]
theorem m_cmp0 {a : Int64} (h : 0 < a) : ¬ lg_cmp a 0 ≤ 0 := by
  unfold lg_cmp
  rw [if_pos (show a > 0 from h)]
  decide
theorem m_cmpE (a : Int64) : lg_cmp a a = 0 := by
  unfold lg_cmp
  rw [if_neg (fun h => by
    have h : a < a := h
    rw [Int64.lt_iff_toInt_lt] at h
    omega), if_pos rfl]
theorem m_lI {v : Nat} (h : v < 2 ^ 31) : (lN v).toInt32 = nI v := by
  apply Int32.toInt_inj.mp
  rw [Int64.toInt_toInt32, lN_toInt h, nI_toInt h]
  exact Int.bmod_eq_of_le (by omega) (by omega)
theorem m_nzL {k : Nat} (h0 : 0 < k) (hk : k < 2 ^ 63) : z_nzL (lN k) = true := by
  have h : ¬ lN k = 0 := fun e => by
    have := (pk_lEQ (a := k) (b := 0) hk (by decide)).mp e
    omega
  simp [z_nzL, h]
def m_s63 (s : Nat) : Prop := s < 2 ^ 63
def m_pw : Nat → Nat
  | 0 => 0
  | 1 => 1
  | 2 => 100000
  | _ => 10000000000
section MWL
variable {N : Nat}
theorem m_wlL {k : Nat} (hk : k ≤ 3) : ∀ (d i fu s : Nat), i + d = k → d < fu → m_s63 s → lX4_withoutLast_5 N (nI k) fu (lN s) (nI i) = some (lN (s / 100000 ^ d)) := by
  intro d
  induction d with
  | zero =>
    intro i fu s hi hfu hs
    obtain ⟨fu, rfl⟩ : ∃ q, fu = q + 1 := ⟨fu - 1, by omega⟩
    have e : i = k := by omega
    subst e
    rw [lX4_withoutLast_5.eq_2, if_pos (nI_le (Nat.le_refl i) (by omega)), Nat.pow_zero, Nat.div_one]
  | succ d ih =>
    intro i fu s hi hfu hs
    obtain ⟨fu, rfl⟩ : ∃ q, fu = q + 1 := ⟨fu - 1, by omega⟩
    have hik : i < k := by omega
    have h31 : k < 2 ^ 31 := by omega
    have hi1 : i + 1 + d = k := by omega
    have hf1 : d < fu := by omega
    have e5 : (100000 : Int64) = lN 100000 := by decide +kernel
    have hs1 : m_s63 (s / 100000) := Nat.lt_of_le_of_lt (Nat.div_le_self _ _) (show s < 2 ^ 63 from hs)
    rw [lX4_withoutLast_5.eq_2, if_neg (nI_ge hik h31), e5, pk_lDiv hs (by decide) (by decide), nI_1, ih (i + 1) fu (s / 100000) hi1 hf1 hs1, Nat.div_div_eq_div_mul, Nat.pow_succ']
/-- a script without its last commands -/
theorem m_wl {k s : Nat} (hk : k ≤ 3) (hN : 13000 ≤ N) (hs : m_s63 s) : fX4_withoutLast N (nI k) (lN s) = some (lN (s / 100000 ^ k)) := by
  unfold fX4_withoutLast
  exact m_wlL hk k 0 N s (by omega) (by omega) hs
end MWL
section MR27
variable {N : Nat} {X X0 : z_X} {m m0 : z_R}
set_option maxRecDepth 8000 in
theorem m_scL (hN : 13000 ≤ N) (hN2 : N < 2 ^ 31) {M B s : Nat} (hM : M ≤ 3) (hs : m_s63 s) (hB : B + 5000 * 4 < 2 ^ 30) (kk : Int32 → z_R → Option (Int32 × z_R)) : ∀ (k i fu fv : Nat) (X : z_X) (m : z_R), i + k = M → k < fu → k < fv → m_TI (B + 5000 * i) X0 m0 X m → ∃ r X' m', lX4_runScript_51 N (nI M) (lN s) fu (nI i) X = some (.inl r, X') ∧ lX5_runScript_95 N (nI M) (lN s) kk fv (-1) (lN (m_pw k)) (nI i) m = kk r m' ∧ m_TI (B + 5000 * 4) X0 m0 X' m' := by
  intro k
  induction k with
  | zero =>
    intro i fu fv X m hi hfu hfv h
    obtain ⟨fu, rfl⟩ : ∃ q, fu = q + 1 := ⟨fu - 1, by omega⟩
    obtain ⟨fv, rfl⟩ : ∃ q, fv = q + 1 := ⟨fv - 1, by omega⟩
    have e : i = M := by omega
    subst e
    exact ⟨-1, X, m, by rw [lX4_runScript_51.eq_2, if_pos (nI_le (Nat.le_refl i) (by omega))], by rw [lX5_runScript_95.eq_2, if_pos (nI_le (Nat.le_refl i) (by omega))], h.mono (by omega)⟩
  | succ k ih =>
    intro i fu fv X m hi hfu hfv h
    obtain ⟨fu, rfl⟩ : ∃ q, fu = q + 1 := ⟨fu - 1, by omega⟩
    obtain ⟨fv, rfl⟩ : ∃ q, fv = q + 1 := ⟨fv - 1, by omega⟩
    have hi3 : i + 1 ≤ 4 := by clear hB hN hN2 hs h ih; omega
    have hi4 : B + 5000 * (i + 1) ≤ B + 5000 * 4 := Nat.add_le_add_left (Nat.mul_le_mul_left 5000 hi3) B
    have hi5 : i < M := by omega
    have hM31 : M < 2 ^ 31 := by omega
    have hi31 : i < 2 ^ 31 := by omega
    have hB2 : B + 5000 * i + 5000 < 2 ^ 30 := Nat.lt_of_le_of_lt (Nat.le_trans (Nat.le_of_eq (by rw [Nat.mul_add, Nat.mul_one, Nat.add_assoc])) hi4) hB
    have hi6 : B + 5000 * i + 5000 ≤ B + 5000 * (i + 1) := Nat.le_of_eq (by rw [Nat.mul_add, Nat.mul_one, Nat.add_assoc])
    have hi1 : i + 1 + k = M := by omega
    have hku : k < fu := by omega
    have hkv : k < fv := by omega
    have hp : 0 < m_pw (k + 1) ∧ m_pw (k + 1) < 2 ^ 63 ∧ m_pw (k + 1) / 100000 = m_pw k := by
      rcases (show k = 0 ∨ k = 1 ∨ k = 2 by omega) with e | e | e <;> subst e <;> decide +kernel
    have e5 : (100000 : Int64) = lN 100000 := by decide +kernel
    have d1 : lN s / lN (m_pw (k + 1)) = lN (s / m_pw (k + 1)) := pk_lDiv hs hp.1 hp.2.1
    have hd : s / m_pw (k + 1) < 2 ^ 63 := Nat.lt_of_le_of_lt (Nat.div_le_self _ _) (show s < 2 ^ 63 from hs)
    have d2 : lN (s / m_pw (k + 1)) - lN (s / m_pw (k + 1)) / lN 100000 * lN 100000 = lN (s / m_pw (k + 1) % 100000) := pk_lRem hd (by decide) (by decide)
    have d3 : lN (m_pw (k + 1)) / lN 100000 = lN (m_pw k) := by rw [pk_lDiv hp.2.1 (by decide) (by decide), hp.2.2]
    have hc : s / m_pw (k + 1) % 100000 < 100000 := Nat.mod_lt _ (by decide)
    have hpw : 100000 ^ k = m_pw (k + 1) := by
      rcases (show k = 0 ∨ k = 1 ∨ k = 2 by omega) with e | e | e <;> subst e <;> decide +kernel
    have hk3 : k ≤ 3 := by omega
    have hmi : nI M - 1 - nI i = nI k := by
      rw [show (1 : Int32) = nI 1 from rfl, pk_sub (show 1 ≤ M by omega), pk_sub (show i ≤ M - 1 by omega), show M - 1 - i = k by omega]
    have hwl : fX4_withoutLast N (nI k) (lN s) = some (lN (s / m_pw (k + 1))) := by rw [m_wl hk3 hN hs, hpw]
    obtain ⟨r, X', m', r1, r2, r3, r4⟩ := m_cmd (N := N) h hB2 hN hN2 hc
    have r4 : m_TI (B + 5000 * (i + 1)) X0 m0 X' m' := r4.mono hi6
    have r5 : m_TI (B + 5000 * 4) X0 m0 X' m' := r4.mono hi4
    rw [lX4_runScript_51.eq_2, if_neg (nI_ge hi5 hM31), hmi, hwl, m_bind, e5, d2, m_lI (Nat.lt_trans hc (by decide)), r2, m_b2, nI_1]
    rw [lX5_runScript_95.eq_2, if_neg (nI_ge hi5 hM31), if_pos rfl, m_nzL hp.1 hp.2.1, m_ckt, e5, d1, d2, d3, m_lI (Nat.lt_trans hc (by decide)), r3, m_b2, nI_1]
    rcases r1 with e | e <;> subst e
    · rw [if_pos m_00, if_pos m_00]
      refine ⟨nI i, X', m', rfl, ?_, r5⟩
      obtain ⟨fv, rfl⟩ : ∃ q, fv = q + 1 := ⟨fv - 1, (Nat.sub_add_cancel (Nat.lt_of_le_of_lt (Nat.zero_le k) hkv)).symm⟩
      rw [lX5_runScript_95.eq_2, if_neg (m_nN i hi31)]
      by_cases c : nI M ≤ nI (i + 1)
      · rw [if_pos c]
      · rw [if_neg c]
    · rw [if_neg m_1_0, if_neg m_1_0]
      exact ih (i + 1) fu fv X' m' hi1 hku hkv r4
end MR27
