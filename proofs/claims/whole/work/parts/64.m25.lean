/-! simulate -/
section MR25
variable {N : Nat} {X X0 : z_X} {m m0 : z_R}
theorem m_rnd (y : Int64) : ∃ k, k < 2 ^ 31 ∧ ((y.toUInt64 >>> (((33 : Int32)).toInt64.toUInt64 &&& Int64.toUInt64 63)).toInt64).toInt32 = nI k := by
  rw [show (((33 : Int32)).toInt64.toUInt64 &&& Int64.toUInt64 63) = (33 : UInt64) from by decide]
  have h1 : (y.toUInt64 >>> (33 : UInt64)).toNat < 2 ^ 31 := by
    rw [UInt64.toNat_shiftRight, show ((33 : UInt64).toNat % 64) = 33 from by decide, Nat.shiftRight_eq_div_pow]
    have := y.toUInt64.toNat_lt
    omega
  refine ⟨(y.toUInt64 >>> (33 : UInt64)).toNat, h1, ?_⟩
  have e : ((y.toUInt64 >>> (33 : UInt64)).toInt64).toInt = ((y.toUInt64 >>> (33 : UInt64)).toNat : Int) := by
    show (y.toUInt64 >>> (33 : UInt64)).toBitVec.toInt = _
    rw [BitVec.toInt_eq_toNat_of_lt (by show 2 * (y.toUInt64 >>> (33 : UInt64)).toNat < 2 ^ 64; omega)]
    rfl
  apply Int32.toInt_inj.mp
  rw [Int64.toInt_toInt32, e, nI_toInt h1]
  exact Int.bmod_eq_of_le (by omega) (by omega)
/-- one simulated run, where there are orders -/
theorem m_simR {B n P T J : Nat} (h : m_TI B X0 m0 X m) (hrs : RS m_Al n P T J (X.2.2 1) (m 1)) (hT : T ≤ B) (hn : 0 < n) (hB : B + 5000 < 2 ^ 30) (hN : 13000 ≤ N) {q : Nat} (hq : q < 2 ^ 31) (F : Int32 → z_R → Option (Int32 × z_R)) : ∃ e X' m', fX4_simulateRun N (nI q) X = some (e, X') ∧ ((fX5_setPart N (((nI q) / (16 : Int32)) - ((nI q) / (16 : Int32)) / (m 1 2) * (m 1 2)) (4 : Int32) (((nI q) / (1024 : Int32)) - ((nI q) / (1024 : Int32)) / (100 : Int32) * (100 : Int32)) m).bind fun g9 => (if ((nI q) - (nI q) / (4 : Int32) * (4 : Int32)) = 0 then z_b2 (fX5_laid N g9) fun r14 g14 => z_ck (z_nz (g14 1 2)) <| z_b2 (fX5_runs N (((nI q) / (256 : Int32)) - ((nI q) / (256 : Int32)) / (g14 1 2) * (g14 1 2)) g14) fun r16 g16 => F r16 g16 else z_ck (z_nz (g9 1 2)) <| z_b2 (fX5_runs N (((nI q) / (256 : Int32)) - ((nI q) / (256 : Int32)) / (g9 1 2) * (g9 1 2)) g9) fun r12 g12 => F r12 g12)) = F e m' ∧ m_TI (B + 5000) X0 m0 X' m' := by
  have h16 := hrs.n16
  have d16 : nI q / (16 : Int32) = nI (q / 16) := pk_div (d := 16) hq (by decide) (by decide)
  have d1024 : nI q / (1024 : Int32) = nI (q / 1024) := pk_div (d := 1024) hq (by decide) (by decide)
  have d256 : nI q / (256 : Int32) = nI (q / 256) := pk_div (d := 256) hq (by decide) (by decide)
  have r100 : nI (q / 1024) - nI (q / 1024) / (100 : Int32) * (100 : Int32) = nI (q / 1024 % 100) := pk_rem (d := 100) (by omega) (by decide) (by decide)
  have rn : nI (q / 16) - nI (q / 16) / nI n * nI n = nI (q / 16 % n) := pk_rem (by omega) hn (by omega)
  have rn2 : nI (q / 256) - nI (q / 256) / nI n * nI n = nI (q / 256 % n) := pk_rem (by omega) hn (by omega)
  have ho : q / 16 % n < n := Nat.mod_lt _ hn
  have hv : q / 1024 % 100 < 100 := Nat.mod_lt _ (by decide)
  have hr1 := hrs.ch (k := 4) (o := q / 16 % n) (v := nI (q / 1024 % 100)) (by decide) ho (fun P => by
    refine ⟨?_, ?_, ?_, fun _ => ⟨_, by omega, rfl⟩, ?_⟩ <;> intro e <;> omega)
  have h1 : m_TI B X0 m0 _ _ := h.tr (g := z_u2 (X.2.2 1) 5 (q / 16 % n) (nI (q / 1024 % 100))) (s := upd (m 1) (12 + 9 * (q / 16 % n) + 5) (nI (q / 1024 % 100))) ⟨n, P, T, J, hr1, hT⟩
  have s1 : fX5_setPart N (nI (q / 16 % n)) 4 (nI (q / 1024 % 100)) m = some (z_uR m 1 (upd (m 1) (12 + 9 * (q / 16 % n) + 5) (nI (q / 1024 % 100)))) := by
    have q1 := m_setP (N := N) (m := m) (s := m 1) (j := q / 16 % n) (v := nI (q / 1024 % 100)) (p := 4) (k := 4) (r := 5) rfl rfl (by omega) (by decide)
    rw [m_self] at q1
    exact q1
  have rep : fX2_replace N (nI (q / 16 % n)) 4 (nI (q / 1024 % 100)) (X.2.2 1) = _ := m_repl (k := 4) (by decide) (by omega) _
  unfold fX4_simulateRun
  rw [hrs.gn, if_neg (show ¬ nI n < (1 : Int32) from nI_nlt (b := 1) (by omega) (by omega)), if_pos (nI_pos' hq), m_nz hn (by omega), m_ckt, d16, d1024, d256, r100, rn, rn2, rep, m_b2, m_lt, hrs.sn, rn, s1, m_bind]
  by_cases c : nI q - nI q / (4 : Int32) * (4 : Int32) = 0
  · obtain ⟨g', s', sum, l1, l2, l3, -⟩ := m_layAll (N := N) (m := m) hr1 ⟨trivial, trivial, trivial, trivial, trivial⟩ (fun _ => trivial) (by omega)
    obtain ⟨e, j, g2, s2, T', J', e1, e2, e3, e4, e5, e6, e7, -⟩ := m_runs (N := N) (m := m) l3 ⟨trivial, trivial, trivial, trivial, trivial, trivial, trivial⟩ (fun _ => trivial) (by omega) (by omega) (nI (q / 256 % n))
    have h2 := (h1.tr (B' := B) (g := g') (s := s') ⟨n, P, T, J, l3, hT⟩).tr (B' := B + 5000) (g := g2) (s := s2) ⟨n, P, T', J', e5, by omega⟩
    rw [if_pos c, if_pos c]
    refine ⟨e, _, _, ?_, ?_, h2⟩
    · (try dsimp only)
      rw [m_u3s, l1, m_b2, m_lt, m_ckt]
      (try dsimp only)
      rw [m_u3s, e3, m_b2, m_lt]
    · rw [l2, m_b2, m_same, l3.sn, m_nz hn (by omega), m_ckt, rn2, e4, m_b2, m_uR2, m_uR2]
  · obtain ⟨e, j, g2, s2, T', J', e1, e2, e3, e4, e5, e6, e7, -⟩ := m_runs (N := N) (m := m) hr1 ⟨trivial, trivial, trivial, trivial, trivial, trivial, trivial⟩ (fun _ => trivial) (by omega) (by omega) (nI (q / 256 % n))
    have h2 := h1.tr (B' := B + 5000) (g := g2) (s := s2) ⟨n, P, T', J', e5, by omega⟩
    rw [if_neg c, if_neg c]
    refine ⟨e, _, _, ?_, ?_, h2⟩
    · rw [m_ckt]
      (try dsimp only)
      rw [m_u3s, e3, m_b2, m_lt]
    · rw [m_same, show upd (m 1) (12 + 9 * (q / 16 % n) + 5) (nI (q / 1024 % 100)) 2 = nI n from hr1.sn, m_nz hn (by omega), m_ckt, rn2, e4, m_b2, m_uR2]
end MR25
