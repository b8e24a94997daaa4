/-! bestPlace, leastBribe -/
section MR20
variable {N B : Nat} {X : z_X} {m : z_R}
theorem m_u2u (g : z_R) (r k : Nat) (v w : Int32) : z_u2 (z_u2 g r k v) r k w = z_u2 g r k w := by
  funext a
  by_cases c : a = r
  · subst c
    rw [m_u2s, m_u2s, m_u2s]
    funext j
    by_cases cj : j = k
    · subst cj; rw [m_us, m_us]
    · rw [m_un _ _ cj, m_un _ _ cj, m_un _ _ cj]
  · rw [m_u2n _ _ _ c, m_u2n _ _ _ c, m_u2n _ _ _ c]
theorem m_uu (f : Nat → Int32) (k : Nat) (v w : Int32) : upd (upd f k v) k w = upd f k w := by
  funext j
  by_cases cj : j = k
  · subst cj; rw [m_us, m_us]
  · rw [m_un _ _ cj, m_un _ _ cj, m_un _ _ cj]
/-- what the search for the best place keeps -/
def m_BI (B : Nat) (X0 : z_X) (m0 : z_R) (X : z_X) (m : z_R) : Prop := X.1 = X0.1 ∧ X.2.1 = X0.2.1 ∧ (∀ k, k = 0 ∨ 3 ≤ k → X.2.2 k = X0.2.2 k) ∧ (∀ k, k < 925 → m 1 k = m0 1 k) ∧ (∀ r, 3 ≤ r → m r = m0 r) ∧ ∀ k, k ≠ 3 → m 0 k = m0 0 k
theorem m_bpL {n P T J o : Nat} {X0 : z_X} {m0 : z_R} (h : RG B X0 m0) (hrs : RS m_Al n P T J (X0.2.2 0) (m0 1)) (hT : T + 4900 < 2 ^ 30) (hN : 13000 ≤ N) (hN2 : N < 2 ^ 31) (ho : o < n) (x2 : Int32) : ∀ (k i fu fv : Nat) (best least : Int32) (X : z_X) (m : z_R), i + k = P → k < fu → k < fv → m_BI B X0 m0 X m → (∀ v p, p < P → v = nI p → (∀ u, u < n → u ≠ o → X0.2.2 0 6 u ≠ v) → RS m_Al n P T J (z_u2 (X.2.2 1) 6 o v) (upd (m0 1) (12 + 9 * o + 6) v)) → ∃ b X' m', lX4_bestPlace_51 N (nI o) x2 fu best least (nI i) X = some (.inl b, X') ∧ lX5_bestPlace_50 N (nI o) x2 (X0.2.2 0 6 o) fv best least (nI i) m = some (b, m') ∧ m_BI B X0 m0 X' m' := by
  have h16 := hrs.n16
  have hP4 := hrs.P40
  intro k
  induction k with
  | zero =>
    intro i fu fv best least X m hi hfu hfv hb ht
    obtain ⟨fu, rfl⟩ : ∃ q, fu = q + 1 := ⟨fu - 1, by omega⟩
    obtain ⟨fv, rfl⟩ : ∃ q, fv = q + 1 := ⟨fv - 1, by omega⟩
    have e : i = P := by omega
    subst e
    refine ⟨best, X, m, ?_, ?_, hb⟩
    · rw [lX4_bestPlace_51.eq_2, hb.2.2.1 0 (Or.inl rfl), hrs.gP, if_pos (nI_le (Nat.le_refl i) (by omega))]
    · rw [lX5_bestPlace_50.eq_2, m_t0, hb.2.2.2.1 0 (by decide), hrs.sP, if_pos (nI_le (Nat.le_refl i) (by omega))]
  | succ k ih =>
    intro i fu fv best least X m hi hfu hfv hb ht
    obtain ⟨fu, rfl⟩ : ∃ q, fu = q + 1 := ⟨fu - 1, by omega⟩
    obtain ⟨fv, rfl⟩ : ∃ q, fv = q + 1 := ⟨fv - 1, by omega⟩
    have hin : i < P := by omega
    obtain ⟨b1, b2, b3, b4, b5, b6⟩ := id hb
    have hrs1 : RS m_Al n P T J (X0.2.2 0) (m 1) := hrs.ag b4
    obtain ⟨r, a1, a2, a3⟩ := m_on2 (N := N) (m := m) hrs1 trivial (by omega) (p := nI i) (m_nN i (by omega))
    rw [m_self] at a2
    -- the place is free for o, or not
    have cls : lX4_bestPlace_51 N (nI o) x2 (fu + 1) best least (nI i) X = (fX2_isFreeFor N (nI o) (nI i) (X0.2.2 0)).bind fun r8 => (if r8 = 0 then (lX4_bestPlace_51 N (nI o) x2 fu best least (nI (i + 1)) X) else z_b2 (fX4_ticksOfRun N 1 x2 (X.1, X.2.1, z_u3 X.2.2 1 (z_u2 (X.2.2 1) 6 o (nI i)))) fun r12 X12 => (if best = (-1 : Int32) then (lX4_bestPlace_51 N (nI o) x2 fu (nI i) r12 (nI (i + 1)) X12) else (if least ≤ r12 then (lX4_bestPlace_51 N (nI o) x2 fu best least (nI (i + 1)) X12) else (lX4_bestPlace_51 N (nI o) x2 fu (nI i) r12 (nI (i + 1)) X12)))) := by
      rw [lX4_bestPlace_51.eq_2, b3 0 (Or.inl rfl), hrs.gP, if_neg (nI_ge hin (by omega)), m_in (show o < 16 by omega) (by decide), m_clamp (by omega), nI_1]
      rfl
    have tak : (∀ u, u < n → u ≠ o → X0.2.2 0 6 u ≠ nI i) → fX2_isFreeFor N (nI o) (nI i) (X0.2.2 0) = some 1 → ((fX5_setPart N (nI o) (5 : Int32) (nI i) m).bind fun g9 => z_b2 (fX5_ticksOf N x2 g9) fun r10 g10 => (fX5_setPart N (nI o) (5 : Int32) (X0.2.2 0 6 o) g10).bind fun g11 => (if best = (-1 : Int32) then (lX5_bestPlace_50 N (nI o) x2 (X0.2.2 0 6 o) fv (nI i) r10 (nI i + (1 : Int32)) g11) else (if least ≤ r10 then (lX5_bestPlace_50 N (nI o) x2 (X0.2.2 0 6 o) fv best least (nI i + (1 : Int32)) g11) else (lX5_bestPlace_50 N (nI o) x2 (X0.2.2 0 6 o) fv (nI i) r10 (nI i + (1 : Int32)) g11)))) = lX5_bestPlace_50 N (nI o) x2 (X0.2.2 0 6 o) (fv + 1) best least (nI i) m → ∃ b X' m', lX4_bestPlace_51 N (nI o) x2 (fu + 1) best least (nI i) X = some (.inl b, X') ∧ lX5_bestPlace_50 N (nI o) x2 (X0.2.2 0 6 o) (fv + 1) best least (nI i) m = some (b, m') ∧ m_BI B X0 m0 X' m' := by
      intro hfree hf hm
      obtain ⟨X1, hX1⟩ : ∃ X1 : z_X, X1 = (X.1, X.2.1, z_u3 X.2.2 1 (z_u2 (X.2.2 1) 6 o (nI i))) := ⟨_, rfl⟩
      have hr1 : RS m_Al n P T J (X1.2.2 1) (upd (m 1) (12 + 9 * o + 6) (nI i)) := by
        rw [hX1]
        dsimp only
        rw [m_u3s]
        refine (ht (nI i) i hin rfl hfree).ag (fun q hq => ?_)
        by_cases c : q = 12 + 9 * o + 6
        · subst c; rw [m_us, m_us]
        · rw [m_un _ _ c, m_un _ _ c]; exact b4 q hq
      obtain ⟨T', ee, g', m', t1, t2, t3, t4, -, -, t7, t8, t9⟩ := m_ticks (N := N) (X := X1) (j := 1) (m := z_uR m 1 (upd (m 1) (12 + 9 * o + 6) (nI i))) hr1 (m_same _ _ _) (by decide) hT hN hN2 x2
      have s1 : fX5_setPart N (nI o) 5 (nI i) m = some (z_uR m 1 (upd (m 1) (12 + 9 * o + 6) (nI i))) := by
        have q := m_setP (N := N) (m := m) (s := m 1) (j := o) (v := nI i) (p := 5) (k := 5) (r := 6) rfl rfl (by omega) (by decide)
        rw [m_self] at q
        exact q
      have s2 : fX5_setPart N (nI o) 5 (X0.2.2 0 6 o) m' = some (z_uR m' 1 (upd (m' 1) (12 + 9 * o + 6) (X0.2.2 0 6 o))) := by
        have q := m_setP (N := N) (m := m') (s := m' 1) (j := o) (v := X0.2.2 0 6 o) (p := 5) (k := 5) (r := 6) rfl rfl (by omega) (by decide)
        rw [m_self] at q
        exact q
      have hb' : m_BI B X0 m0 (X1.1, X1.2.1, z_u3 X1.2.2 2 g') (z_uR m' 1 (upd (m' 1) (12 + 9 * o + 6) (X0.2.2 0 6 o))) := by
        refine ⟨by rw [hX1]; exact b1, by rw [hX1]; exact b2, fun k hk => ?_, fun k hk => ?_, fun r hr => ?_, fun k hk => ?_⟩
        · dsimp only
          rw [m_u3n _ _ (by omega), hX1]
          dsimp only
          rw [m_u3n _ _ (by omega)]
          exact b3 k hk
        · rw [m_same]
          by_cases c : k = 12 + 9 * o + 6
          · subst c
            rw [m_us]
            exact (hrs.or ho (by decide) (by decide) trivial).symm
          · rw [m_un _ _ c, t7 k hk, m_same, m_un _ _ c]
            exact b4 k hk
        · rw [m_other _ _ (by omega), t8 r hr, m_other _ _ (by omega)]
          exact b5 r hr
        · rw [m_other _ _ (by decide), t9 k hk, m_other _ _ (by decide)]
          exact b6 k hk
      have ht' : ∀ v p, p < P → v = nI p → (∀ u, u < n → u ≠ o → X0.2.2 0 6 u ≠ v) → RS m_Al n P T J (z_u2 (((X1.1, X1.2.1, z_u3 X1.2.2 2 g') : z_X).2.2 1) 6 o v) (upd (m0 1) (12 + 9 * o + 6) v) := by
        intro v p hp hv hf2
        dsimp only
        rw [m_u3n _ _ (by decide), hX1]
        dsimp only
        rw [m_u3s, m_u2u]
        exact ht v p hp hv hf2
      have step := fun (bb ll : Int32) => ih (i + 1) fu fv bb ll _ _ (by omega) (by omega) (by omega) hb' ht'
      rw [← hm, cls, hf, m_bind, if_neg m_1_0, ← hX1, t3, m_b2, s1, m_bind, t4, m_b2, s2, m_bind, nI_1]
      by_cases c1 : best = -1
      · rw [if_pos c1, if_pos c1]; exact step _ _
      · rw [if_neg c1, if_neg c1]
        by_cases c2 : least ≤ nI (T' - T)
        · rw [if_pos c2, if_pos c2]; exact step _ _
        · rw [if_neg c2, if_neg c2]; exact step _ _
    have mdl : lX5_bestPlace_50 N (nI o) x2 (X0.2.2 0 6 o) (fv + 1) best least (nI i) m = lX5_bestPlace_50 N (nI o) x2 (X0.2.2 0 6 o) (fv + 1) best least (nI i) m := rfl
    conv at mdl =>
      rhs
      rw [lX5_bestPlace_50.eq_2]
    rw [m_t0, b4 0 (by decide), hrs.sP, if_neg (nI_ge hin (by omega)), a2, m_bind] at mdl
    rcases a3 with ⟨e, hf⟩ | ⟨u, hu, e1, e2⟩
    · rw [if_pos e] at mdl
      refine tak (fun u hu _ => hf u hu) ?_ mdl.symm
      unfold fX2_isFreeFor
      rw [a1, m_bind, if_pos e]
    · rw [e2, if_neg (m_nN u (by omega))] at mdl
      by_cases c : u = o
      · subst c
        rw [if_pos e1.symm] at mdl
        refine tak (fun v hv hvu ev => ?_) ?_ mdl.symm
        · have := hrs.ap hv hu hvu (ev.trans e1.symm)
          rw [ev] at this
          exact m_nN i (by omega) this
        · unfold fX2_isFreeFor
          rw [a1, m_bind, e2, if_neg (m_nN u (by omega)), if_pos rfl]
      · have cn : ¬ nI i = X0.2.2 0 6 o := fun ev => by
          have := hrs.ap hu ho c (e1.trans ev)
          rw [e1] at this
          exact m_nN i (by omega) this
        rw [if_neg cn, nI_1] at mdl
        obtain ⟨b, X', m', p1, p2, p3⟩ := ih (i + 1) fu fv best least X m (by omega) (by omega) (by omega) hb ht
        refine ⟨b, X', m', ?_, mdl.trans p2, p3⟩
        have hf0 : fX2_isFreeFor N (nI o) (nI i) (X0.2.2 0) = some 0 := by
          unfold fX2_isFreeFor
          rw [a1, m_bind, e2, if_neg (m_nN u (by omega)), if_neg (fun q => c (m_nI_inj (by omega) (by omega) q))]
        rw [cls, hf0, m_bind, if_pos m_00]
        exact p1
theorem c_bestPlace (h : RG B X m) (hB : B + 5000 < 2 ^ 30) (hN : 13000 ≤ N) (hN2 : N < 2 ^ 31) (x y : Int32) : ∃ o X' b m', fX4_bestPlace N x y X = some (o, X') ∧ fX5_bestPlace N x y m = some (b, m') ∧ RG (B + 5000) X' m' ∧ ((o = .inl b ∧ m' 0 0 = 0) ∨ (o = .inr 3 ∧ m' 0 0 = 1)) := by
  obtain ⟨ht, ⟨n, P, T, J, hrs, hT⟩, hme, hsl⟩ := id h
  have h16 := hrs.n16
  have hP4 := hrs.P40
  unfold fX4_bestPlace fX5_bestPlace
  rcases m_cs x (n := n) (by omega) with ⟨o, ho, rfl⟩ | ⟨hx, -⟩
  · rcases m_cs y (n := n) (by omega) with ⟨q, hq, rfl⟩ | ⟨hy, -⟩
    · rw [m_hasY hrs.gn h16 ho, m_bind, if_neg m_1_0, m_hasY hrs.gn h16 hq, m_bind, if_neg m_1_0, m_ioY hrs.sn h16 ho, m_bind, if_neg m_1_0, m_ioY hrs.sn h16 hq, m_bind, if_neg m_1_0, m_lt, m_kd, if_pos m_z0, m_part (p := 5) (k := 5) (r := 6) rfl rfl (by omega) (by decide), m_bind, m_kd1 m 0 (by decide), hrs.or ho (by decide) (by decide) trivial]
      obtain ⟨u, u1, u2⟩ := m_copyC (N := N) hrs (by omega) hN2 (X.2.2 1)
      have hu := u2 (s'' := m 1) hrs (fun _ _ => rfl)
      rw [u1, m_bind, m_lt]
      have h0 : RG B X (z_u2 m 0 0 0) := h.kd 0
      have hrs0 : RS m_Al n P T J (X.2.2 0) (z_u2 m 0 0 0 1) := by rw [m_kd1 m 0 (by decide)]; exact hrs
      obtain ⟨b, X', m', p1, p2, p3⟩ := m_bpL (N := N) h0 hrs0 (by omega) hN hN2 ho (nI q) P 0 N N (-1) 0 (X.1, X.2.1, z_u3 X.2.2 1 u) (z_u2 m 0 0 0) (by omega) (by omega) (by omega) ⟨rfl, rfl, fun k hk => m_u3n _ _ (by omega), fun _ _ => rfl, fun _ _ => rfl, fun _ _ => rfl⟩ (fun v p hp hv hf => by
        dsimp only
        rw [m_u3s, m_kd1 m 0 (by decide)]
        refine hu.part ho (by decide) (by decide) (m_Vd6 (Or.inr ⟨p, hp, hv⟩)) (fun _ => Or.inr fun w hw hwo => ?_)
        have e1 := hu.or hw (r := 6) (by decide) (by decide) trivial
        have e2 := hrs.or hw (r := 6) (by decide) (by decide) trivial
        rw [← e1, e2]
        exact hf w hw hwo)
      obtain ⟨q1, q2, q3, q4, q5, q6⟩ := p3
      refine ⟨.inl b, X', b, m', p1, p2, RG.mono (h0.tk q1 q2 q3 q4 ⟨q5 5 (by decide), q5 6 (by decide), q5 7 (by decide), q5 8 (by decide)⟩ ⟨q6 1 (by decide), q6 2 (by decide)⟩) (by omega), Or.inl ⟨rfl, ?_⟩⟩
      rw [q6 0 (by decide), m_kd]
    · refine ⟨.inr 3, X, 0, z_u2 m 0 0 1, ?_, ?_, (h.kd 1).mono (by omega), Or.inr ⟨rfl, m_kd m 1⟩⟩
      · rw [m_hasY hrs.gn h16 ho, m_bind, if_neg m_1_0, m_hasN hrs.gn hy, m_bind, if_pos m_00]
      · rw [m_ioY hrs.sn h16 ho, m_bind, if_neg m_1_0, m_ioN hrs.sn h16 hy, m_bind, if_pos m_00, m_lt, m_kd, if_neg m_n1]
  · refine ⟨.inr 3, X, 0, z_u2 m 0 0 1, ?_, ?_, (h.kd 1).mono (by omega), Or.inr ⟨rfl, m_kd m 1⟩⟩
    · rw [m_hasN hrs.gn hx, m_bind, if_pos m_00]
    · rw [m_ioN hrs.sn h16 hx, m_bind, if_pos m_00, m_lt, m_kd, if_neg m_n1]
end MR20
