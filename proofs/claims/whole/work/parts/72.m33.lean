/-! ring, the command -/
section MR33
variable {N B n P T J : Nat} {X : z_X} {g m : z_R} {s : Nat → Int32}
theorem m_itP {y : Int32} {r : Nat} (hr : m_it g r y = y) : ∀ k, m_it g (r * k) y = y := by
  intro k
  induction k with
  | zero => rfl
  | succ k ih => rw [Nat.mul_add, Nat.mul_one, m_itA, ih, hr]
theorem m_itC (i j : Nat) (y : Int32) : m_it g i (m_it g j y) = m_it g j (m_it g i y) := by
  rw [← m_itA, ← m_itA, Nat.add_comm]
theorem m_rn49 (h : RS m_Al n P T J g s) (hm : m 1 = s) {y : Int32} {r : Nat} (hv : ∀ j, m_vl n (m_it g j y)) (hr : m_it g r y = y) (hmin : ∀ j, 0 < j → j < r → m_it g j y ≠ y) : ∀ (d i fu : Nat), 0 < i → i + d = r → d < fu → lX5_ring_49 N y m fu (nI i) (m_it g i y) = some (nI r, m) := by
  have h16 := h.n16
  intro d
  induction d with
  | zero =>
    intro i fu h0 hi hfu
    obtain ⟨fu, rfl⟩ : ∃ q, fu = q + 1 := ⟨fu - 1, by omega⟩
    have e : i = r := by omega
    subst e
    rw [lX5_ring_49.eq_2, if_pos hr]
  | succ d ih =>
    intro i fu h0 hi hfu
    obtain ⟨fu, rfl⟩ : ∃ q, fu = q + 1 := ⟨fu - 1, by omega⟩
    obtain ⟨o, ho, eo⟩ := hv i
    have e2 : m_it g (i + 1) y = g 3 o := by
      show g 3 (m_it g i y).toNatClampNeg = _
      rw [eo, m_clamp (by omega)]
    have q := ih (i + 1) fu (by omega) (by omega) (by omega)
    rw [← q, lX5_ring_49.eq_2, if_neg (hmin i h0 (by omega)), eo, m_part (p := 2) (k := 2) (r := 3) rfl rfl (by omega) (by decide), m_bind, hm, h.or ho (by decide) (by decide) trivial, nI_1, e2]
theorem c_ring (h : RG B X m) (hN : 13000 ≤ N) (x : Int32) : ∃ o X' b m', fX4_ring N x X = some (o, X') ∧ fX5_ring N x m = some (b, m') ∧ RG (B + 5000) X' m' ∧ ((o = .inl b ∧ m' 0 0 = 0) ∨ (o = .inr 3 ∧ m' 0 0 = 1)) := by
  obtain ⟨ht, ⟨n, P, T, J, hrs, hT⟩, hme, hsl⟩ := id h
  have h16 := hrs.n16
  unfold fX4_ring fX5_ring
  rcases m_cs x (n := n) (by omega) with ⟨o, ho, e⟩ | ⟨hx, -⟩
  · obtain ⟨b, r', p1, p2, p3, p4⟩ := m_goY (N := N) (m := z_u2 m 0 0 0) hrs (m_kd1 m 0 (by decide)) x 16 0 N (m_zr (m 9) 16) (by decide) (by omega) (fun j hj => by omega) (fun j k hj hk => by omega) (fun q hq => Or.inl ⟨if_pos hq, fun j hj => by omega⟩)
    have e9 : z_u2 m 0 0 0 = z_uR (z_u2 m 0 0 0) 9 (m_zr (m 9) 0) := by
      have e0 : m_zr (m 9) 0 = z_u2 m 0 0 0 9 := by
        rw [m_kd1 m 0 (by decide)]
        funext j
        exact if_neg (Nat.not_lt_zero j)
      rw [e0, m_self]
    obtain ⟨m2, hm2⟩ : ∃ m2, m2 = z_uR (z_u2 m 0 0 0) 9 r' := ⟨_, rfl⟩
    have g2 : fX5_goAlong N x (z_u2 m 0 0 0) = (fX5_isOrder N (m_it (X.2.2 0) b x) m2).bind fun r10 => (if r10 = 0 then some ((-1 : Int32), m2) else some (m_it (X.2.2 0) b x, m2)) := by
      unfold fX5_goAlong
      have q := m_go2 (N := N) (m := z_u2 m 0 0 0) (m 9) x 16 0 N (by decide) (by omega)
      rw [← e9] at q
      rw [show lX5_goAlong_2 N x N 0 (z_u2 m 0 0 0) = _ from q, show x = m_it (X.2.2 0) 0 x from rfl, p1, hm2]
      rfl
    have hm21 : m2 1 = m 1 := by rw [hm2, m_other _ _ (by decide), m_kd1 m 0 (by decide)]
    have hs1 : m2 1 2 = nI n := by rw [hm21]; exact hrs.sn
    have hg : RG (B + 5000) X m2 := by
      rw [hm2]
      refine RG.mono ((h.kd 0).fr rfl rfl (fun _ _ => rfl) ⟨?_, ?_, ?_, ?_, ?_⟩ ⟨?_, ?_⟩) (by omega) <;> rw [m_other _ _ (by decide)]
    have hk0 : m2 0 0 = 0 := by rw [hm2, m_other _ _ (by decide), m_kd]
    obtain ⟨t, t1, t2, t3, t4⟩ := m_rgC (N := N) hrs x (fun x2_4 => (fX2_has N x2_4 (X.2.2 0)).bind fun r5 => (if r5 = 0 then some ((0 : Int32)) else (fX2_chainLength N x2_4 (X.2.2 0)).bind fun r7 => some (r7))) 16 0 N (by decide) (by omega) (fun j hj => by omega)
    have cls : fX2_ringLength N x (X.2.2 0) = (fX2_has N (m_it (X.2.2 0) t x) (X.2.2 0)).bind fun r5 => (if r5 = 0 then some ((0 : Int32)) else (fX2_chainLength N (m_it (X.2.2 0) t x) (X.2.2 0)).bind fun r7 => some (r7)) := t2
    rw [e, m_hasY hrs.gn h16 ho, m_bind, if_neg m_1_0, m_ioY hrs.sn h16 ho, m_bind, if_neg m_1_0, m_lt, m_kd, if_pos m_z0, ← e, cls, g2]
    rcases p4 with hno | ⟨a, ha, ea⟩
    · have etb : t = b := by
        rcases t3 with c | c
        · rcases Nat.lt_or_ge b t with c2 | c2
          · exact absurd (t4 b c2) hno
          · omega
        · rcases Nat.lt_trichotomy t b with c2 | c2 | c2
          · exact absurd (p3 t c2) c
          · exact c2
          · exact absurd (t4 b c2) hno
      subst etb
      rcases m_cs (m_it (X.2.2 0) t x) (n := n) (by omega) with c | ⟨hx, -⟩
      · exact absurd c hno
      · exact ⟨.inl 0, X, 0, m2, by rw [m_hasN hrs.gn hx, m_bind, if_pos m_00, m_bind], by rw [m_ioN hs1 h16 hx, m_bind, if_pos m_00, m_b2, if_pos rfl], hg, Or.inl ⟨rfl, hk0⟩⟩
    · have hall : ∀ j, m_vl n (m_it (X.2.2 0) j x) := by
        intro j
        induction j using Nat.strongRecOn with
        | ind j ihj =>
          rcases Nat.lt_or_ge j b with c | c
          · exact p3 j c
          · have q : m_it (X.2.2 0) j x = m_it (X.2.2 0) (a + (j - b)) x := by
              rw [show j = b + (j - b) by omega, m_itA, ← ea, ← m_itA, show a + (b + (j - b) - b) = a + (j - b) by omega]
            rw [q]
            exact ihj _ (by omega)
      have et : t = 16 := t3.resolve_right (fun c => c (hall t))
      subst et
      obtain ⟨y, hy⟩ : ∃ y, y = m_it (X.2.2 0) b x := ⟨_, rfl⟩
      have hvy : ∀ j, m_vl n (m_it (X.2.2 0) j y) := fun j => by rw [hy, ← m_itA]; exact hall _
      have hper : m_it (X.2.2 0) (b - a) y = y := by
        rw [hy, ← ea, ← m_itA, show a + (b - a) = b by omega, ← ea]
      obtain ⟨r, ⟨hr0, hr⟩, hleast⟩ := pk_least (fun k => 0 < k ∧ m_it (X.2.2 0) k y = y) ⟨b - a, by omega, hper⟩
      have hr16 : r ≤ 16 := by
        rcases Nat.lt_or_ge (b - a) r with c | c
        · exact absurd ⟨by omega, hper⟩ (hleast (b - a) c)
        · omega
      have hmin : ∀ j, 0 < j → j < r → m_it (X.2.2 0) j y ≠ y := fun j j0 jr q => hleast j jr ⟨j0, q⟩
      obtain ⟨w, hw⟩ : ∃ w, w = m_it (X.2.2 0) 16 x := ⟨_, rfl⟩
      have hwy : w = m_it (X.2.2 0) (16 - b) y := by rw [hw, hy, ← m_itA, show b + (16 - b) = 16 by omega]
      have hvw : ∀ j, m_vl n (m_it (X.2.2 0) j w) := fun j => by rw [hw, ← m_itA]; exact hall _
      have hrw : m_it (X.2.2 0) r w = w := by rw [hwy, m_itC, hr]
      have hback : m_it (X.2.2 0) (r * (16 - b) - (16 - b)) w = y := by
        have hge : 16 - b ≤ r * (16 - b) := Nat.le_mul_of_pos_left _ hr0
        rw [hwy, ← m_itA, show 16 - b + (r * (16 - b) - (16 - b)) = r * (16 - b) by omega]
        exact m_itP hr _
      have hminw : ∀ j, 0 < j → j < r → m_it (X.2.2 0) j w ≠ w := fun j j0 jr q => by
        refine hmin j j0 jr ?_
        rw [← hback, m_itC, q]
      have hinjw : ∀ j k, j < k → k < r → m_it (X.2.2 0) j w ≠ m_it (X.2.2 0) k w := fun j k hjk hk q => by
        refine hminw (j + (r - k)) (by omega) (by omega) ?_
        rw [m_itA, q, ← m_itA, show k + (r - k) = r by omega, hrw]
      have hc := m_chR (N := N) hrs hvw hr0 hrw hminw hinjw hr16 r 0 0 N (by omega) (by omega) (by decide) (fun q hq => by
        rw [Nat.zero_testBit]
        refine ⟨(fun z => by cases z), fun z => ?_⟩
        obtain ⟨j, hj, -⟩ := z
        omega)
      obtain ⟨oy, hoy, eoy⟩ := hvy 0
      have eoy : y = nI oy := eoy
      obtain ⟨ow, how, eow⟩ := hvw 0
      have eow : w = nI ow := eow
      have hring := m_rn49 (N := N) (m := m2) hrs hm21 hvy hr hmin (r - 1) 1 N (by decide) (by omega) (by omega)
      refine ⟨.inl (nI r), X, nI r, m2, ?_, ?_, hg, Or.inl ⟨rfl, hk0⟩⟩
      · rw [← hw, show fX2_has N w (X.2.2 0) = some 1 by rw [eow]; exact m_hasY hrs.gn h16 how, m_bind, if_neg m_1_0]
        unfold fX2_chainLength
        rw [show lX2_chainLength_7 N (X.2.2 0) N 0 0 w = _ from hc, m_bind, m_bind]
      · rw [← hy, show fX5_isOrder N y m2 = some 1 by rw [eoy]; exact m_ioY hs1 h16 hoy, m_bind, if_neg m_1_0, m_b2, if_neg (by rw [eoy]; exact m_nN oy (by omega))]
        rw [show fX5_part N y (2 : Int32) m2 = some (m_it (X.2.2 0) 1 y) by
          rw [show m_it (X.2.2 0) 1 y = X.2.2 0 3 oy by
            show X.2.2 0 3 y.toNatClampNeg = _
            rw [eoy, m_clamp (by omega)]]
          rw [eoy, m_part (p := 2) (k := 2) (r := 3) rfl rfl (by omega) (by decide), hm21, hrs.or hoy (by decide) (by decide) trivial], m_bind]
        exact hring
  · refine ⟨.inr 3, X, 0, z_u2 m 0 0 1, ?_, ?_, (h.kd 1).mono (by omega), Or.inr ⟨rfl, m_kd m 1⟩⟩
    · rw [m_hasN hrs.gn hx, m_bind, if_pos m_00]
    · rw [m_ioN hrs.sn h16 hx, m_bind, if_pos m_00, m_lt, m_kd, if_neg m_n1]
end MR33
