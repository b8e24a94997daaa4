/-! addOrder -/
section MR18
variable {N B : Nat} {X : z_X} {m : z_R}
theorem RS.add {E : Nat → Prop} {n P T J : Nat} {g g' : z_R} {s s' : Nat → Int32} (h : RS E n P T J g s) (hn : n < 16) (V : Nat → Int32) (hV : ∀ r, 1 ≤ r → r ≤ 9 → m_Vd P r (V r)) (h6 : V 6 = -1) (hg : ∀ r, 1 ≤ r → r ≤ 9 → g' r = upd (g r) n (V r)) (hgr : ∀ r, 10 ≤ r → g' r = g r) (h01 : g' 0 1 = nI (n + 1)) (h0 : ∀ k, k ≠ 1 → g' 0 k = g 0 k) (hs : ∀ r, 1 ≤ r → r ≤ 9 → s' (12 + 9 * n + r) = V r) (hs2 : s' 2 = nI (n + 1)) (hso : ∀ k, k ≠ 2 → (k < 13 + 9 * n ∨ 22 + 9 * n ≤ k) → s' k = s k) : RS E (n + 1) P T J g' s' := by
  refine ⟨⟨by omega, h.1.2.1, h.1.2.2.1, h.1.2.2.2⟩, ⟨?_, h01, ?_, ?_⟩, ⟨?_, hs2⟩, fun e => ?_, fun e => ?_, ?_, ?_, ?_, ?_, ?_, ?_, ?_⟩
  · rw [h0 0 (by decide)]; exact h.gP
  · rw [h0 2 (by decide)]; exact h.gT
  · rw [h0 4 (by decide)]; exact h.gJ
  · rw [hso 0 (by decide) (by omega)]; exact h.sP
  · rw [hso 1 (by decide) (by omega), hso 4 (by decide) (by omega), h0 3 (by decide)]; exact h.2.2.2.1 e
  · rw [hso 3 (by decide) (by omega)]; exact h.sJ e
  · intro i hi
    rw [hso (5 + i) (by omega) (by omega), hso (9 + i) (by omega) (by omega), hgr 10 (by decide), hgr 11 (by decide)]
    exact h.2.2.2.2.2.1 i hi
  · intro o r ho h1 h9
    rw [hg r h1 h9]
    by_cases c : o = n
    · subst c
      rw [m_us, hs r h1 h9]
      exact ⟨fun _ => rfl, hV r h1 h9⟩
    · rw [m_un _ _ c, hso _ (by omega) (by omega)]
      exact h.2.2.2.2.2.2.1 o r (by omega) h1 h9
  · intro o q ho hq hoq
    rw [hg 6 (by decide) (by decide)]
    by_cases c : o = n
    · subst c; rw [m_us]; exact fun _ => h6
    · rw [m_un _ _ c]
      by_cases c2 : q = n
      · subst c2; rw [m_us]; exact fun e => e.trans h6
      · rw [m_un _ _ c2]; exact h.ap (by omega) (by omega) hoq
  · intro o ho h16
    rw [hg 8 (by decide) (by decide), m_un _ _ (by omega)]; exact h.op0 (by omega) h16
  · intro e i hi
    rw [hso _ (by omega) (by omega), hso _ (by omega) (by omega), hso _ (by omega) (by omega), hgr 13 (by decide), hgr 14 (by decide), hgr 15 (by decide)]
    exact h.ju e hi
  · intro i hi
    rw [hgr 13 (by decide), hgr 14 (by decide)]; exact h.jv hi
  · intro i k hi hk
    rw [hgr 13 (by decide), hgr 14 (by decide)]; exact h.jd hi hk
def m_V (a w x e b : Int32) : Nat → Int32 := fun r => if r = 1 then a else if r = 2 then w else if r = 3 then x else if r = 4 then e else if r = 5 then b else if r = 8 then 0 else -1
/-- nine rows get a number at n -/
def m_g9 (g : z_R) (n : Nat) (a w x e b : Int32) : z_R := z_u2 (z_u2 (z_u2 (z_u2 (z_u2 (z_u2 (z_u2 (z_u2 (z_u2 g 1 n a) 2 n w) 3 n x) 4 n e) 5 n b) 6 n (-1)) 7 n (-1)) 8 n 0) 9 n (-1)
theorem m_addC {n : Nat} {g : z_R} (hg : g 0 1 = nI n) (hn : n < 16) (a w x e b : Int32) : fX2_addNew N a w x e b g = some (nI n, z_u2 (m_g9 g n a w x e b) 0 1 (nI (n + 1))) := by
  unfold fX2_addNew
  have h0 : m_g9 g n a w x e b 0 = g 0 := by
    unfold m_g9
    rw [m_u2n _ _ _ (by decide), m_u2n _ _ _ (by decide), m_u2n _ _ _ (by decide), m_u2n _ _ _ (by decide), m_u2n _ _ _ (by decide), m_u2n _ _ _ (by decide), m_u2n _ _ _ (by decide), m_u2n _ _ _ (by decide), m_u2n _ _ _ (by decide)]
  rw [hg, if_neg (m_neg (by omega)), if_pos (show nI n < (16 : Int32) from nI_lt (b := 16) hn (by decide)), m_in hn (by decide), m_ckt, m_clamp (by omega), m_lt, m_ckt, m_lt, m_ckt, m_lt, m_ckt, m_lt, m_ckt, m_lt, m_ckt, m_lt, m_ckt, m_lt, m_ckt, m_lt, m_ckt, m_lt]
  rw [show z_u2 (z_u2 (z_u2 (z_u2 (z_u2 (z_u2 (z_u2 (z_u2 (z_u2 g 1 n a) 2 n w) 3 n x) 4 n e) 5 n b) 6 n (-1)) 7 n (-1)) 8 n 0) 9 n (-1) = m_g9 g n a w x e b from rfl, h0, hg, nI_1, m_lt]
def m_s9 (s : Nat → Int32) (n : Nat) (a w x e b : Int32) : Nat → Int32 := upd (upd (upd (upd (upd (upd (upd (upd (upd s (12 + 9 * n + 1) a) (12 + 9 * n + 2) w) (12 + 9 * n + 3) x) (12 + 9 * n + 4) e) (12 + 9 * n + 5) b) (12 + 9 * n + 6) (-1)) (12 + 9 * n + 7) (-1)) (12 + 9 * n + 8) 0) (12 + 9 * n + 9) (-1)
theorem RS.ad9 {E : Nat → Prop} {n P T J : Nat} {g : z_R} {s : Nat → Int32} (h : RS E n P T J g s) (hn : n < 16) {a w x e b : Int32} (va : ∃ k, k < 4 ∧ a = nI k) (vw : ∃ k, 1 ≤ k ∧ k ≤ 9 ∧ w = nI k) (vx : x = -1 ∨ ∃ k, k < 16 ∧ x = nI k) (ve : e = -1 ∨ ∃ k, k < 16 ∧ e = nI k) (vb : ∃ k, k ≤ 99 ∧ b = nI k) : RS E (n + 1) P T J (z_u2 (m_g9 g n a w x e b) 0 1 (nI (n + 1))) (upd (m_s9 s n a w x e b) 2 (nI (n + 1))) := by
  refine h.add hn (m_V a w x e b) (fun r h1 h9 => ?_) rfl (fun r h1 h9 => ?_) (fun r hr => ?_) (by rw [m_u2s, m_us]) (fun k hk => ?_) (fun r h1 h9 => ?_) (m_us _ _ _) (fun k h2 hk => ?_)
  · refine ⟨fun q => ?_, fun q => ?_, fun q => ?_, fun q => ?_, fun q => ?_⟩
    · subst q; exact va
    · subst q; exact vw
    · rcases q with q | q <;> subst q
      · exact vx
      · exact ve
    · subst q; exact vb
    · subst q; exact Or.inl rfl
  · rw [m_u2n _ _ _ (by omega)]
    unfold m_g9
    rcases (show r = 1 ∨ r = 2 ∨ r = 3 ∨ r = 4 ∨ r = 5 ∨ r = 6 ∨ r = 7 ∨ r = 8 ∨ r = 9 by omega) with q | q | q | q | q | q | q | q | q <;> subst q <;> rfl
  · rw [m_u2n _ _ _ (by omega)]
    unfold m_g9
    rw [m_u2n _ _ _ (by omega), m_u2n _ _ _ (by omega), m_u2n _ _ _ (by omega), m_u2n _ _ _ (by omega), m_u2n _ _ _ (by omega), m_u2n _ _ _ (by omega), m_u2n _ _ _ (by omega), m_u2n _ _ _ (by omega), m_u2n _ _ _ (by omega)]
  · rw [m_u2s, m_un _ _ hk]
    unfold m_g9
    rw [m_u2n _ _ _ (by decide), m_u2n _ _ _ (by decide), m_u2n _ _ _ (by decide), m_u2n _ _ _ (by decide), m_u2n _ _ _ (by decide), m_u2n _ _ _ (by decide), m_u2n _ _ _ (by decide), m_u2n _ _ _ (by decide), m_u2n _ _ _ (by decide)]
  · rw [m_un _ _ (by omega)]
    unfold m_s9
    have ne : ∀ i j : Nat, i ≠ j → 12 + 9 * n + i ≠ 12 + 9 * n + j := fun i j q => by omega
    rcases (show r = 1 ∨ r = 2 ∨ r = 3 ∨ r = 4 ∨ r = 5 ∨ r = 6 ∨ r = 7 ∨ r = 8 ∨ r = 9 by omega) with q | q | q | q | q | q | q | q | q <;> subst q
    · rw [m_un _ _ (ne _ _ (by decide)), m_un _ _ (ne _ _ (by decide)), m_un _ _ (ne _ _ (by decide)), m_un _ _ (ne _ _ (by decide)), m_un _ _ (ne _ _ (by decide)), m_un _ _ (ne _ _ (by decide)), m_un _ _ (ne _ _ (by decide)), m_un _ _ (ne _ _ (by decide)), m_us]; rfl
    · rw [m_un _ _ (ne _ _ (by decide)), m_un _ _ (ne _ _ (by decide)), m_un _ _ (ne _ _ (by decide)), m_un _ _ (ne _ _ (by decide)), m_un _ _ (ne _ _ (by decide)), m_un _ _ (ne _ _ (by decide)), m_un _ _ (ne _ _ (by decide)), m_us]; rfl
    · rw [m_un _ _ (ne _ _ (by decide)), m_un _ _ (ne _ _ (by decide)), m_un _ _ (ne _ _ (by decide)), m_un _ _ (ne _ _ (by decide)), m_un _ _ (ne _ _ (by decide)), m_un _ _ (ne _ _ (by decide)), m_us]; rfl
    · rw [m_un _ _ (ne _ _ (by decide)), m_un _ _ (ne _ _ (by decide)), m_un _ _ (ne _ _ (by decide)), m_un _ _ (ne _ _ (by decide)), m_un _ _ (ne _ _ (by decide)), m_us]; rfl
    · rw [m_un _ _ (ne _ _ (by decide)), m_un _ _ (ne _ _ (by decide)), m_un _ _ (ne _ _ (by decide)), m_un _ _ (ne _ _ (by decide)), m_us]; rfl
    · rw [m_un _ _ (ne _ _ (by decide)), m_un _ _ (ne _ _ (by decide)), m_un _ _ (ne _ _ (by decide)), m_us]; rfl
    · rw [m_un _ _ (ne _ _ (by decide)), m_un _ _ (ne _ _ (by decide)), m_us]; rfl
    · rw [m_un _ _ (ne _ _ (by decide)), m_us]; rfl
    · rw [m_us]; rfl
  · rw [m_un _ _ h2]
    unfold m_s9
    rw [m_un _ _ (by omega), m_un _ _ (by omega), m_un _ _ (by omega), m_un _ _ (by omega), m_un _ _ (by omega), m_un _ _ (by omega), m_un _ _ (by omega), m_un _ _ (by omega), m_un _ _ (by omega)]
theorem c_addOrder (h : RG B X m) (hN : 13000 ≤ N) (hN2 : N < 2 ^ 31) (a w x e b : Int32) : ∃ o X' r m', fX4_addOrder N a w x e b X = some (o, X') ∧ fX5_addOrder N a w x e b m = some (r, m') ∧ RG (B + 5000) X' m' ∧ ((o = .inl r ∧ m' 0 0 = 0) ∨ (o = .inr 1 ∧ m' 0 0 = 1) ∨ (o = .inr 2 ∧ m' 0 0 = 2)) := by
  obtain ⟨ht, ⟨n, P, T, J, hrs, hT⟩, hme, hsl⟩ := id h
  have h16 := hrs.n16
  have bad : ∀ {p : Option ((Int32 ⊕ Nat) × z_X)} {q : Option (Int32 × z_R)}, p = some (.inr 1, X) → q = some (0, z_u2 m 0 0 1) → ∃ o X' r m', p = some (o, X') ∧ q = some (r, m') ∧ RG (B + 5000) X' m' ∧ ((o = .inl r ∧ m' 0 0 = 0) ∨ (o = .inr 1 ∧ m' 0 0 = 1) ∨ (o = .inr 2 ∧ m' 0 0 = 2)) := fun p1 q1 => ⟨.inr 1, X, 0, z_u2 m 0 0 1, p1, q1, (h.kd 1).mono (by omega), Or.inr (Or.inl ⟨rfl, m_kd m 1⟩)⟩
  have ir0 : fX5_isInRange N 0 a = (fX5_isAuthor N a).bind fun r2 => z_ck (z_bo r2) (some r2) := rfl
  have ir1 : fX5_isInRange N 1 w = (fX5_within N w 1 9).bind fun r2 => z_ck (z_bo r2) (some r2) := rfl
  have ir2 : fX5_isInRange N 2 x = (fX5_within N x (-1) 15).bind fun r2 => z_ck (z_bo r2) (some r2) := rfl
  have ir3 : fX5_isInRange N 3 e = (fX5_within N e (-1) 15).bind fun r2 => z_ck (z_bo r2) (some r2) := rfl
  have ir4 : fX5_isInRange N 4 b = (fX5_within N b 0 99).bind fun r2 => z_ck (z_bo r2) (some r2) := rfl
  unfold fX4_addOrder fX5_addOrder
  rcases m_au (N := N) a with ⟨a1, a2, va⟩ | ⟨a1, a2⟩
  rotate_left
  · exact bad (by rw [a1, m_bind, if_pos m_00]) (by rw [ir0, a2, m_bind, m_b0, m_ckt, m_bind, if_pos m_00, m_lt, m_kd, if_neg m_n1])
  rw [a1, m_bind, if_neg m_1_0, ir0, a2, m_bind, m_b1, m_ckt, m_bind, if_neg m_1_0]
  rcases m_wk (N := N) w with ⟨b1, b2, vw⟩ | ⟨b1, b2⟩
  rotate_left
  · exact bad (by rw [b1, m_bind, if_pos m_00]) (by rw [ir1, b2, m_bind, m_b0, m_ckt, m_bind, if_pos m_00, m_lt, m_kd, if_neg m_n1])
  rw [b1, m_bind, if_neg m_1_0, ir1, b2, m_bind, m_b1, m_ckt, m_bind, if_neg m_1_0]
  rcases m_lk (N := N) x with ⟨c1, c2, vx⟩ | ⟨c1, c2⟩
  rotate_left
  · exact bad (by rw [c1, m_bind, if_pos m_00]) (by rw [ir2, c2, m_bind, m_b0, m_ckt, m_bind, if_pos m_00, m_lt, m_kd, if_neg m_n1])
  rw [c1, m_bind, if_neg m_1_0, ir2, c2, m_bind, m_b1, m_ckt, m_bind, if_neg m_1_0]
  rcases m_lk (N := N) e with ⟨d1, d2, ve⟩ | ⟨d1, d2⟩
  rotate_left
  · exact bad (by rw [d1, m_bind, if_pos m_00]) (by rw [ir3, d2, m_bind, m_b0, m_ckt, m_bind, if_pos m_00, m_lt, m_kd, if_neg m_n1])
  rw [d1, m_bind, if_neg m_1_0, ir3, d2, m_bind, m_b1, m_ckt, m_bind, if_neg m_1_0]
  rcases m_br (N := N) b with ⟨e1, e2, vb⟩ | ⟨e1, e2⟩
  rotate_left
  · exact bad (by rw [e1, m_bind, if_pos m_00]) (by rw [ir4, e2, m_bind, m_b0, m_ckt, m_bind, if_pos m_00, m_lt, m_kd, if_neg m_n1])
  rw [e1, m_bind, if_neg m_1_0, ir4, e2, m_bind, m_b1, m_ckt, m_bind, if_neg m_1_0, hrs.gn, m_t2, hrs.sn]
  by_cases cn : n = 16
  · subst cn
    refine ⟨.inr 2, X, 0, z_u2 m 0 0 2, ?_, ?_, (h.kd 2).mono (by omega), Or.inr (Or.inr ⟨rfl, m_kd m 2⟩)⟩
    · rw [if_neg (by decide)]
    · rw [if_pos (by decide), m_lt, m_kd, if_neg m_n2]
  · have hn : n < 16 := by omega
    obtain ⟨X1, m1, r1, r2, r3, r4, r5, r6⟩ := m_remember (N := N) (h.kd 0) hN hN2
    rw [m_kd] at r6
    rw [m_kd1 m 0 (by decide)] at r5
    have hr2 := hrs.ad9 hn va vw vx ve vb
    refine ⟨.inl (nI n), (X1.1, X1.2.1, z_u3 X1.2.2 0 (z_u2 (m_g9 (X.2.2 0) n a w x e b) 0 1 (nI (n + 1)))), nI n, z_uR m1 1 (upd (m_s9 (m 1) n a w x e b) 2 (nI (n + 1))), ?_, ?_, r3.nw (by omega) ⟨n + 1, P, T, J, hr2, by omega⟩, Or.inl ⟨rfl, by rw [m_other _ _ (by decide : (0 : Nat) ≠ 1)]; exact r6⟩⟩
    · rw [if_pos (show nI n < (16 : Int32) from nI_lt (b := 16) hn (by decide)), r1, m_bind, r4, m_addC hrs.gn hn, m_b2, m_lt]
    · rw [if_neg (show ¬ nI n = (16 : Int32) from fun q => cn (m_nI_inj (a := n) (b := 16) (by omega) (by decide) q)), m_lt, m_kd, if_pos m_z0, r2, m_bind]
      rw [r5, hrs.sn]
      have hm1 : m1 = z_uR m1 1 (m 1) := by rw [← r5, m_self]
      rw [show fX5_setPart N (nI n) 0 a m1 = some (z_uR m1 1 (upd (m 1) (12 + 9 * n + 1) a)) by
        conv => lhs; rw [hm1]
        exact m_setP (p := 0) (k := 0) (r := 1) rfl rfl hn (by decide), m_bind]
      rw [m_setP (p := 1) (k := 1) (r := 2) rfl rfl hn (by decide), m_bind, m_setP (p := 2) (k := 2) (r := 3) rfl rfl hn (by decide), m_bind, m_setP (p := 3) (k := 3) (r := 4) rfl rfl hn (by decide), m_bind, m_setP (p := 4) (k := 4) (r := 5) rfl rfl hn (by decide), m_bind, m_setP (p := 5) (k := 5) (r := 6) rfl rfl hn (by decide), m_bind, m_setP (p := 6) (k := 6) (r := 7) rfl rfl hn (by decide), m_bind, m_setP (p := 7) (k := 7) (r := 8) rfl rfl hn (by decide), m_bind, m_setP (p := 8) (k := 8) (r := 9) rfl rfl hn (by decide), m_bind, m_same, m_uRR]
      rw [show upd (upd (upd (upd (upd (upd (upd (upd (upd (m 1) (12 + 9 * n + 1) a) (12 + 9 * n + 2) w) (12 + 9 * n + 3) x) (12 + 9 * n + 4) e) (12 + 9 * n + 5) b) (12 + 9 * n + 6) (-1)) (12 + 9 * n + 7) (-1)) (12 + 9 * n + 8) 0) (12 + 9 * n + 9) (-1) = m_s9 (m 1) n a w x e b from rfl]
      have e2 : m_s9 (m 1) n a w x e b 2 = nI n := by
        unfold m_s9
        rw [m_un _ _ (by omega), m_un _ _ (by omega), m_un _ _ (by omega), m_un _ _ (by omega), m_un _ _ (by omega), m_un _ _ (by omega), m_un _ _ (by omega), m_un _ _ (by omega), m_un _ _ (by omega)]
        exact hrs.sn
      rw [e2, nI_1, m_lt]
end MR18
