/-! reading, jumps, runs: both sides -/
theorem m_php : ∀ (n : Nat) (f : Nat → Nat), (∀ i, i < n + 1 → f i < n) → (∀ i j, i < j → j < n + 1 → f i ≠ f j) → False := by
  intro n
  induction n with
  | zero => intro f h _; exact absurd (h 0 (by omega)) (by omega)
  | succ n ih =>
    intro f h hd
    refine ih (fun i => if f i = n then f (n + 1) else f i) (fun i hi => ?_) (fun i j hij hj => ?_)
    · show (if f i = n then f (n + 1) else f i) < n
      have h1 := h i (by omega)
      have h2 := h (n + 1) (by omega)
      have h3 := hd i (n + 1) (by omega) (by omega)
      split <;> omega
    · show (if f i = n then f (n + 1) else f i) ≠ (if f j = n then f (n + 1) else f j)
      have h1 := hd i j hij (by omega)
      have h2 := hd i (n + 1) (by omega) (by omega)
      have h3 := hd j (n + 1) (by omega) (by omega)
      split <;> split <;> omega
section MR7
variable {E : Nat → Prop} {N n P T J T' J' : Nat} {g g' m : z_R} {s s' : Nat → Int32}
theorem RS.sc (h : RS E n P T J g s) (hg : ∀ r, r ≠ 0 → g' r = g r) (h0 : g' 0 0 = nI P) (h1 : g' 0 1 = nI n) (h2 : g' 0 2 = nI T') (h4 : g' 0 4 = nI J) (hs : ∀ k, k ≠ 1 → k ≠ 4 → s' k = s k) (hE0 : E 0 → s' 1 = nI T' ∧ s' 4 = g' 0 3) : RS E n P T' J g' s' := by
  refine ⟨h.1, ⟨h0, h1, h2, h4⟩, ?_, hE0, ?_, ?_, ?_, ?_, ?_, ?_, ?_, ?_⟩
  · rw [hs 0 (by decide) (by decide), hs 2 (by decide) (by decide)]; exact h.2.2.1
  · rw [hs 3 (by decide) (by decide)]; exact h.2.2.2.2.1
  · intro i hi
    rw [hs (5 + i) (by omega) (by omega), hs (9 + i) (by omega) (by omega), hg 10 (by decide), hg 11 (by decide)]
    exact h.2.2.2.2.2.1 i hi
  · intro o r ho h1 h9
    rw [hs _ (by omega) (by omega), hg r (by omega)]
    exact h.2.2.2.2.2.2.1 o r ho h1 h9
  · intro o q ho hq hoq
    rw [hg 6 (by decide)]; exact h.ap ho hq hoq
  · intro o ho h16
    rw [hg 8 (by decide)]; exact h.op0 ho h16
  · intro e i hi
    rw [hs _ (by omega) (by omega), hs _ (by omega) (by omega), hs _ (by omega) (by omega), hg 13 (by decide), hg 14 (by decide), hg 15 (by decide)]
    exact h.ju e hi
  · intro i hi
    rw [hg 13 (by decide), hg 14 (by decide)]; exact h.jv hi
  · intro i k hi hk
    rw [hg 13 (by decide), hg 14 (by decide)]; exact h.jd hi hk
theorem RS.tk (h : RS E n P T J g s) : RS E n P T' J (z_u2 g 0 2 (nI T')) (upd s 1 (nI T')) := by
  refine h.sc (fun r hr => m_u2n g 2 _ hr) ?_ ?_ ?_ ?_ (fun k h1 _ => m_un s _ h1) (fun e => ⟨m_us _ _ _, ?_⟩)
  · rw [m_u2s, m_un _ _ (by decide)]; exact h.gP
  · rw [m_u2s, m_un _ _ (by decide)]; exact h.gn
  · rw [m_u2s, m_us]
  · rw [m_u2s, m_un _ _ (by decide)]; exact h.gJ
  · rw [m_u2s, m_un _ _ (by decide), m_un _ _ (by decide)]; exact h.sE e
theorem RS.en (h : RS E n P T J g s) (e : Int32) : RS E n P T J (z_u2 g 0 3 e) (upd s 4 e) := by
  refine h.sc (fun r hr => m_u2n g 3 _ hr) ?_ ?_ ?_ ?_ (fun k _ h4 => m_un s _ h4) (fun q => ⟨?_, ?_⟩)
  · rw [m_u2s, m_un _ _ (by decide)]; exact h.gP
  · rw [m_u2s, m_un _ _ (by decide)]; exact h.gn
  · rw [m_u2s, m_un _ _ (by decide)]; exact h.gT
  · rw [m_u2s, m_un _ _ (by decide)]; exact h.gJ
  · rw [m_un _ _ (by decide)]; exact h.sT q
  · rw [m_us, m_u2s, m_us]
theorem RS.jj (h : RS E n P T J g s) (hJ : J' ≤ 256) (hg : ∀ r, 1 ≤ r → r ≤ 12 → g' r = g r) (h0 : ∀ k, k ≠ 4 → g' 0 k = g 0 k) (h4 : g' 0 4 = nI J') (hs : ∀ k, k < 157 → k ≠ 3 → s' k = s k) (h3 : E 12 → s' 3 = nI J') (ju : E 12 → ∀ i, i < J' → s' (157 + 3 * i) = g' 13 i ∧ s' (157 + 3 * i + 1) = g' 14 i ∧ s' (157 + 3 * i + 2) = g' 15 i) (jv : ∀ i, i < J' → (∃ x, x < 16 ∧ g' 13 i = nI x) ∧ ∃ y, y < 16 ∧ g' 14 i = nI y) (jd : ∀ i k, i < k → k < J' → ¬ (g' 13 i = g' 13 k ∧ g' 14 i = g' 14 k)) : RS E n P T J' g' s' := by
  have h16 := h.n16
  refine ⟨⟨h.1.1, h.1.2.1, h.1.2.2.1, hJ⟩, ⟨?_, ?_, ?_, h4⟩, ?_, ?_, h3, ?_, ?_, ?_, ?_, ju, jv, jd⟩
  · rw [h0 0 (by decide)]; exact h.gP
  · rw [h0 1 (by decide)]; exact h.gn
  · rw [h0 2 (by decide)]; exact h.gT
  · rw [hs 0 (by decide) (by decide), hs 2 (by decide) (by decide)]; exact h.2.2.1
  · rw [hs 1 (by decide) (by decide), hs 4 (by decide) (by decide), h0 3 (by decide)]; exact h.2.2.2.1
  · intro i hi
    rw [hs (5 + i) (by omega) (by omega), hs (9 + i) (by omega) (by omega), hg 10 (by decide) (by decide), hg 11 (by decide) (by decide)]
    exact h.2.2.2.2.2.1 i hi
  · intro o r ho h1 h9
    rw [hs _ (by omega) (by omega), hg r (by omega) (by omega)]
    exact h.2.2.2.2.2.2.1 o r ho h1 h9
  · intro o q ho hq hoq
    rw [hg 6 (by decide) (by decide)]; exact h.ap ho hq hoq
  · intro o ho h16
    rw [hg 8 (by decide) (by decide)]; exact h.op0 ho h16
/-- how long an order is waited for -/
theorem m_wait (h : RS E n P T J g s) (hE0 : E 0) (hE6 : E 6) (hT : T < 2 ^ 30) {o p : Nat} (ho : o < n) (hp : g 6 o = nI p) (hpP : p < P) : fX2_waitFor N (nI o) g = some (nI ((p + P - T % P) % P)) ∧ fX5_waitOf N (nI o) (z_uR m 1 s) = some (nI ((p + P - T % P) % P)) := by
  have h16 := h.n16
  have hP6 := h.P6
  have hP4 := h.P40
  have hT2 := Nat.mod_lt T (show 0 < P by omega)
  refine ⟨?_, ?_⟩
  · unfold fX2_waitFor fX2_isOnDrum
    rw [m_hasY h.gn h16 ho, m_bind, if_neg m_1_0, m_in (by omega) (by decide), m_ckt, m_clamp (by omega), hp, if_neg (m_nN p (by omega)), m_bind, if_neg m_1_0, m_ckt, h.gT, m_aroundD h.gP (by omega) (by omega) (by omega) hT, m_bind]
  · unfold fX5_waitOf fX5_comingBy
    rw [m_part (p := 5) (k := 5) (r := 6) rfl rfl (by omega) (by decide), m_bind, m_same, h.or ho (by decide) (by decide) hE6, hp, m_t0, m_t1, h.sP, h.sT hE0, m_nz (by omega) (by omega), m_ckt, pk_rem (by omega) (by omega) (by omega), m_bind, m_ckt, nI_add, pk_sub (by omega), pk_rem (by omega) (by omega) (by omega)]
/-- an order is read -/
theorem m_read (h : RS E n P T J g s) (hE : E 0 ∧ E 1 ∧ E 2 ∧ E 6) (hE8 : E 11 → E 8) (hT : T < 2 ^ 30) {o p : Nat} (ho : o < n) (hp : g 6 o = nI p) (hpP : p < P) {x : Int32} (hx : x = 0 ∨ x = 1) : ∃ g' s' T', T ≤ T' ∧ T' ≤ T + 49 ∧ fX2_read N (nI o) x g = some g' ∧ fX5_reads N (nI o) x (z_uR m 1 s) = some (z_uR m 1 s') ∧ RS E n P T' J g' s' ∧ (∀ q, q ≠ 0 → q ≠ 8 → q ≠ 9 → q ≠ 11 → g' q = g q) := by
  obtain ⟨hE0, hE1, hE2, hE6⟩ := hE
  have h16 := h.n16
  have hP6 := h.P6
  have hP4 := h.P40
  obtain ⟨wo, hw1, hw9, hwe⟩ := h.wo ho
  obtain ⟨w1, w2⟩ := m_wait (N := N) (m := m) h hE0 hE6 hT ho hp hpP
  obtain ⟨w, hw⟩ : ∃ w, w = (p + P - T % P) % P := ⟨_, rfl⟩
  have hwP : w < P := by rw [hw]; exact Nat.mod_lt _ (by omega)
  rw [← hw] at w1 w2
  have a1 : RS E n P (T + w) J (z_u2 g 0 2 (nI (T + w))) (upd s 1 (nI (T + w))) := h.tk
  have a2 := a1.part (j := o) (r := 9) (v := nI w) ho (by decide) (by decide) (m_Vd7 (by decide)) (fun e => by omega)
  -- the last step: the work
  have fin : ∀ (G : z_R) (S : Nat → Int32), RS E n P (T + w) J G S → G 2 = g 2 → (G 0 2 + (1 + G 2 o) = nI (T + w + 1 + wo) ∧ S 1 + (1 + S (12 + 9 * o + 2)) = nI (T + w + 1 + wo)) := fun G S hG h2 => by
    rw [hG.gT, hG.sT hE0, hG.or ho (by decide) (by decide) hE2, h2, hwe, show (1 : Int32) = nI 1 from rfl, nI_add, nI_add]
    exact ⟨congrArg nI (by omega), congrArg nI (by omega)⟩
  have stepC : fX2_read N (nI o) x g = (if x = 0 then some (z_u2 (z_u2 (z_u2 g 0 2 (nI (T + w))) 9 o (nI w)) 0 2 (z_u2 (z_u2 g 0 2 (nI (T + w))) 9 o (nI w) 0 2 + (1 + z_u2 (z_u2 g 0 2 (nI (T + w))) 9 o (nI w) 2 o))) else if nI w = 0 then some (z_u2 (z_u2 (z_u2 (z_u2 g 0 2 (nI (T + w))) 9 o (nI w)) 8 o 0) 0 2 (z_u2 (z_u2 (z_u2 g 0 2 (nI (T + w))) 9 o (nI w)) 8 o 0 0 2 + (1 + z_u2 (z_u2 (z_u2 g 0 2 (nI (T + w))) 9 o (nI w)) 8 o 0 2 o))) else z_b2 (fX2_refund N (nI o) (z_u2 (z_u2 g 0 2 (nI (T + w))) 9 o (nI w))) fun _ g13 => some (z_u2 (z_u2 g13 8 o 0) 0 2 (z_u2 g13 8 o 0 0 2 + (1 + z_u2 g13 8 o 0 2 o)))) := by
    have wa : fX2_around N (nI p - nI T) g = some (nI w) := by rw [hw]; exact m_aroundD h.gP (by omega) (by omega) (by omega) hT
    unfold fX2_read
    rw [m_in (by omega) (by decide), m_ckt, m_clamp (by omega), hp, h.gT, wa, m_bind, nI_add, m_lt, m_ckt]
    rfl
  have stepM : fX5_reads N (nI o) x (z_uR m 1 s) = (if x = 0 then some (z_uR m 1 (upd (upd (upd s 1 (nI (T + w))) (12 + 9 * o + 9) (nI w)) 1 ((upd (upd s 1 (nI (T + w))) (12 + 9 * o + 9) (nI w)) 1 + (1 + (upd (upd s 1 (nI (T + w))) (12 + 9 * o + 9) (nI w)) (12 + 9 * o + 2))))) else if nI w ≤ 0 then some (z_uR m 1 (upd (upd (upd (upd s 1 (nI (T + w))) (12 + 9 * o + 9) (nI w)) (12 + 9 * o + 8) 0) 1 ((upd (upd (upd s 1 (nI (T + w))) (12 + 9 * o + 9) (nI w)) (12 + 9 * o + 8) 0) 1 + (1 + (upd (upd (upd s 1 (nI (T + w))) (12 + 9 * o + 9) (nI w)) (12 + 9 * o + 8) 0) (12 + 9 * o + 2))))) else z_b2 (fX5_refund N (nI o) (z_uR m 1 (upd (upd s 1 (nI (T + w))) (12 + 9 * o + 9) (nI w)))) fun _ g18 => (fX5_setPart N (nI o) (7 : Int32) (0 : Int32) g18).bind fun g22 => (fX5_part N (nI o) (1 : Int32) g22).bind fun r23 => z_lt (z_u2 g22 1 ((1 : Int32)).toNatClampNeg ((g22 1 ((1 : Int32)).toNatClampNeg) + ((1 : Int32) + r23))) fun g24 => some g24) := by
    unfold fX5_reads
    rw [w2, m_bind, m_same, m_t1, h.sT hE0, nI_add, m_uRR, m_lt, m_setP (p := 8) (k := 8) (r := 9) rfl rfl (by omega) (by decide), m_bind]
    by_cases x0 : x = 0
    · rw [if_pos x0, if_pos x0, if_pos x0, m_part (p := 1) (k := 1) (r := 2) rfl rfl (by omega) (by decide), m_bind, m_same, m_uRR, m_lt]
    · rw [if_neg x0, if_neg x0, if_neg x0]
      by_cases c : nI w ≤ 0
      · rw [if_pos c, if_pos c, m_setP (p := 7) (k := 7) (r := 8) rfl rfl (by omega) (by decide), m_bind, m_part (p := 1) (k := 1) (r := 2) rfl rfl (by omega) (by decide), m_bind, m_same, m_uRR, m_lt]
      · rw [if_neg c, if_neg c]
        congr 1
        funext r18 g18
        rw [if_neg x0]
  have g2a : z_u2 (z_u2 g 0 2 (nI (T + w))) 9 o (nI w) 2 = g 2 := by rw [m_u2n _ _ _ (by decide), m_u2n _ _ _ (by decide)]
  by_cases x0 : x = 0
  · obtain ⟨f1, f2⟩ := fin _ _ a2 g2a
    refine ⟨_, _, T + w + 1 + wo, by omega, by omega, by rw [stepC, if_pos x0, f1], by rw [stepM, if_pos x0, f2], a2.tk, fun q q0 q8 q9 q11 => ?_⟩
    rw [m_u2n _ _ _ q0, m_u2n _ _ _ q9, m_u2n _ _ _ q0]
  · by_cases c : w = 0
    · have a3 := a2.part (j := o) (r := 8) (v := 0) ho (by decide) (by decide) (m_Vd7 (by decide)) (fun e => by omega)
      obtain ⟨f1, f2⟩ := fin _ _ a3 (by rw [m_u2n _ _ _ (by decide : (2 : Nat) ≠ 8)]; exact g2a)
      refine ⟨_, _, T + w + 1 + wo, by omega, by omega, by rw [stepC, if_neg x0, if_pos (by rw [c]; rfl), f1], by rw [stepM, if_neg x0, if_pos (by rw [c]; decide), f2], a3.tk, fun q q0 q8 q9 q11 => ?_⟩
      rw [m_u2n _ _ _ q0, m_u2n _ _ _ q8, m_u2n _ _ _ q9, m_u2n _ _ _ q0]
    · obtain ⟨g3, s3, r1, r2, r3, r4, -, -⟩ := m_refund (N := N) (m := m) a2 hE1 hE8 ho
      have a3 := r3.part (j := o) (r := 8) (v := 0) ho (by decide) (by decide) (m_Vd7 (by decide)) (fun e => by omega)
      obtain ⟨f1, f2⟩ := fin _ _ a3 (by rw [m_u2n _ _ _ (by decide : (2 : Nat) ≠ 8), r4 2 (by decide) (by decide)]; exact g2a)
      refine ⟨_, _, T + w + 1 + wo, by omega, by omega, by rw [stepC, if_neg x0, if_neg (nI_ne0 (by omega) (by omega)), r1, m_b2, f1], ?_, a3.tk, fun q q0 q8 q9 q11 => ?_⟩
      · rw [stepM, if_neg x0, if_neg (nI_nle (by omega) (by omega)), r2, m_b2, m_setP (p := 7) (k := 7) (r := 8) rfl rfl (by omega) (by decide), m_bind, m_part (p := 1) (k := 1) (r := 2) rfl rfl (by omega) (by decide), m_bind, m_same, m_t1, m_uRR, m_lt, f2]
      · rw [m_u2n _ _ _ q0, m_u2n _ _ _ q8, r4 q q8 q11, m_u2n _ _ _ q9, m_u2n _ _ _ q0]
end MR7
