/-! plain facts: ints as numbers, rows, the printed combinators -/
theorem m_lit (n : Nat) : (OfNat.ofNat n : Int32) = nI n := rfl
theorem m_ne1 : (-1 : Int32).toInt = -1 := by decide
theorem m_nI_ne {j : Nat} (h : j < 2 ^ 31) : ¬ nI j = (-1 : Int32) := by
  intro e
  have h1 : (nI j).toInt = (-1 : Int32).toInt := by rw [e]
  rw [nI_toInt h, m_ne1] at h1
  omega
theorem m_nI_inj {a b : Nat} (ha : a < 2 ^ 31) (hb : b < 2 ^ 31) (h : nI a = nI b) : a = b := (nI_eq ha hb).mp h
theorem m_ltI {a b : Nat} (ha : a < 2 ^ 31) (hb : b < 2 ^ 31) : nI a < nI b ↔ a < b := nI_ltI ha hb
theorem m_leI {a b : Nat} (ha : a < 2 ^ 31) (hb : b < 2 ^ 31) : nI a ≤ nI b ↔ a ≤ b := nI_leI ha hb
theorem m_neg {j : Nat} (h : j < 2 ^ 31) : ¬ nI j < (0 : Int32) := nI_pos h
theorem m_in {k n : Nat} (h : k < n) (hn : n < 2 ^ 31) : z_in (nI k) n = true := by
  have h1 : ¬ nI k < 0 := nI_pos (by omega)
  have h2 : ¬ n ≤ (nI k).toNatClampNeg := by rw [nI_clamp (by omega)]; omega
  simp [z_in, h1, h2]
theorem m_ck {α : Type} {b : Bool} (h : b = true) (x : Option α) : z_ck b x = x := by
  rw [h]; rfl
theorem m_nz {k : Nat} (h0 : 0 < k) (h : k < 2 ^ 31) : z_nz (nI k) = true := by
  simp [z_nz, nI_ne0 h0 h]
theorem m_b0 : z_bo 0 = true := by decide
theorem m_b1 : z_bo 1 = true := by decide
theorem m_idx (j p : Nat) : ((13 : Int32) + ((9 : Int32) * nI j)) + nI p = nI (13 + 9 * j + p) := by
  rw [show (13 : Int32) = nI 13 from rfl, show (9 : Int32) = nI 9 from rfl, pk_mul, nI_add, nI_add]
theorem m_clamp {n : Nat} (h : n < 2 ^ 31) : (nI n).toNatClampNeg = n := nI_clamp h
theorem m_same (g : z_R) (r : Nat) (u : Nat → Int32) : z_uR g r u r = u := if_pos rfl
theorem m_other (g : z_R) {r q : Nat} (u : Nat → Int32) (h : q ≠ r) : z_uR g r u q = g q := if_neg h
theorem m_uR (m : z_R) (r k : Nat) (v : Int32) : z_u2 m r k v = z_uR m r (upd (m r) k v) := rfl
theorem m_uRR (m : z_R) (r k : Nat) (s : Nat → Int32) (v : Int32) : z_u2 (z_uR m r s) r k v = z_uR m r (upd s k v) := by
  funext a
  by_cases h : a = r
  · subst h; simp [z_u2, z_uR]
  · simp [z_u2, z_uR, h]
theorem m_uRn (m : z_R) {r q k : Nat} (s : Nat → Int32) (v : Int32) (h : q ≠ r) : z_u2 (z_uR m r s) q k v = z_uR (z_u2 m q k v) r s := by
  funext a
  by_cases h1 : a = r
  · subst h1
    have h2 : ¬ a = q := fun e => h e.symm
    simp [z_u2, z_uR, h2]
  · by_cases h2 : a = q
    · subst h2; simp [z_u2, z_uR, h]
    · simp [z_u2, z_uR, h1, h2]
theorem m_uR2 (m : z_R) (r : Nat) (s t : Nat → Int32) : z_uR (z_uR m r s) r t = z_uR m r t := by
  funext a
  by_cases h : a = r
  · simp [z_uR, h]
  · simp [z_uR, h]
theorem m_uRself (m : z_R) (r : Nat) : z_uR m r (m r) = m := by
  funext a
  by_cases h : a = r
  · subst h; simp [z_uR]
  · simp [z_uR, h]
theorem m_u2s (g : z_R) (r k : Nat) (v : Int32) : z_u2 g r k v r = upd (g r) k v := if_pos rfl
theorem m_u2n (g : z_R) {r q : Nat} (k : Nat) (v : Int32) (h : q ≠ r) : z_u2 g r k v q = g q := if_neg h
theorem m_us (f : Nat → Int32) (k : Nat) (v : Int32) : upd f k v k = v := if_pos rfl
theorem m_un (f : Nat → Int32) {k j : Nat} (v : Int32) (h : j ≠ k) : upd f k v j = f j := if_neg h
theorem m_bind {α β : Type} (x : α) (f : α → Option β) : (some x).bind f = f x := rfl
theorem m_b2 {α β γ : Type} (x : α) (u : β) (f : α → β → Option γ) : z_b2 (some (x, u)) f = f x u := rfl
theorem m_lt {α β : Type} (x : α) (f : α → β) : z_lt x f = f x := rfl
theorem m_ifT {α : Type} {c : Prop} [Decidable c] (x y : α) (h : c) : (if c then x else y) = x := if_pos h
theorem m_ifF {α : Type} {c : Prop} [Decidable c] (x y : α) (h : ¬ c) : (if c then x else y) = y := if_neg h
/-- an int is negative, or too large, or a number -/
theorem m_ix (x : Int32) {n : Nat} (hn : n < 2 ^ 31) : x < 0 ∨ nI n ≤ x ∨ ∃ j : Nat, j < n ∧ x = nI j := pk_ix x hn
/-- what an order's row may hold -/
def m_Vd (P r : Nat) (x : Int32) : Prop :=
  (r = 1 → ∃ a, a < 4 ∧ x = nI a) ∧ (r = 2 → ∃ w, 1 ≤ w ∧ w ≤ 9 ∧ x = nI w) ∧ (r = 3 ∨ r = 4 → x = -1 ∨ ∃ k, k < 16 ∧ x = nI k) ∧ (r = 5 → ∃ b, b ≤ 99 ∧ x = nI b) ∧ (r = 6 → x = -1 ∨ ∃ p, p < P ∧ x = nI p)
/-- the state g of the class and the row s of the reference: n orders, P places, the tick T, J jumps; they agree in what E names (rows 1 to 9 of the orders, 10 paid, 11 refunded, 12 the jumps, 0 tick and end) -/
def RS (E : Nat → Prop) (n P T J : Nat) (g : z_R) (s : Nat → Int32) : Prop :=
  (n ≤ 16 ∧ 6 ≤ P ∧ P ≤ 40 ∧ J ≤ 256) ∧
  (g 0 0 = nI P ∧ g 0 1 = nI n ∧ g 0 2 = nI T ∧ g 0 4 = nI J) ∧
  (s 0 = nI P ∧ s 2 = nI n) ∧ (E 0 → s 1 = nI T ∧ s 4 = g 0 3) ∧ (E 12 → s 3 = nI J) ∧
  (∀ i, i < 4 → (E 10 → s (5 + i) = g 10 i) ∧ (E 11 → s (9 + i) = g 11 i)) ∧
  (∀ o r, o < n → 1 ≤ r → r ≤ 9 → (E r → s (12 + 9 * o + r) = g r o) ∧ m_Vd P r (g r o)) ∧
  (∀ o q, o < n → q < n → o ≠ q → g 6 o = g 6 q → g 6 o = -1) ∧
  (∀ o, n ≤ o → o < 16 → g 8 o = 0) ∧
  (E 12 → ∀ i, i < J → s (157 + 3 * i) = g 13 i ∧ s (157 + 3 * i + 1) = g 14 i ∧ s (157 + 3 * i + 2) = g 15 i) ∧
  (∀ i, i < J → (∃ x, x < 16 ∧ g 13 i = nI x) ∧ ∃ y, y < 16 ∧ g 14 i = nI y) ∧
  (∀ i k, i < k → k < J → ¬ (g 13 i = g 13 k ∧ g 14 i = g 14 k))
section MRS
variable {E : Nat → Prop} {n P T J : Nat} {g : z_R} {s : Nat → Int32}
theorem RS.n16 (h : RS E n P T J g s) : n ≤ 16 := h.1.1
theorem RS.P6 (h : RS E n P T J g s) : 6 ≤ P := h.1.2.1
theorem RS.P40 (h : RS E n P T J g s) : P ≤ 40 := h.1.2.2.1
theorem RS.J256 (h : RS E n P T J g s) : J ≤ 256 := h.1.2.2.2
theorem RS.gP (h : RS E n P T J g s) : g 0 0 = nI P := h.2.1.1
theorem RS.gn (h : RS E n P T J g s) : g 0 1 = nI n := h.2.1.2.1
theorem RS.gT (h : RS E n P T J g s) : g 0 2 = nI T := h.2.1.2.2.1
theorem RS.gJ (h : RS E n P T J g s) : g 0 4 = nI J := h.2.1.2.2.2
theorem RS.sP (h : RS E n P T J g s) : s 0 = nI P := h.2.2.1.1
theorem RS.sn (h : RS E n P T J g s) : s 2 = nI n := h.2.2.1.2
theorem RS.sT (h : RS E n P T J g s) (e : E 0) : s 1 = nI T := (h.2.2.2.1 e).1
theorem RS.sE (h : RS E n P T J g s) (e : E 0) : s 4 = g 0 3 := (h.2.2.2.1 e).2
theorem RS.sJ (h : RS E n P T J g s) (e : E 12) : s 3 = nI J := h.2.2.2.2.1 e
theorem RS.pd (h : RS E n P T J g s) {i : Nat} (hi : i < 4) (e : E 10) : s (5 + i) = g 10 i := (h.2.2.2.2.2.1 i hi).1 e
theorem RS.rf (h : RS E n P T J g s) {i : Nat} (hi : i < 4) (e : E 11) : s (9 + i) = g 11 i := (h.2.2.2.2.2.1 i hi).2 e
theorem RS.or (h : RS E n P T J g s) {o r : Nat} (ho : o < n) (h1 : 1 ≤ r) (h2 : r ≤ 9) (e : E r) : s (12 + 9 * o + r) = g r o := (h.2.2.2.2.2.2.1 o r ho h1 h2).1 e
theorem RS.vd (h : RS E n P T J g s) {o r : Nat} (ho : o < n) (h1 : 1 ≤ r) (h2 : r ≤ 9) : m_Vd P r (g r o) := (h.2.2.2.2.2.2.1 o r ho h1 h2).2
theorem RS.au (h : RS E n P T J g s) {o : Nat} (ho : o < n) : ∃ a, a < 4 ∧ g 1 o = nI a := (h.vd ho (r := 1) (by omega) (by omega)).1 rfl
theorem RS.wo (h : RS E n P T J g s) {o : Nat} (ho : o < n) : ∃ w, 1 ≤ w ∧ w ≤ 9 ∧ g 2 o = nI w := (h.vd ho (r := 2) (by omega) (by omega)).2.1 rfl
theorem RS.ne (h : RS E n P T J g s) {o : Nat} (ho : o < n) : g 3 o = -1 ∨ ∃ k, k < 16 ∧ g 3 o = nI k := (h.vd ho (r := 3) (by omega) (by omega)).2.2.1 (Or.inl rfl)
theorem RS.ex (h : RS E n P T J g s) {o : Nat} (ho : o < n) : g 4 o = -1 ∨ ∃ k, k < 16 ∧ g 4 o = nI k := (h.vd ho (r := 4) (by omega) (by omega)).2.2.1 (Or.inr rfl)
theorem RS.br (h : RS E n P T J g s) {o : Nat} (ho : o < n) : ∃ b, b ≤ 99 ∧ g 5 o = nI b := (h.vd ho (r := 5) (by omega) (by omega)).2.2.2.1 rfl
theorem RS.pl (h : RS E n P T J g s) {o : Nat} (ho : o < n) : g 6 o = -1 ∨ ∃ p, p < P ∧ g 6 o = nI p := (h.vd ho (r := 6) (by omega) (by omega)).2.2.2.2 rfl
theorem RS.ap (h : RS E n P T J g s) {o q : Nat} (ho : o < n) (hq : q < n) (hoq : o ≠ q) (e : g 6 o = g 6 q) : g 6 o = -1 := h.2.2.2.2.2.2.2.1 o q ho hq hoq e
theorem RS.op0 (h : RS E n P T J g s) {o : Nat} (ho : n ≤ o) (h16 : o < 16) : g 8 o = 0 := h.2.2.2.2.2.2.2.2.1 o ho h16
theorem RS.ju (h : RS E n P T J g s) (e : E 12) {i : Nat} (hi : i < J) : s (157 + 3 * i) = g 13 i ∧ s (157 + 3 * i + 1) = g 14 i ∧ s (157 + 3 * i + 2) = g 15 i := h.2.2.2.2.2.2.2.2.2.1 e i hi
theorem RS.jv (h : RS E n P T J g s) {i : Nat} (hi : i < J) : (∃ x, x < 16 ∧ g 13 i = nI x) ∧ ∃ y, y < 16 ∧ g 14 i = nI y := h.2.2.2.2.2.2.2.2.2.2.1 i hi
theorem RS.jd (h : RS E n P T J g s) {i k : Nat} (hi : i < k) (hk : k < J) : ¬ (g 13 i = g 13 k ∧ g 14 i = g 14 k) := h.2.2.2.2.2.2.2.2.2.2.2 i k hi hk
/-- one number of an order is changed on both sides -/
theorem RS.part (h : RS E n P T J g s) {j r : Nat} {v : Int32} (hj : j < n) (h1 : 1 ≤ r) (h2 : r ≤ 9) (hv : m_Vd P r v) (h6 : r = 6 → v = -1 ∨ ∀ q, q < n → q ≠ j → g 6 q ≠ v) : RS E n P T J (z_u2 g r j v) (upd s (12 + 9 * j + r) v) := by
  have hn := h.n16
  have hJ := h.J256
  refine ⟨h.1, ?_, ?_, ?_, ?_, ?_, ?_, ?_, ?_, ?_, ?_, ?_⟩
  · rw [m_u2n g j v (by omega : (0 : Nat) ≠ r)]; exact h.2.1
  · rw [m_un s v (by omega), m_un s v (by omega)]; exact h.2.2.1
  · rw [m_un s v (by omega), m_un s v (by omega), m_u2n g j v (by omega : (0 : Nat) ≠ r)]; exact h.2.2.2.1
  · rw [m_un s v (by omega)]; exact h.2.2.2.2.1
  · intro i hi
    rw [m_un s v (by omega), m_un s v (by omega), m_u2n g j v (by omega : (10 : Nat) ≠ r), m_u2n g j v (by omega : (11 : Nat) ≠ r)]
    exact h.2.2.2.2.2.1 i hi
  · intro o q ho hq1 hq2
    by_cases hr : q = r
    · subst hr
      rw [m_u2s]
      by_cases ho2 : o = j
      · subst ho2
        rw [m_us, m_us]
        exact ⟨fun _ => rfl, hv⟩
      · rw [m_un _ v ho2, m_un s v (by omega)]
        exact h.2.2.2.2.2.2.1 o q ho hq1 hq2
    · rw [m_u2n g j v hr, m_un s v (by omega)]
      exact h.2.2.2.2.2.2.1 o q ho hq1 hq2
  · intro o q ho hq hoq
    by_cases hr : r = 6
    · subst hr
      rw [m_u2s]
      by_cases ho2 : o = j
      · subst ho2
        rw [m_us, m_un _ v (fun e => hoq e.symm)]
        intro e
        rcases h6 rfl with h7 | h7
        · exact h7
        · exact absurd e.symm (h7 q hq (fun e => hoq e.symm))
      · rw [m_un _ v ho2]
        by_cases hq2 : q = j
        · subst hq2
          rw [m_us]
          intro e
          rcases h6 rfl with h7 | h7
          · rw [e]; exact h7
          · exact absurd e (h7 o ho hoq)
        · rw [m_un _ v hq2]; exact h.ap ho hq hoq
    · rw [m_u2n g j v (fun e => hr e.symm)]; exact h.ap ho hq hoq
  · intro o ho h16
    by_cases hr : r = 8
    · subst hr
      rw [m_u2s, m_un _ v (by omega)]; exact h.op0 ho h16
    · rw [m_u2n g j v (fun e => hr e.symm)]; exact h.op0 ho h16
  · intro e i hi
    rw [m_un s v (by omega), m_un s v (by omega), m_un s v (by omega), m_u2n g j v (by omega : (13 : Nat) ≠ r), m_u2n g j v (by omega : (14 : Nat) ≠ r), m_u2n g j v (by omega : (15 : Nat) ≠ r)]
    exact h.ju e hi
  · intro i hi
    rw [m_u2n g j v (by omega : (13 : Nat) ≠ r), m_u2n g j v (by omega : (14 : Nat) ≠ r)]; exact h.jv hi
  · intro i k hi hk
    rw [m_u2n g j v (by omega : (13 : Nat) ≠ r), m_u2n g j v (by omega : (14 : Nat) ≠ r)]; exact h.jd hi hk
/-- paid (row 10) or refunded (row 11) is changed on both sides -/
theorem RS.acc (h : RS E n P T J g s) {i r : Nat} {v w : Int32} (hi : i < 4) (hr : r = 10 ∨ r = 11) (hvw : E r → w = v) : RS E n P T J (z_u2 g r i v) (upd s (4 * r - 35 + i) w) := by
  have hn := h.n16
  have hJ := h.J256
  refine ⟨h.1, ?_, ?_, ?_, ?_, ?_, ?_, ?_, ?_, ?_, ?_, ?_⟩
  · rw [m_u2n g i v (by omega : (0 : Nat) ≠ r)]; exact h.2.1
  · rw [m_un s w (by omega), m_un s w (by omega)]; exact h.2.2.1
  · rw [m_un s w (by omega), m_un s w (by omega), m_u2n g i v (by omega : (0 : Nat) ≠ r)]; exact h.2.2.2.1
  · rw [m_un s w (by omega)]; exact h.2.2.2.2.1
  · intro k hk
    rcases hr with e | e
    · subst e
      rw [m_u2s, m_u2n g i v (by omega : (11 : Nat) ≠ 10), m_un s w (show 9 + k ≠ _ by omega)]
      refine ⟨fun e => ?_, (h.2.2.2.2.2.1 k hk).2⟩
      by_cases h2 : k = i
      · subst h2
        rw [show 4 * 10 - 35 + k = 5 + k by omega, m_us, m_us]; exact hvw e
      · rw [m_un s w (by omega), m_un _ v h2]; exact h.pd hk e
    · subst e
      rw [m_u2s, m_u2n g i v (by omega : (10 : Nat) ≠ 11), m_un s w (show 5 + k ≠ _ by omega)]
      refine ⟨(h.2.2.2.2.2.1 k hk).1, fun e => ?_⟩
      by_cases h2 : k = i
      · subst h2
        rw [show 4 * 11 - 35 + k = 9 + k by omega, m_us, m_us]; exact hvw e
      · rw [m_un s w (by omega), m_un _ v h2]; exact h.rf hk e
  · intro o q ho hq1 hq2
    rw [m_u2n g i v (by omega : q ≠ r), m_un s w (by omega)]
    exact h.2.2.2.2.2.2.1 o q ho hq1 hq2
  · intro o q ho hq hoq
    rw [m_u2n g i v (by omega : (6 : Nat) ≠ r)]; exact h.ap ho hq hoq
  · intro o ho h16
    rw [m_u2n g i v (by omega : (8 : Nat) ≠ r)]; exact h.op0 ho h16
  · intro e k hk
    rw [m_un s w (by omega), m_un s w (by omega), m_un s w (by omega), m_u2n g i v (by omega : (13 : Nat) ≠ r), m_u2n g i v (by omega : (14 : Nat) ≠ r), m_u2n g i v (by omega : (15 : Nat) ≠ r)]
    exact h.ju e hk
  · intro k hk
    rw [m_u2n g i v (by omega : (13 : Nat) ≠ r), m_u2n g i v (by omega : (14 : Nat) ≠ r)]; exact h.jv hk
  · intro k q hk hq
    rw [m_u2n g i v (by omega : (13 : Nat) ≠ r), m_u2n g i v (by omega : (14 : Nat) ≠ r)]; exact h.jd hk hq
end MRS
