/-! the text: which character is allowed where; the class's check -/
def m_Tk (c : Nat → Nat) (len : Nat) (t : z_R) : Prop := len ≤ 160 ∧ t 0 0 = nI len ∧ ∀ i, i < len → c i < 256 ∧ t 1 i = nI (c i)
def m_Tr (c : Nat → Nat) (len : Nat) (m : z_R) : Prop := len ≤ 160 ∧ m 0 2 = nI len ∧ ∀ i, i < len → c i < 256 ∧ m 8 i = nI (c i)
theorem m_Tx.c {X : z_X} {m : z_R} (h : m_Tx X m) : ∃ c len, m_Tk c len X.1 ∧ m_Tr c len m := by
  obtain ⟨len, t1, t2, t3, t4⟩ := h
  have q : ∀ i, ∃ c, i < len → c < 256 ∧ X.1 1 i = nI c ∧ m 8 i = nI c := by
    intro i
    by_cases hi : i < len
    · obtain ⟨c, hc⟩ := t4 i hi
      exact ⟨c, fun _ => hc⟩
    · exact ⟨0, fun hh => absurd hh hi⟩
  obtain ⟨c, hc⟩ : ∃ c : Nat → Nat, ∀ i, i < len → c i < 256 ∧ X.1 1 i = nI (c i) ∧ m 8 i = nI (c i) := ⟨fun i => Classical.choose (q i), fun i => Classical.choose_spec (q i)⟩
  exact ⟨c, len, ⟨t1, t2, fun i hi => ⟨(hc i hi).1, (hc i hi).2.1⟩⟩, ⟨t1, t3, fun i hi => ⟨(hc i hi).1, (hc i hi).2.2⟩⟩⟩
theorem m_Tr.u {c : Nat → Nat} {len : Nat} {m : z_R} (h : m_Tr c len m) (s : Nat → Int32) : m_Tr c len (z_uR m 4 s) := by
  refine ⟨h.1, ?_, fun i hi => ?_⟩
  · rw [m_other _ _ (by decide : (0 : Nat) ≠ 4)]; exact h.2.1
  · rw [m_other _ _ (by decide : (8 : Nat) ≠ 4)]; exact h.2.2 i hi
/-- the second sign of a link behind the first -/
def m_eL (a b : Nat) : Prop := (a = 45 ∧ b = 45) ∨ (¬ a = 45 ∧ 48 ≤ b ∧ b ≤ 57 ∧ (a = 48 ∨ b ≤ 53))
def m_kk (a : Nat) : Prop := a = 48 ∨ a = 49 ∨ a = 45
def m_alk (c : Nat → Nat) (i k : Nat) : Prop := (k = 0 → c i = 111) ∧ (k = 1 → 48 ≤ c i ∧ c i ≤ 51) ∧ (k = 2 → 49 ≤ c i ∧ c i ≤ 57) ∧ (k = 3 ∨ k = 5 → m_kk (c i)) ∧ (k = 4 ∨ k = 6 → m_eL (c (i - 1)) (c i)) ∧ (k = 7 ∨ k = 8 → 48 ≤ c i ∧ c i ≤ 57)
def m_al (c : Nat → Nat) (i : Nat) : Prop := (i = 0 → c 0 = 68) ∧ (i = 1 → 48 ≤ c 1 ∧ c 1 ≤ 52) ∧ (i = 2 → 48 ≤ c 2 ∧ c 2 ≤ 57 ∧ 6 ≤ 10 * (c 1 - 48) + (c 2 - 48) ∧ 10 * (c 1 - 48) + (c 2 - 48) ≤ 40) ∧ (3 ≤ i → i < 147 ∧ m_alk c i ((i - 3) % 9))
theorem m_isD {N a : Nat} (ha : a < 2 ^ 31) : (fX3_isDigit N (nI a) = some 1 ∧ 48 ≤ a ∧ a ≤ 57) ∨ (fX3_isDigit N (nI a) = some 0 ∧ ¬ (48 ≤ a ∧ a ≤ 57)) := by
  unfold fX3_isDigit
  by_cases c1 : a < 48
  · exact Or.inr ⟨if_pos (show nI a < (48 : Int32) from nI_lt (b := 48) c1 (by decide)), by omega⟩
  · rw [if_neg (show ¬ nI a < (48 : Int32) from nI_nlt (b := 48) (a := a) (by omega) ha)]
    by_cases c2 : 57 < a
    · exact Or.inr ⟨if_pos (show (57 : Int32) < nI a from nI_lt (a := 57) c2 ha), by omega⟩
    · exact Or.inl ⟨if_neg (show ¬ (57 : Int32) < nI a from nI_nlt (b := a) (a := 57) (by omega) (by decide)), by omega, by omega⟩
section MT1
variable {N len : Nat} {c : Nat → Nat} {t : z_R}
theorem m_cd (h : m_Tk c len t) {i : Nat} (hi : i < len) : fX3_code N (nI i) t = some (nI (c i)) := by
  have h1 := h.1
  unfold fX3_code
  rw [if_neg (m_neg (by omega)), if_neg (show ¬ (160 : Int32) ≤ nI i from nI_ge (b := 160) (by omega) (by decide)), m_in (by omega) (by decide), m_ckt, m_clamp (by omega), (h.2.2 i hi).2]
theorem m_neq {a k : Nat} (ha : a < 2 ^ 31) (hk : k < 2 ^ 31) (h : ¬ a = k) : ¬ nI a = nI k := fun q => h (m_nI_inj ha hk q)
theorem m_ends {a b : Nat} (ha : a < 256) (hb : b < 256) : (fX3_endsLink N (nI a) (nI b) = some 1 ∧ m_eL a b) ∨ (fX3_endsLink N (nI a) (nI b) = some 0 ∧ ¬ m_eL a b) := by
  unfold fX3_endsLink m_eL
  by_cases c1 : a = 45
  · rw [if_pos (show nI a = (45 : Int32) from congrArg nI c1)]
    by_cases c2 : b = 45
    · exact Or.inl ⟨if_pos (show nI b = (45 : Int32) from congrArg nI c2), by omega⟩
    · exact Or.inr ⟨if_neg (show ¬ nI b = (45 : Int32) from m_neq (k := 45) (by omega) (by decide) c2), by omega⟩
  · rw [if_neg (show ¬ nI a = (45 : Int32) from m_neq (k := 45) (by omega) (by decide) c1)]
    rcases m_isD (N := N) (a := b) (by omega) with ⟨q, q1, q2⟩ | ⟨q, q1⟩
    · rw [q, m_bind, if_neg m_1_0]
      by_cases c2 : a = 48
      · exact Or.inl ⟨if_pos (show nI a = (48 : Int32) from congrArg nI c2), by omega⟩
      · rw [if_neg (show ¬ nI a = (48 : Int32) from m_neq (k := 48) (by omega) (by decide) c2)]
        by_cases c3 : 53 < b
        · exact Or.inr ⟨if_pos (show (53 : Int32) < nI b from nI_lt (a := 53) c3 (by omega)), by omega⟩
        · exact Or.inl ⟨if_neg (show ¬ (53 : Int32) < nI b from nI_nlt (b := b) (a := 53) (by omega) (by decide)), by omega⟩
    · rw [q, m_bind, if_pos m_00]
      exact Or.inr ⟨rfl, by omega⟩
theorem m_kd3 {a : Nat} (ha : a < 256) : ((if nI a = (48 : Int32) then some (1 : Int32) else if nI a = (49 : Int32) then some 1 else if nI a = (45 : Int32) then some 1 else some 0) = some 1 ∧ m_kk a) ∨ ((if nI a = (48 : Int32) then some (1 : Int32) else if nI a = (49 : Int32) then some 1 else if nI a = (45 : Int32) then some 1 else some 0) = some 0 ∧ ¬ m_kk a) := by
  unfold m_kk
  by_cases c1 : a = 48
  · exact Or.inl ⟨if_pos (show nI a = (48 : Int32) from congrArg nI c1), by omega⟩
  · rw [if_neg (show ¬ nI a = (48 : Int32) from m_neq (k := 48) (by omega) (by decide) c1)]
    by_cases c2 : a = 49
    · exact Or.inl ⟨if_pos (show nI a = (49 : Int32) from congrArg nI c2), by omega⟩
    · rw [if_neg (show ¬ nI a = (49 : Int32) from m_neq (k := 49) (by omega) (by decide) c2)]
      by_cases c3 : a = 45
      · exact Or.inl ⟨if_pos (show nI a = (45 : Int32) from congrArg nI c3), by omega⟩
      · exact Or.inr ⟨if_neg (show ¬ nI a = (45 : Int32) from m_neq (k := 45) (by omega) (by decide) c3), by omega⟩
theorem m_rg3 {a lo hi : Nat} (ha : a < 256) (hl : lo < 256) (hh : hi < 256) : ((if nI a < nI lo then some (0 : Int32) else if nI (hi + 1) ≤ nI a then some 0 else some 1) = some 1 ∧ lo ≤ a ∧ a ≤ hi) ∨ ((if nI a < nI lo then some (0 : Int32) else if nI (hi + 1) ≤ nI a then some 0 else some 1) = some 0 ∧ ¬ (lo ≤ a ∧ a ≤ hi)) := by
  by_cases c1 : a < lo
  · exact Or.inr ⟨if_pos (nI_lt c1 (by omega)), by omega⟩
  · rw [if_neg (nI_nlt (b := lo) (a := a) (by omega) (by omega))]
    by_cases c2 : hi + 1 ≤ a
    · exact Or.inr ⟨if_pos (nI_le c2 (by omega)), by omega⟩
    · exact Or.inl ⟨if_neg (nI_ge (by omega) (by omega)), by omega, by omega⟩
theorem m_rg4 {a lo hi : Nat} (ha : a < 256) (hl : lo < 256) (hh : hi < 256) : ((if nI a < nI lo then some (0 : Int32) else if nI hi < nI a then some 0 else some 1) = some 1 ∧ lo ≤ a ∧ a ≤ hi) ∨ ((if nI a < nI lo then some (0 : Int32) else if nI hi < nI a then some 0 else some 1) = some 0 ∧ ¬ (lo ≤ a ∧ a ≤ hi)) := by
  by_cases c1 : a < lo
  · exact Or.inr ⟨if_pos (nI_lt c1 (by omega)), by omega⟩
  · rw [if_neg (nI_nlt (b := lo) (a := a) (by omega) (by omega))]
    by_cases c2 : hi < a
    · exact Or.inr ⟨if_pos (nI_lt c2 (by omega)), by omega⟩
    · exact Or.inl ⟨if_neg (nI_nlt (by omega) (by omega)), by omega, by omega⟩
/-- the head's three characters -/
theorem m_hd (h : m_Tk c len t) {i : Nat} (hi : i < len) (h3 : i < 3) (hp : ∀ j, j < i → m_al c j) : (fX3_isAllowedInHead N (nI i) (nI (c i)) t = some 1 ∧ m_al c i) ∨ (fX3_isAllowedInHead N (nI i) (nI (c i)) t = some 0 ∧ ¬ m_al c i) := by
  have h1 := h.1
  have hc := (h.2.2 i hi).1
  unfold fX3_isAllowedInHead
  rcases (show i = 0 ∨ i = 1 ∨ i = 2 by omega) with e | e | e
  · subst e
    rw [if_pos (show nI 0 = 0 from nI_0)]
    by_cases c1 : c 0 = 68
    · exact Or.inl ⟨if_pos (show nI (c 0) = (68 : Int32) from congrArg nI c1), fun _ => c1, fun q => by omega, fun q => by omega, fun q => by omega⟩
    · exact Or.inr ⟨if_neg (show ¬ nI (c 0) = (68 : Int32) from m_neq (k := 68) (by omega) (by decide) c1), fun q => c1 (q.1 rfl)⟩
  · subst e
    rw [if_neg (show ¬ nI 1 = 0 by decide), if_pos (show nI 1 = (1 : Int32) from rfl)]
    rcases m_rg4 (a := c 1) (lo := 48) (hi := 52) hc (by decide) (by decide) with ⟨q, q1, q2⟩ | ⟨q, q1⟩
    · exact Or.inl ⟨q, fun q => by omega, fun _ => ⟨q1, q2⟩, fun q => by omega, fun q => by omega⟩
    · exact Or.inr ⟨q, fun z => q1 (z.2.1 rfl)⟩
  · subst e
    have hc1 := (h.2.2 1 (by omega)).1
    obtain ⟨a1, a2⟩ := (hp 1 (by decide)).2.1 rfl
    rw [if_neg (show ¬ nI 2 = 0 by decide), if_neg (show ¬ nI 2 = (1 : Int32) by decide), show fX3_code N (1 : Int32) t = some (nI (c 1)) from m_cd (i := 1) h (by omega), m_bind]
    rcases m_isD (N := N) (a := c 2) (by omega) with ⟨q, q1, q2⟩ | ⟨q, q1⟩
    · rw [q, m_bind, if_neg m_1_0]
      have ev : ((((10 : Int32) * (nI (c 1) - (48 : Int32))) + nI (c 2)) - (48 : Int32)) = nI (10 * (c 1 - 48) + (c 2 - 48)) := by
        rw [show nI (c 1) - (48 : Int32) = nI (c 1 - 48) from pk_sub (b := 48) a1, show (10 : Int32) * nI (c 1 - 48) = nI (10 * (c 1 - 48)) from pk_mul 10 _, nI_add, show nI (10 * (c 1 - 48) + c 2) - (48 : Int32) = nI (10 * (c 1 - 48) + c 2 - 48) from pk_sub (b := 48) (by omega), show 10 * (c 1 - 48) + c 2 - 48 = 10 * (c 1 - 48) + (c 2 - 48) by omega]
      rw [ev]
      rcases m_rg4 (a := 10 * (c 1 - 48) + (c 2 - 48)) (lo := 6) (hi := 40) (by omega) (by decide) (by decide) with ⟨w, w1, w2⟩ | ⟨w, w1⟩
      · exact Or.inl ⟨w, fun q => by omega, fun q => by omega, fun _ => ⟨q1, q2, w1, w2⟩, fun q => by omega⟩
      · exact Or.inr ⟨w, fun z => w1 ⟨(z.2.2.1 rfl).2.2.1, (z.2.2.1 rfl).2.2.2⟩⟩
    · rw [q, m_bind, if_pos m_00]
      exact Or.inr ⟨rfl, fun z => q1 ⟨(z.2.2.1 rfl).1, (z.2.2.1 rfl).2.1⟩⟩
theorem m_alx {j k : Nat} (hj : j < 16) (hk : k < 9) : m_al c (3 + 9 * j + k) ↔ m_alk c (3 + 9 * j + k) k := by
  have e : (3 + 9 * j + k - 3) % 9 = k := by omega
  unfold m_al
  rw [e]
  exact ⟨fun z => (z.2.2.2 (by omega)).2, fun z => ⟨fun q => by omega, fun q => by omega, fun q => by omega, fun _ => ⟨by omega, z⟩⟩⟩
theorem m_wrap {p : Option Int32} {A : Prop} (h : (p = some 1 ∧ A) ∨ (p = some 0 ∧ ¬ A)) : ((p.bind fun r => z_ck (z_bo r) (some r)) = some 1 ∧ A) ∨ ((p.bind fun r => z_ck (z_bo r) (some r)) = some 0 ∧ ¬ A) := by
  rcases h with ⟨q, w⟩ | ⟨q, w⟩
  · exact Or.inl ⟨by rw [q, m_bind, m_b1, m_ckt], w⟩
  · exact Or.inr ⟨by rw [q, m_bind, m_b0, m_ckt], w⟩
theorem m_iff {p : Option Int32} {A B : Prop} (h : (p = some 1 ∧ A) ∨ (p = some 0 ∧ ¬ A)) (e : B ↔ A) : (p = some 1 ∧ B) ∨ (p = some 0 ∧ ¬ B) := by
  rw [e]; exact h
theorem m_all (h : m_Tk c len t) {i : Nat} (hi : i < len) (hp : ∀ j, j < i → m_al c j) : (fX3_isAllowed N (nI i) t = some 1 ∧ m_al c i) ∨ (fX3_isAllowed N (nI i) t = some 0 ∧ ¬ m_al c i) := by
  have h1 := h.1
  have hc := (h.2.2 i hi).1
  unfold fX3_isAllowed
  rw [m_cd h hi, m_bind]
  by_cases c3 : i < 3
  · rw [if_neg (show ¬ (3 : Int32) ≤ nI i from nI_ge (b := 3) c3 (by decide))]
    exact m_wrap (m_hd h hi c3 hp)
  · rw [if_pos (show (3 : Int32) ≤ nI i from nI_le (a := 3) (by omega) (by omega))]
    by_cases c4 : i < 147
    · rw [if_pos (show nI i < (147 : Int32) from nI_lt (b := 147) c4 (by decide))]
      obtain ⟨j, k, hk, rfl⟩ : ∃ j k, k < 9 ∧ i = 3 + 9 * j + k := ⟨(i - 3) / 9, (i - 3) % 9, by omega, by omega⟩
      have e : ((nI (3 + 9 * j + k) - (3 : Int32)) - (nI (3 + 9 * j + k) - (3 : Int32)) / (9 : Int32) * (9 : Int32)) = nI k := by
        rw [show nI (3 + 9 * j + k) - (3 : Int32) = nI (3 + 9 * j + k - 3) from pk_sub (b := 3) (by omega), show (9 : Int32) = nI 9 from rfl, pk_rem (by omega) (by decide) (by decide), show (3 + 9 * j + k - 3) % 9 = k by omega]
      have hc2 : 0 < k → c (3 + 9 * j + k - 1) < 256 := fun _ => (h.2.2 (3 + 9 * j + k - 1) (by omega)).1
      have hcd : 0 < k → fX3_code N (nI (3 + 9 * j + k) - (1 : Int32)) t = some (nI (c (3 + 9 * j + k - 1))) := fun _ => by
        rw [m_pred (by omega)]; exact m_cd h (by omega)
      refine m_iff ?_ (m_alx (c := c) (by omega) hk)
      rw [e]
      clear e
      rcases (show k = 0 ∨ k = 1 ∨ k = 2 ∨ k = 3 ∨ k = 4 ∨ k = 5 ∨ k = 6 ∨ k = 7 ∨ k = 8 by omega) with q | q | q | q | q | q | q | q | q <;> subst q
      · rw [if_pos (by decide)]
        by_cases w : c (3 + 9 * j + 0) = 111
        · exact Or.inl ⟨if_pos (show nI _ = (111 : Int32) from congrArg nI w), fun _ => w, fun z => by omega, fun z => by omega, fun z => by omega, fun z => by omega, fun z => by omega⟩
        · exact Or.inr ⟨if_neg (show ¬ nI _ = (111 : Int32) from m_neq (k := 111) (by omega) (by decide) w), fun z => w (z.1 rfl)⟩
      · rw [if_neg (by decide), if_pos (by decide)]
        exact m_iff (m_rg3 (a := c (3 + 9 * j + 1)) (lo := 48) (hi := 51) hc (by decide) (by decide)) ⟨fun z => z.2.1 rfl, fun z => ⟨fun z => by omega, fun _ => z, fun z => by omega, fun z => by omega, fun z => by omega, fun z => by omega⟩⟩
      · rw [if_neg (by decide), if_neg (by decide), if_pos (by decide)]
        exact m_iff (m_rg4 (a := c (3 + 9 * j + 2)) (lo := 49) (hi := 57) hc (by decide) (by decide)) ⟨fun z => z.2.2.1 rfl, fun z => ⟨fun z => by omega, fun z => by omega, fun _ => z, fun z => by omega, fun z => by omega, fun z => by omega⟩⟩
      · rw [if_neg (by decide), if_neg (by decide), if_neg (by decide), if_pos (by decide)]
        exact m_iff (m_kd3 (a := c (3 + 9 * j + 3)) hc) ⟨fun z => z.2.2.2.1 (Or.inl rfl), fun z => ⟨fun z => by omega, fun z => by omega, fun z => by omega, fun _ => z, fun z => by omega, fun z => by omega⟩⟩
      · rw [if_neg (by decide), if_neg (by decide), if_neg (by decide), if_neg (by decide), if_pos (by decide), hcd (by decide), m_bind]
        exact m_iff (m_wrap (m_ends (hc2 (by decide)) hc)) ⟨fun z => z.2.2.2.2.1 (Or.inl rfl), fun z => ⟨fun z => by omega, fun z => by omega, fun z => by omega, fun z => by omega, fun _ => z, fun z => by omega⟩⟩
      · rw [if_neg (by decide), if_neg (by decide), if_neg (by decide), if_neg (by decide), if_neg (by decide), if_pos (by decide)]
        exact m_iff (m_kd3 (a := c (3 + 9 * j + 5)) hc) ⟨fun z => z.2.2.2.1 (Or.inr rfl), fun z => ⟨fun z => by omega, fun z => by omega, fun z => by omega, fun _ => z, fun z => by omega, fun z => by omega⟩⟩
      · rw [if_neg (by decide), if_neg (by decide), if_neg (by decide), if_neg (by decide), if_neg (by decide), if_neg (by decide), if_pos (by decide), hcd (by decide), m_bind]
        exact m_iff (m_wrap (m_ends (hc2 (by decide)) hc)) ⟨fun z => z.2.2.2.2.1 (Or.inr rfl), fun z => ⟨fun z => by omega, fun z => by omega, fun z => by omega, fun z => by omega, fun _ => z, fun z => by omega⟩⟩
      · rw [if_neg (by decide), if_neg (by decide), if_neg (by decide), if_neg (by decide), if_neg (by decide), if_neg (by decide), if_neg (by decide)]
        exact m_iff (m_wrap (m_isD (N := N) (a := c (3 + 9 * j + 7)) (by omega))) ⟨fun z => z.2.2.2.2.2 (Or.inl rfl), fun z => ⟨fun z => by omega, fun z => by omega, fun z => by omega, fun z => by omega, fun z => by omega, fun _ => z⟩⟩
      · rw [if_neg (by decide), if_neg (by decide), if_neg (by decide), if_neg (by decide), if_neg (by decide), if_neg (by decide), if_neg (by decide)]
        exact m_iff (m_wrap (m_isD (N := N) (a := c (3 + 9 * j + 8)) (by omega))) ⟨fun z => z.2.2.2.2.2 (Or.inr rfl), fun z => ⟨fun z => by omega, fun z => by omega, fun z => by omega, fun z => by omega, fun z => by omega, fun _ => z⟩⟩
    · exact Or.inr ⟨if_neg (show ¬ nI i < (147 : Int32) from nI_nlt (b := 147) (a := i) (by omega) (by omega)), fun z => c4 (z.2.2.2 (by omega)).1⟩
/-- where the text goes wrong, or its length -/
def m_E (c : Nat → Nat) (len e : Nat) : Prop := e ≤ len ∧ (∀ j, j < e → m_al c j) ∧ (e < len → ¬ m_al c e)
theorem m_Eex (c : Nat → Nat) (len : Nat) : ∃ e, m_E c len e := by
  obtain ⟨e, he, hl⟩ := pk_least (fun k => len ≤ k ∨ ¬ m_al c k) ⟨len, Or.inl (Nat.le_refl _)⟩
  refine ⟨e, ?_, fun j hj => ?_, fun q => he.resolve_left (by omega)⟩
  · rcases Nat.lt_or_ge len e with q | q
    · exact absurd (Or.inl (Nat.le_refl _)) (hl len q)
    · exact q
  · exact Classical.byContradiction fun q => hl j hj (Or.inr q)
theorem m_E.e147 {e : Nat} (h : m_E c len e) : e ≤ 147 := by
  rcases Nat.lt_or_ge 147 e with q | q
  · have := ((h.2.1 147 q).2.2.2 (by decide)).1
    omega
  · exact q
def m_G (len e : Nat) : Prop := e = len ∧ 3 ≤ len ∧ (len - 3) % 9 = 0
theorem m_feL (h : m_Tk c len t) {e : Nat} (he : m_E c len e) : ∀ (k i fu : Nat), i + k = e → k < fu → (m_G len e ∧ lX3_firstError_2 N t fu (nI i) = some (-1)) ∨ (¬ m_G len e ∧ lX3_firstError_2 N t fu (nI i) = some (nI e)) := by
  have h1 := h.1
  have he1 := he.1
  intro k
  induction k with
  | zero =>
    intro i fu hi hfu
    obtain ⟨fu, rfl⟩ : ∃ q, fu = q + 1 := ⟨fu - 1, by omega⟩
    have e0 : i = e := by omega
    subst e0
    rw [lX3_firstError_2.eq_2, h.2.1]
    by_cases c1 : i = len
    · subst c1
      rw [if_pos (nI_le (Nat.le_refl _) (by omega))]
      by_cases c2 : i < 3
      · exact Or.inr ⟨fun z => by have := z.2.1; omega, if_pos (show nI i < (3 : Int32) from nI_lt (b := 3) c2 (by decide))⟩
      · rw [if_neg (show ¬ nI i < (3 : Int32) from nI_nlt (b := 3) (a := i) (by omega) (by omega))]
        rw [show nI i - (3 : Int32) = nI (i - 3) from pk_sub (b := 3) (by omega), show nI (i - 3) - nI (i - 3) / (9 : Int32) * (9 : Int32) = nI ((i - 3) % 9) from pk_rem (d := 9) (by omega) (by decide) (by decide)]
        by_cases c4 : (i - 3) % 9 = 0
        · exact Or.inl ⟨⟨rfl, by omega, c4⟩, if_pos (show nI ((i - 3) % 9) = 0 by rw [c4]; exact nI_0)⟩
        · exact Or.inr ⟨fun z => c4 z.2.2, if_neg (nI_ne0 (by omega) (by omega))⟩
    · have hl : i < len := by omega
      rw [if_neg (nI_ge hl (by omega))]
      rcases m_all (N := N) h hl he.2.1 with ⟨q, w⟩ | ⟨q, w⟩
      · exact absurd w (he.2.2 hl)
      · rw [q, m_bind, if_pos m_00]
        exact Or.inr ⟨fun z => c1 z.1, rfl⟩
  | succ k ih =>
    intro i fu hi hfu
    obtain ⟨fu, rfl⟩ : ∃ q, fu = q + 1 := ⟨fu - 1, by omega⟩
    have hl : i < len := by omega
    rw [lX3_firstError_2.eq_2, h.2.1, if_neg (nI_ge hl (by omega))]
    rcases m_all (N := N) h hl (fun j hj => he.2.1 j (by omega)) with ⟨q, w⟩ | ⟨q, w⟩
    · rw [q, m_bind, if_neg m_1_0, nI_1]
      exact ih (i + 1) fu (by omega) (by omega)
    · exact absurd (he.2.1 i (by omega)) w
theorem m_fe (h : m_Tk c len t) (hN : 200 ≤ N) {e : Nat} (he : m_E c len e) : (m_G len e ∧ fX3_firstError N t = some (-1)) ∨ (¬ m_G len e ∧ fX3_firstError N t = some (nI e)) := m_feL (N := N) h he e 0 N (by omega) (by have := he.1; have := h.1; omega)
end MT1
