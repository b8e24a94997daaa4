/-! the law's own rows: three of them (q, or, ju), with a fourth (done), beside the drum, twice beside the drum -/
def z_q3 (c : Nat → ClassId) (d : Nat → Nat) (g : z_R) : va_W := [(d 0, .inl (c 0, 12, .inl (g 0))), (d 1, .inl (c 0, 54, .inl (g 1))), (d 2, .inl (c 0, 64, .inl (g 2)))]
abbrev z_V : Type := z_R × (Nat → Int32)
def z_q4 (c : Nat → ClassId) (d : Nat → Nat) (o : Nat) (Y : z_V) : va_W := [(d 0, .inl (c 0, 12, .inl (Y.1 0))), (d 1, .inl (c 0, 54, .inl (Y.1 1))), (d 2, .inl (c 0, 64, .inl (Y.1 2))), (o, .inl (c 0, 6, .inl Y.2))]
abbrev z_N : Type := z_X × z_R
def z_nw (c : Nat → ClassId) (b : Nat → Nat) (a : Nat → Nat → Nat) (d : Nat → Nat) (Y : z_N) : va_W := z_dw c b a Y.1 ++ z_q3 c d Y.2
abbrev z_O : Type := z_X × z_R × z_R
def z_vw (c : Nat → ClassId) (b : Nat → Nat) (a : Nat → Nat → Nat) (d d' : Nat → Nat) (Y : z_O) : va_W := z_dw c b a Y.1 ++ (z_q3 c d Y.2.1 ++ z_q3 c d' Y.2.2)
theorem z_cutAll {A : Nat → Prop} {V C1 : va_W} (hD : va_D A V) (e : C1.map Prod.fst = V.map Prod.fst) : z_Cut V V C1 C1 := ⟨fun _ h => h, z_nd hD, e, fun _ h => Or.inl h⟩
theorem z_cut3 {A : Nat → Prop} {B1 B2 B3 C3 : va_W} (hD : va_D A (B1 ++ (B2 ++ B3))) (e3 : C3.map Prod.fst = B3.map Prod.fst) : z_Cut (B1 ++ (B2 ++ B3)) B3 C3 (B1 ++ (B2 ++ C3)) := by
  have h := z_nd hD
  rw [List.map_append, List.map_append, List.nodup_append, List.nodup_append] at h
  obtain ⟨n1, ⟨n2, n3, n23⟩, n1r⟩ := h
  refine ⟨fun q hq => List.mem_append_right _ (List.mem_append_right _ hq), n3, by rw [List.map_append, List.map_append, List.map_append, List.map_append, e3], fun q hq => ?_⟩
  rcases List.mem_append.mp hq with h | h
  · exact Or.inr ⟨List.mem_append_left _ h, fun hx => n1r q.1 (List.mem_map.mpr ⟨q, h, rfl⟩) q.1 (List.mem_append_right _ hx) rfl⟩
  · rcases List.mem_append.mp h with h | h
    · exact Or.inr ⟨List.mem_append_right _ (List.mem_append_left _ h), fun hx => n23 q.1 (List.mem_map.mpr ⟨q, h, rfl⟩) q.1 hx rfl⟩
    · exact Or.inl h
theorem z_cut12 {A : Nat → Prop} {B1 B2 B3 C1 C2 : va_W} (hD : va_D A (B1 ++ (B2 ++ B3))) (e1 : C1.map Prod.fst = B1.map Prod.fst) (e2 : C2.map Prod.fst = B2.map Prod.fst) : z_Cut (B1 ++ (B2 ++ B3)) (B1 ++ B2) (C1 ++ C2) (C1 ++ (C2 ++ B3)) := by
  rw [← List.append_assoc, ← List.append_assoc] 
  rw [← List.append_assoc] at hD
  exact z_cut1 hD (by rw [List.map_append, List.map_append, e1, e2])
section ZQ
variable {c : Nat → ClassId} {b : Nat → Nat} {a : Nat → Nat → Nat} {d d' : Nat → Nat} {o : Nat} {A : Nat → Prop}
theorem z_cutQ {g : z_R} (hD : va_D A (z_q3 c d g)) (g' : z_R) : z_Cut (z_q3 c d g) (z_q3 c d g) (z_q3 c d g') (z_q3 c d g') := z_cutAll hD rfl
theorem z_cutQ4 {Y : z_V} (hD : va_D A (z_q4 c d o Y)) (g' : z_R) : z_Cut (z_q4 c d o Y) (z_q3 c d Y.1) (z_q3 c d g') (z_q4 c d o (g', Y.2)) := z_cut1 (B1 := z_q3 c d Y.1) (R := [(o, .inl (c 0, 6, .inl Y.2))]) (C1 := z_q3 c d g') hD rfl
theorem z_cutQ4p {Y : z_V} (hD : va_D A (z_q4 c d o Y)) : z_Cut (z_q4 c d o Y) (z_q3 c d Y.1) (z_q3 c d Y.1) (z_q4 c d o Y) := z_cut1 (B1 := z_q3 c d Y.1) (R := [(o, .inl (c 0, 6, .inl Y.2))]) (C1 := z_q3 c d Y.1) hD rfl
theorem z_in43 {Y : z_V} : ∀ q ∈ z_q3 c d Y.1, q ∈ z_q4 c d o Y := fun q h => show q ∈ z_q3 c d Y.1 ++ [(o, .inl (c 0, 6, .inl Y.2))] from List.mem_append_left _ h
theorem z_cutVQp {Y : z_O} (hD : va_D A (z_vw c b a d d' Y)) : z_Cut (z_vw c b a d d' Y) (z_q3 c d Y.2.1) (z_q3 c d Y.2.1) (z_vw c b a d d' Y) := z_cut2 hD rfl
theorem z_cutVRp {Y : z_O} (hD : va_D A (z_vw c b a d d' Y)) : z_Cut (z_vw c b a d d' Y) (z_q3 c d' Y.2.2) (z_q3 c d' Y.2.2) (z_vw c b a d d' Y) := z_cut3 hD rfl
theorem z_cutND {Y : z_N} (hD : va_D A (z_nw c b a d Y)) (X : z_X) : z_Cut (z_nw c b a d Y) (z_dw c b a Y.1) (z_dw c b a X) (z_nw c b a d (X, Y.2)) := z_cut1 hD z_dwA
theorem z_cutNDp {Y : z_N} (hD : va_D A (z_nw c b a d Y)) : z_Cut (z_nw c b a d Y) (z_dw c b a Y.1) (z_dw c b a Y.1) (z_nw c b a d Y) := z_cut1 hD rfl
theorem z_cutVD {Y : z_O} (hD : va_D A (z_vw c b a d d' Y)) (X : z_X) : z_Cut (z_vw c b a d d' Y) (z_dw c b a Y.1) (z_dw c b a X) (z_vw c b a d d' (X, Y.2)) := z_cut1 hD z_dwA
theorem z_cutVDp {Y : z_O} (hD : va_D A (z_vw c b a d d' Y)) : z_Cut (z_vw c b a d d' Y) (z_dw c b a Y.1) (z_dw c b a Y.1) (z_vw c b a d d' Y) := z_cut1 hD rfl
theorem z_cutVQ {Y : z_O} (hD : va_D A (z_vw c b a d d' Y)) (g : z_R) : z_Cut (z_vw c b a d d' Y) (z_q3 c d Y.2.1) (z_q3 c d g) (z_vw c b a d d' (Y.1, g, Y.2.2)) := z_cut2 hD rfl
theorem z_cutVR {Y : z_O} (hD : va_D A (z_vw c b a d d' Y)) (g : z_R) : z_Cut (z_vw c b a d d' Y) (z_q3 c d' Y.2.2) (z_q3 c d' g) (z_vw c b a d d' (Y.1, Y.2.1, g)) := z_cut3 hD rfl
theorem z_cutVNp {Y : z_O} (hD : va_D A (z_vw c b a d d' Y)) : z_Cut (z_vw c b a d d' Y) (z_nw c b a d (Y.1, Y.2.1)) (z_nw c b a d (Y.1, Y.2.1)) (z_vw c b a d d' Y) := z_cut12 hD rfl rfl
theorem z_cutV {Y : z_O} (hD : va_D A (z_vw c b a d d' Y)) (Y' : z_O) : z_Cut (z_vw c b a d d' Y) (z_vw c b a d d' Y) (z_vw c b a d d' Y') (z_vw c b a d d' Y') := z_cutAll hD (by
  unfold z_vw
  rw [List.map_append, List.map_append, List.map_append, List.map_append, z_dwA (X' := Y'.1) (X := Y.1)]
  rfl)
theorem z_inN {Y : z_N} : ∀ q ∈ z_q3 c d Y.2, q ∈ z_nw c b a d Y := fun q hq => List.mem_append_right _ hq
theorem z_inVQ {Y : z_O} : ∀ q ∈ z_q3 c d Y.2.1, q ∈ z_vw c b a d d' Y := fun q hq => List.mem_append_right _ (List.mem_append_left _ hq)
theorem z_inVR {Y : z_O} : ∀ q ∈ z_q3 c d' Y.2.2, q ∈ z_vw c b a d d' Y := fun q hq => List.mem_append_right _ (List.mem_append_right _ hq)
theorem z_dwL4 {X : z_X} : (z_dw c b a X).length = 311 := z_dwL
theorem z_vAt0 {Y : z_O} : (z_vw c b a d d' Y)[311]? = some (d 0, .inl (c 0, 12, .inl (Y.2.1 0))) := by
  unfold z_vw
  rw [List.getElem?_append_right (by rw [z_dwL]; decide), z_dwL]
  rfl
theorem z_vSet0 {Y : z_O} (j : Nat) (v : Int32) : (z_vw c b a d d' Y).set 311 (d 0, .inl (c 0, 12, .inl (upd (Y.2.1 0) j v))) = z_vw c b a d d' (Y.1, z_u2 Y.2.1 0 j v, Y.2.2) := by
  unfold z_vw
  rw [List.set_append_right _ _ (by rw [z_dwL]; decide), z_dwL]
  rfl
theorem z_vAt1 {Y : z_O} : (z_vw c b a d d' Y)[312]? = some (d 1, .inl (c 0, 54, .inl (Y.2.1 1))) := by
  unfold z_vw
  rw [List.getElem?_append_right (by rw [z_dwL]; decide), z_dwL]
  rfl
theorem z_vSet1 {Y : z_O} (j : Nat) (v : Int32) : (z_vw c b a d d' Y).set 312 (d 1, .inl (c 0, 54, .inl (upd (Y.2.1 1) j v))) = z_vw c b a d d' (Y.1, z_u2 Y.2.1 1 j v, Y.2.2) := by
  unfold z_vw
  rw [List.set_append_right _ _ (by rw [z_dwL]; decide), z_dwL]
  rfl
theorem z_vAt2 {Y : z_O} : (z_vw c b a d d' Y)[313]? = some (d 2, .inl (c 0, 64, .inl (Y.2.1 2))) := by
  unfold z_vw
  rw [List.getElem?_append_right (by rw [z_dwL]; decide), z_dwL]
  rfl
theorem z_vSet2 {Y : z_O} (j : Nat) (v : Int32) : (z_vw c b a d d' Y).set 313 (d 2, .inl (c 0, 64, .inl (upd (Y.2.1 2) j v))) = z_vw c b a d d' (Y.1, z_u2 Y.2.1 2 j v, Y.2.2) := by
  unfold z_vw
  rw [List.set_append_right _ _ (by rw [z_dwL]; decide), z_dwL]
  rfl
theorem z_vAt3 {Y : z_O} : (z_vw c b a d d' Y)[314]? = some (d' 0, .inl (c 0, 12, .inl (Y.2.2 0))) := by
  unfold z_vw
  rw [List.getElem?_append_right (by rw [z_dwL]; decide), z_dwL]
  rfl
theorem z_vSet3 {Y : z_O} (j : Nat) (v : Int32) : (z_vw c b a d d' Y).set 314 (d' 0, .inl (c 0, 12, .inl (upd (Y.2.2 0) j v))) = z_vw c b a d d' (Y.1, Y.2.1, z_u2 Y.2.2 0 j v) := by
  unfold z_vw
  rw [List.set_append_right _ _ (by rw [z_dwL]; decide), z_dwL]
  rfl
theorem z_vAt4 {Y : z_O} : (z_vw c b a d d' Y)[315]? = some (d' 1, .inl (c 0, 54, .inl (Y.2.2 1))) := by
  unfold z_vw
  rw [List.getElem?_append_right (by rw [z_dwL]; decide), z_dwL]
  rfl
theorem z_vSet4 {Y : z_O} (j : Nat) (v : Int32) : (z_vw c b a d d' Y).set 315 (d' 1, .inl (c 0, 54, .inl (upd (Y.2.2 1) j v))) = z_vw c b a d d' (Y.1, Y.2.1, z_u2 Y.2.2 1 j v) := by
  unfold z_vw
  rw [List.set_append_right _ _ (by rw [z_dwL]; decide), z_dwL]
  rfl
theorem z_vAt5 {Y : z_O} : (z_vw c b a d d' Y)[316]? = some (d' 2, .inl (c 0, 64, .inl (Y.2.2 2))) := by
  unfold z_vw
  rw [List.getElem?_append_right (by rw [z_dwL]; decide), z_dwL]
  rfl
theorem z_vSet5 {Y : z_O} (j : Nat) (v : Int32) : (z_vw c b a d d' Y).set 316 (d' 2, .inl (c 0, 64, .inl (upd (Y.2.2 2) j v))) = z_vw c b a d d' (Y.1, Y.2.1, z_u2 Y.2.2 2 j v) := by
  unfold z_vw
  rw [List.set_append_right _ _ (by rw [z_dwL]; decide), z_dwL]
  rfl
theorem z_cutCp0 {Y : z_O} (hD : va_D A (z_vw c b a d d' Y)) (u : Nat → Int32) : z_Cut (z_vw c b a d d' Y) (z_rr c (d 0) (d' 0) 12 (Y.2.1 0) (Y.2.2 0)) (z_rr c (d 0) (d' 0) 12 (Y.2.1 0) u) (z_vw c b a d d' (Y.1, Y.2.1, z_uR Y.2.2 0 u)) := by
  have h := z_nd hD
  unfold z_vw at h
  rw [List.map_append, List.map_append, List.nodup_append, List.nodup_append] at h
  obtain ⟨n1, ⟨n2, n3, n23⟩, n1r⟩ := h
  have n2 : [d 0, d 1, d 2].Nodup := n2
  have n3 : [d' 0, d' 1, d' 2].Nodup := n3
  have n23 : ∀ x ∈ [d 0, d 1, d 2], ∀ y ∈ [d' 0, d' 1, d' 2], x ≠ y := n23
  have n1r : ∀ x ∈ (z_dw c b a Y.1).map Prod.fst, ∀ y ∈ [d 0, d 1, d 2, d' 0, d' 1, d' 2], x ≠ y := n1r
  have a1 : d 1 ≠ d 0 := fun e => by simp [e] at n2
  have a2 : d 2 ≠ d 0 := fun e => by simp [e] at n2
  have b1 : d' 1 ≠ d' 0 := fun e => by simp [e] at n3
  have b2 : d' 2 ≠ d' 0 := fun e => by simp [e] at n3
  have q23 : ∀ x ∈ [d 0, d 1, d 2], x ≠ d' 0 := fun x hx => n23 x hx _ (by simp)
  have q32 : ∀ y ∈ [d' 0, d' 1, d' 2], y ≠ d 0 := fun y hy e => n23 (d 0) (by simp) y hy e.symm
  refine ⟨fun q hq => ?_, ?_, ?_, fun q hq => ?_⟩
  · rcases List.mem_cons.mp hq with rfl | hq
    · exact List.mem_append_right _ (List.mem_append_left _ (List.mem_of_getElem? (i := 0) rfl))
    · rcases List.mem_cons.mp hq with rfl | hq
      · exact List.mem_append_right _ (List.mem_append_right _ (List.mem_of_getElem? (i := 0) rfl))
      · cases hq
  · show [d 0, d' 0].Nodup
    exact List.nodup_cons.mpr ⟨fun hx => q23 (d 0) (by simp) (List.mem_singleton.mp hx), List.nodup_cons.mpr ⟨List.not_mem_nil, List.nodup_nil⟩⟩
  · unfold z_vw
    rw [List.map_append, List.map_append, List.map_append, List.map_append]
    rfl
  · have hno : ∀ x : Nat, x ≠ d 0 → x ≠ d' 0 → x ∉ (z_rr c (d 0) (d' 0) 12 (Y.2.1 0) (Y.2.2 0)).map Prod.fst := fun x h1 h2 hx => by
      have hx : x ∈ [d 0, d' 0] := hx
      rcases List.mem_cons.mp hx with e | hx
      · exact h1 e
      · exact h2 (List.mem_singleton.mp hx)
    rcases List.mem_append.mp hq with h | h
    · have hq1 : q.1 ∈ (z_dw c b a Y.1).map Prod.fst := List.mem_map.mpr ⟨q, h, rfl⟩
      exact Or.inr ⟨List.mem_append_left _ h, hno _ (n1r _ hq1 _ (by simp)) (n1r _ hq1 _ (by simp))⟩
    · rcases List.mem_append.mp h with h | h
      · have hV := List.mem_append_right (z_dw c b a Y.1) (List.mem_append_left (z_q3 c d' Y.2.2) h)
        rcases List.mem_cons.mp h with rfl | h
        · exact Or.inl (List.mem_of_getElem? (i := 0) rfl)
        · rcases List.mem_cons.mp h with rfl | h
          · exact Or.inr ⟨hV, hno _ a1 (q23 _ (by simp))⟩
          · rcases List.mem_cons.mp h with rfl | h
            · exact Or.inr ⟨hV, hno _ a2 (q23 _ (by simp))⟩
            · cases h
      · rcases List.mem_cons.mp h with rfl | h
        · exact Or.inl (List.mem_of_getElem? (i := 1) rfl)
        · rcases List.mem_cons.mp h with rfl | h
          · exact Or.inr ⟨List.mem_append_right _ (List.mem_append_right _ (List.mem_of_getElem? (i := 1) rfl)), hno _ (q32 _ (by simp)) b1⟩
          · rcases List.mem_cons.mp h with rfl | h
            · exact Or.inr ⟨List.mem_append_right _ (List.mem_append_right _ (List.mem_of_getElem? (i := 2) rfl)), hno _ (q32 _ (by simp)) b2⟩
            · cases h
theorem z_cutCp1 {Y : z_O} (hD : va_D A (z_vw c b a d d' Y)) (u : Nat → Int32) : z_Cut (z_vw c b a d d' Y) (z_rr c (d 1) (d' 1) 54 (Y.2.1 1) (Y.2.2 1)) (z_rr c (d 1) (d' 1) 54 (Y.2.1 1) u) (z_vw c b a d d' (Y.1, Y.2.1, z_uR Y.2.2 1 u)) := by
  have h := z_nd hD
  unfold z_vw at h
  rw [List.map_append, List.map_append, List.nodup_append, List.nodup_append] at h
  obtain ⟨n1, ⟨n2, n3, n23⟩, n1r⟩ := h
  have n2 : [d 0, d 1, d 2].Nodup := n2
  have n3 : [d' 0, d' 1, d' 2].Nodup := n3
  have n23 : ∀ x ∈ [d 0, d 1, d 2], ∀ y ∈ [d' 0, d' 1, d' 2], x ≠ y := n23
  have n1r : ∀ x ∈ (z_dw c b a Y.1).map Prod.fst, ∀ y ∈ [d 0, d 1, d 2, d' 0, d' 1, d' 2], x ≠ y := n1r
  have a0 : d 0 ≠ d 1 := fun e => by simp [e] at n2
  have a2 : d 2 ≠ d 1 := fun e => by simp [e] at n2
  have b0 : d' 0 ≠ d' 1 := fun e => by simp [e] at n3
  have b2 : d' 2 ≠ d' 1 := fun e => by simp [e] at n3
  have q23 : ∀ x ∈ [d 0, d 1, d 2], x ≠ d' 1 := fun x hx => n23 x hx _ (by simp)
  have q32 : ∀ y ∈ [d' 0, d' 1, d' 2], y ≠ d 1 := fun y hy e => n23 (d 1) (by simp) y hy e.symm
  refine ⟨fun q hq => ?_, ?_, ?_, fun q hq => ?_⟩
  · rcases List.mem_cons.mp hq with rfl | hq
    · exact List.mem_append_right _ (List.mem_append_left _ (List.mem_of_getElem? (i := 1) rfl))
    · rcases List.mem_cons.mp hq with rfl | hq
      · exact List.mem_append_right _ (List.mem_append_right _ (List.mem_of_getElem? (i := 1) rfl))
      · cases hq
  · show [d 1, d' 1].Nodup
    exact List.nodup_cons.mpr ⟨fun hx => q23 (d 1) (by simp) (List.mem_singleton.mp hx), List.nodup_cons.mpr ⟨List.not_mem_nil, List.nodup_nil⟩⟩
  · unfold z_vw
    rw [List.map_append, List.map_append, List.map_append, List.map_append]
    rfl
  · have hno : ∀ x : Nat, x ≠ d 1 → x ≠ d' 1 → x ∉ (z_rr c (d 1) (d' 1) 54 (Y.2.1 1) (Y.2.2 1)).map Prod.fst := fun x h1 h2 hx => by
      have hx : x ∈ [d 1, d' 1] := hx
      rcases List.mem_cons.mp hx with e | hx
      · exact h1 e
      · exact h2 (List.mem_singleton.mp hx)
    rcases List.mem_append.mp hq with h | h
    · have hq1 : q.1 ∈ (z_dw c b a Y.1).map Prod.fst := List.mem_map.mpr ⟨q, h, rfl⟩
      exact Or.inr ⟨List.mem_append_left _ h, hno _ (n1r _ hq1 _ (by simp)) (n1r _ hq1 _ (by simp))⟩
    · rcases List.mem_append.mp h with h | h
      · have hV := List.mem_append_right (z_dw c b a Y.1) (List.mem_append_left (z_q3 c d' Y.2.2) h)
        rcases List.mem_cons.mp h with rfl | h
        · exact Or.inr ⟨hV, hno _ a0 (q23 _ (by simp))⟩
        · rcases List.mem_cons.mp h with rfl | h
          · exact Or.inl (List.mem_of_getElem? (i := 0) rfl)
          · rcases List.mem_cons.mp h with rfl | h
            · exact Or.inr ⟨hV, hno _ a2 (q23 _ (by simp))⟩
            · cases h
      · rcases List.mem_cons.mp h with rfl | h
        · exact Or.inr ⟨List.mem_append_right _ (List.mem_append_right _ (List.mem_of_getElem? (i := 0) rfl)), hno _ (q32 _ (by simp)) b0⟩
        · rcases List.mem_cons.mp h with rfl | h
          · exact Or.inl (List.mem_of_getElem? (i := 1) rfl)
          · rcases List.mem_cons.mp h with rfl | h
            · exact Or.inr ⟨List.mem_append_right _ (List.mem_append_right _ (List.mem_of_getElem? (i := 2) rfl)), hno _ (q32 _ (by simp)) b2⟩
            · cases h
theorem z_cutCp2 {Y : z_O} (hD : va_D A (z_vw c b a d d' Y)) (u : Nat → Int32) : z_Cut (z_vw c b a d d' Y) (z_rr c (d 2) (d' 2) 64 (Y.2.1 2) (Y.2.2 2)) (z_rr c (d 2) (d' 2) 64 (Y.2.1 2) u) (z_vw c b a d d' (Y.1, Y.2.1, z_uR Y.2.2 2 u)) := by
  have h := z_nd hD
  unfold z_vw at h
  rw [List.map_append, List.map_append, List.nodup_append, List.nodup_append] at h
  obtain ⟨n1, ⟨n2, n3, n23⟩, n1r⟩ := h
  have n2 : [d 0, d 1, d 2].Nodup := n2
  have n3 : [d' 0, d' 1, d' 2].Nodup := n3
  have n23 : ∀ x ∈ [d 0, d 1, d 2], ∀ y ∈ [d' 0, d' 1, d' 2], x ≠ y := n23
  have n1r : ∀ x ∈ (z_dw c b a Y.1).map Prod.fst, ∀ y ∈ [d 0, d 1, d 2, d' 0, d' 1, d' 2], x ≠ y := n1r
  have a0 : d 0 ≠ d 2 := fun e => by simp [e] at n2
  have a1 : d 1 ≠ d 2 := fun e => by simp [e] at n2
  have b0 : d' 0 ≠ d' 2 := fun e => by simp [e] at n3
  have b1 : d' 1 ≠ d' 2 := fun e => by simp [e] at n3
  have q23 : ∀ x ∈ [d 0, d 1, d 2], x ≠ d' 2 := fun x hx => n23 x hx _ (by simp)
  have q32 : ∀ y ∈ [d' 0, d' 1, d' 2], y ≠ d 2 := fun y hy e => n23 (d 2) (by simp) y hy e.symm
  refine ⟨fun q hq => ?_, ?_, ?_, fun q hq => ?_⟩
  · rcases List.mem_cons.mp hq with rfl | hq
    · exact List.mem_append_right _ (List.mem_append_left _ (List.mem_of_getElem? (i := 2) rfl))
    · rcases List.mem_cons.mp hq with rfl | hq
      · exact List.mem_append_right _ (List.mem_append_right _ (List.mem_of_getElem? (i := 2) rfl))
      · cases hq
  · show [d 2, d' 2].Nodup
    exact List.nodup_cons.mpr ⟨fun hx => q23 (d 2) (by simp) (List.mem_singleton.mp hx), List.nodup_cons.mpr ⟨List.not_mem_nil, List.nodup_nil⟩⟩
  · unfold z_vw
    rw [List.map_append, List.map_append, List.map_append, List.map_append]
    rfl
  · have hno : ∀ x : Nat, x ≠ d 2 → x ≠ d' 2 → x ∉ (z_rr c (d 2) (d' 2) 64 (Y.2.1 2) (Y.2.2 2)).map Prod.fst := fun x h1 h2 hx => by
      have hx : x ∈ [d 2, d' 2] := hx
      rcases List.mem_cons.mp hx with e | hx
      · exact h1 e
      · exact h2 (List.mem_singleton.mp hx)
    rcases List.mem_append.mp hq with h | h
    · have hq1 : q.1 ∈ (z_dw c b a Y.1).map Prod.fst := List.mem_map.mpr ⟨q, h, rfl⟩
      exact Or.inr ⟨List.mem_append_left _ h, hno _ (n1r _ hq1 _ (by simp)) (n1r _ hq1 _ (by simp))⟩
    · rcases List.mem_append.mp h with h | h
      · have hV := List.mem_append_right (z_dw c b a Y.1) (List.mem_append_left (z_q3 c d' Y.2.2) h)
        rcases List.mem_cons.mp h with rfl | h
        · exact Or.inr ⟨hV, hno _ a0 (q23 _ (by simp))⟩
        · rcases List.mem_cons.mp h with rfl | h
          · exact Or.inr ⟨hV, hno _ a1 (q23 _ (by simp))⟩
          · rcases List.mem_cons.mp h with rfl | h
            · exact Or.inl (List.mem_of_getElem? (i := 0) rfl)
            · cases h
      · rcases List.mem_cons.mp h with rfl | h
        · exact Or.inr ⟨List.mem_append_right _ (List.mem_append_right _ (List.mem_of_getElem? (i := 0) rfl)), hno _ (q32 _ (by simp)) b0⟩
        · rcases List.mem_cons.mp h with rfl | h
          · exact Or.inr ⟨List.mem_append_right _ (List.mem_append_right _ (List.mem_of_getElem? (i := 1) rfl)), hno _ (q32 _ (by simp)) b1⟩
          · rcases List.mem_cons.mp h with rfl | h
            · exact Or.inl (List.mem_of_getElem? (i := 1) rfl)
            · cases h
end ZQ
section ZS
variable {p : Program} {l : Launch} {e : Env} {R : Room} {s : State} {m : MethodId} {args : Array Value} {below : List Frame} {meth : Method} {co : Code} {H : Heap} {locs : List Loc} {cells slots : Nat} {Q : State → Prop}
variable {cc bytes : ByteArray} {pc nL maxL n index : Nat} {ls : Array Slot} {own C host : String} {y : MethodName} {ret : Option FieldType} {Ts ws : List Cond} {rm : Room} {As rest st0 : List Value} {bb : Nat} {D : va_G} {c : Nat → ClassId} {A A0 : Nat → Prop} {H0 : Heap} {mc ms : Nat}
/-- a static call on a part of the world, that answers an int and makes some cells -/
theorem z_ySi {V V2 : va_W} {S : Type} {wf : S → va_W} {g u0 : S} {r0 : Int32} (S0 : CallFix p m co cc nL s args Ts own)
    (hM : Met l y ws rm (z_Pc D c H.size (wf g) As) (z_Qi D wf r0 u0 (va_A (wf g) H.size)) mc ms (va_A (wf g) H.size))
    (cw : CallB R s args own index y bytes maxL ret ws rm mc ms n ∧ (Cond.static y).before args s = true) (hP : va_P D vwCl V H) (hK : z_K D c s) (hD : va_D A0 V) (hS : va_S A0 H0 H locs) (hA : ∀ q : Nat, H0.size ≤ q → A0 q) (hc : z_Cut V (wf g) (wf u0) V2)
    (hn : As.length = n) (hsize : ls.size = nL) (hW : (rest.map fun v => v.category).sum ≤ 8) (hstack : st0 = As.reverse ++ rest) (hdg : decode cc pc = .ok (.invokestatic index, 3)) (hf : cells + mc ≤ R.cells ∧ slots + ms ≤ R.slots)
    (kk : ∀ (H1 : Heap) (locs1 : List Loc), va_P D vwCl V2 H1 → va_D A0 V2 → va_S A0 H0 H1 locs1 → W p l e R s m args below meth co H1 locs1 (cells + mc) (slots + ms) Q (F0 m (pc + 3) ls (.int r0 :: rest))) : W p l e R s m args below meth co H locs cells slots Q (F0 m pc ls st0) := by
  have hF := z_Fc hD hc.1 hS hA
  have hPc := z_subP hP hc.1
  refine va_calli (va_runS (As := As) (rest := rest) S0 hM cw ⟨z_bl, z_pre hPc hK (z_subD hD hc.1 hc.2.1)⟩ rfl hn hsize hstack (lv_room hW) hdg hf) hS (fun q _ h => hF q h) hF (fun r u t H1 locs1 ht hvm hw hB hz hk hS1 => ?_)
  obtain ⟨e1, e2⟩ := hw
  obtain ⟨hP1, hD1⟩ := hB
  rw [e2, ht] at hP1
  obtain ⟨hP2, hD2⟩ := z_jn hP hD hc hk hP1
  rw [e1]
  exact kk H1 locs1 hP2 hD2 hS1
/-- a static call on a part of the world, that answers nothing -/
theorem z_xSv {V V2 : va_W} {S : Type} {wf : S → va_W} {g u0 : S} (S0 : CallFix p m co cc nL s args Ts own)
    (hM : Met l y ws rm (z_Pc D c H.size (wf g) As) (z_Qv D wf u0 (va_A (wf g) H.size)) 0 0 (va_A (wf g) H.size))
    (cw : CallB R s args own index y bytes maxL ret ws rm 0 0 n ∧ (Cond.static y).before args s = true) (hP : va_P D vwCl V H) (hK : z_K D c s) (hD : va_D A0 V) (hS : va_S A0 H0 H locs) (hA : ∀ q : Nat, H0.size ≤ q → A0 q) (hc : z_Cut V (wf g) (wf u0) V2)
    (hn : As.length = n) (hsize : ls.size = nL) (hW : (rest.map fun v => v.category).sum ≤ 8) (hstack : st0 = As.reverse ++ rest) (hdg : decode cc pc = .ok (.invokestatic index, 3)) (hf : cells + 0 ≤ R.cells ∧ slots + 0 ≤ R.slots)
    (kk : ∀ (H1 : Heap) (locs1 : List Loc), va_P D vwCl V2 H1 → va_D A0 V2 → va_S A0 H0 H1 locs1 → W p l e R s m args below meth co H1 locs1 cells slots Q (F0 m (pc + 3) ls rest)) : W p l e R s m args below meth co H locs cells slots Q (F0 m pc ls st0) := by
  have hF := z_Fc hD hc.1 hS hA
  have hPc := z_subP hP hc.1
  refine va_callv (va_runS (As := As) (rest := rest) S0 hM cw ⟨z_bl, z_pre hPc hK (z_subD hD hc.1 hc.2.1)⟩ rfl hn hsize hstack (lv_room hW) hdg hf) hS (fun q _ h => hF q h) hF (fun u t H1 locs1 ht hvm hw hB hz hk hS1 => ?_)
  obtain ⟨hP1, hD1⟩ := hB
  rw [hw, ht] at hP1
  obtain ⟨hP2, hD2⟩ := z_jn hP hD hc hk hP1
  exact kk H1 locs1 hP2 hD2 hS1
/-- a method's start that has the law's script beside an empty world -/
abbrev z_PX (b L : Nat) (xs : Nat → Int32) (sz : Nat) (av : List Value) : Array Value → State → Prop := va_Pc av (fun U => U.heap.size = sz ∧ va_X b L xs U U.heap ∧ b < sz)
theorem z_blX {b L : Nat} {xs : Nat → Int32} {sz : Nat} {av : List Value} : FrameBlind (z_PX b L xs sz av) := fun a U g mk q => by
  obtain ⟨q0, q1, q2, q3⟩ := q
  exact ⟨q0, q1, q2, q3⟩
/-- a static call on the script alone -/
theorem z_xX {V : va_W} {r0 : Int32} {b L : Nat} {xs : Nat → Int32} (S0 : CallFix p m co cc nL s args Ts own)
    (hM : Met l y ws rm (z_PX b L xs H.size As) (z_Qi D (fun _ : Unit => []) r0 () (va_A [] H.size)) 0 0 (va_A [] H.size))
    (cw : CallB R s args own index y bytes maxL ret ws rm 0 0 n ∧ (Cond.static y).before args s = true) (hP : va_P D vwCl V H) (hX : va_X b L xs s H0) (hbl : b < H0.size) (hbA : ¬ A0 b) (hS : va_S A0 H0 H locs) (hA : ∀ q : Nat, H0.size ≤ q → A0 q)
    (hn : As.length = n) (hsize : ls.size = nL) (hW : (rest.map fun v => v.category).sum ≤ 8) (hstack : st0 = As.reverse ++ rest) (hdg : decode cc pc = .ok (.invokestatic index, 3)) (hf : cells + 0 ≤ R.cells ∧ slots + 0 ≤ R.slots)
    (kk : ∀ (H1 : Heap) (locs1 : List Loc), va_P D vwCl V H1 → va_S A0 H0 H1 locs1 → W p l e R s m args below meth co H1 locs1 cells slots Q (F0 m (pc + 3) ls (.int r0 :: rest))) : W p l e R s m args below meth co H locs cells slots Q (F0 m pc ls st0) := by
  have hF := z_F (A0 := A0) (V := []) z_D0 hS hA
  have hXH : va_X b L xs s H := hX.kept (hS.2.1 b hbl hbA)
  refine va_calli (va_runS (As := As) (rest := rest) S0 hM cw ⟨z_blX, fun U hU hW => ⟨rfl, by rw [hU], by rw [hU]; exact hXH.moved hW.alike, Nat.lt_of_lt_of_le hbl hS.1⟩⟩ rfl hn hsize hstack (lv_room hW) hdg hf) hS (fun q _ h => hF q h) hF (fun r u t H1 locs1 ht hvm hw hB hz hk hS1 => ?_)
  obtain ⟨e1, e2⟩ := hw
  rw [e1]
  exact kk H1 locs1 (z_keep0 hP hk) hS1
/-- returns of a method that has made cells -/
theorem z_yi {S : Type} {wf : S → va_W} {g g0 : S} {r r0 : Int32} (hx : p.tables.exec = Jvm.exec) (hb : co.code = cc) (hr : meth.sig.returnType = some .int) (hlocks : meth.locks = false) (hP : va_P D vwCl (wf g) H) (hD : va_D A (wf g)) (hS : va_S A s.heap H locs) (hf : some (r, g) = some (r0, g0)) (hc : cells ≤ mc) (hs : slots ≤ ms) (hdg : decode cc pc = .ok (.ireturn, 1)) : W p l e R s m args below meth co H locs cells slots (MQ below (z_Qi D wf r0 g0 A) args s mc ms A) (F0 m pc ls [.int r]) := by
  cases hf
  refine W.widen (k := mc) (n := ms) hc hs ?_
  exact W.iret (v := r) hx hb hr (fun t ht _ => ⟨⟨r, g, rfl, ⟨rfl, rfl⟩, by rw [ht]; exact hP, hD⟩, hS.F ht⟩) hS.2.2 hdg hlocks
theorem z_yz {S : Type} {wf : S → va_W} {g g0 : S} {r r0 : Int32} (hx : p.tables.exec = Jvm.exec) (hb : co.code = cc) (hr : meth.sig.returnType = some .boolean) (hn : narrow .boolean (.int r) = .int r) (hlocks : meth.locks = false) (hP : va_P D vwCl (wf g) H) (hD : va_D A (wf g)) (hS : va_S A s.heap H locs) (hf : some (r, g) = some (r0, g0)) (hc : cells ≤ mc) (hs : slots ≤ ms) (hdg : decode cc pc = .ok (.ireturn, 1)) : W p l e R s m args below meth co H locs cells slots (MQ below (z_Qi D wf r0 g0 A) args s mc ms A) (F0 m pc ls [.int r]) := by
  cases hf
  refine W.widen (k := mc) (n := ms) hc hs ?_
  exact W.zret (v := r) hx hb hr hn (fun t ht _ => ⟨⟨r, g, rfl, ⟨rfl, rfl⟩, by rw [ht]; exact hP, hD⟩, hS.F ht⟩) hS.2.2 hdg hlocks
end ZS
/-- the start of a method on the script -/
theorem z_ofX {l : Launch} {y : MethodName} {ws ws' : List Cond} {rm : Room} {b L : Nat} {xs : Nat → Int32} {sz : Nat} {av : List Value} {Qf : Array Value → State → Outcome → State → Prop} {cc : ByteArray} {maxL mc ms : Nat} {ret : Option FieldType}
    (hy : plainFor y = true) (hw : ws = Cond.code y cc maxL ret :: ws') (hn : (lg_sl av).length ≤ maxL)
    (body : ∀ (p : Program) (e : Env) (s : State) (m : MethodId) (args : Array Value) (below : List Frame) (meth : Method) (co : Code) (ls : Array Slot), p.tables.exec = Jvm.exec → co.code = cc → meth.sig.returnType = ret → co.maxLocals = maxL → (∀ w ∈ ws, w.before args s = true) → s.vm.findClass y.cls = some m.cls → meth.locks = false → va_X b L xs s s.heap → b < s.heap.size → lv_has ls maxL (lv_args 0 av) → s.heap.size = sz →
      W p l e rm s m args below meth co s.heap [] 0 0 (MQ below Qf args s mc ms (va_A [] sz)) (F0 m 0 ls [])) :
    Met l y ws rm (z_PX b L xs sz av) Qf mc ms (va_A [] sz) := by
  refine z_ofF (cc := cc) (maxL := maxL) (ret := ret) hy hw ?_
  intro p e s m args below meth co s₁ B hml hv
  obtain ⟨rfl, hsz, hX, hbl⟩ := hv
  have hts := atoms_spec (ws := ws) B.pre
  have hown : s.vm.findClass y.cls = some m.cls := findClass_of_methodNamed B.named
  have hl := lv_entry av (n := maxL) hn
  rw [lg_entry_eq]
  exact body p e s m _ below meth co _ B.exec B.bytes B.returns hml hts hown B.notSynchronized hX (by rw [hsz]; exact hbl) hl hsz
