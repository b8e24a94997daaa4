/-! the whole drum's world: its seven cells, nineteen states; calls on a part of it -/
abbrev z_X : Type := z_R × z_R × (Nat → z_R)
def z_pl (c : Nat → ClassId) (a : Nat → Nat → Nat) (G : Nat → z_R) : va_W := (List.range 16).flatMap fun k => z_st c (a (k + 3)) (G (k + 3))
def z_hd (c : Nat → ClassId) (b : Nat → Nat) (a : Nat → Nat → Nat) (X : z_X) : va_W := [(b 0, .inr (4, [.ref (b 1), .ref (a 0 0), .ref (a 1 0), .ref (a 2 0), .ref (b 3), .ref (b 5), .ref (b 6)])), (b 1, .inr (3, [.ref (b 2), .int (X.1 0 0)])), (b 2, .inl (c 0, 160, .inl (X.1 1))), (b 3, .inr (1, [.ref (b 4), .int (X.2.1 0 0), .int (X.2.1 0 1)])), (b 4, .inl (c 2, 14, .inr (.inr (.inr (.inr (fun i => some (a (i + 3) 0))))))), (b 5, .inl (c 2, 2, .inr (.inr (.inr (.inr (fun i => some (a (i + 17) 0))))))), (b 6, .inl (c 1, 2, .inl (X.2.1 1)))]
def z_dw (c : Nat → ClassId) (b : Nat → Nat) (a : Nat → Nat → Nat) (X : z_X) : va_W := z_hd c b a X ++ (z_st c (a 0) (X.2.2 0) ++ (z_st c (a 1) (X.2.2 1) ++ (z_st c (a 2) (X.2.2 2) ++ z_pl c a X.2.2)))
def z_bk (c : Nat → ClassId) (a : Nat → Nat → Nat) (G : Nat → z_R) : va_W := (List.range 19).flatMap fun k => z_st c (a k) (G k)
theorem z_dwE {c : Nat → ClassId} {b : Nat → Nat} {a : Nat → Nat → Nat} {X : z_X} : z_dw c b a X = z_hd c b a X ++ z_bk c a X.2.2 := by
  unfold z_dw z_bk z_pl
  rw [show List.range 19 = 0 :: 1 :: 2 :: (List.range 16).map (fun k => k + 3) from by decide, List.flatMap_cons, List.flatMap_cons, List.flatMap_cons, List.flatMap_map]
theorem z_stA {c : Nat → ClassId} {a : Nat → Nat} {g : z_R} : (z_st c a g).map Prod.fst = (List.range 16).map a := rfl
theorem z_nd {A : Nat → Prop} {V : va_W} (hD : va_D A V) : (V.map Prod.fst).Nodup := by
  rw [List.Nodup, List.pairwise_iff_getElem]
  intro i j hi hj hij e
  have hi' : i < V.length := by simpa using hi
  have hj' : j < V.length := by simpa using hj
  rw [List.getElem_map, List.getElem_map] at e
  have h := hD.1 i j V[i] V[j] (List.getElem?_eq_getElem hi') (List.getElem?_eq_getElem hj') e
  omega
theorem z_Dof {A : Nat → Prop} {V : va_W} (h1 : (V.map Prod.fst).Nodup) (h2 : ∀ q ∈ V, A q.1) : va_D A V := by
  refine ⟨fun i j p q hi hj e => ?_, fun k q hk => h2 q (List.mem_of_getElem? hk)⟩
  rw [List.Nodup, List.pairwise_iff_getElem] at h1
  obtain ⟨li, ei⟩ := List.getElem?_eq_some_iff.mp hi
  obtain ⟨lj, ej⟩ := List.getElem?_eq_some_iff.mp hj
  rcases Nat.lt_trichotomy i j with h | h | h
  · refine absurd ?_ (h1 i j (by simpa using li) (by simpa using lj) h)
    rw [List.getElem_map, List.getElem_map, ei, ej]; exact e
  · exact h
  · refine absurd ?_ (h1 j i (by simpa using lj) (by simpa using li) h)
    rw [List.getElem_map, List.getElem_map, ei, ej]; exact e.symm
theorem z_Dsame {A : Nat → Prop} {V V' : va_W} (hD : va_D A V) (e : V'.map Prod.fst = V.map Prod.fst) : va_D A V' := by
  refine z_Dof (by rw [e]; exact z_nd hD) (fun q hq => ?_)
  have h : q.1 ∈ V.map Prod.fst := by rw [← e]; exact List.mem_map.mpr ⟨q, hq, rfl⟩
  obtain ⟨p, hp, ep⟩ := List.mem_map.mp h
  obtain ⟨i, hi⟩ := List.getElem?_of_mem hp
  rw [← ep]; exact hD.2 i p hi
/-- a part Vc of the world V, behind which V1 stands and the whole is V2 -/
def z_Cut (V Vc V1 V2 : va_W) : Prop := (∀ q ∈ Vc, q ∈ V) ∧ (Vc.map Prod.fst).Nodup ∧ V2.map Prod.fst = V.map Prod.fst ∧ ∀ q ∈ V2, q ∈ V1 ∨ (q ∈ V ∧ q.1 ∉ Vc.map Prod.fst)
theorem z_subP {D : va_G} {V Vc : va_W} {H : Heap} (hP : va_P D vwCl V H) (hs : ∀ q ∈ Vc, q ∈ V) : va_P D vwCl Vc H := fun k q hq => by
  obtain ⟨i, hi⟩ := List.getElem?_of_mem (hs q (List.mem_of_getElem? hq))
  exact hP i q hi
theorem z_subD {A : Nat → Prop} {V Vc : va_W} (hD : va_D A V) (hs : ∀ q ∈ Vc, q ∈ V) (hn : (Vc.map Prod.fst).Nodup) : va_D A Vc := z_Dof hn fun q hq => by
  obtain ⟨i, hi⟩ := List.getElem?_of_mem (hs q hq)
  exact hD.2 i q hi
theorem z_jn {A0 : Nat → Prop} {D : va_G} {V Vc V1 V2 : va_W} {H H1 : Heap} (hP : va_P D vwCl V H) (hD : va_D A0 V) (hc : z_Cut V Vc V1 V2) (hk : ∀ q : Nat, q < H.size → ¬ va_A Vc H.size q → H1[q]? = H[q]?) (hP1 : va_P D vwCl V1 H1) : va_P D vwCl V2 H1 ∧ va_D A0 V2 := by
  refine ⟨fun k q hq => ?_, z_Dsame hD hc.2.2.1⟩
  rcases hc.2.2.2 q (List.mem_of_getElem? hq) with h | ⟨h, hn⟩
  · obtain ⟨i, hi⟩ := List.getElem?_of_mem h
    exact hP1 i q hi
  · obtain ⟨i, hi⟩ := List.getElem?_of_mem h
    have hq0 := hP i q hi
    refine hq0.kept (hk q.1 hq0.lt (fun hA => ?_))
    rcases hA with ⟨k2, e2, h2⟩ | h2
    · exact hn (List.mem_map.mpr ⟨_, List.mem_of_getElem? h2, rfl⟩)
    · exact absurd hq0.lt (Nat.not_lt.mpr h2)
section ZD
variable {p : Program} {l : Launch} {e : Env} {R : Room} {s : State} {m : MethodId} {args : Array Value} {below : List Frame} {meth : Method} {co : Code} {H : Heap} {locs : List Loc} {cells slots : Nat} {Q : State → Prop}
variable {cc bytes : ByteArray} {pc nL maxL n index : Nat} {ls : Array Slot} {own C host : String} {y : MethodName} {ret : Option FieldType} {Ts ws : List Cond} {rm : Room} {As rest st0 : List Value} {b : Nat} {D : va_G} {c : Nat → ClassId} {A0 : Nat → Prop} {H0 : Heap}
theorem z_Fc {V Vc : va_W} (hD : va_D A0 V) (hs : ∀ q ∈ Vc, q ∈ V) (hS : va_S A0 H0 H locs) (hA : ∀ q : Nat, H0.size ≤ q → A0 q) : ∀ q : Nat, va_A Vc H.size q → A0 q := by
  intro q h
  rcases h with ⟨k, e, h⟩ | h
  · obtain ⟨i, hi⟩ := List.getElem?_of_mem (hs _ (List.mem_of_getElem? h))
    exact hD.2 i (q, e) hi
  · exact hA q (Nat.le_trans hS.1 h)
theorem z_xVi {V V2 : va_W} {S : Type} {wf : S → va_W} {g u0 : S} {r0 : Int32} (S0 : CallFix p m co cc nL s args Ts own)
    (hM : Met l y ws rm (z_Pc D c H.size (wf g) (.ref b :: As)) (z_Qi D wf r0 u0 (va_A (wf g) H.size)) 0 0 (va_A (wf g) H.size))
    (cw : CallW R s args own C index y bytes maxL ret ws rm 0 0 n) (hP : va_P D vwCl V H) (hK : z_K D c s) (hD : va_D A0 V) (hS : va_S A0 H0 H locs) (hA : ∀ q : Nat, H0.size ≤ q → A0 q) (hc : z_Cut V (wf g) (wf u0) V2)
    {ci q0 : Nat} {q : vw_C} {fs : List Value} (hcl : vwCl[ci]? = some q) (he : (wf g)[q0]? = some (b, .inr (ci, fs))) (hq : q.1 = C) (hn : As.length = n) (hsize : ls.size = nL) (hW : (rest.map fun v => v.category).sum ≤ 8) (hstack : st0 = As.reverse ++ .ref b :: rest) (hdg : decode cc pc = .ok (.invokevirtual index, 3)) (hf : cells + 0 ≤ R.cells ∧ slots + 0 ≤ R.slots)
    (kk : ∀ (H1 : Heap) (locs1 : List Loc), va_P D vwCl V2 H1 → va_D A0 V2 → va_S A0 H0 H1 locs1 → W p l e R s m args below meth co H1 locs1 cells slots Q (F0 m (pc + 3) ls (.int r0 :: rest))) : W p l e R s m args below meth co H locs cells slots Q (F0 m pc ls st0) := by
  have hF := z_Fc hD hc.1 hS hA
  have hPc := z_subP hP hc.1
  subst hq
  refine va_calli (va_runV (As := As) (rest := rest) S0 hM cw ⟨z_bl, va_recv hK.1 hPc hcl he, z_pre hPc hK (z_subD hD hc.1 hc.2.1)⟩ rfl hn hsize hstack (lv_room hW) hdg hf) hS (fun q _ h => hF q h) hF (fun r u t H1 locs1 ht hvm hw hB hz hk hS1 => ?_)
  obtain ⟨e1, e2⟩ := hw
  obtain ⟨hP1, hD1⟩ := hB
  rw [e2, ht] at hP1
  obtain ⟨hP2, hD2⟩ := z_jn hP hD hc hk hP1
  rw [e1]
  exact kk H1 locs1 hP2 hD2 hS1
theorem z_xVv {V V2 : va_W} {S : Type} {wf : S → va_W} {g u0 : S} (S0 : CallFix p m co cc nL s args Ts own)
    (hM : Met l y ws rm (z_Pc D c H.size (wf g) (.ref b :: As)) (z_Qv D wf u0 (va_A (wf g) H.size)) 0 0 (va_A (wf g) H.size))
    (cw : CallW R s args own C index y bytes maxL ret ws rm 0 0 n) (hP : va_P D vwCl V H) (hK : z_K D c s) (hD : va_D A0 V) (hS : va_S A0 H0 H locs) (hA : ∀ q : Nat, H0.size ≤ q → A0 q) (hc : z_Cut V (wf g) (wf u0) V2)
    {ci q0 : Nat} {q : vw_C} {fs : List Value} (hcl : vwCl[ci]? = some q) (he : (wf g)[q0]? = some (b, .inr (ci, fs))) (hq : q.1 = C) (hn : As.length = n) (hsize : ls.size = nL) (hW : (rest.map fun v => v.category).sum ≤ 8) (hstack : st0 = As.reverse ++ .ref b :: rest) (hdg : decode cc pc = .ok (.invokevirtual index, 3)) (hf : cells + 0 ≤ R.cells ∧ slots + 0 ≤ R.slots)
    (kk : ∀ (H1 : Heap) (locs1 : List Loc), va_P D vwCl V2 H1 → va_D A0 V2 → va_S A0 H0 H1 locs1 → W p l e R s m args below meth co H1 locs1 cells slots Q (F0 m (pc + 3) ls rest)) : W p l e R s m args below meth co H locs cells slots Q (F0 m pc ls st0) := by
  have hF := z_Fc hD hc.1 hS hA
  have hPc := z_subP hP hc.1
  subst hq
  refine va_callv (va_runV (As := As) (rest := rest) S0 hM cw ⟨z_bl, va_recv hK.1 hPc hcl he, z_pre hPc hK (z_subD hD hc.1 hc.2.1)⟩ rfl hn hsize hstack (lv_room hW) hdg hf) hS (fun q _ h => hF q h) hF (fun u t H1 locs1 ht hvm hw hB hz hk hS1 => ?_)
  obtain ⟨hP1, hD1⟩ := hB
  rw [hw, ht] at hP1
  obtain ⟨hP2, hD2⟩ := z_jn hP hD hc hk hP1
  exact kk H1 locs1 hP2 hD2 hS1
theorem z_xSi {V V2 : va_W} {S : Type} {wf : S → va_W} {g u0 : S} {r0 : Int32} (S0 : CallFix p m co cc nL s args Ts own)
    (hM : Met l y ws rm (z_Pc D c H.size (wf g) As) (z_Qi D wf r0 u0 (va_A (wf g) H.size)) 0 0 (va_A (wf g) H.size))
    (cw : CallB R s args own index y bytes maxL ret ws rm 0 0 n ∧ (Cond.static y).before args s = true) (hP : va_P D vwCl V H) (hK : z_K D c s) (hD : va_D A0 V) (hS : va_S A0 H0 H locs) (hA : ∀ q : Nat, H0.size ≤ q → A0 q) (hc : z_Cut V (wf g) (wf u0) V2)
    (hn : As.length = n) (hsize : ls.size = nL) (hW : (rest.map fun v => v.category).sum ≤ 8) (hstack : st0 = As.reverse ++ rest) (hdg : decode cc pc = .ok (.invokestatic index, 3)) (hf : cells + 0 ≤ R.cells ∧ slots + 0 ≤ R.slots)
    (kk : ∀ (H1 : Heap) (locs1 : List Loc), va_P D vwCl V2 H1 → va_D A0 V2 → va_S A0 H0 H1 locs1 → W p l e R s m args below meth co H1 locs1 cells slots Q (F0 m (pc + 3) ls (.int r0 :: rest))) : W p l e R s m args below meth co H locs cells slots Q (F0 m pc ls st0) := by
  have hF := z_Fc hD hc.1 hS hA
  have hPc := z_subP hP hc.1
  refine va_calli (va_runS (As := As) (rest := rest) S0 hM cw ⟨z_bl, z_pre hPc hK (z_subD hD hc.1 hc.2.1)⟩ rfl hn hsize hstack (lv_room hW) hdg hf) hS (fun q _ h => hF q h) hF (fun r u t H1 locs1 ht hvm hw hB hz hk hS1 => ?_)
  obtain ⟨e1, e2⟩ := hw
  obtain ⟨hP1, hD1⟩ := hB
  rw [e2, ht] at hP1
  obtain ⟨hP2, hD2⟩ := z_jn hP hD hc hk hP1
  rw [e1]
  exact kk H1 locs1 hP2 hD2 hS1
end ZD
section ZE
variable {c : Nat → ClassId} {b : Nat → Nat} {a : Nat → Nat → Nat} {X : z_X} {A : Nat → Prop}
theorem z_bkA {G G' : Nat → z_R} : (z_bk c a G).map Prod.fst = (z_bk c a G').map Prod.fst := by
  unfold z_bk
  rw [List.map_flatMap, List.map_flatMap]
  rfl
theorem z_dwA {X' : z_X} : (z_dw c b a X').map Prod.fst = (z_dw c b a X).map Prod.fst := by
  rw [z_dwE, z_dwE, List.map_append, List.map_append, z_bkA (G := X'.2.2) (G' := X.2.2)]
  rfl
theorem z_ap (hD : va_D A (z_dw c b a X)) : (∀ k, k < 19 → ((z_st c (a k) (X.2.2 k)).map Prod.fst).Nodup) ∧ (∀ j k, j < 19 → k < 19 → j ≠ k → ∀ x ∈ (z_st c (a j) (X.2.2 j)).map Prod.fst, ∀ y ∈ (z_st c (a k) (X.2.2 k)).map Prod.fst, x ≠ y) ∧ (∀ k, k < 19 → ∀ x ∈ (z_hd c b a X).map Prod.fst, ∀ y ∈ (z_st c (a k) (X.2.2 k)).map Prod.fst, x ≠ y) ∧ ((z_hd c b a X).map Prod.fst).Nodup := by
  have h := z_nd hD
  rw [z_dwE, List.map_append, List.nodup_append] at h
  obtain ⟨h1, h2, h3⟩ := h
  unfold z_bk at h2
  rw [List.map_flatMap, List.Nodup, List.pairwise_flatMap] at h2
  obtain ⟨h4, h5⟩ := h2
  rw [List.pairwise_iff_getElem] at h5
  have h6 : ∀ i j, i < 19 → j < 19 → i < j → ∀ x ∈ (z_st c (a i) (X.2.2 i)).map Prod.fst, ∀ y ∈ (z_st c (a j) (X.2.2 j)).map Prod.fst, x ≠ y := by
    intro i j hi hj hij
    have := h5 i j (by rw [List.length_range]; exact hi) (by rw [List.length_range]; exact hj) hij
    rw [List.getElem_range, List.getElem_range] at this
    exact this
  refine ⟨fun k hk => h4 k (List.mem_range.mpr hk), fun j k hj hk hjk x hx y hy => ?_, fun k hk x hx y hy => ?_, h1⟩
  · rcases Nat.lt_or_gt_of_ne hjk with h | h
    · exact h6 j k hj hk h x hx y hy
    · exact (h6 k j hk hj h y hy x hx).symm
  · refine h3 x hx y ?_
    obtain ⟨q, hq, rfl⟩ := List.mem_map.mp hy
    exact List.mem_map.mpr ⟨q, List.mem_flatMap.mpr ⟨k, List.mem_range.mpr hk, hq⟩, rfl⟩
theorem z_inS {k : Nat} (hk : k < 19) : ∀ q ∈ z_st c (a k) (X.2.2 k), q ∈ z_dw c b a X := by
  intro q hq
  rw [z_dwE]
  exact List.mem_append_right _ (List.mem_flatMap.mpr ⟨k, List.mem_range.mpr hk, hq⟩)
theorem z_cutS (hD : va_D A (z_dw c b a X)) {k : Nat} (hk : k < 19) (u : z_R) : z_Cut (z_dw c b a X) (z_st c (a k) (X.2.2 k)) (z_st c (a k) u) (z_dw c b a (X.1, X.2.1, z_u3 X.2.2 k u)) := by
  obtain ⟨h1, h2, h3, -⟩ := z_ap hD
  refine ⟨z_inS hk, h1 k hk, z_dwA, fun q hq => ?_⟩
  rw [z_dwE] at hq
  rcases List.mem_append.mp hq with hq | hq
  · have hq : q ∈ z_hd c b a X := hq
    refine Or.inr ⟨by rw [z_dwE]; exact List.mem_append_left _ hq, fun hx => ?_⟩
    exact h3 k hk q.1 (List.mem_map.mpr ⟨q, hq, rfl⟩) q.1 hx rfl
  · obtain ⟨j, hj, hq⟩ := List.mem_flatMap.mp hq
    have hj := List.mem_range.mp hj
    by_cases e : j = k
    · subst e
      have hq : q ∈ z_st c (a j) (z_u3 X.2.2 j u j) := hq
      rw [show z_u3 X.2.2 j u j = u from if_pos rfl] at hq
      exact Or.inl hq
    · have hq : q ∈ z_st c (a j) (z_u3 X.2.2 k u j) := hq
      rw [show z_u3 X.2.2 k u j = X.2.2 j from if_neg e] at hq
      refine Or.inr ⟨z_inS hj q hq, fun hx => ?_⟩
      exact h2 j k hj hk e q.1 (List.mem_map.mpr ⟨q, hq, rfl⟩) q.1 hx rfl
/-- nothing of the part changes -/
theorem z_cutP {V Vc : va_W} (hs : ∀ q ∈ Vc, q ∈ V) (hn : (Vc.map Prod.fst).Nodup) (hV : (V.map Prod.fst).Nodup) : z_Cut V Vc Vc V := by
  refine ⟨hs, hn, rfl, fun q hq => ?_⟩
  by_cases h : q.1 ∈ Vc.map Prod.fst
  · obtain ⟨q2, h2, e2⟩ := List.mem_map.mp h
    have hD : va_D (fun _ => True) V := z_Dof hV (fun _ _ => trivial)
    obtain ⟨i, hi⟩ := List.getElem?_of_mem (hs q2 h2)
    obtain ⟨j, hj⟩ := List.getElem?_of_mem hq
    have hij := hD.1 i j q2 q hi hj e2
    subst hij
    rw [hi] at hj
    cases hj
    exact Or.inl h2
  · exact Or.inr ⟨hq, h⟩
theorem z_cutSp (hD : va_D A (z_dw c b a X)) {k : Nat} (hk : k < 19) : z_Cut (z_dw c b a X) (z_st c (a k) (X.2.2 k)) (z_st c (a k) (X.2.2 k)) (z_dw c b a X) := z_cutP (z_inS hk) ((z_ap hD).1 k hk) (z_nd hD)
theorem z_cutSS (hD : va_D A (z_dw c b a X)) {k j : Nat} (hk : k < 19) (hj : j < 19) (hkj : k ≠ j) (u : z_R) : z_Cut (z_dw c b a X) (z_st c (a k) (X.2.2 k) ++ z_st c (a j) (X.2.2 j)) (z_st c (a k) u ++ z_st c (a j) (X.2.2 j)) (z_dw c b a (X.1, X.2.1, z_u3 X.2.2 k u)) := by
  obtain ⟨h1, h2, h3, -⟩ := z_ap hD
  obtain ⟨c1, c2, c3, c4⟩ := z_cutS hD hk u
  refine ⟨fun q hq => ?_, ?_, c3, fun q hq => ?_⟩
  · rcases List.mem_append.mp hq with h | h
    · exact z_inS hk q h
    · exact z_inS hj q h
  · rw [List.map_append, List.nodup_append]
    exact ⟨h1 k hk, h1 j hj, fun x hx y hy => h2 k j hk hj hkj x hx y hy⟩
  · rcases c4 q hq with h | ⟨h, hn⟩
    · exact Or.inl (List.mem_append_left _ h)
    · by_cases hx : q.1 ∈ (z_st c (a j) (X.2.2 j)).map Prod.fst
      · obtain ⟨q2, hq2, e2⟩ := List.mem_map.mp hx
        obtain ⟨i1, hi1⟩ := List.getElem?_of_mem (z_inS (c := c) (b := b) (a := a) (X := X) hj q2 hq2)
        obtain ⟨i2, hi2⟩ := List.getElem?_of_mem h
        have hij := hD.1 i1 i2 q2 q hi1 hi2 e2
        subst hij
        rw [hi1] at hi2
        cases hi2
        exact Or.inl (List.mem_append_right _ hq2)
      · refine Or.inr ⟨h, fun hh => ?_⟩
        rw [List.map_append] at hh
        rcases List.mem_append.mp hh with hh | hh
        · exact hn hh
        · exact hx hh
theorem z_cutT (hD : va_D A (z_dw c b a X)) (t : z_R) : z_Cut (z_dw c b a X) (z_tx c (fun i => b (i + 1)) X.1) (z_tx c (fun i => b (i + 1)) t) (z_dw c b a (t, X.2.1, X.2.2)) := by
  obtain ⟨h1, h2, h3, h4⟩ := z_ap hD
  have hs : ∀ q ∈ z_tx c (fun i => b (i + 1)) X.1, q ∈ z_hd c b a X := by
    intro q hq
    rcases List.mem_cons.mp hq with e | hq
    · rw [e]; exact List.mem_cons_of_mem _ List.mem_cons_self
    · rcases List.mem_cons.mp hq with e | hq
      · rw [e]; exact List.mem_cons_of_mem _ (List.mem_cons_of_mem _ List.mem_cons_self)
      · exact absurd hq List.not_mem_nil
  have hb : List.Nodup [b 0, b 1, b 2, b 3, b 4, b 5, b 6] := h4
  have e01 : b 0 ≠ b 1 := by simp at hb; omega
  have e02 : b 0 ≠ b 2 := by simp at hb; omega
  have e12 : b 1 ≠ b 2 := by simp at hb; omega
  have eo : ∀ x, x = b 3 ∨ x = b 4 ∨ x = b 5 ∨ x = b 6 → x ≠ b 1 ∧ x ≠ b 2 := by simp at hb; omega
  refine ⟨fun q hq => by rw [z_dwE]; exact List.mem_append_left _ (hs q hq), ?_, z_dwA, fun q hq => ?_⟩
  · show List.Nodup [b 1, b 2]
    simp [e12]
  · rw [z_dwE] at hq
    rcases List.mem_append.mp hq with hq | hq
    · have key : ∀ x, x ∈ (z_tx c (fun i => b (i + 1)) X.1).map Prod.fst → x = b 1 ∨ x = b 2 := by
        intro x hx
        have hx : x ∈ [b 1, b 2] := hx
        simpa using hx
      have old : ∀ q ∈ z_hd c b a X, q.1 ≠ b 1 → q.1 ≠ b 2 → q ∈ z_tx c (fun i => b (i + 1)) t ∨ (q ∈ z_dw c b a X ∧ q.1 ∉ (z_tx c (fun i => b (i + 1)) X.1).map Prod.fst) := fun q h n1 n2 => Or.inr ⟨by rw [z_dwE]; exact List.mem_append_left _ h, fun hx => by
        rcases key _ hx with e | e
        · exact n1 e
        · exact n2 e⟩
      rcases List.mem_cons.mp hq with e | hq
      · rw [e]; exact old _ List.mem_cons_self e01 e02
      · rcases List.mem_cons.mp hq with e | hq
        · rw [e]; exact Or.inl List.mem_cons_self
        · rcases List.mem_cons.mp hq with e | hq
          · rw [e]; exact Or.inl (List.mem_cons_of_mem _ List.mem_cons_self)
          · have hq' : q ∈ z_hd c b a X := List.mem_cons_of_mem _ (List.mem_cons_of_mem _ (List.mem_cons_of_mem _ hq))
            have h9 : q.1 ∈ [b 3, b 4, b 5, b 6] := List.mem_map.mpr ⟨q, hq, rfl⟩
            have h8 := eo q.1 (by simpa using h9)
            exact old q hq' h8.1 h8.2
    · obtain ⟨j, hj, hq⟩ := List.mem_flatMap.mp hq
      have hj := List.mem_range.mp hj
      refine Or.inr ⟨z_inS hj q hq, fun hx => ?_⟩
      obtain ⟨q2, hq2, e2⟩ := List.mem_map.mp hx
      exact h3 j hj q2.1 (List.mem_map.mpr ⟨q2, hs q2 hq2, rfl⟩) q.1 (List.mem_map.mpr ⟨q, hq, rfl⟩) e2
theorem z_cutTp (hD : va_D A (z_dw c b a X)) : z_Cut (z_dw c b a X) (z_tx c (fun i => b (i + 1)) X.1) (z_tx c (fun i => b (i + 1)) X.1) (z_dw c b a X) := z_cutT hD X.1
theorem z_cutR (hD : va_D A (z_dw c b a X)) {k : Nat} (hk : k < 19) (r n : Nat) (f : Nat → Int32) (h : (a k r, .inl (c 0, n, .inl f)) ∈ z_st c (a k) (X.2.2 k)) : z_Cut (z_dw c b a X) (z_r1 c (a k r) n f) (z_r1 c (a k r) n f) (z_dw c b a X) := by
  refine z_cutP (fun q hq => ?_) ?_ (z_nd hD)
  · rcases List.mem_cons.mp hq with e | hq
    · rw [e]; exact z_inS hk _ h
    · exact absurd hq List.not_mem_nil
  · show List.Nodup [a k r]
    simp
theorem z_pl3 {G : Nat → z_R} {k : Nat} (hk : k < 3) (u : z_R) : z_pl c a (z_u3 G k u) = z_pl c a G := by
  unfold z_pl
  congr 1
  funext j
  rw [show z_u3 G k u (j + 3) = G (j + 3) from if_neg (by omega)]

theorem z_put0_0 (v : Int32) : (z_dw c b a X).set 7 (a 0 0, .inr (2, [.int v, .int ((X.2.2 0) 0 1), .int ((X.2.2 0) 0 2), .int ((X.2.2 0) 0 3), .ref (a 0 1), .ref (a 0 2), .ref (a 0 3), .ref (a 0 4), .ref (a 0 5), .ref (a 0 6), .ref (a 0 7), .ref (a 0 8), .ref (a 0 9), .ref (a 0 10), .ref (a 0 11), .ref (a 0 12)])) = z_dw c b a (X.1, X.2.1, z_u3 X.2.2 0 (z_u2 (X.2.2 0) 0 0 v)) := by
  unfold z_dw
  rw [z_pl3 (by decide)]
  rfl
theorem z_put0_2 (v : Int32) : (z_dw c b a X).set 7 (a 0 0, .inr (2, [.int ((X.2.2 0) 0 0), .int ((X.2.2 0) 0 1), .int v, .int ((X.2.2 0) 0 3), .ref (a 0 1), .ref (a 0 2), .ref (a 0 3), .ref (a 0 4), .ref (a 0 5), .ref (a 0 6), .ref (a 0 7), .ref (a 0 8), .ref (a 0 9), .ref (a 0 10), .ref (a 0 11), .ref (a 0 12)])) = z_dw c b a (X.1, X.2.1, z_u3 X.2.2 0 (z_u2 (X.2.2 0) 0 2 v)) := by
  unfold z_dw
  rw [z_pl3 (by decide)]
  rfl
theorem z_put1_2 (v : Int32) : (z_dw c b a X).set 23 (a 1 0, .inr (2, [.int ((X.2.2 1) 0 0), .int ((X.2.2 1) 0 1), .int v, .int ((X.2.2 1) 0 3), .ref (a 1 1), .ref (a 1 2), .ref (a 1 3), .ref (a 1 4), .ref (a 1 5), .ref (a 1 6), .ref (a 1 7), .ref (a 1 8), .ref (a 1 9), .ref (a 1 10), .ref (a 1 11), .ref (a 1 12)])) = z_dw c b a (X.1, X.2.1, z_u3 X.2.2 1 (z_u2 (X.2.2 1) 0 2 v)) := by
  unfold z_dw
  rw [z_pl3 (by decide)]
  rfl
theorem z_putR1_5 (j : Nat) (v : Int32) : (z_dw c b a X).set 28 (a 1 5, .inl (c 0, 16, .inl (upd (X.2.2 1 5) j v))) = z_dw c b a (X.1, X.2.1, z_u3 X.2.2 1 (z_u2 (X.2.2 1) 5 j v)) := by
  unfold z_dw
  rw [z_pl3 (by decide)]
  rfl
theorem z_putR1_6 (j : Nat) (v : Int32) : (z_dw c b a X).set 29 (a 1 6, .inl (c 0, 16, .inl (upd (X.2.2 1 6) j v))) = z_dw c b a (X.1, X.2.1, z_u3 X.2.2 1 (z_u2 (X.2.2 1) 6 j v)) := by
  unfold z_dw
  rw [z_pl3 (by decide)]
  rfl
end ZE
def z_str : List (Nat × String) := [(46, "no character code"), (57, "the text is full"), (71, "the text is not a program"), (122, "what is not 0 to 9"), (130, "no such order"), (157, "what is not 0 to 8"), (162, "no such author"), (167, "what is not 0 to 2"), (172, "no such place"), (177, "no such number of a jump"), (189, "no such number of places"), (206, "a number of the order is out of its range"), (208, "there are 16 orders"), (218, "what or v is out of its range"), (224, "no such order or place"), (229, "another order stands there"), (243, "ticks is not 1 to 99"), (246, "no state is remembered"), (265, "no such script"), (272, "m is not 1 to 50"), (289, "no such save slot"), (291, "nothing has been saved in this slot")]
theorem z_k3 {i : Int32} (h : z_in i 14 = true) : i.toNatClampNeg + 3 < 19 := by
  have h1 := z_inE h
  have h2 : ¬ (14 ≤ i.toNatClampNeg) := fun q => h1 (Or.inr q)
  omega
theorem z_k17 {i : Int32} (h : z_in i 2 = true) : i.toNatClampNeg + 17 < 19 := by
  have h1 := z_inE h
  have h2 : ¬ (2 ≤ i.toNatClampNeg) := fun q => h1 (Or.inr q)
  omega
theorem z_show {p : Program} {l : Launch} {e : Env} {R : Room} {s : State} {m : MethodId} {args : Array Value} {below : List Frame} {meth : Method} {co : Code} {H : Heap} {locs : List Loc} {cells slots : Nat} {Q : State → Prop} {pc : Nat} {ls : Array Slot} {st st' : List Value} (h : st = st') (k : W p l e R s m args below meth co H locs cells slots Q (F0 m pc ls st)) : W p l e R s m args below meth co H locs cells slots Q (F0 m pc ls st') := by
  rw [← h]; exact k
/-- the exceptions: by number -/
def z_ex (k : Nat) : String := if k = 1 then "java/lang/IllegalArgumentException" else if k = 2 then "java/lang/IllegalStateException" else "java/lang/IndexOutOfBoundsException"
def z_nms : List String := ["java/lang/RuntimeException", "java/lang/Exception"]
def z_tD : List MethodName := [Bundle.initS "java/lang/RuntimeException", Bundle.initS "java/lang/Exception", Bundle.initS Bundle.tN]
def z_tC : List (String × String) := [(z_ex 1, z_ex 1), (z_ex 2, z_ex 2), (z_ex 3, z_ex 3)]
def z_tN : List (String × String) := [(z_ex 2, z_ex 1), (z_ex 1, z_ex 3), (z_ex 2, z_ex 3), (z_ex 1, z_ex 2), (z_ex 3, z_ex 1), (z_ex 3, z_ex 2)]
def z_bad (E : String) : List Cond := z_tD.map Cond.declares ++ [.castable E E]
/-- what a throw wants of the state beside the tables' words -/
def z_EH (A : Nat → Prop) (U : State) (H : Heap) : Prop := vx_Zq Bundle.tN "UNASSIGNED_STACK" Bundle.steD A U H ∧ vx_Zq Bundle.tN "SUPPRESSED_SENTINEL" Bundle.listD A U H ∧ (∀ q ∈ z_str, ∃ sa, vk_R RX4 q.1 q.2 sa U) ∧ (∀ y ∈ z_tD, va_Nw (.declares y) U) ∧ (∀ q ∈ z_tC, va_Nw (.castable q.1 q.2) U) ∧ ∀ q ∈ z_tN, va_Nc q.1 q.2 U
theorem z_EH.same {A : Nat → Prop} {u U : State} {H : Heap} (e : U.vm = u.vm) (h : z_EH A u H) : z_EH A U H := ⟨h.1.moved (by rw [e]; exact Vm.Alike.refl _), h.2.1.moved (by rw [e]; exact Vm.Alike.refl _), fun q hq => by
  obtain ⟨sa, h1⟩ := h.2.2.1 q hq
  exact ⟨sa, h1.same e⟩, fun y hy => (h.2.2.2.1 y hy).same rfl e.symm, fun q hq => (h.2.2.2.2.1 q hq).same rfl e.symm, fun q hq => (h.2.2.2.2.2 q hq).moved (by rw [e]; exact Vm.Alike.refl _)⟩
theorem z_EH.moved {A : Nat → Prop} {u U : State} {H : Heap} (hW : u.WarmedH U.vm) (h : z_EH A u H) : z_EH A U H := ⟨h.1.moved hW.alike, h.2.1.moved hW.alike, fun q hq => by
  obtain ⟨sa, h1⟩ := h.2.2.1 q hq
  exact ⟨sa, h1.warm hW⟩, fun y hy => va_Nw.warmD hW (h.2.2.2.1 y hy), fun q hq => va_Nw.warmC hW (h.2.2.2.2.1 q hq), fun q hq => (h.2.2.2.2.2 q hq).moved hW.alike⟩
theorem z_EH.kept {A B : Nat → Prop} {u : State} {H H1 : Heap} (h : z_EH A u H) (hq : ∀ a : Nat, a < H.size → ¬ A a → H1[a]? = H[a]?) (hAB : ∀ q, B q → A q) : z_EH B u H1 := ⟨(h.1.kept hq).narrow hAB, (h.2.1.kept hq).narrow hAB, h.2.2⟩
abbrev z_Pt (D : va_G) (c : Nat → ClassId) (sz : Nat) (V : va_W) (av : List Value) : Array Value → State → Prop := va_Pc av (fun U => U.heap.size = sz ∧ va_P D vwCl V U.heap ∧ z_K D c U ∧ va_D (fun _ => True) V ∧ z_EH (va_A V sz) U U.heap)
theorem z_blt {D : va_G} {c : Nat → ClassId} {sz : Nat} {V : va_W} {av : List Value} : FrameBlind (z_Pt D c sz V av) := fun a U g mk q => by
  obtain ⟨q0, q1, qP, qK, qD, qE⟩ := q
  exact ⟨q0, q1, qP, z_K.same (u := U) (U := U.calling g mk a) rfl qK, qD, z_EH.same (u := U) (U := U.calling g mk a) rfl qE⟩
theorem z_pret {D : va_G} {c : Nat → ClassId} {V : va_W} {av : List Value} {s : State} {H : Heap} {A : Nat → Prop} (hP : va_P D vwCl V H) (hK : z_K D c s) (hD : va_D A V) (hE : z_EH (va_A V H.size) s H) : ∀ U : State, U.heap = H → s.WarmedH U.vm → z_Pt D c H.size V av av.toArray U := fun U hU hW => ⟨rfl, by rw [hU], by rw [hU]; exact hP, hK.moved hW, hD.weaken (fun _ _ _ _ => trivial), by rw [hU]; exact hE.moved hW⟩
/-- a method that answers an int or throws -/
abbrev z_Ti (D : va_G) {S : Type} (wf : S → va_W) (r0 : Int32 ⊕ Nat) (g0 : S) (A : Nat → Prop) : Array Value → State → Outcome → State → Prop := va_Qi (fun r u => r0 = .inl r ∧ u = g0) (z_B D wf A) A
abbrev z_Tx (D : va_G) {S : Type} (wf : S → va_W) (r0 : Int32 ⊕ Nat) (g0 : S) (A : Nat → Prop) : String → State → State → Prop := vx_X (fun u : S => u = g0) (fun E u t => (∃ k, r0 = .inr k ∧ E = z_ex k) ∧ va_P D vwCl (wf u) t.heap ∧ va_D A (wf u)) A
theorem z_ofT {l : Launch} {y : MethodName} {ws ws' : List Cond} {rm : Room} {D : va_G} {c : Nat → ClassId} {sz : Nat} {V : va_W} {av : List Value} {Qf : (Nat → Prop) → Array Value → State → Outcome → State → Prop} {Xf : (Nat → Prop) → String → State → State → Prop} {cc : ByteArray} {maxL mc ms : Nat} {ret : Option FieldType}
    (hy : plainName y.cls = true) (hw : ws = Cond.code y cc maxL ret :: ws') (hn : (lg_sl av).length ≤ maxL)
    (body : ∀ (p : Program) (e : Env) (s : State) (m : MethodId) (args : Array Value) (below : List Frame) (meth : Method) (co : Code) (A : Nat → Prop) (ls : Array Slot), p.tables.exec = Jvm.exec → co.code = cc → meth.sig.returnType = ret → co.maxLocals = maxL → (∀ w ∈ ws, w.before args s = true) → s.vm.findClass y.cls = some m.cls → meth.locks = false → meth.name = y.name → (∀ x ∈ co.exceptionTable.toList, False) → (∀ q : Nat, s.heap.size ≤ q → A q) → va_P D vwCl V s.heap → z_K D c s → va_D A V → z_EH A s s.heap → lv_has ls maxL (lv_args 0 av) → s.heap.size = sz →
      W p l e rm s m args below meth co s.heap [] 0 0 (vx_MQ below (Qf A) (Xf A) args s mc ms A) (F0 m 0 ls [])) :
    vx_Met l y ws rm (z_Pt D c sz V av) (Qf (va_A V sz)) (Xf (va_A V sz)) mc ms (va_A V sz) := by
  refine vx_ofW (cc := cc) (maxL := maxL) (ret := ret) hy hw ?_
  intro p e s m args below meth co s₁ B hml hxt hv
  obtain ⟨rfl, hsz, hP, hK, hD0, hE⟩ := hv
  have hts := atoms_spec (ws := ws) B.pre
  have hown : s.vm.findClass y.cls = some m.cls := findClass_of_methodNamed B.named
  have hin : meth.name = y.name := (name_of_methodNamed B.named B.method).1
  have hl := lv_entry av (n := maxL) hn
  rw [lg_entry_eq]
  exact body p e s m _ below meth co (va_A V sz) _ B.exec B.bytes B.returns hml hts hown B.notSynchronized hin hxt (fun q h => Or.inr (by rw [← hsz]; exact h)) hP hK hD0.self hE hl hsz
section ZT
variable {p : Program} {l : Launch} {e : Env} {R : Room} {s : State} {m : MethodId} {args : Array Value} {below : List Frame} {meth : Method} {co : Code} {H : Heap} {locs : List Loc}
variable {cc : ByteArray} {pc : Nat} {ls : Array Slot} {D : va_G} {A : Nat → Prop} {S : Type} {wf : S → va_W} {g g0 : S} {r : Int32} {r0 : Int32 ⊕ Nat} {rest : List Value}
theorem z_ti {XC : String → State → State → Prop} (hx : p.tables.exec = Jvm.exec) (hb : co.code = cc) (hr : meth.sig.returnType = some .int) (hlocks : meth.locks = false) (hP : va_P D vwCl (wf g) H) (hD : va_D A (wf g)) (hS : va_S A s.heap H locs) (hf : some ((Sum.inl r : Int32 ⊕ Nat), g) = some (r0, g0)) (hdg : decode cc pc = .ok (.ireturn, 1)) : W p l e R s m args below meth co H locs 0 0 (vx_MQ below (z_Ti D wf r0 g0 A) XC args s 1 6 A) (F0 m pc ls [.int r]) := by
  cases hf
  refine W.widen (k := 1) (n := 6) (Nat.zero_le _) (Nat.zero_le _) (vx_ret ?_)
  exact W.iret (v := r) hx hb hr (fun t ht _ => ⟨⟨r, g, rfl, ⟨rfl, rfl⟩, by rw [ht]; exact hP, hD⟩, hS.F ht⟩) hS.2.2 hdg hlocks
theorem z_keepT {V : va_W} {H1 : Heap} (hP : va_P D vwCl V H) (hq : ∀ q : Nat, q < H.size → H1[q]? = H[q]?) : va_P D vwCl V H1 := hP.kept fun k q hk => hq q.1 (hP k q hk).lt
theorem z_thrX {cls : String} {k : Nat} (hg0 : (Sum.inr k : Int32 ⊕ Nat) = r0) (hg : g = g0) (hk : cls = z_ex k) (hP : va_P D vwCl (wf g) H) (hD : va_D A (wf g)) (hS : va_S A s.heap H locs) : ∀ t : State, s.vm.Alike t.vm → H.size ≤ t.heap.size → (∀ q : Nat, q < H.size → t.heap[q]? = H[q]?) → z_Tx D wf r0 g0 A cls s t := fun t _ hsz hq => ⟨g, hg, ⟨⟨k, hg0.symm, hk⟩, z_keepT hP hq, hD⟩, ⟨Nat.le_trans hS.1 hsz, fun q h1 h2 => by rw [hq q (Nat.lt_of_lt_of_le h1 hS.1)]; exact hS.2.1 q h1 h2⟩⟩
theorem z_at3 {own : String} {ic k : Nat} (hE : z_EH A s s.heap) (hat : ∀ w ∈ (vx_atS own ic (z_ex k) z_nms).filter goodWord, w.before args s = true) (hk : (z_ex k, z_ex k) ∈ z_tC) (hbad : ∀ w ∈ (vx_atS own ic (z_ex k) z_nms).filter (fun w => !goodWord w), w ∈ z_bad (z_ex k)) : ∀ w ∈ vx_atS own ic (z_ex k) z_nms, w.before args s = true := vx_hat hat hbad (fun w hw => by
  unfold z_bad at hw
  rcases List.mem_append.mp hw with h | h
  · obtain ⟨y, hy, rfl⟩ := List.mem_map.mp h
    exact va_Nw.use rfl (hE.2.2.2.1 y hy)
  · rcases List.mem_cons.mp h with e | h
    · rw [e]; exact va_Nw.use rfl (hE.2.2.2.2.1 _ hk)
    · exact absurd h List.not_mem_nil)

theorem z_thr1 {ik is : Nat} {text : String} (hx : p.tables.exec = Jvm.exec) (hb : co.code = cc) (hlst : l.stackTraces = false) (hown : s.vm.findClass RX4 = some m.cls) (_hn : True ∨ meth.name = meth.name) (hlink : (Cond.classLink RX4 ik (z_ex 1)).before args s = true) (hini : (Cond.initialized (z_ex 1)).before args s = true) (hat : ∀ w ∈ (vx_atS RX4 48 (z_ex 1) z_nms).filter goodWord, w.before args s = true) (hE : z_EH A s s.heap) (hstr : (is, text) ∈ z_str) (hP : va_P D vwCl (wf g) H) (hD : va_D A (wf g)) (hS : va_S A s.heap H locs) (hsize : ls.size = co.maxLocals)
    (d0 : decode cc pc = .ok (.new ik, 3)) (d3 : decode cc (pc + 3) = .ok (.dup, 1)) (d4 : decode cc (pc + 4) = .ok (.ldc is, 2)) (d6 : decode cc (pc + 6) = .ok (.invokespecial 48, 3)) (d9 : decode cc (pc + 9) = .ok (.athrow, 1)) (hxt : ∀ x ∈ co.exceptionTable.toList, False) (hlocks : meth.locks = false) (hRf : 5 < R.frames) (hRl : 82 ≤ R.locals) (hRc : 1 ≤ R.cells) (hRs : 6 ≤ R.slots) (hrest : (rest.map fun v => v.category).sum = 0) (hf : some ((Sum.inr 1 : Int32 ⊕ Nat), g) = some (r0, g0)) : W p l e R s m args below meth co H locs 0 0 (vx_MQ below (z_Ti D wf r0 g0 A) (z_Tx D wf r0 g0 A) args s 1 6 A) (F0 m pc ls rest) := by
  obtain ⟨sa, hsa⟩ := hE.2.2.1 _ hstr
  refine vx_throwS (own := RX4) (cls := z_ex 1) (text := text) (names := z_nms) (ik := ik) (is := is) (ic := 48) (sa := sa) hx hb hlst hown (by decide +kernel) (by decide +kernel) hlink hini hsa (z_at3 hE hat (by decide +kernel) (by decide +kernel)) ?_ hE.1 hE.2.1 hS hsize d0 d3 d4 d6 d9 (fun x hx => (hxt x hx).elim) hRf (by rw [hrest]; exact hRl) (by omega) (by omega) hlocks (z_thrX (by cases hf; rfl) (by cases hf; rfl) rfl hP hD hS) hS.2.2 (by omega) (by omega)
  refine List.forall_mem_cons.mpr ⟨by rfl, List.forall_mem_cons.mpr ⟨by rfl, by decide +kernel⟩⟩
theorem z_thrW1 {ik is : Nat} {text : String} (hx : p.tables.exec = Jvm.exec) (hb : co.code = cc) (hlst : l.stackTraces = false) (hown : s.vm.findClass RX4 = some m.cls) (_hn : True ∨ meth.name = meth.name) (hlink : (Cond.classLink RX4 ik (z_ex 1)).before args s = true) (hini : (Cond.initialized (z_ex 1)).before args s = true) (hat : ∀ w ∈ (vx_atS RX4 48 (z_ex 1) z_nms).filter goodWord, w.before args s = true) (hE : z_EH A s s.heap) (hstr : (is, text) ∈ z_str) (hP : va_P D vwCl (wf g) H) (hD : va_D A (wf g)) (hS : va_S A s.heap H locs) (hsize : ls.size = co.maxLocals)
    (d0 : decode cc pc = .ok (.new ik, 3)) (d3 : decode cc (pc + 3) = .ok (.dup, 1)) (d4 : decode cc (pc + 4) = .ok (.ldc_w is, 3)) (d6 : decode cc (pc + 7) = .ok (.invokespecial 48, 3)) (d9 : decode cc (pc + 10) = .ok (.athrow, 1)) (hxt : ∀ x ∈ co.exceptionTable.toList, False) (hlocks : meth.locks = false) (hRf : 5 < R.frames) (hRl : 82 ≤ R.locals) (hRc : 1 ≤ R.cells) (hRs : 6 ≤ R.slots) (hrest : (rest.map fun v => v.category).sum = 0) (hf : some ((Sum.inr 1 : Int32 ⊕ Nat), g) = some (r0, g0)) : W p l e R s m args below meth co H locs 0 0 (vx_MQ below (z_Ti D wf r0 g0 A) (z_Tx D wf r0 g0 A) args s 1 6 A) (F0 m pc ls rest) := by
  obtain ⟨sa, hsa⟩ := hE.2.2.1 _ hstr
  refine vx_throwSW (own := RX4) (cls := z_ex 1) (text := text) (names := z_nms) (ik := ik) (is := is) (ic := 48) (sa := sa) hx hb hlst hown (by decide +kernel) (by decide +kernel) hlink hini hsa (z_at3 hE hat (by decide +kernel) (by decide +kernel)) ?_ hE.1 hE.2.1 hS hsize d0 d3 d4 d6 d9 (fun x hx => (hxt x hx).elim) hRf (by rw [hrest]; exact hRl) (by omega) (by omega) hlocks (z_thrX (by cases hf; rfl) (by cases hf; rfl) rfl hP hD hS) hS.2.2 (by omega) (by omega)
  refine List.forall_mem_cons.mpr ⟨by rfl, List.forall_mem_cons.mpr ⟨by rfl, by decide +kernel⟩⟩
theorem z_thr2 {ik is : Nat} {text : String} (hx : p.tables.exec = Jvm.exec) (hb : co.code = cc) (hlst : l.stackTraces = false) (hown : s.vm.findClass RX4 = some m.cls) (_hn : True ∨ meth.name = meth.name) (hlink : (Cond.classLink RX4 ik (z_ex 2)).before args s = true) (hini : (Cond.initialized (z_ex 2)).before args s = true) (hat : ∀ w ∈ (vx_atS RX4 59 (z_ex 2) z_nms).filter goodWord, w.before args s = true) (hE : z_EH A s s.heap) (hstr : (is, text) ∈ z_str) (hP : va_P D vwCl (wf g) H) (hD : va_D A (wf g)) (hS : va_S A s.heap H locs) (hsize : ls.size = co.maxLocals)
    (d0 : decode cc pc = .ok (.new ik, 3)) (d3 : decode cc (pc + 3) = .ok (.dup, 1)) (d4 : decode cc (pc + 4) = .ok (.ldc is, 2)) (d6 : decode cc (pc + 6) = .ok (.invokespecial 59, 3)) (d9 : decode cc (pc + 9) = .ok (.athrow, 1)) (hxt : ∀ x ∈ co.exceptionTable.toList, False) (hlocks : meth.locks = false) (hRf : 5 < R.frames) (hRl : 82 ≤ R.locals) (hRc : 1 ≤ R.cells) (hRs : 6 ≤ R.slots) (hrest : (rest.map fun v => v.category).sum = 0) (hf : some ((Sum.inr 2 : Int32 ⊕ Nat), g) = some (r0, g0)) : W p l e R s m args below meth co H locs 0 0 (vx_MQ below (z_Ti D wf r0 g0 A) (z_Tx D wf r0 g0 A) args s 1 6 A) (F0 m pc ls rest) := by
  obtain ⟨sa, hsa⟩ := hE.2.2.1 _ hstr
  refine vx_throwS (own := RX4) (cls := z_ex 2) (text := text) (names := z_nms) (ik := ik) (is := is) (ic := 59) (sa := sa) hx hb hlst hown (by decide +kernel) (by decide +kernel) hlink hini hsa (z_at3 hE hat (by decide +kernel) (by decide +kernel)) ?_ hE.1 hE.2.1 hS hsize d0 d3 d4 d6 d9 (fun x hx => (hxt x hx).elim) hRf (by rw [hrest]; exact hRl) (by omega) (by omega) hlocks (z_thrX (by cases hf; rfl) (by cases hf; rfl) rfl hP hD hS) hS.2.2 (by omega) (by omega)
  refine List.forall_mem_cons.mpr ⟨by rfl, List.forall_mem_cons.mpr ⟨by rfl, by decide +kernel⟩⟩
theorem z_thrW2 {ik is : Nat} {text : String} (hx : p.tables.exec = Jvm.exec) (hb : co.code = cc) (hlst : l.stackTraces = false) (hown : s.vm.findClass RX4 = some m.cls) (_hn : True ∨ meth.name = meth.name) (hlink : (Cond.classLink RX4 ik (z_ex 2)).before args s = true) (hini : (Cond.initialized (z_ex 2)).before args s = true) (hat : ∀ w ∈ (vx_atS RX4 59 (z_ex 2) z_nms).filter goodWord, w.before args s = true) (hE : z_EH A s s.heap) (hstr : (is, text) ∈ z_str) (hP : va_P D vwCl (wf g) H) (hD : va_D A (wf g)) (hS : va_S A s.heap H locs) (hsize : ls.size = co.maxLocals)
    (d0 : decode cc pc = .ok (.new ik, 3)) (d3 : decode cc (pc + 3) = .ok (.dup, 1)) (d4 : decode cc (pc + 4) = .ok (.ldc_w is, 3)) (d6 : decode cc (pc + 7) = .ok (.invokespecial 59, 3)) (d9 : decode cc (pc + 10) = .ok (.athrow, 1)) (hxt : ∀ x ∈ co.exceptionTable.toList, False) (hlocks : meth.locks = false) (hRf : 5 < R.frames) (hRl : 82 ≤ R.locals) (hRc : 1 ≤ R.cells) (hRs : 6 ≤ R.slots) (hrest : (rest.map fun v => v.category).sum = 0) (hf : some ((Sum.inr 2 : Int32 ⊕ Nat), g) = some (r0, g0)) : W p l e R s m args below meth co H locs 0 0 (vx_MQ below (z_Ti D wf r0 g0 A) (z_Tx D wf r0 g0 A) args s 1 6 A) (F0 m pc ls rest) := by
  obtain ⟨sa, hsa⟩ := hE.2.2.1 _ hstr
  refine vx_throwSW (own := RX4) (cls := z_ex 2) (text := text) (names := z_nms) (ik := ik) (is := is) (ic := 59) (sa := sa) hx hb hlst hown (by decide +kernel) (by decide +kernel) hlink hini hsa (z_at3 hE hat (by decide +kernel) (by decide +kernel)) ?_ hE.1 hE.2.1 hS hsize d0 d3 d4 d6 d9 (fun x hx => (hxt x hx).elim) hRf (by rw [hrest]; exact hRl) (by omega) (by omega) hlocks (z_thrX (by cases hf; rfl) (by cases hf; rfl) rfl hP hD hS) hS.2.2 (by omega) (by omega)
  refine List.forall_mem_cons.mpr ⟨by rfl, List.forall_mem_cons.mpr ⟨by rfl, by decide +kernel⟩⟩
theorem z_thr3 {ik is : Nat} {text : String} (hx : p.tables.exec = Jvm.exec) (hb : co.code = cc) (hlst : l.stackTraces = false) (hown : s.vm.findClass RX4 = some m.cls) (_hn : True ∨ meth.name = meth.name) (hlink : (Cond.classLink RX4 ik (z_ex 3)).before args s = true) (hini : (Cond.initialized (z_ex 3)).before args s = true) (hat : ∀ w ∈ (vx_atS RX4 132 (z_ex 3) z_nms).filter goodWord, w.before args s = true) (hE : z_EH A s s.heap) (hstr : (is, text) ∈ z_str) (hP : va_P D vwCl (wf g) H) (hD : va_D A (wf g)) (hS : va_S A s.heap H locs) (hsize : ls.size = co.maxLocals)
    (d0 : decode cc pc = .ok (.new ik, 3)) (d3 : decode cc (pc + 3) = .ok (.dup, 1)) (d4 : decode cc (pc + 4) = .ok (.ldc is, 2)) (d6 : decode cc (pc + 6) = .ok (.invokespecial 132, 3)) (d9 : decode cc (pc + 9) = .ok (.athrow, 1)) (hxt : ∀ x ∈ co.exceptionTable.toList, False) (hlocks : meth.locks = false) (hRf : 5 < R.frames) (hRl : 82 ≤ R.locals) (hRc : 1 ≤ R.cells) (hRs : 6 ≤ R.slots) (hrest : (rest.map fun v => v.category).sum = 0) (hf : some ((Sum.inr 3 : Int32 ⊕ Nat), g) = some (r0, g0)) : W p l e R s m args below meth co H locs 0 0 (vx_MQ below (z_Ti D wf r0 g0 A) (z_Tx D wf r0 g0 A) args s 1 6 A) (F0 m pc ls rest) := by
  obtain ⟨sa, hsa⟩ := hE.2.2.1 _ hstr
  refine vx_throwS (own := RX4) (cls := z_ex 3) (text := text) (names := z_nms) (ik := ik) (is := is) (ic := 132) (sa := sa) hx hb hlst hown (by decide +kernel) (by decide +kernel) hlink hini hsa (z_at3 hE hat (by decide +kernel) (by decide +kernel)) ?_ hE.1 hE.2.1 hS hsize d0 d3 d4 d6 d9 (fun x hx => (hxt x hx).elim) hRf (by rw [hrest]; exact hRl) (by omega) (by omega) hlocks (z_thrX (by cases hf; rfl) (by cases hf; rfl) rfl hP hD hS) hS.2.2 (by omega) (by omega)
  refine List.forall_mem_cons.mpr ⟨by rfl, List.forall_mem_cons.mpr ⟨by rfl, by decide +kernel⟩⟩
theorem z_thrW3 {ik is : Nat} {text : String} (hx : p.tables.exec = Jvm.exec) (hb : co.code = cc) (hlst : l.stackTraces = false) (hown : s.vm.findClass RX4 = some m.cls) (_hn : True ∨ meth.name = meth.name) (hlink : (Cond.classLink RX4 ik (z_ex 3)).before args s = true) (hini : (Cond.initialized (z_ex 3)).before args s = true) (hat : ∀ w ∈ (vx_atS RX4 132 (z_ex 3) z_nms).filter goodWord, w.before args s = true) (hE : z_EH A s s.heap) (hstr : (is, text) ∈ z_str) (hP : va_P D vwCl (wf g) H) (hD : va_D A (wf g)) (hS : va_S A s.heap H locs) (hsize : ls.size = co.maxLocals)
    (d0 : decode cc pc = .ok (.new ik, 3)) (d3 : decode cc (pc + 3) = .ok (.dup, 1)) (d4 : decode cc (pc + 4) = .ok (.ldc_w is, 3)) (d6 : decode cc (pc + 7) = .ok (.invokespecial 132, 3)) (d9 : decode cc (pc + 10) = .ok (.athrow, 1)) (hxt : ∀ x ∈ co.exceptionTable.toList, False) (hlocks : meth.locks = false) (hRf : 5 < R.frames) (hRl : 82 ≤ R.locals) (hRc : 1 ≤ R.cells) (hRs : 6 ≤ R.slots) (hrest : (rest.map fun v => v.category).sum = 0) (hf : some ((Sum.inr 3 : Int32 ⊕ Nat), g) = some (r0, g0)) : W p l e R s m args below meth co H locs 0 0 (vx_MQ below (z_Ti D wf r0 g0 A) (z_Tx D wf r0 g0 A) args s 1 6 A) (F0 m pc ls rest) := by
  obtain ⟨sa, hsa⟩ := hE.2.2.1 _ hstr
  refine vx_throwSW (own := RX4) (cls := z_ex 3) (text := text) (names := z_nms) (ik := ik) (is := is) (ic := 132) (sa := sa) hx hb hlst hown (by decide +kernel) (by decide +kernel) hlink hini hsa (z_at3 hE hat (by decide +kernel) (by decide +kernel)) ?_ hE.1 hE.2.1 hS hsize d0 d3 d4 d6 d9 (fun x hx => (hxt x hx).elim) hRf (by rw [hrest]; exact hRl) (by omega) (by omega) hlocks (z_thrX (by cases hf; rfl) (by cases hf; rfl) rfl hP hD hS) hS.2.2 (by omega) (by omega)
  refine List.forall_mem_cons.mpr ⟨by rfl, List.forall_mem_cons.mpr ⟨by rfl, by decide +kernel⟩⟩
end ZT
