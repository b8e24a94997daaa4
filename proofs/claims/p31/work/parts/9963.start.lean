
/-! the law from its entry, up to its loop -/
def z_O0 : z_O := (z_X0, fun _ _ => 0, fun _ _ => 0)
theorem z_inF : ∀ q ∈ z_nF, Cond.fieldLinkNest q.1 q.2.1 q.2.2.1 q.2.2.2.1 q.2.2.2.2.1 q.2.2.2.2.2 ∈ lw_tbl := by decide +kernel
theorem z_inM : ∀ q ∈ z_nM, Cond.methodLinkNest q.1 q.2.1 q.2.2.1 q.2.2.2 ∈ lw_tbl := by decide +kernel
theorem z_inR : ∀ q ∈ z_str, Cond.stringRef RX4 q.1 q.2 ∈ lw_tbl := by decide +kernel
theorem z_inD : ∀ y ∈ z_tD, Cond.declares y ∈ lw_tbl := by decide +kernel
theorem z_inC : ∀ q ∈ z_tC, Cond.castable q.1 q.2 ∈ lw_tbl := by decide +kernel
theorem z_arrI {s : State} {args : Array Value} (h : (Cond.arrayClass .int).before args s = true) : ∃ cA : ClassId, ArrOfT s cA .int ∧ va_RA s cA .int := by
  obtain ⟨cA, kA, comp, h1, h2, h3⟩ := Cond.arrayClass_spec h
  exact ⟨cA, fun n z => ⟨(fun k h => by cases h), kA, h2, comp, h3⟩, h1⟩
theorem z_arrZ {s : State} {args : Array Value} (h : (Cond.arrayClass .boolean).before args s = true) : ∃ cA : ClassId, ArrOfT s cA .boolean ∧ va_RA s cA .boolean := by
  obtain ⟨cA, kA, comp, h1, h2, h3⟩ := Cond.arrayClass_spec h
  exact ⟨cA, fun n z => ⟨(fun k h => by cases h), kA, h2, comp, h3⟩, h1⟩
theorem z_arrS {s : State} (h : va_AO RX2 s) : ∃ cA : ClassId, ArrOfT s cA (.object RX2) ∧ va_RA s cA (.object RX2) := by
  obtain ⟨comp, cA, k, h1, h2, h3, h4, h5⟩ := Cond.arrayOver_spec h
  exact ⟨cA, fun n z => ⟨(fun k h => by cases h), k, h3, comp, h4⟩, k, comp, h3, h4, h1, h5⟩
theorem z_Kof {s : State} {args : Array Value} (hts : ∀ w ∈ lw_tbl, w.before args s = true) : ∃ (D : va_G) (c : Nat → ClassId), z_K D c s := by
  obtain ⟨k0, i0, hk0⟩ := u_known (C := RX0) (T := TX0) (N := 4) (n := 4) hts inX0 (hts (.instantiable RX0 4) (by decide +kernel))
  obtain ⟨k1, i1, hk1⟩ := u_known (C := RX1) (T := TX1) (N := 3) (n := 3) hts inX1 (hts (.instantiable RX1 3) (by decide +kernel))
  obtain ⟨k2, i2, hk2⟩ := u_known (C := RX2) (T := TX2) (N := 16) (n := 16) hts inX2 (hts (.instantiable RX2 16) (by decide +kernel))
  obtain ⟨k3, i3, hk3⟩ := u_known (C := RX3) (T := TX3) (N := 2) (n := 2) hts inX3 (hts (.instantiable RX3 2) (by decide +kernel))
  obtain ⟨k4, i4, hk4⟩ := u_known (C := RX4) (T := TX4) (N := 7) (n := 7) hts inX4 (hts (.instantiable RX4 7) (by decide +kernel))
  obtain ⟨a0, r0⟩ := z_arrI (hts (.arrayClass .int) (by decide +kernel))
  obtain ⟨a1, r1⟩ := z_arrZ (hts (.arrayClass .boolean) (by decide +kernel))
  obtain ⟨a2, r2⟩ := z_arrS (va_AO.of (hts (.arrayOver (.object RX2)) (by decide +kernel)))
  obtain ⟨a3, r3⟩ := z_arrI (hts (.arrayClass .int) (by decide +kernel))
  refine ⟨(fun k => match k with
    | 0 => k0
    | 1 => k1
    | 2 => k2
    | 3 => k3
    | _ => k4, fun k => match k with
    | 0 => i0
    | 1 => i1
    | 2 => i2
    | 3 => i3
    | _ => i4), fun k => match k with
    | 0 => a0
    | 1 => a1
    | 2 => a2
    | _ => a3, ⟨fun k q hq => ?_, fun k q hq => ?_⟩, fun q hq => va_Nw.of rfl (hts _ (z_inF q hq)), fun q hq => va_Nw.of rfl (hts _ (z_inM q hq))⟩
  · match k, hq with
    | 0, hq => cases hq; exact hk0
    | 1, hq => cases hq; exact hk1
    | 2, hq => cases hq; exact hk2
    | 3, hq => cases hq; exact hk3
    | 4, hq => cases hq; exact hk4
    | k + 5, hq => simp [vwCl] at hq
  · match k, hq with
    | 0, hq => cases hq; exact r0
    | 1, hq => cases hq; exact r1
    | 2, hq => cases hq; exact r2
    | 3, hq => cases hq; exact r3
    | k + 4, hq => simp [z_ty] at hq
theorem z_rOf {s : State} {args : Array Value} {own tx : String} {k : Nat} (h1 : (Cond.stringRef own k tx).before args s = true) (h2 : (Cond.exactly (.string own k) "java/lang/String").before args s = true) : ∃ a, vk_R own k tx a s := by
  obtain ⟨a, c, cell, kk, q1, q2, q3, q4, q5, q6, -⟩ := Cond.exactly_spec (args := args) (first := s) (o := none) (s := s) (idx := []) (t := .string own k) (cls := "java/lang/String") h2
  exact ⟨a, vk_R.of h1 q1⟩
theorem z_EHof {s : State} {args : Array Value} {A : Nat → Prop} (hts : ∀ w ∈ lw_tbl, w.before args s = true) (hgv : (Jvm.Cond.and given_1 narrow_1).before args s = true) (hA : ∀ a : Nat, a < s.heap.size → ¬ A a) : z_EH A s s.heap := by
  have hf := flat_of_before _ hgv
  have hE1 : ∀ q ∈ z_str, (Cond.exactly (.string RX4 q.1) "java/lang/String").before args s = true := (List.forall_mem_cons.mpr ⟨hf _ (by decide +kernel), (List.forall_mem_cons.mpr ⟨hf _ (by decide +kernel), (List.forall_mem_cons.mpr ⟨hf _ (by decide +kernel), (List.forall_mem_cons.mpr ⟨hf _ (by decide +kernel), (List.forall_mem_cons.mpr ⟨hf _ (by decide +kernel), (List.forall_mem_cons.mpr ⟨hf _ (by decide +kernel), (List.forall_mem_cons.mpr ⟨hf _ (by decide +kernel), (List.forall_mem_cons.mpr ⟨hf _ (by decide +kernel), (List.forall_mem_cons.mpr ⟨hf _ (by decide +kernel), (List.forall_mem_cons.mpr ⟨hf _ (by decide +kernel), (List.forall_mem_cons.mpr ⟨hf _ (by decide +kernel), (List.forall_mem_cons.mpr ⟨hf _ (by decide +kernel), (List.forall_mem_cons.mpr ⟨hf _ (by decide +kernel), (List.forall_mem_cons.mpr ⟨hf _ (by decide +kernel), (fun _ h => absurd h List.not_mem_nil)⟩)⟩)⟩)⟩)⟩)⟩)⟩)⟩)⟩)⟩)⟩)⟩)⟩)⟩)
  have hE2 : ∀ q ∈ z_tN, (Cond.not (.castable q.1 q.2)).before args s = true := (List.forall_mem_cons.mpr ⟨hf _ (by decide +kernel), (List.forall_mem_cons.mpr ⟨hf _ (by decide +kernel), (List.forall_mem_cons.mpr ⟨hf _ (by decide +kernel), (List.forall_mem_cons.mpr ⟨hf _ (by decide +kernel), (fun _ h => absurd h List.not_mem_nil)⟩)⟩)⟩)⟩)
  refine ⟨?_, ?_, fun q hq => z_rOf (hts _ (z_inR q hq)) (hE1 q hq), fun y hy => va_Nw.of rfl (hts _ (z_inD y hy)), fun q hq => va_Nw.of rfl (hts _ (z_inC q hq)), fun q hq => va_Nc.of (hE2 q hq)⟩
  · exact vx_Zqof (hts (.laysStatic Bundle.tN "UNASSIGNED_STACK" Bundle.steD) (by decide +kernel)) (hts (.initialized Bundle.tN) (by decide +kernel)) (hf (.isRef (.static Bundle.tN "UNASSIGNED_STACK" Bundle.steD)) (by decide +kernel)) hA
  · exact vx_Zqof (hts (.laysStatic Bundle.tN "SUPPRESSED_SENTINEL" Bundle.listD) (by decide +kernel)) (hts (.initialized Bundle.tN) (by decide +kernel)) (hf (.isRef (.static Bundle.tN "SUPPRESSED_SENTINEL" Bundle.listD)) (by decide +kernel)) hA
theorem z_lst {l : Launch} (h : l.flags = flags0) : l.stackTraces = false := by
  first
    | exact congrArg Flags.stackTraces h
    | (unfold Launch.stackTraces; rw [h]; rfl)
    | (rw [show l.stackTraces = l.flags.stackTraces from rfl, h]; rfl)
set_option maxRecDepth 100000 in
set_option maxHeartbeats 8000000 in
theorem machine_start {p : Program} {e : Env} {s : State} {m : MethodId} {below : List Frame} {meth : Method} {co : Code} (l : Launch) (hflags : l.flags = flags0) {bS L : Nat} {xs : Nat → Int32} (C0 : lw_At p s m meth co bS L xs) {N : Nat} (hm : fL_main N L xs z_O0 = some 1) : W p l e room_1 s m #[Value.ref bS] below meth co s.heap [] 0 0 (lw_Z below #[Value.ref bS] s) (entryFrame m ([Value.ref bS] : List Value).toArray 16) := by
  obtain ⟨hx, hb, hr, hml, hown, hts, hX, hbl, hlocks, hgv⟩ := id C0
  have hlst := z_lst hflags
  obtain ⟨A, hAe⟩ : ∃ A : Nat → Prop, A = fun q : Nat => s.heap.size ≤ q := ⟨_, rfl⟩
  have hA : ∀ q : Nat, s.heap.size ≤ q → A q := fun q h => by rw [hAe]; exact h
  have hnA : ∀ q : Nat, q < s.heap.size → ¬ A q := fun q h => by rw [hAe]; exact Nat.not_le.mpr h
  have hE : z_EH A s s.heap := z_EHof hts hgv hnA
  have hAO : va_AO RX2 s := va_AO.of (hts (.arrayOver (.object RX2)) (by decide +kernel))
  obtain ⟨D, c, hK⟩ := z_Kof hts
  have htw : ∀ w ∈ wsL_law, w.before #[Value.ref bS] s = true := fun w h => hts w (wsL_law_in w h)
  have hl := lv_entry ([.ref bS]) (n := 16) (Nat.le_of_ble_eq_true rfl)
  rw [lg_entry_eq]
  generalize (lg_sl ([.ref bS]) ++ List.replicate (16 - (lg_sl ([.ref bS])).length) Slot.unset).toArray = ls at hl ⊢
  have hl : lv_has ls 16 [(0, .ref bS)] := hl
  obtain ⟨H, hH⟩ : ∃ H, H = s.heap := ⟨_, rfl⟩
  have hS : va_S A s.heap H [] := by rw [hH]; exact va_S.rf
  have hP : va_P D vwCl ([] : va_W) H := z_P0
  have hD : va_D A ([] : va_W) := z_D0
  rw [← hH]
  clear hH
  generalize ([] : List Loc) = locs at hS ⊢
  have hiX4 : ∀ w ∈ wsX40, w ∈ wsL_law := inlX4
  refine va_new (D := D) (ci := 4) (fs := [.null, .null, .null, .null, .null, .null, .null]) (C := RX4) (T := TX4) (N := 7) hx hb htw hiX4 tyX4 tyX4_ok hown (hts (.classLink RL 11 RX4) (by decide +kernel)) (hts (.instantiable RX4 7) (by decide +kernel)) (hts (.initialized RX4) (by decide +kernel)) hK.1 hP hD hS hA rfl (by decide +kernel) (Nat.le_of_ble_eq_true rfl) (Nat.le_of_ble_eq_true rfl) dL_law_0 (fun q0 H hP hD hS => ?_)
  refine W.widen (k := 1) (n := 7) (by omega) (by omega) ?_
  refine lv_dup hx hb dL_law_3 rfl ?_
  refine z_xI (V := []) (x := .inr (4, [.null, .null, .null, .null, .null, .null, .null])) (wf := fun u : (Nat → Nat) × (Nat → Nat → Nat) => z_dw c u.1 u.2 z_X0) ⟨hx, hb, hml, hown, htw⟩ (kX4_init l D c q0 H.size) ⟨z_blA, z_preA (z_subP hP fun _ hz => List.mem_append_right _ hz) hK (z_subD hD (fun _ hz => List.mem_append_right _ hz) (by simp)) hAO⟩ (cwI 0 htw gL_law_X4_init rfl rfl rfl (hts (.initialized RX4) (by decide +kernel)) (hts (.methodLink RL 76 yX4_init) (by decide +kernel)) (hts (.instanceMethod yX4_init) (by decide +kernel)) rfl (by decide +kernel) ⟨Nat.le_of_ble_eq_true rfl, Nat.le_of_ble_eq_true rfl⟩) hP hD hS hA hl.1 (Nat.le_of_ble_eq_true rfl) dL_law_4 ⟨Nat.le_of_ble_eq_true rfl, Nat.le_of_ble_eq_true rfl⟩ (fun um H locs hu hP hD hS => ?_)
  obtain ⟨b, a⟩ := um
  have hu : b 0 = q0 := hu
  have hP2 : va_P D vwCl (z_dw c b a z_X0) H := hP
  have hD2 : va_D A (z_dw c b a z_X0) := hD
  subst hu
  have hP := hP2
  have hD := hD2
  refine W.widen (k := 311) (n := 18050) (by omega) (by omega) ?_
  refine lv_astore_n (lv' := [(1, .ref (b 0)), (0, .ref bS)]) hx hb dL_law_7 rfl hl (by decide) rfl (fun ls hl => ?_)
  refine lv_bipush (v := (12 : Int32)) hx hb dL_law_8 (by decide) ?_
  refine z_newI (N' := 12) hx hb (hts (.arrayClass .int) (by decide +kernel)) hK hP hD hS hA (by decide) (by decide) (Nat.le_of_ble_eq_true rfl) (Nat.le_of_ble_eq_true rfl) (Nat.le_of_ble_eq_true rfl) dL_law_10 (fun q1 H hP hD hS => ?_)
  refine W.widen (k := 312) (n := 18062) (by omega) (by omega) ?_
  refine lv_astore_n (lv' := [(2, .ref q1), (1, .ref (b 0)), (0, .ref bS)]) hx hb dL_law_12 rfl hl (by decide) rfl (fun ls hl => ?_)
  refine lv_bipush (v := (54 : Int32)) hx hb dL_law_13 (by decide) ?_
  refine z_newI (N' := 54) hx hb (hts (.arrayClass .int) (by decide +kernel)) hK hP hD hS hA (by decide) (by decide) (Nat.le_of_ble_eq_true rfl) (Nat.le_of_ble_eq_true rfl) (Nat.le_of_ble_eq_true rfl) dL_law_15 (fun q2 H hP hD hS => ?_)
  refine W.widen (k := 313) (n := 18116) (by omega) (by omega) ?_
  refine lv_astore_n (lv' := [(3, .ref q2), (2, .ref q1), (1, .ref (b 0)), (0, .ref bS)]) hx hb dL_law_17 rfl hl (by decide) rfl (fun ls hl => ?_)
  refine lv_bipush (v := (64 : Int32)) hx hb dL_law_18 (by decide) ?_
  refine z_newI (N' := 64) hx hb (hts (.arrayClass .int) (by decide +kernel)) hK hP hD hS hA (by decide) (by decide) (Nat.le_of_ble_eq_true rfl) (Nat.le_of_ble_eq_true rfl) (Nat.le_of_ble_eq_true rfl) dL_law_20 (fun q3 H hP hD hS => ?_)
  refine W.widen (k := 314) (n := 18180) (by omega) (by omega) ?_
  refine lv_astore (lv' := [(4, .ref q3), (3, .ref q2), (2, .ref q1), (1, .ref (b 0)), (0, .ref bS)]) hx hb dL_law_22 hl (by decide) rfl (fun ls hl => ?_)
  refine lv_bipush (v := (12 : Int32)) hx hb dL_law_24 (by decide) ?_
  refine z_newI (N' := 12) hx hb (hts (.arrayClass .int) (by decide +kernel)) hK hP hD hS hA (by decide) (by decide) (Nat.le_of_ble_eq_true rfl) (Nat.le_of_ble_eq_true rfl) (Nat.le_of_ble_eq_true rfl) dL_law_26 (fun q4 H hP hD hS => ?_)
  refine W.widen (k := 315) (n := 18192) (by omega) (by omega) ?_
  refine lv_astore (lv' := [(5, .ref q4), (4, .ref q3), (3, .ref q2), (2, .ref q1), (1, .ref (b 0)), (0, .ref bS)]) hx hb dL_law_28 hl (by decide) rfl (fun ls hl => ?_)
  refine lv_bipush (v := (54 : Int32)) hx hb dL_law_30 (by decide) ?_
  refine z_newI (N' := 54) hx hb (hts (.arrayClass .int) (by decide +kernel)) hK hP hD hS hA (by decide) (by decide) (Nat.le_of_ble_eq_true rfl) (Nat.le_of_ble_eq_true rfl) (Nat.le_of_ble_eq_true rfl) dL_law_32 (fun q5 H hP hD hS => ?_)
  refine W.widen (k := 316) (n := 18246) (by omega) (by omega) ?_
  refine lv_astore (lv' := [(6, .ref q5), (5, .ref q4), (4, .ref q3), (3, .ref q2), (2, .ref q1), (1, .ref (b 0)), (0, .ref bS)]) hx hb dL_law_34 hl (by decide) rfl (fun ls hl => ?_)
  refine lv_bipush (v := (64 : Int32)) hx hb dL_law_36 (by decide) ?_
  refine z_newI (N' := 64) hx hb (hts (.arrayClass .int) (by decide +kernel)) hK hP hD hS hA (by decide) (by decide) (Nat.le_of_ble_eq_true rfl) (Nat.le_of_ble_eq_true rfl) (Nat.le_of_ble_eq_true rfl) dL_law_38 (fun q6 H hP hD hS => ?_)
  refine W.widen (k := 317) (n := 18310) (by omega) (by omega) ?_
  refine lv_astore (lv' := [(7, .ref q6), (6, .ref q5), (5, .ref q4), (4, .ref q3), (3, .ref q2), (2, .ref q1), (1, .ref (b 0)), (0, .ref bS)]) hx hb dL_law_40 hl (by decide) rfl (fun ls hl => ?_)
  have eW : ((((((z_dw c b a z_X0 ++ [(q1, .inl (c 0, 12, .inl (fun _ => 0)))]) ++ [(q2, .inl (c 0, 54, .inl (fun _ => 0)))]) ++ [(q3, .inl (c 0, 64, .inl (fun _ => 0)))]) ++ [(q4, .inl (c 0, 12, .inl (fun _ => 0)))]) ++ [(q5, .inl (c 0, 54, .inl (fun _ => 0)))]) ++ [(q6, .inl (c 0, 64, .inl (fun _ => 0)))]) = z_vw c b a (z_fn [q1, q2, q3]) (z_fn [q4, q5, q6]) z_O0 := by
    rw [List.append_assoc, List.append_assoc, List.append_assoc, List.append_assoc, List.append_assoc]
    rfl
  rw [eW] at hP hD
  exact law_main hlst C0 hAe hK hE z_O0 hm H locs ls hP hD hS (lv_sub hl [7, 6, 5, 4, 3, 2, 1, 0] rfl)
