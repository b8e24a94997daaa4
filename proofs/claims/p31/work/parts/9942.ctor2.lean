
theorem z_arrX (cA : ClassId) (n : Nat) {f g : Nat → Option Nat} (h : ∀ j, j < n → f j = g j) : vp_cell cA (n, .inr (.inr (.inr (.inr f)))) = vp_cell cA (n, .inr (.inr (.inr (.inr g)))) := by
  rw [vp_cell_q, vp_cell_q]
  have e : ∀ j, j < n → va_rf (f j) = va_rf (g j) := fun j hj => by rw [h j hj]
  unfold arrV
  first
    | (congr 1; apply Array.ext <;> first | simp; done | (intro j h1 h2; simp at h1 h2 ⊢; exact e j (by omega)))
    | (congr 2; apply List.map_congr_left; intro j hj; exact e j (List.mem_range.mp hj))
    | (congr 2; funext j; exact e j.1 j.2)
theorem z_chg {D : va_G} {V : va_W} {H : Heap} {A : Nat → Prop} (hP : va_P D vwCl V H) (hD : va_D A V) (i : Nat) {q n : Nat} {cA : ClassId} {f g : Nat → Option Nat} (he : V[i]? = some (q, .inl (cA, n, .inr (.inr (.inr (.inr f)))))) (h : ∀ j, j < n → f j = g j) : va_P D vwCl (V.set i (q, .inl (cA, n, .inr (.inr (.inr (.inr g)))))) H ∧ va_D A (V.set i (q, .inl (cA, n, .inr (.inr (.inr (.inr g)))))) := by
  have hi := (List.getElem?_eq_some_iff.mp he).1
  refine ⟨fun k x hx => ?_, z_Dsame hD ?_⟩
  · by_cases hk : k = i
    · subst hk
      rw [List.getElem?_set_self hi] at hx
      cases hx
      have h1 := hP k _ he
      show H[q]? = some (vp_cell cA (n, .inr (.inr (.inr (.inr g)))))
      rw [← z_arrX cA n h]
      exact h1
    · rw [List.getElem?_set_ne (fun e => hk e.symm)] at hx
      exact hP k x hx
  · apply List.ext_getElem?
    intro k
    rw [List.getElem?_map, List.getElem?_map]
    by_cases hk : k = i
    · subst hk
      rw [List.getElem?_set_self hi, he]
      rfl
    · rw [List.getElem?_set_ne (fun e => hk e.symm)]
def z_w1 (c : Nat → ClassId) (h b4 : Nat) (f : Nat → Option Nat) (i : Nat) (a : Nat → Nat → Nat) : va_W := [(h, .inr (1, [.ref b4, .int 0, .int 0])), (b4, .inl (c 2, 14, .inr (.inr (.inr (.inr f)))))] ++ (List.range i).flatMap fun j => z_st c (a j) z_s0
theorem z_fmC {f g : Nat → va_W} {l : List Nat} (h : ∀ j ∈ l, f j = g j) : l.flatMap f = l.flatMap g := by
  induction l with
  | nil => rfl
  | cons x l ih =>
    rw [List.flatMap_cons, List.flatMap_cons, h x List.mem_cons_self, ih fun j hj => h j (List.mem_cons_of_mem _ hj)]
theorem z_w1S {c : Nat → ClassId} {h b4 i : Nat} {f f' : Nat → Option Nat} {a : Nat → Nat → Nat} {u : Nat → Nat} : (z_w1 c h b4 f i a ++ z_st c u z_s0).set 1 (b4, .inl (c 2, 14, .inr (.inr (.inr (.inr f'))))) = z_w1 c h b4 f' (i + 1) (fun j => if j = i then u else a j) := by
  have e : ((List.range i).flatMap fun j => z_st c ((fun j => if j = i then u else a j) j) z_s0) = (List.range i).flatMap fun j => z_st c (a j) z_s0 := z_fmC fun j hj => by
    have : j ≠ i := Nat.ne_of_lt (List.mem_range.mp hj)
    show z_st c (if j = i then u else a j) z_s0 = _
    rw [if_neg this]
  unfold z_w1
  rw [List.range_succ, List.flatMap_append, e]
  show _ = _ ++ (_ ++ (z_st c (if i = i then u else a i) z_s0 ++ []))
  rw [if_pos rfl, List.append_nil]
  rfl
theorem z_pm1 (A R B : va_W) : ((A ++ R) ++ B).Perm ((A ++ B) ++ R) := by
  rw [List.append_assoc, List.append_assoc]
  exact List.Perm.append_left A List.perm_append_comm
theorem z_pm4 (A R1 R2 R3 B P : va_W) : ((((A ++ R1) ++ R2) ++ R3) ++ (B ++ P)).Perm ((A ++ B) ++ (((R1 ++ R2) ++ R3) ++ P)) := by
  have h := z_pm2 A ((R1 ++ R2) ++ R3) B P
  simpa only [List.append_assoc] using h
theorem z_pm5 (A R S T B : va_W) : ((((A ++ R) ++ S) ++ T) ++ B).Perm ((A ++ B) ++ (R ++ (S ++ T))) := by
  have h := z_pm1 A (R ++ (S ++ T)) B
  simpa only [List.append_assoc] using h
def z_ak (u0 u1 u2 : Nat → Nat) (am : Nat → Nat → Nat) (u3 u4 : Nat → Nat) : Nat → Nat → Nat := fun k => match k with
  | 0 => u0
  | 1 => u1
  | 2 => u2
  | k + 3 => if k < 14 then am k else if k = 14 then u3 else u4
theorem z_plE {c : Nat → ClassId} {u0 u1 u2 : Nat → Nat} {am : Nat → Nat → Nat} {u3 u4 : Nat → Nat} : z_pl c (z_ak u0 u1 u2 am u3 u4) (fun _ => z_s0) = ((List.range 14).flatMap fun j => z_st c (am j) z_s0) ++ (z_st c u3 z_s0 ++ z_st c u4 z_s0) := by
  have e : ((List.range 14).flatMap fun k => z_st c (z_ak u0 u1 u2 am u3 u4 (k + 3)) z_s0) = (List.range 14).flatMap fun j => z_st c (am j) z_s0 := z_fmC fun j hj => by
    show z_st c (if j < 14 then am j else if j = 14 then u3 else u4) z_s0 = _
    rw [if_pos (List.mem_range.mp hj)]
  unfold z_pl
  rw [show List.range 16 = List.range 14 ++ [14, 15] from rfl, List.flatMap_append]
  show (List.range 14).flatMap (fun k => z_st c (z_ak u0 u1 u2 am u3 u4 (k + 3)) z_s0) ++ (z_st c u3 z_s0 ++ (z_st c u4 z_s0 ++ [])) = _
  rw [e, List.append_nil]

abbrev rmX1_init : Room := { frames := 3, cells := 225, slots := 13174, locals := 64 }
set_option maxRecDepth 100000 in
set_option maxHeartbeats 8000000 in
theorem kX1_init (l : Launch) (D : va_G) (c : Nat → ClassId) (h sz : Nat) : Met l yX1_init wsX1_init rmX1_init (z_PA D c sz [(h, .inr (1, [.null, .int 0, .int 0]))] [.ref h]) (z_Qn D (fun u : Nat × (Nat → Option Nat) × (Nat → Nat → Nat) => z_w1 c h u.1 u.2.1 14 u.2.2) (fun u : Nat × (Nat → Option Nat) × (Nat → Nat → Nat) => ∀ j, j < 14 → u.2.1 j = some (u.2.2 j 0)) (va_A [(h, .inr (1, [.null, .int 0, .int 0]))] sz)) 225 13174 (va_A [(h, .inr (1, [.null, .int 0, .int 0]))] sz) := by
  refine z_ofA (cc := cX1_init) (maxL := 2) (ret := none) (Qf := fun A => z_Qn D (fun u : Nat × (Nat → Option Nat) × (Nat → Nat → Nat) => z_w1 c h u.1 u.2.1 14 u.2.2) (fun u : Nat × (Nat → Option Nat) × (Nat → Nat → Nat) => ∀ j, j < 14 → u.2.1 j = some (u.2.2 j 0)) A) (plainFor_of_name (by decide)) rfl (Nat.le_of_ble_eq_true rfl) ?_
  intro p e s m args below meth co A ls hx hb hr hml hts hown hlocks hin hA hP hK hD hAO hl hsz
  have hiX1 : ∀ w ∈ wsX10, w ∈ wsX1_init := by decide +kernel
  have hiX2 : ∀ w ∈ wsX20, w ∈ wsX1_init := by decide +kernel
  have hown : s.vm.findClass RX1 = some m.cls := hown
  have hin : meth.name = "<init>" := hin
  have hl : lv_has ls 2 [(0, .ref h)] := hl
  obtain ⟨H, hH⟩ : ∃ H, H = s.heap := ⟨_, rfl⟩
  have hS : va_S A s.heap H [] := by rw [hH]; exact va_S.rf
  rw [← hH] at hP ⊢
  clear hH
  generalize ([] : List Loc) = locs at hS ⊢
  refine lv_aload_n hx hb dX1_init_0 rfl (lv_at hl 0 rfl) ?_
  refine W.objInit hx hb hown (hts (.methodLink RX1 3 objectInit) (by decide +kernel)) (hts (.instanceMethod objectInit) (by decide +kernel)) (hts (.code objectInit ⟨#[0xb1]⟩ 1 none) (by decide +kernel)) rfl (by rw [hml]; exact hl.1) rfl dX1_init_1 (Nat.le_of_ble_eq_true rfl) (Nat.le_of_ble_eq_true rfl) ?_
  refine W.eq (g2 := F0 m 4 ls []) rfl ?_
  refine lv_aload_n hx hb dX1_init_4 rfl (lv_at hl 0 rfl) ?_
  refine lv_bipush (v := (14 : Int32)) hx hb dX1_init_5 (by decide) ?_
  refine z_newq (N' := 14) hx hb hown (hts (.classLink RX1 9 RX2) (by decide +kernel)) hAO hK hP hD hS hA (by decide) (by decide) (Nat.le_of_ble_eq_true rfl) (Nat.le_of_ble_eq_true rfl) (Nat.le_of_ble_eq_true rfl) dX1_init_7 (fun q1 H hP hD hS => ?_)
  refine W.widen (k := 1) (n := 14) (by omega) (by omega) ?_
  have hP : va_P D vwCl ([(h, .inr (1, [.null, .int 0, .int 0])), (q1, .inl (c 2, 14, .inr (.inr (.inr (.inr (fun _ => none))))))]) H := hP
  have hD : va_D A ([(h, .inr (1, [.null, .int 0, .int 0])), (q1, .inl (c 2, 14, .inr (.inr (.inr (.inr (fun _ => none))))))]) := hD
  refine va_putF (D := D) (ci := 1) (v := .ref q1) (ty := .array (.object "ProgramDrum$State")) (C := RX1) (T := TX1) (N := 3) hx hb hts hiX1 tyX1 tyX1_ok nmX1 hown hK.1 hP hD hS 0 rfl rfl 0 (by decide) (hts (.fieldLink RX1 11 "ProgramDrum$Memory" "states" "[LProgramDrum$State;") (by decide +kernel)) (fun _ h9 => h9) rfl hin rfl (by decide +kernel) rfl rfl (Nat.le_of_ble_eq_true rfl) dX1_init_10 (fun H locs hP hD hS => ?_)
  have hP : va_P D vwCl ([(h, .inr (1, [.ref q1, .int 0, .int 0])), (q1, .inl (c 2, 14, .inr (.inr (.inr (.inr (fun _ => none))))))]) H := hP
  have hD : va_D A ([(h, .inr (1, [.ref q1, .int 0, .int 0])), (q1, .inl (c 2, 14, .inr (.inr (.inr (.inr (fun _ => none))))))]) := hD
  refine lv_iconst (v := (0 : Int32)) hx hb dX1_init_13 (by decide) ?_
  refine lv_istore_n (lv' := [(1, .int (nI 0)), (0, .ref h)]) hx hb dX1_init_14 rfl hl (by decide) rfl (fun ls hl => ?_)
  have LP : ∀ (k i : Nat) (a : Nat → Nat → Nat) (f : Nat → Option Nat), i + k = 14 → (∀ j, j < i → f j = some (a j 0)) → ∀ (H : Heap) (locs : List Loc) (ls : Array Slot), va_P D vwCl (z_w1 c h q1 f i a) H → va_D A (z_w1 c h q1 f i a) → va_S A s.heap H locs → lv_has ls 2 [(1, .int (nI i)), (0, .ref h)] → W p l e rmX1_init s m args below meth co H locs (1 + 16 * i) (14 + 940 * i) (MQ below (z_Qn D (fun u : Nat × (Nat → Option Nat) × (Nat → Nat → Nat) => z_w1 c h u.1 u.2.1 14 u.2.2) (fun u : Nat × (Nat → Option Nat) × (Nat → Nat → Nat) => ∀ j, j < 14 → u.2.1 j = some (u.2.2 j 0)) A) args s 225 13174 A) (F0 m 15 ls []) := by
    intro k
    induction k with
    | zero =>
      intro i a f hi hf H locs ls hP hD hS hl
      have hi : i = 14 := by omega
      subst hi
      refine lv_iload_n hx hb dX1_init_15 rfl (lv_at hl 0 rfl) ?_
      refine lv_aload_n hx hb dX1_init_16 rfl (lv_at hl 1 rfl) ?_
      refine va_get (D := D) (ci := 1) (v := .ref q1) (C := RX1) (T := TX1) (N := 3) hx hb hts hiX1 hown hK.1 hP 0 rfl rfl 0 (by decide) (hts (.fieldLink RX1 11 "ProgramDrum$Memory" "states" "[LProgramDrum$State;") (by decide +kernel)) (fun _ h9 => h9) rfl dX1_init_17 ?_
      refine va_alen hx hb hK.1 hP 1 2 rfl rfl (v := (14 : Int32)) rfl dX1_init_20 ?_
      refine lv_icmp_ge (tgt := 43) hx hb dX1_init_21 (by decide) (fun c1 => ?_) (fun c1 => absurd (show (14 : Int32) ≤ nI 14 by decide) c1)
      refine W.widen (k := 225) (n := 13174) (by omega) (by omega) ?_
      exact W.vret hx hb hr (fun t ht _ => ⟨⟨(q1, f, a), rfl, hf, by rw [ht]; exact hP, hD⟩, hS.F ht⟩) hS.2.2 dX1_init_43
    | succ k ih =>
      intro i a f hi hf H locs ls hP hD hS hl
      have hi14 : i < 14 := by omega
      refine lv_iload_n hx hb dX1_init_15 rfl (lv_at hl 0 rfl) ?_
      refine lv_aload_n hx hb dX1_init_16 rfl (lv_at hl 1 rfl) ?_
      refine va_get (D := D) (ci := 1) (v := .ref q1) (C := RX1) (T := TX1) (N := 3) hx hb hts hiX1 hown hK.1 hP 0 rfl rfl 0 (by decide) (hts (.fieldLink RX1 11 "ProgramDrum$Memory" "states" "[LProgramDrum$State;") (by decide +kernel)) (fun _ h9 => h9) rfl dX1_init_17 ?_
      refine va_alen hx hb hK.1 hP 1 2 rfl rfl (v := (14 : Int32)) rfl dX1_init_20 ?_
      refine lv_icmp_ge (tgt := 43) hx hb dX1_init_21 (by decide) (fun c1 => absurd c1 (fun q => absurd ((nI_leI (a := 14) (b := i) (by decide) (by omega)).mp q) (by omega))) (fun c1 => ?_)
      refine lv_aload_n hx hb dX1_init_24 rfl (lv_at hl 1 rfl) ?_
      refine va_get (D := D) (ci := 1) (v := .ref q1) (C := RX1) (T := TX1) (N := 3) hx hb hts hiX1 hown hK.1 hP 0 rfl rfl 0 (by decide) (hts (.fieldLink RX1 11 "ProgramDrum$Memory" "states" "[LProgramDrum$State;") (by decide +kernel)) (fun _ h9 => h9) rfl dX1_init_25 ?_
      refine lv_iload_n hx hb dX1_init_28 rfl (lv_at hl 0 rfl) ?_
      refine va_new (D := D) (ci := 2) (fs := [.int 0, .int 0, .int 0, .int 0, .null, .null, .null, .null, .null, .null, .null, .null, .null, .null, .null, .null]) (C := RX2) (T := TX2) (N := 16) hx hb hts hiX2 tyX2 tyX2_ok hown (hts (.classLink RX1 9 RX2) (by decide +kernel)) (hts (.instantiable RX2 16) (by decide +kernel)) (hts (.initialized RX2) (by decide +kernel)) hK.1 hP hD hS hA rfl (by decide +kernel) (show 1 + 16 * i + 1 ≤ 225 by omega) (show 14 + 940 * i + 16 ≤ 13174 by omega) dX1_init_29 (fun q2 H hP hD hS => ?_)
      refine lv_dup hx hb dX1_init_32 rfl ?_
      refine z_xN (V := z_w1 c h q1 f i a) (x := .inr (2, [.int 0, .int 0, .int 0, .int 0, .null, .null, .null, .null, .null, .null, .null, .null, .null, .null, .null, .null])) (wf := fun u : Nat → Nat => z_st c u z_s0) ⟨hx, hb, hml, hown, hts⟩ (kX2_init l D c q2 H.size) ⟨z_bl, z_pre (z_subP hP fun _ hz => List.mem_append_right _ hz) hK (z_subD hD (fun _ hz => List.mem_append_right _ hz) (by simp))⟩ ⟨va_cnB 0 hts gX1_init_X2_init_n17 rfl rfl rfl (hK.2.2 _ zM_X1_17) (hts (.initialized RX2) (by decide +kernel)) (by decide +kernel) ⟨Nat.le_of_ble_eq_true rfl, Nat.le_of_ble_eq_true rfl⟩, rfl, (hts (.instanceMethod yX2_init) (by decide +kernel))⟩ hP hD hS hA hl.1 (Nat.le_of_ble_eq_true rfl) dX1_init_33 ⟨(show 1 + 16 * i + 1 + 15 ≤ 225 by omega), (show 14 + 940 * i + 16 + 924 ≤ 13174 by omega)⟩ (fun u H locs hu hP hD hS => ?_)
      have hvi : vp_in (nI i) 14 := by
        intro q
        rcases q with q | q
        · exact nI_pos (by omega) q
        · rw [nI_clamp (by omega)] at q; omega
      refine z_astq (f := f) (v := q2) (vs := [.int (z_s0 0 0), .int (z_s0 0 1), .int (z_s0 0 2), .int (z_s0 0 3), .ref (u 1), .ref (u 2), .ref (u 3), .ref (u 4), .ref (u 5), .ref (u 6), .ref (u 7), .ref (u 8), .ref (u 9), .ref (u 10), .ref (u 11), .ref (u 12)]) hx hb hK hP hD hS 1 rfl (List.mem_append_right _ (by rw [← hu]; exact List.mem_cons_self)) hvi dX1_init_36 (fun H locs hP hD hS => ?_)
      rw [z_w1S] at hP hD
      refine lv_iinc (v := nI (i + 1)) (lv' := [(1, .int (nI (i + 1))), (0, .ref h)]) hx hb dX1_init_37 hl (k := 0) rfl (by rw [← nI_add]; rfl) (by decide) rfl (fun ls hl => ?_)
      refine lv_goto (tgt := 15) hx hb dX1_init_40 (by decide) ?_
      refine W.widen (k := 1 + 16 * (i + 1)) (n := 14 + 940 * (i + 1)) (by omega) (by omega) ?_
      refine ih (i + 1) _ _ (by omega) (fun j hj => ?_) H locs ls hP hD hS hl
      rw [nI_clamp (by omega)]
      by_cases hji : j = i
      · show (if j = i then some q2 else f j) = some ((if j = i then u else a j) 0)
        rw [if_pos hji, if_pos hji, hu]
      · show (if j = i then some q2 else f j) = some ((if j = i then u else a j) 0)
        rw [if_neg hji, if_neg hji]; exact hf j (by omega)
  exact LP 14 0 (fun _ _ => 0) (fun _ => none) rfl (fun j hj => absurd hj (Nat.not_lt_zero j)) H locs ls hP hD hS hl
abbrev rmX4_init : Room := { frames := 4, cells := 310, slots := 18043, locals := 85 }
set_option maxRecDepth 100000 in
set_option maxHeartbeats 8000000 in
theorem kX4_init (l : Launch) (D : va_G) (c : Nat → ClassId) (h sz : Nat) : Met l yX4_init wsX4_init rmX4_init (z_PA D c sz [(h, .inr (4, [.null, .null, .null, .null, .null, .null, .null]))] [.ref h]) (z_Qn D (fun u : (Nat → Nat) × (Nat → Nat → Nat) => z_dw c u.1 u.2 z_X0) (fun u : (Nat → Nat) × (Nat → Nat → Nat) => u.1 0 = h) (va_A [(h, .inr (4, [.null, .null, .null, .null, .null, .null, .null]))] sz)) 310 18043 (va_A [(h, .inr (4, [.null, .null, .null, .null, .null, .null, .null]))] sz) := by
  refine z_ofA (cc := cX4_init) (maxL := 1) (ret := none) (Qf := fun A => z_Qn D (fun u : (Nat → Nat) × (Nat → Nat → Nat) => z_dw c u.1 u.2 z_X0) (fun u : (Nat → Nat) × (Nat → Nat → Nat) => u.1 0 = h) A) (plainFor_of_name (by decide)) rfl (Nat.le_of_ble_eq_true rfl) ?_
  intro p e s m args below meth co A ls hx hb hr hml hts hown hlocks hin hA hP hK hD hAO hl hsz
  have hiX4 : ∀ w ∈ wsX40, w ∈ wsX4_init := by decide +kernel
  have hiX3 : ∀ w ∈ wsX30, w ∈ wsX4_init := by decide +kernel
  have hiX2 : ∀ w ∈ wsX20, w ∈ wsX4_init := by decide +kernel
  have hiX1 : ∀ w ∈ wsX10, w ∈ wsX4_init := by decide +kernel
  have hown : s.vm.findClass RX4 = some m.cls := hown
  have hin : meth.name = "<init>" := hin
  have hl : lv_has ls 1 [(0, .ref h)] := hl
  obtain ⟨H, hH⟩ : ∃ H, H = s.heap := ⟨_, rfl⟩
  have hS : va_S A s.heap H [] := by rw [hH]; exact va_S.rf
  rw [← hH] at hP ⊢
  clear hH
  generalize ([] : List Loc) = locs at hS ⊢
  refine lv_aload_n hx hb dX4_init_0 rfl (lv_at hl 0 rfl) ?_
  refine W.objInit hx hb hown (hts (.methodLink RX4 1 objectInit) (by decide +kernel)) (hts (.instanceMethod objectInit) (by decide +kernel)) (hts (.code objectInit ⟨#[0xb1]⟩ 1 none) (by decide +kernel)) rfl (by rw [hml]; exact hl.1) rfl dX4_init_1 (Nat.le_of_ble_eq_true rfl) (Nat.le_of_ble_eq_true rfl) ?_
  refine W.eq (g2 := F0 m 4 ls []) rfl ?_
  refine lv_aload_n hx hb dX4_init_4 rfl (lv_at hl 0 rfl) ?_
  refine va_new (D := D) (ci := 3) (fs := [.null, .int 0]) (C := RX3) (T := TX3) (N := 2) hx hb hts hiX3 tyX3 tyX3_ok hown (hts (.classLink RX4 7 RX3) (by decide +kernel)) (hts (.instantiable RX3 2) (by decide +kernel)) (hts (.initialized RX3) (by decide +kernel)) hK.1 hP hD hS hA rfl (by decide +kernel) (Nat.le_of_ble_eq_true rfl) (Nat.le_of_ble_eq_true rfl) dX4_init_5 (fun q1 H hP hD hS => ?_)
  refine W.widen (k := 1) (n := 2) (by omega) (by omega) ?_
  refine lv_dup hx hb dX4_init_8 rfl ?_
  refine z_xN (V := [(h, .inr (4, [.null, .null, .null, .null, .null, .null, .null]))]) (x := .inr (3, [.null, .int 0])) (wf := fun u : Nat → Nat => z_tx c u z_0) ⟨hx, hb, hml, hown, hts⟩ (kX3_init l D c q1 H.size) ⟨z_bl, z_pre (z_subP hP fun _ hz => List.mem_append_right _ hz) hK (z_subD hD (fun _ hz => List.mem_append_right _ hz) (by simp))⟩ ⟨va_cnB 0 hts gX4_init_X3_init_n9 rfl rfl rfl (hK.2.2 _ zM_X4_9) (hts (.initialized RX3) (by decide +kernel)) (by decide +kernel) ⟨Nat.le_of_ble_eq_true rfl, Nat.le_of_ble_eq_true rfl⟩, rfl, (hts (.instanceMethod yX3_init) (by decide +kernel))⟩ hP hD hS hA hl.1 (Nat.le_of_ble_eq_true rfl) dX4_init_9 ⟨Nat.le_of_ble_eq_true rfl, Nat.le_of_ble_eq_true rfl⟩ (fun u3 H locs hu hP hD hS => ?_)
  refine W.widen (k := 2) (n := 162) (by omega) (by omega) ?_
  refine va_putF (D := D) (ci := 4) (v := .ref q1) (ty := .object "ProgramDrum$Text") (C := RX4) (T := TX4) (N := 7) hx hb hts hiX4 tyX4 tyX4_ok nmX4 hown hK.1 hP hD hS 0 rfl rfl 0 (by decide) (hts (.fieldLink RX4 10 "ProgramDrum" "text" "LProgramDrum$Text;") (by decide +kernel)) (fun _ h9 => h9) rfl hin rfl (by decide +kernel) rfl rfl (Nat.le_of_ble_eq_true rfl) dX4_init_12 (fun H locs hP hD hS => ?_)
  have hP : va_P D vwCl ([(h, .inr (4, [.ref q1, .null, .null, .null, .null, .null, .null]))] ++ z_tx c u3 z_0) H := hP
  have hD : va_D A ([(h, .inr (4, [.ref q1, .null, .null, .null, .null, .null, .null]))] ++ z_tx c u3 z_0) := hD
  subst hu
  refine lv_aload_n hx hb dX4_init_15 rfl (lv_at hl 0 rfl) ?_
  refine va_new (D := D) (ci := 2) (fs := [.int 0, .int 0, .int 0, .int 0, .null, .null, .null, .null, .null, .null, .null, .null, .null, .null, .null, .null]) (C := RX2) (T := TX2) (N := 16) hx hb hts hiX2 tyX2 tyX2_ok hown (hts (.classLink RX4 16 RX2) (by decide +kernel)) (hts (.instantiable RX2 16) (by decide +kernel)) (hts (.initialized RX2) (by decide +kernel)) hK.1 hP hD hS hA rfl (by decide +kernel) (Nat.le_of_ble_eq_true rfl) (Nat.le_of_ble_eq_true rfl) dX4_init_16 (fun q2 H hP hD hS => ?_)
  refine W.widen (k := 3) (n := 178) (by omega) (by omega) ?_
  refine lv_dup hx hb dX4_init_19 rfl ?_
  refine z_xN (V := [(h, .inr (4, [.ref (u3 0), .null, .null, .null, .null, .null, .null]))] ++ z_tx c u3 z_0) (x := .inr (2, [.int 0, .int 0, .int 0, .int 0, .null, .null, .null, .null, .null, .null, .null, .null, .null, .null, .null, .null])) (wf := fun u : Nat → Nat => z_st c u z_s0) ⟨hx, hb, hml, hown, hts⟩ (kX2_init l D c q2 H.size) ⟨z_bl, z_pre (z_subP hP fun _ hz => List.mem_append_right _ hz) hK (z_subD hD (fun _ hz => List.mem_append_right _ hz) (by simp))⟩ ⟨va_cnB 0 hts gX4_init_X2_init_n18 rfl rfl rfl (hK.2.2 _ zM_X4_18) (hts (.initialized RX2) (by decide +kernel)) (by decide +kernel) ⟨Nat.le_of_ble_eq_true rfl, Nat.le_of_ble_eq_true rfl⟩, rfl, (hts (.instanceMethod yX2_init) (by decide +kernel))⟩ hP hD hS hA hl.1 (Nat.le_of_ble_eq_true rfl) dX4_init_20 ⟨Nat.le_of_ble_eq_true rfl, Nat.le_of_ble_eq_true rfl⟩ (fun ua H locs hu hP hD hS => ?_)
  refine W.widen (k := 18) (n := 1102) (by omega) (by omega) ?_
  refine va_putF (D := D) (ci := 4) (v := .ref q2) (ty := .object "ProgramDrum$State") (C := RX4) (T := TX4) (N := 7) hx hb hts hiX4 tyX4 tyX4_ok nmX4 hown hK.1 hP hD hS 0 rfl rfl 1 (by decide) (hts (.fieldLink RX4 19 "ProgramDrum" "now" "LProgramDrum$State;") (by decide +kernel)) (fun _ h9 => h9) rfl hin rfl (by decide +kernel) rfl rfl (Nat.le_of_ble_eq_true rfl) dX4_init_23 (fun H locs hP hD hS => ?_)
  have hP : va_P D vwCl (([(h, .inr (4, [.ref (u3 0), .ref q2, .null, .null, .null, .null, .null]))] ++ z_tx c u3 z_0) ++ z_st c ua z_s0) H := hP
  have hD : va_D A (([(h, .inr (4, [.ref (u3 0), .ref q2, .null, .null, .null, .null, .null]))] ++ z_tx c u3 z_0) ++ z_st c ua z_s0) := hD
  subst hu
  refine lv_aload_n hx hb dX4_init_26 rfl (lv_at hl 0 rfl) ?_
  refine va_new (D := D) (ci := 2) (fs := [.int 0, .int 0, .int 0, .int 0, .null, .null, .null, .null, .null, .null, .null, .null, .null, .null, .null, .null]) (C := RX2) (T := TX2) (N := 16) hx hb hts hiX2 tyX2 tyX2_ok hown (hts (.classLink RX4 16 RX2) (by decide +kernel)) (hts (.instantiable RX2 16) (by decide +kernel)) (hts (.initialized RX2) (by decide +kernel)) hK.1 hP hD hS hA rfl (by decide +kernel) (Nat.le_of_ble_eq_true rfl) (Nat.le_of_ble_eq_true rfl) dX4_init_27 (fun q3 H hP hD hS => ?_)
  refine W.widen (k := 19) (n := 1118) (by omega) (by omega) ?_
  refine lv_dup hx hb dX4_init_30 rfl ?_
  refine z_xN (V := ([(h, .inr (4, [.ref (u3 0), .ref (ua 0), .null, .null, .null, .null, .null]))] ++ z_tx c u3 z_0) ++ z_st c ua z_s0) (x := .inr (2, [.int 0, .int 0, .int 0, .int 0, .null, .null, .null, .null, .null, .null, .null, .null, .null, .null, .null, .null])) (wf := fun u : Nat → Nat => z_st c u z_s0) ⟨hx, hb, hml, hown, hts⟩ (kX2_init l D c q3 H.size) ⟨z_bl, z_pre (z_subP hP fun _ hz => List.mem_append_right _ hz) hK (z_subD hD (fun _ hz => List.mem_append_right _ hz) (by simp))⟩ ⟨va_cnB 0 hts gX4_init_X2_init_n18 rfl rfl rfl (hK.2.2 _ zM_X4_18) (hts (.initialized RX2) (by decide +kernel)) (by decide +kernel) ⟨Nat.le_of_ble_eq_true rfl, Nat.le_of_ble_eq_true rfl⟩, rfl, (hts (.instanceMethod yX2_init) (by decide +kernel))⟩ hP hD hS hA hl.1 (Nat.le_of_ble_eq_true rfl) dX4_init_31 ⟨Nat.le_of_ble_eq_true rfl, Nat.le_of_ble_eq_true rfl⟩ (fun ub H locs hu hP hD hS => ?_)
  refine W.widen (k := 34) (n := 2042) (by omega) (by omega) ?_
  refine va_putF (D := D) (ci := 4) (v := .ref q3) (ty := .object "ProgramDrum$State") (C := RX4) (T := TX4) (N := 7) hx hb hts hiX4 tyX4 tyX4_ok nmX4 hown hK.1 hP hD hS 0 rfl rfl 2 (by decide) (hts (.fieldLink RX4 23 "ProgramDrum" "trial" "LProgramDrum$State;") (by decide +kernel)) (fun _ h9 => h9) rfl hin rfl (by decide +kernel) rfl rfl (Nat.le_of_ble_eq_true rfl) dX4_init_34 (fun H locs hP hD hS => ?_)
  have hP : va_P D vwCl ((([(h, .inr (4, [.ref (u3 0), .ref (ua 0), .ref q3, .null, .null, .null, .null]))] ++ z_tx c u3 z_0) ++ z_st c ua z_s0) ++ z_st c ub z_s0) H := hP
  have hD : va_D A ((([(h, .inr (4, [.ref (u3 0), .ref (ua 0), .ref q3, .null, .null, .null, .null]))] ++ z_tx c u3 z_0) ++ z_st c ua z_s0) ++ z_st c ub z_s0) := hD
  subst hu
  refine lv_aload_n hx hb dX4_init_37 rfl (lv_at hl 0 rfl) ?_
  refine va_new (D := D) (ci := 2) (fs := [.int 0, .int 0, .int 0, .int 0, .null, .null, .null, .null, .null, .null, .null, .null, .null, .null, .null, .null]) (C := RX2) (T := TX2) (N := 16) hx hb hts hiX2 tyX2 tyX2_ok hown (hts (.classLink RX4 16 RX2) (by decide +kernel)) (hts (.instantiable RX2 16) (by decide +kernel)) (hts (.initialized RX2) (by decide +kernel)) hK.1 hP hD hS hA rfl (by decide +kernel) (Nat.le_of_ble_eq_true rfl) (Nat.le_of_ble_eq_true rfl) dX4_init_38 (fun q4 H hP hD hS => ?_)
  refine W.widen (k := 35) (n := 2058) (by omega) (by omega) ?_
  refine lv_dup hx hb dX4_init_41 rfl ?_
  refine z_xN (V := (([(h, .inr (4, [.ref (u3 0), .ref (ua 0), .ref (ub 0), .null, .null, .null, .null]))] ++ z_tx c u3 z_0) ++ z_st c ua z_s0) ++ z_st c ub z_s0) (x := .inr (2, [.int 0, .int 0, .int 0, .int 0, .null, .null, .null, .null, .null, .null, .null, .null, .null, .null, .null, .null])) (wf := fun u : Nat → Nat => z_st c u z_s0) ⟨hx, hb, hml, hown, hts⟩ (kX2_init l D c q4 H.size) ⟨z_bl, z_pre (z_subP hP fun _ hz => List.mem_append_right _ hz) hK (z_subD hD (fun _ hz => List.mem_append_right _ hz) (by simp))⟩ ⟨va_cnB 0 hts gX4_init_X2_init_n18 rfl rfl rfl (hK.2.2 _ zM_X4_18) (hts (.initialized RX2) (by decide +kernel)) (by decide +kernel) ⟨Nat.le_of_ble_eq_true rfl, Nat.le_of_ble_eq_true rfl⟩, rfl, (hts (.instanceMethod yX2_init) (by decide +kernel))⟩ hP hD hS hA hl.1 (Nat.le_of_ble_eq_true rfl) dX4_init_42 ⟨Nat.le_of_ble_eq_true rfl, Nat.le_of_ble_eq_true rfl⟩ (fun uc H locs hu hP hD hS => ?_)
  refine W.widen (k := 50) (n := 2982) (by omega) (by omega) ?_
  refine va_putF (D := D) (ci := 4) (v := .ref q4) (ty := .object "ProgramDrum$State") (C := RX4) (T := TX4) (N := 7) hx hb hts hiX4 tyX4 tyX4_ok nmX4 hown hK.1 hP hD hS 0 rfl rfl 3 (by decide) (hts (.fieldLink RX4 26 "ProgramDrum" "probe" "LProgramDrum$State;") (by decide +kernel)) (fun _ h9 => h9) rfl hin rfl (by decide +kernel) rfl rfl (Nat.le_of_ble_eq_true rfl) dX4_init_45 (fun H locs hP hD hS => ?_)
  have hP : va_P D vwCl (((([(h, .inr (4, [.ref (u3 0), .ref (ua 0), .ref (ub 0), .ref q4, .null, .null, .null]))] ++ z_tx c u3 z_0) ++ z_st c ua z_s0) ++ z_st c ub z_s0) ++ z_st c uc z_s0) H := hP
  have hD : va_D A (((([(h, .inr (4, [.ref (u3 0), .ref (ua 0), .ref (ub 0), .ref q4, .null, .null, .null]))] ++ z_tx c u3 z_0) ++ z_st c ua z_s0) ++ z_st c ub z_s0) ++ z_st c uc z_s0) := hD
  subst hu
  refine lv_aload_n hx hb dX4_init_48 rfl (lv_at hl 0 rfl) ?_
  refine va_new (D := D) (ci := 1) (fs := [.null, .int 0, .int 0]) (C := RX1) (T := TX1) (N := 3) hx hb hts hiX1 tyX1 tyX1_ok hown (hts (.classLink RX4 29 RX1) (by decide +kernel)) (hts (.instantiable RX1 3) (by decide +kernel)) (hts (.initialized RX1) (by decide +kernel)) hK.1 hP hD hS hA rfl (by decide +kernel) (Nat.le_of_ble_eq_true rfl) (Nat.le_of_ble_eq_true rfl) dX4_init_49 (fun q5 H hP hD hS => ?_)
  refine W.widen (k := 51) (n := 2985) (by omega) (by omega) ?_
  refine lv_dup hx hb dX4_init_52 rfl ?_
  refine z_xI (V := ((([(h, .inr (4, [.ref (u3 0), .ref (ua 0), .ref (ub 0), .ref (uc 0), .null, .null, .null]))] ++ z_tx c u3 z_0) ++ z_st c ua z_s0) ++ z_st c ub z_s0) ++ z_st c uc z_s0) (x := .inr (1, [.null, .int 0, .int 0])) (wf := fun u : Nat × (Nat → Option Nat) × (Nat → Nat → Nat) => z_w1 c q5 u.1 u.2.1 14 u.2.2) ⟨hx, hb, hml, hown, hts⟩ (kX1_init l D c q5 H.size) ⟨z_blA, z_preA (z_subP hP fun _ hz => List.mem_append_right _ hz) hK (z_subD hD (fun _ hz => List.mem_append_right _ hz) (by simp)) hAO⟩ (cwI 0 hts gX4_init_X1_init rfl rfl rfl (hts (.initialized RX1) (by decide +kernel)) (hts (.methodLink RX4 31 yX1_init) (by decide +kernel)) (hts (.instanceMethod yX1_init) (by decide +kernel)) rfl (by decide +kernel) ⟨Nat.le_of_ble_eq_true rfl, Nat.le_of_ble_eq_true rfl⟩) hP hD hS hA hl.1 (Nat.le_of_ble_eq_true rfl) dX4_init_53 ⟨Nat.le_of_ble_eq_true rfl, Nat.le_of_ble_eq_true rfl⟩ (fun um H locs hu hP hD hS => ?_)
  refine W.widen (k := 276) (n := 16159) (by omega) (by omega) ?_
  refine va_putF (D := D) (ci := 4) (v := .ref q5) (ty := .object "ProgramDrum$Memory") (C := RX4) (T := TX4) (N := 7) hx hb hts hiX4 tyX4 tyX4_ok nmX4 hown hK.1 hP hD hS 0 rfl rfl 4 (by decide) (hts (.fieldLink RX4 32 "ProgramDrum" "memory" "LProgramDrum$Memory;") (by decide +kernel)) (fun _ h9 => h9) rfl hin rfl (by decide +kernel) rfl rfl (Nat.le_of_ble_eq_true rfl) dX4_init_56 (fun H locs hP hD hS => ?_)
  have hP : va_P D vwCl ((((([(h, .inr (4, [.ref (u3 0), .ref (ua 0), .ref (ub 0), .ref (uc 0), .ref q5, .null, .null]))] ++ z_tx c u3 z_0) ++ z_st c ua z_s0) ++ z_st c ub z_s0) ++ z_st c uc z_s0) ++ z_w1 c q5 um.1 um.2.1 14 um.2.2) H := hP
  have hD : va_D A ((((([(h, .inr (4, [.ref (u3 0), .ref (ua 0), .ref (ub 0), .ref (uc 0), .ref q5, .null, .null]))] ++ z_tx c u3 z_0) ++ z_st c ua z_s0) ++ z_st c ub z_s0) ++ z_st c uc z_s0) ++ z_w1 c q5 um.1 um.2.1 14 um.2.2) := hD
  have hP := z_pmP (z_pm4 ([(h, .inr (4, [.ref (u3 0), .ref (ua 0), .ref (ub 0), .ref (uc 0), .ref q5, .null, .null]))] ++ z_tx c u3 z_0) (z_st c ua z_s0) (z_st c ub z_s0) (z_st c uc z_s0) [(q5, .inr (1, [.ref um.1, .int 0, .int 0])), (um.1, .inl (c 2, 14, .inr (.inr (.inr (.inr um.2.1)))))] ((List.range 14).flatMap fun j => z_st c (um.2.2 j) z_s0)) hP
  have hD := z_pmD (z_pm4 ([(h, .inr (4, [.ref (u3 0), .ref (ua 0), .ref (ub 0), .ref (uc 0), .ref q5, .null, .null]))] ++ z_tx c u3 z_0) (z_st c ua z_s0) (z_st c ub z_s0) (z_st c uc z_s0) [(q5, .inr (1, [.ref um.1, .int 0, .int 0])), (um.1, .inl (c 2, 14, .inr (.inr (.inr (.inr um.2.1)))))] ((List.range 14).flatMap fun j => z_st c (um.2.2 j) z_s0)) hD
  obtain ⟨RR, hRR⟩ : ∃ RR : va_W, RR = (((z_st c ua z_s0 ++ z_st c ub z_s0) ++ z_st c uc z_s0) ++ ((List.range 14).flatMap fun j => z_st c (um.2.2 j) z_s0)) := ⟨_, rfl⟩
  rw [← hRR] at hP hD
  refine lv_aload_n hx hb dX4_init_59 rfl (lv_at hl 0 rfl) ?_
  refine lv_iconst (v := (2 : Int32)) hx hb dX4_init_60 (by decide) ?_
  refine z_newq (N' := 2) hx hb hown (hts (.classLink RX4 16 RX2) (by decide +kernel)) hAO hK hP hD hS hA (by decide) (by decide) (Nat.le_of_ble_eq_true rfl) (Nat.le_of_ble_eq_true rfl) (Nat.le_of_ble_eq_true rfl) dX4_init_61 (fun q6 H hP hD hS => ?_)
  refine W.widen (k := 277) (n := 16161) (by omega) (by omega) ?_
  have hP := z_pmP (z_pm1 (([(h, .inr (4, [.ref (u3 0), .ref (ua 0), .ref (ub 0), .ref (uc 0), .ref q5, .null, .null]))] ++ z_tx c u3 z_0) ++ [(q5, .inr (1, [.ref um.1, .int 0, .int 0])), (um.1, .inl (c 2, 14, .inr (.inr (.inr (.inr um.2.1)))))]) RR [(q6, .inl (c 2, 2, .inr (.inr (.inr (.inr (fun _ => none))))))]) hP
  have hD := z_pmD (z_pm1 (([(h, .inr (4, [.ref (u3 0), .ref (ua 0), .ref (ub 0), .ref (uc 0), .ref q5, .null, .null]))] ++ z_tx c u3 z_0) ++ [(q5, .inr (1, [.ref um.1, .int 0, .int 0])), (um.1, .inl (c 2, 14, .inr (.inr (.inr (.inr um.2.1)))))]) RR [(q6, .inl (c 2, 2, .inr (.inr (.inr (.inr (fun _ => none))))))]) hD
  refine lv_dup hx hb dX4_init_64 rfl ?_
  refine lv_iconst (v := (0 : Int32)) hx hb dX4_init_65 (by decide) ?_
  refine va_new (D := D) (ci := 2) (fs := [.int 0, .int 0, .int 0, .int 0, .null, .null, .null, .null, .null, .null, .null, .null, .null, .null, .null, .null]) (C := RX2) (T := TX2) (N := 16) hx hb hts hiX2 tyX2 tyX2_ok hown (hts (.classLink RX4 16 RX2) (by decide +kernel)) (hts (.instantiable RX2 16) (by decide +kernel)) (hts (.initialized RX2) (by decide +kernel)) hK.1 hP hD hS hA rfl (by decide +kernel) (Nat.le_of_ble_eq_true rfl) (Nat.le_of_ble_eq_true rfl) dX4_init_66 (fun q7 H hP hD hS => ?_)
  refine W.widen (k := 278) (n := 16177) (by omega) (by omega) ?_
  refine lv_dup hx hb dX4_init_69 rfl ?_
  refine z_xN (V := ((([(h, .inr (4, [.ref (u3 0), .ref (ua 0), .ref (ub 0), .ref (uc 0), .ref q5, .null, .null]))] ++ z_tx c u3 z_0) ++ [(q5, .inr (1, [.ref um.1, .int 0, .int 0])), (um.1, .inl (c 2, 14, .inr (.inr (.inr (.inr um.2.1)))))]) ++ [(q6, .inl (c 2, 2, .inr (.inr (.inr (.inr (fun _ => none))))))]) ++ RR) (x := .inr (2, [.int 0, .int 0, .int 0, .int 0, .null, .null, .null, .null, .null, .null, .null, .null, .null, .null, .null, .null])) (wf := fun u : Nat → Nat => z_st c u z_s0) ⟨hx, hb, hml, hown, hts⟩ (kX2_init l D c q7 H.size) ⟨z_bl, z_pre (z_subP hP fun _ hz => List.mem_append_right _ hz) hK (z_subD hD (fun _ hz => List.mem_append_right _ hz) (by simp))⟩ ⟨va_cnB 0 hts gX4_init_X2_init_n18 rfl rfl rfl (hK.2.2 _ zM_X4_18) (hts (.initialized RX2) (by decide +kernel)) (by decide +kernel) ⟨Nat.le_of_ble_eq_true rfl, Nat.le_of_ble_eq_true rfl⟩, rfl, (hts (.instanceMethod yX2_init) (by decide +kernel))⟩ hP hD hS hA hl.1 (Nat.le_of_ble_eq_true rfl) dX4_init_70 ⟨Nat.le_of_ble_eq_true rfl, Nat.le_of_ble_eq_true rfl⟩ (fun uv H locs hu hP hD hS => ?_)
  refine W.widen (k := 293) (n := 17101) (by omega) (by omega) ?_
  refine z_astq (f := (fun _ => none)) (v := q7) (vs := [.int (z_s0 0 0), .int (z_s0 0 1), .int (z_s0 0 2), .int (z_s0 0 3), .ref (uv 1), .ref (uv 2), .ref (uv 3), .ref (uv 4), .ref (uv 5), .ref (uv 6), .ref (uv 7), .ref (uv 8), .ref (uv 9), .ref (uv 10), .ref (uv 11), .ref (uv 12)]) (i := 0) hx hb hK hP hD hS 5 rfl (List.mem_append_right _ (by rw [← hu]; exact List.mem_cons_self)) (z_inE (by decide)) dX4_init_73 (fun H locs hP hD hS => ?_)
  have hP : va_P D vwCl ((((([(h, .inr (4, [.ref (u3 0), .ref (ua 0), .ref (ub 0), .ref (uc 0), .ref q5, .null, .null]))] ++ z_tx c u3 z_0) ++ [(q5, .inr (1, [.ref um.1, .int 0, .int 0])), (um.1, .inl (c 2, 14, .inr (.inr (.inr (.inr um.2.1)))))]) ++ [(q6, .inl (c 2, 2, .inr (.inr (.inr (.inr (fun j => if j = ((0 : Int32)).toNatClampNeg then some q7 else (fun _ => none) j))))))]) ++ RR) ++ z_st c uv z_s0) H := hP
  have hD : va_D A ((((([(h, .inr (4, [.ref (u3 0), .ref (ua 0), .ref (ub 0), .ref (uc 0), .ref q5, .null, .null]))] ++ z_tx c u3 z_0) ++ [(q5, .inr (1, [.ref um.1, .int 0, .int 0])), (um.1, .inl (c 2, 14, .inr (.inr (.inr (.inr um.2.1)))))]) ++ [(q6, .inl (c 2, 2, .inr (.inr (.inr (.inr (fun j => if j = ((0 : Int32)).toNatClampNeg then some q7 else (fun _ => none) j))))))]) ++ RR) ++ z_st c uv z_s0) := hD
  subst hu
  refine lv_dup hx hb dX4_init_74 rfl ?_
  refine lv_iconst (v := (1 : Int32)) hx hb dX4_init_75 (by decide) ?_
  refine va_new (D := D) (ci := 2) (fs := [.int 0, .int 0, .int 0, .int 0, .null, .null, .null, .null, .null, .null, .null, .null, .null, .null, .null, .null]) (C := RX2) (T := TX2) (N := 16) hx hb hts hiX2 tyX2 tyX2_ok hown (hts (.classLink RX4 16 RX2) (by decide +kernel)) (hts (.instantiable RX2 16) (by decide +kernel)) (hts (.initialized RX2) (by decide +kernel)) hK.1 hP hD hS hA rfl (by decide +kernel) (Nat.le_of_ble_eq_true rfl) (Nat.le_of_ble_eq_true rfl) dX4_init_76 (fun q8 H hP hD hS => ?_)
  refine W.widen (k := 294) (n := 17117) (by omega) (by omega) ?_
  refine lv_dup hx hb dX4_init_79 rfl ?_
  refine z_xN (V := (((([(h, .inr (4, [.ref (u3 0), .ref (ua 0), .ref (ub 0), .ref (uc 0), .ref q5, .null, .null]))] ++ z_tx c u3 z_0) ++ [(q5, .inr (1, [.ref um.1, .int 0, .int 0])), (um.1, .inl (c 2, 14, .inr (.inr (.inr (.inr um.2.1)))))]) ++ [(q6, .inl (c 2, 2, .inr (.inr (.inr (.inr (fun j => if j = ((0 : Int32)).toNatClampNeg then some (uv 0) else (fun _ => none) j))))))]) ++ RR) ++ z_st c uv z_s0) (x := .inr (2, [.int 0, .int 0, .int 0, .int 0, .null, .null, .null, .null, .null, .null, .null, .null, .null, .null, .null, .null])) (wf := fun u : Nat → Nat => z_st c u z_s0) ⟨hx, hb, hml, hown, hts⟩ (kX2_init l D c q8 H.size) ⟨z_bl, z_pre (z_subP hP fun _ hz => List.mem_append_right _ hz) hK (z_subD hD (fun _ hz => List.mem_append_right _ hz) (by simp))⟩ ⟨va_cnB 0 hts gX4_init_X2_init_n18 rfl rfl rfl (hK.2.2 _ zM_X4_18) (hts (.initialized RX2) (by decide +kernel)) (by decide +kernel) ⟨Nat.le_of_ble_eq_true rfl, Nat.le_of_ble_eq_true rfl⟩, rfl, (hts (.instanceMethod yX2_init) (by decide +kernel))⟩ hP hD hS hA hl.1 (Nat.le_of_ble_eq_true rfl) dX4_init_80 ⟨Nat.le_of_ble_eq_true rfl, Nat.le_of_ble_eq_true rfl⟩ (fun uw H locs hu hP hD hS => ?_)
  refine W.widen (k := 309) (n := 18041) (by omega) (by omega) ?_
  refine z_astq (f := (fun j => if j = ((0 : Int32)).toNatClampNeg then some (uv 0) else (fun _ => none) j)) (v := q8) (vs := [.int (z_s0 0 0), .int (z_s0 0 1), .int (z_s0 0 2), .int (z_s0 0 3), .ref (uw 1), .ref (uw 2), .ref (uw 3), .ref (uw 4), .ref (uw 5), .ref (uw 6), .ref (uw 7), .ref (uw 8), .ref (uw 9), .ref (uw 10), .ref (uw 11), .ref (uw 12)]) (i := 1) hx hb hK hP hD hS 5 rfl (List.mem_append_right _ (by rw [← hu]; exact List.mem_cons_self)) (z_inE (by decide)) dX4_init_83 (fun H locs hP hD hS => ?_)
  have hP : va_P D vwCl (((((([(h, .inr (4, [.ref (u3 0), .ref (ua 0), .ref (ub 0), .ref (uc 0), .ref q5, .null, .null]))] ++ z_tx c u3 z_0) ++ [(q5, .inr (1, [.ref um.1, .int 0, .int 0])), (um.1, .inl (c 2, 14, .inr (.inr (.inr (.inr um.2.1)))))]) ++ [(q6, .inl (c 2, 2, .inr (.inr (.inr (.inr (fun j => if j = ((1 : Int32)).toNatClampNeg then some q8 else (fun j => if j = ((0 : Int32)).toNatClampNeg then some (uv 0) else (fun _ => none) j) j))))))]) ++ RR) ++ z_st c uv z_s0) ++ z_st c uw z_s0) H := hP
  have hD : va_D A (((((([(h, .inr (4, [.ref (u3 0), .ref (ua 0), .ref (ub 0), .ref (uc 0), .ref q5, .null, .null]))] ++ z_tx c u3 z_0) ++ [(q5, .inr (1, [.ref um.1, .int 0, .int 0])), (um.1, .inl (c 2, 14, .inr (.inr (.inr (.inr um.2.1)))))]) ++ [(q6, .inl (c 2, 2, .inr (.inr (.inr (.inr (fun j => if j = ((1 : Int32)).toNatClampNeg then some q8 else (fun j => if j = ((0 : Int32)).toNatClampNeg then some (uv 0) else (fun _ => none) j) j))))))]) ++ RR) ++ z_st c uv z_s0) ++ z_st c uw z_s0) := hD
  subst hu
  refine va_putF (D := D) (ci := 4) (v := .ref q6) (ty := .array (.object "ProgramDrum$State")) (C := RX4) (T := TX4) (N := 7) hx hb hts hiX4 tyX4 tyX4_ok nmX4 hown hK.1 hP hD hS 0 rfl rfl 5 (by decide) (hts (.fieldLink RX4 36 "ProgramDrum" "slots" "[LProgramDrum$State;") (by decide +kernel)) (fun _ h9 => h9) rfl hin rfl (by decide +kernel) rfl rfl (Nat.le_of_ble_eq_true rfl) dX4_init_84 (fun H locs hP hD hS => ?_)
  have hP : va_P D vwCl (((((([(h, .inr (4, [.ref (u3 0), .ref (ua 0), .ref (ub 0), .ref (uc 0), .ref q5, .ref q6, .null]))] ++ z_tx c u3 z_0) ++ [(q5, .inr (1, [.ref um.1, .int 0, .int 0])), (um.1, .inl (c 2, 14, .inr (.inr (.inr (.inr um.2.1)))))]) ++ [(q6, .inl (c 2, 2, .inr (.inr (.inr (.inr (fun j => if j = ((1 : Int32)).toNatClampNeg then some (uw 0) else (fun j => if j = ((0 : Int32)).toNatClampNeg then some (uv 0) else (fun _ => none) j) j))))))]) ++ RR) ++ z_st c uv z_s0) ++ z_st c uw z_s0) H := hP
  have hD : va_D A (((((([(h, .inr (4, [.ref (u3 0), .ref (ua 0), .ref (ub 0), .ref (uc 0), .ref q5, .ref q6, .null]))] ++ z_tx c u3 z_0) ++ [(q5, .inr (1, [.ref um.1, .int 0, .int 0])), (um.1, .inl (c 2, 14, .inr (.inr (.inr (.inr um.2.1)))))]) ++ [(q6, .inl (c 2, 2, .inr (.inr (.inr (.inr (fun j => if j = ((1 : Int32)).toNatClampNeg then some (uw 0) else (fun j => if j = ((0 : Int32)).toNatClampNeg then some (uv 0) else (fun _ => none) j) j))))))]) ++ RR) ++ z_st c uv z_s0) ++ z_st c uw z_s0) := hD
  refine lv_aload_n hx hb dX4_init_87 rfl (lv_at hl 0 rfl) ?_
  refine lv_iconst (v := (2 : Int32)) hx hb dX4_init_88 (by decide) ?_
  refine z_newZ (N' := 2) hx hb (hts (.arrayClass .boolean) (by decide +kernel)) hK hP hD hS hA (by decide) (by decide) (Nat.le_of_ble_eq_true rfl) (Nat.le_of_ble_eq_true rfl) (Nat.le_of_ble_eq_true rfl) dX4_init_89 (fun q9 H hP hD hS => ?_)
  refine W.widen (k := 310) (n := 18043) (by omega) (by omega) ?_
  refine va_putF (D := D) (ci := 4) (v := .ref q9) (ty := .array .boolean) (C := RX4) (T := TX4) (N := 7) hx hb hts hiX4 tyX4 tyX4_ok nmX4 hown hK.1 hP hD hS 0 rfl rfl 6 (by decide) (hts (.fieldLink RX4 40 "ProgramDrum" "saved" "[Z") (by decide +kernel)) (fun _ h9 => h9) rfl hin rfl (by decide +kernel) rfl rfl (Nat.le_of_ble_eq_true rfl) dX4_init_91 (fun H locs hP hD hS => ?_)
  have hP : va_P D vwCl ((((((([(h, .inr (4, [.ref (u3 0), .ref (ua 0), .ref (ub 0), .ref (uc 0), .ref q5, .ref q6, .ref q9]))] ++ z_tx c u3 z_0) ++ [(q5, .inr (1, [.ref um.1, .int 0, .int 0])), (um.1, .inl (c 2, 14, .inr (.inr (.inr (.inr um.2.1)))))]) ++ [(q6, .inl (c 2, 2, .inr (.inr (.inr (.inr (fun j => if j = ((1 : Int32)).toNatClampNeg then some (uw 0) else (fun j => if j = ((0 : Int32)).toNatClampNeg then some (uv 0) else (fun _ => none) j) j))))))]) ++ RR) ++ z_st c uv z_s0) ++ z_st c uw z_s0) ++ [(q9, .inl (c 1, 2, .inl (fun _ => 0)))]) H := hP
  have hD : va_D A ((((((([(h, .inr (4, [.ref (u3 0), .ref (ua 0), .ref (ub 0), .ref (uc 0), .ref q5, .ref q6, .ref q9]))] ++ z_tx c u3 z_0) ++ [(q5, .inr (1, [.ref um.1, .int 0, .int 0])), (um.1, .inl (c 2, 14, .inr (.inr (.inr (.inr um.2.1)))))]) ++ [(q6, .inl (c 2, 2, .inr (.inr (.inr (.inr (fun j => if j = ((1 : Int32)).toNatClampNeg then some (uw 0) else (fun j => if j = ((0 : Int32)).toNatClampNeg then some (uv 0) else (fun _ => none) j) j))))))]) ++ RR) ++ z_st c uv z_s0) ++ z_st c uw z_s0) ++ [(q9, .inl (c 1, 2, .inl (fun _ => 0)))]) := hD
  have hP := z_pmP (z_pm5 ((([(h, .inr (4, [.ref (u3 0), .ref (ua 0), .ref (ub 0), .ref (uc 0), .ref q5, .ref q6, .ref q9]))] ++ z_tx c u3 z_0) ++ [(q5, .inr (1, [.ref um.1, .int 0, .int 0])), (um.1, .inl (c 2, 14, .inr (.inr (.inr (.inr um.2.1)))))]) ++ [(q6, .inl (c 2, 2, .inr (.inr (.inr (.inr (fun j => if j = ((1 : Int32)).toNatClampNeg then some (uw 0) else (fun j => if j = ((0 : Int32)).toNatClampNeg then some (uv 0) else (fun _ => none) j) j))))))]) RR (z_st c uv z_s0) (z_st c uw z_s0) [(q9, .inl (c 1, 2, .inl (fun _ => 0)))]) hP
  have hD := z_pmD (z_pm5 ((([(h, .inr (4, [.ref (u3 0), .ref (ua 0), .ref (ub 0), .ref (uc 0), .ref q5, .ref q6, .ref q9]))] ++ z_tx c u3 z_0) ++ [(q5, .inr (1, [.ref um.1, .int 0, .int 0])), (um.1, .inl (c 2, 14, .inr (.inr (.inr (.inr um.2.1)))))]) ++ [(q6, .inl (c 2, 2, .inr (.inr (.inr (.inr (fun j => if j = ((1 : Int32)).toNatClampNeg then some (uw 0) else (fun j => if j = ((0 : Int32)).toNatClampNeg then some (uv 0) else (fun _ => none) j) j))))))]) RR (z_st c uv z_s0) (z_st c uw z_s0) [(q9, .inl (c 1, 2, .inl (fun _ => 0)))]) hD
  obtain ⟨hP, hD⟩ := z_chg (g := fun i => some ((z_ak ua ub uc um.2.2 uv uw) (i + 3) 0)) hP hD 4 rfl (fun j hj => by rw [hu j hj]; show _ = some ((if j < 14 then um.2.2 j else if j = 14 then uv else uw) 0); rw [if_pos hj])
  obtain ⟨hP, hD⟩ := z_chg (g := fun i => some ((z_ak ua ub uc um.2.2 uv uw) (i + 17) 0)) hP hD 5 rfl (fun j hj => by rcases (show j = 0 ∨ j = 1 by omega) with rfl | rfl <;> rfl)
  have eW : z_hd c (z_fn [h, u3 0, u3 1, q5, um.1, q6, q9]) (z_ak ua ub uc um.2.2 uv uw) z_X0 ++ (RR ++ (z_st c uv z_s0 ++ z_st c uw z_s0)) = z_hd c (z_fn [h, u3 0, u3 1, q5, um.1, q6, q9]) (z_ak ua ub uc um.2.2 uv uw) z_X0 ++ (RR ++ (z_st c uv z_s0 ++ z_st c uw z_s0)) := rfl
  have hP : va_P D vwCl (z_hd c (z_fn [h, u3 0, u3 1, q5, um.1, q6, q9]) (z_ak ua ub uc um.2.2 uv uw) z_X0 ++ (RR ++ (z_st c uv z_s0 ++ z_st c uw z_s0))) H := hP
  have hD : va_D A (z_hd c (z_fn [h, u3 0, u3 1, q5, um.1, q6, q9]) (z_ak ua ub uc um.2.2 uv uw) z_X0 ++ (RR ++ (z_st c uv z_s0 ++ z_st c uw z_s0))) := hD
  have eZ : z_hd c (z_fn [h, u3 0, u3 1, q5, um.1, q6, q9]) (z_ak ua ub uc um.2.2 uv uw) z_X0 ++ (RR ++ (z_st c uv z_s0 ++ z_st c uw z_s0)) = z_dw c (z_fn [h, u3 0, u3 1, q5, um.1, q6, q9]) (z_ak ua ub uc um.2.2 uv uw) z_X0 := by
    unfold z_dw
    rw [show z_pl c (z_ak ua ub uc um.2.2 uv uw) z_X0.2.2 = _ from z_plE, hRR]
    simp only [List.append_assoc]
    rfl
  rw [eZ] at hP hD
  have hP9 : va_P D vwCl (z_dw c (z_fn [h, u3 0, u3 1, q5, um.1, q6, q9]) (z_ak ua ub uc um.2.2 uv uw) z_X0) H := hP
  have hD9 : va_D A (z_dw c (z_fn [h, u3 0, u3 1, q5, um.1, q6, q9]) (z_ak ua ub uc um.2.2 uv uw) z_X0) := hD
  exact W.vret hx hb hr (fun t ht _ => ⟨⟨((z_fn [h, u3 0, u3 1, q5, um.1, q6, q9]), (z_ak ua ub uc um.2.2 uv uw)), rfl, rfl, by rw [ht]; exact hP9, hD9⟩, hS.F ht⟩) hS.2.2 dX4_init_94
