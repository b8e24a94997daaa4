abbrev rmX3_isFull : Room := { frames := 0, cells := 0, slots := 0, locals := 0 }
theorem qX3_isFull_15 : Cond.fieldLink RX3 15 "ProgramDrum$Text" "length" "I" ∈ wsX3_isFull := by decide +kernel
theorem iX3_isFull_X3 : ∀ w ∈ wsX30, w ∈ wsX3_isFull := by decide +kernel
theorem qX3_isFull_11 : Cond.fieldLink RX3 11 "ProgramDrum$Text" "codes" "[I" ∈ wsX3_isFull := by decide +kernel
set_option maxRecDepth 100000 in
set_option maxHeartbeats 4000000 in
theorem kX3_isFull (l : Launch) (D : va_G) (c : Nat → ClassId) (N : Nat) (a : Nat → Nat) (sz : Nat) (g : z_R) (r0 : Int32) (hf : fX3_isFull N g = some r0) : Met l yX3_isFull wsX3_isFull rmX3_isFull (z_Pc D c sz (z_tx c a g) [.ref (a 0)]) (z_Qi D (z_tx c a) r0 g (va_A (z_tx c a g) sz)) 0 0 (va_A (z_tx c a g) sz) := by
  refine z_ofM (cc := cX3_isFull) (maxL := 1) (ret := (some .boolean)) (Qf := fun A => z_Qi D (z_tx c a) r0 g A) (plainFor_of_name (by decide)) rfl (Nat.le_of_ble_eq_true rfl) ?_
  intro p e s m args below meth co A ls hx hb hr hml hts hown hlocks hnm hA hP hK hD hl hsz
  have hl : lv_has ls 1 [(0, .ref (a 0))] := hl
  have hown : s.vm.findClass RX3 = some m.cls := hown
  obtain ⟨H, hH⟩ : ∃ H, H = s.heap := ⟨_, rfl⟩
  have hS : va_S A s.heap H [] := by rw [hH]; exact va_S.rf
  rw [← hH] at hP ⊢
  clear hH
  unfold fX3_isFull at hf
  generalize ([] : List Loc) = locs at hS ⊢
  refine lv_aload_n hx hb dX3_isFull_0 rfl (lv_at hl 0 rfl) ?_
  refine va_get (D := D) (ci := 3) (v := .int (g 0 0)) (C := RX3) (T := TX3) (N := 2) hx hb hts iX3_isFull_X3 hown hK.1 hP 0 rfl rfl 1 (by decide) (hts _ qX3_isFull_15) (fun _ h9 => h9) rfl dX3_isFull_1 ?_
  refine lv_aload_n hx hb dX3_isFull_4 rfl (lv_at hl 0 rfl) ?_
  refine va_get (D := D) (ci := 3) (v := .ref (a 1)) (C := RX3) (T := TX3) (N := 2) hx hb hts iX3_isFull_X3 hown hK.1 hP 0 rfl rfl 0 (by decide) (hts _ qX3_isFull_11) (fun _ h9 => h9) rfl dX3_isFull_5 ?_
  refine va_alen hx hb hK.1 hP 1 0 rfl rfl (v := (160 : Int32)) rfl dX3_isFull_8 ?_
  refine lv_icmp_lt (tgt := 16) hx hb dX3_isFull_9 (by decide) (fun c1 => ?_) (fun c1 => ?_)
  · have hf := z_ifT hf c1
    refine lv_iconst (v := (0 : Int32)) hx hb dX3_isFull_16 (by decide) ?_
    exact z_zp (wf := (z_tx c a)) hx hb hr rfl hlocks hP hD hS hf dX3_isFull_17
  · have hf := z_ifF hf c1
    refine lv_iconst (v := (1 : Int32)) hx hb dX3_isFull_12 (by decide) ?_
    refine lv_goto (tgt := 17) hx hb dX3_isFull_13 (by decide) ?_
    exact z_zp (wf := (z_tx c a)) hx hb hr rfl hlocks hP hD hS hf dX3_isFull_17
abbrev rmX3_add : Room := { frames := 0, cells := 0, slots := 0, locals := 0 }
theorem qX3_add_15 : Cond.fieldLink RX3 15 "ProgramDrum$Text" "length" "I" ∈ wsX3_add := by decide +kernel
theorem iX3_add_X3 : ∀ w ∈ wsX30, w ∈ wsX3_add := by decide +kernel
theorem qX3_add_11 : Cond.fieldLink RX3 11 "ProgramDrum$Text" "codes" "[I" ∈ wsX3_add := by decide +kernel
set_option maxRecDepth 100000 in
set_option maxHeartbeats 4000000 in
theorem kX3_add (l : Launch) (D : va_G) (c : Nat → ClassId) (N : Nat) (a : Nat → Nat) (sz : Nat) (g : z_R) (p1 : Int32) (r0 : Int32) (g0 : z_R) (hf : fX3_add N p1 g = some (r0, g0)) : Met l yX3_add wsX3_add rmX3_add (z_Pc D c sz (z_tx c a g) [.ref (a 0), .int p1]) (z_Qi D (z_tx c a) r0 g0 (va_A (z_tx c a g) sz)) 0 0 (va_A (z_tx c a g) sz) := by
  refine z_ofM (cc := cX3_add) (maxL := 2) (ret := (some .int)) (Qf := fun A => z_Qi D (z_tx c a) r0 g0 A) (plainFor_of_name (by decide)) rfl (Nat.le_of_ble_eq_true rfl) ?_
  intro p e s m args below meth co A ls hx hb hr hml hts hown hlocks hnm hA hP hK hD hl hsz
  have hl : lv_has ls 2 [(0, .ref (a 0)), (1, .int p1)] := hl
  have hown : s.vm.findClass RX3 = some m.cls := hown
  obtain ⟨H, hH⟩ : ∃ H, H = s.heap := ⟨_, rfl⟩
  have hS : va_S A s.heap H [] := by rw [hH]; exact va_S.rf
  rw [← hH] at hP ⊢
  clear hH
  unfold fX3_add at hf
  generalize ([] : List Loc) = locs at hS ⊢
  refine lv_aload_n hx hb dX3_add_0 rfl (lv_at hl 0 rfl) ?_
  refine va_get (D := D) (ci := 3) (v := .int (g 0 0)) (C := RX3) (T := TX3) (N := 2) hx hb hts iX3_add_X3 hown hK.1 hP 0 rfl rfl 1 (by decide) (hts _ qX3_add_15) (fun _ h9 => h9) rfl dX3_add_1 ?_
  refine lv_if_lt (tgt := 39) hx hb dX3_add_4 (by decide) (fun c1 => ?_) (fun c1 => ?_)
  · have hf := z_ifT hf c1
    refine lv_aload_n hx hb dX3_add_39 rfl (lv_at hl 0 rfl) ?_
    refine va_get (D := D) (ci := 3) (v := .int (g 0 0)) (C := RX3) (T := TX3) (N := 2) hx hb hts iX3_add_X3 hown hK.1 hP 0 rfl rfl 1 (by decide) (hts _ qX3_add_15) (fun _ h9 => h9) rfl dX3_add_40 ?_
    exact z_ri (wf := (z_tx c a)) hx hb hr hlocks hP hD hS hf dX3_add_43
  · have hf := z_ifF hf c1
    refine lv_aload_n hx hb dX3_add_7 rfl (lv_at hl 0 rfl) ?_
    refine va_get (D := D) (ci := 3) (v := .int (g 0 0)) (C := RX3) (T := TX3) (N := 2) hx hb hts iX3_add_X3 hown hK.1 hP 0 rfl rfl 1 (by decide) (hts _ qX3_add_15) (fun _ h9 => h9) rfl dX3_add_8 ?_
    refine lv_aload_n hx hb dX3_add_11 rfl (lv_at hl 0 rfl) ?_
    refine va_get (D := D) (ci := 3) (v := .ref (a 1)) (C := RX3) (T := TX3) (N := 2) hx hb hts iX3_add_X3 hown hK.1 hP 0 rfl rfl 0 (by decide) (hts _ qX3_add_11) (fun _ h9 => h9) rfl dX3_add_12 ?_
    refine va_alen hx hb hK.1 hP 1 0 rfl rfl (v := (160 : Int32)) rfl dX3_add_15 ?_
    refine lv_icmp_ge (tgt := 39) hx hb dX3_add_16 (by decide) (fun c2 => ?_) (fun c2 => ?_)
    · have hf := z_ifT hf c2
      refine lv_aload_n hx hb dX3_add_39 rfl (lv_at hl 0 rfl) ?_
      refine va_get (D := D) (ci := 3) (v := .int (g 0 0)) (C := RX3) (T := TX3) (N := 2) hx hb hts iX3_add_X3 hown hK.1 hP 0 rfl rfl 1 (by decide) (hts _ qX3_add_15) (fun _ h9 => h9) rfl dX3_add_40 ?_
      exact z_ri (wf := (z_tx c a)) hx hb hr hlocks hP hD hS hf dX3_add_43
    · have hf := z_ifF hf c2
      refine lv_aload_n hx hb dX3_add_19 rfl (lv_at hl 0 rfl) ?_
      refine va_get (D := D) (ci := 3) (v := .ref (a 1)) (C := RX3) (T := TX3) (N := 2) hx hb hts iX3_add_X3 hown hK.1 hP 0 rfl rfl 0 (by decide) (hts _ qX3_add_11) (fun _ h9 => h9) rfl dX3_add_20 ?_
      refine lv_aload_n hx hb dX3_add_23 rfl (lv_at hl 0 rfl) ?_
      refine va_get (D := D) (ci := 3) (v := .int (g 0 0)) (C := RX3) (T := TX3) (N := 2) hx hb hts iX3_add_X3 hown hK.1 hP 0 rfl rfl 1 (by decide) (hts _ qX3_add_15) (fun _ h9 => h9) rfl dX3_add_24 ?_
      refine lv_iload_n hx hb dX3_add_27 rfl (lv_at hl 1 rfl) ?_
      obtain ⟨b3, hf⟩ := z_ckE hf
      refine va_iast hx hb hK.1 hP hD hS 1 0 rfl rfl (z_inE b3) dX3_add_28 (fun H locs hP hD hS => ?_)
      obtain ⟨g4, e4, hf⟩ := z_ltE hf
      have hP : va_P D vwCl (z_tx c a g4) H := by rw [e4]; exact hP
      have hD : va_D A (z_tx c a g4) := by rw [e4]; exact hD
      clear e4
      refine lv_aload_n hx hb dX3_add_29 rfl (lv_at hl 0 rfl) ?_
      refine lv_dup hx hb dX3_add_30 rfl ?_
      refine va_get (D := D) (ci := 3) (v := .int (g4 0 0)) (C := RX3) (T := TX3) (N := 2) hx hb hts iX3_add_X3 hown hK.1 hP 0 rfl rfl 1 (by decide) (hts _ qX3_add_15) (fun _ h9 => h9) rfl dX3_add_31 ?_
      refine lv_iconst (v := (1 : Int32)) hx hb dX3_add_34 (by decide) ?_
      refine lv_iadd hx hb dX3_add_35 ?_
      refine va_put (D := D) (ci := 3) (v := .int ((g4 0 0) + (1 : Int32))) (ty := .int) (C := RX3) (T := TX3) (N := 2) hx hb hts iX3_add_X3 tyX3 tyX3_ok nmX3 hown hK.1 hP hD hS 0 rfl rfl 1 (by decide) (hts _ qX3_add_15) (fun _ h9 => h9) rfl (by decide +kernel) rfl rfl (Nat.le_of_ble_eq_true rfl) dX3_add_36 (fun H locs hP hD hS => ?_)
      obtain ⟨g5, e5, hf⟩ := z_ltE hf
      have hP : va_P D vwCl (z_tx c a g5) H := by rw [e5]; exact hP
      have hD : va_D A (z_tx c a g5) := by rw [e5]; exact hD
      clear e5
      refine lv_aload_n hx hb dX3_add_39 rfl (lv_at hl 0 rfl) ?_
      refine va_get (D := D) (ci := 3) (v := .int (g5 0 0)) (C := RX3) (T := TX3) (N := 2) hx hb hts iX3_add_X3 hown hK.1 hP 0 rfl rfl 1 (by decide) (hts _ qX3_add_15) (fun _ h9 => h9) rfl dX3_add_40 ?_
      exact z_ri (wf := (z_tx c a)) hx hb hr hlocks hP hD hS hf dX3_add_43
abbrev rmX3_empty : Room := { frames := 0, cells := 0, slots := 0, locals := 0 }
theorem qX3_empty_15 : Cond.fieldLink RX3 15 "ProgramDrum$Text" "length" "I" ∈ wsX3_empty := by decide +kernel
theorem iX3_empty_X3 : ∀ w ∈ wsX30, w ∈ wsX3_empty := by decide +kernel
set_option maxRecDepth 100000 in
set_option maxHeartbeats 4000000 in
theorem kX3_empty (l : Launch) (D : va_G) (c : Nat → ClassId) (N : Nat) (a : Nat → Nat) (sz : Nat) (g : z_R) (r0 : Int32) (g0 : z_R) (hf : fX3_empty N g = some (r0, g0)) : Met l yX3_empty wsX3_empty rmX3_empty (z_Pc D c sz (z_tx c a g) [.ref (a 0)]) (z_Qi D (z_tx c a) r0 g0 (va_A (z_tx c a g) sz)) 0 0 (va_A (z_tx c a g) sz) := by
  refine z_ofM (cc := cX3_empty) (maxL := 2) (ret := (some .int)) (Qf := fun A => z_Qi D (z_tx c a) r0 g0 A) (plainFor_of_name (by decide)) rfl (Nat.le_of_ble_eq_true rfl) ?_
  intro p e s m args below meth co A ls hx hb hr hml hts hown hlocks hnm hA hP hK hD hl hsz
  have hl : lv_has ls 2 [(0, .ref (a 0))] := hl
  have hown : s.vm.findClass RX3 = some m.cls := hown
  obtain ⟨H, hH⟩ : ∃ H, H = s.heap := ⟨_, rfl⟩
  have hS : va_S A s.heap H [] := by rw [hH]; exact va_S.rf
  rw [← hH] at hP ⊢
  clear hH
  unfold fX3_empty at hf
  generalize ([] : List Loc) = locs at hS ⊢
  refine lv_aload_n hx hb dX3_empty_0 rfl (lv_at hl 0 rfl) ?_
  refine va_get (D := D) (ci := 3) (v := .int (g 0 0)) (C := RX3) (T := TX3) (N := 2) hx hb hts iX3_empty_X3 hown hK.1 hP 0 rfl rfl 1 (by decide) (hts _ qX3_empty_15) (fun _ h9 => h9) rfl dX3_empty_1 ?_
  refine lv_istore_n (lv' := [(1, .int (g 0 0)), (0, .ref (a 0))]) hx hb dX3_empty_4 rfl hl (by decide) rfl (fun ls hl => ?_)
  refine lv_aload_n hx hb dX3_empty_5 rfl (lv_at hl 1 rfl) ?_
  refine lv_iconst (v := (0 : Int32)) hx hb dX3_empty_6 (by decide) ?_
  refine va_put (D := D) (ci := 3) (v := .int (0 : Int32)) (ty := .int) (C := RX3) (T := TX3) (N := 2) hx hb hts iX3_empty_X3 tyX3 tyX3_ok nmX3 hown hK.1 hP hD hS 0 rfl rfl 1 (by decide) (hts _ qX3_empty_15) (fun _ h9 => h9) rfl (by decide +kernel) rfl rfl (Nat.le_of_ble_eq_true rfl) dX3_empty_7 (fun H locs hP hD hS => ?_)
  obtain ⟨g1, e1, hf⟩ := z_ltE hf
  have hP : va_P D vwCl (z_tx c a g1) H := by rw [e1]; exact hP
  have hD : va_D A (z_tx c a g1) := by rw [e1]; exact hD
  clear e1
  refine lv_iload_n hx hb dX3_empty_10 rfl (lv_at hl 0 rfl) ?_
  exact z_ri (wf := (z_tx c a)) hx hb hr hlocks hP hD hS hf dX3_empty_11
abbrev rmX3_code : Room := { frames := 0, cells := 0, slots := 0, locals := 0 }
theorem qX3_code_11 : Cond.fieldLink RX3 11 "ProgramDrum$Text" "codes" "[I" ∈ wsX3_code := by decide +kernel
theorem iX3_code_X3 : ∀ w ∈ wsX30, w ∈ wsX3_code := by decide +kernel
set_option maxRecDepth 100000 in
set_option maxHeartbeats 4000000 in
theorem kX3_code (l : Launch) (D : va_G) (c : Nat → ClassId) (N : Nat) (a : Nat → Nat) (sz : Nat) (g : z_R) (p1 : Int32) (r0 : Int32) (hf : fX3_code N p1 g = some r0) : Met l yX3_code wsX3_code rmX3_code (z_Pc D c sz (z_tx c a g) [.ref (a 0), .int p1]) (z_Qi D (z_tx c a) r0 g (va_A (z_tx c a g) sz)) 0 0 (va_A (z_tx c a g) sz) := by
  refine z_ofM (cc := cX3_code) (maxL := 2) (ret := (some .int)) (Qf := fun A => z_Qi D (z_tx c a) r0 g A) (plainFor_of_name (by decide)) rfl (Nat.le_of_ble_eq_true rfl) ?_
  intro p e s m args below meth co A ls hx hb hr hml hts hown hlocks hnm hA hP hK hD hl hsz
  have hl : lv_has ls 2 [(0, .ref (a 0)), (1, .int p1)] := hl
  have hown : s.vm.findClass RX3 = some m.cls := hown
  obtain ⟨H, hH⟩ : ∃ H, H = s.heap := ⟨_, rfl⟩
  have hS : va_S A s.heap H [] := by rw [hH]; exact va_S.rf
  rw [← hH] at hP ⊢
  clear hH
  unfold fX3_code at hf
  generalize ([] : List Loc) = locs at hS ⊢
  refine lv_iload_n hx hb dX3_code_0 rfl (lv_at hl 1 rfl) ?_
  refine lv_if_lt (tgt := 22) hx hb dX3_code_1 (by decide) (fun c1 => ?_) (fun c1 => ?_)
  · have hf := z_ifT hf c1
    refine lv_iconst (v := (0 : Int32)) hx hb dX3_code_22 (by decide) ?_
    exact z_rp (wf := (z_tx c a)) hx hb hr hlocks hP hD hS hf dX3_code_23
  · have hf := z_ifF hf c1
    refine lv_iload_n hx hb dX3_code_4 rfl (lv_at hl 1 rfl) ?_
    refine lv_aload_n hx hb dX3_code_5 rfl (lv_at hl 0 rfl) ?_
    refine va_get (D := D) (ci := 3) (v := .ref (a 1)) (C := RX3) (T := TX3) (N := 2) hx hb hts iX3_code_X3 hown hK.1 hP 0 rfl rfl 0 (by decide) (hts _ qX3_code_11) (fun _ h9 => h9) rfl dX3_code_6 ?_
    refine va_alen hx hb hK.1 hP 1 0 rfl rfl (v := (160 : Int32)) rfl dX3_code_9 ?_
    refine lv_icmp_ge (tgt := 22) hx hb dX3_code_10 (by decide) (fun c2 => ?_) (fun c2 => ?_)
    · have hf := z_ifT hf c2
      refine lv_iconst (v := (0 : Int32)) hx hb dX3_code_22 (by decide) ?_
      exact z_rp (wf := (z_tx c a)) hx hb hr hlocks hP hD hS hf dX3_code_23
    · have hf := z_ifF hf c2
      refine lv_aload_n hx hb dX3_code_13 rfl (lv_at hl 0 rfl) ?_
      refine va_get (D := D) (ci := 3) (v := .ref (a 1)) (C := RX3) (T := TX3) (N := 2) hx hb hts iX3_code_X3 hown hK.1 hP 0 rfl rfl 0 (by decide) (hts _ qX3_code_11) (fun _ h9 => h9) rfl dX3_code_14 ?_
      refine lv_iload_n hx hb dX3_code_17 rfl (lv_at hl 1 rfl) ?_
      obtain ⟨b3, hf⟩ := z_ckE hf
      refine va_iald hx hb hK.1 hP 1 0 rfl rfl (z_inE b3) dX3_code_18 ?_
      refine lv_goto (tgt := 23) hx hb dX3_code_19 (by decide) ?_
      exact z_rp (wf := (z_tx c a)) hx hb hr hlocks hP hD hS hf dX3_code_23
abbrev rmX3_isAllowedInHead : Room := { frames := 1, cells := 0, slots := 0, locals := 21 }
set_option maxRecDepth 100000 in
set_option maxHeartbeats 4000000 in
theorem kX3_isAllowedInHead (l : Launch) (D : va_G) (c : Nat → ClassId) (N : Nat) (a : Nat → Nat) (sz : Nat) (g : z_R) (p1 : Int32) (p2 : Int32) (r0 : Int32) (hf : fX3_isAllowedInHead N p1 p2 g = some r0) : Met l yX3_isAllowedInHead wsX3_isAllowedInHead rmX3_isAllowedInHead (z_Pc D c sz (z_tx c a g) [.ref (a 0), .int p1, .int p2]) (z_Qi D (z_tx c a) r0 g (va_A (z_tx c a g) sz)) 0 0 (va_A (z_tx c a g) sz) := by
  refine z_ofM (cc := cX3_isAllowedInHead) (maxL := 4) (ret := (some .boolean)) (Qf := fun A => z_Qi D (z_tx c a) r0 g A) (plainFor_of_name (by decide)) rfl (Nat.le_of_ble_eq_true rfl) ?_
  intro p e s m args below meth co A ls hx hb hr hml hts hown hlocks hnm hA hP hK hD hl hsz
  have hl : lv_has ls 4 [(0, .ref (a 0)), (1, .int p1), (2, .int p2)] := hl
  have hown : s.vm.findClass RX3 = some m.cls := hown
  obtain ⟨H, hH⟩ : ∃ H, H = s.heap := ⟨_, rfl⟩
  have hS : va_S A s.heap H [] := by rw [hH]; exact va_S.rf
  rw [← hH] at hP ⊢
  clear hH
  unfold fX3_isAllowedInHead at hf
  generalize ([] : List Loc) = locs at hS ⊢
  refine lv_iload_n hx hb dX3_isAllowedInHead_0 rfl (lv_at hl 1 rfl) ?_
  refine lv_if_ne (tgt := 16) hx hb dX3_isAllowedInHead_1 (by decide) (fun c1 => ?_) (fun c1 => ?_)
  · have hf := z_ifF hf c1
    refine lv_iload_n hx hb dX3_isAllowedInHead_16 rfl (lv_at hl 1 rfl) ?_
    refine lv_iconst (v := (1 : Int32)) hx hb dX3_isAllowedInHead_17 (by decide) ?_
    refine lv_icmp_ne (tgt := 39) hx hb dX3_isAllowedInHead_18 (by decide) (fun c2 => ?_) (fun c2 => ?_)
    · have hf := z_ifF hf c2
      refine lv_bipush (v := (10 : Int32)) hx hb dX3_isAllowedInHead_39 (by decide) ?_
      refine lv_aload_n hx hb dX3_isAllowedInHead_41 rfl (lv_at hl 0 rfl) ?_
      refine lv_iconst (v := (1 : Int32)) hx hb dX3_isAllowedInHead_42 (by decide) ?_
      obtain ⟨r3, h3, hf⟩ := z_bE hf
      refine z_cVi (As := [.int (1 : Int32)]) (rest := [.int (10 : Int32)]) (wf := (z_tx c a)) (g := g) (u0 := g) ⟨hx, hb, hml, hown, hts⟩ (kX3_code l D c N a H.size g (1 : Int32) r3 h3) (cwV 1 hts gX3_isAllowedInHead_X3_code rfl rfl rfl (by decide +kernel) ⟨Nat.le_of_ble_eq_true rfl, Nat.le_of_ble_eq_true rfl⟩) hP hK hD hS hA (ci := 3) (q0 := 0) rfl rfl rfl rfl hl.1 (Nat.le_of_ble_eq_true rfl) rfl dX3_isAllowedInHead_43 ⟨Nat.zero_le _, Nat.zero_le _⟩ (fun H locs hP hD hS => ?_)
      refine lv_bipush (v := (48 : Int32)) hx hb dX3_isAllowedInHead_46 (by decide) ?_
      refine lv_isub hx hb dX3_isAllowedInHead_48 ?_
      refine lv_imul hx hb dX3_isAllowedInHead_49 ?_
      refine lv_iload_n hx hb dX3_isAllowedInHead_50 rfl (lv_at hl 2 rfl) ?_
      refine lv_iadd hx hb dX3_isAllowedInHead_51 ?_
      refine lv_bipush (v := (48 : Int32)) hx hb dX3_isAllowedInHead_52 (by decide) ?_
      refine lv_isub hx hb dX3_isAllowedInHead_54 ?_
      refine lv_istore_n (lv' := [(3, .int ((((10 : Int32) * (r3 - (48 : Int32))) + p2) - (48 : Int32))), (0, .ref (a 0)), (1, .int p1), (2, .int p2)]) hx hb dX3_isAllowedInHead_55 rfl hl (by decide) rfl (fun ls hl => ?_)
      refine lv_iload_n hx hb dX3_isAllowedInHead_56 rfl (lv_at hl 3 rfl) ?_
      obtain ⟨r4, h4, hf⟩ := z_bE hf
      refine z_cSi (As := [.int p2]) (rest := []) ⟨hx, hb, hml, hown, hts⟩ (kX3_isDigit l D c N H.size p2 r4 h4) (va_cwS 1 hts gX3_isAllowedInHead_X3_isDigit rfl rfl rfl (by decide +kernel) ⟨Nat.le_of_ble_eq_true rfl, Nat.le_of_ble_eq_true rfl⟩) hP hK hS hA rfl hl.1 (Nat.le_of_ble_eq_true rfl) rfl dX3_isAllowedInHead_57 ⟨Nat.zero_le _, Nat.zero_le _⟩ (fun H locs hP hS => ?_)
      refine lv_if_eq (tgt := 79) hx hb dX3_isAllowedInHead_60 (by decide) (fun c5 => ?_) (fun c5 => ?_)
      · have hf := z_ifT hf c5
        refine lv_iconst (v := (0 : Int32)) hx hb dX3_isAllowedInHead_79 (by decide) ?_
        exact z_zp (wf := (z_tx c a)) hx hb hr rfl hlocks hP hD hS hf dX3_isAllowedInHead_80
      · have hf := z_ifF hf c5
        refine lv_iload_n hx hb dX3_isAllowedInHead_63 rfl (lv_at hl 0 rfl) ?_
        refine lv_bipush (v := (6 : Int32)) hx hb dX3_isAllowedInHead_64 (by decide) ?_
        refine lv_icmp_lt (tgt := 79) hx hb dX3_isAllowedInHead_66 (by decide) (fun c6 => ?_) (fun c6 => ?_)
        · have hf := z_ifT hf c6
          refine lv_iconst (v := (0 : Int32)) hx hb dX3_isAllowedInHead_79 (by decide) ?_
          exact z_zp (wf := (z_tx c a)) hx hb hr rfl hlocks hP hD hS hf dX3_isAllowedInHead_80
        · have hf := z_ifF hf c6
          refine lv_iload_n hx hb dX3_isAllowedInHead_69 rfl (lv_at hl 0 rfl) ?_
          refine lv_bipush (v := (40 : Int32)) hx hb dX3_isAllowedInHead_70 (by decide) ?_
          refine lv_icmp_gt (tgt := 79) hx hb dX3_isAllowedInHead_72 (by decide) (fun c7 => ?_) (fun c7 => ?_)
          · have hf := z_ifT hf c7
            refine lv_iconst (v := (0 : Int32)) hx hb dX3_isAllowedInHead_79 (by decide) ?_
            exact z_zp (wf := (z_tx c a)) hx hb hr rfl hlocks hP hD hS hf dX3_isAllowedInHead_80
          · have hf := z_ifF hf c7
            refine lv_iconst (v := (1 : Int32)) hx hb dX3_isAllowedInHead_75 (by decide) ?_
            refine lv_goto (tgt := 80) hx hb dX3_isAllowedInHead_76 (by decide) ?_
            exact z_zp (wf := (z_tx c a)) hx hb hr rfl hlocks hP hD hS hf dX3_isAllowedInHead_80
    · have hf := z_ifT hf c2
      refine lv_iload_n hx hb dX3_isAllowedInHead_21 rfl (lv_at hl 2 rfl) ?_
      refine lv_bipush (v := (48 : Int32)) hx hb dX3_isAllowedInHead_22 (by decide) ?_
      refine lv_icmp_lt (tgt := 37) hx hb dX3_isAllowedInHead_24 (by decide) (fun c8 => ?_) (fun c8 => ?_)
      · have hf := z_ifT hf c8
        refine lv_iconst (v := (0 : Int32)) hx hb dX3_isAllowedInHead_37 (by decide) ?_
        exact z_zp (wf := (z_tx c a)) hx hb hr rfl hlocks hP hD hS hf dX3_isAllowedInHead_38
      · have hf := z_ifF hf c8
        refine lv_iload_n hx hb dX3_isAllowedInHead_27 rfl (lv_at hl 2 rfl) ?_
        refine lv_bipush (v := (52 : Int32)) hx hb dX3_isAllowedInHead_28 (by decide) ?_
        refine lv_icmp_gt (tgt := 37) hx hb dX3_isAllowedInHead_30 (by decide) (fun c9 => ?_) (fun c9 => ?_)
        · have hf := z_ifT hf c9
          refine lv_iconst (v := (0 : Int32)) hx hb dX3_isAllowedInHead_37 (by decide) ?_
          exact z_zp (wf := (z_tx c a)) hx hb hr rfl hlocks hP hD hS hf dX3_isAllowedInHead_38
        · have hf := z_ifF hf c9
          refine lv_iconst (v := (1 : Int32)) hx hb dX3_isAllowedInHead_33 (by decide) ?_
          refine lv_goto (tgt := 38) hx hb dX3_isAllowedInHead_34 (by decide) ?_
          exact z_zp (wf := (z_tx c a)) hx hb hr rfl hlocks hP hD hS hf dX3_isAllowedInHead_38
  · have hf := z_ifT hf c1
    refine lv_iload_n hx hb dX3_isAllowedInHead_4 rfl (lv_at hl 2 rfl) ?_
    refine lv_bipush (v := (68 : Int32)) hx hb dX3_isAllowedInHead_5 (by decide) ?_
    refine lv_icmp_ne (tgt := 14) hx hb dX3_isAllowedInHead_7 (by decide) (fun c10 => ?_) (fun c10 => ?_)
    · have hf := z_ifF hf c10
      refine lv_iconst (v := (0 : Int32)) hx hb dX3_isAllowedInHead_14 (by decide) ?_
      exact z_zp (wf := (z_tx c a)) hx hb hr rfl hlocks hP hD hS hf dX3_isAllowedInHead_15
    · have hf := z_ifT hf c10
      refine lv_iconst (v := (1 : Int32)) hx hb dX3_isAllowedInHead_10 (by decide) ?_
      refine lv_goto (tgt := 15) hx hb dX3_isAllowedInHead_11 (by decide) ?_
      exact z_zp (wf := (z_tx c a)) hx hb hr rfl hlocks hP hD hS hf dX3_isAllowedInHead_15
abbrev rmX3_isAllowed : Room := { frames := 2, cells := 0, slots := 0, locals := 44 }
set_option maxRecDepth 100000 in
set_option maxHeartbeats 4000000 in
theorem kX3_isAllowed (l : Launch) (D : va_G) (c : Nat → ClassId) (N : Nat) (a : Nat → Nat) (sz : Nat) (g : z_R) (p1 : Int32) (r0 : Int32) (hf : fX3_isAllowed N p1 g = some r0) : Met l yX3_isAllowed wsX3_isAllowed rmX3_isAllowed (z_Pc D c sz (z_tx c a g) [.ref (a 0), .int p1]) (z_Qi D (z_tx c a) r0 g (va_A (z_tx c a g) sz)) 0 0 (va_A (z_tx c a g) sz) := by
  refine z_ofM (cc := cX3_isAllowed) (maxL := 3) (ret := (some .boolean)) (Qf := fun A => z_Qi D (z_tx c a) r0 g A) (plainFor_of_name (by decide)) rfl (Nat.le_of_ble_eq_true rfl) ?_
  intro p e s m args below meth co A ls hx hb hr hml hts hown hlocks hnm hA hP hK hD hl hsz
  have hl : lv_has ls 3 [(0, .ref (a 0)), (1, .int p1)] := hl
  have hown : s.vm.findClass RX3 = some m.cls := hown
  obtain ⟨H, hH⟩ : ∃ H, H = s.heap := ⟨_, rfl⟩
  have hS : va_S A s.heap H [] := by rw [hH]; exact va_S.rf
  rw [← hH] at hP ⊢
  clear hH
  unfold fX3_isAllowed at hf
  generalize ([] : List Loc) = locs at hS ⊢
  refine lv_aload_n hx hb dX3_isAllowed_0 rfl (lv_at hl 0 rfl) ?_
  refine lv_iload_n hx hb dX3_isAllowed_1 rfl (lv_at hl 1 rfl) ?_
  obtain ⟨r1, h1, hf⟩ := z_bE hf
  refine z_cVi (As := [.int p1]) (rest := []) (wf := (z_tx c a)) (g := g) (u0 := g) ⟨hx, hb, hml, hown, hts⟩ (kX3_code l D c N a H.size g p1 r1 h1) (cwV 1 hts gX3_isAllowed_X3_code rfl rfl rfl (by decide +kernel) ⟨Nat.le_of_ble_eq_true rfl, Nat.le_of_ble_eq_true rfl⟩) hP hK hD hS hA (ci := 3) (q0 := 0) rfl rfl rfl rfl hl.1 (Nat.le_of_ble_eq_true rfl) rfl dX3_isAllowed_2 ⟨Nat.zero_le _, Nat.zero_le _⟩ (fun H locs hP hD hS => ?_)
  refine lv_istore_n (lv' := [(2, .int r1), (0, .ref (a 0)), (1, .int p1)]) hx hb dX3_isAllowed_5 rfl hl (by decide) rfl (fun ls hl => ?_)
  refine lv_iload_n hx hb dX3_isAllowed_6 rfl (lv_at hl 2 rfl) ?_
  refine lv_iconst (v := (3 : Int32)) hx hb dX3_isAllowed_7 (by decide) ?_
  refine lv_icmp_ge (tgt := 18) hx hb dX3_isAllowed_8 (by decide) (fun c2 => ?_) (fun c2 => ?_)
  · have hf := z_ifT hf c2
    refine lv_iload_n hx hb dX3_isAllowed_18 rfl (lv_at hl 2 rfl) ?_
    refine lv_sipush (v := (147 : Int32)) hx hb dX3_isAllowed_19 (by decide) ?_
    refine lv_icmp_lt (tgt := 27) hx hb dX3_isAllowed_22 (by decide) (fun c3 => ?_) (fun c3 => ?_)
    · have hf := z_ifT hf c3
      refine lv_iload_n hx hb dX3_isAllowed_27 rfl (lv_at hl 2 rfl) ?_
      refine lv_iconst (v := (3 : Int32)) hx hb dX3_isAllowed_28 (by decide) ?_
      refine lv_isub hx hb dX3_isAllowed_29 ?_
      refine lv_bipush (v := (9 : Int32)) hx hb dX3_isAllowed_30 (by decide) ?_
      refine lv_irem hx hb dX3_isAllowed_32 (by decide) ?_
      by_cases c4_0 : ((p1 - (3 : Int32)) - (p1 - (3 : Int32)) / (9 : Int32) * (9 : Int32)) = (0 : Int32)
      · have hf := z_ifT hf c4_0
        refine lv_tableIn (tgt := 76) hx hb dX3_isAllowed_33 (by rw [c4_0]; decide) (by rw [c4_0]; decide) (off := 43) (by rw [c4_0]; rfl) (by decide) ?_
        refine lv_iload_n hx hb dX3_isAllowed_76 rfl (lv_at hl 0 rfl) ?_
        refine lv_bipush (v := (111 : Int32)) hx hb dX3_isAllowed_77 (by decide) ?_
        refine lv_icmp_ne (tgt := 86) hx hb dX3_isAllowed_79 (by decide) (fun c5 => ?_) (fun c5 => ?_)
        · have hf := z_ifF hf c5
          refine lv_iconst (v := (0 : Int32)) hx hb dX3_isAllowed_86 (by decide) ?_
          exact z_zp (wf := (z_tx c a)) hx hb hr rfl hlocks hP hD hS hf dX3_isAllowed_87
        · have hf := z_ifT hf c5
          refine lv_iconst (v := (1 : Int32)) hx hb dX3_isAllowed_82 (by decide) ?_
          refine lv_goto (tgt := 87) hx hb dX3_isAllowed_83 (by decide) ?_
          exact z_zp (wf := (z_tx c a)) hx hb hr rfl hlocks hP hD hS hf dX3_isAllowed_87
      have hf := z_ifF hf c4_0
      by_cases c4_1 : ((p1 - (3 : Int32)) - (p1 - (3 : Int32)) / (9 : Int32) * (9 : Int32)) = (1 : Int32)
      · have hf := z_ifT hf c4_1
        refine lv_tableIn (tgt := 88) hx hb dX3_isAllowed_33 (by rw [c4_1]; decide) (by rw [c4_1]; decide) (off := 55) (by rw [c4_1]; rfl) (by decide) ?_
        refine lv_iload_n hx hb dX3_isAllowed_88 rfl (lv_at hl 0 rfl) ?_
        refine lv_bipush (v := (48 : Int32)) hx hb dX3_isAllowed_89 (by decide) ?_
        refine lv_icmp_lt (tgt := 104) hx hb dX3_isAllowed_91 (by decide) (fun c6 => ?_) (fun c6 => ?_)
        · have hf := z_ifT hf c6
          refine lv_iconst (v := (0 : Int32)) hx hb dX3_isAllowed_104 (by decide) ?_
          exact z_zp (wf := (z_tx c a)) hx hb hr rfl hlocks hP hD hS hf dX3_isAllowed_105
        · have hf := z_ifF hf c6
          refine lv_iload_n hx hb dX3_isAllowed_94 rfl (lv_at hl 0 rfl) ?_
          refine lv_bipush (v := (52 : Int32)) hx hb dX3_isAllowed_95 (by decide) ?_
          refine lv_icmp_ge (tgt := 104) hx hb dX3_isAllowed_97 (by decide) (fun c7 => ?_) (fun c7 => ?_)
          · have hf := z_ifT hf c7
            refine lv_iconst (v := (0 : Int32)) hx hb dX3_isAllowed_104 (by decide) ?_
            exact z_zp (wf := (z_tx c a)) hx hb hr rfl hlocks hP hD hS hf dX3_isAllowed_105
          · have hf := z_ifF hf c7
            refine lv_iconst (v := (1 : Int32)) hx hb dX3_isAllowed_100 (by decide) ?_
            refine lv_goto (tgt := 105) hx hb dX3_isAllowed_101 (by decide) ?_
            exact z_zp (wf := (z_tx c a)) hx hb hr rfl hlocks hP hD hS hf dX3_isAllowed_105
      have hf := z_ifF hf c4_1
      by_cases c4_2 : ((p1 - (3 : Int32)) - (p1 - (3 : Int32)) / (9 : Int32) * (9 : Int32)) = (2 : Int32)
      · have hf := z_ifT hf c4_2
        refine lv_tableIn (tgt := 106) hx hb dX3_isAllowed_33 (by rw [c4_2]; decide) (by rw [c4_2]; decide) (off := 73) (by rw [c4_2]; rfl) (by decide) ?_
        refine lv_iload_n hx hb dX3_isAllowed_106 rfl (lv_at hl 0 rfl) ?_
        refine lv_bipush (v := (49 : Int32)) hx hb dX3_isAllowed_107 (by decide) ?_
        refine lv_icmp_lt (tgt := 122) hx hb dX3_isAllowed_109 (by decide) (fun c8 => ?_) (fun c8 => ?_)
        · have hf := z_ifT hf c8
          refine lv_iconst (v := (0 : Int32)) hx hb dX3_isAllowed_122 (by decide) ?_
          exact z_zp (wf := (z_tx c a)) hx hb hr rfl hlocks hP hD hS hf dX3_isAllowed_123
        · have hf := z_ifF hf c8
          refine lv_iload_n hx hb dX3_isAllowed_112 rfl (lv_at hl 0 rfl) ?_
          refine lv_bipush (v := (57 : Int32)) hx hb dX3_isAllowed_113 (by decide) ?_
          refine lv_icmp_gt (tgt := 122) hx hb dX3_isAllowed_115 (by decide) (fun c9 => ?_) (fun c9 => ?_)
          · have hf := z_ifT hf c9
            refine lv_iconst (v := (0 : Int32)) hx hb dX3_isAllowed_122 (by decide) ?_
            exact z_zp (wf := (z_tx c a)) hx hb hr rfl hlocks hP hD hS hf dX3_isAllowed_123
          · have hf := z_ifF hf c9
            refine lv_iconst (v := (1 : Int32)) hx hb dX3_isAllowed_118 (by decide) ?_
            refine lv_goto (tgt := 123) hx hb dX3_isAllowed_119 (by decide) ?_
            exact z_zp (wf := (z_tx c a)) hx hb hr rfl hlocks hP hD hS hf dX3_isAllowed_123
      have hf := z_ifF hf c4_2
      by_cases c4_3 : ((p1 - (3 : Int32)) - (p1 - (3 : Int32)) / (9 : Int32) * (9 : Int32)) = (3 : Int32)
      · have hf := z_ifT hf c4_3
        refine lv_tableIn (tgt := 124) hx hb dX3_isAllowed_33 (by rw [c4_3]; decide) (by rw [c4_3]; decide) (off := 91) (by rw [c4_3]; rfl) (by decide) ?_
        refine lv_iload_n hx hb dX3_isAllowed_124 rfl (lv_at hl 0 rfl) ?_
        refine lv_bipush (v := (48 : Int32)) hx hb dX3_isAllowed_125 (by decide) ?_
        refine lv_icmp_eq (tgt := 142) hx hb dX3_isAllowed_127 (by decide) (fun c10 => ?_) (fun c10 => ?_)
        · have hf := z_ifT hf c10
          refine lv_iconst (v := (1 : Int32)) hx hb dX3_isAllowed_142 (by decide) ?_
          refine lv_goto (tgt := 147) hx hb dX3_isAllowed_143 (by decide) ?_
          exact z_zp (wf := (z_tx c a)) hx hb hr rfl hlocks hP hD hS hf dX3_isAllowed_147
        · have hf := z_ifF hf c10
          refine lv_iload_n hx hb dX3_isAllowed_130 rfl (lv_at hl 0 rfl) ?_
          refine lv_bipush (v := (49 : Int32)) hx hb dX3_isAllowed_131 (by decide) ?_
          refine lv_icmp_eq (tgt := 142) hx hb dX3_isAllowed_133 (by decide) (fun c11 => ?_) (fun c11 => ?_)
          · have hf := z_ifT hf c11
            refine lv_iconst (v := (1 : Int32)) hx hb dX3_isAllowed_142 (by decide) ?_
            refine lv_goto (tgt := 147) hx hb dX3_isAllowed_143 (by decide) ?_
            exact z_zp (wf := (z_tx c a)) hx hb hr rfl hlocks hP hD hS hf dX3_isAllowed_147
          · have hf := z_ifF hf c11
            refine lv_iload_n hx hb dX3_isAllowed_136 rfl (lv_at hl 0 rfl) ?_
            refine lv_bipush (v := (45 : Int32)) hx hb dX3_isAllowed_137 (by decide) ?_
            refine lv_icmp_ne (tgt := 146) hx hb dX3_isAllowed_139 (by decide) (fun c12 => ?_) (fun c12 => ?_)
            · have hf := z_ifF hf c12
              refine lv_iconst (v := (0 : Int32)) hx hb dX3_isAllowed_146 (by decide) ?_
              exact z_zp (wf := (z_tx c a)) hx hb hr rfl hlocks hP hD hS hf dX3_isAllowed_147
            · have hf := z_ifT hf c12
              refine lv_iconst (v := (1 : Int32)) hx hb dX3_isAllowed_142 (by decide) ?_
              refine lv_goto (tgt := 147) hx hb dX3_isAllowed_143 (by decide) ?_
              exact z_zp (wf := (z_tx c a)) hx hb hr rfl hlocks hP hD hS hf dX3_isAllowed_147
      have hf := z_ifF hf c4_3
      by_cases c4_4 : ((p1 - (3 : Int32)) - (p1 - (3 : Int32)) / (9 : Int32) * (9 : Int32)) = (4 : Int32)
      · have hf := z_ifT hf c4_4
        refine lv_tableIn (tgt := 148) hx hb dX3_isAllowed_33 (by rw [c4_4]; decide) (by rw [c4_4]; decide) (off := 115) (by rw [c4_4]; rfl) (by decide) ?_
        refine lv_aload_n hx hb dX3_isAllowed_148 rfl (lv_at hl 1 rfl) ?_
        refine lv_iload_n hx hb dX3_isAllowed_149 rfl (lv_at hl 2 rfl) ?_
        refine lv_iconst (v := (1 : Int32)) hx hb dX3_isAllowed_150 (by decide) ?_
        refine lv_isub hx hb dX3_isAllowed_151 ?_
        obtain ⟨r13, h13, hf⟩ := z_bE hf
        refine z_cVi (As := [.int (p1 - (1 : Int32))]) (rest := []) (wf := (z_tx c a)) (g := g) (u0 := g) ⟨hx, hb, hml, hown, hts⟩ (kX3_code l D c N a H.size g (p1 - (1 : Int32)) r13 h13) (cwV 1 hts gX3_isAllowed_X3_code rfl rfl rfl (by decide +kernel) ⟨Nat.le_of_ble_eq_true rfl, Nat.le_of_ble_eq_true rfl⟩) hP hK hD hS hA (ci := 3) (q0 := 0) rfl rfl rfl rfl hl.1 (Nat.le_of_ble_eq_true rfl) rfl dX3_isAllowed_152 ⟨Nat.zero_le _, Nat.zero_le _⟩ (fun H locs hP hD hS => ?_)
        refine lv_iload_n hx hb dX3_isAllowed_155 rfl (lv_at hl 0 rfl) ?_
        obtain ⟨r14, h14, hf⟩ := z_bE hf
        refine z_cSi (As := [.int r13, .int r1]) (rest := []) ⟨hx, hb, hml, hown, hts⟩ (kX3_endsLink l D c N H.size r13 r1 r14 h14) (va_cwS 2 hts gX3_isAllowed_X3_endsLink rfl rfl rfl (by decide +kernel) ⟨Nat.le_of_ble_eq_true rfl, Nat.le_of_ble_eq_true rfl⟩) hP hK hS hA rfl hl.1 (Nat.le_of_ble_eq_true rfl) rfl dX3_isAllowed_156 ⟨Nat.zero_le _, Nat.zero_le _⟩ (fun H locs hP hS => ?_)
        obtain ⟨b15, hf⟩ := z_ckE hf
        exact z_zp (wf := (z_tx c a)) hx hb hr (z_boE b15) hlocks hP hD hS hf dX3_isAllowed_159
      have hf := z_ifF hf c4_4
      by_cases c4_5 : ((p1 - (3 : Int32)) - (p1 - (3 : Int32)) / (9 : Int32) * (9 : Int32)) = (5 : Int32)
      · have hf := z_ifT hf c4_5
        refine lv_tableIn (tgt := 124) hx hb dX3_isAllowed_33 (by rw [c4_5]; decide) (by rw [c4_5]; decide) (off := 91) (by rw [c4_5]; rfl) (by decide) ?_
        refine lv_iload_n hx hb dX3_isAllowed_124 rfl (lv_at hl 0 rfl) ?_
        refine lv_bipush (v := (48 : Int32)) hx hb dX3_isAllowed_125 (by decide) ?_
        refine lv_icmp_eq (tgt := 142) hx hb dX3_isAllowed_127 (by decide) (fun c16 => ?_) (fun c16 => ?_)
        · have hf := z_ifT hf c16
          refine lv_iconst (v := (1 : Int32)) hx hb dX3_isAllowed_142 (by decide) ?_
          refine lv_goto (tgt := 147) hx hb dX3_isAllowed_143 (by decide) ?_
          exact z_zp (wf := (z_tx c a)) hx hb hr rfl hlocks hP hD hS hf dX3_isAllowed_147
        · have hf := z_ifF hf c16
          refine lv_iload_n hx hb dX3_isAllowed_130 rfl (lv_at hl 0 rfl) ?_
          refine lv_bipush (v := (49 : Int32)) hx hb dX3_isAllowed_131 (by decide) ?_
          refine lv_icmp_eq (tgt := 142) hx hb dX3_isAllowed_133 (by decide) (fun c17 => ?_) (fun c17 => ?_)
          · have hf := z_ifT hf c17
            refine lv_iconst (v := (1 : Int32)) hx hb dX3_isAllowed_142 (by decide) ?_
            refine lv_goto (tgt := 147) hx hb dX3_isAllowed_143 (by decide) ?_
            exact z_zp (wf := (z_tx c a)) hx hb hr rfl hlocks hP hD hS hf dX3_isAllowed_147
          · have hf := z_ifF hf c17
            refine lv_iload_n hx hb dX3_isAllowed_136 rfl (lv_at hl 0 rfl) ?_
            refine lv_bipush (v := (45 : Int32)) hx hb dX3_isAllowed_137 (by decide) ?_
            refine lv_icmp_ne (tgt := 146) hx hb dX3_isAllowed_139 (by decide) (fun c18 => ?_) (fun c18 => ?_)
            · have hf := z_ifF hf c18
              refine lv_iconst (v := (0 : Int32)) hx hb dX3_isAllowed_146 (by decide) ?_
              exact z_zp (wf := (z_tx c a)) hx hb hr rfl hlocks hP hD hS hf dX3_isAllowed_147
            · have hf := z_ifT hf c18
              refine lv_iconst (v := (1 : Int32)) hx hb dX3_isAllowed_142 (by decide) ?_
              refine lv_goto (tgt := 147) hx hb dX3_isAllowed_143 (by decide) ?_
              exact z_zp (wf := (z_tx c a)) hx hb hr rfl hlocks hP hD hS hf dX3_isAllowed_147
      have hf := z_ifF hf c4_5
      by_cases c4_6 : ((p1 - (3 : Int32)) - (p1 - (3 : Int32)) / (9 : Int32) * (9 : Int32)) = (6 : Int32)
      · have hf := z_ifT hf c4_6
        refine lv_tableIn (tgt := 148) hx hb dX3_isAllowed_33 (by rw [c4_6]; decide) (by rw [c4_6]; decide) (off := 115) (by rw [c4_6]; rfl) (by decide) ?_
        refine lv_aload_n hx hb dX3_isAllowed_148 rfl (lv_at hl 1 rfl) ?_
        refine lv_iload_n hx hb dX3_isAllowed_149 rfl (lv_at hl 2 rfl) ?_
        refine lv_iconst (v := (1 : Int32)) hx hb dX3_isAllowed_150 (by decide) ?_
        refine lv_isub hx hb dX3_isAllowed_151 ?_
        obtain ⟨r19, h19, hf⟩ := z_bE hf
        refine z_cVi (As := [.int (p1 - (1 : Int32))]) (rest := []) (wf := (z_tx c a)) (g := g) (u0 := g) ⟨hx, hb, hml, hown, hts⟩ (kX3_code l D c N a H.size g (p1 - (1 : Int32)) r19 h19) (cwV 1 hts gX3_isAllowed_X3_code rfl rfl rfl (by decide +kernel) ⟨Nat.le_of_ble_eq_true rfl, Nat.le_of_ble_eq_true rfl⟩) hP hK hD hS hA (ci := 3) (q0 := 0) rfl rfl rfl rfl hl.1 (Nat.le_of_ble_eq_true rfl) rfl dX3_isAllowed_152 ⟨Nat.zero_le _, Nat.zero_le _⟩ (fun H locs hP hD hS => ?_)
        refine lv_iload_n hx hb dX3_isAllowed_155 rfl (lv_at hl 0 rfl) ?_
        obtain ⟨r20, h20, hf⟩ := z_bE hf
        refine z_cSi (As := [.int r19, .int r1]) (rest := []) ⟨hx, hb, hml, hown, hts⟩ (kX3_endsLink l D c N H.size r19 r1 r20 h20) (va_cwS 2 hts gX3_isAllowed_X3_endsLink rfl rfl rfl (by decide +kernel) ⟨Nat.le_of_ble_eq_true rfl, Nat.le_of_ble_eq_true rfl⟩) hP hK hS hA rfl hl.1 (Nat.le_of_ble_eq_true rfl) rfl dX3_isAllowed_156 ⟨Nat.zero_le _, Nat.zero_le _⟩ (fun H locs hP hS => ?_)
        obtain ⟨b21, hf⟩ := z_ckE hf
        exact z_zp (wf := (z_tx c a)) hx hb hr (z_boE b21) hlocks hP hD hS hf dX3_isAllowed_159
      have hf := z_ifF hf c4_6
      refine lv_tableOut (tgt := 160) hx hb dX3_isAllowed_33 (z_sw0_6 c4_0 c4_1 c4_2 c4_3 c4_4 c4_5 c4_6) (by decide) ?_
      refine lv_iload_n hx hb dX3_isAllowed_160 rfl (lv_at hl 0 rfl) ?_
      obtain ⟨r22, h22, hf⟩ := z_bE hf
      refine z_cSi (As := [.int r1]) (rest := []) ⟨hx, hb, hml, hown, hts⟩ (kX3_isDigit l D c N H.size r1 r22 h22) (va_cwS 1 hts gX3_isAllowed_X3_isDigit rfl rfl rfl (by decide +kernel) ⟨Nat.le_of_ble_eq_true rfl, Nat.le_of_ble_eq_true rfl⟩) hP hK hS hA rfl hl.1 (Nat.le_of_ble_eq_true rfl) rfl dX3_isAllowed_161 ⟨Nat.zero_le _, Nat.zero_le _⟩ (fun H locs hP hS => ?_)
      obtain ⟨b23, hf⟩ := z_ckE hf
      exact z_zp (wf := (z_tx c a)) hx hb hr (z_boE b23) hlocks hP hD hS hf dX3_isAllowed_164
    · have hf := z_ifF hf c3
      refine lv_iconst (v := (0 : Int32)) hx hb dX3_isAllowed_25 (by decide) ?_
      exact z_zp (wf := (z_tx c a)) hx hb hr rfl hlocks hP hD hS hf dX3_isAllowed_26
  · have hf := z_ifF hf c2
    refine lv_aload_n hx hb dX3_isAllowed_11 rfl (lv_at hl 1 rfl) ?_
    refine lv_iload_n hx hb dX3_isAllowed_12 rfl (lv_at hl 2 rfl) ?_
    refine lv_iload_n hx hb dX3_isAllowed_13 rfl (lv_at hl 0 rfl) ?_
    obtain ⟨r24, h24, hf⟩ := z_bE hf
    refine z_cVi (As := [.int p1, .int r1]) (rest := []) (wf := (z_tx c a)) (g := g) (u0 := g) ⟨hx, hb, hml, hown, hts⟩ (kX3_isAllowedInHead l D c N a H.size g p1 r1 r24 h24) (cwV 2 hts gX3_isAllowed_X3_isAllowedInHead rfl rfl rfl (by decide +kernel) ⟨Nat.le_of_ble_eq_true rfl, Nat.le_of_ble_eq_true rfl⟩) hP hK hD hS hA (ci := 3) (q0 := 0) rfl rfl rfl rfl hl.1 (Nat.le_of_ble_eq_true rfl) rfl dX3_isAllowed_14 ⟨Nat.zero_le _, Nat.zero_le _⟩ (fun H locs hP hD hS => ?_)
    obtain ⟨b25, hf⟩ := z_ckE hf
    exact z_zp (wf := (z_tx c a)) hx hb hr (z_boE b25) hlocks hP hD hS hf dX3_isAllowed_17
abbrev rmX3_firstError : Room := { frames := 3, cells := 0, slots := 0, locals := 66 }
theorem qX3_firstError_15 : Cond.fieldLink RX3 15 "ProgramDrum$Text" "length" "I" ∈ wsX3_firstError := by decide +kernel
theorem iX3_firstError_X3 : ∀ w ∈ wsX30, w ∈ wsX3_firstError := by decide +kernel
set_option maxRecDepth 100000 in
set_option maxHeartbeats 4000000 in
theorem kX3_firstError (l : Launch) (D : va_G) (c : Nat → ClassId) (N : Nat) (a : Nat → Nat) (sz : Nat) (g : z_R) (r0 : Int32) (hf : fX3_firstError N g = some r0) : Met l yX3_firstError wsX3_firstError rmX3_firstError (z_Pc D c sz (z_tx c a g) [.ref (a 0)]) (z_Qi D (z_tx c a) r0 g (va_A (z_tx c a g) sz)) 0 0 (va_A (z_tx c a g) sz) := by
  refine z_ofM (cc := cX3_firstError) (maxL := 2) (ret := (some .int)) (Qf := fun A => z_Qi D (z_tx c a) r0 g A) (plainFor_of_name (by decide)) rfl (Nat.le_of_ble_eq_true rfl) ?_
  intro p e s m args below meth co A ls hx hb hr hml hts hown hlocks hnm hA hP hK hD hl hsz
  have hl : lv_has ls 2 [(0, .ref (a 0))] := hl
  have hown : s.vm.findClass RX3 = some m.cls := hown
  obtain ⟨H, hH⟩ : ∃ H, H = s.heap := ⟨_, rfl⟩
  have hS : va_S A s.heap H [] := by rw [hH]; exact va_S.rf
  rw [← hH] at hP ⊢
  clear hH
  have L2 : ∀ (g : z_R) (fu : Nat) (x1 : Int32), lX3_firstError_2 N g fu x1 = some r0 → ∀ (H : Heap) (locs : List Loc) (ls : Array Slot), va_P D vwCl (z_tx c a g) H → va_D A (z_tx c a g) → va_S A s.heap H locs → lv_has ls 2 [(0, .ref (a 0)), (1, .int x1)] → W p l e rmX3_firstError s m args below meth co H locs 0 0 (MQ below (z_Qi D (z_tx c a) r0 g A) args s 0 0 A) (F0 m 2 ls []) := by
    intro g fu
    induction fu with
    | zero =>
      intro x1 hf
      have hf : (none : Option Int32) = some _ := hf
      cases hf
    | succ fu ih =>
      intro x1 hf H locs ls hP hD hS hl
      rw [lX3_firstError_2.eq_2] at hf
      refine lv_iload_n hx hb dX3_firstError_2 rfl (lv_at hl 1 rfl) ?_
      refine lv_aload_n hx hb dX3_firstError_3 rfl (lv_at hl 0 rfl) ?_
      refine va_get (D := D) (ci := 3) (v := .int (g 0 0)) (C := RX3) (T := TX3) (N := 2) hx hb hts iX3_firstError_X3 hown hK.1 hP 0 rfl rfl 1 (by decide) (hts _ qX3_firstError_15) (fun _ h9 => h9) rfl dX3_firstError_4 ?_
      refine lv_icmp_ge (tgt := 26) hx hb dX3_firstError_7 (by decide) (fun c1 => ?_) (fun c1 => ?_)
      · have hf := z_ifT hf c1
        refine lv_aload_n hx hb dX3_firstError_26 rfl (lv_at hl 0 rfl) ?_
        refine va_get (D := D) (ci := 3) (v := .int (g 0 0)) (C := RX3) (T := TX3) (N := 2) hx hb hts iX3_firstError_X3 hown hK.1 hP 0 rfl rfl 1 (by decide) (hts _ qX3_firstError_15) (fun _ h9 => h9) rfl dX3_firstError_27 ?_
        refine lv_iconst (v := (3 : Int32)) hx hb dX3_firstError_30 (by decide) ?_
        refine lv_icmp_lt (tgt := 50) hx hb dX3_firstError_31 (by decide) (fun c2 => ?_) (fun c2 => ?_)
        · have hf := z_ifT hf c2
          refine lv_iconst (v := (0 : Int32)) hx hb dX3_firstError_50 (by decide) ?_
          refine lv_istore_n (lv' := [(1, .int (0 : Int32)), (0, .ref (a 0))]) hx hb dX3_firstError_51 rfl hl (by decide) rfl (fun ls hl => ?_)
          refine lv_iload_n hx hb dX3_firstError_52 rfl (lv_at hl 0 rfl) ?_
          refine lv_if_eq (tgt := 60) hx hb dX3_firstError_53 (by decide) (fun _ => ?_) (fun c => absurd c (by decide))
          refine lv_aload_n hx hb dX3_firstError_60 rfl (lv_at hl 1 rfl) ?_
          refine va_get (D := D) (ci := 3) (v := .int (g 0 0)) (C := RX3) (T := TX3) (N := 2) hx hb hts iX3_firstError_X3 hown hK.1 hP 0 rfl rfl 1 (by decide) (hts _ qX3_firstError_15) (fun _ h9 => h9) rfl dX3_firstError_61 ?_
          exact z_rp (wf := (z_tx c a)) hx hb hr hlocks hP hD hS hf dX3_firstError_64
        · have hf := z_ifF hf c2
          refine lv_aload_n hx hb dX3_firstError_34 rfl (lv_at hl 0 rfl) ?_
          refine va_get (D := D) (ci := 3) (v := .int (g 0 0)) (C := RX3) (T := TX3) (N := 2) hx hb hts iX3_firstError_X3 hown hK.1 hP 0 rfl rfl 1 (by decide) (hts _ qX3_firstError_15) (fun _ h9 => h9) rfl dX3_firstError_35 ?_
          refine lv_iconst (v := (3 : Int32)) hx hb dX3_firstError_38 (by decide) ?_
          refine lv_isub hx hb dX3_firstError_39 ?_
          refine lv_bipush (v := (9 : Int32)) hx hb dX3_firstError_40 (by decide) ?_
          refine lv_irem hx hb dX3_firstError_42 (by decide) ?_
          refine lv_if_ne (tgt := 50) hx hb dX3_firstError_43 (by decide) (fun c3 => ?_) (fun c3 => ?_)
          · have hf := z_ifF hf c3
            refine lv_iconst (v := (0 : Int32)) hx hb dX3_firstError_50 (by decide) ?_
            refine lv_istore_n (lv' := [(1, .int (0 : Int32)), (0, .ref (a 0))]) hx hb dX3_firstError_51 rfl hl (by decide) rfl (fun ls hl => ?_)
            refine lv_iload_n hx hb dX3_firstError_52 rfl (lv_at hl 0 rfl) ?_
            refine lv_if_eq (tgt := 60) hx hb dX3_firstError_53 (by decide) (fun _ => ?_) (fun c => absurd c (by decide))
            refine lv_aload_n hx hb dX3_firstError_60 rfl (lv_at hl 1 rfl) ?_
            refine va_get (D := D) (ci := 3) (v := .int (g 0 0)) (C := RX3) (T := TX3) (N := 2) hx hb hts iX3_firstError_X3 hown hK.1 hP 0 rfl rfl 1 (by decide) (hts _ qX3_firstError_15) (fun _ h9 => h9) rfl dX3_firstError_61 ?_
            exact z_rp (wf := (z_tx c a)) hx hb hr hlocks hP hD hS hf dX3_firstError_64
          · have hf := z_ifT hf c3
            refine lv_iconst (v := (1 : Int32)) hx hb dX3_firstError_46 (by decide) ?_
            refine lv_goto (tgt := 51) hx hb dX3_firstError_47 (by decide) ?_
            refine lv_istore_n (lv' := [(1, .int (1 : Int32)), (0, .ref (a 0))]) hx hb dX3_firstError_51 rfl hl (by decide) rfl (fun ls hl => ?_)
            refine lv_iload_n hx hb dX3_firstError_52 rfl (lv_at hl 0 rfl) ?_
            refine lv_if_eq (tgt := 60) hx hb dX3_firstError_53 (by decide) (fun c => absurd c (by decide)) (fun _ => ?_)
            refine lv_iconst (v := (-1 : Int32)) hx hb dX3_firstError_56 (by decide) ?_
            refine lv_goto (tgt := 64) hx hb dX3_firstError_57 (by decide) ?_
            exact z_rp (wf := (z_tx c a)) hx hb hr hlocks hP hD hS hf dX3_firstError_64
      · have hf := z_ifF hf c1
        refine lv_aload_n hx hb dX3_firstError_10 rfl (lv_at hl 0 rfl) ?_
        refine lv_iload_n hx hb dX3_firstError_11 rfl (lv_at hl 1 rfl) ?_
        obtain ⟨r4, h4, hf⟩ := z_bE hf
        refine z_cVi (As := [.int x1]) (rest := []) (wf := (z_tx c a)) (g := g) (u0 := g) ⟨hx, hb, hml, hown, hts⟩ (kX3_isAllowed l D c N a H.size g x1 r4 h4) (cwV 1 hts gX3_firstError_X3_isAllowed rfl rfl rfl (by decide +kernel) ⟨Nat.le_of_ble_eq_true rfl, Nat.le_of_ble_eq_true rfl⟩) hP hK hD hS hA (ci := 3) (q0 := 0) rfl rfl rfl rfl hl.1 (Nat.le_of_ble_eq_true rfl) rfl dX3_firstError_12 ⟨Nat.zero_le _, Nat.zero_le _⟩ (fun H locs hP hD hS => ?_)
        refine lv_if_ne (tgt := 20) hx hb dX3_firstError_15 (by decide) (fun c5 => ?_) (fun c5 => ?_)
        · have hf := z_ifF hf c5
          refine lv_iinc (v := (x1 + (1 : Int32))) (lv' := [(1, .int (x1 + (1 : Int32))), (0, .ref (a 0))]) hx hb dX3_firstError_20 hl (k := 1) rfl rfl (by decide) rfl (fun ls hl => ?_)
          refine lv_goto (tgt := 2) hx hb dX3_firstError_23 (by decide) ?_
          exact ih _ hf H locs ls hP hD hS (lv_sub hl [1, 0] rfl)
        · have hf := z_ifT hf c5
          refine lv_iload_n hx hb dX3_firstError_18 rfl (lv_at hl 1 rfl) ?_
          exact z_rp (wf := (z_tx c a)) hx hb hr hlocks hP hD hS hf dX3_firstError_19
  unfold fX3_firstError at hf
  generalize ([] : List Loc) = locs at hS ⊢
  refine lv_iconst (v := (0 : Int32)) hx hb dX3_firstError_0 (by decide) ?_
  refine lv_istore_n (lv' := [(1, .int (0 : Int32)), (0, .ref (a 0))]) hx hb dX3_firstError_1 rfl hl (by decide) rfl (fun ls hl => ?_)
  exact L2 _ N _ hf H locs ls hP hD hS (lv_sub hl [1, 0] rfl)
abbrev rmX3_digit : Room := { frames := 1, cells := 0, slots := 0, locals := 21 }
set_option maxRecDepth 100000 in
set_option maxHeartbeats 4000000 in
theorem kX3_digit (l : Launch) (D : va_G) (c : Nat → ClassId) (N : Nat) (a : Nat → Nat) (sz : Nat) (g : z_R) (p1 : Int32) (r0 : Int32) (hf : fX3_digit N p1 g = some r0) : Met l yX3_digit wsX3_digit rmX3_digit (z_Pc D c sz (z_tx c a g) [.ref (a 0), .int p1]) (z_Qi D (z_tx c a) r0 g (va_A (z_tx c a g) sz)) 0 0 (va_A (z_tx c a g) sz) := by
  refine z_ofM (cc := cX3_digit) (maxL := 2) (ret := (some .int)) (Qf := fun A => z_Qi D (z_tx c a) r0 g A) (plainFor_of_name (by decide)) rfl (Nat.le_of_ble_eq_true rfl) ?_
  intro p e s m args below meth co A ls hx hb hr hml hts hown hlocks hnm hA hP hK hD hl hsz
  have hl : lv_has ls 2 [(0, .ref (a 0)), (1, .int p1)] := hl
  have hown : s.vm.findClass RX3 = some m.cls := hown
  obtain ⟨H, hH⟩ : ∃ H, H = s.heap := ⟨_, rfl⟩
  have hS : va_S A s.heap H [] := by rw [hH]; exact va_S.rf
  rw [← hH] at hP ⊢
  clear hH
  unfold fX3_digit at hf
  generalize ([] : List Loc) = locs at hS ⊢
  refine lv_aload_n hx hb dX3_digit_0 rfl (lv_at hl 0 rfl) ?_
  refine lv_iload_n hx hb dX3_digit_1 rfl (lv_at hl 1 rfl) ?_
  obtain ⟨r1, h1, hf⟩ := z_bE hf
  refine z_cVi (As := [.int p1]) (rest := []) (wf := (z_tx c a)) (g := g) (u0 := g) ⟨hx, hb, hml, hown, hts⟩ (kX3_code l D c N a H.size g p1 r1 h1) (cwV 1 hts gX3_digit_X3_code rfl rfl rfl (by decide +kernel) ⟨Nat.le_of_ble_eq_true rfl, Nat.le_of_ble_eq_true rfl⟩) hP hK hD hS hA (ci := 3) (q0 := 0) rfl rfl rfl rfl hl.1 (Nat.le_of_ble_eq_true rfl) rfl dX3_digit_2 ⟨Nat.zero_le _, Nat.zero_le _⟩ (fun H locs hP hD hS => ?_)
  refine lv_bipush (v := (48 : Int32)) hx hb dX3_digit_5 (by decide) ?_
  refine lv_isub hx hb dX3_digit_7 ?_
  exact z_rp (wf := (z_tx c a)) hx hb hr hlocks hP hD hS hf dX3_digit_8
abbrev rmX3_pair : Room := { frames := 2, cells := 0, slots := 0, locals := 42 }
set_option maxRecDepth 100000 in
set_option maxHeartbeats 4000000 in
theorem kX3_pair (l : Launch) (D : va_G) (c : Nat → ClassId) (N : Nat) (a : Nat → Nat) (sz : Nat) (g : z_R) (p1 : Int32) (r0 : Int32) (hf : fX3_pair N p1 g = some r0) : Met l yX3_pair wsX3_pair rmX3_pair (z_Pc D c sz (z_tx c a g) [.ref (a 0), .int p1]) (z_Qi D (z_tx c a) r0 g (va_A (z_tx c a g) sz)) 0 0 (va_A (z_tx c a g) sz) := by
  refine z_ofM (cc := cX3_pair) (maxL := 2) (ret := (some .int)) (Qf := fun A => z_Qi D (z_tx c a) r0 g A) (plainFor_of_name (by decide)) rfl (Nat.le_of_ble_eq_true rfl) ?_
  intro p e s m args below meth co A ls hx hb hr hml hts hown hlocks hnm hA hP hK hD hl hsz
  have hl : lv_has ls 2 [(0, .ref (a 0)), (1, .int p1)] := hl
  have hown : s.vm.findClass RX3 = some m.cls := hown
  obtain ⟨H, hH⟩ : ∃ H, H = s.heap := ⟨_, rfl⟩
  have hS : va_S A s.heap H [] := by rw [hH]; exact va_S.rf
  rw [← hH] at hP ⊢
  clear hH
  unfold fX3_pair at hf
  generalize ([] : List Loc) = locs at hS ⊢
  refine lv_aload_n hx hb dX3_pair_0 rfl (lv_at hl 0 rfl) ?_
  refine lv_iload_n hx hb dX3_pair_1 rfl (lv_at hl 1 rfl) ?_
  obtain ⟨r1, h1, hf⟩ := z_bE hf
  refine z_cVi (As := [.int p1]) (rest := []) (wf := (z_tx c a)) (g := g) (u0 := g) ⟨hx, hb, hml, hown, hts⟩ (kX3_code l D c N a H.size g p1 r1 h1) (cwV 1 hts gX3_pair_X3_code rfl rfl rfl (by decide +kernel) ⟨Nat.le_of_ble_eq_true rfl, Nat.le_of_ble_eq_true rfl⟩) hP hK hD hS hA (ci := 3) (q0 := 0) rfl rfl rfl rfl hl.1 (Nat.le_of_ble_eq_true rfl) rfl dX3_pair_2 ⟨Nat.zero_le _, Nat.zero_le _⟩ (fun H locs hP hD hS => ?_)
  refine lv_bipush (v := (45 : Int32)) hx hb dX3_pair_5 (by decide) ?_
  refine lv_icmp_ne (tgt := 14) hx hb dX3_pair_7 (by decide) (fun c2 => ?_) (fun c2 => ?_)
  · have hf := z_ifF hf c2
    refine lv_bipush (v := (10 : Int32)) hx hb dX3_pair_14 (by decide) ?_
    refine lv_aload_n hx hb dX3_pair_16 rfl (lv_at hl 0 rfl) ?_
    refine lv_iload_n hx hb dX3_pair_17 rfl (lv_at hl 1 rfl) ?_
    obtain ⟨r3, h3, hf⟩ := z_bE hf
    refine z_cVi (As := [.int p1]) (rest := [.int (10 : Int32)]) (wf := (z_tx c a)) (g := g) (u0 := g) ⟨hx, hb, hml, hown, hts⟩ (kX3_digit l D c N a H.size g p1 r3 h3) (cwV 1 hts gX3_pair_X3_digit rfl rfl rfl (by decide +kernel) ⟨Nat.le_of_ble_eq_true rfl, Nat.le_of_ble_eq_true rfl⟩) hP hK hD hS hA (ci := 3) (q0 := 0) rfl rfl rfl rfl hl.1 (Nat.le_of_ble_eq_true rfl) rfl dX3_pair_18 ⟨Nat.zero_le _, Nat.zero_le _⟩ (fun H locs hP hD hS => ?_)
    refine lv_imul hx hb dX3_pair_21 ?_
    refine lv_aload_n hx hb dX3_pair_22 rfl (lv_at hl 0 rfl) ?_
    refine lv_iload_n hx hb dX3_pair_23 rfl (lv_at hl 1 rfl) ?_
    refine lv_iconst (v := (1 : Int32)) hx hb dX3_pair_24 (by decide) ?_
    refine lv_iadd hx hb dX3_pair_25 ?_
    obtain ⟨r4, h4, hf⟩ := z_bE hf
    refine z_cVi (As := [.int (p1 + (1 : Int32))]) (rest := [.int ((10 : Int32) * r3)]) (wf := (z_tx c a)) (g := g) (u0 := g) ⟨hx, hb, hml, hown, hts⟩ (kX3_digit l D c N a H.size g (p1 + (1 : Int32)) r4 h4) (cwV 1 hts gX3_pair_X3_digit rfl rfl rfl (by decide +kernel) ⟨Nat.le_of_ble_eq_true rfl, Nat.le_of_ble_eq_true rfl⟩) hP hK hD hS hA (ci := 3) (q0 := 0) rfl rfl rfl rfl hl.1 (Nat.le_of_ble_eq_true rfl) rfl dX3_pair_26 ⟨Nat.zero_le _, Nat.zero_le _⟩ (fun H locs hP hD hS => ?_)
    refine lv_iadd hx hb dX3_pair_29 ?_
    exact z_rp (wf := (z_tx c a)) hx hb hr hlocks hP hD hS hf dX3_pair_30
  · have hf := z_ifT hf c2
    refine lv_iconst (v := (-1 : Int32)) hx hb dX3_pair_10 (by decide) ?_
    refine lv_goto (tgt := 30) hx hb dX3_pair_11 (by decide) ?_
    exact z_rp (wf := (z_tx c a)) hx hb hr hlocks hP hD hS hf dX3_pair_30
