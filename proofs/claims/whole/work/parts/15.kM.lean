abbrev rmX5_thrown : Room := { frames := 0, cells := 0, slots := 0, locals := 0 }
theorem qX5_thrown_37 : Cond.fieldLink RX5 37 "ProgramDrumModel" "thrown" "I" ∈ wsX5_thrown := by decide +kernel
theorem iX5_thrown_X5 : ∀ w ∈ wsX50, w ∈ wsX5_thrown := by decide +kernel
set_option maxRecDepth 100000 in
set_option maxHeartbeats 4000000 in
theorem kX5_thrown (l : Launch) (D : va_G) (c : Nat → ClassId) (N : Nat) (a : Nat → Nat) (sz : Nat) (g : z_R) (r0 : Int32) (hf : fX5_thrown N g = some r0) : Met l yX5_thrown wsX5_thrown rmX5_thrown (z_Pc D c sz (z_md c a g) [.ref (a 0)]) (z_Qi D (z_md c a) r0 g (va_A (z_md c a g) sz)) 0 0 (va_A (z_md c a g) sz) := by
  refine z_ofM (cc := cX5_thrown) (maxL := 1) (ret := (some .int)) (Qf := fun A => z_Qi D (z_md c a) r0 g A) (plainFor_of_name (by decide)) rfl (Nat.le_of_ble_eq_true rfl) ?_
  intro p e s m args below meth co A ls hx hb hr hml hts hown hlocks hnm hA hP hK hD hl hsz
  have hl : lv_has ls 1 [(0, .ref (a 0))] := hl
  have hown : s.vm.findClass RX5 = some m.cls := hown
  obtain ⟨H, hH⟩ : ∃ H, H = s.heap := ⟨_, rfl⟩
  have hS : va_S A s.heap H [] := by rw [hH]; exact va_S.rf
  rw [← hH] at hP ⊢
  clear hH
  unfold fX5_thrown at hf
  generalize ([] : List Loc) = locs at hS ⊢
  refine lv_aload_n hx hb dX5_thrown_0 rfl (lv_at hl 0 rfl) ?_
  refine va_get (D := D) (ci := 5) (v := .int (g 0 0)) (C := RX5) (T := TX5) (N := 13) hx hb hts iX5_thrown_X5 hown hK.1 hP 0 rfl rfl 0 (by decide) (hts _ qX5_thrown_37) (fun _ h9 => h9) rfl dX5_thrown_1 ?_
  exact z_rp (wf := (z_md c a)) hx hb hr hlocks hP hD hS hf dX5_thrown_4
abbrev rmX5_append : Room := { frames := 1, cells := 0, slots := 0, locals := 22 }
theorem qX5_append_45 : Cond.fieldLink RX5 45 "ProgramDrumModel" "textLength" "I" ∈ wsX5_append := by decide +kernel
theorem iX5_append_X5 : ∀ w ∈ wsX50, w ∈ wsX5_append := by decide +kernel
theorem qX5_append_37 : Cond.fieldLink RX5 37 "ProgramDrumModel" "thrown" "I" ∈ wsX5_append := by decide +kernel
theorem qX5_append_31 : Cond.fieldLink RX5 31 "ProgramDrumModel" "text" "[I" ∈ wsX5_append := by decide +kernel
set_option maxRecDepth 100000 in
set_option maxHeartbeats 4000000 in
theorem kX5_append (l : Launch) (D : va_G) (c : Nat → ClassId) (N : Nat) (a : Nat → Nat) (sz : Nat) (g : z_R) (p1 : Int32) (r0 : Int32) (g0 : z_R) (hf : fX5_append N p1 g = some (r0, g0)) : Met l yX5_append wsX5_append rmX5_append (z_Pc D c sz (z_md c a g) [.ref (a 0), .int p1]) (z_Qi D (z_md c a) r0 g0 (va_A (z_md c a g) sz)) 0 0 (va_A (z_md c a g) sz) := by
  refine z_ofM (cc := cX5_append) (maxL := 2) (ret := (some .int)) (Qf := fun A => z_Qi D (z_md c a) r0 g0 A) (plainFor_of_name (by decide)) rfl (Nat.le_of_ble_eq_true rfl) ?_
  intro p e s m args below meth co A ls hx hb hr hml hts hown hlocks hnm hA hP hK hD hl hsz
  have hl : lv_has ls 2 [(0, .ref (a 0)), (1, .int p1)] := hl
  have hown : s.vm.findClass RX5 = some m.cls := hown
  obtain ⟨H, hH⟩ : ∃ H, H = s.heap := ⟨_, rfl⟩
  have hS : va_S A s.heap H [] := by rw [hH]; exact va_S.rf
  rw [← hH] at hP ⊢
  clear hH
  unfold fX5_append at hf
  generalize ([] : List Loc) = locs at hS ⊢
  refine lv_aload_n hx hb dX5_append_0 rfl (lv_at hl 0 rfl) ?_
  refine lv_iload_n hx hb dX5_append_1 rfl (lv_at hl 1 rfl) ?_
  refine lv_iconst (v := (0 : Int32)) hx hb dX5_append_2 (by decide) ?_
  refine lv_sipush (v := (255 : Int32)) hx hb dX5_append_3 (by decide) ?_
  obtain ⟨r1, h1, hf⟩ := z_bE hf
  refine z_cSi (As := [.int p1, .int (0 : Int32), .int (255 : Int32)]) (rest := [.ref (a 0)]) ⟨hx, hb, hml, hown, hts⟩ (kX5_within l D c N H.size p1 (0 : Int32) (255 : Int32) r1 h1) (va_cwS 3 hts gX5_append_X5_within rfl rfl rfl (by decide +kernel) ⟨Nat.le_of_ble_eq_true rfl, Nat.le_of_ble_eq_true rfl⟩) hP hK hS hA rfl hl.1 (Nat.le_of_ble_eq_true rfl) rfl dX5_append_6 ⟨Nat.zero_le _, Nat.zero_le _⟩ (fun H locs hP hS => ?_)
  refine lv_if_ne (tgt := 16) hx hb dX5_append_9 (by decide) (fun c2 => ?_) (fun c2 => ?_)
  · have hf := z_ifF hf c2
    refine lv_aload_n hx hb dX5_append_16 rfl (lv_at hl 0 rfl) ?_
    refine va_get (D := D) (ci := 5) (v := .int (g 0 2)) (C := RX5) (T := TX5) (N := 13) hx hb hts iX5_append_X5 hown hK.1 hP 0 rfl rfl 10 (by decide) (hts _ qX5_append_45) (fun _ h9 => h9) rfl dX5_append_17 ?_
    refine lv_sipush (v := (160 : Int32)) hx hb dX5_append_20 (by decide) ?_
    refine lv_icmp_ne (tgt := 30) hx hb dX5_append_23 (by decide) (fun c3 => ?_) (fun c3 => ?_)
    · have hf := z_ifF hf c3
      refine lv_iconst (v := (0 : Int32)) hx hb dX5_append_30 (by decide) ?_
      refine va_put (D := D) (ci := 5) (v := .int (0 : Int32)) (ty := .int) (C := RX5) (T := TX5) (N := 13) hx hb hts iX5_append_X5 tyX5 tyX5_ok nmX5 hown hK.1 hP hD hS 0 rfl rfl 0 (by decide) (hts _ qX5_append_37) (fun _ h9 => h9) rfl (by decide +kernel) rfl rfl (Nat.le_of_ble_eq_true rfl) dX5_append_31 (fun H locs hP hD hS => ?_)
      obtain ⟨g4, e4, hf⟩ := z_ltE hf
      have hP : va_P D vwCl (z_md c a g4) H := by rw [e4]; exact hP
      have hD : va_D A (z_md c a g4) := by rw [e4]; exact hD
      clear e4
      refine lv_aload_n hx hb dX5_append_34 rfl (lv_at hl 0 rfl) ?_
      refine va_get (D := D) (ci := 5) (v := .int (g4 0 0)) (C := RX5) (T := TX5) (N := 13) hx hb hts iX5_append_X5 hown hK.1 hP 0 rfl rfl 0 (by decide) (hts _ qX5_append_37) (fun _ h9 => h9) rfl dX5_append_35 ?_
      refine lv_if_le (tgt := 43) hx hb dX5_append_38 (by decide) (fun c5 => ?_) (fun c5 => ?_)
      · have hf := z_ifT hf c5
        refine lv_aload_n hx hb dX5_append_43 rfl (lv_at hl 0 rfl) ?_
        refine va_get (D := D) (ci := 5) (v := .ref (a 8)) (C := RX5) (T := TX5) (N := 13) hx hb hts iX5_append_X5 hown hK.1 hP 0 rfl rfl 9 (by decide) (hts _ qX5_append_31) (fun _ h9 => h9) rfl dX5_append_44 ?_
        refine lv_aload_n hx hb dX5_append_47 rfl (lv_at hl 0 rfl) ?_
        refine va_get (D := D) (ci := 5) (v := .int (g4 0 2)) (C := RX5) (T := TX5) (N := 13) hx hb hts iX5_append_X5 hown hK.1 hP 0 rfl rfl 10 (by decide) (hts _ qX5_append_45) (fun _ h9 => h9) rfl dX5_append_48 ?_
        refine lv_iload_n hx hb dX5_append_51 rfl (lv_at hl 1 rfl) ?_
        obtain ⟨b6, hf⟩ := z_ckE hf
        refine va_iast hx hb hK.1 hP hD hS 8 0 rfl rfl (z_inE b6) dX5_append_52 (fun H locs hP hD hS => ?_)
        obtain ⟨g7, e7, hf⟩ := z_ltE hf
        have hP : va_P D vwCl (z_md c a g7) H := by rw [e7]; exact hP
        have hD : va_D A (z_md c a g7) := by rw [e7]; exact hD
        clear e7
        refine lv_aload_n hx hb dX5_append_53 rfl (lv_at hl 0 rfl) ?_
        refine lv_dup hx hb dX5_append_54 rfl ?_
        refine va_get (D := D) (ci := 5) (v := .int (g7 0 2)) (C := RX5) (T := TX5) (N := 13) hx hb hts iX5_append_X5 hown hK.1 hP 0 rfl rfl 10 (by decide) (hts _ qX5_append_45) (fun _ h9 => h9) rfl dX5_append_55 ?_
        refine lv_iconst (v := (1 : Int32)) hx hb dX5_append_58 (by decide) ?_
        refine lv_iadd hx hb dX5_append_59 ?_
        refine va_put (D := D) (ci := 5) (v := .int ((g7 0 2) + (1 : Int32))) (ty := .int) (C := RX5) (T := TX5) (N := 13) hx hb hts iX5_append_X5 tyX5 tyX5_ok nmX5 hown hK.1 hP hD hS 0 rfl rfl 10 (by decide) (hts _ qX5_append_45) (fun _ h9 => h9) rfl (by decide +kernel) rfl rfl (Nat.le_of_ble_eq_true rfl) dX5_append_60 (fun H locs hP hD hS => ?_)
        obtain ⟨g8, e8, hf⟩ := z_ltE hf
        have hP : va_P D vwCl (z_md c a g8) H := by rw [e8]; exact hP
        have hD : va_D A (z_md c a g8) := by rw [e8]; exact hD
        clear e8
        refine lv_aload_n hx hb dX5_append_63 rfl (lv_at hl 0 rfl) ?_
        refine va_get (D := D) (ci := 5) (v := .int (g8 0 2)) (C := RX5) (T := TX5) (N := 13) hx hb hts iX5_append_X5 hown hK.1 hP 0 rfl rfl 10 (by decide) (hts _ qX5_append_45) (fun _ h9 => h9) rfl dX5_append_64 ?_
        exact z_ri (wf := (z_md c a)) hx hb hr hlocks hP hD hS hf dX5_append_67
      · have hf := z_ifF hf c5
        refine lv_iconst (v := (0 : Int32)) hx hb dX5_append_41 (by decide) ?_
        exact z_ri (wf := (z_md c a)) hx hb hr hlocks hP hD hS hf dX5_append_42
    · have hf := z_ifT hf c3
      refine lv_iconst (v := (2 : Int32)) hx hb dX5_append_26 (by decide) ?_
      refine lv_goto (tgt := 31) hx hb dX5_append_27 (by decide) ?_
      refine va_put (D := D) (ci := 5) (v := .int (2 : Int32)) (ty := .int) (C := RX5) (T := TX5) (N := 13) hx hb hts iX5_append_X5 tyX5 tyX5_ok nmX5 hown hK.1 hP hD hS 0 rfl rfl 0 (by decide) (hts _ qX5_append_37) (fun _ h9 => h9) rfl (by decide +kernel) rfl rfl (Nat.le_of_ble_eq_true rfl) dX5_append_31 (fun H locs hP hD hS => ?_)
      obtain ⟨g9, e9, hf⟩ := z_ltE hf
      have hP : va_P D vwCl (z_md c a g9) H := by rw [e9]; exact hP
      have hD : va_D A (z_md c a g9) := by rw [e9]; exact hD
      clear e9
      refine lv_aload_n hx hb dX5_append_34 rfl (lv_at hl 0 rfl) ?_
      refine va_get (D := D) (ci := 5) (v := .int (g9 0 0)) (C := RX5) (T := TX5) (N := 13) hx hb hts iX5_append_X5 hown hK.1 hP 0 rfl rfl 0 (by decide) (hts _ qX5_append_37) (fun _ h9 => h9) rfl dX5_append_35 ?_
      refine lv_if_le (tgt := 43) hx hb dX5_append_38 (by decide) (fun c10 => ?_) (fun c10 => ?_)
      · have hf := z_ifT hf c10
        refine lv_aload_n hx hb dX5_append_43 rfl (lv_at hl 0 rfl) ?_
        refine va_get (D := D) (ci := 5) (v := .ref (a 8)) (C := RX5) (T := TX5) (N := 13) hx hb hts iX5_append_X5 hown hK.1 hP 0 rfl rfl 9 (by decide) (hts _ qX5_append_31) (fun _ h9 => h9) rfl dX5_append_44 ?_
        refine lv_aload_n hx hb dX5_append_47 rfl (lv_at hl 0 rfl) ?_
        refine va_get (D := D) (ci := 5) (v := .int (g9 0 2)) (C := RX5) (T := TX5) (N := 13) hx hb hts iX5_append_X5 hown hK.1 hP 0 rfl rfl 10 (by decide) (hts _ qX5_append_45) (fun _ h9 => h9) rfl dX5_append_48 ?_
        refine lv_iload_n hx hb dX5_append_51 rfl (lv_at hl 1 rfl) ?_
        obtain ⟨b11, hf⟩ := z_ckE hf
        refine va_iast hx hb hK.1 hP hD hS 8 0 rfl rfl (z_inE b11) dX5_append_52 (fun H locs hP hD hS => ?_)
        obtain ⟨g12, e12, hf⟩ := z_ltE hf
        have hP : va_P D vwCl (z_md c a g12) H := by rw [e12]; exact hP
        have hD : va_D A (z_md c a g12) := by rw [e12]; exact hD
        clear e12
        refine lv_aload_n hx hb dX5_append_53 rfl (lv_at hl 0 rfl) ?_
        refine lv_dup hx hb dX5_append_54 rfl ?_
        refine va_get (D := D) (ci := 5) (v := .int (g12 0 2)) (C := RX5) (T := TX5) (N := 13) hx hb hts iX5_append_X5 hown hK.1 hP 0 rfl rfl 10 (by decide) (hts _ qX5_append_45) (fun _ h9 => h9) rfl dX5_append_55 ?_
        refine lv_iconst (v := (1 : Int32)) hx hb dX5_append_58 (by decide) ?_
        refine lv_iadd hx hb dX5_append_59 ?_
        refine va_put (D := D) (ci := 5) (v := .int ((g12 0 2) + (1 : Int32))) (ty := .int) (C := RX5) (T := TX5) (N := 13) hx hb hts iX5_append_X5 tyX5 tyX5_ok nmX5 hown hK.1 hP hD hS 0 rfl rfl 10 (by decide) (hts _ qX5_append_45) (fun _ h9 => h9) rfl (by decide +kernel) rfl rfl (Nat.le_of_ble_eq_true rfl) dX5_append_60 (fun H locs hP hD hS => ?_)
        obtain ⟨g13, e13, hf⟩ := z_ltE hf
        have hP : va_P D vwCl (z_md c a g13) H := by rw [e13]; exact hP
        have hD : va_D A (z_md c a g13) := by rw [e13]; exact hD
        clear e13
        refine lv_aload_n hx hb dX5_append_63 rfl (lv_at hl 0 rfl) ?_
        refine va_get (D := D) (ci := 5) (v := .int (g13 0 2)) (C := RX5) (T := TX5) (N := 13) hx hb hts iX5_append_X5 hown hK.1 hP 0 rfl rfl 10 (by decide) (hts _ qX5_append_45) (fun _ h9 => h9) rfl dX5_append_64 ?_
        exact z_ri (wf := (z_md c a)) hx hb hr hlocks hP hD hS hf dX5_append_67
      · have hf := z_ifF hf c10
        refine lv_iconst (v := (0 : Int32)) hx hb dX5_append_41 (by decide) ?_
        exact z_ri (wf := (z_md c a)) hx hb hr hlocks hP hD hS hf dX5_append_42
  · have hf := z_ifT hf c2
    refine lv_iconst (v := (1 : Int32)) hx hb dX5_append_12 (by decide) ?_
    refine lv_goto (tgt := 31) hx hb dX5_append_13 (by decide) ?_
    refine va_put (D := D) (ci := 5) (v := .int (1 : Int32)) (ty := .int) (C := RX5) (T := TX5) (N := 13) hx hb hts iX5_append_X5 tyX5 tyX5_ok nmX5 hown hK.1 hP hD hS 0 rfl rfl 0 (by decide) (hts _ qX5_append_37) (fun _ h9 => h9) rfl (by decide +kernel) rfl rfl (Nat.le_of_ble_eq_true rfl) dX5_append_31 (fun H locs hP hD hS => ?_)
    obtain ⟨g14, e14, hf⟩ := z_ltE hf
    have hP : va_P D vwCl (z_md c a g14) H := by rw [e14]; exact hP
    have hD : va_D A (z_md c a g14) := by rw [e14]; exact hD
    clear e14
    refine lv_aload_n hx hb dX5_append_34 rfl (lv_at hl 0 rfl) ?_
    refine va_get (D := D) (ci := 5) (v := .int (g14 0 0)) (C := RX5) (T := TX5) (N := 13) hx hb hts iX5_append_X5 hown hK.1 hP 0 rfl rfl 0 (by decide) (hts _ qX5_append_37) (fun _ h9 => h9) rfl dX5_append_35 ?_
    refine lv_if_le (tgt := 43) hx hb dX5_append_38 (by decide) (fun c15 => ?_) (fun c15 => ?_)
    · have hf := z_ifT hf c15
      refine lv_aload_n hx hb dX5_append_43 rfl (lv_at hl 0 rfl) ?_
      refine va_get (D := D) (ci := 5) (v := .ref (a 8)) (C := RX5) (T := TX5) (N := 13) hx hb hts iX5_append_X5 hown hK.1 hP 0 rfl rfl 9 (by decide) (hts _ qX5_append_31) (fun _ h9 => h9) rfl dX5_append_44 ?_
      refine lv_aload_n hx hb dX5_append_47 rfl (lv_at hl 0 rfl) ?_
      refine va_get (D := D) (ci := 5) (v := .int (g14 0 2)) (C := RX5) (T := TX5) (N := 13) hx hb hts iX5_append_X5 hown hK.1 hP 0 rfl rfl 10 (by decide) (hts _ qX5_append_45) (fun _ h9 => h9) rfl dX5_append_48 ?_
      refine lv_iload_n hx hb dX5_append_51 rfl (lv_at hl 1 rfl) ?_
      obtain ⟨b16, hf⟩ := z_ckE hf
      refine va_iast hx hb hK.1 hP hD hS 8 0 rfl rfl (z_inE b16) dX5_append_52 (fun H locs hP hD hS => ?_)
      obtain ⟨g17, e17, hf⟩ := z_ltE hf
      have hP : va_P D vwCl (z_md c a g17) H := by rw [e17]; exact hP
      have hD : va_D A (z_md c a g17) := by rw [e17]; exact hD
      clear e17
      refine lv_aload_n hx hb dX5_append_53 rfl (lv_at hl 0 rfl) ?_
      refine lv_dup hx hb dX5_append_54 rfl ?_
      refine va_get (D := D) (ci := 5) (v := .int (g17 0 2)) (C := RX5) (T := TX5) (N := 13) hx hb hts iX5_append_X5 hown hK.1 hP 0 rfl rfl 10 (by decide) (hts _ qX5_append_45) (fun _ h9 => h9) rfl dX5_append_55 ?_
      refine lv_iconst (v := (1 : Int32)) hx hb dX5_append_58 (by decide) ?_
      refine lv_iadd hx hb dX5_append_59 ?_
      refine va_put (D := D) (ci := 5) (v := .int ((g17 0 2) + (1 : Int32))) (ty := .int) (C := RX5) (T := TX5) (N := 13) hx hb hts iX5_append_X5 tyX5 tyX5_ok nmX5 hown hK.1 hP hD hS 0 rfl rfl 10 (by decide) (hts _ qX5_append_45) (fun _ h9 => h9) rfl (by decide +kernel) rfl rfl (Nat.le_of_ble_eq_true rfl) dX5_append_60 (fun H locs hP hD hS => ?_)
      obtain ⟨g18, e18, hf⟩ := z_ltE hf
      have hP : va_P D vwCl (z_md c a g18) H := by rw [e18]; exact hP
      have hD : va_D A (z_md c a g18) := by rw [e18]; exact hD
      clear e18
      refine lv_aload_n hx hb dX5_append_63 rfl (lv_at hl 0 rfl) ?_
      refine va_get (D := D) (ci := 5) (v := .int (g18 0 2)) (C := RX5) (T := TX5) (N := 13) hx hb hts iX5_append_X5 hown hK.1 hP 0 rfl rfl 10 (by decide) (hts _ qX5_append_45) (fun _ h9 => h9) rfl dX5_append_64 ?_
      exact z_ri (wf := (z_md c a)) hx hb hr hlocks hP hD hS hf dX5_append_67
    · have hf := z_ifF hf c15
      refine lv_iconst (v := (0 : Int32)) hx hb dX5_append_41 (by decide) ?_
      exact z_ri (wf := (z_md c a)) hx hb hr hlocks hP hD hS hf dX5_append_42
abbrev rmX5_clearText : Room := { frames := 0, cells := 0, slots := 0, locals := 0 }
theorem qX5_clearText_37 : Cond.fieldLink RX5 37 "ProgramDrumModel" "thrown" "I" ∈ wsX5_clearText := by decide +kernel
theorem iX5_clearText_X5 : ∀ w ∈ wsX50, w ∈ wsX5_clearText := by decide +kernel
theorem qX5_clearText_45 : Cond.fieldLink RX5 45 "ProgramDrumModel" "textLength" "I" ∈ wsX5_clearText := by decide +kernel
set_option maxRecDepth 100000 in
set_option maxHeartbeats 4000000 in
theorem kX5_clearText (l : Launch) (D : va_G) (c : Nat → ClassId) (N : Nat) (a : Nat → Nat) (sz : Nat) (g : z_R) (r0 : Int32) (g0 : z_R) (hf : fX5_clearText N g = some (r0, g0)) : Met l yX5_clearText wsX5_clearText rmX5_clearText (z_Pc D c sz (z_md c a g) [.ref (a 0)]) (z_Qi D (z_md c a) r0 g0 (va_A (z_md c a g) sz)) 0 0 (va_A (z_md c a g) sz) := by
  refine z_ofM (cc := cX5_clearText) (maxL := 2) (ret := (some .int)) (Qf := fun A => z_Qi D (z_md c a) r0 g0 A) (plainFor_of_name (by decide)) rfl (Nat.le_of_ble_eq_true rfl) ?_
  intro p e s m args below meth co A ls hx hb hr hml hts hown hlocks hnm hA hP hK hD hl hsz
  have hl : lv_has ls 2 [(0, .ref (a 0))] := hl
  have hown : s.vm.findClass RX5 = some m.cls := hown
  obtain ⟨H, hH⟩ : ∃ H, H = s.heap := ⟨_, rfl⟩
  have hS : va_S A s.heap H [] := by rw [hH]; exact va_S.rf
  rw [← hH] at hP ⊢
  clear hH
  unfold fX5_clearText at hf
  generalize ([] : List Loc) = locs at hS ⊢
  refine lv_aload_n hx hb dX5_clearText_0 rfl (lv_at hl 0 rfl) ?_
  refine lv_iconst (v := (0 : Int32)) hx hb dX5_clearText_1 (by decide) ?_
  refine va_put (D := D) (ci := 5) (v := .int (0 : Int32)) (ty := .int) (C := RX5) (T := TX5) (N := 13) hx hb hts iX5_clearText_X5 tyX5 tyX5_ok nmX5 hown hK.1 hP hD hS 0 rfl rfl 0 (by decide) (hts _ qX5_clearText_37) (fun _ h9 => h9) rfl (by decide +kernel) rfl rfl (Nat.le_of_ble_eq_true rfl) dX5_clearText_2 (fun H locs hP hD hS => ?_)
  obtain ⟨g1, e1, hf⟩ := z_ltE hf
  have hP : va_P D vwCl (z_md c a g1) H := by rw [e1]; exact hP
  have hD : va_D A (z_md c a g1) := by rw [e1]; exact hD
  clear e1
  refine lv_aload_n hx hb dX5_clearText_5 rfl (lv_at hl 0 rfl) ?_
  refine va_get (D := D) (ci := 5) (v := .int (g1 0 2)) (C := RX5) (T := TX5) (N := 13) hx hb hts iX5_clearText_X5 hown hK.1 hP 0 rfl rfl 10 (by decide) (hts _ qX5_clearText_45) (fun _ h9 => h9) rfl dX5_clearText_6 ?_
  refine lv_istore_n (lv' := [(1, .int (g1 0 2)), (0, .ref (a 0))]) hx hb dX5_clearText_9 rfl hl (by decide) rfl (fun ls hl => ?_)
  refine lv_aload_n hx hb dX5_clearText_10 rfl (lv_at hl 1 rfl) ?_
  refine lv_iconst (v := (0 : Int32)) hx hb dX5_clearText_11 (by decide) ?_
  refine va_put (D := D) (ci := 5) (v := .int (0 : Int32)) (ty := .int) (C := RX5) (T := TX5) (N := 13) hx hb hts iX5_clearText_X5 tyX5 tyX5_ok nmX5 hown hK.1 hP hD hS 0 rfl rfl 10 (by decide) (hts _ qX5_clearText_45) (fun _ h9 => h9) rfl (by decide +kernel) rfl rfl (Nat.le_of_ble_eq_true rfl) dX5_clearText_12 (fun H locs hP hD hS => ?_)
  obtain ⟨g2, e2, hf⟩ := z_ltE hf
  have hP : va_P D vwCl (z_md c a g2) H := by rw [e2]; exact hP
  have hD : va_D A (z_md c a g2) := by rw [e2]; exact hD
  clear e2
  refine lv_iload_n hx hb dX5_clearText_15 rfl (lv_at hl 0 rfl) ?_
  exact z_ri (wf := (z_md c a)) hx hb hr hlocks hP hD hS hf dX5_clearText_16
abbrev rmX5_digit : Room := { frames := 1, cells := 0, slots := 0, locals := 22 }
theorem qX5_digit_45 : Cond.fieldLink RX5 45 "ProgramDrumModel" "textLength" "I" ∈ wsX5_digit := by decide +kernel
theorem iX5_digit_X5 : ∀ w ∈ wsX50, w ∈ wsX5_digit := by decide +kernel
theorem qX5_digit_31 : Cond.fieldLink RX5 31 "ProgramDrumModel" "text" "[I" ∈ wsX5_digit := by decide +kernel
set_option maxRecDepth 100000 in
set_option maxHeartbeats 4000000 in
theorem kX5_digit (l : Launch) (D : va_G) (c : Nat → ClassId) (N : Nat) (a : Nat → Nat) (sz : Nat) (g : z_R) (p1 : Int32) (r0 : Int32) (hf : fX5_digit N p1 g = some r0) : Met l yX5_digit wsX5_digit rmX5_digit (z_Pc D c sz (z_md c a g) [.ref (a 0), .int p1]) (z_Qi D (z_md c a) r0 g (va_A (z_md c a g) sz)) 0 0 (va_A (z_md c a g) sz) := by
  refine z_ofM (cc := cX5_digit) (maxL := 2) (ret := (some .int)) (Qf := fun A => z_Qi D (z_md c a) r0 g A) (plainFor_of_name (by decide)) rfl (Nat.le_of_ble_eq_true rfl) ?_
  intro p e s m args below meth co A ls hx hb hr hml hts hown hlocks hnm hA hP hK hD hl hsz
  have hl : lv_has ls 2 [(0, .ref (a 0)), (1, .int p1)] := hl
  have hown : s.vm.findClass RX5 = some m.cls := hown
  obtain ⟨H, hH⟩ : ∃ H, H = s.heap := ⟨_, rfl⟩
  have hS : va_S A s.heap H [] := by rw [hH]; exact va_S.rf
  rw [← hH] at hP ⊢
  clear hH
  unfold fX5_digit at hf
  generalize ([] : List Loc) = locs at hS ⊢
  refine lv_iload_n hx hb dX5_digit_0 rfl (lv_at hl 1 rfl) ?_
  refine lv_aload_n hx hb dX5_digit_1 rfl (lv_at hl 0 rfl) ?_
  refine va_get (D := D) (ci := 5) (v := .int (g 0 2)) (C := RX5) (T := TX5) (N := 13) hx hb hts iX5_digit_X5 hown hK.1 hP 0 rfl rfl 10 (by decide) (hts _ qX5_digit_45) (fun _ h9 => h9) rfl dX5_digit_2 ?_
  refine lv_icmp_ge (tgt := 36) hx hb dX5_digit_5 (by decide) (fun c1 => ?_) (fun c1 => ?_)
  · have hf := z_ifT hf c1
    refine lv_iconst (v := (-1 : Int32)) hx hb dX5_digit_36 (by decide) ?_
    exact z_rp (wf := (z_md c a)) hx hb hr hlocks hP hD hS hf dX5_digit_37
  · have hf := z_ifF hf c1
    refine lv_aload_n hx hb dX5_digit_8 rfl (lv_at hl 0 rfl) ?_
    refine va_get (D := D) (ci := 5) (v := .ref (a 8)) (C := RX5) (T := TX5) (N := 13) hx hb hts iX5_digit_X5 hown hK.1 hP 0 rfl rfl 9 (by decide) (hts _ qX5_digit_31) (fun _ h9 => h9) rfl dX5_digit_9 ?_
    refine lv_iload_n hx hb dX5_digit_12 rfl (lv_at hl 1 rfl) ?_
    obtain ⟨b2, hf⟩ := z_ckE hf
    refine va_iald hx hb hK.1 hP 8 0 rfl rfl (z_inE b2) dX5_digit_13 ?_
    refine lv_bipush (v := (48 : Int32)) hx hb dX5_digit_14 (by decide) ?_
    refine lv_bipush (v := (57 : Int32)) hx hb dX5_digit_16 (by decide) ?_
    obtain ⟨r3, h3, hf⟩ := z_bE hf
    refine z_cSi (As := [.int (g 8 (p1).toNatClampNeg), .int (48 : Int32), .int (57 : Int32)]) (rest := []) ⟨hx, hb, hml, hown, hts⟩ (kX5_within l D c N H.size (g 8 (p1).toNatClampNeg) (48 : Int32) (57 : Int32) r3 h3) (va_cwS 3 hts gX5_digit_X5_within rfl rfl rfl (by decide +kernel) ⟨Nat.le_of_ble_eq_true rfl, Nat.le_of_ble_eq_true rfl⟩) hP hK hS hA rfl hl.1 (Nat.le_of_ble_eq_true rfl) rfl dX5_digit_18 ⟨Nat.zero_le _, Nat.zero_le _⟩ (fun H locs hP hS => ?_)
    refine lv_if_eq (tgt := 36) hx hb dX5_digit_21 (by decide) (fun c4 => ?_) (fun c4 => ?_)
    · have hf := z_ifT hf c4
      refine lv_iconst (v := (-1 : Int32)) hx hb dX5_digit_36 (by decide) ?_
      exact z_rp (wf := (z_md c a)) hx hb hr hlocks hP hD hS hf dX5_digit_37
    · have hf := z_ifF hf c4
      refine lv_aload_n hx hb dX5_digit_24 rfl (lv_at hl 0 rfl) ?_
      refine va_get (D := D) (ci := 5) (v := .ref (a 8)) (C := RX5) (T := TX5) (N := 13) hx hb hts iX5_digit_X5 hown hK.1 hP 0 rfl rfl 9 (by decide) (hts _ qX5_digit_31) (fun _ h9 => h9) rfl dX5_digit_25 ?_
      refine lv_iload_n hx hb dX5_digit_28 rfl (lv_at hl 1 rfl) ?_
      obtain ⟨b5, hf⟩ := z_ckE hf
      refine va_iald hx hb hK.1 hP 8 0 rfl rfl (z_inE b5) dX5_digit_29 ?_
      refine lv_bipush (v := (48 : Int32)) hx hb dX5_digit_30 (by decide) ?_
      refine lv_isub hx hb dX5_digit_32 ?_
      refine lv_goto (tgt := 37) hx hb dX5_digit_33 (by decide) ?_
      exact z_rp (wf := (z_md c a)) hx hb hr hlocks hP hD hS hf dX5_digit_37
abbrev rmX5_isMinus : Room := { frames := 0, cells := 0, slots := 0, locals := 0 }
theorem qX5_isMinus_45 : Cond.fieldLink RX5 45 "ProgramDrumModel" "textLength" "I" ∈ wsX5_isMinus := by decide +kernel
theorem iX5_isMinus_X5 : ∀ w ∈ wsX50, w ∈ wsX5_isMinus := by decide +kernel
theorem qX5_isMinus_31 : Cond.fieldLink RX5 31 "ProgramDrumModel" "text" "[I" ∈ wsX5_isMinus := by decide +kernel
set_option maxRecDepth 100000 in
set_option maxHeartbeats 4000000 in
theorem kX5_isMinus (l : Launch) (D : va_G) (c : Nat → ClassId) (N : Nat) (a : Nat → Nat) (sz : Nat) (g : z_R) (p1 : Int32) (r0 : Int32) (hf : fX5_isMinus N p1 g = some r0) : Met l yX5_isMinus wsX5_isMinus rmX5_isMinus (z_Pc D c sz (z_md c a g) [.ref (a 0), .int p1]) (z_Qi D (z_md c a) r0 g (va_A (z_md c a g) sz)) 0 0 (va_A (z_md c a g) sz) := by
  refine z_ofM (cc := cX5_isMinus) (maxL := 2) (ret := (some .boolean)) (Qf := fun A => z_Qi D (z_md c a) r0 g A) (plainFor_of_name (by decide)) rfl (Nat.le_of_ble_eq_true rfl) ?_
  intro p e s m args below meth co A ls hx hb hr hml hts hown hlocks hnm hA hP hK hD hl hsz
  have hl : lv_has ls 2 [(0, .ref (a 0)), (1, .int p1)] := hl
  have hown : s.vm.findClass RX5 = some m.cls := hown
  obtain ⟨H, hH⟩ : ∃ H, H = s.heap := ⟨_, rfl⟩
  have hS : va_S A s.heap H [] := by rw [hH]; exact va_S.rf
  rw [← hH] at hP ⊢
  clear hH
  unfold fX5_isMinus at hf
  generalize ([] : List Loc) = locs at hS ⊢
  refine lv_iload_n hx hb dX5_isMinus_0 rfl (lv_at hl 1 rfl) ?_
  refine lv_aload_n hx hb dX5_isMinus_1 rfl (lv_at hl 0 rfl) ?_
  refine va_get (D := D) (ci := 5) (v := .int (g 0 2)) (C := RX5) (T := TX5) (N := 13) hx hb hts iX5_isMinus_X5 hown hK.1 hP 0 rfl rfl 10 (by decide) (hts _ qX5_isMinus_45) (fun _ h9 => h9) rfl dX5_isMinus_2 ?_
  refine lv_icmp_ge (tgt := 23) hx hb dX5_isMinus_5 (by decide) (fun c1 => ?_) (fun c1 => ?_)
  · have hf := z_ifT hf c1
    refine lv_iconst (v := (0 : Int32)) hx hb dX5_isMinus_23 (by decide) ?_
    exact z_zp (wf := (z_md c a)) hx hb hr rfl hlocks hP hD hS hf dX5_isMinus_24
  · have hf := z_ifF hf c1
    refine lv_aload_n hx hb dX5_isMinus_8 rfl (lv_at hl 0 rfl) ?_
    refine va_get (D := D) (ci := 5) (v := .ref (a 8)) (C := RX5) (T := TX5) (N := 13) hx hb hts iX5_isMinus_X5 hown hK.1 hP 0 rfl rfl 9 (by decide) (hts _ qX5_isMinus_31) (fun _ h9 => h9) rfl dX5_isMinus_9 ?_
    refine lv_iload_n hx hb dX5_isMinus_12 rfl (lv_at hl 1 rfl) ?_
    obtain ⟨b2, hf⟩ := z_ckE hf
    refine va_iald hx hb hK.1 hP 8 0 rfl rfl (z_inE b2) dX5_isMinus_13 ?_
    refine lv_bipush (v := (45 : Int32)) hx hb dX5_isMinus_14 (by decide) ?_
    refine lv_icmp_ne (tgt := 23) hx hb dX5_isMinus_16 (by decide) (fun c3 => ?_) (fun c3 => ?_)
    · have hf := z_ifF hf c3
      refine lv_iconst (v := (0 : Int32)) hx hb dX5_isMinus_23 (by decide) ?_
      exact z_zp (wf := (z_md c a)) hx hb hr rfl hlocks hP hD hS hf dX5_isMinus_24
    · have hf := z_ifT hf c3
      refine lv_iconst (v := (1 : Int32)) hx hb dX5_isMinus_19 (by decide) ?_
      refine lv_goto (tgt := 24) hx hb dX5_isMinus_20 (by decide) ?_
      exact z_zp (wf := (z_md c a)) hx hb hr rfl hlocks hP hD hS hf dX5_isMinus_24
abbrev rmX5_behindLink : Room := { frames := 2, cells := 0, slots := 0, locals := 43 }
set_option maxRecDepth 100000 in
set_option maxHeartbeats 4000000 in
theorem kX5_behindLink (l : Launch) (D : va_G) (c : Nat → ClassId) (N : Nat) (a : Nat → Nat) (sz : Nat) (g : z_R) (p1 : Int32) (r0 : Int32) (hf : fX5_behindLink N p1 g = some r0) : Met l yX5_behindLink wsX5_behindLink rmX5_behindLink (z_Pc D c sz (z_md c a g) [.ref (a 0), .int p1]) (z_Qi D (z_md c a) r0 g (va_A (z_md c a g) sz)) 0 0 (va_A (z_md c a g) sz) := by
  refine z_ofM (cc := cX5_behindLink) (maxL := 4) (ret := (some .int)) (Qf := fun A => z_Qi D (z_md c a) r0 g A) (plainFor_of_name (by decide)) rfl (Nat.le_of_ble_eq_true rfl) ?_
  intro p e s m args below meth co A ls hx hb hr hml hts hown hlocks hnm hA hP hK hD hl hsz
  have hl : lv_has ls 4 [(0, .ref (a 0)), (1, .int p1)] := hl
  have hown : s.vm.findClass RX5 = some m.cls := hown
  obtain ⟨H, hH⟩ : ∃ H, H = s.heap := ⟨_, rfl⟩
  have hS : va_S A s.heap H [] := by rw [hH]; exact va_S.rf
  rw [← hH] at hP ⊢
  clear hH
  unfold fX5_behindLink at hf
  generalize ([] : List Loc) = locs at hS ⊢
  refine lv_aload_n hx hb dX5_behindLink_0 rfl (lv_at hl 0 rfl) ?_
  refine lv_iload_n hx hb dX5_behindLink_1 rfl (lv_at hl 1 rfl) ?_
  obtain ⟨r1, h1, hf⟩ := z_bE hf
  refine z_cVi (As := [.int p1]) (rest := []) (wf := (z_md c a)) (g := g) (u0 := g) ⟨hx, hb, hml, hown, hts⟩ (kX5_digit l D c N a H.size g p1 r1 h1) (cwV 1 hts gX5_behindLink_X5_digit rfl rfl rfl (by decide +kernel) ⟨Nat.le_of_ble_eq_true rfl, Nat.le_of_ble_eq_true rfl⟩) hP hK hD hS hA (ci := 5) (q0 := 0) rfl rfl rfl rfl hl.1 (Nat.le_of_ble_eq_true rfl) rfl dX5_behindLink_2 ⟨Nat.zero_le _, Nat.zero_le _⟩ (fun H locs hP hD hS => ?_)
  refine lv_istore_n (lv' := [(2, .int r1), (0, .ref (a 0)), (1, .int p1)]) hx hb dX5_behindLink_5 rfl hl (by decide) rfl (fun ls hl => ?_)
  refine lv_aload_n hx hb dX5_behindLink_6 rfl (lv_at hl 1 rfl) ?_
  refine lv_iload_n hx hb dX5_behindLink_7 rfl (lv_at hl 2 rfl) ?_
  obtain ⟨r2, h2, hf⟩ := z_bE hf
  refine z_cVi (As := [.int p1]) (rest := []) (wf := (z_md c a)) (g := g) (u0 := g) ⟨hx, hb, hml, hown, hts⟩ (kX5_isMinus l D c N a H.size g p1 r2 h2) (cwV 1 hts gX5_behindLink_X5_isMinus rfl rfl rfl (by decide +kernel) ⟨Nat.le_of_ble_eq_true rfl, Nat.le_of_ble_eq_true rfl⟩) hP hK hD hS hA (ci := 5) (q0 := 0) rfl rfl rfl rfl hl.1 (Nat.le_of_ble_eq_true rfl) rfl dX5_behindLink_8 ⟨Nat.zero_le _, Nat.zero_le _⟩ (fun H locs hP hD hS => ?_)
  refine lv_if_ne (tgt := 25) hx hb dX5_behindLink_11 (by decide) (fun c3 => ?_) (fun c3 => ?_)
  · have hf := z_ifF hf c3
    refine lv_iload_n hx hb dX5_behindLink_25 rfl (lv_at hl 0 rfl) ?_
    refine lv_if_ge (tgt := 39) hx hb dX5_behindLink_26 (by decide) (fun c4 => ?_) (fun c4 => ?_)
    · have hf := z_ifT hf c4
      refine lv_aload_n hx hb dX5_behindLink_39 rfl (lv_at hl 1 rfl) ?_
      refine lv_iload_n hx hb dX5_behindLink_40 rfl (lv_at hl 2 rfl) ?_
      refine lv_iconst (v := (1 : Int32)) hx hb dX5_behindLink_41 (by decide) ?_
      refine lv_iadd hx hb dX5_behindLink_42 ?_
      obtain ⟨r5, h5, hf⟩ := z_bE hf
      refine z_cVi (As := [.int (p1 + (1 : Int32))]) (rest := []) (wf := (z_md c a)) (g := g) (u0 := g) ⟨hx, hb, hml, hown, hts⟩ (kX5_digit l D c N a H.size g (p1 + (1 : Int32)) r5 h5) (cwV 1 hts gX5_behindLink_X5_digit rfl rfl rfl (by decide +kernel) ⟨Nat.le_of_ble_eq_true rfl, Nat.le_of_ble_eq_true rfl⟩) hP hK hD hS hA (ci := 5) (q0 := 0) rfl rfl rfl rfl hl.1 (Nat.le_of_ble_eq_true rfl) rfl dX5_behindLink_43 ⟨Nat.zero_le _, Nat.zero_le _⟩ (fun H locs hP hD hS => ?_)
      refine lv_iconst (v := (0 : Int32)) hx hb dX5_behindLink_46 (by decide) ?_
      refine lv_iload_n hx hb dX5_behindLink_47 rfl (lv_at hl 0 rfl) ?_
      refine lv_if_ne (tgt := 56) hx hb dX5_behindLink_48 (by decide) (fun c6 => ?_) (fun c6 => ?_)
      · have hf := z_ifF hf c6
        refine lv_iconst (v := (5 : Int32)) hx hb dX5_behindLink_56 (by decide) ?_
        obtain ⟨r7, h7, hf⟩ := z_bE hf
        refine z_cSi (As := [.int r5, .int (0 : Int32), .int (5 : Int32)]) (rest := []) ⟨hx, hb, hml, hown, hts⟩ (kX5_within l D c N H.size r5 (0 : Int32) (5 : Int32) r7 h7) (va_cwS 3 hts gX5_behindLink_X5_within rfl rfl rfl (by decide +kernel) ⟨Nat.le_of_ble_eq_true rfl, Nat.le_of_ble_eq_true rfl⟩) hP hK hS hA rfl hl.1 (Nat.le_of_ble_eq_true rfl) rfl dX5_behindLink_57 ⟨Nat.zero_le _, Nat.zero_le _⟩ (fun H locs hP hS => ?_)
        refine lv_istore_n (lv' := [(3, .int r7), (2, .int r1), (0, .ref (a 0)), (1, .int p1)]) hx hb dX5_behindLink_60 rfl hl (by decide) rfl (fun ls hl => ?_)
        refine lv_iload_n hx hb dX5_behindLink_61 rfl (lv_at hl 0 rfl) ?_
        refine lv_if_eq (tgt := 71) hx hb dX5_behindLink_62 (by decide) (fun c8 => ?_) (fun c8 => ?_)
        · have hf := z_ifT hf c8
          refine lv_iload_n hx hb dX5_behindLink_71 rfl (lv_at hl 3 rfl) ?_
          refine lv_iconst (v := (1 : Int32)) hx hb dX5_behindLink_72 (by decide) ?_
          refine lv_iadd hx hb dX5_behindLink_73 ?_
          exact z_rp (wf := (z_md c a)) hx hb hr hlocks hP hD hS hf dX5_behindLink_74
        · have hf := z_ifF hf c8
          refine lv_iload_n hx hb dX5_behindLink_65 rfl (lv_at hl 3 rfl) ?_
          refine lv_iconst (v := (2 : Int32)) hx hb dX5_behindLink_66 (by decide) ?_
          refine lv_iadd hx hb dX5_behindLink_67 ?_
          refine lv_goto (tgt := 74) hx hb dX5_behindLink_68 (by decide) ?_
          exact z_rp (wf := (z_md c a)) hx hb hr hlocks hP hD hS hf dX5_behindLink_74
      · have hf := z_ifT hf c6
        refine lv_bipush (v := (9 : Int32)) hx hb dX5_behindLink_51 (by decide) ?_
        refine lv_goto (tgt := 57) hx hb dX5_behindLink_53 (by decide) ?_
        obtain ⟨r9, h9, hf⟩ := z_bE hf
        refine z_cSi (As := [.int r5, .int (0 : Int32), .int (9 : Int32)]) (rest := []) ⟨hx, hb, hml, hown, hts⟩ (kX5_within l D c N H.size r5 (0 : Int32) (9 : Int32) r9 h9) (va_cwS 3 hts gX5_behindLink_X5_within rfl rfl rfl (by decide +kernel) ⟨Nat.le_of_ble_eq_true rfl, Nat.le_of_ble_eq_true rfl⟩) hP hK hS hA rfl hl.1 (Nat.le_of_ble_eq_true rfl) rfl dX5_behindLink_57 ⟨Nat.zero_le _, Nat.zero_le _⟩ (fun H locs hP hS => ?_)
        refine lv_istore_n (lv' := [(3, .int r9), (2, .int r1), (0, .ref (a 0)), (1, .int p1)]) hx hb dX5_behindLink_60 rfl hl (by decide) rfl (fun ls hl => ?_)
        refine lv_iload_n hx hb dX5_behindLink_61 rfl (lv_at hl 0 rfl) ?_
        refine lv_if_eq (tgt := 71) hx hb dX5_behindLink_62 (by decide) (fun c10 => ?_) (fun c10 => ?_)
        · have hf := z_ifT hf c10
          refine lv_iload_n hx hb dX5_behindLink_71 rfl (lv_at hl 3 rfl) ?_
          refine lv_iconst (v := (1 : Int32)) hx hb dX5_behindLink_72 (by decide) ?_
          refine lv_iadd hx hb dX5_behindLink_73 ?_
          exact z_rp (wf := (z_md c a)) hx hb hr hlocks hP hD hS hf dX5_behindLink_74
        · have hf := z_ifF hf c10
          refine lv_iload_n hx hb dX5_behindLink_65 rfl (lv_at hl 3 rfl) ?_
          refine lv_iconst (v := (2 : Int32)) hx hb dX5_behindLink_66 (by decide) ?_
          refine lv_iadd hx hb dX5_behindLink_67 ?_
          refine lv_goto (tgt := 74) hx hb dX5_behindLink_68 (by decide) ?_
          exact z_rp (wf := (z_md c a)) hx hb hr hlocks hP hD hS hf dX5_behindLink_74
    · have hf := z_ifF hf c4
      refine lv_aload_n hx hb dX5_behindLink_29 rfl (lv_at hl 1 rfl) ?_
      refine lv_iload_n hx hb dX5_behindLink_30 rfl (lv_at hl 2 rfl) ?_
      refine lv_iconst (v := (1 : Int32)) hx hb dX5_behindLink_31 (by decide) ?_
      refine lv_iadd hx hb dX5_behindLink_32 ?_
      obtain ⟨r11, h11, hf⟩ := z_bE hf
      refine z_cVi (As := [.int (p1 + (1 : Int32))]) (rest := []) (wf := (z_md c a)) (g := g) (u0 := g) ⟨hx, hb, hml, hown, hts⟩ (kX5_isMinus l D c N a H.size g (p1 + (1 : Int32)) r11 h11) (cwV 1 hts gX5_behindLink_X5_isMinus rfl rfl rfl (by decide +kernel) ⟨Nat.le_of_ble_eq_true rfl, Nat.le_of_ble_eq_true rfl⟩) hP hK hD hS hA (ci := 5) (q0 := 0) rfl rfl rfl rfl hl.1 (Nat.le_of_ble_eq_true rfl) rfl dX5_behindLink_33 ⟨Nat.zero_le _, Nat.zero_le _⟩ (fun H locs hP hD hS => ?_)
      refine lv_goto (tgt := 60) hx hb dX5_behindLink_36 (by decide) ?_
      refine lv_istore_n (lv' := [(3, .int r11), (2, .int r1), (0, .ref (a 0)), (1, .int p1)]) hx hb dX5_behindLink_60 rfl hl (by decide) rfl (fun ls hl => ?_)
      refine lv_iload_n hx hb dX5_behindLink_61 rfl (lv_at hl 0 rfl) ?_
      refine lv_if_eq (tgt := 71) hx hb dX5_behindLink_62 (by decide) (fun c12 => ?_) (fun c12 => ?_)
      · have hf := z_ifT hf c12
        refine lv_iload_n hx hb dX5_behindLink_71 rfl (lv_at hl 3 rfl) ?_
        refine lv_iconst (v := (1 : Int32)) hx hb dX5_behindLink_72 (by decide) ?_
        refine lv_iadd hx hb dX5_behindLink_73 ?_
        exact z_rp (wf := (z_md c a)) hx hb hr hlocks hP hD hS hf dX5_behindLink_74
      · have hf := z_ifF hf c12
        refine lv_iload_n hx hb dX5_behindLink_65 rfl (lv_at hl 3 rfl) ?_
        refine lv_iconst (v := (2 : Int32)) hx hb dX5_behindLink_66 (by decide) ?_
        refine lv_iadd hx hb dX5_behindLink_67 ?_
        refine lv_goto (tgt := 74) hx hb dX5_behindLink_68 (by decide) ?_
        exact z_rp (wf := (z_md c a)) hx hb hr hlocks hP hD hS hf dX5_behindLink_74
  · have hf := z_ifT hf c3
    refine lv_iload_n hx hb dX5_behindLink_14 rfl (lv_at hl 0 rfl) ?_
    refine lv_iconst (v := (0 : Int32)) hx hb dX5_behindLink_15 (by decide) ?_
    refine lv_iconst (v := (1 : Int32)) hx hb dX5_behindLink_16 (by decide) ?_
    obtain ⟨r13, h13, hf⟩ := z_bE hf
    refine z_cSi (As := [.int r1, .int (0 : Int32), .int (1 : Int32)]) (rest := []) ⟨hx, hb, hml, hown, hts⟩ (kX5_within l D c N H.size r1 (0 : Int32) (1 : Int32) r13 h13) (va_cwS 3 hts gX5_behindLink_X5_within rfl rfl rfl (by decide +kernel) ⟨Nat.le_of_ble_eq_true rfl, Nat.le_of_ble_eq_true rfl⟩) hP hK hS hA rfl hl.1 (Nat.le_of_ble_eq_true rfl) rfl dX5_behindLink_17 ⟨Nat.zero_le _, Nat.zero_le _⟩ (fun H locs hP hS => ?_)
    refine lv_if_ne (tgt := 25) hx hb dX5_behindLink_20 (by decide) (fun c14 => ?_) (fun c14 => ?_)
    · have hf := z_ifF hf c14
      refine lv_iload_n hx hb dX5_behindLink_25 rfl (lv_at hl 0 rfl) ?_
      refine lv_if_ge (tgt := 39) hx hb dX5_behindLink_26 (by decide) (fun c15 => ?_) (fun c15 => ?_)
      · have hf := z_ifT hf c15
        refine lv_aload_n hx hb dX5_behindLink_39 rfl (lv_at hl 1 rfl) ?_
        refine lv_iload_n hx hb dX5_behindLink_40 rfl (lv_at hl 2 rfl) ?_
        refine lv_iconst (v := (1 : Int32)) hx hb dX5_behindLink_41 (by decide) ?_
        refine lv_iadd hx hb dX5_behindLink_42 ?_
        obtain ⟨r16, h16, hf⟩ := z_bE hf
        refine z_cVi (As := [.int (p1 + (1 : Int32))]) (rest := []) (wf := (z_md c a)) (g := g) (u0 := g) ⟨hx, hb, hml, hown, hts⟩ (kX5_digit l D c N a H.size g (p1 + (1 : Int32)) r16 h16) (cwV 1 hts gX5_behindLink_X5_digit rfl rfl rfl (by decide +kernel) ⟨Nat.le_of_ble_eq_true rfl, Nat.le_of_ble_eq_true rfl⟩) hP hK hD hS hA (ci := 5) (q0 := 0) rfl rfl rfl rfl hl.1 (Nat.le_of_ble_eq_true rfl) rfl dX5_behindLink_43 ⟨Nat.zero_le _, Nat.zero_le _⟩ (fun H locs hP hD hS => ?_)
        refine lv_iconst (v := (0 : Int32)) hx hb dX5_behindLink_46 (by decide) ?_
        refine lv_iload_n hx hb dX5_behindLink_47 rfl (lv_at hl 0 rfl) ?_
        refine lv_if_ne (tgt := 56) hx hb dX5_behindLink_48 (by decide) (fun c17 => ?_) (fun c17 => ?_)
        · have hf := z_ifF hf c17
          refine lv_iconst (v := (5 : Int32)) hx hb dX5_behindLink_56 (by decide) ?_
          obtain ⟨r18, h18, hf⟩ := z_bE hf
          refine z_cSi (As := [.int r16, .int (0 : Int32), .int (5 : Int32)]) (rest := []) ⟨hx, hb, hml, hown, hts⟩ (kX5_within l D c N H.size r16 (0 : Int32) (5 : Int32) r18 h18) (va_cwS 3 hts gX5_behindLink_X5_within rfl rfl rfl (by decide +kernel) ⟨Nat.le_of_ble_eq_true rfl, Nat.le_of_ble_eq_true rfl⟩) hP hK hS hA rfl hl.1 (Nat.le_of_ble_eq_true rfl) rfl dX5_behindLink_57 ⟨Nat.zero_le _, Nat.zero_le _⟩ (fun H locs hP hS => ?_)
          refine lv_istore_n (lv' := [(3, .int r18), (2, .int r1), (0, .ref (a 0)), (1, .int p1)]) hx hb dX5_behindLink_60 rfl hl (by decide) rfl (fun ls hl => ?_)
          refine lv_iload_n hx hb dX5_behindLink_61 rfl (lv_at hl 0 rfl) ?_
          refine lv_if_eq (tgt := 71) hx hb dX5_behindLink_62 (by decide) (fun c19 => ?_) (fun c19 => ?_)
          · have hf := z_ifT hf c19
            refine lv_iload_n hx hb dX5_behindLink_71 rfl (lv_at hl 3 rfl) ?_
            refine lv_iconst (v := (1 : Int32)) hx hb dX5_behindLink_72 (by decide) ?_
            refine lv_iadd hx hb dX5_behindLink_73 ?_
            exact z_rp (wf := (z_md c a)) hx hb hr hlocks hP hD hS hf dX5_behindLink_74
          · have hf := z_ifF hf c19
            refine lv_iload_n hx hb dX5_behindLink_65 rfl (lv_at hl 3 rfl) ?_
            refine lv_iconst (v := (2 : Int32)) hx hb dX5_behindLink_66 (by decide) ?_
            refine lv_iadd hx hb dX5_behindLink_67 ?_
            refine lv_goto (tgt := 74) hx hb dX5_behindLink_68 (by decide) ?_
            exact z_rp (wf := (z_md c a)) hx hb hr hlocks hP hD hS hf dX5_behindLink_74
        · have hf := z_ifT hf c17
          refine lv_bipush (v := (9 : Int32)) hx hb dX5_behindLink_51 (by decide) ?_
          refine lv_goto (tgt := 57) hx hb dX5_behindLink_53 (by decide) ?_
          obtain ⟨r20, h20, hf⟩ := z_bE hf
          refine z_cSi (As := [.int r16, .int (0 : Int32), .int (9 : Int32)]) (rest := []) ⟨hx, hb, hml, hown, hts⟩ (kX5_within l D c N H.size r16 (0 : Int32) (9 : Int32) r20 h20) (va_cwS 3 hts gX5_behindLink_X5_within rfl rfl rfl (by decide +kernel) ⟨Nat.le_of_ble_eq_true rfl, Nat.le_of_ble_eq_true rfl⟩) hP hK hS hA rfl hl.1 (Nat.le_of_ble_eq_true rfl) rfl dX5_behindLink_57 ⟨Nat.zero_le _, Nat.zero_le _⟩ (fun H locs hP hS => ?_)
          refine lv_istore_n (lv' := [(3, .int r20), (2, .int r1), (0, .ref (a 0)), (1, .int p1)]) hx hb dX5_behindLink_60 rfl hl (by decide) rfl (fun ls hl => ?_)
          refine lv_iload_n hx hb dX5_behindLink_61 rfl (lv_at hl 0 rfl) ?_
          refine lv_if_eq (tgt := 71) hx hb dX5_behindLink_62 (by decide) (fun c21 => ?_) (fun c21 => ?_)
          · have hf := z_ifT hf c21
            refine lv_iload_n hx hb dX5_behindLink_71 rfl (lv_at hl 3 rfl) ?_
            refine lv_iconst (v := (1 : Int32)) hx hb dX5_behindLink_72 (by decide) ?_
            refine lv_iadd hx hb dX5_behindLink_73 ?_
            exact z_rp (wf := (z_md c a)) hx hb hr hlocks hP hD hS hf dX5_behindLink_74
          · have hf := z_ifF hf c21
            refine lv_iload_n hx hb dX5_behindLink_65 rfl (lv_at hl 3 rfl) ?_
            refine lv_iconst (v := (2 : Int32)) hx hb dX5_behindLink_66 (by decide) ?_
            refine lv_iadd hx hb dX5_behindLink_67 ?_
            refine lv_goto (tgt := 74) hx hb dX5_behindLink_68 (by decide) ?_
            exact z_rp (wf := (z_md c a)) hx hb hr hlocks hP hD hS hf dX5_behindLink_74
      · have hf := z_ifF hf c15
        refine lv_aload_n hx hb dX5_behindLink_29 rfl (lv_at hl 1 rfl) ?_
        refine lv_iload_n hx hb dX5_behindLink_30 rfl (lv_at hl 2 rfl) ?_
        refine lv_iconst (v := (1 : Int32)) hx hb dX5_behindLink_31 (by decide) ?_
        refine lv_iadd hx hb dX5_behindLink_32 ?_
        obtain ⟨r22, h22, hf⟩ := z_bE hf
        refine z_cVi (As := [.int (p1 + (1 : Int32))]) (rest := []) (wf := (z_md c a)) (g := g) (u0 := g) ⟨hx, hb, hml, hown, hts⟩ (kX5_isMinus l D c N a H.size g (p1 + (1 : Int32)) r22 h22) (cwV 1 hts gX5_behindLink_X5_isMinus rfl rfl rfl (by decide +kernel) ⟨Nat.le_of_ble_eq_true rfl, Nat.le_of_ble_eq_true rfl⟩) hP hK hD hS hA (ci := 5) (q0 := 0) rfl rfl rfl rfl hl.1 (Nat.le_of_ble_eq_true rfl) rfl dX5_behindLink_33 ⟨Nat.zero_le _, Nat.zero_le _⟩ (fun H locs hP hD hS => ?_)
        refine lv_goto (tgt := 60) hx hb dX5_behindLink_36 (by decide) ?_
        refine lv_istore_n (lv' := [(3, .int r22), (2, .int r1), (0, .ref (a 0)), (1, .int p1)]) hx hb dX5_behindLink_60 rfl hl (by decide) rfl (fun ls hl => ?_)
        refine lv_iload_n hx hb dX5_behindLink_61 rfl (lv_at hl 0 rfl) ?_
        refine lv_if_eq (tgt := 71) hx hb dX5_behindLink_62 (by decide) (fun c23 => ?_) (fun c23 => ?_)
        · have hf := z_ifT hf c23
          refine lv_iload_n hx hb dX5_behindLink_71 rfl (lv_at hl 3 rfl) ?_
          refine lv_iconst (v := (1 : Int32)) hx hb dX5_behindLink_72 (by decide) ?_
          refine lv_iadd hx hb dX5_behindLink_73 ?_
          exact z_rp (wf := (z_md c a)) hx hb hr hlocks hP hD hS hf dX5_behindLink_74
        · have hf := z_ifF hf c23
          refine lv_iload_n hx hb dX5_behindLink_65 rfl (lv_at hl 3 rfl) ?_
          refine lv_iconst (v := (2 : Int32)) hx hb dX5_behindLink_66 (by decide) ?_
          refine lv_iadd hx hb dX5_behindLink_67 ?_
          refine lv_goto (tgt := 74) hx hb dX5_behindLink_68 (by decide) ?_
          exact z_rp (wf := (z_md c a)) hx hb hr hlocks hP hD hS hf dX5_behindLink_74
    · have hf := z_ifT hf c14
      refine lv_iload_n hx hb dX5_behindLink_23 rfl (lv_at hl 2 rfl) ?_
      exact z_rp (wf := (z_md c a)) hx hb hr hlocks hP hD hS hf dX5_behindLink_24
abbrev rmX5_link : Room := { frames := 2, cells := 0, slots := 0, locals := 43 }
set_option maxRecDepth 100000 in
set_option maxHeartbeats 4000000 in
theorem kX5_link (l : Launch) (D : va_G) (c : Nat → ClassId) (N : Nat) (a : Nat → Nat) (sz : Nat) (g : z_R) (p1 : Int32) (r0 : Int32) (hf : fX5_link N p1 g = some r0) : Met l yX5_link wsX5_link rmX5_link (z_Pc D c sz (z_md c a g) [.ref (a 0), .int p1]) (z_Qi D (z_md c a) r0 g (va_A (z_md c a g) sz)) 0 0 (va_A (z_md c a g) sz) := by
  refine z_ofM (cc := cX5_link) (maxL := 2) (ret := (some .int)) (Qf := fun A => z_Qi D (z_md c a) r0 g A) (plainFor_of_name (by decide)) rfl (Nat.le_of_ble_eq_true rfl) ?_
  intro p e s m args below meth co A ls hx hb hr hml hts hown hlocks hnm hA hP hK hD hl hsz
  have hl : lv_has ls 2 [(0, .ref (a 0)), (1, .int p1)] := hl
  have hown : s.vm.findClass RX5 = some m.cls := hown
  obtain ⟨H, hH⟩ : ∃ H, H = s.heap := ⟨_, rfl⟩
  have hS : va_S A s.heap H [] := by rw [hH]; exact va_S.rf
  rw [← hH] at hP ⊢
  clear hH
  unfold fX5_link at hf
  generalize ([] : List Loc) = locs at hS ⊢
  refine lv_aload_n hx hb dX5_link_0 rfl (lv_at hl 0 rfl) ?_
  refine lv_iload_n hx hb dX5_link_1 rfl (lv_at hl 1 rfl) ?_
  obtain ⟨r1, h1, hf⟩ := z_bE hf
  refine z_cVi (As := [.int p1]) (rest := []) (wf := (z_md c a)) (g := g) (u0 := g) ⟨hx, hb, hml, hown, hts⟩ (kX5_isMinus l D c N a H.size g p1 r1 h1) (cwV 1 hts gX5_link_X5_isMinus rfl rfl rfl (by decide +kernel) ⟨Nat.le_of_ble_eq_true rfl, Nat.le_of_ble_eq_true rfl⟩) hP hK hD hS hA (ci := 5) (q0 := 0) rfl rfl rfl rfl hl.1 (Nat.le_of_ble_eq_true rfl) rfl dX5_link_2 ⟨Nat.zero_le _, Nat.zero_le _⟩ (fun H locs hP hD hS => ?_)
  refine lv_if_eq (tgt := 12) hx hb dX5_link_5 (by decide) (fun c2 => ?_) (fun c2 => ?_)
  · have hf := z_ifT hf c2
    refine lv_bipush (v := (10 : Int32)) hx hb dX5_link_12 (by decide) ?_
    refine lv_aload_n hx hb dX5_link_14 rfl (lv_at hl 0 rfl) ?_
    refine lv_iload_n hx hb dX5_link_15 rfl (lv_at hl 1 rfl) ?_
    obtain ⟨r3, h3, hf⟩ := z_bE hf
    refine z_cVi (As := [.int p1]) (rest := [.int (10 : Int32)]) (wf := (z_md c a)) (g := g) (u0 := g) ⟨hx, hb, hml, hown, hts⟩ (kX5_digit l D c N a H.size g p1 r3 h3) (cwV 1 hts gX5_link_X5_digit rfl rfl rfl (by decide +kernel) ⟨Nat.le_of_ble_eq_true rfl, Nat.le_of_ble_eq_true rfl⟩) hP hK hD hS hA (ci := 5) (q0 := 0) rfl rfl rfl rfl hl.1 (Nat.le_of_ble_eq_true rfl) rfl dX5_link_16 ⟨Nat.zero_le _, Nat.zero_le _⟩ (fun H locs hP hD hS => ?_)
    refine lv_imul hx hb dX5_link_19 ?_
    refine lv_aload_n hx hb dX5_link_20 rfl (lv_at hl 0 rfl) ?_
    refine lv_iload_n hx hb dX5_link_21 rfl (lv_at hl 1 rfl) ?_
    refine lv_iconst (v := (1 : Int32)) hx hb dX5_link_22 (by decide) ?_
    refine lv_iadd hx hb dX5_link_23 ?_
    obtain ⟨r4, h4, hf⟩ := z_bE hf
    refine z_cVi (As := [.int (p1 + (1 : Int32))]) (rest := [.int ((10 : Int32) * r3)]) (wf := (z_md c a)) (g := g) (u0 := g) ⟨hx, hb, hml, hown, hts⟩ (kX5_digit l D c N a H.size g (p1 + (1 : Int32)) r4 h4) (cwV 1 hts gX5_link_X5_digit rfl rfl rfl (by decide +kernel) ⟨Nat.le_of_ble_eq_true rfl, Nat.le_of_ble_eq_true rfl⟩) hP hK hD hS hA (ci := 5) (q0 := 0) rfl rfl rfl rfl hl.1 (Nat.le_of_ble_eq_true rfl) rfl dX5_link_24 ⟨Nat.zero_le _, Nat.zero_le _⟩ (fun H locs hP hD hS => ?_)
    refine lv_iadd hx hb dX5_link_27 ?_
    exact z_rp (wf := (z_md c a)) hx hb hr hlocks hP hD hS hf dX5_link_28
  · have hf := z_ifF hf c2
    refine lv_iconst (v := (-1 : Int32)) hx hb dX5_link_8 (by decide) ?_
    refine lv_goto (tgt := 28) hx hb dX5_link_9 (by decide) ?_
    exact z_rp (wf := (z_md c a)) hx hb hr hlocks hP hD hS hf dX5_link_28
abbrev rmX5_readOrder : Room := { frames := 3, cells := 0, slots := 0, locals := 66 }
theorem qX5_readOrder_31 : Cond.fieldLink RX5 31 "ProgramDrumModel" "text" "[I" ∈ wsX5_readOrder := by decide +kernel
theorem iX5_readOrder_X5 : ∀ w ∈ wsX50, w ∈ wsX5_readOrder := by decide +kernel
theorem qX5_readOrder_19 : Cond.fieldLink RX5 19 "ProgramDrumModel" "draft" "[I" ∈ wsX5_readOrder := by decide +kernel
set_option maxRecDepth 100000 in
set_option maxHeartbeats 4000000 in
theorem kX5_readOrder (l : Launch) (D : va_G) (c : Nat → ClassId) (N : Nat) (a : Nat → Nat) (sz : Nat) (g : z_R) (p1 : Int32) (r0 : Int32) (g0 : z_R) (hf : fX5_readOrder N p1 g = some (r0, g0)) : Met l yX5_readOrder wsX5_readOrder rmX5_readOrder (z_Pc D c sz (z_md c a g) [.ref (a 0), .int p1]) (z_Qi D (z_md c a) r0 g0 (va_A (z_md c a g) sz)) 0 0 (va_A (z_md c a g) sz) := by
  refine z_ofM (cc := cX5_readOrder) (maxL := 4) (ret := (some .int)) (Qf := fun A => z_Qi D (z_md c a) r0 g0 A) (plainFor_of_name (by decide)) rfl (Nat.le_of_ble_eq_true rfl) ?_
  intro p e s m args below meth co A ls hx hb hr hml hts hown hlocks hnm hA hP hK hD hl hsz
  have hl : lv_has ls 4 [(0, .ref (a 0)), (1, .int p1)] := hl
  have hown : s.vm.findClass RX5 = some m.cls := hown
  obtain ⟨H, hH⟩ : ∃ H, H = s.heap := ⟨_, rfl⟩
  have hS : va_S A s.heap H [] := by rw [hH]; exact va_S.rf
  rw [← hH] at hP ⊢
  clear hH
  unfold fX5_readOrder at hf
  generalize ([] : List Loc) = locs at hS ⊢
  refine lv_aload_n hx hb dX5_readOrder_0 rfl (lv_at hl 0 rfl) ?_
  refine va_get (D := D) (ci := 5) (v := .ref (a 8)) (C := RX5) (T := TX5) (N := 13) hx hb hts iX5_readOrder_X5 hown hK.1 hP 0 rfl rfl 9 (by decide) (hts _ qX5_readOrder_31) (fun _ h9 => h9) rfl dX5_readOrder_1 ?_
  refine lv_iload_n hx hb dX5_readOrder_4 rfl (lv_at hl 1 rfl) ?_
  obtain ⟨b1, hf⟩ := z_ckE hf
  refine va_iald hx hb hK.1 hP 8 0 rfl rfl (z_inE b1) dX5_readOrder_5 ?_
  refine lv_bipush (v := (111 : Int32)) hx hb dX5_readOrder_6 (by decide) ?_
  refine lv_icmp_ne (tgt := 22) hx hb dX5_readOrder_8 (by decide) (fun c2 => ?_) (fun c2 => ?_)
  · have hf := z_ifF hf c2
    refine lv_iload_n hx hb dX5_readOrder_22 rfl (lv_at hl 1 rfl) ?_
    exact z_ri (wf := (z_md c a)) hx hb hr hlocks hP hD hS hf dX5_readOrder_23
  · have hf := z_ifT hf c2
    refine lv_aload_n hx hb dX5_readOrder_11 rfl (lv_at hl 0 rfl) ?_
    refine va_get (D := D) (ci := 5) (v := .ref (a 4)) (C := RX5) (T := TX5) (N := 13) hx hb hts iX5_readOrder_X5 hown hK.1 hP 0 rfl rfl 4 (by decide) (hts _ qX5_readOrder_19) (fun _ h9 => h9) rfl dX5_readOrder_12 ?_
    refine lv_iconst (v := (2 : Int32)) hx hb dX5_readOrder_15 (by decide) ?_
    refine va_iald hx hb hK.1 hP 4 0 rfl rfl (z_inE (by decide)) dX5_readOrder_16 ?_
    refine lv_bipush (v := (16 : Int32)) hx hb dX5_readOrder_17 (by decide) ?_
    refine lv_icmp_ne (tgt := 24) hx hb dX5_readOrder_19 (by decide) (fun c3 => ?_) (fun c3 => ?_)
    · have hf := z_ifF hf c3
      refine lv_aload_n hx hb dX5_readOrder_24 rfl (lv_at hl 0 rfl) ?_
      refine lv_iload_n hx hb dX5_readOrder_25 rfl (lv_at hl 1 rfl) ?_
      refine lv_iconst (v := (1 : Int32)) hx hb dX5_readOrder_26 (by decide) ?_
      refine lv_iadd hx hb dX5_readOrder_27 ?_
      obtain ⟨r4, h4, hf⟩ := z_bE hf
      refine z_cVi (As := [.int (p1 + (1 : Int32))]) (rest := []) (wf := (z_md c a)) (g := g) (u0 := g) ⟨hx, hb, hml, hown, hts⟩ (kX5_digit l D c N a H.size g (p1 + (1 : Int32)) r4 h4) (cwV 1 hts gX5_readOrder_X5_digit rfl rfl rfl (by decide +kernel) ⟨Nat.le_of_ble_eq_true rfl, Nat.le_of_ble_eq_true rfl⟩) hP hK hD hS hA (ci := 5) (q0 := 0) rfl rfl rfl rfl hl.1 (Nat.le_of_ble_eq_true rfl) rfl dX5_readOrder_28 ⟨Nat.zero_le _, Nat.zero_le _⟩ (fun H locs hP hD hS => ?_)
      refine lv_iconst (v := (0 : Int32)) hx hb dX5_readOrder_31 (by decide) ?_
      refine lv_iconst (v := (3 : Int32)) hx hb dX5_readOrder_32 (by decide) ?_
      obtain ⟨r5, h5, hf⟩ := z_bE hf
      refine z_cSi (As := [.int r4, .int (0 : Int32), .int (3 : Int32)]) (rest := []) ⟨hx, hb, hml, hown, hts⟩ (kX5_within l D c N H.size r4 (0 : Int32) (3 : Int32) r5 h5) (va_cwS 3 hts gX5_readOrder_X5_within rfl rfl rfl (by decide +kernel) ⟨Nat.le_of_ble_eq_true rfl, Nat.le_of_ble_eq_true rfl⟩) hP hK hS hA rfl hl.1 (Nat.le_of_ble_eq_true rfl) rfl dX5_readOrder_33 ⟨Nat.zero_le _, Nat.zero_le _⟩ (fun H locs hP hS => ?_)
      refine lv_if_ne (tgt := 43) hx hb dX5_readOrder_36 (by decide) (fun c6 => ?_) (fun c6 => ?_)
      · have hf := z_ifF hf c6
        refine lv_aload_n hx hb dX5_readOrder_43 rfl (lv_at hl 0 rfl) ?_
        refine lv_iload_n hx hb dX5_readOrder_44 rfl (lv_at hl 1 rfl) ?_
        refine lv_iconst (v := (2 : Int32)) hx hb dX5_readOrder_45 (by decide) ?_
        refine lv_iadd hx hb dX5_readOrder_46 ?_
        obtain ⟨r7, h7, hf⟩ := z_bE hf
        refine z_cVi (As := [.int (p1 + (2 : Int32))]) (rest := []) (wf := (z_md c a)) (g := g) (u0 := g) ⟨hx, hb, hml, hown, hts⟩ (kX5_digit l D c N a H.size g (p1 + (2 : Int32)) r7 h7) (cwV 1 hts gX5_readOrder_X5_digit rfl rfl rfl (by decide +kernel) ⟨Nat.le_of_ble_eq_true rfl, Nat.le_of_ble_eq_true rfl⟩) hP hK hD hS hA (ci := 5) (q0 := 0) rfl rfl rfl rfl hl.1 (Nat.le_of_ble_eq_true rfl) rfl dX5_readOrder_47 ⟨Nat.zero_le _, Nat.zero_le _⟩ (fun H locs hP hD hS => ?_)
        refine lv_iconst (v := (1 : Int32)) hx hb dX5_readOrder_50 (by decide) ?_
        refine lv_bipush (v := (9 : Int32)) hx hb dX5_readOrder_51 (by decide) ?_
        obtain ⟨r8, h8, hf⟩ := z_bE hf
        refine z_cSi (As := [.int r7, .int (1 : Int32), .int (9 : Int32)]) (rest := []) ⟨hx, hb, hml, hown, hts⟩ (kX5_within l D c N H.size r7 (1 : Int32) (9 : Int32) r8 h8) (va_cwS 3 hts gX5_readOrder_X5_within rfl rfl rfl (by decide +kernel) ⟨Nat.le_of_ble_eq_true rfl, Nat.le_of_ble_eq_true rfl⟩) hP hK hS hA rfl hl.1 (Nat.le_of_ble_eq_true rfl) rfl dX5_readOrder_53 ⟨Nat.zero_le _, Nat.zero_le _⟩ (fun H locs hP hS => ?_)
        refine lv_if_ne (tgt := 63) hx hb dX5_readOrder_56 (by decide) (fun c9 => ?_) (fun c9 => ?_)
        · have hf := z_ifF hf c9
          refine lv_aload_n hx hb dX5_readOrder_63 rfl (lv_at hl 0 rfl) ?_
          refine lv_iload_n hx hb dX5_readOrder_64 rfl (lv_at hl 1 rfl) ?_
          refine lv_iconst (v := (3 : Int32)) hx hb dX5_readOrder_65 (by decide) ?_
          refine lv_iadd hx hb dX5_readOrder_66 ?_
          obtain ⟨r10, h10, hf⟩ := z_bE hf
          refine z_cVi (As := [.int (p1 + (3 : Int32))]) (rest := []) (wf := (z_md c a)) (g := g) (u0 := g) ⟨hx, hb, hml, hown, hts⟩ (kX5_behindLink l D c N a H.size g (p1 + (3 : Int32)) r10 h10) (cwV 1 hts gX5_readOrder_X5_behindLink rfl rfl rfl (by decide +kernel) ⟨Nat.le_of_ble_eq_true rfl, Nat.le_of_ble_eq_true rfl⟩) hP hK hD hS hA (ci := 5) (q0 := 0) rfl rfl rfl rfl hl.1 (Nat.le_of_ble_eq_true rfl) rfl dX5_readOrder_67 ⟨Nat.zero_le _, Nat.zero_le _⟩ (fun H locs hP hD hS => ?_)
          refine lv_istore_n (lv' := [(2, .int r10), (0, .ref (a 0)), (1, .int p1)]) hx hb dX5_readOrder_70 rfl hl (by decide) rfl (fun ls hl => ?_)
          refine lv_iload_n hx hb dX5_readOrder_71 rfl (lv_at hl 0 rfl) ?_
          refine lv_iload_n hx hb dX5_readOrder_72 rfl (lv_at hl 2 rfl) ?_
          refine lv_iconst (v := (5 : Int32)) hx hb dX5_readOrder_73 (by decide) ?_
          refine lv_iadd hx hb dX5_readOrder_74 ?_
          refine lv_icmp_ge (tgt := 80) hx hb dX5_readOrder_75 (by decide) (fun c11 => ?_) (fun c11 => ?_)
          · have hf := z_ifT hf c11
            refine lv_aload_n hx hb dX5_readOrder_80 rfl (lv_at hl 1 rfl) ?_
            refine lv_iload_n hx hb dX5_readOrder_81 rfl (lv_at hl 2 rfl) ?_
            refine lv_iconst (v := (5 : Int32)) hx hb dX5_readOrder_82 (by decide) ?_
            refine lv_iadd hx hb dX5_readOrder_83 ?_
            obtain ⟨r12, h12, hf⟩ := z_bE hf
            refine z_cVi (As := [.int (p1 + (5 : Int32))]) (rest := []) (wf := (z_md c a)) (g := g) (u0 := g) ⟨hx, hb, hml, hown, hts⟩ (kX5_behindLink l D c N a H.size g (p1 + (5 : Int32)) r12 h12) (cwV 1 hts gX5_readOrder_X5_behindLink rfl rfl rfl (by decide +kernel) ⟨Nat.le_of_ble_eq_true rfl, Nat.le_of_ble_eq_true rfl⟩) hP hK hD hS hA (ci := 5) (q0 := 0) rfl rfl rfl rfl hl.1 (Nat.le_of_ble_eq_true rfl) rfl dX5_readOrder_84 ⟨Nat.zero_le _, Nat.zero_le _⟩ (fun H locs hP hD hS => ?_)
            refine lv_istore_n (lv' := [(2, .int r12), (0, .ref (a 0)), (1, .int p1)]) hx hb dX5_readOrder_87 rfl hl (by decide) rfl (fun ls hl => ?_)
            refine lv_iload_n hx hb dX5_readOrder_88 rfl (lv_at hl 0 rfl) ?_
            refine lv_iload_n hx hb dX5_readOrder_89 rfl (lv_at hl 2 rfl) ?_
            refine lv_bipush (v := (7 : Int32)) hx hb dX5_readOrder_90 (by decide) ?_
            refine lv_iadd hx hb dX5_readOrder_92 ?_
            refine lv_icmp_ge (tgt := 98) hx hb dX5_readOrder_93 (by decide) (fun c13 => ?_) (fun c13 => ?_)
            · have hf := z_ifT hf c13
              refine lv_aload_n hx hb dX5_readOrder_98 rfl (lv_at hl 1 rfl) ?_
              refine lv_iload_n hx hb dX5_readOrder_99 rfl (lv_at hl 2 rfl) ?_
              refine lv_bipush (v := (7 : Int32)) hx hb dX5_readOrder_100 (by decide) ?_
              refine lv_iadd hx hb dX5_readOrder_102 ?_
              obtain ⟨r14, h14, hf⟩ := z_bE hf
              refine z_cVi (As := [.int (p1 + (7 : Int32))]) (rest := []) (wf := (z_md c a)) (g := g) (u0 := g) ⟨hx, hb, hml, hown, hts⟩ (kX5_digit l D c N a H.size g (p1 + (7 : Int32)) r14 h14) (cwV 1 hts gX5_readOrder_X5_digit rfl rfl rfl (by decide +kernel) ⟨Nat.le_of_ble_eq_true rfl, Nat.le_of_ble_eq_true rfl⟩) hP hK hD hS hA (ci := 5) (q0 := 0) rfl rfl rfl rfl hl.1 (Nat.le_of_ble_eq_true rfl) rfl dX5_readOrder_103 ⟨Nat.zero_le _, Nat.zero_le _⟩ (fun H locs hP hD hS => ?_)
              refine lv_if_lt (tgt := 120) hx hb dX5_readOrder_106 (by decide) (fun c15 => ?_) (fun c15 => ?_)
              · have hf := z_ifT hf c15
                refine lv_aload_n hx hb dX5_readOrder_120 rfl (lv_at hl 1 rfl) ?_
                refine lv_iload_n hx hb dX5_readOrder_121 rfl (lv_at hl 2 rfl) ?_
                refine lv_bipush (v := (7 : Int32)) hx hb dX5_readOrder_122 (by decide) ?_
                refine lv_iadd hx hb dX5_readOrder_124 ?_
                obtain ⟨r16, h16, hf⟩ := z_bE hf
                refine z_cVi (As := [.int (p1 + (7 : Int32))]) (rest := []) (wf := (z_md c a)) (g := g) (u0 := g) ⟨hx, hb, hml, hown, hts⟩ (kX5_digit l D c N a H.size g (p1 + (7 : Int32)) r16 h16) (cwV 1 hts gX5_readOrder_X5_digit rfl rfl rfl (by decide +kernel) ⟨Nat.le_of_ble_eq_true rfl, Nat.le_of_ble_eq_true rfl⟩) hP hK hD hS hA (ci := 5) (q0 := 0) rfl rfl rfl rfl hl.1 (Nat.le_of_ble_eq_true rfl) rfl dX5_readOrder_125 ⟨Nat.zero_le _, Nat.zero_le _⟩ (fun H locs hP hD hS => ?_)
                refine lv_if_ge (tgt := 138) hx hb dX5_readOrder_128 (by decide) (fun c17 => ?_) (fun c17 => ?_)
                · have hf := z_ifT hf c17
                  refine lv_iload_n hx hb dX5_readOrder_138 rfl (lv_at hl 2 rfl) ?_
                  refine lv_bipush (v := (8 : Int32)) hx hb dX5_readOrder_139 (by decide) ?_
                  refine lv_iadd hx hb dX5_readOrder_141 ?_
                  exact z_ri (wf := (z_md c a)) hx hb hr hlocks hP hD hS hf dX5_readOrder_142
                · have hf := z_ifF hf c17
                  refine lv_iload_n hx hb dX5_readOrder_131 rfl (lv_at hl 2 rfl) ?_
                  refine lv_bipush (v := (7 : Int32)) hx hb dX5_readOrder_132 (by decide) ?_
                  refine lv_iadd hx hb dX5_readOrder_134 ?_
                  refine lv_goto (tgt := 142) hx hb dX5_readOrder_135 (by decide) ?_
                  exact z_ri (wf := (z_md c a)) hx hb hr hlocks hP hD hS hf dX5_readOrder_142
              · have hf := z_ifF hf c15
                refine lv_aload_n hx hb dX5_readOrder_109 rfl (lv_at hl 1 rfl) ?_
                refine lv_iload_n hx hb dX5_readOrder_110 rfl (lv_at hl 2 rfl) ?_
                refine lv_bipush (v := (8 : Int32)) hx hb dX5_readOrder_111 (by decide) ?_
                refine lv_iadd hx hb dX5_readOrder_113 ?_
                obtain ⟨r18, h18, hf⟩ := z_bE hf
                refine z_cVi (As := [.int (p1 + (8 : Int32))]) (rest := []) (wf := (z_md c a)) (g := g) (u0 := g) ⟨hx, hb, hml, hown, hts⟩ (kX5_digit l D c N a H.size g (p1 + (8 : Int32)) r18 h18) (cwV 1 hts gX5_readOrder_X5_digit rfl rfl rfl (by decide +kernel) ⟨Nat.le_of_ble_eq_true rfl, Nat.le_of_ble_eq_true rfl⟩) hP hK hD hS hA (ci := 5) (q0 := 0) rfl rfl rfl rfl hl.1 (Nat.le_of_ble_eq_true rfl) rfl dX5_readOrder_114 ⟨Nat.zero_le _, Nat.zero_le _⟩ (fun H locs hP hD hS => ?_)
                refine lv_if_ge (tgt := 143) hx hb dX5_readOrder_117 (by decide) (fun c19 => ?_) (fun c19 => ?_)
                · have hf := z_ifT hf c19
                  refine lv_bipush (v := (13 : Int32)) hx hb dX5_readOrder_143 (by decide) ?_
                  refine lv_bipush (v := (9 : Int32)) hx hb dX5_readOrder_145 (by decide) ?_
                  refine lv_aload_n hx hb dX5_readOrder_147 rfl (lv_at hl 1 rfl) ?_
                  refine va_get (D := D) (ci := 5) (v := .ref (a 4)) (C := RX5) (T := TX5) (N := 13) hx hb hts iX5_readOrder_X5 hown hK.1 hP 0 rfl rfl 4 (by decide) (hts _ qX5_readOrder_19) (fun _ h9 => h9) rfl dX5_readOrder_148 ?_
                  refine lv_iconst (v := (2 : Int32)) hx hb dX5_readOrder_151 (by decide) ?_
                  refine va_iald hx hb hK.1 hP 4 0 rfl rfl (z_inE (by decide)) dX5_readOrder_152 ?_
                  refine lv_imul hx hb dX5_readOrder_153 ?_
                  refine lv_iadd hx hb dX5_readOrder_154 ?_
                  refine lv_istore_n (lv' := [(3, .int ((13 : Int32) + ((9 : Int32) * (g 4 ((2 : Int32)).toNatClampNeg)))), (2, .int r12), (0, .ref (a 0)), (1, .int p1)]) hx hb dX5_readOrder_155 rfl hl (by decide) rfl (fun ls hl => ?_)
                  refine lv_aload_n hx hb dX5_readOrder_156 rfl (lv_at hl 2 rfl) ?_
                  refine va_get (D := D) (ci := 5) (v := .ref (a 4)) (C := RX5) (T := TX5) (N := 13) hx hb hts iX5_readOrder_X5 hown hK.1 hP 0 rfl rfl 4 (by decide) (hts _ qX5_readOrder_19) (fun _ h9 => h9) rfl dX5_readOrder_157 ?_
                  refine lv_iload_n hx hb dX5_readOrder_160 rfl (lv_at hl 0 rfl) ?_
                  refine lv_iconst (v := (0 : Int32)) hx hb dX5_readOrder_161 (by decide) ?_
                  refine lv_iadd hx hb dX5_readOrder_162 ?_
                  refine lv_aload_n hx hb dX5_readOrder_163 rfl (lv_at hl 2 rfl) ?_
                  refine lv_iload_n hx hb dX5_readOrder_164 rfl (lv_at hl 3 rfl) ?_
                  refine lv_iconst (v := (1 : Int32)) hx hb dX5_readOrder_165 (by decide) ?_
                  refine lv_iadd hx hb dX5_readOrder_166 ?_
                  obtain ⟨r20, h20, hf⟩ := z_bE hf
                  refine z_cVi (As := [.int (p1 + (1 : Int32))]) (rest := [.int (((13 : Int32) + ((9 : Int32) * (g 4 ((2 : Int32)).toNatClampNeg))) + (0 : Int32)), .ref (a 4)]) (wf := (z_md c a)) (g := g) (u0 := g) ⟨hx, hb, hml, hown, hts⟩ (kX5_digit l D c N a H.size g (p1 + (1 : Int32)) r20 h20) (cwV 1 hts gX5_readOrder_X5_digit rfl rfl rfl (by decide +kernel) ⟨Nat.le_of_ble_eq_true rfl, Nat.le_of_ble_eq_true rfl⟩) hP hK hD hS hA (ci := 5) (q0 := 0) rfl rfl rfl rfl hl.1 (Nat.le_of_ble_eq_true rfl) rfl dX5_readOrder_167 ⟨Nat.zero_le _, Nat.zero_le _⟩ (fun H locs hP hD hS => ?_)
                  obtain ⟨b21, hf⟩ := z_ckE hf
                  refine va_iast hx hb hK.1 hP hD hS 4 0 rfl rfl (z_inE b21) dX5_readOrder_170 (fun H locs hP hD hS => ?_)
                  obtain ⟨g22, e22, hf⟩ := z_ltE hf
                  have hP : va_P D vwCl (z_md c a g22) H := by rw [e22]; exact hP
                  have hD : va_D A (z_md c a g22) := by rw [e22]; exact hD
                  clear e22
                  refine lv_aload_n hx hb dX5_readOrder_171 rfl (lv_at hl 2 rfl) ?_
                  refine va_get (D := D) (ci := 5) (v := .ref (a 4)) (C := RX5) (T := TX5) (N := 13) hx hb hts iX5_readOrder_X5 hown hK.1 hP 0 rfl rfl 4 (by decide) (hts _ qX5_readOrder_19) (fun _ h9 => h9) rfl dX5_readOrder_172 ?_
                  refine lv_iload_n hx hb dX5_readOrder_175 rfl (lv_at hl 0 rfl) ?_
                  refine lv_iconst (v := (1 : Int32)) hx hb dX5_readOrder_176 (by decide) ?_
                  refine lv_iadd hx hb dX5_readOrder_177 ?_
                  refine lv_aload_n hx hb dX5_readOrder_178 rfl (lv_at hl 2 rfl) ?_
                  refine lv_iload_n hx hb dX5_readOrder_179 rfl (lv_at hl 3 rfl) ?_
                  refine lv_iconst (v := (2 : Int32)) hx hb dX5_readOrder_180 (by decide) ?_
                  refine lv_iadd hx hb dX5_readOrder_181 ?_
                  obtain ⟨r23, h23, hf⟩ := z_bE hf
                  refine z_cVi (As := [.int (p1 + (2 : Int32))]) (rest := [.int (((13 : Int32) + ((9 : Int32) * (g 4 ((2 : Int32)).toNatClampNeg))) + (1 : Int32)), .ref (a 4)]) (wf := (z_md c a)) (g := g22) (u0 := g22) ⟨hx, hb, hml, hown, hts⟩ (kX5_digit l D c N a H.size g22 (p1 + (2 : Int32)) r23 h23) (cwV 1 hts gX5_readOrder_X5_digit rfl rfl rfl (by decide +kernel) ⟨Nat.le_of_ble_eq_true rfl, Nat.le_of_ble_eq_true rfl⟩) hP hK hD hS hA (ci := 5) (q0 := 0) rfl rfl rfl rfl hl.1 (Nat.le_of_ble_eq_true rfl) rfl dX5_readOrder_182 ⟨Nat.zero_le _, Nat.zero_le _⟩ (fun H locs hP hD hS => ?_)
                  obtain ⟨b24, hf⟩ := z_ckE hf
                  refine va_iast hx hb hK.1 hP hD hS 4 0 rfl rfl (z_inE b24) dX5_readOrder_185 (fun H locs hP hD hS => ?_)
                  obtain ⟨g25, e25, hf⟩ := z_ltE hf
                  have hP : va_P D vwCl (z_md c a g25) H := by rw [e25]; exact hP
                  have hD : va_D A (z_md c a g25) := by rw [e25]; exact hD
                  clear e25
                  refine lv_aload_n hx hb dX5_readOrder_186 rfl (lv_at hl 2 rfl) ?_
                  refine va_get (D := D) (ci := 5) (v := .ref (a 4)) (C := RX5) (T := TX5) (N := 13) hx hb hts iX5_readOrder_X5 hown hK.1 hP 0 rfl rfl 4 (by decide) (hts _ qX5_readOrder_19) (fun _ h9 => h9) rfl dX5_readOrder_187 ?_
                  refine lv_iload_n hx hb dX5_readOrder_190 rfl (lv_at hl 0 rfl) ?_
                  refine lv_iconst (v := (2 : Int32)) hx hb dX5_readOrder_191 (by decide) ?_
                  refine lv_iadd hx hb dX5_readOrder_192 ?_
                  refine lv_aload_n hx hb dX5_readOrder_193 rfl (lv_at hl 2 rfl) ?_
                  refine lv_iload_n hx hb dX5_readOrder_194 rfl (lv_at hl 3 rfl) ?_
                  refine lv_iconst (v := (3 : Int32)) hx hb dX5_readOrder_195 (by decide) ?_
                  refine lv_iadd hx hb dX5_readOrder_196 ?_
                  obtain ⟨r26, h26, hf⟩ := z_bE hf
                  refine z_cVi (As := [.int (p1 + (3 : Int32))]) (rest := [.int (((13 : Int32) + ((9 : Int32) * (g 4 ((2 : Int32)).toNatClampNeg))) + (2 : Int32)), .ref (a 4)]) (wf := (z_md c a)) (g := g25) (u0 := g25) ⟨hx, hb, hml, hown, hts⟩ (kX5_link l D c N a H.size g25 (p1 + (3 : Int32)) r26 h26) (cwV 1 hts gX5_readOrder_X5_link rfl rfl rfl (by decide +kernel) ⟨Nat.le_of_ble_eq_true rfl, Nat.le_of_ble_eq_true rfl⟩) hP hK hD hS hA (ci := 5) (q0 := 0) rfl rfl rfl rfl hl.1 (Nat.le_of_ble_eq_true rfl) rfl dX5_readOrder_197 ⟨Nat.zero_le _, Nat.zero_le _⟩ (fun H locs hP hD hS => ?_)
                  obtain ⟨b27, hf⟩ := z_ckE hf
                  refine va_iast hx hb hK.1 hP hD hS 4 0 rfl rfl (z_inE b27) dX5_readOrder_200 (fun H locs hP hD hS => ?_)
                  obtain ⟨g28, e28, hf⟩ := z_ltE hf
                  have hP : va_P D vwCl (z_md c a g28) H := by rw [e28]; exact hP
                  have hD : va_D A (z_md c a g28) := by rw [e28]; exact hD
                  clear e28
                  refine lv_aload_n hx hb dX5_readOrder_201 rfl (lv_at hl 2 rfl) ?_
                  refine va_get (D := D) (ci := 5) (v := .ref (a 4)) (C := RX5) (T := TX5) (N := 13) hx hb hts iX5_readOrder_X5 hown hK.1 hP 0 rfl rfl 4 (by decide) (hts _ qX5_readOrder_19) (fun _ h9 => h9) rfl dX5_readOrder_202 ?_
                  refine lv_iload_n hx hb dX5_readOrder_205 rfl (lv_at hl 0 rfl) ?_
                  refine lv_iconst (v := (3 : Int32)) hx hb dX5_readOrder_206 (by decide) ?_
                  refine lv_iadd hx hb dX5_readOrder_207 ?_
                  refine lv_aload_n hx hb dX5_readOrder_208 rfl (lv_at hl 2 rfl) ?_
                  refine lv_iload_n hx hb dX5_readOrder_209 rfl (lv_at hl 3 rfl) ?_
                  refine lv_iconst (v := (5 : Int32)) hx hb dX5_readOrder_210 (by decide) ?_
                  refine lv_iadd hx hb dX5_readOrder_211 ?_
                  obtain ⟨r29, h29, hf⟩ := z_bE hf
                  refine z_cVi (As := [.int (p1 + (5 : Int32))]) (rest := [.int (((13 : Int32) + ((9 : Int32) * (g 4 ((2 : Int32)).toNatClampNeg))) + (3 : Int32)), .ref (a 4)]) (wf := (z_md c a)) (g := g28) (u0 := g28) ⟨hx, hb, hml, hown, hts⟩ (kX5_link l D c N a H.size g28 (p1 + (5 : Int32)) r29 h29) (cwV 1 hts gX5_readOrder_X5_link rfl rfl rfl (by decide +kernel) ⟨Nat.le_of_ble_eq_true rfl, Nat.le_of_ble_eq_true rfl⟩) hP hK hD hS hA (ci := 5) (q0 := 0) rfl rfl rfl rfl hl.1 (Nat.le_of_ble_eq_true rfl) rfl dX5_readOrder_212 ⟨Nat.zero_le _, Nat.zero_le _⟩ (fun H locs hP hD hS => ?_)
                  obtain ⟨b30, hf⟩ := z_ckE hf
                  refine va_iast hx hb hK.1 hP hD hS 4 0 rfl rfl (z_inE b30) dX5_readOrder_215 (fun H locs hP hD hS => ?_)
                  obtain ⟨g31, e31, hf⟩ := z_ltE hf
                  have hP : va_P D vwCl (z_md c a g31) H := by rw [e31]; exact hP
                  have hD : va_D A (z_md c a g31) := by rw [e31]; exact hD
                  clear e31
                  refine lv_aload_n hx hb dX5_readOrder_216 rfl (lv_at hl 2 rfl) ?_
                  refine va_get (D := D) (ci := 5) (v := .ref (a 4)) (C := RX5) (T := TX5) (N := 13) hx hb hts iX5_readOrder_X5 hown hK.1 hP 0 rfl rfl 4 (by decide) (hts _ qX5_readOrder_19) (fun _ h9 => h9) rfl dX5_readOrder_217 ?_
                  refine lv_iload_n hx hb dX5_readOrder_220 rfl (lv_at hl 0 rfl) ?_
                  refine lv_iconst (v := (4 : Int32)) hx hb dX5_readOrder_221 (by decide) ?_
                  refine lv_iadd hx hb dX5_readOrder_222 ?_
                  refine lv_bipush (v := (10 : Int32)) hx hb dX5_readOrder_223 (by decide) ?_
                  refine lv_aload_n hx hb dX5_readOrder_225 rfl (lv_at hl 2 rfl) ?_
                  refine lv_iload_n hx hb dX5_readOrder_226 rfl (lv_at hl 3 rfl) ?_
                  refine lv_bipush (v := (7 : Int32)) hx hb dX5_readOrder_227 (by decide) ?_
                  refine lv_iadd hx hb dX5_readOrder_229 ?_
                  obtain ⟨r32, h32, hf⟩ := z_bE hf
                  refine z_cVi (As := [.int (p1 + (7 : Int32))]) (rest := [.int (10 : Int32), .int (((13 : Int32) + ((9 : Int32) * (g 4 ((2 : Int32)).toNatClampNeg))) + (4 : Int32)), .ref (a 4)]) (wf := (z_md c a)) (g := g31) (u0 := g31) ⟨hx, hb, hml, hown, hts⟩ (kX5_digit l D c N a H.size g31 (p1 + (7 : Int32)) r32 h32) (cwV 1 hts gX5_readOrder_X5_digit rfl rfl rfl (by decide +kernel) ⟨Nat.le_of_ble_eq_true rfl, Nat.le_of_ble_eq_true rfl⟩) hP hK hD hS hA (ci := 5) (q0 := 0) rfl rfl rfl rfl hl.1 (Nat.le_of_ble_eq_true rfl) rfl dX5_readOrder_230 ⟨Nat.zero_le _, Nat.zero_le _⟩ (fun H locs hP hD hS => ?_)
                  refine lv_imul hx hb dX5_readOrder_233 ?_
                  refine lv_aload_n hx hb dX5_readOrder_234 rfl (lv_at hl 2 rfl) ?_
                  refine lv_iload_n hx hb dX5_readOrder_235 rfl (lv_at hl 3 rfl) ?_
                  refine lv_bipush (v := (8 : Int32)) hx hb dX5_readOrder_236 (by decide) ?_
                  refine lv_iadd hx hb dX5_readOrder_238 ?_
                  obtain ⟨r33, h33, hf⟩ := z_bE hf
                  refine z_cVi (As := [.int (p1 + (8 : Int32))]) (rest := [.int ((10 : Int32) * r32), .int (((13 : Int32) + ((9 : Int32) * (g 4 ((2 : Int32)).toNatClampNeg))) + (4 : Int32)), .ref (a 4)]) (wf := (z_md c a)) (g := g31) (u0 := g31) ⟨hx, hb, hml, hown, hts⟩ (kX5_digit l D c N a H.size g31 (p1 + (8 : Int32)) r33 h33) (cwV 1 hts gX5_readOrder_X5_digit rfl rfl rfl (by decide +kernel) ⟨Nat.le_of_ble_eq_true rfl, Nat.le_of_ble_eq_true rfl⟩) hP hK hD hS hA (ci := 5) (q0 := 0) rfl rfl rfl rfl hl.1 (Nat.le_of_ble_eq_true rfl) rfl dX5_readOrder_239 ⟨Nat.zero_le _, Nat.zero_le _⟩ (fun H locs hP hD hS => ?_)
                  refine lv_iadd hx hb dX5_readOrder_242 ?_
                  obtain ⟨b34, hf⟩ := z_ckE hf
                  refine va_iast hx hb hK.1 hP hD hS 4 0 rfl rfl (z_inE b34) dX5_readOrder_243 (fun H locs hP hD hS => ?_)
                  obtain ⟨g35, e35, hf⟩ := z_ltE hf
                  have hP : va_P D vwCl (z_md c a g35) H := by rw [e35]; exact hP
                  have hD : va_D A (z_md c a g35) := by rw [e35]; exact hD
                  clear e35
                  refine lv_aload_n hx hb dX5_readOrder_244 rfl (lv_at hl 2 rfl) ?_
                  refine va_get (D := D) (ci := 5) (v := .ref (a 4)) (C := RX5) (T := TX5) (N := 13) hx hb hts iX5_readOrder_X5 hown hK.1 hP 0 rfl rfl 4 (by decide) (hts _ qX5_readOrder_19) (fun _ h9 => h9) rfl dX5_readOrder_245 ?_
                  refine lv_iload_n hx hb dX5_readOrder_248 rfl (lv_at hl 0 rfl) ?_
                  refine lv_iconst (v := (5 : Int32)) hx hb dX5_readOrder_249 (by decide) ?_
                  refine lv_iadd hx hb dX5_readOrder_250 ?_
                  refine lv_iconst (v := (-1 : Int32)) hx hb dX5_readOrder_251 (by decide) ?_
                  obtain ⟨b36, hf⟩ := z_ckE hf
                  refine va_iast hx hb hK.1 hP hD hS 4 0 rfl rfl (z_inE b36) dX5_readOrder_252 (fun H locs hP hD hS => ?_)
                  obtain ⟨g37, e37, hf⟩ := z_ltE hf
                  have hP : va_P D vwCl (z_md c a g37) H := by rw [e37]; exact hP
                  have hD : va_D A (z_md c a g37) := by rw [e37]; exact hD
                  clear e37
                  refine lv_aload_n hx hb dX5_readOrder_253 rfl (lv_at hl 2 rfl) ?_
                  refine va_get (D := D) (ci := 5) (v := .ref (a 4)) (C := RX5) (T := TX5) (N := 13) hx hb hts iX5_readOrder_X5 hown hK.1 hP 0 rfl rfl 4 (by decide) (hts _ qX5_readOrder_19) (fun _ h9 => h9) rfl dX5_readOrder_254 ?_
                  refine lv_iload_n hx hb dX5_readOrder_257 rfl (lv_at hl 0 rfl) ?_
                  refine lv_bipush (v := (6 : Int32)) hx hb dX5_readOrder_258 (by decide) ?_
                  refine lv_iadd hx hb dX5_readOrder_260 ?_
                  refine lv_iconst (v := (-1 : Int32)) hx hb dX5_readOrder_261 (by decide) ?_
                  obtain ⟨b38, hf⟩ := z_ckE hf
                  refine va_iast hx hb hK.1 hP hD hS 4 0 rfl rfl (z_inE b38) dX5_readOrder_262 (fun H locs hP hD hS => ?_)
                  obtain ⟨g39, e39, hf⟩ := z_ltE hf
                  have hP : va_P D vwCl (z_md c a g39) H := by rw [e39]; exact hP
                  have hD : va_D A (z_md c a g39) := by rw [e39]; exact hD
                  clear e39
                  refine lv_aload_n hx hb dX5_readOrder_263 rfl (lv_at hl 2 rfl) ?_
                  refine va_get (D := D) (ci := 5) (v := .ref (a 4)) (C := RX5) (T := TX5) (N := 13) hx hb hts iX5_readOrder_X5 hown hK.1 hP 0 rfl rfl 4 (by decide) (hts _ qX5_readOrder_19) (fun _ h9 => h9) rfl dX5_readOrder_264 ?_
                  refine lv_iload_n hx hb dX5_readOrder_267 rfl (lv_at hl 0 rfl) ?_
                  refine lv_bipush (v := (7 : Int32)) hx hb dX5_readOrder_268 (by decide) ?_
                  refine lv_iadd hx hb dX5_readOrder_270 ?_
                  refine lv_iconst (v := (0 : Int32)) hx hb dX5_readOrder_271 (by decide) ?_
                  obtain ⟨b40, hf⟩ := z_ckE hf
                  refine va_iast hx hb hK.1 hP hD hS 4 0 rfl rfl (z_inE b40) dX5_readOrder_272 (fun H locs hP hD hS => ?_)
                  obtain ⟨g41, e41, hf⟩ := z_ltE hf
                  have hP : va_P D vwCl (z_md c a g41) H := by rw [e41]; exact hP
                  have hD : va_D A (z_md c a g41) := by rw [e41]; exact hD
                  clear e41
                  refine lv_aload_n hx hb dX5_readOrder_273 rfl (lv_at hl 2 rfl) ?_
                  refine va_get (D := D) (ci := 5) (v := .ref (a 4)) (C := RX5) (T := TX5) (N := 13) hx hb hts iX5_readOrder_X5 hown hK.1 hP 0 rfl rfl 4 (by decide) (hts _ qX5_readOrder_19) (fun _ h9 => h9) rfl dX5_readOrder_274 ?_
                  refine lv_iload_n hx hb dX5_readOrder_277 rfl (lv_at hl 0 rfl) ?_
                  refine lv_bipush (v := (8 : Int32)) hx hb dX5_readOrder_278 (by decide) ?_
                  refine lv_iadd hx hb dX5_readOrder_280 ?_
                  refine lv_iconst (v := (-1 : Int32)) hx hb dX5_readOrder_281 (by decide) ?_
                  obtain ⟨b42, hf⟩ := z_ckE hf
                  refine va_iast hx hb hK.1 hP hD hS 4 0 rfl rfl (z_inE b42) dX5_readOrder_282 (fun H locs hP hD hS => ?_)
                  obtain ⟨g43, e43, hf⟩ := z_ltE hf
                  have hP : va_P D vwCl (z_md c a g43) H := by rw [e43]; exact hP
                  have hD : va_D A (z_md c a g43) := by rw [e43]; exact hD
                  clear e43
                  refine lv_aload_n hx hb dX5_readOrder_283 rfl (lv_at hl 2 rfl) ?_
                  refine va_get (D := D) (ci := 5) (v := .ref (a 4)) (C := RX5) (T := TX5) (N := 13) hx hb hts iX5_readOrder_X5 hown hK.1 hP 0 rfl rfl 4 (by decide) (hts _ qX5_readOrder_19) (fun _ h9 => h9) rfl dX5_readOrder_284 ?_
                  refine lv_iconst (v := (2 : Int32)) hx hb dX5_readOrder_287 (by decide) ?_
                  refine lv_dup2_11 hx hb dX5_readOrder_288 rfl rfl ?_
                  refine va_iald hx hb hK.1 hP 4 0 rfl rfl (z_inE (by decide)) dX5_readOrder_289 ?_
                  refine lv_iconst (v := (1 : Int32)) hx hb dX5_readOrder_290 (by decide) ?_
                  refine lv_iadd hx hb dX5_readOrder_291 ?_
                  refine va_iast hx hb hK.1 hP hD hS 4 0 rfl rfl (z_inE (by decide)) dX5_readOrder_292 (fun H locs hP hD hS => ?_)
                  obtain ⟨g44, e44, hf⟩ := z_ltE hf
                  have hP : va_P D vwCl (z_md c a g44) H := by rw [e44]; exact hP
                  have hD : va_D A (z_md c a g44) := by rw [e44]; exact hD
                  clear e44
                  refine lv_iconst (v := (-1 : Int32)) hx hb dX5_readOrder_293 (by decide) ?_
                  exact z_ri (wf := (z_md c a)) hx hb hr hlocks hP hD hS hf dX5_readOrder_294
                · have hf := z_ifF hf c19
                  refine lv_aload_n hx hb dX5_readOrder_120 rfl (lv_at hl 1 rfl) ?_
                  refine lv_iload_n hx hb dX5_readOrder_121 rfl (lv_at hl 2 rfl) ?_
                  refine lv_bipush (v := (7 : Int32)) hx hb dX5_readOrder_122 (by decide) ?_
                  refine lv_iadd hx hb dX5_readOrder_124 ?_
                  obtain ⟨r45, h45, hf⟩ := z_bE hf
                  refine z_cVi (As := [.int (p1 + (7 : Int32))]) (rest := []) (wf := (z_md c a)) (g := g) (u0 := g) ⟨hx, hb, hml, hown, hts⟩ (kX5_digit l D c N a H.size g (p1 + (7 : Int32)) r45 h45) (cwV 1 hts gX5_readOrder_X5_digit rfl rfl rfl (by decide +kernel) ⟨Nat.le_of_ble_eq_true rfl, Nat.le_of_ble_eq_true rfl⟩) hP hK hD hS hA (ci := 5) (q0 := 0) rfl rfl rfl rfl hl.1 (Nat.le_of_ble_eq_true rfl) rfl dX5_readOrder_125 ⟨Nat.zero_le _, Nat.zero_le _⟩ (fun H locs hP hD hS => ?_)
                  refine lv_if_ge (tgt := 138) hx hb dX5_readOrder_128 (by decide) (fun c46 => ?_) (fun c46 => ?_)
                  · have hf := z_ifT hf c46
                    refine lv_iload_n hx hb dX5_readOrder_138 rfl (lv_at hl 2 rfl) ?_
                    refine lv_bipush (v := (8 : Int32)) hx hb dX5_readOrder_139 (by decide) ?_
                    refine lv_iadd hx hb dX5_readOrder_141 ?_
                    exact z_ri (wf := (z_md c a)) hx hb hr hlocks hP hD hS hf dX5_readOrder_142
                  · have hf := z_ifF hf c46
                    refine lv_iload_n hx hb dX5_readOrder_131 rfl (lv_at hl 2 rfl) ?_
                    refine lv_bipush (v := (7 : Int32)) hx hb dX5_readOrder_132 (by decide) ?_
                    refine lv_iadd hx hb dX5_readOrder_134 ?_
                    refine lv_goto (tgt := 142) hx hb dX5_readOrder_135 (by decide) ?_
                    exact z_ri (wf := (z_md c a)) hx hb hr hlocks hP hD hS hf dX5_readOrder_142
            · have hf := z_ifF hf c13
              refine lv_iload_n hx hb dX5_readOrder_96 rfl (lv_at hl 0 rfl) ?_
              exact z_ri (wf := (z_md c a)) hx hb hr hlocks hP hD hS hf dX5_readOrder_97
          · have hf := z_ifF hf c11
            refine lv_iload_n hx hb dX5_readOrder_78 rfl (lv_at hl 0 rfl) ?_
            exact z_ri (wf := (z_md c a)) hx hb hr hlocks hP hD hS hf dX5_readOrder_79
        · have hf := z_ifT hf c9
          refine lv_iload_n hx hb dX5_readOrder_59 rfl (lv_at hl 1 rfl) ?_
          refine lv_iconst (v := (2 : Int32)) hx hb dX5_readOrder_60 (by decide) ?_
          refine lv_iadd hx hb dX5_readOrder_61 ?_
          exact z_ri (wf := (z_md c a)) hx hb hr hlocks hP hD hS hf dX5_readOrder_62
      · have hf := z_ifT hf c6
        refine lv_iload_n hx hb dX5_readOrder_39 rfl (lv_at hl 1 rfl) ?_
        refine lv_iconst (v := (1 : Int32)) hx hb dX5_readOrder_40 (by decide) ?_
        refine lv_iadd hx hb dX5_readOrder_41 ?_
        exact z_ri (wf := (z_md c a)) hx hb hr hlocks hP hD hS hf dX5_readOrder_42
    · have hf := z_ifT hf c3
      refine lv_iload_n hx hb dX5_readOrder_22 rfl (lv_at hl 1 rfl) ?_
      exact z_ri (wf := (z_md c a)) hx hb hr hlocks hP hD hS hf dX5_readOrder_23
abbrev rmX5_readText : Room := { frames := 4, cells := 0, slots := 0, locals := 89 }
theorem qX5_readText_19 : Cond.fieldLink RX5 19 "ProgramDrumModel" "draft" "[I" ∈ wsX5_readText := by decide +kernel
theorem iX5_readText_X5 : ∀ w ∈ wsX50, w ∈ wsX5_readText := by decide +kernel
theorem qX5_readText_45 : Cond.fieldLink RX5 45 "ProgramDrumModel" "textLength" "I" ∈ wsX5_readText := by decide +kernel
theorem qX5_readText_31 : Cond.fieldLink RX5 31 "ProgramDrumModel" "text" "[I" ∈ wsX5_readText := by decide +kernel
set_option maxRecDepth 100000 in
set_option maxHeartbeats 4000000 in
theorem kX5_readText (l : Launch) (D : va_G) (c : Nat → ClassId) (N : Nat) (a : Nat → Nat) (sz : Nat) (g : z_R) (r0 : Int32) (g0 : z_R) (hf : fX5_readText N g = some (r0, g0)) : Met l yX5_readText wsX5_readText rmX5_readText (z_Pc D c sz (z_md c a g) [.ref (a 0)]) (z_Qi D (z_md c a) r0 g0 (va_A (z_md c a g) sz)) 0 0 (va_A (z_md c a g) sz) := by
  refine z_ofM (cc := cX5_readText) (maxL := 4) (ret := (some .int)) (Qf := fun A => z_Qi D (z_md c a) r0 g0 A) (plainFor_of_name (by decide)) rfl (Nat.le_of_ble_eq_true rfl) ?_
  intro p e s m args below meth co A ls hx hb hr hml hts hown hlocks hnm hA hP hK hD hl hsz
  have hl : lv_has ls 4 [(0, .ref (a 0))] := hl
  have hown : s.vm.findClass RX5 = some m.cls := hown
  obtain ⟨H, hH⟩ : ∃ H, H = s.heap := ⟨_, rfl⟩
  have hS : va_S A s.heap H [] := by rw [hH]; exact va_S.rf
  rw [← hH] at hP ⊢
  clear hH
  have L118 : ∀ (fu : Nat) (x2 : Int32) (g : z_R), lX5_readText_118 N fu x2 g = some (r0, g0) → ∀ (H : Heap) (locs : List Loc) (ls : Array Slot), va_P D vwCl (z_md c a g) H → va_D A (z_md c a g) → va_S A s.heap H locs → lv_has ls 4 [(0, .ref (a 0)), (2, .int x2)] → W p l e rmX5_readText s m args below meth co H locs 0 0 (MQ below (z_Qi D (z_md c a) r0 g0 A) args s 0 0 A) (F0 m 118 ls []) := by
    intro fu
    induction fu with
    | zero =>
      intro x2 g hf
      have hf : (none : Option (Int32 × z_R)) = some _ := hf
      cases hf
    | succ fu ih =>
      intro x2 g hf H locs ls hP hD hS hl
      rw [lX5_readText_118.eq_2] at hf
      refine lv_iload_n hx hb dX5_readText_118 rfl (lv_at hl 1 rfl) ?_
      refine lv_aload_n hx hb dX5_readText_119 rfl (lv_at hl 0 rfl) ?_
      refine va_get (D := D) (ci := 5) (v := .int (g 0 2)) (C := RX5) (T := TX5) (N := 13) hx hb hts iX5_readText_X5 hown hK.1 hP 0 rfl rfl 10 (by decide) (hts _ qX5_readText_45) (fun _ h9 => h9) rfl dX5_readText_120 ?_
      refine lv_icmp_ge (tgt := 145) hx hb dX5_readText_123 (by decide) (fun c15 => ?_) (fun c15 => ?_)
      · have hf := z_ifT hf c15
        refine lv_iconst (v := (-1 : Int32)) hx hb dX5_readText_145 (by decide) ?_
        exact z_ri (wf := (z_md c a)) hx hb hr hlocks hP hD hS hf dX5_readText_146
      · have hf := z_ifF hf c15
        refine lv_aload_n hx hb dX5_readText_126 rfl (lv_at hl 0 rfl) ?_
        refine lv_iload_n hx hb dX5_readText_127 rfl (lv_at hl 1 rfl) ?_
        obtain ⟨r16, g16, h16, hf⟩ := z_b2E hf
        refine z_cVi (As := [.int x2]) (rest := []) (wf := (z_md c a)) (g := g) (u0 := g16) ⟨hx, hb, hml, hown, hts⟩ (kX5_readOrder l D c N a H.size g x2 r16 g16 h16) (cwV 1 hts gX5_readText_X5_readOrder rfl rfl rfl (by decide +kernel) ⟨Nat.le_of_ble_eq_true rfl, Nat.le_of_ble_eq_true rfl⟩) hP hK hD hS hA (ci := 5) (q0 := 0) rfl rfl rfl rfl hl.1 (Nat.le_of_ble_eq_true rfl) rfl dX5_readText_128 ⟨Nat.zero_le _, Nat.zero_le _⟩ (fun H locs hP hD hS => ?_)
        refine lv_istore_n (lv' := [(3, .int r16), (0, .ref (a 0)), (2, .int x2)]) hx hb dX5_readText_131 rfl hl (by decide) rfl (fun ls hl => ?_)
        refine lv_iload_n hx hb dX5_readText_132 rfl (lv_at hl 0 rfl) ?_
        refine lv_iconst (v := (-1 : Int32)) hx hb dX5_readText_133 (by decide) ?_
        refine lv_icmp_eq (tgt := 139) hx hb dX5_readText_134 (by decide) (fun c17 => ?_) (fun c17 => ?_)
        · have hf := z_ifT hf c17
          refine lv_iinc (v := (x2 + (9 : Int32))) (lv' := [(2, .int (x2 + (9 : Int32))), (3, .int r16), (0, .ref (a 0))]) hx hb dX5_readText_139 hl (k := 2) rfl rfl (by decide) rfl (fun ls hl => ?_)
          refine lv_goto (tgt := 118) hx hb dX5_readText_142 (by decide) ?_
          exact ih _ _ hf H locs ls hP hD hS (lv_sub hl [2, 0] rfl)
        · have hf := z_ifF hf c17
          refine lv_iload_n hx hb dX5_readText_137 rfl (lv_at hl 0 rfl) ?_
          exact z_ri (wf := (z_md c a)) hx hb hr hlocks hP hD hS hf dX5_readText_138
  have L2 : ∀ (fu : Nat) (x1 : Int32) (g : z_R), lX5_readText_2 N fu x1 g = some (r0, g0) → ∀ (H : Heap) (locs : List Loc) (ls : Array Slot), va_P D vwCl (z_md c a g) H → va_D A (z_md c a g) → va_S A s.heap H locs → lv_has ls 4 [(0, .ref (a 0)), (1, .int x1)] → W p l e rmX5_readText s m args below meth co H locs 0 0 (MQ below (z_Qi D (z_md c a) r0 g0 A) args s 0 0 A) (F0 m 2 ls []) := by
    intro fu
    induction fu with
    | zero =>
      intro x1 g hf
      have hf : (none : Option (Int32 × z_R)) = some _ := hf
      cases hf
    | succ fu ih =>
      intro x1 g hf H locs ls hP hD hS hl
      rw [lX5_readText_2.eq_2] at hf
      refine lv_iload_n hx hb dX5_readText_2 rfl (lv_at hl 1 rfl) ?_
      refine lv_sipush (v := (925 : Int32)) hx hb dX5_readText_3 (by decide) ?_
      refine lv_icmp_ge (tgt := 22) hx hb dX5_readText_6 (by decide) (fun c1 => ?_) (fun c1 => ?_)
      · have hf := z_ifT hf c1
        refine lv_aload_n hx hb dX5_readText_22 rfl (lv_at hl 0 rfl) ?_
        refine va_get (D := D) (ci := 5) (v := .ref (a 4)) (C := RX5) (T := TX5) (N := 13) hx hb hts iX5_readText_X5 hown hK.1 hP 0 rfl rfl 4 (by decide) (hts _ qX5_readText_19) (fun _ h9 => h9) rfl dX5_readText_23 ?_
        refine lv_iconst (v := (4 : Int32)) hx hb dX5_readText_26 (by decide) ?_
        refine lv_iconst (v := (-1 : Int32)) hx hb dX5_readText_27 (by decide) ?_
        refine va_iast hx hb hK.1 hP hD hS 4 0 rfl rfl (z_inE (by decide)) dX5_readText_28 (fun H locs hP hD hS => ?_)
        obtain ⟨g2, e2, hf⟩ := z_ltE hf
        have hP : va_P D vwCl (z_md c a g2) H := by rw [e2]; exact hP
        have hD : va_D A (z_md c a g2) := by rw [e2]; exact hD
        clear e2
        refine lv_aload_n hx hb dX5_readText_29 rfl (lv_at hl 0 rfl) ?_
        refine va_get (D := D) (ci := 5) (v := .int (g2 0 2)) (C := RX5) (T := TX5) (N := 13) hx hb hts iX5_readText_X5 hown hK.1 hP 0 rfl rfl 10 (by decide) (hts _ qX5_readText_45) (fun _ h9 => h9) rfl dX5_readText_30 ?_
        refine lv_if_eq (tgt := 47) hx hb dX5_readText_33 (by decide) (fun c3 => ?_) (fun c3 => ?_)
        · have hf := z_ifT hf c3
          refine lv_iconst (v := (0 : Int32)) hx hb dX5_readText_47 (by decide) ?_
          exact z_ri (wf := (z_md c a)) hx hb hr hlocks hP hD hS hf dX5_readText_48
        · have hf := z_ifF hf c3
          refine lv_aload_n hx hb dX5_readText_36 rfl (lv_at hl 0 rfl) ?_
          refine va_get (D := D) (ci := 5) (v := .ref (a 8)) (C := RX5) (T := TX5) (N := 13) hx hb hts iX5_readText_X5 hown hK.1 hP 0 rfl rfl 9 (by decide) (hts _ qX5_readText_31) (fun _ h9 => h9) rfl dX5_readText_37 ?_
          refine lv_iconst (v := (0 : Int32)) hx hb dX5_readText_40 (by decide) ?_
          refine va_iald hx hb hK.1 hP 8 0 rfl rfl (z_inE (by decide)) dX5_readText_41 ?_
          refine lv_bipush (v := (68 : Int32)) hx hb dX5_readText_42 (by decide) ?_
          refine lv_icmp_eq (tgt := 49) hx hb dX5_readText_44 (by decide) (fun c4 => ?_) (fun c4 => ?_)
          · have hf := z_ifT hf c4
            refine lv_aload_n hx hb dX5_readText_49 rfl (lv_at hl 0 rfl) ?_
            refine lv_iconst (v := (1 : Int32)) hx hb dX5_readText_50 (by decide) ?_
            obtain ⟨r5, h5, hf⟩ := z_bE hf
            refine z_cVi (As := [.int (1 : Int32)]) (rest := []) (wf := (z_md c a)) (g := g2) (u0 := g2) ⟨hx, hb, hml, hown, hts⟩ (kX5_digit l D c N a H.size g2 (1 : Int32) r5 h5) (cwV 1 hts gX5_readText_X5_digit rfl rfl rfl (by decide +kernel) ⟨Nat.le_of_ble_eq_true rfl, Nat.le_of_ble_eq_true rfl⟩) hP hK hD hS hA (ci := 5) (q0 := 0) rfl rfl rfl rfl hl.1 (Nat.le_of_ble_eq_true rfl) rfl dX5_readText_51 ⟨Nat.zero_le _, Nat.zero_le _⟩ (fun H locs hP hD hS => ?_)
            refine lv_istore_n (lv' := [(1, .int r5), (0, .ref (a 0))]) hx hb dX5_readText_54 rfl hl (by decide) rfl (fun ls hl => ?_)
            refine lv_iload_n hx hb dX5_readText_55 rfl (lv_at hl 0 rfl) ?_
            refine lv_iconst (v := (0 : Int32)) hx hb dX5_readText_56 (by decide) ?_
            refine lv_iconst (v := (4 : Int32)) hx hb dX5_readText_57 (by decide) ?_
            obtain ⟨r6, h6, hf⟩ := z_bE hf
            refine z_cSi (As := [.int r5, .int (0 : Int32), .int (4 : Int32)]) (rest := []) ⟨hx, hb, hml, hown, hts⟩ (kX5_within l D c N H.size r5 (0 : Int32) (4 : Int32) r6 h6) (va_cwS 3 hts gX5_readText_X5_within rfl rfl rfl (by decide +kernel) ⟨Nat.le_of_ble_eq_true rfl, Nat.le_of_ble_eq_true rfl⟩) hP hK hS hA rfl hl.1 (Nat.le_of_ble_eq_true rfl) rfl dX5_readText_58 ⟨Nat.zero_le _, Nat.zero_le _⟩ (fun H locs hP hS => ?_)
            refine lv_if_ne (tgt := 66) hx hb dX5_readText_61 (by decide) (fun c7 => ?_) (fun c7 => ?_)
            · have hf := z_ifF hf c7
              refine lv_aload_n hx hb dX5_readText_66 rfl (lv_at hl 1 rfl) ?_
              refine lv_iconst (v := (2 : Int32)) hx hb dX5_readText_67 (by decide) ?_
              obtain ⟨r8, h8, hf⟩ := z_bE hf
              refine z_cVi (As := [.int (2 : Int32)]) (rest := []) (wf := (z_md c a)) (g := g2) (u0 := g2) ⟨hx, hb, hml, hown, hts⟩ (kX5_digit l D c N a H.size g2 (2 : Int32) r8 h8) (cwV 1 hts gX5_readText_X5_digit rfl rfl rfl (by decide +kernel) ⟨Nat.le_of_ble_eq_true rfl, Nat.le_of_ble_eq_true rfl⟩) hP hK hD hS hA (ci := 5) (q0 := 0) rfl rfl rfl rfl hl.1 (Nat.le_of_ble_eq_true rfl) rfl dX5_readText_68 ⟨Nat.zero_le _, Nat.zero_le _⟩ (fun H locs hP hD hS => ?_)
              refine lv_iload_n hx hb dX5_readText_71 rfl (lv_at hl 0 rfl) ?_
              refine lv_if_ne (tgt := 80) hx hb dX5_readText_72 (by decide) (fun c9 => ?_) (fun c9 => ?_)
              · have hf := z_ifF hf c9
                refine lv_iconst (v := (0 : Int32)) hx hb dX5_readText_80 (by decide) ?_
                refine lv_iload_n hx hb dX5_readText_81 rfl (lv_at hl 0 rfl) ?_
                refine lv_iconst (v := (4 : Int32)) hx hb dX5_readText_82 (by decide) ?_
                refine lv_icmp_ne (tgt := 90) hx hb dX5_readText_83 (by decide) (fun c10 => ?_) (fun c10 => ?_)
                · have hf := z_ifF hf c10
                  refine lv_bipush (v := (9 : Int32)) hx hb dX5_readText_90 (by decide) ?_
                  obtain ⟨r11, h11, hf⟩ := z_bE hf
                  refine z_cSi (As := [.int r8, .int (0 : Int32), .int (9 : Int32)]) (rest := []) ⟨hx, hb, hml, hown, hts⟩ (kX5_within l D c N H.size r8 (0 : Int32) (9 : Int32) r11 h11) (va_cwS 3 hts gX5_readText_X5_within rfl rfl rfl (by decide +kernel) ⟨Nat.le_of_ble_eq_true rfl, Nat.le_of_ble_eq_true rfl⟩) hP hK hS hA rfl hl.1 (Nat.le_of_ble_eq_true rfl) rfl dX5_readText_92 ⟨Nat.zero_le _, Nat.zero_le _⟩ (fun H locs hP hS => ?_)
                  refine lv_if_ne (tgt := 100) hx hb dX5_readText_95 (by decide) (fun c12 => ?_) (fun c12 => ?_)
                  · have hf := z_ifF hf c12
                    refine lv_aload_n hx hb dX5_readText_100 rfl (lv_at hl 1 rfl) ?_
                    refine va_get (D := D) (ci := 5) (v := .ref (a 4)) (C := RX5) (T := TX5) (N := 13) hx hb hts iX5_readText_X5 hown hK.1 hP 0 rfl rfl 4 (by decide) (hts _ qX5_readText_19) (fun _ h9 => h9) rfl dX5_readText_101 ?_
                    refine lv_iconst (v := (0 : Int32)) hx hb dX5_readText_104 (by decide) ?_
                    refine lv_bipush (v := (10 : Int32)) hx hb dX5_readText_105 (by decide) ?_
                    refine lv_iload_n hx hb dX5_readText_107 rfl (lv_at hl 0 rfl) ?_
                    refine lv_imul hx hb dX5_readText_108 ?_
                    refine lv_aload_n hx hb dX5_readText_109 rfl (lv_at hl 1 rfl) ?_
                    refine lv_iconst (v := (2 : Int32)) hx hb dX5_readText_110 (by decide) ?_
                    obtain ⟨r13, h13, hf⟩ := z_bE hf
                    refine z_cVi (As := [.int (2 : Int32)]) (rest := [.int ((10 : Int32) * r5), .int (0 : Int32), .ref (a 4)]) (wf := (z_md c a)) (g := g2) (u0 := g2) ⟨hx, hb, hml, hown, hts⟩ (kX5_digit l D c N a H.size g2 (2 : Int32) r13 h13) (cwV 1 hts gX5_readText_X5_digit rfl rfl rfl (by decide +kernel) ⟨Nat.le_of_ble_eq_true rfl, Nat.le_of_ble_eq_true rfl⟩) hP hK hD hS hA (ci := 5) (q0 := 0) rfl rfl rfl rfl hl.1 (Nat.le_of_ble_eq_true rfl) rfl dX5_readText_111 ⟨Nat.zero_le _, Nat.zero_le _⟩ (fun H locs hP hD hS => ?_)
                    refine lv_iadd hx hb dX5_readText_114 ?_
                    refine va_iast hx hb hK.1 hP hD hS 4 0 rfl rfl (z_inE (by decide)) dX5_readText_115 (fun H locs hP hD hS => ?_)
                    obtain ⟨g14, e14, hf⟩ := z_ltE hf
                    have hP : va_P D vwCl (z_md c a g14) H := by rw [e14]; exact hP
                    have hD : va_D A (z_md c a g14) := by rw [e14]; exact hD
                    clear e14
                    refine lv_iconst (v := (3 : Int32)) hx hb dX5_readText_116 (by decide) ?_
                    refine lv_istore_n (lv' := [(2, .int (3 : Int32)), (1, .int r5), (0, .ref (a 0))]) hx hb dX5_readText_117 rfl hl (by decide) rfl (fun ls hl => ?_)
                    exact L118 N _ _ hf H locs ls hP hD hS (lv_sub hl [2, 0] rfl)
                  · have hf := z_ifT hf c12
                    refine lv_iconst (v := (2 : Int32)) hx hb dX5_readText_98 (by decide) ?_
                    exact z_ri (wf := (z_md c a)) hx hb hr hlocks hP hD hS hf dX5_readText_99
                · have hf := z_ifT hf c10
                  refine lv_iconst (v := (0 : Int32)) hx hb dX5_readText_86 (by decide) ?_
                  refine lv_goto (tgt := 92) hx hb dX5_readText_87 (by decide) ?_
                  obtain ⟨r18, h18, hf⟩ := z_bE hf
                  refine z_cSi (As := [.int r8, .int (0 : Int32), .int (0 : Int32)]) (rest := []) ⟨hx, hb, hml, hown, hts⟩ (kX5_within l D c N H.size r8 (0 : Int32) (0 : Int32) r18 h18) (va_cwS 3 hts gX5_readText_X5_within rfl rfl rfl (by decide +kernel) ⟨Nat.le_of_ble_eq_true rfl, Nat.le_of_ble_eq_true rfl⟩) hP hK hS hA rfl hl.1 (Nat.le_of_ble_eq_true rfl) rfl dX5_readText_92 ⟨Nat.zero_le _, Nat.zero_le _⟩ (fun H locs hP hS => ?_)
                  refine lv_if_ne (tgt := 100) hx hb dX5_readText_95 (by decide) (fun c19 => ?_) (fun c19 => ?_)
                  · have hf := z_ifF hf c19
                    refine lv_aload_n hx hb dX5_readText_100 rfl (lv_at hl 1 rfl) ?_
                    refine va_get (D := D) (ci := 5) (v := .ref (a 4)) (C := RX5) (T := TX5) (N := 13) hx hb hts iX5_readText_X5 hown hK.1 hP 0 rfl rfl 4 (by decide) (hts _ qX5_readText_19) (fun _ h9 => h9) rfl dX5_readText_101 ?_
                    refine lv_iconst (v := (0 : Int32)) hx hb dX5_readText_104 (by decide) ?_
                    refine lv_bipush (v := (10 : Int32)) hx hb dX5_readText_105 (by decide) ?_
                    refine lv_iload_n hx hb dX5_readText_107 rfl (lv_at hl 0 rfl) ?_
                    refine lv_imul hx hb dX5_readText_108 ?_
                    refine lv_aload_n hx hb dX5_readText_109 rfl (lv_at hl 1 rfl) ?_
                    refine lv_iconst (v := (2 : Int32)) hx hb dX5_readText_110 (by decide) ?_
                    obtain ⟨r20, h20, hf⟩ := z_bE hf
                    refine z_cVi (As := [.int (2 : Int32)]) (rest := [.int ((10 : Int32) * r5), .int (0 : Int32), .ref (a 4)]) (wf := (z_md c a)) (g := g2) (u0 := g2) ⟨hx, hb, hml, hown, hts⟩ (kX5_digit l D c N a H.size g2 (2 : Int32) r20 h20) (cwV 1 hts gX5_readText_X5_digit rfl rfl rfl (by decide +kernel) ⟨Nat.le_of_ble_eq_true rfl, Nat.le_of_ble_eq_true rfl⟩) hP hK hD hS hA (ci := 5) (q0 := 0) rfl rfl rfl rfl hl.1 (Nat.le_of_ble_eq_true rfl) rfl dX5_readText_111 ⟨Nat.zero_le _, Nat.zero_le _⟩ (fun H locs hP hD hS => ?_)
                    refine lv_iadd hx hb dX5_readText_114 ?_
                    refine va_iast hx hb hK.1 hP hD hS 4 0 rfl rfl (z_inE (by decide)) dX5_readText_115 (fun H locs hP hD hS => ?_)
                    obtain ⟨g21, e21, hf⟩ := z_ltE hf
                    have hP : va_P D vwCl (z_md c a g21) H := by rw [e21]; exact hP
                    have hD : va_D A (z_md c a g21) := by rw [e21]; exact hD
                    clear e21
                    refine lv_iconst (v := (3 : Int32)) hx hb dX5_readText_116 (by decide) ?_
                    refine lv_istore_n (lv' := [(2, .int (3 : Int32)), (1, .int r5), (0, .ref (a 0))]) hx hb dX5_readText_117 rfl hl (by decide) rfl (fun ls hl => ?_)
                    exact L118 N _ _ hf H locs ls hP hD hS (lv_sub hl [2, 0] rfl)
                  · have hf := z_ifT hf c19
                    refine lv_iconst (v := (2 : Int32)) hx hb dX5_readText_98 (by decide) ?_
                    exact z_ri (wf := (z_md c a)) hx hb hr hlocks hP hD hS hf dX5_readText_99
              · have hf := z_ifT hf c9
                refine lv_bipush (v := (6 : Int32)) hx hb dX5_readText_75 (by decide) ?_
                refine lv_goto (tgt := 81) hx hb dX5_readText_77 (by decide) ?_
                refine lv_iload_n hx hb dX5_readText_81 rfl (lv_at hl 0 rfl) ?_
                refine lv_iconst (v := (4 : Int32)) hx hb dX5_readText_82 (by decide) ?_
                refine lv_icmp_ne (tgt := 90) hx hb dX5_readText_83 (by decide) (fun c22 => ?_) (fun c22 => ?_)
                · have hf := z_ifF hf c22
                  refine lv_bipush (v := (9 : Int32)) hx hb dX5_readText_90 (by decide) ?_
                  obtain ⟨r23, h23, hf⟩ := z_bE hf
                  refine z_cSi (As := [.int r8, .int (6 : Int32), .int (9 : Int32)]) (rest := []) ⟨hx, hb, hml, hown, hts⟩ (kX5_within l D c N H.size r8 (6 : Int32) (9 : Int32) r23 h23) (va_cwS 3 hts gX5_readText_X5_within rfl rfl rfl (by decide +kernel) ⟨Nat.le_of_ble_eq_true rfl, Nat.le_of_ble_eq_true rfl⟩) hP hK hS hA rfl hl.1 (Nat.le_of_ble_eq_true rfl) rfl dX5_readText_92 ⟨Nat.zero_le _, Nat.zero_le _⟩ (fun H locs hP hS => ?_)
                  refine lv_if_ne (tgt := 100) hx hb dX5_readText_95 (by decide) (fun c24 => ?_) (fun c24 => ?_)
                  · have hf := z_ifF hf c24
                    refine lv_aload_n hx hb dX5_readText_100 rfl (lv_at hl 1 rfl) ?_
                    refine va_get (D := D) (ci := 5) (v := .ref (a 4)) (C := RX5) (T := TX5) (N := 13) hx hb hts iX5_readText_X5 hown hK.1 hP 0 rfl rfl 4 (by decide) (hts _ qX5_readText_19) (fun _ h9 => h9) rfl dX5_readText_101 ?_
                    refine lv_iconst (v := (0 : Int32)) hx hb dX5_readText_104 (by decide) ?_
                    refine lv_bipush (v := (10 : Int32)) hx hb dX5_readText_105 (by decide) ?_
                    refine lv_iload_n hx hb dX5_readText_107 rfl (lv_at hl 0 rfl) ?_
                    refine lv_imul hx hb dX5_readText_108 ?_
                    refine lv_aload_n hx hb dX5_readText_109 rfl (lv_at hl 1 rfl) ?_
                    refine lv_iconst (v := (2 : Int32)) hx hb dX5_readText_110 (by decide) ?_
                    obtain ⟨r25, h25, hf⟩ := z_bE hf
                    refine z_cVi (As := [.int (2 : Int32)]) (rest := [.int ((10 : Int32) * r5), .int (0 : Int32), .ref (a 4)]) (wf := (z_md c a)) (g := g2) (u0 := g2) ⟨hx, hb, hml, hown, hts⟩ (kX5_digit l D c N a H.size g2 (2 : Int32) r25 h25) (cwV 1 hts gX5_readText_X5_digit rfl rfl rfl (by decide +kernel) ⟨Nat.le_of_ble_eq_true rfl, Nat.le_of_ble_eq_true rfl⟩) hP hK hD hS hA (ci := 5) (q0 := 0) rfl rfl rfl rfl hl.1 (Nat.le_of_ble_eq_true rfl) rfl dX5_readText_111 ⟨Nat.zero_le _, Nat.zero_le _⟩ (fun H locs hP hD hS => ?_)
                    refine lv_iadd hx hb dX5_readText_114 ?_
                    refine va_iast hx hb hK.1 hP hD hS 4 0 rfl rfl (z_inE (by decide)) dX5_readText_115 (fun H locs hP hD hS => ?_)
                    obtain ⟨g26, e26, hf⟩ := z_ltE hf
                    have hP : va_P D vwCl (z_md c a g26) H := by rw [e26]; exact hP
                    have hD : va_D A (z_md c a g26) := by rw [e26]; exact hD
                    clear e26
                    refine lv_iconst (v := (3 : Int32)) hx hb dX5_readText_116 (by decide) ?_
                    refine lv_istore_n (lv' := [(2, .int (3 : Int32)), (1, .int r5), (0, .ref (a 0))]) hx hb dX5_readText_117 rfl hl (by decide) rfl (fun ls hl => ?_)
                    exact L118 N _ _ hf H locs ls hP hD hS (lv_sub hl [2, 0] rfl)
                  · have hf := z_ifT hf c24
                    refine lv_iconst (v := (2 : Int32)) hx hb dX5_readText_98 (by decide) ?_
                    exact z_ri (wf := (z_md c a)) hx hb hr hlocks hP hD hS hf dX5_readText_99
                · have hf := z_ifT hf c22
                  refine lv_iconst (v := (0 : Int32)) hx hb dX5_readText_86 (by decide) ?_
                  refine lv_goto (tgt := 92) hx hb dX5_readText_87 (by decide) ?_
                  obtain ⟨r27, h27, hf⟩ := z_bE hf
                  refine z_cSi (As := [.int r8, .int (6 : Int32), .int (0 : Int32)]) (rest := []) ⟨hx, hb, hml, hown, hts⟩ (kX5_within l D c N H.size r8 (6 : Int32) (0 : Int32) r27 h27) (va_cwS 3 hts gX5_readText_X5_within rfl rfl rfl (by decide +kernel) ⟨Nat.le_of_ble_eq_true rfl, Nat.le_of_ble_eq_true rfl⟩) hP hK hS hA rfl hl.1 (Nat.le_of_ble_eq_true rfl) rfl dX5_readText_92 ⟨Nat.zero_le _, Nat.zero_le _⟩ (fun H locs hP hS => ?_)
                  refine lv_if_ne (tgt := 100) hx hb dX5_readText_95 (by decide) (fun c28 => ?_) (fun c28 => ?_)
                  · have hf := z_ifF hf c28
                    refine lv_aload_n hx hb dX5_readText_100 rfl (lv_at hl 1 rfl) ?_
                    refine va_get (D := D) (ci := 5) (v := .ref (a 4)) (C := RX5) (T := TX5) (N := 13) hx hb hts iX5_readText_X5 hown hK.1 hP 0 rfl rfl 4 (by decide) (hts _ qX5_readText_19) (fun _ h9 => h9) rfl dX5_readText_101 ?_
                    refine lv_iconst (v := (0 : Int32)) hx hb dX5_readText_104 (by decide) ?_
                    refine lv_bipush (v := (10 : Int32)) hx hb dX5_readText_105 (by decide) ?_
                    refine lv_iload_n hx hb dX5_readText_107 rfl (lv_at hl 0 rfl) ?_
                    refine lv_imul hx hb dX5_readText_108 ?_
                    refine lv_aload_n hx hb dX5_readText_109 rfl (lv_at hl 1 rfl) ?_
                    refine lv_iconst (v := (2 : Int32)) hx hb dX5_readText_110 (by decide) ?_
                    obtain ⟨r29, h29, hf⟩ := z_bE hf
                    refine z_cVi (As := [.int (2 : Int32)]) (rest := [.int ((10 : Int32) * r5), .int (0 : Int32), .ref (a 4)]) (wf := (z_md c a)) (g := g2) (u0 := g2) ⟨hx, hb, hml, hown, hts⟩ (kX5_digit l D c N a H.size g2 (2 : Int32) r29 h29) (cwV 1 hts gX5_readText_X5_digit rfl rfl rfl (by decide +kernel) ⟨Nat.le_of_ble_eq_true rfl, Nat.le_of_ble_eq_true rfl⟩) hP hK hD hS hA (ci := 5) (q0 := 0) rfl rfl rfl rfl hl.1 (Nat.le_of_ble_eq_true rfl) rfl dX5_readText_111 ⟨Nat.zero_le _, Nat.zero_le _⟩ (fun H locs hP hD hS => ?_)
                    refine lv_iadd hx hb dX5_readText_114 ?_
                    refine va_iast hx hb hK.1 hP hD hS 4 0 rfl rfl (z_inE (by decide)) dX5_readText_115 (fun H locs hP hD hS => ?_)
                    obtain ⟨g30, e30, hf⟩ := z_ltE hf
                    have hP : va_P D vwCl (z_md c a g30) H := by rw [e30]; exact hP
                    have hD : va_D A (z_md c a g30) := by rw [e30]; exact hD
                    clear e30
                    refine lv_iconst (v := (3 : Int32)) hx hb dX5_readText_116 (by decide) ?_
                    refine lv_istore_n (lv' := [(2, .int (3 : Int32)), (1, .int r5), (0, .ref (a 0))]) hx hb dX5_readText_117 rfl hl (by decide) rfl (fun ls hl => ?_)
                    exact L118 N _ _ hf H locs ls hP hD hS (lv_sub hl [2, 0] rfl)
                  · have hf := z_ifT hf c28
                    refine lv_iconst (v := (2 : Int32)) hx hb dX5_readText_98 (by decide) ?_
                    exact z_ri (wf := (z_md c a)) hx hb hr hlocks hP hD hS hf dX5_readText_99
            · have hf := z_ifT hf c7
              refine lv_iconst (v := (1 : Int32)) hx hb dX5_readText_64 (by decide) ?_
              exact z_ri (wf := (z_md c a)) hx hb hr hlocks hP hD hS hf dX5_readText_65
          · have hf := z_ifF hf c4
            refine lv_iconst (v := (0 : Int32)) hx hb dX5_readText_47 (by decide) ?_
            exact z_ri (wf := (z_md c a)) hx hb hr hlocks hP hD hS hf dX5_readText_48
      · have hf := z_ifF hf c1
        refine lv_aload_n hx hb dX5_readText_9 rfl (lv_at hl 0 rfl) ?_
        refine va_get (D := D) (ci := 5) (v := .ref (a 4)) (C := RX5) (T := TX5) (N := 13) hx hb hts iX5_readText_X5 hown hK.1 hP 0 rfl rfl 4 (by decide) (hts _ qX5_readText_19) (fun _ h9 => h9) rfl dX5_readText_10 ?_
        refine lv_iload_n hx hb dX5_readText_13 rfl (lv_at hl 1 rfl) ?_
        refine lv_iconst (v := (0 : Int32)) hx hb dX5_readText_14 (by decide) ?_
        obtain ⟨b31, hf⟩ := z_ckE hf
        refine va_iast hx hb hK.1 hP hD hS 4 0 rfl rfl (z_inE b31) dX5_readText_15 (fun H locs hP hD hS => ?_)
        obtain ⟨g32, e32, hf⟩ := z_ltE hf
        have hP : va_P D vwCl (z_md c a g32) H := by rw [e32]; exact hP
        have hD : va_D A (z_md c a g32) := by rw [e32]; exact hD
        clear e32
        refine lv_iinc (v := (x1 + (1 : Int32))) (lv' := [(1, .int (x1 + (1 : Int32))), (0, .ref (a 0))]) hx hb dX5_readText_16 hl (k := 1) rfl rfl (by decide) rfl (fun ls hl => ?_)
        refine lv_goto (tgt := 2) hx hb dX5_readText_19 (by decide) ?_
        exact ih _ _ hf H locs ls hP hD hS (lv_sub hl [1, 0] rfl)
  unfold fX5_readText at hf
  generalize ([] : List Loc) = locs at hS ⊢
  refine lv_iconst (v := (0 : Int32)) hx hb dX5_readText_0 (by decide) ?_
  refine lv_istore_n (lv' := [(1, .int (0 : Int32)), (0, .ref (a 0))]) hx hb dX5_readText_1 rfl hl (by decide) rfl (fun ls hl => ?_)
  exact L2 N _ _ hf H locs ls hP hD hS (lv_sub hl [1, 0] rfl)
abbrev rmX5_errorPosition : Room := { frames := 5, cells := 0, slots := 0, locals := 112 }
theorem qX5_errorPosition_37 : Cond.fieldLink RX5 37 "ProgramDrumModel" "thrown" "I" ∈ wsX5_errorPosition := by decide +kernel
theorem iX5_errorPosition_X5 : ∀ w ∈ wsX50, w ∈ wsX5_errorPosition := by decide +kernel
set_option maxRecDepth 100000 in
set_option maxHeartbeats 4000000 in
theorem kX5_errorPosition (l : Launch) (D : va_G) (c : Nat → ClassId) (N : Nat) (a : Nat → Nat) (sz : Nat) (g : z_R) (r0 : Int32) (g0 : z_R) (hf : fX5_errorPosition N g = some (r0, g0)) : Met l yX5_errorPosition wsX5_errorPosition rmX5_errorPosition (z_Pc D c sz (z_md c a g) [.ref (a 0)]) (z_Qi D (z_md c a) r0 g0 (va_A (z_md c a g) sz)) 0 0 (va_A (z_md c a g) sz) := by
  refine z_ofM (cc := cX5_errorPosition) (maxL := 1) (ret := (some .int)) (Qf := fun A => z_Qi D (z_md c a) r0 g0 A) (plainFor_of_name (by decide)) rfl (Nat.le_of_ble_eq_true rfl) ?_
  intro p e s m args below meth co A ls hx hb hr hml hts hown hlocks hnm hA hP hK hD hl hsz
  have hl : lv_has ls 1 [(0, .ref (a 0))] := hl
  have hown : s.vm.findClass RX5 = some m.cls := hown
  obtain ⟨H, hH⟩ : ∃ H, H = s.heap := ⟨_, rfl⟩
  have hS : va_S A s.heap H [] := by rw [hH]; exact va_S.rf
  rw [← hH] at hP ⊢
  clear hH
  unfold fX5_errorPosition at hf
  generalize ([] : List Loc) = locs at hS ⊢
  refine lv_aload_n hx hb dX5_errorPosition_0 rfl (lv_at hl 0 rfl) ?_
  refine lv_iconst (v := (0 : Int32)) hx hb dX5_errorPosition_1 (by decide) ?_
  refine va_put (D := D) (ci := 5) (v := .int (0 : Int32)) (ty := .int) (C := RX5) (T := TX5) (N := 13) hx hb hts iX5_errorPosition_X5 tyX5 tyX5_ok nmX5 hown hK.1 hP hD hS 0 rfl rfl 0 (by decide) (hts _ qX5_errorPosition_37) (fun _ h9 => h9) rfl (by decide +kernel) rfl rfl (Nat.le_of_ble_eq_true rfl) dX5_errorPosition_2 (fun H locs hP hD hS => ?_)
  obtain ⟨g1, e1, hf⟩ := z_ltE hf
  have hP : va_P D vwCl (z_md c a g1) H := by rw [e1]; exact hP
  have hD : va_D A (z_md c a g1) := by rw [e1]; exact hD
  clear e1
  refine lv_aload_n hx hb dX5_errorPosition_5 rfl (lv_at hl 0 rfl) ?_
  obtain ⟨r2, g2, h2, hf⟩ := z_b2E hf
  refine z_cVi (As := []) (rest := []) (wf := (z_md c a)) (g := g1) (u0 := g2) ⟨hx, hb, hml, hown, hts⟩ (kX5_readText l D c N a H.size g1  r2 g2 h2) (cwV 0 hts gX5_errorPosition_X5_readText rfl rfl rfl (by decide +kernel) ⟨Nat.le_of_ble_eq_true rfl, Nat.le_of_ble_eq_true rfl⟩) hP hK hD hS hA (ci := 5) (q0 := 0) rfl rfl rfl rfl hl.1 (Nat.le_of_ble_eq_true rfl) rfl dX5_errorPosition_6 ⟨Nat.zero_le _, Nat.zero_le _⟩ (fun H locs hP hD hS => ?_)
  exact z_ri (wf := (z_md c a)) hx hb hr hlocks hP hD hS hf dX5_errorPosition_9
abbrev rmX5_load : Room := { frames := 5, cells := 0, slots := 0, locals := 112 }
theorem qX5_load_37 : Cond.fieldLink RX5 37 "ProgramDrumModel" "thrown" "I" ∈ wsX5_load := by decide +kernel
theorem iX5_load_X5 : ∀ w ∈ wsX50, w ∈ wsX5_load := by decide +kernel
theorem qX5_load_19 : Cond.fieldLink RX5 19 "ProgramDrumModel" "draft" "[I" ∈ wsX5_load := by decide +kernel
theorem qX5_load_7 : Cond.fieldLink RX5 7 "ProgramDrumModel" "state" "[I" ∈ wsX5_load := by decide +kernel
theorem qX5_load_73 : Cond.fieldLink RX5 73 "ProgramDrumModel" "remembered" "I" ∈ wsX5_load := by decide +kernel
theorem qX5_load_28 : Cond.fieldLink RX5 28 "ProgramDrumModel" "isSaved" "[I" ∈ wsX5_load := by decide +kernel
set_option maxRecDepth 100000 in
set_option maxHeartbeats 4000000 in
theorem kX5_load (l : Launch) (D : va_G) (c : Nat → ClassId) (N : Nat) (a : Nat → Nat) (sz : Nat) (g : z_R) (r0 : Int32) (g0 : z_R) (hf : fX5_load N g = some (r0, g0)) : Met l yX5_load wsX5_load rmX5_load (z_Pc D c sz (z_md c a g) [.ref (a 0)]) (z_Qi D (z_md c a) r0 g0 (va_A (z_md c a g) sz)) 0 0 (va_A (z_md c a g) sz) := by
  refine z_ofM (cc := cX5_load) (maxL := 1) (ret := (some .int)) (Qf := fun A => z_Qi D (z_md c a) r0 g0 A) (plainFor_of_name (by decide)) rfl (Nat.le_of_ble_eq_true rfl) ?_
  intro p e s m args below meth co A ls hx hb hr hml hts hown hlocks hnm hA hP hK hD hl hsz
  have hl : lv_has ls 1 [(0, .ref (a 0))] := hl
  have hown : s.vm.findClass RX5 = some m.cls := hown
  obtain ⟨H, hH⟩ : ∃ H, H = s.heap := ⟨_, rfl⟩
  have hS : va_S A s.heap H [] := by rw [hH]; exact va_S.rf
  rw [← hH] at hP ⊢
  clear hH
  unfold fX5_load at hf
  generalize ([] : List Loc) = locs at hS ⊢
  refine lv_aload_n hx hb dX5_load_0 rfl (lv_at hl 0 rfl) ?_
  refine lv_aload_n hx hb dX5_load_1 rfl (lv_at hl 0 rfl) ?_
  obtain ⟨r1, g1, h1, hf⟩ := z_b2E hf
  refine z_cVi (As := []) (rest := [.ref (a 0)]) (wf := (z_md c a)) (g := g) (u0 := g1) ⟨hx, hb, hml, hown, hts⟩ (kX5_readText l D c N a H.size g  r1 g1 h1) (cwV 0 hts gX5_load_X5_readText rfl rfl rfl (by decide +kernel) ⟨Nat.le_of_ble_eq_true rfl, Nat.le_of_ble_eq_true rfl⟩) hP hK hD hS hA (ci := 5) (q0 := 0) rfl rfl rfl rfl hl.1 (Nat.le_of_ble_eq_true rfl) rfl dX5_load_2 ⟨Nat.zero_le _, Nat.zero_le _⟩ (fun H locs hP hD hS => ?_)
  refine lv_iconst (v := (-1 : Int32)) hx hb dX5_load_5 (by decide) ?_
  refine lv_icmp_ne (tgt := 13) hx hb dX5_load_6 (by decide) (fun c2 => ?_) (fun c2 => ?_)
  · have hf := z_ifF hf c2
    refine lv_iconst (v := (1 : Int32)) hx hb dX5_load_13 (by decide) ?_
    refine va_put (D := D) (ci := 5) (v := .int (1 : Int32)) (ty := .int) (C := RX5) (T := TX5) (N := 13) hx hb hts iX5_load_X5 tyX5 tyX5_ok nmX5 hown hK.1 hP hD hS 0 rfl rfl 0 (by decide) (hts _ qX5_load_37) (fun _ h9 => h9) rfl (by decide +kernel) rfl rfl (Nat.le_of_ble_eq_true rfl) dX5_load_14 (fun H locs hP hD hS => ?_)
    obtain ⟨g3, e3, hf⟩ := z_ltE hf
    have hP : va_P D vwCl (z_md c a g3) H := by rw [e3]; exact hP
    have hD : va_D A (z_md c a g3) := by rw [e3]; exact hD
    clear e3
    refine lv_aload_n hx hb dX5_load_17 rfl (lv_at hl 0 rfl) ?_
    refine va_get (D := D) (ci := 5) (v := .int (g3 0 0)) (C := RX5) (T := TX5) (N := 13) hx hb hts iX5_load_X5 hown hK.1 hP 0 rfl rfl 0 (by decide) (hts _ qX5_load_37) (fun _ h9 => h9) rfl dX5_load_18 ?_
    refine lv_if_le (tgt := 26) hx hb dX5_load_21 (by decide) (fun c4 => ?_) (fun c4 => ?_)
    · have hf := z_ifT hf c4
      refine lv_aload_n hx hb dX5_load_26 rfl (lv_at hl 0 rfl) ?_
      refine va_get (D := D) (ci := 5) (v := .ref (a 4)) (C := RX5) (T := TX5) (N := 13) hx hb hts iX5_load_X5 hown hK.1 hP 0 rfl rfl 4 (by decide) (hts _ qX5_load_19) (fun _ h9 => h9) rfl dX5_load_27 ?_
      refine lv_iconst (v := (0 : Int32)) hx hb dX5_load_30 (by decide) ?_
      refine lv_aload_n hx hb dX5_load_31 rfl (lv_at hl 0 rfl) ?_
      refine va_get (D := D) (ci := 5) (v := .ref (a 1)) (C := RX5) (T := TX5) (N := 13) hx hb hts iX5_load_X5 hown hK.1 hP 0 rfl rfl 1 (by decide) (hts _ qX5_load_7) (fun _ h9 => h9) rfl dX5_load_32 ?_
      refine lv_iconst (v := (0 : Int32)) hx hb dX5_load_35 (by decide) ?_
      obtain ⟨u5, h5, hf⟩ := z_bE hf
      obtain ⟨g5, e5, hf⟩ := z_ltE hf
      refine z_cSvC (As := [.ref (a 4), .int (0 : Int32), .ref (a 1), .int (0 : Int32)]) (rest := []) (V := (z_md c a g3)) (V' := (z_md c a g5)) (wf := (fun u : Nat → Int32 => z_cp c (a 4) (a 1) 925 925 (g3 4) u)) (g := g3 1) (u0 := u5) ⟨hx, hb, hml, hown, hts⟩ (kX5_copy l D c N (a 4) (a 1) 925 925 H.size  (g3 4) (g3 1) (0 : Int32) (0 : Int32) u5 h5) (va_cwS 4 hts gX5_load_X5_copy rfl rfl rfl (by decide +kernel) ⟨Nat.le_of_ble_eq_true rfl, Nat.le_of_ble_eq_true rfl⟩) hP hK hD hS hA [4, 1] [0, 2, 3, 5, 6, 7, 8, 9] [0, 9, 1, 2, 8, 3, 4, 5, 6, 7] rfl rfl (by decide) (by decide) (by decide) (by decide) rfl hl.1 (Nat.le_of_ble_eq_true rfl) rfl dX5_load_36 ⟨Nat.zero_le _, Nat.zero_le _⟩ (by rw [e5]; rfl) (fun H locs hP hD hS => ?_)
      refine lv_aload_n hx hb dX5_load_39 rfl (lv_at hl 0 rfl) ?_
      refine lv_iconst (v := (0 : Int32)) hx hb dX5_load_40 (by decide) ?_
      refine va_put (D := D) (ci := 5) (v := .int (0 : Int32)) (ty := .int) (C := RX5) (T := TX5) (N := 13) hx hb hts iX5_load_X5 tyX5 tyX5_ok nmX5 hown hK.1 hP hD hS 0 rfl rfl 6 (by decide) (hts _ qX5_load_73) (fun _ h9 => h9) rfl (by decide +kernel) rfl rfl (Nat.le_of_ble_eq_true rfl) dX5_load_41 (fun H locs hP hD hS => ?_)
      obtain ⟨g6, e6, hf⟩ := z_ltE hf
      have hP : va_P D vwCl (z_md c a g6) H := by rw [e6]; exact hP
      have hD : va_D A (z_md c a g6) := by rw [e6]; exact hD
      clear e6
      refine lv_aload_n hx hb dX5_load_44 rfl (lv_at hl 0 rfl) ?_
      refine va_get (D := D) (ci := 5) (v := .ref (a 7)) (C := RX5) (T := TX5) (N := 13) hx hb hts iX5_load_X5 hown hK.1 hP 0 rfl rfl 8 (by decide) (hts _ qX5_load_28) (fun _ h9 => h9) rfl dX5_load_45 ?_
      refine lv_iconst (v := (0 : Int32)) hx hb dX5_load_48 (by decide) ?_
      refine lv_iconst (v := (0 : Int32)) hx hb dX5_load_49 (by decide) ?_
      refine va_iast hx hb hK.1 hP hD hS 7 0 rfl rfl (z_inE (by decide)) dX5_load_50 (fun H locs hP hD hS => ?_)
      obtain ⟨g7, e7, hf⟩ := z_ltE hf
      have hP : va_P D vwCl (z_md c a g7) H := by rw [e7]; exact hP
      have hD : va_D A (z_md c a g7) := by rw [e7]; exact hD
      clear e7
      refine lv_aload_n hx hb dX5_load_51 rfl (lv_at hl 0 rfl) ?_
      refine va_get (D := D) (ci := 5) (v := .ref (a 7)) (C := RX5) (T := TX5) (N := 13) hx hb hts iX5_load_X5 hown hK.1 hP 0 rfl rfl 8 (by decide) (hts _ qX5_load_28) (fun _ h9 => h9) rfl dX5_load_52 ?_
      refine lv_iconst (v := (1 : Int32)) hx hb dX5_load_55 (by decide) ?_
      refine lv_iconst (v := (0 : Int32)) hx hb dX5_load_56 (by decide) ?_
      refine va_iast hx hb hK.1 hP hD hS 7 0 rfl rfl (z_inE (by decide)) dX5_load_57 (fun H locs hP hD hS => ?_)
      obtain ⟨g8, e8, hf⟩ := z_ltE hf
      have hP : va_P D vwCl (z_md c a g8) H := by rw [e8]; exact hP
      have hD : va_D A (z_md c a g8) := by rw [e8]; exact hD
      clear e8
      refine lv_aload_n hx hb dX5_load_58 rfl (lv_at hl 0 rfl) ?_
      refine va_get (D := D) (ci := 5) (v := .ref (a 1)) (C := RX5) (T := TX5) (N := 13) hx hb hts iX5_load_X5 hown hK.1 hP 0 rfl rfl 1 (by decide) (hts _ qX5_load_7) (fun _ h9 => h9) rfl dX5_load_59 ?_
      refine lv_iconst (v := (2 : Int32)) hx hb dX5_load_62 (by decide) ?_
      refine va_iald hx hb hK.1 hP 1 0 rfl rfl (z_inE (by decide)) dX5_load_63 ?_
      exact z_ri (wf := (z_md c a)) hx hb hr hlocks hP hD hS hf dX5_load_64
    · have hf := z_ifF hf c4
      refine lv_iconst (v := (0 : Int32)) hx hb dX5_load_24 (by decide) ?_
      exact z_ri (wf := (z_md c a)) hx hb hr hlocks hP hD hS hf dX5_load_25
  · have hf := z_ifT hf c2
    refine lv_iconst (v := (0 : Int32)) hx hb dX5_load_9 (by decide) ?_
    refine lv_goto (tgt := 14) hx hb dX5_load_10 (by decide) ?_
    refine va_put (D := D) (ci := 5) (v := .int (0 : Int32)) (ty := .int) (C := RX5) (T := TX5) (N := 13) hx hb hts iX5_load_X5 tyX5 tyX5_ok nmX5 hown hK.1 hP hD hS 0 rfl rfl 0 (by decide) (hts _ qX5_load_37) (fun _ h9 => h9) rfl (by decide +kernel) rfl rfl (Nat.le_of_ble_eq_true rfl) dX5_load_14 (fun H locs hP hD hS => ?_)
    obtain ⟨g9, e9, hf⟩ := z_ltE hf
    have hP : va_P D vwCl (z_md c a g9) H := by rw [e9]; exact hP
    have hD : va_D A (z_md c a g9) := by rw [e9]; exact hD
    clear e9
    refine lv_aload_n hx hb dX5_load_17 rfl (lv_at hl 0 rfl) ?_
    refine va_get (D := D) (ci := 5) (v := .int (g9 0 0)) (C := RX5) (T := TX5) (N := 13) hx hb hts iX5_load_X5 hown hK.1 hP 0 rfl rfl 0 (by decide) (hts _ qX5_load_37) (fun _ h9 => h9) rfl dX5_load_18 ?_
    refine lv_if_le (tgt := 26) hx hb dX5_load_21 (by decide) (fun c10 => ?_) (fun c10 => ?_)
    · have hf := z_ifT hf c10
      refine lv_aload_n hx hb dX5_load_26 rfl (lv_at hl 0 rfl) ?_
      refine va_get (D := D) (ci := 5) (v := .ref (a 4)) (C := RX5) (T := TX5) (N := 13) hx hb hts iX5_load_X5 hown hK.1 hP 0 rfl rfl 4 (by decide) (hts _ qX5_load_19) (fun _ h9 => h9) rfl dX5_load_27 ?_
      refine lv_iconst (v := (0 : Int32)) hx hb dX5_load_30 (by decide) ?_
      refine lv_aload_n hx hb dX5_load_31 rfl (lv_at hl 0 rfl) ?_
      refine va_get (D := D) (ci := 5) (v := .ref (a 1)) (C := RX5) (T := TX5) (N := 13) hx hb hts iX5_load_X5 hown hK.1 hP 0 rfl rfl 1 (by decide) (hts _ qX5_load_7) (fun _ h9 => h9) rfl dX5_load_32 ?_
      refine lv_iconst (v := (0 : Int32)) hx hb dX5_load_35 (by decide) ?_
      obtain ⟨u11, h11, hf⟩ := z_bE hf
      obtain ⟨g11, e11, hf⟩ := z_ltE hf
      refine z_cSvC (As := [.ref (a 4), .int (0 : Int32), .ref (a 1), .int (0 : Int32)]) (rest := []) (V := (z_md c a g9)) (V' := (z_md c a g11)) (wf := (fun u : Nat → Int32 => z_cp c (a 4) (a 1) 925 925 (g9 4) u)) (g := g9 1) (u0 := u11) ⟨hx, hb, hml, hown, hts⟩ (kX5_copy l D c N (a 4) (a 1) 925 925 H.size  (g9 4) (g9 1) (0 : Int32) (0 : Int32) u11 h11) (va_cwS 4 hts gX5_load_X5_copy rfl rfl rfl (by decide +kernel) ⟨Nat.le_of_ble_eq_true rfl, Nat.le_of_ble_eq_true rfl⟩) hP hK hD hS hA [4, 1] [0, 2, 3, 5, 6, 7, 8, 9] [0, 9, 1, 2, 8, 3, 4, 5, 6, 7] rfl rfl (by decide) (by decide) (by decide) (by decide) rfl hl.1 (Nat.le_of_ble_eq_true rfl) rfl dX5_load_36 ⟨Nat.zero_le _, Nat.zero_le _⟩ (by rw [e11]; rfl) (fun H locs hP hD hS => ?_)
      refine lv_aload_n hx hb dX5_load_39 rfl (lv_at hl 0 rfl) ?_
      refine lv_iconst (v := (0 : Int32)) hx hb dX5_load_40 (by decide) ?_
      refine va_put (D := D) (ci := 5) (v := .int (0 : Int32)) (ty := .int) (C := RX5) (T := TX5) (N := 13) hx hb hts iX5_load_X5 tyX5 tyX5_ok nmX5 hown hK.1 hP hD hS 0 rfl rfl 6 (by decide) (hts _ qX5_load_73) (fun _ h9 => h9) rfl (by decide +kernel) rfl rfl (Nat.le_of_ble_eq_true rfl) dX5_load_41 (fun H locs hP hD hS => ?_)
      obtain ⟨g12, e12, hf⟩ := z_ltE hf
      have hP : va_P D vwCl (z_md c a g12) H := by rw [e12]; exact hP
      have hD : va_D A (z_md c a g12) := by rw [e12]; exact hD
      clear e12
      refine lv_aload_n hx hb dX5_load_44 rfl (lv_at hl 0 rfl) ?_
      refine va_get (D := D) (ci := 5) (v := .ref (a 7)) (C := RX5) (T := TX5) (N := 13) hx hb hts iX5_load_X5 hown hK.1 hP 0 rfl rfl 8 (by decide) (hts _ qX5_load_28) (fun _ h9 => h9) rfl dX5_load_45 ?_
      refine lv_iconst (v := (0 : Int32)) hx hb dX5_load_48 (by decide) ?_
      refine lv_iconst (v := (0 : Int32)) hx hb dX5_load_49 (by decide) ?_
      refine va_iast hx hb hK.1 hP hD hS 7 0 rfl rfl (z_inE (by decide)) dX5_load_50 (fun H locs hP hD hS => ?_)
      obtain ⟨g13, e13, hf⟩ := z_ltE hf
      have hP : va_P D vwCl (z_md c a g13) H := by rw [e13]; exact hP
      have hD : va_D A (z_md c a g13) := by rw [e13]; exact hD
      clear e13
      refine lv_aload_n hx hb dX5_load_51 rfl (lv_at hl 0 rfl) ?_
      refine va_get (D := D) (ci := 5) (v := .ref (a 7)) (C := RX5) (T := TX5) (N := 13) hx hb hts iX5_load_X5 hown hK.1 hP 0 rfl rfl 8 (by decide) (hts _ qX5_load_28) (fun _ h9 => h9) rfl dX5_load_52 ?_
      refine lv_iconst (v := (1 : Int32)) hx hb dX5_load_55 (by decide) ?_
      refine lv_iconst (v := (0 : Int32)) hx hb dX5_load_56 (by decide) ?_
      refine va_iast hx hb hK.1 hP hD hS 7 0 rfl rfl (z_inE (by decide)) dX5_load_57 (fun H locs hP hD hS => ?_)
      obtain ⟨g14, e14, hf⟩ := z_ltE hf
      have hP : va_P D vwCl (z_md c a g14) H := by rw [e14]; exact hP
      have hD : va_D A (z_md c a g14) := by rw [e14]; exact hD
      clear e14
      refine lv_aload_n hx hb dX5_load_58 rfl (lv_at hl 0 rfl) ?_
      refine va_get (D := D) (ci := 5) (v := .ref (a 1)) (C := RX5) (T := TX5) (N := 13) hx hb hts iX5_load_X5 hown hK.1 hP 0 rfl rfl 1 (by decide) (hts _ qX5_load_7) (fun _ h9 => h9) rfl dX5_load_59 ?_
      refine lv_iconst (v := (2 : Int32)) hx hb dX5_load_62 (by decide) ?_
      refine va_iald hx hb hK.1 hP 1 0 rfl rfl (z_inE (by decide)) dX5_load_63 ?_
      exact z_ri (wf := (z_md c a)) hx hb hr hlocks hP hD hS hf dX5_load_64
    · have hf := z_ifF hf c10
      refine lv_iconst (v := (0 : Int32)) hx hb dX5_load_24 (by decide) ?_
      exact z_ri (wf := (z_md c a)) hx hb hr hlocks hP hD hS hf dX5_load_25
abbrev rmX5_isOrder : Room := { frames := 1, cells := 0, slots := 0, locals := 22 }
theorem qX5_isOrder_7 : Cond.fieldLink RX5 7 "ProgramDrumModel" "state" "[I" ∈ wsX5_isOrder := by decide +kernel
theorem iX5_isOrder_X5 : ∀ w ∈ wsX50, w ∈ wsX5_isOrder := by decide +kernel
set_option maxRecDepth 100000 in
set_option maxHeartbeats 4000000 in
theorem kX5_isOrder (l : Launch) (D : va_G) (c : Nat → ClassId) (N : Nat) (a : Nat → Nat) (sz : Nat) (g : z_R) (p1 : Int32) (r0 : Int32) (hf : fX5_isOrder N p1 g = some r0) : Met l yX5_isOrder wsX5_isOrder rmX5_isOrder (z_Pc D c sz (z_md c a g) [.ref (a 0), .int p1]) (z_Qi D (z_md c a) r0 g (va_A (z_md c a g) sz)) 0 0 (va_A (z_md c a g) sz) := by
  refine z_ofM (cc := cX5_isOrder) (maxL := 2) (ret := (some .boolean)) (Qf := fun A => z_Qi D (z_md c a) r0 g A) (plainFor_of_name (by decide)) rfl (Nat.le_of_ble_eq_true rfl) ?_
  intro p e s m args below meth co A ls hx hb hr hml hts hown hlocks hnm hA hP hK hD hl hsz
  have hl : lv_has ls 2 [(0, .ref (a 0)), (1, .int p1)] := hl
  have hown : s.vm.findClass RX5 = some m.cls := hown
  obtain ⟨H, hH⟩ : ∃ H, H = s.heap := ⟨_, rfl⟩
  have hS : va_S A s.heap H [] := by rw [hH]; exact va_S.rf
  rw [← hH] at hP ⊢
  clear hH
  unfold fX5_isOrder at hf
  generalize ([] : List Loc) = locs at hS ⊢
  refine lv_iload_n hx hb dX5_isOrder_0 rfl (lv_at hl 1 rfl) ?_
  refine lv_iconst (v := (0 : Int32)) hx hb dX5_isOrder_1 (by decide) ?_
  refine lv_aload_n hx hb dX5_isOrder_2 rfl (lv_at hl 0 rfl) ?_
  refine va_get (D := D) (ci := 5) (v := .ref (a 1)) (C := RX5) (T := TX5) (N := 13) hx hb hts iX5_isOrder_X5 hown hK.1 hP 0 rfl rfl 1 (by decide) (hts _ qX5_isOrder_7) (fun _ h9 => h9) rfl dX5_isOrder_3 ?_
  refine lv_iconst (v := (2 : Int32)) hx hb dX5_isOrder_6 (by decide) ?_
  refine va_iald hx hb hK.1 hP 1 0 rfl rfl (z_inE (by decide)) dX5_isOrder_7 ?_
  refine lv_iconst (v := (1 : Int32)) hx hb dX5_isOrder_8 (by decide) ?_
  refine lv_isub hx hb dX5_isOrder_9 ?_
  obtain ⟨r1, h1, hf⟩ := z_bE hf
  refine z_cSi (As := [.int p1, .int (0 : Int32), .int ((g 1 ((2 : Int32)).toNatClampNeg) - (1 : Int32))]) (rest := []) ⟨hx, hb, hml, hown, hts⟩ (kX5_within l D c N H.size p1 (0 : Int32) ((g 1 ((2 : Int32)).toNatClampNeg) - (1 : Int32)) r1 h1) (va_cwS 3 hts gX5_isOrder_X5_within rfl rfl rfl (by decide +kernel) ⟨Nat.le_of_ble_eq_true rfl, Nat.le_of_ble_eq_true rfl⟩) hP hK hS hA rfl hl.1 (Nat.le_of_ble_eq_true rfl) rfl dX5_isOrder_10 ⟨Nat.zero_le _, Nat.zero_le _⟩ (fun H locs hP hS => ?_)
  obtain ⟨b2, hf⟩ := z_ckE hf
  exact z_zp (wf := (z_md c a)) hx hb hr (z_boE b2) hlocks hP hD hS hf dX5_isOrder_13
abbrev rmX5_isPlace : Room := { frames := 1, cells := 0, slots := 0, locals := 22 }
theorem qX5_isPlace_7 : Cond.fieldLink RX5 7 "ProgramDrumModel" "state" "[I" ∈ wsX5_isPlace := by decide +kernel
theorem iX5_isPlace_X5 : ∀ w ∈ wsX50, w ∈ wsX5_isPlace := by decide +kernel
set_option maxRecDepth 100000 in
set_option maxHeartbeats 4000000 in
theorem kX5_isPlace (l : Launch) (D : va_G) (c : Nat → ClassId) (N : Nat) (a : Nat → Nat) (sz : Nat) (g : z_R) (p1 : Int32) (r0 : Int32) (hf : fX5_isPlace N p1 g = some r0) : Met l yX5_isPlace wsX5_isPlace rmX5_isPlace (z_Pc D c sz (z_md c a g) [.ref (a 0), .int p1]) (z_Qi D (z_md c a) r0 g (va_A (z_md c a g) sz)) 0 0 (va_A (z_md c a g) sz) := by
  refine z_ofM (cc := cX5_isPlace) (maxL := 2) (ret := (some .boolean)) (Qf := fun A => z_Qi D (z_md c a) r0 g A) (plainFor_of_name (by decide)) rfl (Nat.le_of_ble_eq_true rfl) ?_
  intro p e s m args below meth co A ls hx hb hr hml hts hown hlocks hnm hA hP hK hD hl hsz
  have hl : lv_has ls 2 [(0, .ref (a 0)), (1, .int p1)] := hl
  have hown : s.vm.findClass RX5 = some m.cls := hown
  obtain ⟨H, hH⟩ : ∃ H, H = s.heap := ⟨_, rfl⟩
  have hS : va_S A s.heap H [] := by rw [hH]; exact va_S.rf
  rw [← hH] at hP ⊢
  clear hH
  unfold fX5_isPlace at hf
  generalize ([] : List Loc) = locs at hS ⊢
  refine lv_iload_n hx hb dX5_isPlace_0 rfl (lv_at hl 1 rfl) ?_
  refine lv_iconst (v := (0 : Int32)) hx hb dX5_isPlace_1 (by decide) ?_
  refine lv_aload_n hx hb dX5_isPlace_2 rfl (lv_at hl 0 rfl) ?_
  refine va_get (D := D) (ci := 5) (v := .ref (a 1)) (C := RX5) (T := TX5) (N := 13) hx hb hts iX5_isPlace_X5 hown hK.1 hP 0 rfl rfl 1 (by decide) (hts _ qX5_isPlace_7) (fun _ h9 => h9) rfl dX5_isPlace_3 ?_
  refine lv_iconst (v := (0 : Int32)) hx hb dX5_isPlace_6 (by decide) ?_
  refine va_iald hx hb hK.1 hP 1 0 rfl rfl (z_inE (by decide)) dX5_isPlace_7 ?_
  refine lv_iconst (v := (1 : Int32)) hx hb dX5_isPlace_8 (by decide) ?_
  refine lv_isub hx hb dX5_isPlace_9 ?_
  obtain ⟨r1, h1, hf⟩ := z_bE hf
  refine z_cSi (As := [.int p1, .int (0 : Int32), .int ((g 1 ((0 : Int32)).toNatClampNeg) - (1 : Int32))]) (rest := []) ⟨hx, hb, hml, hown, hts⟩ (kX5_within l D c N H.size p1 (0 : Int32) ((g 1 ((0 : Int32)).toNatClampNeg) - (1 : Int32)) r1 h1) (va_cwS 3 hts gX5_isPlace_X5_within rfl rfl rfl (by decide +kernel) ⟨Nat.le_of_ble_eq_true rfl, Nat.le_of_ble_eq_true rfl⟩) hP hK hS hA rfl hl.1 (Nat.le_of_ble_eq_true rfl) rfl dX5_isPlace_10 ⟨Nat.zero_le _, Nat.zero_le _⟩ (fun H locs hP hS => ?_)
  obtain ⟨b2, hf⟩ := z_ckE hf
  exact z_zp (wf := (z_md c a)) hx hb hr (z_boE b2) hlocks hP hD hS hf dX5_isPlace_13
abbrev rmX5_part : Room := { frames := 0, cells := 0, slots := 0, locals := 0 }
theorem qX5_part_7 : Cond.fieldLink RX5 7 "ProgramDrumModel" "state" "[I" ∈ wsX5_part := by decide +kernel
theorem iX5_part_X5 : ∀ w ∈ wsX50, w ∈ wsX5_part := by decide +kernel
set_option maxRecDepth 100000 in
set_option maxHeartbeats 4000000 in
theorem kX5_part (l : Launch) (D : va_G) (c : Nat → ClassId) (N : Nat) (a : Nat → Nat) (sz : Nat) (g : z_R) (p1 : Int32) (p2 : Int32) (r0 : Int32) (hf : fX5_part N p1 p2 g = some r0) : Met l yX5_part wsX5_part rmX5_part (z_Pc D c sz (z_md c a g) [.ref (a 0), .int p1, .int p2]) (z_Qi D (z_md c a) r0 g (va_A (z_md c a g) sz)) 0 0 (va_A (z_md c a g) sz) := by
  refine z_ofM (cc := cX5_part) (maxL := 3) (ret := (some .int)) (Qf := fun A => z_Qi D (z_md c a) r0 g A) (plainFor_of_name (by decide)) rfl (Nat.le_of_ble_eq_true rfl) ?_
  intro p e s m args below meth co A ls hx hb hr hml hts hown hlocks hnm hA hP hK hD hl hsz
  have hl : lv_has ls 3 [(0, .ref (a 0)), (1, .int p1), (2, .int p2)] := hl
  have hown : s.vm.findClass RX5 = some m.cls := hown
  obtain ⟨H, hH⟩ : ∃ H, H = s.heap := ⟨_, rfl⟩
  have hS : va_S A s.heap H [] := by rw [hH]; exact va_S.rf
  rw [← hH] at hP ⊢
  clear hH
  unfold fX5_part at hf
  generalize ([] : List Loc) = locs at hS ⊢
  refine lv_aload_n hx hb dX5_part_0 rfl (lv_at hl 0 rfl) ?_
  refine va_get (D := D) (ci := 5) (v := .ref (a 1)) (C := RX5) (T := TX5) (N := 13) hx hb hts iX5_part_X5 hown hK.1 hP 0 rfl rfl 1 (by decide) (hts _ qX5_part_7) (fun _ h9 => h9) rfl dX5_part_1 ?_
  refine lv_bipush (v := (13 : Int32)) hx hb dX5_part_4 (by decide) ?_
  refine lv_bipush (v := (9 : Int32)) hx hb dX5_part_6 (by decide) ?_
  refine lv_iload_n hx hb dX5_part_8 rfl (lv_at hl 1 rfl) ?_
  refine lv_imul hx hb dX5_part_9 ?_
  refine lv_iadd hx hb dX5_part_10 ?_
  refine lv_iload_n hx hb dX5_part_11 rfl (lv_at hl 2 rfl) ?_
  refine lv_iadd hx hb dX5_part_12 ?_
  obtain ⟨b1, hf⟩ := z_ckE hf
  refine va_iald hx hb hK.1 hP 1 0 rfl rfl (z_inE b1) dX5_part_13 ?_
  exact z_rp (wf := (z_md c a)) hx hb hr hlocks hP hD hS hf dX5_part_14
abbrev rmX5_setPart : Room := { frames := 0, cells := 0, slots := 0, locals := 0 }
theorem qX5_setPart_7 : Cond.fieldLink RX5 7 "ProgramDrumModel" "state" "[I" ∈ wsX5_setPart := by decide +kernel
theorem iX5_setPart_X5 : ∀ w ∈ wsX50, w ∈ wsX5_setPart := by decide +kernel
set_option maxRecDepth 100000 in
set_option maxHeartbeats 4000000 in
theorem kX5_setPart (l : Launch) (D : va_G) (c : Nat → ClassId) (N : Nat) (a : Nat → Nat) (sz : Nat) (g : z_R) (p1 : Int32) (p2 : Int32) (p3 : Int32) (g0 : z_R) (hf : fX5_setPart N p1 p2 p3 g = some g0) : Met l yX5_setPart wsX5_setPart rmX5_setPart (z_Pc D c sz (z_md c a g) [.ref (a 0), .int p1, .int p2, .int p3]) (z_Qv D (z_md c a) g0 (va_A (z_md c a g) sz)) 0 0 (va_A (z_md c a g) sz) := by
  refine z_ofM (cc := cX5_setPart) (maxL := 4) (ret := none) (Qf := fun A => z_Qv D (z_md c a) g0 A) (plainFor_of_name (by decide)) rfl (Nat.le_of_ble_eq_true rfl) ?_
  intro p e s m args below meth co A ls hx hb hr hml hts hown hlocks hnm hA hP hK hD hl hsz
  have hl : lv_has ls 4 [(0, .ref (a 0)), (1, .int p1), (2, .int p2), (3, .int p3)] := hl
  have hown : s.vm.findClass RX5 = some m.cls := hown
  obtain ⟨H, hH⟩ : ∃ H, H = s.heap := ⟨_, rfl⟩
  have hS : va_S A s.heap H [] := by rw [hH]; exact va_S.rf
  rw [← hH] at hP ⊢
  clear hH
  unfold fX5_setPart at hf
  generalize ([] : List Loc) = locs at hS ⊢
  refine lv_aload_n hx hb dX5_setPart_0 rfl (lv_at hl 0 rfl) ?_
  refine va_get (D := D) (ci := 5) (v := .ref (a 1)) (C := RX5) (T := TX5) (N := 13) hx hb hts iX5_setPart_X5 hown hK.1 hP 0 rfl rfl 1 (by decide) (hts _ qX5_setPart_7) (fun _ h9 => h9) rfl dX5_setPart_1 ?_
  refine lv_bipush (v := (13 : Int32)) hx hb dX5_setPart_4 (by decide) ?_
  refine lv_bipush (v := (9 : Int32)) hx hb dX5_setPart_6 (by decide) ?_
  refine lv_iload_n hx hb dX5_setPart_8 rfl (lv_at hl 1 rfl) ?_
  refine lv_imul hx hb dX5_setPart_9 ?_
  refine lv_iadd hx hb dX5_setPart_10 ?_
  refine lv_iload_n hx hb dX5_setPart_11 rfl (lv_at hl 2 rfl) ?_
  refine lv_iadd hx hb dX5_setPart_12 ?_
  refine lv_iload_n hx hb dX5_setPart_13 rfl (lv_at hl 3 rfl) ?_
  obtain ⟨b1, hf⟩ := z_ckE hf
  refine va_iast hx hb hK.1 hP hD hS 1 0 rfl rfl (z_inE b1) dX5_setPart_14 (fun H locs hP hD hS => ?_)
  obtain ⟨g2, e2, hf⟩ := z_ltE hf
  have hP : va_P D vwCl (z_md c a g2) H := by rw [e2]; exact hP
  have hD : va_D A (z_md c a g2) := by rw [e2]; exact hD
  clear e2
  exact z_rv (wf := (z_md c a)) hx hb hr hlocks hP hD hS hf dX5_setPart_15
abbrev rmX5_standing : Room := { frames := 1, cells := 0, slots := 0, locals := 22 }
theorem qX5_standing_7 : Cond.fieldLink RX5 7 "ProgramDrumModel" "state" "[I" ∈ wsX5_standing := by decide +kernel
theorem iX5_standing_X5 : ∀ w ∈ wsX50, w ∈ wsX5_standing := by decide +kernel
set_option maxRecDepth 100000 in
set_option maxHeartbeats 4000000 in
theorem kX5_standing (l : Launch) (D : va_G) (c : Nat → ClassId) (N : Nat) (a : Nat → Nat) (sz : Nat) (g : z_R) (p1 : Int32) (r0 : Int32) (hf : fX5_standing N p1 g = some r0) : Met l yX5_standing wsX5_standing rmX5_standing (z_Pc D c sz (z_md c a g) [.ref (a 0), .int p1]) (z_Qi D (z_md c a) r0 g (va_A (z_md c a g) sz)) 0 0 (va_A (z_md c a g) sz) := by
  refine z_ofM (cc := cX5_standing) (maxL := 4) (ret := (some .int)) (Qf := fun A => z_Qi D (z_md c a) r0 g A) (plainFor_of_name (by decide)) rfl (Nat.le_of_ble_eq_true rfl) ?_
  intro p e s m args below meth co A ls hx hb hr hml hts hown hlocks hnm hA hP hK hD hl hsz
  have hl : lv_has ls 4 [(0, .ref (a 0)), (1, .int p1)] := hl
  have hown : s.vm.findClass RX5 = some m.cls := hown
  obtain ⟨H, hH⟩ : ∃ H, H = s.heap := ⟨_, rfl⟩
  have hS : va_S A s.heap H [] := by rw [hH]; exact va_S.rf
  rw [← hH] at hP ⊢
  clear hH
  have L4 : ∀ (x1 : Int32) (g : z_R) (fu : Nat) (x2 : Int32) (x3 : Int32), lX5_standing_4 N x1 g fu x2 x3 = some r0 → ∀ (H : Heap) (locs : List Loc) (ls : Array Slot), va_P D vwCl (z_md c a g) H → va_D A (z_md c a g) → va_S A s.heap H locs → lv_has ls 4 [(0, .ref (a 0)), (1, .int x1), (2, .int x2), (3, .int x3)] → W p l e rmX5_standing s m args below meth co H locs 0 0 (MQ below (z_Qi D (z_md c a) r0 g A) args s 0 0 A) (F0 m 4 ls []) := by
    intro x1 g fu
    induction fu with
    | zero =>
      intro x2 x3 hf
      have hf : (none : Option Int32) = some _ := hf
      cases hf
    | succ fu ih =>
      intro x2 x3 hf H locs ls hP hD hS hl
      rw [lX5_standing_4.eq_2] at hf
      refine lv_iload_n hx hb dX5_standing_4 rfl (lv_at hl 3 rfl) ?_
      refine lv_aload_n hx hb dX5_standing_5 rfl (lv_at hl 0 rfl) ?_
      refine va_get (D := D) (ci := 5) (v := .ref (a 1)) (C := RX5) (T := TX5) (N := 13) hx hb hts iX5_standing_X5 hown hK.1 hP 0 rfl rfl 1 (by decide) (hts _ qX5_standing_7) (fun _ h9 => h9) rfl dX5_standing_6 ?_
      refine lv_iconst (v := (2 : Int32)) hx hb dX5_standing_9 (by decide) ?_
      refine va_iald hx hb hK.1 hP 1 0 rfl rfl (z_inE (by decide)) dX5_standing_10 ?_
      refine lv_icmp_ge (tgt := 36) hx hb dX5_standing_11 (by decide) (fun c1 => ?_) (fun c1 => ?_)
      · have hf := z_ifT hf c1
        refine lv_iload_n hx hb dX5_standing_36 rfl (lv_at hl 2 rfl) ?_
        exact z_rp (wf := (z_md c a)) hx hb hr hlocks hP hD hS hf dX5_standing_37
      · have hf := z_ifF hf c1
        refine lv_aload_n hx hb dX5_standing_14 rfl (lv_at hl 0 rfl) ?_
        refine lv_iload_n hx hb dX5_standing_15 rfl (lv_at hl 3 rfl) ?_
        refine lv_iconst (v := (5 : Int32)) hx hb dX5_standing_16 (by decide) ?_
        obtain ⟨r2, h2, hf⟩ := z_bE hf
        refine z_cVi (As := [.int x3, .int (5 : Int32)]) (rest := []) (wf := (z_md c a)) (g := g) (u0 := g) ⟨hx, hb, hml, hown, hts⟩ (kX5_part l D c N a H.size g x3 (5 : Int32) r2 h2) (cwV 2 hts gX5_standing_X5_part rfl rfl rfl (by decide +kernel) ⟨Nat.le_of_ble_eq_true rfl, Nat.le_of_ble_eq_true rfl⟩) hP hK hD hS hA (ci := 5) (q0 := 0) rfl rfl rfl rfl hl.1 (Nat.le_of_ble_eq_true rfl) rfl dX5_standing_17 ⟨Nat.zero_le _, Nat.zero_le _⟩ (fun H locs hP hD hS => ?_)
        refine lv_iload_n hx hb dX5_standing_20 rfl (lv_at hl 1 rfl) ?_
        refine lv_icmp_ne (tgt := 28) hx hb dX5_standing_21 (by decide) (fun c3 => ?_) (fun c3 => ?_)
        · have hf := z_ifF hf c3
          refine lv_iload_n hx hb dX5_standing_28 rfl (lv_at hl 2 rfl) ?_
          refine lv_istore_n (lv' := [(2, .int x2), (0, .ref (a 0)), (1, .int x1), (3, .int x3)]) hx hb dX5_standing_29 rfl hl (by decide) rfl (fun ls hl => ?_)
          refine lv_iinc (v := (x3 + (1 : Int32))) (lv' := [(3, .int (x3 + (1 : Int32))), (2, .int x2), (0, .ref (a 0)), (1, .int x1)]) hx hb dX5_standing_30 hl (k := 3) rfl rfl (by decide) rfl (fun ls hl => ?_)
          refine lv_goto (tgt := 4) hx hb dX5_standing_33 (by decide) ?_
          exact ih _ _ hf H locs ls hP hD hS (lv_sub hl [2, 3, 1, 0] rfl)
        · have hf := z_ifT hf c3
          refine lv_iload_n hx hb dX5_standing_24 rfl (lv_at hl 3 rfl) ?_
          refine lv_goto (tgt := 29) hx hb dX5_standing_25 (by decide) ?_
          refine lv_istore_n (lv' := [(2, .int x3), (0, .ref (a 0)), (1, .int x1), (3, .int x3)]) hx hb dX5_standing_29 rfl hl (by decide) rfl (fun ls hl => ?_)
          refine lv_iinc (v := (x3 + (1 : Int32))) (lv' := [(3, .int (x3 + (1 : Int32))), (2, .int x3), (0, .ref (a 0)), (1, .int x1)]) hx hb dX5_standing_30 hl (k := 3) rfl rfl (by decide) rfl (fun ls hl => ?_)
          refine lv_goto (tgt := 4) hx hb dX5_standing_33 (by decide) ?_
          exact ih _ _ hf H locs ls hP hD hS (lv_sub hl [2, 3, 1, 0] rfl)
  unfold fX5_standing at hf
  generalize ([] : List Loc) = locs at hS ⊢
  refine lv_iconst (v := (-1 : Int32)) hx hb dX5_standing_0 (by decide) ?_
  refine lv_istore_n (lv' := [(2, .int (-1 : Int32)), (0, .ref (a 0)), (1, .int p1)]) hx hb dX5_standing_1 rfl hl (by decide) rfl (fun ls hl => ?_)
  refine lv_iconst (v := (0 : Int32)) hx hb dX5_standing_2 (by decide) ?_
  refine lv_istore_n (lv' := [(3, .int (0 : Int32)), (2, .int (-1 : Int32)), (0, .ref (a 0)), (1, .int p1)]) hx hb dX5_standing_3 rfl hl (by decide) rfl (fun ls hl => ?_)
  exact L4 _ _ N _ _ hf H locs ls hP hD hS (lv_sub hl [2, 3, 1, 0] rfl)
abbrev rmX5_comingBy : Room := { frames := 0, cells := 0, slots := 0, locals := 0 }
theorem qX5_comingBy_7 : Cond.fieldLink RX5 7 "ProgramDrumModel" "state" "[I" ∈ wsX5_comingBy := by decide +kernel
theorem iX5_comingBy_X5 : ∀ w ∈ wsX50, w ∈ wsX5_comingBy := by decide +kernel
set_option maxRecDepth 100000 in
set_option maxHeartbeats 4000000 in
theorem kX5_comingBy (l : Launch) (D : va_G) (c : Nat → ClassId) (N : Nat) (a : Nat → Nat) (sz : Nat) (g : z_R) (r0 : Int32) (hf : fX5_comingBy N g = some r0) : Met l yX5_comingBy wsX5_comingBy rmX5_comingBy (z_Pc D c sz (z_md c a g) [.ref (a 0)]) (z_Qi D (z_md c a) r0 g (va_A (z_md c a g) sz)) 0 0 (va_A (z_md c a g) sz) := by
  refine z_ofM (cc := cX5_comingBy) (maxL := 1) (ret := (some .int)) (Qf := fun A => z_Qi D (z_md c a) r0 g A) (plainFor_of_name (by decide)) rfl (Nat.le_of_ble_eq_true rfl) ?_
  intro p e s m args below meth co A ls hx hb hr hml hts hown hlocks hnm hA hP hK hD hl hsz
  have hl : lv_has ls 1 [(0, .ref (a 0))] := hl
  have hown : s.vm.findClass RX5 = some m.cls := hown
  obtain ⟨H, hH⟩ : ∃ H, H = s.heap := ⟨_, rfl⟩
  have hS : va_S A s.heap H [] := by rw [hH]; exact va_S.rf
  rw [← hH] at hP ⊢
  clear hH
  unfold fX5_comingBy at hf
  generalize ([] : List Loc) = locs at hS ⊢
  refine lv_aload_n hx hb dX5_comingBy_0 rfl (lv_at hl 0 rfl) ?_
  refine va_get (D := D) (ci := 5) (v := .ref (a 1)) (C := RX5) (T := TX5) (N := 13) hx hb hts iX5_comingBy_X5 hown hK.1 hP 0 rfl rfl 1 (by decide) (hts _ qX5_comingBy_7) (fun _ h9 => h9) rfl dX5_comingBy_1 ?_
  refine lv_iconst (v := (1 : Int32)) hx hb dX5_comingBy_4 (by decide) ?_
  refine va_iald hx hb hK.1 hP 1 0 rfl rfl (z_inE (by decide)) dX5_comingBy_5 ?_
  refine lv_aload_n hx hb dX5_comingBy_6 rfl (lv_at hl 0 rfl) ?_
  refine va_get (D := D) (ci := 5) (v := .ref (a 1)) (C := RX5) (T := TX5) (N := 13) hx hb hts iX5_comingBy_X5 hown hK.1 hP 0 rfl rfl 1 (by decide) (hts _ qX5_comingBy_7) (fun _ h9 => h9) rfl dX5_comingBy_7 ?_
  refine lv_iconst (v := (0 : Int32)) hx hb dX5_comingBy_10 (by decide) ?_
  refine va_iald hx hb hK.1 hP 1 0 rfl rfl (z_inE (by decide)) dX5_comingBy_11 ?_
  obtain ⟨b1, hf⟩ := z_ckE hf
  refine lv_irem hx hb dX5_comingBy_12 (z_nzE b1) ?_
  exact z_rp (wf := (z_md c a)) hx hb hr hlocks hP hD hS hf dX5_comingBy_13
abbrev rmX5_refundedAll : Room := { frames := 0, cells := 0, slots := 0, locals := 0 }
theorem qX5_refundedAll_7 : Cond.fieldLink RX5 7 "ProgramDrumModel" "state" "[I" ∈ wsX5_refundedAll := by decide +kernel
theorem iX5_refundedAll_X5 : ∀ w ∈ wsX50, w ∈ wsX5_refundedAll := by decide +kernel
set_option maxRecDepth 100000 in
set_option maxHeartbeats 4000000 in
theorem kX5_refundedAll (l : Launch) (D : va_G) (c : Nat → ClassId) (N : Nat) (a : Nat → Nat) (sz : Nat) (g : z_R) (r0 : Int32) (hf : fX5_refundedAll N g = some r0) : Met l yX5_refundedAll wsX5_refundedAll rmX5_refundedAll (z_Pc D c sz (z_md c a g) [.ref (a 0)]) (z_Qi D (z_md c a) r0 g (va_A (z_md c a g) sz)) 0 0 (va_A (z_md c a g) sz) := by
  refine z_ofM (cc := cX5_refundedAll) (maxL := 3) (ret := (some .int)) (Qf := fun A => z_Qi D (z_md c a) r0 g A) (plainFor_of_name (by decide)) rfl (Nat.le_of_ble_eq_true rfl) ?_
  intro p e s m args below meth co A ls hx hb hr hml hts hown hlocks hnm hA hP hK hD hl hsz
  have hl : lv_has ls 3 [(0, .ref (a 0))] := hl
  have hown : s.vm.findClass RX5 = some m.cls := hown
  obtain ⟨H, hH⟩ : ∃ H, H = s.heap := ⟨_, rfl⟩
  have hS : va_S A s.heap H [] := by rw [hH]; exact va_S.rf
  rw [← hH] at hP ⊢
  clear hH
  have L4 : ∀ (g : z_R) (fu : Nat) (x1 : Int32) (x2 : Int32), lX5_refundedAll_4 N g fu x1 x2 = some r0 → ∀ (H : Heap) (locs : List Loc) (ls : Array Slot), va_P D vwCl (z_md c a g) H → va_D A (z_md c a g) → va_S A s.heap H locs → lv_has ls 3 [(0, .ref (a 0)), (1, .int x1), (2, .int x2)] → W p l e rmX5_refundedAll s m args below meth co H locs 0 0 (MQ below (z_Qi D (z_md c a) r0 g A) args s 0 0 A) (F0 m 4 ls []) := by
    intro g fu
    induction fu with
    | zero =>
      intro x1 x2 hf
      have hf : (none : Option Int32) = some _ := hf
      cases hf
    | succ fu ih =>
      intro x1 x2 hf H locs ls hP hD hS hl
      rw [lX5_refundedAll_4.eq_2] at hf
      refine lv_iload_n hx hb dX5_refundedAll_4 rfl (lv_at hl 2 rfl) ?_
      refine lv_iconst (v := (4 : Int32)) hx hb dX5_refundedAll_5 (by decide) ?_
      refine lv_icmp_ge (tgt := 27) hx hb dX5_refundedAll_6 (by decide) (fun c1 => ?_) (fun c1 => ?_)
      · have hf := z_ifT hf c1
        refine lv_iload_n hx hb dX5_refundedAll_27 rfl (lv_at hl 1 rfl) ?_
        exact z_rp (wf := (z_md c a)) hx hb hr hlocks hP hD hS hf dX5_refundedAll_28
      · have hf := z_ifF hf c1
        refine lv_iload_n hx hb dX5_refundedAll_9 rfl (lv_at hl 1 rfl) ?_
        refine lv_aload_n hx hb dX5_refundedAll_10 rfl (lv_at hl 0 rfl) ?_
        refine va_get (D := D) (ci := 5) (v := .ref (a 1)) (C := RX5) (T := TX5) (N := 13) hx hb hts iX5_refundedAll_X5 hown hK.1 hP 0 rfl rfl 1 (by decide) (hts _ qX5_refundedAll_7) (fun _ h9 => h9) rfl dX5_refundedAll_11 ?_
        refine lv_bipush (v := (9 : Int32)) hx hb dX5_refundedAll_14 (by decide) ?_
        refine lv_iload_n hx hb dX5_refundedAll_16 rfl (lv_at hl 2 rfl) ?_
        refine lv_iadd hx hb dX5_refundedAll_17 ?_
        obtain ⟨b2, hf⟩ := z_ckE hf
        refine va_iald hx hb hK.1 hP 1 0 rfl rfl (z_inE b2) dX5_refundedAll_18 ?_
        refine lv_iadd hx hb dX5_refundedAll_19 ?_
        refine lv_istore_n (lv' := [(1, .int (x1 + (g 1 (((9 : Int32) + x2)).toNatClampNeg))), (0, .ref (a 0)), (2, .int x2)]) hx hb dX5_refundedAll_20 rfl hl (by decide) rfl (fun ls hl => ?_)
        refine lv_iinc (v := (x2 + (1 : Int32))) (lv' := [(2, .int (x2 + (1 : Int32))), (1, .int (x1 + (g 1 (((9 : Int32) + x2)).toNatClampNeg))), (0, .ref (a 0))]) hx hb dX5_refundedAll_21 hl (k := 2) rfl rfl (by decide) rfl (fun ls hl => ?_)
        refine lv_goto (tgt := 4) hx hb dX5_refundedAll_24 (by decide) ?_
        exact ih _ _ hf H locs ls hP hD hS (lv_sub hl [2, 1, 0] rfl)
  unfold fX5_refundedAll at hf
  generalize ([] : List Loc) = locs at hS ⊢
  refine lv_iconst (v := (0 : Int32)) hx hb dX5_refundedAll_0 (by decide) ?_
  refine lv_istore_n (lv' := [(1, .int (0 : Int32)), (0, .ref (a 0))]) hx hb dX5_refundedAll_1 rfl hl (by decide) rfl (fun ls hl => ?_)
  refine lv_iconst (v := (0 : Int32)) hx hb dX5_refundedAll_2 (by decide) ?_
  refine lv_istore_n (lv' := [(2, .int (0 : Int32)), (1, .int (0 : Int32)), (0, .ref (a 0))]) hx hb dX5_refundedAll_3 rfl hl (by decide) rfl (fun ls hl => ?_)
  exact L4 _ N _ _ hf H locs ls hP hD hS (lv_sub hl [2, 1, 0] rfl)
abbrev rmX5_about : Room := { frames := 1, cells := 0, slots := 0, locals := 22 }
theorem qX5_about_37 : Cond.fieldLink RX5 37 "ProgramDrumModel" "thrown" "I" ∈ wsX5_about := by decide +kernel
theorem iX5_about_X5 : ∀ w ∈ wsX50, w ∈ wsX5_about := by decide +kernel
theorem qX5_about_7 : Cond.fieldLink RX5 7 "ProgramDrumModel" "state" "[I" ∈ wsX5_about := by decide +kernel
set_option maxRecDepth 100000 in
set_option maxHeartbeats 4000000 in
theorem kX5_about (l : Launch) (D : va_G) (c : Nat → ClassId) (N : Nat) (a : Nat → Nat) (sz : Nat) (g : z_R) (p1 : Int32) (r0 : Int32) (g0 : z_R) (hf : fX5_about N p1 g = some (r0, g0)) : Met l yX5_about wsX5_about rmX5_about (z_Pc D c sz (z_md c a g) [.ref (a 0), .int p1]) (z_Qi D (z_md c a) r0 g0 (va_A (z_md c a g) sz)) 0 0 (va_A (z_md c a g) sz) := by
  refine z_ofM (cc := cX5_about) (maxL := 6) (ret := (some .int)) (Qf := fun A => z_Qi D (z_md c a) r0 g0 A) (plainFor_of_name (by decide)) rfl (Nat.le_of_ble_eq_true rfl) ?_
  intro p e s m args below meth co A ls hx hb hr hml hts hown hlocks hnm hA hP hK hD hl hsz
  have hl : lv_has ls 6 [(0, .ref (a 0)), (1, .int p1)] := hl
  have hown : s.vm.findClass RX5 = some m.cls := hown
  obtain ⟨H, hH⟩ : ∃ H, H = s.heap := ⟨_, rfl⟩
  have hS : va_S A s.heap H [] := by rw [hH]; exact va_S.rf
  rw [← hH] at hP ⊢
  clear hH
  have L79 : ∀ (x1 : Int32) (x2 : Int32) (x3 : Int32) (g : z_R) (fu : Nat) (x4 : Int32) (x5 : Int32), lX5_about_79 N x1 x2 x3 g fu x4 x5 = some (r0, g0) → ∀ (H : Heap) (locs : List Loc) (ls : Array Slot), va_P D vwCl (z_md c a g) H → va_D A (z_md c a g) → va_S A s.heap H locs → lv_has ls 6 [(0, .ref (a 0)), (1, .int x1), (2, .int x2), (3, .int x3), (4, .int x4), (5, .int x5)] → W p l e rmX5_about s m args below meth co H locs 0 0 (MQ below (z_Qi D (z_md c a) r0 g0 A) args s 0 0 A) (F0 m 79 ls []) := by
    intro x1 x2 x3 g fu
    induction fu with
    | zero =>
      intro x4 x5 hf
      have hf : (none : Option (Int32 × z_R)) = some _ := hf
      cases hf
    | succ fu ih =>
      intro x4 x5 hf H locs ls hP hD hS hl
      rw [lX5_about_79.eq_2] at hf
      refine lv_iload hx hb dX5_about_79 (lv_at hl 5 rfl) ?_
      refine lv_iconst (v := (4 : Int32)) hx hb dX5_about_81 (by decide) ?_
      refine lv_icmp_ge (tgt := 105) hx hb dX5_about_82 (by decide) (fun c5 => ?_) (fun c5 => ?_)
      · have hf := z_ifT hf c5
        refine lv_iload_n hx hb dX5_about_105 rfl (lv_at hl 1 rfl) ?_
        by_cases c6_0 : x1 = (0 : Int32)
        · have hf := z_ifT hf c6_0
          refine lv_tableIn (tgt := 160) hx hb dX5_about_106 (by rw [c6_0]; decide) (by rw [c6_0]; decide) (off := 54) (by rw [c6_0]; rfl) (by decide) ?_
          refine lv_aload_n hx hb dX5_about_160 rfl (lv_at hl 0 rfl) ?_
          refine va_get (D := D) (ci := 5) (v := .ref (a 1)) (C := RX5) (T := TX5) (N := 13) hx hb hts iX5_about_X5 hown hK.1 hP 0 rfl rfl 1 (by decide) (hts _ qX5_about_7) (fun _ h9 => h9) rfl dX5_about_161 ?_
          refine lv_iconst (v := (0 : Int32)) hx hb dX5_about_164 (by decide) ?_
          refine va_iald hx hb hK.1 hP 1 0 rfl rfl (z_inE (by decide)) dX5_about_165 ?_
          exact z_ri (wf := (z_md c a)) hx hb hr hlocks hP hD hS hf dX5_about_166
        have hf := z_ifF hf c6_0
        by_cases c6_1 : x1 = (1 : Int32)
        · have hf := z_ifT hf c6_1
          refine lv_tableIn (tgt := 167) hx hb dX5_about_106 (by rw [c6_1]; decide) (by rw [c6_1]; decide) (off := 61) (by rw [c6_1]; rfl) (by decide) ?_
          refine lv_aload_n hx hb dX5_about_167 rfl (lv_at hl 0 rfl) ?_
          refine va_get (D := D) (ci := 5) (v := .ref (a 1)) (C := RX5) (T := TX5) (N := 13) hx hb hts iX5_about_X5 hown hK.1 hP 0 rfl rfl 1 (by decide) (hts _ qX5_about_7) (fun _ h9 => h9) rfl dX5_about_168 ?_
          refine lv_iconst (v := (2 : Int32)) hx hb dX5_about_171 (by decide) ?_
          refine va_iald hx hb hK.1 hP 1 0 rfl rfl (z_inE (by decide)) dX5_about_172 ?_
          exact z_ri (wf := (z_md c a)) hx hb hr hlocks hP hD hS hf dX5_about_173
        have hf := z_ifF hf c6_1
        by_cases c6_2 : x1 = (2 : Int32)
        · have hf := z_ifT hf c6_2
          refine lv_tableIn (tgt := 174) hx hb dX5_about_106 (by rw [c6_2]; decide) (by rw [c6_2]; decide) (off := 68) (by rw [c6_2]; rfl) (by decide) ?_
          refine lv_aload_n hx hb dX5_about_174 rfl (lv_at hl 0 rfl) ?_
          refine va_get (D := D) (ci := 5) (v := .ref (a 1)) (C := RX5) (T := TX5) (N := 13) hx hb hts iX5_about_X5 hown hK.1 hP 0 rfl rfl 1 (by decide) (hts _ qX5_about_7) (fun _ h9 => h9) rfl dX5_about_175 ?_
          refine lv_iconst (v := (1 : Int32)) hx hb dX5_about_178 (by decide) ?_
          refine va_iald hx hb hK.1 hP 1 0 rfl rfl (z_inE (by decide)) dX5_about_179 ?_
          exact z_ri (wf := (z_md c a)) hx hb hr hlocks hP hD hS hf dX5_about_180
        have hf := z_ifF hf c6_2
        by_cases c6_3 : x1 = (3 : Int32)
        · have hf := z_ifT hf c6_3
          refine lv_tableIn (tgt := 181) hx hb dX5_about_106 (by rw [c6_3]; decide) (by rw [c6_3]; decide) (off := 75) (by rw [c6_3]; rfl) (by decide) ?_
          refine lv_aload_n hx hb dX5_about_181 rfl (lv_at hl 0 rfl) ?_
          obtain ⟨r7, h7, hf⟩ := z_bE hf
          refine z_cVi (As := []) (rest := []) (wf := (z_md c a)) (g := g) (u0 := g) ⟨hx, hb, hml, hown, hts⟩ (kX5_comingBy l D c N a H.size g  r7 h7) (cwV 0 hts gX5_about_X5_comingBy rfl rfl rfl (by decide +kernel) ⟨Nat.le_of_ble_eq_true rfl, Nat.le_of_ble_eq_true rfl⟩) hP hK hD hS hA (ci := 5) (q0 := 0) rfl rfl rfl rfl hl.1 (Nat.le_of_ble_eq_true rfl) rfl dX5_about_182 ⟨Nat.zero_le _, Nat.zero_le _⟩ (fun H locs hP hD hS => ?_)
          exact z_ri (wf := (z_md c a)) hx hb hr hlocks hP hD hS hf dX5_about_185
        have hf := z_ifF hf c6_3
        by_cases c6_4 : x1 = (4 : Int32)
        · have hf := z_ifT hf c6_4
          refine lv_tableIn (tgt := 186) hx hb dX5_about_106 (by rw [c6_4]; decide) (by rw [c6_4]; decide) (off := 80) (by rw [c6_4]; rfl) (by decide) ?_
          refine lv_iload_n hx hb dX5_about_186 rfl (lv_at hl 2 rfl) ?_
          exact z_ri (wf := (z_md c a)) hx hb hr hlocks hP hD hS hf dX5_about_187
        have hf := z_ifF hf c6_4
        by_cases c6_5 : x1 = (5 : Int32)
        · have hf := z_ifT hf c6_5
          refine lv_tableIn (tgt := 188) hx hb dX5_about_106 (by rw [c6_5]; decide) (by rw [c6_5]; decide) (off := 82) (by rw [c6_5]; rfl) (by decide) ?_
          refine lv_iload hx hb dX5_about_188 (lv_at hl 4 rfl) ?_
          exact z_ri (wf := (z_md c a)) hx hb hr hlocks hP hD hS hf dX5_about_190
        have hf := z_ifF hf c6_5
        by_cases c6_6 : x1 = (6 : Int32)
        · have hf := z_ifT hf c6_6
          refine lv_tableIn (tgt := 191) hx hb dX5_about_106 (by rw [c6_6]; decide) (by rw [c6_6]; decide) (off := 85) (by rw [c6_6]; rfl) (by decide) ?_
          refine lv_aload_n hx hb dX5_about_191 rfl (lv_at hl 0 rfl) ?_
          obtain ⟨r8, h8, hf⟩ := z_bE hf
          refine z_cVi (As := []) (rest := []) (wf := (z_md c a)) (g := g) (u0 := g) ⟨hx, hb, hml, hown, hts⟩ (kX5_refundedAll l D c N a H.size g  r8 h8) (cwV 0 hts gX5_about_X5_refundedAll rfl rfl rfl (by decide +kernel) ⟨Nat.le_of_ble_eq_true rfl, Nat.le_of_ble_eq_true rfl⟩) hP hK hD hS hA (ci := 5) (q0 := 0) rfl rfl rfl rfl hl.1 (Nat.le_of_ble_eq_true rfl) rfl dX5_about_192 ⟨Nat.zero_le _, Nat.zero_le _⟩ (fun H locs hP hD hS => ?_)
          exact z_ri (wf := (z_md c a)) hx hb hr hlocks hP hD hS hf dX5_about_195
        have hf := z_ifF hf c6_6
        by_cases c6_7 : x1 = (7 : Int32)
        · have hf := z_ifT hf c6_7
          refine lv_tableIn (tgt := 196) hx hb dX5_about_106 (by rw [c6_7]; decide) (by rw [c6_7]; decide) (off := 90) (by rw [c6_7]; rfl) (by decide) ?_
          refine lv_iload_n hx hb dX5_about_196 rfl (lv_at hl 3 rfl) ?_
          exact z_ri (wf := (z_md c a)) hx hb hr hlocks hP hD hS hf dX5_about_197
        have hf := z_ifF hf c6_7
        by_cases c6_8 : x1 = (8 : Int32)
        · have hf := z_ifT hf c6_8
          refine lv_tableIn (tgt := 198) hx hb dX5_about_106 (by rw [c6_8]; decide) (by rw [c6_8]; decide) (off := 92) (by rw [c6_8]; rfl) (by decide) ?_
          refine lv_aload_n hx hb dX5_about_198 rfl (lv_at hl 0 rfl) ?_
          refine va_get (D := D) (ci := 5) (v := .ref (a 1)) (C := RX5) (T := TX5) (N := 13) hx hb hts iX5_about_X5 hown hK.1 hP 0 rfl rfl 1 (by decide) (hts _ qX5_about_7) (fun _ h9 => h9) rfl dX5_about_199 ?_
          refine lv_iconst (v := (3 : Int32)) hx hb dX5_about_202 (by decide) ?_
          refine va_iald hx hb hK.1 hP 1 0 rfl rfl (z_inE (by decide)) dX5_about_203 ?_
          exact z_ri (wf := (z_md c a)) hx hb hr hlocks hP hD hS hf dX5_about_204
        have hf := z_ifF hf c6_8
        by_cases c6_9 : x1 = (9 : Int32)
        · have hf := z_ifT hf c6_9
          refine lv_tableIn (tgt := 205) hx hb dX5_about_106 (by rw [c6_9]; decide) (by rw [c6_9]; decide) (off := 99) (by rw [c6_9]; rfl) (by decide) ?_
          refine lv_aload_n hx hb dX5_about_205 rfl (lv_at hl 0 rfl) ?_
          refine va_get (D := D) (ci := 5) (v := .ref (a 1)) (C := RX5) (T := TX5) (N := 13) hx hb hts iX5_about_X5 hown hK.1 hP 0 rfl rfl 1 (by decide) (hts _ qX5_about_7) (fun _ h9 => h9) rfl dX5_about_206 ?_
          refine lv_iconst (v := (4 : Int32)) hx hb dX5_about_209 (by decide) ?_
          refine va_iald hx hb hK.1 hP 1 0 rfl rfl (z_inE (by decide)) dX5_about_210 ?_
          exact z_ri (wf := (z_md c a)) hx hb hr hlocks hP hD hS hf dX5_about_211
        have hf := z_ifF hf c6_9
        refine lv_tableOut (tgt := 212) hx hb dX5_about_106 (z_sw0_9 c6_0 c6_1 c6_2 c6_3 c6_4 c6_5 c6_6 c6_7 c6_8 c6_9) (by decide) ?_
        refine lv_iconst (v := (0 : Int32)) hx hb dX5_about_212 (by decide) ?_
        exact z_ri (wf := (z_md c a)) hx hb hr hlocks hP hD hS hf dX5_about_213
      · have hf := z_ifF hf c5
        refine lv_iload hx hb dX5_about_85 (lv_at hl 4 rfl) ?_
        refine lv_aload_n hx hb dX5_about_87 rfl (lv_at hl 0 rfl) ?_
        refine va_get (D := D) (ci := 5) (v := .ref (a 1)) (C := RX5) (T := TX5) (N := 13) hx hb hts iX5_about_X5 hown hK.1 hP 0 rfl rfl 1 (by decide) (hts _ qX5_about_7) (fun _ h9 => h9) rfl dX5_about_88 ?_
        refine lv_iconst (v := (5 : Int32)) hx hb dX5_about_91 (by decide) ?_
        refine lv_iload hx hb dX5_about_92 (lv_at hl 5 rfl) ?_
        refine lv_iadd hx hb dX5_about_94 ?_
        obtain ⟨b9, hf⟩ := z_ckE hf
        refine va_iald hx hb hK.1 hP 1 0 rfl rfl (z_inE b9) dX5_about_95 ?_
        refine lv_iadd hx hb dX5_about_96 ?_
        refine lv_istore (lv' := [(4, .int (x4 + (g 1 (((5 : Int32) + x5)).toNatClampNeg))), (0, .ref (a 0)), (1, .int x1), (2, .int x2), (3, .int x3), (5, .int x5)]) hx hb dX5_about_97 hl (by decide) rfl (fun ls hl => ?_)
        refine lv_iinc (v := (x5 + (1 : Int32))) (lv' := [(5, .int (x5 + (1 : Int32))), (4, .int (x4 + (g 1 (((5 : Int32) + x5)).toNatClampNeg))), (0, .ref (a 0)), (1, .int x1), (2, .int x2), (3, .int x3)]) hx hb dX5_about_99 hl (k := 5) rfl rfl (by decide) rfl (fun ls hl => ?_)
        refine lv_goto (tgt := 79) hx hb dX5_about_102 (by decide) ?_
        exact ih _ _ hf H locs ls hP hD hS (lv_sub hl [2, 3, 4, 5, 1, 0] rfl)
  have L26 : ∀ (x1 : Int32) (g : z_R) (fu : Nat) (x2 : Int32) (x3 : Int32) (x4 : Int32), lX5_about_26 N x1 g fu x2 x3 x4 = some (r0, g0) → ∀ (H : Heap) (locs : List Loc) (ls : Array Slot), va_P D vwCl (z_md c a g) H → va_D A (z_md c a g) → va_S A s.heap H locs → lv_has ls 6 [(0, .ref (a 0)), (1, .int x1), (2, .int x2), (3, .int x3), (4, .int x4)] → W p l e rmX5_about s m args below meth co H locs 0 0 (MQ below (z_Qi D (z_md c a) r0 g0 A) args s 0 0 A) (F0 m 26 ls []) := by
    intro x1 g fu
    induction fu with
    | zero =>
      intro x2 x3 x4 hf
      have hf : (none : Option (Int32 × z_R)) = some _ := hf
      cases hf
    | succ fu ih =>
      intro x2 x3 x4 hf H locs ls hP hD hS hl
      rw [lX5_about_26.eq_2] at hf
      refine lv_iload hx hb dX5_about_26 (lv_at hl 4 rfl) ?_
      refine lv_aload_n hx hb dX5_about_28 rfl (lv_at hl 0 rfl) ?_
      refine va_get (D := D) (ci := 5) (v := .ref (a 1)) (C := RX5) (T := TX5) (N := 13) hx hb hts iX5_about_X5 hown hK.1 hP 0 rfl rfl 1 (by decide) (hts _ qX5_about_7) (fun _ h9 => h9) rfl dX5_about_29 ?_
      refine lv_iconst (v := (2 : Int32)) hx hb dX5_about_32 (by decide) ?_
      refine va_iald hx hb hK.1 hP 1 0 rfl rfl (z_inE (by decide)) dX5_about_33 ?_
      refine lv_icmp_ge (tgt := 73) hx hb dX5_about_34 (by decide) (fun c4 => ?_) (fun c4 => ?_)
      · have hf := z_ifT hf c4
        refine lv_iconst (v := (0 : Int32)) hx hb dX5_about_73 (by decide) ?_
        refine lv_istore (lv' := [(4, .int (0 : Int32)), (0, .ref (a 0)), (1, .int x1), (2, .int x2), (3, .int x3)]) hx hb dX5_about_74 hl (by decide) rfl (fun ls hl => ?_)
        refine lv_iconst (v := (0 : Int32)) hx hb dX5_about_76 (by decide) ?_
        refine lv_istore (lv' := [(5, .int (0 : Int32)), (4, .int (0 : Int32)), (0, .ref (a 0)), (1, .int x1), (2, .int x2), (3, .int x3)]) hx hb dX5_about_77 hl (by decide) rfl (fun ls hl => ?_)
        exact L79 _ _ _ _ N _ _ hf H locs ls hP hD hS (lv_sub hl [2, 3, 4, 5, 1, 0] rfl)
      · have hf := z_ifF hf c4
        refine lv_iload_n hx hb dX5_about_37 rfl (lv_at hl 2 rfl) ?_
        refine lv_aload_n hx hb dX5_about_38 rfl (lv_at hl 0 rfl) ?_
        refine lv_iload hx hb dX5_about_39 (lv_at hl 4 rfl) ?_
        refine lv_iconst (v := (5 : Int32)) hx hb dX5_about_41 (by decide) ?_
        obtain ⟨r10, h10, hf⟩ := z_bE hf
        refine z_cVi (As := [.int x4, .int (5 : Int32)]) (rest := [.int x2]) (wf := (z_md c a)) (g := g) (u0 := g) ⟨hx, hb, hml, hown, hts⟩ (kX5_part l D c N a H.size g x4 (5 : Int32) r10 h10) (cwV 2 hts gX5_about_X5_part rfl rfl rfl (by decide +kernel) ⟨Nat.le_of_ble_eq_true rfl, Nat.le_of_ble_eq_true rfl⟩) hP hK hD hS hA (ci := 5) (q0 := 0) rfl rfl rfl rfl hl.1 (Nat.le_of_ble_eq_true rfl) rfl dX5_about_42 ⟨Nat.zero_le _, Nat.zero_le _⟩ (fun H locs hP hD hS => ?_)
        refine lv_iconst (v := (-1 : Int32)) hx hb dX5_about_45 (by decide) ?_
        refine lv_icmp_ne (tgt := 53) hx hb dX5_about_46 (by decide) (fun c11 => ?_) (fun c11 => ?_)
        · have hf := z_ifF hf c11
          refine lv_iconst (v := (1 : Int32)) hx hb dX5_about_53 (by decide) ?_
          refine lv_iadd hx hb dX5_about_54 ?_
          refine lv_istore_n (lv' := [(2, .int (x2 + (1 : Int32))), (0, .ref (a 0)), (1, .int x1), (3, .int x3), (4, .int x4)]) hx hb dX5_about_55 rfl hl (by decide) rfl (fun ls hl => ?_)
          refine lv_iload_n hx hb dX5_about_56 rfl (lv_at hl 3 rfl) ?_
          refine lv_aload_n hx hb dX5_about_57 rfl (lv_at hl 1 rfl) ?_
          refine lv_iload hx hb dX5_about_58 (lv_at hl 4 rfl) ?_
          refine lv_bipush (v := (7 : Int32)) hx hb dX5_about_60 (by decide) ?_
          obtain ⟨r12, h12, hf⟩ := z_bE hf
          refine z_cVi (As := [.int x4, .int (7 : Int32)]) (rest := [.int x3]) (wf := (z_md c a)) (g := g) (u0 := g) ⟨hx, hb, hml, hown, hts⟩ (kX5_part l D c N a H.size g x4 (7 : Int32) r12 h12) (cwV 2 hts gX5_about_X5_part rfl rfl rfl (by decide +kernel) ⟨Nat.le_of_ble_eq_true rfl, Nat.le_of_ble_eq_true rfl⟩) hP hK hD hS hA (ci := 5) (q0 := 0) rfl rfl rfl rfl hl.1 (Nat.le_of_ble_eq_true rfl) rfl dX5_about_62 ⟨Nat.zero_le _, Nat.zero_le _⟩ (fun H locs hP hD hS => ?_)
          refine lv_iadd hx hb dX5_about_65 ?_
          refine lv_istore_n (lv' := [(3, .int (x3 + r12)), (2, .int (x2 + (1 : Int32))), (0, .ref (a 0)), (1, .int x1), (4, .int x4)]) hx hb dX5_about_66 rfl hl (by decide) rfl (fun ls hl => ?_)
          refine lv_iinc (v := (x4 + (1 : Int32))) (lv' := [(4, .int (x4 + (1 : Int32))), (3, .int (x3 + r12)), (2, .int (x2 + (1 : Int32))), (0, .ref (a 0)), (1, .int x1)]) hx hb dX5_about_67 hl (k := 4) rfl rfl (by decide) rfl (fun ls hl => ?_)
          refine lv_goto (tgt := 26) hx hb dX5_about_70 (by decide) ?_
          exact ih _ _ _ hf H locs ls hP hD hS (lv_sub hl [3, 4, 2, 1, 0] rfl)
        · have hf := z_ifT hf c11
          refine lv_iconst (v := (0 : Int32)) hx hb dX5_about_49 (by decide) ?_
          refine lv_goto (tgt := 54) hx hb dX5_about_50 (by decide) ?_
          refine lv_iadd hx hb dX5_about_54 ?_
          refine lv_istore_n (lv' := [(2, .int (x2 + (0 : Int32))), (0, .ref (a 0)), (1, .int x1), (3, .int x3), (4, .int x4)]) hx hb dX5_about_55 rfl hl (by decide) rfl (fun ls hl => ?_)
          refine lv_iload_n hx hb dX5_about_56 rfl (lv_at hl 3 rfl) ?_
          refine lv_aload_n hx hb dX5_about_57 rfl (lv_at hl 1 rfl) ?_
          refine lv_iload hx hb dX5_about_58 (lv_at hl 4 rfl) ?_
          refine lv_bipush (v := (7 : Int32)) hx hb dX5_about_60 (by decide) ?_
          obtain ⟨r13, h13, hf⟩ := z_bE hf
          refine z_cVi (As := [.int x4, .int (7 : Int32)]) (rest := [.int x3]) (wf := (z_md c a)) (g := g) (u0 := g) ⟨hx, hb, hml, hown, hts⟩ (kX5_part l D c N a H.size g x4 (7 : Int32) r13 h13) (cwV 2 hts gX5_about_X5_part rfl rfl rfl (by decide +kernel) ⟨Nat.le_of_ble_eq_true rfl, Nat.le_of_ble_eq_true rfl⟩) hP hK hD hS hA (ci := 5) (q0 := 0) rfl rfl rfl rfl hl.1 (Nat.le_of_ble_eq_true rfl) rfl dX5_about_62 ⟨Nat.zero_le _, Nat.zero_le _⟩ (fun H locs hP hD hS => ?_)
          refine lv_iadd hx hb dX5_about_65 ?_
          refine lv_istore_n (lv' := [(3, .int (x3 + r13)), (2, .int (x2 + (0 : Int32))), (0, .ref (a 0)), (1, .int x1), (4, .int x4)]) hx hb dX5_about_66 rfl hl (by decide) rfl (fun ls hl => ?_)
          refine lv_iinc (v := (x4 + (1 : Int32))) (lv' := [(4, .int (x4 + (1 : Int32))), (3, .int (x3 + r13)), (2, .int (x2 + (0 : Int32))), (0, .ref (a 0)), (1, .int x1)]) hx hb dX5_about_67 hl (k := 4) rfl rfl (by decide) rfl (fun ls hl => ?_)
          refine lv_goto (tgt := 26) hx hb dX5_about_70 (by decide) ?_
          exact ih _ _ _ hf H locs ls hP hD hS (lv_sub hl [3, 4, 2, 1, 0] rfl)
  unfold fX5_about at hf
  generalize ([] : List Loc) = locs at hS ⊢
  refine lv_aload_n hx hb dX5_about_0 rfl (lv_at hl 0 rfl) ?_
  refine lv_iload_n hx hb dX5_about_1 rfl (lv_at hl 1 rfl) ?_
  refine lv_iconst (v := (0 : Int32)) hx hb dX5_about_2 (by decide) ?_
  refine lv_bipush (v := (9 : Int32)) hx hb dX5_about_3 (by decide) ?_
  obtain ⟨r1, h1, hf⟩ := z_bE hf
  refine z_cSi (As := [.int p1, .int (0 : Int32), .int (9 : Int32)]) (rest := [.ref (a 0)]) ⟨hx, hb, hml, hown, hts⟩ (kX5_within l D c N H.size p1 (0 : Int32) (9 : Int32) r1 h1) (va_cwS 3 hts gX5_about_X5_within rfl rfl rfl (by decide +kernel) ⟨Nat.le_of_ble_eq_true rfl, Nat.le_of_ble_eq_true rfl⟩) hP hK hS hA rfl hl.1 (Nat.le_of_ble_eq_true rfl) rfl dX5_about_5 ⟨Nat.zero_le _, Nat.zero_le _⟩ (fun H locs hP hS => ?_)
  refine lv_if_eq (tgt := 15) hx hb dX5_about_8 (by decide) (fun c2 => ?_) (fun c2 => ?_)
  · have hf := z_ifT hf c2
    refine lv_iconst (v := (1 : Int32)) hx hb dX5_about_15 (by decide) ?_
    refine va_put (D := D) (ci := 5) (v := .int (1 : Int32)) (ty := .int) (C := RX5) (T := TX5) (N := 13) hx hb hts iX5_about_X5 tyX5 tyX5_ok nmX5 hown hK.1 hP hD hS 0 rfl rfl 0 (by decide) (hts _ qX5_about_37) (fun _ h9 => h9) rfl (by decide +kernel) rfl rfl (Nat.le_of_ble_eq_true rfl) dX5_about_16 (fun H locs hP hD hS => ?_)
    obtain ⟨g3, e3, hf⟩ := z_ltE hf
    have hP : va_P D vwCl (z_md c a g3) H := by rw [e3]; exact hP
    have hD : va_D A (z_md c a g3) := by rw [e3]; exact hD
    clear e3
    refine lv_iconst (v := (0 : Int32)) hx hb dX5_about_19 (by decide) ?_
    refine lv_istore_n (lv' := [(2, .int (0 : Int32)), (0, .ref (a 0)), (1, .int p1)]) hx hb dX5_about_20 rfl hl (by decide) rfl (fun ls hl => ?_)
    refine lv_iconst (v := (0 : Int32)) hx hb dX5_about_21 (by decide) ?_
    refine lv_istore_n (lv' := [(3, .int (0 : Int32)), (2, .int (0 : Int32)), (0, .ref (a 0)), (1, .int p1)]) hx hb dX5_about_22 rfl hl (by decide) rfl (fun ls hl => ?_)
    refine lv_iconst (v := (0 : Int32)) hx hb dX5_about_23 (by decide) ?_
    refine lv_istore (lv' := [(4, .int (0 : Int32)), (3, .int (0 : Int32)), (2, .int (0 : Int32)), (0, .ref (a 0)), (1, .int p1)]) hx hb dX5_about_24 hl (by decide) rfl (fun ls hl => ?_)
    exact L26 _ _ N _ _ _ hf H locs ls hP hD hS (lv_sub hl [3, 4, 2, 1, 0] rfl)
  · have hf := z_ifF hf c2
    refine lv_iconst (v := (0 : Int32)) hx hb dX5_about_11 (by decide) ?_
    refine lv_goto (tgt := 16) hx hb dX5_about_12 (by decide) ?_
    refine va_put (D := D) (ci := 5) (v := .int (0 : Int32)) (ty := .int) (C := RX5) (T := TX5) (N := 13) hx hb hts iX5_about_X5 tyX5 tyX5_ok nmX5 hown hK.1 hP hD hS 0 rfl rfl 0 (by decide) (hts _ qX5_about_37) (fun _ h9 => h9) rfl (by decide +kernel) rfl rfl (Nat.le_of_ble_eq_true rfl) dX5_about_16 (fun H locs hP hD hS => ?_)
    obtain ⟨g14, e14, hf⟩ := z_ltE hf
    have hP : va_P D vwCl (z_md c a g14) H := by rw [e14]; exact hP
    have hD : va_D A (z_md c a g14) := by rw [e14]; exact hD
    clear e14
    refine lv_iconst (v := (0 : Int32)) hx hb dX5_about_19 (by decide) ?_
    refine lv_istore_n (lv' := [(2, .int (0 : Int32)), (0, .ref (a 0)), (1, .int p1)]) hx hb dX5_about_20 rfl hl (by decide) rfl (fun ls hl => ?_)
    refine lv_iconst (v := (0 : Int32)) hx hb dX5_about_21 (by decide) ?_
    refine lv_istore_n (lv' := [(3, .int (0 : Int32)), (2, .int (0 : Int32)), (0, .ref (a 0)), (1, .int p1)]) hx hb dX5_about_22 rfl hl (by decide) rfl (fun ls hl => ?_)
    refine lv_iconst (v := (0 : Int32)) hx hb dX5_about_23 (by decide) ?_
    refine lv_istore (lv' := [(4, .int (0 : Int32)), (3, .int (0 : Int32)), (2, .int (0 : Int32)), (0, .ref (a 0)), (1, .int p1)]) hx hb dX5_about_24 hl (by decide) rfl (fun ls hl => ?_)
    exact L26 _ _ N _ _ _ hf H locs ls hP hD hS (lv_sub hl [3, 4, 2, 1, 0] rfl)
abbrev rmX5_order : Room := { frames := 2, cells := 0, slots := 0, locals := 43 }
theorem qX5_order_37 : Cond.fieldLink RX5 37 "ProgramDrumModel" "thrown" "I" ∈ wsX5_order := by decide +kernel
theorem iX5_order_X5 : ∀ w ∈ wsX50, w ∈ wsX5_order := by decide +kernel
set_option maxRecDepth 100000 in
set_option maxHeartbeats 4000000 in
theorem kX5_order (l : Launch) (D : va_G) (c : Nat → ClassId) (N : Nat) (a : Nat → Nat) (sz : Nat) (g : z_R) (p1 : Int32) (p2 : Int32) (r0 : Int32) (g0 : z_R) (hf : fX5_order N p1 p2 g = some (r0, g0)) : Met l yX5_order wsX5_order rmX5_order (z_Pc D c sz (z_md c a g) [.ref (a 0), .int p1, .int p2]) (z_Qi D (z_md c a) r0 g0 (va_A (z_md c a g) sz)) 0 0 (va_A (z_md c a g) sz) := by
  refine z_ofM (cc := cX5_order) (maxL := 3) (ret := (some .int)) (Qf := fun A => z_Qi D (z_md c a) r0 g0 A) (plainFor_of_name (by decide)) rfl (Nat.le_of_ble_eq_true rfl) ?_
  intro p e s m args below meth co A ls hx hb hr hml hts hown hlocks hnm hA hP hK hD hl hsz
  have hl : lv_has ls 3 [(0, .ref (a 0)), (1, .int p1), (2, .int p2)] := hl
  have hown : s.vm.findClass RX5 = some m.cls := hown
  obtain ⟨H, hH⟩ : ∃ H, H = s.heap := ⟨_, rfl⟩
  have hS : va_S A s.heap H [] := by rw [hH]; exact va_S.rf
  rw [← hH] at hP ⊢
  clear hH
  unfold fX5_order at hf
  generalize ([] : List Loc) = locs at hS ⊢
  refine lv_aload_n hx hb dX5_order_0 rfl (lv_at hl 0 rfl) ?_
  refine lv_aload_n hx hb dX5_order_1 rfl (lv_at hl 0 rfl) ?_
  refine lv_iload_n hx hb dX5_order_2 rfl (lv_at hl 1 rfl) ?_
  obtain ⟨r1, h1, hf⟩ := z_bE hf
  refine z_cVi (As := [.int p1]) (rest := [.ref (a 0)]) (wf := (z_md c a)) (g := g) (u0 := g) ⟨hx, hb, hml, hown, hts⟩ (kX5_isOrder l D c N a H.size g p1 r1 h1) (cwV 1 hts gX5_order_X5_isOrder rfl rfl rfl (by decide +kernel) ⟨Nat.le_of_ble_eq_true rfl, Nat.le_of_ble_eq_true rfl⟩) hP hK hD hS hA (ci := 5) (q0 := 0) rfl rfl rfl rfl hl.1 (Nat.le_of_ble_eq_true rfl) rfl dX5_order_3 ⟨Nat.zero_le _, Nat.zero_le _⟩ (fun H locs hP hD hS => ?_)
  refine lv_if_ne (tgt := 13) hx hb dX5_order_6 (by decide) (fun c2 => ?_) (fun c2 => ?_)
  · have hf := z_ifF hf c2
    refine lv_iload_n hx hb dX5_order_13 rfl (lv_at hl 2 rfl) ?_
    refine lv_iconst (v := (0 : Int32)) hx hb dX5_order_14 (by decide) ?_
    refine lv_bipush (v := (8 : Int32)) hx hb dX5_order_15 (by decide) ?_
    obtain ⟨r3, h3, hf⟩ := z_bE hf
    refine z_cSi (As := [.int p2, .int (0 : Int32), .int (8 : Int32)]) (rest := [.ref (a 0)]) ⟨hx, hb, hml, hown, hts⟩ (kX5_within l D c N H.size p2 (0 : Int32) (8 : Int32) r3 h3) (va_cwS 3 hts gX5_order_X5_within rfl rfl rfl (by decide +kernel) ⟨Nat.le_of_ble_eq_true rfl, Nat.le_of_ble_eq_true rfl⟩) hP hK hS hA rfl hl.1 (Nat.le_of_ble_eq_true rfl) rfl dX5_order_17 ⟨Nat.zero_le _, Nat.zero_le _⟩ (fun H locs hP hS => ?_)
    refine lv_if_eq (tgt := 27) hx hb dX5_order_20 (by decide) (fun c4 => ?_) (fun c4 => ?_)
    · have hf := z_ifT hf c4
      refine lv_iconst (v := (2 : Int32)) hx hb dX5_order_27 (by decide) ?_
      refine va_put (D := D) (ci := 5) (v := .int (2 : Int32)) (ty := .int) (C := RX5) (T := TX5) (N := 13) hx hb hts iX5_order_X5 tyX5 tyX5_ok nmX5 hown hK.1 hP hD hS 0 rfl rfl 0 (by decide) (hts _ qX5_order_37) (fun _ h9 => h9) rfl (by decide +kernel) rfl rfl (Nat.le_of_ble_eq_true rfl) dX5_order_28 (fun H locs hP hD hS => ?_)
      obtain ⟨g5, e5, hf⟩ := z_ltE hf
      have hP : va_P D vwCl (z_md c a g5) H := by rw [e5]; exact hP
      have hD : va_D A (z_md c a g5) := by rw [e5]; exact hD
      clear e5
      refine lv_aload_n hx hb dX5_order_31 rfl (lv_at hl 0 rfl) ?_
      refine va_get (D := D) (ci := 5) (v := .int (g5 0 0)) (C := RX5) (T := TX5) (N := 13) hx hb hts iX5_order_X5 hown hK.1 hP 0 rfl rfl 0 (by decide) (hts _ qX5_order_37) (fun _ h9 => h9) rfl dX5_order_32 ?_
      refine lv_if_le (tgt := 42) hx hb dX5_order_35 (by decide) (fun c6 => ?_) (fun c6 => ?_)
      · have hf := z_ifT hf c6
        refine lv_aload_n hx hb dX5_order_42 rfl (lv_at hl 0 rfl) ?_
        refine lv_iload_n hx hb dX5_order_43 rfl (lv_at hl 1 rfl) ?_
        refine lv_iload_n hx hb dX5_order_44 rfl (lv_at hl 2 rfl) ?_
        obtain ⟨r7, h7, hf⟩ := z_bE hf
        refine z_cVi (As := [.int p1, .int p2]) (rest := []) (wf := (z_md c a)) (g := g5) (u0 := g5) ⟨hx, hb, hml, hown, hts⟩ (kX5_part l D c N a H.size g5 p1 p2 r7 h7) (cwV 2 hts gX5_order_X5_part rfl rfl rfl (by decide +kernel) ⟨Nat.le_of_ble_eq_true rfl, Nat.le_of_ble_eq_true rfl⟩) hP hK hD hS hA (ci := 5) (q0 := 0) rfl rfl rfl rfl hl.1 (Nat.le_of_ble_eq_true rfl) rfl dX5_order_45 ⟨Nat.zero_le _, Nat.zero_le _⟩ (fun H locs hP hD hS => ?_)
        exact z_ri (wf := (z_md c a)) hx hb hr hlocks hP hD hS hf dX5_order_48
      · have hf := z_ifF hf c6
        refine lv_iconst (v := (0 : Int32)) hx hb dX5_order_38 (by decide) ?_
        refine lv_goto (tgt := 48) hx hb dX5_order_39 (by decide) ?_
        exact z_ri (wf := (z_md c a)) hx hb hr hlocks hP hD hS hf dX5_order_48
    · have hf := z_ifF hf c4
      refine lv_iconst (v := (0 : Int32)) hx hb dX5_order_23 (by decide) ?_
      refine lv_goto (tgt := 28) hx hb dX5_order_24 (by decide) ?_
      refine va_put (D := D) (ci := 5) (v := .int (0 : Int32)) (ty := .int) (C := RX5) (T := TX5) (N := 13) hx hb hts iX5_order_X5 tyX5 tyX5_ok nmX5 hown hK.1 hP hD hS 0 rfl rfl 0 (by decide) (hts _ qX5_order_37) (fun _ h9 => h9) rfl (by decide +kernel) rfl rfl (Nat.le_of_ble_eq_true rfl) dX5_order_28 (fun H locs hP hD hS => ?_)
      obtain ⟨g8, e8, hf⟩ := z_ltE hf
      have hP : va_P D vwCl (z_md c a g8) H := by rw [e8]; exact hP
      have hD : va_D A (z_md c a g8) := by rw [e8]; exact hD
      clear e8
      refine lv_aload_n hx hb dX5_order_31 rfl (lv_at hl 0 rfl) ?_
      refine va_get (D := D) (ci := 5) (v := .int (g8 0 0)) (C := RX5) (T := TX5) (N := 13) hx hb hts iX5_order_X5 hown hK.1 hP 0 rfl rfl 0 (by decide) (hts _ qX5_order_37) (fun _ h9 => h9) rfl dX5_order_32 ?_
      refine lv_if_le (tgt := 42) hx hb dX5_order_35 (by decide) (fun c9 => ?_) (fun c9 => ?_)
      · have hf := z_ifT hf c9
        refine lv_aload_n hx hb dX5_order_42 rfl (lv_at hl 0 rfl) ?_
        refine lv_iload_n hx hb dX5_order_43 rfl (lv_at hl 1 rfl) ?_
        refine lv_iload_n hx hb dX5_order_44 rfl (lv_at hl 2 rfl) ?_
        obtain ⟨r10, h10, hf⟩ := z_bE hf
        refine z_cVi (As := [.int p1, .int p2]) (rest := []) (wf := (z_md c a)) (g := g8) (u0 := g8) ⟨hx, hb, hml, hown, hts⟩ (kX5_part l D c N a H.size g8 p1 p2 r10 h10) (cwV 2 hts gX5_order_X5_part rfl rfl rfl (by decide +kernel) ⟨Nat.le_of_ble_eq_true rfl, Nat.le_of_ble_eq_true rfl⟩) hP hK hD hS hA (ci := 5) (q0 := 0) rfl rfl rfl rfl hl.1 (Nat.le_of_ble_eq_true rfl) rfl dX5_order_45 ⟨Nat.zero_le _, Nat.zero_le _⟩ (fun H locs hP hD hS => ?_)
        exact z_ri (wf := (z_md c a)) hx hb hr hlocks hP hD hS hf dX5_order_48
      · have hf := z_ifF hf c9
        refine lv_iconst (v := (0 : Int32)) hx hb dX5_order_38 (by decide) ?_
        refine lv_goto (tgt := 48) hx hb dX5_order_39 (by decide) ?_
        exact z_ri (wf := (z_md c a)) hx hb hr hlocks hP hD hS hf dX5_order_48
  · have hf := z_ifT hf c2
    refine lv_iconst (v := (1 : Int32)) hx hb dX5_order_9 (by decide) ?_
    refine lv_goto (tgt := 28) hx hb dX5_order_10 (by decide) ?_
    refine va_put (D := D) (ci := 5) (v := .int (1 : Int32)) (ty := .int) (C := RX5) (T := TX5) (N := 13) hx hb hts iX5_order_X5 tyX5 tyX5_ok nmX5 hown hK.1 hP hD hS 0 rfl rfl 0 (by decide) (hts _ qX5_order_37) (fun _ h9 => h9) rfl (by decide +kernel) rfl rfl (Nat.le_of_ble_eq_true rfl) dX5_order_28 (fun H locs hP hD hS => ?_)
    obtain ⟨g11, e11, hf⟩ := z_ltE hf
    have hP : va_P D vwCl (z_md c a g11) H := by rw [e11]; exact hP
    have hD : va_D A (z_md c a g11) := by rw [e11]; exact hD
    clear e11
    refine lv_aload_n hx hb dX5_order_31 rfl (lv_at hl 0 rfl) ?_
    refine va_get (D := D) (ci := 5) (v := .int (g11 0 0)) (C := RX5) (T := TX5) (N := 13) hx hb hts iX5_order_X5 hown hK.1 hP 0 rfl rfl 0 (by decide) (hts _ qX5_order_37) (fun _ h9 => h9) rfl dX5_order_32 ?_
    refine lv_if_le (tgt := 42) hx hb dX5_order_35 (by decide) (fun c12 => ?_) (fun c12 => ?_)
    · have hf := z_ifT hf c12
      refine lv_aload_n hx hb dX5_order_42 rfl (lv_at hl 0 rfl) ?_
      refine lv_iload_n hx hb dX5_order_43 rfl (lv_at hl 1 rfl) ?_
      refine lv_iload_n hx hb dX5_order_44 rfl (lv_at hl 2 rfl) ?_
      obtain ⟨r13, h13, hf⟩ := z_bE hf
      refine z_cVi (As := [.int p1, .int p2]) (rest := []) (wf := (z_md c a)) (g := g11) (u0 := g11) ⟨hx, hb, hml, hown, hts⟩ (kX5_part l D c N a H.size g11 p1 p2 r13 h13) (cwV 2 hts gX5_order_X5_part rfl rfl rfl (by decide +kernel) ⟨Nat.le_of_ble_eq_true rfl, Nat.le_of_ble_eq_true rfl⟩) hP hK hD hS hA (ci := 5) (q0 := 0) rfl rfl rfl rfl hl.1 (Nat.le_of_ble_eq_true rfl) rfl dX5_order_45 ⟨Nat.zero_le _, Nat.zero_le _⟩ (fun H locs hP hD hS => ?_)
      exact z_ri (wf := (z_md c a)) hx hb hr hlocks hP hD hS hf dX5_order_48
    · have hf := z_ifF hf c12
      refine lv_iconst (v := (0 : Int32)) hx hb dX5_order_38 (by decide) ?_
      refine lv_goto (tgt := 48) hx hb dX5_order_39 (by decide) ?_
      exact z_ri (wf := (z_md c a)) hx hb hr hlocks hP hD hS hf dX5_order_48
abbrev rmX5_author : Room := { frames := 2, cells := 0, slots := 0, locals := 42 }
theorem qX5_author_37 : Cond.fieldLink RX5 37 "ProgramDrumModel" "thrown" "I" ∈ wsX5_author := by decide +kernel
theorem iX5_author_X5 : ∀ w ∈ wsX50, w ∈ wsX5_author := by decide +kernel
theorem qX5_author_7 : Cond.fieldLink RX5 7 "ProgramDrumModel" "state" "[I" ∈ wsX5_author := by decide +kernel
set_option maxRecDepth 100000 in
set_option maxHeartbeats 4000000 in
theorem kX5_author (l : Launch) (D : va_G) (c : Nat → ClassId) (N : Nat) (a : Nat → Nat) (sz : Nat) (g : z_R) (p1 : Int32) (p2 : Int32) (r0 : Int32) (g0 : z_R) (hf : fX5_author N p1 p2 g = some (r0, g0)) : Met l yX5_author wsX5_author rmX5_author (z_Pc D c sz (z_md c a g) [.ref (a 0), .int p1, .int p2]) (z_Qi D (z_md c a) r0 g0 (va_A (z_md c a g) sz)) 0 0 (va_A (z_md c a g) sz) := by
  refine z_ofM (cc := cX5_author) (maxL := 5) (ret := (some .int)) (Qf := fun A => z_Qi D (z_md c a) r0 g0 A) (plainFor_of_name (by decide)) rfl (Nat.le_of_ble_eq_true rfl) ?_
  intro p e s m args below meth co A ls hx hb hr hml hts hown hlocks hnm hA hP hK hD hl hsz
  have hl : lv_has ls 5 [(0, .ref (a 0)), (1, .int p1), (2, .int p2)] := hl
  have hown : s.vm.findClass RX5 = some m.cls := hown
  obtain ⟨H, hH⟩ : ∃ H, H = s.heap := ⟨_, rfl⟩
  have hS : va_S A s.heap H [] := by rw [hH]; exact va_S.rf
  rw [← hH] at hP ⊢
  clear hH
  have L43 : ∀ (x1 : Int32) (x2 : Int32) (g : z_R) (fu : Nat) (x3 : Int32) (x4 : Int32), lX5_author_43 N x1 x2 g fu x3 x4 = some (r0, g0) → ∀ (H : Heap) (locs : List Loc) (ls : Array Slot), va_P D vwCl (z_md c a g) H → va_D A (z_md c a g) → va_S A s.heap H locs → lv_has ls 5 [(0, .ref (a 0)), (1, .int x1), (2, .int x2), (3, .int x3), (4, .int x4)] → W p l e rmX5_author s m args below meth co H locs 0 0 (MQ below (z_Qi D (z_md c a) r0 g0 A) args s 0 0 A) (F0 m 43 ls []) := by
    intro x1 x2 g fu
    induction fu with
    | zero =>
      intro x3 x4 hf
      have hf : (none : Option (Int32 × z_R)) = some _ := hf
      cases hf
    | succ fu ih =>
      intro x3 x4 hf H locs ls hP hD hS hl
      rw [lX5_author_43.eq_2] at hf
      refine lv_iload hx hb dX5_author_43 (lv_at hl 4 rfl) ?_
      refine lv_aload_n hx hb dX5_author_45 rfl (lv_at hl 0 rfl) ?_
      refine va_get (D := D) (ci := 5) (v := .ref (a 1)) (C := RX5) (T := TX5) (N := 13) hx hb hts iX5_author_X5 hown hK.1 hP 0 rfl rfl 1 (by decide) (hts _ qX5_author_7) (fun _ h9 => h9) rfl dX5_author_46 ?_
      refine lv_iconst (v := (2 : Int32)) hx hb dX5_author_49 (by decide) ?_
      refine va_iald hx hb hK.1 hP 1 0 rfl rfl (z_inE (by decide)) dX5_author_50 ?_
      refine lv_icmp_ge (tgt := 79) hx hb dX5_author_51 (by decide) (fun c7 => ?_) (fun c7 => ?_)
      · have hf := z_ifT hf c7
        refine lv_iload_n hx hb dX5_author_79 rfl (lv_at hl 2 rfl) ?_
        refine lv_if_ne (tgt := 87) hx hb dX5_author_80 (by decide) (fun c8 => ?_) (fun c8 => ?_)
        · have hf := z_ifF hf c8
          refine lv_iload_n hx hb dX5_author_87 rfl (lv_at hl 2 rfl) ?_
          refine lv_iconst (v := (1 : Int32)) hx hb dX5_author_88 (by decide) ?_
          refine lv_icmp_ne (tgt := 103) hx hb dX5_author_89 (by decide) (fun c9 => ?_) (fun c9 => ?_)
          · have hf := z_ifF hf c9
            refine lv_aload_n hx hb dX5_author_103 rfl (lv_at hl 0 rfl) ?_
            refine va_get (D := D) (ci := 5) (v := .ref (a 1)) (C := RX5) (T := TX5) (N := 13) hx hb hts iX5_author_X5 hown hK.1 hP 0 rfl rfl 1 (by decide) (hts _ qX5_author_7) (fun _ h9 => h9) rfl dX5_author_104 ?_
            refine lv_bipush (v := (9 : Int32)) hx hb dX5_author_107 (by decide) ?_
            refine lv_iload_n hx hb dX5_author_109 rfl (lv_at hl 1 rfl) ?_
            refine lv_iadd hx hb dX5_author_110 ?_
            obtain ⟨b10, hf⟩ := z_ckE hf
            refine va_iald hx hb hK.1 hP 1 0 rfl rfl (z_inE b10) dX5_author_111 ?_
            exact z_ri (wf := (z_md c a)) hx hb hr hlocks hP hD hS hf dX5_author_112
          · have hf := z_ifT hf c9
            refine lv_aload_n hx hb dX5_author_92 rfl (lv_at hl 0 rfl) ?_
            refine va_get (D := D) (ci := 5) (v := .ref (a 1)) (C := RX5) (T := TX5) (N := 13) hx hb hts iX5_author_X5 hown hK.1 hP 0 rfl rfl 1 (by decide) (hts _ qX5_author_7) (fun _ h9 => h9) rfl dX5_author_93 ?_
            refine lv_iconst (v := (5 : Int32)) hx hb dX5_author_96 (by decide) ?_
            refine lv_iload_n hx hb dX5_author_97 rfl (lv_at hl 1 rfl) ?_
            refine lv_iadd hx hb dX5_author_98 ?_
            obtain ⟨b11, hf⟩ := z_ckE hf
            refine va_iald hx hb hK.1 hP 1 0 rfl rfl (z_inE b11) dX5_author_99 ?_
            refine lv_goto (tgt := 112) hx hb dX5_author_100 (by decide) ?_
            exact z_ri (wf := (z_md c a)) hx hb hr hlocks hP hD hS hf dX5_author_112
        · have hf := z_ifT hf c8
          refine lv_iload_n hx hb dX5_author_83 rfl (lv_at hl 3 rfl) ?_
          refine lv_goto (tgt := 112) hx hb dX5_author_84 (by decide) ?_
          exact z_ri (wf := (z_md c a)) hx hb hr hlocks hP hD hS hf dX5_author_112
      · have hf := z_ifF hf c7
        refine lv_iload_n hx hb dX5_author_54 rfl (lv_at hl 3 rfl) ?_
        refine lv_aload_n hx hb dX5_author_55 rfl (lv_at hl 0 rfl) ?_
        refine lv_iload hx hb dX5_author_56 (lv_at hl 4 rfl) ?_
        refine lv_iconst (v := (0 : Int32)) hx hb dX5_author_58 (by decide) ?_
        obtain ⟨r12, h12, hf⟩ := z_bE hf
        refine z_cVi (As := [.int x4, .int (0 : Int32)]) (rest := [.int x3]) (wf := (z_md c a)) (g := g) (u0 := g) ⟨hx, hb, hml, hown, hts⟩ (kX5_part l D c N a H.size g x4 (0 : Int32) r12 h12) (cwV 2 hts gX5_author_X5_part rfl rfl rfl (by decide +kernel) ⟨Nat.le_of_ble_eq_true rfl, Nat.le_of_ble_eq_true rfl⟩) hP hK hD hS hA (ci := 5) (q0 := 0) rfl rfl rfl rfl hl.1 (Nat.le_of_ble_eq_true rfl) rfl dX5_author_59 ⟨Nat.zero_le _, Nat.zero_le _⟩ (fun H locs hP hD hS => ?_)
        refine lv_iload_n hx hb dX5_author_62 rfl (lv_at hl 1 rfl) ?_
        refine lv_icmp_ne (tgt := 70) hx hb dX5_author_63 (by decide) (fun c13 => ?_) (fun c13 => ?_)
        · have hf := z_ifF hf c13
          refine lv_iconst (v := (0 : Int32)) hx hb dX5_author_70 (by decide) ?_
          refine lv_iadd hx hb dX5_author_71 ?_
          refine lv_istore_n (lv' := [(3, .int (x3 + (0 : Int32))), (0, .ref (a 0)), (1, .int x1), (2, .int x2), (4, .int x4)]) hx hb dX5_author_72 rfl hl (by decide) rfl (fun ls hl => ?_)
          refine lv_iinc (v := (x4 + (1 : Int32))) (lv' := [(4, .int (x4 + (1 : Int32))), (3, .int (x3 + (0 : Int32))), (0, .ref (a 0)), (1, .int x1), (2, .int x2)]) hx hb dX5_author_73 hl (k := 4) rfl rfl (by decide) rfl (fun ls hl => ?_)
          refine lv_goto (tgt := 43) hx hb dX5_author_76 (by decide) ?_
          exact ih _ _ hf H locs ls hP hD hS (lv_sub hl [2, 3, 4, 1, 0] rfl)
        · have hf := z_ifT hf c13
          refine lv_iconst (v := (1 : Int32)) hx hb dX5_author_66 (by decide) ?_
          refine lv_goto (tgt := 71) hx hb dX5_author_67 (by decide) ?_
          refine lv_iadd hx hb dX5_author_71 ?_
          refine lv_istore_n (lv' := [(3, .int (x3 + (1 : Int32))), (0, .ref (a 0)), (1, .int x1), (2, .int x2), (4, .int x4)]) hx hb dX5_author_72 rfl hl (by decide) rfl (fun ls hl => ?_)
          refine lv_iinc (v := (x4 + (1 : Int32))) (lv' := [(4, .int (x4 + (1 : Int32))), (3, .int (x3 + (1 : Int32))), (0, .ref (a 0)), (1, .int x1), (2, .int x2)]) hx hb dX5_author_73 hl (k := 4) rfl rfl (by decide) rfl (fun ls hl => ?_)
          refine lv_goto (tgt := 43) hx hb dX5_author_76 (by decide) ?_
          exact ih _ _ hf H locs ls hP hD hS (lv_sub hl [2, 3, 4, 1, 0] rfl)
  unfold fX5_author at hf
  generalize ([] : List Loc) = locs at hS ⊢
  refine lv_aload_n hx hb dX5_author_0 rfl (lv_at hl 0 rfl) ?_
  refine lv_iload_n hx hb dX5_author_1 rfl (lv_at hl 1 rfl) ?_
  obtain ⟨r1, h1, hf⟩ := z_bE hf
  refine z_cSi (As := [.int p1]) (rest := [.ref (a 0)]) ⟨hx, hb, hml, hown, hts⟩ (kX5_isAuthor l D c N H.size p1 r1 h1) (va_cwS 1 hts gX5_author_X5_isAuthor rfl rfl rfl (by decide +kernel) ⟨Nat.le_of_ble_eq_true rfl, Nat.le_of_ble_eq_true rfl⟩) hP hK hS hA rfl hl.1 (Nat.le_of_ble_eq_true rfl) rfl dX5_author_2 ⟨Nat.zero_le _, Nat.zero_le _⟩ (fun H locs hP hS => ?_)
  refine lv_if_ne (tgt := 12) hx hb dX5_author_5 (by decide) (fun c2 => ?_) (fun c2 => ?_)
  · have hf := z_ifF hf c2
    refine lv_iload_n hx hb dX5_author_12 rfl (lv_at hl 2 rfl) ?_
    refine lv_iconst (v := (0 : Int32)) hx hb dX5_author_13 (by decide) ?_
    refine lv_iconst (v := (2 : Int32)) hx hb dX5_author_14 (by decide) ?_
    obtain ⟨r3, h3, hf⟩ := z_bE hf
    refine z_cSi (As := [.int p2, .int (0 : Int32), .int (2 : Int32)]) (rest := [.ref (a 0)]) ⟨hx, hb, hml, hown, hts⟩ (kX5_within l D c N H.size p2 (0 : Int32) (2 : Int32) r3 h3) (va_cwS 3 hts gX5_author_X5_within rfl rfl rfl (by decide +kernel) ⟨Nat.le_of_ble_eq_true rfl, Nat.le_of_ble_eq_true rfl⟩) hP hK hS hA rfl hl.1 (Nat.le_of_ble_eq_true rfl) rfl dX5_author_15 ⟨Nat.zero_le _, Nat.zero_le _⟩ (fun H locs hP hS => ?_)
    refine lv_if_eq (tgt := 25) hx hb dX5_author_18 (by decide) (fun c4 => ?_) (fun c4 => ?_)
    · have hf := z_ifT hf c4
      refine lv_iconst (v := (2 : Int32)) hx hb dX5_author_25 (by decide) ?_
      refine va_put (D := D) (ci := 5) (v := .int (2 : Int32)) (ty := .int) (C := RX5) (T := TX5) (N := 13) hx hb hts iX5_author_X5 tyX5 tyX5_ok nmX5 hown hK.1 hP hD hS 0 rfl rfl 0 (by decide) (hts _ qX5_author_37) (fun _ h9 => h9) rfl (by decide +kernel) rfl rfl (Nat.le_of_ble_eq_true rfl) dX5_author_26 (fun H locs hP hD hS => ?_)
      obtain ⟨g5, e5, hf⟩ := z_ltE hf
      have hP : va_P D vwCl (z_md c a g5) H := by rw [e5]; exact hP
      have hD : va_D A (z_md c a g5) := by rw [e5]; exact hD
      clear e5
      refine lv_aload_n hx hb dX5_author_29 rfl (lv_at hl 0 rfl) ?_
      refine va_get (D := D) (ci := 5) (v := .int (g5 0 0)) (C := RX5) (T := TX5) (N := 13) hx hb hts iX5_author_X5 hown hK.1 hP 0 rfl rfl 0 (by decide) (hts _ qX5_author_37) (fun _ h9 => h9) rfl dX5_author_30 ?_
      refine lv_if_le (tgt := 38) hx hb dX5_author_33 (by decide) (fun c6 => ?_) (fun c6 => ?_)
      · have hf := z_ifT hf c6
        refine lv_iconst (v := (0 : Int32)) hx hb dX5_author_38 (by decide) ?_
        refine lv_istore_n (lv' := [(3, .int (0 : Int32)), (0, .ref (a 0)), (1, .int p1), (2, .int p2)]) hx hb dX5_author_39 rfl hl (by decide) rfl (fun ls hl => ?_)
        refine lv_iconst (v := (0 : Int32)) hx hb dX5_author_40 (by decide) ?_
        refine lv_istore (lv' := [(4, .int (0 : Int32)), (3, .int (0 : Int32)), (0, .ref (a 0)), (1, .int p1), (2, .int p2)]) hx hb dX5_author_41 hl (by decide) rfl (fun ls hl => ?_)
        exact L43 _ _ _ N _ _ hf H locs ls hP hD hS (lv_sub hl [2, 3, 4, 1, 0] rfl)
      · have hf := z_ifF hf c6
        refine lv_iconst (v := (0 : Int32)) hx hb dX5_author_36 (by decide) ?_
        exact z_ri (wf := (z_md c a)) hx hb hr hlocks hP hD hS hf dX5_author_37
    · have hf := z_ifF hf c4
      refine lv_iconst (v := (0 : Int32)) hx hb dX5_author_21 (by decide) ?_
      refine lv_goto (tgt := 26) hx hb dX5_author_22 (by decide) ?_
      refine va_put (D := D) (ci := 5) (v := .int (0 : Int32)) (ty := .int) (C := RX5) (T := TX5) (N := 13) hx hb hts iX5_author_X5 tyX5 tyX5_ok nmX5 hown hK.1 hP hD hS 0 rfl rfl 0 (by decide) (hts _ qX5_author_37) (fun _ h9 => h9) rfl (by decide +kernel) rfl rfl (Nat.le_of_ble_eq_true rfl) dX5_author_26 (fun H locs hP hD hS => ?_)
      obtain ⟨g14, e14, hf⟩ := z_ltE hf
      have hP : va_P D vwCl (z_md c a g14) H := by rw [e14]; exact hP
      have hD : va_D A (z_md c a g14) := by rw [e14]; exact hD
      clear e14
      refine lv_aload_n hx hb dX5_author_29 rfl (lv_at hl 0 rfl) ?_
      refine va_get (D := D) (ci := 5) (v := .int (g14 0 0)) (C := RX5) (T := TX5) (N := 13) hx hb hts iX5_author_X5 hown hK.1 hP 0 rfl rfl 0 (by decide) (hts _ qX5_author_37) (fun _ h9 => h9) rfl dX5_author_30 ?_
      refine lv_if_le (tgt := 38) hx hb dX5_author_33 (by decide) (fun c15 => ?_) (fun c15 => ?_)
      · have hf := z_ifT hf c15
        refine lv_iconst (v := (0 : Int32)) hx hb dX5_author_38 (by decide) ?_
        refine lv_istore_n (lv' := [(3, .int (0 : Int32)), (0, .ref (a 0)), (1, .int p1), (2, .int p2)]) hx hb dX5_author_39 rfl hl (by decide) rfl (fun ls hl => ?_)
        refine lv_iconst (v := (0 : Int32)) hx hb dX5_author_40 (by decide) ?_
        refine lv_istore (lv' := [(4, .int (0 : Int32)), (3, .int (0 : Int32)), (0, .ref (a 0)), (1, .int p1), (2, .int p2)]) hx hb dX5_author_41 hl (by decide) rfl (fun ls hl => ?_)
        exact L43 _ _ _ N _ _ hf H locs ls hP hD hS (lv_sub hl [2, 3, 4, 1, 0] rfl)
      · have hf := z_ifF hf c15
        refine lv_iconst (v := (0 : Int32)) hx hb dX5_author_36 (by decide) ?_
        exact z_ri (wf := (z_md c a)) hx hb hr hlocks hP hD hS hf dX5_author_37
  · have hf := z_ifT hf c2
    refine lv_iconst (v := (1 : Int32)) hx hb dX5_author_8 (by decide) ?_
    refine lv_goto (tgt := 26) hx hb dX5_author_9 (by decide) ?_
    refine va_put (D := D) (ci := 5) (v := .int (1 : Int32)) (ty := .int) (C := RX5) (T := TX5) (N := 13) hx hb hts iX5_author_X5 tyX5 tyX5_ok nmX5 hown hK.1 hP hD hS 0 rfl rfl 0 (by decide) (hts _ qX5_author_37) (fun _ h9 => h9) rfl (by decide +kernel) rfl rfl (Nat.le_of_ble_eq_true rfl) dX5_author_26 (fun H locs hP hD hS => ?_)
    obtain ⟨g16, e16, hf⟩ := z_ltE hf
    have hP : va_P D vwCl (z_md c a g16) H := by rw [e16]; exact hP
    have hD : va_D A (z_md c a g16) := by rw [e16]; exact hD
    clear e16
    refine lv_aload_n hx hb dX5_author_29 rfl (lv_at hl 0 rfl) ?_
    refine va_get (D := D) (ci := 5) (v := .int (g16 0 0)) (C := RX5) (T := TX5) (N := 13) hx hb hts iX5_author_X5 hown hK.1 hP 0 rfl rfl 0 (by decide) (hts _ qX5_author_37) (fun _ h9 => h9) rfl dX5_author_30 ?_
    refine lv_if_le (tgt := 38) hx hb dX5_author_33 (by decide) (fun c17 => ?_) (fun c17 => ?_)
    · have hf := z_ifT hf c17
      refine lv_iconst (v := (0 : Int32)) hx hb dX5_author_38 (by decide) ?_
      refine lv_istore_n (lv' := [(3, .int (0 : Int32)), (0, .ref (a 0)), (1, .int p1), (2, .int p2)]) hx hb dX5_author_39 rfl hl (by decide) rfl (fun ls hl => ?_)
      refine lv_iconst (v := (0 : Int32)) hx hb dX5_author_40 (by decide) ?_
      refine lv_istore (lv' := [(4, .int (0 : Int32)), (3, .int (0 : Int32)), (0, .ref (a 0)), (1, .int p1), (2, .int p2)]) hx hb dX5_author_41 hl (by decide) rfl (fun ls hl => ?_)
      exact L43 _ _ _ N _ _ hf H locs ls hP hD hS (lv_sub hl [2, 3, 4, 1, 0] rfl)
    · have hf := z_ifF hf c17
      refine lv_iconst (v := (0 : Int32)) hx hb dX5_author_36 (by decide) ?_
      exact z_ri (wf := (z_md c a)) hx hb hr hlocks hP hD hS hf dX5_author_37
abbrev rmX5_at : Room := { frames := 2, cells := 0, slots := 0, locals := 45 }
theorem qX5_at_37 : Cond.fieldLink RX5 37 "ProgramDrumModel" "thrown" "I" ∈ wsX5_at := by decide +kernel
theorem iX5_at_X5 : ∀ w ∈ wsX50, w ∈ wsX5_at := by decide +kernel
set_option maxRecDepth 100000 in
set_option maxHeartbeats 4000000 in
theorem kX5_at (l : Launch) (D : va_G) (c : Nat → ClassId) (N : Nat) (a : Nat → Nat) (sz : Nat) (g : z_R) (p1 : Int32) (r0 : Int32) (g0 : z_R) (hf : fX5_at N p1 g = some (r0, g0)) : Met l yX5_at wsX5_at rmX5_at (z_Pc D c sz (z_md c a g) [.ref (a 0), .int p1]) (z_Qi D (z_md c a) r0 g0 (va_A (z_md c a g) sz)) 0 0 (va_A (z_md c a g) sz) := by
  refine z_ofM (cc := cX5_at) (maxL := 2) (ret := (some .int)) (Qf := fun A => z_Qi D (z_md c a) r0 g0 A) (plainFor_of_name (by decide)) rfl (Nat.le_of_ble_eq_true rfl) ?_
  intro p e s m args below meth co A ls hx hb hr hml hts hown hlocks hnm hA hP hK hD hl hsz
  have hl : lv_has ls 2 [(0, .ref (a 0)), (1, .int p1)] := hl
  have hown : s.vm.findClass RX5 = some m.cls := hown
  obtain ⟨H, hH⟩ : ∃ H, H = s.heap := ⟨_, rfl⟩
  have hS : va_S A s.heap H [] := by rw [hH]; exact va_S.rf
  rw [← hH] at hP ⊢
  clear hH
  unfold fX5_at at hf
  generalize ([] : List Loc) = locs at hS ⊢
  refine lv_aload_n hx hb dX5_at_0 rfl (lv_at hl 0 rfl) ?_
  refine lv_aload_n hx hb dX5_at_1 rfl (lv_at hl 0 rfl) ?_
  refine lv_iload_n hx hb dX5_at_2 rfl (lv_at hl 1 rfl) ?_
  obtain ⟨r1, h1, hf⟩ := z_bE hf
  refine z_cVi (As := [.int p1]) (rest := [.ref (a 0)]) (wf := (z_md c a)) (g := g) (u0 := g) ⟨hx, hb, hml, hown, hts⟩ (kX5_isPlace l D c N a H.size g p1 r1 h1) (cwV 1 hts gX5_at_X5_isPlace rfl rfl rfl (by decide +kernel) ⟨Nat.le_of_ble_eq_true rfl, Nat.le_of_ble_eq_true rfl⟩) hP hK hD hS hA (ci := 5) (q0 := 0) rfl rfl rfl rfl hl.1 (Nat.le_of_ble_eq_true rfl) rfl dX5_at_3 ⟨Nat.zero_le _, Nat.zero_le _⟩ (fun H locs hP hD hS => ?_)
  refine lv_if_eq (tgt := 13) hx hb dX5_at_6 (by decide) (fun c2 => ?_) (fun c2 => ?_)
  · have hf := z_ifT hf c2
    refine lv_iconst (v := (1 : Int32)) hx hb dX5_at_13 (by decide) ?_
    refine va_put (D := D) (ci := 5) (v := .int (1 : Int32)) (ty := .int) (C := RX5) (T := TX5) (N := 13) hx hb hts iX5_at_X5 tyX5 tyX5_ok nmX5 hown hK.1 hP hD hS 0 rfl rfl 0 (by decide) (hts _ qX5_at_37) (fun _ h9 => h9) rfl (by decide +kernel) rfl rfl (Nat.le_of_ble_eq_true rfl) dX5_at_14 (fun H locs hP hD hS => ?_)
    obtain ⟨g3, e3, hf⟩ := z_ltE hf
    have hP : va_P D vwCl (z_md c a g3) H := by rw [e3]; exact hP
    have hD : va_D A (z_md c a g3) := by rw [e3]; exact hD
    clear e3
    refine lv_aload_n hx hb dX5_at_17 rfl (lv_at hl 0 rfl) ?_
    refine va_get (D := D) (ci := 5) (v := .int (g3 0 0)) (C := RX5) (T := TX5) (N := 13) hx hb hts iX5_at_X5 hown hK.1 hP 0 rfl rfl 0 (by decide) (hts _ qX5_at_37) (fun _ h9 => h9) rfl dX5_at_18 ?_
    refine lv_if_le (tgt := 28) hx hb dX5_at_21 (by decide) (fun c4 => ?_) (fun c4 => ?_)
    · have hf := z_ifT hf c4
      refine lv_aload_n hx hb dX5_at_28 rfl (lv_at hl 0 rfl) ?_
      refine lv_iload_n hx hb dX5_at_29 rfl (lv_at hl 1 rfl) ?_
      obtain ⟨r5, h5, hf⟩ := z_bE hf
      refine z_cVi (As := [.int p1]) (rest := []) (wf := (z_md c a)) (g := g3) (u0 := g3) ⟨hx, hb, hml, hown, hts⟩ (kX5_standing l D c N a H.size g3 p1 r5 h5) (cwV 1 hts gX5_at_X5_standing rfl rfl rfl (by decide +kernel) ⟨Nat.le_of_ble_eq_true rfl, Nat.le_of_ble_eq_true rfl⟩) hP hK hD hS hA (ci := 5) (q0 := 0) rfl rfl rfl rfl hl.1 (Nat.le_of_ble_eq_true rfl) rfl dX5_at_30 ⟨Nat.zero_le _, Nat.zero_le _⟩ (fun H locs hP hD hS => ?_)
      exact z_ri (wf := (z_md c a)) hx hb hr hlocks hP hD hS hf dX5_at_33
    · have hf := z_ifF hf c4
      refine lv_iconst (v := (0 : Int32)) hx hb dX5_at_24 (by decide) ?_
      refine lv_goto (tgt := 33) hx hb dX5_at_25 (by decide) ?_
      exact z_ri (wf := (z_md c a)) hx hb hr hlocks hP hD hS hf dX5_at_33
  · have hf := z_ifF hf c2
    refine lv_iconst (v := (0 : Int32)) hx hb dX5_at_9 (by decide) ?_
    refine lv_goto (tgt := 14) hx hb dX5_at_10 (by decide) ?_
    refine va_put (D := D) (ci := 5) (v := .int (0 : Int32)) (ty := .int) (C := RX5) (T := TX5) (N := 13) hx hb hts iX5_at_X5 tyX5 tyX5_ok nmX5 hown hK.1 hP hD hS 0 rfl rfl 0 (by decide) (hts _ qX5_at_37) (fun _ h9 => h9) rfl (by decide +kernel) rfl rfl (Nat.le_of_ble_eq_true rfl) dX5_at_14 (fun H locs hP hD hS => ?_)
    obtain ⟨g6, e6, hf⟩ := z_ltE hf
    have hP : va_P D vwCl (z_md c a g6) H := by rw [e6]; exact hP
    have hD : va_D A (z_md c a g6) := by rw [e6]; exact hD
    clear e6
    refine lv_aload_n hx hb dX5_at_17 rfl (lv_at hl 0 rfl) ?_
    refine va_get (D := D) (ci := 5) (v := .int (g6 0 0)) (C := RX5) (T := TX5) (N := 13) hx hb hts iX5_at_X5 hown hK.1 hP 0 rfl rfl 0 (by decide) (hts _ qX5_at_37) (fun _ h9 => h9) rfl dX5_at_18 ?_
    refine lv_if_le (tgt := 28) hx hb dX5_at_21 (by decide) (fun c7 => ?_) (fun c7 => ?_)
    · have hf := z_ifT hf c7
      refine lv_aload_n hx hb dX5_at_28 rfl (lv_at hl 0 rfl) ?_
      refine lv_iload_n hx hb dX5_at_29 rfl (lv_at hl 1 rfl) ?_
      obtain ⟨r8, h8, hf⟩ := z_bE hf
      refine z_cVi (As := [.int p1]) (rest := []) (wf := (z_md c a)) (g := g6) (u0 := g6) ⟨hx, hb, hml, hown, hts⟩ (kX5_standing l D c N a H.size g6 p1 r8 h8) (cwV 1 hts gX5_at_X5_standing rfl rfl rfl (by decide +kernel) ⟨Nat.le_of_ble_eq_true rfl, Nat.le_of_ble_eq_true rfl⟩) hP hK hD hS hA (ci := 5) (q0 := 0) rfl rfl rfl rfl hl.1 (Nat.le_of_ble_eq_true rfl) rfl dX5_at_30 ⟨Nat.zero_le _, Nat.zero_le _⟩ (fun H locs hP hD hS => ?_)
      exact z_ri (wf := (z_md c a)) hx hb hr hlocks hP hD hS hf dX5_at_33
    · have hf := z_ifF hf c7
      refine lv_iconst (v := (0 : Int32)) hx hb dX5_at_24 (by decide) ?_
      refine lv_goto (tgt := 33) hx hb dX5_at_25 (by decide) ?_
      exact z_ri (wf := (z_md c a)) hx hb hr hlocks hP hD hS hf dX5_at_33
abbrev rmX5_jump : Room := { frames := 1, cells := 0, slots := 0, locals := 22 }
theorem qX5_jump_37 : Cond.fieldLink RX5 37 "ProgramDrumModel" "thrown" "I" ∈ wsX5_jump := by decide +kernel
theorem iX5_jump_X5 : ∀ w ∈ wsX50, w ∈ wsX5_jump := by decide +kernel
theorem qX5_jump_7 : Cond.fieldLink RX5 7 "ProgramDrumModel" "state" "[I" ∈ wsX5_jump := by decide +kernel
set_option maxRecDepth 100000 in
set_option maxHeartbeats 4000000 in
theorem kX5_jump (l : Launch) (D : va_G) (c : Nat → ClassId) (N : Nat) (a : Nat → Nat) (sz : Nat) (g : z_R) (p1 : Int32) (p2 : Int32) (r0 : Int32) (g0 : z_R) (hf : fX5_jump N p1 p2 g = some (r0, g0)) : Met l yX5_jump wsX5_jump rmX5_jump (z_Pc D c sz (z_md c a g) [.ref (a 0), .int p1, .int p2]) (z_Qi D (z_md c a) r0 g0 (va_A (z_md c a g) sz)) 0 0 (va_A (z_md c a g) sz) := by
  refine z_ofM (cc := cX5_jump) (maxL := 3) (ret := (some .int)) (Qf := fun A => z_Qi D (z_md c a) r0 g0 A) (plainFor_of_name (by decide)) rfl (Nat.le_of_ble_eq_true rfl) ?_
  intro p e s m args below meth co A ls hx hb hr hml hts hown hlocks hnm hA hP hK hD hl hsz
  have hl : lv_has ls 3 [(0, .ref (a 0)), (1, .int p1), (2, .int p2)] := hl
  have hown : s.vm.findClass RX5 = some m.cls := hown
  obtain ⟨H, hH⟩ : ∃ H, H = s.heap := ⟨_, rfl⟩
  have hS : va_S A s.heap H [] := by rw [hH]; exact va_S.rf
  rw [← hH] at hP ⊢
  clear hH
  unfold fX5_jump at hf
  generalize ([] : List Loc) = locs at hS ⊢
  refine lv_aload_n hx hb dX5_jump_0 rfl (lv_at hl 0 rfl) ?_
  refine lv_iload_n hx hb dX5_jump_1 rfl (lv_at hl 1 rfl) ?_
  refine lv_if_lt (tgt := 14) hx hb dX5_jump_2 (by decide) (fun c1 => ?_) (fun c1 => ?_)
  · have hf := z_ifT hf c1
    refine lv_iconst (v := (1 : Int32)) hx hb dX5_jump_14 (by decide) ?_
    refine lv_goto (tgt := 19) hx hb dX5_jump_15 (by decide) ?_
    refine va_put (D := D) (ci := 5) (v := .int (1 : Int32)) (ty := .int) (C := RX5) (T := TX5) (N := 13) hx hb hts iX5_jump_X5 tyX5 tyX5_ok nmX5 hown hK.1 hP hD hS 0 rfl rfl 0 (by decide) (hts _ qX5_jump_37) (fun _ h9 => h9) rfl (by decide +kernel) rfl rfl (Nat.le_of_ble_eq_true rfl) dX5_jump_19 (fun H locs hP hD hS => ?_)
    obtain ⟨g2, e2, hf⟩ := z_ltE hf
    have hP : va_P D vwCl (z_md c a g2) H := by rw [e2]; exact hP
    have hD : va_D A (z_md c a g2) := by rw [e2]; exact hD
    clear e2
    refine lv_aload_n hx hb dX5_jump_22 rfl (lv_at hl 0 rfl) ?_
    refine va_get (D := D) (ci := 5) (v := .int (g2 0 0)) (C := RX5) (T := TX5) (N := 13) hx hb hts iX5_jump_X5 hown hK.1 hP 0 rfl rfl 0 (by decide) (hts _ qX5_jump_37) (fun _ h9 => h9) rfl dX5_jump_23 ?_
    refine lv_if_le (tgt := 31) hx hb dX5_jump_26 (by decide) (fun c3 => ?_) (fun c3 => ?_)
    · have hf := z_ifT hf c3
      refine lv_iload_n hx hb dX5_jump_31 rfl (lv_at hl 1 rfl) ?_
      refine lv_aload_n hx hb dX5_jump_32 rfl (lv_at hl 0 rfl) ?_
      refine va_get (D := D) (ci := 5) (v := .ref (a 1)) (C := RX5) (T := TX5) (N := 13) hx hb hts iX5_jump_X5 hown hK.1 hP 0 rfl rfl 1 (by decide) (hts _ qX5_jump_7) (fun _ h9 => h9) rfl dX5_jump_33 ?_
      refine lv_iconst (v := (3 : Int32)) hx hb dX5_jump_36 (by decide) ?_
      refine va_iald hx hb hK.1 hP 1 0 rfl rfl (z_inE (by decide)) dX5_jump_37 ?_
      refine lv_icmp_ge (tgt := 58) hx hb dX5_jump_38 (by decide) (fun c4 => ?_) (fun c4 => ?_)
      · have hf := z_ifT hf c4
        refine lv_iconst (v := (-1 : Int32)) hx hb dX5_jump_58 (by decide) ?_
        exact z_ri (wf := (z_md c a)) hx hb hr hlocks hP hD hS hf dX5_jump_59
      · have hf := z_ifF hf c4
        refine lv_aload_n hx hb dX5_jump_41 rfl (lv_at hl 0 rfl) ?_
        refine va_get (D := D) (ci := 5) (v := .ref (a 1)) (C := RX5) (T := TX5) (N := 13) hx hb hts iX5_jump_X5 hown hK.1 hP 0 rfl rfl 1 (by decide) (hts _ qX5_jump_7) (fun _ h9 => h9) rfl dX5_jump_42 ?_
        refine lv_sipush (v := (157 : Int32)) hx hb dX5_jump_45 (by decide) ?_
        refine lv_iconst (v := (3 : Int32)) hx hb dX5_jump_48 (by decide) ?_
        refine lv_iload_n hx hb dX5_jump_49 rfl (lv_at hl 1 rfl) ?_
        refine lv_imul hx hb dX5_jump_50 ?_
        refine lv_iadd hx hb dX5_jump_51 ?_
        refine lv_iload_n hx hb dX5_jump_52 rfl (lv_at hl 2 rfl) ?_
        refine lv_iadd hx hb dX5_jump_53 ?_
        obtain ⟨b5, hf⟩ := z_ckE hf
        refine va_iald hx hb hK.1 hP 1 0 rfl rfl (z_inE b5) dX5_jump_54 ?_
        refine lv_goto (tgt := 59) hx hb dX5_jump_55 (by decide) ?_
        exact z_ri (wf := (z_md c a)) hx hb hr hlocks hP hD hS hf dX5_jump_59
    · have hf := z_ifF hf c3
      refine lv_iconst (v := (0 : Int32)) hx hb dX5_jump_29 (by decide) ?_
      exact z_ri (wf := (z_md c a)) hx hb hr hlocks hP hD hS hf dX5_jump_30
  · have hf := z_ifF hf c1
    refine lv_iload_n hx hb dX5_jump_5 rfl (lv_at hl 2 rfl) ?_
    refine lv_iconst (v := (0 : Int32)) hx hb dX5_jump_6 (by decide) ?_
    refine lv_iconst (v := (2 : Int32)) hx hb dX5_jump_7 (by decide) ?_
    obtain ⟨r6, h6, hf⟩ := z_bE hf
    refine z_cSi (As := [.int p2, .int (0 : Int32), .int (2 : Int32)]) (rest := [.ref (a 0)]) ⟨hx, hb, hml, hown, hts⟩ (kX5_within l D c N H.size p2 (0 : Int32) (2 : Int32) r6 h6) (va_cwS 3 hts gX5_jump_X5_within rfl rfl rfl (by decide +kernel) ⟨Nat.le_of_ble_eq_true rfl, Nat.le_of_ble_eq_true rfl⟩) hP hK hS hA rfl hl.1 (Nat.le_of_ble_eq_true rfl) rfl dX5_jump_8 ⟨Nat.zero_le _, Nat.zero_le _⟩ (fun H locs hP hS => ?_)
    refine lv_if_ne (tgt := 18) hx hb dX5_jump_11 (by decide) (fun c7 => ?_) (fun c7 => ?_)
    · have hf := z_ifF hf c7
      refine lv_iconst (v := (0 : Int32)) hx hb dX5_jump_18 (by decide) ?_
      refine va_put (D := D) (ci := 5) (v := .int (0 : Int32)) (ty := .int) (C := RX5) (T := TX5) (N := 13) hx hb hts iX5_jump_X5 tyX5 tyX5_ok nmX5 hown hK.1 hP hD hS 0 rfl rfl 0 (by decide) (hts _ qX5_jump_37) (fun _ h9 => h9) rfl (by decide +kernel) rfl rfl (Nat.le_of_ble_eq_true rfl) dX5_jump_19 (fun H locs hP hD hS => ?_)
      obtain ⟨g8, e8, hf⟩ := z_ltE hf
      have hP : va_P D vwCl (z_md c a g8) H := by rw [e8]; exact hP
      have hD : va_D A (z_md c a g8) := by rw [e8]; exact hD
      clear e8
      refine lv_aload_n hx hb dX5_jump_22 rfl (lv_at hl 0 rfl) ?_
      refine va_get (D := D) (ci := 5) (v := .int (g8 0 0)) (C := RX5) (T := TX5) (N := 13) hx hb hts iX5_jump_X5 hown hK.1 hP 0 rfl rfl 0 (by decide) (hts _ qX5_jump_37) (fun _ h9 => h9) rfl dX5_jump_23 ?_
      refine lv_if_le (tgt := 31) hx hb dX5_jump_26 (by decide) (fun c9 => ?_) (fun c9 => ?_)
      · have hf := z_ifT hf c9
        refine lv_iload_n hx hb dX5_jump_31 rfl (lv_at hl 1 rfl) ?_
        refine lv_aload_n hx hb dX5_jump_32 rfl (lv_at hl 0 rfl) ?_
        refine va_get (D := D) (ci := 5) (v := .ref (a 1)) (C := RX5) (T := TX5) (N := 13) hx hb hts iX5_jump_X5 hown hK.1 hP 0 rfl rfl 1 (by decide) (hts _ qX5_jump_7) (fun _ h9 => h9) rfl dX5_jump_33 ?_
        refine lv_iconst (v := (3 : Int32)) hx hb dX5_jump_36 (by decide) ?_
        refine va_iald hx hb hK.1 hP 1 0 rfl rfl (z_inE (by decide)) dX5_jump_37 ?_
        refine lv_icmp_ge (tgt := 58) hx hb dX5_jump_38 (by decide) (fun c10 => ?_) (fun c10 => ?_)
        · have hf := z_ifT hf c10
          refine lv_iconst (v := (-1 : Int32)) hx hb dX5_jump_58 (by decide) ?_
          exact z_ri (wf := (z_md c a)) hx hb hr hlocks hP hD hS hf dX5_jump_59
        · have hf := z_ifF hf c10
          refine lv_aload_n hx hb dX5_jump_41 rfl (lv_at hl 0 rfl) ?_
          refine va_get (D := D) (ci := 5) (v := .ref (a 1)) (C := RX5) (T := TX5) (N := 13) hx hb hts iX5_jump_X5 hown hK.1 hP 0 rfl rfl 1 (by decide) (hts _ qX5_jump_7) (fun _ h9 => h9) rfl dX5_jump_42 ?_
          refine lv_sipush (v := (157 : Int32)) hx hb dX5_jump_45 (by decide) ?_
          refine lv_iconst (v := (3 : Int32)) hx hb dX5_jump_48 (by decide) ?_
          refine lv_iload_n hx hb dX5_jump_49 rfl (lv_at hl 1 rfl) ?_
          refine lv_imul hx hb dX5_jump_50 ?_
          refine lv_iadd hx hb dX5_jump_51 ?_
          refine lv_iload_n hx hb dX5_jump_52 rfl (lv_at hl 2 rfl) ?_
          refine lv_iadd hx hb dX5_jump_53 ?_
          obtain ⟨b11, hf⟩ := z_ckE hf
          refine va_iald hx hb hK.1 hP 1 0 rfl rfl (z_inE b11) dX5_jump_54 ?_
          refine lv_goto (tgt := 59) hx hb dX5_jump_55 (by decide) ?_
          exact z_ri (wf := (z_md c a)) hx hb hr hlocks hP hD hS hf dX5_jump_59
      · have hf := z_ifF hf c9
        refine lv_iconst (v := (0 : Int32)) hx hb dX5_jump_29 (by decide) ?_
        exact z_ri (wf := (z_md c a)) hx hb hr hlocks hP hD hS hf dX5_jump_30
    · have hf := z_ifT hf c7
      refine lv_iconst (v := (1 : Int32)) hx hb dX5_jump_14 (by decide) ?_
      refine lv_goto (tgt := 19) hx hb dX5_jump_15 (by decide) ?_
      refine va_put (D := D) (ci := 5) (v := .int (1 : Int32)) (ty := .int) (C := RX5) (T := TX5) (N := 13) hx hb hts iX5_jump_X5 tyX5 tyX5_ok nmX5 hown hK.1 hP hD hS 0 rfl rfl 0 (by decide) (hts _ qX5_jump_37) (fun _ h9 => h9) rfl (by decide +kernel) rfl rfl (Nat.le_of_ble_eq_true rfl) dX5_jump_19 (fun H locs hP hD hS => ?_)
      obtain ⟨g12, e12, hf⟩ := z_ltE hf
      have hP : va_P D vwCl (z_md c a g12) H := by rw [e12]; exact hP
      have hD : va_D A (z_md c a g12) := by rw [e12]; exact hD
      clear e12
      refine lv_aload_n hx hb dX5_jump_22 rfl (lv_at hl 0 rfl) ?_
      refine va_get (D := D) (ci := 5) (v := .int (g12 0 0)) (C := RX5) (T := TX5) (N := 13) hx hb hts iX5_jump_X5 hown hK.1 hP 0 rfl rfl 0 (by decide) (hts _ qX5_jump_37) (fun _ h9 => h9) rfl dX5_jump_23 ?_
      refine lv_if_le (tgt := 31) hx hb dX5_jump_26 (by decide) (fun c13 => ?_) (fun c13 => ?_)
      · have hf := z_ifT hf c13
        refine lv_iload_n hx hb dX5_jump_31 rfl (lv_at hl 1 rfl) ?_
        refine lv_aload_n hx hb dX5_jump_32 rfl (lv_at hl 0 rfl) ?_
        refine va_get (D := D) (ci := 5) (v := .ref (a 1)) (C := RX5) (T := TX5) (N := 13) hx hb hts iX5_jump_X5 hown hK.1 hP 0 rfl rfl 1 (by decide) (hts _ qX5_jump_7) (fun _ h9 => h9) rfl dX5_jump_33 ?_
        refine lv_iconst (v := (3 : Int32)) hx hb dX5_jump_36 (by decide) ?_
        refine va_iald hx hb hK.1 hP 1 0 rfl rfl (z_inE (by decide)) dX5_jump_37 ?_
        refine lv_icmp_ge (tgt := 58) hx hb dX5_jump_38 (by decide) (fun c14 => ?_) (fun c14 => ?_)
        · have hf := z_ifT hf c14
          refine lv_iconst (v := (-1 : Int32)) hx hb dX5_jump_58 (by decide) ?_
          exact z_ri (wf := (z_md c a)) hx hb hr hlocks hP hD hS hf dX5_jump_59
        · have hf := z_ifF hf c14
          refine lv_aload_n hx hb dX5_jump_41 rfl (lv_at hl 0 rfl) ?_
          refine va_get (D := D) (ci := 5) (v := .ref (a 1)) (C := RX5) (T := TX5) (N := 13) hx hb hts iX5_jump_X5 hown hK.1 hP 0 rfl rfl 1 (by decide) (hts _ qX5_jump_7) (fun _ h9 => h9) rfl dX5_jump_42 ?_
          refine lv_sipush (v := (157 : Int32)) hx hb dX5_jump_45 (by decide) ?_
          refine lv_iconst (v := (3 : Int32)) hx hb dX5_jump_48 (by decide) ?_
          refine lv_iload_n hx hb dX5_jump_49 rfl (lv_at hl 1 rfl) ?_
          refine lv_imul hx hb dX5_jump_50 ?_
          refine lv_iadd hx hb dX5_jump_51 ?_
          refine lv_iload_n hx hb dX5_jump_52 rfl (lv_at hl 2 rfl) ?_
          refine lv_iadd hx hb dX5_jump_53 ?_
          obtain ⟨b15, hf⟩ := z_ckE hf
          refine va_iald hx hb hK.1 hP 1 0 rfl rfl (z_inE b15) dX5_jump_54 ?_
          refine lv_goto (tgt := 59) hx hb dX5_jump_55 (by decide) ?_
          exact z_ri (wf := (z_md c a)) hx hb hr hlocks hP hD hS hf dX5_jump_59
      · have hf := z_ifF hf c13
        refine lv_iconst (v := (0 : Int32)) hx hb dX5_jump_29 (by decide) ?_
        exact z_ri (wf := (z_md c a)) hx hb hr hlocks hP hD hS hf dX5_jump_30
abbrev rmX5_goAlong : Room := { frames := 2, cells := 0, slots := 0, locals := 43 }
theorem qX5_goAlong_34 : Cond.fieldLink RX5 34 "ProgramDrumModel" "isMet" "[I" ∈ wsX5_goAlong := by decide +kernel
theorem iX5_goAlong_X5 : ∀ w ∈ wsX50, w ∈ wsX5_goAlong := by decide +kernel
set_option maxRecDepth 100000 in
set_option maxHeartbeats 4000000 in
theorem kX5_goAlong (l : Launch) (D : va_G) (c : Nat → ClassId) (N : Nat) (a : Nat → Nat) (sz : Nat) (g : z_R) (p1 : Int32) (r0 : Int32) (g0 : z_R) (hf : fX5_goAlong N p1 g = some (r0, g0)) : Met l yX5_goAlong wsX5_goAlong rmX5_goAlong (z_Pc D c sz (z_md c a g) [.ref (a 0), .int p1]) (z_Qi D (z_md c a) r0 g0 (va_A (z_md c a g) sz)) 0 0 (va_A (z_md c a g) sz) := by
  refine z_ofM (cc := cX5_goAlong) (maxL := 3) (ret := (some .int)) (Qf := fun A => z_Qi D (z_md c a) r0 g0 A) (plainFor_of_name (by decide)) rfl (Nat.le_of_ble_eq_true rfl) ?_
  intro p e s m args below meth co A ls hx hb hr hml hts hown hlocks hnm hA hP hK hD hl hsz
  have hl : lv_has ls 3 [(0, .ref (a 0)), (1, .int p1)] := hl
  have hown : s.vm.findClass RX5 = some m.cls := hown
  obtain ⟨H, hH⟩ : ∃ H, H = s.heap := ⟨_, rfl⟩
  have hS : va_S A s.heap H [] := by rw [hH]; exact va_S.rf
  rw [← hH] at hP ⊢
  clear hH
  have L23 : ∀ (k : Int32 → z_R → Option (Int32 × z_R)) (hk : ∀ (x2 : Int32) (g : z_R), k x2 g = some (r0, g0) → ∀ (H : Heap) (locs : List Loc) (ls : Array Slot), va_P D vwCl (z_md c a g) H → va_D A (z_md c a g) → va_S A s.heap H locs → lv_has ls 3 [(0, .ref (a 0)), (2, .int x2)] → W p l e rmX5_goAlong s m args below meth co H locs 0 0 (MQ below (z_Qi D (z_md c a) r0 g0 A) args s 0 0 A) (F0 m 57 ls [])) (fu : Nat) (x2 : Int32) (g : z_R), lX5_goAlong_23 N k fu x2 g = some (r0, g0) → ∀ (H : Heap) (locs : List Loc) (ls : Array Slot), va_P D vwCl (z_md c a g) H → va_D A (z_md c a g) → va_S A s.heap H locs → lv_has ls 3 [(0, .ref (a 0)), (2, .int x2)] → W p l e rmX5_goAlong s m args below meth co H locs 0 0 (MQ below (z_Qi D (z_md c a) r0 g0 A) args s 0 0 A) (F0 m 23 ls []) := by
    intro k hk fu
    induction fu with
    | zero =>
      intro x2 g hf
      have hf : (none : Option (Int32 × z_R)) = some _ := hf
      cases hf
    | succ fu ih =>
      intro x2 g hf H locs ls hP hD hS hl
      rw [lX5_goAlong_23.eq_2] at hf
      refine lv_aload_n hx hb dX5_goAlong_23 rfl (lv_at hl 0 rfl) ?_
      refine lv_iload_n hx hb dX5_goAlong_24 rfl (lv_at hl 1 rfl) ?_
      obtain ⟨r2, h2, hf⟩ := z_bE hf
      refine z_cVi (As := [.int x2]) (rest := []) (wf := (z_md c a)) (g := g) (u0 := g) ⟨hx, hb, hml, hown, hts⟩ (kX5_isOrder l D c N a H.size g x2 r2 h2) (cwV 1 hts gX5_goAlong_X5_isOrder rfl rfl rfl (by decide +kernel) ⟨Nat.le_of_ble_eq_true rfl, Nat.le_of_ble_eq_true rfl⟩) hP hK hD hS hA (ci := 5) (q0 := 0) rfl rfl rfl rfl hl.1 (Nat.le_of_ble_eq_true rfl) rfl dX5_goAlong_25 ⟨Nat.zero_le _, Nat.zero_le _⟩ (fun H locs hP hD hS => ?_)
      refine lv_if_eq (tgt := 57) hx hb dX5_goAlong_28 (by decide) (fun c3 => ?_) (fun c3 => ?_)
      · have hf := z_ifT hf c3
        exact hk _ _ hf H locs ls hP hD hS (lv_sub hl [0, 1] rfl)
      · have hf := z_ifF hf c3
        refine lv_aload_n hx hb dX5_goAlong_31 rfl (lv_at hl 0 rfl) ?_
        refine va_get (D := D) (ci := 5) (v := .ref (a 9)) (C := RX5) (T := TX5) (N := 13) hx hb hts iX5_goAlong_X5 hown hK.1 hP 0 rfl rfl 11 (by decide) (hts _ qX5_goAlong_34) (fun _ h9 => h9) rfl dX5_goAlong_32 ?_
        refine lv_iload_n hx hb dX5_goAlong_35 rfl (lv_at hl 1 rfl) ?_
        obtain ⟨b4, hf⟩ := z_ckE hf
        refine va_iald hx hb hK.1 hP 9 0 rfl rfl (z_inE b4) dX5_goAlong_36 ?_
        refine lv_if_ne (tgt := 57) hx hb dX5_goAlong_37 (by decide) (fun c5 => ?_) (fun c5 => ?_)
        · have hf := z_ifF hf c5
          exact hk _ _ hf H locs ls hP hD hS (lv_sub hl [0, 1] rfl)
        · have hf := z_ifT hf c5
          refine lv_aload_n hx hb dX5_goAlong_40 rfl (lv_at hl 0 rfl) ?_
          refine va_get (D := D) (ci := 5) (v := .ref (a 9)) (C := RX5) (T := TX5) (N := 13) hx hb hts iX5_goAlong_X5 hown hK.1 hP 0 rfl rfl 11 (by decide) (hts _ qX5_goAlong_34) (fun _ h9 => h9) rfl dX5_goAlong_41 ?_
          refine lv_iload_n hx hb dX5_goAlong_44 rfl (lv_at hl 1 rfl) ?_
          refine lv_iconst (v := (1 : Int32)) hx hb dX5_goAlong_45 (by decide) ?_
          obtain ⟨b6, hf⟩ := z_ckE hf
          refine va_iast hx hb hK.1 hP hD hS 9 0 rfl rfl (z_inE b6) dX5_goAlong_46 (fun H locs hP hD hS => ?_)
          obtain ⟨g7, e7, hf⟩ := z_ltE hf
          have hP : va_P D vwCl (z_md c a g7) H := by rw [e7]; exact hP
          have hD : va_D A (z_md c a g7) := by rw [e7]; exact hD
          clear e7
          refine lv_aload_n hx hb dX5_goAlong_47 rfl (lv_at hl 0 rfl) ?_
          refine lv_iload_n hx hb dX5_goAlong_48 rfl (lv_at hl 1 rfl) ?_
          refine lv_iconst (v := (2 : Int32)) hx hb dX5_goAlong_49 (by decide) ?_
          obtain ⟨r8, h8, hf⟩ := z_bE hf
          refine z_cVi (As := [.int x2, .int (2 : Int32)]) (rest := []) (wf := (z_md c a)) (g := g7) (u0 := g7) ⟨hx, hb, hml, hown, hts⟩ (kX5_part l D c N a H.size g7 x2 (2 : Int32) r8 h8) (cwV 2 hts gX5_goAlong_X5_part rfl rfl rfl (by decide +kernel) ⟨Nat.le_of_ble_eq_true rfl, Nat.le_of_ble_eq_true rfl⟩) hP hK hD hS hA (ci := 5) (q0 := 0) rfl rfl rfl rfl hl.1 (Nat.le_of_ble_eq_true rfl) rfl dX5_goAlong_50 ⟨Nat.zero_le _, Nat.zero_le _⟩ (fun H locs hP hD hS => ?_)
          refine lv_istore_n (lv' := [(2, .int r8), (0, .ref (a 0))]) hx hb dX5_goAlong_53 rfl hl (by decide) rfl (fun ls hl => ?_)
          refine lv_goto (tgt := 23) hx hb dX5_goAlong_54 (by decide) ?_
          exact ih _ _ hf H locs ls hP hD hS (lv_sub hl [1, 0] rfl)
  have L2 : ∀ (x1 : Int32) (fu : Nat) (x2 : Int32) (g : z_R), lX5_goAlong_2 N x1 fu x2 g = some (r0, g0) → ∀ (H : Heap) (locs : List Loc) (ls : Array Slot), va_P D vwCl (z_md c a g) H → va_D A (z_md c a g) → va_S A s.heap H locs → lv_has ls 3 [(0, .ref (a 0)), (1, .int x1), (2, .int x2)] → W p l e rmX5_goAlong s m args below meth co H locs 0 0 (MQ below (z_Qi D (z_md c a) r0 g0 A) args s 0 0 A) (F0 m 2 ls []) := by
    intro x1 fu
    induction fu with
    | zero =>
      intro x2 g hf
      have hf : (none : Option (Int32 × z_R)) = some _ := hf
      cases hf
    | succ fu ih =>
      intro x2 g hf H locs ls hP hD hS hl
      rw [lX5_goAlong_2.eq_2] at hf
      refine lv_iload_n hx hb dX5_goAlong_2 rfl (lv_at hl 2 rfl) ?_
      refine lv_bipush (v := (16 : Int32)) hx hb dX5_goAlong_3 (by decide) ?_
      refine lv_icmp_ge (tgt := 21) hx hb dX5_goAlong_5 (by decide) (fun c1 => ?_) (fun c1 => ?_)
      · have hf := z_ifT hf c1
        refine lv_iload_n hx hb dX5_goAlong_21 rfl (lv_at hl 1 rfl) ?_
        refine lv_istore_n (lv' := [(2, .int x1), (0, .ref (a 0)), (1, .int x1)]) hx hb dX5_goAlong_22 rfl hl (by decide) rfl (fun ls hl => ?_)
        refine L23 _ (fun x2_23 g23_9 hf H locs ls hP hD hS hl => ?_) N _ _ hf H locs ls hP hD hS (lv_sub hl [1, 0] rfl)
        refine lv_aload_n hx hb dX5_goAlong_57 rfl (lv_at hl 0 rfl) ?_
        refine lv_iload_n hx hb dX5_goAlong_58 rfl (lv_at hl 1 rfl) ?_
        obtain ⟨r10, h10, hf⟩ := z_bE hf
        refine z_cVi (As := [.int x2_23]) (rest := []) (wf := (z_md c a)) (g := g23_9) (u0 := g23_9) ⟨hx, hb, hml, hown, hts⟩ (kX5_isOrder l D c N a H.size g23_9 x2_23 r10 h10) (cwV 1 hts gX5_goAlong_X5_isOrder rfl rfl rfl (by decide +kernel) ⟨Nat.le_of_ble_eq_true rfl, Nat.le_of_ble_eq_true rfl⟩) hP hK hD hS hA (ci := 5) (q0 := 0) rfl rfl rfl rfl hl.1 (Nat.le_of_ble_eq_true rfl) rfl dX5_goAlong_59 ⟨Nat.zero_le _, Nat.zero_le _⟩ (fun H locs hP hD hS => ?_)
        refine lv_if_eq (tgt := 69) hx hb dX5_goAlong_62 (by decide) (fun c11 => ?_) (fun c11 => ?_)
        · have hf := z_ifT hf c11
          refine lv_iconst (v := (-1 : Int32)) hx hb dX5_goAlong_69 (by decide) ?_
          exact z_ri (wf := (z_md c a)) hx hb hr hlocks hP hD hS hf dX5_goAlong_70
        · have hf := z_ifF hf c11
          refine lv_iload_n hx hb dX5_goAlong_65 rfl (lv_at hl 1 rfl) ?_
          refine lv_goto (tgt := 70) hx hb dX5_goAlong_66 (by decide) ?_
          exact z_ri (wf := (z_md c a)) hx hb hr hlocks hP hD hS hf dX5_goAlong_70
      · have hf := z_ifF hf c1
        refine lv_aload_n hx hb dX5_goAlong_8 rfl (lv_at hl 0 rfl) ?_
        refine va_get (D := D) (ci := 5) (v := .ref (a 9)) (C := RX5) (T := TX5) (N := 13) hx hb hts iX5_goAlong_X5 hown hK.1 hP 0 rfl rfl 11 (by decide) (hts _ qX5_goAlong_34) (fun _ h9 => h9) rfl dX5_goAlong_9 ?_
        refine lv_iload_n hx hb dX5_goAlong_12 rfl (lv_at hl 2 rfl) ?_
        refine lv_iconst (v := (0 : Int32)) hx hb dX5_goAlong_13 (by decide) ?_
        obtain ⟨b12, hf⟩ := z_ckE hf
        refine va_iast hx hb hK.1 hP hD hS 9 0 rfl rfl (z_inE b12) dX5_goAlong_14 (fun H locs hP hD hS => ?_)
        obtain ⟨g13, e13, hf⟩ := z_ltE hf
        have hP : va_P D vwCl (z_md c a g13) H := by rw [e13]; exact hP
        have hD : va_D A (z_md c a g13) := by rw [e13]; exact hD
        clear e13
        refine lv_iinc (v := (x2 + (1 : Int32))) (lv' := [(2, .int (x2 + (1 : Int32))), (0, .ref (a 0)), (1, .int x1)]) hx hb dX5_goAlong_15 hl (k := 2) rfl rfl (by decide) rfl (fun ls hl => ?_)
        refine lv_goto (tgt := 2) hx hb dX5_goAlong_18 (by decide) ?_
        exact ih _ _ hf H locs ls hP hD hS (lv_sub hl [1, 2, 0] rfl)
  unfold fX5_goAlong at hf
  generalize ([] : List Loc) = locs at hS ⊢
  refine lv_iconst (v := (0 : Int32)) hx hb dX5_goAlong_0 (by decide) ?_
  refine lv_istore_n (lv' := [(2, .int (0 : Int32)), (0, .ref (a 0)), (1, .int p1)]) hx hb dX5_goAlong_1 rfl hl (by decide) rfl (fun ls hl => ?_)
  exact L2 _ N _ _ hf H locs ls hP hD hS (lv_sub hl [1, 2, 0] rfl)
abbrev rmX5_chain : Room := { frames := 3, cells := 0, slots := 0, locals := 65 }
theorem qX5_chain_37 : Cond.fieldLink RX5 37 "ProgramDrumModel" "thrown" "I" ∈ wsX5_chain := by decide +kernel
theorem iX5_chain_X5 : ∀ w ∈ wsX50, w ∈ wsX5_chain := by decide +kernel
theorem qX5_chain_34 : Cond.fieldLink RX5 34 "ProgramDrumModel" "isMet" "[I" ∈ wsX5_chain := by decide +kernel
set_option maxRecDepth 100000 in
set_option maxHeartbeats 4000000 in
theorem kX5_chain (l : Launch) (D : va_G) (c : Nat → ClassId) (N : Nat) (a : Nat → Nat) (sz : Nat) (g : z_R) (p1 : Int32) (r0 : Int32) (g0 : z_R) (hf : fX5_chain N p1 g = some (r0, g0)) : Met l yX5_chain wsX5_chain rmX5_chain (z_Pc D c sz (z_md c a g) [.ref (a 0), .int p1]) (z_Qi D (z_md c a) r0 g0 (va_A (z_md c a g) sz)) 0 0 (va_A (z_md c a g) sz) := by
  refine z_ofM (cc := cX5_chain) (maxL := 4) (ret := (some .int)) (Qf := fun A => z_Qi D (z_md c a) r0 g0 A) (plainFor_of_name (by decide)) rfl (Nat.le_of_ble_eq_true rfl) ?_
  intro p e s m args below meth co A ls hx hb hr hml hts hown hlocks hnm hA hP hK hD hl hsz
  have hl : lv_has ls 4 [(0, .ref (a 0)), (1, .int p1)] := hl
  have hown : s.vm.findClass RX5 = some m.cls := hown
  obtain ⟨H, hH⟩ : ∃ H, H = s.heap := ⟨_, rfl⟩
  have hS : va_S A s.heap H [] := by rw [hH]; exact va_S.rf
  rw [← hH] at hP ⊢
  clear hH
  have L36 : ∀ (g : z_R) (fu : Nat) (x2 : Int32) (x3 : Int32), lX5_chain_36 N g fu x2 x3 = some (r0, g0) → ∀ (H : Heap) (locs : List Loc) (ls : Array Slot), va_P D vwCl (z_md c a g) H → va_D A (z_md c a g) → va_S A s.heap H locs → lv_has ls 4 [(0, .ref (a 0)), (2, .int x2), (3, .int x3)] → W p l e rmX5_chain s m args below meth co H locs 0 0 (MQ below (z_Qi D (z_md c a) r0 g0 A) args s 0 0 A) (F0 m 36 ls []) := by
    intro g fu
    induction fu with
    | zero =>
      intro x2 x3 hf
      have hf : (none : Option (Int32 × z_R)) = some _ := hf
      cases hf
    | succ fu ih =>
      intro x2 x3 hf H locs ls hP hD hS hl
      rw [lX5_chain_36.eq_2] at hf
      refine lv_iload_n hx hb dX5_chain_36 rfl (lv_at hl 2 rfl) ?_
      refine lv_bipush (v := (16 : Int32)) hx hb dX5_chain_37 (by decide) ?_
      refine lv_icmp_ge (tgt := 57) hx hb dX5_chain_39 (by decide) (fun c6 => ?_) (fun c6 => ?_)
      · have hf := z_ifT hf c6
        refine lv_iload_n hx hb dX5_chain_57 rfl (lv_at hl 1 rfl) ?_
        exact z_ri (wf := (z_md c a)) hx hb hr hlocks hP hD hS hf dX5_chain_58
      · have hf := z_ifF hf c6
        refine lv_iload_n hx hb dX5_chain_42 rfl (lv_at hl 1 rfl) ?_
        refine lv_aload_n hx hb dX5_chain_43 rfl (lv_at hl 0 rfl) ?_
        refine va_get (D := D) (ci := 5) (v := .ref (a 9)) (C := RX5) (T := TX5) (N := 13) hx hb hts iX5_chain_X5 hown hK.1 hP 0 rfl rfl 11 (by decide) (hts _ qX5_chain_34) (fun _ h9 => h9) rfl dX5_chain_44 ?_
        refine lv_iload_n hx hb dX5_chain_47 rfl (lv_at hl 2 rfl) ?_
        obtain ⟨b7, hf⟩ := z_ckE hf
        refine va_iald hx hb hK.1 hP 9 0 rfl rfl (z_inE b7) dX5_chain_48 ?_
        refine lv_iadd hx hb dX5_chain_49 ?_
        refine lv_istore_n (lv' := [(2, .int (x2 + (g 9 (x3).toNatClampNeg))), (0, .ref (a 0)), (3, .int x3)]) hx hb dX5_chain_50 rfl hl (by decide) rfl (fun ls hl => ?_)
        refine lv_iinc (v := (x3 + (1 : Int32))) (lv' := [(3, .int (x3 + (1 : Int32))), (2, .int (x2 + (g 9 (x3).toNatClampNeg))), (0, .ref (a 0))]) hx hb dX5_chain_51 hl (k := 2) rfl rfl (by decide) rfl (fun ls hl => ?_)
        refine lv_goto (tgt := 36) hx hb dX5_chain_54 (by decide) ?_
        exact ih _ _ hf H locs ls hP hD hS (lv_sub hl [2, 1, 0] rfl)
  unfold fX5_chain at hf
  generalize ([] : List Loc) = locs at hS ⊢
  refine lv_aload_n hx hb dX5_chain_0 rfl (lv_at hl 0 rfl) ?_
  refine lv_aload_n hx hb dX5_chain_1 rfl (lv_at hl 0 rfl) ?_
  refine lv_iload_n hx hb dX5_chain_2 rfl (lv_at hl 1 rfl) ?_
  obtain ⟨r1, h1, hf⟩ := z_bE hf
  refine z_cVi (As := [.int p1]) (rest := [.ref (a 0)]) (wf := (z_md c a)) (g := g) (u0 := g) ⟨hx, hb, hml, hown, hts⟩ (kX5_isOrder l D c N a H.size g p1 r1 h1) (cwV 1 hts gX5_chain_X5_isOrder rfl rfl rfl (by decide +kernel) ⟨Nat.le_of_ble_eq_true rfl, Nat.le_of_ble_eq_true rfl⟩) hP hK hD hS hA (ci := 5) (q0 := 0) rfl rfl rfl rfl hl.1 (Nat.le_of_ble_eq_true rfl) rfl dX5_chain_3 ⟨Nat.zero_le _, Nat.zero_le _⟩ (fun H locs hP hD hS => ?_)
  refine lv_if_eq (tgt := 13) hx hb dX5_chain_6 (by decide) (fun c2 => ?_) (fun c2 => ?_)
  · have hf := z_ifT hf c2
    refine lv_iconst (v := (1 : Int32)) hx hb dX5_chain_13 (by decide) ?_
    refine va_put (D := D) (ci := 5) (v := .int (1 : Int32)) (ty := .int) (C := RX5) (T := TX5) (N := 13) hx hb hts iX5_chain_X5 tyX5 tyX5_ok nmX5 hown hK.1 hP hD hS 0 rfl rfl 0 (by decide) (hts _ qX5_chain_37) (fun _ h9 => h9) rfl (by decide +kernel) rfl rfl (Nat.le_of_ble_eq_true rfl) dX5_chain_14 (fun H locs hP hD hS => ?_)
    obtain ⟨g3, e3, hf⟩ := z_ltE hf
    have hP : va_P D vwCl (z_md c a g3) H := by rw [e3]; exact hP
    have hD : va_D A (z_md c a g3) := by rw [e3]; exact hD
    clear e3
    refine lv_aload_n hx hb dX5_chain_17 rfl (lv_at hl 0 rfl) ?_
    refine va_get (D := D) (ci := 5) (v := .int (g3 0 0)) (C := RX5) (T := TX5) (N := 13) hx hb hts iX5_chain_X5 hown hK.1 hP 0 rfl rfl 0 (by decide) (hts _ qX5_chain_37) (fun _ h9 => h9) rfl dX5_chain_18 ?_
    refine lv_if_le (tgt := 26) hx hb dX5_chain_21 (by decide) (fun c4 => ?_) (fun c4 => ?_)
    · have hf := z_ifT hf c4
      refine lv_aload_n hx hb dX5_chain_26 rfl (lv_at hl 0 rfl) ?_
      refine lv_iload_n hx hb dX5_chain_27 rfl (lv_at hl 1 rfl) ?_
      obtain ⟨r5, g5, h5, hf⟩ := z_b2E hf
      refine z_cVi (As := [.int p1]) (rest := []) (wf := (z_md c a)) (g := g3) (u0 := g5) ⟨hx, hb, hml, hown, hts⟩ (kX5_goAlong l D c N a H.size g3 p1 r5 g5 h5) (cwV 1 hts gX5_chain_X5_goAlong rfl rfl rfl (by decide +kernel) ⟨Nat.le_of_ble_eq_true rfl, Nat.le_of_ble_eq_true rfl⟩) hP hK hD hS hA (ci := 5) (q0 := 0) rfl rfl rfl rfl hl.1 (Nat.le_of_ble_eq_true rfl) rfl dX5_chain_28 ⟨Nat.zero_le _, Nat.zero_le _⟩ (fun H locs hP hD hS => ?_)
      refine lv_pop hx hb dX5_chain_31 rfl ?_
      refine lv_iconst (v := (0 : Int32)) hx hb dX5_chain_32 (by decide) ?_
      refine lv_istore_n (lv' := [(2, .int (0 : Int32)), (0, .ref (a 0)), (1, .int p1)]) hx hb dX5_chain_33 rfl hl (by decide) rfl (fun ls hl => ?_)
      refine lv_iconst (v := (0 : Int32)) hx hb dX5_chain_34 (by decide) ?_
      refine lv_istore_n (lv' := [(3, .int (0 : Int32)), (2, .int (0 : Int32)), (0, .ref (a 0)), (1, .int p1)]) hx hb dX5_chain_35 rfl hl (by decide) rfl (fun ls hl => ?_)
      exact L36 _ N _ _ hf H locs ls hP hD hS (lv_sub hl [2, 1, 0] rfl)
    · have hf := z_ifF hf c4
      refine lv_iconst (v := (0 : Int32)) hx hb dX5_chain_24 (by decide) ?_
      exact z_ri (wf := (z_md c a)) hx hb hr hlocks hP hD hS hf dX5_chain_25
  · have hf := z_ifF hf c2
    refine lv_iconst (v := (0 : Int32)) hx hb dX5_chain_9 (by decide) ?_
    refine lv_goto (tgt := 14) hx hb dX5_chain_10 (by decide) ?_
    refine va_put (D := D) (ci := 5) (v := .int (0 : Int32)) (ty := .int) (C := RX5) (T := TX5) (N := 13) hx hb hts iX5_chain_X5 tyX5 tyX5_ok nmX5 hown hK.1 hP hD hS 0 rfl rfl 0 (by decide) (hts _ qX5_chain_37) (fun _ h9 => h9) rfl (by decide +kernel) rfl rfl (Nat.le_of_ble_eq_true rfl) dX5_chain_14 (fun H locs hP hD hS => ?_)
    obtain ⟨g8, e8, hf⟩ := z_ltE hf
    have hP : va_P D vwCl (z_md c a g8) H := by rw [e8]; exact hP
    have hD : va_D A (z_md c a g8) := by rw [e8]; exact hD
    clear e8
    refine lv_aload_n hx hb dX5_chain_17 rfl (lv_at hl 0 rfl) ?_
    refine va_get (D := D) (ci := 5) (v := .int (g8 0 0)) (C := RX5) (T := TX5) (N := 13) hx hb hts iX5_chain_X5 hown hK.1 hP 0 rfl rfl 0 (by decide) (hts _ qX5_chain_37) (fun _ h9 => h9) rfl dX5_chain_18 ?_
    refine lv_if_le (tgt := 26) hx hb dX5_chain_21 (by decide) (fun c9 => ?_) (fun c9 => ?_)
    · have hf := z_ifT hf c9
      refine lv_aload_n hx hb dX5_chain_26 rfl (lv_at hl 0 rfl) ?_
      refine lv_iload_n hx hb dX5_chain_27 rfl (lv_at hl 1 rfl) ?_
      obtain ⟨r10, g10, h10, hf⟩ := z_b2E hf
      refine z_cVi (As := [.int p1]) (rest := []) (wf := (z_md c a)) (g := g8) (u0 := g10) ⟨hx, hb, hml, hown, hts⟩ (kX5_goAlong l D c N a H.size g8 p1 r10 g10 h10) (cwV 1 hts gX5_chain_X5_goAlong rfl rfl rfl (by decide +kernel) ⟨Nat.le_of_ble_eq_true rfl, Nat.le_of_ble_eq_true rfl⟩) hP hK hD hS hA (ci := 5) (q0 := 0) rfl rfl rfl rfl hl.1 (Nat.le_of_ble_eq_true rfl) rfl dX5_chain_28 ⟨Nat.zero_le _, Nat.zero_le _⟩ (fun H locs hP hD hS => ?_)
      refine lv_pop hx hb dX5_chain_31 rfl ?_
      refine lv_iconst (v := (0 : Int32)) hx hb dX5_chain_32 (by decide) ?_
      refine lv_istore_n (lv' := [(2, .int (0 : Int32)), (0, .ref (a 0)), (1, .int p1)]) hx hb dX5_chain_33 rfl hl (by decide) rfl (fun ls hl => ?_)
      refine lv_iconst (v := (0 : Int32)) hx hb dX5_chain_34 (by decide) ?_
      refine lv_istore_n (lv' := [(3, .int (0 : Int32)), (2, .int (0 : Int32)), (0, .ref (a 0)), (1, .int p1)]) hx hb dX5_chain_35 rfl hl (by decide) rfl (fun ls hl => ?_)
      exact L36 _ N _ _ hf H locs ls hP hD hS (lv_sub hl [2, 1, 0] rfl)
    · have hf := z_ifF hf c9
      refine lv_iconst (v := (0 : Int32)) hx hb dX5_chain_24 (by decide) ?_
      exact z_ri (wf := (z_md c a)) hx hb hr hlocks hP hD hS hf dX5_chain_25
abbrev rmX5_ring : Room := { frames := 3, cells := 0, slots := 0, locals := 65 }
theorem qX5_ring_37 : Cond.fieldLink RX5 37 "ProgramDrumModel" "thrown" "I" ∈ wsX5_ring := by decide +kernel
theorem iX5_ring_X5 : ∀ w ∈ wsX50, w ∈ wsX5_ring := by decide +kernel
set_option maxRecDepth 100000 in
set_option maxHeartbeats 4000000 in
theorem kX5_ring (l : Launch) (D : va_G) (c : Nat → ClassId) (N : Nat) (a : Nat → Nat) (sz : Nat) (g : z_R) (p1 : Int32) (r0 : Int32) (g0 : z_R) (hf : fX5_ring N p1 g = some (r0, g0)) : Met l yX5_ring wsX5_ring rmX5_ring (z_Pc D c sz (z_md c a g) [.ref (a 0), .int p1]) (z_Qi D (z_md c a) r0 g0 (va_A (z_md c a g) sz)) 0 0 (va_A (z_md c a g) sz) := by
  refine z_ofM (cc := cX5_ring) (maxL := 5) (ret := (some .int)) (Qf := fun A => z_Qi D (z_md c a) r0 g0 A) (plainFor_of_name (by decide)) rfl (Nat.le_of_ble_eq_true rfl) ?_
  intro p e s m args below meth co A ls hx hb hr hml hts hown hlocks hnm hA hP hK hD hl hsz
  have hl : lv_has ls 5 [(0, .ref (a 0)), (1, .int p1)] := hl
  have hown : s.vm.findClass RX5 = some m.cls := hown
  obtain ⟨H, hH⟩ : ∃ H, H = s.heap := ⟨_, rfl⟩
  have hS : va_S A s.heap H [] := by rw [hH]; exact va_S.rf
  rw [← hH] at hP ⊢
  clear hH
  have L49 : ∀ (x2 : Int32) (g : z_R) (fu : Nat) (x3 : Int32) (x4 : Int32), lX5_ring_49 N x2 g fu x3 x4 = some (r0, g0) → ∀ (H : Heap) (locs : List Loc) (ls : Array Slot), va_P D vwCl (z_md c a g) H → va_D A (z_md c a g) → va_S A s.heap H locs → lv_has ls 5 [(0, .ref (a 0)), (2, .int x2), (3, .int x3), (4, .int x4)] → W p l e rmX5_ring s m args below meth co H locs 0 0 (MQ below (z_Qi D (z_md c a) r0 g0 A) args s 0 0 A) (F0 m 49 ls []) := by
    intro x2 g fu
    induction fu with
    | zero =>
      intro x3 x4 hf
      have hf : (none : Option (Int32 × z_R)) = some _ := hf
      cases hf
    | succ fu ih =>
      intro x3 x4 hf H locs ls hP hD hS hl
      rw [lX5_ring_49.eq_2] at hf
      refine lv_iload hx hb dX5_ring_49 (lv_at hl 3 rfl) ?_
      refine lv_iload_n hx hb dX5_ring_51 rfl (lv_at hl 1 rfl) ?_
      refine lv_icmp_eq (tgt := 70) hx hb dX5_ring_52 (by decide) (fun c8 => ?_) (fun c8 => ?_)
      · have hf := z_ifT hf c8
        refine lv_iload_n hx hb dX5_ring_70 rfl (lv_at hl 2 rfl) ?_
        exact z_ri (wf := (z_md c a)) hx hb hr hlocks hP hD hS hf dX5_ring_71
      · have hf := z_ifF hf c8
        refine lv_iinc (v := (x3 + (1 : Int32))) (lv' := [(3, .int (x3 + (1 : Int32))), (0, .ref (a 0)), (2, .int x2), (4, .int x4)]) hx hb dX5_ring_55 hl (k := 2) rfl rfl (by decide) rfl (fun ls hl => ?_)
        refine lv_aload_n hx hb dX5_ring_58 rfl (lv_at hl 1 rfl) ?_
        refine lv_iload hx hb dX5_ring_59 (lv_at hl 3 rfl) ?_
        refine lv_iconst (v := (2 : Int32)) hx hb dX5_ring_61 (by decide) ?_
        obtain ⟨r9, h9, hf⟩ := z_bE hf
        refine z_cVi (As := [.int x4, .int (2 : Int32)]) (rest := []) (wf := (z_md c a)) (g := g) (u0 := g) ⟨hx, hb, hml, hown, hts⟩ (kX5_part l D c N a H.size g x4 (2 : Int32) r9 h9) (cwV 2 hts gX5_ring_X5_part rfl rfl rfl (by decide +kernel) ⟨Nat.le_of_ble_eq_true rfl, Nat.le_of_ble_eq_true rfl⟩) hP hK hD hS hA (ci := 5) (q0 := 0) rfl rfl rfl rfl hl.1 (Nat.le_of_ble_eq_true rfl) rfl dX5_ring_62 ⟨Nat.zero_le _, Nat.zero_le _⟩ (fun H locs hP hD hS => ?_)
        refine lv_istore (lv' := [(4, .int r9), (3, .int (x3 + (1 : Int32))), (0, .ref (a 0)), (2, .int x2)]) hx hb dX5_ring_65 hl (by decide) rfl (fun ls hl => ?_)
        refine lv_goto (tgt := 49) hx hb dX5_ring_67 (by decide) ?_
        exact ih _ _ hf H locs ls hP hD hS (lv_sub hl [2, 3, 1, 0] rfl)
  unfold fX5_ring at hf
  generalize ([] : List Loc) = locs at hS ⊢
  refine lv_aload_n hx hb dX5_ring_0 rfl (lv_at hl 0 rfl) ?_
  refine lv_aload_n hx hb dX5_ring_1 rfl (lv_at hl 0 rfl) ?_
  refine lv_iload_n hx hb dX5_ring_2 rfl (lv_at hl 1 rfl) ?_
  obtain ⟨r1, h1, hf⟩ := z_bE hf
  refine z_cVi (As := [.int p1]) (rest := [.ref (a 0)]) (wf := (z_md c a)) (g := g) (u0 := g) ⟨hx, hb, hml, hown, hts⟩ (kX5_isOrder l D c N a H.size g p1 r1 h1) (cwV 1 hts gX5_ring_X5_isOrder rfl rfl rfl (by decide +kernel) ⟨Nat.le_of_ble_eq_true rfl, Nat.le_of_ble_eq_true rfl⟩) hP hK hD hS hA (ci := 5) (q0 := 0) rfl rfl rfl rfl hl.1 (Nat.le_of_ble_eq_true rfl) rfl dX5_ring_3 ⟨Nat.zero_le _, Nat.zero_le _⟩ (fun H locs hP hD hS => ?_)
  refine lv_if_eq (tgt := 13) hx hb dX5_ring_6 (by decide) (fun c2 => ?_) (fun c2 => ?_)
  · have hf := z_ifT hf c2
    refine lv_iconst (v := (1 : Int32)) hx hb dX5_ring_13 (by decide) ?_
    refine va_put (D := D) (ci := 5) (v := .int (1 : Int32)) (ty := .int) (C := RX5) (T := TX5) (N := 13) hx hb hts iX5_ring_X5 tyX5 tyX5_ok nmX5 hown hK.1 hP hD hS 0 rfl rfl 0 (by decide) (hts _ qX5_ring_37) (fun _ h9 => h9) rfl (by decide +kernel) rfl rfl (Nat.le_of_ble_eq_true rfl) dX5_ring_14 (fun H locs hP hD hS => ?_)
    obtain ⟨g3, e3, hf⟩ := z_ltE hf
    have hP : va_P D vwCl (z_md c a g3) H := by rw [e3]; exact hP
    have hD : va_D A (z_md c a g3) := by rw [e3]; exact hD
    clear e3
    refine lv_aload_n hx hb dX5_ring_17 rfl (lv_at hl 0 rfl) ?_
    refine va_get (D := D) (ci := 5) (v := .int (g3 0 0)) (C := RX5) (T := TX5) (N := 13) hx hb hts iX5_ring_X5 hown hK.1 hP 0 rfl rfl 0 (by decide) (hts _ qX5_ring_37) (fun _ h9 => h9) rfl dX5_ring_18 ?_
    refine lv_if_le (tgt := 26) hx hb dX5_ring_21 (by decide) (fun c4 => ?_) (fun c4 => ?_)
    · have hf := z_ifT hf c4
      refine lv_aload_n hx hb dX5_ring_26 rfl (lv_at hl 0 rfl) ?_
      refine lv_iload_n hx hb dX5_ring_27 rfl (lv_at hl 1 rfl) ?_
      obtain ⟨r5, g5, h5, hf⟩ := z_b2E hf
      refine z_cVi (As := [.int p1]) (rest := []) (wf := (z_md c a)) (g := g3) (u0 := g5) ⟨hx, hb, hml, hown, hts⟩ (kX5_goAlong l D c N a H.size g3 p1 r5 g5 h5) (cwV 1 hts gX5_ring_X5_goAlong rfl rfl rfl (by decide +kernel) ⟨Nat.le_of_ble_eq_true rfl, Nat.le_of_ble_eq_true rfl⟩) hP hK hD hS hA (ci := 5) (q0 := 0) rfl rfl rfl rfl hl.1 (Nat.le_of_ble_eq_true rfl) rfl dX5_ring_28 ⟨Nat.zero_le _, Nat.zero_le _⟩ (fun H locs hP hD hS => ?_)
      refine lv_istore_n (lv' := [(2, .int r5), (0, .ref (a 0)), (1, .int p1)]) hx hb dX5_ring_31 rfl hl (by decide) rfl (fun ls hl => ?_)
      refine lv_iload_n hx hb dX5_ring_32 rfl (lv_at hl 0 rfl) ?_
      refine lv_iconst (v := (-1 : Int32)) hx hb dX5_ring_33 (by decide) ?_
      refine lv_icmp_ne (tgt := 39) hx hb dX5_ring_34 (by decide) (fun c6 => ?_) (fun c6 => ?_)
      · have hf := z_ifF hf c6
        refine lv_iconst (v := (1 : Int32)) hx hb dX5_ring_39 (by decide) ?_
        refine lv_istore_n (lv' := [(3, .int (1 : Int32)), (2, .int r5), (0, .ref (a 0)), (1, .int p1)]) hx hb dX5_ring_40 rfl hl (by decide) rfl (fun ls hl => ?_)
        refine lv_aload_n hx hb dX5_ring_41 rfl (lv_at hl 2 rfl) ?_
        refine lv_iload_n hx hb dX5_ring_42 rfl (lv_at hl 1 rfl) ?_
        refine lv_iconst (v := (2 : Int32)) hx hb dX5_ring_43 (by decide) ?_
        obtain ⟨r7, h7, hf⟩ := z_bE hf
        refine z_cVi (As := [.int r5, .int (2 : Int32)]) (rest := []) (wf := (z_md c a)) (g := g5) (u0 := g5) ⟨hx, hb, hml, hown, hts⟩ (kX5_part l D c N a H.size g5 r5 (2 : Int32) r7 h7) (cwV 2 hts gX5_ring_X5_part rfl rfl rfl (by decide +kernel) ⟨Nat.le_of_ble_eq_true rfl, Nat.le_of_ble_eq_true rfl⟩) hP hK hD hS hA (ci := 5) (q0 := 0) rfl rfl rfl rfl hl.1 (Nat.le_of_ble_eq_true rfl) rfl dX5_ring_44 ⟨Nat.zero_le _, Nat.zero_le _⟩ (fun H locs hP hD hS => ?_)
        refine lv_istore (lv' := [(4, .int r7), (3, .int (1 : Int32)), (2, .int r5), (0, .ref (a 0)), (1, .int p1)]) hx hb dX5_ring_47 hl (by decide) rfl (fun ls hl => ?_)
        exact L49 _ _ N _ _ hf H locs ls hP hD hS (lv_sub hl [3, 2, 1, 0] rfl)
      · have hf := z_ifT hf c6
        refine lv_iconst (v := (0 : Int32)) hx hb dX5_ring_37 (by decide) ?_
        exact z_ri (wf := (z_md c a)) hx hb hr hlocks hP hD hS hf dX5_ring_38
    · have hf := z_ifF hf c4
      refine lv_iconst (v := (0 : Int32)) hx hb dX5_ring_24 (by decide) ?_
      exact z_ri (wf := (z_md c a)) hx hb hr hlocks hP hD hS hf dX5_ring_25
  · have hf := z_ifF hf c2
    refine lv_iconst (v := (0 : Int32)) hx hb dX5_ring_9 (by decide) ?_
    refine lv_goto (tgt := 14) hx hb dX5_ring_10 (by decide) ?_
    refine va_put (D := D) (ci := 5) (v := .int (0 : Int32)) (ty := .int) (C := RX5) (T := TX5) (N := 13) hx hb hts iX5_ring_X5 tyX5 tyX5_ok nmX5 hown hK.1 hP hD hS 0 rfl rfl 0 (by decide) (hts _ qX5_ring_37) (fun _ h9 => h9) rfl (by decide +kernel) rfl rfl (Nat.le_of_ble_eq_true rfl) dX5_ring_14 (fun H locs hP hD hS => ?_)
    obtain ⟨g10, e10, hf⟩ := z_ltE hf
    have hP : va_P D vwCl (z_md c a g10) H := by rw [e10]; exact hP
    have hD : va_D A (z_md c a g10) := by rw [e10]; exact hD
    clear e10
    refine lv_aload_n hx hb dX5_ring_17 rfl (lv_at hl 0 rfl) ?_
    refine va_get (D := D) (ci := 5) (v := .int (g10 0 0)) (C := RX5) (T := TX5) (N := 13) hx hb hts iX5_ring_X5 hown hK.1 hP 0 rfl rfl 0 (by decide) (hts _ qX5_ring_37) (fun _ h9 => h9) rfl dX5_ring_18 ?_
    refine lv_if_le (tgt := 26) hx hb dX5_ring_21 (by decide) (fun c11 => ?_) (fun c11 => ?_)
    · have hf := z_ifT hf c11
      refine lv_aload_n hx hb dX5_ring_26 rfl (lv_at hl 0 rfl) ?_
      refine lv_iload_n hx hb dX5_ring_27 rfl (lv_at hl 1 rfl) ?_
      obtain ⟨r12, g12, h12, hf⟩ := z_b2E hf
      refine z_cVi (As := [.int p1]) (rest := []) (wf := (z_md c a)) (g := g10) (u0 := g12) ⟨hx, hb, hml, hown, hts⟩ (kX5_goAlong l D c N a H.size g10 p1 r12 g12 h12) (cwV 1 hts gX5_ring_X5_goAlong rfl rfl rfl (by decide +kernel) ⟨Nat.le_of_ble_eq_true rfl, Nat.le_of_ble_eq_true rfl⟩) hP hK hD hS hA (ci := 5) (q0 := 0) rfl rfl rfl rfl hl.1 (Nat.le_of_ble_eq_true rfl) rfl dX5_ring_28 ⟨Nat.zero_le _, Nat.zero_le _⟩ (fun H locs hP hD hS => ?_)
      refine lv_istore_n (lv' := [(2, .int r12), (0, .ref (a 0)), (1, .int p1)]) hx hb dX5_ring_31 rfl hl (by decide) rfl (fun ls hl => ?_)
      refine lv_iload_n hx hb dX5_ring_32 rfl (lv_at hl 0 rfl) ?_
      refine lv_iconst (v := (-1 : Int32)) hx hb dX5_ring_33 (by decide) ?_
      refine lv_icmp_ne (tgt := 39) hx hb dX5_ring_34 (by decide) (fun c13 => ?_) (fun c13 => ?_)
      · have hf := z_ifF hf c13
        refine lv_iconst (v := (1 : Int32)) hx hb dX5_ring_39 (by decide) ?_
        refine lv_istore_n (lv' := [(3, .int (1 : Int32)), (2, .int r12), (0, .ref (a 0)), (1, .int p1)]) hx hb dX5_ring_40 rfl hl (by decide) rfl (fun ls hl => ?_)
        refine lv_aload_n hx hb dX5_ring_41 rfl (lv_at hl 2 rfl) ?_
        refine lv_iload_n hx hb dX5_ring_42 rfl (lv_at hl 1 rfl) ?_
        refine lv_iconst (v := (2 : Int32)) hx hb dX5_ring_43 (by decide) ?_
        obtain ⟨r14, h14, hf⟩ := z_bE hf
        refine z_cVi (As := [.int r12, .int (2 : Int32)]) (rest := []) (wf := (z_md c a)) (g := g12) (u0 := g12) ⟨hx, hb, hml, hown, hts⟩ (kX5_part l D c N a H.size g12 r12 (2 : Int32) r14 h14) (cwV 2 hts gX5_ring_X5_part rfl rfl rfl (by decide +kernel) ⟨Nat.le_of_ble_eq_true rfl, Nat.le_of_ble_eq_true rfl⟩) hP hK hD hS hA (ci := 5) (q0 := 0) rfl rfl rfl rfl hl.1 (Nat.le_of_ble_eq_true rfl) rfl dX5_ring_44 ⟨Nat.zero_le _, Nat.zero_le _⟩ (fun H locs hP hD hS => ?_)
        refine lv_istore (lv' := [(4, .int r14), (3, .int (1 : Int32)), (2, .int r12), (0, .ref (a 0)), (1, .int p1)]) hx hb dX5_ring_47 hl (by decide) rfl (fun ls hl => ?_)
        exact L49 _ _ N _ _ hf H locs ls hP hD hS (lv_sub hl [3, 2, 1, 0] rfl)
      · have hf := z_ifT hf c13
        refine lv_iconst (v := (0 : Int32)) hx hb dX5_ring_37 (by decide) ?_
        exact z_ri (wf := (z_md c a)) hx hb hr hlocks hP hD hS hf dX5_ring_38
    · have hf := z_ifF hf c11
      refine lv_iconst (v := (0 : Int32)) hx hb dX5_ring_24 (by decide) ?_
      exact z_ri (wf := (z_md c a)) hx hb hr hlocks hP hD hS hf dX5_ring_25
abbrev rmX5_remember : Room := { frames := 1, cells := 0, slots := 0, locals := 24 }
theorem qX5_remember_73 : Cond.fieldLink RX5 73 "ProgramDrumModel" "remembered" "I" ∈ wsX5_remember := by decide +kernel
theorem iX5_remember_X5 : ∀ w ∈ wsX50, w ∈ wsX5_remember := by decide +kernel
theorem qX5_remember_7 : Cond.fieldLink RX5 7 "ProgramDrumModel" "state" "[I" ∈ wsX5_remember := by decide +kernel
theorem qX5_remember_22 : Cond.fieldLink RX5 22 "ProgramDrumModel" "history" "[I" ∈ wsX5_remember := by decide +kernel
set_option maxRecDepth 100000 in
set_option maxHeartbeats 4000000 in
theorem kX5_remember (l : Launch) (D : va_G) (c : Nat → ClassId) (N : Nat) (a : Nat → Nat) (sz : Nat) (g : z_R) (g0 : z_R) (hf : fX5_remember N g = some g0) : Met l yX5_remember wsX5_remember rmX5_remember (z_Pc D c sz (z_md c a g) [.ref (a 0)]) (z_Qv D (z_md c a) g0 (va_A (z_md c a g) sz)) 0 0 (va_A (z_md c a g) sz) := by
  refine z_ofM (cc := cX5_remember) (maxL := 2) (ret := none) (Qf := fun A => z_Qv D (z_md c a) g0 A) (plainFor_of_name (by decide)) rfl (Nat.le_of_ble_eq_true rfl) ?_
  intro p e s m args below meth co A ls hx hb hr hml hts hown hlocks hnm hA hP hK hD hl hsz
  have hl : lv_has ls 2 [(0, .ref (a 0))] := hl
  have hown : s.vm.findClass RX5 = some m.cls := hown
  obtain ⟨H, hH⟩ : ∃ H, H = s.heap := ⟨_, rfl⟩
  have hS : va_S A s.heap H [] := by rw [hH]; exact va_S.rf
  rw [← hH] at hP ⊢
  clear hH
  have L11 : ∀ (fu : Nat) (x1 : Int32) (g : z_R), lX5_remember_11 N fu x1 g = some g0 → ∀ (H : Heap) (locs : List Loc) (ls : Array Slot), va_P D vwCl (z_md c a g) H → va_D A (z_md c a g) → va_S A s.heap H locs → lv_has ls 2 [(0, .ref (a 0)), (1, .int x1)] → W p l e rmX5_remember s m args below meth co H locs 0 0 (MQ below (z_Qv D (z_md c a) g0 A) args s 0 0 A) (F0 m 11 ls []) := by
    intro fu
    induction fu with
    | zero =>
      intro x1 g hf
      have hf : (none : Option (z_R)) = some _ := hf
      cases hf
    | succ fu ih =>
      intro x1 g hf H locs ls hP hD hS hl
      rw [lX5_remember_11.eq_2] at hf
      refine lv_iload_n hx hb dX5_remember_11 rfl (lv_at hl 1 rfl) ?_
      refine lv_sipush (v := (12025 : Int32)) hx hb dX5_remember_12 (by decide) ?_
      refine lv_icmp_ge (tgt := 40) hx hb dX5_remember_15 (by decide) (fun c4 => ?_) (fun c4 => ?_)
      · have hf := z_ifT hf c4
        refine lv_aload_n hx hb dX5_remember_40 rfl (lv_at hl 0 rfl) ?_
        refine lv_dup hx hb dX5_remember_41 rfl ?_
        refine va_get (D := D) (ci := 5) (v := .int (g 0 1)) (C := RX5) (T := TX5) (N := 13) hx hb hts iX5_remember_X5 hown hK.1 hP 0 rfl rfl 6 (by decide) (hts _ qX5_remember_73) (fun _ h9 => h9) rfl dX5_remember_42 ?_
        refine lv_iconst (v := (1 : Int32)) hx hb dX5_remember_45 (by decide) ?_
        refine lv_isub hx hb dX5_remember_46 ?_
        refine va_put (D := D) (ci := 5) (v := .int ((g 0 1) - (1 : Int32))) (ty := .int) (C := RX5) (T := TX5) (N := 13) hx hb hts iX5_remember_X5 tyX5 tyX5_ok nmX5 hown hK.1 hP hD hS 0 rfl rfl 6 (by decide) (hts _ qX5_remember_73) (fun _ h9 => h9) rfl (by decide +kernel) rfl rfl (Nat.le_of_ble_eq_true rfl) dX5_remember_47 (fun H locs hP hD hS => ?_)
        obtain ⟨g5, e5, hf⟩ := z_ltE hf
        have hP : va_P D vwCl (z_md c a g5) H := by rw [e5]; exact hP
        have hD : va_D A (z_md c a g5) := by rw [e5]; exact hD
        clear e5
        refine lv_aload_n hx hb dX5_remember_50 rfl (lv_at hl 0 rfl) ?_
        refine va_get (D := D) (ci := 5) (v := .ref (a 1)) (C := RX5) (T := TX5) (N := 13) hx hb hts iX5_remember_X5 hown hK.1 hP 0 rfl rfl 1 (by decide) (hts _ qX5_remember_7) (fun _ h9 => h9) rfl dX5_remember_51 ?_
        refine lv_iconst (v := (0 : Int32)) hx hb dX5_remember_54 (by decide) ?_
        refine lv_aload_n hx hb dX5_remember_55 rfl (lv_at hl 0 rfl) ?_
        refine va_get (D := D) (ci := 5) (v := .ref (a 5)) (C := RX5) (T := TX5) (N := 13) hx hb hts iX5_remember_X5 hown hK.1 hP 0 rfl rfl 5 (by decide) (hts _ qX5_remember_22) (fun _ h9 => h9) rfl dX5_remember_56 ?_
        refine lv_aload_n hx hb dX5_remember_59 rfl (lv_at hl 0 rfl) ?_
        refine va_get (D := D) (ci := 5) (v := .int (g5 0 1)) (C := RX5) (T := TX5) (N := 13) hx hb hts iX5_remember_X5 hown hK.1 hP 0 rfl rfl 6 (by decide) (hts _ qX5_remember_73) (fun _ h9 => h9) rfl dX5_remember_60 ?_
        refine lv_sipush (v := (925 : Int32)) hx hb dX5_remember_63 (by decide) ?_
        refine lv_imul hx hb dX5_remember_66 ?_
        obtain ⟨u6, h6, hf⟩ := z_bE hf
        obtain ⟨g6, e6, hf⟩ := z_ltE hf
        refine z_cSvC (As := [.ref (a 1), .int (0 : Int32), .ref (a 5), .int ((g5 0 1) * (925 : Int32))]) (rest := []) (V := (z_md c a g5)) (V' := (z_md c a g6)) (wf := (fun u : Nat → Int32 => z_cp c (a 1) (a 5) 925 12950 (g5 1) u)) (g := g5 5) (u0 := u6) ⟨hx, hb, hml, hown, hts⟩ (kX5_copy l D c N (a 1) (a 5) 925 12950 H.size  (g5 1) (g5 5) (0 : Int32) ((g5 0 1) * (925 : Int32)) u6 h6) (va_cwS 4 hts gX5_remember_X5_copy rfl rfl rfl (by decide +kernel) ⟨Nat.le_of_ble_eq_true rfl, Nat.le_of_ble_eq_true rfl⟩) hP hK hD hS hA [1, 5] [0, 2, 3, 4, 6, 7, 8, 9] [0, 8, 1, 2, 3, 9, 4, 5, 6, 7] rfl rfl (by decide) (by decide) (by decide) (by decide) rfl hl.1 (Nat.le_of_ble_eq_true rfl) rfl dX5_remember_67 ⟨Nat.zero_le _, Nat.zero_le _⟩ (by rw [e6]; rfl) (fun H locs hP hD hS => ?_)
        refine lv_aload_n hx hb dX5_remember_70 rfl (lv_at hl 0 rfl) ?_
        refine lv_dup hx hb dX5_remember_71 rfl ?_
        refine va_get (D := D) (ci := 5) (v := .int (g6 0 1)) (C := RX5) (T := TX5) (N := 13) hx hb hts iX5_remember_X5 hown hK.1 hP 0 rfl rfl 6 (by decide) (hts _ qX5_remember_73) (fun _ h9 => h9) rfl dX5_remember_72 ?_
        refine lv_iconst (v := (1 : Int32)) hx hb dX5_remember_75 (by decide) ?_
        refine lv_iadd hx hb dX5_remember_76 ?_
        refine va_put (D := D) (ci := 5) (v := .int ((g6 0 1) + (1 : Int32))) (ty := .int) (C := RX5) (T := TX5) (N := 13) hx hb hts iX5_remember_X5 tyX5 tyX5_ok nmX5 hown hK.1 hP hD hS 0 rfl rfl 6 (by decide) (hts _ qX5_remember_73) (fun _ h9 => h9) rfl (by decide +kernel) rfl rfl (Nat.le_of_ble_eq_true rfl) dX5_remember_77 (fun H locs hP hD hS => ?_)
        obtain ⟨g7, e7, hf⟩ := z_ltE hf
        have hP : va_P D vwCl (z_md c a g7) H := by rw [e7]; exact hP
        have hD : va_D A (z_md c a g7) := by rw [e7]; exact hD
        clear e7
        exact z_rv (wf := (z_md c a)) hx hb hr hlocks hP hD hS hf dX5_remember_80
      · have hf := z_ifF hf c4
        refine lv_aload_n hx hb dX5_remember_18 rfl (lv_at hl 0 rfl) ?_
        refine va_get (D := D) (ci := 5) (v := .ref (a 5)) (C := RX5) (T := TX5) (N := 13) hx hb hts iX5_remember_X5 hown hK.1 hP 0 rfl rfl 5 (by decide) (hts _ qX5_remember_22) (fun _ h9 => h9) rfl dX5_remember_19 ?_
        refine lv_iload_n hx hb dX5_remember_22 rfl (lv_at hl 1 rfl) ?_
        refine lv_aload_n hx hb dX5_remember_23 rfl (lv_at hl 0 rfl) ?_
        refine va_get (D := D) (ci := 5) (v := .ref (a 5)) (C := RX5) (T := TX5) (N := 13) hx hb hts iX5_remember_X5 hown hK.1 hP 0 rfl rfl 5 (by decide) (hts _ qX5_remember_22) (fun _ h9 => h9) rfl dX5_remember_24 ?_
        refine lv_iload_n hx hb dX5_remember_27 rfl (lv_at hl 1 rfl) ?_
        refine lv_sipush (v := (925 : Int32)) hx hb dX5_remember_28 (by decide) ?_
        refine lv_iadd hx hb dX5_remember_31 ?_
        obtain ⟨b8, hf⟩ := z_ckE hf
        refine va_iald hx hb hK.1 hP 5 0 rfl rfl (z_inE b8) dX5_remember_32 ?_
        obtain ⟨b9, hf⟩ := z_ckE hf
        refine va_iast hx hb hK.1 hP hD hS 5 0 rfl rfl (z_inE b9) dX5_remember_33 (fun H locs hP hD hS => ?_)
        obtain ⟨g10, e10, hf⟩ := z_ltE hf
        have hP : va_P D vwCl (z_md c a g10) H := by rw [e10]; exact hP
        have hD : va_D A (z_md c a g10) := by rw [e10]; exact hD
        clear e10
        refine lv_iinc (v := (x1 + (1 : Int32))) (lv' := [(1, .int (x1 + (1 : Int32))), (0, .ref (a 0))]) hx hb dX5_remember_34 hl (k := 1) rfl rfl (by decide) rfl (fun ls hl => ?_)
        refine lv_goto (tgt := 11) hx hb dX5_remember_37 (by decide) ?_
        exact ih _ _ hf H locs ls hP hD hS (lv_sub hl [1, 0] rfl)
  unfold fX5_remember at hf
  generalize ([] : List Loc) = locs at hS ⊢
  refine lv_aload_n hx hb dX5_remember_0 rfl (lv_at hl 0 rfl) ?_
  refine va_get (D := D) (ci := 5) (v := .int (g 0 1)) (C := RX5) (T := TX5) (N := 13) hx hb hts iX5_remember_X5 hown hK.1 hP 0 rfl rfl 6 (by decide) (hts _ qX5_remember_73) (fun _ h9 => h9) rfl dX5_remember_1 ?_
  refine lv_bipush (v := (14 : Int32)) hx hb dX5_remember_4 (by decide) ?_
  refine lv_icmp_ne (tgt := 50) hx hb dX5_remember_6 (by decide) (fun c1 => ?_) (fun c1 => ?_)
  · have hf := z_ifF hf c1
    refine lv_aload_n hx hb dX5_remember_50 rfl (lv_at hl 0 rfl) ?_
    refine va_get (D := D) (ci := 5) (v := .ref (a 1)) (C := RX5) (T := TX5) (N := 13) hx hb hts iX5_remember_X5 hown hK.1 hP 0 rfl rfl 1 (by decide) (hts _ qX5_remember_7) (fun _ h9 => h9) rfl dX5_remember_51 ?_
    refine lv_iconst (v := (0 : Int32)) hx hb dX5_remember_54 (by decide) ?_
    refine lv_aload_n hx hb dX5_remember_55 rfl (lv_at hl 0 rfl) ?_
    refine va_get (D := D) (ci := 5) (v := .ref (a 5)) (C := RX5) (T := TX5) (N := 13) hx hb hts iX5_remember_X5 hown hK.1 hP 0 rfl rfl 5 (by decide) (hts _ qX5_remember_22) (fun _ h9 => h9) rfl dX5_remember_56 ?_
    refine lv_aload_n hx hb dX5_remember_59 rfl (lv_at hl 0 rfl) ?_
    refine va_get (D := D) (ci := 5) (v := .int (g 0 1)) (C := RX5) (T := TX5) (N := 13) hx hb hts iX5_remember_X5 hown hK.1 hP 0 rfl rfl 6 (by decide) (hts _ qX5_remember_73) (fun _ h9 => h9) rfl dX5_remember_60 ?_
    refine lv_sipush (v := (925 : Int32)) hx hb dX5_remember_63 (by decide) ?_
    refine lv_imul hx hb dX5_remember_66 ?_
    obtain ⟨u2, h2, hf⟩ := z_bE hf
    obtain ⟨g2, e2, hf⟩ := z_ltE hf
    refine z_cSvC (As := [.ref (a 1), .int (0 : Int32), .ref (a 5), .int ((g 0 1) * (925 : Int32))]) (rest := []) (V := (z_md c a g)) (V' := (z_md c a g2)) (wf := (fun u : Nat → Int32 => z_cp c (a 1) (a 5) 925 12950 (g 1) u)) (g := g 5) (u0 := u2) ⟨hx, hb, hml, hown, hts⟩ (kX5_copy l D c N (a 1) (a 5) 925 12950 H.size  (g 1) (g 5) (0 : Int32) ((g 0 1) * (925 : Int32)) u2 h2) (va_cwS 4 hts gX5_remember_X5_copy rfl rfl rfl (by decide +kernel) ⟨Nat.le_of_ble_eq_true rfl, Nat.le_of_ble_eq_true rfl⟩) hP hK hD hS hA [1, 5] [0, 2, 3, 4, 6, 7, 8, 9] [0, 8, 1, 2, 3, 9, 4, 5, 6, 7] rfl rfl (by decide) (by decide) (by decide) (by decide) rfl hl.1 (Nat.le_of_ble_eq_true rfl) rfl dX5_remember_67 ⟨Nat.zero_le _, Nat.zero_le _⟩ (by rw [e2]; rfl) (fun H locs hP hD hS => ?_)
    refine lv_aload_n hx hb dX5_remember_70 rfl (lv_at hl 0 rfl) ?_
    refine lv_dup hx hb dX5_remember_71 rfl ?_
    refine va_get (D := D) (ci := 5) (v := .int (g2 0 1)) (C := RX5) (T := TX5) (N := 13) hx hb hts iX5_remember_X5 hown hK.1 hP 0 rfl rfl 6 (by decide) (hts _ qX5_remember_73) (fun _ h9 => h9) rfl dX5_remember_72 ?_
    refine lv_iconst (v := (1 : Int32)) hx hb dX5_remember_75 (by decide) ?_
    refine lv_iadd hx hb dX5_remember_76 ?_
    refine va_put (D := D) (ci := 5) (v := .int ((g2 0 1) + (1 : Int32))) (ty := .int) (C := RX5) (T := TX5) (N := 13) hx hb hts iX5_remember_X5 tyX5 tyX5_ok nmX5 hown hK.1 hP hD hS 0 rfl rfl 6 (by decide) (hts _ qX5_remember_73) (fun _ h9 => h9) rfl (by decide +kernel) rfl rfl (Nat.le_of_ble_eq_true rfl) dX5_remember_77 (fun H locs hP hD hS => ?_)
    obtain ⟨g3, e3, hf⟩ := z_ltE hf
    have hP : va_P D vwCl (z_md c a g3) H := by rw [e3]; exact hP
    have hD : va_D A (z_md c a g3) := by rw [e3]; exact hD
    clear e3
    exact z_rv (wf := (z_md c a)) hx hb hr hlocks hP hD hS hf dX5_remember_80
  · have hf := z_ifT hf c1
    refine lv_iconst (v := (0 : Int32)) hx hb dX5_remember_9 (by decide) ?_
    refine lv_istore_n (lv' := [(1, .int (0 : Int32)), (0, .ref (a 0))]) hx hb dX5_remember_10 rfl hl (by decide) rfl (fun ls hl => ?_)
    exact L11 N _ _ hf H locs ls hP hD hS (lv_sub hl [1, 0] rfl)
abbrev rmX5_refund : Room := { frames := 1, cells := 0, slots := 0, locals := 23 }
theorem qX5_refund_7 : Cond.fieldLink RX5 7 "ProgramDrumModel" "state" "[I" ∈ wsX5_refund := by decide +kernel
theorem iX5_refund_X5 : ∀ w ∈ wsX50, w ∈ wsX5_refund := by decide +kernel
set_option maxRecDepth 100000 in
set_option maxHeartbeats 4000000 in
theorem kX5_refund (l : Launch) (D : va_G) (c : Nat → ClassId) (N : Nat) (a : Nat → Nat) (sz : Nat) (g : z_R) (p1 : Int32) (r0 : Int32) (g0 : z_R) (hf : fX5_refund N p1 g = some (r0, g0)) : Met l yX5_refund wsX5_refund rmX5_refund (z_Pc D c sz (z_md c a g) [.ref (a 0), .int p1]) (z_Qi D (z_md c a) r0 g0 (va_A (z_md c a g) sz)) 0 0 (va_A (z_md c a g) sz) := by
  refine z_ofM (cc := cX5_refund) (maxL := 3) (ret := (some .int)) (Qf := fun A => z_Qi D (z_md c a) r0 g0 A) (plainFor_of_name (by decide)) rfl (Nat.le_of_ble_eq_true rfl) ?_
  intro p e s m args below meth co A ls hx hb hr hml hts hown hlocks hnm hA hP hK hD hl hsz
  have hl : lv_has ls 3 [(0, .ref (a 0)), (1, .int p1)] := hl
  have hown : s.vm.findClass RX5 = some m.cls := hown
  obtain ⟨H, hH⟩ : ∃ H, H = s.heap := ⟨_, rfl⟩
  have hS : va_S A s.heap H [] := by rw [hH]; exact va_S.rf
  rw [← hH] at hP ⊢
  clear hH
  unfold fX5_refund at hf
  generalize ([] : List Loc) = locs at hS ⊢
  refine lv_aload_n hx hb dX5_refund_0 rfl (lv_at hl 0 rfl) ?_
  refine lv_iload_n hx hb dX5_refund_1 rfl (lv_at hl 1 rfl) ?_
  refine lv_bipush (v := (7 : Int32)) hx hb dX5_refund_2 (by decide) ?_
  obtain ⟨r1, h1, hf⟩ := z_bE hf
  refine z_cVi (As := [.int p1, .int (7 : Int32)]) (rest := []) (wf := (z_md c a)) (g := g) (u0 := g) ⟨hx, hb, hml, hown, hts⟩ (kX5_part l D c N a H.size g p1 (7 : Int32) r1 h1) (cwV 2 hts gX5_refund_X5_part rfl rfl rfl (by decide +kernel) ⟨Nat.le_of_ble_eq_true rfl, Nat.le_of_ble_eq_true rfl⟩) hP hK hD hS hA (ci := 5) (q0 := 0) rfl rfl rfl rfl hl.1 (Nat.le_of_ble_eq_true rfl) rfl dX5_refund_4 ⟨Nat.zero_le _, Nat.zero_le _⟩ (fun H locs hP hD hS => ?_)
  refine lv_istore_n (lv' := [(2, .int r1), (0, .ref (a 0)), (1, .int p1)]) hx hb dX5_refund_7 rfl hl (by decide) rfl (fun ls hl => ?_)
  refine lv_aload_n hx hb dX5_refund_8 rfl (lv_at hl 1 rfl) ?_
  refine va_get (D := D) (ci := 5) (v := .ref (a 1)) (C := RX5) (T := TX5) (N := 13) hx hb hts iX5_refund_X5 hown hK.1 hP 0 rfl rfl 1 (by decide) (hts _ qX5_refund_7) (fun _ h9 => h9) rfl dX5_refund_9 ?_
  refine lv_bipush (v := (9 : Int32)) hx hb dX5_refund_12 (by decide) ?_
  refine lv_aload_n hx hb dX5_refund_14 rfl (lv_at hl 1 rfl) ?_
  refine lv_iload_n hx hb dX5_refund_15 rfl (lv_at hl 2 rfl) ?_
  refine lv_iconst (v := (0 : Int32)) hx hb dX5_refund_16 (by decide) ?_
  obtain ⟨r2, h2, hf⟩ := z_bE hf
  refine z_cVi (As := [.int p1, .int (0 : Int32)]) (rest := [.int (9 : Int32), .ref (a 1)]) (wf := (z_md c a)) (g := g) (u0 := g) ⟨hx, hb, hml, hown, hts⟩ (kX5_part l D c N a H.size g p1 (0 : Int32) r2 h2) (cwV 2 hts gX5_refund_X5_part rfl rfl rfl (by decide +kernel) ⟨Nat.le_of_ble_eq_true rfl, Nat.le_of_ble_eq_true rfl⟩) hP hK hD hS hA (ci := 5) (q0 := 0) rfl rfl rfl rfl hl.1 (Nat.le_of_ble_eq_true rfl) rfl dX5_refund_17 ⟨Nat.zero_le _, Nat.zero_le _⟩ (fun H locs hP hD hS => ?_)
  refine lv_iadd hx hb dX5_refund_20 ?_
  refine lv_dup2_11 hx hb dX5_refund_21 rfl rfl ?_
  obtain ⟨b3, hf⟩ := z_ckE hf
  refine va_iald hx hb hK.1 hP 1 0 rfl rfl (z_inE b3) dX5_refund_22 ?_
  refine lv_iload_n hx hb dX5_refund_23 rfl (lv_at hl 0 rfl) ?_
  refine lv_iadd hx hb dX5_refund_24 ?_
  obtain ⟨b4, hf⟩ := z_ckE hf
  refine va_iast hx hb hK.1 hP hD hS 1 0 rfl rfl (z_inE b4) dX5_refund_25 (fun H locs hP hD hS => ?_)
  obtain ⟨g5, e5, hf⟩ := z_ltE hf
  have hP : va_P D vwCl (z_md c a g5) H := by rw [e5]; exact hP
  have hD : va_D A (z_md c a g5) := by rw [e5]; exact hD
  clear e5
  refine lv_aload_n hx hb dX5_refund_26 rfl (lv_at hl 1 rfl) ?_
  refine lv_iload_n hx hb dX5_refund_27 rfl (lv_at hl 2 rfl) ?_
  refine lv_bipush (v := (7 : Int32)) hx hb dX5_refund_28 (by decide) ?_
  refine lv_iconst (v := (0 : Int32)) hx hb dX5_refund_30 (by decide) ?_
  obtain ⟨g6, h6, hf⟩ := z_bE hf
  refine z_cVv (As := [.int p1, .int (7 : Int32), .int (0 : Int32)]) (rest := []) (wf := (z_md c a)) (g := g5) (u0 := g6) ⟨hx, hb, hml, hown, hts⟩ (kX5_setPart l D c N a H.size g5 p1 (7 : Int32) (0 : Int32) g6 h6) (cwV 3 hts gX5_refund_X5_setPart rfl rfl rfl (by decide +kernel) ⟨Nat.le_of_ble_eq_true rfl, Nat.le_of_ble_eq_true rfl⟩) hP hK hD hS hA (ci := 5) (q0 := 0) rfl rfl rfl rfl hl.1 (Nat.le_of_ble_eq_true rfl) rfl dX5_refund_31 ⟨Nat.zero_le _, Nat.zero_le _⟩ (fun H locs hP hD hS => ?_)
  refine lv_iload_n hx hb dX5_refund_34 rfl (lv_at hl 0 rfl) ?_
  exact z_ri (wf := (z_md c a)) hx hb hr hlocks hP hD hS hf dX5_refund_35
abbrev rmX5_takeOff : Room := { frames := 2, cells := 0, slots := 0, locals := 45 }
theorem qX5_takeOff_7 : Cond.fieldLink RX5 7 "ProgramDrumModel" "state" "[I" ∈ wsX5_takeOff := by decide +kernel
theorem iX5_takeOff_X5 : ∀ w ∈ wsX50, w ∈ wsX5_takeOff := by decide +kernel
set_option maxRecDepth 100000 in
set_option maxHeartbeats 4000000 in
theorem kX5_takeOff (l : Launch) (D : va_G) (c : Nat → ClassId) (N : Nat) (a : Nat → Nat) (sz : Nat) (g : z_R) (g0 : z_R) (hf : fX5_takeOff N g = some g0) : Met l yX5_takeOff wsX5_takeOff rmX5_takeOff (z_Pc D c sz (z_md c a g) [.ref (a 0)]) (z_Qv D (z_md c a) g0 (va_A (z_md c a g) sz)) 0 0 (va_A (z_md c a g) sz) := by
  refine z_ofM (cc := cX5_takeOff) (maxL := 2) (ret := none) (Qf := fun A => z_Qv D (z_md c a) g0 A) (plainFor_of_name (by decide)) rfl (Nat.le_of_ble_eq_true rfl) ?_
  intro p e s m args below meth co A ls hx hb hr hml hts hown hlocks hnm hA hP hK hD hl hsz
  have hl : lv_has ls 2 [(0, .ref (a 0))] := hl
  have hown : s.vm.findClass RX5 = some m.cls := hown
  obtain ⟨H, hH⟩ : ∃ H, H = s.heap := ⟨_, rfl⟩
  have hS : va_S A s.heap H [] := by rw [hH]; exact va_S.rf
  rw [← hH] at hP ⊢
  clear hH
  have L2 : ∀ (fu : Nat) (x1 : Int32) (g : z_R), lX5_takeOff_2 N fu x1 g = some g0 → ∀ (H : Heap) (locs : List Loc) (ls : Array Slot), va_P D vwCl (z_md c a g) H → va_D A (z_md c a g) → va_S A s.heap H locs → lv_has ls 2 [(0, .ref (a 0)), (1, .int x1)] → W p l e rmX5_takeOff s m args below meth co H locs 0 0 (MQ below (z_Qv D (z_md c a) g0 A) args s 0 0 A) (F0 m 2 ls []) := by
    intro fu
    induction fu with
    | zero =>
      intro x1 g hf
      have hf : (none : Option (z_R)) = some _ := hf
      cases hf
    | succ fu ih =>
      intro x1 g hf H locs ls hP hD hS hl
      rw [lX5_takeOff_2.eq_2] at hf
      refine lv_iload_n hx hb dX5_takeOff_2 rfl (lv_at hl 1 rfl) ?_
      refine lv_aload_n hx hb dX5_takeOff_3 rfl (lv_at hl 0 rfl) ?_
      refine va_get (D := D) (ci := 5) (v := .ref (a 1)) (C := RX5) (T := TX5) (N := 13) hx hb hts iX5_takeOff_X5 hown hK.1 hP 0 rfl rfl 1 (by decide) (hts _ qX5_takeOff_7) (fun _ h9 => h9) rfl dX5_takeOff_4 ?_
      refine lv_iconst (v := (2 : Int32)) hx hb dX5_takeOff_7 (by decide) ?_
      refine va_iald hx hb hK.1 hP 1 0 rfl rfl (z_inE (by decide)) dX5_takeOff_8 ?_
      refine lv_icmp_ge (tgt := 39) hx hb dX5_takeOff_9 (by decide) (fun c1 => ?_) (fun c1 => ?_)
      · have hf := z_ifT hf c1
        exact z_rv (wf := (z_md c a)) hx hb hr hlocks hP hD hS hf dX5_takeOff_39
      · have hf := z_ifF hf c1
        refine lv_aload_n hx hb dX5_takeOff_12 rfl (lv_at hl 0 rfl) ?_
        refine lv_iload_n hx hb dX5_takeOff_13 rfl (lv_at hl 1 rfl) ?_
        obtain ⟨r2, g2, h2, hf⟩ := z_b2E hf
        refine z_cVi (As := [.int x1]) (rest := []) (wf := (z_md c a)) (g := g) (u0 := g2) ⟨hx, hb, hml, hown, hts⟩ (kX5_refund l D c N a H.size g x1 r2 g2 h2) (cwV 1 hts gX5_takeOff_X5_refund rfl rfl rfl (by decide +kernel) ⟨Nat.le_of_ble_eq_true rfl, Nat.le_of_ble_eq_true rfl⟩) hP hK hD hS hA (ci := 5) (q0 := 0) rfl rfl rfl rfl hl.1 (Nat.le_of_ble_eq_true rfl) rfl dX5_takeOff_14 ⟨Nat.zero_le _, Nat.zero_le _⟩ (fun H locs hP hD hS => ?_)
        refine lv_pop hx hb dX5_takeOff_17 rfl ?_
        refine lv_aload_n hx hb dX5_takeOff_18 rfl (lv_at hl 0 rfl) ?_
        refine lv_iload_n hx hb dX5_takeOff_19 rfl (lv_at hl 1 rfl) ?_
        refine lv_iconst (v := (5 : Int32)) hx hb dX5_takeOff_20 (by decide) ?_
        refine lv_iconst (v := (-1 : Int32)) hx hb dX5_takeOff_21 (by decide) ?_
        obtain ⟨g3, h3, hf⟩ := z_bE hf
        refine z_cVv (As := [.int x1, .int (5 : Int32), .int (-1 : Int32)]) (rest := []) (wf := (z_md c a)) (g := g2) (u0 := g3) ⟨hx, hb, hml, hown, hts⟩ (kX5_setPart l D c N a H.size g2 x1 (5 : Int32) (-1 : Int32) g3 h3) (cwV 3 hts gX5_takeOff_X5_setPart rfl rfl rfl (by decide +kernel) ⟨Nat.le_of_ble_eq_true rfl, Nat.le_of_ble_eq_true rfl⟩) hP hK hD hS hA (ci := 5) (q0 := 0) rfl rfl rfl rfl hl.1 (Nat.le_of_ble_eq_true rfl) rfl dX5_takeOff_22 ⟨Nat.zero_le _, Nat.zero_le _⟩ (fun H locs hP hD hS => ?_)
        refine lv_aload_n hx hb dX5_takeOff_25 rfl (lv_at hl 0 rfl) ?_
        refine lv_iload_n hx hb dX5_takeOff_26 rfl (lv_at hl 1 rfl) ?_
        refine lv_bipush (v := (6 : Int32)) hx hb dX5_takeOff_27 (by decide) ?_
        refine lv_iconst (v := (-1 : Int32)) hx hb dX5_takeOff_29 (by decide) ?_
        obtain ⟨g4, h4, hf⟩ := z_bE hf
        refine z_cVv (As := [.int x1, .int (6 : Int32), .int (-1 : Int32)]) (rest := []) (wf := (z_md c a)) (g := g3) (u0 := g4) ⟨hx, hb, hml, hown, hts⟩ (kX5_setPart l D c N a H.size g3 x1 (6 : Int32) (-1 : Int32) g4 h4) (cwV 3 hts gX5_takeOff_X5_setPart rfl rfl rfl (by decide +kernel) ⟨Nat.le_of_ble_eq_true rfl, Nat.le_of_ble_eq_true rfl⟩) hP hK hD hS hA (ci := 5) (q0 := 0) rfl rfl rfl rfl hl.1 (Nat.le_of_ble_eq_true rfl) rfl dX5_takeOff_30 ⟨Nat.zero_le _, Nat.zero_le _⟩ (fun H locs hP hD hS => ?_)
        refine lv_iinc (v := (x1 + (1 : Int32))) (lv' := [(1, .int (x1 + (1 : Int32))), (0, .ref (a 0))]) hx hb dX5_takeOff_33 hl (k := 1) rfl rfl (by decide) rfl (fun ls hl => ?_)
        refine lv_goto (tgt := 2) hx hb dX5_takeOff_36 (by decide) ?_
        exact ih _ _ hf H locs ls hP hD hS (lv_sub hl [1, 0] rfl)
  unfold fX5_takeOff at hf
  generalize ([] : List Loc) = locs at hS ⊢
  refine lv_iconst (v := (0 : Int32)) hx hb dX5_takeOff_0 (by decide) ?_
  refine lv_istore_n (lv' := [(1, .int (0 : Int32)), (0, .ref (a 0))]) hx hb dX5_takeOff_1 rfl hl (by decide) rfl (fun ls hl => ?_)
  exact L2 N _ _ hf H locs ls hP hD hS (lv_sub hl [1, 0] rfl)
abbrev rmX5_setDrum : Room := { frames := 3, cells := 0, slots := 0, locals := 66 }
theorem qX5_setDrum_37 : Cond.fieldLink RX5 37 "ProgramDrumModel" "thrown" "I" ∈ wsX5_setDrum := by decide +kernel
theorem iX5_setDrum_X5 : ∀ w ∈ wsX50, w ∈ wsX5_setDrum := by decide +kernel
theorem qX5_setDrum_7 : Cond.fieldLink RX5 7 "ProgramDrumModel" "state" "[I" ∈ wsX5_setDrum := by decide +kernel
set_option maxRecDepth 100000 in
set_option maxHeartbeats 4000000 in
theorem kX5_setDrum (l : Launch) (D : va_G) (c : Nat → ClassId) (N : Nat) (a : Nat → Nat) (sz : Nat) (g : z_R) (p1 : Int32) (r0 : Int32) (g0 : z_R) (hf : fX5_setDrum N p1 g = some (r0, g0)) : Met l yX5_setDrum wsX5_setDrum rmX5_setDrum (z_Pc D c sz (z_md c a g) [.ref (a 0), .int p1]) (z_Qi D (z_md c a) r0 g0 (va_A (z_md c a g) sz)) 0 0 (va_A (z_md c a g) sz) := by
  refine z_ofM (cc := cX5_setDrum) (maxL := 3) (ret := (some .int)) (Qf := fun A => z_Qi D (z_md c a) r0 g0 A) (plainFor_of_name (by decide)) rfl (Nat.le_of_ble_eq_true rfl) ?_
  intro p e s m args below meth co A ls hx hb hr hml hts hown hlocks hnm hA hP hK hD hl hsz
  have hl : lv_has ls 3 [(0, .ref (a 0)), (1, .int p1)] := hl
  have hown : s.vm.findClass RX5 = some m.cls := hown
  obtain ⟨H, hH⟩ : ∃ H, H = s.heap := ⟨_, rfl⟩
  have hS : va_S A s.heap H [] := by rw [hH]; exact va_S.rf
  rw [← hH] at hP ⊢
  clear hH
  unfold fX5_setDrum at hf
  generalize ([] : List Loc) = locs at hS ⊢
  refine lv_aload_n hx hb dX5_setDrum_0 rfl (lv_at hl 0 rfl) ?_
  refine lv_iload_n hx hb dX5_setDrum_1 rfl (lv_at hl 1 rfl) ?_
  refine lv_bipush (v := (6 : Int32)) hx hb dX5_setDrum_2 (by decide) ?_
  refine lv_bipush (v := (40 : Int32)) hx hb dX5_setDrum_4 (by decide) ?_
  obtain ⟨r1, h1, hf⟩ := z_bE hf
  refine z_cSi (As := [.int p1, .int (6 : Int32), .int (40 : Int32)]) (rest := [.ref (a 0)]) ⟨hx, hb, hml, hown, hts⟩ (kX5_within l D c N H.size p1 (6 : Int32) (40 : Int32) r1 h1) (va_cwS 3 hts gX5_setDrum_X5_within rfl rfl rfl (by decide +kernel) ⟨Nat.le_of_ble_eq_true rfl, Nat.le_of_ble_eq_true rfl⟩) hP hK hS hA rfl hl.1 (Nat.le_of_ble_eq_true rfl) rfl dX5_setDrum_6 ⟨Nat.zero_le _, Nat.zero_le _⟩ (fun H locs hP hS => ?_)
  refine lv_if_eq (tgt := 16) hx hb dX5_setDrum_9 (by decide) (fun c2 => ?_) (fun c2 => ?_)
  · have hf := z_ifT hf c2
    refine lv_iconst (v := (1 : Int32)) hx hb dX5_setDrum_16 (by decide) ?_
    refine va_put (D := D) (ci := 5) (v := .int (1 : Int32)) (ty := .int) (C := RX5) (T := TX5) (N := 13) hx hb hts iX5_setDrum_X5 tyX5 tyX5_ok nmX5 hown hK.1 hP hD hS 0 rfl rfl 0 (by decide) (hts _ qX5_setDrum_37) (fun _ h9 => h9) rfl (by decide +kernel) rfl rfl (Nat.le_of_ble_eq_true rfl) dX5_setDrum_17 (fun H locs hP hD hS => ?_)
    obtain ⟨g3, e3, hf⟩ := z_ltE hf
    have hP : va_P D vwCl (z_md c a g3) H := by rw [e3]; exact hP
    have hD : va_D A (z_md c a g3) := by rw [e3]; exact hD
    clear e3
    refine lv_aload_n hx hb dX5_setDrum_20 rfl (lv_at hl 0 rfl) ?_
    refine va_get (D := D) (ci := 5) (v := .int (g3 0 0)) (C := RX5) (T := TX5) (N := 13) hx hb hts iX5_setDrum_X5 hown hK.1 hP 0 rfl rfl 0 (by decide) (hts _ qX5_setDrum_37) (fun _ h9 => h9) rfl dX5_setDrum_21 ?_
    refine lv_if_le (tgt := 29) hx hb dX5_setDrum_24 (by decide) (fun c4 => ?_) (fun c4 => ?_)
    · have hf := z_ifT hf c4
      refine lv_aload_n hx hb dX5_setDrum_29 rfl (lv_at hl 0 rfl) ?_
      obtain ⟨g5, h5, hf⟩ := z_bE hf
      refine z_cVv (As := []) (rest := []) (wf := (z_md c a)) (g := g3) (u0 := g5) ⟨hx, hb, hml, hown, hts⟩ (kX5_remember l D c N a H.size g3  g5 h5) (cwV 0 hts gX5_setDrum_X5_remember rfl rfl rfl (by decide +kernel) ⟨Nat.le_of_ble_eq_true rfl, Nat.le_of_ble_eq_true rfl⟩) hP hK hD hS hA (ci := 5) (q0 := 0) rfl rfl rfl rfl hl.1 (Nat.le_of_ble_eq_true rfl) rfl dX5_setDrum_30 ⟨Nat.zero_le _, Nat.zero_le _⟩ (fun H locs hP hD hS => ?_)
      refine lv_aload_n hx hb dX5_setDrum_33 rfl (lv_at hl 0 rfl) ?_
      refine va_get (D := D) (ci := 5) (v := .ref (a 1)) (C := RX5) (T := TX5) (N := 13) hx hb hts iX5_setDrum_X5 hown hK.1 hP 0 rfl rfl 1 (by decide) (hts _ qX5_setDrum_7) (fun _ h9 => h9) rfl dX5_setDrum_34 ?_
      refine lv_iconst (v := (0 : Int32)) hx hb dX5_setDrum_37 (by decide) ?_
      refine va_iald hx hb hK.1 hP 1 0 rfl rfl (z_inE (by decide)) dX5_setDrum_38 ?_
      refine lv_istore_n (lv' := [(2, .int (g5 1 ((0 : Int32)).toNatClampNeg)), (0, .ref (a 0)), (1, .int p1)]) hx hb dX5_setDrum_39 rfl hl (by decide) rfl (fun ls hl => ?_)
      refine lv_aload_n hx hb dX5_setDrum_40 rfl (lv_at hl 1 rfl) ?_
      obtain ⟨g6, h6, hf⟩ := z_bE hf
      refine z_cVv (As := []) (rest := []) (wf := (z_md c a)) (g := g5) (u0 := g6) ⟨hx, hb, hml, hown, hts⟩ (kX5_takeOff l D c N a H.size g5  g6 h6) (cwV 0 hts gX5_setDrum_X5_takeOff rfl rfl rfl (by decide +kernel) ⟨Nat.le_of_ble_eq_true rfl, Nat.le_of_ble_eq_true rfl⟩) hP hK hD hS hA (ci := 5) (q0 := 0) rfl rfl rfl rfl hl.1 (Nat.le_of_ble_eq_true rfl) rfl dX5_setDrum_41 ⟨Nat.zero_le _, Nat.zero_le _⟩ (fun H locs hP hD hS => ?_)
      refine lv_aload_n hx hb dX5_setDrum_44 rfl (lv_at hl 1 rfl) ?_
      refine va_get (D := D) (ci := 5) (v := .ref (a 1)) (C := RX5) (T := TX5) (N := 13) hx hb hts iX5_setDrum_X5 hown hK.1 hP 0 rfl rfl 1 (by decide) (hts _ qX5_setDrum_7) (fun _ h9 => h9) rfl dX5_setDrum_45 ?_
      refine lv_iconst (v := (0 : Int32)) hx hb dX5_setDrum_48 (by decide) ?_
      refine lv_iload_n hx hb dX5_setDrum_49 rfl (lv_at hl 2 rfl) ?_
      refine va_iast hx hb hK.1 hP hD hS 1 0 rfl rfl (z_inE (by decide)) dX5_setDrum_50 (fun H locs hP hD hS => ?_)
      obtain ⟨g7, e7, hf⟩ := z_ltE hf
      have hP : va_P D vwCl (z_md c a g7) H := by rw [e7]; exact hP
      have hD : va_D A (z_md c a g7) := by rw [e7]; exact hD
      clear e7
      refine lv_iload_n hx hb dX5_setDrum_51 rfl (lv_at hl 0 rfl) ?_
      exact z_ri (wf := (z_md c a)) hx hb hr hlocks hP hD hS hf dX5_setDrum_52
    · have hf := z_ifF hf c4
      refine lv_iconst (v := (0 : Int32)) hx hb dX5_setDrum_27 (by decide) ?_
      exact z_ri (wf := (z_md c a)) hx hb hr hlocks hP hD hS hf dX5_setDrum_28
  · have hf := z_ifF hf c2
    refine lv_iconst (v := (0 : Int32)) hx hb dX5_setDrum_12 (by decide) ?_
    refine lv_goto (tgt := 17) hx hb dX5_setDrum_13 (by decide) ?_
    refine va_put (D := D) (ci := 5) (v := .int (0 : Int32)) (ty := .int) (C := RX5) (T := TX5) (N := 13) hx hb hts iX5_setDrum_X5 tyX5 tyX5_ok nmX5 hown hK.1 hP hD hS 0 rfl rfl 0 (by decide) (hts _ qX5_setDrum_37) (fun _ h9 => h9) rfl (by decide +kernel) rfl rfl (Nat.le_of_ble_eq_true rfl) dX5_setDrum_17 (fun H locs hP hD hS => ?_)
    obtain ⟨g8, e8, hf⟩ := z_ltE hf
    have hP : va_P D vwCl (z_md c a g8) H := by rw [e8]; exact hP
    have hD : va_D A (z_md c a g8) := by rw [e8]; exact hD
    clear e8
    refine lv_aload_n hx hb dX5_setDrum_20 rfl (lv_at hl 0 rfl) ?_
    refine va_get (D := D) (ci := 5) (v := .int (g8 0 0)) (C := RX5) (T := TX5) (N := 13) hx hb hts iX5_setDrum_X5 hown hK.1 hP 0 rfl rfl 0 (by decide) (hts _ qX5_setDrum_37) (fun _ h9 => h9) rfl dX5_setDrum_21 ?_
    refine lv_if_le (tgt := 29) hx hb dX5_setDrum_24 (by decide) (fun c9 => ?_) (fun c9 => ?_)
    · have hf := z_ifT hf c9
      refine lv_aload_n hx hb dX5_setDrum_29 rfl (lv_at hl 0 rfl) ?_
      obtain ⟨g10, h10, hf⟩ := z_bE hf
      refine z_cVv (As := []) (rest := []) (wf := (z_md c a)) (g := g8) (u0 := g10) ⟨hx, hb, hml, hown, hts⟩ (kX5_remember l D c N a H.size g8  g10 h10) (cwV 0 hts gX5_setDrum_X5_remember rfl rfl rfl (by decide +kernel) ⟨Nat.le_of_ble_eq_true rfl, Nat.le_of_ble_eq_true rfl⟩) hP hK hD hS hA (ci := 5) (q0 := 0) rfl rfl rfl rfl hl.1 (Nat.le_of_ble_eq_true rfl) rfl dX5_setDrum_30 ⟨Nat.zero_le _, Nat.zero_le _⟩ (fun H locs hP hD hS => ?_)
      refine lv_aload_n hx hb dX5_setDrum_33 rfl (lv_at hl 0 rfl) ?_
      refine va_get (D := D) (ci := 5) (v := .ref (a 1)) (C := RX5) (T := TX5) (N := 13) hx hb hts iX5_setDrum_X5 hown hK.1 hP 0 rfl rfl 1 (by decide) (hts _ qX5_setDrum_7) (fun _ h9 => h9) rfl dX5_setDrum_34 ?_
      refine lv_iconst (v := (0 : Int32)) hx hb dX5_setDrum_37 (by decide) ?_
      refine va_iald hx hb hK.1 hP 1 0 rfl rfl (z_inE (by decide)) dX5_setDrum_38 ?_
      refine lv_istore_n (lv' := [(2, .int (g10 1 ((0 : Int32)).toNatClampNeg)), (0, .ref (a 0)), (1, .int p1)]) hx hb dX5_setDrum_39 rfl hl (by decide) rfl (fun ls hl => ?_)
      refine lv_aload_n hx hb dX5_setDrum_40 rfl (lv_at hl 1 rfl) ?_
      obtain ⟨g11, h11, hf⟩ := z_bE hf
      refine z_cVv (As := []) (rest := []) (wf := (z_md c a)) (g := g10) (u0 := g11) ⟨hx, hb, hml, hown, hts⟩ (kX5_takeOff l D c N a H.size g10  g11 h11) (cwV 0 hts gX5_setDrum_X5_takeOff rfl rfl rfl (by decide +kernel) ⟨Nat.le_of_ble_eq_true rfl, Nat.le_of_ble_eq_true rfl⟩) hP hK hD hS hA (ci := 5) (q0 := 0) rfl rfl rfl rfl hl.1 (Nat.le_of_ble_eq_true rfl) rfl dX5_setDrum_41 ⟨Nat.zero_le _, Nat.zero_le _⟩ (fun H locs hP hD hS => ?_)
      refine lv_aload_n hx hb dX5_setDrum_44 rfl (lv_at hl 1 rfl) ?_
      refine va_get (D := D) (ci := 5) (v := .ref (a 1)) (C := RX5) (T := TX5) (N := 13) hx hb hts iX5_setDrum_X5 hown hK.1 hP 0 rfl rfl 1 (by decide) (hts _ qX5_setDrum_7) (fun _ h9 => h9) rfl dX5_setDrum_45 ?_
      refine lv_iconst (v := (0 : Int32)) hx hb dX5_setDrum_48 (by decide) ?_
      refine lv_iload_n hx hb dX5_setDrum_49 rfl (lv_at hl 2 rfl) ?_
      refine va_iast hx hb hK.1 hP hD hS 1 0 rfl rfl (z_inE (by decide)) dX5_setDrum_50 (fun H locs hP hD hS => ?_)
      obtain ⟨g12, e12, hf⟩ := z_ltE hf
      have hP : va_P D vwCl (z_md c a g12) H := by rw [e12]; exact hP
      have hD : va_D A (z_md c a g12) := by rw [e12]; exact hD
      clear e12
      refine lv_iload_n hx hb dX5_setDrum_51 rfl (lv_at hl 0 rfl) ?_
      exact z_ri (wf := (z_md c a)) hx hb hr hlocks hP hD hS hf dX5_setDrum_52
    · have hf := z_ifF hf c9
      refine lv_iconst (v := (0 : Int32)) hx hb dX5_setDrum_27 (by decide) ?_
      exact z_ri (wf := (z_md c a)) hx hb hr hlocks hP hD hS hf dX5_setDrum_28
abbrev rmX5_addOrder : Room := { frames := 3, cells := 0, slots := 0, locals := 63 }
theorem qX5_addOrder_37 : Cond.fieldLink RX5 37 "ProgramDrumModel" "thrown" "I" ∈ wsX5_addOrder := by decide +kernel
theorem iX5_addOrder_X5 : ∀ w ∈ wsX50, w ∈ wsX5_addOrder := by decide +kernel
theorem qX5_addOrder_7 : Cond.fieldLink RX5 7 "ProgramDrumModel" "state" "[I" ∈ wsX5_addOrder := by decide +kernel
set_option maxRecDepth 100000 in
set_option maxHeartbeats 4000000 in
theorem kX5_addOrder (l : Launch) (D : va_G) (c : Nat → ClassId) (N : Nat) (a : Nat → Nat) (sz : Nat) (g : z_R) (p1 : Int32) (p2 : Int32) (p3 : Int32) (p4 : Int32) (p5 : Int32) (r0 : Int32) (g0 : z_R) (hf : fX5_addOrder N p1 p2 p3 p4 p5 g = some (r0, g0)) : Met l yX5_addOrder wsX5_addOrder rmX5_addOrder (z_Pc D c sz (z_md c a g) [.ref (a 0), .int p1, .int p2, .int p3, .int p4, .int p5]) (z_Qi D (z_md c a) r0 g0 (va_A (z_md c a g) sz)) 0 0 (va_A (z_md c a g) sz) := by
  refine z_ofM (cc := cX5_addOrder) (maxL := 8) (ret := (some .int)) (Qf := fun A => z_Qi D (z_md c a) r0 g0 A) (plainFor_of_name (by decide)) rfl (Nat.le_of_ble_eq_true rfl) ?_
  intro p e s m args below meth co A ls hx hb hr hml hts hown hlocks hnm hA hP hK hD hl hsz
  have hl : lv_has ls 8 [(0, .ref (a 0)), (1, .int p1), (2, .int p2), (3, .int p3), (4, .int p4), (5, .int p5)] := hl
  have hown : s.vm.findClass RX5 = some m.cls := hown
  obtain ⟨H, hH⟩ : ∃ H, H = s.heap := ⟨_, rfl⟩
  have hS : va_S A s.heap H [] := by rw [hH]; exact va_S.rf
  rw [← hH] at hP ⊢
  clear hH
  unfold fX5_addOrder at hf
  generalize ([] : List Loc) = locs at hS ⊢
  refine lv_iconst (v := (0 : Int32)) hx hb dX5_addOrder_0 (by decide) ?_
  refine lv_iload_n hx hb dX5_addOrder_1 rfl (lv_at hl 1 rfl) ?_
  obtain ⟨r1, h1, hf⟩ := z_bE hf
  refine z_cSi (As := [.int (0 : Int32), .int p1]) (rest := []) ⟨hx, hb, hml, hown, hts⟩ (kX5_isInRange l D c N H.size (0 : Int32) p1 r1 h1) (va_cwS 2 hts gX5_addOrder_X5_isInRange rfl rfl rfl (by decide +kernel) ⟨Nat.le_of_ble_eq_true rfl, Nat.le_of_ble_eq_true rfl⟩) hP hK hS hA rfl hl.1 (Nat.le_of_ble_eq_true rfl) rfl dX5_addOrder_2 ⟨Nat.zero_le _, Nat.zero_le _⟩ (fun H locs hP hS => ?_)
  refine lv_if_eq (tgt := 46) hx hb dX5_addOrder_5 (by decide) (fun c2 => ?_) (fun c2 => ?_)
  · have hf := z_ifT hf c2
    refine lv_iconst (v := (0 : Int32)) hx hb dX5_addOrder_46 (by decide) ?_
    refine lv_istore (lv' := [(6, .int (0 : Int32)), (0, .ref (a 0)), (1, .int p1), (2, .int p2), (3, .int p3), (4, .int p4), (5, .int p5)]) hx hb dX5_addOrder_47 hl (by decide) rfl (fun ls hl => ?_)
    refine lv_aload_n hx hb dX5_addOrder_49 rfl (lv_at hl 1 rfl) ?_
    refine lv_iload hx hb dX5_addOrder_50 (lv_at hl 0 rfl) ?_
    refine lv_if_ne (tgt := 59) hx hb dX5_addOrder_52 (by decide) (fun c => absurd c (by decide)) (fun _ => ?_)
    refine lv_iconst (v := (1 : Int32)) hx hb dX5_addOrder_55 (by decide) ?_
    refine lv_goto (tgt := 75) hx hb dX5_addOrder_56 (by decide) ?_
    refine va_put (D := D) (ci := 5) (v := .int (1 : Int32)) (ty := .int) (C := RX5) (T := TX5) (N := 13) hx hb hts iX5_addOrder_X5 tyX5 tyX5_ok nmX5 hown hK.1 hP hD hS 0 rfl rfl 0 (by decide) (hts _ qX5_addOrder_37) (fun _ h9 => h9) rfl (by decide +kernel) rfl rfl (Nat.le_of_ble_eq_true rfl) dX5_addOrder_75 (fun H locs hP hD hS => ?_)
    obtain ⟨g3, e3, hf⟩ := z_ltE hf
    have hP : va_P D vwCl (z_md c a g3) H := by rw [e3]; exact hP
    have hD : va_D A (z_md c a g3) := by rw [e3]; exact hD
    clear e3
    refine lv_aload_n hx hb dX5_addOrder_78 rfl (lv_at hl 1 rfl) ?_
    refine va_get (D := D) (ci := 5) (v := .int (g3 0 0)) (C := RX5) (T := TX5) (N := 13) hx hb hts iX5_addOrder_X5 hown hK.1 hP 0 rfl rfl 0 (by decide) (hts _ qX5_addOrder_37) (fun _ h9 => h9) rfl dX5_addOrder_79 ?_
    refine lv_if_le (tgt := 87) hx hb dX5_addOrder_82 (by decide) (fun c4 => ?_) (fun c4 => ?_)
    · have hf := z_ifT hf c4
      refine lv_aload_n hx hb dX5_addOrder_87 rfl (lv_at hl 1 rfl) ?_
      obtain ⟨g5, h5, hf⟩ := z_bE hf
      refine z_cVv (As := []) (rest := []) (wf := (z_md c a)) (g := g3) (u0 := g5) ⟨hx, hb, hml, hown, hts⟩ (kX5_remember l D c N a H.size g3  g5 h5) (cwV 0 hts gX5_addOrder_X5_remember rfl rfl rfl (by decide +kernel) ⟨Nat.le_of_ble_eq_true rfl, Nat.le_of_ble_eq_true rfl⟩) hP hK hD hS hA (ci := 5) (q0 := 0) rfl rfl rfl rfl hl.1 (Nat.le_of_ble_eq_true rfl) rfl dX5_addOrder_88 ⟨Nat.zero_le _, Nat.zero_le _⟩ (fun H locs hP hD hS => ?_)
      refine lv_aload_n hx hb dX5_addOrder_91 rfl (lv_at hl 1 rfl) ?_
      refine va_get (D := D) (ci := 5) (v := .ref (a 1)) (C := RX5) (T := TX5) (N := 13) hx hb hts iX5_addOrder_X5 hown hK.1 hP 0 rfl rfl 1 (by decide) (hts _ qX5_addOrder_7) (fun _ h9 => h9) rfl dX5_addOrder_92 ?_
      refine lv_iconst (v := (2 : Int32)) hx hb dX5_addOrder_95 (by decide) ?_
      refine va_iald hx hb hK.1 hP 1 0 rfl rfl (z_inE (by decide)) dX5_addOrder_96 ?_
      refine lv_istore (lv' := [(7, .int (g5 1 ((2 : Int32)).toNatClampNeg)), (6, .int (0 : Int32)), (0, .ref (a 0)), (1, .int p1), (2, .int p2), (3, .int p3), (4, .int p4), (5, .int p5)]) hx hb dX5_addOrder_97 hl (by decide) rfl (fun ls hl => ?_)
      refine lv_aload_n hx hb dX5_addOrder_99 rfl (lv_at hl 2 rfl) ?_
      refine lv_iload hx hb dX5_addOrder_100 (lv_at hl 0 rfl) ?_
      refine lv_iconst (v := (0 : Int32)) hx hb dX5_addOrder_102 (by decide) ?_
      refine lv_iload_n hx hb dX5_addOrder_103 rfl (lv_at hl 3 rfl) ?_
      obtain ⟨g6, h6, hf⟩ := z_bE hf
      refine z_cVv (As := [.int (g5 1 ((2 : Int32)).toNatClampNeg), .int (0 : Int32), .int p1]) (rest := []) (wf := (z_md c a)) (g := g5) (u0 := g6) ⟨hx, hb, hml, hown, hts⟩ (kX5_setPart l D c N a H.size g5 (g5 1 ((2 : Int32)).toNatClampNeg) (0 : Int32) p1 g6 h6) (cwV 3 hts gX5_addOrder_X5_setPart rfl rfl rfl (by decide +kernel) ⟨Nat.le_of_ble_eq_true rfl, Nat.le_of_ble_eq_true rfl⟩) hP hK hD hS hA (ci := 5) (q0 := 0) rfl rfl rfl rfl hl.1 (Nat.le_of_ble_eq_true rfl) rfl dX5_addOrder_104 ⟨Nat.zero_le _, Nat.zero_le _⟩ (fun H locs hP hD hS => ?_)
      refine lv_aload_n hx hb dX5_addOrder_107 rfl (lv_at hl 2 rfl) ?_
      refine lv_iload hx hb dX5_addOrder_108 (lv_at hl 0 rfl) ?_
      refine lv_iconst (v := (1 : Int32)) hx hb dX5_addOrder_110 (by decide) ?_
      refine lv_iload_n hx hb dX5_addOrder_111 rfl (lv_at hl 4 rfl) ?_
      obtain ⟨g7, h7, hf⟩ := z_bE hf
      refine z_cVv (As := [.int (g5 1 ((2 : Int32)).toNatClampNeg), .int (1 : Int32), .int p2]) (rest := []) (wf := (z_md c a)) (g := g6) (u0 := g7) ⟨hx, hb, hml, hown, hts⟩ (kX5_setPart l D c N a H.size g6 (g5 1 ((2 : Int32)).toNatClampNeg) (1 : Int32) p2 g7 h7) (cwV 3 hts gX5_addOrder_X5_setPart rfl rfl rfl (by decide +kernel) ⟨Nat.le_of_ble_eq_true rfl, Nat.le_of_ble_eq_true rfl⟩) hP hK hD hS hA (ci := 5) (q0 := 0) rfl rfl rfl rfl hl.1 (Nat.le_of_ble_eq_true rfl) rfl dX5_addOrder_112 ⟨Nat.zero_le _, Nat.zero_le _⟩ (fun H locs hP hD hS => ?_)
      refine lv_aload_n hx hb dX5_addOrder_115 rfl (lv_at hl 2 rfl) ?_
      refine lv_iload hx hb dX5_addOrder_116 (lv_at hl 0 rfl) ?_
      refine lv_iconst (v := (2 : Int32)) hx hb dX5_addOrder_118 (by decide) ?_
      refine lv_iload_n hx hb dX5_addOrder_119 rfl (lv_at hl 5 rfl) ?_
      obtain ⟨g8, h8, hf⟩ := z_bE hf
      refine z_cVv (As := [.int (g5 1 ((2 : Int32)).toNatClampNeg), .int (2 : Int32), .int p3]) (rest := []) (wf := (z_md c a)) (g := g7) (u0 := g8) ⟨hx, hb, hml, hown, hts⟩ (kX5_setPart l D c N a H.size g7 (g5 1 ((2 : Int32)).toNatClampNeg) (2 : Int32) p3 g8 h8) (cwV 3 hts gX5_addOrder_X5_setPart rfl rfl rfl (by decide +kernel) ⟨Nat.le_of_ble_eq_true rfl, Nat.le_of_ble_eq_true rfl⟩) hP hK hD hS hA (ci := 5) (q0 := 0) rfl rfl rfl rfl hl.1 (Nat.le_of_ble_eq_true rfl) rfl dX5_addOrder_120 ⟨Nat.zero_le _, Nat.zero_le _⟩ (fun H locs hP hD hS => ?_)
      refine lv_aload_n hx hb dX5_addOrder_123 rfl (lv_at hl 2 rfl) ?_
      refine lv_iload hx hb dX5_addOrder_124 (lv_at hl 0 rfl) ?_
      refine lv_iconst (v := (3 : Int32)) hx hb dX5_addOrder_126 (by decide) ?_
      refine lv_iload hx hb dX5_addOrder_127 (lv_at hl 6 rfl) ?_
      obtain ⟨g9, h9, hf⟩ := z_bE hf
      refine z_cVv (As := [.int (g5 1 ((2 : Int32)).toNatClampNeg), .int (3 : Int32), .int p4]) (rest := []) (wf := (z_md c a)) (g := g8) (u0 := g9) ⟨hx, hb, hml, hown, hts⟩ (kX5_setPart l D c N a H.size g8 (g5 1 ((2 : Int32)).toNatClampNeg) (3 : Int32) p4 g9 h9) (cwV 3 hts gX5_addOrder_X5_setPart rfl rfl rfl (by decide +kernel) ⟨Nat.le_of_ble_eq_true rfl, Nat.le_of_ble_eq_true rfl⟩) hP hK hD hS hA (ci := 5) (q0 := 0) rfl rfl rfl rfl hl.1 (Nat.le_of_ble_eq_true rfl) rfl dX5_addOrder_129 ⟨Nat.zero_le _, Nat.zero_le _⟩ (fun H locs hP hD hS => ?_)
      refine lv_aload_n hx hb dX5_addOrder_132 rfl (lv_at hl 2 rfl) ?_
      refine lv_iload hx hb dX5_addOrder_133 (lv_at hl 0 rfl) ?_
      refine lv_iconst (v := (4 : Int32)) hx hb dX5_addOrder_135 (by decide) ?_
      refine lv_iload hx hb dX5_addOrder_136 (lv_at hl 7 rfl) ?_
      obtain ⟨g10, h10, hf⟩ := z_bE hf
      refine z_cVv (As := [.int (g5 1 ((2 : Int32)).toNatClampNeg), .int (4 : Int32), .int p5]) (rest := []) (wf := (z_md c a)) (g := g9) (u0 := g10) ⟨hx, hb, hml, hown, hts⟩ (kX5_setPart l D c N a H.size g9 (g5 1 ((2 : Int32)).toNatClampNeg) (4 : Int32) p5 g10 h10) (cwV 3 hts gX5_addOrder_X5_setPart rfl rfl rfl (by decide +kernel) ⟨Nat.le_of_ble_eq_true rfl, Nat.le_of_ble_eq_true rfl⟩) hP hK hD hS hA (ci := 5) (q0 := 0) rfl rfl rfl rfl hl.1 (Nat.le_of_ble_eq_true rfl) rfl dX5_addOrder_138 ⟨Nat.zero_le _, Nat.zero_le _⟩ (fun H locs hP hD hS => ?_)
      refine lv_aload_n hx hb dX5_addOrder_141 rfl (lv_at hl 2 rfl) ?_
      refine lv_iload hx hb dX5_addOrder_142 (lv_at hl 0 rfl) ?_
      refine lv_iconst (v := (5 : Int32)) hx hb dX5_addOrder_144 (by decide) ?_
      refine lv_iconst (v := (-1 : Int32)) hx hb dX5_addOrder_145 (by decide) ?_
      obtain ⟨g11, h11, hf⟩ := z_bE hf
      refine z_cVv (As := [.int (g5 1 ((2 : Int32)).toNatClampNeg), .int (5 : Int32), .int (-1 : Int32)]) (rest := []) (wf := (z_md c a)) (g := g10) (u0 := g11) ⟨hx, hb, hml, hown, hts⟩ (kX5_setPart l D c N a H.size g10 (g5 1 ((2 : Int32)).toNatClampNeg) (5 : Int32) (-1 : Int32) g11 h11) (cwV 3 hts gX5_addOrder_X5_setPart rfl rfl rfl (by decide +kernel) ⟨Nat.le_of_ble_eq_true rfl, Nat.le_of_ble_eq_true rfl⟩) hP hK hD hS hA (ci := 5) (q0 := 0) rfl rfl rfl rfl hl.1 (Nat.le_of_ble_eq_true rfl) rfl dX5_addOrder_146 ⟨Nat.zero_le _, Nat.zero_le _⟩ (fun H locs hP hD hS => ?_)
      refine lv_aload_n hx hb dX5_addOrder_149 rfl (lv_at hl 2 rfl) ?_
      refine lv_iload hx hb dX5_addOrder_150 (lv_at hl 0 rfl) ?_
      refine lv_bipush (v := (6 : Int32)) hx hb dX5_addOrder_152 (by decide) ?_
      refine lv_iconst (v := (-1 : Int32)) hx hb dX5_addOrder_154 (by decide) ?_
      obtain ⟨g12, h12, hf⟩ := z_bE hf
      refine z_cVv (As := [.int (g5 1 ((2 : Int32)).toNatClampNeg), .int (6 : Int32), .int (-1 : Int32)]) (rest := []) (wf := (z_md c a)) (g := g11) (u0 := g12) ⟨hx, hb, hml, hown, hts⟩ (kX5_setPart l D c N a H.size g11 (g5 1 ((2 : Int32)).toNatClampNeg) (6 : Int32) (-1 : Int32) g12 h12) (cwV 3 hts gX5_addOrder_X5_setPart rfl rfl rfl (by decide +kernel) ⟨Nat.le_of_ble_eq_true rfl, Nat.le_of_ble_eq_true rfl⟩) hP hK hD hS hA (ci := 5) (q0 := 0) rfl rfl rfl rfl hl.1 (Nat.le_of_ble_eq_true rfl) rfl dX5_addOrder_155 ⟨Nat.zero_le _, Nat.zero_le _⟩ (fun H locs hP hD hS => ?_)
      refine lv_aload_n hx hb dX5_addOrder_158 rfl (lv_at hl 2 rfl) ?_
      refine lv_iload hx hb dX5_addOrder_159 (lv_at hl 0 rfl) ?_
      refine lv_bipush (v := (7 : Int32)) hx hb dX5_addOrder_161 (by decide) ?_
      refine lv_iconst (v := (0 : Int32)) hx hb dX5_addOrder_163 (by decide) ?_
      obtain ⟨g13, h13, hf⟩ := z_bE hf
      refine z_cVv (As := [.int (g5 1 ((2 : Int32)).toNatClampNeg), .int (7 : Int32), .int (0 : Int32)]) (rest := []) (wf := (z_md c a)) (g := g12) (u0 := g13) ⟨hx, hb, hml, hown, hts⟩ (kX5_setPart l D c N a H.size g12 (g5 1 ((2 : Int32)).toNatClampNeg) (7 : Int32) (0 : Int32) g13 h13) (cwV 3 hts gX5_addOrder_X5_setPart rfl rfl rfl (by decide +kernel) ⟨Nat.le_of_ble_eq_true rfl, Nat.le_of_ble_eq_true rfl⟩) hP hK hD hS hA (ci := 5) (q0 := 0) rfl rfl rfl rfl hl.1 (Nat.le_of_ble_eq_true rfl) rfl dX5_addOrder_164 ⟨Nat.zero_le _, Nat.zero_le _⟩ (fun H locs hP hD hS => ?_)
      refine lv_aload_n hx hb dX5_addOrder_167 rfl (lv_at hl 2 rfl) ?_
      refine lv_iload hx hb dX5_addOrder_168 (lv_at hl 0 rfl) ?_
      refine lv_bipush (v := (8 : Int32)) hx hb dX5_addOrder_170 (by decide) ?_
      refine lv_iconst (v := (-1 : Int32)) hx hb dX5_addOrder_172 (by decide) ?_
      obtain ⟨g14, h14, hf⟩ := z_bE hf
      refine z_cVv (As := [.int (g5 1 ((2 : Int32)).toNatClampNeg), .int (8 : Int32), .int (-1 : Int32)]) (rest := []) (wf := (z_md c a)) (g := g13) (u0 := g14) ⟨hx, hb, hml, hown, hts⟩ (kX5_setPart l D c N a H.size g13 (g5 1 ((2 : Int32)).toNatClampNeg) (8 : Int32) (-1 : Int32) g14 h14) (cwV 3 hts gX5_addOrder_X5_setPart rfl rfl rfl (by decide +kernel) ⟨Nat.le_of_ble_eq_true rfl, Nat.le_of_ble_eq_true rfl⟩) hP hK hD hS hA (ci := 5) (q0 := 0) rfl rfl rfl rfl hl.1 (Nat.le_of_ble_eq_true rfl) rfl dX5_addOrder_173 ⟨Nat.zero_le _, Nat.zero_le _⟩ (fun H locs hP hD hS => ?_)
      refine lv_aload_n hx hb dX5_addOrder_176 rfl (lv_at hl 2 rfl) ?_
      refine va_get (D := D) (ci := 5) (v := .ref (a 1)) (C := RX5) (T := TX5) (N := 13) hx hb hts iX5_addOrder_X5 hown hK.1 hP 0 rfl rfl 1 (by decide) (hts _ qX5_addOrder_7) (fun _ h9 => h9) rfl dX5_addOrder_177 ?_
      refine lv_iconst (v := (2 : Int32)) hx hb dX5_addOrder_180 (by decide) ?_
      refine lv_dup2_11 hx hb dX5_addOrder_181 rfl rfl ?_
      refine va_iald hx hb hK.1 hP 1 0 rfl rfl (z_inE (by decide)) dX5_addOrder_182 ?_
      refine lv_iconst (v := (1 : Int32)) hx hb dX5_addOrder_183 (by decide) ?_
      refine lv_iadd hx hb dX5_addOrder_184 ?_
      refine va_iast hx hb hK.1 hP hD hS 1 0 rfl rfl (z_inE (by decide)) dX5_addOrder_185 (fun H locs hP hD hS => ?_)
      obtain ⟨g15, e15, hf⟩ := z_ltE hf
      have hP : va_P D vwCl (z_md c a g15) H := by rw [e15]; exact hP
      have hD : va_D A (z_md c a g15) := by rw [e15]; exact hD
      clear e15
      refine lv_iload hx hb dX5_addOrder_186 (lv_at hl 0 rfl) ?_
      exact z_ri (wf := (z_md c a)) hx hb hr hlocks hP hD hS hf dX5_addOrder_188
    · have hf := z_ifF hf c4
      refine lv_iconst (v := (0 : Int32)) hx hb dX5_addOrder_85 (by decide) ?_
      exact z_ri (wf := (z_md c a)) hx hb hr hlocks hP hD hS hf dX5_addOrder_86
  · have hf := z_ifF hf c2
    refine lv_iconst (v := (1 : Int32)) hx hb dX5_addOrder_8 (by decide) ?_
    refine lv_iload_n hx hb dX5_addOrder_9 rfl (lv_at hl 2 rfl) ?_
    obtain ⟨r16, h16, hf⟩ := z_bE hf
    refine z_cSi (As := [.int (1 : Int32), .int p2]) (rest := []) ⟨hx, hb, hml, hown, hts⟩ (kX5_isInRange l D c N H.size (1 : Int32) p2 r16 h16) (va_cwS 2 hts gX5_addOrder_X5_isInRange rfl rfl rfl (by decide +kernel) ⟨Nat.le_of_ble_eq_true rfl, Nat.le_of_ble_eq_true rfl⟩) hP hK hS hA rfl hl.1 (Nat.le_of_ble_eq_true rfl) rfl dX5_addOrder_10 ⟨Nat.zero_le _, Nat.zero_le _⟩ (fun H locs hP hS => ?_)
    refine lv_if_eq (tgt := 46) hx hb dX5_addOrder_13 (by decide) (fun c17 => ?_) (fun c17 => ?_)
    · have hf := z_ifT hf c17
      refine lv_iconst (v := (0 : Int32)) hx hb dX5_addOrder_46 (by decide) ?_
      refine lv_istore (lv' := [(6, .int (0 : Int32)), (0, .ref (a 0)), (1, .int p1), (2, .int p2), (3, .int p3), (4, .int p4), (5, .int p5)]) hx hb dX5_addOrder_47 hl (by decide) rfl (fun ls hl => ?_)
      refine lv_aload_n hx hb dX5_addOrder_49 rfl (lv_at hl 1 rfl) ?_
      refine lv_iload hx hb dX5_addOrder_50 (lv_at hl 0 rfl) ?_
      refine lv_if_ne (tgt := 59) hx hb dX5_addOrder_52 (by decide) (fun c => absurd c (by decide)) (fun _ => ?_)
      refine lv_iconst (v := (1 : Int32)) hx hb dX5_addOrder_55 (by decide) ?_
      refine lv_goto (tgt := 75) hx hb dX5_addOrder_56 (by decide) ?_
      refine va_put (D := D) (ci := 5) (v := .int (1 : Int32)) (ty := .int) (C := RX5) (T := TX5) (N := 13) hx hb hts iX5_addOrder_X5 tyX5 tyX5_ok nmX5 hown hK.1 hP hD hS 0 rfl rfl 0 (by decide) (hts _ qX5_addOrder_37) (fun _ h9 => h9) rfl (by decide +kernel) rfl rfl (Nat.le_of_ble_eq_true rfl) dX5_addOrder_75 (fun H locs hP hD hS => ?_)
      obtain ⟨g18, e18, hf⟩ := z_ltE hf
      have hP : va_P D vwCl (z_md c a g18) H := by rw [e18]; exact hP
      have hD : va_D A (z_md c a g18) := by rw [e18]; exact hD
      clear e18
      refine lv_aload_n hx hb dX5_addOrder_78 rfl (lv_at hl 1 rfl) ?_
      refine va_get (D := D) (ci := 5) (v := .int (g18 0 0)) (C := RX5) (T := TX5) (N := 13) hx hb hts iX5_addOrder_X5 hown hK.1 hP 0 rfl rfl 0 (by decide) (hts _ qX5_addOrder_37) (fun _ h9 => h9) rfl dX5_addOrder_79 ?_
      refine lv_if_le (tgt := 87) hx hb dX5_addOrder_82 (by decide) (fun c19 => ?_) (fun c19 => ?_)
      · have hf := z_ifT hf c19
        refine lv_aload_n hx hb dX5_addOrder_87 rfl (lv_at hl 1 rfl) ?_
        obtain ⟨g20, h20, hf⟩ := z_bE hf
        refine z_cVv (As := []) (rest := []) (wf := (z_md c a)) (g := g18) (u0 := g20) ⟨hx, hb, hml, hown, hts⟩ (kX5_remember l D c N a H.size g18  g20 h20) (cwV 0 hts gX5_addOrder_X5_remember rfl rfl rfl (by decide +kernel) ⟨Nat.le_of_ble_eq_true rfl, Nat.le_of_ble_eq_true rfl⟩) hP hK hD hS hA (ci := 5) (q0 := 0) rfl rfl rfl rfl hl.1 (Nat.le_of_ble_eq_true rfl) rfl dX5_addOrder_88 ⟨Nat.zero_le _, Nat.zero_le _⟩ (fun H locs hP hD hS => ?_)
        refine lv_aload_n hx hb dX5_addOrder_91 rfl (lv_at hl 1 rfl) ?_
        refine va_get (D := D) (ci := 5) (v := .ref (a 1)) (C := RX5) (T := TX5) (N := 13) hx hb hts iX5_addOrder_X5 hown hK.1 hP 0 rfl rfl 1 (by decide) (hts _ qX5_addOrder_7) (fun _ h9 => h9) rfl dX5_addOrder_92 ?_
        refine lv_iconst (v := (2 : Int32)) hx hb dX5_addOrder_95 (by decide) ?_
        refine va_iald hx hb hK.1 hP 1 0 rfl rfl (z_inE (by decide)) dX5_addOrder_96 ?_
        refine lv_istore (lv' := [(7, .int (g20 1 ((2 : Int32)).toNatClampNeg)), (6, .int (0 : Int32)), (0, .ref (a 0)), (1, .int p1), (2, .int p2), (3, .int p3), (4, .int p4), (5, .int p5)]) hx hb dX5_addOrder_97 hl (by decide) rfl (fun ls hl => ?_)
        refine lv_aload_n hx hb dX5_addOrder_99 rfl (lv_at hl 2 rfl) ?_
        refine lv_iload hx hb dX5_addOrder_100 (lv_at hl 0 rfl) ?_
        refine lv_iconst (v := (0 : Int32)) hx hb dX5_addOrder_102 (by decide) ?_
        refine lv_iload_n hx hb dX5_addOrder_103 rfl (lv_at hl 3 rfl) ?_
        obtain ⟨g21, h21, hf⟩ := z_bE hf
        refine z_cVv (As := [.int (g20 1 ((2 : Int32)).toNatClampNeg), .int (0 : Int32), .int p1]) (rest := []) (wf := (z_md c a)) (g := g20) (u0 := g21) ⟨hx, hb, hml, hown, hts⟩ (kX5_setPart l D c N a H.size g20 (g20 1 ((2 : Int32)).toNatClampNeg) (0 : Int32) p1 g21 h21) (cwV 3 hts gX5_addOrder_X5_setPart rfl rfl rfl (by decide +kernel) ⟨Nat.le_of_ble_eq_true rfl, Nat.le_of_ble_eq_true rfl⟩) hP hK hD hS hA (ci := 5) (q0 := 0) rfl rfl rfl rfl hl.1 (Nat.le_of_ble_eq_true rfl) rfl dX5_addOrder_104 ⟨Nat.zero_le _, Nat.zero_le _⟩ (fun H locs hP hD hS => ?_)
        refine lv_aload_n hx hb dX5_addOrder_107 rfl (lv_at hl 2 rfl) ?_
        refine lv_iload hx hb dX5_addOrder_108 (lv_at hl 0 rfl) ?_
        refine lv_iconst (v := (1 : Int32)) hx hb dX5_addOrder_110 (by decide) ?_
        refine lv_iload_n hx hb dX5_addOrder_111 rfl (lv_at hl 4 rfl) ?_
        obtain ⟨g22, h22, hf⟩ := z_bE hf
        refine z_cVv (As := [.int (g20 1 ((2 : Int32)).toNatClampNeg), .int (1 : Int32), .int p2]) (rest := []) (wf := (z_md c a)) (g := g21) (u0 := g22) ⟨hx, hb, hml, hown, hts⟩ (kX5_setPart l D c N a H.size g21 (g20 1 ((2 : Int32)).toNatClampNeg) (1 : Int32) p2 g22 h22) (cwV 3 hts gX5_addOrder_X5_setPart rfl rfl rfl (by decide +kernel) ⟨Nat.le_of_ble_eq_true rfl, Nat.le_of_ble_eq_true rfl⟩) hP hK hD hS hA (ci := 5) (q0 := 0) rfl rfl rfl rfl hl.1 (Nat.le_of_ble_eq_true rfl) rfl dX5_addOrder_112 ⟨Nat.zero_le _, Nat.zero_le _⟩ (fun H locs hP hD hS => ?_)
        refine lv_aload_n hx hb dX5_addOrder_115 rfl (lv_at hl 2 rfl) ?_
        refine lv_iload hx hb dX5_addOrder_116 (lv_at hl 0 rfl) ?_
        refine lv_iconst (v := (2 : Int32)) hx hb dX5_addOrder_118 (by decide) ?_
        refine lv_iload_n hx hb dX5_addOrder_119 rfl (lv_at hl 5 rfl) ?_
        obtain ⟨g23, h23, hf⟩ := z_bE hf
        refine z_cVv (As := [.int (g20 1 ((2 : Int32)).toNatClampNeg), .int (2 : Int32), .int p3]) (rest := []) (wf := (z_md c a)) (g := g22) (u0 := g23) ⟨hx, hb, hml, hown, hts⟩ (kX5_setPart l D c N a H.size g22 (g20 1 ((2 : Int32)).toNatClampNeg) (2 : Int32) p3 g23 h23) (cwV 3 hts gX5_addOrder_X5_setPart rfl rfl rfl (by decide +kernel) ⟨Nat.le_of_ble_eq_true rfl, Nat.le_of_ble_eq_true rfl⟩) hP hK hD hS hA (ci := 5) (q0 := 0) rfl rfl rfl rfl hl.1 (Nat.le_of_ble_eq_true rfl) rfl dX5_addOrder_120 ⟨Nat.zero_le _, Nat.zero_le _⟩ (fun H locs hP hD hS => ?_)
        refine lv_aload_n hx hb dX5_addOrder_123 rfl (lv_at hl 2 rfl) ?_
        refine lv_iload hx hb dX5_addOrder_124 (lv_at hl 0 rfl) ?_
        refine lv_iconst (v := (3 : Int32)) hx hb dX5_addOrder_126 (by decide) ?_
        refine lv_iload hx hb dX5_addOrder_127 (lv_at hl 6 rfl) ?_
        obtain ⟨g24, h24, hf⟩ := z_bE hf
        refine z_cVv (As := [.int (g20 1 ((2 : Int32)).toNatClampNeg), .int (3 : Int32), .int p4]) (rest := []) (wf := (z_md c a)) (g := g23) (u0 := g24) ⟨hx, hb, hml, hown, hts⟩ (kX5_setPart l D c N a H.size g23 (g20 1 ((2 : Int32)).toNatClampNeg) (3 : Int32) p4 g24 h24) (cwV 3 hts gX5_addOrder_X5_setPart rfl rfl rfl (by decide +kernel) ⟨Nat.le_of_ble_eq_true rfl, Nat.le_of_ble_eq_true rfl⟩) hP hK hD hS hA (ci := 5) (q0 := 0) rfl rfl rfl rfl hl.1 (Nat.le_of_ble_eq_true rfl) rfl dX5_addOrder_129 ⟨Nat.zero_le _, Nat.zero_le _⟩ (fun H locs hP hD hS => ?_)
        refine lv_aload_n hx hb dX5_addOrder_132 rfl (lv_at hl 2 rfl) ?_
        refine lv_iload hx hb dX5_addOrder_133 (lv_at hl 0 rfl) ?_
        refine lv_iconst (v := (4 : Int32)) hx hb dX5_addOrder_135 (by decide) ?_
        refine lv_iload hx hb dX5_addOrder_136 (lv_at hl 7 rfl) ?_
        obtain ⟨g25, h25, hf⟩ := z_bE hf
        refine z_cVv (As := [.int (g20 1 ((2 : Int32)).toNatClampNeg), .int (4 : Int32), .int p5]) (rest := []) (wf := (z_md c a)) (g := g24) (u0 := g25) ⟨hx, hb, hml, hown, hts⟩ (kX5_setPart l D c N a H.size g24 (g20 1 ((2 : Int32)).toNatClampNeg) (4 : Int32) p5 g25 h25) (cwV 3 hts gX5_addOrder_X5_setPart rfl rfl rfl (by decide +kernel) ⟨Nat.le_of_ble_eq_true rfl, Nat.le_of_ble_eq_true rfl⟩) hP hK hD hS hA (ci := 5) (q0 := 0) rfl rfl rfl rfl hl.1 (Nat.le_of_ble_eq_true rfl) rfl dX5_addOrder_138 ⟨Nat.zero_le _, Nat.zero_le _⟩ (fun H locs hP hD hS => ?_)
        refine lv_aload_n hx hb dX5_addOrder_141 rfl (lv_at hl 2 rfl) ?_
        refine lv_iload hx hb dX5_addOrder_142 (lv_at hl 0 rfl) ?_
        refine lv_iconst (v := (5 : Int32)) hx hb dX5_addOrder_144 (by decide) ?_
        refine lv_iconst (v := (-1 : Int32)) hx hb dX5_addOrder_145 (by decide) ?_
        obtain ⟨g26, h26, hf⟩ := z_bE hf
        refine z_cVv (As := [.int (g20 1 ((2 : Int32)).toNatClampNeg), .int (5 : Int32), .int (-1 : Int32)]) (rest := []) (wf := (z_md c a)) (g := g25) (u0 := g26) ⟨hx, hb, hml, hown, hts⟩ (kX5_setPart l D c N a H.size g25 (g20 1 ((2 : Int32)).toNatClampNeg) (5 : Int32) (-1 : Int32) g26 h26) (cwV 3 hts gX5_addOrder_X5_setPart rfl rfl rfl (by decide +kernel) ⟨Nat.le_of_ble_eq_true rfl, Nat.le_of_ble_eq_true rfl⟩) hP hK hD hS hA (ci := 5) (q0 := 0) rfl rfl rfl rfl hl.1 (Nat.le_of_ble_eq_true rfl) rfl dX5_addOrder_146 ⟨Nat.zero_le _, Nat.zero_le _⟩ (fun H locs hP hD hS => ?_)
        refine lv_aload_n hx hb dX5_addOrder_149 rfl (lv_at hl 2 rfl) ?_
        refine lv_iload hx hb dX5_addOrder_150 (lv_at hl 0 rfl) ?_
        refine lv_bipush (v := (6 : Int32)) hx hb dX5_addOrder_152 (by decide) ?_
        refine lv_iconst (v := (-1 : Int32)) hx hb dX5_addOrder_154 (by decide) ?_
        obtain ⟨g27, h27, hf⟩ := z_bE hf
        refine z_cVv (As := [.int (g20 1 ((2 : Int32)).toNatClampNeg), .int (6 : Int32), .int (-1 : Int32)]) (rest := []) (wf := (z_md c a)) (g := g26) (u0 := g27) ⟨hx, hb, hml, hown, hts⟩ (kX5_setPart l D c N a H.size g26 (g20 1 ((2 : Int32)).toNatClampNeg) (6 : Int32) (-1 : Int32) g27 h27) (cwV 3 hts gX5_addOrder_X5_setPart rfl rfl rfl (by decide +kernel) ⟨Nat.le_of_ble_eq_true rfl, Nat.le_of_ble_eq_true rfl⟩) hP hK hD hS hA (ci := 5) (q0 := 0) rfl rfl rfl rfl hl.1 (Nat.le_of_ble_eq_true rfl) rfl dX5_addOrder_155 ⟨Nat.zero_le _, Nat.zero_le _⟩ (fun H locs hP hD hS => ?_)
        refine lv_aload_n hx hb dX5_addOrder_158 rfl (lv_at hl 2 rfl) ?_
        refine lv_iload hx hb dX5_addOrder_159 (lv_at hl 0 rfl) ?_
        refine lv_bipush (v := (7 : Int32)) hx hb dX5_addOrder_161 (by decide) ?_
        refine lv_iconst (v := (0 : Int32)) hx hb dX5_addOrder_163 (by decide) ?_
        obtain ⟨g28, h28, hf⟩ := z_bE hf
        refine z_cVv (As := [.int (g20 1 ((2 : Int32)).toNatClampNeg), .int (7 : Int32), .int (0 : Int32)]) (rest := []) (wf := (z_md c a)) (g := g27) (u0 := g28) ⟨hx, hb, hml, hown, hts⟩ (kX5_setPart l D c N a H.size g27 (g20 1 ((2 : Int32)).toNatClampNeg) (7 : Int32) (0 : Int32) g28 h28) (cwV 3 hts gX5_addOrder_X5_setPart rfl rfl rfl (by decide +kernel) ⟨Nat.le_of_ble_eq_true rfl, Nat.le_of_ble_eq_true rfl⟩) hP hK hD hS hA (ci := 5) (q0 := 0) rfl rfl rfl rfl hl.1 (Nat.le_of_ble_eq_true rfl) rfl dX5_addOrder_164 ⟨Nat.zero_le _, Nat.zero_le _⟩ (fun H locs hP hD hS => ?_)
        refine lv_aload_n hx hb dX5_addOrder_167 rfl (lv_at hl 2 rfl) ?_
        refine lv_iload hx hb dX5_addOrder_168 (lv_at hl 0 rfl) ?_
        refine lv_bipush (v := (8 : Int32)) hx hb dX5_addOrder_170 (by decide) ?_
        refine lv_iconst (v := (-1 : Int32)) hx hb dX5_addOrder_172 (by decide) ?_
        obtain ⟨g29, h29, hf⟩ := z_bE hf
        refine z_cVv (As := [.int (g20 1 ((2 : Int32)).toNatClampNeg), .int (8 : Int32), .int (-1 : Int32)]) (rest := []) (wf := (z_md c a)) (g := g28) (u0 := g29) ⟨hx, hb, hml, hown, hts⟩ (kX5_setPart l D c N a H.size g28 (g20 1 ((2 : Int32)).toNatClampNeg) (8 : Int32) (-1 : Int32) g29 h29) (cwV 3 hts gX5_addOrder_X5_setPart rfl rfl rfl (by decide +kernel) ⟨Nat.le_of_ble_eq_true rfl, Nat.le_of_ble_eq_true rfl⟩) hP hK hD hS hA (ci := 5) (q0 := 0) rfl rfl rfl rfl hl.1 (Nat.le_of_ble_eq_true rfl) rfl dX5_addOrder_173 ⟨Nat.zero_le _, Nat.zero_le _⟩ (fun H locs hP hD hS => ?_)
        refine lv_aload_n hx hb dX5_addOrder_176 rfl (lv_at hl 2 rfl) ?_
        refine va_get (D := D) (ci := 5) (v := .ref (a 1)) (C := RX5) (T := TX5) (N := 13) hx hb hts iX5_addOrder_X5 hown hK.1 hP 0 rfl rfl 1 (by decide) (hts _ qX5_addOrder_7) (fun _ h9 => h9) rfl dX5_addOrder_177 ?_
        refine lv_iconst (v := (2 : Int32)) hx hb dX5_addOrder_180 (by decide) ?_
        refine lv_dup2_11 hx hb dX5_addOrder_181 rfl rfl ?_
        refine va_iald hx hb hK.1 hP 1 0 rfl rfl (z_inE (by decide)) dX5_addOrder_182 ?_
        refine lv_iconst (v := (1 : Int32)) hx hb dX5_addOrder_183 (by decide) ?_
        refine lv_iadd hx hb dX5_addOrder_184 ?_
        refine va_iast hx hb hK.1 hP hD hS 1 0 rfl rfl (z_inE (by decide)) dX5_addOrder_185 (fun H locs hP hD hS => ?_)
        obtain ⟨g30, e30, hf⟩ := z_ltE hf
        have hP : va_P D vwCl (z_md c a g30) H := by rw [e30]; exact hP
        have hD : va_D A (z_md c a g30) := by rw [e30]; exact hD
        clear e30
        refine lv_iload hx hb dX5_addOrder_186 (lv_at hl 0 rfl) ?_
        exact z_ri (wf := (z_md c a)) hx hb hr hlocks hP hD hS hf dX5_addOrder_188
      · have hf := z_ifF hf c19
        refine lv_iconst (v := (0 : Int32)) hx hb dX5_addOrder_85 (by decide) ?_
        exact z_ri (wf := (z_md c a)) hx hb hr hlocks hP hD hS hf dX5_addOrder_86
    · have hf := z_ifF hf c17
      refine lv_iconst (v := (2 : Int32)) hx hb dX5_addOrder_16 (by decide) ?_
      refine lv_iload_n hx hb dX5_addOrder_17 rfl (lv_at hl 3 rfl) ?_
      obtain ⟨r31, h31, hf⟩ := z_bE hf
      refine z_cSi (As := [.int (2 : Int32), .int p3]) (rest := []) ⟨hx, hb, hml, hown, hts⟩ (kX5_isInRange l D c N H.size (2 : Int32) p3 r31 h31) (va_cwS 2 hts gX5_addOrder_X5_isInRange rfl rfl rfl (by decide +kernel) ⟨Nat.le_of_ble_eq_true rfl, Nat.le_of_ble_eq_true rfl⟩) hP hK hS hA rfl hl.1 (Nat.le_of_ble_eq_true rfl) rfl dX5_addOrder_18 ⟨Nat.zero_le _, Nat.zero_le _⟩ (fun H locs hP hS => ?_)
      refine lv_if_eq (tgt := 46) hx hb dX5_addOrder_21 (by decide) (fun c32 => ?_) (fun c32 => ?_)
      · have hf := z_ifT hf c32
        refine lv_iconst (v := (0 : Int32)) hx hb dX5_addOrder_46 (by decide) ?_
        refine lv_istore (lv' := [(6, .int (0 : Int32)), (0, .ref (a 0)), (1, .int p1), (2, .int p2), (3, .int p3), (4, .int p4), (5, .int p5)]) hx hb dX5_addOrder_47 hl (by decide) rfl (fun ls hl => ?_)
        refine lv_aload_n hx hb dX5_addOrder_49 rfl (lv_at hl 1 rfl) ?_
        refine lv_iload hx hb dX5_addOrder_50 (lv_at hl 0 rfl) ?_
        refine lv_if_ne (tgt := 59) hx hb dX5_addOrder_52 (by decide) (fun c => absurd c (by decide)) (fun _ => ?_)
        refine lv_iconst (v := (1 : Int32)) hx hb dX5_addOrder_55 (by decide) ?_
        refine lv_goto (tgt := 75) hx hb dX5_addOrder_56 (by decide) ?_
        refine va_put (D := D) (ci := 5) (v := .int (1 : Int32)) (ty := .int) (C := RX5) (T := TX5) (N := 13) hx hb hts iX5_addOrder_X5 tyX5 tyX5_ok nmX5 hown hK.1 hP hD hS 0 rfl rfl 0 (by decide) (hts _ qX5_addOrder_37) (fun _ h9 => h9) rfl (by decide +kernel) rfl rfl (Nat.le_of_ble_eq_true rfl) dX5_addOrder_75 (fun H locs hP hD hS => ?_)
        obtain ⟨g33, e33, hf⟩ := z_ltE hf
        have hP : va_P D vwCl (z_md c a g33) H := by rw [e33]; exact hP
        have hD : va_D A (z_md c a g33) := by rw [e33]; exact hD
        clear e33
        refine lv_aload_n hx hb dX5_addOrder_78 rfl (lv_at hl 1 rfl) ?_
        refine va_get (D := D) (ci := 5) (v := .int (g33 0 0)) (C := RX5) (T := TX5) (N := 13) hx hb hts iX5_addOrder_X5 hown hK.1 hP 0 rfl rfl 0 (by decide) (hts _ qX5_addOrder_37) (fun _ h9 => h9) rfl dX5_addOrder_79 ?_
        refine lv_if_le (tgt := 87) hx hb dX5_addOrder_82 (by decide) (fun c34 => ?_) (fun c34 => ?_)
        · have hf := z_ifT hf c34
          refine lv_aload_n hx hb dX5_addOrder_87 rfl (lv_at hl 1 rfl) ?_
          obtain ⟨g35, h35, hf⟩ := z_bE hf
          refine z_cVv (As := []) (rest := []) (wf := (z_md c a)) (g := g33) (u0 := g35) ⟨hx, hb, hml, hown, hts⟩ (kX5_remember l D c N a H.size g33  g35 h35) (cwV 0 hts gX5_addOrder_X5_remember rfl rfl rfl (by decide +kernel) ⟨Nat.le_of_ble_eq_true rfl, Nat.le_of_ble_eq_true rfl⟩) hP hK hD hS hA (ci := 5) (q0 := 0) rfl rfl rfl rfl hl.1 (Nat.le_of_ble_eq_true rfl) rfl dX5_addOrder_88 ⟨Nat.zero_le _, Nat.zero_le _⟩ (fun H locs hP hD hS => ?_)
          refine lv_aload_n hx hb dX5_addOrder_91 rfl (lv_at hl 1 rfl) ?_
          refine va_get (D := D) (ci := 5) (v := .ref (a 1)) (C := RX5) (T := TX5) (N := 13) hx hb hts iX5_addOrder_X5 hown hK.1 hP 0 rfl rfl 1 (by decide) (hts _ qX5_addOrder_7) (fun _ h9 => h9) rfl dX5_addOrder_92 ?_
          refine lv_iconst (v := (2 : Int32)) hx hb dX5_addOrder_95 (by decide) ?_
          refine va_iald hx hb hK.1 hP 1 0 rfl rfl (z_inE (by decide)) dX5_addOrder_96 ?_
          refine lv_istore (lv' := [(7, .int (g35 1 ((2 : Int32)).toNatClampNeg)), (6, .int (0 : Int32)), (0, .ref (a 0)), (1, .int p1), (2, .int p2), (3, .int p3), (4, .int p4), (5, .int p5)]) hx hb dX5_addOrder_97 hl (by decide) rfl (fun ls hl => ?_)
          refine lv_aload_n hx hb dX5_addOrder_99 rfl (lv_at hl 2 rfl) ?_
          refine lv_iload hx hb dX5_addOrder_100 (lv_at hl 0 rfl) ?_
          refine lv_iconst (v := (0 : Int32)) hx hb dX5_addOrder_102 (by decide) ?_
          refine lv_iload_n hx hb dX5_addOrder_103 rfl (lv_at hl 3 rfl) ?_
          obtain ⟨g36, h36, hf⟩ := z_bE hf
          refine z_cVv (As := [.int (g35 1 ((2 : Int32)).toNatClampNeg), .int (0 : Int32), .int p1]) (rest := []) (wf := (z_md c a)) (g := g35) (u0 := g36) ⟨hx, hb, hml, hown, hts⟩ (kX5_setPart l D c N a H.size g35 (g35 1 ((2 : Int32)).toNatClampNeg) (0 : Int32) p1 g36 h36) (cwV 3 hts gX5_addOrder_X5_setPart rfl rfl rfl (by decide +kernel) ⟨Nat.le_of_ble_eq_true rfl, Nat.le_of_ble_eq_true rfl⟩) hP hK hD hS hA (ci := 5) (q0 := 0) rfl rfl rfl rfl hl.1 (Nat.le_of_ble_eq_true rfl) rfl dX5_addOrder_104 ⟨Nat.zero_le _, Nat.zero_le _⟩ (fun H locs hP hD hS => ?_)
          refine lv_aload_n hx hb dX5_addOrder_107 rfl (lv_at hl 2 rfl) ?_
          refine lv_iload hx hb dX5_addOrder_108 (lv_at hl 0 rfl) ?_
          refine lv_iconst (v := (1 : Int32)) hx hb dX5_addOrder_110 (by decide) ?_
          refine lv_iload_n hx hb dX5_addOrder_111 rfl (lv_at hl 4 rfl) ?_
          obtain ⟨g37, h37, hf⟩ := z_bE hf
          refine z_cVv (As := [.int (g35 1 ((2 : Int32)).toNatClampNeg), .int (1 : Int32), .int p2]) (rest := []) (wf := (z_md c a)) (g := g36) (u0 := g37) ⟨hx, hb, hml, hown, hts⟩ (kX5_setPart l D c N a H.size g36 (g35 1 ((2 : Int32)).toNatClampNeg) (1 : Int32) p2 g37 h37) (cwV 3 hts gX5_addOrder_X5_setPart rfl rfl rfl (by decide +kernel) ⟨Nat.le_of_ble_eq_true rfl, Nat.le_of_ble_eq_true rfl⟩) hP hK hD hS hA (ci := 5) (q0 := 0) rfl rfl rfl rfl hl.1 (Nat.le_of_ble_eq_true rfl) rfl dX5_addOrder_112 ⟨Nat.zero_le _, Nat.zero_le _⟩ (fun H locs hP hD hS => ?_)
          refine lv_aload_n hx hb dX5_addOrder_115 rfl (lv_at hl 2 rfl) ?_
          refine lv_iload hx hb dX5_addOrder_116 (lv_at hl 0 rfl) ?_
          refine lv_iconst (v := (2 : Int32)) hx hb dX5_addOrder_118 (by decide) ?_
          refine lv_iload_n hx hb dX5_addOrder_119 rfl (lv_at hl 5 rfl) ?_
          obtain ⟨g38, h38, hf⟩ := z_bE hf
          refine z_cVv (As := [.int (g35 1 ((2 : Int32)).toNatClampNeg), .int (2 : Int32), .int p3]) (rest := []) (wf := (z_md c a)) (g := g37) (u0 := g38) ⟨hx, hb, hml, hown, hts⟩ (kX5_setPart l D c N a H.size g37 (g35 1 ((2 : Int32)).toNatClampNeg) (2 : Int32) p3 g38 h38) (cwV 3 hts gX5_addOrder_X5_setPart rfl rfl rfl (by decide +kernel) ⟨Nat.le_of_ble_eq_true rfl, Nat.le_of_ble_eq_true rfl⟩) hP hK hD hS hA (ci := 5) (q0 := 0) rfl rfl rfl rfl hl.1 (Nat.le_of_ble_eq_true rfl) rfl dX5_addOrder_120 ⟨Nat.zero_le _, Nat.zero_le _⟩ (fun H locs hP hD hS => ?_)
          refine lv_aload_n hx hb dX5_addOrder_123 rfl (lv_at hl 2 rfl) ?_
          refine lv_iload hx hb dX5_addOrder_124 (lv_at hl 0 rfl) ?_
          refine lv_iconst (v := (3 : Int32)) hx hb dX5_addOrder_126 (by decide) ?_
          refine lv_iload hx hb dX5_addOrder_127 (lv_at hl 6 rfl) ?_
          obtain ⟨g39, h39, hf⟩ := z_bE hf
          refine z_cVv (As := [.int (g35 1 ((2 : Int32)).toNatClampNeg), .int (3 : Int32), .int p4]) (rest := []) (wf := (z_md c a)) (g := g38) (u0 := g39) ⟨hx, hb, hml, hown, hts⟩ (kX5_setPart l D c N a H.size g38 (g35 1 ((2 : Int32)).toNatClampNeg) (3 : Int32) p4 g39 h39) (cwV 3 hts gX5_addOrder_X5_setPart rfl rfl rfl (by decide +kernel) ⟨Nat.le_of_ble_eq_true rfl, Nat.le_of_ble_eq_true rfl⟩) hP hK hD hS hA (ci := 5) (q0 := 0) rfl rfl rfl rfl hl.1 (Nat.le_of_ble_eq_true rfl) rfl dX5_addOrder_129 ⟨Nat.zero_le _, Nat.zero_le _⟩ (fun H locs hP hD hS => ?_)
          refine lv_aload_n hx hb dX5_addOrder_132 rfl (lv_at hl 2 rfl) ?_
          refine lv_iload hx hb dX5_addOrder_133 (lv_at hl 0 rfl) ?_
          refine lv_iconst (v := (4 : Int32)) hx hb dX5_addOrder_135 (by decide) ?_
          refine lv_iload hx hb dX5_addOrder_136 (lv_at hl 7 rfl) ?_
          obtain ⟨g40, h40, hf⟩ := z_bE hf
          refine z_cVv (As := [.int (g35 1 ((2 : Int32)).toNatClampNeg), .int (4 : Int32), .int p5]) (rest := []) (wf := (z_md c a)) (g := g39) (u0 := g40) ⟨hx, hb, hml, hown, hts⟩ (kX5_setPart l D c N a H.size g39 (g35 1 ((2 : Int32)).toNatClampNeg) (4 : Int32) p5 g40 h40) (cwV 3 hts gX5_addOrder_X5_setPart rfl rfl rfl (by decide +kernel) ⟨Nat.le_of_ble_eq_true rfl, Nat.le_of_ble_eq_true rfl⟩) hP hK hD hS hA (ci := 5) (q0 := 0) rfl rfl rfl rfl hl.1 (Nat.le_of_ble_eq_true rfl) rfl dX5_addOrder_138 ⟨Nat.zero_le _, Nat.zero_le _⟩ (fun H locs hP hD hS => ?_)
          refine lv_aload_n hx hb dX5_addOrder_141 rfl (lv_at hl 2 rfl) ?_
          refine lv_iload hx hb dX5_addOrder_142 (lv_at hl 0 rfl) ?_
          refine lv_iconst (v := (5 : Int32)) hx hb dX5_addOrder_144 (by decide) ?_
          refine lv_iconst (v := (-1 : Int32)) hx hb dX5_addOrder_145 (by decide) ?_
          obtain ⟨g41, h41, hf⟩ := z_bE hf
          refine z_cVv (As := [.int (g35 1 ((2 : Int32)).toNatClampNeg), .int (5 : Int32), .int (-1 : Int32)]) (rest := []) (wf := (z_md c a)) (g := g40) (u0 := g41) ⟨hx, hb, hml, hown, hts⟩ (kX5_setPart l D c N a H.size g40 (g35 1 ((2 : Int32)).toNatClampNeg) (5 : Int32) (-1 : Int32) g41 h41) (cwV 3 hts gX5_addOrder_X5_setPart rfl rfl rfl (by decide +kernel) ⟨Nat.le_of_ble_eq_true rfl, Nat.le_of_ble_eq_true rfl⟩) hP hK hD hS hA (ci := 5) (q0 := 0) rfl rfl rfl rfl hl.1 (Nat.le_of_ble_eq_true rfl) rfl dX5_addOrder_146 ⟨Nat.zero_le _, Nat.zero_le _⟩ (fun H locs hP hD hS => ?_)
          refine lv_aload_n hx hb dX5_addOrder_149 rfl (lv_at hl 2 rfl) ?_
          refine lv_iload hx hb dX5_addOrder_150 (lv_at hl 0 rfl) ?_
          refine lv_bipush (v := (6 : Int32)) hx hb dX5_addOrder_152 (by decide) ?_
          refine lv_iconst (v := (-1 : Int32)) hx hb dX5_addOrder_154 (by decide) ?_
          obtain ⟨g42, h42, hf⟩ := z_bE hf
          refine z_cVv (As := [.int (g35 1 ((2 : Int32)).toNatClampNeg), .int (6 : Int32), .int (-1 : Int32)]) (rest := []) (wf := (z_md c a)) (g := g41) (u0 := g42) ⟨hx, hb, hml, hown, hts⟩ (kX5_setPart l D c N a H.size g41 (g35 1 ((2 : Int32)).toNatClampNeg) (6 : Int32) (-1 : Int32) g42 h42) (cwV 3 hts gX5_addOrder_X5_setPart rfl rfl rfl (by decide +kernel) ⟨Nat.le_of_ble_eq_true rfl, Nat.le_of_ble_eq_true rfl⟩) hP hK hD hS hA (ci := 5) (q0 := 0) rfl rfl rfl rfl hl.1 (Nat.le_of_ble_eq_true rfl) rfl dX5_addOrder_155 ⟨Nat.zero_le _, Nat.zero_le _⟩ (fun H locs hP hD hS => ?_)
          refine lv_aload_n hx hb dX5_addOrder_158 rfl (lv_at hl 2 rfl) ?_
          refine lv_iload hx hb dX5_addOrder_159 (lv_at hl 0 rfl) ?_
          refine lv_bipush (v := (7 : Int32)) hx hb dX5_addOrder_161 (by decide) ?_
          refine lv_iconst (v := (0 : Int32)) hx hb dX5_addOrder_163 (by decide) ?_
          obtain ⟨g43, h43, hf⟩ := z_bE hf
          refine z_cVv (As := [.int (g35 1 ((2 : Int32)).toNatClampNeg), .int (7 : Int32), .int (0 : Int32)]) (rest := []) (wf := (z_md c a)) (g := g42) (u0 := g43) ⟨hx, hb, hml, hown, hts⟩ (kX5_setPart l D c N a H.size g42 (g35 1 ((2 : Int32)).toNatClampNeg) (7 : Int32) (0 : Int32) g43 h43) (cwV 3 hts gX5_addOrder_X5_setPart rfl rfl rfl (by decide +kernel) ⟨Nat.le_of_ble_eq_true rfl, Nat.le_of_ble_eq_true rfl⟩) hP hK hD hS hA (ci := 5) (q0 := 0) rfl rfl rfl rfl hl.1 (Nat.le_of_ble_eq_true rfl) rfl dX5_addOrder_164 ⟨Nat.zero_le _, Nat.zero_le _⟩ (fun H locs hP hD hS => ?_)
          refine lv_aload_n hx hb dX5_addOrder_167 rfl (lv_at hl 2 rfl) ?_
          refine lv_iload hx hb dX5_addOrder_168 (lv_at hl 0 rfl) ?_
          refine lv_bipush (v := (8 : Int32)) hx hb dX5_addOrder_170 (by decide) ?_
          refine lv_iconst (v := (-1 : Int32)) hx hb dX5_addOrder_172 (by decide) ?_
          obtain ⟨g44, h44, hf⟩ := z_bE hf
          refine z_cVv (As := [.int (g35 1 ((2 : Int32)).toNatClampNeg), .int (8 : Int32), .int (-1 : Int32)]) (rest := []) (wf := (z_md c a)) (g := g43) (u0 := g44) ⟨hx, hb, hml, hown, hts⟩ (kX5_setPart l D c N a H.size g43 (g35 1 ((2 : Int32)).toNatClampNeg) (8 : Int32) (-1 : Int32) g44 h44) (cwV 3 hts gX5_addOrder_X5_setPart rfl rfl rfl (by decide +kernel) ⟨Nat.le_of_ble_eq_true rfl, Nat.le_of_ble_eq_true rfl⟩) hP hK hD hS hA (ci := 5) (q0 := 0) rfl rfl rfl rfl hl.1 (Nat.le_of_ble_eq_true rfl) rfl dX5_addOrder_173 ⟨Nat.zero_le _, Nat.zero_le _⟩ (fun H locs hP hD hS => ?_)
          refine lv_aload_n hx hb dX5_addOrder_176 rfl (lv_at hl 2 rfl) ?_
          refine va_get (D := D) (ci := 5) (v := .ref (a 1)) (C := RX5) (T := TX5) (N := 13) hx hb hts iX5_addOrder_X5 hown hK.1 hP 0 rfl rfl 1 (by decide) (hts _ qX5_addOrder_7) (fun _ h9 => h9) rfl dX5_addOrder_177 ?_
          refine lv_iconst (v := (2 : Int32)) hx hb dX5_addOrder_180 (by decide) ?_
          refine lv_dup2_11 hx hb dX5_addOrder_181 rfl rfl ?_
          refine va_iald hx hb hK.1 hP 1 0 rfl rfl (z_inE (by decide)) dX5_addOrder_182 ?_
          refine lv_iconst (v := (1 : Int32)) hx hb dX5_addOrder_183 (by decide) ?_
          refine lv_iadd hx hb dX5_addOrder_184 ?_
          refine va_iast hx hb hK.1 hP hD hS 1 0 rfl rfl (z_inE (by decide)) dX5_addOrder_185 (fun H locs hP hD hS => ?_)
          obtain ⟨g45, e45, hf⟩ := z_ltE hf
          have hP : va_P D vwCl (z_md c a g45) H := by rw [e45]; exact hP
          have hD : va_D A (z_md c a g45) := by rw [e45]; exact hD
          clear e45
          refine lv_iload hx hb dX5_addOrder_186 (lv_at hl 0 rfl) ?_
          exact z_ri (wf := (z_md c a)) hx hb hr hlocks hP hD hS hf dX5_addOrder_188
        · have hf := z_ifF hf c34
          refine lv_iconst (v := (0 : Int32)) hx hb dX5_addOrder_85 (by decide) ?_
          exact z_ri (wf := (z_md c a)) hx hb hr hlocks hP hD hS hf dX5_addOrder_86
      · have hf := z_ifF hf c32
        refine lv_iconst (v := (3 : Int32)) hx hb dX5_addOrder_24 (by decide) ?_
        refine lv_iload hx hb dX5_addOrder_25 (lv_at hl 4 rfl) ?_
        obtain ⟨r46, h46, hf⟩ := z_bE hf
        refine z_cSi (As := [.int (3 : Int32), .int p4]) (rest := []) ⟨hx, hb, hml, hown, hts⟩ (kX5_isInRange l D c N H.size (3 : Int32) p4 r46 h46) (va_cwS 2 hts gX5_addOrder_X5_isInRange rfl rfl rfl (by decide +kernel) ⟨Nat.le_of_ble_eq_true rfl, Nat.le_of_ble_eq_true rfl⟩) hP hK hS hA rfl hl.1 (Nat.le_of_ble_eq_true rfl) rfl dX5_addOrder_27 ⟨Nat.zero_le _, Nat.zero_le _⟩ (fun H locs hP hS => ?_)
        refine lv_if_eq (tgt := 46) hx hb dX5_addOrder_30 (by decide) (fun c47 => ?_) (fun c47 => ?_)
        · have hf := z_ifT hf c47
          refine lv_iconst (v := (0 : Int32)) hx hb dX5_addOrder_46 (by decide) ?_
          refine lv_istore (lv' := [(6, .int (0 : Int32)), (0, .ref (a 0)), (1, .int p1), (2, .int p2), (3, .int p3), (4, .int p4), (5, .int p5)]) hx hb dX5_addOrder_47 hl (by decide) rfl (fun ls hl => ?_)
          refine lv_aload_n hx hb dX5_addOrder_49 rfl (lv_at hl 1 rfl) ?_
          refine lv_iload hx hb dX5_addOrder_50 (lv_at hl 0 rfl) ?_
          refine lv_if_ne (tgt := 59) hx hb dX5_addOrder_52 (by decide) (fun c => absurd c (by decide)) (fun _ => ?_)
          refine lv_iconst (v := (1 : Int32)) hx hb dX5_addOrder_55 (by decide) ?_
          refine lv_goto (tgt := 75) hx hb dX5_addOrder_56 (by decide) ?_
          refine va_put (D := D) (ci := 5) (v := .int (1 : Int32)) (ty := .int) (C := RX5) (T := TX5) (N := 13) hx hb hts iX5_addOrder_X5 tyX5 tyX5_ok nmX5 hown hK.1 hP hD hS 0 rfl rfl 0 (by decide) (hts _ qX5_addOrder_37) (fun _ h9 => h9) rfl (by decide +kernel) rfl rfl (Nat.le_of_ble_eq_true rfl) dX5_addOrder_75 (fun H locs hP hD hS => ?_)
          obtain ⟨g48, e48, hf⟩ := z_ltE hf
          have hP : va_P D vwCl (z_md c a g48) H := by rw [e48]; exact hP
          have hD : va_D A (z_md c a g48) := by rw [e48]; exact hD
          clear e48
          refine lv_aload_n hx hb dX5_addOrder_78 rfl (lv_at hl 1 rfl) ?_
          refine va_get (D := D) (ci := 5) (v := .int (g48 0 0)) (C := RX5) (T := TX5) (N := 13) hx hb hts iX5_addOrder_X5 hown hK.1 hP 0 rfl rfl 0 (by decide) (hts _ qX5_addOrder_37) (fun _ h9 => h9) rfl dX5_addOrder_79 ?_
          refine lv_if_le (tgt := 87) hx hb dX5_addOrder_82 (by decide) (fun c49 => ?_) (fun c49 => ?_)
          · have hf := z_ifT hf c49
            refine lv_aload_n hx hb dX5_addOrder_87 rfl (lv_at hl 1 rfl) ?_
            obtain ⟨g50, h50, hf⟩ := z_bE hf
            refine z_cVv (As := []) (rest := []) (wf := (z_md c a)) (g := g48) (u0 := g50) ⟨hx, hb, hml, hown, hts⟩ (kX5_remember l D c N a H.size g48  g50 h50) (cwV 0 hts gX5_addOrder_X5_remember rfl rfl rfl (by decide +kernel) ⟨Nat.le_of_ble_eq_true rfl, Nat.le_of_ble_eq_true rfl⟩) hP hK hD hS hA (ci := 5) (q0 := 0) rfl rfl rfl rfl hl.1 (Nat.le_of_ble_eq_true rfl) rfl dX5_addOrder_88 ⟨Nat.zero_le _, Nat.zero_le _⟩ (fun H locs hP hD hS => ?_)
            refine lv_aload_n hx hb dX5_addOrder_91 rfl (lv_at hl 1 rfl) ?_
            refine va_get (D := D) (ci := 5) (v := .ref (a 1)) (C := RX5) (T := TX5) (N := 13) hx hb hts iX5_addOrder_X5 hown hK.1 hP 0 rfl rfl 1 (by decide) (hts _ qX5_addOrder_7) (fun _ h9 => h9) rfl dX5_addOrder_92 ?_
            refine lv_iconst (v := (2 : Int32)) hx hb dX5_addOrder_95 (by decide) ?_
            refine va_iald hx hb hK.1 hP 1 0 rfl rfl (z_inE (by decide)) dX5_addOrder_96 ?_
            refine lv_istore (lv' := [(7, .int (g50 1 ((2 : Int32)).toNatClampNeg)), (6, .int (0 : Int32)), (0, .ref (a 0)), (1, .int p1), (2, .int p2), (3, .int p3), (4, .int p4), (5, .int p5)]) hx hb dX5_addOrder_97 hl (by decide) rfl (fun ls hl => ?_)
            refine lv_aload_n hx hb dX5_addOrder_99 rfl (lv_at hl 2 rfl) ?_
            refine lv_iload hx hb dX5_addOrder_100 (lv_at hl 0 rfl) ?_
            refine lv_iconst (v := (0 : Int32)) hx hb dX5_addOrder_102 (by decide) ?_
            refine lv_iload_n hx hb dX5_addOrder_103 rfl (lv_at hl 3 rfl) ?_
            obtain ⟨g51, h51, hf⟩ := z_bE hf
            refine z_cVv (As := [.int (g50 1 ((2 : Int32)).toNatClampNeg), .int (0 : Int32), .int p1]) (rest := []) (wf := (z_md c a)) (g := g50) (u0 := g51) ⟨hx, hb, hml, hown, hts⟩ (kX5_setPart l D c N a H.size g50 (g50 1 ((2 : Int32)).toNatClampNeg) (0 : Int32) p1 g51 h51) (cwV 3 hts gX5_addOrder_X5_setPart rfl rfl rfl (by decide +kernel) ⟨Nat.le_of_ble_eq_true rfl, Nat.le_of_ble_eq_true rfl⟩) hP hK hD hS hA (ci := 5) (q0 := 0) rfl rfl rfl rfl hl.1 (Nat.le_of_ble_eq_true rfl) rfl dX5_addOrder_104 ⟨Nat.zero_le _, Nat.zero_le _⟩ (fun H locs hP hD hS => ?_)
            refine lv_aload_n hx hb dX5_addOrder_107 rfl (lv_at hl 2 rfl) ?_
            refine lv_iload hx hb dX5_addOrder_108 (lv_at hl 0 rfl) ?_
            refine lv_iconst (v := (1 : Int32)) hx hb dX5_addOrder_110 (by decide) ?_
            refine lv_iload_n hx hb dX5_addOrder_111 rfl (lv_at hl 4 rfl) ?_
            obtain ⟨g52, h52, hf⟩ := z_bE hf
            refine z_cVv (As := [.int (g50 1 ((2 : Int32)).toNatClampNeg), .int (1 : Int32), .int p2]) (rest := []) (wf := (z_md c a)) (g := g51) (u0 := g52) ⟨hx, hb, hml, hown, hts⟩ (kX5_setPart l D c N a H.size g51 (g50 1 ((2 : Int32)).toNatClampNeg) (1 : Int32) p2 g52 h52) (cwV 3 hts gX5_addOrder_X5_setPart rfl rfl rfl (by decide +kernel) ⟨Nat.le_of_ble_eq_true rfl, Nat.le_of_ble_eq_true rfl⟩) hP hK hD hS hA (ci := 5) (q0 := 0) rfl rfl rfl rfl hl.1 (Nat.le_of_ble_eq_true rfl) rfl dX5_addOrder_112 ⟨Nat.zero_le _, Nat.zero_le _⟩ (fun H locs hP hD hS => ?_)
            refine lv_aload_n hx hb dX5_addOrder_115 rfl (lv_at hl 2 rfl) ?_
            refine lv_iload hx hb dX5_addOrder_116 (lv_at hl 0 rfl) ?_
            refine lv_iconst (v := (2 : Int32)) hx hb dX5_addOrder_118 (by decide) ?_
            refine lv_iload_n hx hb dX5_addOrder_119 rfl (lv_at hl 5 rfl) ?_
            obtain ⟨g53, h53, hf⟩ := z_bE hf
            refine z_cVv (As := [.int (g50 1 ((2 : Int32)).toNatClampNeg), .int (2 : Int32), .int p3]) (rest := []) (wf := (z_md c a)) (g := g52) (u0 := g53) ⟨hx, hb, hml, hown, hts⟩ (kX5_setPart l D c N a H.size g52 (g50 1 ((2 : Int32)).toNatClampNeg) (2 : Int32) p3 g53 h53) (cwV 3 hts gX5_addOrder_X5_setPart rfl rfl rfl (by decide +kernel) ⟨Nat.le_of_ble_eq_true rfl, Nat.le_of_ble_eq_true rfl⟩) hP hK hD hS hA (ci := 5) (q0 := 0) rfl rfl rfl rfl hl.1 (Nat.le_of_ble_eq_true rfl) rfl dX5_addOrder_120 ⟨Nat.zero_le _, Nat.zero_le _⟩ (fun H locs hP hD hS => ?_)
            refine lv_aload_n hx hb dX5_addOrder_123 rfl (lv_at hl 2 rfl) ?_
            refine lv_iload hx hb dX5_addOrder_124 (lv_at hl 0 rfl) ?_
            refine lv_iconst (v := (3 : Int32)) hx hb dX5_addOrder_126 (by decide) ?_
            refine lv_iload hx hb dX5_addOrder_127 (lv_at hl 6 rfl) ?_
            obtain ⟨g54, h54, hf⟩ := z_bE hf
            refine z_cVv (As := [.int (g50 1 ((2 : Int32)).toNatClampNeg), .int (3 : Int32), .int p4]) (rest := []) (wf := (z_md c a)) (g := g53) (u0 := g54) ⟨hx, hb, hml, hown, hts⟩ (kX5_setPart l D c N a H.size g53 (g50 1 ((2 : Int32)).toNatClampNeg) (3 : Int32) p4 g54 h54) (cwV 3 hts gX5_addOrder_X5_setPart rfl rfl rfl (by decide +kernel) ⟨Nat.le_of_ble_eq_true rfl, Nat.le_of_ble_eq_true rfl⟩) hP hK hD hS hA (ci := 5) (q0 := 0) rfl rfl rfl rfl hl.1 (Nat.le_of_ble_eq_true rfl) rfl dX5_addOrder_129 ⟨Nat.zero_le _, Nat.zero_le _⟩ (fun H locs hP hD hS => ?_)
            refine lv_aload_n hx hb dX5_addOrder_132 rfl (lv_at hl 2 rfl) ?_
            refine lv_iload hx hb dX5_addOrder_133 (lv_at hl 0 rfl) ?_
            refine lv_iconst (v := (4 : Int32)) hx hb dX5_addOrder_135 (by decide) ?_
            refine lv_iload hx hb dX5_addOrder_136 (lv_at hl 7 rfl) ?_
            obtain ⟨g55, h55, hf⟩ := z_bE hf
            refine z_cVv (As := [.int (g50 1 ((2 : Int32)).toNatClampNeg), .int (4 : Int32), .int p5]) (rest := []) (wf := (z_md c a)) (g := g54) (u0 := g55) ⟨hx, hb, hml, hown, hts⟩ (kX5_setPart l D c N a H.size g54 (g50 1 ((2 : Int32)).toNatClampNeg) (4 : Int32) p5 g55 h55) (cwV 3 hts gX5_addOrder_X5_setPart rfl rfl rfl (by decide +kernel) ⟨Nat.le_of_ble_eq_true rfl, Nat.le_of_ble_eq_true rfl⟩) hP hK hD hS hA (ci := 5) (q0 := 0) rfl rfl rfl rfl hl.1 (Nat.le_of_ble_eq_true rfl) rfl dX5_addOrder_138 ⟨Nat.zero_le _, Nat.zero_le _⟩ (fun H locs hP hD hS => ?_)
            refine lv_aload_n hx hb dX5_addOrder_141 rfl (lv_at hl 2 rfl) ?_
            refine lv_iload hx hb dX5_addOrder_142 (lv_at hl 0 rfl) ?_
            refine lv_iconst (v := (5 : Int32)) hx hb dX5_addOrder_144 (by decide) ?_
            refine lv_iconst (v := (-1 : Int32)) hx hb dX5_addOrder_145 (by decide) ?_
            obtain ⟨g56, h56, hf⟩ := z_bE hf
            refine z_cVv (As := [.int (g50 1 ((2 : Int32)).toNatClampNeg), .int (5 : Int32), .int (-1 : Int32)]) (rest := []) (wf := (z_md c a)) (g := g55) (u0 := g56) ⟨hx, hb, hml, hown, hts⟩ (kX5_setPart l D c N a H.size g55 (g50 1 ((2 : Int32)).toNatClampNeg) (5 : Int32) (-1 : Int32) g56 h56) (cwV 3 hts gX5_addOrder_X5_setPart rfl rfl rfl (by decide +kernel) ⟨Nat.le_of_ble_eq_true rfl, Nat.le_of_ble_eq_true rfl⟩) hP hK hD hS hA (ci := 5) (q0 := 0) rfl rfl rfl rfl hl.1 (Nat.le_of_ble_eq_true rfl) rfl dX5_addOrder_146 ⟨Nat.zero_le _, Nat.zero_le _⟩ (fun H locs hP hD hS => ?_)
            refine lv_aload_n hx hb dX5_addOrder_149 rfl (lv_at hl 2 rfl) ?_
            refine lv_iload hx hb dX5_addOrder_150 (lv_at hl 0 rfl) ?_
            refine lv_bipush (v := (6 : Int32)) hx hb dX5_addOrder_152 (by decide) ?_
            refine lv_iconst (v := (-1 : Int32)) hx hb dX5_addOrder_154 (by decide) ?_
            obtain ⟨g57, h57, hf⟩ := z_bE hf
            refine z_cVv (As := [.int (g50 1 ((2 : Int32)).toNatClampNeg), .int (6 : Int32), .int (-1 : Int32)]) (rest := []) (wf := (z_md c a)) (g := g56) (u0 := g57) ⟨hx, hb, hml, hown, hts⟩ (kX5_setPart l D c N a H.size g56 (g50 1 ((2 : Int32)).toNatClampNeg) (6 : Int32) (-1 : Int32) g57 h57) (cwV 3 hts gX5_addOrder_X5_setPart rfl rfl rfl (by decide +kernel) ⟨Nat.le_of_ble_eq_true rfl, Nat.le_of_ble_eq_true rfl⟩) hP hK hD hS hA (ci := 5) (q0 := 0) rfl rfl rfl rfl hl.1 (Nat.le_of_ble_eq_true rfl) rfl dX5_addOrder_155 ⟨Nat.zero_le _, Nat.zero_le _⟩ (fun H locs hP hD hS => ?_)
            refine lv_aload_n hx hb dX5_addOrder_158 rfl (lv_at hl 2 rfl) ?_
            refine lv_iload hx hb dX5_addOrder_159 (lv_at hl 0 rfl) ?_
            refine lv_bipush (v := (7 : Int32)) hx hb dX5_addOrder_161 (by decide) ?_
            refine lv_iconst (v := (0 : Int32)) hx hb dX5_addOrder_163 (by decide) ?_
            obtain ⟨g58, h58, hf⟩ := z_bE hf
            refine z_cVv (As := [.int (g50 1 ((2 : Int32)).toNatClampNeg), .int (7 : Int32), .int (0 : Int32)]) (rest := []) (wf := (z_md c a)) (g := g57) (u0 := g58) ⟨hx, hb, hml, hown, hts⟩ (kX5_setPart l D c N a H.size g57 (g50 1 ((2 : Int32)).toNatClampNeg) (7 : Int32) (0 : Int32) g58 h58) (cwV 3 hts gX5_addOrder_X5_setPart rfl rfl rfl (by decide +kernel) ⟨Nat.le_of_ble_eq_true rfl, Nat.le_of_ble_eq_true rfl⟩) hP hK hD hS hA (ci := 5) (q0 := 0) rfl rfl rfl rfl hl.1 (Nat.le_of_ble_eq_true rfl) rfl dX5_addOrder_164 ⟨Nat.zero_le _, Nat.zero_le _⟩ (fun H locs hP hD hS => ?_)
            refine lv_aload_n hx hb dX5_addOrder_167 rfl (lv_at hl 2 rfl) ?_
            refine lv_iload hx hb dX5_addOrder_168 (lv_at hl 0 rfl) ?_
            refine lv_bipush (v := (8 : Int32)) hx hb dX5_addOrder_170 (by decide) ?_
            refine lv_iconst (v := (-1 : Int32)) hx hb dX5_addOrder_172 (by decide) ?_
            obtain ⟨g59, h59, hf⟩ := z_bE hf
            refine z_cVv (As := [.int (g50 1 ((2 : Int32)).toNatClampNeg), .int (8 : Int32), .int (-1 : Int32)]) (rest := []) (wf := (z_md c a)) (g := g58) (u0 := g59) ⟨hx, hb, hml, hown, hts⟩ (kX5_setPart l D c N a H.size g58 (g50 1 ((2 : Int32)).toNatClampNeg) (8 : Int32) (-1 : Int32) g59 h59) (cwV 3 hts gX5_addOrder_X5_setPart rfl rfl rfl (by decide +kernel) ⟨Nat.le_of_ble_eq_true rfl, Nat.le_of_ble_eq_true rfl⟩) hP hK hD hS hA (ci := 5) (q0 := 0) rfl rfl rfl rfl hl.1 (Nat.le_of_ble_eq_true rfl) rfl dX5_addOrder_173 ⟨Nat.zero_le _, Nat.zero_le _⟩ (fun H locs hP hD hS => ?_)
            refine lv_aload_n hx hb dX5_addOrder_176 rfl (lv_at hl 2 rfl) ?_
            refine va_get (D := D) (ci := 5) (v := .ref (a 1)) (C := RX5) (T := TX5) (N := 13) hx hb hts iX5_addOrder_X5 hown hK.1 hP 0 rfl rfl 1 (by decide) (hts _ qX5_addOrder_7) (fun _ h9 => h9) rfl dX5_addOrder_177 ?_
            refine lv_iconst (v := (2 : Int32)) hx hb dX5_addOrder_180 (by decide) ?_
            refine lv_dup2_11 hx hb dX5_addOrder_181 rfl rfl ?_
            refine va_iald hx hb hK.1 hP 1 0 rfl rfl (z_inE (by decide)) dX5_addOrder_182 ?_
            refine lv_iconst (v := (1 : Int32)) hx hb dX5_addOrder_183 (by decide) ?_
            refine lv_iadd hx hb dX5_addOrder_184 ?_
            refine va_iast hx hb hK.1 hP hD hS 1 0 rfl rfl (z_inE (by decide)) dX5_addOrder_185 (fun H locs hP hD hS => ?_)
            obtain ⟨g60, e60, hf⟩ := z_ltE hf
            have hP : va_P D vwCl (z_md c a g60) H := by rw [e60]; exact hP
            have hD : va_D A (z_md c a g60) := by rw [e60]; exact hD
            clear e60
            refine lv_iload hx hb dX5_addOrder_186 (lv_at hl 0 rfl) ?_
            exact z_ri (wf := (z_md c a)) hx hb hr hlocks hP hD hS hf dX5_addOrder_188
          · have hf := z_ifF hf c49
            refine lv_iconst (v := (0 : Int32)) hx hb dX5_addOrder_85 (by decide) ?_
            exact z_ri (wf := (z_md c a)) hx hb hr hlocks hP hD hS hf dX5_addOrder_86
        · have hf := z_ifF hf c47
          refine lv_iconst (v := (4 : Int32)) hx hb dX5_addOrder_33 (by decide) ?_
          refine lv_iload hx hb dX5_addOrder_34 (lv_at hl 5 rfl) ?_
          obtain ⟨r61, h61, hf⟩ := z_bE hf
          refine z_cSi (As := [.int (4 : Int32), .int p5]) (rest := []) ⟨hx, hb, hml, hown, hts⟩ (kX5_isInRange l D c N H.size (4 : Int32) p5 r61 h61) (va_cwS 2 hts gX5_addOrder_X5_isInRange rfl rfl rfl (by decide +kernel) ⟨Nat.le_of_ble_eq_true rfl, Nat.le_of_ble_eq_true rfl⟩) hP hK hS hA rfl hl.1 (Nat.le_of_ble_eq_true rfl) rfl dX5_addOrder_36 ⟨Nat.zero_le _, Nat.zero_le _⟩ (fun H locs hP hS => ?_)
          refine lv_if_eq (tgt := 46) hx hb dX5_addOrder_39 (by decide) (fun c62 => ?_) (fun c62 => ?_)
          · have hf := z_ifT hf c62
            refine lv_iconst (v := (0 : Int32)) hx hb dX5_addOrder_46 (by decide) ?_
            refine lv_istore (lv' := [(6, .int (0 : Int32)), (0, .ref (a 0)), (1, .int p1), (2, .int p2), (3, .int p3), (4, .int p4), (5, .int p5)]) hx hb dX5_addOrder_47 hl (by decide) rfl (fun ls hl => ?_)
            refine lv_aload_n hx hb dX5_addOrder_49 rfl (lv_at hl 1 rfl) ?_
            refine lv_iload hx hb dX5_addOrder_50 (lv_at hl 0 rfl) ?_
            refine lv_if_ne (tgt := 59) hx hb dX5_addOrder_52 (by decide) (fun c => absurd c (by decide)) (fun _ => ?_)
            refine lv_iconst (v := (1 : Int32)) hx hb dX5_addOrder_55 (by decide) ?_
            refine lv_goto (tgt := 75) hx hb dX5_addOrder_56 (by decide) ?_
            refine va_put (D := D) (ci := 5) (v := .int (1 : Int32)) (ty := .int) (C := RX5) (T := TX5) (N := 13) hx hb hts iX5_addOrder_X5 tyX5 tyX5_ok nmX5 hown hK.1 hP hD hS 0 rfl rfl 0 (by decide) (hts _ qX5_addOrder_37) (fun _ h9 => h9) rfl (by decide +kernel) rfl rfl (Nat.le_of_ble_eq_true rfl) dX5_addOrder_75 (fun H locs hP hD hS => ?_)
            obtain ⟨g63, e63, hf⟩ := z_ltE hf
            have hP : va_P D vwCl (z_md c a g63) H := by rw [e63]; exact hP
            have hD : va_D A (z_md c a g63) := by rw [e63]; exact hD
            clear e63
            refine lv_aload_n hx hb dX5_addOrder_78 rfl (lv_at hl 1 rfl) ?_
            refine va_get (D := D) (ci := 5) (v := .int (g63 0 0)) (C := RX5) (T := TX5) (N := 13) hx hb hts iX5_addOrder_X5 hown hK.1 hP 0 rfl rfl 0 (by decide) (hts _ qX5_addOrder_37) (fun _ h9 => h9) rfl dX5_addOrder_79 ?_
            refine lv_if_le (tgt := 87) hx hb dX5_addOrder_82 (by decide) (fun c64 => ?_) (fun c64 => ?_)
            · have hf := z_ifT hf c64
              refine lv_aload_n hx hb dX5_addOrder_87 rfl (lv_at hl 1 rfl) ?_
              obtain ⟨g65, h65, hf⟩ := z_bE hf
              refine z_cVv (As := []) (rest := []) (wf := (z_md c a)) (g := g63) (u0 := g65) ⟨hx, hb, hml, hown, hts⟩ (kX5_remember l D c N a H.size g63  g65 h65) (cwV 0 hts gX5_addOrder_X5_remember rfl rfl rfl (by decide +kernel) ⟨Nat.le_of_ble_eq_true rfl, Nat.le_of_ble_eq_true rfl⟩) hP hK hD hS hA (ci := 5) (q0 := 0) rfl rfl rfl rfl hl.1 (Nat.le_of_ble_eq_true rfl) rfl dX5_addOrder_88 ⟨Nat.zero_le _, Nat.zero_le _⟩ (fun H locs hP hD hS => ?_)
              refine lv_aload_n hx hb dX5_addOrder_91 rfl (lv_at hl 1 rfl) ?_
              refine va_get (D := D) (ci := 5) (v := .ref (a 1)) (C := RX5) (T := TX5) (N := 13) hx hb hts iX5_addOrder_X5 hown hK.1 hP 0 rfl rfl 1 (by decide) (hts _ qX5_addOrder_7) (fun _ h9 => h9) rfl dX5_addOrder_92 ?_
              refine lv_iconst (v := (2 : Int32)) hx hb dX5_addOrder_95 (by decide) ?_
              refine va_iald hx hb hK.1 hP 1 0 rfl rfl (z_inE (by decide)) dX5_addOrder_96 ?_
              refine lv_istore (lv' := [(7, .int (g65 1 ((2 : Int32)).toNatClampNeg)), (6, .int (0 : Int32)), (0, .ref (a 0)), (1, .int p1), (2, .int p2), (3, .int p3), (4, .int p4), (5, .int p5)]) hx hb dX5_addOrder_97 hl (by decide) rfl (fun ls hl => ?_)
              refine lv_aload_n hx hb dX5_addOrder_99 rfl (lv_at hl 2 rfl) ?_
              refine lv_iload hx hb dX5_addOrder_100 (lv_at hl 0 rfl) ?_
              refine lv_iconst (v := (0 : Int32)) hx hb dX5_addOrder_102 (by decide) ?_
              refine lv_iload_n hx hb dX5_addOrder_103 rfl (lv_at hl 3 rfl) ?_
              obtain ⟨g66, h66, hf⟩ := z_bE hf
              refine z_cVv (As := [.int (g65 1 ((2 : Int32)).toNatClampNeg), .int (0 : Int32), .int p1]) (rest := []) (wf := (z_md c a)) (g := g65) (u0 := g66) ⟨hx, hb, hml, hown, hts⟩ (kX5_setPart l D c N a H.size g65 (g65 1 ((2 : Int32)).toNatClampNeg) (0 : Int32) p1 g66 h66) (cwV 3 hts gX5_addOrder_X5_setPart rfl rfl rfl (by decide +kernel) ⟨Nat.le_of_ble_eq_true rfl, Nat.le_of_ble_eq_true rfl⟩) hP hK hD hS hA (ci := 5) (q0 := 0) rfl rfl rfl rfl hl.1 (Nat.le_of_ble_eq_true rfl) rfl dX5_addOrder_104 ⟨Nat.zero_le _, Nat.zero_le _⟩ (fun H locs hP hD hS => ?_)
              refine lv_aload_n hx hb dX5_addOrder_107 rfl (lv_at hl 2 rfl) ?_
              refine lv_iload hx hb dX5_addOrder_108 (lv_at hl 0 rfl) ?_
              refine lv_iconst (v := (1 : Int32)) hx hb dX5_addOrder_110 (by decide) ?_
              refine lv_iload_n hx hb dX5_addOrder_111 rfl (lv_at hl 4 rfl) ?_
              obtain ⟨g67, h67, hf⟩ := z_bE hf
              refine z_cVv (As := [.int (g65 1 ((2 : Int32)).toNatClampNeg), .int (1 : Int32), .int p2]) (rest := []) (wf := (z_md c a)) (g := g66) (u0 := g67) ⟨hx, hb, hml, hown, hts⟩ (kX5_setPart l D c N a H.size g66 (g65 1 ((2 : Int32)).toNatClampNeg) (1 : Int32) p2 g67 h67) (cwV 3 hts gX5_addOrder_X5_setPart rfl rfl rfl (by decide +kernel) ⟨Nat.le_of_ble_eq_true rfl, Nat.le_of_ble_eq_true rfl⟩) hP hK hD hS hA (ci := 5) (q0 := 0) rfl rfl rfl rfl hl.1 (Nat.le_of_ble_eq_true rfl) rfl dX5_addOrder_112 ⟨Nat.zero_le _, Nat.zero_le _⟩ (fun H locs hP hD hS => ?_)
              refine lv_aload_n hx hb dX5_addOrder_115 rfl (lv_at hl 2 rfl) ?_
              refine lv_iload hx hb dX5_addOrder_116 (lv_at hl 0 rfl) ?_
              refine lv_iconst (v := (2 : Int32)) hx hb dX5_addOrder_118 (by decide) ?_
              refine lv_iload_n hx hb dX5_addOrder_119 rfl (lv_at hl 5 rfl) ?_
              obtain ⟨g68, h68, hf⟩ := z_bE hf
              refine z_cVv (As := [.int (g65 1 ((2 : Int32)).toNatClampNeg), .int (2 : Int32), .int p3]) (rest := []) (wf := (z_md c a)) (g := g67) (u0 := g68) ⟨hx, hb, hml, hown, hts⟩ (kX5_setPart l D c N a H.size g67 (g65 1 ((2 : Int32)).toNatClampNeg) (2 : Int32) p3 g68 h68) (cwV 3 hts gX5_addOrder_X5_setPart rfl rfl rfl (by decide +kernel) ⟨Nat.le_of_ble_eq_true rfl, Nat.le_of_ble_eq_true rfl⟩) hP hK hD hS hA (ci := 5) (q0 := 0) rfl rfl rfl rfl hl.1 (Nat.le_of_ble_eq_true rfl) rfl dX5_addOrder_120 ⟨Nat.zero_le _, Nat.zero_le _⟩ (fun H locs hP hD hS => ?_)
              refine lv_aload_n hx hb dX5_addOrder_123 rfl (lv_at hl 2 rfl) ?_
              refine lv_iload hx hb dX5_addOrder_124 (lv_at hl 0 rfl) ?_
              refine lv_iconst (v := (3 : Int32)) hx hb dX5_addOrder_126 (by decide) ?_
              refine lv_iload hx hb dX5_addOrder_127 (lv_at hl 6 rfl) ?_
              obtain ⟨g69, h69, hf⟩ := z_bE hf
              refine z_cVv (As := [.int (g65 1 ((2 : Int32)).toNatClampNeg), .int (3 : Int32), .int p4]) (rest := []) (wf := (z_md c a)) (g := g68) (u0 := g69) ⟨hx, hb, hml, hown, hts⟩ (kX5_setPart l D c N a H.size g68 (g65 1 ((2 : Int32)).toNatClampNeg) (3 : Int32) p4 g69 h69) (cwV 3 hts gX5_addOrder_X5_setPart rfl rfl rfl (by decide +kernel) ⟨Nat.le_of_ble_eq_true rfl, Nat.le_of_ble_eq_true rfl⟩) hP hK hD hS hA (ci := 5) (q0 := 0) rfl rfl rfl rfl hl.1 (Nat.le_of_ble_eq_true rfl) rfl dX5_addOrder_129 ⟨Nat.zero_le _, Nat.zero_le _⟩ (fun H locs hP hD hS => ?_)
              refine lv_aload_n hx hb dX5_addOrder_132 rfl (lv_at hl 2 rfl) ?_
              refine lv_iload hx hb dX5_addOrder_133 (lv_at hl 0 rfl) ?_
              refine lv_iconst (v := (4 : Int32)) hx hb dX5_addOrder_135 (by decide) ?_
              refine lv_iload hx hb dX5_addOrder_136 (lv_at hl 7 rfl) ?_
              obtain ⟨g70, h70, hf⟩ := z_bE hf
              refine z_cVv (As := [.int (g65 1 ((2 : Int32)).toNatClampNeg), .int (4 : Int32), .int p5]) (rest := []) (wf := (z_md c a)) (g := g69) (u0 := g70) ⟨hx, hb, hml, hown, hts⟩ (kX5_setPart l D c N a H.size g69 (g65 1 ((2 : Int32)).toNatClampNeg) (4 : Int32) p5 g70 h70) (cwV 3 hts gX5_addOrder_X5_setPart rfl rfl rfl (by decide +kernel) ⟨Nat.le_of_ble_eq_true rfl, Nat.le_of_ble_eq_true rfl⟩) hP hK hD hS hA (ci := 5) (q0 := 0) rfl rfl rfl rfl hl.1 (Nat.le_of_ble_eq_true rfl) rfl dX5_addOrder_138 ⟨Nat.zero_le _, Nat.zero_le _⟩ (fun H locs hP hD hS => ?_)
              refine lv_aload_n hx hb dX5_addOrder_141 rfl (lv_at hl 2 rfl) ?_
              refine lv_iload hx hb dX5_addOrder_142 (lv_at hl 0 rfl) ?_
              refine lv_iconst (v := (5 : Int32)) hx hb dX5_addOrder_144 (by decide) ?_
              refine lv_iconst (v := (-1 : Int32)) hx hb dX5_addOrder_145 (by decide) ?_
              obtain ⟨g71, h71, hf⟩ := z_bE hf
              refine z_cVv (As := [.int (g65 1 ((2 : Int32)).toNatClampNeg), .int (5 : Int32), .int (-1 : Int32)]) (rest := []) (wf := (z_md c a)) (g := g70) (u0 := g71) ⟨hx, hb, hml, hown, hts⟩ (kX5_setPart l D c N a H.size g70 (g65 1 ((2 : Int32)).toNatClampNeg) (5 : Int32) (-1 : Int32) g71 h71) (cwV 3 hts gX5_addOrder_X5_setPart rfl rfl rfl (by decide +kernel) ⟨Nat.le_of_ble_eq_true rfl, Nat.le_of_ble_eq_true rfl⟩) hP hK hD hS hA (ci := 5) (q0 := 0) rfl rfl rfl rfl hl.1 (Nat.le_of_ble_eq_true rfl) rfl dX5_addOrder_146 ⟨Nat.zero_le _, Nat.zero_le _⟩ (fun H locs hP hD hS => ?_)
              refine lv_aload_n hx hb dX5_addOrder_149 rfl (lv_at hl 2 rfl) ?_
              refine lv_iload hx hb dX5_addOrder_150 (lv_at hl 0 rfl) ?_
              refine lv_bipush (v := (6 : Int32)) hx hb dX5_addOrder_152 (by decide) ?_
              refine lv_iconst (v := (-1 : Int32)) hx hb dX5_addOrder_154 (by decide) ?_
              obtain ⟨g72, h72, hf⟩ := z_bE hf
              refine z_cVv (As := [.int (g65 1 ((2 : Int32)).toNatClampNeg), .int (6 : Int32), .int (-1 : Int32)]) (rest := []) (wf := (z_md c a)) (g := g71) (u0 := g72) ⟨hx, hb, hml, hown, hts⟩ (kX5_setPart l D c N a H.size g71 (g65 1 ((2 : Int32)).toNatClampNeg) (6 : Int32) (-1 : Int32) g72 h72) (cwV 3 hts gX5_addOrder_X5_setPart rfl rfl rfl (by decide +kernel) ⟨Nat.le_of_ble_eq_true rfl, Nat.le_of_ble_eq_true rfl⟩) hP hK hD hS hA (ci := 5) (q0 := 0) rfl rfl rfl rfl hl.1 (Nat.le_of_ble_eq_true rfl) rfl dX5_addOrder_155 ⟨Nat.zero_le _, Nat.zero_le _⟩ (fun H locs hP hD hS => ?_)
              refine lv_aload_n hx hb dX5_addOrder_158 rfl (lv_at hl 2 rfl) ?_
              refine lv_iload hx hb dX5_addOrder_159 (lv_at hl 0 rfl) ?_
              refine lv_bipush (v := (7 : Int32)) hx hb dX5_addOrder_161 (by decide) ?_
              refine lv_iconst (v := (0 : Int32)) hx hb dX5_addOrder_163 (by decide) ?_
              obtain ⟨g73, h73, hf⟩ := z_bE hf
              refine z_cVv (As := [.int (g65 1 ((2 : Int32)).toNatClampNeg), .int (7 : Int32), .int (0 : Int32)]) (rest := []) (wf := (z_md c a)) (g := g72) (u0 := g73) ⟨hx, hb, hml, hown, hts⟩ (kX5_setPart l D c N a H.size g72 (g65 1 ((2 : Int32)).toNatClampNeg) (7 : Int32) (0 : Int32) g73 h73) (cwV 3 hts gX5_addOrder_X5_setPart rfl rfl rfl (by decide +kernel) ⟨Nat.le_of_ble_eq_true rfl, Nat.le_of_ble_eq_true rfl⟩) hP hK hD hS hA (ci := 5) (q0 := 0) rfl rfl rfl rfl hl.1 (Nat.le_of_ble_eq_true rfl) rfl dX5_addOrder_164 ⟨Nat.zero_le _, Nat.zero_le _⟩ (fun H locs hP hD hS => ?_)
              refine lv_aload_n hx hb dX5_addOrder_167 rfl (lv_at hl 2 rfl) ?_
              refine lv_iload hx hb dX5_addOrder_168 (lv_at hl 0 rfl) ?_
              refine lv_bipush (v := (8 : Int32)) hx hb dX5_addOrder_170 (by decide) ?_
              refine lv_iconst (v := (-1 : Int32)) hx hb dX5_addOrder_172 (by decide) ?_
              obtain ⟨g74, h74, hf⟩ := z_bE hf
              refine z_cVv (As := [.int (g65 1 ((2 : Int32)).toNatClampNeg), .int (8 : Int32), .int (-1 : Int32)]) (rest := []) (wf := (z_md c a)) (g := g73) (u0 := g74) ⟨hx, hb, hml, hown, hts⟩ (kX5_setPart l D c N a H.size g73 (g65 1 ((2 : Int32)).toNatClampNeg) (8 : Int32) (-1 : Int32) g74 h74) (cwV 3 hts gX5_addOrder_X5_setPart rfl rfl rfl (by decide +kernel) ⟨Nat.le_of_ble_eq_true rfl, Nat.le_of_ble_eq_true rfl⟩) hP hK hD hS hA (ci := 5) (q0 := 0) rfl rfl rfl rfl hl.1 (Nat.le_of_ble_eq_true rfl) rfl dX5_addOrder_173 ⟨Nat.zero_le _, Nat.zero_le _⟩ (fun H locs hP hD hS => ?_)
              refine lv_aload_n hx hb dX5_addOrder_176 rfl (lv_at hl 2 rfl) ?_
              refine va_get (D := D) (ci := 5) (v := .ref (a 1)) (C := RX5) (T := TX5) (N := 13) hx hb hts iX5_addOrder_X5 hown hK.1 hP 0 rfl rfl 1 (by decide) (hts _ qX5_addOrder_7) (fun _ h9 => h9) rfl dX5_addOrder_177 ?_
              refine lv_iconst (v := (2 : Int32)) hx hb dX5_addOrder_180 (by decide) ?_
              refine lv_dup2_11 hx hb dX5_addOrder_181 rfl rfl ?_
              refine va_iald hx hb hK.1 hP 1 0 rfl rfl (z_inE (by decide)) dX5_addOrder_182 ?_
              refine lv_iconst (v := (1 : Int32)) hx hb dX5_addOrder_183 (by decide) ?_
              refine lv_iadd hx hb dX5_addOrder_184 ?_
              refine va_iast hx hb hK.1 hP hD hS 1 0 rfl rfl (z_inE (by decide)) dX5_addOrder_185 (fun H locs hP hD hS => ?_)
              obtain ⟨g75, e75, hf⟩ := z_ltE hf
              have hP : va_P D vwCl (z_md c a g75) H := by rw [e75]; exact hP
              have hD : va_D A (z_md c a g75) := by rw [e75]; exact hD
              clear e75
              refine lv_iload hx hb dX5_addOrder_186 (lv_at hl 0 rfl) ?_
              exact z_ri (wf := (z_md c a)) hx hb hr hlocks hP hD hS hf dX5_addOrder_188
            · have hf := z_ifF hf c64
              refine lv_iconst (v := (0 : Int32)) hx hb dX5_addOrder_85 (by decide) ?_
              exact z_ri (wf := (z_md c a)) hx hb hr hlocks hP hD hS hf dX5_addOrder_86
          · have hf := z_ifF hf c62
            refine lv_iconst (v := (1 : Int32)) hx hb dX5_addOrder_42 (by decide) ?_
            refine lv_goto (tgt := 47) hx hb dX5_addOrder_43 (by decide) ?_
            refine lv_istore (lv' := [(6, .int (1 : Int32)), (0, .ref (a 0)), (1, .int p1), (2, .int p2), (3, .int p3), (4, .int p4), (5, .int p5)]) hx hb dX5_addOrder_47 hl (by decide) rfl (fun ls hl => ?_)
            refine lv_aload_n hx hb dX5_addOrder_49 rfl (lv_at hl 1 rfl) ?_
            refine lv_iload hx hb dX5_addOrder_50 (lv_at hl 0 rfl) ?_
            refine lv_if_ne (tgt := 59) hx hb dX5_addOrder_52 (by decide) (fun _ => ?_) (fun c => absurd c (by decide))
            refine lv_aload_n hx hb dX5_addOrder_59 rfl (lv_at hl 1 rfl) ?_
            refine va_get (D := D) (ci := 5) (v := .ref (a 1)) (C := RX5) (T := TX5) (N := 13) hx hb hts iX5_addOrder_X5 hown hK.1 hP 0 rfl rfl 1 (by decide) (hts _ qX5_addOrder_7) (fun _ h9 => h9) rfl dX5_addOrder_60 ?_
            refine lv_iconst (v := (2 : Int32)) hx hb dX5_addOrder_63 (by decide) ?_
            refine va_iald hx hb hK.1 hP 1 0 rfl rfl (z_inE (by decide)) dX5_addOrder_64 ?_
            refine lv_bipush (v := (16 : Int32)) hx hb dX5_addOrder_65 (by decide) ?_
            refine lv_icmp_ne (tgt := 74) hx hb dX5_addOrder_67 (by decide) (fun c76 => ?_) (fun c76 => ?_)
            · have hf := z_ifF hf c76
              refine lv_iconst (v := (0 : Int32)) hx hb dX5_addOrder_74 (by decide) ?_
              refine va_put (D := D) (ci := 5) (v := .int (0 : Int32)) (ty := .int) (C := RX5) (T := TX5) (N := 13) hx hb hts iX5_addOrder_X5 tyX5 tyX5_ok nmX5 hown hK.1 hP hD hS 0 rfl rfl 0 (by decide) (hts _ qX5_addOrder_37) (fun _ h9 => h9) rfl (by decide +kernel) rfl rfl (Nat.le_of_ble_eq_true rfl) dX5_addOrder_75 (fun H locs hP hD hS => ?_)
              obtain ⟨g77, e77, hf⟩ := z_ltE hf
              have hP : va_P D vwCl (z_md c a g77) H := by rw [e77]; exact hP
              have hD : va_D A (z_md c a g77) := by rw [e77]; exact hD
              clear e77
              refine lv_aload_n hx hb dX5_addOrder_78 rfl (lv_at hl 1 rfl) ?_
              refine va_get (D := D) (ci := 5) (v := .int (g77 0 0)) (C := RX5) (T := TX5) (N := 13) hx hb hts iX5_addOrder_X5 hown hK.1 hP 0 rfl rfl 0 (by decide) (hts _ qX5_addOrder_37) (fun _ h9 => h9) rfl dX5_addOrder_79 ?_
              refine lv_if_le (tgt := 87) hx hb dX5_addOrder_82 (by decide) (fun c78 => ?_) (fun c78 => ?_)
              · have hf := z_ifT hf c78
                refine lv_aload_n hx hb dX5_addOrder_87 rfl (lv_at hl 1 rfl) ?_
                obtain ⟨g79, h79, hf⟩ := z_bE hf
                refine z_cVv (As := []) (rest := []) (wf := (z_md c a)) (g := g77) (u0 := g79) ⟨hx, hb, hml, hown, hts⟩ (kX5_remember l D c N a H.size g77  g79 h79) (cwV 0 hts gX5_addOrder_X5_remember rfl rfl rfl (by decide +kernel) ⟨Nat.le_of_ble_eq_true rfl, Nat.le_of_ble_eq_true rfl⟩) hP hK hD hS hA (ci := 5) (q0 := 0) rfl rfl rfl rfl hl.1 (Nat.le_of_ble_eq_true rfl) rfl dX5_addOrder_88 ⟨Nat.zero_le _, Nat.zero_le _⟩ (fun H locs hP hD hS => ?_)
                refine lv_aload_n hx hb dX5_addOrder_91 rfl (lv_at hl 1 rfl) ?_
                refine va_get (D := D) (ci := 5) (v := .ref (a 1)) (C := RX5) (T := TX5) (N := 13) hx hb hts iX5_addOrder_X5 hown hK.1 hP 0 rfl rfl 1 (by decide) (hts _ qX5_addOrder_7) (fun _ h9 => h9) rfl dX5_addOrder_92 ?_
                refine lv_iconst (v := (2 : Int32)) hx hb dX5_addOrder_95 (by decide) ?_
                refine va_iald hx hb hK.1 hP 1 0 rfl rfl (z_inE (by decide)) dX5_addOrder_96 ?_
                refine lv_istore (lv' := [(7, .int (g79 1 ((2 : Int32)).toNatClampNeg)), (6, .int (1 : Int32)), (0, .ref (a 0)), (1, .int p1), (2, .int p2), (3, .int p3), (4, .int p4), (5, .int p5)]) hx hb dX5_addOrder_97 hl (by decide) rfl (fun ls hl => ?_)
                refine lv_aload_n hx hb dX5_addOrder_99 rfl (lv_at hl 2 rfl) ?_
                refine lv_iload hx hb dX5_addOrder_100 (lv_at hl 0 rfl) ?_
                refine lv_iconst (v := (0 : Int32)) hx hb dX5_addOrder_102 (by decide) ?_
                refine lv_iload_n hx hb dX5_addOrder_103 rfl (lv_at hl 3 rfl) ?_
                obtain ⟨g80, h80, hf⟩ := z_bE hf
                refine z_cVv (As := [.int (g79 1 ((2 : Int32)).toNatClampNeg), .int (0 : Int32), .int p1]) (rest := []) (wf := (z_md c a)) (g := g79) (u0 := g80) ⟨hx, hb, hml, hown, hts⟩ (kX5_setPart l D c N a H.size g79 (g79 1 ((2 : Int32)).toNatClampNeg) (0 : Int32) p1 g80 h80) (cwV 3 hts gX5_addOrder_X5_setPart rfl rfl rfl (by decide +kernel) ⟨Nat.le_of_ble_eq_true rfl, Nat.le_of_ble_eq_true rfl⟩) hP hK hD hS hA (ci := 5) (q0 := 0) rfl rfl rfl rfl hl.1 (Nat.le_of_ble_eq_true rfl) rfl dX5_addOrder_104 ⟨Nat.zero_le _, Nat.zero_le _⟩ (fun H locs hP hD hS => ?_)
                refine lv_aload_n hx hb dX5_addOrder_107 rfl (lv_at hl 2 rfl) ?_
                refine lv_iload hx hb dX5_addOrder_108 (lv_at hl 0 rfl) ?_
                refine lv_iconst (v := (1 : Int32)) hx hb dX5_addOrder_110 (by decide) ?_
                refine lv_iload_n hx hb dX5_addOrder_111 rfl (lv_at hl 4 rfl) ?_
                obtain ⟨g81, h81, hf⟩ := z_bE hf
                refine z_cVv (As := [.int (g79 1 ((2 : Int32)).toNatClampNeg), .int (1 : Int32), .int p2]) (rest := []) (wf := (z_md c a)) (g := g80) (u0 := g81) ⟨hx, hb, hml, hown, hts⟩ (kX5_setPart l D c N a H.size g80 (g79 1 ((2 : Int32)).toNatClampNeg) (1 : Int32) p2 g81 h81) (cwV 3 hts gX5_addOrder_X5_setPart rfl rfl rfl (by decide +kernel) ⟨Nat.le_of_ble_eq_true rfl, Nat.le_of_ble_eq_true rfl⟩) hP hK hD hS hA (ci := 5) (q0 := 0) rfl rfl rfl rfl hl.1 (Nat.le_of_ble_eq_true rfl) rfl dX5_addOrder_112 ⟨Nat.zero_le _, Nat.zero_le _⟩ (fun H locs hP hD hS => ?_)
                refine lv_aload_n hx hb dX5_addOrder_115 rfl (lv_at hl 2 rfl) ?_
                refine lv_iload hx hb dX5_addOrder_116 (lv_at hl 0 rfl) ?_
                refine lv_iconst (v := (2 : Int32)) hx hb dX5_addOrder_118 (by decide) ?_
                refine lv_iload_n hx hb dX5_addOrder_119 rfl (lv_at hl 5 rfl) ?_
                obtain ⟨g82, h82, hf⟩ := z_bE hf
                refine z_cVv (As := [.int (g79 1 ((2 : Int32)).toNatClampNeg), .int (2 : Int32), .int p3]) (rest := []) (wf := (z_md c a)) (g := g81) (u0 := g82) ⟨hx, hb, hml, hown, hts⟩ (kX5_setPart l D c N a H.size g81 (g79 1 ((2 : Int32)).toNatClampNeg) (2 : Int32) p3 g82 h82) (cwV 3 hts gX5_addOrder_X5_setPart rfl rfl rfl (by decide +kernel) ⟨Nat.le_of_ble_eq_true rfl, Nat.le_of_ble_eq_true rfl⟩) hP hK hD hS hA (ci := 5) (q0 := 0) rfl rfl rfl rfl hl.1 (Nat.le_of_ble_eq_true rfl) rfl dX5_addOrder_120 ⟨Nat.zero_le _, Nat.zero_le _⟩ (fun H locs hP hD hS => ?_)
                refine lv_aload_n hx hb dX5_addOrder_123 rfl (lv_at hl 2 rfl) ?_
                refine lv_iload hx hb dX5_addOrder_124 (lv_at hl 0 rfl) ?_
                refine lv_iconst (v := (3 : Int32)) hx hb dX5_addOrder_126 (by decide) ?_
                refine lv_iload hx hb dX5_addOrder_127 (lv_at hl 6 rfl) ?_
                obtain ⟨g83, h83, hf⟩ := z_bE hf
                refine z_cVv (As := [.int (g79 1 ((2 : Int32)).toNatClampNeg), .int (3 : Int32), .int p4]) (rest := []) (wf := (z_md c a)) (g := g82) (u0 := g83) ⟨hx, hb, hml, hown, hts⟩ (kX5_setPart l D c N a H.size g82 (g79 1 ((2 : Int32)).toNatClampNeg) (3 : Int32) p4 g83 h83) (cwV 3 hts gX5_addOrder_X5_setPart rfl rfl rfl (by decide +kernel) ⟨Nat.le_of_ble_eq_true rfl, Nat.le_of_ble_eq_true rfl⟩) hP hK hD hS hA (ci := 5) (q0 := 0) rfl rfl rfl rfl hl.1 (Nat.le_of_ble_eq_true rfl) rfl dX5_addOrder_129 ⟨Nat.zero_le _, Nat.zero_le _⟩ (fun H locs hP hD hS => ?_)
                refine lv_aload_n hx hb dX5_addOrder_132 rfl (lv_at hl 2 rfl) ?_
                refine lv_iload hx hb dX5_addOrder_133 (lv_at hl 0 rfl) ?_
                refine lv_iconst (v := (4 : Int32)) hx hb dX5_addOrder_135 (by decide) ?_
                refine lv_iload hx hb dX5_addOrder_136 (lv_at hl 7 rfl) ?_
                obtain ⟨g84, h84, hf⟩ := z_bE hf
                refine z_cVv (As := [.int (g79 1 ((2 : Int32)).toNatClampNeg), .int (4 : Int32), .int p5]) (rest := []) (wf := (z_md c a)) (g := g83) (u0 := g84) ⟨hx, hb, hml, hown, hts⟩ (kX5_setPart l D c N a H.size g83 (g79 1 ((2 : Int32)).toNatClampNeg) (4 : Int32) p5 g84 h84) (cwV 3 hts gX5_addOrder_X5_setPart rfl rfl rfl (by decide +kernel) ⟨Nat.le_of_ble_eq_true rfl, Nat.le_of_ble_eq_true rfl⟩) hP hK hD hS hA (ci := 5) (q0 := 0) rfl rfl rfl rfl hl.1 (Nat.le_of_ble_eq_true rfl) rfl dX5_addOrder_138 ⟨Nat.zero_le _, Nat.zero_le _⟩ (fun H locs hP hD hS => ?_)
                refine lv_aload_n hx hb dX5_addOrder_141 rfl (lv_at hl 2 rfl) ?_
                refine lv_iload hx hb dX5_addOrder_142 (lv_at hl 0 rfl) ?_
                refine lv_iconst (v := (5 : Int32)) hx hb dX5_addOrder_144 (by decide) ?_
                refine lv_iconst (v := (-1 : Int32)) hx hb dX5_addOrder_145 (by decide) ?_
                obtain ⟨g85, h85, hf⟩ := z_bE hf
                refine z_cVv (As := [.int (g79 1 ((2 : Int32)).toNatClampNeg), .int (5 : Int32), .int (-1 : Int32)]) (rest := []) (wf := (z_md c a)) (g := g84) (u0 := g85) ⟨hx, hb, hml, hown, hts⟩ (kX5_setPart l D c N a H.size g84 (g79 1 ((2 : Int32)).toNatClampNeg) (5 : Int32) (-1 : Int32) g85 h85) (cwV 3 hts gX5_addOrder_X5_setPart rfl rfl rfl (by decide +kernel) ⟨Nat.le_of_ble_eq_true rfl, Nat.le_of_ble_eq_true rfl⟩) hP hK hD hS hA (ci := 5) (q0 := 0) rfl rfl rfl rfl hl.1 (Nat.le_of_ble_eq_true rfl) rfl dX5_addOrder_146 ⟨Nat.zero_le _, Nat.zero_le _⟩ (fun H locs hP hD hS => ?_)
                refine lv_aload_n hx hb dX5_addOrder_149 rfl (lv_at hl 2 rfl) ?_
                refine lv_iload hx hb dX5_addOrder_150 (lv_at hl 0 rfl) ?_
                refine lv_bipush (v := (6 : Int32)) hx hb dX5_addOrder_152 (by decide) ?_
                refine lv_iconst (v := (-1 : Int32)) hx hb dX5_addOrder_154 (by decide) ?_
                obtain ⟨g86, h86, hf⟩ := z_bE hf
                refine z_cVv (As := [.int (g79 1 ((2 : Int32)).toNatClampNeg), .int (6 : Int32), .int (-1 : Int32)]) (rest := []) (wf := (z_md c a)) (g := g85) (u0 := g86) ⟨hx, hb, hml, hown, hts⟩ (kX5_setPart l D c N a H.size g85 (g79 1 ((2 : Int32)).toNatClampNeg) (6 : Int32) (-1 : Int32) g86 h86) (cwV 3 hts gX5_addOrder_X5_setPart rfl rfl rfl (by decide +kernel) ⟨Nat.le_of_ble_eq_true rfl, Nat.le_of_ble_eq_true rfl⟩) hP hK hD hS hA (ci := 5) (q0 := 0) rfl rfl rfl rfl hl.1 (Nat.le_of_ble_eq_true rfl) rfl dX5_addOrder_155 ⟨Nat.zero_le _, Nat.zero_le _⟩ (fun H locs hP hD hS => ?_)
                refine lv_aload_n hx hb dX5_addOrder_158 rfl (lv_at hl 2 rfl) ?_
                refine lv_iload hx hb dX5_addOrder_159 (lv_at hl 0 rfl) ?_
                refine lv_bipush (v := (7 : Int32)) hx hb dX5_addOrder_161 (by decide) ?_
                refine lv_iconst (v := (0 : Int32)) hx hb dX5_addOrder_163 (by decide) ?_
                obtain ⟨g87, h87, hf⟩ := z_bE hf
                refine z_cVv (As := [.int (g79 1 ((2 : Int32)).toNatClampNeg), .int (7 : Int32), .int (0 : Int32)]) (rest := []) (wf := (z_md c a)) (g := g86) (u0 := g87) ⟨hx, hb, hml, hown, hts⟩ (kX5_setPart l D c N a H.size g86 (g79 1 ((2 : Int32)).toNatClampNeg) (7 : Int32) (0 : Int32) g87 h87) (cwV 3 hts gX5_addOrder_X5_setPart rfl rfl rfl (by decide +kernel) ⟨Nat.le_of_ble_eq_true rfl, Nat.le_of_ble_eq_true rfl⟩) hP hK hD hS hA (ci := 5) (q0 := 0) rfl rfl rfl rfl hl.1 (Nat.le_of_ble_eq_true rfl) rfl dX5_addOrder_164 ⟨Nat.zero_le _, Nat.zero_le _⟩ (fun H locs hP hD hS => ?_)
                refine lv_aload_n hx hb dX5_addOrder_167 rfl (lv_at hl 2 rfl) ?_
                refine lv_iload hx hb dX5_addOrder_168 (lv_at hl 0 rfl) ?_
                refine lv_bipush (v := (8 : Int32)) hx hb dX5_addOrder_170 (by decide) ?_
                refine lv_iconst (v := (-1 : Int32)) hx hb dX5_addOrder_172 (by decide) ?_
                obtain ⟨g88, h88, hf⟩ := z_bE hf
                refine z_cVv (As := [.int (g79 1 ((2 : Int32)).toNatClampNeg), .int (8 : Int32), .int (-1 : Int32)]) (rest := []) (wf := (z_md c a)) (g := g87) (u0 := g88) ⟨hx, hb, hml, hown, hts⟩ (kX5_setPart l D c N a H.size g87 (g79 1 ((2 : Int32)).toNatClampNeg) (8 : Int32) (-1 : Int32) g88 h88) (cwV 3 hts gX5_addOrder_X5_setPart rfl rfl rfl (by decide +kernel) ⟨Nat.le_of_ble_eq_true rfl, Nat.le_of_ble_eq_true rfl⟩) hP hK hD hS hA (ci := 5) (q0 := 0) rfl rfl rfl rfl hl.1 (Nat.le_of_ble_eq_true rfl) rfl dX5_addOrder_173 ⟨Nat.zero_le _, Nat.zero_le _⟩ (fun H locs hP hD hS => ?_)
                refine lv_aload_n hx hb dX5_addOrder_176 rfl (lv_at hl 2 rfl) ?_
                refine va_get (D := D) (ci := 5) (v := .ref (a 1)) (C := RX5) (T := TX5) (N := 13) hx hb hts iX5_addOrder_X5 hown hK.1 hP 0 rfl rfl 1 (by decide) (hts _ qX5_addOrder_7) (fun _ h9 => h9) rfl dX5_addOrder_177 ?_
                refine lv_iconst (v := (2 : Int32)) hx hb dX5_addOrder_180 (by decide) ?_
                refine lv_dup2_11 hx hb dX5_addOrder_181 rfl rfl ?_
                refine va_iald hx hb hK.1 hP 1 0 rfl rfl (z_inE (by decide)) dX5_addOrder_182 ?_
                refine lv_iconst (v := (1 : Int32)) hx hb dX5_addOrder_183 (by decide) ?_
                refine lv_iadd hx hb dX5_addOrder_184 ?_
                refine va_iast hx hb hK.1 hP hD hS 1 0 rfl rfl (z_inE (by decide)) dX5_addOrder_185 (fun H locs hP hD hS => ?_)
                obtain ⟨g89, e89, hf⟩ := z_ltE hf
                have hP : va_P D vwCl (z_md c a g89) H := by rw [e89]; exact hP
                have hD : va_D A (z_md c a g89) := by rw [e89]; exact hD
                clear e89
                refine lv_iload hx hb dX5_addOrder_186 (lv_at hl 0 rfl) ?_
                exact z_ri (wf := (z_md c a)) hx hb hr hlocks hP hD hS hf dX5_addOrder_188
              · have hf := z_ifF hf c78
                refine lv_iconst (v := (0 : Int32)) hx hb dX5_addOrder_85 (by decide) ?_
                exact z_ri (wf := (z_md c a)) hx hb hr hlocks hP hD hS hf dX5_addOrder_86
            · have hf := z_ifT hf c76
              refine lv_iconst (v := (2 : Int32)) hx hb dX5_addOrder_70 (by decide) ?_
              refine lv_goto (tgt := 75) hx hb dX5_addOrder_71 (by decide) ?_
              refine va_put (D := D) (ci := 5) (v := .int (2 : Int32)) (ty := .int) (C := RX5) (T := TX5) (N := 13) hx hb hts iX5_addOrder_X5 tyX5 tyX5_ok nmX5 hown hK.1 hP hD hS 0 rfl rfl 0 (by decide) (hts _ qX5_addOrder_37) (fun _ h9 => h9) rfl (by decide +kernel) rfl rfl (Nat.le_of_ble_eq_true rfl) dX5_addOrder_75 (fun H locs hP hD hS => ?_)
              obtain ⟨g90, e90, hf⟩ := z_ltE hf
              have hP : va_P D vwCl (z_md c a g90) H := by rw [e90]; exact hP
              have hD : va_D A (z_md c a g90) := by rw [e90]; exact hD
              clear e90
              refine lv_aload_n hx hb dX5_addOrder_78 rfl (lv_at hl 1 rfl) ?_
              refine va_get (D := D) (ci := 5) (v := .int (g90 0 0)) (C := RX5) (T := TX5) (N := 13) hx hb hts iX5_addOrder_X5 hown hK.1 hP 0 rfl rfl 0 (by decide) (hts _ qX5_addOrder_37) (fun _ h9 => h9) rfl dX5_addOrder_79 ?_
              refine lv_if_le (tgt := 87) hx hb dX5_addOrder_82 (by decide) (fun c91 => ?_) (fun c91 => ?_)
              · have hf := z_ifT hf c91
                refine lv_aload_n hx hb dX5_addOrder_87 rfl (lv_at hl 1 rfl) ?_
                obtain ⟨g92, h92, hf⟩ := z_bE hf
                refine z_cVv (As := []) (rest := []) (wf := (z_md c a)) (g := g90) (u0 := g92) ⟨hx, hb, hml, hown, hts⟩ (kX5_remember l D c N a H.size g90  g92 h92) (cwV 0 hts gX5_addOrder_X5_remember rfl rfl rfl (by decide +kernel) ⟨Nat.le_of_ble_eq_true rfl, Nat.le_of_ble_eq_true rfl⟩) hP hK hD hS hA (ci := 5) (q0 := 0) rfl rfl rfl rfl hl.1 (Nat.le_of_ble_eq_true rfl) rfl dX5_addOrder_88 ⟨Nat.zero_le _, Nat.zero_le _⟩ (fun H locs hP hD hS => ?_)
                refine lv_aload_n hx hb dX5_addOrder_91 rfl (lv_at hl 1 rfl) ?_
                refine va_get (D := D) (ci := 5) (v := .ref (a 1)) (C := RX5) (T := TX5) (N := 13) hx hb hts iX5_addOrder_X5 hown hK.1 hP 0 rfl rfl 1 (by decide) (hts _ qX5_addOrder_7) (fun _ h9 => h9) rfl dX5_addOrder_92 ?_
                refine lv_iconst (v := (2 : Int32)) hx hb dX5_addOrder_95 (by decide) ?_
                refine va_iald hx hb hK.1 hP 1 0 rfl rfl (z_inE (by decide)) dX5_addOrder_96 ?_
                refine lv_istore (lv' := [(7, .int (g92 1 ((2 : Int32)).toNatClampNeg)), (6, .int (1 : Int32)), (0, .ref (a 0)), (1, .int p1), (2, .int p2), (3, .int p3), (4, .int p4), (5, .int p5)]) hx hb dX5_addOrder_97 hl (by decide) rfl (fun ls hl => ?_)
                refine lv_aload_n hx hb dX5_addOrder_99 rfl (lv_at hl 2 rfl) ?_
                refine lv_iload hx hb dX5_addOrder_100 (lv_at hl 0 rfl) ?_
                refine lv_iconst (v := (0 : Int32)) hx hb dX5_addOrder_102 (by decide) ?_
                refine lv_iload_n hx hb dX5_addOrder_103 rfl (lv_at hl 3 rfl) ?_
                obtain ⟨g93, h93, hf⟩ := z_bE hf
                refine z_cVv (As := [.int (g92 1 ((2 : Int32)).toNatClampNeg), .int (0 : Int32), .int p1]) (rest := []) (wf := (z_md c a)) (g := g92) (u0 := g93) ⟨hx, hb, hml, hown, hts⟩ (kX5_setPart l D c N a H.size g92 (g92 1 ((2 : Int32)).toNatClampNeg) (0 : Int32) p1 g93 h93) (cwV 3 hts gX5_addOrder_X5_setPart rfl rfl rfl (by decide +kernel) ⟨Nat.le_of_ble_eq_true rfl, Nat.le_of_ble_eq_true rfl⟩) hP hK hD hS hA (ci := 5) (q0 := 0) rfl rfl rfl rfl hl.1 (Nat.le_of_ble_eq_true rfl) rfl dX5_addOrder_104 ⟨Nat.zero_le _, Nat.zero_le _⟩ (fun H locs hP hD hS => ?_)
                refine lv_aload_n hx hb dX5_addOrder_107 rfl (lv_at hl 2 rfl) ?_
                refine lv_iload hx hb dX5_addOrder_108 (lv_at hl 0 rfl) ?_
                refine lv_iconst (v := (1 : Int32)) hx hb dX5_addOrder_110 (by decide) ?_
                refine lv_iload_n hx hb dX5_addOrder_111 rfl (lv_at hl 4 rfl) ?_
                obtain ⟨g94, h94, hf⟩ := z_bE hf
                refine z_cVv (As := [.int (g92 1 ((2 : Int32)).toNatClampNeg), .int (1 : Int32), .int p2]) (rest := []) (wf := (z_md c a)) (g := g93) (u0 := g94) ⟨hx, hb, hml, hown, hts⟩ (kX5_setPart l D c N a H.size g93 (g92 1 ((2 : Int32)).toNatClampNeg) (1 : Int32) p2 g94 h94) (cwV 3 hts gX5_addOrder_X5_setPart rfl rfl rfl (by decide +kernel) ⟨Nat.le_of_ble_eq_true rfl, Nat.le_of_ble_eq_true rfl⟩) hP hK hD hS hA (ci := 5) (q0 := 0) rfl rfl rfl rfl hl.1 (Nat.le_of_ble_eq_true rfl) rfl dX5_addOrder_112 ⟨Nat.zero_le _, Nat.zero_le _⟩ (fun H locs hP hD hS => ?_)
                refine lv_aload_n hx hb dX5_addOrder_115 rfl (lv_at hl 2 rfl) ?_
                refine lv_iload hx hb dX5_addOrder_116 (lv_at hl 0 rfl) ?_
                refine lv_iconst (v := (2 : Int32)) hx hb dX5_addOrder_118 (by decide) ?_
                refine lv_iload_n hx hb dX5_addOrder_119 rfl (lv_at hl 5 rfl) ?_
                obtain ⟨g95, h95, hf⟩ := z_bE hf
                refine z_cVv (As := [.int (g92 1 ((2 : Int32)).toNatClampNeg), .int (2 : Int32), .int p3]) (rest := []) (wf := (z_md c a)) (g := g94) (u0 := g95) ⟨hx, hb, hml, hown, hts⟩ (kX5_setPart l D c N a H.size g94 (g92 1 ((2 : Int32)).toNatClampNeg) (2 : Int32) p3 g95 h95) (cwV 3 hts gX5_addOrder_X5_setPart rfl rfl rfl (by decide +kernel) ⟨Nat.le_of_ble_eq_true rfl, Nat.le_of_ble_eq_true rfl⟩) hP hK hD hS hA (ci := 5) (q0 := 0) rfl rfl rfl rfl hl.1 (Nat.le_of_ble_eq_true rfl) rfl dX5_addOrder_120 ⟨Nat.zero_le _, Nat.zero_le _⟩ (fun H locs hP hD hS => ?_)
                refine lv_aload_n hx hb dX5_addOrder_123 rfl (lv_at hl 2 rfl) ?_
                refine lv_iload hx hb dX5_addOrder_124 (lv_at hl 0 rfl) ?_
                refine lv_iconst (v := (3 : Int32)) hx hb dX5_addOrder_126 (by decide) ?_
                refine lv_iload hx hb dX5_addOrder_127 (lv_at hl 6 rfl) ?_
                obtain ⟨g96, h96, hf⟩ := z_bE hf
                refine z_cVv (As := [.int (g92 1 ((2 : Int32)).toNatClampNeg), .int (3 : Int32), .int p4]) (rest := []) (wf := (z_md c a)) (g := g95) (u0 := g96) ⟨hx, hb, hml, hown, hts⟩ (kX5_setPart l D c N a H.size g95 (g92 1 ((2 : Int32)).toNatClampNeg) (3 : Int32) p4 g96 h96) (cwV 3 hts gX5_addOrder_X5_setPart rfl rfl rfl (by decide +kernel) ⟨Nat.le_of_ble_eq_true rfl, Nat.le_of_ble_eq_true rfl⟩) hP hK hD hS hA (ci := 5) (q0 := 0) rfl rfl rfl rfl hl.1 (Nat.le_of_ble_eq_true rfl) rfl dX5_addOrder_129 ⟨Nat.zero_le _, Nat.zero_le _⟩ (fun H locs hP hD hS => ?_)
                refine lv_aload_n hx hb dX5_addOrder_132 rfl (lv_at hl 2 rfl) ?_
                refine lv_iload hx hb dX5_addOrder_133 (lv_at hl 0 rfl) ?_
                refine lv_iconst (v := (4 : Int32)) hx hb dX5_addOrder_135 (by decide) ?_
                refine lv_iload hx hb dX5_addOrder_136 (lv_at hl 7 rfl) ?_
                obtain ⟨g97, h97, hf⟩ := z_bE hf
                refine z_cVv (As := [.int (g92 1 ((2 : Int32)).toNatClampNeg), .int (4 : Int32), .int p5]) (rest := []) (wf := (z_md c a)) (g := g96) (u0 := g97) ⟨hx, hb, hml, hown, hts⟩ (kX5_setPart l D c N a H.size g96 (g92 1 ((2 : Int32)).toNatClampNeg) (4 : Int32) p5 g97 h97) (cwV 3 hts gX5_addOrder_X5_setPart rfl rfl rfl (by decide +kernel) ⟨Nat.le_of_ble_eq_true rfl, Nat.le_of_ble_eq_true rfl⟩) hP hK hD hS hA (ci := 5) (q0 := 0) rfl rfl rfl rfl hl.1 (Nat.le_of_ble_eq_true rfl) rfl dX5_addOrder_138 ⟨Nat.zero_le _, Nat.zero_le _⟩ (fun H locs hP hD hS => ?_)
                refine lv_aload_n hx hb dX5_addOrder_141 rfl (lv_at hl 2 rfl) ?_
                refine lv_iload hx hb dX5_addOrder_142 (lv_at hl 0 rfl) ?_
                refine lv_iconst (v := (5 : Int32)) hx hb dX5_addOrder_144 (by decide) ?_
                refine lv_iconst (v := (-1 : Int32)) hx hb dX5_addOrder_145 (by decide) ?_
                obtain ⟨g98, h98, hf⟩ := z_bE hf
                refine z_cVv (As := [.int (g92 1 ((2 : Int32)).toNatClampNeg), .int (5 : Int32), .int (-1 : Int32)]) (rest := []) (wf := (z_md c a)) (g := g97) (u0 := g98) ⟨hx, hb, hml, hown, hts⟩ (kX5_setPart l D c N a H.size g97 (g92 1 ((2 : Int32)).toNatClampNeg) (5 : Int32) (-1 : Int32) g98 h98) (cwV 3 hts gX5_addOrder_X5_setPart rfl rfl rfl (by decide +kernel) ⟨Nat.le_of_ble_eq_true rfl, Nat.le_of_ble_eq_true rfl⟩) hP hK hD hS hA (ci := 5) (q0 := 0) rfl rfl rfl rfl hl.1 (Nat.le_of_ble_eq_true rfl) rfl dX5_addOrder_146 ⟨Nat.zero_le _, Nat.zero_le _⟩ (fun H locs hP hD hS => ?_)
                refine lv_aload_n hx hb dX5_addOrder_149 rfl (lv_at hl 2 rfl) ?_
                refine lv_iload hx hb dX5_addOrder_150 (lv_at hl 0 rfl) ?_
                refine lv_bipush (v := (6 : Int32)) hx hb dX5_addOrder_152 (by decide) ?_
                refine lv_iconst (v := (-1 : Int32)) hx hb dX5_addOrder_154 (by decide) ?_
                obtain ⟨g99, h99, hf⟩ := z_bE hf
                refine z_cVv (As := [.int (g92 1 ((2 : Int32)).toNatClampNeg), .int (6 : Int32), .int (-1 : Int32)]) (rest := []) (wf := (z_md c a)) (g := g98) (u0 := g99) ⟨hx, hb, hml, hown, hts⟩ (kX5_setPart l D c N a H.size g98 (g92 1 ((2 : Int32)).toNatClampNeg) (6 : Int32) (-1 : Int32) g99 h99) (cwV 3 hts gX5_addOrder_X5_setPart rfl rfl rfl (by decide +kernel) ⟨Nat.le_of_ble_eq_true rfl, Nat.le_of_ble_eq_true rfl⟩) hP hK hD hS hA (ci := 5) (q0 := 0) rfl rfl rfl rfl hl.1 (Nat.le_of_ble_eq_true rfl) rfl dX5_addOrder_155 ⟨Nat.zero_le _, Nat.zero_le _⟩ (fun H locs hP hD hS => ?_)
                refine lv_aload_n hx hb dX5_addOrder_158 rfl (lv_at hl 2 rfl) ?_
                refine lv_iload hx hb dX5_addOrder_159 (lv_at hl 0 rfl) ?_
                refine lv_bipush (v := (7 : Int32)) hx hb dX5_addOrder_161 (by decide) ?_
                refine lv_iconst (v := (0 : Int32)) hx hb dX5_addOrder_163 (by decide) ?_
                obtain ⟨g100, h100, hf⟩ := z_bE hf
                refine z_cVv (As := [.int (g92 1 ((2 : Int32)).toNatClampNeg), .int (7 : Int32), .int (0 : Int32)]) (rest := []) (wf := (z_md c a)) (g := g99) (u0 := g100) ⟨hx, hb, hml, hown, hts⟩ (kX5_setPart l D c N a H.size g99 (g92 1 ((2 : Int32)).toNatClampNeg) (7 : Int32) (0 : Int32) g100 h100) (cwV 3 hts gX5_addOrder_X5_setPart rfl rfl rfl (by decide +kernel) ⟨Nat.le_of_ble_eq_true rfl, Nat.le_of_ble_eq_true rfl⟩) hP hK hD hS hA (ci := 5) (q0 := 0) rfl rfl rfl rfl hl.1 (Nat.le_of_ble_eq_true rfl) rfl dX5_addOrder_164 ⟨Nat.zero_le _, Nat.zero_le _⟩ (fun H locs hP hD hS => ?_)
                refine lv_aload_n hx hb dX5_addOrder_167 rfl (lv_at hl 2 rfl) ?_
                refine lv_iload hx hb dX5_addOrder_168 (lv_at hl 0 rfl) ?_
                refine lv_bipush (v := (8 : Int32)) hx hb dX5_addOrder_170 (by decide) ?_
                refine lv_iconst (v := (-1 : Int32)) hx hb dX5_addOrder_172 (by decide) ?_
                obtain ⟨g101, h101, hf⟩ := z_bE hf
                refine z_cVv (As := [.int (g92 1 ((2 : Int32)).toNatClampNeg), .int (8 : Int32), .int (-1 : Int32)]) (rest := []) (wf := (z_md c a)) (g := g100) (u0 := g101) ⟨hx, hb, hml, hown, hts⟩ (kX5_setPart l D c N a H.size g100 (g92 1 ((2 : Int32)).toNatClampNeg) (8 : Int32) (-1 : Int32) g101 h101) (cwV 3 hts gX5_addOrder_X5_setPart rfl rfl rfl (by decide +kernel) ⟨Nat.le_of_ble_eq_true rfl, Nat.le_of_ble_eq_true rfl⟩) hP hK hD hS hA (ci := 5) (q0 := 0) rfl rfl rfl rfl hl.1 (Nat.le_of_ble_eq_true rfl) rfl dX5_addOrder_173 ⟨Nat.zero_le _, Nat.zero_le _⟩ (fun H locs hP hD hS => ?_)
                refine lv_aload_n hx hb dX5_addOrder_176 rfl (lv_at hl 2 rfl) ?_
                refine va_get (D := D) (ci := 5) (v := .ref (a 1)) (C := RX5) (T := TX5) (N := 13) hx hb hts iX5_addOrder_X5 hown hK.1 hP 0 rfl rfl 1 (by decide) (hts _ qX5_addOrder_7) (fun _ h9 => h9) rfl dX5_addOrder_177 ?_
                refine lv_iconst (v := (2 : Int32)) hx hb dX5_addOrder_180 (by decide) ?_
                refine lv_dup2_11 hx hb dX5_addOrder_181 rfl rfl ?_
                refine va_iald hx hb hK.1 hP 1 0 rfl rfl (z_inE (by decide)) dX5_addOrder_182 ?_
                refine lv_iconst (v := (1 : Int32)) hx hb dX5_addOrder_183 (by decide) ?_
                refine lv_iadd hx hb dX5_addOrder_184 ?_
                refine va_iast hx hb hK.1 hP hD hS 1 0 rfl rfl (z_inE (by decide)) dX5_addOrder_185 (fun H locs hP hD hS => ?_)
                obtain ⟨g102, e102, hf⟩ := z_ltE hf
                have hP : va_P D vwCl (z_md c a g102) H := by rw [e102]; exact hP
                have hD : va_D A (z_md c a g102) := by rw [e102]; exact hD
                clear e102
                refine lv_iload hx hb dX5_addOrder_186 (lv_at hl 0 rfl) ?_
                exact z_ri (wf := (z_md c a)) hx hb hr hlocks hP hD hS hf dX5_addOrder_188
              · have hf := z_ifF hf c91
                refine lv_iconst (v := (0 : Int32)) hx hb dX5_addOrder_85 (by decide) ?_
                exact z_ri (wf := (z_md c a)) hx hb hr hlocks hP hD hS hf dX5_addOrder_86
abbrev rmX5_change : Room := { frames := 3, cells := 0, slots := 0, locals := 63 }
theorem qX5_change_37 : Cond.fieldLink RX5 37 "ProgramDrumModel" "thrown" "I" ∈ wsX5_change := by decide +kernel
theorem iX5_change_X5 : ∀ w ∈ wsX50, w ∈ wsX5_change := by decide +kernel
set_option maxRecDepth 100000 in
set_option maxHeartbeats 4000000 in
theorem kX5_change (l : Launch) (D : va_G) (c : Nat → ClassId) (N : Nat) (a : Nat → Nat) (sz : Nat) (g : z_R) (p1 : Int32) (p2 : Int32) (p3 : Int32) (r0 : Int32) (g0 : z_R) (hf : fX5_change N p1 p2 p3 g = some (r0, g0)) : Met l yX5_change wsX5_change rmX5_change (z_Pc D c sz (z_md c a g) [.ref (a 0), .int p1, .int p2, .int p3]) (z_Qi D (z_md c a) r0 g0 (va_A (z_md c a g) sz)) 0 0 (va_A (z_md c a g) sz) := by
  refine z_ofM (cc := cX5_change) (maxL := 5) (ret := (some .int)) (Qf := fun A => z_Qi D (z_md c a) r0 g0 A) (plainFor_of_name (by decide)) rfl (Nat.le_of_ble_eq_true rfl) ?_
  intro p e s m args below meth co A ls hx hb hr hml hts hown hlocks hnm hA hP hK hD hl hsz
  have hl : lv_has ls 5 [(0, .ref (a 0)), (1, .int p1), (2, .int p2), (3, .int p3)] := hl
  have hown : s.vm.findClass RX5 = some m.cls := hown
  obtain ⟨H, hH⟩ : ∃ H, H = s.heap := ⟨_, rfl⟩
  have hS : va_S A s.heap H [] := by rw [hH]; exact va_S.rf
  rw [← hH] at hP ⊢
  clear hH
  unfold fX5_change at hf
  generalize ([] : List Loc) = locs at hS ⊢
  refine lv_aload_n hx hb dX5_change_0 rfl (lv_at hl 0 rfl) ?_
  refine lv_aload_n hx hb dX5_change_1 rfl (lv_at hl 0 rfl) ?_
  refine lv_iload_n hx hb dX5_change_2 rfl (lv_at hl 1 rfl) ?_
  obtain ⟨r1, h1, hf⟩ := z_bE hf
  refine z_cVi (As := [.int p1]) (rest := [.ref (a 0)]) (wf := (z_md c a)) (g := g) (u0 := g) ⟨hx, hb, hml, hown, hts⟩ (kX5_isOrder l D c N a H.size g p1 r1 h1) (cwV 1 hts gX5_change_X5_isOrder rfl rfl rfl (by decide +kernel) ⟨Nat.le_of_ble_eq_true rfl, Nat.le_of_ble_eq_true rfl⟩) hP hK hD hS hA (ci := 5) (q0 := 0) rfl rfl rfl rfl hl.1 (Nat.le_of_ble_eq_true rfl) rfl dX5_change_3 ⟨Nat.zero_le _, Nat.zero_le _⟩ (fun H locs hP hD hS => ?_)
  refine lv_if_ne (tgt := 13) hx hb dX5_change_6 (by decide) (fun c2 => ?_) (fun c2 => ?_)
  · have hf := z_ifF hf c2
    refine lv_iload_n hx hb dX5_change_13 rfl (lv_at hl 2 rfl) ?_
    refine lv_iload_n hx hb dX5_change_14 rfl (lv_at hl 3 rfl) ?_
    obtain ⟨r3, h3, hf⟩ := z_bE hf
    refine z_cSi (As := [.int p2, .int p3]) (rest := [.ref (a 0)]) ⟨hx, hb, hml, hown, hts⟩ (kX5_isInRange l D c N H.size p2 p3 r3 h3) (va_cwS 2 hts gX5_change_X5_isInRange rfl rfl rfl (by decide +kernel) ⟨Nat.le_of_ble_eq_true rfl, Nat.le_of_ble_eq_true rfl⟩) hP hK hS hA rfl hl.1 (Nat.le_of_ble_eq_true rfl) rfl dX5_change_15 ⟨Nat.zero_le _, Nat.zero_le _⟩ (fun H locs hP hS => ?_)
    refine lv_if_eq (tgt := 25) hx hb dX5_change_18 (by decide) (fun c4 => ?_) (fun c4 => ?_)
    · have hf := z_ifT hf c4
      refine lv_iconst (v := (2 : Int32)) hx hb dX5_change_25 (by decide) ?_
      refine va_put (D := D) (ci := 5) (v := .int (2 : Int32)) (ty := .int) (C := RX5) (T := TX5) (N := 13) hx hb hts iX5_change_X5 tyX5 tyX5_ok nmX5 hown hK.1 hP hD hS 0 rfl rfl 0 (by decide) (hts _ qX5_change_37) (fun _ h9 => h9) rfl (by decide +kernel) rfl rfl (Nat.le_of_ble_eq_true rfl) dX5_change_26 (fun H locs hP hD hS => ?_)
      obtain ⟨g5, e5, hf⟩ := z_ltE hf
      have hP : va_P D vwCl (z_md c a g5) H := by rw [e5]; exact hP
      have hD : va_D A (z_md c a g5) := by rw [e5]; exact hD
      clear e5
      refine lv_aload_n hx hb dX5_change_29 rfl (lv_at hl 0 rfl) ?_
      refine va_get (D := D) (ci := 5) (v := .int (g5 0 0)) (C := RX5) (T := TX5) (N := 13) hx hb hts iX5_change_X5 hown hK.1 hP 0 rfl rfl 0 (by decide) (hts _ qX5_change_37) (fun _ h9 => h9) rfl dX5_change_30 ?_
      refine lv_if_le (tgt := 38) hx hb dX5_change_33 (by decide) (fun c6 => ?_) (fun c6 => ?_)
      · have hf := z_ifT hf c6
        refine lv_aload_n hx hb dX5_change_38 rfl (lv_at hl 0 rfl) ?_
        obtain ⟨g7, h7, hf⟩ := z_bE hf
        refine z_cVv (As := []) (rest := []) (wf := (z_md c a)) (g := g5) (u0 := g7) ⟨hx, hb, hml, hown, hts⟩ (kX5_remember l D c N a H.size g5  g7 h7) (cwV 0 hts gX5_change_X5_remember rfl rfl rfl (by decide +kernel) ⟨Nat.le_of_ble_eq_true rfl, Nat.le_of_ble_eq_true rfl⟩) hP hK hD hS hA (ci := 5) (q0 := 0) rfl rfl rfl rfl hl.1 (Nat.le_of_ble_eq_true rfl) rfl dX5_change_39 ⟨Nat.zero_le _, Nat.zero_le _⟩ (fun H locs hP hD hS => ?_)
        refine lv_aload_n hx hb dX5_change_42 rfl (lv_at hl 0 rfl) ?_
        refine lv_iload_n hx hb dX5_change_43 rfl (lv_at hl 1 rfl) ?_
        refine lv_iload_n hx hb dX5_change_44 rfl (lv_at hl 2 rfl) ?_
        obtain ⟨r8, h8, hf⟩ := z_bE hf
        refine z_cVi (As := [.int p1, .int p2]) (rest := []) (wf := (z_md c a)) (g := g7) (u0 := g7) ⟨hx, hb, hml, hown, hts⟩ (kX5_part l D c N a H.size g7 p1 p2 r8 h8) (cwV 2 hts gX5_change_X5_part rfl rfl rfl (by decide +kernel) ⟨Nat.le_of_ble_eq_true rfl, Nat.le_of_ble_eq_true rfl⟩) hP hK hD hS hA (ci := 5) (q0 := 0) rfl rfl rfl rfl hl.1 (Nat.le_of_ble_eq_true rfl) rfl dX5_change_45 ⟨Nat.zero_le _, Nat.zero_le _⟩ (fun H locs hP hD hS => ?_)
        refine lv_istore (lv' := [(4, .int r8), (0, .ref (a 0)), (1, .int p1), (2, .int p2), (3, .int p3)]) hx hb dX5_change_48 hl (by decide) rfl (fun ls hl => ?_)
        refine lv_aload_n hx hb dX5_change_50 rfl (lv_at hl 1 rfl) ?_
        refine lv_iload_n hx hb dX5_change_51 rfl (lv_at hl 2 rfl) ?_
        refine lv_iload_n hx hb dX5_change_52 rfl (lv_at hl 3 rfl) ?_
        refine lv_iload_n hx hb dX5_change_53 rfl (lv_at hl 4 rfl) ?_
        obtain ⟨g9, h9, hf⟩ := z_bE hf
        refine z_cVv (As := [.int p1, .int p2, .int p3]) (rest := []) (wf := (z_md c a)) (g := g7) (u0 := g9) ⟨hx, hb, hml, hown, hts⟩ (kX5_setPart l D c N a H.size g7 p1 p2 p3 g9 h9) (cwV 3 hts gX5_change_X5_setPart rfl rfl rfl (by decide +kernel) ⟨Nat.le_of_ble_eq_true rfl, Nat.le_of_ble_eq_true rfl⟩) hP hK hD hS hA (ci := 5) (q0 := 0) rfl rfl rfl rfl hl.1 (Nat.le_of_ble_eq_true rfl) rfl dX5_change_54 ⟨Nat.zero_le _, Nat.zero_le _⟩ (fun H locs hP hD hS => ?_)
        refine lv_iload hx hb dX5_change_57 (lv_at hl 0 rfl) ?_
        exact z_ri (wf := (z_md c a)) hx hb hr hlocks hP hD hS hf dX5_change_59
      · have hf := z_ifF hf c6
        refine lv_iconst (v := (0 : Int32)) hx hb dX5_change_36 (by decide) ?_
        exact z_ri (wf := (z_md c a)) hx hb hr hlocks hP hD hS hf dX5_change_37
    · have hf := z_ifF hf c4
      refine lv_iconst (v := (0 : Int32)) hx hb dX5_change_21 (by decide) ?_
      refine lv_goto (tgt := 26) hx hb dX5_change_22 (by decide) ?_
      refine va_put (D := D) (ci := 5) (v := .int (0 : Int32)) (ty := .int) (C := RX5) (T := TX5) (N := 13) hx hb hts iX5_change_X5 tyX5 tyX5_ok nmX5 hown hK.1 hP hD hS 0 rfl rfl 0 (by decide) (hts _ qX5_change_37) (fun _ h9 => h9) rfl (by decide +kernel) rfl rfl (Nat.le_of_ble_eq_true rfl) dX5_change_26 (fun H locs hP hD hS => ?_)
      obtain ⟨g10, e10, hf⟩ := z_ltE hf
      have hP : va_P D vwCl (z_md c a g10) H := by rw [e10]; exact hP
      have hD : va_D A (z_md c a g10) := by rw [e10]; exact hD
      clear e10
      refine lv_aload_n hx hb dX5_change_29 rfl (lv_at hl 0 rfl) ?_
      refine va_get (D := D) (ci := 5) (v := .int (g10 0 0)) (C := RX5) (T := TX5) (N := 13) hx hb hts iX5_change_X5 hown hK.1 hP 0 rfl rfl 0 (by decide) (hts _ qX5_change_37) (fun _ h9 => h9) rfl dX5_change_30 ?_
      refine lv_if_le (tgt := 38) hx hb dX5_change_33 (by decide) (fun c11 => ?_) (fun c11 => ?_)
      · have hf := z_ifT hf c11
        refine lv_aload_n hx hb dX5_change_38 rfl (lv_at hl 0 rfl) ?_
        obtain ⟨g12, h12, hf⟩ := z_bE hf
        refine z_cVv (As := []) (rest := []) (wf := (z_md c a)) (g := g10) (u0 := g12) ⟨hx, hb, hml, hown, hts⟩ (kX5_remember l D c N a H.size g10  g12 h12) (cwV 0 hts gX5_change_X5_remember rfl rfl rfl (by decide +kernel) ⟨Nat.le_of_ble_eq_true rfl, Nat.le_of_ble_eq_true rfl⟩) hP hK hD hS hA (ci := 5) (q0 := 0) rfl rfl rfl rfl hl.1 (Nat.le_of_ble_eq_true rfl) rfl dX5_change_39 ⟨Nat.zero_le _, Nat.zero_le _⟩ (fun H locs hP hD hS => ?_)
        refine lv_aload_n hx hb dX5_change_42 rfl (lv_at hl 0 rfl) ?_
        refine lv_iload_n hx hb dX5_change_43 rfl (lv_at hl 1 rfl) ?_
        refine lv_iload_n hx hb dX5_change_44 rfl (lv_at hl 2 rfl) ?_
        obtain ⟨r13, h13, hf⟩ := z_bE hf
        refine z_cVi (As := [.int p1, .int p2]) (rest := []) (wf := (z_md c a)) (g := g12) (u0 := g12) ⟨hx, hb, hml, hown, hts⟩ (kX5_part l D c N a H.size g12 p1 p2 r13 h13) (cwV 2 hts gX5_change_X5_part rfl rfl rfl (by decide +kernel) ⟨Nat.le_of_ble_eq_true rfl, Nat.le_of_ble_eq_true rfl⟩) hP hK hD hS hA (ci := 5) (q0 := 0) rfl rfl rfl rfl hl.1 (Nat.le_of_ble_eq_true rfl) rfl dX5_change_45 ⟨Nat.zero_le _, Nat.zero_le _⟩ (fun H locs hP hD hS => ?_)
        refine lv_istore (lv' := [(4, .int r13), (0, .ref (a 0)), (1, .int p1), (2, .int p2), (3, .int p3)]) hx hb dX5_change_48 hl (by decide) rfl (fun ls hl => ?_)
        refine lv_aload_n hx hb dX5_change_50 rfl (lv_at hl 1 rfl) ?_
        refine lv_iload_n hx hb dX5_change_51 rfl (lv_at hl 2 rfl) ?_
        refine lv_iload_n hx hb dX5_change_52 rfl (lv_at hl 3 rfl) ?_
        refine lv_iload_n hx hb dX5_change_53 rfl (lv_at hl 4 rfl) ?_
        obtain ⟨g14, h14, hf⟩ := z_bE hf
        refine z_cVv (As := [.int p1, .int p2, .int p3]) (rest := []) (wf := (z_md c a)) (g := g12) (u0 := g14) ⟨hx, hb, hml, hown, hts⟩ (kX5_setPart l D c N a H.size g12 p1 p2 p3 g14 h14) (cwV 3 hts gX5_change_X5_setPart rfl rfl rfl (by decide +kernel) ⟨Nat.le_of_ble_eq_true rfl, Nat.le_of_ble_eq_true rfl⟩) hP hK hD hS hA (ci := 5) (q0 := 0) rfl rfl rfl rfl hl.1 (Nat.le_of_ble_eq_true rfl) rfl dX5_change_54 ⟨Nat.zero_le _, Nat.zero_le _⟩ (fun H locs hP hD hS => ?_)
        refine lv_iload hx hb dX5_change_57 (lv_at hl 0 rfl) ?_
        exact z_ri (wf := (z_md c a)) hx hb hr hlocks hP hD hS hf dX5_change_59
      · have hf := z_ifF hf c11
        refine lv_iconst (v := (0 : Int32)) hx hb dX5_change_36 (by decide) ?_
        exact z_ri (wf := (z_md c a)) hx hb hr hlocks hP hD hS hf dX5_change_37
  · have hf := z_ifT hf c2
    refine lv_iconst (v := (1 : Int32)) hx hb dX5_change_9 (by decide) ?_
    refine lv_goto (tgt := 26) hx hb dX5_change_10 (by decide) ?_
    refine va_put (D := D) (ci := 5) (v := .int (1 : Int32)) (ty := .int) (C := RX5) (T := TX5) (N := 13) hx hb hts iX5_change_X5 tyX5 tyX5_ok nmX5 hown hK.1 hP hD hS 0 rfl rfl 0 (by decide) (hts _ qX5_change_37) (fun _ h9 => h9) rfl (by decide +kernel) rfl rfl (Nat.le_of_ble_eq_true rfl) dX5_change_26 (fun H locs hP hD hS => ?_)
    obtain ⟨g15, e15, hf⟩ := z_ltE hf
    have hP : va_P D vwCl (z_md c a g15) H := by rw [e15]; exact hP
    have hD : va_D A (z_md c a g15) := by rw [e15]; exact hD
    clear e15
    refine lv_aload_n hx hb dX5_change_29 rfl (lv_at hl 0 rfl) ?_
    refine va_get (D := D) (ci := 5) (v := .int (g15 0 0)) (C := RX5) (T := TX5) (N := 13) hx hb hts iX5_change_X5 hown hK.1 hP 0 rfl rfl 0 (by decide) (hts _ qX5_change_37) (fun _ h9 => h9) rfl dX5_change_30 ?_
    refine lv_if_le (tgt := 38) hx hb dX5_change_33 (by decide) (fun c16 => ?_) (fun c16 => ?_)
    · have hf := z_ifT hf c16
      refine lv_aload_n hx hb dX5_change_38 rfl (lv_at hl 0 rfl) ?_
      obtain ⟨g17, h17, hf⟩ := z_bE hf
      refine z_cVv (As := []) (rest := []) (wf := (z_md c a)) (g := g15) (u0 := g17) ⟨hx, hb, hml, hown, hts⟩ (kX5_remember l D c N a H.size g15  g17 h17) (cwV 0 hts gX5_change_X5_remember rfl rfl rfl (by decide +kernel) ⟨Nat.le_of_ble_eq_true rfl, Nat.le_of_ble_eq_true rfl⟩) hP hK hD hS hA (ci := 5) (q0 := 0) rfl rfl rfl rfl hl.1 (Nat.le_of_ble_eq_true rfl) rfl dX5_change_39 ⟨Nat.zero_le _, Nat.zero_le _⟩ (fun H locs hP hD hS => ?_)
      refine lv_aload_n hx hb dX5_change_42 rfl (lv_at hl 0 rfl) ?_
      refine lv_iload_n hx hb dX5_change_43 rfl (lv_at hl 1 rfl) ?_
      refine lv_iload_n hx hb dX5_change_44 rfl (lv_at hl 2 rfl) ?_
      obtain ⟨r18, h18, hf⟩ := z_bE hf
      refine z_cVi (As := [.int p1, .int p2]) (rest := []) (wf := (z_md c a)) (g := g17) (u0 := g17) ⟨hx, hb, hml, hown, hts⟩ (kX5_part l D c N a H.size g17 p1 p2 r18 h18) (cwV 2 hts gX5_change_X5_part rfl rfl rfl (by decide +kernel) ⟨Nat.le_of_ble_eq_true rfl, Nat.le_of_ble_eq_true rfl⟩) hP hK hD hS hA (ci := 5) (q0 := 0) rfl rfl rfl rfl hl.1 (Nat.le_of_ble_eq_true rfl) rfl dX5_change_45 ⟨Nat.zero_le _, Nat.zero_le _⟩ (fun H locs hP hD hS => ?_)
      refine lv_istore (lv' := [(4, .int r18), (0, .ref (a 0)), (1, .int p1), (2, .int p2), (3, .int p3)]) hx hb dX5_change_48 hl (by decide) rfl (fun ls hl => ?_)
      refine lv_aload_n hx hb dX5_change_50 rfl (lv_at hl 1 rfl) ?_
      refine lv_iload_n hx hb dX5_change_51 rfl (lv_at hl 2 rfl) ?_
      refine lv_iload_n hx hb dX5_change_52 rfl (lv_at hl 3 rfl) ?_
      refine lv_iload_n hx hb dX5_change_53 rfl (lv_at hl 4 rfl) ?_
      obtain ⟨g19, h19, hf⟩ := z_bE hf
      refine z_cVv (As := [.int p1, .int p2, .int p3]) (rest := []) (wf := (z_md c a)) (g := g17) (u0 := g19) ⟨hx, hb, hml, hown, hts⟩ (kX5_setPart l D c N a H.size g17 p1 p2 p3 g19 h19) (cwV 3 hts gX5_change_X5_setPart rfl rfl rfl (by decide +kernel) ⟨Nat.le_of_ble_eq_true rfl, Nat.le_of_ble_eq_true rfl⟩) hP hK hD hS hA (ci := 5) (q0 := 0) rfl rfl rfl rfl hl.1 (Nat.le_of_ble_eq_true rfl) rfl dX5_change_54 ⟨Nat.zero_le _, Nat.zero_le _⟩ (fun H locs hP hD hS => ?_)
      refine lv_iload hx hb dX5_change_57 (lv_at hl 0 rfl) ?_
      exact z_ri (wf := (z_md c a)) hx hb hr hlocks hP hD hS hf dX5_change_59
    · have hf := z_ifF hf c16
      refine lv_iconst (v := (0 : Int32)) hx hb dX5_change_36 (by decide) ?_
      exact z_ri (wf := (z_md c a)) hx hb hr hlocks hP hD hS hf dX5_change_37
abbrev rmX5_whyNotMoved : Room := { frames := 2, cells := 0, slots := 0, locals := 45 }
set_option maxRecDepth 100000 in
set_option maxHeartbeats 4000000 in
theorem kX5_whyNotMoved (l : Launch) (D : va_G) (c : Nat → ClassId) (N : Nat) (a : Nat → Nat) (sz : Nat) (g : z_R) (p1 : Int32) (p2 : Int32) (r0 : Int32) (hf : fX5_whyNotMoved N p1 p2 g = some r0) : Met l yX5_whyNotMoved wsX5_whyNotMoved rmX5_whyNotMoved (z_Pc D c sz (z_md c a g) [.ref (a 0), .int p1, .int p2]) (z_Qi D (z_md c a) r0 g (va_A (z_md c a g) sz)) 0 0 (va_A (z_md c a g) sz) := by
  refine z_ofM (cc := cX5_whyNotMoved) (maxL := 4) (ret := (some .int)) (Qf := fun A => z_Qi D (z_md c a) r0 g A) (plainFor_of_name (by decide)) rfl (Nat.le_of_ble_eq_true rfl) ?_
  intro p e s m args below meth co A ls hx hb hr hml hts hown hlocks hnm hA hP hK hD hl hsz
  have hl : lv_has ls 4 [(0, .ref (a 0)), (1, .int p1), (2, .int p2)] := hl
  have hown : s.vm.findClass RX5 = some m.cls := hown
  obtain ⟨H, hH⟩ : ∃ H, H = s.heap := ⟨_, rfl⟩
  have hS : va_S A s.heap H [] := by rw [hH]; exact va_S.rf
  rw [← hH] at hP ⊢
  clear hH
  unfold fX5_whyNotMoved at hf
  generalize ([] : List Loc) = locs at hS ⊢
  refine lv_aload_n hx hb dX5_whyNotMoved_0 rfl (lv_at hl 0 rfl) ?_
  refine lv_iload_n hx hb dX5_whyNotMoved_1 rfl (lv_at hl 1 rfl) ?_
  obtain ⟨r1, h1, hf⟩ := z_bE hf
  refine z_cVi (As := [.int p1]) (rest := []) (wf := (z_md c a)) (g := g) (u0 := g) ⟨hx, hb, hml, hown, hts⟩ (kX5_isOrder l D c N a H.size g p1 r1 h1) (cwV 1 hts gX5_whyNotMoved_X5_isOrder rfl rfl rfl (by decide +kernel) ⟨Nat.le_of_ble_eq_true rfl, Nat.le_of_ble_eq_true rfl⟩) hP hK hD hS hA (ci := 5) (q0 := 0) rfl rfl rfl rfl hl.1 (Nat.le_of_ble_eq_true rfl) rfl dX5_whyNotMoved_2 ⟨Nat.zero_le _, Nat.zero_le _⟩ (fun H locs hP hD hS => ?_)
  refine lv_if_eq (tgt := 16) hx hb dX5_whyNotMoved_5 (by decide) (fun c2 => ?_) (fun c2 => ?_)
  · have hf := z_ifT hf c2
    refine lv_iconst (v := (1 : Int32)) hx hb dX5_whyNotMoved_16 (by decide) ?_
    exact z_rp (wf := (z_md c a)) hx hb hr hlocks hP hD hS hf dX5_whyNotMoved_17
  · have hf := z_ifF hf c2
    refine lv_aload_n hx hb dX5_whyNotMoved_8 rfl (lv_at hl 0 rfl) ?_
    refine lv_iload_n hx hb dX5_whyNotMoved_9 rfl (lv_at hl 2 rfl) ?_
    obtain ⟨r3, h3, hf⟩ := z_bE hf
    refine z_cVi (As := [.int p2]) (rest := []) (wf := (z_md c a)) (g := g) (u0 := g) ⟨hx, hb, hml, hown, hts⟩ (kX5_isPlace l D c N a H.size g p2 r3 h3) (cwV 1 hts gX5_whyNotMoved_X5_isPlace rfl rfl rfl (by decide +kernel) ⟨Nat.le_of_ble_eq_true rfl, Nat.le_of_ble_eq_true rfl⟩) hP hK hD hS hA (ci := 5) (q0 := 0) rfl rfl rfl rfl hl.1 (Nat.le_of_ble_eq_true rfl) rfl dX5_whyNotMoved_10 ⟨Nat.zero_le _, Nat.zero_le _⟩ (fun H locs hP hD hS => ?_)
    refine lv_if_ne (tgt := 18) hx hb dX5_whyNotMoved_13 (by decide) (fun c4 => ?_) (fun c4 => ?_)
    · have hf := z_ifF hf c4
      refine lv_aload_n hx hb dX5_whyNotMoved_18 rfl (lv_at hl 0 rfl) ?_
      refine lv_iload_n hx hb dX5_whyNotMoved_19 rfl (lv_at hl 2 rfl) ?_
      obtain ⟨r5, h5, hf⟩ := z_bE hf
      refine z_cVi (As := [.int p2]) (rest := []) (wf := (z_md c a)) (g := g) (u0 := g) ⟨hx, hb, hml, hown, hts⟩ (kX5_standing l D c N a H.size g p2 r5 h5) (cwV 1 hts gX5_whyNotMoved_X5_standing rfl rfl rfl (by decide +kernel) ⟨Nat.le_of_ble_eq_true rfl, Nat.le_of_ble_eq_true rfl⟩) hP hK hD hS hA (ci := 5) (q0 := 0) rfl rfl rfl rfl hl.1 (Nat.le_of_ble_eq_true rfl) rfl dX5_whyNotMoved_20 ⟨Nat.zero_le _, Nat.zero_le _⟩ (fun H locs hP hD hS => ?_)
      refine lv_istore_n (lv' := [(3, .int r5), (0, .ref (a 0)), (1, .int p1), (2, .int p2)]) hx hb dX5_whyNotMoved_23 rfl hl (by decide) rfl (fun ls hl => ?_)
      refine lv_iload_n hx hb dX5_whyNotMoved_24 rfl (lv_at hl 0 rfl) ?_
      refine lv_iconst (v := (-1 : Int32)) hx hb dX5_whyNotMoved_25 (by decide) ?_
      refine lv_icmp_eq (tgt := 38) hx hb dX5_whyNotMoved_26 (by decide) (fun c6 => ?_) (fun c6 => ?_)
      · have hf := z_ifT hf c6
        refine lv_iconst (v := (0 : Int32)) hx hb dX5_whyNotMoved_38 (by decide) ?_
        exact z_rp (wf := (z_md c a)) hx hb hr hlocks hP hD hS hf dX5_whyNotMoved_39
      · have hf := z_ifF hf c6
        refine lv_iload_n hx hb dX5_whyNotMoved_29 rfl (lv_at hl 0 rfl) ?_
        refine lv_iload_n hx hb dX5_whyNotMoved_30 rfl (lv_at hl 2 rfl) ?_
        refine lv_icmp_eq (tgt := 38) hx hb dX5_whyNotMoved_31 (by decide) (fun c7 => ?_) (fun c7 => ?_)
        · have hf := z_ifT hf c7
          refine lv_iconst (v := (0 : Int32)) hx hb dX5_whyNotMoved_38 (by decide) ?_
          exact z_rp (wf := (z_md c a)) hx hb hr hlocks hP hD hS hf dX5_whyNotMoved_39
        · have hf := z_ifF hf c7
          refine lv_iconst (v := (2 : Int32)) hx hb dX5_whyNotMoved_34 (by decide) ?_
          refine lv_goto (tgt := 39) hx hb dX5_whyNotMoved_35 (by decide) ?_
          exact z_rp (wf := (z_md c a)) hx hb hr hlocks hP hD hS hf dX5_whyNotMoved_39
    · have hf := z_ifT hf c4
      refine lv_iconst (v := (1 : Int32)) hx hb dX5_whyNotMoved_16 (by decide) ?_
      exact z_rp (wf := (z_md c a)) hx hb hr hlocks hP hD hS hf dX5_whyNotMoved_17
abbrev rmX5_moved : Room := { frames := 2, cells := 0, slots := 0, locals := 45 }
set_option maxRecDepth 100000 in
set_option maxHeartbeats 4000000 in
theorem kX5_moved (l : Launch) (D : va_G) (c : Nat → ClassId) (N : Nat) (a : Nat → Nat) (sz : Nat) (g : z_R) (p1 : Int32) (p2 : Int32) (r0 : Int32) (g0 : z_R) (hf : fX5_moved N p1 p2 g = some (r0, g0)) : Met l yX5_moved wsX5_moved rmX5_moved (z_Pc D c sz (z_md c a g) [.ref (a 0), .int p1, .int p2]) (z_Qi D (z_md c a) r0 g0 (va_A (z_md c a g) sz)) 0 0 (va_A (z_md c a g) sz) := by
  refine z_ofM (cc := cX5_moved) (maxL := 3) (ret := (some .int)) (Qf := fun A => z_Qi D (z_md c a) r0 g0 A) (plainFor_of_name (by decide)) rfl (Nat.le_of_ble_eq_true rfl) ?_
  intro p e s m args below meth co A ls hx hb hr hml hts hown hlocks hnm hA hP hK hD hl hsz
  have hl : lv_has ls 3 [(0, .ref (a 0)), (1, .int p1), (2, .int p2)] := hl
  have hown : s.vm.findClass RX5 = some m.cls := hown
  obtain ⟨H, hH⟩ : ∃ H, H = s.heap := ⟨_, rfl⟩
  have hS : va_S A s.heap H [] := by rw [hH]; exact va_S.rf
  rw [← hH] at hP ⊢
  clear hH
  unfold fX5_moved at hf
  generalize ([] : List Loc) = locs at hS ⊢
  refine lv_aload_n hx hb dX5_moved_0 rfl (lv_at hl 0 rfl) ?_
  refine lv_iload_n hx hb dX5_moved_1 rfl (lv_at hl 1 rfl) ?_
  refine lv_iconst (v := (5 : Int32)) hx hb dX5_moved_2 (by decide) ?_
  refine lv_iload_n hx hb dX5_moved_3 rfl (lv_at hl 2 rfl) ?_
  obtain ⟨g1, h1, hf⟩ := z_bE hf
  refine z_cVv (As := [.int p1, .int (5 : Int32), .int p2]) (rest := []) (wf := (z_md c a)) (g := g) (u0 := g1) ⟨hx, hb, hml, hown, hts⟩ (kX5_setPart l D c N a H.size g p1 (5 : Int32) p2 g1 h1) (cwV 3 hts gX5_moved_X5_setPart rfl rfl rfl (by decide +kernel) ⟨Nat.le_of_ble_eq_true rfl, Nat.le_of_ble_eq_true rfl⟩) hP hK hD hS hA (ci := 5) (q0 := 0) rfl rfl rfl rfl hl.1 (Nat.le_of_ble_eq_true rfl) rfl dX5_moved_4 ⟨Nat.zero_le _, Nat.zero_le _⟩ (fun H locs hP hD hS => ?_)
  refine lv_aload_n hx hb dX5_moved_7 rfl (lv_at hl 0 rfl) ?_
  refine lv_iload_n hx hb dX5_moved_8 rfl (lv_at hl 1 rfl) ?_
  refine lv_bipush (v := (6 : Int32)) hx hb dX5_moved_9 (by decide) ?_
  refine lv_iconst (v := (-1 : Int32)) hx hb dX5_moved_11 (by decide) ?_
  obtain ⟨g2, h2, hf⟩ := z_bE hf
  refine z_cVv (As := [.int p1, .int (6 : Int32), .int (-1 : Int32)]) (rest := []) (wf := (z_md c a)) (g := g1) (u0 := g2) ⟨hx, hb, hml, hown, hts⟩ (kX5_setPart l D c N a H.size g1 p1 (6 : Int32) (-1 : Int32) g2 h2) (cwV 3 hts gX5_moved_X5_setPart rfl rfl rfl (by decide +kernel) ⟨Nat.le_of_ble_eq_true rfl, Nat.le_of_ble_eq_true rfl⟩) hP hK hD hS hA (ci := 5) (q0 := 0) rfl rfl rfl rfl hl.1 (Nat.le_of_ble_eq_true rfl) rfl dX5_moved_12 ⟨Nat.zero_le _, Nat.zero_le _⟩ (fun H locs hP hD hS => ?_)
  refine lv_aload_n hx hb dX5_moved_15 rfl (lv_at hl 0 rfl) ?_
  refine lv_iload_n hx hb dX5_moved_16 rfl (lv_at hl 1 rfl) ?_
  obtain ⟨r3, g3, h3, hf⟩ := z_b2E hf
  refine z_cVi (As := [.int p1]) (rest := []) (wf := (z_md c a)) (g := g2) (u0 := g3) ⟨hx, hb, hml, hown, hts⟩ (kX5_refund l D c N a H.size g2 p1 r3 g3 h3) (cwV 1 hts gX5_moved_X5_refund rfl rfl rfl (by decide +kernel) ⟨Nat.le_of_ble_eq_true rfl, Nat.le_of_ble_eq_true rfl⟩) hP hK hD hS hA (ci := 5) (q0 := 0) rfl rfl rfl rfl hl.1 (Nat.le_of_ble_eq_true rfl) rfl dX5_moved_17 ⟨Nat.zero_le _, Nat.zero_le _⟩ (fun H locs hP hD hS => ?_)
  exact z_ri (wf := (z_md c a)) hx hb hr hlocks hP hD hS hf dX5_moved_20
abbrev rmX5_move : Room := { frames := 3, cells := 0, slots := 0, locals := 68 }
theorem qX5_move_37 : Cond.fieldLink RX5 37 "ProgramDrumModel" "thrown" "I" ∈ wsX5_move := by decide +kernel
theorem iX5_move_X5 : ∀ w ∈ wsX50, w ∈ wsX5_move := by decide +kernel
set_option maxRecDepth 100000 in
set_option maxHeartbeats 4000000 in
theorem kX5_move (l : Launch) (D : va_G) (c : Nat → ClassId) (N : Nat) (a : Nat → Nat) (sz : Nat) (g : z_R) (p1 : Int32) (p2 : Int32) (r0 : Int32) (g0 : z_R) (hf : fX5_move N p1 p2 g = some (r0, g0)) : Met l yX5_move wsX5_move rmX5_move (z_Pc D c sz (z_md c a g) [.ref (a 0), .int p1, .int p2]) (z_Qi D (z_md c a) r0 g0 (va_A (z_md c a g) sz)) 0 0 (va_A (z_md c a g) sz) := by
  refine z_ofM (cc := cX5_move) (maxL := 3) (ret := (some .int)) (Qf := fun A => z_Qi D (z_md c a) r0 g0 A) (plainFor_of_name (by decide)) rfl (Nat.le_of_ble_eq_true rfl) ?_
  intro p e s m args below meth co A ls hx hb hr hml hts hown hlocks hnm hA hP hK hD hl hsz
  have hl : lv_has ls 3 [(0, .ref (a 0)), (1, .int p1), (2, .int p2)] := hl
  have hown : s.vm.findClass RX5 = some m.cls := hown
  obtain ⟨H, hH⟩ : ∃ H, H = s.heap := ⟨_, rfl⟩
  have hS : va_S A s.heap H [] := by rw [hH]; exact va_S.rf
  rw [← hH] at hP ⊢
  clear hH
  unfold fX5_move at hf
  generalize ([] : List Loc) = locs at hS ⊢
  refine lv_aload_n hx hb dX5_move_0 rfl (lv_at hl 0 rfl) ?_
  refine lv_aload_n hx hb dX5_move_1 rfl (lv_at hl 0 rfl) ?_
  refine lv_iload_n hx hb dX5_move_2 rfl (lv_at hl 1 rfl) ?_
  refine lv_iload_n hx hb dX5_move_3 rfl (lv_at hl 2 rfl) ?_
  obtain ⟨r1, h1, hf⟩ := z_bE hf
  refine z_cVi (As := [.int p1, .int p2]) (rest := [.ref (a 0)]) (wf := (z_md c a)) (g := g) (u0 := g) ⟨hx, hb, hml, hown, hts⟩ (kX5_whyNotMoved l D c N a H.size g p1 p2 r1 h1) (cwV 2 hts gX5_move_X5_whyNotMoved rfl rfl rfl (by decide +kernel) ⟨Nat.le_of_ble_eq_true rfl, Nat.le_of_ble_eq_true rfl⟩) hP hK hD hS hA (ci := 5) (q0 := 0) rfl rfl rfl rfl hl.1 (Nat.le_of_ble_eq_true rfl) rfl dX5_move_4 ⟨Nat.zero_le _, Nat.zero_le _⟩ (fun H locs hP hD hS => ?_)
  refine va_put (D := D) (ci := 5) (v := .int r1) (ty := .int) (C := RX5) (T := TX5) (N := 13) hx hb hts iX5_move_X5 tyX5 tyX5_ok nmX5 hown hK.1 hP hD hS 0 rfl rfl 0 (by decide) (hts _ qX5_move_37) (fun _ h9 => h9) rfl (by decide +kernel) rfl rfl (Nat.le_of_ble_eq_true rfl) dX5_move_7 (fun H locs hP hD hS => ?_)
  obtain ⟨g2, e2, hf⟩ := z_ltE hf
  have hP : va_P D vwCl (z_md c a g2) H := by rw [e2]; exact hP
  have hD : va_D A (z_md c a g2) := by rw [e2]; exact hD
  clear e2
  refine lv_aload_n hx hb dX5_move_10 rfl (lv_at hl 0 rfl) ?_
  refine va_get (D := D) (ci := 5) (v := .int (g2 0 0)) (C := RX5) (T := TX5) (N := 13) hx hb hts iX5_move_X5 hown hK.1 hP 0 rfl rfl 0 (by decide) (hts _ qX5_move_37) (fun _ h9 => h9) rfl dX5_move_11 ?_
  refine lv_if_le (tgt := 19) hx hb dX5_move_14 (by decide) (fun c3 => ?_) (fun c3 => ?_)
  · have hf := z_ifT hf c3
    refine lv_aload_n hx hb dX5_move_19 rfl (lv_at hl 0 rfl) ?_
    obtain ⟨g4, h4, hf⟩ := z_bE hf
    refine z_cVv (As := []) (rest := []) (wf := (z_md c a)) (g := g2) (u0 := g4) ⟨hx, hb, hml, hown, hts⟩ (kX5_remember l D c N a H.size g2  g4 h4) (cwV 0 hts gX5_move_X5_remember rfl rfl rfl (by decide +kernel) ⟨Nat.le_of_ble_eq_true rfl, Nat.le_of_ble_eq_true rfl⟩) hP hK hD hS hA (ci := 5) (q0 := 0) rfl rfl rfl rfl hl.1 (Nat.le_of_ble_eq_true rfl) rfl dX5_move_20 ⟨Nat.zero_le _, Nat.zero_le _⟩ (fun H locs hP hD hS => ?_)
    refine lv_aload_n hx hb dX5_move_23 rfl (lv_at hl 0 rfl) ?_
    refine lv_iload_n hx hb dX5_move_24 rfl (lv_at hl 1 rfl) ?_
    refine lv_iload_n hx hb dX5_move_25 rfl (lv_at hl 2 rfl) ?_
    obtain ⟨r5, g5, h5, hf⟩ := z_b2E hf
    refine z_cVi (As := [.int p1, .int p2]) (rest := []) (wf := (z_md c a)) (g := g4) (u0 := g5) ⟨hx, hb, hml, hown, hts⟩ (kX5_moved l D c N a H.size g4 p1 p2 r5 g5 h5) (cwV 2 hts gX5_move_X5_moved rfl rfl rfl (by decide +kernel) ⟨Nat.le_of_ble_eq_true rfl, Nat.le_of_ble_eq_true rfl⟩) hP hK hD hS hA (ci := 5) (q0 := 0) rfl rfl rfl rfl hl.1 (Nat.le_of_ble_eq_true rfl) rfl dX5_move_26 ⟨Nat.zero_le _, Nat.zero_le _⟩ (fun H locs hP hD hS => ?_)
    exact z_ri (wf := (z_md c a)) hx hb hr hlocks hP hD hS hf dX5_move_29
  · have hf := z_ifF hf c3
    refine lv_iconst (v := (0 : Int32)) hx hb dX5_move_17 (by decide) ?_
    exact z_ri (wf := (z_md c a)) hx hb hr hlocks hP hD hS hf dX5_move_18
abbrev rmX5_wanted : Room := { frames := 2, cells := 0, slots := 0, locals := 43 }
theorem qX5_wanted_7 : Cond.fieldLink RX5 7 "ProgramDrumModel" "state" "[I" ∈ wsX5_wanted := by decide +kernel
theorem iX5_wanted_X5 : ∀ w ∈ wsX50, w ∈ wsX5_wanted := by decide +kernel
set_option maxRecDepth 100000 in
set_option maxHeartbeats 4000000 in
theorem kX5_wanted (l : Launch) (D : va_G) (c : Nat → ClassId) (N : Nat) (a : Nat → Nat) (sz : Nat) (g : z_R) (p1 : Int32) (r0 : Int32) (hf : fX5_wanted N p1 g = some r0) : Met l yX5_wanted wsX5_wanted rmX5_wanted (z_Pc D c sz (z_md c a g) [.ref (a 0), .int p1]) (z_Qi D (z_md c a) r0 g (va_A (z_md c a g) sz)) 0 0 (va_A (z_md c a g) sz) := by
  refine z_ofM (cc := cX5_wanted) (maxL := 5) (ret := (some .int)) (Qf := fun A => z_Qi D (z_md c a) r0 g A) (plainFor_of_name (by decide)) rfl (Nat.le_of_ble_eq_true rfl) ?_
  intro p e s m args below meth co A ls hx hb hr hml hts hown hlocks hnm hA hP hK hD hl hsz
  have hl : lv_has ls 5 [(0, .ref (a 0)), (1, .int p1)] := hl
  have hown : s.vm.findClass RX5 = some m.cls := hown
  obtain ⟨H, hH⟩ : ∃ H, H = s.heap := ⟨_, rfl⟩
  have hS : va_S A s.heap H [] := by rw [hH]; exact va_S.rf
  rw [← hH] at hP ⊢
  clear hH
  have L53 : ∀ (x1 : Int32) (g : z_R) (fu : Nat) (x2 : Int32) (x4 : Int32), lX5_wanted_53 N x1 g fu x2 x4 = some r0 → ∀ (H : Heap) (locs : List Loc) (ls : Array Slot), va_P D vwCl (z_md c a g) H → va_D A (z_md c a g) → va_S A s.heap H locs → lv_has ls 5 [(0, .ref (a 0)), (1, .int x1), (2, .int x2), (4, .int x4)] → W p l e rmX5_wanted s m args below meth co H locs 0 0 (MQ below (z_Qi D (z_md c a) r0 g A) args s 0 0 A) (F0 m 53 ls []) := by
    intro x1 g fu
    induction fu with
    | zero =>
      intro x2 x4 hf
      have hf : (none : Option Int32) = some _ := hf
      cases hf
    | succ fu ih =>
      intro x2 x4 hf H locs ls hP hD hS hl
      rw [lX5_wanted_53.eq_2] at hf
      refine lv_iload hx hb dX5_wanted_53 (lv_at hl 3 rfl) ?_
      refine lv_if_lt (tgt := 104) hx hb dX5_wanted_55 (by decide) (fun c4 => ?_) (fun c4 => ?_)
      · have hf := z_ifT hf c4
        refine lv_aload_n hx hb dX5_wanted_104 rfl (lv_at hl 0 rfl) ?_
        refine va_get (D := D) (ci := 5) (v := .ref (a 1)) (C := RX5) (T := TX5) (N := 13) hx hb hts iX5_wanted_X5 hown hK.1 hP 0 rfl rfl 1 (by decide) (hts _ qX5_wanted_7) (fun _ h9 => h9) rfl dX5_wanted_105 ?_
        refine lv_iconst (v := (0 : Int32)) hx hb dX5_wanted_108 (by decide) ?_
        refine va_iald hx hb hK.1 hP 1 0 rfl rfl (z_inE (by decide)) dX5_wanted_109 ?_
        refine lv_istore (lv' := [(4, .int (g 1 ((0 : Int32)).toNatClampNeg)), (0, .ref (a 0)), (1, .int x1), (2, .int x2)]) hx hb dX5_wanted_110 hl (by decide) rfl (fun ls hl => ?_)
        refine lv_iload_n hx hb dX5_wanted_112 rfl (lv_at hl 3 rfl) ?_
        refine lv_iconst (v := (2 : Int32)) hx hb dX5_wanted_113 (by decide) ?_
        refine lv_iload hx hb dX5_wanted_114 (lv_at hl 0 rfl) ?_
        refine lv_imul hx hb dX5_wanted_116 ?_
        refine lv_iadd hx hb dX5_wanted_117 ?_
        refine lv_iload hx hb dX5_wanted_118 (lv_at hl 0 rfl) ?_
        obtain ⟨b5, hf⟩ := z_ckE hf
        refine lv_irem hx hb dX5_wanted_120 (z_nzE b5) ?_
        exact z_rp (wf := (z_md c a)) hx hb hr hlocks hP hD hS hf dX5_wanted_121
      · have hf := z_ifF hf c4
        refine lv_aload_n hx hb dX5_wanted_58 rfl (lv_at hl 0 rfl) ?_
        refine lv_iload hx hb dX5_wanted_59 (lv_at hl 3 rfl) ?_
        refine lv_iconst (v := (5 : Int32)) hx hb dX5_wanted_61 (by decide) ?_
        obtain ⟨r6, h6, hf⟩ := z_bE hf
        refine z_cVi (As := [.int x4, .int (5 : Int32)]) (rest := []) (wf := (z_md c a)) (g := g) (u0 := g) ⟨hx, hb, hml, hown, hts⟩ (kX5_part l D c N a H.size g x4 (5 : Int32) r6 h6) (cwV 2 hts gX5_wanted_X5_part rfl rfl rfl (by decide +kernel) ⟨Nat.le_of_ble_eq_true rfl, Nat.le_of_ble_eq_true rfl⟩) hP hK hD hS hA (ci := 5) (q0 := 0) rfl rfl rfl rfl hl.1 (Nat.le_of_ble_eq_true rfl) rfl dX5_wanted_62 ⟨Nat.zero_le _, Nat.zero_le _⟩ (fun H locs hP hD hS => ?_)
        refine lv_iconst (v := (-1 : Int32)) hx hb dX5_wanted_65 (by decide) ?_
        refine lv_icmp_eq (tgt := 98) hx hb dX5_wanted_66 (by decide) (fun c7 => ?_) (fun c7 => ?_)
        · have hf := z_ifT hf c7
          refine lv_iinc (v := (x4 + (-1 : Int32))) (lv' := [(4, .int (x4 + (-1 : Int32))), (0, .ref (a 0)), (1, .int x1), (2, .int x2)]) hx hb dX5_wanted_98 hl (k := 3) rfl rfl (by decide) rfl (fun ls hl => ?_)
          refine lv_goto (tgt := 53) hx hb dX5_wanted_101 (by decide) ?_
          exact ih _ _ hf H locs ls hP hD hS (lv_sub hl [1, 2, 3, 0] rfl)
        · have hf := z_ifF hf c7
          refine lv_aload_n hx hb dX5_wanted_69 rfl (lv_at hl 0 rfl) ?_
          refine lv_iload hx hb dX5_wanted_70 (lv_at hl 3 rfl) ?_
          refine lv_iconst (v := (2 : Int32)) hx hb dX5_wanted_72 (by decide) ?_
          obtain ⟨r8, h8, hf⟩ := z_bE hf
          refine z_cVi (As := [.int x4, .int (2 : Int32)]) (rest := []) (wf := (z_md c a)) (g := g) (u0 := g) ⟨hx, hb, hml, hown, hts⟩ (kX5_part l D c N a H.size g x4 (2 : Int32) r8 h8) (cwV 2 hts gX5_wanted_X5_part rfl rfl rfl (by decide +kernel) ⟨Nat.le_of_ble_eq_true rfl, Nat.le_of_ble_eq_true rfl⟩) hP hK hD hS hA (ci := 5) (q0 := 0) rfl rfl rfl rfl hl.1 (Nat.le_of_ble_eq_true rfl) rfl dX5_wanted_73 ⟨Nat.zero_le _, Nat.zero_le _⟩ (fun H locs hP hD hS => ?_)
          refine lv_iload_n hx hb dX5_wanted_76 rfl (lv_at hl 1 rfl) ?_
          refine lv_icmp_ne (tgt := 98) hx hb dX5_wanted_77 (by decide) (fun c9 => ?_) (fun c9 => ?_)
          · have hf := z_ifF hf c9
            refine lv_iinc (v := (x4 + (-1 : Int32))) (lv' := [(4, .int (x4 + (-1 : Int32))), (0, .ref (a 0)), (1, .int x1), (2, .int x2)]) hx hb dX5_wanted_98 hl (k := 3) rfl rfl (by decide) rfl (fun ls hl => ?_)
            refine lv_goto (tgt := 53) hx hb dX5_wanted_101 (by decide) ?_
            exact ih _ _ hf H locs ls hP hD hS (lv_sub hl [1, 2, 3, 0] rfl)
          · have hf := z_ifT hf c9
            refine lv_aload_n hx hb dX5_wanted_80 rfl (lv_at hl 0 rfl) ?_
            refine lv_iload hx hb dX5_wanted_81 (lv_at hl 3 rfl) ?_
            refine lv_iconst (v := (5 : Int32)) hx hb dX5_wanted_83 (by decide) ?_
            obtain ⟨r10, h10, hf⟩ := z_bE hf
            refine z_cVi (As := [.int x4, .int (5 : Int32)]) (rest := []) (wf := (z_md c a)) (g := g) (u0 := g) ⟨hx, hb, hml, hown, hts⟩ (kX5_part l D c N a H.size g x4 (5 : Int32) r10 h10) (cwV 2 hts gX5_wanted_X5_part rfl rfl rfl (by decide +kernel) ⟨Nat.le_of_ble_eq_true rfl, Nat.le_of_ble_eq_true rfl⟩) hP hK hD hS hA (ci := 5) (q0 := 0) rfl rfl rfl rfl hl.1 (Nat.le_of_ble_eq_true rfl) rfl dX5_wanted_84 ⟨Nat.zero_le _, Nat.zero_le _⟩ (fun H locs hP hD hS => ?_)
            refine lv_iconst (v := (1 : Int32)) hx hb dX5_wanted_87 (by decide) ?_
            refine lv_iadd hx hb dX5_wanted_88 ?_
            refine lv_aload_n hx hb dX5_wanted_89 rfl (lv_at hl 0 rfl) ?_
            refine lv_iload hx hb dX5_wanted_90 (lv_at hl 3 rfl) ?_
            refine lv_iconst (v := (1 : Int32)) hx hb dX5_wanted_92 (by decide) ?_
            obtain ⟨r11, h11, hf⟩ := z_bE hf
            refine z_cVi (As := [.int x4, .int (1 : Int32)]) (rest := [.int (r10 + (1 : Int32))]) (wf := (z_md c a)) (g := g) (u0 := g) ⟨hx, hb, hml, hown, hts⟩ (kX5_part l D c N a H.size g x4 (1 : Int32) r11 h11) (cwV 2 hts gX5_wanted_X5_part rfl rfl rfl (by decide +kernel) ⟨Nat.le_of_ble_eq_true rfl, Nat.le_of_ble_eq_true rfl⟩) hP hK hD hS hA (ci := 5) (q0 := 0) rfl rfl rfl rfl hl.1 (Nat.le_of_ble_eq_true rfl) rfl dX5_wanted_93 ⟨Nat.zero_le _, Nat.zero_le _⟩ (fun H locs hP hD hS => ?_)
            refine lv_iadd hx hb dX5_wanted_96 ?_
            refine lv_istore_n (lv' := [(2, .int ((r10 + (1 : Int32)) + r11)), (0, .ref (a 0)), (1, .int x1), (4, .int x4)]) hx hb dX5_wanted_97 rfl hl (by decide) rfl (fun ls hl => ?_)
            refine lv_iinc (v := (x4 + (-1 : Int32))) (lv' := [(4, .int (x4 + (-1 : Int32))), (2, .int ((r10 + (1 : Int32)) + r11)), (0, .ref (a 0)), (1, .int x1)]) hx hb dX5_wanted_98 hl (k := 3) rfl rfl (by decide) rfl (fun ls hl => ?_)
            refine lv_goto (tgt := 53) hx hb dX5_wanted_101 (by decide) ?_
            exact ih _ _ hf H locs ls hP hD hS (lv_sub hl [2, 3, 1, 0] rfl)
  unfold fX5_wanted at hf
  generalize ([] : List Loc) = locs at hS ⊢
  refine lv_iconst (v := (0 : Int32)) hx hb dX5_wanted_0 (by decide) ?_
  refine lv_istore_n (lv' := [(2, .int (0 : Int32)), (0, .ref (a 0)), (1, .int p1)]) hx hb dX5_wanted_1 rfl hl (by decide) rfl (fun ls hl => ?_)
  refine lv_aload_n hx hb dX5_wanted_2 rfl (lv_at hl 1 rfl) ?_
  refine lv_iload_n hx hb dX5_wanted_3 rfl (lv_at hl 2 rfl) ?_
  refine lv_iconst (v := (2 : Int32)) hx hb dX5_wanted_4 (by decide) ?_
  obtain ⟨r1, h1, hf⟩ := z_bE hf
  refine z_cVi (As := [.int p1, .int (2 : Int32)]) (rest := []) (wf := (z_md c a)) (g := g) (u0 := g) ⟨hx, hb, hml, hown, hts⟩ (kX5_part l D c N a H.size g p1 (2 : Int32) r1 h1) (cwV 2 hts gX5_wanted_X5_part rfl rfl rfl (by decide +kernel) ⟨Nat.le_of_ble_eq_true rfl, Nat.le_of_ble_eq_true rfl⟩) hP hK hD hS hA (ci := 5) (q0 := 0) rfl rfl rfl rfl hl.1 (Nat.le_of_ble_eq_true rfl) rfl dX5_wanted_5 ⟨Nat.zero_le _, Nat.zero_le _⟩ (fun H locs hP hD hS => ?_)
  refine lv_istore_n (lv' := [(3, .int r1), (2, .int (0 : Int32)), (0, .ref (a 0)), (1, .int p1)]) hx hb dX5_wanted_8 rfl hl (by decide) rfl (fun ls hl => ?_)
  refine lv_aload_n hx hb dX5_wanted_9 rfl (lv_at hl 2 rfl) ?_
  refine lv_iload_n hx hb dX5_wanted_10 rfl (lv_at hl 0 rfl) ?_
  obtain ⟨r2, h2, hf⟩ := z_bE hf
  refine z_cVi (As := [.int r1]) (rest := []) (wf := (z_md c a)) (g := g) (u0 := g) ⟨hx, hb, hml, hown, hts⟩ (kX5_isOrder l D c N a H.size g r1 r2 h2) (cwV 1 hts gX5_wanted_X5_isOrder rfl rfl rfl (by decide +kernel) ⟨Nat.le_of_ble_eq_true rfl, Nat.le_of_ble_eq_true rfl⟩) hP hK hD hS hA (ci := 5) (q0 := 0) rfl rfl rfl rfl hl.1 (Nat.le_of_ble_eq_true rfl) rfl dX5_wanted_11 ⟨Nat.zero_le _, Nat.zero_le _⟩ (fun H locs hP hD hS => ?_)
  refine lv_if_eq (tgt := 43) hx hb dX5_wanted_14 (by decide) (fun c3 => ?_) (fun c3 => ?_)
  · have hf := z_ifT hf c3
    refine lv_aload_n hx hb dX5_wanted_43 rfl (lv_at hl 2 rfl) ?_
    refine va_get (D := D) (ci := 5) (v := .ref (a 1)) (C := RX5) (T := TX5) (N := 13) hx hb hts iX5_wanted_X5 hown hK.1 hP 0 rfl rfl 1 (by decide) (hts _ qX5_wanted_7) (fun _ h9 => h9) rfl dX5_wanted_44 ?_
    refine lv_iconst (v := (2 : Int32)) hx hb dX5_wanted_47 (by decide) ?_
    refine va_iald hx hb hK.1 hP 1 0 rfl rfl (z_inE (by decide)) dX5_wanted_48 ?_
    refine lv_iconst (v := (1 : Int32)) hx hb dX5_wanted_49 (by decide) ?_
    refine lv_isub hx hb dX5_wanted_50 ?_
    refine lv_istore (lv' := [(4, .int ((g 1 ((2 : Int32)).toNatClampNeg) - (1 : Int32))), (3, .int r1), (2, .int (0 : Int32)), (0, .ref (a 0)), (1, .int p1)]) hx hb dX5_wanted_51 hl (by decide) rfl (fun ls hl => ?_)
    exact L53 _ _ N _ _ hf H locs ls hP hD hS (lv_sub hl [3, 4, 2, 0] rfl)
  · have hf := z_ifF hf c3
    refine lv_aload_n hx hb dX5_wanted_17 rfl (lv_at hl 2 rfl) ?_
    refine lv_iload_n hx hb dX5_wanted_18 rfl (lv_at hl 0 rfl) ?_
    refine lv_iconst (v := (5 : Int32)) hx hb dX5_wanted_19 (by decide) ?_
    obtain ⟨r12, h12, hf⟩ := z_bE hf
    refine z_cVi (As := [.int r1, .int (5 : Int32)]) (rest := []) (wf := (z_md c a)) (g := g) (u0 := g) ⟨hx, hb, hml, hown, hts⟩ (kX5_part l D c N a H.size g r1 (5 : Int32) r12 h12) (cwV 2 hts gX5_wanted_X5_part rfl rfl rfl (by decide +kernel) ⟨Nat.le_of_ble_eq_true rfl, Nat.le_of_ble_eq_true rfl⟩) hP hK hD hS hA (ci := 5) (q0 := 0) rfl rfl rfl rfl hl.1 (Nat.le_of_ble_eq_true rfl) rfl dX5_wanted_20 ⟨Nat.zero_le _, Nat.zero_le _⟩ (fun H locs hP hD hS => ?_)
    refine lv_iconst (v := (-1 : Int32)) hx hb dX5_wanted_23 (by decide) ?_
    refine lv_icmp_eq (tgt := 43) hx hb dX5_wanted_24 (by decide) (fun c13 => ?_) (fun c13 => ?_)
    · have hf := z_ifT hf c13
      refine lv_aload_n hx hb dX5_wanted_43 rfl (lv_at hl 2 rfl) ?_
      refine va_get (D := D) (ci := 5) (v := .ref (a 1)) (C := RX5) (T := TX5) (N := 13) hx hb hts iX5_wanted_X5 hown hK.1 hP 0 rfl rfl 1 (by decide) (hts _ qX5_wanted_7) (fun _ h9 => h9) rfl dX5_wanted_44 ?_
      refine lv_iconst (v := (2 : Int32)) hx hb dX5_wanted_47 (by decide) ?_
      refine va_iald hx hb hK.1 hP 1 0 rfl rfl (z_inE (by decide)) dX5_wanted_48 ?_
      refine lv_iconst (v := (1 : Int32)) hx hb dX5_wanted_49 (by decide) ?_
      refine lv_isub hx hb dX5_wanted_50 ?_
      refine lv_istore (lv' := [(4, .int ((g 1 ((2 : Int32)).toNatClampNeg) - (1 : Int32))), (3, .int r1), (2, .int (0 : Int32)), (0, .ref (a 0)), (1, .int p1)]) hx hb dX5_wanted_51 hl (by decide) rfl (fun ls hl => ?_)
      exact L53 _ _ N _ _ hf H locs ls hP hD hS (lv_sub hl [3, 4, 2, 0] rfl)
    · have hf := z_ifF hf c13
      refine lv_aload_n hx hb dX5_wanted_27 rfl (lv_at hl 2 rfl) ?_
      refine lv_iload_n hx hb dX5_wanted_28 rfl (lv_at hl 0 rfl) ?_
      refine lv_iconst (v := (5 : Int32)) hx hb dX5_wanted_29 (by decide) ?_
      obtain ⟨r14, h14, hf⟩ := z_bE hf
      refine z_cVi (As := [.int r1, .int (5 : Int32)]) (rest := []) (wf := (z_md c a)) (g := g) (u0 := g) ⟨hx, hb, hml, hown, hts⟩ (kX5_part l D c N a H.size g r1 (5 : Int32) r14 h14) (cwV 2 hts gX5_wanted_X5_part rfl rfl rfl (by decide +kernel) ⟨Nat.le_of_ble_eq_true rfl, Nat.le_of_ble_eq_true rfl⟩) hP hK hD hS hA (ci := 5) (q0 := 0) rfl rfl rfl rfl hl.1 (Nat.le_of_ble_eq_true rfl) rfl dX5_wanted_30 ⟨Nat.zero_le _, Nat.zero_le _⟩ (fun H locs hP hD hS => ?_)
      refine lv_iconst (v := (1 : Int32)) hx hb dX5_wanted_33 (by decide) ?_
      refine lv_isub hx hb dX5_wanted_34 ?_
      refine lv_aload_n hx hb dX5_wanted_35 rfl (lv_at hl 2 rfl) ?_
      refine lv_iload_n hx hb dX5_wanted_36 rfl (lv_at hl 3 rfl) ?_
      refine lv_iconst (v := (1 : Int32)) hx hb dX5_wanted_37 (by decide) ?_
      obtain ⟨r15, h15, hf⟩ := z_bE hf
      refine z_cVi (As := [.int p1, .int (1 : Int32)]) (rest := [.int (r14 - (1 : Int32))]) (wf := (z_md c a)) (g := g) (u0 := g) ⟨hx, hb, hml, hown, hts⟩ (kX5_part l D c N a H.size g p1 (1 : Int32) r15 h15) (cwV 2 hts gX5_wanted_X5_part rfl rfl rfl (by decide +kernel) ⟨Nat.le_of_ble_eq_true rfl, Nat.le_of_ble_eq_true rfl⟩) hP hK hD hS hA (ci := 5) (q0 := 0) rfl rfl rfl rfl hl.1 (Nat.le_of_ble_eq_true rfl) rfl dX5_wanted_38 ⟨Nat.zero_le _, Nat.zero_le _⟩ (fun H locs hP hD hS => ?_)
      refine lv_isub hx hb dX5_wanted_41 ?_
      refine lv_istore_n (lv' := [(2, .int ((r14 - (1 : Int32)) - r15)), (3, .int r1), (0, .ref (a 0)), (1, .int p1)]) hx hb dX5_wanted_42 rfl hl (by decide) rfl (fun ls hl => ?_)
      refine lv_aload_n hx hb dX5_wanted_43 rfl (lv_at hl 2 rfl) ?_
      refine va_get (D := D) (ci := 5) (v := .ref (a 1)) (C := RX5) (T := TX5) (N := 13) hx hb hts iX5_wanted_X5 hown hK.1 hP 0 rfl rfl 1 (by decide) (hts _ qX5_wanted_7) (fun _ h9 => h9) rfl dX5_wanted_44 ?_
      refine lv_iconst (v := (2 : Int32)) hx hb dX5_wanted_47 (by decide) ?_
      refine va_iald hx hb hK.1 hP 1 0 rfl rfl (z_inE (by decide)) dX5_wanted_48 ?_
      refine lv_iconst (v := (1 : Int32)) hx hb dX5_wanted_49 (by decide) ?_
      refine lv_isub hx hb dX5_wanted_50 ?_
      refine lv_istore (lv' := [(4, .int ((g 1 ((2 : Int32)).toNatClampNeg) - (1 : Int32))), (2, .int ((r14 - (1 : Int32)) - r15)), (3, .int r1), (0, .ref (a 0)), (1, .int p1)]) hx hb dX5_wanted_51 hl (by decide) rfl (fun ls hl => ?_)
      exact L53 _ _ N _ _ hf H locs ls hP hD hS (lv_sub hl [3, 4, 1, 0] rfl)
abbrev rmX5_laid : Room := { frames := 3, cells := 0, slots := 0, locals := 67 }
theorem qX5_laid_7 : Cond.fieldLink RX5 7 "ProgramDrumModel" "state" "[I" ∈ wsX5_laid := by decide +kernel
theorem iX5_laid_X5 : ∀ w ∈ wsX50, w ∈ wsX5_laid := by decide +kernel
set_option maxRecDepth 100000 in
set_option maxHeartbeats 4000000 in
theorem kX5_laid (l : Launch) (D : va_G) (c : Nat → ClassId) (N : Nat) (a : Nat → Nat) (sz : Nat) (g : z_R) (r0 : Int32) (g0 : z_R) (hf : fX5_laid N g = some (r0, g0)) : Met l yX5_laid wsX5_laid rmX5_laid (z_Pc D c sz (z_md c a g) [.ref (a 0)]) (z_Qi D (z_md c a) r0 g0 (va_A (z_md c a g) sz)) 0 0 (va_A (z_md c a g) sz) := by
  refine z_ofM (cc := cX5_laid) (maxL := 6) (ret := (some .int)) (Qf := fun A => z_Qi D (z_md c a) r0 g0 A) (plainFor_of_name (by decide)) rfl (Nat.le_of_ble_eq_true rfl) ?_
  intro p e s m args below meth co A ls hx hb hr hml hts hown hlocks hnm hA hP hK hD hl hsz
  have hl : lv_has ls 6 [(0, .ref (a 0))] := hl
  have hown : s.vm.findClass RX5 = some m.cls := hown
  obtain ⟨H, hH⟩ : ∃ H, H = s.heap := ⟨_, rfl⟩
  have hS : va_S A s.heap H [] := by rw [hH]; exact va_S.rf
  rw [← hH] at hP ⊢
  clear hH
  have L45 : ∀ (x1 : Int32) (x2 : Int32) (x3 : Int32) (x4 : Int32) (g : z_R) (k : Int32 → Option (Int32 × z_R)) (hk : ∀ (x5 : Int32), k x5 = some (r0, g0) → ∀ (H : Heap) (locs : List Loc) (ls : Array Slot), va_P D vwCl (z_md c a g) H → va_D A (z_md c a g) → va_S A s.heap H locs → lv_has ls 6 [(0, .ref (a 0)), (1, .int x1), (2, .int x2), (3, .int x3), (4, .int x4), (5, .int x5)] → W p l e rmX5_laid s m args below meth co H locs 0 0 (MQ below (z_Qi D (z_md c a) r0 g0 A) args s 0 0 A) (F0 m 82 ls [])) (fu : Nat) (x5 : Int32), lX5_laid_45 N x1 x2 x3 x4 g k fu x5 = some (r0, g0) → ∀ (H : Heap) (locs : List Loc) (ls : Array Slot), va_P D vwCl (z_md c a g) H → va_D A (z_md c a g) → va_S A s.heap H locs → lv_has ls 6 [(0, .ref (a 0)), (1, .int x1), (2, .int x2), (3, .int x3), (4, .int x4), (5, .int x5)] → W p l e rmX5_laid s m args below meth co H locs 0 0 (MQ below (z_Qi D (z_md c a) r0 g0 A) args s 0 0 A) (F0 m 45 ls []) := by
    intro x1 x2 x3 x4 g k hk fu
    induction fu with
    | zero =>
      intro x5 hf
      have hf : (none : Option (Int32 × z_R)) = some _ := hf
      cases hf
    | succ fu ih =>
      intro x5 hf H locs ls hP hD hS hl
      rw [lX5_laid_45.eq_2] at hf
      refine lv_iload hx hb dX5_laid_45 (lv_at hl 5 rfl) ?_
      refine lv_aload_n hx hb dX5_laid_47 rfl (lv_at hl 0 rfl) ?_
      refine va_get (D := D) (ci := 5) (v := .ref (a 1)) (C := RX5) (T := TX5) (N := 13) hx hb hts iX5_laid_X5 hown hK.1 hP 0 rfl rfl 1 (by decide) (hts _ qX5_laid_7) (fun _ h9 => h9) rfl dX5_laid_48 ?_
      refine lv_iconst (v := (0 : Int32)) hx hb dX5_laid_51 (by decide) ?_
      refine va_iald hx hb hK.1 hP 1 0 rfl rfl (z_inE (by decide)) dX5_laid_52 ?_
      refine lv_icmp_ge (tgt := 82) hx hb dX5_laid_53 (by decide) (fun c7 => ?_) (fun c7 => ?_)
      · have hf := z_ifT hf c7
        exact hk _ hf H locs ls hP hD hS (lv_sub hl [0, 1, 2, 3, 4, 5] rfl)
      · have hf := z_ifF hf c7
        refine lv_aload_n hx hb dX5_laid_56 rfl (lv_at hl 0 rfl) ?_
        refine lv_iload hx hb dX5_laid_57 (lv_at hl 4 rfl) ?_
        refine lv_iload hx hb dX5_laid_59 (lv_at hl 5 rfl) ?_
        refine lv_iadd hx hb dX5_laid_61 ?_
        refine lv_aload_n hx hb dX5_laid_62 rfl (lv_at hl 0 rfl) ?_
        refine va_get (D := D) (ci := 5) (v := .ref (a 1)) (C := RX5) (T := TX5) (N := 13) hx hb hts iX5_laid_X5 hown hK.1 hP 0 rfl rfl 1 (by decide) (hts _ qX5_laid_7) (fun _ h9 => h9) rfl dX5_laid_63 ?_
        refine lv_iconst (v := (0 : Int32)) hx hb dX5_laid_66 (by decide) ?_
        refine va_iald hx hb hK.1 hP 1 0 rfl rfl (z_inE (by decide)) dX5_laid_67 ?_
        obtain ⟨b8, hf⟩ := z_ckE hf
        refine lv_irem hx hb dX5_laid_68 (z_nzE b8) ?_
        obtain ⟨r9, h9, hf⟩ := z_bE hf
        refine z_cVi (As := [.int ((x4 + x5) - (x4 + x5) / (g 1 ((0 : Int32)).toNatClampNeg) * (g 1 ((0 : Int32)).toNatClampNeg))]) (rest := []) (wf := (z_md c a)) (g := g) (u0 := g) ⟨hx, hb, hml, hown, hts⟩ (kX5_standing l D c N a H.size g ((x4 + x5) - (x4 + x5) / (g 1 ((0 : Int32)).toNatClampNeg) * (g 1 ((0 : Int32)).toNatClampNeg)) r9 h9) (cwV 1 hts gX5_laid_X5_standing rfl rfl rfl (by decide +kernel) ⟨Nat.le_of_ble_eq_true rfl, Nat.le_of_ble_eq_true rfl⟩) hP hK hD hS hA (ci := 5) (q0 := 0) rfl rfl rfl rfl hl.1 (Nat.le_of_ble_eq_true rfl) rfl dX5_laid_69 ⟨Nat.zero_le _, Nat.zero_le _⟩ (fun H locs hP hD hS => ?_)
        refine lv_iconst (v := (-1 : Int32)) hx hb dX5_laid_72 (by decide) ?_
        refine lv_icmp_eq (tgt := 82) hx hb dX5_laid_73 (by decide) (fun c10 => ?_) (fun c10 => ?_)
        · have hf := z_ifT hf c10
          exact hk _ hf H locs ls hP hD hS (lv_sub hl [0, 1, 2, 3, 4, 5] rfl)
        · have hf := z_ifF hf c10
          refine lv_iinc (v := (x5 + (1 : Int32))) (lv' := [(5, .int (x5 + (1 : Int32))), (0, .ref (a 0)), (1, .int x1), (2, .int x2), (3, .int x3), (4, .int x4)]) hx hb dX5_laid_76 hl (k := 5) rfl rfl (by decide) rfl (fun ls hl => ?_)
          refine lv_goto (tgt := 45) hx hb dX5_laid_79 (by decide) ?_
          exact ih _ hf H locs ls hP hD hS (lv_sub hl [1, 2, 3, 4, 5, 0] rfl)
  have L15 : ∀ (x2 : Int32) (k : Int32 → z_R → Option (Int32 × z_R)) (hk : ∀ (x1 : Int32) (g : z_R), k x1 g = some (r0, g0) → ∀ (H : Heap) (locs : List Loc) (ls : Array Slot), va_P D vwCl (z_md c a g) H → va_D A (z_md c a g) → va_S A s.heap H locs → lv_has ls 6 [(0, .ref (a 0)), (1, .int x1), (2, .int x2)] → W p l e rmX5_laid s m args below meth co H locs 0 0 (MQ below (z_Qi D (z_md c a) r0 g0 A) args s 0 0 A) (F0 m 156 ls [])) (fu : Nat) (x1 : Int32) (x3 : Int32) (g : z_R), lX5_laid_15 N x2 k fu x1 x3 g = some (r0, g0) → ∀ (H : Heap) (locs : List Loc) (ls : Array Slot), va_P D vwCl (z_md c a g) H → va_D A (z_md c a g) → va_S A s.heap H locs → lv_has ls 6 [(0, .ref (a 0)), (1, .int x1), (2, .int x2), (3, .int x3)] → W p l e rmX5_laid s m args below meth co H locs 0 0 (MQ below (z_Qi D (z_md c a) r0 g0 A) args s 0 0 A) (F0 m 15 ls []) := by
    intro x2 k hk fu
    induction fu with
    | zero =>
      intro x1 x3 g hf
      have hf : (none : Option (Int32 × z_R)) = some _ := hf
      cases hf
    | succ fu ih =>
      intro x1 x3 g hf H locs ls hP hD hS hl
      rw [lX5_laid_15.eq_2] at hf
      refine lv_iload_n hx hb dX5_laid_15 rfl (lv_at hl 3 rfl) ?_
      refine lv_aload_n hx hb dX5_laid_16 rfl (lv_at hl 0 rfl) ?_
      refine va_get (D := D) (ci := 5) (v := .ref (a 1)) (C := RX5) (T := TX5) (N := 13) hx hb hts iX5_laid_X5 hown hK.1 hP 0 rfl rfl 1 (by decide) (hts _ qX5_laid_7) (fun _ h9 => h9) rfl dX5_laid_17 ?_
      refine lv_iconst (v := (2 : Int32)) hx hb dX5_laid_20 (by decide) ?_
      refine va_iald hx hb hK.1 hP 1 0 rfl rfl (z_inE (by decide)) dX5_laid_21 ?_
      refine lv_icmp_ge (tgt := 156) hx hb dX5_laid_22 (by decide) (fun c3 => ?_) (fun c3 => ?_)
      · have hf := z_ifT hf c3
        exact hk _ _ hf H locs ls hP hD hS (lv_sub hl [0, 1, 2] rfl)
      · have hf := z_ifF hf c3
        refine lv_aload_n hx hb dX5_laid_25 rfl (lv_at hl 0 rfl) ?_
        refine lv_iload_n hx hb dX5_laid_26 rfl (lv_at hl 3 rfl) ?_
        refine lv_iconst (v := (4 : Int32)) hx hb dX5_laid_27 (by decide) ?_
        obtain ⟨r4, h4, hf⟩ := z_bE hf
        refine z_cVi (As := [.int x3, .int (4 : Int32)]) (rest := []) (wf := (z_md c a)) (g := g) (u0 := g) ⟨hx, hb, hml, hown, hts⟩ (kX5_part l D c N a H.size g x3 (4 : Int32) r4 h4) (cwV 2 hts gX5_laid_X5_part rfl rfl rfl (by decide +kernel) ⟨Nat.le_of_ble_eq_true rfl, Nat.le_of_ble_eq_true rfl⟩) hP hK hD hS hA (ci := 5) (q0 := 0) rfl rfl rfl rfl hl.1 (Nat.le_of_ble_eq_true rfl) rfl dX5_laid_28 ⟨Nat.zero_le _, Nat.zero_le _⟩ (fun H locs hP hD hS => ?_)
        refine lv_iload_n hx hb dX5_laid_31 rfl (lv_at hl 2 rfl) ?_
        refine lv_icmp_ne (tgt := 150) hx hb dX5_laid_32 (by decide) (fun c5 => ?_) (fun c5 => ?_)
        · have hf := z_ifF hf c5
          refine lv_iinc (v := (x3 + (1 : Int32))) (lv' := [(3, .int (x3 + (1 : Int32))), (0, .ref (a 0)), (1, .int x1), (2, .int x2)]) hx hb dX5_laid_150 hl (k := 3) rfl rfl (by decide) rfl (fun ls hl => ?_)
          refine lv_goto (tgt := 15) hx hb dX5_laid_153 (by decide) ?_
          exact ih _ _ _ hf H locs ls hP hD hS (lv_sub hl [1, 2, 3, 0] rfl)
        · have hf := z_ifT hf c5
          refine lv_aload_n hx hb dX5_laid_35 rfl (lv_at hl 0 rfl) ?_
          refine lv_iload_n hx hb dX5_laid_36 rfl (lv_at hl 3 rfl) ?_
          obtain ⟨r6, h6, hf⟩ := z_bE hf
          refine z_cVi (As := [.int x3]) (rest := []) (wf := (z_md c a)) (g := g) (u0 := g) ⟨hx, hb, hml, hown, hts⟩ (kX5_wanted l D c N a H.size g x3 r6 h6) (cwV 1 hts gX5_laid_X5_wanted rfl rfl rfl (by decide +kernel) ⟨Nat.le_of_ble_eq_true rfl, Nat.le_of_ble_eq_true rfl⟩) hP hK hD hS hA (ci := 5) (q0 := 0) rfl rfl rfl rfl hl.1 (Nat.le_of_ble_eq_true rfl) rfl dX5_laid_37 ⟨Nat.zero_le _, Nat.zero_le _⟩ (fun H locs hP hD hS => ?_)
          refine lv_istore (lv' := [(4, .int r6), (0, .ref (a 0)), (1, .int x1), (2, .int x2), (3, .int x3)]) hx hb dX5_laid_40 hl (by decide) rfl (fun ls hl => ?_)
          refine lv_iconst (v := (0 : Int32)) hx hb dX5_laid_42 (by decide) ?_
          refine lv_istore (lv' := [(5, .int (0 : Int32)), (4, .int r6), (0, .ref (a 0)), (1, .int x1), (2, .int x2), (3, .int x3)]) hx hb dX5_laid_43 hl (by decide) rfl (fun ls hl => ?_)
          refine L45 _ _ _ _ _ _ (fun x5_45 hf H locs ls hP hD hS hl => ?_) N _ hf H locs ls hP hD hS (lv_sub hl [2, 3, 4, 5, 1, 0] rfl)
          refine lv_iload hx hb dX5_laid_82 (lv_at hl 5 rfl) ?_
          refine lv_aload_n hx hb dX5_laid_84 rfl (lv_at hl 0 rfl) ?_
          refine va_get (D := D) (ci := 5) (v := .ref (a 1)) (C := RX5) (T := TX5) (N := 13) hx hb hts iX5_laid_X5 hown hK.1 hP 0 rfl rfl 1 (by decide) (hts _ qX5_laid_7) (fun _ h9 => h9) rfl dX5_laid_85 ?_
          refine lv_iconst (v := (0 : Int32)) hx hb dX5_laid_88 (by decide) ?_
          refine va_iald hx hb hK.1 hP 1 0 rfl rfl (z_inE (by decide)) dX5_laid_89 ?_
          refine lv_icmp_ge (tgt := 150) hx hb dX5_laid_90 (by decide) (fun c11 => ?_) (fun c11 => ?_)
          · have hf := z_ifT hf c11
            refine lv_iinc (v := (x3 + (1 : Int32))) (lv' := [(3, .int (x3 + (1 : Int32))), (0, .ref (a 0)), (1, .int x1), (2, .int x2), (4, .int r6), (5, .int x5_45)]) hx hb dX5_laid_150 hl (k := 3) rfl rfl (by decide) rfl (fun ls hl => ?_)
            refine lv_goto (tgt := 15) hx hb dX5_laid_153 (by decide) ?_
            exact ih _ _ _ hf H locs ls hP hD hS (lv_sub hl [1, 2, 3, 0] rfl)
          · have hf := z_ifF hf c11
            refine lv_aload_n hx hb dX5_laid_93 rfl (lv_at hl 0 rfl) ?_
            refine lv_iload_n hx hb dX5_laid_94 rfl (lv_at hl 3 rfl) ?_
            refine lv_iconst (v := (5 : Int32)) hx hb dX5_laid_95 (by decide) ?_
            refine lv_iload hx hb dX5_laid_96 (lv_at hl 4 rfl) ?_
            refine lv_iload hx hb dX5_laid_98 (lv_at hl 5 rfl) ?_
            refine lv_iadd hx hb dX5_laid_100 ?_
            refine lv_aload_n hx hb dX5_laid_101 rfl (lv_at hl 0 rfl) ?_
            refine va_get (D := D) (ci := 5) (v := .ref (a 1)) (C := RX5) (T := TX5) (N := 13) hx hb hts iX5_laid_X5 hown hK.1 hP 0 rfl rfl 1 (by decide) (hts _ qX5_laid_7) (fun _ h9 => h9) rfl dX5_laid_102 ?_
            refine lv_iconst (v := (0 : Int32)) hx hb dX5_laid_105 (by decide) ?_
            refine va_iald hx hb hK.1 hP 1 0 rfl rfl (z_inE (by decide)) dX5_laid_106 ?_
            obtain ⟨b12, hf⟩ := z_ckE hf
            refine lv_irem hx hb dX5_laid_107 (z_nzE b12) ?_
            obtain ⟨g13, h13, hf⟩ := z_bE hf
            refine z_cVv (As := [.int x3, .int (5 : Int32), .int ((r6 + x5_45) - (r6 + x5_45) / (g 1 ((0 : Int32)).toNatClampNeg) * (g 1 ((0 : Int32)).toNatClampNeg))]) (rest := []) (wf := (z_md c a)) (g := g) (u0 := g13) ⟨hx, hb, hml, hown, hts⟩ (kX5_setPart l D c N a H.size g x3 (5 : Int32) ((r6 + x5_45) - (r6 + x5_45) / (g 1 ((0 : Int32)).toNatClampNeg) * (g 1 ((0 : Int32)).toNatClampNeg)) g13 h13) (cwV 3 hts gX5_laid_X5_setPart rfl rfl rfl (by decide +kernel) ⟨Nat.le_of_ble_eq_true rfl, Nat.le_of_ble_eq_true rfl⟩) hP hK hD hS hA (ci := 5) (q0 := 0) rfl rfl rfl rfl hl.1 (Nat.le_of_ble_eq_true rfl) rfl dX5_laid_108 ⟨Nat.zero_le _, Nat.zero_le _⟩ (fun H locs hP hD hS => ?_)
            refine lv_aload_n hx hb dX5_laid_111 rfl (lv_at hl 0 rfl) ?_
            refine lv_iload_n hx hb dX5_laid_112 rfl (lv_at hl 3 rfl) ?_
            refine lv_bipush (v := (6 : Int32)) hx hb dX5_laid_113 (by decide) ?_
            refine lv_iload hx hb dX5_laid_115 (lv_at hl 5 rfl) ?_
            obtain ⟨g14, h14, hf⟩ := z_bE hf
            refine z_cVv (As := [.int x3, .int (6 : Int32), .int x5_45]) (rest := []) (wf := (z_md c a)) (g := g13) (u0 := g14) ⟨hx, hb, hml, hown, hts⟩ (kX5_setPart l D c N a H.size g13 x3 (6 : Int32) x5_45 g14 h14) (cwV 3 hts gX5_laid_X5_setPart rfl rfl rfl (by decide +kernel) ⟨Nat.le_of_ble_eq_true rfl, Nat.le_of_ble_eq_true rfl⟩) hP hK hD hS hA (ci := 5) (q0 := 0) rfl rfl rfl rfl hl.1 (Nat.le_of_ble_eq_true rfl) rfl dX5_laid_117 ⟨Nat.zero_le _, Nat.zero_le _⟩ (fun H locs hP hD hS => ?_)
            refine lv_aload_n hx hb dX5_laid_120 rfl (lv_at hl 0 rfl) ?_
            refine lv_iload_n hx hb dX5_laid_121 rfl (lv_at hl 3 rfl) ?_
            refine lv_bipush (v := (7 : Int32)) hx hb dX5_laid_122 (by decide) ?_
            refine lv_iload_n hx hb dX5_laid_124 rfl (lv_at hl 2 rfl) ?_
            obtain ⟨g15, h15, hf⟩ := z_bE hf
            refine z_cVv (As := [.int x3, .int (7 : Int32), .int x2]) (rest := []) (wf := (z_md c a)) (g := g14) (u0 := g15) ⟨hx, hb, hml, hown, hts⟩ (kX5_setPart l D c N a H.size g14 x3 (7 : Int32) x2 g15 h15) (cwV 3 hts gX5_laid_X5_setPart rfl rfl rfl (by decide +kernel) ⟨Nat.le_of_ble_eq_true rfl, Nat.le_of_ble_eq_true rfl⟩) hP hK hD hS hA (ci := 5) (q0 := 0) rfl rfl rfl rfl hl.1 (Nat.le_of_ble_eq_true rfl) rfl dX5_laid_125 ⟨Nat.zero_le _, Nat.zero_le _⟩ (fun H locs hP hD hS => ?_)
            refine lv_aload_n hx hb dX5_laid_128 rfl (lv_at hl 0 rfl) ?_
            refine va_get (D := D) (ci := 5) (v := .ref (a 1)) (C := RX5) (T := TX5) (N := 13) hx hb hts iX5_laid_X5 hown hK.1 hP 0 rfl rfl 1 (by decide) (hts _ qX5_laid_7) (fun _ h9 => h9) rfl dX5_laid_129 ?_
            refine lv_iconst (v := (5 : Int32)) hx hb dX5_laid_132 (by decide) ?_
            refine lv_aload_n hx hb dX5_laid_133 rfl (lv_at hl 0 rfl) ?_
            refine lv_iload_n hx hb dX5_laid_134 rfl (lv_at hl 3 rfl) ?_
            refine lv_iconst (v := (0 : Int32)) hx hb dX5_laid_135 (by decide) ?_
            obtain ⟨r16, h16, hf⟩ := z_bE hf
            refine z_cVi (As := [.int x3, .int (0 : Int32)]) (rest := [.int (5 : Int32), .ref (a 1)]) (wf := (z_md c a)) (g := g15) (u0 := g15) ⟨hx, hb, hml, hown, hts⟩ (kX5_part l D c N a H.size g15 x3 (0 : Int32) r16 h16) (cwV 2 hts gX5_laid_X5_part rfl rfl rfl (by decide +kernel) ⟨Nat.le_of_ble_eq_true rfl, Nat.le_of_ble_eq_true rfl⟩) hP hK hD hS hA (ci := 5) (q0 := 0) rfl rfl rfl rfl hl.1 (Nat.le_of_ble_eq_true rfl) rfl dX5_laid_136 ⟨Nat.zero_le _, Nat.zero_le _⟩ (fun H locs hP hD hS => ?_)
            refine lv_iadd hx hb dX5_laid_139 ?_
            refine lv_dup2_11 hx hb dX5_laid_140 rfl rfl ?_
            obtain ⟨b17, hf⟩ := z_ckE hf
            refine va_iald hx hb hK.1 hP 1 0 rfl rfl (z_inE b17) dX5_laid_141 ?_
            refine lv_iload_n hx hb dX5_laid_142 rfl (lv_at hl 2 rfl) ?_
            refine lv_iadd hx hb dX5_laid_143 ?_
            obtain ⟨b18, hf⟩ := z_ckE hf
            refine va_iast hx hb hK.1 hP hD hS 1 0 rfl rfl (z_inE b18) dX5_laid_144 (fun H locs hP hD hS => ?_)
            obtain ⟨g19, e19, hf⟩ := z_ltE hf
            have hP : va_P D vwCl (z_md c a g19) H := by rw [e19]; exact hP
            have hD : va_D A (z_md c a g19) := by rw [e19]; exact hD
            clear e19
            refine lv_iload_n hx hb dX5_laid_145 rfl (lv_at hl 1 rfl) ?_
            refine lv_iload hx hb dX5_laid_146 (lv_at hl 5 rfl) ?_
            refine lv_iadd hx hb dX5_laid_148 ?_
            refine lv_istore_n (lv' := [(1, .int (x1 + x5_45)), (0, .ref (a 0)), (2, .int x2), (3, .int x3), (4, .int r6), (5, .int x5_45)]) hx hb dX5_laid_149 rfl hl (by decide) rfl (fun ls hl => ?_)
            refine lv_iinc (v := (x3 + (1 : Int32))) (lv' := [(3, .int (x3 + (1 : Int32))), (1, .int (x1 + x5_45)), (0, .ref (a 0)), (2, .int x2), (4, .int r6), (5, .int x5_45)]) hx hb dX5_laid_150 hl (k := 3) rfl rfl (by decide) rfl (fun ls hl => ?_)
            refine lv_goto (tgt := 15) hx hb dX5_laid_153 (by decide) ?_
            exact ih _ _ _ hf H locs ls hP hD hS (lv_sub hl [2, 1, 3, 0] rfl)
  have L9 : ∀ (fu : Nat) (x1 : Int32) (x2 : Int32) (g : z_R), lX5_laid_9 N fu x1 x2 g = some (r0, g0) → ∀ (H : Heap) (locs : List Loc) (ls : Array Slot), va_P D vwCl (z_md c a g) H → va_D A (z_md c a g) → va_S A s.heap H locs → lv_has ls 6 [(0, .ref (a 0)), (1, .int x1), (2, .int x2)] → W p l e rmX5_laid s m args below meth co H locs 0 0 (MQ below (z_Qi D (z_md c a) r0 g0 A) args s 0 0 A) (F0 m 9 ls []) := by
    intro fu
    induction fu with
    | zero =>
      intro x1 x2 g hf
      have hf : (none : Option (Int32 × z_R)) = some _ := hf
      cases hf
    | succ fu ih =>
      intro x1 x2 g hf H locs ls hP hD hS hl
      rw [lX5_laid_9.eq_2] at hf
      refine lv_iload_n hx hb dX5_laid_9 rfl (lv_at hl 2 rfl) ?_
      refine lv_if_lt (tgt := 162) hx hb dX5_laid_10 (by decide) (fun c2 => ?_) (fun c2 => ?_)
      · have hf := z_ifT hf c2
        refine lv_iload_n hx hb dX5_laid_162 rfl (lv_at hl 1 rfl) ?_
        exact z_ri (wf := (z_md c a)) hx hb hr hlocks hP hD hS hf dX5_laid_163
      · have hf := z_ifF hf c2
        refine lv_iconst (v := (0 : Int32)) hx hb dX5_laid_13 (by decide) ?_
        refine lv_istore_n (lv' := [(3, .int (0 : Int32)), (0, .ref (a 0)), (1, .int x1), (2, .int x2)]) hx hb dX5_laid_14 rfl hl (by decide) rfl (fun ls hl => ?_)
        refine L15 _ _ (fun x1_15 g15_20 hf H locs ls hP hD hS hl => ?_) N _ _ _ hf H locs ls hP hD hS (lv_sub hl [1, 2, 3, 0] rfl)
        refine lv_iinc (v := (x2 + (-1 : Int32))) (lv' := [(2, .int (x2 + (-1 : Int32))), (0, .ref (a 0)), (1, .int x1_15)]) hx hb dX5_laid_156 hl (k := 2) rfl rfl (by decide) rfl (fun ls hl => ?_)
        refine lv_goto (tgt := 9) hx hb dX5_laid_159 (by decide) ?_
        exact ih _ _ _ hf H locs ls hP hD hS (lv_sub hl [1, 2, 0] rfl)
  unfold fX5_laid at hf
  generalize ([] : List Loc) = locs at hS ⊢
  refine lv_aload_n hx hb dX5_laid_0 rfl (lv_at hl 0 rfl) ?_
  obtain ⟨g1, h1, hf⟩ := z_bE hf
  refine z_cVv (As := []) (rest := []) (wf := (z_md c a)) (g := g) (u0 := g1) ⟨hx, hb, hml, hown, hts⟩ (kX5_takeOff l D c N a H.size g  g1 h1) (cwV 0 hts gX5_laid_X5_takeOff rfl rfl rfl (by decide +kernel) ⟨Nat.le_of_ble_eq_true rfl, Nat.le_of_ble_eq_true rfl⟩) hP hK hD hS hA (ci := 5) (q0 := 0) rfl rfl rfl rfl hl.1 (Nat.le_of_ble_eq_true rfl) rfl dX5_laid_1 ⟨Nat.zero_le _, Nat.zero_le _⟩ (fun H locs hP hD hS => ?_)
  refine lv_iconst (v := (0 : Int32)) hx hb dX5_laid_4 (by decide) ?_
  refine lv_istore_n (lv' := [(1, .int (0 : Int32)), (0, .ref (a 0))]) hx hb dX5_laid_5 rfl hl (by decide) rfl (fun ls hl => ?_)
  refine lv_bipush (v := (99 : Int32)) hx hb dX5_laid_6 (by decide) ?_
  refine lv_istore_n (lv' := [(2, .int (99 : Int32)), (1, .int (0 : Int32)), (0, .ref (a 0))]) hx hb dX5_laid_8 rfl hl (by decide) rfl (fun ls hl => ?_)
  exact L9 N _ _ _ hf H locs ls hP hD hS (lv_sub hl [2, 1, 0] rfl)
abbrev rmX5_lay : Room := { frames := 4, cells := 0, slots := 0, locals := 92 }
theorem qX5_lay_37 : Cond.fieldLink RX5 37 "ProgramDrumModel" "thrown" "I" ∈ wsX5_lay := by decide +kernel
theorem iX5_lay_X5 : ∀ w ∈ wsX50, w ∈ wsX5_lay := by decide +kernel
set_option maxRecDepth 100000 in
set_option maxHeartbeats 4000000 in
theorem kX5_lay (l : Launch) (D : va_G) (c : Nat → ClassId) (N : Nat) (a : Nat → Nat) (sz : Nat) (g : z_R) (r0 : Int32) (g0 : z_R) (hf : fX5_lay N g = some (r0, g0)) : Met l yX5_lay wsX5_lay rmX5_lay (z_Pc D c sz (z_md c a g) [.ref (a 0)]) (z_Qi D (z_md c a) r0 g0 (va_A (z_md c a g) sz)) 0 0 (va_A (z_md c a g) sz) := by
  refine z_ofM (cc := cX5_lay) (maxL := 1) (ret := (some .int)) (Qf := fun A => z_Qi D (z_md c a) r0 g0 A) (plainFor_of_name (by decide)) rfl (Nat.le_of_ble_eq_true rfl) ?_
  intro p e s m args below meth co A ls hx hb hr hml hts hown hlocks hnm hA hP hK hD hl hsz
  have hl : lv_has ls 1 [(0, .ref (a 0))] := hl
  have hown : s.vm.findClass RX5 = some m.cls := hown
  obtain ⟨H, hH⟩ : ∃ H, H = s.heap := ⟨_, rfl⟩
  have hS : va_S A s.heap H [] := by rw [hH]; exact va_S.rf
  rw [← hH] at hP ⊢
  clear hH
  unfold fX5_lay at hf
  generalize ([] : List Loc) = locs at hS ⊢
  refine lv_aload_n hx hb dX5_lay_0 rfl (lv_at hl 0 rfl) ?_
  refine lv_iconst (v := (0 : Int32)) hx hb dX5_lay_1 (by decide) ?_
  refine va_put (D := D) (ci := 5) (v := .int (0 : Int32)) (ty := .int) (C := RX5) (T := TX5) (N := 13) hx hb hts iX5_lay_X5 tyX5 tyX5_ok nmX5 hown hK.1 hP hD hS 0 rfl rfl 0 (by decide) (hts _ qX5_lay_37) (fun _ h9 => h9) rfl (by decide +kernel) rfl rfl (Nat.le_of_ble_eq_true rfl) dX5_lay_2 (fun H locs hP hD hS => ?_)
  obtain ⟨g1, e1, hf⟩ := z_ltE hf
  have hP : va_P D vwCl (z_md c a g1) H := by rw [e1]; exact hP
  have hD : va_D A (z_md c a g1) := by rw [e1]; exact hD
  clear e1
  refine lv_aload_n hx hb dX5_lay_5 rfl (lv_at hl 0 rfl) ?_
  obtain ⟨g2, h2, hf⟩ := z_bE hf
  refine z_cVv (As := []) (rest := []) (wf := (z_md c a)) (g := g1) (u0 := g2) ⟨hx, hb, hml, hown, hts⟩ (kX5_remember l D c N a H.size g1  g2 h2) (cwV 0 hts gX5_lay_X5_remember rfl rfl rfl (by decide +kernel) ⟨Nat.le_of_ble_eq_true rfl, Nat.le_of_ble_eq_true rfl⟩) hP hK hD hS hA (ci := 5) (q0 := 0) rfl rfl rfl rfl hl.1 (Nat.le_of_ble_eq_true rfl) rfl dX5_lay_6 ⟨Nat.zero_le _, Nat.zero_le _⟩ (fun H locs hP hD hS => ?_)
  refine lv_aload_n hx hb dX5_lay_9 rfl (lv_at hl 0 rfl) ?_
  obtain ⟨r3, g3, h3, hf⟩ := z_b2E hf
  refine z_cVi (As := []) (rest := []) (wf := (z_md c a)) (g := g2) (u0 := g3) ⟨hx, hb, hml, hown, hts⟩ (kX5_laid l D c N a H.size g2  r3 g3 h3) (cwV 0 hts gX5_lay_X5_laid rfl rfl rfl (by decide +kernel) ⟨Nat.le_of_ble_eq_true rfl, Nat.le_of_ble_eq_true rfl⟩) hP hK hD hS hA (ci := 5) (q0 := 0) rfl rfl rfl rfl hl.1 (Nat.le_of_ble_eq_true rfl) rfl dX5_lay_10 ⟨Nat.zero_le _, Nat.zero_le _⟩ (fun H locs hP hD hS => ?_)
  exact z_ri (wf := (z_md c a)) hx hb hr hlocks hP hD hS hf dX5_lay_13
abbrev rmX5_noteJump : Room := { frames := 0, cells := 0, slots := 0, locals := 0 }
theorem qX5_noteJump_7 : Cond.fieldLink RX5 7 "ProgramDrumModel" "state" "[I" ∈ wsX5_noteJump := by decide +kernel
theorem iX5_noteJump_X5 : ∀ w ∈ wsX50, w ∈ wsX5_noteJump := by decide +kernel
set_option maxRecDepth 100000 in
set_option maxHeartbeats 4000000 in
theorem kX5_noteJump (l : Launch) (D : va_G) (c : Nat → ClassId) (N : Nat) (a : Nat → Nat) (sz : Nat) (g : z_R) (p1 : Int32) (p2 : Int32) (g0 : z_R) (hf : fX5_noteJump N p1 p2 g = some g0) : Met l yX5_noteJump wsX5_noteJump rmX5_noteJump (z_Pc D c sz (z_md c a g) [.ref (a 0), .int p1, .int p2]) (z_Qv D (z_md c a) g0 (va_A (z_md c a g) sz)) 0 0 (va_A (z_md c a g) sz) := by
  refine z_ofM (cc := cX5_noteJump) (maxL := 4) (ret := none) (Qf := fun A => z_Qv D (z_md c a) g0 A) (plainFor_of_name (by decide)) rfl (Nat.le_of_ble_eq_true rfl) ?_
  intro p e s m args below meth co A ls hx hb hr hml hts hown hlocks hnm hA hP hK hD hl hsz
  have hl : lv_has ls 4 [(0, .ref (a 0)), (1, .int p1), (2, .int p2)] := hl
  have hown : s.vm.findClass RX5 = some m.cls := hown
  obtain ⟨H, hH⟩ : ∃ H, H = s.heap := ⟨_, rfl⟩
  have hS : va_S A s.heap H [] := by rw [hH]; exact va_S.rf
  rw [← hH] at hP ⊢
  clear hH
  have L2 : ∀ (x1 : Int32) (x2 : Int32) (g : z_R) (k : Int32 → Option (z_R)) (hk : ∀ (x3 : Int32), k x3 = some g0 → ∀ (H : Heap) (locs : List Loc) (ls : Array Slot), va_P D vwCl (z_md c a g) H → va_D A (z_md c a g) → va_S A s.heap H locs → lv_has ls 4 [(0, .ref (a 0)), (1, .int x1), (2, .int x2), (3, .int x3)] → W p l e rmX5_noteJump s m args below meth co H locs 0 0 (MQ below (z_Qv D (z_md c a) g0 A) args s 0 0 A) (F0 m 52 ls [])) (fu : Nat) (x3 : Int32), lX5_noteJump_2 N x1 x2 g k fu x3 = some g0 → ∀ (H : Heap) (locs : List Loc) (ls : Array Slot), va_P D vwCl (z_md c a g) H → va_D A (z_md c a g) → va_S A s.heap H locs → lv_has ls 4 [(0, .ref (a 0)), (1, .int x1), (2, .int x2), (3, .int x3)] → W p l e rmX5_noteJump s m args below meth co H locs 0 0 (MQ below (z_Qv D (z_md c a) g0 A) args s 0 0 A) (F0 m 2 ls []) := by
    intro x1 x2 g k hk fu
    induction fu with
    | zero =>
      intro x3 hf
      have hf : (none : Option (z_R)) = some _ := hf
      cases hf
    | succ fu ih =>
      intro x3 hf H locs ls hP hD hS hl
      rw [lX5_noteJump_2.eq_2] at hf
      refine lv_iload_n hx hb dX5_noteJump_2 rfl (lv_at hl 3 rfl) ?_
      refine lv_aload_n hx hb dX5_noteJump_3 rfl (lv_at hl 0 rfl) ?_
      refine va_get (D := D) (ci := 5) (v := .ref (a 1)) (C := RX5) (T := TX5) (N := 13) hx hb hts iX5_noteJump_X5 hown hK.1 hP 0 rfl rfl 1 (by decide) (hts _ qX5_noteJump_7) (fun _ h9 => h9) rfl dX5_noteJump_4 ?_
      refine lv_iconst (v := (3 : Int32)) hx hb dX5_noteJump_7 (by decide) ?_
      refine va_iald hx hb hK.1 hP 1 0 rfl rfl (z_inE (by decide)) dX5_noteJump_8 ?_
      refine lv_icmp_ge (tgt := 52) hx hb dX5_noteJump_9 (by decide) (fun c1 => ?_) (fun c1 => ?_)
      · have hf := z_ifT hf c1
        exact hk _ hf H locs ls hP hD hS (lv_sub hl [0, 1, 2, 3] rfl)
      · have hf := z_ifF hf c1
        refine lv_aload_n hx hb dX5_noteJump_12 rfl (lv_at hl 0 rfl) ?_
        refine va_get (D := D) (ci := 5) (v := .ref (a 1)) (C := RX5) (T := TX5) (N := 13) hx hb hts iX5_noteJump_X5 hown hK.1 hP 0 rfl rfl 1 (by decide) (hts _ qX5_noteJump_7) (fun _ h9 => h9) rfl dX5_noteJump_13 ?_
        refine lv_sipush (v := (157 : Int32)) hx hb dX5_noteJump_16 (by decide) ?_
        refine lv_iconst (v := (3 : Int32)) hx hb dX5_noteJump_19 (by decide) ?_
        refine lv_iload_n hx hb dX5_noteJump_20 rfl (lv_at hl 3 rfl) ?_
        refine lv_imul hx hb dX5_noteJump_21 ?_
        refine lv_iadd hx hb dX5_noteJump_22 ?_
        obtain ⟨b2, hf⟩ := z_ckE hf
        refine va_iald hx hb hK.1 hP 1 0 rfl rfl (z_inE b2) dX5_noteJump_23 ?_
        refine lv_iload_n hx hb dX5_noteJump_24 rfl (lv_at hl 1 rfl) ?_
        refine lv_icmp_ne (tgt := 46) hx hb dX5_noteJump_25 (by decide) (fun c3 => ?_) (fun c3 => ?_)
        · have hf := z_ifF hf c3
          refine lv_iinc (v := (x3 + (1 : Int32))) (lv' := [(3, .int (x3 + (1 : Int32))), (0, .ref (a 0)), (1, .int x1), (2, .int x2)]) hx hb dX5_noteJump_46 hl (k := 3) rfl rfl (by decide) rfl (fun ls hl => ?_)
          refine lv_goto (tgt := 2) hx hb dX5_noteJump_49 (by decide) ?_
          exact ih _ hf H locs ls hP hD hS (lv_sub hl [1, 2, 3, 0] rfl)
        · have hf := z_ifT hf c3
          refine lv_aload_n hx hb dX5_noteJump_28 rfl (lv_at hl 0 rfl) ?_
          refine va_get (D := D) (ci := 5) (v := .ref (a 1)) (C := RX5) (T := TX5) (N := 13) hx hb hts iX5_noteJump_X5 hown hK.1 hP 0 rfl rfl 1 (by decide) (hts _ qX5_noteJump_7) (fun _ h9 => h9) rfl dX5_noteJump_29 ?_
          refine lv_sipush (v := (157 : Int32)) hx hb dX5_noteJump_32 (by decide) ?_
          refine lv_iconst (v := (3 : Int32)) hx hb dX5_noteJump_35 (by decide) ?_
          refine lv_iload_n hx hb dX5_noteJump_36 rfl (lv_at hl 3 rfl) ?_
          refine lv_imul hx hb dX5_noteJump_37 ?_
          refine lv_iadd hx hb dX5_noteJump_38 ?_
          refine lv_iconst (v := (1 : Int32)) hx hb dX5_noteJump_39 (by decide) ?_
          refine lv_iadd hx hb dX5_noteJump_40 ?_
          obtain ⟨b4, hf⟩ := z_ckE hf
          refine va_iald hx hb hK.1 hP 1 0 rfl rfl (z_inE b4) dX5_noteJump_41 ?_
          refine lv_iload_n hx hb dX5_noteJump_42 rfl (lv_at hl 2 rfl) ?_
          refine lv_icmp_eq (tgt := 52) hx hb dX5_noteJump_43 (by decide) (fun c5 => ?_) (fun c5 => ?_)
          · have hf := z_ifT hf c5
            exact hk _ hf H locs ls hP hD hS (lv_sub hl [0, 1, 2, 3] rfl)
          · have hf := z_ifF hf c5
            refine lv_iinc (v := (x3 + (1 : Int32))) (lv' := [(3, .int (x3 + (1 : Int32))), (0, .ref (a 0)), (1, .int x1), (2, .int x2)]) hx hb dX5_noteJump_46 hl (k := 3) rfl rfl (by decide) rfl (fun ls hl => ?_)
            refine lv_goto (tgt := 2) hx hb dX5_noteJump_49 (by decide) ?_
            exact ih _ hf H locs ls hP hD hS (lv_sub hl [1, 2, 3, 0] rfl)
  unfold fX5_noteJump at hf
  generalize ([] : List Loc) = locs at hS ⊢
  refine lv_iconst (v := (0 : Int32)) hx hb dX5_noteJump_0 (by decide) ?_
  refine lv_istore_n (lv' := [(3, .int (0 : Int32)), (0, .ref (a 0)), (1, .int p1), (2, .int p2)]) hx hb dX5_noteJump_1 rfl hl (by decide) rfl (fun ls hl => ?_)
  refine L2 _ _ _ _ (fun x3_2 hf H locs ls hP hD hS hl => ?_) N _ hf H locs ls hP hD hS (lv_sub hl [1, 2, 3, 0] rfl)
  refine lv_iload_n hx hb dX5_noteJump_52 rfl (lv_at hl 3 rfl) ?_
  refine lv_aload_n hx hb dX5_noteJump_53 rfl (lv_at hl 0 rfl) ?_
  refine va_get (D := D) (ci := 5) (v := .ref (a 1)) (C := RX5) (T := TX5) (N := 13) hx hb hts iX5_noteJump_X5 hown hK.1 hP 0 rfl rfl 1 (by decide) (hts _ qX5_noteJump_7) (fun _ h9 => h9) rfl dX5_noteJump_54 ?_
  refine lv_iconst (v := (3 : Int32)) hx hb dX5_noteJump_57 (by decide) ?_
  refine va_iald hx hb hK.1 hP 1 0 rfl rfl (z_inE (by decide)) dX5_noteJump_58 ?_
  refine lv_icmp_ne (tgt := 115) hx hb dX5_noteJump_59 (by decide) (fun c6 => ?_) (fun c6 => ?_)
  · have hf := z_ifF hf c6
    refine lv_aload_n hx hb dX5_noteJump_115 rfl (lv_at hl 0 rfl) ?_
    refine va_get (D := D) (ci := 5) (v := .ref (a 1)) (C := RX5) (T := TX5) (N := 13) hx hb hts iX5_noteJump_X5 hown hK.1 hP 0 rfl rfl 1 (by decide) (hts _ qX5_noteJump_7) (fun _ h9 => h9) rfl dX5_noteJump_116 ?_
    refine lv_sipush (v := (157 : Int32)) hx hb dX5_noteJump_119 (by decide) ?_
    refine lv_iconst (v := (3 : Int32)) hx hb dX5_noteJump_122 (by decide) ?_
    refine lv_iload_n hx hb dX5_noteJump_123 rfl (lv_at hl 3 rfl) ?_
    refine lv_imul hx hb dX5_noteJump_124 ?_
    refine lv_iadd hx hb dX5_noteJump_125 ?_
    refine lv_iconst (v := (2 : Int32)) hx hb dX5_noteJump_126 (by decide) ?_
    refine lv_iadd hx hb dX5_noteJump_127 ?_
    refine lv_dup2_11 hx hb dX5_noteJump_128 rfl rfl ?_
    obtain ⟨b7, hf⟩ := z_ckE hf
    refine va_iald hx hb hK.1 hP 1 0 rfl rfl (z_inE b7) dX5_noteJump_129 ?_
    refine lv_iconst (v := (1 : Int32)) hx hb dX5_noteJump_130 (by decide) ?_
    refine lv_iadd hx hb dX5_noteJump_131 ?_
    obtain ⟨b8, hf⟩ := z_ckE hf
    refine va_iast hx hb hK.1 hP hD hS 1 0 rfl rfl (z_inE b8) dX5_noteJump_132 (fun H locs hP hD hS => ?_)
    obtain ⟨g9, e9, hf⟩ := z_ltE hf
    have hP : va_P D vwCl (z_md c a g9) H := by rw [e9]; exact hP
    have hD : va_D A (z_md c a g9) := by rw [e9]; exact hD
    clear e9
    exact z_rv (wf := (z_md c a)) hx hb hr hlocks hP hD hS hf dX5_noteJump_133
  · have hf := z_ifT hf c6
    refine lv_aload_n hx hb dX5_noteJump_62 rfl (lv_at hl 0 rfl) ?_
    refine va_get (D := D) (ci := 5) (v := .ref (a 1)) (C := RX5) (T := TX5) (N := 13) hx hb hts iX5_noteJump_X5 hown hK.1 hP 0 rfl rfl 1 (by decide) (hts _ qX5_noteJump_7) (fun _ h9 => h9) rfl dX5_noteJump_63 ?_
    refine lv_sipush (v := (157 : Int32)) hx hb dX5_noteJump_66 (by decide) ?_
    refine lv_iconst (v := (3 : Int32)) hx hb dX5_noteJump_69 (by decide) ?_
    refine lv_iload_n hx hb dX5_noteJump_70 rfl (lv_at hl 3 rfl) ?_
    refine lv_imul hx hb dX5_noteJump_71 ?_
    refine lv_iadd hx hb dX5_noteJump_72 ?_
    refine lv_iload_n hx hb dX5_noteJump_73 rfl (lv_at hl 1 rfl) ?_
    obtain ⟨b10, hf⟩ := z_ckE hf
    refine va_iast hx hb hK.1 hP hD hS 1 0 rfl rfl (z_inE b10) dX5_noteJump_74 (fun H locs hP hD hS => ?_)
    obtain ⟨g11, e11, hf⟩ := z_ltE hf
    have hP : va_P D vwCl (z_md c a g11) H := by rw [e11]; exact hP
    have hD : va_D A (z_md c a g11) := by rw [e11]; exact hD
    clear e11
    refine lv_aload_n hx hb dX5_noteJump_75 rfl (lv_at hl 0 rfl) ?_
    refine va_get (D := D) (ci := 5) (v := .ref (a 1)) (C := RX5) (T := TX5) (N := 13) hx hb hts iX5_noteJump_X5 hown hK.1 hP 0 rfl rfl 1 (by decide) (hts _ qX5_noteJump_7) (fun _ h9 => h9) rfl dX5_noteJump_76 ?_
    refine lv_sipush (v := (157 : Int32)) hx hb dX5_noteJump_79 (by decide) ?_
    refine lv_iconst (v := (3 : Int32)) hx hb dX5_noteJump_82 (by decide) ?_
    refine lv_iload_n hx hb dX5_noteJump_83 rfl (lv_at hl 3 rfl) ?_
    refine lv_imul hx hb dX5_noteJump_84 ?_
    refine lv_iadd hx hb dX5_noteJump_85 ?_
    refine lv_iconst (v := (1 : Int32)) hx hb dX5_noteJump_86 (by decide) ?_
    refine lv_iadd hx hb dX5_noteJump_87 ?_
    refine lv_iload_n hx hb dX5_noteJump_88 rfl (lv_at hl 2 rfl) ?_
    obtain ⟨b12, hf⟩ := z_ckE hf
    refine va_iast hx hb hK.1 hP hD hS 1 0 rfl rfl (z_inE b12) dX5_noteJump_89 (fun H locs hP hD hS => ?_)
    obtain ⟨g13, e13, hf⟩ := z_ltE hf
    have hP : va_P D vwCl (z_md c a g13) H := by rw [e13]; exact hP
    have hD : va_D A (z_md c a g13) := by rw [e13]; exact hD
    clear e13
    refine lv_aload_n hx hb dX5_noteJump_90 rfl (lv_at hl 0 rfl) ?_
    refine va_get (D := D) (ci := 5) (v := .ref (a 1)) (C := RX5) (T := TX5) (N := 13) hx hb hts iX5_noteJump_X5 hown hK.1 hP 0 rfl rfl 1 (by decide) (hts _ qX5_noteJump_7) (fun _ h9 => h9) rfl dX5_noteJump_91 ?_
    refine lv_sipush (v := (157 : Int32)) hx hb dX5_noteJump_94 (by decide) ?_
    refine lv_iconst (v := (3 : Int32)) hx hb dX5_noteJump_97 (by decide) ?_
    refine lv_iload_n hx hb dX5_noteJump_98 rfl (lv_at hl 3 rfl) ?_
    refine lv_imul hx hb dX5_noteJump_99 ?_
    refine lv_iadd hx hb dX5_noteJump_100 ?_
    refine lv_iconst (v := (2 : Int32)) hx hb dX5_noteJump_101 (by decide) ?_
    refine lv_iadd hx hb dX5_noteJump_102 ?_
    refine lv_iconst (v := (0 : Int32)) hx hb dX5_noteJump_103 (by decide) ?_
    obtain ⟨b14, hf⟩ := z_ckE hf
    refine va_iast hx hb hK.1 hP hD hS 1 0 rfl rfl (z_inE b14) dX5_noteJump_104 (fun H locs hP hD hS => ?_)
    obtain ⟨g15, e15, hf⟩ := z_ltE hf
    have hP : va_P D vwCl (z_md c a g15) H := by rw [e15]; exact hP
    have hD : va_D A (z_md c a g15) := by rw [e15]; exact hD
    clear e15
    refine lv_aload_n hx hb dX5_noteJump_105 rfl (lv_at hl 0 rfl) ?_
    refine va_get (D := D) (ci := 5) (v := .ref (a 1)) (C := RX5) (T := TX5) (N := 13) hx hb hts iX5_noteJump_X5 hown hK.1 hP 0 rfl rfl 1 (by decide) (hts _ qX5_noteJump_7) (fun _ h9 => h9) rfl dX5_noteJump_106 ?_
    refine lv_iconst (v := (3 : Int32)) hx hb dX5_noteJump_109 (by decide) ?_
    refine lv_dup2_11 hx hb dX5_noteJump_110 rfl rfl ?_
    refine va_iald hx hb hK.1 hP 1 0 rfl rfl (z_inE (by decide)) dX5_noteJump_111 ?_
    refine lv_iconst (v := (1 : Int32)) hx hb dX5_noteJump_112 (by decide) ?_
    refine lv_iadd hx hb dX5_noteJump_113 ?_
    refine va_iast hx hb hK.1 hP hD hS 1 0 rfl rfl (z_inE (by decide)) dX5_noteJump_114 (fun H locs hP hD hS => ?_)
    obtain ⟨g16, e16, hf⟩ := z_ltE hf
    have hP : va_P D vwCl (z_md c a g16) H := by rw [e16]; exact hP
    have hD : va_D A (z_md c a g16) := by rw [e16]; exact hD
    clear e16
    refine lv_aload_n hx hb dX5_noteJump_115 rfl (lv_at hl 0 rfl) ?_
    refine va_get (D := D) (ci := 5) (v := .ref (a 1)) (C := RX5) (T := TX5) (N := 13) hx hb hts iX5_noteJump_X5 hown hK.1 hP 0 rfl rfl 1 (by decide) (hts _ qX5_noteJump_7) (fun _ h9 => h9) rfl dX5_noteJump_116 ?_
    refine lv_sipush (v := (157 : Int32)) hx hb dX5_noteJump_119 (by decide) ?_
    refine lv_iconst (v := (3 : Int32)) hx hb dX5_noteJump_122 (by decide) ?_
    refine lv_iload_n hx hb dX5_noteJump_123 rfl (lv_at hl 3 rfl) ?_
    refine lv_imul hx hb dX5_noteJump_124 ?_
    refine lv_iadd hx hb dX5_noteJump_125 ?_
    refine lv_iconst (v := (2 : Int32)) hx hb dX5_noteJump_126 (by decide) ?_
    refine lv_iadd hx hb dX5_noteJump_127 ?_
    refine lv_dup2_11 hx hb dX5_noteJump_128 rfl rfl ?_
    obtain ⟨b17, hf⟩ := z_ckE hf
    refine va_iald hx hb hK.1 hP 1 0 rfl rfl (z_inE b17) dX5_noteJump_129 ?_
    refine lv_iconst (v := (1 : Int32)) hx hb dX5_noteJump_130 (by decide) ?_
    refine lv_iadd hx hb dX5_noteJump_131 ?_
    obtain ⟨b18, hf⟩ := z_ckE hf
    refine va_iast hx hb hK.1 hP hD hS 1 0 rfl rfl (z_inE b18) dX5_noteJump_132 (fun H locs hP hD hS => ?_)
    obtain ⟨g19, e19, hf⟩ := z_ltE hf
    have hP : va_P D vwCl (z_md c a g19) H := by rw [e19]; exact hP
    have hD : va_D A (z_md c a g19) := by rw [e19]; exact hD
    clear e19
    exact z_rv (wf := (z_md c a)) hx hb hr hlocks hP hD hS hf dX5_noteJump_133
abbrev rmX5_waitOf : Room := { frames := 1, cells := 0, slots := 0, locals := 22 }
theorem qX5_waitOf_7 : Cond.fieldLink RX5 7 "ProgramDrumModel" "state" "[I" ∈ wsX5_waitOf := by decide +kernel
theorem iX5_waitOf_X5 : ∀ w ∈ wsX50, w ∈ wsX5_waitOf := by decide +kernel
set_option maxRecDepth 100000 in
set_option maxHeartbeats 4000000 in
theorem kX5_waitOf (l : Launch) (D : va_G) (c : Nat → ClassId) (N : Nat) (a : Nat → Nat) (sz : Nat) (g : z_R) (p1 : Int32) (r0 : Int32) (hf : fX5_waitOf N p1 g = some r0) : Met l yX5_waitOf wsX5_waitOf rmX5_waitOf (z_Pc D c sz (z_md c a g) [.ref (a 0), .int p1]) (z_Qi D (z_md c a) r0 g (va_A (z_md c a g) sz)) 0 0 (va_A (z_md c a g) sz) := by
  refine z_ofM (cc := cX5_waitOf) (maxL := 3) (ret := (some .int)) (Qf := fun A => z_Qi D (z_md c a) r0 g A) (plainFor_of_name (by decide)) rfl (Nat.le_of_ble_eq_true rfl) ?_
  intro p e s m args below meth co A ls hx hb hr hml hts hown hlocks hnm hA hP hK hD hl hsz
  have hl : lv_has ls 3 [(0, .ref (a 0)), (1, .int p1)] := hl
  have hown : s.vm.findClass RX5 = some m.cls := hown
  obtain ⟨H, hH⟩ : ∃ H, H = s.heap := ⟨_, rfl⟩
  have hS : va_S A s.heap H [] := by rw [hH]; exact va_S.rf
  rw [← hH] at hP ⊢
  clear hH
  unfold fX5_waitOf at hf
  generalize ([] : List Loc) = locs at hS ⊢
  refine lv_aload_n hx hb dX5_waitOf_0 rfl (lv_at hl 0 rfl) ?_
  refine va_get (D := D) (ci := 5) (v := .ref (a 1)) (C := RX5) (T := TX5) (N := 13) hx hb hts iX5_waitOf_X5 hown hK.1 hP 0 rfl rfl 1 (by decide) (hts _ qX5_waitOf_7) (fun _ h9 => h9) rfl dX5_waitOf_1 ?_
  refine lv_iconst (v := (0 : Int32)) hx hb dX5_waitOf_4 (by decide) ?_
  refine va_iald hx hb hK.1 hP 1 0 rfl rfl (z_inE (by decide)) dX5_waitOf_5 ?_
  refine lv_istore_n (lv' := [(2, .int (g 1 ((0 : Int32)).toNatClampNeg)), (0, .ref (a 0)), (1, .int p1)]) hx hb dX5_waitOf_6 rfl hl (by decide) rfl (fun ls hl => ?_)
  refine lv_aload_n hx hb dX5_waitOf_7 rfl (lv_at hl 1 rfl) ?_
  refine lv_iload_n hx hb dX5_waitOf_8 rfl (lv_at hl 2 rfl) ?_
  refine lv_iconst (v := (5 : Int32)) hx hb dX5_waitOf_9 (by decide) ?_
  obtain ⟨r1, h1, hf⟩ := z_bE hf
  refine z_cVi (As := [.int p1, .int (5 : Int32)]) (rest := []) (wf := (z_md c a)) (g := g) (u0 := g) ⟨hx, hb, hml, hown, hts⟩ (kX5_part l D c N a H.size g p1 (5 : Int32) r1 h1) (cwV 2 hts gX5_waitOf_X5_part rfl rfl rfl (by decide +kernel) ⟨Nat.le_of_ble_eq_true rfl, Nat.le_of_ble_eq_true rfl⟩) hP hK hD hS hA (ci := 5) (q0 := 0) rfl rfl rfl rfl hl.1 (Nat.le_of_ble_eq_true rfl) rfl dX5_waitOf_10 ⟨Nat.zero_le _, Nat.zero_le _⟩ (fun H locs hP hD hS => ?_)
  refine lv_iload_n hx hb dX5_waitOf_13 rfl (lv_at hl 0 rfl) ?_
  refine lv_iadd hx hb dX5_waitOf_14 ?_
  refine lv_aload_n hx hb dX5_waitOf_15 rfl (lv_at hl 1 rfl) ?_
  obtain ⟨r2, h2, hf⟩ := z_bE hf
  refine z_cVi (As := []) (rest := [.int (r1 + (g 1 ((0 : Int32)).toNatClampNeg))]) (wf := (z_md c a)) (g := g) (u0 := g) ⟨hx, hb, hml, hown, hts⟩ (kX5_comingBy l D c N a H.size g  r2 h2) (cwV 0 hts gX5_waitOf_X5_comingBy rfl rfl rfl (by decide +kernel) ⟨Nat.le_of_ble_eq_true rfl, Nat.le_of_ble_eq_true rfl⟩) hP hK hD hS hA (ci := 5) (q0 := 0) rfl rfl rfl rfl hl.1 (Nat.le_of_ble_eq_true rfl) rfl dX5_waitOf_16 ⟨Nat.zero_le _, Nat.zero_le _⟩ (fun H locs hP hD hS => ?_)
  refine lv_isub hx hb dX5_waitOf_19 ?_
  refine lv_iload_n hx hb dX5_waitOf_20 rfl (lv_at hl 0 rfl) ?_
  obtain ⟨b3, hf⟩ := z_ckE hf
  refine lv_irem hx hb dX5_waitOf_21 (z_nzE b3) ?_
  exact z_rp (wf := (z_md c a)) hx hb hr hlocks hP hD hS hf dX5_waitOf_22
abbrev rmX5_reads : Room := { frames := 2, cells := 0, slots := 0, locals := 45 }
theorem qX5_reads_7 : Cond.fieldLink RX5 7 "ProgramDrumModel" "state" "[I" ∈ wsX5_reads := by decide +kernel
theorem iX5_reads_X5 : ∀ w ∈ wsX50, w ∈ wsX5_reads := by decide +kernel
set_option maxRecDepth 100000 in
set_option maxHeartbeats 4000000 in
theorem kX5_reads (l : Launch) (D : va_G) (c : Nat → ClassId) (N : Nat) (a : Nat → Nat) (sz : Nat) (g : z_R) (p1 : Int32) (p2 : Int32) (g0 : z_R) (hf : fX5_reads N p1 p2 g = some g0) : Met l yX5_reads wsX5_reads rmX5_reads (z_Pc D c sz (z_md c a g) [.ref (a 0), .int p1, .int p2]) (z_Qv D (z_md c a) g0 (va_A (z_md c a g) sz)) 0 0 (va_A (z_md c a g) sz) := by
  refine z_ofM (cc := cX5_reads) (maxL := 4) (ret := none) (Qf := fun A => z_Qv D (z_md c a) g0 A) (plainFor_of_name (by decide)) rfl (Nat.le_of_ble_eq_true rfl) ?_
  intro p e s m args below meth co A ls hx hb hr hml hts hown hlocks hnm hA hP hK hD hl hsz
  have hl : lv_has ls 4 [(0, .ref (a 0)), (1, .int p1), (2, .int p2)] := hl
  have hown : s.vm.findClass RX5 = some m.cls := hown
  obtain ⟨H, hH⟩ : ∃ H, H = s.heap := ⟨_, rfl⟩
  have hS : va_S A s.heap H [] := by rw [hH]; exact va_S.rf
  rw [← hH] at hP ⊢
  clear hH
  unfold fX5_reads at hf
  generalize ([] : List Loc) = locs at hS ⊢
  refine lv_aload_n hx hb dX5_reads_0 rfl (lv_at hl 0 rfl) ?_
  refine lv_iload_n hx hb dX5_reads_1 rfl (lv_at hl 1 rfl) ?_
  obtain ⟨r1, h1, hf⟩ := z_bE hf
  refine z_cVi (As := [.int p1]) (rest := []) (wf := (z_md c a)) (g := g) (u0 := g) ⟨hx, hb, hml, hown, hts⟩ (kX5_waitOf l D c N a H.size g p1 r1 h1) (cwV 1 hts gX5_reads_X5_waitOf rfl rfl rfl (by decide +kernel) ⟨Nat.le_of_ble_eq_true rfl, Nat.le_of_ble_eq_true rfl⟩) hP hK hD hS hA (ci := 5) (q0 := 0) rfl rfl rfl rfl hl.1 (Nat.le_of_ble_eq_true rfl) rfl dX5_reads_2 ⟨Nat.zero_le _, Nat.zero_le _⟩ (fun H locs hP hD hS => ?_)
  refine lv_istore_n (lv' := [(3, .int r1), (0, .ref (a 0)), (1, .int p1), (2, .int p2)]) hx hb dX5_reads_5 rfl hl (by decide) rfl (fun ls hl => ?_)
  refine lv_aload_n hx hb dX5_reads_6 rfl (lv_at hl 1 rfl) ?_
  refine va_get (D := D) (ci := 5) (v := .ref (a 1)) (C := RX5) (T := TX5) (N := 13) hx hb hts iX5_reads_X5 hown hK.1 hP 0 rfl rfl 1 (by decide) (hts _ qX5_reads_7) (fun _ h9 => h9) rfl dX5_reads_7 ?_
  refine lv_iconst (v := (1 : Int32)) hx hb dX5_reads_10 (by decide) ?_
  refine lv_dup2_11 hx hb dX5_reads_11 rfl rfl ?_
  refine va_iald hx hb hK.1 hP 1 0 rfl rfl (z_inE (by decide)) dX5_reads_12 ?_
  refine lv_iload_n hx hb dX5_reads_13 rfl (lv_at hl 0 rfl) ?_
  refine lv_iadd hx hb dX5_reads_14 ?_
  refine va_iast hx hb hK.1 hP hD hS 1 0 rfl rfl (z_inE (by decide)) dX5_reads_15 (fun H locs hP hD hS => ?_)
  obtain ⟨g2, e2, hf⟩ := z_ltE hf
  have hP : va_P D vwCl (z_md c a g2) H := by rw [e2]; exact hP
  have hD : va_D A (z_md c a g2) := by rw [e2]; exact hD
  clear e2
  refine lv_aload_n hx hb dX5_reads_16 rfl (lv_at hl 1 rfl) ?_
  refine lv_iload_n hx hb dX5_reads_17 rfl (lv_at hl 2 rfl) ?_
  refine lv_bipush (v := (8 : Int32)) hx hb dX5_reads_18 (by decide) ?_
  refine lv_iload_n hx hb dX5_reads_20 rfl (lv_at hl 0 rfl) ?_
  obtain ⟨g3, h3, hf⟩ := z_bE hf
  refine z_cVv (As := [.int p1, .int (8 : Int32), .int r1]) (rest := []) (wf := (z_md c a)) (g := g2) (u0 := g3) ⟨hx, hb, hml, hown, hts⟩ (kX5_setPart l D c N a H.size g2 p1 (8 : Int32) r1 g3 h3) (cwV 3 hts gX5_reads_X5_setPart rfl rfl rfl (by decide +kernel) ⟨Nat.le_of_ble_eq_true rfl, Nat.le_of_ble_eq_true rfl⟩) hP hK hD hS hA (ci := 5) (q0 := 0) rfl rfl rfl rfl hl.1 (Nat.le_of_ble_eq_true rfl) rfl dX5_reads_21 ⟨Nat.zero_le _, Nat.zero_le _⟩ (fun H locs hP hD hS => ?_)
  refine lv_iload_n hx hb dX5_reads_24 rfl (lv_at hl 3 rfl) ?_
  refine lv_if_eq (tgt := 38) hx hb dX5_reads_25 (by decide) (fun c4 => ?_) (fun c4 => ?_)
  · have hf := z_ifT hf c4
    refine lv_iload_n hx hb dX5_reads_38 rfl (lv_at hl 3 rfl) ?_
    refine lv_if_eq (tgt := 50) hx hb dX5_reads_39 (by decide) (fun c5 => ?_) (fun c5 => ?_)
    · have hf := z_ifT hf c5
      refine lv_aload_n hx hb dX5_reads_50 rfl (lv_at hl 1 rfl) ?_
      refine va_get (D := D) (ci := 5) (v := .ref (a 1)) (C := RX5) (T := TX5) (N := 13) hx hb hts iX5_reads_X5 hown hK.1 hP 0 rfl rfl 1 (by decide) (hts _ qX5_reads_7) (fun _ h9 => h9) rfl dX5_reads_51 ?_
      refine lv_iconst (v := (1 : Int32)) hx hb dX5_reads_54 (by decide) ?_
      refine lv_dup2_11 hx hb dX5_reads_55 rfl rfl ?_
      refine va_iald hx hb hK.1 hP 1 0 rfl rfl (z_inE (by decide)) dX5_reads_56 ?_
      refine lv_iconst (v := (1 : Int32)) hx hb dX5_reads_57 (by decide) ?_
      refine lv_aload_n hx hb dX5_reads_58 rfl (lv_at hl 1 rfl) ?_
      refine lv_iload_n hx hb dX5_reads_59 rfl (lv_at hl 2 rfl) ?_
      refine lv_iconst (v := (1 : Int32)) hx hb dX5_reads_60 (by decide) ?_
      obtain ⟨r6, h6, hf⟩ := z_bE hf
      refine z_cVi (As := [.int p1, .int (1 : Int32)]) (rest := [.int (1 : Int32), .int (g3 1 ((1 : Int32)).toNatClampNeg), .int (1 : Int32), .ref (a 1)]) (wf := (z_md c a)) (g := g3) (u0 := g3) ⟨hx, hb, hml, hown, hts⟩ (kX5_part l D c N a H.size g3 p1 (1 : Int32) r6 h6) (cwV 2 hts gX5_reads_X5_part rfl rfl rfl (by decide +kernel) ⟨Nat.le_of_ble_eq_true rfl, Nat.le_of_ble_eq_true rfl⟩) hP hK hD hS hA (ci := 5) (q0 := 0) rfl rfl rfl rfl hl.1 (Nat.le_of_ble_eq_true rfl) rfl dX5_reads_61 ⟨Nat.zero_le _, Nat.zero_le _⟩ (fun H locs hP hD hS => ?_)
      refine lv_iadd hx hb dX5_reads_64 ?_
      refine lv_iadd hx hb dX5_reads_65 ?_
      refine va_iast hx hb hK.1 hP hD hS 1 0 rfl rfl (z_inE (by decide)) dX5_reads_66 (fun H locs hP hD hS => ?_)
      obtain ⟨g7, e7, hf⟩ := z_ltE hf
      have hP : va_P D vwCl (z_md c a g7) H := by rw [e7]; exact hP
      have hD : va_D A (z_md c a g7) := by rw [e7]; exact hD
      clear e7
      exact z_rv (wf := (z_md c a)) hx hb hr hlocks hP hD hS hf dX5_reads_67
    · have hf := z_ifF hf c5
      refine lv_aload_n hx hb dX5_reads_42 rfl (lv_at hl 1 rfl) ?_
      refine lv_iload_n hx hb dX5_reads_43 rfl (lv_at hl 2 rfl) ?_
      refine lv_bipush (v := (7 : Int32)) hx hb dX5_reads_44 (by decide) ?_
      refine lv_iconst (v := (0 : Int32)) hx hb dX5_reads_46 (by decide) ?_
      obtain ⟨g8, h8, hf⟩ := z_bE hf
      refine z_cVv (As := [.int p1, .int (7 : Int32), .int (0 : Int32)]) (rest := []) (wf := (z_md c a)) (g := g3) (u0 := g8) ⟨hx, hb, hml, hown, hts⟩ (kX5_setPart l D c N a H.size g3 p1 (7 : Int32) (0 : Int32) g8 h8) (cwV 3 hts gX5_reads_X5_setPart rfl rfl rfl (by decide +kernel) ⟨Nat.le_of_ble_eq_true rfl, Nat.le_of_ble_eq_true rfl⟩) hP hK hD hS hA (ci := 5) (q0 := 0) rfl rfl rfl rfl hl.1 (Nat.le_of_ble_eq_true rfl) rfl dX5_reads_47 ⟨Nat.zero_le _, Nat.zero_le _⟩ (fun H locs hP hD hS => ?_)
      refine lv_aload_n hx hb dX5_reads_50 rfl (lv_at hl 1 rfl) ?_
      refine va_get (D := D) (ci := 5) (v := .ref (a 1)) (C := RX5) (T := TX5) (N := 13) hx hb hts iX5_reads_X5 hown hK.1 hP 0 rfl rfl 1 (by decide) (hts _ qX5_reads_7) (fun _ h9 => h9) rfl dX5_reads_51 ?_
      refine lv_iconst (v := (1 : Int32)) hx hb dX5_reads_54 (by decide) ?_
      refine lv_dup2_11 hx hb dX5_reads_55 rfl rfl ?_
      refine va_iald hx hb hK.1 hP 1 0 rfl rfl (z_inE (by decide)) dX5_reads_56 ?_
      refine lv_iconst (v := (1 : Int32)) hx hb dX5_reads_57 (by decide) ?_
      refine lv_aload_n hx hb dX5_reads_58 rfl (lv_at hl 1 rfl) ?_
      refine lv_iload_n hx hb dX5_reads_59 rfl (lv_at hl 2 rfl) ?_
      refine lv_iconst (v := (1 : Int32)) hx hb dX5_reads_60 (by decide) ?_
      obtain ⟨r9, h9, hf⟩ := z_bE hf
      refine z_cVi (As := [.int p1, .int (1 : Int32)]) (rest := [.int (1 : Int32), .int (g8 1 ((1 : Int32)).toNatClampNeg), .int (1 : Int32), .ref (a 1)]) (wf := (z_md c a)) (g := g8) (u0 := g8) ⟨hx, hb, hml, hown, hts⟩ (kX5_part l D c N a H.size g8 p1 (1 : Int32) r9 h9) (cwV 2 hts gX5_reads_X5_part rfl rfl rfl (by decide +kernel) ⟨Nat.le_of_ble_eq_true rfl, Nat.le_of_ble_eq_true rfl⟩) hP hK hD hS hA (ci := 5) (q0 := 0) rfl rfl rfl rfl hl.1 (Nat.le_of_ble_eq_true rfl) rfl dX5_reads_61 ⟨Nat.zero_le _, Nat.zero_le _⟩ (fun H locs hP hD hS => ?_)
      refine lv_iadd hx hb dX5_reads_64 ?_
      refine lv_iadd hx hb dX5_reads_65 ?_
      refine va_iast hx hb hK.1 hP hD hS 1 0 rfl rfl (z_inE (by decide)) dX5_reads_66 (fun H locs hP hD hS => ?_)
      obtain ⟨g10, e10, hf⟩ := z_ltE hf
      have hP : va_P D vwCl (z_md c a g10) H := by rw [e10]; exact hP
      have hD : va_D A (z_md c a g10) := by rw [e10]; exact hD
      clear e10
      exact z_rv (wf := (z_md c a)) hx hb hr hlocks hP hD hS hf dX5_reads_67
  · have hf := z_ifF hf c4
    refine lv_iload_n hx hb dX5_reads_28 rfl (lv_at hl 0 rfl) ?_
    refine lv_if_le (tgt := 38) hx hb dX5_reads_29 (by decide) (fun c11 => ?_) (fun c11 => ?_)
    · have hf := z_ifT hf c11
      refine lv_iload_n hx hb dX5_reads_38 rfl (lv_at hl 3 rfl) ?_
      refine lv_if_eq (tgt := 50) hx hb dX5_reads_39 (by decide) (fun c12 => ?_) (fun c12 => ?_)
      · have hf := z_ifT hf c12
        refine lv_aload_n hx hb dX5_reads_50 rfl (lv_at hl 1 rfl) ?_
        refine va_get (D := D) (ci := 5) (v := .ref (a 1)) (C := RX5) (T := TX5) (N := 13) hx hb hts iX5_reads_X5 hown hK.1 hP 0 rfl rfl 1 (by decide) (hts _ qX5_reads_7) (fun _ h9 => h9) rfl dX5_reads_51 ?_
        refine lv_iconst (v := (1 : Int32)) hx hb dX5_reads_54 (by decide) ?_
        refine lv_dup2_11 hx hb dX5_reads_55 rfl rfl ?_
        refine va_iald hx hb hK.1 hP 1 0 rfl rfl (z_inE (by decide)) dX5_reads_56 ?_
        refine lv_iconst (v := (1 : Int32)) hx hb dX5_reads_57 (by decide) ?_
        refine lv_aload_n hx hb dX5_reads_58 rfl (lv_at hl 1 rfl) ?_
        refine lv_iload_n hx hb dX5_reads_59 rfl (lv_at hl 2 rfl) ?_
        refine lv_iconst (v := (1 : Int32)) hx hb dX5_reads_60 (by decide) ?_
        obtain ⟨r13, h13, hf⟩ := z_bE hf
        refine z_cVi (As := [.int p1, .int (1 : Int32)]) (rest := [.int (1 : Int32), .int (g3 1 ((1 : Int32)).toNatClampNeg), .int (1 : Int32), .ref (a 1)]) (wf := (z_md c a)) (g := g3) (u0 := g3) ⟨hx, hb, hml, hown, hts⟩ (kX5_part l D c N a H.size g3 p1 (1 : Int32) r13 h13) (cwV 2 hts gX5_reads_X5_part rfl rfl rfl (by decide +kernel) ⟨Nat.le_of_ble_eq_true rfl, Nat.le_of_ble_eq_true rfl⟩) hP hK hD hS hA (ci := 5) (q0 := 0) rfl rfl rfl rfl hl.1 (Nat.le_of_ble_eq_true rfl) rfl dX5_reads_61 ⟨Nat.zero_le _, Nat.zero_le _⟩ (fun H locs hP hD hS => ?_)
        refine lv_iadd hx hb dX5_reads_64 ?_
        refine lv_iadd hx hb dX5_reads_65 ?_
        refine va_iast hx hb hK.1 hP hD hS 1 0 rfl rfl (z_inE (by decide)) dX5_reads_66 (fun H locs hP hD hS => ?_)
        obtain ⟨g14, e14, hf⟩ := z_ltE hf
        have hP : va_P D vwCl (z_md c a g14) H := by rw [e14]; exact hP
        have hD : va_D A (z_md c a g14) := by rw [e14]; exact hD
        clear e14
        exact z_rv (wf := (z_md c a)) hx hb hr hlocks hP hD hS hf dX5_reads_67
      · have hf := z_ifF hf c12
        refine lv_aload_n hx hb dX5_reads_42 rfl (lv_at hl 1 rfl) ?_
        refine lv_iload_n hx hb dX5_reads_43 rfl (lv_at hl 2 rfl) ?_
        refine lv_bipush (v := (7 : Int32)) hx hb dX5_reads_44 (by decide) ?_
        refine lv_iconst (v := (0 : Int32)) hx hb dX5_reads_46 (by decide) ?_
        obtain ⟨g15, h15, hf⟩ := z_bE hf
        refine z_cVv (As := [.int p1, .int (7 : Int32), .int (0 : Int32)]) (rest := []) (wf := (z_md c a)) (g := g3) (u0 := g15) ⟨hx, hb, hml, hown, hts⟩ (kX5_setPart l D c N a H.size g3 p1 (7 : Int32) (0 : Int32) g15 h15) (cwV 3 hts gX5_reads_X5_setPart rfl rfl rfl (by decide +kernel) ⟨Nat.le_of_ble_eq_true rfl, Nat.le_of_ble_eq_true rfl⟩) hP hK hD hS hA (ci := 5) (q0 := 0) rfl rfl rfl rfl hl.1 (Nat.le_of_ble_eq_true rfl) rfl dX5_reads_47 ⟨Nat.zero_le _, Nat.zero_le _⟩ (fun H locs hP hD hS => ?_)
        refine lv_aload_n hx hb dX5_reads_50 rfl (lv_at hl 1 rfl) ?_
        refine va_get (D := D) (ci := 5) (v := .ref (a 1)) (C := RX5) (T := TX5) (N := 13) hx hb hts iX5_reads_X5 hown hK.1 hP 0 rfl rfl 1 (by decide) (hts _ qX5_reads_7) (fun _ h9 => h9) rfl dX5_reads_51 ?_
        refine lv_iconst (v := (1 : Int32)) hx hb dX5_reads_54 (by decide) ?_
        refine lv_dup2_11 hx hb dX5_reads_55 rfl rfl ?_
        refine va_iald hx hb hK.1 hP 1 0 rfl rfl (z_inE (by decide)) dX5_reads_56 ?_
        refine lv_iconst (v := (1 : Int32)) hx hb dX5_reads_57 (by decide) ?_
        refine lv_aload_n hx hb dX5_reads_58 rfl (lv_at hl 1 rfl) ?_
        refine lv_iload_n hx hb dX5_reads_59 rfl (lv_at hl 2 rfl) ?_
        refine lv_iconst (v := (1 : Int32)) hx hb dX5_reads_60 (by decide) ?_
        obtain ⟨r16, h16, hf⟩ := z_bE hf
        refine z_cVi (As := [.int p1, .int (1 : Int32)]) (rest := [.int (1 : Int32), .int (g15 1 ((1 : Int32)).toNatClampNeg), .int (1 : Int32), .ref (a 1)]) (wf := (z_md c a)) (g := g15) (u0 := g15) ⟨hx, hb, hml, hown, hts⟩ (kX5_part l D c N a H.size g15 p1 (1 : Int32) r16 h16) (cwV 2 hts gX5_reads_X5_part rfl rfl rfl (by decide +kernel) ⟨Nat.le_of_ble_eq_true rfl, Nat.le_of_ble_eq_true rfl⟩) hP hK hD hS hA (ci := 5) (q0 := 0) rfl rfl rfl rfl hl.1 (Nat.le_of_ble_eq_true rfl) rfl dX5_reads_61 ⟨Nat.zero_le _, Nat.zero_le _⟩ (fun H locs hP hD hS => ?_)
        refine lv_iadd hx hb dX5_reads_64 ?_
        refine lv_iadd hx hb dX5_reads_65 ?_
        refine va_iast hx hb hK.1 hP hD hS 1 0 rfl rfl (z_inE (by decide)) dX5_reads_66 (fun H locs hP hD hS => ?_)
        obtain ⟨g17, e17, hf⟩ := z_ltE hf
        have hP : va_P D vwCl (z_md c a g17) H := by rw [e17]; exact hP
        have hD : va_D A (z_md c a g17) := by rw [e17]; exact hD
        clear e17
        exact z_rv (wf := (z_md c a)) hx hb hr hlocks hP hD hS hf dX5_reads_67
    · have hf := z_ifF hf c11
      refine lv_aload_n hx hb dX5_reads_32 rfl (lv_at hl 1 rfl) ?_
      refine lv_iload_n hx hb dX5_reads_33 rfl (lv_at hl 2 rfl) ?_
      obtain ⟨r18, g18, h18, hf⟩ := z_b2E hf
      refine z_cVi (As := [.int p1]) (rest := []) (wf := (z_md c a)) (g := g3) (u0 := g18) ⟨hx, hb, hml, hown, hts⟩ (kX5_refund l D c N a H.size g3 p1 r18 g18 h18) (cwV 1 hts gX5_reads_X5_refund rfl rfl rfl (by decide +kernel) ⟨Nat.le_of_ble_eq_true rfl, Nat.le_of_ble_eq_true rfl⟩) hP hK hD hS hA (ci := 5) (q0 := 0) rfl rfl rfl rfl hl.1 (Nat.le_of_ble_eq_true rfl) rfl dX5_reads_34 ⟨Nat.zero_le _, Nat.zero_le _⟩ (fun H locs hP hD hS => ?_)
      refine lv_pop hx hb dX5_reads_37 rfl ?_
      refine lv_iload_n hx hb dX5_reads_38 rfl (lv_at hl 3 rfl) ?_
      refine lv_if_eq (tgt := 50) hx hb dX5_reads_39 (by decide) (fun c19 => ?_) (fun c19 => ?_)
      · have hf := z_ifT hf c19
        refine lv_aload_n hx hb dX5_reads_50 rfl (lv_at hl 1 rfl) ?_
        refine va_get (D := D) (ci := 5) (v := .ref (a 1)) (C := RX5) (T := TX5) (N := 13) hx hb hts iX5_reads_X5 hown hK.1 hP 0 rfl rfl 1 (by decide) (hts _ qX5_reads_7) (fun _ h9 => h9) rfl dX5_reads_51 ?_
        refine lv_iconst (v := (1 : Int32)) hx hb dX5_reads_54 (by decide) ?_
        refine lv_dup2_11 hx hb dX5_reads_55 rfl rfl ?_
        refine va_iald hx hb hK.1 hP 1 0 rfl rfl (z_inE (by decide)) dX5_reads_56 ?_
        refine lv_iconst (v := (1 : Int32)) hx hb dX5_reads_57 (by decide) ?_
        refine lv_aload_n hx hb dX5_reads_58 rfl (lv_at hl 1 rfl) ?_
        refine lv_iload_n hx hb dX5_reads_59 rfl (lv_at hl 2 rfl) ?_
        refine lv_iconst (v := (1 : Int32)) hx hb dX5_reads_60 (by decide) ?_
        obtain ⟨r20, h20, hf⟩ := z_bE hf
        refine z_cVi (As := [.int p1, .int (1 : Int32)]) (rest := [.int (1 : Int32), .int (g18 1 ((1 : Int32)).toNatClampNeg), .int (1 : Int32), .ref (a 1)]) (wf := (z_md c a)) (g := g18) (u0 := g18) ⟨hx, hb, hml, hown, hts⟩ (kX5_part l D c N a H.size g18 p1 (1 : Int32) r20 h20) (cwV 2 hts gX5_reads_X5_part rfl rfl rfl (by decide +kernel) ⟨Nat.le_of_ble_eq_true rfl, Nat.le_of_ble_eq_true rfl⟩) hP hK hD hS hA (ci := 5) (q0 := 0) rfl rfl rfl rfl hl.1 (Nat.le_of_ble_eq_true rfl) rfl dX5_reads_61 ⟨Nat.zero_le _, Nat.zero_le _⟩ (fun H locs hP hD hS => ?_)
        refine lv_iadd hx hb dX5_reads_64 ?_
        refine lv_iadd hx hb dX5_reads_65 ?_
        refine va_iast hx hb hK.1 hP hD hS 1 0 rfl rfl (z_inE (by decide)) dX5_reads_66 (fun H locs hP hD hS => ?_)
        obtain ⟨g21, e21, hf⟩ := z_ltE hf
        have hP : va_P D vwCl (z_md c a g21) H := by rw [e21]; exact hP
        have hD : va_D A (z_md c a g21) := by rw [e21]; exact hD
        clear e21
        exact z_rv (wf := (z_md c a)) hx hb hr hlocks hP hD hS hf dX5_reads_67
      · have hf := z_ifF hf c19
        refine lv_aload_n hx hb dX5_reads_42 rfl (lv_at hl 1 rfl) ?_
        refine lv_iload_n hx hb dX5_reads_43 rfl (lv_at hl 2 rfl) ?_
        refine lv_bipush (v := (7 : Int32)) hx hb dX5_reads_44 (by decide) ?_
        refine lv_iconst (v := (0 : Int32)) hx hb dX5_reads_46 (by decide) ?_
        obtain ⟨g22, h22, hf⟩ := z_bE hf
        refine z_cVv (As := [.int p1, .int (7 : Int32), .int (0 : Int32)]) (rest := []) (wf := (z_md c a)) (g := g18) (u0 := g22) ⟨hx, hb, hml, hown, hts⟩ (kX5_setPart l D c N a H.size g18 p1 (7 : Int32) (0 : Int32) g22 h22) (cwV 3 hts gX5_reads_X5_setPart rfl rfl rfl (by decide +kernel) ⟨Nat.le_of_ble_eq_true rfl, Nat.le_of_ble_eq_true rfl⟩) hP hK hD hS hA (ci := 5) (q0 := 0) rfl rfl rfl rfl hl.1 (Nat.le_of_ble_eq_true rfl) rfl dX5_reads_47 ⟨Nat.zero_le _, Nat.zero_le _⟩ (fun H locs hP hD hS => ?_)
        refine lv_aload_n hx hb dX5_reads_50 rfl (lv_at hl 1 rfl) ?_
        refine va_get (D := D) (ci := 5) (v := .ref (a 1)) (C := RX5) (T := TX5) (N := 13) hx hb hts iX5_reads_X5 hown hK.1 hP 0 rfl rfl 1 (by decide) (hts _ qX5_reads_7) (fun _ h9 => h9) rfl dX5_reads_51 ?_
        refine lv_iconst (v := (1 : Int32)) hx hb dX5_reads_54 (by decide) ?_
        refine lv_dup2_11 hx hb dX5_reads_55 rfl rfl ?_
        refine va_iald hx hb hK.1 hP 1 0 rfl rfl (z_inE (by decide)) dX5_reads_56 ?_
        refine lv_iconst (v := (1 : Int32)) hx hb dX5_reads_57 (by decide) ?_
        refine lv_aload_n hx hb dX5_reads_58 rfl (lv_at hl 1 rfl) ?_
        refine lv_iload_n hx hb dX5_reads_59 rfl (lv_at hl 2 rfl) ?_
        refine lv_iconst (v := (1 : Int32)) hx hb dX5_reads_60 (by decide) ?_
        obtain ⟨r23, h23, hf⟩ := z_bE hf
        refine z_cVi (As := [.int p1, .int (1 : Int32)]) (rest := [.int (1 : Int32), .int (g22 1 ((1 : Int32)).toNatClampNeg), .int (1 : Int32), .ref (a 1)]) (wf := (z_md c a)) (g := g22) (u0 := g22) ⟨hx, hb, hml, hown, hts⟩ (kX5_part l D c N a H.size g22 p1 (1 : Int32) r23 h23) (cwV 2 hts gX5_reads_X5_part rfl rfl rfl (by decide +kernel) ⟨Nat.le_of_ble_eq_true rfl, Nat.le_of_ble_eq_true rfl⟩) hP hK hD hS hA (ci := 5) (q0 := 0) rfl rfl rfl rfl hl.1 (Nat.le_of_ble_eq_true rfl) rfl dX5_reads_61 ⟨Nat.zero_le _, Nat.zero_le _⟩ (fun H locs hP hD hS => ?_)
        refine lv_iadd hx hb dX5_reads_64 ?_
        refine lv_iadd hx hb dX5_reads_65 ?_
        refine va_iast hx hb hK.1 hP hD hS 1 0 rfl rfl (z_inE (by decide)) dX5_reads_66 (fun H locs hP hD hS => ?_)
        obtain ⟨g24, e24, hf⟩ := z_ltE hf
        have hP : va_P D vwCl (z_md c a g24) H := by rw [e24]; exact hP
        have hD : va_D A (z_md c a g24) := by rw [e24]; exact hD
        clear e24
        exact z_rv (wf := (z_md c a)) hx hb hr hlocks hP hD hS hf dX5_reads_67
abbrev rmX5_runs : Room := { frames := 3, cells := 0, slots := 0, locals := 68 }
theorem qX5_runs_7 : Cond.fieldLink RX5 7 "ProgramDrumModel" "state" "[I" ∈ wsX5_runs := by decide +kernel
theorem iX5_runs_X5 : ∀ w ∈ wsX50, w ∈ wsX5_runs := by decide +kernel
set_option maxRecDepth 100000 in
set_option maxHeartbeats 4000000 in
theorem kX5_runs (l : Launch) (D : va_G) (c : Nat → ClassId) (N : Nat) (a : Nat → Nat) (sz : Nat) (g : z_R) (p1 : Int32) (r0 : Int32) (g0 : z_R) (hf : fX5_runs N p1 g = some (r0, g0)) : Met l yX5_runs wsX5_runs rmX5_runs (z_Pc D c sz (z_md c a g) [.ref (a 0), .int p1]) (z_Qi D (z_md c a) r0 g0 (va_A (z_md c a g) sz)) 0 0 (va_A (z_md c a g) sz) := by
  refine z_ofM (cc := cX5_runs) (maxL := 6) (ret := (some .int)) (Qf := fun A => z_Qi D (z_md c a) r0 g0 A) (plainFor_of_name (by decide)) rfl (Nat.le_of_ble_eq_true rfl) ?_
  intro p e s m args below meth co A ls hx hb hr hml hts hown hlocks hnm hA hP hK hD hl hsz
  have hl : lv_has ls 6 [(0, .ref (a 0)), (1, .int p1)] := hl
  have hown : s.vm.findClass RX5 = some m.cls := hown
  obtain ⟨H, hH⟩ : ∃ H, H = s.heap := ⟨_, rfl⟩
  have hS : va_S A s.heap H [] := by rw [hH]; exact va_S.rf
  rw [← hH] at hP ⊢
  clear hH
  have L10 : ∀ (fu : Nat) (x2 : Int32) (x3 : Int32) (x4 : Int32) (x5 : Int32) (g : z_R), lX5_runs_10 N fu x2 x3 x4 x5 g = some (r0, g0) → ∀ (H : Heap) (locs : List Loc) (ls : Array Slot), va_P D vwCl (z_md c a g) H → va_D A (z_md c a g) → va_S A s.heap H locs → lv_has ls 6 [(0, .ref (a 0)), (2, .int x2), (3, .int x3), (4, .int x4), (5, .int x5)] → W p l e rmX5_runs s m args below meth co H locs 0 0 (MQ below (z_Qi D (z_md c a) r0 g0 A) args s 0 0 A) (F0 m 10 ls []) := by
    intro fu
    induction fu with
    | zero =>
      intro x2 x3 x4 x5 g hf
      have hf : (none : Option (Int32 × z_R)) = some _ := hf
      cases hf
    | succ fu ih =>
      intro x2 x3 x4 x5 g hf H locs ls hP hD hS hl
      rw [lX5_runs_10.eq_2] at hf
      refine lv_iload hx hb dX5_runs_10 (lv_at hl 3 rfl) ?_
      refine lv_iconst (v := (-1 : Int32)) hx hb dX5_runs_12 (by decide) ?_
      refine lv_icmp_ne (tgt := 131) hx hb dX5_runs_13 (by decide) (fun c1 => ?_) (fun c1 => ?_)
      · have hf := z_ifF hf c1
        refine lv_aload_n hx hb dX5_runs_131 rfl (lv_at hl 0 rfl) ?_
        refine va_get (D := D) (ci := 5) (v := .ref (a 1)) (C := RX5) (T := TX5) (N := 13) hx hb hts iX5_runs_X5 hown hK.1 hP 0 rfl rfl 1 (by decide) (hts _ qX5_runs_7) (fun _ h9 => h9) rfl dX5_runs_132 ?_
        refine lv_iconst (v := (4 : Int32)) hx hb dX5_runs_135 (by decide) ?_
        refine lv_iload hx hb dX5_runs_136 (lv_at hl 3 rfl) ?_
        refine va_iast hx hb hK.1 hP hD hS 1 0 rfl rfl (z_inE (by decide)) dX5_runs_138 (fun H locs hP hD hS => ?_)
        obtain ⟨g2, e2, hf⟩ := z_ltE hf
        have hP : va_P D vwCl (z_md c a g2) H := by rw [e2]; exact hP
        have hD : va_D A (z_md c a g2) := by rw [e2]; exact hD
        clear e2
        refine lv_iload hx hb dX5_runs_139 (lv_at hl 3 rfl) ?_
        exact z_ri (wf := (z_md c a)) hx hb hr hlocks hP hD hS hf dX5_runs_141
      · have hf := z_ifT hf c1
        refine lv_aload_n hx hb dX5_runs_16 rfl (lv_at hl 0 rfl) ?_
        refine lv_iload_n hx hb dX5_runs_17 rfl (lv_at hl 1 rfl) ?_
        obtain ⟨r3, h3, hf⟩ := z_bE hf
        refine z_cVi (As := [.int x2]) (rest := []) (wf := (z_md c a)) (g := g) (u0 := g) ⟨hx, hb, hml, hown, hts⟩ (kX5_isOrder l D c N a H.size g x2 r3 h3) (cwV 1 hts gX5_runs_X5_isOrder rfl rfl rfl (by decide +kernel) ⟨Nat.le_of_ble_eq_true rfl, Nat.le_of_ble_eq_true rfl⟩) hP hK hD hS hA (ci := 5) (q0 := 0) rfl rfl rfl rfl hl.1 (Nat.le_of_ble_eq_true rfl) rfl dX5_runs_18 ⟨Nat.zero_le _, Nat.zero_le _⟩ (fun H locs hP hD hS => ?_)
        refine lv_if_eq (tgt := 34) hx hb dX5_runs_21 (by decide) (fun c4 => ?_) (fun c4 => ?_)
        · have hf := z_ifT hf c4
          refine lv_iconst (v := (3 : Int32)) hx hb dX5_runs_34 (by decide) ?_
          refine lv_istore (lv' := [(4, .int (3 : Int32)), (0, .ref (a 0)), (2, .int x2), (3, .int x3), (5, .int x5)]) hx hb dX5_runs_35 hl (by decide) rfl (fun ls hl => ?_)
          refine lv_goto (tgt := 10) hx hb dX5_runs_37 (by decide) ?_
          exact ih _ _ _ _ _ hf H locs ls hP hD hS (lv_sub hl [1, 2, 3, 0, 4] rfl)
        · have hf := z_ifF hf c4
          refine lv_aload_n hx hb dX5_runs_24 rfl (lv_at hl 0 rfl) ?_
          refine lv_iload_n hx hb dX5_runs_25 rfl (lv_at hl 1 rfl) ?_
          refine lv_iconst (v := (5 : Int32)) hx hb dX5_runs_26 (by decide) ?_
          obtain ⟨r5, h5, hf⟩ := z_bE hf
          refine z_cVi (As := [.int x2, .int (5 : Int32)]) (rest := []) (wf := (z_md c a)) (g := g) (u0 := g) ⟨hx, hb, hml, hown, hts⟩ (kX5_part l D c N a H.size g x2 (5 : Int32) r5 h5) (cwV 2 hts gX5_runs_X5_part rfl rfl rfl (by decide +kernel) ⟨Nat.le_of_ble_eq_true rfl, Nat.le_of_ble_eq_true rfl⟩) hP hK hD hS hA (ci := 5) (q0 := 0) rfl rfl rfl rfl hl.1 (Nat.le_of_ble_eq_true rfl) rfl dX5_runs_27 ⟨Nat.zero_le _, Nat.zero_le _⟩ (fun H locs hP hD hS => ?_)
          refine lv_iconst (v := (-1 : Int32)) hx hb dX5_runs_30 (by decide) ?_
          refine lv_icmp_ne (tgt := 40) hx hb dX5_runs_31 (by decide) (fun c6 => ?_) (fun c6 => ?_)
          · have hf := z_ifF hf c6
            refine lv_iload_n hx hb dX5_runs_40 rfl (lv_at hl 2 rfl) ?_
            refine lv_iconst (v := (-1 : Int32)) hx hb dX5_runs_41 (by decide) ?_
            refine lv_icmp_eq (tgt := 71) hx hb dX5_runs_42 (by decide) (fun c7 => ?_) (fun c7 => ?_)
            · have hf := z_ifT hf c7
              refine lv_iload hx hb dX5_runs_71 (lv_at hl 4 rfl) ?_
              refine lv_bipush (v := (99 : Int32)) hx hb dX5_runs_73 (by decide) ?_
              refine lv_icmp_ne (tgt := 84) hx hb dX5_runs_75 (by decide) (fun c8 => ?_) (fun c8 => ?_)
              · have hf := z_ifF hf c8
                refine lv_aload_n hx hb dX5_runs_84 rfl (lv_at hl 0 rfl) ?_
                refine lv_iload_n hx hb dX5_runs_85 rfl (lv_at hl 1 rfl) ?_
                refine lv_iload_n hx hb dX5_runs_86 rfl (lv_at hl 2 rfl) ?_
                refine lv_iconst (v := (-1 : Int32)) hx hb dX5_runs_87 (by decide) ?_
                refine lv_icmp_eq (tgt := 95) hx hb dX5_runs_88 (by decide) (fun c9 => ?_) (fun c9 => ?_)
                · have hf := z_ifT hf c9
                  refine lv_iconst (v := (0 : Int32)) hx hb dX5_runs_95 (by decide) ?_
                  obtain ⟨g10, h10, hf⟩ := z_bE hf
                  refine z_cVv (As := [.int x2, .int (0 : Int32)]) (rest := []) (wf := (z_md c a)) (g := g) (u0 := g10) ⟨hx, hb, hml, hown, hts⟩ (kX5_reads l D c N a H.size g x2 (0 : Int32) g10 h10) (cwV 2 hts gX5_runs_X5_reads rfl rfl rfl (by decide +kernel) ⟨Nat.le_of_ble_eq_true rfl, Nat.le_of_ble_eq_true rfl⟩) hP hK hD hS hA (ci := 5) (q0 := 0) rfl rfl rfl rfl hl.1 (Nat.le_of_ble_eq_true rfl) rfl dX5_runs_96 ⟨Nat.zero_le _, Nat.zero_le _⟩ (fun H locs hP hD hS => ?_)
                  refine lv_iinc (v := (x5 + (1 : Int32))) (lv' := [(5, .int (x5 + (1 : Int32))), (0, .ref (a 0)), (2, .int x2), (3, .int x3), (4, .int x4)]) hx hb dX5_runs_99 hl (k := 4) rfl rfl (by decide) rfl (fun ls hl => ?_)
                  refine lv_iload_n hx hb dX5_runs_102 rfl (lv_at hl 2 rfl) ?_
                  refine lv_istore_n (lv' := [(3, .int x2), (5, .int (x5 + (1 : Int32))), (0, .ref (a 0)), (2, .int x2), (4, .int x4)]) hx hb dX5_runs_103 rfl hl (by decide) rfl (fun ls hl => ?_)
                  refine lv_aload_n hx hb dX5_runs_104 rfl (lv_at hl 2 rfl) ?_
                  refine lv_iload_n hx hb dX5_runs_105 rfl (lv_at hl 0 rfl) ?_
                  refine lv_iconst (v := (2 : Int32)) hx hb dX5_runs_106 (by decide) ?_
                  obtain ⟨r11, h11, hf⟩ := z_bE hf
                  refine z_cVi (As := [.int x2, .int (2 : Int32)]) (rest := []) (wf := (z_md c a)) (g := g10) (u0 := g10) ⟨hx, hb, hml, hown, hts⟩ (kX5_part l D c N a H.size g10 x2 (2 : Int32) r11 h11) (cwV 2 hts gX5_runs_X5_part rfl rfl rfl (by decide +kernel) ⟨Nat.le_of_ble_eq_true rfl, Nat.le_of_ble_eq_true rfl⟩) hP hK hD hS hA (ci := 5) (q0 := 0) rfl rfl rfl rfl hl.1 (Nat.le_of_ble_eq_true rfl) rfl dX5_runs_107 ⟨Nat.zero_le _, Nat.zero_le _⟩ (fun H locs hP hD hS => ?_)
                  refine lv_istore_n (lv' := [(2, .int r11), (3, .int x2), (5, .int (x5 + (1 : Int32))), (0, .ref (a 0)), (4, .int x4)]) hx hb dX5_runs_110 rfl hl (by decide) rfl (fun ls hl => ?_)
                  refine lv_iload_n hx hb dX5_runs_111 rfl (lv_at hl 0 rfl) ?_
                  refine lv_iconst (v := (-1 : Int32)) hx hb dX5_runs_112 (by decide) ?_
                  refine lv_icmp_ne (tgt := 122) hx hb dX5_runs_113 (by decide) (fun c12 => ?_) (fun c12 => ?_)
                  · have hf := z_ifF hf c12
                    refine lv_aload_n hx hb dX5_runs_122 rfl (lv_at hl 3 rfl) ?_
                    refine lv_iload_n hx hb dX5_runs_123 rfl (lv_at hl 1 rfl) ?_
                    refine lv_iload_n hx hb dX5_runs_124 rfl (lv_at hl 0 rfl) ?_
                    obtain ⟨g13, h13, hf⟩ := z_bE hf
                    refine z_cVv (As := [.int x2, .int r11]) (rest := []) (wf := (z_md c a)) (g := g10) (u0 := g13) ⟨hx, hb, hml, hown, hts⟩ (kX5_noteJump l D c N a H.size g10 x2 r11 g13 h13) (cwV 2 hts gX5_runs_X5_noteJump rfl rfl rfl (by decide +kernel) ⟨Nat.le_of_ble_eq_true rfl, Nat.le_of_ble_eq_true rfl⟩) hP hK hD hS hA (ci := 5) (q0 := 0) rfl rfl rfl rfl hl.1 (Nat.le_of_ble_eq_true rfl) rfl dX5_runs_125 ⟨Nat.zero_le _, Nat.zero_le _⟩ (fun H locs hP hD hS => ?_)
                    refine lv_goto (tgt := 10) hx hb dX5_runs_128 (by decide) ?_
                    exact ih _ _ _ _ _ hf H locs ls hP hD hS (lv_sub hl [3, 0, 1, 4, 2] rfl)
                  · have hf := z_ifT hf c12
                    refine lv_iconst (v := (0 : Int32)) hx hb dX5_runs_116 (by decide) ?_
                    refine lv_istore (lv' := [(4, .int (0 : Int32)), (2, .int r11), (3, .int x2), (5, .int (x5 + (1 : Int32))), (0, .ref (a 0))]) hx hb dX5_runs_117 hl (by decide) rfl (fun ls hl => ?_)
                    refine lv_goto (tgt := 10) hx hb dX5_runs_119 (by decide) ?_
                    exact ih _ _ _ _ _ hf H locs ls hP hD hS (lv_sub hl [4, 1, 2, 0, 3] rfl)
                · have hf := z_ifF hf c9
                  refine lv_iconst (v := (1 : Int32)) hx hb dX5_runs_91 (by decide) ?_
                  refine lv_goto (tgt := 96) hx hb dX5_runs_92 (by decide) ?_
                  obtain ⟨g14, h14, hf⟩ := z_bE hf
                  refine z_cVv (As := [.int x2, .int (1 : Int32)]) (rest := []) (wf := (z_md c a)) (g := g) (u0 := g14) ⟨hx, hb, hml, hown, hts⟩ (kX5_reads l D c N a H.size g x2 (1 : Int32) g14 h14) (cwV 2 hts gX5_runs_X5_reads rfl rfl rfl (by decide +kernel) ⟨Nat.le_of_ble_eq_true rfl, Nat.le_of_ble_eq_true rfl⟩) hP hK hD hS hA (ci := 5) (q0 := 0) rfl rfl rfl rfl hl.1 (Nat.le_of_ble_eq_true rfl) rfl dX5_runs_96 ⟨Nat.zero_le _, Nat.zero_le _⟩ (fun H locs hP hD hS => ?_)
                  refine lv_iinc (v := (x5 + (1 : Int32))) (lv' := [(5, .int (x5 + (1 : Int32))), (0, .ref (a 0)), (2, .int x2), (3, .int x3), (4, .int x4)]) hx hb dX5_runs_99 hl (k := 4) rfl rfl (by decide) rfl (fun ls hl => ?_)
                  refine lv_iload_n hx hb dX5_runs_102 rfl (lv_at hl 2 rfl) ?_
                  refine lv_istore_n (lv' := [(3, .int x2), (5, .int (x5 + (1 : Int32))), (0, .ref (a 0)), (2, .int x2), (4, .int x4)]) hx hb dX5_runs_103 rfl hl (by decide) rfl (fun ls hl => ?_)
                  refine lv_aload_n hx hb dX5_runs_104 rfl (lv_at hl 2 rfl) ?_
                  refine lv_iload_n hx hb dX5_runs_105 rfl (lv_at hl 0 rfl) ?_
                  refine lv_iconst (v := (2 : Int32)) hx hb dX5_runs_106 (by decide) ?_
                  obtain ⟨r15, h15, hf⟩ := z_bE hf
                  refine z_cVi (As := [.int x2, .int (2 : Int32)]) (rest := []) (wf := (z_md c a)) (g := g14) (u0 := g14) ⟨hx, hb, hml, hown, hts⟩ (kX5_part l D c N a H.size g14 x2 (2 : Int32) r15 h15) (cwV 2 hts gX5_runs_X5_part rfl rfl rfl (by decide +kernel) ⟨Nat.le_of_ble_eq_true rfl, Nat.le_of_ble_eq_true rfl⟩) hP hK hD hS hA (ci := 5) (q0 := 0) rfl rfl rfl rfl hl.1 (Nat.le_of_ble_eq_true rfl) rfl dX5_runs_107 ⟨Nat.zero_le _, Nat.zero_le _⟩ (fun H locs hP hD hS => ?_)
                  refine lv_istore_n (lv' := [(2, .int r15), (3, .int x2), (5, .int (x5 + (1 : Int32))), (0, .ref (a 0)), (4, .int x4)]) hx hb dX5_runs_110 rfl hl (by decide) rfl (fun ls hl => ?_)
                  refine lv_iload_n hx hb dX5_runs_111 rfl (lv_at hl 0 rfl) ?_
                  refine lv_iconst (v := (-1 : Int32)) hx hb dX5_runs_112 (by decide) ?_
                  refine lv_icmp_ne (tgt := 122) hx hb dX5_runs_113 (by decide) (fun c16 => ?_) (fun c16 => ?_)
                  · have hf := z_ifF hf c16
                    refine lv_aload_n hx hb dX5_runs_122 rfl (lv_at hl 3 rfl) ?_
                    refine lv_iload_n hx hb dX5_runs_123 rfl (lv_at hl 1 rfl) ?_
                    refine lv_iload_n hx hb dX5_runs_124 rfl (lv_at hl 0 rfl) ?_
                    obtain ⟨g17, h17, hf⟩ := z_bE hf
                    refine z_cVv (As := [.int x2, .int r15]) (rest := []) (wf := (z_md c a)) (g := g14) (u0 := g17) ⟨hx, hb, hml, hown, hts⟩ (kX5_noteJump l D c N a H.size g14 x2 r15 g17 h17) (cwV 2 hts gX5_runs_X5_noteJump rfl rfl rfl (by decide +kernel) ⟨Nat.le_of_ble_eq_true rfl, Nat.le_of_ble_eq_true rfl⟩) hP hK hD hS hA (ci := 5) (q0 := 0) rfl rfl rfl rfl hl.1 (Nat.le_of_ble_eq_true rfl) rfl dX5_runs_125 ⟨Nat.zero_le _, Nat.zero_le _⟩ (fun H locs hP hD hS => ?_)
                    refine lv_goto (tgt := 10) hx hb dX5_runs_128 (by decide) ?_
                    exact ih _ _ _ _ _ hf H locs ls hP hD hS (lv_sub hl [3, 0, 1, 4, 2] rfl)
                  · have hf := z_ifT hf c16
                    refine lv_iconst (v := (0 : Int32)) hx hb dX5_runs_116 (by decide) ?_
                    refine lv_istore (lv' := [(4, .int (0 : Int32)), (2, .int r15), (3, .int x2), (5, .int (x5 + (1 : Int32))), (0, .ref (a 0))]) hx hb dX5_runs_117 hl (by decide) rfl (fun ls hl => ?_)
                    refine lv_goto (tgt := 10) hx hb dX5_runs_119 (by decide) ?_
                    exact ih _ _ _ _ _ hf H locs ls hP hD hS (lv_sub hl [4, 1, 2, 0, 3] rfl)
              · have hf := z_ifT hf c8
                refine lv_iconst (v := (2 : Int32)) hx hb dX5_runs_78 (by decide) ?_
                refine lv_istore (lv' := [(4, .int (2 : Int32)), (0, .ref (a 0)), (2, .int x2), (3, .int x3), (5, .int x5)]) hx hb dX5_runs_79 hl (by decide) rfl (fun ls hl => ?_)
                refine lv_goto (tgt := 10) hx hb dX5_runs_81 (by decide) ?_
                exact ih _ _ _ _ _ hf H locs ls hP hD hS (lv_sub hl [1, 2, 3, 0, 4] rfl)
            · have hf := z_ifF hf c7
              refine lv_aload_n hx hb dX5_runs_45 rfl (lv_at hl 0 rfl) ?_
              refine lv_iload_n hx hb dX5_runs_46 rfl (lv_at hl 1 rfl) ?_
              refine lv_iconst (v := (3 : Int32)) hx hb dX5_runs_47 (by decide) ?_
              obtain ⟨r18, h18, hf⟩ := z_bE hf
              refine z_cVi (As := [.int x2, .int (3 : Int32)]) (rest := []) (wf := (z_md c a)) (g := g) (u0 := g) ⟨hx, hb, hml, hown, hts⟩ (kX5_part l D c N a H.size g x2 (3 : Int32) r18 h18) (cwV 2 hts gX5_runs_X5_part rfl rfl rfl (by decide +kernel) ⟨Nat.le_of_ble_eq_true rfl, Nat.le_of_ble_eq_true rfl⟩) hP hK hD hS hA (ci := 5) (q0 := 0) rfl rfl rfl rfl hl.1 (Nat.le_of_ble_eq_true rfl) rfl dX5_runs_48 ⟨Nat.zero_le _, Nat.zero_le _⟩ (fun H locs hP hD hS => ?_)
              refine lv_iconst (v := (-1 : Int32)) hx hb dX5_runs_51 (by decide) ?_
              refine lv_icmp_eq (tgt := 71) hx hb dX5_runs_52 (by decide) (fun c19 => ?_) (fun c19 => ?_)
              · have hf := z_ifT hf c19
                refine lv_iload hx hb dX5_runs_71 (lv_at hl 4 rfl) ?_
                refine lv_bipush (v := (99 : Int32)) hx hb dX5_runs_73 (by decide) ?_
                refine lv_icmp_ne (tgt := 84) hx hb dX5_runs_75 (by decide) (fun c20 => ?_) (fun c20 => ?_)
                · have hf := z_ifF hf c20
                  refine lv_aload_n hx hb dX5_runs_84 rfl (lv_at hl 0 rfl) ?_
                  refine lv_iload_n hx hb dX5_runs_85 rfl (lv_at hl 1 rfl) ?_
                  refine lv_iload_n hx hb dX5_runs_86 rfl (lv_at hl 2 rfl) ?_
                  refine lv_iconst (v := (-1 : Int32)) hx hb dX5_runs_87 (by decide) ?_
                  refine lv_icmp_eq (tgt := 95) hx hb dX5_runs_88 (by decide) (fun c21 => ?_) (fun c21 => ?_)
                  · have hf := z_ifT hf c21
                    refine lv_iconst (v := (0 : Int32)) hx hb dX5_runs_95 (by decide) ?_
                    obtain ⟨g22, h22, hf⟩ := z_bE hf
                    refine z_cVv (As := [.int x2, .int (0 : Int32)]) (rest := []) (wf := (z_md c a)) (g := g) (u0 := g22) ⟨hx, hb, hml, hown, hts⟩ (kX5_reads l D c N a H.size g x2 (0 : Int32) g22 h22) (cwV 2 hts gX5_runs_X5_reads rfl rfl rfl (by decide +kernel) ⟨Nat.le_of_ble_eq_true rfl, Nat.le_of_ble_eq_true rfl⟩) hP hK hD hS hA (ci := 5) (q0 := 0) rfl rfl rfl rfl hl.1 (Nat.le_of_ble_eq_true rfl) rfl dX5_runs_96 ⟨Nat.zero_le _, Nat.zero_le _⟩ (fun H locs hP hD hS => ?_)
                    refine lv_iinc (v := (x5 + (1 : Int32))) (lv' := [(5, .int (x5 + (1 : Int32))), (0, .ref (a 0)), (2, .int x2), (3, .int x3), (4, .int x4)]) hx hb dX5_runs_99 hl (k := 4) rfl rfl (by decide) rfl (fun ls hl => ?_)
                    refine lv_iload_n hx hb dX5_runs_102 rfl (lv_at hl 2 rfl) ?_
                    refine lv_istore_n (lv' := [(3, .int x2), (5, .int (x5 + (1 : Int32))), (0, .ref (a 0)), (2, .int x2), (4, .int x4)]) hx hb dX5_runs_103 rfl hl (by decide) rfl (fun ls hl => ?_)
                    refine lv_aload_n hx hb dX5_runs_104 rfl (lv_at hl 2 rfl) ?_
                    refine lv_iload_n hx hb dX5_runs_105 rfl (lv_at hl 0 rfl) ?_
                    refine lv_iconst (v := (2 : Int32)) hx hb dX5_runs_106 (by decide) ?_
                    obtain ⟨r23, h23, hf⟩ := z_bE hf
                    refine z_cVi (As := [.int x2, .int (2 : Int32)]) (rest := []) (wf := (z_md c a)) (g := g22) (u0 := g22) ⟨hx, hb, hml, hown, hts⟩ (kX5_part l D c N a H.size g22 x2 (2 : Int32) r23 h23) (cwV 2 hts gX5_runs_X5_part rfl rfl rfl (by decide +kernel) ⟨Nat.le_of_ble_eq_true rfl, Nat.le_of_ble_eq_true rfl⟩) hP hK hD hS hA (ci := 5) (q0 := 0) rfl rfl rfl rfl hl.1 (Nat.le_of_ble_eq_true rfl) rfl dX5_runs_107 ⟨Nat.zero_le _, Nat.zero_le _⟩ (fun H locs hP hD hS => ?_)
                    refine lv_istore_n (lv' := [(2, .int r23), (3, .int x2), (5, .int (x5 + (1 : Int32))), (0, .ref (a 0)), (4, .int x4)]) hx hb dX5_runs_110 rfl hl (by decide) rfl (fun ls hl => ?_)
                    refine lv_iload_n hx hb dX5_runs_111 rfl (lv_at hl 0 rfl) ?_
                    refine lv_iconst (v := (-1 : Int32)) hx hb dX5_runs_112 (by decide) ?_
                    refine lv_icmp_ne (tgt := 122) hx hb dX5_runs_113 (by decide) (fun c24 => ?_) (fun c24 => ?_)
                    · have hf := z_ifF hf c24
                      refine lv_aload_n hx hb dX5_runs_122 rfl (lv_at hl 3 rfl) ?_
                      refine lv_iload_n hx hb dX5_runs_123 rfl (lv_at hl 1 rfl) ?_
                      refine lv_iload_n hx hb dX5_runs_124 rfl (lv_at hl 0 rfl) ?_
                      obtain ⟨g25, h25, hf⟩ := z_bE hf
                      refine z_cVv (As := [.int x2, .int r23]) (rest := []) (wf := (z_md c a)) (g := g22) (u0 := g25) ⟨hx, hb, hml, hown, hts⟩ (kX5_noteJump l D c N a H.size g22 x2 r23 g25 h25) (cwV 2 hts gX5_runs_X5_noteJump rfl rfl rfl (by decide +kernel) ⟨Nat.le_of_ble_eq_true rfl, Nat.le_of_ble_eq_true rfl⟩) hP hK hD hS hA (ci := 5) (q0 := 0) rfl rfl rfl rfl hl.1 (Nat.le_of_ble_eq_true rfl) rfl dX5_runs_125 ⟨Nat.zero_le _, Nat.zero_le _⟩ (fun H locs hP hD hS => ?_)
                      refine lv_goto (tgt := 10) hx hb dX5_runs_128 (by decide) ?_
                      exact ih _ _ _ _ _ hf H locs ls hP hD hS (lv_sub hl [3, 0, 1, 4, 2] rfl)
                    · have hf := z_ifT hf c24
                      refine lv_iconst (v := (0 : Int32)) hx hb dX5_runs_116 (by decide) ?_
                      refine lv_istore (lv' := [(4, .int (0 : Int32)), (2, .int r23), (3, .int x2), (5, .int (x5 + (1 : Int32))), (0, .ref (a 0))]) hx hb dX5_runs_117 hl (by decide) rfl (fun ls hl => ?_)
                      refine lv_goto (tgt := 10) hx hb dX5_runs_119 (by decide) ?_
                      exact ih _ _ _ _ _ hf H locs ls hP hD hS (lv_sub hl [4, 1, 2, 0, 3] rfl)
                  · have hf := z_ifF hf c21
                    refine lv_iconst (v := (1 : Int32)) hx hb dX5_runs_91 (by decide) ?_
                    refine lv_goto (tgt := 96) hx hb dX5_runs_92 (by decide) ?_
                    obtain ⟨g26, h26, hf⟩ := z_bE hf
                    refine z_cVv (As := [.int x2, .int (1 : Int32)]) (rest := []) (wf := (z_md c a)) (g := g) (u0 := g26) ⟨hx, hb, hml, hown, hts⟩ (kX5_reads l D c N a H.size g x2 (1 : Int32) g26 h26) (cwV 2 hts gX5_runs_X5_reads rfl rfl rfl (by decide +kernel) ⟨Nat.le_of_ble_eq_true rfl, Nat.le_of_ble_eq_true rfl⟩) hP hK hD hS hA (ci := 5) (q0 := 0) rfl rfl rfl rfl hl.1 (Nat.le_of_ble_eq_true rfl) rfl dX5_runs_96 ⟨Nat.zero_le _, Nat.zero_le _⟩ (fun H locs hP hD hS => ?_)
                    refine lv_iinc (v := (x5 + (1 : Int32))) (lv' := [(5, .int (x5 + (1 : Int32))), (0, .ref (a 0)), (2, .int x2), (3, .int x3), (4, .int x4)]) hx hb dX5_runs_99 hl (k := 4) rfl rfl (by decide) rfl (fun ls hl => ?_)
                    refine lv_iload_n hx hb dX5_runs_102 rfl (lv_at hl 2 rfl) ?_
                    refine lv_istore_n (lv' := [(3, .int x2), (5, .int (x5 + (1 : Int32))), (0, .ref (a 0)), (2, .int x2), (4, .int x4)]) hx hb dX5_runs_103 rfl hl (by decide) rfl (fun ls hl => ?_)
                    refine lv_aload_n hx hb dX5_runs_104 rfl (lv_at hl 2 rfl) ?_
                    refine lv_iload_n hx hb dX5_runs_105 rfl (lv_at hl 0 rfl) ?_
                    refine lv_iconst (v := (2 : Int32)) hx hb dX5_runs_106 (by decide) ?_
                    obtain ⟨r27, h27, hf⟩ := z_bE hf
                    refine z_cVi (As := [.int x2, .int (2 : Int32)]) (rest := []) (wf := (z_md c a)) (g := g26) (u0 := g26) ⟨hx, hb, hml, hown, hts⟩ (kX5_part l D c N a H.size g26 x2 (2 : Int32) r27 h27) (cwV 2 hts gX5_runs_X5_part rfl rfl rfl (by decide +kernel) ⟨Nat.le_of_ble_eq_true rfl, Nat.le_of_ble_eq_true rfl⟩) hP hK hD hS hA (ci := 5) (q0 := 0) rfl rfl rfl rfl hl.1 (Nat.le_of_ble_eq_true rfl) rfl dX5_runs_107 ⟨Nat.zero_le _, Nat.zero_le _⟩ (fun H locs hP hD hS => ?_)
                    refine lv_istore_n (lv' := [(2, .int r27), (3, .int x2), (5, .int (x5 + (1 : Int32))), (0, .ref (a 0)), (4, .int x4)]) hx hb dX5_runs_110 rfl hl (by decide) rfl (fun ls hl => ?_)
                    refine lv_iload_n hx hb dX5_runs_111 rfl (lv_at hl 0 rfl) ?_
                    refine lv_iconst (v := (-1 : Int32)) hx hb dX5_runs_112 (by decide) ?_
                    refine lv_icmp_ne (tgt := 122) hx hb dX5_runs_113 (by decide) (fun c28 => ?_) (fun c28 => ?_)
                    · have hf := z_ifF hf c28
                      refine lv_aload_n hx hb dX5_runs_122 rfl (lv_at hl 3 rfl) ?_
                      refine lv_iload_n hx hb dX5_runs_123 rfl (lv_at hl 1 rfl) ?_
                      refine lv_iload_n hx hb dX5_runs_124 rfl (lv_at hl 0 rfl) ?_
                      obtain ⟨g29, h29, hf⟩ := z_bE hf
                      refine z_cVv (As := [.int x2, .int r27]) (rest := []) (wf := (z_md c a)) (g := g26) (u0 := g29) ⟨hx, hb, hml, hown, hts⟩ (kX5_noteJump l D c N a H.size g26 x2 r27 g29 h29) (cwV 2 hts gX5_runs_X5_noteJump rfl rfl rfl (by decide +kernel) ⟨Nat.le_of_ble_eq_true rfl, Nat.le_of_ble_eq_true rfl⟩) hP hK hD hS hA (ci := 5) (q0 := 0) rfl rfl rfl rfl hl.1 (Nat.le_of_ble_eq_true rfl) rfl dX5_runs_125 ⟨Nat.zero_le _, Nat.zero_le _⟩ (fun H locs hP hD hS => ?_)
                      refine lv_goto (tgt := 10) hx hb dX5_runs_128 (by decide) ?_
                      exact ih _ _ _ _ _ hf H locs ls hP hD hS (lv_sub hl [3, 0, 1, 4, 2] rfl)
                    · have hf := z_ifT hf c28
                      refine lv_iconst (v := (0 : Int32)) hx hb dX5_runs_116 (by decide) ?_
                      refine lv_istore (lv' := [(4, .int (0 : Int32)), (2, .int r27), (3, .int x2), (5, .int (x5 + (1 : Int32))), (0, .ref (a 0))]) hx hb dX5_runs_117 hl (by decide) rfl (fun ls hl => ?_)
                      refine lv_goto (tgt := 10) hx hb dX5_runs_119 (by decide) ?_
                      exact ih _ _ _ _ _ hf H locs ls hP hD hS (lv_sub hl [4, 1, 2, 0, 3] rfl)
                · have hf := z_ifT hf c20
                  refine lv_iconst (v := (2 : Int32)) hx hb dX5_runs_78 (by decide) ?_
                  refine lv_istore (lv' := [(4, .int (2 : Int32)), (0, .ref (a 0)), (2, .int x2), (3, .int x3), (5, .int x5)]) hx hb dX5_runs_79 hl (by decide) rfl (fun ls hl => ?_)
                  refine lv_goto (tgt := 10) hx hb dX5_runs_81 (by decide) ?_
                  exact ih _ _ _ _ _ hf H locs ls hP hD hS (lv_sub hl [1, 2, 3, 0, 4] rfl)
              · have hf := z_ifF hf c19
                refine lv_aload_n hx hb dX5_runs_55 rfl (lv_at hl 0 rfl) ?_
                refine lv_iload_n hx hb dX5_runs_56 rfl (lv_at hl 1 rfl) ?_
                refine lv_iconst (v := (3 : Int32)) hx hb dX5_runs_57 (by decide) ?_
                obtain ⟨r30, h30, hf⟩ := z_bE hf
                refine z_cVi (As := [.int x2, .int (3 : Int32)]) (rest := []) (wf := (z_md c a)) (g := g) (u0 := g) ⟨hx, hb, hml, hown, hts⟩ (kX5_part l D c N a H.size g x2 (3 : Int32) r30 h30) (cwV 2 hts gX5_runs_X5_part rfl rfl rfl (by decide +kernel) ⟨Nat.le_of_ble_eq_true rfl, Nat.le_of_ble_eq_true rfl⟩) hP hK hD hS hA (ci := 5) (q0 := 0) rfl rfl rfl rfl hl.1 (Nat.le_of_ble_eq_true rfl) rfl dX5_runs_58 ⟨Nat.zero_le _, Nat.zero_le _⟩ (fun H locs hP hD hS => ?_)
                refine lv_iload_n hx hb dX5_runs_61 rfl (lv_at hl 2 rfl) ?_
                refine lv_icmp_eq (tgt := 71) hx hb dX5_runs_62 (by decide) (fun c31 => ?_) (fun c31 => ?_)
                · have hf := z_ifT hf c31
                  refine lv_iload hx hb dX5_runs_71 (lv_at hl 4 rfl) ?_
                  refine lv_bipush (v := (99 : Int32)) hx hb dX5_runs_73 (by decide) ?_
                  refine lv_icmp_ne (tgt := 84) hx hb dX5_runs_75 (by decide) (fun c32 => ?_) (fun c32 => ?_)
                  · have hf := z_ifF hf c32
                    refine lv_aload_n hx hb dX5_runs_84 rfl (lv_at hl 0 rfl) ?_
                    refine lv_iload_n hx hb dX5_runs_85 rfl (lv_at hl 1 rfl) ?_
                    refine lv_iload_n hx hb dX5_runs_86 rfl (lv_at hl 2 rfl) ?_
                    refine lv_iconst (v := (-1 : Int32)) hx hb dX5_runs_87 (by decide) ?_
                    refine lv_icmp_eq (tgt := 95) hx hb dX5_runs_88 (by decide) (fun c33 => ?_) (fun c33 => ?_)
                    · have hf := z_ifT hf c33
                      refine lv_iconst (v := (0 : Int32)) hx hb dX5_runs_95 (by decide) ?_
                      obtain ⟨g34, h34, hf⟩ := z_bE hf
                      refine z_cVv (As := [.int x2, .int (0 : Int32)]) (rest := []) (wf := (z_md c a)) (g := g) (u0 := g34) ⟨hx, hb, hml, hown, hts⟩ (kX5_reads l D c N a H.size g x2 (0 : Int32) g34 h34) (cwV 2 hts gX5_runs_X5_reads rfl rfl rfl (by decide +kernel) ⟨Nat.le_of_ble_eq_true rfl, Nat.le_of_ble_eq_true rfl⟩) hP hK hD hS hA (ci := 5) (q0 := 0) rfl rfl rfl rfl hl.1 (Nat.le_of_ble_eq_true rfl) rfl dX5_runs_96 ⟨Nat.zero_le _, Nat.zero_le _⟩ (fun H locs hP hD hS => ?_)
                      refine lv_iinc (v := (x5 + (1 : Int32))) (lv' := [(5, .int (x5 + (1 : Int32))), (0, .ref (a 0)), (2, .int x2), (3, .int x3), (4, .int x4)]) hx hb dX5_runs_99 hl (k := 4) rfl rfl (by decide) rfl (fun ls hl => ?_)
                      refine lv_iload_n hx hb dX5_runs_102 rfl (lv_at hl 2 rfl) ?_
                      refine lv_istore_n (lv' := [(3, .int x2), (5, .int (x5 + (1 : Int32))), (0, .ref (a 0)), (2, .int x2), (4, .int x4)]) hx hb dX5_runs_103 rfl hl (by decide) rfl (fun ls hl => ?_)
                      refine lv_aload_n hx hb dX5_runs_104 rfl (lv_at hl 2 rfl) ?_
                      refine lv_iload_n hx hb dX5_runs_105 rfl (lv_at hl 0 rfl) ?_
                      refine lv_iconst (v := (2 : Int32)) hx hb dX5_runs_106 (by decide) ?_
                      obtain ⟨r35, h35, hf⟩ := z_bE hf
                      refine z_cVi (As := [.int x2, .int (2 : Int32)]) (rest := []) (wf := (z_md c a)) (g := g34) (u0 := g34) ⟨hx, hb, hml, hown, hts⟩ (kX5_part l D c N a H.size g34 x2 (2 : Int32) r35 h35) (cwV 2 hts gX5_runs_X5_part rfl rfl rfl (by decide +kernel) ⟨Nat.le_of_ble_eq_true rfl, Nat.le_of_ble_eq_true rfl⟩) hP hK hD hS hA (ci := 5) (q0 := 0) rfl rfl rfl rfl hl.1 (Nat.le_of_ble_eq_true rfl) rfl dX5_runs_107 ⟨Nat.zero_le _, Nat.zero_le _⟩ (fun H locs hP hD hS => ?_)
                      refine lv_istore_n (lv' := [(2, .int r35), (3, .int x2), (5, .int (x5 + (1 : Int32))), (0, .ref (a 0)), (4, .int x4)]) hx hb dX5_runs_110 rfl hl (by decide) rfl (fun ls hl => ?_)
                      refine lv_iload_n hx hb dX5_runs_111 rfl (lv_at hl 0 rfl) ?_
                      refine lv_iconst (v := (-1 : Int32)) hx hb dX5_runs_112 (by decide) ?_
                      refine lv_icmp_ne (tgt := 122) hx hb dX5_runs_113 (by decide) (fun c36 => ?_) (fun c36 => ?_)
                      · have hf := z_ifF hf c36
                        refine lv_aload_n hx hb dX5_runs_122 rfl (lv_at hl 3 rfl) ?_
                        refine lv_iload_n hx hb dX5_runs_123 rfl (lv_at hl 1 rfl) ?_
                        refine lv_iload_n hx hb dX5_runs_124 rfl (lv_at hl 0 rfl) ?_
                        obtain ⟨g37, h37, hf⟩ := z_bE hf
                        refine z_cVv (As := [.int x2, .int r35]) (rest := []) (wf := (z_md c a)) (g := g34) (u0 := g37) ⟨hx, hb, hml, hown, hts⟩ (kX5_noteJump l D c N a H.size g34 x2 r35 g37 h37) (cwV 2 hts gX5_runs_X5_noteJump rfl rfl rfl (by decide +kernel) ⟨Nat.le_of_ble_eq_true rfl, Nat.le_of_ble_eq_true rfl⟩) hP hK hD hS hA (ci := 5) (q0 := 0) rfl rfl rfl rfl hl.1 (Nat.le_of_ble_eq_true rfl) rfl dX5_runs_125 ⟨Nat.zero_le _, Nat.zero_le _⟩ (fun H locs hP hD hS => ?_)
                        refine lv_goto (tgt := 10) hx hb dX5_runs_128 (by decide) ?_
                        exact ih _ _ _ _ _ hf H locs ls hP hD hS (lv_sub hl [3, 0, 1, 4, 2] rfl)
                      · have hf := z_ifT hf c36
                        refine lv_iconst (v := (0 : Int32)) hx hb dX5_runs_116 (by decide) ?_
                        refine lv_istore (lv' := [(4, .int (0 : Int32)), (2, .int r35), (3, .int x2), (5, .int (x5 + (1 : Int32))), (0, .ref (a 0))]) hx hb dX5_runs_117 hl (by decide) rfl (fun ls hl => ?_)
                        refine lv_goto (tgt := 10) hx hb dX5_runs_119 (by decide) ?_
                        exact ih _ _ _ _ _ hf H locs ls hP hD hS (lv_sub hl [4, 1, 2, 0, 3] rfl)
                    · have hf := z_ifF hf c33
                      refine lv_iconst (v := (1 : Int32)) hx hb dX5_runs_91 (by decide) ?_
                      refine lv_goto (tgt := 96) hx hb dX5_runs_92 (by decide) ?_
                      obtain ⟨g38, h38, hf⟩ := z_bE hf
                      refine z_cVv (As := [.int x2, .int (1 : Int32)]) (rest := []) (wf := (z_md c a)) (g := g) (u0 := g38) ⟨hx, hb, hml, hown, hts⟩ (kX5_reads l D c N a H.size g x2 (1 : Int32) g38 h38) (cwV 2 hts gX5_runs_X5_reads rfl rfl rfl (by decide +kernel) ⟨Nat.le_of_ble_eq_true rfl, Nat.le_of_ble_eq_true rfl⟩) hP hK hD hS hA (ci := 5) (q0 := 0) rfl rfl rfl rfl hl.1 (Nat.le_of_ble_eq_true rfl) rfl dX5_runs_96 ⟨Nat.zero_le _, Nat.zero_le _⟩ (fun H locs hP hD hS => ?_)
                      refine lv_iinc (v := (x5 + (1 : Int32))) (lv' := [(5, .int (x5 + (1 : Int32))), (0, .ref (a 0)), (2, .int x2), (3, .int x3), (4, .int x4)]) hx hb dX5_runs_99 hl (k := 4) rfl rfl (by decide) rfl (fun ls hl => ?_)
                      refine lv_iload_n hx hb dX5_runs_102 rfl (lv_at hl 2 rfl) ?_
                      refine lv_istore_n (lv' := [(3, .int x2), (5, .int (x5 + (1 : Int32))), (0, .ref (a 0)), (2, .int x2), (4, .int x4)]) hx hb dX5_runs_103 rfl hl (by decide) rfl (fun ls hl => ?_)
                      refine lv_aload_n hx hb dX5_runs_104 rfl (lv_at hl 2 rfl) ?_
                      refine lv_iload_n hx hb dX5_runs_105 rfl (lv_at hl 0 rfl) ?_
                      refine lv_iconst (v := (2 : Int32)) hx hb dX5_runs_106 (by decide) ?_
                      obtain ⟨r39, h39, hf⟩ := z_bE hf
                      refine z_cVi (As := [.int x2, .int (2 : Int32)]) (rest := []) (wf := (z_md c a)) (g := g38) (u0 := g38) ⟨hx, hb, hml, hown, hts⟩ (kX5_part l D c N a H.size g38 x2 (2 : Int32) r39 h39) (cwV 2 hts gX5_runs_X5_part rfl rfl rfl (by decide +kernel) ⟨Nat.le_of_ble_eq_true rfl, Nat.le_of_ble_eq_true rfl⟩) hP hK hD hS hA (ci := 5) (q0 := 0) rfl rfl rfl rfl hl.1 (Nat.le_of_ble_eq_true rfl) rfl dX5_runs_107 ⟨Nat.zero_le _, Nat.zero_le _⟩ (fun H locs hP hD hS => ?_)
                      refine lv_istore_n (lv' := [(2, .int r39), (3, .int x2), (5, .int (x5 + (1 : Int32))), (0, .ref (a 0)), (4, .int x4)]) hx hb dX5_runs_110 rfl hl (by decide) rfl (fun ls hl => ?_)
                      refine lv_iload_n hx hb dX5_runs_111 rfl (lv_at hl 0 rfl) ?_
                      refine lv_iconst (v := (-1 : Int32)) hx hb dX5_runs_112 (by decide) ?_
                      refine lv_icmp_ne (tgt := 122) hx hb dX5_runs_113 (by decide) (fun c40 => ?_) (fun c40 => ?_)
                      · have hf := z_ifF hf c40
                        refine lv_aload_n hx hb dX5_runs_122 rfl (lv_at hl 3 rfl) ?_
                        refine lv_iload_n hx hb dX5_runs_123 rfl (lv_at hl 1 rfl) ?_
                        refine lv_iload_n hx hb dX5_runs_124 rfl (lv_at hl 0 rfl) ?_
                        obtain ⟨g41, h41, hf⟩ := z_bE hf
                        refine z_cVv (As := [.int x2, .int r39]) (rest := []) (wf := (z_md c a)) (g := g38) (u0 := g41) ⟨hx, hb, hml, hown, hts⟩ (kX5_noteJump l D c N a H.size g38 x2 r39 g41 h41) (cwV 2 hts gX5_runs_X5_noteJump rfl rfl rfl (by decide +kernel) ⟨Nat.le_of_ble_eq_true rfl, Nat.le_of_ble_eq_true rfl⟩) hP hK hD hS hA (ci := 5) (q0 := 0) rfl rfl rfl rfl hl.1 (Nat.le_of_ble_eq_true rfl) rfl dX5_runs_125 ⟨Nat.zero_le _, Nat.zero_le _⟩ (fun H locs hP hD hS => ?_)
                        refine lv_goto (tgt := 10) hx hb dX5_runs_128 (by decide) ?_
                        exact ih _ _ _ _ _ hf H locs ls hP hD hS (lv_sub hl [3, 0, 1, 4, 2] rfl)
                      · have hf := z_ifT hf c40
                        refine lv_iconst (v := (0 : Int32)) hx hb dX5_runs_116 (by decide) ?_
                        refine lv_istore (lv' := [(4, .int (0 : Int32)), (2, .int r39), (3, .int x2), (5, .int (x5 + (1 : Int32))), (0, .ref (a 0))]) hx hb dX5_runs_117 hl (by decide) rfl (fun ls hl => ?_)
                        refine lv_goto (tgt := 10) hx hb dX5_runs_119 (by decide) ?_
                        exact ih _ _ _ _ _ hf H locs ls hP hD hS (lv_sub hl [4, 1, 2, 0, 3] rfl)
                  · have hf := z_ifT hf c32
                    refine lv_iconst (v := (2 : Int32)) hx hb dX5_runs_78 (by decide) ?_
                    refine lv_istore (lv' := [(4, .int (2 : Int32)), (0, .ref (a 0)), (2, .int x2), (3, .int x3), (5, .int x5)]) hx hb dX5_runs_79 hl (by decide) rfl (fun ls hl => ?_)
                    refine lv_goto (tgt := 10) hx hb dX5_runs_81 (by decide) ?_
                    exact ih _ _ _ _ _ hf H locs ls hP hD hS (lv_sub hl [1, 2, 3, 0, 4] rfl)
                · have hf := z_ifF hf c31
                  refine lv_iconst (v := (1 : Int32)) hx hb dX5_runs_65 (by decide) ?_
                  refine lv_istore (lv' := [(4, .int (1 : Int32)), (0, .ref (a 0)), (2, .int x2), (3, .int x3), (5, .int x5)]) hx hb dX5_runs_66 hl (by decide) rfl (fun ls hl => ?_)
                  refine lv_goto (tgt := 10) hx hb dX5_runs_68 (by decide) ?_
                  exact ih _ _ _ _ _ hf H locs ls hP hD hS (lv_sub hl [1, 2, 3, 0, 4] rfl)
          · have hf := z_ifT hf c6
            refine lv_iconst (v := (3 : Int32)) hx hb dX5_runs_34 (by decide) ?_
            refine lv_istore (lv' := [(4, .int (3 : Int32)), (0, .ref (a 0)), (2, .int x2), (3, .int x3), (5, .int x5)]) hx hb dX5_runs_35 hl (by decide) rfl (fun ls hl => ?_)
            refine lv_goto (tgt := 10) hx hb dX5_runs_37 (by decide) ?_
            exact ih _ _ _ _ _ hf H locs ls hP hD hS (lv_sub hl [1, 2, 3, 0, 4] rfl)
  unfold fX5_runs at hf
  generalize ([] : List Loc) = locs at hS ⊢
  refine lv_iload_n hx hb dX5_runs_0 rfl (lv_at hl 1 rfl) ?_
  refine lv_istore_n (lv' := [(2, .int p1), (0, .ref (a 0)), (1, .int p1)]) hx hb dX5_runs_1 rfl hl (by decide) rfl (fun ls hl => ?_)
  refine lv_iconst (v := (-1 : Int32)) hx hb dX5_runs_2 (by decide) ?_
  refine lv_istore_n (lv' := [(3, .int (-1 : Int32)), (2, .int p1), (0, .ref (a 0)), (1, .int p1)]) hx hb dX5_runs_3 rfl hl (by decide) rfl (fun ls hl => ?_)
  refine lv_iconst (v := (-1 : Int32)) hx hb dX5_runs_4 (by decide) ?_
  refine lv_istore (lv' := [(4, .int (-1 : Int32)), (3, .int (-1 : Int32)), (2, .int p1), (0, .ref (a 0)), (1, .int p1)]) hx hb dX5_runs_5 hl (by decide) rfl (fun ls hl => ?_)
  refine lv_iconst (v := (0 : Int32)) hx hb dX5_runs_7 (by decide) ?_
  refine lv_istore (lv' := [(5, .int (0 : Int32)), (4, .int (-1 : Int32)), (3, .int (-1 : Int32)), (2, .int p1), (0, .ref (a 0)), (1, .int p1)]) hx hb dX5_runs_8 hl (by decide) rfl (fun ls hl => ?_)
  exact L10 N _ _ _ _ _ hf H locs ls hP hD hS (lv_sub hl [4, 3, 2, 1, 0] rfl)
abbrev rmX5_run : Room := { frames := 4, cells := 0, slots := 0, locals := 93 }
theorem qX5_run_37 : Cond.fieldLink RX5 37 "ProgramDrumModel" "thrown" "I" ∈ wsX5_run := by decide +kernel
theorem iX5_run_X5 : ∀ w ∈ wsX50, w ∈ wsX5_run := by decide +kernel
set_option maxRecDepth 100000 in
set_option maxHeartbeats 4000000 in
theorem kX5_run (l : Launch) (D : va_G) (c : Nat → ClassId) (N : Nat) (a : Nat → Nat) (sz : Nat) (g : z_R) (p1 : Int32) (r0 : Int32) (g0 : z_R) (hf : fX5_run N p1 g = some (r0, g0)) : Met l yX5_run wsX5_run rmX5_run (z_Pc D c sz (z_md c a g) [.ref (a 0), .int p1]) (z_Qi D (z_md c a) r0 g0 (va_A (z_md c a g) sz)) 0 0 (va_A (z_md c a g) sz) := by
  refine z_ofM (cc := cX5_run) (maxL := 2) (ret := (some .int)) (Qf := fun A => z_Qi D (z_md c a) r0 g0 A) (plainFor_of_name (by decide)) rfl (Nat.le_of_ble_eq_true rfl) ?_
  intro p e s m args below meth co A ls hx hb hr hml hts hown hlocks hnm hA hP hK hD hl hsz
  have hl : lv_has ls 2 [(0, .ref (a 0)), (1, .int p1)] := hl
  have hown : s.vm.findClass RX5 = some m.cls := hown
  obtain ⟨H, hH⟩ : ∃ H, H = s.heap := ⟨_, rfl⟩
  have hS : va_S A s.heap H [] := by rw [hH]; exact va_S.rf
  rw [← hH] at hP ⊢
  clear hH
  unfold fX5_run at hf
  generalize ([] : List Loc) = locs at hS ⊢
  refine lv_aload_n hx hb dX5_run_0 rfl (lv_at hl 0 rfl) ?_
  refine lv_aload_n hx hb dX5_run_1 rfl (lv_at hl 0 rfl) ?_
  refine lv_iload_n hx hb dX5_run_2 rfl (lv_at hl 1 rfl) ?_
  obtain ⟨r1, h1, hf⟩ := z_bE hf
  refine z_cVi (As := [.int p1]) (rest := [.ref (a 0)]) (wf := (z_md c a)) (g := g) (u0 := g) ⟨hx, hb, hml, hown, hts⟩ (kX5_isOrder l D c N a H.size g p1 r1 h1) (cwV 1 hts gX5_run_X5_isOrder rfl rfl rfl (by decide +kernel) ⟨Nat.le_of_ble_eq_true rfl, Nat.le_of_ble_eq_true rfl⟩) hP hK hD hS hA (ci := 5) (q0 := 0) rfl rfl rfl rfl hl.1 (Nat.le_of_ble_eq_true rfl) rfl dX5_run_3 ⟨Nat.zero_le _, Nat.zero_le _⟩ (fun H locs hP hD hS => ?_)
  refine lv_if_eq (tgt := 13) hx hb dX5_run_6 (by decide) (fun c2 => ?_) (fun c2 => ?_)
  · have hf := z_ifT hf c2
    refine lv_iconst (v := (1 : Int32)) hx hb dX5_run_13 (by decide) ?_
    refine va_put (D := D) (ci := 5) (v := .int (1 : Int32)) (ty := .int) (C := RX5) (T := TX5) (N := 13) hx hb hts iX5_run_X5 tyX5 tyX5_ok nmX5 hown hK.1 hP hD hS 0 rfl rfl 0 (by decide) (hts _ qX5_run_37) (fun _ h9 => h9) rfl (by decide +kernel) rfl rfl (Nat.le_of_ble_eq_true rfl) dX5_run_14 (fun H locs hP hD hS => ?_)
    obtain ⟨g3, e3, hf⟩ := z_ltE hf
    have hP : va_P D vwCl (z_md c a g3) H := by rw [e3]; exact hP
    have hD : va_D A (z_md c a g3) := by rw [e3]; exact hD
    clear e3
    refine lv_aload_n hx hb dX5_run_17 rfl (lv_at hl 0 rfl) ?_
    refine va_get (D := D) (ci := 5) (v := .int (g3 0 0)) (C := RX5) (T := TX5) (N := 13) hx hb hts iX5_run_X5 hown hK.1 hP 0 rfl rfl 0 (by decide) (hts _ qX5_run_37) (fun _ h9 => h9) rfl dX5_run_18 ?_
    refine lv_if_le (tgt := 26) hx hb dX5_run_21 (by decide) (fun c4 => ?_) (fun c4 => ?_)
    · have hf := z_ifT hf c4
      refine lv_aload_n hx hb dX5_run_26 rfl (lv_at hl 0 rfl) ?_
      obtain ⟨g5, h5, hf⟩ := z_bE hf
      refine z_cVv (As := []) (rest := []) (wf := (z_md c a)) (g := g3) (u0 := g5) ⟨hx, hb, hml, hown, hts⟩ (kX5_remember l D c N a H.size g3  g5 h5) (cwV 0 hts gX5_run_X5_remember rfl rfl rfl (by decide +kernel) ⟨Nat.le_of_ble_eq_true rfl, Nat.le_of_ble_eq_true rfl⟩) hP hK hD hS hA (ci := 5) (q0 := 0) rfl rfl rfl rfl hl.1 (Nat.le_of_ble_eq_true rfl) rfl dX5_run_27 ⟨Nat.zero_le _, Nat.zero_le _⟩ (fun H locs hP hD hS => ?_)
      refine lv_aload_n hx hb dX5_run_30 rfl (lv_at hl 0 rfl) ?_
      refine lv_iload_n hx hb dX5_run_31 rfl (lv_at hl 1 rfl) ?_
      obtain ⟨r6, g6, h6, hf⟩ := z_b2E hf
      refine z_cVi (As := [.int p1]) (rest := []) (wf := (z_md c a)) (g := g5) (u0 := g6) ⟨hx, hb, hml, hown, hts⟩ (kX5_runs l D c N a H.size g5 p1 r6 g6 h6) (cwV 1 hts gX5_run_X5_runs rfl rfl rfl (by decide +kernel) ⟨Nat.le_of_ble_eq_true rfl, Nat.le_of_ble_eq_true rfl⟩) hP hK hD hS hA (ci := 5) (q0 := 0) rfl rfl rfl rfl hl.1 (Nat.le_of_ble_eq_true rfl) rfl dX5_run_32 ⟨Nat.zero_le _, Nat.zero_le _⟩ (fun H locs hP hD hS => ?_)
      exact z_ri (wf := (z_md c a)) hx hb hr hlocks hP hD hS hf dX5_run_35
    · have hf := z_ifF hf c4
      refine lv_iconst (v := (0 : Int32)) hx hb dX5_run_24 (by decide) ?_
      exact z_ri (wf := (z_md c a)) hx hb hr hlocks hP hD hS hf dX5_run_25
  · have hf := z_ifF hf c2
    refine lv_iconst (v := (0 : Int32)) hx hb dX5_run_9 (by decide) ?_
    refine lv_goto (tgt := 14) hx hb dX5_run_10 (by decide) ?_
    refine va_put (D := D) (ci := 5) (v := .int (0 : Int32)) (ty := .int) (C := RX5) (T := TX5) (N := 13) hx hb hts iX5_run_X5 tyX5 tyX5_ok nmX5 hown hK.1 hP hD hS 0 rfl rfl 0 (by decide) (hts _ qX5_run_37) (fun _ h9 => h9) rfl (by decide +kernel) rfl rfl (Nat.le_of_ble_eq_true rfl) dX5_run_14 (fun H locs hP hD hS => ?_)
    obtain ⟨g7, e7, hf⟩ := z_ltE hf
    have hP : va_P D vwCl (z_md c a g7) H := by rw [e7]; exact hP
    have hD : va_D A (z_md c a g7) := by rw [e7]; exact hD
    clear e7
    refine lv_aload_n hx hb dX5_run_17 rfl (lv_at hl 0 rfl) ?_
    refine va_get (D := D) (ci := 5) (v := .int (g7 0 0)) (C := RX5) (T := TX5) (N := 13) hx hb hts iX5_run_X5 hown hK.1 hP 0 rfl rfl 0 (by decide) (hts _ qX5_run_37) (fun _ h9 => h9) rfl dX5_run_18 ?_
    refine lv_if_le (tgt := 26) hx hb dX5_run_21 (by decide) (fun c8 => ?_) (fun c8 => ?_)
    · have hf := z_ifT hf c8
      refine lv_aload_n hx hb dX5_run_26 rfl (lv_at hl 0 rfl) ?_
      obtain ⟨g9, h9, hf⟩ := z_bE hf
      refine z_cVv (As := []) (rest := []) (wf := (z_md c a)) (g := g7) (u0 := g9) ⟨hx, hb, hml, hown, hts⟩ (kX5_remember l D c N a H.size g7  g9 h9) (cwV 0 hts gX5_run_X5_remember rfl rfl rfl (by decide +kernel) ⟨Nat.le_of_ble_eq_true rfl, Nat.le_of_ble_eq_true rfl⟩) hP hK hD hS hA (ci := 5) (q0 := 0) rfl rfl rfl rfl hl.1 (Nat.le_of_ble_eq_true rfl) rfl dX5_run_27 ⟨Nat.zero_le _, Nat.zero_le _⟩ (fun H locs hP hD hS => ?_)
      refine lv_aload_n hx hb dX5_run_30 rfl (lv_at hl 0 rfl) ?_
      refine lv_iload_n hx hb dX5_run_31 rfl (lv_at hl 1 rfl) ?_
      obtain ⟨r10, g10, h10, hf⟩ := z_b2E hf
      refine z_cVi (As := [.int p1]) (rest := []) (wf := (z_md c a)) (g := g9) (u0 := g10) ⟨hx, hb, hml, hown, hts⟩ (kX5_runs l D c N a H.size g9 p1 r10 g10 h10) (cwV 1 hts gX5_run_X5_runs rfl rfl rfl (by decide +kernel) ⟨Nat.le_of_ble_eq_true rfl, Nat.le_of_ble_eq_true rfl⟩) hP hK hD hS hA (ci := 5) (q0 := 0) rfl rfl rfl rfl hl.1 (Nat.le_of_ble_eq_true rfl) rfl dX5_run_32 ⟨Nat.zero_le _, Nat.zero_le _⟩ (fun H locs hP hD hS => ?_)
      exact z_ri (wf := (z_md c a)) hx hb hr hlocks hP hD hS hf dX5_run_35
    · have hf := z_ifF hf c8
      refine lv_iconst (v := (0 : Int32)) hx hb dX5_run_24 (by decide) ?_
      exact z_ri (wf := (z_md c a)) hx hb hr hlocks hP hD hS hf dX5_run_25
abbrev rmX5_turn : Room := { frames := 2, cells := 0, slots := 0, locals := 45 }
theorem qX5_turn_37 : Cond.fieldLink RX5 37 "ProgramDrumModel" "thrown" "I" ∈ wsX5_turn := by decide +kernel
theorem iX5_turn_X5 : ∀ w ∈ wsX50, w ∈ wsX5_turn := by decide +kernel
theorem qX5_turn_7 : Cond.fieldLink RX5 7 "ProgramDrumModel" "state" "[I" ∈ wsX5_turn := by decide +kernel
set_option maxRecDepth 100000 in
set_option maxHeartbeats 4000000 in
theorem kX5_turn (l : Launch) (D : va_G) (c : Nat → ClassId) (N : Nat) (a : Nat → Nat) (sz : Nat) (g : z_R) (p1 : Int32) (r0 : Int32) (g0 : z_R) (hf : fX5_turn N p1 g = some (r0, g0)) : Met l yX5_turn wsX5_turn rmX5_turn (z_Pc D c sz (z_md c a g) [.ref (a 0), .int p1]) (z_Qi D (z_md c a) r0 g0 (va_A (z_md c a g) sz)) 0 0 (va_A (z_md c a g) sz) := by
  refine z_ofM (cc := cX5_turn) (maxL := 2) (ret := (some .int)) (Qf := fun A => z_Qi D (z_md c a) r0 g0 A) (plainFor_of_name (by decide)) rfl (Nat.le_of_ble_eq_true rfl) ?_
  intro p e s m args below meth co A ls hx hb hr hml hts hown hlocks hnm hA hP hK hD hl hsz
  have hl : lv_has ls 2 [(0, .ref (a 0)), (1, .int p1)] := hl
  have hown : s.vm.findClass RX5 = some m.cls := hown
  obtain ⟨H, hH⟩ : ∃ H, H = s.heap := ⟨_, rfl⟩
  have hS : va_S A s.heap H [] := by rw [hH]; exact va_S.rf
  rw [← hH] at hP ⊢
  clear hH
  unfold fX5_turn at hf
  generalize ([] : List Loc) = locs at hS ⊢
  refine lv_aload_n hx hb dX5_turn_0 rfl (lv_at hl 0 rfl) ?_
  refine lv_iload_n hx hb dX5_turn_1 rfl (lv_at hl 1 rfl) ?_
  refine lv_iconst (v := (1 : Int32)) hx hb dX5_turn_2 (by decide) ?_
  refine lv_bipush (v := (99 : Int32)) hx hb dX5_turn_3 (by decide) ?_
  obtain ⟨r1, h1, hf⟩ := z_bE hf
  refine z_cSi (As := [.int p1, .int (1 : Int32), .int (99 : Int32)]) (rest := [.ref (a 0)]) ⟨hx, hb, hml, hown, hts⟩ (kX5_within l D c N H.size p1 (1 : Int32) (99 : Int32) r1 h1) (va_cwS 3 hts gX5_turn_X5_within rfl rfl rfl (by decide +kernel) ⟨Nat.le_of_ble_eq_true rfl, Nat.le_of_ble_eq_true rfl⟩) hP hK hS hA rfl hl.1 (Nat.le_of_ble_eq_true rfl) rfl dX5_turn_5 ⟨Nat.zero_le _, Nat.zero_le _⟩ (fun H locs hP hS => ?_)
  refine lv_if_eq (tgt := 15) hx hb dX5_turn_8 (by decide) (fun c2 => ?_) (fun c2 => ?_)
  · have hf := z_ifT hf c2
    refine lv_iconst (v := (1 : Int32)) hx hb dX5_turn_15 (by decide) ?_
    refine va_put (D := D) (ci := 5) (v := .int (1 : Int32)) (ty := .int) (C := RX5) (T := TX5) (N := 13) hx hb hts iX5_turn_X5 tyX5 tyX5_ok nmX5 hown hK.1 hP hD hS 0 rfl rfl 0 (by decide) (hts _ qX5_turn_37) (fun _ h9 => h9) rfl (by decide +kernel) rfl rfl (Nat.le_of_ble_eq_true rfl) dX5_turn_16 (fun H locs hP hD hS => ?_)
    obtain ⟨g3, e3, hf⟩ := z_ltE hf
    have hP : va_P D vwCl (z_md c a g3) H := by rw [e3]; exact hP
    have hD : va_D A (z_md c a g3) := by rw [e3]; exact hD
    clear e3
    refine lv_aload_n hx hb dX5_turn_19 rfl (lv_at hl 0 rfl) ?_
    refine va_get (D := D) (ci := 5) (v := .int (g3 0 0)) (C := RX5) (T := TX5) (N := 13) hx hb hts iX5_turn_X5 hown hK.1 hP 0 rfl rfl 0 (by decide) (hts _ qX5_turn_37) (fun _ h9 => h9) rfl dX5_turn_20 ?_
    refine lv_if_le (tgt := 28) hx hb dX5_turn_23 (by decide) (fun c4 => ?_) (fun c4 => ?_)
    · have hf := z_ifT hf c4
      refine lv_aload_n hx hb dX5_turn_28 rfl (lv_at hl 0 rfl) ?_
      obtain ⟨g5, h5, hf⟩ := z_bE hf
      refine z_cVv (As := []) (rest := []) (wf := (z_md c a)) (g := g3) (u0 := g5) ⟨hx, hb, hml, hown, hts⟩ (kX5_remember l D c N a H.size g3  g5 h5) (cwV 0 hts gX5_turn_X5_remember rfl rfl rfl (by decide +kernel) ⟨Nat.le_of_ble_eq_true rfl, Nat.le_of_ble_eq_true rfl⟩) hP hK hD hS hA (ci := 5) (q0 := 0) rfl rfl rfl rfl hl.1 (Nat.le_of_ble_eq_true rfl) rfl dX5_turn_29 ⟨Nat.zero_le _, Nat.zero_le _⟩ (fun H locs hP hD hS => ?_)
      refine lv_aload_n hx hb dX5_turn_32 rfl (lv_at hl 0 rfl) ?_
      refine va_get (D := D) (ci := 5) (v := .ref (a 1)) (C := RX5) (T := TX5) (N := 13) hx hb hts iX5_turn_X5 hown hK.1 hP 0 rfl rfl 1 (by decide) (hts _ qX5_turn_7) (fun _ h9 => h9) rfl dX5_turn_33 ?_
      refine lv_iconst (v := (1 : Int32)) hx hb dX5_turn_36 (by decide) ?_
      refine lv_dup2_11 hx hb dX5_turn_37 rfl rfl ?_
      refine va_iald hx hb hK.1 hP 1 0 rfl rfl (z_inE (by decide)) dX5_turn_38 ?_
      refine lv_iload_n hx hb dX5_turn_39 rfl (lv_at hl 1 rfl) ?_
      refine lv_iadd hx hb dX5_turn_40 ?_
      refine va_iast hx hb hK.1 hP hD hS 1 0 rfl rfl (z_inE (by decide)) dX5_turn_41 (fun H locs hP hD hS => ?_)
      obtain ⟨g6, e6, hf⟩ := z_ltE hf
      have hP : va_P D vwCl (z_md c a g6) H := by rw [e6]; exact hP
      have hD : va_D A (z_md c a g6) := by rw [e6]; exact hD
      clear e6
      refine lv_aload_n hx hb dX5_turn_42 rfl (lv_at hl 0 rfl) ?_
      obtain ⟨r7, h7, hf⟩ := z_bE hf
      refine z_cVi (As := []) (rest := []) (wf := (z_md c a)) (g := g6) (u0 := g6) ⟨hx, hb, hml, hown, hts⟩ (kX5_comingBy l D c N a H.size g6  r7 h7) (cwV 0 hts gX5_turn_X5_comingBy rfl rfl rfl (by decide +kernel) ⟨Nat.le_of_ble_eq_true rfl, Nat.le_of_ble_eq_true rfl⟩) hP hK hD hS hA (ci := 5) (q0 := 0) rfl rfl rfl rfl hl.1 (Nat.le_of_ble_eq_true rfl) rfl dX5_turn_43 ⟨Nat.zero_le _, Nat.zero_le _⟩ (fun H locs hP hD hS => ?_)
      exact z_ri (wf := (z_md c a)) hx hb hr hlocks hP hD hS hf dX5_turn_46
    · have hf := z_ifF hf c4
      refine lv_iconst (v := (0 : Int32)) hx hb dX5_turn_26 (by decide) ?_
      exact z_ri (wf := (z_md c a)) hx hb hr hlocks hP hD hS hf dX5_turn_27
  · have hf := z_ifF hf c2
    refine lv_iconst (v := (0 : Int32)) hx hb dX5_turn_11 (by decide) ?_
    refine lv_goto (tgt := 16) hx hb dX5_turn_12 (by decide) ?_
    refine va_put (D := D) (ci := 5) (v := .int (0 : Int32)) (ty := .int) (C := RX5) (T := TX5) (N := 13) hx hb hts iX5_turn_X5 tyX5 tyX5_ok nmX5 hown hK.1 hP hD hS 0 rfl rfl 0 (by decide) (hts _ qX5_turn_37) (fun _ h9 => h9) rfl (by decide +kernel) rfl rfl (Nat.le_of_ble_eq_true rfl) dX5_turn_16 (fun H locs hP hD hS => ?_)
    obtain ⟨g8, e8, hf⟩ := z_ltE hf
    have hP : va_P D vwCl (z_md c a g8) H := by rw [e8]; exact hP
    have hD : va_D A (z_md c a g8) := by rw [e8]; exact hD
    clear e8
    refine lv_aload_n hx hb dX5_turn_19 rfl (lv_at hl 0 rfl) ?_
    refine va_get (D := D) (ci := 5) (v := .int (g8 0 0)) (C := RX5) (T := TX5) (N := 13) hx hb hts iX5_turn_X5 hown hK.1 hP 0 rfl rfl 0 (by decide) (hts _ qX5_turn_37) (fun _ h9 => h9) rfl dX5_turn_20 ?_
    refine lv_if_le (tgt := 28) hx hb dX5_turn_23 (by decide) (fun c9 => ?_) (fun c9 => ?_)
    · have hf := z_ifT hf c9
      refine lv_aload_n hx hb dX5_turn_28 rfl (lv_at hl 0 rfl) ?_
      obtain ⟨g10, h10, hf⟩ := z_bE hf
      refine z_cVv (As := []) (rest := []) (wf := (z_md c a)) (g := g8) (u0 := g10) ⟨hx, hb, hml, hown, hts⟩ (kX5_remember l D c N a H.size g8  g10 h10) (cwV 0 hts gX5_turn_X5_remember rfl rfl rfl (by decide +kernel) ⟨Nat.le_of_ble_eq_true rfl, Nat.le_of_ble_eq_true rfl⟩) hP hK hD hS hA (ci := 5) (q0 := 0) rfl rfl rfl rfl hl.1 (Nat.le_of_ble_eq_true rfl) rfl dX5_turn_29 ⟨Nat.zero_le _, Nat.zero_le _⟩ (fun H locs hP hD hS => ?_)
      refine lv_aload_n hx hb dX5_turn_32 rfl (lv_at hl 0 rfl) ?_
      refine va_get (D := D) (ci := 5) (v := .ref (a 1)) (C := RX5) (T := TX5) (N := 13) hx hb hts iX5_turn_X5 hown hK.1 hP 0 rfl rfl 1 (by decide) (hts _ qX5_turn_7) (fun _ h9 => h9) rfl dX5_turn_33 ?_
      refine lv_iconst (v := (1 : Int32)) hx hb dX5_turn_36 (by decide) ?_
      refine lv_dup2_11 hx hb dX5_turn_37 rfl rfl ?_
      refine va_iald hx hb hK.1 hP 1 0 rfl rfl (z_inE (by decide)) dX5_turn_38 ?_
      refine lv_iload_n hx hb dX5_turn_39 rfl (lv_at hl 1 rfl) ?_
      refine lv_iadd hx hb dX5_turn_40 ?_
      refine va_iast hx hb hK.1 hP hD hS 1 0 rfl rfl (z_inE (by decide)) dX5_turn_41 (fun H locs hP hD hS => ?_)
      obtain ⟨g11, e11, hf⟩ := z_ltE hf
      have hP : va_P D vwCl (z_md c a g11) H := by rw [e11]; exact hP
      have hD : va_D A (z_md c a g11) := by rw [e11]; exact hD
      clear e11
      refine lv_aload_n hx hb dX5_turn_42 rfl (lv_at hl 0 rfl) ?_
      obtain ⟨r12, h12, hf⟩ := z_bE hf
      refine z_cVi (As := []) (rest := []) (wf := (z_md c a)) (g := g11) (u0 := g11) ⟨hx, hb, hml, hown, hts⟩ (kX5_comingBy l D c N a H.size g11  r12 h12) (cwV 0 hts gX5_turn_X5_comingBy rfl rfl rfl (by decide +kernel) ⟨Nat.le_of_ble_eq_true rfl, Nat.le_of_ble_eq_true rfl⟩) hP hK hD hS hA (ci := 5) (q0 := 0) rfl rfl rfl rfl hl.1 (Nat.le_of_ble_eq_true rfl) rfl dX5_turn_43 ⟨Nat.zero_le _, Nat.zero_le _⟩ (fun H locs hP hD hS => ?_)
      exact z_ri (wf := (z_md c a)) hx hb hr hlocks hP hD hS hf dX5_turn_46
    · have hf := z_ifF hf c9
      refine lv_iconst (v := (0 : Int32)) hx hb dX5_turn_26 (by decide) ?_
      exact z_ri (wf := (z_md c a)) hx hb hr hlocks hP hD hS hf dX5_turn_27
abbrev rmX5_undo : Room := { frames := 1, cells := 0, slots := 0, locals := 24 }
theorem qX5_undo_73 : Cond.fieldLink RX5 73 "ProgramDrumModel" "remembered" "I" ∈ wsX5_undo := by decide +kernel
theorem iX5_undo_X5 : ∀ w ∈ wsX50, w ∈ wsX5_undo := by decide +kernel
theorem qX5_undo_37 : Cond.fieldLink RX5 37 "ProgramDrumModel" "thrown" "I" ∈ wsX5_undo := by decide +kernel
theorem qX5_undo_22 : Cond.fieldLink RX5 22 "ProgramDrumModel" "history" "[I" ∈ wsX5_undo := by decide +kernel
theorem qX5_undo_7 : Cond.fieldLink RX5 7 "ProgramDrumModel" "state" "[I" ∈ wsX5_undo := by decide +kernel
set_option maxRecDepth 100000 in
set_option maxHeartbeats 4000000 in
theorem kX5_undo (l : Launch) (D : va_G) (c : Nat → ClassId) (N : Nat) (a : Nat → Nat) (sz : Nat) (g : z_R) (r0 : Int32) (g0 : z_R) (hf : fX5_undo N g = some (r0, g0)) : Met l yX5_undo wsX5_undo rmX5_undo (z_Pc D c sz (z_md c a g) [.ref (a 0)]) (z_Qi D (z_md c a) r0 g0 (va_A (z_md c a g) sz)) 0 0 (va_A (z_md c a g) sz) := by
  refine z_ofM (cc := cX5_undo) (maxL := 1) (ret := (some .int)) (Qf := fun A => z_Qi D (z_md c a) r0 g0 A) (plainFor_of_name (by decide)) rfl (Nat.le_of_ble_eq_true rfl) ?_
  intro p e s m args below meth co A ls hx hb hr hml hts hown hlocks hnm hA hP hK hD hl hsz
  have hl : lv_has ls 1 [(0, .ref (a 0))] := hl
  have hown : s.vm.findClass RX5 = some m.cls := hown
  obtain ⟨H, hH⟩ : ∃ H, H = s.heap := ⟨_, rfl⟩
  have hS : va_S A s.heap H [] := by rw [hH]; exact va_S.rf
  rw [← hH] at hP ⊢
  clear hH
  unfold fX5_undo at hf
  generalize ([] : List Loc) = locs at hS ⊢
  refine lv_aload_n hx hb dX5_undo_0 rfl (lv_at hl 0 rfl) ?_
  refine lv_aload_n hx hb dX5_undo_1 rfl (lv_at hl 0 rfl) ?_
  refine va_get (D := D) (ci := 5) (v := .int (g 0 1)) (C := RX5) (T := TX5) (N := 13) hx hb hts iX5_undo_X5 hown hK.1 hP 0 rfl rfl 6 (by decide) (hts _ qX5_undo_73) (fun _ h9 => h9) rfl dX5_undo_2 ?_
  refine lv_if_le (tgt := 12) hx hb dX5_undo_5 (by decide) (fun c1 => ?_) (fun c1 => ?_)
  · have hf := z_ifT hf c1
    refine lv_iconst (v := (1 : Int32)) hx hb dX5_undo_12 (by decide) ?_
    refine va_put (D := D) (ci := 5) (v := .int (1 : Int32)) (ty := .int) (C := RX5) (T := TX5) (N := 13) hx hb hts iX5_undo_X5 tyX5 tyX5_ok nmX5 hown hK.1 hP hD hS 0 rfl rfl 0 (by decide) (hts _ qX5_undo_37) (fun _ h9 => h9) rfl (by decide +kernel) rfl rfl (Nat.le_of_ble_eq_true rfl) dX5_undo_13 (fun H locs hP hD hS => ?_)
    obtain ⟨g2, e2, hf⟩ := z_ltE hf
    have hP : va_P D vwCl (z_md c a g2) H := by rw [e2]; exact hP
    have hD : va_D A (z_md c a g2) := by rw [e2]; exact hD
    clear e2
    refine lv_aload_n hx hb dX5_undo_16 rfl (lv_at hl 0 rfl) ?_
    refine va_get (D := D) (ci := 5) (v := .int (g2 0 0)) (C := RX5) (T := TX5) (N := 13) hx hb hts iX5_undo_X5 hown hK.1 hP 0 rfl rfl 0 (by decide) (hts _ qX5_undo_37) (fun _ h9 => h9) rfl dX5_undo_17 ?_
    refine lv_if_le (tgt := 25) hx hb dX5_undo_20 (by decide) (fun c3 => ?_) (fun c3 => ?_)
    · have hf := z_ifT hf c3
      refine lv_aload_n hx hb dX5_undo_25 rfl (lv_at hl 0 rfl) ?_
      refine lv_dup hx hb dX5_undo_26 rfl ?_
      refine va_get (D := D) (ci := 5) (v := .int (g2 0 1)) (C := RX5) (T := TX5) (N := 13) hx hb hts iX5_undo_X5 hown hK.1 hP 0 rfl rfl 6 (by decide) (hts _ qX5_undo_73) (fun _ h9 => h9) rfl dX5_undo_27 ?_
      refine lv_iconst (v := (1 : Int32)) hx hb dX5_undo_30 (by decide) ?_
      refine lv_isub hx hb dX5_undo_31 ?_
      refine va_put (D := D) (ci := 5) (v := .int ((g2 0 1) - (1 : Int32))) (ty := .int) (C := RX5) (T := TX5) (N := 13) hx hb hts iX5_undo_X5 tyX5 tyX5_ok nmX5 hown hK.1 hP hD hS 0 rfl rfl 6 (by decide) (hts _ qX5_undo_73) (fun _ h9 => h9) rfl (by decide +kernel) rfl rfl (Nat.le_of_ble_eq_true rfl) dX5_undo_32 (fun H locs hP hD hS => ?_)
      obtain ⟨g4, e4, hf⟩ := z_ltE hf
      have hP : va_P D vwCl (z_md c a g4) H := by rw [e4]; exact hP
      have hD : va_D A (z_md c a g4) := by rw [e4]; exact hD
      clear e4
      refine lv_aload_n hx hb dX5_undo_35 rfl (lv_at hl 0 rfl) ?_
      refine va_get (D := D) (ci := 5) (v := .ref (a 5)) (C := RX5) (T := TX5) (N := 13) hx hb hts iX5_undo_X5 hown hK.1 hP 0 rfl rfl 5 (by decide) (hts _ qX5_undo_22) (fun _ h9 => h9) rfl dX5_undo_36 ?_
      refine lv_aload_n hx hb dX5_undo_39 rfl (lv_at hl 0 rfl) ?_
      refine va_get (D := D) (ci := 5) (v := .int (g4 0 1)) (C := RX5) (T := TX5) (N := 13) hx hb hts iX5_undo_X5 hown hK.1 hP 0 rfl rfl 6 (by decide) (hts _ qX5_undo_73) (fun _ h9 => h9) rfl dX5_undo_40 ?_
      refine lv_sipush (v := (925 : Int32)) hx hb dX5_undo_43 (by decide) ?_
      refine lv_imul hx hb dX5_undo_46 ?_
      refine lv_aload_n hx hb dX5_undo_47 rfl (lv_at hl 0 rfl) ?_
      refine va_get (D := D) (ci := 5) (v := .ref (a 1)) (C := RX5) (T := TX5) (N := 13) hx hb hts iX5_undo_X5 hown hK.1 hP 0 rfl rfl 1 (by decide) (hts _ qX5_undo_7) (fun _ h9 => h9) rfl dX5_undo_48 ?_
      refine lv_iconst (v := (0 : Int32)) hx hb dX5_undo_51 (by decide) ?_
      obtain ⟨u5, h5, hf⟩ := z_bE hf
      obtain ⟨g5, e5, hf⟩ := z_ltE hf
      refine z_cSvC (As := [.ref (a 5), .int ((g4 0 1) * (925 : Int32)), .ref (a 1), .int (0 : Int32)]) (rest := []) (V := (z_md c a g4)) (V' := (z_md c a g5)) (wf := (fun u : Nat → Int32 => z_cp c (a 5) (a 1) 12950 925 (g4 5) u)) (g := g4 1) (u0 := u5) ⟨hx, hb, hml, hown, hts⟩ (kX5_copy l D c N (a 5) (a 1) 12950 925 H.size  (g4 5) (g4 1) ((g4 0 1) * (925 : Int32)) (0 : Int32) u5 h5) (va_cwS 4 hts gX5_undo_X5_copy rfl rfl rfl (by decide +kernel) ⟨Nat.le_of_ble_eq_true rfl, Nat.le_of_ble_eq_true rfl⟩) hP hK hD hS hA [5, 1] [0, 2, 3, 4, 6, 7, 8, 9] [0, 9, 1, 2, 3, 8, 4, 5, 6, 7] rfl rfl (by decide) (by decide) (by decide) (by decide) rfl hl.1 (Nat.le_of_ble_eq_true rfl) rfl dX5_undo_52 ⟨Nat.zero_le _, Nat.zero_le _⟩ (by rw [e5]; rfl) (fun H locs hP hD hS => ?_)
      refine lv_aload_n hx hb dX5_undo_55 rfl (lv_at hl 0 rfl) ?_
      refine va_get (D := D) (ci := 5) (v := .int (g5 0 1)) (C := RX5) (T := TX5) (N := 13) hx hb hts iX5_undo_X5 hown hK.1 hP 0 rfl rfl 6 (by decide) (hts _ qX5_undo_73) (fun _ h9 => h9) rfl dX5_undo_56 ?_
      exact z_ri (wf := (z_md c a)) hx hb hr hlocks hP hD hS hf dX5_undo_59
    · have hf := z_ifF hf c3
      refine lv_iconst (v := (0 : Int32)) hx hb dX5_undo_23 (by decide) ?_
      exact z_ri (wf := (z_md c a)) hx hb hr hlocks hP hD hS hf dX5_undo_24
  · have hf := z_ifF hf c1
    refine lv_iconst (v := (0 : Int32)) hx hb dX5_undo_8 (by decide) ?_
    refine lv_goto (tgt := 13) hx hb dX5_undo_9 (by decide) ?_
    refine va_put (D := D) (ci := 5) (v := .int (0 : Int32)) (ty := .int) (C := RX5) (T := TX5) (N := 13) hx hb hts iX5_undo_X5 tyX5 tyX5_ok nmX5 hown hK.1 hP hD hS 0 rfl rfl 0 (by decide) (hts _ qX5_undo_37) (fun _ h9 => h9) rfl (by decide +kernel) rfl rfl (Nat.le_of_ble_eq_true rfl) dX5_undo_13 (fun H locs hP hD hS => ?_)
    obtain ⟨g6, e6, hf⟩ := z_ltE hf
    have hP : va_P D vwCl (z_md c a g6) H := by rw [e6]; exact hP
    have hD : va_D A (z_md c a g6) := by rw [e6]; exact hD
    clear e6
    refine lv_aload_n hx hb dX5_undo_16 rfl (lv_at hl 0 rfl) ?_
    refine va_get (D := D) (ci := 5) (v := .int (g6 0 0)) (C := RX5) (T := TX5) (N := 13) hx hb hts iX5_undo_X5 hown hK.1 hP 0 rfl rfl 0 (by decide) (hts _ qX5_undo_37) (fun _ h9 => h9) rfl dX5_undo_17 ?_
    refine lv_if_le (tgt := 25) hx hb dX5_undo_20 (by decide) (fun c7 => ?_) (fun c7 => ?_)
    · have hf := z_ifT hf c7
      refine lv_aload_n hx hb dX5_undo_25 rfl (lv_at hl 0 rfl) ?_
      refine lv_dup hx hb dX5_undo_26 rfl ?_
      refine va_get (D := D) (ci := 5) (v := .int (g6 0 1)) (C := RX5) (T := TX5) (N := 13) hx hb hts iX5_undo_X5 hown hK.1 hP 0 rfl rfl 6 (by decide) (hts _ qX5_undo_73) (fun _ h9 => h9) rfl dX5_undo_27 ?_
      refine lv_iconst (v := (1 : Int32)) hx hb dX5_undo_30 (by decide) ?_
      refine lv_isub hx hb dX5_undo_31 ?_
      refine va_put (D := D) (ci := 5) (v := .int ((g6 0 1) - (1 : Int32))) (ty := .int) (C := RX5) (T := TX5) (N := 13) hx hb hts iX5_undo_X5 tyX5 tyX5_ok nmX5 hown hK.1 hP hD hS 0 rfl rfl 6 (by decide) (hts _ qX5_undo_73) (fun _ h9 => h9) rfl (by decide +kernel) rfl rfl (Nat.le_of_ble_eq_true rfl) dX5_undo_32 (fun H locs hP hD hS => ?_)
      obtain ⟨g8, e8, hf⟩ := z_ltE hf
      have hP : va_P D vwCl (z_md c a g8) H := by rw [e8]; exact hP
      have hD : va_D A (z_md c a g8) := by rw [e8]; exact hD
      clear e8
      refine lv_aload_n hx hb dX5_undo_35 rfl (lv_at hl 0 rfl) ?_
      refine va_get (D := D) (ci := 5) (v := .ref (a 5)) (C := RX5) (T := TX5) (N := 13) hx hb hts iX5_undo_X5 hown hK.1 hP 0 rfl rfl 5 (by decide) (hts _ qX5_undo_22) (fun _ h9 => h9) rfl dX5_undo_36 ?_
      refine lv_aload_n hx hb dX5_undo_39 rfl (lv_at hl 0 rfl) ?_
      refine va_get (D := D) (ci := 5) (v := .int (g8 0 1)) (C := RX5) (T := TX5) (N := 13) hx hb hts iX5_undo_X5 hown hK.1 hP 0 rfl rfl 6 (by decide) (hts _ qX5_undo_73) (fun _ h9 => h9) rfl dX5_undo_40 ?_
      refine lv_sipush (v := (925 : Int32)) hx hb dX5_undo_43 (by decide) ?_
      refine lv_imul hx hb dX5_undo_46 ?_
      refine lv_aload_n hx hb dX5_undo_47 rfl (lv_at hl 0 rfl) ?_
      refine va_get (D := D) (ci := 5) (v := .ref (a 1)) (C := RX5) (T := TX5) (N := 13) hx hb hts iX5_undo_X5 hown hK.1 hP 0 rfl rfl 1 (by decide) (hts _ qX5_undo_7) (fun _ h9 => h9) rfl dX5_undo_48 ?_
      refine lv_iconst (v := (0 : Int32)) hx hb dX5_undo_51 (by decide) ?_
      obtain ⟨u9, h9, hf⟩ := z_bE hf
      obtain ⟨g9, e9, hf⟩ := z_ltE hf
      refine z_cSvC (As := [.ref (a 5), .int ((g8 0 1) * (925 : Int32)), .ref (a 1), .int (0 : Int32)]) (rest := []) (V := (z_md c a g8)) (V' := (z_md c a g9)) (wf := (fun u : Nat → Int32 => z_cp c (a 5) (a 1) 12950 925 (g8 5) u)) (g := g8 1) (u0 := u9) ⟨hx, hb, hml, hown, hts⟩ (kX5_copy l D c N (a 5) (a 1) 12950 925 H.size  (g8 5) (g8 1) ((g8 0 1) * (925 : Int32)) (0 : Int32) u9 h9) (va_cwS 4 hts gX5_undo_X5_copy rfl rfl rfl (by decide +kernel) ⟨Nat.le_of_ble_eq_true rfl, Nat.le_of_ble_eq_true rfl⟩) hP hK hD hS hA [5, 1] [0, 2, 3, 4, 6, 7, 8, 9] [0, 9, 1, 2, 3, 8, 4, 5, 6, 7] rfl rfl (by decide) (by decide) (by decide) (by decide) rfl hl.1 (Nat.le_of_ble_eq_true rfl) rfl dX5_undo_52 ⟨Nat.zero_le _, Nat.zero_le _⟩ (by rw [e9]; rfl) (fun H locs hP hD hS => ?_)
      refine lv_aload_n hx hb dX5_undo_55 rfl (lv_at hl 0 rfl) ?_
      refine va_get (D := D) (ci := 5) (v := .int (g9 0 1)) (C := RX5) (T := TX5) (N := 13) hx hb hts iX5_undo_X5 hown hK.1 hP 0 rfl rfl 6 (by decide) (hts _ qX5_undo_73) (fun _ h9 => h9) rfl dX5_undo_56 ?_
      exact z_ri (wf := (z_md c a)) hx hb hr hlocks hP hD hS hf dX5_undo_59
    · have hf := z_ifF hf c7
      refine lv_iconst (v := (0 : Int32)) hx hb dX5_undo_23 (by decide) ?_
      exact z_ri (wf := (z_md c a)) hx hb hr hlocks hP hD hS hf dX5_undo_24
abbrev rmX5_waits : Room := { frames := 2, cells := 0, slots := 0, locals := 44 }
theorem qX5_waits_37 : Cond.fieldLink RX5 37 "ProgramDrumModel" "thrown" "I" ∈ wsX5_waits := by decide +kernel
theorem iX5_waits_X5 : ∀ w ∈ wsX50, w ∈ wsX5_waits := by decide +kernel
set_option maxRecDepth 100000 in
set_option maxHeartbeats 4000000 in
theorem kX5_waits (l : Launch) (D : va_G) (c : Nat → ClassId) (N : Nat) (a : Nat → Nat) (sz : Nat) (g : z_R) (p1 : Int32) (r0 : Int32) (g0 : z_R) (hf : fX5_waits N p1 g = some (r0, g0)) : Met l yX5_waits wsX5_waits rmX5_waits (z_Pc D c sz (z_md c a g) [.ref (a 0), .int p1]) (z_Qi D (z_md c a) r0 g0 (va_A (z_md c a g) sz)) 0 0 (va_A (z_md c a g) sz) := by
  refine z_ofM (cc := cX5_waits) (maxL := 2) (ret := (some .int)) (Qf := fun A => z_Qi D (z_md c a) r0 g0 A) (plainFor_of_name (by decide)) rfl (Nat.le_of_ble_eq_true rfl) ?_
  intro p e s m args below meth co A ls hx hb hr hml hts hown hlocks hnm hA hP hK hD hl hsz
  have hl : lv_has ls 2 [(0, .ref (a 0)), (1, .int p1)] := hl
  have hown : s.vm.findClass RX5 = some m.cls := hown
  obtain ⟨H, hH⟩ : ∃ H, H = s.heap := ⟨_, rfl⟩
  have hS : va_S A s.heap H [] := by rw [hH]; exact va_S.rf
  rw [← hH] at hP ⊢
  clear hH
  unfold fX5_waits at hf
  generalize ([] : List Loc) = locs at hS ⊢
  refine lv_aload_n hx hb dX5_waits_0 rfl (lv_at hl 0 rfl) ?_
  refine lv_aload_n hx hb dX5_waits_1 rfl (lv_at hl 0 rfl) ?_
  refine lv_iload_n hx hb dX5_waits_2 rfl (lv_at hl 1 rfl) ?_
  obtain ⟨r1, h1, hf⟩ := z_bE hf
  refine z_cVi (As := [.int p1]) (rest := [.ref (a 0)]) (wf := (z_md c a)) (g := g) (u0 := g) ⟨hx, hb, hml, hown, hts⟩ (kX5_isOrder l D c N a H.size g p1 r1 h1) (cwV 1 hts gX5_waits_X5_isOrder rfl rfl rfl (by decide +kernel) ⟨Nat.le_of_ble_eq_true rfl, Nat.le_of_ble_eq_true rfl⟩) hP hK hD hS hA (ci := 5) (q0 := 0) rfl rfl rfl rfl hl.1 (Nat.le_of_ble_eq_true rfl) rfl dX5_waits_3 ⟨Nat.zero_le _, Nat.zero_le _⟩ (fun H locs hP hD hS => ?_)
  refine lv_if_eq (tgt := 13) hx hb dX5_waits_6 (by decide) (fun c2 => ?_) (fun c2 => ?_)
  · have hf := z_ifT hf c2
    refine lv_iconst (v := (1 : Int32)) hx hb dX5_waits_13 (by decide) ?_
    refine va_put (D := D) (ci := 5) (v := .int (1 : Int32)) (ty := .int) (C := RX5) (T := TX5) (N := 13) hx hb hts iX5_waits_X5 tyX5 tyX5_ok nmX5 hown hK.1 hP hD hS 0 rfl rfl 0 (by decide) (hts _ qX5_waits_37) (fun _ h9 => h9) rfl (by decide +kernel) rfl rfl (Nat.le_of_ble_eq_true rfl) dX5_waits_14 (fun H locs hP hD hS => ?_)
    obtain ⟨g3, e3, hf⟩ := z_ltE hf
    have hP : va_P D vwCl (z_md c a g3) H := by rw [e3]; exact hP
    have hD : va_D A (z_md c a g3) := by rw [e3]; exact hD
    clear e3
    refine lv_aload_n hx hb dX5_waits_17 rfl (lv_at hl 0 rfl) ?_
    refine va_get (D := D) (ci := 5) (v := .int (g3 0 0)) (C := RX5) (T := TX5) (N := 13) hx hb hts iX5_waits_X5 hown hK.1 hP 0 rfl rfl 0 (by decide) (hts _ qX5_waits_37) (fun _ h9 => h9) rfl dX5_waits_18 ?_
    refine lv_if_le (tgt := 26) hx hb dX5_waits_21 (by decide) (fun c4 => ?_) (fun c4 => ?_)
    · have hf := z_ifT hf c4
      refine lv_aload_n hx hb dX5_waits_26 rfl (lv_at hl 0 rfl) ?_
      refine lv_iload_n hx hb dX5_waits_27 rfl (lv_at hl 1 rfl) ?_
      refine lv_iconst (v := (5 : Int32)) hx hb dX5_waits_28 (by decide) ?_
      obtain ⟨r5, h5, hf⟩ := z_bE hf
      refine z_cVi (As := [.int p1, .int (5 : Int32)]) (rest := []) (wf := (z_md c a)) (g := g3) (u0 := g3) ⟨hx, hb, hml, hown, hts⟩ (kX5_part l D c N a H.size g3 p1 (5 : Int32) r5 h5) (cwV 2 hts gX5_waits_X5_part rfl rfl rfl (by decide +kernel) ⟨Nat.le_of_ble_eq_true rfl, Nat.le_of_ble_eq_true rfl⟩) hP hK hD hS hA (ci := 5) (q0 := 0) rfl rfl rfl rfl hl.1 (Nat.le_of_ble_eq_true rfl) rfl dX5_waits_29 ⟨Nat.zero_le _, Nat.zero_le _⟩ (fun H locs hP hD hS => ?_)
      refine lv_iconst (v := (-1 : Int32)) hx hb dX5_waits_32 (by decide) ?_
      refine lv_icmp_ne (tgt := 40) hx hb dX5_waits_33 (by decide) (fun c6 => ?_) (fun c6 => ?_)
      · have hf := z_ifF hf c6
        refine lv_aload_n hx hb dX5_waits_40 rfl (lv_at hl 0 rfl) ?_
        refine lv_iload_n hx hb dX5_waits_41 rfl (lv_at hl 1 rfl) ?_
        obtain ⟨r7, h7, hf⟩ := z_bE hf
        refine z_cVi (As := [.int p1]) (rest := []) (wf := (z_md c a)) (g := g3) (u0 := g3) ⟨hx, hb, hml, hown, hts⟩ (kX5_waitOf l D c N a H.size g3 p1 r7 h7) (cwV 1 hts gX5_waits_X5_waitOf rfl rfl rfl (by decide +kernel) ⟨Nat.le_of_ble_eq_true rfl, Nat.le_of_ble_eq_true rfl⟩) hP hK hD hS hA (ci := 5) (q0 := 0) rfl rfl rfl rfl hl.1 (Nat.le_of_ble_eq_true rfl) rfl dX5_waits_42 ⟨Nat.zero_le _, Nat.zero_le _⟩ (fun H locs hP hD hS => ?_)
        exact z_ri (wf := (z_md c a)) hx hb hr hlocks hP hD hS hf dX5_waits_45
      · have hf := z_ifT hf c6
        refine lv_iconst (v := (-1 : Int32)) hx hb dX5_waits_36 (by decide) ?_
        refine lv_goto (tgt := 45) hx hb dX5_waits_37 (by decide) ?_
        exact z_ri (wf := (z_md c a)) hx hb hr hlocks hP hD hS hf dX5_waits_45
    · have hf := z_ifF hf c4
      refine lv_iconst (v := (0 : Int32)) hx hb dX5_waits_24 (by decide) ?_
      exact z_ri (wf := (z_md c a)) hx hb hr hlocks hP hD hS hf dX5_waits_25
  · have hf := z_ifF hf c2
    refine lv_iconst (v := (0 : Int32)) hx hb dX5_waits_9 (by decide) ?_
    refine lv_goto (tgt := 14) hx hb dX5_waits_10 (by decide) ?_
    refine va_put (D := D) (ci := 5) (v := .int (0 : Int32)) (ty := .int) (C := RX5) (T := TX5) (N := 13) hx hb hts iX5_waits_X5 tyX5 tyX5_ok nmX5 hown hK.1 hP hD hS 0 rfl rfl 0 (by decide) (hts _ qX5_waits_37) (fun _ h9 => h9) rfl (by decide +kernel) rfl rfl (Nat.le_of_ble_eq_true rfl) dX5_waits_14 (fun H locs hP hD hS => ?_)
    obtain ⟨g8, e8, hf⟩ := z_ltE hf
    have hP : va_P D vwCl (z_md c a g8) H := by rw [e8]; exact hP
    have hD : va_D A (z_md c a g8) := by rw [e8]; exact hD
    clear e8
    refine lv_aload_n hx hb dX5_waits_17 rfl (lv_at hl 0 rfl) ?_
    refine va_get (D := D) (ci := 5) (v := .int (g8 0 0)) (C := RX5) (T := TX5) (N := 13) hx hb hts iX5_waits_X5 hown hK.1 hP 0 rfl rfl 0 (by decide) (hts _ qX5_waits_37) (fun _ h9 => h9) rfl dX5_waits_18 ?_
    refine lv_if_le (tgt := 26) hx hb dX5_waits_21 (by decide) (fun c9 => ?_) (fun c9 => ?_)
    · have hf := z_ifT hf c9
      refine lv_aload_n hx hb dX5_waits_26 rfl (lv_at hl 0 rfl) ?_
      refine lv_iload_n hx hb dX5_waits_27 rfl (lv_at hl 1 rfl) ?_
      refine lv_iconst (v := (5 : Int32)) hx hb dX5_waits_28 (by decide) ?_
      obtain ⟨r10, h10, hf⟩ := z_bE hf
      refine z_cVi (As := [.int p1, .int (5 : Int32)]) (rest := []) (wf := (z_md c a)) (g := g8) (u0 := g8) ⟨hx, hb, hml, hown, hts⟩ (kX5_part l D c N a H.size g8 p1 (5 : Int32) r10 h10) (cwV 2 hts gX5_waits_X5_part rfl rfl rfl (by decide +kernel) ⟨Nat.le_of_ble_eq_true rfl, Nat.le_of_ble_eq_true rfl⟩) hP hK hD hS hA (ci := 5) (q0 := 0) rfl rfl rfl rfl hl.1 (Nat.le_of_ble_eq_true rfl) rfl dX5_waits_29 ⟨Nat.zero_le _, Nat.zero_le _⟩ (fun H locs hP hD hS => ?_)
      refine lv_iconst (v := (-1 : Int32)) hx hb dX5_waits_32 (by decide) ?_
      refine lv_icmp_ne (tgt := 40) hx hb dX5_waits_33 (by decide) (fun c11 => ?_) (fun c11 => ?_)
      · have hf := z_ifF hf c11
        refine lv_aload_n hx hb dX5_waits_40 rfl (lv_at hl 0 rfl) ?_
        refine lv_iload_n hx hb dX5_waits_41 rfl (lv_at hl 1 rfl) ?_
        obtain ⟨r12, h12, hf⟩ := z_bE hf
        refine z_cVi (As := [.int p1]) (rest := []) (wf := (z_md c a)) (g := g8) (u0 := g8) ⟨hx, hb, hml, hown, hts⟩ (kX5_waitOf l D c N a H.size g8 p1 r12 h12) (cwV 1 hts gX5_waits_X5_waitOf rfl rfl rfl (by decide +kernel) ⟨Nat.le_of_ble_eq_true rfl, Nat.le_of_ble_eq_true rfl⟩) hP hK hD hS hA (ci := 5) (q0 := 0) rfl rfl rfl rfl hl.1 (Nat.le_of_ble_eq_true rfl) rfl dX5_waits_42 ⟨Nat.zero_le _, Nat.zero_le _⟩ (fun H locs hP hD hS => ?_)
        exact z_ri (wf := (z_md c a)) hx hb hr hlocks hP hD hS hf dX5_waits_45
      · have hf := z_ifT hf c11
        refine lv_iconst (v := (-1 : Int32)) hx hb dX5_waits_36 (by decide) ?_
        refine lv_goto (tgt := 45) hx hb dX5_waits_37 (by decide) ?_
        exact z_ri (wf := (z_md c a)) hx hb hr hlocks hP hD hS hf dX5_waits_45
    · have hf := z_ifF hf c9
      refine lv_iconst (v := (0 : Int32)) hx hb dX5_waits_24 (by decide) ?_
      exact z_ri (wf := (z_md c a)) hx hb hr hlocks hP hD hS hf dX5_waits_25
abbrev rmX5_ticksOf : Room := { frames := 4, cells := 0, slots := 0, locals := 93 }
theorem qX5_ticksOf_7 : Cond.fieldLink RX5 7 "ProgramDrumModel" "state" "[I" ∈ wsX5_ticksOf := by decide +kernel
theorem iX5_ticksOf_X5 : ∀ w ∈ wsX50, w ∈ wsX5_ticksOf := by decide +kernel
theorem qX5_ticksOf_13 : Cond.fieldLink RX5 13 "ProgramDrumModel" "kept" "[I" ∈ wsX5_ticksOf := by decide +kernel
theorem qX5_ticksOf_144 : Cond.fieldLink RX5 144 "ProgramDrumModel" "ended" "I" ∈ wsX5_ticksOf := by decide +kernel
set_option maxRecDepth 100000 in
set_option maxHeartbeats 4000000 in
theorem kX5_ticksOf (l : Launch) (D : va_G) (c : Nat → ClassId) (N : Nat) (a : Nat → Nat) (sz : Nat) (g : z_R) (p1 : Int32) (r0 : Int32) (g0 : z_R) (hf : fX5_ticksOf N p1 g = some (r0, g0)) : Met l yX5_ticksOf wsX5_ticksOf rmX5_ticksOf (z_Pc D c sz (z_md c a g) [.ref (a 0), .int p1]) (z_Qi D (z_md c a) r0 g0 (va_A (z_md c a g) sz)) 0 0 (va_A (z_md c a g) sz) := by
  refine z_ofM (cc := cX5_ticksOf) (maxL := 3) (ret := (some .int)) (Qf := fun A => z_Qi D (z_md c a) r0 g0 A) (plainFor_of_name (by decide)) rfl (Nat.le_of_ble_eq_true rfl) ?_
  intro p e s m args below meth co A ls hx hb hr hml hts hown hlocks hnm hA hP hK hD hl hsz
  have hl : lv_has ls 3 [(0, .ref (a 0)), (1, .int p1)] := hl
  have hown : s.vm.findClass RX5 = some m.cls := hown
  obtain ⟨H, hH⟩ : ∃ H, H = s.heap := ⟨_, rfl⟩
  have hS : va_S A s.heap H [] := by rw [hH]; exact va_S.rf
  rw [← hH] at hP ⊢
  clear hH
  unfold fX5_ticksOf at hf
  generalize ([] : List Loc) = locs at hS ⊢
  refine lv_aload_n hx hb dX5_ticksOf_0 rfl (lv_at hl 0 rfl) ?_
  refine va_get (D := D) (ci := 5) (v := .ref (a 1)) (C := RX5) (T := TX5) (N := 13) hx hb hts iX5_ticksOf_X5 hown hK.1 hP 0 rfl rfl 1 (by decide) (hts _ qX5_ticksOf_7) (fun _ h9 => h9) rfl dX5_ticksOf_1 ?_
  refine lv_iconst (v := (0 : Int32)) hx hb dX5_ticksOf_4 (by decide) ?_
  refine lv_aload_n hx hb dX5_ticksOf_5 rfl (lv_at hl 0 rfl) ?_
  refine va_get (D := D) (ci := 5) (v := .ref (a 2)) (C := RX5) (T := TX5) (N := 13) hx hb hts iX5_ticksOf_X5 hown hK.1 hP 0 rfl rfl 2 (by decide) (hts _ qX5_ticksOf_13) (fun _ h9 => h9) rfl dX5_ticksOf_6 ?_
  refine lv_iconst (v := (0 : Int32)) hx hb dX5_ticksOf_9 (by decide) ?_
  obtain ⟨u1, h1, hf⟩ := z_bE hf
  obtain ⟨g1, e1, hf⟩ := z_ltE hf
  refine z_cSvC (As := [.ref (a 1), .int (0 : Int32), .ref (a 2), .int (0 : Int32)]) (rest := []) (V := (z_md c a g)) (V' := (z_md c a g1)) (wf := (fun u : Nat → Int32 => z_cp c (a 1) (a 2) 925 925 (g 1) u)) (g := g 2) (u0 := u1) ⟨hx, hb, hml, hown, hts⟩ (kX5_copy l D c N (a 1) (a 2) 925 925 H.size  (g 1) (g 2) (0 : Int32) (0 : Int32) u1 h1) (va_cwS 4 hts gX5_ticksOf_X5_copy rfl rfl rfl (by decide +kernel) ⟨Nat.le_of_ble_eq_true rfl, Nat.le_of_ble_eq_true rfl⟩) hP hK hD hS hA [1, 2] [0, 3, 4, 5, 6, 7, 8, 9] [0, 8, 9, 1, 2, 3, 4, 5, 6, 7] rfl rfl (by decide) (by decide) (by decide) (by decide) rfl hl.1 (Nat.le_of_ble_eq_true rfl) rfl dX5_ticksOf_10 ⟨Nat.zero_le _, Nat.zero_le _⟩ (by rw [e1]; rfl) (fun H locs hP hD hS => ?_)
  refine lv_aload_n hx hb dX5_ticksOf_13 rfl (lv_at hl 0 rfl) ?_
  refine lv_iload_n hx hb dX5_ticksOf_14 rfl (lv_at hl 1 rfl) ?_
  obtain ⟨r2, g2, h2, hf⟩ := z_b2E hf
  refine z_cVi (As := [.int p1]) (rest := []) (wf := (z_md c a)) (g := g1) (u0 := g2) ⟨hx, hb, hml, hown, hts⟩ (kX5_runs l D c N a H.size g1 p1 r2 g2 h2) (cwV 1 hts gX5_ticksOf_X5_runs rfl rfl rfl (by decide +kernel) ⟨Nat.le_of_ble_eq_true rfl, Nat.le_of_ble_eq_true rfl⟩) hP hK hD hS hA (ci := 5) (q0 := 0) rfl rfl rfl rfl hl.1 (Nat.le_of_ble_eq_true rfl) rfl dX5_ticksOf_15 ⟨Nat.zero_le _, Nat.zero_le _⟩ (fun H locs hP hD hS => ?_)
  refine lv_pop hx hb dX5_ticksOf_18 rfl ?_
  refine lv_aload_n hx hb dX5_ticksOf_19 rfl (lv_at hl 0 rfl) ?_
  refine va_get (D := D) (ci := 5) (v := .ref (a 1)) (C := RX5) (T := TX5) (N := 13) hx hb hts iX5_ticksOf_X5 hown hK.1 hP 0 rfl rfl 1 (by decide) (hts _ qX5_ticksOf_7) (fun _ h9 => h9) rfl dX5_ticksOf_20 ?_
  refine lv_iconst (v := (1 : Int32)) hx hb dX5_ticksOf_23 (by decide) ?_
  refine va_iald hx hb hK.1 hP 1 0 rfl rfl (z_inE (by decide)) dX5_ticksOf_24 ?_
  refine lv_aload_n hx hb dX5_ticksOf_25 rfl (lv_at hl 0 rfl) ?_
  refine va_get (D := D) (ci := 5) (v := .ref (a 2)) (C := RX5) (T := TX5) (N := 13) hx hb hts iX5_ticksOf_X5 hown hK.1 hP 0 rfl rfl 2 (by decide) (hts _ qX5_ticksOf_13) (fun _ h9 => h9) rfl dX5_ticksOf_26 ?_
  refine lv_iconst (v := (1 : Int32)) hx hb dX5_ticksOf_29 (by decide) ?_
  refine va_iald hx hb hK.1 hP 2 0 rfl rfl (z_inE (by decide)) dX5_ticksOf_30 ?_
  refine lv_isub hx hb dX5_ticksOf_31 ?_
  refine lv_istore_n (lv' := [(2, .int ((g2 1 ((1 : Int32)).toNatClampNeg) - (g2 2 ((1 : Int32)).toNatClampNeg))), (0, .ref (a 0)), (1, .int p1)]) hx hb dX5_ticksOf_32 rfl hl (by decide) rfl (fun ls hl => ?_)
  refine lv_aload_n hx hb dX5_ticksOf_33 rfl (lv_at hl 1 rfl) ?_
  refine lv_aload_n hx hb dX5_ticksOf_34 rfl (lv_at hl 1 rfl) ?_
  refine va_get (D := D) (ci := 5) (v := .ref (a 1)) (C := RX5) (T := TX5) (N := 13) hx hb hts iX5_ticksOf_X5 hown hK.1 hP 0 rfl rfl 1 (by decide) (hts _ qX5_ticksOf_7) (fun _ h9 => h9) rfl dX5_ticksOf_35 ?_
  refine lv_iconst (v := (4 : Int32)) hx hb dX5_ticksOf_38 (by decide) ?_
  refine va_iald hx hb hK.1 hP 1 0 rfl rfl (z_inE (by decide)) dX5_ticksOf_39 ?_
  refine va_put (D := D) (ci := 5) (v := .int (g2 1 ((4 : Int32)).toNatClampNeg)) (ty := .int) (C := RX5) (T := TX5) (N := 13) hx hb hts iX5_ticksOf_X5 tyX5 tyX5_ok nmX5 hown hK.1 hP hD hS 0 rfl rfl 12 (by decide) (hts _ qX5_ticksOf_144) (fun _ h9 => h9) rfl (by decide +kernel) rfl rfl (Nat.le_of_ble_eq_true rfl) dX5_ticksOf_40 (fun H locs hP hD hS => ?_)
  obtain ⟨g3, e3, hf⟩ := z_ltE hf
  have hP : va_P D vwCl (z_md c a g3) H := by rw [e3]; exact hP
  have hD : va_D A (z_md c a g3) := by rw [e3]; exact hD
  clear e3
  refine lv_aload_n hx hb dX5_ticksOf_43 rfl (lv_at hl 1 rfl) ?_
  refine va_get (D := D) (ci := 5) (v := .ref (a 2)) (C := RX5) (T := TX5) (N := 13) hx hb hts iX5_ticksOf_X5 hown hK.1 hP 0 rfl rfl 2 (by decide) (hts _ qX5_ticksOf_13) (fun _ h9 => h9) rfl dX5_ticksOf_44 ?_
  refine lv_iconst (v := (0 : Int32)) hx hb dX5_ticksOf_47 (by decide) ?_
  refine lv_aload_n hx hb dX5_ticksOf_48 rfl (lv_at hl 1 rfl) ?_
  refine va_get (D := D) (ci := 5) (v := .ref (a 1)) (C := RX5) (T := TX5) (N := 13) hx hb hts iX5_ticksOf_X5 hown hK.1 hP 0 rfl rfl 1 (by decide) (hts _ qX5_ticksOf_7) (fun _ h9 => h9) rfl dX5_ticksOf_49 ?_
  refine lv_iconst (v := (0 : Int32)) hx hb dX5_ticksOf_52 (by decide) ?_
  obtain ⟨u4, h4, hf⟩ := z_bE hf
  obtain ⟨g4, e4, hf⟩ := z_ltE hf
  refine z_cSvC (As := [.ref (a 2), .int (0 : Int32), .ref (a 1), .int (0 : Int32)]) (rest := []) (V := (z_md c a g3)) (V' := (z_md c a g4)) (wf := (fun u : Nat → Int32 => z_cp c (a 2) (a 1) 925 925 (g3 2) u)) (g := g3 1) (u0 := u4) ⟨hx, hb, hml, hown, hts⟩ (kX5_copy l D c N (a 2) (a 1) 925 925 H.size  (g3 2) (g3 1) (0 : Int32) (0 : Int32) u4 h4) (va_cwS 4 hts gX5_ticksOf_X5_copy rfl rfl rfl (by decide +kernel) ⟨Nat.le_of_ble_eq_true rfl, Nat.le_of_ble_eq_true rfl⟩) hP hK hD hS hA [2, 1] [0, 3, 4, 5, 6, 7, 8, 9] [0, 9, 8, 1, 2, 3, 4, 5, 6, 7] rfl rfl (by decide) (by decide) (by decide) (by decide) rfl hl.1 (Nat.le_of_ble_eq_true rfl) rfl dX5_ticksOf_53 ⟨Nat.zero_le _, Nat.zero_le _⟩ (by rw [e4]; rfl) (fun H locs hP hD hS => ?_)
  refine lv_iload_n hx hb dX5_ticksOf_56 rfl (lv_at hl 0 rfl) ?_
  exact z_ri (wf := (z_md c a)) hx hb hr hlocks hP hD hS hf dX5_ticksOf_57
abbrev rmX5_time : Room := { frames := 5, cells := 0, slots := 0, locals := 115 }
theorem qX5_time_37 : Cond.fieldLink RX5 37 "ProgramDrumModel" "thrown" "I" ∈ wsX5_time := by decide +kernel
theorem iX5_time_X5 : ∀ w ∈ wsX50, w ∈ wsX5_time := by decide +kernel
set_option maxRecDepth 100000 in
set_option maxHeartbeats 4000000 in
theorem kX5_time (l : Launch) (D : va_G) (c : Nat → ClassId) (N : Nat) (a : Nat → Nat) (sz : Nat) (g : z_R) (p1 : Int32) (r0 : Int32) (g0 : z_R) (hf : fX5_time N p1 g = some (r0, g0)) : Met l yX5_time wsX5_time rmX5_time (z_Pc D c sz (z_md c a g) [.ref (a 0), .int p1]) (z_Qi D (z_md c a) r0 g0 (va_A (z_md c a g) sz)) 0 0 (va_A (z_md c a g) sz) := by
  refine z_ofM (cc := cX5_time) (maxL := 2) (ret := (some .int)) (Qf := fun A => z_Qi D (z_md c a) r0 g0 A) (plainFor_of_name (by decide)) rfl (Nat.le_of_ble_eq_true rfl) ?_
  intro p e s m args below meth co A ls hx hb hr hml hts hown hlocks hnm hA hP hK hD hl hsz
  have hl : lv_has ls 2 [(0, .ref (a 0)), (1, .int p1)] := hl
  have hown : s.vm.findClass RX5 = some m.cls := hown
  obtain ⟨H, hH⟩ : ∃ H, H = s.heap := ⟨_, rfl⟩
  have hS : va_S A s.heap H [] := by rw [hH]; exact va_S.rf
  rw [← hH] at hP ⊢
  clear hH
  unfold fX5_time at hf
  generalize ([] : List Loc) = locs at hS ⊢
  refine lv_aload_n hx hb dX5_time_0 rfl (lv_at hl 0 rfl) ?_
  refine lv_aload_n hx hb dX5_time_1 rfl (lv_at hl 0 rfl) ?_
  refine lv_iload_n hx hb dX5_time_2 rfl (lv_at hl 1 rfl) ?_
  obtain ⟨r1, h1, hf⟩ := z_bE hf
  refine z_cVi (As := [.int p1]) (rest := [.ref (a 0)]) (wf := (z_md c a)) (g := g) (u0 := g) ⟨hx, hb, hml, hown, hts⟩ (kX5_isOrder l D c N a H.size g p1 r1 h1) (cwV 1 hts gX5_time_X5_isOrder rfl rfl rfl (by decide +kernel) ⟨Nat.le_of_ble_eq_true rfl, Nat.le_of_ble_eq_true rfl⟩) hP hK hD hS hA (ci := 5) (q0 := 0) rfl rfl rfl rfl hl.1 (Nat.le_of_ble_eq_true rfl) rfl dX5_time_3 ⟨Nat.zero_le _, Nat.zero_le _⟩ (fun H locs hP hD hS => ?_)
  refine lv_if_eq (tgt := 13) hx hb dX5_time_6 (by decide) (fun c2 => ?_) (fun c2 => ?_)
  · have hf := z_ifT hf c2
    refine lv_iconst (v := (1 : Int32)) hx hb dX5_time_13 (by decide) ?_
    refine va_put (D := D) (ci := 5) (v := .int (1 : Int32)) (ty := .int) (C := RX5) (T := TX5) (N := 13) hx hb hts iX5_time_X5 tyX5 tyX5_ok nmX5 hown hK.1 hP hD hS 0 rfl rfl 0 (by decide) (hts _ qX5_time_37) (fun _ h9 => h9) rfl (by decide +kernel) rfl rfl (Nat.le_of_ble_eq_true rfl) dX5_time_14 (fun H locs hP hD hS => ?_)
    obtain ⟨g3, e3, hf⟩ := z_ltE hf
    have hP : va_P D vwCl (z_md c a g3) H := by rw [e3]; exact hP
    have hD : va_D A (z_md c a g3) := by rw [e3]; exact hD
    clear e3
    refine lv_aload_n hx hb dX5_time_17 rfl (lv_at hl 0 rfl) ?_
    refine va_get (D := D) (ci := 5) (v := .int (g3 0 0)) (C := RX5) (T := TX5) (N := 13) hx hb hts iX5_time_X5 hown hK.1 hP 0 rfl rfl 0 (by decide) (hts _ qX5_time_37) (fun _ h9 => h9) rfl dX5_time_18 ?_
    refine lv_if_le (tgt := 28) hx hb dX5_time_21 (by decide) (fun c4 => ?_) (fun c4 => ?_)
    · have hf := z_ifT hf c4
      refine lv_aload_n hx hb dX5_time_28 rfl (lv_at hl 0 rfl) ?_
      refine lv_iload_n hx hb dX5_time_29 rfl (lv_at hl 1 rfl) ?_
      obtain ⟨r5, g5, h5, hf⟩ := z_b2E hf
      refine z_cVi (As := [.int p1]) (rest := []) (wf := (z_md c a)) (g := g3) (u0 := g5) ⟨hx, hb, hml, hown, hts⟩ (kX5_ticksOf l D c N a H.size g3 p1 r5 g5 h5) (cwV 1 hts gX5_time_X5_ticksOf rfl rfl rfl (by decide +kernel) ⟨Nat.le_of_ble_eq_true rfl, Nat.le_of_ble_eq_true rfl⟩) hP hK hD hS hA (ci := 5) (q0 := 0) rfl rfl rfl rfl hl.1 (Nat.le_of_ble_eq_true rfl) rfl dX5_time_30 ⟨Nat.zero_le _, Nat.zero_le _⟩ (fun H locs hP hD hS => ?_)
      exact z_ri (wf := (z_md c a)) hx hb hr hlocks hP hD hS hf dX5_time_33
    · have hf := z_ifF hf c4
      refine lv_iconst (v := (0 : Int32)) hx hb dX5_time_24 (by decide) ?_
      refine lv_goto (tgt := 33) hx hb dX5_time_25 (by decide) ?_
      exact z_ri (wf := (z_md c a)) hx hb hr hlocks hP hD hS hf dX5_time_33
  · have hf := z_ifF hf c2
    refine lv_iconst (v := (0 : Int32)) hx hb dX5_time_9 (by decide) ?_
    refine lv_goto (tgt := 14) hx hb dX5_time_10 (by decide) ?_
    refine va_put (D := D) (ci := 5) (v := .int (0 : Int32)) (ty := .int) (C := RX5) (T := TX5) (N := 13) hx hb hts iX5_time_X5 tyX5 tyX5_ok nmX5 hown hK.1 hP hD hS 0 rfl rfl 0 (by decide) (hts _ qX5_time_37) (fun _ h9 => h9) rfl (by decide +kernel) rfl rfl (Nat.le_of_ble_eq_true rfl) dX5_time_14 (fun H locs hP hD hS => ?_)
    obtain ⟨g6, e6, hf⟩ := z_ltE hf
    have hP : va_P D vwCl (z_md c a g6) H := by rw [e6]; exact hP
    have hD : va_D A (z_md c a g6) := by rw [e6]; exact hD
    clear e6
    refine lv_aload_n hx hb dX5_time_17 rfl (lv_at hl 0 rfl) ?_
    refine va_get (D := D) (ci := 5) (v := .int (g6 0 0)) (C := RX5) (T := TX5) (N := 13) hx hb hts iX5_time_X5 hown hK.1 hP 0 rfl rfl 0 (by decide) (hts _ qX5_time_37) (fun _ h9 => h9) rfl dX5_time_18 ?_
    refine lv_if_le (tgt := 28) hx hb dX5_time_21 (by decide) (fun c7 => ?_) (fun c7 => ?_)
    · have hf := z_ifT hf c7
      refine lv_aload_n hx hb dX5_time_28 rfl (lv_at hl 0 rfl) ?_
      refine lv_iload_n hx hb dX5_time_29 rfl (lv_at hl 1 rfl) ?_
      obtain ⟨r8, g8, h8, hf⟩ := z_b2E hf
      refine z_cVi (As := [.int p1]) (rest := []) (wf := (z_md c a)) (g := g6) (u0 := g8) ⟨hx, hb, hml, hown, hts⟩ (kX5_ticksOf l D c N a H.size g6 p1 r8 g8 h8) (cwV 1 hts gX5_time_X5_ticksOf rfl rfl rfl (by decide +kernel) ⟨Nat.le_of_ble_eq_true rfl, Nat.le_of_ble_eq_true rfl⟩) hP hK hD hS hA (ci := 5) (q0 := 0) rfl rfl rfl rfl hl.1 (Nat.le_of_ble_eq_true rfl) rfl dX5_time_30 ⟨Nat.zero_le _, Nat.zero_le _⟩ (fun H locs hP hD hS => ?_)
      exact z_ri (wf := (z_md c a)) hx hb hr hlocks hP hD hS hf dX5_time_33
    · have hf := z_ifF hf c7
      refine lv_iconst (v := (0 : Int32)) hx hb dX5_time_24 (by decide) ?_
      refine lv_goto (tgt := 33) hx hb dX5_time_25 (by decide) ?_
      exact z_ri (wf := (z_md c a)) hx hb hr hlocks hP hD hS hf dX5_time_33
abbrev rmX5_bestPlace : Room := { frames := 5, cells := 0, slots := 0, locals := 115 }
theorem qX5_bestPlace_37 : Cond.fieldLink RX5 37 "ProgramDrumModel" "thrown" "I" ∈ wsX5_bestPlace := by decide +kernel
theorem iX5_bestPlace_X5 : ∀ w ∈ wsX50, w ∈ wsX5_bestPlace := by decide +kernel
theorem qX5_bestPlace_7 : Cond.fieldLink RX5 7 "ProgramDrumModel" "state" "[I" ∈ wsX5_bestPlace := by decide +kernel
set_option maxRecDepth 100000 in
set_option maxHeartbeats 4000000 in
theorem kX5_bestPlace (l : Launch) (D : va_G) (c : Nat → ClassId) (N : Nat) (a : Nat → Nat) (sz : Nat) (g : z_R) (p1 : Int32) (p2 : Int32) (r0 : Int32) (g0 : z_R) (hf : fX5_bestPlace N p1 p2 g = some (r0, g0)) : Met l yX5_bestPlace wsX5_bestPlace rmX5_bestPlace (z_Pc D c sz (z_md c a g) [.ref (a 0), .int p1, .int p2]) (z_Qi D (z_md c a) r0 g0 (va_A (z_md c a g) sz)) 0 0 (va_A (z_md c a g) sz) := by
  refine z_ofM (cc := cX5_bestPlace) (maxL := 10) (ret := (some .int)) (Qf := fun A => z_Qi D (z_md c a) r0 g0 A) (plainFor_of_name (by decide)) rfl (Nat.le_of_ble_eq_true rfl) ?_
  intro p e s m args below meth co A ls hx hb hr hml hts hown hlocks hnm hA hP hK hD hl hsz
  have hl : lv_has ls 10 [(0, .ref (a 0)), (1, .int p1), (2, .int p2)] := hl
  have hown : s.vm.findClass RX5 = some m.cls := hown
  obtain ⟨H, hH⟩ : ∃ H, H = s.heap := ⟨_, rfl⟩
  have hS : va_S A s.heap H [] := by rw [hH]; exact va_S.rf
  rw [← hH] at hP ⊢
  clear hH
  have L50 : ∀ (x1 : Int32) (x2 : Int32) (x3 : Int32) (fu : Nat) (x4 : Int32) (x5 : Int32) (x6 : Int32) (g : z_R), lX5_bestPlace_50 N x1 x2 x3 fu x4 x5 x6 g = some (r0, g0) → ∀ (H : Heap) (locs : List Loc) (ls : Array Slot), va_P D vwCl (z_md c a g) H → va_D A (z_md c a g) → va_S A s.heap H locs → lv_has ls 10 [(0, .ref (a 0)), (1, .int x1), (2, .int x2), (3, .int x3), (4, .int x4), (5, .int x5), (6, .int x6)] → W p l e rmX5_bestPlace s m args below meth co H locs 0 0 (MQ below (z_Qi D (z_md c a) r0 g0 A) args s 0 0 A) (F0 m 50 ls []) := by
    intro x1 x2 x3 fu
    induction fu with
    | zero =>
      intro x4 x5 x6 g hf
      have hf : (none : Option (Int32 × z_R)) = some _ := hf
      cases hf
    | succ fu ih =>
      intro x4 x5 x6 g hf H locs ls hP hD hS hl
      rw [lX5_bestPlace_50.eq_2] at hf
      refine lv_iload hx hb dX5_bestPlace_50 (lv_at hl 6 rfl) ?_
      refine lv_aload_n hx hb dX5_bestPlace_52 rfl (lv_at hl 0 rfl) ?_
      refine va_get (D := D) (ci := 5) (v := .ref (a 1)) (C := RX5) (T := TX5) (N := 13) hx hb hts iX5_bestPlace_X5 hown hK.1 hP 0 rfl rfl 1 (by decide) (hts _ qX5_bestPlace_7) (fun _ h9 => h9) rfl dX5_bestPlace_53 ?_
      refine lv_iconst (v := (0 : Int32)) hx hb dX5_bestPlace_56 (by decide) ?_
      refine va_iald hx hb hK.1 hP 1 0 rfl rfl (z_inE (by decide)) dX5_bestPlace_57 ?_
      refine lv_icmp_ge (tgt := 157) hx hb dX5_bestPlace_58 (by decide) (fun c6 => ?_) (fun c6 => ?_)
      · have hf := z_ifT hf c6
        refine lv_iload hx hb dX5_bestPlace_157 (lv_at hl 4 rfl) ?_
        exact z_ri (wf := (z_md c a)) hx hb hr hlocks hP hD hS hf dX5_bestPlace_159
      · have hf := z_ifF hf c6
        refine lv_aload_n hx hb dX5_bestPlace_61 rfl (lv_at hl 0 rfl) ?_
        refine lv_iload hx hb dX5_bestPlace_62 (lv_at hl 6 rfl) ?_
        obtain ⟨r7, h7, hf⟩ := z_bE hf
        refine z_cVi (As := [.int x6]) (rest := []) (wf := (z_md c a)) (g := g) (u0 := g) ⟨hx, hb, hml, hown, hts⟩ (kX5_standing l D c N a H.size g x6 r7 h7) (cwV 1 hts gX5_bestPlace_X5_standing rfl rfl rfl (by decide +kernel) ⟨Nat.le_of_ble_eq_true rfl, Nat.le_of_ble_eq_true rfl⟩) hP hK hD hS hA (ci := 5) (q0 := 0) rfl rfl rfl rfl hl.1 (Nat.le_of_ble_eq_true rfl) rfl dX5_bestPlace_64 ⟨Nat.zero_le _, Nat.zero_le _⟩ (fun H locs hP hD hS => ?_)
        refine lv_istore (lv' := [(7, .int r7), (0, .ref (a 0)), (1, .int x1), (2, .int x2), (3, .int x3), (4, .int x4), (5, .int x5), (6, .int x6)]) hx hb dX5_bestPlace_67 hl (by decide) rfl (fun ls hl => ?_)
        refine lv_iload hx hb dX5_bestPlace_69 (lv_at hl 0 rfl) ?_
        refine lv_iconst (v := (-1 : Int32)) hx hb dX5_bestPlace_71 (by decide) ?_
        refine lv_icmp_eq (tgt := 81) hx hb dX5_bestPlace_72 (by decide) (fun c8 => ?_) (fun c8 => ?_)
        · have hf := z_ifT hf c8
          refine lv_aload_n hx hb dX5_bestPlace_81 rfl (lv_at hl 1 rfl) ?_
          refine lv_iload_n hx hb dX5_bestPlace_82 rfl (lv_at hl 2 rfl) ?_
          refine lv_iconst (v := (5 : Int32)) hx hb dX5_bestPlace_83 (by decide) ?_
          refine lv_iload hx hb dX5_bestPlace_84 (lv_at hl 7 rfl) ?_
          obtain ⟨g9, h9, hf⟩ := z_bE hf
          refine z_cVv (As := [.int x1, .int (5 : Int32), .int x6]) (rest := []) (wf := (z_md c a)) (g := g) (u0 := g9) ⟨hx, hb, hml, hown, hts⟩ (kX5_setPart l D c N a H.size g x1 (5 : Int32) x6 g9 h9) (cwV 3 hts gX5_bestPlace_X5_setPart rfl rfl rfl (by decide +kernel) ⟨Nat.le_of_ble_eq_true rfl, Nat.le_of_ble_eq_true rfl⟩) hP hK hD hS hA (ci := 5) (q0 := 0) rfl rfl rfl rfl hl.1 (Nat.le_of_ble_eq_true rfl) rfl dX5_bestPlace_86 ⟨Nat.zero_le _, Nat.zero_le _⟩ (fun H locs hP hD hS => ?_)
          refine lv_aload_n hx hb dX5_bestPlace_89 rfl (lv_at hl 1 rfl) ?_
          refine lv_iload_n hx hb dX5_bestPlace_90 rfl (lv_at hl 3 rfl) ?_
          obtain ⟨r10, g10, h10, hf⟩ := z_b2E hf
          refine z_cVi (As := [.int x2]) (rest := []) (wf := (z_md c a)) (g := g9) (u0 := g10) ⟨hx, hb, hml, hown, hts⟩ (kX5_ticksOf l D c N a H.size g9 x2 r10 g10 h10) (cwV 1 hts gX5_bestPlace_X5_ticksOf rfl rfl rfl (by decide +kernel) ⟨Nat.le_of_ble_eq_true rfl, Nat.le_of_ble_eq_true rfl⟩) hP hK hD hS hA (ci := 5) (q0 := 0) rfl rfl rfl rfl hl.1 (Nat.le_of_ble_eq_true rfl) rfl dX5_bestPlace_91 ⟨Nat.zero_le _, Nat.zero_le _⟩ (fun H locs hP hD hS => ?_)
          refine lv_istore (lv' := [(8, .int r10), (7, .int r7), (0, .ref (a 0)), (1, .int x1), (2, .int x2), (3, .int x3), (4, .int x4), (5, .int x5), (6, .int x6)]) hx hb dX5_bestPlace_94 hl (by decide) rfl (fun ls hl => ?_)
          refine lv_aload_n hx hb dX5_bestPlace_96 rfl (lv_at hl 2 rfl) ?_
          refine lv_iload_n hx hb dX5_bestPlace_97 rfl (lv_at hl 3 rfl) ?_
          refine lv_iconst (v := (5 : Int32)) hx hb dX5_bestPlace_98 (by decide) ?_
          refine lv_iload_n hx hb dX5_bestPlace_99 rfl (lv_at hl 5 rfl) ?_
          obtain ⟨g11, h11, hf⟩ := z_bE hf
          refine z_cVv (As := [.int x1, .int (5 : Int32), .int x3]) (rest := []) (wf := (z_md c a)) (g := g10) (u0 := g11) ⟨hx, hb, hml, hown, hts⟩ (kX5_setPart l D c N a H.size g10 x1 (5 : Int32) x3 g11 h11) (cwV 3 hts gX5_bestPlace_X5_setPart rfl rfl rfl (by decide +kernel) ⟨Nat.le_of_ble_eq_true rfl, Nat.le_of_ble_eq_true rfl⟩) hP hK hD hS hA (ci := 5) (q0 := 0) rfl rfl rfl rfl hl.1 (Nat.le_of_ble_eq_true rfl) rfl dX5_bestPlace_100 ⟨Nat.zero_le _, Nat.zero_le _⟩ (fun H locs hP hD hS => ?_)
          refine lv_iload hx hb dX5_bestPlace_103 (lv_at hl 6 rfl) ?_
          refine lv_iconst (v := (-1 : Int32)) hx hb dX5_bestPlace_105 (by decide) ?_
          refine lv_icmp_eq (tgt := 116) hx hb dX5_bestPlace_106 (by decide) (fun c12 => ?_) (fun c12 => ?_)
          · have hf := z_ifT hf c12
            refine lv_iconst (v := (1 : Int32)) hx hb dX5_bestPlace_116 (by decide) ?_
            refine lv_goto (tgt := 121) hx hb dX5_bestPlace_117 (by decide) ?_
            refine lv_istore (lv' := [(9, .int (1 : Int32)), (8, .int r10), (7, .int r7), (0, .ref (a 0)), (1, .int x1), (2, .int x2), (3, .int x3), (4, .int x4), (5, .int x5), (6, .int x6)]) hx hb dX5_bestPlace_121 hl (by decide) rfl (fun ls hl => ?_)
            refine lv_iload hx hb dX5_bestPlace_123 (lv_at hl 0 rfl) ?_
            refine lv_if_eq (tgt := 133) hx hb dX5_bestPlace_125 (by decide) (fun c => absurd c (by decide)) (fun _ => ?_)
            refine lv_iload hx hb dX5_bestPlace_128 (lv_at hl 9 rfl) ?_
            refine lv_goto (tgt := 135) hx hb dX5_bestPlace_130 (by decide) ?_
            refine lv_istore (lv' := [(4, .int x6), (9, .int (1 : Int32)), (8, .int r10), (7, .int r7), (0, .ref (a 0)), (1, .int x1), (2, .int x2), (3, .int x3), (5, .int x5), (6, .int x6)]) hx hb dX5_bestPlace_135 hl (by decide) rfl (fun ls hl => ?_)
            refine lv_iload hx hb dX5_bestPlace_137 (lv_at hl 1 rfl) ?_
            refine lv_if_eq (tgt := 147) hx hb dX5_bestPlace_139 (by decide) (fun c => absurd c (by decide)) (fun _ => ?_)
            refine lv_iload hx hb dX5_bestPlace_142 (lv_at hl 2 rfl) ?_
            refine lv_goto (tgt := 149) hx hb dX5_bestPlace_144 (by decide) ?_
            refine lv_istore (lv' := [(5, .int r10), (4, .int x6), (9, .int (1 : Int32)), (8, .int r10), (7, .int r7), (0, .ref (a 0)), (1, .int x1), (2, .int x2), (3, .int x3), (6, .int x6)]) hx hb dX5_bestPlace_149 hl (by decide) rfl (fun ls hl => ?_)
            refine lv_iinc (v := (x6 + (1 : Int32))) (lv' := [(6, .int (x6 + (1 : Int32))), (5, .int r10), (4, .int x6), (9, .int (1 : Int32)), (8, .int r10), (7, .int r7), (0, .ref (a 0)), (1, .int x1), (2, .int x2), (3, .int x3)]) hx hb dX5_bestPlace_151 hl (k := 9) rfl rfl (by decide) rfl (fun ls hl => ?_)
            refine lv_goto (tgt := 50) hx hb dX5_bestPlace_154 (by decide) ?_
            exact ih _ _ _ _ hf H locs ls hP hD hS (lv_sub hl [6, 7, 8, 9, 2, 1, 0] rfl)
          · have hf := z_ifF hf c12
            refine lv_iload hx hb dX5_bestPlace_109 (lv_at hl 0 rfl) ?_
            refine lv_iload hx hb dX5_bestPlace_111 (lv_at hl 7 rfl) ?_
            refine lv_icmp_ge (tgt := 120) hx hb dX5_bestPlace_113 (by decide) (fun c13 => ?_) (fun c13 => ?_)
            · have hf := z_ifT hf c13
              refine lv_iconst (v := (0 : Int32)) hx hb dX5_bestPlace_120 (by decide) ?_
              refine lv_istore (lv' := [(9, .int (0 : Int32)), (8, .int r10), (7, .int r7), (0, .ref (a 0)), (1, .int x1), (2, .int x2), (3, .int x3), (4, .int x4), (5, .int x5), (6, .int x6)]) hx hb dX5_bestPlace_121 hl (by decide) rfl (fun ls hl => ?_)
              refine lv_iload hx hb dX5_bestPlace_123 (lv_at hl 0 rfl) ?_
              refine lv_if_eq (tgt := 133) hx hb dX5_bestPlace_125 (by decide) (fun _ => ?_) (fun c => absurd c (by decide))
              refine lv_iload hx hb dX5_bestPlace_133 (lv_at hl 7 rfl) ?_
              refine lv_istore (lv' := [(4, .int x4), (9, .int (0 : Int32)), (8, .int r10), (7, .int r7), (0, .ref (a 0)), (1, .int x1), (2, .int x2), (3, .int x3), (5, .int x5), (6, .int x6)]) hx hb dX5_bestPlace_135 hl (by decide) rfl (fun ls hl => ?_)
              refine lv_iload hx hb dX5_bestPlace_137 (lv_at hl 1 rfl) ?_
              refine lv_if_eq (tgt := 147) hx hb dX5_bestPlace_139 (by decide) (fun _ => ?_) (fun c => absurd c (by decide))
              refine lv_iload hx hb dX5_bestPlace_147 (lv_at hl 8 rfl) ?_
              refine lv_istore (lv' := [(5, .int x5), (4, .int x4), (9, .int (0 : Int32)), (8, .int r10), (7, .int r7), (0, .ref (a 0)), (1, .int x1), (2, .int x2), (3, .int x3), (6, .int x6)]) hx hb dX5_bestPlace_149 hl (by decide) rfl (fun ls hl => ?_)
              refine lv_iinc (v := (x6 + (1 : Int32))) (lv' := [(6, .int (x6 + (1 : Int32))), (5, .int x5), (4, .int x4), (9, .int (0 : Int32)), (8, .int r10), (7, .int r7), (0, .ref (a 0)), (1, .int x1), (2, .int x2), (3, .int x3)]) hx hb dX5_bestPlace_151 hl (k := 9) rfl rfl (by decide) rfl (fun ls hl => ?_)
              refine lv_goto (tgt := 50) hx hb dX5_bestPlace_154 (by decide) ?_
              exact ih _ _ _ _ hf H locs ls hP hD hS (lv_sub hl [6, 7, 8, 9, 2, 1, 0] rfl)
            · have hf := z_ifF hf c13
              refine lv_iconst (v := (1 : Int32)) hx hb dX5_bestPlace_116 (by decide) ?_
              refine lv_goto (tgt := 121) hx hb dX5_bestPlace_117 (by decide) ?_
              refine lv_istore (lv' := [(9, .int (1 : Int32)), (8, .int r10), (7, .int r7), (0, .ref (a 0)), (1, .int x1), (2, .int x2), (3, .int x3), (4, .int x4), (5, .int x5), (6, .int x6)]) hx hb dX5_bestPlace_121 hl (by decide) rfl (fun ls hl => ?_)
              refine lv_iload hx hb dX5_bestPlace_123 (lv_at hl 0 rfl) ?_
              refine lv_if_eq (tgt := 133) hx hb dX5_bestPlace_125 (by decide) (fun c => absurd c (by decide)) (fun _ => ?_)
              refine lv_iload hx hb dX5_bestPlace_128 (lv_at hl 9 rfl) ?_
              refine lv_goto (tgt := 135) hx hb dX5_bestPlace_130 (by decide) ?_
              refine lv_istore (lv' := [(4, .int x6), (9, .int (1 : Int32)), (8, .int r10), (7, .int r7), (0, .ref (a 0)), (1, .int x1), (2, .int x2), (3, .int x3), (5, .int x5), (6, .int x6)]) hx hb dX5_bestPlace_135 hl (by decide) rfl (fun ls hl => ?_)
              refine lv_iload hx hb dX5_bestPlace_137 (lv_at hl 1 rfl) ?_
              refine lv_if_eq (tgt := 147) hx hb dX5_bestPlace_139 (by decide) (fun c => absurd c (by decide)) (fun _ => ?_)
              refine lv_iload hx hb dX5_bestPlace_142 (lv_at hl 2 rfl) ?_
              refine lv_goto (tgt := 149) hx hb dX5_bestPlace_144 (by decide) ?_
              refine lv_istore (lv' := [(5, .int r10), (4, .int x6), (9, .int (1 : Int32)), (8, .int r10), (7, .int r7), (0, .ref (a 0)), (1, .int x1), (2, .int x2), (3, .int x3), (6, .int x6)]) hx hb dX5_bestPlace_149 hl (by decide) rfl (fun ls hl => ?_)
              refine lv_iinc (v := (x6 + (1 : Int32))) (lv' := [(6, .int (x6 + (1 : Int32))), (5, .int r10), (4, .int x6), (9, .int (1 : Int32)), (8, .int r10), (7, .int r7), (0, .ref (a 0)), (1, .int x1), (2, .int x2), (3, .int x3)]) hx hb dX5_bestPlace_151 hl (k := 9) rfl rfl (by decide) rfl (fun ls hl => ?_)
              refine lv_goto (tgt := 50) hx hb dX5_bestPlace_154 (by decide) ?_
              exact ih _ _ _ _ hf H locs ls hP hD hS (lv_sub hl [6, 7, 8, 9, 2, 1, 0] rfl)
        · have hf := z_ifF hf c8
          refine lv_iload hx hb dX5_bestPlace_75 (lv_at hl 7 rfl) ?_
          refine lv_iload_n hx hb dX5_bestPlace_77 rfl (lv_at hl 4 rfl) ?_
          refine lv_icmp_ne (tgt := 151) hx hb dX5_bestPlace_78 (by decide) (fun c14 => ?_) (fun c14 => ?_)
          · have hf := z_ifF hf c14
            refine lv_iinc (v := (x6 + (1 : Int32))) (lv' := [(6, .int (x6 + (1 : Int32))), (7, .int r7), (0, .ref (a 0)), (1, .int x1), (2, .int x2), (3, .int x3), (4, .int x4), (5, .int x5)]) hx hb dX5_bestPlace_151 hl (k := 7) rfl rfl (by decide) rfl (fun ls hl => ?_)
            refine lv_goto (tgt := 50) hx hb dX5_bestPlace_154 (by decide) ?_
            exact ih _ _ _ _ hf H locs ls hP hD hS (lv_sub hl [2, 3, 4, 5, 6, 7, 0] rfl)
          · have hf := z_ifT hf c14
            refine lv_aload_n hx hb dX5_bestPlace_81 rfl (lv_at hl 1 rfl) ?_
            refine lv_iload_n hx hb dX5_bestPlace_82 rfl (lv_at hl 2 rfl) ?_
            refine lv_iconst (v := (5 : Int32)) hx hb dX5_bestPlace_83 (by decide) ?_
            refine lv_iload hx hb dX5_bestPlace_84 (lv_at hl 7 rfl) ?_
            obtain ⟨g15, h15, hf⟩ := z_bE hf
            refine z_cVv (As := [.int x1, .int (5 : Int32), .int x6]) (rest := []) (wf := (z_md c a)) (g := g) (u0 := g15) ⟨hx, hb, hml, hown, hts⟩ (kX5_setPart l D c N a H.size g x1 (5 : Int32) x6 g15 h15) (cwV 3 hts gX5_bestPlace_X5_setPart rfl rfl rfl (by decide +kernel) ⟨Nat.le_of_ble_eq_true rfl, Nat.le_of_ble_eq_true rfl⟩) hP hK hD hS hA (ci := 5) (q0 := 0) rfl rfl rfl rfl hl.1 (Nat.le_of_ble_eq_true rfl) rfl dX5_bestPlace_86 ⟨Nat.zero_le _, Nat.zero_le _⟩ (fun H locs hP hD hS => ?_)
            refine lv_aload_n hx hb dX5_bestPlace_89 rfl (lv_at hl 1 rfl) ?_
            refine lv_iload_n hx hb dX5_bestPlace_90 rfl (lv_at hl 3 rfl) ?_
            obtain ⟨r16, g16, h16, hf⟩ := z_b2E hf
            refine z_cVi (As := [.int x2]) (rest := []) (wf := (z_md c a)) (g := g15) (u0 := g16) ⟨hx, hb, hml, hown, hts⟩ (kX5_ticksOf l D c N a H.size g15 x2 r16 g16 h16) (cwV 1 hts gX5_bestPlace_X5_ticksOf rfl rfl rfl (by decide +kernel) ⟨Nat.le_of_ble_eq_true rfl, Nat.le_of_ble_eq_true rfl⟩) hP hK hD hS hA (ci := 5) (q0 := 0) rfl rfl rfl rfl hl.1 (Nat.le_of_ble_eq_true rfl) rfl dX5_bestPlace_91 ⟨Nat.zero_le _, Nat.zero_le _⟩ (fun H locs hP hD hS => ?_)
            refine lv_istore (lv' := [(8, .int r16), (7, .int r7), (0, .ref (a 0)), (1, .int x1), (2, .int x2), (3, .int x3), (4, .int x4), (5, .int x5), (6, .int x6)]) hx hb dX5_bestPlace_94 hl (by decide) rfl (fun ls hl => ?_)
            refine lv_aload_n hx hb dX5_bestPlace_96 rfl (lv_at hl 2 rfl) ?_
            refine lv_iload_n hx hb dX5_bestPlace_97 rfl (lv_at hl 3 rfl) ?_
            refine lv_iconst (v := (5 : Int32)) hx hb dX5_bestPlace_98 (by decide) ?_
            refine lv_iload_n hx hb dX5_bestPlace_99 rfl (lv_at hl 5 rfl) ?_
            obtain ⟨g17, h17, hf⟩ := z_bE hf
            refine z_cVv (As := [.int x1, .int (5 : Int32), .int x3]) (rest := []) (wf := (z_md c a)) (g := g16) (u0 := g17) ⟨hx, hb, hml, hown, hts⟩ (kX5_setPart l D c N a H.size g16 x1 (5 : Int32) x3 g17 h17) (cwV 3 hts gX5_bestPlace_X5_setPart rfl rfl rfl (by decide +kernel) ⟨Nat.le_of_ble_eq_true rfl, Nat.le_of_ble_eq_true rfl⟩) hP hK hD hS hA (ci := 5) (q0 := 0) rfl rfl rfl rfl hl.1 (Nat.le_of_ble_eq_true rfl) rfl dX5_bestPlace_100 ⟨Nat.zero_le _, Nat.zero_le _⟩ (fun H locs hP hD hS => ?_)
            refine lv_iload hx hb dX5_bestPlace_103 (lv_at hl 6 rfl) ?_
            refine lv_iconst (v := (-1 : Int32)) hx hb dX5_bestPlace_105 (by decide) ?_
            refine lv_icmp_eq (tgt := 116) hx hb dX5_bestPlace_106 (by decide) (fun c18 => ?_) (fun c18 => ?_)
            · have hf := z_ifT hf c18
              refine lv_iconst (v := (1 : Int32)) hx hb dX5_bestPlace_116 (by decide) ?_
              refine lv_goto (tgt := 121) hx hb dX5_bestPlace_117 (by decide) ?_
              refine lv_istore (lv' := [(9, .int (1 : Int32)), (8, .int r16), (7, .int r7), (0, .ref (a 0)), (1, .int x1), (2, .int x2), (3, .int x3), (4, .int x4), (5, .int x5), (6, .int x6)]) hx hb dX5_bestPlace_121 hl (by decide) rfl (fun ls hl => ?_)
              refine lv_iload hx hb dX5_bestPlace_123 (lv_at hl 0 rfl) ?_
              refine lv_if_eq (tgt := 133) hx hb dX5_bestPlace_125 (by decide) (fun c => absurd c (by decide)) (fun _ => ?_)
              refine lv_iload hx hb dX5_bestPlace_128 (lv_at hl 9 rfl) ?_
              refine lv_goto (tgt := 135) hx hb dX5_bestPlace_130 (by decide) ?_
              refine lv_istore (lv' := [(4, .int x6), (9, .int (1 : Int32)), (8, .int r16), (7, .int r7), (0, .ref (a 0)), (1, .int x1), (2, .int x2), (3, .int x3), (5, .int x5), (6, .int x6)]) hx hb dX5_bestPlace_135 hl (by decide) rfl (fun ls hl => ?_)
              refine lv_iload hx hb dX5_bestPlace_137 (lv_at hl 1 rfl) ?_
              refine lv_if_eq (tgt := 147) hx hb dX5_bestPlace_139 (by decide) (fun c => absurd c (by decide)) (fun _ => ?_)
              refine lv_iload hx hb dX5_bestPlace_142 (lv_at hl 2 rfl) ?_
              refine lv_goto (tgt := 149) hx hb dX5_bestPlace_144 (by decide) ?_
              refine lv_istore (lv' := [(5, .int r16), (4, .int x6), (9, .int (1 : Int32)), (8, .int r16), (7, .int r7), (0, .ref (a 0)), (1, .int x1), (2, .int x2), (3, .int x3), (6, .int x6)]) hx hb dX5_bestPlace_149 hl (by decide) rfl (fun ls hl => ?_)
              refine lv_iinc (v := (x6 + (1 : Int32))) (lv' := [(6, .int (x6 + (1 : Int32))), (5, .int r16), (4, .int x6), (9, .int (1 : Int32)), (8, .int r16), (7, .int r7), (0, .ref (a 0)), (1, .int x1), (2, .int x2), (3, .int x3)]) hx hb dX5_bestPlace_151 hl (k := 9) rfl rfl (by decide) rfl (fun ls hl => ?_)
              refine lv_goto (tgt := 50) hx hb dX5_bestPlace_154 (by decide) ?_
              exact ih _ _ _ _ hf H locs ls hP hD hS (lv_sub hl [6, 7, 8, 9, 2, 1, 0] rfl)
            · have hf := z_ifF hf c18
              refine lv_iload hx hb dX5_bestPlace_109 (lv_at hl 0 rfl) ?_
              refine lv_iload hx hb dX5_bestPlace_111 (lv_at hl 7 rfl) ?_
              refine lv_icmp_ge (tgt := 120) hx hb dX5_bestPlace_113 (by decide) (fun c19 => ?_) (fun c19 => ?_)
              · have hf := z_ifT hf c19
                refine lv_iconst (v := (0 : Int32)) hx hb dX5_bestPlace_120 (by decide) ?_
                refine lv_istore (lv' := [(9, .int (0 : Int32)), (8, .int r16), (7, .int r7), (0, .ref (a 0)), (1, .int x1), (2, .int x2), (3, .int x3), (4, .int x4), (5, .int x5), (6, .int x6)]) hx hb dX5_bestPlace_121 hl (by decide) rfl (fun ls hl => ?_)
                refine lv_iload hx hb dX5_bestPlace_123 (lv_at hl 0 rfl) ?_
                refine lv_if_eq (tgt := 133) hx hb dX5_bestPlace_125 (by decide) (fun _ => ?_) (fun c => absurd c (by decide))
                refine lv_iload hx hb dX5_bestPlace_133 (lv_at hl 7 rfl) ?_
                refine lv_istore (lv' := [(4, .int x4), (9, .int (0 : Int32)), (8, .int r16), (7, .int r7), (0, .ref (a 0)), (1, .int x1), (2, .int x2), (3, .int x3), (5, .int x5), (6, .int x6)]) hx hb dX5_bestPlace_135 hl (by decide) rfl (fun ls hl => ?_)
                refine lv_iload hx hb dX5_bestPlace_137 (lv_at hl 1 rfl) ?_
                refine lv_if_eq (tgt := 147) hx hb dX5_bestPlace_139 (by decide) (fun _ => ?_) (fun c => absurd c (by decide))
                refine lv_iload hx hb dX5_bestPlace_147 (lv_at hl 8 rfl) ?_
                refine lv_istore (lv' := [(5, .int x5), (4, .int x4), (9, .int (0 : Int32)), (8, .int r16), (7, .int r7), (0, .ref (a 0)), (1, .int x1), (2, .int x2), (3, .int x3), (6, .int x6)]) hx hb dX5_bestPlace_149 hl (by decide) rfl (fun ls hl => ?_)
                refine lv_iinc (v := (x6 + (1 : Int32))) (lv' := [(6, .int (x6 + (1 : Int32))), (5, .int x5), (4, .int x4), (9, .int (0 : Int32)), (8, .int r16), (7, .int r7), (0, .ref (a 0)), (1, .int x1), (2, .int x2), (3, .int x3)]) hx hb dX5_bestPlace_151 hl (k := 9) rfl rfl (by decide) rfl (fun ls hl => ?_)
                refine lv_goto (tgt := 50) hx hb dX5_bestPlace_154 (by decide) ?_
                exact ih _ _ _ _ hf H locs ls hP hD hS (lv_sub hl [6, 7, 8, 9, 2, 1, 0] rfl)
              · have hf := z_ifF hf c19
                refine lv_iconst (v := (1 : Int32)) hx hb dX5_bestPlace_116 (by decide) ?_
                refine lv_goto (tgt := 121) hx hb dX5_bestPlace_117 (by decide) ?_
                refine lv_istore (lv' := [(9, .int (1 : Int32)), (8, .int r16), (7, .int r7), (0, .ref (a 0)), (1, .int x1), (2, .int x2), (3, .int x3), (4, .int x4), (5, .int x5), (6, .int x6)]) hx hb dX5_bestPlace_121 hl (by decide) rfl (fun ls hl => ?_)
                refine lv_iload hx hb dX5_bestPlace_123 (lv_at hl 0 rfl) ?_
                refine lv_if_eq (tgt := 133) hx hb dX5_bestPlace_125 (by decide) (fun c => absurd c (by decide)) (fun _ => ?_)
                refine lv_iload hx hb dX5_bestPlace_128 (lv_at hl 9 rfl) ?_
                refine lv_goto (tgt := 135) hx hb dX5_bestPlace_130 (by decide) ?_
                refine lv_istore (lv' := [(4, .int x6), (9, .int (1 : Int32)), (8, .int r16), (7, .int r7), (0, .ref (a 0)), (1, .int x1), (2, .int x2), (3, .int x3), (5, .int x5), (6, .int x6)]) hx hb dX5_bestPlace_135 hl (by decide) rfl (fun ls hl => ?_)
                refine lv_iload hx hb dX5_bestPlace_137 (lv_at hl 1 rfl) ?_
                refine lv_if_eq (tgt := 147) hx hb dX5_bestPlace_139 (by decide) (fun c => absurd c (by decide)) (fun _ => ?_)
                refine lv_iload hx hb dX5_bestPlace_142 (lv_at hl 2 rfl) ?_
                refine lv_goto (tgt := 149) hx hb dX5_bestPlace_144 (by decide) ?_
                refine lv_istore (lv' := [(5, .int r16), (4, .int x6), (9, .int (1 : Int32)), (8, .int r16), (7, .int r7), (0, .ref (a 0)), (1, .int x1), (2, .int x2), (3, .int x3), (6, .int x6)]) hx hb dX5_bestPlace_149 hl (by decide) rfl (fun ls hl => ?_)
                refine lv_iinc (v := (x6 + (1 : Int32))) (lv' := [(6, .int (x6 + (1 : Int32))), (5, .int r16), (4, .int x6), (9, .int (1 : Int32)), (8, .int r16), (7, .int r7), (0, .ref (a 0)), (1, .int x1), (2, .int x2), (3, .int x3)]) hx hb dX5_bestPlace_151 hl (k := 9) rfl rfl (by decide) rfl (fun ls hl => ?_)
                refine lv_goto (tgt := 50) hx hb dX5_bestPlace_154 (by decide) ?_
                exact ih _ _ _ _ hf H locs ls hP hD hS (lv_sub hl [6, 7, 8, 9, 2, 1, 0] rfl)
  unfold fX5_bestPlace at hf
  generalize ([] : List Loc) = locs at hS ⊢
  refine lv_aload_n hx hb dX5_bestPlace_0 rfl (lv_at hl 0 rfl) ?_
  refine lv_aload_n hx hb dX5_bestPlace_1 rfl (lv_at hl 0 rfl) ?_
  refine lv_iload_n hx hb dX5_bestPlace_2 rfl (lv_at hl 1 rfl) ?_
  obtain ⟨r1, h1, hf⟩ := z_bE hf
  refine z_cVi (As := [.int p1]) (rest := [.ref (a 0)]) (wf := (z_md c a)) (g := g) (u0 := g) ⟨hx, hb, hml, hown, hts⟩ (kX5_isOrder l D c N a H.size g p1 r1 h1) (cwV 1 hts gX5_bestPlace_X5_isOrder rfl rfl rfl (by decide +kernel) ⟨Nat.le_of_ble_eq_true rfl, Nat.le_of_ble_eq_true rfl⟩) hP hK hD hS hA (ci := 5) (q0 := 0) rfl rfl rfl rfl hl.1 (Nat.le_of_ble_eq_true rfl) rfl dX5_bestPlace_3 ⟨Nat.zero_le _, Nat.zero_le _⟩ (fun H locs hP hD hS => ?_)
  refine lv_if_eq (tgt := 21) hx hb dX5_bestPlace_6 (by decide) (fun c2 => ?_) (fun c2 => ?_)
  · have hf := z_ifT hf c2
    refine lv_iconst (v := (1 : Int32)) hx hb dX5_bestPlace_21 (by decide) ?_
    refine va_put (D := D) (ci := 5) (v := .int (1 : Int32)) (ty := .int) (C := RX5) (T := TX5) (N := 13) hx hb hts iX5_bestPlace_X5 tyX5 tyX5_ok nmX5 hown hK.1 hP hD hS 0 rfl rfl 0 (by decide) (hts _ qX5_bestPlace_37) (fun _ h9 => h9) rfl (by decide +kernel) rfl rfl (Nat.le_of_ble_eq_true rfl) dX5_bestPlace_22 (fun H locs hP hD hS => ?_)
    obtain ⟨g3, e3, hf⟩ := z_ltE hf
    have hP : va_P D vwCl (z_md c a g3) H := by rw [e3]; exact hP
    have hD : va_D A (z_md c a g3) := by rw [e3]; exact hD
    clear e3
    refine lv_aload_n hx hb dX5_bestPlace_25 rfl (lv_at hl 0 rfl) ?_
    refine va_get (D := D) (ci := 5) (v := .int (g3 0 0)) (C := RX5) (T := TX5) (N := 13) hx hb hts iX5_bestPlace_X5 hown hK.1 hP 0 rfl rfl 0 (by decide) (hts _ qX5_bestPlace_37) (fun _ h9 => h9) rfl dX5_bestPlace_26 ?_
    refine lv_if_le (tgt := 34) hx hb dX5_bestPlace_29 (by decide) (fun c4 => ?_) (fun c4 => ?_)
    · have hf := z_ifT hf c4
      refine lv_aload_n hx hb dX5_bestPlace_34 rfl (lv_at hl 0 rfl) ?_
      refine lv_iload_n hx hb dX5_bestPlace_35 rfl (lv_at hl 1 rfl) ?_
      refine lv_iconst (v := (5 : Int32)) hx hb dX5_bestPlace_36 (by decide) ?_
      obtain ⟨r5, h5, hf⟩ := z_bE hf
      refine z_cVi (As := [.int p1, .int (5 : Int32)]) (rest := []) (wf := (z_md c a)) (g := g3) (u0 := g3) ⟨hx, hb, hml, hown, hts⟩ (kX5_part l D c N a H.size g3 p1 (5 : Int32) r5 h5) (cwV 2 hts gX5_bestPlace_X5_part rfl rfl rfl (by decide +kernel) ⟨Nat.le_of_ble_eq_true rfl, Nat.le_of_ble_eq_true rfl⟩) hP hK hD hS hA (ci := 5) (q0 := 0) rfl rfl rfl rfl hl.1 (Nat.le_of_ble_eq_true rfl) rfl dX5_bestPlace_37 ⟨Nat.zero_le _, Nat.zero_le _⟩ (fun H locs hP hD hS => ?_)
      refine lv_istore_n (lv' := [(3, .int r5), (0, .ref (a 0)), (1, .int p1), (2, .int p2)]) hx hb dX5_bestPlace_40 rfl hl (by decide) rfl (fun ls hl => ?_)
      refine lv_iconst (v := (-1 : Int32)) hx hb dX5_bestPlace_41 (by decide) ?_
      refine lv_istore (lv' := [(4, .int (-1 : Int32)), (3, .int r5), (0, .ref (a 0)), (1, .int p1), (2, .int p2)]) hx hb dX5_bestPlace_42 hl (by decide) rfl (fun ls hl => ?_)
      refine lv_iconst (v := (0 : Int32)) hx hb dX5_bestPlace_44 (by decide) ?_
      refine lv_istore (lv' := [(5, .int (0 : Int32)), (4, .int (-1 : Int32)), (3, .int r5), (0, .ref (a 0)), (1, .int p1), (2, .int p2)]) hx hb dX5_bestPlace_45 hl (by decide) rfl (fun ls hl => ?_)
      refine lv_iconst (v := (0 : Int32)) hx hb dX5_bestPlace_47 (by decide) ?_
      refine lv_istore (lv' := [(6, .int (0 : Int32)), (5, .int (0 : Int32)), (4, .int (-1 : Int32)), (3, .int r5), (0, .ref (a 0)), (1, .int p1), (2, .int p2)]) hx hb dX5_bestPlace_48 hl (by decide) rfl (fun ls hl => ?_)
      exact L50 _ _ _ N _ _ _ _ hf H locs ls hP hD hS (lv_sub hl [4, 5, 6, 3, 2, 1, 0] rfl)
    · have hf := z_ifF hf c4
      refine lv_iconst (v := (0 : Int32)) hx hb dX5_bestPlace_32 (by decide) ?_
      exact z_ri (wf := (z_md c a)) hx hb hr hlocks hP hD hS hf dX5_bestPlace_33
  · have hf := z_ifF hf c2
    refine lv_aload_n hx hb dX5_bestPlace_9 rfl (lv_at hl 0 rfl) ?_
    refine lv_iload_n hx hb dX5_bestPlace_10 rfl (lv_at hl 2 rfl) ?_
    obtain ⟨r20, h20, hf⟩ := z_bE hf
    refine z_cVi (As := [.int p2]) (rest := [.ref (a 0)]) (wf := (z_md c a)) (g := g) (u0 := g) ⟨hx, hb, hml, hown, hts⟩ (kX5_isOrder l D c N a H.size g p2 r20 h20) (cwV 1 hts gX5_bestPlace_X5_isOrder rfl rfl rfl (by decide +kernel) ⟨Nat.le_of_ble_eq_true rfl, Nat.le_of_ble_eq_true rfl⟩) hP hK hD hS hA (ci := 5) (q0 := 0) rfl rfl rfl rfl hl.1 (Nat.le_of_ble_eq_true rfl) rfl dX5_bestPlace_11 ⟨Nat.zero_le _, Nat.zero_le _⟩ (fun H locs hP hD hS => ?_)
    refine lv_if_eq (tgt := 21) hx hb dX5_bestPlace_14 (by decide) (fun c21 => ?_) (fun c21 => ?_)
    · have hf := z_ifT hf c21
      refine lv_iconst (v := (1 : Int32)) hx hb dX5_bestPlace_21 (by decide) ?_
      refine va_put (D := D) (ci := 5) (v := .int (1 : Int32)) (ty := .int) (C := RX5) (T := TX5) (N := 13) hx hb hts iX5_bestPlace_X5 tyX5 tyX5_ok nmX5 hown hK.1 hP hD hS 0 rfl rfl 0 (by decide) (hts _ qX5_bestPlace_37) (fun _ h9 => h9) rfl (by decide +kernel) rfl rfl (Nat.le_of_ble_eq_true rfl) dX5_bestPlace_22 (fun H locs hP hD hS => ?_)
      obtain ⟨g22, e22, hf⟩ := z_ltE hf
      have hP : va_P D vwCl (z_md c a g22) H := by rw [e22]; exact hP
      have hD : va_D A (z_md c a g22) := by rw [e22]; exact hD
      clear e22
      refine lv_aload_n hx hb dX5_bestPlace_25 rfl (lv_at hl 0 rfl) ?_
      refine va_get (D := D) (ci := 5) (v := .int (g22 0 0)) (C := RX5) (T := TX5) (N := 13) hx hb hts iX5_bestPlace_X5 hown hK.1 hP 0 rfl rfl 0 (by decide) (hts _ qX5_bestPlace_37) (fun _ h9 => h9) rfl dX5_bestPlace_26 ?_
      refine lv_if_le (tgt := 34) hx hb dX5_bestPlace_29 (by decide) (fun c23 => ?_) (fun c23 => ?_)
      · have hf := z_ifT hf c23
        refine lv_aload_n hx hb dX5_bestPlace_34 rfl (lv_at hl 0 rfl) ?_
        refine lv_iload_n hx hb dX5_bestPlace_35 rfl (lv_at hl 1 rfl) ?_
        refine lv_iconst (v := (5 : Int32)) hx hb dX5_bestPlace_36 (by decide) ?_
        obtain ⟨r24, h24, hf⟩ := z_bE hf
        refine z_cVi (As := [.int p1, .int (5 : Int32)]) (rest := []) (wf := (z_md c a)) (g := g22) (u0 := g22) ⟨hx, hb, hml, hown, hts⟩ (kX5_part l D c N a H.size g22 p1 (5 : Int32) r24 h24) (cwV 2 hts gX5_bestPlace_X5_part rfl rfl rfl (by decide +kernel) ⟨Nat.le_of_ble_eq_true rfl, Nat.le_of_ble_eq_true rfl⟩) hP hK hD hS hA (ci := 5) (q0 := 0) rfl rfl rfl rfl hl.1 (Nat.le_of_ble_eq_true rfl) rfl dX5_bestPlace_37 ⟨Nat.zero_le _, Nat.zero_le _⟩ (fun H locs hP hD hS => ?_)
        refine lv_istore_n (lv' := [(3, .int r24), (0, .ref (a 0)), (1, .int p1), (2, .int p2)]) hx hb dX5_bestPlace_40 rfl hl (by decide) rfl (fun ls hl => ?_)
        refine lv_iconst (v := (-1 : Int32)) hx hb dX5_bestPlace_41 (by decide) ?_
        refine lv_istore (lv' := [(4, .int (-1 : Int32)), (3, .int r24), (0, .ref (a 0)), (1, .int p1), (2, .int p2)]) hx hb dX5_bestPlace_42 hl (by decide) rfl (fun ls hl => ?_)
        refine lv_iconst (v := (0 : Int32)) hx hb dX5_bestPlace_44 (by decide) ?_
        refine lv_istore (lv' := [(5, .int (0 : Int32)), (4, .int (-1 : Int32)), (3, .int r24), (0, .ref (a 0)), (1, .int p1), (2, .int p2)]) hx hb dX5_bestPlace_45 hl (by decide) rfl (fun ls hl => ?_)
        refine lv_iconst (v := (0 : Int32)) hx hb dX5_bestPlace_47 (by decide) ?_
        refine lv_istore (lv' := [(6, .int (0 : Int32)), (5, .int (0 : Int32)), (4, .int (-1 : Int32)), (3, .int r24), (0, .ref (a 0)), (1, .int p1), (2, .int p2)]) hx hb dX5_bestPlace_48 hl (by decide) rfl (fun ls hl => ?_)
        exact L50 _ _ _ N _ _ _ _ hf H locs ls hP hD hS (lv_sub hl [4, 5, 6, 3, 2, 1, 0] rfl)
      · have hf := z_ifF hf c23
        refine lv_iconst (v := (0 : Int32)) hx hb dX5_bestPlace_32 (by decide) ?_
        exact z_ri (wf := (z_md c a)) hx hb hr hlocks hP hD hS hf dX5_bestPlace_33
    · have hf := z_ifF hf c21
      refine lv_iconst (v := (0 : Int32)) hx hb dX5_bestPlace_17 (by decide) ?_
      refine lv_goto (tgt := 22) hx hb dX5_bestPlace_18 (by decide) ?_
      refine va_put (D := D) (ci := 5) (v := .int (0 : Int32)) (ty := .int) (C := RX5) (T := TX5) (N := 13) hx hb hts iX5_bestPlace_X5 tyX5 tyX5_ok nmX5 hown hK.1 hP hD hS 0 rfl rfl 0 (by decide) (hts _ qX5_bestPlace_37) (fun _ h9 => h9) rfl (by decide +kernel) rfl rfl (Nat.le_of_ble_eq_true rfl) dX5_bestPlace_22 (fun H locs hP hD hS => ?_)
      obtain ⟨g25, e25, hf⟩ := z_ltE hf
      have hP : va_P D vwCl (z_md c a g25) H := by rw [e25]; exact hP
      have hD : va_D A (z_md c a g25) := by rw [e25]; exact hD
      clear e25
      refine lv_aload_n hx hb dX5_bestPlace_25 rfl (lv_at hl 0 rfl) ?_
      refine va_get (D := D) (ci := 5) (v := .int (g25 0 0)) (C := RX5) (T := TX5) (N := 13) hx hb hts iX5_bestPlace_X5 hown hK.1 hP 0 rfl rfl 0 (by decide) (hts _ qX5_bestPlace_37) (fun _ h9 => h9) rfl dX5_bestPlace_26 ?_
      refine lv_if_le (tgt := 34) hx hb dX5_bestPlace_29 (by decide) (fun c26 => ?_) (fun c26 => ?_)
      · have hf := z_ifT hf c26
        refine lv_aload_n hx hb dX5_bestPlace_34 rfl (lv_at hl 0 rfl) ?_
        refine lv_iload_n hx hb dX5_bestPlace_35 rfl (lv_at hl 1 rfl) ?_
        refine lv_iconst (v := (5 : Int32)) hx hb dX5_bestPlace_36 (by decide) ?_
        obtain ⟨r27, h27, hf⟩ := z_bE hf
        refine z_cVi (As := [.int p1, .int (5 : Int32)]) (rest := []) (wf := (z_md c a)) (g := g25) (u0 := g25) ⟨hx, hb, hml, hown, hts⟩ (kX5_part l D c N a H.size g25 p1 (5 : Int32) r27 h27) (cwV 2 hts gX5_bestPlace_X5_part rfl rfl rfl (by decide +kernel) ⟨Nat.le_of_ble_eq_true rfl, Nat.le_of_ble_eq_true rfl⟩) hP hK hD hS hA (ci := 5) (q0 := 0) rfl rfl rfl rfl hl.1 (Nat.le_of_ble_eq_true rfl) rfl dX5_bestPlace_37 ⟨Nat.zero_le _, Nat.zero_le _⟩ (fun H locs hP hD hS => ?_)
        refine lv_istore_n (lv' := [(3, .int r27), (0, .ref (a 0)), (1, .int p1), (2, .int p2)]) hx hb dX5_bestPlace_40 rfl hl (by decide) rfl (fun ls hl => ?_)
        refine lv_iconst (v := (-1 : Int32)) hx hb dX5_bestPlace_41 (by decide) ?_
        refine lv_istore (lv' := [(4, .int (-1 : Int32)), (3, .int r27), (0, .ref (a 0)), (1, .int p1), (2, .int p2)]) hx hb dX5_bestPlace_42 hl (by decide) rfl (fun ls hl => ?_)
        refine lv_iconst (v := (0 : Int32)) hx hb dX5_bestPlace_44 (by decide) ?_
        refine lv_istore (lv' := [(5, .int (0 : Int32)), (4, .int (-1 : Int32)), (3, .int r27), (0, .ref (a 0)), (1, .int p1), (2, .int p2)]) hx hb dX5_bestPlace_45 hl (by decide) rfl (fun ls hl => ?_)
        refine lv_iconst (v := (0 : Int32)) hx hb dX5_bestPlace_47 (by decide) ?_
        refine lv_istore (lv' := [(6, .int (0 : Int32)), (5, .int (0 : Int32)), (4, .int (-1 : Int32)), (3, .int r27), (0, .ref (a 0)), (1, .int p1), (2, .int p2)]) hx hb dX5_bestPlace_48 hl (by decide) rfl (fun ls hl => ?_)
        exact L50 _ _ _ N _ _ _ _ hf H locs ls hP hD hS (lv_sub hl [4, 5, 6, 3, 2, 1, 0] rfl)
      · have hf := z_ifF hf c26
        refine lv_iconst (v := (0 : Int32)) hx hb dX5_bestPlace_32 (by decide) ?_
        exact z_ri (wf := (z_md c a)) hx hb hr hlocks hP hD hS hf dX5_bestPlace_33
abbrev rmX5_leastBribe : Room := { frames := 4, cells := 0, slots := 0, locals := 92 }
theorem qX5_leastBribe_37 : Cond.fieldLink RX5 37 "ProgramDrumModel" "thrown" "I" ∈ wsX5_leastBribe := by decide +kernel
theorem iX5_leastBribe_X5 : ∀ w ∈ wsX50, w ∈ wsX5_leastBribe := by decide +kernel
theorem qX5_leastBribe_7 : Cond.fieldLink RX5 7 "ProgramDrumModel" "state" "[I" ∈ wsX5_leastBribe := by decide +kernel
theorem qX5_leastBribe_13 : Cond.fieldLink RX5 13 "ProgramDrumModel" "kept" "[I" ∈ wsX5_leastBribe := by decide +kernel
set_option maxRecDepth 100000 in
set_option maxHeartbeats 4000000 in
theorem kX5_leastBribe (l : Launch) (D : va_G) (c : Nat → ClassId) (N : Nat) (a : Nat → Nat) (sz : Nat) (g : z_R) (p1 : Int32) (r0 : Int32) (g0 : z_R) (hf : fX5_leastBribe N p1 g = some (r0, g0)) : Met l yX5_leastBribe wsX5_leastBribe rmX5_leastBribe (z_Pc D c sz (z_md c a g) [.ref (a 0), .int p1]) (z_Qi D (z_md c a) r0 g0 (va_A (z_md c a g) sz)) 0 0 (va_A (z_md c a g) sz) := by
  refine z_ofM (cc := cX5_leastBribe) (maxL := 4) (ret := (some .int)) (Qf := fun A => z_Qi D (z_md c a) r0 g0 A) (plainFor_of_name (by decide)) rfl (Nat.le_of_ble_eq_true rfl) ?_
  intro p e s m args below meth co A ls hx hb hr hml hts hown hlocks hnm hA hP hK hD hl hsz
  have hl : lv_has ls 4 [(0, .ref (a 0)), (1, .int p1)] := hl
  have hown : s.vm.findClass RX5 = some m.cls := hown
  obtain ⟨H, hH⟩ : ∃ H, H = s.heap := ⟨_, rfl⟩
  have hS : va_S A s.heap H [] := by rw [hH]; exact va_S.rf
  rw [← hH] at hP ⊢
  clear hH
  have L43 : ∀ (x1 : Int32) (fu : Nat) (x2 : Int32) (x3 : Int32) (g : z_R), lX5_leastBribe_43 N x1 fu x2 x3 g = some (r0, g0) → ∀ (H : Heap) (locs : List Loc) (ls : Array Slot), va_P D vwCl (z_md c a g) H → va_D A (z_md c a g) → va_S A s.heap H locs → lv_has ls 4 [(0, .ref (a 0)), (1, .int x1), (2, .int x2), (3, .int x3)] → W p l e rmX5_leastBribe s m args below meth co H locs 0 0 (MQ below (z_Qi D (z_md c a) r0 g0 A) args s 0 0 A) (F0 m 43 ls []) := by
    intro x1 fu
    induction fu with
    | zero =>
      intro x2 x3 g hf
      have hf : (none : Option (Int32 × z_R)) = some _ := hf
      cases hf
    | succ fu ih =>
      intro x2 x3 g hf H locs ls hP hD hS hl
      rw [lX5_leastBribe_43.eq_2] at hf
      refine lv_iload_n hx hb dX5_leastBribe_43 rfl (lv_at hl 3 rfl) ?_
      refine lv_bipush (v := (99 : Int32)) hx hb dX5_leastBribe_44 (by decide) ?_
      refine lv_icmp_gt (tgt := 101) hx hb dX5_leastBribe_46 (by decide) (fun c6 => ?_) (fun c6 => ?_)
      · have hf := z_ifT hf c6
        refine lv_iload_n hx hb dX5_leastBribe_101 rfl (lv_at hl 2 rfl) ?_
        exact z_ri (wf := (z_md c a)) hx hb hr hlocks hP hD hS hf dX5_leastBribe_102
      · have hf := z_ifF hf c6
        refine lv_iload_n hx hb dX5_leastBribe_49 rfl (lv_at hl 2 rfl) ?_
        refine lv_iconst (v := (-1 : Int32)) hx hb dX5_leastBribe_50 (by decide) ?_
        refine lv_icmp_ne (tgt := 101) hx hb dX5_leastBribe_51 (by decide) (fun c7 => ?_) (fun c7 => ?_)
        · have hf := z_ifF hf c7
          refine lv_iload_n hx hb dX5_leastBribe_101 rfl (lv_at hl 2 rfl) ?_
          exact z_ri (wf := (z_md c a)) hx hb hr hlocks hP hD hS hf dX5_leastBribe_102
        · have hf := z_ifT hf c7
          refine lv_aload_n hx hb dX5_leastBribe_54 rfl (lv_at hl 0 rfl) ?_
          refine lv_iload_n hx hb dX5_leastBribe_55 rfl (lv_at hl 1 rfl) ?_
          refine lv_iconst (v := (4 : Int32)) hx hb dX5_leastBribe_56 (by decide) ?_
          refine lv_iload_n hx hb dX5_leastBribe_57 rfl (lv_at hl 3 rfl) ?_
          obtain ⟨g8, h8, hf⟩ := z_bE hf
          refine z_cVv (As := [.int x1, .int (4 : Int32), .int x3]) (rest := []) (wf := (z_md c a)) (g := g) (u0 := g8) ⟨hx, hb, hml, hown, hts⟩ (kX5_setPart l D c N a H.size g x1 (4 : Int32) x3 g8 h8) (cwV 3 hts gX5_leastBribe_X5_setPart rfl rfl rfl (by decide +kernel) ⟨Nat.le_of_ble_eq_true rfl, Nat.le_of_ble_eq_true rfl⟩) hP hK hD hS hA (ci := 5) (q0 := 0) rfl rfl rfl rfl hl.1 (Nat.le_of_ble_eq_true rfl) rfl dX5_leastBribe_58 ⟨Nat.zero_le _, Nat.zero_le _⟩ (fun H locs hP hD hS => ?_)
          refine lv_aload_n hx hb dX5_leastBribe_61 rfl (lv_at hl 0 rfl) ?_
          obtain ⟨r9, g9, h9, hf⟩ := z_b2E hf
          refine z_cVi (As := []) (rest := []) (wf := (z_md c a)) (g := g8) (u0 := g9) ⟨hx, hb, hml, hown, hts⟩ (kX5_laid l D c N a H.size g8  r9 g9 h9) (cwV 0 hts gX5_leastBribe_X5_laid rfl rfl rfl (by decide +kernel) ⟨Nat.le_of_ble_eq_true rfl, Nat.le_of_ble_eq_true rfl⟩) hP hK hD hS hA (ci := 5) (q0 := 0) rfl rfl rfl rfl hl.1 (Nat.le_of_ble_eq_true rfl) rfl dX5_leastBribe_62 ⟨Nat.zero_le _, Nat.zero_le _⟩ (fun H locs hP hD hS => ?_)
          refine lv_pop hx hb dX5_leastBribe_65 rfl ?_
          refine lv_aload_n hx hb dX5_leastBribe_66 rfl (lv_at hl 0 rfl) ?_
          refine lv_iload_n hx hb dX5_leastBribe_67 rfl (lv_at hl 1 rfl) ?_
          refine lv_bipush (v := (6 : Int32)) hx hb dX5_leastBribe_68 (by decide) ?_
          obtain ⟨r10, h10, hf⟩ := z_bE hf
          refine z_cVi (As := [.int x1, .int (6 : Int32)]) (rest := []) (wf := (z_md c a)) (g := g9) (u0 := g9) ⟨hx, hb, hml, hown, hts⟩ (kX5_part l D c N a H.size g9 x1 (6 : Int32) r10 h10) (cwV 2 hts gX5_leastBribe_X5_part rfl rfl rfl (by decide +kernel) ⟨Nat.le_of_ble_eq_true rfl, Nat.le_of_ble_eq_true rfl⟩) hP hK hD hS hA (ci := 5) (q0 := 0) rfl rfl rfl rfl hl.1 (Nat.le_of_ble_eq_true rfl) rfl dX5_leastBribe_70 ⟨Nat.zero_le _, Nat.zero_le _⟩ (fun H locs hP hD hS => ?_)
          refine lv_if_ne (tgt := 80) hx hb dX5_leastBribe_73 (by decide) (fun c11 => ?_) (fun c11 => ?_)
          · have hf := z_ifF hf c11
            refine lv_iconst (v := (-1 : Int32)) hx hb dX5_leastBribe_80 (by decide) ?_
            refine lv_istore_n (lv' := [(2, .int (-1 : Int32)), (0, .ref (a 0)), (1, .int x1), (3, .int x3)]) hx hb dX5_leastBribe_81 rfl hl (by decide) rfl (fun ls hl => ?_)
            refine lv_aload_n hx hb dX5_leastBribe_82 rfl (lv_at hl 1 rfl) ?_
            refine va_get (D := D) (ci := 5) (v := .ref (a 2)) (C := RX5) (T := TX5) (N := 13) hx hb hts iX5_leastBribe_X5 hown hK.1 hP 0 rfl rfl 2 (by decide) (hts _ qX5_leastBribe_13) (fun _ h9 => h9) rfl dX5_leastBribe_83 ?_
            refine lv_iconst (v := (0 : Int32)) hx hb dX5_leastBribe_86 (by decide) ?_
            refine lv_aload_n hx hb dX5_leastBribe_87 rfl (lv_at hl 1 rfl) ?_
            refine va_get (D := D) (ci := 5) (v := .ref (a 1)) (C := RX5) (T := TX5) (N := 13) hx hb hts iX5_leastBribe_X5 hown hK.1 hP 0 rfl rfl 1 (by decide) (hts _ qX5_leastBribe_7) (fun _ h9 => h9) rfl dX5_leastBribe_88 ?_
            refine lv_iconst (v := (0 : Int32)) hx hb dX5_leastBribe_91 (by decide) ?_
            obtain ⟨u12, h12, hf⟩ := z_bE hf
            obtain ⟨g12, e12, hf⟩ := z_ltE hf
            refine z_cSvC (As := [.ref (a 2), .int (0 : Int32), .ref (a 1), .int (0 : Int32)]) (rest := []) (V := (z_md c a g9)) (V' := (z_md c a g12)) (wf := (fun u : Nat → Int32 => z_cp c (a 2) (a 1) 925 925 (g9 2) u)) (g := g9 1) (u0 := u12) ⟨hx, hb, hml, hown, hts⟩ (kX5_copy l D c N (a 2) (a 1) 925 925 H.size  (g9 2) (g9 1) (0 : Int32) (0 : Int32) u12 h12) (va_cwS 4 hts gX5_leastBribe_X5_copy rfl rfl rfl (by decide +kernel) ⟨Nat.le_of_ble_eq_true rfl, Nat.le_of_ble_eq_true rfl⟩) hP hK hD hS hA [2, 1] [0, 3, 4, 5, 6, 7, 8, 9] [0, 9, 8, 1, 2, 3, 4, 5, 6, 7] rfl rfl (by decide) (by decide) (by decide) (by decide) rfl hl.1 (Nat.le_of_ble_eq_true rfl) rfl dX5_leastBribe_92 ⟨Nat.zero_le _, Nat.zero_le _⟩ (by rw [e12]; rfl) (fun H locs hP hD hS => ?_)
            refine lv_iinc (v := (x3 + (1 : Int32))) (lv' := [(3, .int (x3 + (1 : Int32))), (2, .int (-1 : Int32)), (0, .ref (a 0)), (1, .int x1)]) hx hb dX5_leastBribe_95 hl (k := 3) rfl rfl (by decide) rfl (fun ls hl => ?_)
            refine lv_goto (tgt := 43) hx hb dX5_leastBribe_98 (by decide) ?_
            exact ih _ _ _ hf H locs ls hP hD hS (lv_sub hl [2, 3, 1, 0] rfl)
          · have hf := z_ifT hf c11
            refine lv_iload_n hx hb dX5_leastBribe_76 rfl (lv_at hl 3 rfl) ?_
            refine lv_goto (tgt := 81) hx hb dX5_leastBribe_77 (by decide) ?_
            refine lv_istore_n (lv' := [(2, .int x3), (0, .ref (a 0)), (1, .int x1), (3, .int x3)]) hx hb dX5_leastBribe_81 rfl hl (by decide) rfl (fun ls hl => ?_)
            refine lv_aload_n hx hb dX5_leastBribe_82 rfl (lv_at hl 1 rfl) ?_
            refine va_get (D := D) (ci := 5) (v := .ref (a 2)) (C := RX5) (T := TX5) (N := 13) hx hb hts iX5_leastBribe_X5 hown hK.1 hP 0 rfl rfl 2 (by decide) (hts _ qX5_leastBribe_13) (fun _ h9 => h9) rfl dX5_leastBribe_83 ?_
            refine lv_iconst (v := (0 : Int32)) hx hb dX5_leastBribe_86 (by decide) ?_
            refine lv_aload_n hx hb dX5_leastBribe_87 rfl (lv_at hl 1 rfl) ?_
            refine va_get (D := D) (ci := 5) (v := .ref (a 1)) (C := RX5) (T := TX5) (N := 13) hx hb hts iX5_leastBribe_X5 hown hK.1 hP 0 rfl rfl 1 (by decide) (hts _ qX5_leastBribe_7) (fun _ h9 => h9) rfl dX5_leastBribe_88 ?_
            refine lv_iconst (v := (0 : Int32)) hx hb dX5_leastBribe_91 (by decide) ?_
            obtain ⟨u13, h13, hf⟩ := z_bE hf
            obtain ⟨g13, e13, hf⟩ := z_ltE hf
            refine z_cSvC (As := [.ref (a 2), .int (0 : Int32), .ref (a 1), .int (0 : Int32)]) (rest := []) (V := (z_md c a g9)) (V' := (z_md c a g13)) (wf := (fun u : Nat → Int32 => z_cp c (a 2) (a 1) 925 925 (g9 2) u)) (g := g9 1) (u0 := u13) ⟨hx, hb, hml, hown, hts⟩ (kX5_copy l D c N (a 2) (a 1) 925 925 H.size  (g9 2) (g9 1) (0 : Int32) (0 : Int32) u13 h13) (va_cwS 4 hts gX5_leastBribe_X5_copy rfl rfl rfl (by decide +kernel) ⟨Nat.le_of_ble_eq_true rfl, Nat.le_of_ble_eq_true rfl⟩) hP hK hD hS hA [2, 1] [0, 3, 4, 5, 6, 7, 8, 9] [0, 9, 8, 1, 2, 3, 4, 5, 6, 7] rfl rfl (by decide) (by decide) (by decide) (by decide) rfl hl.1 (Nat.le_of_ble_eq_true rfl) rfl dX5_leastBribe_92 ⟨Nat.zero_le _, Nat.zero_le _⟩ (by rw [e13]; rfl) (fun H locs hP hD hS => ?_)
            refine lv_iinc (v := (x3 + (1 : Int32))) (lv' := [(3, .int (x3 + (1 : Int32))), (2, .int x3), (0, .ref (a 0)), (1, .int x1)]) hx hb dX5_leastBribe_95 hl (k := 3) rfl rfl (by decide) rfl (fun ls hl => ?_)
            refine lv_goto (tgt := 43) hx hb dX5_leastBribe_98 (by decide) ?_
            exact ih _ _ _ hf H locs ls hP hD hS (lv_sub hl [2, 3, 1, 0] rfl)
  unfold fX5_leastBribe at hf
  generalize ([] : List Loc) = locs at hS ⊢
  refine lv_aload_n hx hb dX5_leastBribe_0 rfl (lv_at hl 0 rfl) ?_
  refine lv_aload_n hx hb dX5_leastBribe_1 rfl (lv_at hl 0 rfl) ?_
  refine lv_iload_n hx hb dX5_leastBribe_2 rfl (lv_at hl 1 rfl) ?_
  obtain ⟨r1, h1, hf⟩ := z_bE hf
  refine z_cVi (As := [.int p1]) (rest := [.ref (a 0)]) (wf := (z_md c a)) (g := g) (u0 := g) ⟨hx, hb, hml, hown, hts⟩ (kX5_isOrder l D c N a H.size g p1 r1 h1) (cwV 1 hts gX5_leastBribe_X5_isOrder rfl rfl rfl (by decide +kernel) ⟨Nat.le_of_ble_eq_true rfl, Nat.le_of_ble_eq_true rfl⟩) hP hK hD hS hA (ci := 5) (q0 := 0) rfl rfl rfl rfl hl.1 (Nat.le_of_ble_eq_true rfl) rfl dX5_leastBribe_3 ⟨Nat.zero_le _, Nat.zero_le _⟩ (fun H locs hP hD hS => ?_)
  refine lv_if_eq (tgt := 13) hx hb dX5_leastBribe_6 (by decide) (fun c2 => ?_) (fun c2 => ?_)
  · have hf := z_ifT hf c2
    refine lv_iconst (v := (1 : Int32)) hx hb dX5_leastBribe_13 (by decide) ?_
    refine va_put (D := D) (ci := 5) (v := .int (1 : Int32)) (ty := .int) (C := RX5) (T := TX5) (N := 13) hx hb hts iX5_leastBribe_X5 tyX5 tyX5_ok nmX5 hown hK.1 hP hD hS 0 rfl rfl 0 (by decide) (hts _ qX5_leastBribe_37) (fun _ h9 => h9) rfl (by decide +kernel) rfl rfl (Nat.le_of_ble_eq_true rfl) dX5_leastBribe_14 (fun H locs hP hD hS => ?_)
    obtain ⟨g3, e3, hf⟩ := z_ltE hf
    have hP : va_P D vwCl (z_md c a g3) H := by rw [e3]; exact hP
    have hD : va_D A (z_md c a g3) := by rw [e3]; exact hD
    clear e3
    refine lv_aload_n hx hb dX5_leastBribe_17 rfl (lv_at hl 0 rfl) ?_
    refine va_get (D := D) (ci := 5) (v := .int (g3 0 0)) (C := RX5) (T := TX5) (N := 13) hx hb hts iX5_leastBribe_X5 hown hK.1 hP 0 rfl rfl 0 (by decide) (hts _ qX5_leastBribe_37) (fun _ h9 => h9) rfl dX5_leastBribe_18 ?_
    refine lv_if_le (tgt := 26) hx hb dX5_leastBribe_21 (by decide) (fun c4 => ?_) (fun c4 => ?_)
    · have hf := z_ifT hf c4
      refine lv_aload_n hx hb dX5_leastBribe_26 rfl (lv_at hl 0 rfl) ?_
      refine va_get (D := D) (ci := 5) (v := .ref (a 1)) (C := RX5) (T := TX5) (N := 13) hx hb hts iX5_leastBribe_X5 hown hK.1 hP 0 rfl rfl 1 (by decide) (hts _ qX5_leastBribe_7) (fun _ h9 => h9) rfl dX5_leastBribe_27 ?_
      refine lv_iconst (v := (0 : Int32)) hx hb dX5_leastBribe_30 (by decide) ?_
      refine lv_aload_n hx hb dX5_leastBribe_31 rfl (lv_at hl 0 rfl) ?_
      refine va_get (D := D) (ci := 5) (v := .ref (a 2)) (C := RX5) (T := TX5) (N := 13) hx hb hts iX5_leastBribe_X5 hown hK.1 hP 0 rfl rfl 2 (by decide) (hts _ qX5_leastBribe_13) (fun _ h9 => h9) rfl dX5_leastBribe_32 ?_
      refine lv_iconst (v := (0 : Int32)) hx hb dX5_leastBribe_35 (by decide) ?_
      obtain ⟨u5, h5, hf⟩ := z_bE hf
      obtain ⟨g5, e5, hf⟩ := z_ltE hf
      refine z_cSvC (As := [.ref (a 1), .int (0 : Int32), .ref (a 2), .int (0 : Int32)]) (rest := []) (V := (z_md c a g3)) (V' := (z_md c a g5)) (wf := (fun u : Nat → Int32 => z_cp c (a 1) (a 2) 925 925 (g3 1) u)) (g := g3 2) (u0 := u5) ⟨hx, hb, hml, hown, hts⟩ (kX5_copy l D c N (a 1) (a 2) 925 925 H.size  (g3 1) (g3 2) (0 : Int32) (0 : Int32) u5 h5) (va_cwS 4 hts gX5_leastBribe_X5_copy rfl rfl rfl (by decide +kernel) ⟨Nat.le_of_ble_eq_true rfl, Nat.le_of_ble_eq_true rfl⟩) hP hK hD hS hA [1, 2] [0, 3, 4, 5, 6, 7, 8, 9] [0, 8, 9, 1, 2, 3, 4, 5, 6, 7] rfl rfl (by decide) (by decide) (by decide) (by decide) rfl hl.1 (Nat.le_of_ble_eq_true rfl) rfl dX5_leastBribe_36 ⟨Nat.zero_le _, Nat.zero_le _⟩ (by rw [e5]; rfl) (fun H locs hP hD hS => ?_)
      refine lv_iconst (v := (-1 : Int32)) hx hb dX5_leastBribe_39 (by decide) ?_
      refine lv_istore_n (lv' := [(2, .int (-1 : Int32)), (0, .ref (a 0)), (1, .int p1)]) hx hb dX5_leastBribe_40 rfl hl (by decide) rfl (fun ls hl => ?_)
      refine lv_iconst (v := (0 : Int32)) hx hb dX5_leastBribe_41 (by decide) ?_
      refine lv_istore_n (lv' := [(3, .int (0 : Int32)), (2, .int (-1 : Int32)), (0, .ref (a 0)), (1, .int p1)]) hx hb dX5_leastBribe_42 rfl hl (by decide) rfl (fun ls hl => ?_)
      exact L43 _ N _ _ _ hf H locs ls hP hD hS (lv_sub hl [2, 3, 1, 0] rfl)
    · have hf := z_ifF hf c4
      refine lv_iconst (v := (0 : Int32)) hx hb dX5_leastBribe_24 (by decide) ?_
      exact z_ri (wf := (z_md c a)) hx hb hr hlocks hP hD hS hf dX5_leastBribe_25
  · have hf := z_ifF hf c2
    refine lv_iconst (v := (0 : Int32)) hx hb dX5_leastBribe_9 (by decide) ?_
    refine lv_goto (tgt := 14) hx hb dX5_leastBribe_10 (by decide) ?_
    refine va_put (D := D) (ci := 5) (v := .int (0 : Int32)) (ty := .int) (C := RX5) (T := TX5) (N := 13) hx hb hts iX5_leastBribe_X5 tyX5 tyX5_ok nmX5 hown hK.1 hP hD hS 0 rfl rfl 0 (by decide) (hts _ qX5_leastBribe_37) (fun _ h9 => h9) rfl (by decide +kernel) rfl rfl (Nat.le_of_ble_eq_true rfl) dX5_leastBribe_14 (fun H locs hP hD hS => ?_)
    obtain ⟨g14, e14, hf⟩ := z_ltE hf
    have hP : va_P D vwCl (z_md c a g14) H := by rw [e14]; exact hP
    have hD : va_D A (z_md c a g14) := by rw [e14]; exact hD
    clear e14
    refine lv_aload_n hx hb dX5_leastBribe_17 rfl (lv_at hl 0 rfl) ?_
    refine va_get (D := D) (ci := 5) (v := .int (g14 0 0)) (C := RX5) (T := TX5) (N := 13) hx hb hts iX5_leastBribe_X5 hown hK.1 hP 0 rfl rfl 0 (by decide) (hts _ qX5_leastBribe_37) (fun _ h9 => h9) rfl dX5_leastBribe_18 ?_
    refine lv_if_le (tgt := 26) hx hb dX5_leastBribe_21 (by decide) (fun c15 => ?_) (fun c15 => ?_)
    · have hf := z_ifT hf c15
      refine lv_aload_n hx hb dX5_leastBribe_26 rfl (lv_at hl 0 rfl) ?_
      refine va_get (D := D) (ci := 5) (v := .ref (a 1)) (C := RX5) (T := TX5) (N := 13) hx hb hts iX5_leastBribe_X5 hown hK.1 hP 0 rfl rfl 1 (by decide) (hts _ qX5_leastBribe_7) (fun _ h9 => h9) rfl dX5_leastBribe_27 ?_
      refine lv_iconst (v := (0 : Int32)) hx hb dX5_leastBribe_30 (by decide) ?_
      refine lv_aload_n hx hb dX5_leastBribe_31 rfl (lv_at hl 0 rfl) ?_
      refine va_get (D := D) (ci := 5) (v := .ref (a 2)) (C := RX5) (T := TX5) (N := 13) hx hb hts iX5_leastBribe_X5 hown hK.1 hP 0 rfl rfl 2 (by decide) (hts _ qX5_leastBribe_13) (fun _ h9 => h9) rfl dX5_leastBribe_32 ?_
      refine lv_iconst (v := (0 : Int32)) hx hb dX5_leastBribe_35 (by decide) ?_
      obtain ⟨u16, h16, hf⟩ := z_bE hf
      obtain ⟨g16, e16, hf⟩ := z_ltE hf
      refine z_cSvC (As := [.ref (a 1), .int (0 : Int32), .ref (a 2), .int (0 : Int32)]) (rest := []) (V := (z_md c a g14)) (V' := (z_md c a g16)) (wf := (fun u : Nat → Int32 => z_cp c (a 1) (a 2) 925 925 (g14 1) u)) (g := g14 2) (u0 := u16) ⟨hx, hb, hml, hown, hts⟩ (kX5_copy l D c N (a 1) (a 2) 925 925 H.size  (g14 1) (g14 2) (0 : Int32) (0 : Int32) u16 h16) (va_cwS 4 hts gX5_leastBribe_X5_copy rfl rfl rfl (by decide +kernel) ⟨Nat.le_of_ble_eq_true rfl, Nat.le_of_ble_eq_true rfl⟩) hP hK hD hS hA [1, 2] [0, 3, 4, 5, 6, 7, 8, 9] [0, 8, 9, 1, 2, 3, 4, 5, 6, 7] rfl rfl (by decide) (by decide) (by decide) (by decide) rfl hl.1 (Nat.le_of_ble_eq_true rfl) rfl dX5_leastBribe_36 ⟨Nat.zero_le _, Nat.zero_le _⟩ (by rw [e16]; rfl) (fun H locs hP hD hS => ?_)
      refine lv_iconst (v := (-1 : Int32)) hx hb dX5_leastBribe_39 (by decide) ?_
      refine lv_istore_n (lv' := [(2, .int (-1 : Int32)), (0, .ref (a 0)), (1, .int p1)]) hx hb dX5_leastBribe_40 rfl hl (by decide) rfl (fun ls hl => ?_)
      refine lv_iconst (v := (0 : Int32)) hx hb dX5_leastBribe_41 (by decide) ?_
      refine lv_istore_n (lv' := [(3, .int (0 : Int32)), (2, .int (-1 : Int32)), (0, .ref (a 0)), (1, .int p1)]) hx hb dX5_leastBribe_42 rfl hl (by decide) rfl (fun ls hl => ?_)
      exact L43 _ N _ _ _ hf H locs ls hP hD hS (lv_sub hl [2, 3, 1, 0] rfl)
    · have hf := z_ifF hf c15
      refine lv_iconst (v := (0 : Int32)) hx hb dX5_leastBribe_24 (by decide) ?_
      exact z_ri (wf := (z_md c a)) hx hb hr hlocks hP hD hS hf dX5_leastBribe_25
abbrev rmX5_saves : Room := { frames := 5, cells := 0, slots := 0, locals := 115 }
theorem qX5_saves_37 : Cond.fieldLink RX5 37 "ProgramDrumModel" "thrown" "I" ∈ wsX5_saves := by decide +kernel
theorem iX5_saves_X5 : ∀ w ∈ wsX50, w ∈ wsX5_saves := by decide +kernel
theorem qX5_saves_7 : Cond.fieldLink RX5 7 "ProgramDrumModel" "state" "[I" ∈ wsX5_saves := by decide +kernel
theorem qX5_saves_13 : Cond.fieldLink RX5 13 "ProgramDrumModel" "kept" "[I" ∈ wsX5_saves := by decide +kernel
set_option maxRecDepth 100000 in
set_option maxHeartbeats 4000000 in
theorem kX5_saves (l : Launch) (D : va_G) (c : Nat → ClassId) (N : Nat) (a : Nat → Nat) (sz : Nat) (g : z_R) (p1 : Int32) (r0 : Int32) (g0 : z_R) (hf : fX5_saves N p1 g = some (r0, g0)) : Met l yX5_saves wsX5_saves rmX5_saves (z_Pc D c sz (z_md c a g) [.ref (a 0), .int p1]) (z_Qi D (z_md c a) r0 g0 (va_A (z_md c a g) sz)) 0 0 (va_A (z_md c a g) sz) := by
  refine z_ofM (cc := cX5_saves) (maxL := 5) (ret := (some .int)) (Qf := fun A => z_Qi D (z_md c a) r0 g0 A) (plainFor_of_name (by decide)) rfl (Nat.le_of_ble_eq_true rfl) ?_
  intro p e s m args below meth co A ls hx hb hr hml hts hown hlocks hnm hA hP hK hD hl hsz
  have hl : lv_has ls 5 [(0, .ref (a 0)), (1, .int p1)] := hl
  have hown : s.vm.findClass RX5 = some m.cls := hown
  obtain ⟨H, hH⟩ : ∃ H, H = s.heap := ⟨_, rfl⟩
  have hS : va_S A s.heap H [] := by rw [hH]; exact va_S.rf
  rw [← hH] at hP ⊢
  clear hH
  unfold fX5_saves at hf
  generalize ([] : List Loc) = locs at hS ⊢
  refine lv_aload_n hx hb dX5_saves_0 rfl (lv_at hl 0 rfl) ?_
  refine lv_aload_n hx hb dX5_saves_1 rfl (lv_at hl 0 rfl) ?_
  refine lv_iload_n hx hb dX5_saves_2 rfl (lv_at hl 1 rfl) ?_
  obtain ⟨r1, h1, hf⟩ := z_bE hf
  refine z_cVi (As := [.int p1]) (rest := [.ref (a 0)]) (wf := (z_md c a)) (g := g) (u0 := g) ⟨hx, hb, hml, hown, hts⟩ (kX5_isOrder l D c N a H.size g p1 r1 h1) (cwV 1 hts gX5_saves_X5_isOrder rfl rfl rfl (by decide +kernel) ⟨Nat.le_of_ble_eq_true rfl, Nat.le_of_ble_eq_true rfl⟩) hP hK hD hS hA (ci := 5) (q0 := 0) rfl rfl rfl rfl hl.1 (Nat.le_of_ble_eq_true rfl) rfl dX5_saves_3 ⟨Nat.zero_le _, Nat.zero_le _⟩ (fun H locs hP hD hS => ?_)
  refine lv_if_eq (tgt := 13) hx hb dX5_saves_6 (by decide) (fun c2 => ?_) (fun c2 => ?_)
  · have hf := z_ifT hf c2
    refine lv_iconst (v := (1 : Int32)) hx hb dX5_saves_13 (by decide) ?_
    refine va_put (D := D) (ci := 5) (v := .int (1 : Int32)) (ty := .int) (C := RX5) (T := TX5) (N := 13) hx hb hts iX5_saves_X5 tyX5 tyX5_ok nmX5 hown hK.1 hP hD hS 0 rfl rfl 0 (by decide) (hts _ qX5_saves_37) (fun _ h9 => h9) rfl (by decide +kernel) rfl rfl (Nat.le_of_ble_eq_true rfl) dX5_saves_14 (fun H locs hP hD hS => ?_)
    obtain ⟨g3, e3, hf⟩ := z_ltE hf
    have hP : va_P D vwCl (z_md c a g3) H := by rw [e3]; exact hP
    have hD : va_D A (z_md c a g3) := by rw [e3]; exact hD
    clear e3
    refine lv_aload_n hx hb dX5_saves_17 rfl (lv_at hl 0 rfl) ?_
    refine va_get (D := D) (ci := 5) (v := .int (g3 0 0)) (C := RX5) (T := TX5) (N := 13) hx hb hts iX5_saves_X5 hown hK.1 hP 0 rfl rfl 0 (by decide) (hts _ qX5_saves_37) (fun _ h9 => h9) rfl dX5_saves_18 ?_
    refine lv_if_le (tgt := 26) hx hb dX5_saves_21 (by decide) (fun c4 => ?_) (fun c4 => ?_)
    · have hf := z_ifT hf c4
      refine lv_aload_n hx hb dX5_saves_26 rfl (lv_at hl 0 rfl) ?_
      refine lv_iload_n hx hb dX5_saves_27 rfl (lv_at hl 1 rfl) ?_
      obtain ⟨r5, g5, h5, hf⟩ := z_b2E hf
      refine z_cVi (As := [.int p1]) (rest := []) (wf := (z_md c a)) (g := g3) (u0 := g5) ⟨hx, hb, hml, hown, hts⟩ (kX5_ticksOf l D c N a H.size g3 p1 r5 g5 h5) (cwV 1 hts gX5_saves_X5_ticksOf rfl rfl rfl (by decide +kernel) ⟨Nat.le_of_ble_eq_true rfl, Nat.le_of_ble_eq_true rfl⟩) hP hK hD hS hA (ci := 5) (q0 := 0) rfl rfl rfl rfl hl.1 (Nat.le_of_ble_eq_true rfl) rfl dX5_saves_28 ⟨Nat.zero_le _, Nat.zero_le _⟩ (fun H locs hP hD hS => ?_)
      refine lv_istore_n (lv' := [(2, .int r5), (0, .ref (a 0)), (1, .int p1)]) hx hb dX5_saves_31 rfl hl (by decide) rfl (fun ls hl => ?_)
      refine lv_aload_n hx hb dX5_saves_32 rfl (lv_at hl 1 rfl) ?_
      refine va_get (D := D) (ci := 5) (v := .ref (a 1)) (C := RX5) (T := TX5) (N := 13) hx hb hts iX5_saves_X5 hown hK.1 hP 0 rfl rfl 1 (by decide) (hts _ qX5_saves_7) (fun _ h9 => h9) rfl dX5_saves_33 ?_
      refine lv_iconst (v := (0 : Int32)) hx hb dX5_saves_36 (by decide) ?_
      refine lv_aload_n hx hb dX5_saves_37 rfl (lv_at hl 1 rfl) ?_
      refine va_get (D := D) (ci := 5) (v := .ref (a 2)) (C := RX5) (T := TX5) (N := 13) hx hb hts iX5_saves_X5 hown hK.1 hP 0 rfl rfl 2 (by decide) (hts _ qX5_saves_13) (fun _ h9 => h9) rfl dX5_saves_38 ?_
      refine lv_iconst (v := (0 : Int32)) hx hb dX5_saves_41 (by decide) ?_
      obtain ⟨u6, h6, hf⟩ := z_bE hf
      obtain ⟨g6, e6, hf⟩ := z_ltE hf
      refine z_cSvC (As := [.ref (a 1), .int (0 : Int32), .ref (a 2), .int (0 : Int32)]) (rest := []) (V := (z_md c a g5)) (V' := (z_md c a g6)) (wf := (fun u : Nat → Int32 => z_cp c (a 1) (a 2) 925 925 (g5 1) u)) (g := g5 2) (u0 := u6) ⟨hx, hb, hml, hown, hts⟩ (kX5_copy l D c N (a 1) (a 2) 925 925 H.size  (g5 1) (g5 2) (0 : Int32) (0 : Int32) u6 h6) (va_cwS 4 hts gX5_saves_X5_copy rfl rfl rfl (by decide +kernel) ⟨Nat.le_of_ble_eq_true rfl, Nat.le_of_ble_eq_true rfl⟩) hP hK hD hS hA [1, 2] [0, 3, 4, 5, 6, 7, 8, 9] [0, 8, 9, 1, 2, 3, 4, 5, 6, 7] rfl rfl (by decide) (by decide) (by decide) (by decide) rfl hl.1 (Nat.le_of_ble_eq_true rfl) rfl dX5_saves_42 ⟨Nat.zero_le _, Nat.zero_le _⟩ (by rw [e6]; rfl) (fun H locs hP hD hS => ?_)
      refine lv_aload_n hx hb dX5_saves_45 rfl (lv_at hl 1 rfl) ?_
      obtain ⟨r7, g7, h7, hf⟩ := z_b2E hf
      refine z_cVi (As := []) (rest := []) (wf := (z_md c a)) (g := g6) (u0 := g7) ⟨hx, hb, hml, hown, hts⟩ (kX5_laid l D c N a H.size g6  r7 g7 h7) (cwV 0 hts gX5_saves_X5_laid rfl rfl rfl (by decide +kernel) ⟨Nat.le_of_ble_eq_true rfl, Nat.le_of_ble_eq_true rfl⟩) hP hK hD hS hA (ci := 5) (q0 := 0) rfl rfl rfl rfl hl.1 (Nat.le_of_ble_eq_true rfl) rfl dX5_saves_46 ⟨Nat.zero_le _, Nat.zero_le _⟩ (fun H locs hP hD hS => ?_)
      refine lv_pop hx hb dX5_saves_49 rfl ?_
      refine lv_aload_n hx hb dX5_saves_50 rfl (lv_at hl 1 rfl) ?_
      refine va_get (D := D) (ci := 5) (v := .ref (a 1)) (C := RX5) (T := TX5) (N := 13) hx hb hts iX5_saves_X5 hown hK.1 hP 0 rfl rfl 1 (by decide) (hts _ qX5_saves_7) (fun _ h9 => h9) rfl dX5_saves_51 ?_
      refine lv_iconst (v := (1 : Int32)) hx hb dX5_saves_54 (by decide) ?_
      refine va_iald hx hb hK.1 hP 1 0 rfl rfl (z_inE (by decide)) dX5_saves_55 ?_
      refine lv_istore_n (lv' := [(3, .int (g7 1 ((1 : Int32)).toNatClampNeg)), (2, .int r5), (0, .ref (a 0)), (1, .int p1)]) hx hb dX5_saves_56 rfl hl (by decide) rfl (fun ls hl => ?_)
      refine lv_aload_n hx hb dX5_saves_57 rfl (lv_at hl 2 rfl) ?_
      refine lv_iload_n hx hb dX5_saves_58 rfl (lv_at hl 3 rfl) ?_
      obtain ⟨r8, g8, h8, hf⟩ := z_b2E hf
      refine z_cVi (As := [.int p1]) (rest := []) (wf := (z_md c a)) (g := g7) (u0 := g8) ⟨hx, hb, hml, hown, hts⟩ (kX5_runs l D c N a H.size g7 p1 r8 g8 h8) (cwV 1 hts gX5_saves_X5_runs rfl rfl rfl (by decide +kernel) ⟨Nat.le_of_ble_eq_true rfl, Nat.le_of_ble_eq_true rfl⟩) hP hK hD hS hA (ci := 5) (q0 := 0) rfl rfl rfl rfl hl.1 (Nat.le_of_ble_eq_true rfl) rfl dX5_saves_59 ⟨Nat.zero_le _, Nat.zero_le _⟩ (fun H locs hP hD hS => ?_)
      refine lv_pop hx hb dX5_saves_62 rfl ?_
      refine lv_aload_n hx hb dX5_saves_63 rfl (lv_at hl 2 rfl) ?_
      refine va_get (D := D) (ci := 5) (v := .ref (a 1)) (C := RX5) (T := TX5) (N := 13) hx hb hts iX5_saves_X5 hown hK.1 hP 0 rfl rfl 1 (by decide) (hts _ qX5_saves_7) (fun _ h9 => h9) rfl dX5_saves_64 ?_
      refine lv_iconst (v := (1 : Int32)) hx hb dX5_saves_67 (by decide) ?_
      refine va_iald hx hb hK.1 hP 1 0 rfl rfl (z_inE (by decide)) dX5_saves_68 ?_
      refine lv_iload_n hx hb dX5_saves_69 rfl (lv_at hl 0 rfl) ?_
      refine lv_isub hx hb dX5_saves_70 ?_
      refine lv_istore (lv' := [(4, .int ((g8 1 ((1 : Int32)).toNatClampNeg) - (g7 1 ((1 : Int32)).toNatClampNeg))), (3, .int (g7 1 ((1 : Int32)).toNatClampNeg)), (2, .int r5), (0, .ref (a 0)), (1, .int p1)]) hx hb dX5_saves_71 hl (by decide) rfl (fun ls hl => ?_)
      refine lv_aload_n hx hb dX5_saves_73 rfl (lv_at hl 3 rfl) ?_
      refine va_get (D := D) (ci := 5) (v := .ref (a 2)) (C := RX5) (T := TX5) (N := 13) hx hb hts iX5_saves_X5 hown hK.1 hP 0 rfl rfl 2 (by decide) (hts _ qX5_saves_13) (fun _ h9 => h9) rfl dX5_saves_74 ?_
      refine lv_iconst (v := (0 : Int32)) hx hb dX5_saves_77 (by decide) ?_
      refine lv_aload_n hx hb dX5_saves_78 rfl (lv_at hl 3 rfl) ?_
      refine va_get (D := D) (ci := 5) (v := .ref (a 1)) (C := RX5) (T := TX5) (N := 13) hx hb hts iX5_saves_X5 hown hK.1 hP 0 rfl rfl 1 (by decide) (hts _ qX5_saves_7) (fun _ h9 => h9) rfl dX5_saves_79 ?_
      refine lv_iconst (v := (0 : Int32)) hx hb dX5_saves_82 (by decide) ?_
      obtain ⟨u9, h9, hf⟩ := z_bE hf
      obtain ⟨g9, e9, hf⟩ := z_ltE hf
      refine z_cSvC (As := [.ref (a 2), .int (0 : Int32), .ref (a 1), .int (0 : Int32)]) (rest := []) (V := (z_md c a g8)) (V' := (z_md c a g9)) (wf := (fun u : Nat → Int32 => z_cp c (a 2) (a 1) 925 925 (g8 2) u)) (g := g8 1) (u0 := u9) ⟨hx, hb, hml, hown, hts⟩ (kX5_copy l D c N (a 2) (a 1) 925 925 H.size  (g8 2) (g8 1) (0 : Int32) (0 : Int32) u9 h9) (va_cwS 4 hts gX5_saves_X5_copy rfl rfl rfl (by decide +kernel) ⟨Nat.le_of_ble_eq_true rfl, Nat.le_of_ble_eq_true rfl⟩) hP hK hD hS hA [2, 1] [0, 3, 4, 5, 6, 7, 8, 9] [0, 9, 8, 1, 2, 3, 4, 5, 6, 7] rfl rfl (by decide) (by decide) (by decide) (by decide) rfl hl.1 (Nat.le_of_ble_eq_true rfl) rfl dX5_saves_83 ⟨Nat.zero_le _, Nat.zero_le _⟩ (by rw [e9]; rfl) (fun H locs hP hD hS => ?_)
      refine lv_iload_n hx hb dX5_saves_86 rfl (lv_at hl 2 rfl) ?_
      refine lv_iload hx hb dX5_saves_87 (lv_at hl 0 rfl) ?_
      refine lv_isub hx hb dX5_saves_89 ?_
      exact z_ri (wf := (z_md c a)) hx hb hr hlocks hP hD hS hf dX5_saves_90
    · have hf := z_ifF hf c4
      refine lv_iconst (v := (0 : Int32)) hx hb dX5_saves_24 (by decide) ?_
      exact z_ri (wf := (z_md c a)) hx hb hr hlocks hP hD hS hf dX5_saves_25
  · have hf := z_ifF hf c2
    refine lv_iconst (v := (0 : Int32)) hx hb dX5_saves_9 (by decide) ?_
    refine lv_goto (tgt := 14) hx hb dX5_saves_10 (by decide) ?_
    refine va_put (D := D) (ci := 5) (v := .int (0 : Int32)) (ty := .int) (C := RX5) (T := TX5) (N := 13) hx hb hts iX5_saves_X5 tyX5 tyX5_ok nmX5 hown hK.1 hP hD hS 0 rfl rfl 0 (by decide) (hts _ qX5_saves_37) (fun _ h9 => h9) rfl (by decide +kernel) rfl rfl (Nat.le_of_ble_eq_true rfl) dX5_saves_14 (fun H locs hP hD hS => ?_)
    obtain ⟨g10, e10, hf⟩ := z_ltE hf
    have hP : va_P D vwCl (z_md c a g10) H := by rw [e10]; exact hP
    have hD : va_D A (z_md c a g10) := by rw [e10]; exact hD
    clear e10
    refine lv_aload_n hx hb dX5_saves_17 rfl (lv_at hl 0 rfl) ?_
    refine va_get (D := D) (ci := 5) (v := .int (g10 0 0)) (C := RX5) (T := TX5) (N := 13) hx hb hts iX5_saves_X5 hown hK.1 hP 0 rfl rfl 0 (by decide) (hts _ qX5_saves_37) (fun _ h9 => h9) rfl dX5_saves_18 ?_
    refine lv_if_le (tgt := 26) hx hb dX5_saves_21 (by decide) (fun c11 => ?_) (fun c11 => ?_)
    · have hf := z_ifT hf c11
      refine lv_aload_n hx hb dX5_saves_26 rfl (lv_at hl 0 rfl) ?_
      refine lv_iload_n hx hb dX5_saves_27 rfl (lv_at hl 1 rfl) ?_
      obtain ⟨r12, g12, h12, hf⟩ := z_b2E hf
      refine z_cVi (As := [.int p1]) (rest := []) (wf := (z_md c a)) (g := g10) (u0 := g12) ⟨hx, hb, hml, hown, hts⟩ (kX5_ticksOf l D c N a H.size g10 p1 r12 g12 h12) (cwV 1 hts gX5_saves_X5_ticksOf rfl rfl rfl (by decide +kernel) ⟨Nat.le_of_ble_eq_true rfl, Nat.le_of_ble_eq_true rfl⟩) hP hK hD hS hA (ci := 5) (q0 := 0) rfl rfl rfl rfl hl.1 (Nat.le_of_ble_eq_true rfl) rfl dX5_saves_28 ⟨Nat.zero_le _, Nat.zero_le _⟩ (fun H locs hP hD hS => ?_)
      refine lv_istore_n (lv' := [(2, .int r12), (0, .ref (a 0)), (1, .int p1)]) hx hb dX5_saves_31 rfl hl (by decide) rfl (fun ls hl => ?_)
      refine lv_aload_n hx hb dX5_saves_32 rfl (lv_at hl 1 rfl) ?_
      refine va_get (D := D) (ci := 5) (v := .ref (a 1)) (C := RX5) (T := TX5) (N := 13) hx hb hts iX5_saves_X5 hown hK.1 hP 0 rfl rfl 1 (by decide) (hts _ qX5_saves_7) (fun _ h9 => h9) rfl dX5_saves_33 ?_
      refine lv_iconst (v := (0 : Int32)) hx hb dX5_saves_36 (by decide) ?_
      refine lv_aload_n hx hb dX5_saves_37 rfl (lv_at hl 1 rfl) ?_
      refine va_get (D := D) (ci := 5) (v := .ref (a 2)) (C := RX5) (T := TX5) (N := 13) hx hb hts iX5_saves_X5 hown hK.1 hP 0 rfl rfl 2 (by decide) (hts _ qX5_saves_13) (fun _ h9 => h9) rfl dX5_saves_38 ?_
      refine lv_iconst (v := (0 : Int32)) hx hb dX5_saves_41 (by decide) ?_
      obtain ⟨u13, h13, hf⟩ := z_bE hf
      obtain ⟨g13, e13, hf⟩ := z_ltE hf
      refine z_cSvC (As := [.ref (a 1), .int (0 : Int32), .ref (a 2), .int (0 : Int32)]) (rest := []) (V := (z_md c a g12)) (V' := (z_md c a g13)) (wf := (fun u : Nat → Int32 => z_cp c (a 1) (a 2) 925 925 (g12 1) u)) (g := g12 2) (u0 := u13) ⟨hx, hb, hml, hown, hts⟩ (kX5_copy l D c N (a 1) (a 2) 925 925 H.size  (g12 1) (g12 2) (0 : Int32) (0 : Int32) u13 h13) (va_cwS 4 hts gX5_saves_X5_copy rfl rfl rfl (by decide +kernel) ⟨Nat.le_of_ble_eq_true rfl, Nat.le_of_ble_eq_true rfl⟩) hP hK hD hS hA [1, 2] [0, 3, 4, 5, 6, 7, 8, 9] [0, 8, 9, 1, 2, 3, 4, 5, 6, 7] rfl rfl (by decide) (by decide) (by decide) (by decide) rfl hl.1 (Nat.le_of_ble_eq_true rfl) rfl dX5_saves_42 ⟨Nat.zero_le _, Nat.zero_le _⟩ (by rw [e13]; rfl) (fun H locs hP hD hS => ?_)
      refine lv_aload_n hx hb dX5_saves_45 rfl (lv_at hl 1 rfl) ?_
      obtain ⟨r14, g14, h14, hf⟩ := z_b2E hf
      refine z_cVi (As := []) (rest := []) (wf := (z_md c a)) (g := g13) (u0 := g14) ⟨hx, hb, hml, hown, hts⟩ (kX5_laid l D c N a H.size g13  r14 g14 h14) (cwV 0 hts gX5_saves_X5_laid rfl rfl rfl (by decide +kernel) ⟨Nat.le_of_ble_eq_true rfl, Nat.le_of_ble_eq_true rfl⟩) hP hK hD hS hA (ci := 5) (q0 := 0) rfl rfl rfl rfl hl.1 (Nat.le_of_ble_eq_true rfl) rfl dX5_saves_46 ⟨Nat.zero_le _, Nat.zero_le _⟩ (fun H locs hP hD hS => ?_)
      refine lv_pop hx hb dX5_saves_49 rfl ?_
      refine lv_aload_n hx hb dX5_saves_50 rfl (lv_at hl 1 rfl) ?_
      refine va_get (D := D) (ci := 5) (v := .ref (a 1)) (C := RX5) (T := TX5) (N := 13) hx hb hts iX5_saves_X5 hown hK.1 hP 0 rfl rfl 1 (by decide) (hts _ qX5_saves_7) (fun _ h9 => h9) rfl dX5_saves_51 ?_
      refine lv_iconst (v := (1 : Int32)) hx hb dX5_saves_54 (by decide) ?_
      refine va_iald hx hb hK.1 hP 1 0 rfl rfl (z_inE (by decide)) dX5_saves_55 ?_
      refine lv_istore_n (lv' := [(3, .int (g14 1 ((1 : Int32)).toNatClampNeg)), (2, .int r12), (0, .ref (a 0)), (1, .int p1)]) hx hb dX5_saves_56 rfl hl (by decide) rfl (fun ls hl => ?_)
      refine lv_aload_n hx hb dX5_saves_57 rfl (lv_at hl 2 rfl) ?_
      refine lv_iload_n hx hb dX5_saves_58 rfl (lv_at hl 3 rfl) ?_
      obtain ⟨r15, g15, h15, hf⟩ := z_b2E hf
      refine z_cVi (As := [.int p1]) (rest := []) (wf := (z_md c a)) (g := g14) (u0 := g15) ⟨hx, hb, hml, hown, hts⟩ (kX5_runs l D c N a H.size g14 p1 r15 g15 h15) (cwV 1 hts gX5_saves_X5_runs rfl rfl rfl (by decide +kernel) ⟨Nat.le_of_ble_eq_true rfl, Nat.le_of_ble_eq_true rfl⟩) hP hK hD hS hA (ci := 5) (q0 := 0) rfl rfl rfl rfl hl.1 (Nat.le_of_ble_eq_true rfl) rfl dX5_saves_59 ⟨Nat.zero_le _, Nat.zero_le _⟩ (fun H locs hP hD hS => ?_)
      refine lv_pop hx hb dX5_saves_62 rfl ?_
      refine lv_aload_n hx hb dX5_saves_63 rfl (lv_at hl 2 rfl) ?_
      refine va_get (D := D) (ci := 5) (v := .ref (a 1)) (C := RX5) (T := TX5) (N := 13) hx hb hts iX5_saves_X5 hown hK.1 hP 0 rfl rfl 1 (by decide) (hts _ qX5_saves_7) (fun _ h9 => h9) rfl dX5_saves_64 ?_
      refine lv_iconst (v := (1 : Int32)) hx hb dX5_saves_67 (by decide) ?_
      refine va_iald hx hb hK.1 hP 1 0 rfl rfl (z_inE (by decide)) dX5_saves_68 ?_
      refine lv_iload_n hx hb dX5_saves_69 rfl (lv_at hl 0 rfl) ?_
      refine lv_isub hx hb dX5_saves_70 ?_
      refine lv_istore (lv' := [(4, .int ((g15 1 ((1 : Int32)).toNatClampNeg) - (g14 1 ((1 : Int32)).toNatClampNeg))), (3, .int (g14 1 ((1 : Int32)).toNatClampNeg)), (2, .int r12), (0, .ref (a 0)), (1, .int p1)]) hx hb dX5_saves_71 hl (by decide) rfl (fun ls hl => ?_)
      refine lv_aload_n hx hb dX5_saves_73 rfl (lv_at hl 3 rfl) ?_
      refine va_get (D := D) (ci := 5) (v := .ref (a 2)) (C := RX5) (T := TX5) (N := 13) hx hb hts iX5_saves_X5 hown hK.1 hP 0 rfl rfl 2 (by decide) (hts _ qX5_saves_13) (fun _ h9 => h9) rfl dX5_saves_74 ?_
      refine lv_iconst (v := (0 : Int32)) hx hb dX5_saves_77 (by decide) ?_
      refine lv_aload_n hx hb dX5_saves_78 rfl (lv_at hl 3 rfl) ?_
      refine va_get (D := D) (ci := 5) (v := .ref (a 1)) (C := RX5) (T := TX5) (N := 13) hx hb hts iX5_saves_X5 hown hK.1 hP 0 rfl rfl 1 (by decide) (hts _ qX5_saves_7) (fun _ h9 => h9) rfl dX5_saves_79 ?_
      refine lv_iconst (v := (0 : Int32)) hx hb dX5_saves_82 (by decide) ?_
      obtain ⟨u16, h16, hf⟩ := z_bE hf
      obtain ⟨g16, e16, hf⟩ := z_ltE hf
      refine z_cSvC (As := [.ref (a 2), .int (0 : Int32), .ref (a 1), .int (0 : Int32)]) (rest := []) (V := (z_md c a g15)) (V' := (z_md c a g16)) (wf := (fun u : Nat → Int32 => z_cp c (a 2) (a 1) 925 925 (g15 2) u)) (g := g15 1) (u0 := u16) ⟨hx, hb, hml, hown, hts⟩ (kX5_copy l D c N (a 2) (a 1) 925 925 H.size  (g15 2) (g15 1) (0 : Int32) (0 : Int32) u16 h16) (va_cwS 4 hts gX5_saves_X5_copy rfl rfl rfl (by decide +kernel) ⟨Nat.le_of_ble_eq_true rfl, Nat.le_of_ble_eq_true rfl⟩) hP hK hD hS hA [2, 1] [0, 3, 4, 5, 6, 7, 8, 9] [0, 9, 8, 1, 2, 3, 4, 5, 6, 7] rfl rfl (by decide) (by decide) (by decide) (by decide) rfl hl.1 (Nat.le_of_ble_eq_true rfl) rfl dX5_saves_83 ⟨Nat.zero_le _, Nat.zero_le _⟩ (by rw [e16]; rfl) (fun H locs hP hD hS => ?_)
      refine lv_iload_n hx hb dX5_saves_86 rfl (lv_at hl 2 rfl) ?_
      refine lv_iload hx hb dX5_saves_87 (lv_at hl 0 rfl) ?_
      refine lv_isub hx hb dX5_saves_89 ?_
      exact z_ri (wf := (z_md c a)) hx hb hr hlocks hP hD hS hf dX5_saves_90
    · have hf := z_ifF hf c11
      refine lv_iconst (v := (0 : Int32)) hx hb dX5_saves_24 (by decide) ?_
      exact z_ri (wf := (z_md c a)) hx hb hr hlocks hP hD hS hf dX5_saves_25
abbrev rmX5_changes : Room := { frames := 3, cells := 0, slots := 0, locals := 63 }
set_option maxRecDepth 100000 in
set_option maxHeartbeats 4000000 in
theorem kX5_changes (l : Launch) (D : va_G) (c : Nat → ClassId) (N : Nat) (a : Nat → Nat) (sz : Nat) (g : z_R) (p1 : Int32) (p2 : Int32) (p3 : Int32) (r0 : Int32) (g0 : z_R) (hf : fX5_changes N p1 p2 p3 g = some (r0, g0)) : Met l yX5_changes wsX5_changes rmX5_changes (z_Pc D c sz (z_md c a g) [.ref (a 0), .int p1, .int p2, .int p3]) (z_Qi D (z_md c a) r0 g0 (va_A (z_md c a g) sz)) 0 0 (va_A (z_md c a g) sz) := by
  refine z_ofM (cc := cX5_changes) (maxL := 5) (ret := (some .boolean)) (Qf := fun A => z_Qi D (z_md c a) r0 g0 A) (plainFor_of_name (by decide)) rfl (Nat.le_of_ble_eq_true rfl) ?_
  intro p e s m args below meth co A ls hx hb hr hml hts hown hlocks hnm hA hP hK hD hl hsz
  have hl : lv_has ls 5 [(0, .ref (a 0)), (1, .int p1), (2, .int p2), (3, .int p3)] := hl
  have hown : s.vm.findClass RX5 = some m.cls := hown
  obtain ⟨H, hH⟩ : ∃ H, H = s.heap := ⟨_, rfl⟩
  have hS : va_S A s.heap H [] := by rw [hH]; exact va_S.rf
  rw [← hH] at hP ⊢
  clear hH
  unfold fX5_changes at hf
  generalize ([] : List Loc) = locs at hS ⊢
  refine lv_aload_n hx hb dX5_changes_0 rfl (lv_at hl 0 rfl) ?_
  refine lv_iload_n hx hb dX5_changes_1 rfl (lv_at hl 1 rfl) ?_
  obtain ⟨r1, h1, hf⟩ := z_bE hf
  refine z_cVi (As := [.int p1]) (rest := []) (wf := (z_md c a)) (g := g) (u0 := g) ⟨hx, hb, hml, hown, hts⟩ (kX5_isOrder l D c N a H.size g p1 r1 h1) (cwV 1 hts gX5_changes_X5_isOrder rfl rfl rfl (by decide +kernel) ⟨Nat.le_of_ble_eq_true rfl, Nat.le_of_ble_eq_true rfl⟩) hP hK hD hS hA (ci := 5) (q0 := 0) rfl rfl rfl rfl hl.1 (Nat.le_of_ble_eq_true rfl) rfl dX5_changes_2 ⟨Nat.zero_le _, Nat.zero_le _⟩ (fun H locs hP hD hS => ?_)
  refine lv_if_eq (tgt := 20) hx hb dX5_changes_5 (by decide) (fun c2 => ?_) (fun c2 => ?_)
  · have hf := z_ifT hf c2
    refine lv_iconst (v := (0 : Int32)) hx hb dX5_changes_20 (by decide) ?_
    refine lv_istore (lv' := [(4, .int (0 : Int32)), (0, .ref (a 0)), (1, .int p1), (2, .int p2), (3, .int p3)]) hx hb dX5_changes_21 hl (by decide) rfl (fun ls hl => ?_)
    refine lv_iload hx hb dX5_changes_23 (lv_at hl 0 rfl) ?_
    refine lv_if_eq (tgt := 35) hx hb dX5_changes_25 (by decide) (fun _ => ?_) (fun c => absurd c (by decide))
    refine lv_iload hx hb dX5_changes_35 (lv_at hl 0 rfl) ?_
    exact z_zi (wf := (z_md c a)) hx hb hr rfl hlocks hP hD hS hf dX5_changes_37
  · have hf := z_ifF hf c2
    refine lv_iload_n hx hb dX5_changes_8 rfl (lv_at hl 2 rfl) ?_
    refine lv_iload_n hx hb dX5_changes_9 rfl (lv_at hl 3 rfl) ?_
    obtain ⟨r3, h3, hf⟩ := z_bE hf
    refine z_cSi (As := [.int p2, .int p3]) (rest := []) ⟨hx, hb, hml, hown, hts⟩ (kX5_isInRange l D c N H.size p2 p3 r3 h3) (va_cwS 2 hts gX5_changes_X5_isInRange rfl rfl rfl (by decide +kernel) ⟨Nat.le_of_ble_eq_true rfl, Nat.le_of_ble_eq_true rfl⟩) hP hK hS hA rfl hl.1 (Nat.le_of_ble_eq_true rfl) rfl dX5_changes_10 ⟨Nat.zero_le _, Nat.zero_le _⟩ (fun H locs hP hS => ?_)
    refine lv_if_eq (tgt := 20) hx hb dX5_changes_13 (by decide) (fun c4 => ?_) (fun c4 => ?_)
    · have hf := z_ifT hf c4
      refine lv_iconst (v := (0 : Int32)) hx hb dX5_changes_20 (by decide) ?_
      refine lv_istore (lv' := [(4, .int (0 : Int32)), (0, .ref (a 0)), (1, .int p1), (2, .int p2), (3, .int p3)]) hx hb dX5_changes_21 hl (by decide) rfl (fun ls hl => ?_)
      refine lv_iload hx hb dX5_changes_23 (lv_at hl 0 rfl) ?_
      refine lv_if_eq (tgt := 35) hx hb dX5_changes_25 (by decide) (fun _ => ?_) (fun c => absurd c (by decide))
      refine lv_iload hx hb dX5_changes_35 (lv_at hl 0 rfl) ?_
      exact z_zi (wf := (z_md c a)) hx hb hr rfl hlocks hP hD hS hf dX5_changes_37
    · have hf := z_ifF hf c4
      refine lv_iconst (v := (1 : Int32)) hx hb dX5_changes_16 (by decide) ?_
      refine lv_goto (tgt := 21) hx hb dX5_changes_17 (by decide) ?_
      refine lv_istore (lv' := [(4, .int (1 : Int32)), (0, .ref (a 0)), (1, .int p1), (2, .int p2), (3, .int p3)]) hx hb dX5_changes_21 hl (by decide) rfl (fun ls hl => ?_)
      refine lv_iload hx hb dX5_changes_23 (lv_at hl 0 rfl) ?_
      refine lv_if_eq (tgt := 35) hx hb dX5_changes_25 (by decide) (fun c => absurd c (by decide)) (fun _ => ?_)
      refine lv_aload_n hx hb dX5_changes_28 rfl (lv_at hl 1 rfl) ?_
      refine lv_iload_n hx hb dX5_changes_29 rfl (lv_at hl 2 rfl) ?_
      refine lv_iload_n hx hb dX5_changes_30 rfl (lv_at hl 3 rfl) ?_
      refine lv_iload_n hx hb dX5_changes_31 rfl (lv_at hl 4 rfl) ?_
      obtain ⟨g5, h5, hf⟩ := z_bE hf
      refine z_cVv (As := [.int p1, .int p2, .int p3]) (rest := []) (wf := (z_md c a)) (g := g) (u0 := g5) ⟨hx, hb, hml, hown, hts⟩ (kX5_setPart l D c N a H.size g p1 p2 p3 g5 h5) (cwV 3 hts gX5_changes_X5_setPart rfl rfl rfl (by decide +kernel) ⟨Nat.le_of_ble_eq_true rfl, Nat.le_of_ble_eq_true rfl⟩) hP hK hD hS hA (ci := 5) (q0 := 0) rfl rfl rfl rfl hl.1 (Nat.le_of_ble_eq_true rfl) rfl dX5_changes_32 ⟨Nat.zero_le _, Nat.zero_le _⟩ (fun H locs hP hD hS => ?_)
      refine lv_iload hx hb dX5_changes_35 (lv_at hl 0 rfl) ?_
      exact z_zi (wf := (z_md c a)) hx hb hr rfl hlocks hP hD hS hf dX5_changes_37
abbrev rmX5_moves : Room := { frames := 3, cells := 0, slots := 0, locals := 68 }
set_option maxRecDepth 100000 in
set_option maxHeartbeats 4000000 in
theorem kX5_moves (l : Launch) (D : va_G) (c : Nat → ClassId) (N : Nat) (a : Nat → Nat) (sz : Nat) (g : z_R) (p1 : Int32) (p2 : Int32) (r0 : Int32) (g0 : z_R) (hf : fX5_moves N p1 p2 g = some (r0, g0)) : Met l yX5_moves wsX5_moves rmX5_moves (z_Pc D c sz (z_md c a g) [.ref (a 0), .int p1, .int p2]) (z_Qi D (z_md c a) r0 g0 (va_A (z_md c a g) sz)) 0 0 (va_A (z_md c a g) sz) := by
  refine z_ofM (cc := cX5_moves) (maxL := 4) (ret := (some .boolean)) (Qf := fun A => z_Qi D (z_md c a) r0 g0 A) (plainFor_of_name (by decide)) rfl (Nat.le_of_ble_eq_true rfl) ?_
  intro p e s m args below meth co A ls hx hb hr hml hts hown hlocks hnm hA hP hK hD hl hsz
  have hl : lv_has ls 4 [(0, .ref (a 0)), (1, .int p1), (2, .int p2)] := hl
  have hown : s.vm.findClass RX5 = some m.cls := hown
  obtain ⟨H, hH⟩ : ∃ H, H = s.heap := ⟨_, rfl⟩
  have hS : va_S A s.heap H [] := by rw [hH]; exact va_S.rf
  rw [← hH] at hP ⊢
  clear hH
  unfold fX5_moves at hf
  generalize ([] : List Loc) = locs at hS ⊢
  refine lv_aload_n hx hb dX5_moves_0 rfl (lv_at hl 0 rfl) ?_
  refine lv_iload_n hx hb dX5_moves_1 rfl (lv_at hl 1 rfl) ?_
  refine lv_iload_n hx hb dX5_moves_2 rfl (lv_at hl 2 rfl) ?_
  obtain ⟨r1, h1, hf⟩ := z_bE hf
  refine z_cVi (As := [.int p1, .int p2]) (rest := []) (wf := (z_md c a)) (g := g) (u0 := g) ⟨hx, hb, hml, hown, hts⟩ (kX5_whyNotMoved l D c N a H.size g p1 p2 r1 h1) (cwV 2 hts gX5_moves_X5_whyNotMoved rfl rfl rfl (by decide +kernel) ⟨Nat.le_of_ble_eq_true rfl, Nat.le_of_ble_eq_true rfl⟩) hP hK hD hS hA (ci := 5) (q0 := 0) rfl rfl rfl rfl hl.1 (Nat.le_of_ble_eq_true rfl) rfl dX5_moves_3 ⟨Nat.zero_le _, Nat.zero_le _⟩ (fun H locs hP hD hS => ?_)
  refine lv_if_ne (tgt := 13) hx hb dX5_moves_6 (by decide) (fun c2 => ?_) (fun c2 => ?_)
  · have hf := z_ifF hf c2
    refine lv_iconst (v := (0 : Int32)) hx hb dX5_moves_13 (by decide) ?_
    refine lv_istore_n (lv' := [(3, .int (0 : Int32)), (0, .ref (a 0)), (1, .int p1), (2, .int p2)]) hx hb dX5_moves_14 rfl hl (by decide) rfl (fun ls hl => ?_)
    refine lv_iload_n hx hb dX5_moves_15 rfl (lv_at hl 0 rfl) ?_
    refine lv_if_eq (tgt := 26) hx hb dX5_moves_16 (by decide) (fun _ => ?_) (fun c => absurd c (by decide))
    refine lv_iload_n hx hb dX5_moves_26 rfl (lv_at hl 0 rfl) ?_
    exact z_zi (wf := (z_md c a)) hx hb hr rfl hlocks hP hD hS hf dX5_moves_27
  · have hf := z_ifT hf c2
    refine lv_iconst (v := (1 : Int32)) hx hb dX5_moves_9 (by decide) ?_
    refine lv_goto (tgt := 14) hx hb dX5_moves_10 (by decide) ?_
    refine lv_istore_n (lv' := [(3, .int (1 : Int32)), (0, .ref (a 0)), (1, .int p1), (2, .int p2)]) hx hb dX5_moves_14 rfl hl (by decide) rfl (fun ls hl => ?_)
    refine lv_iload_n hx hb dX5_moves_15 rfl (lv_at hl 0 rfl) ?_
    refine lv_if_eq (tgt := 26) hx hb dX5_moves_16 (by decide) (fun c => absurd c (by decide)) (fun _ => ?_)
    refine lv_aload_n hx hb dX5_moves_19 rfl (lv_at hl 1 rfl) ?_
    refine lv_iload_n hx hb dX5_moves_20 rfl (lv_at hl 2 rfl) ?_
    refine lv_iload_n hx hb dX5_moves_21 rfl (lv_at hl 3 rfl) ?_
    obtain ⟨r3, g3, h3, hf⟩ := z_b2E hf
    refine z_cVi (As := [.int p1, .int p2]) (rest := []) (wf := (z_md c a)) (g := g) (u0 := g3) ⟨hx, hb, hml, hown, hts⟩ (kX5_moved l D c N a H.size g p1 p2 r3 g3 h3) (cwV 2 hts gX5_moves_X5_moved rfl rfl rfl (by decide +kernel) ⟨Nat.le_of_ble_eq_true rfl, Nat.le_of_ble_eq_true rfl⟩) hP hK hD hS hA (ci := 5) (q0 := 0) rfl rfl rfl rfl hl.1 (Nat.le_of_ble_eq_true rfl) rfl dX5_moves_22 ⟨Nat.zero_le _, Nat.zero_le _⟩ (fun H locs hP hD hS => ?_)
    refine lv_pop hx hb dX5_moves_25 rfl ?_
    refine lv_iload_n hx hb dX5_moves_26 rfl (lv_at hl 0 rfl) ?_
    exact z_zi (wf := (z_md c a)) hx hb hr rfl hlocks hP hD hS hf dX5_moves_27
abbrev rmX5_runsFrom : Room := { frames := 4, cells := 0, slots := 0, locals := 93 }
set_option maxRecDepth 100000 in
set_option maxHeartbeats 4000000 in
theorem kX5_runsFrom (l : Launch) (D : va_G) (c : Nat → ClassId) (N : Nat) (a : Nat → Nat) (sz : Nat) (g : z_R) (p1 : Int32) (r0 : Int32) (g0 : z_R) (hf : fX5_runsFrom N p1 g = some (r0, g0)) : Met l yX5_runsFrom wsX5_runsFrom rmX5_runsFrom (z_Pc D c sz (z_md c a g) [.ref (a 0), .int p1]) (z_Qi D (z_md c a) r0 g0 (va_A (z_md c a g) sz)) 0 0 (va_A (z_md c a g) sz) := by
  refine z_ofM (cc := cX5_runsFrom) (maxL := 3) (ret := (some .boolean)) (Qf := fun A => z_Qi D (z_md c a) r0 g0 A) (plainFor_of_name (by decide)) rfl (Nat.le_of_ble_eq_true rfl) ?_
  intro p e s m args below meth co A ls hx hb hr hml hts hown hlocks hnm hA hP hK hD hl hsz
  have hl : lv_has ls 3 [(0, .ref (a 0)), (1, .int p1)] := hl
  have hown : s.vm.findClass RX5 = some m.cls := hown
  obtain ⟨H, hH⟩ : ∃ H, H = s.heap := ⟨_, rfl⟩
  have hS : va_S A s.heap H [] := by rw [hH]; exact va_S.rf
  rw [← hH] at hP ⊢
  clear hH
  unfold fX5_runsFrom at hf
  generalize ([] : List Loc) = locs at hS ⊢
  refine lv_aload_n hx hb dX5_runsFrom_0 rfl (lv_at hl 0 rfl) ?_
  refine lv_iload_n hx hb dX5_runsFrom_1 rfl (lv_at hl 1 rfl) ?_
  obtain ⟨r1, h1, hf⟩ := z_bE hf
  refine z_cVi (As := [.int p1]) (rest := []) (wf := (z_md c a)) (g := g) (u0 := g) ⟨hx, hb, hml, hown, hts⟩ (kX5_isOrder l D c N a H.size g p1 r1 h1) (cwV 1 hts gX5_runsFrom_X5_isOrder rfl rfl rfl (by decide +kernel) ⟨Nat.le_of_ble_eq_true rfl, Nat.le_of_ble_eq_true rfl⟩) hP hK hD hS hA (ci := 5) (q0 := 0) rfl rfl rfl rfl hl.1 (Nat.le_of_ble_eq_true rfl) rfl dX5_runsFrom_2 ⟨Nat.zero_le _, Nat.zero_le _⟩ (fun H locs hP hD hS => ?_)
  refine lv_istore_n (lv' := [(2, .int r1), (0, .ref (a 0)), (1, .int p1)]) hx hb dX5_runsFrom_5 rfl hl (by decide) rfl (fun ls hl => ?_)
  refine lv_iload_n hx hb dX5_runsFrom_6 rfl (lv_at hl 0 rfl) ?_
  refine lv_if_eq (tgt := 16) hx hb dX5_runsFrom_7 (by decide) (fun c2 => ?_) (fun c2 => ?_)
  · have hf := z_ifT hf c2
    refine lv_iload_n hx hb dX5_runsFrom_16 rfl (lv_at hl 0 rfl) ?_
    obtain ⟨b3, hf⟩ := z_ckE hf
    exact z_zi (wf := (z_md c a)) hx hb hr (z_boE b3) hlocks hP hD hS hf dX5_runsFrom_17
  · have hf := z_ifF hf c2
    refine lv_aload_n hx hb dX5_runsFrom_10 rfl (lv_at hl 1 rfl) ?_
    refine lv_iload_n hx hb dX5_runsFrom_11 rfl (lv_at hl 2 rfl) ?_
    obtain ⟨r4, g4, h4, hf⟩ := z_b2E hf
    refine z_cVi (As := [.int p1]) (rest := []) (wf := (z_md c a)) (g := g) (u0 := g4) ⟨hx, hb, hml, hown, hts⟩ (kX5_runs l D c N a H.size g p1 r4 g4 h4) (cwV 1 hts gX5_runsFrom_X5_runs rfl rfl rfl (by decide +kernel) ⟨Nat.le_of_ble_eq_true rfl, Nat.le_of_ble_eq_true rfl⟩) hP hK hD hS hA (ci := 5) (q0 := 0) rfl rfl rfl rfl hl.1 (Nat.le_of_ble_eq_true rfl) rfl dX5_runsFrom_12 ⟨Nat.zero_le _, Nat.zero_le _⟩ (fun H locs hP hD hS => ?_)
    refine lv_pop hx hb dX5_runsFrom_15 rfl ?_
    refine lv_iload_n hx hb dX5_runsFrom_16 rfl (lv_at hl 0 rfl) ?_
    obtain ⟨b5, hf⟩ := z_ckE hf
    exact z_zi (wf := (z_md c a)) hx hb hr (z_boE b5) hlocks hP hD hS hf dX5_runsFrom_17
abbrev rmX5_lays : Room := { frames := 4, cells := 0, slots := 0, locals := 92 }
set_option maxRecDepth 100000 in
set_option maxHeartbeats 4000000 in
theorem kX5_lays (l : Launch) (D : va_G) (c : Nat → ClassId) (N : Nat) (a : Nat → Nat) (sz : Nat) (g : z_R) (r0 : Int32) (g0 : z_R) (hf : fX5_lays N g = some (r0, g0)) : Met l yX5_lays wsX5_lays rmX5_lays (z_Pc D c sz (z_md c a g) [.ref (a 0)]) (z_Qi D (z_md c a) r0 g0 (va_A (z_md c a g) sz)) 0 0 (va_A (z_md c a g) sz) := by
  refine z_ofM (cc := cX5_lays) (maxL := 1) (ret := (some .boolean)) (Qf := fun A => z_Qi D (z_md c a) r0 g0 A) (plainFor_of_name (by decide)) rfl (Nat.le_of_ble_eq_true rfl) ?_
  intro p e s m args below meth co A ls hx hb hr hml hts hown hlocks hnm hA hP hK hD hl hsz
  have hl : lv_has ls 1 [(0, .ref (a 0))] := hl
  have hown : s.vm.findClass RX5 = some m.cls := hown
  obtain ⟨H, hH⟩ : ∃ H, H = s.heap := ⟨_, rfl⟩
  have hS : va_S A s.heap H [] := by rw [hH]; exact va_S.rf
  rw [← hH] at hP ⊢
  clear hH
  unfold fX5_lays at hf
  generalize ([] : List Loc) = locs at hS ⊢
  refine lv_aload_n hx hb dX5_lays_0 rfl (lv_at hl 0 rfl) ?_
  obtain ⟨r1, g1, h1, hf⟩ := z_b2E hf
  refine z_cVi (As := []) (rest := []) (wf := (z_md c a)) (g := g) (u0 := g1) ⟨hx, hb, hml, hown, hts⟩ (kX5_laid l D c N a H.size g  r1 g1 h1) (cwV 0 hts gX5_lays_X5_laid rfl rfl rfl (by decide +kernel) ⟨Nat.le_of_ble_eq_true rfl, Nat.le_of_ble_eq_true rfl⟩) hP hK hD hS hA (ci := 5) (q0 := 0) rfl rfl rfl rfl hl.1 (Nat.le_of_ble_eq_true rfl) rfl dX5_lays_1 ⟨Nat.zero_le _, Nat.zero_le _⟩ (fun H locs hP hD hS => ?_)
  refine lv_pop hx hb dX5_lays_4 rfl ?_
  refine lv_iconst (v := (1 : Int32)) hx hb dX5_lays_5 (by decide) ?_
  exact z_zi (wf := (z_md c a)) hx hb hr rfl hlocks hP hD hS hf dX5_lays_6
abbrev rmX5_turns : Room := { frames := 0, cells := 0, slots := 0, locals := 0 }
theorem qX5_turns_7 : Cond.fieldLink RX5 7 "ProgramDrumModel" "state" "[I" ∈ wsX5_turns := by decide +kernel
theorem iX5_turns_X5 : ∀ w ∈ wsX50, w ∈ wsX5_turns := by decide +kernel
set_option maxRecDepth 100000 in
set_option maxHeartbeats 4000000 in
theorem kX5_turns (l : Launch) (D : va_G) (c : Nat → ClassId) (N : Nat) (a : Nat → Nat) (sz : Nat) (g : z_R) (p1 : Int32) (r0 : Int32) (g0 : z_R) (hf : fX5_turns N p1 g = some (r0, g0)) : Met l yX5_turns wsX5_turns rmX5_turns (z_Pc D c sz (z_md c a g) [.ref (a 0), .int p1]) (z_Qi D (z_md c a) r0 g0 (va_A (z_md c a g) sz)) 0 0 (va_A (z_md c a g) sz) := by
  refine z_ofM (cc := cX5_turns) (maxL := 2) (ret := (some .boolean)) (Qf := fun A => z_Qi D (z_md c a) r0 g0 A) (plainFor_of_name (by decide)) rfl (Nat.le_of_ble_eq_true rfl) ?_
  intro p e s m args below meth co A ls hx hb hr hml hts hown hlocks hnm hA hP hK hD hl hsz
  have hl : lv_has ls 2 [(0, .ref (a 0)), (1, .int p1)] := hl
  have hown : s.vm.findClass RX5 = some m.cls := hown
  obtain ⟨H, hH⟩ : ∃ H, H = s.heap := ⟨_, rfl⟩
  have hS : va_S A s.heap H [] := by rw [hH]; exact va_S.rf
  rw [← hH] at hP ⊢
  clear hH
  unfold fX5_turns at hf
  generalize ([] : List Loc) = locs at hS ⊢
  refine lv_aload_n hx hb dX5_turns_0 rfl (lv_at hl 0 rfl) ?_
  refine va_get (D := D) (ci := 5) (v := .ref (a 1)) (C := RX5) (T := TX5) (N := 13) hx hb hts iX5_turns_X5 hown hK.1 hP 0 rfl rfl 1 (by decide) (hts _ qX5_turns_7) (fun _ h9 => h9) rfl dX5_turns_1 ?_
  refine lv_iconst (v := (1 : Int32)) hx hb dX5_turns_4 (by decide) ?_
  refine lv_dup2_11 hx hb dX5_turns_5 rfl rfl ?_
  refine va_iald hx hb hK.1 hP 1 0 rfl rfl (z_inE (by decide)) dX5_turns_6 ?_
  refine lv_iload_n hx hb dX5_turns_7 rfl (lv_at hl 1 rfl) ?_
  refine lv_iadd hx hb dX5_turns_8 ?_
  refine va_iast hx hb hK.1 hP hD hS 1 0 rfl rfl (z_inE (by decide)) dX5_turns_9 (fun H locs hP hD hS => ?_)
  obtain ⟨g1, e1, hf⟩ := z_ltE hf
  have hP : va_P D vwCl (z_md c a g1) H := by rw [e1]; exact hP
  have hD : va_D A (z_md c a g1) := by rw [e1]; exact hD
  clear e1
  refine lv_iload_n hx hb dX5_turns_10 rfl (lv_at hl 1 rfl) ?_
  refine lv_if_le (tgt := 18) hx hb dX5_turns_11 (by decide) (fun c2 => ?_) (fun c2 => ?_)
  · have hf := z_ifT hf c2
    refine lv_iconst (v := (0 : Int32)) hx hb dX5_turns_18 (by decide) ?_
    exact z_zi (wf := (z_md c a)) hx hb hr rfl hlocks hP hD hS hf dX5_turns_19
  · have hf := z_ifF hf c2
    refine lv_iconst (v := (1 : Int32)) hx hb dX5_turns_14 (by decide) ?_
    refine lv_goto (tgt := 19) hx hb dX5_turns_15 (by decide) ?_
    exact z_zi (wf := (z_md c a)) hx hb hr rfl hlocks hP hD hS hf dX5_turns_19
abbrev rmX5_isSoon : Room := { frames := 2, cells := 0, slots := 0, locals := 44 }
set_option maxRecDepth 100000 in
set_option maxHeartbeats 4000000 in
theorem kX5_isSoon (l : Launch) (D : va_G) (c : Nat → ClassId) (N : Nat) (a : Nat → Nat) (sz : Nat) (g : z_R) (p1 : Int32) (p2 : Int32) (r0 : Int32) (hf : fX5_isSoon N p1 p2 g = some r0) : Met l yX5_isSoon wsX5_isSoon rmX5_isSoon (z_Pc D c sz (z_md c a g) [.ref (a 0), .int p1, .int p2]) (z_Qi D (z_md c a) r0 g (va_A (z_md c a g) sz)) 0 0 (va_A (z_md c a g) sz) := by
  refine z_ofM (cc := cX5_isSoon) (maxL := 3) (ret := (some .boolean)) (Qf := fun A => z_Qi D (z_md c a) r0 g A) (plainFor_of_name (by decide)) rfl (Nat.le_of_ble_eq_true rfl) ?_
  intro p e s m args below meth co A ls hx hb hr hml hts hown hlocks hnm hA hP hK hD hl hsz
  have hl : lv_has ls 3 [(0, .ref (a 0)), (1, .int p1), (2, .int p2)] := hl
  have hown : s.vm.findClass RX5 = some m.cls := hown
  obtain ⟨H, hH⟩ : ∃ H, H = s.heap := ⟨_, rfl⟩
  have hS : va_S A s.heap H [] := by rw [hH]; exact va_S.rf
  rw [← hH] at hP ⊢
  clear hH
  unfold fX5_isSoon at hf
  generalize ([] : List Loc) = locs at hS ⊢
  refine lv_aload_n hx hb dX5_isSoon_0 rfl (lv_at hl 0 rfl) ?_
  refine lv_iload_n hx hb dX5_isSoon_1 rfl (lv_at hl 1 rfl) ?_
  obtain ⟨r1, h1, hf⟩ := z_bE hf
  refine z_cVi (As := [.int p1]) (rest := []) (wf := (z_md c a)) (g := g) (u0 := g) ⟨hx, hb, hml, hown, hts⟩ (kX5_isOrder l D c N a H.size g p1 r1 h1) (cwV 1 hts gX5_isSoon_X5_isOrder rfl rfl rfl (by decide +kernel) ⟨Nat.le_of_ble_eq_true rfl, Nat.le_of_ble_eq_true rfl⟩) hP hK hD hS hA (ci := 5) (q0 := 0) rfl rfl rfl rfl hl.1 (Nat.le_of_ble_eq_true rfl) rfl dX5_isSoon_2 ⟨Nat.zero_le _, Nat.zero_le _⟩ (fun H locs hP hD hS => ?_)
  refine lv_if_eq (tgt := 31) hx hb dX5_isSoon_5 (by decide) (fun c2 => ?_) (fun c2 => ?_)
  · have hf := z_ifT hf c2
    refine lv_iconst (v := (0 : Int32)) hx hb dX5_isSoon_31 (by decide) ?_
    exact z_zp (wf := (z_md c a)) hx hb hr rfl hlocks hP hD hS hf dX5_isSoon_32
  · have hf := z_ifF hf c2
    refine lv_aload_n hx hb dX5_isSoon_8 rfl (lv_at hl 0 rfl) ?_
    refine lv_iload_n hx hb dX5_isSoon_9 rfl (lv_at hl 1 rfl) ?_
    refine lv_iconst (v := (5 : Int32)) hx hb dX5_isSoon_10 (by decide) ?_
    obtain ⟨r3, h3, hf⟩ := z_bE hf
    refine z_cVi (As := [.int p1, .int (5 : Int32)]) (rest := []) (wf := (z_md c a)) (g := g) (u0 := g) ⟨hx, hb, hml, hown, hts⟩ (kX5_part l D c N a H.size g p1 (5 : Int32) r3 h3) (cwV 2 hts gX5_isSoon_X5_part rfl rfl rfl (by decide +kernel) ⟨Nat.le_of_ble_eq_true rfl, Nat.le_of_ble_eq_true rfl⟩) hP hK hD hS hA (ci := 5) (q0 := 0) rfl rfl rfl rfl hl.1 (Nat.le_of_ble_eq_true rfl) rfl dX5_isSoon_11 ⟨Nat.zero_le _, Nat.zero_le _⟩ (fun H locs hP hD hS => ?_)
    refine lv_iconst (v := (-1 : Int32)) hx hb dX5_isSoon_14 (by decide) ?_
    refine lv_icmp_eq (tgt := 31) hx hb dX5_isSoon_15 (by decide) (fun c4 => ?_) (fun c4 => ?_)
    · have hf := z_ifT hf c4
      refine lv_iconst (v := (0 : Int32)) hx hb dX5_isSoon_31 (by decide) ?_
      exact z_zp (wf := (z_md c a)) hx hb hr rfl hlocks hP hD hS hf dX5_isSoon_32
    · have hf := z_ifF hf c4
      refine lv_aload_n hx hb dX5_isSoon_18 rfl (lv_at hl 0 rfl) ?_
      refine lv_iload_n hx hb dX5_isSoon_19 rfl (lv_at hl 1 rfl) ?_
      obtain ⟨r5, h5, hf⟩ := z_bE hf
      refine z_cVi (As := [.int p1]) (rest := []) (wf := (z_md c a)) (g := g) (u0 := g) ⟨hx, hb, hml, hown, hts⟩ (kX5_waitOf l D c N a H.size g p1 r5 h5) (cwV 1 hts gX5_isSoon_X5_waitOf rfl rfl rfl (by decide +kernel) ⟨Nat.le_of_ble_eq_true rfl, Nat.le_of_ble_eq_true rfl⟩) hP hK hD hS hA (ci := 5) (q0 := 0) rfl rfl rfl rfl hl.1 (Nat.le_of_ble_eq_true rfl) rfl dX5_isSoon_20 ⟨Nat.zero_le _, Nat.zero_le _⟩ (fun H locs hP hD hS => ?_)
      refine lv_iload_n hx hb dX5_isSoon_23 rfl (lv_at hl 2 rfl) ?_
      refine lv_icmp_gt (tgt := 31) hx hb dX5_isSoon_24 (by decide) (fun c6 => ?_) (fun c6 => ?_)
      · have hf := z_ifT hf c6
        refine lv_iconst (v := (0 : Int32)) hx hb dX5_isSoon_31 (by decide) ?_
        exact z_zp (wf := (z_md c a)) hx hb hr rfl hlocks hP hD hS hf dX5_isSoon_32
      · have hf := z_ifF hf c6
        refine lv_iconst (v := (1 : Int32)) hx hb dX5_isSoon_27 (by decide) ?_
        refine lv_goto (tgt := 32) hx hb dX5_isSoon_28 (by decide) ?_
        exact z_zp (wf := (z_md c a)) hx hb hr rfl hlocks hP hD hS hf dX5_isSoon_32
abbrev rmX5_isQuick : Room := { frames := 5, cells := 0, slots := 0, locals := 115 }
theorem qX5_isQuick_144 : Cond.fieldLink RX5 144 "ProgramDrumModel" "ended" "I" ∈ wsX5_isQuick := by decide +kernel
theorem iX5_isQuick_X5 : ∀ w ∈ wsX50, w ∈ wsX5_isQuick := by decide +kernel
set_option maxRecDepth 100000 in
set_option maxHeartbeats 4000000 in
theorem kX5_isQuick (l : Launch) (D : va_G) (c : Nat → ClassId) (N : Nat) (a : Nat → Nat) (sz : Nat) (g : z_R) (p1 : Int32) (p2 : Int32) (r0 : Int32) (g0 : z_R) (hf : fX5_isQuick N p1 p2 g = some (r0, g0)) : Met l yX5_isQuick wsX5_isQuick rmX5_isQuick (z_Pc D c sz (z_md c a g) [.ref (a 0), .int p1, .int p2]) (z_Qi D (z_md c a) r0 g0 (va_A (z_md c a g) sz)) 0 0 (va_A (z_md c a g) sz) := by
  refine z_ofM (cc := cX5_isQuick) (maxL := 3) (ret := (some .boolean)) (Qf := fun A => z_Qi D (z_md c a) r0 g0 A) (plainFor_of_name (by decide)) rfl (Nat.le_of_ble_eq_true rfl) ?_
  intro p e s m args below meth co A ls hx hb hr hml hts hown hlocks hnm hA hP hK hD hl hsz
  have hl : lv_has ls 3 [(0, .ref (a 0)), (1, .int p1), (2, .int p2)] := hl
  have hown : s.vm.findClass RX5 = some m.cls := hown
  obtain ⟨H, hH⟩ : ∃ H, H = s.heap := ⟨_, rfl⟩
  have hS : va_S A s.heap H [] := by rw [hH]; exact va_S.rf
  rw [← hH] at hP ⊢
  clear hH
  unfold fX5_isQuick at hf
  generalize ([] : List Loc) = locs at hS ⊢
  refine lv_aload_n hx hb dX5_isQuick_0 rfl (lv_at hl 0 rfl) ?_
  refine lv_iload_n hx hb dX5_isQuick_1 rfl (lv_at hl 1 rfl) ?_
  obtain ⟨r1, h1, hf⟩ := z_bE hf
  refine z_cVi (As := [.int p1]) (rest := []) (wf := (z_md c a)) (g := g) (u0 := g) ⟨hx, hb, hml, hown, hts⟩ (kX5_isOrder l D c N a H.size g p1 r1 h1) (cwV 1 hts gX5_isQuick_X5_isOrder rfl rfl rfl (by decide +kernel) ⟨Nat.le_of_ble_eq_true rfl, Nat.le_of_ble_eq_true rfl⟩) hP hK hD hS hA (ci := 5) (q0 := 0) rfl rfl rfl rfl hl.1 (Nat.le_of_ble_eq_true rfl) rfl dX5_isQuick_2 ⟨Nat.zero_le _, Nat.zero_le _⟩ (fun H locs hP hD hS => ?_)
  refine lv_if_eq (tgt := 28) hx hb dX5_isQuick_5 (by decide) (fun c2 => ?_) (fun c2 => ?_)
  · have hf := z_ifT hf c2
    refine lv_iconst (v := (0 : Int32)) hx hb dX5_isQuick_28 (by decide) ?_
    exact z_zi (wf := (z_md c a)) hx hb hr rfl hlocks hP hD hS hf dX5_isQuick_29
  · have hf := z_ifF hf c2
    refine lv_aload_n hx hb dX5_isQuick_8 rfl (lv_at hl 0 rfl) ?_
    refine lv_iload_n hx hb dX5_isQuick_9 rfl (lv_at hl 1 rfl) ?_
    obtain ⟨r3, g3, h3, hf⟩ := z_b2E hf
    refine z_cVi (As := [.int p1]) (rest := []) (wf := (z_md c a)) (g := g) (u0 := g3) ⟨hx, hb, hml, hown, hts⟩ (kX5_ticksOf l D c N a H.size g p1 r3 g3 h3) (cwV 1 hts gX5_isQuick_X5_ticksOf rfl rfl rfl (by decide +kernel) ⟨Nat.le_of_ble_eq_true rfl, Nat.le_of_ble_eq_true rfl⟩) hP hK hD hS hA (ci := 5) (q0 := 0) rfl rfl rfl rfl hl.1 (Nat.le_of_ble_eq_true rfl) rfl dX5_isQuick_10 ⟨Nat.zero_le _, Nat.zero_le _⟩ (fun H locs hP hD hS => ?_)
    refine lv_iload_n hx hb dX5_isQuick_13 rfl (lv_at hl 2 rfl) ?_
    refine lv_icmp_gt (tgt := 28) hx hb dX5_isQuick_14 (by decide) (fun c4 => ?_) (fun c4 => ?_)
    · have hf := z_ifT hf c4
      refine lv_iconst (v := (0 : Int32)) hx hb dX5_isQuick_28 (by decide) ?_
      exact z_zi (wf := (z_md c a)) hx hb hr rfl hlocks hP hD hS hf dX5_isQuick_29
    · have hf := z_ifF hf c4
      refine lv_aload_n hx hb dX5_isQuick_17 rfl (lv_at hl 0 rfl) ?_
      refine va_get (D := D) (ci := 5) (v := .int (g3 0 3)) (C := RX5) (T := TX5) (N := 13) hx hb hts iX5_isQuick_X5 hown hK.1 hP 0 rfl rfl 12 (by decide) (hts _ qX5_isQuick_144) (fun _ h9 => h9) rfl dX5_isQuick_18 ?_
      refine lv_if_ne (tgt := 28) hx hb dX5_isQuick_21 (by decide) (fun c5 => ?_) (fun c5 => ?_)
      · have hf := z_ifF hf c5
        refine lv_iconst (v := (0 : Int32)) hx hb dX5_isQuick_28 (by decide) ?_
        exact z_zi (wf := (z_md c a)) hx hb hr rfl hlocks hP hD hS hf dX5_isQuick_29
      · have hf := z_ifT hf c5
        refine lv_iconst (v := (1 : Int32)) hx hb dX5_isQuick_24 (by decide) ?_
        refine lv_goto (tgt := 29) hx hb dX5_isQuick_25 (by decide) ?_
        exact z_zi (wf := (z_md c a)) hx hb hr rfl hlocks hP hD hS hf dX5_isQuick_29
abbrev rmX5_commands : Room := { frames := 6, cells := 0, slots := 0, locals := 137 }
theorem qX5_commands_7 : Cond.fieldLink RX5 7 "ProgramDrumModel" "state" "[I" ∈ wsX5_commands := by decide +kernel
theorem iX5_commands_X5 : ∀ w ∈ wsX50, w ∈ wsX5_commands := by decide +kernel
set_option maxRecDepth 100000 in
set_option maxHeartbeats 4000000 in
theorem kX5_commands (l : Launch) (D : va_G) (c : Nat → ClassId) (N : Nat) (a : Nat → Nat) (sz : Nat) (g : z_R) (p1 : Int32) (r0 : Int32) (g0 : z_R) (hf : fX5_commands N p1 g = some (r0, g0)) : Met l yX5_commands wsX5_commands rmX5_commands (z_Pc D c sz (z_md c a g) [.ref (a 0), .int p1]) (z_Qi D (z_md c a) r0 g0 (va_A (z_md c a g) sz)) 0 0 (va_A (z_md c a g) sz) := by
  refine z_ofM (cc := cX5_commands) (maxL := 4) (ret := (some .boolean)) (Qf := fun A => z_Qi D (z_md c a) r0 g0 A) (plainFor_of_name (by decide)) rfl (Nat.le_of_ble_eq_true rfl) ?_
  intro p e s m args below meth co A ls hx hb hr hml hts hown hlocks hnm hA hP hK hD hl hsz
  have hl : lv_has ls 4 [(0, .ref (a 0)), (1, .int p1)] := hl
  have hown : s.vm.findClass RX5 = some m.cls := hown
  obtain ⟨H, hH⟩ : ∃ H, H = s.heap := ⟨_, rfl⟩
  have hS : va_S A s.heap H [] := by rw [hH]; exact va_S.rf
  rw [← hH] at hP ⊢
  clear hH
  unfold fX5_commands at hf
  generalize ([] : List Loc) = locs at hS ⊢
  refine lv_iload_n hx hb dX5_commands_0 rfl (lv_at hl 1 rfl) ?_
  refine lv_bipush (v := (100 : Int32)) hx hb dX5_commands_1 (by decide) ?_
  refine lv_idiv hx hb dX5_commands_3 (by decide) ?_
  refine lv_bipush (v := (100 : Int32)) hx hb dX5_commands_4 (by decide) ?_
  refine lv_irem hx hb dX5_commands_6 (by decide) ?_
  refine lv_istore_n (lv' := [(2, .int ((p1 / (100 : Int32)) - (p1 / (100 : Int32)) / (100 : Int32) * (100 : Int32))), (0, .ref (a 0)), (1, .int p1)]) hx hb dX5_commands_7 rfl hl (by decide) rfl (fun ls hl => ?_)
  refine lv_iload_n hx hb dX5_commands_8 rfl (lv_at hl 2 rfl) ?_
  refine lv_bipush (v := (100 : Int32)) hx hb dX5_commands_9 (by decide) ?_
  refine lv_irem hx hb dX5_commands_11 (by decide) ?_
  refine lv_istore_n (lv' := [(3, .int (p1 - p1 / (100 : Int32) * (100 : Int32))), (2, .int ((p1 / (100 : Int32)) - (p1 / (100 : Int32)) / (100 : Int32) * (100 : Int32))), (0, .ref (a 0)), (1, .int p1)]) hx hb dX5_commands_12 rfl hl (by decide) rfl (fun ls hl => ?_)
  refine lv_iload_n hx hb dX5_commands_13 rfl (lv_at hl 3 rfl) ?_
  refine lv_sipush (v := (10000 : Int32)) hx hb dX5_commands_14 (by decide) ?_
  refine lv_idiv hx hb dX5_commands_17 (by decide) ?_
  by_cases c1_0 : (p1 / (10000 : Int32)) = (1 : Int32)
  · have hf := z_ifT hf c1_0
    refine lv_tableIn (tgt := 68) hx hb dX5_commands_18 (by rw [c1_0]; decide) (by rw [c1_0]; decide) (off := 50) (by rw [c1_0]; rfl) (by decide) ?_
    refine lv_iload_n hx hb dX5_commands_68 rfl (lv_at hl 0 rfl) ?_
    refine lv_if_ne (tgt := 84) hx hb dX5_commands_69 (by decide) (fun c2 => ?_) (fun c2 => ?_)
    · have hf := z_ifF hf c2
      refine lv_iconst (v := (0 : Int32)) hx hb dX5_commands_84 (by decide) ?_
      exact z_zi (wf := (z_md c a)) hx hb hr rfl hlocks hP hD hS hf dX5_commands_85
    · have hf := z_ifT hf c2
      refine lv_aload_n hx hb dX5_commands_72 rfl (lv_at hl 2 rfl) ?_
      refine lv_iload_n hx hb dX5_commands_73 rfl (lv_at hl 1 rfl) ?_
      obtain ⟨r3, g3, h3, hf⟩ := z_b2E hf
      refine z_cVi (As := [.int ((p1 / (100 : Int32)) - (p1 / (100 : Int32)) / (100 : Int32) * (100 : Int32))]) (rest := []) (wf := (z_md c a)) (g := g) (u0 := g3) ⟨hx, hb, hml, hown, hts⟩ (kX5_runsFrom l D c N a H.size g ((p1 / (100 : Int32)) - (p1 / (100 : Int32)) / (100 : Int32) * (100 : Int32)) r3 g3 h3) (cwV 1 hts gX5_commands_X5_runsFrom rfl rfl rfl (by decide +kernel) ⟨Nat.le_of_ble_eq_true rfl, Nat.le_of_ble_eq_true rfl⟩) hP hK hD hS hA (ci := 5) (q0 := 0) rfl rfl rfl rfl hl.1 (Nat.le_of_ble_eq_true rfl) rfl dX5_commands_74 ⟨Nat.zero_le _, Nat.zero_le _⟩ (fun H locs hP hD hS => ?_)
      refine lv_if_eq (tgt := 84) hx hb dX5_commands_77 (by decide) (fun c4 => ?_) (fun c4 => ?_)
      · have hf := z_ifT hf c4
        refine lv_iconst (v := (0 : Int32)) hx hb dX5_commands_84 (by decide) ?_
        exact z_zi (wf := (z_md c a)) hx hb hr rfl hlocks hP hD hS hf dX5_commands_85
      · have hf := z_ifF hf c4
        refine lv_iconst (v := (1 : Int32)) hx hb dX5_commands_80 (by decide) ?_
        refine lv_goto (tgt := 85) hx hb dX5_commands_81 (by decide) ?_
        exact z_zi (wf := (z_md c a)) hx hb hr rfl hlocks hP hD hS hf dX5_commands_85
  have hf := z_ifF hf c1_0
  by_cases c1_1 : (p1 / (10000 : Int32)) = (2 : Int32)
  · have hf := z_ifT hf c1_1
    refine lv_tableIn (tgt := 86) hx hb dX5_commands_18 (by rw [c1_1]; decide) (by rw [c1_1]; decide) (off := 68) (by rw [c1_1]; rfl) (by decide) ?_
    refine lv_iload_n hx hb dX5_commands_86 rfl (lv_at hl 1 rfl) ?_
    refine lv_if_ne (tgt := 105) hx hb dX5_commands_87 (by decide) (fun c5 => ?_) (fun c5 => ?_)
    · have hf := z_ifF hf c5
      refine lv_iconst (v := (0 : Int32)) hx hb dX5_commands_105 (by decide) ?_
      exact z_zi (wf := (z_md c a)) hx hb hr rfl hlocks hP hD hS hf dX5_commands_106
    · have hf := z_ifT hf c5
      refine lv_iload_n hx hb dX5_commands_90 rfl (lv_at hl 0 rfl) ?_
      refine lv_if_ne (tgt := 105) hx hb dX5_commands_91 (by decide) (fun c6 => ?_) (fun c6 => ?_)
      · have hf := z_ifF hf c6
        refine lv_iconst (v := (0 : Int32)) hx hb dX5_commands_105 (by decide) ?_
        exact z_zi (wf := (z_md c a)) hx hb hr rfl hlocks hP hD hS hf dX5_commands_106
      · have hf := z_ifT hf c6
        refine lv_aload_n hx hb dX5_commands_94 rfl (lv_at hl 2 rfl) ?_
        obtain ⟨r7, g7, h7, hf⟩ := z_b2E hf
        refine z_cVi (As := []) (rest := []) (wf := (z_md c a)) (g := g) (u0 := g7) ⟨hx, hb, hml, hown, hts⟩ (kX5_lays l D c N a H.size g  r7 g7 h7) (cwV 0 hts gX5_commands_X5_lays rfl rfl rfl (by decide +kernel) ⟨Nat.le_of_ble_eq_true rfl, Nat.le_of_ble_eq_true rfl⟩) hP hK hD hS hA (ci := 5) (q0 := 0) rfl rfl rfl rfl hl.1 (Nat.le_of_ble_eq_true rfl) rfl dX5_commands_95 ⟨Nat.zero_le _, Nat.zero_le _⟩ (fun H locs hP hD hS => ?_)
        refine lv_if_eq (tgt := 105) hx hb dX5_commands_98 (by decide) (fun c8 => ?_) (fun c8 => ?_)
        · have hf := z_ifT hf c8
          refine lv_iconst (v := (0 : Int32)) hx hb dX5_commands_105 (by decide) ?_
          exact z_zi (wf := (z_md c a)) hx hb hr rfl hlocks hP hD hS hf dX5_commands_106
        · have hf := z_ifF hf c8
          refine lv_iconst (v := (1 : Int32)) hx hb dX5_commands_101 (by decide) ?_
          refine lv_goto (tgt := 106) hx hb dX5_commands_102 (by decide) ?_
          exact z_zi (wf := (z_md c a)) hx hb hr rfl hlocks hP hD hS hf dX5_commands_106
  have hf := z_ifF hf c1_1
  by_cases c1_2 : (p1 / (10000 : Int32)) = (3 : Int32)
  · have hf := z_ifT hf c1_2
    refine lv_tableIn (tgt := 107) hx hb dX5_commands_18 (by rw [c1_2]; decide) (by rw [c1_2]; decide) (off := 89) (by rw [c1_2]; rfl) (by decide) ?_
    refine lv_aload_n hx hb dX5_commands_107 rfl (lv_at hl 2 rfl) ?_
    refine lv_iload_n hx hb dX5_commands_108 rfl (lv_at hl 1 rfl) ?_
    refine lv_iload_n hx hb dX5_commands_109 rfl (lv_at hl 0 rfl) ?_
    obtain ⟨r9, g9, h9, hf⟩ := z_b2E hf
    refine z_cVi (As := [.int ((p1 / (100 : Int32)) - (p1 / (100 : Int32)) / (100 : Int32) * (100 : Int32)), .int (p1 - p1 / (100 : Int32) * (100 : Int32))]) (rest := []) (wf := (z_md c a)) (g := g) (u0 := g9) ⟨hx, hb, hml, hown, hts⟩ (kX5_moves l D c N a H.size g ((p1 / (100 : Int32)) - (p1 / (100 : Int32)) / (100 : Int32) * (100 : Int32)) (p1 - p1 / (100 : Int32) * (100 : Int32)) r9 g9 h9) (cwV 2 hts gX5_commands_X5_moves rfl rfl rfl (by decide +kernel) ⟨Nat.le_of_ble_eq_true rfl, Nat.le_of_ble_eq_true rfl⟩) hP hK hD hS hA (ci := 5) (q0 := 0) rfl rfl rfl rfl hl.1 (Nat.le_of_ble_eq_true rfl) rfl dX5_commands_110 ⟨Nat.zero_le _, Nat.zero_le _⟩ (fun H locs hP hD hS => ?_)
    obtain ⟨b10, hf⟩ := z_ckE hf
    exact z_zi (wf := (z_md c a)) hx hb hr (z_boE b10) hlocks hP hD hS hf dX5_commands_113
  have hf := z_ifF hf c1_2
  by_cases c1_3 : (p1 / (10000 : Int32)) = (4 : Int32)
  · have hf := z_ifT hf c1_3
    refine lv_tableIn (tgt := 114) hx hb dX5_commands_18 (by rw [c1_3]; decide) (by rw [c1_3]; decide) (off := 96) (by rw [c1_3]; rfl) (by decide) ?_
    refine lv_iload_n hx hb dX5_commands_114 rfl (lv_at hl 1 rfl) ?_
    refine lv_if_ne (tgt := 130) hx hb dX5_commands_115 (by decide) (fun c11 => ?_) (fun c11 => ?_)
    · have hf := z_ifF hf c11
      refine lv_iconst (v := (0 : Int32)) hx hb dX5_commands_130 (by decide) ?_
      exact z_zi (wf := (z_md c a)) hx hb hr rfl hlocks hP hD hS hf dX5_commands_131
    · have hf := z_ifT hf c11
      refine lv_aload_n hx hb dX5_commands_118 rfl (lv_at hl 2 rfl) ?_
      refine lv_iload_n hx hb dX5_commands_119 rfl (lv_at hl 0 rfl) ?_
      obtain ⟨r12, g12, h12, hf⟩ := z_b2E hf
      refine z_cVi (As := [.int (p1 - p1 / (100 : Int32) * (100 : Int32))]) (rest := []) (wf := (z_md c a)) (g := g) (u0 := g12) ⟨hx, hb, hml, hown, hts⟩ (kX5_turns l D c N a H.size g (p1 - p1 / (100 : Int32) * (100 : Int32)) r12 g12 h12) (cwV 1 hts gX5_commands_X5_turns rfl rfl rfl (by decide +kernel) ⟨Nat.le_of_ble_eq_true rfl, Nat.le_of_ble_eq_true rfl⟩) hP hK hD hS hA (ci := 5) (q0 := 0) rfl rfl rfl rfl hl.1 (Nat.le_of_ble_eq_true rfl) rfl dX5_commands_120 ⟨Nat.zero_le _, Nat.zero_le _⟩ (fun H locs hP hD hS => ?_)
      refine lv_if_eq (tgt := 130) hx hb dX5_commands_123 (by decide) (fun c13 => ?_) (fun c13 => ?_)
      · have hf := z_ifT hf c13
        refine lv_iconst (v := (0 : Int32)) hx hb dX5_commands_130 (by decide) ?_
        exact z_zi (wf := (z_md c a)) hx hb hr rfl hlocks hP hD hS hf dX5_commands_131
      · have hf := z_ifF hf c13
        refine lv_iconst (v := (1 : Int32)) hx hb dX5_commands_126 (by decide) ?_
        refine lv_goto (tgt := 131) hx hb dX5_commands_127 (by decide) ?_
        exact z_zi (wf := (z_md c a)) hx hb hr rfl hlocks hP hD hS hf dX5_commands_131
  have hf := z_ifF hf c1_3
  by_cases c1_4 : (p1 / (10000 : Int32)) = (5 : Int32)
  · have hf := z_ifT hf c1_4
    refine lv_tableIn (tgt := 132) hx hb dX5_commands_18 (by rw [c1_4]; decide) (by rw [c1_4]; decide) (off := 114) (by rw [c1_4]; rfl) (by decide) ?_
    refine lv_aload_n hx hb dX5_commands_132 rfl (lv_at hl 2 rfl) ?_
    refine lv_iload_n hx hb dX5_commands_133 rfl (lv_at hl 1 rfl) ?_
    refine lv_iconst (v := (4 : Int32)) hx hb dX5_commands_134 (by decide) ?_
    refine lv_iload_n hx hb dX5_commands_135 rfl (lv_at hl 0 rfl) ?_
    obtain ⟨r14, g14, h14, hf⟩ := z_b2E hf
    refine z_cVi (As := [.int ((p1 / (100 : Int32)) - (p1 / (100 : Int32)) / (100 : Int32) * (100 : Int32)), .int (4 : Int32), .int (p1 - p1 / (100 : Int32) * (100 : Int32))]) (rest := []) (wf := (z_md c a)) (g := g) (u0 := g14) ⟨hx, hb, hml, hown, hts⟩ (kX5_changes l D c N a H.size g ((p1 / (100 : Int32)) - (p1 / (100 : Int32)) / (100 : Int32) * (100 : Int32)) (4 : Int32) (p1 - p1 / (100 : Int32) * (100 : Int32)) r14 g14 h14) (cwV 3 hts gX5_commands_X5_changes rfl rfl rfl (by decide +kernel) ⟨Nat.le_of_ble_eq_true rfl, Nat.le_of_ble_eq_true rfl⟩) hP hK hD hS hA (ci := 5) (q0 := 0) rfl rfl rfl rfl hl.1 (Nat.le_of_ble_eq_true rfl) rfl dX5_commands_136 ⟨Nat.zero_le _, Nat.zero_le _⟩ (fun H locs hP hD hS => ?_)
    obtain ⟨b15, hf⟩ := z_ckE hf
    exact z_zi (wf := (z_md c a)) hx hb hr (z_boE b15) hlocks hP hD hS hf dX5_commands_139
  have hf := z_ifF hf c1_4
  by_cases c1_5 : (p1 / (10000 : Int32)) = (6 : Int32)
  · have hf := z_ifT hf c1_5
    refine lv_tableIn (tgt := 140) hx hb dX5_commands_18 (by rw [c1_5]; decide) (by rw [c1_5]; decide) (off := 122) (by rw [c1_5]; rfl) (by decide) ?_
    refine lv_aload_n hx hb dX5_commands_140 rfl (lv_at hl 2 rfl) ?_
    refine lv_iload_n hx hb dX5_commands_141 rfl (lv_at hl 1 rfl) ?_
    refine lv_iconst (v := (2 : Int32)) hx hb dX5_commands_142 (by decide) ?_
    refine lv_iload_n hx hb dX5_commands_143 rfl (lv_at hl 0 rfl) ?_
    refine lv_bipush (v := (99 : Int32)) hx hb dX5_commands_144 (by decide) ?_
    refine lv_icmp_ne (tgt := 153) hx hb dX5_commands_146 (by decide) (fun c16 => ?_) (fun c16 => ?_)
    · have hf := z_ifF hf c16
      refine lv_iload_n hx hb dX5_commands_153 rfl (lv_at hl 0 rfl) ?_
      obtain ⟨r17, g17, h17, hf⟩ := z_b2E hf
      refine z_cVi (As := [.int ((p1 / (100 : Int32)) - (p1 / (100 : Int32)) / (100 : Int32) * (100 : Int32)), .int (2 : Int32), .int (p1 - p1 / (100 : Int32) * (100 : Int32))]) (rest := []) (wf := (z_md c a)) (g := g) (u0 := g17) ⟨hx, hb, hml, hown, hts⟩ (kX5_changes l D c N a H.size g ((p1 / (100 : Int32)) - (p1 / (100 : Int32)) / (100 : Int32) * (100 : Int32)) (2 : Int32) (p1 - p1 / (100 : Int32) * (100 : Int32)) r17 g17 h17) (cwV 3 hts gX5_commands_X5_changes rfl rfl rfl (by decide +kernel) ⟨Nat.le_of_ble_eq_true rfl, Nat.le_of_ble_eq_true rfl⟩) hP hK hD hS hA (ci := 5) (q0 := 0) rfl rfl rfl rfl hl.1 (Nat.le_of_ble_eq_true rfl) rfl dX5_commands_154 ⟨Nat.zero_le _, Nat.zero_le _⟩ (fun H locs hP hD hS => ?_)
      obtain ⟨b18, hf⟩ := z_ckE hf
      exact z_zi (wf := (z_md c a)) hx hb hr (z_boE b18) hlocks hP hD hS hf dX5_commands_157
    · have hf := z_ifT hf c16
      refine lv_iconst (v := (-1 : Int32)) hx hb dX5_commands_149 (by decide) ?_
      refine lv_goto (tgt := 154) hx hb dX5_commands_150 (by decide) ?_
      obtain ⟨r19, g19, h19, hf⟩ := z_b2E hf
      refine z_cVi (As := [.int ((p1 / (100 : Int32)) - (p1 / (100 : Int32)) / (100 : Int32) * (100 : Int32)), .int (2 : Int32), .int (-1 : Int32)]) (rest := []) (wf := (z_md c a)) (g := g) (u0 := g19) ⟨hx, hb, hml, hown, hts⟩ (kX5_changes l D c N a H.size g ((p1 / (100 : Int32)) - (p1 / (100 : Int32)) / (100 : Int32) * (100 : Int32)) (2 : Int32) (-1 : Int32) r19 g19 h19) (cwV 3 hts gX5_commands_X5_changes rfl rfl rfl (by decide +kernel) ⟨Nat.le_of_ble_eq_true rfl, Nat.le_of_ble_eq_true rfl⟩) hP hK hD hS hA (ci := 5) (q0 := 0) rfl rfl rfl rfl hl.1 (Nat.le_of_ble_eq_true rfl) rfl dX5_commands_154 ⟨Nat.zero_le _, Nat.zero_le _⟩ (fun H locs hP hD hS => ?_)
      obtain ⟨b20, hf⟩ := z_ckE hf
      exact z_zi (wf := (z_md c a)) hx hb hr (z_boE b20) hlocks hP hD hS hf dX5_commands_157
  have hf := z_ifF hf c1_5
  by_cases c1_6 : (p1 / (10000 : Int32)) = (7 : Int32)
  · have hf := z_ifT hf c1_6
    refine lv_tableIn (tgt := 158) hx hb dX5_commands_18 (by rw [c1_6]; decide) (by rw [c1_6]; decide) (off := 140) (by rw [c1_6]; rfl) (by decide) ?_
    refine lv_aload_n hx hb dX5_commands_158 rfl (lv_at hl 2 rfl) ?_
    refine lv_iload_n hx hb dX5_commands_159 rfl (lv_at hl 1 rfl) ?_
    refine lv_iload_n hx hb dX5_commands_160 rfl (lv_at hl 0 rfl) ?_
    obtain ⟨r21, h21, hf⟩ := z_bE hf
    refine z_cVi (As := [.int ((p1 / (100 : Int32)) - (p1 / (100 : Int32)) / (100 : Int32) * (100 : Int32)), .int (p1 - p1 / (100 : Int32) * (100 : Int32))]) (rest := []) (wf := (z_md c a)) (g := g) (u0 := g) ⟨hx, hb, hml, hown, hts⟩ (kX5_isSoon l D c N a H.size g ((p1 / (100 : Int32)) - (p1 / (100 : Int32)) / (100 : Int32) * (100 : Int32)) (p1 - p1 / (100 : Int32) * (100 : Int32)) r21 h21) (cwV 2 hts gX5_commands_X5_isSoon rfl rfl rfl (by decide +kernel) ⟨Nat.le_of_ble_eq_true rfl, Nat.le_of_ble_eq_true rfl⟩) hP hK hD hS hA (ci := 5) (q0 := 0) rfl rfl rfl rfl hl.1 (Nat.le_of_ble_eq_true rfl) rfl dX5_commands_161 ⟨Nat.zero_le _, Nat.zero_le _⟩ (fun H locs hP hD hS => ?_)
    obtain ⟨b22, hf⟩ := z_ckE hf
    exact z_zi (wf := (z_md c a)) hx hb hr (z_boE b22) hlocks hP hD hS hf dX5_commands_164
  have hf := z_ifF hf c1_6
  by_cases c1_7 : (p1 / (10000 : Int32)) = (8 : Int32)
  · have hf := z_ifT hf c1_7
    refine lv_tableIn (tgt := 165) hx hb dX5_commands_18 (by rw [c1_7]; decide) (by rw [c1_7]; decide) (off := 147) (by rw [c1_7]; rfl) (by decide) ?_
    refine lv_aload_n hx hb dX5_commands_165 rfl (lv_at hl 2 rfl) ?_
    refine lv_iload_n hx hb dX5_commands_166 rfl (lv_at hl 1 rfl) ?_
    refine lv_bipush (v := (10 : Int32)) hx hb dX5_commands_167 (by decide) ?_
    refine lv_iload_n hx hb dX5_commands_169 rfl (lv_at hl 0 rfl) ?_
    refine lv_imul hx hb dX5_commands_170 ?_
    obtain ⟨r23, g23, h23, hf⟩ := z_b2E hf
    refine z_cVi (As := [.int ((p1 / (100 : Int32)) - (p1 / (100 : Int32)) / (100 : Int32) * (100 : Int32)), .int ((10 : Int32) * (p1 - p1 / (100 : Int32) * (100 : Int32)))]) (rest := []) (wf := (z_md c a)) (g := g) (u0 := g23) ⟨hx, hb, hml, hown, hts⟩ (kX5_isQuick l D c N a H.size g ((p1 / (100 : Int32)) - (p1 / (100 : Int32)) / (100 : Int32) * (100 : Int32)) ((10 : Int32) * (p1 - p1 / (100 : Int32) * (100 : Int32))) r23 g23 h23) (cwV 2 hts gX5_commands_X5_isQuick rfl rfl rfl (by decide +kernel) ⟨Nat.le_of_ble_eq_true rfl, Nat.le_of_ble_eq_true rfl⟩) hP hK hD hS hA (ci := 5) (q0 := 0) rfl rfl rfl rfl hl.1 (Nat.le_of_ble_eq_true rfl) rfl dX5_commands_171 ⟨Nat.zero_le _, Nat.zero_le _⟩ (fun H locs hP hD hS => ?_)
    obtain ⟨b24, hf⟩ := z_ckE hf
    exact z_zi (wf := (z_md c a)) hx hb hr (z_boE b24) hlocks hP hD hS hf dX5_commands_174
  have hf := z_ifF hf c1_7
  by_cases c1_8 : (p1 / (10000 : Int32)) = (9 : Int32)
  · have hf := z_ifT hf c1_8
    refine lv_tableIn (tgt := 175) hx hb dX5_commands_18 (by rw [c1_8]; decide) (by rw [c1_8]; decide) (off := 157) (by rw [c1_8]; rfl) (by decide) ?_
    refine lv_iload_n hx hb dX5_commands_175 rfl (lv_at hl 1 rfl) ?_
    refine lv_bipush (v := (10 : Int32)) hx hb dX5_commands_176 (by decide) ?_
    refine lv_idiv hx hb dX5_commands_178 (by decide) ?_
    obtain ⟨r25, h25, hf⟩ := z_bE hf
    refine z_cSi (As := [.int (((p1 / (100 : Int32)) - (p1 / (100 : Int32)) / (100 : Int32) * (100 : Int32)) / (10 : Int32))]) (rest := []) ⟨hx, hb, hml, hown, hts⟩ (kX5_isAuthor l D c N H.size (((p1 / (100 : Int32)) - (p1 / (100 : Int32)) / (100 : Int32) * (100 : Int32)) / (10 : Int32)) r25 h25) (va_cwS 1 hts gX5_commands_X5_isAuthor rfl rfl rfl (by decide +kernel) ⟨Nat.le_of_ble_eq_true rfl, Nat.le_of_ble_eq_true rfl⟩) hP hK hS hA rfl hl.1 (Nat.le_of_ble_eq_true rfl) rfl dX5_commands_179 ⟨Nat.zero_le _, Nat.zero_le _⟩ (fun H locs hP hS => ?_)
    refine lv_if_eq (tgt := 209) hx hb dX5_commands_182 (by decide) (fun c26 => ?_) (fun c26 => ?_)
    · have hf := z_ifT hf c26
      refine lv_iconst (v := (0 : Int32)) hx hb dX5_commands_209 (by decide) ?_
      exact z_zi (wf := (z_md c a)) hx hb hr rfl hlocks hP hD hS hf dX5_commands_210
    · have hf := z_ifF hf c26
      refine lv_aload_n hx hb dX5_commands_185 rfl (lv_at hl 2 rfl) ?_
      refine va_get (D := D) (ci := 5) (v := .ref (a 1)) (C := RX5) (T := TX5) (N := 13) hx hb hts iX5_commands_X5 hown hK.1 hP 0 rfl rfl 1 (by decide) (hts _ qX5_commands_7) (fun _ h9 => h9) rfl dX5_commands_186 ?_
      refine lv_bipush (v := (9 : Int32)) hx hb dX5_commands_189 (by decide) ?_
      refine lv_iload_n hx hb dX5_commands_191 rfl (lv_at hl 1 rfl) ?_
      refine lv_bipush (v := (10 : Int32)) hx hb dX5_commands_192 (by decide) ?_
      refine lv_idiv hx hb dX5_commands_194 (by decide) ?_
      refine lv_iadd hx hb dX5_commands_195 ?_
      obtain ⟨b27, hf⟩ := z_ckE hf
      refine va_iald hx hb hK.1 hP 1 0 rfl rfl (z_inE b27) dX5_commands_196 ?_
      refine lv_iload_n hx hb dX5_commands_197 rfl (lv_at hl 3 rfl) ?_
      refine lv_sipush (v := (1000 : Int32)) hx hb dX5_commands_198 (by decide) ?_
      refine lv_irem hx hb dX5_commands_201 (by decide) ?_
      refine lv_icmp_gt (tgt := 209) hx hb dX5_commands_202 (by decide) (fun c28 => ?_) (fun c28 => ?_)
      · have hf := z_ifT hf c28
        refine lv_iconst (v := (0 : Int32)) hx hb dX5_commands_209 (by decide) ?_
        exact z_zi (wf := (z_md c a)) hx hb hr rfl hlocks hP hD hS hf dX5_commands_210
      · have hf := z_ifF hf c28
        refine lv_iconst (v := (1 : Int32)) hx hb dX5_commands_205 (by decide) ?_
        refine lv_goto (tgt := 210) hx hb dX5_commands_206 (by decide) ?_
        exact z_zi (wf := (z_md c a)) hx hb hr rfl hlocks hP hD hS hf dX5_commands_210
  have hf := z_ifF hf c1_8
  refine lv_tableOut (tgt := 211) hx hb dX5_commands_18 (z_sw1_9 c1_0 c1_1 c1_2 c1_3 c1_4 c1_5 c1_6 c1_7 c1_8) (by decide) ?_
  refine lv_iconst (v := (0 : Int32)) hx hb dX5_commands_211 (by decide) ?_
  exact z_zi (wf := (z_md c a)) hx hb hr rfl hlocks hP hD hS hf dX5_commands_212
abbrev rmX5_runScript : Room := { frames := 7, cells := 0, slots := 0, locals := 160 }
theorem qX5_runScript_176 : Cond.constantLong RX5 176 (1000000000000000) ∈ wsX5_runScript := by decide +kernel
theorem qX5_runScript_37 : Cond.fieldLink RX5 37 "ProgramDrumModel" "thrown" "I" ∈ wsX5_runScript := by decide +kernel
theorem iX5_runScript_X5 : ∀ w ∈ wsX50, w ∈ wsX5_runScript := by decide +kernel
theorem qX5_runScript_7 : Cond.fieldLink RX5 7 "ProgramDrumModel" "state" "[I" ∈ wsX5_runScript := by decide +kernel
theorem qX5_runScript_16 : Cond.fieldLink RX5 16 "ProgramDrumModel" "scriptKept" "[I" ∈ wsX5_runScript := by decide +kernel
theorem qX5_runScript_172 : Cond.constantLong RX5 172 (100000) ∈ wsX5_runScript := by decide +kernel
theorem qX5_runScript_174 : Cond.constantLong RX5 174 (10000000000) ∈ wsX5_runScript := by decide +kernel
set_option maxRecDepth 100000 in
set_option maxHeartbeats 4000000 in
theorem kX5_runScript (l : Launch) (D : va_G) (c : Nat → ClassId) (N : Nat) (a : Nat → Nat) (sz : Nat) (g : z_R) (p1 : Int32) (p2 : Int64) (r0 : Int32) (g0 : z_R) (hf : fX5_runScript N p1 p2 g = some (r0, g0)) : Met l yX5_runScript wsX5_runScript rmX5_runScript (z_Pc D c sz (z_md c a g) [.ref (a 0), .int p1, .long p2]) (z_Qi D (z_md c a) r0 g0 (va_A (z_md c a g) sz)) 0 0 (va_A (z_md c a g) sz) := by
  refine z_ofM (cc := cX5_runScript) (maxL := 10) (ret := (some .int)) (Qf := fun A => z_Qi D (z_md c a) r0 g0 A) (plainFor_of_name (by decide)) rfl (Nat.le_of_ble_eq_true rfl) ?_
  intro p e s m args below meth co A ls hx hb hr hml hts hown hlocks hnm hA hP hK hD hl hsz
  have hl : lv_has ls 10 [(0, .ref (a 0)), (1, .int p1), (2, .long p2)] := hl
  have hown : s.vm.findClass RX5 = some m.cls := hown
  obtain ⟨H, hH⟩ : ∃ H, H = s.heap := ⟨_, rfl⟩
  have hS : va_S A s.heap H [] := by rw [hH]; exact va_S.rf
  rw [← hH] at hP ⊢
  clear hH
  have L95 : ∀ (x1 : Int32) (x2 : Int64) (k : Int32 → z_R → Option (Int32 × z_R)) (hk : ∀ (x6 : Int32) (g : z_R), k x6 g = some (r0, g0) → ∀ (H : Heap) (locs : List Loc) (ls : Array Slot), va_P D vwCl (z_md c a g) H → va_D A (z_md c a g) → va_S A s.heap H locs → lv_has ls 10 [(0, .ref (a 0)), (6, .int x6)] → W p l e rmX5_runScript s m args below meth co H locs 0 0 (MQ below (z_Qi D (z_md c a) r0 g0 A) args s 0 0 A) (F0 m 145 ls [])) (fu : Nat) (x6 : Int32) (x7 : Int64) (x9 : Int32) (g : z_R), lX5_runScript_95 N x1 x2 k fu x6 x7 x9 g = some (r0, g0) → ∀ (H : Heap) (locs : List Loc) (ls : Array Slot), va_P D vwCl (z_md c a g) H → va_D A (z_md c a g) → va_S A s.heap H locs → lv_has ls 10 [(0, .ref (a 0)), (1, .int x1), (2, .long x2), (6, .int x6), (7, .long x7), (9, .int x9)] → W p l e rmX5_runScript s m args below meth co H locs 0 0 (MQ below (z_Qi D (z_md c a) r0 g0 A) args s 0 0 A) (F0 m 95 ls []) := by
    intro x1 x2 k hk fu
    induction fu with
    | zero =>
      intro x6 x7 x9 g hf
      have hf : (none : Option (Int32 × z_R)) = some _ := hf
      cases hf
    | succ fu ih =>
      intro x6 x7 x9 g hf H locs ls hP hD hS hl
      rw [lX5_runScript_95.eq_2] at hf
      refine lv_iload hx hb dX5_runScript_95 (lv_at hl 5 rfl) ?_
      refine lv_iload_n hx hb dX5_runScript_97 rfl (lv_at hl 1 rfl) ?_
      refine lv_icmp_ge (tgt := 145) hx hb dX5_runScript_98 (by decide) (fun c7 => ?_) (fun c7 => ?_)
      · have hf := z_ifT hf c7
        exact hk _ _ hf H locs ls hP hD hS (lv_sub hl [0, 3] rfl)
      · have hf := z_ifF hf c7
        refine lv_iload hx hb dX5_runScript_101 (lv_at hl 3 rfl) ?_
        refine lv_iconst (v := (-1 : Int32)) hx hb dX5_runScript_103 (by decide) ?_
        refine lv_icmp_ne (tgt := 145) hx hb dX5_runScript_104 (by decide) (fun c8 => ?_) (fun c8 => ?_)
        · have hf := z_ifF hf c8
          exact hk _ _ hf H locs ls hP hD hS (lv_sub hl [0, 3] rfl)
        · have hf := z_ifT hf c8
          refine lv_aload_n hx hb dX5_runScript_107 rfl (lv_at hl 0 rfl) ?_
          refine lv_lload_n hx hb dX5_runScript_108 rfl (lv_at hl 2 rfl) ?_
          refine lv_lload hx hb dX5_runScript_109 (lv_at hl 4 rfl) ?_
          obtain ⟨b9, hf⟩ := z_ckE hf
          refine lv_ldiv hx hb dX5_runScript_111 (z_nzLE b9) ?_
          refine lv_ldc2 (v := (100000 : Int64)) hx hb hown (hts _ qX5_runScript_172) dX5_runScript_112 ?_
          refine lv_lrem hx hb dX5_runScript_115 (by decide) ?_
          refine lv_l2i (v := (((x2 / x7) - (x2 / x7) / (100000 : Int64) * (100000 : Int64))).toInt32) hx hb dX5_runScript_116 rfl ?_
          obtain ⟨r10, g10, h10, hf⟩ := z_b2E hf
          refine z_cVi (As := [.int (((x2 / x7) - (x2 / x7) / (100000 : Int64) * (100000 : Int64))).toInt32]) (rest := []) (wf := (z_md c a)) (g := g) (u0 := g10) ⟨hx, hb, hml, hown, hts⟩ (kX5_commands l D c N a H.size g (((x2 / x7) - (x2 / x7) / (100000 : Int64) * (100000 : Int64))).toInt32 r10 g10 h10) (cwV 1 hts gX5_runScript_X5_commands rfl rfl rfl (by decide +kernel) ⟨Nat.le_of_ble_eq_true rfl, Nat.le_of_ble_eq_true rfl⟩) hP hK hD hS hA (ci := 5) (q0 := 0) rfl rfl rfl rfl hl.1 (Nat.le_of_ble_eq_true rfl) rfl dX5_runScript_117 ⟨Nat.zero_le _, Nat.zero_le _⟩ (fun H locs hP hD hS => ?_)
          refine lv_if_eq (tgt := 127) hx hb dX5_runScript_120 (by decide) (fun c11 => ?_) (fun c11 => ?_)
          · have hf := z_ifT hf c11
            refine lv_iload hx hb dX5_runScript_127 (lv_at hl 5 rfl) ?_
            refine lv_istore (lv' := [(6, .int x9), (0, .ref (a 0)), (1, .int x1), (2, .long x2), (7, .long x7), (9, .int x9)]) hx hb dX5_runScript_129 hl (by decide) rfl (fun ls hl => ?_)
            refine lv_lload hx hb dX5_runScript_131 (lv_at hl 4 rfl) ?_
            refine lv_ldc2 (v := (100000 : Int64)) hx hb hown (hts _ qX5_runScript_172) dX5_runScript_133 ?_
            refine lv_ldiv hx hb dX5_runScript_136 (by decide) ?_
            refine lv_lstore (lv' := [(7, .long (x7 / (100000 : Int64))), (6, .int x9), (0, .ref (a 0)), (1, .int x1), (2, .long x2), (9, .int x9)]) hx hb dX5_runScript_137 hl (by decide) rfl (fun ls hl => ?_)
            refine lv_iinc (v := (x9 + (1 : Int32))) (lv' := [(9, .int (x9 + (1 : Int32))), (7, .long (x7 / (100000 : Int64))), (6, .int x9), (0, .ref (a 0)), (1, .int x1), (2, .long x2)]) hx hb dX5_runScript_139 hl (k := 5) rfl rfl (by decide) rfl (fun ls hl => ?_)
            refine lv_goto (tgt := 95) hx hb dX5_runScript_142 (by decide) ?_
            exact ih _ _ _ _ hf H locs ls hP hD hS (lv_sub hl [3, 4, 5, 2, 1, 0] rfl)
          · have hf := z_ifF hf c11
            refine lv_iconst (v := (-1 : Int32)) hx hb dX5_runScript_123 (by decide) ?_
            refine lv_goto (tgt := 129) hx hb dX5_runScript_124 (by decide) ?_
            refine lv_istore (lv' := [(6, .int (-1 : Int32)), (0, .ref (a 0)), (1, .int x1), (2, .long x2), (7, .long x7), (9, .int x9)]) hx hb dX5_runScript_129 hl (by decide) rfl (fun ls hl => ?_)
            refine lv_lload hx hb dX5_runScript_131 (lv_at hl 4 rfl) ?_
            refine lv_ldc2 (v := (100000 : Int64)) hx hb hown (hts _ qX5_runScript_172) dX5_runScript_133 ?_
            refine lv_ldiv hx hb dX5_runScript_136 (by decide) ?_
            refine lv_lstore (lv' := [(7, .long (x7 / (100000 : Int64))), (6, .int (-1 : Int32)), (0, .ref (a 0)), (1, .int x1), (2, .long x2), (9, .int x9)]) hx hb dX5_runScript_137 hl (by decide) rfl (fun ls hl => ?_)
            refine lv_iinc (v := (x9 + (1 : Int32))) (lv' := [(9, .int (x9 + (1 : Int32))), (7, .long (x7 / (100000 : Int64))), (6, .int (-1 : Int32)), (0, .ref (a 0)), (1, .int x1), (2, .long x2)]) hx hb dX5_runScript_139 hl (k := 5) rfl rfl (by decide) rfl (fun ls hl => ?_)
            refine lv_goto (tgt := 95) hx hb dX5_runScript_142 (by decide) ?_
            exact ih _ _ _ _ hf H locs ls hP hD hS (lv_sub hl [3, 4, 5, 2, 1, 0] rfl)
  unfold fX5_runScript at hf
  generalize ([] : List Loc) = locs at hS ⊢
  refine lv_iload_n hx hb dX5_runScript_0 rfl (lv_at hl 1 rfl) ?_
  refine lv_iconst (v := (1 : Int32)) hx hb dX5_runScript_1 (by decide) ?_
  refine lv_icmp_ne (tgt := 11) hx hb dX5_runScript_2 (by decide) (fun c1 => ?_) (fun c1 => ?_)
  · have hf := z_ifF hf c1
    refine lv_iload_n hx hb dX5_runScript_11 rfl (lv_at hl 1 rfl) ?_
    refine lv_iconst (v := (2 : Int32)) hx hb dX5_runScript_12 (by decide) ?_
    refine lv_icmp_ne (tgt := 22) hx hb dX5_runScript_13 (by decide) (fun c2 => ?_) (fun c2 => ?_)
    · have hf := z_ifF hf c2
      refine lv_ldc2 (v := (1000000000000000 : Int64)) hx hb hown (hts _ qX5_runScript_176) dX5_runScript_22 ?_
      refine lv_lstore (lv' := [(4, .long (1000000000000000 : Int64)), (0, .ref (a 0)), (1, .int p1), (2, .long p2)]) hx hb dX5_runScript_25 hl (by decide) rfl (fun ls hl => ?_)
      refine lv_aload_n hx hb dX5_runScript_27 rfl (lv_at hl 1 rfl) ?_
      refine lv_iload_n hx hb dX5_runScript_28 rfl (lv_at hl 2 rfl) ?_
      refine lv_iconst (v := (1 : Int32)) hx hb dX5_runScript_29 (by decide) ?_
      refine lv_icmp_lt (tgt := 51) hx hb dX5_runScript_30 (by decide) (fun c3 => ?_) (fun c3 => ?_)
      · have hf := z_ifT hf c3
        refine lv_iconst (v := (1 : Int32)) hx hb dX5_runScript_51 (by decide) ?_
        refine lv_goto (tgt := 56) hx hb dX5_runScript_52 (by decide) ?_
        refine va_put (D := D) (ci := 5) (v := .int (1 : Int32)) (ty := .int) (C := RX5) (T := TX5) (N := 13) hx hb hts iX5_runScript_X5 tyX5 tyX5_ok nmX5 hown hK.1 hP hD hS 0 rfl rfl 0 (by decide) (hts _ qX5_runScript_37) (fun _ h9 => h9) rfl (by decide +kernel) rfl rfl (Nat.le_of_ble_eq_true rfl) dX5_runScript_56 (fun H locs hP hD hS => ?_)
        obtain ⟨g4, e4, hf⟩ := z_ltE hf
        have hP : va_P D vwCl (z_md c a g4) H := by rw [e4]; exact hP
        have hD : va_D A (z_md c a g4) := by rw [e4]; exact hD
        clear e4
        refine lv_aload_n hx hb dX5_runScript_59 rfl (lv_at hl 1 rfl) ?_
        refine va_get (D := D) (ci := 5) (v := .int (g4 0 0)) (C := RX5) (T := TX5) (N := 13) hx hb hts iX5_runScript_X5 hown hK.1 hP 0 rfl rfl 0 (by decide) (hts _ qX5_runScript_37) (fun _ h9 => h9) rfl dX5_runScript_60 ?_
        refine lv_if_le (tgt := 68) hx hb dX5_runScript_63 (by decide) (fun c5 => ?_) (fun c5 => ?_)
        · have hf := z_ifT hf c5
          refine lv_aload_n hx hb dX5_runScript_68 rfl (lv_at hl 1 rfl) ?_
          refine va_get (D := D) (ci := 5) (v := .ref (a 1)) (C := RX5) (T := TX5) (N := 13) hx hb hts iX5_runScript_X5 hown hK.1 hP 0 rfl rfl 1 (by decide) (hts _ qX5_runScript_7) (fun _ h9 => h9) rfl dX5_runScript_69 ?_
          refine lv_iconst (v := (0 : Int32)) hx hb dX5_runScript_72 (by decide) ?_
          refine lv_aload_n hx hb dX5_runScript_73 rfl (lv_at hl 1 rfl) ?_
          refine va_get (D := D) (ci := 5) (v := .ref (a 3)) (C := RX5) (T := TX5) (N := 13) hx hb hts iX5_runScript_X5 hown hK.1 hP 0 rfl rfl 3 (by decide) (hts _ qX5_runScript_16) (fun _ h9 => h9) rfl dX5_runScript_74 ?_
          refine lv_iconst (v := (0 : Int32)) hx hb dX5_runScript_77 (by decide) ?_
          obtain ⟨u6, h6, hf⟩ := z_bE hf
          obtain ⟨g6, e6, hf⟩ := z_ltE hf
          refine z_cSvC (As := [.ref (a 1), .int (0 : Int32), .ref (a 3), .int (0 : Int32)]) (rest := []) (V := (z_md c a g4)) (V' := (z_md c a g6)) (wf := (fun u : Nat → Int32 => z_cp c (a 1) (a 3) 925 925 (g4 1) u)) (g := g4 3) (u0 := u6) ⟨hx, hb, hml, hown, hts⟩ (kX5_copy l D c N (a 1) (a 3) 925 925 H.size  (g4 1) (g4 3) (0 : Int32) (0 : Int32) u6 h6) (va_cwS 4 hts gX5_runScript_X5_copy rfl rfl rfl (by decide +kernel) ⟨Nat.le_of_ble_eq_true rfl, Nat.le_of_ble_eq_true rfl⟩) hP hK hD hS hA [1, 3] [0, 2, 4, 5, 6, 7, 8, 9] [0, 8, 1, 9, 2, 3, 4, 5, 6, 7] rfl rfl (by decide) (by decide) (by decide) (by decide) rfl hl.1 (Nat.le_of_ble_eq_true rfl) rfl dX5_runScript_78 ⟨Nat.zero_le _, Nat.zero_le _⟩ (by rw [e6]; rfl) (fun H locs hP hD hS => ?_)
          refine lv_iconst (v := (-1 : Int32)) hx hb dX5_runScript_81 (by decide) ?_
          refine lv_istore (lv' := [(6, .int (-1 : Int32)), (4, .long (1000000000000000 : Int64)), (0, .ref (a 0)), (1, .int p1), (2, .long p2)]) hx hb dX5_runScript_82 hl (by decide) rfl (fun ls hl => ?_)
          refine lv_lload hx hb dX5_runScript_84 (lv_at hl 1 rfl) ?_
          refine lv_ldc2 (v := (100000 : Int64)) hx hb hown (hts _ qX5_runScript_172) dX5_runScript_86 ?_
          refine lv_ldiv hx hb dX5_runScript_89 (by decide) ?_
          refine lv_lstore (lv' := [(7, .long ((1000000000000000 : Int64) / (100000 : Int64))), (6, .int (-1 : Int32)), (4, .long (1000000000000000 : Int64)), (0, .ref (a 0)), (1, .int p1), (2, .long p2)]) hx hb dX5_runScript_90 hl (by decide) rfl (fun ls hl => ?_)
          refine lv_iconst (v := (0 : Int32)) hx hb dX5_runScript_92 (by decide) ?_
          refine lv_istore (lv' := [(9, .int (0 : Int32)), (7, .long ((1000000000000000 : Int64) / (100000 : Int64))), (6, .int (-1 : Int32)), (4, .long (1000000000000000 : Int64)), (0, .ref (a 0)), (1, .int p1), (2, .long p2)]) hx hb dX5_runScript_93 hl (by decide) rfl (fun ls hl => ?_)
          refine L95 _ _ _ (fun x6_95 g95_12 hf H locs ls hP hD hS hl => ?_) N _ _ _ _ hf H locs ls hP hD hS (lv_sub hl [4, 5, 6, 2, 1, 0] rfl)
          refine lv_aload_n hx hb dX5_runScript_145 rfl (lv_at hl 0 rfl) ?_
          refine va_get (D := D) (ci := 5) (v := .ref (a 3)) (C := RX5) (T := TX5) (N := 13) hx hb hts iX5_runScript_X5 hown hK.1 hP 0 rfl rfl 3 (by decide) (hts _ qX5_runScript_16) (fun _ h9 => h9) rfl dX5_runScript_146 ?_
          refine lv_iconst (v := (0 : Int32)) hx hb dX5_runScript_149 (by decide) ?_
          refine lv_aload_n hx hb dX5_runScript_150 rfl (lv_at hl 0 rfl) ?_
          refine va_get (D := D) (ci := 5) (v := .ref (a 1)) (C := RX5) (T := TX5) (N := 13) hx hb hts iX5_runScript_X5 hown hK.1 hP 0 rfl rfl 1 (by decide) (hts _ qX5_runScript_7) (fun _ h9 => h9) rfl dX5_runScript_151 ?_
          refine lv_iconst (v := (0 : Int32)) hx hb dX5_runScript_154 (by decide) ?_
          obtain ⟨u13, h13, hf⟩ := z_bE hf
          obtain ⟨g13, e13, hf⟩ := z_ltE hf
          refine z_cSvC (As := [.ref (a 3), .int (0 : Int32), .ref (a 1), .int (0 : Int32)]) (rest := []) (V := (z_md c a g95_12)) (V' := (z_md c a g13)) (wf := (fun u : Nat → Int32 => z_cp c (a 3) (a 1) 925 925 (g95_12 3) u)) (g := g95_12 1) (u0 := u13) ⟨hx, hb, hml, hown, hts⟩ (kX5_copy l D c N (a 3) (a 1) 925 925 H.size  (g95_12 3) (g95_12 1) (0 : Int32) (0 : Int32) u13 h13) (va_cwS 4 hts gX5_runScript_X5_copy rfl rfl rfl (by decide +kernel) ⟨Nat.le_of_ble_eq_true rfl, Nat.le_of_ble_eq_true rfl⟩) hP hK hD hS hA [3, 1] [0, 2, 4, 5, 6, 7, 8, 9] [0, 9, 1, 8, 2, 3, 4, 5, 6, 7] rfl rfl (by decide) (by decide) (by decide) (by decide) rfl hl.1 (Nat.le_of_ble_eq_true rfl) rfl dX5_runScript_155 ⟨Nat.zero_le _, Nat.zero_le _⟩ (by rw [e13]; rfl) (fun H locs hP hD hS => ?_)
          refine lv_iload hx hb dX5_runScript_158 (lv_at hl 1 rfl) ?_
          exact z_ri (wf := (z_md c a)) hx hb hr hlocks hP hD hS hf dX5_runScript_160
        · have hf := z_ifF hf c5
          refine lv_iconst (v := (0 : Int32)) hx hb dX5_runScript_66 (by decide) ?_
          exact z_ri (wf := (z_md c a)) hx hb hr hlocks hP hD hS hf dX5_runScript_67
      · have hf := z_ifF hf c3
        refine lv_iload_n hx hb dX5_runScript_33 rfl (lv_at hl 2 rfl) ?_
        refine lv_iconst (v := (3 : Int32)) hx hb dX5_runScript_34 (by decide) ?_
        refine lv_icmp_gt (tgt := 51) hx hb dX5_runScript_35 (by decide) (fun c14 => ?_) (fun c14 => ?_)
        · have hf := z_ifT hf c14
          refine lv_iconst (v := (1 : Int32)) hx hb dX5_runScript_51 (by decide) ?_
          refine lv_goto (tgt := 56) hx hb dX5_runScript_52 (by decide) ?_
          refine va_put (D := D) (ci := 5) (v := .int (1 : Int32)) (ty := .int) (C := RX5) (T := TX5) (N := 13) hx hb hts iX5_runScript_X5 tyX5 tyX5_ok nmX5 hown hK.1 hP hD hS 0 rfl rfl 0 (by decide) (hts _ qX5_runScript_37) (fun _ h9 => h9) rfl (by decide +kernel) rfl rfl (Nat.le_of_ble_eq_true rfl) dX5_runScript_56 (fun H locs hP hD hS => ?_)
          obtain ⟨g15, e15, hf⟩ := z_ltE hf
          have hP : va_P D vwCl (z_md c a g15) H := by rw [e15]; exact hP
          have hD : va_D A (z_md c a g15) := by rw [e15]; exact hD
          clear e15
          refine lv_aload_n hx hb dX5_runScript_59 rfl (lv_at hl 1 rfl) ?_
          refine va_get (D := D) (ci := 5) (v := .int (g15 0 0)) (C := RX5) (T := TX5) (N := 13) hx hb hts iX5_runScript_X5 hown hK.1 hP 0 rfl rfl 0 (by decide) (hts _ qX5_runScript_37) (fun _ h9 => h9) rfl dX5_runScript_60 ?_
          refine lv_if_le (tgt := 68) hx hb dX5_runScript_63 (by decide) (fun c16 => ?_) (fun c16 => ?_)
          · have hf := z_ifT hf c16
            refine lv_aload_n hx hb dX5_runScript_68 rfl (lv_at hl 1 rfl) ?_
            refine va_get (D := D) (ci := 5) (v := .ref (a 1)) (C := RX5) (T := TX5) (N := 13) hx hb hts iX5_runScript_X5 hown hK.1 hP 0 rfl rfl 1 (by decide) (hts _ qX5_runScript_7) (fun _ h9 => h9) rfl dX5_runScript_69 ?_
            refine lv_iconst (v := (0 : Int32)) hx hb dX5_runScript_72 (by decide) ?_
            refine lv_aload_n hx hb dX5_runScript_73 rfl (lv_at hl 1 rfl) ?_
            refine va_get (D := D) (ci := 5) (v := .ref (a 3)) (C := RX5) (T := TX5) (N := 13) hx hb hts iX5_runScript_X5 hown hK.1 hP 0 rfl rfl 3 (by decide) (hts _ qX5_runScript_16) (fun _ h9 => h9) rfl dX5_runScript_74 ?_
            refine lv_iconst (v := (0 : Int32)) hx hb dX5_runScript_77 (by decide) ?_
            obtain ⟨u17, h17, hf⟩ := z_bE hf
            obtain ⟨g17, e17, hf⟩ := z_ltE hf
            refine z_cSvC (As := [.ref (a 1), .int (0 : Int32), .ref (a 3), .int (0 : Int32)]) (rest := []) (V := (z_md c a g15)) (V' := (z_md c a g17)) (wf := (fun u : Nat → Int32 => z_cp c (a 1) (a 3) 925 925 (g15 1) u)) (g := g15 3) (u0 := u17) ⟨hx, hb, hml, hown, hts⟩ (kX5_copy l D c N (a 1) (a 3) 925 925 H.size  (g15 1) (g15 3) (0 : Int32) (0 : Int32) u17 h17) (va_cwS 4 hts gX5_runScript_X5_copy rfl rfl rfl (by decide +kernel) ⟨Nat.le_of_ble_eq_true rfl, Nat.le_of_ble_eq_true rfl⟩) hP hK hD hS hA [1, 3] [0, 2, 4, 5, 6, 7, 8, 9] [0, 8, 1, 9, 2, 3, 4, 5, 6, 7] rfl rfl (by decide) (by decide) (by decide) (by decide) rfl hl.1 (Nat.le_of_ble_eq_true rfl) rfl dX5_runScript_78 ⟨Nat.zero_le _, Nat.zero_le _⟩ (by rw [e17]; rfl) (fun H locs hP hD hS => ?_)
            refine lv_iconst (v := (-1 : Int32)) hx hb dX5_runScript_81 (by decide) ?_
            refine lv_istore (lv' := [(6, .int (-1 : Int32)), (4, .long (1000000000000000 : Int64)), (0, .ref (a 0)), (1, .int p1), (2, .long p2)]) hx hb dX5_runScript_82 hl (by decide) rfl (fun ls hl => ?_)
            refine lv_lload hx hb dX5_runScript_84 (lv_at hl 1 rfl) ?_
            refine lv_ldc2 (v := (100000 : Int64)) hx hb hown (hts _ qX5_runScript_172) dX5_runScript_86 ?_
            refine lv_ldiv hx hb dX5_runScript_89 (by decide) ?_
            refine lv_lstore (lv' := [(7, .long ((1000000000000000 : Int64) / (100000 : Int64))), (6, .int (-1 : Int32)), (4, .long (1000000000000000 : Int64)), (0, .ref (a 0)), (1, .int p1), (2, .long p2)]) hx hb dX5_runScript_90 hl (by decide) rfl (fun ls hl => ?_)
            refine lv_iconst (v := (0 : Int32)) hx hb dX5_runScript_92 (by decide) ?_
            refine lv_istore (lv' := [(9, .int (0 : Int32)), (7, .long ((1000000000000000 : Int64) / (100000 : Int64))), (6, .int (-1 : Int32)), (4, .long (1000000000000000 : Int64)), (0, .ref (a 0)), (1, .int p1), (2, .long p2)]) hx hb dX5_runScript_93 hl (by decide) rfl (fun ls hl => ?_)
            refine L95 _ _ _ (fun x6_95 g95_18 hf H locs ls hP hD hS hl => ?_) N _ _ _ _ hf H locs ls hP hD hS (lv_sub hl [4, 5, 6, 2, 1, 0] rfl)
            refine lv_aload_n hx hb dX5_runScript_145 rfl (lv_at hl 0 rfl) ?_
            refine va_get (D := D) (ci := 5) (v := .ref (a 3)) (C := RX5) (T := TX5) (N := 13) hx hb hts iX5_runScript_X5 hown hK.1 hP 0 rfl rfl 3 (by decide) (hts _ qX5_runScript_16) (fun _ h9 => h9) rfl dX5_runScript_146 ?_
            refine lv_iconst (v := (0 : Int32)) hx hb dX5_runScript_149 (by decide) ?_
            refine lv_aload_n hx hb dX5_runScript_150 rfl (lv_at hl 0 rfl) ?_
            refine va_get (D := D) (ci := 5) (v := .ref (a 1)) (C := RX5) (T := TX5) (N := 13) hx hb hts iX5_runScript_X5 hown hK.1 hP 0 rfl rfl 1 (by decide) (hts _ qX5_runScript_7) (fun _ h9 => h9) rfl dX5_runScript_151 ?_
            refine lv_iconst (v := (0 : Int32)) hx hb dX5_runScript_154 (by decide) ?_
            obtain ⟨u19, h19, hf⟩ := z_bE hf
            obtain ⟨g19, e19, hf⟩ := z_ltE hf
            refine z_cSvC (As := [.ref (a 3), .int (0 : Int32), .ref (a 1), .int (0 : Int32)]) (rest := []) (V := (z_md c a g95_18)) (V' := (z_md c a g19)) (wf := (fun u : Nat → Int32 => z_cp c (a 3) (a 1) 925 925 (g95_18 3) u)) (g := g95_18 1) (u0 := u19) ⟨hx, hb, hml, hown, hts⟩ (kX5_copy l D c N (a 3) (a 1) 925 925 H.size  (g95_18 3) (g95_18 1) (0 : Int32) (0 : Int32) u19 h19) (va_cwS 4 hts gX5_runScript_X5_copy rfl rfl rfl (by decide +kernel) ⟨Nat.le_of_ble_eq_true rfl, Nat.le_of_ble_eq_true rfl⟩) hP hK hD hS hA [3, 1] [0, 2, 4, 5, 6, 7, 8, 9] [0, 9, 1, 8, 2, 3, 4, 5, 6, 7] rfl rfl (by decide) (by decide) (by decide) (by decide) rfl hl.1 (Nat.le_of_ble_eq_true rfl) rfl dX5_runScript_155 ⟨Nat.zero_le _, Nat.zero_le _⟩ (by rw [e19]; rfl) (fun H locs hP hD hS => ?_)
            refine lv_iload hx hb dX5_runScript_158 (lv_at hl 1 rfl) ?_
            exact z_ri (wf := (z_md c a)) hx hb hr hlocks hP hD hS hf dX5_runScript_160
          · have hf := z_ifF hf c16
            refine lv_iconst (v := (0 : Int32)) hx hb dX5_runScript_66 (by decide) ?_
            exact z_ri (wf := (z_md c a)) hx hb hr hlocks hP hD hS hf dX5_runScript_67
        · have hf := z_ifF hf c14
          refine lv_lload_n hx hb dX5_runScript_38 rfl (lv_at hl 3 rfl) ?_
          refine lv_lconst (v := (0 : Int64)) hx hb dX5_runScript_39 (by decide) ?_
          refine W.lcmp hx hb dX5_runScript_40 ?_
          refine lv_if_lt (tgt := 51) hx hb dX5_runScript_41 (by decide) (fun c20 => ?_) (fun c20 => ?_)
          · have hf := z_ifT hf c20
            refine lv_iconst (v := (1 : Int32)) hx hb dX5_runScript_51 (by decide) ?_
            refine lv_goto (tgt := 56) hx hb dX5_runScript_52 (by decide) ?_
            refine va_put (D := D) (ci := 5) (v := .int (1 : Int32)) (ty := .int) (C := RX5) (T := TX5) (N := 13) hx hb hts iX5_runScript_X5 tyX5 tyX5_ok nmX5 hown hK.1 hP hD hS 0 rfl rfl 0 (by decide) (hts _ qX5_runScript_37) (fun _ h9 => h9) rfl (by decide +kernel) rfl rfl (Nat.le_of_ble_eq_true rfl) dX5_runScript_56 (fun H locs hP hD hS => ?_)
            obtain ⟨g21, e21, hf⟩ := z_ltE hf
            have hP : va_P D vwCl (z_md c a g21) H := by rw [e21]; exact hP
            have hD : va_D A (z_md c a g21) := by rw [e21]; exact hD
            clear e21
            refine lv_aload_n hx hb dX5_runScript_59 rfl (lv_at hl 1 rfl) ?_
            refine va_get (D := D) (ci := 5) (v := .int (g21 0 0)) (C := RX5) (T := TX5) (N := 13) hx hb hts iX5_runScript_X5 hown hK.1 hP 0 rfl rfl 0 (by decide) (hts _ qX5_runScript_37) (fun _ h9 => h9) rfl dX5_runScript_60 ?_
            refine lv_if_le (tgt := 68) hx hb dX5_runScript_63 (by decide) (fun c22 => ?_) (fun c22 => ?_)
            · have hf := z_ifT hf c22
              refine lv_aload_n hx hb dX5_runScript_68 rfl (lv_at hl 1 rfl) ?_
              refine va_get (D := D) (ci := 5) (v := .ref (a 1)) (C := RX5) (T := TX5) (N := 13) hx hb hts iX5_runScript_X5 hown hK.1 hP 0 rfl rfl 1 (by decide) (hts _ qX5_runScript_7) (fun _ h9 => h9) rfl dX5_runScript_69 ?_
              refine lv_iconst (v := (0 : Int32)) hx hb dX5_runScript_72 (by decide) ?_
              refine lv_aload_n hx hb dX5_runScript_73 rfl (lv_at hl 1 rfl) ?_
              refine va_get (D := D) (ci := 5) (v := .ref (a 3)) (C := RX5) (T := TX5) (N := 13) hx hb hts iX5_runScript_X5 hown hK.1 hP 0 rfl rfl 3 (by decide) (hts _ qX5_runScript_16) (fun _ h9 => h9) rfl dX5_runScript_74 ?_
              refine lv_iconst (v := (0 : Int32)) hx hb dX5_runScript_77 (by decide) ?_
              obtain ⟨u23, h23, hf⟩ := z_bE hf
              obtain ⟨g23, e23, hf⟩ := z_ltE hf
              refine z_cSvC (As := [.ref (a 1), .int (0 : Int32), .ref (a 3), .int (0 : Int32)]) (rest := []) (V := (z_md c a g21)) (V' := (z_md c a g23)) (wf := (fun u : Nat → Int32 => z_cp c (a 1) (a 3) 925 925 (g21 1) u)) (g := g21 3) (u0 := u23) ⟨hx, hb, hml, hown, hts⟩ (kX5_copy l D c N (a 1) (a 3) 925 925 H.size  (g21 1) (g21 3) (0 : Int32) (0 : Int32) u23 h23) (va_cwS 4 hts gX5_runScript_X5_copy rfl rfl rfl (by decide +kernel) ⟨Nat.le_of_ble_eq_true rfl, Nat.le_of_ble_eq_true rfl⟩) hP hK hD hS hA [1, 3] [0, 2, 4, 5, 6, 7, 8, 9] [0, 8, 1, 9, 2, 3, 4, 5, 6, 7] rfl rfl (by decide) (by decide) (by decide) (by decide) rfl hl.1 (Nat.le_of_ble_eq_true rfl) rfl dX5_runScript_78 ⟨Nat.zero_le _, Nat.zero_le _⟩ (by rw [e23]; rfl) (fun H locs hP hD hS => ?_)
              refine lv_iconst (v := (-1 : Int32)) hx hb dX5_runScript_81 (by decide) ?_
              refine lv_istore (lv' := [(6, .int (-1 : Int32)), (4, .long (1000000000000000 : Int64)), (0, .ref (a 0)), (1, .int p1), (2, .long p2)]) hx hb dX5_runScript_82 hl (by decide) rfl (fun ls hl => ?_)
              refine lv_lload hx hb dX5_runScript_84 (lv_at hl 1 rfl) ?_
              refine lv_ldc2 (v := (100000 : Int64)) hx hb hown (hts _ qX5_runScript_172) dX5_runScript_86 ?_
              refine lv_ldiv hx hb dX5_runScript_89 (by decide) ?_
              refine lv_lstore (lv' := [(7, .long ((1000000000000000 : Int64) / (100000 : Int64))), (6, .int (-1 : Int32)), (4, .long (1000000000000000 : Int64)), (0, .ref (a 0)), (1, .int p1), (2, .long p2)]) hx hb dX5_runScript_90 hl (by decide) rfl (fun ls hl => ?_)
              refine lv_iconst (v := (0 : Int32)) hx hb dX5_runScript_92 (by decide) ?_
              refine lv_istore (lv' := [(9, .int (0 : Int32)), (7, .long ((1000000000000000 : Int64) / (100000 : Int64))), (6, .int (-1 : Int32)), (4, .long (1000000000000000 : Int64)), (0, .ref (a 0)), (1, .int p1), (2, .long p2)]) hx hb dX5_runScript_93 hl (by decide) rfl (fun ls hl => ?_)
              refine L95 _ _ _ (fun x6_95 g95_24 hf H locs ls hP hD hS hl => ?_) N _ _ _ _ hf H locs ls hP hD hS (lv_sub hl [4, 5, 6, 2, 1, 0] rfl)
              refine lv_aload_n hx hb dX5_runScript_145 rfl (lv_at hl 0 rfl) ?_
              refine va_get (D := D) (ci := 5) (v := .ref (a 3)) (C := RX5) (T := TX5) (N := 13) hx hb hts iX5_runScript_X5 hown hK.1 hP 0 rfl rfl 3 (by decide) (hts _ qX5_runScript_16) (fun _ h9 => h9) rfl dX5_runScript_146 ?_
              refine lv_iconst (v := (0 : Int32)) hx hb dX5_runScript_149 (by decide) ?_
              refine lv_aload_n hx hb dX5_runScript_150 rfl (lv_at hl 0 rfl) ?_
              refine va_get (D := D) (ci := 5) (v := .ref (a 1)) (C := RX5) (T := TX5) (N := 13) hx hb hts iX5_runScript_X5 hown hK.1 hP 0 rfl rfl 1 (by decide) (hts _ qX5_runScript_7) (fun _ h9 => h9) rfl dX5_runScript_151 ?_
              refine lv_iconst (v := (0 : Int32)) hx hb dX5_runScript_154 (by decide) ?_
              obtain ⟨u25, h25, hf⟩ := z_bE hf
              obtain ⟨g25, e25, hf⟩ := z_ltE hf
              refine z_cSvC (As := [.ref (a 3), .int (0 : Int32), .ref (a 1), .int (0 : Int32)]) (rest := []) (V := (z_md c a g95_24)) (V' := (z_md c a g25)) (wf := (fun u : Nat → Int32 => z_cp c (a 3) (a 1) 925 925 (g95_24 3) u)) (g := g95_24 1) (u0 := u25) ⟨hx, hb, hml, hown, hts⟩ (kX5_copy l D c N (a 3) (a 1) 925 925 H.size  (g95_24 3) (g95_24 1) (0 : Int32) (0 : Int32) u25 h25) (va_cwS 4 hts gX5_runScript_X5_copy rfl rfl rfl (by decide +kernel) ⟨Nat.le_of_ble_eq_true rfl, Nat.le_of_ble_eq_true rfl⟩) hP hK hD hS hA [3, 1] [0, 2, 4, 5, 6, 7, 8, 9] [0, 9, 1, 8, 2, 3, 4, 5, 6, 7] rfl rfl (by decide) (by decide) (by decide) (by decide) rfl hl.1 (Nat.le_of_ble_eq_true rfl) rfl dX5_runScript_155 ⟨Nat.zero_le _, Nat.zero_le _⟩ (by rw [e25]; rfl) (fun H locs hP hD hS => ?_)
              refine lv_iload hx hb dX5_runScript_158 (lv_at hl 1 rfl) ?_
              exact z_ri (wf := (z_md c a)) hx hb hr hlocks hP hD hS hf dX5_runScript_160
            · have hf := z_ifF hf c22
              refine lv_iconst (v := (0 : Int32)) hx hb dX5_runScript_66 (by decide) ?_
              exact z_ri (wf := (z_md c a)) hx hb hr hlocks hP hD hS hf dX5_runScript_67
          · have hf := z_ifF hf c20
            refine lv_lload_n hx hb dX5_runScript_44 rfl (lv_at hl 3 rfl) ?_
            refine lv_lload hx hb dX5_runScript_45 (lv_at hl 0 rfl) ?_
            refine W.lcmp hx hb dX5_runScript_47 ?_
            refine lv_if_lt (tgt := 55) hx hb dX5_runScript_48 (by decide) (fun c26 => ?_) (fun c26 => ?_)
            · have hf := z_ifT hf c26
              refine lv_iconst (v := (0 : Int32)) hx hb dX5_runScript_55 (by decide) ?_
              refine va_put (D := D) (ci := 5) (v := .int (0 : Int32)) (ty := .int) (C := RX5) (T := TX5) (N := 13) hx hb hts iX5_runScript_X5 tyX5 tyX5_ok nmX5 hown hK.1 hP hD hS 0 rfl rfl 0 (by decide) (hts _ qX5_runScript_37) (fun _ h9 => h9) rfl (by decide +kernel) rfl rfl (Nat.le_of_ble_eq_true rfl) dX5_runScript_56 (fun H locs hP hD hS => ?_)
              obtain ⟨g27, e27, hf⟩ := z_ltE hf
              have hP : va_P D vwCl (z_md c a g27) H := by rw [e27]; exact hP
              have hD : va_D A (z_md c a g27) := by rw [e27]; exact hD
              clear e27
              refine lv_aload_n hx hb dX5_runScript_59 rfl (lv_at hl 1 rfl) ?_
              refine va_get (D := D) (ci := 5) (v := .int (g27 0 0)) (C := RX5) (T := TX5) (N := 13) hx hb hts iX5_runScript_X5 hown hK.1 hP 0 rfl rfl 0 (by decide) (hts _ qX5_runScript_37) (fun _ h9 => h9) rfl dX5_runScript_60 ?_
              refine lv_if_le (tgt := 68) hx hb dX5_runScript_63 (by decide) (fun c28 => ?_) (fun c28 => ?_)
              · have hf := z_ifT hf c28
                refine lv_aload_n hx hb dX5_runScript_68 rfl (lv_at hl 1 rfl) ?_
                refine va_get (D := D) (ci := 5) (v := .ref (a 1)) (C := RX5) (T := TX5) (N := 13) hx hb hts iX5_runScript_X5 hown hK.1 hP 0 rfl rfl 1 (by decide) (hts _ qX5_runScript_7) (fun _ h9 => h9) rfl dX5_runScript_69 ?_
                refine lv_iconst (v := (0 : Int32)) hx hb dX5_runScript_72 (by decide) ?_
                refine lv_aload_n hx hb dX5_runScript_73 rfl (lv_at hl 1 rfl) ?_
                refine va_get (D := D) (ci := 5) (v := .ref (a 3)) (C := RX5) (T := TX5) (N := 13) hx hb hts iX5_runScript_X5 hown hK.1 hP 0 rfl rfl 3 (by decide) (hts _ qX5_runScript_16) (fun _ h9 => h9) rfl dX5_runScript_74 ?_
                refine lv_iconst (v := (0 : Int32)) hx hb dX5_runScript_77 (by decide) ?_
                obtain ⟨u29, h29, hf⟩ := z_bE hf
                obtain ⟨g29, e29, hf⟩ := z_ltE hf
                refine z_cSvC (As := [.ref (a 1), .int (0 : Int32), .ref (a 3), .int (0 : Int32)]) (rest := []) (V := (z_md c a g27)) (V' := (z_md c a g29)) (wf := (fun u : Nat → Int32 => z_cp c (a 1) (a 3) 925 925 (g27 1) u)) (g := g27 3) (u0 := u29) ⟨hx, hb, hml, hown, hts⟩ (kX5_copy l D c N (a 1) (a 3) 925 925 H.size  (g27 1) (g27 3) (0 : Int32) (0 : Int32) u29 h29) (va_cwS 4 hts gX5_runScript_X5_copy rfl rfl rfl (by decide +kernel) ⟨Nat.le_of_ble_eq_true rfl, Nat.le_of_ble_eq_true rfl⟩) hP hK hD hS hA [1, 3] [0, 2, 4, 5, 6, 7, 8, 9] [0, 8, 1, 9, 2, 3, 4, 5, 6, 7] rfl rfl (by decide) (by decide) (by decide) (by decide) rfl hl.1 (Nat.le_of_ble_eq_true rfl) rfl dX5_runScript_78 ⟨Nat.zero_le _, Nat.zero_le _⟩ (by rw [e29]; rfl) (fun H locs hP hD hS => ?_)
                refine lv_iconst (v := (-1 : Int32)) hx hb dX5_runScript_81 (by decide) ?_
                refine lv_istore (lv' := [(6, .int (-1 : Int32)), (4, .long (1000000000000000 : Int64)), (0, .ref (a 0)), (1, .int p1), (2, .long p2)]) hx hb dX5_runScript_82 hl (by decide) rfl (fun ls hl => ?_)
                refine lv_lload hx hb dX5_runScript_84 (lv_at hl 1 rfl) ?_
                refine lv_ldc2 (v := (100000 : Int64)) hx hb hown (hts _ qX5_runScript_172) dX5_runScript_86 ?_
                refine lv_ldiv hx hb dX5_runScript_89 (by decide) ?_
                refine lv_lstore (lv' := [(7, .long ((1000000000000000 : Int64) / (100000 : Int64))), (6, .int (-1 : Int32)), (4, .long (1000000000000000 : Int64)), (0, .ref (a 0)), (1, .int p1), (2, .long p2)]) hx hb dX5_runScript_90 hl (by decide) rfl (fun ls hl => ?_)
                refine lv_iconst (v := (0 : Int32)) hx hb dX5_runScript_92 (by decide) ?_
                refine lv_istore (lv' := [(9, .int (0 : Int32)), (7, .long ((1000000000000000 : Int64) / (100000 : Int64))), (6, .int (-1 : Int32)), (4, .long (1000000000000000 : Int64)), (0, .ref (a 0)), (1, .int p1), (2, .long p2)]) hx hb dX5_runScript_93 hl (by decide) rfl (fun ls hl => ?_)
                refine L95 _ _ _ (fun x6_95 g95_30 hf H locs ls hP hD hS hl => ?_) N _ _ _ _ hf H locs ls hP hD hS (lv_sub hl [4, 5, 6, 2, 1, 0] rfl)
                refine lv_aload_n hx hb dX5_runScript_145 rfl (lv_at hl 0 rfl) ?_
                refine va_get (D := D) (ci := 5) (v := .ref (a 3)) (C := RX5) (T := TX5) (N := 13) hx hb hts iX5_runScript_X5 hown hK.1 hP 0 rfl rfl 3 (by decide) (hts _ qX5_runScript_16) (fun _ h9 => h9) rfl dX5_runScript_146 ?_
                refine lv_iconst (v := (0 : Int32)) hx hb dX5_runScript_149 (by decide) ?_
                refine lv_aload_n hx hb dX5_runScript_150 rfl (lv_at hl 0 rfl) ?_
                refine va_get (D := D) (ci := 5) (v := .ref (a 1)) (C := RX5) (T := TX5) (N := 13) hx hb hts iX5_runScript_X5 hown hK.1 hP 0 rfl rfl 1 (by decide) (hts _ qX5_runScript_7) (fun _ h9 => h9) rfl dX5_runScript_151 ?_
                refine lv_iconst (v := (0 : Int32)) hx hb dX5_runScript_154 (by decide) ?_
                obtain ⟨u31, h31, hf⟩ := z_bE hf
                obtain ⟨g31, e31, hf⟩ := z_ltE hf
                refine z_cSvC (As := [.ref (a 3), .int (0 : Int32), .ref (a 1), .int (0 : Int32)]) (rest := []) (V := (z_md c a g95_30)) (V' := (z_md c a g31)) (wf := (fun u : Nat → Int32 => z_cp c (a 3) (a 1) 925 925 (g95_30 3) u)) (g := g95_30 1) (u0 := u31) ⟨hx, hb, hml, hown, hts⟩ (kX5_copy l D c N (a 3) (a 1) 925 925 H.size  (g95_30 3) (g95_30 1) (0 : Int32) (0 : Int32) u31 h31) (va_cwS 4 hts gX5_runScript_X5_copy rfl rfl rfl (by decide +kernel) ⟨Nat.le_of_ble_eq_true rfl, Nat.le_of_ble_eq_true rfl⟩) hP hK hD hS hA [3, 1] [0, 2, 4, 5, 6, 7, 8, 9] [0, 9, 1, 8, 2, 3, 4, 5, 6, 7] rfl rfl (by decide) (by decide) (by decide) (by decide) rfl hl.1 (Nat.le_of_ble_eq_true rfl) rfl dX5_runScript_155 ⟨Nat.zero_le _, Nat.zero_le _⟩ (by rw [e31]; rfl) (fun H locs hP hD hS => ?_)
                refine lv_iload hx hb dX5_runScript_158 (lv_at hl 1 rfl) ?_
                exact z_ri (wf := (z_md c a)) hx hb hr hlocks hP hD hS hf dX5_runScript_160
              · have hf := z_ifF hf c28
                refine lv_iconst (v := (0 : Int32)) hx hb dX5_runScript_66 (by decide) ?_
                exact z_ri (wf := (z_md c a)) hx hb hr hlocks hP hD hS hf dX5_runScript_67
            · have hf := z_ifF hf c26
              refine lv_iconst (v := (1 : Int32)) hx hb dX5_runScript_51 (by decide) ?_
              refine lv_goto (tgt := 56) hx hb dX5_runScript_52 (by decide) ?_
              refine va_put (D := D) (ci := 5) (v := .int (1 : Int32)) (ty := .int) (C := RX5) (T := TX5) (N := 13) hx hb hts iX5_runScript_X5 tyX5 tyX5_ok nmX5 hown hK.1 hP hD hS 0 rfl rfl 0 (by decide) (hts _ qX5_runScript_37) (fun _ h9 => h9) rfl (by decide +kernel) rfl rfl (Nat.le_of_ble_eq_true rfl) dX5_runScript_56 (fun H locs hP hD hS => ?_)
              obtain ⟨g32, e32, hf⟩ := z_ltE hf
              have hP : va_P D vwCl (z_md c a g32) H := by rw [e32]; exact hP
              have hD : va_D A (z_md c a g32) := by rw [e32]; exact hD
              clear e32
              refine lv_aload_n hx hb dX5_runScript_59 rfl (lv_at hl 1 rfl) ?_
              refine va_get (D := D) (ci := 5) (v := .int (g32 0 0)) (C := RX5) (T := TX5) (N := 13) hx hb hts iX5_runScript_X5 hown hK.1 hP 0 rfl rfl 0 (by decide) (hts _ qX5_runScript_37) (fun _ h9 => h9) rfl dX5_runScript_60 ?_
              refine lv_if_le (tgt := 68) hx hb dX5_runScript_63 (by decide) (fun c33 => ?_) (fun c33 => ?_)
              · have hf := z_ifT hf c33
                refine lv_aload_n hx hb dX5_runScript_68 rfl (lv_at hl 1 rfl) ?_
                refine va_get (D := D) (ci := 5) (v := .ref (a 1)) (C := RX5) (T := TX5) (N := 13) hx hb hts iX5_runScript_X5 hown hK.1 hP 0 rfl rfl 1 (by decide) (hts _ qX5_runScript_7) (fun _ h9 => h9) rfl dX5_runScript_69 ?_
                refine lv_iconst (v := (0 : Int32)) hx hb dX5_runScript_72 (by decide) ?_
                refine lv_aload_n hx hb dX5_runScript_73 rfl (lv_at hl 1 rfl) ?_
                refine va_get (D := D) (ci := 5) (v := .ref (a 3)) (C := RX5) (T := TX5) (N := 13) hx hb hts iX5_runScript_X5 hown hK.1 hP 0 rfl rfl 3 (by decide) (hts _ qX5_runScript_16) (fun _ h9 => h9) rfl dX5_runScript_74 ?_
                refine lv_iconst (v := (0 : Int32)) hx hb dX5_runScript_77 (by decide) ?_
                obtain ⟨u34, h34, hf⟩ := z_bE hf
                obtain ⟨g34, e34, hf⟩ := z_ltE hf
                refine z_cSvC (As := [.ref (a 1), .int (0 : Int32), .ref (a 3), .int (0 : Int32)]) (rest := []) (V := (z_md c a g32)) (V' := (z_md c a g34)) (wf := (fun u : Nat → Int32 => z_cp c (a 1) (a 3) 925 925 (g32 1) u)) (g := g32 3) (u0 := u34) ⟨hx, hb, hml, hown, hts⟩ (kX5_copy l D c N (a 1) (a 3) 925 925 H.size  (g32 1) (g32 3) (0 : Int32) (0 : Int32) u34 h34) (va_cwS 4 hts gX5_runScript_X5_copy rfl rfl rfl (by decide +kernel) ⟨Nat.le_of_ble_eq_true rfl, Nat.le_of_ble_eq_true rfl⟩) hP hK hD hS hA [1, 3] [0, 2, 4, 5, 6, 7, 8, 9] [0, 8, 1, 9, 2, 3, 4, 5, 6, 7] rfl rfl (by decide) (by decide) (by decide) (by decide) rfl hl.1 (Nat.le_of_ble_eq_true rfl) rfl dX5_runScript_78 ⟨Nat.zero_le _, Nat.zero_le _⟩ (by rw [e34]; rfl) (fun H locs hP hD hS => ?_)
                refine lv_iconst (v := (-1 : Int32)) hx hb dX5_runScript_81 (by decide) ?_
                refine lv_istore (lv' := [(6, .int (-1 : Int32)), (4, .long (1000000000000000 : Int64)), (0, .ref (a 0)), (1, .int p1), (2, .long p2)]) hx hb dX5_runScript_82 hl (by decide) rfl (fun ls hl => ?_)
                refine lv_lload hx hb dX5_runScript_84 (lv_at hl 1 rfl) ?_
                refine lv_ldc2 (v := (100000 : Int64)) hx hb hown (hts _ qX5_runScript_172) dX5_runScript_86 ?_
                refine lv_ldiv hx hb dX5_runScript_89 (by decide) ?_
                refine lv_lstore (lv' := [(7, .long ((1000000000000000 : Int64) / (100000 : Int64))), (6, .int (-1 : Int32)), (4, .long (1000000000000000 : Int64)), (0, .ref (a 0)), (1, .int p1), (2, .long p2)]) hx hb dX5_runScript_90 hl (by decide) rfl (fun ls hl => ?_)
                refine lv_iconst (v := (0 : Int32)) hx hb dX5_runScript_92 (by decide) ?_
                refine lv_istore (lv' := [(9, .int (0 : Int32)), (7, .long ((1000000000000000 : Int64) / (100000 : Int64))), (6, .int (-1 : Int32)), (4, .long (1000000000000000 : Int64)), (0, .ref (a 0)), (1, .int p1), (2, .long p2)]) hx hb dX5_runScript_93 hl (by decide) rfl (fun ls hl => ?_)
                refine L95 _ _ _ (fun x6_95 g95_35 hf H locs ls hP hD hS hl => ?_) N _ _ _ _ hf H locs ls hP hD hS (lv_sub hl [4, 5, 6, 2, 1, 0] rfl)
                refine lv_aload_n hx hb dX5_runScript_145 rfl (lv_at hl 0 rfl) ?_
                refine va_get (D := D) (ci := 5) (v := .ref (a 3)) (C := RX5) (T := TX5) (N := 13) hx hb hts iX5_runScript_X5 hown hK.1 hP 0 rfl rfl 3 (by decide) (hts _ qX5_runScript_16) (fun _ h9 => h9) rfl dX5_runScript_146 ?_
                refine lv_iconst (v := (0 : Int32)) hx hb dX5_runScript_149 (by decide) ?_
                refine lv_aload_n hx hb dX5_runScript_150 rfl (lv_at hl 0 rfl) ?_
                refine va_get (D := D) (ci := 5) (v := .ref (a 1)) (C := RX5) (T := TX5) (N := 13) hx hb hts iX5_runScript_X5 hown hK.1 hP 0 rfl rfl 1 (by decide) (hts _ qX5_runScript_7) (fun _ h9 => h9) rfl dX5_runScript_151 ?_
                refine lv_iconst (v := (0 : Int32)) hx hb dX5_runScript_154 (by decide) ?_
                obtain ⟨u36, h36, hf⟩ := z_bE hf
                obtain ⟨g36, e36, hf⟩ := z_ltE hf
                refine z_cSvC (As := [.ref (a 3), .int (0 : Int32), .ref (a 1), .int (0 : Int32)]) (rest := []) (V := (z_md c a g95_35)) (V' := (z_md c a g36)) (wf := (fun u : Nat → Int32 => z_cp c (a 3) (a 1) 925 925 (g95_35 3) u)) (g := g95_35 1) (u0 := u36) ⟨hx, hb, hml, hown, hts⟩ (kX5_copy l D c N (a 3) (a 1) 925 925 H.size  (g95_35 3) (g95_35 1) (0 : Int32) (0 : Int32) u36 h36) (va_cwS 4 hts gX5_runScript_X5_copy rfl rfl rfl (by decide +kernel) ⟨Nat.le_of_ble_eq_true rfl, Nat.le_of_ble_eq_true rfl⟩) hP hK hD hS hA [3, 1] [0, 2, 4, 5, 6, 7, 8, 9] [0, 9, 1, 8, 2, 3, 4, 5, 6, 7] rfl rfl (by decide) (by decide) (by decide) (by decide) rfl hl.1 (Nat.le_of_ble_eq_true rfl) rfl dX5_runScript_155 ⟨Nat.zero_le _, Nat.zero_le _⟩ (by rw [e36]; rfl) (fun H locs hP hD hS => ?_)
                refine lv_iload hx hb dX5_runScript_158 (lv_at hl 1 rfl) ?_
                exact z_ri (wf := (z_md c a)) hx hb hr hlocks hP hD hS hf dX5_runScript_160
              · have hf := z_ifF hf c33
                refine lv_iconst (v := (0 : Int32)) hx hb dX5_runScript_66 (by decide) ?_
                exact z_ri (wf := (z_md c a)) hx hb hr hlocks hP hD hS hf dX5_runScript_67
    · have hf := z_ifT hf c2
      refine lv_ldc2 (v := (10000000000 : Int64)) hx hb hown (hts _ qX5_runScript_174) dX5_runScript_16 ?_
      refine lv_goto (tgt := 25) hx hb dX5_runScript_19 (by decide) ?_
      refine lv_lstore (lv' := [(4, .long (10000000000 : Int64)), (0, .ref (a 0)), (1, .int p1), (2, .long p2)]) hx hb dX5_runScript_25 hl (by decide) rfl (fun ls hl => ?_)
      refine lv_aload_n hx hb dX5_runScript_27 rfl (lv_at hl 1 rfl) ?_
      refine lv_iload_n hx hb dX5_runScript_28 rfl (lv_at hl 2 rfl) ?_
      refine lv_iconst (v := (1 : Int32)) hx hb dX5_runScript_29 (by decide) ?_
      refine lv_icmp_lt (tgt := 51) hx hb dX5_runScript_30 (by decide) (fun c37 => ?_) (fun c37 => ?_)
      · have hf := z_ifT hf c37
        refine lv_iconst (v := (1 : Int32)) hx hb dX5_runScript_51 (by decide) ?_
        refine lv_goto (tgt := 56) hx hb dX5_runScript_52 (by decide) ?_
        refine va_put (D := D) (ci := 5) (v := .int (1 : Int32)) (ty := .int) (C := RX5) (T := TX5) (N := 13) hx hb hts iX5_runScript_X5 tyX5 tyX5_ok nmX5 hown hK.1 hP hD hS 0 rfl rfl 0 (by decide) (hts _ qX5_runScript_37) (fun _ h9 => h9) rfl (by decide +kernel) rfl rfl (Nat.le_of_ble_eq_true rfl) dX5_runScript_56 (fun H locs hP hD hS => ?_)
        obtain ⟨g38, e38, hf⟩ := z_ltE hf
        have hP : va_P D vwCl (z_md c a g38) H := by rw [e38]; exact hP
        have hD : va_D A (z_md c a g38) := by rw [e38]; exact hD
        clear e38
        refine lv_aload_n hx hb dX5_runScript_59 rfl (lv_at hl 1 rfl) ?_
        refine va_get (D := D) (ci := 5) (v := .int (g38 0 0)) (C := RX5) (T := TX5) (N := 13) hx hb hts iX5_runScript_X5 hown hK.1 hP 0 rfl rfl 0 (by decide) (hts _ qX5_runScript_37) (fun _ h9 => h9) rfl dX5_runScript_60 ?_
        refine lv_if_le (tgt := 68) hx hb dX5_runScript_63 (by decide) (fun c39 => ?_) (fun c39 => ?_)
        · have hf := z_ifT hf c39
          refine lv_aload_n hx hb dX5_runScript_68 rfl (lv_at hl 1 rfl) ?_
          refine va_get (D := D) (ci := 5) (v := .ref (a 1)) (C := RX5) (T := TX5) (N := 13) hx hb hts iX5_runScript_X5 hown hK.1 hP 0 rfl rfl 1 (by decide) (hts _ qX5_runScript_7) (fun _ h9 => h9) rfl dX5_runScript_69 ?_
          refine lv_iconst (v := (0 : Int32)) hx hb dX5_runScript_72 (by decide) ?_
          refine lv_aload_n hx hb dX5_runScript_73 rfl (lv_at hl 1 rfl) ?_
          refine va_get (D := D) (ci := 5) (v := .ref (a 3)) (C := RX5) (T := TX5) (N := 13) hx hb hts iX5_runScript_X5 hown hK.1 hP 0 rfl rfl 3 (by decide) (hts _ qX5_runScript_16) (fun _ h9 => h9) rfl dX5_runScript_74 ?_
          refine lv_iconst (v := (0 : Int32)) hx hb dX5_runScript_77 (by decide) ?_
          obtain ⟨u40, h40, hf⟩ := z_bE hf
          obtain ⟨g40, e40, hf⟩ := z_ltE hf
          refine z_cSvC (As := [.ref (a 1), .int (0 : Int32), .ref (a 3), .int (0 : Int32)]) (rest := []) (V := (z_md c a g38)) (V' := (z_md c a g40)) (wf := (fun u : Nat → Int32 => z_cp c (a 1) (a 3) 925 925 (g38 1) u)) (g := g38 3) (u0 := u40) ⟨hx, hb, hml, hown, hts⟩ (kX5_copy l D c N (a 1) (a 3) 925 925 H.size  (g38 1) (g38 3) (0 : Int32) (0 : Int32) u40 h40) (va_cwS 4 hts gX5_runScript_X5_copy rfl rfl rfl (by decide +kernel) ⟨Nat.le_of_ble_eq_true rfl, Nat.le_of_ble_eq_true rfl⟩) hP hK hD hS hA [1, 3] [0, 2, 4, 5, 6, 7, 8, 9] [0, 8, 1, 9, 2, 3, 4, 5, 6, 7] rfl rfl (by decide) (by decide) (by decide) (by decide) rfl hl.1 (Nat.le_of_ble_eq_true rfl) rfl dX5_runScript_78 ⟨Nat.zero_le _, Nat.zero_le _⟩ (by rw [e40]; rfl) (fun H locs hP hD hS => ?_)
          refine lv_iconst (v := (-1 : Int32)) hx hb dX5_runScript_81 (by decide) ?_
          refine lv_istore (lv' := [(6, .int (-1 : Int32)), (4, .long (10000000000 : Int64)), (0, .ref (a 0)), (1, .int p1), (2, .long p2)]) hx hb dX5_runScript_82 hl (by decide) rfl (fun ls hl => ?_)
          refine lv_lload hx hb dX5_runScript_84 (lv_at hl 1 rfl) ?_
          refine lv_ldc2 (v := (100000 : Int64)) hx hb hown (hts _ qX5_runScript_172) dX5_runScript_86 ?_
          refine lv_ldiv hx hb dX5_runScript_89 (by decide) ?_
          refine lv_lstore (lv' := [(7, .long ((10000000000 : Int64) / (100000 : Int64))), (6, .int (-1 : Int32)), (4, .long (10000000000 : Int64)), (0, .ref (a 0)), (1, .int p1), (2, .long p2)]) hx hb dX5_runScript_90 hl (by decide) rfl (fun ls hl => ?_)
          refine lv_iconst (v := (0 : Int32)) hx hb dX5_runScript_92 (by decide) ?_
          refine lv_istore (lv' := [(9, .int (0 : Int32)), (7, .long ((10000000000 : Int64) / (100000 : Int64))), (6, .int (-1 : Int32)), (4, .long (10000000000 : Int64)), (0, .ref (a 0)), (1, .int p1), (2, .long p2)]) hx hb dX5_runScript_93 hl (by decide) rfl (fun ls hl => ?_)
          refine L95 _ _ _ (fun x6_95 g95_41 hf H locs ls hP hD hS hl => ?_) N _ _ _ _ hf H locs ls hP hD hS (lv_sub hl [4, 5, 6, 2, 1, 0] rfl)
          refine lv_aload_n hx hb dX5_runScript_145 rfl (lv_at hl 0 rfl) ?_
          refine va_get (D := D) (ci := 5) (v := .ref (a 3)) (C := RX5) (T := TX5) (N := 13) hx hb hts iX5_runScript_X5 hown hK.1 hP 0 rfl rfl 3 (by decide) (hts _ qX5_runScript_16) (fun _ h9 => h9) rfl dX5_runScript_146 ?_
          refine lv_iconst (v := (0 : Int32)) hx hb dX5_runScript_149 (by decide) ?_
          refine lv_aload_n hx hb dX5_runScript_150 rfl (lv_at hl 0 rfl) ?_
          refine va_get (D := D) (ci := 5) (v := .ref (a 1)) (C := RX5) (T := TX5) (N := 13) hx hb hts iX5_runScript_X5 hown hK.1 hP 0 rfl rfl 1 (by decide) (hts _ qX5_runScript_7) (fun _ h9 => h9) rfl dX5_runScript_151 ?_
          refine lv_iconst (v := (0 : Int32)) hx hb dX5_runScript_154 (by decide) ?_
          obtain ⟨u42, h42, hf⟩ := z_bE hf
          obtain ⟨g42, e42, hf⟩ := z_ltE hf
          refine z_cSvC (As := [.ref (a 3), .int (0 : Int32), .ref (a 1), .int (0 : Int32)]) (rest := []) (V := (z_md c a g95_41)) (V' := (z_md c a g42)) (wf := (fun u : Nat → Int32 => z_cp c (a 3) (a 1) 925 925 (g95_41 3) u)) (g := g95_41 1) (u0 := u42) ⟨hx, hb, hml, hown, hts⟩ (kX5_copy l D c N (a 3) (a 1) 925 925 H.size  (g95_41 3) (g95_41 1) (0 : Int32) (0 : Int32) u42 h42) (va_cwS 4 hts gX5_runScript_X5_copy rfl rfl rfl (by decide +kernel) ⟨Nat.le_of_ble_eq_true rfl, Nat.le_of_ble_eq_true rfl⟩) hP hK hD hS hA [3, 1] [0, 2, 4, 5, 6, 7, 8, 9] [0, 9, 1, 8, 2, 3, 4, 5, 6, 7] rfl rfl (by decide) (by decide) (by decide) (by decide) rfl hl.1 (Nat.le_of_ble_eq_true rfl) rfl dX5_runScript_155 ⟨Nat.zero_le _, Nat.zero_le _⟩ (by rw [e42]; rfl) (fun H locs hP hD hS => ?_)
          refine lv_iload hx hb dX5_runScript_158 (lv_at hl 1 rfl) ?_
          exact z_ri (wf := (z_md c a)) hx hb hr hlocks hP hD hS hf dX5_runScript_160
        · have hf := z_ifF hf c39
          refine lv_iconst (v := (0 : Int32)) hx hb dX5_runScript_66 (by decide) ?_
          exact z_ri (wf := (z_md c a)) hx hb hr hlocks hP hD hS hf dX5_runScript_67
      · have hf := z_ifF hf c37
        refine lv_iload_n hx hb dX5_runScript_33 rfl (lv_at hl 2 rfl) ?_
        refine lv_iconst (v := (3 : Int32)) hx hb dX5_runScript_34 (by decide) ?_
        refine lv_icmp_gt (tgt := 51) hx hb dX5_runScript_35 (by decide) (fun c43 => ?_) (fun c43 => ?_)
        · have hf := z_ifT hf c43
          refine lv_iconst (v := (1 : Int32)) hx hb dX5_runScript_51 (by decide) ?_
          refine lv_goto (tgt := 56) hx hb dX5_runScript_52 (by decide) ?_
          refine va_put (D := D) (ci := 5) (v := .int (1 : Int32)) (ty := .int) (C := RX5) (T := TX5) (N := 13) hx hb hts iX5_runScript_X5 tyX5 tyX5_ok nmX5 hown hK.1 hP hD hS 0 rfl rfl 0 (by decide) (hts _ qX5_runScript_37) (fun _ h9 => h9) rfl (by decide +kernel) rfl rfl (Nat.le_of_ble_eq_true rfl) dX5_runScript_56 (fun H locs hP hD hS => ?_)
          obtain ⟨g44, e44, hf⟩ := z_ltE hf
          have hP : va_P D vwCl (z_md c a g44) H := by rw [e44]; exact hP
          have hD : va_D A (z_md c a g44) := by rw [e44]; exact hD
          clear e44
          refine lv_aload_n hx hb dX5_runScript_59 rfl (lv_at hl 1 rfl) ?_
          refine va_get (D := D) (ci := 5) (v := .int (g44 0 0)) (C := RX5) (T := TX5) (N := 13) hx hb hts iX5_runScript_X5 hown hK.1 hP 0 rfl rfl 0 (by decide) (hts _ qX5_runScript_37) (fun _ h9 => h9) rfl dX5_runScript_60 ?_
          refine lv_if_le (tgt := 68) hx hb dX5_runScript_63 (by decide) (fun c45 => ?_) (fun c45 => ?_)
          · have hf := z_ifT hf c45
            refine lv_aload_n hx hb dX5_runScript_68 rfl (lv_at hl 1 rfl) ?_
            refine va_get (D := D) (ci := 5) (v := .ref (a 1)) (C := RX5) (T := TX5) (N := 13) hx hb hts iX5_runScript_X5 hown hK.1 hP 0 rfl rfl 1 (by decide) (hts _ qX5_runScript_7) (fun _ h9 => h9) rfl dX5_runScript_69 ?_
            refine lv_iconst (v := (0 : Int32)) hx hb dX5_runScript_72 (by decide) ?_
            refine lv_aload_n hx hb dX5_runScript_73 rfl (lv_at hl 1 rfl) ?_
            refine va_get (D := D) (ci := 5) (v := .ref (a 3)) (C := RX5) (T := TX5) (N := 13) hx hb hts iX5_runScript_X5 hown hK.1 hP 0 rfl rfl 3 (by decide) (hts _ qX5_runScript_16) (fun _ h9 => h9) rfl dX5_runScript_74 ?_
            refine lv_iconst (v := (0 : Int32)) hx hb dX5_runScript_77 (by decide) ?_
            obtain ⟨u46, h46, hf⟩ := z_bE hf
            obtain ⟨g46, e46, hf⟩ := z_ltE hf
            refine z_cSvC (As := [.ref (a 1), .int (0 : Int32), .ref (a 3), .int (0 : Int32)]) (rest := []) (V := (z_md c a g44)) (V' := (z_md c a g46)) (wf := (fun u : Nat → Int32 => z_cp c (a 1) (a 3) 925 925 (g44 1) u)) (g := g44 3) (u0 := u46) ⟨hx, hb, hml, hown, hts⟩ (kX5_copy l D c N (a 1) (a 3) 925 925 H.size  (g44 1) (g44 3) (0 : Int32) (0 : Int32) u46 h46) (va_cwS 4 hts gX5_runScript_X5_copy rfl rfl rfl (by decide +kernel) ⟨Nat.le_of_ble_eq_true rfl, Nat.le_of_ble_eq_true rfl⟩) hP hK hD hS hA [1, 3] [0, 2, 4, 5, 6, 7, 8, 9] [0, 8, 1, 9, 2, 3, 4, 5, 6, 7] rfl rfl (by decide) (by decide) (by decide) (by decide) rfl hl.1 (Nat.le_of_ble_eq_true rfl) rfl dX5_runScript_78 ⟨Nat.zero_le _, Nat.zero_le _⟩ (by rw [e46]; rfl) (fun H locs hP hD hS => ?_)
            refine lv_iconst (v := (-1 : Int32)) hx hb dX5_runScript_81 (by decide) ?_
            refine lv_istore (lv' := [(6, .int (-1 : Int32)), (4, .long (10000000000 : Int64)), (0, .ref (a 0)), (1, .int p1), (2, .long p2)]) hx hb dX5_runScript_82 hl (by decide) rfl (fun ls hl => ?_)
            refine lv_lload hx hb dX5_runScript_84 (lv_at hl 1 rfl) ?_
            refine lv_ldc2 (v := (100000 : Int64)) hx hb hown (hts _ qX5_runScript_172) dX5_runScript_86 ?_
            refine lv_ldiv hx hb dX5_runScript_89 (by decide) ?_
            refine lv_lstore (lv' := [(7, .long ((10000000000 : Int64) / (100000 : Int64))), (6, .int (-1 : Int32)), (4, .long (10000000000 : Int64)), (0, .ref (a 0)), (1, .int p1), (2, .long p2)]) hx hb dX5_runScript_90 hl (by decide) rfl (fun ls hl => ?_)
            refine lv_iconst (v := (0 : Int32)) hx hb dX5_runScript_92 (by decide) ?_
            refine lv_istore (lv' := [(9, .int (0 : Int32)), (7, .long ((10000000000 : Int64) / (100000 : Int64))), (6, .int (-1 : Int32)), (4, .long (10000000000 : Int64)), (0, .ref (a 0)), (1, .int p1), (2, .long p2)]) hx hb dX5_runScript_93 hl (by decide) rfl (fun ls hl => ?_)
            refine L95 _ _ _ (fun x6_95 g95_47 hf H locs ls hP hD hS hl => ?_) N _ _ _ _ hf H locs ls hP hD hS (lv_sub hl [4, 5, 6, 2, 1, 0] rfl)
            refine lv_aload_n hx hb dX5_runScript_145 rfl (lv_at hl 0 rfl) ?_
            refine va_get (D := D) (ci := 5) (v := .ref (a 3)) (C := RX5) (T := TX5) (N := 13) hx hb hts iX5_runScript_X5 hown hK.1 hP 0 rfl rfl 3 (by decide) (hts _ qX5_runScript_16) (fun _ h9 => h9) rfl dX5_runScript_146 ?_
            refine lv_iconst (v := (0 : Int32)) hx hb dX5_runScript_149 (by decide) ?_
            refine lv_aload_n hx hb dX5_runScript_150 rfl (lv_at hl 0 rfl) ?_
            refine va_get (D := D) (ci := 5) (v := .ref (a 1)) (C := RX5) (T := TX5) (N := 13) hx hb hts iX5_runScript_X5 hown hK.1 hP 0 rfl rfl 1 (by decide) (hts _ qX5_runScript_7) (fun _ h9 => h9) rfl dX5_runScript_151 ?_
            refine lv_iconst (v := (0 : Int32)) hx hb dX5_runScript_154 (by decide) ?_
            obtain ⟨u48, h48, hf⟩ := z_bE hf
            obtain ⟨g48, e48, hf⟩ := z_ltE hf
            refine z_cSvC (As := [.ref (a 3), .int (0 : Int32), .ref (a 1), .int (0 : Int32)]) (rest := []) (V := (z_md c a g95_47)) (V' := (z_md c a g48)) (wf := (fun u : Nat → Int32 => z_cp c (a 3) (a 1) 925 925 (g95_47 3) u)) (g := g95_47 1) (u0 := u48) ⟨hx, hb, hml, hown, hts⟩ (kX5_copy l D c N (a 3) (a 1) 925 925 H.size  (g95_47 3) (g95_47 1) (0 : Int32) (0 : Int32) u48 h48) (va_cwS 4 hts gX5_runScript_X5_copy rfl rfl rfl (by decide +kernel) ⟨Nat.le_of_ble_eq_true rfl, Nat.le_of_ble_eq_true rfl⟩) hP hK hD hS hA [3, 1] [0, 2, 4, 5, 6, 7, 8, 9] [0, 9, 1, 8, 2, 3, 4, 5, 6, 7] rfl rfl (by decide) (by decide) (by decide) (by decide) rfl hl.1 (Nat.le_of_ble_eq_true rfl) rfl dX5_runScript_155 ⟨Nat.zero_le _, Nat.zero_le _⟩ (by rw [e48]; rfl) (fun H locs hP hD hS => ?_)
            refine lv_iload hx hb dX5_runScript_158 (lv_at hl 1 rfl) ?_
            exact z_ri (wf := (z_md c a)) hx hb hr hlocks hP hD hS hf dX5_runScript_160
          · have hf := z_ifF hf c45
            refine lv_iconst (v := (0 : Int32)) hx hb dX5_runScript_66 (by decide) ?_
            exact z_ri (wf := (z_md c a)) hx hb hr hlocks hP hD hS hf dX5_runScript_67
        · have hf := z_ifF hf c43
          refine lv_lload_n hx hb dX5_runScript_38 rfl (lv_at hl 3 rfl) ?_
          refine lv_lconst (v := (0 : Int64)) hx hb dX5_runScript_39 (by decide) ?_
          refine W.lcmp hx hb dX5_runScript_40 ?_
          refine lv_if_lt (tgt := 51) hx hb dX5_runScript_41 (by decide) (fun c49 => ?_) (fun c49 => ?_)
          · have hf := z_ifT hf c49
            refine lv_iconst (v := (1 : Int32)) hx hb dX5_runScript_51 (by decide) ?_
            refine lv_goto (tgt := 56) hx hb dX5_runScript_52 (by decide) ?_
            refine va_put (D := D) (ci := 5) (v := .int (1 : Int32)) (ty := .int) (C := RX5) (T := TX5) (N := 13) hx hb hts iX5_runScript_X5 tyX5 tyX5_ok nmX5 hown hK.1 hP hD hS 0 rfl rfl 0 (by decide) (hts _ qX5_runScript_37) (fun _ h9 => h9) rfl (by decide +kernel) rfl rfl (Nat.le_of_ble_eq_true rfl) dX5_runScript_56 (fun H locs hP hD hS => ?_)
            obtain ⟨g50, e50, hf⟩ := z_ltE hf
            have hP : va_P D vwCl (z_md c a g50) H := by rw [e50]; exact hP
            have hD : va_D A (z_md c a g50) := by rw [e50]; exact hD
            clear e50
            refine lv_aload_n hx hb dX5_runScript_59 rfl (lv_at hl 1 rfl) ?_
            refine va_get (D := D) (ci := 5) (v := .int (g50 0 0)) (C := RX5) (T := TX5) (N := 13) hx hb hts iX5_runScript_X5 hown hK.1 hP 0 rfl rfl 0 (by decide) (hts _ qX5_runScript_37) (fun _ h9 => h9) rfl dX5_runScript_60 ?_
            refine lv_if_le (tgt := 68) hx hb dX5_runScript_63 (by decide) (fun c51 => ?_) (fun c51 => ?_)
            · have hf := z_ifT hf c51
              refine lv_aload_n hx hb dX5_runScript_68 rfl (lv_at hl 1 rfl) ?_
              refine va_get (D := D) (ci := 5) (v := .ref (a 1)) (C := RX5) (T := TX5) (N := 13) hx hb hts iX5_runScript_X5 hown hK.1 hP 0 rfl rfl 1 (by decide) (hts _ qX5_runScript_7) (fun _ h9 => h9) rfl dX5_runScript_69 ?_
              refine lv_iconst (v := (0 : Int32)) hx hb dX5_runScript_72 (by decide) ?_
              refine lv_aload_n hx hb dX5_runScript_73 rfl (lv_at hl 1 rfl) ?_
              refine va_get (D := D) (ci := 5) (v := .ref (a 3)) (C := RX5) (T := TX5) (N := 13) hx hb hts iX5_runScript_X5 hown hK.1 hP 0 rfl rfl 3 (by decide) (hts _ qX5_runScript_16) (fun _ h9 => h9) rfl dX5_runScript_74 ?_
              refine lv_iconst (v := (0 : Int32)) hx hb dX5_runScript_77 (by decide) ?_
              obtain ⟨u52, h52, hf⟩ := z_bE hf
              obtain ⟨g52, e52, hf⟩ := z_ltE hf
              refine z_cSvC (As := [.ref (a 1), .int (0 : Int32), .ref (a 3), .int (0 : Int32)]) (rest := []) (V := (z_md c a g50)) (V' := (z_md c a g52)) (wf := (fun u : Nat → Int32 => z_cp c (a 1) (a 3) 925 925 (g50 1) u)) (g := g50 3) (u0 := u52) ⟨hx, hb, hml, hown, hts⟩ (kX5_copy l D c N (a 1) (a 3) 925 925 H.size  (g50 1) (g50 3) (0 : Int32) (0 : Int32) u52 h52) (va_cwS 4 hts gX5_runScript_X5_copy rfl rfl rfl (by decide +kernel) ⟨Nat.le_of_ble_eq_true rfl, Nat.le_of_ble_eq_true rfl⟩) hP hK hD hS hA [1, 3] [0, 2, 4, 5, 6, 7, 8, 9] [0, 8, 1, 9, 2, 3, 4, 5, 6, 7] rfl rfl (by decide) (by decide) (by decide) (by decide) rfl hl.1 (Nat.le_of_ble_eq_true rfl) rfl dX5_runScript_78 ⟨Nat.zero_le _, Nat.zero_le _⟩ (by rw [e52]; rfl) (fun H locs hP hD hS => ?_)
              refine lv_iconst (v := (-1 : Int32)) hx hb dX5_runScript_81 (by decide) ?_
              refine lv_istore (lv' := [(6, .int (-1 : Int32)), (4, .long (10000000000 : Int64)), (0, .ref (a 0)), (1, .int p1), (2, .long p2)]) hx hb dX5_runScript_82 hl (by decide) rfl (fun ls hl => ?_)
              refine lv_lload hx hb dX5_runScript_84 (lv_at hl 1 rfl) ?_
              refine lv_ldc2 (v := (100000 : Int64)) hx hb hown (hts _ qX5_runScript_172) dX5_runScript_86 ?_
              refine lv_ldiv hx hb dX5_runScript_89 (by decide) ?_
              refine lv_lstore (lv' := [(7, .long ((10000000000 : Int64) / (100000 : Int64))), (6, .int (-1 : Int32)), (4, .long (10000000000 : Int64)), (0, .ref (a 0)), (1, .int p1), (2, .long p2)]) hx hb dX5_runScript_90 hl (by decide) rfl (fun ls hl => ?_)
              refine lv_iconst (v := (0 : Int32)) hx hb dX5_runScript_92 (by decide) ?_
              refine lv_istore (lv' := [(9, .int (0 : Int32)), (7, .long ((10000000000 : Int64) / (100000 : Int64))), (6, .int (-1 : Int32)), (4, .long (10000000000 : Int64)), (0, .ref (a 0)), (1, .int p1), (2, .long p2)]) hx hb dX5_runScript_93 hl (by decide) rfl (fun ls hl => ?_)
              refine L95 _ _ _ (fun x6_95 g95_53 hf H locs ls hP hD hS hl => ?_) N _ _ _ _ hf H locs ls hP hD hS (lv_sub hl [4, 5, 6, 2, 1, 0] rfl)
              refine lv_aload_n hx hb dX5_runScript_145 rfl (lv_at hl 0 rfl) ?_
              refine va_get (D := D) (ci := 5) (v := .ref (a 3)) (C := RX5) (T := TX5) (N := 13) hx hb hts iX5_runScript_X5 hown hK.1 hP 0 rfl rfl 3 (by decide) (hts _ qX5_runScript_16) (fun _ h9 => h9) rfl dX5_runScript_146 ?_
              refine lv_iconst (v := (0 : Int32)) hx hb dX5_runScript_149 (by decide) ?_
              refine lv_aload_n hx hb dX5_runScript_150 rfl (lv_at hl 0 rfl) ?_
              refine va_get (D := D) (ci := 5) (v := .ref (a 1)) (C := RX5) (T := TX5) (N := 13) hx hb hts iX5_runScript_X5 hown hK.1 hP 0 rfl rfl 1 (by decide) (hts _ qX5_runScript_7) (fun _ h9 => h9) rfl dX5_runScript_151 ?_
              refine lv_iconst (v := (0 : Int32)) hx hb dX5_runScript_154 (by decide) ?_
              obtain ⟨u54, h54, hf⟩ := z_bE hf
              obtain ⟨g54, e54, hf⟩ := z_ltE hf
              refine z_cSvC (As := [.ref (a 3), .int (0 : Int32), .ref (a 1), .int (0 : Int32)]) (rest := []) (V := (z_md c a g95_53)) (V' := (z_md c a g54)) (wf := (fun u : Nat → Int32 => z_cp c (a 3) (a 1) 925 925 (g95_53 3) u)) (g := g95_53 1) (u0 := u54) ⟨hx, hb, hml, hown, hts⟩ (kX5_copy l D c N (a 3) (a 1) 925 925 H.size  (g95_53 3) (g95_53 1) (0 : Int32) (0 : Int32) u54 h54) (va_cwS 4 hts gX5_runScript_X5_copy rfl rfl rfl (by decide +kernel) ⟨Nat.le_of_ble_eq_true rfl, Nat.le_of_ble_eq_true rfl⟩) hP hK hD hS hA [3, 1] [0, 2, 4, 5, 6, 7, 8, 9] [0, 9, 1, 8, 2, 3, 4, 5, 6, 7] rfl rfl (by decide) (by decide) (by decide) (by decide) rfl hl.1 (Nat.le_of_ble_eq_true rfl) rfl dX5_runScript_155 ⟨Nat.zero_le _, Nat.zero_le _⟩ (by rw [e54]; rfl) (fun H locs hP hD hS => ?_)
              refine lv_iload hx hb dX5_runScript_158 (lv_at hl 1 rfl) ?_
              exact z_ri (wf := (z_md c a)) hx hb hr hlocks hP hD hS hf dX5_runScript_160
            · have hf := z_ifF hf c51
              refine lv_iconst (v := (0 : Int32)) hx hb dX5_runScript_66 (by decide) ?_
              exact z_ri (wf := (z_md c a)) hx hb hr hlocks hP hD hS hf dX5_runScript_67
          · have hf := z_ifF hf c49
            refine lv_lload_n hx hb dX5_runScript_44 rfl (lv_at hl 3 rfl) ?_
            refine lv_lload hx hb dX5_runScript_45 (lv_at hl 0 rfl) ?_
            refine W.lcmp hx hb dX5_runScript_47 ?_
            refine lv_if_lt (tgt := 55) hx hb dX5_runScript_48 (by decide) (fun c55 => ?_) (fun c55 => ?_)
            · have hf := z_ifT hf c55
              refine lv_iconst (v := (0 : Int32)) hx hb dX5_runScript_55 (by decide) ?_
              refine va_put (D := D) (ci := 5) (v := .int (0 : Int32)) (ty := .int) (C := RX5) (T := TX5) (N := 13) hx hb hts iX5_runScript_X5 tyX5 tyX5_ok nmX5 hown hK.1 hP hD hS 0 rfl rfl 0 (by decide) (hts _ qX5_runScript_37) (fun _ h9 => h9) rfl (by decide +kernel) rfl rfl (Nat.le_of_ble_eq_true rfl) dX5_runScript_56 (fun H locs hP hD hS => ?_)
              obtain ⟨g56, e56, hf⟩ := z_ltE hf
              have hP : va_P D vwCl (z_md c a g56) H := by rw [e56]; exact hP
              have hD : va_D A (z_md c a g56) := by rw [e56]; exact hD
              clear e56
              refine lv_aload_n hx hb dX5_runScript_59 rfl (lv_at hl 1 rfl) ?_
              refine va_get (D := D) (ci := 5) (v := .int (g56 0 0)) (C := RX5) (T := TX5) (N := 13) hx hb hts iX5_runScript_X5 hown hK.1 hP 0 rfl rfl 0 (by decide) (hts _ qX5_runScript_37) (fun _ h9 => h9) rfl dX5_runScript_60 ?_
              refine lv_if_le (tgt := 68) hx hb dX5_runScript_63 (by decide) (fun c57 => ?_) (fun c57 => ?_)
              · have hf := z_ifT hf c57
                refine lv_aload_n hx hb dX5_runScript_68 rfl (lv_at hl 1 rfl) ?_
                refine va_get (D := D) (ci := 5) (v := .ref (a 1)) (C := RX5) (T := TX5) (N := 13) hx hb hts iX5_runScript_X5 hown hK.1 hP 0 rfl rfl 1 (by decide) (hts _ qX5_runScript_7) (fun _ h9 => h9) rfl dX5_runScript_69 ?_
                refine lv_iconst (v := (0 : Int32)) hx hb dX5_runScript_72 (by decide) ?_
                refine lv_aload_n hx hb dX5_runScript_73 rfl (lv_at hl 1 rfl) ?_
                refine va_get (D := D) (ci := 5) (v := .ref (a 3)) (C := RX5) (T := TX5) (N := 13) hx hb hts iX5_runScript_X5 hown hK.1 hP 0 rfl rfl 3 (by decide) (hts _ qX5_runScript_16) (fun _ h9 => h9) rfl dX5_runScript_74 ?_
                refine lv_iconst (v := (0 : Int32)) hx hb dX5_runScript_77 (by decide) ?_
                obtain ⟨u58, h58, hf⟩ := z_bE hf
                obtain ⟨g58, e58, hf⟩ := z_ltE hf
                refine z_cSvC (As := [.ref (a 1), .int (0 : Int32), .ref (a 3), .int (0 : Int32)]) (rest := []) (V := (z_md c a g56)) (V' := (z_md c a g58)) (wf := (fun u : Nat → Int32 => z_cp c (a 1) (a 3) 925 925 (g56 1) u)) (g := g56 3) (u0 := u58) ⟨hx, hb, hml, hown, hts⟩ (kX5_copy l D c N (a 1) (a 3) 925 925 H.size  (g56 1) (g56 3) (0 : Int32) (0 : Int32) u58 h58) (va_cwS 4 hts gX5_runScript_X5_copy rfl rfl rfl (by decide +kernel) ⟨Nat.le_of_ble_eq_true rfl, Nat.le_of_ble_eq_true rfl⟩) hP hK hD hS hA [1, 3] [0, 2, 4, 5, 6, 7, 8, 9] [0, 8, 1, 9, 2, 3, 4, 5, 6, 7] rfl rfl (by decide) (by decide) (by decide) (by decide) rfl hl.1 (Nat.le_of_ble_eq_true rfl) rfl dX5_runScript_78 ⟨Nat.zero_le _, Nat.zero_le _⟩ (by rw [e58]; rfl) (fun H locs hP hD hS => ?_)
                refine lv_iconst (v := (-1 : Int32)) hx hb dX5_runScript_81 (by decide) ?_
                refine lv_istore (lv' := [(6, .int (-1 : Int32)), (4, .long (10000000000 : Int64)), (0, .ref (a 0)), (1, .int p1), (2, .long p2)]) hx hb dX5_runScript_82 hl (by decide) rfl (fun ls hl => ?_)
                refine lv_lload hx hb dX5_runScript_84 (lv_at hl 1 rfl) ?_
                refine lv_ldc2 (v := (100000 : Int64)) hx hb hown (hts _ qX5_runScript_172) dX5_runScript_86 ?_
                refine lv_ldiv hx hb dX5_runScript_89 (by decide) ?_
                refine lv_lstore (lv' := [(7, .long ((10000000000 : Int64) / (100000 : Int64))), (6, .int (-1 : Int32)), (4, .long (10000000000 : Int64)), (0, .ref (a 0)), (1, .int p1), (2, .long p2)]) hx hb dX5_runScript_90 hl (by decide) rfl (fun ls hl => ?_)
                refine lv_iconst (v := (0 : Int32)) hx hb dX5_runScript_92 (by decide) ?_
                refine lv_istore (lv' := [(9, .int (0 : Int32)), (7, .long ((10000000000 : Int64) / (100000 : Int64))), (6, .int (-1 : Int32)), (4, .long (10000000000 : Int64)), (0, .ref (a 0)), (1, .int p1), (2, .long p2)]) hx hb dX5_runScript_93 hl (by decide) rfl (fun ls hl => ?_)
                refine L95 _ _ _ (fun x6_95 g95_59 hf H locs ls hP hD hS hl => ?_) N _ _ _ _ hf H locs ls hP hD hS (lv_sub hl [4, 5, 6, 2, 1, 0] rfl)
                refine lv_aload_n hx hb dX5_runScript_145 rfl (lv_at hl 0 rfl) ?_
                refine va_get (D := D) (ci := 5) (v := .ref (a 3)) (C := RX5) (T := TX5) (N := 13) hx hb hts iX5_runScript_X5 hown hK.1 hP 0 rfl rfl 3 (by decide) (hts _ qX5_runScript_16) (fun _ h9 => h9) rfl dX5_runScript_146 ?_
                refine lv_iconst (v := (0 : Int32)) hx hb dX5_runScript_149 (by decide) ?_
                refine lv_aload_n hx hb dX5_runScript_150 rfl (lv_at hl 0 rfl) ?_
                refine va_get (D := D) (ci := 5) (v := .ref (a 1)) (C := RX5) (T := TX5) (N := 13) hx hb hts iX5_runScript_X5 hown hK.1 hP 0 rfl rfl 1 (by decide) (hts _ qX5_runScript_7) (fun _ h9 => h9) rfl dX5_runScript_151 ?_
                refine lv_iconst (v := (0 : Int32)) hx hb dX5_runScript_154 (by decide) ?_
                obtain ⟨u60, h60, hf⟩ := z_bE hf
                obtain ⟨g60, e60, hf⟩ := z_ltE hf
                refine z_cSvC (As := [.ref (a 3), .int (0 : Int32), .ref (a 1), .int (0 : Int32)]) (rest := []) (V := (z_md c a g95_59)) (V' := (z_md c a g60)) (wf := (fun u : Nat → Int32 => z_cp c (a 3) (a 1) 925 925 (g95_59 3) u)) (g := g95_59 1) (u0 := u60) ⟨hx, hb, hml, hown, hts⟩ (kX5_copy l D c N (a 3) (a 1) 925 925 H.size  (g95_59 3) (g95_59 1) (0 : Int32) (0 : Int32) u60 h60) (va_cwS 4 hts gX5_runScript_X5_copy rfl rfl rfl (by decide +kernel) ⟨Nat.le_of_ble_eq_true rfl, Nat.le_of_ble_eq_true rfl⟩) hP hK hD hS hA [3, 1] [0, 2, 4, 5, 6, 7, 8, 9] [0, 9, 1, 8, 2, 3, 4, 5, 6, 7] rfl rfl (by decide) (by decide) (by decide) (by decide) rfl hl.1 (Nat.le_of_ble_eq_true rfl) rfl dX5_runScript_155 ⟨Nat.zero_le _, Nat.zero_le _⟩ (by rw [e60]; rfl) (fun H locs hP hD hS => ?_)
                refine lv_iload hx hb dX5_runScript_158 (lv_at hl 1 rfl) ?_
                exact z_ri (wf := (z_md c a)) hx hb hr hlocks hP hD hS hf dX5_runScript_160
              · have hf := z_ifF hf c57
                refine lv_iconst (v := (0 : Int32)) hx hb dX5_runScript_66 (by decide) ?_
                exact z_ri (wf := (z_md c a)) hx hb hr hlocks hP hD hS hf dX5_runScript_67
            · have hf := z_ifF hf c55
              refine lv_iconst (v := (1 : Int32)) hx hb dX5_runScript_51 (by decide) ?_
              refine lv_goto (tgt := 56) hx hb dX5_runScript_52 (by decide) ?_
              refine va_put (D := D) (ci := 5) (v := .int (1 : Int32)) (ty := .int) (C := RX5) (T := TX5) (N := 13) hx hb hts iX5_runScript_X5 tyX5 tyX5_ok nmX5 hown hK.1 hP hD hS 0 rfl rfl 0 (by decide) (hts _ qX5_runScript_37) (fun _ h9 => h9) rfl (by decide +kernel) rfl rfl (Nat.le_of_ble_eq_true rfl) dX5_runScript_56 (fun H locs hP hD hS => ?_)
              obtain ⟨g61, e61, hf⟩ := z_ltE hf
              have hP : va_P D vwCl (z_md c a g61) H := by rw [e61]; exact hP
              have hD : va_D A (z_md c a g61) := by rw [e61]; exact hD
              clear e61
              refine lv_aload_n hx hb dX5_runScript_59 rfl (lv_at hl 1 rfl) ?_
              refine va_get (D := D) (ci := 5) (v := .int (g61 0 0)) (C := RX5) (T := TX5) (N := 13) hx hb hts iX5_runScript_X5 hown hK.1 hP 0 rfl rfl 0 (by decide) (hts _ qX5_runScript_37) (fun _ h9 => h9) rfl dX5_runScript_60 ?_
              refine lv_if_le (tgt := 68) hx hb dX5_runScript_63 (by decide) (fun c62 => ?_) (fun c62 => ?_)
              · have hf := z_ifT hf c62
                refine lv_aload_n hx hb dX5_runScript_68 rfl (lv_at hl 1 rfl) ?_
                refine va_get (D := D) (ci := 5) (v := .ref (a 1)) (C := RX5) (T := TX5) (N := 13) hx hb hts iX5_runScript_X5 hown hK.1 hP 0 rfl rfl 1 (by decide) (hts _ qX5_runScript_7) (fun _ h9 => h9) rfl dX5_runScript_69 ?_
                refine lv_iconst (v := (0 : Int32)) hx hb dX5_runScript_72 (by decide) ?_
                refine lv_aload_n hx hb dX5_runScript_73 rfl (lv_at hl 1 rfl) ?_
                refine va_get (D := D) (ci := 5) (v := .ref (a 3)) (C := RX5) (T := TX5) (N := 13) hx hb hts iX5_runScript_X5 hown hK.1 hP 0 rfl rfl 3 (by decide) (hts _ qX5_runScript_16) (fun _ h9 => h9) rfl dX5_runScript_74 ?_
                refine lv_iconst (v := (0 : Int32)) hx hb dX5_runScript_77 (by decide) ?_
                obtain ⟨u63, h63, hf⟩ := z_bE hf
                obtain ⟨g63, e63, hf⟩ := z_ltE hf
                refine z_cSvC (As := [.ref (a 1), .int (0 : Int32), .ref (a 3), .int (0 : Int32)]) (rest := []) (V := (z_md c a g61)) (V' := (z_md c a g63)) (wf := (fun u : Nat → Int32 => z_cp c (a 1) (a 3) 925 925 (g61 1) u)) (g := g61 3) (u0 := u63) ⟨hx, hb, hml, hown, hts⟩ (kX5_copy l D c N (a 1) (a 3) 925 925 H.size  (g61 1) (g61 3) (0 : Int32) (0 : Int32) u63 h63) (va_cwS 4 hts gX5_runScript_X5_copy rfl rfl rfl (by decide +kernel) ⟨Nat.le_of_ble_eq_true rfl, Nat.le_of_ble_eq_true rfl⟩) hP hK hD hS hA [1, 3] [0, 2, 4, 5, 6, 7, 8, 9] [0, 8, 1, 9, 2, 3, 4, 5, 6, 7] rfl rfl (by decide) (by decide) (by decide) (by decide) rfl hl.1 (Nat.le_of_ble_eq_true rfl) rfl dX5_runScript_78 ⟨Nat.zero_le _, Nat.zero_le _⟩ (by rw [e63]; rfl) (fun H locs hP hD hS => ?_)
                refine lv_iconst (v := (-1 : Int32)) hx hb dX5_runScript_81 (by decide) ?_
                refine lv_istore (lv' := [(6, .int (-1 : Int32)), (4, .long (10000000000 : Int64)), (0, .ref (a 0)), (1, .int p1), (2, .long p2)]) hx hb dX5_runScript_82 hl (by decide) rfl (fun ls hl => ?_)
                refine lv_lload hx hb dX5_runScript_84 (lv_at hl 1 rfl) ?_
                refine lv_ldc2 (v := (100000 : Int64)) hx hb hown (hts _ qX5_runScript_172) dX5_runScript_86 ?_
                refine lv_ldiv hx hb dX5_runScript_89 (by decide) ?_
                refine lv_lstore (lv' := [(7, .long ((10000000000 : Int64) / (100000 : Int64))), (6, .int (-1 : Int32)), (4, .long (10000000000 : Int64)), (0, .ref (a 0)), (1, .int p1), (2, .long p2)]) hx hb dX5_runScript_90 hl (by decide) rfl (fun ls hl => ?_)
                refine lv_iconst (v := (0 : Int32)) hx hb dX5_runScript_92 (by decide) ?_
                refine lv_istore (lv' := [(9, .int (0 : Int32)), (7, .long ((10000000000 : Int64) / (100000 : Int64))), (6, .int (-1 : Int32)), (4, .long (10000000000 : Int64)), (0, .ref (a 0)), (1, .int p1), (2, .long p2)]) hx hb dX5_runScript_93 hl (by decide) rfl (fun ls hl => ?_)
                refine L95 _ _ _ (fun x6_95 g95_64 hf H locs ls hP hD hS hl => ?_) N _ _ _ _ hf H locs ls hP hD hS (lv_sub hl [4, 5, 6, 2, 1, 0] rfl)
                refine lv_aload_n hx hb dX5_runScript_145 rfl (lv_at hl 0 rfl) ?_
                refine va_get (D := D) (ci := 5) (v := .ref (a 3)) (C := RX5) (T := TX5) (N := 13) hx hb hts iX5_runScript_X5 hown hK.1 hP 0 rfl rfl 3 (by decide) (hts _ qX5_runScript_16) (fun _ h9 => h9) rfl dX5_runScript_146 ?_
                refine lv_iconst (v := (0 : Int32)) hx hb dX5_runScript_149 (by decide) ?_
                refine lv_aload_n hx hb dX5_runScript_150 rfl (lv_at hl 0 rfl) ?_
                refine va_get (D := D) (ci := 5) (v := .ref (a 1)) (C := RX5) (T := TX5) (N := 13) hx hb hts iX5_runScript_X5 hown hK.1 hP 0 rfl rfl 1 (by decide) (hts _ qX5_runScript_7) (fun _ h9 => h9) rfl dX5_runScript_151 ?_
                refine lv_iconst (v := (0 : Int32)) hx hb dX5_runScript_154 (by decide) ?_
                obtain ⟨u65, h65, hf⟩ := z_bE hf
                obtain ⟨g65, e65, hf⟩ := z_ltE hf
                refine z_cSvC (As := [.ref (a 3), .int (0 : Int32), .ref (a 1), .int (0 : Int32)]) (rest := []) (V := (z_md c a g95_64)) (V' := (z_md c a g65)) (wf := (fun u : Nat → Int32 => z_cp c (a 3) (a 1) 925 925 (g95_64 3) u)) (g := g95_64 1) (u0 := u65) ⟨hx, hb, hml, hown, hts⟩ (kX5_copy l D c N (a 3) (a 1) 925 925 H.size  (g95_64 3) (g95_64 1) (0 : Int32) (0 : Int32) u65 h65) (va_cwS 4 hts gX5_runScript_X5_copy rfl rfl rfl (by decide +kernel) ⟨Nat.le_of_ble_eq_true rfl, Nat.le_of_ble_eq_true rfl⟩) hP hK hD hS hA [3, 1] [0, 2, 4, 5, 6, 7, 8, 9] [0, 9, 1, 8, 2, 3, 4, 5, 6, 7] rfl rfl (by decide) (by decide) (by decide) (by decide) rfl hl.1 (Nat.le_of_ble_eq_true rfl) rfl dX5_runScript_155 ⟨Nat.zero_le _, Nat.zero_le _⟩ (by rw [e65]; rfl) (fun H locs hP hD hS => ?_)
                refine lv_iload hx hb dX5_runScript_158 (lv_at hl 1 rfl) ?_
                exact z_ri (wf := (z_md c a)) hx hb hr hlocks hP hD hS hf dX5_runScript_160
              · have hf := z_ifF hf c62
                refine lv_iconst (v := (0 : Int32)) hx hb dX5_runScript_66 (by decide) ?_
                exact z_ri (wf := (z_md c a)) hx hb hr hlocks hP hD hS hf dX5_runScript_67
  · have hf := z_ifT hf c1
    refine lv_ldc2 (v := (100000 : Int64)) hx hb hown (hts _ qX5_runScript_172) dX5_runScript_5 ?_
    refine lv_goto (tgt := 25) hx hb dX5_runScript_8 (by decide) ?_
    refine lv_lstore (lv' := [(4, .long (100000 : Int64)), (0, .ref (a 0)), (1, .int p1), (2, .long p2)]) hx hb dX5_runScript_25 hl (by decide) rfl (fun ls hl => ?_)
    refine lv_aload_n hx hb dX5_runScript_27 rfl (lv_at hl 1 rfl) ?_
    refine lv_iload_n hx hb dX5_runScript_28 rfl (lv_at hl 2 rfl) ?_
    refine lv_iconst (v := (1 : Int32)) hx hb dX5_runScript_29 (by decide) ?_
    refine lv_icmp_lt (tgt := 51) hx hb dX5_runScript_30 (by decide) (fun c66 => ?_) (fun c66 => ?_)
    · have hf := z_ifT hf c66
      refine lv_iconst (v := (1 : Int32)) hx hb dX5_runScript_51 (by decide) ?_
      refine lv_goto (tgt := 56) hx hb dX5_runScript_52 (by decide) ?_
      refine va_put (D := D) (ci := 5) (v := .int (1 : Int32)) (ty := .int) (C := RX5) (T := TX5) (N := 13) hx hb hts iX5_runScript_X5 tyX5 tyX5_ok nmX5 hown hK.1 hP hD hS 0 rfl rfl 0 (by decide) (hts _ qX5_runScript_37) (fun _ h9 => h9) rfl (by decide +kernel) rfl rfl (Nat.le_of_ble_eq_true rfl) dX5_runScript_56 (fun H locs hP hD hS => ?_)
      obtain ⟨g67, e67, hf⟩ := z_ltE hf
      have hP : va_P D vwCl (z_md c a g67) H := by rw [e67]; exact hP
      have hD : va_D A (z_md c a g67) := by rw [e67]; exact hD
      clear e67
      refine lv_aload_n hx hb dX5_runScript_59 rfl (lv_at hl 1 rfl) ?_
      refine va_get (D := D) (ci := 5) (v := .int (g67 0 0)) (C := RX5) (T := TX5) (N := 13) hx hb hts iX5_runScript_X5 hown hK.1 hP 0 rfl rfl 0 (by decide) (hts _ qX5_runScript_37) (fun _ h9 => h9) rfl dX5_runScript_60 ?_
      refine lv_if_le (tgt := 68) hx hb dX5_runScript_63 (by decide) (fun c68 => ?_) (fun c68 => ?_)
      · have hf := z_ifT hf c68
        refine lv_aload_n hx hb dX5_runScript_68 rfl (lv_at hl 1 rfl) ?_
        refine va_get (D := D) (ci := 5) (v := .ref (a 1)) (C := RX5) (T := TX5) (N := 13) hx hb hts iX5_runScript_X5 hown hK.1 hP 0 rfl rfl 1 (by decide) (hts _ qX5_runScript_7) (fun _ h9 => h9) rfl dX5_runScript_69 ?_
        refine lv_iconst (v := (0 : Int32)) hx hb dX5_runScript_72 (by decide) ?_
        refine lv_aload_n hx hb dX5_runScript_73 rfl (lv_at hl 1 rfl) ?_
        refine va_get (D := D) (ci := 5) (v := .ref (a 3)) (C := RX5) (T := TX5) (N := 13) hx hb hts iX5_runScript_X5 hown hK.1 hP 0 rfl rfl 3 (by decide) (hts _ qX5_runScript_16) (fun _ h9 => h9) rfl dX5_runScript_74 ?_
        refine lv_iconst (v := (0 : Int32)) hx hb dX5_runScript_77 (by decide) ?_
        obtain ⟨u69, h69, hf⟩ := z_bE hf
        obtain ⟨g69, e69, hf⟩ := z_ltE hf
        refine z_cSvC (As := [.ref (a 1), .int (0 : Int32), .ref (a 3), .int (0 : Int32)]) (rest := []) (V := (z_md c a g67)) (V' := (z_md c a g69)) (wf := (fun u : Nat → Int32 => z_cp c (a 1) (a 3) 925 925 (g67 1) u)) (g := g67 3) (u0 := u69) ⟨hx, hb, hml, hown, hts⟩ (kX5_copy l D c N (a 1) (a 3) 925 925 H.size  (g67 1) (g67 3) (0 : Int32) (0 : Int32) u69 h69) (va_cwS 4 hts gX5_runScript_X5_copy rfl rfl rfl (by decide +kernel) ⟨Nat.le_of_ble_eq_true rfl, Nat.le_of_ble_eq_true rfl⟩) hP hK hD hS hA [1, 3] [0, 2, 4, 5, 6, 7, 8, 9] [0, 8, 1, 9, 2, 3, 4, 5, 6, 7] rfl rfl (by decide) (by decide) (by decide) (by decide) rfl hl.1 (Nat.le_of_ble_eq_true rfl) rfl dX5_runScript_78 ⟨Nat.zero_le _, Nat.zero_le _⟩ (by rw [e69]; rfl) (fun H locs hP hD hS => ?_)
        refine lv_iconst (v := (-1 : Int32)) hx hb dX5_runScript_81 (by decide) ?_
        refine lv_istore (lv' := [(6, .int (-1 : Int32)), (4, .long (100000 : Int64)), (0, .ref (a 0)), (1, .int p1), (2, .long p2)]) hx hb dX5_runScript_82 hl (by decide) rfl (fun ls hl => ?_)
        refine lv_lload hx hb dX5_runScript_84 (lv_at hl 1 rfl) ?_
        refine lv_ldc2 (v := (100000 : Int64)) hx hb hown (hts _ qX5_runScript_172) dX5_runScript_86 ?_
        refine lv_ldiv hx hb dX5_runScript_89 (by decide) ?_
        refine lv_lstore (lv' := [(7, .long ((100000 : Int64) / (100000 : Int64))), (6, .int (-1 : Int32)), (4, .long (100000 : Int64)), (0, .ref (a 0)), (1, .int p1), (2, .long p2)]) hx hb dX5_runScript_90 hl (by decide) rfl (fun ls hl => ?_)
        refine lv_iconst (v := (0 : Int32)) hx hb dX5_runScript_92 (by decide) ?_
        refine lv_istore (lv' := [(9, .int (0 : Int32)), (7, .long ((100000 : Int64) / (100000 : Int64))), (6, .int (-1 : Int32)), (4, .long (100000 : Int64)), (0, .ref (a 0)), (1, .int p1), (2, .long p2)]) hx hb dX5_runScript_93 hl (by decide) rfl (fun ls hl => ?_)
        refine L95 _ _ _ (fun x6_95 g95_70 hf H locs ls hP hD hS hl => ?_) N _ _ _ _ hf H locs ls hP hD hS (lv_sub hl [4, 5, 6, 2, 1, 0] rfl)
        refine lv_aload_n hx hb dX5_runScript_145 rfl (lv_at hl 0 rfl) ?_
        refine va_get (D := D) (ci := 5) (v := .ref (a 3)) (C := RX5) (T := TX5) (N := 13) hx hb hts iX5_runScript_X5 hown hK.1 hP 0 rfl rfl 3 (by decide) (hts _ qX5_runScript_16) (fun _ h9 => h9) rfl dX5_runScript_146 ?_
        refine lv_iconst (v := (0 : Int32)) hx hb dX5_runScript_149 (by decide) ?_
        refine lv_aload_n hx hb dX5_runScript_150 rfl (lv_at hl 0 rfl) ?_
        refine va_get (D := D) (ci := 5) (v := .ref (a 1)) (C := RX5) (T := TX5) (N := 13) hx hb hts iX5_runScript_X5 hown hK.1 hP 0 rfl rfl 1 (by decide) (hts _ qX5_runScript_7) (fun _ h9 => h9) rfl dX5_runScript_151 ?_
        refine lv_iconst (v := (0 : Int32)) hx hb dX5_runScript_154 (by decide) ?_
        obtain ⟨u71, h71, hf⟩ := z_bE hf
        obtain ⟨g71, e71, hf⟩ := z_ltE hf
        refine z_cSvC (As := [.ref (a 3), .int (0 : Int32), .ref (a 1), .int (0 : Int32)]) (rest := []) (V := (z_md c a g95_70)) (V' := (z_md c a g71)) (wf := (fun u : Nat → Int32 => z_cp c (a 3) (a 1) 925 925 (g95_70 3) u)) (g := g95_70 1) (u0 := u71) ⟨hx, hb, hml, hown, hts⟩ (kX5_copy l D c N (a 3) (a 1) 925 925 H.size  (g95_70 3) (g95_70 1) (0 : Int32) (0 : Int32) u71 h71) (va_cwS 4 hts gX5_runScript_X5_copy rfl rfl rfl (by decide +kernel) ⟨Nat.le_of_ble_eq_true rfl, Nat.le_of_ble_eq_true rfl⟩) hP hK hD hS hA [3, 1] [0, 2, 4, 5, 6, 7, 8, 9] [0, 9, 1, 8, 2, 3, 4, 5, 6, 7] rfl rfl (by decide) (by decide) (by decide) (by decide) rfl hl.1 (Nat.le_of_ble_eq_true rfl) rfl dX5_runScript_155 ⟨Nat.zero_le _, Nat.zero_le _⟩ (by rw [e71]; rfl) (fun H locs hP hD hS => ?_)
        refine lv_iload hx hb dX5_runScript_158 (lv_at hl 1 rfl) ?_
        exact z_ri (wf := (z_md c a)) hx hb hr hlocks hP hD hS hf dX5_runScript_160
      · have hf := z_ifF hf c68
        refine lv_iconst (v := (0 : Int32)) hx hb dX5_runScript_66 (by decide) ?_
        exact z_ri (wf := (z_md c a)) hx hb hr hlocks hP hD hS hf dX5_runScript_67
    · have hf := z_ifF hf c66
      refine lv_iload_n hx hb dX5_runScript_33 rfl (lv_at hl 2 rfl) ?_
      refine lv_iconst (v := (3 : Int32)) hx hb dX5_runScript_34 (by decide) ?_
      refine lv_icmp_gt (tgt := 51) hx hb dX5_runScript_35 (by decide) (fun c72 => ?_) (fun c72 => ?_)
      · have hf := z_ifT hf c72
        refine lv_iconst (v := (1 : Int32)) hx hb dX5_runScript_51 (by decide) ?_
        refine lv_goto (tgt := 56) hx hb dX5_runScript_52 (by decide) ?_
        refine va_put (D := D) (ci := 5) (v := .int (1 : Int32)) (ty := .int) (C := RX5) (T := TX5) (N := 13) hx hb hts iX5_runScript_X5 tyX5 tyX5_ok nmX5 hown hK.1 hP hD hS 0 rfl rfl 0 (by decide) (hts _ qX5_runScript_37) (fun _ h9 => h9) rfl (by decide +kernel) rfl rfl (Nat.le_of_ble_eq_true rfl) dX5_runScript_56 (fun H locs hP hD hS => ?_)
        obtain ⟨g73, e73, hf⟩ := z_ltE hf
        have hP : va_P D vwCl (z_md c a g73) H := by rw [e73]; exact hP
        have hD : va_D A (z_md c a g73) := by rw [e73]; exact hD
        clear e73
        refine lv_aload_n hx hb dX5_runScript_59 rfl (lv_at hl 1 rfl) ?_
        refine va_get (D := D) (ci := 5) (v := .int (g73 0 0)) (C := RX5) (T := TX5) (N := 13) hx hb hts iX5_runScript_X5 hown hK.1 hP 0 rfl rfl 0 (by decide) (hts _ qX5_runScript_37) (fun _ h9 => h9) rfl dX5_runScript_60 ?_
        refine lv_if_le (tgt := 68) hx hb dX5_runScript_63 (by decide) (fun c74 => ?_) (fun c74 => ?_)
        · have hf := z_ifT hf c74
          refine lv_aload_n hx hb dX5_runScript_68 rfl (lv_at hl 1 rfl) ?_
          refine va_get (D := D) (ci := 5) (v := .ref (a 1)) (C := RX5) (T := TX5) (N := 13) hx hb hts iX5_runScript_X5 hown hK.1 hP 0 rfl rfl 1 (by decide) (hts _ qX5_runScript_7) (fun _ h9 => h9) rfl dX5_runScript_69 ?_
          refine lv_iconst (v := (0 : Int32)) hx hb dX5_runScript_72 (by decide) ?_
          refine lv_aload_n hx hb dX5_runScript_73 rfl (lv_at hl 1 rfl) ?_
          refine va_get (D := D) (ci := 5) (v := .ref (a 3)) (C := RX5) (T := TX5) (N := 13) hx hb hts iX5_runScript_X5 hown hK.1 hP 0 rfl rfl 3 (by decide) (hts _ qX5_runScript_16) (fun _ h9 => h9) rfl dX5_runScript_74 ?_
          refine lv_iconst (v := (0 : Int32)) hx hb dX5_runScript_77 (by decide) ?_
          obtain ⟨u75, h75, hf⟩ := z_bE hf
          obtain ⟨g75, e75, hf⟩ := z_ltE hf
          refine z_cSvC (As := [.ref (a 1), .int (0 : Int32), .ref (a 3), .int (0 : Int32)]) (rest := []) (V := (z_md c a g73)) (V' := (z_md c a g75)) (wf := (fun u : Nat → Int32 => z_cp c (a 1) (a 3) 925 925 (g73 1) u)) (g := g73 3) (u0 := u75) ⟨hx, hb, hml, hown, hts⟩ (kX5_copy l D c N (a 1) (a 3) 925 925 H.size  (g73 1) (g73 3) (0 : Int32) (0 : Int32) u75 h75) (va_cwS 4 hts gX5_runScript_X5_copy rfl rfl rfl (by decide +kernel) ⟨Nat.le_of_ble_eq_true rfl, Nat.le_of_ble_eq_true rfl⟩) hP hK hD hS hA [1, 3] [0, 2, 4, 5, 6, 7, 8, 9] [0, 8, 1, 9, 2, 3, 4, 5, 6, 7] rfl rfl (by decide) (by decide) (by decide) (by decide) rfl hl.1 (Nat.le_of_ble_eq_true rfl) rfl dX5_runScript_78 ⟨Nat.zero_le _, Nat.zero_le _⟩ (by rw [e75]; rfl) (fun H locs hP hD hS => ?_)
          refine lv_iconst (v := (-1 : Int32)) hx hb dX5_runScript_81 (by decide) ?_
          refine lv_istore (lv' := [(6, .int (-1 : Int32)), (4, .long (100000 : Int64)), (0, .ref (a 0)), (1, .int p1), (2, .long p2)]) hx hb dX5_runScript_82 hl (by decide) rfl (fun ls hl => ?_)
          refine lv_lload hx hb dX5_runScript_84 (lv_at hl 1 rfl) ?_
          refine lv_ldc2 (v := (100000 : Int64)) hx hb hown (hts _ qX5_runScript_172) dX5_runScript_86 ?_
          refine lv_ldiv hx hb dX5_runScript_89 (by decide) ?_
          refine lv_lstore (lv' := [(7, .long ((100000 : Int64) / (100000 : Int64))), (6, .int (-1 : Int32)), (4, .long (100000 : Int64)), (0, .ref (a 0)), (1, .int p1), (2, .long p2)]) hx hb dX5_runScript_90 hl (by decide) rfl (fun ls hl => ?_)
          refine lv_iconst (v := (0 : Int32)) hx hb dX5_runScript_92 (by decide) ?_
          refine lv_istore (lv' := [(9, .int (0 : Int32)), (7, .long ((100000 : Int64) / (100000 : Int64))), (6, .int (-1 : Int32)), (4, .long (100000 : Int64)), (0, .ref (a 0)), (1, .int p1), (2, .long p2)]) hx hb dX5_runScript_93 hl (by decide) rfl (fun ls hl => ?_)
          refine L95 _ _ _ (fun x6_95 g95_76 hf H locs ls hP hD hS hl => ?_) N _ _ _ _ hf H locs ls hP hD hS (lv_sub hl [4, 5, 6, 2, 1, 0] rfl)
          refine lv_aload_n hx hb dX5_runScript_145 rfl (lv_at hl 0 rfl) ?_
          refine va_get (D := D) (ci := 5) (v := .ref (a 3)) (C := RX5) (T := TX5) (N := 13) hx hb hts iX5_runScript_X5 hown hK.1 hP 0 rfl rfl 3 (by decide) (hts _ qX5_runScript_16) (fun _ h9 => h9) rfl dX5_runScript_146 ?_
          refine lv_iconst (v := (0 : Int32)) hx hb dX5_runScript_149 (by decide) ?_
          refine lv_aload_n hx hb dX5_runScript_150 rfl (lv_at hl 0 rfl) ?_
          refine va_get (D := D) (ci := 5) (v := .ref (a 1)) (C := RX5) (T := TX5) (N := 13) hx hb hts iX5_runScript_X5 hown hK.1 hP 0 rfl rfl 1 (by decide) (hts _ qX5_runScript_7) (fun _ h9 => h9) rfl dX5_runScript_151 ?_
          refine lv_iconst (v := (0 : Int32)) hx hb dX5_runScript_154 (by decide) ?_
          obtain ⟨u77, h77, hf⟩ := z_bE hf
          obtain ⟨g77, e77, hf⟩ := z_ltE hf
          refine z_cSvC (As := [.ref (a 3), .int (0 : Int32), .ref (a 1), .int (0 : Int32)]) (rest := []) (V := (z_md c a g95_76)) (V' := (z_md c a g77)) (wf := (fun u : Nat → Int32 => z_cp c (a 3) (a 1) 925 925 (g95_76 3) u)) (g := g95_76 1) (u0 := u77) ⟨hx, hb, hml, hown, hts⟩ (kX5_copy l D c N (a 3) (a 1) 925 925 H.size  (g95_76 3) (g95_76 1) (0 : Int32) (0 : Int32) u77 h77) (va_cwS 4 hts gX5_runScript_X5_copy rfl rfl rfl (by decide +kernel) ⟨Nat.le_of_ble_eq_true rfl, Nat.le_of_ble_eq_true rfl⟩) hP hK hD hS hA [3, 1] [0, 2, 4, 5, 6, 7, 8, 9] [0, 9, 1, 8, 2, 3, 4, 5, 6, 7] rfl rfl (by decide) (by decide) (by decide) (by decide) rfl hl.1 (Nat.le_of_ble_eq_true rfl) rfl dX5_runScript_155 ⟨Nat.zero_le _, Nat.zero_le _⟩ (by rw [e77]; rfl) (fun H locs hP hD hS => ?_)
          refine lv_iload hx hb dX5_runScript_158 (lv_at hl 1 rfl) ?_
          exact z_ri (wf := (z_md c a)) hx hb hr hlocks hP hD hS hf dX5_runScript_160
        · have hf := z_ifF hf c74
          refine lv_iconst (v := (0 : Int32)) hx hb dX5_runScript_66 (by decide) ?_
          exact z_ri (wf := (z_md c a)) hx hb hr hlocks hP hD hS hf dX5_runScript_67
      · have hf := z_ifF hf c72
        refine lv_lload_n hx hb dX5_runScript_38 rfl (lv_at hl 3 rfl) ?_
        refine lv_lconst (v := (0 : Int64)) hx hb dX5_runScript_39 (by decide) ?_
        refine W.lcmp hx hb dX5_runScript_40 ?_
        refine lv_if_lt (tgt := 51) hx hb dX5_runScript_41 (by decide) (fun c78 => ?_) (fun c78 => ?_)
        · have hf := z_ifT hf c78
          refine lv_iconst (v := (1 : Int32)) hx hb dX5_runScript_51 (by decide) ?_
          refine lv_goto (tgt := 56) hx hb dX5_runScript_52 (by decide) ?_
          refine va_put (D := D) (ci := 5) (v := .int (1 : Int32)) (ty := .int) (C := RX5) (T := TX5) (N := 13) hx hb hts iX5_runScript_X5 tyX5 tyX5_ok nmX5 hown hK.1 hP hD hS 0 rfl rfl 0 (by decide) (hts _ qX5_runScript_37) (fun _ h9 => h9) rfl (by decide +kernel) rfl rfl (Nat.le_of_ble_eq_true rfl) dX5_runScript_56 (fun H locs hP hD hS => ?_)
          obtain ⟨g79, e79, hf⟩ := z_ltE hf
          have hP : va_P D vwCl (z_md c a g79) H := by rw [e79]; exact hP
          have hD : va_D A (z_md c a g79) := by rw [e79]; exact hD
          clear e79
          refine lv_aload_n hx hb dX5_runScript_59 rfl (lv_at hl 1 rfl) ?_
          refine va_get (D := D) (ci := 5) (v := .int (g79 0 0)) (C := RX5) (T := TX5) (N := 13) hx hb hts iX5_runScript_X5 hown hK.1 hP 0 rfl rfl 0 (by decide) (hts _ qX5_runScript_37) (fun _ h9 => h9) rfl dX5_runScript_60 ?_
          refine lv_if_le (tgt := 68) hx hb dX5_runScript_63 (by decide) (fun c80 => ?_) (fun c80 => ?_)
          · have hf := z_ifT hf c80
            refine lv_aload_n hx hb dX5_runScript_68 rfl (lv_at hl 1 rfl) ?_
            refine va_get (D := D) (ci := 5) (v := .ref (a 1)) (C := RX5) (T := TX5) (N := 13) hx hb hts iX5_runScript_X5 hown hK.1 hP 0 rfl rfl 1 (by decide) (hts _ qX5_runScript_7) (fun _ h9 => h9) rfl dX5_runScript_69 ?_
            refine lv_iconst (v := (0 : Int32)) hx hb dX5_runScript_72 (by decide) ?_
            refine lv_aload_n hx hb dX5_runScript_73 rfl (lv_at hl 1 rfl) ?_
            refine va_get (D := D) (ci := 5) (v := .ref (a 3)) (C := RX5) (T := TX5) (N := 13) hx hb hts iX5_runScript_X5 hown hK.1 hP 0 rfl rfl 3 (by decide) (hts _ qX5_runScript_16) (fun _ h9 => h9) rfl dX5_runScript_74 ?_
            refine lv_iconst (v := (0 : Int32)) hx hb dX5_runScript_77 (by decide) ?_
            obtain ⟨u81, h81, hf⟩ := z_bE hf
            obtain ⟨g81, e81, hf⟩ := z_ltE hf
            refine z_cSvC (As := [.ref (a 1), .int (0 : Int32), .ref (a 3), .int (0 : Int32)]) (rest := []) (V := (z_md c a g79)) (V' := (z_md c a g81)) (wf := (fun u : Nat → Int32 => z_cp c (a 1) (a 3) 925 925 (g79 1) u)) (g := g79 3) (u0 := u81) ⟨hx, hb, hml, hown, hts⟩ (kX5_copy l D c N (a 1) (a 3) 925 925 H.size  (g79 1) (g79 3) (0 : Int32) (0 : Int32) u81 h81) (va_cwS 4 hts gX5_runScript_X5_copy rfl rfl rfl (by decide +kernel) ⟨Nat.le_of_ble_eq_true rfl, Nat.le_of_ble_eq_true rfl⟩) hP hK hD hS hA [1, 3] [0, 2, 4, 5, 6, 7, 8, 9] [0, 8, 1, 9, 2, 3, 4, 5, 6, 7] rfl rfl (by decide) (by decide) (by decide) (by decide) rfl hl.1 (Nat.le_of_ble_eq_true rfl) rfl dX5_runScript_78 ⟨Nat.zero_le _, Nat.zero_le _⟩ (by rw [e81]; rfl) (fun H locs hP hD hS => ?_)
            refine lv_iconst (v := (-1 : Int32)) hx hb dX5_runScript_81 (by decide) ?_
            refine lv_istore (lv' := [(6, .int (-1 : Int32)), (4, .long (100000 : Int64)), (0, .ref (a 0)), (1, .int p1), (2, .long p2)]) hx hb dX5_runScript_82 hl (by decide) rfl (fun ls hl => ?_)
            refine lv_lload hx hb dX5_runScript_84 (lv_at hl 1 rfl) ?_
            refine lv_ldc2 (v := (100000 : Int64)) hx hb hown (hts _ qX5_runScript_172) dX5_runScript_86 ?_
            refine lv_ldiv hx hb dX5_runScript_89 (by decide) ?_
            refine lv_lstore (lv' := [(7, .long ((100000 : Int64) / (100000 : Int64))), (6, .int (-1 : Int32)), (4, .long (100000 : Int64)), (0, .ref (a 0)), (1, .int p1), (2, .long p2)]) hx hb dX5_runScript_90 hl (by decide) rfl (fun ls hl => ?_)
            refine lv_iconst (v := (0 : Int32)) hx hb dX5_runScript_92 (by decide) ?_
            refine lv_istore (lv' := [(9, .int (0 : Int32)), (7, .long ((100000 : Int64) / (100000 : Int64))), (6, .int (-1 : Int32)), (4, .long (100000 : Int64)), (0, .ref (a 0)), (1, .int p1), (2, .long p2)]) hx hb dX5_runScript_93 hl (by decide) rfl (fun ls hl => ?_)
            refine L95 _ _ _ (fun x6_95 g95_82 hf H locs ls hP hD hS hl => ?_) N _ _ _ _ hf H locs ls hP hD hS (lv_sub hl [4, 5, 6, 2, 1, 0] rfl)
            refine lv_aload_n hx hb dX5_runScript_145 rfl (lv_at hl 0 rfl) ?_
            refine va_get (D := D) (ci := 5) (v := .ref (a 3)) (C := RX5) (T := TX5) (N := 13) hx hb hts iX5_runScript_X5 hown hK.1 hP 0 rfl rfl 3 (by decide) (hts _ qX5_runScript_16) (fun _ h9 => h9) rfl dX5_runScript_146 ?_
            refine lv_iconst (v := (0 : Int32)) hx hb dX5_runScript_149 (by decide) ?_
            refine lv_aload_n hx hb dX5_runScript_150 rfl (lv_at hl 0 rfl) ?_
            refine va_get (D := D) (ci := 5) (v := .ref (a 1)) (C := RX5) (T := TX5) (N := 13) hx hb hts iX5_runScript_X5 hown hK.1 hP 0 rfl rfl 1 (by decide) (hts _ qX5_runScript_7) (fun _ h9 => h9) rfl dX5_runScript_151 ?_
            refine lv_iconst (v := (0 : Int32)) hx hb dX5_runScript_154 (by decide) ?_
            obtain ⟨u83, h83, hf⟩ := z_bE hf
            obtain ⟨g83, e83, hf⟩ := z_ltE hf
            refine z_cSvC (As := [.ref (a 3), .int (0 : Int32), .ref (a 1), .int (0 : Int32)]) (rest := []) (V := (z_md c a g95_82)) (V' := (z_md c a g83)) (wf := (fun u : Nat → Int32 => z_cp c (a 3) (a 1) 925 925 (g95_82 3) u)) (g := g95_82 1) (u0 := u83) ⟨hx, hb, hml, hown, hts⟩ (kX5_copy l D c N (a 3) (a 1) 925 925 H.size  (g95_82 3) (g95_82 1) (0 : Int32) (0 : Int32) u83 h83) (va_cwS 4 hts gX5_runScript_X5_copy rfl rfl rfl (by decide +kernel) ⟨Nat.le_of_ble_eq_true rfl, Nat.le_of_ble_eq_true rfl⟩) hP hK hD hS hA [3, 1] [0, 2, 4, 5, 6, 7, 8, 9] [0, 9, 1, 8, 2, 3, 4, 5, 6, 7] rfl rfl (by decide) (by decide) (by decide) (by decide) rfl hl.1 (Nat.le_of_ble_eq_true rfl) rfl dX5_runScript_155 ⟨Nat.zero_le _, Nat.zero_le _⟩ (by rw [e83]; rfl) (fun H locs hP hD hS => ?_)
            refine lv_iload hx hb dX5_runScript_158 (lv_at hl 1 rfl) ?_
            exact z_ri (wf := (z_md c a)) hx hb hr hlocks hP hD hS hf dX5_runScript_160
          · have hf := z_ifF hf c80
            refine lv_iconst (v := (0 : Int32)) hx hb dX5_runScript_66 (by decide) ?_
            exact z_ri (wf := (z_md c a)) hx hb hr hlocks hP hD hS hf dX5_runScript_67
        · have hf := z_ifF hf c78
          refine lv_lload_n hx hb dX5_runScript_44 rfl (lv_at hl 3 rfl) ?_
          refine lv_lload hx hb dX5_runScript_45 (lv_at hl 0 rfl) ?_
          refine W.lcmp hx hb dX5_runScript_47 ?_
          refine lv_if_lt (tgt := 55) hx hb dX5_runScript_48 (by decide) (fun c84 => ?_) (fun c84 => ?_)
          · have hf := z_ifT hf c84
            refine lv_iconst (v := (0 : Int32)) hx hb dX5_runScript_55 (by decide) ?_
            refine va_put (D := D) (ci := 5) (v := .int (0 : Int32)) (ty := .int) (C := RX5) (T := TX5) (N := 13) hx hb hts iX5_runScript_X5 tyX5 tyX5_ok nmX5 hown hK.1 hP hD hS 0 rfl rfl 0 (by decide) (hts _ qX5_runScript_37) (fun _ h9 => h9) rfl (by decide +kernel) rfl rfl (Nat.le_of_ble_eq_true rfl) dX5_runScript_56 (fun H locs hP hD hS => ?_)
            obtain ⟨g85, e85, hf⟩ := z_ltE hf
            have hP : va_P D vwCl (z_md c a g85) H := by rw [e85]; exact hP
            have hD : va_D A (z_md c a g85) := by rw [e85]; exact hD
            clear e85
            refine lv_aload_n hx hb dX5_runScript_59 rfl (lv_at hl 1 rfl) ?_
            refine va_get (D := D) (ci := 5) (v := .int (g85 0 0)) (C := RX5) (T := TX5) (N := 13) hx hb hts iX5_runScript_X5 hown hK.1 hP 0 rfl rfl 0 (by decide) (hts _ qX5_runScript_37) (fun _ h9 => h9) rfl dX5_runScript_60 ?_
            refine lv_if_le (tgt := 68) hx hb dX5_runScript_63 (by decide) (fun c86 => ?_) (fun c86 => ?_)
            · have hf := z_ifT hf c86
              refine lv_aload_n hx hb dX5_runScript_68 rfl (lv_at hl 1 rfl) ?_
              refine va_get (D := D) (ci := 5) (v := .ref (a 1)) (C := RX5) (T := TX5) (N := 13) hx hb hts iX5_runScript_X5 hown hK.1 hP 0 rfl rfl 1 (by decide) (hts _ qX5_runScript_7) (fun _ h9 => h9) rfl dX5_runScript_69 ?_
              refine lv_iconst (v := (0 : Int32)) hx hb dX5_runScript_72 (by decide) ?_
              refine lv_aload_n hx hb dX5_runScript_73 rfl (lv_at hl 1 rfl) ?_
              refine va_get (D := D) (ci := 5) (v := .ref (a 3)) (C := RX5) (T := TX5) (N := 13) hx hb hts iX5_runScript_X5 hown hK.1 hP 0 rfl rfl 3 (by decide) (hts _ qX5_runScript_16) (fun _ h9 => h9) rfl dX5_runScript_74 ?_
              refine lv_iconst (v := (0 : Int32)) hx hb dX5_runScript_77 (by decide) ?_
              obtain ⟨u87, h87, hf⟩ := z_bE hf
              obtain ⟨g87, e87, hf⟩ := z_ltE hf
              refine z_cSvC (As := [.ref (a 1), .int (0 : Int32), .ref (a 3), .int (0 : Int32)]) (rest := []) (V := (z_md c a g85)) (V' := (z_md c a g87)) (wf := (fun u : Nat → Int32 => z_cp c (a 1) (a 3) 925 925 (g85 1) u)) (g := g85 3) (u0 := u87) ⟨hx, hb, hml, hown, hts⟩ (kX5_copy l D c N (a 1) (a 3) 925 925 H.size  (g85 1) (g85 3) (0 : Int32) (0 : Int32) u87 h87) (va_cwS 4 hts gX5_runScript_X5_copy rfl rfl rfl (by decide +kernel) ⟨Nat.le_of_ble_eq_true rfl, Nat.le_of_ble_eq_true rfl⟩) hP hK hD hS hA [1, 3] [0, 2, 4, 5, 6, 7, 8, 9] [0, 8, 1, 9, 2, 3, 4, 5, 6, 7] rfl rfl (by decide) (by decide) (by decide) (by decide) rfl hl.1 (Nat.le_of_ble_eq_true rfl) rfl dX5_runScript_78 ⟨Nat.zero_le _, Nat.zero_le _⟩ (by rw [e87]; rfl) (fun H locs hP hD hS => ?_)
              refine lv_iconst (v := (-1 : Int32)) hx hb dX5_runScript_81 (by decide) ?_
              refine lv_istore (lv' := [(6, .int (-1 : Int32)), (4, .long (100000 : Int64)), (0, .ref (a 0)), (1, .int p1), (2, .long p2)]) hx hb dX5_runScript_82 hl (by decide) rfl (fun ls hl => ?_)
              refine lv_lload hx hb dX5_runScript_84 (lv_at hl 1 rfl) ?_
              refine lv_ldc2 (v := (100000 : Int64)) hx hb hown (hts _ qX5_runScript_172) dX5_runScript_86 ?_
              refine lv_ldiv hx hb dX5_runScript_89 (by decide) ?_
              refine lv_lstore (lv' := [(7, .long ((100000 : Int64) / (100000 : Int64))), (6, .int (-1 : Int32)), (4, .long (100000 : Int64)), (0, .ref (a 0)), (1, .int p1), (2, .long p2)]) hx hb dX5_runScript_90 hl (by decide) rfl (fun ls hl => ?_)
              refine lv_iconst (v := (0 : Int32)) hx hb dX5_runScript_92 (by decide) ?_
              refine lv_istore (lv' := [(9, .int (0 : Int32)), (7, .long ((100000 : Int64) / (100000 : Int64))), (6, .int (-1 : Int32)), (4, .long (100000 : Int64)), (0, .ref (a 0)), (1, .int p1), (2, .long p2)]) hx hb dX5_runScript_93 hl (by decide) rfl (fun ls hl => ?_)
              refine L95 _ _ _ (fun x6_95 g95_88 hf H locs ls hP hD hS hl => ?_) N _ _ _ _ hf H locs ls hP hD hS (lv_sub hl [4, 5, 6, 2, 1, 0] rfl)
              refine lv_aload_n hx hb dX5_runScript_145 rfl (lv_at hl 0 rfl) ?_
              refine va_get (D := D) (ci := 5) (v := .ref (a 3)) (C := RX5) (T := TX5) (N := 13) hx hb hts iX5_runScript_X5 hown hK.1 hP 0 rfl rfl 3 (by decide) (hts _ qX5_runScript_16) (fun _ h9 => h9) rfl dX5_runScript_146 ?_
              refine lv_iconst (v := (0 : Int32)) hx hb dX5_runScript_149 (by decide) ?_
              refine lv_aload_n hx hb dX5_runScript_150 rfl (lv_at hl 0 rfl) ?_
              refine va_get (D := D) (ci := 5) (v := .ref (a 1)) (C := RX5) (T := TX5) (N := 13) hx hb hts iX5_runScript_X5 hown hK.1 hP 0 rfl rfl 1 (by decide) (hts _ qX5_runScript_7) (fun _ h9 => h9) rfl dX5_runScript_151 ?_
              refine lv_iconst (v := (0 : Int32)) hx hb dX5_runScript_154 (by decide) ?_
              obtain ⟨u89, h89, hf⟩ := z_bE hf
              obtain ⟨g89, e89, hf⟩ := z_ltE hf
              refine z_cSvC (As := [.ref (a 3), .int (0 : Int32), .ref (a 1), .int (0 : Int32)]) (rest := []) (V := (z_md c a g95_88)) (V' := (z_md c a g89)) (wf := (fun u : Nat → Int32 => z_cp c (a 3) (a 1) 925 925 (g95_88 3) u)) (g := g95_88 1) (u0 := u89) ⟨hx, hb, hml, hown, hts⟩ (kX5_copy l D c N (a 3) (a 1) 925 925 H.size  (g95_88 3) (g95_88 1) (0 : Int32) (0 : Int32) u89 h89) (va_cwS 4 hts gX5_runScript_X5_copy rfl rfl rfl (by decide +kernel) ⟨Nat.le_of_ble_eq_true rfl, Nat.le_of_ble_eq_true rfl⟩) hP hK hD hS hA [3, 1] [0, 2, 4, 5, 6, 7, 8, 9] [0, 9, 1, 8, 2, 3, 4, 5, 6, 7] rfl rfl (by decide) (by decide) (by decide) (by decide) rfl hl.1 (Nat.le_of_ble_eq_true rfl) rfl dX5_runScript_155 ⟨Nat.zero_le _, Nat.zero_le _⟩ (by rw [e89]; rfl) (fun H locs hP hD hS => ?_)
              refine lv_iload hx hb dX5_runScript_158 (lv_at hl 1 rfl) ?_
              exact z_ri (wf := (z_md c a)) hx hb hr hlocks hP hD hS hf dX5_runScript_160
            · have hf := z_ifF hf c86
              refine lv_iconst (v := (0 : Int32)) hx hb dX5_runScript_66 (by decide) ?_
              exact z_ri (wf := (z_md c a)) hx hb hr hlocks hP hD hS hf dX5_runScript_67
          · have hf := z_ifF hf c84
            refine lv_iconst (v := (1 : Int32)) hx hb dX5_runScript_51 (by decide) ?_
            refine lv_goto (tgt := 56) hx hb dX5_runScript_52 (by decide) ?_
            refine va_put (D := D) (ci := 5) (v := .int (1 : Int32)) (ty := .int) (C := RX5) (T := TX5) (N := 13) hx hb hts iX5_runScript_X5 tyX5 tyX5_ok nmX5 hown hK.1 hP hD hS 0 rfl rfl 0 (by decide) (hts _ qX5_runScript_37) (fun _ h9 => h9) rfl (by decide +kernel) rfl rfl (Nat.le_of_ble_eq_true rfl) dX5_runScript_56 (fun H locs hP hD hS => ?_)
            obtain ⟨g90, e90, hf⟩ := z_ltE hf
            have hP : va_P D vwCl (z_md c a g90) H := by rw [e90]; exact hP
            have hD : va_D A (z_md c a g90) := by rw [e90]; exact hD
            clear e90
            refine lv_aload_n hx hb dX5_runScript_59 rfl (lv_at hl 1 rfl) ?_
            refine va_get (D := D) (ci := 5) (v := .int (g90 0 0)) (C := RX5) (T := TX5) (N := 13) hx hb hts iX5_runScript_X5 hown hK.1 hP 0 rfl rfl 0 (by decide) (hts _ qX5_runScript_37) (fun _ h9 => h9) rfl dX5_runScript_60 ?_
            refine lv_if_le (tgt := 68) hx hb dX5_runScript_63 (by decide) (fun c91 => ?_) (fun c91 => ?_)
            · have hf := z_ifT hf c91
              refine lv_aload_n hx hb dX5_runScript_68 rfl (lv_at hl 1 rfl) ?_
              refine va_get (D := D) (ci := 5) (v := .ref (a 1)) (C := RX5) (T := TX5) (N := 13) hx hb hts iX5_runScript_X5 hown hK.1 hP 0 rfl rfl 1 (by decide) (hts _ qX5_runScript_7) (fun _ h9 => h9) rfl dX5_runScript_69 ?_
              refine lv_iconst (v := (0 : Int32)) hx hb dX5_runScript_72 (by decide) ?_
              refine lv_aload_n hx hb dX5_runScript_73 rfl (lv_at hl 1 rfl) ?_
              refine va_get (D := D) (ci := 5) (v := .ref (a 3)) (C := RX5) (T := TX5) (N := 13) hx hb hts iX5_runScript_X5 hown hK.1 hP 0 rfl rfl 3 (by decide) (hts _ qX5_runScript_16) (fun _ h9 => h9) rfl dX5_runScript_74 ?_
              refine lv_iconst (v := (0 : Int32)) hx hb dX5_runScript_77 (by decide) ?_
              obtain ⟨u92, h92, hf⟩ := z_bE hf
              obtain ⟨g92, e92, hf⟩ := z_ltE hf
              refine z_cSvC (As := [.ref (a 1), .int (0 : Int32), .ref (a 3), .int (0 : Int32)]) (rest := []) (V := (z_md c a g90)) (V' := (z_md c a g92)) (wf := (fun u : Nat → Int32 => z_cp c (a 1) (a 3) 925 925 (g90 1) u)) (g := g90 3) (u0 := u92) ⟨hx, hb, hml, hown, hts⟩ (kX5_copy l D c N (a 1) (a 3) 925 925 H.size  (g90 1) (g90 3) (0 : Int32) (0 : Int32) u92 h92) (va_cwS 4 hts gX5_runScript_X5_copy rfl rfl rfl (by decide +kernel) ⟨Nat.le_of_ble_eq_true rfl, Nat.le_of_ble_eq_true rfl⟩) hP hK hD hS hA [1, 3] [0, 2, 4, 5, 6, 7, 8, 9] [0, 8, 1, 9, 2, 3, 4, 5, 6, 7] rfl rfl (by decide) (by decide) (by decide) (by decide) rfl hl.1 (Nat.le_of_ble_eq_true rfl) rfl dX5_runScript_78 ⟨Nat.zero_le _, Nat.zero_le _⟩ (by rw [e92]; rfl) (fun H locs hP hD hS => ?_)
              refine lv_iconst (v := (-1 : Int32)) hx hb dX5_runScript_81 (by decide) ?_
              refine lv_istore (lv' := [(6, .int (-1 : Int32)), (4, .long (100000 : Int64)), (0, .ref (a 0)), (1, .int p1), (2, .long p2)]) hx hb dX5_runScript_82 hl (by decide) rfl (fun ls hl => ?_)
              refine lv_lload hx hb dX5_runScript_84 (lv_at hl 1 rfl) ?_
              refine lv_ldc2 (v := (100000 : Int64)) hx hb hown (hts _ qX5_runScript_172) dX5_runScript_86 ?_
              refine lv_ldiv hx hb dX5_runScript_89 (by decide) ?_
              refine lv_lstore (lv' := [(7, .long ((100000 : Int64) / (100000 : Int64))), (6, .int (-1 : Int32)), (4, .long (100000 : Int64)), (0, .ref (a 0)), (1, .int p1), (2, .long p2)]) hx hb dX5_runScript_90 hl (by decide) rfl (fun ls hl => ?_)
              refine lv_iconst (v := (0 : Int32)) hx hb dX5_runScript_92 (by decide) ?_
              refine lv_istore (lv' := [(9, .int (0 : Int32)), (7, .long ((100000 : Int64) / (100000 : Int64))), (6, .int (-1 : Int32)), (4, .long (100000 : Int64)), (0, .ref (a 0)), (1, .int p1), (2, .long p2)]) hx hb dX5_runScript_93 hl (by decide) rfl (fun ls hl => ?_)
              refine L95 _ _ _ (fun x6_95 g95_93 hf H locs ls hP hD hS hl => ?_) N _ _ _ _ hf H locs ls hP hD hS (lv_sub hl [4, 5, 6, 2, 1, 0] rfl)
              refine lv_aload_n hx hb dX5_runScript_145 rfl (lv_at hl 0 rfl) ?_
              refine va_get (D := D) (ci := 5) (v := .ref (a 3)) (C := RX5) (T := TX5) (N := 13) hx hb hts iX5_runScript_X5 hown hK.1 hP 0 rfl rfl 3 (by decide) (hts _ qX5_runScript_16) (fun _ h9 => h9) rfl dX5_runScript_146 ?_
              refine lv_iconst (v := (0 : Int32)) hx hb dX5_runScript_149 (by decide) ?_
              refine lv_aload_n hx hb dX5_runScript_150 rfl (lv_at hl 0 rfl) ?_
              refine va_get (D := D) (ci := 5) (v := .ref (a 1)) (C := RX5) (T := TX5) (N := 13) hx hb hts iX5_runScript_X5 hown hK.1 hP 0 rfl rfl 1 (by decide) (hts _ qX5_runScript_7) (fun _ h9 => h9) rfl dX5_runScript_151 ?_
              refine lv_iconst (v := (0 : Int32)) hx hb dX5_runScript_154 (by decide) ?_
              obtain ⟨u94, h94, hf⟩ := z_bE hf
              obtain ⟨g94, e94, hf⟩ := z_ltE hf
              refine z_cSvC (As := [.ref (a 3), .int (0 : Int32), .ref (a 1), .int (0 : Int32)]) (rest := []) (V := (z_md c a g95_93)) (V' := (z_md c a g94)) (wf := (fun u : Nat → Int32 => z_cp c (a 3) (a 1) 925 925 (g95_93 3) u)) (g := g95_93 1) (u0 := u94) ⟨hx, hb, hml, hown, hts⟩ (kX5_copy l D c N (a 3) (a 1) 925 925 H.size  (g95_93 3) (g95_93 1) (0 : Int32) (0 : Int32) u94 h94) (va_cwS 4 hts gX5_runScript_X5_copy rfl rfl rfl (by decide +kernel) ⟨Nat.le_of_ble_eq_true rfl, Nat.le_of_ble_eq_true rfl⟩) hP hK hD hS hA [3, 1] [0, 2, 4, 5, 6, 7, 8, 9] [0, 9, 1, 8, 2, 3, 4, 5, 6, 7] rfl rfl (by decide) (by decide) (by decide) (by decide) rfl hl.1 (Nat.le_of_ble_eq_true rfl) rfl dX5_runScript_155 ⟨Nat.zero_le _, Nat.zero_le _⟩ (by rw [e94]; rfl) (fun H locs hP hD hS => ?_)
              refine lv_iload hx hb dX5_runScript_158 (lv_at hl 1 rfl) ?_
              exact z_ri (wf := (z_md c a)) hx hb hr hlocks hP hD hS hf dX5_runScript_160
            · have hf := z_ifF hf c91
              refine lv_iconst (v := (0 : Int32)) hx hb dX5_runScript_66 (by decide) ?_
              exact z_ri (wf := (z_md c a)) hx hb hr hlocks hP hD hS hf dX5_runScript_67
abbrev rmX5_simulate : Room := { frames := 4, cells := 0, slots := 0, locals := 93 }
theorem qX5_simulate_37 : Cond.fieldLink RX5 37 "ProgramDrumModel" "thrown" "I" ∈ wsX5_simulate := by decide +kernel
theorem iX5_simulate_X5 : ∀ w ∈ wsX50, w ∈ wsX5_simulate := by decide +kernel
theorem qX5_simulate_7 : Cond.fieldLink RX5 7 "ProgramDrumModel" "state" "[I" ∈ wsX5_simulate := by decide +kernel
theorem qX5_simulate_16 : Cond.fieldLink RX5 16 "ProgramDrumModel" "scriptKept" "[I" ∈ wsX5_simulate := by decide +kernel
theorem qX5_simulate_181 : Cond.constantLong RX5 181 (6364136223846793005) ∈ wsX5_simulate := by decide +kernel
theorem qX5_simulate_183 : Cond.constantLong RX5 183 (1442695040888963407) ∈ wsX5_simulate := by decide +kernel
set_option maxRecDepth 100000 in
set_option maxHeartbeats 4000000 in
theorem kX5_simulate (l : Launch) (D : va_G) (c : Nat → ClassId) (N : Nat) (a : Nat → Nat) (sz : Nat) (g : z_R) (p1 : Int64) (p3 : Int32) (r0 : Int32) (g0 : z_R) (hf : fX5_simulate N p1 p3 g = some (r0, g0)) : Met l yX5_simulate wsX5_simulate rmX5_simulate (z_Pc D c sz (z_md c a g) [.ref (a 0), .long p1, .int p3]) (z_Qi D (z_md c a) r0 g0 (va_A (z_md c a g) sz)) 0 0 (va_A (z_md c a g) sz) := by
  refine z_ofM (cc := cX5_simulate) (maxL := 9) (ret := (some .int)) (Qf := fun A => z_Qi D (z_md c a) r0 g0 A) (plainFor_of_name (by decide)) rfl (Nat.le_of_ble_eq_true rfl) ?_
  intro p e s m args below meth co A ls hx hb hr hml hts hown hlocks hnm hA hP hK hD hl hsz
  have hl : lv_has ls 9 [(0, .ref (a 0)), (1, .long p1), (3, .int p3)] := hl
  have hown : s.vm.findClass RX5 = some m.cls := hown
  obtain ⟨H, hH⟩ : ∃ H, H = s.heap := ⟨_, rfl⟩
  have hS : va_S A s.heap H [] := by rw [hH]; exact va_S.rf
  rw [← hH] at hP ⊢
  clear hH
  have L50 : ∀ (x3 : Int32) (k : Int32 → z_R → Option (Int32 × z_R)) (hk : ∀ (x6 : Int32) (g : z_R), k x6 g = some (r0, g0) → ∀ (H : Heap) (locs : List Loc) (ls : Array Slot), va_P D vwCl (z_md c a g) H → va_D A (z_md c a g) → va_S A s.heap H locs → lv_has ls 9 [(0, .ref (a 0)), (6, .int x6)] → W p l e rmX5_simulate s m args below meth co H locs 0 0 (MQ below (z_Qi D (z_md c a) r0 g0 A) args s 0 0 A) (F0 m 159 ls [])) (fu : Nat) (x4 : Int64) (x6 : Int32) (x7 : Int32) (g : z_R), lX5_simulate_50 N x3 k fu x4 x6 x7 g = some (r0, g0) → ∀ (H : Heap) (locs : List Loc) (ls : Array Slot), va_P D vwCl (z_md c a g) H → va_D A (z_md c a g) → va_S A s.heap H locs → lv_has ls 9 [(0, .ref (a 0)), (3, .int x3), (4, .long x4), (6, .int x6), (7, .int x7)] → W p l e rmX5_simulate s m args below meth co H locs 0 0 (MQ below (z_Qi D (z_md c a) r0 g0 A) args s 0 0 A) (F0 m 50 ls []) := by
    intro x3 k hk fu
    induction fu with
    | zero =>
      intro x4 x6 x7 g hf
      have hf : (none : Option (Int32 × z_R)) = some _ := hf
      cases hf
    | succ fu ih =>
      intro x4 x6 x7 g hf H locs ls hP hD hS hl
      rw [lX5_simulate_50.eq_2] at hf
      refine lv_iload hx hb dX5_simulate_50 (lv_at hl 4 rfl) ?_
      refine lv_iload_n hx hb dX5_simulate_52 rfl (lv_at hl 1 rfl) ?_
      refine lv_icmp_ge (tgt := 159) hx hb dX5_simulate_53 (by decide) (fun c6 => ?_) (fun c6 => ?_)
      · have hf := z_ifT hf c6
        exact hk _ _ hf H locs ls hP hD hS (lv_sub hl [0, 3] rfl)
      · have hf := z_ifF hf c6
        refine lv_aload_n hx hb dX5_simulate_56 rfl (lv_at hl 0 rfl) ?_
        refine va_get (D := D) (ci := 5) (v := .ref (a 1)) (C := RX5) (T := TX5) (N := 13) hx hb hts iX5_simulate_X5 hown hK.1 hP 0 rfl rfl 1 (by decide) (hts _ qX5_simulate_7) (fun _ h9 => h9) rfl dX5_simulate_57 ?_
        refine lv_iconst (v := (2 : Int32)) hx hb dX5_simulate_60 (by decide) ?_
        refine va_iald hx hb hK.1 hP 1 0 rfl rfl (z_inE (by decide)) dX5_simulate_61 ?_
        refine lv_if_le (tgt := 159) hx hb dX5_simulate_62 (by decide) (fun c7 => ?_) (fun c7 => ?_)
        · have hf := z_ifT hf c7
          exact hk _ _ hf H locs ls hP hD hS (lv_sub hl [0, 3] rfl)
        · have hf := z_ifF hf c7
          refine lv_lload hx hb dX5_simulate_65 (lv_at hl 2 rfl) ?_
          refine lv_ldc2 (v := (6364136223846793005 : Int64)) hx hb hown (hts _ qX5_simulate_181) dX5_simulate_67 ?_
          refine lv_lmul hx hb dX5_simulate_70 ?_
          refine lv_ldc2 (v := (1442695040888963407 : Int64)) hx hb hown (hts _ qX5_simulate_183) dX5_simulate_71 ?_
          refine lv_ladd hx hb dX5_simulate_74 ?_
          refine lv_lstore (lv' := [(4, .long ((x4 * (6364136223846793005 : Int64)) + (1442695040888963407 : Int64))), (0, .ref (a 0)), (3, .int x3), (6, .int x6), (7, .int x7)]) hx hb dX5_simulate_75 hl (by decide) rfl (fun ls hl => ?_)
          refine lv_lload hx hb dX5_simulate_77 (lv_at hl 0 rfl) ?_
          refine lv_bipush (v := (33 : Int32)) hx hb dX5_simulate_79 (by decide) ?_
          refine lv_lushr (v := ((((x4 * (6364136223846793005 : Int64)) + (1442695040888963407 : Int64))).toUInt64 >>> (((33 : Int32)).toInt64.toUInt64 &&& Int64.toUInt64 63)).toInt64) hx hb dX5_simulate_81 rfl ?_
          refine lv_l2i (v := (((((x4 * (6364136223846793005 : Int64)) + (1442695040888963407 : Int64))).toUInt64 >>> (((33 : Int32)).toInt64.toUInt64 &&& Int64.toUInt64 63)).toInt64).toInt32) hx hb dX5_simulate_82 rfl ?_
          refine lv_istore (lv' := [(8, .int (((((x4 * (6364136223846793005 : Int64)) + (1442695040888963407 : Int64))).toUInt64 >>> (((33 : Int32)).toInt64.toUInt64 &&& Int64.toUInt64 63)).toInt64).toInt32), (4, .long ((x4 * (6364136223846793005 : Int64)) + (1442695040888963407 : Int64))), (0, .ref (a 0)), (3, .int x3), (6, .int x6), (7, .int x7)]) hx hb dX5_simulate_83 hl (by decide) rfl (fun ls hl => ?_)
          refine lv_aload_n hx hb dX5_simulate_85 rfl (lv_at hl 2 rfl) ?_
          refine lv_iload hx hb dX5_simulate_86 (lv_at hl 0 rfl) ?_
          refine lv_bipush (v := (16 : Int32)) hx hb dX5_simulate_88 (by decide) ?_
          refine lv_idiv hx hb dX5_simulate_90 (by decide) ?_
          refine lv_aload_n hx hb dX5_simulate_91 rfl (lv_at hl 2 rfl) ?_
          refine va_get (D := D) (ci := 5) (v := .ref (a 1)) (C := RX5) (T := TX5) (N := 13) hx hb hts iX5_simulate_X5 hown hK.1 hP 0 rfl rfl 1 (by decide) (hts _ qX5_simulate_7) (fun _ h9 => h9) rfl dX5_simulate_92 ?_
          refine lv_iconst (v := (2 : Int32)) hx hb dX5_simulate_95 (by decide) ?_
          refine va_iald hx hb hK.1 hP 1 0 rfl rfl (z_inE (by decide)) dX5_simulate_96 ?_
          obtain ⟨b8, hf⟩ := z_ckE hf
          refine lv_irem hx hb dX5_simulate_97 (z_nzE b8) ?_
          refine lv_iconst (v := (4 : Int32)) hx hb dX5_simulate_98 (by decide) ?_
          refine lv_iload hx hb dX5_simulate_99 (lv_at hl 0 rfl) ?_
          refine lv_sipush (v := (1024 : Int32)) hx hb dX5_simulate_101 (by decide) ?_
          refine lv_idiv hx hb dX5_simulate_104 (by decide) ?_
          refine lv_bipush (v := (100 : Int32)) hx hb dX5_simulate_105 (by decide) ?_
          refine lv_irem hx hb dX5_simulate_107 (by decide) ?_
          obtain ⟨g9, h9, hf⟩ := z_bE hf
          refine z_cVv (As := [.int (((((((x4 * (6364136223846793005 : Int64)) + (1442695040888963407 : Int64))).toUInt64 >>> (((33 : Int32)).toInt64.toUInt64 &&& Int64.toUInt64 63)).toInt64).toInt32 / (16 : Int32)) - ((((((x4 * (6364136223846793005 : Int64)) + (1442695040888963407 : Int64))).toUInt64 >>> (((33 : Int32)).toInt64.toUInt64 &&& Int64.toUInt64 63)).toInt64).toInt32 / (16 : Int32)) / (g 1 ((2 : Int32)).toNatClampNeg) * (g 1 ((2 : Int32)).toNatClampNeg)), .int (4 : Int32), .int (((((((x4 * (6364136223846793005 : Int64)) + (1442695040888963407 : Int64))).toUInt64 >>> (((33 : Int32)).toInt64.toUInt64 &&& Int64.toUInt64 63)).toInt64).toInt32 / (1024 : Int32)) - ((((((x4 * (6364136223846793005 : Int64)) + (1442695040888963407 : Int64))).toUInt64 >>> (((33 : Int32)).toInt64.toUInt64 &&& Int64.toUInt64 63)).toInt64).toInt32 / (1024 : Int32)) / (100 : Int32) * (100 : Int32))]) (rest := []) (wf := (z_md c a)) (g := g) (u0 := g9) ⟨hx, hb, hml, hown, hts⟩ (kX5_setPart l D c N a H.size g (((((((x4 * (6364136223846793005 : Int64)) + (1442695040888963407 : Int64))).toUInt64 >>> (((33 : Int32)).toInt64.toUInt64 &&& Int64.toUInt64 63)).toInt64).toInt32 / (16 : Int32)) - ((((((x4 * (6364136223846793005 : Int64)) + (1442695040888963407 : Int64))).toUInt64 >>> (((33 : Int32)).toInt64.toUInt64 &&& Int64.toUInt64 63)).toInt64).toInt32 / (16 : Int32)) / (g 1 ((2 : Int32)).toNatClampNeg) * (g 1 ((2 : Int32)).toNatClampNeg)) (4 : Int32) (((((((x4 * (6364136223846793005 : Int64)) + (1442695040888963407 : Int64))).toUInt64 >>> (((33 : Int32)).toInt64.toUInt64 &&& Int64.toUInt64 63)).toInt64).toInt32 / (1024 : Int32)) - ((((((x4 * (6364136223846793005 : Int64)) + (1442695040888963407 : Int64))).toUInt64 >>> (((33 : Int32)).toInt64.toUInt64 &&& Int64.toUInt64 63)).toInt64).toInt32 / (1024 : Int32)) / (100 : Int32) * (100 : Int32)) g9 h9) (cwV 3 hts gX5_simulate_X5_setPart rfl rfl rfl (by decide +kernel) ⟨Nat.le_of_ble_eq_true rfl, Nat.le_of_ble_eq_true rfl⟩) hP hK hD hS hA (ci := 5) (q0 := 0) rfl rfl rfl rfl hl.1 (Nat.le_of_ble_eq_true rfl) rfl dX5_simulate_108 ⟨Nat.zero_le _, Nat.zero_le _⟩ (fun H locs hP hD hS => ?_)
          refine lv_iload hx hb dX5_simulate_111 (lv_at hl 0 rfl) ?_
          refine lv_iconst (v := (4 : Int32)) hx hb dX5_simulate_113 (by decide) ?_
          refine lv_irem hx hb dX5_simulate_114 (by decide) ?_
          refine lv_if_ne (tgt := 123) hx hb dX5_simulate_115 (by decide) (fun c10 => ?_) (fun c10 => ?_)
          · have hf := z_ifF hf c10
            refine lv_iload hx hb dX5_simulate_123 (lv_at hl 4 rfl) ?_
            refine lv_aload_n hx hb dX5_simulate_125 rfl (lv_at hl 2 rfl) ?_
            refine lv_iload hx hb dX5_simulate_126 (lv_at hl 0 rfl) ?_
            refine lv_sipush (v := (256 : Int32)) hx hb dX5_simulate_128 (by decide) ?_
            refine lv_idiv hx hb dX5_simulate_131 (by decide) ?_
            refine lv_aload_n hx hb dX5_simulate_132 rfl (lv_at hl 2 rfl) ?_
            refine va_get (D := D) (ci := 5) (v := .ref (a 1)) (C := RX5) (T := TX5) (N := 13) hx hb hts iX5_simulate_X5 hown hK.1 hP 0 rfl rfl 1 (by decide) (hts _ qX5_simulate_7) (fun _ h9 => h9) rfl dX5_simulate_133 ?_
            refine lv_iconst (v := (2 : Int32)) hx hb dX5_simulate_136 (by decide) ?_
            refine va_iald hx hb hK.1 hP 1 0 rfl rfl (z_inE (by decide)) dX5_simulate_137 ?_
            obtain ⟨b11, hf⟩ := z_ckE hf
            refine lv_irem hx hb dX5_simulate_138 (z_nzE b11) ?_
            obtain ⟨r12, g12, h12, hf⟩ := z_b2E hf
            refine z_cVi (As := [.int (((((((x4 * (6364136223846793005 : Int64)) + (1442695040888963407 : Int64))).toUInt64 >>> (((33 : Int32)).toInt64.toUInt64 &&& Int64.toUInt64 63)).toInt64).toInt32 / (256 : Int32)) - ((((((x4 * (6364136223846793005 : Int64)) + (1442695040888963407 : Int64))).toUInt64 >>> (((33 : Int32)).toInt64.toUInt64 &&& Int64.toUInt64 63)).toInt64).toInt32 / (256 : Int32)) / (g9 1 ((2 : Int32)).toNatClampNeg) * (g9 1 ((2 : Int32)).toNatClampNeg))]) (rest := [.int x6]) (wf := (z_md c a)) (g := g9) (u0 := g12) ⟨hx, hb, hml, hown, hts⟩ (kX5_runs l D c N a H.size g9 (((((((x4 * (6364136223846793005 : Int64)) + (1442695040888963407 : Int64))).toUInt64 >>> (((33 : Int32)).toInt64.toUInt64 &&& Int64.toUInt64 63)).toInt64).toInt32 / (256 : Int32)) - ((((((x4 * (6364136223846793005 : Int64)) + (1442695040888963407 : Int64))).toUInt64 >>> (((33 : Int32)).toInt64.toUInt64 &&& Int64.toUInt64 63)).toInt64).toInt32 / (256 : Int32)) / (g9 1 ((2 : Int32)).toNatClampNeg) * (g9 1 ((2 : Int32)).toNatClampNeg)) r12 g12 h12) (cwV 1 hts gX5_simulate_X5_runs rfl rfl rfl (by decide +kernel) ⟨Nat.le_of_ble_eq_true rfl, Nat.le_of_ble_eq_true rfl⟩) hP hK hD hS hA (ci := 5) (q0 := 0) rfl rfl rfl rfl hl.1 (Nat.le_of_ble_eq_true rfl) rfl dX5_simulate_139 ⟨Nat.zero_le _, Nat.zero_le _⟩ (fun H locs hP hD hS => ?_)
            refine lv_if_ne (tgt := 149) hx hb dX5_simulate_142 (by decide) (fun c13 => ?_) (fun c13 => ?_)
            · have hf := z_ifF hf c13
              refine lv_iconst (v := (0 : Int32)) hx hb dX5_simulate_149 (by decide) ?_
              refine lv_iadd hx hb dX5_simulate_150 ?_
              refine lv_istore (lv' := [(6, .int (x6 + (0 : Int32))), (8, .int (((((x4 * (6364136223846793005 : Int64)) + (1442695040888963407 : Int64))).toUInt64 >>> (((33 : Int32)).toInt64.toUInt64 &&& Int64.toUInt64 63)).toInt64).toInt32), (4, .long ((x4 * (6364136223846793005 : Int64)) + (1442695040888963407 : Int64))), (0, .ref (a 0)), (3, .int x3), (7, .int x7)]) hx hb dX5_simulate_151 hl (by decide) rfl (fun ls hl => ?_)
              refine lv_iinc (v := (x7 + (1 : Int32))) (lv' := [(7, .int (x7 + (1 : Int32))), (6, .int (x6 + (0 : Int32))), (8, .int (((((x4 * (6364136223846793005 : Int64)) + (1442695040888963407 : Int64))).toUInt64 >>> (((33 : Int32)).toInt64.toUInt64 &&& Int64.toUInt64 63)).toInt64).toInt32), (4, .long ((x4 * (6364136223846793005 : Int64)) + (1442695040888963407 : Int64))), (0, .ref (a 0)), (3, .int x3)]) hx hb dX5_simulate_153 hl (k := 5) rfl rfl (by decide) rfl (fun ls hl => ?_)
              refine lv_goto (tgt := 50) hx hb dX5_simulate_156 (by decide) ?_
              exact ih _ _ _ _ hf H locs ls hP hD hS (lv_sub hl [4, 5, 3, 1, 0] rfl)
            · have hf := z_ifT hf c13
              refine lv_iconst (v := (1 : Int32)) hx hb dX5_simulate_145 (by decide) ?_
              refine lv_goto (tgt := 150) hx hb dX5_simulate_146 (by decide) ?_
              refine lv_iadd hx hb dX5_simulate_150 ?_
              refine lv_istore (lv' := [(6, .int (x6 + (1 : Int32))), (8, .int (((((x4 * (6364136223846793005 : Int64)) + (1442695040888963407 : Int64))).toUInt64 >>> (((33 : Int32)).toInt64.toUInt64 &&& Int64.toUInt64 63)).toInt64).toInt32), (4, .long ((x4 * (6364136223846793005 : Int64)) + (1442695040888963407 : Int64))), (0, .ref (a 0)), (3, .int x3), (7, .int x7)]) hx hb dX5_simulate_151 hl (by decide) rfl (fun ls hl => ?_)
              refine lv_iinc (v := (x7 + (1 : Int32))) (lv' := [(7, .int (x7 + (1 : Int32))), (6, .int (x6 + (1 : Int32))), (8, .int (((((x4 * (6364136223846793005 : Int64)) + (1442695040888963407 : Int64))).toUInt64 >>> (((33 : Int32)).toInt64.toUInt64 &&& Int64.toUInt64 63)).toInt64).toInt32), (4, .long ((x4 * (6364136223846793005 : Int64)) + (1442695040888963407 : Int64))), (0, .ref (a 0)), (3, .int x3)]) hx hb dX5_simulate_153 hl (k := 5) rfl rfl (by decide) rfl (fun ls hl => ?_)
              refine lv_goto (tgt := 50) hx hb dX5_simulate_156 (by decide) ?_
              exact ih _ _ _ _ hf H locs ls hP hD hS (lv_sub hl [4, 5, 3, 1, 0] rfl)
          · have hf := z_ifT hf c10
            refine lv_aload_n hx hb dX5_simulate_118 rfl (lv_at hl 2 rfl) ?_
            obtain ⟨r14, g14, h14, hf⟩ := z_b2E hf
            refine z_cVi (As := []) (rest := []) (wf := (z_md c a)) (g := g9) (u0 := g14) ⟨hx, hb, hml, hown, hts⟩ (kX5_laid l D c N a H.size g9  r14 g14 h14) (cwV 0 hts gX5_simulate_X5_laid rfl rfl rfl (by decide +kernel) ⟨Nat.le_of_ble_eq_true rfl, Nat.le_of_ble_eq_true rfl⟩) hP hK hD hS hA (ci := 5) (q0 := 0) rfl rfl rfl rfl hl.1 (Nat.le_of_ble_eq_true rfl) rfl dX5_simulate_119 ⟨Nat.zero_le _, Nat.zero_le _⟩ (fun H locs hP hD hS => ?_)
            refine lv_pop hx hb dX5_simulate_122 rfl ?_
            refine lv_iload hx hb dX5_simulate_123 (lv_at hl 4 rfl) ?_
            refine lv_aload_n hx hb dX5_simulate_125 rfl (lv_at hl 2 rfl) ?_
            refine lv_iload hx hb dX5_simulate_126 (lv_at hl 0 rfl) ?_
            refine lv_sipush (v := (256 : Int32)) hx hb dX5_simulate_128 (by decide) ?_
            refine lv_idiv hx hb dX5_simulate_131 (by decide) ?_
            refine lv_aload_n hx hb dX5_simulate_132 rfl (lv_at hl 2 rfl) ?_
            refine va_get (D := D) (ci := 5) (v := .ref (a 1)) (C := RX5) (T := TX5) (N := 13) hx hb hts iX5_simulate_X5 hown hK.1 hP 0 rfl rfl 1 (by decide) (hts _ qX5_simulate_7) (fun _ h9 => h9) rfl dX5_simulate_133 ?_
            refine lv_iconst (v := (2 : Int32)) hx hb dX5_simulate_136 (by decide) ?_
            refine va_iald hx hb hK.1 hP 1 0 rfl rfl (z_inE (by decide)) dX5_simulate_137 ?_
            obtain ⟨b15, hf⟩ := z_ckE hf
            refine lv_irem hx hb dX5_simulate_138 (z_nzE b15) ?_
            obtain ⟨r16, g16, h16, hf⟩ := z_b2E hf
            refine z_cVi (As := [.int (((((((x4 * (6364136223846793005 : Int64)) + (1442695040888963407 : Int64))).toUInt64 >>> (((33 : Int32)).toInt64.toUInt64 &&& Int64.toUInt64 63)).toInt64).toInt32 / (256 : Int32)) - ((((((x4 * (6364136223846793005 : Int64)) + (1442695040888963407 : Int64))).toUInt64 >>> (((33 : Int32)).toInt64.toUInt64 &&& Int64.toUInt64 63)).toInt64).toInt32 / (256 : Int32)) / (g14 1 ((2 : Int32)).toNatClampNeg) * (g14 1 ((2 : Int32)).toNatClampNeg))]) (rest := [.int x6]) (wf := (z_md c a)) (g := g14) (u0 := g16) ⟨hx, hb, hml, hown, hts⟩ (kX5_runs l D c N a H.size g14 (((((((x4 * (6364136223846793005 : Int64)) + (1442695040888963407 : Int64))).toUInt64 >>> (((33 : Int32)).toInt64.toUInt64 &&& Int64.toUInt64 63)).toInt64).toInt32 / (256 : Int32)) - ((((((x4 * (6364136223846793005 : Int64)) + (1442695040888963407 : Int64))).toUInt64 >>> (((33 : Int32)).toInt64.toUInt64 &&& Int64.toUInt64 63)).toInt64).toInt32 / (256 : Int32)) / (g14 1 ((2 : Int32)).toNatClampNeg) * (g14 1 ((2 : Int32)).toNatClampNeg)) r16 g16 h16) (cwV 1 hts gX5_simulate_X5_runs rfl rfl rfl (by decide +kernel) ⟨Nat.le_of_ble_eq_true rfl, Nat.le_of_ble_eq_true rfl⟩) hP hK hD hS hA (ci := 5) (q0 := 0) rfl rfl rfl rfl hl.1 (Nat.le_of_ble_eq_true rfl) rfl dX5_simulate_139 ⟨Nat.zero_le _, Nat.zero_le _⟩ (fun H locs hP hD hS => ?_)
            refine lv_if_ne (tgt := 149) hx hb dX5_simulate_142 (by decide) (fun c17 => ?_) (fun c17 => ?_)
            · have hf := z_ifF hf c17
              refine lv_iconst (v := (0 : Int32)) hx hb dX5_simulate_149 (by decide) ?_
              refine lv_iadd hx hb dX5_simulate_150 ?_
              refine lv_istore (lv' := [(6, .int (x6 + (0 : Int32))), (8, .int (((((x4 * (6364136223846793005 : Int64)) + (1442695040888963407 : Int64))).toUInt64 >>> (((33 : Int32)).toInt64.toUInt64 &&& Int64.toUInt64 63)).toInt64).toInt32), (4, .long ((x4 * (6364136223846793005 : Int64)) + (1442695040888963407 : Int64))), (0, .ref (a 0)), (3, .int x3), (7, .int x7)]) hx hb dX5_simulate_151 hl (by decide) rfl (fun ls hl => ?_)
              refine lv_iinc (v := (x7 + (1 : Int32))) (lv' := [(7, .int (x7 + (1 : Int32))), (6, .int (x6 + (0 : Int32))), (8, .int (((((x4 * (6364136223846793005 : Int64)) + (1442695040888963407 : Int64))).toUInt64 >>> (((33 : Int32)).toInt64.toUInt64 &&& Int64.toUInt64 63)).toInt64).toInt32), (4, .long ((x4 * (6364136223846793005 : Int64)) + (1442695040888963407 : Int64))), (0, .ref (a 0)), (3, .int x3)]) hx hb dX5_simulate_153 hl (k := 5) rfl rfl (by decide) rfl (fun ls hl => ?_)
              refine lv_goto (tgt := 50) hx hb dX5_simulate_156 (by decide) ?_
              exact ih _ _ _ _ hf H locs ls hP hD hS (lv_sub hl [4, 5, 3, 1, 0] rfl)
            · have hf := z_ifT hf c17
              refine lv_iconst (v := (1 : Int32)) hx hb dX5_simulate_145 (by decide) ?_
              refine lv_goto (tgt := 150) hx hb dX5_simulate_146 (by decide) ?_
              refine lv_iadd hx hb dX5_simulate_150 ?_
              refine lv_istore (lv' := [(6, .int (x6 + (1 : Int32))), (8, .int (((((x4 * (6364136223846793005 : Int64)) + (1442695040888963407 : Int64))).toUInt64 >>> (((33 : Int32)).toInt64.toUInt64 &&& Int64.toUInt64 63)).toInt64).toInt32), (4, .long ((x4 * (6364136223846793005 : Int64)) + (1442695040888963407 : Int64))), (0, .ref (a 0)), (3, .int x3), (7, .int x7)]) hx hb dX5_simulate_151 hl (by decide) rfl (fun ls hl => ?_)
              refine lv_iinc (v := (x7 + (1 : Int32))) (lv' := [(7, .int (x7 + (1 : Int32))), (6, .int (x6 + (1 : Int32))), (8, .int (((((x4 * (6364136223846793005 : Int64)) + (1442695040888963407 : Int64))).toUInt64 >>> (((33 : Int32)).toInt64.toUInt64 &&& Int64.toUInt64 63)).toInt64).toInt32), (4, .long ((x4 * (6364136223846793005 : Int64)) + (1442695040888963407 : Int64))), (0, .ref (a 0)), (3, .int x3)]) hx hb dX5_simulate_153 hl (k := 5) rfl rfl (by decide) rfl (fun ls hl => ?_)
              refine lv_goto (tgt := 50) hx hb dX5_simulate_156 (by decide) ?_
              exact ih _ _ _ _ hf H locs ls hP hD hS (lv_sub hl [4, 5, 3, 1, 0] rfl)
  unfold fX5_simulate at hf
  generalize ([] : List Loc) = locs at hS ⊢
  refine lv_aload_n hx hb dX5_simulate_0 rfl (lv_at hl 0 rfl) ?_
  refine lv_iload_n hx hb dX5_simulate_1 rfl (lv_at hl 2 rfl) ?_
  refine lv_iconst (v := (1 : Int32)) hx hb dX5_simulate_2 (by decide) ?_
  refine lv_bipush (v := (50 : Int32)) hx hb dX5_simulate_3 (by decide) ?_
  obtain ⟨r1, h1, hf⟩ := z_bE hf
  refine z_cSi (As := [.int p3, .int (1 : Int32), .int (50 : Int32)]) (rest := [.ref (a 0)]) ⟨hx, hb, hml, hown, hts⟩ (kX5_within l D c N H.size p3 (1 : Int32) (50 : Int32) r1 h1) (va_cwS 3 hts gX5_simulate_X5_within rfl rfl rfl (by decide +kernel) ⟨Nat.le_of_ble_eq_true rfl, Nat.le_of_ble_eq_true rfl⟩) hP hK hS hA rfl hl.1 (Nat.le_of_ble_eq_true rfl) rfl dX5_simulate_5 ⟨Nat.zero_le _, Nat.zero_le _⟩ (fun H locs hP hS => ?_)
  refine lv_if_eq (tgt := 15) hx hb dX5_simulate_8 (by decide) (fun c2 => ?_) (fun c2 => ?_)
  · have hf := z_ifT hf c2
    refine lv_iconst (v := (1 : Int32)) hx hb dX5_simulate_15 (by decide) ?_
    refine va_put (D := D) (ci := 5) (v := .int (1 : Int32)) (ty := .int) (C := RX5) (T := TX5) (N := 13) hx hb hts iX5_simulate_X5 tyX5 tyX5_ok nmX5 hown hK.1 hP hD hS 0 rfl rfl 0 (by decide) (hts _ qX5_simulate_37) (fun _ h9 => h9) rfl (by decide +kernel) rfl rfl (Nat.le_of_ble_eq_true rfl) dX5_simulate_16 (fun H locs hP hD hS => ?_)
    obtain ⟨g3, e3, hf⟩ := z_ltE hf
    have hP : va_P D vwCl (z_md c a g3) H := by rw [e3]; exact hP
    have hD : va_D A (z_md c a g3) := by rw [e3]; exact hD
    clear e3
    refine lv_aload_n hx hb dX5_simulate_19 rfl (lv_at hl 0 rfl) ?_
    refine va_get (D := D) (ci := 5) (v := .int (g3 0 0)) (C := RX5) (T := TX5) (N := 13) hx hb hts iX5_simulate_X5 hown hK.1 hP 0 rfl rfl 0 (by decide) (hts _ qX5_simulate_37) (fun _ h9 => h9) rfl dX5_simulate_20 ?_
    refine lv_if_le (tgt := 28) hx hb dX5_simulate_23 (by decide) (fun c4 => ?_) (fun c4 => ?_)
    · have hf := z_ifT hf c4
      refine lv_aload_n hx hb dX5_simulate_28 rfl (lv_at hl 0 rfl) ?_
      refine va_get (D := D) (ci := 5) (v := .ref (a 1)) (C := RX5) (T := TX5) (N := 13) hx hb hts iX5_simulate_X5 hown hK.1 hP 0 rfl rfl 1 (by decide) (hts _ qX5_simulate_7) (fun _ h9 => h9) rfl dX5_simulate_29 ?_
      refine lv_iconst (v := (0 : Int32)) hx hb dX5_simulate_32 (by decide) ?_
      refine lv_aload_n hx hb dX5_simulate_33 rfl (lv_at hl 0 rfl) ?_
      refine va_get (D := D) (ci := 5) (v := .ref (a 3)) (C := RX5) (T := TX5) (N := 13) hx hb hts iX5_simulate_X5 hown hK.1 hP 0 rfl rfl 3 (by decide) (hts _ qX5_simulate_16) (fun _ h9 => h9) rfl dX5_simulate_34 ?_
      refine lv_iconst (v := (0 : Int32)) hx hb dX5_simulate_37 (by decide) ?_
      obtain ⟨u5, h5, hf⟩ := z_bE hf
      obtain ⟨g5, e5, hf⟩ := z_ltE hf
      refine z_cSvC (As := [.ref (a 1), .int (0 : Int32), .ref (a 3), .int (0 : Int32)]) (rest := []) (V := (z_md c a g3)) (V' := (z_md c a g5)) (wf := (fun u : Nat → Int32 => z_cp c (a 1) (a 3) 925 925 (g3 1) u)) (g := g3 3) (u0 := u5) ⟨hx, hb, hml, hown, hts⟩ (kX5_copy l D c N (a 1) (a 3) 925 925 H.size  (g3 1) (g3 3) (0 : Int32) (0 : Int32) u5 h5) (va_cwS 4 hts gX5_simulate_X5_copy rfl rfl rfl (by decide +kernel) ⟨Nat.le_of_ble_eq_true rfl, Nat.le_of_ble_eq_true rfl⟩) hP hK hD hS hA [1, 3] [0, 2, 4, 5, 6, 7, 8, 9] [0, 8, 1, 9, 2, 3, 4, 5, 6, 7] rfl rfl (by decide) (by decide) (by decide) (by decide) rfl hl.1 (Nat.le_of_ble_eq_true rfl) rfl dX5_simulate_38 ⟨Nat.zero_le _, Nat.zero_le _⟩ (by rw [e5]; rfl) (fun H locs hP hD hS => ?_)
      refine lv_lload_n hx hb dX5_simulate_41 rfl (lv_at hl 1 rfl) ?_
      refine lv_lstore (lv' := [(4, .long p1), (0, .ref (a 0)), (1, .long p1), (3, .int p3)]) hx hb dX5_simulate_42 hl (by decide) rfl (fun ls hl => ?_)
      refine lv_iconst (v := (0 : Int32)) hx hb dX5_simulate_44 (by decide) ?_
      refine lv_istore (lv' := [(6, .int (0 : Int32)), (4, .long p1), (0, .ref (a 0)), (1, .long p1), (3, .int p3)]) hx hb dX5_simulate_45 hl (by decide) rfl (fun ls hl => ?_)
      refine lv_iconst (v := (0 : Int32)) hx hb dX5_simulate_47 (by decide) ?_
      refine lv_istore (lv' := [(7, .int (0 : Int32)), (6, .int (0 : Int32)), (4, .long p1), (0, .ref (a 0)), (1, .long p1), (3, .int p3)]) hx hb dX5_simulate_48 hl (by decide) rfl (fun ls hl => ?_)
      refine L50 _ _ (fun x6_50 g50_18 hf H locs ls hP hD hS hl => ?_) N _ _ _ _ hf H locs ls hP hD hS (lv_sub hl [3, 5, 2, 1, 0] rfl)
      refine lv_aload_n hx hb dX5_simulate_159 rfl (lv_at hl 0 rfl) ?_
      obtain ⟨r19, h19, hf⟩ := z_bE hf
      refine z_cVi (As := []) (rest := []) (wf := (z_md c a)) (g := g50_18) (u0 := g50_18) ⟨hx, hb, hml, hown, hts⟩ (kX5_refundedAll l D c N a H.size g50_18  r19 h19) (cwV 0 hts gX5_simulate_X5_refundedAll rfl rfl rfl (by decide +kernel) ⟨Nat.le_of_ble_eq_true rfl, Nat.le_of_ble_eq_true rfl⟩) hP hK hD hS hA (ci := 5) (q0 := 0) rfl rfl rfl rfl hl.1 (Nat.le_of_ble_eq_true rfl) rfl dX5_simulate_160 ⟨Nat.zero_le _, Nat.zero_le _⟩ (fun H locs hP hD hS => ?_)
      refine lv_istore (lv' := [(7, .int r19), (0, .ref (a 0)), (6, .int x6_50)]) hx hb dX5_simulate_163 hl (by decide) rfl (fun ls hl => ?_)
      refine lv_aload_n hx hb dX5_simulate_165 rfl (lv_at hl 1 rfl) ?_
      refine va_get (D := D) (ci := 5) (v := .ref (a 3)) (C := RX5) (T := TX5) (N := 13) hx hb hts iX5_simulate_X5 hown hK.1 hP 0 rfl rfl 3 (by decide) (hts _ qX5_simulate_16) (fun _ h9 => h9) rfl dX5_simulate_166 ?_
      refine lv_iconst (v := (0 : Int32)) hx hb dX5_simulate_169 (by decide) ?_
      refine lv_aload_n hx hb dX5_simulate_170 rfl (lv_at hl 1 rfl) ?_
      refine va_get (D := D) (ci := 5) (v := .ref (a 1)) (C := RX5) (T := TX5) (N := 13) hx hb hts iX5_simulate_X5 hown hK.1 hP 0 rfl rfl 1 (by decide) (hts _ qX5_simulate_7) (fun _ h9 => h9) rfl dX5_simulate_171 ?_
      refine lv_iconst (v := (0 : Int32)) hx hb dX5_simulate_174 (by decide) ?_
      obtain ⟨u20, h20, hf⟩ := z_bE hf
      obtain ⟨g20, e20, hf⟩ := z_ltE hf
      refine z_cSvC (As := [.ref (a 3), .int (0 : Int32), .ref (a 1), .int (0 : Int32)]) (rest := []) (V := (z_md c a g50_18)) (V' := (z_md c a g20)) (wf := (fun u : Nat → Int32 => z_cp c (a 3) (a 1) 925 925 (g50_18 3) u)) (g := g50_18 1) (u0 := u20) ⟨hx, hb, hml, hown, hts⟩ (kX5_copy l D c N (a 3) (a 1) 925 925 H.size  (g50_18 3) (g50_18 1) (0 : Int32) (0 : Int32) u20 h20) (va_cwS 4 hts gX5_simulate_X5_copy rfl rfl rfl (by decide +kernel) ⟨Nat.le_of_ble_eq_true rfl, Nat.le_of_ble_eq_true rfl⟩) hP hK hD hS hA [3, 1] [0, 2, 4, 5, 6, 7, 8, 9] [0, 9, 1, 8, 2, 3, 4, 5, 6, 7] rfl rfl (by decide) (by decide) (by decide) (by decide) rfl hl.1 (Nat.le_of_ble_eq_true rfl) rfl dX5_simulate_175 ⟨Nat.zero_le _, Nat.zero_le _⟩ (by rw [e20]; rfl) (fun H locs hP hD hS => ?_)
      refine lv_iload hx hb dX5_simulate_178 (lv_at hl 0 rfl) ?_
      refine lv_aload_n hx hb dX5_simulate_180 rfl (lv_at hl 1 rfl) ?_
      obtain ⟨r21, h21, hf⟩ := z_bE hf
      refine z_cVi (As := []) (rest := [.int r19]) (wf := (z_md c a)) (g := g20) (u0 := g20) ⟨hx, hb, hml, hown, hts⟩ (kX5_refundedAll l D c N a H.size g20  r21 h21) (cwV 0 hts gX5_simulate_X5_refundedAll rfl rfl rfl (by decide +kernel) ⟨Nat.le_of_ble_eq_true rfl, Nat.le_of_ble_eq_true rfl⟩) hP hK hD hS hA (ci := 5) (q0 := 0) rfl rfl rfl rfl hl.1 (Nat.le_of_ble_eq_true rfl) rfl dX5_simulate_181 ⟨Nat.zero_le _, Nat.zero_le _⟩ (fun H locs hP hD hS => ?_)
      refine lv_isub hx hb dX5_simulate_184 ?_
      refine lv_istore (lv' := [(7, .int (r19 - r21)), (0, .ref (a 0)), (6, .int x6_50)]) hx hb dX5_simulate_185 hl (by decide) rfl (fun ls hl => ?_)
      refine lv_sipush (v := (1000 : Int32)) hx hb dX5_simulate_187 (by decide) ?_
      refine lv_iload hx hb dX5_simulate_190 (lv_at hl 2 rfl) ?_
      refine lv_imul hx hb dX5_simulate_192 ?_
      refine lv_iload hx hb dX5_simulate_193 (lv_at hl 0 rfl) ?_
      refine lv_sipush (v := (999 : Int32)) hx hb dX5_simulate_195 (by decide) ?_
      refine lv_icmp_ge (tgt := 206) hx hb dX5_simulate_198 (by decide) (fun c22 => ?_) (fun c22 => ?_)
      · have hf := z_ifT hf c22
        refine lv_sipush (v := (999 : Int32)) hx hb dX5_simulate_206 (by decide) ?_
        refine lv_iadd hx hb dX5_simulate_209 ?_
        exact z_ri (wf := (z_md c a)) hx hb hr hlocks hP hD hS hf dX5_simulate_210
      · have hf := z_ifF hf c22
        refine lv_iload hx hb dX5_simulate_201 (lv_at hl 0 rfl) ?_
        refine lv_goto (tgt := 209) hx hb dX5_simulate_203 (by decide) ?_
        refine lv_iadd hx hb dX5_simulate_209 ?_
        exact z_ri (wf := (z_md c a)) hx hb hr hlocks hP hD hS hf dX5_simulate_210
    · have hf := z_ifF hf c4
      refine lv_iconst (v := (0 : Int32)) hx hb dX5_simulate_26 (by decide) ?_
      exact z_ri (wf := (z_md c a)) hx hb hr hlocks hP hD hS hf dX5_simulate_27
  · have hf := z_ifF hf c2
    refine lv_iconst (v := (0 : Int32)) hx hb dX5_simulate_11 (by decide) ?_
    refine lv_goto (tgt := 16) hx hb dX5_simulate_12 (by decide) ?_
    refine va_put (D := D) (ci := 5) (v := .int (0 : Int32)) (ty := .int) (C := RX5) (T := TX5) (N := 13) hx hb hts iX5_simulate_X5 tyX5 tyX5_ok nmX5 hown hK.1 hP hD hS 0 rfl rfl 0 (by decide) (hts _ qX5_simulate_37) (fun _ h9 => h9) rfl (by decide +kernel) rfl rfl (Nat.le_of_ble_eq_true rfl) dX5_simulate_16 (fun H locs hP hD hS => ?_)
    obtain ⟨g23, e23, hf⟩ := z_ltE hf
    have hP : va_P D vwCl (z_md c a g23) H := by rw [e23]; exact hP
    have hD : va_D A (z_md c a g23) := by rw [e23]; exact hD
    clear e23
    refine lv_aload_n hx hb dX5_simulate_19 rfl (lv_at hl 0 rfl) ?_
    refine va_get (D := D) (ci := 5) (v := .int (g23 0 0)) (C := RX5) (T := TX5) (N := 13) hx hb hts iX5_simulate_X5 hown hK.1 hP 0 rfl rfl 0 (by decide) (hts _ qX5_simulate_37) (fun _ h9 => h9) rfl dX5_simulate_20 ?_
    refine lv_if_le (tgt := 28) hx hb dX5_simulate_23 (by decide) (fun c24 => ?_) (fun c24 => ?_)
    · have hf := z_ifT hf c24
      refine lv_aload_n hx hb dX5_simulate_28 rfl (lv_at hl 0 rfl) ?_
      refine va_get (D := D) (ci := 5) (v := .ref (a 1)) (C := RX5) (T := TX5) (N := 13) hx hb hts iX5_simulate_X5 hown hK.1 hP 0 rfl rfl 1 (by decide) (hts _ qX5_simulate_7) (fun _ h9 => h9) rfl dX5_simulate_29 ?_
      refine lv_iconst (v := (0 : Int32)) hx hb dX5_simulate_32 (by decide) ?_
      refine lv_aload_n hx hb dX5_simulate_33 rfl (lv_at hl 0 rfl) ?_
      refine va_get (D := D) (ci := 5) (v := .ref (a 3)) (C := RX5) (T := TX5) (N := 13) hx hb hts iX5_simulate_X5 hown hK.1 hP 0 rfl rfl 3 (by decide) (hts _ qX5_simulate_16) (fun _ h9 => h9) rfl dX5_simulate_34 ?_
      refine lv_iconst (v := (0 : Int32)) hx hb dX5_simulate_37 (by decide) ?_
      obtain ⟨u25, h25, hf⟩ := z_bE hf
      obtain ⟨g25, e25, hf⟩ := z_ltE hf
      refine z_cSvC (As := [.ref (a 1), .int (0 : Int32), .ref (a 3), .int (0 : Int32)]) (rest := []) (V := (z_md c a g23)) (V' := (z_md c a g25)) (wf := (fun u : Nat → Int32 => z_cp c (a 1) (a 3) 925 925 (g23 1) u)) (g := g23 3) (u0 := u25) ⟨hx, hb, hml, hown, hts⟩ (kX5_copy l D c N (a 1) (a 3) 925 925 H.size  (g23 1) (g23 3) (0 : Int32) (0 : Int32) u25 h25) (va_cwS 4 hts gX5_simulate_X5_copy rfl rfl rfl (by decide +kernel) ⟨Nat.le_of_ble_eq_true rfl, Nat.le_of_ble_eq_true rfl⟩) hP hK hD hS hA [1, 3] [0, 2, 4, 5, 6, 7, 8, 9] [0, 8, 1, 9, 2, 3, 4, 5, 6, 7] rfl rfl (by decide) (by decide) (by decide) (by decide) rfl hl.1 (Nat.le_of_ble_eq_true rfl) rfl dX5_simulate_38 ⟨Nat.zero_le _, Nat.zero_le _⟩ (by rw [e25]; rfl) (fun H locs hP hD hS => ?_)
      refine lv_lload_n hx hb dX5_simulate_41 rfl (lv_at hl 1 rfl) ?_
      refine lv_lstore (lv' := [(4, .long p1), (0, .ref (a 0)), (1, .long p1), (3, .int p3)]) hx hb dX5_simulate_42 hl (by decide) rfl (fun ls hl => ?_)
      refine lv_iconst (v := (0 : Int32)) hx hb dX5_simulate_44 (by decide) ?_
      refine lv_istore (lv' := [(6, .int (0 : Int32)), (4, .long p1), (0, .ref (a 0)), (1, .long p1), (3, .int p3)]) hx hb dX5_simulate_45 hl (by decide) rfl (fun ls hl => ?_)
      refine lv_iconst (v := (0 : Int32)) hx hb dX5_simulate_47 (by decide) ?_
      refine lv_istore (lv' := [(7, .int (0 : Int32)), (6, .int (0 : Int32)), (4, .long p1), (0, .ref (a 0)), (1, .long p1), (3, .int p3)]) hx hb dX5_simulate_48 hl (by decide) rfl (fun ls hl => ?_)
      refine L50 _ _ (fun x6_50 g50_26 hf H locs ls hP hD hS hl => ?_) N _ _ _ _ hf H locs ls hP hD hS (lv_sub hl [3, 5, 2, 1, 0] rfl)
      refine lv_aload_n hx hb dX5_simulate_159 rfl (lv_at hl 0 rfl) ?_
      obtain ⟨r27, h27, hf⟩ := z_bE hf
      refine z_cVi (As := []) (rest := []) (wf := (z_md c a)) (g := g50_26) (u0 := g50_26) ⟨hx, hb, hml, hown, hts⟩ (kX5_refundedAll l D c N a H.size g50_26  r27 h27) (cwV 0 hts gX5_simulate_X5_refundedAll rfl rfl rfl (by decide +kernel) ⟨Nat.le_of_ble_eq_true rfl, Nat.le_of_ble_eq_true rfl⟩) hP hK hD hS hA (ci := 5) (q0 := 0) rfl rfl rfl rfl hl.1 (Nat.le_of_ble_eq_true rfl) rfl dX5_simulate_160 ⟨Nat.zero_le _, Nat.zero_le _⟩ (fun H locs hP hD hS => ?_)
      refine lv_istore (lv' := [(7, .int r27), (0, .ref (a 0)), (6, .int x6_50)]) hx hb dX5_simulate_163 hl (by decide) rfl (fun ls hl => ?_)
      refine lv_aload_n hx hb dX5_simulate_165 rfl (lv_at hl 1 rfl) ?_
      refine va_get (D := D) (ci := 5) (v := .ref (a 3)) (C := RX5) (T := TX5) (N := 13) hx hb hts iX5_simulate_X5 hown hK.1 hP 0 rfl rfl 3 (by decide) (hts _ qX5_simulate_16) (fun _ h9 => h9) rfl dX5_simulate_166 ?_
      refine lv_iconst (v := (0 : Int32)) hx hb dX5_simulate_169 (by decide) ?_
      refine lv_aload_n hx hb dX5_simulate_170 rfl (lv_at hl 1 rfl) ?_
      refine va_get (D := D) (ci := 5) (v := .ref (a 1)) (C := RX5) (T := TX5) (N := 13) hx hb hts iX5_simulate_X5 hown hK.1 hP 0 rfl rfl 1 (by decide) (hts _ qX5_simulate_7) (fun _ h9 => h9) rfl dX5_simulate_171 ?_
      refine lv_iconst (v := (0 : Int32)) hx hb dX5_simulate_174 (by decide) ?_
      obtain ⟨u28, h28, hf⟩ := z_bE hf
      obtain ⟨g28, e28, hf⟩ := z_ltE hf
      refine z_cSvC (As := [.ref (a 3), .int (0 : Int32), .ref (a 1), .int (0 : Int32)]) (rest := []) (V := (z_md c a g50_26)) (V' := (z_md c a g28)) (wf := (fun u : Nat → Int32 => z_cp c (a 3) (a 1) 925 925 (g50_26 3) u)) (g := g50_26 1) (u0 := u28) ⟨hx, hb, hml, hown, hts⟩ (kX5_copy l D c N (a 3) (a 1) 925 925 H.size  (g50_26 3) (g50_26 1) (0 : Int32) (0 : Int32) u28 h28) (va_cwS 4 hts gX5_simulate_X5_copy rfl rfl rfl (by decide +kernel) ⟨Nat.le_of_ble_eq_true rfl, Nat.le_of_ble_eq_true rfl⟩) hP hK hD hS hA [3, 1] [0, 2, 4, 5, 6, 7, 8, 9] [0, 9, 1, 8, 2, 3, 4, 5, 6, 7] rfl rfl (by decide) (by decide) (by decide) (by decide) rfl hl.1 (Nat.le_of_ble_eq_true rfl) rfl dX5_simulate_175 ⟨Nat.zero_le _, Nat.zero_le _⟩ (by rw [e28]; rfl) (fun H locs hP hD hS => ?_)
      refine lv_iload hx hb dX5_simulate_178 (lv_at hl 0 rfl) ?_
      refine lv_aload_n hx hb dX5_simulate_180 rfl (lv_at hl 1 rfl) ?_
      obtain ⟨r29, h29, hf⟩ := z_bE hf
      refine z_cVi (As := []) (rest := [.int r27]) (wf := (z_md c a)) (g := g28) (u0 := g28) ⟨hx, hb, hml, hown, hts⟩ (kX5_refundedAll l D c N a H.size g28  r29 h29) (cwV 0 hts gX5_simulate_X5_refundedAll rfl rfl rfl (by decide +kernel) ⟨Nat.le_of_ble_eq_true rfl, Nat.le_of_ble_eq_true rfl⟩) hP hK hD hS hA (ci := 5) (q0 := 0) rfl rfl rfl rfl hl.1 (Nat.le_of_ble_eq_true rfl) rfl dX5_simulate_181 ⟨Nat.zero_le _, Nat.zero_le _⟩ (fun H locs hP hD hS => ?_)
      refine lv_isub hx hb dX5_simulate_184 ?_
      refine lv_istore (lv' := [(7, .int (r27 - r29)), (0, .ref (a 0)), (6, .int x6_50)]) hx hb dX5_simulate_185 hl (by decide) rfl (fun ls hl => ?_)
      refine lv_sipush (v := (1000 : Int32)) hx hb dX5_simulate_187 (by decide) ?_
      refine lv_iload hx hb dX5_simulate_190 (lv_at hl 2 rfl) ?_
      refine lv_imul hx hb dX5_simulate_192 ?_
      refine lv_iload hx hb dX5_simulate_193 (lv_at hl 0 rfl) ?_
      refine lv_sipush (v := (999 : Int32)) hx hb dX5_simulate_195 (by decide) ?_
      refine lv_icmp_ge (tgt := 206) hx hb dX5_simulate_198 (by decide) (fun c30 => ?_) (fun c30 => ?_)
      · have hf := z_ifT hf c30
        refine lv_sipush (v := (999 : Int32)) hx hb dX5_simulate_206 (by decide) ?_
        refine lv_iadd hx hb dX5_simulate_209 ?_
        exact z_ri (wf := (z_md c a)) hx hb hr hlocks hP hD hS hf dX5_simulate_210
      · have hf := z_ifF hf c30
        refine lv_iload hx hb dX5_simulate_201 (lv_at hl 0 rfl) ?_
        refine lv_goto (tgt := 209) hx hb dX5_simulate_203 (by decide) ?_
        refine lv_iadd hx hb dX5_simulate_209 ?_
        exact z_ri (wf := (z_md c a)) hx hb hr hlocks hP hD hS hf dX5_simulate_210
    · have hf := z_ifF hf c24
      refine lv_iconst (v := (0 : Int32)) hx hb dX5_simulate_26 (by decide) ?_
      exact z_ri (wf := (z_md c a)) hx hb hr hlocks hP hD hS hf dX5_simulate_27
abbrev rmX5_save : Room := { frames := 1, cells := 0, slots := 0, locals := 24 }
theorem qX5_save_37 : Cond.fieldLink RX5 37 "ProgramDrumModel" "thrown" "I" ∈ wsX5_save := by decide +kernel
theorem iX5_save_X5 : ∀ w ∈ wsX50, w ∈ wsX5_save := by decide +kernel
theorem qX5_save_7 : Cond.fieldLink RX5 7 "ProgramDrumModel" "state" "[I" ∈ wsX5_save := by decide +kernel
theorem qX5_save_25 : Cond.fieldLink RX5 25 "ProgramDrumModel" "slots" "[I" ∈ wsX5_save := by decide +kernel
theorem qX5_save_28 : Cond.fieldLink RX5 28 "ProgramDrumModel" "isSaved" "[I" ∈ wsX5_save := by decide +kernel
set_option maxRecDepth 100000 in
set_option maxHeartbeats 4000000 in
theorem kX5_save (l : Launch) (D : va_G) (c : Nat → ClassId) (N : Nat) (a : Nat → Nat) (sz : Nat) (g : z_R) (p1 : Int32) (r0 : Int32) (g0 : z_R) (hf : fX5_save N p1 g = some (r0, g0)) : Met l yX5_save wsX5_save rmX5_save (z_Pc D c sz (z_md c a g) [.ref (a 0), .int p1]) (z_Qi D (z_md c a) r0 g0 (va_A (z_md c a g) sz)) 0 0 (va_A (z_md c a g) sz) := by
  refine z_ofM (cc := cX5_save) (maxL := 2) (ret := (some .int)) (Qf := fun A => z_Qi D (z_md c a) r0 g0 A) (plainFor_of_name (by decide)) rfl (Nat.le_of_ble_eq_true rfl) ?_
  intro p e s m args below meth co A ls hx hb hr hml hts hown hlocks hnm hA hP hK hD hl hsz
  have hl : lv_has ls 2 [(0, .ref (a 0)), (1, .int p1)] := hl
  have hown : s.vm.findClass RX5 = some m.cls := hown
  obtain ⟨H, hH⟩ : ∃ H, H = s.heap := ⟨_, rfl⟩
  have hS : va_S A s.heap H [] := by rw [hH]; exact va_S.rf
  rw [← hH] at hP ⊢
  clear hH
  unfold fX5_save at hf
  generalize ([] : List Loc) = locs at hS ⊢
  refine lv_aload_n hx hb dX5_save_0 rfl (lv_at hl 0 rfl) ?_
  refine lv_iload_n hx hb dX5_save_1 rfl (lv_at hl 1 rfl) ?_
  obtain ⟨r1, h1, hf⟩ := z_bE hf
  refine z_cSi (As := [.int p1]) (rest := [.ref (a 0)]) ⟨hx, hb, hml, hown, hts⟩ (kX5_isSlot l D c N H.size p1 r1 h1) (va_cwS 1 hts gX5_save_X5_isSlot rfl rfl rfl (by decide +kernel) ⟨Nat.le_of_ble_eq_true rfl, Nat.le_of_ble_eq_true rfl⟩) hP hK hS hA rfl hl.1 (Nat.le_of_ble_eq_true rfl) rfl dX5_save_2 ⟨Nat.zero_le _, Nat.zero_le _⟩ (fun H locs hP hS => ?_)
  refine lv_if_eq (tgt := 12) hx hb dX5_save_5 (by decide) (fun c2 => ?_) (fun c2 => ?_)
  · have hf := z_ifT hf c2
    refine lv_iconst (v := (1 : Int32)) hx hb dX5_save_12 (by decide) ?_
    refine va_put (D := D) (ci := 5) (v := .int (1 : Int32)) (ty := .int) (C := RX5) (T := TX5) (N := 13) hx hb hts iX5_save_X5 tyX5 tyX5_ok nmX5 hown hK.1 hP hD hS 0 rfl rfl 0 (by decide) (hts _ qX5_save_37) (fun _ h9 => h9) rfl (by decide +kernel) rfl rfl (Nat.le_of_ble_eq_true rfl) dX5_save_13 (fun H locs hP hD hS => ?_)
    obtain ⟨g3, e3, hf⟩ := z_ltE hf
    have hP : va_P D vwCl (z_md c a g3) H := by rw [e3]; exact hP
    have hD : va_D A (z_md c a g3) := by rw [e3]; exact hD
    clear e3
    refine lv_aload_n hx hb dX5_save_16 rfl (lv_at hl 0 rfl) ?_
    refine va_get (D := D) (ci := 5) (v := .int (g3 0 0)) (C := RX5) (T := TX5) (N := 13) hx hb hts iX5_save_X5 hown hK.1 hP 0 rfl rfl 0 (by decide) (hts _ qX5_save_37) (fun _ h9 => h9) rfl dX5_save_17 ?_
    refine lv_if_le (tgt := 25) hx hb dX5_save_20 (by decide) (fun c4 => ?_) (fun c4 => ?_)
    · have hf := z_ifT hf c4
      refine lv_aload_n hx hb dX5_save_25 rfl (lv_at hl 0 rfl) ?_
      refine va_get (D := D) (ci := 5) (v := .ref (a 1)) (C := RX5) (T := TX5) (N := 13) hx hb hts iX5_save_X5 hown hK.1 hP 0 rfl rfl 1 (by decide) (hts _ qX5_save_7) (fun _ h9 => h9) rfl dX5_save_26 ?_
      refine lv_iconst (v := (0 : Int32)) hx hb dX5_save_29 (by decide) ?_
      refine lv_aload_n hx hb dX5_save_30 rfl (lv_at hl 0 rfl) ?_
      refine va_get (D := D) (ci := 5) (v := .ref (a 6)) (C := RX5) (T := TX5) (N := 13) hx hb hts iX5_save_X5 hown hK.1 hP 0 rfl rfl 7 (by decide) (hts _ qX5_save_25) (fun _ h9 => h9) rfl dX5_save_31 ?_
      refine lv_sipush (v := (925 : Int32)) hx hb dX5_save_34 (by decide) ?_
      refine lv_iload_n hx hb dX5_save_37 rfl (lv_at hl 1 rfl) ?_
      refine lv_imul hx hb dX5_save_38 ?_
      obtain ⟨u5, h5, hf⟩ := z_bE hf
      obtain ⟨g5, e5, hf⟩ := z_ltE hf
      refine z_cSvC (As := [.ref (a 1), .int (0 : Int32), .ref (a 6), .int ((925 : Int32) * p1)]) (rest := []) (V := (z_md c a g3)) (V' := (z_md c a g5)) (wf := (fun u : Nat → Int32 => z_cp c (a 1) (a 6) 925 1850 (g3 1) u)) (g := g3 6) (u0 := u5) ⟨hx, hb, hml, hown, hts⟩ (kX5_copy l D c N (a 1) (a 6) 925 1850 H.size  (g3 1) (g3 6) (0 : Int32) ((925 : Int32) * p1) u5 h5) (va_cwS 4 hts gX5_save_X5_copy rfl rfl rfl (by decide +kernel) ⟨Nat.le_of_ble_eq_true rfl, Nat.le_of_ble_eq_true rfl⟩) hP hK hD hS hA [1, 6] [0, 2, 3, 4, 5, 7, 8, 9] [0, 8, 1, 2, 3, 4, 9, 5, 6, 7] rfl rfl (by decide) (by decide) (by decide) (by decide) rfl hl.1 (Nat.le_of_ble_eq_true rfl) rfl dX5_save_39 ⟨Nat.zero_le _, Nat.zero_le _⟩ (by rw [e5]; rfl) (fun H locs hP hD hS => ?_)
      refine lv_aload_n hx hb dX5_save_42 rfl (lv_at hl 0 rfl) ?_
      refine va_get (D := D) (ci := 5) (v := .ref (a 7)) (C := RX5) (T := TX5) (N := 13) hx hb hts iX5_save_X5 hown hK.1 hP 0 rfl rfl 8 (by decide) (hts _ qX5_save_28) (fun _ h9 => h9) rfl dX5_save_43 ?_
      refine lv_iload_n hx hb dX5_save_46 rfl (lv_at hl 1 rfl) ?_
      refine lv_iconst (v := (1 : Int32)) hx hb dX5_save_47 (by decide) ?_
      obtain ⟨b6, hf⟩ := z_ckE hf
      refine va_iast hx hb hK.1 hP hD hS 7 0 rfl rfl (z_inE b6) dX5_save_48 (fun H locs hP hD hS => ?_)
      obtain ⟨g7, e7, hf⟩ := z_ltE hf
      have hP : va_P D vwCl (z_md c a g7) H := by rw [e7]; exact hP
      have hD : va_D A (z_md c a g7) := by rw [e7]; exact hD
      clear e7
      refine lv_aload_n hx hb dX5_save_49 rfl (lv_at hl 0 rfl) ?_
      refine va_get (D := D) (ci := 5) (v := .ref (a 1)) (C := RX5) (T := TX5) (N := 13) hx hb hts iX5_save_X5 hown hK.1 hP 0 rfl rfl 1 (by decide) (hts _ qX5_save_7) (fun _ h9 => h9) rfl dX5_save_50 ?_
      refine lv_iconst (v := (2 : Int32)) hx hb dX5_save_53 (by decide) ?_
      refine va_iald hx hb hK.1 hP 1 0 rfl rfl (z_inE (by decide)) dX5_save_54 ?_
      exact z_ri (wf := (z_md c a)) hx hb hr hlocks hP hD hS hf dX5_save_55
    · have hf := z_ifF hf c4
      refine lv_iconst (v := (0 : Int32)) hx hb dX5_save_23 (by decide) ?_
      exact z_ri (wf := (z_md c a)) hx hb hr hlocks hP hD hS hf dX5_save_24
  · have hf := z_ifF hf c2
    refine lv_iconst (v := (0 : Int32)) hx hb dX5_save_8 (by decide) ?_
    refine lv_goto (tgt := 13) hx hb dX5_save_9 (by decide) ?_
    refine va_put (D := D) (ci := 5) (v := .int (0 : Int32)) (ty := .int) (C := RX5) (T := TX5) (N := 13) hx hb hts iX5_save_X5 tyX5 tyX5_ok nmX5 hown hK.1 hP hD hS 0 rfl rfl 0 (by decide) (hts _ qX5_save_37) (fun _ h9 => h9) rfl (by decide +kernel) rfl rfl (Nat.le_of_ble_eq_true rfl) dX5_save_13 (fun H locs hP hD hS => ?_)
    obtain ⟨g8, e8, hf⟩ := z_ltE hf
    have hP : va_P D vwCl (z_md c a g8) H := by rw [e8]; exact hP
    have hD : va_D A (z_md c a g8) := by rw [e8]; exact hD
    clear e8
    refine lv_aload_n hx hb dX5_save_16 rfl (lv_at hl 0 rfl) ?_
    refine va_get (D := D) (ci := 5) (v := .int (g8 0 0)) (C := RX5) (T := TX5) (N := 13) hx hb hts iX5_save_X5 hown hK.1 hP 0 rfl rfl 0 (by decide) (hts _ qX5_save_37) (fun _ h9 => h9) rfl dX5_save_17 ?_
    refine lv_if_le (tgt := 25) hx hb dX5_save_20 (by decide) (fun c9 => ?_) (fun c9 => ?_)
    · have hf := z_ifT hf c9
      refine lv_aload_n hx hb dX5_save_25 rfl (lv_at hl 0 rfl) ?_
      refine va_get (D := D) (ci := 5) (v := .ref (a 1)) (C := RX5) (T := TX5) (N := 13) hx hb hts iX5_save_X5 hown hK.1 hP 0 rfl rfl 1 (by decide) (hts _ qX5_save_7) (fun _ h9 => h9) rfl dX5_save_26 ?_
      refine lv_iconst (v := (0 : Int32)) hx hb dX5_save_29 (by decide) ?_
      refine lv_aload_n hx hb dX5_save_30 rfl (lv_at hl 0 rfl) ?_
      refine va_get (D := D) (ci := 5) (v := .ref (a 6)) (C := RX5) (T := TX5) (N := 13) hx hb hts iX5_save_X5 hown hK.1 hP 0 rfl rfl 7 (by decide) (hts _ qX5_save_25) (fun _ h9 => h9) rfl dX5_save_31 ?_
      refine lv_sipush (v := (925 : Int32)) hx hb dX5_save_34 (by decide) ?_
      refine lv_iload_n hx hb dX5_save_37 rfl (lv_at hl 1 rfl) ?_
      refine lv_imul hx hb dX5_save_38 ?_
      obtain ⟨u10, h10, hf⟩ := z_bE hf
      obtain ⟨g10, e10, hf⟩ := z_ltE hf
      refine z_cSvC (As := [.ref (a 1), .int (0 : Int32), .ref (a 6), .int ((925 : Int32) * p1)]) (rest := []) (V := (z_md c a g8)) (V' := (z_md c a g10)) (wf := (fun u : Nat → Int32 => z_cp c (a 1) (a 6) 925 1850 (g8 1) u)) (g := g8 6) (u0 := u10) ⟨hx, hb, hml, hown, hts⟩ (kX5_copy l D c N (a 1) (a 6) 925 1850 H.size  (g8 1) (g8 6) (0 : Int32) ((925 : Int32) * p1) u10 h10) (va_cwS 4 hts gX5_save_X5_copy rfl rfl rfl (by decide +kernel) ⟨Nat.le_of_ble_eq_true rfl, Nat.le_of_ble_eq_true rfl⟩) hP hK hD hS hA [1, 6] [0, 2, 3, 4, 5, 7, 8, 9] [0, 8, 1, 2, 3, 4, 9, 5, 6, 7] rfl rfl (by decide) (by decide) (by decide) (by decide) rfl hl.1 (Nat.le_of_ble_eq_true rfl) rfl dX5_save_39 ⟨Nat.zero_le _, Nat.zero_le _⟩ (by rw [e10]; rfl) (fun H locs hP hD hS => ?_)
      refine lv_aload_n hx hb dX5_save_42 rfl (lv_at hl 0 rfl) ?_
      refine va_get (D := D) (ci := 5) (v := .ref (a 7)) (C := RX5) (T := TX5) (N := 13) hx hb hts iX5_save_X5 hown hK.1 hP 0 rfl rfl 8 (by decide) (hts _ qX5_save_28) (fun _ h9 => h9) rfl dX5_save_43 ?_
      refine lv_iload_n hx hb dX5_save_46 rfl (lv_at hl 1 rfl) ?_
      refine lv_iconst (v := (1 : Int32)) hx hb dX5_save_47 (by decide) ?_
      obtain ⟨b11, hf⟩ := z_ckE hf
      refine va_iast hx hb hK.1 hP hD hS 7 0 rfl rfl (z_inE b11) dX5_save_48 (fun H locs hP hD hS => ?_)
      obtain ⟨g12, e12, hf⟩ := z_ltE hf
      have hP : va_P D vwCl (z_md c a g12) H := by rw [e12]; exact hP
      have hD : va_D A (z_md c a g12) := by rw [e12]; exact hD
      clear e12
      refine lv_aload_n hx hb dX5_save_49 rfl (lv_at hl 0 rfl) ?_
      refine va_get (D := D) (ci := 5) (v := .ref (a 1)) (C := RX5) (T := TX5) (N := 13) hx hb hts iX5_save_X5 hown hK.1 hP 0 rfl rfl 1 (by decide) (hts _ qX5_save_7) (fun _ h9 => h9) rfl dX5_save_50 ?_
      refine lv_iconst (v := (2 : Int32)) hx hb dX5_save_53 (by decide) ?_
      refine va_iald hx hb hK.1 hP 1 0 rfl rfl (z_inE (by decide)) dX5_save_54 ?_
      exact z_ri (wf := (z_md c a)) hx hb hr hlocks hP hD hS hf dX5_save_55
    · have hf := z_ifF hf c9
      refine lv_iconst (v := (0 : Int32)) hx hb dX5_save_23 (by decide) ?_
      exact z_ri (wf := (z_md c a)) hx hb hr hlocks hP hD hS hf dX5_save_24
abbrev rmX5_restore : Room := { frames := 1, cells := 0, slots := 0, locals := 24 }
theorem qX5_restore_28 : Cond.fieldLink RX5 28 "ProgramDrumModel" "isSaved" "[I" ∈ wsX5_restore := by decide +kernel
theorem iX5_restore_X5 : ∀ w ∈ wsX50, w ∈ wsX5_restore := by decide +kernel
theorem qX5_restore_37 : Cond.fieldLink RX5 37 "ProgramDrumModel" "thrown" "I" ∈ wsX5_restore := by decide +kernel
theorem qX5_restore_25 : Cond.fieldLink RX5 25 "ProgramDrumModel" "slots" "[I" ∈ wsX5_restore := by decide +kernel
theorem qX5_restore_7 : Cond.fieldLink RX5 7 "ProgramDrumModel" "state" "[I" ∈ wsX5_restore := by decide +kernel
theorem qX5_restore_73 : Cond.fieldLink RX5 73 "ProgramDrumModel" "remembered" "I" ∈ wsX5_restore := by decide +kernel
set_option maxRecDepth 100000 in
set_option maxHeartbeats 4000000 in
theorem kX5_restore (l : Launch) (D : va_G) (c : Nat → ClassId) (N : Nat) (a : Nat → Nat) (sz : Nat) (g : z_R) (p1 : Int32) (r0 : Int32) (g0 : z_R) (hf : fX5_restore N p1 g = some (r0, g0)) : Met l yX5_restore wsX5_restore rmX5_restore (z_Pc D c sz (z_md c a g) [.ref (a 0), .int p1]) (z_Qi D (z_md c a) r0 g0 (va_A (z_md c a g) sz)) 0 0 (va_A (z_md c a g) sz) := by
  refine z_ofM (cc := cX5_restore) (maxL := 2) (ret := (some .int)) (Qf := fun A => z_Qi D (z_md c a) r0 g0 A) (plainFor_of_name (by decide)) rfl (Nat.le_of_ble_eq_true rfl) ?_
  intro p e s m args below meth co A ls hx hb hr hml hts hown hlocks hnm hA hP hK hD hl hsz
  have hl : lv_has ls 2 [(0, .ref (a 0)), (1, .int p1)] := hl
  have hown : s.vm.findClass RX5 = some m.cls := hown
  obtain ⟨H, hH⟩ : ∃ H, H = s.heap := ⟨_, rfl⟩
  have hS : va_S A s.heap H [] := by rw [hH]; exact va_S.rf
  rw [← hH] at hP ⊢
  clear hH
  unfold fX5_restore at hf
  generalize ([] : List Loc) = locs at hS ⊢
  refine lv_aload_n hx hb dX5_restore_0 rfl (lv_at hl 0 rfl) ?_
  refine lv_iload_n hx hb dX5_restore_1 rfl (lv_at hl 1 rfl) ?_
  obtain ⟨r1, h1, hf⟩ := z_bE hf
  refine z_cSi (As := [.int p1]) (rest := [.ref (a 0)]) ⟨hx, hb, hml, hown, hts⟩ (kX5_isSlot l D c N H.size p1 r1 h1) (va_cwS 1 hts gX5_restore_X5_isSlot rfl rfl rfl (by decide +kernel) ⟨Nat.le_of_ble_eq_true rfl, Nat.le_of_ble_eq_true rfl⟩) hP hK hS hA rfl hl.1 (Nat.le_of_ble_eq_true rfl) rfl dX5_restore_2 ⟨Nat.zero_le _, Nat.zero_le _⟩ (fun H locs hP hS => ?_)
  refine lv_if_ne (tgt := 12) hx hb dX5_restore_5 (by decide) (fun c2 => ?_) (fun c2 => ?_)
  · have hf := z_ifF hf c2
    refine lv_aload_n hx hb dX5_restore_12 rfl (lv_at hl 0 rfl) ?_
    refine va_get (D := D) (ci := 5) (v := .ref (a 7)) (C := RX5) (T := TX5) (N := 13) hx hb hts iX5_restore_X5 hown hK.1 hP 0 rfl rfl 8 (by decide) (hts _ qX5_restore_28) (fun _ h9 => h9) rfl dX5_restore_13 ?_
    refine lv_iload_n hx hb dX5_restore_16 rfl (lv_at hl 1 rfl) ?_
    obtain ⟨b3, hf⟩ := z_ckE hf
    refine va_iald hx hb hK.1 hP 7 0 rfl rfl (z_inE b3) dX5_restore_17 ?_
    refine lv_iconst (v := (1 : Int32)) hx hb dX5_restore_18 (by decide) ?_
    refine lv_icmp_ne (tgt := 26) hx hb dX5_restore_19 (by decide) (fun c4 => ?_) (fun c4 => ?_)
    · have hf := z_ifF hf c4
      refine lv_iconst (v := (2 : Int32)) hx hb dX5_restore_26 (by decide) ?_
      refine va_put (D := D) (ci := 5) (v := .int (2 : Int32)) (ty := .int) (C := RX5) (T := TX5) (N := 13) hx hb hts iX5_restore_X5 tyX5 tyX5_ok nmX5 hown hK.1 hP hD hS 0 rfl rfl 0 (by decide) (hts _ qX5_restore_37) (fun _ h9 => h9) rfl (by decide +kernel) rfl rfl (Nat.le_of_ble_eq_true rfl) dX5_restore_27 (fun H locs hP hD hS => ?_)
      obtain ⟨g5, e5, hf⟩ := z_ltE hf
      have hP : va_P D vwCl (z_md c a g5) H := by rw [e5]; exact hP
      have hD : va_D A (z_md c a g5) := by rw [e5]; exact hD
      clear e5
      refine lv_aload_n hx hb dX5_restore_30 rfl (lv_at hl 0 rfl) ?_
      refine va_get (D := D) (ci := 5) (v := .int (g5 0 0)) (C := RX5) (T := TX5) (N := 13) hx hb hts iX5_restore_X5 hown hK.1 hP 0 rfl rfl 0 (by decide) (hts _ qX5_restore_37) (fun _ h9 => h9) rfl dX5_restore_31 ?_
      refine lv_if_le (tgt := 39) hx hb dX5_restore_34 (by decide) (fun c6 => ?_) (fun c6 => ?_)
      · have hf := z_ifT hf c6
        refine lv_aload_n hx hb dX5_restore_39 rfl (lv_at hl 0 rfl) ?_
        refine va_get (D := D) (ci := 5) (v := .ref (a 6)) (C := RX5) (T := TX5) (N := 13) hx hb hts iX5_restore_X5 hown hK.1 hP 0 rfl rfl 7 (by decide) (hts _ qX5_restore_25) (fun _ h9 => h9) rfl dX5_restore_40 ?_
        refine lv_sipush (v := (925 : Int32)) hx hb dX5_restore_43 (by decide) ?_
        refine lv_iload_n hx hb dX5_restore_46 rfl (lv_at hl 1 rfl) ?_
        refine lv_imul hx hb dX5_restore_47 ?_
        refine lv_aload_n hx hb dX5_restore_48 rfl (lv_at hl 0 rfl) ?_
        refine va_get (D := D) (ci := 5) (v := .ref (a 1)) (C := RX5) (T := TX5) (N := 13) hx hb hts iX5_restore_X5 hown hK.1 hP 0 rfl rfl 1 (by decide) (hts _ qX5_restore_7) (fun _ h9 => h9) rfl dX5_restore_49 ?_
        refine lv_iconst (v := (0 : Int32)) hx hb dX5_restore_52 (by decide) ?_
        obtain ⟨u7, h7, hf⟩ := z_bE hf
        obtain ⟨g7, e7, hf⟩ := z_ltE hf
        refine z_cSvC (As := [.ref (a 6), .int ((925 : Int32) * p1), .ref (a 1), .int (0 : Int32)]) (rest := []) (V := (z_md c a g5)) (V' := (z_md c a g7)) (wf := (fun u : Nat → Int32 => z_cp c (a 6) (a 1) 1850 925 (g5 6) u)) (g := g5 1) (u0 := u7) ⟨hx, hb, hml, hown, hts⟩ (kX5_copy l D c N (a 6) (a 1) 1850 925 H.size  (g5 6) (g5 1) ((925 : Int32) * p1) (0 : Int32) u7 h7) (va_cwS 4 hts gX5_restore_X5_copy rfl rfl rfl (by decide +kernel) ⟨Nat.le_of_ble_eq_true rfl, Nat.le_of_ble_eq_true rfl⟩) hP hK hD hS hA [6, 1] [0, 2, 3, 4, 5, 7, 8, 9] [0, 9, 1, 2, 3, 4, 8, 5, 6, 7] rfl rfl (by decide) (by decide) (by decide) (by decide) rfl hl.1 (Nat.le_of_ble_eq_true rfl) rfl dX5_restore_53 ⟨Nat.zero_le _, Nat.zero_le _⟩ (by rw [e7]; rfl) (fun H locs hP hD hS => ?_)
        refine lv_aload_n hx hb dX5_restore_56 rfl (lv_at hl 0 rfl) ?_
        refine lv_iconst (v := (0 : Int32)) hx hb dX5_restore_57 (by decide) ?_
        refine va_put (D := D) (ci := 5) (v := .int (0 : Int32)) (ty := .int) (C := RX5) (T := TX5) (N := 13) hx hb hts iX5_restore_X5 tyX5 tyX5_ok nmX5 hown hK.1 hP hD hS 0 rfl rfl 6 (by decide) (hts _ qX5_restore_73) (fun _ h9 => h9) rfl (by decide +kernel) rfl rfl (Nat.le_of_ble_eq_true rfl) dX5_restore_58 (fun H locs hP hD hS => ?_)
        obtain ⟨g8, e8, hf⟩ := z_ltE hf
        have hP : va_P D vwCl (z_md c a g8) H := by rw [e8]; exact hP
        have hD : va_D A (z_md c a g8) := by rw [e8]; exact hD
        clear e8
        refine lv_aload_n hx hb dX5_restore_61 rfl (lv_at hl 0 rfl) ?_
        refine va_get (D := D) (ci := 5) (v := .ref (a 1)) (C := RX5) (T := TX5) (N := 13) hx hb hts iX5_restore_X5 hown hK.1 hP 0 rfl rfl 1 (by decide) (hts _ qX5_restore_7) (fun _ h9 => h9) rfl dX5_restore_62 ?_
        refine lv_iconst (v := (2 : Int32)) hx hb dX5_restore_65 (by decide) ?_
        refine va_iald hx hb hK.1 hP 1 0 rfl rfl (z_inE (by decide)) dX5_restore_66 ?_
        exact z_ri (wf := (z_md c a)) hx hb hr hlocks hP hD hS hf dX5_restore_67
      · have hf := z_ifF hf c6
        refine lv_iconst (v := (0 : Int32)) hx hb dX5_restore_37 (by decide) ?_
        exact z_ri (wf := (z_md c a)) hx hb hr hlocks hP hD hS hf dX5_restore_38
    · have hf := z_ifT hf c4
      refine lv_iconst (v := (0 : Int32)) hx hb dX5_restore_22 (by decide) ?_
      refine lv_goto (tgt := 27) hx hb dX5_restore_23 (by decide) ?_
      refine va_put (D := D) (ci := 5) (v := .int (0 : Int32)) (ty := .int) (C := RX5) (T := TX5) (N := 13) hx hb hts iX5_restore_X5 tyX5 tyX5_ok nmX5 hown hK.1 hP hD hS 0 rfl rfl 0 (by decide) (hts _ qX5_restore_37) (fun _ h9 => h9) rfl (by decide +kernel) rfl rfl (Nat.le_of_ble_eq_true rfl) dX5_restore_27 (fun H locs hP hD hS => ?_)
      obtain ⟨g9, e9, hf⟩ := z_ltE hf
      have hP : va_P D vwCl (z_md c a g9) H := by rw [e9]; exact hP
      have hD : va_D A (z_md c a g9) := by rw [e9]; exact hD
      clear e9
      refine lv_aload_n hx hb dX5_restore_30 rfl (lv_at hl 0 rfl) ?_
      refine va_get (D := D) (ci := 5) (v := .int (g9 0 0)) (C := RX5) (T := TX5) (N := 13) hx hb hts iX5_restore_X5 hown hK.1 hP 0 rfl rfl 0 (by decide) (hts _ qX5_restore_37) (fun _ h9 => h9) rfl dX5_restore_31 ?_
      refine lv_if_le (tgt := 39) hx hb dX5_restore_34 (by decide) (fun c10 => ?_) (fun c10 => ?_)
      · have hf := z_ifT hf c10
        refine lv_aload_n hx hb dX5_restore_39 rfl (lv_at hl 0 rfl) ?_
        refine va_get (D := D) (ci := 5) (v := .ref (a 6)) (C := RX5) (T := TX5) (N := 13) hx hb hts iX5_restore_X5 hown hK.1 hP 0 rfl rfl 7 (by decide) (hts _ qX5_restore_25) (fun _ h9 => h9) rfl dX5_restore_40 ?_
        refine lv_sipush (v := (925 : Int32)) hx hb dX5_restore_43 (by decide) ?_
        refine lv_iload_n hx hb dX5_restore_46 rfl (lv_at hl 1 rfl) ?_
        refine lv_imul hx hb dX5_restore_47 ?_
        refine lv_aload_n hx hb dX5_restore_48 rfl (lv_at hl 0 rfl) ?_
        refine va_get (D := D) (ci := 5) (v := .ref (a 1)) (C := RX5) (T := TX5) (N := 13) hx hb hts iX5_restore_X5 hown hK.1 hP 0 rfl rfl 1 (by decide) (hts _ qX5_restore_7) (fun _ h9 => h9) rfl dX5_restore_49 ?_
        refine lv_iconst (v := (0 : Int32)) hx hb dX5_restore_52 (by decide) ?_
        obtain ⟨u11, h11, hf⟩ := z_bE hf
        obtain ⟨g11, e11, hf⟩ := z_ltE hf
        refine z_cSvC (As := [.ref (a 6), .int ((925 : Int32) * p1), .ref (a 1), .int (0 : Int32)]) (rest := []) (V := (z_md c a g9)) (V' := (z_md c a g11)) (wf := (fun u : Nat → Int32 => z_cp c (a 6) (a 1) 1850 925 (g9 6) u)) (g := g9 1) (u0 := u11) ⟨hx, hb, hml, hown, hts⟩ (kX5_copy l D c N (a 6) (a 1) 1850 925 H.size  (g9 6) (g9 1) ((925 : Int32) * p1) (0 : Int32) u11 h11) (va_cwS 4 hts gX5_restore_X5_copy rfl rfl rfl (by decide +kernel) ⟨Nat.le_of_ble_eq_true rfl, Nat.le_of_ble_eq_true rfl⟩) hP hK hD hS hA [6, 1] [0, 2, 3, 4, 5, 7, 8, 9] [0, 9, 1, 2, 3, 4, 8, 5, 6, 7] rfl rfl (by decide) (by decide) (by decide) (by decide) rfl hl.1 (Nat.le_of_ble_eq_true rfl) rfl dX5_restore_53 ⟨Nat.zero_le _, Nat.zero_le _⟩ (by rw [e11]; rfl) (fun H locs hP hD hS => ?_)
        refine lv_aload_n hx hb dX5_restore_56 rfl (lv_at hl 0 rfl) ?_
        refine lv_iconst (v := (0 : Int32)) hx hb dX5_restore_57 (by decide) ?_
        refine va_put (D := D) (ci := 5) (v := .int (0 : Int32)) (ty := .int) (C := RX5) (T := TX5) (N := 13) hx hb hts iX5_restore_X5 tyX5 tyX5_ok nmX5 hown hK.1 hP hD hS 0 rfl rfl 6 (by decide) (hts _ qX5_restore_73) (fun _ h9 => h9) rfl (by decide +kernel) rfl rfl (Nat.le_of_ble_eq_true rfl) dX5_restore_58 (fun H locs hP hD hS => ?_)
        obtain ⟨g12, e12, hf⟩ := z_ltE hf
        have hP : va_P D vwCl (z_md c a g12) H := by rw [e12]; exact hP
        have hD : va_D A (z_md c a g12) := by rw [e12]; exact hD
        clear e12
        refine lv_aload_n hx hb dX5_restore_61 rfl (lv_at hl 0 rfl) ?_
        refine va_get (D := D) (ci := 5) (v := .ref (a 1)) (C := RX5) (T := TX5) (N := 13) hx hb hts iX5_restore_X5 hown hK.1 hP 0 rfl rfl 1 (by decide) (hts _ qX5_restore_7) (fun _ h9 => h9) rfl dX5_restore_62 ?_
        refine lv_iconst (v := (2 : Int32)) hx hb dX5_restore_65 (by decide) ?_
        refine va_iald hx hb hK.1 hP 1 0 rfl rfl (z_inE (by decide)) dX5_restore_66 ?_
        exact z_ri (wf := (z_md c a)) hx hb hr hlocks hP hD hS hf dX5_restore_67
      · have hf := z_ifF hf c10
        refine lv_iconst (v := (0 : Int32)) hx hb dX5_restore_37 (by decide) ?_
        exact z_ri (wf := (z_md c a)) hx hb hr hlocks hP hD hS hf dX5_restore_38
  · have hf := z_ifT hf c2
    refine lv_iconst (v := (1 : Int32)) hx hb dX5_restore_8 (by decide) ?_
    refine lv_goto (tgt := 27) hx hb dX5_restore_9 (by decide) ?_
    refine va_put (D := D) (ci := 5) (v := .int (1 : Int32)) (ty := .int) (C := RX5) (T := TX5) (N := 13) hx hb hts iX5_restore_X5 tyX5 tyX5_ok nmX5 hown hK.1 hP hD hS 0 rfl rfl 0 (by decide) (hts _ qX5_restore_37) (fun _ h9 => h9) rfl (by decide +kernel) rfl rfl (Nat.le_of_ble_eq_true rfl) dX5_restore_27 (fun H locs hP hD hS => ?_)
    obtain ⟨g13, e13, hf⟩ := z_ltE hf
    have hP : va_P D vwCl (z_md c a g13) H := by rw [e13]; exact hP
    have hD : va_D A (z_md c a g13) := by rw [e13]; exact hD
    clear e13
    refine lv_aload_n hx hb dX5_restore_30 rfl (lv_at hl 0 rfl) ?_
    refine va_get (D := D) (ci := 5) (v := .int (g13 0 0)) (C := RX5) (T := TX5) (N := 13) hx hb hts iX5_restore_X5 hown hK.1 hP 0 rfl rfl 0 (by decide) (hts _ qX5_restore_37) (fun _ h9 => h9) rfl dX5_restore_31 ?_
    refine lv_if_le (tgt := 39) hx hb dX5_restore_34 (by decide) (fun c14 => ?_) (fun c14 => ?_)
    · have hf := z_ifT hf c14
      refine lv_aload_n hx hb dX5_restore_39 rfl (lv_at hl 0 rfl) ?_
      refine va_get (D := D) (ci := 5) (v := .ref (a 6)) (C := RX5) (T := TX5) (N := 13) hx hb hts iX5_restore_X5 hown hK.1 hP 0 rfl rfl 7 (by decide) (hts _ qX5_restore_25) (fun _ h9 => h9) rfl dX5_restore_40 ?_
      refine lv_sipush (v := (925 : Int32)) hx hb dX5_restore_43 (by decide) ?_
      refine lv_iload_n hx hb dX5_restore_46 rfl (lv_at hl 1 rfl) ?_
      refine lv_imul hx hb dX5_restore_47 ?_
      refine lv_aload_n hx hb dX5_restore_48 rfl (lv_at hl 0 rfl) ?_
      refine va_get (D := D) (ci := 5) (v := .ref (a 1)) (C := RX5) (T := TX5) (N := 13) hx hb hts iX5_restore_X5 hown hK.1 hP 0 rfl rfl 1 (by decide) (hts _ qX5_restore_7) (fun _ h9 => h9) rfl dX5_restore_49 ?_
      refine lv_iconst (v := (0 : Int32)) hx hb dX5_restore_52 (by decide) ?_
      obtain ⟨u15, h15, hf⟩ := z_bE hf
      obtain ⟨g15, e15, hf⟩ := z_ltE hf
      refine z_cSvC (As := [.ref (a 6), .int ((925 : Int32) * p1), .ref (a 1), .int (0 : Int32)]) (rest := []) (V := (z_md c a g13)) (V' := (z_md c a g15)) (wf := (fun u : Nat → Int32 => z_cp c (a 6) (a 1) 1850 925 (g13 6) u)) (g := g13 1) (u0 := u15) ⟨hx, hb, hml, hown, hts⟩ (kX5_copy l D c N (a 6) (a 1) 1850 925 H.size  (g13 6) (g13 1) ((925 : Int32) * p1) (0 : Int32) u15 h15) (va_cwS 4 hts gX5_restore_X5_copy rfl rfl rfl (by decide +kernel) ⟨Nat.le_of_ble_eq_true rfl, Nat.le_of_ble_eq_true rfl⟩) hP hK hD hS hA [6, 1] [0, 2, 3, 4, 5, 7, 8, 9] [0, 9, 1, 2, 3, 4, 8, 5, 6, 7] rfl rfl (by decide) (by decide) (by decide) (by decide) rfl hl.1 (Nat.le_of_ble_eq_true rfl) rfl dX5_restore_53 ⟨Nat.zero_le _, Nat.zero_le _⟩ (by rw [e15]; rfl) (fun H locs hP hD hS => ?_)
      refine lv_aload_n hx hb dX5_restore_56 rfl (lv_at hl 0 rfl) ?_
      refine lv_iconst (v := (0 : Int32)) hx hb dX5_restore_57 (by decide) ?_
      refine va_put (D := D) (ci := 5) (v := .int (0 : Int32)) (ty := .int) (C := RX5) (T := TX5) (N := 13) hx hb hts iX5_restore_X5 tyX5 tyX5_ok nmX5 hown hK.1 hP hD hS 0 rfl rfl 6 (by decide) (hts _ qX5_restore_73) (fun _ h9 => h9) rfl (by decide +kernel) rfl rfl (Nat.le_of_ble_eq_true rfl) dX5_restore_58 (fun H locs hP hD hS => ?_)
      obtain ⟨g16, e16, hf⟩ := z_ltE hf
      have hP : va_P D vwCl (z_md c a g16) H := by rw [e16]; exact hP
      have hD : va_D A (z_md c a g16) := by rw [e16]; exact hD
      clear e16
      refine lv_aload_n hx hb dX5_restore_61 rfl (lv_at hl 0 rfl) ?_
      refine va_get (D := D) (ci := 5) (v := .ref (a 1)) (C := RX5) (T := TX5) (N := 13) hx hb hts iX5_restore_X5 hown hK.1 hP 0 rfl rfl 1 (by decide) (hts _ qX5_restore_7) (fun _ h9 => h9) rfl dX5_restore_62 ?_
      refine lv_iconst (v := (2 : Int32)) hx hb dX5_restore_65 (by decide) ?_
      refine va_iald hx hb hK.1 hP 1 0 rfl rfl (z_inE (by decide)) dX5_restore_66 ?_
      exact z_ri (wf := (z_md c a)) hx hb hr hlocks hP hD hS hf dX5_restore_67
    · have hf := z_ifF hf c14
      refine lv_iconst (v := (0 : Int32)) hx hb dX5_restore_37 (by decide) ?_
      exact z_ri (wf := (z_md c a)) hx hb hr hlocks hP hD hS hf dX5_restore_38
