abbrev rmX0_note : Room := { frames := 0, cells := 0, slots := 0, locals := 0 }
theorem qX0_note_21 : Cond.fieldLink RX0 21 "ProgramDrum$Jumps" "size" "I" ∈ wsX0_note := by decide +kernel
theorem iX0_note_X0 : ∀ w ∈ wsX00, w ∈ wsX0_note := by decide +kernel
theorem qX0_note_11 : Cond.fieldLink RX0 11 "ProgramDrum$Jumps" "from" "[I" ∈ wsX0_note := by decide +kernel
theorem qX0_note_15 : Cond.fieldLink RX0 15 "ProgramDrum$Jumps" "to" "[I" ∈ wsX0_note := by decide +kernel
theorem qX0_note_18 : Cond.fieldLink RX0 18 "ProgramDrum$Jumps" "times" "[I" ∈ wsX0_note := by decide +kernel
set_option maxRecDepth 100000 in
set_option maxHeartbeats 4000000 in
theorem kX0_note (l : Launch) (D : va_G) (c : Nat → ClassId) (N : Nat) (a : Nat → Nat) (sz : Nat) (g : z_R) (p1 : Int32) (p2 : Int32) (g0 : z_R) (hf : fX0_note N p1 p2 g = some g0) : Met l yX0_note wsX0_note rmX0_note (z_Pc D c sz (z_st c a g) [.ref (a 12), .int p1, .int p2]) (z_Qv D (z_st c a) g0 (va_A (z_st c a g) sz)) 0 0 (va_A (z_st c a g) sz) := by
  refine z_ofM (cc := cX0_note) (maxL := 4) (ret := none) (Qf := fun A => z_Qv D (z_st c a) g0 A) (plainFor_of_name (by decide)) rfl (Nat.le_of_ble_eq_true rfl) ?_
  intro p e s m args below meth co A ls hx hb hr hml hts hown hlocks hnm hA hP hK hD hl hsz
  have hl : lv_has ls 4 [(0, .ref (a 12)), (1, .int p1), (2, .int p2)] := hl
  have hown : s.vm.findClass RX0 = some m.cls := hown
  obtain ⟨H, hH⟩ : ∃ H, H = s.heap := ⟨_, rfl⟩
  have hS : va_S A s.heap H [] := by rw [hH]; exact va_S.rf
  rw [← hH] at hP ⊢
  clear hH
  have L2 : ∀ (x1 : Int32) (x2 : Int32) (g : z_R) (fu : Nat) (x3 : Int32), lX0_note_2 N x1 x2 g fu x3 = some g0 → ∀ (H : Heap) (locs : List Loc) (ls : Array Slot), va_P D vwCl (z_st c a g) H → va_D A (z_st c a g) → va_S A s.heap H locs → lv_has ls 4 [(0, .ref (a 12)), (1, .int x1), (2, .int x2), (3, .int x3)] → W p l e rmX0_note s m args below meth co H locs 0 0 (MQ below (z_Qv D (z_st c a) g0 A) args s 0 0 A) (F0 m 2 ls []) := by
    intro x1 x2 g fu
    induction fu with
    | zero =>
      intro x3 hf
      have hf : (none : Option (z_R)) = some _ := hf
      cases hf
    | succ fu ih =>
      intro x3 hf H locs ls hP hD hS hl
      rw [lX0_note_2.eq_2] at hf
      refine lv_iload_n hx hb dX0_note_2 rfl (lv_at hl 3 rfl) ?_
      refine lv_aload_n hx hb dX0_note_3 rfl (lv_at hl 0 rfl) ?_
      refine va_get (D := D) (ci := 0) (v := .int (g 0 4)) (C := RX0) (T := TX0) (N := 4) hx hb hts iX0_note_X0 hown hK.1 hP 12 rfl rfl 3 (by decide) (hts _ qX0_note_21) (fun _ h9 => h9) rfl dX0_note_4 ?_
      refine lv_icmp_ge (tgt := 47) hx hb dX0_note_7 (by decide) (fun c1 => ?_) (fun c1 => ?_)
      · have hf := z_ifT hf c1
        refine lv_aload_n hx hb dX0_note_47 rfl (lv_at hl 0 rfl) ?_
        refine va_get (D := D) (ci := 0) (v := .int (g 0 4)) (C := RX0) (T := TX0) (N := 4) hx hb hts iX0_note_X0 hown hK.1 hP 12 rfl rfl 3 (by decide) (hts _ qX0_note_21) (fun _ h9 => h9) rfl dX0_note_48 ?_
        refine lv_sipush (v := (256 : Int32)) hx hb dX0_note_51 (by decide) ?_
        refine lv_icmp_ge (tgt := 97) hx hb dX0_note_54 (by decide) (fun c2 => ?_) (fun c2 => ?_)
        · have hf := z_ifT hf c2
          exact z_rv (wf := (z_st c a)) hx hb hr hlocks hP hD hS hf dX0_note_97
        · have hf := z_ifF hf c2
          refine lv_aload_n hx hb dX0_note_57 rfl (lv_at hl 0 rfl) ?_
          refine va_get (D := D) (ci := 0) (v := .ref (a 13)) (C := RX0) (T := TX0) (N := 4) hx hb hts iX0_note_X0 hown hK.1 hP 12 rfl rfl 0 (by decide) (hts _ qX0_note_11) (fun _ h9 => h9) rfl dX0_note_58 ?_
          refine lv_aload_n hx hb dX0_note_61 rfl (lv_at hl 0 rfl) ?_
          refine va_get (D := D) (ci := 0) (v := .int (g 0 4)) (C := RX0) (T := TX0) (N := 4) hx hb hts iX0_note_X0 hown hK.1 hP 12 rfl rfl 3 (by decide) (hts _ qX0_note_21) (fun _ h9 => h9) rfl dX0_note_62 ?_
          refine lv_iload_n hx hb dX0_note_65 rfl (lv_at hl 1 rfl) ?_
          obtain ⟨b3, hf⟩ := z_ckE hf
          refine va_iast hx hb hK.1 hP hD hS 13 0 rfl rfl (z_inE b3) dX0_note_66 (fun H locs hP hD hS => ?_)
          obtain ⟨g4, e4, hf⟩ := z_ltE hf
          have hP : va_P D vwCl (z_st c a g4) H := by rw [e4]; exact hP
          have hD : va_D A (z_st c a g4) := by rw [e4]; exact hD
          clear e4
          refine lv_aload_n hx hb dX0_note_67 rfl (lv_at hl 0 rfl) ?_
          refine va_get (D := D) (ci := 0) (v := .ref (a 14)) (C := RX0) (T := TX0) (N := 4) hx hb hts iX0_note_X0 hown hK.1 hP 12 rfl rfl 1 (by decide) (hts _ qX0_note_15) (fun _ h9 => h9) rfl dX0_note_68 ?_
          refine lv_aload_n hx hb dX0_note_71 rfl (lv_at hl 0 rfl) ?_
          refine va_get (D := D) (ci := 0) (v := .int (g4 0 4)) (C := RX0) (T := TX0) (N := 4) hx hb hts iX0_note_X0 hown hK.1 hP 12 rfl rfl 3 (by decide) (hts _ qX0_note_21) (fun _ h9 => h9) rfl dX0_note_72 ?_
          refine lv_iload_n hx hb dX0_note_75 rfl (lv_at hl 2 rfl) ?_
          obtain ⟨b5, hf⟩ := z_ckE hf
          refine va_iast hx hb hK.1 hP hD hS 14 0 rfl rfl (z_inE b5) dX0_note_76 (fun H locs hP hD hS => ?_)
          obtain ⟨g6, e6, hf⟩ := z_ltE hf
          have hP : va_P D vwCl (z_st c a g6) H := by rw [e6]; exact hP
          have hD : va_D A (z_st c a g6) := by rw [e6]; exact hD
          clear e6
          refine lv_aload_n hx hb dX0_note_77 rfl (lv_at hl 0 rfl) ?_
          refine va_get (D := D) (ci := 0) (v := .ref (a 15)) (C := RX0) (T := TX0) (N := 4) hx hb hts iX0_note_X0 hown hK.1 hP 12 rfl rfl 2 (by decide) (hts _ qX0_note_18) (fun _ h9 => h9) rfl dX0_note_78 ?_
          refine lv_aload_n hx hb dX0_note_81 rfl (lv_at hl 0 rfl) ?_
          refine va_get (D := D) (ci := 0) (v := .int (g6 0 4)) (C := RX0) (T := TX0) (N := 4) hx hb hts iX0_note_X0 hown hK.1 hP 12 rfl rfl 3 (by decide) (hts _ qX0_note_21) (fun _ h9 => h9) rfl dX0_note_82 ?_
          refine lv_iconst (v := (1 : Int32)) hx hb dX0_note_85 (by decide) ?_
          obtain ⟨b7, hf⟩ := z_ckE hf
          refine va_iast hx hb hK.1 hP hD hS 15 0 rfl rfl (z_inE b7) dX0_note_86 (fun H locs hP hD hS => ?_)
          obtain ⟨g8, e8, hf⟩ := z_ltE hf
          have hP : va_P D vwCl (z_st c a g8) H := by rw [e8]; exact hP
          have hD : va_D A (z_st c a g8) := by rw [e8]; exact hD
          clear e8
          refine lv_aload_n hx hb dX0_note_87 rfl (lv_at hl 0 rfl) ?_
          refine lv_dup hx hb dX0_note_88 rfl ?_
          refine va_get (D := D) (ci := 0) (v := .int (g8 0 4)) (C := RX0) (T := TX0) (N := 4) hx hb hts iX0_note_X0 hown hK.1 hP 12 rfl rfl 3 (by decide) (hts _ qX0_note_21) (fun _ h9 => h9) rfl dX0_note_89 ?_
          refine lv_iconst (v := (1 : Int32)) hx hb dX0_note_92 (by decide) ?_
          refine lv_iadd hx hb dX0_note_93 ?_
          refine va_put (D := D) (ci := 0) (v := .int ((g8 0 4) + (1 : Int32))) (ty := .int) (C := RX0) (T := TX0) (N := 4) hx hb hts iX0_note_X0 tyX0 tyX0_ok nmX0 hown hK.1 hP hD hS 12 rfl rfl 3 (by decide) (hts _ qX0_note_21) (fun _ h9 => h9) rfl (by decide +kernel) rfl rfl (Nat.le_of_ble_eq_true rfl) dX0_note_94 (fun H locs hP hD hS => ?_)
          obtain ⟨g9, e9, hf⟩ := z_ltE hf
          have hP : va_P D vwCl (z_st c a g9) H := by rw [e9]; exact hP
          have hD : va_D A (z_st c a g9) := by rw [e9]; exact hD
          clear e9
          exact z_rv (wf := (z_st c a)) hx hb hr hlocks hP hD hS hf dX0_note_97
      · have hf := z_ifF hf c1
        refine lv_aload_n hx hb dX0_note_10 rfl (lv_at hl 0 rfl) ?_
        refine va_get (D := D) (ci := 0) (v := .ref (a 13)) (C := RX0) (T := TX0) (N := 4) hx hb hts iX0_note_X0 hown hK.1 hP 12 rfl rfl 0 (by decide) (hts _ qX0_note_11) (fun _ h9 => h9) rfl dX0_note_11 ?_
        refine lv_iload_n hx hb dX0_note_14 rfl (lv_at hl 3 rfl) ?_
        obtain ⟨b10, hf⟩ := z_ckE hf
        refine va_iald hx hb hK.1 hP 13 0 rfl rfl (z_inE b10) dX0_note_15 ?_
        refine lv_iload_n hx hb dX0_note_16 rfl (lv_at hl 1 rfl) ?_
        refine lv_icmp_ne (tgt := 41) hx hb dX0_note_17 (by decide) (fun c11 => ?_) (fun c11 => ?_)
        · have hf := z_ifF hf c11
          refine lv_iinc (v := (x3 + (1 : Int32))) (lv' := [(3, .int (x3 + (1 : Int32))), (0, .ref (a 12)), (1, .int x1), (2, .int x2)]) hx hb dX0_note_41 hl (k := 3) rfl rfl (by decide) rfl (fun ls hl => ?_)
          refine lv_goto (tgt := 2) hx hb dX0_note_44 (by decide) ?_
          exact ih _ hf H locs ls hP hD hS (lv_sub hl [1, 2, 3, 0] rfl)
        · have hf := z_ifT hf c11
          refine lv_aload_n hx hb dX0_note_20 rfl (lv_at hl 0 rfl) ?_
          refine va_get (D := D) (ci := 0) (v := .ref (a 14)) (C := RX0) (T := TX0) (N := 4) hx hb hts iX0_note_X0 hown hK.1 hP 12 rfl rfl 1 (by decide) (hts _ qX0_note_15) (fun _ h9 => h9) rfl dX0_note_21 ?_
          refine lv_iload_n hx hb dX0_note_24 rfl (lv_at hl 3 rfl) ?_
          obtain ⟨b12, hf⟩ := z_ckE hf
          refine va_iald hx hb hK.1 hP 14 0 rfl rfl (z_inE b12) dX0_note_25 ?_
          refine lv_iload_n hx hb dX0_note_26 rfl (lv_at hl 2 rfl) ?_
          refine lv_icmp_ne (tgt := 41) hx hb dX0_note_27 (by decide) (fun c13 => ?_) (fun c13 => ?_)
          · have hf := z_ifF hf c13
            refine lv_iinc (v := (x3 + (1 : Int32))) (lv' := [(3, .int (x3 + (1 : Int32))), (0, .ref (a 12)), (1, .int x1), (2, .int x2)]) hx hb dX0_note_41 hl (k := 3) rfl rfl (by decide) rfl (fun ls hl => ?_)
            refine lv_goto (tgt := 2) hx hb dX0_note_44 (by decide) ?_
            exact ih _ hf H locs ls hP hD hS (lv_sub hl [1, 2, 3, 0] rfl)
          · have hf := z_ifT hf c13
            refine lv_aload_n hx hb dX0_note_30 rfl (lv_at hl 0 rfl) ?_
            refine va_get (D := D) (ci := 0) (v := .ref (a 15)) (C := RX0) (T := TX0) (N := 4) hx hb hts iX0_note_X0 hown hK.1 hP 12 rfl rfl 2 (by decide) (hts _ qX0_note_18) (fun _ h9 => h9) rfl dX0_note_31 ?_
            refine lv_iload_n hx hb dX0_note_34 rfl (lv_at hl 3 rfl) ?_
            refine lv_dup2_11 hx hb dX0_note_35 rfl rfl ?_
            obtain ⟨b14, hf⟩ := z_ckE hf
            refine va_iald hx hb hK.1 hP 15 0 rfl rfl (z_inE b14) dX0_note_36 ?_
            refine lv_iconst (v := (1 : Int32)) hx hb dX0_note_37 (by decide) ?_
            refine lv_iadd hx hb dX0_note_38 ?_
            obtain ⟨b15, hf⟩ := z_ckE hf
            refine va_iast hx hb hK.1 hP hD hS 15 0 rfl rfl (z_inE b15) dX0_note_39 (fun H locs hP hD hS => ?_)
            obtain ⟨g16, e16, hf⟩ := z_ltE hf
            have hP : va_P D vwCl (z_st c a g16) H := by rw [e16]; exact hP
            have hD : va_D A (z_st c a g16) := by rw [e16]; exact hD
            clear e16
            exact z_rv (wf := (z_st c a)) hx hb hr hlocks hP hD hS hf dX0_note_40
  unfold fX0_note at hf
  generalize ([] : List Loc) = locs at hS ⊢
  refine lv_iconst (v := (0 : Int32)) hx hb dX0_note_0 (by decide) ?_
  refine lv_istore_n (lv' := [(3, .int (0 : Int32)), (0, .ref (a 12)), (1, .int p1), (2, .int p2)]) hx hb dX0_note_1 rfl hl (by decide) rfl (fun ls hl => ?_)
  exact L2 _ _ _ N _ hf H locs ls hP hD hS (lv_sub hl [1, 2, 3, 0] rfl)
abbrev rmX0_number : Room := { frames := 0, cells := 0, slots := 0, locals := 0 }
theorem qX0_number_21 : Cond.fieldLink RX0 21 "ProgramDrum$Jumps" "size" "I" ∈ wsX0_number := by decide +kernel
theorem iX0_number_X0 : ∀ w ∈ wsX00, w ∈ wsX0_number := by decide +kernel
theorem qX0_number_18 : Cond.fieldLink RX0 18 "ProgramDrum$Jumps" "times" "[I" ∈ wsX0_number := by decide +kernel
theorem qX0_number_15 : Cond.fieldLink RX0 15 "ProgramDrum$Jumps" "to" "[I" ∈ wsX0_number := by decide +kernel
theorem qX0_number_11 : Cond.fieldLink RX0 11 "ProgramDrum$Jumps" "from" "[I" ∈ wsX0_number := by decide +kernel
set_option maxRecDepth 100000 in
set_option maxHeartbeats 4000000 in
theorem kX0_number (l : Launch) (D : va_G) (c : Nat → ClassId) (N : Nat) (a : Nat → Nat) (sz : Nat) (g : z_R) (p1 : Int32) (p2 : Int32) (r0 : Int32) (hf : fX0_number N p1 p2 g = some r0) : Met l yX0_number wsX0_number rmX0_number (z_Pc D c sz (z_st c a g) [.ref (a 12), .int p1, .int p2]) (z_Qi D (z_st c a) r0 g (va_A (z_st c a g) sz)) 0 0 (va_A (z_st c a g) sz) := by
  refine z_ofM (cc := cX0_number) (maxL := 3) (ret := (some .int)) (Qf := fun A => z_Qi D (z_st c a) r0 g A) (plainFor_of_name (by decide)) rfl (Nat.le_of_ble_eq_true rfl) ?_
  intro p e s m args below meth co A ls hx hb hr hml hts hown hlocks hnm hA hP hK hD hl hsz
  have hl : lv_has ls 3 [(0, .ref (a 12)), (1, .int p1), (2, .int p2)] := hl
  have hown : s.vm.findClass RX0 = some m.cls := hown
  obtain ⟨H, hH⟩ : ∃ H, H = s.heap := ⟨_, rfl⟩
  have hS : va_S A s.heap H [] := by rw [hH]; exact va_S.rf
  rw [← hH] at hP ⊢
  clear hH
  unfold fX0_number at hf
  generalize ([] : List Loc) = locs at hS ⊢
  refine lv_iload_n hx hb dX0_number_0 rfl (lv_at hl 1 rfl) ?_
  refine lv_if_lt (tgt := 12) hx hb dX0_number_1 (by decide) (fun c1 => ?_) (fun c1 => ?_)
  · have hf := z_ifT hf c1
    refine lv_iconst (v := (-1 : Int32)) hx hb dX0_number_12 (by decide) ?_
    exact z_rp (wf := (z_st c a)) hx hb hr hlocks hP hD hS hf dX0_number_13
  · have hf := z_ifF hf c1
    refine lv_iload_n hx hb dX0_number_4 rfl (lv_at hl 1 rfl) ?_
    refine lv_aload_n hx hb dX0_number_5 rfl (lv_at hl 0 rfl) ?_
    refine va_get (D := D) (ci := 0) (v := .int (g 0 4)) (C := RX0) (T := TX0) (N := 4) hx hb hts iX0_number_X0 hown hK.1 hP 12 rfl rfl 3 (by decide) (hts _ qX0_number_21) (fun _ h9 => h9) rfl dX0_number_6 ?_
    refine lv_icmp_lt (tgt := 14) hx hb dX0_number_9 (by decide) (fun c2 => ?_) (fun c2 => ?_)
    · have hf := z_ifT hf c2
      refine lv_iload_n hx hb dX0_number_14 rfl (lv_at hl 2 rfl) ?_
      refine lv_if_ne (tgt := 25) hx hb dX0_number_15 (by decide) (fun c3 => ?_) (fun c3 => ?_)
      · have hf := z_ifF hf c3
        refine lv_iload_n hx hb dX0_number_25 rfl (lv_at hl 2 rfl) ?_
        refine lv_iconst (v := (1 : Int32)) hx hb dX0_number_26 (by decide) ?_
        refine lv_icmp_ne (tgt := 39) hx hb dX0_number_27 (by decide) (fun c4 => ?_) (fun c4 => ?_)
        · have hf := z_ifF hf c4
          refine lv_aload_n hx hb dX0_number_39 rfl (lv_at hl 0 rfl) ?_
          refine va_get (D := D) (ci := 0) (v := .ref (a 15)) (C := RX0) (T := TX0) (N := 4) hx hb hts iX0_number_X0 hown hK.1 hP 12 rfl rfl 2 (by decide) (hts _ qX0_number_18) (fun _ h9 => h9) rfl dX0_number_40 ?_
          refine lv_iload_n hx hb dX0_number_43 rfl (lv_at hl 1 rfl) ?_
          obtain ⟨b5, hf⟩ := z_ckE hf
          refine va_iald hx hb hK.1 hP 15 0 rfl rfl (z_inE b5) dX0_number_44 ?_
          exact z_rp (wf := (z_st c a)) hx hb hr hlocks hP hD hS hf dX0_number_45
        · have hf := z_ifT hf c4
          refine lv_aload_n hx hb dX0_number_30 rfl (lv_at hl 0 rfl) ?_
          refine va_get (D := D) (ci := 0) (v := .ref (a 14)) (C := RX0) (T := TX0) (N := 4) hx hb hts iX0_number_X0 hown hK.1 hP 12 rfl rfl 1 (by decide) (hts _ qX0_number_15) (fun _ h9 => h9) rfl dX0_number_31 ?_
          refine lv_iload_n hx hb dX0_number_34 rfl (lv_at hl 1 rfl) ?_
          obtain ⟨b6, hf⟩ := z_ckE hf
          refine va_iald hx hb hK.1 hP 14 0 rfl rfl (z_inE b6) dX0_number_35 ?_
          refine lv_goto (tgt := 45) hx hb dX0_number_36 (by decide) ?_
          exact z_rp (wf := (z_st c a)) hx hb hr hlocks hP hD hS hf dX0_number_45
      · have hf := z_ifT hf c3
        refine lv_aload_n hx hb dX0_number_18 rfl (lv_at hl 0 rfl) ?_
        refine va_get (D := D) (ci := 0) (v := .ref (a 13)) (C := RX0) (T := TX0) (N := 4) hx hb hts iX0_number_X0 hown hK.1 hP 12 rfl rfl 0 (by decide) (hts _ qX0_number_11) (fun _ h9 => h9) rfl dX0_number_19 ?_
        refine lv_iload_n hx hb dX0_number_22 rfl (lv_at hl 1 rfl) ?_
        obtain ⟨b7, hf⟩ := z_ckE hf
        refine va_iald hx hb hK.1 hP 13 0 rfl rfl (z_inE b7) dX0_number_23 ?_
        exact z_rp (wf := (z_st c a)) hx hb hr hlocks hP hD hS hf dX0_number_24
    · have hf := z_ifF hf c2
      refine lv_iconst (v := (-1 : Int32)) hx hb dX0_number_12 (by decide) ?_
      exact z_rp (wf := (z_st c a)) hx hb hr hlocks hP hD hS hf dX0_number_13
abbrev rmX0_copyFrom : Room := { frames := 0, cells := 0, slots := 0, locals := 0 }
theorem qX0_copyFrom_21 : Cond.fieldLink RX0 21 "ProgramDrum$Jumps" "size" "I" ∈ wsX0_copyFrom := by decide +kernel
theorem iX0_copyFrom_X0 : ∀ w ∈ wsX00, w ∈ wsX0_copyFrom := by decide +kernel
theorem qX0_copyFrom_11 : Cond.fieldLink RX0 11 "ProgramDrum$Jumps" "from" "[I" ∈ wsX0_copyFrom := by decide +kernel
theorem qX0_copyFrom_15 : Cond.fieldLink RX0 15 "ProgramDrum$Jumps" "to" "[I" ∈ wsX0_copyFrom := by decide +kernel
theorem qX0_copyFrom_18 : Cond.fieldLink RX0 18 "ProgramDrum$Jumps" "times" "[I" ∈ wsX0_copyFrom := by decide +kernel
set_option maxRecDepth 100000 in
set_option maxHeartbeats 4000000 in
theorem kX0_copyFrom (l : Launch) (D : va_G) (c : Nat → ClassId) (N : Nat) (a b : Nat → Nat) (sz : Nat) (h : z_R) (g : z_R) (g0 : z_R) (hf : fX0_copyFrom N h g = some g0) : Met l yX0_copyFrom wsX0_copyFrom rmX0_copyFrom (z_Pc D c sz (z_st c a g ++ z_st c b h) [.ref (a 12), .ref (b 12)]) (z_Qv D (fun u : z_R => z_st c a u ++ z_st c b h) g0 (va_A (z_st c a g ++ z_st c b h) sz)) 0 0 (va_A (z_st c a g ++ z_st c b h) sz) := by
  refine z_ofM (cc := cX0_copyFrom) (maxL := 3) (ret := none) (Qf := fun A => z_Qv D (fun u : z_R => z_st c a u ++ z_st c b h) g0 A) (plainFor_of_name (by decide)) rfl (Nat.le_of_ble_eq_true rfl) ?_
  intro p e s m args below meth co A ls hx hb hr hml hts hown hlocks hnm hA hP hK hD hl hsz
  have hl : lv_has ls 3 [(0, .ref (a 12)), (1, .ref (b 12))] := hl
  have hown : s.vm.findClass RX0 = some m.cls := hown
  obtain ⟨H, hH⟩ : ∃ H, H = s.heap := ⟨_, rfl⟩
  have hS : va_S A s.heap H [] := by rw [hH]; exact va_S.rf
  rw [← hH] at hP ⊢
  clear hH
  have L2 : ∀ (fu : Nat) (x2 : Int32) (g : z_R), lX0_copyFrom_2 N h fu x2 g = some g0 → ∀ (H : Heap) (locs : List Loc) (ls : Array Slot), va_P D vwCl (z_st c a g ++ z_st c b h) H → va_D A (z_st c a g ++ z_st c b h) → va_S A s.heap H locs → lv_has ls 3 [(0, .ref (a 12)), (1, .ref (b 12)), (2, .int x2)] → W p l e rmX0_copyFrom s m args below meth co H locs 0 0 (MQ below (z_Qv D (fun u : z_R => z_st c a u ++ z_st c b h) g0 A) args s 0 0 A) (F0 m 2 ls []) := by
    intro fu
    induction fu with
    | zero =>
      intro x2 g hf
      have hf : (none : Option (z_R)) = some _ := hf
      cases hf
    | succ fu ih =>
      intro x2 g hf H locs ls hP hD hS hl
      rw [lX0_copyFrom_2.eq_2] at hf
      refine lv_iload_n hx hb dX0_copyFrom_2 rfl (lv_at hl 2 rfl) ?_
      refine lv_aload_n hx hb dX0_copyFrom_3 rfl (lv_at hl 1 rfl) ?_
      refine va_get (D := D) (ci := 0) (v := .int (h 0 4)) (C := RX0) (T := TX0) (N := 4) hx hb hts iX0_copyFrom_X0 hown hK.1 hP 28 rfl rfl 3 (by decide) (hts _ qX0_copyFrom_21) (fun _ h9 => h9) rfl dX0_copyFrom_4 ?_
      refine lv_icmp_ge (tgt := 52) hx hb dX0_copyFrom_7 (by decide) (fun c1 => ?_) (fun c1 => ?_)
      · have hf := z_ifT hf c1
        refine lv_aload_n hx hb dX0_copyFrom_52 rfl (lv_at hl 0 rfl) ?_
        refine lv_aload_n hx hb dX0_copyFrom_53 rfl (lv_at hl 1 rfl) ?_
        refine va_get (D := D) (ci := 0) (v := .int (h 0 4)) (C := RX0) (T := TX0) (N := 4) hx hb hts iX0_copyFrom_X0 hown hK.1 hP 28 rfl rfl 3 (by decide) (hts _ qX0_copyFrom_21) (fun _ h9 => h9) rfl dX0_copyFrom_54 ?_
        refine va_put (D := D) (ci := 0) (v := .int (h 0 4)) (ty := .int) (C := RX0) (T := TX0) (N := 4) hx hb hts iX0_copyFrom_X0 tyX0 tyX0_ok nmX0 hown hK.1 hP hD hS 12 rfl rfl 3 (by decide) (hts _ qX0_copyFrom_21) (fun _ h9 => h9) rfl (by decide +kernel) rfl rfl (Nat.le_of_ble_eq_true rfl) dX0_copyFrom_57 (fun H locs hP hD hS => ?_)
        obtain ⟨g2, e2, hf⟩ := z_ltE hf
        have hP : va_P D vwCl (z_st c a g2 ++ z_st c b h) H := by rw [e2]; exact hP
        have hD : va_D A (z_st c a g2 ++ z_st c b h) := by rw [e2]; exact hD
        clear e2
        exact z_rv (wf := (fun u : z_R => z_st c a u ++ z_st c b h)) hx hb hr hlocks hP hD hS hf dX0_copyFrom_60
      · have hf := z_ifF hf c1
        refine lv_aload_n hx hb dX0_copyFrom_10 rfl (lv_at hl 0 rfl) ?_
        refine va_get (D := D) (ci := 0) (v := .ref (a 13)) (C := RX0) (T := TX0) (N := 4) hx hb hts iX0_copyFrom_X0 hown hK.1 hP 12 rfl rfl 0 (by decide) (hts _ qX0_copyFrom_11) (fun _ h9 => h9) rfl dX0_copyFrom_11 ?_
        refine lv_iload_n hx hb dX0_copyFrom_14 rfl (lv_at hl 2 rfl) ?_
        refine lv_aload_n hx hb dX0_copyFrom_15 rfl (lv_at hl 1 rfl) ?_
        refine va_get (D := D) (ci := 0) (v := .ref (b 13)) (C := RX0) (T := TX0) (N := 4) hx hb hts iX0_copyFrom_X0 hown hK.1 hP 28 rfl rfl 0 (by decide) (hts _ qX0_copyFrom_11) (fun _ h9 => h9) rfl dX0_copyFrom_16 ?_
        refine lv_iload_n hx hb dX0_copyFrom_19 rfl (lv_at hl 2 rfl) ?_
        obtain ⟨b3, hf⟩ := z_ckE hf
        refine va_iald hx hb hK.1 hP 29 0 rfl rfl (z_inE b3) dX0_copyFrom_20 ?_
        obtain ⟨b4, hf⟩ := z_ckE hf
        refine va_iast hx hb hK.1 hP hD hS 13 0 rfl rfl (z_inE b4) dX0_copyFrom_21 (fun H locs hP hD hS => ?_)
        obtain ⟨g5, e5, hf⟩ := z_ltE hf
        have hP : va_P D vwCl (z_st c a g5 ++ z_st c b h) H := by rw [e5]; exact hP
        have hD : va_D A (z_st c a g5 ++ z_st c b h) := by rw [e5]; exact hD
        clear e5
        refine lv_aload_n hx hb dX0_copyFrom_22 rfl (lv_at hl 0 rfl) ?_
        refine va_get (D := D) (ci := 0) (v := .ref (a 14)) (C := RX0) (T := TX0) (N := 4) hx hb hts iX0_copyFrom_X0 hown hK.1 hP 12 rfl rfl 1 (by decide) (hts _ qX0_copyFrom_15) (fun _ h9 => h9) rfl dX0_copyFrom_23 ?_
        refine lv_iload_n hx hb dX0_copyFrom_26 rfl (lv_at hl 2 rfl) ?_
        refine lv_aload_n hx hb dX0_copyFrom_27 rfl (lv_at hl 1 rfl) ?_
        refine va_get (D := D) (ci := 0) (v := .ref (b 14)) (C := RX0) (T := TX0) (N := 4) hx hb hts iX0_copyFrom_X0 hown hK.1 hP 28 rfl rfl 1 (by decide) (hts _ qX0_copyFrom_15) (fun _ h9 => h9) rfl dX0_copyFrom_28 ?_
        refine lv_iload_n hx hb dX0_copyFrom_31 rfl (lv_at hl 2 rfl) ?_
        obtain ⟨b6, hf⟩ := z_ckE hf
        refine va_iald hx hb hK.1 hP 30 0 rfl rfl (z_inE b6) dX0_copyFrom_32 ?_
        obtain ⟨b7, hf⟩ := z_ckE hf
        refine va_iast hx hb hK.1 hP hD hS 14 0 rfl rfl (z_inE b7) dX0_copyFrom_33 (fun H locs hP hD hS => ?_)
        obtain ⟨g8, e8, hf⟩ := z_ltE hf
        have hP : va_P D vwCl (z_st c a g8 ++ z_st c b h) H := by rw [e8]; exact hP
        have hD : va_D A (z_st c a g8 ++ z_st c b h) := by rw [e8]; exact hD
        clear e8
        refine lv_aload_n hx hb dX0_copyFrom_34 rfl (lv_at hl 0 rfl) ?_
        refine va_get (D := D) (ci := 0) (v := .ref (a 15)) (C := RX0) (T := TX0) (N := 4) hx hb hts iX0_copyFrom_X0 hown hK.1 hP 12 rfl rfl 2 (by decide) (hts _ qX0_copyFrom_18) (fun _ h9 => h9) rfl dX0_copyFrom_35 ?_
        refine lv_iload_n hx hb dX0_copyFrom_38 rfl (lv_at hl 2 rfl) ?_
        refine lv_aload_n hx hb dX0_copyFrom_39 rfl (lv_at hl 1 rfl) ?_
        refine va_get (D := D) (ci := 0) (v := .ref (b 15)) (C := RX0) (T := TX0) (N := 4) hx hb hts iX0_copyFrom_X0 hown hK.1 hP 28 rfl rfl 2 (by decide) (hts _ qX0_copyFrom_18) (fun _ h9 => h9) rfl dX0_copyFrom_40 ?_
        refine lv_iload_n hx hb dX0_copyFrom_43 rfl (lv_at hl 2 rfl) ?_
        obtain ⟨b9, hf⟩ := z_ckE hf
        refine va_iald hx hb hK.1 hP 31 0 rfl rfl (z_inE b9) dX0_copyFrom_44 ?_
        obtain ⟨b10, hf⟩ := z_ckE hf
        refine va_iast hx hb hK.1 hP hD hS 15 0 rfl rfl (z_inE b10) dX0_copyFrom_45 (fun H locs hP hD hS => ?_)
        obtain ⟨g11, e11, hf⟩ := z_ltE hf
        have hP : va_P D vwCl (z_st c a g11 ++ z_st c b h) H := by rw [e11]; exact hP
        have hD : va_D A (z_st c a g11 ++ z_st c b h) := by rw [e11]; exact hD
        clear e11
        refine lv_iinc (v := (x2 + (1 : Int32))) (lv' := [(2, .int (x2 + (1 : Int32))), (0, .ref (a 12)), (1, .ref (b 12))]) hx hb dX0_copyFrom_46 hl (k := 2) rfl rfl (by decide) rfl (fun ls hl => ?_)
        refine lv_goto (tgt := 2) hx hb dX0_copyFrom_49 (by decide) ?_
        exact ih _ _ hf H locs ls hP hD hS (lv_sub hl [1, 2, 0] rfl)
  unfold fX0_copyFrom at hf
  generalize ([] : List Loc) = locs at hS ⊢
  refine lv_iconst (v := (0 : Int32)) hx hb dX0_copyFrom_0 (by decide) ?_
  refine lv_istore_n (lv' := [(2, .int (0 : Int32)), (0, .ref (a 12)), (1, .ref (b 12))]) hx hb dX0_copyFrom_1 rfl hl (by decide) rfl (fun ls hl => ?_)
  exact L2 N _ _ hf H locs ls hP hD hS (lv_sub hl [1, 2, 0] rfl)
abbrev rmX2_copyFrom : Room := { frames := 1, cells := 0, slots := 0, locals := 22 }
theorem qX2_copyFrom_9 : Cond.fieldLink RX2 9 "ProgramDrum$State" "places" "I" ∈ wsX2_copyFrom := by decide +kernel
theorem iX2_copyFrom_X2 : ∀ w ∈ wsX20, w ∈ wsX2_copyFrom := by decide +kernel
theorem qX2_copyFrom_59 : Cond.fieldLink RX2 59 "ProgramDrum$State" "count" "I" ∈ wsX2_copyFrom := by decide +kernel
theorem qX2_copyFrom_62 : Cond.fieldLink RX2 62 "ProgramDrum$State" "tick" "I" ∈ wsX2_copyFrom := by decide +kernel
theorem qX2_copyFrom_15 : Cond.fieldLink RX2 15 "ProgramDrum$State" "lastEnd" "I" ∈ wsX2_copyFrom := by decide +kernel
theorem qX2_copyFrom_18 : Cond.fieldLink RX2 18 "ProgramDrum$State" "author" "[I" ∈ wsX2_copyFrom := by decide +kernel
theorem qX2_copyFrom_22 : Cond.fieldLink RX2 22 "ProgramDrum$State" "work" "[I" ∈ wsX2_copyFrom := by decide +kernel
theorem qX2_copyFrom_25 : Cond.fieldLink RX2 25 "ProgramDrum$State" "next" "[I" ∈ wsX2_copyFrom := by decide +kernel
theorem qX2_copyFrom_28 : Cond.fieldLink RX2 28 "ProgramDrum$State" "expects" "[I" ∈ wsX2_copyFrom := by decide +kernel
theorem qX2_copyFrom_31 : Cond.fieldLink RX2 31 "ProgramDrum$State" "bribe" "[I" ∈ wsX2_copyFrom := by decide +kernel
theorem qX2_copyFrom_34 : Cond.fieldLink RX2 34 "ProgramDrum$State" "place" "[I" ∈ wsX2_copyFrom := by decide +kernel
theorem qX2_copyFrom_37 : Cond.fieldLink RX2 37 "ProgramDrum$State" "delay" "[I" ∈ wsX2_copyFrom := by decide +kernel
theorem qX2_copyFrom_40 : Cond.fieldLink RX2 40 "ProgramDrum$State" "open" "[I" ∈ wsX2_copyFrom := by decide +kernel
theorem qX2_copyFrom_43 : Cond.fieldLink RX2 43 "ProgramDrum$State" "lastWait" "[I" ∈ wsX2_copyFrom := by decide +kernel
theorem qX2_copyFrom_46 : Cond.fieldLink RX2 46 "ProgramDrum$State" "paid" "[I" ∈ wsX2_copyFrom := by decide +kernel
theorem qX2_copyFrom_49 : Cond.fieldLink RX2 49 "ProgramDrum$State" "refunded" "[I" ∈ wsX2_copyFrom := by decide +kernel
theorem qX2_copyFrom_55 : Cond.fieldLink RX2 55 "ProgramDrum$State" "jumps" "LProgramDrum$Jumps;" ∈ wsX2_copyFrom := by decide +kernel
set_option maxRecDepth 100000 in
set_option maxHeartbeats 4000000 in
theorem kX2_copyFrom (l : Launch) (D : va_G) (c : Nat → ClassId) (N : Nat) (a b : Nat → Nat) (sz : Nat) (h : z_R) (g : z_R) (g0 : z_R) (hf : fX2_copyFrom N h g = some g0) : Met l yX2_copyFrom wsX2_copyFrom rmX2_copyFrom (z_Pc D c sz (z_st c a g ++ z_st c b h) [.ref (a 0), .ref (b 0)]) (z_Qv D (fun u : z_R => z_st c a u ++ z_st c b h) g0 (va_A (z_st c a g ++ z_st c b h) sz)) 0 0 (va_A (z_st c a g ++ z_st c b h) sz) := by
  refine z_ofM (cc := cX2_copyFrom) (maxL := 2) (ret := none) (Qf := fun A => z_Qv D (fun u : z_R => z_st c a u ++ z_st c b h) g0 A) (plainFor_of_name (by decide)) rfl (Nat.le_of_ble_eq_true rfl) ?_
  intro p e s m args below meth co A ls hx hb hr hml hts hown hlocks hnm hA hP hK hD hl hsz
  have hl : lv_has ls 2 [(0, .ref (a 0)), (1, .ref (b 0))] := hl
  have hown : s.vm.findClass RX2 = some m.cls := hown
  obtain ⟨H, hH⟩ : ∃ H, H = s.heap := ⟨_, rfl⟩
  have hS : va_S A s.heap H [] := by rw [hH]; exact va_S.rf
  rw [← hH] at hP ⊢
  clear hH
  unfold fX2_copyFrom at hf
  generalize ([] : List Loc) = locs at hS ⊢
  refine lv_aload_n hx hb dX2_copyFrom_0 rfl (lv_at hl 0 rfl) ?_
  refine lv_aload_n hx hb dX2_copyFrom_1 rfl (lv_at hl 1 rfl) ?_
  refine va_get (D := D) (ci := 2) (v := .int (h 0 0)) (C := RX2) (T := TX2) (N := 16) hx hb hts iX2_copyFrom_X2 hown hK.1 hP 16 rfl rfl 0 (by decide) (hts _ qX2_copyFrom_9) (fun _ h9 => h9) rfl dX2_copyFrom_2 ?_
  refine va_put (D := D) (ci := 2) (v := .int (h 0 0)) (ty := .int) (C := RX2) (T := TX2) (N := 16) hx hb hts iX2_copyFrom_X2 tyX2 tyX2_ok nmX2 hown hK.1 hP hD hS 0 rfl rfl 0 (by decide) (hts _ qX2_copyFrom_9) (fun _ h9 => h9) rfl (by decide +kernel) rfl rfl (Nat.le_of_ble_eq_true rfl) dX2_copyFrom_5 (fun H locs hP hD hS => ?_)
  obtain ⟨g1, e1, hf⟩ := z_ltE hf
  have hP : va_P D vwCl (z_st c a g1 ++ z_st c b h) H := by rw [e1]; exact hP
  have hD : va_D A (z_st c a g1 ++ z_st c b h) := by rw [e1]; exact hD
  clear e1
  refine lv_aload_n hx hb dX2_copyFrom_8 rfl (lv_at hl 0 rfl) ?_
  refine lv_aload_n hx hb dX2_copyFrom_9 rfl (lv_at hl 1 rfl) ?_
  refine va_get (D := D) (ci := 2) (v := .int (h 0 1)) (C := RX2) (T := TX2) (N := 16) hx hb hts iX2_copyFrom_X2 hown hK.1 hP 16 rfl rfl 1 (by decide) (hts _ qX2_copyFrom_59) (fun _ h9 => h9) rfl dX2_copyFrom_10 ?_
  refine va_put (D := D) (ci := 2) (v := .int (h 0 1)) (ty := .int) (C := RX2) (T := TX2) (N := 16) hx hb hts iX2_copyFrom_X2 tyX2 tyX2_ok nmX2 hown hK.1 hP hD hS 0 rfl rfl 1 (by decide) (hts _ qX2_copyFrom_59) (fun _ h9 => h9) rfl (by decide +kernel) rfl rfl (Nat.le_of_ble_eq_true rfl) dX2_copyFrom_13 (fun H locs hP hD hS => ?_)
  obtain ⟨g2, e2, hf⟩ := z_ltE hf
  have hP : va_P D vwCl (z_st c a g2 ++ z_st c b h) H := by rw [e2]; exact hP
  have hD : va_D A (z_st c a g2 ++ z_st c b h) := by rw [e2]; exact hD
  clear e2
  refine lv_aload_n hx hb dX2_copyFrom_16 rfl (lv_at hl 0 rfl) ?_
  refine lv_aload_n hx hb dX2_copyFrom_17 rfl (lv_at hl 1 rfl) ?_
  refine va_get (D := D) (ci := 2) (v := .int (h 0 2)) (C := RX2) (T := TX2) (N := 16) hx hb hts iX2_copyFrom_X2 hown hK.1 hP 16 rfl rfl 2 (by decide) (hts _ qX2_copyFrom_62) (fun _ h9 => h9) rfl dX2_copyFrom_18 ?_
  refine va_put (D := D) (ci := 2) (v := .int (h 0 2)) (ty := .int) (C := RX2) (T := TX2) (N := 16) hx hb hts iX2_copyFrom_X2 tyX2 tyX2_ok nmX2 hown hK.1 hP hD hS 0 rfl rfl 2 (by decide) (hts _ qX2_copyFrom_62) (fun _ h9 => h9) rfl (by decide +kernel) rfl rfl (Nat.le_of_ble_eq_true rfl) dX2_copyFrom_21 (fun H locs hP hD hS => ?_)
  obtain ⟨g3, e3, hf⟩ := z_ltE hf
  have hP : va_P D vwCl (z_st c a g3 ++ z_st c b h) H := by rw [e3]; exact hP
  have hD : va_D A (z_st c a g3 ++ z_st c b h) := by rw [e3]; exact hD
  clear e3
  refine lv_aload_n hx hb dX2_copyFrom_24 rfl (lv_at hl 0 rfl) ?_
  refine lv_aload_n hx hb dX2_copyFrom_25 rfl (lv_at hl 1 rfl) ?_
  refine va_get (D := D) (ci := 2) (v := .int (h 0 3)) (C := RX2) (T := TX2) (N := 16) hx hb hts iX2_copyFrom_X2 hown hK.1 hP 16 rfl rfl 3 (by decide) (hts _ qX2_copyFrom_15) (fun _ h9 => h9) rfl dX2_copyFrom_26 ?_
  refine va_put (D := D) (ci := 2) (v := .int (h 0 3)) (ty := .int) (C := RX2) (T := TX2) (N := 16) hx hb hts iX2_copyFrom_X2 tyX2 tyX2_ok nmX2 hown hK.1 hP hD hS 0 rfl rfl 3 (by decide) (hts _ qX2_copyFrom_15) (fun _ h9 => h9) rfl (by decide +kernel) rfl rfl (Nat.le_of_ble_eq_true rfl) dX2_copyFrom_29 (fun H locs hP hD hS => ?_)
  obtain ⟨g4, e4, hf⟩ := z_ltE hf
  have hP : va_P D vwCl (z_st c a g4 ++ z_st c b h) H := by rw [e4]; exact hP
  have hD : va_D A (z_st c a g4 ++ z_st c b h) := by rw [e4]; exact hD
  clear e4
  refine lv_aload_n hx hb dX2_copyFrom_32 rfl (lv_at hl 1 rfl) ?_
  refine va_get (D := D) (ci := 2) (v := .ref (b 1)) (C := RX2) (T := TX2) (N := 16) hx hb hts iX2_copyFrom_X2 hown hK.1 hP 16 rfl rfl 4 (by decide) (hts _ qX2_copyFrom_18) (fun _ h9 => h9) rfl dX2_copyFrom_33 ?_
  refine lv_aload_n hx hb dX2_copyFrom_36 rfl (lv_at hl 0 rfl) ?_
  refine va_get (D := D) (ci := 2) (v := .ref (a 1)) (C := RX2) (T := TX2) (N := 16) hx hb hts iX2_copyFrom_X2 hown hK.1 hP 0 rfl rfl 4 (by decide) (hts _ qX2_copyFrom_18) (fun _ h9 => h9) rfl dX2_copyFrom_37 ?_
  obtain ⟨u5, h5, hf⟩ := z_bE hf
  obtain ⟨g5, e5, hf⟩ := z_ltE hf
  refine z_cSvC (As := [.ref (b 1), .ref (a 1)]) (rest := []) (V := (z_st c a g4 ++ z_st c b h)) (V' := (z_st c a g5 ++ z_st c b h)) (wf := (fun u : Nat → Int32 => z_rr c (b 1) (a 1) 16 (h 1) u)) (g := g4 1) (u0 := u5) ⟨hx, hb, hml, hown, hts⟩ (kX2_copyRow l D c N (b 1) (a 1) 16 H.size  (h 1) (g4 1)  u5 h5) (va_cwS 2 hts gX2_copyFrom_X2_copyRow rfl rfl rfl (by decide +kernel) ⟨Nat.le_of_ble_eq_true rfl, Nat.le_of_ble_eq_true rfl⟩) hP hK hD hS hA [17, 1] [0, 2, 3, 4, 5, 6, 7, 8, 9, 10, 11, 12, 13, 14, 15, 16, 18, 19, 20, 21, 22, 23, 24, 25, 26, 27, 28, 29, 30, 31] [0, 31, 1, 2, 3, 4, 5, 6, 7, 8, 9, 10, 11, 12, 13, 14, 15, 30, 16, 17, 18, 19, 20, 21, 22, 23, 24, 25, 26, 27, 28, 29] rfl rfl (by decide) (by decide) (by decide) (by decide) rfl hl.1 (Nat.le_of_ble_eq_true rfl) rfl dX2_copyFrom_40 ⟨Nat.zero_le _, Nat.zero_le _⟩ (by rw [e5]; rfl) (fun H locs hP hD hS => ?_)
  refine lv_aload_n hx hb dX2_copyFrom_43 rfl (lv_at hl 1 rfl) ?_
  refine va_get (D := D) (ci := 2) (v := .ref (b 2)) (C := RX2) (T := TX2) (N := 16) hx hb hts iX2_copyFrom_X2 hown hK.1 hP 16 rfl rfl 5 (by decide) (hts _ qX2_copyFrom_22) (fun _ h9 => h9) rfl dX2_copyFrom_44 ?_
  refine lv_aload_n hx hb dX2_copyFrom_47 rfl (lv_at hl 0 rfl) ?_
  refine va_get (D := D) (ci := 2) (v := .ref (a 2)) (C := RX2) (T := TX2) (N := 16) hx hb hts iX2_copyFrom_X2 hown hK.1 hP 0 rfl rfl 5 (by decide) (hts _ qX2_copyFrom_22) (fun _ h9 => h9) rfl dX2_copyFrom_48 ?_
  obtain ⟨u6, h6, hf⟩ := z_bE hf
  obtain ⟨g6, e6, hf⟩ := z_ltE hf
  refine z_cSvC (As := [.ref (b 2), .ref (a 2)]) (rest := []) (V := (z_st c a g5 ++ z_st c b h)) (V' := (z_st c a g6 ++ z_st c b h)) (wf := (fun u : Nat → Int32 => z_rr c (b 2) (a 2) 16 (h 2) u)) (g := g5 2) (u0 := u6) ⟨hx, hb, hml, hown, hts⟩ (kX2_copyRow l D c N (b 2) (a 2) 16 H.size  (h 2) (g5 2)  u6 h6) (va_cwS 2 hts gX2_copyFrom_X2_copyRow rfl rfl rfl (by decide +kernel) ⟨Nat.le_of_ble_eq_true rfl, Nat.le_of_ble_eq_true rfl⟩) hP hK hD hS hA [18, 2] [0, 1, 3, 4, 5, 6, 7, 8, 9, 10, 11, 12, 13, 14, 15, 16, 17, 19, 20, 21, 22, 23, 24, 25, 26, 27, 28, 29, 30, 31] [0, 1, 31, 2, 3, 4, 5, 6, 7, 8, 9, 10, 11, 12, 13, 14, 15, 16, 30, 17, 18, 19, 20, 21, 22, 23, 24, 25, 26, 27, 28, 29] rfl rfl (by decide) (by decide) (by decide) (by decide) rfl hl.1 (Nat.le_of_ble_eq_true rfl) rfl dX2_copyFrom_51 ⟨Nat.zero_le _, Nat.zero_le _⟩ (by rw [e6]; rfl) (fun H locs hP hD hS => ?_)
  refine lv_aload_n hx hb dX2_copyFrom_54 rfl (lv_at hl 1 rfl) ?_
  refine va_get (D := D) (ci := 2) (v := .ref (b 3)) (C := RX2) (T := TX2) (N := 16) hx hb hts iX2_copyFrom_X2 hown hK.1 hP 16 rfl rfl 6 (by decide) (hts _ qX2_copyFrom_25) (fun _ h9 => h9) rfl dX2_copyFrom_55 ?_
  refine lv_aload_n hx hb dX2_copyFrom_58 rfl (lv_at hl 0 rfl) ?_
  refine va_get (D := D) (ci := 2) (v := .ref (a 3)) (C := RX2) (T := TX2) (N := 16) hx hb hts iX2_copyFrom_X2 hown hK.1 hP 0 rfl rfl 6 (by decide) (hts _ qX2_copyFrom_25) (fun _ h9 => h9) rfl dX2_copyFrom_59 ?_
  obtain ⟨u7, h7, hf⟩ := z_bE hf
  obtain ⟨g7, e7, hf⟩ := z_ltE hf
  refine z_cSvC (As := [.ref (b 3), .ref (a 3)]) (rest := []) (V := (z_st c a g6 ++ z_st c b h)) (V' := (z_st c a g7 ++ z_st c b h)) (wf := (fun u : Nat → Int32 => z_rr c (b 3) (a 3) 16 (h 3) u)) (g := g6 3) (u0 := u7) ⟨hx, hb, hml, hown, hts⟩ (kX2_copyRow l D c N (b 3) (a 3) 16 H.size  (h 3) (g6 3)  u7 h7) (va_cwS 2 hts gX2_copyFrom_X2_copyRow rfl rfl rfl (by decide +kernel) ⟨Nat.le_of_ble_eq_true rfl, Nat.le_of_ble_eq_true rfl⟩) hP hK hD hS hA [19, 3] [0, 1, 2, 4, 5, 6, 7, 8, 9, 10, 11, 12, 13, 14, 15, 16, 17, 18, 20, 21, 22, 23, 24, 25, 26, 27, 28, 29, 30, 31] [0, 1, 2, 31, 3, 4, 5, 6, 7, 8, 9, 10, 11, 12, 13, 14, 15, 16, 17, 30, 18, 19, 20, 21, 22, 23, 24, 25, 26, 27, 28, 29] rfl rfl (by decide) (by decide) (by decide) (by decide) rfl hl.1 (Nat.le_of_ble_eq_true rfl) rfl dX2_copyFrom_62 ⟨Nat.zero_le _, Nat.zero_le _⟩ (by rw [e7]; rfl) (fun H locs hP hD hS => ?_)
  refine lv_aload_n hx hb dX2_copyFrom_65 rfl (lv_at hl 1 rfl) ?_
  refine va_get (D := D) (ci := 2) (v := .ref (b 4)) (C := RX2) (T := TX2) (N := 16) hx hb hts iX2_copyFrom_X2 hown hK.1 hP 16 rfl rfl 7 (by decide) (hts _ qX2_copyFrom_28) (fun _ h9 => h9) rfl dX2_copyFrom_66 ?_
  refine lv_aload_n hx hb dX2_copyFrom_69 rfl (lv_at hl 0 rfl) ?_
  refine va_get (D := D) (ci := 2) (v := .ref (a 4)) (C := RX2) (T := TX2) (N := 16) hx hb hts iX2_copyFrom_X2 hown hK.1 hP 0 rfl rfl 7 (by decide) (hts _ qX2_copyFrom_28) (fun _ h9 => h9) rfl dX2_copyFrom_70 ?_
  obtain ⟨u8, h8, hf⟩ := z_bE hf
  obtain ⟨g8, e8, hf⟩ := z_ltE hf
  refine z_cSvC (As := [.ref (b 4), .ref (a 4)]) (rest := []) (V := (z_st c a g7 ++ z_st c b h)) (V' := (z_st c a g8 ++ z_st c b h)) (wf := (fun u : Nat → Int32 => z_rr c (b 4) (a 4) 16 (h 4) u)) (g := g7 4) (u0 := u8) ⟨hx, hb, hml, hown, hts⟩ (kX2_copyRow l D c N (b 4) (a 4) 16 H.size  (h 4) (g7 4)  u8 h8) (va_cwS 2 hts gX2_copyFrom_X2_copyRow rfl rfl rfl (by decide +kernel) ⟨Nat.le_of_ble_eq_true rfl, Nat.le_of_ble_eq_true rfl⟩) hP hK hD hS hA [20, 4] [0, 1, 2, 3, 5, 6, 7, 8, 9, 10, 11, 12, 13, 14, 15, 16, 17, 18, 19, 21, 22, 23, 24, 25, 26, 27, 28, 29, 30, 31] [0, 1, 2, 3, 31, 4, 5, 6, 7, 8, 9, 10, 11, 12, 13, 14, 15, 16, 17, 18, 30, 19, 20, 21, 22, 23, 24, 25, 26, 27, 28, 29] rfl rfl (by decide) (by decide) (by decide) (by decide) rfl hl.1 (Nat.le_of_ble_eq_true rfl) rfl dX2_copyFrom_73 ⟨Nat.zero_le _, Nat.zero_le _⟩ (by rw [e8]; rfl) (fun H locs hP hD hS => ?_)
  refine lv_aload_n hx hb dX2_copyFrom_76 rfl (lv_at hl 1 rfl) ?_
  refine va_get (D := D) (ci := 2) (v := .ref (b 5)) (C := RX2) (T := TX2) (N := 16) hx hb hts iX2_copyFrom_X2 hown hK.1 hP 16 rfl rfl 8 (by decide) (hts _ qX2_copyFrom_31) (fun _ h9 => h9) rfl dX2_copyFrom_77 ?_
  refine lv_aload_n hx hb dX2_copyFrom_80 rfl (lv_at hl 0 rfl) ?_
  refine va_get (D := D) (ci := 2) (v := .ref (a 5)) (C := RX2) (T := TX2) (N := 16) hx hb hts iX2_copyFrom_X2 hown hK.1 hP 0 rfl rfl 8 (by decide) (hts _ qX2_copyFrom_31) (fun _ h9 => h9) rfl dX2_copyFrom_81 ?_
  obtain ⟨u9, h9, hf⟩ := z_bE hf
  obtain ⟨g9, e9, hf⟩ := z_ltE hf
  refine z_cSvC (As := [.ref (b 5), .ref (a 5)]) (rest := []) (V := (z_st c a g8 ++ z_st c b h)) (V' := (z_st c a g9 ++ z_st c b h)) (wf := (fun u : Nat → Int32 => z_rr c (b 5) (a 5) 16 (h 5) u)) (g := g8 5) (u0 := u9) ⟨hx, hb, hml, hown, hts⟩ (kX2_copyRow l D c N (b 5) (a 5) 16 H.size  (h 5) (g8 5)  u9 h9) (va_cwS 2 hts gX2_copyFrom_X2_copyRow rfl rfl rfl (by decide +kernel) ⟨Nat.le_of_ble_eq_true rfl, Nat.le_of_ble_eq_true rfl⟩) hP hK hD hS hA [21, 5] [0, 1, 2, 3, 4, 6, 7, 8, 9, 10, 11, 12, 13, 14, 15, 16, 17, 18, 19, 20, 22, 23, 24, 25, 26, 27, 28, 29, 30, 31] [0, 1, 2, 3, 4, 31, 5, 6, 7, 8, 9, 10, 11, 12, 13, 14, 15, 16, 17, 18, 19, 30, 20, 21, 22, 23, 24, 25, 26, 27, 28, 29] rfl rfl (by decide) (by decide) (by decide) (by decide) rfl hl.1 (Nat.le_of_ble_eq_true rfl) rfl dX2_copyFrom_84 ⟨Nat.zero_le _, Nat.zero_le _⟩ (by rw [e9]; rfl) (fun H locs hP hD hS => ?_)
  refine lv_aload_n hx hb dX2_copyFrom_87 rfl (lv_at hl 1 rfl) ?_
  refine va_get (D := D) (ci := 2) (v := .ref (b 6)) (C := RX2) (T := TX2) (N := 16) hx hb hts iX2_copyFrom_X2 hown hK.1 hP 16 rfl rfl 9 (by decide) (hts _ qX2_copyFrom_34) (fun _ h9 => h9) rfl dX2_copyFrom_88 ?_
  refine lv_aload_n hx hb dX2_copyFrom_91 rfl (lv_at hl 0 rfl) ?_
  refine va_get (D := D) (ci := 2) (v := .ref (a 6)) (C := RX2) (T := TX2) (N := 16) hx hb hts iX2_copyFrom_X2 hown hK.1 hP 0 rfl rfl 9 (by decide) (hts _ qX2_copyFrom_34) (fun _ h9 => h9) rfl dX2_copyFrom_92 ?_
  obtain ⟨u10, h10, hf⟩ := z_bE hf
  obtain ⟨g10, e10, hf⟩ := z_ltE hf
  refine z_cSvC (As := [.ref (b 6), .ref (a 6)]) (rest := []) (V := (z_st c a g9 ++ z_st c b h)) (V' := (z_st c a g10 ++ z_st c b h)) (wf := (fun u : Nat → Int32 => z_rr c (b 6) (a 6) 16 (h 6) u)) (g := g9 6) (u0 := u10) ⟨hx, hb, hml, hown, hts⟩ (kX2_copyRow l D c N (b 6) (a 6) 16 H.size  (h 6) (g9 6)  u10 h10) (va_cwS 2 hts gX2_copyFrom_X2_copyRow rfl rfl rfl (by decide +kernel) ⟨Nat.le_of_ble_eq_true rfl, Nat.le_of_ble_eq_true rfl⟩) hP hK hD hS hA [22, 6] [0, 1, 2, 3, 4, 5, 7, 8, 9, 10, 11, 12, 13, 14, 15, 16, 17, 18, 19, 20, 21, 23, 24, 25, 26, 27, 28, 29, 30, 31] [0, 1, 2, 3, 4, 5, 31, 6, 7, 8, 9, 10, 11, 12, 13, 14, 15, 16, 17, 18, 19, 20, 30, 21, 22, 23, 24, 25, 26, 27, 28, 29] rfl rfl (by decide) (by decide) (by decide) (by decide) rfl hl.1 (Nat.le_of_ble_eq_true rfl) rfl dX2_copyFrom_95 ⟨Nat.zero_le _, Nat.zero_le _⟩ (by rw [e10]; rfl) (fun H locs hP hD hS => ?_)
  refine lv_aload_n hx hb dX2_copyFrom_98 rfl (lv_at hl 1 rfl) ?_
  refine va_get (D := D) (ci := 2) (v := .ref (b 7)) (C := RX2) (T := TX2) (N := 16) hx hb hts iX2_copyFrom_X2 hown hK.1 hP 16 rfl rfl 10 (by decide) (hts _ qX2_copyFrom_37) (fun _ h9 => h9) rfl dX2_copyFrom_99 ?_
  refine lv_aload_n hx hb dX2_copyFrom_102 rfl (lv_at hl 0 rfl) ?_
  refine va_get (D := D) (ci := 2) (v := .ref (a 7)) (C := RX2) (T := TX2) (N := 16) hx hb hts iX2_copyFrom_X2 hown hK.1 hP 0 rfl rfl 10 (by decide) (hts _ qX2_copyFrom_37) (fun _ h9 => h9) rfl dX2_copyFrom_103 ?_
  obtain ⟨u11, h11, hf⟩ := z_bE hf
  obtain ⟨g11, e11, hf⟩ := z_ltE hf
  refine z_cSvC (As := [.ref (b 7), .ref (a 7)]) (rest := []) (V := (z_st c a g10 ++ z_st c b h)) (V' := (z_st c a g11 ++ z_st c b h)) (wf := (fun u : Nat → Int32 => z_rr c (b 7) (a 7) 16 (h 7) u)) (g := g10 7) (u0 := u11) ⟨hx, hb, hml, hown, hts⟩ (kX2_copyRow l D c N (b 7) (a 7) 16 H.size  (h 7) (g10 7)  u11 h11) (va_cwS 2 hts gX2_copyFrom_X2_copyRow rfl rfl rfl (by decide +kernel) ⟨Nat.le_of_ble_eq_true rfl, Nat.le_of_ble_eq_true rfl⟩) hP hK hD hS hA [23, 7] [0, 1, 2, 3, 4, 5, 6, 8, 9, 10, 11, 12, 13, 14, 15, 16, 17, 18, 19, 20, 21, 22, 24, 25, 26, 27, 28, 29, 30, 31] [0, 1, 2, 3, 4, 5, 6, 31, 7, 8, 9, 10, 11, 12, 13, 14, 15, 16, 17, 18, 19, 20, 21, 30, 22, 23, 24, 25, 26, 27, 28, 29] rfl rfl (by decide) (by decide) (by decide) (by decide) rfl hl.1 (Nat.le_of_ble_eq_true rfl) rfl dX2_copyFrom_106 ⟨Nat.zero_le _, Nat.zero_le _⟩ (by rw [e11]; rfl) (fun H locs hP hD hS => ?_)
  refine lv_aload_n hx hb dX2_copyFrom_109 rfl (lv_at hl 1 rfl) ?_
  refine va_get (D := D) (ci := 2) (v := .ref (b 8)) (C := RX2) (T := TX2) (N := 16) hx hb hts iX2_copyFrom_X2 hown hK.1 hP 16 rfl rfl 11 (by decide) (hts _ qX2_copyFrom_40) (fun _ h9 => h9) rfl dX2_copyFrom_110 ?_
  refine lv_aload_n hx hb dX2_copyFrom_113 rfl (lv_at hl 0 rfl) ?_
  refine va_get (D := D) (ci := 2) (v := .ref (a 8)) (C := RX2) (T := TX2) (N := 16) hx hb hts iX2_copyFrom_X2 hown hK.1 hP 0 rfl rfl 11 (by decide) (hts _ qX2_copyFrom_40) (fun _ h9 => h9) rfl dX2_copyFrom_114 ?_
  obtain ⟨u12, h12, hf⟩ := z_bE hf
  obtain ⟨g12, e12, hf⟩ := z_ltE hf
  refine z_cSvC (As := [.ref (b 8), .ref (a 8)]) (rest := []) (V := (z_st c a g11 ++ z_st c b h)) (V' := (z_st c a g12 ++ z_st c b h)) (wf := (fun u : Nat → Int32 => z_rr c (b 8) (a 8) 16 (h 8) u)) (g := g11 8) (u0 := u12) ⟨hx, hb, hml, hown, hts⟩ (kX2_copyRow l D c N (b 8) (a 8) 16 H.size  (h 8) (g11 8)  u12 h12) (va_cwS 2 hts gX2_copyFrom_X2_copyRow rfl rfl rfl (by decide +kernel) ⟨Nat.le_of_ble_eq_true rfl, Nat.le_of_ble_eq_true rfl⟩) hP hK hD hS hA [24, 8] [0, 1, 2, 3, 4, 5, 6, 7, 9, 10, 11, 12, 13, 14, 15, 16, 17, 18, 19, 20, 21, 22, 23, 25, 26, 27, 28, 29, 30, 31] [0, 1, 2, 3, 4, 5, 6, 7, 31, 8, 9, 10, 11, 12, 13, 14, 15, 16, 17, 18, 19, 20, 21, 22, 30, 23, 24, 25, 26, 27, 28, 29] rfl rfl (by decide) (by decide) (by decide) (by decide) rfl hl.1 (Nat.le_of_ble_eq_true rfl) rfl dX2_copyFrom_117 ⟨Nat.zero_le _, Nat.zero_le _⟩ (by rw [e12]; rfl) (fun H locs hP hD hS => ?_)
  refine lv_aload_n hx hb dX2_copyFrom_120 rfl (lv_at hl 1 rfl) ?_
  refine va_get (D := D) (ci := 2) (v := .ref (b 9)) (C := RX2) (T := TX2) (N := 16) hx hb hts iX2_copyFrom_X2 hown hK.1 hP 16 rfl rfl 12 (by decide) (hts _ qX2_copyFrom_43) (fun _ h9 => h9) rfl dX2_copyFrom_121 ?_
  refine lv_aload_n hx hb dX2_copyFrom_124 rfl (lv_at hl 0 rfl) ?_
  refine va_get (D := D) (ci := 2) (v := .ref (a 9)) (C := RX2) (T := TX2) (N := 16) hx hb hts iX2_copyFrom_X2 hown hK.1 hP 0 rfl rfl 12 (by decide) (hts _ qX2_copyFrom_43) (fun _ h9 => h9) rfl dX2_copyFrom_125 ?_
  obtain ⟨u13, h13, hf⟩ := z_bE hf
  obtain ⟨g13, e13, hf⟩ := z_ltE hf
  refine z_cSvC (As := [.ref (b 9), .ref (a 9)]) (rest := []) (V := (z_st c a g12 ++ z_st c b h)) (V' := (z_st c a g13 ++ z_st c b h)) (wf := (fun u : Nat → Int32 => z_rr c (b 9) (a 9) 16 (h 9) u)) (g := g12 9) (u0 := u13) ⟨hx, hb, hml, hown, hts⟩ (kX2_copyRow l D c N (b 9) (a 9) 16 H.size  (h 9) (g12 9)  u13 h13) (va_cwS 2 hts gX2_copyFrom_X2_copyRow rfl rfl rfl (by decide +kernel) ⟨Nat.le_of_ble_eq_true rfl, Nat.le_of_ble_eq_true rfl⟩) hP hK hD hS hA [25, 9] [0, 1, 2, 3, 4, 5, 6, 7, 8, 10, 11, 12, 13, 14, 15, 16, 17, 18, 19, 20, 21, 22, 23, 24, 26, 27, 28, 29, 30, 31] [0, 1, 2, 3, 4, 5, 6, 7, 8, 31, 9, 10, 11, 12, 13, 14, 15, 16, 17, 18, 19, 20, 21, 22, 23, 30, 24, 25, 26, 27, 28, 29] rfl rfl (by decide) (by decide) (by decide) (by decide) rfl hl.1 (Nat.le_of_ble_eq_true rfl) rfl dX2_copyFrom_128 ⟨Nat.zero_le _, Nat.zero_le _⟩ (by rw [e13]; rfl) (fun H locs hP hD hS => ?_)
  refine lv_aload_n hx hb dX2_copyFrom_131 rfl (lv_at hl 1 rfl) ?_
  refine va_get (D := D) (ci := 2) (v := .ref (b 10)) (C := RX2) (T := TX2) (N := 16) hx hb hts iX2_copyFrom_X2 hown hK.1 hP 16 rfl rfl 13 (by decide) (hts _ qX2_copyFrom_46) (fun _ h9 => h9) rfl dX2_copyFrom_132 ?_
  refine lv_aload_n hx hb dX2_copyFrom_135 rfl (lv_at hl 0 rfl) ?_
  refine va_get (D := D) (ci := 2) (v := .ref (a 10)) (C := RX2) (T := TX2) (N := 16) hx hb hts iX2_copyFrom_X2 hown hK.1 hP 0 rfl rfl 13 (by decide) (hts _ qX2_copyFrom_46) (fun _ h9 => h9) rfl dX2_copyFrom_136 ?_
  obtain ⟨u14, h14, hf⟩ := z_bE hf
  obtain ⟨g14, e14, hf⟩ := z_ltE hf
  refine z_cSvC (As := [.ref (b 10), .ref (a 10)]) (rest := []) (V := (z_st c a g13 ++ z_st c b h)) (V' := (z_st c a g14 ++ z_st c b h)) (wf := (fun u : Nat → Int32 => z_rr c (b 10) (a 10) 4 (h 10) u)) (g := g13 10) (u0 := u14) ⟨hx, hb, hml, hown, hts⟩ (kX2_copyRow l D c N (b 10) (a 10) 4 H.size  (h 10) (g13 10)  u14 h14) (va_cwS 2 hts gX2_copyFrom_X2_copyRow rfl rfl rfl (by decide +kernel) ⟨Nat.le_of_ble_eq_true rfl, Nat.le_of_ble_eq_true rfl⟩) hP hK hD hS hA [26, 10] [0, 1, 2, 3, 4, 5, 6, 7, 8, 9, 11, 12, 13, 14, 15, 16, 17, 18, 19, 20, 21, 22, 23, 24, 25, 27, 28, 29, 30, 31] [0, 1, 2, 3, 4, 5, 6, 7, 8, 9, 31, 10, 11, 12, 13, 14, 15, 16, 17, 18, 19, 20, 21, 22, 23, 24, 30, 25, 26, 27, 28, 29] rfl rfl (by decide) (by decide) (by decide) (by decide) rfl hl.1 (Nat.le_of_ble_eq_true rfl) rfl dX2_copyFrom_139 ⟨Nat.zero_le _, Nat.zero_le _⟩ (by rw [e14]; rfl) (fun H locs hP hD hS => ?_)
  refine lv_aload_n hx hb dX2_copyFrom_142 rfl (lv_at hl 1 rfl) ?_
  refine va_get (D := D) (ci := 2) (v := .ref (b 11)) (C := RX2) (T := TX2) (N := 16) hx hb hts iX2_copyFrom_X2 hown hK.1 hP 16 rfl rfl 14 (by decide) (hts _ qX2_copyFrom_49) (fun _ h9 => h9) rfl dX2_copyFrom_143 ?_
  refine lv_aload_n hx hb dX2_copyFrom_146 rfl (lv_at hl 0 rfl) ?_
  refine va_get (D := D) (ci := 2) (v := .ref (a 11)) (C := RX2) (T := TX2) (N := 16) hx hb hts iX2_copyFrom_X2 hown hK.1 hP 0 rfl rfl 14 (by decide) (hts _ qX2_copyFrom_49) (fun _ h9 => h9) rfl dX2_copyFrom_147 ?_
  obtain ⟨u15, h15, hf⟩ := z_bE hf
  obtain ⟨g15, e15, hf⟩ := z_ltE hf
  refine z_cSvC (As := [.ref (b 11), .ref (a 11)]) (rest := []) (V := (z_st c a g14 ++ z_st c b h)) (V' := (z_st c a g15 ++ z_st c b h)) (wf := (fun u : Nat → Int32 => z_rr c (b 11) (a 11) 4 (h 11) u)) (g := g14 11) (u0 := u15) ⟨hx, hb, hml, hown, hts⟩ (kX2_copyRow l D c N (b 11) (a 11) 4 H.size  (h 11) (g14 11)  u15 h15) (va_cwS 2 hts gX2_copyFrom_X2_copyRow rfl rfl rfl (by decide +kernel) ⟨Nat.le_of_ble_eq_true rfl, Nat.le_of_ble_eq_true rfl⟩) hP hK hD hS hA [27, 11] [0, 1, 2, 3, 4, 5, 6, 7, 8, 9, 10, 12, 13, 14, 15, 16, 17, 18, 19, 20, 21, 22, 23, 24, 25, 26, 28, 29, 30, 31] [0, 1, 2, 3, 4, 5, 6, 7, 8, 9, 10, 31, 11, 12, 13, 14, 15, 16, 17, 18, 19, 20, 21, 22, 23, 24, 25, 30, 26, 27, 28, 29] rfl rfl (by decide) (by decide) (by decide) (by decide) rfl hl.1 (Nat.le_of_ble_eq_true rfl) rfl dX2_copyFrom_150 ⟨Nat.zero_le _, Nat.zero_le _⟩ (by rw [e15]; rfl) (fun H locs hP hD hS => ?_)
  refine lv_aload_n hx hb dX2_copyFrom_153 rfl (lv_at hl 0 rfl) ?_
  refine va_get (D := D) (ci := 2) (v := .ref (a 12)) (C := RX2) (T := TX2) (N := 16) hx hb hts iX2_copyFrom_X2 hown hK.1 hP 0 rfl rfl 15 (by decide) (hts _ qX2_copyFrom_55) (fun _ h9 => h9) rfl dX2_copyFrom_154 ?_
  refine lv_aload_n hx hb dX2_copyFrom_157 rfl (lv_at hl 1 rfl) ?_
  refine va_get (D := D) (ci := 2) (v := .ref (b 12)) (C := RX2) (T := TX2) (N := 16) hx hb hts iX2_copyFrom_X2 hown hK.1 hP 16 rfl rfl 15 (by decide) (hts _ qX2_copyFrom_55) (fun _ h9 => h9) rfl dX2_copyFrom_158 ?_
  obtain ⟨g16, h16, hf⟩ := z_bE hf
  refine z_cVv (As := [.ref (b 12)]) (rest := []) (wf := (fun u : z_R => z_st c a u ++ z_st c b h)) (g := g15) (u0 := g16) ⟨hx, hb, hml, hown, hts⟩ (kX0_copyFrom l D c N a b H.size h g15  g16 h16) (cwV 1 hts gX2_copyFrom_X0_copyFrom rfl rfl rfl (by decide +kernel) ⟨Nat.le_of_ble_eq_true rfl, Nat.le_of_ble_eq_true rfl⟩) hP hK hD hS hA (ci := 0) (q0 := 12) rfl rfl rfl rfl hl.1 (Nat.le_of_ble_eq_true rfl) rfl dX2_copyFrom_161 ⟨Nat.zero_le _, Nat.zero_le _⟩ (fun H locs hP hD hS => ?_)
  exact z_rv (wf := (fun u : z_R => z_st c a u ++ z_st c b h)) hx hb hr hlocks hP hD hS hf dX2_copyFrom_164
abbrev rmX2_has : Room := { frames := 0, cells := 0, slots := 0, locals := 0 }
theorem qX2_has_59 : Cond.fieldLink RX2 59 "ProgramDrum$State" "count" "I" ∈ wsX2_has := by decide +kernel
theorem iX2_has_X2 : ∀ w ∈ wsX20, w ∈ wsX2_has := by decide +kernel
set_option maxRecDepth 100000 in
set_option maxHeartbeats 4000000 in
theorem kX2_has (l : Launch) (D : va_G) (c : Nat → ClassId) (N : Nat) (a : Nat → Nat) (sz : Nat) (g : z_R) (p1 : Int32) (r0 : Int32) (hf : fX2_has N p1 g = some r0) : Met l yX2_has wsX2_has rmX2_has (z_Pc D c sz (z_st c a g) [.ref (a 0), .int p1]) (z_Qi D (z_st c a) r0 g (va_A (z_st c a g) sz)) 0 0 (va_A (z_st c a g) sz) := by
  refine z_ofM (cc := cX2_has) (maxL := 2) (ret := (some .boolean)) (Qf := fun A => z_Qi D (z_st c a) r0 g A) (plainFor_of_name (by decide)) rfl (Nat.le_of_ble_eq_true rfl) ?_
  intro p e s m args below meth co A ls hx hb hr hml hts hown hlocks hnm hA hP hK hD hl hsz
  have hl : lv_has ls 2 [(0, .ref (a 0)), (1, .int p1)] := hl
  have hown : s.vm.findClass RX2 = some m.cls := hown
  obtain ⟨H, hH⟩ : ∃ H, H = s.heap := ⟨_, rfl⟩
  have hS : va_S A s.heap H [] := by rw [hH]; exact va_S.rf
  rw [← hH] at hP ⊢
  clear hH
  unfold fX2_has at hf
  generalize ([] : List Loc) = locs at hS ⊢
  refine lv_iload_n hx hb dX2_has_0 rfl (lv_at hl 1 rfl) ?_
  refine lv_if_lt (tgt := 22) hx hb dX2_has_1 (by decide) (fun c1 => ?_) (fun c1 => ?_)
  · have hf := z_ifT hf c1
    refine lv_iconst (v := (0 : Int32)) hx hb dX2_has_22 (by decide) ?_
    exact z_zp (wf := (z_st c a)) hx hb hr rfl hlocks hP hD hS hf dX2_has_23
  · have hf := z_ifF hf c1
    refine lv_iload_n hx hb dX2_has_4 rfl (lv_at hl 1 rfl) ?_
    refine lv_aload_n hx hb dX2_has_5 rfl (lv_at hl 0 rfl) ?_
    refine va_get (D := D) (ci := 2) (v := .int (g 0 1)) (C := RX2) (T := TX2) (N := 16) hx hb hts iX2_has_X2 hown hK.1 hP 0 rfl rfl 1 (by decide) (hts _ qX2_has_59) (fun _ h9 => h9) rfl dX2_has_6 ?_
    refine lv_icmp_ge (tgt := 22) hx hb dX2_has_9 (by decide) (fun c2 => ?_) (fun c2 => ?_)
    · have hf := z_ifT hf c2
      refine lv_iconst (v := (0 : Int32)) hx hb dX2_has_22 (by decide) ?_
      exact z_zp (wf := (z_st c a)) hx hb hr rfl hlocks hP hD hS hf dX2_has_23
    · have hf := z_ifF hf c2
      refine lv_iload_n hx hb dX2_has_12 rfl (lv_at hl 1 rfl) ?_
      refine lv_bipush (v := (16 : Int32)) hx hb dX2_has_13 (by decide) ?_
      refine lv_icmp_ge (tgt := 22) hx hb dX2_has_15 (by decide) (fun c3 => ?_) (fun c3 => ?_)
      · have hf := z_ifT hf c3
        refine lv_iconst (v := (0 : Int32)) hx hb dX2_has_22 (by decide) ?_
        exact z_zp (wf := (z_st c a)) hx hb hr rfl hlocks hP hD hS hf dX2_has_23
      · have hf := z_ifF hf c3
        refine lv_iconst (v := (1 : Int32)) hx hb dX2_has_18 (by decide) ?_
        refine lv_goto (tgt := 23) hx hb dX2_has_19 (by decide) ?_
        exact z_zp (wf := (z_st c a)) hx hb hr rfl hlocks hP hD hS hf dX2_has_23
abbrev rmX2_hasPlace : Room := { frames := 0, cells := 0, slots := 0, locals := 0 }
theorem qX2_hasPlace_9 : Cond.fieldLink RX2 9 "ProgramDrum$State" "places" "I" ∈ wsX2_hasPlace := by decide +kernel
theorem iX2_hasPlace_X2 : ∀ w ∈ wsX20, w ∈ wsX2_hasPlace := by decide +kernel
set_option maxRecDepth 100000 in
set_option maxHeartbeats 4000000 in
theorem kX2_hasPlace (l : Launch) (D : va_G) (c : Nat → ClassId) (N : Nat) (a : Nat → Nat) (sz : Nat) (g : z_R) (p1 : Int32) (r0 : Int32) (hf : fX2_hasPlace N p1 g = some r0) : Met l yX2_hasPlace wsX2_hasPlace rmX2_hasPlace (z_Pc D c sz (z_st c a g) [.ref (a 0), .int p1]) (z_Qi D (z_st c a) r0 g (va_A (z_st c a g) sz)) 0 0 (va_A (z_st c a g) sz) := by
  refine z_ofM (cc := cX2_hasPlace) (maxL := 2) (ret := (some .boolean)) (Qf := fun A => z_Qi D (z_st c a) r0 g A) (plainFor_of_name (by decide)) rfl (Nat.le_of_ble_eq_true rfl) ?_
  intro p e s m args below meth co A ls hx hb hr hml hts hown hlocks hnm hA hP hK hD hl hsz
  have hl : lv_has ls 2 [(0, .ref (a 0)), (1, .int p1)] := hl
  have hown : s.vm.findClass RX2 = some m.cls := hown
  obtain ⟨H, hH⟩ : ∃ H, H = s.heap := ⟨_, rfl⟩
  have hS : va_S A s.heap H [] := by rw [hH]; exact va_S.rf
  rw [← hH] at hP ⊢
  clear hH
  unfold fX2_hasPlace at hf
  generalize ([] : List Loc) = locs at hS ⊢
  refine lv_iload_n hx hb dX2_hasPlace_0 rfl (lv_at hl 1 rfl) ?_
  refine lv_if_lt (tgt := 16) hx hb dX2_hasPlace_1 (by decide) (fun c1 => ?_) (fun c1 => ?_)
  · have hf := z_ifT hf c1
    refine lv_iconst (v := (0 : Int32)) hx hb dX2_hasPlace_16 (by decide) ?_
    exact z_zp (wf := (z_st c a)) hx hb hr rfl hlocks hP hD hS hf dX2_hasPlace_17
  · have hf := z_ifF hf c1
    refine lv_iload_n hx hb dX2_hasPlace_4 rfl (lv_at hl 1 rfl) ?_
    refine lv_aload_n hx hb dX2_hasPlace_5 rfl (lv_at hl 0 rfl) ?_
    refine va_get (D := D) (ci := 2) (v := .int (g 0 0)) (C := RX2) (T := TX2) (N := 16) hx hb hts iX2_hasPlace_X2 hown hK.1 hP 0 rfl rfl 0 (by decide) (hts _ qX2_hasPlace_9) (fun _ h9 => h9) rfl dX2_hasPlace_6 ?_
    refine lv_icmp_ge (tgt := 16) hx hb dX2_hasPlace_9 (by decide) (fun c2 => ?_) (fun c2 => ?_)
    · have hf := z_ifT hf c2
      refine lv_iconst (v := (0 : Int32)) hx hb dX2_hasPlace_16 (by decide) ?_
      exact z_zp (wf := (z_st c a)) hx hb hr rfl hlocks hP hD hS hf dX2_hasPlace_17
    · have hf := z_ifF hf c2
      refine lv_iconst (v := (1 : Int32)) hx hb dX2_hasPlace_12 (by decide) ?_
      refine lv_goto (tgt := 17) hx hb dX2_hasPlace_13 (by decide) ?_
      exact z_zp (wf := (z_st c a)) hx hb hr rfl hlocks hP hD hS hf dX2_hasPlace_17
abbrev rmX2_isOnDrum : Room := { frames := 1, cells := 0, slots := 0, locals := 21 }
theorem qX2_isOnDrum_34 : Cond.fieldLink RX2 34 "ProgramDrum$State" "place" "[I" ∈ wsX2_isOnDrum := by decide +kernel
theorem iX2_isOnDrum_X2 : ∀ w ∈ wsX20, w ∈ wsX2_isOnDrum := by decide +kernel
set_option maxRecDepth 100000 in
set_option maxHeartbeats 4000000 in
theorem kX2_isOnDrum (l : Launch) (D : va_G) (c : Nat → ClassId) (N : Nat) (a : Nat → Nat) (sz : Nat) (g : z_R) (p1 : Int32) (r0 : Int32) (hf : fX2_isOnDrum N p1 g = some r0) : Met l yX2_isOnDrum wsX2_isOnDrum rmX2_isOnDrum (z_Pc D c sz (z_st c a g) [.ref (a 0), .int p1]) (z_Qi D (z_st c a) r0 g (va_A (z_st c a g) sz)) 0 0 (va_A (z_st c a g) sz) := by
  refine z_ofM (cc := cX2_isOnDrum) (maxL := 2) (ret := (some .boolean)) (Qf := fun A => z_Qi D (z_st c a) r0 g A) (plainFor_of_name (by decide)) rfl (Nat.le_of_ble_eq_true rfl) ?_
  intro p e s m args below meth co A ls hx hb hr hml hts hown hlocks hnm hA hP hK hD hl hsz
  have hl : lv_has ls 2 [(0, .ref (a 0)), (1, .int p1)] := hl
  have hown : s.vm.findClass RX2 = some m.cls := hown
  obtain ⟨H, hH⟩ : ∃ H, H = s.heap := ⟨_, rfl⟩
  have hS : va_S A s.heap H [] := by rw [hH]; exact va_S.rf
  rw [← hH] at hP ⊢
  clear hH
  unfold fX2_isOnDrum at hf
  generalize ([] : List Loc) = locs at hS ⊢
  refine lv_aload_n hx hb dX2_isOnDrum_0 rfl (lv_at hl 0 rfl) ?_
  refine lv_iload_n hx hb dX2_isOnDrum_1 rfl (lv_at hl 1 rfl) ?_
  obtain ⟨r1, h1, hf⟩ := z_bE hf
  refine z_cVi (As := [.int p1]) (rest := []) (wf := (z_st c a)) (g := g) (u0 := g) ⟨hx, hb, hml, hown, hts⟩ (kX2_has l D c N a H.size g p1 r1 h1) (cwV 1 hts gX2_isOnDrum_X2_has rfl rfl rfl (by decide +kernel) ⟨Nat.le_of_ble_eq_true rfl, Nat.le_of_ble_eq_true rfl⟩) hP hK hD hS hA (ci := 2) (q0 := 0) rfl rfl rfl rfl hl.1 (Nat.le_of_ble_eq_true rfl) rfl dX2_isOnDrum_2 ⟨Nat.zero_le _, Nat.zero_le _⟩ (fun H locs hP hD hS => ?_)
  refine lv_if_eq (tgt := 22) hx hb dX2_isOnDrum_5 (by decide) (fun c2 => ?_) (fun c2 => ?_)
  · have hf := z_ifT hf c2
    refine lv_iconst (v := (0 : Int32)) hx hb dX2_isOnDrum_22 (by decide) ?_
    exact z_zp (wf := (z_st c a)) hx hb hr rfl hlocks hP hD hS hf dX2_isOnDrum_23
  · have hf := z_ifF hf c2
    refine lv_aload_n hx hb dX2_isOnDrum_8 rfl (lv_at hl 0 rfl) ?_
    refine va_get (D := D) (ci := 2) (v := .ref (a 6)) (C := RX2) (T := TX2) (N := 16) hx hb hts iX2_isOnDrum_X2 hown hK.1 hP 0 rfl rfl 9 (by decide) (hts _ qX2_isOnDrum_34) (fun _ h9 => h9) rfl dX2_isOnDrum_9 ?_
    refine lv_iload_n hx hb dX2_isOnDrum_12 rfl (lv_at hl 1 rfl) ?_
    obtain ⟨b3, hf⟩ := z_ckE hf
    refine va_iald hx hb hK.1 hP 6 0 rfl rfl (z_inE b3) dX2_isOnDrum_13 ?_
    refine lv_iconst (v := (-1 : Int32)) hx hb dX2_isOnDrum_14 (by decide) ?_
    refine lv_icmp_eq (tgt := 22) hx hb dX2_isOnDrum_15 (by decide) (fun c4 => ?_) (fun c4 => ?_)
    · have hf := z_ifT hf c4
      refine lv_iconst (v := (0 : Int32)) hx hb dX2_isOnDrum_22 (by decide) ?_
      exact z_zp (wf := (z_st c a)) hx hb hr rfl hlocks hP hD hS hf dX2_isOnDrum_23
    · have hf := z_ifF hf c4
      refine lv_iconst (v := (1 : Int32)) hx hb dX2_isOnDrum_18 (by decide) ?_
      refine lv_goto (tgt := 23) hx hb dX2_isOnDrum_19 (by decide) ?_
      exact z_zp (wf := (z_st c a)) hx hb hr rfl hlocks hP hD hS hf dX2_isOnDrum_23
abbrev rmX2_around : Room := { frames := 1, cells := 0, slots := 0, locals := 22 }
theorem qX2_around_9 : Cond.fieldLink RX2 9 "ProgramDrum$State" "places" "I" ∈ wsX2_around := by decide +kernel
theorem iX2_around_X2 : ∀ w ∈ wsX20, w ∈ wsX2_around := by decide +kernel
set_option maxRecDepth 100000 in
set_option maxHeartbeats 4000000 in
theorem kX2_around (l : Launch) (D : va_G) (c : Nat → ClassId) (N : Nat) (a : Nat → Nat) (sz : Nat) (g : z_R) (p1 : Int32) (r0 : Int32) (hf : fX2_around N p1 g = some r0) : Met l yX2_around wsX2_around rmX2_around (z_Pc D c sz (z_st c a g) [.ref (a 0), .int p1]) (z_Qi D (z_st c a) r0 g (va_A (z_st c a g) sz)) 0 0 (va_A (z_st c a g) sz) := by
  refine z_ofM (cc := cX2_around) (maxL := 2) (ret := (some .int)) (Qf := fun A => z_Qi D (z_st c a) r0 g A) (plainFor_of_name (by decide)) rfl (Nat.le_of_ble_eq_true rfl) ?_
  intro p e s m args below meth co A ls hx hb hr hml hts hown hlocks hnm hA hP hK hD hl hsz
  have hl : lv_has ls 2 [(0, .ref (a 0)), (1, .int p1)] := hl
  have hown : s.vm.findClass RX2 = some m.cls := hown
  obtain ⟨H, hH⟩ : ∃ H, H = s.heap := ⟨_, rfl⟩
  have hS : va_S A s.heap H [] := by rw [hH]; exact va_S.rf
  rw [← hH] at hP ⊢
  clear hH
  unfold fX2_around at hf
  generalize ([] : List Loc) = locs at hS ⊢
  refine lv_aload_n hx hb dX2_around_0 rfl (lv_at hl 0 rfl) ?_
  refine va_get (D := D) (ci := 2) (v := .int (g 0 0)) (C := RX2) (T := TX2) (N := 16) hx hb hts iX2_around_X2 hown hK.1 hP 0 rfl rfl 0 (by decide) (hts _ qX2_around_9) (fun _ h9 => h9) rfl dX2_around_1 ?_
  refine lv_if_le (tgt := 18) hx hb dX2_around_4 (by decide) (fun c1 => ?_) (fun c1 => ?_)
  · have hf := z_ifT hf c1
    refine lv_iconst (v := (0 : Int32)) hx hb dX2_around_18 (by decide) ?_
    exact z_rp (wf := (z_st c a)) hx hb hr hlocks hP hD hS hf dX2_around_19
  · have hf := z_ifF hf c1
    refine lv_iload_n hx hb dX2_around_7 rfl (lv_at hl 1 rfl) ?_
    refine lv_aload_n hx hb dX2_around_8 rfl (lv_at hl 0 rfl) ?_
    refine va_get (D := D) (ci := 2) (v := .int (g 0 0)) (C := RX2) (T := TX2) (N := 16) hx hb hts iX2_around_X2 hown hK.1 hP 0 rfl rfl 0 (by decide) (hts _ qX2_around_9) (fun _ h9 => h9) rfl dX2_around_9 ?_
    obtain ⟨r2, h2, hf⟩ := z_bE hf
    refine z_cSi (As := [.int p1, .int (g 0 0)]) (rest := []) ⟨hx, hb, hml, hown, hts⟩ (kJ9_floorMod_7cf53 l D c N H.size p1 (g 0 0) r2 h2) (va_cwS 2 hts gX2_around_J9_floorMod_7cf53 rfl rfl rfl (by decide +kernel) ⟨Nat.le_of_ble_eq_true rfl, Nat.le_of_ble_eq_true rfl⟩) hP hK hS hA rfl hl.1 (Nat.le_of_ble_eq_true rfl) rfl dX2_around_12 ⟨Nat.zero_le _, Nat.zero_le _⟩ (fun H locs hP hS => ?_)
    refine lv_goto (tgt := 19) hx hb dX2_around_15 (by decide) ?_
    exact z_rp (wf := (z_st c a)) hx hb hr hlocks hP hD hS hf dX2_around_19
abbrev rmX2_laidOrders : Room := { frames := 1, cells := 0, slots := 0, locals := 21 }
theorem qX2_laidOrders_34 : Cond.fieldLink RX2 34 "ProgramDrum$State" "place" "[I" ∈ wsX2_laidOrders := by decide +kernel
theorem iX2_laidOrders_X2 : ∀ w ∈ wsX20, w ∈ wsX2_laidOrders := by decide +kernel
set_option maxRecDepth 100000 in
set_option maxHeartbeats 4000000 in
theorem kX2_laidOrders (l : Launch) (D : va_G) (c : Nat → ClassId) (N : Nat) (a : Nat → Nat) (sz : Nat) (g : z_R) (r0 : Int32) (hf : fX2_laidOrders N g = some r0) : Met l yX2_laidOrders wsX2_laidOrders rmX2_laidOrders (z_Pc D c sz (z_st c a g) [.ref (a 0)]) (z_Qi D (z_st c a) r0 g (va_A (z_st c a g) sz)) 0 0 (va_A (z_st c a g) sz) := by
  refine z_ofM (cc := cX2_laidOrders) (maxL := 3) (ret := (some .int)) (Qf := fun A => z_Qi D (z_st c a) r0 g A) (plainFor_of_name (by decide)) rfl (Nat.le_of_ble_eq_true rfl) ?_
  intro p e s m args below meth co A ls hx hb hr hml hts hown hlocks hnm hA hP hK hD hl hsz
  have hl : lv_has ls 3 [(0, .ref (a 0))] := hl
  have hown : s.vm.findClass RX2 = some m.cls := hown
  obtain ⟨H, hH⟩ : ∃ H, H = s.heap := ⟨_, rfl⟩
  have hS : va_S A s.heap H [] := by rw [hH]; exact va_S.rf
  rw [← hH] at hP ⊢
  clear hH
  have L4 : ∀ (g : z_R) (fu : Nat) (x1 : Int32) (x2 : Int32), lX2_laidOrders_4 N g fu x1 x2 = some r0 → ∀ (H : Heap) (locs : List Loc) (ls : Array Slot), va_P D vwCl (z_st c a g) H → va_D A (z_st c a g) → va_S A s.heap H locs → lv_has ls 3 [(0, .ref (a 0)), (1, .int x1), (2, .int x2)] → W p l e rmX2_laidOrders s m args below meth co H locs 0 0 (MQ below (z_Qi D (z_st c a) r0 g A) args s 0 0 A) (F0 m 4 ls []) := by
    intro g fu
    induction fu with
    | zero =>
      intro x1 x2 hf
      have hf : (none : Option Int32) = some _ := hf
      cases hf
    | succ fu ih =>
      intro x1 x2 hf H locs ls hP hD hS hl
      rw [lX2_laidOrders_4.eq_2] at hf
      refine lv_iload_n hx hb dX2_laidOrders_4 rfl (lv_at hl 2 rfl) ?_
      refine lv_bipush (v := (16 : Int32)) hx hb dX2_laidOrders_5 (by decide) ?_
      refine lv_icmp_ge (tgt := 37) hx hb dX2_laidOrders_7 (by decide) (fun c1 => ?_) (fun c1 => ?_)
      · have hf := z_ifT hf c1
        refine lv_iload_n hx hb dX2_laidOrders_37 rfl (lv_at hl 1 rfl) ?_
        exact z_rp (wf := (z_st c a)) hx hb hr hlocks hP hD hS hf dX2_laidOrders_38
      · have hf := z_ifF hf c1
        refine lv_aload_n hx hb dX2_laidOrders_10 rfl (lv_at hl 0 rfl) ?_
        refine lv_iload_n hx hb dX2_laidOrders_11 rfl (lv_at hl 2 rfl) ?_
        obtain ⟨r2, h2, hf⟩ := z_bE hf
        refine z_cVi (As := [.int x2]) (rest := []) (wf := (z_st c a)) (g := g) (u0 := g) ⟨hx, hb, hml, hown, hts⟩ (kX2_has l D c N a H.size g x2 r2 h2) (cwV 1 hts gX2_laidOrders_X2_has rfl rfl rfl (by decide +kernel) ⟨Nat.le_of_ble_eq_true rfl, Nat.le_of_ble_eq_true rfl⟩) hP hK hD hS hA (ci := 2) (q0 := 0) rfl rfl rfl rfl hl.1 (Nat.le_of_ble_eq_true rfl) rfl dX2_laidOrders_12 ⟨Nat.zero_le _, Nat.zero_le _⟩ (fun H locs hP hD hS => ?_)
        refine lv_if_eq (tgt := 37) hx hb dX2_laidOrders_15 (by decide) (fun c3 => ?_) (fun c3 => ?_)
        · have hf := z_ifT hf c3
          refine lv_iload_n hx hb dX2_laidOrders_37 rfl (lv_at hl 1 rfl) ?_
          exact z_rp (wf := (z_st c a)) hx hb hr hlocks hP hD hS hf dX2_laidOrders_38
        · have hf := z_ifF hf c3
          refine lv_aload_n hx hb dX2_laidOrders_18 rfl (lv_at hl 0 rfl) ?_
          refine va_get (D := D) (ci := 2) (v := .ref (a 6)) (C := RX2) (T := TX2) (N := 16) hx hb hts iX2_laidOrders_X2 hown hK.1 hP 0 rfl rfl 9 (by decide) (hts _ qX2_laidOrders_34) (fun _ h9 => h9) rfl dX2_laidOrders_19 ?_
          refine lv_iload_n hx hb dX2_laidOrders_22 rfl (lv_at hl 2 rfl) ?_
          obtain ⟨b4, hf⟩ := z_ckE hf
          refine va_iald hx hb hK.1 hP 6 0 rfl rfl (z_inE b4) dX2_laidOrders_23 ?_
          refine lv_iconst (v := (-1 : Int32)) hx hb dX2_laidOrders_24 (by decide) ?_
          refine lv_icmp_eq (tgt := 31) hx hb dX2_laidOrders_25 (by decide) (fun c5 => ?_) (fun c5 => ?_)
          · have hf := z_ifT hf c5
            refine lv_iinc (v := (x2 + (1 : Int32))) (lv' := [(2, .int (x2 + (1 : Int32))), (0, .ref (a 0)), (1, .int x1)]) hx hb dX2_laidOrders_31 hl (k := 2) rfl rfl (by decide) rfl (fun ls hl => ?_)
            refine lv_goto (tgt := 4) hx hb dX2_laidOrders_34 (by decide) ?_
            exact ih _ _ hf H locs ls hP hD hS (lv_sub hl [1, 2, 0] rfl)
          · have hf := z_ifF hf c5
            refine lv_iinc (v := (x1 + (1 : Int32))) (lv' := [(1, .int (x1 + (1 : Int32))), (0, .ref (a 0)), (2, .int x2)]) hx hb dX2_laidOrders_28 hl (k := 1) rfl rfl (by decide) rfl (fun ls hl => ?_)
            refine lv_iinc (v := (x2 + (1 : Int32))) (lv' := [(2, .int (x2 + (1 : Int32))), (1, .int (x1 + (1 : Int32))), (0, .ref (a 0))]) hx hb dX2_laidOrders_31 hl (k := 2) rfl rfl (by decide) rfl (fun ls hl => ?_)
            refine lv_goto (tgt := 4) hx hb dX2_laidOrders_34 (by decide) ?_
            exact ih _ _ hf H locs ls hP hD hS (lv_sub hl [2, 1, 0] rfl)
  unfold fX2_laidOrders at hf
  generalize ([] : List Loc) = locs at hS ⊢
  refine lv_iconst (v := (0 : Int32)) hx hb dX2_laidOrders_0 (by decide) ?_
  refine lv_istore_n (lv' := [(1, .int (0 : Int32)), (0, .ref (a 0))]) hx hb dX2_laidOrders_1 rfl hl (by decide) rfl (fun ls hl => ?_)
  refine lv_iconst (v := (0 : Int32)) hx hb dX2_laidOrders_2 (by decide) ?_
  refine lv_istore_n (lv' := [(2, .int (0 : Int32)), (1, .int (0 : Int32)), (0, .ref (a 0))]) hx hb dX2_laidOrders_3 rfl hl (by decide) rfl (fun ls hl => ?_)
  exact L4 _ N _ _ hf H locs ls hP hD hS (lv_sub hl [2, 1, 0] rfl)
abbrev rmX2_ordersOf : Room := { frames := 1, cells := 0, slots := 0, locals := 21 }
theorem qX2_ordersOf_18 : Cond.fieldLink RX2 18 "ProgramDrum$State" "author" "[I" ∈ wsX2_ordersOf := by decide +kernel
theorem iX2_ordersOf_X2 : ∀ w ∈ wsX20, w ∈ wsX2_ordersOf := by decide +kernel
set_option maxRecDepth 100000 in
set_option maxHeartbeats 4000000 in
theorem kX2_ordersOf (l : Launch) (D : va_G) (c : Nat → ClassId) (N : Nat) (a : Nat → Nat) (sz : Nat) (g : z_R) (p1 : Int32) (r0 : Int32) (hf : fX2_ordersOf N p1 g = some r0) : Met l yX2_ordersOf wsX2_ordersOf rmX2_ordersOf (z_Pc D c sz (z_st c a g) [.ref (a 0), .int p1]) (z_Qi D (z_st c a) r0 g (va_A (z_st c a g) sz)) 0 0 (va_A (z_st c a g) sz) := by
  refine z_ofM (cc := cX2_ordersOf) (maxL := 4) (ret := (some .int)) (Qf := fun A => z_Qi D (z_st c a) r0 g A) (plainFor_of_name (by decide)) rfl (Nat.le_of_ble_eq_true rfl) ?_
  intro p e s m args below meth co A ls hx hb hr hml hts hown hlocks hnm hA hP hK hD hl hsz
  have hl : lv_has ls 4 [(0, .ref (a 0)), (1, .int p1)] := hl
  have hown : s.vm.findClass RX2 = some m.cls := hown
  obtain ⟨H, hH⟩ : ∃ H, H = s.heap := ⟨_, rfl⟩
  have hS : va_S A s.heap H [] := by rw [hH]; exact va_S.rf
  rw [← hH] at hP ⊢
  clear hH
  have L4 : ∀ (x1 : Int32) (g : z_R) (fu : Nat) (x2 : Int32) (x3 : Int32), lX2_ordersOf_4 N x1 g fu x2 x3 = some r0 → ∀ (H : Heap) (locs : List Loc) (ls : Array Slot), va_P D vwCl (z_st c a g) H → va_D A (z_st c a g) → va_S A s.heap H locs → lv_has ls 4 [(0, .ref (a 0)), (1, .int x1), (2, .int x2), (3, .int x3)] → W p l e rmX2_ordersOf s m args below meth co H locs 0 0 (MQ below (z_Qi D (z_st c a) r0 g A) args s 0 0 A) (F0 m 4 ls []) := by
    intro x1 g fu
    induction fu with
    | zero =>
      intro x2 x3 hf
      have hf : (none : Option Int32) = some _ := hf
      cases hf
    | succ fu ih =>
      intro x2 x3 hf H locs ls hP hD hS hl
      rw [lX2_ordersOf_4.eq_2] at hf
      refine lv_iload_n hx hb dX2_ordersOf_4 rfl (lv_at hl 3 rfl) ?_
      refine lv_bipush (v := (16 : Int32)) hx hb dX2_ordersOf_5 (by decide) ?_
      refine lv_icmp_ge (tgt := 37) hx hb dX2_ordersOf_7 (by decide) (fun c1 => ?_) (fun c1 => ?_)
      · have hf := z_ifT hf c1
        refine lv_iload_n hx hb dX2_ordersOf_37 rfl (lv_at hl 2 rfl) ?_
        exact z_rp (wf := (z_st c a)) hx hb hr hlocks hP hD hS hf dX2_ordersOf_38
      · have hf := z_ifF hf c1
        refine lv_aload_n hx hb dX2_ordersOf_10 rfl (lv_at hl 0 rfl) ?_
        refine lv_iload_n hx hb dX2_ordersOf_11 rfl (lv_at hl 3 rfl) ?_
        obtain ⟨r2, h2, hf⟩ := z_bE hf
        refine z_cVi (As := [.int x3]) (rest := []) (wf := (z_st c a)) (g := g) (u0 := g) ⟨hx, hb, hml, hown, hts⟩ (kX2_has l D c N a H.size g x3 r2 h2) (cwV 1 hts gX2_ordersOf_X2_has rfl rfl rfl (by decide +kernel) ⟨Nat.le_of_ble_eq_true rfl, Nat.le_of_ble_eq_true rfl⟩) hP hK hD hS hA (ci := 2) (q0 := 0) rfl rfl rfl rfl hl.1 (Nat.le_of_ble_eq_true rfl) rfl dX2_ordersOf_12 ⟨Nat.zero_le _, Nat.zero_le _⟩ (fun H locs hP hD hS => ?_)
        refine lv_if_eq (tgt := 37) hx hb dX2_ordersOf_15 (by decide) (fun c3 => ?_) (fun c3 => ?_)
        · have hf := z_ifT hf c3
          refine lv_iload_n hx hb dX2_ordersOf_37 rfl (lv_at hl 2 rfl) ?_
          exact z_rp (wf := (z_st c a)) hx hb hr hlocks hP hD hS hf dX2_ordersOf_38
        · have hf := z_ifF hf c3
          refine lv_aload_n hx hb dX2_ordersOf_18 rfl (lv_at hl 0 rfl) ?_
          refine va_get (D := D) (ci := 2) (v := .ref (a 1)) (C := RX2) (T := TX2) (N := 16) hx hb hts iX2_ordersOf_X2 hown hK.1 hP 0 rfl rfl 4 (by decide) (hts _ qX2_ordersOf_18) (fun _ h9 => h9) rfl dX2_ordersOf_19 ?_
          refine lv_iload_n hx hb dX2_ordersOf_22 rfl (lv_at hl 3 rfl) ?_
          obtain ⟨b4, hf⟩ := z_ckE hf
          refine va_iald hx hb hK.1 hP 1 0 rfl rfl (z_inE b4) dX2_ordersOf_23 ?_
          refine lv_iload_n hx hb dX2_ordersOf_24 rfl (lv_at hl 1 rfl) ?_
          refine lv_icmp_ne (tgt := 31) hx hb dX2_ordersOf_25 (by decide) (fun c5 => ?_) (fun c5 => ?_)
          · have hf := z_ifF hf c5
            refine lv_iinc (v := (x3 + (1 : Int32))) (lv' := [(3, .int (x3 + (1 : Int32))), (0, .ref (a 0)), (1, .int x1), (2, .int x2)]) hx hb dX2_ordersOf_31 hl (k := 3) rfl rfl (by decide) rfl (fun ls hl => ?_)
            refine lv_goto (tgt := 4) hx hb dX2_ordersOf_34 (by decide) ?_
            exact ih _ _ hf H locs ls hP hD hS (lv_sub hl [1, 2, 3, 0] rfl)
          · have hf := z_ifT hf c5
            refine lv_iinc (v := (x2 + (1 : Int32))) (lv' := [(2, .int (x2 + (1 : Int32))), (0, .ref (a 0)), (1, .int x1), (3, .int x3)]) hx hb dX2_ordersOf_28 hl (k := 2) rfl rfl (by decide) rfl (fun ls hl => ?_)
            refine lv_iinc (v := (x3 + (1 : Int32))) (lv' := [(3, .int (x3 + (1 : Int32))), (2, .int (x2 + (1 : Int32))), (0, .ref (a 0)), (1, .int x1)]) hx hb dX2_ordersOf_31 hl (k := 3) rfl rfl (by decide) rfl (fun ls hl => ?_)
            refine lv_goto (tgt := 4) hx hb dX2_ordersOf_34 (by decide) ?_
            exact ih _ _ hf H locs ls hP hD hS (lv_sub hl [2, 3, 1, 0] rfl)
  unfold fX2_ordersOf at hf
  generalize ([] : List Loc) = locs at hS ⊢
  refine lv_iconst (v := (0 : Int32)) hx hb dX2_ordersOf_0 (by decide) ?_
  refine lv_istore_n (lv' := [(2, .int (0 : Int32)), (0, .ref (a 0)), (1, .int p1)]) hx hb dX2_ordersOf_1 rfl hl (by decide) rfl (fun ls hl => ?_)
  refine lv_iconst (v := (0 : Int32)) hx hb dX2_ordersOf_2 (by decide) ?_
  refine lv_istore_n (lv' := [(3, .int (0 : Int32)), (2, .int (0 : Int32)), (0, .ref (a 0)), (1, .int p1)]) hx hb dX2_ordersOf_3 rfl hl (by decide) rfl (fun ls hl => ?_)
  exact L4 _ _ N _ _ hf H locs ls hP hD hS (lv_sub hl [2, 3, 1, 0] rfl)
abbrev rmX2_orderOn : Room := { frames := 1, cells := 0, slots := 0, locals := 21 }
theorem qX2_orderOn_34 : Cond.fieldLink RX2 34 "ProgramDrum$State" "place" "[I" ∈ wsX2_orderOn := by decide +kernel
theorem iX2_orderOn_X2 : ∀ w ∈ wsX20, w ∈ wsX2_orderOn := by decide +kernel
set_option maxRecDepth 100000 in
set_option maxHeartbeats 4000000 in
theorem kX2_orderOn (l : Launch) (D : va_G) (c : Nat → ClassId) (N : Nat) (a : Nat → Nat) (sz : Nat) (g : z_R) (p1 : Int32) (r0 : Int32) (hf : fX2_orderOn N p1 g = some r0) : Met l yX2_orderOn wsX2_orderOn rmX2_orderOn (z_Pc D c sz (z_st c a g) [.ref (a 0), .int p1]) (z_Qi D (z_st c a) r0 g (va_A (z_st c a g) sz)) 0 0 (va_A (z_st c a g) sz) := by
  refine z_ofM (cc := cX2_orderOn) (maxL := 3) (ret := (some .int)) (Qf := fun A => z_Qi D (z_st c a) r0 g A) (plainFor_of_name (by decide)) rfl (Nat.le_of_ble_eq_true rfl) ?_
  intro p e s m args below meth co A ls hx hb hr hml hts hown hlocks hnm hA hP hK hD hl hsz
  have hl : lv_has ls 3 [(0, .ref (a 0)), (1, .int p1)] := hl
  have hown : s.vm.findClass RX2 = some m.cls := hown
  obtain ⟨H, hH⟩ : ∃ H, H = s.heap := ⟨_, rfl⟩
  have hS : va_S A s.heap H [] := by rw [hH]; exact va_S.rf
  rw [← hH] at hP ⊢
  clear hH
  have L2 : ∀ (x1 : Int32) (g : z_R) (fu : Nat) (x2 : Int32), lX2_orderOn_2 N x1 g fu x2 = some r0 → ∀ (H : Heap) (locs : List Loc) (ls : Array Slot), va_P D vwCl (z_st c a g) H → va_D A (z_st c a g) → va_S A s.heap H locs → lv_has ls 3 [(0, .ref (a 0)), (1, .int x1), (2, .int x2)] → W p l e rmX2_orderOn s m args below meth co H locs 0 0 (MQ below (z_Qi D (z_st c a) r0 g A) args s 0 0 A) (F0 m 2 ls []) := by
    intro x1 g fu
    induction fu with
    | zero =>
      intro x2 hf
      have hf : (none : Option Int32) = some _ := hf
      cases hf
    | succ fu ih =>
      intro x2 hf H locs ls hP hD hS hl
      rw [lX2_orderOn_2.eq_2] at hf
      refine lv_iload_n hx hb dX2_orderOn_2 rfl (lv_at hl 2 rfl) ?_
      refine lv_bipush (v := (16 : Int32)) hx hb dX2_orderOn_3 (by decide) ?_
      refine lv_icmp_ge (tgt := 34) hx hb dX2_orderOn_5 (by decide) (fun c1 => ?_) (fun c1 => ?_)
      · have hf := z_ifT hf c1
        refine lv_iconst (v := (-1 : Int32)) hx hb dX2_orderOn_34 (by decide) ?_
        exact z_rp (wf := (z_st c a)) hx hb hr hlocks hP hD hS hf dX2_orderOn_35
      · have hf := z_ifF hf c1
        refine lv_aload_n hx hb dX2_orderOn_8 rfl (lv_at hl 0 rfl) ?_
        refine lv_iload_n hx hb dX2_orderOn_9 rfl (lv_at hl 2 rfl) ?_
        obtain ⟨r2, h2, hf⟩ := z_bE hf
        refine z_cVi (As := [.int x2]) (rest := []) (wf := (z_st c a)) (g := g) (u0 := g) ⟨hx, hb, hml, hown, hts⟩ (kX2_has l D c N a H.size g x2 r2 h2) (cwV 1 hts gX2_orderOn_X2_has rfl rfl rfl (by decide +kernel) ⟨Nat.le_of_ble_eq_true rfl, Nat.le_of_ble_eq_true rfl⟩) hP hK hD hS hA (ci := 2) (q0 := 0) rfl rfl rfl rfl hl.1 (Nat.le_of_ble_eq_true rfl) rfl dX2_orderOn_10 ⟨Nat.zero_le _, Nat.zero_le _⟩ (fun H locs hP hD hS => ?_)
        refine lv_if_eq (tgt := 34) hx hb dX2_orderOn_13 (by decide) (fun c3 => ?_) (fun c3 => ?_)
        · have hf := z_ifT hf c3
          refine lv_iconst (v := (-1 : Int32)) hx hb dX2_orderOn_34 (by decide) ?_
          exact z_rp (wf := (z_st c a)) hx hb hr hlocks hP hD hS hf dX2_orderOn_35
        · have hf := z_ifF hf c3
          refine lv_aload_n hx hb dX2_orderOn_16 rfl (lv_at hl 0 rfl) ?_
          refine va_get (D := D) (ci := 2) (v := .ref (a 6)) (C := RX2) (T := TX2) (N := 16) hx hb hts iX2_orderOn_X2 hown hK.1 hP 0 rfl rfl 9 (by decide) (hts _ qX2_orderOn_34) (fun _ h9 => h9) rfl dX2_orderOn_17 ?_
          refine lv_iload_n hx hb dX2_orderOn_20 rfl (lv_at hl 2 rfl) ?_
          obtain ⟨b4, hf⟩ := z_ckE hf
          refine va_iald hx hb hK.1 hP 6 0 rfl rfl (z_inE b4) dX2_orderOn_21 ?_
          refine lv_iload_n hx hb dX2_orderOn_22 rfl (lv_at hl 1 rfl) ?_
          refine lv_icmp_ne (tgt := 28) hx hb dX2_orderOn_23 (by decide) (fun c5 => ?_) (fun c5 => ?_)
          · have hf := z_ifF hf c5
            refine lv_iinc (v := (x2 + (1 : Int32))) (lv' := [(2, .int (x2 + (1 : Int32))), (0, .ref (a 0)), (1, .int x1)]) hx hb dX2_orderOn_28 hl (k := 2) rfl rfl (by decide) rfl (fun ls hl => ?_)
            refine lv_goto (tgt := 2) hx hb dX2_orderOn_31 (by decide) ?_
            exact ih _ hf H locs ls hP hD hS (lv_sub hl [1, 2, 0] rfl)
          · have hf := z_ifT hf c5
            refine lv_iload_n hx hb dX2_orderOn_26 rfl (lv_at hl 2 rfl) ?_
            exact z_rp (wf := (z_st c a)) hx hb hr hlocks hP hD hS hf dX2_orderOn_27
  unfold fX2_orderOn at hf
  generalize ([] : List Loc) = locs at hS ⊢
  refine lv_iconst (v := (0 : Int32)) hx hb dX2_orderOn_0 (by decide) ?_
  refine lv_istore_n (lv' := [(2, .int (0 : Int32)), (0, .ref (a 0)), (1, .int p1)]) hx hb dX2_orderOn_1 rfl hl (by decide) rfl (fun ls hl => ?_)
  exact L2 _ _ N _ hf H locs ls hP hD hS (lv_sub hl [1, 2, 0] rfl)
abbrev rmX2_isFreeFor : Room := { frames := 2, cells := 0, slots := 0, locals := 43 }
set_option maxRecDepth 100000 in
set_option maxHeartbeats 4000000 in
theorem kX2_isFreeFor (l : Launch) (D : va_G) (c : Nat → ClassId) (N : Nat) (a : Nat → Nat) (sz : Nat) (g : z_R) (p1 : Int32) (p2 : Int32) (r0 : Int32) (hf : fX2_isFreeFor N p1 p2 g = some r0) : Met l yX2_isFreeFor wsX2_isFreeFor rmX2_isFreeFor (z_Pc D c sz (z_st c a g) [.ref (a 0), .int p1, .int p2]) (z_Qi D (z_st c a) r0 g (va_A (z_st c a g) sz)) 0 0 (va_A (z_st c a g) sz) := by
  refine z_ofM (cc := cX2_isFreeFor) (maxL := 4) (ret := (some .boolean)) (Qf := fun A => z_Qi D (z_st c a) r0 g A) (plainFor_of_name (by decide)) rfl (Nat.le_of_ble_eq_true rfl) ?_
  intro p e s m args below meth co A ls hx hb hr hml hts hown hlocks hnm hA hP hK hD hl hsz
  have hl : lv_has ls 4 [(0, .ref (a 0)), (1, .int p1), (2, .int p2)] := hl
  have hown : s.vm.findClass RX2 = some m.cls := hown
  obtain ⟨H, hH⟩ : ∃ H, H = s.heap := ⟨_, rfl⟩
  have hS : va_S A s.heap H [] := by rw [hH]; exact va_S.rf
  rw [← hH] at hP ⊢
  clear hH
  unfold fX2_isFreeFor at hf
  generalize ([] : List Loc) = locs at hS ⊢
  refine lv_aload_n hx hb dX2_isFreeFor_0 rfl (lv_at hl 0 rfl) ?_
  refine lv_iload_n hx hb dX2_isFreeFor_1 rfl (lv_at hl 2 rfl) ?_
  obtain ⟨r1, h1, hf⟩ := z_bE hf
  refine z_cVi (As := [.int p2]) (rest := []) (wf := (z_st c a)) (g := g) (u0 := g) ⟨hx, hb, hml, hown, hts⟩ (kX2_orderOn l D c N a H.size g p2 r1 h1) (cwV 1 hts gX2_isFreeFor_X2_orderOn rfl rfl rfl (by decide +kernel) ⟨Nat.le_of_ble_eq_true rfl, Nat.le_of_ble_eq_true rfl⟩) hP hK hD hS hA (ci := 2) (q0 := 0) rfl rfl rfl rfl hl.1 (Nat.le_of_ble_eq_true rfl) rfl dX2_isFreeFor_2 ⟨Nat.zero_le _, Nat.zero_le _⟩ (fun H locs hP hD hS => ?_)
  refine lv_istore_n (lv' := [(3, .int r1), (0, .ref (a 0)), (1, .int p1), (2, .int p2)]) hx hb dX2_isFreeFor_5 rfl hl (by decide) rfl (fun ls hl => ?_)
  refine lv_iload_n hx hb dX2_isFreeFor_6 rfl (lv_at hl 0 rfl) ?_
  refine lv_iconst (v := (-1 : Int32)) hx hb dX2_isFreeFor_7 (by decide) ?_
  refine lv_icmp_eq (tgt := 16) hx hb dX2_isFreeFor_8 (by decide) (fun c2 => ?_) (fun c2 => ?_)
  · have hf := z_ifT hf c2
    refine lv_iconst (v := (1 : Int32)) hx hb dX2_isFreeFor_16 (by decide) ?_
    refine lv_goto (tgt := 21) hx hb dX2_isFreeFor_17 (by decide) ?_
    exact z_zp (wf := (z_st c a)) hx hb hr rfl hlocks hP hD hS hf dX2_isFreeFor_21
  · have hf := z_ifF hf c2
    refine lv_iload_n hx hb dX2_isFreeFor_11 rfl (lv_at hl 0 rfl) ?_
    refine lv_iload_n hx hb dX2_isFreeFor_12 rfl (lv_at hl 2 rfl) ?_
    refine lv_icmp_ne (tgt := 20) hx hb dX2_isFreeFor_13 (by decide) (fun c3 => ?_) (fun c3 => ?_)
    · have hf := z_ifF hf c3
      refine lv_iconst (v := (0 : Int32)) hx hb dX2_isFreeFor_20 (by decide) ?_
      exact z_zp (wf := (z_st c a)) hx hb hr rfl hlocks hP hD hS hf dX2_isFreeFor_21
    · have hf := z_ifT hf c3
      refine lv_iconst (v := (1 : Int32)) hx hb dX2_isFreeFor_16 (by decide) ?_
      refine lv_goto (tgt := 21) hx hb dX2_isFreeFor_17 (by decide) ?_
      exact z_zp (wf := (z_st c a)) hx hb hr rfl hlocks hP hD hS hf dX2_isFreeFor_21
abbrev rmX2_addNew : Room := { frames := 0, cells := 0, slots := 0, locals := 0 }
theorem qX2_addNew_59 : Cond.fieldLink RX2 59 "ProgramDrum$State" "count" "I" ∈ wsX2_addNew := by decide +kernel
theorem iX2_addNew_X2 : ∀ w ∈ wsX20, w ∈ wsX2_addNew := by decide +kernel
theorem qX2_addNew_18 : Cond.fieldLink RX2 18 "ProgramDrum$State" "author" "[I" ∈ wsX2_addNew := by decide +kernel
theorem qX2_addNew_22 : Cond.fieldLink RX2 22 "ProgramDrum$State" "work" "[I" ∈ wsX2_addNew := by decide +kernel
theorem qX2_addNew_25 : Cond.fieldLink RX2 25 "ProgramDrum$State" "next" "[I" ∈ wsX2_addNew := by decide +kernel
theorem qX2_addNew_28 : Cond.fieldLink RX2 28 "ProgramDrum$State" "expects" "[I" ∈ wsX2_addNew := by decide +kernel
theorem qX2_addNew_31 : Cond.fieldLink RX2 31 "ProgramDrum$State" "bribe" "[I" ∈ wsX2_addNew := by decide +kernel
theorem qX2_addNew_34 : Cond.fieldLink RX2 34 "ProgramDrum$State" "place" "[I" ∈ wsX2_addNew := by decide +kernel
theorem qX2_addNew_37 : Cond.fieldLink RX2 37 "ProgramDrum$State" "delay" "[I" ∈ wsX2_addNew := by decide +kernel
theorem qX2_addNew_40 : Cond.fieldLink RX2 40 "ProgramDrum$State" "open" "[I" ∈ wsX2_addNew := by decide +kernel
theorem qX2_addNew_43 : Cond.fieldLink RX2 43 "ProgramDrum$State" "lastWait" "[I" ∈ wsX2_addNew := by decide +kernel
set_option maxRecDepth 100000 in
set_option maxHeartbeats 4000000 in
theorem kX2_addNew (l : Launch) (D : va_G) (c : Nat → ClassId) (N : Nat) (a : Nat → Nat) (sz : Nat) (g : z_R) (p1 : Int32) (p2 : Int32) (p3 : Int32) (p4 : Int32) (p5 : Int32) (r0 : Int32) (g0 : z_R) (hf : fX2_addNew N p1 p2 p3 p4 p5 g = some (r0, g0)) : Met l yX2_addNew wsX2_addNew rmX2_addNew (z_Pc D c sz (z_st c a g) [.ref (a 0), .int p1, .int p2, .int p3, .int p4, .int p5]) (z_Qi D (z_st c a) r0 g0 (va_A (z_st c a g) sz)) 0 0 (va_A (z_st c a g) sz) := by
  refine z_ofM (cc := cX2_addNew) (maxL := 7) (ret := (some .int)) (Qf := fun A => z_Qi D (z_st c a) r0 g0 A) (plainFor_of_name (by decide)) rfl (Nat.le_of_ble_eq_true rfl) ?_
  intro p e s m args below meth co A ls hx hb hr hml hts hown hlocks hnm hA hP hK hD hl hsz
  have hl : lv_has ls 7 [(0, .ref (a 0)), (1, .int p1), (2, .int p2), (3, .int p3), (4, .int p4), (5, .int p5)] := hl
  have hown : s.vm.findClass RX2 = some m.cls := hown
  obtain ⟨H, hH⟩ : ∃ H, H = s.heap := ⟨_, rfl⟩
  have hS : va_S A s.heap H [] := by rw [hH]; exact va_S.rf
  rw [← hH] at hP ⊢
  clear hH
  unfold fX2_addNew at hf
  generalize ([] : List Loc) = locs at hS ⊢
  refine lv_aload_n hx hb dX2_addNew_0 rfl (lv_at hl 0 rfl) ?_
  refine va_get (D := D) (ci := 2) (v := .int (g 0 1)) (C := RX2) (T := TX2) (N := 16) hx hb hts iX2_addNew_X2 hown hK.1 hP 0 rfl rfl 1 (by decide) (hts _ qX2_addNew_59) (fun _ h9 => h9) rfl dX2_addNew_1 ?_
  refine lv_istore (lv' := [(6, .int (g 0 1)), (0, .ref (a 0)), (1, .int p1), (2, .int p2), (3, .int p3), (4, .int p4), (5, .int p5)]) hx hb dX2_addNew_4 hl (by decide) rfl (fun ls hl => ?_)
  refine lv_iload hx hb dX2_addNew_6 (lv_at hl 0 rfl) ?_
  refine lv_if_lt (tgt := 18) hx hb dX2_addNew_8 (by decide) (fun c1 => ?_) (fun c1 => ?_)
  · have hf := z_ifT hf c1
    refine lv_iconst (v := (-1 : Int32)) hx hb dX2_addNew_18 (by decide) ?_
    exact z_ri (wf := (z_st c a)) hx hb hr hlocks hP hD hS hf dX2_addNew_19
  · have hf := z_ifF hf c1
    refine lv_iload hx hb dX2_addNew_11 (lv_at hl 0 rfl) ?_
    refine lv_bipush (v := (16 : Int32)) hx hb dX2_addNew_13 (by decide) ?_
    refine lv_icmp_lt (tgt := 20) hx hb dX2_addNew_15 (by decide) (fun c2 => ?_) (fun c2 => ?_)
    · have hf := z_ifT hf c2
      refine lv_aload_n hx hb dX2_addNew_20 rfl (lv_at hl 1 rfl) ?_
      refine va_get (D := D) (ci := 2) (v := .ref (a 1)) (C := RX2) (T := TX2) (N := 16) hx hb hts iX2_addNew_X2 hown hK.1 hP 0 rfl rfl 4 (by decide) (hts _ qX2_addNew_18) (fun _ h9 => h9) rfl dX2_addNew_21 ?_
      refine lv_iload hx hb dX2_addNew_24 (lv_at hl 0 rfl) ?_
      refine lv_iload_n hx hb dX2_addNew_26 rfl (lv_at hl 2 rfl) ?_
      obtain ⟨b3, hf⟩ := z_ckE hf
      refine va_iast hx hb hK.1 hP hD hS 1 0 rfl rfl (z_inE b3) dX2_addNew_27 (fun H locs hP hD hS => ?_)
      obtain ⟨g4, e4, hf⟩ := z_ltE hf
      have hP : va_P D vwCl (z_st c a g4) H := by rw [e4]; exact hP
      have hD : va_D A (z_st c a g4) := by rw [e4]; exact hD
      clear e4
      refine lv_aload_n hx hb dX2_addNew_28 rfl (lv_at hl 1 rfl) ?_
      refine va_get (D := D) (ci := 2) (v := .ref (a 2)) (C := RX2) (T := TX2) (N := 16) hx hb hts iX2_addNew_X2 hown hK.1 hP 0 rfl rfl 5 (by decide) (hts _ qX2_addNew_22) (fun _ h9 => h9) rfl dX2_addNew_29 ?_
      refine lv_iload hx hb dX2_addNew_32 (lv_at hl 0 rfl) ?_
      refine lv_iload_n hx hb dX2_addNew_34 rfl (lv_at hl 3 rfl) ?_
      obtain ⟨b5, hf⟩ := z_ckE hf
      refine va_iast hx hb hK.1 hP hD hS 2 0 rfl rfl (z_inE b5) dX2_addNew_35 (fun H locs hP hD hS => ?_)
      obtain ⟨g6, e6, hf⟩ := z_ltE hf
      have hP : va_P D vwCl (z_st c a g6) H := by rw [e6]; exact hP
      have hD : va_D A (z_st c a g6) := by rw [e6]; exact hD
      clear e6
      refine lv_aload_n hx hb dX2_addNew_36 rfl (lv_at hl 1 rfl) ?_
      refine va_get (D := D) (ci := 2) (v := .ref (a 3)) (C := RX2) (T := TX2) (N := 16) hx hb hts iX2_addNew_X2 hown hK.1 hP 0 rfl rfl 6 (by decide) (hts _ qX2_addNew_25) (fun _ h9 => h9) rfl dX2_addNew_37 ?_
      refine lv_iload hx hb dX2_addNew_40 (lv_at hl 0 rfl) ?_
      refine lv_iload_n hx hb dX2_addNew_42 rfl (lv_at hl 4 rfl) ?_
      obtain ⟨b7, hf⟩ := z_ckE hf
      refine va_iast hx hb hK.1 hP hD hS 3 0 rfl rfl (z_inE b7) dX2_addNew_43 (fun H locs hP hD hS => ?_)
      obtain ⟨g8, e8, hf⟩ := z_ltE hf
      have hP : va_P D vwCl (z_st c a g8) H := by rw [e8]; exact hP
      have hD : va_D A (z_st c a g8) := by rw [e8]; exact hD
      clear e8
      refine lv_aload_n hx hb dX2_addNew_44 rfl (lv_at hl 1 rfl) ?_
      refine va_get (D := D) (ci := 2) (v := .ref (a 4)) (C := RX2) (T := TX2) (N := 16) hx hb hts iX2_addNew_X2 hown hK.1 hP 0 rfl rfl 7 (by decide) (hts _ qX2_addNew_28) (fun _ h9 => h9) rfl dX2_addNew_45 ?_
      refine lv_iload hx hb dX2_addNew_48 (lv_at hl 0 rfl) ?_
      refine lv_iload hx hb dX2_addNew_50 (lv_at hl 5 rfl) ?_
      obtain ⟨b9, hf⟩ := z_ckE hf
      refine va_iast hx hb hK.1 hP hD hS 4 0 rfl rfl (z_inE b9) dX2_addNew_52 (fun H locs hP hD hS => ?_)
      obtain ⟨g10, e10, hf⟩ := z_ltE hf
      have hP : va_P D vwCl (z_st c a g10) H := by rw [e10]; exact hP
      have hD : va_D A (z_st c a g10) := by rw [e10]; exact hD
      clear e10
      refine lv_aload_n hx hb dX2_addNew_53 rfl (lv_at hl 1 rfl) ?_
      refine va_get (D := D) (ci := 2) (v := .ref (a 5)) (C := RX2) (T := TX2) (N := 16) hx hb hts iX2_addNew_X2 hown hK.1 hP 0 rfl rfl 8 (by decide) (hts _ qX2_addNew_31) (fun _ h9 => h9) rfl dX2_addNew_54 ?_
      refine lv_iload hx hb dX2_addNew_57 (lv_at hl 0 rfl) ?_
      refine lv_iload hx hb dX2_addNew_59 (lv_at hl 6 rfl) ?_
      obtain ⟨b11, hf⟩ := z_ckE hf
      refine va_iast hx hb hK.1 hP hD hS 5 0 rfl rfl (z_inE b11) dX2_addNew_61 (fun H locs hP hD hS => ?_)
      obtain ⟨g12, e12, hf⟩ := z_ltE hf
      have hP : va_P D vwCl (z_st c a g12) H := by rw [e12]; exact hP
      have hD : va_D A (z_st c a g12) := by rw [e12]; exact hD
      clear e12
      refine lv_aload_n hx hb dX2_addNew_62 rfl (lv_at hl 1 rfl) ?_
      refine va_get (D := D) (ci := 2) (v := .ref (a 6)) (C := RX2) (T := TX2) (N := 16) hx hb hts iX2_addNew_X2 hown hK.1 hP 0 rfl rfl 9 (by decide) (hts _ qX2_addNew_34) (fun _ h9 => h9) rfl dX2_addNew_63 ?_
      refine lv_iload hx hb dX2_addNew_66 (lv_at hl 0 rfl) ?_
      refine lv_iconst (v := (-1 : Int32)) hx hb dX2_addNew_68 (by decide) ?_
      obtain ⟨b13, hf⟩ := z_ckE hf
      refine va_iast hx hb hK.1 hP hD hS 6 0 rfl rfl (z_inE b13) dX2_addNew_69 (fun H locs hP hD hS => ?_)
      obtain ⟨g14, e14, hf⟩ := z_ltE hf
      have hP : va_P D vwCl (z_st c a g14) H := by rw [e14]; exact hP
      have hD : va_D A (z_st c a g14) := by rw [e14]; exact hD
      clear e14
      refine lv_aload_n hx hb dX2_addNew_70 rfl (lv_at hl 1 rfl) ?_
      refine va_get (D := D) (ci := 2) (v := .ref (a 7)) (C := RX2) (T := TX2) (N := 16) hx hb hts iX2_addNew_X2 hown hK.1 hP 0 rfl rfl 10 (by decide) (hts _ qX2_addNew_37) (fun _ h9 => h9) rfl dX2_addNew_71 ?_
      refine lv_iload hx hb dX2_addNew_74 (lv_at hl 0 rfl) ?_
      refine lv_iconst (v := (-1 : Int32)) hx hb dX2_addNew_76 (by decide) ?_
      obtain ⟨b15, hf⟩ := z_ckE hf
      refine va_iast hx hb hK.1 hP hD hS 7 0 rfl rfl (z_inE b15) dX2_addNew_77 (fun H locs hP hD hS => ?_)
      obtain ⟨g16, e16, hf⟩ := z_ltE hf
      have hP : va_P D vwCl (z_st c a g16) H := by rw [e16]; exact hP
      have hD : va_D A (z_st c a g16) := by rw [e16]; exact hD
      clear e16
      refine lv_aload_n hx hb dX2_addNew_78 rfl (lv_at hl 1 rfl) ?_
      refine va_get (D := D) (ci := 2) (v := .ref (a 8)) (C := RX2) (T := TX2) (N := 16) hx hb hts iX2_addNew_X2 hown hK.1 hP 0 rfl rfl 11 (by decide) (hts _ qX2_addNew_40) (fun _ h9 => h9) rfl dX2_addNew_79 ?_
      refine lv_iload hx hb dX2_addNew_82 (lv_at hl 0 rfl) ?_
      refine lv_iconst (v := (0 : Int32)) hx hb dX2_addNew_84 (by decide) ?_
      obtain ⟨b17, hf⟩ := z_ckE hf
      refine va_iast hx hb hK.1 hP hD hS 8 0 rfl rfl (z_inE b17) dX2_addNew_85 (fun H locs hP hD hS => ?_)
      obtain ⟨g18, e18, hf⟩ := z_ltE hf
      have hP : va_P D vwCl (z_st c a g18) H := by rw [e18]; exact hP
      have hD : va_D A (z_st c a g18) := by rw [e18]; exact hD
      clear e18
      refine lv_aload_n hx hb dX2_addNew_86 rfl (lv_at hl 1 rfl) ?_
      refine va_get (D := D) (ci := 2) (v := .ref (a 9)) (C := RX2) (T := TX2) (N := 16) hx hb hts iX2_addNew_X2 hown hK.1 hP 0 rfl rfl 12 (by decide) (hts _ qX2_addNew_43) (fun _ h9 => h9) rfl dX2_addNew_87 ?_
      refine lv_iload hx hb dX2_addNew_90 (lv_at hl 0 rfl) ?_
      refine lv_iconst (v := (-1 : Int32)) hx hb dX2_addNew_92 (by decide) ?_
      obtain ⟨b19, hf⟩ := z_ckE hf
      refine va_iast hx hb hK.1 hP hD hS 9 0 rfl rfl (z_inE b19) dX2_addNew_93 (fun H locs hP hD hS => ?_)
      obtain ⟨g20, e20, hf⟩ := z_ltE hf
      have hP : va_P D vwCl (z_st c a g20) H := by rw [e20]; exact hP
      have hD : va_D A (z_st c a g20) := by rw [e20]; exact hD
      clear e20
      refine lv_aload_n hx hb dX2_addNew_94 rfl (lv_at hl 1 rfl) ?_
      refine lv_dup hx hb dX2_addNew_95 rfl ?_
      refine va_get (D := D) (ci := 2) (v := .int (g20 0 1)) (C := RX2) (T := TX2) (N := 16) hx hb hts iX2_addNew_X2 hown hK.1 hP 0 rfl rfl 1 (by decide) (hts _ qX2_addNew_59) (fun _ h9 => h9) rfl dX2_addNew_96 ?_
      refine lv_iconst (v := (1 : Int32)) hx hb dX2_addNew_99 (by decide) ?_
      refine lv_iadd hx hb dX2_addNew_100 ?_
      refine va_put (D := D) (ci := 2) (v := .int ((g20 0 1) + (1 : Int32))) (ty := .int) (C := RX2) (T := TX2) (N := 16) hx hb hts iX2_addNew_X2 tyX2 tyX2_ok nmX2 hown hK.1 hP hD hS 0 rfl rfl 1 (by decide) (hts _ qX2_addNew_59) (fun _ h9 => h9) rfl (by decide +kernel) rfl rfl (Nat.le_of_ble_eq_true rfl) dX2_addNew_101 (fun H locs hP hD hS => ?_)
      obtain ⟨g21, e21, hf⟩ := z_ltE hf
      have hP : va_P D vwCl (z_st c a g21) H := by rw [e21]; exact hP
      have hD : va_D A (z_st c a g21) := by rw [e21]; exact hD
      clear e21
      refine lv_iload hx hb dX2_addNew_104 (lv_at hl 0 rfl) ?_
      exact z_ri (wf := (z_st c a)) hx hb hr hlocks hP hD hS hf dX2_addNew_106
    · have hf := z_ifF hf c2
      refine lv_iconst (v := (-1 : Int32)) hx hb dX2_addNew_18 (by decide) ?_
      exact z_ri (wf := (z_st c a)) hx hb hr hlocks hP hD hS hf dX2_addNew_19
abbrev rmX2_changeableRow : Room := { frames := 0, cells := 0, slots := 0, locals := 0 }
theorem qX2_changeableRow_18 : Cond.fieldLink RX2 18 "ProgramDrum$State" "author" "[I" ∈ wsX2_changeableRow := by decide +kernel
theorem iX2_changeableRow_X2 : ∀ w ∈ wsX20, w ∈ wsX2_changeableRow := by decide +kernel
theorem qX2_changeableRow_22 : Cond.fieldLink RX2 22 "ProgramDrum$State" "work" "[I" ∈ wsX2_changeableRow := by decide +kernel
theorem qX2_changeableRow_25 : Cond.fieldLink RX2 25 "ProgramDrum$State" "next" "[I" ∈ wsX2_changeableRow := by decide +kernel
theorem qX2_changeableRow_28 : Cond.fieldLink RX2 28 "ProgramDrum$State" "expects" "[I" ∈ wsX2_changeableRow := by decide +kernel
theorem qX2_changeableRow_31 : Cond.fieldLink RX2 31 "ProgramDrum$State" "bribe" "[I" ∈ wsX2_changeableRow := by decide +kernel
set_option maxRecDepth 100000 in
set_option maxHeartbeats 4000000 in
theorem kX2_changeableRow (l : Launch) (D : va_G) (c : Nat → ClassId) (N : Nat) (a : Nat → Nat) (sz : Nat) (g : z_R) (p1 : Int32) (r0 : Nat) (hf : fX2_changeableRow N p1 g = some r0) : Met l yX2_changeableRow wsX2_changeableRow rmX2_changeableRow (z_Pc D c sz (z_st c a g) [.ref (a 0), .int p1]) (z_Qq D a (z_st c a) r0 g (va_A (z_st c a g) sz)) 0 0 (va_A (z_st c a g) sz) := by
  refine z_ofM (cc := cX2_changeableRow) (maxL := 2) (ret := (some (.array .int))) (Qf := fun A => z_Qq D a (z_st c a) r0 g A) (plainFor_of_name (by decide)) rfl (Nat.le_of_ble_eq_true rfl) ?_
  intro p e s m args below meth co A ls hx hb hr hml hts hown hlocks hnm hA hP hK hD hl hsz
  have hl : lv_has ls 2 [(0, .ref (a 0)), (1, .int p1)] := hl
  have hown : s.vm.findClass RX2 = some m.cls := hown
  obtain ⟨H, hH⟩ : ∃ H, H = s.heap := ⟨_, rfl⟩
  have hS : va_S A s.heap H [] := by rw [hH]; exact va_S.rf
  rw [← hH] at hP ⊢
  clear hH
  unfold fX2_changeableRow at hf
  generalize ([] : List Loc) = locs at hS ⊢
  refine lv_iload_n hx hb dX2_changeableRow_0 rfl (lv_at hl 1 rfl) ?_
  by_cases c1_0 : p1 = (0 : Int32)
  · have hf := z_ifT hf c1_0
    refine lv_tableIn (tgt := 36) hx hb dX2_changeableRow_1 (by rw [c1_0]; decide) (by rw [c1_0]; decide) (off := 35) (by rw [c1_0]; rfl) (by decide) ?_
    refine lv_aload_n hx hb dX2_changeableRow_36 rfl (lv_at hl 0 rfl) ?_
    refine va_get (D := D) (ci := 2) (v := .ref (a 1)) (C := RX2) (T := TX2) (N := 16) hx hb hts iX2_changeableRow_X2 hown hK.1 hP 0 rfl rfl 4 (by decide) (hts _ qX2_changeableRow_18) (fun _ h9 => h9) rfl dX2_changeableRow_37 ?_
    exact z_ra (wf := (z_st c a)) (i := 1) hx hb hr (Or.inr ⟨_, rfl⟩) (Or.inr ⟨_, rfl⟩) hlocks hP hD hS hf dX2_changeableRow_40
  have hf := z_ifF hf c1_0
  by_cases c1_1 : p1 = (1 : Int32)
  · have hf := z_ifT hf c1_1
    refine lv_tableIn (tgt := 41) hx hb dX2_changeableRow_1 (by rw [c1_1]; decide) (by rw [c1_1]; decide) (off := 40) (by rw [c1_1]; rfl) (by decide) ?_
    refine lv_aload_n hx hb dX2_changeableRow_41 rfl (lv_at hl 0 rfl) ?_
    refine va_get (D := D) (ci := 2) (v := .ref (a 2)) (C := RX2) (T := TX2) (N := 16) hx hb hts iX2_changeableRow_X2 hown hK.1 hP 0 rfl rfl 5 (by decide) (hts _ qX2_changeableRow_22) (fun _ h9 => h9) rfl dX2_changeableRow_42 ?_
    exact z_ra (wf := (z_st c a)) (i := 2) hx hb hr (Or.inr ⟨_, rfl⟩) (Or.inr ⟨_, rfl⟩) hlocks hP hD hS hf dX2_changeableRow_45
  have hf := z_ifF hf c1_1
  by_cases c1_2 : p1 = (2 : Int32)
  · have hf := z_ifT hf c1_2
    refine lv_tableIn (tgt := 46) hx hb dX2_changeableRow_1 (by rw [c1_2]; decide) (by rw [c1_2]; decide) (off := 45) (by rw [c1_2]; rfl) (by decide) ?_
    refine lv_aload_n hx hb dX2_changeableRow_46 rfl (lv_at hl 0 rfl) ?_
    refine va_get (D := D) (ci := 2) (v := .ref (a 3)) (C := RX2) (T := TX2) (N := 16) hx hb hts iX2_changeableRow_X2 hown hK.1 hP 0 rfl rfl 6 (by decide) (hts _ qX2_changeableRow_25) (fun _ h9 => h9) rfl dX2_changeableRow_47 ?_
    exact z_ra (wf := (z_st c a)) (i := 3) hx hb hr (Or.inr ⟨_, rfl⟩) (Or.inr ⟨_, rfl⟩) hlocks hP hD hS hf dX2_changeableRow_50
  have hf := z_ifF hf c1_2
  by_cases c1_3 : p1 = (3 : Int32)
  · have hf := z_ifT hf c1_3
    refine lv_tableIn (tgt := 51) hx hb dX2_changeableRow_1 (by rw [c1_3]; decide) (by rw [c1_3]; decide) (off := 50) (by rw [c1_3]; rfl) (by decide) ?_
    refine lv_aload_n hx hb dX2_changeableRow_51 rfl (lv_at hl 0 rfl) ?_
    refine va_get (D := D) (ci := 2) (v := .ref (a 4)) (C := RX2) (T := TX2) (N := 16) hx hb hts iX2_changeableRow_X2 hown hK.1 hP 0 rfl rfl 7 (by decide) (hts _ qX2_changeableRow_28) (fun _ h9 => h9) rfl dX2_changeableRow_52 ?_
    exact z_ra (wf := (z_st c a)) (i := 4) hx hb hr (Or.inr ⟨_, rfl⟩) (Or.inr ⟨_, rfl⟩) hlocks hP hD hS hf dX2_changeableRow_55
  have hf := z_ifF hf c1_3
  by_cases c1_4 : p1 = (4 : Int32)
  · have hf := z_ifT hf c1_4
    refine lv_tableIn (tgt := 56) hx hb dX2_changeableRow_1 (by rw [c1_4]; decide) (by rw [c1_4]; decide) (off := 55) (by rw [c1_4]; rfl) (by decide) ?_
    refine lv_aload_n hx hb dX2_changeableRow_56 rfl (lv_at hl 0 rfl) ?_
    refine va_get (D := D) (ci := 2) (v := .ref (a 5)) (C := RX2) (T := TX2) (N := 16) hx hb hts iX2_changeableRow_X2 hown hK.1 hP 0 rfl rfl 8 (by decide) (hts _ qX2_changeableRow_31) (fun _ h9 => h9) rfl dX2_changeableRow_57 ?_
    exact z_ra (wf := (z_st c a)) (i := 5) hx hb hr (Or.inr ⟨_, rfl⟩) (Or.inr ⟨_, rfl⟩) hlocks hP hD hS hf dX2_changeableRow_60
  have hf := z_ifF hf c1_4
  refine lv_tableOut (tgt := 61) hx hb dX2_changeableRow_1 (z_sw0_4 c1_0 c1_1 c1_2 c1_3 c1_4) (by decide) ?_
  refine lv_null hx hb dX2_changeableRow_61 ?_
  exact z_ra (wf := (z_st c a)) (i := 0) hx hb hr (Or.inr ⟨_, rfl⟩) (Or.inl rfl) hlocks hP hD hS hf dX2_changeableRow_62
abbrev rmX2_replace : Room := { frames := 1, cells := 0, slots := 0, locals := 21 }
set_option maxRecDepth 100000 in
set_option maxHeartbeats 4000000 in
theorem kX2_replace (l : Launch) (D : va_G) (c : Nat → ClassId) (N : Nat) (a : Nat → Nat) (sz : Nat) (g : z_R) (p1 : Int32) (p2 : Int32) (p3 : Int32) (r0 : Int32) (g0 : z_R) (hf : fX2_replace N p1 p2 p3 g = some (r0, g0)) : Met l yX2_replace wsX2_replace rmX2_replace (z_Pc D c sz (z_st c a g) [.ref (a 0), .int p1, .int p2, .int p3]) (z_Qi D (z_st c a) r0 g0 (va_A (z_st c a g) sz)) 0 0 (va_A (z_st c a g) sz) := by
  refine z_ofM (cc := cX2_replace) (maxL := 6) (ret := (some .int)) (Qf := fun A => z_Qi D (z_st c a) r0 g0 A) (plainFor_of_name (by decide)) rfl (Nat.le_of_ble_eq_true rfl) ?_
  intro p e s m args below meth co A ls hx hb hr hml hts hown hlocks hnm hA hP hK hD hl hsz
  have hl : lv_has ls 6 [(0, .ref (a 0)), (1, .int p1), (2, .int p2), (3, .int p3)] := hl
  have hown : s.vm.findClass RX2 = some m.cls := hown
  obtain ⟨H, hH⟩ : ∃ H, H = s.heap := ⟨_, rfl⟩
  have hS : va_S A s.heap H [] := by rw [hH]; exact va_S.rf
  rw [← hH] at hP ⊢
  clear hH
  unfold fX2_replace at hf
  generalize ([] : List Loc) = locs at hS ⊢
  refine lv_aload_n hx hb dX2_replace_0 rfl (lv_at hl 0 rfl) ?_
  refine lv_iload_n hx hb dX2_replace_1 rfl (lv_at hl 2 rfl) ?_
  obtain ⟨r1, h1, hf⟩ := z_bE hf
  refine z_cVq (As := [.int p2]) (rest := []) (wf := (z_st c a)) (g := g) (u0 := g) ⟨hx, hb, hml, hown, hts⟩ (kX2_changeableRow l D c N a H.size g p2 r1 h1) (cwV 1 hts gX2_replace_X2_changeableRow rfl rfl rfl (by decide +kernel) ⟨Nat.le_of_ble_eq_true rfl, Nat.le_of_ble_eq_true rfl⟩) hP hK hD hS hA (ci := 2) (q0 := 0) rfl rfl rfl rfl hl.1 (Nat.le_of_ble_eq_true rfl) rfl dX2_replace_2 ⟨Nat.zero_le _, Nat.zero_le _⟩ (fun H locs hP hD hS => ?_)
  by_cases c1_1 : r1 = 1
  · have hf := z_ifT hf c1_1
    rw [c1_1]
    show W _ _ _ _ _ _ _ _ _ _ _ _ _ _ _ (F0 m 5 _ (.ref (a 1) :: _))
    refine lv_astore (lv' := [(4, .ref (a 1)), (0, .ref (a 0)), (1, .int p1), (2, .int p2), (3, .int p3)]) hx hb dX2_replace_5 hl (by decide) rfl (fun ls hl => ?_)
    refine lv_aload hx hb dX2_replace_7 (lv_at hl 0 rfl) ?_
    refine lv_ifnull hx hb dX2_replace_9 ?_
    refine lv_iload_n hx hb dX2_replace_12 rfl (lv_at hl 2 rfl) ?_
    refine lv_if_lt (tgt := 23) hx hb dX2_replace_13 (by decide) (fun c2 => ?_) (fun c2 => ?_)
    · have hf := z_ifT hf c2
      refine lv_iconst (v := (-1 : Int32)) hx hb dX2_replace_23 (by decide) ?_
      exact z_ri (wf := (z_st c a)) hx hb hr hlocks hP hD hS hf dX2_replace_24
    · have hf := z_ifF hf c2
      refine lv_iload_n hx hb dX2_replace_16 rfl (lv_at hl 2 rfl) ?_
      refine lv_aload hx hb dX2_replace_17 (lv_at hl 0 rfl) ?_
      refine va_alen hx hb hK.1 hP 1 0 rfl rfl (v := (16 : Int32)) rfl dX2_replace_19 ?_
      refine lv_icmp_lt (tgt := 25) hx hb dX2_replace_20 (by decide) (fun c3 => ?_) (fun c3 => ?_)
      · have hf := z_ifT hf c3
        refine lv_aload hx hb dX2_replace_25 (lv_at hl 0 rfl) ?_
        refine lv_iload_n hx hb dX2_replace_27 rfl (lv_at hl 2 rfl) ?_
        obtain ⟨b4, hf⟩ := z_ckE hf
        refine va_iald hx hb hK.1 hP 1 0 rfl rfl (z_inE b4) dX2_replace_28 ?_
        refine lv_istore (lv' := [(5, .int (g 1 (p1).toNatClampNeg)), (4, .ref (a 1)), (0, .ref (a 0)), (1, .int p1), (2, .int p2), (3, .int p3)]) hx hb dX2_replace_29 hl (by decide) rfl (fun ls hl => ?_)
        refine lv_aload hx hb dX2_replace_31 (lv_at hl 1 rfl) ?_
        refine lv_iload_n hx hb dX2_replace_33 rfl (lv_at hl 3 rfl) ?_
        refine lv_iload_n hx hb dX2_replace_34 rfl (lv_at hl 5 rfl) ?_
        obtain ⟨b5, hf⟩ := z_ckE hf
        refine va_iast hx hb hK.1 hP hD hS 1 0 rfl rfl (z_inE b5) dX2_replace_35 (fun H locs hP hD hS => ?_)
        obtain ⟨g6, e6, hf⟩ := z_ltE hf
        have hP : va_P D vwCl (z_st c a g6) H := by rw [e6]; exact hP
        have hD : va_D A (z_st c a g6) := by rw [e6]; exact hD
        clear e6
        refine lv_iload hx hb dX2_replace_36 (lv_at hl 0 rfl) ?_
        exact z_ri (wf := (z_st c a)) hx hb hr hlocks hP hD hS hf dX2_replace_38
      · have hf := z_ifF hf c3
        refine lv_iconst (v := (-1 : Int32)) hx hb dX2_replace_23 (by decide) ?_
        exact z_ri (wf := (z_st c a)) hx hb hr hlocks hP hD hS hf dX2_replace_24
  have hf := z_ifF hf c1_1
  by_cases c1_2 : r1 = 2
  · have hf := z_ifT hf c1_2
    rw [c1_2]
    show W _ _ _ _ _ _ _ _ _ _ _ _ _ _ _ (F0 m 5 _ (.ref (a 2) :: _))
    refine lv_astore (lv' := [(4, .ref (a 2)), (0, .ref (a 0)), (1, .int p1), (2, .int p2), (3, .int p3)]) hx hb dX2_replace_5 hl (by decide) rfl (fun ls hl => ?_)
    refine lv_aload hx hb dX2_replace_7 (lv_at hl 0 rfl) ?_
    refine lv_ifnull hx hb dX2_replace_9 ?_
    refine lv_iload_n hx hb dX2_replace_12 rfl (lv_at hl 2 rfl) ?_
    refine lv_if_lt (tgt := 23) hx hb dX2_replace_13 (by decide) (fun c7 => ?_) (fun c7 => ?_)
    · have hf := z_ifT hf c7
      refine lv_iconst (v := (-1 : Int32)) hx hb dX2_replace_23 (by decide) ?_
      exact z_ri (wf := (z_st c a)) hx hb hr hlocks hP hD hS hf dX2_replace_24
    · have hf := z_ifF hf c7
      refine lv_iload_n hx hb dX2_replace_16 rfl (lv_at hl 2 rfl) ?_
      refine lv_aload hx hb dX2_replace_17 (lv_at hl 0 rfl) ?_
      refine va_alen hx hb hK.1 hP 2 0 rfl rfl (v := (16 : Int32)) rfl dX2_replace_19 ?_
      refine lv_icmp_lt (tgt := 25) hx hb dX2_replace_20 (by decide) (fun c8 => ?_) (fun c8 => ?_)
      · have hf := z_ifT hf c8
        refine lv_aload hx hb dX2_replace_25 (lv_at hl 0 rfl) ?_
        refine lv_iload_n hx hb dX2_replace_27 rfl (lv_at hl 2 rfl) ?_
        obtain ⟨b9, hf⟩ := z_ckE hf
        refine va_iald hx hb hK.1 hP 2 0 rfl rfl (z_inE b9) dX2_replace_28 ?_
        refine lv_istore (lv' := [(5, .int (g 2 (p1).toNatClampNeg)), (4, .ref (a 2)), (0, .ref (a 0)), (1, .int p1), (2, .int p2), (3, .int p3)]) hx hb dX2_replace_29 hl (by decide) rfl (fun ls hl => ?_)
        refine lv_aload hx hb dX2_replace_31 (lv_at hl 1 rfl) ?_
        refine lv_iload_n hx hb dX2_replace_33 rfl (lv_at hl 3 rfl) ?_
        refine lv_iload_n hx hb dX2_replace_34 rfl (lv_at hl 5 rfl) ?_
        obtain ⟨b10, hf⟩ := z_ckE hf
        refine va_iast hx hb hK.1 hP hD hS 2 0 rfl rfl (z_inE b10) dX2_replace_35 (fun H locs hP hD hS => ?_)
        obtain ⟨g11, e11, hf⟩ := z_ltE hf
        have hP : va_P D vwCl (z_st c a g11) H := by rw [e11]; exact hP
        have hD : va_D A (z_st c a g11) := by rw [e11]; exact hD
        clear e11
        refine lv_iload hx hb dX2_replace_36 (lv_at hl 0 rfl) ?_
        exact z_ri (wf := (z_st c a)) hx hb hr hlocks hP hD hS hf dX2_replace_38
      · have hf := z_ifF hf c8
        refine lv_iconst (v := (-1 : Int32)) hx hb dX2_replace_23 (by decide) ?_
        exact z_ri (wf := (z_st c a)) hx hb hr hlocks hP hD hS hf dX2_replace_24
  have hf := z_ifF hf c1_2
  by_cases c1_3 : r1 = 3
  · have hf := z_ifT hf c1_3
    rw [c1_3]
    show W _ _ _ _ _ _ _ _ _ _ _ _ _ _ _ (F0 m 5 _ (.ref (a 3) :: _))
    refine lv_astore (lv' := [(4, .ref (a 3)), (0, .ref (a 0)), (1, .int p1), (2, .int p2), (3, .int p3)]) hx hb dX2_replace_5 hl (by decide) rfl (fun ls hl => ?_)
    refine lv_aload hx hb dX2_replace_7 (lv_at hl 0 rfl) ?_
    refine lv_ifnull hx hb dX2_replace_9 ?_
    refine lv_iload_n hx hb dX2_replace_12 rfl (lv_at hl 2 rfl) ?_
    refine lv_if_lt (tgt := 23) hx hb dX2_replace_13 (by decide) (fun c12 => ?_) (fun c12 => ?_)
    · have hf := z_ifT hf c12
      refine lv_iconst (v := (-1 : Int32)) hx hb dX2_replace_23 (by decide) ?_
      exact z_ri (wf := (z_st c a)) hx hb hr hlocks hP hD hS hf dX2_replace_24
    · have hf := z_ifF hf c12
      refine lv_iload_n hx hb dX2_replace_16 rfl (lv_at hl 2 rfl) ?_
      refine lv_aload hx hb dX2_replace_17 (lv_at hl 0 rfl) ?_
      refine va_alen hx hb hK.1 hP 3 0 rfl rfl (v := (16 : Int32)) rfl dX2_replace_19 ?_
      refine lv_icmp_lt (tgt := 25) hx hb dX2_replace_20 (by decide) (fun c13 => ?_) (fun c13 => ?_)
      · have hf := z_ifT hf c13
        refine lv_aload hx hb dX2_replace_25 (lv_at hl 0 rfl) ?_
        refine lv_iload_n hx hb dX2_replace_27 rfl (lv_at hl 2 rfl) ?_
        obtain ⟨b14, hf⟩ := z_ckE hf
        refine va_iald hx hb hK.1 hP 3 0 rfl rfl (z_inE b14) dX2_replace_28 ?_
        refine lv_istore (lv' := [(5, .int (g 3 (p1).toNatClampNeg)), (4, .ref (a 3)), (0, .ref (a 0)), (1, .int p1), (2, .int p2), (3, .int p3)]) hx hb dX2_replace_29 hl (by decide) rfl (fun ls hl => ?_)
        refine lv_aload hx hb dX2_replace_31 (lv_at hl 1 rfl) ?_
        refine lv_iload_n hx hb dX2_replace_33 rfl (lv_at hl 3 rfl) ?_
        refine lv_iload_n hx hb dX2_replace_34 rfl (lv_at hl 5 rfl) ?_
        obtain ⟨b15, hf⟩ := z_ckE hf
        refine va_iast hx hb hK.1 hP hD hS 3 0 rfl rfl (z_inE b15) dX2_replace_35 (fun H locs hP hD hS => ?_)
        obtain ⟨g16, e16, hf⟩ := z_ltE hf
        have hP : va_P D vwCl (z_st c a g16) H := by rw [e16]; exact hP
        have hD : va_D A (z_st c a g16) := by rw [e16]; exact hD
        clear e16
        refine lv_iload hx hb dX2_replace_36 (lv_at hl 0 rfl) ?_
        exact z_ri (wf := (z_st c a)) hx hb hr hlocks hP hD hS hf dX2_replace_38
      · have hf := z_ifF hf c13
        refine lv_iconst (v := (-1 : Int32)) hx hb dX2_replace_23 (by decide) ?_
        exact z_ri (wf := (z_st c a)) hx hb hr hlocks hP hD hS hf dX2_replace_24
  have hf := z_ifF hf c1_3
  by_cases c1_4 : r1 = 4
  · have hf := z_ifT hf c1_4
    rw [c1_4]
    show W _ _ _ _ _ _ _ _ _ _ _ _ _ _ _ (F0 m 5 _ (.ref (a 4) :: _))
    refine lv_astore (lv' := [(4, .ref (a 4)), (0, .ref (a 0)), (1, .int p1), (2, .int p2), (3, .int p3)]) hx hb dX2_replace_5 hl (by decide) rfl (fun ls hl => ?_)
    refine lv_aload hx hb dX2_replace_7 (lv_at hl 0 rfl) ?_
    refine lv_ifnull hx hb dX2_replace_9 ?_
    refine lv_iload_n hx hb dX2_replace_12 rfl (lv_at hl 2 rfl) ?_
    refine lv_if_lt (tgt := 23) hx hb dX2_replace_13 (by decide) (fun c17 => ?_) (fun c17 => ?_)
    · have hf := z_ifT hf c17
      refine lv_iconst (v := (-1 : Int32)) hx hb dX2_replace_23 (by decide) ?_
      exact z_ri (wf := (z_st c a)) hx hb hr hlocks hP hD hS hf dX2_replace_24
    · have hf := z_ifF hf c17
      refine lv_iload_n hx hb dX2_replace_16 rfl (lv_at hl 2 rfl) ?_
      refine lv_aload hx hb dX2_replace_17 (lv_at hl 0 rfl) ?_
      refine va_alen hx hb hK.1 hP 4 0 rfl rfl (v := (16 : Int32)) rfl dX2_replace_19 ?_
      refine lv_icmp_lt (tgt := 25) hx hb dX2_replace_20 (by decide) (fun c18 => ?_) (fun c18 => ?_)
      · have hf := z_ifT hf c18
        refine lv_aload hx hb dX2_replace_25 (lv_at hl 0 rfl) ?_
        refine lv_iload_n hx hb dX2_replace_27 rfl (lv_at hl 2 rfl) ?_
        obtain ⟨b19, hf⟩ := z_ckE hf
        refine va_iald hx hb hK.1 hP 4 0 rfl rfl (z_inE b19) dX2_replace_28 ?_
        refine lv_istore (lv' := [(5, .int (g 4 (p1).toNatClampNeg)), (4, .ref (a 4)), (0, .ref (a 0)), (1, .int p1), (2, .int p2), (3, .int p3)]) hx hb dX2_replace_29 hl (by decide) rfl (fun ls hl => ?_)
        refine lv_aload hx hb dX2_replace_31 (lv_at hl 1 rfl) ?_
        refine lv_iload_n hx hb dX2_replace_33 rfl (lv_at hl 3 rfl) ?_
        refine lv_iload_n hx hb dX2_replace_34 rfl (lv_at hl 5 rfl) ?_
        obtain ⟨b20, hf⟩ := z_ckE hf
        refine va_iast hx hb hK.1 hP hD hS 4 0 rfl rfl (z_inE b20) dX2_replace_35 (fun H locs hP hD hS => ?_)
        obtain ⟨g21, e21, hf⟩ := z_ltE hf
        have hP : va_P D vwCl (z_st c a g21) H := by rw [e21]; exact hP
        have hD : va_D A (z_st c a g21) := by rw [e21]; exact hD
        clear e21
        refine lv_iload hx hb dX2_replace_36 (lv_at hl 0 rfl) ?_
        exact z_ri (wf := (z_st c a)) hx hb hr hlocks hP hD hS hf dX2_replace_38
      · have hf := z_ifF hf c18
        refine lv_iconst (v := (-1 : Int32)) hx hb dX2_replace_23 (by decide) ?_
        exact z_ri (wf := (z_st c a)) hx hb hr hlocks hP hD hS hf dX2_replace_24
  have hf := z_ifF hf c1_4
  by_cases c1_5 : r1 = 5
  · have hf := z_ifT hf c1_5
    rw [c1_5]
    show W _ _ _ _ _ _ _ _ _ _ _ _ _ _ _ (F0 m 5 _ (.ref (a 5) :: _))
    refine lv_astore (lv' := [(4, .ref (a 5)), (0, .ref (a 0)), (1, .int p1), (2, .int p2), (3, .int p3)]) hx hb dX2_replace_5 hl (by decide) rfl (fun ls hl => ?_)
    refine lv_aload hx hb dX2_replace_7 (lv_at hl 0 rfl) ?_
    refine lv_ifnull hx hb dX2_replace_9 ?_
    refine lv_iload_n hx hb dX2_replace_12 rfl (lv_at hl 2 rfl) ?_
    refine lv_if_lt (tgt := 23) hx hb dX2_replace_13 (by decide) (fun c22 => ?_) (fun c22 => ?_)
    · have hf := z_ifT hf c22
      refine lv_iconst (v := (-1 : Int32)) hx hb dX2_replace_23 (by decide) ?_
      exact z_ri (wf := (z_st c a)) hx hb hr hlocks hP hD hS hf dX2_replace_24
    · have hf := z_ifF hf c22
      refine lv_iload_n hx hb dX2_replace_16 rfl (lv_at hl 2 rfl) ?_
      refine lv_aload hx hb dX2_replace_17 (lv_at hl 0 rfl) ?_
      refine va_alen hx hb hK.1 hP 5 0 rfl rfl (v := (16 : Int32)) rfl dX2_replace_19 ?_
      refine lv_icmp_lt (tgt := 25) hx hb dX2_replace_20 (by decide) (fun c23 => ?_) (fun c23 => ?_)
      · have hf := z_ifT hf c23
        refine lv_aload hx hb dX2_replace_25 (lv_at hl 0 rfl) ?_
        refine lv_iload_n hx hb dX2_replace_27 rfl (lv_at hl 2 rfl) ?_
        obtain ⟨b24, hf⟩ := z_ckE hf
        refine va_iald hx hb hK.1 hP 5 0 rfl rfl (z_inE b24) dX2_replace_28 ?_
        refine lv_istore (lv' := [(5, .int (g 5 (p1).toNatClampNeg)), (4, .ref (a 5)), (0, .ref (a 0)), (1, .int p1), (2, .int p2), (3, .int p3)]) hx hb dX2_replace_29 hl (by decide) rfl (fun ls hl => ?_)
        refine lv_aload hx hb dX2_replace_31 (lv_at hl 1 rfl) ?_
        refine lv_iload_n hx hb dX2_replace_33 rfl (lv_at hl 3 rfl) ?_
        refine lv_iload_n hx hb dX2_replace_34 rfl (lv_at hl 5 rfl) ?_
        obtain ⟨b25, hf⟩ := z_ckE hf
        refine va_iast hx hb hK.1 hP hD hS 5 0 rfl rfl (z_inE b25) dX2_replace_35 (fun H locs hP hD hS => ?_)
        obtain ⟨g26, e26, hf⟩ := z_ltE hf
        have hP : va_P D vwCl (z_st c a g26) H := by rw [e26]; exact hP
        have hD : va_D A (z_st c a g26) := by rw [e26]; exact hD
        clear e26
        refine lv_iload hx hb dX2_replace_36 (lv_at hl 0 rfl) ?_
        exact z_ri (wf := (z_st c a)) hx hb hr hlocks hP hD hS hf dX2_replace_38
      · have hf := z_ifF hf c23
        refine lv_iconst (v := (-1 : Int32)) hx hb dX2_replace_23 (by decide) ?_
        exact z_ri (wf := (z_st c a)) hx hb hr hlocks hP hD hS hf dX2_replace_24
  have hf := z_ifF hf c1_5
  by_cases c1_0 : r1 = 0
  · have hf := z_ifT hf c1_0
    rw [c1_0]
    show W _ _ _ _ _ _ _ _ _ _ _ _ _ _ _ (F0 m 5 _ (.null :: _))
    refine lv_astoreN (lv' := [(4, .null), (0, .ref (a 0)), (1, .int p1), (2, .int p2), (3, .int p3)]) hx hb dX2_replace_5 hl (by decide) rfl (fun ls hl => ?_)
    refine lv_aloadN hx hb dX2_replace_7 (lv_at hl 0 rfl) ?_
    refine lv_ifnullN (tgt := 23) hx hb dX2_replace_9 (by decide) ?_
    refine lv_iconst (v := (-1 : Int32)) hx hb dX2_replace_23 (by decide) ?_
    exact z_ri (wf := (z_st c a)) hx hb hr hlocks hP hD hS hf dX2_replace_24
  have hf := z_ifF hf c1_0
  cases hf
abbrev rmX2_refund : Room := { frames := 1, cells := 0, slots := 0, locals := 20 }
theorem qX2_refund_40 : Cond.fieldLink RX2 40 "ProgramDrum$State" "open" "[I" ∈ wsX2_refund := by decide +kernel
theorem iX2_refund_X2 : ∀ w ∈ wsX20, w ∈ wsX2_refund := by decide +kernel
theorem qX2_refund_18 : Cond.fieldLink RX2 18 "ProgramDrum$State" "author" "[I" ∈ wsX2_refund := by decide +kernel
theorem qX2_refund_st_X4_isAuthor : Cond.static yX4_isAuthor ∈ wsX2_refund := by decide +kernel
theorem qX2_refund_in_X4 : Cond.initialized RX4 ∈ wsX2_refund := by decide +kernel
theorem qX2_refund_49 : Cond.fieldLink RX2 49 "ProgramDrum$State" "refunded" "[I" ∈ wsX2_refund := by decide +kernel
set_option maxRecDepth 100000 in
set_option maxHeartbeats 4000000 in
theorem kX2_refund (l : Launch) (D : va_G) (c : Nat → ClassId) (N : Nat) (a : Nat → Nat) (sz : Nat) (g : z_R) (p1 : Int32) (r0 : Int32) (g0 : z_R) (hf : fX2_refund N p1 g = some (r0, g0)) : Met l yX2_refund wsX2_refund rmX2_refund (z_Pc D c sz (z_st c a g) [.ref (a 0), .int p1]) (z_Qi D (z_st c a) r0 g0 (va_A (z_st c a g) sz)) 0 0 (va_A (z_st c a g) sz) := by
  refine z_ofM (cc := cX2_refund) (maxL := 3) (ret := (some .int)) (Qf := fun A => z_Qi D (z_st c a) r0 g0 A) (plainFor_of_name (by decide)) rfl (Nat.le_of_ble_eq_true rfl) ?_
  intro p e s m args below meth co A ls hx hb hr hml hts hown hlocks hnm hA hP hK hD hl hsz
  have hl : lv_has ls 3 [(0, .ref (a 0)), (1, .int p1)] := hl
  have hown : s.vm.findClass RX2 = some m.cls := hown
  obtain ⟨H, hH⟩ : ∃ H, H = s.heap := ⟨_, rfl⟩
  have hS : va_S A s.heap H [] := by rw [hH]; exact va_S.rf
  rw [← hH] at hP ⊢
  clear hH
  unfold fX2_refund at hf
  generalize ([] : List Loc) = locs at hS ⊢
  refine lv_aload_n hx hb dX2_refund_0 rfl (lv_at hl 0 rfl) ?_
  refine va_get (D := D) (ci := 2) (v := .ref (a 8)) (C := RX2) (T := TX2) (N := 16) hx hb hts iX2_refund_X2 hown hK.1 hP 0 rfl rfl 11 (by decide) (hts _ qX2_refund_40) (fun _ h9 => h9) rfl dX2_refund_1 ?_
  refine lv_iload_n hx hb dX2_refund_4 rfl (lv_at hl 1 rfl) ?_
  obtain ⟨b1, hf⟩ := z_ckE hf
  refine va_iald hx hb hK.1 hP 8 0 rfl rfl (z_inE b1) dX2_refund_5 ?_
  refine lv_istore_n (lv' := [(2, .int (g 8 (p1).toNatClampNeg)), (0, .ref (a 0)), (1, .int p1)]) hx hb dX2_refund_6 rfl hl (by decide) rfl (fun ls hl => ?_)
  refine lv_aload_n hx hb dX2_refund_7 rfl (lv_at hl 1 rfl) ?_
  refine va_get (D := D) (ci := 2) (v := .ref (a 8)) (C := RX2) (T := TX2) (N := 16) hx hb hts iX2_refund_X2 hown hK.1 hP 0 rfl rfl 11 (by decide) (hts _ qX2_refund_40) (fun _ h9 => h9) rfl dX2_refund_8 ?_
  refine lv_iload_n hx hb dX2_refund_11 rfl (lv_at hl 2 rfl) ?_
  refine lv_iconst (v := (0 : Int32)) hx hb dX2_refund_12 (by decide) ?_
  obtain ⟨b2, hf⟩ := z_ckE hf
  refine va_iast hx hb hK.1 hP hD hS 8 0 rfl rfl (z_inE b2) dX2_refund_13 (fun H locs hP hD hS => ?_)
  obtain ⟨g3, e3, hf⟩ := z_ltE hf
  have hP : va_P D vwCl (z_st c a g3) H := by rw [e3]; exact hP
  have hD : va_D A (z_st c a g3) := by rw [e3]; exact hD
  clear e3
  refine lv_aload_n hx hb dX2_refund_14 rfl (lv_at hl 1 rfl) ?_
  refine va_get (D := D) (ci := 2) (v := .ref (a 1)) (C := RX2) (T := TX2) (N := 16) hx hb hts iX2_refund_X2 hown hK.1 hP 0 rfl rfl 4 (by decide) (hts _ qX2_refund_18) (fun _ h9 => h9) rfl dX2_refund_15 ?_
  refine lv_iload_n hx hb dX2_refund_18 rfl (lv_at hl 2 rfl) ?_
  obtain ⟨b4, hf⟩ := z_ckE hf
  refine va_iald hx hb hK.1 hP 1 0 rfl rfl (z_inE b4) dX2_refund_19 ?_
  obtain ⟨r5, h5, hf⟩ := z_bE hf
  refine z_cNi (As := [.int (g3 1 (p1).toNatClampNeg)]) (rest := []) ⟨hx, hb, hml, hown, hts⟩ (kX4_isAuthor l D c N H.size (g3 1 (p1).toNatClampNeg) r5 h5) ⟨va_cnB 1 hts gX2_refund_X4_isAuthor_n100 rfl rfl rfl (hK.2.2 _ zM_X2_100) (hts _ qX2_refund_in_X4) (by decide +kernel) ⟨Nat.le_of_ble_eq_true rfl, Nat.le_of_ble_eq_true rfl⟩, hts _ qX2_refund_st_X4_isAuthor, trivial⟩ hP hK hS hA rfl hl.1 (Nat.le_of_ble_eq_true rfl) rfl dX2_refund_20 ⟨Nat.zero_le _, Nat.zero_le _⟩ (fun H locs hP hS => ?_)
  refine lv_if_eq (tgt := 41) hx hb dX2_refund_23 (by decide) (fun c6 => ?_) (fun c6 => ?_)
  · have hf := z_ifT hf c6
    refine lv_iload_n hx hb dX2_refund_41 rfl (lv_at hl 0 rfl) ?_
    exact z_ri (wf := (z_st c a)) hx hb hr hlocks hP hD hS hf dX2_refund_42
  · have hf := z_ifF hf c6
    refine lv_aload_n hx hb dX2_refund_26 rfl (lv_at hl 1 rfl) ?_
    refine va_get (D := D) (ci := 2) (v := .ref (a 11)) (C := RX2) (T := TX2) (N := 16) hx hb hts iX2_refund_X2 hown hK.1 hP 0 rfl rfl 14 (by decide) (hts _ qX2_refund_49) (fun _ h9 => h9) rfl dX2_refund_27 ?_
    refine lv_aload_n hx hb dX2_refund_30 rfl (lv_at hl 1 rfl) ?_
    refine va_get (D := D) (ci := 2) (v := .ref (a 1)) (C := RX2) (T := TX2) (N := 16) hx hb hts iX2_refund_X2 hown hK.1 hP 0 rfl rfl 4 (by decide) (hts _ qX2_refund_18) (fun _ h9 => h9) rfl dX2_refund_31 ?_
    refine lv_iload_n hx hb dX2_refund_34 rfl (lv_at hl 2 rfl) ?_
    obtain ⟨b7, hf⟩ := z_ckE hf
    refine va_iald hx hb hK.1 hP 1 0 rfl rfl (z_inE b7) dX2_refund_35 ?_
    refine lv_dup2_11 hx hb dX2_refund_36 rfl rfl ?_
    obtain ⟨b8, hf⟩ := z_ckE hf
    refine va_iald hx hb hK.1 hP 11 0 rfl rfl (z_inE b8) dX2_refund_37 ?_
    refine lv_iload_n hx hb dX2_refund_38 rfl (lv_at hl 0 rfl) ?_
    refine lv_iadd hx hb dX2_refund_39 ?_
    obtain ⟨b9, hf⟩ := z_ckE hf
    refine va_iast hx hb hK.1 hP hD hS 11 0 rfl rfl (z_inE b9) dX2_refund_40 (fun H locs hP hD hS => ?_)
    obtain ⟨g10, e10, hf⟩ := z_ltE hf
    have hP : va_P D vwCl (z_st c a g10) H := by rw [e10]; exact hP
    have hD : va_D A (z_st c a g10) := by rw [e10]; exact hD
    clear e10
    refine lv_iload_n hx hb dX2_refund_41 rfl (lv_at hl 0 rfl) ?_
    exact z_ri (wf := (z_st c a)) hx hb hr hlocks hP hD hS hf dX2_refund_42
abbrev rmX2_put : Room := { frames := 2, cells := 0, slots := 0, locals := 42 }
theorem qX2_put_34 : Cond.fieldLink RX2 34 "ProgramDrum$State" "place" "[I" ∈ wsX2_put := by decide +kernel
theorem iX2_put_X2 : ∀ w ∈ wsX20, w ∈ wsX2_put := by decide +kernel
theorem qX2_put_37 : Cond.fieldLink RX2 37 "ProgramDrum$State" "delay" "[I" ∈ wsX2_put := by decide +kernel
set_option maxRecDepth 100000 in
set_option maxHeartbeats 4000000 in
theorem kX2_put (l : Launch) (D : va_G) (c : Nat → ClassId) (N : Nat) (a : Nat → Nat) (sz : Nat) (g : z_R) (p1 : Int32) (p2 : Int32) (r0 : Int32) (g0 : z_R) (hf : fX2_put N p1 p2 g = some (r0, g0)) : Met l yX2_put wsX2_put rmX2_put (z_Pc D c sz (z_st c a g) [.ref (a 0), .int p1, .int p2]) (z_Qi D (z_st c a) r0 g0 (va_A (z_st c a g) sz)) 0 0 (va_A (z_st c a g) sz) := by
  refine z_ofM (cc := cX2_put) (maxL := 4) (ret := (some .int)) (Qf := fun A => z_Qi D (z_st c a) r0 g0 A) (plainFor_of_name (by decide)) rfl (Nat.le_of_ble_eq_true rfl) ?_
  intro p e s m args below meth co A ls hx hb hr hml hts hown hlocks hnm hA hP hK hD hl hsz
  have hl : lv_has ls 4 [(0, .ref (a 0)), (1, .int p1), (2, .int p2)] := hl
  have hown : s.vm.findClass RX2 = some m.cls := hown
  obtain ⟨H, hH⟩ : ∃ H, H = s.heap := ⟨_, rfl⟩
  have hS : va_S A s.heap H [] := by rw [hH]; exact va_S.rf
  rw [← hH] at hP ⊢
  clear hH
  unfold fX2_put at hf
  generalize ([] : List Loc) = locs at hS ⊢
  refine lv_aload_n hx hb dX2_put_0 rfl (lv_at hl 0 rfl) ?_
  refine lv_iload_n hx hb dX2_put_1 rfl (lv_at hl 1 rfl) ?_
  obtain ⟨r1, g1, h1, hf⟩ := z_b2E hf
  refine z_cVi (As := [.int p1]) (rest := []) (wf := (z_st c a)) (g := g) (u0 := g1) ⟨hx, hb, hml, hown, hts⟩ (kX2_refund l D c N a H.size g p1 r1 g1 h1) (cwV 1 hts gX2_put_X2_refund rfl rfl rfl (by decide +kernel) ⟨Nat.le_of_ble_eq_true rfl, Nat.le_of_ble_eq_true rfl⟩) hP hK hD hS hA (ci := 2) (q0 := 0) rfl rfl rfl rfl hl.1 (Nat.le_of_ble_eq_true rfl) rfl dX2_put_2 ⟨Nat.zero_le _, Nat.zero_le _⟩ (fun H locs hP hD hS => ?_)
  refine lv_istore_n (lv' := [(3, .int r1), (0, .ref (a 0)), (1, .int p1), (2, .int p2)]) hx hb dX2_put_5 rfl hl (by decide) rfl (fun ls hl => ?_)
  refine lv_aload_n hx hb dX2_put_6 rfl (lv_at hl 1 rfl) ?_
  refine va_get (D := D) (ci := 2) (v := .ref (a 6)) (C := RX2) (T := TX2) (N := 16) hx hb hts iX2_put_X2 hown hK.1 hP 0 rfl rfl 9 (by decide) (hts _ qX2_put_34) (fun _ h9 => h9) rfl dX2_put_7 ?_
  refine lv_iload_n hx hb dX2_put_10 rfl (lv_at hl 2 rfl) ?_
  refine lv_iload_n hx hb dX2_put_11 rfl (lv_at hl 3 rfl) ?_
  obtain ⟨b2, hf⟩ := z_ckE hf
  refine va_iast hx hb hK.1 hP hD hS 6 0 rfl rfl (z_inE b2) dX2_put_12 (fun H locs hP hD hS => ?_)
  obtain ⟨g3, e3, hf⟩ := z_ltE hf
  have hP : va_P D vwCl (z_st c a g3) H := by rw [e3]; exact hP
  have hD : va_D A (z_st c a g3) := by rw [e3]; exact hD
  clear e3
  refine lv_aload_n hx hb dX2_put_13 rfl (lv_at hl 1 rfl) ?_
  refine va_get (D := D) (ci := 2) (v := .ref (a 7)) (C := RX2) (T := TX2) (N := 16) hx hb hts iX2_put_X2 hown hK.1 hP 0 rfl rfl 10 (by decide) (hts _ qX2_put_37) (fun _ h9 => h9) rfl dX2_put_14 ?_
  refine lv_iload_n hx hb dX2_put_17 rfl (lv_at hl 2 rfl) ?_
  refine lv_iconst (v := (-1 : Int32)) hx hb dX2_put_18 (by decide) ?_
  obtain ⟨b4, hf⟩ := z_ckE hf
  refine va_iast hx hb hK.1 hP hD hS 7 0 rfl rfl (z_inE b4) dX2_put_19 (fun H locs hP hD hS => ?_)
  obtain ⟨g5, e5, hf⟩ := z_ltE hf
  have hP : va_P D vwCl (z_st c a g5) H := by rw [e5]; exact hP
  have hD : va_D A (z_st c a g5) := by rw [e5]; exact hD
  clear e5
  refine lv_iload_n hx hb dX2_put_20 rfl (lv_at hl 0 rfl) ?_
  exact z_ri (wf := (z_st c a)) hx hb hr hlocks hP hD hS hf dX2_put_21
abbrev rmX2_takeAllOff : Room := { frames := 3, cells := 0, slots := 0, locals := 65 }
set_option maxRecDepth 100000 in
set_option maxHeartbeats 4000000 in
theorem kX2_takeAllOff (l : Launch) (D : va_G) (c : Nat → ClassId) (N : Nat) (a : Nat → Nat) (sz : Nat) (g : z_R) (g0 : z_R) (hf : fX2_takeAllOff N g = some g0) : Met l yX2_takeAllOff wsX2_takeAllOff rmX2_takeAllOff (z_Pc D c sz (z_st c a g) [.ref (a 0)]) (z_Qv D (z_st c a) g0 (va_A (z_st c a g) sz)) 0 0 (va_A (z_st c a g) sz) := by
  refine z_ofM (cc := cX2_takeAllOff) (maxL := 2) (ret := none) (Qf := fun A => z_Qv D (z_st c a) g0 A) (plainFor_of_name (by decide)) rfl (Nat.le_of_ble_eq_true rfl) ?_
  intro p e s m args below meth co A ls hx hb hr hml hts hown hlocks hnm hA hP hK hD hl hsz
  have hl : lv_has ls 2 [(0, .ref (a 0))] := hl
  have hown : s.vm.findClass RX2 = some m.cls := hown
  obtain ⟨H, hH⟩ : ∃ H, H = s.heap := ⟨_, rfl⟩
  have hS : va_S A s.heap H [] := by rw [hH]; exact va_S.rf
  rw [← hH] at hP ⊢
  clear hH
  have L2 : ∀ (fu : Nat) (x1 : Int32) (g : z_R), lX2_takeAllOff_2 N fu x1 g = some g0 → ∀ (H : Heap) (locs : List Loc) (ls : Array Slot), va_P D vwCl (z_st c a g) H → va_D A (z_st c a g) → va_S A s.heap H locs → lv_has ls 2 [(0, .ref (a 0)), (1, .int x1)] → W p l e rmX2_takeAllOff s m args below meth co H locs 0 0 (MQ below (z_Qv D (z_st c a) g0 A) args s 0 0 A) (F0 m 2 ls []) := by
    intro fu
    induction fu with
    | zero =>
      intro x1 g hf
      have hf : (none : Option (z_R)) = some _ := hf
      cases hf
    | succ fu ih =>
      intro x1 g hf H locs ls hP hD hS hl
      rw [lX2_takeAllOff_2.eq_2] at hf
      refine lv_iload_n hx hb dX2_takeAllOff_2 rfl (lv_at hl 1 rfl) ?_
      refine lv_bipush (v := (16 : Int32)) hx hb dX2_takeAllOff_3 (by decide) ?_
      refine lv_icmp_ge (tgt := 29) hx hb dX2_takeAllOff_5 (by decide) (fun c1 => ?_) (fun c1 => ?_)
      · have hf := z_ifT hf c1
        exact z_rv (wf := (z_st c a)) hx hb hr hlocks hP hD hS hf dX2_takeAllOff_29
      · have hf := z_ifF hf c1
        refine lv_aload_n hx hb dX2_takeAllOff_8 rfl (lv_at hl 0 rfl) ?_
        refine lv_iload_n hx hb dX2_takeAllOff_9 rfl (lv_at hl 1 rfl) ?_
        obtain ⟨r2, h2, hf⟩ := z_bE hf
        refine z_cVi (As := [.int x1]) (rest := []) (wf := (z_st c a)) (g := g) (u0 := g) ⟨hx, hb, hml, hown, hts⟩ (kX2_has l D c N a H.size g x1 r2 h2) (cwV 1 hts gX2_takeAllOff_X2_has rfl rfl rfl (by decide +kernel) ⟨Nat.le_of_ble_eq_true rfl, Nat.le_of_ble_eq_true rfl⟩) hP hK hD hS hA (ci := 2) (q0 := 0) rfl rfl rfl rfl hl.1 (Nat.le_of_ble_eq_true rfl) rfl dX2_takeAllOff_10 ⟨Nat.zero_le _, Nat.zero_le _⟩ (fun H locs hP hD hS => ?_)
        refine lv_if_eq (tgt := 29) hx hb dX2_takeAllOff_13 (by decide) (fun c3 => ?_) (fun c3 => ?_)
        · have hf := z_ifT hf c3
          exact z_rv (wf := (z_st c a)) hx hb hr hlocks hP hD hS hf dX2_takeAllOff_29
        · have hf := z_ifF hf c3
          refine lv_aload_n hx hb dX2_takeAllOff_16 rfl (lv_at hl 0 rfl) ?_
          refine lv_iload_n hx hb dX2_takeAllOff_17 rfl (lv_at hl 1 rfl) ?_
          refine lv_iconst (v := (-1 : Int32)) hx hb dX2_takeAllOff_18 (by decide) ?_
          obtain ⟨r4, g4, h4, hf⟩ := z_b2E hf
          refine z_cVi (As := [.int x1, .int (-1 : Int32)]) (rest := []) (wf := (z_st c a)) (g := g) (u0 := g4) ⟨hx, hb, hml, hown, hts⟩ (kX2_put l D c N a H.size g x1 (-1 : Int32) r4 g4 h4) (cwV 2 hts gX2_takeAllOff_X2_put rfl rfl rfl (by decide +kernel) ⟨Nat.le_of_ble_eq_true rfl, Nat.le_of_ble_eq_true rfl⟩) hP hK hD hS hA (ci := 2) (q0 := 0) rfl rfl rfl rfl hl.1 (Nat.le_of_ble_eq_true rfl) rfl dX2_takeAllOff_19 ⟨Nat.zero_le _, Nat.zero_le _⟩ (fun H locs hP hD hS => ?_)
          refine lv_pop hx hb dX2_takeAllOff_22 rfl ?_
          refine lv_iinc (v := (x1 + (1 : Int32))) (lv' := [(1, .int (x1 + (1 : Int32))), (0, .ref (a 0))]) hx hb dX2_takeAllOff_23 hl (k := 1) rfl rfl (by decide) rfl (fun ls hl => ?_)
          refine lv_goto (tgt := 2) hx hb dX2_takeAllOff_26 (by decide) ?_
          exact ih _ _ hf H locs ls hP hD hS (lv_sub hl [1, 0] rfl)
  unfold fX2_takeAllOff at hf
  generalize ([] : List Loc) = locs at hS ⊢
  refine lv_iconst (v := (0 : Int32)) hx hb dX2_takeAllOff_0 (by decide) ?_
  refine lv_istore_n (lv' := [(1, .int (0 : Int32)), (0, .ref (a 0))]) hx hb dX2_takeAllOff_1 rfl hl (by decide) rfl (fun ls hl => ?_)
  exact L2 N _ _ hf H locs ls hP hD hS (lv_sub hl [1, 0] rfl)
abbrev rmX2_laidBehind : Room := { frames := 1, cells := 0, slots := 0, locals := 21 }
theorem qX2_laidBehind_31 : Cond.fieldLink RX2 31 "ProgramDrum$State" "bribe" "[I" ∈ wsX2_laidBehind := by decide +kernel
theorem iX2_laidBehind_X2 : ∀ w ∈ wsX20, w ∈ wsX2_laidBehind := by decide +kernel
set_option maxRecDepth 100000 in
set_option maxHeartbeats 4000000 in
theorem kX2_laidBehind (l : Launch) (D : va_G) (c : Nat → ClassId) (N : Nat) (a : Nat → Nat) (sz : Nat) (g : z_R) (p1 : Int32) (r0 : Int32) (hf : fX2_laidBehind N p1 g = some r0) : Met l yX2_laidBehind wsX2_laidBehind rmX2_laidBehind (z_Pc D c sz (z_st c a g) [.ref (a 0), .int p1]) (z_Qi D (z_st c a) r0 g (va_A (z_st c a g) sz)) 0 0 (va_A (z_st c a g) sz) := by
  refine z_ofM (cc := cX2_laidBehind) (maxL := 5) (ret := (some .int)) (Qf := fun A => z_Qi D (z_st c a) r0 g A) (plainFor_of_name (by decide)) rfl (Nat.le_of_ble_eq_true rfl) ?_
  intro p e s m args below meth co A ls hx hb hr hml hts hown hlocks hnm hA hP hK hD hl hsz
  have hl : lv_has ls 5 [(0, .ref (a 0)), (1, .int p1)] := hl
  have hown : s.vm.findClass RX2 = some m.cls := hown
  obtain ⟨H, hH⟩ : ∃ H, H = s.heap := ⟨_, rfl⟩
  have hS : va_S A s.heap H [] := by rw [hH]; exact va_S.rf
  rw [← hH] at hP ⊢
  clear hH
  have L4 : ∀ (x1 : Int32) (g : z_R) (fu : Nat) (x2 : Int32) (x3 : Int32), lX2_laidBehind_4 N x1 g fu x2 x3 = some r0 → ∀ (H : Heap) (locs : List Loc) (ls : Array Slot), va_P D vwCl (z_st c a g) H → va_D A (z_st c a g) → va_S A s.heap H locs → lv_has ls 5 [(0, .ref (a 0)), (1, .int x1), (2, .int x2), (3, .int x3)] → W p l e rmX2_laidBehind s m args below meth co H locs 0 0 (MQ below (z_Qi D (z_st c a) r0 g A) args s 0 0 A) (F0 m 4 ls []) := by
    intro x1 g fu
    induction fu with
    | zero =>
      intro x2 x3 hf
      have hf : (none : Option Int32) = some _ := hf
      cases hf
    | succ fu ih =>
      intro x2 x3 hf H locs ls hP hD hS hl
      rw [lX2_laidBehind_4.eq_2] at hf
      refine lv_iload_n hx hb dX2_laidBehind_4 rfl (lv_at hl 3 rfl) ?_
      refine lv_bipush (v := (16 : Int32)) hx hb dX2_laidBehind_5 (by decide) ?_
      refine lv_icmp_ge (tgt := 101) hx hb dX2_laidBehind_7 (by decide) (fun c1 => ?_) (fun c1 => ?_)
      · have hf := z_ifT hf c1
        refine lv_iload_n hx hb dX2_laidBehind_101 rfl (lv_at hl 2 rfl) ?_
        exact z_rp (wf := (z_st c a)) hx hb hr hlocks hP hD hS hf dX2_laidBehind_102
      · have hf := z_ifF hf c1
        refine lv_aload_n hx hb dX2_laidBehind_10 rfl (lv_at hl 0 rfl) ?_
        refine lv_iload_n hx hb dX2_laidBehind_11 rfl (lv_at hl 3 rfl) ?_
        obtain ⟨r2, h2, hf⟩ := z_bE hf
        refine z_cVi (As := [.int x3]) (rest := []) (wf := (z_st c a)) (g := g) (u0 := g) ⟨hx, hb, hml, hown, hts⟩ (kX2_has l D c N a H.size g x3 r2 h2) (cwV 1 hts gX2_laidBehind_X2_has rfl rfl rfl (by decide +kernel) ⟨Nat.le_of_ble_eq_true rfl, Nat.le_of_ble_eq_true rfl⟩) hP hK hD hS hA (ci := 2) (q0 := 0) rfl rfl rfl rfl hl.1 (Nat.le_of_ble_eq_true rfl) rfl dX2_laidBehind_12 ⟨Nat.zero_le _, Nat.zero_le _⟩ (fun H locs hP hD hS => ?_)
        refine lv_if_eq (tgt := 101) hx hb dX2_laidBehind_15 (by decide) (fun c3 => ?_) (fun c3 => ?_)
        · have hf := z_ifT hf c3
          refine lv_iload_n hx hb dX2_laidBehind_101 rfl (lv_at hl 2 rfl) ?_
          exact z_rp (wf := (z_st c a)) hx hb hr hlocks hP hD hS hf dX2_laidBehind_102
        · have hf := z_ifF hf c3
          refine lv_aload_n hx hb dX2_laidBehind_18 rfl (lv_at hl 0 rfl) ?_
          refine lv_iload_n hx hb dX2_laidBehind_19 rfl (lv_at hl 1 rfl) ?_
          obtain ⟨r4, h4, hf⟩ := z_bE hf
          refine z_cVi (As := [.int x1]) (rest := []) (wf := (z_st c a)) (g := g) (u0 := g) ⟨hx, hb, hml, hown, hts⟩ (kX2_has l D c N a H.size g x1 r4 h4) (cwV 1 hts gX2_laidBehind_X2_has rfl rfl rfl (by decide +kernel) ⟨Nat.le_of_ble_eq_true rfl, Nat.le_of_ble_eq_true rfl⟩) hP hK hD hS hA (ci := 2) (q0 := 0) rfl rfl rfl rfl hl.1 (Nat.le_of_ble_eq_true rfl) rfl dX2_laidBehind_20 ⟨Nat.zero_le _, Nat.zero_le _⟩ (fun H locs hP hD hS => ?_)
          refine lv_if_eq (tgt := 61) hx hb dX2_laidBehind_23 (by decide) (fun c5 => ?_) (fun c5 => ?_)
          · have hf := z_ifT hf c5
            refine lv_iconst (v := (1 : Int32)) hx hb dX2_laidBehind_61 (by decide) ?_
            refine lv_goto (tgt := 66) hx hb dX2_laidBehind_62 (by decide) ?_
            refine lv_istore (lv' := [(4, .int (1 : Int32)), (0, .ref (a 0)), (1, .int x1), (2, .int x2), (3, .int x3)]) hx hb dX2_laidBehind_66 hl (by decide) rfl (fun ls hl => ?_)
            refine lv_iload hx hb dX2_laidBehind_68 (lv_at hl 0 rfl) ?_
            refine lv_if_eq (tgt := 95) hx hb dX2_laidBehind_70 (by decide) (fun c => absurd c (by decide)) (fun _ => ?_)
            refine lv_iload_n hx hb dX2_laidBehind_73 rfl (lv_at hl 3 rfl) ?_
            refine lv_iconst (v := (-1 : Int32)) hx hb dX2_laidBehind_74 (by decide) ?_
            refine lv_icmp_eq (tgt := 93) hx hb dX2_laidBehind_75 (by decide) (fun c6 => ?_) (fun c6 => ?_)
            · have hf := z_ifT hf c6
              refine lv_iload_n hx hb dX2_laidBehind_93 rfl (lv_at hl 4 rfl) ?_
              refine lv_istore_n (lv' := [(2, .int x3), (4, .int (1 : Int32)), (0, .ref (a 0)), (1, .int x1), (3, .int x3)]) hx hb dX2_laidBehind_94 rfl hl (by decide) rfl (fun ls hl => ?_)
              refine lv_iinc (v := (x3 + (1 : Int32))) (lv' := [(3, .int (x3 + (1 : Int32))), (2, .int x3), (4, .int (1 : Int32)), (0, .ref (a 0)), (1, .int x1)]) hx hb dX2_laidBehind_95 hl (k := 4) rfl rfl (by decide) rfl (fun ls hl => ?_)
              refine lv_goto (tgt := 4) hx hb dX2_laidBehind_98 (by decide) ?_
              exact ih _ _ hf H locs ls hP hD hS (lv_sub hl [3, 4, 1, 0] rfl)
            · have hf := z_ifF hf c6
              refine lv_aload_n hx hb dX2_laidBehind_78 rfl (lv_at hl 1 rfl) ?_
              refine va_get (D := D) (ci := 2) (v := .ref (a 5)) (C := RX2) (T := TX2) (N := 16) hx hb hts iX2_laidBehind_X2 hown hK.1 hP 0 rfl rfl 8 (by decide) (hts _ qX2_laidBehind_31) (fun _ h9 => h9) rfl dX2_laidBehind_79 ?_
              refine lv_iload_n hx hb dX2_laidBehind_82 rfl (lv_at hl 4 rfl) ?_
              obtain ⟨b7, hf⟩ := z_ckE hf
              refine va_iald hx hb hK.1 hP 5 0 rfl rfl (z_inE b7) dX2_laidBehind_83 ?_
              refine lv_aload_n hx hb dX2_laidBehind_84 rfl (lv_at hl 1 rfl) ?_
              refine va_get (D := D) (ci := 2) (v := .ref (a 5)) (C := RX2) (T := TX2) (N := 16) hx hb hts iX2_laidBehind_X2 hown hK.1 hP 0 rfl rfl 8 (by decide) (hts _ qX2_laidBehind_31) (fun _ h9 => h9) rfl dX2_laidBehind_85 ?_
              refine lv_iload_n hx hb dX2_laidBehind_88 rfl (lv_at hl 3 rfl) ?_
              obtain ⟨b8, hf⟩ := z_ckE hf
              refine va_iald hx hb hK.1 hP 5 0 rfl rfl (z_inE b8) dX2_laidBehind_89 ?_
              refine lv_icmp_le (tgt := 95) hx hb dX2_laidBehind_90 (by decide) (fun c9 => ?_) (fun c9 => ?_)
              · have hf := z_ifT hf c9
                refine lv_iinc (v := (x3 + (1 : Int32))) (lv' := [(3, .int (x3 + (1 : Int32))), (4, .int (1 : Int32)), (0, .ref (a 0)), (1, .int x1), (2, .int x2)]) hx hb dX2_laidBehind_95 hl (k := 4) rfl rfl (by decide) rfl (fun ls hl => ?_)
                refine lv_goto (tgt := 4) hx hb dX2_laidBehind_98 (by decide) ?_
                exact ih _ _ hf H locs ls hP hD hS (lv_sub hl [2, 3, 4, 0] rfl)
              · have hf := z_ifF hf c9
                refine lv_iload_n hx hb dX2_laidBehind_93 rfl (lv_at hl 4 rfl) ?_
                refine lv_istore_n (lv' := [(2, .int x3), (4, .int (1 : Int32)), (0, .ref (a 0)), (1, .int x1), (3, .int x3)]) hx hb dX2_laidBehind_94 rfl hl (by decide) rfl (fun ls hl => ?_)
                refine lv_iinc (v := (x3 + (1 : Int32))) (lv' := [(3, .int (x3 + (1 : Int32))), (2, .int x3), (4, .int (1 : Int32)), (0, .ref (a 0)), (1, .int x1)]) hx hb dX2_laidBehind_95 hl (k := 4) rfl rfl (by decide) rfl (fun ls hl => ?_)
                refine lv_goto (tgt := 4) hx hb dX2_laidBehind_98 (by decide) ?_
                exact ih _ _ hf H locs ls hP hD hS (lv_sub hl [3, 4, 1, 0] rfl)
          · have hf := z_ifF hf c5
            refine lv_aload_n hx hb dX2_laidBehind_26 rfl (lv_at hl 0 rfl) ?_
            refine va_get (D := D) (ci := 2) (v := .ref (a 5)) (C := RX2) (T := TX2) (N := 16) hx hb hts iX2_laidBehind_X2 hown hK.1 hP 0 rfl rfl 8 (by decide) (hts _ qX2_laidBehind_31) (fun _ h9 => h9) rfl dX2_laidBehind_27 ?_
            refine lv_iload_n hx hb dX2_laidBehind_30 rfl (lv_at hl 3 rfl) ?_
            obtain ⟨b10, hf⟩ := z_ckE hf
            refine va_iald hx hb hK.1 hP 5 0 rfl rfl (z_inE b10) dX2_laidBehind_31 ?_
            refine lv_aload_n hx hb dX2_laidBehind_32 rfl (lv_at hl 0 rfl) ?_
            refine va_get (D := D) (ci := 2) (v := .ref (a 5)) (C := RX2) (T := TX2) (N := 16) hx hb hts iX2_laidBehind_X2 hown hK.1 hP 0 rfl rfl 8 (by decide) (hts _ qX2_laidBehind_31) (fun _ h9 => h9) rfl dX2_laidBehind_33 ?_
            refine lv_iload_n hx hb dX2_laidBehind_36 rfl (lv_at hl 1 rfl) ?_
            obtain ⟨b11, hf⟩ := z_ckE hf
            refine va_iald hx hb hK.1 hP 5 0 rfl rfl (z_inE b11) dX2_laidBehind_37 ?_
            refine lv_icmp_lt (tgt := 61) hx hb dX2_laidBehind_38 (by decide) (fun c12 => ?_) (fun c12 => ?_)
            · have hf := z_ifT hf c12
              refine lv_iconst (v := (1 : Int32)) hx hb dX2_laidBehind_61 (by decide) ?_
              refine lv_goto (tgt := 66) hx hb dX2_laidBehind_62 (by decide) ?_
              refine lv_istore (lv' := [(4, .int (1 : Int32)), (0, .ref (a 0)), (1, .int x1), (2, .int x2), (3, .int x3)]) hx hb dX2_laidBehind_66 hl (by decide) rfl (fun ls hl => ?_)
              refine lv_iload hx hb dX2_laidBehind_68 (lv_at hl 0 rfl) ?_
              refine lv_if_eq (tgt := 95) hx hb dX2_laidBehind_70 (by decide) (fun c => absurd c (by decide)) (fun _ => ?_)
              refine lv_iload_n hx hb dX2_laidBehind_73 rfl (lv_at hl 3 rfl) ?_
              refine lv_iconst (v := (-1 : Int32)) hx hb dX2_laidBehind_74 (by decide) ?_
              refine lv_icmp_eq (tgt := 93) hx hb dX2_laidBehind_75 (by decide) (fun c13 => ?_) (fun c13 => ?_)
              · have hf := z_ifT hf c13
                refine lv_iload_n hx hb dX2_laidBehind_93 rfl (lv_at hl 4 rfl) ?_
                refine lv_istore_n (lv' := [(2, .int x3), (4, .int (1 : Int32)), (0, .ref (a 0)), (1, .int x1), (3, .int x3)]) hx hb dX2_laidBehind_94 rfl hl (by decide) rfl (fun ls hl => ?_)
                refine lv_iinc (v := (x3 + (1 : Int32))) (lv' := [(3, .int (x3 + (1 : Int32))), (2, .int x3), (4, .int (1 : Int32)), (0, .ref (a 0)), (1, .int x1)]) hx hb dX2_laidBehind_95 hl (k := 4) rfl rfl (by decide) rfl (fun ls hl => ?_)
                refine lv_goto (tgt := 4) hx hb dX2_laidBehind_98 (by decide) ?_
                exact ih _ _ hf H locs ls hP hD hS (lv_sub hl [3, 4, 1, 0] rfl)
              · have hf := z_ifF hf c13
                refine lv_aload_n hx hb dX2_laidBehind_78 rfl (lv_at hl 1 rfl) ?_
                refine va_get (D := D) (ci := 2) (v := .ref (a 5)) (C := RX2) (T := TX2) (N := 16) hx hb hts iX2_laidBehind_X2 hown hK.1 hP 0 rfl rfl 8 (by decide) (hts _ qX2_laidBehind_31) (fun _ h9 => h9) rfl dX2_laidBehind_79 ?_
                refine lv_iload_n hx hb dX2_laidBehind_82 rfl (lv_at hl 4 rfl) ?_
                obtain ⟨b14, hf⟩ := z_ckE hf
                refine va_iald hx hb hK.1 hP 5 0 rfl rfl (z_inE b14) dX2_laidBehind_83 ?_
                refine lv_aload_n hx hb dX2_laidBehind_84 rfl (lv_at hl 1 rfl) ?_
                refine va_get (D := D) (ci := 2) (v := .ref (a 5)) (C := RX2) (T := TX2) (N := 16) hx hb hts iX2_laidBehind_X2 hown hK.1 hP 0 rfl rfl 8 (by decide) (hts _ qX2_laidBehind_31) (fun _ h9 => h9) rfl dX2_laidBehind_85 ?_
                refine lv_iload_n hx hb dX2_laidBehind_88 rfl (lv_at hl 3 rfl) ?_
                obtain ⟨b15, hf⟩ := z_ckE hf
                refine va_iald hx hb hK.1 hP 5 0 rfl rfl (z_inE b15) dX2_laidBehind_89 ?_
                refine lv_icmp_le (tgt := 95) hx hb dX2_laidBehind_90 (by decide) (fun c16 => ?_) (fun c16 => ?_)
                · have hf := z_ifT hf c16
                  refine lv_iinc (v := (x3 + (1 : Int32))) (lv' := [(3, .int (x3 + (1 : Int32))), (4, .int (1 : Int32)), (0, .ref (a 0)), (1, .int x1), (2, .int x2)]) hx hb dX2_laidBehind_95 hl (k := 4) rfl rfl (by decide) rfl (fun ls hl => ?_)
                  refine lv_goto (tgt := 4) hx hb dX2_laidBehind_98 (by decide) ?_
                  exact ih _ _ hf H locs ls hP hD hS (lv_sub hl [2, 3, 4, 0] rfl)
                · have hf := z_ifF hf c16
                  refine lv_iload_n hx hb dX2_laidBehind_93 rfl (lv_at hl 4 rfl) ?_
                  refine lv_istore_n (lv' := [(2, .int x3), (4, .int (1 : Int32)), (0, .ref (a 0)), (1, .int x1), (3, .int x3)]) hx hb dX2_laidBehind_94 rfl hl (by decide) rfl (fun ls hl => ?_)
                  refine lv_iinc (v := (x3 + (1 : Int32))) (lv' := [(3, .int (x3 + (1 : Int32))), (2, .int x3), (4, .int (1 : Int32)), (0, .ref (a 0)), (1, .int x1)]) hx hb dX2_laidBehind_95 hl (k := 4) rfl rfl (by decide) rfl (fun ls hl => ?_)
                  refine lv_goto (tgt := 4) hx hb dX2_laidBehind_98 (by decide) ?_
                  exact ih _ _ hf H locs ls hP hD hS (lv_sub hl [3, 4, 1, 0] rfl)
            · have hf := z_ifF hf c12
              refine lv_aload_n hx hb dX2_laidBehind_41 rfl (lv_at hl 0 rfl) ?_
              refine va_get (D := D) (ci := 2) (v := .ref (a 5)) (C := RX2) (T := TX2) (N := 16) hx hb hts iX2_laidBehind_X2 hown hK.1 hP 0 rfl rfl 8 (by decide) (hts _ qX2_laidBehind_31) (fun _ h9 => h9) rfl dX2_laidBehind_42 ?_
              refine lv_iload_n hx hb dX2_laidBehind_45 rfl (lv_at hl 3 rfl) ?_
              obtain ⟨b17, hf⟩ := z_ckE hf
              refine va_iald hx hb hK.1 hP 5 0 rfl rfl (z_inE b17) dX2_laidBehind_46 ?_
              refine lv_aload_n hx hb dX2_laidBehind_47 rfl (lv_at hl 0 rfl) ?_
              refine va_get (D := D) (ci := 2) (v := .ref (a 5)) (C := RX2) (T := TX2) (N := 16) hx hb hts iX2_laidBehind_X2 hown hK.1 hP 0 rfl rfl 8 (by decide) (hts _ qX2_laidBehind_31) (fun _ h9 => h9) rfl dX2_laidBehind_48 ?_
              refine lv_iload_n hx hb dX2_laidBehind_51 rfl (lv_at hl 1 rfl) ?_
              obtain ⟨b18, hf⟩ := z_ckE hf
              refine va_iald hx hb hK.1 hP 5 0 rfl rfl (z_inE b18) dX2_laidBehind_52 ?_
              refine lv_icmp_ne (tgt := 65) hx hb dX2_laidBehind_53 (by decide) (fun c19 => ?_) (fun c19 => ?_)
              · have hf := z_ifF hf c19
                refine lv_iconst (v := (0 : Int32)) hx hb dX2_laidBehind_65 (by decide) ?_
                refine lv_istore (lv' := [(4, .int (0 : Int32)), (0, .ref (a 0)), (1, .int x1), (2, .int x2), (3, .int x3)]) hx hb dX2_laidBehind_66 hl (by decide) rfl (fun ls hl => ?_)
                refine lv_iload hx hb dX2_laidBehind_68 (lv_at hl 0 rfl) ?_
                refine lv_if_eq (tgt := 95) hx hb dX2_laidBehind_70 (by decide) (fun _ => ?_) (fun c => absurd c (by decide))
                refine lv_iinc (v := (x3 + (1 : Int32))) (lv' := [(3, .int (x3 + (1 : Int32))), (4, .int (0 : Int32)), (0, .ref (a 0)), (1, .int x1), (2, .int x2)]) hx hb dX2_laidBehind_95 hl (k := 4) rfl rfl (by decide) rfl (fun ls hl => ?_)
                refine lv_goto (tgt := 4) hx hb dX2_laidBehind_98 (by decide) ?_
                exact ih _ _ hf H locs ls hP hD hS (lv_sub hl [2, 3, 4, 0] rfl)
              · have hf := z_ifT hf c19
                refine lv_iload_n hx hb dX2_laidBehind_56 rfl (lv_at hl 3 rfl) ?_
                refine lv_iload_n hx hb dX2_laidBehind_57 rfl (lv_at hl 1 rfl) ?_
                refine lv_icmp_le (tgt := 65) hx hb dX2_laidBehind_58 (by decide) (fun c20 => ?_) (fun c20 => ?_)
                · have hf := z_ifT hf c20
                  refine lv_iconst (v := (0 : Int32)) hx hb dX2_laidBehind_65 (by decide) ?_
                  refine lv_istore (lv' := [(4, .int (0 : Int32)), (0, .ref (a 0)), (1, .int x1), (2, .int x2), (3, .int x3)]) hx hb dX2_laidBehind_66 hl (by decide) rfl (fun ls hl => ?_)
                  refine lv_iload hx hb dX2_laidBehind_68 (lv_at hl 0 rfl) ?_
                  refine lv_if_eq (tgt := 95) hx hb dX2_laidBehind_70 (by decide) (fun _ => ?_) (fun c => absurd c (by decide))
                  refine lv_iinc (v := (x3 + (1 : Int32))) (lv' := [(3, .int (x3 + (1 : Int32))), (4, .int (0 : Int32)), (0, .ref (a 0)), (1, .int x1), (2, .int x2)]) hx hb dX2_laidBehind_95 hl (k := 4) rfl rfl (by decide) rfl (fun ls hl => ?_)
                  refine lv_goto (tgt := 4) hx hb dX2_laidBehind_98 (by decide) ?_
                  exact ih _ _ hf H locs ls hP hD hS (lv_sub hl [2, 3, 4, 0] rfl)
                · have hf := z_ifF hf c20
                  refine lv_iconst (v := (1 : Int32)) hx hb dX2_laidBehind_61 (by decide) ?_
                  refine lv_goto (tgt := 66) hx hb dX2_laidBehind_62 (by decide) ?_
                  refine lv_istore (lv' := [(4, .int (1 : Int32)), (0, .ref (a 0)), (1, .int x1), (2, .int x2), (3, .int x3)]) hx hb dX2_laidBehind_66 hl (by decide) rfl (fun ls hl => ?_)
                  refine lv_iload hx hb dX2_laidBehind_68 (lv_at hl 0 rfl) ?_
                  refine lv_if_eq (tgt := 95) hx hb dX2_laidBehind_70 (by decide) (fun c => absurd c (by decide)) (fun _ => ?_)
                  refine lv_iload_n hx hb dX2_laidBehind_73 rfl (lv_at hl 3 rfl) ?_
                  refine lv_iconst (v := (-1 : Int32)) hx hb dX2_laidBehind_74 (by decide) ?_
                  refine lv_icmp_eq (tgt := 93) hx hb dX2_laidBehind_75 (by decide) (fun c21 => ?_) (fun c21 => ?_)
                  · have hf := z_ifT hf c21
                    refine lv_iload_n hx hb dX2_laidBehind_93 rfl (lv_at hl 4 rfl) ?_
                    refine lv_istore_n (lv' := [(2, .int x3), (4, .int (1 : Int32)), (0, .ref (a 0)), (1, .int x1), (3, .int x3)]) hx hb dX2_laidBehind_94 rfl hl (by decide) rfl (fun ls hl => ?_)
                    refine lv_iinc (v := (x3 + (1 : Int32))) (lv' := [(3, .int (x3 + (1 : Int32))), (2, .int x3), (4, .int (1 : Int32)), (0, .ref (a 0)), (1, .int x1)]) hx hb dX2_laidBehind_95 hl (k := 4) rfl rfl (by decide) rfl (fun ls hl => ?_)
                    refine lv_goto (tgt := 4) hx hb dX2_laidBehind_98 (by decide) ?_
                    exact ih _ _ hf H locs ls hP hD hS (lv_sub hl [3, 4, 1, 0] rfl)
                  · have hf := z_ifF hf c21
                    refine lv_aload_n hx hb dX2_laidBehind_78 rfl (lv_at hl 1 rfl) ?_
                    refine va_get (D := D) (ci := 2) (v := .ref (a 5)) (C := RX2) (T := TX2) (N := 16) hx hb hts iX2_laidBehind_X2 hown hK.1 hP 0 rfl rfl 8 (by decide) (hts _ qX2_laidBehind_31) (fun _ h9 => h9) rfl dX2_laidBehind_79 ?_
                    refine lv_iload_n hx hb dX2_laidBehind_82 rfl (lv_at hl 4 rfl) ?_
                    obtain ⟨b22, hf⟩ := z_ckE hf
                    refine va_iald hx hb hK.1 hP 5 0 rfl rfl (z_inE b22) dX2_laidBehind_83 ?_
                    refine lv_aload_n hx hb dX2_laidBehind_84 rfl (lv_at hl 1 rfl) ?_
                    refine va_get (D := D) (ci := 2) (v := .ref (a 5)) (C := RX2) (T := TX2) (N := 16) hx hb hts iX2_laidBehind_X2 hown hK.1 hP 0 rfl rfl 8 (by decide) (hts _ qX2_laidBehind_31) (fun _ h9 => h9) rfl dX2_laidBehind_85 ?_
                    refine lv_iload_n hx hb dX2_laidBehind_88 rfl (lv_at hl 3 rfl) ?_
                    obtain ⟨b23, hf⟩ := z_ckE hf
                    refine va_iald hx hb hK.1 hP 5 0 rfl rfl (z_inE b23) dX2_laidBehind_89 ?_
                    refine lv_icmp_le (tgt := 95) hx hb dX2_laidBehind_90 (by decide) (fun c24 => ?_) (fun c24 => ?_)
                    · have hf := z_ifT hf c24
                      refine lv_iinc (v := (x3 + (1 : Int32))) (lv' := [(3, .int (x3 + (1 : Int32))), (4, .int (1 : Int32)), (0, .ref (a 0)), (1, .int x1), (2, .int x2)]) hx hb dX2_laidBehind_95 hl (k := 4) rfl rfl (by decide) rfl (fun ls hl => ?_)
                      refine lv_goto (tgt := 4) hx hb dX2_laidBehind_98 (by decide) ?_
                      exact ih _ _ hf H locs ls hP hD hS (lv_sub hl [2, 3, 4, 0] rfl)
                    · have hf := z_ifF hf c24
                      refine lv_iload_n hx hb dX2_laidBehind_93 rfl (lv_at hl 4 rfl) ?_
                      refine lv_istore_n (lv' := [(2, .int x3), (4, .int (1 : Int32)), (0, .ref (a 0)), (1, .int x1), (3, .int x3)]) hx hb dX2_laidBehind_94 rfl hl (by decide) rfl (fun ls hl => ?_)
                      refine lv_iinc (v := (x3 + (1 : Int32))) (lv' := [(3, .int (x3 + (1 : Int32))), (2, .int x3), (4, .int (1 : Int32)), (0, .ref (a 0)), (1, .int x1)]) hx hb dX2_laidBehind_95 hl (k := 4) rfl rfl (by decide) rfl (fun ls hl => ?_)
                      refine lv_goto (tgt := 4) hx hb dX2_laidBehind_98 (by decide) ?_
                      exact ih _ _ hf H locs ls hP hD hS (lv_sub hl [3, 4, 1, 0] rfl)
  unfold fX2_laidBehind at hf
  generalize ([] : List Loc) = locs at hS ⊢
  refine lv_iconst (v := (-1 : Int32)) hx hb dX2_laidBehind_0 (by decide) ?_
  refine lv_istore_n (lv' := [(2, .int (-1 : Int32)), (0, .ref (a 0)), (1, .int p1)]) hx hb dX2_laidBehind_1 rfl hl (by decide) rfl (fun ls hl => ?_)
  refine lv_iconst (v := (0 : Int32)) hx hb dX2_laidBehind_2 (by decide) ?_
  refine lv_istore_n (lv' := [(3, .int (0 : Int32)), (2, .int (-1 : Int32)), (0, .ref (a 0)), (1, .int p1)]) hx hb dX2_laidBehind_3 rfl hl (by decide) rfl (fun ls hl => ?_)
  exact L4 _ _ N _ _ hf H locs ls hP hD hS (lv_sub hl [2, 3, 1, 0] rfl)
abbrev rmX2_wantedPlace : Room := { frames := 2, cells := 0, slots := 0, locals := 43 }
theorem qX2_wantedPlace_34 : Cond.fieldLink RX2 34 "ProgramDrum$State" "place" "[I" ∈ wsX2_wantedPlace := by decide +kernel
theorem iX2_wantedPlace_X2 : ∀ w ∈ wsX20, w ∈ wsX2_wantedPlace := by decide +kernel
theorem qX2_wantedPlace_25 : Cond.fieldLink RX2 25 "ProgramDrum$State" "next" "[I" ∈ wsX2_wantedPlace := by decide +kernel
theorem qX2_wantedPlace_22 : Cond.fieldLink RX2 22 "ProgramDrum$State" "work" "[I" ∈ wsX2_wantedPlace := by decide +kernel
set_option maxRecDepth 100000 in
set_option maxHeartbeats 4000000 in
theorem kX2_wantedPlace (l : Launch) (D : va_G) (c : Nat → ClassId) (N : Nat) (a : Nat → Nat) (sz : Nat) (g : z_R) (p1 : Int32) (r0 : Int32) (hf : fX2_wantedPlace N p1 g = some r0) : Met l yX2_wantedPlace wsX2_wantedPlace rmX2_wantedPlace (z_Pc D c sz (z_st c a g) [.ref (a 0), .int p1]) (z_Qi D (z_st c a) r0 g (va_A (z_st c a g) sz)) 0 0 (va_A (z_st c a g) sz) := by
  refine z_ofM (cc := cX2_wantedPlace) (maxL := 3) (ret := (some .int)) (Qf := fun A => z_Qi D (z_st c a) r0 g A) (plainFor_of_name (by decide)) rfl (Nat.le_of_ble_eq_true rfl) ?_
  intro p e s m args below meth co A ls hx hb hr hml hts hown hlocks hnm hA hP hK hD hl hsz
  have hl : lv_has ls 3 [(0, .ref (a 0)), (1, .int p1)] := hl
  have hown : s.vm.findClass RX2 = some m.cls := hown
  obtain ⟨H, hH⟩ : ∃ H, H = s.heap := ⟨_, rfl⟩
  have hS : va_S A s.heap H [] := by rw [hH]; exact va_S.rf
  rw [← hH] at hP ⊢
  clear hH
  have L2 : ∀ (x1 : Int32) (g : z_R) (k : Unit → Option Int32) (hk : ∀ (_ : Unit), k () = some r0 → ∀ (H : Heap) (locs : List Loc) (ls : Array Slot), va_P D vwCl (z_st c a g) H → va_D A (z_st c a g) → va_S A s.heap H locs → lv_has ls 3 [(0, .ref (a 0)), (1, .int x1)] → W p l e rmX2_wantedPlace s m args below meth co H locs 0 0 (MQ below (z_Qi D (z_st c a) r0 g A) args s 0 0 A) (F0 m 62 ls [])) (fu : Nat) (x2 : Int32), lX2_wantedPlace_2 N x1 g k fu x2 = some r0 → ∀ (H : Heap) (locs : List Loc) (ls : Array Slot), va_P D vwCl (z_st c a g) H → va_D A (z_st c a g) → va_S A s.heap H locs → lv_has ls 3 [(0, .ref (a 0)), (1, .int x1), (2, .int x2)] → W p l e rmX2_wantedPlace s m args below meth co H locs 0 0 (MQ below (z_Qi D (z_st c a) r0 g A) args s 0 0 A) (F0 m 2 ls []) := by
    intro x1 g k hk fu
    induction fu with
    | zero =>
      intro x2 hf
      have hf : (none : Option Int32) = some _ := hf
      cases hf
    | succ fu ih =>
      intro x2 hf H locs ls hP hD hS hl
      rw [lX2_wantedPlace_2.eq_2] at hf
      refine lv_iload_n hx hb dX2_wantedPlace_2 rfl (lv_at hl 2 rfl) ?_
      refine lv_bipush (v := (16 : Int32)) hx hb dX2_wantedPlace_3 (by decide) ?_
      refine lv_icmp_ge (tgt := 62) hx hb dX2_wantedPlace_5 (by decide) (fun c1 => ?_) (fun c1 => ?_)
      · have hf := z_ifT hf c1
        exact hk () hf H locs ls hP hD hS (lv_sub hl [0, 1] rfl)
      · have hf := z_ifF hf c1
        refine lv_aload_n hx hb dX2_wantedPlace_8 rfl (lv_at hl 0 rfl) ?_
        refine lv_iload_n hx hb dX2_wantedPlace_9 rfl (lv_at hl 2 rfl) ?_
        obtain ⟨r2, h2, hf⟩ := z_bE hf
        refine z_cVi (As := [.int x2]) (rest := []) (wf := (z_st c a)) (g := g) (u0 := g) ⟨hx, hb, hml, hown, hts⟩ (kX2_has l D c N a H.size g x2 r2 h2) (cwV 1 hts gX2_wantedPlace_X2_has rfl rfl rfl (by decide +kernel) ⟨Nat.le_of_ble_eq_true rfl, Nat.le_of_ble_eq_true rfl⟩) hP hK hD hS hA (ci := 2) (q0 := 0) rfl rfl rfl rfl hl.1 (Nat.le_of_ble_eq_true rfl) rfl dX2_wantedPlace_10 ⟨Nat.zero_le _, Nat.zero_le _⟩ (fun H locs hP hD hS => ?_)
        refine lv_if_eq (tgt := 62) hx hb dX2_wantedPlace_13 (by decide) (fun c3 => ?_) (fun c3 => ?_)
        · have hf := z_ifT hf c3
          exact hk () hf H locs ls hP hD hS (lv_sub hl [0, 1] rfl)
        · have hf := z_ifF hf c3
          refine lv_aload_n hx hb dX2_wantedPlace_16 rfl (lv_at hl 0 rfl) ?_
          refine va_get (D := D) (ci := 2) (v := .ref (a 6)) (C := RX2) (T := TX2) (N := 16) hx hb hts iX2_wantedPlace_X2 hown hK.1 hP 0 rfl rfl 9 (by decide) (hts _ qX2_wantedPlace_34) (fun _ h9 => h9) rfl dX2_wantedPlace_17 ?_
          refine lv_iload_n hx hb dX2_wantedPlace_20 rfl (lv_at hl 2 rfl) ?_
          obtain ⟨b4, hf⟩ := z_ckE hf
          refine va_iald hx hb hK.1 hP 6 0 rfl rfl (z_inE b4) dX2_wantedPlace_21 ?_
          refine lv_iconst (v := (-1 : Int32)) hx hb dX2_wantedPlace_22 (by decide) ?_
          refine lv_icmp_eq (tgt := 56) hx hb dX2_wantedPlace_23 (by decide) (fun c5 => ?_) (fun c5 => ?_)
          · have hf := z_ifT hf c5
            refine lv_iinc (v := (x2 + (1 : Int32))) (lv' := [(2, .int (x2 + (1 : Int32))), (0, .ref (a 0)), (1, .int x1)]) hx hb dX2_wantedPlace_56 hl (k := 2) rfl rfl (by decide) rfl (fun ls hl => ?_)
            refine lv_goto (tgt := 2) hx hb dX2_wantedPlace_59 (by decide) ?_
            exact ih _ hf H locs ls hP hD hS (lv_sub hl [1, 2, 0] rfl)
          · have hf := z_ifF hf c5
            refine lv_aload_n hx hb dX2_wantedPlace_26 rfl (lv_at hl 0 rfl) ?_
            refine va_get (D := D) (ci := 2) (v := .ref (a 3)) (C := RX2) (T := TX2) (N := 16) hx hb hts iX2_wantedPlace_X2 hown hK.1 hP 0 rfl rfl 6 (by decide) (hts _ qX2_wantedPlace_25) (fun _ h9 => h9) rfl dX2_wantedPlace_27 ?_
            refine lv_iload_n hx hb dX2_wantedPlace_30 rfl (lv_at hl 2 rfl) ?_
            obtain ⟨b6, hf⟩ := z_ckE hf
            refine va_iald hx hb hK.1 hP 3 0 rfl rfl (z_inE b6) dX2_wantedPlace_31 ?_
            refine lv_iload_n hx hb dX2_wantedPlace_32 rfl (lv_at hl 1 rfl) ?_
            refine lv_icmp_ne (tgt := 56) hx hb dX2_wantedPlace_33 (by decide) (fun c7 => ?_) (fun c7 => ?_)
            · have hf := z_ifF hf c7
              refine lv_iinc (v := (x2 + (1 : Int32))) (lv' := [(2, .int (x2 + (1 : Int32))), (0, .ref (a 0)), (1, .int x1)]) hx hb dX2_wantedPlace_56 hl (k := 2) rfl rfl (by decide) rfl (fun ls hl => ?_)
              refine lv_goto (tgt := 2) hx hb dX2_wantedPlace_59 (by decide) ?_
              exact ih _ hf H locs ls hP hD hS (lv_sub hl [1, 2, 0] rfl)
            · have hf := z_ifT hf c7
              refine lv_aload_n hx hb dX2_wantedPlace_36 rfl (lv_at hl 0 rfl) ?_
              refine lv_aload_n hx hb dX2_wantedPlace_37 rfl (lv_at hl 0 rfl) ?_
              refine va_get (D := D) (ci := 2) (v := .ref (a 6)) (C := RX2) (T := TX2) (N := 16) hx hb hts iX2_wantedPlace_X2 hown hK.1 hP 0 rfl rfl 9 (by decide) (hts _ qX2_wantedPlace_34) (fun _ h9 => h9) rfl dX2_wantedPlace_38 ?_
              refine lv_iload_n hx hb dX2_wantedPlace_41 rfl (lv_at hl 2 rfl) ?_
              obtain ⟨b8, hf⟩ := z_ckE hf
              refine va_iald hx hb hK.1 hP 6 0 rfl rfl (z_inE b8) dX2_wantedPlace_42 ?_
              refine lv_iconst (v := (1 : Int32)) hx hb dX2_wantedPlace_43 (by decide) ?_
              refine lv_iadd hx hb dX2_wantedPlace_44 ?_
              refine lv_aload_n hx hb dX2_wantedPlace_45 rfl (lv_at hl 0 rfl) ?_
              refine va_get (D := D) (ci := 2) (v := .ref (a 2)) (C := RX2) (T := TX2) (N := 16) hx hb hts iX2_wantedPlace_X2 hown hK.1 hP 0 rfl rfl 5 (by decide) (hts _ qX2_wantedPlace_22) (fun _ h9 => h9) rfl dX2_wantedPlace_46 ?_
              refine lv_iload_n hx hb dX2_wantedPlace_49 rfl (lv_at hl 2 rfl) ?_
              obtain ⟨b9, hf⟩ := z_ckE hf
              refine va_iald hx hb hK.1 hP 2 0 rfl rfl (z_inE b9) dX2_wantedPlace_50 ?_
              refine lv_iadd hx hb dX2_wantedPlace_51 ?_
              obtain ⟨r10, h10, hf⟩ := z_bE hf
              refine z_cVi (As := [.int (((g 6 (x2).toNatClampNeg) + (1 : Int32)) + (g 2 (x2).toNatClampNeg))]) (rest := []) (wf := (z_st c a)) (g := g) (u0 := g) ⟨hx, hb, hml, hown, hts⟩ (kX2_around l D c N a H.size g (((g 6 (x2).toNatClampNeg) + (1 : Int32)) + (g 2 (x2).toNatClampNeg)) r10 h10) (cwV 1 hts gX2_wantedPlace_X2_around rfl rfl rfl (by decide +kernel) ⟨Nat.le_of_ble_eq_true rfl, Nat.le_of_ble_eq_true rfl⟩) hP hK hD hS hA (ci := 2) (q0 := 0) rfl rfl rfl rfl hl.1 (Nat.le_of_ble_eq_true rfl) rfl dX2_wantedPlace_52 ⟨Nat.zero_le _, Nat.zero_le _⟩ (fun H locs hP hD hS => ?_)
              exact z_rp (wf := (z_st c a)) hx hb hr hlocks hP hD hS hf dX2_wantedPlace_55
  unfold fX2_wantedPlace at hf
  generalize ([] : List Loc) = locs at hS ⊢
  refine lv_iconst (v := (0 : Int32)) hx hb dX2_wantedPlace_0 (by decide) ?_
  refine lv_istore_n (lv' := [(2, .int (0 : Int32)), (0, .ref (a 0)), (1, .int p1)]) hx hb dX2_wantedPlace_1 rfl hl (by decide) rfl (fun ls hl => ?_)
  refine L2 _ _ _ (fun _ hf H locs ls hP hD hS hl => ?_) N _ hf H locs ls hP hD hS (lv_sub hl [1, 2, 0] rfl)
  refine lv_aload_n hx hb dX2_wantedPlace_62 rfl (lv_at hl 0 rfl) ?_
  refine lv_aload_n hx hb dX2_wantedPlace_63 rfl (lv_at hl 0 rfl) ?_
  refine va_get (D := D) (ci := 2) (v := .ref (a 3)) (C := RX2) (T := TX2) (N := 16) hx hb hts iX2_wantedPlace_X2 hown hK.1 hP 0 rfl rfl 6 (by decide) (hts _ qX2_wantedPlace_25) (fun _ h9 => h9) rfl dX2_wantedPlace_64 ?_
  refine lv_iload_n hx hb dX2_wantedPlace_67 rfl (lv_at hl 1 rfl) ?_
  obtain ⟨b11, hf⟩ := z_ckE hf
  refine va_iald hx hb hK.1 hP 3 0 rfl rfl (z_inE b11) dX2_wantedPlace_68 ?_
  obtain ⟨r12, h12, hf⟩ := z_bE hf
  refine z_cVi (As := [.int (g 3 (p1).toNatClampNeg)]) (rest := []) (wf := (z_st c a)) (g := g) (u0 := g) ⟨hx, hb, hml, hown, hts⟩ (kX2_isOnDrum l D c N a H.size g (g 3 (p1).toNatClampNeg) r12 h12) (cwV 1 hts gX2_wantedPlace_X2_isOnDrum rfl rfl rfl (by decide +kernel) ⟨Nat.le_of_ble_eq_true rfl, Nat.le_of_ble_eq_true rfl⟩) hP hK hD hS hA (ci := 2) (q0 := 0) rfl rfl rfl rfl hl.1 (Nat.le_of_ble_eq_true rfl) rfl dX2_wantedPlace_69 ⟨Nat.zero_le _, Nat.zero_le _⟩ (fun H locs hP hD hS => ?_)
  refine lv_if_eq (tgt := 100) hx hb dX2_wantedPlace_72 (by decide) (fun c13 => ?_) (fun c13 => ?_)
  · have hf := z_ifT hf c13
    refine lv_iconst (v := (0 : Int32)) hx hb dX2_wantedPlace_100 (by decide) ?_
    exact z_rp (wf := (z_st c a)) hx hb hr hlocks hP hD hS hf dX2_wantedPlace_101
  · have hf := z_ifF hf c13
    refine lv_aload_n hx hb dX2_wantedPlace_75 rfl (lv_at hl 0 rfl) ?_
    refine lv_aload_n hx hb dX2_wantedPlace_76 rfl (lv_at hl 0 rfl) ?_
    refine va_get (D := D) (ci := 2) (v := .ref (a 6)) (C := RX2) (T := TX2) (N := 16) hx hb hts iX2_wantedPlace_X2 hown hK.1 hP 0 rfl rfl 9 (by decide) (hts _ qX2_wantedPlace_34) (fun _ h9 => h9) rfl dX2_wantedPlace_77 ?_
    refine lv_aload_n hx hb dX2_wantedPlace_80 rfl (lv_at hl 0 rfl) ?_
    refine va_get (D := D) (ci := 2) (v := .ref (a 3)) (C := RX2) (T := TX2) (N := 16) hx hb hts iX2_wantedPlace_X2 hown hK.1 hP 0 rfl rfl 6 (by decide) (hts _ qX2_wantedPlace_25) (fun _ h9 => h9) rfl dX2_wantedPlace_81 ?_
    refine lv_iload_n hx hb dX2_wantedPlace_84 rfl (lv_at hl 1 rfl) ?_
    obtain ⟨b14, hf⟩ := z_ckE hf
    refine va_iald hx hb hK.1 hP 3 0 rfl rfl (z_inE b14) dX2_wantedPlace_85 ?_
    obtain ⟨b15, hf⟩ := z_ckE hf
    refine va_iald hx hb hK.1 hP 6 0 rfl rfl (z_inE b15) dX2_wantedPlace_86 ?_
    refine lv_iconst (v := (1 : Int32)) hx hb dX2_wantedPlace_87 (by decide) ?_
    refine lv_isub hx hb dX2_wantedPlace_88 ?_
    refine lv_aload_n hx hb dX2_wantedPlace_89 rfl (lv_at hl 0 rfl) ?_
    refine va_get (D := D) (ci := 2) (v := .ref (a 2)) (C := RX2) (T := TX2) (N := 16) hx hb hts iX2_wantedPlace_X2 hown hK.1 hP 0 rfl rfl 5 (by decide) (hts _ qX2_wantedPlace_22) (fun _ h9 => h9) rfl dX2_wantedPlace_90 ?_
    refine lv_iload_n hx hb dX2_wantedPlace_93 rfl (lv_at hl 1 rfl) ?_
    obtain ⟨b16, hf⟩ := z_ckE hf
    refine va_iald hx hb hK.1 hP 2 0 rfl rfl (z_inE b16) dX2_wantedPlace_94 ?_
    refine lv_isub hx hb dX2_wantedPlace_95 ?_
    obtain ⟨r17, h17, hf⟩ := z_bE hf
    refine z_cVi (As := [.int (((g 6 ((g 3 (p1).toNatClampNeg)).toNatClampNeg) - (1 : Int32)) - (g 2 (p1).toNatClampNeg))]) (rest := []) (wf := (z_st c a)) (g := g) (u0 := g) ⟨hx, hb, hml, hown, hts⟩ (kX2_around l D c N a H.size g (((g 6 ((g 3 (p1).toNatClampNeg)).toNatClampNeg) - (1 : Int32)) - (g 2 (p1).toNatClampNeg)) r17 h17) (cwV 1 hts gX2_wantedPlace_X2_around rfl rfl rfl (by decide +kernel) ⟨Nat.le_of_ble_eq_true rfl, Nat.le_of_ble_eq_true rfl⟩) hP hK hD hS hA (ci := 2) (q0 := 0) rfl rfl rfl rfl hl.1 (Nat.le_of_ble_eq_true rfl) rfl dX2_wantedPlace_96 ⟨Nat.zero_le _, Nat.zero_le _⟩ (fun H locs hP hD hS => ?_)
    exact z_rp (wf := (z_st c a)) hx hb hr hlocks hP hD hS hf dX2_wantedPlace_99
abbrev rmX2_layOne : Room := { frames := 3, cells := 0, slots := 0, locals := 65 }
theorem qX2_layOne_9 : Cond.fieldLink RX2 9 "ProgramDrum$State" "places" "I" ∈ wsX2_layOne := by decide +kernel
theorem iX2_layOne_X2 : ∀ w ∈ wsX20, w ∈ wsX2_layOne := by decide +kernel
theorem qX2_layOne_34 : Cond.fieldLink RX2 34 "ProgramDrum$State" "place" "[I" ∈ wsX2_layOne := by decide +kernel
theorem qX2_layOne_37 : Cond.fieldLink RX2 37 "ProgramDrum$State" "delay" "[I" ∈ wsX2_layOne := by decide +kernel
theorem qX2_layOne_40 : Cond.fieldLink RX2 40 "ProgramDrum$State" "open" "[I" ∈ wsX2_layOne := by decide +kernel
theorem qX2_layOne_31 : Cond.fieldLink RX2 31 "ProgramDrum$State" "bribe" "[I" ∈ wsX2_layOne := by decide +kernel
theorem qX2_layOne_18 : Cond.fieldLink RX2 18 "ProgramDrum$State" "author" "[I" ∈ wsX2_layOne := by decide +kernel
theorem qX2_layOne_st_X4_isAuthor : Cond.static yX4_isAuthor ∈ wsX2_layOne := by decide +kernel
theorem qX2_layOne_in_X4 : Cond.initialized RX4 ∈ wsX2_layOne := by decide +kernel
theorem qX2_layOne_46 : Cond.fieldLink RX2 46 "ProgramDrum$State" "paid" "[I" ∈ wsX2_layOne := by decide +kernel
set_option maxRecDepth 100000 in
set_option maxHeartbeats 4000000 in
theorem kX2_layOne (l : Launch) (D : va_G) (c : Nat → ClassId) (N : Nat) (a : Nat → Nat) (sz : Nat) (g : z_R) (p1 : Int32) (g0 : z_R) (hf : fX2_layOne N p1 g = some g0) : Met l yX2_layOne wsX2_layOne rmX2_layOne (z_Pc D c sz (z_st c a g) [.ref (a 0), .int p1]) (z_Qv D (z_st c a) g0 (va_A (z_st c a g) sz)) 0 0 (va_A (z_st c a g) sz) := by
  refine z_ofM (cc := cX2_layOne) (maxL := 5) (ret := none) (Qf := fun A => z_Qv D (z_st c a) g0 A) (plainFor_of_name (by decide)) rfl (Nat.le_of_ble_eq_true rfl) ?_
  intro p e s m args below meth co A ls hx hb hr hml hts hown hlocks hnm hA hP hK hD hl hsz
  have hl : lv_has ls 5 [(0, .ref (a 0)), (1, .int p1)] := hl
  have hown : s.vm.findClass RX2 = some m.cls := hown
  obtain ⟨H, hH⟩ : ∃ H, H = s.heap := ⟨_, rfl⟩
  have hS : va_S A s.heap H [] := by rw [hH]; exact va_S.rf
  rw [← hH] at hP ⊢
  clear hH
  have L8 : ∀ (x1 : Int32) (x2 : Int32) (g : z_R) (fu : Nat) (x3 : Int32), lX2_layOne_8 N x1 x2 g fu x3 = some g0 → ∀ (H : Heap) (locs : List Loc) (ls : Array Slot), va_P D vwCl (z_st c a g) H → va_D A (z_st c a g) → va_S A s.heap H locs → lv_has ls 5 [(0, .ref (a 0)), (1, .int x1), (2, .int x2), (3, .int x3)] → W p l e rmX2_layOne s m args below meth co H locs 0 0 (MQ below (z_Qv D (z_st c a) g0 A) args s 0 0 A) (F0 m 8 ls []) := by
    intro x1 x2 g fu
    induction fu with
    | zero =>
      intro x3 hf
      have hf : (none : Option (z_R)) = some _ := hf
      cases hf
    | succ fu ih =>
      intro x3 hf H locs ls hP hD hS hl
      rw [lX2_layOne_8.eq_2] at hf
      refine lv_iload_n hx hb dX2_layOne_8 rfl (lv_at hl 3 rfl) ?_
      refine lv_aload_n hx hb dX2_layOne_9 rfl (lv_at hl 0 rfl) ?_
      refine va_get (D := D) (ci := 2) (v := .int (g 0 0)) (C := RX2) (T := TX2) (N := 16) hx hb hts iX2_layOne_X2 hown hK.1 hP 0 rfl rfl 0 (by decide) (hts _ qX2_layOne_9) (fun _ h9 => h9) rfl dX2_layOne_10 ?_
      refine lv_icmp_ge (tgt := 101) hx hb dX2_layOne_13 (by decide) (fun c2 => ?_) (fun c2 => ?_)
      · have hf := z_ifT hf c2
        exact z_rv (wf := (z_st c a)) hx hb hr hlocks hP hD hS hf dX2_layOne_101
      · have hf := z_ifF hf c2
        refine lv_aload_n hx hb dX2_layOne_16 rfl (lv_at hl 0 rfl) ?_
        refine lv_iload_n hx hb dX2_layOne_17 rfl (lv_at hl 2 rfl) ?_
        refine lv_iload_n hx hb dX2_layOne_18 rfl (lv_at hl 3 rfl) ?_
        refine lv_iadd hx hb dX2_layOne_19 ?_
        obtain ⟨r3, h3, hf⟩ := z_bE hf
        refine z_cVi (As := [.int (x2 + x3)]) (rest := []) (wf := (z_st c a)) (g := g) (u0 := g) ⟨hx, hb, hml, hown, hts⟩ (kX2_around l D c N a H.size g (x2 + x3) r3 h3) (cwV 1 hts gX2_layOne_X2_around rfl rfl rfl (by decide +kernel) ⟨Nat.le_of_ble_eq_true rfl, Nat.le_of_ble_eq_true rfl⟩) hP hK hD hS hA (ci := 2) (q0 := 0) rfl rfl rfl rfl hl.1 (Nat.le_of_ble_eq_true rfl) rfl dX2_layOne_20 ⟨Nat.zero_le _, Nat.zero_le _⟩ (fun H locs hP hD hS => ?_)
        refine lv_istore (lv' := [(4, .int r3), (0, .ref (a 0)), (1, .int x1), (2, .int x2), (3, .int x3)]) hx hb dX2_layOne_23 hl (by decide) rfl (fun ls hl => ?_)
        refine lv_aload_n hx hb dX2_layOne_25 rfl (lv_at hl 1 rfl) ?_
        refine lv_iload hx hb dX2_layOne_26 (lv_at hl 0 rfl) ?_
        obtain ⟨r4, h4, hf⟩ := z_bE hf
        refine z_cVi (As := [.int r3]) (rest := []) (wf := (z_st c a)) (g := g) (u0 := g) ⟨hx, hb, hml, hown, hts⟩ (kX2_orderOn l D c N a H.size g r3 r4 h4) (cwV 1 hts gX2_layOne_X2_orderOn rfl rfl rfl (by decide +kernel) ⟨Nat.le_of_ble_eq_true rfl, Nat.le_of_ble_eq_true rfl⟩) hP hK hD hS hA (ci := 2) (q0 := 0) rfl rfl rfl rfl hl.1 (Nat.le_of_ble_eq_true rfl) rfl dX2_layOne_28 ⟨Nat.zero_le _, Nat.zero_le _⟩ (fun H locs hP hD hS => ?_)
        refine lv_iconst (v := (-1 : Int32)) hx hb dX2_layOne_31 (by decide) ?_
        refine lv_icmp_ne (tgt := 95) hx hb dX2_layOne_32 (by decide) (fun c5 => ?_) (fun c5 => ?_)
        · have hf := z_ifF hf c5
          refine lv_iinc (v := (x3 + (1 : Int32))) (lv' := [(3, .int (x3 + (1 : Int32))), (4, .int r3), (0, .ref (a 0)), (1, .int x1), (2, .int x2)]) hx hb dX2_layOne_95 hl (k := 4) rfl rfl (by decide) rfl (fun ls hl => ?_)
          refine lv_goto (tgt := 8) hx hb dX2_layOne_98 (by decide) ?_
          exact ih _ hf H locs ls hP hD hS (lv_sub hl [2, 3, 4, 0] rfl)
        · have hf := z_ifT hf c5
          refine lv_aload_n hx hb dX2_layOne_35 rfl (lv_at hl 1 rfl) ?_
          refine va_get (D := D) (ci := 2) (v := .ref (a 6)) (C := RX2) (T := TX2) (N := 16) hx hb hts iX2_layOne_X2 hown hK.1 hP 0 rfl rfl 9 (by decide) (hts _ qX2_layOne_34) (fun _ h9 => h9) rfl dX2_layOne_36 ?_
          refine lv_iload_n hx hb dX2_layOne_39 rfl (lv_at hl 2 rfl) ?_
          refine lv_iload hx hb dX2_layOne_40 (lv_at hl 0 rfl) ?_
          obtain ⟨b6, hf⟩ := z_ckE hf
          refine va_iast hx hb hK.1 hP hD hS 6 0 rfl rfl (z_inE b6) dX2_layOne_42 (fun H locs hP hD hS => ?_)
          obtain ⟨g7, e7, hf⟩ := z_ltE hf
          have hP : va_P D vwCl (z_st c a g7) H := by rw [e7]; exact hP
          have hD : va_D A (z_st c a g7) := by rw [e7]; exact hD
          clear e7
          refine lv_aload_n hx hb dX2_layOne_43 rfl (lv_at hl 1 rfl) ?_
          refine va_get (D := D) (ci := 2) (v := .ref (a 7)) (C := RX2) (T := TX2) (N := 16) hx hb hts iX2_layOne_X2 hown hK.1 hP 0 rfl rfl 10 (by decide) (hts _ qX2_layOne_37) (fun _ h9 => h9) rfl dX2_layOne_44 ?_
          refine lv_iload_n hx hb dX2_layOne_47 rfl (lv_at hl 2 rfl) ?_
          refine lv_iload_n hx hb dX2_layOne_48 rfl (lv_at hl 4 rfl) ?_
          obtain ⟨b8, hf⟩ := z_ckE hf
          refine va_iast hx hb hK.1 hP hD hS 7 0 rfl rfl (z_inE b8) dX2_layOne_49 (fun H locs hP hD hS => ?_)
          obtain ⟨g9, e9, hf⟩ := z_ltE hf
          have hP : va_P D vwCl (z_st c a g9) H := by rw [e9]; exact hP
          have hD : va_D A (z_st c a g9) := by rw [e9]; exact hD
          clear e9
          refine lv_aload_n hx hb dX2_layOne_50 rfl (lv_at hl 1 rfl) ?_
          refine va_get (D := D) (ci := 2) (v := .ref (a 8)) (C := RX2) (T := TX2) (N := 16) hx hb hts iX2_layOne_X2 hown hK.1 hP 0 rfl rfl 11 (by decide) (hts _ qX2_layOne_40) (fun _ h9 => h9) rfl dX2_layOne_51 ?_
          refine lv_iload_n hx hb dX2_layOne_54 rfl (lv_at hl 2 rfl) ?_
          refine lv_aload_n hx hb dX2_layOne_55 rfl (lv_at hl 1 rfl) ?_
          refine va_get (D := D) (ci := 2) (v := .ref (a 5)) (C := RX2) (T := TX2) (N := 16) hx hb hts iX2_layOne_X2 hown hK.1 hP 0 rfl rfl 8 (by decide) (hts _ qX2_layOne_31) (fun _ h9 => h9) rfl dX2_layOne_56 ?_
          refine lv_iload_n hx hb dX2_layOne_59 rfl (lv_at hl 2 rfl) ?_
          obtain ⟨b10, hf⟩ := z_ckE hf
          refine va_iald hx hb hK.1 hP 5 0 rfl rfl (z_inE b10) dX2_layOne_60 ?_
          obtain ⟨b11, hf⟩ := z_ckE hf
          refine va_iast hx hb hK.1 hP hD hS 8 0 rfl rfl (z_inE b11) dX2_layOne_61 (fun H locs hP hD hS => ?_)
          obtain ⟨g12, e12, hf⟩ := z_ltE hf
          have hP : va_P D vwCl (z_st c a g12) H := by rw [e12]; exact hP
          have hD : va_D A (z_st c a g12) := by rw [e12]; exact hD
          clear e12
          refine lv_aload_n hx hb dX2_layOne_62 rfl (lv_at hl 1 rfl) ?_
          refine va_get (D := D) (ci := 2) (v := .ref (a 1)) (C := RX2) (T := TX2) (N := 16) hx hb hts iX2_layOne_X2 hown hK.1 hP 0 rfl rfl 4 (by decide) (hts _ qX2_layOne_18) (fun _ h9 => h9) rfl dX2_layOne_63 ?_
          refine lv_iload_n hx hb dX2_layOne_66 rfl (lv_at hl 2 rfl) ?_
          obtain ⟨b13, hf⟩ := z_ckE hf
          refine va_iald hx hb hK.1 hP 1 0 rfl rfl (z_inE b13) dX2_layOne_67 ?_
          obtain ⟨r14, h14, hf⟩ := z_bE hf
          refine z_cNi (As := [.int (g12 1 (x1).toNatClampNeg)]) (rest := []) ⟨hx, hb, hml, hown, hts⟩ (kX4_isAuthor l D c N H.size (g12 1 (x1).toNatClampNeg) r14 h14) ⟨va_cnB 1 hts gX2_layOne_X4_isAuthor_n100 rfl rfl rfl (hK.2.2 _ zM_X2_100) (hts _ qX2_layOne_in_X4) (by decide +kernel) ⟨Nat.le_of_ble_eq_true rfl, Nat.le_of_ble_eq_true rfl⟩, hts _ qX2_layOne_st_X4_isAuthor, trivial⟩ hP hK hS hA rfl hl.1 (Nat.le_of_ble_eq_true rfl) rfl dX2_layOne_68 ⟨Nat.zero_le _, Nat.zero_le _⟩ (fun H locs hP hS => ?_)
          refine lv_if_eq (tgt := 94) hx hb dX2_layOne_71 (by decide) (fun c15 => ?_) (fun c15 => ?_)
          · have hf := z_ifT hf c15
            exact z_rv (wf := (z_st c a)) hx hb hr hlocks hP hD hS hf dX2_layOne_94
          · have hf := z_ifF hf c15
            refine lv_aload_n hx hb dX2_layOne_74 rfl (lv_at hl 1 rfl) ?_
            refine va_get (D := D) (ci := 2) (v := .ref (a 10)) (C := RX2) (T := TX2) (N := 16) hx hb hts iX2_layOne_X2 hown hK.1 hP 0 rfl rfl 13 (by decide) (hts _ qX2_layOne_46) (fun _ h9 => h9) rfl dX2_layOne_75 ?_
            refine lv_aload_n hx hb dX2_layOne_78 rfl (lv_at hl 1 rfl) ?_
            refine va_get (D := D) (ci := 2) (v := .ref (a 1)) (C := RX2) (T := TX2) (N := 16) hx hb hts iX2_layOne_X2 hown hK.1 hP 0 rfl rfl 4 (by decide) (hts _ qX2_layOne_18) (fun _ h9 => h9) rfl dX2_layOne_79 ?_
            refine lv_iload_n hx hb dX2_layOne_82 rfl (lv_at hl 2 rfl) ?_
            obtain ⟨b16, hf⟩ := z_ckE hf
            refine va_iald hx hb hK.1 hP 1 0 rfl rfl (z_inE b16) dX2_layOne_83 ?_
            refine lv_dup2_11 hx hb dX2_layOne_84 rfl rfl ?_
            obtain ⟨b17, hf⟩ := z_ckE hf
            refine va_iald hx hb hK.1 hP 10 0 rfl rfl (z_inE b17) dX2_layOne_85 ?_
            refine lv_aload_n hx hb dX2_layOne_86 rfl (lv_at hl 1 rfl) ?_
            refine va_get (D := D) (ci := 2) (v := .ref (a 5)) (C := RX2) (T := TX2) (N := 16) hx hb hts iX2_layOne_X2 hown hK.1 hP 0 rfl rfl 8 (by decide) (hts _ qX2_layOne_31) (fun _ h9 => h9) rfl dX2_layOne_87 ?_
            refine lv_iload_n hx hb dX2_layOne_90 rfl (lv_at hl 2 rfl) ?_
            obtain ⟨b18, hf⟩ := z_ckE hf
            refine va_iald hx hb hK.1 hP 5 0 rfl rfl (z_inE b18) dX2_layOne_91 ?_
            refine lv_iadd hx hb dX2_layOne_92 ?_
            obtain ⟨b19, hf⟩ := z_ckE hf
            refine va_iast hx hb hK.1 hP hD hS 10 0 rfl rfl (z_inE b19) dX2_layOne_93 (fun H locs hP hD hS => ?_)
            obtain ⟨g20, e20, hf⟩ := z_ltE hf
            have hP : va_P D vwCl (z_st c a g20) H := by rw [e20]; exact hP
            have hD : va_D A (z_st c a g20) := by rw [e20]; exact hD
            clear e20
            exact z_rv (wf := (z_st c a)) hx hb hr hlocks hP hD hS hf dX2_layOne_94
  unfold fX2_layOne at hf
  generalize ([] : List Loc) = locs at hS ⊢
  refine lv_aload_n hx hb dX2_layOne_0 rfl (lv_at hl 0 rfl) ?_
  refine lv_iload_n hx hb dX2_layOne_1 rfl (lv_at hl 1 rfl) ?_
  obtain ⟨r1, h1, hf⟩ := z_bE hf
  refine z_cVi (As := [.int p1]) (rest := []) (wf := (z_st c a)) (g := g) (u0 := g) ⟨hx, hb, hml, hown, hts⟩ (kX2_wantedPlace l D c N a H.size g p1 r1 h1) (cwV 1 hts gX2_layOne_X2_wantedPlace rfl rfl rfl (by decide +kernel) ⟨Nat.le_of_ble_eq_true rfl, Nat.le_of_ble_eq_true rfl⟩) hP hK hD hS hA (ci := 2) (q0 := 0) rfl rfl rfl rfl hl.1 (Nat.le_of_ble_eq_true rfl) rfl dX2_layOne_2 ⟨Nat.zero_le _, Nat.zero_le _⟩ (fun H locs hP hD hS => ?_)
  refine lv_istore_n (lv' := [(2, .int r1), (0, .ref (a 0)), (1, .int p1)]) hx hb dX2_layOne_5 rfl hl (by decide) rfl (fun ls hl => ?_)
  refine lv_iconst (v := (0 : Int32)) hx hb dX2_layOne_6 (by decide) ?_
  refine lv_istore_n (lv' := [(3, .int (0 : Int32)), (2, .int r1), (0, .ref (a 0)), (1, .int p1)]) hx hb dX2_layOne_7 rfl hl (by decide) rfl (fun ls hl => ?_)
  exact L8 _ _ _ N _ hf H locs ls hP hD hS (lv_sub hl [2, 3, 1, 0] rfl)
abbrev rmX2_layAll : Room := { frames := 4, cells := 0, slots := 0, locals := 89 }
theorem qX2_layAll_37 : Cond.fieldLink RX2 37 "ProgramDrum$State" "delay" "[I" ∈ wsX2_layAll := by decide +kernel
theorem iX2_layAll_X2 : ∀ w ∈ wsX20, w ∈ wsX2_layAll := by decide +kernel
set_option maxRecDepth 100000 in
set_option maxHeartbeats 4000000 in
theorem kX2_layAll (l : Launch) (D : va_G) (c : Nat → ClassId) (N : Nat) (a : Nat → Nat) (sz : Nat) (g : z_R) (r0 : Int32) (g0 : z_R) (hf : fX2_layAll N g = some (r0, g0)) : Met l yX2_layAll wsX2_layAll rmX2_layAll (z_Pc D c sz (z_st c a g) [.ref (a 0)]) (z_Qi D (z_st c a) r0 g0 (va_A (z_st c a g) sz)) 0 0 (va_A (z_st c a g) sz) := by
  refine z_ofM (cc := cX2_layAll) (maxL := 4) (ret := (some .int)) (Qf := fun A => z_Qi D (z_st c a) r0 g0 A) (plainFor_of_name (by decide)) rfl (Nat.le_of_ble_eq_true rfl) ?_
  intro p e s m args below meth co A ls hx hb hr hml hts hown hlocks hnm hA hP hK hD hl hsz
  have hl : lv_has ls 4 [(0, .ref (a 0))] := hl
  have hown : s.vm.findClass RX2 = some m.cls := hown
  obtain ⟨H, hH⟩ : ∃ H, H = s.heap := ⟨_, rfl⟩
  have hS : va_S A s.heap H [] := by rw [hH]; exact va_S.rf
  rw [← hH] at hP ⊢
  clear hH
  have L14 : ∀ (fu : Nat) (x1 : Int32) (x2 : Int32) (x3 : Int32) (g : z_R), lX2_layAll_14 N fu x1 x2 x3 g = some (r0, g0) → ∀ (H : Heap) (locs : List Loc) (ls : Array Slot), va_P D vwCl (z_st c a g) H → va_D A (z_st c a g) → va_S A s.heap H locs → lv_has ls 4 [(0, .ref (a 0)), (1, .int x1), (2, .int x2), (3, .int x3)] → W p l e rmX2_layAll s m args below meth co H locs 0 0 (MQ below (z_Qi D (z_st c a) r0 g0 A) args s 0 0 A) (F0 m 14 ls []) := by
    intro fu
    induction fu with
    | zero =>
      intro x1 x2 x3 g hf
      have hf : (none : Option (Int32 × z_R)) = some _ := hf
      cases hf
    | succ fu ih =>
      intro x1 x2 x3 g hf H locs ls hP hD hS hl
      rw [lX2_layAll_14.eq_2] at hf
      refine lv_iload_n hx hb dX2_layAll_14 rfl (lv_at hl 3 rfl) ?_
      refine lv_bipush (v := (16 : Int32)) hx hb dX2_layAll_15 (by decide) ?_
      refine lv_icmp_ge (tgt := 64) hx hb dX2_layAll_17 (by decide) (fun c3 => ?_) (fun c3 => ?_)
      · have hf := z_ifT hf c3
        refine lv_iload_n hx hb dX2_layAll_64 rfl (lv_at hl 1 rfl) ?_
        exact z_ri (wf := (z_st c a)) hx hb hr hlocks hP hD hS hf dX2_layAll_65
      · have hf := z_ifF hf c3
        refine lv_aload_n hx hb dX2_layAll_20 rfl (lv_at hl 0 rfl) ?_
        refine lv_iload_n hx hb dX2_layAll_21 rfl (lv_at hl 2 rfl) ?_
        obtain ⟨r4, h4, hf⟩ := z_bE hf
        refine z_cVi (As := [.int x2]) (rest := []) (wf := (z_st c a)) (g := g) (u0 := g) ⟨hx, hb, hml, hown, hts⟩ (kX2_has l D c N a H.size g x2 r4 h4) (cwV 1 hts gX2_layAll_X2_has rfl rfl rfl (by decide +kernel) ⟨Nat.le_of_ble_eq_true rfl, Nat.le_of_ble_eq_true rfl⟩) hP hK hD hS hA (ci := 2) (q0 := 0) rfl rfl rfl rfl hl.1 (Nat.le_of_ble_eq_true rfl) rfl dX2_layAll_22 ⟨Nat.zero_le _, Nat.zero_le _⟩ (fun H locs hP hD hS => ?_)
        refine lv_if_eq (tgt := 64) hx hb dX2_layAll_25 (by decide) (fun c5 => ?_) (fun c5 => ?_)
        · have hf := z_ifT hf c5
          refine lv_iload_n hx hb dX2_layAll_64 rfl (lv_at hl 1 rfl) ?_
          exact z_ri (wf := (z_st c a)) hx hb hr hlocks hP hD hS hf dX2_layAll_65
        · have hf := z_ifF hf c5
          refine lv_aload_n hx hb dX2_layAll_28 rfl (lv_at hl 0 rfl) ?_
          refine lv_iload_n hx hb dX2_layAll_29 rfl (lv_at hl 2 rfl) ?_
          obtain ⟨g6, h6, hf⟩ := z_bE hf
          refine z_cVv (As := [.int x2]) (rest := []) (wf := (z_st c a)) (g := g) (u0 := g6) ⟨hx, hb, hml, hown, hts⟩ (kX2_layOne l D c N a H.size g x2 g6 h6) (cwV 1 hts gX2_layAll_X2_layOne rfl rfl rfl (by decide +kernel) ⟨Nat.le_of_ble_eq_true rfl, Nat.le_of_ble_eq_true rfl⟩) hP hK hD hS hA (ci := 2) (q0 := 0) rfl rfl rfl rfl hl.1 (Nat.le_of_ble_eq_true rfl) rfl dX2_layAll_30 ⟨Nat.zero_le _, Nat.zero_le _⟩ (fun H locs hP hD hS => ?_)
          refine lv_aload_n hx hb dX2_layAll_33 rfl (lv_at hl 0 rfl) ?_
          refine va_get (D := D) (ci := 2) (v := .ref (a 7)) (C := RX2) (T := TX2) (N := 16) hx hb hts iX2_layAll_X2 hown hK.1 hP 0 rfl rfl 10 (by decide) (hts _ qX2_layAll_37) (fun _ h9 => h9) rfl dX2_layAll_34 ?_
          refine lv_iload_n hx hb dX2_layAll_37 rfl (lv_at hl 2 rfl) ?_
          obtain ⟨b7, hf⟩ := z_ckE hf
          refine va_iald hx hb hK.1 hP 7 0 rfl rfl (z_inE b7) dX2_layAll_38 ?_
          refine lv_iconst (v := (-1 : Int32)) hx hb dX2_layAll_39 (by decide) ?_
          refine lv_icmp_eq (tgt := 52) hx hb dX2_layAll_40 (by decide) (fun c8 => ?_) (fun c8 => ?_)
          · have hf := z_ifT hf c8
            refine lv_aload_n hx hb dX2_layAll_52 rfl (lv_at hl 0 rfl) ?_
            refine lv_iload_n hx hb dX2_layAll_53 rfl (lv_at hl 2 rfl) ?_
            obtain ⟨r9, h9, hf⟩ := z_bE hf
            refine z_cVi (As := [.int x2]) (rest := []) (wf := (z_st c a)) (g := g6) (u0 := g6) ⟨hx, hb, hml, hown, hts⟩ (kX2_laidBehind l D c N a H.size g6 x2 r9 h9) (cwV 1 hts gX2_layAll_X2_laidBehind rfl rfl rfl (by decide +kernel) ⟨Nat.le_of_ble_eq_true rfl, Nat.le_of_ble_eq_true rfl⟩) hP hK hD hS hA (ci := 2) (q0 := 0) rfl rfl rfl rfl hl.1 (Nat.le_of_ble_eq_true rfl) rfl dX2_layAll_54 ⟨Nat.zero_le _, Nat.zero_le _⟩ (fun H locs hP hD hS => ?_)
            refine lv_istore_n (lv' := [(2, .int r9), (0, .ref (a 0)), (1, .int x1), (3, .int x3)]) hx hb dX2_layAll_57 rfl hl (by decide) rfl (fun ls hl => ?_)
            refine lv_iinc (v := (x3 + (1 : Int32))) (lv' := [(3, .int (x3 + (1 : Int32))), (2, .int r9), (0, .ref (a 0)), (1, .int x1)]) hx hb dX2_layAll_58 hl (k := 3) rfl rfl (by decide) rfl (fun ls hl => ?_)
            refine lv_goto (tgt := 14) hx hb dX2_layAll_61 (by decide) ?_
            exact ih _ _ _ _ hf H locs ls hP hD hS (lv_sub hl [2, 3, 1, 0] rfl)
          · have hf := z_ifF hf c8
            refine lv_iload_n hx hb dX2_layAll_43 rfl (lv_at hl 1 rfl) ?_
            refine lv_aload_n hx hb dX2_layAll_44 rfl (lv_at hl 0 rfl) ?_
            refine va_get (D := D) (ci := 2) (v := .ref (a 7)) (C := RX2) (T := TX2) (N := 16) hx hb hts iX2_layAll_X2 hown hK.1 hP 0 rfl rfl 10 (by decide) (hts _ qX2_layAll_37) (fun _ h9 => h9) rfl dX2_layAll_45 ?_
            refine lv_iload_n hx hb dX2_layAll_48 rfl (lv_at hl 2 rfl) ?_
            obtain ⟨b10, hf⟩ := z_ckE hf
            refine va_iald hx hb hK.1 hP 7 0 rfl rfl (z_inE b10) dX2_layAll_49 ?_
            refine lv_iadd hx hb dX2_layAll_50 ?_
            refine lv_istore_n (lv' := [(1, .int (x1 + (g6 7 (x2).toNatClampNeg))), (0, .ref (a 0)), (2, .int x2), (3, .int x3)]) hx hb dX2_layAll_51 rfl hl (by decide) rfl (fun ls hl => ?_)
            refine lv_aload_n hx hb dX2_layAll_52 rfl (lv_at hl 1 rfl) ?_
            refine lv_iload_n hx hb dX2_layAll_53 rfl (lv_at hl 2 rfl) ?_
            obtain ⟨r11, h11, hf⟩ := z_bE hf
            refine z_cVi (As := [.int x2]) (rest := []) (wf := (z_st c a)) (g := g6) (u0 := g6) ⟨hx, hb, hml, hown, hts⟩ (kX2_laidBehind l D c N a H.size g6 x2 r11 h11) (cwV 1 hts gX2_layAll_X2_laidBehind rfl rfl rfl (by decide +kernel) ⟨Nat.le_of_ble_eq_true rfl, Nat.le_of_ble_eq_true rfl⟩) hP hK hD hS hA (ci := 2) (q0 := 0) rfl rfl rfl rfl hl.1 (Nat.le_of_ble_eq_true rfl) rfl dX2_layAll_54 ⟨Nat.zero_le _, Nat.zero_le _⟩ (fun H locs hP hD hS => ?_)
            refine lv_istore_n (lv' := [(2, .int r11), (1, .int (x1 + (g6 7 (x2).toNatClampNeg))), (0, .ref (a 0)), (3, .int x3)]) hx hb dX2_layAll_57 rfl hl (by decide) rfl (fun ls hl => ?_)
            refine lv_iinc (v := (x3 + (1 : Int32))) (lv' := [(3, .int (x3 + (1 : Int32))), (2, .int r11), (1, .int (x1 + (g6 7 (x2).toNatClampNeg))), (0, .ref (a 0))]) hx hb dX2_layAll_58 hl (k := 3) rfl rfl (by decide) rfl (fun ls hl => ?_)
            refine lv_goto (tgt := 14) hx hb dX2_layAll_61 (by decide) ?_
            exact ih _ _ _ _ hf H locs ls hP hD hS (lv_sub hl [3, 2, 1, 0] rfl)
  unfold fX2_layAll at hf
  generalize ([] : List Loc) = locs at hS ⊢
  refine lv_aload_n hx hb dX2_layAll_0 rfl (lv_at hl 0 rfl) ?_
  obtain ⟨g1, h1, hf⟩ := z_bE hf
  refine z_cVv (As := []) (rest := []) (wf := (z_st c a)) (g := g) (u0 := g1) ⟨hx, hb, hml, hown, hts⟩ (kX2_takeAllOff l D c N a H.size g  g1 h1) (cwV 0 hts gX2_layAll_X2_takeAllOff rfl rfl rfl (by decide +kernel) ⟨Nat.le_of_ble_eq_true rfl, Nat.le_of_ble_eq_true rfl⟩) hP hK hD hS hA (ci := 2) (q0 := 0) rfl rfl rfl rfl hl.1 (Nat.le_of_ble_eq_true rfl) rfl dX2_layAll_1 ⟨Nat.zero_le _, Nat.zero_le _⟩ (fun H locs hP hD hS => ?_)
  refine lv_iconst (v := (0 : Int32)) hx hb dX2_layAll_4 (by decide) ?_
  refine lv_istore_n (lv' := [(1, .int (0 : Int32)), (0, .ref (a 0))]) hx hb dX2_layAll_5 rfl hl (by decide) rfl (fun ls hl => ?_)
  refine lv_aload_n hx hb dX2_layAll_6 rfl (lv_at hl 1 rfl) ?_
  refine lv_iconst (v := (-1 : Int32)) hx hb dX2_layAll_7 (by decide) ?_
  obtain ⟨r2, h2, hf⟩ := z_bE hf
  refine z_cVi (As := [.int (-1 : Int32)]) (rest := []) (wf := (z_st c a)) (g := g1) (u0 := g1) ⟨hx, hb, hml, hown, hts⟩ (kX2_laidBehind l D c N a H.size g1 (-1 : Int32) r2 h2) (cwV 1 hts gX2_layAll_X2_laidBehind rfl rfl rfl (by decide +kernel) ⟨Nat.le_of_ble_eq_true rfl, Nat.le_of_ble_eq_true rfl⟩) hP hK hD hS hA (ci := 2) (q0 := 0) rfl rfl rfl rfl hl.1 (Nat.le_of_ble_eq_true rfl) rfl dX2_layAll_8 ⟨Nat.zero_le _, Nat.zero_le _⟩ (fun H locs hP hD hS => ?_)
  refine lv_istore_n (lv' := [(2, .int r2), (1, .int (0 : Int32)), (0, .ref (a 0))]) hx hb dX2_layAll_11 rfl hl (by decide) rfl (fun ls hl => ?_)
  refine lv_iconst (v := (0 : Int32)) hx hb dX2_layAll_12 (by decide) ?_
  refine lv_istore_n (lv' := [(3, .int (0 : Int32)), (2, .int r2), (1, .int (0 : Int32)), (0, .ref (a 0))]) hx hb dX2_layAll_13 rfl hl (by decide) rfl (fun ls hl => ?_)
  exact L14 N _ _ _ _ hf H locs ls hP hD hS (lv_sub hl [3, 2, 1, 0] rfl)
abbrev rmX2_waitFor : Room := { frames := 2, cells := 0, slots := 0, locals := 43 }
theorem qX2_waitFor_34 : Cond.fieldLink RX2 34 "ProgramDrum$State" "place" "[I" ∈ wsX2_waitFor := by decide +kernel
theorem iX2_waitFor_X2 : ∀ w ∈ wsX20, w ∈ wsX2_waitFor := by decide +kernel
theorem qX2_waitFor_62 : Cond.fieldLink RX2 62 "ProgramDrum$State" "tick" "I" ∈ wsX2_waitFor := by decide +kernel
set_option maxRecDepth 100000 in
set_option maxHeartbeats 4000000 in
theorem kX2_waitFor (l : Launch) (D : va_G) (c : Nat → ClassId) (N : Nat) (a : Nat → Nat) (sz : Nat) (g : z_R) (p1 : Int32) (r0 : Int32) (hf : fX2_waitFor N p1 g = some r0) : Met l yX2_waitFor wsX2_waitFor rmX2_waitFor (z_Pc D c sz (z_st c a g) [.ref (a 0), .int p1]) (z_Qi D (z_st c a) r0 g (va_A (z_st c a g) sz)) 0 0 (va_A (z_st c a g) sz) := by
  refine z_ofM (cc := cX2_waitFor) (maxL := 2) (ret := (some .int)) (Qf := fun A => z_Qi D (z_st c a) r0 g A) (plainFor_of_name (by decide)) rfl (Nat.le_of_ble_eq_true rfl) ?_
  intro p e s m args below meth co A ls hx hb hr hml hts hown hlocks hnm hA hP hK hD hl hsz
  have hl : lv_has ls 2 [(0, .ref (a 0)), (1, .int p1)] := hl
  have hown : s.vm.findClass RX2 = some m.cls := hown
  obtain ⟨H, hH⟩ : ∃ H, H = s.heap := ⟨_, rfl⟩
  have hS : va_S A s.heap H [] := by rw [hH]; exact va_S.rf
  rw [← hH] at hP ⊢
  clear hH
  unfold fX2_waitFor at hf
  generalize ([] : List Loc) = locs at hS ⊢
  refine lv_aload_n hx hb dX2_waitFor_0 rfl (lv_at hl 0 rfl) ?_
  refine lv_iload_n hx hb dX2_waitFor_1 rfl (lv_at hl 1 rfl) ?_
  obtain ⟨r1, h1, hf⟩ := z_bE hf
  refine z_cVi (As := [.int p1]) (rest := []) (wf := (z_st c a)) (g := g) (u0 := g) ⟨hx, hb, hml, hown, hts⟩ (kX2_isOnDrum l D c N a H.size g p1 r1 h1) (cwV 1 hts gX2_waitFor_X2_isOnDrum rfl rfl rfl (by decide +kernel) ⟨Nat.le_of_ble_eq_true rfl, Nat.le_of_ble_eq_true rfl⟩) hP hK hD hS hA (ci := 2) (q0 := 0) rfl rfl rfl rfl hl.1 (Nat.le_of_ble_eq_true rfl) rfl dX2_waitFor_2 ⟨Nat.zero_le _, Nat.zero_le _⟩ (fun H locs hP hD hS => ?_)
  refine lv_if_eq (tgt := 26) hx hb dX2_waitFor_5 (by decide) (fun c2 => ?_) (fun c2 => ?_)
  · have hf := z_ifT hf c2
    refine lv_iconst (v := (-1 : Int32)) hx hb dX2_waitFor_26 (by decide) ?_
    exact z_rp (wf := (z_st c a)) hx hb hr hlocks hP hD hS hf dX2_waitFor_27
  · have hf := z_ifF hf c2
    refine lv_aload_n hx hb dX2_waitFor_8 rfl (lv_at hl 0 rfl) ?_
    refine lv_aload_n hx hb dX2_waitFor_9 rfl (lv_at hl 0 rfl) ?_
    refine va_get (D := D) (ci := 2) (v := .ref (a 6)) (C := RX2) (T := TX2) (N := 16) hx hb hts iX2_waitFor_X2 hown hK.1 hP 0 rfl rfl 9 (by decide) (hts _ qX2_waitFor_34) (fun _ h9 => h9) rfl dX2_waitFor_10 ?_
    refine lv_iload_n hx hb dX2_waitFor_13 rfl (lv_at hl 1 rfl) ?_
    obtain ⟨b3, hf⟩ := z_ckE hf
    refine va_iald hx hb hK.1 hP 6 0 rfl rfl (z_inE b3) dX2_waitFor_14 ?_
    refine lv_aload_n hx hb dX2_waitFor_15 rfl (lv_at hl 0 rfl) ?_
    refine va_get (D := D) (ci := 2) (v := .int (g 0 2)) (C := RX2) (T := TX2) (N := 16) hx hb hts iX2_waitFor_X2 hown hK.1 hP 0 rfl rfl 2 (by decide) (hts _ qX2_waitFor_62) (fun _ h9 => h9) rfl dX2_waitFor_16 ?_
    refine lv_isub hx hb dX2_waitFor_19 ?_
    obtain ⟨r4, h4, hf⟩ := z_bE hf
    refine z_cVi (As := [.int ((g 6 (p1).toNatClampNeg) - (g 0 2))]) (rest := []) (wf := (z_st c a)) (g := g) (u0 := g) ⟨hx, hb, hml, hown, hts⟩ (kX2_around l D c N a H.size g ((g 6 (p1).toNatClampNeg) - (g 0 2)) r4 h4) (cwV 1 hts gX2_waitFor_X2_around rfl rfl rfl (by decide +kernel) ⟨Nat.le_of_ble_eq_true rfl, Nat.le_of_ble_eq_true rfl⟩) hP hK hD hS hA (ci := 2) (q0 := 0) rfl rfl rfl rfl hl.1 (Nat.le_of_ble_eq_true rfl) rfl dX2_waitFor_20 ⟨Nat.zero_le _, Nat.zero_le _⟩ (fun H locs hP hD hS => ?_)
    refine lv_goto (tgt := 27) hx hb dX2_waitFor_23 (by decide) ?_
    exact z_rp (wf := (z_st c a)) hx hb hr hlocks hP hD hS hf dX2_waitFor_27
abbrev rmX2_read : Room := { frames := 2, cells := 0, slots := 0, locals := 43 }
theorem qX2_read_34 : Cond.fieldLink RX2 34 "ProgramDrum$State" "place" "[I" ∈ wsX2_read := by decide +kernel
theorem iX2_read_X2 : ∀ w ∈ wsX20, w ∈ wsX2_read := by decide +kernel
theorem qX2_read_62 : Cond.fieldLink RX2 62 "ProgramDrum$State" "tick" "I" ∈ wsX2_read := by decide +kernel
theorem qX2_read_43 : Cond.fieldLink RX2 43 "ProgramDrum$State" "lastWait" "[I" ∈ wsX2_read := by decide +kernel
theorem qX2_read_22 : Cond.fieldLink RX2 22 "ProgramDrum$State" "work" "[I" ∈ wsX2_read := by decide +kernel
theorem qX2_read_40 : Cond.fieldLink RX2 40 "ProgramDrum$State" "open" "[I" ∈ wsX2_read := by decide +kernel
set_option maxRecDepth 100000 in
set_option maxHeartbeats 4000000 in
theorem kX2_read (l : Launch) (D : va_G) (c : Nat → ClassId) (N : Nat) (a : Nat → Nat) (sz : Nat) (g : z_R) (p1 : Int32) (p2 : Int32) (g0 : z_R) (hf : fX2_read N p1 p2 g = some g0) : Met l yX2_read wsX2_read rmX2_read (z_Pc D c sz (z_st c a g) [.ref (a 0), .int p1, .int p2]) (z_Qv D (z_st c a) g0 (va_A (z_st c a g) sz)) 0 0 (va_A (z_st c a g) sz) := by
  refine z_ofM (cc := cX2_read) (maxL := 4) (ret := none) (Qf := fun A => z_Qv D (z_st c a) g0 A) (plainFor_of_name (by decide)) rfl (Nat.le_of_ble_eq_true rfl) ?_
  intro p e s m args below meth co A ls hx hb hr hml hts hown hlocks hnm hA hP hK hD hl hsz
  have hl : lv_has ls 4 [(0, .ref (a 0)), (1, .int p1), (2, .int p2)] := hl
  have hown : s.vm.findClass RX2 = some m.cls := hown
  obtain ⟨H, hH⟩ : ∃ H, H = s.heap := ⟨_, rfl⟩
  have hS : va_S A s.heap H [] := by rw [hH]; exact va_S.rf
  rw [← hH] at hP ⊢
  clear hH
  unfold fX2_read at hf
  generalize ([] : List Loc) = locs at hS ⊢
  refine lv_aload_n hx hb dX2_read_0 rfl (lv_at hl 0 rfl) ?_
  refine lv_aload_n hx hb dX2_read_1 rfl (lv_at hl 0 rfl) ?_
  refine va_get (D := D) (ci := 2) (v := .ref (a 6)) (C := RX2) (T := TX2) (N := 16) hx hb hts iX2_read_X2 hown hK.1 hP 0 rfl rfl 9 (by decide) (hts _ qX2_read_34) (fun _ h9 => h9) rfl dX2_read_2 ?_
  refine lv_iload_n hx hb dX2_read_5 rfl (lv_at hl 1 rfl) ?_
  obtain ⟨b1, hf⟩ := z_ckE hf
  refine va_iald hx hb hK.1 hP 6 0 rfl rfl (z_inE b1) dX2_read_6 ?_
  refine lv_aload_n hx hb dX2_read_7 rfl (lv_at hl 0 rfl) ?_
  refine va_get (D := D) (ci := 2) (v := .int (g 0 2)) (C := RX2) (T := TX2) (N := 16) hx hb hts iX2_read_X2 hown hK.1 hP 0 rfl rfl 2 (by decide) (hts _ qX2_read_62) (fun _ h9 => h9) rfl dX2_read_8 ?_
  refine lv_isub hx hb dX2_read_11 ?_
  obtain ⟨r2, h2, hf⟩ := z_bE hf
  refine z_cVi (As := [.int ((g 6 (p1).toNatClampNeg) - (g 0 2))]) (rest := []) (wf := (z_st c a)) (g := g) (u0 := g) ⟨hx, hb, hml, hown, hts⟩ (kX2_around l D c N a H.size g ((g 6 (p1).toNatClampNeg) - (g 0 2)) r2 h2) (cwV 1 hts gX2_read_X2_around rfl rfl rfl (by decide +kernel) ⟨Nat.le_of_ble_eq_true rfl, Nat.le_of_ble_eq_true rfl⟩) hP hK hD hS hA (ci := 2) (q0 := 0) rfl rfl rfl rfl hl.1 (Nat.le_of_ble_eq_true rfl) rfl dX2_read_12 ⟨Nat.zero_le _, Nat.zero_le _⟩ (fun H locs hP hD hS => ?_)
  refine lv_istore_n (lv' := [(3, .int r2), (0, .ref (a 0)), (1, .int p1), (2, .int p2)]) hx hb dX2_read_15 rfl hl (by decide) rfl (fun ls hl => ?_)
  refine lv_aload_n hx hb dX2_read_16 rfl (lv_at hl 1 rfl) ?_
  refine lv_dup hx hb dX2_read_17 rfl ?_
  refine va_get (D := D) (ci := 2) (v := .int (g 0 2)) (C := RX2) (T := TX2) (N := 16) hx hb hts iX2_read_X2 hown hK.1 hP 0 rfl rfl 2 (by decide) (hts _ qX2_read_62) (fun _ h9 => h9) rfl dX2_read_18 ?_
  refine lv_iload_n hx hb dX2_read_21 rfl (lv_at hl 0 rfl) ?_
  refine lv_iadd hx hb dX2_read_22 ?_
  refine va_put (D := D) (ci := 2) (v := .int ((g 0 2) + r2)) (ty := .int) (C := RX2) (T := TX2) (N := 16) hx hb hts iX2_read_X2 tyX2 tyX2_ok nmX2 hown hK.1 hP hD hS 0 rfl rfl 2 (by decide) (hts _ qX2_read_62) (fun _ h9 => h9) rfl (by decide +kernel) rfl rfl (Nat.le_of_ble_eq_true rfl) dX2_read_23 (fun H locs hP hD hS => ?_)
  obtain ⟨g3, e3, hf⟩ := z_ltE hf
  have hP : va_P D vwCl (z_st c a g3) H := by rw [e3]; exact hP
  have hD : va_D A (z_st c a g3) := by rw [e3]; exact hD
  clear e3
  refine lv_aload_n hx hb dX2_read_26 rfl (lv_at hl 1 rfl) ?_
  refine va_get (D := D) (ci := 2) (v := .ref (a 9)) (C := RX2) (T := TX2) (N := 16) hx hb hts iX2_read_X2 hown hK.1 hP 0 rfl rfl 12 (by decide) (hts _ qX2_read_43) (fun _ h9 => h9) rfl dX2_read_27 ?_
  refine lv_iload_n hx hb dX2_read_30 rfl (lv_at hl 2 rfl) ?_
  refine lv_iload_n hx hb dX2_read_31 rfl (lv_at hl 0 rfl) ?_
  obtain ⟨b4, hf⟩ := z_ckE hf
  refine va_iast hx hb hK.1 hP hD hS 9 0 rfl rfl (z_inE b4) dX2_read_32 (fun H locs hP hD hS => ?_)
  obtain ⟨g5, e5, hf⟩ := z_ltE hf
  have hP : va_P D vwCl (z_st c a g5) H := by rw [e5]; exact hP
  have hD : va_D A (z_st c a g5) := by rw [e5]; exact hD
  clear e5
  refine lv_iload_n hx hb dX2_read_33 rfl (lv_at hl 3 rfl) ?_
  refine lv_if_eq (tgt := 54) hx hb dX2_read_34 (by decide) (fun c6 => ?_) (fun c6 => ?_)
  · have hf := z_ifT hf c6
    refine lv_aload_n hx hb dX2_read_54 rfl (lv_at hl 1 rfl) ?_
    refine lv_dup hx hb dX2_read_55 rfl ?_
    refine va_get (D := D) (ci := 2) (v := .int (g5 0 2)) (C := RX2) (T := TX2) (N := 16) hx hb hts iX2_read_X2 hown hK.1 hP 0 rfl rfl 2 (by decide) (hts _ qX2_read_62) (fun _ h9 => h9) rfl dX2_read_56 ?_
    refine lv_iconst (v := (1 : Int32)) hx hb dX2_read_59 (by decide) ?_
    refine lv_aload_n hx hb dX2_read_60 rfl (lv_at hl 1 rfl) ?_
    refine va_get (D := D) (ci := 2) (v := .ref (a 2)) (C := RX2) (T := TX2) (N := 16) hx hb hts iX2_read_X2 hown hK.1 hP 0 rfl rfl 5 (by decide) (hts _ qX2_read_22) (fun _ h9 => h9) rfl dX2_read_61 ?_
    refine lv_iload_n hx hb dX2_read_64 rfl (lv_at hl 2 rfl) ?_
    obtain ⟨b7, hf⟩ := z_ckE hf
    refine va_iald hx hb hK.1 hP 2 0 rfl rfl (z_inE b7) dX2_read_65 ?_
    refine lv_iadd hx hb dX2_read_66 ?_
    refine lv_iadd hx hb dX2_read_67 ?_
    refine va_put (D := D) (ci := 2) (v := .int ((g5 0 2) + ((1 : Int32) + (g5 2 (p1).toNatClampNeg)))) (ty := .int) (C := RX2) (T := TX2) (N := 16) hx hb hts iX2_read_X2 tyX2 tyX2_ok nmX2 hown hK.1 hP hD hS 0 rfl rfl 2 (by decide) (hts _ qX2_read_62) (fun _ h9 => h9) rfl (by decide +kernel) rfl rfl (Nat.le_of_ble_eq_true rfl) dX2_read_68 (fun H locs hP hD hS => ?_)
    obtain ⟨g8, e8, hf⟩ := z_ltE hf
    have hP : va_P D vwCl (z_st c a g8) H := by rw [e8]; exact hP
    have hD : va_D A (z_st c a g8) := by rw [e8]; exact hD
    clear e8
    exact z_rv (wf := (z_st c a)) hx hb hr hlocks hP hD hS hf dX2_read_71
  · have hf := z_ifF hf c6
    refine lv_iload_n hx hb dX2_read_37 rfl (lv_at hl 0 rfl) ?_
    refine lv_if_eq (tgt := 47) hx hb dX2_read_38 (by decide) (fun c9 => ?_) (fun c9 => ?_)
    · have hf := z_ifT hf c9
      refine lv_aload_n hx hb dX2_read_47 rfl (lv_at hl 1 rfl) ?_
      refine va_get (D := D) (ci := 2) (v := .ref (a 8)) (C := RX2) (T := TX2) (N := 16) hx hb hts iX2_read_X2 hown hK.1 hP 0 rfl rfl 11 (by decide) (hts _ qX2_read_40) (fun _ h9 => h9) rfl dX2_read_48 ?_
      refine lv_iload_n hx hb dX2_read_51 rfl (lv_at hl 2 rfl) ?_
      refine lv_iconst (v := (0 : Int32)) hx hb dX2_read_52 (by decide) ?_
      obtain ⟨b10, hf⟩ := z_ckE hf
      refine va_iast hx hb hK.1 hP hD hS 8 0 rfl rfl (z_inE b10) dX2_read_53 (fun H locs hP hD hS => ?_)
      obtain ⟨g11, e11, hf⟩ := z_ltE hf
      have hP : va_P D vwCl (z_st c a g11) H := by rw [e11]; exact hP
      have hD : va_D A (z_st c a g11) := by rw [e11]; exact hD
      clear e11
      refine lv_aload_n hx hb dX2_read_54 rfl (lv_at hl 1 rfl) ?_
      refine lv_dup hx hb dX2_read_55 rfl ?_
      refine va_get (D := D) (ci := 2) (v := .int (g11 0 2)) (C := RX2) (T := TX2) (N := 16) hx hb hts iX2_read_X2 hown hK.1 hP 0 rfl rfl 2 (by decide) (hts _ qX2_read_62) (fun _ h9 => h9) rfl dX2_read_56 ?_
      refine lv_iconst (v := (1 : Int32)) hx hb dX2_read_59 (by decide) ?_
      refine lv_aload_n hx hb dX2_read_60 rfl (lv_at hl 1 rfl) ?_
      refine va_get (D := D) (ci := 2) (v := .ref (a 2)) (C := RX2) (T := TX2) (N := 16) hx hb hts iX2_read_X2 hown hK.1 hP 0 rfl rfl 5 (by decide) (hts _ qX2_read_22) (fun _ h9 => h9) rfl dX2_read_61 ?_
      refine lv_iload_n hx hb dX2_read_64 rfl (lv_at hl 2 rfl) ?_
      obtain ⟨b12, hf⟩ := z_ckE hf
      refine va_iald hx hb hK.1 hP 2 0 rfl rfl (z_inE b12) dX2_read_65 ?_
      refine lv_iadd hx hb dX2_read_66 ?_
      refine lv_iadd hx hb dX2_read_67 ?_
      refine va_put (D := D) (ci := 2) (v := .int ((g11 0 2) + ((1 : Int32) + (g11 2 (p1).toNatClampNeg)))) (ty := .int) (C := RX2) (T := TX2) (N := 16) hx hb hts iX2_read_X2 tyX2 tyX2_ok nmX2 hown hK.1 hP hD hS 0 rfl rfl 2 (by decide) (hts _ qX2_read_62) (fun _ h9 => h9) rfl (by decide +kernel) rfl rfl (Nat.le_of_ble_eq_true rfl) dX2_read_68 (fun H locs hP hD hS => ?_)
      obtain ⟨g13, e13, hf⟩ := z_ltE hf
      have hP : va_P D vwCl (z_st c a g13) H := by rw [e13]; exact hP
      have hD : va_D A (z_st c a g13) := by rw [e13]; exact hD
      clear e13
      exact z_rv (wf := (z_st c a)) hx hb hr hlocks hP hD hS hf dX2_read_71
    · have hf := z_ifF hf c9
      refine lv_aload_n hx hb dX2_read_41 rfl (lv_at hl 1 rfl) ?_
      refine lv_iload_n hx hb dX2_read_42 rfl (lv_at hl 2 rfl) ?_
      obtain ⟨r14, g14, h14, hf⟩ := z_b2E hf
      refine z_cVi (As := [.int p1]) (rest := []) (wf := (z_st c a)) (g := g5) (u0 := g14) ⟨hx, hb, hml, hown, hts⟩ (kX2_refund l D c N a H.size g5 p1 r14 g14 h14) (cwV 1 hts gX2_read_X2_refund rfl rfl rfl (by decide +kernel) ⟨Nat.le_of_ble_eq_true rfl, Nat.le_of_ble_eq_true rfl⟩) hP hK hD hS hA (ci := 2) (q0 := 0) rfl rfl rfl rfl hl.1 (Nat.le_of_ble_eq_true rfl) rfl dX2_read_43 ⟨Nat.zero_le _, Nat.zero_le _⟩ (fun H locs hP hD hS => ?_)
      refine lv_pop hx hb dX2_read_46 rfl ?_
      refine lv_aload_n hx hb dX2_read_47 rfl (lv_at hl 1 rfl) ?_
      refine va_get (D := D) (ci := 2) (v := .ref (a 8)) (C := RX2) (T := TX2) (N := 16) hx hb hts iX2_read_X2 hown hK.1 hP 0 rfl rfl 11 (by decide) (hts _ qX2_read_40) (fun _ h9 => h9) rfl dX2_read_48 ?_
      refine lv_iload_n hx hb dX2_read_51 rfl (lv_at hl 2 rfl) ?_
      refine lv_iconst (v := (0 : Int32)) hx hb dX2_read_52 (by decide) ?_
      obtain ⟨b15, hf⟩ := z_ckE hf
      refine va_iast hx hb hK.1 hP hD hS 8 0 rfl rfl (z_inE b15) dX2_read_53 (fun H locs hP hD hS => ?_)
      obtain ⟨g16, e16, hf⟩ := z_ltE hf
      have hP : va_P D vwCl (z_st c a g16) H := by rw [e16]; exact hP
      have hD : va_D A (z_st c a g16) := by rw [e16]; exact hD
      clear e16
      refine lv_aload_n hx hb dX2_read_54 rfl (lv_at hl 1 rfl) ?_
      refine lv_dup hx hb dX2_read_55 rfl ?_
      refine va_get (D := D) (ci := 2) (v := .int (g16 0 2)) (C := RX2) (T := TX2) (N := 16) hx hb hts iX2_read_X2 hown hK.1 hP 0 rfl rfl 2 (by decide) (hts _ qX2_read_62) (fun _ h9 => h9) rfl dX2_read_56 ?_
      refine lv_iconst (v := (1 : Int32)) hx hb dX2_read_59 (by decide) ?_
      refine lv_aload_n hx hb dX2_read_60 rfl (lv_at hl 1 rfl) ?_
      refine va_get (D := D) (ci := 2) (v := .ref (a 2)) (C := RX2) (T := TX2) (N := 16) hx hb hts iX2_read_X2 hown hK.1 hP 0 rfl rfl 5 (by decide) (hts _ qX2_read_22) (fun _ h9 => h9) rfl dX2_read_61 ?_
      refine lv_iload_n hx hb dX2_read_64 rfl (lv_at hl 2 rfl) ?_
      obtain ⟨b17, hf⟩ := z_ckE hf
      refine va_iald hx hb hK.1 hP 2 0 rfl rfl (z_inE b17) dX2_read_65 ?_
      refine lv_iadd hx hb dX2_read_66 ?_
      refine lv_iadd hx hb dX2_read_67 ?_
      refine va_put (D := D) (ci := 2) (v := .int ((g16 0 2) + ((1 : Int32) + (g16 2 (p1).toNatClampNeg)))) (ty := .int) (C := RX2) (T := TX2) (N := 16) hx hb hts iX2_read_X2 tyX2 tyX2_ok nmX2 hown hK.1 hP hD hS 0 rfl rfl 2 (by decide) (hts _ qX2_read_62) (fun _ h9 => h9) rfl (by decide +kernel) rfl rfl (Nat.le_of_ble_eq_true rfl) dX2_read_68 (fun H locs hP hD hS => ?_)
      obtain ⟨g18, e18, hf⟩ := z_ltE hf
      have hP : va_P D vwCl (z_st c a g18) H := by rw [e18]; exact hP
      have hD : va_D A (z_st c a g18) := by rw [e18]; exact hD
      clear e18
      exact z_rv (wf := (z_st c a)) hx hb hr hlocks hP hD hS hf dX2_read_71
abbrev rmX2_runFrom : Room := { frames := 3, cells := 0, slots := 0, locals := 66 }
theorem qX2_runFrom_25 : Cond.fieldLink RX2 25 "ProgramDrum$State" "next" "[I" ∈ wsX2_runFrom := by decide +kernel
theorem iX2_runFrom_X2 : ∀ w ∈ wsX20, w ∈ wsX2_runFrom := by decide +kernel
theorem qX2_runFrom_55 : Cond.fieldLink RX2 55 "ProgramDrum$State" "jumps" "LProgramDrum$Jumps;" ∈ wsX2_runFrom := by decide +kernel
theorem qX2_runFrom_28 : Cond.fieldLink RX2 28 "ProgramDrum$State" "expects" "[I" ∈ wsX2_runFrom := by decide +kernel
theorem qX2_runFrom_15 : Cond.fieldLink RX2 15 "ProgramDrum$State" "lastEnd" "I" ∈ wsX2_runFrom := by decide +kernel
set_option maxRecDepth 100000 in
set_option maxHeartbeats 4000000 in
theorem kX2_runFrom (l : Launch) (D : va_G) (c : Nat → ClassId) (N : Nat) (a : Nat → Nat) (sz : Nat) (g : z_R) (p1 : Int32) (r0 : Int32) (g0 : z_R) (hf : fX2_runFrom N p1 g = some (r0, g0)) : Met l yX2_runFrom wsX2_runFrom rmX2_runFrom (z_Pc D c sz (z_st c a g) [.ref (a 0), .int p1]) (z_Qi D (z_st c a) r0 g0 (va_A (z_st c a g) sz)) 0 0 (va_A (z_st c a g) sz) := by
  refine z_ofM (cc := cX2_runFrom) (maxL := 6) (ret := (some .int)) (Qf := fun A => z_Qi D (z_st c a) r0 g0 A) (plainFor_of_name (by decide)) rfl (Nat.le_of_ble_eq_true rfl) ?_
  intro p e s m args below meth co A ls hx hb hr hml hts hown hlocks hnm hA hP hK hD hl hsz
  have hl : lv_has ls 6 [(0, .ref (a 0)), (1, .int p1)] := hl
  have hown : s.vm.findClass RX2 = some m.cls := hown
  obtain ⟨H, hH⟩ : ∃ H, H = s.heap := ⟨_, rfl⟩
  have hS : va_S A s.heap H [] := by rw [hH]; exact va_S.rf
  rw [← hH] at hP ⊢
  clear hH
  have L10 : ∀ (k : Int32 → z_R → Option (Int32 × z_R)) (hk : ∀ (x2 : Int32) (g : z_R), k x2 g = some (r0, g0) → ∀ (H : Heap) (locs : List Loc) (ls : Array Slot), va_P D vwCl (z_st c a g) H → va_D A (z_st c a g) → va_S A s.heap H locs → lv_has ls 6 [(0, .ref (a 0)), (2, .int x2)] → W p l e rmX2_runFrom s m args below meth co H locs 0 0 (MQ below (z_Qi D (z_st c a) r0 g0 A) args s 0 0 A) (F0 m 146 ls [])) (fu : Nat) (x2 : Int32) (x3 : Int32) (x4 : Int32) (x5 : Int32) (g : z_R), lX2_runFrom_10 N k fu x2 x3 x4 x5 g = some (r0, g0) → ∀ (H : Heap) (locs : List Loc) (ls : Array Slot), va_P D vwCl (z_st c a g) H → va_D A (z_st c a g) → va_S A s.heap H locs → lv_has ls 6 [(0, .ref (a 0)), (2, .int x2), (3, .int x3), (4, .int x4), (5, .int x5)] → W p l e rmX2_runFrom s m args below meth co H locs 0 0 (MQ below (z_Qi D (z_st c a) r0 g0 A) args s 0 0 A) (F0 m 10 ls []) := by
    intro k hk fu
    induction fu with
    | zero =>
      intro x2 x3 x4 x5 g hf
      have hf : (none : Option (Int32 × z_R)) = some _ := hf
      cases hf
    | succ fu ih =>
      intro x2 x3 x4 x5 g hf H locs ls hP hD hS hl
      rw [lX2_runFrom_10.eq_2] at hf
      refine lv_iload hx hb dX2_runFrom_10 (lv_at hl 4 rfl) ?_
      refine lv_bipush (v := (99 : Int32)) hx hb dX2_runFrom_12 (by decide) ?_
      refine lv_icmp_gt (tgt := 146) hx hb dX2_runFrom_14 (by decide) (fun c1 => ?_) (fun c1 => ?_)
      · have hf := z_ifT hf c1
        exact hk _ _ hf H locs ls hP hD hS (lv_sub hl [0, 1] rfl)
      · have hf := z_ifF hf c1
        refine lv_iload_n hx hb dX2_runFrom_17 rfl (lv_at hl 1 rfl) ?_
        refine lv_iconst (v := (-1 : Int32)) hx hb dX2_runFrom_18 (by decide) ?_
        refine lv_icmp_ne (tgt := 146) hx hb dX2_runFrom_19 (by decide) (fun c2 => ?_) (fun c2 => ?_)
        · have hf := z_ifF hf c2
          exact hk _ _ hf H locs ls hP hD hS (lv_sub hl [0, 1] rfl)
        · have hf := z_ifT hf c2
          refine lv_aload_n hx hb dX2_runFrom_22 rfl (lv_at hl 0 rfl) ?_
          refine lv_iload hx hb dX2_runFrom_23 (lv_at hl 3 rfl) ?_
          obtain ⟨r3, h3, hf⟩ := z_bE hf
          refine z_cVi (As := [.int x4]) (rest := []) (wf := (z_st c a)) (g := g) (u0 := g) ⟨hx, hb, hml, hown, hts⟩ (kX2_isOnDrum l D c N a H.size g x4 r3 h3) (cwV 1 hts gX2_runFrom_X2_isOnDrum rfl rfl rfl (by decide +kernel) ⟨Nat.le_of_ble_eq_true rfl, Nat.le_of_ble_eq_true rfl⟩) hP hK hD hS hA (ci := 2) (q0 := 0) rfl rfl rfl rfl hl.1 (Nat.le_of_ble_eq_true rfl) rfl dX2_runFrom_25 ⟨Nat.zero_le _, Nat.zero_le _⟩ (fun H locs hP hD hS => ?_)
          refine lv_if_ne (tgt := 36) hx hb dX2_runFrom_28 (by decide) (fun c4 => ?_) (fun c4 => ?_)
          · have hf := z_ifF hf c4
            refine lv_iload_n hx hb dX2_runFrom_36 rfl (lv_at hl 2 rfl) ?_
            refine lv_iconst (v := (-1 : Int32)) hx hb dX2_runFrom_37 (by decide) ?_
            refine lv_icmp_eq (tgt := 68) hx hb dX2_runFrom_38 (by decide) (fun c5 => ?_) (fun c5 => ?_)
            · have hf := z_ifT hf c5
              refine lv_iload hx hb dX2_runFrom_68 (lv_at hl 4 rfl) ?_
              refine lv_bipush (v := (99 : Int32)) hx hb dX2_runFrom_70 (by decide) ?_
              refine lv_icmp_ne (tgt := 80) hx hb dX2_runFrom_72 (by decide) (fun c6 => ?_) (fun c6 => ?_)
              · have hf := z_ifF hf c6
                refine lv_aload_n hx hb dX2_runFrom_80 rfl (lv_at hl 0 rfl) ?_
                refine lv_iload hx hb dX2_runFrom_81 (lv_at hl 3 rfl) ?_
                refine lv_iload_n hx hb dX2_runFrom_83 rfl (lv_at hl 2 rfl) ?_
                refine lv_iconst (v := (-1 : Int32)) hx hb dX2_runFrom_84 (by decide) ?_
                refine lv_icmp_eq (tgt := 92) hx hb dX2_runFrom_85 (by decide) (fun c7 => ?_) (fun c7 => ?_)
                · have hf := z_ifT hf c7
                  refine lv_iconst (v := (0 : Int32)) hx hb dX2_runFrom_92 (by decide) ?_
                  obtain ⟨g8, h8, hf⟩ := z_bE hf
                  refine z_cVv (As := [.int x4, .int (0 : Int32)]) (rest := []) (wf := (z_st c a)) (g := g) (u0 := g8) ⟨hx, hb, hml, hown, hts⟩ (kX2_read l D c N a H.size g x4 (0 : Int32) g8 h8) (cwV 2 hts gX2_runFrom_X2_read rfl rfl rfl (by decide +kernel) ⟨Nat.le_of_ble_eq_true rfl, Nat.le_of_ble_eq_true rfl⟩) hP hK hD hS hA (ci := 2) (q0 := 0) rfl rfl rfl rfl hl.1 (Nat.le_of_ble_eq_true rfl) rfl dX2_runFrom_93 ⟨Nat.zero_le _, Nat.zero_le _⟩ (fun H locs hP hD hS => ?_)
                  refine lv_aload_n hx hb dX2_runFrom_96 rfl (lv_at hl 0 rfl) ?_
                  refine va_get (D := D) (ci := 2) (v := .ref (a 3)) (C := RX2) (T := TX2) (N := 16) hx hb hts iX2_runFrom_X2 hown hK.1 hP 0 rfl rfl 6 (by decide) (hts _ qX2_runFrom_25) (fun _ h9 => h9) rfl dX2_runFrom_97 ?_
                  refine lv_iload hx hb dX2_runFrom_100 (lv_at hl 3 rfl) ?_
                  obtain ⟨b9, hf⟩ := z_ckE hf
                  refine va_iald hx hb hK.1 hP 3 0 rfl rfl (z_inE b9) dX2_runFrom_102 ?_
                  refine lv_iconst (v := (-1 : Int32)) hx hb dX2_runFrom_103 (by decide) ?_
                  refine lv_icmp_ne (tgt := 112) hx hb dX2_runFrom_104 (by decide) (fun c10 => ?_) (fun c10 => ?_)
                  · have hf := z_ifF hf c10
                    refine lv_aload_n hx hb dX2_runFrom_112 rfl (lv_at hl 0 rfl) ?_
                    refine va_get (D := D) (ci := 2) (v := .ref (a 12)) (C := RX2) (T := TX2) (N := 16) hx hb hts iX2_runFrom_X2 hown hK.1 hP 0 rfl rfl 15 (by decide) (hts _ qX2_runFrom_55) (fun _ h9 => h9) rfl dX2_runFrom_113 ?_
                    refine lv_iload hx hb dX2_runFrom_116 (lv_at hl 3 rfl) ?_
                    refine lv_aload_n hx hb dX2_runFrom_118 rfl (lv_at hl 0 rfl) ?_
                    refine va_get (D := D) (ci := 2) (v := .ref (a 3)) (C := RX2) (T := TX2) (N := 16) hx hb hts iX2_runFrom_X2 hown hK.1 hP 0 rfl rfl 6 (by decide) (hts _ qX2_runFrom_25) (fun _ h9 => h9) rfl dX2_runFrom_119 ?_
                    refine lv_iload hx hb dX2_runFrom_122 (lv_at hl 3 rfl) ?_
                    obtain ⟨b11, hf⟩ := z_ckE hf
                    refine va_iald hx hb hK.1 hP 3 0 rfl rfl (z_inE b11) dX2_runFrom_124 ?_
                    obtain ⟨g12, h12, hf⟩ := z_bE hf
                    refine z_cVv (As := [.int x4, .int (g8 3 (x4).toNatClampNeg)]) (rest := []) (wf := (z_st c a)) (g := g8) (u0 := g12) ⟨hx, hb, hml, hown, hts⟩ (kX0_note l D c N a H.size g8 x4 (g8 3 (x4).toNatClampNeg) g12 h12) (cwV 2 hts gX2_runFrom_X0_note rfl rfl rfl (by decide +kernel) ⟨Nat.le_of_ble_eq_true rfl, Nat.le_of_ble_eq_true rfl⟩) hP hK hD hS hA (ci := 0) (q0 := 12) rfl rfl rfl rfl hl.1 (Nat.le_of_ble_eq_true rfl) rfl dX2_runFrom_125 ⟨Nat.zero_le _, Nat.zero_le _⟩ (fun H locs hP hD hS => ?_)
                    refine lv_iload hx hb dX2_runFrom_128 (lv_at hl 3 rfl) ?_
                    refine lv_istore_n (lv' := [(3, .int x4), (0, .ref (a 0)), (2, .int x2), (4, .int x4), (5, .int x5)]) hx hb dX2_runFrom_130 rfl hl (by decide) rfl (fun ls hl => ?_)
                    refine lv_aload_n hx hb dX2_runFrom_131 rfl (lv_at hl 1 rfl) ?_
                    refine va_get (D := D) (ci := 2) (v := .ref (a 3)) (C := RX2) (T := TX2) (N := 16) hx hb hts iX2_runFrom_X2 hown hK.1 hP 0 rfl rfl 6 (by decide) (hts _ qX2_runFrom_25) (fun _ h9 => h9) rfl dX2_runFrom_132 ?_
                    refine lv_iload hx hb dX2_runFrom_135 (lv_at hl 3 rfl) ?_
                    obtain ⟨b13, hf⟩ := z_ckE hf
                    refine va_iald hx hb hK.1 hP 3 0 rfl rfl (z_inE b13) dX2_runFrom_137 ?_
                    refine lv_istore (lv' := [(4, .int (g12 3 (x4).toNatClampNeg)), (3, .int x4), (0, .ref (a 0)), (2, .int x2), (5, .int x5)]) hx hb dX2_runFrom_138 hl (by decide) rfl (fun ls hl => ?_)
                    refine lv_iinc (v := (x5 + (1 : Int32))) (lv' := [(5, .int (x5 + (1 : Int32))), (4, .int (g12 3 (x4).toNatClampNeg)), (3, .int x4), (0, .ref (a 0)), (2, .int x2)]) hx hb dX2_runFrom_140 hl (k := 4) rfl rfl (by decide) rfl (fun ls hl => ?_)
                    refine lv_goto (tgt := 10) hx hb dX2_runFrom_143 (by decide) ?_
                    exact ih _ _ _ _ _ hf H locs ls hP hD hS (lv_sub hl [3, 4, 2, 1, 0] rfl)
                  · have hf := z_ifT hf c10
                    refine lv_iconst (v := (0 : Int32)) hx hb dX2_runFrom_107 (by decide) ?_
                    refine lv_istore_n (lv' := [(2, .int (0 : Int32)), (0, .ref (a 0)), (3, .int x3), (4, .int x4), (5, .int x5)]) hx hb dX2_runFrom_108 rfl hl (by decide) rfl (fun ls hl => ?_)
                    refine lv_goto (tgt := 140) hx hb dX2_runFrom_109 (by decide) ?_
                    refine lv_iinc (v := (x5 + (1 : Int32))) (lv' := [(5, .int (x5 + (1 : Int32))), (2, .int (0 : Int32)), (0, .ref (a 0)), (3, .int x3), (4, .int x4)]) hx hb dX2_runFrom_140 hl (k := 4) rfl rfl (by decide) rfl (fun ls hl => ?_)
                    refine lv_goto (tgt := 10) hx hb dX2_runFrom_143 (by decide) ?_
                    exact ih _ _ _ _ _ hf H locs ls hP hD hS (lv_sub hl [2, 1, 3, 4, 0] rfl)
                · have hf := z_ifF hf c7
                  refine lv_iconst (v := (1 : Int32)) hx hb dX2_runFrom_88 (by decide) ?_
                  refine lv_goto (tgt := 93) hx hb dX2_runFrom_89 (by decide) ?_
                  obtain ⟨g14, h14, hf⟩ := z_bE hf
                  refine z_cVv (As := [.int x4, .int (1 : Int32)]) (rest := []) (wf := (z_st c a)) (g := g) (u0 := g14) ⟨hx, hb, hml, hown, hts⟩ (kX2_read l D c N a H.size g x4 (1 : Int32) g14 h14) (cwV 2 hts gX2_runFrom_X2_read rfl rfl rfl (by decide +kernel) ⟨Nat.le_of_ble_eq_true rfl, Nat.le_of_ble_eq_true rfl⟩) hP hK hD hS hA (ci := 2) (q0 := 0) rfl rfl rfl rfl hl.1 (Nat.le_of_ble_eq_true rfl) rfl dX2_runFrom_93 ⟨Nat.zero_le _, Nat.zero_le _⟩ (fun H locs hP hD hS => ?_)
                  refine lv_aload_n hx hb dX2_runFrom_96 rfl (lv_at hl 0 rfl) ?_
                  refine va_get (D := D) (ci := 2) (v := .ref (a 3)) (C := RX2) (T := TX2) (N := 16) hx hb hts iX2_runFrom_X2 hown hK.1 hP 0 rfl rfl 6 (by decide) (hts _ qX2_runFrom_25) (fun _ h9 => h9) rfl dX2_runFrom_97 ?_
                  refine lv_iload hx hb dX2_runFrom_100 (lv_at hl 3 rfl) ?_
                  obtain ⟨b15, hf⟩ := z_ckE hf
                  refine va_iald hx hb hK.1 hP 3 0 rfl rfl (z_inE b15) dX2_runFrom_102 ?_
                  refine lv_iconst (v := (-1 : Int32)) hx hb dX2_runFrom_103 (by decide) ?_
                  refine lv_icmp_ne (tgt := 112) hx hb dX2_runFrom_104 (by decide) (fun c16 => ?_) (fun c16 => ?_)
                  · have hf := z_ifF hf c16
                    refine lv_aload_n hx hb dX2_runFrom_112 rfl (lv_at hl 0 rfl) ?_
                    refine va_get (D := D) (ci := 2) (v := .ref (a 12)) (C := RX2) (T := TX2) (N := 16) hx hb hts iX2_runFrom_X2 hown hK.1 hP 0 rfl rfl 15 (by decide) (hts _ qX2_runFrom_55) (fun _ h9 => h9) rfl dX2_runFrom_113 ?_
                    refine lv_iload hx hb dX2_runFrom_116 (lv_at hl 3 rfl) ?_
                    refine lv_aload_n hx hb dX2_runFrom_118 rfl (lv_at hl 0 rfl) ?_
                    refine va_get (D := D) (ci := 2) (v := .ref (a 3)) (C := RX2) (T := TX2) (N := 16) hx hb hts iX2_runFrom_X2 hown hK.1 hP 0 rfl rfl 6 (by decide) (hts _ qX2_runFrom_25) (fun _ h9 => h9) rfl dX2_runFrom_119 ?_
                    refine lv_iload hx hb dX2_runFrom_122 (lv_at hl 3 rfl) ?_
                    obtain ⟨b17, hf⟩ := z_ckE hf
                    refine va_iald hx hb hK.1 hP 3 0 rfl rfl (z_inE b17) dX2_runFrom_124 ?_
                    obtain ⟨g18, h18, hf⟩ := z_bE hf
                    refine z_cVv (As := [.int x4, .int (g14 3 (x4).toNatClampNeg)]) (rest := []) (wf := (z_st c a)) (g := g14) (u0 := g18) ⟨hx, hb, hml, hown, hts⟩ (kX0_note l D c N a H.size g14 x4 (g14 3 (x4).toNatClampNeg) g18 h18) (cwV 2 hts gX2_runFrom_X0_note rfl rfl rfl (by decide +kernel) ⟨Nat.le_of_ble_eq_true rfl, Nat.le_of_ble_eq_true rfl⟩) hP hK hD hS hA (ci := 0) (q0 := 12) rfl rfl rfl rfl hl.1 (Nat.le_of_ble_eq_true rfl) rfl dX2_runFrom_125 ⟨Nat.zero_le _, Nat.zero_le _⟩ (fun H locs hP hD hS => ?_)
                    refine lv_iload hx hb dX2_runFrom_128 (lv_at hl 3 rfl) ?_
                    refine lv_istore_n (lv' := [(3, .int x4), (0, .ref (a 0)), (2, .int x2), (4, .int x4), (5, .int x5)]) hx hb dX2_runFrom_130 rfl hl (by decide) rfl (fun ls hl => ?_)
                    refine lv_aload_n hx hb dX2_runFrom_131 rfl (lv_at hl 1 rfl) ?_
                    refine va_get (D := D) (ci := 2) (v := .ref (a 3)) (C := RX2) (T := TX2) (N := 16) hx hb hts iX2_runFrom_X2 hown hK.1 hP 0 rfl rfl 6 (by decide) (hts _ qX2_runFrom_25) (fun _ h9 => h9) rfl dX2_runFrom_132 ?_
                    refine lv_iload hx hb dX2_runFrom_135 (lv_at hl 3 rfl) ?_
                    obtain ⟨b19, hf⟩ := z_ckE hf
                    refine va_iald hx hb hK.1 hP 3 0 rfl rfl (z_inE b19) dX2_runFrom_137 ?_
                    refine lv_istore (lv' := [(4, .int (g18 3 (x4).toNatClampNeg)), (3, .int x4), (0, .ref (a 0)), (2, .int x2), (5, .int x5)]) hx hb dX2_runFrom_138 hl (by decide) rfl (fun ls hl => ?_)
                    refine lv_iinc (v := (x5 + (1 : Int32))) (lv' := [(5, .int (x5 + (1 : Int32))), (4, .int (g18 3 (x4).toNatClampNeg)), (3, .int x4), (0, .ref (a 0)), (2, .int x2)]) hx hb dX2_runFrom_140 hl (k := 4) rfl rfl (by decide) rfl (fun ls hl => ?_)
                    refine lv_goto (tgt := 10) hx hb dX2_runFrom_143 (by decide) ?_
                    exact ih _ _ _ _ _ hf H locs ls hP hD hS (lv_sub hl [3, 4, 2, 1, 0] rfl)
                  · have hf := z_ifT hf c16
                    refine lv_iconst (v := (0 : Int32)) hx hb dX2_runFrom_107 (by decide) ?_
                    refine lv_istore_n (lv' := [(2, .int (0 : Int32)), (0, .ref (a 0)), (3, .int x3), (4, .int x4), (5, .int x5)]) hx hb dX2_runFrom_108 rfl hl (by decide) rfl (fun ls hl => ?_)
                    refine lv_goto (tgt := 140) hx hb dX2_runFrom_109 (by decide) ?_
                    refine lv_iinc (v := (x5 + (1 : Int32))) (lv' := [(5, .int (x5 + (1 : Int32))), (2, .int (0 : Int32)), (0, .ref (a 0)), (3, .int x3), (4, .int x4)]) hx hb dX2_runFrom_140 hl (k := 4) rfl rfl (by decide) rfl (fun ls hl => ?_)
                    refine lv_goto (tgt := 10) hx hb dX2_runFrom_143 (by decide) ?_
                    exact ih _ _ _ _ _ hf H locs ls hP hD hS (lv_sub hl [2, 1, 3, 4, 0] rfl)
              · have hf := z_ifT hf c6
                refine lv_iconst (v := (2 : Int32)) hx hb dX2_runFrom_75 (by decide) ?_
                refine lv_istore_n (lv' := [(2, .int (2 : Int32)), (0, .ref (a 0)), (3, .int x3), (4, .int x4), (5, .int x5)]) hx hb dX2_runFrom_76 rfl hl (by decide) rfl (fun ls hl => ?_)
                refine lv_goto (tgt := 140) hx hb dX2_runFrom_77 (by decide) ?_
                refine lv_iinc (v := (x5 + (1 : Int32))) (lv' := [(5, .int (x5 + (1 : Int32))), (2, .int (2 : Int32)), (0, .ref (a 0)), (3, .int x3), (4, .int x4)]) hx hb dX2_runFrom_140 hl (k := 4) rfl rfl (by decide) rfl (fun ls hl => ?_)
                refine lv_goto (tgt := 10) hx hb dX2_runFrom_143 (by decide) ?_
                exact ih _ _ _ _ _ hf H locs ls hP hD hS (lv_sub hl [2, 1, 3, 4, 0] rfl)
            · have hf := z_ifF hf c5
              refine lv_aload_n hx hb dX2_runFrom_41 rfl (lv_at hl 0 rfl) ?_
              refine va_get (D := D) (ci := 2) (v := .ref (a 4)) (C := RX2) (T := TX2) (N := 16) hx hb hts iX2_runFrom_X2 hown hK.1 hP 0 rfl rfl 7 (by decide) (hts _ qX2_runFrom_28) (fun _ h9 => h9) rfl dX2_runFrom_42 ?_
              refine lv_iload hx hb dX2_runFrom_45 (lv_at hl 3 rfl) ?_
              obtain ⟨b20, hf⟩ := z_ckE hf
              refine va_iald hx hb hK.1 hP 4 0 rfl rfl (z_inE b20) dX2_runFrom_47 ?_
              refine lv_iconst (v := (-1 : Int32)) hx hb dX2_runFrom_48 (by decide) ?_
              refine lv_icmp_eq (tgt := 68) hx hb dX2_runFrom_49 (by decide) (fun c21 => ?_) (fun c21 => ?_)
              · have hf := z_ifT hf c21
                refine lv_iload hx hb dX2_runFrom_68 (lv_at hl 4 rfl) ?_
                refine lv_bipush (v := (99 : Int32)) hx hb dX2_runFrom_70 (by decide) ?_
                refine lv_icmp_ne (tgt := 80) hx hb dX2_runFrom_72 (by decide) (fun c22 => ?_) (fun c22 => ?_)
                · have hf := z_ifF hf c22
                  refine lv_aload_n hx hb dX2_runFrom_80 rfl (lv_at hl 0 rfl) ?_
                  refine lv_iload hx hb dX2_runFrom_81 (lv_at hl 3 rfl) ?_
                  refine lv_iload_n hx hb dX2_runFrom_83 rfl (lv_at hl 2 rfl) ?_
                  refine lv_iconst (v := (-1 : Int32)) hx hb dX2_runFrom_84 (by decide) ?_
                  refine lv_icmp_eq (tgt := 92) hx hb dX2_runFrom_85 (by decide) (fun c23 => ?_) (fun c23 => ?_)
                  · have hf := z_ifT hf c23
                    refine lv_iconst (v := (0 : Int32)) hx hb dX2_runFrom_92 (by decide) ?_
                    obtain ⟨g24, h24, hf⟩ := z_bE hf
                    refine z_cVv (As := [.int x4, .int (0 : Int32)]) (rest := []) (wf := (z_st c a)) (g := g) (u0 := g24) ⟨hx, hb, hml, hown, hts⟩ (kX2_read l D c N a H.size g x4 (0 : Int32) g24 h24) (cwV 2 hts gX2_runFrom_X2_read rfl rfl rfl (by decide +kernel) ⟨Nat.le_of_ble_eq_true rfl, Nat.le_of_ble_eq_true rfl⟩) hP hK hD hS hA (ci := 2) (q0 := 0) rfl rfl rfl rfl hl.1 (Nat.le_of_ble_eq_true rfl) rfl dX2_runFrom_93 ⟨Nat.zero_le _, Nat.zero_le _⟩ (fun H locs hP hD hS => ?_)
                    refine lv_aload_n hx hb dX2_runFrom_96 rfl (lv_at hl 0 rfl) ?_
                    refine va_get (D := D) (ci := 2) (v := .ref (a 3)) (C := RX2) (T := TX2) (N := 16) hx hb hts iX2_runFrom_X2 hown hK.1 hP 0 rfl rfl 6 (by decide) (hts _ qX2_runFrom_25) (fun _ h9 => h9) rfl dX2_runFrom_97 ?_
                    refine lv_iload hx hb dX2_runFrom_100 (lv_at hl 3 rfl) ?_
                    obtain ⟨b25, hf⟩ := z_ckE hf
                    refine va_iald hx hb hK.1 hP 3 0 rfl rfl (z_inE b25) dX2_runFrom_102 ?_
                    refine lv_iconst (v := (-1 : Int32)) hx hb dX2_runFrom_103 (by decide) ?_
                    refine lv_icmp_ne (tgt := 112) hx hb dX2_runFrom_104 (by decide) (fun c26 => ?_) (fun c26 => ?_)
                    · have hf := z_ifF hf c26
                      refine lv_aload_n hx hb dX2_runFrom_112 rfl (lv_at hl 0 rfl) ?_
                      refine va_get (D := D) (ci := 2) (v := .ref (a 12)) (C := RX2) (T := TX2) (N := 16) hx hb hts iX2_runFrom_X2 hown hK.1 hP 0 rfl rfl 15 (by decide) (hts _ qX2_runFrom_55) (fun _ h9 => h9) rfl dX2_runFrom_113 ?_
                      refine lv_iload hx hb dX2_runFrom_116 (lv_at hl 3 rfl) ?_
                      refine lv_aload_n hx hb dX2_runFrom_118 rfl (lv_at hl 0 rfl) ?_
                      refine va_get (D := D) (ci := 2) (v := .ref (a 3)) (C := RX2) (T := TX2) (N := 16) hx hb hts iX2_runFrom_X2 hown hK.1 hP 0 rfl rfl 6 (by decide) (hts _ qX2_runFrom_25) (fun _ h9 => h9) rfl dX2_runFrom_119 ?_
                      refine lv_iload hx hb dX2_runFrom_122 (lv_at hl 3 rfl) ?_
                      obtain ⟨b27, hf⟩ := z_ckE hf
                      refine va_iald hx hb hK.1 hP 3 0 rfl rfl (z_inE b27) dX2_runFrom_124 ?_
                      obtain ⟨g28, h28, hf⟩ := z_bE hf
                      refine z_cVv (As := [.int x4, .int (g24 3 (x4).toNatClampNeg)]) (rest := []) (wf := (z_st c a)) (g := g24) (u0 := g28) ⟨hx, hb, hml, hown, hts⟩ (kX0_note l D c N a H.size g24 x4 (g24 3 (x4).toNatClampNeg) g28 h28) (cwV 2 hts gX2_runFrom_X0_note rfl rfl rfl (by decide +kernel) ⟨Nat.le_of_ble_eq_true rfl, Nat.le_of_ble_eq_true rfl⟩) hP hK hD hS hA (ci := 0) (q0 := 12) rfl rfl rfl rfl hl.1 (Nat.le_of_ble_eq_true rfl) rfl dX2_runFrom_125 ⟨Nat.zero_le _, Nat.zero_le _⟩ (fun H locs hP hD hS => ?_)
                      refine lv_iload hx hb dX2_runFrom_128 (lv_at hl 3 rfl) ?_
                      refine lv_istore_n (lv' := [(3, .int x4), (0, .ref (a 0)), (2, .int x2), (4, .int x4), (5, .int x5)]) hx hb dX2_runFrom_130 rfl hl (by decide) rfl (fun ls hl => ?_)
                      refine lv_aload_n hx hb dX2_runFrom_131 rfl (lv_at hl 1 rfl) ?_
                      refine va_get (D := D) (ci := 2) (v := .ref (a 3)) (C := RX2) (T := TX2) (N := 16) hx hb hts iX2_runFrom_X2 hown hK.1 hP 0 rfl rfl 6 (by decide) (hts _ qX2_runFrom_25) (fun _ h9 => h9) rfl dX2_runFrom_132 ?_
                      refine lv_iload hx hb dX2_runFrom_135 (lv_at hl 3 rfl) ?_
                      obtain ⟨b29, hf⟩ := z_ckE hf
                      refine va_iald hx hb hK.1 hP 3 0 rfl rfl (z_inE b29) dX2_runFrom_137 ?_
                      refine lv_istore (lv' := [(4, .int (g28 3 (x4).toNatClampNeg)), (3, .int x4), (0, .ref (a 0)), (2, .int x2), (5, .int x5)]) hx hb dX2_runFrom_138 hl (by decide) rfl (fun ls hl => ?_)
                      refine lv_iinc (v := (x5 + (1 : Int32))) (lv' := [(5, .int (x5 + (1 : Int32))), (4, .int (g28 3 (x4).toNatClampNeg)), (3, .int x4), (0, .ref (a 0)), (2, .int x2)]) hx hb dX2_runFrom_140 hl (k := 4) rfl rfl (by decide) rfl (fun ls hl => ?_)
                      refine lv_goto (tgt := 10) hx hb dX2_runFrom_143 (by decide) ?_
                      exact ih _ _ _ _ _ hf H locs ls hP hD hS (lv_sub hl [3, 4, 2, 1, 0] rfl)
                    · have hf := z_ifT hf c26
                      refine lv_iconst (v := (0 : Int32)) hx hb dX2_runFrom_107 (by decide) ?_
                      refine lv_istore_n (lv' := [(2, .int (0 : Int32)), (0, .ref (a 0)), (3, .int x3), (4, .int x4), (5, .int x5)]) hx hb dX2_runFrom_108 rfl hl (by decide) rfl (fun ls hl => ?_)
                      refine lv_goto (tgt := 140) hx hb dX2_runFrom_109 (by decide) ?_
                      refine lv_iinc (v := (x5 + (1 : Int32))) (lv' := [(5, .int (x5 + (1 : Int32))), (2, .int (0 : Int32)), (0, .ref (a 0)), (3, .int x3), (4, .int x4)]) hx hb dX2_runFrom_140 hl (k := 4) rfl rfl (by decide) rfl (fun ls hl => ?_)
                      refine lv_goto (tgt := 10) hx hb dX2_runFrom_143 (by decide) ?_
                      exact ih _ _ _ _ _ hf H locs ls hP hD hS (lv_sub hl [2, 1, 3, 4, 0] rfl)
                  · have hf := z_ifF hf c23
                    refine lv_iconst (v := (1 : Int32)) hx hb dX2_runFrom_88 (by decide) ?_
                    refine lv_goto (tgt := 93) hx hb dX2_runFrom_89 (by decide) ?_
                    obtain ⟨g30, h30, hf⟩ := z_bE hf
                    refine z_cVv (As := [.int x4, .int (1 : Int32)]) (rest := []) (wf := (z_st c a)) (g := g) (u0 := g30) ⟨hx, hb, hml, hown, hts⟩ (kX2_read l D c N a H.size g x4 (1 : Int32) g30 h30) (cwV 2 hts gX2_runFrom_X2_read rfl rfl rfl (by decide +kernel) ⟨Nat.le_of_ble_eq_true rfl, Nat.le_of_ble_eq_true rfl⟩) hP hK hD hS hA (ci := 2) (q0 := 0) rfl rfl rfl rfl hl.1 (Nat.le_of_ble_eq_true rfl) rfl dX2_runFrom_93 ⟨Nat.zero_le _, Nat.zero_le _⟩ (fun H locs hP hD hS => ?_)
                    refine lv_aload_n hx hb dX2_runFrom_96 rfl (lv_at hl 0 rfl) ?_
                    refine va_get (D := D) (ci := 2) (v := .ref (a 3)) (C := RX2) (T := TX2) (N := 16) hx hb hts iX2_runFrom_X2 hown hK.1 hP 0 rfl rfl 6 (by decide) (hts _ qX2_runFrom_25) (fun _ h9 => h9) rfl dX2_runFrom_97 ?_
                    refine lv_iload hx hb dX2_runFrom_100 (lv_at hl 3 rfl) ?_
                    obtain ⟨b31, hf⟩ := z_ckE hf
                    refine va_iald hx hb hK.1 hP 3 0 rfl rfl (z_inE b31) dX2_runFrom_102 ?_
                    refine lv_iconst (v := (-1 : Int32)) hx hb dX2_runFrom_103 (by decide) ?_
                    refine lv_icmp_ne (tgt := 112) hx hb dX2_runFrom_104 (by decide) (fun c32 => ?_) (fun c32 => ?_)
                    · have hf := z_ifF hf c32
                      refine lv_aload_n hx hb dX2_runFrom_112 rfl (lv_at hl 0 rfl) ?_
                      refine va_get (D := D) (ci := 2) (v := .ref (a 12)) (C := RX2) (T := TX2) (N := 16) hx hb hts iX2_runFrom_X2 hown hK.1 hP 0 rfl rfl 15 (by decide) (hts _ qX2_runFrom_55) (fun _ h9 => h9) rfl dX2_runFrom_113 ?_
                      refine lv_iload hx hb dX2_runFrom_116 (lv_at hl 3 rfl) ?_
                      refine lv_aload_n hx hb dX2_runFrom_118 rfl (lv_at hl 0 rfl) ?_
                      refine va_get (D := D) (ci := 2) (v := .ref (a 3)) (C := RX2) (T := TX2) (N := 16) hx hb hts iX2_runFrom_X2 hown hK.1 hP 0 rfl rfl 6 (by decide) (hts _ qX2_runFrom_25) (fun _ h9 => h9) rfl dX2_runFrom_119 ?_
                      refine lv_iload hx hb dX2_runFrom_122 (lv_at hl 3 rfl) ?_
                      obtain ⟨b33, hf⟩ := z_ckE hf
                      refine va_iald hx hb hK.1 hP 3 0 rfl rfl (z_inE b33) dX2_runFrom_124 ?_
                      obtain ⟨g34, h34, hf⟩ := z_bE hf
                      refine z_cVv (As := [.int x4, .int (g30 3 (x4).toNatClampNeg)]) (rest := []) (wf := (z_st c a)) (g := g30) (u0 := g34) ⟨hx, hb, hml, hown, hts⟩ (kX0_note l D c N a H.size g30 x4 (g30 3 (x4).toNatClampNeg) g34 h34) (cwV 2 hts gX2_runFrom_X0_note rfl rfl rfl (by decide +kernel) ⟨Nat.le_of_ble_eq_true rfl, Nat.le_of_ble_eq_true rfl⟩) hP hK hD hS hA (ci := 0) (q0 := 12) rfl rfl rfl rfl hl.1 (Nat.le_of_ble_eq_true rfl) rfl dX2_runFrom_125 ⟨Nat.zero_le _, Nat.zero_le _⟩ (fun H locs hP hD hS => ?_)
                      refine lv_iload hx hb dX2_runFrom_128 (lv_at hl 3 rfl) ?_
                      refine lv_istore_n (lv' := [(3, .int x4), (0, .ref (a 0)), (2, .int x2), (4, .int x4), (5, .int x5)]) hx hb dX2_runFrom_130 rfl hl (by decide) rfl (fun ls hl => ?_)
                      refine lv_aload_n hx hb dX2_runFrom_131 rfl (lv_at hl 1 rfl) ?_
                      refine va_get (D := D) (ci := 2) (v := .ref (a 3)) (C := RX2) (T := TX2) (N := 16) hx hb hts iX2_runFrom_X2 hown hK.1 hP 0 rfl rfl 6 (by decide) (hts _ qX2_runFrom_25) (fun _ h9 => h9) rfl dX2_runFrom_132 ?_
                      refine lv_iload hx hb dX2_runFrom_135 (lv_at hl 3 rfl) ?_
                      obtain ⟨b35, hf⟩ := z_ckE hf
                      refine va_iald hx hb hK.1 hP 3 0 rfl rfl (z_inE b35) dX2_runFrom_137 ?_
                      refine lv_istore (lv' := [(4, .int (g34 3 (x4).toNatClampNeg)), (3, .int x4), (0, .ref (a 0)), (2, .int x2), (5, .int x5)]) hx hb dX2_runFrom_138 hl (by decide) rfl (fun ls hl => ?_)
                      refine lv_iinc (v := (x5 + (1 : Int32))) (lv' := [(5, .int (x5 + (1 : Int32))), (4, .int (g34 3 (x4).toNatClampNeg)), (3, .int x4), (0, .ref (a 0)), (2, .int x2)]) hx hb dX2_runFrom_140 hl (k := 4) rfl rfl (by decide) rfl (fun ls hl => ?_)
                      refine lv_goto (tgt := 10) hx hb dX2_runFrom_143 (by decide) ?_
                      exact ih _ _ _ _ _ hf H locs ls hP hD hS (lv_sub hl [3, 4, 2, 1, 0] rfl)
                    · have hf := z_ifT hf c32
                      refine lv_iconst (v := (0 : Int32)) hx hb dX2_runFrom_107 (by decide) ?_
                      refine lv_istore_n (lv' := [(2, .int (0 : Int32)), (0, .ref (a 0)), (3, .int x3), (4, .int x4), (5, .int x5)]) hx hb dX2_runFrom_108 rfl hl (by decide) rfl (fun ls hl => ?_)
                      refine lv_goto (tgt := 140) hx hb dX2_runFrom_109 (by decide) ?_
                      refine lv_iinc (v := (x5 + (1 : Int32))) (lv' := [(5, .int (x5 + (1 : Int32))), (2, .int (0 : Int32)), (0, .ref (a 0)), (3, .int x3), (4, .int x4)]) hx hb dX2_runFrom_140 hl (k := 4) rfl rfl (by decide) rfl (fun ls hl => ?_)
                      refine lv_goto (tgt := 10) hx hb dX2_runFrom_143 (by decide) ?_
                      exact ih _ _ _ _ _ hf H locs ls hP hD hS (lv_sub hl [2, 1, 3, 4, 0] rfl)
                · have hf := z_ifT hf c22
                  refine lv_iconst (v := (2 : Int32)) hx hb dX2_runFrom_75 (by decide) ?_
                  refine lv_istore_n (lv' := [(2, .int (2 : Int32)), (0, .ref (a 0)), (3, .int x3), (4, .int x4), (5, .int x5)]) hx hb dX2_runFrom_76 rfl hl (by decide) rfl (fun ls hl => ?_)
                  refine lv_goto (tgt := 140) hx hb dX2_runFrom_77 (by decide) ?_
                  refine lv_iinc (v := (x5 + (1 : Int32))) (lv' := [(5, .int (x5 + (1 : Int32))), (2, .int (2 : Int32)), (0, .ref (a 0)), (3, .int x3), (4, .int x4)]) hx hb dX2_runFrom_140 hl (k := 4) rfl rfl (by decide) rfl (fun ls hl => ?_)
                  refine lv_goto (tgt := 10) hx hb dX2_runFrom_143 (by decide) ?_
                  exact ih _ _ _ _ _ hf H locs ls hP hD hS (lv_sub hl [2, 1, 3, 4, 0] rfl)
              · have hf := z_ifF hf c21
                refine lv_aload_n hx hb dX2_runFrom_52 rfl (lv_at hl 0 rfl) ?_
                refine va_get (D := D) (ci := 2) (v := .ref (a 4)) (C := RX2) (T := TX2) (N := 16) hx hb hts iX2_runFrom_X2 hown hK.1 hP 0 rfl rfl 7 (by decide) (hts _ qX2_runFrom_28) (fun _ h9 => h9) rfl dX2_runFrom_53 ?_
                refine lv_iload hx hb dX2_runFrom_56 (lv_at hl 3 rfl) ?_
                obtain ⟨b36, hf⟩ := z_ckE hf
                refine va_iald hx hb hK.1 hP 4 0 rfl rfl (z_inE b36) dX2_runFrom_58 ?_
                refine lv_iload_n hx hb dX2_runFrom_59 rfl (lv_at hl 2 rfl) ?_
                refine lv_icmp_eq (tgt := 68) hx hb dX2_runFrom_60 (by decide) (fun c37 => ?_) (fun c37 => ?_)
                · have hf := z_ifT hf c37
                  refine lv_iload hx hb dX2_runFrom_68 (lv_at hl 4 rfl) ?_
                  refine lv_bipush (v := (99 : Int32)) hx hb dX2_runFrom_70 (by decide) ?_
                  refine lv_icmp_ne (tgt := 80) hx hb dX2_runFrom_72 (by decide) (fun c38 => ?_) (fun c38 => ?_)
                  · have hf := z_ifF hf c38
                    refine lv_aload_n hx hb dX2_runFrom_80 rfl (lv_at hl 0 rfl) ?_
                    refine lv_iload hx hb dX2_runFrom_81 (lv_at hl 3 rfl) ?_
                    refine lv_iload_n hx hb dX2_runFrom_83 rfl (lv_at hl 2 rfl) ?_
                    refine lv_iconst (v := (-1 : Int32)) hx hb dX2_runFrom_84 (by decide) ?_
                    refine lv_icmp_eq (tgt := 92) hx hb dX2_runFrom_85 (by decide) (fun c39 => ?_) (fun c39 => ?_)
                    · have hf := z_ifT hf c39
                      refine lv_iconst (v := (0 : Int32)) hx hb dX2_runFrom_92 (by decide) ?_
                      obtain ⟨g40, h40, hf⟩ := z_bE hf
                      refine z_cVv (As := [.int x4, .int (0 : Int32)]) (rest := []) (wf := (z_st c a)) (g := g) (u0 := g40) ⟨hx, hb, hml, hown, hts⟩ (kX2_read l D c N a H.size g x4 (0 : Int32) g40 h40) (cwV 2 hts gX2_runFrom_X2_read rfl rfl rfl (by decide +kernel) ⟨Nat.le_of_ble_eq_true rfl, Nat.le_of_ble_eq_true rfl⟩) hP hK hD hS hA (ci := 2) (q0 := 0) rfl rfl rfl rfl hl.1 (Nat.le_of_ble_eq_true rfl) rfl dX2_runFrom_93 ⟨Nat.zero_le _, Nat.zero_le _⟩ (fun H locs hP hD hS => ?_)
                      refine lv_aload_n hx hb dX2_runFrom_96 rfl (lv_at hl 0 rfl) ?_
                      refine va_get (D := D) (ci := 2) (v := .ref (a 3)) (C := RX2) (T := TX2) (N := 16) hx hb hts iX2_runFrom_X2 hown hK.1 hP 0 rfl rfl 6 (by decide) (hts _ qX2_runFrom_25) (fun _ h9 => h9) rfl dX2_runFrom_97 ?_
                      refine lv_iload hx hb dX2_runFrom_100 (lv_at hl 3 rfl) ?_
                      obtain ⟨b41, hf⟩ := z_ckE hf
                      refine va_iald hx hb hK.1 hP 3 0 rfl rfl (z_inE b41) dX2_runFrom_102 ?_
                      refine lv_iconst (v := (-1 : Int32)) hx hb dX2_runFrom_103 (by decide) ?_
                      refine lv_icmp_ne (tgt := 112) hx hb dX2_runFrom_104 (by decide) (fun c42 => ?_) (fun c42 => ?_)
                      · have hf := z_ifF hf c42
                        refine lv_aload_n hx hb dX2_runFrom_112 rfl (lv_at hl 0 rfl) ?_
                        refine va_get (D := D) (ci := 2) (v := .ref (a 12)) (C := RX2) (T := TX2) (N := 16) hx hb hts iX2_runFrom_X2 hown hK.1 hP 0 rfl rfl 15 (by decide) (hts _ qX2_runFrom_55) (fun _ h9 => h9) rfl dX2_runFrom_113 ?_
                        refine lv_iload hx hb dX2_runFrom_116 (lv_at hl 3 rfl) ?_
                        refine lv_aload_n hx hb dX2_runFrom_118 rfl (lv_at hl 0 rfl) ?_
                        refine va_get (D := D) (ci := 2) (v := .ref (a 3)) (C := RX2) (T := TX2) (N := 16) hx hb hts iX2_runFrom_X2 hown hK.1 hP 0 rfl rfl 6 (by decide) (hts _ qX2_runFrom_25) (fun _ h9 => h9) rfl dX2_runFrom_119 ?_
                        refine lv_iload hx hb dX2_runFrom_122 (lv_at hl 3 rfl) ?_
                        obtain ⟨b43, hf⟩ := z_ckE hf
                        refine va_iald hx hb hK.1 hP 3 0 rfl rfl (z_inE b43) dX2_runFrom_124 ?_
                        obtain ⟨g44, h44, hf⟩ := z_bE hf
                        refine z_cVv (As := [.int x4, .int (g40 3 (x4).toNatClampNeg)]) (rest := []) (wf := (z_st c a)) (g := g40) (u0 := g44) ⟨hx, hb, hml, hown, hts⟩ (kX0_note l D c N a H.size g40 x4 (g40 3 (x4).toNatClampNeg) g44 h44) (cwV 2 hts gX2_runFrom_X0_note rfl rfl rfl (by decide +kernel) ⟨Nat.le_of_ble_eq_true rfl, Nat.le_of_ble_eq_true rfl⟩) hP hK hD hS hA (ci := 0) (q0 := 12) rfl rfl rfl rfl hl.1 (Nat.le_of_ble_eq_true rfl) rfl dX2_runFrom_125 ⟨Nat.zero_le _, Nat.zero_le _⟩ (fun H locs hP hD hS => ?_)
                        refine lv_iload hx hb dX2_runFrom_128 (lv_at hl 3 rfl) ?_
                        refine lv_istore_n (lv' := [(3, .int x4), (0, .ref (a 0)), (2, .int x2), (4, .int x4), (5, .int x5)]) hx hb dX2_runFrom_130 rfl hl (by decide) rfl (fun ls hl => ?_)
                        refine lv_aload_n hx hb dX2_runFrom_131 rfl (lv_at hl 1 rfl) ?_
                        refine va_get (D := D) (ci := 2) (v := .ref (a 3)) (C := RX2) (T := TX2) (N := 16) hx hb hts iX2_runFrom_X2 hown hK.1 hP 0 rfl rfl 6 (by decide) (hts _ qX2_runFrom_25) (fun _ h9 => h9) rfl dX2_runFrom_132 ?_
                        refine lv_iload hx hb dX2_runFrom_135 (lv_at hl 3 rfl) ?_
                        obtain ⟨b45, hf⟩ := z_ckE hf
                        refine va_iald hx hb hK.1 hP 3 0 rfl rfl (z_inE b45) dX2_runFrom_137 ?_
                        refine lv_istore (lv' := [(4, .int (g44 3 (x4).toNatClampNeg)), (3, .int x4), (0, .ref (a 0)), (2, .int x2), (5, .int x5)]) hx hb dX2_runFrom_138 hl (by decide) rfl (fun ls hl => ?_)
                        refine lv_iinc (v := (x5 + (1 : Int32))) (lv' := [(5, .int (x5 + (1 : Int32))), (4, .int (g44 3 (x4).toNatClampNeg)), (3, .int x4), (0, .ref (a 0)), (2, .int x2)]) hx hb dX2_runFrom_140 hl (k := 4) rfl rfl (by decide) rfl (fun ls hl => ?_)
                        refine lv_goto (tgt := 10) hx hb dX2_runFrom_143 (by decide) ?_
                        exact ih _ _ _ _ _ hf H locs ls hP hD hS (lv_sub hl [3, 4, 2, 1, 0] rfl)
                      · have hf := z_ifT hf c42
                        refine lv_iconst (v := (0 : Int32)) hx hb dX2_runFrom_107 (by decide) ?_
                        refine lv_istore_n (lv' := [(2, .int (0 : Int32)), (0, .ref (a 0)), (3, .int x3), (4, .int x4), (5, .int x5)]) hx hb dX2_runFrom_108 rfl hl (by decide) rfl (fun ls hl => ?_)
                        refine lv_goto (tgt := 140) hx hb dX2_runFrom_109 (by decide) ?_
                        refine lv_iinc (v := (x5 + (1 : Int32))) (lv' := [(5, .int (x5 + (1 : Int32))), (2, .int (0 : Int32)), (0, .ref (a 0)), (3, .int x3), (4, .int x4)]) hx hb dX2_runFrom_140 hl (k := 4) rfl rfl (by decide) rfl (fun ls hl => ?_)
                        refine lv_goto (tgt := 10) hx hb dX2_runFrom_143 (by decide) ?_
                        exact ih _ _ _ _ _ hf H locs ls hP hD hS (lv_sub hl [2, 1, 3, 4, 0] rfl)
                    · have hf := z_ifF hf c39
                      refine lv_iconst (v := (1 : Int32)) hx hb dX2_runFrom_88 (by decide) ?_
                      refine lv_goto (tgt := 93) hx hb dX2_runFrom_89 (by decide) ?_
                      obtain ⟨g46, h46, hf⟩ := z_bE hf
                      refine z_cVv (As := [.int x4, .int (1 : Int32)]) (rest := []) (wf := (z_st c a)) (g := g) (u0 := g46) ⟨hx, hb, hml, hown, hts⟩ (kX2_read l D c N a H.size g x4 (1 : Int32) g46 h46) (cwV 2 hts gX2_runFrom_X2_read rfl rfl rfl (by decide +kernel) ⟨Nat.le_of_ble_eq_true rfl, Nat.le_of_ble_eq_true rfl⟩) hP hK hD hS hA (ci := 2) (q0 := 0) rfl rfl rfl rfl hl.1 (Nat.le_of_ble_eq_true rfl) rfl dX2_runFrom_93 ⟨Nat.zero_le _, Nat.zero_le _⟩ (fun H locs hP hD hS => ?_)
                      refine lv_aload_n hx hb dX2_runFrom_96 rfl (lv_at hl 0 rfl) ?_
                      refine va_get (D := D) (ci := 2) (v := .ref (a 3)) (C := RX2) (T := TX2) (N := 16) hx hb hts iX2_runFrom_X2 hown hK.1 hP 0 rfl rfl 6 (by decide) (hts _ qX2_runFrom_25) (fun _ h9 => h9) rfl dX2_runFrom_97 ?_
                      refine lv_iload hx hb dX2_runFrom_100 (lv_at hl 3 rfl) ?_
                      obtain ⟨b47, hf⟩ := z_ckE hf
                      refine va_iald hx hb hK.1 hP 3 0 rfl rfl (z_inE b47) dX2_runFrom_102 ?_
                      refine lv_iconst (v := (-1 : Int32)) hx hb dX2_runFrom_103 (by decide) ?_
                      refine lv_icmp_ne (tgt := 112) hx hb dX2_runFrom_104 (by decide) (fun c48 => ?_) (fun c48 => ?_)
                      · have hf := z_ifF hf c48
                        refine lv_aload_n hx hb dX2_runFrom_112 rfl (lv_at hl 0 rfl) ?_
                        refine va_get (D := D) (ci := 2) (v := .ref (a 12)) (C := RX2) (T := TX2) (N := 16) hx hb hts iX2_runFrom_X2 hown hK.1 hP 0 rfl rfl 15 (by decide) (hts _ qX2_runFrom_55) (fun _ h9 => h9) rfl dX2_runFrom_113 ?_
                        refine lv_iload hx hb dX2_runFrom_116 (lv_at hl 3 rfl) ?_
                        refine lv_aload_n hx hb dX2_runFrom_118 rfl (lv_at hl 0 rfl) ?_
                        refine va_get (D := D) (ci := 2) (v := .ref (a 3)) (C := RX2) (T := TX2) (N := 16) hx hb hts iX2_runFrom_X2 hown hK.1 hP 0 rfl rfl 6 (by decide) (hts _ qX2_runFrom_25) (fun _ h9 => h9) rfl dX2_runFrom_119 ?_
                        refine lv_iload hx hb dX2_runFrom_122 (lv_at hl 3 rfl) ?_
                        obtain ⟨b49, hf⟩ := z_ckE hf
                        refine va_iald hx hb hK.1 hP 3 0 rfl rfl (z_inE b49) dX2_runFrom_124 ?_
                        obtain ⟨g50, h50, hf⟩ := z_bE hf
                        refine z_cVv (As := [.int x4, .int (g46 3 (x4).toNatClampNeg)]) (rest := []) (wf := (z_st c a)) (g := g46) (u0 := g50) ⟨hx, hb, hml, hown, hts⟩ (kX0_note l D c N a H.size g46 x4 (g46 3 (x4).toNatClampNeg) g50 h50) (cwV 2 hts gX2_runFrom_X0_note rfl rfl rfl (by decide +kernel) ⟨Nat.le_of_ble_eq_true rfl, Nat.le_of_ble_eq_true rfl⟩) hP hK hD hS hA (ci := 0) (q0 := 12) rfl rfl rfl rfl hl.1 (Nat.le_of_ble_eq_true rfl) rfl dX2_runFrom_125 ⟨Nat.zero_le _, Nat.zero_le _⟩ (fun H locs hP hD hS => ?_)
                        refine lv_iload hx hb dX2_runFrom_128 (lv_at hl 3 rfl) ?_
                        refine lv_istore_n (lv' := [(3, .int x4), (0, .ref (a 0)), (2, .int x2), (4, .int x4), (5, .int x5)]) hx hb dX2_runFrom_130 rfl hl (by decide) rfl (fun ls hl => ?_)
                        refine lv_aload_n hx hb dX2_runFrom_131 rfl (lv_at hl 1 rfl) ?_
                        refine va_get (D := D) (ci := 2) (v := .ref (a 3)) (C := RX2) (T := TX2) (N := 16) hx hb hts iX2_runFrom_X2 hown hK.1 hP 0 rfl rfl 6 (by decide) (hts _ qX2_runFrom_25) (fun _ h9 => h9) rfl dX2_runFrom_132 ?_
                        refine lv_iload hx hb dX2_runFrom_135 (lv_at hl 3 rfl) ?_
                        obtain ⟨b51, hf⟩ := z_ckE hf
                        refine va_iald hx hb hK.1 hP 3 0 rfl rfl (z_inE b51) dX2_runFrom_137 ?_
                        refine lv_istore (lv' := [(4, .int (g50 3 (x4).toNatClampNeg)), (3, .int x4), (0, .ref (a 0)), (2, .int x2), (5, .int x5)]) hx hb dX2_runFrom_138 hl (by decide) rfl (fun ls hl => ?_)
                        refine lv_iinc (v := (x5 + (1 : Int32))) (lv' := [(5, .int (x5 + (1 : Int32))), (4, .int (g50 3 (x4).toNatClampNeg)), (3, .int x4), (0, .ref (a 0)), (2, .int x2)]) hx hb dX2_runFrom_140 hl (k := 4) rfl rfl (by decide) rfl (fun ls hl => ?_)
                        refine lv_goto (tgt := 10) hx hb dX2_runFrom_143 (by decide) ?_
                        exact ih _ _ _ _ _ hf H locs ls hP hD hS (lv_sub hl [3, 4, 2, 1, 0] rfl)
                      · have hf := z_ifT hf c48
                        refine lv_iconst (v := (0 : Int32)) hx hb dX2_runFrom_107 (by decide) ?_
                        refine lv_istore_n (lv' := [(2, .int (0 : Int32)), (0, .ref (a 0)), (3, .int x3), (4, .int x4), (5, .int x5)]) hx hb dX2_runFrom_108 rfl hl (by decide) rfl (fun ls hl => ?_)
                        refine lv_goto (tgt := 140) hx hb dX2_runFrom_109 (by decide) ?_
                        refine lv_iinc (v := (x5 + (1 : Int32))) (lv' := [(5, .int (x5 + (1 : Int32))), (2, .int (0 : Int32)), (0, .ref (a 0)), (3, .int x3), (4, .int x4)]) hx hb dX2_runFrom_140 hl (k := 4) rfl rfl (by decide) rfl (fun ls hl => ?_)
                        refine lv_goto (tgt := 10) hx hb dX2_runFrom_143 (by decide) ?_
                        exact ih _ _ _ _ _ hf H locs ls hP hD hS (lv_sub hl [2, 1, 3, 4, 0] rfl)
                  · have hf := z_ifT hf c38
                    refine lv_iconst (v := (2 : Int32)) hx hb dX2_runFrom_75 (by decide) ?_
                    refine lv_istore_n (lv' := [(2, .int (2 : Int32)), (0, .ref (a 0)), (3, .int x3), (4, .int x4), (5, .int x5)]) hx hb dX2_runFrom_76 rfl hl (by decide) rfl (fun ls hl => ?_)
                    refine lv_goto (tgt := 140) hx hb dX2_runFrom_77 (by decide) ?_
                    refine lv_iinc (v := (x5 + (1 : Int32))) (lv' := [(5, .int (x5 + (1 : Int32))), (2, .int (2 : Int32)), (0, .ref (a 0)), (3, .int x3), (4, .int x4)]) hx hb dX2_runFrom_140 hl (k := 4) rfl rfl (by decide) rfl (fun ls hl => ?_)
                    refine lv_goto (tgt := 10) hx hb dX2_runFrom_143 (by decide) ?_
                    exact ih _ _ _ _ _ hf H locs ls hP hD hS (lv_sub hl [2, 1, 3, 4, 0] rfl)
                · have hf := z_ifF hf c37
                  refine lv_iconst (v := (1 : Int32)) hx hb dX2_runFrom_63 (by decide) ?_
                  refine lv_istore_n (lv' := [(2, .int (1 : Int32)), (0, .ref (a 0)), (3, .int x3), (4, .int x4), (5, .int x5)]) hx hb dX2_runFrom_64 rfl hl (by decide) rfl (fun ls hl => ?_)
                  refine lv_goto (tgt := 140) hx hb dX2_runFrom_65 (by decide) ?_
                  refine lv_iinc (v := (x5 + (1 : Int32))) (lv' := [(5, .int (x5 + (1 : Int32))), (2, .int (1 : Int32)), (0, .ref (a 0)), (3, .int x3), (4, .int x4)]) hx hb dX2_runFrom_140 hl (k := 4) rfl rfl (by decide) rfl (fun ls hl => ?_)
                  refine lv_goto (tgt := 10) hx hb dX2_runFrom_143 (by decide) ?_
                  exact ih _ _ _ _ _ hf H locs ls hP hD hS (lv_sub hl [2, 1, 3, 4, 0] rfl)
          · have hf := z_ifT hf c4
            refine lv_iconst (v := (3 : Int32)) hx hb dX2_runFrom_31 (by decide) ?_
            refine lv_istore_n (lv' := [(2, .int (3 : Int32)), (0, .ref (a 0)), (3, .int x3), (4, .int x4), (5, .int x5)]) hx hb dX2_runFrom_32 rfl hl (by decide) rfl (fun ls hl => ?_)
            refine lv_goto (tgt := 140) hx hb dX2_runFrom_33 (by decide) ?_
            refine lv_iinc (v := (x5 + (1 : Int32))) (lv' := [(5, .int (x5 + (1 : Int32))), (2, .int (3 : Int32)), (0, .ref (a 0)), (3, .int x3), (4, .int x4)]) hx hb dX2_runFrom_140 hl (k := 4) rfl rfl (by decide) rfl (fun ls hl => ?_)
            refine lv_goto (tgt := 10) hx hb dX2_runFrom_143 (by decide) ?_
            exact ih _ _ _ _ _ hf H locs ls hP hD hS (lv_sub hl [2, 1, 3, 4, 0] rfl)
  unfold fX2_runFrom at hf
  generalize ([] : List Loc) = locs at hS ⊢
  refine lv_iconst (v := (-1 : Int32)) hx hb dX2_runFrom_0 (by decide) ?_
  refine lv_istore_n (lv' := [(2, .int (-1 : Int32)), (0, .ref (a 0)), (1, .int p1)]) hx hb dX2_runFrom_1 rfl hl (by decide) rfl (fun ls hl => ?_)
  refine lv_iconst (v := (-1 : Int32)) hx hb dX2_runFrom_2 (by decide) ?_
  refine lv_istore_n (lv' := [(3, .int (-1 : Int32)), (2, .int (-1 : Int32)), (0, .ref (a 0)), (1, .int p1)]) hx hb dX2_runFrom_3 rfl hl (by decide) rfl (fun ls hl => ?_)
  refine lv_iload_n hx hb dX2_runFrom_4 rfl (lv_at hl 3 rfl) ?_
  refine lv_istore (lv' := [(4, .int p1), (3, .int (-1 : Int32)), (2, .int (-1 : Int32)), (0, .ref (a 0)), (1, .int p1)]) hx hb dX2_runFrom_5 hl (by decide) rfl (fun ls hl => ?_)
  refine lv_iconst (v := (0 : Int32)) hx hb dX2_runFrom_7 (by decide) ?_
  refine lv_istore (lv' := [(5, .int (0 : Int32)), (4, .int p1), (3, .int (-1 : Int32)), (2, .int (-1 : Int32)), (0, .ref (a 0)), (1, .int p1)]) hx hb dX2_runFrom_8 hl (by decide) rfl (fun ls hl => ?_)
  refine L10 _ (fun x2_10 g10_52 hf H locs ls hP hD hS hl => ?_) N _ _ _ _ _ hf H locs ls hP hD hS (lv_sub hl [4, 3, 2, 1, 0] rfl)
  refine lv_aload_n hx hb dX2_runFrom_146 rfl (lv_at hl 0 rfl) ?_
  refine lv_iload_n hx hb dX2_runFrom_147 rfl (lv_at hl 1 rfl) ?_
  refine va_put (D := D) (ci := 2) (v := .int x2_10) (ty := .int) (C := RX2) (T := TX2) (N := 16) hx hb hts iX2_runFrom_X2 tyX2 tyX2_ok nmX2 hown hK.1 hP hD hS 0 rfl rfl 3 (by decide) (hts _ qX2_runFrom_15) (fun _ h9 => h9) rfl (by decide +kernel) rfl rfl (Nat.le_of_ble_eq_true rfl) dX2_runFrom_148 (fun H locs hP hD hS => ?_)
  obtain ⟨g53, e53, hf⟩ := z_ltE hf
  have hP : va_P D vwCl (z_st c a g53) H := by rw [e53]; exact hP
  have hD : va_D A (z_st c a g53) := by rw [e53]; exact hD
  clear e53
  refine lv_iload_n hx hb dX2_runFrom_151 rfl (lv_at hl 1 rfl) ?_
  exact z_ri (wf := (z_st c a)) hx hb hr hlocks hP hD hS hf dX2_runFrom_152
