abbrev rmX4_move : Room := { frames := 6, cells := 1, slots := 6, locals := 82 }
theorem qX4_move_19 : Cond.fieldLink RX4 19 "ProgramDrum" "now" "LProgramDrum$State;" ∈ wsX4_move := by decide +kernel
theorem iX4_move_X4 : ∀ w ∈ wsX40, w ∈ wsX4_move := by decide +kernel
theorem qX4_move_k128 : Cond.classLink RX4 128 "java/lang/IndexOutOfBoundsException" ∈ wsX4_move := by decide +kernel
theorem qX4_move_x3 : Cond.initialized "java/lang/IndexOutOfBoundsException" ∈ wsX4_move := by decide +kernel
theorem xX4_move_3 : ∀ w ∈ (vx_atS RX4 132 "java/lang/IndexOutOfBoundsException" ["java/lang/RuntimeException", "java/lang/Exception"]).filter goodWord, w ∈ wsX4_move := fun w h => List.mem_cons_of_mem _ (List.mem_append_left _ (List.mem_append_right _ h))
theorem qX4_move_32 : Cond.fieldLink RX4 32 "ProgramDrum" "memory" "LProgramDrum$Memory;" ∈ wsX4_move := by decide +kernel
theorem qX4_move_k55 : Cond.classLink RX4 55 "java/lang/IllegalStateException" ∈ wsX4_move := by decide +kernel
theorem qX4_move_x2 : Cond.initialized "java/lang/IllegalStateException" ∈ wsX4_move := by decide +kernel
theorem xX4_move_2 : ∀ w ∈ (vx_atS RX4 59 "java/lang/IllegalStateException" ["java/lang/RuntimeException", "java/lang/Exception"]).filter goodWord, w ∈ wsX4_move := fun w h => List.mem_cons_of_mem _ (List.mem_append_right _ h)
set_option maxRecDepth 100000 in
set_option maxHeartbeats 4000000 in
theorem kX4_move (l : Launch) (hlst : l.stackTraces = false) (D : va_G) (c : Nat → ClassId) (N : Nat) (b : Nat → Nat) (a : Nat → Nat → Nat) (sz : Nat) (X : z_X) (p1 : Int32) (p2 : Int32) (r0 : Int32 ⊕ Nat) (g0 : z_X) (hf : fX4_move N p1 p2 X = some (r0, g0)) : vx_Met l yX4_move wsX4_move rmX4_move (z_Pt D c sz (z_dw c b a X) [.ref (b 0), .int p1, .int p2]) (z_Ti D (z_dw c b a) r0 g0 (va_A (z_dw c b a X) sz)) (z_Tx D (z_dw c b a) r0 g0 (va_A (z_dw c b a X) sz)) 1 6 (va_A (z_dw c b a X) sz) := by
  refine z_ofT (cc := cX4_move) (maxL := 3) (ret := (some .int)) (Qf := fun A => z_Ti D (z_dw c b a) r0 g0 A) (Xf := fun A => z_Tx D (z_dw c b a) r0 g0 A) (by decide) rfl (Nat.le_of_ble_eq_true rfl) ?_
  intro p e s m args below meth co A ls hx hb hr hml hts hown hlocks hnm hxt hA hP hK hD hE hl hsz
  have hnX := hnm
  have hl : lv_has ls 3 [(0, .ref (b 0)), (1, .int p1), (2, .int p2)] := hl
  have hown : s.vm.findClass RX4 = some m.cls := hown
  obtain ⟨H, hH⟩ : ∃ H, H = s.heap := ⟨_, rfl⟩
  have hS : va_S A s.heap H [] := by rw [hH]; exact va_S.rf
  rw [← hH] at hP ⊢
  clear hH
  unfold fX4_move at hf
  generalize ([] : List Loc) = locs at hS ⊢
  refine lv_aload_n hx hb dX4_move_0 rfl (lv_at hl 0 rfl) ?_
  refine va_get (D := D) (ci := 4) (v := .ref (a 0 0)) (C := RX4) (T := TX4) (N := 7) hx hb hts iX4_move_X4 hown hK.1 hP 0 rfl rfl 1 (by decide) (hts _ qX4_move_19) (fun _ h9 => h9) rfl dX4_move_1 ?_
  refine lv_iload_n hx hb dX4_move_4 rfl (lv_at hl 1 rfl) ?_
  obtain ⟨r1, h1, hf⟩ := z_bE hf
  refine z_xVi (As := [.int p1]) (rest := []) (wf := z_st c (a 0)) (g := (X.2.2 0)) (u0 := (X.2.2 0)) ⟨hx, hb, hml, hown, hts⟩ (kX2_has l D c N (a 0) H.size (X.2.2 0) p1 r1 h1) (cwV 1 hts gX4_move_X2_has rfl rfl rfl (by decide +kernel) ⟨Nat.le_of_ble_eq_true rfl, Nat.le_of_ble_eq_true rfl⟩) hP hK hD hS hA (z_cutSp hD (by decide)) (ci := 2) (q0 := 0) rfl rfl rfl rfl hl.1 (Nat.le_of_ble_eq_true rfl) rfl dX4_move_5 ⟨Nat.zero_le _, Nat.zero_le _⟩ (fun H locs hP hD hS => ?_)
  refine lv_if_eq (tgt := 22) hx hb dX4_move_8 (by decide) (fun c2 => ?_) (fun c2 => ?_)
  · have hf := z_ifT hf c2
    exact z_thr3 (ik := 128) (is := 224) (text := "no such order or place") hx hb hlst hown (Or.inl trivial) (hts _ qX4_move_k128) (hts _ qX4_move_x3) (fun w h => hts w (xX4_move_3 w h)) hE (by decide +kernel) hP hD hS (hl.1.trans hml.symm) dX4_move_22 dX4_move_25 dX4_move_26 dX4_move_28 dX4_move_31 hxt hlocks (Nat.le_of_ble_eq_true rfl) (Nat.le_of_ble_eq_true rfl) (Nat.le_of_ble_eq_true rfl) (Nat.le_of_ble_eq_true rfl) rfl hf
  · have hf := z_ifF hf c2
    refine lv_aload_n hx hb dX4_move_11 rfl (lv_at hl 0 rfl) ?_
    refine va_get (D := D) (ci := 4) (v := .ref (a 0 0)) (C := RX4) (T := TX4) (N := 7) hx hb hts iX4_move_X4 hown hK.1 hP 0 rfl rfl 1 (by decide) (hts _ qX4_move_19) (fun _ h9 => h9) rfl dX4_move_12 ?_
    refine lv_iload_n hx hb dX4_move_15 rfl (lv_at hl 2 rfl) ?_
    obtain ⟨r3, h3, hf⟩ := z_bE hf
    refine z_xVi (As := [.int p2]) (rest := []) (wf := z_st c (a 0)) (g := (X.2.2 0)) (u0 := (X.2.2 0)) ⟨hx, hb, hml, hown, hts⟩ (kX2_hasPlace l D c N (a 0) H.size (X.2.2 0) p2 r3 h3) (cwV 1 hts gX4_move_X2_hasPlace rfl rfl rfl (by decide +kernel) ⟨Nat.le_of_ble_eq_true rfl, Nat.le_of_ble_eq_true rfl⟩) hP hK hD hS hA (z_cutSp hD (by decide)) (ci := 2) (q0 := 0) rfl rfl rfl rfl hl.1 (Nat.le_of_ble_eq_true rfl) rfl dX4_move_16 ⟨Nat.zero_le _, Nat.zero_le _⟩ (fun H locs hP hD hS => ?_)
    refine lv_if_ne (tgt := 32) hx hb dX4_move_19 (by decide) (fun c4 => ?_) (fun c4 => ?_)
    · have hf := z_ifF hf c4
      refine lv_aload_n hx hb dX4_move_32 rfl (lv_at hl 0 rfl) ?_
      refine va_get (D := D) (ci := 4) (v := .ref (a 0 0)) (C := RX4) (T := TX4) (N := 7) hx hb hts iX4_move_X4 hown hK.1 hP 0 rfl rfl 1 (by decide) (hts _ qX4_move_19) (fun _ h9 => h9) rfl dX4_move_33 ?_
      refine lv_iload_n hx hb dX4_move_36 rfl (lv_at hl 1 rfl) ?_
      refine lv_iload_n hx hb dX4_move_37 rfl (lv_at hl 2 rfl) ?_
      obtain ⟨r5, h5, hf⟩ := z_bE hf
      refine z_xVi (As := [.int p1, .int p2]) (rest := []) (wf := z_st c (a 0)) (g := (X.2.2 0)) (u0 := (X.2.2 0)) ⟨hx, hb, hml, hown, hts⟩ (kX2_isFreeFor l D c N (a 0) H.size (X.2.2 0) p1 p2 r5 h5) (cwV 2 hts gX4_move_X2_isFreeFor rfl rfl rfl (by decide +kernel) ⟨Nat.le_of_ble_eq_true rfl, Nat.le_of_ble_eq_true rfl⟩) hP hK hD hS hA (z_cutSp hD (by decide)) (ci := 2) (q0 := 0) rfl rfl rfl rfl hl.1 (Nat.le_of_ble_eq_true rfl) rfl dX4_move_38 ⟨Nat.zero_le _, Nat.zero_le _⟩ (fun H locs hP hD hS => ?_)
      refine lv_if_ne (tgt := 54) hx hb dX4_move_41 (by decide) (fun c6 => ?_) (fun c6 => ?_)
      · have hf := z_ifF hf c6
        refine lv_aload_n hx hb dX4_move_54 rfl (lv_at hl 0 rfl) ?_
        refine va_get (D := D) (ci := 4) (v := .ref (b 3)) (C := RX4) (T := TX4) (N := 7) hx hb hts iX4_move_X4 hown hK.1 hP 0 rfl rfl 4 (by decide) (hts _ qX4_move_32) (fun _ h9 => h9) rfl dX4_move_55 ?_
        refine lv_aload_n hx hb dX4_move_58 rfl (lv_at hl 0 rfl) ?_
        refine va_get (D := D) (ci := 4) (v := .ref (a 0 0)) (C := RX4) (T := TX4) (N := 7) hx hb hts iX4_move_X4 hown hK.1 hP 0 rfl rfl 1 (by decide) (hts _ qX4_move_19) (fun _ h9 => h9) rfl dX4_move_59 ?_
        obtain ⟨X7, h7, hf⟩ := z_bE hf
        refine z_cVv (As := [.ref (a 0 0)]) (rest := []) (wf := (z_dw c b a)) (g := X) (u0 := X7) ⟨hx, hb, hml, hown, hts⟩ (kX1_remember l D c N b a H.size X  X7 h7) (cwV 1 hts gX4_move_X1_remember rfl rfl rfl (by decide +kernel) ⟨Nat.le_of_ble_eq_true rfl, Nat.le_of_ble_eq_true rfl⟩) hP hK hD hS hA (ci := 1) (q0 := 3) rfl rfl rfl rfl hl.1 (Nat.le_of_ble_eq_true rfl) rfl dX4_move_62 ⟨Nat.zero_le _, Nat.zero_le _⟩ (fun H locs hP hD hS => ?_)
        refine lv_aload_n hx hb dX4_move_65 rfl (lv_at hl 0 rfl) ?_
        refine va_get (D := D) (ci := 4) (v := .ref (a 0 0)) (C := RX4) (T := TX4) (N := 7) hx hb hts iX4_move_X4 hown hK.1 hP 0 rfl rfl 1 (by decide) (hts _ qX4_move_19) (fun _ h9 => h9) rfl dX4_move_66 ?_
        refine lv_iload_n hx hb dX4_move_69 rfl (lv_at hl 1 rfl) ?_
        refine lv_iload_n hx hb dX4_move_70 rfl (lv_at hl 2 rfl) ?_
        obtain ⟨r8, u8, h8, hf⟩ := z_b2E hf
        refine z_xVi (As := [.int p1, .int p2]) (rest := []) (wf := z_st c (a 0)) (g := (X7.2.2 0)) (u0 := u8) ⟨hx, hb, hml, hown, hts⟩ (kX2_put l D c N (a 0) H.size (X7.2.2 0) p1 p2 r8 u8 h8) (cwV 2 hts gX4_move_X2_put rfl rfl rfl (by decide +kernel) ⟨Nat.le_of_ble_eq_true rfl, Nat.le_of_ble_eq_true rfl⟩) hP hK hD hS hA (z_cutS hD (by decide) u8) (ci := 2) (q0 := 0) rfl rfl rfl rfl hl.1 (Nat.le_of_ble_eq_true rfl) rfl dX4_move_71 ⟨Nat.zero_le _, Nat.zero_le _⟩ (fun H locs hP hD hS => ?_)
        obtain ⟨X9, e9, hf⟩ := z_ltE hf
        have hP : va_P D vwCl (z_dw c b a X9) H := by rw [e9]; exact hP
        have hD : va_D A (z_dw c b a X9) := by rw [e9]; exact hD
        clear e9
        exact z_ti (wf := (z_dw c b a)) hx hb hr hlocks hP hD hS hf dX4_move_74
      · have hf := z_ifT hf c6
        exact z_thr2 (ik := 55) (is := 229) (text := "another order stands there") hx hb hlst hown (Or.inl trivial) (hts _ qX4_move_k55) (hts _ qX4_move_x2) (fun w h => hts w (xX4_move_2 w h)) hE (by decide +kernel) hP hD hS (hl.1.trans hml.symm) dX4_move_44 dX4_move_47 dX4_move_48 dX4_move_50 dX4_move_53 hxt hlocks (Nat.le_of_ble_eq_true rfl) (Nat.le_of_ble_eq_true rfl) (Nat.le_of_ble_eq_true rfl) (Nat.le_of_ble_eq_true rfl) rfl hf
    · have hf := z_ifT hf c4
      exact z_thr3 (ik := 128) (is := 224) (text := "no such order or place") hx hb hlst hown (Or.inl trivial) (hts _ qX4_move_k128) (hts _ qX4_move_x3) (fun w h => hts w (xX4_move_3 w h)) hE (by decide +kernel) hP hD hS (hl.1.trans hml.symm) dX4_move_22 dX4_move_25 dX4_move_26 dX4_move_28 dX4_move_31 hxt hlocks (Nat.le_of_ble_eq_true rfl) (Nat.le_of_ble_eq_true rfl) (Nat.le_of_ble_eq_true rfl) (Nat.le_of_ble_eq_true rfl) rfl hf
