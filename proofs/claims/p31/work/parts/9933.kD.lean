abbrev rmX1_remember : Room := { frames := 2, cells := 0, slots := 0, locals := 43 }
theorem qX1_remember_11 : Cond.fieldLink RX1 11 "ProgramDrum$Memory" "states" "[LProgramDrum$State;" ∈ wsX1_remember := by decide +kernel
theorem iX1_remember_X1 : ∀ w ∈ wsX10, w ∈ wsX1_remember := by decide +kernel
theorem qX1_remember_18 : Cond.fieldLink RX1 18 "ProgramDrum$Memory" "oldest" "I" ∈ wsX1_remember := by decide +kernel
theorem qX1_remember_22 : Cond.fieldLink RX1 22 "ProgramDrum$Memory" "size" "I" ∈ wsX1_remember := by decide +kernel
set_option maxRecDepth 100000 in
set_option maxHeartbeats 4000000 in
theorem kX1_remember (l : Launch) (D : va_G) (c : Nat → ClassId) (N : Nat) (b : Nat → Nat) (a : Nat → Nat → Nat) (sz : Nat) (X : z_X) (g0 : z_X) (hf : fX1_remember N X = some g0) : Met l yX1_remember wsX1_remember rmX1_remember (z_Pc D c sz (z_dw c b a X) [.ref (b 3), .ref (a 0 0)]) (z_Qv D (z_dw c b a) g0 (va_A (z_dw c b a X) sz)) 0 0 (va_A (z_dw c b a X) sz) := by
  refine z_ofM (cc := cX1_remember) (maxL := 3) (ret := none) (Qf := fun A => z_Qv D (z_dw c b a) g0 A) (plainFor_of_name (by decide)) rfl (Nat.le_of_ble_eq_true rfl) ?_
  intro p e s m args below meth co A ls hx hb hr hml hts hown hlocks hnm hA hP hK hD hl hsz
  have hl : lv_has ls 3 [(0, .ref (b 3)), (1, .ref (a 0 0))] := hl
  have hown : s.vm.findClass RX1 = some m.cls := hown
  obtain ⟨H, hH⟩ : ∃ H, H = s.heap := ⟨_, rfl⟩
  have hS : va_S A s.heap H [] := by rw [hH]; exact va_S.rf
  rw [← hH] at hP ⊢
  clear hH
  unfold fX1_remember at hf
  generalize ([] : List Loc) = locs at hS ⊢
  refine lv_aload_n hx hb dX1_remember_0 rfl (lv_at hl 0 rfl) ?_
  refine va_get (D := D) (ci := 1) (v := .ref (b 4)) (C := RX1) (T := TX1) (N := 3) hx hb hts iX1_remember_X1 hown hK.1 hP 3 rfl rfl 0 (by decide) (hts _ qX1_remember_11) (fun _ h9 => h9) rfl dX1_remember_1 ?_
  refine lv_aload_n hx hb dX1_remember_4 rfl (lv_at hl 0 rfl) ?_
  refine va_get (D := D) (ci := 1) (v := .int (X.2.1 0 0)) (C := RX1) (T := TX1) (N := 3) hx hb hts iX1_remember_X1 hown hK.1 hP 3 rfl rfl 1 (by decide) (hts _ qX1_remember_18) (fun _ h9 => h9) rfl dX1_remember_5 ?_
  refine lv_aload_n hx hb dX1_remember_8 rfl (lv_at hl 0 rfl) ?_
  refine va_get (D := D) (ci := 1) (v := .int (X.2.1 0 1)) (C := RX1) (T := TX1) (N := 3) hx hb hts iX1_remember_X1 hown hK.1 hP 3 rfl rfl 2 (by decide) (hts _ qX1_remember_22) (fun _ h9 => h9) rfl dX1_remember_9 ?_
  refine lv_iadd hx hb dX1_remember_12 ?_
  refine lv_bipush (v := (14 : Int32)) hx hb dX1_remember_13 (by decide) ?_
  refine lv_irem hx hb dX1_remember_15 (by decide) ?_
  obtain ⟨b1, hf⟩ := z_ckE hf
  have k1 := z_k3 b1
  refine va_aldq hx hb hK.1 hP 4 2 rfl rfl (z_inE b1) dX1_remember_16 ?_
  refine z_show (st := .ref (a (((((X.2.1 0 0) + (X.2.1 0 1)) - ((X.2.1 0 0) + (X.2.1 0 1)) / (14 : Int32) * (14 : Int32))).toNatClampNeg + 3) 0) :: _) rfl ?_
  refine lv_astore_n (lv' := [(2, .ref (a (((((X.2.1 0 0) + (X.2.1 0 1)) - ((X.2.1 0 0) + (X.2.1 0 1)) / (14 : Int32) * (14 : Int32))).toNatClampNeg + 3) 0)), (0, .ref (b 3)), (1, .ref (a 0 0))]) hx hb dX1_remember_17 rfl hl (by decide) rfl (fun ls hl => ?_)
  refine lv_aload_n hx hb dX1_remember_18 rfl (lv_at hl 0 rfl) ?_
  refine lv_ifnull hx hb dX1_remember_19 ?_
  refine lv_aload_n hx hb dX1_remember_22 rfl (lv_at hl 0 rfl) ?_
  refine lv_aload_n hx hb dX1_remember_23 rfl (lv_at hl 2 rfl) ?_
  obtain ⟨u2, h2, hf⟩ := z_bE hf
  refine z_xVv (As := [.ref (a 0 0)]) (rest := []) (wf := fun u : z_R => z_st c (a (((((X.2.1 0 0) + (X.2.1 0 1)) - ((X.2.1 0 0) + (X.2.1 0 1)) / (14 : Int32) * (14 : Int32))).toNatClampNeg + 3)) u ++ z_st c (a 0) (X.2.2 0)) (g := (X.2.2 (((((X.2.1 0 0) + (X.2.1 0 1)) - ((X.2.1 0 0) + (X.2.1 0 1)) / (14 : Int32) * (14 : Int32))).toNatClampNeg + 3))) (u0 := u2) ⟨hx, hb, hml, hown, hts⟩ (kX2_copyFrom l D c N (a (((((X.2.1 0 0) + (X.2.1 0 1)) - ((X.2.1 0 0) + (X.2.1 0 1)) / (14 : Int32) * (14 : Int32))).toNatClampNeg + 3)) (a 0) H.size (X.2.2 0) (X.2.2 (((((X.2.1 0 0) + (X.2.1 0 1)) - ((X.2.1 0 0) + (X.2.1 0 1)) / (14 : Int32) * (14 : Int32))).toNatClampNeg + 3)) u2 h2) (cwV 1 hts gX1_remember_X2_copyFrom rfl rfl rfl (by decide +kernel) ⟨Nat.le_of_ble_eq_true rfl, Nat.le_of_ble_eq_true rfl⟩) hP hK hD hS hA (z_cutSS hD k1 (by decide) (by omega) u2) (ci := 2) (q0 := 0) rfl rfl rfl rfl hl.1 (Nat.le_of_ble_eq_true rfl) rfl dX1_remember_24 ⟨Nat.zero_le _, Nat.zero_le _⟩ (fun H locs hP hD hS => ?_)
  obtain ⟨X3, e3, hf⟩ := z_ltE hf
  have hP : va_P D vwCl (z_dw c b a X3) H := by rw [e3]; exact hP
  have hD : va_D A (z_dw c b a X3) := by rw [e3]; exact hD
  clear e3
  refine lv_aload_n hx hb dX1_remember_27 rfl (lv_at hl 1 rfl) ?_
  refine va_get (D := D) (ci := 1) (v := .int (X3.2.1 0 1)) (C := RX1) (T := TX1) (N := 3) hx hb hts iX1_remember_X1 hown hK.1 hP 3 rfl rfl 2 (by decide) (hts _ qX1_remember_22) (fun _ h9 => h9) rfl dX1_remember_28 ?_
  refine lv_bipush (v := (14 : Int32)) hx hb dX1_remember_31 (by decide) ?_
  refine lv_icmp_ge (tgt := 49) hx hb dX1_remember_33 (by decide) (fun c4 => ?_) (fun c4 => ?_)
  · have hf := z_ifT hf c4
    refine lv_aload_n hx hb dX1_remember_49 rfl (lv_at hl 1 rfl) ?_
    refine lv_aload_n hx hb dX1_remember_50 rfl (lv_at hl 1 rfl) ?_
    refine va_get (D := D) (ci := 1) (v := .int (X3.2.1 0 0)) (C := RX1) (T := TX1) (N := 3) hx hb hts iX1_remember_X1 hown hK.1 hP 3 rfl rfl 1 (by decide) (hts _ qX1_remember_18) (fun _ h9 => h9) rfl dX1_remember_51 ?_
    refine lv_iconst (v := (1 : Int32)) hx hb dX1_remember_54 (by decide) ?_
    refine lv_iadd hx hb dX1_remember_55 ?_
    refine lv_bipush (v := (14 : Int32)) hx hb dX1_remember_56 (by decide) ?_
    refine lv_irem hx hb dX1_remember_58 (by decide) ?_
    refine va_put (D := D) (ci := 1) (v := .int (((X3.2.1 0 0) + (1 : Int32)) - ((X3.2.1 0 0) + (1 : Int32)) / (14 : Int32) * (14 : Int32))) (ty := .int) (C := RX1) (T := TX1) (N := 3) hx hb hts iX1_remember_X1 tyX1 tyX1_ok nmX1 hown hK.1 hP hD hS 3 rfl rfl 1 (by decide) (hts _ qX1_remember_18) (fun _ h9 => h9) rfl (by decide +kernel) rfl rfl (Nat.le_of_ble_eq_true rfl) dX1_remember_59 (fun H locs hP hD hS => ?_)
    obtain ⟨X5, e5, hf⟩ := z_ltE hf
    have hP : va_P D vwCl (z_dw c b a X5) H := by rw [e5]; exact hP
    have hD : va_D A (z_dw c b a X5) := by rw [e5]; exact hD
    clear e5
    exact z_rv (wf := (z_dw c b a)) hx hb hr hlocks hP hD hS hf dX1_remember_62
  · have hf := z_ifF hf c4
    refine lv_aload_n hx hb dX1_remember_36 rfl (lv_at hl 1 rfl) ?_
    refine lv_dup hx hb dX1_remember_37 rfl ?_
    refine va_get (D := D) (ci := 1) (v := .int (X3.2.1 0 1)) (C := RX1) (T := TX1) (N := 3) hx hb hts iX1_remember_X1 hown hK.1 hP 3 rfl rfl 2 (by decide) (hts _ qX1_remember_22) (fun _ h9 => h9) rfl dX1_remember_38 ?_
    refine lv_iconst (v := (1 : Int32)) hx hb dX1_remember_41 (by decide) ?_
    refine lv_iadd hx hb dX1_remember_42 ?_
    refine va_put (D := D) (ci := 1) (v := .int ((X3.2.1 0 1) + (1 : Int32))) (ty := .int) (C := RX1) (T := TX1) (N := 3) hx hb hts iX1_remember_X1 tyX1 tyX1_ok nmX1 hown hK.1 hP hD hS 3 rfl rfl 2 (by decide) (hts _ qX1_remember_22) (fun _ h9 => h9) rfl (by decide +kernel) rfl rfl (Nat.le_of_ble_eq_true rfl) dX1_remember_43 (fun H locs hP hD hS => ?_)
    obtain ⟨X6, e6, hf⟩ := z_ltE hf
    have hP : va_P D vwCl (z_dw c b a X6) H := by rw [e6]; exact hP
    have hD : va_D A (z_dw c b a X6) := by rw [e6]; exact hD
    clear e6
    refine lv_goto (tgt := 62) hx hb dX1_remember_46 (by decide) ?_
    exact z_rv (wf := (z_dw c b a)) hx hb hr hlocks hP hD hS hf dX1_remember_62
abbrev rmX4_about : Room := { frames := 2, cells := 0, slots := 0, locals := 43 }
theorem qX4_about_19 : Cond.fieldLink RX4 19 "ProgramDrum" "now" "LProgramDrum$State;" ∈ wsX4_about := by decide +kernel
theorem iX4_about_X4 : ∀ w ∈ wsX40, w ∈ wsX4_about := by decide +kernel
theorem iX4_about_X2 : ∀ w ∈ wsX20, w ∈ wsX4_about := by decide +kernel
theorem iX4_about_X0 : ∀ w ∈ wsX00, w ∈ wsX4_about := by decide +kernel
set_option maxRecDepth 100000 in
set_option maxHeartbeats 4000000 in
theorem kX4_about (l : Launch) (D : va_G) (c : Nat → ClassId) (N : Nat) (b : Nat → Nat) (a : Nat → Nat → Nat) (sz : Nat) (X : z_X) (p1 : Int32) (r0 : Int32) (hf : nX4_about N p1 X = some r0) : Met l yX4_about wsX4_about rmX4_about (z_Pc D c sz (z_dw c b a X) [.ref (b 0), .int p1]) (z_Qi D (z_dw c b a) r0 X (va_A (z_dw c b a X) sz)) 0 0 (va_A (z_dw c b a X) sz) := by
  refine z_ofM (cc := cX4_about) (maxL := 2) (ret := (some .int)) (Qf := fun A => z_Qi D (z_dw c b a) r0 X A) (plainFor_of_name (by decide)) rfl (Nat.le_of_ble_eq_true rfl) ?_
  intro p e s m args below meth co A ls hx hb hr hml hts hown hlocks hnm hA hP hK hD hl hsz
  have hl : lv_has ls 2 [(0, .ref (b 0)), (1, .int p1)] := hl
  have hown : s.vm.findClass RX4 = some m.cls := hown
  obtain ⟨H, hH⟩ : ∃ H, H = s.heap := ⟨_, rfl⟩
  have hS : va_S A s.heap H [] := by rw [hH]; exact va_S.rf
  rw [← hH] at hP ⊢
  clear hH
  unfold nX4_about at hf
  generalize ([] : List Loc) = locs at hS ⊢
  refine lv_iload_n hx hb dX4_about_0 rfl (lv_at hl 1 rfl) ?_
  by_cases c1_0 : p1 = (0 : Int32)
  · have hf := z_ifT hf c1_0
    refine lv_tableIn (tgt := 56) hx hb dX4_about_1 (by rw [c1_0]; decide) (by rw [c1_0]; decide) (off := 55) (by rw [c1_0]; rfl) (by decide) ?_
    refine lv_aload_n hx hb dX4_about_56 rfl (lv_at hl 0 rfl) ?_
    refine va_get (D := D) (ci := 4) (v := .ref (a 0 0)) (C := RX4) (T := TX4) (N := 7) hx hb hts iX4_about_X4 hown hK.1 hP 0 rfl rfl 1 (by decide) (hts _ qX4_about_19) (fun _ h9 => h9) rfl dX4_about_57 ?_
    refine va_getN (D := D) (ci := 2) (v := .int (X.2.2 0 0 0)) (C := RX2) (T := TX2) (N := 16) hx hb hts iX4_about_X2 hown hK.1 (z_subP hP (z_inS (by decide))) 0 rfl rfl 0 (by decide) (va_Nw.use rfl (hK.2.1 _ zF_X4_84)) (fun _ h9 => h9) rfl dX4_about_60 ?_
    exact z_rp (wf := (z_dw c b a)) hx hb hr hlocks hP hD hS hf dX4_about_63
  have hf := z_ifF hf c1_0
  by_cases c1_1 : p1 = (1 : Int32)
  · have hf := z_ifT hf c1_1
    refine lv_tableIn (tgt := 64) hx hb dX4_about_1 (by rw [c1_1]; decide) (by rw [c1_1]; decide) (off := 63) (by rw [c1_1]; rfl) (by decide) ?_
    refine lv_aload_n hx hb dX4_about_64 rfl (lv_at hl 0 rfl) ?_
    refine va_get (D := D) (ci := 4) (v := .ref (a 0 0)) (C := RX4) (T := TX4) (N := 7) hx hb hts iX4_about_X4 hown hK.1 hP 0 rfl rfl 1 (by decide) (hts _ qX4_about_19) (fun _ h9 => h9) rfl dX4_about_65 ?_
    refine va_getN (D := D) (ci := 2) (v := .int (X.2.2 0 0 1)) (C := RX2) (T := TX2) (N := 16) hx hb hts iX4_about_X2 hown hK.1 (z_subP hP (z_inS (by decide))) 0 rfl rfl 1 (by decide) (va_Nw.use rfl (hK.2.1 _ zF_X4_80)) (fun _ h9 => h9) rfl dX4_about_68 ?_
    exact z_rp (wf := (z_dw c b a)) hx hb hr hlocks hP hD hS hf dX4_about_71
  have hf := z_ifF hf c1_1
  by_cases c1_2 : p1 = (2 : Int32)
  · have hf := z_ifT hf c1_2
    refine lv_tableIn (tgt := 72) hx hb dX4_about_1 (by rw [c1_2]; decide) (by rw [c1_2]; decide) (off := 71) (by rw [c1_2]; rfl) (by decide) ?_
    refine lv_aload_n hx hb dX4_about_72 rfl (lv_at hl 0 rfl) ?_
    refine va_get (D := D) (ci := 4) (v := .ref (a 0 0)) (C := RX4) (T := TX4) (N := 7) hx hb hts iX4_about_X4 hown hK.1 hP 0 rfl rfl 1 (by decide) (hts _ qX4_about_19) (fun _ h9 => h9) rfl dX4_about_73 ?_
    refine va_getN (D := D) (ci := 2) (v := .int (X.2.2 0 0 2)) (C := RX2) (T := TX2) (N := 16) hx hb hts iX4_about_X2 hown hK.1 (z_subP hP (z_inS (by decide))) 0 rfl rfl 2 (by decide) (va_Nw.use rfl (hK.2.1 _ zF_X4_87)) (fun _ h9 => h9) rfl dX4_about_76 ?_
    exact z_rp (wf := (z_dw c b a)) hx hb hr hlocks hP hD hS hf dX4_about_79
  have hf := z_ifF hf c1_2
  by_cases c1_3 : p1 = (3 : Int32)
  · have hf := z_ifT hf c1_3
    refine lv_tableIn (tgt := 80) hx hb dX4_about_1 (by rw [c1_3]; decide) (by rw [c1_3]; decide) (off := 79) (by rw [c1_3]; rfl) (by decide) ?_
    refine lv_aload_n hx hb dX4_about_80 rfl (lv_at hl 0 rfl) ?_
    refine va_get (D := D) (ci := 4) (v := .ref (a 0 0)) (C := RX4) (T := TX4) (N := 7) hx hb hts iX4_about_X4 hown hK.1 hP 0 rfl rfl 1 (by decide) (hts _ qX4_about_19) (fun _ h9 => h9) rfl dX4_about_81 ?_
    refine lv_aload_n hx hb dX4_about_84 rfl (lv_at hl 0 rfl) ?_
    refine va_get (D := D) (ci := 4) (v := .ref (a 0 0)) (C := RX4) (T := TX4) (N := 7) hx hb hts iX4_about_X4 hown hK.1 hP 0 rfl rfl 1 (by decide) (hts _ qX4_about_19) (fun _ h9 => h9) rfl dX4_about_85 ?_
    refine va_getN (D := D) (ci := 2) (v := .int (X.2.2 0 0 2)) (C := RX2) (T := TX2) (N := 16) hx hb hts iX4_about_X2 hown hK.1 (z_subP hP (z_inS (by decide))) 0 rfl rfl 2 (by decide) (va_Nw.use rfl (hK.2.1 _ zF_X4_87)) (fun _ h9 => h9) rfl dX4_about_88 ?_
    obtain ⟨r2, h2, hf⟩ := z_bE hf
    refine z_xVi (As := [.int (X.2.2 0 0 2)]) (rest := []) (wf := z_st c (a 0)) (g := (X.2.2 0)) (u0 := (X.2.2 0)) ⟨hx, hb, hml, hown, hts⟩ (kX2_around l D c N (a 0) H.size (X.2.2 0) (X.2.2 0 0 2) r2 h2) (cwV 1 hts gX4_about_X2_around rfl rfl rfl (by decide +kernel) ⟨Nat.le_of_ble_eq_true rfl, Nat.le_of_ble_eq_true rfl⟩) hP hK hD hS hA (z_cutSp hD (by decide)) (ci := 2) (q0 := 0) rfl rfl rfl rfl hl.1 (Nat.le_of_ble_eq_true rfl) rfl dX4_about_91 ⟨Nat.zero_le _, Nat.zero_le _⟩ (fun H locs hP hD hS => ?_)
    exact z_rp (wf := (z_dw c b a)) hx hb hr hlocks hP hD hS hf dX4_about_94
  have hf := z_ifF hf c1_3
  by_cases c1_4 : p1 = (4 : Int32)
  · have hf := z_ifT hf c1_4
    refine lv_tableIn (tgt := 95) hx hb dX4_about_1 (by rw [c1_4]; decide) (by rw [c1_4]; decide) (off := 94) (by rw [c1_4]; rfl) (by decide) ?_
    refine lv_aload_n hx hb dX4_about_95 rfl (lv_at hl 0 rfl) ?_
    refine va_get (D := D) (ci := 4) (v := .ref (a 0 0)) (C := RX4) (T := TX4) (N := 7) hx hb hts iX4_about_X4 hown hK.1 hP 0 rfl rfl 1 (by decide) (hts _ qX4_about_19) (fun _ h9 => h9) rfl dX4_about_96 ?_
    obtain ⟨r3, h3, hf⟩ := z_bE hf
    refine z_xVi (As := []) (rest := []) (wf := z_st c (a 0)) (g := (X.2.2 0)) (u0 := (X.2.2 0)) ⟨hx, hb, hml, hown, hts⟩ (kX2_laidOrders l D c N (a 0) H.size (X.2.2 0)  r3 h3) (cwV 0 hts gX4_about_X2_laidOrders rfl rfl rfl (by decide +kernel) ⟨Nat.le_of_ble_eq_true rfl, Nat.le_of_ble_eq_true rfl⟩) hP hK hD hS hA (z_cutSp hD (by decide)) (ci := 2) (q0 := 0) rfl rfl rfl rfl hl.1 (Nat.le_of_ble_eq_true rfl) rfl dX4_about_99 ⟨Nat.zero_le _, Nat.zero_le _⟩ (fun H locs hP hD hS => ?_)
    exact z_rp (wf := (z_dw c b a)) hx hb hr hlocks hP hD hS hf dX4_about_102
  have hf := z_ifF hf c1_4
  by_cases c1_5 : p1 = (5 : Int32)
  · have hf := z_ifT hf c1_5
    refine lv_tableIn (tgt := 103) hx hb dX4_about_1 (by rw [c1_5]; decide) (by rw [c1_5]; decide) (off := 102) (by rw [c1_5]; rfl) (by decide) ?_
    refine lv_aload_n hx hb dX4_about_103 rfl (lv_at hl 0 rfl) ?_
    refine va_get (D := D) (ci := 4) (v := .ref (a 0 0)) (C := RX4) (T := TX4) (N := 7) hx hb hts iX4_about_X4 hown hK.1 hP 0 rfl rfl 1 (by decide) (hts _ qX4_about_19) (fun _ h9 => h9) rfl dX4_about_104 ?_
    refine va_getN (D := D) (ci := 2) (v := .ref (a 0 10)) (C := RX2) (T := TX2) (N := 16) hx hb hts iX4_about_X2 hown hK.1 (z_subP hP (z_inS (by decide))) 0 rfl rfl 13 (by decide) (va_Nw.use rfl (hK.2.1 _ zF_X4_96)) (fun _ h9 => h9) rfl dX4_about_107 ?_
    obtain ⟨r4, h4, hf⟩ := z_bE hf
    refine z_xSi (As := [.ref (a 0 10)]) (rest := []) (wf := fun u => z_r1 c (a 0 10) 4 u) (g := (X.2.2 0 10)) (u0 := (X.2.2 0 10)) ⟨hx, hb, hml, hown, hts⟩ (kX4_sum l D c N (a 0 10) 4 H.size (X.2.2 0 10) r4 h4) (va_cwS 1 hts gX4_about_X4_sum rfl rfl rfl (by decide +kernel) ⟨Nat.le_of_ble_eq_true rfl, Nat.le_of_ble_eq_true rfl⟩) hP hK hD hS hA (z_cutR hD (by decide) 10 4 (X.2.2 0 10) (List.mem_of_getElem? (i := 10) rfl)) rfl hl.1 (Nat.le_of_ble_eq_true rfl) rfl dX4_about_110 ⟨Nat.zero_le _, Nat.zero_le _⟩ (fun H locs hP hD hS => ?_)
    exact z_rp (wf := (z_dw c b a)) hx hb hr hlocks hP hD hS hf dX4_about_113
  have hf := z_ifF hf c1_5
  by_cases c1_6 : p1 = (6 : Int32)
  · have hf := z_ifT hf c1_6
    refine lv_tableIn (tgt := 114) hx hb dX4_about_1 (by rw [c1_6]; decide) (by rw [c1_6]; decide) (off := 113) (by rw [c1_6]; rfl) (by decide) ?_
    refine lv_aload_n hx hb dX4_about_114 rfl (lv_at hl 0 rfl) ?_
    refine va_get (D := D) (ci := 4) (v := .ref (a 0 0)) (C := RX4) (T := TX4) (N := 7) hx hb hts iX4_about_X4 hown hK.1 hP 0 rfl rfl 1 (by decide) (hts _ qX4_about_19) (fun _ h9 => h9) rfl dX4_about_115 ?_
    refine va_getN (D := D) (ci := 2) (v := .ref (a 0 11)) (C := RX2) (T := TX2) (N := 16) hx hb hts iX4_about_X2 hown hK.1 (z_subP hP (z_inS (by decide))) 0 rfl rfl 14 (by decide) (va_Nw.use rfl (hK.2.1 _ zF_X4_104)) (fun _ h9 => h9) rfl dX4_about_118 ?_
    obtain ⟨r5, h5, hf⟩ := z_bE hf
    refine z_xSi (As := [.ref (a 0 11)]) (rest := []) (wf := fun u => z_r1 c (a 0 11) 4 u) (g := (X.2.2 0 11)) (u0 := (X.2.2 0 11)) ⟨hx, hb, hml, hown, hts⟩ (kX4_sum l D c N (a 0 11) 4 H.size (X.2.2 0 11) r5 h5) (va_cwS 1 hts gX4_about_X4_sum rfl rfl rfl (by decide +kernel) ⟨Nat.le_of_ble_eq_true rfl, Nat.le_of_ble_eq_true rfl⟩) hP hK hD hS hA (z_cutR hD (by decide) 11 4 (X.2.2 0 11) (List.mem_of_getElem? (i := 11) rfl)) rfl hl.1 (Nat.le_of_ble_eq_true rfl) rfl dX4_about_121 ⟨Nat.zero_le _, Nat.zero_le _⟩ (fun H locs hP hD hS => ?_)
    exact z_rp (wf := (z_dw c b a)) hx hb hr hlocks hP hD hS hf dX4_about_124
  have hf := z_ifF hf c1_6
  by_cases c1_7 : p1 = (7 : Int32)
  · have hf := z_ifT hf c1_7
    refine lv_tableIn (tgt := 125) hx hb dX4_about_1 (by rw [c1_7]; decide) (by rw [c1_7]; decide) (off := 124) (by rw [c1_7]; rfl) (by decide) ?_
    refine lv_aload_n hx hb dX4_about_125 rfl (lv_at hl 0 rfl) ?_
    refine va_get (D := D) (ci := 4) (v := .ref (a 0 0)) (C := RX4) (T := TX4) (N := 7) hx hb hts iX4_about_X4 hown hK.1 hP 0 rfl rfl 1 (by decide) (hts _ qX4_about_19) (fun _ h9 => h9) rfl dX4_about_126 ?_
    refine va_getN (D := D) (ci := 2) (v := .ref (a 0 8)) (C := RX2) (T := TX2) (N := 16) hx hb hts iX4_about_X2 hown hK.1 (z_subP hP (z_inS (by decide))) 0 rfl rfl 11 (by decide) (va_Nw.use rfl (hK.2.1 _ zF_X4_107)) (fun _ h9 => h9) rfl dX4_about_129 ?_
    obtain ⟨r6, h6, hf⟩ := z_bE hf
    refine z_xSi (As := [.ref (a 0 8)]) (rest := []) (wf := fun u => z_r1 c (a 0 8) 16 u) (g := (X.2.2 0 8)) (u0 := (X.2.2 0 8)) ⟨hx, hb, hml, hown, hts⟩ (kX4_sum l D c N (a 0 8) 16 H.size (X.2.2 0 8) r6 h6) (va_cwS 1 hts gX4_about_X4_sum rfl rfl rfl (by decide +kernel) ⟨Nat.le_of_ble_eq_true rfl, Nat.le_of_ble_eq_true rfl⟩) hP hK hD hS hA (z_cutR hD (by decide) 8 16 (X.2.2 0 8) (List.mem_of_getElem? (i := 8) rfl)) rfl hl.1 (Nat.le_of_ble_eq_true rfl) rfl dX4_about_132 ⟨Nat.zero_le _, Nat.zero_le _⟩ (fun H locs hP hD hS => ?_)
    exact z_rp (wf := (z_dw c b a)) hx hb hr hlocks hP hD hS hf dX4_about_135
  have hf := z_ifF hf c1_7
  by_cases c1_8 : p1 = (8 : Int32)
  · have hf := z_ifT hf c1_8
    refine lv_tableIn (tgt := 136) hx hb dX4_about_1 (by rw [c1_8]; decide) (by rw [c1_8]; decide) (off := 135) (by rw [c1_8]; rfl) (by decide) ?_
    refine lv_aload_n hx hb dX4_about_136 rfl (lv_at hl 0 rfl) ?_
    refine va_get (D := D) (ci := 4) (v := .ref (a 0 0)) (C := RX4) (T := TX4) (N := 7) hx hb hts iX4_about_X4 hown hK.1 hP 0 rfl rfl 1 (by decide) (hts _ qX4_about_19) (fun _ h9 => h9) rfl dX4_about_137 ?_
    refine va_getN (D := D) (ci := 2) (v := .ref (a 0 12)) (C := RX2) (T := TX2) (N := 16) hx hb hts iX4_about_X2 hown hK.1 (z_subP hP (z_inS (by decide))) 0 rfl rfl 15 (by decide) (va_Nw.use rfl (hK.2.1 _ zF_X4_110)) (fun _ h9 => h9) rfl dX4_about_140 ?_
    refine va_getN (D := D) (ci := 0) (v := .int (X.2.2 0 0 4)) (C := RX0) (T := TX0) (N := 4) hx hb hts iX4_about_X0 hown hK.1 (z_subP hP (z_inS (by decide))) 12 rfl rfl 3 (by decide) (va_Nw.use rfl (hK.2.1 _ zF_X4_114)) (fun _ h9 => h9) rfl dX4_about_143 ?_
    exact z_rp (wf := (z_dw c b a)) hx hb hr hlocks hP hD hS hf dX4_about_146
  have hf := z_ifF hf c1_8
  by_cases c1_9 : p1 = (9 : Int32)
  · have hf := z_ifT hf c1_9
    refine lv_tableIn (tgt := 147) hx hb dX4_about_1 (by rw [c1_9]; decide) (by rw [c1_9]; decide) (off := 146) (by rw [c1_9]; rfl) (by decide) ?_
    refine lv_aload_n hx hb dX4_about_147 rfl (lv_at hl 0 rfl) ?_
    refine va_get (D := D) (ci := 4) (v := .ref (a 0 0)) (C := RX4) (T := TX4) (N := 7) hx hb hts iX4_about_X4 hown hK.1 hP 0 rfl rfl 1 (by decide) (hts _ qX4_about_19) (fun _ h9 => h9) rfl dX4_about_148 ?_
    refine va_getN (D := D) (ci := 2) (v := .int (X.2.2 0 0 3)) (C := RX2) (T := TX2) (N := 16) hx hb hts iX4_about_X2 hown hK.1 (z_subP hP (z_inS (by decide))) 0 rfl rfl 3 (by decide) (va_Nw.use rfl (hK.2.1 _ zF_X4_119)) (fun _ h9 => h9) rfl dX4_about_151 ?_
    exact z_rp (wf := (z_dw c b a)) hx hb hr hlocks hP hD hS hf dX4_about_154
  have hf := z_ifF hf c1_9
  refine lv_tableOut (tgt := 155) hx hb dX4_about_1 (z_sw0_9 c1_0 c1_1 c1_2 c1_3 c1_4 c1_5 c1_6 c1_7 c1_8 c1_9) (by decide) ?_
  cases hf
abbrev rmX4_order : Room := { frames := 1, cells := 0, slots := 0, locals := 21 }
theorem qX4_order_19 : Cond.fieldLink RX4 19 "ProgramDrum" "now" "LProgramDrum$State;" ∈ wsX4_order := by decide +kernel
theorem iX4_order_X4 : ∀ w ∈ wsX40, w ∈ wsX4_order := by decide +kernel
theorem iX4_order_X2 : ∀ w ∈ wsX20, w ∈ wsX4_order := by decide +kernel
set_option maxRecDepth 100000 in
set_option maxHeartbeats 4000000 in
theorem kX4_order (l : Launch) (D : va_G) (c : Nat → ClassId) (N : Nat) (b : Nat → Nat) (a : Nat → Nat → Nat) (sz : Nat) (X : z_X) (p1 : Int32) (p2 : Int32) (r0 : Int32) (hf : nX4_order N p1 p2 X = some r0) : Met l yX4_order wsX4_order rmX4_order (z_Pc D c sz (z_dw c b a X) [.ref (b 0), .int p1, .int p2]) (z_Qi D (z_dw c b a) r0 X (va_A (z_dw c b a X) sz)) 0 0 (va_A (z_dw c b a X) sz) := by
  refine z_ofM (cc := cX4_order) (maxL := 3) (ret := (some .int)) (Qf := fun A => z_Qi D (z_dw c b a) r0 X A) (plainFor_of_name (by decide)) rfl (Nat.le_of_ble_eq_true rfl) ?_
  intro p e s m args below meth co A ls hx hb hr hml hts hown hlocks hnm hA hP hK hD hl hsz
  have hl : lv_has ls 3 [(0, .ref (b 0)), (1, .int p1), (2, .int p2)] := hl
  have hown : s.vm.findClass RX4 = some m.cls := hown
  obtain ⟨H, hH⟩ : ∃ H, H = s.heap := ⟨_, rfl⟩
  have hS : va_S A s.heap H [] := by rw [hH]; exact va_S.rf
  rw [← hH] at hP ⊢
  clear hH
  unfold nX4_order at hf
  generalize ([] : List Loc) = locs at hS ⊢
  refine lv_aload_n hx hb dX4_order_0 rfl (lv_at hl 0 rfl) ?_
  refine va_get (D := D) (ci := 4) (v := .ref (a 0 0)) (C := RX4) (T := TX4) (N := 7) hx hb hts iX4_order_X4 hown hK.1 hP 0 rfl rfl 1 (by decide) (hts _ qX4_order_19) (fun _ h9 => h9) rfl dX4_order_1 ?_
  refine lv_iload_n hx hb dX4_order_4 rfl (lv_at hl 1 rfl) ?_
  obtain ⟨r1, h1, hf⟩ := z_bE hf
  refine z_xVi (As := [.int p1]) (rest := []) (wf := z_st c (a 0)) (g := (X.2.2 0)) (u0 := (X.2.2 0)) ⟨hx, hb, hml, hown, hts⟩ (kX2_has l D c N (a 0) H.size (X.2.2 0) p1 r1 h1) (cwV 1 hts gX4_order_X2_has rfl rfl rfl (by decide +kernel) ⟨Nat.le_of_ble_eq_true rfl, Nat.le_of_ble_eq_true rfl⟩) hP hK hD hS hA (z_cutSp hD (by decide)) (ci := 2) (q0 := 0) rfl rfl rfl rfl hl.1 (Nat.le_of_ble_eq_true rfl) rfl dX4_order_5 ⟨Nat.zero_le _, Nat.zero_le _⟩ (fun H locs hP hD hS => ?_)
  refine lv_if_ne (tgt := 21) hx hb dX4_order_8 (by decide) (fun c2 => ?_) (fun c2 => ?_)
  · have hf := z_ifF hf c2
    refine lv_iload_n hx hb dX4_order_21 rfl (lv_at hl 2 rfl) ?_
    by_cases c3_0 : p2 = (0 : Int32)
    · have hf := z_ifT hf c3_0
      refine lv_tableIn (tgt := 72) hx hb dX4_order_22 (by rw [c3_0]; decide) (by rw [c3_0]; decide) (off := 50) (by rw [c3_0]; rfl) (by decide) ?_
      refine lv_aload_n hx hb dX4_order_72 rfl (lv_at hl 0 rfl) ?_
      refine va_get (D := D) (ci := 4) (v := .ref (a 0 0)) (C := RX4) (T := TX4) (N := 7) hx hb hts iX4_order_X4 hown hK.1 hP 0 rfl rfl 1 (by decide) (hts _ qX4_order_19) (fun _ h9 => h9) rfl dX4_order_73 ?_
      refine va_getN (D := D) (ci := 2) (v := .ref (a 0 1)) (C := RX2) (T := TX2) (N := 16) hx hb hts iX4_order_X2 hown hK.1 (z_subP hP (z_inS (by decide))) 0 rfl rfl 4 (by decide) (va_Nw.use rfl (hK.2.1 _ zF_X4_133)) (fun _ h9 => h9) rfl dX4_order_76 ?_
      refine lv_iload_n hx hb dX4_order_79 rfl (lv_at hl 1 rfl) ?_
      obtain ⟨b4, hf⟩ := z_ckE hf
      refine va_iald hx hb hK.1 (z_subP hP (z_inS (by decide))) 1 0 rfl rfl (z_inE b4) dX4_order_80 ?_
      exact z_rp (wf := (z_dw c b a)) hx hb hr hlocks hP hD hS hf dX4_order_81
    have hf := z_ifF hf c3_0
    by_cases c3_1 : p2 = (1 : Int32)
    · have hf := z_ifT hf c3_1
      refine lv_tableIn (tgt := 82) hx hb dX4_order_22 (by rw [c3_1]; decide) (by rw [c3_1]; decide) (off := 60) (by rw [c3_1]; rfl) (by decide) ?_
      refine lv_aload_n hx hb dX4_order_82 rfl (lv_at hl 0 rfl) ?_
      refine va_get (D := D) (ci := 4) (v := .ref (a 0 0)) (C := RX4) (T := TX4) (N := 7) hx hb hts iX4_order_X4 hown hK.1 hP 0 rfl rfl 1 (by decide) (hts _ qX4_order_19) (fun _ h9 => h9) rfl dX4_order_83 ?_
      refine va_getN (D := D) (ci := 2) (v := .ref (a 0 2)) (C := RX2) (T := TX2) (N := 16) hx hb hts iX4_order_X2 hown hK.1 (z_subP hP (z_inS (by decide))) 0 rfl rfl 5 (by decide) (va_Nw.use rfl (hK.2.1 _ zF_X4_136)) (fun _ h9 => h9) rfl dX4_order_86 ?_
      refine lv_iload_n hx hb dX4_order_89 rfl (lv_at hl 1 rfl) ?_
      obtain ⟨b5, hf⟩ := z_ckE hf
      refine va_iald hx hb hK.1 (z_subP hP (z_inS (by decide))) 2 0 rfl rfl (z_inE b5) dX4_order_90 ?_
      exact z_rp (wf := (z_dw c b a)) hx hb hr hlocks hP hD hS hf dX4_order_91
    have hf := z_ifF hf c3_1
    by_cases c3_2 : p2 = (2 : Int32)
    · have hf := z_ifT hf c3_2
      refine lv_tableIn (tgt := 92) hx hb dX4_order_22 (by rw [c3_2]; decide) (by rw [c3_2]; decide) (off := 70) (by rw [c3_2]; rfl) (by decide) ?_
      refine lv_aload_n hx hb dX4_order_92 rfl (lv_at hl 0 rfl) ?_
      refine va_get (D := D) (ci := 4) (v := .ref (a 0 0)) (C := RX4) (T := TX4) (N := 7) hx hb hts iX4_order_X4 hown hK.1 hP 0 rfl rfl 1 (by decide) (hts _ qX4_order_19) (fun _ h9 => h9) rfl dX4_order_93 ?_
      refine va_getN (D := D) (ci := 2) (v := .ref (a 0 3)) (C := RX2) (T := TX2) (N := 16) hx hb hts iX4_order_X2 hown hK.1 (z_subP hP (z_inS (by decide))) 0 rfl rfl 6 (by decide) (va_Nw.use rfl (hK.2.1 _ zF_X4_139)) (fun _ h9 => h9) rfl dX4_order_96 ?_
      refine lv_iload_n hx hb dX4_order_99 rfl (lv_at hl 1 rfl) ?_
      obtain ⟨b6, hf⟩ := z_ckE hf
      refine va_iald hx hb hK.1 (z_subP hP (z_inS (by decide))) 3 0 rfl rfl (z_inE b6) dX4_order_100 ?_
      exact z_rp (wf := (z_dw c b a)) hx hb hr hlocks hP hD hS hf dX4_order_101
    have hf := z_ifF hf c3_2
    by_cases c3_3 : p2 = (3 : Int32)
    · have hf := z_ifT hf c3_3
      refine lv_tableIn (tgt := 102) hx hb dX4_order_22 (by rw [c3_3]; decide) (by rw [c3_3]; decide) (off := 80) (by rw [c3_3]; rfl) (by decide) ?_
      refine lv_aload_n hx hb dX4_order_102 rfl (lv_at hl 0 rfl) ?_
      refine va_get (D := D) (ci := 4) (v := .ref (a 0 0)) (C := RX4) (T := TX4) (N := 7) hx hb hts iX4_order_X4 hown hK.1 hP 0 rfl rfl 1 (by decide) (hts _ qX4_order_19) (fun _ h9 => h9) rfl dX4_order_103 ?_
      refine va_getN (D := D) (ci := 2) (v := .ref (a 0 4)) (C := RX2) (T := TX2) (N := 16) hx hb hts iX4_order_X2 hown hK.1 (z_subP hP (z_inS (by decide))) 0 rfl rfl 7 (by decide) (va_Nw.use rfl (hK.2.1 _ zF_X4_142)) (fun _ h9 => h9) rfl dX4_order_106 ?_
      refine lv_iload_n hx hb dX4_order_109 rfl (lv_at hl 1 rfl) ?_
      obtain ⟨b7, hf⟩ := z_ckE hf
      refine va_iald hx hb hK.1 (z_subP hP (z_inS (by decide))) 4 0 rfl rfl (z_inE b7) dX4_order_110 ?_
      exact z_rp (wf := (z_dw c b a)) hx hb hr hlocks hP hD hS hf dX4_order_111
    have hf := z_ifF hf c3_3
    by_cases c3_4 : p2 = (4 : Int32)
    · have hf := z_ifT hf c3_4
      refine lv_tableIn (tgt := 112) hx hb dX4_order_22 (by rw [c3_4]; decide) (by rw [c3_4]; decide) (off := 90) (by rw [c3_4]; rfl) (by decide) ?_
      refine lv_aload_n hx hb dX4_order_112 rfl (lv_at hl 0 rfl) ?_
      refine va_get (D := D) (ci := 4) (v := .ref (a 0 0)) (C := RX4) (T := TX4) (N := 7) hx hb hts iX4_order_X4 hown hK.1 hP 0 rfl rfl 1 (by decide) (hts _ qX4_order_19) (fun _ h9 => h9) rfl dX4_order_113 ?_
      refine va_getN (D := D) (ci := 2) (v := .ref (a 0 5)) (C := RX2) (T := TX2) (N := 16) hx hb hts iX4_order_X2 hown hK.1 (z_subP hP (z_inS (by decide))) 0 rfl rfl 8 (by decide) (va_Nw.use rfl (hK.2.1 _ zF_X4_145)) (fun _ h9 => h9) rfl dX4_order_116 ?_
      refine lv_iload_n hx hb dX4_order_119 rfl (lv_at hl 1 rfl) ?_
      obtain ⟨b8, hf⟩ := z_ckE hf
      refine va_iald hx hb hK.1 (z_subP hP (z_inS (by decide))) 5 0 rfl rfl (z_inE b8) dX4_order_120 ?_
      exact z_rp (wf := (z_dw c b a)) hx hb hr hlocks hP hD hS hf dX4_order_121
    have hf := z_ifF hf c3_4
    by_cases c3_5 : p2 = (5 : Int32)
    · have hf := z_ifT hf c3_5
      refine lv_tableIn (tgt := 122) hx hb dX4_order_22 (by rw [c3_5]; decide) (by rw [c3_5]; decide) (off := 100) (by rw [c3_5]; rfl) (by decide) ?_
      refine lv_aload_n hx hb dX4_order_122 rfl (lv_at hl 0 rfl) ?_
      refine va_get (D := D) (ci := 4) (v := .ref (a 0 0)) (C := RX4) (T := TX4) (N := 7) hx hb hts iX4_order_X4 hown hK.1 hP 0 rfl rfl 1 (by decide) (hts _ qX4_order_19) (fun _ h9 => h9) rfl dX4_order_123 ?_
      refine va_getN (D := D) (ci := 2) (v := .ref (a 0 6)) (C := RX2) (T := TX2) (N := 16) hx hb hts iX4_order_X2 hown hK.1 (z_subP hP (z_inS (by decide))) 0 rfl rfl 9 (by decide) (va_Nw.use rfl (hK.2.1 _ zF_X4_148)) (fun _ h9 => h9) rfl dX4_order_126 ?_
      refine lv_iload_n hx hb dX4_order_129 rfl (lv_at hl 1 rfl) ?_
      obtain ⟨b9, hf⟩ := z_ckE hf
      refine va_iald hx hb hK.1 (z_subP hP (z_inS (by decide))) 6 0 rfl rfl (z_inE b9) dX4_order_130 ?_
      exact z_rp (wf := (z_dw c b a)) hx hb hr hlocks hP hD hS hf dX4_order_131
    have hf := z_ifF hf c3_5
    by_cases c3_6 : p2 = (6 : Int32)
    · have hf := z_ifT hf c3_6
      refine lv_tableIn (tgt := 132) hx hb dX4_order_22 (by rw [c3_6]; decide) (by rw [c3_6]; decide) (off := 110) (by rw [c3_6]; rfl) (by decide) ?_
      refine lv_aload_n hx hb dX4_order_132 rfl (lv_at hl 0 rfl) ?_
      refine va_get (D := D) (ci := 4) (v := .ref (a 0 0)) (C := RX4) (T := TX4) (N := 7) hx hb hts iX4_order_X4 hown hK.1 hP 0 rfl rfl 1 (by decide) (hts _ qX4_order_19) (fun _ h9 => h9) rfl dX4_order_133 ?_
      refine va_getN (D := D) (ci := 2) (v := .ref (a 0 7)) (C := RX2) (T := TX2) (N := 16) hx hb hts iX4_order_X2 hown hK.1 (z_subP hP (z_inS (by decide))) 0 rfl rfl 10 (by decide) (va_Nw.use rfl (hK.2.1 _ zF_X4_151)) (fun _ h9 => h9) rfl dX4_order_136 ?_
      refine lv_iload_n hx hb dX4_order_139 rfl (lv_at hl 1 rfl) ?_
      obtain ⟨b10, hf⟩ := z_ckE hf
      refine va_iald hx hb hK.1 (z_subP hP (z_inS (by decide))) 7 0 rfl rfl (z_inE b10) dX4_order_140 ?_
      exact z_rp (wf := (z_dw c b a)) hx hb hr hlocks hP hD hS hf dX4_order_141
    have hf := z_ifF hf c3_6
    by_cases c3_7 : p2 = (7 : Int32)
    · have hf := z_ifT hf c3_7
      refine lv_tableIn (tgt := 142) hx hb dX4_order_22 (by rw [c3_7]; decide) (by rw [c3_7]; decide) (off := 120) (by rw [c3_7]; rfl) (by decide) ?_
      refine lv_aload_n hx hb dX4_order_142 rfl (lv_at hl 0 rfl) ?_
      refine va_get (D := D) (ci := 4) (v := .ref (a 0 0)) (C := RX4) (T := TX4) (N := 7) hx hb hts iX4_order_X4 hown hK.1 hP 0 rfl rfl 1 (by decide) (hts _ qX4_order_19) (fun _ h9 => h9) rfl dX4_order_143 ?_
      refine va_getN (D := D) (ci := 2) (v := .ref (a 0 8)) (C := RX2) (T := TX2) (N := 16) hx hb hts iX4_order_X2 hown hK.1 (z_subP hP (z_inS (by decide))) 0 rfl rfl 11 (by decide) (va_Nw.use rfl (hK.2.1 _ zF_X4_107)) (fun _ h9 => h9) rfl dX4_order_146 ?_
      refine lv_iload_n hx hb dX4_order_149 rfl (lv_at hl 1 rfl) ?_
      obtain ⟨b11, hf⟩ := z_ckE hf
      refine va_iald hx hb hK.1 (z_subP hP (z_inS (by decide))) 8 0 rfl rfl (z_inE b11) dX4_order_150 ?_
      exact z_rp (wf := (z_dw c b a)) hx hb hr hlocks hP hD hS hf dX4_order_151
    have hf := z_ifF hf c3_7
    by_cases c3_8 : p2 = (8 : Int32)
    · have hf := z_ifT hf c3_8
      refine lv_tableIn (tgt := 152) hx hb dX4_order_22 (by rw [c3_8]; decide) (by rw [c3_8]; decide) (off := 130) (by rw [c3_8]; rfl) (by decide) ?_
      refine lv_aload_n hx hb dX4_order_152 rfl (lv_at hl 0 rfl) ?_
      refine va_get (D := D) (ci := 4) (v := .ref (a 0 0)) (C := RX4) (T := TX4) (N := 7) hx hb hts iX4_order_X4 hown hK.1 hP 0 rfl rfl 1 (by decide) (hts _ qX4_order_19) (fun _ h9 => h9) rfl dX4_order_153 ?_
      refine va_getN (D := D) (ci := 2) (v := .ref (a 0 9)) (C := RX2) (T := TX2) (N := 16) hx hb hts iX4_order_X2 hown hK.1 (z_subP hP (z_inS (by decide))) 0 rfl rfl 12 (by decide) (va_Nw.use rfl (hK.2.1 _ zF_X4_154)) (fun _ h9 => h9) rfl dX4_order_156 ?_
      refine lv_iload_n hx hb dX4_order_159 rfl (lv_at hl 1 rfl) ?_
      obtain ⟨b12, hf⟩ := z_ckE hf
      refine va_iald hx hb hK.1 (z_subP hP (z_inS (by decide))) 9 0 rfl rfl (z_inE b12) dX4_order_160 ?_
      exact z_rp (wf := (z_dw c b a)) hx hb hr hlocks hP hD hS hf dX4_order_161
    have hf := z_ifF hf c3_8
    refine lv_tableOut (tgt := 162) hx hb dX4_order_22 (z_sw0_8 c3_0 c3_1 c3_2 c3_3 c3_4 c3_5 c3_6 c3_7 c3_8) (by decide) ?_
    cases hf
  · have hf := z_ifT hf c2
    cases hf
abbrev rmX4_author : Room := { frames := 2, cells := 0, slots := 0, locals := 44 }
theorem qX4_author_19 : Cond.fieldLink RX4 19 "ProgramDrum" "now" "LProgramDrum$State;" ∈ wsX4_author := by decide +kernel
theorem iX4_author_X4 : ∀ w ∈ wsX40, w ∈ wsX4_author := by decide +kernel
theorem iX4_author_X2 : ∀ w ∈ wsX20, w ∈ wsX4_author := by decide +kernel
set_option maxRecDepth 100000 in
set_option maxHeartbeats 4000000 in
theorem kX4_author (l : Launch) (D : va_G) (c : Nat → ClassId) (N : Nat) (b : Nat → Nat) (a : Nat → Nat → Nat) (sz : Nat) (X : z_X) (p1 : Int32) (p2 : Int32) (r0 : Int32) (hf : nX4_author N p1 p2 X = some r0) : Met l yX4_author wsX4_author rmX4_author (z_Pc D c sz (z_dw c b a X) [.ref (b 0), .int p1, .int p2]) (z_Qi D (z_dw c b a) r0 X (va_A (z_dw c b a X) sz)) 0 0 (va_A (z_dw c b a X) sz) := by
  refine z_ofM (cc := cX4_author) (maxL := 3) (ret := (some .int)) (Qf := fun A => z_Qi D (z_dw c b a) r0 X A) (plainFor_of_name (by decide)) rfl (Nat.le_of_ble_eq_true rfl) ?_
  intro p e s m args below meth co A ls hx hb hr hml hts hown hlocks hnm hA hP hK hD hl hsz
  have hl : lv_has ls 3 [(0, .ref (b 0)), (1, .int p1), (2, .int p2)] := hl
  have hown : s.vm.findClass RX4 = some m.cls := hown
  obtain ⟨H, hH⟩ : ∃ H, H = s.heap := ⟨_, rfl⟩
  have hS : va_S A s.heap H [] := by rw [hH]; exact va_S.rf
  rw [← hH] at hP ⊢
  clear hH
  unfold nX4_author at hf
  generalize ([] : List Loc) = locs at hS ⊢
  refine lv_iload_n hx hb dX4_author_0 rfl (lv_at hl 1 rfl) ?_
  obtain ⟨r1, h1, hf⟩ := z_bE hf
  refine z_cSi (As := [.int p1]) (rest := []) ⟨hx, hb, hml, hown, hts⟩ (kX4_isAuthor l D c N H.size p1 r1 h1) (va_cwS 1 hts gX4_author_X4_isAuthor rfl rfl rfl (by decide +kernel) ⟨Nat.le_of_ble_eq_true rfl, Nat.le_of_ble_eq_true rfl⟩) hP hK hS hA rfl hl.1 (Nat.le_of_ble_eq_true rfl) rfl dX4_author_1 ⟨Nat.zero_le _, Nat.zero_le _⟩ (fun H locs hP hS => ?_)
  refine lv_if_ne (tgt := 17) hx hb dX4_author_4 (by decide) (fun c2 => ?_) (fun c2 => ?_)
  · have hf := z_ifF hf c2
    refine lv_iload_n hx hb dX4_author_17 rfl (lv_at hl 2 rfl) ?_
    by_cases c3_0 : p2 = (0 : Int32)
    · have hf := z_ifT hf c3_0
      refine lv_tableIn (tgt := 44) hx hb dX4_author_18 (by rw [c3_0]; decide) (by rw [c3_0]; decide) (off := 26) (by rw [c3_0]; rfl) (by decide) ?_
      refine lv_aload_n hx hb dX4_author_44 rfl (lv_at hl 0 rfl) ?_
      refine va_get (D := D) (ci := 4) (v := .ref (a 0 0)) (C := RX4) (T := TX4) (N := 7) hx hb hts iX4_author_X4 hown hK.1 hP 0 rfl rfl 1 (by decide) (hts _ qX4_author_19) (fun _ h9 => h9) rfl dX4_author_45 ?_
      refine lv_iload_n hx hb dX4_author_48 rfl (lv_at hl 1 rfl) ?_
      obtain ⟨r4, h4, hf⟩ := z_bE hf
      refine z_xVi (As := [.int p1]) (rest := []) (wf := z_st c (a 0)) (g := (X.2.2 0)) (u0 := (X.2.2 0)) ⟨hx, hb, hml, hown, hts⟩ (kX2_ordersOf l D c N (a 0) H.size (X.2.2 0) p1 r4 h4) (cwV 1 hts gX4_author_X2_ordersOf rfl rfl rfl (by decide +kernel) ⟨Nat.le_of_ble_eq_true rfl, Nat.le_of_ble_eq_true rfl⟩) hP hK hD hS hA (z_cutSp hD (by decide)) (ci := 2) (q0 := 0) rfl rfl rfl rfl hl.1 (Nat.le_of_ble_eq_true rfl) rfl dX4_author_49 ⟨Nat.zero_le _, Nat.zero_le _⟩ (fun H locs hP hD hS => ?_)
      exact z_rp (wf := (z_dw c b a)) hx hb hr hlocks hP hD hS hf dX4_author_52
    have hf := z_ifF hf c3_0
    by_cases c3_1 : p2 = (1 : Int32)
    · have hf := z_ifT hf c3_1
      refine lv_tableIn (tgt := 53) hx hb dX4_author_18 (by rw [c3_1]; decide) (by rw [c3_1]; decide) (off := 35) (by rw [c3_1]; rfl) (by decide) ?_
      refine lv_aload_n hx hb dX4_author_53 rfl (lv_at hl 0 rfl) ?_
      refine va_get (D := D) (ci := 4) (v := .ref (a 0 0)) (C := RX4) (T := TX4) (N := 7) hx hb hts iX4_author_X4 hown hK.1 hP 0 rfl rfl 1 (by decide) (hts _ qX4_author_19) (fun _ h9 => h9) rfl dX4_author_54 ?_
      refine va_getN (D := D) (ci := 2) (v := .ref (a 0 10)) (C := RX2) (T := TX2) (N := 16) hx hb hts iX4_author_X2 hown hK.1 (z_subP hP (z_inS (by decide))) 0 rfl rfl 13 (by decide) (va_Nw.use rfl (hK.2.1 _ zF_X4_96)) (fun _ h9 => h9) rfl dX4_author_57 ?_
      refine lv_iload_n hx hb dX4_author_60 rfl (lv_at hl 1 rfl) ?_
      obtain ⟨b5, hf⟩ := z_ckE hf
      refine va_iald hx hb hK.1 (z_subP hP (z_inS (by decide))) 10 0 rfl rfl (z_inE b5) dX4_author_61 ?_
      exact z_rp (wf := (z_dw c b a)) hx hb hr hlocks hP hD hS hf dX4_author_62
    have hf := z_ifF hf c3_1
    by_cases c3_2 : p2 = (2 : Int32)
    · have hf := z_ifT hf c3_2
      refine lv_tableIn (tgt := 63) hx hb dX4_author_18 (by rw [c3_2]; decide) (by rw [c3_2]; decide) (off := 45) (by rw [c3_2]; rfl) (by decide) ?_
      refine lv_aload_n hx hb dX4_author_63 rfl (lv_at hl 0 rfl) ?_
      refine va_get (D := D) (ci := 4) (v := .ref (a 0 0)) (C := RX4) (T := TX4) (N := 7) hx hb hts iX4_author_X4 hown hK.1 hP 0 rfl rfl 1 (by decide) (hts _ qX4_author_19) (fun _ h9 => h9) rfl dX4_author_64 ?_
      refine va_getN (D := D) (ci := 2) (v := .ref (a 0 11)) (C := RX2) (T := TX2) (N := 16) hx hb hts iX4_author_X2 hown hK.1 (z_subP hP (z_inS (by decide))) 0 rfl rfl 14 (by decide) (va_Nw.use rfl (hK.2.1 _ zF_X4_104)) (fun _ h9 => h9) rfl dX4_author_67 ?_
      refine lv_iload_n hx hb dX4_author_70 rfl (lv_at hl 1 rfl) ?_
      obtain ⟨b6, hf⟩ := z_ckE hf
      refine va_iald hx hb hK.1 (z_subP hP (z_inS (by decide))) 11 0 rfl rfl (z_inE b6) dX4_author_71 ?_
      exact z_rp (wf := (z_dw c b a)) hx hb hr hlocks hP hD hS hf dX4_author_72
    have hf := z_ifF hf c3_2
    refine lv_tableOut (tgt := 73) hx hb dX4_author_18 (z_sw0_2 c3_0 c3_1 c3_2) (by decide) ?_
    cases hf
  · have hf := z_ifT hf c2
    cases hf
abbrev rmX4_at : Room := { frames := 2, cells := 0, slots := 0, locals := 43 }
theorem qX4_at_19 : Cond.fieldLink RX4 19 "ProgramDrum" "now" "LProgramDrum$State;" ∈ wsX4_at := by decide +kernel
theorem iX4_at_X4 : ∀ w ∈ wsX40, w ∈ wsX4_at := by decide +kernel
set_option maxRecDepth 100000 in
set_option maxHeartbeats 4000000 in
theorem kX4_at (l : Launch) (D : va_G) (c : Nat → ClassId) (N : Nat) (b : Nat → Nat) (a : Nat → Nat → Nat) (sz : Nat) (X : z_X) (p1 : Int32) (r0 : Int32) (hf : nX4_at N p1 X = some r0) : Met l yX4_at wsX4_at rmX4_at (z_Pc D c sz (z_dw c b a X) [.ref (b 0), .int p1]) (z_Qi D (z_dw c b a) r0 X (va_A (z_dw c b a X) sz)) 0 0 (va_A (z_dw c b a X) sz) := by
  refine z_ofM (cc := cX4_at) (maxL := 2) (ret := (some .int)) (Qf := fun A => z_Qi D (z_dw c b a) r0 X A) (plainFor_of_name (by decide)) rfl (Nat.le_of_ble_eq_true rfl) ?_
  intro p e s m args below meth co A ls hx hb hr hml hts hown hlocks hnm hA hP hK hD hl hsz
  have hl : lv_has ls 2 [(0, .ref (b 0)), (1, .int p1)] := hl
  have hown : s.vm.findClass RX4 = some m.cls := hown
  obtain ⟨H, hH⟩ : ∃ H, H = s.heap := ⟨_, rfl⟩
  have hS : va_S A s.heap H [] := by rw [hH]; exact va_S.rf
  rw [← hH] at hP ⊢
  clear hH
  unfold nX4_at at hf
  generalize ([] : List Loc) = locs at hS ⊢
  refine lv_aload_n hx hb dX4_at_0 rfl (lv_at hl 0 rfl) ?_
  refine va_get (D := D) (ci := 4) (v := .ref (a 0 0)) (C := RX4) (T := TX4) (N := 7) hx hb hts iX4_at_X4 hown hK.1 hP 0 rfl rfl 1 (by decide) (hts _ qX4_at_19) (fun _ h9 => h9) rfl dX4_at_1 ?_
  refine lv_iload_n hx hb dX4_at_4 rfl (lv_at hl 1 rfl) ?_
  obtain ⟨r1, h1, hf⟩ := z_bE hf
  refine z_xVi (As := [.int p1]) (rest := []) (wf := z_st c (a 0)) (g := (X.2.2 0)) (u0 := (X.2.2 0)) ⟨hx, hb, hml, hown, hts⟩ (kX2_hasPlace l D c N (a 0) H.size (X.2.2 0) p1 r1 h1) (cwV 1 hts gX4_at_X2_hasPlace rfl rfl rfl (by decide +kernel) ⟨Nat.le_of_ble_eq_true rfl, Nat.le_of_ble_eq_true rfl⟩) hP hK hD hS hA (z_cutSp hD (by decide)) (ci := 2) (q0 := 0) rfl rfl rfl rfl hl.1 (Nat.le_of_ble_eq_true rfl) rfl dX4_at_5 ⟨Nat.zero_le _, Nat.zero_le _⟩ (fun H locs hP hD hS => ?_)
  refine lv_if_ne (tgt := 21) hx hb dX4_at_8 (by decide) (fun c2 => ?_) (fun c2 => ?_)
  · have hf := z_ifF hf c2
    refine lv_aload_n hx hb dX4_at_21 rfl (lv_at hl 0 rfl) ?_
    refine va_get (D := D) (ci := 4) (v := .ref (a 0 0)) (C := RX4) (T := TX4) (N := 7) hx hb hts iX4_at_X4 hown hK.1 hP 0 rfl rfl 1 (by decide) (hts _ qX4_at_19) (fun _ h9 => h9) rfl dX4_at_22 ?_
    refine lv_iload_n hx hb dX4_at_25 rfl (lv_at hl 1 rfl) ?_
    obtain ⟨r3, h3, hf⟩ := z_bE hf
    refine z_xVi (As := [.int p1]) (rest := []) (wf := z_st c (a 0)) (g := (X.2.2 0)) (u0 := (X.2.2 0)) ⟨hx, hb, hml, hown, hts⟩ (kX2_orderOn l D c N (a 0) H.size (X.2.2 0) p1 r3 h3) (cwV 1 hts gX4_at_X2_orderOn rfl rfl rfl (by decide +kernel) ⟨Nat.le_of_ble_eq_true rfl, Nat.le_of_ble_eq_true rfl⟩) hP hK hD hS hA (z_cutSp hD (by decide)) (ci := 2) (q0 := 0) rfl rfl rfl rfl hl.1 (Nat.le_of_ble_eq_true rfl) rfl dX4_at_26 ⟨Nat.zero_le _, Nat.zero_le _⟩ (fun H locs hP hD hS => ?_)
    exact z_rp (wf := (z_dw c b a)) hx hb hr hlocks hP hD hS hf dX4_at_29
  · have hf := z_ifT hf c2
    cases hf
abbrev rmX4_jump : Room := { frames := 1, cells := 0, slots := 0, locals := 22 }
theorem qX4_jump_19 : Cond.fieldLink RX4 19 "ProgramDrum" "now" "LProgramDrum$State;" ∈ wsX4_jump := by decide +kernel
theorem iX4_jump_X4 : ∀ w ∈ wsX40, w ∈ wsX4_jump := by decide +kernel
theorem iX4_jump_X2 : ∀ w ∈ wsX20, w ∈ wsX4_jump := by decide +kernel
set_option maxRecDepth 100000 in
set_option maxHeartbeats 4000000 in
theorem kX4_jump (l : Launch) (D : va_G) (c : Nat → ClassId) (N : Nat) (b : Nat → Nat) (a : Nat → Nat → Nat) (sz : Nat) (X : z_X) (p1 : Int32) (p2 : Int32) (r0 : Int32) (hf : nX4_jump N p1 p2 X = some r0) : Met l yX4_jump wsX4_jump rmX4_jump (z_Pc D c sz (z_dw c b a X) [.ref (b 0), .int p1, .int p2]) (z_Qi D (z_dw c b a) r0 X (va_A (z_dw c b a X) sz)) 0 0 (va_A (z_dw c b a X) sz) := by
  refine z_ofM (cc := cX4_jump) (maxL := 3) (ret := (some .int)) (Qf := fun A => z_Qi D (z_dw c b a) r0 X A) (plainFor_of_name (by decide)) rfl (Nat.le_of_ble_eq_true rfl) ?_
  intro p e s m args below meth co A ls hx hb hr hml hts hown hlocks hnm hA hP hK hD hl hsz
  have hl : lv_has ls 3 [(0, .ref (b 0)), (1, .int p1), (2, .int p2)] := hl
  have hown : s.vm.findClass RX4 = some m.cls := hown
  obtain ⟨H, hH⟩ : ∃ H, H = s.heap := ⟨_, rfl⟩
  have hS : va_S A s.heap H [] := by rw [hH]; exact va_S.rf
  rw [← hH] at hP ⊢
  clear hH
  unfold nX4_jump at hf
  generalize ([] : List Loc) = locs at hS ⊢
  refine lv_iload_n hx hb dX4_jump_0 rfl (lv_at hl 1 rfl) ?_
  refine lv_if_lt (tgt := 13) hx hb dX4_jump_1 (by decide) (fun c1 => ?_) (fun c1 => ?_)
  · have hf := z_ifT hf c1
    cases hf
  · have hf := z_ifF hf c1
    refine lv_iload_n hx hb dX4_jump_4 rfl (lv_at hl 2 rfl) ?_
    refine lv_if_lt (tgt := 13) hx hb dX4_jump_5 (by decide) (fun c2 => ?_) (fun c2 => ?_)
    · have hf := z_ifT hf c2
      cases hf
    · have hf := z_ifF hf c2
      refine lv_iload_n hx hb dX4_jump_8 rfl (lv_at hl 2 rfl) ?_
      refine lv_iconst (v := (2 : Int32)) hx hb dX4_jump_9 (by decide) ?_
      refine lv_icmp_le (tgt := 23) hx hb dX4_jump_10 (by decide) (fun c3 => ?_) (fun c3 => ?_)
      · have hf := z_ifT hf c3
        refine lv_aload_n hx hb dX4_jump_23 rfl (lv_at hl 0 rfl) ?_
        refine va_get (D := D) (ci := 4) (v := .ref (a 0 0)) (C := RX4) (T := TX4) (N := 7) hx hb hts iX4_jump_X4 hown hK.1 hP 0 rfl rfl 1 (by decide) (hts _ qX4_jump_19) (fun _ h9 => h9) rfl dX4_jump_24 ?_
        refine va_getN (D := D) (ci := 2) (v := .ref (a 0 12)) (C := RX2) (T := TX2) (N := 16) hx hb hts iX4_jump_X2 hown hK.1 (z_subP hP (z_inS (by decide))) 0 rfl rfl 15 (by decide) (va_Nw.use rfl (hK.2.1 _ zF_X4_110)) (fun _ h9 => h9) rfl dX4_jump_27 ?_
        refine lv_iload_n hx hb dX4_jump_30 rfl (lv_at hl 1 rfl) ?_
        refine lv_iload_n hx hb dX4_jump_31 rfl (lv_at hl 2 rfl) ?_
        obtain ⟨r4, h4, hf⟩ := z_bE hf
        refine z_xVi (As := [.int p1, .int p2]) (rest := []) (wf := z_st c (a 0)) (g := (X.2.2 0)) (u0 := (X.2.2 0)) ⟨hx, hb, hml, hown, hts⟩ (kX0_number l D c N (a 0) H.size (X.2.2 0) p1 p2 r4 h4) (cwV 2 hts gX4_jump_X0_number rfl rfl rfl (by decide +kernel) ⟨Nat.le_of_ble_eq_true rfl, Nat.le_of_ble_eq_true rfl⟩) hP hK hD hS hA (z_cutSp hD (by decide)) (ci := 0) (q0 := 12) rfl rfl rfl rfl hl.1 (Nat.le_of_ble_eq_true rfl) rfl dX4_jump_32 ⟨Nat.zero_le _, Nat.zero_le _⟩ (fun H locs hP hD hS => ?_)
        exact z_rp (wf := (z_dw c b a)) hx hb hr hlocks hP hD hS hf dX4_jump_35
      · have hf := z_ifF hf c3
        cases hf
abbrev rmX4_setDrum : Room := { frames := 4, cells := 0, slots := 0, locals := 86 }
theorem qX4_setDrum_32 : Cond.fieldLink RX4 32 "ProgramDrum" "memory" "LProgramDrum$Memory;" ∈ wsX4_setDrum := by decide +kernel
theorem iX4_setDrum_X4 : ∀ w ∈ wsX40, w ∈ wsX4_setDrum := by decide +kernel
theorem qX4_setDrum_19 : Cond.fieldLink RX4 19 "ProgramDrum" "now" "LProgramDrum$State;" ∈ wsX4_setDrum := by decide +kernel
theorem iX4_setDrum_X2 : ∀ w ∈ wsX20, w ∈ wsX4_setDrum := by decide +kernel
set_option maxRecDepth 100000 in
set_option maxHeartbeats 4000000 in
theorem kX4_setDrum (l : Launch) (D : va_G) (c : Nat → ClassId) (N : Nat) (b : Nat → Nat) (a : Nat → Nat → Nat) (sz : Nat) (X : z_X) (p1 : Int32) (r0 : Int32) (g0 : z_X) (hf : nX4_setDrum N p1 X = some (r0, g0)) : Met l yX4_setDrum wsX4_setDrum rmX4_setDrum (z_Pc D c sz (z_dw c b a X) [.ref (b 0), .int p1]) (z_Qi D (z_dw c b a) r0 g0 (va_A (z_dw c b a X) sz)) 0 0 (va_A (z_dw c b a X) sz) := by
  refine z_ofM (cc := cX4_setDrum) (maxL := 3) (ret := (some .int)) (Qf := fun A => z_Qi D (z_dw c b a) r0 g0 A) (plainFor_of_name (by decide)) rfl (Nat.le_of_ble_eq_true rfl) ?_
  intro p e s m args below meth co A ls hx hb hr hml hts hown hlocks hnm hA hP hK hD hl hsz
  have hl : lv_has ls 3 [(0, .ref (b 0)), (1, .int p1)] := hl
  have hown : s.vm.findClass RX4 = some m.cls := hown
  obtain ⟨H, hH⟩ : ∃ H, H = s.heap := ⟨_, rfl⟩
  have hS : va_S A s.heap H [] := by rw [hH]; exact va_S.rf
  rw [← hH] at hP ⊢
  clear hH
  unfold nX4_setDrum at hf
  generalize ([] : List Loc) = locs at hS ⊢
  refine lv_iload_n hx hb dX4_setDrum_0 rfl (lv_at hl 1 rfl) ?_
  refine lv_bipush (v := (6 : Int32)) hx hb dX4_setDrum_1 (by decide) ?_
  refine lv_icmp_lt (tgt := 12) hx hb dX4_setDrum_3 (by decide) (fun c1 => ?_) (fun c1 => ?_)
  · have hf := z_ifT hf c1
    cases hf
  · have hf := z_ifF hf c1
    refine lv_iload_n hx hb dX4_setDrum_6 rfl (lv_at hl 1 rfl) ?_
    refine lv_bipush (v := (40 : Int32)) hx hb dX4_setDrum_7 (by decide) ?_
    refine lv_icmp_le (tgt := 22) hx hb dX4_setDrum_9 (by decide) (fun c2 => ?_) (fun c2 => ?_)
    · have hf := z_ifT hf c2
      refine lv_aload_n hx hb dX4_setDrum_22 rfl (lv_at hl 0 rfl) ?_
      refine va_get (D := D) (ci := 4) (v := .ref (b 3)) (C := RX4) (T := TX4) (N := 7) hx hb hts iX4_setDrum_X4 hown hK.1 hP 0 rfl rfl 4 (by decide) (hts _ qX4_setDrum_32) (fun _ h9 => h9) rfl dX4_setDrum_23 ?_
      refine lv_aload_n hx hb dX4_setDrum_26 rfl (lv_at hl 0 rfl) ?_
      refine va_get (D := D) (ci := 4) (v := .ref (a 0 0)) (C := RX4) (T := TX4) (N := 7) hx hb hts iX4_setDrum_X4 hown hK.1 hP 0 rfl rfl 1 (by decide) (hts _ qX4_setDrum_19) (fun _ h9 => h9) rfl dX4_setDrum_27 ?_
      obtain ⟨X3, h3, hf⟩ := z_bE hf
      refine z_cVv (As := [.ref (a 0 0)]) (rest := []) (wf := (z_dw c b a)) (g := X) (u0 := X3) ⟨hx, hb, hml, hown, hts⟩ (kX1_remember l D c N b a H.size X  X3 h3) (cwV 1 hts gX4_setDrum_X1_remember rfl rfl rfl (by decide +kernel) ⟨Nat.le_of_ble_eq_true rfl, Nat.le_of_ble_eq_true rfl⟩) hP hK hD hS hA (ci := 1) (q0 := 3) rfl rfl rfl rfl hl.1 (Nat.le_of_ble_eq_true rfl) rfl dX4_setDrum_30 ⟨Nat.zero_le _, Nat.zero_le _⟩ (fun H locs hP hD hS => ?_)
      refine lv_aload_n hx hb dX4_setDrum_33 rfl (lv_at hl 0 rfl) ?_
      refine va_get (D := D) (ci := 4) (v := .ref (a 0 0)) (C := RX4) (T := TX4) (N := 7) hx hb hts iX4_setDrum_X4 hown hK.1 hP 0 rfl rfl 1 (by decide) (hts _ qX4_setDrum_19) (fun _ h9 => h9) rfl dX4_setDrum_34 ?_
      refine va_getN (D := D) (ci := 2) (v := .int (X3.2.2 0 0 0)) (C := RX2) (T := TX2) (N := 16) hx hb hts iX4_setDrum_X2 hown hK.1 (z_subP hP (z_inS (by decide))) 0 rfl rfl 0 (by decide) (va_Nw.use rfl (hK.2.1 _ zF_X4_84)) (fun _ h9 => h9) rfl dX4_setDrum_37 ?_
      refine lv_istore_n (lv' := [(2, .int (X3.2.2 0 0 0)), (0, .ref (b 0)), (1, .int p1)]) hx hb dX4_setDrum_40 rfl hl (by decide) rfl (fun ls hl => ?_)
      refine lv_aload_n hx hb dX4_setDrum_41 rfl (lv_at hl 1 rfl) ?_
      refine va_get (D := D) (ci := 4) (v := .ref (a 0 0)) (C := RX4) (T := TX4) (N := 7) hx hb hts iX4_setDrum_X4 hown hK.1 hP 0 rfl rfl 1 (by decide) (hts _ qX4_setDrum_19) (fun _ h9 => h9) rfl dX4_setDrum_42 ?_
      obtain ⟨u4, h4, hf⟩ := z_bE hf
      refine z_xVv (As := []) (rest := []) (wf := z_st c (a 0)) (g := (X3.2.2 0)) (u0 := u4) ⟨hx, hb, hml, hown, hts⟩ (kX2_takeAllOff l D c N (a 0) H.size (X3.2.2 0)  u4 h4) (cwV 0 hts gX4_setDrum_X2_takeAllOff rfl rfl rfl (by decide +kernel) ⟨Nat.le_of_ble_eq_true rfl, Nat.le_of_ble_eq_true rfl⟩) hP hK hD hS hA (z_cutS hD (by decide) u4) (ci := 2) (q0 := 0) rfl rfl rfl rfl hl.1 (Nat.le_of_ble_eq_true rfl) rfl dX4_setDrum_45 ⟨Nat.zero_le _, Nat.zero_le _⟩ (fun H locs hP hD hS => ?_)
      obtain ⟨X5, e5, hf⟩ := z_ltE hf
      have hP : va_P D vwCl (z_dw c b a X5) H := by rw [e5]; exact hP
      have hD : va_D A (z_dw c b a X5) := by rw [e5]; exact hD
      clear e5
      refine lv_aload_n hx hb dX4_setDrum_48 rfl (lv_at hl 1 rfl) ?_
      refine va_get (D := D) (ci := 4) (v := .ref (a 0 0)) (C := RX4) (T := TX4) (N := 7) hx hb hts iX4_setDrum_X4 hown hK.1 hP 0 rfl rfl 1 (by decide) (hts _ qX4_setDrum_19) (fun _ h9 => h9) rfl dX4_setDrum_49 ?_
      refine lv_iload_n hx hb dX4_setDrum_52 rfl (lv_at hl 2 rfl) ?_
      refine va_putN (D := D) (ci := 2) (v := .int p1) (ty := .int) (C := RX2) (T := TX2) (N := 16) hx hb hts iX4_setDrum_X2 tyX2 tyX2_ok nmX2 hown hK.1 hP hD hS 7 rfl rfl 0 (by decide) (va_Nw.use rfl (hK.2.1 _ zF_X4_84)) (fun _ h9 => h9) rfl (by decide +kernel) rfl rfl (Nat.le_of_ble_eq_true rfl) dX4_setDrum_53 (fun H locs hP hD hS => ?_)
      obtain ⟨X6, e6, hf⟩ := z_ltE hf
      have hP : va_P D vwCl (z_dw c b a X6) H := by rw [e6, ← z_put0_0]; exact hP
      have hD : va_D A (z_dw c b a X6) := by rw [e6, ← z_put0_0]; exact hD
      clear e6
      refine lv_iload_n hx hb dX4_setDrum_56 rfl (lv_at hl 0 rfl) ?_
      exact z_ri (wf := (z_dw c b a)) hx hb hr hlocks hP hD hS hf dX4_setDrum_57
    · have hf := z_ifF hf c2
      cases hf
abbrev rmX4_addOrder : Room := { frames := 3, cells := 0, slots := 0, locals := 65 }
theorem qX4_addOrder_19 : Cond.fieldLink RX4 19 "ProgramDrum" "now" "LProgramDrum$State;" ∈ wsX4_addOrder := by decide +kernel
theorem iX4_addOrder_X4 : ∀ w ∈ wsX40, w ∈ wsX4_addOrder := by decide +kernel
theorem iX4_addOrder_X2 : ∀ w ∈ wsX20, w ∈ wsX4_addOrder := by decide +kernel
theorem qX4_addOrder_32 : Cond.fieldLink RX4 32 "ProgramDrum" "memory" "LProgramDrum$Memory;" ∈ wsX4_addOrder := by decide +kernel
set_option maxRecDepth 100000 in
set_option maxHeartbeats 4000000 in
theorem kX4_addOrder (l : Launch) (D : va_G) (c : Nat → ClassId) (N : Nat) (b : Nat → Nat) (a : Nat → Nat → Nat) (sz : Nat) (X : z_X) (p1 : Int32) (p2 : Int32) (p3 : Int32) (p4 : Int32) (p5 : Int32) (r0 : Int32) (g0 : z_X) (hf : nX4_addOrder N p1 p2 p3 p4 p5 X = some (r0, g0)) : Met l yX4_addOrder wsX4_addOrder rmX4_addOrder (z_Pc D c sz (z_dw c b a X) [.ref (b 0), .int p1, .int p2, .int p3, .int p4, .int p5]) (z_Qi D (z_dw c b a) r0 g0 (va_A (z_dw c b a X) sz)) 0 0 (va_A (z_dw c b a X) sz) := by
  refine z_ofM (cc := cX4_addOrder) (maxL := 6) (ret := (some .int)) (Qf := fun A => z_Qi D (z_dw c b a) r0 g0 A) (plainFor_of_name (by decide)) rfl (Nat.le_of_ble_eq_true rfl) ?_
  intro p e s m args below meth co A ls hx hb hr hml hts hown hlocks hnm hA hP hK hD hl hsz
  have hl : lv_has ls 6 [(0, .ref (b 0)), (1, .int p1), (2, .int p2), (3, .int p3), (4, .int p4), (5, .int p5)] := hl
  have hown : s.vm.findClass RX4 = some m.cls := hown
  obtain ⟨H, hH⟩ : ∃ H, H = s.heap := ⟨_, rfl⟩
  have hS : va_S A s.heap H [] := by rw [hH]; exact va_S.rf
  rw [← hH] at hP ⊢
  clear hH
  unfold nX4_addOrder at hf
  generalize ([] : List Loc) = locs at hS ⊢
  refine lv_iload_n hx hb dX4_addOrder_0 rfl (lv_at hl 1 rfl) ?_
  obtain ⟨r1, h1, hf⟩ := z_bE hf
  refine z_cSi (As := [.int p1]) (rest := []) ⟨hx, hb, hml, hown, hts⟩ (kX4_isAuthor l D c N H.size p1 r1 h1) (va_cwS 1 hts gX4_addOrder_X4_isAuthor rfl rfl rfl (by decide +kernel) ⟨Nat.le_of_ble_eq_true rfl, Nat.le_of_ble_eq_true rfl⟩) hP hK hS hA rfl hl.1 (Nat.le_of_ble_eq_true rfl) rfl dX4_addOrder_1 ⟨Nat.zero_le _, Nat.zero_le _⟩ (fun H locs hP hS => ?_)
  refine lv_if_eq (tgt := 37) hx hb dX4_addOrder_4 (by decide) (fun c2 => ?_) (fun c2 => ?_)
  · have hf := z_ifT hf c2
    cases hf
  · have hf := z_ifF hf c2
    refine lv_iload_n hx hb dX4_addOrder_7 rfl (lv_at hl 2 rfl) ?_
    obtain ⟨r3, h3, hf⟩ := z_bE hf
    refine z_cSi (As := [.int p2]) (rest := []) ⟨hx, hb, hml, hown, hts⟩ (kX4_isWork l D c N H.size p2 r3 h3) (va_cwS 1 hts gX4_addOrder_X4_isWork rfl rfl rfl (by decide +kernel) ⟨Nat.le_of_ble_eq_true rfl, Nat.le_of_ble_eq_true rfl⟩) hP hK hS hA rfl hl.1 (Nat.le_of_ble_eq_true rfl) rfl dX4_addOrder_8 ⟨Nat.zero_le _, Nat.zero_le _⟩ (fun H locs hP hS => ?_)
    refine lv_if_eq (tgt := 37) hx hb dX4_addOrder_11 (by decide) (fun c4 => ?_) (fun c4 => ?_)
    · have hf := z_ifT hf c4
      cases hf
    · have hf := z_ifF hf c4
      refine lv_iload_n hx hb dX4_addOrder_14 rfl (lv_at hl 3 rfl) ?_
      obtain ⟨r5, h5, hf⟩ := z_bE hf
      refine z_cSi (As := [.int p3]) (rest := []) ⟨hx, hb, hml, hown, hts⟩ (kX4_isLink l D c N H.size p3 r5 h5) (va_cwS 1 hts gX4_addOrder_X4_isLink rfl rfl rfl (by decide +kernel) ⟨Nat.le_of_ble_eq_true rfl, Nat.le_of_ble_eq_true rfl⟩) hP hK hS hA rfl hl.1 (Nat.le_of_ble_eq_true rfl) rfl dX4_addOrder_15 ⟨Nat.zero_le _, Nat.zero_le _⟩ (fun H locs hP hS => ?_)
      refine lv_if_eq (tgt := 37) hx hb dX4_addOrder_18 (by decide) (fun c6 => ?_) (fun c6 => ?_)
      · have hf := z_ifT hf c6
        cases hf
      · have hf := z_ifF hf c6
        refine lv_iload hx hb dX4_addOrder_21 (lv_at hl 4 rfl) ?_
        obtain ⟨r7, h7, hf⟩ := z_bE hf
        refine z_cSi (As := [.int p4]) (rest := []) ⟨hx, hb, hml, hown, hts⟩ (kX4_isLink l D c N H.size p4 r7 h7) (va_cwS 1 hts gX4_addOrder_X4_isLink rfl rfl rfl (by decide +kernel) ⟨Nat.le_of_ble_eq_true rfl, Nat.le_of_ble_eq_true rfl⟩) hP hK hS hA rfl hl.1 (Nat.le_of_ble_eq_true rfl) rfl dX4_addOrder_23 ⟨Nat.zero_le _, Nat.zero_le _⟩ (fun H locs hP hS => ?_)
        refine lv_if_eq (tgt := 37) hx hb dX4_addOrder_26 (by decide) (fun c8 => ?_) (fun c8 => ?_)
        · have hf := z_ifT hf c8
          cases hf
        · have hf := z_ifF hf c8
          refine lv_iload hx hb dX4_addOrder_29 (lv_at hl 5 rfl) ?_
          obtain ⟨r9, h9, hf⟩ := z_bE hf
          refine z_cSi (As := [.int p5]) (rest := []) ⟨hx, hb, hml, hown, hts⟩ (kX4_isBribe l D c N H.size p5 r9 h9) (va_cwS 1 hts gX4_addOrder_X4_isBribe rfl rfl rfl (by decide +kernel) ⟨Nat.le_of_ble_eq_true rfl, Nat.le_of_ble_eq_true rfl⟩) hP hK hS hA rfl hl.1 (Nat.le_of_ble_eq_true rfl) rfl dX4_addOrder_31 ⟨Nat.zero_le _, Nat.zero_le _⟩ (fun H locs hP hS => ?_)
          refine lv_if_ne (tgt := 47) hx hb dX4_addOrder_34 (by decide) (fun c10 => ?_) (fun c10 => ?_)
          · have hf := z_ifF hf c10
            refine lv_aload_n hx hb dX4_addOrder_47 rfl (lv_at hl 0 rfl) ?_
            refine va_get (D := D) (ci := 4) (v := .ref (a 0 0)) (C := RX4) (T := TX4) (N := 7) hx hb hts iX4_addOrder_X4 hown hK.1 hP 0 rfl rfl 1 (by decide) (hts _ qX4_addOrder_19) (fun _ h9 => h9) rfl dX4_addOrder_48 ?_
            refine va_getN (D := D) (ci := 2) (v := .int (X.2.2 0 0 1)) (C := RX2) (T := TX2) (N := 16) hx hb hts iX4_addOrder_X2 hown hK.1 (z_subP hP (z_inS (by decide))) 0 rfl rfl 1 (by decide) (va_Nw.use rfl (hK.2.1 _ zF_X4_80)) (fun _ h9 => h9) rfl dX4_addOrder_51 ?_
            refine lv_bipush (v := (16 : Int32)) hx hb dX4_addOrder_54 (by decide) ?_
            refine lv_icmp_lt (tgt := 69) hx hb dX4_addOrder_56 (by decide) (fun c11 => ?_) (fun c11 => ?_)
            · have hf := z_ifT hf c11
              refine lv_aload_n hx hb dX4_addOrder_69 rfl (lv_at hl 0 rfl) ?_
              refine va_get (D := D) (ci := 4) (v := .ref (b 3)) (C := RX4) (T := TX4) (N := 7) hx hb hts iX4_addOrder_X4 hown hK.1 hP 0 rfl rfl 4 (by decide) (hts _ qX4_addOrder_32) (fun _ h9 => h9) rfl dX4_addOrder_70 ?_
              refine lv_aload_n hx hb dX4_addOrder_73 rfl (lv_at hl 0 rfl) ?_
              refine va_get (D := D) (ci := 4) (v := .ref (a 0 0)) (C := RX4) (T := TX4) (N := 7) hx hb hts iX4_addOrder_X4 hown hK.1 hP 0 rfl rfl 1 (by decide) (hts _ qX4_addOrder_19) (fun _ h9 => h9) rfl dX4_addOrder_74 ?_
              obtain ⟨X12, h12, hf⟩ := z_bE hf
              refine z_cVv (As := [.ref (a 0 0)]) (rest := []) (wf := (z_dw c b a)) (g := X) (u0 := X12) ⟨hx, hb, hml, hown, hts⟩ (kX1_remember l D c N b a H.size X  X12 h12) (cwV 1 hts gX4_addOrder_X1_remember rfl rfl rfl (by decide +kernel) ⟨Nat.le_of_ble_eq_true rfl, Nat.le_of_ble_eq_true rfl⟩) hP hK hD hS hA (ci := 1) (q0 := 3) rfl rfl rfl rfl hl.1 (Nat.le_of_ble_eq_true rfl) rfl dX4_addOrder_77 ⟨Nat.zero_le _, Nat.zero_le _⟩ (fun H locs hP hD hS => ?_)
              refine lv_aload_n hx hb dX4_addOrder_80 rfl (lv_at hl 0 rfl) ?_
              refine va_get (D := D) (ci := 4) (v := .ref (a 0 0)) (C := RX4) (T := TX4) (N := 7) hx hb hts iX4_addOrder_X4 hown hK.1 hP 0 rfl rfl 1 (by decide) (hts _ qX4_addOrder_19) (fun _ h9 => h9) rfl dX4_addOrder_81 ?_
              refine lv_iload_n hx hb dX4_addOrder_84 rfl (lv_at hl 1 rfl) ?_
              refine lv_iload_n hx hb dX4_addOrder_85 rfl (lv_at hl 2 rfl) ?_
              refine lv_iload_n hx hb dX4_addOrder_86 rfl (lv_at hl 3 rfl) ?_
              refine lv_iload hx hb dX4_addOrder_87 (lv_at hl 4 rfl) ?_
              refine lv_iload hx hb dX4_addOrder_89 (lv_at hl 5 rfl) ?_
              obtain ⟨r13, u13, h13, hf⟩ := z_b2E hf
              refine z_xVi (As := [.int p1, .int p2, .int p3, .int p4, .int p5]) (rest := []) (wf := z_st c (a 0)) (g := (X12.2.2 0)) (u0 := u13) ⟨hx, hb, hml, hown, hts⟩ (kX2_addNew l D c N (a 0) H.size (X12.2.2 0) p1 p2 p3 p4 p5 r13 u13 h13) (cwV 5 hts gX4_addOrder_X2_addNew rfl rfl rfl (by decide +kernel) ⟨Nat.le_of_ble_eq_true rfl, Nat.le_of_ble_eq_true rfl⟩) hP hK hD hS hA (z_cutS hD (by decide) u13) (ci := 2) (q0 := 0) rfl rfl rfl rfl hl.1 (Nat.le_of_ble_eq_true rfl) rfl dX4_addOrder_91 ⟨Nat.zero_le _, Nat.zero_le _⟩ (fun H locs hP hD hS => ?_)
              obtain ⟨X14, e14, hf⟩ := z_ltE hf
              have hP : va_P D vwCl (z_dw c b a X14) H := by rw [e14]; exact hP
              have hD : va_D A (z_dw c b a X14) := by rw [e14]; exact hD
              clear e14
              exact z_ri (wf := (z_dw c b a)) hx hb hr hlocks hP hD hS hf dX4_addOrder_94
            · have hf := z_ifF hf c11
              cases hf
          · have hf := z_ifT hf c10
            cases hf
abbrev rmX4_change : Room := { frames := 3, cells := 0, slots := 0, locals := 65 }
theorem qX4_change_19 : Cond.fieldLink RX4 19 "ProgramDrum" "now" "LProgramDrum$State;" ∈ wsX4_change := by decide +kernel
theorem iX4_change_X4 : ∀ w ∈ wsX40, w ∈ wsX4_change := by decide +kernel
theorem qX4_change_32 : Cond.fieldLink RX4 32 "ProgramDrum" "memory" "LProgramDrum$Memory;" ∈ wsX4_change := by decide +kernel
set_option maxRecDepth 100000 in
set_option maxHeartbeats 4000000 in
theorem kX4_change (l : Launch) (D : va_G) (c : Nat → ClassId) (N : Nat) (b : Nat → Nat) (a : Nat → Nat → Nat) (sz : Nat) (X : z_X) (p1 : Int32) (p2 : Int32) (p3 : Int32) (r0 : Int32) (g0 : z_X) (hf : nX4_change N p1 p2 p3 X = some (r0, g0)) : Met l yX4_change wsX4_change rmX4_change (z_Pc D c sz (z_dw c b a X) [.ref (b 0), .int p1, .int p2, .int p3]) (z_Qi D (z_dw c b a) r0 g0 (va_A (z_dw c b a X) sz)) 0 0 (va_A (z_dw c b a X) sz) := by
  refine z_ofM (cc := cX4_change) (maxL := 4) (ret := (some .int)) (Qf := fun A => z_Qi D (z_dw c b a) r0 g0 A) (plainFor_of_name (by decide)) rfl (Nat.le_of_ble_eq_true rfl) ?_
  intro p e s m args below meth co A ls hx hb hr hml hts hown hlocks hnm hA hP hK hD hl hsz
  have hl : lv_has ls 4 [(0, .ref (b 0)), (1, .int p1), (2, .int p2), (3, .int p3)] := hl
  have hown : s.vm.findClass RX4 = some m.cls := hown
  obtain ⟨H, hH⟩ : ∃ H, H = s.heap := ⟨_, rfl⟩
  have hS : va_S A s.heap H [] := by rw [hH]; exact va_S.rf
  rw [← hH] at hP ⊢
  clear hH
  unfold nX4_change at hf
  generalize ([] : List Loc) = locs at hS ⊢
  refine lv_aload_n hx hb dX4_change_0 rfl (lv_at hl 0 rfl) ?_
  refine va_get (D := D) (ci := 4) (v := .ref (a 0 0)) (C := RX4) (T := TX4) (N := 7) hx hb hts iX4_change_X4 hown hK.1 hP 0 rfl rfl 1 (by decide) (hts _ qX4_change_19) (fun _ h9 => h9) rfl dX4_change_1 ?_
  refine lv_iload_n hx hb dX4_change_4 rfl (lv_at hl 1 rfl) ?_
  obtain ⟨r1, h1, hf⟩ := z_bE hf
  refine z_xVi (As := [.int p1]) (rest := []) (wf := z_st c (a 0)) (g := (X.2.2 0)) (u0 := (X.2.2 0)) ⟨hx, hb, hml, hown, hts⟩ (kX2_has l D c N (a 0) H.size (X.2.2 0) p1 r1 h1) (cwV 1 hts gX4_change_X2_has rfl rfl rfl (by decide +kernel) ⟨Nat.le_of_ble_eq_true rfl, Nat.le_of_ble_eq_true rfl⟩) hP hK hD hS hA (z_cutSp hD (by decide)) (ci := 2) (q0 := 0) rfl rfl rfl rfl hl.1 (Nat.le_of_ble_eq_true rfl) rfl dX4_change_5 ⟨Nat.zero_le _, Nat.zero_le _⟩ (fun H locs hP hD hS => ?_)
  refine lv_if_ne (tgt := 21) hx hb dX4_change_8 (by decide) (fun c2 => ?_) (fun c2 => ?_)
  · have hf := z_ifF hf c2
    refine lv_iload_n hx hb dX4_change_21 rfl (lv_at hl 2 rfl) ?_
    refine lv_iload_n hx hb dX4_change_22 rfl (lv_at hl 3 rfl) ?_
    obtain ⟨r3, h3, hf⟩ := z_bE hf
    refine z_cSi (As := [.int p2, .int p3]) (rest := []) ⟨hx, hb, hml, hown, hts⟩ (kX4_isNumberOfOrder l D c N H.size p2 p3 r3 h3) (va_cwS 2 hts gX4_change_X4_isNumberOfOrder rfl rfl rfl (by decide +kernel) ⟨Nat.le_of_ble_eq_true rfl, Nat.le_of_ble_eq_true rfl⟩) hP hK hS hA rfl hl.1 (Nat.le_of_ble_eq_true rfl) rfl dX4_change_23 ⟨Nat.zero_le _, Nat.zero_le _⟩ (fun H locs hP hS => ?_)
    refine lv_if_ne (tgt := 39) hx hb dX4_change_26 (by decide) (fun c4 => ?_) (fun c4 => ?_)
    · have hf := z_ifF hf c4
      refine lv_aload_n hx hb dX4_change_39 rfl (lv_at hl 0 rfl) ?_
      refine va_get (D := D) (ci := 4) (v := .ref (b 3)) (C := RX4) (T := TX4) (N := 7) hx hb hts iX4_change_X4 hown hK.1 hP 0 rfl rfl 4 (by decide) (hts _ qX4_change_32) (fun _ h9 => h9) rfl dX4_change_40 ?_
      refine lv_aload_n hx hb dX4_change_43 rfl (lv_at hl 0 rfl) ?_
      refine va_get (D := D) (ci := 4) (v := .ref (a 0 0)) (C := RX4) (T := TX4) (N := 7) hx hb hts iX4_change_X4 hown hK.1 hP 0 rfl rfl 1 (by decide) (hts _ qX4_change_19) (fun _ h9 => h9) rfl dX4_change_44 ?_
      obtain ⟨X5, h5, hf⟩ := z_bE hf
      refine z_cVv (As := [.ref (a 0 0)]) (rest := []) (wf := (z_dw c b a)) (g := X) (u0 := X5) ⟨hx, hb, hml, hown, hts⟩ (kX1_remember l D c N b a H.size X  X5 h5) (cwV 1 hts gX4_change_X1_remember rfl rfl rfl (by decide +kernel) ⟨Nat.le_of_ble_eq_true rfl, Nat.le_of_ble_eq_true rfl⟩) hP hK hD hS hA (ci := 1) (q0 := 3) rfl rfl rfl rfl hl.1 (Nat.le_of_ble_eq_true rfl) rfl dX4_change_47 ⟨Nat.zero_le _, Nat.zero_le _⟩ (fun H locs hP hD hS => ?_)
      refine lv_aload_n hx hb dX4_change_50 rfl (lv_at hl 0 rfl) ?_
      refine va_get (D := D) (ci := 4) (v := .ref (a 0 0)) (C := RX4) (T := TX4) (N := 7) hx hb hts iX4_change_X4 hown hK.1 hP 0 rfl rfl 1 (by decide) (hts _ qX4_change_19) (fun _ h9 => h9) rfl dX4_change_51 ?_
      refine lv_iload_n hx hb dX4_change_54 rfl (lv_at hl 1 rfl) ?_
      refine lv_iload_n hx hb dX4_change_55 rfl (lv_at hl 2 rfl) ?_
      refine lv_iload_n hx hb dX4_change_56 rfl (lv_at hl 3 rfl) ?_
      obtain ⟨r6, u6, h6, hf⟩ := z_b2E hf
      refine z_xVi (As := [.int p1, .int p2, .int p3]) (rest := []) (wf := z_st c (a 0)) (g := (X5.2.2 0)) (u0 := u6) ⟨hx, hb, hml, hown, hts⟩ (kX2_replace l D c N (a 0) H.size (X5.2.2 0) p1 p2 p3 r6 u6 h6) (cwV 3 hts gX4_change_X2_replace rfl rfl rfl (by decide +kernel) ⟨Nat.le_of_ble_eq_true rfl, Nat.le_of_ble_eq_true rfl⟩) hP hK hD hS hA (z_cutS hD (by decide) u6) (ci := 2) (q0 := 0) rfl rfl rfl rfl hl.1 (Nat.le_of_ble_eq_true rfl) rfl dX4_change_57 ⟨Nat.zero_le _, Nat.zero_le _⟩ (fun H locs hP hD hS => ?_)
      obtain ⟨X7, e7, hf⟩ := z_ltE hf
      have hP : va_P D vwCl (z_dw c b a X7) H := by rw [e7]; exact hP
      have hD : va_D A (z_dw c b a X7) := by rw [e7]; exact hD
      clear e7
      exact z_ri (wf := (z_dw c b a)) hx hb hr hlocks hP hD hS hf dX4_change_60
    · have hf := z_ifT hf c4
      cases hf
  · have hf := z_ifT hf c2
    cases hf
abbrev rmX4_lay : Room := { frames := 5, cells := 0, slots := 0, locals := 112 }
theorem qX4_lay_32 : Cond.fieldLink RX4 32 "ProgramDrum" "memory" "LProgramDrum$Memory;" ∈ wsX4_lay := by decide +kernel
theorem iX4_lay_X4 : ∀ w ∈ wsX40, w ∈ wsX4_lay := by decide +kernel
theorem qX4_lay_19 : Cond.fieldLink RX4 19 "ProgramDrum" "now" "LProgramDrum$State;" ∈ wsX4_lay := by decide +kernel
set_option maxRecDepth 100000 in
set_option maxHeartbeats 4000000 in
theorem kX4_lay (l : Launch) (D : va_G) (c : Nat → ClassId) (N : Nat) (b : Nat → Nat) (a : Nat → Nat → Nat) (sz : Nat) (X : z_X) (r0 : Int32) (g0 : z_X) (hf : fX4_lay N X = some (r0, g0)) : Met l yX4_lay wsX4_lay rmX4_lay (z_Pc D c sz (z_dw c b a X) [.ref (b 0)]) (z_Qi D (z_dw c b a) r0 g0 (va_A (z_dw c b a X) sz)) 0 0 (va_A (z_dw c b a X) sz) := by
  refine z_ofM (cc := cX4_lay) (maxL := 1) (ret := (some .int)) (Qf := fun A => z_Qi D (z_dw c b a) r0 g0 A) (plainFor_of_name (by decide)) rfl (Nat.le_of_ble_eq_true rfl) ?_
  intro p e s m args below meth co A ls hx hb hr hml hts hown hlocks hnm hA hP hK hD hl hsz
  have hl : lv_has ls 1 [(0, .ref (b 0))] := hl
  have hown : s.vm.findClass RX4 = some m.cls := hown
  obtain ⟨H, hH⟩ : ∃ H, H = s.heap := ⟨_, rfl⟩
  have hS : va_S A s.heap H [] := by rw [hH]; exact va_S.rf
  rw [← hH] at hP ⊢
  clear hH
  unfold fX4_lay at hf
  generalize ([] : List Loc) = locs at hS ⊢
  refine lv_aload_n hx hb dX4_lay_0 rfl (lv_at hl 0 rfl) ?_
  refine va_get (D := D) (ci := 4) (v := .ref (b 3)) (C := RX4) (T := TX4) (N := 7) hx hb hts iX4_lay_X4 hown hK.1 hP 0 rfl rfl 4 (by decide) (hts _ qX4_lay_32) (fun _ h9 => h9) rfl dX4_lay_1 ?_
  refine lv_aload_n hx hb dX4_lay_4 rfl (lv_at hl 0 rfl) ?_
  refine va_get (D := D) (ci := 4) (v := .ref (a 0 0)) (C := RX4) (T := TX4) (N := 7) hx hb hts iX4_lay_X4 hown hK.1 hP 0 rfl rfl 1 (by decide) (hts _ qX4_lay_19) (fun _ h9 => h9) rfl dX4_lay_5 ?_
  obtain ⟨X1, h1, hf⟩ := z_bE hf
  refine z_cVv (As := [.ref (a 0 0)]) (rest := []) (wf := (z_dw c b a)) (g := X) (u0 := X1) ⟨hx, hb, hml, hown, hts⟩ (kX1_remember l D c N b a H.size X  X1 h1) (cwV 1 hts gX4_lay_X1_remember rfl rfl rfl (by decide +kernel) ⟨Nat.le_of_ble_eq_true rfl, Nat.le_of_ble_eq_true rfl⟩) hP hK hD hS hA (ci := 1) (q0 := 3) rfl rfl rfl rfl hl.1 (Nat.le_of_ble_eq_true rfl) rfl dX4_lay_8 ⟨Nat.zero_le _, Nat.zero_le _⟩ (fun H locs hP hD hS => ?_)
  refine lv_aload_n hx hb dX4_lay_11 rfl (lv_at hl 0 rfl) ?_
  refine va_get (D := D) (ci := 4) (v := .ref (a 0 0)) (C := RX4) (T := TX4) (N := 7) hx hb hts iX4_lay_X4 hown hK.1 hP 0 rfl rfl 1 (by decide) (hts _ qX4_lay_19) (fun _ h9 => h9) rfl dX4_lay_12 ?_
  obtain ⟨r2, u2, h2, hf⟩ := z_b2E hf
  refine z_xVi (As := []) (rest := []) (wf := z_st c (a 0)) (g := (X1.2.2 0)) (u0 := u2) ⟨hx, hb, hml, hown, hts⟩ (kX2_layAll l D c N (a 0) H.size (X1.2.2 0)  r2 u2 h2) (cwV 0 hts gX4_lay_X2_layAll rfl rfl rfl (by decide +kernel) ⟨Nat.le_of_ble_eq_true rfl, Nat.le_of_ble_eq_true rfl⟩) hP hK hD hS hA (z_cutS hD (by decide) u2) (ci := 2) (q0 := 0) rfl rfl rfl rfl hl.1 (Nat.le_of_ble_eq_true rfl) rfl dX4_lay_15 ⟨Nat.zero_le _, Nat.zero_le _⟩ (fun H locs hP hD hS => ?_)
  obtain ⟨X3, e3, hf⟩ := z_ltE hf
  have hP : va_P D vwCl (z_dw c b a X3) H := by rw [e3]; exact hP
  have hD : va_D A (z_dw c b a X3) := by rw [e3]; exact hD
  clear e3
  exact z_ri (wf := (z_dw c b a)) hx hb hr hlocks hP hD hS hf dX4_lay_18
abbrev rmX4_run : Room := { frames := 4, cells := 0, slots := 0, locals := 91 }
theorem qX4_run_19 : Cond.fieldLink RX4 19 "ProgramDrum" "now" "LProgramDrum$State;" ∈ wsX4_run := by decide +kernel
theorem iX4_run_X4 : ∀ w ∈ wsX40, w ∈ wsX4_run := by decide +kernel
theorem qX4_run_32 : Cond.fieldLink RX4 32 "ProgramDrum" "memory" "LProgramDrum$Memory;" ∈ wsX4_run := by decide +kernel
set_option maxRecDepth 100000 in
set_option maxHeartbeats 4000000 in
theorem kX4_run (l : Launch) (D : va_G) (c : Nat → ClassId) (N : Nat) (b : Nat → Nat) (a : Nat → Nat → Nat) (sz : Nat) (X : z_X) (p1 : Int32) (r0 : Int32) (g0 : z_X) (hf : nX4_run N p1 X = some (r0, g0)) : Met l yX4_run wsX4_run rmX4_run (z_Pc D c sz (z_dw c b a X) [.ref (b 0), .int p1]) (z_Qi D (z_dw c b a) r0 g0 (va_A (z_dw c b a X) sz)) 0 0 (va_A (z_dw c b a X) sz) := by
  refine z_ofM (cc := cX4_run) (maxL := 2) (ret := (some .int)) (Qf := fun A => z_Qi D (z_dw c b a) r0 g0 A) (plainFor_of_name (by decide)) rfl (Nat.le_of_ble_eq_true rfl) ?_
  intro p e s m args below meth co A ls hx hb hr hml hts hown hlocks hnm hA hP hK hD hl hsz
  have hl : lv_has ls 2 [(0, .ref (b 0)), (1, .int p1)] := hl
  have hown : s.vm.findClass RX4 = some m.cls := hown
  obtain ⟨H, hH⟩ : ∃ H, H = s.heap := ⟨_, rfl⟩
  have hS : va_S A s.heap H [] := by rw [hH]; exact va_S.rf
  rw [← hH] at hP ⊢
  clear hH
  unfold nX4_run at hf
  generalize ([] : List Loc) = locs at hS ⊢
  refine lv_aload_n hx hb dX4_run_0 rfl (lv_at hl 0 rfl) ?_
  refine va_get (D := D) (ci := 4) (v := .ref (a 0 0)) (C := RX4) (T := TX4) (N := 7) hx hb hts iX4_run_X4 hown hK.1 hP 0 rfl rfl 1 (by decide) (hts _ qX4_run_19) (fun _ h9 => h9) rfl dX4_run_1 ?_
  refine lv_iload_n hx hb dX4_run_4 rfl (lv_at hl 1 rfl) ?_
  obtain ⟨r1, h1, hf⟩ := z_bE hf
  refine z_xVi (As := [.int p1]) (rest := []) (wf := z_st c (a 0)) (g := (X.2.2 0)) (u0 := (X.2.2 0)) ⟨hx, hb, hml, hown, hts⟩ (kX2_has l D c N (a 0) H.size (X.2.2 0) p1 r1 h1) (cwV 1 hts gX4_run_X2_has rfl rfl rfl (by decide +kernel) ⟨Nat.le_of_ble_eq_true rfl, Nat.le_of_ble_eq_true rfl⟩) hP hK hD hS hA (z_cutSp hD (by decide)) (ci := 2) (q0 := 0) rfl rfl rfl rfl hl.1 (Nat.le_of_ble_eq_true rfl) rfl dX4_run_5 ⟨Nat.zero_le _, Nat.zero_le _⟩ (fun H locs hP hD hS => ?_)
  refine lv_if_ne (tgt := 21) hx hb dX4_run_8 (by decide) (fun c2 => ?_) (fun c2 => ?_)
  · have hf := z_ifF hf c2
    refine lv_aload_n hx hb dX4_run_21 rfl (lv_at hl 0 rfl) ?_
    refine va_get (D := D) (ci := 4) (v := .ref (b 3)) (C := RX4) (T := TX4) (N := 7) hx hb hts iX4_run_X4 hown hK.1 hP 0 rfl rfl 4 (by decide) (hts _ qX4_run_32) (fun _ h9 => h9) rfl dX4_run_22 ?_
    refine lv_aload_n hx hb dX4_run_25 rfl (lv_at hl 0 rfl) ?_
    refine va_get (D := D) (ci := 4) (v := .ref (a 0 0)) (C := RX4) (T := TX4) (N := 7) hx hb hts iX4_run_X4 hown hK.1 hP 0 rfl rfl 1 (by decide) (hts _ qX4_run_19) (fun _ h9 => h9) rfl dX4_run_26 ?_
    obtain ⟨X3, h3, hf⟩ := z_bE hf
    refine z_cVv (As := [.ref (a 0 0)]) (rest := []) (wf := (z_dw c b a)) (g := X) (u0 := X3) ⟨hx, hb, hml, hown, hts⟩ (kX1_remember l D c N b a H.size X  X3 h3) (cwV 1 hts gX4_run_X1_remember rfl rfl rfl (by decide +kernel) ⟨Nat.le_of_ble_eq_true rfl, Nat.le_of_ble_eq_true rfl⟩) hP hK hD hS hA (ci := 1) (q0 := 3) rfl rfl rfl rfl hl.1 (Nat.le_of_ble_eq_true rfl) rfl dX4_run_29 ⟨Nat.zero_le _, Nat.zero_le _⟩ (fun H locs hP hD hS => ?_)
    refine lv_aload_n hx hb dX4_run_32 rfl (lv_at hl 0 rfl) ?_
    refine va_get (D := D) (ci := 4) (v := .ref (a 0 0)) (C := RX4) (T := TX4) (N := 7) hx hb hts iX4_run_X4 hown hK.1 hP 0 rfl rfl 1 (by decide) (hts _ qX4_run_19) (fun _ h9 => h9) rfl dX4_run_33 ?_
    refine lv_iload_n hx hb dX4_run_36 rfl (lv_at hl 1 rfl) ?_
    obtain ⟨r4, u4, h4, hf⟩ := z_b2E hf
    refine z_xVi (As := [.int p1]) (rest := []) (wf := z_st c (a 0)) (g := (X3.2.2 0)) (u0 := u4) ⟨hx, hb, hml, hown, hts⟩ (kX2_runFrom l D c N (a 0) H.size (X3.2.2 0) p1 r4 u4 h4) (cwV 1 hts gX4_run_X2_runFrom rfl rfl rfl (by decide +kernel) ⟨Nat.le_of_ble_eq_true rfl, Nat.le_of_ble_eq_true rfl⟩) hP hK hD hS hA (z_cutS hD (by decide) u4) (ci := 2) (q0 := 0) rfl rfl rfl rfl hl.1 (Nat.le_of_ble_eq_true rfl) rfl dX4_run_37 ⟨Nat.zero_le _, Nat.zero_le _⟩ (fun H locs hP hD hS => ?_)
    obtain ⟨X5, e5, hf⟩ := z_ltE hf
    have hP : va_P D vwCl (z_dw c b a X5) H := by rw [e5]; exact hP
    have hD : va_D A (z_dw c b a X5) := by rw [e5]; exact hD
    clear e5
    exact z_ri (wf := (z_dw c b a)) hx hb hr hlocks hP hD hS hf dX4_run_40
  · have hf := z_ifT hf c2
    cases hf
abbrev rmX4_turn : Room := { frames := 3, cells := 0, slots := 0, locals := 65 }
theorem qX4_turn_32 : Cond.fieldLink RX4 32 "ProgramDrum" "memory" "LProgramDrum$Memory;" ∈ wsX4_turn := by decide +kernel
theorem iX4_turn_X4 : ∀ w ∈ wsX40, w ∈ wsX4_turn := by decide +kernel
theorem qX4_turn_19 : Cond.fieldLink RX4 19 "ProgramDrum" "now" "LProgramDrum$State;" ∈ wsX4_turn := by decide +kernel
theorem iX4_turn_X2 : ∀ w ∈ wsX20, w ∈ wsX4_turn := by decide +kernel
set_option maxRecDepth 100000 in
set_option maxHeartbeats 4000000 in
theorem kX4_turn (l : Launch) (D : va_G) (c : Nat → ClassId) (N : Nat) (b : Nat → Nat) (a : Nat → Nat → Nat) (sz : Nat) (X : z_X) (p1 : Int32) (r0 : Int32) (g0 : z_X) (hf : nX4_turn N p1 X = some (r0, g0)) : Met l yX4_turn wsX4_turn rmX4_turn (z_Pc D c sz (z_dw c b a X) [.ref (b 0), .int p1]) (z_Qi D (z_dw c b a) r0 g0 (va_A (z_dw c b a X) sz)) 0 0 (va_A (z_dw c b a X) sz) := by
  refine z_ofM (cc := cX4_turn) (maxL := 2) (ret := (some .int)) (Qf := fun A => z_Qi D (z_dw c b a) r0 g0 A) (plainFor_of_name (by decide)) rfl (Nat.le_of_ble_eq_true rfl) ?_
  intro p e s m args below meth co A ls hx hb hr hml hts hown hlocks hnm hA hP hK hD hl hsz
  have hl : lv_has ls 2 [(0, .ref (b 0)), (1, .int p1)] := hl
  have hown : s.vm.findClass RX4 = some m.cls := hown
  obtain ⟨H, hH⟩ : ∃ H, H = s.heap := ⟨_, rfl⟩
  have hS : va_S A s.heap H [] := by rw [hH]; exact va_S.rf
  rw [← hH] at hP ⊢
  clear hH
  unfold nX4_turn at hf
  generalize ([] : List Loc) = locs at hS ⊢
  refine lv_iload_n hx hb dX4_turn_0 rfl (lv_at hl 1 rfl) ?_
  obtain ⟨r1, h1, hf⟩ := z_bE hf
  refine z_cSi (As := [.int p1]) (rest := []) ⟨hx, hb, hml, hown, hts⟩ (kX4_isTurn l D c N H.size p1 r1 h1) (va_cwS 1 hts gX4_turn_X4_isTurn rfl rfl rfl (by decide +kernel) ⟨Nat.le_of_ble_eq_true rfl, Nat.le_of_ble_eq_true rfl⟩) hP hK hS hA rfl hl.1 (Nat.le_of_ble_eq_true rfl) rfl dX4_turn_1 ⟨Nat.zero_le _, Nat.zero_le _⟩ (fun H locs hP hS => ?_)
  refine lv_if_ne (tgt := 17) hx hb dX4_turn_4 (by decide) (fun c2 => ?_) (fun c2 => ?_)
  · have hf := z_ifF hf c2
    refine lv_aload_n hx hb dX4_turn_17 rfl (lv_at hl 0 rfl) ?_
    refine va_get (D := D) (ci := 4) (v := .ref (b 3)) (C := RX4) (T := TX4) (N := 7) hx hb hts iX4_turn_X4 hown hK.1 hP 0 rfl rfl 4 (by decide) (hts _ qX4_turn_32) (fun _ h9 => h9) rfl dX4_turn_18 ?_
    refine lv_aload_n hx hb dX4_turn_21 rfl (lv_at hl 0 rfl) ?_
    refine va_get (D := D) (ci := 4) (v := .ref (a 0 0)) (C := RX4) (T := TX4) (N := 7) hx hb hts iX4_turn_X4 hown hK.1 hP 0 rfl rfl 1 (by decide) (hts _ qX4_turn_19) (fun _ h9 => h9) rfl dX4_turn_22 ?_
    obtain ⟨X3, h3, hf⟩ := z_bE hf
    refine z_cVv (As := [.ref (a 0 0)]) (rest := []) (wf := (z_dw c b a)) (g := X) (u0 := X3) ⟨hx, hb, hml, hown, hts⟩ (kX1_remember l D c N b a H.size X  X3 h3) (cwV 1 hts gX4_turn_X1_remember rfl rfl rfl (by decide +kernel) ⟨Nat.le_of_ble_eq_true rfl, Nat.le_of_ble_eq_true rfl⟩) hP hK hD hS hA (ci := 1) (q0 := 3) rfl rfl rfl rfl hl.1 (Nat.le_of_ble_eq_true rfl) rfl dX4_turn_25 ⟨Nat.zero_le _, Nat.zero_le _⟩ (fun H locs hP hD hS => ?_)
    refine lv_aload_n hx hb dX4_turn_28 rfl (lv_at hl 0 rfl) ?_
    refine va_get (D := D) (ci := 4) (v := .ref (a 0 0)) (C := RX4) (T := TX4) (N := 7) hx hb hts iX4_turn_X4 hown hK.1 hP 0 rfl rfl 1 (by decide) (hts _ qX4_turn_19) (fun _ h9 => h9) rfl dX4_turn_29 ?_
    refine lv_dup hx hb dX4_turn_32 rfl ?_
    refine va_getN (D := D) (ci := 2) (v := .int (X3.2.2 0 0 2)) (C := RX2) (T := TX2) (N := 16) hx hb hts iX4_turn_X2 hown hK.1 (z_subP hP (z_inS (by decide))) 0 rfl rfl 2 (by decide) (va_Nw.use rfl (hK.2.1 _ zF_X4_87)) (fun _ h9 => h9) rfl dX4_turn_33 ?_
    refine lv_iload_n hx hb dX4_turn_36 rfl (lv_at hl 1 rfl) ?_
    refine lv_iadd hx hb dX4_turn_37 ?_
    refine va_putN (D := D) (ci := 2) (v := .int ((X3.2.2 0 0 2) + p1)) (ty := .int) (C := RX2) (T := TX2) (N := 16) hx hb hts iX4_turn_X2 tyX2 tyX2_ok nmX2 hown hK.1 hP hD hS 7 rfl rfl 2 (by decide) (va_Nw.use rfl (hK.2.1 _ zF_X4_87)) (fun _ h9 => h9) rfl (by decide +kernel) rfl rfl (Nat.le_of_ble_eq_true rfl) dX4_turn_38 (fun H locs hP hD hS => ?_)
    obtain ⟨X4, e4, hf⟩ := z_ltE hf
    have hP : va_P D vwCl (z_dw c b a X4) H := by rw [e4, ← z_put0_2]; exact hP
    have hD : va_D A (z_dw c b a X4) := by rw [e4, ← z_put0_2]; exact hD
    clear e4
    refine lv_aload_n hx hb dX4_turn_41 rfl (lv_at hl 0 rfl) ?_
    refine va_get (D := D) (ci := 4) (v := .ref (a 0 0)) (C := RX4) (T := TX4) (N := 7) hx hb hts iX4_turn_X4 hown hK.1 hP 0 rfl rfl 1 (by decide) (hts _ qX4_turn_19) (fun _ h9 => h9) rfl dX4_turn_42 ?_
    refine lv_aload_n hx hb dX4_turn_45 rfl (lv_at hl 0 rfl) ?_
    refine va_get (D := D) (ci := 4) (v := .ref (a 0 0)) (C := RX4) (T := TX4) (N := 7) hx hb hts iX4_turn_X4 hown hK.1 hP 0 rfl rfl 1 (by decide) (hts _ qX4_turn_19) (fun _ h9 => h9) rfl dX4_turn_46 ?_
    refine va_getN (D := D) (ci := 2) (v := .int (X4.2.2 0 0 2)) (C := RX2) (T := TX2) (N := 16) hx hb hts iX4_turn_X2 hown hK.1 (z_subP hP (z_inS (by decide))) 0 rfl rfl 2 (by decide) (va_Nw.use rfl (hK.2.1 _ zF_X4_87)) (fun _ h9 => h9) rfl dX4_turn_49 ?_
    obtain ⟨r5, h5, hf⟩ := z_bE hf
    refine z_xVi (As := [.int (X4.2.2 0 0 2)]) (rest := []) (wf := z_st c (a 0)) (g := (X4.2.2 0)) (u0 := (X4.2.2 0)) ⟨hx, hb, hml, hown, hts⟩ (kX2_around l D c N (a 0) H.size (X4.2.2 0) (X4.2.2 0 0 2) r5 h5) (cwV 1 hts gX4_turn_X2_around rfl rfl rfl (by decide +kernel) ⟨Nat.le_of_ble_eq_true rfl, Nat.le_of_ble_eq_true rfl⟩) hP hK hD hS hA (z_cutSp hD (by decide)) (ci := 2) (q0 := 0) rfl rfl rfl rfl hl.1 (Nat.le_of_ble_eq_true rfl) rfl dX4_turn_52 ⟨Nat.zero_le _, Nat.zero_le _⟩ (fun H locs hP hD hS => ?_)
    exact z_ri (wf := (z_dw c b a)) hx hb hr hlocks hP hD hS hf dX4_turn_55
  · have hf := z_ifT hf c2
    cases hf
abbrev rmX4_waits : Room := { frames := 3, cells := 0, slots := 0, locals := 64 }
theorem qX4_waits_19 : Cond.fieldLink RX4 19 "ProgramDrum" "now" "LProgramDrum$State;" ∈ wsX4_waits := by decide +kernel
theorem iX4_waits_X4 : ∀ w ∈ wsX40, w ∈ wsX4_waits := by decide +kernel
set_option maxRecDepth 100000 in
set_option maxHeartbeats 4000000 in
theorem kX4_waits (l : Launch) (D : va_G) (c : Nat → ClassId) (N : Nat) (b : Nat → Nat) (a : Nat → Nat → Nat) (sz : Nat) (X : z_X) (p1 : Int32) (r0 : Int32) (hf : nX4_waits N p1 X = some r0) : Met l yX4_waits wsX4_waits rmX4_waits (z_Pc D c sz (z_dw c b a X) [.ref (b 0), .int p1]) (z_Qi D (z_dw c b a) r0 X (va_A (z_dw c b a X) sz)) 0 0 (va_A (z_dw c b a X) sz) := by
  refine z_ofM (cc := cX4_waits) (maxL := 2) (ret := (some .int)) (Qf := fun A => z_Qi D (z_dw c b a) r0 X A) (plainFor_of_name (by decide)) rfl (Nat.le_of_ble_eq_true rfl) ?_
  intro p e s m args below meth co A ls hx hb hr hml hts hown hlocks hnm hA hP hK hD hl hsz
  have hl : lv_has ls 2 [(0, .ref (b 0)), (1, .int p1)] := hl
  have hown : s.vm.findClass RX4 = some m.cls := hown
  obtain ⟨H, hH⟩ : ∃ H, H = s.heap := ⟨_, rfl⟩
  have hS : va_S A s.heap H [] := by rw [hH]; exact va_S.rf
  rw [← hH] at hP ⊢
  clear hH
  unfold nX4_waits at hf
  generalize ([] : List Loc) = locs at hS ⊢
  refine lv_aload_n hx hb dX4_waits_0 rfl (lv_at hl 0 rfl) ?_
  refine va_get (D := D) (ci := 4) (v := .ref (a 0 0)) (C := RX4) (T := TX4) (N := 7) hx hb hts iX4_waits_X4 hown hK.1 hP 0 rfl rfl 1 (by decide) (hts _ qX4_waits_19) (fun _ h9 => h9) rfl dX4_waits_1 ?_
  refine lv_iload_n hx hb dX4_waits_4 rfl (lv_at hl 1 rfl) ?_
  obtain ⟨r1, h1, hf⟩ := z_bE hf
  refine z_xVi (As := [.int p1]) (rest := []) (wf := z_st c (a 0)) (g := (X.2.2 0)) (u0 := (X.2.2 0)) ⟨hx, hb, hml, hown, hts⟩ (kX2_has l D c N (a 0) H.size (X.2.2 0) p1 r1 h1) (cwV 1 hts gX4_waits_X2_has rfl rfl rfl (by decide +kernel) ⟨Nat.le_of_ble_eq_true rfl, Nat.le_of_ble_eq_true rfl⟩) hP hK hD hS hA (z_cutSp hD (by decide)) (ci := 2) (q0 := 0) rfl rfl rfl rfl hl.1 (Nat.le_of_ble_eq_true rfl) rfl dX4_waits_5 ⟨Nat.zero_le _, Nat.zero_le _⟩ (fun H locs hP hD hS => ?_)
  refine lv_if_ne (tgt := 21) hx hb dX4_waits_8 (by decide) (fun c2 => ?_) (fun c2 => ?_)
  · have hf := z_ifF hf c2
    refine lv_aload_n hx hb dX4_waits_21 rfl (lv_at hl 0 rfl) ?_
    refine va_get (D := D) (ci := 4) (v := .ref (a 0 0)) (C := RX4) (T := TX4) (N := 7) hx hb hts iX4_waits_X4 hown hK.1 hP 0 rfl rfl 1 (by decide) (hts _ qX4_waits_19) (fun _ h9 => h9) rfl dX4_waits_22 ?_
    refine lv_iload_n hx hb dX4_waits_25 rfl (lv_at hl 1 rfl) ?_
    obtain ⟨r3, h3, hf⟩ := z_bE hf
    refine z_xVi (As := [.int p1]) (rest := []) (wf := z_st c (a 0)) (g := (X.2.2 0)) (u0 := (X.2.2 0)) ⟨hx, hb, hml, hown, hts⟩ (kX2_waitFor l D c N (a 0) H.size (X.2.2 0) p1 r3 h3) (cwV 1 hts gX4_waits_X2_waitFor rfl rfl rfl (by decide +kernel) ⟨Nat.le_of_ble_eq_true rfl, Nat.le_of_ble_eq_true rfl⟩) hP hK hD hS hA (z_cutSp hD (by decide)) (ci := 2) (q0 := 0) rfl rfl rfl rfl hl.1 (Nat.le_of_ble_eq_true rfl) rfl dX4_waits_26 ⟨Nat.zero_le _, Nat.zero_le _⟩ (fun H locs hP hD hS => ?_)
    exact z_rp (wf := (z_dw c b a)) hx hb hr hlocks hP hD hS hf dX4_waits_29
  · have hf := z_ifT hf c2
    cases hf
abbrev rmX4_ticksOfRun : Room := { frames := 4, cells := 0, slots := 0, locals := 91 }
theorem qX4_ticksOfRun_26 : Cond.fieldLink RX4 26 "ProgramDrum" "probe" "LProgramDrum$State;" ∈ wsX4_ticksOfRun := by decide +kernel
theorem iX4_ticksOfRun_X4 : ∀ w ∈ wsX40, w ∈ wsX4_ticksOfRun := by decide +kernel
theorem iX4_ticksOfRun_X2 : ∀ w ∈ wsX20, w ∈ wsX4_ticksOfRun := by decide +kernel
set_option maxRecDepth 100000 in
set_option maxHeartbeats 4000000 in
theorem kX4_ticksOfRun (l : Launch) (D : va_G) (c : Nat → ClassId) (N : Nat) (b : Nat → Nat) (a : Nat → Nat → Nat) (sz : Nat) (j1 : Nat) (hj1 : j1 < 2) (X : z_X) (p2 : Int32) (r0 : Int32) (g0 : z_X) (hf : fX4_ticksOfRun N j1 p2 X = some (r0, g0)) : Met l yX4_ticksOfRun wsX4_ticksOfRun rmX4_ticksOfRun (z_Pc D c sz (z_dw c b a X) [.ref (b 0), .ref (a j1 0), .int p2]) (z_Qi D (z_dw c b a) r0 g0 (va_A (z_dw c b a X) sz)) 0 0 (va_A (z_dw c b a X) sz) := by
  refine z_ofM (cc := cX4_ticksOfRun) (maxL := 3) (ret := (some .int)) (Qf := fun A => z_Qi D (z_dw c b a) r0 g0 A) (plainFor_of_name (by decide)) rfl (Nat.le_of_ble_eq_true rfl) ?_
  intro p e s m args below meth co A ls hx hb hr hml hts hown hlocks hnm hA hP hK hD hl hsz
  have hl : lv_has ls 3 [(0, .ref (b 0)), (1, .ref (a j1 0)), (2, .int p2)] := hl
  have hown : s.vm.findClass RX4 = some m.cls := hown
  obtain ⟨H, hH⟩ : ∃ H, H = s.heap := ⟨_, rfl⟩
  have hS : va_S A s.heap H [] := by rw [hH]; exact va_S.rf
  rw [← hH] at hP ⊢
  clear hH
  unfold fX4_ticksOfRun at hf
  generalize ([] : List Loc) = locs at hS ⊢
  refine lv_aload_n hx hb dX4_ticksOfRun_0 rfl (lv_at hl 0 rfl) ?_
  refine va_get (D := D) (ci := 4) (v := .ref (a 2 0)) (C := RX4) (T := TX4) (N := 7) hx hb hts iX4_ticksOfRun_X4 hown hK.1 hP 0 rfl rfl 3 (by decide) (hts _ qX4_ticksOfRun_26) (fun _ h9 => h9) rfl dX4_ticksOfRun_1 ?_
  refine lv_aload_n hx hb dX4_ticksOfRun_4 rfl (lv_at hl 1 rfl) ?_
  obtain ⟨u1, h1, hf⟩ := z_bE hf
  refine z_xVv (As := [.ref (a j1 0)]) (rest := []) (wf := fun u : z_R => z_st c (a 2) u ++ z_st c (a j1) (X.2.2 j1)) (g := (X.2.2 2)) (u0 := u1) ⟨hx, hb, hml, hown, hts⟩ (kX2_copyFrom l D c N (a 2) (a j1) H.size (X.2.2 j1) (X.2.2 2) u1 h1) (cwV 1 hts gX4_ticksOfRun_X2_copyFrom rfl rfl rfl (by decide +kernel) ⟨Nat.le_of_ble_eq_true rfl, Nat.le_of_ble_eq_true rfl⟩) hP hK hD hS hA (z_cutSS hD (by decide) (by omega) (by omega) u1) (ci := 2) (q0 := 0) rfl rfl rfl rfl hl.1 (Nat.le_of_ble_eq_true rfl) rfl dX4_ticksOfRun_5 ⟨Nat.zero_le _, Nat.zero_le _⟩ (fun H locs hP hD hS => ?_)
  obtain ⟨X2, e2, hf⟩ := z_ltE hf
  have hP : va_P D vwCl (z_dw c b a X2) H := by rw [e2]; exact hP
  have hD : va_D A (z_dw c b a X2) := by rw [e2]; exact hD
  clear e2
  refine lv_aload_n hx hb dX4_ticksOfRun_8 rfl (lv_at hl 0 rfl) ?_
  refine va_get (D := D) (ci := 4) (v := .ref (a 2 0)) (C := RX4) (T := TX4) (N := 7) hx hb hts iX4_ticksOfRun_X4 hown hK.1 hP 0 rfl rfl 3 (by decide) (hts _ qX4_ticksOfRun_26) (fun _ h9 => h9) rfl dX4_ticksOfRun_9 ?_
  refine lv_iload_n hx hb dX4_ticksOfRun_12 rfl (lv_at hl 2 rfl) ?_
  obtain ⟨r3, u3, h3, hf⟩ := z_b2E hf
  refine z_xVi (As := [.int p2]) (rest := []) (wf := z_st c (a 2)) (g := (X2.2.2 2)) (u0 := u3) ⟨hx, hb, hml, hown, hts⟩ (kX2_runFrom l D c N (a 2) H.size (X2.2.2 2) p2 r3 u3 h3) (cwV 1 hts gX4_ticksOfRun_X2_runFrom rfl rfl rfl (by decide +kernel) ⟨Nat.le_of_ble_eq_true rfl, Nat.le_of_ble_eq_true rfl⟩) hP hK hD hS hA (z_cutS hD (by decide) u3) (ci := 2) (q0 := 0) rfl rfl rfl rfl hl.1 (Nat.le_of_ble_eq_true rfl) rfl dX4_ticksOfRun_13 ⟨Nat.zero_le _, Nat.zero_le _⟩ (fun H locs hP hD hS => ?_)
  obtain ⟨X4, e4, hf⟩ := z_ltE hf
  have hP : va_P D vwCl (z_dw c b a X4) H := by rw [e4]; exact hP
  have hD : va_D A (z_dw c b a X4) := by rw [e4]; exact hD
  clear e4
  refine lv_pop hx hb dX4_ticksOfRun_16 rfl ?_
  refine lv_aload_n hx hb dX4_ticksOfRun_17 rfl (lv_at hl 0 rfl) ?_
  refine va_get (D := D) (ci := 4) (v := .ref (a 2 0)) (C := RX4) (T := TX4) (N := 7) hx hb hts iX4_ticksOfRun_X4 hown hK.1 hP 0 rfl rfl 3 (by decide) (hts _ qX4_ticksOfRun_26) (fun _ h9 => h9) rfl dX4_ticksOfRun_18 ?_
  refine va_getN (D := D) (ci := 2) (v := .int (X4.2.2 2 0 2)) (C := RX2) (T := TX2) (N := 16) hx hb hts iX4_ticksOfRun_X2 hown hK.1 (z_subP hP (z_inS (by decide))) 0 rfl rfl 2 (by decide) (va_Nw.use rfl (hK.2.1 _ zF_X4_87)) (fun _ h9 => h9) rfl dX4_ticksOfRun_21 ?_
  refine lv_aload_n hx hb dX4_ticksOfRun_24 rfl (lv_at hl 1 rfl) ?_
  refine va_getN (D := D) (ci := 2) (v := .int (X4.2.2 j1 0 2)) (C := RX2) (T := TX2) (N := 16) hx hb hts iX4_ticksOfRun_X2 hown hK.1 (z_subP hP (z_inS (by omega))) 0 rfl rfl 2 (by decide) (va_Nw.use rfl (hK.2.1 _ zF_X4_87)) (fun _ h9 => h9) rfl dX4_ticksOfRun_25 ?_
  refine lv_isub hx hb dX4_ticksOfRun_28 ?_
  exact z_ri (wf := (z_dw c b a)) hx hb hr hlocks hP hD hS hf dX4_ticksOfRun_29
abbrev rmX4_time : Room := { frames := 5, cells := 0, slots := 0, locals := 113 }
theorem qX4_time_19 : Cond.fieldLink RX4 19 "ProgramDrum" "now" "LProgramDrum$State;" ∈ wsX4_time := by decide +kernel
theorem iX4_time_X4 : ∀ w ∈ wsX40, w ∈ wsX4_time := by decide +kernel
set_option maxRecDepth 100000 in
set_option maxHeartbeats 4000000 in
theorem kX4_time (l : Launch) (D : va_G) (c : Nat → ClassId) (N : Nat) (b : Nat → Nat) (a : Nat → Nat → Nat) (sz : Nat) (X : z_X) (p1 : Int32) (r0 : Int32) (g0 : z_X) (hf : nX4_time N p1 X = some (r0, g0)) : Met l yX4_time wsX4_time rmX4_time (z_Pc D c sz (z_dw c b a X) [.ref (b 0), .int p1]) (z_Qi D (z_dw c b a) r0 g0 (va_A (z_dw c b a X) sz)) 0 0 (va_A (z_dw c b a X) sz) := by
  refine z_ofM (cc := cX4_time) (maxL := 2) (ret := (some .int)) (Qf := fun A => z_Qi D (z_dw c b a) r0 g0 A) (plainFor_of_name (by decide)) rfl (Nat.le_of_ble_eq_true rfl) ?_
  intro p e s m args below meth co A ls hx hb hr hml hts hown hlocks hnm hA hP hK hD hl hsz
  have hl : lv_has ls 2 [(0, .ref (b 0)), (1, .int p1)] := hl
  have hown : s.vm.findClass RX4 = some m.cls := hown
  obtain ⟨H, hH⟩ : ∃ H, H = s.heap := ⟨_, rfl⟩
  have hS : va_S A s.heap H [] := by rw [hH]; exact va_S.rf
  rw [← hH] at hP ⊢
  clear hH
  unfold nX4_time at hf
  generalize ([] : List Loc) = locs at hS ⊢
  refine lv_aload_n hx hb dX4_time_0 rfl (lv_at hl 0 rfl) ?_
  refine va_get (D := D) (ci := 4) (v := .ref (a 0 0)) (C := RX4) (T := TX4) (N := 7) hx hb hts iX4_time_X4 hown hK.1 hP 0 rfl rfl 1 (by decide) (hts _ qX4_time_19) (fun _ h9 => h9) rfl dX4_time_1 ?_
  refine lv_iload_n hx hb dX4_time_4 rfl (lv_at hl 1 rfl) ?_
  obtain ⟨r1, h1, hf⟩ := z_bE hf
  refine z_xVi (As := [.int p1]) (rest := []) (wf := z_st c (a 0)) (g := (X.2.2 0)) (u0 := (X.2.2 0)) ⟨hx, hb, hml, hown, hts⟩ (kX2_has l D c N (a 0) H.size (X.2.2 0) p1 r1 h1) (cwV 1 hts gX4_time_X2_has rfl rfl rfl (by decide +kernel) ⟨Nat.le_of_ble_eq_true rfl, Nat.le_of_ble_eq_true rfl⟩) hP hK hD hS hA (z_cutSp hD (by decide)) (ci := 2) (q0 := 0) rfl rfl rfl rfl hl.1 (Nat.le_of_ble_eq_true rfl) rfl dX4_time_5 ⟨Nat.zero_le _, Nat.zero_le _⟩ (fun H locs hP hD hS => ?_)
  refine lv_if_ne (tgt := 21) hx hb dX4_time_8 (by decide) (fun c2 => ?_) (fun c2 => ?_)
  · have hf := z_ifF hf c2
    refine lv_aload_n hx hb dX4_time_21 rfl (lv_at hl 0 rfl) ?_
    refine lv_aload_n hx hb dX4_time_22 rfl (lv_at hl 0 rfl) ?_
    refine va_get (D := D) (ci := 4) (v := .ref (a 0 0)) (C := RX4) (T := TX4) (N := 7) hx hb hts iX4_time_X4 hown hK.1 hP 0 rfl rfl 1 (by decide) (hts _ qX4_time_19) (fun _ h9 => h9) rfl dX4_time_23 ?_
    refine lv_iload_n hx hb dX4_time_26 rfl (lv_at hl 1 rfl) ?_
    obtain ⟨r3, X3, h3, hf⟩ := z_b2E hf
    refine z_cVi (As := [.ref (a 0 0), .int p1]) (rest := []) (wf := (z_dw c b a)) (g := X) (u0 := X3) ⟨hx, hb, hml, hown, hts⟩ (kX4_ticksOfRun l D c N b a H.size 0 (by decide) X p1 r3 X3 h3) (cwV 2 hts gX4_time_X4_ticksOfRun rfl rfl rfl (by decide +kernel) ⟨Nat.le_of_ble_eq_true rfl, Nat.le_of_ble_eq_true rfl⟩) hP hK hD hS hA (ci := 4) (q0 := 0) rfl rfl rfl rfl hl.1 (Nat.le_of_ble_eq_true rfl) rfl dX4_time_27 ⟨Nat.zero_le _, Nat.zero_le _⟩ (fun H locs hP hD hS => ?_)
    exact z_ri (wf := (z_dw c b a)) hx hb hr hlocks hP hD hS hf dX4_time_30
  · have hf := z_ifT hf c2
    cases hf
abbrev rmX4_bestPlace : Room := { frames := 5, cells := 0, slots := 0, locals := 113 }
theorem qX4_bestPlace_19 : Cond.fieldLink RX4 19 "ProgramDrum" "now" "LProgramDrum$State;" ∈ wsX4_bestPlace := by decide +kernel
theorem iX4_bestPlace_X4 : ∀ w ∈ wsX40, w ∈ wsX4_bestPlace := by decide +kernel
theorem qX4_bestPlace_23 : Cond.fieldLink RX4 23 "ProgramDrum" "trial" "LProgramDrum$State;" ∈ wsX4_bestPlace := by decide +kernel
theorem iX4_bestPlace_X2 : ∀ w ∈ wsX20, w ∈ wsX4_bestPlace := by decide +kernel
set_option maxRecDepth 100000 in
set_option maxHeartbeats 4000000 in
theorem kX4_bestPlace (l : Launch) (D : va_G) (c : Nat → ClassId) (N : Nat) (b : Nat → Nat) (a : Nat → Nat → Nat) (sz : Nat) (X : z_X) (p1 : Int32) (p2 : Int32) (r0 : Int32) (g0 : z_X) (hf : nX4_bestPlace N p1 p2 X = some (r0, g0)) : Met l yX4_bestPlace wsX4_bestPlace rmX4_bestPlace (z_Pc D c sz (z_dw c b a X) [.ref (b 0), .int p1, .int p2]) (z_Qi D (z_dw c b a) r0 g0 (va_A (z_dw c b a X) sz)) 0 0 (va_A (z_dw c b a X) sz) := by
  refine z_ofM (cc := cX4_bestPlace) (maxL := 7) (ret := (some .int)) (Qf := fun A => z_Qi D (z_dw c b a) r0 g0 A) (plainFor_of_name (by decide)) rfl (Nat.le_of_ble_eq_true rfl) ?_
  intro p e s m args below meth co A ls hx hb hr hml hts hown hlocks hnm hA hP hK hD hl hsz
  have hl : lv_has ls 7 [(0, .ref (b 0)), (1, .int p1), (2, .int p2)] := hl
  have hown : s.vm.findClass RX4 = some m.cls := hown
  obtain ⟨H, hH⟩ : ∃ H, H = s.heap := ⟨_, rfl⟩
  have hS : va_S A s.heap H [] := by rw [hH]; exact va_S.rf
  rw [← hH] at hP ⊢
  clear hH
  have L51 : ∀ (x1 : Int32) (x2 : Int32) (fu : Nat) (x3 : Int32) (x4 : Int32) (x5 : Int32) (X : z_X), nlX4_bestPlace_51 N x1 x2 fu x3 x4 x5 X = some (r0, g0) → ∀ (H : Heap) (locs : List Loc) (ls : Array Slot), va_P D vwCl (z_dw c b a X) H → va_D A (z_dw c b a X) → va_S A s.heap H locs → lv_has ls 7 [(0, .ref (b 0)), (1, .int x1), (2, .int x2), (3, .int x3), (4, .int x4), (5, .int x5)] → W p l e rmX4_bestPlace s m args below meth co H locs 0 0 (MQ below (z_Qi D (z_dw c b a) r0 g0 A) args s 0 0 A) (F0 m 51 ls []) := by
    intro x1 x2 fu
    induction fu with
    | zero =>
      intro x3 x4 x5 X hf
      have hf : (none : Option (Int32 × z_X)) = some _ := hf
      cases hf
    | succ fu ih =>
      intro x3 x4 x5 X hf H locs ls hP hD hS hl
      rw [nlX4_bestPlace_51.eq_2] at hf
      refine lv_iload hx hb dX4_bestPlace_51 (lv_at hl 5 rfl) ?_
      refine lv_aload_n hx hb dX4_bestPlace_53 rfl (lv_at hl 0 rfl) ?_
      refine va_get (D := D) (ci := 4) (v := .ref (a 0 0)) (C := RX4) (T := TX4) (N := 7) hx hb hts iX4_bestPlace_X4 hown hK.1 hP 0 rfl rfl 1 (by decide) (hts _ qX4_bestPlace_19) (fun _ h9 => h9) rfl dX4_bestPlace_54 ?_
      refine va_getN (D := D) (ci := 2) (v := .int (X.2.2 0 0 0)) (C := RX2) (T := TX2) (N := 16) hx hb hts iX4_bestPlace_X2 hown hK.1 (z_subP hP (z_inS (by decide))) 0 rfl rfl 0 (by decide) (va_Nw.use rfl (hK.2.1 _ zF_X4_84)) (fun _ h9 => h9) rfl dX4_bestPlace_57 ?_
      refine lv_icmp_ge (tgt := 123) hx hb dX4_bestPlace_60 (by decide) (fun c7 => ?_) (fun c7 => ?_)
      · have hf := z_ifT hf c7
        refine lv_iload_n hx hb dX4_bestPlace_123 rfl (lv_at hl 3 rfl) ?_
        exact z_ri (wf := (z_dw c b a)) hx hb hr hlocks hP hD hS hf dX4_bestPlace_124
      · have hf := z_ifF hf c7
        refine lv_aload_n hx hb dX4_bestPlace_63 rfl (lv_at hl 0 rfl) ?_
        refine va_get (D := D) (ci := 4) (v := .ref (a 0 0)) (C := RX4) (T := TX4) (N := 7) hx hb hts iX4_bestPlace_X4 hown hK.1 hP 0 rfl rfl 1 (by decide) (hts _ qX4_bestPlace_19) (fun _ h9 => h9) rfl dX4_bestPlace_64 ?_
        refine lv_iload_n hx hb dX4_bestPlace_67 rfl (lv_at hl 1 rfl) ?_
        refine lv_iload hx hb dX4_bestPlace_68 (lv_at hl 5 rfl) ?_
        obtain ⟨r8, h8, hf⟩ := z_bE hf
        refine z_xVi (As := [.int x1, .int x5]) (rest := []) (wf := z_st c (a 0)) (g := (X.2.2 0)) (u0 := (X.2.2 0)) ⟨hx, hb, hml, hown, hts⟩ (kX2_isFreeFor l D c N (a 0) H.size (X.2.2 0) x1 x5 r8 h8) (cwV 2 hts gX4_bestPlace_X2_isFreeFor rfl rfl rfl (by decide +kernel) ⟨Nat.le_of_ble_eq_true rfl, Nat.le_of_ble_eq_true rfl⟩) hP hK hD hS hA (z_cutSp hD (by decide)) (ci := 2) (q0 := 0) rfl rfl rfl rfl hl.1 (Nat.le_of_ble_eq_true rfl) rfl dX4_bestPlace_70 ⟨Nat.zero_le _, Nat.zero_le _⟩ (fun H locs hP hD hS => ?_)
        refine lv_if_eq (tgt := 117) hx hb dX4_bestPlace_73 (by decide) (fun c9 => ?_) (fun c9 => ?_)
        · have hf := z_ifT hf c9
          refine lv_iinc (v := (x5 + (1 : Int32))) (lv' := [(5, .int (x5 + (1 : Int32))), (0, .ref (b 0)), (1, .int x1), (2, .int x2), (3, .int x3), (4, .int x4)]) hx hb dX4_bestPlace_117 hl (k := 5) rfl rfl (by decide) rfl (fun ls hl => ?_)
          refine lv_goto (tgt := 51) hx hb dX4_bestPlace_120 (by decide) ?_
          exact ih _ _ _ _ hf H locs ls hP hD hS (lv_sub hl [1, 2, 3, 4, 5, 0] rfl)
        · have hf := z_ifF hf c9
          refine lv_aload_n hx hb dX4_bestPlace_76 rfl (lv_at hl 0 rfl) ?_
          refine va_get (D := D) (ci := 4) (v := .ref (a 1 0)) (C := RX4) (T := TX4) (N := 7) hx hb hts iX4_bestPlace_X4 hown hK.1 hP 0 rfl rfl 2 (by decide) (hts _ qX4_bestPlace_23) (fun _ h9 => h9) rfl dX4_bestPlace_77 ?_
          refine va_getN (D := D) (ci := 2) (v := .ref (a 1 6)) (C := RX2) (T := TX2) (N := 16) hx hb hts iX4_bestPlace_X2 hown hK.1 (z_subP hP (z_inS (by decide))) 0 rfl rfl 9 (by decide) (va_Nw.use rfl (hK.2.1 _ zF_X4_148)) (fun _ h9 => h9) rfl dX4_bestPlace_80 ?_
          refine lv_iload_n hx hb dX4_bestPlace_83 rfl (lv_at hl 1 rfl) ?_
          refine lv_iload hx hb dX4_bestPlace_84 (lv_at hl 5 rfl) ?_
          obtain ⟨b10, hf⟩ := z_ckE hf
          refine va_iast hx hb hK.1 hP hD hS 29 0 rfl rfl (z_inE b10) dX4_bestPlace_86 (fun H locs hP hD hS => ?_)
          obtain ⟨X11, e11, hf⟩ := z_ltE hf
          have hP : va_P D vwCl (z_dw c b a X11) H := by rw [e11, ← z_putR1_6]; exact hP
          have hD : va_D A (z_dw c b a X11) := by rw [e11, ← z_putR1_6]; exact hD
          clear e11
          refine lv_aload_n hx hb dX4_bestPlace_87 rfl (lv_at hl 0 rfl) ?_
          refine lv_aload_n hx hb dX4_bestPlace_88 rfl (lv_at hl 0 rfl) ?_
          refine va_get (D := D) (ci := 4) (v := .ref (a 1 0)) (C := RX4) (T := TX4) (N := 7) hx hb hts iX4_bestPlace_X4 hown hK.1 hP 0 rfl rfl 2 (by decide) (hts _ qX4_bestPlace_23) (fun _ h9 => h9) rfl dX4_bestPlace_89 ?_
          refine lv_iload_n hx hb dX4_bestPlace_92 rfl (lv_at hl 2 rfl) ?_
          obtain ⟨r12, X12, h12, hf⟩ := z_b2E hf
          refine z_cVi (As := [.ref (a 1 0), .int x2]) (rest := []) (wf := (z_dw c b a)) (g := X11) (u0 := X12) ⟨hx, hb, hml, hown, hts⟩ (kX4_ticksOfRun l D c N b a H.size 1 (by decide) X11 x2 r12 X12 h12) (cwV 2 hts gX4_bestPlace_X4_ticksOfRun rfl rfl rfl (by decide +kernel) ⟨Nat.le_of_ble_eq_true rfl, Nat.le_of_ble_eq_true rfl⟩) hP hK hD hS hA (ci := 4) (q0 := 0) rfl rfl rfl rfl hl.1 (Nat.le_of_ble_eq_true rfl) rfl dX4_bestPlace_93 ⟨Nat.zero_le _, Nat.zero_le _⟩ (fun H locs hP hD hS => ?_)
          refine lv_istore (lv' := [(6, .int r12), (0, .ref (b 0)), (1, .int x1), (2, .int x2), (3, .int x3), (4, .int x4), (5, .int x5)]) hx hb dX4_bestPlace_96 hl (by decide) rfl (fun ls hl => ?_)
          refine lv_iload_n hx hb dX4_bestPlace_98 rfl (lv_at hl 4 rfl) ?_
          refine lv_iconst (v := (-1 : Int32)) hx hb dX4_bestPlace_99 (by decide) ?_
          refine lv_icmp_eq (tgt := 110) hx hb dX4_bestPlace_100 (by decide) (fun c13 => ?_) (fun c13 => ?_)
          · have hf := z_ifT hf c13
            refine lv_iload hx hb dX4_bestPlace_110 (lv_at hl 6 rfl) ?_
            refine lv_istore_n (lv' := [(3, .int x5), (6, .int r12), (0, .ref (b 0)), (1, .int x1), (2, .int x2), (4, .int x4), (5, .int x5)]) hx hb dX4_bestPlace_112 rfl hl (by decide) rfl (fun ls hl => ?_)
            refine lv_iload hx hb dX4_bestPlace_113 (lv_at hl 1 rfl) ?_
            refine lv_istore (lv' := [(4, .int r12), (3, .int x5), (6, .int r12), (0, .ref (b 0)), (1, .int x1), (2, .int x2), (5, .int x5)]) hx hb dX4_bestPlace_115 hl (by decide) rfl (fun ls hl => ?_)
            refine lv_iinc (v := (x5 + (1 : Int32))) (lv' := [(5, .int (x5 + (1 : Int32))), (4, .int r12), (3, .int x5), (6, .int r12), (0, .ref (b 0)), (1, .int x1), (2, .int x2)]) hx hb dX4_bestPlace_117 hl (k := 6) rfl rfl (by decide) rfl (fun ls hl => ?_)
            refine lv_goto (tgt := 51) hx hb dX4_bestPlace_120 (by decide) ?_
            exact ih _ _ _ _ hf H locs ls hP hD hS (lv_sub hl [4, 5, 6, 2, 1, 0] rfl)
          · have hf := z_ifF hf c13
            refine lv_iload hx hb dX4_bestPlace_103 (lv_at hl 0 rfl) ?_
            refine lv_iload hx hb dX4_bestPlace_105 (lv_at hl 5 rfl) ?_
            refine lv_icmp_ge (tgt := 117) hx hb dX4_bestPlace_107 (by decide) (fun c14 => ?_) (fun c14 => ?_)
            · have hf := z_ifT hf c14
              refine lv_iinc (v := (x5 + (1 : Int32))) (lv' := [(5, .int (x5 + (1 : Int32))), (6, .int r12), (0, .ref (b 0)), (1, .int x1), (2, .int x2), (3, .int x3), (4, .int x4)]) hx hb dX4_bestPlace_117 hl (k := 6) rfl rfl (by decide) rfl (fun ls hl => ?_)
              refine lv_goto (tgt := 51) hx hb dX4_bestPlace_120 (by decide) ?_
              exact ih _ _ _ _ hf H locs ls hP hD hS (lv_sub hl [2, 3, 4, 5, 6, 0] rfl)
            · have hf := z_ifF hf c14
              refine lv_iload hx hb dX4_bestPlace_110 (lv_at hl 6 rfl) ?_
              refine lv_istore_n (lv' := [(3, .int x5), (6, .int r12), (0, .ref (b 0)), (1, .int x1), (2, .int x2), (4, .int x4), (5, .int x5)]) hx hb dX4_bestPlace_112 rfl hl (by decide) rfl (fun ls hl => ?_)
              refine lv_iload hx hb dX4_bestPlace_113 (lv_at hl 1 rfl) ?_
              refine lv_istore (lv' := [(4, .int r12), (3, .int x5), (6, .int r12), (0, .ref (b 0)), (1, .int x1), (2, .int x2), (5, .int x5)]) hx hb dX4_bestPlace_115 hl (by decide) rfl (fun ls hl => ?_)
              refine lv_iinc (v := (x5 + (1 : Int32))) (lv' := [(5, .int (x5 + (1 : Int32))), (4, .int r12), (3, .int x5), (6, .int r12), (0, .ref (b 0)), (1, .int x1), (2, .int x2)]) hx hb dX4_bestPlace_117 hl (k := 6) rfl rfl (by decide) rfl (fun ls hl => ?_)
              refine lv_goto (tgt := 51) hx hb dX4_bestPlace_120 (by decide) ?_
              exact ih _ _ _ _ hf H locs ls hP hD hS (lv_sub hl [4, 5, 6, 2, 1, 0] rfl)
  unfold nX4_bestPlace at hf
  generalize ([] : List Loc) = locs at hS ⊢
  refine lv_aload_n hx hb dX4_bestPlace_0 rfl (lv_at hl 0 rfl) ?_
  refine va_get (D := D) (ci := 4) (v := .ref (a 0 0)) (C := RX4) (T := TX4) (N := 7) hx hb hts iX4_bestPlace_X4 hown hK.1 hP 0 rfl rfl 1 (by decide) (hts _ qX4_bestPlace_19) (fun _ h9 => h9) rfl dX4_bestPlace_1 ?_
  refine lv_iload_n hx hb dX4_bestPlace_4 rfl (lv_at hl 1 rfl) ?_
  obtain ⟨r1, h1, hf⟩ := z_bE hf
  refine z_xVi (As := [.int p1]) (rest := []) (wf := z_st c (a 0)) (g := (X.2.2 0)) (u0 := (X.2.2 0)) ⟨hx, hb, hml, hown, hts⟩ (kX2_has l D c N (a 0) H.size (X.2.2 0) p1 r1 h1) (cwV 1 hts gX4_bestPlace_X2_has rfl rfl rfl (by decide +kernel) ⟨Nat.le_of_ble_eq_true rfl, Nat.le_of_ble_eq_true rfl⟩) hP hK hD hS hA (z_cutSp hD (by decide)) (ci := 2) (q0 := 0) rfl rfl rfl rfl hl.1 (Nat.le_of_ble_eq_true rfl) rfl dX4_bestPlace_5 ⟨Nat.zero_le _, Nat.zero_le _⟩ (fun H locs hP hD hS => ?_)
  refine lv_if_eq (tgt := 22) hx hb dX4_bestPlace_8 (by decide) (fun c2 => ?_) (fun c2 => ?_)
  · have hf := z_ifT hf c2
    cases hf
  · have hf := z_ifF hf c2
    refine lv_aload_n hx hb dX4_bestPlace_11 rfl (lv_at hl 0 rfl) ?_
    refine va_get (D := D) (ci := 4) (v := .ref (a 0 0)) (C := RX4) (T := TX4) (N := 7) hx hb hts iX4_bestPlace_X4 hown hK.1 hP 0 rfl rfl 1 (by decide) (hts _ qX4_bestPlace_19) (fun _ h9 => h9) rfl dX4_bestPlace_12 ?_
    refine lv_iload_n hx hb dX4_bestPlace_15 rfl (lv_at hl 2 rfl) ?_
    obtain ⟨r3, h3, hf⟩ := z_bE hf
    refine z_xVi (As := [.int p2]) (rest := []) (wf := z_st c (a 0)) (g := (X.2.2 0)) (u0 := (X.2.2 0)) ⟨hx, hb, hml, hown, hts⟩ (kX2_has l D c N (a 0) H.size (X.2.2 0) p2 r3 h3) (cwV 1 hts gX4_bestPlace_X2_has rfl rfl rfl (by decide +kernel) ⟨Nat.le_of_ble_eq_true rfl, Nat.le_of_ble_eq_true rfl⟩) hP hK hD hS hA (z_cutSp hD (by decide)) (ci := 2) (q0 := 0) rfl rfl rfl rfl hl.1 (Nat.le_of_ble_eq_true rfl) rfl dX4_bestPlace_16 ⟨Nat.zero_le _, Nat.zero_le _⟩ (fun H locs hP hD hS => ?_)
    refine lv_if_ne (tgt := 32) hx hb dX4_bestPlace_19 (by decide) (fun c4 => ?_) (fun c4 => ?_)
    · have hf := z_ifF hf c4
      refine lv_aload_n hx hb dX4_bestPlace_32 rfl (lv_at hl 0 rfl) ?_
      refine va_get (D := D) (ci := 4) (v := .ref (a 1 0)) (C := RX4) (T := TX4) (N := 7) hx hb hts iX4_bestPlace_X4 hown hK.1 hP 0 rfl rfl 2 (by decide) (hts _ qX4_bestPlace_23) (fun _ h9 => h9) rfl dX4_bestPlace_33 ?_
      refine lv_aload_n hx hb dX4_bestPlace_36 rfl (lv_at hl 0 rfl) ?_
      refine va_get (D := D) (ci := 4) (v := .ref (a 0 0)) (C := RX4) (T := TX4) (N := 7) hx hb hts iX4_bestPlace_X4 hown hK.1 hP 0 rfl rfl 1 (by decide) (hts _ qX4_bestPlace_19) (fun _ h9 => h9) rfl dX4_bestPlace_37 ?_
      obtain ⟨u5, h5, hf⟩ := z_bE hf
      refine z_xVv (As := [.ref (a 0 0)]) (rest := []) (wf := fun u : z_R => z_st c (a 1) u ++ z_st c (a 0) (X.2.2 0)) (g := (X.2.2 1)) (u0 := u5) ⟨hx, hb, hml, hown, hts⟩ (kX2_copyFrom l D c N (a 1) (a 0) H.size (X.2.2 0) (X.2.2 1) u5 h5) (cwV 1 hts gX4_bestPlace_X2_copyFrom rfl rfl rfl (by decide +kernel) ⟨Nat.le_of_ble_eq_true rfl, Nat.le_of_ble_eq_true rfl⟩) hP hK hD hS hA (z_cutSS hD (by decide) (by decide) (by decide) u5) (ci := 2) (q0 := 0) rfl rfl rfl rfl hl.1 (Nat.le_of_ble_eq_true rfl) rfl dX4_bestPlace_40 ⟨Nat.zero_le _, Nat.zero_le _⟩ (fun H locs hP hD hS => ?_)
      obtain ⟨X6, e6, hf⟩ := z_ltE hf
      have hP : va_P D vwCl (z_dw c b a X6) H := by rw [e6]; exact hP
      have hD : va_D A (z_dw c b a X6) := by rw [e6]; exact hD
      clear e6
      refine lv_iconst (v := (-1 : Int32)) hx hb dX4_bestPlace_43 (by decide) ?_
      refine lv_istore_n (lv' := [(3, .int (-1 : Int32)), (0, .ref (b 0)), (1, .int p1), (2, .int p2)]) hx hb dX4_bestPlace_44 rfl hl (by decide) rfl (fun ls hl => ?_)
      refine lv_iconst (v := (0 : Int32)) hx hb dX4_bestPlace_45 (by decide) ?_
      refine lv_istore (lv' := [(4, .int (0 : Int32)), (3, .int (-1 : Int32)), (0, .ref (b 0)), (1, .int p1), (2, .int p2)]) hx hb dX4_bestPlace_46 hl (by decide) rfl (fun ls hl => ?_)
      refine lv_iconst (v := (0 : Int32)) hx hb dX4_bestPlace_48 (by decide) ?_
      refine lv_istore (lv' := [(5, .int (0 : Int32)), (4, .int (0 : Int32)), (3, .int (-1 : Int32)), (0, .ref (b 0)), (1, .int p1), (2, .int p2)]) hx hb dX4_bestPlace_49 hl (by decide) rfl (fun ls hl => ?_)
      exact L51 _ _ N _ _ _ _ hf H locs ls hP hD hS (lv_sub hl [3, 4, 5, 2, 1, 0] rfl)
    · have hf := z_ifT hf c4
      cases hf
abbrev rmX4_leastBribe : Room := { frames := 5, cells := 0, slots := 0, locals := 112 }
theorem qX4_leastBribe_19 : Cond.fieldLink RX4 19 "ProgramDrum" "now" "LProgramDrum$State;" ∈ wsX4_leastBribe := by decide +kernel
theorem iX4_leastBribe_X4 : ∀ w ∈ wsX40, w ∈ wsX4_leastBribe := by decide +kernel
theorem qX4_leastBribe_23 : Cond.fieldLink RX4 23 "ProgramDrum" "trial" "LProgramDrum$State;" ∈ wsX4_leastBribe := by decide +kernel
theorem iX4_leastBribe_X2 : ∀ w ∈ wsX20, w ∈ wsX4_leastBribe := by decide +kernel
set_option maxRecDepth 100000 in
set_option maxHeartbeats 4000000 in
theorem kX4_leastBribe (l : Launch) (D : va_G) (c : Nat → ClassId) (N : Nat) (b : Nat → Nat) (a : Nat → Nat → Nat) (sz : Nat) (X : z_X) (p1 : Int32) (r0 : Int32) (g0 : z_X) (hf : nX4_leastBribe N p1 X = some (r0, g0)) : Met l yX4_leastBribe wsX4_leastBribe rmX4_leastBribe (z_Pc D c sz (z_dw c b a X) [.ref (b 0), .int p1]) (z_Qi D (z_dw c b a) r0 g0 (va_A (z_dw c b a X) sz)) 0 0 (va_A (z_dw c b a X) sz) := by
  refine z_ofM (cc := cX4_leastBribe) (maxL := 3) (ret := (some .int)) (Qf := fun A => z_Qi D (z_dw c b a) r0 g0 A) (plainFor_of_name (by decide)) rfl (Nat.le_of_ble_eq_true rfl) ?_
  intro p e s m args below meth co A ls hx hb hr hml hts hown hlocks hnm hA hP hK hD hl hsz
  have hl : lv_has ls 3 [(0, .ref (b 0)), (1, .int p1)] := hl
  have hown : s.vm.findClass RX4 = some m.cls := hown
  obtain ⟨H, hH⟩ : ∃ H, H = s.heap := ⟨_, rfl⟩
  have hS : va_S A s.heap H [] := by rw [hH]; exact va_S.rf
  rw [← hH] at hP ⊢
  clear hH
  have L34 : ∀ (x1 : Int32) (fu : Nat) (x2 : Int32) (X : z_X), nlX4_leastBribe_34 N x1 fu x2 X = some (r0, g0) → ∀ (H : Heap) (locs : List Loc) (ls : Array Slot), va_P D vwCl (z_dw c b a X) H → va_D A (z_dw c b a X) → va_S A s.heap H locs → lv_has ls 3 [(0, .ref (b 0)), (1, .int x1), (2, .int x2)] → W p l e rmX4_leastBribe s m args below meth co H locs 0 0 (MQ below (z_Qi D (z_dw c b a) r0 g0 A) args s 0 0 A) (F0 m 34 ls []) := by
    intro x1 fu
    induction fu with
    | zero =>
      intro x2 X hf
      have hf : (none : Option (Int32 × z_X)) = some _ := hf
      cases hf
    | succ fu ih =>
      intro x2 X hf H locs ls hP hD hS hl
      rw [nlX4_leastBribe_34.eq_2] at hf
      refine lv_iload_n hx hb dX4_leastBribe_34 rfl (lv_at hl 2 rfl) ?_
      refine lv_bipush (v := (99 : Int32)) hx hb dX4_leastBribe_35 (by decide) ?_
      refine lv_icmp_gt (tgt := 78) hx hb dX4_leastBribe_37 (by decide) (fun c5 => ?_) (fun c5 => ?_)
      · have hf := z_ifT hf c5
        refine lv_iconst (v := (-1 : Int32)) hx hb dX4_leastBribe_78 (by decide) ?_
        exact z_ri (wf := (z_dw c b a)) hx hb hr hlocks hP hD hS hf dX4_leastBribe_79
      · have hf := z_ifF hf c5
        refine lv_aload_n hx hb dX4_leastBribe_40 rfl (lv_at hl 0 rfl) ?_
        refine va_get (D := D) (ci := 4) (v := .ref (a 1 0)) (C := RX4) (T := TX4) (N := 7) hx hb hts iX4_leastBribe_X4 hown hK.1 hP 0 rfl rfl 2 (by decide) (hts _ qX4_leastBribe_23) (fun _ h9 => h9) rfl dX4_leastBribe_41 ?_
        refine va_getN (D := D) (ci := 2) (v := .ref (a 1 5)) (C := RX2) (T := TX2) (N := 16) hx hb hts iX4_leastBribe_X2 hown hK.1 (z_subP hP (z_inS (by decide))) 0 rfl rfl 8 (by decide) (va_Nw.use rfl (hK.2.1 _ zF_X4_145)) (fun _ h9 => h9) rfl dX4_leastBribe_44 ?_
        refine lv_iload_n hx hb dX4_leastBribe_47 rfl (lv_at hl 1 rfl) ?_
        refine lv_iload_n hx hb dX4_leastBribe_48 rfl (lv_at hl 2 rfl) ?_
        obtain ⟨b6, hf⟩ := z_ckE hf
        refine va_iast hx hb hK.1 hP hD hS 28 0 rfl rfl (z_inE b6) dX4_leastBribe_49 (fun H locs hP hD hS => ?_)
        obtain ⟨X7, e7, hf⟩ := z_ltE hf
        have hP : va_P D vwCl (z_dw c b a X7) H := by rw [e7, ← z_putR1_5]; exact hP
        have hD : va_D A (z_dw c b a X7) := by rw [e7, ← z_putR1_5]; exact hD
        clear e7
        refine lv_aload_n hx hb dX4_leastBribe_50 rfl (lv_at hl 0 rfl) ?_
        refine va_get (D := D) (ci := 4) (v := .ref (a 1 0)) (C := RX4) (T := TX4) (N := 7) hx hb hts iX4_leastBribe_X4 hown hK.1 hP 0 rfl rfl 2 (by decide) (hts _ qX4_leastBribe_23) (fun _ h9 => h9) rfl dX4_leastBribe_51 ?_
        obtain ⟨r8, u8, h8, hf⟩ := z_b2E hf
        refine z_xVi (As := []) (rest := []) (wf := z_st c (a 1)) (g := (X7.2.2 1)) (u0 := u8) ⟨hx, hb, hml, hown, hts⟩ (kX2_layAll l D c N (a 1) H.size (X7.2.2 1)  r8 u8 h8) (cwV 0 hts gX4_leastBribe_X2_layAll rfl rfl rfl (by decide +kernel) ⟨Nat.le_of_ble_eq_true rfl, Nat.le_of_ble_eq_true rfl⟩) hP hK hD hS hA (z_cutS hD (by decide) u8) (ci := 2) (q0 := 0) rfl rfl rfl rfl hl.1 (Nat.le_of_ble_eq_true rfl) rfl dX4_leastBribe_54 ⟨Nat.zero_le _, Nat.zero_le _⟩ (fun H locs hP hD hS => ?_)
        obtain ⟨X9, e9, hf⟩ := z_ltE hf
        have hP : va_P D vwCl (z_dw c b a X9) H := by rw [e9]; exact hP
        have hD : va_D A (z_dw c b a X9) := by rw [e9]; exact hD
        clear e9
        refine lv_pop hx hb dX4_leastBribe_57 rfl ?_
        refine lv_aload_n hx hb dX4_leastBribe_58 rfl (lv_at hl 0 rfl) ?_
        refine va_get (D := D) (ci := 4) (v := .ref (a 1 0)) (C := RX4) (T := TX4) (N := 7) hx hb hts iX4_leastBribe_X4 hown hK.1 hP 0 rfl rfl 2 (by decide) (hts _ qX4_leastBribe_23) (fun _ h9 => h9) rfl dX4_leastBribe_59 ?_
        refine va_getN (D := D) (ci := 2) (v := .ref (a 1 7)) (C := RX2) (T := TX2) (N := 16) hx hb hts iX4_leastBribe_X2 hown hK.1 (z_subP hP (z_inS (by decide))) 0 rfl rfl 10 (by decide) (va_Nw.use rfl (hK.2.1 _ zF_X4_151)) (fun _ h9 => h9) rfl dX4_leastBribe_62 ?_
        refine lv_iload_n hx hb dX4_leastBribe_65 rfl (lv_at hl 1 rfl) ?_
        obtain ⟨b10, hf⟩ := z_ckE hf
        refine va_iald hx hb hK.1 (z_subP hP (z_inS (by decide))) 7 0 rfl rfl (z_inE b10) dX4_leastBribe_66 ?_
        refine lv_if_ne (tgt := 72) hx hb dX4_leastBribe_67 (by decide) (fun c11 => ?_) (fun c11 => ?_)
        · have hf := z_ifF hf c11
          refine lv_iinc (v := (x2 + (1 : Int32))) (lv' := [(2, .int (x2 + (1 : Int32))), (0, .ref (b 0)), (1, .int x1)]) hx hb dX4_leastBribe_72 hl (k := 2) rfl rfl (by decide) rfl (fun ls hl => ?_)
          refine lv_goto (tgt := 34) hx hb dX4_leastBribe_75 (by decide) ?_
          exact ih _ _ hf H locs ls hP hD hS (lv_sub hl [1, 2, 0] rfl)
        · have hf := z_ifT hf c11
          refine lv_iload_n hx hb dX4_leastBribe_70 rfl (lv_at hl 2 rfl) ?_
          exact z_ri (wf := (z_dw c b a)) hx hb hr hlocks hP hD hS hf dX4_leastBribe_71
  unfold nX4_leastBribe at hf
  generalize ([] : List Loc) = locs at hS ⊢
  refine lv_aload_n hx hb dX4_leastBribe_0 rfl (lv_at hl 0 rfl) ?_
  refine va_get (D := D) (ci := 4) (v := .ref (a 0 0)) (C := RX4) (T := TX4) (N := 7) hx hb hts iX4_leastBribe_X4 hown hK.1 hP 0 rfl rfl 1 (by decide) (hts _ qX4_leastBribe_19) (fun _ h9 => h9) rfl dX4_leastBribe_1 ?_
  refine lv_iload_n hx hb dX4_leastBribe_4 rfl (lv_at hl 1 rfl) ?_
  obtain ⟨r1, h1, hf⟩ := z_bE hf
  refine z_xVi (As := [.int p1]) (rest := []) (wf := z_st c (a 0)) (g := (X.2.2 0)) (u0 := (X.2.2 0)) ⟨hx, hb, hml, hown, hts⟩ (kX2_has l D c N (a 0) H.size (X.2.2 0) p1 r1 h1) (cwV 1 hts gX4_leastBribe_X2_has rfl rfl rfl (by decide +kernel) ⟨Nat.le_of_ble_eq_true rfl, Nat.le_of_ble_eq_true rfl⟩) hP hK hD hS hA (z_cutSp hD (by decide)) (ci := 2) (q0 := 0) rfl rfl rfl rfl hl.1 (Nat.le_of_ble_eq_true rfl) rfl dX4_leastBribe_5 ⟨Nat.zero_le _, Nat.zero_le _⟩ (fun H locs hP hD hS => ?_)
  refine lv_if_ne (tgt := 21) hx hb dX4_leastBribe_8 (by decide) (fun c2 => ?_) (fun c2 => ?_)
  · have hf := z_ifF hf c2
    refine lv_aload_n hx hb dX4_leastBribe_21 rfl (lv_at hl 0 rfl) ?_
    refine va_get (D := D) (ci := 4) (v := .ref (a 1 0)) (C := RX4) (T := TX4) (N := 7) hx hb hts iX4_leastBribe_X4 hown hK.1 hP 0 rfl rfl 2 (by decide) (hts _ qX4_leastBribe_23) (fun _ h9 => h9) rfl dX4_leastBribe_22 ?_
    refine lv_aload_n hx hb dX4_leastBribe_25 rfl (lv_at hl 0 rfl) ?_
    refine va_get (D := D) (ci := 4) (v := .ref (a 0 0)) (C := RX4) (T := TX4) (N := 7) hx hb hts iX4_leastBribe_X4 hown hK.1 hP 0 rfl rfl 1 (by decide) (hts _ qX4_leastBribe_19) (fun _ h9 => h9) rfl dX4_leastBribe_26 ?_
    obtain ⟨u3, h3, hf⟩ := z_bE hf
    refine z_xVv (As := [.ref (a 0 0)]) (rest := []) (wf := fun u : z_R => z_st c (a 1) u ++ z_st c (a 0) (X.2.2 0)) (g := (X.2.2 1)) (u0 := u3) ⟨hx, hb, hml, hown, hts⟩ (kX2_copyFrom l D c N (a 1) (a 0) H.size (X.2.2 0) (X.2.2 1) u3 h3) (cwV 1 hts gX4_leastBribe_X2_copyFrom rfl rfl rfl (by decide +kernel) ⟨Nat.le_of_ble_eq_true rfl, Nat.le_of_ble_eq_true rfl⟩) hP hK hD hS hA (z_cutSS hD (by decide) (by decide) (by decide) u3) (ci := 2) (q0 := 0) rfl rfl rfl rfl hl.1 (Nat.le_of_ble_eq_true rfl) rfl dX4_leastBribe_29 ⟨Nat.zero_le _, Nat.zero_le _⟩ (fun H locs hP hD hS => ?_)
    obtain ⟨X4, e4, hf⟩ := z_ltE hf
    have hP : va_P D vwCl (z_dw c b a X4) H := by rw [e4]; exact hP
    have hD : va_D A (z_dw c b a X4) := by rw [e4]; exact hD
    clear e4
    refine lv_iconst (v := (0 : Int32)) hx hb dX4_leastBribe_32 (by decide) ?_
    refine lv_istore_n (lv' := [(2, .int (0 : Int32)), (0, .ref (b 0)), (1, .int p1)]) hx hb dX4_leastBribe_33 rfl hl (by decide) rfl (fun ls hl => ?_)
    exact L34 _ N _ _ hf H locs ls hP hD hS (lv_sub hl [1, 2, 0] rfl)
  · have hf := z_ifT hf c2
    cases hf
abbrev rmX4_saves : Room := { frames := 5, cells := 0, slots := 0, locals := 113 }
theorem qX4_saves_19 : Cond.fieldLink RX4 19 "ProgramDrum" "now" "LProgramDrum$State;" ∈ wsX4_saves := by decide +kernel
theorem iX4_saves_X4 : ∀ w ∈ wsX40, w ∈ wsX4_saves := by decide +kernel
theorem qX4_saves_23 : Cond.fieldLink RX4 23 "ProgramDrum" "trial" "LProgramDrum$State;" ∈ wsX4_saves := by decide +kernel
set_option maxRecDepth 100000 in
set_option maxHeartbeats 4000000 in
theorem kX4_saves (l : Launch) (D : va_G) (c : Nat → ClassId) (N : Nat) (b : Nat → Nat) (a : Nat → Nat → Nat) (sz : Nat) (X : z_X) (p1 : Int32) (r0 : Int32) (g0 : z_X) (hf : nX4_saves N p1 X = some (r0, g0)) : Met l yX4_saves wsX4_saves rmX4_saves (z_Pc D c sz (z_dw c b a X) [.ref (b 0), .int p1]) (z_Qi D (z_dw c b a) r0 g0 (va_A (z_dw c b a X) sz)) 0 0 (va_A (z_dw c b a X) sz) := by
  refine z_ofM (cc := cX4_saves) (maxL := 2) (ret := (some .int)) (Qf := fun A => z_Qi D (z_dw c b a) r0 g0 A) (plainFor_of_name (by decide)) rfl (Nat.le_of_ble_eq_true rfl) ?_
  intro p e s m args below meth co A ls hx hb hr hml hts hown hlocks hnm hA hP hK hD hl hsz
  have hl : lv_has ls 2 [(0, .ref (b 0)), (1, .int p1)] := hl
  have hown : s.vm.findClass RX4 = some m.cls := hown
  obtain ⟨H, hH⟩ : ∃ H, H = s.heap := ⟨_, rfl⟩
  have hS : va_S A s.heap H [] := by rw [hH]; exact va_S.rf
  rw [← hH] at hP ⊢
  clear hH
  unfold nX4_saves at hf
  generalize ([] : List Loc) = locs at hS ⊢
  refine lv_aload_n hx hb dX4_saves_0 rfl (lv_at hl 0 rfl) ?_
  refine va_get (D := D) (ci := 4) (v := .ref (a 0 0)) (C := RX4) (T := TX4) (N := 7) hx hb hts iX4_saves_X4 hown hK.1 hP 0 rfl rfl 1 (by decide) (hts _ qX4_saves_19) (fun _ h9 => h9) rfl dX4_saves_1 ?_
  refine lv_iload_n hx hb dX4_saves_4 rfl (lv_at hl 1 rfl) ?_
  obtain ⟨r1, h1, hf⟩ := z_bE hf
  refine z_xVi (As := [.int p1]) (rest := []) (wf := z_st c (a 0)) (g := (X.2.2 0)) (u0 := (X.2.2 0)) ⟨hx, hb, hml, hown, hts⟩ (kX2_has l D c N (a 0) H.size (X.2.2 0) p1 r1 h1) (cwV 1 hts gX4_saves_X2_has rfl rfl rfl (by decide +kernel) ⟨Nat.le_of_ble_eq_true rfl, Nat.le_of_ble_eq_true rfl⟩) hP hK hD hS hA (z_cutSp hD (by decide)) (ci := 2) (q0 := 0) rfl rfl rfl rfl hl.1 (Nat.le_of_ble_eq_true rfl) rfl dX4_saves_5 ⟨Nat.zero_le _, Nat.zero_le _⟩ (fun H locs hP hD hS => ?_)
  refine lv_if_ne (tgt := 21) hx hb dX4_saves_8 (by decide) (fun c2 => ?_) (fun c2 => ?_)
  · have hf := z_ifF hf c2
    refine lv_aload_n hx hb dX4_saves_21 rfl (lv_at hl 0 rfl) ?_
    refine va_get (D := D) (ci := 4) (v := .ref (a 1 0)) (C := RX4) (T := TX4) (N := 7) hx hb hts iX4_saves_X4 hown hK.1 hP 0 rfl rfl 2 (by decide) (hts _ qX4_saves_23) (fun _ h9 => h9) rfl dX4_saves_22 ?_
    refine lv_aload_n hx hb dX4_saves_25 rfl (lv_at hl 0 rfl) ?_
    refine va_get (D := D) (ci := 4) (v := .ref (a 0 0)) (C := RX4) (T := TX4) (N := 7) hx hb hts iX4_saves_X4 hown hK.1 hP 0 rfl rfl 1 (by decide) (hts _ qX4_saves_19) (fun _ h9 => h9) rfl dX4_saves_26 ?_
    obtain ⟨u3, h3, hf⟩ := z_bE hf
    refine z_xVv (As := [.ref (a 0 0)]) (rest := []) (wf := fun u : z_R => z_st c (a 1) u ++ z_st c (a 0) (X.2.2 0)) (g := (X.2.2 1)) (u0 := u3) ⟨hx, hb, hml, hown, hts⟩ (kX2_copyFrom l D c N (a 1) (a 0) H.size (X.2.2 0) (X.2.2 1) u3 h3) (cwV 1 hts gX4_saves_X2_copyFrom rfl rfl rfl (by decide +kernel) ⟨Nat.le_of_ble_eq_true rfl, Nat.le_of_ble_eq_true rfl⟩) hP hK hD hS hA (z_cutSS hD (by decide) (by decide) (by decide) u3) (ci := 2) (q0 := 0) rfl rfl rfl rfl hl.1 (Nat.le_of_ble_eq_true rfl) rfl dX4_saves_29 ⟨Nat.zero_le _, Nat.zero_le _⟩ (fun H locs hP hD hS => ?_)
    obtain ⟨X4, e4, hf⟩ := z_ltE hf
    have hP : va_P D vwCl (z_dw c b a X4) H := by rw [e4]; exact hP
    have hD : va_D A (z_dw c b a X4) := by rw [e4]; exact hD
    clear e4
    refine lv_aload_n hx hb dX4_saves_32 rfl (lv_at hl 0 rfl) ?_
    refine va_get (D := D) (ci := 4) (v := .ref (a 1 0)) (C := RX4) (T := TX4) (N := 7) hx hb hts iX4_saves_X4 hown hK.1 hP 0 rfl rfl 2 (by decide) (hts _ qX4_saves_23) (fun _ h9 => h9) rfl dX4_saves_33 ?_
    obtain ⟨r5, u5, h5, hf⟩ := z_b2E hf
    refine z_xVi (As := []) (rest := []) (wf := z_st c (a 1)) (g := (X4.2.2 1)) (u0 := u5) ⟨hx, hb, hml, hown, hts⟩ (kX2_layAll l D c N (a 1) H.size (X4.2.2 1)  r5 u5 h5) (cwV 0 hts gX4_saves_X2_layAll rfl rfl rfl (by decide +kernel) ⟨Nat.le_of_ble_eq_true rfl, Nat.le_of_ble_eq_true rfl⟩) hP hK hD hS hA (z_cutS hD (by decide) u5) (ci := 2) (q0 := 0) rfl rfl rfl rfl hl.1 (Nat.le_of_ble_eq_true rfl) rfl dX4_saves_36 ⟨Nat.zero_le _, Nat.zero_le _⟩ (fun H locs hP hD hS => ?_)
    obtain ⟨X6, e6, hf⟩ := z_ltE hf
    have hP : va_P D vwCl (z_dw c b a X6) H := by rw [e6]; exact hP
    have hD : va_D A (z_dw c b a X6) := by rw [e6]; exact hD
    clear e6
    refine lv_pop hx hb dX4_saves_39 rfl ?_
    refine lv_aload_n hx hb dX4_saves_40 rfl (lv_at hl 0 rfl) ?_
    refine lv_aload_n hx hb dX4_saves_41 rfl (lv_at hl 0 rfl) ?_
    refine va_get (D := D) (ci := 4) (v := .ref (a 0 0)) (C := RX4) (T := TX4) (N := 7) hx hb hts iX4_saves_X4 hown hK.1 hP 0 rfl rfl 1 (by decide) (hts _ qX4_saves_19) (fun _ h9 => h9) rfl dX4_saves_42 ?_
    refine lv_iload_n hx hb dX4_saves_45 rfl (lv_at hl 1 rfl) ?_
    obtain ⟨r7, X7, h7, hf⟩ := z_b2E hf
    refine z_cVi (As := [.ref (a 0 0), .int p1]) (rest := []) (wf := (z_dw c b a)) (g := X6) (u0 := X7) ⟨hx, hb, hml, hown, hts⟩ (kX4_ticksOfRun l D c N b a H.size 0 (by decide) X6 p1 r7 X7 h7) (cwV 2 hts gX4_saves_X4_ticksOfRun rfl rfl rfl (by decide +kernel) ⟨Nat.le_of_ble_eq_true rfl, Nat.le_of_ble_eq_true rfl⟩) hP hK hD hS hA (ci := 4) (q0 := 0) rfl rfl rfl rfl hl.1 (Nat.le_of_ble_eq_true rfl) rfl dX4_saves_46 ⟨Nat.zero_le _, Nat.zero_le _⟩ (fun H locs hP hD hS => ?_)
    refine lv_aload_n hx hb dX4_saves_49 rfl (lv_at hl 0 rfl) ?_
    refine lv_aload_n hx hb dX4_saves_50 rfl (lv_at hl 0 rfl) ?_
    refine va_get (D := D) (ci := 4) (v := .ref (a 1 0)) (C := RX4) (T := TX4) (N := 7) hx hb hts iX4_saves_X4 hown hK.1 hP 0 rfl rfl 2 (by decide) (hts _ qX4_saves_23) (fun _ h9 => h9) rfl dX4_saves_51 ?_
    refine lv_iload_n hx hb dX4_saves_54 rfl (lv_at hl 1 rfl) ?_
    obtain ⟨r8, X8, h8, hf⟩ := z_b2E hf
    refine z_cVi (As := [.ref (a 1 0), .int p1]) (rest := [.int r7]) (wf := (z_dw c b a)) (g := X7) (u0 := X8) ⟨hx, hb, hml, hown, hts⟩ (kX4_ticksOfRun l D c N b a H.size 1 (by decide) X7 p1 r8 X8 h8) (cwV 2 hts gX4_saves_X4_ticksOfRun rfl rfl rfl (by decide +kernel) ⟨Nat.le_of_ble_eq_true rfl, Nat.le_of_ble_eq_true rfl⟩) hP hK hD hS hA (ci := 4) (q0 := 0) rfl rfl rfl rfl hl.1 (Nat.le_of_ble_eq_true rfl) rfl dX4_saves_55 ⟨Nat.zero_le _, Nat.zero_le _⟩ (fun H locs hP hD hS => ?_)
    refine lv_isub hx hb dX4_saves_58 ?_
    exact z_ri (wf := (z_dw c b a)) hx hb hr hlocks hP hD hS hf dX4_saves_59
  · have hf := z_ifT hf c2
    cases hf
