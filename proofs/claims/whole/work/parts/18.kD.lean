abbrev rmX1_forget : Room := { frames := 0, cells := 0, slots := 0, locals := 0 }
theorem qX1_forget_18 : Cond.fieldLink RX1 18 "ProgramDrum$Memory" "oldest" "I" ∈ wsX1_forget := by decide +kernel
theorem iX1_forget_X1 : ∀ w ∈ wsX10, w ∈ wsX1_forget := by decide +kernel
theorem qX1_forget_22 : Cond.fieldLink RX1 22 "ProgramDrum$Memory" "size" "I" ∈ wsX1_forget := by decide +kernel
set_option maxRecDepth 100000 in
set_option maxHeartbeats 4000000 in
theorem kX1_forget (l : Launch) (D : va_G) (c : Nat → ClassId) (N : Nat) (b : Nat → Nat) (a : Nat → Nat → Nat) (sz : Nat) (X : z_X) (g0 : z_X) (hf : fX1_forget N X = some g0) : Met l yX1_forget wsX1_forget rmX1_forget (z_Pc D c sz (z_dw c b a X) [.ref (b 3)]) (z_Qv D (z_dw c b a) g0 (va_A (z_dw c b a X) sz)) 0 0 (va_A (z_dw c b a X) sz) := by
  refine z_ofM (cc := cX1_forget) (maxL := 1) (ret := none) (Qf := fun A => z_Qv D (z_dw c b a) g0 A) (plainFor_of_name (by decide)) rfl (Nat.le_of_ble_eq_true rfl) ?_
  intro p e s m args below meth co A ls hx hb hr hml hts hown hlocks hnm hA hP hK hD hl hsz
  have hl : lv_has ls 1 [(0, .ref (b 3))] := hl
  have hown : s.vm.findClass RX1 = some m.cls := hown
  obtain ⟨H, hH⟩ : ∃ H, H = s.heap := ⟨_, rfl⟩
  have hS : va_S A s.heap H [] := by rw [hH]; exact va_S.rf
  rw [← hH] at hP ⊢
  clear hH
  unfold fX1_forget at hf
  generalize ([] : List Loc) = locs at hS ⊢
  refine lv_aload_n hx hb dX1_forget_0 rfl (lv_at hl 0 rfl) ?_
  refine lv_iconst (v := (0 : Int32)) hx hb dX1_forget_1 (by decide) ?_
  refine va_put (D := D) (ci := 1) (v := .int (0 : Int32)) (ty := .int) (C := RX1) (T := TX1) (N := 3) hx hb hts iX1_forget_X1 tyX1 tyX1_ok nmX1 hown hK.1 hP hD hS 3 rfl rfl 1 (by decide) (hts _ qX1_forget_18) (fun _ h9 => h9) rfl (by decide +kernel) rfl rfl (Nat.le_of_ble_eq_true rfl) dX1_forget_2 (fun H locs hP hD hS => ?_)
  obtain ⟨X1, e1, hf⟩ := z_ltE hf
  have hP : va_P D vwCl (z_dw c b a X1) H := by rw [e1]; exact hP
  have hD : va_D A (z_dw c b a X1) := by rw [e1]; exact hD
  clear e1
  refine lv_aload_n hx hb dX1_forget_5 rfl (lv_at hl 0 rfl) ?_
  refine lv_iconst (v := (0 : Int32)) hx hb dX1_forget_6 (by decide) ?_
  refine va_put (D := D) (ci := 1) (v := .int (0 : Int32)) (ty := .int) (C := RX1) (T := TX1) (N := 3) hx hb hts iX1_forget_X1 tyX1 tyX1_ok nmX1 hown hK.1 hP hD hS 3 rfl rfl 2 (by decide) (hts _ qX1_forget_22) (fun _ h9 => h9) rfl (by decide +kernel) rfl rfl (Nat.le_of_ble_eq_true rfl) dX1_forget_7 (fun H locs hP hD hS => ?_)
  obtain ⟨X2, e2, hf⟩ := z_ltE hf
  have hP : va_P D vwCl (z_dw c b a X2) H := by rw [e2]; exact hP
  have hD : va_D A (z_dw c b a X2) := by rw [e2]; exact hD
  clear e2
  exact z_rv (wf := (z_dw c b a)) hx hb hr hlocks hP hD hS hf dX1_forget_10
abbrev rmX1_remember : Room := { frames := 2, cells := 0, slots := 0, locals := 43 }
theorem qX1_remember_11 : Cond.fieldLink RX1 11 "ProgramDrum$Memory" "states" "[LProgramDrum$State;" ∈ wsX1_remember := by decide +kernel
theorem iX1_remember_X1 : ∀ w ∈ wsX10, w ∈ wsX1_remember := by decide +kernel
theorem qX1_remember_18 : Cond.fieldLink RX1 18 "ProgramDrum$Memory" "oldest" "I" ∈ wsX1_remember := by decide +kernel
theorem qX1_remember_22 : Cond.fieldLink RX1 22 "ProgramDrum$Memory" "size" "I" ∈ wsX1_remember := by decide +kernel
set_option maxRecDepth 100000 in
set_option maxHeartbeats 4000000 in
theorem kX1_remember (l : Launch) (D : va_G) (c : Nat → ClassId) (N : Nat) (b : Nat → Nat) (a : Nat → Nat → Nat) (sz : Nat) (X : z_X) (g0 : z_X) (hf : fX1_remember N X = some g0) : Met l yX1_remember wsX1_remember rmX1_remember (z_Pc D c sz (z_dw c b a X) [.ref (b 3), .ref (a 0 0)]) (z_Qv D (z_dw c b a) g0 (va_A (z_dw c b a X) sz)) 0 0 (va_A (z_dw c b a X) sz) := by
  refine z_ofM (cc := cX1_remember) (maxL := 3) (ret := none) (Qf := fun A => z_Qv D (z_dw c b a) g0 A) (plainFor_of_name (by decide)) rfl (Nat.le_of_ble_eq_true rfl) ?_
  intro p e s m args below meth co A ls hx hb hr hml hts hown hlocks hnm hA hP hK hD hl hsz
  have hl : lv_has ls 3 [(0, .ref (b 3)), (1, .ref (a 0 0))] := hl
  have hown : s.vm.findClass RX1 = some m.cls := hown
  obtain ⟨H, hH⟩ : ∃ H, H = s.heap := ⟨_, rfl⟩
  have hS : va_S A s.heap H [] := by rw [hH]; exact va_S.rf
  rw [← hH] at hP ⊢
  clear hH
  unfold fX1_remember at hf
  generalize ([] : List Loc) = locs at hS ⊢
  refine lv_aload_n hx hb dX1_remember_0 rfl (lv_at hl 0 rfl) ?_
  refine va_get (D := D) (ci := 1) (v := .ref (b 4)) (C := RX1) (T := TX1) (N := 3) hx hb hts iX1_remember_X1 hown hK.1 hP 3 rfl rfl 0 (by decide) (hts _ qX1_remember_11) (fun _ h9 => h9) rfl dX1_remember_1 ?_
  refine lv_aload_n hx hb dX1_remember_4 rfl (lv_at hl 0 rfl) ?_
  refine va_get (D := D) (ci := 1) (v := .int (X.2.1 0 0)) (C := RX1) (T := TX1) (N := 3) hx hb hts iX1_remember_X1 hown hK.1 hP 3 rfl rfl 1 (by decide) (hts _ qX1_remember_18) (fun _ h9 => h9) rfl dX1_remember_5 ?_
  refine lv_aload_n hx hb dX1_remember_8 rfl (lv_at hl 0 rfl) ?_
  refine va_get (D := D) (ci := 1) (v := .int (X.2.1 0 1)) (C := RX1) (T := TX1) (N := 3) hx hb hts iX1_remember_X1 hown hK.1 hP 3 rfl rfl 2 (by decide) (hts _ qX1_remember_22) (fun _ h9 => h9) rfl dX1_remember_9 ?_
  refine lv_iadd hx hb dX1_remember_12 ?_
  refine lv_bipush (v := (14 : Int32)) hx hb dX1_remember_13 (by decide) ?_
  refine lv_irem hx hb dX1_remember_15 (by decide) ?_
  obtain ⟨b1, hf⟩ := z_ckE hf
  have k1 := z_k3 b1
  refine va_aldq hx hb hK.1 hP 4 2 rfl rfl (z_inE b1) dX1_remember_16 ?_
  refine z_show (st := .ref (a (((((X.2.1 0 0) + (X.2.1 0 1)) - ((X.2.1 0 0) + (X.2.1 0 1)) / (14 : Int32) * (14 : Int32))).toNatClampNeg + 3) 0) :: _) rfl ?_
  refine lv_astore_n (lv' := [(2, .ref (a (((((X.2.1 0 0) + (X.2.1 0 1)) - ((X.2.1 0 0) + (X.2.1 0 1)) / (14 : Int32) * (14 : Int32))).toNatClampNeg + 3) 0)), (0, .ref (b 3)), (1, .ref (a 0 0))]) hx hb dX1_remember_17 rfl hl (by decide) rfl (fun ls hl => ?_)
  refine lv_aload_n hx hb dX1_remember_18 rfl (lv_at hl 0 rfl) ?_
  refine lv_ifnull hx hb dX1_remember_19 ?_
  refine lv_aload_n hx hb dX1_remember_22 rfl (lv_at hl 0 rfl) ?_
  refine lv_aload_n hx hb dX1_remember_23 rfl (lv_at hl 2 rfl) ?_
  obtain ⟨u2, h2, hf⟩ := z_bE hf
  refine z_xVv (As := [.ref (a 0 0)]) (rest := []) (wf := fun u : z_R => z_st c (a (((((X.2.1 0 0) + (X.2.1 0 1)) - ((X.2.1 0 0) + (X.2.1 0 1)) / (14 : Int32) * (14 : Int32))).toNatClampNeg + 3)) u ++ z_st c (a 0) (X.2.2 0)) (g := (X.2.2 (((((X.2.1 0 0) + (X.2.1 0 1)) - ((X.2.1 0 0) + (X.2.1 0 1)) / (14 : Int32) * (14 : Int32))).toNatClampNeg + 3))) (u0 := u2) ⟨hx, hb, hml, hown, hts⟩ (kX2_copyFrom l D c N (a (((((X.2.1 0 0) + (X.2.1 0 1)) - ((X.2.1 0 0) + (X.2.1 0 1)) / (14 : Int32) * (14 : Int32))).toNatClampNeg + 3)) (a 0) H.size (X.2.2 0) (X.2.2 (((((X.2.1 0 0) + (X.2.1 0 1)) - ((X.2.1 0 0) + (X.2.1 0 1)) / (14 : Int32) * (14 : Int32))).toNatClampNeg + 3)) u2 h2) (cwV 1 hts gX1_remember_X2_copyFrom rfl rfl rfl (by decide +kernel) ⟨Nat.le_of_ble_eq_true rfl, Nat.le_of_ble_eq_true rfl⟩) hP hK hD hS hA (z_cutSS hD k1 (by decide) (by omega) u2) (ci := 2) (q0 := 0) rfl rfl rfl rfl hl.1 (Nat.le_of_ble_eq_true rfl) rfl dX1_remember_24 ⟨Nat.zero_le _, Nat.zero_le _⟩ (fun H locs hP hD hS => ?_)
  obtain ⟨X3, e3, hf⟩ := z_ltE hf
  have hP : va_P D vwCl (z_dw c b a X3) H := by rw [e3]; exact hP
  have hD : va_D A (z_dw c b a X3) := by rw [e3]; exact hD
  clear e3
  refine lv_aload_n hx hb dX1_remember_27 rfl (lv_at hl 1 rfl) ?_
  refine va_get (D := D) (ci := 1) (v := .int (X3.2.1 0 1)) (C := RX1) (T := TX1) (N := 3) hx hb hts iX1_remember_X1 hown hK.1 hP 3 rfl rfl 2 (by decide) (hts _ qX1_remember_22) (fun _ h9 => h9) rfl dX1_remember_28 ?_
  refine lv_bipush (v := (14 : Int32)) hx hb dX1_remember_31 (by decide) ?_
  refine lv_icmp_ge (tgt := 49) hx hb dX1_remember_33 (by decide) (fun c4 => ?_) (fun c4 => ?_)
  · have hf := z_ifT hf c4
    refine lv_aload_n hx hb dX1_remember_49 rfl (lv_at hl 1 rfl) ?_
    refine lv_aload_n hx hb dX1_remember_50 rfl (lv_at hl 1 rfl) ?_
    refine va_get (D := D) (ci := 1) (v := .int (X3.2.1 0 0)) (C := RX1) (T := TX1) (N := 3) hx hb hts iX1_remember_X1 hown hK.1 hP 3 rfl rfl 1 (by decide) (hts _ qX1_remember_18) (fun _ h9 => h9) rfl dX1_remember_51 ?_
    refine lv_iconst (v := (1 : Int32)) hx hb dX1_remember_54 (by decide) ?_
    refine lv_iadd hx hb dX1_remember_55 ?_
    refine lv_bipush (v := (14 : Int32)) hx hb dX1_remember_56 (by decide) ?_
    refine lv_irem hx hb dX1_remember_58 (by decide) ?_
    refine va_put (D := D) (ci := 1) (v := .int (((X3.2.1 0 0) + (1 : Int32)) - ((X3.2.1 0 0) + (1 : Int32)) / (14 : Int32) * (14 : Int32))) (ty := .int) (C := RX1) (T := TX1) (N := 3) hx hb hts iX1_remember_X1 tyX1 tyX1_ok nmX1 hown hK.1 hP hD hS 3 rfl rfl 1 (by decide) (hts _ qX1_remember_18) (fun _ h9 => h9) rfl (by decide +kernel) rfl rfl (Nat.le_of_ble_eq_true rfl) dX1_remember_59 (fun H locs hP hD hS => ?_)
    obtain ⟨X5, e5, hf⟩ := z_ltE hf
    have hP : va_P D vwCl (z_dw c b a X5) H := by rw [e5]; exact hP
    have hD : va_D A (z_dw c b a X5) := by rw [e5]; exact hD
    clear e5
    exact z_rv (wf := (z_dw c b a)) hx hb hr hlocks hP hD hS hf dX1_remember_62
  · have hf := z_ifF hf c4
    refine lv_aload_n hx hb dX1_remember_36 rfl (lv_at hl 1 rfl) ?_
    refine lv_dup hx hb dX1_remember_37 rfl ?_
    refine va_get (D := D) (ci := 1) (v := .int (X3.2.1 0 1)) (C := RX1) (T := TX1) (N := 3) hx hb hts iX1_remember_X1 hown hK.1 hP 3 rfl rfl 2 (by decide) (hts _ qX1_remember_22) (fun _ h9 => h9) rfl dX1_remember_38 ?_
    refine lv_iconst (v := (1 : Int32)) hx hb dX1_remember_41 (by decide) ?_
    refine lv_iadd hx hb dX1_remember_42 ?_
    refine va_put (D := D) (ci := 1) (v := .int ((X3.2.1 0 1) + (1 : Int32))) (ty := .int) (C := RX1) (T := TX1) (N := 3) hx hb hts iX1_remember_X1 tyX1 tyX1_ok nmX1 hown hK.1 hP hD hS 3 rfl rfl 2 (by decide) (hts _ qX1_remember_22) (fun _ h9 => h9) rfl (by decide +kernel) rfl rfl (Nat.le_of_ble_eq_true rfl) dX1_remember_43 (fun H locs hP hD hS => ?_)
    obtain ⟨X6, e6, hf⟩ := z_ltE hf
    have hP : va_P D vwCl (z_dw c b a X6) H := by rw [e6]; exact hP
    have hD : va_D A (z_dw c b a X6) := by rw [e6]; exact hD
    clear e6
    refine lv_goto (tgt := 62) hx hb dX1_remember_46 (by decide) ?_
    exact z_rv (wf := (z_dw c b a)) hx hb hr hlocks hP hD hS hf dX1_remember_62
abbrev rmX1_bringBack : Room := { frames := 2, cells := 0, slots := 0, locals := 43 }
theorem qX1_bringBack_22 : Cond.fieldLink RX1 22 "ProgramDrum$Memory" "size" "I" ∈ wsX1_bringBack := by decide +kernel
theorem iX1_bringBack_X1 : ∀ w ∈ wsX10, w ∈ wsX1_bringBack := by decide +kernel
theorem qX1_bringBack_11 : Cond.fieldLink RX1 11 "ProgramDrum$Memory" "states" "[LProgramDrum$State;" ∈ wsX1_bringBack := by decide +kernel
theorem qX1_bringBack_18 : Cond.fieldLink RX1 18 "ProgramDrum$Memory" "oldest" "I" ∈ wsX1_bringBack := by decide +kernel
set_option maxRecDepth 100000 in
set_option maxHeartbeats 4000000 in
theorem kX1_bringBack (l : Launch) (D : va_G) (c : Nat → ClassId) (N : Nat) (b : Nat → Nat) (a : Nat → Nat → Nat) (sz : Nat) (X : z_X) (g0 : z_X) (hf : fX1_bringBack N X = some g0) : Met l yX1_bringBack wsX1_bringBack rmX1_bringBack (z_Pc D c sz (z_dw c b a X) [.ref (b 3), .ref (a 0 0)]) (z_Qv D (z_dw c b a) g0 (va_A (z_dw c b a X) sz)) 0 0 (va_A (z_dw c b a X) sz) := by
  refine z_ofM (cc := cX1_bringBack) (maxL := 3) (ret := none) (Qf := fun A => z_Qv D (z_dw c b a) g0 A) (plainFor_of_name (by decide)) rfl (Nat.le_of_ble_eq_true rfl) ?_
  intro p e s m args below meth co A ls hx hb hr hml hts hown hlocks hnm hA hP hK hD hl hsz
  have hl : lv_has ls 3 [(0, .ref (b 3)), (1, .ref (a 0 0))] := hl
  have hown : s.vm.findClass RX1 = some m.cls := hown
  obtain ⟨H, hH⟩ : ∃ H, H = s.heap := ⟨_, rfl⟩
  have hS : va_S A s.heap H [] := by rw [hH]; exact va_S.rf
  rw [← hH] at hP ⊢
  clear hH
  unfold fX1_bringBack at hf
  generalize ([] : List Loc) = locs at hS ⊢
  refine lv_aload_n hx hb dX1_bringBack_0 rfl (lv_at hl 0 rfl) ?_
  refine va_get (D := D) (ci := 1) (v := .int (X.2.1 0 1)) (C := RX1) (T := TX1) (N := 3) hx hb hts iX1_bringBack_X1 hown hK.1 hP 3 rfl rfl 2 (by decide) (hts _ qX1_bringBack_22) (fun _ h9 => h9) rfl dX1_bringBack_1 ?_
  refine lv_iconst (v := (1 : Int32)) hx hb dX1_bringBack_4 (by decide) ?_
  refine lv_icmp_ge (tgt := 9) hx hb dX1_bringBack_5 (by decide) (fun c1 => ?_) (fun c1 => ?_)
  · have hf := z_ifT hf c1
    refine lv_aload_n hx hb dX1_bringBack_9 rfl (lv_at hl 0 rfl) ?_
    refine lv_dup hx hb dX1_bringBack_10 rfl ?_
    refine va_get (D := D) (ci := 1) (v := .int (X.2.1 0 1)) (C := RX1) (T := TX1) (N := 3) hx hb hts iX1_bringBack_X1 hown hK.1 hP 3 rfl rfl 2 (by decide) (hts _ qX1_bringBack_22) (fun _ h9 => h9) rfl dX1_bringBack_11 ?_
    refine lv_iconst (v := (1 : Int32)) hx hb dX1_bringBack_14 (by decide) ?_
    refine lv_isub hx hb dX1_bringBack_15 ?_
    refine va_put (D := D) (ci := 1) (v := .int ((X.2.1 0 1) - (1 : Int32))) (ty := .int) (C := RX1) (T := TX1) (N := 3) hx hb hts iX1_bringBack_X1 tyX1 tyX1_ok nmX1 hown hK.1 hP hD hS 3 rfl rfl 2 (by decide) (hts _ qX1_bringBack_22) (fun _ h9 => h9) rfl (by decide +kernel) rfl rfl (Nat.le_of_ble_eq_true rfl) dX1_bringBack_16 (fun H locs hP hD hS => ?_)
    obtain ⟨X2, e2, hf⟩ := z_ltE hf
    have hP : va_P D vwCl (z_dw c b a X2) H := by rw [e2]; exact hP
    have hD : va_D A (z_dw c b a X2) := by rw [e2]; exact hD
    clear e2
    refine lv_aload_n hx hb dX1_bringBack_19 rfl (lv_at hl 0 rfl) ?_
    refine va_get (D := D) (ci := 1) (v := .ref (b 4)) (C := RX1) (T := TX1) (N := 3) hx hb hts iX1_bringBack_X1 hown hK.1 hP 3 rfl rfl 0 (by decide) (hts _ qX1_bringBack_11) (fun _ h9 => h9) rfl dX1_bringBack_20 ?_
    refine lv_aload_n hx hb dX1_bringBack_23 rfl (lv_at hl 0 rfl) ?_
    refine va_get (D := D) (ci := 1) (v := .int (X2.2.1 0 0)) (C := RX1) (T := TX1) (N := 3) hx hb hts iX1_bringBack_X1 hown hK.1 hP 3 rfl rfl 1 (by decide) (hts _ qX1_bringBack_18) (fun _ h9 => h9) rfl dX1_bringBack_24 ?_
    refine lv_aload_n hx hb dX1_bringBack_27 rfl (lv_at hl 0 rfl) ?_
    refine va_get (D := D) (ci := 1) (v := .int (X2.2.1 0 1)) (C := RX1) (T := TX1) (N := 3) hx hb hts iX1_bringBack_X1 hown hK.1 hP 3 rfl rfl 2 (by decide) (hts _ qX1_bringBack_22) (fun _ h9 => h9) rfl dX1_bringBack_28 ?_
    refine lv_iadd hx hb dX1_bringBack_31 ?_
    refine lv_bipush (v := (14 : Int32)) hx hb dX1_bringBack_32 (by decide) ?_
    refine lv_irem hx hb dX1_bringBack_34 (by decide) ?_
    obtain ⟨b3, hf⟩ := z_ckE hf
    have k3 := z_k3 b3
    refine va_aldq hx hb hK.1 hP 4 2 rfl rfl (z_inE b3) dX1_bringBack_35 ?_
    refine z_show (st := .ref (a (((((X2.2.1 0 0) + (X2.2.1 0 1)) - ((X2.2.1 0 0) + (X2.2.1 0 1)) / (14 : Int32) * (14 : Int32))).toNatClampNeg + 3) 0) :: _) rfl ?_
    refine lv_astore_n (lv' := [(2, .ref (a (((((X2.2.1 0 0) + (X2.2.1 0 1)) - ((X2.2.1 0 0) + (X2.2.1 0 1)) / (14 : Int32) * (14 : Int32))).toNatClampNeg + 3) 0)), (0, .ref (b 3)), (1, .ref (a 0 0))]) hx hb dX1_bringBack_36 rfl hl (by decide) rfl (fun ls hl => ?_)
    refine lv_aload_n hx hb dX1_bringBack_37 rfl (lv_at hl 0 rfl) ?_
    refine lv_ifnull hx hb dX1_bringBack_38 ?_
    refine lv_aload_n hx hb dX1_bringBack_41 rfl (lv_at hl 2 rfl) ?_
    refine lv_aload_n hx hb dX1_bringBack_42 rfl (lv_at hl 0 rfl) ?_
    obtain ⟨u4, h4, hf⟩ := z_bE hf
    refine z_xVv (As := [.ref (a (((((X2.2.1 0 0) + (X2.2.1 0 1)) - ((X2.2.1 0 0) + (X2.2.1 0 1)) / (14 : Int32) * (14 : Int32))).toNatClampNeg + 3) 0)]) (rest := []) (wf := fun u : z_R => z_st c (a 0) u ++ z_st c (a (((((X2.2.1 0 0) + (X2.2.1 0 1)) - ((X2.2.1 0 0) + (X2.2.1 0 1)) / (14 : Int32) * (14 : Int32))).toNatClampNeg + 3)) (X2.2.2 (((((X2.2.1 0 0) + (X2.2.1 0 1)) - ((X2.2.1 0 0) + (X2.2.1 0 1)) / (14 : Int32) * (14 : Int32))).toNatClampNeg + 3))) (g := (X2.2.2 0)) (u0 := u4) ⟨hx, hb, hml, hown, hts⟩ (kX2_copyFrom l D c N (a 0) (a (((((X2.2.1 0 0) + (X2.2.1 0 1)) - ((X2.2.1 0 0) + (X2.2.1 0 1)) / (14 : Int32) * (14 : Int32))).toNatClampNeg + 3)) H.size (X2.2.2 (((((X2.2.1 0 0) + (X2.2.1 0 1)) - ((X2.2.1 0 0) + (X2.2.1 0 1)) / (14 : Int32) * (14 : Int32))).toNatClampNeg + 3)) (X2.2.2 0) u4 h4) (cwV 1 hts gX1_bringBack_X2_copyFrom rfl rfl rfl (by decide +kernel) ⟨Nat.le_of_ble_eq_true rfl, Nat.le_of_ble_eq_true rfl⟩) hP hK hD hS hA (z_cutSS hD (by decide) k3 (by omega) u4) (ci := 2) (q0 := 0) rfl rfl rfl rfl hl.1 (Nat.le_of_ble_eq_true rfl) rfl dX1_bringBack_43 ⟨Nat.zero_le _, Nat.zero_le _⟩ (fun H locs hP hD hS => ?_)
    obtain ⟨X5, e5, hf⟩ := z_ltE hf
    have hP : va_P D vwCl (z_dw c b a X5) H := by rw [e5]; exact hP
    have hD : va_D A (z_dw c b a X5) := by rw [e5]; exact hD
    clear e5
    exact z_rv (wf := (z_dw c b a)) hx hb hr hlocks hP hD hS hf dX1_bringBack_46
  · have hf := z_ifF hf c1
    exact z_rv (wf := (z_dw c b a)) hx hb hr hlocks hP hD hS hf dX1_bringBack_8
abbrev rmX3_fill : Room := { frames := 3, cells := 0, slots := 0, locals := 63 }
theorem qX3_fill_15 : Cond.fieldLink RX3 15 "ProgramDrum$Text" "length" "I" ∈ wsX3_fill := by decide +kernel
theorem iX3_fill_X3 : ∀ w ∈ wsX30, w ∈ wsX3_fill := by decide +kernel
set_option maxRecDepth 100000 in
set_option maxHeartbeats 4000000 in
theorem kX3_fill (l : Launch) (D : va_G) (c : Nat → ClassId) (N : Nat) (b : Nat → Nat) (a : Nat → Nat → Nat) (sz : Nat) (X : z_X) (g0 : z_X) (hf : fX3_fill N X = some g0) : Met l yX3_fill wsX3_fill rmX3_fill (z_Pc D c sz (z_dw c b a X) [.ref (b 1), .ref (a 0 0)]) (z_Qv D (z_dw c b a) g0 (va_A (z_dw c b a X) sz)) 0 0 (va_A (z_dw c b a X) sz) := by
  refine z_ofM (cc := cX3_fill) (maxL := 3) (ret := none) (Qf := fun A => z_Qv D (z_dw c b a) g0 A) (plainFor_of_name (by decide)) rfl (Nat.le_of_ble_eq_true rfl) ?_
  intro p e s m args below meth co A ls hx hb hr hml hts hown hlocks hnm hA hP hK hD hl hsz
  have hl : lv_has ls 3 [(0, .ref (b 1)), (1, .ref (a 0 0))] := hl
  have hown : s.vm.findClass RX3 = some m.cls := hown
  obtain ⟨H, hH⟩ : ∃ H, H = s.heap := ⟨_, rfl⟩
  have hS : va_S A s.heap H [] := by rw [hH]; exact va_S.rf
  rw [← hH] at hP ⊢
  clear hH
  have L11 : ∀ (fu : Nat) (x2 : Int32) (X : z_X), lX3_fill_11 N fu x2 X = some g0 → ∀ (H : Heap) (locs : List Loc) (ls : Array Slot), va_P D vwCl (z_dw c b a X) H → va_D A (z_dw c b a X) → va_S A s.heap H locs → lv_has ls 3 [(0, .ref (b 1)), (1, .ref (a 0 0)), (2, .int x2)] → W p l e rmX3_fill s m args below meth co H locs 0 0 (MQ below (z_Qv D (z_dw c b a) g0 A) args s 0 0 A) (F0 m 11 ls []) := by
    intro fu
    induction fu with
    | zero =>
      intro x2 X hf
      have hf : (none : Option (z_X)) = some _ := hf
      cases hf
    | succ fu ih =>
      intro x2 X hf H locs ls hP hD hS hl
      rw [lX3_fill_11.eq_2] at hf
      refine lv_iload_n hx hb dX3_fill_11 rfl (lv_at hl 2 rfl) ?_
      refine lv_aload_n hx hb dX3_fill_12 rfl (lv_at hl 0 rfl) ?_
      refine va_get (D := D) (ci := 3) (v := .int (X.1 0 0)) (C := RX3) (T := TX3) (N := 2) hx hb hts iX3_fill_X3 hown hK.1 hP 1 rfl rfl 1 (by decide) (hts _ qX3_fill_15) (fun _ h9 => h9) rfl dX3_fill_13 ?_
      refine lv_icmp_ge (tgt := 66) hx hb dX3_fill_16 (by decide) (fun c4 => ?_) (fun c4 => ?_)
      · have hf := z_ifT hf c4
        exact z_rv (wf := (z_dw c b a)) hx hb hr hlocks hP hD hS hf dX3_fill_66
      · have hf := z_ifF hf c4
        refine lv_aload_n hx hb dX3_fill_19 rfl (lv_at hl 1 rfl) ?_
        refine lv_aload_n hx hb dX3_fill_20 rfl (lv_at hl 0 rfl) ?_
        refine lv_iload_n hx hb dX3_fill_21 rfl (lv_at hl 2 rfl) ?_
        refine lv_iconst (v := (1 : Int32)) hx hb dX3_fill_22 (by decide) ?_
        refine lv_iadd hx hb dX3_fill_23 ?_
        obtain ⟨r5, h5, hf⟩ := z_bE hf
        refine z_xVi (As := [.int (x2 + (1 : Int32))]) (rest := [.ref (a 0 0)]) (wf := z_tx c (fun i => b (i + 1))) (g := X.1) (u0 := X.1) ⟨hx, hb, hml, hown, hts⟩ (kX3_digit l D c N (fun i => b (i + 1)) H.size X.1 (x2 + (1 : Int32)) r5 h5) (cwV 1 hts gX3_fill_X3_digit rfl rfl rfl (by decide +kernel) ⟨Nat.le_of_ble_eq_true rfl, Nat.le_of_ble_eq_true rfl⟩) hP hK hD hS hA (z_cutTp hD) (ci := 3) (q0 := 0) rfl rfl rfl rfl hl.1 (Nat.le_of_ble_eq_true rfl) rfl dX3_fill_24 ⟨Nat.zero_le _, Nat.zero_le _⟩ (fun H locs hP hD hS => ?_)
        refine lv_aload_n hx hb dX3_fill_27 rfl (lv_at hl 0 rfl) ?_
        refine lv_iload_n hx hb dX3_fill_28 rfl (lv_at hl 2 rfl) ?_
        refine lv_iconst (v := (2 : Int32)) hx hb dX3_fill_29 (by decide) ?_
        refine lv_iadd hx hb dX3_fill_30 ?_
        obtain ⟨r6, h6, hf⟩ := z_bE hf
        refine z_xVi (As := [.int (x2 + (2 : Int32))]) (rest := [.int r5, .ref (a 0 0)]) (wf := z_tx c (fun i => b (i + 1))) (g := X.1) (u0 := X.1) ⟨hx, hb, hml, hown, hts⟩ (kX3_digit l D c N (fun i => b (i + 1)) H.size X.1 (x2 + (2 : Int32)) r6 h6) (cwV 1 hts gX3_fill_X3_digit rfl rfl rfl (by decide +kernel) ⟨Nat.le_of_ble_eq_true rfl, Nat.le_of_ble_eq_true rfl⟩) hP hK hD hS hA (z_cutTp hD) (ci := 3) (q0 := 0) rfl rfl rfl rfl hl.1 (Nat.le_of_ble_eq_true rfl) rfl dX3_fill_31 ⟨Nat.zero_le _, Nat.zero_le _⟩ (fun H locs hP hD hS => ?_)
        refine lv_aload_n hx hb dX3_fill_34 rfl (lv_at hl 0 rfl) ?_
        refine lv_iload_n hx hb dX3_fill_35 rfl (lv_at hl 2 rfl) ?_
        refine lv_iconst (v := (3 : Int32)) hx hb dX3_fill_36 (by decide) ?_
        refine lv_iadd hx hb dX3_fill_37 ?_
        obtain ⟨r7, h7, hf⟩ := z_bE hf
        refine z_xVi (As := [.int (x2 + (3 : Int32))]) (rest := [.int r6, .int r5, .ref (a 0 0)]) (wf := z_tx c (fun i => b (i + 1))) (g := X.1) (u0 := X.1) ⟨hx, hb, hml, hown, hts⟩ (kX3_pair l D c N (fun i => b (i + 1)) H.size X.1 (x2 + (3 : Int32)) r7 h7) (cwV 1 hts gX3_fill_X3_pair rfl rfl rfl (by decide +kernel) ⟨Nat.le_of_ble_eq_true rfl, Nat.le_of_ble_eq_true rfl⟩) hP hK hD hS hA (z_cutTp hD) (ci := 3) (q0 := 0) rfl rfl rfl rfl hl.1 (Nat.le_of_ble_eq_true rfl) rfl dX3_fill_38 ⟨Nat.zero_le _, Nat.zero_le _⟩ (fun H locs hP hD hS => ?_)
        refine lv_aload_n hx hb dX3_fill_41 rfl (lv_at hl 0 rfl) ?_
        refine lv_iload_n hx hb dX3_fill_42 rfl (lv_at hl 2 rfl) ?_
        refine lv_iconst (v := (5 : Int32)) hx hb dX3_fill_43 (by decide) ?_
        refine lv_iadd hx hb dX3_fill_44 ?_
        obtain ⟨r8, h8, hf⟩ := z_bE hf
        refine z_xVi (As := [.int (x2 + (5 : Int32))]) (rest := [.int r7, .int r6, .int r5, .ref (a 0 0)]) (wf := z_tx c (fun i => b (i + 1))) (g := X.1) (u0 := X.1) ⟨hx, hb, hml, hown, hts⟩ (kX3_pair l D c N (fun i => b (i + 1)) H.size X.1 (x2 + (5 : Int32)) r8 h8) (cwV 1 hts gX3_fill_X3_pair rfl rfl rfl (by decide +kernel) ⟨Nat.le_of_ble_eq_true rfl, Nat.le_of_ble_eq_true rfl⟩) hP hK hD hS hA (z_cutTp hD) (ci := 3) (q0 := 0) rfl rfl rfl rfl hl.1 (Nat.le_of_ble_eq_true rfl) rfl dX3_fill_45 ⟨Nat.zero_le _, Nat.zero_le _⟩ (fun H locs hP hD hS => ?_)
        refine lv_aload_n hx hb dX3_fill_48 rfl (lv_at hl 0 rfl) ?_
        refine lv_iload_n hx hb dX3_fill_49 rfl (lv_at hl 2 rfl) ?_
        refine lv_bipush (v := (7 : Int32)) hx hb dX3_fill_50 (by decide) ?_
        refine lv_iadd hx hb dX3_fill_52 ?_
        obtain ⟨r9, h9, hf⟩ := z_bE hf
        refine z_xVi (As := [.int (x2 + (7 : Int32))]) (rest := [.int r8, .int r7, .int r6, .int r5, .ref (a 0 0)]) (wf := z_tx c (fun i => b (i + 1))) (g := X.1) (u0 := X.1) ⟨hx, hb, hml, hown, hts⟩ (kX3_pair l D c N (fun i => b (i + 1)) H.size X.1 (x2 + (7 : Int32)) r9 h9) (cwV 1 hts gX3_fill_X3_pair rfl rfl rfl (by decide +kernel) ⟨Nat.le_of_ble_eq_true rfl, Nat.le_of_ble_eq_true rfl⟩) hP hK hD hS hA (z_cutTp hD) (ci := 3) (q0 := 0) rfl rfl rfl rfl hl.1 (Nat.le_of_ble_eq_true rfl) rfl dX3_fill_53 ⟨Nat.zero_le _, Nat.zero_le _⟩ (fun H locs hP hD hS => ?_)
        obtain ⟨r10, u10, h10, hf⟩ := z_b2E hf
        refine z_xVi (As := [.int r5, .int r6, .int r7, .int r8, .int r9]) (rest := []) (wf := z_st c (a 0)) (g := (X.2.2 0)) (u0 := u10) ⟨hx, hb, hml, hown, hts⟩ (kX2_addNew l D c N (a 0) H.size (X.2.2 0) r5 r6 r7 r8 r9 r10 u10 h10) (cwV 5 hts gX3_fill_X2_addNew rfl rfl rfl (by decide +kernel) ⟨Nat.le_of_ble_eq_true rfl, Nat.le_of_ble_eq_true rfl⟩) hP hK hD hS hA (z_cutS hD (by decide) u10) (ci := 2) (q0 := 0) rfl rfl rfl rfl hl.1 (Nat.le_of_ble_eq_true rfl) rfl dX3_fill_56 ⟨Nat.zero_le _, Nat.zero_le _⟩ (fun H locs hP hD hS => ?_)
        obtain ⟨X11, e11, hf⟩ := z_ltE hf
        have hP : va_P D vwCl (z_dw c b a X11) H := by rw [e11]; exact hP
        have hD : va_D A (z_dw c b a X11) := by rw [e11]; exact hD
        clear e11
        refine lv_pop hx hb dX3_fill_59 rfl ?_
        refine lv_iinc (v := (x2 + (9 : Int32))) (lv' := [(2, .int (x2 + (9 : Int32))), (0, .ref (b 1)), (1, .ref (a 0 0))]) hx hb dX3_fill_60 hl (k := 2) rfl rfl (by decide) rfl (fun ls hl => ?_)
        refine lv_goto (tgt := 11) hx hb dX3_fill_63 (by decide) ?_
        exact ih _ _ hf H locs ls hP hD hS (lv_sub hl [1, 2, 0] rfl)
  unfold fX3_fill at hf
  generalize ([] : List Loc) = locs at hS ⊢
  refine lv_aload_n hx hb dX3_fill_0 rfl (lv_at hl 1 rfl) ?_
  refine lv_aload_n hx hb dX3_fill_1 rfl (lv_at hl 0 rfl) ?_
  refine lv_iconst (v := (1 : Int32)) hx hb dX3_fill_2 (by decide) ?_
  obtain ⟨r1, h1, hf⟩ := z_bE hf
  refine z_xVi (As := [.int (1 : Int32)]) (rest := [.ref (a 0 0)]) (wf := z_tx c (fun i => b (i + 1))) (g := X.1) (u0 := X.1) ⟨hx, hb, hml, hown, hts⟩ (kX3_pair l D c N (fun i => b (i + 1)) H.size X.1 (1 : Int32) r1 h1) (cwV 1 hts gX3_fill_X3_pair rfl rfl rfl (by decide +kernel) ⟨Nat.le_of_ble_eq_true rfl, Nat.le_of_ble_eq_true rfl⟩) hP hK hD hS hA (z_cutTp hD) (ci := 3) (q0 := 0) rfl rfl rfl rfl hl.1 (Nat.le_of_ble_eq_true rfl) rfl dX3_fill_3 ⟨Nat.zero_le _, Nat.zero_le _⟩ (fun H locs hP hD hS => ?_)
  obtain ⟨u2, h2, hf⟩ := z_bE hf
  refine z_xVv (As := [.int r1]) (rest := []) (wf := z_st c (a 0)) (g := (X.2.2 0)) (u0 := u2) ⟨hx, hb, hml, hown, hts⟩ (kX2_reset l D c N (a 0) H.size (X.2.2 0) r1 u2 h2) (cwV 1 hts gX3_fill_X2_reset rfl rfl rfl (by decide +kernel) ⟨Nat.le_of_ble_eq_true rfl, Nat.le_of_ble_eq_true rfl⟩) hP hK hD hS hA (z_cutS hD (by decide) u2) (ci := 2) (q0 := 0) rfl rfl rfl rfl hl.1 (Nat.le_of_ble_eq_true rfl) rfl dX3_fill_6 ⟨Nat.zero_le _, Nat.zero_le _⟩ (fun H locs hP hD hS => ?_)
  obtain ⟨X3, e3, hf⟩ := z_ltE hf
  have hP : va_P D vwCl (z_dw c b a X3) H := by rw [e3]; exact hP
  have hD : va_D A (z_dw c b a X3) := by rw [e3]; exact hD
  clear e3
  refine lv_iconst (v := (3 : Int32)) hx hb dX3_fill_9 (by decide) ?_
  refine lv_istore_n (lv' := [(2, .int (3 : Int32)), (0, .ref (b 1)), (1, .ref (a 0 0))]) hx hb dX3_fill_10 rfl hl (by decide) rfl (fun ls hl => ?_)
  exact L11 N _ _ hf H locs ls hP hD hS (lv_sub hl [1, 2, 0] rfl)
abbrev rmX4_clearText : Room := { frames := 1, cells := 0, slots := 0, locals := 21 }
theorem qX4_clearText_10 : Cond.fieldLink RX4 10 "ProgramDrum" "text" "LProgramDrum$Text;" ∈ wsX4_clearText := by decide +kernel
theorem iX4_clearText_X4 : ∀ w ∈ wsX40, w ∈ wsX4_clearText := by decide +kernel
set_option maxRecDepth 100000 in
set_option maxHeartbeats 4000000 in
theorem kX4_clearText (l : Launch) (D : va_G) (c : Nat → ClassId) (N : Nat) (b : Nat → Nat) (a : Nat → Nat → Nat) (sz : Nat) (X : z_X) (r0 : Int32) (g0 : z_X) (hf : fX4_clearText N X = some (r0, g0)) : Met l yX4_clearText wsX4_clearText rmX4_clearText (z_Pc D c sz (z_dw c b a X) [.ref (b 0)]) (z_Qi D (z_dw c b a) r0 g0 (va_A (z_dw c b a X) sz)) 0 0 (va_A (z_dw c b a X) sz) := by
  refine z_ofM (cc := cX4_clearText) (maxL := 1) (ret := (some .int)) (Qf := fun A => z_Qi D (z_dw c b a) r0 g0 A) (plainFor_of_name (by decide)) rfl (Nat.le_of_ble_eq_true rfl) ?_
  intro p e s m args below meth co A ls hx hb hr hml hts hown hlocks hnm hA hP hK hD hl hsz
  have hl : lv_has ls 1 [(0, .ref (b 0))] := hl
  have hown : s.vm.findClass RX4 = some m.cls := hown
  obtain ⟨H, hH⟩ : ∃ H, H = s.heap := ⟨_, rfl⟩
  have hS : va_S A s.heap H [] := by rw [hH]; exact va_S.rf
  rw [← hH] at hP ⊢
  clear hH
  unfold fX4_clearText at hf
  generalize ([] : List Loc) = locs at hS ⊢
  refine lv_aload_n hx hb dX4_clearText_0 rfl (lv_at hl 0 rfl) ?_
  refine va_get (D := D) (ci := 4) (v := .ref (b 1)) (C := RX4) (T := TX4) (N := 7) hx hb hts iX4_clearText_X4 hown hK.1 hP 0 rfl rfl 0 (by decide) (hts _ qX4_clearText_10) (fun _ h9 => h9) rfl dX4_clearText_1 ?_
  obtain ⟨r1, u1, h1, hf⟩ := z_b2E hf
  refine z_xVi (As := []) (rest := []) (wf := z_tx c (fun i => b (i + 1))) (g := X.1) (u0 := u1) ⟨hx, hb, hml, hown, hts⟩ (kX3_empty l D c N (fun i => b (i + 1)) H.size X.1  r1 u1 h1) (cwV 0 hts gX4_clearText_X3_empty rfl rfl rfl (by decide +kernel) ⟨Nat.le_of_ble_eq_true rfl, Nat.le_of_ble_eq_true rfl⟩) hP hK hD hS hA (z_cutT hD u1) (ci := 3) (q0 := 0) rfl rfl rfl rfl hl.1 (Nat.le_of_ble_eq_true rfl) rfl dX4_clearText_4 ⟨Nat.zero_le _, Nat.zero_le _⟩ (fun H locs hP hD hS => ?_)
  obtain ⟨X2, e2, hf⟩ := z_ltE hf
  have hP : va_P D vwCl (z_dw c b a X2) H := by rw [e2]; exact hP
  have hD : va_D A (z_dw c b a X2) := by rw [e2]; exact hD
  clear e2
  exact z_ri (wf := (z_dw c b a)) hx hb hr hlocks hP hD hS hf dX4_clearText_7
abbrev rmX4_errorPosition : Room := { frames := 4, cells := 0, slots := 0, locals := 87 }
theorem qX4_errorPosition_10 : Cond.fieldLink RX4 10 "ProgramDrum" "text" "LProgramDrum$Text;" ∈ wsX4_errorPosition := by decide +kernel
theorem iX4_errorPosition_X4 : ∀ w ∈ wsX40, w ∈ wsX4_errorPosition := by decide +kernel
set_option maxRecDepth 100000 in
set_option maxHeartbeats 4000000 in
theorem kX4_errorPosition (l : Launch) (D : va_G) (c : Nat → ClassId) (N : Nat) (b : Nat → Nat) (a : Nat → Nat → Nat) (sz : Nat) (X : z_X) (r0 : Int32) (hf : fX4_errorPosition N X = some r0) : Met l yX4_errorPosition wsX4_errorPosition rmX4_errorPosition (z_Pc D c sz (z_dw c b a X) [.ref (b 0)]) (z_Qi D (z_dw c b a) r0 X (va_A (z_dw c b a X) sz)) 0 0 (va_A (z_dw c b a X) sz) := by
  refine z_ofM (cc := cX4_errorPosition) (maxL := 1) (ret := (some .int)) (Qf := fun A => z_Qi D (z_dw c b a) r0 X A) (plainFor_of_name (by decide)) rfl (Nat.le_of_ble_eq_true rfl) ?_
  intro p e s m args below meth co A ls hx hb hr hml hts hown hlocks hnm hA hP hK hD hl hsz
  have hl : lv_has ls 1 [(0, .ref (b 0))] := hl
  have hown : s.vm.findClass RX4 = some m.cls := hown
  obtain ⟨H, hH⟩ : ∃ H, H = s.heap := ⟨_, rfl⟩
  have hS : va_S A s.heap H [] := by rw [hH]; exact va_S.rf
  rw [← hH] at hP ⊢
  clear hH
  unfold fX4_errorPosition at hf
  generalize ([] : List Loc) = locs at hS ⊢
  refine lv_aload_n hx hb dX4_errorPosition_0 rfl (lv_at hl 0 rfl) ?_
  refine va_get (D := D) (ci := 4) (v := .ref (b 1)) (C := RX4) (T := TX4) (N := 7) hx hb hts iX4_errorPosition_X4 hown hK.1 hP 0 rfl rfl 0 (by decide) (hts _ qX4_errorPosition_10) (fun _ h9 => h9) rfl dX4_errorPosition_1 ?_
  obtain ⟨r1, h1, hf⟩ := z_bE hf
  refine z_xVi (As := []) (rest := []) (wf := z_tx c (fun i => b (i + 1))) (g := X.1) (u0 := X.1) ⟨hx, hb, hml, hown, hts⟩ (kX3_firstError l D c N (fun i => b (i + 1)) H.size X.1  r1 h1) (cwV 0 hts gX4_errorPosition_X3_firstError rfl rfl rfl (by decide +kernel) ⟨Nat.le_of_ble_eq_true rfl, Nat.le_of_ble_eq_true rfl⟩) hP hK hD hS hA (z_cutTp hD) (ci := 3) (q0 := 0) rfl rfl rfl rfl hl.1 (Nat.le_of_ble_eq_true rfl) rfl dX4_errorPosition_4 ⟨Nat.zero_le _, Nat.zero_le _⟩ (fun H locs hP hD hS => ?_)
  exact z_rp (wf := (z_dw c b a)) hx hb hr hlocks hP hD hS hf dX4_errorPosition_7
abbrev rmX4_lay : Room := { frames := 5, cells := 0, slots := 0, locals := 112 }
theorem qX4_lay_32 : Cond.fieldLink RX4 32 "ProgramDrum" "memory" "LProgramDrum$Memory;" ∈ wsX4_lay := by decide +kernel
theorem iX4_lay_X4 : ∀ w ∈ wsX40, w ∈ wsX4_lay := by decide +kernel
theorem qX4_lay_19 : Cond.fieldLink RX4 19 "ProgramDrum" "now" "LProgramDrum$State;" ∈ wsX4_lay := by decide +kernel
set_option maxRecDepth 100000 in
set_option maxHeartbeats 4000000 in
theorem kX4_lay (l : Launch) (D : va_G) (c : Nat → ClassId) (N : Nat) (b : Nat → Nat) (a : Nat → Nat → Nat) (sz : Nat) (X : z_X) (r0 : Int32) (g0 : z_X) (hf : fX4_lay N X = some (r0, g0)) : Met l yX4_lay wsX4_lay rmX4_lay (z_Pc D c sz (z_dw c b a X) [.ref (b 0)]) (z_Qi D (z_dw c b a) r0 g0 (va_A (z_dw c b a X) sz)) 0 0 (va_A (z_dw c b a X) sz) := by
  refine z_ofM (cc := cX4_lay) (maxL := 1) (ret := (some .int)) (Qf := fun A => z_Qi D (z_dw c b a) r0 g0 A) (plainFor_of_name (by decide)) rfl (Nat.le_of_ble_eq_true rfl) ?_
  intro p e s m args below meth co A ls hx hb hr hml hts hown hlocks hnm hA hP hK hD hl hsz
  have hl : lv_has ls 1 [(0, .ref (b 0))] := hl
  have hown : s.vm.findClass RX4 = some m.cls := hown
  obtain ⟨H, hH⟩ : ∃ H, H = s.heap := ⟨_, rfl⟩
  have hS : va_S A s.heap H [] := by rw [hH]; exact va_S.rf
  rw [← hH] at hP ⊢
  clear hH
  unfold fX4_lay at hf
  generalize ([] : List Loc) = locs at hS ⊢
  refine lv_aload_n hx hb dX4_lay_0 rfl (lv_at hl 0 rfl) ?_
  refine va_get (D := D) (ci := 4) (v := .ref (b 3)) (C := RX4) (T := TX4) (N := 7) hx hb hts iX4_lay_X4 hown hK.1 hP 0 rfl rfl 4 (by decide) (hts _ qX4_lay_32) (fun _ h9 => h9) rfl dX4_lay_1 ?_
  refine lv_aload_n hx hb dX4_lay_4 rfl (lv_at hl 0 rfl) ?_
  refine va_get (D := D) (ci := 4) (v := .ref (a 0 0)) (C := RX4) (T := TX4) (N := 7) hx hb hts iX4_lay_X4 hown hK.1 hP 0 rfl rfl 1 (by decide) (hts _ qX4_lay_19) (fun _ h9 => h9) rfl dX4_lay_5 ?_
  obtain ⟨X1, h1, hf⟩ := z_bE hf
  refine z_cVv (As := [.ref (a 0 0)]) (rest := []) (wf := (z_dw c b a)) (g := X) (u0 := X1) ⟨hx, hb, hml, hown, hts⟩ (kX1_remember l D c N b a H.size X  X1 h1) (cwV 1 hts gX4_lay_X1_remember rfl rfl rfl (by decide +kernel) ⟨Nat.le_of_ble_eq_true rfl, Nat.le_of_ble_eq_true rfl⟩) hP hK hD hS hA (ci := 1) (q0 := 3) rfl rfl rfl rfl hl.1 (Nat.le_of_ble_eq_true rfl) rfl dX4_lay_8 ⟨Nat.zero_le _, Nat.zero_le _⟩ (fun H locs hP hD hS => ?_)
  refine lv_aload_n hx hb dX4_lay_11 rfl (lv_at hl 0 rfl) ?_
  refine va_get (D := D) (ci := 4) (v := .ref (a 0 0)) (C := RX4) (T := TX4) (N := 7) hx hb hts iX4_lay_X4 hown hK.1 hP 0 rfl rfl 1 (by decide) (hts _ qX4_lay_19) (fun _ h9 => h9) rfl dX4_lay_12 ?_
  obtain ⟨r2, u2, h2, hf⟩ := z_b2E hf
  refine z_xVi (As := []) (rest := []) (wf := z_st c (a 0)) (g := (X1.2.2 0)) (u0 := u2) ⟨hx, hb, hml, hown, hts⟩ (kX2_layAll l D c N (a 0) H.size (X1.2.2 0)  r2 u2 h2) (cwV 0 hts gX4_lay_X2_layAll rfl rfl rfl (by decide +kernel) ⟨Nat.le_of_ble_eq_true rfl, Nat.le_of_ble_eq_true rfl⟩) hP hK hD hS hA (z_cutS hD (by decide) u2) (ci := 2) (q0 := 0) rfl rfl rfl rfl hl.1 (Nat.le_of_ble_eq_true rfl) rfl dX4_lay_15 ⟨Nat.zero_le _, Nat.zero_le _⟩ (fun H locs hP hD hS => ?_)
  obtain ⟨X3, e3, hf⟩ := z_ltE hf
  have hP : va_P D vwCl (z_dw c b a X3) H := by rw [e3]; exact hP
  have hD : va_D A (z_dw c b a X3) := by rw [e3]; exact hD
  clear e3
  exact z_ri (wf := (z_dw c b a)) hx hb hr hlocks hP hD hS hf dX4_lay_18
abbrev rmX4_ticksOfRun : Room := { frames := 4, cells := 0, slots := 0, locals := 91 }
theorem qX4_ticksOfRun_26 : Cond.fieldLink RX4 26 "ProgramDrum" "probe" "LProgramDrum$State;" ∈ wsX4_ticksOfRun := by decide +kernel
theorem iX4_ticksOfRun_X4 : ∀ w ∈ wsX40, w ∈ wsX4_ticksOfRun := by decide +kernel
theorem iX4_ticksOfRun_X2 : ∀ w ∈ wsX20, w ∈ wsX4_ticksOfRun := by decide +kernel
set_option maxRecDepth 100000 in
set_option maxHeartbeats 4000000 in
theorem kX4_ticksOfRun (l : Launch) (D : va_G) (c : Nat → ClassId) (N : Nat) (b : Nat → Nat) (a : Nat → Nat → Nat) (sz : Nat) (j1 : Nat) (hj1 : j1 < 2) (X : z_X) (p2 : Int32) (r0 : Int32) (g0 : z_X) (hf : fX4_ticksOfRun N j1 p2 X = some (r0, g0)) : Met l yX4_ticksOfRun wsX4_ticksOfRun rmX4_ticksOfRun (z_Pc D c sz (z_dw c b a X) [.ref (b 0), .ref (a j1 0), .int p2]) (z_Qi D (z_dw c b a) r0 g0 (va_A (z_dw c b a X) sz)) 0 0 (va_A (z_dw c b a X) sz) := by
  refine z_ofM (cc := cX4_ticksOfRun) (maxL := 3) (ret := (some .int)) (Qf := fun A => z_Qi D (z_dw c b a) r0 g0 A) (plainFor_of_name (by decide)) rfl (Nat.le_of_ble_eq_true rfl) ?_
  intro p e s m args below meth co A ls hx hb hr hml hts hown hlocks hnm hA hP hK hD hl hsz
  have hl : lv_has ls 3 [(0, .ref (b 0)), (1, .ref (a j1 0)), (2, .int p2)] := hl
  have hown : s.vm.findClass RX4 = some m.cls := hown
  obtain ⟨H, hH⟩ : ∃ H, H = s.heap := ⟨_, rfl⟩
  have hS : va_S A s.heap H [] := by rw [hH]; exact va_S.rf
  rw [← hH] at hP ⊢
  clear hH
  unfold fX4_ticksOfRun at hf
  generalize ([] : List Loc) = locs at hS ⊢
  refine lv_aload_n hx hb dX4_ticksOfRun_0 rfl (lv_at hl 0 rfl) ?_
  refine va_get (D := D) (ci := 4) (v := .ref (a 2 0)) (C := RX4) (T := TX4) (N := 7) hx hb hts iX4_ticksOfRun_X4 hown hK.1 hP 0 rfl rfl 3 (by decide) (hts _ qX4_ticksOfRun_26) (fun _ h9 => h9) rfl dX4_ticksOfRun_1 ?_
  refine lv_aload_n hx hb dX4_ticksOfRun_4 rfl (lv_at hl 1 rfl) ?_
  obtain ⟨u1, h1, hf⟩ := z_bE hf
  refine z_xVv (As := [.ref (a j1 0)]) (rest := []) (wf := fun u : z_R => z_st c (a 2) u ++ z_st c (a j1) (X.2.2 j1)) (g := (X.2.2 2)) (u0 := u1) ⟨hx, hb, hml, hown, hts⟩ (kX2_copyFrom l D c N (a 2) (a j1) H.size (X.2.2 j1) (X.2.2 2) u1 h1) (cwV 1 hts gX4_ticksOfRun_X2_copyFrom rfl rfl rfl (by decide +kernel) ⟨Nat.le_of_ble_eq_true rfl, Nat.le_of_ble_eq_true rfl⟩) hP hK hD hS hA (z_cutSS hD (by decide) (by omega) (by omega) u1) (ci := 2) (q0 := 0) rfl rfl rfl rfl hl.1 (Nat.le_of_ble_eq_true rfl) rfl dX4_ticksOfRun_5 ⟨Nat.zero_le _, Nat.zero_le _⟩ (fun H locs hP hD hS => ?_)
  obtain ⟨X2, e2, hf⟩ := z_ltE hf
  have hP : va_P D vwCl (z_dw c b a X2) H := by rw [e2]; exact hP
  have hD : va_D A (z_dw c b a X2) := by rw [e2]; exact hD
  clear e2
  refine lv_aload_n hx hb dX4_ticksOfRun_8 rfl (lv_at hl 0 rfl) ?_
  refine va_get (D := D) (ci := 4) (v := .ref (a 2 0)) (C := RX4) (T := TX4) (N := 7) hx hb hts iX4_ticksOfRun_X4 hown hK.1 hP 0 rfl rfl 3 (by decide) (hts _ qX4_ticksOfRun_26) (fun _ h9 => h9) rfl dX4_ticksOfRun_9 ?_
  refine lv_iload_n hx hb dX4_ticksOfRun_12 rfl (lv_at hl 2 rfl) ?_
  obtain ⟨r3, u3, h3, hf⟩ := z_b2E hf
  refine z_xVi (As := [.int p2]) (rest := []) (wf := z_st c (a 2)) (g := (X2.2.2 2)) (u0 := u3) ⟨hx, hb, hml, hown, hts⟩ (kX2_runFrom l D c N (a 2) H.size (X2.2.2 2) p2 r3 u3 h3) (cwV 1 hts gX4_ticksOfRun_X2_runFrom rfl rfl rfl (by decide +kernel) ⟨Nat.le_of_ble_eq_true rfl, Nat.le_of_ble_eq_true rfl⟩) hP hK hD hS hA (z_cutS hD (by decide) u3) (ci := 2) (q0 := 0) rfl rfl rfl rfl hl.1 (Nat.le_of_ble_eq_true rfl) rfl dX4_ticksOfRun_13 ⟨Nat.zero_le _, Nat.zero_le _⟩ (fun H locs hP hD hS => ?_)
  obtain ⟨X4, e4, hf⟩ := z_ltE hf
  have hP : va_P D vwCl (z_dw c b a X4) H := by rw [e4]; exact hP
  have hD : va_D A (z_dw c b a X4) := by rw [e4]; exact hD
  clear e4
  refine lv_pop hx hb dX4_ticksOfRun_16 rfl ?_
  refine lv_aload_n hx hb dX4_ticksOfRun_17 rfl (lv_at hl 0 rfl) ?_
  refine va_get (D := D) (ci := 4) (v := .ref (a 2 0)) (C := RX4) (T := TX4) (N := 7) hx hb hts iX4_ticksOfRun_X4 hown hK.1 hP 0 rfl rfl 3 (by decide) (hts _ qX4_ticksOfRun_26) (fun _ h9 => h9) rfl dX4_ticksOfRun_18 ?_
  refine va_getN (D := D) (ci := 2) (v := .int (X4.2.2 2 0 2)) (C := RX2) (T := TX2) (N := 16) hx hb hts iX4_ticksOfRun_X2 hown hK.1 (z_subP hP (z_inS (by decide))) 0 rfl rfl 2 (by decide) (va_Nw.use rfl (hK.2.1 _ zF_X4_87)) (fun _ h9 => h9) rfl dX4_ticksOfRun_21 ?_
  refine lv_aload_n hx hb dX4_ticksOfRun_24 rfl (lv_at hl 1 rfl) ?_
  refine va_getN (D := D) (ci := 2) (v := .int (X4.2.2 j1 0 2)) (C := RX2) (T := TX2) (N := 16) hx hb hts iX4_ticksOfRun_X2 hown hK.1 (z_subP hP (z_inS (by omega))) 0 rfl rfl 2 (by decide) (va_Nw.use rfl (hK.2.1 _ zF_X4_87)) (fun _ h9 => h9) rfl dX4_ticksOfRun_25 ?_
  refine lv_isub hx hb dX4_ticksOfRun_28 ?_
  exact z_ri (wf := (z_dw c b a)) hx hb hr hlocks hP hD hS hf dX4_ticksOfRun_29
abbrev rmX4_runsOnTrial : Room := { frames := 4, cells := 0, slots := 0, locals := 91 }
theorem qX4_runsOnTrial_23 : Cond.fieldLink RX4 23 "ProgramDrum" "trial" "LProgramDrum$State;" ∈ wsX4_runsOnTrial := by decide +kernel
theorem iX4_runsOnTrial_X4 : ∀ w ∈ wsX40, w ∈ wsX4_runsOnTrial := by decide +kernel
set_option maxRecDepth 100000 in
set_option maxHeartbeats 4000000 in
theorem kX4_runsOnTrial (l : Launch) (D : va_G) (c : Nat → ClassId) (N : Nat) (b : Nat → Nat) (a : Nat → Nat → Nat) (sz : Nat) (X : z_X) (p1 : Int32) (r0 : Int32) (g0 : z_X) (hf : fX4_runsOnTrial N p1 X = some (r0, g0)) : Met l yX4_runsOnTrial wsX4_runsOnTrial rmX4_runsOnTrial (z_Pc D c sz (z_dw c b a X) [.ref (b 0), .int p1]) (z_Qi D (z_dw c b a) r0 g0 (va_A (z_dw c b a X) sz)) 0 0 (va_A (z_dw c b a X) sz) := by
  refine z_ofM (cc := cX4_runsOnTrial) (maxL := 2) (ret := (some .boolean)) (Qf := fun A => z_Qi D (z_dw c b a) r0 g0 A) (plainFor_of_name (by decide)) rfl (Nat.le_of_ble_eq_true rfl) ?_
  intro p e s m args below meth co A ls hx hb hr hml hts hown hlocks hnm hA hP hK hD hl hsz
  have hl : lv_has ls 2 [(0, .ref (b 0)), (1, .int p1)] := hl
  have hown : s.vm.findClass RX4 = some m.cls := hown
  obtain ⟨H, hH⟩ : ∃ H, H = s.heap := ⟨_, rfl⟩
  have hS : va_S A s.heap H [] := by rw [hH]; exact va_S.rf
  rw [← hH] at hP ⊢
  clear hH
  unfold fX4_runsOnTrial at hf
  generalize ([] : List Loc) = locs at hS ⊢
  refine lv_aload_n hx hb dX4_runsOnTrial_0 rfl (lv_at hl 0 rfl) ?_
  refine va_get (D := D) (ci := 4) (v := .ref (a 1 0)) (C := RX4) (T := TX4) (N := 7) hx hb hts iX4_runsOnTrial_X4 hown hK.1 hP 0 rfl rfl 2 (by decide) (hts _ qX4_runsOnTrial_23) (fun _ h9 => h9) rfl dX4_runsOnTrial_1 ?_
  refine lv_iload_n hx hb dX4_runsOnTrial_4 rfl (lv_at hl 1 rfl) ?_
  obtain ⟨r1, h1, hf⟩ := z_bE hf
  refine z_xVi (As := [.int p1]) (rest := []) (wf := z_st c (a 1)) (g := (X.2.2 1)) (u0 := (X.2.2 1)) ⟨hx, hb, hml, hown, hts⟩ (kX2_has l D c N (a 1) H.size (X.2.2 1) p1 r1 h1) (cwV 1 hts gX4_runsOnTrial_X2_has rfl rfl rfl (by decide +kernel) ⟨Nat.le_of_ble_eq_true rfl, Nat.le_of_ble_eq_true rfl⟩) hP hK hD hS hA (z_cutSp hD (by decide)) (ci := 2) (q0 := 0) rfl rfl rfl rfl hl.1 (Nat.le_of_ble_eq_true rfl) rfl dX4_runsOnTrial_5 ⟨Nat.zero_le _, Nat.zero_le _⟩ (fun H locs hP hD hS => ?_)
  refine lv_if_ne (tgt := 13) hx hb dX4_runsOnTrial_8 (by decide) (fun c2 => ?_) (fun c2 => ?_)
  · have hf := z_ifF hf c2
    refine lv_aload_n hx hb dX4_runsOnTrial_13 rfl (lv_at hl 0 rfl) ?_
    refine va_get (D := D) (ci := 4) (v := .ref (a 1 0)) (C := RX4) (T := TX4) (N := 7) hx hb hts iX4_runsOnTrial_X4 hown hK.1 hP 0 rfl rfl 2 (by decide) (hts _ qX4_runsOnTrial_23) (fun _ h9 => h9) rfl dX4_runsOnTrial_14 ?_
    refine lv_iload_n hx hb dX4_runsOnTrial_17 rfl (lv_at hl 1 rfl) ?_
    obtain ⟨r3, u3, h3, hf⟩ := z_b2E hf
    refine z_xVi (As := [.int p1]) (rest := []) (wf := z_st c (a 1)) (g := (X.2.2 1)) (u0 := u3) ⟨hx, hb, hml, hown, hts⟩ (kX2_runFrom l D c N (a 1) H.size (X.2.2 1) p1 r3 u3 h3) (cwV 1 hts gX4_runsOnTrial_X2_runFrom rfl rfl rfl (by decide +kernel) ⟨Nat.le_of_ble_eq_true rfl, Nat.le_of_ble_eq_true rfl⟩) hP hK hD hS hA (z_cutS hD (by decide) u3) (ci := 2) (q0 := 0) rfl rfl rfl rfl hl.1 (Nat.le_of_ble_eq_true rfl) rfl dX4_runsOnTrial_18 ⟨Nat.zero_le _, Nat.zero_le _⟩ (fun H locs hP hD hS => ?_)
    obtain ⟨X4, e4, hf⟩ := z_ltE hf
    have hP : va_P D vwCl (z_dw c b a X4) H := by rw [e4]; exact hP
    have hD : va_D A (z_dw c b a X4) := by rw [e4]; exact hD
    clear e4
    refine lv_pop hx hb dX4_runsOnTrial_21 rfl ?_
    refine lv_iconst (v := (1 : Int32)) hx hb dX4_runsOnTrial_22 (by decide) ?_
    exact z_zi (wf := (z_dw c b a)) hx hb hr rfl hlocks hP hD hS hf dX4_runsOnTrial_23
  · have hf := z_ifT hf c2
    refine lv_iconst (v := (0 : Int32)) hx hb dX4_runsOnTrial_11 (by decide) ?_
    exact z_zi (wf := (z_dw c b a)) hx hb hr rfl hlocks hP hD hS hf dX4_runsOnTrial_12
abbrev rmX4_movesOnTrial : Room := { frames := 3, cells := 0, slots := 0, locals := 66 }
theorem qX4_movesOnTrial_23 : Cond.fieldLink RX4 23 "ProgramDrum" "trial" "LProgramDrum$State;" ∈ wsX4_movesOnTrial := by decide +kernel
theorem iX4_movesOnTrial_X4 : ∀ w ∈ wsX40, w ∈ wsX4_movesOnTrial := by decide +kernel
set_option maxRecDepth 100000 in
set_option maxHeartbeats 4000000 in
theorem kX4_movesOnTrial (l : Launch) (D : va_G) (c : Nat → ClassId) (N : Nat) (b : Nat → Nat) (a : Nat → Nat → Nat) (sz : Nat) (X : z_X) (p1 : Int32) (p2 : Int32) (r0 : Int32) (g0 : z_X) (hf : fX4_movesOnTrial N p1 p2 X = some (r0, g0)) : Met l yX4_movesOnTrial wsX4_movesOnTrial rmX4_movesOnTrial (z_Pc D c sz (z_dw c b a X) [.ref (b 0), .int p1, .int p2]) (z_Qi D (z_dw c b a) r0 g0 (va_A (z_dw c b a X) sz)) 0 0 (va_A (z_dw c b a X) sz) := by
  refine z_ofM (cc := cX4_movesOnTrial) (maxL := 3) (ret := (some .boolean)) (Qf := fun A => z_Qi D (z_dw c b a) r0 g0 A) (plainFor_of_name (by decide)) rfl (Nat.le_of_ble_eq_true rfl) ?_
  intro p e s m args below meth co A ls hx hb hr hml hts hown hlocks hnm hA hP hK hD hl hsz
  have hl : lv_has ls 3 [(0, .ref (b 0)), (1, .int p1), (2, .int p2)] := hl
  have hown : s.vm.findClass RX4 = some m.cls := hown
  obtain ⟨H, hH⟩ : ∃ H, H = s.heap := ⟨_, rfl⟩
  have hS : va_S A s.heap H [] := by rw [hH]; exact va_S.rf
  rw [← hH] at hP ⊢
  clear hH
  unfold fX4_movesOnTrial at hf
  generalize ([] : List Loc) = locs at hS ⊢
  refine lv_aload_n hx hb dX4_movesOnTrial_0 rfl (lv_at hl 0 rfl) ?_
  refine va_get (D := D) (ci := 4) (v := .ref (a 1 0)) (C := RX4) (T := TX4) (N := 7) hx hb hts iX4_movesOnTrial_X4 hown hK.1 hP 0 rfl rfl 2 (by decide) (hts _ qX4_movesOnTrial_23) (fun _ h9 => h9) rfl dX4_movesOnTrial_1 ?_
  refine lv_iload_n hx hb dX4_movesOnTrial_4 rfl (lv_at hl 1 rfl) ?_
  obtain ⟨r1, h1, hf⟩ := z_bE hf
  refine z_xVi (As := [.int p1]) (rest := []) (wf := z_st c (a 1)) (g := (X.2.2 1)) (u0 := (X.2.2 1)) ⟨hx, hb, hml, hown, hts⟩ (kX2_has l D c N (a 1) H.size (X.2.2 1) p1 r1 h1) (cwV 1 hts gX4_movesOnTrial_X2_has rfl rfl rfl (by decide +kernel) ⟨Nat.le_of_ble_eq_true rfl, Nat.le_of_ble_eq_true rfl⟩) hP hK hD hS hA (z_cutSp hD (by decide)) (ci := 2) (q0 := 0) rfl rfl rfl rfl hl.1 (Nat.le_of_ble_eq_true rfl) rfl dX4_movesOnTrial_5 ⟨Nat.zero_le _, Nat.zero_le _⟩ (fun H locs hP hD hS => ?_)
  refine lv_if_eq (tgt := 34) hx hb dX4_movesOnTrial_8 (by decide) (fun c2 => ?_) (fun c2 => ?_)
  · have hf := z_ifT hf c2
    refine lv_iconst (v := (0 : Int32)) hx hb dX4_movesOnTrial_34 (by decide) ?_
    exact z_zi (wf := (z_dw c b a)) hx hb hr rfl hlocks hP hD hS hf dX4_movesOnTrial_35
  · have hf := z_ifF hf c2
    refine lv_aload_n hx hb dX4_movesOnTrial_11 rfl (lv_at hl 0 rfl) ?_
    refine va_get (D := D) (ci := 4) (v := .ref (a 1 0)) (C := RX4) (T := TX4) (N := 7) hx hb hts iX4_movesOnTrial_X4 hown hK.1 hP 0 rfl rfl 2 (by decide) (hts _ qX4_movesOnTrial_23) (fun _ h9 => h9) rfl dX4_movesOnTrial_12 ?_
    refine lv_iload_n hx hb dX4_movesOnTrial_15 rfl (lv_at hl 2 rfl) ?_
    obtain ⟨r3, h3, hf⟩ := z_bE hf
    refine z_xVi (As := [.int p2]) (rest := []) (wf := z_st c (a 1)) (g := (X.2.2 1)) (u0 := (X.2.2 1)) ⟨hx, hb, hml, hown, hts⟩ (kX2_hasPlace l D c N (a 1) H.size (X.2.2 1) p2 r3 h3) (cwV 1 hts gX4_movesOnTrial_X2_hasPlace rfl rfl rfl (by decide +kernel) ⟨Nat.le_of_ble_eq_true rfl, Nat.le_of_ble_eq_true rfl⟩) hP hK hD hS hA (z_cutSp hD (by decide)) (ci := 2) (q0 := 0) rfl rfl rfl rfl hl.1 (Nat.le_of_ble_eq_true rfl) rfl dX4_movesOnTrial_16 ⟨Nat.zero_le _, Nat.zero_le _⟩ (fun H locs hP hD hS => ?_)
    refine lv_if_eq (tgt := 34) hx hb dX4_movesOnTrial_19 (by decide) (fun c4 => ?_) (fun c4 => ?_)
    · have hf := z_ifT hf c4
      refine lv_iconst (v := (0 : Int32)) hx hb dX4_movesOnTrial_34 (by decide) ?_
      exact z_zi (wf := (z_dw c b a)) hx hb hr rfl hlocks hP hD hS hf dX4_movesOnTrial_35
    · have hf := z_ifF hf c4
      refine lv_aload_n hx hb dX4_movesOnTrial_22 rfl (lv_at hl 0 rfl) ?_
      refine va_get (D := D) (ci := 4) (v := .ref (a 1 0)) (C := RX4) (T := TX4) (N := 7) hx hb hts iX4_movesOnTrial_X4 hown hK.1 hP 0 rfl rfl 2 (by decide) (hts _ qX4_movesOnTrial_23) (fun _ h9 => h9) rfl dX4_movesOnTrial_23 ?_
      refine lv_iload_n hx hb dX4_movesOnTrial_26 rfl (lv_at hl 1 rfl) ?_
      refine lv_iload_n hx hb dX4_movesOnTrial_27 rfl (lv_at hl 2 rfl) ?_
      obtain ⟨r5, h5, hf⟩ := z_bE hf
      refine z_xVi (As := [.int p1, .int p2]) (rest := []) (wf := z_st c (a 1)) (g := (X.2.2 1)) (u0 := (X.2.2 1)) ⟨hx, hb, hml, hown, hts⟩ (kX2_isFreeFor l D c N (a 1) H.size (X.2.2 1) p1 p2 r5 h5) (cwV 2 hts gX4_movesOnTrial_X2_isFreeFor rfl rfl rfl (by decide +kernel) ⟨Nat.le_of_ble_eq_true rfl, Nat.le_of_ble_eq_true rfl⟩) hP hK hD hS hA (z_cutSp hD (by decide)) (ci := 2) (q0 := 0) rfl rfl rfl rfl hl.1 (Nat.le_of_ble_eq_true rfl) rfl dX4_movesOnTrial_28 ⟨Nat.zero_le _, Nat.zero_le _⟩ (fun H locs hP hD hS => ?_)
      refine lv_if_ne (tgt := 36) hx hb dX4_movesOnTrial_31 (by decide) (fun c6 => ?_) (fun c6 => ?_)
      · have hf := z_ifF hf c6
        refine lv_aload_n hx hb dX4_movesOnTrial_36 rfl (lv_at hl 0 rfl) ?_
        refine va_get (D := D) (ci := 4) (v := .ref (a 1 0)) (C := RX4) (T := TX4) (N := 7) hx hb hts iX4_movesOnTrial_X4 hown hK.1 hP 0 rfl rfl 2 (by decide) (hts _ qX4_movesOnTrial_23) (fun _ h9 => h9) rfl dX4_movesOnTrial_37 ?_
        refine lv_iload_n hx hb dX4_movesOnTrial_40 rfl (lv_at hl 1 rfl) ?_
        refine lv_iload_n hx hb dX4_movesOnTrial_41 rfl (lv_at hl 2 rfl) ?_
        obtain ⟨r7, u7, h7, hf⟩ := z_b2E hf
        refine z_xVi (As := [.int p1, .int p2]) (rest := []) (wf := z_st c (a 1)) (g := (X.2.2 1)) (u0 := u7) ⟨hx, hb, hml, hown, hts⟩ (kX2_put l D c N (a 1) H.size (X.2.2 1) p1 p2 r7 u7 h7) (cwV 2 hts gX4_movesOnTrial_X2_put rfl rfl rfl (by decide +kernel) ⟨Nat.le_of_ble_eq_true rfl, Nat.le_of_ble_eq_true rfl⟩) hP hK hD hS hA (z_cutS hD (by decide) u7) (ci := 2) (q0 := 0) rfl rfl rfl rfl hl.1 (Nat.le_of_ble_eq_true rfl) rfl dX4_movesOnTrial_42 ⟨Nat.zero_le _, Nat.zero_le _⟩ (fun H locs hP hD hS => ?_)
        obtain ⟨X8, e8, hf⟩ := z_ltE hf
        have hP : va_P D vwCl (z_dw c b a X8) H := by rw [e8]; exact hP
        have hD : va_D A (z_dw c b a X8) := by rw [e8]; exact hD
        clear e8
        refine lv_pop hx hb dX4_movesOnTrial_45 rfl ?_
        refine lv_iconst (v := (1 : Int32)) hx hb dX4_movesOnTrial_46 (by decide) ?_
        exact z_zi (wf := (z_dw c b a)) hx hb hr rfl hlocks hP hD hS hf dX4_movesOnTrial_47
      · have hf := z_ifT hf c6
        refine lv_iconst (v := (0 : Int32)) hx hb dX4_movesOnTrial_34 (by decide) ?_
        exact z_zi (wf := (z_dw c b a)) hx hb hr rfl hlocks hP hD hS hf dX4_movesOnTrial_35
abbrev rmX4_turnsOnTrial : Room := { frames := 1, cells := 0, slots := 0, locals := 20 }
theorem qX4_turnsOnTrial_23 : Cond.fieldLink RX4 23 "ProgramDrum" "trial" "LProgramDrum$State;" ∈ wsX4_turnsOnTrial := by decide +kernel
theorem iX4_turnsOnTrial_X4 : ∀ w ∈ wsX40, w ∈ wsX4_turnsOnTrial := by decide +kernel
theorem iX4_turnsOnTrial_X2 : ∀ w ∈ wsX20, w ∈ wsX4_turnsOnTrial := by decide +kernel
set_option maxRecDepth 100000 in
set_option maxHeartbeats 4000000 in
theorem kX4_turnsOnTrial (l : Launch) (D : va_G) (c : Nat → ClassId) (N : Nat) (b : Nat → Nat) (a : Nat → Nat → Nat) (sz : Nat) (X : z_X) (p1 : Int32) (r0 : Int32) (g0 : z_X) (hf : fX4_turnsOnTrial N p1 X = some (r0, g0)) : Met l yX4_turnsOnTrial wsX4_turnsOnTrial rmX4_turnsOnTrial (z_Pc D c sz (z_dw c b a X) [.ref (b 0), .int p1]) (z_Qi D (z_dw c b a) r0 g0 (va_A (z_dw c b a X) sz)) 0 0 (va_A (z_dw c b a X) sz) := by
  refine z_ofM (cc := cX4_turnsOnTrial) (maxL := 2) (ret := (some .boolean)) (Qf := fun A => z_Qi D (z_dw c b a) r0 g0 A) (plainFor_of_name (by decide)) rfl (Nat.le_of_ble_eq_true rfl) ?_
  intro p e s m args below meth co A ls hx hb hr hml hts hown hlocks hnm hA hP hK hD hl hsz
  have hl : lv_has ls 2 [(0, .ref (b 0)), (1, .int p1)] := hl
  have hown : s.vm.findClass RX4 = some m.cls := hown
  obtain ⟨H, hH⟩ : ∃ H, H = s.heap := ⟨_, rfl⟩
  have hS : va_S A s.heap H [] := by rw [hH]; exact va_S.rf
  rw [← hH] at hP ⊢
  clear hH
  unfold fX4_turnsOnTrial at hf
  generalize ([] : List Loc) = locs at hS ⊢
  refine lv_iload_n hx hb dX4_turnsOnTrial_0 rfl (lv_at hl 1 rfl) ?_
  obtain ⟨r1, h1, hf⟩ := z_bE hf
  refine z_cSi (As := [.int p1]) (rest := []) ⟨hx, hb, hml, hown, hts⟩ (kX4_isTurn l D c N H.size p1 r1 h1) (va_cwS 1 hts gX4_turnsOnTrial_X4_isTurn rfl rfl rfl (by decide +kernel) ⟨Nat.le_of_ble_eq_true rfl, Nat.le_of_ble_eq_true rfl⟩) hP hK hS hA rfl hl.1 (Nat.le_of_ble_eq_true rfl) rfl dX4_turnsOnTrial_1 ⟨Nat.zero_le _, Nat.zero_le _⟩ (fun H locs hP hS => ?_)
  refine lv_if_ne (tgt := 9) hx hb dX4_turnsOnTrial_4 (by decide) (fun c2 => ?_) (fun c2 => ?_)
  · have hf := z_ifF hf c2
    refine lv_aload_n hx hb dX4_turnsOnTrial_9 rfl (lv_at hl 0 rfl) ?_
    refine va_get (D := D) (ci := 4) (v := .ref (a 1 0)) (C := RX4) (T := TX4) (N := 7) hx hb hts iX4_turnsOnTrial_X4 hown hK.1 hP 0 rfl rfl 2 (by decide) (hts _ qX4_turnsOnTrial_23) (fun _ h9 => h9) rfl dX4_turnsOnTrial_10 ?_
    refine lv_dup hx hb dX4_turnsOnTrial_13 rfl ?_
    refine va_getN (D := D) (ci := 2) (v := .int (X.2.2 1 0 2)) (C := RX2) (T := TX2) (N := 16) hx hb hts iX4_turnsOnTrial_X2 hown hK.1 (z_subP hP (z_inS (by decide))) 0 rfl rfl 2 (by decide) (va_Nw.use rfl (hK.2.1 _ zF_X4_87)) (fun _ h9 => h9) rfl dX4_turnsOnTrial_14 ?_
    refine lv_iload_n hx hb dX4_turnsOnTrial_17 rfl (lv_at hl 1 rfl) ?_
    refine lv_iadd hx hb dX4_turnsOnTrial_18 ?_
    refine va_putN (D := D) (ci := 2) (v := .int ((X.2.2 1 0 2) + p1)) (ty := .int) (C := RX2) (T := TX2) (N := 16) hx hb hts iX4_turnsOnTrial_X2 tyX2 tyX2_ok nmX2 hown hK.1 hP hD hS 23 rfl rfl 2 (by decide) (va_Nw.use rfl (hK.2.1 _ zF_X4_87)) (fun _ h9 => h9) rfl (by decide +kernel) rfl rfl (Nat.le_of_ble_eq_true rfl) dX4_turnsOnTrial_19 (fun H locs hP hD hS => ?_)
    obtain ⟨X3, e3, hf⟩ := z_ltE hf
    have hP : va_P D vwCl (z_dw c b a X3) H := by rw [e3, ← z_put1_2]; exact hP
    have hD : va_D A (z_dw c b a X3) := by rw [e3, ← z_put1_2]; exact hD
    clear e3
    refine lv_iconst (v := (1 : Int32)) hx hb dX4_turnsOnTrial_22 (by decide) ?_
    exact z_zi (wf := (z_dw c b a)) hx hb hr rfl hlocks hP hD hS hf dX4_turnsOnTrial_23
  · have hf := z_ifT hf c2
    refine lv_iconst (v := (0 : Int32)) hx hb dX4_turnsOnTrial_7 (by decide) ?_
    exact z_zi (wf := (z_dw c b a)) hx hb hr rfl hlocks hP hD hS hf dX4_turnsOnTrial_8
abbrev rmX4_changesOnTrial : Room := { frames := 2, cells := 0, slots := 0, locals := 46 }
theorem qX4_changesOnTrial_23 : Cond.fieldLink RX4 23 "ProgramDrum" "trial" "LProgramDrum$State;" ∈ wsX4_changesOnTrial := by decide +kernel
theorem iX4_changesOnTrial_X4 : ∀ w ∈ wsX40, w ∈ wsX4_changesOnTrial := by decide +kernel
set_option maxRecDepth 100000 in
set_option maxHeartbeats 4000000 in
theorem kX4_changesOnTrial (l : Launch) (D : va_G) (c : Nat → ClassId) (N : Nat) (b : Nat → Nat) (a : Nat → Nat → Nat) (sz : Nat) (X : z_X) (p1 : Int32) (p2 : Int32) (p3 : Int32) (r0 : Int32) (g0 : z_X) (hf : fX4_changesOnTrial N p1 p2 p3 X = some (r0, g0)) : Met l yX4_changesOnTrial wsX4_changesOnTrial rmX4_changesOnTrial (z_Pc D c sz (z_dw c b a X) [.ref (b 0), .int p1, .int p2, .int p3]) (z_Qi D (z_dw c b a) r0 g0 (va_A (z_dw c b a X) sz)) 0 0 (va_A (z_dw c b a X) sz) := by
  refine z_ofM (cc := cX4_changesOnTrial) (maxL := 4) (ret := (some .boolean)) (Qf := fun A => z_Qi D (z_dw c b a) r0 g0 A) (plainFor_of_name (by decide)) rfl (Nat.le_of_ble_eq_true rfl) ?_
  intro p e s m args below meth co A ls hx hb hr hml hts hown hlocks hnm hA hP hK hD hl hsz
  have hl : lv_has ls 4 [(0, .ref (b 0)), (1, .int p1), (2, .int p2), (3, .int p3)] := hl
  have hown : s.vm.findClass RX4 = some m.cls := hown
  obtain ⟨H, hH⟩ : ∃ H, H = s.heap := ⟨_, rfl⟩
  have hS : va_S A s.heap H [] := by rw [hH]; exact va_S.rf
  rw [← hH] at hP ⊢
  clear hH
  unfold fX4_changesOnTrial at hf
  generalize ([] : List Loc) = locs at hS ⊢
  refine lv_aload_n hx hb dX4_changesOnTrial_0 rfl (lv_at hl 0 rfl) ?_
  refine va_get (D := D) (ci := 4) (v := .ref (a 1 0)) (C := RX4) (T := TX4) (N := 7) hx hb hts iX4_changesOnTrial_X4 hown hK.1 hP 0 rfl rfl 2 (by decide) (hts _ qX4_changesOnTrial_23) (fun _ h9 => h9) rfl dX4_changesOnTrial_1 ?_
  refine lv_iload_n hx hb dX4_changesOnTrial_4 rfl (lv_at hl 1 rfl) ?_
  obtain ⟨r1, h1, hf⟩ := z_bE hf
  refine z_xVi (As := [.int p1]) (rest := []) (wf := z_st c (a 1)) (g := (X.2.2 1)) (u0 := (X.2.2 1)) ⟨hx, hb, hml, hown, hts⟩ (kX2_has l D c N (a 1) H.size (X.2.2 1) p1 r1 h1) (cwV 1 hts gX4_changesOnTrial_X2_has rfl rfl rfl (by decide +kernel) ⟨Nat.le_of_ble_eq_true rfl, Nat.le_of_ble_eq_true rfl⟩) hP hK hD hS hA (z_cutSp hD (by decide)) (ci := 2) (q0 := 0) rfl rfl rfl rfl hl.1 (Nat.le_of_ble_eq_true rfl) rfl dX4_changesOnTrial_5 ⟨Nat.zero_le _, Nat.zero_le _⟩ (fun H locs hP hD hS => ?_)
  refine lv_if_eq (tgt := 19) hx hb dX4_changesOnTrial_8 (by decide) (fun c2 => ?_) (fun c2 => ?_)
  · have hf := z_ifT hf c2
    refine lv_iconst (v := (0 : Int32)) hx hb dX4_changesOnTrial_19 (by decide) ?_
    exact z_zi (wf := (z_dw c b a)) hx hb hr rfl hlocks hP hD hS hf dX4_changesOnTrial_20
  · have hf := z_ifF hf c2
    refine lv_iload_n hx hb dX4_changesOnTrial_11 rfl (lv_at hl 2 rfl) ?_
    refine lv_iload_n hx hb dX4_changesOnTrial_12 rfl (lv_at hl 3 rfl) ?_
    obtain ⟨r3, h3, hf⟩ := z_bE hf
    refine z_cSi (As := [.int p2, .int p3]) (rest := []) ⟨hx, hb, hml, hown, hts⟩ (kX4_isNumberOfOrder l D c N H.size p2 p3 r3 h3) (va_cwS 2 hts gX4_changesOnTrial_X4_isNumberOfOrder rfl rfl rfl (by decide +kernel) ⟨Nat.le_of_ble_eq_true rfl, Nat.le_of_ble_eq_true rfl⟩) hP hK hS hA rfl hl.1 (Nat.le_of_ble_eq_true rfl) rfl dX4_changesOnTrial_13 ⟨Nat.zero_le _, Nat.zero_le _⟩ (fun H locs hP hS => ?_)
    refine lv_if_ne (tgt := 21) hx hb dX4_changesOnTrial_16 (by decide) (fun c4 => ?_) (fun c4 => ?_)
    · have hf := z_ifF hf c4
      refine lv_aload_n hx hb dX4_changesOnTrial_21 rfl (lv_at hl 0 rfl) ?_
      refine va_get (D := D) (ci := 4) (v := .ref (a 1 0)) (C := RX4) (T := TX4) (N := 7) hx hb hts iX4_changesOnTrial_X4 hown hK.1 hP 0 rfl rfl 2 (by decide) (hts _ qX4_changesOnTrial_23) (fun _ h9 => h9) rfl dX4_changesOnTrial_22 ?_
      refine lv_iload_n hx hb dX4_changesOnTrial_25 rfl (lv_at hl 1 rfl) ?_
      refine lv_iload_n hx hb dX4_changesOnTrial_26 rfl (lv_at hl 2 rfl) ?_
      refine lv_iload_n hx hb dX4_changesOnTrial_27 rfl (lv_at hl 3 rfl) ?_
      obtain ⟨r5, u5, h5, hf⟩ := z_b2E hf
      refine z_xVi (As := [.int p1, .int p2, .int p3]) (rest := []) (wf := z_st c (a 1)) (g := (X.2.2 1)) (u0 := u5) ⟨hx, hb, hml, hown, hts⟩ (kX2_replace l D c N (a 1) H.size (X.2.2 1) p1 p2 p3 r5 u5 h5) (cwV 3 hts gX4_changesOnTrial_X2_replace rfl rfl rfl (by decide +kernel) ⟨Nat.le_of_ble_eq_true rfl, Nat.le_of_ble_eq_true rfl⟩) hP hK hD hS hA (z_cutS hD (by decide) u5) (ci := 2) (q0 := 0) rfl rfl rfl rfl hl.1 (Nat.le_of_ble_eq_true rfl) rfl dX4_changesOnTrial_28 ⟨Nat.zero_le _, Nat.zero_le _⟩ (fun H locs hP hD hS => ?_)
      obtain ⟨X6, e6, hf⟩ := z_ltE hf
      have hP : va_P D vwCl (z_dw c b a X6) H := by rw [e6]; exact hP
      have hD : va_D A (z_dw c b a X6) := by rw [e6]; exact hD
      clear e6
      refine lv_pop hx hb dX4_changesOnTrial_31 rfl ?_
      refine lv_iconst (v := (1 : Int32)) hx hb dX4_changesOnTrial_32 (by decide) ?_
      exact z_zi (wf := (z_dw c b a)) hx hb hr rfl hlocks hP hD hS hf dX4_changesOnTrial_33
    · have hf := z_ifT hf c4
      refine lv_iconst (v := (0 : Int32)) hx hb dX4_changesOnTrial_19 (by decide) ?_
      exact z_zi (wf := (z_dw c b a)) hx hb hr rfl hlocks hP hD hS hf dX4_changesOnTrial_20
abbrev rmX4_isSoonOnTrial : Room := { frames := 3, cells := 0, slots := 0, locals := 64 }
theorem qX4_isSoonOnTrial_23 : Cond.fieldLink RX4 23 "ProgramDrum" "trial" "LProgramDrum$State;" ∈ wsX4_isSoonOnTrial := by decide +kernel
theorem iX4_isSoonOnTrial_X4 : ∀ w ∈ wsX40, w ∈ wsX4_isSoonOnTrial := by decide +kernel
set_option maxRecDepth 100000 in
set_option maxHeartbeats 4000000 in
theorem kX4_isSoonOnTrial (l : Launch) (D : va_G) (c : Nat → ClassId) (N : Nat) (b : Nat → Nat) (a : Nat → Nat → Nat) (sz : Nat) (X : z_X) (p1 : Int32) (p2 : Int32) (r0 : Int32) (hf : fX4_isSoonOnTrial N p1 p2 X = some r0) : Met l yX4_isSoonOnTrial wsX4_isSoonOnTrial rmX4_isSoonOnTrial (z_Pc D c sz (z_dw c b a X) [.ref (b 0), .int p1, .int p2]) (z_Qi D (z_dw c b a) r0 X (va_A (z_dw c b a X) sz)) 0 0 (va_A (z_dw c b a X) sz) := by
  refine z_ofM (cc := cX4_isSoonOnTrial) (maxL := 3) (ret := (some .boolean)) (Qf := fun A => z_Qi D (z_dw c b a) r0 X A) (plainFor_of_name (by decide)) rfl (Nat.le_of_ble_eq_true rfl) ?_
  intro p e s m args below meth co A ls hx hb hr hml hts hown hlocks hnm hA hP hK hD hl hsz
  have hl : lv_has ls 3 [(0, .ref (b 0)), (1, .int p1), (2, .int p2)] := hl
  have hown : s.vm.findClass RX4 = some m.cls := hown
  obtain ⟨H, hH⟩ : ∃ H, H = s.heap := ⟨_, rfl⟩
  have hS : va_S A s.heap H [] := by rw [hH]; exact va_S.rf
  rw [← hH] at hP ⊢
  clear hH
  unfold fX4_isSoonOnTrial at hf
  generalize ([] : List Loc) = locs at hS ⊢
  refine lv_aload_n hx hb dX4_isSoonOnTrial_0 rfl (lv_at hl 0 rfl) ?_
  refine va_get (D := D) (ci := 4) (v := .ref (a 1 0)) (C := RX4) (T := TX4) (N := 7) hx hb hts iX4_isSoonOnTrial_X4 hown hK.1 hP 0 rfl rfl 2 (by decide) (hts _ qX4_isSoonOnTrial_23) (fun _ h9 => h9) rfl dX4_isSoonOnTrial_1 ?_
  refine lv_iload_n hx hb dX4_isSoonOnTrial_4 rfl (lv_at hl 1 rfl) ?_
  obtain ⟨r1, h1, hf⟩ := z_bE hf
  refine z_xVi (As := [.int p1]) (rest := []) (wf := z_st c (a 1)) (g := (X.2.2 1)) (u0 := (X.2.2 1)) ⟨hx, hb, hml, hown, hts⟩ (kX2_isOnDrum l D c N (a 1) H.size (X.2.2 1) p1 r1 h1) (cwV 1 hts gX4_isSoonOnTrial_X2_isOnDrum rfl rfl rfl (by decide +kernel) ⟨Nat.le_of_ble_eq_true rfl, Nat.le_of_ble_eq_true rfl⟩) hP hK hD hS hA (z_cutSp hD (by decide)) (ci := 2) (q0 := 0) rfl rfl rfl rfl hl.1 (Nat.le_of_ble_eq_true rfl) rfl dX4_isSoonOnTrial_5 ⟨Nat.zero_le _, Nat.zero_le _⟩ (fun H locs hP hD hS => ?_)
  refine lv_if_eq (tgt := 27) hx hb dX4_isSoonOnTrial_8 (by decide) (fun c2 => ?_) (fun c2 => ?_)
  · have hf := z_ifT hf c2
    refine lv_iconst (v := (0 : Int32)) hx hb dX4_isSoonOnTrial_27 (by decide) ?_
    exact z_zp (wf := (z_dw c b a)) hx hb hr rfl hlocks hP hD hS hf dX4_isSoonOnTrial_28
  · have hf := z_ifF hf c2
    refine lv_aload_n hx hb dX4_isSoonOnTrial_11 rfl (lv_at hl 0 rfl) ?_
    refine va_get (D := D) (ci := 4) (v := .ref (a 1 0)) (C := RX4) (T := TX4) (N := 7) hx hb hts iX4_isSoonOnTrial_X4 hown hK.1 hP 0 rfl rfl 2 (by decide) (hts _ qX4_isSoonOnTrial_23) (fun _ h9 => h9) rfl dX4_isSoonOnTrial_12 ?_
    refine lv_iload_n hx hb dX4_isSoonOnTrial_15 rfl (lv_at hl 1 rfl) ?_
    obtain ⟨r3, h3, hf⟩ := z_bE hf
    refine z_xVi (As := [.int p1]) (rest := []) (wf := z_st c (a 1)) (g := (X.2.2 1)) (u0 := (X.2.2 1)) ⟨hx, hb, hml, hown, hts⟩ (kX2_waitFor l D c N (a 1) H.size (X.2.2 1) p1 r3 h3) (cwV 1 hts gX4_isSoonOnTrial_X2_waitFor rfl rfl rfl (by decide +kernel) ⟨Nat.le_of_ble_eq_true rfl, Nat.le_of_ble_eq_true rfl⟩) hP hK hD hS hA (z_cutSp hD (by decide)) (ci := 2) (q0 := 0) rfl rfl rfl rfl hl.1 (Nat.le_of_ble_eq_true rfl) rfl dX4_isSoonOnTrial_16 ⟨Nat.zero_le _, Nat.zero_le _⟩ (fun H locs hP hD hS => ?_)
    refine lv_iload_n hx hb dX4_isSoonOnTrial_19 rfl (lv_at hl 2 rfl) ?_
    refine lv_icmp_gt (tgt := 27) hx hb dX4_isSoonOnTrial_20 (by decide) (fun c4 => ?_) (fun c4 => ?_)
    · have hf := z_ifT hf c4
      refine lv_iconst (v := (0 : Int32)) hx hb dX4_isSoonOnTrial_27 (by decide) ?_
      exact z_zp (wf := (z_dw c b a)) hx hb hr rfl hlocks hP hD hS hf dX4_isSoonOnTrial_28
    · have hf := z_ifF hf c4
      refine lv_iconst (v := (1 : Int32)) hx hb dX4_isSoonOnTrial_23 (by decide) ?_
      refine lv_goto (tgt := 28) hx hb dX4_isSoonOnTrial_24 (by decide) ?_
      exact z_zp (wf := (z_dw c b a)) hx hb hr rfl hlocks hP hD hS hf dX4_isSoonOnTrial_28
abbrev rmX4_isShortOnTrial : Room := { frames := 4, cells := 0, slots := 0, locals := 91 }
theorem qX4_isShortOnTrial_23 : Cond.fieldLink RX4 23 "ProgramDrum" "trial" "LProgramDrum$State;" ∈ wsX4_isShortOnTrial := by decide +kernel
theorem iX4_isShortOnTrial_X4 : ∀ w ∈ wsX40, w ∈ wsX4_isShortOnTrial := by decide +kernel
theorem qX4_isShortOnTrial_26 : Cond.fieldLink RX4 26 "ProgramDrum" "probe" "LProgramDrum$State;" ∈ wsX4_isShortOnTrial := by decide +kernel
theorem iX4_isShortOnTrial_X2 : ∀ w ∈ wsX20, w ∈ wsX4_isShortOnTrial := by decide +kernel
set_option maxRecDepth 100000 in
set_option maxHeartbeats 4000000 in
theorem kX4_isShortOnTrial (l : Launch) (D : va_G) (c : Nat → ClassId) (N : Nat) (b : Nat → Nat) (a : Nat → Nat → Nat) (sz : Nat) (X : z_X) (p1 : Int32) (p2 : Int32) (r0 : Int32) (g0 : z_X) (hf : fX4_isShortOnTrial N p1 p2 X = some (r0, g0)) : Met l yX4_isShortOnTrial wsX4_isShortOnTrial rmX4_isShortOnTrial (z_Pc D c sz (z_dw c b a X) [.ref (b 0), .int p1, .int p2]) (z_Qi D (z_dw c b a) r0 g0 (va_A (z_dw c b a X) sz)) 0 0 (va_A (z_dw c b a X) sz) := by
  refine z_ofM (cc := cX4_isShortOnTrial) (maxL := 3) (ret := (some .boolean)) (Qf := fun A => z_Qi D (z_dw c b a) r0 g0 A) (plainFor_of_name (by decide)) rfl (Nat.le_of_ble_eq_true rfl) ?_
  intro p e s m args below meth co A ls hx hb hr hml hts hown hlocks hnm hA hP hK hD hl hsz
  have hl : lv_has ls 3 [(0, .ref (b 0)), (1, .int p1), (2, .int p2)] := hl
  have hown : s.vm.findClass RX4 = some m.cls := hown
  obtain ⟨H, hH⟩ : ∃ H, H = s.heap := ⟨_, rfl⟩
  have hS : va_S A s.heap H [] := by rw [hH]; exact va_S.rf
  rw [← hH] at hP ⊢
  clear hH
  unfold fX4_isShortOnTrial at hf
  generalize ([] : List Loc) = locs at hS ⊢
  refine lv_aload_n hx hb dX4_isShortOnTrial_0 rfl (lv_at hl 0 rfl) ?_
  refine va_get (D := D) (ci := 4) (v := .ref (a 1 0)) (C := RX4) (T := TX4) (N := 7) hx hb hts iX4_isShortOnTrial_X4 hown hK.1 hP 0 rfl rfl 2 (by decide) (hts _ qX4_isShortOnTrial_23) (fun _ h9 => h9) rfl dX4_isShortOnTrial_1 ?_
  refine lv_iload_n hx hb dX4_isShortOnTrial_4 rfl (lv_at hl 1 rfl) ?_
  obtain ⟨r1, h1, hf⟩ := z_bE hf
  refine z_xVi (As := [.int p1]) (rest := []) (wf := z_st c (a 1)) (g := (X.2.2 1)) (u0 := (X.2.2 1)) ⟨hx, hb, hml, hown, hts⟩ (kX2_has l D c N (a 1) H.size (X.2.2 1) p1 r1 h1) (cwV 1 hts gX4_isShortOnTrial_X2_has rfl rfl rfl (by decide +kernel) ⟨Nat.le_of_ble_eq_true rfl, Nat.le_of_ble_eq_true rfl⟩) hP hK hD hS hA (z_cutSp hD (by decide)) (ci := 2) (q0 := 0) rfl rfl rfl rfl hl.1 (Nat.le_of_ble_eq_true rfl) rfl dX4_isShortOnTrial_5 ⟨Nat.zero_le _, Nat.zero_le _⟩ (fun H locs hP hD hS => ?_)
  refine lv_if_ne (tgt := 13) hx hb dX4_isShortOnTrial_8 (by decide) (fun c2 => ?_) (fun c2 => ?_)
  · have hf := z_ifF hf c2
    refine lv_aload_n hx hb dX4_isShortOnTrial_13 rfl (lv_at hl 0 rfl) ?_
    refine va_get (D := D) (ci := 4) (v := .ref (a 2 0)) (C := RX4) (T := TX4) (N := 7) hx hb hts iX4_isShortOnTrial_X4 hown hK.1 hP 0 rfl rfl 3 (by decide) (hts _ qX4_isShortOnTrial_26) (fun _ h9 => h9) rfl dX4_isShortOnTrial_14 ?_
    refine lv_aload_n hx hb dX4_isShortOnTrial_17 rfl (lv_at hl 0 rfl) ?_
    refine va_get (D := D) (ci := 4) (v := .ref (a 1 0)) (C := RX4) (T := TX4) (N := 7) hx hb hts iX4_isShortOnTrial_X4 hown hK.1 hP 0 rfl rfl 2 (by decide) (hts _ qX4_isShortOnTrial_23) (fun _ h9 => h9) rfl dX4_isShortOnTrial_18 ?_
    obtain ⟨u3, h3, hf⟩ := z_bE hf
    refine z_xVv (As := [.ref (a 1 0)]) (rest := []) (wf := fun u : z_R => z_st c (a 2) u ++ z_st c (a 1) (X.2.2 1)) (g := (X.2.2 2)) (u0 := u3) ⟨hx, hb, hml, hown, hts⟩ (kX2_copyFrom l D c N (a 2) (a 1) H.size (X.2.2 1) (X.2.2 2) u3 h3) (cwV 1 hts gX4_isShortOnTrial_X2_copyFrom rfl rfl rfl (by decide +kernel) ⟨Nat.le_of_ble_eq_true rfl, Nat.le_of_ble_eq_true rfl⟩) hP hK hD hS hA (z_cutSS hD (by decide) (by decide) (by decide) u3) (ci := 2) (q0 := 0) rfl rfl rfl rfl hl.1 (Nat.le_of_ble_eq_true rfl) rfl dX4_isShortOnTrial_21 ⟨Nat.zero_le _, Nat.zero_le _⟩ (fun H locs hP hD hS => ?_)
    obtain ⟨X4, e4, hf⟩ := z_ltE hf
    have hP : va_P D vwCl (z_dw c b a X4) H := by rw [e4]; exact hP
    have hD : va_D A (z_dw c b a X4) := by rw [e4]; exact hD
    clear e4
    refine lv_aload_n hx hb dX4_isShortOnTrial_24 rfl (lv_at hl 0 rfl) ?_
    refine va_get (D := D) (ci := 4) (v := .ref (a 2 0)) (C := RX4) (T := TX4) (N := 7) hx hb hts iX4_isShortOnTrial_X4 hown hK.1 hP 0 rfl rfl 3 (by decide) (hts _ qX4_isShortOnTrial_26) (fun _ h9 => h9) rfl dX4_isShortOnTrial_25 ?_
    refine lv_iload_n hx hb dX4_isShortOnTrial_28 rfl (lv_at hl 1 rfl) ?_
    obtain ⟨r5, u5, h5, hf⟩ := z_b2E hf
    refine z_xVi (As := [.int p1]) (rest := []) (wf := z_st c (a 2)) (g := (X4.2.2 2)) (u0 := u5) ⟨hx, hb, hml, hown, hts⟩ (kX2_runFrom l D c N (a 2) H.size (X4.2.2 2) p1 r5 u5 h5) (cwV 1 hts gX4_isShortOnTrial_X2_runFrom rfl rfl rfl (by decide +kernel) ⟨Nat.le_of_ble_eq_true rfl, Nat.le_of_ble_eq_true rfl⟩) hP hK hD hS hA (z_cutS hD (by decide) u5) (ci := 2) (q0 := 0) rfl rfl rfl rfl hl.1 (Nat.le_of_ble_eq_true rfl) rfl dX4_isShortOnTrial_29 ⟨Nat.zero_le _, Nat.zero_le _⟩ (fun H locs hP hD hS => ?_)
    obtain ⟨X6, e6, hf⟩ := z_ltE hf
    have hP : va_P D vwCl (z_dw c b a X6) H := by rw [e6]; exact hP
    have hD : va_D A (z_dw c b a X6) := by rw [e6]; exact hD
    clear e6
    refine lv_if_ne (tgt := 58) hx hb dX4_isShortOnTrial_32 (by decide) (fun c7 => ?_) (fun c7 => ?_)
    · have hf := z_ifF hf c7
      refine lv_iconst (v := (0 : Int32)) hx hb dX4_isShortOnTrial_58 (by decide) ?_
      exact z_zi (wf := (z_dw c b a)) hx hb hr rfl hlocks hP hD hS hf dX4_isShortOnTrial_59
    · have hf := z_ifT hf c7
      refine lv_aload_n hx hb dX4_isShortOnTrial_35 rfl (lv_at hl 0 rfl) ?_
      refine va_get (D := D) (ci := 4) (v := .ref (a 2 0)) (C := RX4) (T := TX4) (N := 7) hx hb hts iX4_isShortOnTrial_X4 hown hK.1 hP 0 rfl rfl 3 (by decide) (hts _ qX4_isShortOnTrial_26) (fun _ h9 => h9) rfl dX4_isShortOnTrial_36 ?_
      refine va_getN (D := D) (ci := 2) (v := .int (X6.2.2 2 0 2)) (C := RX2) (T := TX2) (N := 16) hx hb hts iX4_isShortOnTrial_X2 hown hK.1 (z_subP hP (z_inS (by decide))) 0 rfl rfl 2 (by decide) (va_Nw.use rfl (hK.2.1 _ zF_X4_87)) (fun _ h9 => h9) rfl dX4_isShortOnTrial_39 ?_
      refine lv_aload_n hx hb dX4_isShortOnTrial_42 rfl (lv_at hl 0 rfl) ?_
      refine va_get (D := D) (ci := 4) (v := .ref (a 1 0)) (C := RX4) (T := TX4) (N := 7) hx hb hts iX4_isShortOnTrial_X4 hown hK.1 hP 0 rfl rfl 2 (by decide) (hts _ qX4_isShortOnTrial_23) (fun _ h9 => h9) rfl dX4_isShortOnTrial_43 ?_
      refine va_getN (D := D) (ci := 2) (v := .int (X6.2.2 1 0 2)) (C := RX2) (T := TX2) (N := 16) hx hb hts iX4_isShortOnTrial_X2 hown hK.1 (z_subP hP (z_inS (by decide))) 0 rfl rfl 2 (by decide) (va_Nw.use rfl (hK.2.1 _ zF_X4_87)) (fun _ h9 => h9) rfl dX4_isShortOnTrial_46 ?_
      refine lv_isub hx hb dX4_isShortOnTrial_49 ?_
      refine lv_iload_n hx hb dX4_isShortOnTrial_50 rfl (lv_at hl 2 rfl) ?_
      refine lv_icmp_gt (tgt := 58) hx hb dX4_isShortOnTrial_51 (by decide) (fun c8 => ?_) (fun c8 => ?_)
      · have hf := z_ifT hf c8
        refine lv_iconst (v := (0 : Int32)) hx hb dX4_isShortOnTrial_58 (by decide) ?_
        exact z_zi (wf := (z_dw c b a)) hx hb hr rfl hlocks hP hD hS hf dX4_isShortOnTrial_59
      · have hf := z_ifF hf c8
        refine lv_iconst (v := (1 : Int32)) hx hb dX4_isShortOnTrial_54 (by decide) ?_
        refine lv_goto (tgt := 59) hx hb dX4_isShortOnTrial_55 (by decide) ?_
        exact z_zi (wf := (z_dw c b a)) hx hb hr rfl hlocks hP hD hS hf dX4_isShortOnTrial_59
  · have hf := z_ifT hf c2
    refine lv_iconst (v := (0 : Int32)) hx hb dX4_isShortOnTrial_11 (by decide) ?_
    exact z_zi (wf := (z_dw c b a)) hx hb hr rfl hlocks hP hD hS hf dX4_isShortOnTrial_12
abbrev rmX4_isCheapOnTrial : Room := { frames := 1, cells := 0, slots := 0, locals := 20 }
theorem qX4_isCheapOnTrial_23 : Cond.fieldLink RX4 23 "ProgramDrum" "trial" "LProgramDrum$State;" ∈ wsX4_isCheapOnTrial := by decide +kernel
theorem iX4_isCheapOnTrial_X4 : ∀ w ∈ wsX40, w ∈ wsX4_isCheapOnTrial := by decide +kernel
theorem iX4_isCheapOnTrial_X2 : ∀ w ∈ wsX20, w ∈ wsX4_isCheapOnTrial := by decide +kernel
set_option maxRecDepth 100000 in
set_option maxHeartbeats 4000000 in
theorem kX4_isCheapOnTrial (l : Launch) (D : va_G) (c : Nat → ClassId) (N : Nat) (b : Nat → Nat) (a : Nat → Nat → Nat) (sz : Nat) (X : z_X) (p1 : Int32) (p2 : Int32) (r0 : Int32) (hf : fX4_isCheapOnTrial N p1 p2 X = some r0) : Met l yX4_isCheapOnTrial wsX4_isCheapOnTrial rmX4_isCheapOnTrial (z_Pc D c sz (z_dw c b a X) [.ref (b 0), .int p1, .int p2]) (z_Qi D (z_dw c b a) r0 X (va_A (z_dw c b a X) sz)) 0 0 (va_A (z_dw c b a X) sz) := by
  refine z_ofM (cc := cX4_isCheapOnTrial) (maxL := 3) (ret := (some .boolean)) (Qf := fun A => z_Qi D (z_dw c b a) r0 X A) (plainFor_of_name (by decide)) rfl (Nat.le_of_ble_eq_true rfl) ?_
  intro p e s m args below meth co A ls hx hb hr hml hts hown hlocks hnm hA hP hK hD hl hsz
  have hl : lv_has ls 3 [(0, .ref (b 0)), (1, .int p1), (2, .int p2)] := hl
  have hown : s.vm.findClass RX4 = some m.cls := hown
  obtain ⟨H, hH⟩ : ∃ H, H = s.heap := ⟨_, rfl⟩
  have hS : va_S A s.heap H [] := by rw [hH]; exact va_S.rf
  rw [← hH] at hP ⊢
  clear hH
  unfold fX4_isCheapOnTrial at hf
  generalize ([] : List Loc) = locs at hS ⊢
  refine lv_iload_n hx hb dX4_isCheapOnTrial_0 rfl (lv_at hl 1 rfl) ?_
  obtain ⟨r1, h1, hf⟩ := z_bE hf
  refine z_cSi (As := [.int p1]) (rest := []) ⟨hx, hb, hml, hown, hts⟩ (kX4_isAuthor l D c N H.size p1 r1 h1) (va_cwS 1 hts gX4_isCheapOnTrial_X4_isAuthor rfl rfl rfl (by decide +kernel) ⟨Nat.le_of_ble_eq_true rfl, Nat.le_of_ble_eq_true rfl⟩) hP hK hS hA rfl hl.1 (Nat.le_of_ble_eq_true rfl) rfl dX4_isCheapOnTrial_1 ⟨Nat.zero_le _, Nat.zero_le _⟩ (fun H locs hP hS => ?_)
  refine lv_if_eq (tgt := 24) hx hb dX4_isCheapOnTrial_4 (by decide) (fun c2 => ?_) (fun c2 => ?_)
  · have hf := z_ifT hf c2
    refine lv_iconst (v := (0 : Int32)) hx hb dX4_isCheapOnTrial_24 (by decide) ?_
    exact z_zp (wf := (z_dw c b a)) hx hb hr rfl hlocks hP hD hS hf dX4_isCheapOnTrial_25
  · have hf := z_ifF hf c2
    refine lv_aload_n hx hb dX4_isCheapOnTrial_7 rfl (lv_at hl 0 rfl) ?_
    refine va_get (D := D) (ci := 4) (v := .ref (a 1 0)) (C := RX4) (T := TX4) (N := 7) hx hb hts iX4_isCheapOnTrial_X4 hown hK.1 hP 0 rfl rfl 2 (by decide) (hts _ qX4_isCheapOnTrial_23) (fun _ h9 => h9) rfl dX4_isCheapOnTrial_8 ?_
    refine va_getN (D := D) (ci := 2) (v := .ref (a 1 11)) (C := RX2) (T := TX2) (N := 16) hx hb hts iX4_isCheapOnTrial_X2 hown hK.1 (z_subP hP (z_inS (by decide))) 0 rfl rfl 14 (by decide) (va_Nw.use rfl (hK.2.1 _ zF_X4_104)) (fun _ h9 => h9) rfl dX4_isCheapOnTrial_11 ?_
    refine lv_iload_n hx hb dX4_isCheapOnTrial_14 rfl (lv_at hl 1 rfl) ?_
    obtain ⟨b3, hf⟩ := z_ckE hf
    refine va_iald hx hb hK.1 (z_subP hP (z_inS (by decide))) 11 0 rfl rfl (z_inE b3) dX4_isCheapOnTrial_15 ?_
    refine lv_iload_n hx hb dX4_isCheapOnTrial_16 rfl (lv_at hl 2 rfl) ?_
    refine lv_icmp_gt (tgt := 24) hx hb dX4_isCheapOnTrial_17 (by decide) (fun c4 => ?_) (fun c4 => ?_)
    · have hf := z_ifT hf c4
      refine lv_iconst (v := (0 : Int32)) hx hb dX4_isCheapOnTrial_24 (by decide) ?_
      exact z_zp (wf := (z_dw c b a)) hx hb hr rfl hlocks hP hD hS hf dX4_isCheapOnTrial_25
    · have hf := z_ifF hf c4
      refine lv_iconst (v := (1 : Int32)) hx hb dX4_isCheapOnTrial_20 (by decide) ?_
      refine lv_goto (tgt := 25) hx hb dX4_isCheapOnTrial_21 (by decide) ?_
      exact z_zp (wf := (z_dw c b a)) hx hb hr rfl hlocks hP hD hS hf dX4_isCheapOnTrial_25
abbrev rmX4_succeeds : Room := { frames := 5, cells := 0, slots := 0, locals := 113 }
theorem qX4_succeeds_23 : Cond.fieldLink RX4 23 "ProgramDrum" "trial" "LProgramDrum$State;" ∈ wsX4_succeeds := by decide +kernel
theorem iX4_succeeds_X4 : ∀ w ∈ wsX40, w ∈ wsX4_succeeds := by decide +kernel
set_option maxRecDepth 100000 in
set_option maxHeartbeats 4000000 in
theorem kX4_succeeds (l : Launch) (D : va_G) (c : Nat → ClassId) (N : Nat) (b : Nat → Nat) (a : Nat → Nat → Nat) (sz : Nat) (X : z_X) (p1 : Int32) (r0 : Int32) (g0 : z_X) (hf : fX4_succeeds N p1 X = some (r0, g0)) : Met l yX4_succeeds wsX4_succeeds rmX4_succeeds (z_Pc D c sz (z_dw c b a X) [.ref (b 0), .int p1]) (z_Qi D (z_dw c b a) r0 g0 (va_A (z_dw c b a X) sz)) 0 0 (va_A (z_dw c b a X) sz) := by
  refine z_ofM (cc := cX4_succeeds) (maxL := 4) (ret := (some .boolean)) (Qf := fun A => z_Qi D (z_dw c b a) r0 g0 A) (plainFor_of_name (by decide)) rfl (Nat.le_of_ble_eq_true rfl) ?_
  intro p e s m args below meth co A ls hx hb hr hml hts hown hlocks hnm hA hP hK hD hl hsz
  have hl : lv_has ls 4 [(0, .ref (b 0)), (1, .int p1)] := hl
  have hown : s.vm.findClass RX4 = some m.cls := hown
  obtain ⟨H, hH⟩ : ∃ H, H = s.heap := ⟨_, rfl⟩
  have hS : va_S A s.heap H [] := by rw [hH]; exact va_S.rf
  rw [← hH] at hP ⊢
  clear hH
  unfold fX4_succeeds at hf
  generalize ([] : List Loc) = locs at hS ⊢
  refine lv_iload_n hx hb dX4_succeeds_0 rfl (lv_at hl 1 rfl) ?_
  refine lv_bipush (v := (100 : Int32)) hx hb dX4_succeeds_1 (by decide) ?_
  refine lv_idiv hx hb dX4_succeeds_3 (by decide) ?_
  refine lv_bipush (v := (100 : Int32)) hx hb dX4_succeeds_4 (by decide) ?_
  refine lv_irem hx hb dX4_succeeds_6 (by decide) ?_
  refine lv_istore_n (lv' := [(2, .int ((p1 / (100 : Int32)) - (p1 / (100 : Int32)) / (100 : Int32) * (100 : Int32))), (0, .ref (b 0)), (1, .int p1)]) hx hb dX4_succeeds_7 rfl hl (by decide) rfl (fun ls hl => ?_)
  refine lv_iload_n hx hb dX4_succeeds_8 rfl (lv_at hl 2 rfl) ?_
  refine lv_bipush (v := (100 : Int32)) hx hb dX4_succeeds_9 (by decide) ?_
  refine lv_irem hx hb dX4_succeeds_11 (by decide) ?_
  refine lv_istore_n (lv' := [(3, .int (p1 - p1 / (100 : Int32) * (100 : Int32))), (2, .int ((p1 / (100 : Int32)) - (p1 / (100 : Int32)) / (100 : Int32) * (100 : Int32))), (0, .ref (b 0)), (1, .int p1)]) hx hb dX4_succeeds_12 rfl hl (by decide) rfl (fun ls hl => ?_)
  refine lv_iload_n hx hb dX4_succeeds_13 rfl (lv_at hl 3 rfl) ?_
  refine lv_sipush (v := (10000 : Int32)) hx hb dX4_succeeds_14 (by decide) ?_
  refine lv_idiv hx hb dX4_succeeds_17 (by decide) ?_
  by_cases c1_0 : (p1 / (10000 : Int32)) = (1 : Int32)
  · have hf := z_ifT hf c1_0
    refine lv_tableIn (tgt := 68) hx hb dX4_succeeds_18 (by rw [c1_0]; decide) (by rw [c1_0]; decide) (off := 50) (by rw [c1_0]; rfl) (by decide) ?_
    refine lv_iload_n hx hb dX4_succeeds_68 rfl (lv_at hl 0 rfl) ?_
    refine lv_if_ne (tgt := 84) hx hb dX4_succeeds_69 (by decide) (fun c2 => ?_) (fun c2 => ?_)
    · have hf := z_ifF hf c2
      refine lv_iconst (v := (0 : Int32)) hx hb dX4_succeeds_84 (by decide) ?_
      exact z_zi (wf := (z_dw c b a)) hx hb hr rfl hlocks hP hD hS hf dX4_succeeds_85
    · have hf := z_ifT hf c2
      refine lv_aload_n hx hb dX4_succeeds_72 rfl (lv_at hl 2 rfl) ?_
      refine lv_iload_n hx hb dX4_succeeds_73 rfl (lv_at hl 1 rfl) ?_
      obtain ⟨r3, X3, h3, hf⟩ := z_b2E hf
      refine z_cVi (As := [.int ((p1 / (100 : Int32)) - (p1 / (100 : Int32)) / (100 : Int32) * (100 : Int32))]) (rest := []) (wf := (z_dw c b a)) (g := X) (u0 := X3) ⟨hx, hb, hml, hown, hts⟩ (kX4_runsOnTrial l D c N b a H.size X ((p1 / (100 : Int32)) - (p1 / (100 : Int32)) / (100 : Int32) * (100 : Int32)) r3 X3 h3) (cwV 1 hts gX4_succeeds_X4_runsOnTrial rfl rfl rfl (by decide +kernel) ⟨Nat.le_of_ble_eq_true rfl, Nat.le_of_ble_eq_true rfl⟩) hP hK hD hS hA (ci := 4) (q0 := 0) rfl rfl rfl rfl hl.1 (Nat.le_of_ble_eq_true rfl) rfl dX4_succeeds_74 ⟨Nat.zero_le _, Nat.zero_le _⟩ (fun H locs hP hD hS => ?_)
      refine lv_if_eq (tgt := 84) hx hb dX4_succeeds_77 (by decide) (fun c4 => ?_) (fun c4 => ?_)
      · have hf := z_ifT hf c4
        refine lv_iconst (v := (0 : Int32)) hx hb dX4_succeeds_84 (by decide) ?_
        exact z_zi (wf := (z_dw c b a)) hx hb hr rfl hlocks hP hD hS hf dX4_succeeds_85
      · have hf := z_ifF hf c4
        refine lv_iconst (v := (1 : Int32)) hx hb dX4_succeeds_80 (by decide) ?_
        refine lv_goto (tgt := 85) hx hb dX4_succeeds_81 (by decide) ?_
        exact z_zi (wf := (z_dw c b a)) hx hb hr rfl hlocks hP hD hS hf dX4_succeeds_85
  have hf := z_ifF hf c1_0
  by_cases c1_1 : (p1 / (10000 : Int32)) = (2 : Int32)
  · have hf := z_ifT hf c1_1
    refine lv_tableIn (tgt := 86) hx hb dX4_succeeds_18 (by rw [c1_1]; decide) (by rw [c1_1]; decide) (off := 68) (by rw [c1_1]; rfl) (by decide) ?_
    refine lv_iload_n hx hb dX4_succeeds_86 rfl (lv_at hl 1 rfl) ?_
    refine lv_if_ne (tgt := 94) hx hb dX4_succeeds_87 (by decide) (fun c5 => ?_) (fun c5 => ?_)
    · have hf := z_ifF hf c5
      refine lv_iconst (v := (0 : Int32)) hx hb dX4_succeeds_94 (by decide) ?_
      exact z_zi (wf := (z_dw c b a)) hx hb hr rfl hlocks hP hD hS hf dX4_succeeds_95
    · have hf := z_ifT hf c5
      refine lv_iload_n hx hb dX4_succeeds_90 rfl (lv_at hl 0 rfl) ?_
      refine lv_if_eq (tgt := 96) hx hb dX4_succeeds_91 (by decide) (fun c6 => ?_) (fun c6 => ?_)
      · have hf := z_ifT hf c6
        refine lv_aload_n hx hb dX4_succeeds_96 rfl (lv_at hl 2 rfl) ?_
        refine va_get (D := D) (ci := 4) (v := .ref (a 1 0)) (C := RX4) (T := TX4) (N := 7) hx hb hts iX4_succeeds_X4 hown hK.1 hP 0 rfl rfl 2 (by decide) (hts _ qX4_succeeds_23) (fun _ h9 => h9) rfl dX4_succeeds_97 ?_
        obtain ⟨r7, u7, h7, hf⟩ := z_b2E hf
        refine z_xVi (As := []) (rest := []) (wf := z_st c (a 1)) (g := (X.2.2 1)) (u0 := u7) ⟨hx, hb, hml, hown, hts⟩ (kX2_layAll l D c N (a 1) H.size (X.2.2 1)  r7 u7 h7) (cwV 0 hts gX4_succeeds_X2_layAll rfl rfl rfl (by decide +kernel) ⟨Nat.le_of_ble_eq_true rfl, Nat.le_of_ble_eq_true rfl⟩) hP hK hD hS hA (z_cutS hD (by decide) u7) (ci := 2) (q0 := 0) rfl rfl rfl rfl hl.1 (Nat.le_of_ble_eq_true rfl) rfl dX4_succeeds_100 ⟨Nat.zero_le _, Nat.zero_le _⟩ (fun H locs hP hD hS => ?_)
        obtain ⟨X8, e8, hf⟩ := z_ltE hf
        have hP : va_P D vwCl (z_dw c b a X8) H := by rw [e8]; exact hP
        have hD : va_D A (z_dw c b a X8) := by rw [e8]; exact hD
        clear e8
        refine lv_pop hx hb dX4_succeeds_103 rfl ?_
        refine lv_iconst (v := (1 : Int32)) hx hb dX4_succeeds_104 (by decide) ?_
        exact z_zi (wf := (z_dw c b a)) hx hb hr rfl hlocks hP hD hS hf dX4_succeeds_105
      · have hf := z_ifF hf c6
        refine lv_iconst (v := (0 : Int32)) hx hb dX4_succeeds_94 (by decide) ?_
        exact z_zi (wf := (z_dw c b a)) hx hb hr rfl hlocks hP hD hS hf dX4_succeeds_95
  have hf := z_ifF hf c1_1
  by_cases c1_2 : (p1 / (10000 : Int32)) = (3 : Int32)
  · have hf := z_ifT hf c1_2
    refine lv_tableIn (tgt := 106) hx hb dX4_succeeds_18 (by rw [c1_2]; decide) (by rw [c1_2]; decide) (off := 88) (by rw [c1_2]; rfl) (by decide) ?_
    refine lv_aload_n hx hb dX4_succeeds_106 rfl (lv_at hl 2 rfl) ?_
    refine lv_iload_n hx hb dX4_succeeds_107 rfl (lv_at hl 1 rfl) ?_
    refine lv_iload_n hx hb dX4_succeeds_108 rfl (lv_at hl 0 rfl) ?_
    obtain ⟨r9, X9, h9, hf⟩ := z_b2E hf
    refine z_cVi (As := [.int ((p1 / (100 : Int32)) - (p1 / (100 : Int32)) / (100 : Int32) * (100 : Int32)), .int (p1 - p1 / (100 : Int32) * (100 : Int32))]) (rest := []) (wf := (z_dw c b a)) (g := X) (u0 := X9) ⟨hx, hb, hml, hown, hts⟩ (kX4_movesOnTrial l D c N b a H.size X ((p1 / (100 : Int32)) - (p1 / (100 : Int32)) / (100 : Int32) * (100 : Int32)) (p1 - p1 / (100 : Int32) * (100 : Int32)) r9 X9 h9) (cwV 2 hts gX4_succeeds_X4_movesOnTrial rfl rfl rfl (by decide +kernel) ⟨Nat.le_of_ble_eq_true rfl, Nat.le_of_ble_eq_true rfl⟩) hP hK hD hS hA (ci := 4) (q0 := 0) rfl rfl rfl rfl hl.1 (Nat.le_of_ble_eq_true rfl) rfl dX4_succeeds_109 ⟨Nat.zero_le _, Nat.zero_le _⟩ (fun H locs hP hD hS => ?_)
    obtain ⟨b10, hf⟩ := z_ckE hf
    exact z_zi (wf := (z_dw c b a)) hx hb hr (z_boE b10) hlocks hP hD hS hf dX4_succeeds_112
  have hf := z_ifF hf c1_2
  by_cases c1_3 : (p1 / (10000 : Int32)) = (4 : Int32)
  · have hf := z_ifT hf c1_3
    refine lv_tableIn (tgt := 113) hx hb dX4_succeeds_18 (by rw [c1_3]; decide) (by rw [c1_3]; decide) (off := 95) (by rw [c1_3]; rfl) (by decide) ?_
    refine lv_iload_n hx hb dX4_succeeds_113 rfl (lv_at hl 1 rfl) ?_
    refine lv_if_ne (tgt := 129) hx hb dX4_succeeds_114 (by decide) (fun c11 => ?_) (fun c11 => ?_)
    · have hf := z_ifF hf c11
      refine lv_iconst (v := (0 : Int32)) hx hb dX4_succeeds_129 (by decide) ?_
      exact z_zi (wf := (z_dw c b a)) hx hb hr rfl hlocks hP hD hS hf dX4_succeeds_130
    · have hf := z_ifT hf c11
      refine lv_aload_n hx hb dX4_succeeds_117 rfl (lv_at hl 2 rfl) ?_
      refine lv_iload_n hx hb dX4_succeeds_118 rfl (lv_at hl 0 rfl) ?_
      obtain ⟨r12, X12, h12, hf⟩ := z_b2E hf
      refine z_cVi (As := [.int (p1 - p1 / (100 : Int32) * (100 : Int32))]) (rest := []) (wf := (z_dw c b a)) (g := X) (u0 := X12) ⟨hx, hb, hml, hown, hts⟩ (kX4_turnsOnTrial l D c N b a H.size X (p1 - p1 / (100 : Int32) * (100 : Int32)) r12 X12 h12) (cwV 1 hts gX4_succeeds_X4_turnsOnTrial rfl rfl rfl (by decide +kernel) ⟨Nat.le_of_ble_eq_true rfl, Nat.le_of_ble_eq_true rfl⟩) hP hK hD hS hA (ci := 4) (q0 := 0) rfl rfl rfl rfl hl.1 (Nat.le_of_ble_eq_true rfl) rfl dX4_succeeds_119 ⟨Nat.zero_le _, Nat.zero_le _⟩ (fun H locs hP hD hS => ?_)
      refine lv_if_eq (tgt := 129) hx hb dX4_succeeds_122 (by decide) (fun c13 => ?_) (fun c13 => ?_)
      · have hf := z_ifT hf c13
        refine lv_iconst (v := (0 : Int32)) hx hb dX4_succeeds_129 (by decide) ?_
        exact z_zi (wf := (z_dw c b a)) hx hb hr rfl hlocks hP hD hS hf dX4_succeeds_130
      · have hf := z_ifF hf c13
        refine lv_iconst (v := (1 : Int32)) hx hb dX4_succeeds_125 (by decide) ?_
        refine lv_goto (tgt := 130) hx hb dX4_succeeds_126 (by decide) ?_
        exact z_zi (wf := (z_dw c b a)) hx hb hr rfl hlocks hP hD hS hf dX4_succeeds_130
  have hf := z_ifF hf c1_3
  by_cases c1_4 : (p1 / (10000 : Int32)) = (5 : Int32)
  · have hf := z_ifT hf c1_4
    refine lv_tableIn (tgt := 131) hx hb dX4_succeeds_18 (by rw [c1_4]; decide) (by rw [c1_4]; decide) (off := 113) (by rw [c1_4]; rfl) (by decide) ?_
    refine lv_aload_n hx hb dX4_succeeds_131 rfl (lv_at hl 2 rfl) ?_
    refine lv_iload_n hx hb dX4_succeeds_132 rfl (lv_at hl 1 rfl) ?_
    refine lv_iconst (v := (4 : Int32)) hx hb dX4_succeeds_133 (by decide) ?_
    refine lv_iload_n hx hb dX4_succeeds_134 rfl (lv_at hl 0 rfl) ?_
    obtain ⟨r14, X14, h14, hf⟩ := z_b2E hf
    refine z_cVi (As := [.int ((p1 / (100 : Int32)) - (p1 / (100 : Int32)) / (100 : Int32) * (100 : Int32)), .int (4 : Int32), .int (p1 - p1 / (100 : Int32) * (100 : Int32))]) (rest := []) (wf := (z_dw c b a)) (g := X) (u0 := X14) ⟨hx, hb, hml, hown, hts⟩ (kX4_changesOnTrial l D c N b a H.size X ((p1 / (100 : Int32)) - (p1 / (100 : Int32)) / (100 : Int32) * (100 : Int32)) (4 : Int32) (p1 - p1 / (100 : Int32) * (100 : Int32)) r14 X14 h14) (cwV 3 hts gX4_succeeds_X4_changesOnTrial rfl rfl rfl (by decide +kernel) ⟨Nat.le_of_ble_eq_true rfl, Nat.le_of_ble_eq_true rfl⟩) hP hK hD hS hA (ci := 4) (q0 := 0) rfl rfl rfl rfl hl.1 (Nat.le_of_ble_eq_true rfl) rfl dX4_succeeds_135 ⟨Nat.zero_le _, Nat.zero_le _⟩ (fun H locs hP hD hS => ?_)
    obtain ⟨b15, hf⟩ := z_ckE hf
    exact z_zi (wf := (z_dw c b a)) hx hb hr (z_boE b15) hlocks hP hD hS hf dX4_succeeds_138
  have hf := z_ifF hf c1_4
  by_cases c1_5 : (p1 / (10000 : Int32)) = (6 : Int32)
  · have hf := z_ifT hf c1_5
    refine lv_tableIn (tgt := 139) hx hb dX4_succeeds_18 (by rw [c1_5]; decide) (by rw [c1_5]; decide) (off := 121) (by rw [c1_5]; rfl) (by decide) ?_
    refine lv_aload_n hx hb dX4_succeeds_139 rfl (lv_at hl 2 rfl) ?_
    refine lv_iload_n hx hb dX4_succeeds_140 rfl (lv_at hl 1 rfl) ?_
    refine lv_iconst (v := (2 : Int32)) hx hb dX4_succeeds_141 (by decide) ?_
    refine lv_iload_n hx hb dX4_succeeds_142 rfl (lv_at hl 0 rfl) ?_
    refine lv_bipush (v := (99 : Int32)) hx hb dX4_succeeds_143 (by decide) ?_
    refine lv_icmp_ne (tgt := 152) hx hb dX4_succeeds_145 (by decide) (fun c16 => ?_) (fun c16 => ?_)
    · have hf := z_ifF hf c16
      refine lv_iload_n hx hb dX4_succeeds_152 rfl (lv_at hl 0 rfl) ?_
      obtain ⟨r17, X17, h17, hf⟩ := z_b2E hf
      refine z_cVi (As := [.int ((p1 / (100 : Int32)) - (p1 / (100 : Int32)) / (100 : Int32) * (100 : Int32)), .int (2 : Int32), .int (p1 - p1 / (100 : Int32) * (100 : Int32))]) (rest := []) (wf := (z_dw c b a)) (g := X) (u0 := X17) ⟨hx, hb, hml, hown, hts⟩ (kX4_changesOnTrial l D c N b a H.size X ((p1 / (100 : Int32)) - (p1 / (100 : Int32)) / (100 : Int32) * (100 : Int32)) (2 : Int32) (p1 - p1 / (100 : Int32) * (100 : Int32)) r17 X17 h17) (cwV 3 hts gX4_succeeds_X4_changesOnTrial rfl rfl rfl (by decide +kernel) ⟨Nat.le_of_ble_eq_true rfl, Nat.le_of_ble_eq_true rfl⟩) hP hK hD hS hA (ci := 4) (q0 := 0) rfl rfl rfl rfl hl.1 (Nat.le_of_ble_eq_true rfl) rfl dX4_succeeds_153 ⟨Nat.zero_le _, Nat.zero_le _⟩ (fun H locs hP hD hS => ?_)
      obtain ⟨b18, hf⟩ := z_ckE hf
      exact z_zi (wf := (z_dw c b a)) hx hb hr (z_boE b18) hlocks hP hD hS hf dX4_succeeds_156
    · have hf := z_ifT hf c16
      refine lv_iconst (v := (-1 : Int32)) hx hb dX4_succeeds_148 (by decide) ?_
      refine lv_goto (tgt := 153) hx hb dX4_succeeds_149 (by decide) ?_
      obtain ⟨r19, X19, h19, hf⟩ := z_b2E hf
      refine z_cVi (As := [.int ((p1 / (100 : Int32)) - (p1 / (100 : Int32)) / (100 : Int32) * (100 : Int32)), .int (2 : Int32), .int (-1 : Int32)]) (rest := []) (wf := (z_dw c b a)) (g := X) (u0 := X19) ⟨hx, hb, hml, hown, hts⟩ (kX4_changesOnTrial l D c N b a H.size X ((p1 / (100 : Int32)) - (p1 / (100 : Int32)) / (100 : Int32) * (100 : Int32)) (2 : Int32) (-1 : Int32) r19 X19 h19) (cwV 3 hts gX4_succeeds_X4_changesOnTrial rfl rfl rfl (by decide +kernel) ⟨Nat.le_of_ble_eq_true rfl, Nat.le_of_ble_eq_true rfl⟩) hP hK hD hS hA (ci := 4) (q0 := 0) rfl rfl rfl rfl hl.1 (Nat.le_of_ble_eq_true rfl) rfl dX4_succeeds_153 ⟨Nat.zero_le _, Nat.zero_le _⟩ (fun H locs hP hD hS => ?_)
      obtain ⟨b20, hf⟩ := z_ckE hf
      exact z_zi (wf := (z_dw c b a)) hx hb hr (z_boE b20) hlocks hP hD hS hf dX4_succeeds_156
  have hf := z_ifF hf c1_5
  by_cases c1_6 : (p1 / (10000 : Int32)) = (7 : Int32)
  · have hf := z_ifT hf c1_6
    refine lv_tableIn (tgt := 157) hx hb dX4_succeeds_18 (by rw [c1_6]; decide) (by rw [c1_6]; decide) (off := 139) (by rw [c1_6]; rfl) (by decide) ?_
    refine lv_aload_n hx hb dX4_succeeds_157 rfl (lv_at hl 2 rfl) ?_
    refine lv_iload_n hx hb dX4_succeeds_158 rfl (lv_at hl 1 rfl) ?_
    refine lv_iload_n hx hb dX4_succeeds_159 rfl (lv_at hl 0 rfl) ?_
    obtain ⟨r21, h21, hf⟩ := z_bE hf
    refine z_cVi (As := [.int ((p1 / (100 : Int32)) - (p1 / (100 : Int32)) / (100 : Int32) * (100 : Int32)), .int (p1 - p1 / (100 : Int32) * (100 : Int32))]) (rest := []) (wf := (z_dw c b a)) (g := X) (u0 := X) ⟨hx, hb, hml, hown, hts⟩ (kX4_isSoonOnTrial l D c N b a H.size X ((p1 / (100 : Int32)) - (p1 / (100 : Int32)) / (100 : Int32) * (100 : Int32)) (p1 - p1 / (100 : Int32) * (100 : Int32)) r21 h21) (cwV 2 hts gX4_succeeds_X4_isSoonOnTrial rfl rfl rfl (by decide +kernel) ⟨Nat.le_of_ble_eq_true rfl, Nat.le_of_ble_eq_true rfl⟩) hP hK hD hS hA (ci := 4) (q0 := 0) rfl rfl rfl rfl hl.1 (Nat.le_of_ble_eq_true rfl) rfl dX4_succeeds_160 ⟨Nat.zero_le _, Nat.zero_le _⟩ (fun H locs hP hD hS => ?_)
    obtain ⟨b22, hf⟩ := z_ckE hf
    exact z_zi (wf := (z_dw c b a)) hx hb hr (z_boE b22) hlocks hP hD hS hf dX4_succeeds_163
  have hf := z_ifF hf c1_6
  by_cases c1_7 : (p1 / (10000 : Int32)) = (8 : Int32)
  · have hf := z_ifT hf c1_7
    refine lv_tableIn (tgt := 164) hx hb dX4_succeeds_18 (by rw [c1_7]; decide) (by rw [c1_7]; decide) (off := 146) (by rw [c1_7]; rfl) (by decide) ?_
    refine lv_aload_n hx hb dX4_succeeds_164 rfl (lv_at hl 2 rfl) ?_
    refine lv_iload_n hx hb dX4_succeeds_165 rfl (lv_at hl 1 rfl) ?_
    refine lv_bipush (v := (10 : Int32)) hx hb dX4_succeeds_166 (by decide) ?_
    refine lv_iload_n hx hb dX4_succeeds_168 rfl (lv_at hl 0 rfl) ?_
    refine lv_imul hx hb dX4_succeeds_169 ?_
    obtain ⟨r23, X23, h23, hf⟩ := z_b2E hf
    refine z_cVi (As := [.int ((p1 / (100 : Int32)) - (p1 / (100 : Int32)) / (100 : Int32) * (100 : Int32)), .int ((10 : Int32) * (p1 - p1 / (100 : Int32) * (100 : Int32)))]) (rest := []) (wf := (z_dw c b a)) (g := X) (u0 := X23) ⟨hx, hb, hml, hown, hts⟩ (kX4_isShortOnTrial l D c N b a H.size X ((p1 / (100 : Int32)) - (p1 / (100 : Int32)) / (100 : Int32) * (100 : Int32)) ((10 : Int32) * (p1 - p1 / (100 : Int32) * (100 : Int32))) r23 X23 h23) (cwV 2 hts gX4_succeeds_X4_isShortOnTrial rfl rfl rfl (by decide +kernel) ⟨Nat.le_of_ble_eq_true rfl, Nat.le_of_ble_eq_true rfl⟩) hP hK hD hS hA (ci := 4) (q0 := 0) rfl rfl rfl rfl hl.1 (Nat.le_of_ble_eq_true rfl) rfl dX4_succeeds_170 ⟨Nat.zero_le _, Nat.zero_le _⟩ (fun H locs hP hD hS => ?_)
    obtain ⟨b24, hf⟩ := z_ckE hf
    exact z_zi (wf := (z_dw c b a)) hx hb hr (z_boE b24) hlocks hP hD hS hf dX4_succeeds_173
  have hf := z_ifF hf c1_7
  by_cases c1_8 : (p1 / (10000 : Int32)) = (9 : Int32)
  · have hf := z_ifT hf c1_8
    refine lv_tableIn (tgt := 174) hx hb dX4_succeeds_18 (by rw [c1_8]; decide) (by rw [c1_8]; decide) (off := 156) (by rw [c1_8]; rfl) (by decide) ?_
    refine lv_aload_n hx hb dX4_succeeds_174 rfl (lv_at hl 2 rfl) ?_
    refine lv_iload_n hx hb dX4_succeeds_175 rfl (lv_at hl 3 rfl) ?_
    refine lv_sipush (v := (1000 : Int32)) hx hb dX4_succeeds_176 (by decide) ?_
    refine lv_idiv hx hb dX4_succeeds_179 (by decide) ?_
    refine lv_bipush (v := (10 : Int32)) hx hb dX4_succeeds_180 (by decide) ?_
    refine lv_irem hx hb dX4_succeeds_182 (by decide) ?_
    refine lv_iload_n hx hb dX4_succeeds_183 rfl (lv_at hl 3 rfl) ?_
    refine lv_sipush (v := (1000 : Int32)) hx hb dX4_succeeds_184 (by decide) ?_
    refine lv_irem hx hb dX4_succeeds_187 (by decide) ?_
    obtain ⟨r25, h25, hf⟩ := z_bE hf
    refine z_cVi (As := [.int ((p1 / (1000 : Int32)) - (p1 / (1000 : Int32)) / (10 : Int32) * (10 : Int32)), .int (p1 - p1 / (1000 : Int32) * (1000 : Int32))]) (rest := []) (wf := (z_dw c b a)) (g := X) (u0 := X) ⟨hx, hb, hml, hown, hts⟩ (kX4_isCheapOnTrial l D c N b a H.size X ((p1 / (1000 : Int32)) - (p1 / (1000 : Int32)) / (10 : Int32) * (10 : Int32)) (p1 - p1 / (1000 : Int32) * (1000 : Int32)) r25 h25) (cwV 2 hts gX4_succeeds_X4_isCheapOnTrial rfl rfl rfl (by decide +kernel) ⟨Nat.le_of_ble_eq_true rfl, Nat.le_of_ble_eq_true rfl⟩) hP hK hD hS hA (ci := 4) (q0 := 0) rfl rfl rfl rfl hl.1 (Nat.le_of_ble_eq_true rfl) rfl dX4_succeeds_188 ⟨Nat.zero_le _, Nat.zero_le _⟩ (fun H locs hP hD hS => ?_)
    obtain ⟨b26, hf⟩ := z_ckE hf
    exact z_zi (wf := (z_dw c b a)) hx hb hr (z_boE b26) hlocks hP hD hS hf dX4_succeeds_191
  have hf := z_ifF hf c1_8
  refine lv_tableOut (tgt := 192) hx hb dX4_succeeds_18 (z_sw1_9 c1_0 c1_1 c1_2 c1_3 c1_4 c1_5 c1_6 c1_7 c1_8) (by decide) ?_
  refine lv_iconst (v := (0 : Int32)) hx hb dX4_succeeds_192 (by decide) ?_
  exact z_zi (wf := (z_dw c b a)) hx hb hr rfl hlocks hP hD hS hf dX4_succeeds_193
abbrev rmX4_simulateRun : Room := { frames := 5, cells := 0, slots := 0, locals := 112 }
theorem qX4_simulateRun_23 : Cond.fieldLink RX4 23 "ProgramDrum" "trial" "LProgramDrum$State;" ∈ wsX4_simulateRun := by decide +kernel
theorem iX4_simulateRun_X4 : ∀ w ∈ wsX40, w ∈ wsX4_simulateRun := by decide +kernel
theorem iX4_simulateRun_X2 : ∀ w ∈ wsX20, w ∈ wsX4_simulateRun := by decide +kernel
set_option maxRecDepth 100000 in
set_option maxHeartbeats 4000000 in
theorem kX4_simulateRun (l : Launch) (D : va_G) (c : Nat → ClassId) (N : Nat) (b : Nat → Nat) (a : Nat → Nat → Nat) (sz : Nat) (X : z_X) (p1 : Int32) (r0 : Int32) (g0 : z_X) (hf : fX4_simulateRun N p1 X = some (r0, g0)) : Met l yX4_simulateRun wsX4_simulateRun rmX4_simulateRun (z_Pc D c sz (z_dw c b a X) [.ref (b 0), .int p1]) (z_Qi D (z_dw c b a) r0 g0 (va_A (z_dw c b a X) sz)) 0 0 (va_A (z_dw c b a X) sz) := by
  refine z_ofM (cc := cX4_simulateRun) (maxL := 3) (ret := (some .int)) (Qf := fun A => z_Qi D (z_dw c b a) r0 g0 A) (plainFor_of_name (by decide)) rfl (Nat.le_of_ble_eq_true rfl) ?_
  intro p e s m args below meth co A ls hx hb hr hml hts hown hlocks hnm hA hP hK hD hl hsz
  have hl : lv_has ls 3 [(0, .ref (b 0)), (1, .int p1)] := hl
  have hown : s.vm.findClass RX4 = some m.cls := hown
  obtain ⟨H, hH⟩ : ∃ H, H = s.heap := ⟨_, rfl⟩
  have hS : va_S A s.heap H [] := by rw [hH]; exact va_S.rf
  rw [← hH] at hP ⊢
  clear hH
  unfold fX4_simulateRun at hf
  generalize ([] : List Loc) = locs at hS ⊢
  refine lv_aload_n hx hb dX4_simulateRun_0 rfl (lv_at hl 0 rfl) ?_
  refine va_get (D := D) (ci := 4) (v := .ref (a 1 0)) (C := RX4) (T := TX4) (N := 7) hx hb hts iX4_simulateRun_X4 hown hK.1 hP 0 rfl rfl 2 (by decide) (hts _ qX4_simulateRun_23) (fun _ h9 => h9) rfl dX4_simulateRun_1 ?_
  refine va_getN (D := D) (ci := 2) (v := .int (X.2.2 1 0 1)) (C := RX2) (T := TX2) (N := 16) hx hb hts iX4_simulateRun_X2 hown hK.1 (z_subP hP (z_inS (by decide))) 0 rfl rfl 1 (by decide) (va_Nw.use rfl (hK.2.1 _ zF_X4_80)) (fun _ h9 => h9) rfl dX4_simulateRun_4 ?_
  refine lv_istore_n (lv' := [(2, .int (X.2.2 1 0 1)), (0, .ref (b 0)), (1, .int p1)]) hx hb dX4_simulateRun_7 rfl hl (by decide) rfl (fun ls hl => ?_)
  refine lv_iload_n hx hb dX4_simulateRun_8 rfl (lv_at hl 0 rfl) ?_
  refine lv_iconst (v := (1 : Int32)) hx hb dX4_simulateRun_9 (by decide) ?_
  refine lv_icmp_lt (tgt := 17) hx hb dX4_simulateRun_10 (by decide) (fun c1 => ?_) (fun c1 => ?_)
  · have hf := z_ifT hf c1
    refine lv_iconst (v := (-1 : Int32)) hx hb dX4_simulateRun_17 (by decide) ?_
    exact z_ri (wf := (z_dw c b a)) hx hb hr hlocks hP hD hS hf dX4_simulateRun_18
  · have hf := z_ifF hf c1
    refine lv_iload_n hx hb dX4_simulateRun_13 rfl (lv_at hl 2 rfl) ?_
    refine lv_if_ge (tgt := 19) hx hb dX4_simulateRun_14 (by decide) (fun c2 => ?_) (fun c2 => ?_)
    · have hf := z_ifT hf c2
      refine lv_aload_n hx hb dX4_simulateRun_19 rfl (lv_at hl 1 rfl) ?_
      refine va_get (D := D) (ci := 4) (v := .ref (a 1 0)) (C := RX4) (T := TX4) (N := 7) hx hb hts iX4_simulateRun_X4 hown hK.1 hP 0 rfl rfl 2 (by decide) (hts _ qX4_simulateRun_23) (fun _ h9 => h9) rfl dX4_simulateRun_20 ?_
      refine lv_iload_n hx hb dX4_simulateRun_23 rfl (lv_at hl 2 rfl) ?_
      refine lv_bipush (v := (16 : Int32)) hx hb dX4_simulateRun_24 (by decide) ?_
      refine lv_idiv hx hb dX4_simulateRun_26 (by decide) ?_
      refine lv_iload_n hx hb dX4_simulateRun_27 rfl (lv_at hl 0 rfl) ?_
      obtain ⟨b3, hf⟩ := z_ckE hf
      refine lv_irem hx hb dX4_simulateRun_28 (z_nzE b3) ?_
      refine lv_iconst (v := (4 : Int32)) hx hb dX4_simulateRun_29 (by decide) ?_
      refine lv_iload_n hx hb dX4_simulateRun_30 rfl (lv_at hl 2 rfl) ?_
      refine lv_sipush (v := (1024 : Int32)) hx hb dX4_simulateRun_31 (by decide) ?_
      refine lv_idiv hx hb dX4_simulateRun_34 (by decide) ?_
      refine lv_bipush (v := (100 : Int32)) hx hb dX4_simulateRun_35 (by decide) ?_
      refine lv_irem hx hb dX4_simulateRun_37 (by decide) ?_
      obtain ⟨r4, u4, h4, hf⟩ := z_b2E hf
      refine z_xVi (As := [.int ((p1 / (16 : Int32)) - (p1 / (16 : Int32)) / (X.2.2 1 0 1) * (X.2.2 1 0 1)), .int (4 : Int32), .int ((p1 / (1024 : Int32)) - (p1 / (1024 : Int32)) / (100 : Int32) * (100 : Int32))]) (rest := []) (wf := z_st c (a 1)) (g := (X.2.2 1)) (u0 := u4) ⟨hx, hb, hml, hown, hts⟩ (kX2_replace l D c N (a 1) H.size (X.2.2 1) ((p1 / (16 : Int32)) - (p1 / (16 : Int32)) / (X.2.2 1 0 1) * (X.2.2 1 0 1)) (4 : Int32) ((p1 / (1024 : Int32)) - (p1 / (1024 : Int32)) / (100 : Int32) * (100 : Int32)) r4 u4 h4) (cwV 3 hts gX4_simulateRun_X2_replace rfl rfl rfl (by decide +kernel) ⟨Nat.le_of_ble_eq_true rfl, Nat.le_of_ble_eq_true rfl⟩) hP hK hD hS hA (z_cutS hD (by decide) u4) (ci := 2) (q0 := 0) rfl rfl rfl rfl hl.1 (Nat.le_of_ble_eq_true rfl) rfl dX4_simulateRun_38 ⟨Nat.zero_le _, Nat.zero_le _⟩ (fun H locs hP hD hS => ?_)
      obtain ⟨X5, e5, hf⟩ := z_ltE hf
      have hP : va_P D vwCl (z_dw c b a X5) H := by rw [e5]; exact hP
      have hD : va_D A (z_dw c b a X5) := by rw [e5]; exact hD
      clear e5
      refine lv_pop hx hb dX4_simulateRun_41 rfl ?_
      refine lv_iload_n hx hb dX4_simulateRun_42 rfl (lv_at hl 2 rfl) ?_
      refine lv_iconst (v := (4 : Int32)) hx hb dX4_simulateRun_43 (by decide) ?_
      refine lv_irem hx hb dX4_simulateRun_44 (by decide) ?_
      refine lv_if_ne (tgt := 56) hx hb dX4_simulateRun_45 (by decide) (fun c6 => ?_) (fun c6 => ?_)
      · have hf := z_ifF hf c6
        refine lv_aload_n hx hb dX4_simulateRun_56 rfl (lv_at hl 1 rfl) ?_
        refine va_get (D := D) (ci := 4) (v := .ref (a 1 0)) (C := RX4) (T := TX4) (N := 7) hx hb hts iX4_simulateRun_X4 hown hK.1 hP 0 rfl rfl 2 (by decide) (hts _ qX4_simulateRun_23) (fun _ h9 => h9) rfl dX4_simulateRun_57 ?_
        refine lv_iload_n hx hb dX4_simulateRun_60 rfl (lv_at hl 2 rfl) ?_
        refine lv_sipush (v := (256 : Int32)) hx hb dX4_simulateRun_61 (by decide) ?_
        refine lv_idiv hx hb dX4_simulateRun_64 (by decide) ?_
        refine lv_iload_n hx hb dX4_simulateRun_65 rfl (lv_at hl 0 rfl) ?_
        obtain ⟨b7, hf⟩ := z_ckE hf
        refine lv_irem hx hb dX4_simulateRun_66 (z_nzE b7) ?_
        obtain ⟨r8, u8, h8, hf⟩ := z_b2E hf
        refine z_xVi (As := [.int ((p1 / (256 : Int32)) - (p1 / (256 : Int32)) / (X.2.2 1 0 1) * (X.2.2 1 0 1))]) (rest := []) (wf := z_st c (a 1)) (g := (X5.2.2 1)) (u0 := u8) ⟨hx, hb, hml, hown, hts⟩ (kX2_runFrom l D c N (a 1) H.size (X5.2.2 1) ((p1 / (256 : Int32)) - (p1 / (256 : Int32)) / (X.2.2 1 0 1) * (X.2.2 1 0 1)) r8 u8 h8) (cwV 1 hts gX4_simulateRun_X2_runFrom rfl rfl rfl (by decide +kernel) ⟨Nat.le_of_ble_eq_true rfl, Nat.le_of_ble_eq_true rfl⟩) hP hK hD hS hA (z_cutS hD (by decide) u8) (ci := 2) (q0 := 0) rfl rfl rfl rfl hl.1 (Nat.le_of_ble_eq_true rfl) rfl dX4_simulateRun_67 ⟨Nat.zero_le _, Nat.zero_le _⟩ (fun H locs hP hD hS => ?_)
        obtain ⟨X9, e9, hf⟩ := z_ltE hf
        have hP : va_P D vwCl (z_dw c b a X9) H := by rw [e9]; exact hP
        have hD : va_D A (z_dw c b a X9) := by rw [e9]; exact hD
        clear e9
        exact z_ri (wf := (z_dw c b a)) hx hb hr hlocks hP hD hS hf dX4_simulateRun_70
      · have hf := z_ifT hf c6
        refine lv_aload_n hx hb dX4_simulateRun_48 rfl (lv_at hl 1 rfl) ?_
        refine va_get (D := D) (ci := 4) (v := .ref (a 1 0)) (C := RX4) (T := TX4) (N := 7) hx hb hts iX4_simulateRun_X4 hown hK.1 hP 0 rfl rfl 2 (by decide) (hts _ qX4_simulateRun_23) (fun _ h9 => h9) rfl dX4_simulateRun_49 ?_
        obtain ⟨r10, u10, h10, hf⟩ := z_b2E hf
        refine z_xVi (As := []) (rest := []) (wf := z_st c (a 1)) (g := (X5.2.2 1)) (u0 := u10) ⟨hx, hb, hml, hown, hts⟩ (kX2_layAll l D c N (a 1) H.size (X5.2.2 1)  r10 u10 h10) (cwV 0 hts gX4_simulateRun_X2_layAll rfl rfl rfl (by decide +kernel) ⟨Nat.le_of_ble_eq_true rfl, Nat.le_of_ble_eq_true rfl⟩) hP hK hD hS hA (z_cutS hD (by decide) u10) (ci := 2) (q0 := 0) rfl rfl rfl rfl hl.1 (Nat.le_of_ble_eq_true rfl) rfl dX4_simulateRun_52 ⟨Nat.zero_le _, Nat.zero_le _⟩ (fun H locs hP hD hS => ?_)
        obtain ⟨X11, e11, hf⟩ := z_ltE hf
        have hP : va_P D vwCl (z_dw c b a X11) H := by rw [e11]; exact hP
        have hD : va_D A (z_dw c b a X11) := by rw [e11]; exact hD
        clear e11
        refine lv_pop hx hb dX4_simulateRun_55 rfl ?_
        refine lv_aload_n hx hb dX4_simulateRun_56 rfl (lv_at hl 1 rfl) ?_
        refine va_get (D := D) (ci := 4) (v := .ref (a 1 0)) (C := RX4) (T := TX4) (N := 7) hx hb hts iX4_simulateRun_X4 hown hK.1 hP 0 rfl rfl 2 (by decide) (hts _ qX4_simulateRun_23) (fun _ h9 => h9) rfl dX4_simulateRun_57 ?_
        refine lv_iload_n hx hb dX4_simulateRun_60 rfl (lv_at hl 2 rfl) ?_
        refine lv_sipush (v := (256 : Int32)) hx hb dX4_simulateRun_61 (by decide) ?_
        refine lv_idiv hx hb dX4_simulateRun_64 (by decide) ?_
        refine lv_iload_n hx hb dX4_simulateRun_65 rfl (lv_at hl 0 rfl) ?_
        obtain ⟨b12, hf⟩ := z_ckE hf
        refine lv_irem hx hb dX4_simulateRun_66 (z_nzE b12) ?_
        obtain ⟨r13, u13, h13, hf⟩ := z_b2E hf
        refine z_xVi (As := [.int ((p1 / (256 : Int32)) - (p1 / (256 : Int32)) / (X.2.2 1 0 1) * (X.2.2 1 0 1))]) (rest := []) (wf := z_st c (a 1)) (g := (X11.2.2 1)) (u0 := u13) ⟨hx, hb, hml, hown, hts⟩ (kX2_runFrom l D c N (a 1) H.size (X11.2.2 1) ((p1 / (256 : Int32)) - (p1 / (256 : Int32)) / (X.2.2 1 0 1) * (X.2.2 1 0 1)) r13 u13 h13) (cwV 1 hts gX4_simulateRun_X2_runFrom rfl rfl rfl (by decide +kernel) ⟨Nat.le_of_ble_eq_true rfl, Nat.le_of_ble_eq_true rfl⟩) hP hK hD hS hA (z_cutS hD (by decide) u13) (ci := 2) (q0 := 0) rfl rfl rfl rfl hl.1 (Nat.le_of_ble_eq_true rfl) rfl dX4_simulateRun_67 ⟨Nat.zero_le _, Nat.zero_le _⟩ (fun H locs hP hD hS => ?_)
        obtain ⟨X14, e14, hf⟩ := z_ltE hf
        have hP : va_P D vwCl (z_dw c b a X14) H := by rw [e14]; exact hP
        have hD : va_D A (z_dw c b a X14) := by rw [e14]; exact hD
        clear e14
        exact z_ri (wf := (z_dw c b a)) hx hb hr hlocks hP hD hS hf dX4_simulateRun_70
    · have hf := z_ifF hf c2
      refine lv_iconst (v := (-1 : Int32)) hx hb dX4_simulateRun_17 (by decide) ?_
      exact z_ri (wf := (z_dw c b a)) hx hb hr hlocks hP hD hS hf dX4_simulateRun_18
abbrev rmX4_isSlot : Room := { frames := 0, cells := 0, slots := 0, locals := 0 }
theorem qX4_isSlot_36 : Cond.fieldLink RX4 36 "ProgramDrum" "slots" "[LProgramDrum$State;" ∈ wsX4_isSlot := by decide +kernel
theorem iX4_isSlot_X4 : ∀ w ∈ wsX40, w ∈ wsX4_isSlot := by decide +kernel
theorem qX4_isSlot_40 : Cond.fieldLink RX4 40 "ProgramDrum" "saved" "[Z" ∈ wsX4_isSlot := by decide +kernel
set_option maxRecDepth 100000 in
set_option maxHeartbeats 4000000 in
theorem kX4_isSlot (l : Launch) (D : va_G) (c : Nat → ClassId) (N : Nat) (b : Nat → Nat) (a : Nat → Nat → Nat) (sz : Nat) (X : z_X) (p1 : Int32) (r0 : Int32) (hf : fX4_isSlot N p1 X = some r0) : Met l yX4_isSlot wsX4_isSlot rmX4_isSlot (z_Pc D c sz (z_dw c b a X) [.ref (b 0), .int p1]) (z_Qi D (z_dw c b a) r0 X (va_A (z_dw c b a X) sz)) 0 0 (va_A (z_dw c b a X) sz) := by
  refine z_ofM (cc := cX4_isSlot) (maxL := 2) (ret := (some .boolean)) (Qf := fun A => z_Qi D (z_dw c b a) r0 X A) (plainFor_of_name (by decide)) rfl (Nat.le_of_ble_eq_true rfl) ?_
  intro p e s m args below meth co A ls hx hb hr hml hts hown hlocks hnm hA hP hK hD hl hsz
  have hl : lv_has ls 2 [(0, .ref (b 0)), (1, .int p1)] := hl
  have hown : s.vm.findClass RX4 = some m.cls := hown
  obtain ⟨H, hH⟩ : ∃ H, H = s.heap := ⟨_, rfl⟩
  have hS : va_S A s.heap H [] := by rw [hH]; exact va_S.rf
  rw [← hH] at hP ⊢
  clear hH
  unfold fX4_isSlot at hf
  generalize ([] : List Loc) = locs at hS ⊢
  refine lv_iload_n hx hb dX4_isSlot_0 rfl (lv_at hl 1 rfl) ?_
  refine lv_if_lt (tgt := 26) hx hb dX4_isSlot_1 (by decide) (fun c1 => ?_) (fun c1 => ?_)
  · have hf := z_ifT hf c1
    refine lv_iconst (v := (0 : Int32)) hx hb dX4_isSlot_26 (by decide) ?_
    exact z_zp (wf := (z_dw c b a)) hx hb hr rfl hlocks hP hD hS hf dX4_isSlot_27
  · have hf := z_ifF hf c1
    refine lv_iload_n hx hb dX4_isSlot_4 rfl (lv_at hl 1 rfl) ?_
    refine lv_aload_n hx hb dX4_isSlot_5 rfl (lv_at hl 0 rfl) ?_
    refine va_get (D := D) (ci := 4) (v := .ref (b 5)) (C := RX4) (T := TX4) (N := 7) hx hb hts iX4_isSlot_X4 hown hK.1 hP 0 rfl rfl 5 (by decide) (hts _ qX4_isSlot_36) (fun _ h9 => h9) rfl dX4_isSlot_6 ?_
    refine va_alen hx hb hK.1 hP 5 2 rfl rfl (v := (2 : Int32)) rfl dX4_isSlot_9 ?_
    refine lv_icmp_ge (tgt := 26) hx hb dX4_isSlot_10 (by decide) (fun c2 => ?_) (fun c2 => ?_)
    · have hf := z_ifT hf c2
      refine lv_iconst (v := (0 : Int32)) hx hb dX4_isSlot_26 (by decide) ?_
      exact z_zp (wf := (z_dw c b a)) hx hb hr rfl hlocks hP hD hS hf dX4_isSlot_27
    · have hf := z_ifF hf c2
      refine lv_iload_n hx hb dX4_isSlot_13 rfl (lv_at hl 1 rfl) ?_
      refine lv_aload_n hx hb dX4_isSlot_14 rfl (lv_at hl 0 rfl) ?_
      refine va_get (D := D) (ci := 4) (v := .ref (b 6)) (C := RX4) (T := TX4) (N := 7) hx hb hts iX4_isSlot_X4 hown hK.1 hP 0 rfl rfl 6 (by decide) (hts _ qX4_isSlot_40) (fun _ h9 => h9) rfl dX4_isSlot_15 ?_
      refine va_alen hx hb hK.1 hP 6 1 rfl rfl (v := (2 : Int32)) rfl dX4_isSlot_18 ?_
      refine lv_icmp_ge (tgt := 26) hx hb dX4_isSlot_19 (by decide) (fun c3 => ?_) (fun c3 => ?_)
      · have hf := z_ifT hf c3
        refine lv_iconst (v := (0 : Int32)) hx hb dX4_isSlot_26 (by decide) ?_
        exact z_zp (wf := (z_dw c b a)) hx hb hr rfl hlocks hP hD hS hf dX4_isSlot_27
      · have hf := z_ifF hf c3
        refine lv_iconst (v := (1 : Int32)) hx hb dX4_isSlot_22 (by decide) ?_
        refine lv_goto (tgt := 27) hx hb dX4_isSlot_23 (by decide) ?_
        exact z_zp (wf := (z_dw c b a)) hx hb hr rfl hlocks hP hD hS hf dX4_isSlot_27
