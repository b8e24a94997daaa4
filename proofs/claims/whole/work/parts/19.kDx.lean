abbrev rmX4_append : Room := { frames := 6, cells := 1, slots := 6, locals := 82 }
theorem qX4_append_k44 : Cond.classLink RX4 44 "java/lang/IllegalArgumentException" ∈ wsX4_append := by decide +kernel
theorem qX4_append_x1 : Cond.initialized "java/lang/IllegalArgumentException" ∈ wsX4_append := by decide +kernel
theorem xX4_append_1 : ∀ w ∈ (vx_atS RX4 48 "java/lang/IllegalArgumentException" ["java/lang/RuntimeException", "java/lang/Exception"]).filter goodWord, w ∈ wsX4_append := fun w h => List.mem_cons_of_mem _ (List.mem_append_left _ (List.mem_append_right _ h))
theorem qX4_append_10 : Cond.fieldLink RX4 10 "ProgramDrum" "text" "LProgramDrum$Text;" ∈ wsX4_append := by decide +kernel
theorem iX4_append_X4 : ∀ w ∈ wsX40, w ∈ wsX4_append := by decide +kernel
theorem qX4_append_k55 : Cond.classLink RX4 55 "java/lang/IllegalStateException" ∈ wsX4_append := by decide +kernel
theorem qX4_append_x2 : Cond.initialized "java/lang/IllegalStateException" ∈ wsX4_append := by decide +kernel
theorem xX4_append_2 : ∀ w ∈ (vx_atS RX4 59 "java/lang/IllegalStateException" ["java/lang/RuntimeException", "java/lang/Exception"]).filter goodWord, w ∈ wsX4_append := fun w h => List.mem_cons_of_mem _ (List.mem_append_right _ h)
set_option maxRecDepth 100000 in
set_option maxHeartbeats 4000000 in
theorem kX4_append (l : Launch) (hlst : l.stackTraces = false) (D : va_G) (c : Nat → ClassId) (N : Nat) (b : Nat → Nat) (a : Nat → Nat → Nat) (sz : Nat) (X : z_X) (p1 : Int32) (r0 : Int32 ⊕ Nat) (g0 : z_X) (hf : fX4_append N p1 X = some (r0, g0)) : vx_Met l yX4_append wsX4_append rmX4_append (z_Pt D c sz (z_dw c b a X) [.ref (b 0), .int p1]) (z_Ti D (z_dw c b a) r0 g0 (va_A (z_dw c b a X) sz)) (z_Tx D (z_dw c b a) r0 g0 (va_A (z_dw c b a X) sz)) 1 6 (va_A (z_dw c b a X) sz) := by
  refine z_ofT (cc := cX4_append) (maxL := 2) (ret := (some .int)) (Qf := fun A => z_Ti D (z_dw c b a) r0 g0 A) (Xf := fun A => z_Tx D (z_dw c b a) r0 g0 A) (by decide) rfl (Nat.le_of_ble_eq_true rfl) ?_
  intro p e s m args below meth co A ls hx hb hr hml hts hown hlocks hnm hxt hA hP hK hD hE hl hsz
  have hnX := hnm
  have hl : lv_has ls 2 [(0, .ref (b 0)), (1, .int p1)] := hl
  have hown : s.vm.findClass RX4 = some m.cls := hown
  obtain ⟨H, hH⟩ : ∃ H, H = s.heap := ⟨_, rfl⟩
  have hS : va_S A s.heap H [] := by rw [hH]; exact va_S.rf
  rw [← hH] at hP ⊢
  clear hH
  unfold fX4_append at hf
  generalize ([] : List Loc) = locs at hS ⊢
  L
  i
  s
  t
  .
  m
  e
  m
  _
  a
  p
  p
  e
  n
  d
  _
  r
  i
  g
  h
  t
   
  _
   
  h
abbrev rmX4_load : Room := { frames := 6, cells := 1, slots := 6, locals := 87 }
theorem qX4_load_10 : Cond.fieldLink RX4 10 "ProgramDrum" "text" "LProgramDrum$Text;" ∈ wsX4_load := by decide +kernel
theorem iX4_load_X4 : ∀ w ∈ wsX40, w ∈ wsX4_load := by decide +kernel
theorem qX4_load_19 : Cond.fieldLink RX4 19 "ProgramDrum" "now" "LProgramDrum$State;" ∈ wsX4_load := by decide +kernel
theorem qX4_load_32 : Cond.fieldLink RX4 32 "ProgramDrum" "memory" "LProgramDrum$Memory;" ∈ wsX4_load := by decide +kernel
theorem iX4_load_X2 : ∀ w ∈ wsX20, w ∈ wsX4_load := by decide +kernel
theorem qX4_load_40 : Cond.fieldLink RX4 40 "ProgramDrum" "saved" "[Z" ∈ wsX4_load := by decide +kernel
theorem qX4_load_k55 : Cond.classLink RX4 55 "java/lang/IllegalStateException" ∈ wsX4_load := by decide +kernel
theorem qX4_load_x2 : Cond.initialized "java/lang/IllegalStateException" ∈ wsX4_load := by decide +kernel
theorem xX4_load_2 : ∀ w ∈ (vx_atS RX4 59 "java/lang/IllegalStateException" ["java/lang/RuntimeException", "java/lang/Exception"]).filter goodWord, w ∈ wsX4_load := fun w h => List.mem_cons_of_mem _ (List.mem_append_right _ h)
set_option maxRecDepth 100000 in
set_option maxHeartbeats 4000000 in
theorem kX4_load (l : Launch) (hlst : l.stackTraces = false) (D : va_G) (c : Nat → ClassId) (N : Nat) (b : Nat → Nat) (a : Nat → Nat → Nat) (sz : Nat) (X : z_X) (r0 : Int32 ⊕ Nat) (g0 : z_X) (hf : fX4_load N X = some (r0, g0)) : vx_Met l yX4_load wsX4_load rmX4_load (z_Pt D c sz (z_dw c b a X) [.ref (b 0)]) (z_Ti D (z_dw c b a) r0 g0 (va_A (z_dw c b a X) sz)) (z_Tx D (z_dw c b a) r0 g0 (va_A (z_dw c b a X) sz)) 1 6 (va_A (z_dw c b a X) sz) := by
  refine z_ofT (cc := cX4_load) (maxL := 2) (ret := (some .int)) (Qf := fun A => z_Ti D (z_dw c b a) r0 g0 A) (Xf := fun A => z_Tx D (z_dw c b a) r0 g0 A) (by decide) rfl (Nat.le_of_ble_eq_true rfl) ?_
  intro p e s m args below meth co A ls hx hb hr hml hts hown hlocks hnm hxt hA hP hK hD hE hl hsz
  have hnX := hnm
  have hl : lv_has ls 2 [(0, .ref (b 0))] := hl
  have hown : s.vm.findClass RX4 = some m.cls := hown
  obtain ⟨H, hH⟩ : ∃ H, H = s.heap := ⟨_, rfl⟩
  have hS : va_S A s.heap H [] := by rw [hH]; exact va_S.rf
  rw [← hH] at hP ⊢
  clear hH
  have L41 : ∀ (fu : Nat) (x1 : Int32) (X : z_X), lX4_load_41 N fu x1 X = some (r0, g0) → ∀ (H : Heap) (locs : List Loc) (ls : Array Slot), va_P D vwCl (z_dw c b a X) H → va_D A (z_dw c b a X) → va_S A s.heap H locs → lv_has ls 2 [(0, .ref (b 0)), (1, .int x1)] → W p l e rmX4_load s m args below meth co H locs 0 0 (vx_MQ below (z_Ti D (z_dw c b a) r0 g0 A) (z_Tx D (z_dw c b a) r0 g0 A) args s 1 6 A) (F0 m 41 ls []) := by
    intro fu
    induction fu with
    | zero =>
      intro x1 X hf
      have hf : (none : Option ((Int32 ⊕ Nat) × z_X)) = some _ := hf
      cases hf
    | succ fu ih =>
      intro x1 X hf H locs ls hP hD hS hl
      rw [lX4_load_41.eq_2] at hf
      refine lv_iload_n hx hb dX4_load_41 rfl (lv_at hl 1 rfl) ?_
      refine lv_iconst (v := (2 : Int32)) hx hb dX4_load_42 (by decide) ?_
      refine lv_icmp_ge (tgt := 59) hx hb dX4_load_43 (by decide) (fun c5 => ?_) (fun c5 => ?_)
      · have hf := z_ifT hf c5
        refine lv_aload_n hx hb dX4_load_59 rfl (lv_at hl 0 rfl) ?_
        refine va_get (D := D) (ci := 4) (v := .ref (a 0 0)) (C := RX4) (T := TX4) (N := 7) hx hb hts iX4_load_X4 hown hK.1 hP 0 rfl rfl 1 (by decide) (hts _ qX4_load_19) (fun _ h9 => h9) rfl dX4_load_60 ?_
        refine va_getN (D := D) (ci := 2) (v := .int (X.2.2 0 0 1)) (C := RX2) (T := TX2) (N := 16) hx hb hts iX4_load_X2 hown hK.1 (z_subP hP (z_inS (by decide))) 0 rfl rfl 1 (by decide) (va_Nw.use rfl (hK.2.1 _ zF_X4_80)) (fun _ h9 => h9) rfl dX4_load_63 ?_
        exact z_ti (wf := (z_dw c b a)) hx hb hr hlocks hP hD hS hf dX4_load_66
      · have hf := z_ifF hf c5
        refine lv_aload_n hx hb dX4_load_46 rfl (lv_at hl 0 rfl) ?_
        refine va_get (D := D) (ci := 4) (v := .ref (b 6)) (C := RX4) (T := TX4) (N := 7) hx hb hts iX4_load_X4 hown hK.1 hP 0 rfl rfl 6 (by decide) (hts _ qX4_load_40) (fun _ h9 => h9) rfl dX4_load_47 ?_
        refine lv_iload_n hx hb dX4_load_50 rfl (lv_at hl 1 rfl) ?_
        refine lv_iconst (v := (0 : Int32)) hx hb dX4_load_51 (by decide) ?_
        obtain ⟨b6, hf⟩ := z_ckE hf
        refine va_zast hx hb hK.1 hP hD hS 6 1 rfl rfl (z_inE b6) dX4_load_52 (fun H locs hP hD hS => ?_)
        obtain ⟨X7, e7, hf⟩ := z_ltE hf
        have hP : va_P D vwCl (z_dw c b a X7) H := by rw [e7]; exact hP
        have hD : va_D A (z_dw c b a X7) := by rw [e7]; exact hD
        clear e7
        refine lv_iinc (v := (x1 + (1 : Int32))) (lv' := [(1, .int (x1 + (1 : Int32))), (0, .ref (b 0))]) hx hb dX4_load_53 hl (k := 1) rfl rfl (by decide) rfl (fun ls hl => ?_)
        refine lv_goto (tgt := 41) hx hb dX4_load_56 (by decide) ?_
        exact ih _ _ hf H locs ls hP hD hS (lv_sub hl [1, 0] rfl)
  unfold fX4_load at hf
  generalize ([] : List Loc) = locs at hS ⊢
  L
  i
  s
  t
  .
  m
  e
  m
  _
  a
  p
  p
  e
  n
  d
  _
  r
  i
  g
  h
  t
   
  _
   
  h
abbrev rmX4_about : Room := { frames := 6, cells := 1, slots := 6, locals := 82 }
theorem qX4_about_19 : Cond.fieldLink RX4 19 "ProgramDrum" "now" "LProgramDrum$State;" ∈ wsX4_about := by decide +kernel
theorem iX4_about_X4 : ∀ w ∈ wsX40, w ∈ wsX4_about := by decide +kernel
theorem iX4_about_X2 : ∀ w ∈ wsX20, w ∈ wsX4_about := by decide +kernel
theorem iX4_about_X0 : ∀ w ∈ wsX00, w ∈ wsX4_about := by decide +kernel
theorem qX4_about_k44 : Cond.classLink RX4 44 "java/lang/IllegalArgumentException" ∈ wsX4_about := by decide +kernel
theorem qX4_about_x1 : Cond.initialized "java/lang/IllegalArgumentException" ∈ wsX4_about := by decide +kernel
theorem xX4_about_1 : ∀ w ∈ (vx_atS RX4 48 "java/lang/IllegalArgumentException" ["java/lang/RuntimeException", "java/lang/Exception"]).filter goodWord, w ∈ wsX4_about := fun w h => List.mem_cons_of_mem _ (List.mem_append_right _ h)
set_option maxRecDepth 100000 in
set_option maxHeartbeats 4000000 in
theorem kX4_about (l : Launch) (hlst : l.stackTraces = false) (D : va_G) (c : Nat → ClassId) (N : Nat) (b : Nat → Nat) (a : Nat → Nat → Nat) (sz : Nat) (X : z_X) (p1 : Int32) (r0 : Int32 ⊕ Nat) (g0 : z_X) (hf : fX4_about N p1 X = some (r0, g0)) : vx_Met l yX4_about wsX4_about rmX4_about (z_Pt D c sz (z_dw c b a X) [.ref (b 0), .int p1]) (z_Ti D (z_dw c b a) r0 g0 (va_A (z_dw c b a X) sz)) (z_Tx D (z_dw c b a) r0 g0 (va_A (z_dw c b a X) sz)) 1 6 (va_A (z_dw c b a X) sz) := by
  refine z_ofT (cc := cX4_about) (maxL := 2) (ret := (some .int)) (Qf := fun A => z_Ti D (z_dw c b a) r0 g0 A) (Xf := fun A => z_Tx D (z_dw c b a) r0 g0 A) (by decide) rfl (Nat.le_of_ble_eq_true rfl) ?_
  intro p e s m args below meth co A ls hx hb hr hml hts hown hlocks hnm hxt hA hP hK hD hE hl hsz
  have hnX := hnm
  have hl : lv_has ls 2 [(0, .ref (b 0)), (1, .int p1)] := hl
  have hown : s.vm.findClass RX4 = some m.cls := hown
  obtain ⟨H, hH⟩ : ∃ H, H = s.heap := ⟨_, rfl⟩
  have hS : va_S A s.heap H [] := by rw [hH]; exact va_S.rf
  rw [← hH] at hP ⊢
  clear hH
  unfold fX4_about at hf
  generalize ([] : List Loc) = locs at hS ⊢
  L
  i
  s
  t
  .
  m
  e
  m
  _
  a
  p
  p
  e
  n
  d
  _
  r
  i
  g
  h
  t
   
  _
   
  h
abbrev rmX4_order : Room := { frames := 6, cells := 1, slots := 6, locals := 82 }
theorem qX4_order_19 : Cond.fieldLink RX4 19 "ProgramDrum" "now" "LProgramDrum$State;" ∈ wsX4_order := by decide +kernel
theorem iX4_order_X4 : ∀ w ∈ wsX40, w ∈ wsX4_order := by decide +kernel
theorem iX4_order_X2 : ∀ w ∈ wsX20, w ∈ wsX4_order := by decide +kernel
theorem qX4_order_k44 : Cond.classLink RX4 44 "java/lang/IllegalArgumentException" ∈ wsX4_order := by decide +kernel
theorem qX4_order_x1 : Cond.initialized "java/lang/IllegalArgumentException" ∈ wsX4_order := by decide +kernel
theorem xX4_order_1 : ∀ w ∈ (vx_atS RX4 48 "java/lang/IllegalArgumentException" ["java/lang/RuntimeException", "java/lang/Exception"]).filter goodWord, w ∈ wsX4_order := fun w h => List.mem_cons_of_mem _ (List.mem_append_right _ h)
theorem qX4_order_k128 : Cond.classLink RX4 128 "java/lang/IndexOutOfBoundsException" ∈ wsX4_order := by decide +kernel
theorem qX4_order_x3 : Cond.initialized "java/lang/IndexOutOfBoundsException" ∈ wsX4_order := by decide +kernel
theorem xX4_order_3 : ∀ w ∈ (vx_atS RX4 132 "java/lang/IndexOutOfBoundsException" ["java/lang/RuntimeException", "java/lang/Exception"]).filter goodWord, w ∈ wsX4_order := fun w h => List.mem_cons_of_mem _ (List.mem_append_left _ (List.mem_append_right _ h))
set_option maxRecDepth 100000 in
set_option maxHeartbeats 4000000 in
theorem kX4_order (l : Launch) (hlst : l.stackTraces = false) (D : va_G) (c : Nat → ClassId) (N : Nat) (b : Nat → Nat) (a : Nat → Nat → Nat) (sz : Nat) (X : z_X) (p1 : Int32) (p2 : Int32) (r0 : Int32 ⊕ Nat) (g0 : z_X) (hf : fX4_order N p1 p2 X = some (r0, g0)) : vx_Met l yX4_order wsX4_order rmX4_order (z_Pt D c sz (z_dw c b a X) [.ref (b 0), .int p1, .int p2]) (z_Ti D (z_dw c b a) r0 g0 (va_A (z_dw c b a X) sz)) (z_Tx D (z_dw c b a) r0 g0 (va_A (z_dw c b a X) sz)) 1 6 (va_A (z_dw c b a X) sz) := by
  refine z_ofT (cc := cX4_order) (maxL := 3) (ret := (some .int)) (Qf := fun A => z_Ti D (z_dw c b a) r0 g0 A) (Xf := fun A => z_Tx D (z_dw c b a) r0 g0 A) (by decide) rfl (Nat.le_of_ble_eq_true rfl) ?_
  intro p e s m args below meth co A ls hx hb hr hml hts hown hlocks hnm hxt hA hP hK hD hE hl hsz
  have hnX := hnm
  have hl : lv_has ls 3 [(0, .ref (b 0)), (1, .int p1), (2, .int p2)] := hl
  have hown : s.vm.findClass RX4 = some m.cls := hown
  obtain ⟨H, hH⟩ : ∃ H, H = s.heap := ⟨_, rfl⟩
  have hS : va_S A s.heap H [] := by rw [hH]; exact va_S.rf
  rw [← hH] at hP ⊢
  clear hH
  unfold fX4_order at hf
  generalize ([] : List Loc) = locs at hS ⊢
  L
  i
  s
  t
  .
  m
  e
  m
  _
  a
  p
  p
  e
  n
  d
  _
  l
  e
  f
  t
   
  _
   
  (
  L
  i
  s
  t
  .
  m
  e
  m
  _
  a
  p
  p
  e
  n
  d
  _
  r
  i
  g
  h
  t
   
  _
   
  h
  )
abbrev rmX4_author : Room := { frames := 6, cells := 1, slots := 6, locals := 82 }
theorem qX4_author_19 : Cond.fieldLink RX4 19 "ProgramDrum" "now" "LProgramDrum$State;" ∈ wsX4_author := by decide +kernel
theorem iX4_author_X4 : ∀ w ∈ wsX40, w ∈ wsX4_author := by decide +kernel
theorem iX4_author_X2 : ∀ w ∈ wsX20, w ∈ wsX4_author := by decide +kernel
theorem qX4_author_k44 : Cond.classLink RX4 44 "java/lang/IllegalArgumentException" ∈ wsX4_author := by decide +kernel
theorem qX4_author_x1 : Cond.initialized "java/lang/IllegalArgumentException" ∈ wsX4_author := by decide +kernel
theorem xX4_author_1 : ∀ w ∈ (vx_atS RX4 48 "java/lang/IllegalArgumentException" ["java/lang/RuntimeException", "java/lang/Exception"]).filter goodWord, w ∈ wsX4_author := fun w h => List.mem_cons_of_mem _ (List.mem_append_right _ h)
theorem qX4_author_k128 : Cond.classLink RX4 128 "java/lang/IndexOutOfBoundsException" ∈ wsX4_author := by decide +kernel
theorem qX4_author_x3 : Cond.initialized "java/lang/IndexOutOfBoundsException" ∈ wsX4_author := by decide +kernel
theorem xX4_author_3 : ∀ w ∈ (vx_atS RX4 132 "java/lang/IndexOutOfBoundsException" ["java/lang/RuntimeException", "java/lang/Exception"]).filter goodWord, w ∈ wsX4_author := fun w h => List.mem_cons_of_mem _ (List.mem_append_left _ (List.mem_append_right _ h))
set_option maxRecDepth 100000 in
set_option maxHeartbeats 4000000 in
theorem kX4_author (l : Launch) (hlst : l.stackTraces = false) (D : va_G) (c : Nat → ClassId) (N : Nat) (b : Nat → Nat) (a : Nat → Nat → Nat) (sz : Nat) (X : z_X) (p1 : Int32) (p2 : Int32) (r0 : Int32 ⊕ Nat) (g0 : z_X) (hf : fX4_author N p1 p2 X = some (r0, g0)) : vx_Met l yX4_author wsX4_author rmX4_author (z_Pt D c sz (z_dw c b a X) [.ref (b 0), .int p1, .int p2]) (z_Ti D (z_dw c b a) r0 g0 (va_A (z_dw c b a X) sz)) (z_Tx D (z_dw c b a) r0 g0 (va_A (z_dw c b a X) sz)) 1 6 (va_A (z_dw c b a X) sz) := by
  refine z_ofT (cc := cX4_author) (maxL := 3) (ret := (some .int)) (Qf := fun A => z_Ti D (z_dw c b a) r0 g0 A) (Xf := fun A => z_Tx D (z_dw c b a) r0 g0 A) (by decide) rfl (Nat.le_of_ble_eq_true rfl) ?_
  intro p e s m args below meth co A ls hx hb hr hml hts hown hlocks hnm hxt hA hP hK hD hE hl hsz
  have hnX := hnm
  have hl : lv_has ls 3 [(0, .ref (b 0)), (1, .int p1), (2, .int p2)] := hl
  have hown : s.vm.findClass RX4 = some m.cls := hown
  obtain ⟨H, hH⟩ : ∃ H, H = s.heap := ⟨_, rfl⟩
  have hS : va_S A s.heap H [] := by rw [hH]; exact va_S.rf
  rw [← hH] at hP ⊢
  clear hH
  unfold fX4_author at hf
  generalize ([] : List Loc) = locs at hS ⊢
  L
  i
  s
  t
  .
  m
  e
  m
  _
  a
  p
  p
  e
  n
  d
  _
  l
  e
  f
  t
   
  _
   
  (
  L
  i
  s
  t
  .
  m
  e
  m
  _
  a
  p
  p
  e
  n
  d
  _
  r
  i
  g
  h
  t
   
  _
   
  h
  )
abbrev rmX4_at : Room := { frames := 6, cells := 1, slots := 6, locals := 82 }
theorem qX4_at_19 : Cond.fieldLink RX4 19 "ProgramDrum" "now" "LProgramDrum$State;" ∈ wsX4_at := by decide +kernel
theorem iX4_at_X4 : ∀ w ∈ wsX40, w ∈ wsX4_at := by decide +kernel
theorem qX4_at_k128 : Cond.classLink RX4 128 "java/lang/IndexOutOfBoundsException" ∈ wsX4_at := by decide +kernel
theorem qX4_at_x3 : Cond.initialized "java/lang/IndexOutOfBoundsException" ∈ wsX4_at := by decide +kernel
theorem xX4_at_3 : ∀ w ∈ (vx_atS RX4 132 "java/lang/IndexOutOfBoundsException" ["java/lang/RuntimeException", "java/lang/Exception"]).filter goodWord, w ∈ wsX4_at := fun w h => List.mem_cons_of_mem _ (List.mem_append_right _ h)
set_option maxRecDepth 100000 in
set_option maxHeartbeats 4000000 in
theorem kX4_at (l : Launch) (hlst : l.stackTraces = false) (D : va_G) (c : Nat → ClassId) (N : Nat) (b : Nat → Nat) (a : Nat → Nat → Nat) (sz : Nat) (X : z_X) (p1 : Int32) (r0 : Int32 ⊕ Nat) (g0 : z_X) (hf : fX4_at N p1 X = some (r0, g0)) : vx_Met l yX4_at wsX4_at rmX4_at (z_Pt D c sz (z_dw c b a X) [.ref (b 0), .int p1]) (z_Ti D (z_dw c b a) r0 g0 (va_A (z_dw c b a X) sz)) (z_Tx D (z_dw c b a) r0 g0 (va_A (z_dw c b a X) sz)) 1 6 (va_A (z_dw c b a X) sz) := by
  refine z_ofT (cc := cX4_at) (maxL := 2) (ret := (some .int)) (Qf := fun A => z_Ti D (z_dw c b a) r0 g0 A) (Xf := fun A => z_Tx D (z_dw c b a) r0 g0 A) (by decide) rfl (Nat.le_of_ble_eq_true rfl) ?_
  intro p e s m args below meth co A ls hx hb hr hml hts hown hlocks hnm hxt hA hP hK hD hE hl hsz
  have hnX := hnm
  have hl : lv_has ls 2 [(0, .ref (b 0)), (1, .int p1)] := hl
  have hown : s.vm.findClass RX4 = some m.cls := hown
  obtain ⟨H, hH⟩ : ∃ H, H = s.heap := ⟨_, rfl⟩
  have hS : va_S A s.heap H [] := by rw [hH]; exact va_S.rf
  rw [← hH] at hP ⊢
  clear hH
  unfold fX4_at at hf
  generalize ([] : List Loc) = locs at hS ⊢
  L
  i
  s
  t
  .
  m
  e
  m
  _
  a
  p
  p
  e
  n
  d
  _
  r
  i
  g
  h
  t
   
  _
   
  h
abbrev rmX4_jump : Room := { frames := 6, cells := 1, slots := 6, locals := 82 }
theorem qX4_jump_k44 : Cond.classLink RX4 44 "java/lang/IllegalArgumentException" ∈ wsX4_jump := by decide +kernel
theorem qX4_jump_x1 : Cond.initialized "java/lang/IllegalArgumentException" ∈ wsX4_jump := by decide +kernel
theorem xX4_jump_1 : ∀ w ∈ (vx_atS RX4 48 "java/lang/IllegalArgumentException" ["java/lang/RuntimeException", "java/lang/Exception"]).filter goodWord, w ∈ wsX4_jump := fun w h => List.mem_cons_of_mem _ (List.mem_append_right _ h)
theorem qX4_jump_19 : Cond.fieldLink RX4 19 "ProgramDrum" "now" "LProgramDrum$State;" ∈ wsX4_jump := by decide +kernel
theorem iX4_jump_X4 : ∀ w ∈ wsX40, w ∈ wsX4_jump := by decide +kernel
theorem iX4_jump_X2 : ∀ w ∈ wsX20, w ∈ wsX4_jump := by decide +kernel
set_option maxRecDepth 100000 in
set_option maxHeartbeats 4000000 in
theorem kX4_jump (l : Launch) (hlst : l.stackTraces = false) (D : va_G) (c : Nat → ClassId) (N : Nat) (b : Nat → Nat) (a : Nat → Nat → Nat) (sz : Nat) (X : z_X) (p1 : Int32) (p2 : Int32) (r0 : Int32 ⊕ Nat) (g0 : z_X) (hf : fX4_jump N p1 p2 X = some (r0, g0)) : vx_Met l yX4_jump wsX4_jump rmX4_jump (z_Pt D c sz (z_dw c b a X) [.ref (b 0), .int p1, .int p2]) (z_Ti D (z_dw c b a) r0 g0 (va_A (z_dw c b a X) sz)) (z_Tx D (z_dw c b a) r0 g0 (va_A (z_dw c b a X) sz)) 1 6 (va_A (z_dw c b a X) sz) := by
  refine z_ofT (cc := cX4_jump) (maxL := 3) (ret := (some .int)) (Qf := fun A => z_Ti D (z_dw c b a) r0 g0 A) (Xf := fun A => z_Tx D (z_dw c b a) r0 g0 A) (by decide) rfl (Nat.le_of_ble_eq_true rfl) ?_
  intro p e s m args below meth co A ls hx hb hr hml hts hown hlocks hnm hxt hA hP hK hD hE hl hsz
  have hnX := hnm
  have hl : lv_has ls 3 [(0, .ref (b 0)), (1, .int p1), (2, .int p2)] := hl
  have hown : s.vm.findClass RX4 = some m.cls := hown
  obtain ⟨H, hH⟩ : ∃ H, H = s.heap := ⟨_, rfl⟩
  have hS : va_S A s.heap H [] := by rw [hH]; exact va_S.rf
  rw [← hH] at hP ⊢
  clear hH
  unfold fX4_jump at hf
  generalize ([] : List Loc) = locs at hS ⊢
  L
  i
  s
  t
  .
  m
  e
  m
  _
  a
  p
  p
  e
  n
  d
  _
  r
  i
  g
  h
  t
   
  _
   
  h
abbrev rmX4_chain : Room := { frames := 6, cells := 1, slots := 6, locals := 82 }
theorem qX4_chain_19 : Cond.fieldLink RX4 19 "ProgramDrum" "now" "LProgramDrum$State;" ∈ wsX4_chain := by decide +kernel
theorem iX4_chain_X4 : ∀ w ∈ wsX40, w ∈ wsX4_chain := by decide +kernel
theorem qX4_chain_k128 : Cond.classLink RX4 128 "java/lang/IndexOutOfBoundsException" ∈ wsX4_chain := by decide +kernel
theorem qX4_chain_x3 : Cond.initialized "java/lang/IndexOutOfBoundsException" ∈ wsX4_chain := by decide +kernel
theorem xX4_chain_3 : ∀ w ∈ (vx_atS RX4 132 "java/lang/IndexOutOfBoundsException" ["java/lang/RuntimeException", "java/lang/Exception"]).filter goodWord, w ∈ wsX4_chain := fun w h => List.mem_cons_of_mem _ (List.mem_append_right _ h)
set_option maxRecDepth 100000 in
set_option maxHeartbeats 4000000 in
theorem kX4_chain (l : Launch) (hlst : l.stackTraces = false) (D : va_G) (c : Nat → ClassId) (N : Nat) (b : Nat → Nat) (a : Nat → Nat → Nat) (sz : Nat) (X : z_X) (p1 : Int32) (r0 : Int32 ⊕ Nat) (g0 : z_X) (hf : fX4_chain N p1 X = some (r0, g0)) : vx_Met l yX4_chain wsX4_chain rmX4_chain (z_Pt D c sz (z_dw c b a X) [.ref (b 0), .int p1]) (z_Ti D (z_dw c b a) r0 g0 (va_A (z_dw c b a X) sz)) (z_Tx D (z_dw c b a) r0 g0 (va_A (z_dw c b a X) sz)) 1 6 (va_A (z_dw c b a X) sz) := by
  refine z_ofT (cc := cX4_chain) (maxL := 2) (ret := (some .int)) (Qf := fun A => z_Ti D (z_dw c b a) r0 g0 A) (Xf := fun A => z_Tx D (z_dw c b a) r0 g0 A) (by decide) rfl (Nat.le_of_ble_eq_true rfl) ?_
  intro p e s m args below meth co A ls hx hb hr hml hts hown hlocks hnm hxt hA hP hK hD hE hl hsz
  have hnX := hnm
  have hl : lv_has ls 2 [(0, .ref (b 0)), (1, .int p1)] := hl
  have hown : s.vm.findClass RX4 = some m.cls := hown
  obtain ⟨H, hH⟩ : ∃ H, H = s.heap := ⟨_, rfl⟩
  have hS : va_S A s.heap H [] := by rw [hH]; exact va_S.rf
  rw [← hH] at hP ⊢
  clear hH
  unfold fX4_chain at hf
  generalize ([] : List Loc) = locs at hS ⊢
  L
  i
  s
  t
  .
  m
  e
  m
  _
  a
  p
  p
  e
  n
  d
  _
  r
  i
  g
  h
  t
   
  _
   
  h
abbrev rmX4_ring : Room := { frames := 6, cells := 1, slots := 6, locals := 82 }
theorem qX4_ring_19 : Cond.fieldLink RX4 19 "ProgramDrum" "now" "LProgramDrum$State;" ∈ wsX4_ring := by decide +kernel
theorem iX4_ring_X4 : ∀ w ∈ wsX40, w ∈ wsX4_ring := by decide +kernel
theorem qX4_ring_k128 : Cond.classLink RX4 128 "java/lang/IndexOutOfBoundsException" ∈ wsX4_ring := by decide +kernel
theorem qX4_ring_x3 : Cond.initialized "java/lang/IndexOutOfBoundsException" ∈ wsX4_ring := by decide +kernel
theorem xX4_ring_3 : ∀ w ∈ (vx_atS RX4 132 "java/lang/IndexOutOfBoundsException" ["java/lang/RuntimeException", "java/lang/Exception"]).filter goodWord, w ∈ wsX4_ring := fun w h => List.mem_cons_of_mem _ (List.mem_append_right _ h)
set_option maxRecDepth 100000 in
set_option maxHeartbeats 4000000 in
theorem kX4_ring (l : Launch) (hlst : l.stackTraces = false) (D : va_G) (c : Nat → ClassId) (N : Nat) (b : Nat → Nat) (a : Nat → Nat → Nat) (sz : Nat) (X : z_X) (p1 : Int32) (r0 : Int32 ⊕ Nat) (g0 : z_X) (hf : fX4_ring N p1 X = some (r0, g0)) : vx_Met l yX4_ring wsX4_ring rmX4_ring (z_Pt D c sz (z_dw c b a X) [.ref (b 0), .int p1]) (z_Ti D (z_dw c b a) r0 g0 (va_A (z_dw c b a X) sz)) (z_Tx D (z_dw c b a) r0 g0 (va_A (z_dw c b a X) sz)) 1 6 (va_A (z_dw c b a X) sz) := by
  refine z_ofT (cc := cX4_ring) (maxL := 2) (ret := (some .int)) (Qf := fun A => z_Ti D (z_dw c b a) r0 g0 A) (Xf := fun A => z_Tx D (z_dw c b a) r0 g0 A) (by decide) rfl (Nat.le_of_ble_eq_true rfl) ?_
  intro p e s m args below meth co A ls hx hb hr hml hts hown hlocks hnm hxt hA hP hK hD hE hl hsz
  have hnX := hnm
  have hl : lv_has ls 2 [(0, .ref (b 0)), (1, .int p1)] := hl
  have hown : s.vm.findClass RX4 = some m.cls := hown
  obtain ⟨H, hH⟩ : ∃ H, H = s.heap := ⟨_, rfl⟩
  have hS : va_S A s.heap H [] := by rw [hH]; exact va_S.rf
  rw [← hH] at hP ⊢
  clear hH
  unfold fX4_ring at hf
  generalize ([] : List Loc) = locs at hS ⊢
  L
  i
  s
  t
  .
  m
  e
  m
  _
  a
  p
  p
  e
  n
  d
  _
  r
  i
  g
  h
  t
   
  _
   
  h
abbrev rmX4_setDrum : Room := { frames := 6, cells := 1, slots := 6, locals := 86 }
theorem qX4_setDrum_k44 : Cond.classLink RX4 44 "java/lang/IllegalArgumentException" ∈ wsX4_setDrum := by decide +kernel
theorem qX4_setDrum_x1 : Cond.initialized "java/lang/IllegalArgumentException" ∈ wsX4_setDrum := by decide +kernel
theorem xX4_setDrum_1 : ∀ w ∈ (vx_atS RX4 48 "java/lang/IllegalArgumentException" ["java/lang/RuntimeException", "java/lang/Exception"]).filter goodWord, w ∈ wsX4_setDrum := fun w h => List.mem_cons_of_mem _ (List.mem_append_right _ h)
theorem qX4_setDrum_32 : Cond.fieldLink RX4 32 "ProgramDrum" "memory" "LProgramDrum$Memory;" ∈ wsX4_setDrum := by decide +kernel
theorem iX4_setDrum_X4 : ∀ w ∈ wsX40, w ∈ wsX4_setDrum := by decide +kernel
theorem qX4_setDrum_19 : Cond.fieldLink RX4 19 "ProgramDrum" "now" "LProgramDrum$State;" ∈ wsX4_setDrum := by decide +kernel
theorem iX4_setDrum_X2 : ∀ w ∈ wsX20, w ∈ wsX4_setDrum := by decide +kernel
set_option maxRecDepth 100000 in
set_option maxHeartbeats 4000000 in
theorem kX4_setDrum (l : Launch) (hlst : l.stackTraces = false) (D : va_G) (c : Nat → ClassId) (N : Nat) (b : Nat → Nat) (a : Nat → Nat → Nat) (sz : Nat) (X : z_X) (p1 : Int32) (r0 : Int32 ⊕ Nat) (g0 : z_X) (hf : fX4_setDrum N p1 X = some (r0, g0)) : vx_Met l yX4_setDrum wsX4_setDrum rmX4_setDrum (z_Pt D c sz (z_dw c b a X) [.ref (b 0), .int p1]) (z_Ti D (z_dw c b a) r0 g0 (va_A (z_dw c b a X) sz)) (z_Tx D (z_dw c b a) r0 g0 (va_A (z_dw c b a X) sz)) 1 6 (va_A (z_dw c b a X) sz) := by
  refine z_ofT (cc := cX4_setDrum) (maxL := 3) (ret := (some .int)) (Qf := fun A => z_Ti D (z_dw c b a) r0 g0 A) (Xf := fun A => z_Tx D (z_dw c b a) r0 g0 A) (by decide) rfl (Nat.le_of_ble_eq_true rfl) ?_
  intro p e s m args below meth co A ls hx hb hr hml hts hown hlocks hnm hxt hA hP hK hD hE hl hsz
  have hnX := hnm
  have hl : lv_has ls 3 [(0, .ref (b 0)), (1, .int p1)] := hl
  have hown : s.vm.findClass RX4 = some m.cls := hown
  obtain ⟨H, hH⟩ : ∃ H, H = s.heap := ⟨_, rfl⟩
  have hS : va_S A s.heap H [] := by rw [hH]; exact va_S.rf
  rw [← hH] at hP ⊢
  clear hH
  unfold fX4_setDrum at hf
  generalize ([] : List Loc) = locs at hS ⊢
  L
  i
  s
  t
  .
  m
  e
  m
  _
  a
  p
  p
  e
  n
  d
  _
  r
  i
  g
  h
  t
   
  _
   
  h
abbrev rmX4_addOrder : Room := { frames := 6, cells := 1, slots := 6, locals := 82 }
theorem qX4_addOrder_k44 : Cond.classLink RX4 44 "java/lang/IllegalArgumentException" ∈ wsX4_addOrder := by decide +kernel
theorem qX4_addOrder_x1 : Cond.initialized "java/lang/IllegalArgumentException" ∈ wsX4_addOrder := by decide +kernel
theorem xX4_addOrder_1 : ∀ w ∈ (vx_atS RX4 48 "java/lang/IllegalArgumentException" ["java/lang/RuntimeException", "java/lang/Exception"]).filter goodWord, w ∈ wsX4_addOrder := fun w h => List.mem_cons_of_mem _ (List.mem_append_left _ (List.mem_append_right _ h))
theorem qX4_addOrder_19 : Cond.fieldLink RX4 19 "ProgramDrum" "now" "LProgramDrum$State;" ∈ wsX4_addOrder := by decide +kernel
theorem iX4_addOrder_X4 : ∀ w ∈ wsX40, w ∈ wsX4_addOrder := by decide +kernel
theorem iX4_addOrder_X2 : ∀ w ∈ wsX20, w ∈ wsX4_addOrder := by decide +kernel
theorem qX4_addOrder_32 : Cond.fieldLink RX4 32 "ProgramDrum" "memory" "LProgramDrum$Memory;" ∈ wsX4_addOrder := by decide +kernel
theorem qX4_addOrder_k55 : Cond.classLink RX4 55 "java/lang/IllegalStateException" ∈ wsX4_addOrder := by decide +kernel
theorem qX4_addOrder_x2 : Cond.initialized "java/lang/IllegalStateException" ∈ wsX4_addOrder := by decide +kernel
theorem xX4_addOrder_2 : ∀ w ∈ (vx_atS RX4 59 "java/lang/IllegalStateException" ["java/lang/RuntimeException", "java/lang/Exception"]).filter goodWord, w ∈ wsX4_addOrder := fun w h => List.mem_cons_of_mem _ (List.mem_append_right _ h)
set_option maxRecDepth 100000 in
set_option maxHeartbeats 4000000 in
theorem kX4_addOrder (l : Launch) (hlst : l.stackTraces = false) (D : va_G) (c : Nat → ClassId) (N : Nat) (b : Nat → Nat) (a : Nat → Nat → Nat) (sz : Nat) (X : z_X) (p1 : Int32) (p2 : Int32) (p3 : Int32) (p4 : Int32) (p5 : Int32) (r0 : Int32 ⊕ Nat) (g0 : z_X) (hf : fX4_addOrder N p1 p2 p3 p4 p5 X = some (r0, g0)) : vx_Met l yX4_addOrder wsX4_addOrder rmX4_addOrder (z_Pt D c sz (z_dw c b a X) [.ref (b 0), .int p1, .int p2, .int p3, .int p4, .int p5]) (z_Ti D (z_dw c b a) r0 g0 (va_A (z_dw c b a X) sz)) (z_Tx D (z_dw c b a) r0 g0 (va_A (z_dw c b a X) sz)) 1 6 (va_A (z_dw c b a X) sz) := by
  refine z_ofT (cc := cX4_addOrder) (maxL := 6) (ret := (some .int)) (Qf := fun A => z_Ti D (z_dw c b a) r0 g0 A) (Xf := fun A => z_Tx D (z_dw c b a) r0 g0 A) (by decide) rfl (Nat.le_of_ble_eq_true rfl) ?_
  intro p e s m args below meth co A ls hx hb hr hml hts hown hlocks hnm hxt hA hP hK hD hE hl hsz
  have hnX := hnm
  have hl : lv_has ls 6 [(0, .ref (b 0)), (1, .int p1), (2, .int p2), (3, .int p3), (4, .int p4), (5, .int p5)] := hl
  have hown : s.vm.findClass RX4 = some m.cls := hown
  obtain ⟨H, hH⟩ : ∃ H, H = s.heap := ⟨_, rfl⟩
  have hS : va_S A s.heap H [] := by rw [hH]; exact va_S.rf
  rw [← hH] at hP ⊢
  clear hH
  unfold fX4_addOrder at hf
  generalize ([] : List Loc) = locs at hS ⊢
  L
  i
  s
  t
  .
  m
  e
  m
  _
  a
  p
  p
  e
  n
  d
  _
  r
  i
  g
  h
  t
   
  _
   
  h
abbrev rmX4_change : Room := { frames := 6, cells := 1, slots := 6, locals := 82 }
theorem qX4_change_19 : Cond.fieldLink RX4 19 "ProgramDrum" "now" "LProgramDrum$State;" ∈ wsX4_change := by decide +kernel
theorem iX4_change_X4 : ∀ w ∈ wsX40, w ∈ wsX4_change := by decide +kernel
theorem qX4_change_32 : Cond.fieldLink RX4 32 "ProgramDrum" "memory" "LProgramDrum$Memory;" ∈ wsX4_change := by decide +kernel
theorem qX4_change_k44 : Cond.classLink RX4 44 "java/lang/IllegalArgumentException" ∈ wsX4_change := by decide +kernel
theorem qX4_change_x1 : Cond.initialized "java/lang/IllegalArgumentException" ∈ wsX4_change := by decide +kernel
theorem xX4_change_1 : ∀ w ∈ (vx_atS RX4 48 "java/lang/IllegalArgumentException" ["java/lang/RuntimeException", "java/lang/Exception"]).filter goodWord, w ∈ wsX4_change := fun w h => List.mem_cons_of_mem _ (List.mem_append_right _ h)
theorem qX4_change_k128 : Cond.classLink RX4 128 "java/lang/IndexOutOfBoundsException" ∈ wsX4_change := by decide +kernel
theorem qX4_change_x3 : Cond.initialized "java/lang/IndexOutOfBoundsException" ∈ wsX4_change := by decide +kernel
theorem xX4_change_3 : ∀ w ∈ (vx_atS RX4 132 "java/lang/IndexOutOfBoundsException" ["java/lang/RuntimeException", "java/lang/Exception"]).filter goodWord, w ∈ wsX4_change := fun w h => List.mem_cons_of_mem _ (List.mem_append_left _ (List.mem_append_right _ h))
set_option maxRecDepth 100000 in
set_option maxHeartbeats 4000000 in
theorem kX4_change (l : Launch) (hlst : l.stackTraces = false) (D : va_G) (c : Nat → ClassId) (N : Nat) (b : Nat → Nat) (a : Nat → Nat → Nat) (sz : Nat) (X : z_X) (p1 : Int32) (p2 : Int32) (p3 : Int32) (r0 : Int32 ⊕ Nat) (g0 : z_X) (hf : fX4_change N p1 p2 p3 X = some (r0, g0)) : vx_Met l yX4_change wsX4_change rmX4_change (z_Pt D c sz (z_dw c b a X) [.ref (b 0), .int p1, .int p2, .int p3]) (z_Ti D (z_dw c b a) r0 g0 (va_A (z_dw c b a X) sz)) (z_Tx D (z_dw c b a) r0 g0 (va_A (z_dw c b a X) sz)) 1 6 (va_A (z_dw c b a X) sz) := by
  refine z_ofT (cc := cX4_change) (maxL := 4) (ret := (some .int)) (Qf := fun A => z_Ti D (z_dw c b a) r0 g0 A) (Xf := fun A => z_Tx D (z_dw c b a) r0 g0 A) (by decide) rfl (Nat.le_of_ble_eq_true rfl) ?_
  intro p e s m args below meth co A ls hx hb hr hml hts hown hlocks hnm hxt hA hP hK hD hE hl hsz
  have hnX := hnm
  have hl : lv_has ls 4 [(0, .ref (b 0)), (1, .int p1), (2, .int p2), (3, .int p3)] := hl
  have hown : s.vm.findClass RX4 = some m.cls := hown
  obtain ⟨H, hH⟩ : ∃ H, H = s.heap := ⟨_, rfl⟩
  have hS : va_S A s.heap H [] := by rw [hH]; exact va_S.rf
  rw [← hH] at hP ⊢
  clear hH
  unfold fX4_change at hf
  generalize ([] : List Loc) = locs at hS ⊢
  L
  i
  s
  t
  .
  m
  e
  m
  _
  a
  p
  p
  e
  n
  d
  _
  l
  e
  f
  t
   
  _
   
  (
  L
  i
  s
  t
  .
  m
  e
  m
  _
  a
  p
  p
  e
  n
  d
  _
  r
  i
  g
  h
  t
   
  _
   
  h
  )
abbrev rmX4_move : Room := { frames := 6, cells := 1, slots := 6, locals := 82 }
theorem qX4_move_19 : Cond.fieldLink RX4 19 "ProgramDrum" "now" "LProgramDrum$State;" ∈ wsX4_move := by decide +kernel
theorem iX4_move_X4 : ∀ w ∈ wsX40, w ∈ wsX4_move := by decide +kernel
theorem qX4_move_k128 : Cond.classLink RX4 128 "java/lang/IndexOutOfBoundsException" ∈ wsX4_move := by decide +kernel
theorem qX4_move_x3 : Cond.initialized "java/lang/IndexOutOfBoundsException" ∈ wsX4_move := by decide +kernel
theorem xX4_move_3 : ∀ w ∈ (vx_atS RX4 132 "java/lang/IndexOutOfBoundsException" ["java/lang/RuntimeException", "java/lang/Exception"]).filter goodWord, w ∈ wsX4_move := fun w h => List.mem_cons_of_mem _ (List.mem_append_left _ (List.mem_append_right _ h))
theorem qX4_move_32 : Cond.fieldLink RX4 32 "ProgramDrum" "memory" "LProgramDrum$Memory;" ∈ wsX4_move := by decide +kernel
theorem qX4_move_k55 : Cond.classLink RX4 55 "java/lang/IllegalStateException" ∈ wsX4_move := by decide +kernel
theorem qX4_move_x2 : Cond.initialized "java/lang/IllegalStateException" ∈ wsX4_move := by decide +kernel
theorem xX4_move_2 : ∀ w ∈ (vx_atS RX4 59 "java/lang/IllegalStateException" ["java/lang/RuntimeException", "java/lang/Exception"]).filter goodWord, w ∈ wsX4_move := fun w h => List.mem_cons_of_mem _ (List.mem_append_right _ h)
set_option maxRecDepth 100000 in
set_option maxHeartbeats 4000000 in
theorem kX4_move (l : Launch) (hlst : l.stackTraces = false) (D : va_G) (c : Nat → ClassId) (N : Nat) (b : Nat → Nat) (a : Nat → Nat → Nat) (sz : Nat) (X : z_X) (p1 : Int32) (p2 : Int32) (r0 : Int32 ⊕ Nat) (g0 : z_X) (hf : fX4_move N p1 p2 X = some (r0, g0)) : vx_Met l yX4_move wsX4_move rmX4_move (z_Pt D c sz (z_dw c b a X) [.ref (b 0), .int p1, .int p2]) (z_Ti D (z_dw c b a) r0 g0 (va_A (z_dw c b a X) sz)) (z_Tx D (z_dw c b a) r0 g0 (va_A (z_dw c b a X) sz)) 1 6 (va_A (z_dw c b a X) sz) := by
  refine z_ofT (cc := cX4_move) (maxL := 3) (ret := (some .int)) (Qf := fun A => z_Ti D (z_dw c b a) r0 g0 A) (Xf := fun A => z_Tx D (z_dw c b a) r0 g0 A) (by decide) rfl (Nat.le_of_ble_eq_true rfl) ?_
  intro p e s m args below meth co A ls hx hb hr hml hts hown hlocks hnm hxt hA hP hK hD hE hl hsz
  have hnX := hnm
  have hl : lv_has ls 3 [(0, .ref (b 0)), (1, .int p1), (2, .int p2)] := hl
  have hown : s.vm.findClass RX4 = some m.cls := hown
  obtain ⟨H, hH⟩ : ∃ H, H = s.heap := ⟨_, rfl⟩
  have hS : va_S A s.heap H [] := by rw [hH]; exact va_S.rf
  rw [← hH] at hP ⊢
  clear hH
  unfold fX4_move at hf
  generalize ([] : List Loc) = locs at hS ⊢
  L
  i
  s
  t
  .
  m
  e
  m
  _
  a
  p
  p
  e
  n
  d
  _
  r
  i
  g
  h
  t
   
  _
   
  h
abbrev rmX4_run : Room := { frames := 6, cells := 1, slots := 6, locals := 132 }
theorem qX4_run_19 : Cond.fieldLink RX4 19 "ProgramDrum" "now" "LProgramDrum$State;" ∈ wsX4_run := by decide +kernel
theorem iX4_run_X4 : ∀ w ∈ wsX40, w ∈ wsX4_run := by decide +kernel
theorem qX4_run_32 : Cond.fieldLink RX4 32 "ProgramDrum" "memory" "LProgramDrum$Memory;" ∈ wsX4_run := by decide +kernel
theorem qX4_run_k128 : Cond.classLink RX4 128 "java/lang/IndexOutOfBoundsException" ∈ wsX4_run := by decide +kernel
theorem qX4_run_x3 : Cond.initialized "java/lang/IndexOutOfBoundsException" ∈ wsX4_run := by decide +kernel
theorem xX4_run_3 : ∀ w ∈ (vx_atS RX4 132 "java/lang/IndexOutOfBoundsException" ["java/lang/RuntimeException", "java/lang/Exception"]).filter goodWord, w ∈ wsX4_run := fun w h => List.mem_cons_of_mem _ (List.mem_append_right _ h)
set_option maxRecDepth 100000 in
set_option maxHeartbeats 4000000 in
theorem kX4_run (l : Launch) (hlst : l.stackTraces = false) (D : va_G) (c : Nat → ClassId) (N : Nat) (b : Nat → Nat) (a : Nat → Nat → Nat) (sz : Nat) (X : z_X) (p1 : Int32) (r0 : Int32 ⊕ Nat) (g0 : z_X) (hf : fX4_run N p1 X = some (r0, g0)) : vx_Met l yX4_run wsX4_run rmX4_run (z_Pt D c sz (z_dw c b a X) [.ref (b 0), .int p1]) (z_Ti D (z_dw c b a) r0 g0 (va_A (z_dw c b a X) sz)) (z_Tx D (z_dw c b a) r0 g0 (va_A (z_dw c b a X) sz)) 1 6 (va_A (z_dw c b a X) sz) := by
  refine z_ofT (cc := cX4_run) (maxL := 2) (ret := (some .int)) (Qf := fun A => z_Ti D (z_dw c b a) r0 g0 A) (Xf := fun A => z_Tx D (z_dw c b a) r0 g0 A) (by decide) rfl (Nat.le_of_ble_eq_true rfl) ?_
  intro p e s m args below meth co A ls hx hb hr hml hts hown hlocks hnm hxt hA hP hK hD hE hl hsz
  have hnX := hnm
  have hl : lv_has ls 2 [(0, .ref (b 0)), (1, .int p1)] := hl
  have hown : s.vm.findClass RX4 = some m.cls := hown
  obtain ⟨H, hH⟩ : ∃ H, H = s.heap := ⟨_, rfl⟩
  have hS : va_S A s.heap H [] := by rw [hH]; exact va_S.rf
  rw [← hH] at hP ⊢
  clear hH
  unfold fX4_run at hf
  generalize ([] : List Loc) = locs at hS ⊢
  L
  i
  s
  t
  .
  m
  e
  m
  _
  a
  p
  p
  e
  n
  d
  _
  r
  i
  g
  h
  t
   
  _
   
  h
abbrev rmX4_turn : Room := { frames := 6, cells := 1, slots := 6, locals := 82 }
theorem qX4_turn_32 : Cond.fieldLink RX4 32 "ProgramDrum" "memory" "LProgramDrum$Memory;" ∈ wsX4_turn := by decide +kernel
theorem iX4_turn_X4 : ∀ w ∈ wsX40, w ∈ wsX4_turn := by decide +kernel
theorem qX4_turn_19 : Cond.fieldLink RX4 19 "ProgramDrum" "now" "LProgramDrum$State;" ∈ wsX4_turn := by decide +kernel
theorem iX4_turn_X2 : ∀ w ∈ wsX20, w ∈ wsX4_turn := by decide +kernel
theorem qX4_turn_k44 : Cond.classLink RX4 44 "java/lang/IllegalArgumentException" ∈ wsX4_turn := by decide +kernel
theorem qX4_turn_x1 : Cond.initialized "java/lang/IllegalArgumentException" ∈ wsX4_turn := by decide +kernel
theorem xX4_turn_1 : ∀ w ∈ (vx_atS RX4 48 "java/lang/IllegalArgumentException" ["java/lang/RuntimeException", "java/lang/Exception"]).filter goodWord, w ∈ wsX4_turn := fun w h => List.mem_cons_of_mem _ (List.mem_append_right _ h)
set_option maxRecDepth 100000 in
set_option maxHeartbeats 4000000 in
theorem kX4_turn (l : Launch) (hlst : l.stackTraces = false) (D : va_G) (c : Nat → ClassId) (N : Nat) (b : Nat → Nat) (a : Nat → Nat → Nat) (sz : Nat) (X : z_X) (p1 : Int32) (r0 : Int32 ⊕ Nat) (g0 : z_X) (hf : fX4_turn N p1 X = some (r0, g0)) : vx_Met l yX4_turn wsX4_turn rmX4_turn (z_Pt D c sz (z_dw c b a X) [.ref (b 0), .int p1]) (z_Ti D (z_dw c b a) r0 g0 (va_A (z_dw c b a X) sz)) (z_Tx D (z_dw c b a) r0 g0 (va_A (z_dw c b a X) sz)) 1 6 (va_A (z_dw c b a X) sz) := by
  refine z_ofT (cc := cX4_turn) (maxL := 2) (ret := (some .int)) (Qf := fun A => z_Ti D (z_dw c b a) r0 g0 A) (Xf := fun A => z_Tx D (z_dw c b a) r0 g0 A) (by decide) rfl (Nat.le_of_ble_eq_true rfl) ?_
  intro p e s m args below meth co A ls hx hb hr hml hts hown hlocks hnm hxt hA hP hK hD hE hl hsz
  have hnX := hnm
  have hl : lv_has ls 2 [(0, .ref (b 0)), (1, .int p1)] := hl
  have hown : s.vm.findClass RX4 = some m.cls := hown
  obtain ⟨H, hH⟩ : ∃ H, H = s.heap := ⟨_, rfl⟩
  have hS : va_S A s.heap H [] := by rw [hH]; exact va_S.rf
  rw [← hH] at hP ⊢
  clear hH
  unfold fX4_turn at hf
  generalize ([] : List Loc) = locs at hS ⊢
  L
  i
  s
  t
  .
  m
  e
  m
  _
  a
  p
  p
  e
  n
  d
  _
  r
  i
  g
  h
  t
   
  _
   
  h
abbrev rmX4_undo : Room := { frames := 6, cells := 1, slots := 6, locals := 82 }
theorem qX4_undo_32 : Cond.fieldLink RX4 32 "ProgramDrum" "memory" "LProgramDrum$Memory;" ∈ wsX4_undo := by decide +kernel
theorem iX4_undo_X4 : ∀ w ∈ wsX40, w ∈ wsX4_undo := by decide +kernel
theorem iX4_undo_X1 : ∀ w ∈ wsX10, w ∈ wsX4_undo := by decide +kernel
theorem qX4_undo_19 : Cond.fieldLink RX4 19 "ProgramDrum" "now" "LProgramDrum$State;" ∈ wsX4_undo := by decide +kernel
theorem qX4_undo_k55 : Cond.classLink RX4 55 "java/lang/IllegalStateException" ∈ wsX4_undo := by decide +kernel
theorem qX4_undo_x2 : Cond.initialized "java/lang/IllegalStateException" ∈ wsX4_undo := by decide +kernel
theorem xX4_undo_2 : ∀ w ∈ (vx_atS RX4 59 "java/lang/IllegalStateException" ["java/lang/RuntimeException", "java/lang/Exception"]).filter goodWord, w ∈ wsX4_undo := fun w h => List.mem_cons_of_mem _ (List.mem_append_right _ h)
set_option maxRecDepth 100000 in
set_option maxHeartbeats 4000000 in
theorem kX4_undo (l : Launch) (hlst : l.stackTraces = false) (D : va_G) (c : Nat → ClassId) (N : Nat) (b : Nat → Nat) (a : Nat → Nat → Nat) (sz : Nat) (X : z_X) (r0 : Int32 ⊕ Nat) (g0 : z_X) (hf : fX4_undo N X = some (r0, g0)) : vx_Met l yX4_undo wsX4_undo rmX4_undo (z_Pt D c sz (z_dw c b a X) [.ref (b 0)]) (z_Ti D (z_dw c b a) r0 g0 (va_A (z_dw c b a X) sz)) (z_Tx D (z_dw c b a) r0 g0 (va_A (z_dw c b a X) sz)) 1 6 (va_A (z_dw c b a X) sz) := by
  refine z_ofT (cc := cX4_undo) (maxL := 1) (ret := (some .int)) (Qf := fun A => z_Ti D (z_dw c b a) r0 g0 A) (Xf := fun A => z_Tx D (z_dw c b a) r0 g0 A) (by decide) rfl (Nat.le_of_ble_eq_true rfl) ?_
  intro p e s m args below meth co A ls hx hb hr hml hts hown hlocks hnm hxt hA hP hK hD hE hl hsz
  have hnX := hnm
  have hl : lv_has ls 1 [(0, .ref (b 0))] := hl
  have hown : s.vm.findClass RX4 = some m.cls := hown
  obtain ⟨H, hH⟩ : ∃ H, H = s.heap := ⟨_, rfl⟩
  have hS : va_S A s.heap H [] := by rw [hH]; exact va_S.rf
  rw [← hH] at hP ⊢
  clear hH
  unfold fX4_undo at hf
  generalize ([] : List Loc) = locs at hS ⊢
  L
  i
  s
  t
  .
  m
  e
  m
  _
  a
  p
  p
  e
  n
  d
  _
  r
  i
  g
  h
  t
   
  _
   
  h
abbrev rmX4_waits : Room := { frames := 6, cells := 1, slots := 6, locals := 82 }
theorem qX4_waits_19 : Cond.fieldLink RX4 19 "ProgramDrum" "now" "LProgramDrum$State;" ∈ wsX4_waits := by decide +kernel
theorem iX4_waits_X4 : ∀ w ∈ wsX40, w ∈ wsX4_waits := by decide +kernel
theorem qX4_waits_k128 : Cond.classLink RX4 128 "java/lang/IndexOutOfBoundsException" ∈ wsX4_waits := by decide +kernel
theorem qX4_waits_x3 : Cond.initialized "java/lang/IndexOutOfBoundsException" ∈ wsX4_waits := by decide +kernel
theorem xX4_waits_3 : ∀ w ∈ (vx_atS RX4 132 "java/lang/IndexOutOfBoundsException" ["java/lang/RuntimeException", "java/lang/Exception"]).filter goodWord, w ∈ wsX4_waits := fun w h => List.mem_cons_of_mem _ (List.mem_append_right _ h)
set_option maxRecDepth 100000 in
set_option maxHeartbeats 4000000 in
theorem kX4_waits (l : Launch) (hlst : l.stackTraces = false) (D : va_G) (c : Nat → ClassId) (N : Nat) (b : Nat → Nat) (a : Nat → Nat → Nat) (sz : Nat) (X : z_X) (p1 : Int32) (r0 : Int32 ⊕ Nat) (g0 : z_X) (hf : fX4_waits N p1 X = some (r0, g0)) : vx_Met l yX4_waits wsX4_waits rmX4_waits (z_Pt D c sz (z_dw c b a X) [.ref (b 0), .int p1]) (z_Ti D (z_dw c b a) r0 g0 (va_A (z_dw c b a X) sz)) (z_Tx D (z_dw c b a) r0 g0 (va_A (z_dw c b a X) sz)) 1 6 (va_A (z_dw c b a X) sz) := by
  refine z_ofT (cc := cX4_waits) (maxL := 2) (ret := (some .int)) (Qf := fun A => z_Ti D (z_dw c b a) r0 g0 A) (Xf := fun A => z_Tx D (z_dw c b a) r0 g0 A) (by decide) rfl (Nat.le_of_ble_eq_true rfl) ?_
  intro p e s m args below meth co A ls hx hb hr hml hts hown hlocks hnm hxt hA hP hK hD hE hl hsz
  have hnX := hnm
  have hl : lv_has ls 2 [(0, .ref (b 0)), (1, .int p1)] := hl
  have hown : s.vm.findClass RX4 = some m.cls := hown
  obtain ⟨H, hH⟩ : ∃ H, H = s.heap := ⟨_, rfl⟩
  have hS : va_S A s.heap H [] := by rw [hH]; exact va_S.rf
  rw [← hH] at hP ⊢
  clear hH
  unfold fX4_waits at hf
  generalize ([] : List Loc) = locs at hS ⊢
  L
  i
  s
  t
  .
  m
  e
  m
  _
  a
  p
  p
  e
  n
  d
  _
  r
  i
  g
  h
  t
   
  _
   
  h
abbrev rmX4_time : Room := { frames := 7, cells := 1, slots := 6, locals := 154 }
theorem qX4_time_19 : Cond.fieldLink RX4 19 "ProgramDrum" "now" "LProgramDrum$State;" ∈ wsX4_time := by decide +kernel
theorem iX4_time_X4 : ∀ w ∈ wsX40, w ∈ wsX4_time := by decide +kernel
theorem qX4_time_k128 : Cond.classLink RX4 128 "java/lang/IndexOutOfBoundsException" ∈ wsX4_time := by decide +kernel
theorem qX4_time_x3 : Cond.initialized "java/lang/IndexOutOfBoundsException" ∈ wsX4_time := by decide +kernel
theorem xX4_time_3 : ∀ w ∈ (vx_atS RX4 132 "java/lang/IndexOutOfBoundsException" ["java/lang/RuntimeException", "java/lang/Exception"]).filter goodWord, w ∈ wsX4_time := fun w h => List.mem_cons_of_mem _ (List.mem_append_right _ h)
set_option maxRecDepth 100000 in
set_option maxHeartbeats 4000000 in
theorem kX4_time (l : Launch) (hlst : l.stackTraces = false) (D : va_G) (c : Nat → ClassId) (N : Nat) (b : Nat → Nat) (a : Nat → Nat → Nat) (sz : Nat) (X : z_X) (p1 : Int32) (r0 : Int32 ⊕ Nat) (g0 : z_X) (hf : fX4_time N p1 X = some (r0, g0)) : vx_Met l yX4_time wsX4_time rmX4_time (z_Pt D c sz (z_dw c b a X) [.ref (b 0), .int p1]) (z_Ti D (z_dw c b a) r0 g0 (va_A (z_dw c b a X) sz)) (z_Tx D (z_dw c b a) r0 g0 (va_A (z_dw c b a X) sz)) 1 6 (va_A (z_dw c b a X) sz) := by
  refine z_ofT (cc := cX4_time) (maxL := 2) (ret := (some .int)) (Qf := fun A => z_Ti D (z_dw c b a) r0 g0 A) (Xf := fun A => z_Tx D (z_dw c b a) r0 g0 A) (by decide) rfl (Nat.le_of_ble_eq_true rfl) ?_
  intro p e s m args below meth co A ls hx hb hr hml hts hown hlocks hnm hxt hA hP hK hD hE hl hsz
  have hnX := hnm
  have hl : lv_has ls 2 [(0, .ref (b 0)), (1, .int p1)] := hl
  have hown : s.vm.findClass RX4 = some m.cls := hown
  obtain ⟨H, hH⟩ : ∃ H, H = s.heap := ⟨_, rfl⟩
  have hS : va_S A s.heap H [] := by rw [hH]; exact va_S.rf
  rw [← hH] at hP ⊢
  clear hH
  unfold fX4_time at hf
  generalize ([] : List Loc) = locs at hS ⊢
  L
  i
  s
  t
  .
  m
  e
  m
  _
  a
  p
  p
  e
  n
  d
  _
  r
  i
  g
  h
  t
   
  _
   
  h
abbrev rmX4_bestPlace : Room := { frames := 7, cells := 1, slots := 6, locals := 154 }
theorem qX4_bestPlace_19 : Cond.fieldLink RX4 19 "ProgramDrum" "now" "LProgramDrum$State;" ∈ wsX4_bestPlace := by decide +kernel
theorem iX4_bestPlace_X4 : ∀ w ∈ wsX40, w ∈ wsX4_bestPlace := by decide +kernel
theorem qX4_bestPlace_k128 : Cond.classLink RX4 128 "java/lang/IndexOutOfBoundsException" ∈ wsX4_bestPlace := by decide +kernel
theorem qX4_bestPlace_x3 : Cond.initialized "java/lang/IndexOutOfBoundsException" ∈ wsX4_bestPlace := by decide +kernel
theorem xX4_bestPlace_3 : ∀ w ∈ (vx_atS RX4 132 "java/lang/IndexOutOfBoundsException" ["java/lang/RuntimeException", "java/lang/Exception"]).filter goodWord, w ∈ wsX4_bestPlace := fun w h => List.mem_cons_of_mem _ (List.mem_append_right _ h)
theorem qX4_bestPlace_23 : Cond.fieldLink RX4 23 "ProgramDrum" "trial" "LProgramDrum$State;" ∈ wsX4_bestPlace := by decide +kernel
theorem iX4_bestPlace_X2 : ∀ w ∈ wsX20, w ∈ wsX4_bestPlace := by decide +kernel
set_option maxRecDepth 100000 in
set_option maxHeartbeats 4000000 in
theorem kX4_bestPlace (l : Launch) (hlst : l.stackTraces = false) (D : va_G) (c : Nat → ClassId) (N : Nat) (b : Nat → Nat) (a : Nat → Nat → Nat) (sz : Nat) (X : z_X) (p1 : Int32) (p2 : Int32) (r0 : Int32 ⊕ Nat) (g0 : z_X) (hf : fX4_bestPlace N p1 p2 X = some (r0, g0)) : vx_Met l yX4_bestPlace wsX4_bestPlace rmX4_bestPlace (z_Pt D c sz (z_dw c b a X) [.ref (b 0), .int p1, .int p2]) (z_Ti D (z_dw c b a) r0 g0 (va_A (z_dw c b a X) sz)) (z_Tx D (z_dw c b a) r0 g0 (va_A (z_dw c b a X) sz)) 1 6 (va_A (z_dw c b a X) sz) := by
  refine z_ofT (cc := cX4_bestPlace) (maxL := 7) (ret := (some .int)) (Qf := fun A => z_Ti D (z_dw c b a) r0 g0 A) (Xf := fun A => z_Tx D (z_dw c b a) r0 g0 A) (by decide) rfl (Nat.le_of_ble_eq_true rfl) ?_
  intro p e s m args below meth co A ls hx hb hr hml hts hown hlocks hnm hxt hA hP hK hD hE hl hsz
  have hnX := hnm
  have hl : lv_has ls 7 [(0, .ref (b 0)), (1, .int p1), (2, .int p2)] := hl
  have hown : s.vm.findClass RX4 = some m.cls := hown
  obtain ⟨H, hH⟩ : ∃ H, H = s.heap := ⟨_, rfl⟩
  have hS : va_S A s.heap H [] := by rw [hH]; exact va_S.rf
  rw [← hH] at hP ⊢
  clear hH
  have L51 : ∀ (x1 : Int32) (x2 : Int32) (fu : Nat) (x3 : Int32) (x4 : Int32) (x5 : Int32) (X : z_X), lX4_bestPlace_51 N x1 x2 fu x3 x4 x5 X = some (r0, g0) → ∀ (H : Heap) (locs : List Loc) (ls : Array Slot), va_P D vwCl (z_dw c b a X) H → va_D A (z_dw c b a X) → va_S A s.heap H locs → lv_has ls 7 [(0, .ref (b 0)), (1, .int x1), (2, .int x2), (3, .int x3), (4, .int x4), (5, .int x5)] → W p l e rmX4_bestPlace s m args below meth co H locs 0 0 (vx_MQ below (z_Ti D (z_dw c b a) r0 g0 A) (z_Tx D (z_dw c b a) r0 g0 A) args s 1 6 A) (F0 m 51 ls []) := by
    intro x1 x2 fu
    induction fu with
    | zero =>
      intro x3 x4 x5 X hf
      have hf : (none : Option ((Int32 ⊕ Nat) × z_X)) = some _ := hf
      cases hf
    | succ fu ih =>
      intro x3 x4 x5 X hf H locs ls hP hD hS hl
      rw [lX4_bestPlace_51.eq_2] at hf
      refine lv_iload hx hb dX4_bestPlace_51 (lv_at hl 5 rfl) ?_
      refine lv_aload_n hx hb dX4_bestPlace_53 rfl (lv_at hl 0 rfl) ?_
      refine va_get (D := D) (ci := 4) (v := .ref (a 0 0)) (C := RX4) (T := TX4) (N := 7) hx hb hts iX4_bestPlace_X4 hown hK.1 hP 0 rfl rfl 1 (by decide) (hts _ qX4_bestPlace_19) (fun _ h9 => h9) rfl dX4_bestPlace_54 ?_
      refine va_getN (D := D) (ci := 2) (v := .int (X.2.2 0 0 0)) (C := RX2) (T := TX2) (N := 16) hx hb hts iX4_bestPlace_X2 hown hK.1 (z_subP hP (z_inS (by decide))) 0 rfl rfl 0 (by decide) (va_Nw.use rfl (hK.2.1 _ zF_X4_84)) (fun _ h9 => h9) rfl dX4_bestPlace_57 ?_
      refine lv_icmp_ge (tgt := 123) hx hb dX4_bestPlace_60 (by decide) (fun c7 => ?_) (fun c7 => ?_)
      · have hf := z_ifT hf c7
        refine lv_iload_n hx hb dX4_bestPlace_123 rfl (lv_at hl 3 rfl) ?_
        exact z_ti (wf := (z_dw c b a)) hx hb hr hlocks hP hD hS hf dX4_bestPlace_124
      · have hf := z_ifF hf c7
        refine lv_aload_n hx hb dX4_bestPlace_63 rfl (lv_at hl 0 rfl) ?_
        refine va_get (D := D) (ci := 4) (v := .ref (a 0 0)) (C := RX4) (T := TX4) (N := 7) hx hb hts iX4_bestPlace_X4 hown hK.1 hP 0 rfl rfl 1 (by decide) (hts _ qX4_bestPlace_19) (fun _ h9 => h9) rfl dX4_bestPlace_64 ?_
        refine lv_iload_n hx hb dX4_bestPlace_67 rfl (lv_at hl 1 rfl) ?_
        refine lv_iload hx hb dX4_bestPlace_68 (lv_at hl 5 rfl) ?_
        obtain ⟨r8, h8, hf⟩ := z_bE hf
        refine z_xVi (As := [.int x1, .int x5]) (rest := []) (wf := z_st c (a 0)) (g := (X.2.2 0)) (u0 := (X.2.2 0)) ⟨hx, hb, hml, hown, hts⟩ (kX2_isFreeFor l D c N (a 0) H.size (X.2.2 0) x1 x5 r8 h8) (cwV 2 hts gX4_bestPlace_X2_isFreeFor rfl rfl rfl (by decide +kernel) ⟨Nat.le_of_ble_eq_true rfl, Nat.le_of_ble_eq_true rfl⟩) hP hK hD hS hA (z_cutSp hD (by decide)) (ci := 2) (q0 := 0) rfl rfl rfl rfl hl.1 (Nat.le_of_ble_eq_true rfl) rfl dX4_bestPlace_70 ⟨Nat.zero_le _, Nat.zero_le _⟩ (fun H locs hP hD hS => ?_)
        refine lv_if_eq (tgt := 117) hx hb dX4_bestPlace_73 (by decide) (fun c9 => ?_) (fun c9 => ?_)
        · have hf := z_ifT hf c9
          refine lv_iinc (v := (x5 + (1 : Int32))) (lv' := [(5, .int (x5 + (1 : Int32))), (0, .ref (b 0)), (1, .int x1), (2, .int x2), (3, .int x3), (4, .int x4)]) hx hb dX4_bestPlace_117 hl (k := 5) rfl rfl (by decide) rfl (fun ls hl => ?_)
          refine lv_goto (tgt := 51) hx hb dX4_bestPlace_120 (by decide) ?_
          exact ih _ _ _ _ hf H locs ls hP hD hS (lv_sub hl [1, 2, 3, 4, 5, 0] rfl)
        · have hf := z_ifF hf c9
          refine lv_aload_n hx hb dX4_bestPlace_76 rfl (lv_at hl 0 rfl) ?_
          refine va_get (D := D) (ci := 4) (v := .ref (a 1 0)) (C := RX4) (T := TX4) (N := 7) hx hb hts iX4_bestPlace_X4 hown hK.1 hP 0 rfl rfl 2 (by decide) (hts _ qX4_bestPlace_23) (fun _ h9 => h9) rfl dX4_bestPlace_77 ?_
          refine va_getN (D := D) (ci := 2) (v := .ref (a 1 6)) (C := RX2) (T := TX2) (N := 16) hx hb hts iX4_bestPlace_X2 hown hK.1 (z_subP hP (z_inS (by decide))) 0 rfl rfl 9 (by decide) (va_Nw.use rfl (hK.2.1 _ zF_X4_148)) (fun _ h9 => h9) rfl dX4_bestPlace_80 ?_
          refine lv_iload_n hx hb dX4_bestPlace_83 rfl (lv_at hl 1 rfl) ?_
          refine lv_iload hx hb dX4_bestPlace_84 (lv_at hl 5 rfl) ?_
          obtain ⟨b10, hf⟩ := z_ckE hf
          refine va_iast hx hb hK.1 hP hD hS 29 0 rfl rfl (z_inE b10) dX4_bestPlace_86 (fun H locs hP hD hS => ?_)
          obtain ⟨X11, e11, hf⟩ := z_ltE hf
          have hP : va_P D vwCl (z_dw c b a X11) H := by rw [e11, ← z_putR1_6]; exact hP
          have hD : va_D A (z_dw c b a X11) := by rw [e11, ← z_putR1_6]; exact hD
          clear e11
          refine lv_aload_n hx hb dX4_bestPlace_87 rfl (lv_at hl 0 rfl) ?_
          refine lv_aload_n hx hb dX4_bestPlace_88 rfl (lv_at hl 0 rfl) ?_
          refine va_get (D := D) (ci := 4) (v := .ref (a 1 0)) (C := RX4) (T := TX4) (N := 7) hx hb hts iX4_bestPlace_X4 hown hK.1 hP 0 rfl rfl 2 (by decide) (hts _ qX4_bestPlace_23) (fun _ h9 => h9) rfl dX4_bestPlace_89 ?_
          refine lv_iload_n hx hb dX4_bestPlace_92 rfl (lv_at hl 2 rfl) ?_
          obtain ⟨r12, X12, h12, hf⟩ := z_b2E hf
          refine z_cVi (As := [.ref (a 1 0), .int x2]) (rest := []) (wf := (z_dw c b a)) (g := X11) (u0 := X12) ⟨hx, hb, hml, hown, hts⟩ (kX4_ticksOfRun l D c N b a H.size 1 (by decide) X11 x2 r12 X12 h12) (cwV 2 hts gX4_bestPlace_X4_ticksOfRun rfl rfl rfl (by decide +kernel) ⟨Nat.le_of_ble_eq_true rfl, Nat.le_of_ble_eq_true rfl⟩) hP hK hD hS hA (ci := 4) (q0 := 0) rfl rfl rfl rfl hl.1 (Nat.le_of_ble_eq_true rfl) rfl dX4_bestPlace_93 ⟨Nat.zero_le _, Nat.zero_le _⟩ (fun H locs hP hD hS => ?_)
          refine lv_istore (lv' := [(6, .int r12), (0, .ref (b 0)), (1, .int x1), (2, .int x2), (3, .int x3), (4, .int x4), (5, .int x5)]) hx hb dX4_bestPlace_96 hl (by decide) rfl (fun ls hl => ?_)
          refine lv_iload_n hx hb dX4_bestPlace_98 rfl (lv_at hl 4 rfl) ?_
          refine lv_iconst (v := (-1 : Int32)) hx hb dX4_bestPlace_99 (by decide) ?_
          refine lv_icmp_eq (tgt := 110) hx hb dX4_bestPlace_100 (by decide) (fun c13 => ?_) (fun c13 => ?_)
          · have hf := z_ifT hf c13
            refine lv_iload hx hb dX4_bestPlace_110 (lv_at hl 6 rfl) ?_
            refine lv_istore_n (lv' := [(3, .int x5), (6, .int r12), (0, .ref (b 0)), (1, .int x1), (2, .int x2), (4, .int x4), (5, .int x5)]) hx hb dX4_bestPlace_112 rfl hl (by decide) rfl (fun ls hl => ?_)
            refine lv_iload hx hb dX4_bestPlace_113 (lv_at hl 1 rfl) ?_
            refine lv_istore (lv' := [(4, .int r12), (3, .int x5), (6, .int r12), (0, .ref (b 0)), (1, .int x1), (2, .int x2), (5, .int x5)]) hx hb dX4_bestPlace_115 hl (by decide) rfl (fun ls hl => ?_)
            refine lv_iinc (v := (x5 + (1 : Int32))) (lv' := [(5, .int (x5 + (1 : Int32))), (4, .int r12), (3, .int x5), (6, .int r12), (0, .ref (b 0)), (1, .int x1), (2, .int x2)]) hx hb dX4_bestPlace_117 hl (k := 6) rfl rfl (by decide) rfl (fun ls hl => ?_)
            refine lv_goto (tgt := 51) hx hb dX4_bestPlace_120 (by decide) ?_
            exact ih _ _ _ _ hf H locs ls hP hD hS (lv_sub hl [4, 5, 6, 2, 1, 0] rfl)
          · have hf := z_ifF hf c13
            refine lv_iload hx hb dX4_bestPlace_103 (lv_at hl 0 rfl) ?_
            refine lv_iload hx hb dX4_bestPlace_105 (lv_at hl 5 rfl) ?_
            refine lv_icmp_ge (tgt := 117) hx hb dX4_bestPlace_107 (by decide) (fun c14 => ?_) (fun c14 => ?_)
            · have hf := z_ifT hf c14
              refine lv_iinc (v := (x5 + (1 : Int32))) (lv' := [(5, .int (x5 + (1 : Int32))), (6, .int r12), (0, .ref (b 0)), (1, .int x1), (2, .int x2), (3, .int x3), (4, .int x4)]) hx hb dX4_bestPlace_117 hl (k := 6) rfl rfl (by decide) rfl (fun ls hl => ?_)
              refine lv_goto (tgt := 51) hx hb dX4_bestPlace_120 (by decide) ?_
              exact ih _ _ _ _ hf H locs ls hP hD hS (lv_sub hl [2, 3, 4, 5, 6, 0] rfl)
            · have hf := z_ifF hf c14
              refine lv_iload hx hb dX4_bestPlace_110 (lv_at hl 6 rfl) ?_
              refine lv_istore_n (lv' := [(3, .int x5), (6, .int r12), (0, .ref (b 0)), (1, .int x1), (2, .int x2), (4, .int x4), (5, .int x5)]) hx hb dX4_bestPlace_112 rfl hl (by decide) rfl (fun ls hl => ?_)
              refine lv_iload hx hb dX4_bestPlace_113 (lv_at hl 1 rfl) ?_
              refine lv_istore (lv' := [(4, .int r12), (3, .int x5), (6, .int r12), (0, .ref (b 0)), (1, .int x1), (2, .int x2), (5, .int x5)]) hx hb dX4_bestPlace_115 hl (by decide) rfl (fun ls hl => ?_)
              refine lv_iinc (v := (x5 + (1 : Int32))) (lv' := [(5, .int (x5 + (1 : Int32))), (4, .int r12), (3, .int x5), (6, .int r12), (0, .ref (b 0)), (1, .int x1), (2, .int x2)]) hx hb dX4_bestPlace_117 hl (k := 6) rfl rfl (by decide) rfl (fun ls hl => ?_)
              refine lv_goto (tgt := 51) hx hb dX4_bestPlace_120 (by decide) ?_
              exact ih _ _ _ _ hf H locs ls hP hD hS (lv_sub hl [4, 5, 6, 2, 1, 0] rfl)
  unfold fX4_bestPlace at hf
  generalize ([] : List Loc) = locs at hS ⊢
  L
  i
  s
  t
  .
  m
  e
  m
  _
  a
  p
  p
  e
  n
  d
  _
  r
  i
  g
  h
  t
   
  _
   
  h
abbrev rmX4_leastBribe : Room := { frames := 6, cells := 1, slots := 6, locals := 112 }
theorem qX4_leastBribe_19 : Cond.fieldLink RX4 19 "ProgramDrum" "now" "LProgramDrum$State;" ∈ wsX4_leastBribe := by decide +kernel
theorem iX4_leastBribe_X4 : ∀ w ∈ wsX40, w ∈ wsX4_leastBribe := by decide +kernel
theorem qX4_leastBribe_23 : Cond.fieldLink RX4 23 "ProgramDrum" "trial" "LProgramDrum$State;" ∈ wsX4_leastBribe := by decide +kernel
theorem iX4_leastBribe_X2 : ∀ w ∈ wsX20, w ∈ wsX4_leastBribe := by decide +kernel
theorem qX4_leastBribe_k128 : Cond.classLink RX4 128 "java/lang/IndexOutOfBoundsException" ∈ wsX4_leastBribe := by decide +kernel
theorem qX4_leastBribe_x3 : Cond.initialized "java/lang/IndexOutOfBoundsException" ∈ wsX4_leastBribe := by decide +kernel
theorem xX4_leastBribe_3 : ∀ w ∈ (vx_atS RX4 132 "java/lang/IndexOutOfBoundsException" ["java/lang/RuntimeException", "java/lang/Exception"]).filter goodWord, w ∈ wsX4_leastBribe := fun w h => List.mem_cons_of_mem _ (List.mem_append_right _ h)
set_option maxRecDepth 100000 in
set_option maxHeartbeats 4000000 in
theorem kX4_leastBribe (l : Launch) (hlst : l.stackTraces = false) (D : va_G) (c : Nat → ClassId) (N : Nat) (b : Nat → Nat) (a : Nat → Nat → Nat) (sz : Nat) (X : z_X) (p1 : Int32) (r0 : Int32 ⊕ Nat) (g0 : z_X) (hf : fX4_leastBribe N p1 X = some (r0, g0)) : vx_Met l yX4_leastBribe wsX4_leastBribe rmX4_leastBribe (z_Pt D c sz (z_dw c b a X) [.ref (b 0), .int p1]) (z_Ti D (z_dw c b a) r0 g0 (va_A (z_dw c b a X) sz)) (z_Tx D (z_dw c b a) r0 g0 (va_A (z_dw c b a X) sz)) 1 6 (va_A (z_dw c b a X) sz) := by
  refine z_ofT (cc := cX4_leastBribe) (maxL := 3) (ret := (some .int)) (Qf := fun A => z_Ti D (z_dw c b a) r0 g0 A) (Xf := fun A => z_Tx D (z_dw c b a) r0 g0 A) (by decide) rfl (Nat.le_of_ble_eq_true rfl) ?_
  intro p e s m args below meth co A ls hx hb hr hml hts hown hlocks hnm hxt hA hP hK hD hE hl hsz
  have hnX := hnm
  have hl : lv_has ls 3 [(0, .ref (b 0)), (1, .int p1)] := hl
  have hown : s.vm.findClass RX4 = some m.cls := hown
  obtain ⟨H, hH⟩ : ∃ H, H = s.heap := ⟨_, rfl⟩
  have hS : va_S A s.heap H [] := by rw [hH]; exact va_S.rf
  rw [← hH] at hP ⊢
  clear hH
  have L34 : ∀ (x1 : Int32) (fu : Nat) (x2 : Int32) (X : z_X), lX4_leastBribe_34 N x1 fu x2 X = some (r0, g0) → ∀ (H : Heap) (locs : List Loc) (ls : Array Slot), va_P D vwCl (z_dw c b a X) H → va_D A (z_dw c b a X) → va_S A s.heap H locs → lv_has ls 3 [(0, .ref (b 0)), (1, .int x1), (2, .int x2)] → W p l e rmX4_leastBribe s m args below meth co H locs 0 0 (vx_MQ below (z_Ti D (z_dw c b a) r0 g0 A) (z_Tx D (z_dw c b a) r0 g0 A) args s 1 6 A) (F0 m 34 ls []) := by
    intro x1 fu
    induction fu with
    | zero =>
      intro x2 X hf
      have hf : (none : Option ((Int32 ⊕ Nat) × z_X)) = some _ := hf
      cases hf
    | succ fu ih =>
      intro x2 X hf H locs ls hP hD hS hl
      rw [lX4_leastBribe_34.eq_2] at hf
      refine lv_iload_n hx hb dX4_leastBribe_34 rfl (lv_at hl 2 rfl) ?_
      refine lv_bipush (v := (99 : Int32)) hx hb dX4_leastBribe_35 (by decide) ?_
      refine lv_icmp_gt (tgt := 78) hx hb dX4_leastBribe_37 (by decide) (fun c5 => ?_) (fun c5 => ?_)
      · have hf := z_ifT hf c5
        refine lv_iconst (v := (-1 : Int32)) hx hb dX4_leastBribe_78 (by decide) ?_
        exact z_ti (wf := (z_dw c b a)) hx hb hr hlocks hP hD hS hf dX4_leastBribe_79
      · have hf := z_ifF hf c5
        refine lv_aload_n hx hb dX4_leastBribe_40 rfl (lv_at hl 0 rfl) ?_
        refine va_get (D := D) (ci := 4) (v := .ref (a 1 0)) (C := RX4) (T := TX4) (N := 7) hx hb hts iX4_leastBribe_X4 hown hK.1 hP 0 rfl rfl 2 (by decide) (hts _ qX4_leastBribe_23) (fun _ h9 => h9) rfl dX4_leastBribe_41 ?_
        refine va_getN (D := D) (ci := 2) (v := .ref (a 1 5)) (C := RX2) (T := TX2) (N := 16) hx hb hts iX4_leastBribe_X2 hown hK.1 (z_subP hP (z_inS (by decide))) 0 rfl rfl 8 (by decide) (va_Nw.use rfl (hK.2.1 _ zF_X4_145)) (fun _ h9 => h9) rfl dX4_leastBribe_44 ?_
        refine lv_iload_n hx hb dX4_leastBribe_47 rfl (lv_at hl 1 rfl) ?_
        refine lv_iload_n hx hb dX4_leastBribe_48 rfl (lv_at hl 2 rfl) ?_
        obtain ⟨b6, hf⟩ := z_ckE hf
        refine va_iast hx hb hK.1 hP hD hS 28 0 rfl rfl (z_inE b6) dX4_leastBribe_49 (fun H locs hP hD hS => ?_)
        obtain ⟨X7, e7, hf⟩ := z_ltE hf
        have hP : va_P D vwCl (z_dw c b a X7) H := by rw [e7, ← z_putR1_5]; exact hP
        have hD : va_D A (z_dw c b a X7) := by rw [e7, ← z_putR1_5]; exact hD
        clear e7
        refine lv_aload_n hx hb dX4_leastBribe_50 rfl (lv_at hl 0 rfl) ?_
        refine va_get (D := D) (ci := 4) (v := .ref (a 1 0)) (C := RX4) (T := TX4) (N := 7) hx hb hts iX4_leastBribe_X4 hown hK.1 hP 0 rfl rfl 2 (by decide) (hts _ qX4_leastBribe_23) (fun _ h9 => h9) rfl dX4_leastBribe_51 ?_
        obtain ⟨r8, u8, h8, hf⟩ := z_b2E hf
        refine z_xVi (As := []) (rest := []) (wf := z_st c (a 1)) (g := (X7.2.2 1)) (u0 := u8) ⟨hx, hb, hml, hown, hts⟩ (kX2_layAll l D c N (a 1) H.size (X7.2.2 1)  r8 u8 h8) (cwV 0 hts gX4_leastBribe_X2_layAll rfl rfl rfl (by decide +kernel) ⟨Nat.le_of_ble_eq_true rfl, Nat.le_of_ble_eq_true rfl⟩) hP hK hD hS hA (z_cutS hD (by decide) u8) (ci := 2) (q0 := 0) rfl rfl rfl rfl hl.1 (Nat.le_of_ble_eq_true rfl) rfl dX4_leastBribe_54 ⟨Nat.zero_le _, Nat.zero_le _⟩ (fun H locs hP hD hS => ?_)
        obtain ⟨X9, e9, hf⟩ := z_ltE hf
        have hP : va_P D vwCl (z_dw c b a X9) H := by rw [e9]; exact hP
        have hD : va_D A (z_dw c b a X9) := by rw [e9]; exact hD
        clear e9
        refine lv_pop hx hb dX4_leastBribe_57 rfl ?_
        refine lv_aload_n hx hb dX4_leastBribe_58 rfl (lv_at hl 0 rfl) ?_
        refine va_get (D := D) (ci := 4) (v := .ref (a 1 0)) (C := RX4) (T := TX4) (N := 7) hx hb hts iX4_leastBribe_X4 hown hK.1 hP 0 rfl rfl 2 (by decide) (hts _ qX4_leastBribe_23) (fun _ h9 => h9) rfl dX4_leastBribe_59 ?_
        refine va_getN (D := D) (ci := 2) (v := .ref (a 1 7)) (C := RX2) (T := TX2) (N := 16) hx hb hts iX4_leastBribe_X2 hown hK.1 (z_subP hP (z_inS (by decide))) 0 rfl rfl 10 (by decide) (va_Nw.use rfl (hK.2.1 _ zF_X4_151)) (fun _ h9 => h9) rfl dX4_leastBribe_62 ?_
        refine lv_iload_n hx hb dX4_leastBribe_65 rfl (lv_at hl 1 rfl) ?_
        obtain ⟨b10, hf⟩ := z_ckE hf
        refine va_iald hx hb hK.1 (z_subP hP (z_inS (by decide))) 7 0 rfl rfl (z_inE b10) dX4_leastBribe_66 ?_
        refine lv_if_ne (tgt := 72) hx hb dX4_leastBribe_67 (by decide) (fun c11 => ?_) (fun c11 => ?_)
        · have hf := z_ifF hf c11
          refine lv_iinc (v := (x2 + (1 : Int32))) (lv' := [(2, .int (x2 + (1 : Int32))), (0, .ref (b 0)), (1, .int x1)]) hx hb dX4_leastBribe_72 hl (k := 2) rfl rfl (by decide) rfl (fun ls hl => ?_)
          refine lv_goto (tgt := 34) hx hb dX4_leastBribe_75 (by decide) ?_
          exact ih _ _ hf H locs ls hP hD hS (lv_sub hl [1, 2, 0] rfl)
        · have hf := z_ifT hf c11
          refine lv_iload_n hx hb dX4_leastBribe_70 rfl (lv_at hl 2 rfl) ?_
          exact z_ti (wf := (z_dw c b a)) hx hb hr hlocks hP hD hS hf dX4_leastBribe_71
  unfold fX4_leastBribe at hf
  generalize ([] : List Loc) = locs at hS ⊢
  L
  i
  s
  t
  .
  m
  e
  m
  _
  a
  p
  p
  e
  n
  d
  _
  r
  i
  g
  h
  t
   
  _
   
  h
abbrev rmX4_saves : Room := { frames := 7, cells := 1, slots := 6, locals := 154 }
theorem qX4_saves_19 : Cond.fieldLink RX4 19 "ProgramDrum" "now" "LProgramDrum$State;" ∈ wsX4_saves := by decide +kernel
theorem iX4_saves_X4 : ∀ w ∈ wsX40, w ∈ wsX4_saves := by decide +kernel
theorem qX4_saves_23 : Cond.fieldLink RX4 23 "ProgramDrum" "trial" "LProgramDrum$State;" ∈ wsX4_saves := by decide +kernel
theorem qX4_saves_k128 : Cond.classLink RX4 128 "java/lang/IndexOutOfBoundsException" ∈ wsX4_saves := by decide +kernel
theorem qX4_saves_x3 : Cond.initialized "java/lang/IndexOutOfBoundsException" ∈ wsX4_saves := by decide +kernel
theorem xX4_saves_3 : ∀ w ∈ (vx_atS RX4 132 "java/lang/IndexOutOfBoundsException" ["java/lang/RuntimeException", "java/lang/Exception"]).filter goodWord, w ∈ wsX4_saves := fun w h => List.mem_cons_of_mem _ (List.mem_append_right _ h)
set_option maxRecDepth 100000 in
set_option maxHeartbeats 4000000 in
theorem kX4_saves (l : Launch) (hlst : l.stackTraces = false) (D : va_G) (c : Nat → ClassId) (N : Nat) (b : Nat → Nat) (a : Nat → Nat → Nat) (sz : Nat) (X : z_X) (p1 : Int32) (r0 : Int32 ⊕ Nat) (g0 : z_X) (hf : fX4_saves N p1 X = some (r0, g0)) : vx_Met l yX4_saves wsX4_saves rmX4_saves (z_Pt D c sz (z_dw c b a X) [.ref (b 0), .int p1]) (z_Ti D (z_dw c b a) r0 g0 (va_A (z_dw c b a X) sz)) (z_Tx D (z_dw c b a) r0 g0 (va_A (z_dw c b a X) sz)) 1 6 (va_A (z_dw c b a X) sz) := by
  refine z_ofT (cc := cX4_saves) (maxL := 2) (ret := (some .int)) (Qf := fun A => z_Ti D (z_dw c b a) r0 g0 A) (Xf := fun A => z_Tx D (z_dw c b a) r0 g0 A) (by decide) rfl (Nat.le_of_ble_eq_true rfl) ?_
  intro p e s m args below meth co A ls hx hb hr hml hts hown hlocks hnm hxt hA hP hK hD hE hl hsz
  have hnX := hnm
  have hl : lv_has ls 2 [(0, .ref (b 0)), (1, .int p1)] := hl
  have hown : s.vm.findClass RX4 = some m.cls := hown
  obtain ⟨H, hH⟩ : ∃ H, H = s.heap := ⟨_, rfl⟩
  have hS : va_S A s.heap H [] := by rw [hH]; exact va_S.rf
  rw [← hH] at hP ⊢
  clear hH
  unfold fX4_saves at hf
  generalize ([] : List Loc) = locs at hS ⊢
  L
  i
  s
  t
  .
  m
  e
  m
  _
  a
  p
  p
  e
  n
  d
  _
  r
  i
  g
  h
  t
   
  _
   
  h
abbrev rmX4_runScript : Room := { frames := 9, cells := 1, slots := 6, locals := 200 }
theorem qX4_runScript_k44 : Cond.classLink RX4 44 "java/lang/IllegalArgumentException" ∈ wsX4_runScript := by decide +kernel
theorem qX4_runScript_x1 : Cond.initialized "java/lang/IllegalArgumentException" ∈ wsX4_runScript := by decide +kernel
theorem xX4_runScript_1 : ∀ w ∈ (vx_atS RX4 48 "java/lang/IllegalArgumentException" ["java/lang/RuntimeException", "java/lang/Exception"]).filter goodWord, w ∈ wsX4_runScript := fun w h => List.mem_cons_of_mem _ (List.mem_append_right _ h)
theorem qX4_runScript_263 : Cond.constantLong RX4 263 (100000) ∈ wsX4_runScript := by decide +kernel
theorem qX4_runScript_23 : Cond.fieldLink RX4 23 "ProgramDrum" "trial" "LProgramDrum$State;" ∈ wsX4_runScript := by decide +kernel
theorem iX4_runScript_X4 : ∀ w ∈ wsX40, w ∈ wsX4_runScript := by decide +kernel
theorem qX4_runScript_19 : Cond.fieldLink RX4 19 "ProgramDrum" "now" "LProgramDrum$State;" ∈ wsX4_runScript := by decide +kernel
set_option maxRecDepth 100000 in
set_option maxHeartbeats 4000000 in
theorem kX4_runScript (l : Launch) (hlst : l.stackTraces = false) (D : va_G) (c : Nat → ClassId) (N : Nat) (b : Nat → Nat) (a : Nat → Nat → Nat) (sz : Nat) (X : z_X) (p1 : Int32) (p2 : Int64) (r0 : Int32 ⊕ Nat) (g0 : z_X) (hf : fX4_runScript N p1 p2 X = some (r0, g0)) : vx_Met l yX4_runScript wsX4_runScript rmX4_runScript (z_Pt D c sz (z_dw c b a X) [.ref (b 0), .int p1, .long p2]) (z_Ti D (z_dw c b a) r0 g0 (va_A (z_dw c b a X) sz)) (z_Tx D (z_dw c b a) r0 g0 (va_A (z_dw c b a X) sz)) 1 6 (va_A (z_dw c b a X) sz) := by
  refine z_ofT (cc := cX4_runScript) (maxL := 8) (ret := (some .int)) (Qf := fun A => z_Ti D (z_dw c b a) r0 g0 A) (Xf := fun A => z_Tx D (z_dw c b a) r0 g0 A) (by decide) rfl (Nat.le_of_ble_eq_true rfl) ?_
  intro p e s m args below meth co A ls hx hb hr hml hts hown hlocks hnm hxt hA hP hK hD hE hl hsz
  have hnX := hnm
  have hl : lv_has ls 8 [(0, .ref (b 0)), (1, .int p1), (2, .long p2)] := hl
  have hown : s.vm.findClass RX4 = some m.cls := hown
  obtain ⟨H, hH⟩ : ∃ H, H = s.heap := ⟨_, rfl⟩
  have hS : va_S A s.heap H [] := by rw [hH]; exact va_S.rf
  rw [← hH] at hP ⊢
  clear hH
  have L89 : ∀ (x1 : Int32) (x2 : Int64) (fu : Nat) (x4 : Int64) (x6 : Int32) (X : z_X), lX4_runScript_89 N x1 x2 fu x4 x6 X = some (r0, g0) → ∀ (H : Heap) (locs : List Loc) (ls : Array Slot), va_P D vwCl (z_dw c b a X) H → va_D A (z_dw c b a X) → va_S A s.heap H locs → lv_has ls 8 [(0, .ref (b 0)), (1, .int x1), (2, .long x2), (4, .long x4), (6, .int x6)] → W p l e rmX4_runScript s m args below meth co H locs 0 0 (vx_MQ below (z_Ti D (z_dw c b a) r0 g0 A) (z_Tx D (z_dw c b a) r0 g0 A) args s 1 6 A) (F0 m 89 ls []) := by
    intro x1 x2 fu
    induction fu with
    | zero =>
      intro x4 x6 X hf
      have hf : (none : Option ((Int32 ⊕ Nat) × z_X)) = some _ := hf
      cases hf
    | succ fu ih =>
      intro x4 x6 X hf H locs ls hP hD hS hl
      rw [lX4_runScript_89.eq_2] at hf
      refine lv_iload hx hb dX4_runScript_89 (lv_at hl 4 rfl) ?_
      refine lv_iload_n hx hb dX4_runScript_91 rfl (lv_at hl 1 rfl) ?_
      refine lv_icmp_ge (tgt := 139) hx hb dX4_runScript_92 (by decide) (fun c9 => ?_) (fun c9 => ?_)
      · have hf := z_ifT hf c9
        refine lv_iconst (v := (-1 : Int32)) hx hb dX4_runScript_139 (by decide) ?_
        exact z_ti (wf := (z_dw c b a)) hx hb hr hlocks hP hD hS hf dX4_runScript_140
      · have hf := z_ifF hf c9
        refine lv_lload hx hb dX4_runScript_95 (lv_at hl 3 rfl) ?_
        refine lv_lconst (v := (0 : Int64)) hx hb dX4_runScript_97 (by decide) ?_
        refine W.lcmp hx hb dX4_runScript_98 ?_
        refine lv_if_le (tgt := 139) hx hb dX4_runScript_99 (by decide) (fun c10 => ?_) (fun c10 => ?_)
        · have hf := z_ifT hf c10
          refine lv_iconst (v := (-1 : Int32)) hx hb dX4_runScript_139 (by decide) ?_
          exact z_ti (wf := (z_dw c b a)) hx hb hr hlocks hP hD hS hf dX4_runScript_140
        · have hf := z_ifF hf c10
          refine lv_lload_n hx hb dX4_runScript_102 rfl (lv_at hl 2 rfl) ?_
          refine lv_lload hx hb dX4_runScript_103 (lv_at hl 3 rfl) ?_
          obtain ⟨b11, hf⟩ := z_ckE hf
          refine lv_ldiv hx hb dX4_runScript_105 (z_nzLE b11) ?_
          refine lv_ldc2 (v := (100000 : Int64)) hx hb hown (hts _ qX4_runScript_263) dX4_runScript_106 ?_
          refine lv_lrem hx hb dX4_runScript_109 (by decide) ?_
          refine lv_l2i (v := (((x2 / x4) - (x2 / x4) / (100000 : Int64) * (100000 : Int64))).toInt32) hx hb dX4_runScript_110 rfl ?_
          refine lv_istore (lv' := [(7, .int (((x2 / x4) - (x2 / x4) / (100000 : Int64) * (100000 : Int64))).toInt32), (0, .ref (b 0)), (1, .int x1), (2, .long x2), (4, .long x4), (6, .int x6)]) hx hb dX4_runScript_111 hl (by decide) rfl (fun ls hl => ?_)
          refine lv_aload_n hx hb dX4_runScript_113 rfl (lv_at hl 1 rfl) ?_
          refine lv_iload hx hb dX4_runScript_114 (lv_at hl 0 rfl) ?_
          obtain ⟨r12, X12, h12, hf⟩ := z_b2E hf
          refine z_cVi (As := [.int (((x2 / x4) - (x2 / x4) / (100000 : Int64) * (100000 : Int64))).toInt32]) (rest := []) (wf := (z_dw c b a)) (g := X) (u0 := X12) ⟨hx, hb, hml, hown, hts⟩ (kX4_succeeds l D c N b a H.size X (((x2 / x4) - (x2 / x4) / (100000 : Int64) * (100000 : Int64))).toInt32 r12 X12 h12) (cwV 1 hts gX4_runScript_X4_succeeds rfl rfl rfl (by decide +kernel) ⟨Nat.le_of_ble_eq_true rfl, Nat.le_of_ble_eq_true rfl⟩) hP hK hD hS hA (ci := 4) (q0 := 0) rfl rfl rfl rfl hl.1 (Nat.le_of_ble_eq_true rfl) rfl dX4_runScript_116 ⟨Nat.zero_le _, Nat.zero_le _⟩ (fun H locs hP hD hS => ?_)
          refine lv_if_ne (tgt := 125) hx hb dX4_runScript_119 (by decide) (fun c13 => ?_) (fun c13 => ?_)
          · have hf := z_ifF hf c13
            refine lv_lload hx hb dX4_runScript_125 (lv_at hl 4 rfl) ?_
            refine lv_ldc2 (v := (100000 : Int64)) hx hb hown (hts _ qX4_runScript_263) dX4_runScript_127 ?_
            refine lv_ldiv hx hb dX4_runScript_130 (by decide) ?_
            refine lv_lstore (lv' := [(4, .long (x4 / (100000 : Int64))), (7, .int (((x2 / x4) - (x2 / x4) / (100000 : Int64) * (100000 : Int64))).toInt32), (0, .ref (b 0)), (1, .int x1), (2, .long x2), (6, .int x6)]) hx hb dX4_runScript_131 hl (by decide) rfl (fun ls hl => ?_)
            refine lv_iinc (v := (x6 + (1 : Int32))) (lv' := [(6, .int (x6 + (1 : Int32))), (4, .long (x4 / (100000 : Int64))), (7, .int (((x2 / x4) - (x2 / x4) / (100000 : Int64) * (100000 : Int64))).toInt32), (0, .ref (b 0)), (1, .int x1), (2, .long x2)]) hx hb dX4_runScript_133 hl (k := 5) rfl rfl (by decide) rfl (fun ls hl => ?_)
            refine lv_goto (tgt := 89) hx hb dX4_runScript_136 (by decide) ?_
            exact ih _ _ _ hf H locs ls hP hD hS (lv_sub hl [3, 4, 5, 1, 0] rfl)
          · have hf := z_ifT hf c13
            refine lv_iload hx hb dX4_runScript_122 (lv_at hl 5 rfl) ?_
            exact z_ti (wf := (z_dw c b a)) hx hb hr hlocks hP hD hS hf dX4_runScript_124
  have L33 : ∀ (x1 : Int32) (x2 : Int64) (X : z_X) (fu : Nat) (x4 : Int64) (x6 : Int32), lX4_runScript_33 N x1 x2 X fu x4 x6 = some (r0, g0) → ∀ (H : Heap) (locs : List Loc) (ls : Array Slot), va_P D vwCl (z_dw c b a X) H → va_D A (z_dw c b a X) → va_S A s.heap H locs → lv_has ls 8 [(0, .ref (b 0)), (1, .int x1), (2, .long x2), (4, .long x4), (6, .int x6)] → W p l e rmX4_runScript s m args below meth co H locs 0 0 (vx_MQ below (z_Ti D (z_dw c b a) r0 g0 A) (z_Tx D (z_dw c b a) r0 g0 A) args s 1 6 A) (F0 m 33 ls []) := by
    intro x1 x2 X fu
    induction fu with
    | zero =>
      intro x4 x6 hf
      have hf : (none : Option ((Int32 ⊕ Nat) × z_X)) = some _ := hf
      cases hf
    | succ fu ih =>
      intro x4 x6 hf H locs ls hP hD hS hl
      rw [lX4_runScript_33.eq_2] at hf
      refine lv_iload hx hb dX4_runScript_33 (lv_at hl 4 rfl) ?_
      refine lv_iload_n hx hb dX4_runScript_35 rfl (lv_at hl 1 rfl) ?_
      refine lv_icmp_ge (tgt := 53) hx hb dX4_runScript_36 (by decide) (fun c4 => ?_) (fun c4 => ?_)
      · have hf := z_ifT hf c4
        refine lv_lload_n hx hb dX4_runScript_53 rfl (lv_at hl 2 rfl) ?_
        refine lv_lload hx hb dX4_runScript_54 (lv_at hl 3 rfl) ?_
        obtain ⟨b5, hf⟩ := z_ckE hf
        refine lv_ldiv hx hb dX4_runScript_56 (z_nzLE b5) ?_
        refine lv_ldc2 (v := (100000 : Int64)) hx hb hown (hts _ qX4_runScript_263) dX4_runScript_57 ?_
        refine W.lcmp hx hb dX4_runScript_60 ?_
        refine lv_if_lt (tgt := 75) hx hb dX4_runScript_61 (by decide) (fun c6 => ?_) (fun c6 => ?_)
        · have hf := z_ifT hf c6
          refine lv_aload_n hx hb dX4_runScript_75 rfl (lv_at hl 0 rfl) ?_
          refine va_get (D := D) (ci := 4) (v := .ref (a 1 0)) (C := RX4) (T := TX4) (N := 7) hx hb hts iX4_runScript_X4 hown hK.1 hP 0 rfl rfl 2 (by decide) (hts _ qX4_runScript_23) (fun _ h9 => h9) rfl dX4_runScript_76 ?_
          refine lv_aload_n hx hb dX4_runScript_79 rfl (lv_at hl 0 rfl) ?_
          refine va_get (D := D) (ci := 4) (v := .ref (a 0 0)) (C := RX4) (T := TX4) (N := 7) hx hb hts iX4_runScript_X4 hown hK.1 hP 0 rfl rfl 1 (by decide) (hts _ qX4_runScript_19) (fun _ h9 => h9) rfl dX4_runScript_80 ?_
          obtain ⟨u7, h7, hf⟩ := z_bE hf
          refine z_xVv (As := [.ref (a 0 0)]) (rest := []) (wf := fun u : z_R => z_st c (a 1) u ++ z_st c (a 0) (X.2.2 0)) (g := (X.2.2 1)) (u0 := u7) ⟨hx, hb, hml, hown, hts⟩ (kX2_copyFrom l D c N (a 1) (a 0) H.size (X.2.2 0) (X.2.2 1) u7 h7) (cwV 1 hts gX4_runScript_X2_copyFrom rfl rfl rfl (by decide +kernel) ⟨Nat.le_of_ble_eq_true rfl, Nat.le_of_ble_eq_true rfl⟩) hP hK hD hS hA (z_cutSS hD (by decide) (by decide) (by decide) u7) (ci := 2) (q0 := 0) rfl rfl rfl rfl hl.1 (Nat.le_of_ble_eq_true rfl) rfl dX4_runScript_83 ⟨Nat.zero_le _, Nat.zero_le _⟩ (fun H locs hP hD hS => ?_)
          obtain ⟨X8, e8, hf⟩ := z_ltE hf
          have hP : va_P D vwCl (z_dw c b a X8) H := by rw [e8]; exact hP
          have hD : va_D A (z_dw c b a X8) := by rw [e8]; exact hD
          clear e8
          refine lv_iconst (v := (0 : Int32)) hx hb dX4_runScript_86 (by decide) ?_
          refine lv_istore (lv' := [(6, .int (0 : Int32)), (0, .ref (b 0)), (1, .int x1), (2, .long x2), (4, .long x4)]) hx hb dX4_runScript_87 hl (by decide) rfl (fun ls hl => ?_)
          exact L89 _ _ N _ _ _ hf H locs ls hP hD hS (lv_sub hl [1, 2, 3, 4, 0] rfl)
        · have hf := z_ifF hf c6
          exact z_thrW1 (ik := 44) (is := 265) (text := "the script has too many digits") hx hb hlst hown (Or.inl trivial) (hts _ qX4_runScript_k44) (hts _ qX4_runScript_x1) (fun w h => hts w (xX4_runScript_1 w h)) hE (by decide +kernel) hP hD hS (hl.1.trans hml.symm) dX4_runScript_64 dX4_runScript_67 dX4_runScript_68 dX4_runScript_71 dX4_runScript_74 hxt hlocks (Nat.le_of_ble_eq_true rfl) (Nat.le_of_ble_eq_true rfl) (Nat.le_of_ble_eq_true rfl) (Nat.le_of_ble_eq_true rfl) rfl hf
      · have hf := z_ifF hf c4
        refine lv_lload hx hb dX4_runScript_39 (lv_at hl 3 rfl) ?_
        refine lv_ldc2 (v := (100000 : Int64)) hx hb hown (hts _ qX4_runScript_263) dX4_runScript_41 ?_
        refine lv_lmul hx hb dX4_runScript_44 ?_
        refine lv_lstore (lv' := [(4, .long (x4 * (100000 : Int64))), (0, .ref (b 0)), (1, .int x1), (2, .long x2), (6, .int x6)]) hx hb dX4_runScript_45 hl (by decide) rfl (fun ls hl => ?_)
        refine lv_iinc (v := (x6 + (1 : Int32))) (lv' := [(6, .int (x6 + (1 : Int32))), (4, .long (x4 * (100000 : Int64))), (0, .ref (b 0)), (1, .int x1), (2, .long x2)]) hx hb dX4_runScript_47 hl (k := 4) rfl rfl (by decide) rfl (fun ls hl => ?_)
        refine lv_goto (tgt := 33) hx hb dX4_runScript_50 (by decide) ?_
        exact ih _ _ hf H locs ls hP hD hS (lv_sub hl [2, 3, 4, 1, 0] rfl)
  unfold fX4_runScript at hf
  generalize ([] : List Loc) = locs at hS ⊢
  L
  i
  s
  t
  .
  m
  e
  m
  _
  a
  p
  p
  e
  n
  d
  _
  r
  i
  g
  h
  t
   
  _
   
  h
abbrev rmX4_simulate : Room := { frames := 7, cells := 1, slots := 6, locals := 154 }
theorem qX4_simulate_k44 : Cond.classLink RX4 44 "java/lang/IllegalArgumentException" ∈ wsX4_simulate := by decide +kernel
theorem qX4_simulate_x1 : Cond.initialized "java/lang/IllegalArgumentException" ∈ wsX4_simulate := by decide +kernel
theorem xX4_simulate_1 : ∀ w ∈ (vx_atS RX4 48 "java/lang/IllegalArgumentException" ["java/lang/RuntimeException", "java/lang/Exception"]).filter goodWord, w ∈ wsX4_simulate := fun w h => List.mem_cons_of_mem _ (List.mem_append_right _ h)
theorem qX4_simulate_23 : Cond.fieldLink RX4 23 "ProgramDrum" "trial" "LProgramDrum$State;" ∈ wsX4_simulate := by decide +kernel
theorem iX4_simulate_X4 : ∀ w ∈ wsX40, w ∈ wsX4_simulate := by decide +kernel
theorem qX4_simulate_19 : Cond.fieldLink RX4 19 "ProgramDrum" "now" "LProgramDrum$State;" ∈ wsX4_simulate := by decide +kernel
theorem iX4_simulate_X2 : ∀ w ∈ wsX20, w ∈ wsX4_simulate := by decide +kernel
theorem qX4_simulate_272 : Cond.constantLong RX4 272 (6364136223846793005) ∈ wsX4_simulate := by decide +kernel
theorem qX4_simulate_274 : Cond.constantLong RX4 274 (1442695040888963407) ∈ wsX4_simulate := by decide +kernel
set_option maxRecDepth 100000 in
set_option maxHeartbeats 4000000 in
theorem kX4_simulate (l : Launch) (hlst : l.stackTraces = false) (D : va_G) (c : Nat → ClassId) (N : Nat) (b : Nat → Nat) (a : Nat → Nat → Nat) (sz : Nat) (X : z_X) (p1 : Int64) (p3 : Int32) (r0 : Int32 ⊕ Nat) (g0 : z_X) (hf : fX4_simulate N p1 p3 X = some (r0, g0)) : vx_Met l yX4_simulate wsX4_simulate rmX4_simulate (z_Pt D c sz (z_dw c b a X) [.ref (b 0), .long p1, .int p3]) (z_Ti D (z_dw c b a) r0 g0 (va_A (z_dw c b a X) sz)) (z_Tx D (z_dw c b a) r0 g0 (va_A (z_dw c b a X) sz)) 1 6 (va_A (z_dw c b a X) sz) := by
  refine z_ofT (cc := cX4_simulate) (maxL := 8) (ret := (some .int)) (Qf := fun A => z_Ti D (z_dw c b a) r0 g0 A) (Xf := fun A => z_Tx D (z_dw c b a) r0 g0 A) (by decide) rfl (Nat.le_of_ble_eq_true rfl) ?_
  intro p e s m args below meth co A ls hx hb hr hml hts hown hlocks hnm hxt hA hP hK hD hE hl hsz
  have hnX := hnm
  have hl : lv_has ls 8 [(0, .ref (b 0)), (1, .long p1), (3, .int p3)] := hl
  have hown : s.vm.findClass RX4 = some m.cls := hown
  obtain ⟨H, hH⟩ : ∃ H, H = s.heap := ⟨_, rfl⟩
  have hS : va_S A s.heap H [] := by rw [hH]; exact va_S.rf
  rw [← hH] at hP ⊢
  clear hH
  have L42 : ∀ (x3 : Int32) (fu : Nat) (x4 : Int64) (x6 : Int32) (x7 : Int32) (X : z_X), lX4_simulate_42 N x3 fu x4 x6 x7 X = some (r0, g0) → ∀ (H : Heap) (locs : List Loc) (ls : Array Slot), va_P D vwCl (z_dw c b a X) H → va_D A (z_dw c b a X) → va_S A s.heap H locs → lv_has ls 8 [(0, .ref (b 0)), (3, .int x3), (4, .long x4), (6, .int x6), (7, .int x7)] → W p l e rmX4_simulate s m args below meth co H locs 0 0 (vx_MQ below (z_Ti D (z_dw c b a) r0 g0 A) (z_Tx D (z_dw c b a) r0 g0 A) args s 1 6 A) (F0 m 42 ls []) := by
    intro x3 fu
    induction fu with
    | zero =>
      intro x4 x6 x7 X hf
      have hf : (none : Option ((Int32 ⊕ Nat) × z_X)) = some _ := hf
      cases hf
    | succ fu ih =>
      intro x4 x6 x7 X hf H locs ls hP hD hS hl
      rw [lX4_simulate_42.eq_2] at hf
      refine lv_iload hx hb dX4_simulate_42 (lv_at hl 4 rfl) ?_
      refine lv_iload_n hx hb dX4_simulate_44 rfl (lv_at hl 1 rfl) ?_
      refine lv_icmp_ge (tgt := 82) hx hb dX4_simulate_45 (by decide) (fun c5 => ?_) (fun c5 => ?_)
      · have hf := z_ifT hf c5
        refine lv_aload_n hx hb dX4_simulate_82 rfl (lv_at hl 0 rfl) ?_
        refine va_get (D := D) (ci := 4) (v := .ref (a 1 0)) (C := RX4) (T := TX4) (N := 7) hx hb hts iX4_simulate_X4 hown hK.1 hP 0 rfl rfl 2 (by decide) (hts _ qX4_simulate_23) (fun _ h9 => h9) rfl dX4_simulate_83 ?_
        refine va_getN (D := D) (ci := 2) (v := .ref (a 1 11)) (C := RX2) (T := TX2) (N := 16) hx hb hts iX4_simulate_X2 hown hK.1 (z_subP hP (z_inS (by decide))) 0 rfl rfl 14 (by decide) (va_Nw.use rfl (hK.2.1 _ zF_X4_104)) (fun _ h9 => h9) rfl dX4_simulate_86 ?_
        obtain ⟨r6, h6, hf⟩ := z_bE hf
        refine z_xSi (As := [.ref (a 1 11)]) (rest := []) (wf := fun u => z_r1 c (a 1 11) 4 u) (g := (X.2.2 1 11)) (u0 := (X.2.2 1 11)) ⟨hx, hb, hml, hown, hts⟩ (kX4_sum l D c N (a 1 11) 4 H.size (X.2.2 1 11) r6 h6) (va_cwS 1 hts gX4_simulate_X4_sum rfl rfl rfl (by decide +kernel) ⟨Nat.le_of_ble_eq_true rfl, Nat.le_of_ble_eq_true rfl⟩) hP hK hD hS hA (z_cutR hD (by decide) 11 4 (X.2.2 1 11) (List.mem_of_getElem? (i := 11) rfl)) rfl hl.1 (Nat.le_of_ble_eq_true rfl) rfl dX4_simulate_89 ⟨Nat.zero_le _, Nat.zero_le _⟩ (fun H locs hP hD hS => ?_)
        refine lv_aload_n hx hb dX4_simulate_92 rfl (lv_at hl 0 rfl) ?_
        refine va_get (D := D) (ci := 4) (v := .ref (a 0 0)) (C := RX4) (T := TX4) (N := 7) hx hb hts iX4_simulate_X4 hown hK.1 hP 0 rfl rfl 1 (by decide) (hts _ qX4_simulate_19) (fun _ h9 => h9) rfl dX4_simulate_93 ?_
        refine va_getN (D := D) (ci := 2) (v := .ref (a 0 11)) (C := RX2) (T := TX2) (N := 16) hx hb hts iX4_simulate_X2 hown hK.1 (z_subP hP (z_inS (by decide))) 0 rfl rfl 14 (by decide) (va_Nw.use rfl (hK.2.1 _ zF_X4_104)) (fun _ h9 => h9) rfl dX4_simulate_96 ?_
        obtain ⟨r7, h7, hf⟩ := z_bE hf
        refine z_xSi (As := [.ref (a 0 11)]) (rest := [.int r6]) (wf := fun u => z_r1 c (a 0 11) 4 u) (g := (X.2.2 0 11)) (u0 := (X.2.2 0 11)) ⟨hx, hb, hml, hown, hts⟩ (kX4_sum l D c N (a 0 11) 4 H.size (X.2.2 0 11) r7 h7) (va_cwS 1 hts gX4_simulate_X4_sum rfl rfl rfl (by decide +kernel) ⟨Nat.le_of_ble_eq_true rfl, Nat.le_of_ble_eq_true rfl⟩) hP hK hD hS hA (z_cutR hD (by decide) 11 4 (X.2.2 0 11) (List.mem_of_getElem? (i := 11) rfl)) rfl hl.1 (Nat.le_of_ble_eq_true rfl) rfl dX4_simulate_99 ⟨Nat.zero_le _, Nat.zero_le _⟩ (fun H locs hP hD hS => ?_)
        refine lv_isub hx hb dX4_simulate_102 ?_
        refine lv_istore (lv' := [(7, .int (r6 - r7)), (0, .ref (b 0)), (3, .int x3), (4, .long x4), (6, .int x6)]) hx hb dX4_simulate_103 hl (by decide) rfl (fun ls hl => ?_)
        refine lv_sipush (v := (1000 : Int32)) hx hb dX4_simulate_105 (by decide) ?_
        refine lv_iload hx hb dX4_simulate_108 (lv_at hl 4 rfl) ?_
        refine lv_imul hx hb dX4_simulate_110 ?_
        refine lv_iload hx hb dX4_simulate_111 (lv_at hl 0 rfl) ?_
        refine lv_sipush (v := (999 : Int32)) hx hb dX4_simulate_113 (by decide) ?_
        obtain ⟨r8, h8, hf⟩ := z_bE hf
        refine z_cSi (As := [.int (r6 - r7), .int (999 : Int32)]) (rest := [.int ((1000 : Int32) * x6)]) ⟨hx, hb, hml, hown, hts⟩ (kJ9_min_7cf53 l D c N H.size (r6 - r7) (999 : Int32) r8 h8) (va_cwS 2 hts gX4_simulate_J9_min_7cf53 rfl rfl rfl (by decide +kernel) ⟨Nat.le_of_ble_eq_true rfl, Nat.le_of_ble_eq_true rfl⟩) hP hK hS hA rfl hl.1 (Nat.le_of_ble_eq_true rfl) rfl dX4_simulate_116 ⟨Nat.zero_le _, Nat.zero_le _⟩ (fun H locs hP hS => ?_)
        refine lv_iadd hx hb dX4_simulate_119 ?_
        exact z_ti (wf := (z_dw c b a)) hx hb hr hlocks hP hD hS hf dX4_simulate_120
      · have hf := z_ifF hf c5
        refine lv_lload hx hb dX4_simulate_48 (lv_at hl 2 rfl) ?_
        refine lv_ldc2 (v := (6364136223846793005 : Int64)) hx hb hown (hts _ qX4_simulate_272) dX4_simulate_50 ?_
        refine lv_lmul hx hb dX4_simulate_53 ?_
        refine lv_ldc2 (v := (1442695040888963407 : Int64)) hx hb hown (hts _ qX4_simulate_274) dX4_simulate_54 ?_
        refine lv_ladd hx hb dX4_simulate_57 ?_
        refine lv_lstore (lv' := [(4, .long ((x4 * (6364136223846793005 : Int64)) + (1442695040888963407 : Int64))), (0, .ref (b 0)), (3, .int x3), (6, .int x6), (7, .int x7)]) hx hb dX4_simulate_58 hl (by decide) rfl (fun ls hl => ?_)
        refine lv_aload_n hx hb dX4_simulate_60 rfl (lv_at hl 1 rfl) ?_
        refine lv_lload hx hb dX4_simulate_61 (lv_at hl 0 rfl) ?_
        refine lv_bipush (v := (33 : Int32)) hx hb dX4_simulate_63 (by decide) ?_
        refine lv_lushr (v := ((((x4 * (6364136223846793005 : Int64)) + (1442695040888963407 : Int64))).toUInt64 >>> (((33 : Int32)).toInt64.toUInt64 &&& Int64.toUInt64 63)).toInt64) hx hb dX4_simulate_65 rfl ?_
        refine lv_l2i (v := (((((x4 * (6364136223846793005 : Int64)) + (1442695040888963407 : Int64))).toUInt64 >>> (((33 : Int32)).toInt64.toUInt64 &&& Int64.toUInt64 63)).toInt64).toInt32) hx hb dX4_simulate_66 rfl ?_
        obtain ⟨r9, X9, h9, hf⟩ := z_b2E hf
        refine z_cVi (As := [.int (((((x4 * (6364136223846793005 : Int64)) + (1442695040888963407 : Int64))).toUInt64 >>> (((33 : Int32)).toInt64.toUInt64 &&& Int64.toUInt64 63)).toInt64).toInt32]) (rest := []) (wf := (z_dw c b a)) (g := X) (u0 := X9) ⟨hx, hb, hml, hown, hts⟩ (kX4_simulateRun l D c N b a H.size X (((((x4 * (6364136223846793005 : Int64)) + (1442695040888963407 : Int64))).toUInt64 >>> (((33 : Int32)).toInt64.toUInt64 &&& Int64.toUInt64 63)).toInt64).toInt32 r9 X9 h9) (cwV 1 hts gX4_simulate_X4_simulateRun rfl rfl rfl (by decide +kernel) ⟨Nat.le_of_ble_eq_true rfl, Nat.le_of_ble_eq_true rfl⟩) hP hK hD hS hA (ci := 4) (q0 := 0) rfl rfl rfl rfl hl.1 (Nat.le_of_ble_eq_true rfl) rfl dX4_simulate_67 ⟨Nat.zero_le _, Nat.zero_le _⟩ (fun H locs hP hD hS => ?_)
        refine lv_if_ne (tgt := 76) hx hb dX4_simulate_70 (by decide) (fun c10 => ?_) (fun c10 => ?_)
        · have hf := z_ifF hf c10
          refine lv_iinc (v := (x7 + (1 : Int32))) (lv' := [(7, .int (x7 + (1 : Int32))), (4, .long ((x4 * (6364136223846793005 : Int64)) + (1442695040888963407 : Int64))), (0, .ref (b 0)), (3, .int x3), (6, .int x6)]) hx hb dX4_simulate_76 hl (k := 4) rfl rfl (by decide) rfl (fun ls hl => ?_)
          refine lv_goto (tgt := 42) hx hb dX4_simulate_79 (by decide) ?_
          exact ih _ _ _ _ hf H locs ls hP hD hS (lv_sub hl [2, 3, 1, 4, 0] rfl)
        · have hf := z_ifT hf c10
          refine lv_iinc (v := (x6 + (1 : Int32))) (lv' := [(6, .int (x6 + (1 : Int32))), (4, .long ((x4 * (6364136223846793005 : Int64)) + (1442695040888963407 : Int64))), (0, .ref (b 0)), (3, .int x3), (7, .int x7)]) hx hb dX4_simulate_73 hl (k := 3) rfl rfl (by decide) rfl (fun ls hl => ?_)
          refine lv_iinc (v := (x7 + (1 : Int32))) (lv' := [(7, .int (x7 + (1 : Int32))), (6, .int (x6 + (1 : Int32))), (4, .long ((x4 * (6364136223846793005 : Int64)) + (1442695040888963407 : Int64))), (0, .ref (b 0)), (3, .int x3)]) hx hb dX4_simulate_76 hl (k := 4) rfl rfl (by decide) rfl (fun ls hl => ?_)
          refine lv_goto (tgt := 42) hx hb dX4_simulate_79 (by decide) ?_
          exact ih _ _ _ _ hf H locs ls hP hD hS (lv_sub hl [3, 4, 2, 1, 0] rfl)
  unfold fX4_simulate at hf
  generalize ([] : List Loc) = locs at hS ⊢
  L
  i
  s
  t
  .
  m
  e
  m
  _
  a
  p
  p
  e
  n
  d
  _
  r
  i
  g
  h
  t
   
  _
   
  h
abbrev rmX4_save : Room := { frames := 6, cells := 1, slots := 6, locals := 82 }
theorem qX4_save_36 : Cond.fieldLink RX4 36 "ProgramDrum" "slots" "[LProgramDrum$State;" ∈ wsX4_save := by decide +kernel
theorem iX4_save_X4 : ∀ w ∈ wsX40, w ∈ wsX4_save := by decide +kernel
theorem qX4_save_19 : Cond.fieldLink RX4 19 "ProgramDrum" "now" "LProgramDrum$State;" ∈ wsX4_save := by decide +kernel
theorem qX4_save_40 : Cond.fieldLink RX4 40 "ProgramDrum" "saved" "[Z" ∈ wsX4_save := by decide +kernel
theorem iX4_save_X2 : ∀ w ∈ wsX20, w ∈ wsX4_save := by decide +kernel
theorem qX4_save_k128 : Cond.classLink RX4 128 "java/lang/IndexOutOfBoundsException" ∈ wsX4_save := by decide +kernel
theorem qX4_save_x3 : Cond.initialized "java/lang/IndexOutOfBoundsException" ∈ wsX4_save := by decide +kernel
theorem xX4_save_3 : ∀ w ∈ (vx_atS RX4 132 "java/lang/IndexOutOfBoundsException" ["java/lang/RuntimeException", "java/lang/Exception"]).filter goodWord, w ∈ wsX4_save := fun w h => List.mem_cons_of_mem _ (List.mem_append_right _ h)
set_option maxRecDepth 100000 in
set_option maxHeartbeats 4000000 in
theorem kX4_save (l : Launch) (hlst : l.stackTraces = false) (D : va_G) (c : Nat → ClassId) (N : Nat) (b : Nat → Nat) (a : Nat → Nat → Nat) (sz : Nat) (X : z_X) (p1 : Int32) (r0 : Int32 ⊕ Nat) (g0 : z_X) (hf : fX4_save N p1 X = some (r0, g0)) : vx_Met l yX4_save wsX4_save rmX4_save (z_Pt D c sz (z_dw c b a X) [.ref (b 0), .int p1]) (z_Ti D (z_dw c b a) r0 g0 (va_A (z_dw c b a X) sz)) (z_Tx D (z_dw c b a) r0 g0 (va_A (z_dw c b a X) sz)) 1 6 (va_A (z_dw c b a X) sz) := by
  refine z_ofT (cc := cX4_save) (maxL := 3) (ret := (some .int)) (Qf := fun A => z_Ti D (z_dw c b a) r0 g0 A) (Xf := fun A => z_Tx D (z_dw c b a) r0 g0 A) (by decide) rfl (Nat.le_of_ble_eq_true rfl) ?_
  intro p e s m args below meth co A ls hx hb hr hml hts hown hlocks hnm hxt hA hP hK hD hE hl hsz
  have hnX := hnm
  have hl : lv_has ls 3 [(0, .ref (b 0)), (1, .int p1)] := hl
  have hown : s.vm.findClass RX4 = some m.cls := hown
  obtain ⟨H, hH⟩ : ∃ H, H = s.heap := ⟨_, rfl⟩
  have hS : va_S A s.heap H [] := by rw [hH]; exact va_S.rf
  rw [← hH] at hP ⊢
  clear hH
  unfold fX4_save at hf
  generalize ([] : List Loc) = locs at hS ⊢
  L
  i
  s
  t
  .
  m
  e
  m
  _
  a
  p
  p
  e
  n
  d
  _
  r
  i
  g
  h
  t
   
  _
   
  h
abbrev rmX4_restore : Room := { frames := 6, cells := 1, slots := 6, locals := 82 }
theorem qX4_restore_36 : Cond.fieldLink RX4 36 "ProgramDrum" "slots" "[LProgramDrum$State;" ∈ wsX4_restore := by decide +kernel
theorem iX4_restore_X4 : ∀ w ∈ wsX40, w ∈ wsX4_restore := by decide +kernel
theorem qX4_restore_40 : Cond.fieldLink RX4 40 "ProgramDrum" "saved" "[Z" ∈ wsX4_restore := by decide +kernel
theorem qX4_restore_19 : Cond.fieldLink RX4 19 "ProgramDrum" "now" "LProgramDrum$State;" ∈ wsX4_restore := by decide +kernel
theorem qX4_restore_32 : Cond.fieldLink RX4 32 "ProgramDrum" "memory" "LProgramDrum$Memory;" ∈ wsX4_restore := by decide +kernel
theorem iX4_restore_X2 : ∀ w ∈ wsX20, w ∈ wsX4_restore := by decide +kernel
theorem qX4_restore_k55 : Cond.classLink RX4 55 "java/lang/IllegalStateException" ∈ wsX4_restore := by decide +kernel
theorem qX4_restore_x2 : Cond.initialized "java/lang/IllegalStateException" ∈ wsX4_restore := by decide +kernel
theorem xX4_restore_2 : ∀ w ∈ (vx_atS RX4 59 "java/lang/IllegalStateException" ["java/lang/RuntimeException", "java/lang/Exception"]).filter goodWord, w ∈ wsX4_restore := fun w h => List.mem_cons_of_mem _ (List.mem_append_right _ h)
theorem qX4_restore_k128 : Cond.classLink RX4 128 "java/lang/IndexOutOfBoundsException" ∈ wsX4_restore := by decide +kernel
theorem qX4_restore_x3 : Cond.initialized "java/lang/IndexOutOfBoundsException" ∈ wsX4_restore := by decide +kernel
theorem xX4_restore_3 : ∀ w ∈ (vx_atS RX4 132 "java/lang/IndexOutOfBoundsException" ["java/lang/RuntimeException", "java/lang/Exception"]).filter goodWord, w ∈ wsX4_restore := fun w h => List.mem_cons_of_mem _ (List.mem_append_left _ (List.mem_append_right _ h))
set_option maxRecDepth 100000 in
set_option maxHeartbeats 4000000 in
theorem kX4_restore (l : Launch) (hlst : l.stackTraces = false) (D : va_G) (c : Nat → ClassId) (N : Nat) (b : Nat → Nat) (a : Nat → Nat → Nat) (sz : Nat) (X : z_X) (p1 : Int32) (r0 : Int32 ⊕ Nat) (g0 : z_X) (hf : fX4_restore N p1 X = some (r0, g0)) : vx_Met l yX4_restore wsX4_restore rmX4_restore (z_Pt D c sz (z_dw c b a X) [.ref (b 0), .int p1]) (z_Ti D (z_dw c b a) r0 g0 (va_A (z_dw c b a X) sz)) (z_Tx D (z_dw c b a) r0 g0 (va_A (z_dw c b a X) sz)) 1 6 (va_A (z_dw c b a X) sz) := by
  refine z_ofT (cc := cX4_restore) (maxL := 3) (ret := (some .int)) (Qf := fun A => z_Ti D (z_dw c b a) r0 g0 A) (Xf := fun A => z_Tx D (z_dw c b a) r0 g0 A) (by decide) rfl (Nat.le_of_ble_eq_true rfl) ?_
  intro p e s m args below meth co A ls hx hb hr hml hts hown hlocks hnm hxt hA hP hK hD hE hl hsz
  have hnX := hnm
  have hl : lv_has ls 3 [(0, .ref (b 0)), (1, .int p1)] := hl
  have hown : s.vm.findClass RX4 = some m.cls := hown
  obtain ⟨H, hH⟩ : ∃ H, H = s.heap := ⟨_, rfl⟩
  have hS : va_S A s.heap H [] := by rw [hH]; exact va_S.rf
  rw [← hH] at hP ⊢
  clear hH
  unfold fX4_restore at hf
  generalize ([] : List Loc) = locs at hS ⊢
  L
  i
  s
  t
  .
  m
  e
  m
  _
  a
  p
  p
  e
  n
  d
  _
  l
  e
  f
  t
   
  _
   
  (
  L
  i
  s
  t
  .
  m
  e
  m
  _
  a
  p
  p
  e
  n
  d
  _
  r
  i
  g
  h
  t
   
  _
   
  h
  )
