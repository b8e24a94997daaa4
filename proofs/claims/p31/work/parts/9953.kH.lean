abbrev rmL_low : Room := { frames := 0, cells := 0, slots := 0, locals := 0 }
theorem qL_low_9 : Cond.constant RL 9 (2147483647) ∈ wsL_low := by decide +kernel
set_option maxRecDepth 100000 in
set_option maxHeartbeats 4000000 in
theorem kL_low (l : Launch) (D : va_G) (c : Nat → ClassId) (N : Nat) (sz : Nat) (p0 : Int32) (p1 : Int32) (r0 : Int32) (hf : fL_low N p0 p1  = some r0) : Met l yL_low wsL_low rmL_low (z_Pc D c sz [] [.int p0, .int p1]) (z_Qi D (fun _ : Unit => []) r0 () (va_A [] sz)) 0 0 (va_A [] sz) := by
  refine z_ofM (cc := cL_low) (maxL := 2) (ret := (some .int)) (Qf := fun A => z_Qi D (fun _ : Unit => []) r0 () A) (plainFor_of_name (by decide)) rfl (Nat.le_of_ble_eq_true rfl) ?_
  intro p e s m args below meth co A ls hx hb hr hml hts hown hlocks hnm hA hP hK hD hl hsz
  have hl : lv_has ls 2 [(0, .int p0), (1, .int p1)] := hl
  have hown : s.vm.findClass RL = some m.cls := hown
  obtain ⟨H, hH⟩ : ∃ H, H = s.heap := ⟨_, rfl⟩
  have hS : va_S A s.heap H [] := by rw [hH]; exact va_S.rf
  rw [← hH] at hP ⊢
  clear hH
  unfold fL_low at hf
  generalize ([] : List Loc) = locs at hS ⊢
  refine lv_iload_n hx hb dL_low_0 rfl (lv_at hl 0 rfl) ?_
  refine lv_ldc (v := (2147483647 : Int32)) hx hb hown (hts _ qL_low_9) dL_low_1 ?_
  refine lv_iand hx hb dL_low_3 ?_
  refine lv_iload_n hx hb dL_low_4 rfl (lv_at hl 1 rfl) ?_
  obtain ⟨b1, hf⟩ := z_ckE hf
  refine lv_irem hx hb dL_low_5 (z_nzE b1) ?_
  exact z_rp (wf := (fun _ : Unit => [])) hx hb hr hlocks hP hD hS hf dL_low_6
abbrev rmL_copy : Room := { frames := 0, cells := 0, slots := 0, locals := 0 }
set_option maxRecDepth 100000 in
set_option maxHeartbeats 4000000 in
theorem kL_copy (l : Launch) (D : va_G) (c : Nat → ClassId) (N : Nat) (x y ln : Nat) (sz : Nat) (f : Nat → Int32) (h : (Nat → Int32)) (g0 : (Nat → Int32)) (hf : fL_copy N ln f h = some g0) : Met l yL_copy wsL_copy rmL_copy (z_Pc D c sz (z_rr c x y ln f h) [.ref x, .ref y]) (z_Qv D (fun u : Nat → Int32 => z_rr c x y ln f u) g0 (va_A (z_rr c x y ln f h) sz)) 0 0 (va_A (z_rr c x y ln f h) sz) := by
  refine z_ofM (cc := cL_copy) (maxL := 3) (ret := none) (Qf := fun A => z_Qv D (fun u : Nat → Int32 => z_rr c x y ln f u) g0 A) (plainFor_of_name (by decide)) rfl (Nat.le_of_ble_eq_true rfl) ?_
  intro p e s m args below meth co A ls hx hb hr hml hts hown hlocks hnm hA hP hK hD hl hsz
  have hl : lv_has ls 3 [(0, .ref x), (1, .ref y)] := hl
  have hown : s.vm.findClass RL = some m.cls := hown
  obtain ⟨H, hH⟩ : ∃ H, H = s.heap := ⟨_, rfl⟩
  have hS : va_S A s.heap H [] := by rw [hH]; exact va_S.rf
  rw [← hH] at hP ⊢
  clear hH
  have L2 : ∀ (fu : Nat) (x2 : Int32) (h : (Nat → Int32)), lL_copy_2 N ln f fu x2 h = some g0 → ∀ (H : Heap) (locs : List Loc) (ls : Array Slot), va_P D vwCl (z_rr c x y ln f h) H → va_D A (z_rr c x y ln f h) → va_S A s.heap H locs → lv_has ls 3 [(0, .ref x), (1, .ref y), (2, .int x2)] → W p l e rmL_copy s m args below meth co H locs 0 0 (MQ below (z_Qv D (fun u : Nat → Int32 => z_rr c x y ln f u) g0 A) args s 0 0 A) (F0 m 2 ls []) := by
    intro fu
    induction fu with
    | zero =>
      intro x2 h hf
      have hf : (none : Option ((Nat → Int32))) = some _ := hf
      cases hf
    | succ fu ih =>
      intro x2 h hf H locs ls hP hD hS hl
      rw [lL_copy_2.eq_2] at hf
      refine lv_iload_n hx hb dL_copy_2 rfl (lv_at hl 2 rfl) ?_
      refine lv_aload_n hx hb dL_copy_3 rfl (lv_at hl 0 rfl) ?_
      refine va_alen hx hb hK.1 hP 0 0 rfl rfl (v := (Int32.ofNat ln)) rfl dL_copy_4 ?_
      refine lv_icmp_ge (tgt := 20) hx hb dL_copy_5 (by decide) (fun c1 => ?_) (fun c1 => ?_)
      · have hf := z_ifT hf c1
        exact z_rv (wf := (fun u : Nat → Int32 => z_rr c x y ln f u)) hx hb hr hlocks hP hD hS hf dL_copy_20
      · have hf := z_ifF hf c1
        refine lv_aload_n hx hb dL_copy_8 rfl (lv_at hl 1 rfl) ?_
        refine lv_iload_n hx hb dL_copy_9 rfl (lv_at hl 2 rfl) ?_
        refine lv_aload_n hx hb dL_copy_10 rfl (lv_at hl 0 rfl) ?_
        refine lv_iload_n hx hb dL_copy_11 rfl (lv_at hl 2 rfl) ?_
        obtain ⟨b2, hf⟩ := z_ckE hf
        refine va_iald hx hb hK.1 hP 0 0 rfl rfl (z_inE b2) dL_copy_12 ?_
        obtain ⟨b3, hf⟩ := z_ckE hf
        refine va_iast hx hb hK.1 hP hD hS 1 0 rfl rfl (z_inE b3) dL_copy_13 (fun H locs hP hD hS => ?_)
        obtain ⟨h4, e4, hf⟩ := z_ltE hf
        have hP : va_P D vwCl (z_rr c x y ln f h4) H := by rw [e4]; exact hP
        have hD : va_D A (z_rr c x y ln f h4) := by rw [e4]; exact hD
        clear e4
        refine lv_iinc (v := (x2 + (1 : Int32))) (lv' := [(2, .int (x2 + (1 : Int32))), (0, .ref x), (1, .ref y)]) hx hb dL_copy_14 hl (k := 2) rfl rfl (by decide) rfl (fun ls hl => ?_)
        refine lv_goto (tgt := 2) hx hb dL_copy_17 (by decide) ?_
        exact ih _ _ hf H locs ls hP hD hS (lv_sub hl [1, 2, 0] rfl)
  unfold fL_copy at hf
  generalize ([] : List Loc) = locs at hS ⊢
  refine lv_iconst (v := (0 : Int32)) hx hb dL_copy_0 (by decide) ?_
  refine lv_istore_n (lv' := [(2, .int (0 : Int32)), (0, .ref x), (1, .ref y)]) hx hb dL_copy_1 rfl hl (by decide) rfl (fun ls hl => ?_)
  exact L2 N _ _ hf H locs ls hP hD hS (lv_sub hl [1, 2, 0] rfl)
abbrev rmL_cell : Room := { frames := 0, cells := 0, slots := 0, locals := 0 }
theorem qL_cell_7 : Cond.constant RL 7 (1028477379) ∈ wsL_cell := by decide +kernel
theorem qL_cell_8 : Cond.constant RL 8 (1516993665) ∈ wsL_cell := by decide +kernel
theorem kL_cell (l : Launch) (D : va_G) (N : Nat) (bS L : Nat) (xs : Nat → Int32) (sz : Nat) (p1 : Int32) (r0 : Int32) (hf : fL_cell N L xs p1 = some r0) : Met l yL_cell wsL_cell rmL_cell (z_PX bS L xs sz [.ref bS, .int p1]) (z_Qi D (fun _ : Unit => []) r0 () (va_A [] sz)) 0 0 (va_A [] sz) := by
  refine z_ofX (cc := cL_cell) (maxL := 2) (ret := (some .int)) (Qf := z_Qi D (fun _ : Unit => []) r0 () (va_A [] sz)) (plainFor_of_name (by decide)) rfl (Nat.le_of_ble_eq_true rfl) ?_
  intro p e s m args below meth co ls hx hb hr hml hts hown hlocks hX hbl hl hsz
  have hl : lv_has ls 2 [(0, .ref bS), (1, .int p1)] := hl
  have hown : s.vm.findClass RL = some m.cls := hown
  have hbA : ¬ va_A [] sz bS := fun h => by
    rcases h with ⟨k, e, h⟩ | h
    · simp at h
    · rw [← hsz] at h; exact Nat.not_le.mpr hbl h
  obtain ⟨H, hH⟩ : ∃ H, H = s.heap := ⟨_, rfl⟩
  have hS : va_S (va_A [] sz) s.heap H [] := by rw [hH]; exact va_S.rf
  rw [← hH]
  clear hH
  unfold fL_cell at hf
  generalize ([] : List Loc) = locs at hS ⊢
  refine lv_iload_n hx hb dL_cell_0 rfl (lv_at hl 1 rfl) ?_
  refine lv_aload_n hx hb dL_cell_1 rfl (lv_at hl 0 rfl) ?_
  refine va_slen hx hb hX hbl hbA hS dL_cell_2 ?_
  refine lv_icmp_ge (tgt := 12) hx hb dL_cell_3 (by decide) (fun c1 => ?_) (fun c1 => ?_)
  · have hf := z_ifT hf c1
    refine lv_ldc (v := (1028477379 : Int32)) hx hb hown (hts _ qL_cell_7) dL_cell_12 ?_
    refine lv_iload_n hx hb dL_cell_14 rfl (lv_at hl 1 rfl) ?_
    refine lv_iconst (v := (1 : Int32)) hx hb dL_cell_15 (by decide) ?_
    refine lv_iadd hx hb dL_cell_16 ?_
    refine lv_imul hx hb dL_cell_17 ?_
    refine lv_ldc (v := (1516993665 : Int32)) hx hb hown (hts _ qL_cell_8) dL_cell_18 ?_
    refine lv_iadd hx hb dL_cell_20 ?_
    exact z_rp (wf := fun _ : Unit => []) (g := ()) hx hb hr hlocks z_P0 z_D0 hS hf dL_cell_21
  · have hf := z_ifF hf c1
    refine lv_aload_n hx hb dL_cell_6 rfl (lv_at hl 0 rfl) ?_
    refine lv_iload_n hx hb dL_cell_7 rfl (lv_at hl 1 rfl) ?_
    obtain ⟨b2, hf⟩ := z_ckE hf
    refine va_sld hx hb hX hbl hbA hS (z_inE b2) dL_cell_8 ?_
    refine lv_goto (tgt := 21) hx hb dL_cell_9 (by decide) ?_
    exact z_rp (wf := fun _ : Unit => []) (g := ()) hx hb hr hlocks z_P0 z_D0 hS hf dL_cell_21
abbrev rmL_at : Room := { frames := 0, cells := 0, slots := 0, locals := 0 }
set_option maxRecDepth 100000 in
set_option maxHeartbeats 4000000 in
theorem kL_at (l : Launch) (D : va_G) (c : Nat → ClassId) (N : Nat) (a : Nat → Nat) (sz : Nat) (g : z_R) (p0 : Int32) (r0 : Int32) (hf : fL_at N p0 g = some r0) : Met l yL_at wsL_at rmL_at (z_Pc D c sz (z_q3 c a g) [.int p0, .ref (a 1)]) (z_Qi D (z_q3 c a) r0 g (va_A (z_q3 c a g) sz)) 0 0 (va_A (z_q3 c a g) sz) := by
  refine z_ofM (cc := cL_at) (maxL := 3) (ret := (some .int)) (Qf := fun A => z_Qi D (z_q3 c a) r0 g A) (plainFor_of_name (by decide)) rfl (Nat.le_of_ble_eq_true rfl) ?_
  intro p e s m args below meth co A ls hx hb hr hml hts hown hlocks hnm hA hP hK hD hl hsz
  have hl : lv_has ls 3 [(0, .int p0), (1, .ref (a 1))] := hl
  have hown : s.vm.findClass RL = some m.cls := hown
  obtain ⟨H, hH⟩ : ∃ H, H = s.heap := ⟨_, rfl⟩
  have hS : va_S A s.heap H [] := by rw [hH]; exact va_S.rf
  rw [← hH] at hP ⊢
  clear hH
  have L2 : ∀ (x0 : Int32) (g : z_R) (fu : Nat) (x2 : Int32), lL_at_2 N x0 g fu x2 = some r0 → ∀ (H : Heap) (locs : List Loc) (ls : Array Slot), va_P D vwCl (z_q3 c a g) H → va_D A (z_q3 c a g) → va_S A s.heap H locs → lv_has ls 3 [(1, .ref (a 1)), (0, .int x0), (2, .int x2)] → W p l e rmL_at s m args below meth co H locs 0 0 (MQ below (z_Qi D (z_q3 c a) r0 g A) args s 0 0 A) (F0 m 2 ls []) := by
    intro x0 g fu
    induction fu with
    | zero =>
      intro x2 hf
      have hf : (none : Option Int32) = some _ := hf
      cases hf
    | succ fu ih =>
      intro x2 hf H locs ls hP hD hS hl
      rw [lL_at_2.eq_2] at hf
      refine lv_iload_n hx hb dL_at_2 rfl (lv_at hl 2 rfl) ?_
      refine lv_bipush (v := (6 : Int32)) hx hb dL_at_3 (by decide) ?_
      refine lv_icmp_ge (tgt := 28) hx hb dL_at_5 (by decide) (fun c1 => ?_) (fun c1 => ?_)
      · have hf := z_ifT hf c1
        refine lv_iconst (v := (-1 : Int32)) hx hb dL_at_28 (by decide) ?_
        exact z_rp (wf := (z_q3 c a)) hx hb hr hlocks hP hD hS hf dL_at_29
      · have hf := z_ifF hf c1
        refine lv_aload_n hx hb dL_at_8 rfl (lv_at hl 0 rfl) ?_
        refine lv_bipush (v := (9 : Int32)) hx hb dL_at_9 (by decide) ?_
        refine lv_iload_n hx hb dL_at_11 rfl (lv_at hl 2 rfl) ?_
        refine lv_imul hx hb dL_at_12 ?_
        refine lv_iconst (v := (5 : Int32)) hx hb dL_at_13 (by decide) ?_
        refine lv_iadd hx hb dL_at_14 ?_
        obtain ⟨b2, hf⟩ := z_ckE hf
        refine va_iald hx hb hK.1 hP 1 0 rfl rfl (z_inE b2) dL_at_15 ?_
        refine lv_iload_n hx hb dL_at_16 rfl (lv_at hl 1 rfl) ?_
        refine lv_icmp_ne (tgt := 22) hx hb dL_at_17 (by decide) (fun c3 => ?_) (fun c3 => ?_)
        · have hf := z_ifF hf c3
          refine lv_iinc (v := (x2 + (1 : Int32))) (lv' := [(2, .int (x2 + (1 : Int32))), (1, .ref (a 1)), (0, .int x0)]) hx hb dL_at_22 hl (k := 2) rfl rfl (by decide) rfl (fun ls hl => ?_)
          refine lv_goto (tgt := 2) hx hb dL_at_25 (by decide) ?_
          exact ih _ hf H locs ls hP hD hS (lv_sub hl [1, 2, 0] rfl)
        · have hf := z_ifT hf c3
          refine lv_iload_n hx hb dL_at_20 rfl (lv_at hl 2 rfl) ?_
          exact z_rp (wf := (z_q3 c a)) hx hb hr hlocks hP hD hS hf dL_at_21
  unfold fL_at at hf
  generalize ([] : List Loc) = locs at hS ⊢
  refine lv_iconst (v := (0 : Int32)) hx hb dL_at_0 (by decide) ?_
  refine lv_istore_n (lv' := [(2, .int (0 : Int32)), (0, .int p0), (1, .ref (a 1))]) hx hb dL_at_1 rfl hl (by decide) rfl (fun ls hl => ?_)
  exact L2 _ _ N _ hf H locs ls hP hD hS (lv_sub hl [2, 1, 0] rfl)
abbrev rmL_refund : Room := { frames := 0, cells := 0, slots := 0, locals := 0 }
set_option maxRecDepth 100000 in
set_option maxHeartbeats 4000000 in
theorem kL_refund (l : Launch) (D : va_G) (c : Nat → ClassId) (N : Nat) (a : Nat → Nat) (sz : Nat) (g : z_R) (p0 : Int32) (g0 : z_R) (hf : fL_refund N p0 g = some g0) : Met l yL_refund wsL_refund rmL_refund (z_Pc D c sz (z_q3 c a g) [.int p0, .ref (a 0), .ref (a 1)]) (z_Qv D (z_q3 c a) g0 (va_A (z_q3 c a g) sz)) 0 0 (va_A (z_q3 c a g) sz) := by
  refine z_ofM (cc := cL_refund) (maxL := 3) (ret := none) (Qf := fun A => z_Qv D (z_q3 c a) g0 A) (plainFor_of_name (by decide)) rfl (Nat.le_of_ble_eq_true rfl) ?_
  intro p e s m args below meth co A ls hx hb hr hml hts hown hlocks hnm hA hP hK hD hl hsz
  have hl : lv_has ls 3 [(0, .int p0), (1, .ref (a 0)), (2, .ref (a 1))] := hl
  have hown : s.vm.findClass RL = some m.cls := hown
  obtain ⟨H, hH⟩ : ∃ H, H = s.heap := ⟨_, rfl⟩
  have hS : va_S A s.heap H [] := by rw [hH]; exact va_S.rf
  rw [← hH] at hP ⊢
  clear hH
  unfold fL_refund at hf
  generalize ([] : List Loc) = locs at hS ⊢
  refine lv_aload_n hx hb dL_refund_0 rfl (lv_at hl 1 rfl) ?_
  refine lv_bipush (v := (7 : Int32)) hx hb dL_refund_1 (by decide) ?_
  refine lv_aload_n hx hb dL_refund_3 rfl (lv_at hl 2 rfl) ?_
  refine lv_bipush (v := (9 : Int32)) hx hb dL_refund_4 (by decide) ?_
  refine lv_iload_n hx hb dL_refund_6 rfl (lv_at hl 0 rfl) ?_
  refine lv_imul hx hb dL_refund_7 ?_
  obtain ⟨b1, hf⟩ := z_ckE hf
  refine va_iald hx hb hK.1 hP 1 0 rfl rfl (z_inE b1) dL_refund_8 ?_
  refine lv_iadd hx hb dL_refund_9 ?_
  refine lv_dup2_11 hx hb dL_refund_10 rfl rfl ?_
  obtain ⟨b2, hf⟩ := z_ckE hf
  refine va_iald hx hb hK.1 hP 0 0 rfl rfl (z_inE b2) dL_refund_11 ?_
  refine lv_aload_n hx hb dL_refund_12 rfl (lv_at hl 2 rfl) ?_
  refine lv_bipush (v := (9 : Int32)) hx hb dL_refund_13 (by decide) ?_
  refine lv_iload_n hx hb dL_refund_15 rfl (lv_at hl 0 rfl) ?_
  refine lv_imul hx hb dL_refund_16 ?_
  refine lv_bipush (v := (7 : Int32)) hx hb dL_refund_17 (by decide) ?_
  refine lv_iadd hx hb dL_refund_19 ?_
  obtain ⟨b3, hf⟩ := z_ckE hf
  refine va_iald hx hb hK.1 hP 1 0 rfl rfl (z_inE b3) dL_refund_20 ?_
  refine lv_iadd hx hb dL_refund_21 ?_
  obtain ⟨b4, hf⟩ := z_ckE hf
  refine va_iast hx hb hK.1 hP hD hS 0 0 rfl rfl (z_inE b4) dL_refund_22 (fun H locs hP hD hS => ?_)
  obtain ⟨g5, e5, hf⟩ := z_ltE hf
  have hP : va_P D vwCl (z_q3 c a g5) H := by rw [e5]; exact hP
  have hD : va_D A (z_q3 c a g5) := by rw [e5]; exact hD
  clear e5
  refine lv_aload_n hx hb dL_refund_23 rfl (lv_at hl 2 rfl) ?_
  refine lv_bipush (v := (9 : Int32)) hx hb dL_refund_24 (by decide) ?_
  refine lv_iload_n hx hb dL_refund_26 rfl (lv_at hl 0 rfl) ?_
  refine lv_imul hx hb dL_refund_27 ?_
  refine lv_bipush (v := (7 : Int32)) hx hb dL_refund_28 (by decide) ?_
  refine lv_iadd hx hb dL_refund_30 ?_
  refine lv_iconst (v := (0 : Int32)) hx hb dL_refund_31 (by decide) ?_
  obtain ⟨b6, hf⟩ := z_ckE hf
  refine va_iast hx hb hK.1 hP hD hS 1 0 rfl rfl (z_inE b6) dL_refund_32 (fun H locs hP hD hS => ?_)
  obtain ⟨g7, e7, hf⟩ := z_ltE hf
  have hP : va_P D vwCl (z_q3 c a g7) H := by rw [e7]; exact hP
  have hD : va_D A (z_q3 c a g7) := by rw [e7]; exact hD
  clear e7
  exact z_rv (wf := (z_q3 c a)) hx hb hr hlocks hP hD hS hf dL_refund_33
abbrev rmL_wanted : Room := { frames := 0, cells := 0, slots := 0, locals := 0 }
set_option maxRecDepth 100000 in
set_option maxHeartbeats 4000000 in
theorem kL_wanted (l : Launch) (D : va_G) (c : Nat → ClassId) (N : Nat) (a : Nat → Nat) (sz : Nat) (g : z_R) (p0 : Int32) (r0 : Int32) (hf : fL_wanted N p0 g = some r0) : Met l yL_wanted wsL_wanted rmL_wanted (z_Pc D c sz (z_q3 c a g) [.int p0, .ref (a 0), .ref (a 1)]) (z_Qi D (z_q3 c a) r0 g (va_A (z_q3 c a g) sz)) 0 0 (va_A (z_q3 c a g) sz) := by
  refine z_ofM (cc := cL_wanted) (maxL := 7) (ret := (some .int)) (Qf := fun A => z_Qi D (z_q3 c a) r0 g A) (plainFor_of_name (by decide)) rfl (Nat.le_of_ble_eq_true rfl) ?_
  intro p e s m args below meth co A ls hx hb hr hml hts hown hlocks hnm hA hP hK hD hl hsz
  have hl : lv_has ls 7 [(0, .int p0), (1, .ref (a 0)), (2, .ref (a 1))] := hl
  have hown : s.vm.findClass RL = some m.cls := hown
  obtain ⟨H, hH⟩ : ∃ H, H = s.heap := ⟨_, rfl⟩
  have hS : va_S A s.heap H [] := by rw [hH]; exact va_S.rf
  rw [← hH] at hP ⊢
  clear hH
  have L133 : ∀ (g : z_R) (fu : Nat) (x4 : Int32), lL_wanted_133 N g fu x4 = some r0 → ∀ (H : Heap) (locs : List Loc) (ls : Array Slot), va_P D vwCl (z_q3 c a g) H → va_D A (z_q3 c a g) → va_S A s.heap H locs → lv_has ls 7 [(1, .ref (a 0)), (4, .int x4)] → W p l e rmL_wanted s m args below meth co H locs 0 0 (MQ below (z_Qi D (z_q3 c a) r0 g A) args s 0 0 A) (F0 m 133 ls []) := by
    intro g fu
    induction fu with
    | zero =>
      intro x4 hf
      have hf : (none : Option Int32) = some _ := hf
      cases hf
    | succ fu ih =>
      intro x4 hf H locs ls hP hD hS hl
      rw [lL_wanted_133.eq_2] at hf
      refine lv_iload hx hb dL_wanted_133 (lv_at hl 1 rfl) ?_
      refine lv_if_ge (tgt := 149) hx hb dL_wanted_135 (by decide) (fun c4 => ?_) (fun c4 => ?_)
      · have hf := z_ifT hf c4
        refine lv_iload hx hb dL_wanted_149 (lv_at hl 1 rfl) ?_
        refine lv_aload_n hx hb dL_wanted_151 rfl (lv_at hl 0 rfl) ?_
        refine lv_iconst (v := (0 : Int32)) hx hb dL_wanted_152 (by decide) ?_
        refine va_iald hx hb hK.1 hP 0 0 rfl rfl (z_inE (by decide)) dL_wanted_153 ?_
        obtain ⟨b5, hf⟩ := z_ckE hf
        refine lv_irem hx hb dL_wanted_154 (z_nzE b5) ?_
        exact z_rp (wf := (z_q3 c a)) hx hb hr hlocks hP hD hS hf dL_wanted_155
      · have hf := z_ifF hf c4
        refine lv_iload hx hb dL_wanted_138 (lv_at hl 1 rfl) ?_
        refine lv_aload_n hx hb dL_wanted_140 rfl (lv_at hl 0 rfl) ?_
        refine lv_iconst (v := (0 : Int32)) hx hb dL_wanted_141 (by decide) ?_
        refine va_iald hx hb hK.1 hP 0 0 rfl rfl (z_inE (by decide)) dL_wanted_142 ?_
        refine lv_iadd hx hb dL_wanted_143 ?_
        refine lv_istore (lv' := [(4, .int (x4 + (g 0 ((0 : Int32)).toNatClampNeg))), (1, .ref (a 0))]) hx hb dL_wanted_144 hl (by decide) rfl (fun ls hl => ?_)
        refine lv_goto (tgt := 133) hx hb dL_wanted_146 (by decide) ?_
        exact ih _ hf H locs ls hP hD hS (lv_sub hl [1, 0] rfl)
  have L61 : ∀ (x0 : Int32) (g : z_R) (fu : Nat) (x4 : Int32) (x5 : Int32) (x6 : Int32), lL_wanted_61 N x0 g fu x4 x5 x6 = some r0 → ∀ (H : Heap) (locs : List Loc) (ls : Array Slot), va_P D vwCl (z_q3 c a g) H → va_D A (z_q3 c a g) → va_S A s.heap H locs → lv_has ls 7 [(1, .ref (a 0)), (2, .ref (a 1)), (0, .int x0), (4, .int x4), (5, .int x5), (6, .int x6)] → W p l e rmL_wanted s m args below meth co H locs 0 0 (MQ below (z_Qi D (z_q3 c a) r0 g A) args s 0 0 A) (F0 m 61 ls []) := by
    intro x0 g fu
    induction fu with
    | zero =>
      intro x4 x5 x6 hf
      have hf : (none : Option Int32) = some _ := hf
      cases hf
    | succ fu ih =>
      intro x4 x5 x6 hf H locs ls hP hD hS hl
      rw [lL_wanted_61.eq_2] at hf
      refine lv_iload hx hb dL_wanted_61 (lv_at hl 5 rfl) ?_
      refine lv_bipush (v := (6 : Int32)) hx hb dL_wanted_63 (by decide) ?_
      refine lv_icmp_ge (tgt := 133) hx hb dL_wanted_65 (by decide) (fun c3 => ?_) (fun c3 => ?_)
      · have hf := z_ifT hf c3
        exact L133 _ N _ hf H locs ls hP hD hS (lv_sub hl [0, 3] rfl)
      · have hf := z_ifF hf c3
        refine lv_iload hx hb dL_wanted_68 (lv_at hl 4 rfl) ?_
        refine lv_if_ne (tgt := 127) hx hb dL_wanted_70 (by decide) (fun c6 => ?_) (fun c6 => ?_)
        · have hf := z_ifF hf c6
          refine lv_iinc (v := (x6 + (1 : Int32))) (lv' := [(6, .int (x6 + (1 : Int32))), (1, .ref (a 0)), (2, .ref (a 1)), (0, .int x0), (4, .int x4), (5, .int x5)]) hx hb dL_wanted_127 hl (k := 5) rfl rfl (by decide) rfl (fun ls hl => ?_)
          refine lv_goto (tgt := 61) hx hb dL_wanted_130 (by decide) ?_
          exact ih _ _ _ hf H locs ls hP hD hS (lv_sub hl [1, 2, 3, 4, 5, 0] rfl)
        · have hf := z_ifT hf c6
          refine lv_aload_n hx hb dL_wanted_73 rfl (lv_at hl 1 rfl) ?_
          refine lv_bipush (v := (9 : Int32)) hx hb dL_wanted_74 (by decide) ?_
          refine lv_iload hx hb dL_wanted_76 (lv_at hl 5 rfl) ?_
          refine lv_imul hx hb dL_wanted_78 ?_
          refine lv_iconst (v := (5 : Int32)) hx hb dL_wanted_79 (by decide) ?_
          refine lv_iadd hx hb dL_wanted_80 ?_
          obtain ⟨b7, hf⟩ := z_ckE hf
          refine va_iald hx hb hK.1 hP 1 0 rfl rfl (z_inE b7) dL_wanted_81 ?_
          refine lv_if_lt (tgt := 127) hx hb dL_wanted_82 (by decide) (fun c8 => ?_) (fun c8 => ?_)
          · have hf := z_ifT hf c8
            refine lv_iinc (v := (x6 + (1 : Int32))) (lv' := [(6, .int (x6 + (1 : Int32))), (1, .ref (a 0)), (2, .ref (a 1)), (0, .int x0), (4, .int x4), (5, .int x5)]) hx hb dL_wanted_127 hl (k := 5) rfl rfl (by decide) rfl (fun ls hl => ?_)
            refine lv_goto (tgt := 61) hx hb dL_wanted_130 (by decide) ?_
            exact ih _ _ _ hf H locs ls hP hD hS (lv_sub hl [1, 2, 3, 4, 5, 0] rfl)
          · have hf := z_ifF hf c8
            refine lv_aload_n hx hb dL_wanted_85 rfl (lv_at hl 1 rfl) ?_
            refine lv_bipush (v := (9 : Int32)) hx hb dL_wanted_86 (by decide) ?_
            refine lv_iload hx hb dL_wanted_88 (lv_at hl 5 rfl) ?_
            refine lv_imul hx hb dL_wanted_90 ?_
            refine lv_iconst (v := (2 : Int32)) hx hb dL_wanted_91 (by decide) ?_
            refine lv_iadd hx hb dL_wanted_92 ?_
            obtain ⟨b9, hf⟩ := z_ckE hf
            refine va_iald hx hb hK.1 hP 1 0 rfl rfl (z_inE b9) dL_wanted_93 ?_
            refine lv_iload_n hx hb dL_wanted_94 rfl (lv_at hl 2 rfl) ?_
            refine lv_icmp_eq (tgt := 101) hx hb dL_wanted_95 (by decide) (fun c10 => ?_) (fun c10 => ?_)
            · have hf := z_ifT hf c10
              refine lv_iconst (v := (1 : Int32)) hx hb dL_wanted_101 (by decide) ?_
              refine lv_istore (lv' := [(5, .int (1 : Int32)), (1, .ref (a 0)), (2, .ref (a 1)), (0, .int x0), (4, .int x4), (6, .int x6)]) hx hb dL_wanted_102 hl (by decide) rfl (fun ls hl => ?_)
              refine lv_aload_n hx hb dL_wanted_104 rfl (lv_at hl 2 rfl) ?_
              refine lv_bipush (v := (9 : Int32)) hx hb dL_wanted_105 (by decide) ?_
              refine lv_iload hx hb dL_wanted_107 (lv_at hl 5 rfl) ?_
              refine lv_imul hx hb dL_wanted_109 ?_
              refine lv_iconst (v := (5 : Int32)) hx hb dL_wanted_110 (by decide) ?_
              refine lv_iadd hx hb dL_wanted_111 ?_
              obtain ⟨b11, hf⟩ := z_ckE hf
              refine va_iald hx hb hK.1 hP 1 0 rfl rfl (z_inE b11) dL_wanted_112 ?_
              refine lv_iconst (v := (1 : Int32)) hx hb dL_wanted_113 (by decide) ?_
              refine lv_iadd hx hb dL_wanted_114 ?_
              refine lv_aload_n hx hb dL_wanted_115 rfl (lv_at hl 2 rfl) ?_
              refine lv_bipush (v := (9 : Int32)) hx hb dL_wanted_116 (by decide) ?_
              refine lv_iload hx hb dL_wanted_118 (lv_at hl 5 rfl) ?_
              refine lv_imul hx hb dL_wanted_120 ?_
              refine lv_iconst (v := (1 : Int32)) hx hb dL_wanted_121 (by decide) ?_
              refine lv_iadd hx hb dL_wanted_122 ?_
              obtain ⟨b12, hf⟩ := z_ckE hf
              refine va_iald hx hb hK.1 hP 1 0 rfl rfl (z_inE b12) dL_wanted_123 ?_
              refine lv_iadd hx hb dL_wanted_124 ?_
              refine lv_istore (lv' := [(4, .int (((g 1 ((((9 : Int32) * x6) + (5 : Int32))).toNatClampNeg) + (1 : Int32)) + (g 1 ((((9 : Int32) * x6) + (1 : Int32))).toNatClampNeg))), (5, .int (1 : Int32)), (1, .ref (a 0)), (2, .ref (a 1)), (0, .int x0), (6, .int x6)]) hx hb dL_wanted_125 hl (by decide) rfl (fun ls hl => ?_)
              refine lv_iinc (v := (x6 + (1 : Int32))) (lv' := [(6, .int (x6 + (1 : Int32))), (4, .int (((g 1 ((((9 : Int32) * x6) + (5 : Int32))).toNatClampNeg) + (1 : Int32)) + (g 1 ((((9 : Int32) * x6) + (1 : Int32))).toNatClampNeg))), (5, .int (1 : Int32)), (1, .ref (a 0)), (2, .ref (a 1)), (0, .int x0)]) hx hb dL_wanted_127 hl (k := 5) rfl rfl (by decide) rfl (fun ls hl => ?_)
              refine lv_goto (tgt := 61) hx hb dL_wanted_130 (by decide) ?_
              exact ih _ _ _ hf H locs ls hP hD hS (lv_sub hl [3, 4, 5, 1, 2, 0] rfl)
            · have hf := z_ifF hf c10
              refine lv_goto (tgt := 127) hx hb dL_wanted_98 (by decide) ?_
              refine lv_iinc (v := (x6 + (1 : Int32))) (lv' := [(6, .int (x6 + (1 : Int32))), (1, .ref (a 0)), (2, .ref (a 1)), (0, .int x0), (4, .int x4), (5, .int x5)]) hx hb dL_wanted_127 hl (k := 5) rfl rfl (by decide) rfl (fun ls hl => ?_)
              refine lv_goto (tgt := 61) hx hb dL_wanted_130 (by decide) ?_
              exact ih _ _ _ hf H locs ls hP hD hS (lv_sub hl [1, 2, 3, 4, 5, 0] rfl)
  have J52_m : ∀ (x0 : Int32) (g : z_R), jL_wanted_52 N x0 g = some r0 → ∀ (H : Heap) (locs : List Loc) (ls : Array Slot), va_P D vwCl (z_q3 c a g) H → va_D A (z_q3 c a g) → va_S A s.heap H locs → lv_has ls 7 [(1, .ref (a 0)), (2, .ref (a 1)), (0, .int x0)] → W p l e rmL_wanted s m args below meth co H locs 0 0 (MQ below (z_Qi D (z_q3 c a) r0 g A) args s 0 0 A) (F0 m 52 ls []) := by
    intro x0 g hf H locs ls hP hD hS hl
    unfold jL_wanted_52 at hf
    refine lv_iconst (v := (0 : Int32)) hx hb dL_wanted_52 (by decide) ?_
    refine lv_istore (lv' := [(4, .int (0 : Int32)), (1, .ref (a 0)), (2, .ref (a 1)), (0, .int x0)]) hx hb dL_wanted_53 hl (by decide) rfl (fun ls hl => ?_)
    refine lv_iconst (v := (0 : Int32)) hx hb dL_wanted_55 (by decide) ?_
    refine lv_istore (lv' := [(5, .int (0 : Int32)), (4, .int (0 : Int32)), (1, .ref (a 0)), (2, .ref (a 1)), (0, .int x0)]) hx hb dL_wanted_56 hl (by decide) rfl (fun ls hl => ?_)
    refine lv_iconst (v := (0 : Int32)) hx hb dL_wanted_58 (by decide) ?_
    refine lv_istore (lv' := [(6, .int (0 : Int32)), (5, .int (0 : Int32)), (4, .int (0 : Int32)), (1, .ref (a 0)), (2, .ref (a 1)), (0, .int x0)]) hx hb dL_wanted_59 hl (by decide) rfl (fun ls hl => ?_)
    exact L61 _ _ N _ _ _ hf H locs ls hP hD hS (lv_sub hl [3, 4, 5, 2, 1, 0] rfl)
  unfold fL_wanted at hf
  generalize ([] : List Loc) = locs at hS ⊢
  refine lv_aload_n hx hb dL_wanted_0 rfl (lv_at hl 2 rfl) ?_
  refine lv_bipush (v := (9 : Int32)) hx hb dL_wanted_1 (by decide) ?_
  refine lv_iload_n hx hb dL_wanted_3 rfl (lv_at hl 0 rfl) ?_
  refine lv_imul hx hb dL_wanted_4 ?_
  refine lv_iconst (v := (2 : Int32)) hx hb dL_wanted_5 (by decide) ?_
  refine lv_iadd hx hb dL_wanted_6 ?_
  obtain ⟨b1, hf⟩ := z_ckE hf
  refine va_iald hx hb hK.1 hP 1 0 rfl rfl (z_inE b1) dL_wanted_7 ?_
  refine lv_istore_n (lv' := [(3, .int (g 1 ((((9 : Int32) * p0) + (2 : Int32))).toNatClampNeg)), (0, .int p0), (1, .ref (a 0)), (2, .ref (a 1))]) hx hb dL_wanted_8 rfl hl (by decide) rfl (fun ls hl => ?_)
  refine lv_iload_n hx hb dL_wanted_9 rfl (lv_at hl 0 rfl) ?_
  refine lv_if_lt (tgt := 52) hx hb dL_wanted_10 (by decide) (fun c2 => ?_) (fun c2 => ?_)
  · have hf := z_ifT hf c2
    exact J52_m _ _ hf H locs ls hP hD hS (lv_sub hl [2, 3, 1] rfl)
  · have hf := z_ifF hf c2
    refine lv_iload_n hx hb dL_wanted_13 rfl (lv_at hl 0 rfl) ?_
    refine lv_bipush (v := (6 : Int32)) hx hb dL_wanted_14 (by decide) ?_
    refine lv_icmp_ge (tgt := 52) hx hb dL_wanted_16 (by decide) (fun c13 => ?_) (fun c13 => ?_)
    · have hf := z_ifT hf c13
      exact J52_m _ _ hf H locs ls hP hD hS (lv_sub hl [2, 3, 1] rfl)
    · have hf := z_ifF hf c13
      refine lv_aload_n hx hb dL_wanted_19 rfl (lv_at hl 3 rfl) ?_
      refine lv_bipush (v := (9 : Int32)) hx hb dL_wanted_20 (by decide) ?_
      refine lv_iload_n hx hb dL_wanted_22 rfl (lv_at hl 0 rfl) ?_
      refine lv_imul hx hb dL_wanted_23 ?_
      refine lv_iconst (v := (5 : Int32)) hx hb dL_wanted_24 (by decide) ?_
      refine lv_iadd hx hb dL_wanted_25 ?_
      obtain ⟨b14, hf⟩ := z_ckE hf
      refine va_iald hx hb hK.1 hP 1 0 rfl rfl (z_inE b14) dL_wanted_26 ?_
      refine lv_if_lt (tgt := 52) hx hb dL_wanted_27 (by decide) (fun c15 => ?_) (fun c15 => ?_)
      · have hf := z_ifT hf c15
        exact J52_m _ _ hf H locs ls hP hD hS (lv_sub hl [2, 3, 1] rfl)
      · have hf := z_ifF hf c15
        refine lv_aload_n hx hb dL_wanted_30 rfl (lv_at hl 3 rfl) ?_
        refine lv_bipush (v := (9 : Int32)) hx hb dL_wanted_31 (by decide) ?_
        refine lv_iload_n hx hb dL_wanted_33 rfl (lv_at hl 0 rfl) ?_
        refine lv_imul hx hb dL_wanted_34 ?_
        refine lv_iconst (v := (5 : Int32)) hx hb dL_wanted_35 (by decide) ?_
        refine lv_iadd hx hb dL_wanted_36 ?_
        obtain ⟨b16, hf⟩ := z_ckE hf
        refine va_iald hx hb hK.1 hP 1 0 rfl rfl (z_inE b16) dL_wanted_37 ?_
        refine lv_iconst (v := (1 : Int32)) hx hb dL_wanted_38 (by decide) ?_
        refine lv_isub hx hb dL_wanted_39 ?_
        refine lv_aload_n hx hb dL_wanted_40 rfl (lv_at hl 3 rfl) ?_
        refine lv_bipush (v := (9 : Int32)) hx hb dL_wanted_41 (by decide) ?_
        refine lv_iload_n hx hb dL_wanted_43 rfl (lv_at hl 1 rfl) ?_
        refine lv_imul hx hb dL_wanted_44 ?_
        refine lv_iconst (v := (1 : Int32)) hx hb dL_wanted_45 (by decide) ?_
        refine lv_iadd hx hb dL_wanted_46 ?_
        obtain ⟨b17, hf⟩ := z_ckE hf
        refine va_iald hx hb hK.1 hP 1 0 rfl rfl (z_inE b17) dL_wanted_47 ?_
        refine lv_isub hx hb dL_wanted_48 ?_
        refine lv_goto (tgt := 53) hx hb dL_wanted_49 (by decide) ?_
        refine lv_istore (lv' := [(4, .int (((g 1 ((((9 : Int32) * (g 1 ((((9 : Int32) * p0) + (2 : Int32))).toNatClampNeg)) + (5 : Int32))).toNatClampNeg) - (1 : Int32)) - (g 1 ((((9 : Int32) * p0) + (1 : Int32))).toNatClampNeg))), (3, .int (g 1 ((((9 : Int32) * p0) + (2 : Int32))).toNatClampNeg)), (0, .int p0), (1, .ref (a 0)), (2, .ref (a 1))]) hx hb dL_wanted_53 hl (by decide) rfl (fun ls hl => ?_)
        refine lv_iconst (v := (0 : Int32)) hx hb dL_wanted_55 (by decide) ?_
        refine lv_istore (lv' := [(5, .int (0 : Int32)), (4, .int (((g 1 ((((9 : Int32) * (g 1 ((((9 : Int32) * p0) + (2 : Int32))).toNatClampNeg)) + (5 : Int32))).toNatClampNeg) - (1 : Int32)) - (g 1 ((((9 : Int32) * p0) + (1 : Int32))).toNatClampNeg))), (3, .int (g 1 ((((9 : Int32) * p0) + (2 : Int32))).toNatClampNeg)), (0, .int p0), (1, .ref (a 0)), (2, .ref (a 1))]) hx hb dL_wanted_56 hl (by decide) rfl (fun ls hl => ?_)
        refine lv_iconst (v := (0 : Int32)) hx hb dL_wanted_58 (by decide) ?_
        refine lv_istore (lv' := [(6, .int (0 : Int32)), (5, .int (0 : Int32)), (4, .int (((g 1 ((((9 : Int32) * (g 1 ((((9 : Int32) * p0) + (2 : Int32))).toNatClampNeg)) + (5 : Int32))).toNatClampNeg) - (1 : Int32)) - (g 1 ((((9 : Int32) * p0) + (1 : Int32))).toNatClampNeg))), (3, .int (g 1 ((((9 : Int32) * p0) + (2 : Int32))).toNatClampNeg)), (0, .int p0), (1, .ref (a 0)), (2, .ref (a 1))]) hx hb dL_wanted_59 hl (by decide) rfl (fun ls hl => ?_)
        exact L61 _ _ N _ _ _ hf H locs ls hP hD hS (lv_sub hl [5, 6, 4, 2, 1, 0] rfl)
abbrev rmL_lay : Room := { frames := 1, cells := 1, slots := 6, locals := 26 }
set_option maxRecDepth 100000 in
set_option maxHeartbeats 4000000 in
theorem kL_lay (l : Launch) (D : va_G) (c : Nat → ClassId) (N : Nat) (a : Nat → Nat) (sz : Nat) (g : z_R) (r0 : Int32) (g0 : z_R) (hf : fL_lay N g = some (r0, g0)) : Met l yL_lay wsL_lay rmL_lay (z_Pc D c sz (z_q3 c a g) [.ref (a 0), .ref (a 1)]) (z_Qi D (z_q3 c a) r0 g0 (va_A (z_q3 c a g) sz)) 1 6 (va_A (z_q3 c a g) sz) := by
  refine z_ofM (cc := cL_lay) (maxL := 8) (ret := (some .int)) (Qf := fun A => z_Qi D (z_q3 c a) r0 g0 A) (plainFor_of_name (by decide)) rfl (Nat.le_of_ble_eq_true rfl) ?_
  intro p e s m args below meth co A ls hx hb hr hml hts hown hlocks hnm hA hP hK hD hl hsz
  have hl : lv_has ls 8 [(0, .ref (a 0)), (1, .ref (a 1))] := hl
  have hown : s.vm.findClass RL = some m.cls := hown
  obtain ⟨H, hH⟩ : ∃ H, H = s.heap := ⟨_, rfl⟩
  have hS : va_S A s.heap H [] := by rw [hH]; exact va_S.rf
  rw [← hH] at hP ⊢
  clear hH
  unfold fL_lay at hf
  generalize ([] : List Loc) = locs at hS ⊢
  refine lv_iconst (v := (0 : Int32)) hx hb dL_lay_0 (by decide) ?_
  refine lv_istore_n (lv' := [(2, .int (0 : Int32)), (0, .ref (a 0)), (1, .ref (a 1))]) hx hb dL_lay_1 rfl hl (by decide) rfl (fun ls hl => ?_)
  refine lv_bipush (v := (6 : Int32)) hx hb dL_lay_2 (by decide) ?_
  refine z_newI (N' := 6) hx hb (hts (.arrayClass .int) (by decide +kernel)) hK hP hD hS hA (by decide) (by decide) (Nat.le_of_ble_eq_true rfl) (Nat.le_of_ble_eq_true rfl) (Nat.le_of_ble_eq_true rfl) dL_lay_4 (fun o H hP hD hS => ?_)
  refine W.widen (k := 1) (n := 6) (by decide) (by decide) ?_
  have hP : va_P D vwCl (z_q4 c a o (g, fun _ => 0)) H := hP
  have hD : va_D A (z_q4 c a o (g, fun _ => 0)) := hD
  obtain ⟨Y1, e1, hf⟩ := z_ltE hf
  have hP : va_P D vwCl (z_q4 c a o Y1) H := by rw [e1]; exact hP
  have hD : va_D A (z_q4 c a o Y1) := by rw [e1]; exact hD
  clear e1
  have L67 : ∀ (x2 : Int32) (x4 : Int32) (Y : z_V) (k : Int32 → Option (Int32 × z_R)) (hk : ∀ (x5 : Int32), k x5 = some (r0, g0) → ∀ (H : Heap) (locs : List Loc) (ls : Array Slot), va_P D vwCl (z_q4 c a o Y) H → va_D A (z_q4 c a o Y) → va_S A s.heap H locs → lv_has ls 8 [(0, .ref (a 0)), (1, .ref (a 1)), (3, .ref o), (2, .int x2), (4, .int x4), (5, .int x5)] → W p l e rmL_lay s m args below meth co H locs 1 6 (MQ below (z_Qi D (z_q3 c a) r0 g0 A) args s 1 6 A) (F0 m 117 ls [])) (fu : Nat) (x5 : Int32) (x6 : Int32), lL_lay_67 N x2 x4 Y k fu x5 x6 = some (r0, g0) → ∀ (H : Heap) (locs : List Loc) (ls : Array Slot), va_P D vwCl (z_q4 c a o Y) H → va_D A (z_q4 c a o Y) → va_S A s.heap H locs → lv_has ls 8 [(0, .ref (a 0)), (1, .ref (a 1)), (3, .ref o), (2, .int x2), (4, .int x4), (5, .int x5), (6, .int x6)] → W p l e rmL_lay s m args below meth co H locs 1 6 (MQ below (z_Qi D (z_q3 c a) r0 g0 A) args s 1 6 A) (F0 m 67 ls []) := by
    intro x2 x4 Y k hk fu
    induction fu with
    | zero =>
      intro x5 x6 hf
      have hf : (none : Option (Int32 × z_R)) = some _ := hf
      cases hf
    | succ fu ih =>
      intro x5 x6 hf H locs ls hP hD hS hl
      rw [lL_lay_67.eq_2] at hf
      refine lv_iload hx hb dL_lay_67 (lv_at hl 6 rfl) ?_
      refine lv_bipush (v := (6 : Int32)) hx hb dL_lay_69 (by decide) ?_
      refine lv_icmp_ge (tgt := 117) hx hb dL_lay_71 (by decide) (fun c4 => ?_) (fun c4 => ?_)
      · have hf := z_ifT hf c4
        exact hk _ hf H locs ls hP hD hS (lv_sub hl [0, 1, 2, 3, 4, 5] rfl)
      · have hf := z_ifF hf c4
        refine lv_aload_n hx hb dL_lay_74 rfl (lv_at hl 2 rfl) ?_
        refine lv_iload hx hb dL_lay_75 (lv_at hl 6 rfl) ?_
        obtain ⟨b5, hf⟩ := z_ckE hf
        refine va_iald hx hb hK.1 hP 3 0 rfl rfl (z_inE b5) dL_lay_77 ?_
        refine lv_if_ne (tgt := 111) hx hb dL_lay_78 (by decide) (fun c6 => ?_) (fun c6 => ?_)
        · have hf := z_ifF hf c6
          refine lv_iinc (v := (x6 + (1 : Int32))) (lv' := [(6, .int (x6 + (1 : Int32))), (0, .ref (a 0)), (1, .ref (a 1)), (3, .ref o), (2, .int x2), (4, .int x4), (5, .int x5)]) hx hb dL_lay_111 hl (k := 6) rfl rfl (by decide) rfl (fun ls hl => ?_)
          refine lv_goto (tgt := 67) hx hb dL_lay_114 (by decide) ?_
          exact ih _ _ hf H locs ls hP hD hS (lv_sub hl [1, 2, 3, 4, 5, 6, 0] rfl)
        · have hf := z_ifT hf c6
          refine lv_iload hx hb dL_lay_81 (lv_at hl 5 rfl) ?_
          refine lv_if_lt (tgt := 107) hx hb dL_lay_83 (by decide) (fun c7 => ?_) (fun c7 => ?_)
          · have hf := z_ifT hf c7
            refine lv_iload hx hb dL_lay_107 (lv_at hl 6 rfl) ?_
            refine lv_istore (lv' := [(5, .int x6), (0, .ref (a 0)), (1, .ref (a 1)), (3, .ref o), (2, .int x2), (4, .int x4), (6, .int x6)]) hx hb dL_lay_109 hl (by decide) rfl (fun ls hl => ?_)
            refine lv_iinc (v := (x6 + (1 : Int32))) (lv' := [(6, .int (x6 + (1 : Int32))), (5, .int x6), (0, .ref (a 0)), (1, .ref (a 1)), (3, .ref o), (2, .int x2), (4, .int x4)]) hx hb dL_lay_111 hl (k := 6) rfl rfl (by decide) rfl (fun ls hl => ?_)
            refine lv_goto (tgt := 67) hx hb dL_lay_114 (by decide) ?_
            exact ih _ _ hf H locs ls hP hD hS (lv_sub hl [2, 3, 4, 5, 6, 1, 0] rfl)
          · have hf := z_ifF hf c7
            refine lv_aload_n hx hb dL_lay_86 rfl (lv_at hl 1 rfl) ?_
            refine lv_bipush (v := (9 : Int32)) hx hb dL_lay_87 (by decide) ?_
            refine lv_iload hx hb dL_lay_89 (lv_at hl 6 rfl) ?_
            refine lv_imul hx hb dL_lay_91 ?_
            refine lv_iconst (v := (4 : Int32)) hx hb dL_lay_92 (by decide) ?_
            refine lv_iadd hx hb dL_lay_93 ?_
            obtain ⟨b8, hf⟩ := z_ckE hf
            refine va_iald hx hb hK.1 hP 1 0 rfl rfl (z_inE b8) dL_lay_94 ?_
            refine lv_aload_n hx hb dL_lay_95 rfl (lv_at hl 1 rfl) ?_
            refine lv_bipush (v := (9 : Int32)) hx hb dL_lay_96 (by decide) ?_
            refine lv_iload hx hb dL_lay_98 (lv_at hl 5 rfl) ?_
            refine lv_imul hx hb dL_lay_100 ?_
            refine lv_iconst (v := (4 : Int32)) hx hb dL_lay_101 (by decide) ?_
            refine lv_iadd hx hb dL_lay_102 ?_
            obtain ⟨b9, hf⟩ := z_ckE hf
            refine va_iald hx hb hK.1 hP 1 0 rfl rfl (z_inE b9) dL_lay_103 ?_
            refine lv_icmp_le (tgt := 111) hx hb dL_lay_104 (by decide) (fun c10 => ?_) (fun c10 => ?_)
            · have hf := z_ifT hf c10
              refine lv_iinc (v := (x6 + (1 : Int32))) (lv' := [(6, .int (x6 + (1 : Int32))), (0, .ref (a 0)), (1, .ref (a 1)), (3, .ref o), (2, .int x2), (4, .int x4), (5, .int x5)]) hx hb dL_lay_111 hl (k := 6) rfl rfl (by decide) rfl (fun ls hl => ?_)
              refine lv_goto (tgt := 67) hx hb dL_lay_114 (by decide) ?_
              exact ih _ _ hf H locs ls hP hD hS (lv_sub hl [1, 2, 3, 4, 5, 6, 0] rfl)
            · have hf := z_ifF hf c10
              refine lv_iload hx hb dL_lay_107 (lv_at hl 6 rfl) ?_
              refine lv_istore (lv' := [(5, .int x6), (0, .ref (a 0)), (1, .ref (a 1)), (3, .ref o), (2, .int x2), (4, .int x4), (6, .int x6)]) hx hb dL_lay_109 hl (by decide) rfl (fun ls hl => ?_)
              refine lv_iinc (v := (x6 + (1 : Int32))) (lv' := [(6, .int (x6 + (1 : Int32))), (5, .int x6), (0, .ref (a 0)), (1, .ref (a 1)), (3, .ref o), (2, .int x2), (4, .int x4)]) hx hb dL_lay_111 hl (k := 6) rfl rfl (by decide) rfl (fun ls hl => ?_)
              refine lv_goto (tgt := 67) hx hb dL_lay_114 (by decide) ?_
              exact ih _ _ hf H locs ls hP hD hS (lv_sub hl [2, 3, 4, 5, 6, 1, 0] rfl)
  have L134 : ∀ (x2 : Int32) (x4 : Int32) (x5 : Int32) (x6 : Int32) (Y : z_V) (k : Int32 → Option (Int32 × z_R)) (hk : ∀ (x7 : Int32), k x7 = some (r0, g0) → ∀ (H : Heap) (locs : List Loc) (ls : Array Slot), va_P D vwCl (z_q4 c a o Y) H → va_D A (z_q4 c a o Y) → va_S A s.heap H locs → lv_has ls 8 [(0, .ref (a 0)), (1, .ref (a 1)), (3, .ref o), (2, .int x2), (4, .int x4), (5, .int x5), (6, .int x6), (7, .int x7)] → W p l e rmL_lay s m args below meth co H locs 1 6 (MQ below (z_Qi D (z_q3 c a) r0 g0 A) args s 1 6 A) (F0 m 164 ls [])) (fu : Nat) (x7 : Int32), lL_lay_134 N x2 x4 x5 x6 Y k fu x7 = some (r0, g0) → ∀ (H : Heap) (locs : List Loc) (ls : Array Slot), va_P D vwCl (z_q4 c a o Y) H → va_D A (z_q4 c a o Y) → va_S A s.heap H locs → lv_has ls 8 [(0, .ref (a 0)), (1, .ref (a 1)), (3, .ref o), (2, .int x2), (4, .int x4), (5, .int x5), (6, .int x6), (7, .int x7)] → W p l e rmL_lay s m args below meth co H locs 1 6 (MQ below (z_Qi D (z_q3 c a) r0 g0 A) args s 1 6 A) (F0 m 134 ls []) := by
    intro x2 x4 x5 x6 Y k hk fu
    induction fu with
    | zero =>
      intro x7 hf
      have hf : (none : Option (Int32 × z_R)) = some _ := hf
      cases hf
    | succ fu ih =>
      intro x7 hf H locs ls hP hD hS hl
      rw [lL_lay_134.eq_2] at hf
      refine lv_iload hx hb dL_lay_134 (lv_at hl 7 rfl) ?_
      refine lv_aload_n hx hb dL_lay_136 rfl (lv_at hl 0 rfl) ?_
      refine lv_iconst (v := (0 : Int32)) hx hb dL_lay_137 (by decide) ?_
      refine va_iald hx hb hK.1 hP 0 0 rfl rfl (z_inE (by decide)) dL_lay_138 ?_
      refine lv_icmp_ge (tgt := 164) hx hb dL_lay_139 (by decide) (fun c14 => ?_) (fun c14 => ?_)
      · have hf := z_ifT hf c14
        exact hk _ hf H locs ls hP hD hS (lv_sub hl [0, 1, 2, 3, 4, 5, 6, 7] rfl)
      · have hf := z_ifF hf c14
        refine lv_iload hx hb dL_lay_142 (lv_at hl 6 rfl) ?_
        refine lv_iload hx hb dL_lay_144 (lv_at hl 7 rfl) ?_
        refine lv_iadd hx hb dL_lay_146 ?_
        refine lv_aload_n hx hb dL_lay_147 rfl (lv_at hl 0 rfl) ?_
        refine lv_iconst (v := (0 : Int32)) hx hb dL_lay_148 (by decide) ?_
        refine va_iald hx hb hK.1 hP 0 0 rfl rfl (z_inE (by decide)) dL_lay_149 ?_
        obtain ⟨b15, hf⟩ := z_ckE hf
        refine lv_irem hx hb dL_lay_150 (z_nzE b15) ?_
        refine lv_aload_n hx hb dL_lay_151 rfl (lv_at hl 1 rfl) ?_
        obtain ⟨r16, h16, hf⟩ := z_bE hf
        refine z_xSi (As := [.int ((x6 + x7) - (x6 + x7) / (Y.1 0 ((0 : Int32)).toNatClampNeg) * (Y.1 0 ((0 : Int32)).toNatClampNeg)), .ref (a 1)]) (rest := []) (wf := z_q3 c a) (g := Y.1) (u0 := Y.1) (V2 := (z_q4 c a o Y)) ⟨hx, hb, hml, hown, hts⟩ (kL_at l D c N a H.size (Y.1) ((x6 + x7) - (x6 + x7) / (Y.1 0 ((0 : Int32)).toNatClampNeg) * (Y.1 0 ((0 : Int32)).toNatClampNeg)) r16 h16) (va_cwS 2 hts gL_lay_L_at rfl rfl rfl (by decide +kernel) ⟨Nat.le_of_ble_eq_true rfl, Nat.le_of_ble_eq_true rfl⟩) hP hK hD hS hA (z_cutQ4p hD) rfl hl.1 (Nat.le_of_ble_eq_true rfl) rfl dL_lay_152 ⟨Nat.le_of_ble_eq_true rfl, Nat.le_of_ble_eq_true rfl⟩ (fun H locs hP hD hS => ?_)
        refine lv_if_lt (tgt := 164) hx hb dL_lay_155 (by decide) (fun c17 => ?_) (fun c17 => ?_)
        · have hf := z_ifT hf c17
          exact hk _ hf H locs ls hP hD hS (lv_sub hl [0, 1, 2, 3, 4, 5, 6, 7] rfl)
        · have hf := z_ifF hf c17
          refine lv_iinc (v := (x7 + (1 : Int32))) (lv' := [(7, .int (x7 + (1 : Int32))), (0, .ref (a 0)), (1, .ref (a 1)), (3, .ref o), (2, .int x2), (4, .int x4), (5, .int x5), (6, .int x6)]) hx hb dL_lay_158 hl (k := 7) rfl rfl (by decide) rfl (fun ls hl => ?_)
          refine lv_goto (tgt := 134) hx hb dL_lay_161 (by decide) ?_
          exact ih _ hf H locs ls hP hD hS (lv_sub hl [1, 2, 3, 4, 5, 6, 7, 0] rfl)
  have L54 : ∀ (fu : Nat) (x2 : Int32) (x4 : Int32) (Y : z_V), lL_lay_54 N fu x2 x4 Y = some (r0, g0) → ∀ (H : Heap) (locs : List Loc) (ls : Array Slot), va_P D vwCl (z_q4 c a o Y) H → va_D A (z_q4 c a o Y) → va_S A s.heap H locs → lv_has ls 8 [(0, .ref (a 0)), (1, .ref (a 1)), (3, .ref o), (2, .int x2), (4, .int x4)] → W p l e rmL_lay s m args below meth co H locs 1 6 (MQ below (z_Qi D (z_q3 c a) r0 g0 A) args s 1 6 A) (F0 m 54 ls []) := by
    intro fu
    induction fu with
    | zero =>
      intro x2 x4 Y hf
      have hf : (none : Option (Int32 × z_R)) = some _ := hf
      cases hf
    | succ fu ih =>
      intro x2 x4 Y hf H locs ls hP hD hS hl
      have J164_54 : ∀ (x2 : Int32) (x4 : Int32) (x5 : Int32) (x6 : Int32) (x7 : Int32) (Y : z_V), jL_lay_164_54 N (lL_lay_54 N fu) x2 x4 x5 x6 x7 Y = some (r0, g0) → ∀ (H : Heap) (locs : List Loc) (ls : Array Slot), va_P D vwCl (z_q4 c a o Y) H → va_D A (z_q4 c a o Y) → va_S A s.heap H locs → lv_has ls 8 [(0, .ref (a 0)), (1, .ref (a 1)), (3, .ref o), (2, .int x2), (4, .int x4), (5, .int x5), (6, .int x6), (7, .int x7)] → W p l e rmL_lay s m args below meth co H locs 1 6 (MQ below (z_Qi D (z_q3 c a) r0 g0 A) args s 1 6 A) (F0 m 164 ls []) := by
        intro x2 x4 x5 x6 x7 Y hf H locs ls hP hD hS hl
        unfold jL_lay_164_54 at hf
        refine lv_iload hx hb dL_lay_164 (lv_at hl 7 rfl) ?_
        refine lv_aload_n hx hb dL_lay_166 rfl (lv_at hl 0 rfl) ?_
        refine lv_iconst (v := (0 : Int32)) hx hb dL_lay_167 (by decide) ?_
        refine va_iald hx hb hK.1 hP 0 0 rfl rfl (z_inE (by decide)) dL_lay_168 ?_
        refine lv_icmp_ne (tgt := 175) hx hb dL_lay_169 (by decide) (fun c18 => ?_) (fun c18 => ?_)
        · have hf := z_ifF hf c18
          refine lv_aload_n hx hb dL_lay_175 rfl (lv_at hl 1 rfl) ?_
          refine lv_bipush (v := (9 : Int32)) hx hb dL_lay_176 (by decide) ?_
          refine lv_iload hx hb dL_lay_178 (lv_at hl 5 rfl) ?_
          refine lv_imul hx hb dL_lay_180 ?_
          refine lv_iconst (v := (5 : Int32)) hx hb dL_lay_181 (by decide) ?_
          refine lv_iadd hx hb dL_lay_182 ?_
          refine lv_iload hx hb dL_lay_183 (lv_at hl 6 rfl) ?_
          refine lv_iload hx hb dL_lay_185 (lv_at hl 7 rfl) ?_
          refine lv_iadd hx hb dL_lay_187 ?_
          refine lv_aload_n hx hb dL_lay_188 rfl (lv_at hl 0 rfl) ?_
          refine lv_iconst (v := (0 : Int32)) hx hb dL_lay_189 (by decide) ?_
          refine va_iald hx hb hK.1 hP 0 0 rfl rfl (z_inE (by decide)) dL_lay_190 ?_
          obtain ⟨b19, hf⟩ := z_ckE hf
          refine lv_irem hx hb dL_lay_191 (z_nzE b19) ?_
          obtain ⟨b20, hf⟩ := z_ckE hf
          refine va_iast hx hb hK.1 hP hD hS 1 0 rfl rfl (z_inE b20) dL_lay_192 (fun H locs hP hD hS => ?_)
          obtain ⟨Y21, e21, hf⟩ := z_ltE hf
          have hP : va_P D vwCl (z_q4 c a o Y21) H := by rw [e21]; exact hP
          have hD : va_D A (z_q4 c a o Y21) := by rw [e21]; exact hD
          clear e21
          refine lv_aload_n hx hb dL_lay_193 rfl (lv_at hl 1 rfl) ?_
          refine lv_bipush (v := (9 : Int32)) hx hb dL_lay_194 (by decide) ?_
          refine lv_iload hx hb dL_lay_196 (lv_at hl 5 rfl) ?_
          refine lv_imul hx hb dL_lay_198 ?_
          refine lv_bipush (v := (6 : Int32)) hx hb dL_lay_199 (by decide) ?_
          refine lv_iadd hx hb dL_lay_201 ?_
          refine lv_iload hx hb dL_lay_202 (lv_at hl 7 rfl) ?_
          obtain ⟨b22, hf⟩ := z_ckE hf
          refine va_iast hx hb hK.1 hP hD hS 1 0 rfl rfl (z_inE b22) dL_lay_204 (fun H locs hP hD hS => ?_)
          obtain ⟨Y23, e23, hf⟩ := z_ltE hf
          have hP : va_P D vwCl (z_q4 c a o Y23) H := by rw [e23]; exact hP
          have hD : va_D A (z_q4 c a o Y23) := by rw [e23]; exact hD
          clear e23
          refine lv_aload_n hx hb dL_lay_205 rfl (lv_at hl 1 rfl) ?_
          refine lv_bipush (v := (9 : Int32)) hx hb dL_lay_206 (by decide) ?_
          refine lv_iload hx hb dL_lay_208 (lv_at hl 5 rfl) ?_
          refine lv_imul hx hb dL_lay_210 ?_
          refine lv_bipush (v := (7 : Int32)) hx hb dL_lay_211 (by decide) ?_
          refine lv_iadd hx hb dL_lay_213 ?_
          refine lv_aload_n hx hb dL_lay_214 rfl (lv_at hl 1 rfl) ?_
          refine lv_bipush (v := (9 : Int32)) hx hb dL_lay_215 (by decide) ?_
          refine lv_iload hx hb dL_lay_217 (lv_at hl 5 rfl) ?_
          refine lv_imul hx hb dL_lay_219 ?_
          refine lv_iconst (v := (4 : Int32)) hx hb dL_lay_220 (by decide) ?_
          refine lv_iadd hx hb dL_lay_221 ?_
          obtain ⟨b24, hf⟩ := z_ckE hf
          refine va_iald hx hb hK.1 hP 1 0 rfl rfl (z_inE b24) dL_lay_222 ?_
          obtain ⟨b25, hf⟩ := z_ckE hf
          refine va_iast hx hb hK.1 hP hD hS 1 0 rfl rfl (z_inE b25) dL_lay_223 (fun H locs hP hD hS => ?_)
          obtain ⟨Y26, e26, hf⟩ := z_ltE hf
          have hP : va_P D vwCl (z_q4 c a o Y26) H := by rw [e26]; exact hP
          have hD : va_D A (z_q4 c a o Y26) := by rw [e26]; exact hD
          clear e26
          refine lv_aload_n hx hb dL_lay_224 rfl (lv_at hl 0 rfl) ?_
          refine lv_iconst (v := (3 : Int32)) hx hb dL_lay_225 (by decide) ?_
          refine lv_aload_n hx hb dL_lay_226 rfl (lv_at hl 1 rfl) ?_
          refine lv_bipush (v := (9 : Int32)) hx hb dL_lay_227 (by decide) ?_
          refine lv_iload hx hb dL_lay_229 (lv_at hl 5 rfl) ?_
          refine lv_imul hx hb dL_lay_231 ?_
          obtain ⟨b27, hf⟩ := z_ckE hf
          refine va_iald hx hb hK.1 hP 1 0 rfl rfl (z_inE b27) dL_lay_232 ?_
          refine lv_iadd hx hb dL_lay_233 ?_
          refine lv_dup2_11 hx hb dL_lay_234 rfl rfl ?_
          obtain ⟨b28, hf⟩ := z_ckE hf
          refine va_iald hx hb hK.1 hP 0 0 rfl rfl (z_inE b28) dL_lay_235 ?_
          refine lv_aload_n hx hb dL_lay_236 rfl (lv_at hl 1 rfl) ?_
          refine lv_bipush (v := (9 : Int32)) hx hb dL_lay_237 (by decide) ?_
          refine lv_iload hx hb dL_lay_239 (lv_at hl 5 rfl) ?_
          refine lv_imul hx hb dL_lay_241 ?_
          refine lv_iconst (v := (4 : Int32)) hx hb dL_lay_242 (by decide) ?_
          refine lv_iadd hx hb dL_lay_243 ?_
          obtain ⟨b29, hf⟩ := z_ckE hf
          refine va_iald hx hb hK.1 hP 1 0 rfl rfl (z_inE b29) dL_lay_244 ?_
          refine lv_iadd hx hb dL_lay_245 ?_
          obtain ⟨b30, hf⟩ := z_ckE hf
          refine va_iast hx hb hK.1 hP hD hS 0 0 rfl rfl (z_inE b30) dL_lay_246 (fun H locs hP hD hS => ?_)
          obtain ⟨Y31, e31, hf⟩ := z_ltE hf
          have hP : va_P D vwCl (z_q4 c a o Y31) H := by rw [e31]; exact hP
          have hD : va_D A (z_q4 c a o Y31) := by rw [e31]; exact hD
          clear e31
          refine lv_iload_n hx hb dL_lay_247 rfl (lv_at hl 3 rfl) ?_
          refine lv_iload hx hb dL_lay_248 (lv_at hl 7 rfl) ?_
          refine lv_iadd hx hb dL_lay_250 ?_
          refine lv_istore_n (lv' := [(2, .int (x2 + x7)), (0, .ref (a 0)), (1, .ref (a 1)), (3, .ref o), (4, .int x4), (5, .int x5), (6, .int x6), (7, .int x7)]) hx hb dL_lay_251 rfl hl (by decide) rfl (fun ls hl => ?_)
          refine lv_iinc (v := (x4 + (1 : Int32))) (lv' := [(4, .int (x4 + (1 : Int32))), (2, .int (x2 + x7)), (0, .ref (a 0)), (1, .ref (a 1)), (3, .ref o), (5, .int x5), (6, .int x6), (7, .int x7)]) hx hb dL_lay_252 hl (k := 4) rfl rfl (by decide) rfl (fun ls hl => ?_)
          refine lv_goto (tgt := 54) hx hb dL_lay_255 (by decide) ?_
          exact ih _ _ _ hf H locs ls hP hD hS (lv_sub hl [2, 3, 4, 1, 0] rfl)
        · have hf := z_ifT hf c18
          refine lv_goto (tgt := 252) hx hb dL_lay_172 (by decide) ?_
          refine lv_iinc (v := (x4 + (1 : Int32))) (lv' := [(4, .int (x4 + (1 : Int32))), (0, .ref (a 0)), (1, .ref (a 1)), (3, .ref o), (2, .int x2), (5, .int x5), (6, .int x6), (7, .int x7)]) hx hb dL_lay_252 hl (k := 4) rfl rfl (by decide) rfl (fun ls hl => ?_)
          refine lv_goto (tgt := 54) hx hb dL_lay_255 (by decide) ?_
          exact ih _ _ _ hf H locs ls hP hD hS (lv_sub hl [1, 2, 3, 4, 0] rfl)
      rw [lL_lay_54.eq_2] at hf
      refine lv_iload hx hb dL_lay_54 (lv_at hl 4 rfl) ?_
      refine lv_bipush (v := (6 : Int32)) hx hb dL_lay_56 (by decide) ?_
      refine lv_icmp_ge (tgt := 258) hx hb dL_lay_58 (by decide) (fun c3 => ?_) (fun c3 => ?_)
      · have hf := z_ifT hf c3
        refine lv_iload_n hx hb dL_lay_258 rfl (lv_at hl 3 rfl) ?_
        exact z_yi (wf := z_q3 c a) (g := Y.1) hx hb hr hlocks (z_subP hP z_in43) (z_subD hD z_in43 (z_cutQ4p hD).2.1) hS hf (by decide) (by decide) dL_lay_259
      · have hf := z_ifF hf c3
        refine lv_iconst (v := (-1 : Int32)) hx hb dL_lay_61 (by decide) ?_
        refine lv_istore (lv' := [(5, .int (-1 : Int32)), (0, .ref (a 0)), (1, .ref (a 1)), (3, .ref o), (2, .int x2), (4, .int x4)]) hx hb dL_lay_62 hl (by decide) rfl (fun ls hl => ?_)
        refine lv_iconst (v := (0 : Int32)) hx hb dL_lay_64 (by decide) ?_
        refine lv_istore (lv' := [(6, .int (0 : Int32)), (5, .int (-1 : Int32)), (0, .ref (a 0)), (1, .ref (a 1)), (3, .ref o), (2, .int x2), (4, .int x4)]) hx hb dL_lay_65 hl (by decide) rfl (fun ls hl => ?_)
        refine L67 _ _ _ _ (fun x5_67 hf H locs ls hP hD hS hl => ?_) N _ _ hf H locs ls hP hD hS (lv_sub hl [2, 3, 4, 5, 6, 1, 0] rfl)
        refine lv_aload_n hx hb dL_lay_117 rfl (lv_at hl 2 rfl) ?_
        refine lv_iload hx hb dL_lay_118 (lv_at hl 5 rfl) ?_
        refine lv_iconst (v := (1 : Int32)) hx hb dL_lay_120 (by decide) ?_
        obtain ⟨b11, hf⟩ := z_ckE hf
        refine va_iast hx hb hK.1 hP hD hS 3 0 rfl rfl (z_inE b11) dL_lay_121 (fun H locs hP hD hS => ?_)
        obtain ⟨Y12, e12, hf⟩ := z_ltE hf
        have hP : va_P D vwCl (z_q4 c a o Y12) H := by rw [e12]; exact hP
        have hD : va_D A (z_q4 c a o Y12) := by rw [e12]; exact hD
        clear e12
        refine lv_iload hx hb dL_lay_122 (lv_at hl 5 rfl) ?_
        refine lv_aload_n hx hb dL_lay_124 rfl (lv_at hl 0 rfl) ?_
        refine lv_aload_n hx hb dL_lay_125 rfl (lv_at hl 1 rfl) ?_
        obtain ⟨r13, h13, hf⟩ := z_bE hf
        refine z_xSi (As := [.int x5_67, .ref (a 0), .ref (a 1)]) (rest := []) (wf := z_q3 c a) (g := Y12.1) (u0 := Y12.1) (V2 := (z_q4 c a o Y12)) ⟨hx, hb, hml, hown, hts⟩ (kL_wanted l D c N a H.size (Y12.1) x5_67 r13 h13) (va_cwS 3 hts gL_lay_L_wanted rfl rfl rfl (by decide +kernel) ⟨Nat.le_of_ble_eq_true rfl, Nat.le_of_ble_eq_true rfl⟩) hP hK hD hS hA (z_cutQ4p hD) rfl hl.1 (Nat.le_of_ble_eq_true rfl) rfl dL_lay_126 ⟨Nat.le_of_ble_eq_true rfl, Nat.le_of_ble_eq_true rfl⟩ (fun H locs hP hD hS => ?_)
        refine lv_istore (lv' := [(6, .int r13), (0, .ref (a 0)), (1, .ref (a 1)), (3, .ref o), (2, .int x2), (4, .int x4), (5, .int x5_67)]) hx hb dL_lay_129 hl (by decide) rfl (fun ls hl => ?_)
        refine lv_iconst (v := (0 : Int32)) hx hb dL_lay_131 (by decide) ?_
        refine lv_istore (lv' := [(7, .int (0 : Int32)), (6, .int r13), (0, .ref (a 0)), (1, .ref (a 1)), (3, .ref o), (2, .int x2), (4, .int x4), (5, .int x5_67)]) hx hb dL_lay_132 hl (by decide) rfl (fun ls hl => ?_)
        refine L134 _ _ _ _ _ _ (fun x7_134 hf H locs ls hP hD hS hl => ?_) N _ hf H locs ls hP hD hS (lv_sub hl [2, 3, 4, 5, 6, 7, 1, 0] rfl)
        exact J164_54 _ _ _ _ _ _ hf H locs ls hP hD hS (lv_sub hl [0, 1, 2, 3, 4, 5, 6, 7] rfl)
  have L10 : ∀ (x2 : Int32) (fu : Nat) (x4 : Int32) (Y : z_V), lL_lay_10 N x2 fu x4 Y = some (r0, g0) → ∀ (H : Heap) (locs : List Loc) (ls : Array Slot), va_P D vwCl (z_q4 c a o Y) H → va_D A (z_q4 c a o Y) → va_S A s.heap H locs → lv_has ls 8 [(0, .ref (a 0)), (1, .ref (a 1)), (3, .ref o), (2, .int x2), (4, .int x4)] → W p l e rmL_lay s m args below meth co H locs 1 6 (MQ below (z_Qi D (z_q3 c a) r0 g0 A) args s 1 6 A) (F0 m 10 ls []) := by
    intro x2 fu
    induction fu with
    | zero =>
      intro x4 Y hf
      have hf : (none : Option (Int32 × z_R)) = some _ := hf
      cases hf
    | succ fu ih =>
      intro x4 Y hf H locs ls hP hD hS hl
      rw [lL_lay_10.eq_2] at hf
      refine lv_iload hx hb dL_lay_10 (lv_at hl 4 rfl) ?_
      refine lv_bipush (v := (6 : Int32)) hx hb dL_lay_12 (by decide) ?_
      refine lv_icmp_ge (tgt := 51) hx hb dL_lay_14 (by decide) (fun c2 => ?_) (fun c2 => ?_)
      · have hf := z_ifT hf c2
        refine lv_iconst (v := (0 : Int32)) hx hb dL_lay_51 (by decide) ?_
        refine lv_istore (lv' := [(4, .int (0 : Int32)), (0, .ref (a 0)), (1, .ref (a 1)), (3, .ref o), (2, .int x2)]) hx hb dL_lay_52 hl (by decide) rfl (fun ls hl => ?_)
        exact L54 N _ _ _ hf H locs ls hP hD hS (lv_sub hl [1, 2, 3, 4, 0] rfl)
      · have hf := z_ifF hf c2
        refine lv_iload hx hb dL_lay_17 (lv_at hl 4 rfl) ?_
        refine lv_aload_n hx hb dL_lay_19 rfl (lv_at hl 0 rfl) ?_
        refine lv_aload_n hx hb dL_lay_20 rfl (lv_at hl 1 rfl) ?_
        obtain ⟨u32, h32, hf⟩ := z_bE hf
        refine z_xSv (As := [.int x4, .ref (a 0), .ref (a 1)]) (rest := []) (wf := z_q3 c a) (g := Y.1) (u0 := u32) ⟨hx, hb, hml, hown, hts⟩ (kL_refund l D c N a H.size (Y.1) x4 u32 h32) (va_cwS 3 hts gL_lay_L_refund rfl rfl rfl (by decide +kernel) ⟨Nat.le_of_ble_eq_true rfl, Nat.le_of_ble_eq_true rfl⟩) hP hK hD hS hA (z_cutQ4 hD u32) rfl hl.1 (Nat.le_of_ble_eq_true rfl) rfl dL_lay_21 ⟨Nat.le_of_ble_eq_true rfl, Nat.le_of_ble_eq_true rfl⟩ (fun H locs hP hD hS => ?_)
        obtain ⟨Y33, e33, hf⟩ := z_ltE hf
        have hP : va_P D vwCl (z_q4 c a o Y33) H := by rw [e33]; exact hP
        have hD : va_D A (z_q4 c a o Y33) := by rw [e33]; exact hD
        clear e33
        refine lv_aload_n hx hb dL_lay_24 rfl (lv_at hl 1 rfl) ?_
        refine lv_bipush (v := (9 : Int32)) hx hb dL_lay_25 (by decide) ?_
        refine lv_iload hx hb dL_lay_27 (lv_at hl 4 rfl) ?_
        refine lv_imul hx hb dL_lay_29 ?_
        refine lv_iconst (v := (5 : Int32)) hx hb dL_lay_30 (by decide) ?_
        refine lv_iadd hx hb dL_lay_31 ?_
        refine lv_iconst (v := (-1 : Int32)) hx hb dL_lay_32 (by decide) ?_
        obtain ⟨b34, hf⟩ := z_ckE hf
        refine va_iast hx hb hK.1 hP hD hS 1 0 rfl rfl (z_inE b34) dL_lay_33 (fun H locs hP hD hS => ?_)
        obtain ⟨Y35, e35, hf⟩ := z_ltE hf
        have hP : va_P D vwCl (z_q4 c a o Y35) H := by rw [e35]; exact hP
        have hD : va_D A (z_q4 c a o Y35) := by rw [e35]; exact hD
        clear e35
        refine lv_aload_n hx hb dL_lay_34 rfl (lv_at hl 1 rfl) ?_
        refine lv_bipush (v := (9 : Int32)) hx hb dL_lay_35 (by decide) ?_
        refine lv_iload hx hb dL_lay_37 (lv_at hl 4 rfl) ?_
        refine lv_imul hx hb dL_lay_39 ?_
        refine lv_bipush (v := (6 : Int32)) hx hb dL_lay_40 (by decide) ?_
        refine lv_iadd hx hb dL_lay_42 ?_
        refine lv_iconst (v := (-1 : Int32)) hx hb dL_lay_43 (by decide) ?_
        obtain ⟨b36, hf⟩ := z_ckE hf
        refine va_iast hx hb hK.1 hP hD hS 1 0 rfl rfl (z_inE b36) dL_lay_44 (fun H locs hP hD hS => ?_)
        obtain ⟨Y37, e37, hf⟩ := z_ltE hf
        have hP : va_P D vwCl (z_q4 c a o Y37) H := by rw [e37]; exact hP
        have hD : va_D A (z_q4 c a o Y37) := by rw [e37]; exact hD
        clear e37
        refine lv_iinc (v := (x4 + (1 : Int32))) (lv' := [(4, .int (x4 + (1 : Int32))), (0, .ref (a 0)), (1, .ref (a 1)), (3, .ref o), (2, .int x2)]) hx hb dL_lay_45 hl (k := 4) rfl rfl (by decide) rfl (fun ls hl => ?_)
        refine lv_goto (tgt := 10) hx hb dL_lay_48 (by decide) ?_
        exact ih _ _ hf H locs ls hP hD hS (lv_sub hl [1, 2, 3, 4, 0] rfl)
  refine lv_astore_n (lv' := [(3, .ref o), (2, .int (0 : Int32)), (0, .ref (a 0)), (1, .ref (a 1))]) hx hb dL_lay_6 rfl hl (by decide) rfl (fun ls hl => ?_)
  refine lv_iconst (v := (0 : Int32)) hx hb dL_lay_7 (by decide) ?_
  refine lv_istore (lv' := [(4, .int (0 : Int32)), (3, .ref o), (2, .int (0 : Int32)), (0, .ref (a 0)), (1, .ref (a 1))]) hx hb dL_lay_8 hl (by decide) rfl (fun ls hl => ?_)
  exact L10 _ N _ _ hf H locs ls hP hD hS (lv_sub hl [3, 4, 1, 2, 0] rfl)
abbrev rmL_run : Room := { frames := 1, cells := 0, slots := 0, locals := 22 }
set_option maxRecDepth 100000 in
set_option maxHeartbeats 4000000 in
theorem kL_run (l : Launch) (D : va_G) (c : Nat → ClassId) (N : Nat) (a : Nat → Nat) (sz : Nat) (g : z_R) (p0 : Int32) (r0 : Int32) (g0 : z_R) (hf : fL_run N p0 g = some (r0, g0)) : Met l yL_run wsL_run rmL_run (z_Pc D c sz (z_q3 c a g) [.int p0, .ref (a 0), .ref (a 1), .ref (a 2)]) (z_Qi D (z_q3 c a) r0 g0 (va_A (z_q3 c a g) sz)) 0 0 (va_A (z_q3 c a g) sz) := by
  refine z_ofM (cc := cL_run) (maxL := 8) (ret := (some .int)) (Qf := fun A => z_Qi D (z_q3 c a) r0 g0 A) (plainFor_of_name (by decide)) rfl (Nat.le_of_ble_eq_true rfl) ?_
  intro p e s m args below meth co A ls hx hb hr hml hts hown hlocks hnm hA hP hK hD hl hsz
  have hl : lv_has ls 8 [(0, .int p0), (1, .ref (a 0)), (2, .ref (a 1)), (3, .ref (a 2))] := hl
  have hown : s.vm.findClass RL = some m.cls := hown
  obtain ⟨H, hH⟩ : ∃ H, H = s.heap := ⟨_, rfl⟩
  have hS : va_S A s.heap H [] := by rw [hH]; exact va_S.rf
  rw [← hH] at hP ⊢
  clear hH
  have L93 : ∀ (x4 : Int32) (x5 : Int32) (x6 : Int32) (k : Int32 → z_R → Option (Int32 × z_R)) (hk : ∀ (x7 : Int32) (g : z_R), k x7 g = some (r0, g0) → ∀ (H : Heap) (locs : List Loc) (ls : Array Slot), va_P D vwCl (z_q3 c a g) H → va_D A (z_q3 c a g) → va_S A s.heap H locs → lv_has ls 8 [(1, .ref (a 0)), (2, .ref (a 1)), (3, .ref (a 2)), (4, .int x4), (5, .int x5), (6, .int x6), (7, .int x7)] → W p l e rmL_run s m args below meth co H locs 0 0 (MQ below (z_Qi D (z_q3 c a) r0 g0 A) args s 0 0 A) (F0 m 125 ls [])) (fu : Nat) (x7 : Int32) (g : z_R), lL_run_93 N x4 x5 x6 k fu x7 g = some (r0, g0) → ∀ (H : Heap) (locs : List Loc) (ls : Array Slot), va_P D vwCl (z_q3 c a g) H → va_D A (z_q3 c a g) → va_S A s.heap H locs → lv_has ls 8 [(1, .ref (a 0)), (2, .ref (a 1)), (3, .ref (a 2)), (4, .int x4), (5, .int x5), (6, .int x6), (7, .int x7)] → W p l e rmL_run s m args below meth co H locs 0 0 (MQ below (z_Qi D (z_q3 c a) r0 g0 A) args s 0 0 A) (F0 m 93 ls []) := by
    intro x4 x5 x6 k hk fu
    induction fu with
    | zero =>
      intro x7 g hf
      have hf : (none : Option (Int32 × z_R)) = some _ := hf
      cases hf
    | succ fu ih =>
      intro x7 g hf H locs ls hP hD hS hl
      rw [lL_run_93.eq_2] at hf
      refine lv_aload_n hx hb dL_run_93 rfl (lv_at hl 0 rfl) ?_
      refine lv_iconst (v := (1 : Int32)) hx hb dL_run_94 (by decide) ?_
      refine va_iald hx hb hK.1 hP 0 0 rfl rfl (z_inE (by decide)) dL_run_95 ?_
      refine lv_aload_n hx hb dL_run_96 rfl (lv_at hl 0 rfl) ?_
      refine lv_iconst (v := (0 : Int32)) hx hb dL_run_97 (by decide) ?_
      refine va_iald hx hb hK.1 hP 0 0 rfl rfl (z_inE (by decide)) dL_run_98 ?_
      obtain ⟨b10, hf⟩ := z_ckE hf
      refine lv_irem hx hb dL_run_99 (z_nzE b10) ?_
      refine lv_aload_n hx hb dL_run_100 rfl (lv_at hl 1 rfl) ?_
      refine lv_bipush (v := (9 : Int32)) hx hb dL_run_101 (by decide) ?_
      refine lv_iload hx hb dL_run_103 (lv_at hl 3 rfl) ?_
      refine lv_imul hx hb dL_run_105 ?_
      refine lv_iconst (v := (5 : Int32)) hx hb dL_run_106 (by decide) ?_
      refine lv_iadd hx hb dL_run_107 ?_
      obtain ⟨b11, hf⟩ := z_ckE hf
      refine va_iald hx hb hK.1 hP 1 0 rfl rfl (z_inE b11) dL_run_108 ?_
      refine lv_icmp_eq (tgt := 125) hx hb dL_run_109 (by decide) (fun c12 => ?_) (fun c12 => ?_)
      · have hf := z_ifT hf c12
        exact hk _ _ hf H locs ls hP hD hS (lv_sub hl [0, 1, 2, 3, 4, 5, 6] rfl)
      · have hf := z_ifF hf c12
        refine lv_aload_n hx hb dL_run_112 rfl (lv_at hl 0 rfl) ?_
        refine lv_iconst (v := (1 : Int32)) hx hb dL_run_113 (by decide) ?_
        refine lv_dup2_11 hx hb dL_run_114 rfl rfl ?_
        refine va_iald hx hb hK.1 hP 0 0 rfl rfl (z_inE (by decide)) dL_run_115 ?_
        refine lv_iconst (v := (1 : Int32)) hx hb dL_run_116 (by decide) ?_
        refine lv_iadd hx hb dL_run_117 ?_
        refine va_iast hx hb hK.1 hP hD hS 0 0 rfl rfl (z_inE (by decide)) dL_run_118 (fun H locs hP hD hS => ?_)
        obtain ⟨g13, e13, hf⟩ := z_ltE hf
        have hP : va_P D vwCl (z_q3 c a g13) H := by rw [e13]; exact hP
        have hD : va_D A (z_q3 c a g13) := by rw [e13]; exact hD
        clear e13
        refine lv_iinc (v := (x7 + (1 : Int32))) (lv' := [(7, .int (x7 + (1 : Int32))), (1, .ref (a 0)), (2, .ref (a 1)), (3, .ref (a 2)), (4, .int x4), (5, .int x5), (6, .int x6)]) hx hb dL_run_119 hl (k := 6) rfl rfl (by decide) rfl (fun ls hl => ?_)
        refine lv_goto (tgt := 93) hx hb dL_run_122 (by decide) ?_
        exact ih _ _ hf H locs ls hP hD hS (lv_sub hl [1, 2, 3, 4, 5, 6, 0] rfl)
  have L9 : ∀ (fu : Nat) (x4 : Int32) (x5 : Int32) (x6 : Int32) (g : z_R), lL_run_9 N fu x4 x5 x6 g = some (r0, g0) → ∀ (H : Heap) (locs : List Loc) (ls : Array Slot), va_P D vwCl (z_q3 c a g) H → va_D A (z_q3 c a g) → va_S A s.heap H locs → lv_has ls 8 [(1, .ref (a 0)), (2, .ref (a 1)), (3, .ref (a 2)), (4, .int x4), (5, .int x5), (6, .int x6)] → W p l e rmL_run s m args below meth co H locs 0 0 (MQ below (z_Qi D (z_q3 c a) r0 g0 A) args s 0 0 A) (F0 m 9 ls []) := by
    intro fu
    induction fu with
    | zero =>
      intro x4 x5 x6 g hf
      have hf : (none : Option (Int32 × z_R)) = some _ := hf
      cases hf
    | succ fu ih =>
      intro x4 x5 x6 g hf H locs ls hP hD hS hl
      have J154_9 : ∀ (x4 : Int32) (x5 : Int32) (x6 : Int32) (g : z_R), jL_run_154_9 N (lL_run_9 N fu) x4 x5 x6 g = some (r0, g0) → ∀ (H : Heap) (locs : List Loc) (ls : Array Slot), va_P D vwCl (z_q3 c a g) H → va_D A (z_q3 c a g) → va_S A s.heap H locs → lv_has ls 8 [(1, .ref (a 0)), (2, .ref (a 1)), (3, .ref (a 2)), (4, .int x4), (5, .int x5), (6, .int x6)] → W p l e rmL_run s m args below meth co H locs 0 0 (MQ below (z_Qi D (z_q3 c a) r0 g0 A) args s 0 0 A) (F0 m 154 ls []) := by
        intro x4 x5 x6 g hf H locs ls hP hD hS hl
        unfold jL_run_154_9 at hf
        refine lv_aload_n hx hb dL_run_154 rfl (lv_at hl 1 rfl) ?_
        refine lv_bipush (v := (9 : Int32)) hx hb dL_run_155 (by decide) ?_
        refine lv_iload hx hb dL_run_157 (lv_at hl 3 rfl) ?_
        refine lv_imul hx hb dL_run_159 ?_
        refine lv_bipush (v := (7 : Int32)) hx hb dL_run_160 (by decide) ?_
        refine lv_iadd hx hb dL_run_162 ?_
        refine lv_iload hx hb dL_run_163 (lv_at hl 4 rfl) ?_
        refine lv_if_lt (tgt := 172) hx hb dL_run_165 (by decide) (fun c18 => ?_) (fun c18 => ?_)
        · have hf := z_ifT hf c18
          refine lv_aload_n hx hb dL_run_172 rfl (lv_at hl 1 rfl) ?_
          refine lv_bipush (v := (9 : Int32)) hx hb dL_run_173 (by decide) ?_
          refine lv_iload hx hb dL_run_175 (lv_at hl 3 rfl) ?_
          refine lv_imul hx hb dL_run_177 ?_
          refine lv_bipush (v := (7 : Int32)) hx hb dL_run_178 (by decide) ?_
          refine lv_iadd hx hb dL_run_180 ?_
          obtain ⟨b19, hf⟩ := z_ckE hf
          refine va_iald hx hb hK.1 hP 1 0 rfl rfl (z_inE b19) dL_run_181 ?_
          obtain ⟨b20, hf⟩ := z_ckE hf
          refine va_iast hx hb hK.1 hP hD hS 1 0 rfl rfl (z_inE b20) dL_run_182 (fun H locs hP hD hS => ?_)
          obtain ⟨g21, e21, hf⟩ := z_ltE hf
          have hP : va_P D vwCl (z_q3 c a g21) H := by rw [e21]; exact hP
          have hD : va_D A (z_q3 c a g21) := by rw [e21]; exact hD
          clear e21
          refine lv_aload_n hx hb dL_run_183 rfl (lv_at hl 0 rfl) ?_
          refine lv_iconst (v := (1 : Int32)) hx hb dL_run_184 (by decide) ?_
          refine lv_dup2_11 hx hb dL_run_185 rfl rfl ?_
          refine va_iald hx hb hK.1 hP 0 0 rfl rfl (z_inE (by decide)) dL_run_186 ?_
          refine lv_iconst (v := (1 : Int32)) hx hb dL_run_187 (by decide) ?_
          refine lv_aload_n hx hb dL_run_188 rfl (lv_at hl 1 rfl) ?_
          refine lv_bipush (v := (9 : Int32)) hx hb dL_run_189 (by decide) ?_
          refine lv_iload hx hb dL_run_191 (lv_at hl 3 rfl) ?_
          refine lv_imul hx hb dL_run_193 ?_
          refine lv_iconst (v := (1 : Int32)) hx hb dL_run_194 (by decide) ?_
          refine lv_iadd hx hb dL_run_195 ?_
          obtain ⟨b22, hf⟩ := z_ckE hf
          refine va_iald hx hb hK.1 hP 1 0 rfl rfl (z_inE b22) dL_run_196 ?_
          refine lv_iadd hx hb dL_run_197 ?_
          refine lv_iadd hx hb dL_run_198 ?_
          refine va_iast hx hb hK.1 hP hD hS 0 0 rfl rfl (z_inE (by decide)) dL_run_199 (fun H locs hP hD hS => ?_)
          obtain ⟨g23, e23, hf⟩ := z_ltE hf
          have hP : va_P D vwCl (z_q3 c a g23) H := by rw [e23]; exact hP
          have hD : va_D A (z_q3 c a g23) := by rw [e23]; exact hD
          clear e23
          refine lv_aload_n hx hb dL_run_200 rfl (lv_at hl 0 rfl) ?_
          refine lv_iconst (v := (2 : Int32)) hx hb dL_run_201 (by decide) ?_
          refine lv_iconst (v := (0 : Int32)) hx hb dL_run_202 (by decide) ?_
          refine va_iast hx hb hK.1 hP hD hS 0 0 rfl rfl (z_inE (by decide)) dL_run_203 (fun H locs hP hD hS => ?_)
          obtain ⟨g24, e24, hf⟩ := z_ltE hf
          have hP : va_P D vwCl (z_q3 c a g24) H := by rw [e24]; exact hP
          have hD : va_D A (z_q3 c a g24) := by rw [e24]; exact hD
          clear e24
          refine lv_iload hx hb dL_run_204 (lv_at hl 3 rfl) ?_
          refine lv_istore (lv' := [(5, .int x4), (1, .ref (a 0)), (2, .ref (a 1)), (3, .ref (a 2)), (4, .int x4), (6, .int x6)]) hx hb dL_run_206 hl (by decide) rfl (fun ls hl => ?_)
          refine lv_aload_n hx hb dL_run_208 rfl (lv_at hl 2 rfl) ?_
          refine lv_bipush (v := (9 : Int32)) hx hb dL_run_209 (by decide) ?_
          refine lv_iload hx hb dL_run_211 (lv_at hl 0 rfl) ?_
          refine lv_imul hx hb dL_run_213 ?_
          refine lv_iconst (v := (2 : Int32)) hx hb dL_run_214 (by decide) ?_
          refine lv_iadd hx hb dL_run_215 ?_
          obtain ⟨b25, hf⟩ := z_ckE hf
          refine va_iald hx hb hK.1 hP 1 0 rfl rfl (z_inE b25) dL_run_216 ?_
          refine lv_istore (lv' := [(4, .int (g24 1 ((((9 : Int32) * x4) + (2 : Int32))).toNatClampNeg)), (5, .int x4), (1, .ref (a 0)), (2, .ref (a 1)), (3, .ref (a 2)), (6, .int x6)]) hx hb dL_run_217 hl (by decide) rfl (fun ls hl => ?_)
          refine lv_iload hx hb dL_run_219 (lv_at hl 0 rfl) ?_
          refine lv_if_ge (tgt := 226) hx hb dL_run_221 (by decide) (fun c26 => ?_) (fun c26 => ?_)
          · have hf := z_ifT hf c26
            refine lv_aload_n hx hb dL_run_226 rfl (lv_at hl 2 rfl) ?_
            refine lv_bipush (v := (11 : Int32)) hx hb dL_run_227 (by decide) ?_
            refine lv_dup2_11 hx hb dL_run_229 rfl rfl ?_
            refine va_iald hx hb hK.1 hP 0 0 rfl rfl (z_inE (by decide)) dL_run_230 ?_
            refine lv_aload_n hx hb dL_run_231 rfl (lv_at hl 4 rfl) ?_
            refine lv_bipush (v := (8 : Int32)) hx hb dL_run_232 (by decide) ?_
            refine lv_iload hx hb dL_run_234 (lv_at hl 1 rfl) ?_
            refine lv_imul hx hb dL_run_236 ?_
            refine lv_iload hx hb dL_run_237 (lv_at hl 0 rfl) ?_
            refine lv_iadd hx hb dL_run_239 ?_
            obtain ⟨b27, hf⟩ := z_ckE hf
            refine va_iald hx hb hK.1 hP 2 0 rfl rfl (z_inE b27) dL_run_240 ?_
            refine lv_if_ne (tgt := 248) hx hb dL_run_241 (by decide) (fun c28 => ?_) (fun c28 => ?_)
            · have hf := z_ifF hf c28
              refine lv_iconst (v := (0 : Int32)) hx hb dL_run_248 (by decide) ?_
              refine lv_iadd hx hb dL_run_249 ?_
              refine va_iast hx hb hK.1 hP hD hS 0 0 rfl rfl (z_inE (by decide)) dL_run_250 (fun H locs hP hD hS => ?_)
              obtain ⟨g29, e29, hf⟩ := z_ltE hf
              have hP : va_P D vwCl (z_q3 c a g29) H := by rw [e29]; exact hP
              have hD : va_D A (z_q3 c a g29) := by rw [e29]; exact hD
              clear e29
              refine lv_aload_n hx hb dL_run_251 rfl (lv_at hl 4 rfl) ?_
              refine lv_bipush (v := (8 : Int32)) hx hb dL_run_252 (by decide) ?_
              refine lv_iload hx hb dL_run_254 (lv_at hl 1 rfl) ?_
              refine lv_imul hx hb dL_run_256 ?_
              refine lv_iload hx hb dL_run_257 (lv_at hl 0 rfl) ?_
              refine lv_iadd hx hb dL_run_259 ?_
              refine lv_dup2_11 hx hb dL_run_260 rfl rfl ?_
              obtain ⟨b30, hf⟩ := z_ckE hf
              refine va_iald hx hb hK.1 hP 2 0 rfl rfl (z_inE b30) dL_run_261 ?_
              refine lv_iconst (v := (1 : Int32)) hx hb dL_run_262 (by decide) ?_
              refine lv_iadd hx hb dL_run_263 ?_
              obtain ⟨b31, hf⟩ := z_ckE hf
              refine va_iast hx hb hK.1 hP hD hS 2 0 rfl rfl (z_inE b31) dL_run_264 (fun H locs hP hD hS => ?_)
              obtain ⟨g32, e32, hf⟩ := z_ltE hf
              have hP : va_P D vwCl (z_q3 c a g32) H := by rw [e32]; exact hP
              have hD : va_D A (z_q3 c a g32) := by rw [e32]; exact hD
              clear e32
              refine lv_iinc (v := (x6 + (1 : Int32))) (lv' := [(6, .int (x6 + (1 : Int32))), (4, .int (g24 1 ((((9 : Int32) * x4) + (2 : Int32))).toNatClampNeg)), (5, .int x4), (1, .ref (a 0)), (2, .ref (a 1)), (3, .ref (a 2))]) hx hb dL_run_265 hl (k := 5) rfl rfl (by decide) rfl (fun ls hl => ?_)
              refine lv_goto (tgt := 9) hx hb dL_run_268 (by decide) ?_
              exact ih _ _ _ _ hf H locs ls hP hD hS (lv_sub hl [3, 4, 5, 1, 2, 0] rfl)
            · have hf := z_ifT hf c28
              refine lv_iconst (v := (1 : Int32)) hx hb dL_run_244 (by decide) ?_
              refine lv_goto (tgt := 249) hx hb dL_run_245 (by decide) ?_
              refine lv_iadd hx hb dL_run_249 ?_
              refine va_iast hx hb hK.1 hP hD hS 0 0 rfl rfl (z_inE (by decide)) dL_run_250 (fun H locs hP hD hS => ?_)
              obtain ⟨g33, e33, hf⟩ := z_ltE hf
              have hP : va_P D vwCl (z_q3 c a g33) H := by rw [e33]; exact hP
              have hD : va_D A (z_q3 c a g33) := by rw [e33]; exact hD
              clear e33
              refine lv_aload_n hx hb dL_run_251 rfl (lv_at hl 4 rfl) ?_
              refine lv_bipush (v := (8 : Int32)) hx hb dL_run_252 (by decide) ?_
              refine lv_iload hx hb dL_run_254 (lv_at hl 1 rfl) ?_
              refine lv_imul hx hb dL_run_256 ?_
              refine lv_iload hx hb dL_run_257 (lv_at hl 0 rfl) ?_
              refine lv_iadd hx hb dL_run_259 ?_
              refine lv_dup2_11 hx hb dL_run_260 rfl rfl ?_
              obtain ⟨b34, hf⟩ := z_ckE hf
              refine va_iald hx hb hK.1 hP 2 0 rfl rfl (z_inE b34) dL_run_261 ?_
              refine lv_iconst (v := (1 : Int32)) hx hb dL_run_262 (by decide) ?_
              refine lv_iadd hx hb dL_run_263 ?_
              obtain ⟨b35, hf⟩ := z_ckE hf
              refine va_iast hx hb hK.1 hP hD hS 2 0 rfl rfl (z_inE b35) dL_run_264 (fun H locs hP hD hS => ?_)
              obtain ⟨g36, e36, hf⟩ := z_ltE hf
              have hP : va_P D vwCl (z_q3 c a g36) H := by rw [e36]; exact hP
              have hD : va_D A (z_q3 c a g36) := by rw [e36]; exact hD
              clear e36
              refine lv_iinc (v := (x6 + (1 : Int32))) (lv' := [(6, .int (x6 + (1 : Int32))), (4, .int (g24 1 ((((9 : Int32) * x4) + (2 : Int32))).toNatClampNeg)), (5, .int x4), (1, .ref (a 0)), (2, .ref (a 1)), (3, .ref (a 2))]) hx hb dL_run_265 hl (k := 5) rfl rfl (by decide) rfl (fun ls hl => ?_)
              refine lv_goto (tgt := 9) hx hb dL_run_268 (by decide) ?_
              exact ih _ _ _ _ hf H locs ls hP hD hS (lv_sub hl [3, 4, 5, 1, 2, 0] rfl)
          · have hf := z_ifF hf c26
            refine lv_iconst (v := (0 : Int32)) hx hb dL_run_224 (by decide) ?_
            exact z_ri (wf := (z_q3 c a)) hx hb hr hlocks hP hD hS hf dL_run_225
        · have hf := z_ifF hf c18
          refine lv_iconst (v := (0 : Int32)) hx hb dL_run_168 (by decide) ?_
          refine lv_goto (tgt := 182) hx hb dL_run_169 (by decide) ?_
          obtain ⟨b37, hf⟩ := z_ckE hf
          refine va_iast hx hb hK.1 hP hD hS 1 0 rfl rfl (z_inE b37) dL_run_182 (fun H locs hP hD hS => ?_)
          obtain ⟨g38, e38, hf⟩ := z_ltE hf
          have hP : va_P D vwCl (z_q3 c a g38) H := by rw [e38]; exact hP
          have hD : va_D A (z_q3 c a g38) := by rw [e38]; exact hD
          clear e38
          refine lv_aload_n hx hb dL_run_183 rfl (lv_at hl 0 rfl) ?_
          refine lv_iconst (v := (1 : Int32)) hx hb dL_run_184 (by decide) ?_
          refine lv_dup2_11 hx hb dL_run_185 rfl rfl ?_
          refine va_iald hx hb hK.1 hP 0 0 rfl rfl (z_inE (by decide)) dL_run_186 ?_
          refine lv_iconst (v := (1 : Int32)) hx hb dL_run_187 (by decide) ?_
          refine lv_aload_n hx hb dL_run_188 rfl (lv_at hl 1 rfl) ?_
          refine lv_bipush (v := (9 : Int32)) hx hb dL_run_189 (by decide) ?_
          refine lv_iload hx hb dL_run_191 (lv_at hl 3 rfl) ?_
          refine lv_imul hx hb dL_run_193 ?_
          refine lv_iconst (v := (1 : Int32)) hx hb dL_run_194 (by decide) ?_
          refine lv_iadd hx hb dL_run_195 ?_
          obtain ⟨b39, hf⟩ := z_ckE hf
          refine va_iald hx hb hK.1 hP 1 0 rfl rfl (z_inE b39) dL_run_196 ?_
          refine lv_iadd hx hb dL_run_197 ?_
          refine lv_iadd hx hb dL_run_198 ?_
          refine va_iast hx hb hK.1 hP hD hS 0 0 rfl rfl (z_inE (by decide)) dL_run_199 (fun H locs hP hD hS => ?_)
          obtain ⟨g40, e40, hf⟩ := z_ltE hf
          have hP : va_P D vwCl (z_q3 c a g40) H := by rw [e40]; exact hP
          have hD : va_D A (z_q3 c a g40) := by rw [e40]; exact hD
          clear e40
          refine lv_aload_n hx hb dL_run_200 rfl (lv_at hl 0 rfl) ?_
          refine lv_iconst (v := (2 : Int32)) hx hb dL_run_201 (by decide) ?_
          refine lv_iconst (v := (0 : Int32)) hx hb dL_run_202 (by decide) ?_
          refine va_iast hx hb hK.1 hP hD hS 0 0 rfl rfl (z_inE (by decide)) dL_run_203 (fun H locs hP hD hS => ?_)
          obtain ⟨g41, e41, hf⟩ := z_ltE hf
          have hP : va_P D vwCl (z_q3 c a g41) H := by rw [e41]; exact hP
          have hD : va_D A (z_q3 c a g41) := by rw [e41]; exact hD
          clear e41
          refine lv_iload hx hb dL_run_204 (lv_at hl 3 rfl) ?_
          refine lv_istore (lv' := [(5, .int x4), (1, .ref (a 0)), (2, .ref (a 1)), (3, .ref (a 2)), (4, .int x4), (6, .int x6)]) hx hb dL_run_206 hl (by decide) rfl (fun ls hl => ?_)
          refine lv_aload_n hx hb dL_run_208 rfl (lv_at hl 2 rfl) ?_
          refine lv_bipush (v := (9 : Int32)) hx hb dL_run_209 (by decide) ?_
          refine lv_iload hx hb dL_run_211 (lv_at hl 0 rfl) ?_
          refine lv_imul hx hb dL_run_213 ?_
          refine lv_iconst (v := (2 : Int32)) hx hb dL_run_214 (by decide) ?_
          refine lv_iadd hx hb dL_run_215 ?_
          obtain ⟨b42, hf⟩ := z_ckE hf
          refine va_iald hx hb hK.1 hP 1 0 rfl rfl (z_inE b42) dL_run_216 ?_
          refine lv_istore (lv' := [(4, .int (g41 1 ((((9 : Int32) * x4) + (2 : Int32))).toNatClampNeg)), (5, .int x4), (1, .ref (a 0)), (2, .ref (a 1)), (3, .ref (a 2)), (6, .int x6)]) hx hb dL_run_217 hl (by decide) rfl (fun ls hl => ?_)
          refine lv_iload hx hb dL_run_219 (lv_at hl 0 rfl) ?_
          refine lv_if_ge (tgt := 226) hx hb dL_run_221 (by decide) (fun c43 => ?_) (fun c43 => ?_)
          · have hf := z_ifT hf c43
            refine lv_aload_n hx hb dL_run_226 rfl (lv_at hl 2 rfl) ?_
            refine lv_bipush (v := (11 : Int32)) hx hb dL_run_227 (by decide) ?_
            refine lv_dup2_11 hx hb dL_run_229 rfl rfl ?_
            refine va_iald hx hb hK.1 hP 0 0 rfl rfl (z_inE (by decide)) dL_run_230 ?_
            refine lv_aload_n hx hb dL_run_231 rfl (lv_at hl 4 rfl) ?_
            refine lv_bipush (v := (8 : Int32)) hx hb dL_run_232 (by decide) ?_
            refine lv_iload hx hb dL_run_234 (lv_at hl 1 rfl) ?_
            refine lv_imul hx hb dL_run_236 ?_
            refine lv_iload hx hb dL_run_237 (lv_at hl 0 rfl) ?_
            refine lv_iadd hx hb dL_run_239 ?_
            obtain ⟨b44, hf⟩ := z_ckE hf
            refine va_iald hx hb hK.1 hP 2 0 rfl rfl (z_inE b44) dL_run_240 ?_
            refine lv_if_ne (tgt := 248) hx hb dL_run_241 (by decide) (fun c45 => ?_) (fun c45 => ?_)
            · have hf := z_ifF hf c45
              refine lv_iconst (v := (0 : Int32)) hx hb dL_run_248 (by decide) ?_
              refine lv_iadd hx hb dL_run_249 ?_
              refine va_iast hx hb hK.1 hP hD hS 0 0 rfl rfl (z_inE (by decide)) dL_run_250 (fun H locs hP hD hS => ?_)
              obtain ⟨g46, e46, hf⟩ := z_ltE hf
              have hP : va_P D vwCl (z_q3 c a g46) H := by rw [e46]; exact hP
              have hD : va_D A (z_q3 c a g46) := by rw [e46]; exact hD
              clear e46
              refine lv_aload_n hx hb dL_run_251 rfl (lv_at hl 4 rfl) ?_
              refine lv_bipush (v := (8 : Int32)) hx hb dL_run_252 (by decide) ?_
              refine lv_iload hx hb dL_run_254 (lv_at hl 1 rfl) ?_
              refine lv_imul hx hb dL_run_256 ?_
              refine lv_iload hx hb dL_run_257 (lv_at hl 0 rfl) ?_
              refine lv_iadd hx hb dL_run_259 ?_
              refine lv_dup2_11 hx hb dL_run_260 rfl rfl ?_
              obtain ⟨b47, hf⟩ := z_ckE hf
              refine va_iald hx hb hK.1 hP 2 0 rfl rfl (z_inE b47) dL_run_261 ?_
              refine lv_iconst (v := (1 : Int32)) hx hb dL_run_262 (by decide) ?_
              refine lv_iadd hx hb dL_run_263 ?_
              obtain ⟨b48, hf⟩ := z_ckE hf
              refine va_iast hx hb hK.1 hP hD hS 2 0 rfl rfl (z_inE b48) dL_run_264 (fun H locs hP hD hS => ?_)
              obtain ⟨g49, e49, hf⟩ := z_ltE hf
              have hP : va_P D vwCl (z_q3 c a g49) H := by rw [e49]; exact hP
              have hD : va_D A (z_q3 c a g49) := by rw [e49]; exact hD
              clear e49
              refine lv_iinc (v := (x6 + (1 : Int32))) (lv' := [(6, .int (x6 + (1 : Int32))), (4, .int (g41 1 ((((9 : Int32) * x4) + (2 : Int32))).toNatClampNeg)), (5, .int x4), (1, .ref (a 0)), (2, .ref (a 1)), (3, .ref (a 2))]) hx hb dL_run_265 hl (k := 5) rfl rfl (by decide) rfl (fun ls hl => ?_)
              refine lv_goto (tgt := 9) hx hb dL_run_268 (by decide) ?_
              exact ih _ _ _ _ hf H locs ls hP hD hS (lv_sub hl [3, 4, 5, 1, 2, 0] rfl)
            · have hf := z_ifT hf c45
              refine lv_iconst (v := (1 : Int32)) hx hb dL_run_244 (by decide) ?_
              refine lv_goto (tgt := 249) hx hb dL_run_245 (by decide) ?_
              refine lv_iadd hx hb dL_run_249 ?_
              refine va_iast hx hb hK.1 hP hD hS 0 0 rfl rfl (z_inE (by decide)) dL_run_250 (fun H locs hP hD hS => ?_)
              obtain ⟨g50, e50, hf⟩ := z_ltE hf
              have hP : va_P D vwCl (z_q3 c a g50) H := by rw [e50]; exact hP
              have hD : va_D A (z_q3 c a g50) := by rw [e50]; exact hD
              clear e50
              refine lv_aload_n hx hb dL_run_251 rfl (lv_at hl 4 rfl) ?_
              refine lv_bipush (v := (8 : Int32)) hx hb dL_run_252 (by decide) ?_
              refine lv_iload hx hb dL_run_254 (lv_at hl 1 rfl) ?_
              refine lv_imul hx hb dL_run_256 ?_
              refine lv_iload hx hb dL_run_257 (lv_at hl 0 rfl) ?_
              refine lv_iadd hx hb dL_run_259 ?_
              refine lv_dup2_11 hx hb dL_run_260 rfl rfl ?_
              obtain ⟨b51, hf⟩ := z_ckE hf
              refine va_iald hx hb hK.1 hP 2 0 rfl rfl (z_inE b51) dL_run_261 ?_
              refine lv_iconst (v := (1 : Int32)) hx hb dL_run_262 (by decide) ?_
              refine lv_iadd hx hb dL_run_263 ?_
              obtain ⟨b52, hf⟩ := z_ckE hf
              refine va_iast hx hb hK.1 hP hD hS 2 0 rfl rfl (z_inE b52) dL_run_264 (fun H locs hP hD hS => ?_)
              obtain ⟨g53, e53, hf⟩ := z_ltE hf
              have hP : va_P D vwCl (z_q3 c a g53) H := by rw [e53]; exact hP
              have hD : va_D A (z_q3 c a g53) := by rw [e53]; exact hD
              clear e53
              refine lv_iinc (v := (x6 + (1 : Int32))) (lv' := [(6, .int (x6 + (1 : Int32))), (4, .int (g41 1 ((((9 : Int32) * x4) + (2 : Int32))).toNatClampNeg)), (5, .int x4), (1, .ref (a 0)), (2, .ref (a 1)), (3, .ref (a 2))]) hx hb dL_run_265 hl (k := 5) rfl rfl (by decide) rfl (fun ls hl => ?_)
              refine lv_goto (tgt := 9) hx hb dL_run_268 (by decide) ?_
              exact ih _ _ _ _ hf H locs ls hP hD hS (lv_sub hl [3, 4, 5, 1, 2, 0] rfl)
          · have hf := z_ifF hf c43
            refine lv_iconst (v := (0 : Int32)) hx hb dL_run_224 (by decide) ?_
            exact z_ri (wf := (z_q3 c a)) hx hb hr hlocks hP hD hS hf dL_run_225
      have J77_9 : ∀ (x4 : Int32) (x5 : Int32) (x6 : Int32) (g : z_R), jL_run_77_9 N (lL_run_9 N fu) x4 x5 x6 g = some (r0, g0) → ∀ (H : Heap) (locs : List Loc) (ls : Array Slot), va_P D vwCl (z_q3 c a g) H → va_D A (z_q3 c a g) → va_S A s.heap H locs → lv_has ls 8 [(1, .ref (a 0)), (2, .ref (a 1)), (3, .ref (a 2)), (4, .int x4), (5, .int x5), (6, .int x6)] → W p l e rmL_run s m args below meth co H locs 0 0 (MQ below (z_Qi D (z_q3 c a) r0 g0 A) args s 0 0 A) (F0 m 77 ls []) := by
        intro x4 x5 x6 g hf H locs ls hP hD hS hl
        unfold jL_run_77_9 at hf
        refine lv_aload_n hx hb dL_run_77 rfl (lv_at hl 0 rfl) ?_
        refine lv_iconst (v := (2 : Int32)) hx hb dL_run_78 (by decide) ?_
        refine lv_iconst (v := (2 : Int32)) hx hb dL_run_79 (by decide) ?_
        refine va_iast hx hb hK.1 hP hD hS 0 0 rfl rfl (z_inE (by decide)) dL_run_80 (fun H locs hP hD hS => ?_)
        obtain ⟨g8, e8, hf⟩ := z_ltE hf
        have hP : va_P D vwCl (z_q3 c a g8) H := by rw [e8]; exact hP
        have hD : va_D A (z_q3 c a g8) := by rw [e8]; exact hD
        clear e8
        refine lv_iload hx hb dL_run_81 (lv_at hl 5 rfl) ?_
        refine lv_bipush (v := (99 : Int32)) hx hb dL_run_83 (by decide) ?_
        refine lv_icmp_ne (tgt := 90) hx hb dL_run_85 (by decide) (fun c9 => ?_) (fun c9 => ?_)
        · have hf := z_ifF hf c9
          refine lv_iconst (v := (0 : Int32)) hx hb dL_run_90 (by decide) ?_
          refine lv_istore (lv' := [(7, .int (0 : Int32)), (1, .ref (a 0)), (2, .ref (a 1)), (3, .ref (a 2)), (4, .int x4), (5, .int x5), (6, .int x6)]) hx hb dL_run_91 hl (by decide) rfl (fun ls hl => ?_)
          refine L93 _ _ _ _ (fun x7_93 g93_14 hf H locs ls hP hD hS hl => ?_) N _ _ hf H locs ls hP hD hS (lv_sub hl [1, 2, 3, 4, 5, 6, 0] rfl)
          refine lv_aload_n hx hb dL_run_125 rfl (lv_at hl 1 rfl) ?_
          refine lv_bipush (v := (9 : Int32)) hx hb dL_run_126 (by decide) ?_
          refine lv_iload hx hb dL_run_128 (lv_at hl 3 rfl) ?_
          refine lv_imul hx hb dL_run_130 ?_
          refine lv_bipush (v := (8 : Int32)) hx hb dL_run_131 (by decide) ?_
          refine lv_iadd hx hb dL_run_133 ?_
          refine lv_iload hx hb dL_run_134 (lv_at hl 6 rfl) ?_
          obtain ⟨b15, hf⟩ := z_ckE hf
          refine va_iast hx hb hK.1 hP hD hS 1 0 rfl rfl (z_inE b15) dL_run_136 (fun H locs hP hD hS => ?_)
          obtain ⟨g16, e16, hf⟩ := z_ltE hf
          have hP : va_P D vwCl (z_q3 c a g16) H := by rw [e16]; exact hP
          have hD : va_D A (z_q3 c a g16) := by rw [e16]; exact hD
          clear e16
          refine lv_iload hx hb dL_run_137 (lv_at hl 4 rfl) ?_
          refine lv_if_lt (tgt := 154) hx hb dL_run_139 (by decide) (fun c17 => ?_) (fun c17 => ?_)
          · have hf := z_ifT hf c17
            exact J154_9 _ _ _ _ hf H locs ls hP hD hS (lv_sub hl [0, 1, 2, 3, 4, 5] rfl)
          · have hf := z_ifF hf c17
            refine lv_iload hx hb dL_run_142 (lv_at hl 6 rfl) ?_
            refine lv_if_le (tgt := 154) hx hb dL_run_144 (by decide) (fun c54 => ?_) (fun c54 => ?_)
            · have hf := z_ifT hf c54
              exact J154_9 _ _ _ _ hf H locs ls hP hD hS (lv_sub hl [0, 1, 2, 3, 4, 5] rfl)
            · have hf := z_ifF hf c54
              refine lv_iload hx hb dL_run_147 (lv_at hl 3 rfl) ?_
              refine lv_aload_n hx hb dL_run_149 rfl (lv_at hl 0 rfl) ?_
              refine lv_aload_n hx hb dL_run_150 rfl (lv_at hl 1 rfl) ?_
              obtain ⟨u55, h55, hf⟩ := z_bE hf
              refine z_xSv (As := [.int x4, .ref (a 0), .ref (a 1)]) (rest := []) (wf := z_q3 c a) (g := g16) (u0 := u55) ⟨hx, hb, hml, hown, hts⟩ (kL_refund l D c N a H.size (g16) x4 u55 h55) (va_cwS 3 hts gL_run_L_refund rfl rfl rfl (by decide +kernel) ⟨Nat.le_of_ble_eq_true rfl, Nat.le_of_ble_eq_true rfl⟩) hP hK hD hS hA (z_cutQ hD u55) rfl hl.1 (Nat.le_of_ble_eq_true rfl) rfl dL_run_151 ⟨Nat.le_of_ble_eq_true rfl, Nat.le_of_ble_eq_true rfl⟩ (fun H locs hP hD hS => ?_)
              exact J154_9 _ _ _ _ hf H locs ls hP hD hS (lv_sub hl [0, 1, 2, 3, 4, 5] rfl)
        · have hf := z_ifT hf c9
          refine lv_iconst (v := (2 : Int32)) hx hb dL_run_88 (by decide) ?_
          exact z_ri (wf := (z_q3 c a)) hx hb hr hlocks hP hD hS hf dL_run_89
      rw [lL_run_9.eq_2] at hf
      refine lv_iload hx hb dL_run_9 (lv_at hl 5 rfl) ?_
      refine lv_bipush (v := (100 : Int32)) hx hb dL_run_11 (by decide) ?_
      refine lv_icmp_ge (tgt := 271) hx hb dL_run_13 (by decide) (fun c1 => ?_) (fun c1 => ?_)
      · have hf := z_ifT hf c1
        refine lv_iconst (v := (-1 : Int32)) hx hb dL_run_271 (by decide) ?_
        exact z_ri (wf := (z_q3 c a)) hx hb hr hlocks hP hD hS hf dL_run_272
      · have hf := z_ifF hf c1
        refine lv_aload_n hx hb dL_run_16 rfl (lv_at hl 0 rfl) ?_
        refine lv_iconst (v := (2 : Int32)) hx hb dL_run_17 (by decide) ?_
        refine lv_iconst (v := (3 : Int32)) hx hb dL_run_18 (by decide) ?_
        refine va_iast hx hb hK.1 hP hD hS 0 0 rfl rfl (z_inE (by decide)) dL_run_19 (fun H locs hP hD hS => ?_)
        obtain ⟨g2, e2, hf⟩ := z_ltE hf
        have hP : va_P D vwCl (z_q3 c a g2) H := by rw [e2]; exact hP
        have hD : va_D A (z_q3 c a g2) := by rw [e2]; exact hD
        clear e2
        refine lv_iload hx hb dL_run_20 (lv_at hl 3 rfl) ?_
        refine lv_iconst (v := (5 : Int32)) hx hb dL_run_22 (by decide) ?_
        refine lv_icmp_gt (tgt := 38) hx hb dL_run_23 (by decide) (fun c3 => ?_) (fun c3 => ?_)
        · have hf := z_ifT hf c3
          refine lv_iconst (v := (3 : Int32)) hx hb dL_run_38 (by decide) ?_
          exact z_ri (wf := (z_q3 c a)) hx hb hr hlocks hP hD hS hf dL_run_39
        · have hf := z_ifF hf c3
          refine lv_aload_n hx hb dL_run_26 rfl (lv_at hl 1 rfl) ?_
          refine lv_bipush (v := (9 : Int32)) hx hb dL_run_27 (by decide) ?_
          refine lv_iload hx hb dL_run_29 (lv_at hl 3 rfl) ?_
          refine lv_imul hx hb dL_run_31 ?_
          refine lv_iconst (v := (5 : Int32)) hx hb dL_run_32 (by decide) ?_
          refine lv_iadd hx hb dL_run_33 ?_
          obtain ⟨b4, hf⟩ := z_ckE hf
          refine va_iald hx hb hK.1 hP 1 0 rfl rfl (z_inE b4) dL_run_34 ?_
          refine lv_if_ge (tgt := 40) hx hb dL_run_35 (by decide) (fun c5 => ?_) (fun c5 => ?_)
          · have hf := z_ifT hf c5
            refine lv_aload_n hx hb dL_run_40 rfl (lv_at hl 0 rfl) ?_
            refine lv_iconst (v := (2 : Int32)) hx hb dL_run_41 (by decide) ?_
            refine lv_iconst (v := (1 : Int32)) hx hb dL_run_42 (by decide) ?_
            refine va_iast hx hb hK.1 hP hD hS 0 0 rfl rfl (z_inE (by decide)) dL_run_43 (fun H locs hP hD hS => ?_)
            obtain ⟨g6, e6, hf⟩ := z_ltE hf
            have hP : va_P D vwCl (z_q3 c a g6) H := by rw [e6]; exact hP
            have hD : va_D A (z_q3 c a g6) := by rw [e6]; exact hD
            clear e6
            refine lv_iload hx hb dL_run_44 (lv_at hl 4 rfl) ?_
            refine lv_if_lt (tgt := 77) hx hb dL_run_46 (by decide) (fun c7 => ?_) (fun c7 => ?_)
            · have hf := z_ifT hf c7
              exact J77_9 _ _ _ _ hf H locs ls hP hD hS (lv_sub hl [0, 1, 2, 3, 4, 5] rfl)
            · have hf := z_ifF hf c7
              refine lv_aload_n hx hb dL_run_49 rfl (lv_at hl 1 rfl) ?_
              refine lv_bipush (v := (9 : Int32)) hx hb dL_run_50 (by decide) ?_
              refine lv_iload hx hb dL_run_52 (lv_at hl 3 rfl) ?_
              refine lv_imul hx hb dL_run_54 ?_
              refine lv_iconst (v := (3 : Int32)) hx hb dL_run_55 (by decide) ?_
              refine lv_iadd hx hb dL_run_56 ?_
              obtain ⟨b56, hf⟩ := z_ckE hf
              refine va_iald hx hb hK.1 hP 1 0 rfl rfl (z_inE b56) dL_run_57 ?_
              refine lv_if_lt (tgt := 77) hx hb dL_run_58 (by decide) (fun c57 => ?_) (fun c57 => ?_)
              · have hf := z_ifT hf c57
                exact J77_9 _ _ _ _ hf H locs ls hP hD hS (lv_sub hl [0, 1, 2, 3, 4, 5] rfl)
              · have hf := z_ifF hf c57
                refine lv_aload_n hx hb dL_run_61 rfl (lv_at hl 1 rfl) ?_
                refine lv_bipush (v := (9 : Int32)) hx hb dL_run_62 (by decide) ?_
                refine lv_iload hx hb dL_run_64 (lv_at hl 3 rfl) ?_
                refine lv_imul hx hb dL_run_66 ?_
                refine lv_iconst (v := (3 : Int32)) hx hb dL_run_67 (by decide) ?_
                refine lv_iadd hx hb dL_run_68 ?_
                obtain ⟨b58, hf⟩ := z_ckE hf
                refine va_iald hx hb hK.1 hP 1 0 rfl rfl (z_inE b58) dL_run_69 ?_
                refine lv_iload hx hb dL_run_70 (lv_at hl 4 rfl) ?_
                refine lv_icmp_eq (tgt := 77) hx hb dL_run_72 (by decide) (fun c59 => ?_) (fun c59 => ?_)
                · have hf := z_ifT hf c59
                  exact J77_9 _ _ _ _ hf H locs ls hP hD hS (lv_sub hl [0, 1, 2, 3, 4, 5] rfl)
                · have hf := z_ifF hf c59
                  refine lv_iconst (v := (1 : Int32)) hx hb dL_run_75 (by decide) ?_
                  exact z_ri (wf := (z_q3 c a)) hx hb hr hlocks hP hD hS hf dL_run_76
          · have hf := z_ifF hf c5
            refine lv_iconst (v := (3 : Int32)) hx hb dL_run_38 (by decide) ?_
            exact z_ri (wf := (z_q3 c a)) hx hb hr hlocks hP hD hS hf dL_run_39
  unfold fL_run at hf
  generalize ([] : List Loc) = locs at hS ⊢
  refine lv_iload_n hx hb dL_run_0 rfl (lv_at hl 0 rfl) ?_
  refine lv_istore (lv' := [(4, .int p0), (0, .int p0), (1, .ref (a 0)), (2, .ref (a 1)), (3, .ref (a 2))]) hx hb dL_run_1 hl (by decide) rfl (fun ls hl => ?_)
  refine lv_iconst (v := (-1 : Int32)) hx hb dL_run_3 (by decide) ?_
  refine lv_istore (lv' := [(5, .int (-1 : Int32)), (4, .int p0), (0, .int p0), (1, .ref (a 0)), (2, .ref (a 1)), (3, .ref (a 2))]) hx hb dL_run_4 hl (by decide) rfl (fun ls hl => ?_)
  refine lv_iconst (v := (0 : Int32)) hx hb dL_run_6 (by decide) ?_
  refine lv_istore (lv' := [(6, .int (0 : Int32)), (5, .int (-1 : Int32)), (4, .int p0), (0, .int p0), (1, .ref (a 0)), (2, .ref (a 1)), (3, .ref (a 2))]) hx hb dL_run_7 hl (by decide) rfl (fun ls hl => ?_)
  exact L9 N _ _ _ _ hf H locs ls hP hD hS (lv_sub hl [4, 5, 6, 2, 1, 0] rfl)
