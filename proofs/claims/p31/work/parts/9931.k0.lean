abbrev rmX2_copyRow : Room := { frames := 0, cells := 0, slots := 0, locals := 0 }
set_option maxRecDepth 100000 in
set_option maxHeartbeats 4000000 in
theorem kX2_copyRow (l : Launch) (D : va_G) (c : Nat → ClassId) (N : Nat) (x y ln : Nat) (sz : Nat) (f : Nat → Int32) (h : (Nat → Int32)) (g0 : (Nat → Int32)) (hf : fX2_copyRow N ln f h = some g0) : Met l yX2_copyRow wsX2_copyRow rmX2_copyRow (z_Pc D c sz (z_rr c x y ln f h) [.ref x, .ref y]) (z_Qv D (fun u : Nat → Int32 => z_rr c x y ln f u) g0 (va_A (z_rr c x y ln f h) sz)) 0 0 (va_A (z_rr c x y ln f h) sz) := by
  refine z_ofM (cc := cX2_copyRow) (maxL := 3) (ret := none) (Qf := fun A => z_Qv D (fun u : Nat → Int32 => z_rr c x y ln f u) g0 A) (plainFor_of_name (by decide)) rfl (Nat.le_of_ble_eq_true rfl) ?_
  intro p e s m args below meth co A ls hx hb hr hml hts hown hlocks hnm hA hP hK hD hl hsz
  have hl : lv_has ls 3 [(0, .ref x), (1, .ref y)] := hl
  have hown : s.vm.findClass RX2 = some m.cls := hown
  obtain ⟨H, hH⟩ : ∃ H, H = s.heap := ⟨_, rfl⟩
  have hS : va_S A s.heap H [] := by rw [hH]; exact va_S.rf
  rw [← hH] at hP ⊢
  clear hH
  have L2 : ∀ (fu : Nat) (x2 : Int32) (h : (Nat → Int32)), lX2_copyRow_2 N ln f fu x2 h = some g0 → ∀ (H : Heap) (locs : List Loc) (ls : Array Slot), va_P D vwCl (z_rr c x y ln f h) H → va_D A (z_rr c x y ln f h) → va_S A s.heap H locs → lv_has ls 3 [(0, .ref x), (1, .ref y), (2, .int x2)] → W p l e rmX2_copyRow s m args below meth co H locs 0 0 (MQ below (z_Qv D (fun u : Nat → Int32 => z_rr c x y ln f u) g0 A) args s 0 0 A) (F0 m 2 ls []) := by
    intro fu
    induction fu with
    | zero =>
      intro x2 h hf
      have hf : (none : Option ((Nat → Int32))) = some _ := hf
      cases hf
    | succ fu ih =>
      intro x2 h hf H locs ls hP hD hS hl
      rw [lX2_copyRow_2.eq_2] at hf
      refine lv_iload_n hx hb dX2_copyRow_2 rfl (lv_at hl 2 rfl) ?_
      refine lv_aload_n hx hb dX2_copyRow_3 rfl (lv_at hl 0 rfl) ?_
      refine va_alen hx hb hK.1 hP 0 0 rfl rfl (v := (Int32.ofNat ln)) rfl dX2_copyRow_4 ?_
      refine lv_icmp_ge (tgt := 26) hx hb dX2_copyRow_5 (by decide) (fun c1 => ?_) (fun c1 => ?_)
      · have hf := z_ifT hf c1
        exact z_rv (wf := (fun u : Nat → Int32 => z_rr c x y ln f u)) hx hb hr hlocks hP hD hS hf dX2_copyRow_26
      · have hf := z_ifF hf c1
        refine lv_iload_n hx hb dX2_copyRow_8 rfl (lv_at hl 2 rfl) ?_
        refine lv_aload_n hx hb dX2_copyRow_9 rfl (lv_at hl 1 rfl) ?_
        refine va_alen hx hb hK.1 hP 1 0 rfl rfl (v := (Int32.ofNat ln)) rfl dX2_copyRow_10 ?_
        refine lv_icmp_ge (tgt := 26) hx hb dX2_copyRow_11 (by decide) (fun c2 => ?_) (fun c2 => ?_)
        · have hf := z_ifT hf c2
          exact z_rv (wf := (fun u : Nat → Int32 => z_rr c x y ln f u)) hx hb hr hlocks hP hD hS hf dX2_copyRow_26
        · have hf := z_ifF hf c2
          refine lv_aload_n hx hb dX2_copyRow_14 rfl (lv_at hl 1 rfl) ?_
          refine lv_iload_n hx hb dX2_copyRow_15 rfl (lv_at hl 2 rfl) ?_
          refine lv_aload_n hx hb dX2_copyRow_16 rfl (lv_at hl 0 rfl) ?_
          refine lv_iload_n hx hb dX2_copyRow_17 rfl (lv_at hl 2 rfl) ?_
          obtain ⟨b3, hf⟩ := z_ckE hf
          refine va_iald hx hb hK.1 hP 0 0 rfl rfl (z_inE b3) dX2_copyRow_18 ?_
          obtain ⟨b4, hf⟩ := z_ckE hf
          refine va_iast hx hb hK.1 hP hD hS 1 0 rfl rfl (z_inE b4) dX2_copyRow_19 (fun H locs hP hD hS => ?_)
          obtain ⟨h5, e5, hf⟩ := z_ltE hf
          have hP : va_P D vwCl (z_rr c x y ln f h5) H := by rw [e5]; exact hP
          have hD : va_D A (z_rr c x y ln f h5) := by rw [e5]; exact hD
          clear e5
          refine lv_iinc (v := (x2 + (1 : Int32))) (lv' := [(2, .int (x2 + (1 : Int32))), (0, .ref x), (1, .ref y)]) hx hb dX2_copyRow_20 hl (k := 2) rfl rfl (by decide) rfl (fun ls hl => ?_)
          refine lv_goto (tgt := 2) hx hb dX2_copyRow_23 (by decide) ?_
          exact ih _ _ hf H locs ls hP hD hS (lv_sub hl [1, 2, 0] rfl)
  unfold fX2_copyRow at hf
  generalize ([] : List Loc) = locs at hS ⊢
  refine lv_iconst (v := (0 : Int32)) hx hb dX2_copyRow_0 (by decide) ?_
  refine lv_istore_n (lv' := [(2, .int (0 : Int32)), (0, .ref x), (1, .ref y)]) hx hb dX2_copyRow_1 rfl hl (by decide) rfl (fun ls hl => ?_)
  exact L2 N _ _ hf H locs ls hP hD hS (lv_sub hl [1, 2, 0] rfl)
abbrev rmJ9_floorMod_7cf53 : Room := { frames := 0, cells := 0, slots := 0, locals := 0 }
set_option maxRecDepth 100000 in
set_option maxHeartbeats 4000000 in
theorem kJ9_floorMod_7cf53 (l : Launch) (D : va_G) (c : Nat → ClassId) (N : Nat) (sz : Nat) (p0 : Int32) (p1 : Int32) (r0 : Int32) (hf : fJ9_floorMod_7cf53 N p0 p1  = some r0) : Met l yJ9_floorMod_7cf53 wsJ9_floorMod_7cf53 rmJ9_floorMod_7cf53 (z_Pc D c sz [] [.int p0, .int p1]) (z_Qi D (fun _ : Unit => []) r0 () (va_A [] sz)) 0 0 (va_A [] sz) := by
  refine z_ofM (cc := cJ9_floorMod_7cf53) (maxL := 3) (ret := (some .int)) (Qf := fun A => z_Qi D (fun _ : Unit => []) r0 () A) (by decide +kernel) rfl (Nat.le_of_ble_eq_true rfl) ?_
  intro p e s m args below meth co A ls hx hb hr hml hts hown hlocks hnm hA hP hK hD hl hsz
  have hl : lv_has ls 3 [(0, .int p0), (1, .int p1)] := hl
  have hown : s.vm.findClass RJ9 = some m.cls := hown
  obtain ⟨H, hH⟩ : ∃ H, H = s.heap := ⟨_, rfl⟩
  have hS : va_S A s.heap H [] := by rw [hH]; exact va_S.rf
  rw [← hH] at hP ⊢
  clear hH
  unfold fJ9_floorMod_7cf53 at hf
  generalize ([] : List Loc) = locs at hS ⊢
  refine lv_iload_n hx hb dJ9_floorMod_7cf53_0 rfl (lv_at hl 0 rfl) ?_
  refine lv_iload_n hx hb dJ9_floorMod_7cf53_1 rfl (lv_at hl 1 rfl) ?_
  obtain ⟨b1, hf⟩ := z_ckE hf
  refine lv_irem hx hb dJ9_floorMod_7cf53_2 (z_nzE b1) ?_
  refine lv_istore_n (lv' := [(2, .int (p0 - p0 / p1 * p1)), (0, .int p0), (1, .int p1)]) hx hb dJ9_floorMod_7cf53_3 rfl hl (by decide) rfl (fun ls hl => ?_)
  refine lv_iload_n hx hb dJ9_floorMod_7cf53_4 rfl (lv_at hl 1 rfl) ?_
  refine lv_iload_n hx hb dJ9_floorMod_7cf53_5 rfl (lv_at hl 2 rfl) ?_
  refine lv_ixor hx hb dJ9_floorMod_7cf53_6 ?_
  refine lv_if_ge (tgt := 18) hx hb dJ9_floorMod_7cf53_7 (by decide) (fun c2 => ?_) (fun c2 => ?_)
  · have hf := z_ifT hf c2
    refine lv_iload_n hx hb dJ9_floorMod_7cf53_18 rfl (lv_at hl 0 rfl) ?_
    exact z_rp (wf := (fun _ : Unit => [])) hx hb hr hlocks hP hD hS hf dJ9_floorMod_7cf53_19
  · have hf := z_ifF hf c2
    refine lv_iload_n hx hb dJ9_floorMod_7cf53_10 rfl (lv_at hl 0 rfl) ?_
    refine lv_if_eq (tgt := 18) hx hb dJ9_floorMod_7cf53_11 (by decide) (fun c3 => ?_) (fun c3 => ?_)
    · have hf := z_ifT hf c3
      refine lv_iload_n hx hb dJ9_floorMod_7cf53_18 rfl (lv_at hl 0 rfl) ?_
      exact z_rp (wf := (fun _ : Unit => [])) hx hb hr hlocks hP hD hS hf dJ9_floorMod_7cf53_19
    · have hf := z_ifF hf c3
      refine lv_iload_n hx hb dJ9_floorMod_7cf53_14 rfl (lv_at hl 0 rfl) ?_
      refine lv_iload_n hx hb dJ9_floorMod_7cf53_15 rfl (lv_at hl 2 rfl) ?_
      refine lv_iadd hx hb dJ9_floorMod_7cf53_16 ?_
      exact z_rp (wf := (fun _ : Unit => [])) hx hb hr hlocks hP hD hS hf dJ9_floorMod_7cf53_17
abbrev rmX4_isAuthor : Room := { frames := 0, cells := 0, slots := 0, locals := 0 }
set_option maxRecDepth 100000 in
set_option maxHeartbeats 4000000 in
theorem kX4_isAuthor (l : Launch) (D : va_G) (c : Nat → ClassId) (N : Nat) (sz : Nat) (p0 : Int32) (r0 : Int32) (hf : fX4_isAuthor N p0  = some r0) : Met l yX4_isAuthor wsX4_isAuthor rmX4_isAuthor (z_Pc D c sz [] [.int p0]) (z_Qi D (fun _ : Unit => []) r0 () (va_A [] sz)) 0 0 (va_A [] sz) := by
  refine z_ofM (cc := cX4_isAuthor) (maxL := 1) (ret := (some .boolean)) (Qf := fun A => z_Qi D (fun _ : Unit => []) r0 () A) (plainFor_of_name (by decide)) rfl (Nat.le_of_ble_eq_true rfl) ?_
  intro p e s m args below meth co A ls hx hb hr hml hts hown hlocks hnm hA hP hK hD hl hsz
  have hl : lv_has ls 1 [(0, .int p0)] := hl
  have hown : s.vm.findClass RX4 = some m.cls := hown
  obtain ⟨H, hH⟩ : ∃ H, H = s.heap := ⟨_, rfl⟩
  have hS : va_S A s.heap H [] := by rw [hH]; exact va_S.rf
  rw [← hH] at hP ⊢
  clear hH
  unfold fX4_isAuthor at hf
  generalize ([] : List Loc) = locs at hS ⊢
  refine lv_iload_n hx hb dX4_isAuthor_0 rfl (lv_at hl 0 rfl) ?_
  refine lv_if_lt (tgt := 13) hx hb dX4_isAuthor_1 (by decide) (fun c1 => ?_) (fun c1 => ?_)
  · have hf := z_ifT hf c1
    refine lv_iconst (v := (0 : Int32)) hx hb dX4_isAuthor_13 (by decide) ?_
    exact z_zp (wf := (fun _ : Unit => [])) hx hb hr rfl hlocks hP hD hS hf dX4_isAuthor_14
  · have hf := z_ifF hf c1
    refine lv_iload_n hx hb dX4_isAuthor_4 rfl (lv_at hl 0 rfl) ?_
    refine lv_iconst (v := (4 : Int32)) hx hb dX4_isAuthor_5 (by decide) ?_
    refine lv_icmp_ge (tgt := 13) hx hb dX4_isAuthor_6 (by decide) (fun c2 => ?_) (fun c2 => ?_)
    · have hf := z_ifT hf c2
      refine lv_iconst (v := (0 : Int32)) hx hb dX4_isAuthor_13 (by decide) ?_
      exact z_zp (wf := (fun _ : Unit => [])) hx hb hr rfl hlocks hP hD hS hf dX4_isAuthor_14
    · have hf := z_ifF hf c2
      refine lv_iconst (v := (1 : Int32)) hx hb dX4_isAuthor_9 (by decide) ?_
      refine lv_goto (tgt := 14) hx hb dX4_isAuthor_10 (by decide) ?_
      exact z_zp (wf := (fun _ : Unit => [])) hx hb hr rfl hlocks hP hD hS hf dX4_isAuthor_14
abbrev rmX4_isWork : Room := { frames := 0, cells := 0, slots := 0, locals := 0 }
set_option maxRecDepth 100000 in
set_option maxHeartbeats 4000000 in
theorem kX4_isWork (l : Launch) (D : va_G) (c : Nat → ClassId) (N : Nat) (sz : Nat) (p0 : Int32) (r0 : Int32) (hf : fX4_isWork N p0  = some r0) : Met l yX4_isWork wsX4_isWork rmX4_isWork (z_Pc D c sz [] [.int p0]) (z_Qi D (fun _ : Unit => []) r0 () (va_A [] sz)) 0 0 (va_A [] sz) := by
  refine z_ofM (cc := cX4_isWork) (maxL := 1) (ret := (some .boolean)) (Qf := fun A => z_Qi D (fun _ : Unit => []) r0 () A) (plainFor_of_name (by decide)) rfl (Nat.le_of_ble_eq_true rfl) ?_
  intro p e s m args below meth co A ls hx hb hr hml hts hown hlocks hnm hA hP hK hD hl hsz
  have hl : lv_has ls 1 [(0, .int p0)] := hl
  have hown : s.vm.findClass RX4 = some m.cls := hown
  obtain ⟨H, hH⟩ : ∃ H, H = s.heap := ⟨_, rfl⟩
  have hS : va_S A s.heap H [] := by rw [hH]; exact va_S.rf
  rw [← hH] at hP ⊢
  clear hH
  unfold fX4_isWork at hf
  generalize ([] : List Loc) = locs at hS ⊢
  refine lv_iload_n hx hb dX4_isWork_0 rfl (lv_at hl 0 rfl) ?_
  refine lv_iconst (v := (1 : Int32)) hx hb dX4_isWork_1 (by decide) ?_
  refine lv_icmp_lt (tgt := 15) hx hb dX4_isWork_2 (by decide) (fun c1 => ?_) (fun c1 => ?_)
  · have hf := z_ifT hf c1
    refine lv_iconst (v := (0 : Int32)) hx hb dX4_isWork_15 (by decide) ?_
    exact z_zp (wf := (fun _ : Unit => [])) hx hb hr rfl hlocks hP hD hS hf dX4_isWork_16
  · have hf := z_ifF hf c1
    refine lv_iload_n hx hb dX4_isWork_5 rfl (lv_at hl 0 rfl) ?_
    refine lv_bipush (v := (9 : Int32)) hx hb dX4_isWork_6 (by decide) ?_
    refine lv_icmp_gt (tgt := 15) hx hb dX4_isWork_8 (by decide) (fun c2 => ?_) (fun c2 => ?_)
    · have hf := z_ifT hf c2
      refine lv_iconst (v := (0 : Int32)) hx hb dX4_isWork_15 (by decide) ?_
      exact z_zp (wf := (fun _ : Unit => [])) hx hb hr rfl hlocks hP hD hS hf dX4_isWork_16
    · have hf := z_ifF hf c2
      refine lv_iconst (v := (1 : Int32)) hx hb dX4_isWork_11 (by decide) ?_
      refine lv_goto (tgt := 16) hx hb dX4_isWork_12 (by decide) ?_
      exact z_zp (wf := (fun _ : Unit => [])) hx hb hr rfl hlocks hP hD hS hf dX4_isWork_16
abbrev rmX4_isLink : Room := { frames := 0, cells := 0, slots := 0, locals := 0 }
set_option maxRecDepth 100000 in
set_option maxHeartbeats 4000000 in
theorem kX4_isLink (l : Launch) (D : va_G) (c : Nat → ClassId) (N : Nat) (sz : Nat) (p0 : Int32) (r0 : Int32) (hf : fX4_isLink N p0  = some r0) : Met l yX4_isLink wsX4_isLink rmX4_isLink (z_Pc D c sz [] [.int p0]) (z_Qi D (fun _ : Unit => []) r0 () (va_A [] sz)) 0 0 (va_A [] sz) := by
  refine z_ofM (cc := cX4_isLink) (maxL := 1) (ret := (some .boolean)) (Qf := fun A => z_Qi D (fun _ : Unit => []) r0 () A) (plainFor_of_name (by decide)) rfl (Nat.le_of_ble_eq_true rfl) ?_
  intro p e s m args below meth co A ls hx hb hr hml hts hown hlocks hnm hA hP hK hD hl hsz
  have hl : lv_has ls 1 [(0, .int p0)] := hl
  have hown : s.vm.findClass RX4 = some m.cls := hown
  obtain ⟨H, hH⟩ : ∃ H, H = s.heap := ⟨_, rfl⟩
  have hS : va_S A s.heap H [] := by rw [hH]; exact va_S.rf
  rw [← hH] at hP ⊢
  clear hH
  unfold fX4_isLink at hf
  generalize ([] : List Loc) = locs at hS ⊢
  refine lv_iload_n hx hb dX4_isLink_0 rfl (lv_at hl 0 rfl) ?_
  refine lv_iconst (v := (-1 : Int32)) hx hb dX4_isLink_1 (by decide) ?_
  refine lv_icmp_eq (tgt := 15) hx hb dX4_isLink_2 (by decide) (fun c1 => ?_) (fun c1 => ?_)
  · have hf := z_ifT hf c1
    refine lv_iconst (v := (1 : Int32)) hx hb dX4_isLink_15 (by decide) ?_
    refine lv_goto (tgt := 20) hx hb dX4_isLink_16 (by decide) ?_
    exact z_zp (wf := (fun _ : Unit => [])) hx hb hr rfl hlocks hP hD hS hf dX4_isLink_20
  · have hf := z_ifF hf c1
    refine lv_iload_n hx hb dX4_isLink_5 rfl (lv_at hl 0 rfl) ?_
    refine lv_if_lt (tgt := 19) hx hb dX4_isLink_6 (by decide) (fun c2 => ?_) (fun c2 => ?_)
    · have hf := z_ifT hf c2
      refine lv_iconst (v := (0 : Int32)) hx hb dX4_isLink_19 (by decide) ?_
      exact z_zp (wf := (fun _ : Unit => [])) hx hb hr rfl hlocks hP hD hS hf dX4_isLink_20
    · have hf := z_ifF hf c2
      refine lv_iload_n hx hb dX4_isLink_9 rfl (lv_at hl 0 rfl) ?_
      refine lv_bipush (v := (16 : Int32)) hx hb dX4_isLink_10 (by decide) ?_
      refine lv_icmp_ge (tgt := 19) hx hb dX4_isLink_12 (by decide) (fun c3 => ?_) (fun c3 => ?_)
      · have hf := z_ifT hf c3
        refine lv_iconst (v := (0 : Int32)) hx hb dX4_isLink_19 (by decide) ?_
        exact z_zp (wf := (fun _ : Unit => [])) hx hb hr rfl hlocks hP hD hS hf dX4_isLink_20
      · have hf := z_ifF hf c3
        refine lv_iconst (v := (1 : Int32)) hx hb dX4_isLink_15 (by decide) ?_
        refine lv_goto (tgt := 20) hx hb dX4_isLink_16 (by decide) ?_
        exact z_zp (wf := (fun _ : Unit => [])) hx hb hr rfl hlocks hP hD hS hf dX4_isLink_20
abbrev rmX4_isBribe : Room := { frames := 0, cells := 0, slots := 0, locals := 0 }
set_option maxRecDepth 100000 in
set_option maxHeartbeats 4000000 in
theorem kX4_isBribe (l : Launch) (D : va_G) (c : Nat → ClassId) (N : Nat) (sz : Nat) (p0 : Int32) (r0 : Int32) (hf : fX4_isBribe N p0  = some r0) : Met l yX4_isBribe wsX4_isBribe rmX4_isBribe (z_Pc D c sz [] [.int p0]) (z_Qi D (fun _ : Unit => []) r0 () (va_A [] sz)) 0 0 (va_A [] sz) := by
  refine z_ofM (cc := cX4_isBribe) (maxL := 1) (ret := (some .boolean)) (Qf := fun A => z_Qi D (fun _ : Unit => []) r0 () A) (plainFor_of_name (by decide)) rfl (Nat.le_of_ble_eq_true rfl) ?_
  intro p e s m args below meth co A ls hx hb hr hml hts hown hlocks hnm hA hP hK hD hl hsz
  have hl : lv_has ls 1 [(0, .int p0)] := hl
  have hown : s.vm.findClass RX4 = some m.cls := hown
  obtain ⟨H, hH⟩ : ∃ H, H = s.heap := ⟨_, rfl⟩
  have hS : va_S A s.heap H [] := by rw [hH]; exact va_S.rf
  rw [← hH] at hP ⊢
  clear hH
  unfold fX4_isBribe at hf
  generalize ([] : List Loc) = locs at hS ⊢
  refine lv_iload_n hx hb dX4_isBribe_0 rfl (lv_at hl 0 rfl) ?_
  refine lv_if_lt (tgt := 14) hx hb dX4_isBribe_1 (by decide) (fun c1 => ?_) (fun c1 => ?_)
  · have hf := z_ifT hf c1
    refine lv_iconst (v := (0 : Int32)) hx hb dX4_isBribe_14 (by decide) ?_
    exact z_zp (wf := (fun _ : Unit => [])) hx hb hr rfl hlocks hP hD hS hf dX4_isBribe_15
  · have hf := z_ifF hf c1
    refine lv_iload_n hx hb dX4_isBribe_4 rfl (lv_at hl 0 rfl) ?_
    refine lv_bipush (v := (99 : Int32)) hx hb dX4_isBribe_5 (by decide) ?_
    refine lv_icmp_gt (tgt := 14) hx hb dX4_isBribe_7 (by decide) (fun c2 => ?_) (fun c2 => ?_)
    · have hf := z_ifT hf c2
      refine lv_iconst (v := (0 : Int32)) hx hb dX4_isBribe_14 (by decide) ?_
      exact z_zp (wf := (fun _ : Unit => [])) hx hb hr rfl hlocks hP hD hS hf dX4_isBribe_15
    · have hf := z_ifF hf c2
      refine lv_iconst (v := (1 : Int32)) hx hb dX4_isBribe_10 (by decide) ?_
      refine lv_goto (tgt := 15) hx hb dX4_isBribe_11 (by decide) ?_
      exact z_zp (wf := (fun _ : Unit => [])) hx hb hr rfl hlocks hP hD hS hf dX4_isBribe_15
abbrev rmX4_isTurn : Room := { frames := 0, cells := 0, slots := 0, locals := 0 }
set_option maxRecDepth 100000 in
set_option maxHeartbeats 4000000 in
theorem kX4_isTurn (l : Launch) (D : va_G) (c : Nat → ClassId) (N : Nat) (sz : Nat) (p0 : Int32) (r0 : Int32) (hf : fX4_isTurn N p0  = some r0) : Met l yX4_isTurn wsX4_isTurn rmX4_isTurn (z_Pc D c sz [] [.int p0]) (z_Qi D (fun _ : Unit => []) r0 () (va_A [] sz)) 0 0 (va_A [] sz) := by
  refine z_ofM (cc := cX4_isTurn) (maxL := 1) (ret := (some .boolean)) (Qf := fun A => z_Qi D (fun _ : Unit => []) r0 () A) (plainFor_of_name (by decide)) rfl (Nat.le_of_ble_eq_true rfl) ?_
  intro p e s m args below meth co A ls hx hb hr hml hts hown hlocks hnm hA hP hK hD hl hsz
  have hl : lv_has ls 1 [(0, .int p0)] := hl
  have hown : s.vm.findClass RX4 = some m.cls := hown
  obtain ⟨H, hH⟩ : ∃ H, H = s.heap := ⟨_, rfl⟩
  have hS : va_S A s.heap H [] := by rw [hH]; exact va_S.rf
  rw [← hH] at hP ⊢
  clear hH
  unfold fX4_isTurn at hf
  generalize ([] : List Loc) = locs at hS ⊢
  refine lv_iload_n hx hb dX4_isTurn_0 rfl (lv_at hl 0 rfl) ?_
  refine lv_iconst (v := (1 : Int32)) hx hb dX4_isTurn_1 (by decide) ?_
  refine lv_icmp_lt (tgt := 15) hx hb dX4_isTurn_2 (by decide) (fun c1 => ?_) (fun c1 => ?_)
  · have hf := z_ifT hf c1
    refine lv_iconst (v := (0 : Int32)) hx hb dX4_isTurn_15 (by decide) ?_
    exact z_zp (wf := (fun _ : Unit => [])) hx hb hr rfl hlocks hP hD hS hf dX4_isTurn_16
  · have hf := z_ifF hf c1
    refine lv_iload_n hx hb dX4_isTurn_5 rfl (lv_at hl 0 rfl) ?_
    refine lv_bipush (v := (99 : Int32)) hx hb dX4_isTurn_6 (by decide) ?_
    refine lv_icmp_gt (tgt := 15) hx hb dX4_isTurn_8 (by decide) (fun c2 => ?_) (fun c2 => ?_)
    · have hf := z_ifT hf c2
      refine lv_iconst (v := (0 : Int32)) hx hb dX4_isTurn_15 (by decide) ?_
      exact z_zp (wf := (fun _ : Unit => [])) hx hb hr rfl hlocks hP hD hS hf dX4_isTurn_16
    · have hf := z_ifF hf c2
      refine lv_iconst (v := (1 : Int32)) hx hb dX4_isTurn_11 (by decide) ?_
      refine lv_goto (tgt := 16) hx hb dX4_isTurn_12 (by decide) ?_
      exact z_zp (wf := (fun _ : Unit => [])) hx hb hr rfl hlocks hP hD hS hf dX4_isTurn_16
abbrev rmX4_isNumberOfOrder : Room := { frames := 1, cells := 0, slots := 0, locals := 20 }
set_option maxRecDepth 100000 in
set_option maxHeartbeats 4000000 in
theorem kX4_isNumberOfOrder (l : Launch) (D : va_G) (c : Nat → ClassId) (N : Nat) (sz : Nat) (p0 : Int32) (p1 : Int32) (r0 : Int32) (hf : fX4_isNumberOfOrder N p0 p1  = some r0) : Met l yX4_isNumberOfOrder wsX4_isNumberOfOrder rmX4_isNumberOfOrder (z_Pc D c sz [] [.int p0, .int p1]) (z_Qi D (fun _ : Unit => []) r0 () (va_A [] sz)) 0 0 (va_A [] sz) := by
  refine z_ofM (cc := cX4_isNumberOfOrder) (maxL := 2) (ret := (some .boolean)) (Qf := fun A => z_Qi D (fun _ : Unit => []) r0 () A) (plainFor_of_name (by decide)) rfl (Nat.le_of_ble_eq_true rfl) ?_
  intro p e s m args below meth co A ls hx hb hr hml hts hown hlocks hnm hA hP hK hD hl hsz
  have hl : lv_has ls 2 [(0, .int p0), (1, .int p1)] := hl
  have hown : s.vm.findClass RX4 = some m.cls := hown
  obtain ⟨H, hH⟩ : ∃ H, H = s.heap := ⟨_, rfl⟩
  have hS : va_S A s.heap H [] := by rw [hH]; exact va_S.rf
  rw [← hH] at hP ⊢
  clear hH
  unfold fX4_isNumberOfOrder at hf
  generalize ([] : List Loc) = locs at hS ⊢
  refine lv_iload_n hx hb dX4_isNumberOfOrder_0 rfl (lv_at hl 0 rfl) ?_
  by_cases c1_0 : p0 = (0 : Int32)
  · have hf := z_ifT hf c1_0
    refine lv_tableIn (tgt := 36) hx hb dX4_isNumberOfOrder_1 (by rw [c1_0]; decide) (by rw [c1_0]; decide) (off := 35) (by rw [c1_0]; rfl) (by decide) ?_
    refine lv_iload_n hx hb dX4_isNumberOfOrder_36 rfl (lv_at hl 1 rfl) ?_
    obtain ⟨r2, h2, hf⟩ := z_bE hf
    refine z_cSi (As := [.int p1]) (rest := []) ⟨hx, hb, hml, hown, hts⟩ (kX4_isAuthor l D c N H.size p1 r2 h2) (va_cwS 1 hts gX4_isNumberOfOrder_X4_isAuthor rfl rfl rfl (by decide +kernel) ⟨Nat.le_of_ble_eq_true rfl, Nat.le_of_ble_eq_true rfl⟩) hP hK hS hA rfl hl.1 (Nat.le_of_ble_eq_true rfl) rfl dX4_isNumberOfOrder_37 ⟨Nat.zero_le _, Nat.zero_le _⟩ (fun H locs hP hS => ?_)
    obtain ⟨b3, hf⟩ := z_ckE hf
    exact z_zp (wf := (fun _ : Unit => [])) hx hb hr (z_boE b3) hlocks hP hD hS hf dX4_isNumberOfOrder_40
  have hf := z_ifF hf c1_0
  by_cases c1_1 : p0 = (1 : Int32)
  · have hf := z_ifT hf c1_1
    refine lv_tableIn (tgt := 41) hx hb dX4_isNumberOfOrder_1 (by rw [c1_1]; decide) (by rw [c1_1]; decide) (off := 40) (by rw [c1_1]; rfl) (by decide) ?_
    refine lv_iload_n hx hb dX4_isNumberOfOrder_41 rfl (lv_at hl 1 rfl) ?_
    obtain ⟨r4, h4, hf⟩ := z_bE hf
    refine z_cSi (As := [.int p1]) (rest := []) ⟨hx, hb, hml, hown, hts⟩ (kX4_isWork l D c N H.size p1 r4 h4) (va_cwS 1 hts gX4_isNumberOfOrder_X4_isWork rfl rfl rfl (by decide +kernel) ⟨Nat.le_of_ble_eq_true rfl, Nat.le_of_ble_eq_true rfl⟩) hP hK hS hA rfl hl.1 (Nat.le_of_ble_eq_true rfl) rfl dX4_isNumberOfOrder_42 ⟨Nat.zero_le _, Nat.zero_le _⟩ (fun H locs hP hS => ?_)
    obtain ⟨b5, hf⟩ := z_ckE hf
    exact z_zp (wf := (fun _ : Unit => [])) hx hb hr (z_boE b5) hlocks hP hD hS hf dX4_isNumberOfOrder_45
  have hf := z_ifF hf c1_1
  by_cases c1_2 : p0 = (2 : Int32)
  · have hf := z_ifT hf c1_2
    refine lv_tableIn (tgt := 46) hx hb dX4_isNumberOfOrder_1 (by rw [c1_2]; decide) (by rw [c1_2]; decide) (off := 45) (by rw [c1_2]; rfl) (by decide) ?_
    refine lv_iload_n hx hb dX4_isNumberOfOrder_46 rfl (lv_at hl 1 rfl) ?_
    obtain ⟨r6, h6, hf⟩ := z_bE hf
    refine z_cSi (As := [.int p1]) (rest := []) ⟨hx, hb, hml, hown, hts⟩ (kX4_isLink l D c N H.size p1 r6 h6) (va_cwS 1 hts gX4_isNumberOfOrder_X4_isLink rfl rfl rfl (by decide +kernel) ⟨Nat.le_of_ble_eq_true rfl, Nat.le_of_ble_eq_true rfl⟩) hP hK hS hA rfl hl.1 (Nat.le_of_ble_eq_true rfl) rfl dX4_isNumberOfOrder_47 ⟨Nat.zero_le _, Nat.zero_le _⟩ (fun H locs hP hS => ?_)
    obtain ⟨b7, hf⟩ := z_ckE hf
    exact z_zp (wf := (fun _ : Unit => [])) hx hb hr (z_boE b7) hlocks hP hD hS hf dX4_isNumberOfOrder_50
  have hf := z_ifF hf c1_2
  by_cases c1_3 : p0 = (3 : Int32)
  · have hf := z_ifT hf c1_3
    refine lv_tableIn (tgt := 46) hx hb dX4_isNumberOfOrder_1 (by rw [c1_3]; decide) (by rw [c1_3]; decide) (off := 45) (by rw [c1_3]; rfl) (by decide) ?_
    refine lv_iload_n hx hb dX4_isNumberOfOrder_46 rfl (lv_at hl 1 rfl) ?_
    obtain ⟨r8, h8, hf⟩ := z_bE hf
    refine z_cSi (As := [.int p1]) (rest := []) ⟨hx, hb, hml, hown, hts⟩ (kX4_isLink l D c N H.size p1 r8 h8) (va_cwS 1 hts gX4_isNumberOfOrder_X4_isLink rfl rfl rfl (by decide +kernel) ⟨Nat.le_of_ble_eq_true rfl, Nat.le_of_ble_eq_true rfl⟩) hP hK hS hA rfl hl.1 (Nat.le_of_ble_eq_true rfl) rfl dX4_isNumberOfOrder_47 ⟨Nat.zero_le _, Nat.zero_le _⟩ (fun H locs hP hS => ?_)
    obtain ⟨b9, hf⟩ := z_ckE hf
    exact z_zp (wf := (fun _ : Unit => [])) hx hb hr (z_boE b9) hlocks hP hD hS hf dX4_isNumberOfOrder_50
  have hf := z_ifF hf c1_3
  by_cases c1_4 : p0 = (4 : Int32)
  · have hf := z_ifT hf c1_4
    refine lv_tableIn (tgt := 51) hx hb dX4_isNumberOfOrder_1 (by rw [c1_4]; decide) (by rw [c1_4]; decide) (off := 50) (by rw [c1_4]; rfl) (by decide) ?_
    refine lv_iload_n hx hb dX4_isNumberOfOrder_51 rfl (lv_at hl 1 rfl) ?_
    obtain ⟨r10, h10, hf⟩ := z_bE hf
    refine z_cSi (As := [.int p1]) (rest := []) ⟨hx, hb, hml, hown, hts⟩ (kX4_isBribe l D c N H.size p1 r10 h10) (va_cwS 1 hts gX4_isNumberOfOrder_X4_isBribe rfl rfl rfl (by decide +kernel) ⟨Nat.le_of_ble_eq_true rfl, Nat.le_of_ble_eq_true rfl⟩) hP hK hS hA rfl hl.1 (Nat.le_of_ble_eq_true rfl) rfl dX4_isNumberOfOrder_52 ⟨Nat.zero_le _, Nat.zero_le _⟩ (fun H locs hP hS => ?_)
    obtain ⟨b11, hf⟩ := z_ckE hf
    exact z_zp (wf := (fun _ : Unit => [])) hx hb hr (z_boE b11) hlocks hP hD hS hf dX4_isNumberOfOrder_55
  have hf := z_ifF hf c1_4
  refine lv_tableOut (tgt := 56) hx hb dX4_isNumberOfOrder_1 (z_sw0_4 c1_0 c1_1 c1_2 c1_3 c1_4) (by decide) ?_
  refine lv_iconst (v := (0 : Int32)) hx hb dX4_isNumberOfOrder_56 (by decide) ?_
  exact z_zp (wf := (fun _ : Unit => [])) hx hb hr rfl hlocks hP hD hS hf dX4_isNumberOfOrder_57
abbrev rmX4_sum : Room := { frames := 0, cells := 0, slots := 0, locals := 0 }
set_option maxRecDepth 100000 in
set_option maxHeartbeats 4000000 in
theorem kX4_sum (l : Launch) (D : va_G) (c : Nat → ClassId) (N : Nat) (x ln : Nat) (sz : Nat) (f : (Nat → Int32)) (r0 : Int32) (hf : fX4_sum N ln f = some r0) : Met l yX4_sum wsX4_sum rmX4_sum (z_Pc D c sz (z_r1 c x ln f) [.ref x]) (z_Qi D (fun u : Nat → Int32 => z_r1 c x ln u) r0 f (va_A (z_r1 c x ln f) sz)) 0 0 (va_A (z_r1 c x ln f) sz) := by
  refine z_ofM (cc := cX4_sum) (maxL := 3) (ret := (some .int)) (Qf := fun A => z_Qi D (fun u : Nat → Int32 => z_r1 c x ln u) r0 f A) (plainFor_of_name (by decide)) rfl (Nat.le_of_ble_eq_true rfl) ?_
  intro p e s m args below meth co A ls hx hb hr hml hts hown hlocks hnm hA hP hK hD hl hsz
  have hl : lv_has ls 3 [(0, .ref x)] := hl
  have hown : s.vm.findClass RX4 = some m.cls := hown
  obtain ⟨H, hH⟩ : ∃ H, H = s.heap := ⟨_, rfl⟩
  have hS : va_S A s.heap H [] := by rw [hH]; exact va_S.rf
  rw [← hH] at hP ⊢
  clear hH
  have L4 : ∀ (f : (Nat → Int32)) (fu : Nat) (x1 : Int32) (x2 : Int32), lX4_sum_4 N ln f fu x1 x2 = some r0 → ∀ (H : Heap) (locs : List Loc) (ls : Array Slot), va_P D vwCl (z_r1 c x ln f) H → va_D A (z_r1 c x ln f) → va_S A s.heap H locs → lv_has ls 3 [(0, .ref x), (1, .int x1), (2, .int x2)] → W p l e rmX4_sum s m args below meth co H locs 0 0 (MQ below (z_Qi D (fun u : Nat → Int32 => z_r1 c x ln u) r0 f A) args s 0 0 A) (F0 m 4 ls []) := by
    intro f fu
    induction fu with
    | zero =>
      intro x1 x2 hf
      have hf : (none : Option Int32) = some _ := hf
      cases hf
    | succ fu ih =>
      intro x1 x2 hf H locs ls hP hD hS hl
      rw [lX4_sum_4.eq_2] at hf
      refine lv_iload_n hx hb dX4_sum_4 rfl (lv_at hl 2 rfl) ?_
      refine lv_aload_n hx hb dX4_sum_5 rfl (lv_at hl 0 rfl) ?_
      refine va_alen hx hb hK.1 hP 0 0 rfl rfl (v := (Int32.ofNat ln)) rfl dX4_sum_6 ?_
      refine lv_icmp_ge (tgt := 22) hx hb dX4_sum_7 (by decide) (fun c1 => ?_) (fun c1 => ?_)
      · have hf := z_ifT hf c1
        refine lv_iload_n hx hb dX4_sum_22 rfl (lv_at hl 1 rfl) ?_
        exact z_rp (wf := (fun u : Nat → Int32 => z_r1 c x ln u)) hx hb hr hlocks hP hD hS hf dX4_sum_23
      · have hf := z_ifF hf c1
        refine lv_iload_n hx hb dX4_sum_10 rfl (lv_at hl 1 rfl) ?_
        refine lv_aload_n hx hb dX4_sum_11 rfl (lv_at hl 0 rfl) ?_
        refine lv_iload_n hx hb dX4_sum_12 rfl (lv_at hl 2 rfl) ?_
        obtain ⟨b2, hf⟩ := z_ckE hf
        refine va_iald hx hb hK.1 hP 0 0 rfl rfl (z_inE b2) dX4_sum_13 ?_
        refine lv_iadd hx hb dX4_sum_14 ?_
        refine lv_istore_n (lv' := [(1, .int (x1 + (f (x2).toNatClampNeg))), (0, .ref x), (2, .int x2)]) hx hb dX4_sum_15 rfl hl (by decide) rfl (fun ls hl => ?_)
        refine lv_iinc (v := (x2 + (1 : Int32))) (lv' := [(2, .int (x2 + (1 : Int32))), (1, .int (x1 + (f (x2).toNatClampNeg))), (0, .ref x)]) hx hb dX4_sum_16 hl (k := 2) rfl rfl (by decide) rfl (fun ls hl => ?_)
        refine lv_goto (tgt := 4) hx hb dX4_sum_19 (by decide) ?_
        exact ih _ _ hf H locs ls hP hD hS (lv_sub hl [2, 1, 0] rfl)
  unfold fX4_sum at hf
  generalize ([] : List Loc) = locs at hS ⊢
  refine lv_iconst (v := (0 : Int32)) hx hb dX4_sum_0 (by decide) ?_
  refine lv_istore_n (lv' := [(1, .int (0 : Int32)), (0, .ref x)]) hx hb dX4_sum_1 rfl hl (by decide) rfl (fun ls hl => ?_)
  refine lv_iconst (v := (0 : Int32)) hx hb dX4_sum_2 (by decide) ?_
  refine lv_istore_n (lv' := [(2, .int (0 : Int32)), (1, .int (0 : Int32)), (0, .ref x)]) hx hb dX4_sum_3 rfl hl (by decide) rfl (fun ls hl => ?_)
  exact L4 _ N _ _ hf H locs ls hP hD hS (lv_sub hl [2, 1, 0] rfl)
