abbrev rmL_append : Room := { frames := 7, cells := 1, slots := 6, locals := 103 }
theorem qL_append_c13 : Cond.classLink RL 13 "java/lang/IllegalArgumentException" ∈ wsL_append := by decide +kernel
theorem qL_append_c15 : Cond.classLink RL 15 "java/lang/IllegalStateException" ∈ wsL_append := by decide +kernel
set_option maxRecDepth 100000 in
set_option maxHeartbeats 4000000 in
theorem kL_append (l : Launch) (hlst : l.stackTraces = false) (D : va_G) (c : Nat → ClassId) (N : Nat) (b : Nat → Nat) (a : Nat → Nat → Nat) (o : Nat) (sz : Nat) (Y : z_H) (p1 : Int32) (r0 : Int32) (g0 : z_H) (hf : fL_append N p1 Y = some (r0, g0)) : Met l yL_append wsL_append rmL_append (z_Pt D c sz (z_hw c b a o Y) [.ref (b 0), .int p1, .ref o]) (z_Qi D (z_hw c b a o) r0 g0 (va_A (z_hw c b a o Y) sz)) 1 6 (va_A (z_hw c b a o Y) sz) := by
  refine z_ofH (cc := cL_append) (maxL := 4) (ret := (some .int)) (Qf := fun A => z_Qi D (z_hw c b a o) r0 g0 A) (by decide) rfl (Nat.le_of_ble_eq_true rfl) ?_
  intro p e s m args below meth co A ls hx hb hr hml hts hown hlocks htb hA hP hK hD hE hl hsz
  have hl : lv_has ls 4 [(0, .ref (b 0)), (1, .int p1), (2, .ref o)] := hl
  have hown : s.vm.findClass RL = some m.cls := hown
  obtain ⟨H, hH⟩ : ∃ H, H = s.heap := ⟨_, rfl⟩
  have hS : va_S A s.heap H [] := by rw [hH]; exact va_S.rf
  have hE0 := hE
  have hE : z_EH A s H := by rw [hH]; exact hE
  rw [← hH] at hP ⊢
  clear hH
  unfold fL_append at hf
  generalize ([] : List Loc) = locs at hS ⊢
  refine lv_aload_n hx hb dL_append_0 rfl (lv_at hl 2 rfl) ?_
  refine lv_iconst (v := (0 : Int32)) hx hb dL_append_1 (by decide) ?_
  refine lv_aload_n hx hb dL_append_2 rfl (lv_at hl 0 rfl) ?_
  refine lv_iload_n hx hb dL_append_3 rfl (lv_at hl 1 rfl) ?_
  obtain ⟨o1, X1, h1, hf⟩ := z_b2E hf
  obtain ⟨Y1, e1, hf⟩ := z_ltE hf
  refine z_xT (As := [.int p1]) (rest := [.int (0 : Int32), .ref o]) (wf := z_dw c b a) (g := Y.1) (u0 := X1) (V2 := z_hw c b a o Y1) ⟨hx, hb, hml, hown, hts⟩ (kX4_append l hlst D c N b a H.size Y.1 p1 o1 X1 h1) (cwV 1 hts gL_append_X4_append rfl rfl rfl (by decide +kernel) ⟨Nat.le_of_ble_eq_true rfl, Nat.le_of_ble_eq_true rfl⟩) hP hK hD hS hA hE (by rw [e1]; exact z_cutH hD X1) (ci := 4) (q0 := 0) rfl rfl rfl rfl hl.1 (Nat.le_of_ble_eq_true rfl) rfl dL_append_4 ⟨Nat.le_of_ble_eq_true rfl, Nat.le_of_ble_eq_true rfl⟩ (fun k q9 ce H locs e9 hP hD hS c1 c2 c3 => ?_) (fun r1 H locs e9 hP hD hS => ?_)
  · have hf := z_smR hf e9
    by_cases c9_0 : k = 1
    · have hf := z_ifT hf c9_0
      rw [c9_0] at c3
      refine vx_catch (own := RL) (name := z_ex 1) (E := z_ex 1) hown [] ⟨0, 9, 12, 13⟩ [⟨0, 9, 15, 15⟩] (htb.trans rfl) (fun _ h => absurd h List.not_mem_nil) (by decide) (by decide) (hts _ qL_append_c13) (va_Nw.use rfl (hE.2.2.2.2.1 (z_ex 1, z_ex 1) (by decide +kernel))) c1 c2 c3 ?_
      refine lv_astore_n (lv' := [(3, .ref q9), (0, .ref (b 0)), (1, .int p1), (2, .ref o)]) hx hb dL_append_12 rfl hl (by decide) rfl (fun ls hl => ?_)
      refine lv_iconst (v := (1 : Int32)) hx hb dL_append_13 (by decide) ?_
      exact z_rH (wf := (z_hw c b a o)) hx hb hr hlocks hP hD hS hf dL_append_14
    have hf := z_ifF hf c9_0
    by_cases c9_1 : k = 2
    · have hf := z_ifT hf c9_1
      rw [c9_1] at c3
      refine vx_catch (own := RL) (name := z_ex 2) (E := z_ex 2) hown [⟨0, 9, 12, 13⟩] ⟨0, 9, 15, 15⟩ [] (htb.trans rfl) (List.forall_mem_cons.mpr ⟨Or.inr ⟨by decide, z_ex 1, hts _ qL_append_c13, hE.2.2.2.2.2 (z_ex 2, z_ex 1) (by decide +kernel)⟩, fun _ h => absurd h List.not_mem_nil⟩) (by decide) (by decide) (hts _ qL_append_c15) (va_Nw.use rfl (hE.2.2.2.2.1 (z_ex 2, z_ex 2) (by decide +kernel))) c1 c2 c3 ?_
      refine lv_astore_n (lv' := [(3, .ref q9), (0, .ref (b 0)), (1, .int p1), (2, .ref o)]) hx hb dL_append_15 rfl hl (by decide) rfl (fun ls hl => ?_)
      refine lv_iconst (v := (2 : Int32)) hx hb dL_append_16 (by decide) ?_
      exact z_rH (wf := (z_hw c b a o)) hx hb hr hlocks hP hD hS hf dL_append_17
    have hf := z_ifF hf c9_1
    cases hf
  · have hf := z_smL hf e9
    refine lv_i2l (v := (r1).toInt64) hx hb dL_append_7 rfl ?_
    refine va_last hx hb hK.1 hP hD hS 311 3 z_hwAt rfl (z_inE (by decide)) dL_append_8 (fun H locs hP hD hS => ?_)
    obtain ⟨Y2, e2, hf⟩ := z_ltE hf
    have hP : va_P D vwCl (z_hw c b a o Y2) H := by rw [e2, ← z_hwSet]; exact hP
    have hD : va_D A (z_hw c b a o Y2) := by rw [e2, ← z_hwSet]; exact hD
    clear e2
    refine lv_goto (tgt := 18) hx hb dL_append_9 (by decide) ?_
    refine lv_iconst (v := (0 : Int32)) hx hb dL_append_18 (by decide) ?_
    exact z_rH (wf := (z_hw c b a o)) hx hb hr hlocks hP hD hS hf dL_append_19
abbrev rmL_load : Room := { frames := 7, cells := 1, slots := 6, locals := 108 }
theorem qL_load_c15 : Cond.classLink RL 15 "java/lang/IllegalStateException" ∈ wsL_load := by decide +kernel
set_option maxRecDepth 100000 in
set_option maxHeartbeats 4000000 in
theorem kL_load (l : Launch) (hlst : l.stackTraces = false) (D : va_G) (c : Nat → ClassId) (N : Nat) (b : Nat → Nat) (a : Nat → Nat → Nat) (o : Nat) (sz : Nat) (Y : z_H) (r0 : Int32) (g0 : z_H) (hf : fL_load N Y = some (r0, g0)) : Met l yL_load wsL_load rmL_load (z_Pt D c sz (z_hw c b a o Y) [.ref (b 0), .ref o]) (z_Qi D (z_hw c b a o) r0 g0 (va_A (z_hw c b a o Y) sz)) 1 6 (va_A (z_hw c b a o Y) sz) := by
  refine z_ofH (cc := cL_load) (maxL := 3) (ret := (some .int)) (Qf := fun A => z_Qi D (z_hw c b a o) r0 g0 A) (by decide) rfl (Nat.le_of_ble_eq_true rfl) ?_
  intro p e s m args below meth co A ls hx hb hr hml hts hown hlocks htb hA hP hK hD hE hl hsz
  have hl : lv_has ls 3 [(0, .ref (b 0)), (1, .ref o)] := hl
  have hown : s.vm.findClass RL = some m.cls := hown
  obtain ⟨H, hH⟩ : ∃ H, H = s.heap := ⟨_, rfl⟩
  have hS : va_S A s.heap H [] := by rw [hH]; exact va_S.rf
  have hE0 := hE
  have hE : z_EH A s H := by rw [hH]; exact hE
  rw [← hH] at hP ⊢
  clear hH
  unfold fL_load at hf
  generalize ([] : List Loc) = locs at hS ⊢
  refine lv_aload_n hx hb dL_load_0 rfl (lv_at hl 1 rfl) ?_
  refine lv_iconst (v := (0 : Int32)) hx hb dL_load_1 (by decide) ?_
  refine lv_aload_n hx hb dL_load_2 rfl (lv_at hl 0 rfl) ?_
  obtain ⟨o1, X1, h1, hf⟩ := z_b2E hf
  obtain ⟨Y1, e1, hf⟩ := z_ltE hf
  refine z_xT (As := []) (rest := [.int (0 : Int32), .ref o]) (wf := z_dw c b a) (g := Y.1) (u0 := X1) (V2 := z_hw c b a o Y1) ⟨hx, hb, hml, hown, hts⟩ (kX4_load l hlst D c N b a H.size Y.1  o1 X1 h1) (cwV 0 hts gL_load_X4_load rfl rfl rfl (by decide +kernel) ⟨Nat.le_of_ble_eq_true rfl, Nat.le_of_ble_eq_true rfl⟩) hP hK hD hS hA hE (by rw [e1]; exact z_cutH hD X1) (ci := 4) (q0 := 0) rfl rfl rfl rfl hl.1 (Nat.le_of_ble_eq_true rfl) rfl dL_load_3 ⟨Nat.le_of_ble_eq_true rfl, Nat.le_of_ble_eq_true rfl⟩ (fun k q9 ce H locs e9 hP hD hS c1 c2 c3 => ?_) (fun r1 H locs e9 hP hD hS => ?_)
  · have hf := z_smR hf e9
    by_cases c9_0 : k = 2
    · have hf := z_ifT hf c9_0
      rw [c9_0] at c3
      refine vx_catch (own := RL) (name := z_ex 2) (E := z_ex 2) hown [] ⟨0, 8, 11, 15⟩ [] (htb.trans rfl) (fun _ h => absurd h List.not_mem_nil) (by decide) (by decide) (hts _ qL_load_c15) (va_Nw.use rfl (hE.2.2.2.2.1 (z_ex 2, z_ex 2) (by decide +kernel))) c1 c2 c3 ?_
      refine lv_astore_n (lv' := [(2, .ref q9), (0, .ref (b 0)), (1, .ref o)]) hx hb dL_load_11 rfl hl (by decide) rfl (fun ls hl => ?_)
      refine lv_iconst (v := (1 : Int32)) hx hb dL_load_12 (by decide) ?_
      exact z_rH (wf := (z_hw c b a o)) hx hb hr hlocks hP hD hS hf dL_load_13
    have hf := z_ifF hf c9_0
    cases hf
  · have hf := z_smL hf e9
    refine lv_i2l (v := (r1).toInt64) hx hb dL_load_6 rfl ?_
    refine va_last hx hb hK.1 hP hD hS 311 3 z_hwAt rfl (z_inE (by decide)) dL_load_7 (fun H locs hP hD hS => ?_)
    obtain ⟨Y2, e2, hf⟩ := z_ltE hf
    have hP : va_P D vwCl (z_hw c b a o Y2) H := by rw [e2, ← z_hwSet]; exact hP
    have hD : va_D A (z_hw c b a o Y2) := by rw [e2, ← z_hwSet]; exact hD
    clear e2
    refine lv_goto (tgt := 14) hx hb dL_load_8 (by decide) ?_
    refine lv_iconst (v := (0 : Int32)) hx hb dL_load_14 (by decide) ?_
    exact z_rH (wf := (z_hw c b a o)) hx hb hr hlocks hP hD hS hf dL_load_15
abbrev rmL_about : Room := { frames := 7, cells := 1, slots := 6, locals := 103 }
theorem qL_about_c13 : Cond.classLink RL 13 "java/lang/IllegalArgumentException" ∈ wsL_about := by decide +kernel
set_option maxRecDepth 100000 in
set_option maxHeartbeats 4000000 in
theorem kL_about (l : Launch) (hlst : l.stackTraces = false) (D : va_G) (c : Nat → ClassId) (N : Nat) (b : Nat → Nat) (a : Nat → Nat → Nat) (o : Nat) (sz : Nat) (Y : z_H) (p1 : Int32) (r0 : Int32) (g0 : z_H) (hf : fL_about N p1 Y = some (r0, g0)) : Met l yL_about wsL_about rmL_about (z_Pt D c sz (z_hw c b a o Y) [.ref (b 0), .int p1, .ref o]) (z_Qi D (z_hw c b a o) r0 g0 (va_A (z_hw c b a o Y) sz)) 1 6 (va_A (z_hw c b a o Y) sz) := by
  refine z_ofH (cc := cL_about) (maxL := 4) (ret := (some .int)) (Qf := fun A => z_Qi D (z_hw c b a o) r0 g0 A) (by decide) rfl (Nat.le_of_ble_eq_true rfl) ?_
  intro p e s m args below meth co A ls hx hb hr hml hts hown hlocks htb hA hP hK hD hE hl hsz
  have hl : lv_has ls 4 [(0, .ref (b 0)), (1, .int p1), (2, .ref o)] := hl
  have hown : s.vm.findClass RL = some m.cls := hown
  obtain ⟨H, hH⟩ : ∃ H, H = s.heap := ⟨_, rfl⟩
  have hS : va_S A s.heap H [] := by rw [hH]; exact va_S.rf
  have hE0 := hE
  have hE : z_EH A s H := by rw [hH]; exact hE
  rw [← hH] at hP ⊢
  clear hH
  unfold fL_about at hf
  generalize ([] : List Loc) = locs at hS ⊢
  refine lv_aload_n hx hb dL_about_0 rfl (lv_at hl 2 rfl) ?_
  refine lv_iconst (v := (0 : Int32)) hx hb dL_about_1 (by decide) ?_
  refine lv_aload_n hx hb dL_about_2 rfl (lv_at hl 0 rfl) ?_
  refine lv_iload_n hx hb dL_about_3 rfl (lv_at hl 1 rfl) ?_
  obtain ⟨o1, X1, h1, hf⟩ := z_b2E hf
  obtain ⟨Y1, e1, hf⟩ := z_ltE hf
  refine z_xT (As := [.int p1]) (rest := [.int (0 : Int32), .ref o]) (wf := z_dw c b a) (g := Y.1) (u0 := X1) (V2 := z_hw c b a o Y1) ⟨hx, hb, hml, hown, hts⟩ (kX4_about l hlst D c N b a H.size Y.1 p1 o1 X1 h1) (cwV 1 hts gL_about_X4_about rfl rfl rfl (by decide +kernel) ⟨Nat.le_of_ble_eq_true rfl, Nat.le_of_ble_eq_true rfl⟩) hP hK hD hS hA hE (by rw [e1]; exact z_cutH hD X1) (ci := 4) (q0 := 0) rfl rfl rfl rfl hl.1 (Nat.le_of_ble_eq_true rfl) rfl dL_about_4 ⟨Nat.le_of_ble_eq_true rfl, Nat.le_of_ble_eq_true rfl⟩ (fun k q9 ce H locs e9 hP hD hS c1 c2 c3 => ?_) (fun r1 H locs e9 hP hD hS => ?_)
  · have hf := z_smR hf e9
    by_cases c9_0 : k = 1
    · have hf := z_ifT hf c9_0
      rw [c9_0] at c3
      refine vx_catch (own := RL) (name := z_ex 1) (E := z_ex 1) hown [] ⟨0, 9, 12, 13⟩ [] (htb.trans rfl) (fun _ h => absurd h List.not_mem_nil) (by decide) (by decide) (hts _ qL_about_c13) (va_Nw.use rfl (hE.2.2.2.2.1 (z_ex 1, z_ex 1) (by decide +kernel))) c1 c2 c3 ?_
      refine lv_astore_n (lv' := [(3, .ref q9), (0, .ref (b 0)), (1, .int p1), (2, .ref o)]) hx hb dL_about_12 rfl hl (by decide) rfl (fun ls hl => ?_)
      refine lv_iconst (v := (1 : Int32)) hx hb dL_about_13 (by decide) ?_
      exact z_rH (wf := (z_hw c b a o)) hx hb hr hlocks hP hD hS hf dL_about_14
    have hf := z_ifF hf c9_0
    cases hf
  · have hf := z_smL hf e9
    refine lv_i2l (v := (r1).toInt64) hx hb dL_about_7 rfl ?_
    refine va_last hx hb hK.1 hP hD hS 311 3 z_hwAt rfl (z_inE (by decide)) dL_about_8 (fun H locs hP hD hS => ?_)
    obtain ⟨Y2, e2, hf⟩ := z_ltE hf
    have hP : va_P D vwCl (z_hw c b a o Y2) H := by rw [e2, ← z_hwSet]; exact hP
    have hD : va_D A (z_hw c b a o Y2) := by rw [e2, ← z_hwSet]; exact hD
    clear e2
    refine lv_goto (tgt := 15) hx hb dL_about_9 (by decide) ?_
    refine lv_iconst (v := (0 : Int32)) hx hb dL_about_15 (by decide) ?_
    exact z_rH (wf := (z_hw c b a o)) hx hb hr hlocks hP hD hS hf dL_about_16
abbrev rmL_order : Room := { frames := 7, cells := 1, slots := 6, locals := 104 }
theorem qL_order_c28 : Cond.classLink RL 28 "java/lang/IndexOutOfBoundsException" ∈ wsL_order := by decide +kernel
theorem qL_order_c13 : Cond.classLink RL 13 "java/lang/IllegalArgumentException" ∈ wsL_order := by decide +kernel
set_option maxRecDepth 100000 in
set_option maxHeartbeats 4000000 in
theorem kL_order (l : Launch) (hlst : l.stackTraces = false) (D : va_G) (c : Nat → ClassId) (N : Nat) (b : Nat → Nat) (a : Nat → Nat → Nat) (o : Nat) (sz : Nat) (Y : z_H) (p1 : Int32) (p2 : Int32) (r0 : Int32) (g0 : z_H) (hf : fL_order N p1 p2 Y = some (r0, g0)) : Met l yL_order wsL_order rmL_order (z_Pt D c sz (z_hw c b a o Y) [.ref (b 0), .int p1, .int p2, .ref o]) (z_Qi D (z_hw c b a o) r0 g0 (va_A (z_hw c b a o Y) sz)) 1 6 (va_A (z_hw c b a o Y) sz) := by
  refine z_ofH (cc := cL_order) (maxL := 5) (ret := (some .int)) (Qf := fun A => z_Qi D (z_hw c b a o) r0 g0 A) (by decide) rfl (Nat.le_of_ble_eq_true rfl) ?_
  intro p e s m args below meth co A ls hx hb hr hml hts hown hlocks htb hA hP hK hD hE hl hsz
  have hl : lv_has ls 5 [(0, .ref (b 0)), (1, .int p1), (2, .int p2), (3, .ref o)] := hl
  have hown : s.vm.findClass RL = some m.cls := hown
  obtain ⟨H, hH⟩ : ∃ H, H = s.heap := ⟨_, rfl⟩
  have hS : va_S A s.heap H [] := by rw [hH]; exact va_S.rf
  have hE0 := hE
  have hE : z_EH A s H := by rw [hH]; exact hE
  rw [← hH] at hP ⊢
  clear hH
  unfold fL_order at hf
  generalize ([] : List Loc) = locs at hS ⊢
  refine lv_aload_n hx hb dL_order_0 rfl (lv_at hl 3 rfl) ?_
  refine lv_iconst (v := (0 : Int32)) hx hb dL_order_1 (by decide) ?_
  refine lv_aload_n hx hb dL_order_2 rfl (lv_at hl 0 rfl) ?_
  refine lv_iload_n hx hb dL_order_3 rfl (lv_at hl 1 rfl) ?_
  refine lv_iload_n hx hb dL_order_4 rfl (lv_at hl 2 rfl) ?_
  obtain ⟨o1, X1, h1, hf⟩ := z_b2E hf
  obtain ⟨Y1, e1, hf⟩ := z_ltE hf
  refine z_xT (As := [.int p1, .int p2]) (rest := [.int (0 : Int32), .ref o]) (wf := z_dw c b a) (g := Y.1) (u0 := X1) (V2 := z_hw c b a o Y1) ⟨hx, hb, hml, hown, hts⟩ (kX4_order l hlst D c N b a H.size Y.1 p1 p2 o1 X1 h1) (cwV 2 hts gL_order_X4_order rfl rfl rfl (by decide +kernel) ⟨Nat.le_of_ble_eq_true rfl, Nat.le_of_ble_eq_true rfl⟩) hP hK hD hS hA hE (by rw [e1]; exact z_cutH hD X1) (ci := 4) (q0 := 0) rfl rfl rfl rfl hl.1 (Nat.le_of_ble_eq_true rfl) rfl dL_order_5 ⟨Nat.le_of_ble_eq_true rfl, Nat.le_of_ble_eq_true rfl⟩ (fun k q9 ce H locs e9 hP hD hS c1 c2 c3 => ?_) (fun r1 H locs e9 hP hD hS => ?_)
  · have hf := z_smR hf e9
    by_cases c9_0 : k = 3
    · have hf := z_ifT hf c9_0
      rw [c9_0] at c3
      refine vx_catch (own := RL) (name := z_ex 3) (E := z_ex 3) hown [] ⟨0, 10, 13, 28⟩ [⟨0, 10, 17, 13⟩] (htb.trans rfl) (fun _ h => absurd h List.not_mem_nil) (by decide) (by decide) (hts _ qL_order_c28) (va_Nw.use rfl (hE.2.2.2.2.1 (z_ex 3, z_ex 3) (by decide +kernel))) c1 c2 c3 ?_
      refine lv_astore (lv' := [(4, .ref q9), (0, .ref (b 0)), (1, .int p1), (2, .int p2), (3, .ref o)]) hx hb dL_order_13 hl (by decide) rfl (fun ls hl => ?_)
      refine lv_iconst (v := (1 : Int32)) hx hb dL_order_15 (by decide) ?_
      exact z_rH (wf := (z_hw c b a o)) hx hb hr hlocks hP hD hS hf dL_order_16
    have hf := z_ifF hf c9_0
    by_cases c9_1 : k = 1
    · have hf := z_ifT hf c9_1
      rw [c9_1] at c3
      refine vx_catch (own := RL) (name := z_ex 1) (E := z_ex 1) hown [⟨0, 10, 13, 28⟩] ⟨0, 10, 17, 13⟩ [] (htb.trans rfl) (List.forall_mem_cons.mpr ⟨Or.inr ⟨by decide, z_ex 3, hts _ qL_order_c28, hE.2.2.2.2.2 (z_ex 1, z_ex 3) (by decide +kernel)⟩, fun _ h => absurd h List.not_mem_nil⟩) (by decide) (by decide) (hts _ qL_order_c13) (va_Nw.use rfl (hE.2.2.2.2.1 (z_ex 1, z_ex 1) (by decide +kernel))) c1 c2 c3 ?_
      refine lv_astore (lv' := [(4, .ref q9), (0, .ref (b 0)), (1, .int p1), (2, .int p2), (3, .ref o)]) hx hb dL_order_17 hl (by decide) rfl (fun ls hl => ?_)
      refine lv_iconst (v := (2 : Int32)) hx hb dL_order_19 (by decide) ?_
      exact z_rH (wf := (z_hw c b a o)) hx hb hr hlocks hP hD hS hf dL_order_20
    have hf := z_ifF hf c9_1
    cases hf
  · have hf := z_smL hf e9
    refine lv_i2l (v := (r1).toInt64) hx hb dL_order_8 rfl ?_
    refine va_last hx hb hK.1 hP hD hS 311 3 z_hwAt rfl (z_inE (by decide)) dL_order_9 (fun H locs hP hD hS => ?_)
    obtain ⟨Y2, e2, hf⟩ := z_ltE hf
    have hP : va_P D vwCl (z_hw c b a o Y2) H := by rw [e2, ← z_hwSet]; exact hP
    have hD : va_D A (z_hw c b a o Y2) := by rw [e2, ← z_hwSet]; exact hD
    clear e2
    refine lv_goto (tgt := 21) hx hb dL_order_10 (by decide) ?_
    refine lv_iconst (v := (0 : Int32)) hx hb dL_order_21 (by decide) ?_
    exact z_rH (wf := (z_hw c b a o)) hx hb hr hlocks hP hD hS hf dL_order_22
abbrev rmL_author : Room := { frames := 7, cells := 1, slots := 6, locals := 104 }
theorem qL_author_c28 : Cond.classLink RL 28 "java/lang/IndexOutOfBoundsException" ∈ wsL_author := by decide +kernel
theorem qL_author_c13 : Cond.classLink RL 13 "java/lang/IllegalArgumentException" ∈ wsL_author := by decide +kernel
set_option maxRecDepth 100000 in
set_option maxHeartbeats 4000000 in
theorem kL_author (l : Launch) (hlst : l.stackTraces = false) (D : va_G) (c : Nat → ClassId) (N : Nat) (b : Nat → Nat) (a : Nat → Nat → Nat) (o : Nat) (sz : Nat) (Y : z_H) (p1 : Int32) (p2 : Int32) (r0 : Int32) (g0 : z_H) (hf : fL_author N p1 p2 Y = some (r0, g0)) : Met l yL_author wsL_author rmL_author (z_Pt D c sz (z_hw c b a o Y) [.ref (b 0), .int p1, .int p2, .ref o]) (z_Qi D (z_hw c b a o) r0 g0 (va_A (z_hw c b a o Y) sz)) 1 6 (va_A (z_hw c b a o Y) sz) := by
  refine z_ofH (cc := cL_author) (maxL := 5) (ret := (some .int)) (Qf := fun A => z_Qi D (z_hw c b a o) r0 g0 A) (by decide) rfl (Nat.le_of_ble_eq_true rfl) ?_
  intro p e s m args below meth co A ls hx hb hr hml hts hown hlocks htb hA hP hK hD hE hl hsz
  have hl : lv_has ls 5 [(0, .ref (b 0)), (1, .int p1), (2, .int p2), (3, .ref o)] := hl
  have hown : s.vm.findClass RL = some m.cls := hown
  obtain ⟨H, hH⟩ : ∃ H, H = s.heap := ⟨_, rfl⟩
  have hS : va_S A s.heap H [] := by rw [hH]; exact va_S.rf
  have hE0 := hE
  have hE : z_EH A s H := by rw [hH]; exact hE
  rw [← hH] at hP ⊢
  clear hH
  unfold fL_author at hf
  generalize ([] : List Loc) = locs at hS ⊢
  refine lv_aload_n hx hb dL_author_0 rfl (lv_at hl 3 rfl) ?_
  refine lv_iconst (v := (0 : Int32)) hx hb dL_author_1 (by decide) ?_
  refine lv_aload_n hx hb dL_author_2 rfl (lv_at hl 0 rfl) ?_
  refine lv_iload_n hx hb dL_author_3 rfl (lv_at hl 1 rfl) ?_
  refine lv_iload_n hx hb dL_author_4 rfl (lv_at hl 2 rfl) ?_
  obtain ⟨o1, X1, h1, hf⟩ := z_b2E hf
  obtain ⟨Y1, e1, hf⟩ := z_ltE hf
  refine z_xT (As := [.int p1, .int p2]) (rest := [.int (0 : Int32), .ref o]) (wf := z_dw c b a) (g := Y.1) (u0 := X1) (V2 := z_hw c b a o Y1) ⟨hx, hb, hml, hown, hts⟩ (kX4_author l hlst D c N b a H.size Y.1 p1 p2 o1 X1 h1) (cwV 2 hts gL_author_X4_author rfl rfl rfl (by decide +kernel) ⟨Nat.le_of_ble_eq_true rfl, Nat.le_of_ble_eq_true rfl⟩) hP hK hD hS hA hE (by rw [e1]; exact z_cutH hD X1) (ci := 4) (q0 := 0) rfl rfl rfl rfl hl.1 (Nat.le_of_ble_eq_true rfl) rfl dL_author_5 ⟨Nat.le_of_ble_eq_true rfl, Nat.le_of_ble_eq_true rfl⟩ (fun k q9 ce H locs e9 hP hD hS c1 c2 c3 => ?_) (fun r1 H locs e9 hP hD hS => ?_)
  · have hf := z_smR hf e9
    by_cases c9_0 : k = 3
    · have hf := z_ifT hf c9_0
      rw [c9_0] at c3
      refine vx_catch (own := RL) (name := z_ex 3) (E := z_ex 3) hown [] ⟨0, 10, 13, 28⟩ [⟨0, 10, 17, 13⟩] (htb.trans rfl) (fun _ h => absurd h List.not_mem_nil) (by decide) (by decide) (hts _ qL_author_c28) (va_Nw.use rfl (hE.2.2.2.2.1 (z_ex 3, z_ex 3) (by decide +kernel))) c1 c2 c3 ?_
      refine lv_astore (lv' := [(4, .ref q9), (0, .ref (b 0)), (1, .int p1), (2, .int p2), (3, .ref o)]) hx hb dL_author_13 hl (by decide) rfl (fun ls hl => ?_)
      refine lv_iconst (v := (1 : Int32)) hx hb dL_author_15 (by decide) ?_
      exact z_rH (wf := (z_hw c b a o)) hx hb hr hlocks hP hD hS hf dL_author_16
    have hf := z_ifF hf c9_0
    by_cases c9_1 : k = 1
    · have hf := z_ifT hf c9_1
      rw [c9_1] at c3
      refine vx_catch (own := RL) (name := z_ex 1) (E := z_ex 1) hown [⟨0, 10, 13, 28⟩] ⟨0, 10, 17, 13⟩ [] (htb.trans rfl) (List.forall_mem_cons.mpr ⟨Or.inr ⟨by decide, z_ex 3, hts _ qL_author_c28, hE.2.2.2.2.2 (z_ex 1, z_ex 3) (by decide +kernel)⟩, fun _ h => absurd h List.not_mem_nil⟩) (by decide) (by decide) (hts _ qL_author_c13) (va_Nw.use rfl (hE.2.2.2.2.1 (z_ex 1, z_ex 1) (by decide +kernel))) c1 c2 c3 ?_
      refine lv_astore (lv' := [(4, .ref q9), (0, .ref (b 0)), (1, .int p1), (2, .int p2), (3, .ref o)]) hx hb dL_author_17 hl (by decide) rfl (fun ls hl => ?_)
      refine lv_iconst (v := (2 : Int32)) hx hb dL_author_19 (by decide) ?_
      exact z_rH (wf := (z_hw c b a o)) hx hb hr hlocks hP hD hS hf dL_author_20
    have hf := z_ifF hf c9_1
    cases hf
  · have hf := z_smL hf e9
    refine lv_i2l (v := (r1).toInt64) hx hb dL_author_8 rfl ?_
    refine va_last hx hb hK.1 hP hD hS 311 3 z_hwAt rfl (z_inE (by decide)) dL_author_9 (fun H locs hP hD hS => ?_)
    obtain ⟨Y2, e2, hf⟩ := z_ltE hf
    have hP : va_P D vwCl (z_hw c b a o Y2) H := by rw [e2, ← z_hwSet]; exact hP
    have hD : va_D A (z_hw c b a o Y2) := by rw [e2, ← z_hwSet]; exact hD
    clear e2
    refine lv_goto (tgt := 21) hx hb dL_author_10 (by decide) ?_
    refine lv_iconst (v := (0 : Int32)) hx hb dL_author_21 (by decide) ?_
    exact z_rH (wf := (z_hw c b a o)) hx hb hr hlocks hP hD hS hf dL_author_22
abbrev rmL_at : Room := { frames := 7, cells := 1, slots := 6, locals := 103 }
theorem qL_at_c28 : Cond.classLink RL 28 "java/lang/IndexOutOfBoundsException" ∈ wsL_at := by decide +kernel
set_option maxRecDepth 100000 in
set_option maxHeartbeats 4000000 in
theorem kL_at (l : Launch) (hlst : l.stackTraces = false) (D : va_G) (c : Nat → ClassId) (N : Nat) (b : Nat → Nat) (a : Nat → Nat → Nat) (o : Nat) (sz : Nat) (Y : z_H) (p1 : Int32) (r0 : Int32) (g0 : z_H) (hf : fL_at N p1 Y = some (r0, g0)) : Met l yL_at wsL_at rmL_at (z_Pt D c sz (z_hw c b a o Y) [.ref (b 0), .int p1, .ref o]) (z_Qi D (z_hw c b a o) r0 g0 (va_A (z_hw c b a o Y) sz)) 1 6 (va_A (z_hw c b a o Y) sz) := by
  refine z_ofH (cc := cL_at) (maxL := 4) (ret := (some .int)) (Qf := fun A => z_Qi D (z_hw c b a o) r0 g0 A) (by decide) rfl (Nat.le_of_ble_eq_true rfl) ?_
  intro p e s m args below meth co A ls hx hb hr hml hts hown hlocks htb hA hP hK hD hE hl hsz
  have hl : lv_has ls 4 [(0, .ref (b 0)), (1, .int p1), (2, .ref o)] := hl
  have hown : s.vm.findClass RL = some m.cls := hown
  obtain ⟨H, hH⟩ : ∃ H, H = s.heap := ⟨_, rfl⟩
  have hS : va_S A s.heap H [] := by rw [hH]; exact va_S.rf
  have hE0 := hE
  have hE : z_EH A s H := by rw [hH]; exact hE
  rw [← hH] at hP ⊢
  clear hH
  unfold fL_at at hf
  generalize ([] : List Loc) = locs at hS ⊢
  refine lv_aload_n hx hb dL_at_0 rfl (lv_at hl 2 rfl) ?_
  refine lv_iconst (v := (0 : Int32)) hx hb dL_at_1 (by decide) ?_
  refine lv_aload_n hx hb dL_at_2 rfl (lv_at hl 0 rfl) ?_
  refine lv_iload_n hx hb dL_at_3 rfl (lv_at hl 1 rfl) ?_
  obtain ⟨o1, X1, h1, hf⟩ := z_b2E hf
  obtain ⟨Y1, e1, hf⟩ := z_ltE hf
  refine z_xT (As := [.int p1]) (rest := [.int (0 : Int32), .ref o]) (wf := z_dw c b a) (g := Y.1) (u0 := X1) (V2 := z_hw c b a o Y1) ⟨hx, hb, hml, hown, hts⟩ (kX4_at l hlst D c N b a H.size Y.1 p1 o1 X1 h1) (cwV 1 hts gL_at_X4_at rfl rfl rfl (by decide +kernel) ⟨Nat.le_of_ble_eq_true rfl, Nat.le_of_ble_eq_true rfl⟩) hP hK hD hS hA hE (by rw [e1]; exact z_cutH hD X1) (ci := 4) (q0 := 0) rfl rfl rfl rfl hl.1 (Nat.le_of_ble_eq_true rfl) rfl dL_at_4 ⟨Nat.le_of_ble_eq_true rfl, Nat.le_of_ble_eq_true rfl⟩ (fun k q9 ce H locs e9 hP hD hS c1 c2 c3 => ?_) (fun r1 H locs e9 hP hD hS => ?_)
  · have hf := z_smR hf e9
    by_cases c9_0 : k = 3
    · have hf := z_ifT hf c9_0
      rw [c9_0] at c3
      refine vx_catch (own := RL) (name := z_ex 3) (E := z_ex 3) hown [] ⟨0, 9, 12, 28⟩ [] (htb.trans rfl) (fun _ h => absurd h List.not_mem_nil) (by decide) (by decide) (hts _ qL_at_c28) (va_Nw.use rfl (hE.2.2.2.2.1 (z_ex 3, z_ex 3) (by decide +kernel))) c1 c2 c3 ?_
      refine lv_astore_n (lv' := [(3, .ref q9), (0, .ref (b 0)), (1, .int p1), (2, .ref o)]) hx hb dL_at_12 rfl hl (by decide) rfl (fun ls hl => ?_)
      refine lv_iconst (v := (1 : Int32)) hx hb dL_at_13 (by decide) ?_
      exact z_rH (wf := (z_hw c b a o)) hx hb hr hlocks hP hD hS hf dL_at_14
    have hf := z_ifF hf c9_0
    cases hf
  · have hf := z_smL hf e9
    refine lv_i2l (v := (r1).toInt64) hx hb dL_at_7 rfl ?_
    refine va_last hx hb hK.1 hP hD hS 311 3 z_hwAt rfl (z_inE (by decide)) dL_at_8 (fun H locs hP hD hS => ?_)
    obtain ⟨Y2, e2, hf⟩ := z_ltE hf
    have hP : va_P D vwCl (z_hw c b a o Y2) H := by rw [e2, ← z_hwSet]; exact hP
    have hD : va_D A (z_hw c b a o Y2) := by rw [e2, ← z_hwSet]; exact hD
    clear e2
    refine lv_goto (tgt := 15) hx hb dL_at_9 (by decide) ?_
    refine lv_iconst (v := (0 : Int32)) hx hb dL_at_15 (by decide) ?_
    exact z_rH (wf := (z_hw c b a o)) hx hb hr hlocks hP hD hS hf dL_at_16
abbrev rmL_jump : Room := { frames := 7, cells := 1, slots := 6, locals := 104 }
theorem qL_jump_c13 : Cond.classLink RL 13 "java/lang/IllegalArgumentException" ∈ wsL_jump := by decide +kernel
set_option maxRecDepth 100000 in
set_option maxHeartbeats 4000000 in
theorem kL_jump (l : Launch) (hlst : l.stackTraces = false) (D : va_G) (c : Nat → ClassId) (N : Nat) (b : Nat → Nat) (a : Nat → Nat → Nat) (o : Nat) (sz : Nat) (Y : z_H) (p1 : Int32) (p2 : Int32) (r0 : Int32) (g0 : z_H) (hf : fL_jump N p1 p2 Y = some (r0, g0)) : Met l yL_jump wsL_jump rmL_jump (z_Pt D c sz (z_hw c b a o Y) [.ref (b 0), .int p1, .int p2, .ref o]) (z_Qi D (z_hw c b a o) r0 g0 (va_A (z_hw c b a o Y) sz)) 1 6 (va_A (z_hw c b a o Y) sz) := by
  refine z_ofH (cc := cL_jump) (maxL := 5) (ret := (some .int)) (Qf := fun A => z_Qi D (z_hw c b a o) r0 g0 A) (by decide) rfl (Nat.le_of_ble_eq_true rfl) ?_
  intro p e s m args below meth co A ls hx hb hr hml hts hown hlocks htb hA hP hK hD hE hl hsz
  have hl : lv_has ls 5 [(0, .ref (b 0)), (1, .int p1), (2, .int p2), (3, .ref o)] := hl
  have hown : s.vm.findClass RL = some m.cls := hown
  obtain ⟨H, hH⟩ : ∃ H, H = s.heap := ⟨_, rfl⟩
  have hS : va_S A s.heap H [] := by rw [hH]; exact va_S.rf
  have hE0 := hE
  have hE : z_EH A s H := by rw [hH]; exact hE
  rw [← hH] at hP ⊢
  clear hH
  unfold fL_jump at hf
  generalize ([] : List Loc) = locs at hS ⊢
  refine lv_aload_n hx hb dL_jump_0 rfl (lv_at hl 3 rfl) ?_
  refine lv_iconst (v := (0 : Int32)) hx hb dL_jump_1 (by decide) ?_
  refine lv_aload_n hx hb dL_jump_2 rfl (lv_at hl 0 rfl) ?_
  refine lv_iload_n hx hb dL_jump_3 rfl (lv_at hl 1 rfl) ?_
  refine lv_iload_n hx hb dL_jump_4 rfl (lv_at hl 2 rfl) ?_
  obtain ⟨o1, X1, h1, hf⟩ := z_b2E hf
  obtain ⟨Y1, e1, hf⟩ := z_ltE hf
  refine z_xT (As := [.int p1, .int p2]) (rest := [.int (0 : Int32), .ref o]) (wf := z_dw c b a) (g := Y.1) (u0 := X1) (V2 := z_hw c b a o Y1) ⟨hx, hb, hml, hown, hts⟩ (kX4_jump l hlst D c N b a H.size Y.1 p1 p2 o1 X1 h1) (cwV 2 hts gL_jump_X4_jump rfl rfl rfl (by decide +kernel) ⟨Nat.le_of_ble_eq_true rfl, Nat.le_of_ble_eq_true rfl⟩) hP hK hD hS hA hE (by rw [e1]; exact z_cutH hD X1) (ci := 4) (q0 := 0) rfl rfl rfl rfl hl.1 (Nat.le_of_ble_eq_true rfl) rfl dL_jump_5 ⟨Nat.le_of_ble_eq_true rfl, Nat.le_of_ble_eq_true rfl⟩ (fun k q9 ce H locs e9 hP hD hS c1 c2 c3 => ?_) (fun r1 H locs e9 hP hD hS => ?_)
  · have hf := z_smR hf e9
    by_cases c9_0 : k = 1
    · have hf := z_ifT hf c9_0
      rw [c9_0] at c3
      refine vx_catch (own := RL) (name := z_ex 1) (E := z_ex 1) hown [] ⟨0, 10, 13, 13⟩ [] (htb.trans rfl) (fun _ h => absurd h List.not_mem_nil) (by decide) (by decide) (hts _ qL_jump_c13) (va_Nw.use rfl (hE.2.2.2.2.1 (z_ex 1, z_ex 1) (by decide +kernel))) c1 c2 c3 ?_
      refine lv_astore (lv' := [(4, .ref q9), (0, .ref (b 0)), (1, .int p1), (2, .int p2), (3, .ref o)]) hx hb dL_jump_13 hl (by decide) rfl (fun ls hl => ?_)
      refine lv_iconst (v := (1 : Int32)) hx hb dL_jump_15 (by decide) ?_
      exact z_rH (wf := (z_hw c b a o)) hx hb hr hlocks hP hD hS hf dL_jump_16
    have hf := z_ifF hf c9_0
    cases hf
  · have hf := z_smL hf e9
    refine lv_i2l (v := (r1).toInt64) hx hb dL_jump_8 rfl ?_
    refine va_last hx hb hK.1 hP hD hS 311 3 z_hwAt rfl (z_inE (by decide)) dL_jump_9 (fun H locs hP hD hS => ?_)
    obtain ⟨Y2, e2, hf⟩ := z_ltE hf
    have hP : va_P D vwCl (z_hw c b a o Y2) H := by rw [e2, ← z_hwSet]; exact hP
    have hD : va_D A (z_hw c b a o Y2) := by rw [e2, ← z_hwSet]; exact hD
    clear e2
    refine lv_goto (tgt := 17) hx hb dL_jump_10 (by decide) ?_
    refine lv_iconst (v := (0 : Int32)) hx hb dL_jump_17 (by decide) ?_
    exact z_rH (wf := (z_hw c b a o)) hx hb hr hlocks hP hD hS hf dL_jump_18
abbrev rmL_chain : Room := { frames := 7, cells := 1, slots := 6, locals := 103 }
theorem qL_chain_c28 : Cond.classLink RL 28 "java/lang/IndexOutOfBoundsException" ∈ wsL_chain := by decide +kernel
set_option maxRecDepth 100000 in
set_option maxHeartbeats 4000000 in
theorem kL_chain (l : Launch) (hlst : l.stackTraces = false) (D : va_G) (c : Nat → ClassId) (N : Nat) (b : Nat → Nat) (a : Nat → Nat → Nat) (o : Nat) (sz : Nat) (Y : z_H) (p1 : Int32) (r0 : Int32) (g0 : z_H) (hf : fL_chain N p1 Y = some (r0, g0)) : Met l yL_chain wsL_chain rmL_chain (z_Pt D c sz (z_hw c b a o Y) [.ref (b 0), .int p1, .ref o]) (z_Qi D (z_hw c b a o) r0 g0 (va_A (z_hw c b a o Y) sz)) 1 6 (va_A (z_hw c b a o Y) sz) := by
  refine z_ofH (cc := cL_chain) (maxL := 4) (ret := (some .int)) (Qf := fun A => z_Qi D (z_hw c b a o) r0 g0 A) (by decide) rfl (Nat.le_of_ble_eq_true rfl) ?_
  intro p e s m args below meth co A ls hx hb hr hml hts hown hlocks htb hA hP hK hD hE hl hsz
  have hl : lv_has ls 4 [(0, .ref (b 0)), (1, .int p1), (2, .ref o)] := hl
  have hown : s.vm.findClass RL = some m.cls := hown
  obtain ⟨H, hH⟩ : ∃ H, H = s.heap := ⟨_, rfl⟩
  have hS : va_S A s.heap H [] := by rw [hH]; exact va_S.rf
  have hE0 := hE
  have hE : z_EH A s H := by rw [hH]; exact hE
  rw [← hH] at hP ⊢
  clear hH
  unfold fL_chain at hf
  generalize ([] : List Loc) = locs at hS ⊢
  refine lv_aload_n hx hb dL_chain_0 rfl (lv_at hl 2 rfl) ?_
  refine lv_iconst (v := (0 : Int32)) hx hb dL_chain_1 (by decide) ?_
  refine lv_aload_n hx hb dL_chain_2 rfl (lv_at hl 0 rfl) ?_
  refine lv_iload_n hx hb dL_chain_3 rfl (lv_at hl 1 rfl) ?_
  obtain ⟨o1, X1, h1, hf⟩ := z_b2E hf
  obtain ⟨Y1, e1, hf⟩ := z_ltE hf
  refine z_xT (As := [.int p1]) (rest := [.int (0 : Int32), .ref o]) (wf := z_dw c b a) (g := Y.1) (u0 := X1) (V2 := z_hw c b a o Y1) ⟨hx, hb, hml, hown, hts⟩ (kX4_chain l hlst D c N b a H.size Y.1 p1 o1 X1 h1) (cwV 1 hts gL_chain_X4_chain rfl rfl rfl (by decide +kernel) ⟨Nat.le_of_ble_eq_true rfl, Nat.le_of_ble_eq_true rfl⟩) hP hK hD hS hA hE (by rw [e1]; exact z_cutH hD X1) (ci := 4) (q0 := 0) rfl rfl rfl rfl hl.1 (Nat.le_of_ble_eq_true rfl) rfl dL_chain_4 ⟨Nat.le_of_ble_eq_true rfl, Nat.le_of_ble_eq_true rfl⟩ (fun k q9 ce H locs e9 hP hD hS c1 c2 c3 => ?_) (fun r1 H locs e9 hP hD hS => ?_)
  · have hf := z_smR hf e9
    by_cases c9_0 : k = 3
    · have hf := z_ifT hf c9_0
      rw [c9_0] at c3
      refine vx_catch (own := RL) (name := z_ex 3) (E := z_ex 3) hown [] ⟨0, 9, 12, 28⟩ [] (htb.trans rfl) (fun _ h => absurd h List.not_mem_nil) (by decide) (by decide) (hts _ qL_chain_c28) (va_Nw.use rfl (hE.2.2.2.2.1 (z_ex 3, z_ex 3) (by decide +kernel))) c1 c2 c3 ?_
      refine lv_astore_n (lv' := [(3, .ref q9), (0, .ref (b 0)), (1, .int p1), (2, .ref o)]) hx hb dL_chain_12 rfl hl (by decide) rfl (fun ls hl => ?_)
      refine lv_iconst (v := (1 : Int32)) hx hb dL_chain_13 (by decide) ?_
      exact z_rH (wf := (z_hw c b a o)) hx hb hr hlocks hP hD hS hf dL_chain_14
    have hf := z_ifF hf c9_0
    cases hf
  · have hf := z_smL hf e9
    refine lv_i2l (v := (r1).toInt64) hx hb dL_chain_7 rfl ?_
    refine va_last hx hb hK.1 hP hD hS 311 3 z_hwAt rfl (z_inE (by decide)) dL_chain_8 (fun H locs hP hD hS => ?_)
    obtain ⟨Y2, e2, hf⟩ := z_ltE hf
    have hP : va_P D vwCl (z_hw c b a o Y2) H := by rw [e2, ← z_hwSet]; exact hP
    have hD : va_D A (z_hw c b a o Y2) := by rw [e2, ← z_hwSet]; exact hD
    clear e2
    refine lv_goto (tgt := 15) hx hb dL_chain_9 (by decide) ?_
    refine lv_iconst (v := (0 : Int32)) hx hb dL_chain_15 (by decide) ?_
    exact z_rH (wf := (z_hw c b a o)) hx hb hr hlocks hP hD hS hf dL_chain_16
abbrev rmL_ring : Room := { frames := 7, cells := 1, slots := 6, locals := 103 }
theorem qL_ring_c28 : Cond.classLink RL 28 "java/lang/IndexOutOfBoundsException" ∈ wsL_ring := by decide +kernel
set_option maxRecDepth 100000 in
set_option maxHeartbeats 4000000 in
theorem kL_ring (l : Launch) (hlst : l.stackTraces = false) (D : va_G) (c : Nat → ClassId) (N : Nat) (b : Nat → Nat) (a : Nat → Nat → Nat) (o : Nat) (sz : Nat) (Y : z_H) (p1 : Int32) (r0 : Int32) (g0 : z_H) (hf : fL_ring N p1 Y = some (r0, g0)) : Met l yL_ring wsL_ring rmL_ring (z_Pt D c sz (z_hw c b a o Y) [.ref (b 0), .int p1, .ref o]) (z_Qi D (z_hw c b a o) r0 g0 (va_A (z_hw c b a o Y) sz)) 1 6 (va_A (z_hw c b a o Y) sz) := by
  refine z_ofH (cc := cL_ring) (maxL := 4) (ret := (some .int)) (Qf := fun A => z_Qi D (z_hw c b a o) r0 g0 A) (by decide) rfl (Nat.le_of_ble_eq_true rfl) ?_
  intro p e s m args below meth co A ls hx hb hr hml hts hown hlocks htb hA hP hK hD hE hl hsz
  have hl : lv_has ls 4 [(0, .ref (b 0)), (1, .int p1), (2, .ref o)] := hl
  have hown : s.vm.findClass RL = some m.cls := hown
  obtain ⟨H, hH⟩ : ∃ H, H = s.heap := ⟨_, rfl⟩
  have hS : va_S A s.heap H [] := by rw [hH]; exact va_S.rf
  have hE0 := hE
  have hE : z_EH A s H := by rw [hH]; exact hE
  rw [← hH] at hP ⊢
  clear hH
  unfold fL_ring at hf
  generalize ([] : List Loc) = locs at hS ⊢
  refine lv_aload_n hx hb dL_ring_0 rfl (lv_at hl 2 rfl) ?_
  refine lv_iconst (v := (0 : Int32)) hx hb dL_ring_1 (by decide) ?_
  refine lv_aload_n hx hb dL_ring_2 rfl (lv_at hl 0 rfl) ?_
  refine lv_iload_n hx hb dL_ring_3 rfl (lv_at hl 1 rfl) ?_
  obtain ⟨o1, X1, h1, hf⟩ := z_b2E hf
  obtain ⟨Y1, e1, hf⟩ := z_ltE hf
  refine z_xT (As := [.int p1]) (rest := [.int (0 : Int32), .ref o]) (wf := z_dw c b a) (g := Y.1) (u0 := X1) (V2 := z_hw c b a o Y1) ⟨hx, hb, hml, hown, hts⟩ (kX4_ring l hlst D c N b a H.size Y.1 p1 o1 X1 h1) (cwV 1 hts gL_ring_X4_ring rfl rfl rfl (by decide +kernel) ⟨Nat.le_of_ble_eq_true rfl, Nat.le_of_ble_eq_true rfl⟩) hP hK hD hS hA hE (by rw [e1]; exact z_cutH hD X1) (ci := 4) (q0 := 0) rfl rfl rfl rfl hl.1 (Nat.le_of_ble_eq_true rfl) rfl dL_ring_4 ⟨Nat.le_of_ble_eq_true rfl, Nat.le_of_ble_eq_true rfl⟩ (fun k q9 ce H locs e9 hP hD hS c1 c2 c3 => ?_) (fun r1 H locs e9 hP hD hS => ?_)
  · have hf := z_smR hf e9
    by_cases c9_0 : k = 3
    · have hf := z_ifT hf c9_0
      rw [c9_0] at c3
      refine vx_catch (own := RL) (name := z_ex 3) (E := z_ex 3) hown [] ⟨0, 9, 12, 28⟩ [] (htb.trans rfl) (fun _ h => absurd h List.not_mem_nil) (by decide) (by decide) (hts _ qL_ring_c28) (va_Nw.use rfl (hE.2.2.2.2.1 (z_ex 3, z_ex 3) (by decide +kernel))) c1 c2 c3 ?_
      refine lv_astore_n (lv' := [(3, .ref q9), (0, .ref (b 0)), (1, .int p1), (2, .ref o)]) hx hb dL_ring_12 rfl hl (by decide) rfl (fun ls hl => ?_)
      refine lv_iconst (v := (1 : Int32)) hx hb dL_ring_13 (by decide) ?_
      exact z_rH (wf := (z_hw c b a o)) hx hb hr hlocks hP hD hS hf dL_ring_14
    have hf := z_ifF hf c9_0
    cases hf
  · have hf := z_smL hf e9
    refine lv_i2l (v := (r1).toInt64) hx hb dL_ring_7 rfl ?_
    refine va_last hx hb hK.1 hP hD hS 311 3 z_hwAt rfl (z_inE (by decide)) dL_ring_8 (fun H locs hP hD hS => ?_)
    obtain ⟨Y2, e2, hf⟩ := z_ltE hf
    have hP : va_P D vwCl (z_hw c b a o Y2) H := by rw [e2, ← z_hwSet]; exact hP
    have hD : va_D A (z_hw c b a o Y2) := by rw [e2, ← z_hwSet]; exact hD
    clear e2
    refine lv_goto (tgt := 15) hx hb dL_ring_9 (by decide) ?_
    refine lv_iconst (v := (0 : Int32)) hx hb dL_ring_15 (by decide) ?_
    exact z_rH (wf := (z_hw c b a o)) hx hb hr hlocks hP hD hS hf dL_ring_16
abbrev rmL_setDrum : Room := { frames := 7, cells := 1, slots := 6, locals := 108 }
theorem qL_setDrum_c13 : Cond.classLink RL 13 "java/lang/IllegalArgumentException" ∈ wsL_setDrum := by decide +kernel
set_option maxRecDepth 100000 in
set_option maxHeartbeats 4000000 in
theorem kL_setDrum (l : Launch) (hlst : l.stackTraces = false) (D : va_G) (c : Nat → ClassId) (N : Nat) (b : Nat → Nat) (a : Nat → Nat → Nat) (o : Nat) (sz : Nat) (Y : z_H) (p1 : Int32) (r0 : Int32) (g0 : z_H) (hf : fL_setDrum N p1 Y = some (r0, g0)) : Met l yL_setDrum wsL_setDrum rmL_setDrum (z_Pt D c sz (z_hw c b a o Y) [.ref (b 0), .int p1, .ref o]) (z_Qi D (z_hw c b a o) r0 g0 (va_A (z_hw c b a o Y) sz)) 1 6 (va_A (z_hw c b a o Y) sz) := by
  refine z_ofH (cc := cL_setDrum) (maxL := 4) (ret := (some .int)) (Qf := fun A => z_Qi D (z_hw c b a o) r0 g0 A) (by decide) rfl (Nat.le_of_ble_eq_true rfl) ?_
  intro p e s m args below meth co A ls hx hb hr hml hts hown hlocks htb hA hP hK hD hE hl hsz
  have hl : lv_has ls 4 [(0, .ref (b 0)), (1, .int p1), (2, .ref o)] := hl
  have hown : s.vm.findClass RL = some m.cls := hown
  obtain ⟨H, hH⟩ : ∃ H, H = s.heap := ⟨_, rfl⟩
  have hS : va_S A s.heap H [] := by rw [hH]; exact va_S.rf
  have hE0 := hE
  have hE : z_EH A s H := by rw [hH]; exact hE
  rw [← hH] at hP ⊢
  clear hH
  unfold fL_setDrum at hf
  generalize ([] : List Loc) = locs at hS ⊢
  refine lv_aload_n hx hb dL_setDrum_0 rfl (lv_at hl 2 rfl) ?_
  refine lv_iconst (v := (0 : Int32)) hx hb dL_setDrum_1 (by decide) ?_
  refine lv_aload_n hx hb dL_setDrum_2 rfl (lv_at hl 0 rfl) ?_
  refine lv_iload_n hx hb dL_setDrum_3 rfl (lv_at hl 1 rfl) ?_
  obtain ⟨o1, X1, h1, hf⟩ := z_b2E hf
  obtain ⟨Y1, e1, hf⟩ := z_ltE hf
  refine z_xT (As := [.int p1]) (rest := [.int (0 : Int32), .ref o]) (wf := z_dw c b a) (g := Y.1) (u0 := X1) (V2 := z_hw c b a o Y1) ⟨hx, hb, hml, hown, hts⟩ (kX4_setDrum l hlst D c N b a H.size Y.1 p1 o1 X1 h1) (cwV 1 hts gL_setDrum_X4_setDrum rfl rfl rfl (by decide +kernel) ⟨Nat.le_of_ble_eq_true rfl, Nat.le_of_ble_eq_true rfl⟩) hP hK hD hS hA hE (by rw [e1]; exact z_cutH hD X1) (ci := 4) (q0 := 0) rfl rfl rfl rfl hl.1 (Nat.le_of_ble_eq_true rfl) rfl dL_setDrum_4 ⟨Nat.le_of_ble_eq_true rfl, Nat.le_of_ble_eq_true rfl⟩ (fun k q9 ce H locs e9 hP hD hS c1 c2 c3 => ?_) (fun r1 H locs e9 hP hD hS => ?_)
  · have hf := z_smR hf e9
    by_cases c9_0 : k = 1
    · have hf := z_ifT hf c9_0
      rw [c9_0] at c3
      refine vx_catch (own := RL) (name := z_ex 1) (E := z_ex 1) hown [] ⟨0, 9, 12, 13⟩ [] (htb.trans rfl) (fun _ h => absurd h List.not_mem_nil) (by decide) (by decide) (hts _ qL_setDrum_c13) (va_Nw.use rfl (hE.2.2.2.2.1 (z_ex 1, z_ex 1) (by decide +kernel))) c1 c2 c3 ?_
      refine lv_astore_n (lv' := [(3, .ref q9), (0, .ref (b 0)), (1, .int p1), (2, .ref o)]) hx hb dL_setDrum_12 rfl hl (by decide) rfl (fun ls hl => ?_)
      refine lv_iconst (v := (1 : Int32)) hx hb dL_setDrum_13 (by decide) ?_
      exact z_rH (wf := (z_hw c b a o)) hx hb hr hlocks hP hD hS hf dL_setDrum_14
    have hf := z_ifF hf c9_0
    cases hf
  · have hf := z_smL hf e9
    refine lv_i2l (v := (r1).toInt64) hx hb dL_setDrum_7 rfl ?_
    refine va_last hx hb hK.1 hP hD hS 311 3 z_hwAt rfl (z_inE (by decide)) dL_setDrum_8 (fun H locs hP hD hS => ?_)
    obtain ⟨Y2, e2, hf⟩ := z_ltE hf
    have hP : va_P D vwCl (z_hw c b a o Y2) H := by rw [e2, ← z_hwSet]; exact hP
    have hD : va_D A (z_hw c b a o Y2) := by rw [e2, ← z_hwSet]; exact hD
    clear e2
    refine lv_goto (tgt := 15) hx hb dL_setDrum_9 (by decide) ?_
    refine lv_iconst (v := (0 : Int32)) hx hb dL_setDrum_15 (by decide) ?_
    exact z_rH (wf := (z_hw c b a o)) hx hb hr hlocks hP hD hS hf dL_setDrum_16
abbrev rmL_addOrder : Room := { frames := 7, cells := 1, slots := 6, locals := 107 }
theorem qL_addOrder_c13 : Cond.classLink RL 13 "java/lang/IllegalArgumentException" ∈ wsL_addOrder := by decide +kernel
theorem qL_addOrder_c15 : Cond.classLink RL 15 "java/lang/IllegalStateException" ∈ wsL_addOrder := by decide +kernel
set_option maxRecDepth 100000 in
set_option maxHeartbeats 4000000 in
theorem kL_addOrder (l : Launch) (hlst : l.stackTraces = false) (D : va_G) (c : Nat → ClassId) (N : Nat) (b : Nat → Nat) (a : Nat → Nat → Nat) (o : Nat) (sz : Nat) (Y : z_H) (p1 : Int32) (p2 : Int32) (p3 : Int32) (p4 : Int32) (p5 : Int32) (r0 : Int32) (g0 : z_H) (hf : fL_addOrder N p1 p2 p3 p4 p5 Y = some (r0, g0)) : Met l yL_addOrder wsL_addOrder rmL_addOrder (z_Pt D c sz (z_hw c b a o Y) [.ref (b 0), .int p1, .int p2, .int p3, .int p4, .int p5, .ref o]) (z_Qi D (z_hw c b a o) r0 g0 (va_A (z_hw c b a o Y) sz)) 1 6 (va_A (z_hw c b a o Y) sz) := by
  refine z_ofH (cc := cL_addOrder) (maxL := 8) (ret := (some .int)) (Qf := fun A => z_Qi D (z_hw c b a o) r0 g0 A) (by decide) rfl (Nat.le_of_ble_eq_true rfl) ?_
  intro p e s m args below meth co A ls hx hb hr hml hts hown hlocks htb hA hP hK hD hE hl hsz
  have hl : lv_has ls 8 [(0, .ref (b 0)), (1, .int p1), (2, .int p2), (3, .int p3), (4, .int p4), (5, .int p5), (6, .ref o)] := hl
  have hown : s.vm.findClass RL = some m.cls := hown
  obtain ⟨H, hH⟩ : ∃ H, H = s.heap := ⟨_, rfl⟩
  have hS : va_S A s.heap H [] := by rw [hH]; exact va_S.rf
  have hE0 := hE
  have hE : z_EH A s H := by rw [hH]; exact hE
  rw [← hH] at hP ⊢
  clear hH
  unfold fL_addOrder at hf
  generalize ([] : List Loc) = locs at hS ⊢
  refine lv_aload hx hb dL_addOrder_0 (lv_at hl 6 rfl) ?_
  refine lv_iconst (v := (0 : Int32)) hx hb dL_addOrder_2 (by decide) ?_
  refine lv_aload_n hx hb dL_addOrder_3 rfl (lv_at hl 0 rfl) ?_
  refine lv_iload_n hx hb dL_addOrder_4 rfl (lv_at hl 1 rfl) ?_
  refine lv_iload_n hx hb dL_addOrder_5 rfl (lv_at hl 2 rfl) ?_
  refine lv_iload_n hx hb dL_addOrder_6 rfl (lv_at hl 3 rfl) ?_
  refine lv_iload hx hb dL_addOrder_7 (lv_at hl 4 rfl) ?_
  refine lv_iload hx hb dL_addOrder_9 (lv_at hl 5 rfl) ?_
  obtain ⟨o1, X1, h1, hf⟩ := z_b2E hf
  obtain ⟨Y1, e1, hf⟩ := z_ltE hf
  refine z_xT (As := [.int p1, .int p2, .int p3, .int p4, .int p5]) (rest := [.int (0 : Int32), .ref o]) (wf := z_dw c b a) (g := Y.1) (u0 := X1) (V2 := z_hw c b a o Y1) ⟨hx, hb, hml, hown, hts⟩ (kX4_addOrder l hlst D c N b a H.size Y.1 p1 p2 p3 p4 p5 o1 X1 h1) (cwV 5 hts gL_addOrder_X4_addOrder rfl rfl rfl (by decide +kernel) ⟨Nat.le_of_ble_eq_true rfl, Nat.le_of_ble_eq_true rfl⟩) hP hK hD hS hA hE (by rw [e1]; exact z_cutH hD X1) (ci := 4) (q0 := 0) rfl rfl rfl rfl hl.1 (Nat.le_of_ble_eq_true rfl) rfl dL_addOrder_11 ⟨Nat.le_of_ble_eq_true rfl, Nat.le_of_ble_eq_true rfl⟩ (fun k q9 ce H locs e9 hP hD hS c1 c2 c3 => ?_) (fun r1 H locs e9 hP hD hS => ?_)
  · have hf := z_smR hf e9
    by_cases c9_0 : k = 1
    · have hf := z_ifT hf c9_0
      rw [c9_0] at c3
      refine vx_catch (own := RL) (name := z_ex 1) (E := z_ex 1) hown [] ⟨0, 16, 19, 13⟩ [⟨0, 16, 23, 15⟩] (htb.trans rfl) (fun _ h => absurd h List.not_mem_nil) (by decide) (by decide) (hts _ qL_addOrder_c13) (va_Nw.use rfl (hE.2.2.2.2.1 (z_ex 1, z_ex 1) (by decide +kernel))) c1 c2 c3 ?_
      refine lv_astore (lv' := [(7, .ref q9), (0, .ref (b 0)), (1, .int p1), (2, .int p2), (3, .int p3), (4, .int p4), (5, .int p5), (6, .ref o)]) hx hb dL_addOrder_19 hl (by decide) rfl (fun ls hl => ?_)
      refine lv_iconst (v := (1 : Int32)) hx hb dL_addOrder_21 (by decide) ?_
      exact z_rH (wf := (z_hw c b a o)) hx hb hr hlocks hP hD hS hf dL_addOrder_22
    have hf := z_ifF hf c9_0
    by_cases c9_1 : k = 2
    · have hf := z_ifT hf c9_1
      rw [c9_1] at c3
      refine vx_catch (own := RL) (name := z_ex 2) (E := z_ex 2) hown [⟨0, 16, 19, 13⟩] ⟨0, 16, 23, 15⟩ [] (htb.trans rfl) (List.forall_mem_cons.mpr ⟨Or.inr ⟨by decide, z_ex 1, hts _ qL_addOrder_c13, hE.2.2.2.2.2 (z_ex 2, z_ex 1) (by decide +kernel)⟩, fun _ h => absurd h List.not_mem_nil⟩) (by decide) (by decide) (hts _ qL_addOrder_c15) (va_Nw.use rfl (hE.2.2.2.2.1 (z_ex 2, z_ex 2) (by decide +kernel))) c1 c2 c3 ?_
      refine lv_astore (lv' := [(7, .ref q9), (0, .ref (b 0)), (1, .int p1), (2, .int p2), (3, .int p3), (4, .int p4), (5, .int p5), (6, .ref o)]) hx hb dL_addOrder_23 hl (by decide) rfl (fun ls hl => ?_)
      refine lv_iconst (v := (2 : Int32)) hx hb dL_addOrder_25 (by decide) ?_
      exact z_rH (wf := (z_hw c b a o)) hx hb hr hlocks hP hD hS hf dL_addOrder_26
    have hf := z_ifF hf c9_1
    cases hf
  · have hf := z_smL hf e9
    refine lv_i2l (v := (r1).toInt64) hx hb dL_addOrder_14 rfl ?_
    refine va_last hx hb hK.1 hP hD hS 311 3 z_hwAt rfl (z_inE (by decide)) dL_addOrder_15 (fun H locs hP hD hS => ?_)
    obtain ⟨Y2, e2, hf⟩ := z_ltE hf
    have hP : va_P D vwCl (z_hw c b a o Y2) H := by rw [e2, ← z_hwSet]; exact hP
    have hD : va_D A (z_hw c b a o Y2) := by rw [e2, ← z_hwSet]; exact hD
    clear e2
    refine lv_goto (tgt := 27) hx hb dL_addOrder_16 (by decide) ?_
    refine lv_iconst (v := (0 : Int32)) hx hb dL_addOrder_27 (by decide) ?_
    exact z_rH (wf := (z_hw c b a o)) hx hb hr hlocks hP hD hS hf dL_addOrder_28
abbrev rmL_change : Room := { frames := 7, cells := 1, slots := 6, locals := 105 }
theorem qL_change_c28 : Cond.classLink RL 28 "java/lang/IndexOutOfBoundsException" ∈ wsL_change := by decide +kernel
theorem qL_change_c13 : Cond.classLink RL 13 "java/lang/IllegalArgumentException" ∈ wsL_change := by decide +kernel
set_option maxRecDepth 100000 in
set_option maxHeartbeats 4000000 in
theorem kL_change (l : Launch) (hlst : l.stackTraces = false) (D : va_G) (c : Nat → ClassId) (N : Nat) (b : Nat → Nat) (a : Nat → Nat → Nat) (o : Nat) (sz : Nat) (Y : z_H) (p1 : Int32) (p2 : Int32) (p3 : Int32) (r0 : Int32) (g0 : z_H) (hf : fL_change N p1 p2 p3 Y = some (r0, g0)) : Met l yL_change wsL_change rmL_change (z_Pt D c sz (z_hw c b a o Y) [.ref (b 0), .int p1, .int p2, .int p3, .ref o]) (z_Qi D (z_hw c b a o) r0 g0 (va_A (z_hw c b a o Y) sz)) 1 6 (va_A (z_hw c b a o Y) sz) := by
  refine z_ofH (cc := cL_change) (maxL := 6) (ret := (some .int)) (Qf := fun A => z_Qi D (z_hw c b a o) r0 g0 A) (by decide) rfl (Nat.le_of_ble_eq_true rfl) ?_
  intro p e s m args below meth co A ls hx hb hr hml hts hown hlocks htb hA hP hK hD hE hl hsz
  have hl : lv_has ls 6 [(0, .ref (b 0)), (1, .int p1), (2, .int p2), (3, .int p3), (4, .ref o)] := hl
  have hown : s.vm.findClass RL = some m.cls := hown
  obtain ⟨H, hH⟩ : ∃ H, H = s.heap := ⟨_, rfl⟩
  have hS : va_S A s.heap H [] := by rw [hH]; exact va_S.rf
  have hE0 := hE
  have hE : z_EH A s H := by rw [hH]; exact hE
  rw [← hH] at hP ⊢
  clear hH
  unfold fL_change at hf
  generalize ([] : List Loc) = locs at hS ⊢
  refine lv_aload hx hb dL_change_0 (lv_at hl 4 rfl) ?_
  refine lv_iconst (v := (0 : Int32)) hx hb dL_change_2 (by decide) ?_
  refine lv_aload_n hx hb dL_change_3 rfl (lv_at hl 0 rfl) ?_
  refine lv_iload_n hx hb dL_change_4 rfl (lv_at hl 1 rfl) ?_
  refine lv_iload_n hx hb dL_change_5 rfl (lv_at hl 2 rfl) ?_
  refine lv_iload_n hx hb dL_change_6 rfl (lv_at hl 3 rfl) ?_
  obtain ⟨o1, X1, h1, hf⟩ := z_b2E hf
  obtain ⟨Y1, e1, hf⟩ := z_ltE hf
  refine z_xT (As := [.int p1, .int p2, .int p3]) (rest := [.int (0 : Int32), .ref o]) (wf := z_dw c b a) (g := Y.1) (u0 := X1) (V2 := z_hw c b a o Y1) ⟨hx, hb, hml, hown, hts⟩ (kX4_change l hlst D c N b a H.size Y.1 p1 p2 p3 o1 X1 h1) (cwV 3 hts gL_change_X4_change rfl rfl rfl (by decide +kernel) ⟨Nat.le_of_ble_eq_true rfl, Nat.le_of_ble_eq_true rfl⟩) hP hK hD hS hA hE (by rw [e1]; exact z_cutH hD X1) (ci := 4) (q0 := 0) rfl rfl rfl rfl hl.1 (Nat.le_of_ble_eq_true rfl) rfl dL_change_7 ⟨Nat.le_of_ble_eq_true rfl, Nat.le_of_ble_eq_true rfl⟩ (fun k q9 ce H locs e9 hP hD hS c1 c2 c3 => ?_) (fun r1 H locs e9 hP hD hS => ?_)
  · have hf := z_smR hf e9
    by_cases c9_0 : k = 3
    · have hf := z_ifT hf c9_0
      rw [c9_0] at c3
      refine vx_catch (own := RL) (name := z_ex 3) (E := z_ex 3) hown [] ⟨0, 12, 15, 28⟩ [⟨0, 12, 19, 13⟩] (htb.trans rfl) (fun _ h => absurd h List.not_mem_nil) (by decide) (by decide) (hts _ qL_change_c28) (va_Nw.use rfl (hE.2.2.2.2.1 (z_ex 3, z_ex 3) (by decide +kernel))) c1 c2 c3 ?_
      refine lv_astore (lv' := [(5, .ref q9), (0, .ref (b 0)), (1, .int p1), (2, .int p2), (3, .int p3), (4, .ref o)]) hx hb dL_change_15 hl (by decide) rfl (fun ls hl => ?_)
      refine lv_iconst (v := (1 : Int32)) hx hb dL_change_17 (by decide) ?_
      exact z_rH (wf := (z_hw c b a o)) hx hb hr hlocks hP hD hS hf dL_change_18
    have hf := z_ifF hf c9_0
    by_cases c9_1 : k = 1
    · have hf := z_ifT hf c9_1
      rw [c9_1] at c3
      refine vx_catch (own := RL) (name := z_ex 1) (E := z_ex 1) hown [⟨0, 12, 15, 28⟩] ⟨0, 12, 19, 13⟩ [] (htb.trans rfl) (List.forall_mem_cons.mpr ⟨Or.inr ⟨by decide, z_ex 3, hts _ qL_change_c28, hE.2.2.2.2.2 (z_ex 1, z_ex 3) (by decide +kernel)⟩, fun _ h => absurd h List.not_mem_nil⟩) (by decide) (by decide) (hts _ qL_change_c13) (va_Nw.use rfl (hE.2.2.2.2.1 (z_ex 1, z_ex 1) (by decide +kernel))) c1 c2 c3 ?_
      refine lv_astore (lv' := [(5, .ref q9), (0, .ref (b 0)), (1, .int p1), (2, .int p2), (3, .int p3), (4, .ref o)]) hx hb dL_change_19 hl (by decide) rfl (fun ls hl => ?_)
      refine lv_iconst (v := (2 : Int32)) hx hb dL_change_21 (by decide) ?_
      exact z_rH (wf := (z_hw c b a o)) hx hb hr hlocks hP hD hS hf dL_change_22
    have hf := z_ifF hf c9_1
    cases hf
  · have hf := z_smL hf e9
    refine lv_i2l (v := (r1).toInt64) hx hb dL_change_10 rfl ?_
    refine va_last hx hb hK.1 hP hD hS 311 3 z_hwAt rfl (z_inE (by decide)) dL_change_11 (fun H locs hP hD hS => ?_)
    obtain ⟨Y2, e2, hf⟩ := z_ltE hf
    have hP : va_P D vwCl (z_hw c b a o Y2) H := by rw [e2, ← z_hwSet]; exact hP
    have hD : va_D A (z_hw c b a o Y2) := by rw [e2, ← z_hwSet]; exact hD
    clear e2
    refine lv_goto (tgt := 23) hx hb dL_change_12 (by decide) ?_
    refine lv_iconst (v := (0 : Int32)) hx hb dL_change_23 (by decide) ?_
    exact z_rH (wf := (z_hw c b a o)) hx hb hr hlocks hP hD hS hf dL_change_24
abbrev rmL_move : Room := { frames := 7, cells := 1, slots := 6, locals := 104 }
theorem qL_move_c28 : Cond.classLink RL 28 "java/lang/IndexOutOfBoundsException" ∈ wsL_move := by decide +kernel
theorem qL_move_c15 : Cond.classLink RL 15 "java/lang/IllegalStateException" ∈ wsL_move := by decide +kernel
set_option maxRecDepth 100000 in
set_option maxHeartbeats 4000000 in
theorem kL_move (l : Launch) (hlst : l.stackTraces = false) (D : va_G) (c : Nat → ClassId) (N : Nat) (b : Nat → Nat) (a : Nat → Nat → Nat) (o : Nat) (sz : Nat) (Y : z_H) (p1 : Int32) (p2 : Int32) (r0 : Int32) (g0 : z_H) (hf : fL_move N p1 p2 Y = some (r0, g0)) : Met l yL_move wsL_move rmL_move (z_Pt D c sz (z_hw c b a o Y) [.ref (b 0), .int p1, .int p2, .ref o]) (z_Qi D (z_hw c b a o) r0 g0 (va_A (z_hw c b a o Y) sz)) 1 6 (va_A (z_hw c b a o Y) sz) := by
  refine z_ofH (cc := cL_move) (maxL := 5) (ret := (some .int)) (Qf := fun A => z_Qi D (z_hw c b a o) r0 g0 A) (by decide) rfl (Nat.le_of_ble_eq_true rfl) ?_
  intro p e s m args below meth co A ls hx hb hr hml hts hown hlocks htb hA hP hK hD hE hl hsz
  have hl : lv_has ls 5 [(0, .ref (b 0)), (1, .int p1), (2, .int p2), (3, .ref o)] := hl
  have hown : s.vm.findClass RL = some m.cls := hown
  obtain ⟨H, hH⟩ : ∃ H, H = s.heap := ⟨_, rfl⟩
  have hS : va_S A s.heap H [] := by rw [hH]; exact va_S.rf
  have hE0 := hE
  have hE : z_EH A s H := by rw [hH]; exact hE
  rw [← hH] at hP ⊢
  clear hH
  unfold fL_move at hf
  generalize ([] : List Loc) = locs at hS ⊢
  refine lv_aload_n hx hb dL_move_0 rfl (lv_at hl 3 rfl) ?_
  refine lv_iconst (v := (0 : Int32)) hx hb dL_move_1 (by decide) ?_
  refine lv_aload_n hx hb dL_move_2 rfl (lv_at hl 0 rfl) ?_
  refine lv_iload_n hx hb dL_move_3 rfl (lv_at hl 1 rfl) ?_
  refine lv_iload_n hx hb dL_move_4 rfl (lv_at hl 2 rfl) ?_
  obtain ⟨o1, X1, h1, hf⟩ := z_b2E hf
  obtain ⟨Y1, e1, hf⟩ := z_ltE hf
  refine z_xT (As := [.int p1, .int p2]) (rest := [.int (0 : Int32), .ref o]) (wf := z_dw c b a) (g := Y.1) (u0 := X1) (V2 := z_hw c b a o Y1) ⟨hx, hb, hml, hown, hts⟩ (kX4_move l hlst D c N b a H.size Y.1 p1 p2 o1 X1 h1) (cwV 2 hts gL_move_X4_move rfl rfl rfl (by decide +kernel) ⟨Nat.le_of_ble_eq_true rfl, Nat.le_of_ble_eq_true rfl⟩) hP hK hD hS hA hE (by rw [e1]; exact z_cutH hD X1) (ci := 4) (q0 := 0) rfl rfl rfl rfl hl.1 (Nat.le_of_ble_eq_true rfl) rfl dL_move_5 ⟨Nat.le_of_ble_eq_true rfl, Nat.le_of_ble_eq_true rfl⟩ (fun k q9 ce H locs e9 hP hD hS c1 c2 c3 => ?_) (fun r1 H locs e9 hP hD hS => ?_)
  · have hf := z_smR hf e9
    by_cases c9_0 : k = 3
    · have hf := z_ifT hf c9_0
      rw [c9_0] at c3
      refine vx_catch (own := RL) (name := z_ex 3) (E := z_ex 3) hown [] ⟨0, 10, 13, 28⟩ [⟨0, 10, 17, 15⟩] (htb.trans rfl) (fun _ h => absurd h List.not_mem_nil) (by decide) (by decide) (hts _ qL_move_c28) (va_Nw.use rfl (hE.2.2.2.2.1 (z_ex 3, z_ex 3) (by decide +kernel))) c1 c2 c3 ?_
      refine lv_astore (lv' := [(4, .ref q9), (0, .ref (b 0)), (1, .int p1), (2, .int p2), (3, .ref o)]) hx hb dL_move_13 hl (by decide) rfl (fun ls hl => ?_)
      refine lv_iconst (v := (1 : Int32)) hx hb dL_move_15 (by decide) ?_
      exact z_rH (wf := (z_hw c b a o)) hx hb hr hlocks hP hD hS hf dL_move_16
    have hf := z_ifF hf c9_0
    by_cases c9_1 : k = 2
    · have hf := z_ifT hf c9_1
      rw [c9_1] at c3
      refine vx_catch (own := RL) (name := z_ex 2) (E := z_ex 2) hown [⟨0, 10, 13, 28⟩] ⟨0, 10, 17, 15⟩ [] (htb.trans rfl) (List.forall_mem_cons.mpr ⟨Or.inr ⟨by decide, z_ex 3, hts _ qL_move_c28, hE.2.2.2.2.2 (z_ex 2, z_ex 3) (by decide +kernel)⟩, fun _ h => absurd h List.not_mem_nil⟩) (by decide) (by decide) (hts _ qL_move_c15) (va_Nw.use rfl (hE.2.2.2.2.1 (z_ex 2, z_ex 2) (by decide +kernel))) c1 c2 c3 ?_
      refine lv_astore (lv' := [(4, .ref q9), (0, .ref (b 0)), (1, .int p1), (2, .int p2), (3, .ref o)]) hx hb dL_move_17 hl (by decide) rfl (fun ls hl => ?_)
      refine lv_iconst (v := (2 : Int32)) hx hb dL_move_19 (by decide) ?_
      exact z_rH (wf := (z_hw c b a o)) hx hb hr hlocks hP hD hS hf dL_move_20
    have hf := z_ifF hf c9_1
    cases hf
  · have hf := z_smL hf e9
    refine lv_i2l (v := (r1).toInt64) hx hb dL_move_8 rfl ?_
    refine va_last hx hb hK.1 hP hD hS 311 3 z_hwAt rfl (z_inE (by decide)) dL_move_9 (fun H locs hP hD hS => ?_)
    obtain ⟨Y2, e2, hf⟩ := z_ltE hf
    have hP : va_P D vwCl (z_hw c b a o Y2) H := by rw [e2, ← z_hwSet]; exact hP
    have hD : va_D A (z_hw c b a o Y2) := by rw [e2, ← z_hwSet]; exact hD
    clear e2
    refine lv_goto (tgt := 21) hx hb dL_move_10 (by decide) ?_
    refine lv_iconst (v := (0 : Int32)) hx hb dL_move_21 (by decide) ?_
    exact z_rH (wf := (z_hw c b a o)) hx hb hr hlocks hP hD hS hf dL_move_22
abbrev rmL_run : Room := { frames := 7, cells := 1, slots := 6, locals := 112 }
theorem qL_run_c28 : Cond.classLink RL 28 "java/lang/IndexOutOfBoundsException" ∈ wsL_run := by decide +kernel
set_option maxRecDepth 100000 in
set_option maxHeartbeats 4000000 in
theorem kL_run (l : Launch) (hlst : l.stackTraces = false) (D : va_G) (c : Nat → ClassId) (N : Nat) (b : Nat → Nat) (a : Nat → Nat → Nat) (o : Nat) (sz : Nat) (Y : z_H) (p1 : Int32) (r0 : Int32) (g0 : z_H) (hf : fL_run N p1 Y = some (r0, g0)) : Met l yL_run wsL_run rmL_run (z_Pt D c sz (z_hw c b a o Y) [.ref (b 0), .int p1, .ref o]) (z_Qi D (z_hw c b a o) r0 g0 (va_A (z_hw c b a o Y) sz)) 1 6 (va_A (z_hw c b a o Y) sz) := by
  refine z_ofH (cc := cL_run) (maxL := 4) (ret := (some .int)) (Qf := fun A => z_Qi D (z_hw c b a o) r0 g0 A) (by decide) rfl (Nat.le_of_ble_eq_true rfl) ?_
  intro p e s m args below meth co A ls hx hb hr hml hts hown hlocks htb hA hP hK hD hE hl hsz
  have hl : lv_has ls 4 [(0, .ref (b 0)), (1, .int p1), (2, .ref o)] := hl
  have hown : s.vm.findClass RL = some m.cls := hown
  obtain ⟨H, hH⟩ : ∃ H, H = s.heap := ⟨_, rfl⟩
  have hS : va_S A s.heap H [] := by rw [hH]; exact va_S.rf
  have hE0 := hE
  have hE : z_EH A s H := by rw [hH]; exact hE
  rw [← hH] at hP ⊢
  clear hH
  unfold fL_run at hf
  generalize ([] : List Loc) = locs at hS ⊢
  refine lv_aload_n hx hb dL_run_0 rfl (lv_at hl 2 rfl) ?_
  refine lv_iconst (v := (0 : Int32)) hx hb dL_run_1 (by decide) ?_
  refine lv_aload_n hx hb dL_run_2 rfl (lv_at hl 0 rfl) ?_
  refine lv_iload_n hx hb dL_run_3 rfl (lv_at hl 1 rfl) ?_
  obtain ⟨o1, X1, h1, hf⟩ := z_b2E hf
  obtain ⟨Y1, e1, hf⟩ := z_ltE hf
  refine z_xT (As := [.int p1]) (rest := [.int (0 : Int32), .ref o]) (wf := z_dw c b a) (g := Y.1) (u0 := X1) (V2 := z_hw c b a o Y1) ⟨hx, hb, hml, hown, hts⟩ (kX4_run l hlst D c N b a H.size Y.1 p1 o1 X1 h1) (cwV 1 hts gL_run_X4_run rfl rfl rfl (by decide +kernel) ⟨Nat.le_of_ble_eq_true rfl, Nat.le_of_ble_eq_true rfl⟩) hP hK hD hS hA hE (by rw [e1]; exact z_cutH hD X1) (ci := 4) (q0 := 0) rfl rfl rfl rfl hl.1 (Nat.le_of_ble_eq_true rfl) rfl dL_run_4 ⟨Nat.le_of_ble_eq_true rfl, Nat.le_of_ble_eq_true rfl⟩ (fun k q9 ce H locs e9 hP hD hS c1 c2 c3 => ?_) (fun r1 H locs e9 hP hD hS => ?_)
  · have hf := z_smR hf e9
    by_cases c9_0 : k = 3
    · have hf := z_ifT hf c9_0
      rw [c9_0] at c3
      refine vx_catch (own := RL) (name := z_ex 3) (E := z_ex 3) hown [] ⟨0, 9, 12, 28⟩ [] (htb.trans rfl) (fun _ h => absurd h List.not_mem_nil) (by decide) (by decide) (hts _ qL_run_c28) (va_Nw.use rfl (hE.2.2.2.2.1 (z_ex 3, z_ex 3) (by decide +kernel))) c1 c2 c3 ?_
      refine lv_astore_n (lv' := [(3, .ref q9), (0, .ref (b 0)), (1, .int p1), (2, .ref o)]) hx hb dL_run_12 rfl hl (by decide) rfl (fun ls hl => ?_)
      refine lv_iconst (v := (1 : Int32)) hx hb dL_run_13 (by decide) ?_
      exact z_rH (wf := (z_hw c b a o)) hx hb hr hlocks hP hD hS hf dL_run_14
    have hf := z_ifF hf c9_0
    cases hf
  · have hf := z_smL hf e9
    refine lv_i2l (v := (r1).toInt64) hx hb dL_run_7 rfl ?_
    refine va_last hx hb hK.1 hP hD hS 311 3 z_hwAt rfl (z_inE (by decide)) dL_run_8 (fun H locs hP hD hS => ?_)
    obtain ⟨Y2, e2, hf⟩ := z_ltE hf
    have hP : va_P D vwCl (z_hw c b a o Y2) H := by rw [e2, ← z_hwSet]; exact hP
    have hD : va_D A (z_hw c b a o Y2) := by rw [e2, ← z_hwSet]; exact hD
    clear e2
    refine lv_goto (tgt := 15) hx hb dL_run_9 (by decide) ?_
    refine lv_iconst (v := (0 : Int32)) hx hb dL_run_15 (by decide) ?_
    exact z_rH (wf := (z_hw c b a o)) hx hb hr hlocks hP hD hS hf dL_run_16
abbrev rmL_turn : Room := { frames := 7, cells := 1, slots := 6, locals := 103 }
theorem qL_turn_c13 : Cond.classLink RL 13 "java/lang/IllegalArgumentException" ∈ wsL_turn := by decide +kernel
set_option maxRecDepth 100000 in
set_option maxHeartbeats 4000000 in
theorem kL_turn (l : Launch) (hlst : l.stackTraces = false) (D : va_G) (c : Nat → ClassId) (N : Nat) (b : Nat → Nat) (a : Nat → Nat → Nat) (o : Nat) (sz : Nat) (Y : z_H) (p1 : Int32) (r0 : Int32) (g0 : z_H) (hf : fL_turn N p1 Y = some (r0, g0)) : Met l yL_turn wsL_turn rmL_turn (z_Pt D c sz (z_hw c b a o Y) [.ref (b 0), .int p1, .ref o]) (z_Qi D (z_hw c b a o) r0 g0 (va_A (z_hw c b a o Y) sz)) 1 6 (va_A (z_hw c b a o Y) sz) := by
  refine z_ofH (cc := cL_turn) (maxL := 4) (ret := (some .int)) (Qf := fun A => z_Qi D (z_hw c b a o) r0 g0 A) (by decide) rfl (Nat.le_of_ble_eq_true rfl) ?_
  intro p e s m args below meth co A ls hx hb hr hml hts hown hlocks htb hA hP hK hD hE hl hsz
  have hl : lv_has ls 4 [(0, .ref (b 0)), (1, .int p1), (2, .ref o)] := hl
  have hown : s.vm.findClass RL = some m.cls := hown
  obtain ⟨H, hH⟩ : ∃ H, H = s.heap := ⟨_, rfl⟩
  have hS : va_S A s.heap H [] := by rw [hH]; exact va_S.rf
  have hE0 := hE
  have hE : z_EH A s H := by rw [hH]; exact hE
  rw [← hH] at hP ⊢
  clear hH
  unfold fL_turn at hf
  generalize ([] : List Loc) = locs at hS ⊢
  refine lv_aload_n hx hb dL_turn_0 rfl (lv_at hl 2 rfl) ?_
  refine lv_iconst (v := (0 : Int32)) hx hb dL_turn_1 (by decide) ?_
  refine lv_aload_n hx hb dL_turn_2 rfl (lv_at hl 0 rfl) ?_
  refine lv_iload_n hx hb dL_turn_3 rfl (lv_at hl 1 rfl) ?_
  obtain ⟨o1, X1, h1, hf⟩ := z_b2E hf
  obtain ⟨Y1, e1, hf⟩ := z_ltE hf
  refine z_xT (As := [.int p1]) (rest := [.int (0 : Int32), .ref o]) (wf := z_dw c b a) (g := Y.1) (u0 := X1) (V2 := z_hw c b a o Y1) ⟨hx, hb, hml, hown, hts⟩ (kX4_turn l hlst D c N b a H.size Y.1 p1 o1 X1 h1) (cwV 1 hts gL_turn_X4_turn rfl rfl rfl (by decide +kernel) ⟨Nat.le_of_ble_eq_true rfl, Nat.le_of_ble_eq_true rfl⟩) hP hK hD hS hA hE (by rw [e1]; exact z_cutH hD X1) (ci := 4) (q0 := 0) rfl rfl rfl rfl hl.1 (Nat.le_of_ble_eq_true rfl) rfl dL_turn_4 ⟨Nat.le_of_ble_eq_true rfl, Nat.le_of_ble_eq_true rfl⟩ (fun k q9 ce H locs e9 hP hD hS c1 c2 c3 => ?_) (fun r1 H locs e9 hP hD hS => ?_)
  · have hf := z_smR hf e9
    by_cases c9_0 : k = 1
    · have hf := z_ifT hf c9_0
      rw [c9_0] at c3
      refine vx_catch (own := RL) (name := z_ex 1) (E := z_ex 1) hown [] ⟨0, 9, 12, 13⟩ [] (htb.trans rfl) (fun _ h => absurd h List.not_mem_nil) (by decide) (by decide) (hts _ qL_turn_c13) (va_Nw.use rfl (hE.2.2.2.2.1 (z_ex 1, z_ex 1) (by decide +kernel))) c1 c2 c3 ?_
      refine lv_astore_n (lv' := [(3, .ref q9), (0, .ref (b 0)), (1, .int p1), (2, .ref o)]) hx hb dL_turn_12 rfl hl (by decide) rfl (fun ls hl => ?_)
      refine lv_iconst (v := (1 : Int32)) hx hb dL_turn_13 (by decide) ?_
      exact z_rH (wf := (z_hw c b a o)) hx hb hr hlocks hP hD hS hf dL_turn_14
    have hf := z_ifF hf c9_0
    cases hf
  · have hf := z_smL hf e9
    refine lv_i2l (v := (r1).toInt64) hx hb dL_turn_7 rfl ?_
    refine va_last hx hb hK.1 hP hD hS 311 3 z_hwAt rfl (z_inE (by decide)) dL_turn_8 (fun H locs hP hD hS => ?_)
    obtain ⟨Y2, e2, hf⟩ := z_ltE hf
    have hP : va_P D vwCl (z_hw c b a o Y2) H := by rw [e2, ← z_hwSet]; exact hP
    have hD : va_D A (z_hw c b a o Y2) := by rw [e2, ← z_hwSet]; exact hD
    clear e2
    refine lv_goto (tgt := 15) hx hb dL_turn_9 (by decide) ?_
    refine lv_iconst (v := (0 : Int32)) hx hb dL_turn_15 (by decide) ?_
    exact z_rH (wf := (z_hw c b a o)) hx hb hr hlocks hP hD hS hf dL_turn_16
abbrev rmL_undo : Room := { frames := 7, cells := 1, slots := 6, locals := 102 }
theorem qL_undo_c15 : Cond.classLink RL 15 "java/lang/IllegalStateException" ∈ wsL_undo := by decide +kernel
set_option maxRecDepth 100000 in
set_option maxHeartbeats 4000000 in
theorem kL_undo (l : Launch) (hlst : l.stackTraces = false) (D : va_G) (c : Nat → ClassId) (N : Nat) (b : Nat → Nat) (a : Nat → Nat → Nat) (o : Nat) (sz : Nat) (Y : z_H) (r0 : Int32) (g0 : z_H) (hf : fL_undo N Y = some (r0, g0)) : Met l yL_undo wsL_undo rmL_undo (z_Pt D c sz (z_hw c b a o Y) [.ref (b 0), .ref o]) (z_Qi D (z_hw c b a o) r0 g0 (va_A (z_hw c b a o Y) sz)) 1 6 (va_A (z_hw c b a o Y) sz) := by
  refine z_ofH (cc := cL_undo) (maxL := 3) (ret := (some .int)) (Qf := fun A => z_Qi D (z_hw c b a o) r0 g0 A) (by decide) rfl (Nat.le_of_ble_eq_true rfl) ?_
  intro p e s m args below meth co A ls hx hb hr hml hts hown hlocks htb hA hP hK hD hE hl hsz
  have hl : lv_has ls 3 [(0, .ref (b 0)), (1, .ref o)] := hl
  have hown : s.vm.findClass RL = some m.cls := hown
  obtain ⟨H, hH⟩ : ∃ H, H = s.heap := ⟨_, rfl⟩
  have hS : va_S A s.heap H [] := by rw [hH]; exact va_S.rf
  have hE0 := hE
  have hE : z_EH A s H := by rw [hH]; exact hE
  rw [← hH] at hP ⊢
  clear hH
  unfold fL_undo at hf
  generalize ([] : List Loc) = locs at hS ⊢
  refine lv_aload_n hx hb dL_undo_0 rfl (lv_at hl 1 rfl) ?_
  refine lv_iconst (v := (0 : Int32)) hx hb dL_undo_1 (by decide) ?_
  refine lv_aload_n hx hb dL_undo_2 rfl (lv_at hl 0 rfl) ?_
  obtain ⟨o1, X1, h1, hf⟩ := z_b2E hf
  obtain ⟨Y1, e1, hf⟩ := z_ltE hf
  refine z_xT (As := []) (rest := [.int (0 : Int32), .ref o]) (wf := z_dw c b a) (g := Y.1) (u0 := X1) (V2 := z_hw c b a o Y1) ⟨hx, hb, hml, hown, hts⟩ (kX4_undo l hlst D c N b a H.size Y.1  o1 X1 h1) (cwV 0 hts gL_undo_X4_undo rfl rfl rfl (by decide +kernel) ⟨Nat.le_of_ble_eq_true rfl, Nat.le_of_ble_eq_true rfl⟩) hP hK hD hS hA hE (by rw [e1]; exact z_cutH hD X1) (ci := 4) (q0 := 0) rfl rfl rfl rfl hl.1 (Nat.le_of_ble_eq_true rfl) rfl dL_undo_3 ⟨Nat.le_of_ble_eq_true rfl, Nat.le_of_ble_eq_true rfl⟩ (fun k q9 ce H locs e9 hP hD hS c1 c2 c3 => ?_) (fun r1 H locs e9 hP hD hS => ?_)
  · have hf := z_smR hf e9
    by_cases c9_0 : k = 2
    · have hf := z_ifT hf c9_0
      rw [c9_0] at c3
      refine vx_catch (own := RL) (name := z_ex 2) (E := z_ex 2) hown [] ⟨0, 8, 11, 15⟩ [] (htb.trans rfl) (fun _ h => absurd h List.not_mem_nil) (by decide) (by decide) (hts _ qL_undo_c15) (va_Nw.use rfl (hE.2.2.2.2.1 (z_ex 2, z_ex 2) (by decide +kernel))) c1 c2 c3 ?_
      refine lv_astore_n (lv' := [(2, .ref q9), (0, .ref (b 0)), (1, .ref o)]) hx hb dL_undo_11 rfl hl (by decide) rfl (fun ls hl => ?_)
      refine lv_iconst (v := (1 : Int32)) hx hb dL_undo_12 (by decide) ?_
      exact z_rH (wf := (z_hw c b a o)) hx hb hr hlocks hP hD hS hf dL_undo_13
    have hf := z_ifF hf c9_0
    cases hf
  · have hf := z_smL hf e9
    refine lv_i2l (v := (r1).toInt64) hx hb dL_undo_6 rfl ?_
    refine va_last hx hb hK.1 hP hD hS 311 3 z_hwAt rfl (z_inE (by decide)) dL_undo_7 (fun H locs hP hD hS => ?_)
    obtain ⟨Y2, e2, hf⟩ := z_ltE hf
    have hP : va_P D vwCl (z_hw c b a o Y2) H := by rw [e2, ← z_hwSet]; exact hP
    have hD : va_D A (z_hw c b a o Y2) := by rw [e2, ← z_hwSet]; exact hD
    clear e2
    refine lv_goto (tgt := 14) hx hb dL_undo_8 (by decide) ?_
    refine lv_iconst (v := (0 : Int32)) hx hb dL_undo_14 (by decide) ?_
    exact z_rH (wf := (z_hw c b a o)) hx hb hr hlocks hP hD hS hf dL_undo_15
abbrev rmL_waits : Room := { frames := 7, cells := 1, slots := 6, locals := 103 }
theorem qL_waits_c28 : Cond.classLink RL 28 "java/lang/IndexOutOfBoundsException" ∈ wsL_waits := by decide +kernel
set_option maxRecDepth 100000 in
set_option maxHeartbeats 4000000 in
theorem kL_waits (l : Launch) (hlst : l.stackTraces = false) (D : va_G) (c : Nat → ClassId) (N : Nat) (b : Nat → Nat) (a : Nat → Nat → Nat) (o : Nat) (sz : Nat) (Y : z_H) (p1 : Int32) (r0 : Int32) (g0 : z_H) (hf : fL_waits N p1 Y = some (r0, g0)) : Met l yL_waits wsL_waits rmL_waits (z_Pt D c sz (z_hw c b a o Y) [.ref (b 0), .int p1, .ref o]) (z_Qi D (z_hw c b a o) r0 g0 (va_A (z_hw c b a o Y) sz)) 1 6 (va_A (z_hw c b a o Y) sz) := by
  refine z_ofH (cc := cL_waits) (maxL := 4) (ret := (some .int)) (Qf := fun A => z_Qi D (z_hw c b a o) r0 g0 A) (by decide) rfl (Nat.le_of_ble_eq_true rfl) ?_
  intro p e s m args below meth co A ls hx hb hr hml hts hown hlocks htb hA hP hK hD hE hl hsz
  have hl : lv_has ls 4 [(0, .ref (b 0)), (1, .int p1), (2, .ref o)] := hl
  have hown : s.vm.findClass RL = some m.cls := hown
  obtain ⟨H, hH⟩ : ∃ H, H = s.heap := ⟨_, rfl⟩
  have hS : va_S A s.heap H [] := by rw [hH]; exact va_S.rf
  have hE0 := hE
  have hE : z_EH A s H := by rw [hH]; exact hE
  rw [← hH] at hP ⊢
  clear hH
  unfold fL_waits at hf
  generalize ([] : List Loc) = locs at hS ⊢
  refine lv_aload_n hx hb dL_waits_0 rfl (lv_at hl 2 rfl) ?_
  refine lv_iconst (v := (0 : Int32)) hx hb dL_waits_1 (by decide) ?_
  refine lv_aload_n hx hb dL_waits_2 rfl (lv_at hl 0 rfl) ?_
  refine lv_iload_n hx hb dL_waits_3 rfl (lv_at hl 1 rfl) ?_
  obtain ⟨o1, X1, h1, hf⟩ := z_b2E hf
  obtain ⟨Y1, e1, hf⟩ := z_ltE hf
  refine z_xT (As := [.int p1]) (rest := [.int (0 : Int32), .ref o]) (wf := z_dw c b a) (g := Y.1) (u0 := X1) (V2 := z_hw c b a o Y1) ⟨hx, hb, hml, hown, hts⟩ (kX4_waits l hlst D c N b a H.size Y.1 p1 o1 X1 h1) (cwV 1 hts gL_waits_X4_waits rfl rfl rfl (by decide +kernel) ⟨Nat.le_of_ble_eq_true rfl, Nat.le_of_ble_eq_true rfl⟩) hP hK hD hS hA hE (by rw [e1]; exact z_cutH hD X1) (ci := 4) (q0 := 0) rfl rfl rfl rfl hl.1 (Nat.le_of_ble_eq_true rfl) rfl dL_waits_4 ⟨Nat.le_of_ble_eq_true rfl, Nat.le_of_ble_eq_true rfl⟩ (fun k q9 ce H locs e9 hP hD hS c1 c2 c3 => ?_) (fun r1 H locs e9 hP hD hS => ?_)
  · have hf := z_smR hf e9
    by_cases c9_0 : k = 3
    · have hf := z_ifT hf c9_0
      rw [c9_0] at c3
      refine vx_catch (own := RL) (name := z_ex 3) (E := z_ex 3) hown [] ⟨0, 9, 12, 28⟩ [] (htb.trans rfl) (fun _ h => absurd h List.not_mem_nil) (by decide) (by decide) (hts _ qL_waits_c28) (va_Nw.use rfl (hE.2.2.2.2.1 (z_ex 3, z_ex 3) (by decide +kernel))) c1 c2 c3 ?_
      refine lv_astore_n (lv' := [(3, .ref q9), (0, .ref (b 0)), (1, .int p1), (2, .ref o)]) hx hb dL_waits_12 rfl hl (by decide) rfl (fun ls hl => ?_)
      refine lv_iconst (v := (1 : Int32)) hx hb dL_waits_13 (by decide) ?_
      exact z_rH (wf := (z_hw c b a o)) hx hb hr hlocks hP hD hS hf dL_waits_14
    have hf := z_ifF hf c9_0
    cases hf
  · have hf := z_smL hf e9
    refine lv_i2l (v := (r1).toInt64) hx hb dL_waits_7 rfl ?_
    refine va_last hx hb hK.1 hP hD hS 311 3 z_hwAt rfl (z_inE (by decide)) dL_waits_8 (fun H locs hP hD hS => ?_)
    obtain ⟨Y2, e2, hf⟩ := z_ltE hf
    have hP : va_P D vwCl (z_hw c b a o Y2) H := by rw [e2, ← z_hwSet]; exact hP
    have hD : va_D A (z_hw c b a o Y2) := by rw [e2, ← z_hwSet]; exact hD
    clear e2
    refine lv_goto (tgt := 15) hx hb dL_waits_9 (by decide) ?_
    refine lv_iconst (v := (0 : Int32)) hx hb dL_waits_15 (by decide) ?_
    exact z_rH (wf := (z_hw c b a o)) hx hb hr hlocks hP hD hS hf dL_waits_16
abbrev rmL_time : Room := { frames := 7, cells := 1, slots := 6, locals := 134 }
theorem qL_time_c28 : Cond.classLink RL 28 "java/lang/IndexOutOfBoundsException" ∈ wsL_time := by decide +kernel
set_option maxRecDepth 100000 in
set_option maxHeartbeats 4000000 in
theorem kL_time (l : Launch) (hlst : l.stackTraces = false) (D : va_G) (c : Nat → ClassId) (N : Nat) (b : Nat → Nat) (a : Nat → Nat → Nat) (o : Nat) (sz : Nat) (Y : z_H) (p1 : Int32) (r0 : Int32) (g0 : z_H) (hf : fL_time N p1 Y = some (r0, g0)) : Met l yL_time wsL_time rmL_time (z_Pt D c sz (z_hw c b a o Y) [.ref (b 0), .int p1, .ref o]) (z_Qi D (z_hw c b a o) r0 g0 (va_A (z_hw c b a o Y) sz)) 1 6 (va_A (z_hw c b a o Y) sz) := by
  refine z_ofH (cc := cL_time) (maxL := 4) (ret := (some .int)) (Qf := fun A => z_Qi D (z_hw c b a o) r0 g0 A) (by decide) rfl (Nat.le_of_ble_eq_true rfl) ?_
  intro p e s m args below meth co A ls hx hb hr hml hts hown hlocks htb hA hP hK hD hE hl hsz
  have hl : lv_has ls 4 [(0, .ref (b 0)), (1, .int p1), (2, .ref o)] := hl
  have hown : s.vm.findClass RL = some m.cls := hown
  obtain ⟨H, hH⟩ : ∃ H, H = s.heap := ⟨_, rfl⟩
  have hS : va_S A s.heap H [] := by rw [hH]; exact va_S.rf
  have hE0 := hE
  have hE : z_EH A s H := by rw [hH]; exact hE
  rw [← hH] at hP ⊢
  clear hH
  unfold fL_time at hf
  generalize ([] : List Loc) = locs at hS ⊢
  refine lv_aload_n hx hb dL_time_0 rfl (lv_at hl 2 rfl) ?_
  refine lv_iconst (v := (0 : Int32)) hx hb dL_time_1 (by decide) ?_
  refine lv_aload_n hx hb dL_time_2 rfl (lv_at hl 0 rfl) ?_
  refine lv_iload_n hx hb dL_time_3 rfl (lv_at hl 1 rfl) ?_
  obtain ⟨o1, X1, h1, hf⟩ := z_b2E hf
  obtain ⟨Y1, e1, hf⟩ := z_ltE hf
  refine z_xT (As := [.int p1]) (rest := [.int (0 : Int32), .ref o]) (wf := z_dw c b a) (g := Y.1) (u0 := X1) (V2 := z_hw c b a o Y1) ⟨hx, hb, hml, hown, hts⟩ (kX4_time l hlst D c N b a H.size Y.1 p1 o1 X1 h1) (cwV 1 hts gL_time_X4_time rfl rfl rfl (by decide +kernel) ⟨Nat.le_of_ble_eq_true rfl, Nat.le_of_ble_eq_true rfl⟩) hP hK hD hS hA hE (by rw [e1]; exact z_cutH hD X1) (ci := 4) (q0 := 0) rfl rfl rfl rfl hl.1 (Nat.le_of_ble_eq_true rfl) rfl dL_time_4 ⟨Nat.le_of_ble_eq_true rfl, Nat.le_of_ble_eq_true rfl⟩ (fun k q9 ce H locs e9 hP hD hS c1 c2 c3 => ?_) (fun r1 H locs e9 hP hD hS => ?_)
  · have hf := z_smR hf e9
    by_cases c9_0 : k = 3
    · have hf := z_ifT hf c9_0
      rw [c9_0] at c3
      refine vx_catch (own := RL) (name := z_ex 3) (E := z_ex 3) hown [] ⟨0, 9, 12, 28⟩ [] (htb.trans rfl) (fun _ h => absurd h List.not_mem_nil) (by decide) (by decide) (hts _ qL_time_c28) (va_Nw.use rfl (hE.2.2.2.2.1 (z_ex 3, z_ex 3) (by decide +kernel))) c1 c2 c3 ?_
      refine lv_astore_n (lv' := [(3, .ref q9), (0, .ref (b 0)), (1, .int p1), (2, .ref o)]) hx hb dL_time_12 rfl hl (by decide) rfl (fun ls hl => ?_)
      refine lv_iconst (v := (1 : Int32)) hx hb dL_time_13 (by decide) ?_
      exact z_rH (wf := (z_hw c b a o)) hx hb hr hlocks hP hD hS hf dL_time_14
    have hf := z_ifF hf c9_0
    cases hf
  · have hf := z_smL hf e9
    refine lv_i2l (v := (r1).toInt64) hx hb dL_time_7 rfl ?_
    refine va_last hx hb hK.1 hP hD hS 311 3 z_hwAt rfl (z_inE (by decide)) dL_time_8 (fun H locs hP hD hS => ?_)
    obtain ⟨Y2, e2, hf⟩ := z_ltE hf
    have hP : va_P D vwCl (z_hw c b a o Y2) H := by rw [e2, ← z_hwSet]; exact hP
    have hD : va_D A (z_hw c b a o Y2) := by rw [e2, ← z_hwSet]; exact hD
    clear e2
    refine lv_goto (tgt := 15) hx hb dL_time_9 (by decide) ?_
    refine lv_iconst (v := (0 : Int32)) hx hb dL_time_15 (by decide) ?_
    exact z_rH (wf := (z_hw c b a o)) hx hb hr hlocks hP hD hS hf dL_time_16
abbrev rmL_bestPlace : Room := { frames := 7, cells := 1, slots := 6, locals := 139 }
theorem qL_bestPlace_c28 : Cond.classLink RL 28 "java/lang/IndexOutOfBoundsException" ∈ wsL_bestPlace := by decide +kernel
set_option maxRecDepth 100000 in
set_option maxHeartbeats 4000000 in
theorem kL_bestPlace (l : Launch) (hlst : l.stackTraces = false) (D : va_G) (c : Nat → ClassId) (N : Nat) (b : Nat → Nat) (a : Nat → Nat → Nat) (o : Nat) (sz : Nat) (Y : z_H) (p1 : Int32) (p2 : Int32) (r0 : Int32) (g0 : z_H) (hf : fL_bestPlace N p1 p2 Y = some (r0, g0)) : Met l yL_bestPlace wsL_bestPlace rmL_bestPlace (z_Pt D c sz (z_hw c b a o Y) [.ref (b 0), .int p1, .int p2, .ref o]) (z_Qi D (z_hw c b a o) r0 g0 (va_A (z_hw c b a o Y) sz)) 1 6 (va_A (z_hw c b a o Y) sz) := by
  refine z_ofH (cc := cL_bestPlace) (maxL := 5) (ret := (some .int)) (Qf := fun A => z_Qi D (z_hw c b a o) r0 g0 A) (by decide) rfl (Nat.le_of_ble_eq_true rfl) ?_
  intro p e s m args below meth co A ls hx hb hr hml hts hown hlocks htb hA hP hK hD hE hl hsz
  have hl : lv_has ls 5 [(0, .ref (b 0)), (1, .int p1), (2, .int p2), (3, .ref o)] := hl
  have hown : s.vm.findClass RL = some m.cls := hown
  obtain ⟨H, hH⟩ : ∃ H, H = s.heap := ⟨_, rfl⟩
  have hS : va_S A s.heap H [] := by rw [hH]; exact va_S.rf
  have hE0 := hE
  have hE : z_EH A s H := by rw [hH]; exact hE
  rw [← hH] at hP ⊢
  clear hH
  unfold fL_bestPlace at hf
  generalize ([] : List Loc) = locs at hS ⊢
  refine lv_aload_n hx hb dL_bestPlace_0 rfl (lv_at hl 3 rfl) ?_
  refine lv_iconst (v := (0 : Int32)) hx hb dL_bestPlace_1 (by decide) ?_
  refine lv_aload_n hx hb dL_bestPlace_2 rfl (lv_at hl 0 rfl) ?_
  refine lv_iload_n hx hb dL_bestPlace_3 rfl (lv_at hl 1 rfl) ?_
  refine lv_iload_n hx hb dL_bestPlace_4 rfl (lv_at hl 2 rfl) ?_
  obtain ⟨o1, X1, h1, hf⟩ := z_b2E hf
  obtain ⟨Y1, e1, hf⟩ := z_ltE hf
  refine z_xT (As := [.int p1, .int p2]) (rest := [.int (0 : Int32), .ref o]) (wf := z_dw c b a) (g := Y.1) (u0 := X1) (V2 := z_hw c b a o Y1) ⟨hx, hb, hml, hown, hts⟩ (kX4_bestPlace l hlst D c N b a H.size Y.1 p1 p2 o1 X1 h1) (cwV 2 hts gL_bestPlace_X4_bestPlace rfl rfl rfl (by decide +kernel) ⟨Nat.le_of_ble_eq_true rfl, Nat.le_of_ble_eq_true rfl⟩) hP hK hD hS hA hE (by rw [e1]; exact z_cutH hD X1) (ci := 4) (q0 := 0) rfl rfl rfl rfl hl.1 (Nat.le_of_ble_eq_true rfl) rfl dL_bestPlace_5 ⟨Nat.le_of_ble_eq_true rfl, Nat.le_of_ble_eq_true rfl⟩ (fun k q9 ce H locs e9 hP hD hS c1 c2 c3 => ?_) (fun r1 H locs e9 hP hD hS => ?_)
  · have hf := z_smR hf e9
    by_cases c9_0 : k = 3
    · have hf := z_ifT hf c9_0
      rw [c9_0] at c3
      refine vx_catch (own := RL) (name := z_ex 3) (E := z_ex 3) hown [] ⟨0, 10, 13, 28⟩ [] (htb.trans rfl) (fun _ h => absurd h List.not_mem_nil) (by decide) (by decide) (hts _ qL_bestPlace_c28) (va_Nw.use rfl (hE.2.2.2.2.1 (z_ex 3, z_ex 3) (by decide +kernel))) c1 c2 c3 ?_
      refine lv_astore (lv' := [(4, .ref q9), (0, .ref (b 0)), (1, .int p1), (2, .int p2), (3, .ref o)]) hx hb dL_bestPlace_13 hl (by decide) rfl (fun ls hl => ?_)
      refine lv_iconst (v := (1 : Int32)) hx hb dL_bestPlace_15 (by decide) ?_
      exact z_rH (wf := (z_hw c b a o)) hx hb hr hlocks hP hD hS hf dL_bestPlace_16
    have hf := z_ifF hf c9_0
    cases hf
  · have hf := z_smL hf e9
    refine lv_i2l (v := (r1).toInt64) hx hb dL_bestPlace_8 rfl ?_
    refine va_last hx hb hK.1 hP hD hS 311 3 z_hwAt rfl (z_inE (by decide)) dL_bestPlace_9 (fun H locs hP hD hS => ?_)
    obtain ⟨Y2, e2, hf⟩ := z_ltE hf
    have hP : va_P D vwCl (z_hw c b a o Y2) H := by rw [e2, ← z_hwSet]; exact hP
    have hD : va_D A (z_hw c b a o Y2) := by rw [e2, ← z_hwSet]; exact hD
    clear e2
    refine lv_goto (tgt := 17) hx hb dL_bestPlace_10 (by decide) ?_
    refine lv_iconst (v := (0 : Int32)) hx hb dL_bestPlace_17 (by decide) ?_
    exact z_rH (wf := (z_hw c b a o)) hx hb hr hlocks hP hD hS hf dL_bestPlace_18
abbrev rmL_leastBribe : Room := { frames := 7, cells := 1, slots := 6, locals := 134 }
theorem qL_leastBribe_c28 : Cond.classLink RL 28 "java/lang/IndexOutOfBoundsException" ∈ wsL_leastBribe := by decide +kernel
set_option maxRecDepth 100000 in
set_option maxHeartbeats 4000000 in
theorem kL_leastBribe (l : Launch) (hlst : l.stackTraces = false) (D : va_G) (c : Nat → ClassId) (N : Nat) (b : Nat → Nat) (a : Nat → Nat → Nat) (o : Nat) (sz : Nat) (Y : z_H) (p1 : Int32) (r0 : Int32) (g0 : z_H) (hf : fL_leastBribe N p1 Y = some (r0, g0)) : Met l yL_leastBribe wsL_leastBribe rmL_leastBribe (z_Pt D c sz (z_hw c b a o Y) [.ref (b 0), .int p1, .ref o]) (z_Qi D (z_hw c b a o) r0 g0 (va_A (z_hw c b a o Y) sz)) 1 6 (va_A (z_hw c b a o Y) sz) := by
  refine z_ofH (cc := cL_leastBribe) (maxL := 4) (ret := (some .int)) (Qf := fun A => z_Qi D (z_hw c b a o) r0 g0 A) (by decide) rfl (Nat.le_of_ble_eq_true rfl) ?_
  intro p e s m args below meth co A ls hx hb hr hml hts hown hlocks htb hA hP hK hD hE hl hsz
  have hl : lv_has ls 4 [(0, .ref (b 0)), (1, .int p1), (2, .ref o)] := hl
  have hown : s.vm.findClass RL = some m.cls := hown
  obtain ⟨H, hH⟩ : ∃ H, H = s.heap := ⟨_, rfl⟩
  have hS : va_S A s.heap H [] := by rw [hH]; exact va_S.rf
  have hE0 := hE
  have hE : z_EH A s H := by rw [hH]; exact hE
  rw [← hH] at hP ⊢
  clear hH
  unfold fL_leastBribe at hf
  generalize ([] : List Loc) = locs at hS ⊢
  refine lv_aload_n hx hb dL_leastBribe_0 rfl (lv_at hl 2 rfl) ?_
  refine lv_iconst (v := (0 : Int32)) hx hb dL_leastBribe_1 (by decide) ?_
  refine lv_aload_n hx hb dL_leastBribe_2 rfl (lv_at hl 0 rfl) ?_
  refine lv_iload_n hx hb dL_leastBribe_3 rfl (lv_at hl 1 rfl) ?_
  obtain ⟨o1, X1, h1, hf⟩ := z_b2E hf
  obtain ⟨Y1, e1, hf⟩ := z_ltE hf
  refine z_xT (As := [.int p1]) (rest := [.int (0 : Int32), .ref o]) (wf := z_dw c b a) (g := Y.1) (u0 := X1) (V2 := z_hw c b a o Y1) ⟨hx, hb, hml, hown, hts⟩ (kX4_leastBribe l hlst D c N b a H.size Y.1 p1 o1 X1 h1) (cwV 1 hts gL_leastBribe_X4_leastBribe rfl rfl rfl (by decide +kernel) ⟨Nat.le_of_ble_eq_true rfl, Nat.le_of_ble_eq_true rfl⟩) hP hK hD hS hA hE (by rw [e1]; exact z_cutH hD X1) (ci := 4) (q0 := 0) rfl rfl rfl rfl hl.1 (Nat.le_of_ble_eq_true rfl) rfl dL_leastBribe_4 ⟨Nat.le_of_ble_eq_true rfl, Nat.le_of_ble_eq_true rfl⟩ (fun k q9 ce H locs e9 hP hD hS c1 c2 c3 => ?_) (fun r1 H locs e9 hP hD hS => ?_)
  · have hf := z_smR hf e9
    by_cases c9_0 : k = 3
    · have hf := z_ifT hf c9_0
      rw [c9_0] at c3
      refine vx_catch (own := RL) (name := z_ex 3) (E := z_ex 3) hown [] ⟨0, 9, 12, 28⟩ [] (htb.trans rfl) (fun _ h => absurd h List.not_mem_nil) (by decide) (by decide) (hts _ qL_leastBribe_c28) (va_Nw.use rfl (hE.2.2.2.2.1 (z_ex 3, z_ex 3) (by decide +kernel))) c1 c2 c3 ?_
      refine lv_astore_n (lv' := [(3, .ref q9), (0, .ref (b 0)), (1, .int p1), (2, .ref o)]) hx hb dL_leastBribe_12 rfl hl (by decide) rfl (fun ls hl => ?_)
      refine lv_iconst (v := (1 : Int32)) hx hb dL_leastBribe_13 (by decide) ?_
      exact z_rH (wf := (z_hw c b a o)) hx hb hr hlocks hP hD hS hf dL_leastBribe_14
    have hf := z_ifF hf c9_0
    cases hf
  · have hf := z_smL hf e9
    refine lv_i2l (v := (r1).toInt64) hx hb dL_leastBribe_7 rfl ?_
    refine va_last hx hb hK.1 hP hD hS 311 3 z_hwAt rfl (z_inE (by decide)) dL_leastBribe_8 (fun H locs hP hD hS => ?_)
    obtain ⟨Y2, e2, hf⟩ := z_ltE hf
    have hP : va_P D vwCl (z_hw c b a o Y2) H := by rw [e2, ← z_hwSet]; exact hP
    have hD : va_D A (z_hw c b a o Y2) := by rw [e2, ← z_hwSet]; exact hD
    clear e2
    refine lv_goto (tgt := 15) hx hb dL_leastBribe_9 (by decide) ?_
    refine lv_iconst (v := (0 : Int32)) hx hb dL_leastBribe_15 (by decide) ?_
    exact z_rH (wf := (z_hw c b a o)) hx hb hr hlocks hP hD hS hf dL_leastBribe_16
abbrev rmL_saves : Room := { frames := 7, cells := 1, slots := 6, locals := 134 }
theorem qL_saves_c28 : Cond.classLink RL 28 "java/lang/IndexOutOfBoundsException" ∈ wsL_saves := by decide +kernel
set_option maxRecDepth 100000 in
set_option maxHeartbeats 4000000 in
theorem kL_saves (l : Launch) (hlst : l.stackTraces = false) (D : va_G) (c : Nat → ClassId) (N : Nat) (b : Nat → Nat) (a : Nat → Nat → Nat) (o : Nat) (sz : Nat) (Y : z_H) (p1 : Int32) (r0 : Int32) (g0 : z_H) (hf : fL_saves N p1 Y = some (r0, g0)) : Met l yL_saves wsL_saves rmL_saves (z_Pt D c sz (z_hw c b a o Y) [.ref (b 0), .int p1, .ref o]) (z_Qi D (z_hw c b a o) r0 g0 (va_A (z_hw c b a o Y) sz)) 1 6 (va_A (z_hw c b a o Y) sz) := by
  refine z_ofH (cc := cL_saves) (maxL := 4) (ret := (some .int)) (Qf := fun A => z_Qi D (z_hw c b a o) r0 g0 A) (by decide) rfl (Nat.le_of_ble_eq_true rfl) ?_
  intro p e s m args below meth co A ls hx hb hr hml hts hown hlocks htb hA hP hK hD hE hl hsz
  have hl : lv_has ls 4 [(0, .ref (b 0)), (1, .int p1), (2, .ref o)] := hl
  have hown : s.vm.findClass RL = some m.cls := hown
  obtain ⟨H, hH⟩ : ∃ H, H = s.heap := ⟨_, rfl⟩
  have hS : va_S A s.heap H [] := by rw [hH]; exact va_S.rf
  have hE0 := hE
  have hE : z_EH A s H := by rw [hH]; exact hE
  rw [← hH] at hP ⊢
  clear hH
  unfold fL_saves at hf
  generalize ([] : List Loc) = locs at hS ⊢
  refine lv_aload_n hx hb dL_saves_0 rfl (lv_at hl 2 rfl) ?_
  refine lv_iconst (v := (0 : Int32)) hx hb dL_saves_1 (by decide) ?_
  refine lv_aload_n hx hb dL_saves_2 rfl (lv_at hl 0 rfl) ?_
  refine lv_iload_n hx hb dL_saves_3 rfl (lv_at hl 1 rfl) ?_
  obtain ⟨o1, X1, h1, hf⟩ := z_b2E hf
  obtain ⟨Y1, e1, hf⟩ := z_ltE hf
  refine z_xT (As := [.int p1]) (rest := [.int (0 : Int32), .ref o]) (wf := z_dw c b a) (g := Y.1) (u0 := X1) (V2 := z_hw c b a o Y1) ⟨hx, hb, hml, hown, hts⟩ (kX4_saves l hlst D c N b a H.size Y.1 p1 o1 X1 h1) (cwV 1 hts gL_saves_X4_saves rfl rfl rfl (by decide +kernel) ⟨Nat.le_of_ble_eq_true rfl, Nat.le_of_ble_eq_true rfl⟩) hP hK hD hS hA hE (by rw [e1]; exact z_cutH hD X1) (ci := 4) (q0 := 0) rfl rfl rfl rfl hl.1 (Nat.le_of_ble_eq_true rfl) rfl dL_saves_4 ⟨Nat.le_of_ble_eq_true rfl, Nat.le_of_ble_eq_true rfl⟩ (fun k q9 ce H locs e9 hP hD hS c1 c2 c3 => ?_) (fun r1 H locs e9 hP hD hS => ?_)
  · have hf := z_smR hf e9
    by_cases c9_0 : k = 3
    · have hf := z_ifT hf c9_0
      rw [c9_0] at c3
      refine vx_catch (own := RL) (name := z_ex 3) (E := z_ex 3) hown [] ⟨0, 9, 12, 28⟩ [] (htb.trans rfl) (fun _ h => absurd h List.not_mem_nil) (by decide) (by decide) (hts _ qL_saves_c28) (va_Nw.use rfl (hE.2.2.2.2.1 (z_ex 3, z_ex 3) (by decide +kernel))) c1 c2 c3 ?_
      refine lv_astore_n (lv' := [(3, .ref q9), (0, .ref (b 0)), (1, .int p1), (2, .ref o)]) hx hb dL_saves_12 rfl hl (by decide) rfl (fun ls hl => ?_)
      refine lv_iconst (v := (1 : Int32)) hx hb dL_saves_13 (by decide) ?_
      exact z_rH (wf := (z_hw c b a o)) hx hb hr hlocks hP hD hS hf dL_saves_14
    have hf := z_ifF hf c9_0
    cases hf
  · have hf := z_smL hf e9
    refine lv_i2l (v := (r1).toInt64) hx hb dL_saves_7 rfl ?_
    refine va_last hx hb hK.1 hP hD hS 311 3 z_hwAt rfl (z_inE (by decide)) dL_saves_8 (fun H locs hP hD hS => ?_)
    obtain ⟨Y2, e2, hf⟩ := z_ltE hf
    have hP : va_P D vwCl (z_hw c b a o Y2) H := by rw [e2, ← z_hwSet]; exact hP
    have hD : va_D A (z_hw c b a o Y2) := by rw [e2, ← z_hwSet]; exact hD
    clear e2
    refine lv_goto (tgt := 15) hx hb dL_saves_9 (by decide) ?_
    refine lv_iconst (v := (0 : Int32)) hx hb dL_saves_15 (by decide) ?_
    exact z_rH (wf := (z_hw c b a o)) hx hb hr hlocks hP hD hS hf dL_saves_16
abbrev rmL_runScript : Room := { frames := 7, cells := 1, slots := 6, locals := 161 }
theorem qL_runScript_c13 : Cond.classLink RL 13 "java/lang/IllegalArgumentException" ∈ wsL_runScript := by decide +kernel
set_option maxRecDepth 100000 in
set_option maxHeartbeats 4000000 in
theorem kL_runScript (l : Launch) (hlst : l.stackTraces = false) (D : va_G) (c : Nat → ClassId) (N : Nat) (b : Nat → Nat) (a : Nat → Nat → Nat) (o : Nat) (sz : Nat) (Y : z_H) (p1 : Int32) (p2 : Int64) (r0 : Int32) (g0 : z_H) (hf : fL_runScript N p1 p2 Y = some (r0, g0)) : Met l yL_runScript wsL_runScript rmL_runScript (z_Pt D c sz (z_hw c b a o Y) [.ref (b 0), .int p1, .long p2, .ref o]) (z_Qi D (z_hw c b a o) r0 g0 (va_A (z_hw c b a o Y) sz)) 1 6 (va_A (z_hw c b a o Y) sz) := by
  refine z_ofH (cc := cL_runScript) (maxL := 6) (ret := (some .int)) (Qf := fun A => z_Qi D (z_hw c b a o) r0 g0 A) (by decide) rfl (Nat.le_of_ble_eq_true rfl) ?_
  intro p e s m args below meth co A ls hx hb hr hml hts hown hlocks htb hA hP hK hD hE hl hsz
  have hl : lv_has ls 6 [(0, .ref (b 0)), (1, .int p1), (2, .long p2), (4, .ref o)] := hl
  have hown : s.vm.findClass RL = some m.cls := hown
  obtain ⟨H, hH⟩ : ∃ H, H = s.heap := ⟨_, rfl⟩
  have hS : va_S A s.heap H [] := by rw [hH]; exact va_S.rf
  have hE0 := hE
  have hE : z_EH A s H := by rw [hH]; exact hE
  rw [← hH] at hP ⊢
  clear hH
  unfold fL_runScript at hf
  generalize ([] : List Loc) = locs at hS ⊢
  refine lv_aload hx hb dL_runScript_0 (lv_at hl 3 rfl) ?_
  refine lv_iconst (v := (0 : Int32)) hx hb dL_runScript_2 (by decide) ?_
  refine lv_aload_n hx hb dL_runScript_3 rfl (lv_at hl 0 rfl) ?_
  refine lv_iload_n hx hb dL_runScript_4 rfl (lv_at hl 1 rfl) ?_
  refine lv_lload_n hx hb dL_runScript_5 rfl (lv_at hl 2 rfl) ?_
  obtain ⟨o1, X1, h1, hf⟩ := z_b2E hf
  obtain ⟨Y1, e1, hf⟩ := z_ltE hf
  refine z_xT (As := [.int p1, .long p2]) (rest := [.int (0 : Int32), .ref o]) (wf := z_dw c b a) (g := Y.1) (u0 := X1) (V2 := z_hw c b a o Y1) ⟨hx, hb, hml, hown, hts⟩ (kX4_runScript l hlst D c N b a H.size Y.1 p1 p2 o1 X1 h1) (cwV 2 hts gL_runScript_X4_runScript rfl rfl rfl (by decide +kernel) ⟨Nat.le_of_ble_eq_true rfl, Nat.le_of_ble_eq_true rfl⟩) hP hK hD hS hA hE (by rw [e1]; exact z_cutH hD X1) (ci := 4) (q0 := 0) rfl rfl rfl rfl hl.1 (Nat.le_of_ble_eq_true rfl) rfl dL_runScript_6 ⟨Nat.le_of_ble_eq_true rfl, Nat.le_of_ble_eq_true rfl⟩ (fun k q9 ce H locs e9 hP hD hS c1 c2 c3 => ?_) (fun r1 H locs e9 hP hD hS => ?_)
  · have hf := z_smR hf e9
    by_cases c9_0 : k = 1
    · have hf := z_ifT hf c9_0
      rw [c9_0] at c3
      refine vx_catch (own := RL) (name := z_ex 1) (E := z_ex 1) hown [] ⟨0, 11, 14, 13⟩ [] (htb.trans rfl) (fun _ h => absurd h List.not_mem_nil) (by decide) (by decide) (hts _ qL_runScript_c13) (va_Nw.use rfl (hE.2.2.2.2.1 (z_ex 1, z_ex 1) (by decide +kernel))) c1 c2 c3 ?_
      refine lv_astore (lv' := [(5, .ref q9), (0, .ref (b 0)), (1, .int p1), (2, .long p2), (4, .ref o)]) hx hb dL_runScript_14 hl (by decide) rfl (fun ls hl => ?_)
      refine lv_iconst (v := (1 : Int32)) hx hb dL_runScript_16 (by decide) ?_
      exact z_rH (wf := (z_hw c b a o)) hx hb hr hlocks hP hD hS hf dL_runScript_17
    have hf := z_ifF hf c9_0
    cases hf
  · have hf := z_smL hf e9
    refine lv_i2l (v := (r1).toInt64) hx hb dL_runScript_9 rfl ?_
    refine va_last hx hb hK.1 hP hD hS 311 3 z_hwAt rfl (z_inE (by decide)) dL_runScript_10 (fun H locs hP hD hS => ?_)
    obtain ⟨Y2, e2, hf⟩ := z_ltE hf
    have hP : va_P D vwCl (z_hw c b a o Y2) H := by rw [e2, ← z_hwSet]; exact hP
    have hD : va_D A (z_hw c b a o Y2) := by rw [e2, ← z_hwSet]; exact hD
    clear e2
    refine lv_goto (tgt := 18) hx hb dL_runScript_11 (by decide) ?_
    refine lv_iconst (v := (0 : Int32)) hx hb dL_runScript_18 (by decide) ?_
    exact z_rH (wf := (z_hw c b a o)) hx hb hr hlocks hP hD hS hf dL_runScript_19
abbrev rmL_simulate : Room := { frames := 7, cells := 1, slots := 6, locals := 161 }
theorem qL_simulate_c13 : Cond.classLink RL 13 "java/lang/IllegalArgumentException" ∈ wsL_simulate := by decide +kernel
set_option maxRecDepth 100000 in
set_option maxHeartbeats 4000000 in
theorem kL_simulate (l : Launch) (hlst : l.stackTraces = false) (D : va_G) (c : Nat → ClassId) (N : Nat) (b : Nat → Nat) (a : Nat → Nat → Nat) (o : Nat) (sz : Nat) (Y : z_H) (p1 : Int64) (p3 : Int32) (r0 : Int32) (g0 : z_H) (hf : fL_simulate N p1 p3 Y = some (r0, g0)) : Met l yL_simulate wsL_simulate rmL_simulate (z_Pt D c sz (z_hw c b a o Y) [.ref (b 0), .long p1, .int p3, .ref o]) (z_Qi D (z_hw c b a o) r0 g0 (va_A (z_hw c b a o Y) sz)) 1 6 (va_A (z_hw c b a o Y) sz) := by
  refine z_ofH (cc := cL_simulate) (maxL := 6) (ret := (some .int)) (Qf := fun A => z_Qi D (z_hw c b a o) r0 g0 A) (by decide) rfl (Nat.le_of_ble_eq_true rfl) ?_
  intro p e s m args below meth co A ls hx hb hr hml hts hown hlocks htb hA hP hK hD hE hl hsz
  have hl : lv_has ls 6 [(0, .ref (b 0)), (1, .long p1), (3, .int p3), (4, .ref o)] := hl
  have hown : s.vm.findClass RL = some m.cls := hown
  obtain ⟨H, hH⟩ : ∃ H, H = s.heap := ⟨_, rfl⟩
  have hS : va_S A s.heap H [] := by rw [hH]; exact va_S.rf
  have hE0 := hE
  have hE : z_EH A s H := by rw [hH]; exact hE
  rw [← hH] at hP ⊢
  clear hH
  unfold fL_simulate at hf
  generalize ([] : List Loc) = locs at hS ⊢
  refine lv_aload hx hb dL_simulate_0 (lv_at hl 3 rfl) ?_
  refine lv_iconst (v := (0 : Int32)) hx hb dL_simulate_2 (by decide) ?_
  refine lv_aload_n hx hb dL_simulate_3 rfl (lv_at hl 0 rfl) ?_
  refine lv_lload_n hx hb dL_simulate_4 rfl (lv_at hl 1 rfl) ?_
  refine lv_iload_n hx hb dL_simulate_5 rfl (lv_at hl 2 rfl) ?_
  obtain ⟨o1, X1, h1, hf⟩ := z_b2E hf
  obtain ⟨Y1, e1, hf⟩ := z_ltE hf
  refine z_xT (As := [.long p1, .int p3]) (rest := [.int (0 : Int32), .ref o]) (wf := z_dw c b a) (g := Y.1) (u0 := X1) (V2 := z_hw c b a o Y1) ⟨hx, hb, hml, hown, hts⟩ (kX4_simulate l hlst D c N b a H.size Y.1 p1 p3 o1 X1 h1) (cwV 2 hts gL_simulate_X4_simulate rfl rfl rfl (by decide +kernel) ⟨Nat.le_of_ble_eq_true rfl, Nat.le_of_ble_eq_true rfl⟩) hP hK hD hS hA hE (by rw [e1]; exact z_cutH hD X1) (ci := 4) (q0 := 0) rfl rfl rfl rfl hl.1 (Nat.le_of_ble_eq_true rfl) rfl dL_simulate_6 ⟨Nat.le_of_ble_eq_true rfl, Nat.le_of_ble_eq_true rfl⟩ (fun k q9 ce H locs e9 hP hD hS c1 c2 c3 => ?_) (fun r1 H locs e9 hP hD hS => ?_)
  · have hf := z_smR hf e9
    by_cases c9_0 : k = 1
    · have hf := z_ifT hf c9_0
      rw [c9_0] at c3
      refine vx_catch (own := RL) (name := z_ex 1) (E := z_ex 1) hown [] ⟨0, 11, 14, 13⟩ [] (htb.trans rfl) (fun _ h => absurd h List.not_mem_nil) (by decide) (by decide) (hts _ qL_simulate_c13) (va_Nw.use rfl (hE.2.2.2.2.1 (z_ex 1, z_ex 1) (by decide +kernel))) c1 c2 c3 ?_
      refine lv_astore (lv' := [(5, .ref q9), (0, .ref (b 0)), (1, .long p1), (3, .int p3), (4, .ref o)]) hx hb dL_simulate_14 hl (by decide) rfl (fun ls hl => ?_)
      refine lv_iconst (v := (1 : Int32)) hx hb dL_simulate_16 (by decide) ?_
      exact z_rH (wf := (z_hw c b a o)) hx hb hr hlocks hP hD hS hf dL_simulate_17
    have hf := z_ifF hf c9_0
    cases hf
  · have hf := z_smL hf e9
    refine lv_i2l (v := (r1).toInt64) hx hb dL_simulate_9 rfl ?_
    refine va_last hx hb hK.1 hP hD hS 311 3 z_hwAt rfl (z_inE (by decide)) dL_simulate_10 (fun H locs hP hD hS => ?_)
    obtain ⟨Y2, e2, hf⟩ := z_ltE hf
    have hP : va_P D vwCl (z_hw c b a o Y2) H := by rw [e2, ← z_hwSet]; exact hP
    have hD : va_D A (z_hw c b a o Y2) := by rw [e2, ← z_hwSet]; exact hD
    clear e2
    refine lv_goto (tgt := 18) hx hb dL_simulate_11 (by decide) ?_
    refine lv_iconst (v := (0 : Int32)) hx hb dL_simulate_18 (by decide) ?_
    exact z_rH (wf := (z_hw c b a o)) hx hb hr hlocks hP hD hS hf dL_simulate_19
abbrev rmL_save : Room := { frames := 7, cells := 1, slots := 6, locals := 104 }
theorem qL_save_c28 : Cond.classLink RL 28 "java/lang/IndexOutOfBoundsException" ∈ wsL_save := by decide +kernel
set_option maxRecDepth 100000 in
set_option maxHeartbeats 4000000 in
theorem kL_save (l : Launch) (hlst : l.stackTraces = false) (D : va_G) (c : Nat → ClassId) (N : Nat) (b : Nat → Nat) (a : Nat → Nat → Nat) (o : Nat) (sz : Nat) (Y : z_H) (p1 : Int32) (r0 : Int32) (g0 : z_H) (hf : fL_save N p1 Y = some (r0, g0)) : Met l yL_save wsL_save rmL_save (z_Pt D c sz (z_hw c b a o Y) [.ref (b 0), .int p1, .ref o]) (z_Qi D (z_hw c b a o) r0 g0 (va_A (z_hw c b a o Y) sz)) 1 6 (va_A (z_hw c b a o Y) sz) := by
  refine z_ofH (cc := cL_save) (maxL := 4) (ret := (some .int)) (Qf := fun A => z_Qi D (z_hw c b a o) r0 g0 A) (by decide) rfl (Nat.le_of_ble_eq_true rfl) ?_
  intro p e s m args below meth co A ls hx hb hr hml hts hown hlocks htb hA hP hK hD hE hl hsz
  have hl : lv_has ls 4 [(0, .ref (b 0)), (1, .int p1), (2, .ref o)] := hl
  have hown : s.vm.findClass RL = some m.cls := hown
  obtain ⟨H, hH⟩ : ∃ H, H = s.heap := ⟨_, rfl⟩
  have hS : va_S A s.heap H [] := by rw [hH]; exact va_S.rf
  have hE0 := hE
  have hE : z_EH A s H := by rw [hH]; exact hE
  rw [← hH] at hP ⊢
  clear hH
  unfold fL_save at hf
  generalize ([] : List Loc) = locs at hS ⊢
  refine lv_aload_n hx hb dL_save_0 rfl (lv_at hl 2 rfl) ?_
  refine lv_iconst (v := (0 : Int32)) hx hb dL_save_1 (by decide) ?_
  refine lv_aload_n hx hb dL_save_2 rfl (lv_at hl 0 rfl) ?_
  refine lv_iload_n hx hb dL_save_3 rfl (lv_at hl 1 rfl) ?_
  obtain ⟨o1, X1, h1, hf⟩ := z_b2E hf
  obtain ⟨Y1, e1, hf⟩ := z_ltE hf
  refine z_xT (As := [.int p1]) (rest := [.int (0 : Int32), .ref o]) (wf := z_dw c b a) (g := Y.1) (u0 := X1) (V2 := z_hw c b a o Y1) ⟨hx, hb, hml, hown, hts⟩ (kX4_save l hlst D c N b a H.size Y.1 p1 o1 X1 h1) (cwV 1 hts gL_save_X4_save rfl rfl rfl (by decide +kernel) ⟨Nat.le_of_ble_eq_true rfl, Nat.le_of_ble_eq_true rfl⟩) hP hK hD hS hA hE (by rw [e1]; exact z_cutH hD X1) (ci := 4) (q0 := 0) rfl rfl rfl rfl hl.1 (Nat.le_of_ble_eq_true rfl) rfl dL_save_4 ⟨Nat.le_of_ble_eq_true rfl, Nat.le_of_ble_eq_true rfl⟩ (fun k q9 ce H locs e9 hP hD hS c1 c2 c3 => ?_) (fun r1 H locs e9 hP hD hS => ?_)
  · have hf := z_smR hf e9
    by_cases c9_0 : k = 3
    · have hf := z_ifT hf c9_0
      rw [c9_0] at c3
      refine vx_catch (own := RL) (name := z_ex 3) (E := z_ex 3) hown [] ⟨0, 9, 12, 28⟩ [] (htb.trans rfl) (fun _ h => absurd h List.not_mem_nil) (by decide) (by decide) (hts _ qL_save_c28) (va_Nw.use rfl (hE.2.2.2.2.1 (z_ex 3, z_ex 3) (by decide +kernel))) c1 c2 c3 ?_
      refine lv_astore_n (lv' := [(3, .ref q9), (0, .ref (b 0)), (1, .int p1), (2, .ref o)]) hx hb dL_save_12 rfl hl (by decide) rfl (fun ls hl => ?_)
      refine lv_iconst (v := (1 : Int32)) hx hb dL_save_13 (by decide) ?_
      exact z_rH (wf := (z_hw c b a o)) hx hb hr hlocks hP hD hS hf dL_save_14
    have hf := z_ifF hf c9_0
    cases hf
  · have hf := z_smL hf e9
    refine lv_i2l (v := (r1).toInt64) hx hb dL_save_7 rfl ?_
    refine va_last hx hb hK.1 hP hD hS 311 3 z_hwAt rfl (z_inE (by decide)) dL_save_8 (fun H locs hP hD hS => ?_)
    obtain ⟨Y2, e2, hf⟩ := z_ltE hf
    have hP : va_P D vwCl (z_hw c b a o Y2) H := by rw [e2, ← z_hwSet]; exact hP
    have hD : va_D A (z_hw c b a o Y2) := by rw [e2, ← z_hwSet]; exact hD
    clear e2
    refine lv_goto (tgt := 15) hx hb dL_save_9 (by decide) ?_
    refine lv_iconst (v := (0 : Int32)) hx hb dL_save_15 (by decide) ?_
    exact z_rH (wf := (z_hw c b a o)) hx hb hr hlocks hP hD hS hf dL_save_16
abbrev rmL_restore : Room := { frames := 7, cells := 1, slots := 6, locals := 104 }
theorem qL_restore_c28 : Cond.classLink RL 28 "java/lang/IndexOutOfBoundsException" ∈ wsL_restore := by decide +kernel
theorem qL_restore_c15 : Cond.classLink RL 15 "java/lang/IllegalStateException" ∈ wsL_restore := by decide +kernel
set_option maxRecDepth 100000 in
set_option maxHeartbeats 4000000 in
theorem kL_restore (l : Launch) (hlst : l.stackTraces = false) (D : va_G) (c : Nat → ClassId) (N : Nat) (b : Nat → Nat) (a : Nat → Nat → Nat) (o : Nat) (sz : Nat) (Y : z_H) (p1 : Int32) (r0 : Int32) (g0 : z_H) (hf : fL_restore N p1 Y = some (r0, g0)) : Met l yL_restore wsL_restore rmL_restore (z_Pt D c sz (z_hw c b a o Y) [.ref (b 0), .int p1, .ref o]) (z_Qi D (z_hw c b a o) r0 g0 (va_A (z_hw c b a o Y) sz)) 1 6 (va_A (z_hw c b a o Y) sz) := by
  refine z_ofH (cc := cL_restore) (maxL := 4) (ret := (some .int)) (Qf := fun A => z_Qi D (z_hw c b a o) r0 g0 A) (by decide) rfl (Nat.le_of_ble_eq_true rfl) ?_
  intro p e s m args below meth co A ls hx hb hr hml hts hown hlocks htb hA hP hK hD hE hl hsz
  have hl : lv_has ls 4 [(0, .ref (b 0)), (1, .int p1), (2, .ref o)] := hl
  have hown : s.vm.findClass RL = some m.cls := hown
  obtain ⟨H, hH⟩ : ∃ H, H = s.heap := ⟨_, rfl⟩
  have hS : va_S A s.heap H [] := by rw [hH]; exact va_S.rf
  have hE0 := hE
  have hE : z_EH A s H := by rw [hH]; exact hE
  rw [← hH] at hP ⊢
  clear hH
  unfold fL_restore at hf
  generalize ([] : List Loc) = locs at hS ⊢
  refine lv_aload_n hx hb dL_restore_0 rfl (lv_at hl 2 rfl) ?_
  refine lv_iconst (v := (0 : Int32)) hx hb dL_restore_1 (by decide) ?_
  refine lv_aload_n hx hb dL_restore_2 rfl (lv_at hl 0 rfl) ?_
  refine lv_iload_n hx hb dL_restore_3 rfl (lv_at hl 1 rfl) ?_
  obtain ⟨o1, X1, h1, hf⟩ := z_b2E hf
  obtain ⟨Y1, e1, hf⟩ := z_ltE hf
  refine z_xT (As := [.int p1]) (rest := [.int (0 : Int32), .ref o]) (wf := z_dw c b a) (g := Y.1) (u0 := X1) (V2 := z_hw c b a o Y1) ⟨hx, hb, hml, hown, hts⟩ (kX4_restore l hlst D c N b a H.size Y.1 p1 o1 X1 h1) (cwV 1 hts gL_restore_X4_restore rfl rfl rfl (by decide +kernel) ⟨Nat.le_of_ble_eq_true rfl, Nat.le_of_ble_eq_true rfl⟩) hP hK hD hS hA hE (by rw [e1]; exact z_cutH hD X1) (ci := 4) (q0 := 0) rfl rfl rfl rfl hl.1 (Nat.le_of_ble_eq_true rfl) rfl dL_restore_4 ⟨Nat.le_of_ble_eq_true rfl, Nat.le_of_ble_eq_true rfl⟩ (fun k q9 ce H locs e9 hP hD hS c1 c2 c3 => ?_) (fun r1 H locs e9 hP hD hS => ?_)
  · have hf := z_smR hf e9
    by_cases c9_0 : k = 3
    · have hf := z_ifT hf c9_0
      rw [c9_0] at c3
      refine vx_catch (own := RL) (name := z_ex 3) (E := z_ex 3) hown [] ⟨0, 9, 12, 28⟩ [⟨0, 9, 15, 15⟩] (htb.trans rfl) (fun _ h => absurd h List.not_mem_nil) (by decide) (by decide) (hts _ qL_restore_c28) (va_Nw.use rfl (hE.2.2.2.2.1 (z_ex 3, z_ex 3) (by decide +kernel))) c1 c2 c3 ?_
      refine lv_astore_n (lv' := [(3, .ref q9), (0, .ref (b 0)), (1, .int p1), (2, .ref o)]) hx hb dL_restore_12 rfl hl (by decide) rfl (fun ls hl => ?_)
      refine lv_iconst (v := (1 : Int32)) hx hb dL_restore_13 (by decide) ?_
      exact z_rH (wf := (z_hw c b a o)) hx hb hr hlocks hP hD hS hf dL_restore_14
    have hf := z_ifF hf c9_0
    by_cases c9_1 : k = 2
    · have hf := z_ifT hf c9_1
      rw [c9_1] at c3
      refine vx_catch (own := RL) (name := z_ex 2) (E := z_ex 2) hown [⟨0, 9, 12, 28⟩] ⟨0, 9, 15, 15⟩ [] (htb.trans rfl) (List.forall_mem_cons.mpr ⟨Or.inr ⟨by decide, z_ex 3, hts _ qL_restore_c28, hE.2.2.2.2.2 (z_ex 2, z_ex 3) (by decide +kernel)⟩, fun _ h => absurd h List.not_mem_nil⟩) (by decide) (by decide) (hts _ qL_restore_c15) (va_Nw.use rfl (hE.2.2.2.2.1 (z_ex 2, z_ex 2) (by decide +kernel))) c1 c2 c3 ?_
      refine lv_astore_n (lv' := [(3, .ref q9), (0, .ref (b 0)), (1, .int p1), (2, .ref o)]) hx hb dL_restore_15 rfl hl (by decide) rfl (fun ls hl => ?_)
      refine lv_iconst (v := (2 : Int32)) hx hb dL_restore_16 (by decide) ?_
      exact z_rH (wf := (z_hw c b a o)) hx hb hr hlocks hP hD hS hf dL_restore_17
    have hf := z_ifF hf c9_1
    cases hf
  · have hf := z_smL hf e9
    refine lv_i2l (v := (r1).toInt64) hx hb dL_restore_7 rfl ?_
    refine va_last hx hb hK.1 hP hD hS 311 3 z_hwAt rfl (z_inE (by decide)) dL_restore_8 (fun H locs hP hD hS => ?_)
    obtain ⟨Y2, e2, hf⟩ := z_ltE hf
    have hP : va_P D vwCl (z_hw c b a o Y2) H := by rw [e2, ← z_hwSet]; exact hP
    have hD : va_D A (z_hw c b a o Y2) := by rw [e2, ← z_hwSet]; exact hD
    clear e2
    refine lv_goto (tgt := 18) hx hb dL_restore_9 (by decide) ?_
    refine lv_iconst (v := (0 : Int32)) hx hb dL_restore_18 (by decide) ?_
    exact z_rH (wf := (z_hw c b a o)) hx hb hr hlocks hP hD hS hf dL_restore_19
