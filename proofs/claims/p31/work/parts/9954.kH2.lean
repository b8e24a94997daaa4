abbrev rmL_move : Room := { frames := 7, cells := 1, slots := 6, locals := 104 }
theorem qL_move_c16 : Cond.classLink RL 16 "java/lang/IndexOutOfBoundsException" ∈ wsL_move := by decide +kernel
theorem qL_move_c18 : Cond.classLink RL 18 "java/lang/IllegalStateException" ∈ wsL_move := by decide +kernel
set_option maxRecDepth 100000 in
set_option maxHeartbeats 4000000 in
theorem kL_move (l : Launch) (hlst : l.stackTraces = false) (D : va_G) (c : Nat → ClassId) (N : Nat) (b : Nat → Nat) (a : Nat → Nat → Nat) (sz : Nat) (X : z_X) (p1 : Int32) (p2 : Int32) (r0 : Int32) (g0 : z_X) (hf : fL_move N p1 p2 X = some (r0, g0)) : Met l yL_move wsL_move rmL_move (z_Pt D c sz (z_dw c b a X) [.ref (b 0), .int p1, .int p2]) (z_Qi D (z_dw c b a) r0 g0 (va_A (z_dw c b a X) sz)) 1 6 (va_A (z_dw c b a X) sz) := by
  refine z_ofH (cc := cL_move) (maxL := 4) (ret := (some .int)) (Qf := fun A => z_Qi D (z_dw c b a) r0 g0 A) (by decide) rfl (Nat.le_of_ble_eq_true rfl) ?_
  intro p e s m args below meth co A ls hx hb hr hml hts hown hlocks htb hA hP hK hD hE hl hsz
  have hl : lv_has ls 4 [(0, .ref (b 0)), (1, .int p1), (2, .int p2)] := hl
  have hown : s.vm.findClass RL = some m.cls := hown
  obtain ⟨H, hH⟩ : ∃ H, H = s.heap := ⟨_, rfl⟩
  have hS : va_S A s.heap H [] := by rw [hH]; exact va_S.rf
  have hE0 := hE
  have hE : z_EH A s H := by rw [hH]; exact hE
  rw [← hH] at hP ⊢
  clear hH
  unfold fL_move at hf
  generalize ([] : List Loc) = locs at hS ⊢
  refine lv_aload_n hx hb dL_move_0 rfl (lv_at hl 0 rfl) ?_
  refine lv_iload_n hx hb dL_move_1 rfl (lv_at hl 1 rfl) ?_
  refine lv_iload_n hx hb dL_move_2 rfl (lv_at hl 2 rfl) ?_
  obtain ⟨o1, X1, h1, hf⟩ := z_b2E hf
  refine z_xT (As := [.int p1, .int p2]) (rest := []) (wf := z_dw c b a) (g := X) (u0 := X1) (V2 := z_dw c b a X1) ⟨hx, hb, hml, hown, hts⟩ (kX4_move l hlst D c N b a H.size X p1 p2 o1 X1 h1) (cwV 2 hts gL_move_X4_move rfl rfl rfl (by decide +kernel) ⟨Nat.le_of_ble_eq_true rfl, Nat.le_of_ble_eq_true rfl⟩) hP hK hD hS hA hE (z_cutAll hD z_dwA) (ci := 4) (q0 := 0) rfl rfl rfl rfl hl.1 (Nat.le_of_ble_eq_true rfl) rfl dL_move_3 ⟨Nat.le_of_ble_eq_true rfl, Nat.le_of_ble_eq_true rfl⟩ (fun k q9 ce H locs e9 hP hD hS c1 c2 c3 => ?_) (fun r1 H locs e9 hP hD hS => ?_)
  · have hf := z_smR hf e9
    by_cases c9_0 : k = 3
    · have hf := z_ifT hf c9_0
      rw [c9_0] at c3
      refine vx_catch (own := RL) (name := z_ex 3) (E := z_ex 3) hown [] ⟨0, 6, 7, 16⟩ [⟨0, 6, 10, 18⟩] (htb.trans rfl) (fun _ h => absurd h List.not_mem_nil) (by decide) (by decide) (hts _ qL_move_c16) (va_Nw.use rfl (hE.2.2.2.2.1 (z_ex 3, z_ex 3) (by decide +kernel))) c1 c2 c3 ?_
      refine lv_astore_n (lv' := [(3, .ref q9), (0, .ref (b 0)), (1, .int p1), (2, .int p2)]) hx hb dL_move_7 rfl hl (by decide) rfl (fun ls hl => ?_)
      refine lv_iconst (v := (-1 : Int32)) hx hb dL_move_8 (by decide) ?_
      exact z_rH (wf := (z_dw c b a)) hx hb hr hlocks hP hD hS hf dL_move_9
    have hf := z_ifF hf c9_0
    by_cases c9_1 : k = 2
    · have hf := z_ifT hf c9_1
      rw [c9_1] at c3
      refine vx_catch (own := RL) (name := z_ex 2) (E := z_ex 2) hown [⟨0, 6, 7, 16⟩] ⟨0, 6, 10, 18⟩ [] (htb.trans rfl) (List.forall_mem_cons.mpr ⟨Or.inr ⟨by decide, z_ex 3, hts _ qL_move_c16, hE.2.2.2.2.2 (z_ex 2, z_ex 3) (by decide +kernel)⟩, fun _ h => absurd h List.not_mem_nil⟩) (by decide) (by decide) (hts _ qL_move_c18) (va_Nw.use rfl (hE.2.2.2.2.1 (z_ex 2, z_ex 2) (by decide +kernel))) c1 c2 c3 ?_
      refine lv_astore_n (lv' := [(3, .ref q9), (0, .ref (b 0)), (1, .int p1), (2, .int p2)]) hx hb dL_move_10 rfl hl (by decide) rfl (fun ls hl => ?_)
      refine lv_bipush (v := (-2 : Int32)) hx hb dL_move_11 (by decide) ?_
      exact z_rH (wf := (z_dw c b a)) hx hb hr hlocks hP hD hS hf dL_move_13
    have hf := z_ifF hf c9_1
    cases hf
  · have hf := z_smL hf e9
    exact z_rH (wf := (z_dw c b a)) hx hb hr hlocks hP hD hS hf dL_move_6
abbrev rmL_same : Room := { frames := 4, cells := 0, slots := 0, locals := 85 }
set_option maxRecDepth 100000 in
set_option maxHeartbeats 4000000 in
theorem kL_same (l : Launch) (D : va_G) (c : Nat → ClassId) (N : Nat) (b : Nat → Nat) (a : Nat → Nat → Nat) (d : Nat → Nat) (sz : Nat) (Y : z_N) (r0 : Int32) (hf : fL_same N Y = some r0) : Met l yL_same wsL_same rmL_same (z_Pc D c sz (z_nw c b a d Y) [.ref (b 0), .ref (d 0), .ref (d 1), .ref (d 2)]) (z_Qi D (z_nw c b a d) r0 Y (va_A (z_nw c b a d Y) sz)) 0 0 (va_A (z_nw c b a d Y) sz) := by
  refine z_ofM (cc := cL_same) (maxL := 11) (ret := (some .boolean)) (Qf := fun A => z_Qi D (z_nw c b a d) r0 Y A) (plainFor_of_name (by decide)) rfl (Nat.le_of_ble_eq_true rfl) ?_
  intro p e s m args below meth co A ls hx hb hr hml hts hown hlocks hnm hA hP hK hD hl hsz
  have hl : lv_has ls 11 [(0, .ref (b 0)), (1, .ref (d 0)), (2, .ref (d 1)), (3, .ref (d 2))] := hl
  have hown : s.vm.findClass RL = some m.cls := hown
  obtain ⟨H, hH⟩ : ∃ H, H = s.heap := ⟨_, rfl⟩
  have hS : va_S A s.heap H [] := by rw [hH]; exact va_S.rf
  rw [← hH] at hP ⊢
  clear hH
  have L252 : ∀ (x4 : Int32) (x5 : Int32) (x6 : Int32) (x7 : Int32) (Y : z_N) (fu : Nat) (x8 : Int32), lL_same_252 N x4 x5 x6 x7 Y fu x8 = some r0 → ∀ (H : Heap) (locs : List Loc) (ls : Array Slot), va_P D vwCl (z_nw c b a d Y) H → va_D A (z_nw c b a d Y) → va_S A s.heap H locs → lv_has ls 11 [(0, .ref (b 0)), (1, .ref (d 0)), (3, .ref (d 2)), (4, .int x4), (5, .int x5), (6, .int x6), (7, .int x7), (8, .int x8)] → W p l e rmL_same s m args below meth co H locs 0 0 (MQ below (z_Qi D (z_nw c b a d) r0 Y A) args s 0 0 A) (F0 m 252 ls []) := by
    intro x4 x5 x6 x7 Y fu
    induction fu with
    | zero =>
      intro x8 hf
      have hf : (none : Option Int32) = some _ := hf
      cases hf
    | succ fu ih =>
      intro x8 hf H locs ls hP hD hS hl
      rw [lL_same_252.eq_2] at hf
      refine lv_iload hx hb dL_same_252 (lv_at hl 7 rfl) ?_
      refine lv_aload_n hx hb dL_same_254 rfl (lv_at hl 1 rfl) ?_
      refine lv_bipush (v := (11 : Int32)) hx hb dL_same_255 (by decide) ?_
      refine va_iald hx hb hK.1 (z_subP hP z_inN) 0 0 rfl rfl (z_inE (by decide)) dL_same_257 ?_
      refine lv_icmp_ge (tgt := 310) hx hb dL_same_258 (by decide) (fun c3 => ?_) (fun c3 => ?_)
      · have hf := z_ifT hf c3
        refine lv_aload_n hx hb dL_same_310 rfl (lv_at hl 0 rfl) ?_
        refine lv_iconst (v := (0 : Int32)) hx hb dL_same_311 (by decide) ?_
        obtain ⟨r4, h4, hf⟩ := z_bE hf
        refine z_xVi (As := [.int (0 : Int32)]) (rest := []) (wf := z_dw c b a) (g := Y.1) (u0 := Y.1) (V2 := (z_nw c b a d Y)) ⟨hx, hb, hml, hown, hts⟩ (kX4_about l D c N b a H.size Y.1 (0 : Int32) r4 h4) (cwV 1 hts gL_same_X4_about rfl rfl rfl (by decide +kernel) ⟨Nat.le_of_ble_eq_true rfl, Nat.le_of_ble_eq_true rfl⟩) hP hK hD hS hA (z_cutNDp hD) (ci := 4) (q0 := 0) rfl rfl rfl rfl hl.1 (Nat.le_of_ble_eq_true rfl) rfl dL_same_312 ⟨Nat.le_of_ble_eq_true rfl, Nat.le_of_ble_eq_true rfl⟩ (fun H locs hP hD hS => ?_)
        refine lv_aload_n hx hb dL_same_315 rfl (lv_at hl 1 rfl) ?_
        refine lv_iconst (v := (0 : Int32)) hx hb dL_same_316 (by decide) ?_
        refine va_iald hx hb hK.1 (z_subP hP z_inN) 0 0 rfl rfl (z_inE (by decide)) dL_same_317 ?_
        refine lv_icmp_ne (tgt := 431) hx hb dL_same_318 (by decide) (fun c5 => ?_) (fun c5 => ?_)
        · have hf := z_ifF hf c5
          refine lv_iconst (v := (0 : Int32)) hx hb dL_same_431 (by decide) ?_
          exact z_zp (wf := (z_nw c b a d)) hx hb hr rfl hlocks hP hD hS hf dL_same_432
        · have hf := z_ifT hf c5
          refine lv_aload_n hx hb dL_same_321 rfl (lv_at hl 0 rfl) ?_
          refine lv_iconst (v := (2 : Int32)) hx hb dL_same_322 (by decide) ?_
          obtain ⟨r6, h6, hf⟩ := z_bE hf
          refine z_xVi (As := [.int (2 : Int32)]) (rest := []) (wf := z_dw c b a) (g := Y.1) (u0 := Y.1) (V2 := (z_nw c b a d Y)) ⟨hx, hb, hml, hown, hts⟩ (kX4_about l D c N b a H.size Y.1 (2 : Int32) r6 h6) (cwV 1 hts gL_same_X4_about rfl rfl rfl (by decide +kernel) ⟨Nat.le_of_ble_eq_true rfl, Nat.le_of_ble_eq_true rfl⟩) hP hK hD hS hA (z_cutNDp hD) (ci := 4) (q0 := 0) rfl rfl rfl rfl hl.1 (Nat.le_of_ble_eq_true rfl) rfl dL_same_323 ⟨Nat.le_of_ble_eq_true rfl, Nat.le_of_ble_eq_true rfl⟩ (fun H locs hP hD hS => ?_)
          refine lv_aload_n hx hb dL_same_326 rfl (lv_at hl 1 rfl) ?_
          refine lv_iconst (v := (1 : Int32)) hx hb dL_same_327 (by decide) ?_
          refine va_iald hx hb hK.1 (z_subP hP z_inN) 0 0 rfl rfl (z_inE (by decide)) dL_same_328 ?_
          refine lv_icmp_ne (tgt := 431) hx hb dL_same_329 (by decide) (fun c7 => ?_) (fun c7 => ?_)
          · have hf := z_ifF hf c7
            refine lv_iconst (v := (0 : Int32)) hx hb dL_same_431 (by decide) ?_
            exact z_zp (wf := (z_nw c b a d)) hx hb hr rfl hlocks hP hD hS hf dL_same_432
          · have hf := z_ifT hf c7
            refine lv_aload_n hx hb dL_same_332 rfl (lv_at hl 0 rfl) ?_
            refine lv_iconst (v := (3 : Int32)) hx hb dL_same_333 (by decide) ?_
            obtain ⟨r8, h8, hf⟩ := z_bE hf
            refine z_xVi (As := [.int (3 : Int32)]) (rest := []) (wf := z_dw c b a) (g := Y.1) (u0 := Y.1) (V2 := (z_nw c b a d Y)) ⟨hx, hb, hml, hown, hts⟩ (kX4_about l D c N b a H.size Y.1 (3 : Int32) r8 h8) (cwV 1 hts gL_same_X4_about rfl rfl rfl (by decide +kernel) ⟨Nat.le_of_ble_eq_true rfl, Nat.le_of_ble_eq_true rfl⟩) hP hK hD hS hA (z_cutNDp hD) (ci := 4) (q0 := 0) rfl rfl rfl rfl hl.1 (Nat.le_of_ble_eq_true rfl) rfl dL_same_334 ⟨Nat.le_of_ble_eq_true rfl, Nat.le_of_ble_eq_true rfl⟩ (fun H locs hP hD hS => ?_)
            refine lv_aload_n hx hb dL_same_337 rfl (lv_at hl 1 rfl) ?_
            refine lv_iconst (v := (1 : Int32)) hx hb dL_same_338 (by decide) ?_
            refine va_iald hx hb hK.1 (z_subP hP z_inN) 0 0 rfl rfl (z_inE (by decide)) dL_same_339 ?_
            refine lv_aload_n hx hb dL_same_340 rfl (lv_at hl 1 rfl) ?_
            refine lv_iconst (v := (0 : Int32)) hx hb dL_same_341 (by decide) ?_
            refine va_iald hx hb hK.1 (z_subP hP z_inN) 0 0 rfl rfl (z_inE (by decide)) dL_same_342 ?_
            obtain ⟨b9, hf⟩ := z_ckE hf
            refine lv_irem hx hb dL_same_343 (z_nzE b9) ?_
            refine lv_icmp_ne (tgt := 431) hx hb dL_same_344 (by decide) (fun c10 => ?_) (fun c10 => ?_)
            · have hf := z_ifF hf c10
              refine lv_iconst (v := (0 : Int32)) hx hb dL_same_431 (by decide) ?_
              exact z_zp (wf := (z_nw c b a d)) hx hb hr rfl hlocks hP hD hS hf dL_same_432
            · have hf := z_ifT hf c10
              refine lv_aload_n hx hb dL_same_347 rfl (lv_at hl 0 rfl) ?_
              refine lv_iconst (v := (4 : Int32)) hx hb dL_same_348 (by decide) ?_
              obtain ⟨r11, h11, hf⟩ := z_bE hf
              refine z_xVi (As := [.int (4 : Int32)]) (rest := []) (wf := z_dw c b a) (g := Y.1) (u0 := Y.1) (V2 := (z_nw c b a d Y)) ⟨hx, hb, hml, hown, hts⟩ (kX4_about l D c N b a H.size Y.1 (4 : Int32) r11 h11) (cwV 1 hts gL_same_X4_about rfl rfl rfl (by decide +kernel) ⟨Nat.le_of_ble_eq_true rfl, Nat.le_of_ble_eq_true rfl⟩) hP hK hD hS hA (z_cutNDp hD) (ci := 4) (q0 := 0) rfl rfl rfl rfl hl.1 (Nat.le_of_ble_eq_true rfl) rfl dL_same_349 ⟨Nat.le_of_ble_eq_true rfl, Nat.le_of_ble_eq_true rfl⟩ (fun H locs hP hD hS => ?_)
              refine lv_iload hx hb dL_same_352 (lv_at hl 6 rfl) ?_
              refine lv_icmp_ne (tgt := 431) hx hb dL_same_354 (by decide) (fun c12 => ?_) (fun c12 => ?_)
              · have hf := z_ifF hf c12
                refine lv_iconst (v := (0 : Int32)) hx hb dL_same_431 (by decide) ?_
                exact z_zp (wf := (z_nw c b a d)) hx hb hr rfl hlocks hP hD hS hf dL_same_432
              · have hf := z_ifT hf c12
                refine lv_aload_n hx hb dL_same_357 rfl (lv_at hl 0 rfl) ?_
                refine lv_iconst (v := (5 : Int32)) hx hb dL_same_358 (by decide) ?_
                obtain ⟨r13, h13, hf⟩ := z_bE hf
                refine z_xVi (As := [.int (5 : Int32)]) (rest := []) (wf := z_dw c b a) (g := Y.1) (u0 := Y.1) (V2 := (z_nw c b a d Y)) ⟨hx, hb, hml, hown, hts⟩ (kX4_about l D c N b a H.size Y.1 (5 : Int32) r13 h13) (cwV 1 hts gL_same_X4_about rfl rfl rfl (by decide +kernel) ⟨Nat.le_of_ble_eq_true rfl, Nat.le_of_ble_eq_true rfl⟩) hP hK hD hS hA (z_cutNDp hD) (ci := 4) (q0 := 0) rfl rfl rfl rfl hl.1 (Nat.le_of_ble_eq_true rfl) rfl dL_same_359 ⟨Nat.le_of_ble_eq_true rfl, Nat.le_of_ble_eq_true rfl⟩ (fun H locs hP hD hS => ?_)
                refine lv_iload hx hb dL_same_362 (lv_at hl 3 rfl) ?_
                refine lv_icmp_ne (tgt := 431) hx hb dL_same_364 (by decide) (fun c14 => ?_) (fun c14 => ?_)
                · have hf := z_ifF hf c14
                  refine lv_iconst (v := (0 : Int32)) hx hb dL_same_431 (by decide) ?_
                  exact z_zp (wf := (z_nw c b a d)) hx hb hr rfl hlocks hP hD hS hf dL_same_432
                · have hf := z_ifT hf c14
                  refine lv_aload_n hx hb dL_same_367 rfl (lv_at hl 0 rfl) ?_
                  refine lv_bipush (v := (6 : Int32)) hx hb dL_same_368 (by decide) ?_
                  obtain ⟨r15, h15, hf⟩ := z_bE hf
                  refine z_xVi (As := [.int (6 : Int32)]) (rest := []) (wf := z_dw c b a) (g := Y.1) (u0 := Y.1) (V2 := (z_nw c b a d Y)) ⟨hx, hb, hml, hown, hts⟩ (kX4_about l D c N b a H.size Y.1 (6 : Int32) r15 h15) (cwV 1 hts gL_same_X4_about rfl rfl rfl (by decide +kernel) ⟨Nat.le_of_ble_eq_true rfl, Nat.le_of_ble_eq_true rfl⟩) hP hK hD hS hA (z_cutNDp hD) (ci := 4) (q0 := 0) rfl rfl rfl rfl hl.1 (Nat.le_of_ble_eq_true rfl) rfl dL_same_370 ⟨Nat.le_of_ble_eq_true rfl, Nat.le_of_ble_eq_true rfl⟩ (fun H locs hP hD hS => ?_)
                  refine lv_iload hx hb dL_same_373 (lv_at hl 4 rfl) ?_
                  refine lv_icmp_ne (tgt := 431) hx hb dL_same_375 (by decide) (fun c16 => ?_) (fun c16 => ?_)
                  · have hf := z_ifF hf c16
                    refine lv_iconst (v := (0 : Int32)) hx hb dL_same_431 (by decide) ?_
                    exact z_zp (wf := (z_nw c b a d)) hx hb hr rfl hlocks hP hD hS hf dL_same_432
                  · have hf := z_ifT hf c16
                    refine lv_aload_n hx hb dL_same_378 rfl (lv_at hl 0 rfl) ?_
                    refine lv_bipush (v := (7 : Int32)) hx hb dL_same_379 (by decide) ?_
                    obtain ⟨r17, h17, hf⟩ := z_bE hf
                    refine z_xVi (As := [.int (7 : Int32)]) (rest := []) (wf := z_dw c b a) (g := Y.1) (u0 := Y.1) (V2 := (z_nw c b a d Y)) ⟨hx, hb, hml, hown, hts⟩ (kX4_about l D c N b a H.size Y.1 (7 : Int32) r17 h17) (cwV 1 hts gL_same_X4_about rfl rfl rfl (by decide +kernel) ⟨Nat.le_of_ble_eq_true rfl, Nat.le_of_ble_eq_true rfl⟩) hP hK hD hS hA (z_cutNDp hD) (ci := 4) (q0 := 0) rfl rfl rfl rfl hl.1 (Nat.le_of_ble_eq_true rfl) rfl dL_same_381 ⟨Nat.le_of_ble_eq_true rfl, Nat.le_of_ble_eq_true rfl⟩ (fun H locs hP hD hS => ?_)
                    refine lv_iload hx hb dL_same_384 (lv_at hl 5 rfl) ?_
                    refine lv_icmp_ne (tgt := 431) hx hb dL_same_386 (by decide) (fun c18 => ?_) (fun c18 => ?_)
                    · have hf := z_ifF hf c18
                      refine lv_iconst (v := (0 : Int32)) hx hb dL_same_431 (by decide) ?_
                      exact z_zp (wf := (z_nw c b a d)) hx hb hr rfl hlocks hP hD hS hf dL_same_432
                    · have hf := z_ifT hf c18
                      refine lv_aload_n hx hb dL_same_389 rfl (lv_at hl 0 rfl) ?_
                      refine lv_bipush (v := (8 : Int32)) hx hb dL_same_390 (by decide) ?_
                      obtain ⟨r19, h19, hf⟩ := z_bE hf
                      refine z_xVi (As := [.int (8 : Int32)]) (rest := []) (wf := z_dw c b a) (g := Y.1) (u0 := Y.1) (V2 := (z_nw c b a d Y)) ⟨hx, hb, hml, hown, hts⟩ (kX4_about l D c N b a H.size Y.1 (8 : Int32) r19 h19) (cwV 1 hts gL_same_X4_about rfl rfl rfl (by decide +kernel) ⟨Nat.le_of_ble_eq_true rfl, Nat.le_of_ble_eq_true rfl⟩) hP hK hD hS hA (z_cutNDp hD) (ci := 4) (q0 := 0) rfl rfl rfl rfl hl.1 (Nat.le_of_ble_eq_true rfl) rfl dL_same_392 ⟨Nat.le_of_ble_eq_true rfl, Nat.le_of_ble_eq_true rfl⟩ (fun H locs hP hD hS => ?_)
                      refine lv_aload_n hx hb dL_same_395 rfl (lv_at hl 1 rfl) ?_
                      refine lv_bipush (v := (11 : Int32)) hx hb dL_same_396 (by decide) ?_
                      refine va_iald hx hb hK.1 (z_subP hP z_inN) 0 0 rfl rfl (z_inE (by decide)) dL_same_398 ?_
                      refine lv_icmp_ne (tgt := 431) hx hb dL_same_399 (by decide) (fun c20 => ?_) (fun c20 => ?_)
                      · have hf := z_ifF hf c20
                        refine lv_iconst (v := (0 : Int32)) hx hb dL_same_431 (by decide) ?_
                        exact z_zp (wf := (z_nw c b a d)) hx hb hr rfl hlocks hP hD hS hf dL_same_432
                      · have hf := z_ifT hf c20
                        refine lv_aload_n hx hb dL_same_402 rfl (lv_at hl 0 rfl) ?_
                        refine lv_bipush (v := (9 : Int32)) hx hb dL_same_403 (by decide) ?_
                        obtain ⟨r21, h21, hf⟩ := z_bE hf
                        refine z_xVi (As := [.int (9 : Int32)]) (rest := []) (wf := z_dw c b a) (g := Y.1) (u0 := Y.1) (V2 := (z_nw c b a d Y)) ⟨hx, hb, hml, hown, hts⟩ (kX4_about l D c N b a H.size Y.1 (9 : Int32) r21 h21) (cwV 1 hts gL_same_X4_about rfl rfl rfl (by decide +kernel) ⟨Nat.le_of_ble_eq_true rfl, Nat.le_of_ble_eq_true rfl⟩) hP hK hD hS hA (z_cutNDp hD) (ci := 4) (q0 := 0) rfl rfl rfl rfl hl.1 (Nat.le_of_ble_eq_true rfl) rfl dL_same_405 ⟨Nat.le_of_ble_eq_true rfl, Nat.le_of_ble_eq_true rfl⟩ (fun H locs hP hD hS => ?_)
                        refine lv_aload_n hx hb dL_same_408 rfl (lv_at hl 1 rfl) ?_
                        refine lv_iconst (v := (2 : Int32)) hx hb dL_same_409 (by decide) ?_
                        refine va_iald hx hb hK.1 (z_subP hP z_inN) 0 0 rfl rfl (z_inE (by decide)) dL_same_410 ?_
                        refine lv_icmp_ne (tgt := 431) hx hb dL_same_411 (by decide) (fun c22 => ?_) (fun c22 => ?_)
                        · have hf := z_ifF hf c22
                          refine lv_iconst (v := (0 : Int32)) hx hb dL_same_431 (by decide) ?_
                          exact z_zp (wf := (z_nw c b a d)) hx hb hr rfl hlocks hP hD hS hf dL_same_432
                        · have hf := z_ifT hf c22
                          refine lv_aload_n hx hb dL_same_414 rfl (lv_at hl 0 rfl) ?_
                          refine lv_aload_n hx hb dL_same_415 rfl (lv_at hl 1 rfl) ?_
                          refine lv_bipush (v := (11 : Int32)) hx hb dL_same_416 (by decide) ?_
                          refine va_iald hx hb hK.1 (z_subP hP z_inN) 0 0 rfl rfl (z_inE (by decide)) dL_same_418 ?_
                          refine lv_iconst (v := (0 : Int32)) hx hb dL_same_419 (by decide) ?_
                          obtain ⟨r23, h23, hf⟩ := z_bE hf
                          refine z_xVi (As := [.int (Y.2 0 ((11 : Int32)).toNatClampNeg), .int (0 : Int32)]) (rest := []) (wf := z_dw c b a) (g := Y.1) (u0 := Y.1) (V2 := (z_nw c b a d Y)) ⟨hx, hb, hml, hown, hts⟩ (kX4_jump l D c N b a H.size Y.1 (Y.2 0 ((11 : Int32)).toNatClampNeg) (0 : Int32) r23 h23) (cwV 2 hts gL_same_X4_jump rfl rfl rfl (by decide +kernel) ⟨Nat.le_of_ble_eq_true rfl, Nat.le_of_ble_eq_true rfl⟩) hP hK hD hS hA (z_cutNDp hD) (ci := 4) (q0 := 0) rfl rfl rfl rfl hl.1 (Nat.le_of_ble_eq_true rfl) rfl dL_same_420 ⟨Nat.le_of_ble_eq_true rfl, Nat.le_of_ble_eq_true rfl⟩ (fun H locs hP hD hS => ?_)
                          refine lv_iconst (v := (-1 : Int32)) hx hb dL_same_423 (by decide) ?_
                          refine lv_icmp_ne (tgt := 431) hx hb dL_same_424 (by decide) (fun c24 => ?_) (fun c24 => ?_)
                          · have hf := z_ifF hf c24
                            refine lv_iconst (v := (0 : Int32)) hx hb dL_same_431 (by decide) ?_
                            exact z_zp (wf := (z_nw c b a d)) hx hb hr rfl hlocks hP hD hS hf dL_same_432
                          · have hf := z_ifT hf c24
                            refine lv_iconst (v := (1 : Int32)) hx hb dL_same_427 (by decide) ?_
                            refine lv_goto (tgt := 432) hx hb dL_same_428 (by decide) ?_
                            exact z_zp (wf := (z_nw c b a d)) hx hb hr rfl hlocks hP hD hS hf dL_same_432
      · have hf := z_ifF hf c3
        refine lv_aload_n hx hb dL_same_261 rfl (lv_at hl 0 rfl) ?_
        refine lv_iload hx hb dL_same_262 (lv_at hl 7 rfl) ?_
        refine lv_iconst (v := (2 : Int32)) hx hb dL_same_264 (by decide) ?_
        obtain ⟨r25, h25, hf⟩ := z_bE hf
        refine z_xVi (As := [.int x8, .int (2 : Int32)]) (rest := []) (wf := z_dw c b a) (g := Y.1) (u0 := Y.1) (V2 := (z_nw c b a d Y)) ⟨hx, hb, hml, hown, hts⟩ (kX4_jump l D c N b a H.size Y.1 x8 (2 : Int32) r25 h25) (cwV 2 hts gL_same_X4_jump rfl rfl rfl (by decide +kernel) ⟨Nat.le_of_ble_eq_true rfl, Nat.le_of_ble_eq_true rfl⟩) hP hK hD hS hA (z_cutNDp hD) (ci := 4) (q0 := 0) rfl rfl rfl rfl hl.1 (Nat.le_of_ble_eq_true rfl) rfl dL_same_265 ⟨Nat.le_of_ble_eq_true rfl, Nat.le_of_ble_eq_true rfl⟩ (fun H locs hP hD hS => ?_)
        refine lv_aload_n hx hb dL_same_268 rfl (lv_at hl 2 rfl) ?_
        refine lv_bipush (v := (8 : Int32)) hx hb dL_same_269 (by decide) ?_
        refine lv_aload_n hx hb dL_same_271 rfl (lv_at hl 0 rfl) ?_
        refine lv_iload hx hb dL_same_272 (lv_at hl 7 rfl) ?_
        refine lv_iconst (v := (0 : Int32)) hx hb dL_same_274 (by decide) ?_
        obtain ⟨r26, h26, hf⟩ := z_bE hf
        refine z_xVi (As := [.int x8, .int (0 : Int32)]) (rest := [.int (8 : Int32), .ref (d 2), .int r25]) (wf := z_dw c b a) (g := Y.1) (u0 := Y.1) (V2 := (z_nw c b a d Y)) ⟨hx, hb, hml, hown, hts⟩ (kX4_jump l D c N b a H.size Y.1 x8 (0 : Int32) r26 h26) (cwV 2 hts gL_same_X4_jump rfl rfl rfl (by decide +kernel) ⟨Nat.le_of_ble_eq_true rfl, Nat.le_of_ble_eq_true rfl⟩) hP hK hD hS hA (z_cutNDp hD) (ci := 4) (q0 := 0) rfl rfl rfl rfl hl.1 (Nat.le_of_ble_eq_true rfl) rfl dL_same_275 ⟨Nat.le_of_ble_eq_true rfl, Nat.le_of_ble_eq_true rfl⟩ (fun H locs hP hD hS => ?_)
        refine lv_imul hx hb dL_same_278 ?_
        refine lv_aload_n hx hb dL_same_279 rfl (lv_at hl 0 rfl) ?_
        refine lv_iload hx hb dL_same_280 (lv_at hl 7 rfl) ?_
        refine lv_iconst (v := (1 : Int32)) hx hb dL_same_282 (by decide) ?_
        obtain ⟨r27, h27, hf⟩ := z_bE hf
        refine z_xVi (As := [.int x8, .int (1 : Int32)]) (rest := [.int ((8 : Int32) * r26), .ref (d 2), .int r25]) (wf := z_dw c b a) (g := Y.1) (u0 := Y.1) (V2 := (z_nw c b a d Y)) ⟨hx, hb, hml, hown, hts⟩ (kX4_jump l D c N b a H.size Y.1 x8 (1 : Int32) r27 h27) (cwV 2 hts gL_same_X4_jump rfl rfl rfl (by decide +kernel) ⟨Nat.le_of_ble_eq_true rfl, Nat.le_of_ble_eq_true rfl⟩) hP hK hD hS hA (z_cutNDp hD) (ci := 4) (q0 := 0) rfl rfl rfl rfl hl.1 (Nat.le_of_ble_eq_true rfl) rfl dL_same_283 ⟨Nat.le_of_ble_eq_true rfl, Nat.le_of_ble_eq_true rfl⟩ (fun H locs hP hD hS => ?_)
        refine lv_iadd hx hb dL_same_286 ?_
        obtain ⟨b28, hf⟩ := z_ckE hf
        refine va_iald hx hb hK.1 (z_subP hP z_inN) 2 0 rfl rfl (z_inE b28) dL_same_287 ?_
        refine lv_icmp_ne (tgt := 302) hx hb dL_same_288 (by decide) (fun c29 => ?_) (fun c29 => ?_)
        · have hf := z_ifF hf c29
          refine lv_iconst (v := (0 : Int32)) hx hb dL_same_302 (by decide) ?_
          exact z_zp (wf := (z_nw c b a d)) hx hb hr rfl hlocks hP hD hS hf dL_same_303
        · have hf := z_ifT hf c29
          refine lv_aload_n hx hb dL_same_291 rfl (lv_at hl 0 rfl) ?_
          refine lv_iload hx hb dL_same_292 (lv_at hl 7 rfl) ?_
          refine lv_iconst (v := (2 : Int32)) hx hb dL_same_294 (by decide) ?_
          obtain ⟨r30, h30, hf⟩ := z_bE hf
          refine z_xVi (As := [.int x8, .int (2 : Int32)]) (rest := []) (wf := z_dw c b a) (g := Y.1) (u0 := Y.1) (V2 := (z_nw c b a d Y)) ⟨hx, hb, hml, hown, hts⟩ (kX4_jump l D c N b a H.size Y.1 x8 (2 : Int32) r30 h30) (cwV 2 hts gL_same_X4_jump rfl rfl rfl (by decide +kernel) ⟨Nat.le_of_ble_eq_true rfl, Nat.le_of_ble_eq_true rfl⟩) hP hK hD hS hA (z_cutNDp hD) (ci := 4) (q0 := 0) rfl rfl rfl rfl hl.1 (Nat.le_of_ble_eq_true rfl) rfl dL_same_295 ⟨Nat.le_of_ble_eq_true rfl, Nat.le_of_ble_eq_true rfl⟩ (fun H locs hP hD hS => ?_)
          refine lv_iconst (v := (1 : Int32)) hx hb dL_same_298 (by decide) ?_
          refine lv_icmp_ge (tgt := 304) hx hb dL_same_299 (by decide) (fun c31 => ?_) (fun c31 => ?_)
          · have hf := z_ifT hf c31
            refine lv_iinc (v := (x8 + (1 : Int32))) (lv' := [(8, .int (x8 + (1 : Int32))), (0, .ref (b 0)), (1, .ref (d 0)), (3, .ref (d 2)), (4, .int x4), (5, .int x5), (6, .int x6), (7, .int x7)]) hx hb dL_same_304 hl (k := 7) rfl rfl (by decide) rfl (fun ls hl => ?_)
            refine lv_goto (tgt := 252) hx hb dL_same_307 (by decide) ?_
            exact ih _ hf H locs ls hP hD hS (lv_sub hl [1, 2, 3, 4, 5, 6, 7, 0] rfl)
          · have hf := z_ifF hf c31
            refine lv_iconst (v := (0 : Int32)) hx hb dL_same_302 (by decide) ?_
            exact z_zp (wf := (z_nw c b a d)) hx hb hr rfl hlocks hP hD hS hf dL_same_303
  have L179 : ∀ (x6 : Int32) (x7 : Int32) (Y : z_N) (fu : Nat) (x4 : Int32) (x5 : Int32) (x8 : Int32), lL_same_179 N x6 x7 Y fu x4 x5 x8 = some r0 → ∀ (H : Heap) (locs : List Loc) (ls : Array Slot), va_P D vwCl (z_nw c b a d Y) H → va_D A (z_nw c b a d Y) → va_S A s.heap H locs → lv_has ls 11 [(0, .ref (b 0)), (1, .ref (d 0)), (3, .ref (d 2)), (4, .int x4), (5, .int x5), (6, .int x6), (7, .int x7), (8, .int x8)] → W p l e rmL_same s m args below meth co H locs 0 0 (MQ below (z_Qi D (z_nw c b a d) r0 Y A) args s 0 0 A) (F0 m 179 ls []) := by
    intro x6 x7 Y fu
    induction fu with
    | zero =>
      intro x4 x5 x8 hf
      have hf : (none : Option Int32) = some _ := hf
      cases hf
    | succ fu ih =>
      intro x4 x5 x8 hf H locs ls hP hD hS hl
      rw [lL_same_179.eq_2] at hf
      refine lv_iload hx hb dL_same_179 (lv_at hl 7 rfl) ?_
      refine lv_iconst (v := (4 : Int32)) hx hb dL_same_181 (by decide) ?_
      refine lv_icmp_ge (tgt := 249) hx hb dL_same_182 (by decide) (fun c2 => ?_) (fun c2 => ?_)
      · have hf := z_ifT hf c2
        refine lv_iconst (v := (0 : Int32)) hx hb dL_same_249 (by decide) ?_
        refine lv_istore (lv' := [(8, .int (0 : Int32)), (0, .ref (b 0)), (1, .ref (d 0)), (3, .ref (d 2)), (4, .int x4), (5, .int x5), (6, .int x6), (7, .int x7)]) hx hb dL_same_250 hl (by decide) rfl (fun ls hl => ?_)
        exact L252 _ _ _ _ _ N _ hf H locs ls hP hD hS (lv_sub hl [1, 2, 3, 4, 5, 6, 7, 0] rfl)
      · have hf := z_ifF hf c2
        refine lv_aload_n hx hb dL_same_185 rfl (lv_at hl 0 rfl) ?_
        refine lv_iload hx hb dL_same_186 (lv_at hl 7 rfl) ?_
        refine lv_iconst (v := (1 : Int32)) hx hb dL_same_188 (by decide) ?_
        obtain ⟨r32, h32, hf⟩ := z_bE hf
        refine z_xVi (As := [.int x8, .int (1 : Int32)]) (rest := []) (wf := z_dw c b a) (g := Y.1) (u0 := Y.1) (V2 := (z_nw c b a d Y)) ⟨hx, hb, hml, hown, hts⟩ (kX4_author l D c N b a H.size Y.1 x8 (1 : Int32) r32 h32) (cwV 2 hts gL_same_X4_author rfl rfl rfl (by decide +kernel) ⟨Nat.le_of_ble_eq_true rfl, Nat.le_of_ble_eq_true rfl⟩) hP hK hD hS hA (z_cutNDp hD) (ci := 4) (q0 := 0) rfl rfl rfl rfl hl.1 (Nat.le_of_ble_eq_true rfl) rfl dL_same_189 ⟨Nat.le_of_ble_eq_true rfl, Nat.le_of_ble_eq_true rfl⟩ (fun H locs hP hD hS => ?_)
        refine lv_aload_n hx hb dL_same_192 rfl (lv_at hl 1 rfl) ?_
        refine lv_iconst (v := (3 : Int32)) hx hb dL_same_193 (by decide) ?_
        refine lv_iload hx hb dL_same_194 (lv_at hl 7 rfl) ?_
        refine lv_iadd hx hb dL_same_196 ?_
        obtain ⟨b33, hf⟩ := z_ckE hf
        refine va_iald hx hb hK.1 (z_subP hP z_inN) 0 0 rfl rfl (z_inE b33) dL_same_197 ?_
        refine lv_icmp_ne (tgt := 218) hx hb dL_same_198 (by decide) (fun c34 => ?_) (fun c34 => ?_)
        · have hf := z_ifF hf c34
          refine lv_iconst (v := (0 : Int32)) hx hb dL_same_218 (by decide) ?_
          exact z_zp (wf := (z_nw c b a d)) hx hb hr rfl hlocks hP hD hS hf dL_same_219
        · have hf := z_ifT hf c34
          refine lv_aload_n hx hb dL_same_201 rfl (lv_at hl 0 rfl) ?_
          refine lv_iload hx hb dL_same_202 (lv_at hl 7 rfl) ?_
          refine lv_iconst (v := (2 : Int32)) hx hb dL_same_204 (by decide) ?_
          obtain ⟨r35, h35, hf⟩ := z_bE hf
          refine z_xVi (As := [.int x8, .int (2 : Int32)]) (rest := []) (wf := z_dw c b a) (g := Y.1) (u0 := Y.1) (V2 := (z_nw c b a d Y)) ⟨hx, hb, hml, hown, hts⟩ (kX4_author l D c N b a H.size Y.1 x8 (2 : Int32) r35 h35) (cwV 2 hts gL_same_X4_author rfl rfl rfl (by decide +kernel) ⟨Nat.le_of_ble_eq_true rfl, Nat.le_of_ble_eq_true rfl⟩) hP hK hD hS hA (z_cutNDp hD) (ci := 4) (q0 := 0) rfl rfl rfl rfl hl.1 (Nat.le_of_ble_eq_true rfl) rfl dL_same_205 ⟨Nat.le_of_ble_eq_true rfl, Nat.le_of_ble_eq_true rfl⟩ (fun H locs hP hD hS => ?_)
          refine lv_aload_n hx hb dL_same_208 rfl (lv_at hl 1 rfl) ?_
          refine lv_bipush (v := (7 : Int32)) hx hb dL_same_209 (by decide) ?_
          refine lv_iload hx hb dL_same_211 (lv_at hl 7 rfl) ?_
          refine lv_iadd hx hb dL_same_213 ?_
          obtain ⟨b36, hf⟩ := z_ckE hf
          refine va_iald hx hb hK.1 (z_subP hP z_inN) 0 0 rfl rfl (z_inE b36) dL_same_214 ?_
          refine lv_icmp_eq (tgt := 220) hx hb dL_same_215 (by decide) (fun c37 => ?_) (fun c37 => ?_)
          · have hf := z_ifT hf c37
            refine lv_iload hx hb dL_same_220 (lv_at hl 3 rfl) ?_
            refine lv_aload_n hx hb dL_same_222 rfl (lv_at hl 1 rfl) ?_
            refine lv_iconst (v := (3 : Int32)) hx hb dL_same_223 (by decide) ?_
            refine lv_iload hx hb dL_same_224 (lv_at hl 7 rfl) ?_
            refine lv_iadd hx hb dL_same_226 ?_
            obtain ⟨b38, hf⟩ := z_ckE hf
            refine va_iald hx hb hK.1 (z_subP hP z_inN) 0 0 rfl rfl (z_inE b38) dL_same_227 ?_
            refine lv_iadd hx hb dL_same_228 ?_
            refine lv_istore (lv' := [(4, .int (x4 + (Y.2 0 (((3 : Int32) + x8)).toNatClampNeg))), (0, .ref (b 0)), (1, .ref (d 0)), (3, .ref (d 2)), (5, .int x5), (6, .int x6), (7, .int x7), (8, .int x8)]) hx hb dL_same_229 hl (by decide) rfl (fun ls hl => ?_)
            refine lv_iload hx hb dL_same_231 (lv_at hl 4 rfl) ?_
            refine lv_aload_n hx hb dL_same_233 rfl (lv_at hl 2 rfl) ?_
            refine lv_bipush (v := (7 : Int32)) hx hb dL_same_234 (by decide) ?_
            refine lv_iload hx hb dL_same_236 (lv_at hl 7 rfl) ?_
            refine lv_iadd hx hb dL_same_238 ?_
            obtain ⟨b39, hf⟩ := z_ckE hf
            refine va_iald hx hb hK.1 (z_subP hP z_inN) 0 0 rfl rfl (z_inE b39) dL_same_239 ?_
            refine lv_iadd hx hb dL_same_240 ?_
            refine lv_istore (lv' := [(5, .int (x5 + (Y.2 0 (((7 : Int32) + x8)).toNatClampNeg))), (4, .int (x4 + (Y.2 0 (((3 : Int32) + x8)).toNatClampNeg))), (0, .ref (b 0)), (1, .ref (d 0)), (3, .ref (d 2)), (6, .int x6), (7, .int x7), (8, .int x8)]) hx hb dL_same_241 hl (by decide) rfl (fun ls hl => ?_)
            refine lv_iinc (v := (x8 + (1 : Int32))) (lv' := [(8, .int (x8 + (1 : Int32))), (5, .int (x5 + (Y.2 0 (((7 : Int32) + x8)).toNatClampNeg))), (4, .int (x4 + (Y.2 0 (((3 : Int32) + x8)).toNatClampNeg))), (0, .ref (b 0)), (1, .ref (d 0)), (3, .ref (d 2)), (6, .int x6), (7, .int x7)]) hx hb dL_same_243 hl (k := 7) rfl rfl (by decide) rfl (fun ls hl => ?_)
            refine lv_goto (tgt := 179) hx hb dL_same_246 (by decide) ?_
            exact ih _ _ _ hf H locs ls hP hD hS (lv_sub hl [3, 4, 5, 2, 1, 6, 7, 0] rfl)
          · have hf := z_ifF hf c37
            refine lv_iconst (v := (0 : Int32)) hx hb dL_same_218 (by decide) ?_
            exact z_zp (wf := (z_nw c b a d)) hx hb hr rfl hlocks hP hD hS hf dL_same_219
  have L32 : ∀ (x4 : Int32) (x5 : Int32) (x6 : Int32) (x7 : Int32) (x8 : Int32) (x9 : Int32) (Y : z_N) (k : Unit → Option Int32) (hk : ∀ (_ : Unit), k () = some r0 → ∀ (H : Heap) (locs : List Loc) (ls : Array Slot), va_P D vwCl (z_nw c b a d Y) H → va_D A (z_nw c b a d Y) → va_S A s.heap H locs → lv_has ls 11 [(0, .ref (b 0)), (1, .ref (d 0)), (2, .ref (d 1)), (3, .ref (d 2)), (4, .int x4), (5, .int x5), (6, .int x6), (7, .int x7), (8, .int x8), (9, .int x9)] → W p l e rmL_same s m args below meth co H locs 0 0 (MQ below (z_Qi D (z_nw c b a d) r0 Y A) args s 0 0 A) (F0 m 65 ls [])) (fu : Nat) (x10 : Int32), lL_same_32 N x4 x5 x6 x7 x8 x9 Y k fu x10 = some r0 → ∀ (H : Heap) (locs : List Loc) (ls : Array Slot), va_P D vwCl (z_nw c b a d Y) H → va_D A (z_nw c b a d Y) → va_S A s.heap H locs → lv_has ls 11 [(0, .ref (b 0)), (1, .ref (d 0)), (2, .ref (d 1)), (3, .ref (d 2)), (4, .int x4), (5, .int x5), (6, .int x6), (7, .int x7), (8, .int x8), (9, .int x9), (10, .int x10)] → W p l e rmL_same s m args below meth co H locs 0 0 (MQ below (z_Qi D (z_nw c b a d) r0 Y A) args s 0 0 A) (F0 m 32 ls []) := by
    intro x4 x5 x6 x7 x8 x9 Y k hk fu
    induction fu with
    | zero =>
      intro x10 hf
      have hf : (none : Option Int32) = some _ := hf
      cases hf
    | succ fu ih =>
      intro x10 hf H locs ls hP hD hS hl
      rw [lL_same_32.eq_2] at hf
      refine lv_iload hx hb dL_same_32 (lv_at hl 10 rfl) ?_
      refine lv_bipush (v := (8 : Int32)) hx hb dL_same_34 (by decide) ?_
      refine lv_icmp_gt (tgt := 65) hx hb dL_same_36 (by decide) (fun c40 => ?_) (fun c40 => ?_)
      · have hf := z_ifT hf c40
        exact hk () hf H locs ls hP hD hS (lv_sub hl [0, 1, 2, 3, 4, 5, 6, 7, 8, 9] rfl)
      · have hf := z_ifF hf c40
        refine lv_aload_n hx hb dL_same_39 rfl (lv_at hl 0 rfl) ?_
        refine lv_iload hx hb dL_same_40 (lv_at hl 8 rfl) ?_
        refine lv_iload hx hb dL_same_42 (lv_at hl 10 rfl) ?_
        obtain ⟨r41, h41, hf⟩ := z_bE hf
        refine z_xVi (As := [.int x8, .int x10]) (rest := []) (wf := z_dw c b a) (g := Y.1) (u0 := Y.1) (V2 := (z_nw c b a d Y)) ⟨hx, hb, hml, hown, hts⟩ (kX4_order l D c N b a H.size Y.1 x8 x10 r41 h41) (cwV 2 hts gL_same_X4_order rfl rfl rfl (by decide +kernel) ⟨Nat.le_of_ble_eq_true rfl, Nat.le_of_ble_eq_true rfl⟩) hP hK hD hS hA (z_cutNDp hD) (ci := 4) (q0 := 0) rfl rfl rfl rfl hl.1 (Nat.le_of_ble_eq_true rfl) rfl dL_same_44 ⟨Nat.le_of_ble_eq_true rfl, Nat.le_of_ble_eq_true rfl⟩ (fun H locs hP hD hS => ?_)
        refine lv_aload_n hx hb dL_same_47 rfl (lv_at hl 2 rfl) ?_
        refine lv_iload hx hb dL_same_48 (lv_at hl 9 rfl) ?_
        refine lv_iload hx hb dL_same_50 (lv_at hl 10 rfl) ?_
        refine lv_iadd hx hb dL_same_52 ?_
        obtain ⟨b42, hf⟩ := z_ckE hf
        refine va_iald hx hb hK.1 (z_subP hP z_inN) 1 0 rfl rfl (z_inE b42) dL_same_53 ?_
        refine lv_icmp_eq (tgt := 59) hx hb dL_same_54 (by decide) (fun c43 => ?_) (fun c43 => ?_)
        · have hf := z_ifT hf c43
          refine lv_iinc (v := (x10 + (1 : Int32))) (lv' := [(10, .int (x10 + (1 : Int32))), (0, .ref (b 0)), (1, .ref (d 0)), (2, .ref (d 1)), (3, .ref (d 2)), (4, .int x4), (5, .int x5), (6, .int x6), (7, .int x7), (8, .int x8), (9, .int x9)]) hx hb dL_same_59 hl (k := 10) rfl rfl (by decide) rfl (fun ls hl => ?_)
          refine lv_goto (tgt := 32) hx hb dL_same_62 (by decide) ?_
          exact ih _ hf H locs ls hP hD hS (lv_sub hl [1, 2, 3, 4, 5, 6, 7, 8, 9, 10, 0] rfl)
        · have hf := z_ifF hf c43
          refine lv_iconst (v := (0 : Int32)) hx hb dL_same_57 (by decide) ?_
          exact z_zp (wf := (z_nw c b a d)) hx hb hr rfl hlocks hP hD hS hf dL_same_58
  have L15 : ∀ (x4 : Int32) (x5 : Int32) (Y : z_N) (fu : Nat) (x6 : Int32) (x7 : Int32) (x8 : Int32), lL_same_15 N x4 x5 Y fu x6 x7 x8 = some r0 → ∀ (H : Heap) (locs : List Loc) (ls : Array Slot), va_P D vwCl (z_nw c b a d Y) H → va_D A (z_nw c b a d Y) → va_S A s.heap H locs → lv_has ls 11 [(0, .ref (b 0)), (1, .ref (d 0)), (2, .ref (d 1)), (3, .ref (d 2)), (4, .int x4), (5, .int x5), (6, .int x6), (7, .int x7), (8, .int x8)] → W p l e rmL_same s m args below meth co H locs 0 0 (MQ below (z_Qi D (z_nw c b a d) r0 Y A) args s 0 0 A) (F0 m 15 ls []) := by
    intro x4 x5 Y fu
    induction fu with
    | zero =>
      intro x6 x7 x8 hf
      have hf : (none : Option Int32) = some _ := hf
      cases hf
    | succ fu ih =>
      intro x6 x7 x8 hf H locs ls hP hD hS hl
      have J139_15 : ∀ (x6 : Int32) (x7 : Int32) (x8 : Int32) (x9 : Int32), jL_same_139_15 N (lL_same_15 N x4 x5 Y fu) x4 x5 x6 x7 x8 x9 Y = some r0 → ∀ (H : Heap) (locs : List Loc) (ls : Array Slot), va_P D vwCl (z_nw c b a d Y) H → va_D A (z_nw c b a d Y) → va_S A s.heap H locs → lv_has ls 11 [(0, .ref (b 0)), (1, .ref (d 0)), (2, .ref (d 1)), (3, .ref (d 2)), (4, .int x4), (5, .int x5), (6, .int x6), (7, .int x7), (8, .int x8), (9, .int x9)] → W p l e rmL_same s m args below meth co H locs 0 0 (MQ below (z_Qi D (z_nw c b a d) r0 Y A) args s 0 0 A) (F0 m 139 ls []) := by
        intro x6 x7 x8 x9 hf H locs ls hP hD hS hl
        unfold jL_same_139_15 at hf
        refine lv_iload hx hb dL_same_139 (lv_at hl 6 rfl) ?_
        refine lv_aload_n hx hb dL_same_141 rfl (lv_at hl 2 rfl) ?_
        refine lv_iload hx hb dL_same_142 (lv_at hl 9 rfl) ?_
        refine lv_bipush (v := (7 : Int32)) hx hb dL_same_144 (by decide) ?_
        refine lv_iadd hx hb dL_same_146 ?_
        obtain ⟨b53, hf⟩ := z_ckE hf
        refine va_iald hx hb hK.1 (z_subP hP z_inN) 1 0 rfl rfl (z_inE b53) dL_same_147 ?_
        refine lv_iadd hx hb dL_same_148 ?_
        refine lv_istore (lv' := [(6, .int (x6 + (Y.2 1 ((x9 + (7 : Int32))).toNatClampNeg))), (0, .ref (b 0)), (1, .ref (d 0)), (2, .ref (d 1)), (3, .ref (d 2)), (4, .int x4), (5, .int x5), (7, .int x7), (8, .int x8), (9, .int x9)]) hx hb dL_same_149 hl (by decide) rfl (fun ls hl => ?_)
        refine lv_iload hx hb dL_same_151 (lv_at hl 7 rfl) ?_
        refine lv_aload_n hx hb dL_same_153 rfl (lv_at hl 3 rfl) ?_
        refine lv_iload hx hb dL_same_154 (lv_at hl 9 rfl) ?_
        refine lv_iconst (v := (5 : Int32)) hx hb dL_same_156 (by decide) ?_
        refine lv_iadd hx hb dL_same_157 ?_
        obtain ⟨b54, hf⟩ := z_ckE hf
        refine va_iald hx hb hK.1 (z_subP hP z_inN) 1 0 rfl rfl (z_inE b54) dL_same_158 ?_
        refine lv_if_lt (tgt := 166) hx hb dL_same_159 (by decide) (fun c55 => ?_) (fun c55 => ?_)
        · have hf := z_ifT hf c55
          refine lv_iconst (v := (0 : Int32)) hx hb dL_same_166 (by decide) ?_
          refine lv_iadd hx hb dL_same_167 ?_
          refine lv_istore (lv' := [(7, .int (x7 + (0 : Int32))), (6, .int (x6 + (Y.2 1 ((x9 + (7 : Int32))).toNatClampNeg))), (0, .ref (b 0)), (1, .ref (d 0)), (2, .ref (d 1)), (3, .ref (d 2)), (4, .int x4), (5, .int x5), (8, .int x8), (9, .int x9)]) hx hb dL_same_168 hl (by decide) rfl (fun ls hl => ?_)
          refine lv_iinc (v := (x8 + (1 : Int32))) (lv' := [(8, .int (x8 + (1 : Int32))), (7, .int (x7 + (0 : Int32))), (6, .int (x6 + (Y.2 1 ((x9 + (7 : Int32))).toNatClampNeg))), (0, .ref (b 0)), (1, .ref (d 0)), (2, .ref (d 1)), (3, .ref (d 2)), (4, .int x4), (5, .int x5), (9, .int x9)]) hx hb dL_same_170 hl (k := 8) rfl rfl (by decide) rfl (fun ls hl => ?_)
          refine lv_goto (tgt := 15) hx hb dL_same_173 (by decide) ?_
          exact ih _ _ _ hf H locs ls hP hD hS (lv_sub hl [3, 4, 5, 6, 7, 8, 2, 1, 0] rfl)
        · have hf := z_ifF hf c55
          refine lv_iconst (v := (1 : Int32)) hx hb dL_same_162 (by decide) ?_
          refine lv_goto (tgt := 167) hx hb dL_same_163 (by decide) ?_
          refine lv_iadd hx hb dL_same_167 ?_
          refine lv_istore (lv' := [(7, .int (x7 + (1 : Int32))), (6, .int (x6 + (Y.2 1 ((x9 + (7 : Int32))).toNatClampNeg))), (0, .ref (b 0)), (1, .ref (d 0)), (2, .ref (d 1)), (3, .ref (d 2)), (4, .int x4), (5, .int x5), (8, .int x8), (9, .int x9)]) hx hb dL_same_168 hl (by decide) rfl (fun ls hl => ?_)
          refine lv_iinc (v := (x8 + (1 : Int32))) (lv' := [(8, .int (x8 + (1 : Int32))), (7, .int (x7 + (1 : Int32))), (6, .int (x6 + (Y.2 1 ((x9 + (7 : Int32))).toNatClampNeg))), (0, .ref (b 0)), (1, .ref (d 0)), (2, .ref (d 1)), (3, .ref (d 2)), (4, .int x4), (5, .int x5), (9, .int x9)]) hx hb dL_same_170 hl (k := 8) rfl rfl (by decide) rfl (fun ls hl => ?_)
          refine lv_goto (tgt := 15) hx hb dL_same_173 (by decide) ?_
          exact ih _ _ _ hf H locs ls hP hD hS (lv_sub hl [3, 4, 5, 6, 7, 8, 2, 1, 0] rfl)
      rw [lL_same_15.eq_2] at hf
      refine lv_iload hx hb dL_same_15 (lv_at hl 8 rfl) ?_
      refine lv_bipush (v := (6 : Int32)) hx hb dL_same_17 (by decide) ?_
      refine lv_icmp_ge (tgt := 176) hx hb dL_same_19 (by decide) (fun c1 => ?_) (fun c1 => ?_)
      · have hf := z_ifT hf c1
        refine lv_iconst (v := (0 : Int32)) hx hb dL_same_176 (by decide) ?_
        refine lv_istore (lv' := [(8, .int (0 : Int32)), (0, .ref (b 0)), (1, .ref (d 0)), (2, .ref (d 1)), (3, .ref (d 2)), (4, .int x4), (5, .int x5), (6, .int x6), (7, .int x7)]) hx hb dL_same_177 hl (by decide) rfl (fun ls hl => ?_)
        exact L179 _ _ _ N _ _ _ hf H locs ls hP hD hS (lv_sub hl [1, 2, 4, 5, 6, 7, 8, 0] rfl)
      · have hf := z_ifF hf c1
        refine lv_bipush (v := (9 : Int32)) hx hb dL_same_22 (by decide) ?_
        refine lv_iload hx hb dL_same_24 (lv_at hl 8 rfl) ?_
        refine lv_imul hx hb dL_same_26 ?_
        refine lv_istore (lv' := [(9, .int ((9 : Int32) * x8)), (0, .ref (b 0)), (1, .ref (d 0)), (2, .ref (d 1)), (3, .ref (d 2)), (4, .int x4), (5, .int x5), (6, .int x6), (7, .int x7), (8, .int x8)]) hx hb dL_same_27 hl (by decide) rfl (fun ls hl => ?_)
        refine lv_iconst (v := (0 : Int32)) hx hb dL_same_29 (by decide) ?_
        refine lv_istore (lv' := [(10, .int (0 : Int32)), (9, .int ((9 : Int32) * x8)), (0, .ref (b 0)), (1, .ref (d 0)), (2, .ref (d 1)), (3, .ref (d 2)), (4, .int x4), (5, .int x5), (6, .int x6), (7, .int x7), (8, .int x8)]) hx hb dL_same_30 hl (by decide) rfl (fun ls hl => ?_)
        refine L32 _ _ _ _ _ _ _ _ (fun _ hf H locs ls hP hD hS hl => ?_) N _ hf H locs ls hP hD hS (lv_sub hl [2, 3, 4, 5, 6, 7, 8, 9, 10, 1, 0] rfl)
        refine lv_aload_n hx hb dL_same_65 rfl (lv_at hl 2 rfl) ?_
        refine lv_iload hx hb dL_same_66 (lv_at hl 9 rfl) ?_
        refine lv_iconst (v := (5 : Int32)) hx hb dL_same_68 (by decide) ?_
        refine lv_iadd hx hb dL_same_69 ?_
        obtain ⟨b44, hf⟩ := z_ckE hf
        refine va_iald hx hb hK.1 (z_subP hP z_inN) 1 0 rfl rfl (z_inE b44) dL_same_70 ?_
        refine lv_if_ge (tgt := 78) hx hb dL_same_71 (by decide) (fun c45 => ?_) (fun c45 => ?_)
        · have hf := z_ifT hf c45
          refine lv_aload_n hx hb dL_same_78 rfl (lv_at hl 2 rfl) ?_
          refine lv_iload hx hb dL_same_79 (lv_at hl 9 rfl) ?_
          refine lv_iconst (v := (5 : Int32)) hx hb dL_same_81 (by decide) ?_
          refine lv_iadd hx hb dL_same_82 ?_
          obtain ⟨b46, hf⟩ := z_ckE hf
          refine va_iald hx hb hK.1 (z_subP hP z_inN) 1 0 rfl rfl (z_inE b46) dL_same_83 ?_
          refine lv_aload_n hx hb dL_same_84 rfl (lv_at hl 1 rfl) ?_
          refine lv_iconst (v := (1 : Int32)) hx hb dL_same_85 (by decide) ?_
          refine va_iald hx hb hK.1 (z_subP hP z_inN) 0 0 rfl rfl (z_inE (by decide)) dL_same_86 ?_
          refine lv_aload_n hx hb dL_same_87 rfl (lv_at hl 1 rfl) ?_
          refine lv_iconst (v := (0 : Int32)) hx hb dL_same_88 (by decide) ?_
          refine va_iald hx hb hK.1 (z_subP hP z_inN) 0 0 rfl rfl (z_inE (by decide)) dL_same_89 ?_
          obtain ⟨b47, hf⟩ := z_ckE hf
          refine lv_irem hx hb dL_same_90 (z_nzE b47) ?_
          refine lv_isub hx hb dL_same_91 ?_
          refine lv_aload_n hx hb dL_same_92 rfl (lv_at hl 1 rfl) ?_
          refine lv_iconst (v := (0 : Int32)) hx hb dL_same_93 (by decide) ?_
          refine va_iald hx hb hK.1 (z_subP hP z_inN) 0 0 rfl rfl (z_inE (by decide)) dL_same_94 ?_
          refine lv_iadd hx hb dL_same_95 ?_
          refine lv_aload_n hx hb dL_same_96 rfl (lv_at hl 1 rfl) ?_
          refine lv_iconst (v := (0 : Int32)) hx hb dL_same_97 (by decide) ?_
          refine va_iald hx hb hK.1 (z_subP hP z_inN) 0 0 rfl rfl (z_inE (by decide)) dL_same_98 ?_
          obtain ⟨b48, hf⟩ := z_ckE hf
          refine lv_irem hx hb dL_same_99 (z_nzE b48) ?_
          refine lv_istore (lv' := [(10, .int ((((Y.2 1 ((((9 : Int32) * x8) + (5 : Int32))).toNatClampNeg) - ((Y.2 0 ((1 : Int32)).toNatClampNeg) - (Y.2 0 ((1 : Int32)).toNatClampNeg) / (Y.2 0 ((0 : Int32)).toNatClampNeg) * (Y.2 0 ((0 : Int32)).toNatClampNeg))) + (Y.2 0 ((0 : Int32)).toNatClampNeg)) - (((Y.2 1 ((((9 : Int32) * x8) + (5 : Int32))).toNatClampNeg) - ((Y.2 0 ((1 : Int32)).toNatClampNeg) - (Y.2 0 ((1 : Int32)).toNatClampNeg) / (Y.2 0 ((0 : Int32)).toNatClampNeg) * (Y.2 0 ((0 : Int32)).toNatClampNeg))) + (Y.2 0 ((0 : Int32)).toNatClampNeg)) / (Y.2 0 ((0 : Int32)).toNatClampNeg) * (Y.2 0 ((0 : Int32)).toNatClampNeg))), (0, .ref (b 0)), (1, .ref (d 0)), (2, .ref (d 1)), (3, .ref (d 2)), (4, .int x4), (5, .int x5), (6, .int x6), (7, .int x7), (8, .int x8), (9, .int ((9 : Int32) * x8))]) hx hb dL_same_100 hl (by decide) rfl (fun ls hl => ?_)
          refine lv_aload_n hx hb dL_same_102 rfl (lv_at hl 1 rfl) ?_
          refine lv_iload hx hb dL_same_103 (lv_at hl 9 rfl) ?_
          obtain ⟨r49, h49, hf⟩ := z_bE hf
          refine z_xVi (As := [.int x8]) (rest := []) (wf := z_dw c b a) (g := Y.1) (u0 := Y.1) (V2 := (z_nw c b a d Y)) ⟨hx, hb, hml, hown, hts⟩ (kX4_waits l D c N b a H.size Y.1 x8 r49 h49) (cwV 1 hts gL_same_X4_waits rfl rfl rfl (by decide +kernel) ⟨Nat.le_of_ble_eq_true rfl, Nat.le_of_ble_eq_true rfl⟩) hP hK hD hS hA (z_cutNDp hD) (ci := 4) (q0 := 0) rfl rfl rfl rfl hl.1 (Nat.le_of_ble_eq_true rfl) rfl dL_same_105 ⟨Nat.le_of_ble_eq_true rfl, Nat.le_of_ble_eq_true rfl⟩ (fun H locs hP hD hS => ?_)
          refine lv_iload hx hb dL_same_108 (lv_at hl 0 rfl) ?_
          refine lv_icmp_ne (tgt := 137) hx hb dL_same_110 (by decide) (fun c50 => ?_) (fun c50 => ?_)
          · have hf := z_ifF hf c50
            refine lv_iconst (v := (0 : Int32)) hx hb dL_same_137 (by decide) ?_
            exact z_zp (wf := (z_nw c b a d)) hx hb hr rfl hlocks hP hD hS hf dL_same_138
          · have hf := z_ifT hf c50
            refine lv_aload_n hx hb dL_same_113 rfl (lv_at hl 3 rfl) ?_
            refine lv_iload hx hb dL_same_114 (lv_at hl 10 rfl) ?_
            refine lv_iconst (v := (5 : Int32)) hx hb dL_same_116 (by decide) ?_
            refine lv_iadd hx hb dL_same_117 ?_
            obtain ⟨b51, hf⟩ := z_ckE hf
            refine va_iald hx hb hK.1 (z_subP hP z_inN) 1 0 rfl rfl (z_inE b51) dL_same_118 ?_
            refine lv_if_lt (tgt := 139) hx hb dL_same_119 (by decide) (fun c52 => ?_) (fun c52 => ?_)
            · have hf := z_ifT hf c52
              exact J139_15 _ _ _ _ hf H locs ls hP hD hS (lv_sub hl [1, 2, 3, 4, 5, 6, 7, 8, 9, 10] rfl)
            · have hf := z_ifF hf c52
              refine lv_aload_n hx hb dL_same_122 rfl (lv_at hl 1 rfl) ?_
              refine lv_aload_n hx hb dL_same_123 rfl (lv_at hl 3 rfl) ?_
              refine lv_iload hx hb dL_same_124 (lv_at hl 10 rfl) ?_
              refine lv_iconst (v := (5 : Int32)) hx hb dL_same_126 (by decide) ?_
              refine lv_iadd hx hb dL_same_127 ?_
              obtain ⟨b56, hf⟩ := z_ckE hf
              refine va_iald hx hb hK.1 (z_subP hP z_inN) 1 0 rfl rfl (z_inE b56) dL_same_128 ?_
              obtain ⟨r57, h57, hf⟩ := z_bE hf
              refine z_xVi (As := [.int (Y.2 1 ((((9 : Int32) * x8) + (5 : Int32))).toNatClampNeg)]) (rest := []) (wf := z_dw c b a) (g := Y.1) (u0 := Y.1) (V2 := (z_nw c b a d Y)) ⟨hx, hb, hml, hown, hts⟩ (kX4_at l D c N b a H.size Y.1 (Y.2 1 ((((9 : Int32) * x8) + (5 : Int32))).toNatClampNeg) r57 h57) (cwV 1 hts gL_same_X4_at rfl rfl rfl (by decide +kernel) ⟨Nat.le_of_ble_eq_true rfl, Nat.le_of_ble_eq_true rfl⟩) hP hK hD hS hA (z_cutNDp hD) (ci := 4) (q0 := 0) rfl rfl rfl rfl hl.1 (Nat.le_of_ble_eq_true rfl) rfl dL_same_129 ⟨Nat.le_of_ble_eq_true rfl, Nat.le_of_ble_eq_true rfl⟩ (fun H locs hP hD hS => ?_)
              refine lv_iload hx hb dL_same_132 (lv_at hl 9 rfl) ?_
              refine lv_icmp_eq (tgt := 139) hx hb dL_same_134 (by decide) (fun c58 => ?_) (fun c58 => ?_)
              · have hf := z_ifT hf c58
                exact J139_15 _ _ _ _ hf H locs ls hP hD hS (lv_sub hl [1, 2, 3, 4, 5, 6, 7, 8, 9, 10] rfl)
              · have hf := z_ifF hf c58
                refine lv_iconst (v := (0 : Int32)) hx hb dL_same_137 (by decide) ?_
                exact z_zp (wf := (z_nw c b a d)) hx hb hr rfl hlocks hP hD hS hf dL_same_138
        · have hf := z_ifF hf c45
          refine lv_iconst (v := (-1 : Int32)) hx hb dL_same_74 (by decide) ?_
          refine lv_goto (tgt := 100) hx hb dL_same_75 (by decide) ?_
          refine lv_istore (lv' := [(10, .int (-1 : Int32)), (0, .ref (b 0)), (1, .ref (d 0)), (2, .ref (d 1)), (3, .ref (d 2)), (4, .int x4), (5, .int x5), (6, .int x6), (7, .int x7), (8, .int x8), (9, .int ((9 : Int32) * x8))]) hx hb dL_same_100 hl (by decide) rfl (fun ls hl => ?_)
          refine lv_aload_n hx hb dL_same_102 rfl (lv_at hl 1 rfl) ?_
          refine lv_iload hx hb dL_same_103 (lv_at hl 9 rfl) ?_
          obtain ⟨r59, h59, hf⟩ := z_bE hf
          refine z_xVi (As := [.int x8]) (rest := []) (wf := z_dw c b a) (g := Y.1) (u0 := Y.1) (V2 := (z_nw c b a d Y)) ⟨hx, hb, hml, hown, hts⟩ (kX4_waits l D c N b a H.size Y.1 x8 r59 h59) (cwV 1 hts gL_same_X4_waits rfl rfl rfl (by decide +kernel) ⟨Nat.le_of_ble_eq_true rfl, Nat.le_of_ble_eq_true rfl⟩) hP hK hD hS hA (z_cutNDp hD) (ci := 4) (q0 := 0) rfl rfl rfl rfl hl.1 (Nat.le_of_ble_eq_true rfl) rfl dL_same_105 ⟨Nat.le_of_ble_eq_true rfl, Nat.le_of_ble_eq_true rfl⟩ (fun H locs hP hD hS => ?_)
          refine lv_iload hx hb dL_same_108 (lv_at hl 0 rfl) ?_
          refine lv_icmp_ne (tgt := 137) hx hb dL_same_110 (by decide) (fun c60 => ?_) (fun c60 => ?_)
          · have hf := z_ifF hf c60
            refine lv_iconst (v := (0 : Int32)) hx hb dL_same_137 (by decide) ?_
            exact z_zp (wf := (z_nw c b a d)) hx hb hr rfl hlocks hP hD hS hf dL_same_138
          · have hf := z_ifT hf c60
            refine lv_aload_n hx hb dL_same_113 rfl (lv_at hl 3 rfl) ?_
            refine lv_iload hx hb dL_same_114 (lv_at hl 10 rfl) ?_
            refine lv_iconst (v := (5 : Int32)) hx hb dL_same_116 (by decide) ?_
            refine lv_iadd hx hb dL_same_117 ?_
            obtain ⟨b61, hf⟩ := z_ckE hf
            refine va_iald hx hb hK.1 (z_subP hP z_inN) 1 0 rfl rfl (z_inE b61) dL_same_118 ?_
            refine lv_if_lt (tgt := 139) hx hb dL_same_119 (by decide) (fun c62 => ?_) (fun c62 => ?_)
            · have hf := z_ifT hf c62
              exact J139_15 _ _ _ _ hf H locs ls hP hD hS (lv_sub hl [1, 2, 3, 4, 5, 6, 7, 8, 9, 10] rfl)
            · have hf := z_ifF hf c62
              refine lv_aload_n hx hb dL_same_122 rfl (lv_at hl 1 rfl) ?_
              refine lv_aload_n hx hb dL_same_123 rfl (lv_at hl 3 rfl) ?_
              refine lv_iload hx hb dL_same_124 (lv_at hl 10 rfl) ?_
              refine lv_iconst (v := (5 : Int32)) hx hb dL_same_126 (by decide) ?_
              refine lv_iadd hx hb dL_same_127 ?_
              obtain ⟨b63, hf⟩ := z_ckE hf
              refine va_iald hx hb hK.1 (z_subP hP z_inN) 1 0 rfl rfl (z_inE b63) dL_same_128 ?_
              obtain ⟨r64, h64, hf⟩ := z_bE hf
              refine z_xVi (As := [.int (Y.2 1 ((((9 : Int32) * x8) + (5 : Int32))).toNatClampNeg)]) (rest := []) (wf := z_dw c b a) (g := Y.1) (u0 := Y.1) (V2 := (z_nw c b a d Y)) ⟨hx, hb, hml, hown, hts⟩ (kX4_at l D c N b a H.size Y.1 (Y.2 1 ((((9 : Int32) * x8) + (5 : Int32))).toNatClampNeg) r64 h64) (cwV 1 hts gL_same_X4_at rfl rfl rfl (by decide +kernel) ⟨Nat.le_of_ble_eq_true rfl, Nat.le_of_ble_eq_true rfl⟩) hP hK hD hS hA (z_cutNDp hD) (ci := 4) (q0 := 0) rfl rfl rfl rfl hl.1 (Nat.le_of_ble_eq_true rfl) rfl dL_same_129 ⟨Nat.le_of_ble_eq_true rfl, Nat.le_of_ble_eq_true rfl⟩ (fun H locs hP hD hS => ?_)
              refine lv_iload hx hb dL_same_132 (lv_at hl 9 rfl) ?_
              refine lv_icmp_eq (tgt := 139) hx hb dL_same_134 (by decide) (fun c65 => ?_) (fun c65 => ?_)
              · have hf := z_ifT hf c65
                exact J139_15 _ _ _ _ hf H locs ls hP hD hS (lv_sub hl [1, 2, 3, 4, 5, 6, 7, 8, 9, 10] rfl)
              · have hf := z_ifF hf c65
                refine lv_iconst (v := (0 : Int32)) hx hb dL_same_137 (by decide) ?_
                exact z_zp (wf := (z_nw c b a d)) hx hb hr rfl hlocks hP hD hS hf dL_same_138
  unfold fL_same at hf
  generalize ([] : List Loc) = locs at hS ⊢
  refine lv_iconst (v := (0 : Int32)) hx hb dL_same_0 (by decide) ?_
  refine lv_istore (lv' := [(4, .int (0 : Int32)), (0, .ref (b 0)), (1, .ref (d 0)), (2, .ref (d 1)), (3, .ref (d 2))]) hx hb dL_same_1 hl (by decide) rfl (fun ls hl => ?_)
  refine lv_iconst (v := (0 : Int32)) hx hb dL_same_3 (by decide) ?_
  refine lv_istore (lv' := [(5, .int (0 : Int32)), (4, .int (0 : Int32)), (0, .ref (b 0)), (1, .ref (d 0)), (2, .ref (d 1)), (3, .ref (d 2))]) hx hb dL_same_4 hl (by decide) rfl (fun ls hl => ?_)
  refine lv_iconst (v := (0 : Int32)) hx hb dL_same_6 (by decide) ?_
  refine lv_istore (lv' := [(6, .int (0 : Int32)), (5, .int (0 : Int32)), (4, .int (0 : Int32)), (0, .ref (b 0)), (1, .ref (d 0)), (2, .ref (d 1)), (3, .ref (d 2))]) hx hb dL_same_7 hl (by decide) rfl (fun ls hl => ?_)
  refine lv_iconst (v := (0 : Int32)) hx hb dL_same_9 (by decide) ?_
  refine lv_istore (lv' := [(7, .int (0 : Int32)), (6, .int (0 : Int32)), (5, .int (0 : Int32)), (4, .int (0 : Int32)), (0, .ref (b 0)), (1, .ref (d 0)), (2, .ref (d 1)), (3, .ref (d 2))]) hx hb dL_same_10 hl (by decide) rfl (fun ls hl => ?_)
  refine lv_iconst (v := (0 : Int32)) hx hb dL_same_12 (by decide) ?_
  refine lv_istore (lv' := [(8, .int (0 : Int32)), (7, .int (0 : Int32)), (6, .int (0 : Int32)), (5, .int (0 : Int32)), (4, .int (0 : Int32)), (0, .ref (b 0)), (1, .ref (d 0)), (2, .ref (d 1)), (3, .ref (d 2))]) hx hb dL_same_13 hl (by decide) rfl (fun ls hl => ?_)
  exact L15 _ _ _ N _ _ _ hf H locs ls hP hD hS (lv_sub hl [5, 6, 7, 8, 4, 3, 2, 1, 0] rfl)
abbrev rmL_would : Room := { frames := 6, cells := 301, slots := 1806, locals := 139 }
set_option maxRecDepth 100000 in
set_option maxHeartbeats 4000000 in
theorem kL_would (l : Launch) (D : va_G) (c : Nat → ClassId) (N : Nat) (b : Nat → Nat) (a : Nat → Nat → Nat) (d d' : Nat → Nat) (sz : Nat) (Y : z_O) (p1 : Int32) (p2 : Int32) (r0 : Int32) (g0 : z_O) (hf : fL_would N p1 p2 Y = some (r0, g0)) : Met l yL_would wsL_would rmL_would (z_Pc D c sz (z_vw c b a d d' Y) [.ref (b 0), .int p1, .int p2, .ref (d 0), .ref (d 1), .ref (d 2), .ref (d' 0), .ref (d' 1), .ref (d' 2)]) (z_Qi D (z_vw c b a d d') r0 g0 (va_A (z_vw c b a d d' Y) sz)) 301 1806 (va_A (z_vw c b a d d' Y) sz) := by
  refine z_ofM (cc := cL_would) (maxL := 14) (ret := (some .boolean)) (Qf := fun A => z_Qi D (z_vw c b a d d') r0 g0 A) (plainFor_of_name (by decide)) rfl (Nat.le_of_ble_eq_true rfl) ?_
  intro p e s m args below meth co A ls hx hb hr hml hts hown hlocks hnm hA hP hK hD hl hsz
  have hl : lv_has ls 14 [(0, .ref (b 0)), (1, .int p1), (2, .int p2), (3, .ref (d 0)), (4, .ref (d 1)), (5, .ref (d 2)), (6, .ref (d' 0)), (7, .ref (d' 1)), (8, .ref (d' 2))] := hl
  have hown : s.vm.findClass RL = some m.cls := hown
  obtain ⟨H, hH⟩ : ∃ H, H = s.heap := ⟨_, rfl⟩
  have hS : va_S A s.heap H [] := by rw [hH]; exact va_S.rf
  rw [← hH] at hP ⊢
  clear hH
  have L255 : ∀ (x1 : Int32) (fu : Nat) (x12 : Int32) (x13 : Int32) (Y : z_O), lL_would_255 N x1 fu x12 x13 Y = some (r0, g0) → fu ≤ 300 → ∀ (H : Heap) (locs : List Loc) (ls : Array Slot), va_P D vwCl (z_vw c b a d d' Y) H → va_D A (z_vw c b a d d' Y) → va_S A s.heap H locs → lv_has ls 14 [(0, .ref (b 0)), (3, .ref (d 0)), (4, .ref (d 1)), (6, .ref (d' 0)), (7, .ref (d' 1)), (1, .int x1), (12, .int x12), (13, .int x13)] → W p l e rmL_would s m args below meth co H locs ((301 - fu)) ((1806 - 6 * fu)) (MQ below (z_Qi D (z_vw c b a d d') r0 g0 A) args s 301 1806 A) (F0 m 255 ls []) := by
    intro x1 fu
    induction fu with
    | zero =>
      intro x12 x13 Y hf
      have hf : (none : Option (Int32 × z_O)) = some _ := hf
      cases hf
    | succ fu ih =>
      intro x12 x13 Y hf hfu H locs ls hP hD hS hl
      rw [lL_would_255.eq_2] at hf
      refine lv_iload hx hb dL_would_255 (lv_at hl 7 rfl) ?_
      refine lv_if_lt (tgt := 320) hx hb dL_would_257 (by decide) (fun c27 => ?_) (fun c27 => ?_)
      · have hf := z_ifT hf c27
        refine lv_aload_n hx hb dL_would_320 rfl (lv_at hl 0 rfl) ?_
        refine lv_iload_n hx hb dL_would_321 rfl (lv_at hl 5 rfl) ?_
        obtain ⟨r28, u28, h28, hf⟩ := z_b2E hf
        refine z_xVi (As := [.int x1]) (rest := []) (wf := z_dw c b a) (g := Y.1) (u0 := u28) ⟨hx, hb, hml, hown, hts⟩ (kX4_leastBribe l D c N b a H.size Y.1 x1 r28 u28 h28) (cwV 1 hts gL_would_X4_leastBribe rfl rfl rfl (by decide +kernel) ⟨Nat.le_of_ble_eq_true rfl, Nat.le_of_ble_eq_true rfl⟩) hP hK hD hS hA (z_cutVD hD u28) (ci := 4) (q0 := 0) rfl rfl rfl rfl hl.1 (Nat.le_of_ble_eq_true rfl) rfl dL_would_322 ⟨(show _ ≤ 301 by omega), (show _ ≤ 1806 by omega)⟩ (fun H locs hP hD hS => ?_)
        obtain ⟨Y29, e29, hf⟩ := z_ltE hf
        have hP : va_P D vwCl (z_vw c b a d d' Y29) H := by rw [e29]; exact hP
        have hD : va_D A (z_vw c b a d d' Y29) := by rw [e29]; exact hD
        clear e29
        refine lv_iload hx hb dL_would_325 (lv_at hl 6 rfl) ?_
        refine lv_icmp_ne (tgt := 334) hx hb dL_would_327 (by decide) (fun c30 => ?_) (fun c30 => ?_)
        · have hf := z_ifF hf c30
          refine lv_iconst (v := (0 : Int32)) hx hb dL_would_334 (by decide) ?_
          exact z_yz (wf := (z_vw c b a d d')) hx hb hr rfl hlocks hP hD hS hf (by omega) (by omega) dL_would_335
        · have hf := z_ifT hf c30
          refine lv_iconst (v := (1 : Int32)) hx hb dL_would_330 (by decide) ?_
          refine lv_goto (tgt := 335) hx hb dL_would_331 (by decide) ?_
          exact z_yz (wf := (z_vw c b a d d')) hx hb hr rfl hlocks hP hD hS hf (by omega) (by omega) dL_would_335
      · have hf := z_ifF hf c27
        refine lv_aload_n hx hb dL_would_260 rfl (lv_at hl 1 rfl) ?_
        refine lv_aload hx hb dL_would_261 (lv_at hl 3 rfl) ?_
        obtain ⟨u31, h31, hf⟩ := z_bE hf
        refine z_xSv (As := [.ref (d 0), .ref (d' 0)]) (rest := []) (wf := fun u : Nat → Int32 => z_rr c (d 0) (d' 0) 12 (Y.2.1 0) u) (g := Y.2.2 0) (u0 := u31) ⟨hx, hb, hml, hown, hts⟩ (kL_copy l D c N (d 0) (d' 0) 12 H.size (Y.2.1 0) (Y.2.2 0) u31 h31) (va_cwS 2 hts gL_would_L_copy rfl rfl rfl (by decide +kernel) ⟨Nat.le_of_ble_eq_true rfl, Nat.le_of_ble_eq_true rfl⟩) hP hK hD hS hA (z_cutCp0 hD u31) rfl hl.1 (Nat.le_of_ble_eq_true rfl) rfl dL_would_263 ⟨(show _ ≤ 301 by omega), (show _ ≤ 1806 by omega)⟩ (fun H locs hP hD hS => ?_)
        obtain ⟨Y32, e32, hf⟩ := z_ltE hf
        have hP : va_P D vwCl (z_vw c b a d d' Y32) H := by rw [e32]; exact hP
        have hD : va_D A (z_vw c b a d d' Y32) := by rw [e32]; exact hD
        clear e32
        refine lv_aload hx hb dL_would_266 (lv_at hl 2 rfl) ?_
        refine lv_aload hx hb dL_would_268 (lv_at hl 4 rfl) ?_
        obtain ⟨u33, h33, hf⟩ := z_bE hf
        refine z_xSv (As := [.ref (d 1), .ref (d' 1)]) (rest := []) (wf := fun u : Nat → Int32 => z_rr c (d 1) (d' 1) 54 (Y32.2.1 1) u) (g := Y32.2.2 1) (u0 := u33) ⟨hx, hb, hml, hown, hts⟩ (kL_copy l D c N (d 1) (d' 1) 54 H.size (Y32.2.1 1) (Y32.2.2 1) u33 h33) (va_cwS 2 hts gL_would_L_copy rfl rfl rfl (by decide +kernel) ⟨Nat.le_of_ble_eq_true rfl, Nat.le_of_ble_eq_true rfl⟩) hP hK hD hS hA (z_cutCp1 hD u33) rfl hl.1 (Nat.le_of_ble_eq_true rfl) rfl dL_would_270 ⟨(show _ ≤ 301 by omega), (show _ ≤ 1806 by omega)⟩ (fun H locs hP hD hS => ?_)
        obtain ⟨Y34, e34, hf⟩ := z_ltE hf
        have hP : va_P D vwCl (z_vw c b a d d' Y34) H := by rw [e34]; exact hP
        have hD : va_D A (z_vw c b a d d' Y34) := by rw [e34]; exact hD
        clear e34
        refine lv_aload hx hb dL_would_273 (lv_at hl 4 rfl) ?_
        refine lv_bipush (v := (9 : Int32)) hx hb dL_would_275 (by decide) ?_
        refine lv_iload_n hx hb dL_would_277 rfl (lv_at hl 5 rfl) ?_
        refine lv_imul hx hb dL_would_278 ?_
        refine lv_iconst (v := (4 : Int32)) hx hb dL_would_279 (by decide) ?_
        refine lv_iadd hx hb dL_would_280 ?_
        refine lv_iload hx hb dL_would_281 (lv_at hl 7 rfl) ?_
        obtain ⟨b35, hf⟩ := z_ckE hf
        refine va_iast hx hb hK.1 hP hD hS 315 0 z_vAt4 rfl (z_inE b35) dL_would_283 (fun H locs hP hD hS => ?_)
        obtain ⟨Y36, e36, hf⟩ := z_ltE hf
        have hP : va_P D vwCl (z_vw c b a d d' Y36) H := by rw [e36, ← z_vSet4]; exact hP
        have hD : va_D A (z_vw c b a d d' Y36) := by rw [e36, ← z_vSet4]; exact hD
        clear e36
        refine lv_aload hx hb dL_would_284 (lv_at hl 3 rfl) ?_
        refine lv_aload hx hb dL_would_286 (lv_at hl 4 rfl) ?_
        obtain ⟨r37, u37, h37, hf⟩ := z_b2E hf
        refine z_ySi (As := [.ref (d' 0), .ref (d' 1)]) (rest := []) (wf := z_q3 c d') (g := Y36.2.2) (u0 := u37) ⟨hx, hb, hml, hown, hts⟩ (kL_lay l D c N d' H.size (Y36.2.2)  r37 u37 h37) (va_cwS 2 hts gL_would_L_lay rfl rfl rfl (by decide +kernel) ⟨Nat.le_of_ble_eq_true rfl, Nat.le_of_ble_eq_true rfl⟩) hP hK hD hS hA (z_cutVR hD u37) rfl hl.1 (Nat.le_of_ble_eq_true rfl) rfl dL_would_288 ⟨(show _ ≤ 301 by omega), (show _ ≤ 1806 by omega)⟩ (fun H locs hP hD hS => ?_)
        obtain ⟨Y38, e38, hf⟩ := z_ltE hf
        have hP : va_P D vwCl (z_vw c b a d d' Y38) H := by rw [e38]; exact hP
        have hD : va_D A (z_vw c b a d d' Y38) := by rw [e38]; exact hD
        clear e38
        refine lv_pop hx hb dL_would_291 rfl ?_
        refine lv_aload hx hb dL_would_292 (lv_at hl 4 rfl) ?_
        refine lv_bipush (v := (9 : Int32)) hx hb dL_would_294 (by decide) ?_
        refine lv_iload_n hx hb dL_would_296 rfl (lv_at hl 5 rfl) ?_
        refine lv_imul hx hb dL_would_297 ?_
        refine lv_bipush (v := (6 : Int32)) hx hb dL_would_298 (by decide) ?_
        refine lv_iadd hx hb dL_would_300 ?_
        obtain ⟨b39, hf⟩ := z_ckE hf
        refine va_iald hx hb hK.1 (z_subP hP z_inVR) 1 0 rfl rfl (z_inE b39) dL_would_301 ?_
        refine lv_if_ne (tgt := 310) hx hb dL_would_302 (by decide) (fun c40 => ?_) (fun c40 => ?_)
        · have hf := z_ifF hf c40
          refine lv_iload hx hb dL_would_310 (lv_at hl 6 rfl) ?_
          refine lv_istore (lv' := [(12, .int x12), (0, .ref (b 0)), (3, .ref (d 0)), (4, .ref (d 1)), (6, .ref (d' 0)), (7, .ref (d' 1)), (1, .int x1), (13, .int x13)]) hx hb dL_would_312 hl (by decide) rfl (fun ls hl => ?_)
          refine lv_iinc (v := (x13 + (-1 : Int32))) (lv' := [(13, .int (x13 + (-1 : Int32))), (12, .int x12), (0, .ref (b 0)), (3, .ref (d 0)), (4, .ref (d 1)), (6, .ref (d' 0)), (7, .ref (d' 1)), (1, .int x1)]) hx hb dL_would_314 hl (k := 7) rfl rfl (by decide) rfl (fun ls hl => ?_)
          refine lv_goto (tgt := 255) hx hb dL_would_317 (by decide) ?_
          refine W.widen (k := (301 - fu)) (n := (1806 - 6 * fu)) (by omega) (by omega) ?_
          exact ih _ _ _ hf (by omega) H locs ls hP hD hS (lv_sub hl [2, 3, 4, 5, 6, 7, 1, 0] rfl)
        · have hf := z_ifT hf c40
          refine lv_iload hx hb dL_would_305 (lv_at hl 7 rfl) ?_
          refine lv_goto (tgt := 312) hx hb dL_would_307 (by decide) ?_
          refine lv_istore (lv' := [(12, .int x13), (0, .ref (b 0)), (3, .ref (d 0)), (4, .ref (d 1)), (6, .ref (d' 0)), (7, .ref (d' 1)), (1, .int x1), (13, .int x13)]) hx hb dL_would_312 hl (by decide) rfl (fun ls hl => ?_)
          refine lv_iinc (v := (x13 + (-1 : Int32))) (lv' := [(13, .int (x13 + (-1 : Int32))), (12, .int x13), (0, .ref (b 0)), (3, .ref (d 0)), (4, .ref (d 1)), (6, .ref (d' 0)), (7, .ref (d' 1)), (1, .int x1)]) hx hb dL_would_314 hl (k := 7) rfl rfl (by decide) rfl (fun ls hl => ?_)
          refine lv_goto (tgt := 255) hx hb dL_would_317 (by decide) ?_
          refine W.widen (k := (301 - fu)) (n := (1806 - 6 * fu)) (by omega) (by omega) ?_
          exact ih _ _ _ hf (by omega) H locs ls hP hD hS (lv_sub hl [2, 3, 4, 5, 6, 7, 1, 0] rfl)
  have L115 : ∀ (x1 : Int32) (x2 : Int32) (fu : Nat) (x10 : Int32) (x11 : Int32) (x12 : Int32) (Y : z_O), lL_would_115 N x1 x2 fu x10 x11 x12 Y = some (r0, g0) → ∀ (H : Heap) (locs : List Loc) (ls : Array Slot), va_P D vwCl (z_vw c b a d d' Y) H → va_D A (z_vw c b a d d' Y) → va_S A s.heap H locs → lv_has ls 14 [(0, .ref (b 0)), (3, .ref (d 0)), (4, .ref (d 1)), (6, .ref (d' 0)), (7, .ref (d' 1)), (8, .ref (d' 2)), (1, .int x1), (2, .int x2), (10, .int x10), (11, .int x11), (12, .int x12)] → W p l e rmL_would s m args below meth co H locs (0 + 1) (0 + 6) (MQ below (z_Qi D (z_vw c b a d d') r0 g0 A) args s 301 1806 A) (F0 m 115 ls []) := by
    intro x1 x2 fu
    induction fu with
    | zero =>
      intro x10 x11 x12 Y hf
      have hf : (none : Option (Int32 × z_O)) = some _ := hf
      cases hf
    | succ fu ih =>
      intro x10 x11 x12 Y hf H locs ls hP hD hS hl
      have J204_115 : ∀ (x11 : Int32) (x12 : Int32) (x13 : Int32) (Y : z_O), jL_would_204_115 N (lL_would_115 N x1 x2 fu) x1 x2 x11 x12 x13 Y = some (r0, g0) → ∀ (H : Heap) (locs : List Loc) (ls : Array Slot), va_P D vwCl (z_vw c b a d d' Y) H → va_D A (z_vw c b a d d' Y) → va_S A s.heap H locs → lv_has ls 14 [(0, .ref (b 0)), (3, .ref (d 0)), (4, .ref (d 1)), (6, .ref (d' 0)), (7, .ref (d' 1)), (8, .ref (d' 2)), (1, .int x1), (2, .int x2), (11, .int x11), (12, .int x12), (13, .int x13)] → W p l e rmL_would s m args below meth co H locs (0 + 1) (0 + 6) (MQ below (z_Qi D (z_vw c b a d d') r0 g0 A) args s 301 1806 A) (F0 m 204 ls []) := by
        intro x11 x12 x13 Y hf H locs ls hP hD hS hl
        unfold jL_would_204_115 at hf
        refine lv_iload hx hb dL_would_204 (lv_at hl 9 rfl) ?_
        refine lv_goto (tgt := 211) hx hb dL_would_206 (by decide) ?_
        refine lv_istore (lv' := [(10, .int x12), (0, .ref (b 0)), (3, .ref (d 0)), (4, .ref (d 1)), (6, .ref (d' 0)), (7, .ref (d' 1)), (8, .ref (d' 2)), (1, .int x1), (2, .int x2), (11, .int x11), (12, .int x12), (13, .int x13)]) hx hb dL_would_211 hl (by decide) rfl (fun ls hl => ?_)
        refine lv_iload hx hb dL_would_213 (lv_at hl 0 rfl) ?_
        refine lv_iload hx hb dL_would_215 (lv_at hl 10 rfl) ?_
        refine lv_icmp_ne (tgt := 225) hx hb dL_would_217 (by decide) (fun c52 => ?_) (fun c52 => ?_)
        · have hf := z_ifF hf c52
          refine lv_iload hx hb dL_would_225 (lv_at hl 9 rfl) ?_
          refine lv_istore (lv' := [(11, .int x11), (10, .int x12), (0, .ref (b 0)), (3, .ref (d 0)), (4, .ref (d 1)), (6, .ref (d' 0)), (7, .ref (d' 1)), (8, .ref (d' 2)), (1, .int x1), (2, .int x2), (12, .int x12), (13, .int x13)]) hx hb dL_would_227 hl (by decide) rfl (fun ls hl => ?_)
          refine lv_iinc (v := (x12 + (1 : Int32))) (lv' := [(12, .int (x12 + (1 : Int32))), (11, .int x11), (10, .int x12), (0, .ref (b 0)), (3, .ref (d 0)), (4, .ref (d 1)), (6, .ref (d' 0)), (7, .ref (d' 1)), (8, .ref (d' 2)), (1, .int x1), (2, .int x2), (13, .int x13)]) hx hb dL_would_229 hl (k := 10) rfl rfl (by decide) rfl (fun ls hl => ?_)
          refine lv_goto (tgt := 115) hx hb dL_would_232 (by decide) ?_
          exact ih _ _ _ _ hf H locs ls hP hD hS (lv_sub hl [3, 4, 5, 6, 7, 8, 9, 10, 2, 1, 0] rfl)
        · have hf := z_ifT hf c52
          refine lv_iload hx hb dL_would_220 (lv_at hl 11 rfl) ?_
          refine lv_goto (tgt := 227) hx hb dL_would_222 (by decide) ?_
          refine lv_istore (lv' := [(11, .int x13), (10, .int x12), (0, .ref (b 0)), (3, .ref (d 0)), (4, .ref (d 1)), (6, .ref (d' 0)), (7, .ref (d' 1)), (8, .ref (d' 2)), (1, .int x1), (2, .int x2), (12, .int x12), (13, .int x13)]) hx hb dL_would_227 hl (by decide) rfl (fun ls hl => ?_)
          refine lv_iinc (v := (x12 + (1 : Int32))) (lv' := [(12, .int (x12 + (1 : Int32))), (11, .int x13), (10, .int x12), (0, .ref (b 0)), (3, .ref (d 0)), (4, .ref (d 1)), (6, .ref (d' 0)), (7, .ref (d' 1)), (8, .ref (d' 2)), (1, .int x1), (2, .int x2), (13, .int x13)]) hx hb dL_would_229 hl (k := 10) rfl rfl (by decide) rfl (fun ls hl => ?_)
          refine lv_goto (tgt := 115) hx hb dL_would_232 (by decide) ?_
          exact ih _ _ _ _ hf H locs ls hP hD hS (lv_sub hl [3, 4, 5, 6, 7, 8, 9, 10, 2, 1, 0] rfl)
      have J147_115 : ∀ (x10 : Int32) (x11 : Int32) (x12 : Int32) (Y : z_O), jL_would_147_115 N (lL_would_115 N x1 x2 fu) x1 x2 x10 x11 x12 Y = some (r0, g0) → ∀ (H : Heap) (locs : List Loc) (ls : Array Slot), va_P D vwCl (z_vw c b a d d' Y) H → va_D A (z_vw c b a d d' Y) → va_S A s.heap H locs → lv_has ls 14 [(0, .ref (b 0)), (3, .ref (d 0)), (4, .ref (d 1)), (6, .ref (d' 0)), (7, .ref (d' 1)), (8, .ref (d' 2)), (1, .int x1), (2, .int x2), (10, .int x10), (11, .int x11), (12, .int x12)] → W p l e rmL_would s m args below meth co H locs (0 + 1) (0 + 6) (MQ below (z_Qi D (z_vw c b a d d') r0 g0 A) args s 301 1806 A) (F0 m 147 ls []) := by
        intro x10 x11 x12 Y hf H locs ls hP hD hS hl
        unfold jL_would_147_115 at hf
        refine lv_aload_n hx hb dL_would_147 rfl (lv_at hl 1 rfl) ?_
        refine lv_aload hx hb dL_would_148 (lv_at hl 3 rfl) ?_
        obtain ⟨u43, h43, hf⟩ := z_bE hf
        refine z_xSv (As := [.ref (d 0), .ref (d' 0)]) (rest := []) (wf := fun u : Nat → Int32 => z_rr c (d 0) (d' 0) 12 (Y.2.1 0) u) (g := Y.2.2 0) (u0 := u43) ⟨hx, hb, hml, hown, hts⟩ (kL_copy l D c N (d 0) (d' 0) 12 H.size (Y.2.1 0) (Y.2.2 0) u43 h43) (va_cwS 2 hts gL_would_L_copy rfl rfl rfl (by decide +kernel) ⟨Nat.le_of_ble_eq_true rfl, Nat.le_of_ble_eq_true rfl⟩) hP hK hD hS hA (z_cutCp0 hD u43) rfl hl.1 (Nat.le_of_ble_eq_true rfl) rfl dL_would_150 ⟨(show _ ≤ 301 by omega), (show _ ≤ 1806 by omega)⟩ (fun H locs hP hD hS => ?_)
        obtain ⟨Y44, e44, hf⟩ := z_ltE hf
        have hP : va_P D vwCl (z_vw c b a d d' Y44) H := by rw [e44]; exact hP
        have hD : va_D A (z_vw c b a d d' Y44) := by rw [e44]; exact hD
        clear e44
        refine lv_aload hx hb dL_would_153 (lv_at hl 2 rfl) ?_
        refine lv_aload hx hb dL_would_155 (lv_at hl 4 rfl) ?_
        obtain ⟨u45, h45, hf⟩ := z_bE hf
        refine z_xSv (As := [.ref (d 1), .ref (d' 1)]) (rest := []) (wf := fun u : Nat → Int32 => z_rr c (d 1) (d' 1) 54 (Y44.2.1 1) u) (g := Y44.2.2 1) (u0 := u45) ⟨hx, hb, hml, hown, hts⟩ (kL_copy l D c N (d 1) (d' 1) 54 H.size (Y44.2.1 1) (Y44.2.2 1) u45 h45) (va_cwS 2 hts gL_would_L_copy rfl rfl rfl (by decide +kernel) ⟨Nat.le_of_ble_eq_true rfl, Nat.le_of_ble_eq_true rfl⟩) hP hK hD hS hA (z_cutCp1 hD u45) rfl hl.1 (Nat.le_of_ble_eq_true rfl) rfl dL_would_157 ⟨(show _ ≤ 301 by omega), (show _ ≤ 1806 by omega)⟩ (fun H locs hP hD hS => ?_)
        obtain ⟨Y46, e46, hf⟩ := z_ltE hf
        have hP : va_P D vwCl (z_vw c b a d d' Y46) H := by rw [e46]; exact hP
        have hD : va_D A (z_vw c b a d d' Y46) := by rw [e46]; exact hD
        clear e46
        refine lv_aload hx hb dL_would_160 (lv_at hl 4 rfl) ?_
        refine lv_bipush (v := (9 : Int32)) hx hb dL_would_162 (by decide) ?_
        refine lv_iload_n hx hb dL_would_164 rfl (lv_at hl 6 rfl) ?_
        refine lv_imul hx hb dL_would_165 ?_
        refine lv_iconst (v := (5 : Int32)) hx hb dL_would_166 (by decide) ?_
        refine lv_iadd hx hb dL_would_167 ?_
        refine lv_iload hx hb dL_would_168 (lv_at hl 10 rfl) ?_
        obtain ⟨b47, hf⟩ := z_ckE hf
        refine va_iast hx hb hK.1 hP hD hS 315 0 z_vAt4 rfl (z_inE b47) dL_would_170 (fun H locs hP hD hS => ?_)
        obtain ⟨Y48, e48, hf⟩ := z_ltE hf
        have hP : va_P D vwCl (z_vw c b a d d' Y48) H := by rw [e48, ← z_vSet4]; exact hP
        have hD : va_D A (z_vw c b a d d' Y48) := by rw [e48, ← z_vSet4]; exact hD
        clear e48
        refine lv_iload_n hx hb dL_would_171 rfl (lv_at hl 7 rfl) ?_
        refine lv_aload hx hb dL_would_172 (lv_at hl 3 rfl) ?_
        refine lv_aload hx hb dL_would_174 (lv_at hl 4 rfl) ?_
        refine lv_aload hx hb dL_would_176 (lv_at hl 5 rfl) ?_
        obtain ⟨r49, u49, h49, hf⟩ := z_b2E hf
        refine z_xSi (As := [.int x2, .ref (d' 0), .ref (d' 1), .ref (d' 2)]) (rest := []) (wf := z_q3 c d') (g := Y48.2.2) (u0 := u49) ⟨hx, hb, hml, hown, hts⟩ (kL_run l D c N d' H.size (Y48.2.2) x2 r49 u49 h49) (va_cwS 4 hts gL_would_L_run rfl rfl rfl (by decide +kernel) ⟨Nat.le_of_ble_eq_true rfl, Nat.le_of_ble_eq_true rfl⟩) hP hK hD hS hA (z_cutVR hD u49) rfl hl.1 (Nat.le_of_ble_eq_true rfl) rfl dL_would_178 ⟨(show _ ≤ 301 by omega), (show _ ≤ 1806 by omega)⟩ (fun H locs hP hD hS => ?_)
        obtain ⟨Y50, e50, hf⟩ := z_ltE hf
        have hP : va_P D vwCl (z_vw c b a d d' Y50) H := by rw [e50]; exact hP
        have hD : va_D A (z_vw c b a d d' Y50) := by rw [e50]; exact hD
        clear e50
        refine lv_pop hx hb dL_would_181 rfl ?_
        refine lv_aload hx hb dL_would_182 (lv_at hl 3 rfl) ?_
        refine lv_iconst (v := (1 : Int32)) hx hb dL_would_184 (by decide) ?_
        refine va_iald hx hb hK.1 (z_subP hP z_inVR) 0 0 rfl rfl (z_inE (by decide)) dL_would_185 ?_
        refine lv_aload_n hx hb dL_would_186 rfl (lv_at hl 1 rfl) ?_
        refine lv_iconst (v := (1 : Int32)) hx hb dL_would_187 (by decide) ?_
        refine va_iald hx hb hK.1 (z_subP hP z_inVQ) 0 0 rfl rfl (z_inE (by decide)) dL_would_188 ?_
        refine lv_isub hx hb dL_would_189 ?_
        refine lv_istore (lv' := [(13, .int ((Y50.2.2 0 ((1 : Int32)).toNatClampNeg) - (Y50.2.1 0 ((1 : Int32)).toNatClampNeg))), (0, .ref (b 0)), (3, .ref (d 0)), (4, .ref (d 1)), (6, .ref (d' 0)), (7, .ref (d' 1)), (8, .ref (d' 2)), (1, .int x1), (2, .int x2), (10, .int x10), (11, .int x11), (12, .int x12)]) hx hb dL_would_190 hl (by decide) rfl (fun ls hl => ?_)
        refine lv_iload hx hb dL_would_192 (lv_at hl 9 rfl) ?_
        refine lv_if_lt (tgt := 204) hx hb dL_would_194 (by decide) (fun c51 => ?_) (fun c51 => ?_)
        · have hf := z_ifT hf c51
          exact J204_115 _ _ _ _ hf H locs ls hP hD hS (lv_sub hl [1, 2, 3, 4, 5, 6, 7, 8, 10, 11, 0] rfl)
        · have hf := z_ifF hf c51
          refine lv_iload hx hb dL_would_197 (lv_at hl 0 rfl) ?_
          refine lv_iload hx hb dL_would_199 (lv_at hl 10 rfl) ?_
          refine lv_icmp_ge (tgt := 209) hx hb dL_would_201 (by decide) (fun c53 => ?_) (fun c53 => ?_)
          · have hf := z_ifT hf c53
            refine lv_iload hx hb dL_would_209 (lv_at hl 9 rfl) ?_
            refine lv_istore (lv' := [(10, .int x10), (13, .int ((Y50.2.2 0 ((1 : Int32)).toNatClampNeg) - (Y50.2.1 0 ((1 : Int32)).toNatClampNeg))), (0, .ref (b 0)), (3, .ref (d 0)), (4, .ref (d 1)), (6, .ref (d' 0)), (7, .ref (d' 1)), (8, .ref (d' 2)), (1, .int x1), (2, .int x2), (11, .int x11), (12, .int x12)]) hx hb dL_would_211 hl (by decide) rfl (fun ls hl => ?_)
            refine lv_iload hx hb dL_would_213 (lv_at hl 0 rfl) ?_
            refine lv_iload hx hb dL_would_215 (lv_at hl 11 rfl) ?_
            refine lv_icmp_ne (tgt := 225) hx hb dL_would_217 (by decide) (fun c54 => ?_) (fun c54 => ?_)
            · have hf := z_ifF hf c54
              refine lv_iload hx hb dL_would_225 (lv_at hl 10 rfl) ?_
              refine lv_istore (lv' := [(11, .int x11), (10, .int x10), (13, .int ((Y50.2.2 0 ((1 : Int32)).toNatClampNeg) - (Y50.2.1 0 ((1 : Int32)).toNatClampNeg))), (0, .ref (b 0)), (3, .ref (d 0)), (4, .ref (d 1)), (6, .ref (d' 0)), (7, .ref (d' 1)), (8, .ref (d' 2)), (1, .int x1), (2, .int x2), (12, .int x12)]) hx hb dL_would_227 hl (by decide) rfl (fun ls hl => ?_)
              refine lv_iinc (v := (x12 + (1 : Int32))) (lv' := [(12, .int (x12 + (1 : Int32))), (11, .int x11), (10, .int x10), (13, .int ((Y50.2.2 0 ((1 : Int32)).toNatClampNeg) - (Y50.2.1 0 ((1 : Int32)).toNatClampNeg))), (0, .ref (b 0)), (3, .ref (d 0)), (4, .ref (d 1)), (6, .ref (d' 0)), (7, .ref (d' 1)), (8, .ref (d' 2)), (1, .int x1), (2, .int x2)]) hx hb dL_would_229 hl (k := 11) rfl rfl (by decide) rfl (fun ls hl => ?_)
              refine lv_goto (tgt := 115) hx hb dL_would_232 (by decide) ?_
              exact ih _ _ _ _ hf H locs ls hP hD hS (lv_sub hl [4, 5, 6, 7, 8, 9, 10, 11, 2, 1, 0] rfl)
            · have hf := z_ifT hf c54
              refine lv_iload hx hb dL_would_220 (lv_at hl 1 rfl) ?_
              refine lv_goto (tgt := 227) hx hb dL_would_222 (by decide) ?_
              refine lv_istore (lv' := [(11, .int ((Y50.2.2 0 ((1 : Int32)).toNatClampNeg) - (Y50.2.1 0 ((1 : Int32)).toNatClampNeg))), (10, .int x10), (13, .int ((Y50.2.2 0 ((1 : Int32)).toNatClampNeg) - (Y50.2.1 0 ((1 : Int32)).toNatClampNeg))), (0, .ref (b 0)), (3, .ref (d 0)), (4, .ref (d 1)), (6, .ref (d' 0)), (7, .ref (d' 1)), (8, .ref (d' 2)), (1, .int x1), (2, .int x2), (12, .int x12)]) hx hb dL_would_227 hl (by decide) rfl (fun ls hl => ?_)
              refine lv_iinc (v := (x12 + (1 : Int32))) (lv' := [(12, .int (x12 + (1 : Int32))), (11, .int ((Y50.2.2 0 ((1 : Int32)).toNatClampNeg) - (Y50.2.1 0 ((1 : Int32)).toNatClampNeg))), (10, .int x10), (13, .int ((Y50.2.2 0 ((1 : Int32)).toNatClampNeg) - (Y50.2.1 0 ((1 : Int32)).toNatClampNeg))), (0, .ref (b 0)), (3, .ref (d 0)), (4, .ref (d 1)), (6, .ref (d' 0)), (7, .ref (d' 1)), (8, .ref (d' 2)), (1, .int x1), (2, .int x2)]) hx hb dL_would_229 hl (k := 11) rfl rfl (by decide) rfl (fun ls hl => ?_)
              refine lv_goto (tgt := 115) hx hb dL_would_232 (by decide) ?_
              exact ih _ _ _ _ hf H locs ls hP hD hS (lv_sub hl [4, 5, 6, 7, 8, 9, 10, 11, 2, 1, 0] rfl)
          · have hf := z_ifF hf c53
            exact J204_115 _ _ _ _ hf H locs ls hP hD hS (lv_sub hl [1, 2, 3, 4, 5, 6, 7, 8, 10, 11, 0] rfl)
      rw [lL_would_115.eq_2] at hf
      refine lv_iload hx hb dL_would_115 (lv_at hl 10 rfl) ?_
      refine lv_aload_n hx hb dL_would_117 rfl (lv_at hl 1 rfl) ?_
      refine lv_iconst (v := (0 : Int32)) hx hb dL_would_118 (by decide) ?_
      refine va_iald hx hb hK.1 (z_subP hP z_inVQ) 0 0 rfl rfl (z_inE (by decide)) dL_would_119 ?_
      refine lv_icmp_ge (tgt := 235) hx hb dL_would_120 (by decide) (fun c23 => ?_) (fun c23 => ?_)
      · have hf := z_ifT hf c23
        refine lv_aload_n hx hb dL_would_235 rfl (lv_at hl 0 rfl) ?_
        refine lv_iload_n hx hb dL_would_236 rfl (lv_at hl 6 rfl) ?_
        refine lv_iload_n hx hb dL_would_237 rfl (lv_at hl 7 rfl) ?_
        obtain ⟨r24, u24, h24, hf⟩ := z_b2E hf
        refine z_xVi (As := [.int x1, .int x2]) (rest := []) (wf := z_dw c b a) (g := Y.1) (u0 := u24) ⟨hx, hb, hml, hown, hts⟩ (kX4_bestPlace l D c N b a H.size Y.1 x1 x2 r24 u24 h24) (cwV 2 hts gL_would_X4_bestPlace rfl rfl rfl (by decide +kernel) ⟨Nat.le_of_ble_eq_true rfl, Nat.le_of_ble_eq_true rfl⟩) hP hK hD hS hA (z_cutVD hD u24) (ci := 4) (q0 := 0) rfl rfl rfl rfl hl.1 (Nat.le_of_ble_eq_true rfl) rfl dL_would_238 ⟨(show _ ≤ 301 by omega), (show _ ≤ 1806 by omega)⟩ (fun H locs hP hD hS => ?_)
        obtain ⟨Y25, e25, hf⟩ := z_ltE hf
        have hP : va_P D vwCl (z_vw c b a d d' Y25) H := by rw [e25]; exact hP
        have hD : va_D A (z_vw c b a d d' Y25) := by rw [e25]; exact hD
        clear e25
        refine lv_iload hx hb dL_would_241 (lv_at hl 8 rfl) ?_
        refine lv_icmp_eq (tgt := 248) hx hb dL_would_243 (by decide) (fun c26 => ?_) (fun c26 => ?_)
        · have hf := z_ifT hf c26
          refine lv_iconst (v := (-1 : Int32)) hx hb dL_would_248 (by decide) ?_
          refine lv_istore (lv' := [(12, .int (-1 : Int32)), (0, .ref (b 0)), (3, .ref (d 0)), (4, .ref (d 1)), (6, .ref (d' 0)), (7, .ref (d' 1)), (8, .ref (d' 2)), (1, .int x1), (2, .int x2), (10, .int x10), (11, .int x11)]) hx hb dL_would_249 hl (by decide) rfl (fun ls hl => ?_)
          refine lv_bipush (v := (99 : Int32)) hx hb dL_would_251 (by decide) ?_
          refine lv_istore (lv' := [(13, .int (99 : Int32)), (12, .int (-1 : Int32)), (0, .ref (b 0)), (3, .ref (d 0)), (4, .ref (d 1)), (6, .ref (d' 0)), (7, .ref (d' 1)), (8, .ref (d' 2)), (1, .int x1), (2, .int x2), (10, .int x10), (11, .int x11)]) hx hb dL_would_253 hl (by decide) rfl (fun ls hl => ?_)
          refine W.widen (k := (301 - 300)) (n := (1806 - 6 * 300)) (by omega) (by omega) ?_
          exact L255 _ 300 _ _ _ hf (Nat.le_refl 300) H locs ls hP hD hS (lv_sub hl [2, 3, 4, 5, 6, 8, 1, 0] rfl)
        · have hf := z_ifF hf c26
          refine lv_iconst (v := (0 : Int32)) hx hb dL_would_246 (by decide) ?_
          exact z_yz (wf := (z_vw c b a d d')) hx hb hr rfl hlocks hP hD hS hf (by omega) (by omega) dL_would_247
      · have hf := z_ifF hf c23
        refine lv_iload hx hb dL_would_123 (lv_at hl 10 rfl) ?_
        refine lv_aload hx hb dL_would_125 (lv_at hl 2 rfl) ?_
        obtain ⟨r41, h41, hf⟩ := z_bE hf
        refine z_xSi (As := [.int x12, .ref (d 1)]) (rest := []) (wf := z_q3 c d) (g := Y.2.1) (u0 := Y.2.1) (V2 := (z_vw c b a d d' Y)) ⟨hx, hb, hml, hown, hts⟩ (kL_at l D c N d H.size (Y.2.1) x12 r41 h41) (va_cwS 2 hts gL_would_L_at rfl rfl rfl (by decide +kernel) ⟨Nat.le_of_ble_eq_true rfl, Nat.le_of_ble_eq_true rfl⟩) hP hK hD hS hA (z_cutVQp hD) rfl hl.1 (Nat.le_of_ble_eq_true rfl) rfl dL_would_127 ⟨(show _ ≤ 301 by omega), (show _ ≤ 1806 by omega)⟩ (fun H locs hP hD hS => ?_)
        refine lv_if_lt (tgt := 147) hx hb dL_would_130 (by decide) (fun c42 => ?_) (fun c42 => ?_)
        · have hf := z_ifT hf c42
          exact J147_115 _ _ _ _ hf H locs ls hP hD hS (lv_sub hl [0, 1, 2, 3, 4, 5, 6, 7, 8, 9, 10] rfl)
        · have hf := z_ifF hf c42
          refine lv_iload hx hb dL_would_133 (lv_at hl 10 rfl) ?_
          refine lv_aload hx hb dL_would_135 (lv_at hl 2 rfl) ?_
          obtain ⟨r55, h55, hf⟩ := z_bE hf
          refine z_xSi (As := [.int x12, .ref (d 1)]) (rest := []) (wf := z_q3 c d) (g := Y.2.1) (u0 := Y.2.1) (V2 := (z_vw c b a d d' Y)) ⟨hx, hb, hml, hown, hts⟩ (kL_at l D c N d H.size (Y.2.1) x12 r55 h55) (va_cwS 2 hts gL_would_L_at rfl rfl rfl (by decide +kernel) ⟨Nat.le_of_ble_eq_true rfl, Nat.le_of_ble_eq_true rfl⟩) hP hK hD hS hA (z_cutVQp hD) rfl hl.1 (Nat.le_of_ble_eq_true rfl) rfl dL_would_137 ⟨(show _ ≤ 301 by omega), (show _ ≤ 1806 by omega)⟩ (fun H locs hP hD hS => ?_)
          refine lv_iload_n hx hb dL_would_140 rfl (lv_at hl 6 rfl) ?_
          refine lv_icmp_eq (tgt := 147) hx hb dL_would_141 (by decide) (fun c56 => ?_) (fun c56 => ?_)
          · have hf := z_ifT hf c56
            exact J147_115 _ _ _ _ hf H locs ls hP hD hS (lv_sub hl [0, 1, 2, 3, 4, 5, 6, 7, 8, 9, 10] rfl)
          · have hf := z_ifF hf c56
            refine lv_goto (tgt := 229) hx hb dL_would_144 (by decide) ?_
            refine lv_iinc (v := (x12 + (1 : Int32))) (lv' := [(12, .int (x12 + (1 : Int32))), (0, .ref (b 0)), (3, .ref (d 0)), (4, .ref (d 1)), (6, .ref (d' 0)), (7, .ref (d' 1)), (8, .ref (d' 2)), (1, .int x1), (2, .int x2), (10, .int x10), (11, .int x11)]) hx hb dL_would_229 hl (k := 10) rfl rfl (by decide) rfl (fun ls hl => ?_)
            refine lv_goto (tgt := 115) hx hb dL_would_232 (by decide) ?_
            exact ih _ _ _ _ hf H locs ls hP hD hS (lv_sub hl [1, 2, 3, 4, 5, 6, 7, 8, 9, 10, 0] rfl)
  unfold fL_would at hf
  generalize ([] : List Loc) = locs at hS ⊢
  refine lv_aload_n hx hb dL_would_0 rfl (lv_at hl 3 rfl) ?_
  refine lv_aload hx hb dL_would_1 (lv_at hl 6 rfl) ?_
  obtain ⟨u1, h1, hf⟩ := z_bE hf
  refine z_xSv (As := [.ref (d 0), .ref (d' 0)]) (rest := []) (wf := fun u : Nat → Int32 => z_rr c (d 0) (d' 0) 12 (Y.2.1 0) u) (g := Y.2.2 0) (u0 := u1) ⟨hx, hb, hml, hown, hts⟩ (kL_copy l D c N (d 0) (d' 0) 12 H.size (Y.2.1 0) (Y.2.2 0) u1 h1) (va_cwS 2 hts gL_would_L_copy rfl rfl rfl (by decide +kernel) ⟨Nat.le_of_ble_eq_true rfl, Nat.le_of_ble_eq_true rfl⟩) hP hK hD hS hA (z_cutCp0 hD u1) rfl hl.1 (Nat.le_of_ble_eq_true rfl) rfl dL_would_3 ⟨Nat.le_of_ble_eq_true rfl, Nat.le_of_ble_eq_true rfl⟩ (fun H locs hP hD hS => ?_)
  obtain ⟨Y2, e2, hf⟩ := z_ltE hf
  have hP : va_P D vwCl (z_vw c b a d d' Y2) H := by rw [e2]; exact hP
  have hD : va_D A (z_vw c b a d d' Y2) := by rw [e2]; exact hD
  clear e2
  refine lv_aload hx hb dL_would_6 (lv_at hl 4 rfl) ?_
  refine lv_aload hx hb dL_would_8 (lv_at hl 7 rfl) ?_
  obtain ⟨u3, h3, hf⟩ := z_bE hf
  refine z_xSv (As := [.ref (d 1), .ref (d' 1)]) (rest := []) (wf := fun u : Nat → Int32 => z_rr c (d 1) (d' 1) 54 (Y2.2.1 1) u) (g := Y2.2.2 1) (u0 := u3) ⟨hx, hb, hml, hown, hts⟩ (kL_copy l D c N (d 1) (d' 1) 54 H.size (Y2.2.1 1) (Y2.2.2 1) u3 h3) (va_cwS 2 hts gL_would_L_copy rfl rfl rfl (by decide +kernel) ⟨Nat.le_of_ble_eq_true rfl, Nat.le_of_ble_eq_true rfl⟩) hP hK hD hS hA (z_cutCp1 hD u3) rfl hl.1 (Nat.le_of_ble_eq_true rfl) rfl dL_would_10 ⟨Nat.le_of_ble_eq_true rfl, Nat.le_of_ble_eq_true rfl⟩ (fun H locs hP hD hS => ?_)
  obtain ⟨Y4, e4, hf⟩ := z_ltE hf
  have hP : va_P D vwCl (z_vw c b a d d' Y4) H := by rw [e4]; exact hP
  have hD : va_D A (z_vw c b a d d' Y4) := by rw [e4]; exact hD
  clear e4
  refine lv_aload hx hb dL_would_13 (lv_at hl 5 rfl) ?_
  refine lv_aload hx hb dL_would_15 (lv_at hl 8 rfl) ?_
  obtain ⟨u5, h5, hf⟩ := z_bE hf
  refine z_xSv (As := [.ref (d 2), .ref (d' 2)]) (rest := []) (wf := fun u : Nat → Int32 => z_rr c (d 2) (d' 2) 64 (Y4.2.1 2) u) (g := Y4.2.2 2) (u0 := u5) ⟨hx, hb, hml, hown, hts⟩ (kL_copy l D c N (d 2) (d' 2) 64 H.size (Y4.2.1 2) (Y4.2.2 2) u5 h5) (va_cwS 2 hts gL_would_L_copy rfl rfl rfl (by decide +kernel) ⟨Nat.le_of_ble_eq_true rfl, Nat.le_of_ble_eq_true rfl⟩) hP hK hD hS hA (z_cutCp2 hD u5) rfl hl.1 (Nat.le_of_ble_eq_true rfl) rfl dL_would_17 ⟨Nat.le_of_ble_eq_true rfl, Nat.le_of_ble_eq_true rfl⟩ (fun H locs hP hD hS => ?_)
  obtain ⟨Y6, e6, hf⟩ := z_ltE hf
  have hP : va_P D vwCl (z_vw c b a d d' Y6) H := by rw [e6]; exact hP
  have hD : va_D A (z_vw c b a d d' Y6) := by rw [e6]; exact hD
  clear e6
  refine lv_iload_n hx hb dL_would_20 rfl (lv_at hl 2 rfl) ?_
  refine lv_aload hx hb dL_would_21 (lv_at hl 6 rfl) ?_
  refine lv_aload hx hb dL_would_23 (lv_at hl 7 rfl) ?_
  refine lv_aload hx hb dL_would_25 (lv_at hl 8 rfl) ?_
  obtain ⟨r7, u7, h7, hf⟩ := z_b2E hf
  refine z_xSi (As := [.int p2, .ref (d' 0), .ref (d' 1), .ref (d' 2)]) (rest := []) (wf := z_q3 c d') (g := Y6.2.2) (u0 := u7) ⟨hx, hb, hml, hown, hts⟩ (kL_run l D c N d' H.size (Y6.2.2) p2 r7 u7 h7) (va_cwS 4 hts gL_would_L_run rfl rfl rfl (by decide +kernel) ⟨Nat.le_of_ble_eq_true rfl, Nat.le_of_ble_eq_true rfl⟩) hP hK hD hS hA (z_cutVR hD u7) rfl hl.1 (Nat.le_of_ble_eq_true rfl) rfl dL_would_27 ⟨Nat.le_of_ble_eq_true rfl, Nat.le_of_ble_eq_true rfl⟩ (fun H locs hP hD hS => ?_)
  obtain ⟨Y8, e8, hf⟩ := z_ltE hf
  have hP : va_P D vwCl (z_vw c b a d d' Y8) H := by rw [e8]; exact hP
  have hD : va_D A (z_vw c b a d d' Y8) := by rw [e8]; exact hD
  clear e8
  refine lv_pop hx hb dL_would_30 rfl ?_
  refine lv_aload hx hb dL_would_31 (lv_at hl 6 rfl) ?_
  refine lv_iconst (v := (1 : Int32)) hx hb dL_would_33 (by decide) ?_
  refine va_iald hx hb hK.1 (z_subP hP z_inVR) 0 0 rfl rfl (z_inE (by decide)) dL_would_34 ?_
  refine lv_aload_n hx hb dL_would_35 rfl (lv_at hl 3 rfl) ?_
  refine lv_iconst (v := (1 : Int32)) hx hb dL_would_36 (by decide) ?_
  refine va_iald hx hb hK.1 (z_subP hP z_inVQ) 0 0 rfl rfl (z_inE (by decide)) dL_would_37 ?_
  refine lv_isub hx hb dL_would_38 ?_
  refine lv_istore (lv' := [(9, .int ((Y8.2.2 0 ((1 : Int32)).toNatClampNeg) - (Y8.2.1 0 ((1 : Int32)).toNatClampNeg))), (0, .ref (b 0)), (1, .int p1), (2, .int p2), (3, .ref (d 0)), (4, .ref (d 1)), (5, .ref (d 2)), (6, .ref (d' 0)), (7, .ref (d' 1)), (8, .ref (d' 2))]) hx hb dL_would_39 hl (by decide) rfl (fun ls hl => ?_)
  refine lv_aload_n hx hb dL_would_41 rfl (lv_at hl 1 rfl) ?_
  refine lv_iload_n hx hb dL_would_42 rfl (lv_at hl 3 rfl) ?_
  obtain ⟨r9, u9, h9, hf⟩ := z_b2E hf
  refine z_xVi (As := [.int p2]) (rest := []) (wf := z_dw c b a) (g := Y8.1) (u0 := u9) ⟨hx, hb, hml, hown, hts⟩ (kX4_time l D c N b a H.size Y8.1 p2 r9 u9 h9) (cwV 1 hts gL_would_X4_time rfl rfl rfl (by decide +kernel) ⟨Nat.le_of_ble_eq_true rfl, Nat.le_of_ble_eq_true rfl⟩) hP hK hD hS hA (z_cutVD hD u9) (ci := 4) (q0 := 0) rfl rfl rfl rfl hl.1 (Nat.le_of_ble_eq_true rfl) rfl dL_would_43 ⟨Nat.le_of_ble_eq_true rfl, Nat.le_of_ble_eq_true rfl⟩ (fun H locs hP hD hS => ?_)
  obtain ⟨Y10, e10, hf⟩ := z_ltE hf
  have hP : va_P D vwCl (z_vw c b a d d' Y10) H := by rw [e10]; exact hP
  have hD : va_D A (z_vw c b a d d' Y10) := by rw [e10]; exact hD
  clear e10
  refine lv_iload hx hb dL_would_46 (lv_at hl 0 rfl) ?_
  refine lv_icmp_eq (tgt := 53) hx hb dL_would_48 (by decide) (fun c11 => ?_) (fun c11 => ?_)
  · have hf := z_ifT hf c11
    refine lv_aload_n hx hb dL_would_53 rfl (lv_at hl 4 rfl) ?_
    refine lv_aload hx hb dL_would_54 (lv_at hl 7 rfl) ?_
    obtain ⟨u12, h12, hf⟩ := z_bE hf
    refine z_xSv (As := [.ref (d 0), .ref (d' 0)]) (rest := []) (wf := fun u : Nat → Int32 => z_rr c (d 0) (d' 0) 12 (Y10.2.1 0) u) (g := Y10.2.2 0) (u0 := u12) ⟨hx, hb, hml, hown, hts⟩ (kL_copy l D c N (d 0) (d' 0) 12 H.size (Y10.2.1 0) (Y10.2.2 0) u12 h12) (va_cwS 2 hts gL_would_L_copy rfl rfl rfl (by decide +kernel) ⟨Nat.le_of_ble_eq_true rfl, Nat.le_of_ble_eq_true rfl⟩) hP hK hD hS hA (z_cutCp0 hD u12) rfl hl.1 (Nat.le_of_ble_eq_true rfl) rfl dL_would_56 ⟨Nat.le_of_ble_eq_true rfl, Nat.le_of_ble_eq_true rfl⟩ (fun H locs hP hD hS => ?_)
    obtain ⟨Y13, e13, hf⟩ := z_ltE hf
    have hP : va_P D vwCl (z_vw c b a d d' Y13) H := by rw [e13]; exact hP
    have hD : va_D A (z_vw c b a d d' Y13) := by rw [e13]; exact hD
    clear e13
    refine lv_aload hx hb dL_would_59 (lv_at hl 5 rfl) ?_
    refine lv_aload hx hb dL_would_61 (lv_at hl 8 rfl) ?_
    obtain ⟨u14, h14, hf⟩ := z_bE hf
    refine z_xSv (As := [.ref (d 1), .ref (d' 1)]) (rest := []) (wf := fun u : Nat → Int32 => z_rr c (d 1) (d' 1) 54 (Y13.2.1 1) u) (g := Y13.2.2 1) (u0 := u14) ⟨hx, hb, hml, hown, hts⟩ (kL_copy l D c N (d 1) (d' 1) 54 H.size (Y13.2.1 1) (Y13.2.2 1) u14 h14) (va_cwS 2 hts gL_would_L_copy rfl rfl rfl (by decide +kernel) ⟨Nat.le_of_ble_eq_true rfl, Nat.le_of_ble_eq_true rfl⟩) hP hK hD hS hA (z_cutCp1 hD u14) rfl hl.1 (Nat.le_of_ble_eq_true rfl) rfl dL_would_63 ⟨Nat.le_of_ble_eq_true rfl, Nat.le_of_ble_eq_true rfl⟩ (fun H locs hP hD hS => ?_)
    obtain ⟨Y15, e15, hf⟩ := z_ltE hf
    have hP : va_P D vwCl (z_vw c b a d d' Y15) H := by rw [e15]; exact hP
    have hD : va_D A (z_vw c b a d d' Y15) := by rw [e15]; exact hD
    clear e15
    refine lv_aload hx hb dL_would_66 (lv_at hl 7 rfl) ?_
    refine lv_aload hx hb dL_would_68 (lv_at hl 8 rfl) ?_
    obtain ⟨r16, u16, h16, hf⟩ := z_b2E hf
    refine z_ySi (As := [.ref (d' 0), .ref (d' 1)]) (rest := []) (wf := z_q3 c d') (g := Y15.2.2) (u0 := u16) ⟨hx, hb, hml, hown, hts⟩ (kL_lay l D c N d' H.size (Y15.2.2)  r16 u16 h16) (va_cwS 2 hts gL_would_L_lay rfl rfl rfl (by decide +kernel) ⟨Nat.le_of_ble_eq_true rfl, Nat.le_of_ble_eq_true rfl⟩) hP hK hD hS hA (z_cutVR hD u16) rfl hl.1 (Nat.le_of_ble_eq_true rfl) rfl dL_would_70 ⟨Nat.le_of_ble_eq_true rfl, Nat.le_of_ble_eq_true rfl⟩ (fun H locs hP hD hS => ?_)
    obtain ⟨Y17, e17, hf⟩ := z_ltE hf
    have hP : va_P D vwCl (z_vw c b a d d' Y17) H := by rw [e17]; exact hP
    have hD : va_D A (z_vw c b a d d' Y17) := by rw [e17]; exact hD
    clear e17
    refine lv_pop hx hb dL_would_73 rfl ?_
    refine lv_iload_n hx hb dL_would_74 rfl (lv_at hl 3 rfl) ?_
    refine lv_aload hx hb dL_would_75 (lv_at hl 7 rfl) ?_
    refine lv_aload hx hb dL_would_77 (lv_at hl 8 rfl) ?_
    refine lv_aload hx hb dL_would_79 (lv_at hl 9 rfl) ?_
    obtain ⟨r18, u18, h18, hf⟩ := z_b2E hf
    refine z_xSi (As := [.int p2, .ref (d' 0), .ref (d' 1), .ref (d' 2)]) (rest := []) (wf := z_q3 c d') (g := Y17.2.2) (u0 := u18) ⟨hx, hb, hml, hown, hts⟩ (kL_run l D c N d' H.size (Y17.2.2) p2 r18 u18 h18) (va_cwS 4 hts gL_would_L_run rfl rfl rfl (by decide +kernel) ⟨Nat.le_of_ble_eq_true rfl, Nat.le_of_ble_eq_true rfl⟩) hP hK hD hS hA (z_cutVR hD u18) rfl hl.1 (Nat.le_of_ble_eq_true rfl) rfl dL_would_81 ⟨(show _ ≤ 301 by omega), (show _ ≤ 1806 by omega)⟩ (fun H locs hP hD hS => ?_)
    obtain ⟨Y19, e19, hf⟩ := z_ltE hf
    have hP : va_P D vwCl (z_vw c b a d d' Y19) H := by rw [e19]; exact hP
    have hD : va_D A (z_vw c b a d d' Y19) := by rw [e19]; exact hD
    clear e19
    refine lv_pop hx hb dL_would_84 rfl ?_
    refine lv_aload_n hx hb dL_would_85 rfl (lv_at hl 1 rfl) ?_
    refine lv_iload_n hx hb dL_would_86 rfl (lv_at hl 3 rfl) ?_
    obtain ⟨r20, u20, h20, hf⟩ := z_b2E hf
    refine z_xVi (As := [.int p2]) (rest := []) (wf := z_dw c b a) (g := Y19.1) (u0 := u20) ⟨hx, hb, hml, hown, hts⟩ (kX4_saves l D c N b a H.size Y19.1 p2 r20 u20 h20) (cwV 1 hts gL_would_X4_saves rfl rfl rfl (by decide +kernel) ⟨Nat.le_of_ble_eq_true rfl, Nat.le_of_ble_eq_true rfl⟩) hP hK hD hS hA (z_cutVD hD u20) (ci := 4) (q0 := 0) rfl rfl rfl rfl hl.1 (Nat.le_of_ble_eq_true rfl) rfl dL_would_87 ⟨(show _ ≤ 301 by omega), (show _ ≤ 1806 by omega)⟩ (fun H locs hP hD hS => ?_)
    obtain ⟨Y21, e21, hf⟩ := z_ltE hf
    have hP : va_P D vwCl (z_vw c b a d d' Y21) H := by rw [e21]; exact hP
    have hD : va_D A (z_vw c b a d d' Y21) := by rw [e21]; exact hD
    clear e21
    refine lv_iload hx hb dL_would_90 (lv_at hl 0 rfl) ?_
    refine lv_aload hx hb dL_would_92 (lv_at hl 7 rfl) ?_
    refine lv_iconst (v := (1 : Int32)) hx hb dL_would_94 (by decide) ?_
    refine va_iald hx hb hK.1 (z_subP hP z_inVR) 0 0 rfl rfl (z_inE (by decide)) dL_would_95 ?_
    refine lv_aload_n hx hb dL_would_96 rfl (lv_at hl 4 rfl) ?_
    refine lv_iconst (v := (1 : Int32)) hx hb dL_would_97 (by decide) ?_
    refine va_iald hx hb hK.1 (z_subP hP z_inVQ) 0 0 rfl rfl (z_inE (by decide)) dL_would_98 ?_
    refine lv_isub hx hb dL_would_99 ?_
    refine lv_isub hx hb dL_would_100 ?_
    refine lv_icmp_eq (tgt := 106) hx hb dL_would_101 (by decide) (fun c22 => ?_) (fun c22 => ?_)
    · have hf := z_ifT hf c22
      refine lv_iconst (v := (-1 : Int32)) hx hb dL_would_106 (by decide) ?_
      refine lv_istore (lv' := [(10, .int (-1 : Int32)), (9, .int ((Y8.2.2 0 ((1 : Int32)).toNatClampNeg) - (Y8.2.1 0 ((1 : Int32)).toNatClampNeg))), (0, .ref (b 0)), (1, .int p1), (2, .int p2), (3, .ref (d 0)), (4, .ref (d 1)), (5, .ref (d 2)), (6, .ref (d' 0)), (7, .ref (d' 1)), (8, .ref (d' 2))]) hx hb dL_would_107 hl (by decide) rfl (fun ls hl => ?_)
      refine lv_iconst (v := (0 : Int32)) hx hb dL_would_109 (by decide) ?_
      refine lv_istore (lv' := [(11, .int (0 : Int32)), (10, .int (-1 : Int32)), (9, .int ((Y8.2.2 0 ((1 : Int32)).toNatClampNeg) - (Y8.2.1 0 ((1 : Int32)).toNatClampNeg))), (0, .ref (b 0)), (1, .int p1), (2, .int p2), (3, .ref (d 0)), (4, .ref (d 1)), (5, .ref (d 2)), (6, .ref (d' 0)), (7, .ref (d' 1)), (8, .ref (d' 2))]) hx hb dL_would_110 hl (by decide) rfl (fun ls hl => ?_)
      refine lv_iconst (v := (0 : Int32)) hx hb dL_would_112 (by decide) ?_
      refine lv_istore (lv' := [(12, .int (0 : Int32)), (11, .int (0 : Int32)), (10, .int (-1 : Int32)), (9, .int ((Y8.2.2 0 ((1 : Int32)).toNatClampNeg) - (Y8.2.1 0 ((1 : Int32)).toNatClampNeg))), (0, .ref (b 0)), (1, .int p1), (2, .int p2), (3, .ref (d 0)), (4, .ref (d 1)), (5, .ref (d 2)), (6, .ref (d' 0)), (7, .ref (d' 1)), (8, .ref (d' 2))]) hx hb dL_would_113 hl (by decide) rfl (fun ls hl => ?_)
      exact L115 _ _ N _ _ _ _ hf H locs ls hP hD hS (lv_sub hl [4, 7, 8, 10, 11, 12, 5, 6, 2, 1, 0] rfl)
    · have hf := z_ifF hf c22
      refine lv_iconst (v := (0 : Int32)) hx hb dL_would_104 (by decide) ?_
      exact z_yz (wf := (z_vw c b a d d')) hx hb hr rfl hlocks hP hD hS hf (by omega) (by omega) dL_would_105
  · have hf := z_ifF hf c11
    refine lv_iconst (v := (0 : Int32)) hx hb dL_would_51 (by decide) ?_
    exact z_yz (wf := (z_vw c b a d d')) hx hb hr rfl hlocks hP hD hS hf (by omega) (by omega) dL_would_52
