set_option maxRecDepth 100000 in
set_option maxHeartbeats 16000000 in
theorem law_main {p : Program} {l : Launch} {e : Env} {s : State} {m : MethodId} {below : List Frame} {meth : Method} {co : Code} {D : va_G} {c : Nat → ClassId} {bS L : Nat} {xs : Nat → Int32} {N : Nat} {b : Nat → Nat} {a : Nat → Nat → Nat} {d d' : Nat → Nat} {A : Nat → Prop} (hlst : l.stackTraces = false) (C0 : lw_At p s m meth co bS L xs) (hAe : A = fun q : Nat => s.heap.size ≤ q) (hK : z_K D c s) (hE : z_EH A s s.heap) (Y : z_O) (hf : fL_main N L xs Y = some 1) (H : Heap) (locs : List Loc) (ls : Array Slot) (hP : va_P D vwCl (z_vw c b a d d' Y) H) (hD : va_D A (z_vw c b a d d' Y)) (hS : va_S A s.heap H locs) (hl : lv_has ls 16 [(0, .ref bS), (1, .ref (b 0)), (2, .ref (d 0)), (3, .ref (d 1)), (4, .ref (d 2)), (5, .ref (d' 0)), (6, .ref (d' 1)), (7, .ref (d' 2))]) : W p l e room_1 s m #[Value.ref bS] below meth co H locs (317) (18310) (lw_Z below #[Value.ref bS] s) (F0 m 42 ls []) := by
  obtain ⟨hx, hb, hr, hml, hown, hts, hX, hbl, hlocks, hgv⟩ := C0
  have htw : ∀ w ∈ wsL_law, w.before #[Value.ref bS] s = true := fun w h => hts w (wsL_law_in w h)
  have hA : ∀ q : Nat, s.heap.size ≤ q → A q := fun q h => by rw [hAe]; exact h
  have hbA : ¬ A bS := by rw [hAe]; exact Nat.not_le.mpr hbl
  have hSz : ∀ {locs : List Loc} {H : Heap}, va_S A s.heap H locs → va_S (fun q : Nat => s.heap.size ≤ q) s.heap H locs := fun h => by rw [← hAe]; exact h
  have L299 : ∀ (fu : Nat) (x8 : Int32) (Y : z_O), lL_law_299 N L xs fu x8 Y = some 1 → fu ≤ 300 → ∀ (H : Heap) (locs : List Loc) (ls : Array Slot), va_P D vwCl (z_vw c b a d d' Y) H → va_D A (z_vw c b a d d' Y) → va_S A s.heap H locs → lv_has ls 16 [(0, .ref bS), (1, .ref (b 0)), (2, .ref (d 0)), (3, .ref (d 1)), (4, .ref (d 2)), (5, .ref (d' 0)), (6, .ref (d' 1)), (7, .ref (d' 2)), (8, .int x8)] → W p l e room_1 s m #[Value.ref bS] below meth co H locs ((91517 - 304 * fu)) ((565510 - 1824 * fu)) (lw_Z below #[Value.ref bS] s) (F0 m 299 ls []) := by
    intro fu
    induction fu with
    | zero =>
      intro x8 Y hf
      have hf : (none : Option Int32) = some _ := hf
      cases hf
    | succ fu ih =>
      intro x8 Y hf hfu H locs ls hP hD hS hl
      have J676_299 : ∀ (x8 : Int32) (x9 : Int32) (x11 : Int32) (Y : z_O), jL_law_676_299 N L xs (lL_law_299 N L xs fu) x8 x9 x11 Y = some 1 → ∀ (H : Heap) (locs : List Loc) (ls : Array Slot), va_P D vwCl (z_vw c b a d d' Y) H → va_D A (z_vw c b a d d' Y) → va_S A s.heap H locs → lv_has ls 16 [(0, .ref bS), (1, .ref (b 0)), (2, .ref (d 0)), (3, .ref (d 1)), (4, .ref (d 2)), (5, .ref (d' 0)), (6, .ref (d' 1)), (7, .ref (d' 2)), (8, .int x8), (9, .int x9), (11, .int x11)] → W p l e room_1 s m #[Value.ref bS] below meth co H locs ((91517 - 304 * (fu + 1)) + 3) ((565510 - 1824 * (fu + 1)) + 18) (lw_Z below #[Value.ref bS] s) (F0 m 676 ls []) := by
        intro x8 x9 x11 Y hf H locs ls hP hD hS hl
        unfold jL_law_676_299 at hf
        refine lv_aload_n hx hb dL_law_676 rfl (lv_at hl 1 rfl) ?_
        refine lv_aload_n hx hb dL_law_677 rfl (lv_at hl 2 rfl) ?_
        refine lv_aload_n hx hb dL_law_678 rfl (lv_at hl 3 rfl) ?_
        refine lv_aload hx hb dL_law_679 (lv_at hl 4 rfl) ?_
        obtain ⟨r19, h19, hf⟩ := z_bE hf
        refine z_xSi (As := [.ref (b 0), .ref (d 0), .ref (d 1), .ref (d 2)]) (rest := []) (wf := z_nw c b a d) (g := (Y.1, Y.2.1)) (u0 := (Y.1, Y.2.1)) (V2 := (z_vw c b a d d' Y)) ⟨hx, hb, hml, hown, htw⟩ (kL_same l D c N b a d H.size (Y.1, Y.2.1) r19 h19) (va_cwS 4 htw gL_law_L_same rfl rfl rfl (by decide +kernel) ⟨Nat.le_of_ble_eq_true rfl, Nat.le_of_ble_eq_true rfl⟩) hP hK hD hS hA (z_cutVNp hD) rfl hl.1 (Nat.le_of_ble_eq_true rfl) rfl dL_law_681 ⟨(show _ ≤ 600086 by omega), (show _ ≤ 7301442 by omega)⟩ (fun H locs hP hD hS => ?_)
        refine lv_if_eq (tgt := 716) hx hb dL_law_684 (by decide) (fun c20 => ?_) (fun c20 => ?_)
        · have hf := z_ifT hf c20
          refine lv_iconst (v := (0 : Int32)) hx hb dL_law_716 (by decide) ?_
          exact absurd hf (by decide)
        · have hf := z_ifF hf c20
          refine lv_aload_n hx hb dL_law_687 rfl (lv_at hl 1 rfl) ?_
          refine lv_iload hx hb dL_law_688 (lv_at hl 10 rfl) ?_
          refine lv_iload hx hb dL_law_690 (lv_at hl 9 rfl) ?_
          refine lv_bipush (v := (16 : Int32)) hx hb dL_law_692 (by decide) ?_
          refine lv_ishr hx hb dL_law_694 ?_
          refine lv_bipush (v := (6 : Int32)) hx hb dL_law_695 (by decide) ?_
          obtain ⟨r21, h21, hf⟩ := z_bE hf
          refine z_cSi (As := [.int (x9 >>> ((16 : Int32) &&& 31)), .int (6 : Int32)]) (rest := [.int x11, .ref (b 0)]) ⟨hx, hb, hml, hown, htw⟩ (kL_low l D c N H.size (x9 >>> ((16 : Int32) &&& 31)) (6 : Int32) r21 h21) (va_cwS 2 htw gL_law_L_low rfl rfl rfl (by decide +kernel) ⟨Nat.le_of_ble_eq_true rfl, Nat.le_of_ble_eq_true rfl⟩) hP hK hS hA rfl hl.1 (Nat.le_of_ble_eq_true rfl) rfl dL_law_697 ⟨(show _ ≤ 600086 by omega), (show _ ≤ 7301442 by omega)⟩ (fun H locs hP hS => ?_)
          refine lv_aload_n hx hb dL_law_700 rfl (lv_at hl 2 rfl) ?_
          refine lv_aload_n hx hb dL_law_701 rfl (lv_at hl 3 rfl) ?_
          refine lv_aload hx hb dL_law_702 (lv_at hl 4 rfl) ?_
          refine lv_aload hx hb dL_law_704 (lv_at hl 5 rfl) ?_
          refine lv_aload hx hb dL_law_706 (lv_at hl 6 rfl) ?_
          refine lv_aload hx hb dL_law_708 (lv_at hl 7 rfl) ?_
          obtain ⟨r22, u22, h22, hf⟩ := z_b2E hf
          refine z_ySi (As := [.ref (b 0), .int x11, .int r21, .ref (d 0), .ref (d 1), .ref (d 2), .ref (d' 0), .ref (d' 1), .ref (d' 2)]) (rest := []) (wf := z_vw c b a d d') (g := Y) (u0 := u22) ⟨hx, hb, hml, hown, htw⟩ (kL_would l D c N b a d d' H.size Y x11 r21 r22 u22 h22) (va_cwS 9 htw gL_law_L_would rfl rfl rfl (by decide +kernel) ⟨Nat.le_of_ble_eq_true rfl, Nat.le_of_ble_eq_true rfl⟩) hP hK hD hS hA (z_cutV hD u22) rfl hl.1 (Nat.le_of_ble_eq_true rfl) rfl dL_law_710 ⟨(show _ ≤ 600086 by omega), (show _ ≤ 7301442 by omega)⟩ (fun H locs hP hD hS => ?_)
          refine lv_if_ne (tgt := 718) hx hb dL_law_713 (by decide) (fun c23 => ?_) (fun c23 => ?_)
          · have hf := z_ifF hf c23
            refine lv_iinc (v := (x8 + (1 : Int32))) (lv' := [(8, .int (x8 + (1 : Int32))), (0, .ref bS), (1, .ref (b 0)), (2, .ref (d 0)), (3, .ref (d 1)), (4, .ref (d 2)), (5, .ref (d' 0)), (6, .ref (d' 1)), (7, .ref (d' 2)), (9, .int x9), (11, .int x11)]) hx hb dL_law_718 hl (k := 8) rfl rfl (by decide) rfl (fun ls hl => ?_)
            refine lv_goto (tgt := 299) hx hb dL_law_721 (by decide) ?_
            refine W.widen (k := (91517 - 304 * fu)) (n := (565510 - 1824 * fu)) (by omega) (by omega) ?_
            exact ih _ _ hf (by omega) H locs ls hP hD hS (lv_sub hl [1, 2, 3, 4, 5, 6, 7, 8, 0] rfl)
          · have hf := z_ifT hf c23
            refine lv_iconst (v := (0 : Int32)) hx hb dL_law_716 (by decide) ?_
            exact absurd hf (by decide)
      have J355_299 : ∀ (x8 : Int32) (x9 : Int32) (x11 : Int32) (Y : z_O), jL_law_355_299 N L xs (lL_law_299 N L xs fu) x8 x9 x11 Y = some 1 → ∀ (H : Heap) (locs : List Loc) (ls : Array Slot), va_P D vwCl (z_vw c b a d d' Y) H → va_D A (z_vw c b a d d' Y) → va_S A s.heap H locs → lv_has ls 16 [(0, .ref bS), (1, .ref (b 0)), (2, .ref (d 0)), (3, .ref (d 1)), (4, .ref (d 2)), (5, .ref (d' 0)), (6, .ref (d' 1)), (7, .ref (d' 2)), (8, .int x8), (9, .int x9), (11, .int x11)] → W p l e room_1 s m #[Value.ref bS] below meth co H locs ((91517 - 304 * (fu + 1)) + 1) ((565510 - 1824 * (fu + 1)) + 6) (lw_Z below #[Value.ref bS] s) (F0 m 355 ls []) := by
        intro x8 x9 x11 Y hf H locs ls hP hD hS hl
        unfold jL_law_355_299 at hf
        refine lv_aload_n hx hb dL_law_355 rfl (lv_at hl 1 rfl) ?_
        obtain ⟨r14, u14, h14, hf⟩ := z_b2E hf
        refine z_xVi (As := []) (rest := []) (wf := z_dw c b a) (g := Y.1) (u0 := u14) ⟨hx, hb, hml, hown, htw⟩ (kX4_lay l D c N b a H.size Y.1  r14 u14 h14) (cwV 0 htw gL_law_X4_lay rfl rfl rfl (by decide +kernel) ⟨Nat.le_of_ble_eq_true rfl, Nat.le_of_ble_eq_true rfl⟩) hP hK hD hS hA (z_cutVD hD u14) (ci := 4) (q0 := 0) rfl rfl rfl rfl hl.1 (Nat.le_of_ble_eq_true rfl) rfl dL_law_356 ⟨(show _ ≤ 600086 by omega), (show _ ≤ 7301442 by omega)⟩ (fun H locs hP hD hS => ?_)
        obtain ⟨Y15, e15, hf⟩ := z_ltE hf
        have hP : va_P D vwCl (z_vw c b a d d' Y15) H := by rw [e15]; exact hP
        have hD : va_D A (z_vw c b a d d' Y15) := by rw [e15]; exact hD
        clear e15
        refine lv_aload_n hx hb dL_law_359 rfl (lv_at hl 2 rfl) ?_
        refine lv_aload_n hx hb dL_law_360 rfl (lv_at hl 3 rfl) ?_
        obtain ⟨r16, u16, h16, hf⟩ := z_b2E hf
        refine z_ySi (As := [.ref (d 0), .ref (d 1)]) (rest := [.int r14]) (wf := z_q3 c d) (g := Y15.2.1) (u0 := u16) ⟨hx, hb, hml, hown, htw⟩ (kL_lay l D c N d H.size (Y15.2.1)  r16 u16 h16) (va_cwS 2 htw gL_law_L_lay rfl rfl rfl (by decide +kernel) ⟨Nat.le_of_ble_eq_true rfl, Nat.le_of_ble_eq_true rfl⟩) hP hK hD hS hA (z_cutVQ hD u16) rfl hl.1 (Nat.le_of_ble_eq_true rfl) rfl dL_law_361 ⟨(show _ ≤ 600086 by omega), (show _ ≤ 7301442 by omega)⟩ (fun H locs hP hD hS => ?_)
        obtain ⟨Y17, e17, hf⟩ := z_ltE hf
        have hP : va_P D vwCl (z_vw c b a d d' Y17) H := by rw [e17]; exact hP
        have hD : va_D A (z_vw c b a d d' Y17) := by rw [e17]; exact hD
        clear e17
        refine lv_icmp_eq (tgt := 676) hx hb dL_law_364 (by decide) (fun c18 => ?_) (fun c18 => ?_)
        · have hf := z_ifT hf c18
          refine W.widen (k := (91517 - 304 * (fu + 1)) + 3) (n := (565510 - 1824 * (fu + 1)) + 18) (by omega) (by omega) ?_
          exact J676_299 _ _ _ _ hf H locs ls hP hD hS (lv_sub hl [0, 1, 2, 3, 4, 5, 6, 7, 8, 9, 10] rfl)
        · have hf := z_ifF hf c18
          refine lv_iconst (v := (0 : Int32)) hx hb dL_law_367 (by decide) ?_
          exact absurd hf (by decide)
      have J510_299 : ∀ (x8 : Int32) (x9 : Int32) (x11 : Int32) (Y : z_O), jL_law_510_299 N L xs (lL_law_299 N L xs fu) x8 x9 x11 Y = some 1 → ∀ (H : Heap) (locs : List Loc) (ls : Array Slot), va_P D vwCl (z_vw c b a d d' Y) H → va_D A (z_vw c b a d d' Y) → va_S A s.heap H locs → lv_has ls 16 [(0, .ref bS), (1, .ref (b 0)), (2, .ref (d 0)), (3, .ref (d 1)), (4, .ref (d 2)), (5, .ref (d' 0)), (6, .ref (d' 1)), (7, .ref (d' 2)), (8, .int x8), (9, .int x9), (11, .int x11)] → W p l e room_1 s m #[Value.ref bS] below meth co H locs ((91517 - 304 * (fu + 1)) + 1) ((565510 - 1824 * (fu + 1)) + 6) (lw_Z below #[Value.ref bS] s) (F0 m 510 ls []) := by
        intro x8 x9 x11 Y hf H locs ls hP hD hS hl
        unfold jL_law_510_299 at hf
        refine lv_goto (tgt := 676) hx hb dL_law_510 (by decide) ?_
        refine W.widen (k := (91517 - 304 * (fu + 1)) + 3) (n := (565510 - 1824 * (fu + 1)) + 18) (by omega) (by omega) ?_
        exact J676_299 _ _ _ _ hf H locs ls hP hD hS (lv_sub hl [0, 1, 2, 3, 4, 5, 6, 7, 8, 9, 10] rfl)
      have J487_299 : ∀ (x8 : Int32) (x9 : Int32) (x11 : Int32) (x12 : Int32) (x13 : Int32) (Y : z_O), jL_law_487_299 N L xs (lL_law_299 N L xs fu) x8 x9 x11 x12 x13 Y = some 1 → ∀ (H : Heap) (locs : List Loc) (ls : Array Slot), va_P D vwCl (z_vw c b a d d' Y) H → va_D A (z_vw c b a d d' Y) → va_S A s.heap H locs → lv_has ls 16 [(0, .ref bS), (1, .ref (b 0)), (2, .ref (d 0)), (3, .ref (d 1)), (4, .ref (d 2)), (5, .ref (d' 0)), (6, .ref (d' 1)), (7, .ref (d' 2)), (8, .int x8), (9, .int x9), (11, .int x11), (12, .int x12), (13, .int x13)] → W p l e room_1 s m #[Value.ref bS] below meth co H locs ((91517 - 304 * (fu + 1)) + 1) ((565510 - 1824 * (fu + 1)) + 6) (lw_Z below #[Value.ref bS] s) (F0 m 487 ls []) := by
        intro x8 x9 x11 x12 x13 Y hf H locs ls hP hD hS hl
        unfold jL_law_487_299 at hf
        refine lv_iload hx hb dL_law_487 (lv_at hl 10 rfl) ?_
        refine lv_aload_n hx hb dL_law_489 rfl (lv_at hl 2 rfl) ?_
        refine lv_aload_n hx hb dL_law_490 rfl (lv_at hl 3 rfl) ?_
        obtain ⟨u74, h74, hf⟩ := z_bE hf
        refine z_xSv (As := [.int x11, .ref (d 0), .ref (d 1)]) (rest := []) (wf := z_q3 c d) (g := Y.2.1) (u0 := u74) ⟨hx, hb, hml, hown, htw⟩ (kL_refund l D c N d H.size (Y.2.1) x11 u74 h74) (va_cwS 3 htw gL_law_L_refund rfl rfl rfl (by decide +kernel) ⟨Nat.le_of_ble_eq_true rfl, Nat.le_of_ble_eq_true rfl⟩) hP hK hD hS hA (z_cutVQ hD u74) rfl hl.1 (Nat.le_of_ble_eq_true rfl) rfl dL_law_491 ⟨(show _ ≤ 600086 by omega), (show _ ≤ 7301442 by omega)⟩ (fun H locs hP hD hS => ?_)
        obtain ⟨Y75, e75, hf⟩ := z_ltE hf
        have hP : va_P D vwCl (z_vw c b a d d' Y75) H := by rw [e75]; exact hP
        have hD : va_D A (z_vw c b a d d' Y75) := by rw [e75]; exact hD
        clear e75
        refine lv_aload_n hx hb dL_law_494 rfl (lv_at hl 3 rfl) ?_
        refine lv_iload hx hb dL_law_495 (lv_at hl 11 rfl) ?_
        refine lv_iconst (v := (5 : Int32)) hx hb dL_law_497 (by decide) ?_
        refine lv_iadd hx hb dL_law_498 ?_
        refine lv_iload hx hb dL_law_499 (lv_at hl 12 rfl) ?_
        obtain ⟨b76, hf⟩ := z_ckE hf
        refine va_iast hx hb hK.1 hP hD hS 312 0 z_vAt1 rfl (z_inE b76) dL_law_501 (fun H locs hP hD hS => ?_)
        obtain ⟨Y77, e77, hf⟩ := z_ltE hf
        have hP : va_P D vwCl (z_vw c b a d d' Y77) H := by rw [e77, ← z_vSet1]; exact hP
        have hD : va_D A (z_vw c b a d d' Y77) := by rw [e77, ← z_vSet1]; exact hD
        clear e77
        refine lv_aload_n hx hb dL_law_502 rfl (lv_at hl 3 rfl) ?_
        refine lv_iload hx hb dL_law_503 (lv_at hl 11 rfl) ?_
        refine lv_bipush (v := (6 : Int32)) hx hb dL_law_505 (by decide) ?_
        refine lv_iadd hx hb dL_law_507 ?_
        refine lv_iconst (v := (-1 : Int32)) hx hb dL_law_508 (by decide) ?_
        obtain ⟨b78, hf⟩ := z_ckE hf
        refine va_iast hx hb hK.1 hP hD hS 312 0 z_vAt1 rfl (z_inE b78) dL_law_509 (fun H locs hP hD hS => ?_)
        obtain ⟨Y79, e79, hf⟩ := z_ltE hf
        have hP : va_P D vwCl (z_vw c b a d d' Y79) H := by rw [e79, ← z_vSet1]; exact hP
        have hD : va_D A (z_vw c b a d d' Y79) := by rw [e79, ← z_vSet1]; exact hD
        clear e79
        exact J510_299 _ _ _ _ hf H locs ls hP hD hS (lv_sub hl [0, 1, 2, 3, 4, 5, 6, 7, 8, 9, 10] rfl)
      rw [lL_law_299.eq_2] at hf
      refine lv_iload hx hb dL_law_299 (lv_at hl 8 rfl) ?_
      refine lv_bipush (v := (9 : Int32)) hx hb dL_law_301 (by decide) ?_
      refine lv_icmp_ge (tgt := 724) hx hb dL_law_303 (by decide) (fun c9 => ?_) (fun c9 => ?_)
      · have hf := z_ifT hf c9
        refine lv_iconst (v := (1 : Int32)) hx hb dL_law_724 (by decide) ?_
        refine va_forget (fun q hq => (hSz hS).2.2 q hq) ?_
        refine W.widen (k := 600086) (n := 7301442) (by omega) (by omega) ?_
        exact lw_ret hx hb hr hlocks dL_law_725
      · have hf := z_ifF hf c9
        refine lv_aload_n hx hb dL_law_306 rfl (lv_at hl 0 rfl) ?_
        refine lv_bipush (v := (7 : Int32)) hx hb dL_law_307 (by decide) ?_
        refine lv_iload hx hb dL_law_309 (lv_at hl 8 rfl) ?_
        refine lv_iadd hx hb dL_law_311 ?_
        obtain ⟨r10, h10, hf⟩ := z_bE hf
        refine z_xX (As := [.ref bS, .int ((7 : Int32) + x8)]) (rest := []) ⟨hx, hb, hml, hown, htw⟩ (kL_cell l D N bS L xs H.size ((7 : Int32) + x8) r10 h10) (va_cwS 2 htw gL_law_L_cell rfl rfl rfl (by decide +kernel) ⟨Nat.le_of_ble_eq_true rfl, Nat.le_of_ble_eq_true rfl⟩) hP hX hbl hbA hS hA rfl hl.1 (Nat.le_of_ble_eq_true rfl) rfl dL_law_312 ⟨(show _ ≤ 600086 by omega), (show _ ≤ 7301442 by omega)⟩ (fun H locs hP hS => ?_)
        refine lv_istore (lv' := [(9, .int r10), (0, .ref bS), (1, .ref (b 0)), (2, .ref (d 0)), (3, .ref (d 1)), (4, .ref (d 2)), (5, .ref (d' 0)), (6, .ref (d' 1)), (7, .ref (d' 2)), (8, .int x8)]) hx hb dL_law_315 hl (by decide) rfl (fun ls hl => ?_)
        refine lv_iload hx hb dL_law_317 (lv_at hl 0 rfl) ?_
        refine lv_bipush (v := (8 : Int32)) hx hb dL_law_319 (by decide) ?_
        obtain ⟨r11, h11, hf⟩ := z_bE hf
        refine z_cSi (As := [.int r10, .int (8 : Int32)]) (rest := []) ⟨hx, hb, hml, hown, htw⟩ (kL_low l D c N H.size r10 (8 : Int32) r11 h11) (va_cwS 2 htw gL_law_L_low rfl rfl rfl (by decide +kernel) ⟨Nat.le_of_ble_eq_true rfl, Nat.le_of_ble_eq_true rfl⟩) hP hK hS hA rfl hl.1 (Nat.le_of_ble_eq_true rfl) rfl dL_law_321 ⟨(show _ ≤ 600086 by omega), (show _ ≤ 7301442 by omega)⟩ (fun H locs hP hS => ?_)
        refine lv_istore (lv' := [(10, .int r11), (9, .int r10), (0, .ref bS), (1, .ref (b 0)), (2, .ref (d 0)), (3, .ref (d 1)), (4, .ref (d 2)), (5, .ref (d' 0)), (6, .ref (d' 1)), (7, .ref (d' 2)), (8, .int x8)]) hx hb dL_law_324 hl (by decide) rfl (fun ls hl => ?_)
        refine lv_iload hx hb dL_law_326 (lv_at hl 1 rfl) ?_
        refine lv_iconst (v := (3 : Int32)) hx hb dL_law_328 (by decide) ?_
        refine lv_ishr hx hb dL_law_329 ?_
        refine lv_bipush (v := (6 : Int32)) hx hb dL_law_330 (by decide) ?_
        obtain ⟨r12, h12, hf⟩ := z_bE hf
        refine z_cSi (As := [.int (r10 >>> ((3 : Int32) &&& 31)), .int (6 : Int32)]) (rest := []) ⟨hx, hb, hml, hown, htw⟩ (kL_low l D c N H.size (r10 >>> ((3 : Int32) &&& 31)) (6 : Int32) r12 h12) (va_cwS 2 htw gL_law_L_low rfl rfl rfl (by decide +kernel) ⟨Nat.le_of_ble_eq_true rfl, Nat.le_of_ble_eq_true rfl⟩) hP hK hS hA rfl hl.1 (Nat.le_of_ble_eq_true rfl) rfl dL_law_332 ⟨(show _ ≤ 600086 by omega), (show _ ≤ 7301442 by omega)⟩ (fun H locs hP hS => ?_)
        refine lv_istore (lv' := [(11, .int r12), (10, .int r11), (9, .int r10), (0, .ref bS), (1, .ref (b 0)), (2, .ref (d 0)), (3, .ref (d 1)), (4, .ref (d 2)), (5, .ref (d' 0)), (6, .ref (d' 1)), (7, .ref (d' 2)), (8, .int x8)]) hx hb dL_law_335 hl (by decide) rfl (fun ls hl => ?_)
        refine lv_bipush (v := (9 : Int32)) hx hb dL_law_337 (by decide) ?_
        refine lv_iload hx hb dL_law_339 (lv_at hl 0 rfl) ?_
        refine lv_imul hx hb dL_law_341 ?_
        refine lv_istore (lv' := [(12, .int ((9 : Int32) * r12)), (11, .int r12), (10, .int r11), (9, .int r10), (0, .ref bS), (1, .ref (b 0)), (2, .ref (d 0)), (3, .ref (d 1)), (4, .ref (d 2)), (5, .ref (d' 0)), (6, .ref (d' 1)), (7, .ref (d' 2)), (8, .int x8)]) hx hb dL_law_342 hl (by decide) rfl (fun ls hl => ?_)
        refine lv_iload hx hb dL_law_344 (lv_at hl 2 rfl) ?_
        refine lv_iconst (v := (2 : Int32)) hx hb dL_law_346 (by decide) ?_
        refine lv_icmp_lt (tgt := 355) hx hb dL_law_347 (by decide) (fun c13 => ?_) (fun c13 => ?_)
        · have hf := z_ifT hf c13
          refine W.widen (k := (91517 - 304 * (fu + 1)) + 1) (n := (565510 - 1824 * (fu + 1)) + 6) (by omega) (by omega) ?_
          exact J355_299 _ _ _ _ hf H locs ls hP hD hS (lv_sub hl [4, 5, 6, 7, 8, 9, 10, 11, 12, 3, 1] rfl)
        · have hf := z_ifF hf c13
          refine lv_iload hx hb dL_law_350 (lv_at hl 12 rfl) ?_
          refine lv_if_ne (tgt := 369) hx hb dL_law_352 (by decide) (fun c24 => ?_) (fun c24 => ?_)
          · have hf := z_ifF hf c24
            refine lv_iload hx hb dL_law_369 (lv_at hl 2 rfl) ?_
            refine lv_iconst (v := (5 : Int32)) hx hb dL_law_371 (by decide) ?_
            refine lv_icmp_ge (tgt := 407) hx hb dL_law_372 (by decide) (fun c25 => ?_) (fun c25 => ?_)
            · have hf := z_ifT hf c25
              refine lv_iload hx hb dL_law_407 (lv_at hl 2 rfl) ?_
              refine lv_iconst (v := (5 : Int32)) hx hb dL_law_409 (by decide) ?_
              refine lv_icmp_ne (tgt := 513) hx hb dL_law_410 (by decide) (fun c26 => ?_) (fun c26 => ?_)
              · have hf := z_ifF hf c26
                refine lv_iload hx hb dL_law_513 (lv_at hl 2 rfl) ?_
                refine lv_bipush (v := (6 : Int32)) hx hb dL_law_515 (by decide) ?_
                refine lv_icmp_ne (tgt := 563) hx hb dL_law_517 (by decide) (fun c27 => ?_) (fun c27 => ?_)
                · have hf := z_ifF hf c27
                  refine lv_iload hx hb dL_law_563 (lv_at hl 3 rfl) ?_
                  refine lv_bipush (v := (6 : Int32)) hx hb dL_law_565 (by decide) ?_
                  refine lv_ishr hx hb dL_law_567 ?_
                  refine lv_iconst (v := (5 : Int32)) hx hb dL_law_568 (by decide) ?_
                  obtain ⟨r28, h28, hf⟩ := z_bE hf
                  refine z_cSi (As := [.int (r10 >>> ((6 : Int32) &&& 31)), .int (5 : Int32)]) (rest := []) ⟨hx, hb, hml, hown, htw⟩ (kL_low l D c N H.size (r10 >>> ((6 : Int32) &&& 31)) (5 : Int32) r28 h28) (va_cwS 2 htw gL_law_L_low rfl rfl rfl (by decide +kernel) ⟨Nat.le_of_ble_eq_true rfl, Nat.le_of_ble_eq_true rfl⟩) hP hK hS hA rfl hl.1 (Nat.le_of_ble_eq_true rfl) rfl dL_law_569 ⟨(show _ ≤ 600086 by omega), (show _ ≤ 7301442 by omega)⟩ (fun H locs hP hS => ?_)
                  refine lv_istore (lv' := [(13, .int r28), (12, .int ((9 : Int32) * r12)), (11, .int r12), (10, .int r11), (9, .int r10), (0, .ref bS), (1, .ref (b 0)), (2, .ref (d 0)), (3, .ref (d 1)), (4, .ref (d 2)), (5, .ref (d' 0)), (6, .ref (d' 1)), (7, .ref (d' 2)), (8, .int x8)]) hx hb dL_law_572 hl (by decide) rfl (fun ls hl => ?_)
                  refine lv_iload hx hb dL_law_574 (lv_at hl 0 rfl) ?_
                  refine lv_if_ne (tgt := 591) hx hb dL_law_576 (by decide) (fun c29 => ?_) (fun c29 => ?_)
                  · have hf := z_ifF hf c29
                    refine lv_iload hx hb dL_law_591 (lv_at hl 0 rfl) ?_
                    refine lv_iconst (v := (1 : Int32)) hx hb dL_law_593 (by decide) ?_
                    refine lv_icmp_ne (tgt := 612) hx hb dL_law_594 (by decide) (fun c30 => ?_) (fun c30 => ?_)
                    · have hf := z_ifF hf c30
                      refine lv_iload hx hb dL_law_612 (lv_at hl 0 rfl) ?_
                      refine lv_iconst (v := (4 : Int32)) hx hb dL_law_614 (by decide) ?_
                      refine lv_icmp_ne (tgt := 631) hx hb dL_law_615 (by decide) (fun c31 => ?_) (fun c31 => ?_)
                      · have hf := z_ifF hf c31
                        refine lv_iload hx hb dL_law_631 (lv_at hl 4 rfl) ?_
                        refine lv_bipush (v := (9 : Int32)) hx hb dL_law_633 (by decide) ?_
                        refine lv_ishr hx hb dL_law_635 ?_
                        refine lv_bipush (v := (9 : Int32)) hx hb dL_law_636 (by decide) ?_
                        obtain ⟨r32, h32, hf⟩ := z_bE hf
                        refine z_cSi (As := [.int (r10 >>> ((9 : Int32) &&& 31)), .int (9 : Int32)]) (rest := []) ⟨hx, hb, hml, hown, htw⟩ (kL_low l D c N H.size (r10 >>> ((9 : Int32) &&& 31)) (9 : Int32) r32 h32) (va_cwS 2 htw gL_law_L_low rfl rfl rfl (by decide +kernel) ⟨Nat.le_of_ble_eq_true rfl, Nat.le_of_ble_eq_true rfl⟩) hP hK hS hA rfl hl.1 (Nat.le_of_ble_eq_true rfl) rfl dL_law_638 ⟨(show _ ≤ 600086 by omega), (show _ ≤ 7301442 by omega)⟩ (fun H locs hP hS => ?_)
                        refine lv_iconst (v := (1 : Int32)) hx hb dL_law_641 (by decide) ?_
                        refine lv_isub hx hb dL_law_642 ?_
                        refine lv_istore (lv' := [(14, .int (r32 - (1 : Int32))), (13, .int r28), (12, .int ((9 : Int32) * r12)), (11, .int r12), (10, .int r11), (9, .int r10), (0, .ref bS), (1, .ref (b 0)), (2, .ref (d 0)), (3, .ref (d 1)), (4, .ref (d 2)), (5, .ref (d' 0)), (6, .ref (d' 1)), (7, .ref (d' 2)), (8, .int x8)]) hx hb dL_law_643 hl (by decide) rfl (fun ls hl => ?_)
                        refine lv_aload_n hx hb dL_law_645 rfl (lv_at hl 7 rfl) ?_
                        refine lv_iload hx hb dL_law_646 (lv_at hl 3 rfl) ?_
                        refine lv_iload hx hb dL_law_648 (lv_at hl 1 rfl) ?_
                        refine lv_iload hx hb dL_law_650 (lv_at hl 0 rfl) ?_
                        obtain ⟨r33, u33, h33, hf⟩ := z_b2E hf
                        refine z_xVi (As := [.int r12, .int r28, .int (r32 - (1 : Int32))]) (rest := []) (wf := z_dw c b a) (g := Y.1) (u0 := u33) ⟨hx, hb, hml, hown, htw⟩ (kX4_change l D c N b a H.size Y.1 r12 r28 (r32 - (1 : Int32)) r33 u33 h33) (cwV 3 htw gL_law_X4_change rfl rfl rfl (by decide +kernel) ⟨Nat.le_of_ble_eq_true rfl, Nat.le_of_ble_eq_true rfl⟩) hP hK hD hS hA (z_cutVD hD u33) (ci := 4) (q0 := 0) rfl rfl rfl rfl hl.1 (Nat.le_of_ble_eq_true rfl) rfl dL_law_652 ⟨(show _ ≤ 600086 by omega), (show _ ≤ 7301442 by omega)⟩ (fun H locs hP hD hS => ?_)
                        obtain ⟨Y34, e34, hf⟩ := z_ltE hf
                        have hP : va_P D vwCl (z_vw c b a d d' Y34) H := by rw [e34]; exact hP
                        have hD : va_D A (z_vw c b a d d' Y34) := by rw [e34]; exact hD
                        clear e34
                        refine lv_aload_n hx hb dL_law_655 rfl (lv_at hl 9 rfl) ?_
                        refine lv_iload hx hb dL_law_656 (lv_at hl 2 rfl) ?_
                        refine lv_iload hx hb dL_law_658 (lv_at hl 1 rfl) ?_
                        refine lv_iadd hx hb dL_law_660 ?_
                        obtain ⟨b35, hf⟩ := z_ckE hf
                        refine va_iald hx hb hK.1 (z_subP hP z_inVQ) 1 0 rfl rfl (z_inE b35) dL_law_661 ?_
                        refine lv_icmp_eq (tgt := 667) hx hb dL_law_662 (by decide) (fun c36 => ?_) (fun c36 => ?_)
                        · have hf := z_ifT hf c36
                          refine lv_aload_n hx hb dL_law_667 rfl (lv_at hl 9 rfl) ?_
                          refine lv_iload hx hb dL_law_668 (lv_at hl 2 rfl) ?_
                          refine lv_iload hx hb dL_law_670 (lv_at hl 1 rfl) ?_
                          refine lv_iadd hx hb dL_law_672 ?_
                          refine lv_iload hx hb dL_law_673 (lv_at hl 0 rfl) ?_
                          obtain ⟨b37, hf⟩ := z_ckE hf
                          refine va_iast hx hb hK.1 hP hD hS 312 0 z_vAt1 rfl (z_inE b37) dL_law_675 (fun H locs hP hD hS => ?_)
                          obtain ⟨Y38, e38, hf⟩ := z_ltE hf
                          have hP : va_P D vwCl (z_vw c b a d d' Y38) H := by rw [e38, ← z_vSet1]; exact hP
                          have hD : va_D A (z_vw c b a d d' Y38) := by rw [e38, ← z_vSet1]; exact hD
                          clear e38
                          refine W.widen (k := (91517 - 304 * (fu + 1)) + 3) (n := (565510 - 1824 * (fu + 1)) + 18) (by omega) (by omega) ?_
                          exact J676_299 _ _ _ _ hf H locs ls hP hD hS (lv_sub hl [6, 7, 8, 9, 10, 11, 12, 13, 14, 5, 3] rfl)
                        · have hf := z_ifF hf c36
                          refine lv_iconst (v := (0 : Int32)) hx hb dL_law_665 (by decide) ?_
                          exact absurd hf (by decide)
                      · have hf := z_ifT hf c31
                        refine lv_iload hx hb dL_law_618 (lv_at hl 4 rfl) ?_
                        refine lv_bipush (v := (9 : Int32)) hx hb dL_law_620 (by decide) ?_
                        refine lv_ishr hx hb dL_law_622 ?_
                        refine lv_bipush (v := (100 : Int32)) hx hb dL_law_623 (by decide) ?_
                        obtain ⟨r39, h39, hf⟩ := z_bE hf
                        refine z_cSi (As := [.int (r10 >>> ((9 : Int32) &&& 31)), .int (100 : Int32)]) (rest := []) ⟨hx, hb, hml, hown, htw⟩ (kL_low l D c N H.size (r10 >>> ((9 : Int32) &&& 31)) (100 : Int32) r39 h39) (va_cwS 2 htw gL_law_L_low rfl rfl rfl (by decide +kernel) ⟨Nat.le_of_ble_eq_true rfl, Nat.le_of_ble_eq_true rfl⟩) hP hK hS hA rfl hl.1 (Nat.le_of_ble_eq_true rfl) rfl dL_law_625 ⟨(show _ ≤ 600086 by omega), (show _ ≤ 7301442 by omega)⟩ (fun H locs hP hS => ?_)
                        refine lv_goto (tgt := 643) hx hb dL_law_628 (by decide) ?_
                        refine lv_istore (lv' := [(14, .int r39), (13, .int r28), (12, .int ((9 : Int32) * r12)), (11, .int r12), (10, .int r11), (9, .int r10), (0, .ref bS), (1, .ref (b 0)), (2, .ref (d 0)), (3, .ref (d 1)), (4, .ref (d 2)), (5, .ref (d' 0)), (6, .ref (d' 1)), (7, .ref (d' 2)), (8, .int x8)]) hx hb dL_law_643 hl (by decide) rfl (fun ls hl => ?_)
                        refine lv_aload_n hx hb dL_law_645 rfl (lv_at hl 7 rfl) ?_
                        refine lv_iload hx hb dL_law_646 (lv_at hl 3 rfl) ?_
                        refine lv_iload hx hb dL_law_648 (lv_at hl 1 rfl) ?_
                        refine lv_iload hx hb dL_law_650 (lv_at hl 0 rfl) ?_
                        obtain ⟨r40, u40, h40, hf⟩ := z_b2E hf
                        refine z_xVi (As := [.int r12, .int r28, .int r39]) (rest := []) (wf := z_dw c b a) (g := Y.1) (u0 := u40) ⟨hx, hb, hml, hown, htw⟩ (kX4_change l D c N b a H.size Y.1 r12 r28 r39 r40 u40 h40) (cwV 3 htw gL_law_X4_change rfl rfl rfl (by decide +kernel) ⟨Nat.le_of_ble_eq_true rfl, Nat.le_of_ble_eq_true rfl⟩) hP hK hD hS hA (z_cutVD hD u40) (ci := 4) (q0 := 0) rfl rfl rfl rfl hl.1 (Nat.le_of_ble_eq_true rfl) rfl dL_law_652 ⟨(show _ ≤ 600086 by omega), (show _ ≤ 7301442 by omega)⟩ (fun H locs hP hD hS => ?_)
                        obtain ⟨Y41, e41, hf⟩ := z_ltE hf
                        have hP : va_P D vwCl (z_vw c b a d d' Y41) H := by rw [e41]; exact hP
                        have hD : va_D A (z_vw c b a d d' Y41) := by rw [e41]; exact hD
                        clear e41
                        refine lv_aload_n hx hb dL_law_655 rfl (lv_at hl 9 rfl) ?_
                        refine lv_iload hx hb dL_law_656 (lv_at hl 2 rfl) ?_
                        refine lv_iload hx hb dL_law_658 (lv_at hl 1 rfl) ?_
                        refine lv_iadd hx hb dL_law_660 ?_
                        obtain ⟨b42, hf⟩ := z_ckE hf
                        refine va_iald hx hb hK.1 (z_subP hP z_inVQ) 1 0 rfl rfl (z_inE b42) dL_law_661 ?_
                        refine lv_icmp_eq (tgt := 667) hx hb dL_law_662 (by decide) (fun c43 => ?_) (fun c43 => ?_)
                        · have hf := z_ifT hf c43
                          refine lv_aload_n hx hb dL_law_667 rfl (lv_at hl 9 rfl) ?_
                          refine lv_iload hx hb dL_law_668 (lv_at hl 2 rfl) ?_
                          refine lv_iload hx hb dL_law_670 (lv_at hl 1 rfl) ?_
                          refine lv_iadd hx hb dL_law_672 ?_
                          refine lv_iload hx hb dL_law_673 (lv_at hl 0 rfl) ?_
                          obtain ⟨b44, hf⟩ := z_ckE hf
                          refine va_iast hx hb hK.1 hP hD hS 312 0 z_vAt1 rfl (z_inE b44) dL_law_675 (fun H locs hP hD hS => ?_)
                          obtain ⟨Y45, e45, hf⟩ := z_ltE hf
                          have hP : va_P D vwCl (z_vw c b a d d' Y45) H := by rw [e45, ← z_vSet1]; exact hP
                          have hD : va_D A (z_vw c b a d d' Y45) := by rw [e45, ← z_vSet1]; exact hD
                          clear e45
                          refine W.widen (k := (91517 - 304 * (fu + 1)) + 3) (n := (565510 - 1824 * (fu + 1)) + 18) (by omega) (by omega) ?_
                          exact J676_299 _ _ _ _ hf H locs ls hP hD hS (lv_sub hl [6, 7, 8, 9, 10, 11, 12, 13, 14, 5, 3] rfl)
                        · have hf := z_ifF hf c43
                          refine lv_iconst (v := (0 : Int32)) hx hb dL_law_665 (by decide) ?_
                          exact absurd hf (by decide)
                    · have hf := z_ifT hf c30
                      refine lv_iconst (v := (1 : Int32)) hx hb dL_law_597 (by decide) ?_
                      refine lv_iload hx hb dL_law_598 (lv_at hl 4 rfl) ?_
                      refine lv_bipush (v := (9 : Int32)) hx hb dL_law_600 (by decide) ?_
                      refine lv_ishr hx hb dL_law_602 ?_
                      refine lv_bipush (v := (9 : Int32)) hx hb dL_law_603 (by decide) ?_
                      obtain ⟨r46, h46, hf⟩ := z_bE hf
                      refine z_cSi (As := [.int (r10 >>> ((9 : Int32) &&& 31)), .int (9 : Int32)]) (rest := [.int (1 : Int32)]) ⟨hx, hb, hml, hown, htw⟩ (kL_low l D c N H.size (r10 >>> ((9 : Int32) &&& 31)) (9 : Int32) r46 h46) (va_cwS 2 htw gL_law_L_low rfl rfl rfl (by decide +kernel) ⟨Nat.le_of_ble_eq_true rfl, Nat.le_of_ble_eq_true rfl⟩) hP hK hS hA rfl hl.1 (Nat.le_of_ble_eq_true rfl) rfl dL_law_605 ⟨(show _ ≤ 600086 by omega), (show _ ≤ 7301442 by omega)⟩ (fun H locs hP hS => ?_)
                      refine lv_iadd hx hb dL_law_608 ?_
                      refine lv_goto (tgt := 643) hx hb dL_law_609 (by decide) ?_
                      refine lv_istore (lv' := [(14, .int ((1 : Int32) + r46)), (13, .int r28), (12, .int ((9 : Int32) * r12)), (11, .int r12), (10, .int r11), (9, .int r10), (0, .ref bS), (1, .ref (b 0)), (2, .ref (d 0)), (3, .ref (d 1)), (4, .ref (d 2)), (5, .ref (d' 0)), (6, .ref (d' 1)), (7, .ref (d' 2)), (8, .int x8)]) hx hb dL_law_643 hl (by decide) rfl (fun ls hl => ?_)
                      refine lv_aload_n hx hb dL_law_645 rfl (lv_at hl 7 rfl) ?_
                      refine lv_iload hx hb dL_law_646 (lv_at hl 3 rfl) ?_
                      refine lv_iload hx hb dL_law_648 (lv_at hl 1 rfl) ?_
                      refine lv_iload hx hb dL_law_650 (lv_at hl 0 rfl) ?_
                      obtain ⟨r47, u47, h47, hf⟩ := z_b2E hf
                      refine z_xVi (As := [.int r12, .int r28, .int ((1 : Int32) + r46)]) (rest := []) (wf := z_dw c b a) (g := Y.1) (u0 := u47) ⟨hx, hb, hml, hown, htw⟩ (kX4_change l D c N b a H.size Y.1 r12 r28 ((1 : Int32) + r46) r47 u47 h47) (cwV 3 htw gL_law_X4_change rfl rfl rfl (by decide +kernel) ⟨Nat.le_of_ble_eq_true rfl, Nat.le_of_ble_eq_true rfl⟩) hP hK hD hS hA (z_cutVD hD u47) (ci := 4) (q0 := 0) rfl rfl rfl rfl hl.1 (Nat.le_of_ble_eq_true rfl) rfl dL_law_652 ⟨(show _ ≤ 600086 by omega), (show _ ≤ 7301442 by omega)⟩ (fun H locs hP hD hS => ?_)
                      obtain ⟨Y48, e48, hf⟩ := z_ltE hf
                      have hP : va_P D vwCl (z_vw c b a d d' Y48) H := by rw [e48]; exact hP
                      have hD : va_D A (z_vw c b a d d' Y48) := by rw [e48]; exact hD
                      clear e48
                      refine lv_aload_n hx hb dL_law_655 rfl (lv_at hl 9 rfl) ?_
                      refine lv_iload hx hb dL_law_656 (lv_at hl 2 rfl) ?_
                      refine lv_iload hx hb dL_law_658 (lv_at hl 1 rfl) ?_
                      refine lv_iadd hx hb dL_law_660 ?_
                      obtain ⟨b49, hf⟩ := z_ckE hf
                      refine va_iald hx hb hK.1 (z_subP hP z_inVQ) 1 0 rfl rfl (z_inE b49) dL_law_661 ?_
                      refine lv_icmp_eq (tgt := 667) hx hb dL_law_662 (by decide) (fun c50 => ?_) (fun c50 => ?_)
                      · have hf := z_ifT hf c50
                        refine lv_aload_n hx hb dL_law_667 rfl (lv_at hl 9 rfl) ?_
                        refine lv_iload hx hb dL_law_668 (lv_at hl 2 rfl) ?_
                        refine lv_iload hx hb dL_law_670 (lv_at hl 1 rfl) ?_
                        refine lv_iadd hx hb dL_law_672 ?_
                        refine lv_iload hx hb dL_law_673 (lv_at hl 0 rfl) ?_
                        obtain ⟨b51, hf⟩ := z_ckE hf
                        refine va_iast hx hb hK.1 hP hD hS 312 0 z_vAt1 rfl (z_inE b51) dL_law_675 (fun H locs hP hD hS => ?_)
                        obtain ⟨Y52, e52, hf⟩ := z_ltE hf
                        have hP : va_P D vwCl (z_vw c b a d d' Y52) H := by rw [e52, ← z_vSet1]; exact hP
                        have hD : va_D A (z_vw c b a d d' Y52) := by rw [e52, ← z_vSet1]; exact hD
                        clear e52
                        refine W.widen (k := (91517 - 304 * (fu + 1)) + 3) (n := (565510 - 1824 * (fu + 1)) + 18) (by omega) (by omega) ?_
                        exact J676_299 _ _ _ _ hf H locs ls hP hD hS (lv_sub hl [6, 7, 8, 9, 10, 11, 12, 13, 14, 5, 3] rfl)
                      · have hf := z_ifF hf c50
                        refine lv_iconst (v := (0 : Int32)) hx hb dL_law_665 (by decide) ?_
                        exact absurd hf (by decide)
                  · have hf := z_ifT hf c29
                    refine lv_iload hx hb dL_law_579 (lv_at hl 4 rfl) ?_
                    refine lv_bipush (v := (9 : Int32)) hx hb dL_law_581 (by decide) ?_
                    refine lv_ishr hx hb dL_law_583 ?_
                    refine lv_iconst (v := (4 : Int32)) hx hb dL_law_584 (by decide) ?_
                    obtain ⟨r53, h53, hf⟩ := z_bE hf
                    refine z_cSi (As := [.int (r10 >>> ((9 : Int32) &&& 31)), .int (4 : Int32)]) (rest := []) ⟨hx, hb, hml, hown, htw⟩ (kL_low l D c N H.size (r10 >>> ((9 : Int32) &&& 31)) (4 : Int32) r53 h53) (va_cwS 2 htw gL_law_L_low rfl rfl rfl (by decide +kernel) ⟨Nat.le_of_ble_eq_true rfl, Nat.le_of_ble_eq_true rfl⟩) hP hK hS hA rfl hl.1 (Nat.le_of_ble_eq_true rfl) rfl dL_law_585 ⟨(show _ ≤ 600086 by omega), (show _ ≤ 7301442 by omega)⟩ (fun H locs hP hS => ?_)
                    refine lv_goto (tgt := 643) hx hb dL_law_588 (by decide) ?_
                    refine lv_istore (lv' := [(14, .int r53), (13, .int r28), (12, .int ((9 : Int32) * r12)), (11, .int r12), (10, .int r11), (9, .int r10), (0, .ref bS), (1, .ref (b 0)), (2, .ref (d 0)), (3, .ref (d 1)), (4, .ref (d 2)), (5, .ref (d' 0)), (6, .ref (d' 1)), (7, .ref (d' 2)), (8, .int x8)]) hx hb dL_law_643 hl (by decide) rfl (fun ls hl => ?_)
                    refine lv_aload_n hx hb dL_law_645 rfl (lv_at hl 7 rfl) ?_
                    refine lv_iload hx hb dL_law_646 (lv_at hl 3 rfl) ?_
                    refine lv_iload hx hb dL_law_648 (lv_at hl 1 rfl) ?_
                    refine lv_iload hx hb dL_law_650 (lv_at hl 0 rfl) ?_
                    obtain ⟨r54, u54, h54, hf⟩ := z_b2E hf
                    refine z_xVi (As := [.int r12, .int r28, .int r53]) (rest := []) (wf := z_dw c b a) (g := Y.1) (u0 := u54) ⟨hx, hb, hml, hown, htw⟩ (kX4_change l D c N b a H.size Y.1 r12 r28 r53 r54 u54 h54) (cwV 3 htw gL_law_X4_change rfl rfl rfl (by decide +kernel) ⟨Nat.le_of_ble_eq_true rfl, Nat.le_of_ble_eq_true rfl⟩) hP hK hD hS hA (z_cutVD hD u54) (ci := 4) (q0 := 0) rfl rfl rfl rfl hl.1 (Nat.le_of_ble_eq_true rfl) rfl dL_law_652 ⟨(show _ ≤ 600086 by omega), (show _ ≤ 7301442 by omega)⟩ (fun H locs hP hD hS => ?_)
                    obtain ⟨Y55, e55, hf⟩ := z_ltE hf
                    have hP : va_P D vwCl (z_vw c b a d d' Y55) H := by rw [e55]; exact hP
                    have hD : va_D A (z_vw c b a d d' Y55) := by rw [e55]; exact hD
                    clear e55
                    refine lv_aload_n hx hb dL_law_655 rfl (lv_at hl 9 rfl) ?_
                    refine lv_iload hx hb dL_law_656 (lv_at hl 2 rfl) ?_
                    refine lv_iload hx hb dL_law_658 (lv_at hl 1 rfl) ?_
                    refine lv_iadd hx hb dL_law_660 ?_
                    obtain ⟨b56, hf⟩ := z_ckE hf
                    refine va_iald hx hb hK.1 (z_subP hP z_inVQ) 1 0 rfl rfl (z_inE b56) dL_law_661 ?_
                    refine lv_icmp_eq (tgt := 667) hx hb dL_law_662 (by decide) (fun c57 => ?_) (fun c57 => ?_)
                    · have hf := z_ifT hf c57
                      refine lv_aload_n hx hb dL_law_667 rfl (lv_at hl 9 rfl) ?_
                      refine lv_iload hx hb dL_law_668 (lv_at hl 2 rfl) ?_
                      refine lv_iload hx hb dL_law_670 (lv_at hl 1 rfl) ?_
                      refine lv_iadd hx hb dL_law_672 ?_
                      refine lv_iload hx hb dL_law_673 (lv_at hl 0 rfl) ?_
                      obtain ⟨b58, hf⟩ := z_ckE hf
                      refine va_iast hx hb hK.1 hP hD hS 312 0 z_vAt1 rfl (z_inE b58) dL_law_675 (fun H locs hP hD hS => ?_)
                      obtain ⟨Y59, e59, hf⟩ := z_ltE hf
                      have hP : va_P D vwCl (z_vw c b a d d' Y59) H := by rw [e59, ← z_vSet1]; exact hP
                      have hD : va_D A (z_vw c b a d d' Y59) := by rw [e59, ← z_vSet1]; exact hD
                      clear e59
                      refine W.widen (k := (91517 - 304 * (fu + 1)) + 3) (n := (565510 - 1824 * (fu + 1)) + 18) (by omega) (by omega) ?_
                      exact J676_299 _ _ _ _ hf H locs ls hP hD hS (lv_sub hl [6, 7, 8, 9, 10, 11, 12, 13, 14, 5, 3] rfl)
                    · have hf := z_ifF hf c57
                      refine lv_iconst (v := (0 : Int32)) hx hb dL_law_665 (by decide) ?_
                      exact absurd hf (by decide)
                · have hf := z_ifT hf c27
                  refine lv_iconst (v := (1 : Int32)) hx hb dL_law_520 (by decide) ?_
                  refine lv_iload hx hb dL_law_521 (lv_at hl 3 rfl) ?_
                  refine lv_bipush (v := (6 : Int32)) hx hb dL_law_523 (by decide) ?_
                  refine lv_ishr hx hb dL_law_525 ?_
                  refine lv_bipush (v := (99 : Int32)) hx hb dL_law_526 (by decide) ?_
                  obtain ⟨r60, h60, hf⟩ := z_bE hf
                  refine z_cSi (As := [.int (r10 >>> ((6 : Int32) &&& 31)), .int (99 : Int32)]) (rest := [.int (1 : Int32)]) ⟨hx, hb, hml, hown, htw⟩ (kL_low l D c N H.size (r10 >>> ((6 : Int32) &&& 31)) (99 : Int32) r60 h60) (va_cwS 2 htw gL_law_L_low rfl rfl rfl (by decide +kernel) ⟨Nat.le_of_ble_eq_true rfl, Nat.le_of_ble_eq_true rfl⟩) hP hK hS hA rfl hl.1 (Nat.le_of_ble_eq_true rfl) rfl dL_law_528 ⟨(show _ ≤ 600086 by omega), (show _ ≤ 7301442 by omega)⟩ (fun H locs hP hS => ?_)
                  refine lv_iadd hx hb dL_law_531 ?_
                  refine lv_istore (lv' := [(13, .int ((1 : Int32) + r60)), (12, .int ((9 : Int32) * r12)), (11, .int r12), (10, .int r11), (9, .int r10), (0, .ref bS), (1, .ref (b 0)), (2, .ref (d 0)), (3, .ref (d 1)), (4, .ref (d 2)), (5, .ref (d' 0)), (6, .ref (d' 1)), (7, .ref (d' 2)), (8, .int x8)]) hx hb dL_law_532 hl (by decide) rfl (fun ls hl => ?_)
                  refine lv_aload_n hx hb dL_law_534 rfl (lv_at hl 7 rfl) ?_
                  refine lv_iconst (v := (1 : Int32)) hx hb dL_law_535 (by decide) ?_
                  refine lv_dup2_11 hx hb dL_law_536 rfl rfl ?_
                  refine va_iald hx hb hK.1 (z_subP hP z_inVQ) 0 0 rfl rfl (z_inE (by decide)) dL_law_537 ?_
                  refine lv_iload hx hb dL_law_538 (lv_at hl 0 rfl) ?_
                  refine lv_iadd hx hb dL_law_540 ?_
                  refine va_iast hx hb hK.1 hP hD hS 311 0 z_vAt0 rfl (z_inE (by decide)) dL_law_541 (fun H locs hP hD hS => ?_)
                  obtain ⟨Y61, e61, hf⟩ := z_ltE hf
                  have hP : va_P D vwCl (z_vw c b a d d' Y61) H := by rw [e61, ← z_vSet0]; exact hP
                  have hD : va_D A (z_vw c b a d d' Y61) := by rw [e61, ← z_vSet0]; exact hD
                  clear e61
                  refine lv_aload_n hx hb dL_law_542 rfl (lv_at hl 6 rfl) ?_
                  refine lv_iload hx hb dL_law_543 (lv_at hl 0 rfl) ?_
                  obtain ⟨r62, u62, h62, hf⟩ := z_b2E hf
                  refine z_xVi (As := [.int ((1 : Int32) + r60)]) (rest := []) (wf := z_dw c b a) (g := Y61.1) (u0 := u62) ⟨hx, hb, hml, hown, htw⟩ (kX4_turn l D c N b a H.size Y61.1 ((1 : Int32) + r60) r62 u62 h62) (cwV 1 htw gL_law_X4_turn rfl rfl rfl (by decide +kernel) ⟨Nat.le_of_ble_eq_true rfl, Nat.le_of_ble_eq_true rfl⟩) hP hK hD hS hA (z_cutVD hD u62) (ci := 4) (q0 := 0) rfl rfl rfl rfl hl.1 (Nat.le_of_ble_eq_true rfl) rfl dL_law_545 ⟨(show _ ≤ 600086 by omega), (show _ ≤ 7301442 by omega)⟩ (fun H locs hP hD hS => ?_)
                  obtain ⟨Y63, e63, hf⟩ := z_ltE hf
                  have hP : va_P D vwCl (z_vw c b a d d' Y63) H := by rw [e63]; exact hP
                  have hD : va_D A (z_vw c b a d d' Y63) := by rw [e63]; exact hD
                  clear e63
                  refine lv_aload_n hx hb dL_law_548 rfl (lv_at hl 7 rfl) ?_
                  refine lv_iconst (v := (1 : Int32)) hx hb dL_law_549 (by decide) ?_
                  refine va_iald hx hb hK.1 (z_subP hP z_inVQ) 0 0 rfl rfl (z_inE (by decide)) dL_law_550 ?_
                  refine lv_aload_n hx hb dL_law_551 rfl (lv_at hl 7 rfl) ?_
                  refine lv_iconst (v := (0 : Int32)) hx hb dL_law_552 (by decide) ?_
                  refine va_iald hx hb hK.1 (z_subP hP z_inVQ) 0 0 rfl rfl (z_inE (by decide)) dL_law_553 ?_
                  obtain ⟨b64, hf⟩ := z_ckE hf
                  refine lv_irem hx hb dL_law_554 (z_nzE b64) ?_
                  refine lv_icmp_eq (tgt := 560) hx hb dL_law_555 (by decide) (fun c65 => ?_) (fun c65 => ?_)
                  · have hf := z_ifT hf c65
                    refine lv_goto (tgt := 676) hx hb dL_law_560 (by decide) ?_
                    refine W.widen (k := (91517 - 304 * (fu + 1)) + 3) (n := (565510 - 1824 * (fu + 1)) + 18) (by omega) (by omega) ?_
                    exact J676_299 _ _ _ _ hf H locs ls hP hD hS (lv_sub hl [5, 6, 7, 8, 9, 10, 11, 12, 13, 4, 2] rfl)
                  · have hf := z_ifF hf c65
                    refine lv_iconst (v := (0 : Int32)) hx hb dL_law_558 (by decide) ?_
                    exact absurd hf (by decide)
              · have hf := z_ifT hf c26
                refine lv_iload hx hb dL_law_413 (lv_at hl 3 rfl) ?_
                refine lv_bipush (v := (6 : Int32)) hx hb dL_law_415 (by decide) ?_
                refine lv_ishr hx hb dL_law_417 ?_
                refine lv_aload_n hx hb dL_law_418 rfl (lv_at hl 6 rfl) ?_
                refine lv_iconst (v := (0 : Int32)) hx hb dL_law_419 (by decide) ?_
                refine va_iald hx hb hK.1 (z_subP hP z_inVQ) 0 0 rfl rfl (z_inE (by decide)) dL_law_420 ?_
                obtain ⟨r66, h66, hf⟩ := z_bE hf
                refine z_cSi (As := [.int (r10 >>> ((6 : Int32) &&& 31)), .int (Y.2.1 0 ((0 : Int32)).toNatClampNeg)]) (rest := []) ⟨hx, hb, hml, hown, htw⟩ (kL_low l D c N H.size (r10 >>> ((6 : Int32) &&& 31)) (Y.2.1 0 ((0 : Int32)).toNatClampNeg) r66 h66) (va_cwS 2 htw gL_law_L_low rfl rfl rfl (by decide +kernel) ⟨Nat.le_of_ble_eq_true rfl, Nat.le_of_ble_eq_true rfl⟩) hP hK hS hA rfl hl.1 (Nat.le_of_ble_eq_true rfl) rfl dL_law_421 ⟨(show _ ≤ 600086 by omega), (show _ ≤ 7301442 by omega)⟩ (fun H locs hP hS => ?_)
                refine lv_istore (lv' := [(13, .int r66), (12, .int ((9 : Int32) * r12)), (11, .int r12), (10, .int r11), (9, .int r10), (0, .ref bS), (1, .ref (b 0)), (2, .ref (d 0)), (3, .ref (d 1)), (4, .ref (d 2)), (5, .ref (d' 0)), (6, .ref (d' 1)), (7, .ref (d' 2)), (8, .int x8)]) hx hb dL_law_424 hl (by decide) rfl (fun ls hl => ?_)
                refine lv_iload hx hb dL_law_426 (lv_at hl 0 rfl) ?_
                refine lv_aload_n hx hb dL_law_428 rfl (lv_at hl 8 rfl) ?_
                obtain ⟨r67, h67, hf⟩ := z_bE hf
                refine z_xSi (As := [.int r66, .ref (d 1)]) (rest := []) (wf := z_q3 c d) (g := Y.2.1) (u0 := Y.2.1) (V2 := (z_vw c b a d d' Y)) ⟨hx, hb, hml, hown, htw⟩ (kL_at l D c N d H.size (Y.2.1) r66 r67 h67) (va_cwS 2 htw gL_law_L_at rfl rfl rfl (by decide +kernel) ⟨Nat.le_of_ble_eq_true rfl, Nat.le_of_ble_eq_true rfl⟩) hP hK hD hS hA (z_cutVQp hD) rfl hl.1 (Nat.le_of_ble_eq_true rfl) rfl dL_law_429 ⟨(show _ ≤ 600086 by omega), (show _ ≤ 7301442 by omega)⟩ (fun H locs hP hD hS => ?_)
                refine lv_istore (lv' := [(14, .int r67), (13, .int r66), (12, .int ((9 : Int32) * r12)), (11, .int r12), (10, .int r11), (9, .int r10), (0, .ref bS), (1, .ref (b 0)), (2, .ref (d 0)), (3, .ref (d 1)), (4, .ref (d 2)), (5, .ref (d' 0)), (6, .ref (d' 1)), (7, .ref (d' 2)), (8, .int x8)]) hx hb dL_law_432 hl (by decide) rfl (fun ls hl => ?_)
                refine lv_aload_n hx hb dL_law_434 rfl (lv_at hl 9 rfl) ?_
                refine lv_iload hx hb dL_law_435 (lv_at hl 2 rfl) ?_
                refine lv_bipush (v := (7 : Int32)) hx hb dL_law_437 (by decide) ?_
                refine lv_iadd hx hb dL_law_439 ?_
                obtain ⟨b68, hf⟩ := z_ckE hf
                refine va_iald hx hb hK.1 (z_subP hP z_inVQ) 1 0 rfl rfl (z_inE b68) dL_law_440 ?_
                refine lv_istore (lv' := [(15, .int (Y.2.1 1 ((((9 : Int32) * r12) + (7 : Int32))).toNatClampNeg)), (14, .int r67), (13, .int r66), (12, .int ((9 : Int32) * r12)), (11, .int r12), (10, .int r11), (9, .int r10), (0, .ref bS), (1, .ref (b 0)), (2, .ref (d 0)), (3, .ref (d 1)), (4, .ref (d 2)), (5, .ref (d' 0)), (6, .ref (d' 1)), (7, .ref (d' 2)), (8, .int x8)]) hx hb dL_law_441 hl (by decide) rfl (fun ls hl => ?_)
                refine lv_aload_n hx hb dL_law_443 rfl (lv_at hl 8 rfl) ?_
                refine lv_iload hx hb dL_law_444 (lv_at hl 4 rfl) ?_
                refine lv_iload hx hb dL_law_446 (lv_at hl 2 rfl) ?_
                obtain ⟨r69, u69, h69, hf⟩ := z_b2E hf
                refine z_xH (As := [.ref (b 0), .int r12, .int r66]) (rest := []) (wf := z_dw c b a) (g := Y.1) (u0 := u69) ⟨hx, hb, hml, hown, htw⟩ (kL_move l hlst D c N b a H.size Y.1 r12 r66 r69 u69 h69) (vx_cwSW 3 htw gL_law_L_move rfl rfl rfl (by decide +kernel) ⟨Nat.le_of_ble_eq_true rfl, Nat.le_of_ble_eq_true rfl⟩) hP hK hD hS hA (hE.kept (fun q h1 h2 => hS.2.1 q h1 h2) (fun _ h => h)) (z_cutVD hD u69) rfl hl.1 (Nat.le_of_ble_eq_true rfl) rfl dL_law_448 ⟨(show _ ≤ 600086 by omega), (show _ ≤ 7301442 by omega)⟩ (fun H locs hP hD hS => ?_)
                obtain ⟨Y70, e70, hf⟩ := z_ltE hf
                have hP : va_P D vwCl (z_vw c b a d d' Y70) H := by rw [e70]; exact hP
                have hD : va_D A (z_vw c b a d d' Y70) := by rw [e70]; exact hD
                clear e70
                refine lv_iload hx hb dL_law_451 (lv_at hl 1 rfl) ?_
                refine lv_if_lt (tgt := 468) hx hb dL_law_453 (by decide) (fun c71 => ?_) (fun c71 => ?_)
                · have hf := z_ifT hf c71
                  refine lv_iload hx hb dL_law_468 (lv_at hl 0 rfl) ?_
                  refine lv_icmp_eq (tgt := 475) hx hb dL_law_470 (by decide) (fun c72 => ?_) (fun c72 => ?_)
                  · have hf := z_ifT hf c72
                    refine lv_iload hx hb dL_law_475 (lv_at hl 1 rfl) ?_
                    refine lv_if_lt (tgt := 487) hx hb dL_law_477 (by decide) (fun c73 => ?_) (fun c73 => ?_)
                    · have hf := z_ifT hf c73
                      exact J487_299 _ _ _ _ _ _ hf H locs ls hP hD hS (lv_sub hl [7, 8, 9, 10, 11, 12, 13, 14, 15, 6, 4, 3, 2] rfl)
                    · have hf := z_ifF hf c73
                      refine lv_iload hx hb dL_law_480 (lv_at hl 1 rfl) ?_
                      refine lv_iload hx hb dL_law_482 (lv_at hl 4 rfl) ?_
                      refine lv_icmp_ne (tgt := 510) hx hb dL_law_484 (by decide) (fun c80 => ?_) (fun c80 => ?_)
                      · have hf := z_ifF hf c80
                        exact J510_299 _ _ _ _ hf H locs ls hP hD hS (lv_sub hl [7, 8, 9, 10, 11, 12, 13, 14, 15, 6, 4] rfl)
                      · have hf := z_ifT hf c80
                        exact J487_299 _ _ _ _ _ _ hf H locs ls hP hD hS (lv_sub hl [7, 8, 9, 10, 11, 12, 13, 14, 15, 6, 4, 3, 2] rfl)
                  · have hf := z_ifF hf c72
                    refine lv_iconst (v := (0 : Int32)) hx hb dL_law_473 (by decide) ?_
                    exact absurd hf (by decide)
                · have hf := z_ifF hf c71
                  refine lv_iload hx hb dL_law_456 (lv_at hl 1 rfl) ?_
                  refine lv_iload hx hb dL_law_458 (lv_at hl 4 rfl) ?_
                  refine lv_icmp_eq (tgt := 468) hx hb dL_law_460 (by decide) (fun c81 => ?_) (fun c81 => ?_)
                  · have hf := z_ifT hf c81
                    refine lv_iload hx hb dL_law_468 (lv_at hl 0 rfl) ?_
                    refine lv_icmp_eq (tgt := 475) hx hb dL_law_470 (by decide) (fun c82 => ?_) (fun c82 => ?_)
                    · have hf := z_ifT hf c82
                      refine lv_iload hx hb dL_law_475 (lv_at hl 1 rfl) ?_
                      refine lv_if_lt (tgt := 487) hx hb dL_law_477 (by decide) (fun c83 => ?_) (fun c83 => ?_)
                      · have hf := z_ifT hf c83
                        exact J487_299 _ _ _ _ _ _ hf H locs ls hP hD hS (lv_sub hl [7, 8, 9, 10, 11, 12, 13, 14, 15, 6, 4, 3, 2] rfl)
                      · have hf := z_ifF hf c83
                        refine lv_iload hx hb dL_law_480 (lv_at hl 1 rfl) ?_
                        refine lv_iload hx hb dL_law_482 (lv_at hl 4 rfl) ?_
                        refine lv_icmp_ne (tgt := 510) hx hb dL_law_484 (by decide) (fun c84 => ?_) (fun c84 => ?_)
                        · have hf := z_ifF hf c84
                          exact J510_299 _ _ _ _ hf H locs ls hP hD hS (lv_sub hl [7, 8, 9, 10, 11, 12, 13, 14, 15, 6, 4] rfl)
                        · have hf := z_ifT hf c84
                          exact J487_299 _ _ _ _ _ _ hf H locs ls hP hD hS (lv_sub hl [7, 8, 9, 10, 11, 12, 13, 14, 15, 6, 4, 3, 2] rfl)
                    · have hf := z_ifF hf c82
                      refine lv_iconst (v := (0 : Int32)) hx hb dL_law_473 (by decide) ?_
                      exact absurd hf (by decide)
                  · have hf := z_ifF hf c81
                    refine lv_bipush (v := (-2 : Int32)) hx hb dL_law_463 (by decide) ?_
                    refine lv_goto (tgt := 470) hx hb dL_law_465 (by decide) ?_
                    refine lv_icmp_eq (tgt := 475) hx hb dL_law_470 (by decide) (fun c85 => ?_) (fun c85 => ?_)
                    · have hf := z_ifT hf c85
                      refine lv_iload hx hb dL_law_475 (lv_at hl 1 rfl) ?_
                      refine lv_if_lt (tgt := 487) hx hb dL_law_477 (by decide) (fun c86 => ?_) (fun c86 => ?_)
                      · have hf := z_ifT hf c86
                        exact J487_299 _ _ _ _ _ _ hf H locs ls hP hD hS (lv_sub hl [7, 8, 9, 10, 11, 12, 13, 14, 15, 6, 4, 3, 2] rfl)
                      · have hf := z_ifF hf c86
                        refine lv_iload hx hb dL_law_480 (lv_at hl 1 rfl) ?_
                        refine lv_iload hx hb dL_law_482 (lv_at hl 4 rfl) ?_
                        refine lv_icmp_ne (tgt := 510) hx hb dL_law_484 (by decide) (fun c87 => ?_) (fun c87 => ?_)
                        · have hf := z_ifF hf c87
                          exact J510_299 _ _ _ _ hf H locs ls hP hD hS (lv_sub hl [7, 8, 9, 10, 11, 12, 13, 14, 15, 6, 4] rfl)
                        · have hf := z_ifT hf c87
                          exact J487_299 _ _ _ _ _ _ hf H locs ls hP hD hS (lv_sub hl [7, 8, 9, 10, 11, 12, 13, 14, 15, 6, 4, 3, 2] rfl)
                    · have hf := z_ifF hf c85
                      refine lv_iconst (v := (0 : Int32)) hx hb dL_law_473 (by decide) ?_
                      exact absurd hf (by decide)
            · have hf := z_ifF hf c25
              refine lv_iload hx hb dL_law_375 (lv_at hl 1 rfl) ?_
              refine lv_aload_n hx hb dL_law_377 rfl (lv_at hl 6 rfl) ?_
              refine lv_aload_n hx hb dL_law_378 rfl (lv_at hl 7 rfl) ?_
              refine lv_aload hx hb dL_law_379 (lv_at hl 8 rfl) ?_
              obtain ⟨r88, u88, h88, hf⟩ := z_b2E hf
              refine z_xSi (As := [.int r12, .ref (d 0), .ref (d 1), .ref (d 2)]) (rest := []) (wf := z_q3 c d) (g := Y.2.1) (u0 := u88) ⟨hx, hb, hml, hown, htw⟩ (kL_run l D c N d H.size (Y.2.1) r12 r88 u88 h88) (va_cwS 4 htw gL_law_L_run rfl rfl rfl (by decide +kernel) ⟨Nat.le_of_ble_eq_true rfl, Nat.le_of_ble_eq_true rfl⟩) hP hK hD hS hA (z_cutVQ hD u88) rfl hl.1 (Nat.le_of_ble_eq_true rfl) rfl dL_law_381 ⟨(show _ ≤ 600086 by omega), (show _ ≤ 7301442 by omega)⟩ (fun H locs hP hD hS => ?_)
              obtain ⟨Y89, e89, hf⟩ := z_ltE hf
              have hP : va_P D vwCl (z_vw c b a d d' Y89) H := by rw [e89]; exact hP
              have hD : va_D A (z_vw c b a d d' Y89) := by rw [e89]; exact hD
              clear e89
              refine lv_istore (lv' := [(13, .int r88), (12, .int ((9 : Int32) * r12)), (11, .int r12), (10, .int r11), (9, .int r10), (0, .ref bS), (1, .ref (b 0)), (2, .ref (d 0)), (3, .ref (d 1)), (4, .ref (d 2)), (5, .ref (d' 0)), (6, .ref (d' 1)), (7, .ref (d' 2)), (8, .int x8)]) hx hb dL_law_384 hl (by decide) rfl (fun ls hl => ?_)
              refine lv_iload hx hb dL_law_386 (lv_at hl 0 rfl) ?_
              refine lv_if_lt (tgt := 402) hx hb dL_law_388 (by decide) (fun c90 => ?_) (fun c90 => ?_)
              · have hf := z_ifT hf c90
                refine lv_iconst (v := (0 : Int32)) hx hb dL_law_402 (by decide) ?_
                exact absurd hf (by decide)
              · have hf := z_ifF hf c90
                refine lv_aload_n hx hb dL_law_391 rfl (lv_at hl 6 rfl) ?_
                refine lv_iload hx hb dL_law_392 (lv_at hl 2 rfl) ?_
                obtain ⟨r91, u91, h91, hf⟩ := z_b2E hf
                refine z_xVi (As := [.int r12]) (rest := []) (wf := z_dw c b a) (g := Y89.1) (u0 := u91) ⟨hx, hb, hml, hown, htw⟩ (kX4_run l D c N b a H.size Y89.1 r12 r91 u91 h91) (cwV 1 htw gL_law_X4_run rfl rfl rfl (by decide +kernel) ⟨Nat.le_of_ble_eq_true rfl, Nat.le_of_ble_eq_true rfl⟩) hP hK hD hS hA (z_cutVD hD u91) (ci := 4) (q0 := 0) rfl rfl rfl rfl hl.1 (Nat.le_of_ble_eq_true rfl) rfl dL_law_394 ⟨(show _ ≤ 600086 by omega), (show _ ≤ 7301442 by omega)⟩ (fun H locs hP hD hS => ?_)
                obtain ⟨Y92, e92, hf⟩ := z_ltE hf
                have hP : va_P D vwCl (z_vw c b a d d' Y92) H := by rw [e92]; exact hP
                have hD : va_D A (z_vw c b a d d' Y92) := by rw [e92]; exact hD
                clear e92
                refine lv_iload hx hb dL_law_397 (lv_at hl 0 rfl) ?_
                refine lv_icmp_eq (tgt := 404) hx hb dL_law_399 (by decide) (fun c93 => ?_) (fun c93 => ?_)
                · have hf := z_ifT hf c93
                  refine lv_goto (tgt := 676) hx hb dL_law_404 (by decide) ?_
                  refine W.widen (k := (91517 - 304 * (fu + 1)) + 3) (n := (565510 - 1824 * (fu + 1)) + 18) (by omega) (by omega) ?_
                  exact J676_299 _ _ _ _ hf H locs ls hP hD hS (lv_sub hl [5, 6, 7, 8, 9, 10, 11, 12, 13, 4, 2] rfl)
                · have hf := z_ifF hf c93
                  refine lv_iconst (v := (0 : Int32)) hx hb dL_law_402 (by decide) ?_
                  exact absurd hf (by decide)
          · have hf := z_ifT hf c24
            refine W.widen (k := (91517 - 304 * (fu + 1)) + 1) (n := (565510 - 1824 * (fu + 1)) + 6) (by omega) (by omega) ?_
            exact J355_299 _ _ _ _ hf H locs ls hP hD hS (lv_sub hl [4, 5, 6, 7, 8, 9, 10, 11, 12, 3, 1] rfl)
  have L79 : ∀ (fu : Nat) (x8 : Int32) (Y : z_O), lL_law_79 N L xs fu x8 Y = some 1 → ∀ (H : Heap) (locs : List Loc) (ls : Array Slot), va_P D vwCl (z_vw c b a d d' Y) H → va_D A (z_vw c b a d d' Y) → va_S A s.heap H locs → lv_has ls 16 [(0, .ref bS), (1, .ref (b 0)), (2, .ref (d 0)), (3, .ref (d 1)), (4, .ref (d 2)), (5, .ref (d' 0)), (6, .ref (d' 1)), (7, .ref (d' 2)), (8, .int x8)] → W p l e room_1 s m #[Value.ref bS] below meth co H locs (317) (18310) (lw_Z below #[Value.ref bS] s) (F0 m 79 ls []) := by
    intro fu
    induction fu with
    | zero =>
      intro x8 Y hf
      have hf : (none : Option Int32) = some _ := hf
      cases hf
    | succ fu ih =>
      intro x8 Y hf H locs ls hP hD hS hl
      rw [lL_law_79.eq_2] at hf
      refine lv_iload hx hb dL_law_79 (lv_at hl 8 rfl) ?_
      refine lv_bipush (v := (6 : Int32)) hx hb dL_law_81 (by decide) ?_
      refine lv_icmp_ge (tgt := 296) hx hb dL_law_83 (by decide) (fun c8 => ?_) (fun c8 => ?_)
      · have hf := z_ifT hf c8
        refine lv_iconst (v := (0 : Int32)) hx hb dL_law_296 (by decide) ?_
        refine lv_istore (lv' := [(8, .int (0 : Int32)), (0, .ref bS), (1, .ref (b 0)), (2, .ref (d 0)), (3, .ref (d 1)), (4, .ref (d 2)), (5, .ref (d' 0)), (6, .ref (d' 1)), (7, .ref (d' 2))]) hx hb dL_law_297 hl (by decide) rfl (fun ls hl => ?_)
        refine W.widen (k := (91517 - 304 * 300)) (n := (565510 - 1824 * 300)) (by omega) (by omega) ?_
        exact L299 300 _ _ hf (Nat.le_refl 300) H locs ls hP hD hS (lv_sub hl [1, 2, 3, 4, 5, 6, 7, 8, 0] rfl)
      · have hf := z_ifF hf c8
        refine lv_aload_n hx hb dL_law_86 rfl (lv_at hl 0 rfl) ?_
        refine lv_iconst (v := (1 : Int32)) hx hb dL_law_87 (by decide) ?_
        refine lv_iload hx hb dL_law_88 (lv_at hl 8 rfl) ?_
        refine lv_iadd hx hb dL_law_90 ?_
        obtain ⟨r94, h94, hf⟩ := z_bE hf
        refine z_xX (As := [.ref bS, .int ((1 : Int32) + x8)]) (rest := []) ⟨hx, hb, hml, hown, htw⟩ (kL_cell l D N bS L xs H.size ((1 : Int32) + x8) r94 h94) (va_cwS 2 htw gL_law_L_cell rfl rfl rfl (by decide +kernel) ⟨Nat.le_of_ble_eq_true rfl, Nat.le_of_ble_eq_true rfl⟩) hP hX hbl hbA hS hA rfl hl.1 (Nat.le_of_ble_eq_true rfl) rfl dL_law_91 ⟨(show _ ≤ 600086 by omega), (show _ ≤ 7301442 by omega)⟩ (fun H locs hP hS => ?_)
        refine lv_istore (lv' := [(9, .int r94), (0, .ref bS), (1, .ref (b 0)), (2, .ref (d 0)), (3, .ref (d 1)), (4, .ref (d 2)), (5, .ref (d' 0)), (6, .ref (d' 1)), (7, .ref (d' 2)), (8, .int x8)]) hx hb dL_law_94 hl (by decide) rfl (fun ls hl => ?_)
        refine lv_aload_n hx hb dL_law_96 rfl (lv_at hl 4 rfl) ?_
        refine lv_bipush (v := (9 : Int32)) hx hb dL_law_97 (by decide) ?_
        refine lv_iload hx hb dL_law_99 (lv_at hl 9 rfl) ?_
        refine lv_imul hx hb dL_law_101 ?_
        refine lv_iload hx hb dL_law_102 (lv_at hl 0 rfl) ?_
        refine lv_iconst (v := (4 : Int32)) hx hb dL_law_104 (by decide) ?_
        obtain ⟨r95, h95, hf⟩ := z_bE hf
        refine z_cSi (As := [.int r94, .int (4 : Int32)]) (rest := [.int ((9 : Int32) * x8), .ref (d 1)]) ⟨hx, hb, hml, hown, htw⟩ (kL_low l D c N H.size r94 (4 : Int32) r95 h95) (va_cwS 2 htw gL_law_L_low rfl rfl rfl (by decide +kernel) ⟨Nat.le_of_ble_eq_true rfl, Nat.le_of_ble_eq_true rfl⟩) hP hK hS hA rfl hl.1 (Nat.le_of_ble_eq_true rfl) rfl dL_law_105 ⟨(show _ ≤ 600086 by omega), (show _ ≤ 7301442 by omega)⟩ (fun H locs hP hS => ?_)
        obtain ⟨b96, hf⟩ := z_ckE hf
        refine va_iast hx hb hK.1 hP hD hS 312 0 z_vAt1 rfl (z_inE b96) dL_law_108 (fun H locs hP hD hS => ?_)
        obtain ⟨Y97, e97, hf⟩ := z_ltE hf
        have hP : va_P D vwCl (z_vw c b a d d' Y97) H := by rw [e97, ← z_vSet1]; exact hP
        have hD : va_D A (z_vw c b a d d' Y97) := by rw [e97, ← z_vSet1]; exact hD
        clear e97
        refine lv_aload_n hx hb dL_law_109 rfl (lv_at hl 4 rfl) ?_
        refine lv_bipush (v := (9 : Int32)) hx hb dL_law_110 (by decide) ?_
        refine lv_iload hx hb dL_law_112 (lv_at hl 9 rfl) ?_
        refine lv_imul hx hb dL_law_114 ?_
        refine lv_iconst (v := (1 : Int32)) hx hb dL_law_115 (by decide) ?_
        refine lv_iadd hx hb dL_law_116 ?_
        refine lv_iconst (v := (1 : Int32)) hx hb dL_law_117 (by decide) ?_
        refine lv_iload hx hb dL_law_118 (lv_at hl 0 rfl) ?_
        refine lv_iconst (v := (2 : Int32)) hx hb dL_law_120 (by decide) ?_
        refine lv_ishr hx hb dL_law_121 ?_
        refine lv_bipush (v := (9 : Int32)) hx hb dL_law_122 (by decide) ?_
        obtain ⟨r98, h98, hf⟩ := z_bE hf
        refine z_cSi (As := [.int (r94 >>> ((2 : Int32) &&& 31)), .int (9 : Int32)]) (rest := [.int (1 : Int32), .int (((9 : Int32) * x8) + (1 : Int32)), .ref (d 1)]) ⟨hx, hb, hml, hown, htw⟩ (kL_low l D c N H.size (r94 >>> ((2 : Int32) &&& 31)) (9 : Int32) r98 h98) (va_cwS 2 htw gL_law_L_low rfl rfl rfl (by decide +kernel) ⟨Nat.le_of_ble_eq_true rfl, Nat.le_of_ble_eq_true rfl⟩) hP hK hS hA rfl hl.1 (Nat.le_of_ble_eq_true rfl) rfl dL_law_124 ⟨(show _ ≤ 600086 by omega), (show _ ≤ 7301442 by omega)⟩ (fun H locs hP hS => ?_)
        refine lv_iadd hx hb dL_law_127 ?_
        obtain ⟨b99, hf⟩ := z_ckE hf
        refine va_iast hx hb hK.1 hP hD hS 312 0 z_vAt1 rfl (z_inE b99) dL_law_128 (fun H locs hP hD hS => ?_)
        obtain ⟨Y100, e100, hf⟩ := z_ltE hf
        have hP : va_P D vwCl (z_vw c b a d d' Y100) H := by rw [e100, ← z_vSet1]; exact hP
        have hD : va_D A (z_vw c b a d d' Y100) := by rw [e100, ← z_vSet1]; exact hD
        clear e100
        refine lv_aload_n hx hb dL_law_129 rfl (lv_at hl 4 rfl) ?_
        refine lv_bipush (v := (9 : Int32)) hx hb dL_law_130 (by decide) ?_
        refine lv_iload hx hb dL_law_132 (lv_at hl 9 rfl) ?_
        refine lv_imul hx hb dL_law_134 ?_
        refine lv_iconst (v := (2 : Int32)) hx hb dL_law_135 (by decide) ?_
        refine lv_iadd hx hb dL_law_136 ?_
        refine lv_iload hx hb dL_law_137 (lv_at hl 0 rfl) ?_
        refine lv_bipush (v := (6 : Int32)) hx hb dL_law_139 (by decide) ?_
        refine lv_ishr hx hb dL_law_141 ?_
        refine lv_bipush (v := (9 : Int32)) hx hb dL_law_142 (by decide) ?_
        obtain ⟨r101, h101, hf⟩ := z_bE hf
        refine z_cSi (As := [.int (r94 >>> ((6 : Int32) &&& 31)), .int (9 : Int32)]) (rest := [.int (((9 : Int32) * x8) + (2 : Int32)), .ref (d 1)]) ⟨hx, hb, hml, hown, htw⟩ (kL_low l D c N H.size (r94 >>> ((6 : Int32) &&& 31)) (9 : Int32) r101 h101) (va_cwS 2 htw gL_law_L_low rfl rfl rfl (by decide +kernel) ⟨Nat.le_of_ble_eq_true rfl, Nat.le_of_ble_eq_true rfl⟩) hP hK hS hA rfl hl.1 (Nat.le_of_ble_eq_true rfl) rfl dL_law_144 ⟨(show _ ≤ 600086 by omega), (show _ ≤ 7301442 by omega)⟩ (fun H locs hP hS => ?_)
        refine lv_iconst (v := (1 : Int32)) hx hb dL_law_147 (by decide) ?_
        refine lv_isub hx hb dL_law_148 ?_
        obtain ⟨b102, hf⟩ := z_ckE hf
        refine va_iast hx hb hK.1 hP hD hS 312 0 z_vAt1 rfl (z_inE b102) dL_law_149 (fun H locs hP hD hS => ?_)
        obtain ⟨Y103, e103, hf⟩ := z_ltE hf
        have hP : va_P D vwCl (z_vw c b a d d' Y103) H := by rw [e103, ← z_vSet1]; exact hP
        have hD : va_D A (z_vw c b a d d' Y103) := by rw [e103, ← z_vSet1]; exact hD
        clear e103
        refine lv_aload_n hx hb dL_law_150 rfl (lv_at hl 4 rfl) ?_
        refine lv_bipush (v := (9 : Int32)) hx hb dL_law_151 (by decide) ?_
        refine lv_iload hx hb dL_law_153 (lv_at hl 9 rfl) ?_
        refine lv_imul hx hb dL_law_155 ?_
        refine lv_iconst (v := (3 : Int32)) hx hb dL_law_156 (by decide) ?_
        refine lv_iadd hx hb dL_law_157 ?_
        refine lv_iload hx hb dL_law_158 (lv_at hl 0 rfl) ?_
        refine lv_bipush (v := (10 : Int32)) hx hb dL_law_160 (by decide) ?_
        refine lv_ishr hx hb dL_law_162 ?_
        refine lv_iconst (v := (3 : Int32)) hx hb dL_law_163 (by decide) ?_
        obtain ⟨r104, h104, hf⟩ := z_bE hf
        refine z_cSi (As := [.int (r94 >>> ((10 : Int32) &&& 31)), .int (3 : Int32)]) (rest := [.int (((9 : Int32) * x8) + (3 : Int32)), .ref (d 1)]) ⟨hx, hb, hml, hown, htw⟩ (kL_low l D c N H.size (r94 >>> ((10 : Int32) &&& 31)) (3 : Int32) r104 h104) (va_cwS 2 htw gL_law_L_low rfl rfl rfl (by decide +kernel) ⟨Nat.le_of_ble_eq_true rfl, Nat.le_of_ble_eq_true rfl⟩) hP hK hS hA rfl hl.1 (Nat.le_of_ble_eq_true rfl) rfl dL_law_164 ⟨(show _ ≤ 600086 by omega), (show _ ≤ 7301442 by omega)⟩ (fun H locs hP hS => ?_)
        refine lv_if_le (tgt := 174) hx hb dL_law_167 (by decide) (fun c105 => ?_) (fun c105 => ?_)
        · have hf := z_ifT hf c105
          refine lv_iload hx hb dL_law_174 (lv_at hl 0 rfl) ?_
          refine lv_bipush (v := (12 : Int32)) hx hb dL_law_176 (by decide) ?_
          refine lv_ishr hx hb dL_law_178 ?_
          refine lv_bipush (v := (7 : Int32)) hx hb dL_law_179 (by decide) ?_
          obtain ⟨r106, h106, hf⟩ := z_bE hf
          refine z_cSi (As := [.int (r94 >>> ((12 : Int32) &&& 31)), .int (7 : Int32)]) (rest := [.int (((9 : Int32) * x8) + (3 : Int32)), .ref (d 1)]) ⟨hx, hb, hml, hown, htw⟩ (kL_low l D c N H.size (r94 >>> ((12 : Int32) &&& 31)) (7 : Int32) r106 h106) (va_cwS 2 htw gL_law_L_low rfl rfl rfl (by decide +kernel) ⟨Nat.le_of_ble_eq_true rfl, Nat.le_of_ble_eq_true rfl⟩) hP hK hS hA rfl hl.1 (Nat.le_of_ble_eq_true rfl) rfl dL_law_181 ⟨(show _ ≤ 600086 by omega), (show _ ≤ 7301442 by omega)⟩ (fun H locs hP hS => ?_)
          obtain ⟨b107, hf⟩ := z_ckE hf
          refine va_iast hx hb hK.1 hP hD hS 312 0 z_vAt1 rfl (z_inE b107) dL_law_184 (fun H locs hP hD hS => ?_)
          obtain ⟨Y108, e108, hf⟩ := z_ltE hf
          have hP : va_P D vwCl (z_vw c b a d d' Y108) H := by rw [e108, ← z_vSet1]; exact hP
          have hD : va_D A (z_vw c b a d d' Y108) := by rw [e108, ← z_vSet1]; exact hD
          clear e108
          refine lv_aload_n hx hb dL_law_185 rfl (lv_at hl 4 rfl) ?_
          refine lv_bipush (v := (9 : Int32)) hx hb dL_law_186 (by decide) ?_
          refine lv_iload hx hb dL_law_188 (lv_at hl 9 rfl) ?_
          refine lv_imul hx hb dL_law_190 ?_
          refine lv_iconst (v := (4 : Int32)) hx hb dL_law_191 (by decide) ?_
          refine lv_iadd hx hb dL_law_192 ?_
          refine lv_iload hx hb dL_law_193 (lv_at hl 0 rfl) ?_
          refine lv_bipush (v := (15 : Int32)) hx hb dL_law_195 (by decide) ?_
          refine lv_ishr hx hb dL_law_197 ?_
          refine lv_bipush (v := (100 : Int32)) hx hb dL_law_198 (by decide) ?_
          obtain ⟨r109, h109, hf⟩ := z_bE hf
          refine z_cSi (As := [.int (r94 >>> ((15 : Int32) &&& 31)), .int (100 : Int32)]) (rest := [.int (((9 : Int32) * x8) + (4 : Int32)), .ref (d 1)]) ⟨hx, hb, hml, hown, htw⟩ (kL_low l D c N H.size (r94 >>> ((15 : Int32) &&& 31)) (100 : Int32) r109 h109) (va_cwS 2 htw gL_law_L_low rfl rfl rfl (by decide +kernel) ⟨Nat.le_of_ble_eq_true rfl, Nat.le_of_ble_eq_true rfl⟩) hP hK hS hA rfl hl.1 (Nat.le_of_ble_eq_true rfl) rfl dL_law_200 ⟨(show _ ≤ 600086 by omega), (show _ ≤ 7301442 by omega)⟩ (fun H locs hP hS => ?_)
          obtain ⟨b110, hf⟩ := z_ckE hf
          refine va_iast hx hb hK.1 hP hD hS 312 0 z_vAt1 rfl (z_inE b110) dL_law_203 (fun H locs hP hD hS => ?_)
          obtain ⟨Y111, e111, hf⟩ := z_ltE hf
          have hP : va_P D vwCl (z_vw c b a d d' Y111) H := by rw [e111, ← z_vSet1]; exact hP
          have hD : va_D A (z_vw c b a d d' Y111) := by rw [e111, ← z_vSet1]; exact hD
          clear e111
          refine lv_aload_n hx hb dL_law_204 rfl (lv_at hl 4 rfl) ?_
          refine lv_bipush (v := (9 : Int32)) hx hb dL_law_205 (by decide) ?_
          refine lv_iload hx hb dL_law_207 (lv_at hl 9 rfl) ?_
          refine lv_imul hx hb dL_law_209 ?_
          refine lv_iconst (v := (5 : Int32)) hx hb dL_law_210 (by decide) ?_
          refine lv_iadd hx hb dL_law_211 ?_
          refine lv_iconst (v := (-1 : Int32)) hx hb dL_law_212 (by decide) ?_
          obtain ⟨b112, hf⟩ := z_ckE hf
          refine va_iast hx hb hK.1 hP hD hS 312 0 z_vAt1 rfl (z_inE b112) dL_law_213 (fun H locs hP hD hS => ?_)
          obtain ⟨Y113, e113, hf⟩ := z_ltE hf
          have hP : va_P D vwCl (z_vw c b a d d' Y113) H := by rw [e113, ← z_vSet1]; exact hP
          have hD : va_D A (z_vw c b a d d' Y113) := by rw [e113, ← z_vSet1]; exact hD
          clear e113
          refine lv_aload_n hx hb dL_law_214 rfl (lv_at hl 4 rfl) ?_
          refine lv_bipush (v := (9 : Int32)) hx hb dL_law_215 (by decide) ?_
          refine lv_iload hx hb dL_law_217 (lv_at hl 9 rfl) ?_
          refine lv_imul hx hb dL_law_219 ?_
          refine lv_bipush (v := (6 : Int32)) hx hb dL_law_220 (by decide) ?_
          refine lv_iadd hx hb dL_law_222 ?_
          refine lv_iconst (v := (-1 : Int32)) hx hb dL_law_223 (by decide) ?_
          obtain ⟨b114, hf⟩ := z_ckE hf
          refine va_iast hx hb hK.1 hP hD hS 312 0 z_vAt1 rfl (z_inE b114) dL_law_224 (fun H locs hP hD hS => ?_)
          obtain ⟨Y115, e115, hf⟩ := z_ltE hf
          have hP : va_P D vwCl (z_vw c b a d d' Y115) H := by rw [e115, ← z_vSet1]; exact hP
          have hD : va_D A (z_vw c b a d d' Y115) := by rw [e115, ← z_vSet1]; exact hD
          clear e115
          refine lv_aload_n hx hb dL_law_225 rfl (lv_at hl 4 rfl) ?_
          refine lv_bipush (v := (9 : Int32)) hx hb dL_law_226 (by decide) ?_
          refine lv_iload hx hb dL_law_228 (lv_at hl 9 rfl) ?_
          refine lv_imul hx hb dL_law_230 ?_
          refine lv_bipush (v := (8 : Int32)) hx hb dL_law_231 (by decide) ?_
          refine lv_iadd hx hb dL_law_233 ?_
          refine lv_iconst (v := (-1 : Int32)) hx hb dL_law_234 (by decide) ?_
          obtain ⟨b116, hf⟩ := z_ckE hf
          refine va_iast hx hb hK.1 hP hD hS 312 0 z_vAt1 rfl (z_inE b116) dL_law_235 (fun H locs hP hD hS => ?_)
          obtain ⟨Y117, e117, hf⟩ := z_ltE hf
          have hP : va_P D vwCl (z_vw c b a d d' Y117) H := by rw [e117, ← z_vSet1]; exact hP
          have hD : va_D A (z_vw c b a d d' Y117) := by rw [e117, ← z_vSet1]; exact hD
          clear e117
          refine lv_aload_n hx hb dL_law_236 rfl (lv_at hl 2 rfl) ?_
          refine lv_aload_n hx hb dL_law_237 rfl (lv_at hl 4 rfl) ?_
          refine lv_bipush (v := (9 : Int32)) hx hb dL_law_238 (by decide) ?_
          refine lv_iload hx hb dL_law_240 (lv_at hl 9 rfl) ?_
          refine lv_imul hx hb dL_law_242 ?_
          obtain ⟨b118, hf⟩ := z_ckE hf
          refine va_iald hx hb hK.1 (z_subP hP z_inVQ) 1 0 rfl rfl (z_inE b118) dL_law_243 ?_
          refine lv_aload_n hx hb dL_law_244 rfl (lv_at hl 4 rfl) ?_
          refine lv_bipush (v := (9 : Int32)) hx hb dL_law_245 (by decide) ?_
          refine lv_iload hx hb dL_law_247 (lv_at hl 9 rfl) ?_
          refine lv_imul hx hb dL_law_249 ?_
          refine lv_iconst (v := (1 : Int32)) hx hb dL_law_250 (by decide) ?_
          refine lv_iadd hx hb dL_law_251 ?_
          obtain ⟨b119, hf⟩ := z_ckE hf
          refine va_iald hx hb hK.1 (z_subP hP z_inVQ) 1 0 rfl rfl (z_inE b119) dL_law_252 ?_
          refine lv_aload_n hx hb dL_law_253 rfl (lv_at hl 4 rfl) ?_
          refine lv_bipush (v := (9 : Int32)) hx hb dL_law_254 (by decide) ?_
          refine lv_iload hx hb dL_law_256 (lv_at hl 9 rfl) ?_
          refine lv_imul hx hb dL_law_258 ?_
          refine lv_iconst (v := (2 : Int32)) hx hb dL_law_259 (by decide) ?_
          refine lv_iadd hx hb dL_law_260 ?_
          obtain ⟨b120, hf⟩ := z_ckE hf
          refine va_iald hx hb hK.1 (z_subP hP z_inVQ) 1 0 rfl rfl (z_inE b120) dL_law_261 ?_
          refine lv_aload_n hx hb dL_law_262 rfl (lv_at hl 4 rfl) ?_
          refine lv_bipush (v := (9 : Int32)) hx hb dL_law_263 (by decide) ?_
          refine lv_iload hx hb dL_law_265 (lv_at hl 9 rfl) ?_
          refine lv_imul hx hb dL_law_267 ?_
          refine lv_iconst (v := (3 : Int32)) hx hb dL_law_268 (by decide) ?_
          refine lv_iadd hx hb dL_law_269 ?_
          obtain ⟨b121, hf⟩ := z_ckE hf
          refine va_iald hx hb hK.1 (z_subP hP z_inVQ) 1 0 rfl rfl (z_inE b121) dL_law_270 ?_
          refine lv_aload_n hx hb dL_law_271 rfl (lv_at hl 4 rfl) ?_
          refine lv_bipush (v := (9 : Int32)) hx hb dL_law_272 (by decide) ?_
          refine lv_iload hx hb dL_law_274 (lv_at hl 9 rfl) ?_
          refine lv_imul hx hb dL_law_276 ?_
          refine lv_iconst (v := (4 : Int32)) hx hb dL_law_277 (by decide) ?_
          refine lv_iadd hx hb dL_law_278 ?_
          obtain ⟨b122, hf⟩ := z_ckE hf
          refine va_iald hx hb hK.1 (z_subP hP z_inVQ) 1 0 rfl rfl (z_inE b122) dL_law_279 ?_
          obtain ⟨r123, u123, h123, hf⟩ := z_b2E hf
          refine z_xVi (As := [.int (Y117.2.1 1 (((9 : Int32) * x8)).toNatClampNeg), .int (Y117.2.1 1 ((((9 : Int32) * x8) + (1 : Int32))).toNatClampNeg), .int (Y117.2.1 1 ((((9 : Int32) * x8) + (2 : Int32))).toNatClampNeg), .int (Y117.2.1 1 ((((9 : Int32) * x8) + (3 : Int32))).toNatClampNeg), .int (Y117.2.1 1 ((((9 : Int32) * x8) + (4 : Int32))).toNatClampNeg)]) (rest := []) (wf := z_dw c b a) (g := Y117.1) (u0 := u123) ⟨hx, hb, hml, hown, htw⟩ (kX4_addOrder l D c N b a H.size Y117.1 (Y117.2.1 1 (((9 : Int32) * x8)).toNatClampNeg) (Y117.2.1 1 ((((9 : Int32) * x8) + (1 : Int32))).toNatClampNeg) (Y117.2.1 1 ((((9 : Int32) * x8) + (2 : Int32))).toNatClampNeg) (Y117.2.1 1 ((((9 : Int32) * x8) + (3 : Int32))).toNatClampNeg) (Y117.2.1 1 ((((9 : Int32) * x8) + (4 : Int32))).toNatClampNeg) r123 u123 h123) (cwV 5 htw gL_law_X4_addOrder rfl rfl rfl (by decide +kernel) ⟨Nat.le_of_ble_eq_true rfl, Nat.le_of_ble_eq_true rfl⟩) hP hK hD hS hA (z_cutVD hD u123) (ci := 4) (q0 := 0) rfl rfl rfl rfl hl.1 (Nat.le_of_ble_eq_true rfl) rfl dL_law_280 ⟨(show _ ≤ 600086 by omega), (show _ ≤ 7301442 by omega)⟩ (fun H locs hP hD hS => ?_)
          obtain ⟨Y124, e124, hf⟩ := z_ltE hf
          have hP : va_P D vwCl (z_vw c b a d d' Y124) H := by rw [e124]; exact hP
          have hD : va_D A (z_vw c b a d d' Y124) := by rw [e124]; exact hD
          clear e124
          refine lv_iload hx hb dL_law_283 (lv_at hl 9 rfl) ?_
          refine lv_icmp_eq (tgt := 290) hx hb dL_law_285 (by decide) (fun c125 => ?_) (fun c125 => ?_)
          · have hf := z_ifT hf c125
            refine lv_iinc (v := (x8 + (1 : Int32))) (lv' := [(8, .int (x8 + (1 : Int32))), (9, .int r94), (0, .ref bS), (1, .ref (b 0)), (2, .ref (d 0)), (3, .ref (d 1)), (4, .ref (d 2)), (5, .ref (d' 0)), (6, .ref (d' 1)), (7, .ref (d' 2))]) hx hb dL_law_290 hl (k := 9) rfl rfl (by decide) rfl (fun ls hl => ?_)
            refine lv_goto (tgt := 79) hx hb dL_law_293 (by decide) ?_
            exact ih _ _ hf H locs ls hP hD hS (lv_sub hl [2, 3, 4, 5, 6, 7, 8, 9, 0] rfl)
          · have hf := z_ifF hf c125
            refine lv_iconst (v := (0 : Int32)) hx hb dL_law_288 (by decide) ?_
            exact absurd hf (by decide)
        · have hf := z_ifF hf c105
          refine lv_iconst (v := (-1 : Int32)) hx hb dL_law_170 (by decide) ?_
          refine lv_goto (tgt := 184) hx hb dL_law_171 (by decide) ?_
          obtain ⟨b126, hf⟩ := z_ckE hf
          refine va_iast hx hb hK.1 hP hD hS 312 0 z_vAt1 rfl (z_inE b126) dL_law_184 (fun H locs hP hD hS => ?_)
          obtain ⟨Y127, e127, hf⟩ := z_ltE hf
          have hP : va_P D vwCl (z_vw c b a d d' Y127) H := by rw [e127, ← z_vSet1]; exact hP
          have hD : va_D A (z_vw c b a d d' Y127) := by rw [e127, ← z_vSet1]; exact hD
          clear e127
          refine lv_aload_n hx hb dL_law_185 rfl (lv_at hl 4 rfl) ?_
          refine lv_bipush (v := (9 : Int32)) hx hb dL_law_186 (by decide) ?_
          refine lv_iload hx hb dL_law_188 (lv_at hl 9 rfl) ?_
          refine lv_imul hx hb dL_law_190 ?_
          refine lv_iconst (v := (4 : Int32)) hx hb dL_law_191 (by decide) ?_
          refine lv_iadd hx hb dL_law_192 ?_
          refine lv_iload hx hb dL_law_193 (lv_at hl 0 rfl) ?_
          refine lv_bipush (v := (15 : Int32)) hx hb dL_law_195 (by decide) ?_
          refine lv_ishr hx hb dL_law_197 ?_
          refine lv_bipush (v := (100 : Int32)) hx hb dL_law_198 (by decide) ?_
          obtain ⟨r128, h128, hf⟩ := z_bE hf
          refine z_cSi (As := [.int (r94 >>> ((15 : Int32) &&& 31)), .int (100 : Int32)]) (rest := [.int (((9 : Int32) * x8) + (4 : Int32)), .ref (d 1)]) ⟨hx, hb, hml, hown, htw⟩ (kL_low l D c N H.size (r94 >>> ((15 : Int32) &&& 31)) (100 : Int32) r128 h128) (va_cwS 2 htw gL_law_L_low rfl rfl rfl (by decide +kernel) ⟨Nat.le_of_ble_eq_true rfl, Nat.le_of_ble_eq_true rfl⟩) hP hK hS hA rfl hl.1 (Nat.le_of_ble_eq_true rfl) rfl dL_law_200 ⟨(show _ ≤ 600086 by omega), (show _ ≤ 7301442 by omega)⟩ (fun H locs hP hS => ?_)
          obtain ⟨b129, hf⟩ := z_ckE hf
          refine va_iast hx hb hK.1 hP hD hS 312 0 z_vAt1 rfl (z_inE b129) dL_law_203 (fun H locs hP hD hS => ?_)
          obtain ⟨Y130, e130, hf⟩ := z_ltE hf
          have hP : va_P D vwCl (z_vw c b a d d' Y130) H := by rw [e130, ← z_vSet1]; exact hP
          have hD : va_D A (z_vw c b a d d' Y130) := by rw [e130, ← z_vSet1]; exact hD
          clear e130
          refine lv_aload_n hx hb dL_law_204 rfl (lv_at hl 4 rfl) ?_
          refine lv_bipush (v := (9 : Int32)) hx hb dL_law_205 (by decide) ?_
          refine lv_iload hx hb dL_law_207 (lv_at hl 9 rfl) ?_
          refine lv_imul hx hb dL_law_209 ?_
          refine lv_iconst (v := (5 : Int32)) hx hb dL_law_210 (by decide) ?_
          refine lv_iadd hx hb dL_law_211 ?_
          refine lv_iconst (v := (-1 : Int32)) hx hb dL_law_212 (by decide) ?_
          obtain ⟨b131, hf⟩ := z_ckE hf
          refine va_iast hx hb hK.1 hP hD hS 312 0 z_vAt1 rfl (z_inE b131) dL_law_213 (fun H locs hP hD hS => ?_)
          obtain ⟨Y132, e132, hf⟩ := z_ltE hf
          have hP : va_P D vwCl (z_vw c b a d d' Y132) H := by rw [e132, ← z_vSet1]; exact hP
          have hD : va_D A (z_vw c b a d d' Y132) := by rw [e132, ← z_vSet1]; exact hD
          clear e132
          refine lv_aload_n hx hb dL_law_214 rfl (lv_at hl 4 rfl) ?_
          refine lv_bipush (v := (9 : Int32)) hx hb dL_law_215 (by decide) ?_
          refine lv_iload hx hb dL_law_217 (lv_at hl 9 rfl) ?_
          refine lv_imul hx hb dL_law_219 ?_
          refine lv_bipush (v := (6 : Int32)) hx hb dL_law_220 (by decide) ?_
          refine lv_iadd hx hb dL_law_222 ?_
          refine lv_iconst (v := (-1 : Int32)) hx hb dL_law_223 (by decide) ?_
          obtain ⟨b133, hf⟩ := z_ckE hf
          refine va_iast hx hb hK.1 hP hD hS 312 0 z_vAt1 rfl (z_inE b133) dL_law_224 (fun H locs hP hD hS => ?_)
          obtain ⟨Y134, e134, hf⟩ := z_ltE hf
          have hP : va_P D vwCl (z_vw c b a d d' Y134) H := by rw [e134, ← z_vSet1]; exact hP
          have hD : va_D A (z_vw c b a d d' Y134) := by rw [e134, ← z_vSet1]; exact hD
          clear e134
          refine lv_aload_n hx hb dL_law_225 rfl (lv_at hl 4 rfl) ?_
          refine lv_bipush (v := (9 : Int32)) hx hb dL_law_226 (by decide) ?_
          refine lv_iload hx hb dL_law_228 (lv_at hl 9 rfl) ?_
          refine lv_imul hx hb dL_law_230 ?_
          refine lv_bipush (v := (8 : Int32)) hx hb dL_law_231 (by decide) ?_
          refine lv_iadd hx hb dL_law_233 ?_
          refine lv_iconst (v := (-1 : Int32)) hx hb dL_law_234 (by decide) ?_
          obtain ⟨b135, hf⟩ := z_ckE hf
          refine va_iast hx hb hK.1 hP hD hS 312 0 z_vAt1 rfl (z_inE b135) dL_law_235 (fun H locs hP hD hS => ?_)
          obtain ⟨Y136, e136, hf⟩ := z_ltE hf
          have hP : va_P D vwCl (z_vw c b a d d' Y136) H := by rw [e136, ← z_vSet1]; exact hP
          have hD : va_D A (z_vw c b a d d' Y136) := by rw [e136, ← z_vSet1]; exact hD
          clear e136
          refine lv_aload_n hx hb dL_law_236 rfl (lv_at hl 2 rfl) ?_
          refine lv_aload_n hx hb dL_law_237 rfl (lv_at hl 4 rfl) ?_
          refine lv_bipush (v := (9 : Int32)) hx hb dL_law_238 (by decide) ?_
          refine lv_iload hx hb dL_law_240 (lv_at hl 9 rfl) ?_
          refine lv_imul hx hb dL_law_242 ?_
          obtain ⟨b137, hf⟩ := z_ckE hf
          refine va_iald hx hb hK.1 (z_subP hP z_inVQ) 1 0 rfl rfl (z_inE b137) dL_law_243 ?_
          refine lv_aload_n hx hb dL_law_244 rfl (lv_at hl 4 rfl) ?_
          refine lv_bipush (v := (9 : Int32)) hx hb dL_law_245 (by decide) ?_
          refine lv_iload hx hb dL_law_247 (lv_at hl 9 rfl) ?_
          refine lv_imul hx hb dL_law_249 ?_
          refine lv_iconst (v := (1 : Int32)) hx hb dL_law_250 (by decide) ?_
          refine lv_iadd hx hb dL_law_251 ?_
          obtain ⟨b138, hf⟩ := z_ckE hf
          refine va_iald hx hb hK.1 (z_subP hP z_inVQ) 1 0 rfl rfl (z_inE b138) dL_law_252 ?_
          refine lv_aload_n hx hb dL_law_253 rfl (lv_at hl 4 rfl) ?_
          refine lv_bipush (v := (9 : Int32)) hx hb dL_law_254 (by decide) ?_
          refine lv_iload hx hb dL_law_256 (lv_at hl 9 rfl) ?_
          refine lv_imul hx hb dL_law_258 ?_
          refine lv_iconst (v := (2 : Int32)) hx hb dL_law_259 (by decide) ?_
          refine lv_iadd hx hb dL_law_260 ?_
          obtain ⟨b139, hf⟩ := z_ckE hf
          refine va_iald hx hb hK.1 (z_subP hP z_inVQ) 1 0 rfl rfl (z_inE b139) dL_law_261 ?_
          refine lv_aload_n hx hb dL_law_262 rfl (lv_at hl 4 rfl) ?_
          refine lv_bipush (v := (9 : Int32)) hx hb dL_law_263 (by decide) ?_
          refine lv_iload hx hb dL_law_265 (lv_at hl 9 rfl) ?_
          refine lv_imul hx hb dL_law_267 ?_
          refine lv_iconst (v := (3 : Int32)) hx hb dL_law_268 (by decide) ?_
          refine lv_iadd hx hb dL_law_269 ?_
          obtain ⟨b140, hf⟩ := z_ckE hf
          refine va_iald hx hb hK.1 (z_subP hP z_inVQ) 1 0 rfl rfl (z_inE b140) dL_law_270 ?_
          refine lv_aload_n hx hb dL_law_271 rfl (lv_at hl 4 rfl) ?_
          refine lv_bipush (v := (9 : Int32)) hx hb dL_law_272 (by decide) ?_
          refine lv_iload hx hb dL_law_274 (lv_at hl 9 rfl) ?_
          refine lv_imul hx hb dL_law_276 ?_
          refine lv_iconst (v := (4 : Int32)) hx hb dL_law_277 (by decide) ?_
          refine lv_iadd hx hb dL_law_278 ?_
          obtain ⟨b141, hf⟩ := z_ckE hf
          refine va_iald hx hb hK.1 (z_subP hP z_inVQ) 1 0 rfl rfl (z_inE b141) dL_law_279 ?_
          obtain ⟨r142, u142, h142, hf⟩ := z_b2E hf
          refine z_xVi (As := [.int (Y136.2.1 1 (((9 : Int32) * x8)).toNatClampNeg), .int (Y136.2.1 1 ((((9 : Int32) * x8) + (1 : Int32))).toNatClampNeg), .int (Y136.2.1 1 ((((9 : Int32) * x8) + (2 : Int32))).toNatClampNeg), .int (Y136.2.1 1 ((((9 : Int32) * x8) + (3 : Int32))).toNatClampNeg), .int (Y136.2.1 1 ((((9 : Int32) * x8) + (4 : Int32))).toNatClampNeg)]) (rest := []) (wf := z_dw c b a) (g := Y136.1) (u0 := u142) ⟨hx, hb, hml, hown, htw⟩ (kX4_addOrder l D c N b a H.size Y136.1 (Y136.2.1 1 (((9 : Int32) * x8)).toNatClampNeg) (Y136.2.1 1 ((((9 : Int32) * x8) + (1 : Int32))).toNatClampNeg) (Y136.2.1 1 ((((9 : Int32) * x8) + (2 : Int32))).toNatClampNeg) (Y136.2.1 1 ((((9 : Int32) * x8) + (3 : Int32))).toNatClampNeg) (Y136.2.1 1 ((((9 : Int32) * x8) + (4 : Int32))).toNatClampNeg) r142 u142 h142) (cwV 5 htw gL_law_X4_addOrder rfl rfl rfl (by decide +kernel) ⟨Nat.le_of_ble_eq_true rfl, Nat.le_of_ble_eq_true rfl⟩) hP hK hD hS hA (z_cutVD hD u142) (ci := 4) (q0 := 0) rfl rfl rfl rfl hl.1 (Nat.le_of_ble_eq_true rfl) rfl dL_law_280 ⟨(show _ ≤ 600086 by omega), (show _ ≤ 7301442 by omega)⟩ (fun H locs hP hD hS => ?_)
          obtain ⟨Y143, e143, hf⟩ := z_ltE hf
          have hP : va_P D vwCl (z_vw c b a d d' Y143) H := by rw [e143]; exact hP
          have hD : va_D A (z_vw c b a d d' Y143) := by rw [e143]; exact hD
          clear e143
          refine lv_iload hx hb dL_law_283 (lv_at hl 9 rfl) ?_
          refine lv_icmp_eq (tgt := 290) hx hb dL_law_285 (by decide) (fun c144 => ?_) (fun c144 => ?_)
          · have hf := z_ifT hf c144
            refine lv_iinc (v := (x8 + (1 : Int32))) (lv' := [(8, .int (x8 + (1 : Int32))), (9, .int r94), (0, .ref bS), (1, .ref (b 0)), (2, .ref (d 0)), (3, .ref (d 1)), (4, .ref (d 2)), (5, .ref (d' 0)), (6, .ref (d' 1)), (7, .ref (d' 2))]) hx hb dL_law_290 hl (k := 9) rfl rfl (by decide) rfl (fun ls hl => ?_)
            refine lv_goto (tgt := 79) hx hb dL_law_293 (by decide) ?_
            exact ih _ _ hf H locs ls hP hD hS (lv_sub hl [2, 3, 4, 5, 6, 7, 8, 9, 0] rfl)
          · have hf := z_ifF hf c144
            refine lv_iconst (v := (0 : Int32)) hx hb dL_law_288 (by decide) ?_
            exact absurd hf (by decide)
  unfold fL_main at hf
  refine lv_aload_n hx hb dL_law_42 rfl (lv_at hl 2 rfl) ?_
  refine lv_iconst (v := (0 : Int32)) hx hb dL_law_43 (by decide) ?_
  refine lv_bipush (v := (6 : Int32)) hx hb dL_law_44 (by decide) ?_
  refine lv_aload_n hx hb dL_law_46 rfl (lv_at hl 0 rfl) ?_
  refine lv_iconst (v := (0 : Int32)) hx hb dL_law_47 (by decide) ?_
  obtain ⟨r1, h1, hf⟩ := z_bE hf
  refine z_xX (As := [.ref bS, .int (0 : Int32)]) (rest := [.int (6 : Int32), .int (0 : Int32), .ref (d 0)]) ⟨hx, hb, hml, hown, htw⟩ (kL_cell l D N bS L xs H.size (0 : Int32) r1 h1) (va_cwS 2 htw gL_law_L_cell rfl rfl rfl (by decide +kernel) ⟨Nat.le_of_ble_eq_true rfl, Nat.le_of_ble_eq_true rfl⟩) hP hX hbl hbA hS hA rfl hl.1 (Nat.le_of_ble_eq_true rfl) rfl dL_law_48 ⟨(show _ ≤ 600086 by omega), (show _ ≤ 7301442 by omega)⟩ (fun H locs hP hS => ?_)
  refine lv_bipush (v := (20 : Int32)) hx hb dL_law_51 (by decide) ?_
  obtain ⟨r2, h2, hf⟩ := z_bE hf
  refine z_cSi (As := [.int r1, .int (20 : Int32)]) (rest := [.int (6 : Int32), .int (0 : Int32), .ref (d 0)]) ⟨hx, hb, hml, hown, htw⟩ (kL_low l D c N H.size r1 (20 : Int32) r2 h2) (va_cwS 2 htw gL_law_L_low rfl rfl rfl (by decide +kernel) ⟨Nat.le_of_ble_eq_true rfl, Nat.le_of_ble_eq_true rfl⟩) hP hK hS hA rfl hl.1 (Nat.le_of_ble_eq_true rfl) rfl dL_law_53 ⟨(show _ ≤ 600086 by omega), (show _ ≤ 7301442 by omega)⟩ (fun H locs hP hS => ?_)
  refine lv_iadd hx hb dL_law_56 ?_
  refine va_iast hx hb hK.1 hP hD hS 311 0 z_vAt0 rfl (z_inE (by decide)) dL_law_57 (fun H locs hP hD hS => ?_)
  obtain ⟨Y3, e3, hf⟩ := z_ltE hf
  have hP : va_P D vwCl (z_vw c b a d d' Y3) H := by rw [e3, ← z_vSet0]; exact hP
  have hD : va_D A (z_vw c b a d d' Y3) := by rw [e3, ← z_vSet0]; exact hD
  clear e3
  refine lv_aload_n hx hb dL_law_58 rfl (lv_at hl 2 rfl) ?_
  refine lv_iconst (v := (2 : Int32)) hx hb dL_law_59 (by decide) ?_
  refine lv_iconst (v := (-1 : Int32)) hx hb dL_law_60 (by decide) ?_
  refine va_iast hx hb hK.1 hP hD hS 311 0 z_vAt0 rfl (z_inE (by decide)) dL_law_61 (fun H locs hP hD hS => ?_)
  obtain ⟨Y4, e4, hf⟩ := z_ltE hf
  have hP : va_P D vwCl (z_vw c b a d d' Y4) H := by rw [e4, ← z_vSet0]; exact hP
  have hD : va_D A (z_vw c b a d d' Y4) := by rw [e4, ← z_vSet0]; exact hD
  clear e4
  refine lv_aload_n hx hb dL_law_62 rfl (lv_at hl 1 rfl) ?_
  refine lv_aload_n hx hb dL_law_63 rfl (lv_at hl 2 rfl) ?_
  refine lv_iconst (v := (0 : Int32)) hx hb dL_law_64 (by decide) ?_
  refine va_iald hx hb hK.1 (z_subP hP z_inVQ) 0 0 rfl rfl (z_inE (by decide)) dL_law_65 ?_
  obtain ⟨r5, u5, h5, hf⟩ := z_b2E hf
  refine z_xVi (As := [.int (Y4.2.1 0 ((0 : Int32)).toNatClampNeg)]) (rest := []) (wf := z_dw c b a) (g := Y4.1) (u0 := u5) ⟨hx, hb, hml, hown, htw⟩ (kX4_setDrum l D c N b a H.size Y4.1 (Y4.2.1 0 ((0 : Int32)).toNatClampNeg) r5 u5 h5) (cwV 1 htw gL_law_X4_setDrum rfl rfl rfl (by decide +kernel) ⟨Nat.le_of_ble_eq_true rfl, Nat.le_of_ble_eq_true rfl⟩) hP hK hD hS hA (z_cutVD hD u5) (ci := 4) (q0 := 0) rfl rfl rfl rfl hl.1 (Nat.le_of_ble_eq_true rfl) rfl dL_law_66 ⟨(show _ ≤ 600086 by omega), (show _ ≤ 7301442 by omega)⟩ (fun H locs hP hD hS => ?_)
  obtain ⟨Y6, e6, hf⟩ := z_ltE hf
  have hP : va_P D vwCl (z_vw c b a d d' Y6) H := by rw [e6]; exact hP
  have hD : va_D A (z_vw c b a d d' Y6) := by rw [e6]; exact hD
  clear e6
  refine lv_bipush (v := (12 : Int32)) hx hb dL_law_69 (by decide) ?_
  refine lv_icmp_eq (tgt := 76) hx hb dL_law_71 (by decide) (fun c7 => ?_) (fun c7 => ?_)
  · have hf := z_ifT hf c7
    refine lv_iconst (v := (0 : Int32)) hx hb dL_law_76 (by decide) ?_
    refine lv_istore (lv' := [(8, .int (0 : Int32)), (0, .ref bS), (1, .ref (b 0)), (2, .ref (d 0)), (3, .ref (d 1)), (4, .ref (d 2)), (5, .ref (d' 0)), (6, .ref (d' 1)), (7, .ref (d' 2))]) hx hb dL_law_77 hl (by decide) rfl (fun ls hl => ?_)
    exact L79 N _ _ hf H locs ls hP hD hS (lv_sub hl [1, 2, 3, 4, 5, 6, 7, 8, 0] rfl)
  · have hf := z_ifF hf c7
    refine lv_iconst (v := (0 : Int32)) hx hb dL_law_74 (by decide) ?_
    exact absurd hf (by decide)
