theorem qL_law_186 : Cond.constantLong RL 186 (4294967295) ∈ lw_tbl := wsL_law_in _ (by decide +kernel)
set_option maxRecDepth 100000 in
set_option maxHeartbeats 16000000 in
theorem law_loop {p : Program} {l : Launch} {e : Env} {s : State} {m : MethodId} {below : List Frame} {meth : Method} {co : Code} {D : va_G} {c : Nat → ClassId} {bS L : Nat} {xs : Nat → Int32} {N : Nat} {b : Nat → Nat} {a : Nat → Nat → Nat} {d : Nat → Nat} {o : Nat} {A : Nat → Prop} {CC SS : Nat} (hlst : l.stackTraces = false) (hL : L ≤ 3072) (C0 : lw_At p s m meth co bS L xs) (hAe : A = fun q : Nat => s.heap.size ≤ q) (hK : z_K D c s) (hE : z_EH A s s.heap) (hCC : CC + 512 ≤ 601024) (hSS : SS + 3072 ≤ 7293034) :
    ∀ (fu j : Nat) (x4 : Int32) (Y : z_Y), j ≤ 512 → x4 = nI (6 * j) → lL_law_23 N L xs fu x4 Y = some 1 → ∀ (H : Heap) (locs : List Loc) (ls : Array Slot), va_P D vwCl (z_lw c b a d o Y) H → va_D A (z_lw c b a d o Y) → va_S A s.heap H locs → lv_has ls 7 [(0, .ref bS), (1, .ref (b 0)), (2, .ref (d 0)), (3, .ref o), (4, .int x4)] → W p l e room_1 s m #[Value.ref bS] below meth co H locs (CC + j) (SS + 6 * j) (lw_Z below #[Value.ref bS] s) (F0 m 23 ls []) := by
  obtain ⟨hx, hb, hr, hml, hown, hts, hX, hbl, hlocks, hgv⟩ := C0
  have htw : ∀ w ∈ wsL_law, w.before #[Value.ref bS] s = true := fun w h => hts w (wsL_law_in w h)
  have hA : ∀ q : Nat, s.heap.size ≤ q → A q := fun q h => by rw [hAe]; exact h
  have hbA : ¬ A bS := by rw [hAe]; exact Nat.not_le.mpr hbl
  have hSz : ∀ {locs : List Loc} {H : Heap}, va_S A s.heap H locs → va_S (fun q : Nat => s.heap.size ≤ q) s.heap H locs := fun h => by rw [← hAe]; exact h
  intro fu
  induction fu with
  | zero =>
    intro j x4 Y hj hx4 hf
    have hf : (none : Option Int32) = some _ := hf
    cases hf
  | succ fu ih =>
    intro j x4 Y hj hx4 hf H locs ls hP hD hS hl
    rw [lL_law_23.eq_2] at hf
    refine lv_iload hx hb dL_law_23 (lv_at hl 4 rfl) ?_
    refine lv_aload_n hx hb dL_law_25 rfl (lv_at hl 0 rfl) ?_
    refine va_slen hx hb hX hbl hbA hS dL_law_26 ?_
    refine lv_bipush (v := (6 : Int32)) hx hb dL_law_27 (by decide) ?_
    refine lv_isub hx hb dL_law_29 ?_
    refine lv_icmp_gt (tgt := 1809) hx hb dL_law_30 (by decide) (fun c1 => ?_) (fun c1 => ?_)
    · have hf := z_ifT hf c1
      refine lv_iconst (v := (1 : Int32)) hx hb dL_law_1809 (by decide) ?_
      refine va_forget (fun q hq => (hSz hS).2.2 q hq) ?_
      refine W.widen (k := 601024) (n := 7293034) (by omega) (by omega) ?_
      exact lw_ret hx hb hr hlocks dL_law_1810
    · have hf := z_ifF hf c1
      have hj : j < 512 := z_jlt hL hj hx4 c1
      refine lv_aload_n hx hb dL_law_33 rfl (lv_at hl 0 rfl) ?_
      refine lv_iload hx hb dL_law_34 (lv_at hl 4 rfl) ?_
      obtain ⟨b2, hf⟩ := z_ckE hf
      refine va_sld hx hb hX hbl hbA hS (z_inE b2) dL_law_36 ?_
      refine lv_bipush (v := (31 : Int32)) hx hb dL_law_37 (by decide) ?_
      refine lv_iand hx hb dL_law_39 ?_
      by_cases c3_0 : ((xs (x4).toNatClampNeg) &&& (31 : Int32)) = (0 : Int32)
      · have hf := z_ifT hf c3_0
        refine lv_tableIn (tgt := 168) hx hb dL_law_40 (by rw [c3_0]; decide) (by rw [c3_0]; decide) (off := 128) (by rw [c3_0]; rfl) (by decide) ?_
        refine lv_aload_n hx hb dL_law_168 rfl (lv_at hl 1 rfl) ?_
        refine lv_aload_n hx hb dL_law_169 rfl (lv_at hl 0 rfl) ?_
        refine lv_iload hx hb dL_law_170 (lv_at hl 4 rfl) ?_
        refine lv_iconst (v := (1 : Int32)) hx hb dL_law_172 (by decide) ?_
        refine lv_iadd hx hb dL_law_173 ?_
        obtain ⟨b4, hf⟩ := z_ckE hf
        refine va_sld hx hb hX hbl hbA hS (z_inE b4) dL_law_174 ?_
        refine lv_aload_n hx hb dL_law_175 rfl (lv_at hl 3 rfl) ?_
        obtain ⟨r5, Z5, h5, hf⟩ := z_b2E hf
        obtain ⟨Y5, e5, hf⟩ := z_ltE hf
        refine z_xH (As := [.ref (b 0), .int (xs ((x4 + (1 : Int32))).toNatClampNeg), .ref o]) (rest := []) (wf := z_hw c b a o) (g := (Y.1, Y.2.2)) (u0 := Z5) (V2 := z_lw c b a d o Y5) ⟨hx, hb, hml, hown, htw⟩ (kL_append l hlst D c N b a o H.size (Y.1, Y.2.2) (xs ((x4 + (1 : Int32))).toNatClampNeg) r5 Z5 h5) (vx_cwSW 3 htw gL_law_L_append rfl rfl rfl (by decide +kernel) ⟨Nat.le_of_ble_eq_true rfl, Nat.le_of_ble_eq_true rfl⟩) hP hK hD hS hA (hE.kept (fun q h1 h2 => hS.2.1 q h1 h2) (fun _ h => h)) (by rw [e5]; exact z_cutLH hD Z5) rfl hl.1 (Nat.le_of_ble_eq_true rfl) rfl dL_law_176 ⟨(show _ ≤ 601024 by omega), (show _ ≤ 7293034 by omega)⟩ (fun H locs hP hD hS => ?_)
        refine lv_istore (lv' := [(5, .int r5), (0, .ref bS), (1, .ref (b 0)), (2, .ref (d 0)), (3, .ref o), (4, .int x4)]) hx hb dL_law_179 hl (by decide) rfl (fun ls hl => ?_)
        refine lv_aload_n hx hb dL_law_181 rfl (lv_at hl 3 rfl) ?_
        refine lv_aload_n hx hb dL_law_182 rfl (lv_at hl 1 rfl) ?_
        refine lv_iload hx hb dL_law_183 (lv_at hl 5 rfl) ?_
        refine lv_iconst (v := (1 : Int32)) hx hb dL_law_185 (by decide) ?_
        refine lv_iadd hx hb dL_law_186 ?_
        obtain ⟨b6, hf⟩ := z_ckE hf
        refine va_sld hx hb hX hbl hbA hS (z_inE b6) dL_law_187 ?_
        obtain ⟨r7, u7, h7, hf⟩ := z_b2E hf
        obtain ⟨Y7, e7, hf⟩ := z_ltE hf
        refine z_xVi (As := [.int (xs ((x4 + (1 : Int32))).toNatClampNeg)]) (rest := []) (wf := z_md c d) (g := Y5.2.1) (u0 := u7) (V2 := z_lw c b a d o Y7) ⟨hx, hb, hml, hown, htw⟩ (kX5_append l D c N d H.size Y5.2.1 (xs ((x4 + (1 : Int32))).toNatClampNeg) r7 u7 h7) (cwV 1 htw gL_law_X5_append rfl rfl rfl (by decide +kernel) ⟨Nat.le_of_ble_eq_true rfl, Nat.le_of_ble_eq_true rfl⟩) hP hK hD hS hA (by rw [e7]; exact z_cutLM hD u7) (ci := 5) (q0 := 0) rfl rfl rfl rfl hl.1 (Nat.le_of_ble_eq_true rfl) rfl dL_law_188 ⟨(show _ ≤ 601024 by omega), (show _ ≤ 7293034 by omega)⟩ (fun H locs hP hD hS => ?_)
        refine lv_istore (lv' := [(6, .int r7), (5, .int r5), (0, .ref bS), (1, .ref (b 0)), (2, .ref (d 0)), (3, .ref o), (4, .int x4)]) hx hb dL_law_191 hl (by decide) rfl (fun ls hl => ?_)
        refine lv_aload_n hx hb dL_law_193 rfl (lv_at hl 4 rfl) ?_
        obtain ⟨r8, h8, hf⟩ := z_bE hf
        refine z_xVi (As := []) (rest := []) (wf := z_md c d) (g := Y7.2.1) (u0 := Y7.2.1) (V2 := z_lw c b a d o Y7) ⟨hx, hb, hml, hown, htw⟩ (kX5_thrown l D c N d H.size Y7.2.1  r8 h8) (cwV 0 htw gL_law_X5_thrown rfl rfl rfl (by decide +kernel) ⟨Nat.le_of_ble_eq_true rfl, Nat.le_of_ble_eq_true rfl⟩) hP hK hD hS hA (z_cutLMp hD) (ci := 5) (q0 := 0) rfl rfl rfl rfl hl.1 (Nat.le_of_ble_eq_true rfl) rfl dL_law_194 ⟨(show _ ≤ 601024 by omega), (show _ ≤ 7293034 by omega)⟩ (fun H locs hP hD hS => ?_)
        refine lv_iload hx hb dL_law_197 (lv_at hl 1 rfl) ?_
        refine lv_icmp_eq (tgt := 204) hx hb dL_law_199 (by decide) (fun c9 => ?_) (fun c9 => ?_)
        · have hf := z_ifT hf c9
          refine lv_iload hx hb dL_law_204 (lv_at hl 1 rfl) ?_
          refine lv_if_ne (tgt := 221) hx hb dL_law_206 (by decide) (fun c10 => ?_) (fun c10 => ?_)
          · have hf := z_ifF hf c10
            refine lv_goto (tgt := 1803) hx hb dL_law_221 (by decide) ?_
            refine lv_iinc (v := (x4 + (6 : Int32))) (lv' := [(4, .int (x4 + (6 : Int32))), (6, .int r7), (5, .int r5), (0, .ref bS), (1, .ref (b 0)), (2, .ref (d 0)), (3, .ref o)]) hx hb dL_law_1803 hl (k := 6) rfl rfl (by decide) rfl (fun ls hl => ?_)
            refine lv_goto (tgt := 23) hx hb dL_law_1806 (by decide) ?_
            refine W.widen (k := CC + (j + 1)) (n := SS + 6 * (j + 1)) (by omega) (by omega) ?_
            exact ih (j + 1) _ _ (by omega) (by rw [hx4]; exact z_nI6 j) hf H locs ls hP hD hS (lv_sub hl [3, 4, 5, 6, 0] rfl)
          · have hf := z_ifT hf c10
            refine lv_aload_n hx hb dL_law_209 rfl (lv_at hl 5 rfl) ?_
            refine lv_iconst (v := (0 : Int32)) hx hb dL_law_210 (by decide) ?_
            refine va_lald hx hb hK.1 (z_subP hP z_inO) 0 3 rfl rfl (z_inE (by decide)) dL_law_211 ?_
            refine lv_iload hx hb dL_law_212 (lv_at hl 0 rfl) ?_
            refine lv_i2l (v := (r7).toInt64) hx hb dL_law_214 rfl ?_
            refine W.lcmp hx hb dL_law_215 ?_
            refine lv_if_eq (tgt := 221) hx hb dL_law_216 (by decide) (fun c11 => ?_) (fun c11 => ?_)
            · have hf := z_ifT hf c11
              refine lv_goto (tgt := 1803) hx hb dL_law_221 (by decide) ?_
              refine lv_iinc (v := (x4 + (6 : Int32))) (lv' := [(4, .int (x4 + (6 : Int32))), (6, .int r7), (5, .int r5), (0, .ref bS), (1, .ref (b 0)), (2, .ref (d 0)), (3, .ref o)]) hx hb dL_law_1803 hl (k := 6) rfl rfl (by decide) rfl (fun ls hl => ?_)
              refine lv_goto (tgt := 23) hx hb dL_law_1806 (by decide) ?_
              refine W.widen (k := CC + (j + 1)) (n := SS + 6 * (j + 1)) (by omega) (by omega) ?_
              exact ih (j + 1) _ _ (by omega) (by rw [hx4]; exact z_nI6 j) hf H locs ls hP hD hS (lv_sub hl [3, 4, 5, 6, 0] rfl)
            · have hf := z_ifF hf c11
              refine lv_iconst (v := (0 : Int32)) hx hb dL_law_219 (by decide) ?_
              exact absurd hf (by decide)
        · have hf := z_ifF hf c9
          refine lv_iconst (v := (0 : Int32)) hx hb dL_law_202 (by decide) ?_
          exact absurd hf (by decide)
      have hf := z_ifF hf c3_0
      by_cases c3_1 : ((xs (x4).toNatClampNeg) &&& (31 : Int32)) = (1 : Int32)
      · have hf := z_ifT hf c3_1
        refine lv_tableIn (tgt := 224) hx hb dL_law_40 (by rw [c3_1]; decide) (by rw [c3_1]; decide) (off := 184) (by rw [c3_1]; rfl) (by decide) ?_
        refine lv_aload_n hx hb dL_law_224 rfl (lv_at hl 1 rfl) ?_
        obtain ⟨r12, u12, h12, hf⟩ := z_b2E hf
        obtain ⟨Y12, e12, hf⟩ := z_ltE hf
        refine z_xVi (As := []) (rest := []) (wf := z_dw c b a) (g := Y.1) (u0 := u12) (V2 := z_lw c b a d o Y12) ⟨hx, hb, hml, hown, htw⟩ (kX4_clearText l D c N b a H.size Y.1  r12 u12 h12) (cwV 0 htw gL_law_X4_clearText rfl rfl rfl (by decide +kernel) ⟨Nat.le_of_ble_eq_true rfl, Nat.le_of_ble_eq_true rfl⟩) hP hK hD hS hA (by rw [e12]; exact z_cutLD hD u12) (ci := 4) (q0 := 0) rfl rfl rfl rfl hl.1 (Nat.le_of_ble_eq_true rfl) rfl dL_law_225 ⟨(show _ ≤ 601024 by omega), (show _ ≤ 7293034 by omega)⟩ (fun H locs hP hD hS => ?_)
        refine lv_aload_n hx hb dL_law_228 rfl (lv_at hl 2 rfl) ?_
        obtain ⟨r13, u13, h13, hf⟩ := z_b2E hf
        obtain ⟨Y13, e13, hf⟩ := z_ltE hf
        refine z_xVi (As := []) (rest := [.int r12]) (wf := z_md c d) (g := Y12.2.1) (u0 := u13) (V2 := z_lw c b a d o Y13) ⟨hx, hb, hml, hown, htw⟩ (kX5_clearText l D c N d H.size Y12.2.1  r13 u13 h13) (cwV 0 htw gL_law_X5_clearText rfl rfl rfl (by decide +kernel) ⟨Nat.le_of_ble_eq_true rfl, Nat.le_of_ble_eq_true rfl⟩) hP hK hD hS hA (by rw [e13]; exact z_cutLM hD u13) (ci := 5) (q0 := 0) rfl rfl rfl rfl hl.1 (Nat.le_of_ble_eq_true rfl) rfl dL_law_229 ⟨(show _ ≤ 601024 by omega), (show _ ≤ 7293034 by omega)⟩ (fun H locs hP hD hS => ?_)
        refine lv_icmp_eq (tgt := 1803) hx hb dL_law_232 (by decide) (fun c14 => ?_) (fun c14 => ?_)
        · have hf := z_ifT hf c14
          refine lv_iinc (v := (x4 + (6 : Int32))) (lv' := [(4, .int (x4 + (6 : Int32))), (0, .ref bS), (1, .ref (b 0)), (2, .ref (d 0)), (3, .ref o)]) hx hb dL_law_1803 hl (k := 4) rfl rfl (by decide) rfl (fun ls hl => ?_)
          refine lv_goto (tgt := 23) hx hb dL_law_1806 (by decide) ?_
          refine W.widen (k := CC + (j + 1)) (n := SS + 6 * (j + 1)) (by omega) (by omega) ?_
          exact ih (j + 1) _ _ (by omega) (by rw [hx4]; exact z_nI6 j) hf H locs ls hP hD hS (lv_sub hl [1, 2, 3, 4, 0] rfl)
        · have hf := z_ifF hf c14
          refine lv_iconst (v := (0 : Int32)) hx hb dL_law_235 (by decide) ?_
          exact absurd hf (by decide)
      have hf := z_ifF hf c3_1
      by_cases c3_2 : ((xs (x4).toNatClampNeg) &&& (31 : Int32)) = (2 : Int32)
      · have hf := z_ifT hf c3_2
        refine lv_tableIn (tgt := 237) hx hb dL_law_40 (by rw [c3_2]; decide) (by rw [c3_2]; decide) (off := 197) (by rw [c3_2]; rfl) (by decide) ?_
        refine lv_aload_n hx hb dL_law_237 rfl (lv_at hl 1 rfl) ?_
        obtain ⟨r15, h15, hf⟩ := z_bE hf
        refine z_xVi (As := []) (rest := []) (wf := z_dw c b a) (g := Y.1) (u0 := Y.1) (V2 := z_lw c b a d o Y) ⟨hx, hb, hml, hown, htw⟩ (kX4_errorPosition l D c N b a H.size Y.1  r15 h15) (cwV 0 htw gL_law_X4_errorPosition rfl rfl rfl (by decide +kernel) ⟨Nat.le_of_ble_eq_true rfl, Nat.le_of_ble_eq_true rfl⟩) hP hK hD hS hA (z_cutLDp hD) (ci := 4) (q0 := 0) rfl rfl rfl rfl hl.1 (Nat.le_of_ble_eq_true rfl) rfl dL_law_238 ⟨(show _ ≤ 601024 by omega), (show _ ≤ 7293034 by omega)⟩ (fun H locs hP hD hS => ?_)
        refine lv_aload_n hx hb dL_law_241 rfl (lv_at hl 2 rfl) ?_
        obtain ⟨r16, u16, h16, hf⟩ := z_b2E hf
        obtain ⟨Y16, e16, hf⟩ := z_ltE hf
        refine z_xVi (As := []) (rest := [.int r15]) (wf := z_md c d) (g := Y.2.1) (u0 := u16) (V2 := z_lw c b a d o Y16) ⟨hx, hb, hml, hown, htw⟩ (kX5_errorPosition l D c N d H.size Y.2.1  r16 u16 h16) (cwV 0 htw gL_law_X5_errorPosition rfl rfl rfl (by decide +kernel) ⟨Nat.le_of_ble_eq_true rfl, Nat.le_of_ble_eq_true rfl⟩) hP hK hD hS hA (by rw [e16]; exact z_cutLM hD u16) (ci := 5) (q0 := 0) rfl rfl rfl rfl hl.1 (Nat.le_of_ble_eq_true rfl) rfl dL_law_242 ⟨(show _ ≤ 601024 by omega), (show _ ≤ 7293034 by omega)⟩ (fun H locs hP hD hS => ?_)
        refine lv_icmp_eq (tgt := 1803) hx hb dL_law_245 (by decide) (fun c17 => ?_) (fun c17 => ?_)
        · have hf := z_ifT hf c17
          refine lv_iinc (v := (x4 + (6 : Int32))) (lv' := [(4, .int (x4 + (6 : Int32))), (0, .ref bS), (1, .ref (b 0)), (2, .ref (d 0)), (3, .ref o)]) hx hb dL_law_1803 hl (k := 4) rfl rfl (by decide) rfl (fun ls hl => ?_)
          refine lv_goto (tgt := 23) hx hb dL_law_1806 (by decide) ?_
          refine W.widen (k := CC + (j + 1)) (n := SS + 6 * (j + 1)) (by omega) (by omega) ?_
          exact ih (j + 1) _ _ (by omega) (by rw [hx4]; exact z_nI6 j) hf H locs ls hP hD hS (lv_sub hl [1, 2, 3, 4, 0] rfl)
        · have hf := z_ifF hf c17
          refine lv_iconst (v := (0 : Int32)) hx hb dL_law_248 (by decide) ?_
          exact absurd hf (by decide)
      have hf := z_ifF hf c3_2
      by_cases c3_3 : ((xs (x4).toNatClampNeg) &&& (31 : Int32)) = (3 : Int32)
      · have hf := z_ifT hf c3_3
        refine lv_tableIn (tgt := 250) hx hb dL_law_40 (by rw [c3_3]; decide) (by rw [c3_3]; decide) (off := 210) (by rw [c3_3]; rfl) (by decide) ?_
        refine lv_aload_n hx hb dL_law_250 rfl (lv_at hl 1 rfl) ?_
        refine lv_aload_n hx hb dL_law_251 rfl (lv_at hl 3 rfl) ?_
        obtain ⟨r18, Z18, h18, hf⟩ := z_b2E hf
        obtain ⟨Y18, e18, hf⟩ := z_ltE hf
        refine z_xH (As := [.ref (b 0), .ref o]) (rest := []) (wf := z_hw c b a o) (g := (Y.1, Y.2.2)) (u0 := Z18) (V2 := z_lw c b a d o Y18) ⟨hx, hb, hml, hown, htw⟩ (kL_load l hlst D c N b a o H.size (Y.1, Y.2.2)  r18 Z18 h18) (vx_cwSW 2 htw gL_law_L_load rfl rfl rfl (by decide +kernel) ⟨Nat.le_of_ble_eq_true rfl, Nat.le_of_ble_eq_true rfl⟩) hP hK hD hS hA (hE.kept (fun q h1 h2 => hS.2.1 q h1 h2) (fun _ h => h)) (by rw [e18]; exact z_cutLH hD Z18) rfl hl.1 (Nat.le_of_ble_eq_true rfl) rfl dL_law_252 ⟨(show _ ≤ 601024 by omega), (show _ ≤ 7293034 by omega)⟩ (fun H locs hP hD hS => ?_)
        refine lv_istore (lv' := [(5, .int r18), (0, .ref bS), (1, .ref (b 0)), (2, .ref (d 0)), (3, .ref o), (4, .int x4)]) hx hb dL_law_255 hl (by decide) rfl (fun ls hl => ?_)
        refine lv_aload_n hx hb dL_law_257 rfl (lv_at hl 3 rfl) ?_
        obtain ⟨r19, u19, h19, hf⟩ := z_b2E hf
        obtain ⟨Y19, e19, hf⟩ := z_ltE hf
        refine z_xVi (As := []) (rest := []) (wf := z_md c d) (g := Y18.2.1) (u0 := u19) (V2 := z_lw c b a d o Y19) ⟨hx, hb, hml, hown, htw⟩ (kX5_load l D c N d H.size Y18.2.1  r19 u19 h19) (cwV 0 htw gL_law_X5_load rfl rfl rfl (by decide +kernel) ⟨Nat.le_of_ble_eq_true rfl, Nat.le_of_ble_eq_true rfl⟩) hP hK hD hS hA (by rw [e19]; exact z_cutLM hD u19) (ci := 5) (q0 := 0) rfl rfl rfl rfl hl.1 (Nat.le_of_ble_eq_true rfl) rfl dL_law_258 ⟨(show _ ≤ 601024 by omega), (show _ ≤ 7293034 by omega)⟩ (fun H locs hP hD hS => ?_)
        refine lv_istore (lv' := [(6, .int r19), (5, .int r18), (0, .ref bS), (1, .ref (b 0)), (2, .ref (d 0)), (3, .ref o), (4, .int x4)]) hx hb dL_law_261 hl (by decide) rfl (fun ls hl => ?_)
        refine lv_aload_n hx hb dL_law_263 rfl (lv_at hl 4 rfl) ?_
        obtain ⟨r20, h20, hf⟩ := z_bE hf
        refine z_xVi (As := []) (rest := []) (wf := z_md c d) (g := Y19.2.1) (u0 := Y19.2.1) (V2 := z_lw c b a d o Y19) ⟨hx, hb, hml, hown, htw⟩ (kX5_thrown l D c N d H.size Y19.2.1  r20 h20) (cwV 0 htw gL_law_X5_thrown rfl rfl rfl (by decide +kernel) ⟨Nat.le_of_ble_eq_true rfl, Nat.le_of_ble_eq_true rfl⟩) hP hK hD hS hA (z_cutLMp hD) (ci := 5) (q0 := 0) rfl rfl rfl rfl hl.1 (Nat.le_of_ble_eq_true rfl) rfl dL_law_264 ⟨(show _ ≤ 601024 by omega), (show _ ≤ 7293034 by omega)⟩ (fun H locs hP hD hS => ?_)
        refine lv_iload hx hb dL_law_267 (lv_at hl 1 rfl) ?_
        refine lv_icmp_eq (tgt := 274) hx hb dL_law_269 (by decide) (fun c21 => ?_) (fun c21 => ?_)
        · have hf := z_ifT hf c21
          refine lv_iload hx hb dL_law_274 (lv_at hl 1 rfl) ?_
          refine lv_if_ne (tgt := 291) hx hb dL_law_276 (by decide) (fun c22 => ?_) (fun c22 => ?_)
          · have hf := z_ifF hf c22
            refine lv_goto (tgt := 1803) hx hb dL_law_291 (by decide) ?_
            refine lv_iinc (v := (x4 + (6 : Int32))) (lv' := [(4, .int (x4 + (6 : Int32))), (6, .int r19), (5, .int r18), (0, .ref bS), (1, .ref (b 0)), (2, .ref (d 0)), (3, .ref o)]) hx hb dL_law_1803 hl (k := 6) rfl rfl (by decide) rfl (fun ls hl => ?_)
            refine lv_goto (tgt := 23) hx hb dL_law_1806 (by decide) ?_
            refine W.widen (k := CC + (j + 1)) (n := SS + 6 * (j + 1)) (by omega) (by omega) ?_
            exact ih (j + 1) _ _ (by omega) (by rw [hx4]; exact z_nI6 j) hf H locs ls hP hD hS (lv_sub hl [3, 4, 5, 6, 0] rfl)
          · have hf := z_ifT hf c22
            refine lv_aload_n hx hb dL_law_279 rfl (lv_at hl 5 rfl) ?_
            refine lv_iconst (v := (0 : Int32)) hx hb dL_law_280 (by decide) ?_
            refine va_lald hx hb hK.1 (z_subP hP z_inO) 0 3 rfl rfl (z_inE (by decide)) dL_law_281 ?_
            refine lv_iload hx hb dL_law_282 (lv_at hl 0 rfl) ?_
            refine lv_i2l (v := (r19).toInt64) hx hb dL_law_284 rfl ?_
            refine W.lcmp hx hb dL_law_285 ?_
            refine lv_if_eq (tgt := 291) hx hb dL_law_286 (by decide) (fun c23 => ?_) (fun c23 => ?_)
            · have hf := z_ifT hf c23
              refine lv_goto (tgt := 1803) hx hb dL_law_291 (by decide) ?_
              refine lv_iinc (v := (x4 + (6 : Int32))) (lv' := [(4, .int (x4 + (6 : Int32))), (6, .int r19), (5, .int r18), (0, .ref bS), (1, .ref (b 0)), (2, .ref (d 0)), (3, .ref o)]) hx hb dL_law_1803 hl (k := 6) rfl rfl (by decide) rfl (fun ls hl => ?_)
              refine lv_goto (tgt := 23) hx hb dL_law_1806 (by decide) ?_
              refine W.widen (k := CC + (j + 1)) (n := SS + 6 * (j + 1)) (by omega) (by omega) ?_
              exact ih (j + 1) _ _ (by omega) (by rw [hx4]; exact z_nI6 j) hf H locs ls hP hD hS (lv_sub hl [3, 4, 5, 6, 0] rfl)
            · have hf := z_ifF hf c23
              refine lv_iconst (v := (0 : Int32)) hx hb dL_law_289 (by decide) ?_
              exact absurd hf (by decide)
        · have hf := z_ifF hf c21
          refine lv_iconst (v := (0 : Int32)) hx hb dL_law_272 (by decide) ?_
          exact absurd hf (by decide)
      have hf := z_ifF hf c3_3
      by_cases c3_4 : ((xs (x4).toNatClampNeg) &&& (31 : Int32)) = (4 : Int32)
      · have hf := z_ifT hf c3_4
        refine lv_tableIn (tgt := 294) hx hb dL_law_40 (by rw [c3_4]; decide) (by rw [c3_4]; decide) (off := 254) (by rw [c3_4]; rfl) (by decide) ?_
        refine lv_aload_n hx hb dL_law_294 rfl (lv_at hl 1 rfl) ?_
        refine lv_aload_n hx hb dL_law_295 rfl (lv_at hl 0 rfl) ?_
        refine lv_iload hx hb dL_law_296 (lv_at hl 4 rfl) ?_
        refine lv_iconst (v := (1 : Int32)) hx hb dL_law_298 (by decide) ?_
        refine lv_iadd hx hb dL_law_299 ?_
        obtain ⟨b24, hf⟩ := z_ckE hf
        refine va_sld hx hb hX hbl hbA hS (z_inE b24) dL_law_300 ?_
        refine lv_aload_n hx hb dL_law_301 rfl (lv_at hl 3 rfl) ?_
        obtain ⟨r25, Z25, h25, hf⟩ := z_b2E hf
        obtain ⟨Y25, e25, hf⟩ := z_ltE hf
        refine z_xH (As := [.ref (b 0), .int (xs ((x4 + (1 : Int32))).toNatClampNeg), .ref o]) (rest := []) (wf := z_hw c b a o) (g := (Y.1, Y.2.2)) (u0 := Z25) (V2 := z_lw c b a d o Y25) ⟨hx, hb, hml, hown, htw⟩ (kL_about l hlst D c N b a o H.size (Y.1, Y.2.2) (xs ((x4 + (1 : Int32))).toNatClampNeg) r25 Z25 h25) (vx_cwSW 3 htw gL_law_L_about rfl rfl rfl (by decide +kernel) ⟨Nat.le_of_ble_eq_true rfl, Nat.le_of_ble_eq_true rfl⟩) hP hK hD hS hA (hE.kept (fun q h1 h2 => hS.2.1 q h1 h2) (fun _ h => h)) (by rw [e25]; exact z_cutLH hD Z25) rfl hl.1 (Nat.le_of_ble_eq_true rfl) rfl dL_law_302 ⟨(show _ ≤ 601024 by omega), (show _ ≤ 7293034 by omega)⟩ (fun H locs hP hD hS => ?_)
        refine lv_istore (lv' := [(5, .int r25), (0, .ref bS), (1, .ref (b 0)), (2, .ref (d 0)), (3, .ref o), (4, .int x4)]) hx hb dL_law_305 hl (by decide) rfl (fun ls hl => ?_)
        refine lv_aload_n hx hb dL_law_307 rfl (lv_at hl 3 rfl) ?_
        refine lv_aload_n hx hb dL_law_308 rfl (lv_at hl 1 rfl) ?_
        refine lv_iload hx hb dL_law_309 (lv_at hl 5 rfl) ?_
        refine lv_iconst (v := (1 : Int32)) hx hb dL_law_311 (by decide) ?_
        refine lv_iadd hx hb dL_law_312 ?_
        obtain ⟨b26, hf⟩ := z_ckE hf
        refine va_sld hx hb hX hbl hbA hS (z_inE b26) dL_law_313 ?_
        obtain ⟨r27, u27, h27, hf⟩ := z_b2E hf
        obtain ⟨Y27, e27, hf⟩ := z_ltE hf
        refine z_xVi (As := [.int (xs ((x4 + (1 : Int32))).toNatClampNeg)]) (rest := []) (wf := z_md c d) (g := Y25.2.1) (u0 := u27) (V2 := z_lw c b a d o Y27) ⟨hx, hb, hml, hown, htw⟩ (kX5_about l D c N d H.size Y25.2.1 (xs ((x4 + (1 : Int32))).toNatClampNeg) r27 u27 h27) (cwV 1 htw gL_law_X5_about rfl rfl rfl (by decide +kernel) ⟨Nat.le_of_ble_eq_true rfl, Nat.le_of_ble_eq_true rfl⟩) hP hK hD hS hA (by rw [e27]; exact z_cutLM hD u27) (ci := 5) (q0 := 0) rfl rfl rfl rfl hl.1 (Nat.le_of_ble_eq_true rfl) rfl dL_law_314 ⟨(show _ ≤ 601024 by omega), (show _ ≤ 7293034 by omega)⟩ (fun H locs hP hD hS => ?_)
        refine lv_istore (lv' := [(6, .int r27), (5, .int r25), (0, .ref bS), (1, .ref (b 0)), (2, .ref (d 0)), (3, .ref o), (4, .int x4)]) hx hb dL_law_317 hl (by decide) rfl (fun ls hl => ?_)
        refine lv_aload_n hx hb dL_law_319 rfl (lv_at hl 4 rfl) ?_
        obtain ⟨r28, h28, hf⟩ := z_bE hf
        refine z_xVi (As := []) (rest := []) (wf := z_md c d) (g := Y27.2.1) (u0 := Y27.2.1) (V2 := z_lw c b a d o Y27) ⟨hx, hb, hml, hown, htw⟩ (kX5_thrown l D c N d H.size Y27.2.1  r28 h28) (cwV 0 htw gL_law_X5_thrown rfl rfl rfl (by decide +kernel) ⟨Nat.le_of_ble_eq_true rfl, Nat.le_of_ble_eq_true rfl⟩) hP hK hD hS hA (z_cutLMp hD) (ci := 5) (q0 := 0) rfl rfl rfl rfl hl.1 (Nat.le_of_ble_eq_true rfl) rfl dL_law_320 ⟨(show _ ≤ 601024 by omega), (show _ ≤ 7293034 by omega)⟩ (fun H locs hP hD hS => ?_)
        refine lv_iload hx hb dL_law_323 (lv_at hl 1 rfl) ?_
        refine lv_icmp_eq (tgt := 330) hx hb dL_law_325 (by decide) (fun c29 => ?_) (fun c29 => ?_)
        · have hf := z_ifT hf c29
          refine lv_iload hx hb dL_law_330 (lv_at hl 1 rfl) ?_
          refine lv_if_ne (tgt := 347) hx hb dL_law_332 (by decide) (fun c30 => ?_) (fun c30 => ?_)
          · have hf := z_ifF hf c30
            refine lv_goto (tgt := 1803) hx hb dL_law_347 (by decide) ?_
            refine lv_iinc (v := (x4 + (6 : Int32))) (lv' := [(4, .int (x4 + (6 : Int32))), (6, .int r27), (5, .int r25), (0, .ref bS), (1, .ref (b 0)), (2, .ref (d 0)), (3, .ref o)]) hx hb dL_law_1803 hl (k := 6) rfl rfl (by decide) rfl (fun ls hl => ?_)
            refine lv_goto (tgt := 23) hx hb dL_law_1806 (by decide) ?_
            refine W.widen (k := CC + (j + 1)) (n := SS + 6 * (j + 1)) (by omega) (by omega) ?_
            exact ih (j + 1) _ _ (by omega) (by rw [hx4]; exact z_nI6 j) hf H locs ls hP hD hS (lv_sub hl [3, 4, 5, 6, 0] rfl)
          · have hf := z_ifT hf c30
            refine lv_aload_n hx hb dL_law_335 rfl (lv_at hl 5 rfl) ?_
            refine lv_iconst (v := (0 : Int32)) hx hb dL_law_336 (by decide) ?_
            refine va_lald hx hb hK.1 (z_subP hP z_inO) 0 3 rfl rfl (z_inE (by decide)) dL_law_337 ?_
            refine lv_iload hx hb dL_law_338 (lv_at hl 0 rfl) ?_
            refine lv_i2l (v := (r27).toInt64) hx hb dL_law_340 rfl ?_
            refine W.lcmp hx hb dL_law_341 ?_
            refine lv_if_eq (tgt := 347) hx hb dL_law_342 (by decide) (fun c31 => ?_) (fun c31 => ?_)
            · have hf := z_ifT hf c31
              refine lv_goto (tgt := 1803) hx hb dL_law_347 (by decide) ?_
              refine lv_iinc (v := (x4 + (6 : Int32))) (lv' := [(4, .int (x4 + (6 : Int32))), (6, .int r27), (5, .int r25), (0, .ref bS), (1, .ref (b 0)), (2, .ref (d 0)), (3, .ref o)]) hx hb dL_law_1803 hl (k := 6) rfl rfl (by decide) rfl (fun ls hl => ?_)
              refine lv_goto (tgt := 23) hx hb dL_law_1806 (by decide) ?_
              refine W.widen (k := CC + (j + 1)) (n := SS + 6 * (j + 1)) (by omega) (by omega) ?_
              exact ih (j + 1) _ _ (by omega) (by rw [hx4]; exact z_nI6 j) hf H locs ls hP hD hS (lv_sub hl [3, 4, 5, 6, 0] rfl)
            · have hf := z_ifF hf c31
              refine lv_iconst (v := (0 : Int32)) hx hb dL_law_345 (by decide) ?_
              exact absurd hf (by decide)
        · have hf := z_ifF hf c29
          refine lv_iconst (v := (0 : Int32)) hx hb dL_law_328 (by decide) ?_
          exact absurd hf (by decide)
      have hf := z_ifF hf c3_4
      by_cases c3_5 : ((xs (x4).toNatClampNeg) &&& (31 : Int32)) = (5 : Int32)
      · have hf := z_ifT hf c3_5
        refine lv_tableIn (tgt := 350) hx hb dL_law_40 (by rw [c3_5]; decide) (by rw [c3_5]; decide) (off := 310) (by rw [c3_5]; rfl) (by decide) ?_
        refine lv_aload_n hx hb dL_law_350 rfl (lv_at hl 1 rfl) ?_
        refine lv_aload_n hx hb dL_law_351 rfl (lv_at hl 0 rfl) ?_
        refine lv_iload hx hb dL_law_352 (lv_at hl 4 rfl) ?_
        refine lv_iconst (v := (1 : Int32)) hx hb dL_law_354 (by decide) ?_
        refine lv_iadd hx hb dL_law_355 ?_
        obtain ⟨b32, hf⟩ := z_ckE hf
        refine va_sld hx hb hX hbl hbA hS (z_inE b32) dL_law_356 ?_
        refine lv_aload_n hx hb dL_law_357 rfl (lv_at hl 0 rfl) ?_
        refine lv_iload hx hb dL_law_358 (lv_at hl 4 rfl) ?_
        refine lv_iconst (v := (2 : Int32)) hx hb dL_law_360 (by decide) ?_
        refine lv_iadd hx hb dL_law_361 ?_
        obtain ⟨b33, hf⟩ := z_ckE hf
        refine va_sld hx hb hX hbl hbA hS (z_inE b33) dL_law_362 ?_
        refine lv_aload_n hx hb dL_law_363 rfl (lv_at hl 3 rfl) ?_
        obtain ⟨r34, Z34, h34, hf⟩ := z_b2E hf
        obtain ⟨Y34, e34, hf⟩ := z_ltE hf
        refine z_xH (As := [.ref (b 0), .int (xs ((x4 + (1 : Int32))).toNatClampNeg), .int (xs ((x4 + (2 : Int32))).toNatClampNeg), .ref o]) (rest := []) (wf := z_hw c b a o) (g := (Y.1, Y.2.2)) (u0 := Z34) (V2 := z_lw c b a d o Y34) ⟨hx, hb, hml, hown, htw⟩ (kL_order l hlst D c N b a o H.size (Y.1, Y.2.2) (xs ((x4 + (1 : Int32))).toNatClampNeg) (xs ((x4 + (2 : Int32))).toNatClampNeg) r34 Z34 h34) (vx_cwSW 4 htw gL_law_L_order rfl rfl rfl (by decide +kernel) ⟨Nat.le_of_ble_eq_true rfl, Nat.le_of_ble_eq_true rfl⟩) hP hK hD hS hA (hE.kept (fun q h1 h2 => hS.2.1 q h1 h2) (fun _ h => h)) (by rw [e34]; exact z_cutLH hD Z34) rfl hl.1 (Nat.le_of_ble_eq_true rfl) rfl dL_law_364 ⟨(show _ ≤ 601024 by omega), (show _ ≤ 7293034 by omega)⟩ (fun H locs hP hD hS => ?_)
        refine lv_istore (lv' := [(5, .int r34), (0, .ref bS), (1, .ref (b 0)), (2, .ref (d 0)), (3, .ref o), (4, .int x4)]) hx hb dL_law_367 hl (by decide) rfl (fun ls hl => ?_)
        refine lv_aload_n hx hb dL_law_369 rfl (lv_at hl 3 rfl) ?_
        refine lv_aload_n hx hb dL_law_370 rfl (lv_at hl 1 rfl) ?_
        refine lv_iload hx hb dL_law_371 (lv_at hl 5 rfl) ?_
        refine lv_iconst (v := (1 : Int32)) hx hb dL_law_373 (by decide) ?_
        refine lv_iadd hx hb dL_law_374 ?_
        obtain ⟨b35, hf⟩ := z_ckE hf
        refine va_sld hx hb hX hbl hbA hS (z_inE b35) dL_law_375 ?_
        refine lv_aload_n hx hb dL_law_376 rfl (lv_at hl 1 rfl) ?_
        refine lv_iload hx hb dL_law_377 (lv_at hl 5 rfl) ?_
        refine lv_iconst (v := (2 : Int32)) hx hb dL_law_379 (by decide) ?_
        refine lv_iadd hx hb dL_law_380 ?_
        obtain ⟨b36, hf⟩ := z_ckE hf
        refine va_sld hx hb hX hbl hbA hS (z_inE b36) dL_law_381 ?_
        obtain ⟨r37, u37, h37, hf⟩ := z_b2E hf
        obtain ⟨Y37, e37, hf⟩ := z_ltE hf
        refine z_xVi (As := [.int (xs ((x4 + (1 : Int32))).toNatClampNeg), .int (xs ((x4 + (2 : Int32))).toNatClampNeg)]) (rest := []) (wf := z_md c d) (g := Y34.2.1) (u0 := u37) (V2 := z_lw c b a d o Y37) ⟨hx, hb, hml, hown, htw⟩ (kX5_order l D c N d H.size Y34.2.1 (xs ((x4 + (1 : Int32))).toNatClampNeg) (xs ((x4 + (2 : Int32))).toNatClampNeg) r37 u37 h37) (cwV 2 htw gL_law_X5_order rfl rfl rfl (by decide +kernel) ⟨Nat.le_of_ble_eq_true rfl, Nat.le_of_ble_eq_true rfl⟩) hP hK hD hS hA (by rw [e37]; exact z_cutLM hD u37) (ci := 5) (q0 := 0) rfl rfl rfl rfl hl.1 (Nat.le_of_ble_eq_true rfl) rfl dL_law_382 ⟨(show _ ≤ 601024 by omega), (show _ ≤ 7293034 by omega)⟩ (fun H locs hP hD hS => ?_)
        refine lv_istore (lv' := [(6, .int r37), (5, .int r34), (0, .ref bS), (1, .ref (b 0)), (2, .ref (d 0)), (3, .ref o), (4, .int x4)]) hx hb dL_law_385 hl (by decide) rfl (fun ls hl => ?_)
        refine lv_aload_n hx hb dL_law_387 rfl (lv_at hl 4 rfl) ?_
        obtain ⟨r38, h38, hf⟩ := z_bE hf
        refine z_xVi (As := []) (rest := []) (wf := z_md c d) (g := Y37.2.1) (u0 := Y37.2.1) (V2 := z_lw c b a d o Y37) ⟨hx, hb, hml, hown, htw⟩ (kX5_thrown l D c N d H.size Y37.2.1  r38 h38) (cwV 0 htw gL_law_X5_thrown rfl rfl rfl (by decide +kernel) ⟨Nat.le_of_ble_eq_true rfl, Nat.le_of_ble_eq_true rfl⟩) hP hK hD hS hA (z_cutLMp hD) (ci := 5) (q0 := 0) rfl rfl rfl rfl hl.1 (Nat.le_of_ble_eq_true rfl) rfl dL_law_388 ⟨(show _ ≤ 601024 by omega), (show _ ≤ 7293034 by omega)⟩ (fun H locs hP hD hS => ?_)
        refine lv_iload hx hb dL_law_391 (lv_at hl 1 rfl) ?_
        refine lv_icmp_eq (tgt := 398) hx hb dL_law_393 (by decide) (fun c39 => ?_) (fun c39 => ?_)
        · have hf := z_ifT hf c39
          refine lv_iload hx hb dL_law_398 (lv_at hl 1 rfl) ?_
          refine lv_if_ne (tgt := 415) hx hb dL_law_400 (by decide) (fun c40 => ?_) (fun c40 => ?_)
          · have hf := z_ifF hf c40
            refine lv_goto (tgt := 1803) hx hb dL_law_415 (by decide) ?_
            refine lv_iinc (v := (x4 + (6 : Int32))) (lv' := [(4, .int (x4 + (6 : Int32))), (6, .int r37), (5, .int r34), (0, .ref bS), (1, .ref (b 0)), (2, .ref (d 0)), (3, .ref o)]) hx hb dL_law_1803 hl (k := 6) rfl rfl (by decide) rfl (fun ls hl => ?_)
            refine lv_goto (tgt := 23) hx hb dL_law_1806 (by decide) ?_
            refine W.widen (k := CC + (j + 1)) (n := SS + 6 * (j + 1)) (by omega) (by omega) ?_
            exact ih (j + 1) _ _ (by omega) (by rw [hx4]; exact z_nI6 j) hf H locs ls hP hD hS (lv_sub hl [3, 4, 5, 6, 0] rfl)
          · have hf := z_ifT hf c40
            refine lv_aload_n hx hb dL_law_403 rfl (lv_at hl 5 rfl) ?_
            refine lv_iconst (v := (0 : Int32)) hx hb dL_law_404 (by decide) ?_
            refine va_lald hx hb hK.1 (z_subP hP z_inO) 0 3 rfl rfl (z_inE (by decide)) dL_law_405 ?_
            refine lv_iload hx hb dL_law_406 (lv_at hl 0 rfl) ?_
            refine lv_i2l (v := (r37).toInt64) hx hb dL_law_408 rfl ?_
            refine W.lcmp hx hb dL_law_409 ?_
            refine lv_if_eq (tgt := 415) hx hb dL_law_410 (by decide) (fun c41 => ?_) (fun c41 => ?_)
            · have hf := z_ifT hf c41
              refine lv_goto (tgt := 1803) hx hb dL_law_415 (by decide) ?_
              refine lv_iinc (v := (x4 + (6 : Int32))) (lv' := [(4, .int (x4 + (6 : Int32))), (6, .int r37), (5, .int r34), (0, .ref bS), (1, .ref (b 0)), (2, .ref (d 0)), (3, .ref o)]) hx hb dL_law_1803 hl (k := 6) rfl rfl (by decide) rfl (fun ls hl => ?_)
              refine lv_goto (tgt := 23) hx hb dL_law_1806 (by decide) ?_
              refine W.widen (k := CC + (j + 1)) (n := SS + 6 * (j + 1)) (by omega) (by omega) ?_
              exact ih (j + 1) _ _ (by omega) (by rw [hx4]; exact z_nI6 j) hf H locs ls hP hD hS (lv_sub hl [3, 4, 5, 6, 0] rfl)
            · have hf := z_ifF hf c41
              refine lv_iconst (v := (0 : Int32)) hx hb dL_law_413 (by decide) ?_
              exact absurd hf (by decide)
        · have hf := z_ifF hf c39
          refine lv_iconst (v := (0 : Int32)) hx hb dL_law_396 (by decide) ?_
          exact absurd hf (by decide)
      have hf := z_ifF hf c3_5
      by_cases c3_6 : ((xs (x4).toNatClampNeg) &&& (31 : Int32)) = (6 : Int32)
      · have hf := z_ifT hf c3_6
        refine lv_tableIn (tgt := 418) hx hb dL_law_40 (by rw [c3_6]; decide) (by rw [c3_6]; decide) (off := 378) (by rw [c3_6]; rfl) (by decide) ?_
        refine lv_aload_n hx hb dL_law_418 rfl (lv_at hl 1 rfl) ?_
        refine lv_aload_n hx hb dL_law_419 rfl (lv_at hl 0 rfl) ?_
        refine lv_iload hx hb dL_law_420 (lv_at hl 4 rfl) ?_
        refine lv_iconst (v := (1 : Int32)) hx hb dL_law_422 (by decide) ?_
        refine lv_iadd hx hb dL_law_423 ?_
        obtain ⟨b42, hf⟩ := z_ckE hf
        refine va_sld hx hb hX hbl hbA hS (z_inE b42) dL_law_424 ?_
        refine lv_aload_n hx hb dL_law_425 rfl (lv_at hl 0 rfl) ?_
        refine lv_iload hx hb dL_law_426 (lv_at hl 4 rfl) ?_
        refine lv_iconst (v := (2 : Int32)) hx hb dL_law_428 (by decide) ?_
        refine lv_iadd hx hb dL_law_429 ?_
        obtain ⟨b43, hf⟩ := z_ckE hf
        refine va_sld hx hb hX hbl hbA hS (z_inE b43) dL_law_430 ?_
        refine lv_aload_n hx hb dL_law_431 rfl (lv_at hl 3 rfl) ?_
        obtain ⟨r44, Z44, h44, hf⟩ := z_b2E hf
        obtain ⟨Y44, e44, hf⟩ := z_ltE hf
        refine z_xH (As := [.ref (b 0), .int (xs ((x4 + (1 : Int32))).toNatClampNeg), .int (xs ((x4 + (2 : Int32))).toNatClampNeg), .ref o]) (rest := []) (wf := z_hw c b a o) (g := (Y.1, Y.2.2)) (u0 := Z44) (V2 := z_lw c b a d o Y44) ⟨hx, hb, hml, hown, htw⟩ (kL_author l hlst D c N b a o H.size (Y.1, Y.2.2) (xs ((x4 + (1 : Int32))).toNatClampNeg) (xs ((x4 + (2 : Int32))).toNatClampNeg) r44 Z44 h44) (vx_cwSW 4 htw gL_law_L_author rfl rfl rfl (by decide +kernel) ⟨Nat.le_of_ble_eq_true rfl, Nat.le_of_ble_eq_true rfl⟩) hP hK hD hS hA (hE.kept (fun q h1 h2 => hS.2.1 q h1 h2) (fun _ h => h)) (by rw [e44]; exact z_cutLH hD Z44) rfl hl.1 (Nat.le_of_ble_eq_true rfl) rfl dL_law_432 ⟨(show _ ≤ 601024 by omega), (show _ ≤ 7293034 by omega)⟩ (fun H locs hP hD hS => ?_)
        refine lv_istore (lv' := [(5, .int r44), (0, .ref bS), (1, .ref (b 0)), (2, .ref (d 0)), (3, .ref o), (4, .int x4)]) hx hb dL_law_435 hl (by decide) rfl (fun ls hl => ?_)
        refine lv_aload_n hx hb dL_law_437 rfl (lv_at hl 3 rfl) ?_
        refine lv_aload_n hx hb dL_law_438 rfl (lv_at hl 1 rfl) ?_
        refine lv_iload hx hb dL_law_439 (lv_at hl 5 rfl) ?_
        refine lv_iconst (v := (1 : Int32)) hx hb dL_law_441 (by decide) ?_
        refine lv_iadd hx hb dL_law_442 ?_
        obtain ⟨b45, hf⟩ := z_ckE hf
        refine va_sld hx hb hX hbl hbA hS (z_inE b45) dL_law_443 ?_
        refine lv_aload_n hx hb dL_law_444 rfl (lv_at hl 1 rfl) ?_
        refine lv_iload hx hb dL_law_445 (lv_at hl 5 rfl) ?_
        refine lv_iconst (v := (2 : Int32)) hx hb dL_law_447 (by decide) ?_
        refine lv_iadd hx hb dL_law_448 ?_
        obtain ⟨b46, hf⟩ := z_ckE hf
        refine va_sld hx hb hX hbl hbA hS (z_inE b46) dL_law_449 ?_
        obtain ⟨r47, u47, h47, hf⟩ := z_b2E hf
        obtain ⟨Y47, e47, hf⟩ := z_ltE hf
        refine z_xVi (As := [.int (xs ((x4 + (1 : Int32))).toNatClampNeg), .int (xs ((x4 + (2 : Int32))).toNatClampNeg)]) (rest := []) (wf := z_md c d) (g := Y44.2.1) (u0 := u47) (V2 := z_lw c b a d o Y47) ⟨hx, hb, hml, hown, htw⟩ (kX5_author l D c N d H.size Y44.2.1 (xs ((x4 + (1 : Int32))).toNatClampNeg) (xs ((x4 + (2 : Int32))).toNatClampNeg) r47 u47 h47) (cwV 2 htw gL_law_X5_author rfl rfl rfl (by decide +kernel) ⟨Nat.le_of_ble_eq_true rfl, Nat.le_of_ble_eq_true rfl⟩) hP hK hD hS hA (by rw [e47]; exact z_cutLM hD u47) (ci := 5) (q0 := 0) rfl rfl rfl rfl hl.1 (Nat.le_of_ble_eq_true rfl) rfl dL_law_450 ⟨(show _ ≤ 601024 by omega), (show _ ≤ 7293034 by omega)⟩ (fun H locs hP hD hS => ?_)
        refine lv_istore (lv' := [(6, .int r47), (5, .int r44), (0, .ref bS), (1, .ref (b 0)), (2, .ref (d 0)), (3, .ref o), (4, .int x4)]) hx hb dL_law_453 hl (by decide) rfl (fun ls hl => ?_)
        refine lv_aload_n hx hb dL_law_455 rfl (lv_at hl 4 rfl) ?_
        obtain ⟨r48, h48, hf⟩ := z_bE hf
        refine z_xVi (As := []) (rest := []) (wf := z_md c d) (g := Y47.2.1) (u0 := Y47.2.1) (V2 := z_lw c b a d o Y47) ⟨hx, hb, hml, hown, htw⟩ (kX5_thrown l D c N d H.size Y47.2.1  r48 h48) (cwV 0 htw gL_law_X5_thrown rfl rfl rfl (by decide +kernel) ⟨Nat.le_of_ble_eq_true rfl, Nat.le_of_ble_eq_true rfl⟩) hP hK hD hS hA (z_cutLMp hD) (ci := 5) (q0 := 0) rfl rfl rfl rfl hl.1 (Nat.le_of_ble_eq_true rfl) rfl dL_law_456 ⟨(show _ ≤ 601024 by omega), (show _ ≤ 7293034 by omega)⟩ (fun H locs hP hD hS => ?_)
        refine lv_iload hx hb dL_law_459 (lv_at hl 1 rfl) ?_
        refine lv_icmp_eq (tgt := 466) hx hb dL_law_461 (by decide) (fun c49 => ?_) (fun c49 => ?_)
        · have hf := z_ifT hf c49
          refine lv_iload hx hb dL_law_466 (lv_at hl 1 rfl) ?_
          refine lv_if_ne (tgt := 483) hx hb dL_law_468 (by decide) (fun c50 => ?_) (fun c50 => ?_)
          · have hf := z_ifF hf c50
            refine lv_goto (tgt := 1803) hx hb dL_law_483 (by decide) ?_
            refine lv_iinc (v := (x4 + (6 : Int32))) (lv' := [(4, .int (x4 + (6 : Int32))), (6, .int r47), (5, .int r44), (0, .ref bS), (1, .ref (b 0)), (2, .ref (d 0)), (3, .ref o)]) hx hb dL_law_1803 hl (k := 6) rfl rfl (by decide) rfl (fun ls hl => ?_)
            refine lv_goto (tgt := 23) hx hb dL_law_1806 (by decide) ?_
            refine W.widen (k := CC + (j + 1)) (n := SS + 6 * (j + 1)) (by omega) (by omega) ?_
            exact ih (j + 1) _ _ (by omega) (by rw [hx4]; exact z_nI6 j) hf H locs ls hP hD hS (lv_sub hl [3, 4, 5, 6, 0] rfl)
          · have hf := z_ifT hf c50
            refine lv_aload_n hx hb dL_law_471 rfl (lv_at hl 5 rfl) ?_
            refine lv_iconst (v := (0 : Int32)) hx hb dL_law_472 (by decide) ?_
            refine va_lald hx hb hK.1 (z_subP hP z_inO) 0 3 rfl rfl (z_inE (by decide)) dL_law_473 ?_
            refine lv_iload hx hb dL_law_474 (lv_at hl 0 rfl) ?_
            refine lv_i2l (v := (r47).toInt64) hx hb dL_law_476 rfl ?_
            refine W.lcmp hx hb dL_law_477 ?_
            refine lv_if_eq (tgt := 483) hx hb dL_law_478 (by decide) (fun c51 => ?_) (fun c51 => ?_)
            · have hf := z_ifT hf c51
              refine lv_goto (tgt := 1803) hx hb dL_law_483 (by decide) ?_
              refine lv_iinc (v := (x4 + (6 : Int32))) (lv' := [(4, .int (x4 + (6 : Int32))), (6, .int r47), (5, .int r44), (0, .ref bS), (1, .ref (b 0)), (2, .ref (d 0)), (3, .ref o)]) hx hb dL_law_1803 hl (k := 6) rfl rfl (by decide) rfl (fun ls hl => ?_)
              refine lv_goto (tgt := 23) hx hb dL_law_1806 (by decide) ?_
              refine W.widen (k := CC + (j + 1)) (n := SS + 6 * (j + 1)) (by omega) (by omega) ?_
              exact ih (j + 1) _ _ (by omega) (by rw [hx4]; exact z_nI6 j) hf H locs ls hP hD hS (lv_sub hl [3, 4, 5, 6, 0] rfl)
            · have hf := z_ifF hf c51
              refine lv_iconst (v := (0 : Int32)) hx hb dL_law_481 (by decide) ?_
              exact absurd hf (by decide)
        · have hf := z_ifF hf c49
          refine lv_iconst (v := (0 : Int32)) hx hb dL_law_464 (by decide) ?_
          exact absurd hf (by decide)
      have hf := z_ifF hf c3_6
      by_cases c3_7 : ((xs (x4).toNatClampNeg) &&& (31 : Int32)) = (7 : Int32)
      · have hf := z_ifT hf c3_7
        refine lv_tableIn (tgt := 486) hx hb dL_law_40 (by rw [c3_7]; decide) (by rw [c3_7]; decide) (off := 446) (by rw [c3_7]; rfl) (by decide) ?_
        refine lv_aload_n hx hb dL_law_486 rfl (lv_at hl 1 rfl) ?_
        refine lv_aload_n hx hb dL_law_487 rfl (lv_at hl 0 rfl) ?_
        refine lv_iload hx hb dL_law_488 (lv_at hl 4 rfl) ?_
        refine lv_iconst (v := (1 : Int32)) hx hb dL_law_490 (by decide) ?_
        refine lv_iadd hx hb dL_law_491 ?_
        obtain ⟨b52, hf⟩ := z_ckE hf
        refine va_sld hx hb hX hbl hbA hS (z_inE b52) dL_law_492 ?_
        refine lv_aload_n hx hb dL_law_493 rfl (lv_at hl 3 rfl) ?_
        obtain ⟨r53, Z53, h53, hf⟩ := z_b2E hf
        obtain ⟨Y53, e53, hf⟩ := z_ltE hf
        refine z_xH (As := [.ref (b 0), .int (xs ((x4 + (1 : Int32))).toNatClampNeg), .ref o]) (rest := []) (wf := z_hw c b a o) (g := (Y.1, Y.2.2)) (u0 := Z53) (V2 := z_lw c b a d o Y53) ⟨hx, hb, hml, hown, htw⟩ (kL_at l hlst D c N b a o H.size (Y.1, Y.2.2) (xs ((x4 + (1 : Int32))).toNatClampNeg) r53 Z53 h53) (vx_cwSW 3 htw gL_law_L_at rfl rfl rfl (by decide +kernel) ⟨Nat.le_of_ble_eq_true rfl, Nat.le_of_ble_eq_true rfl⟩) hP hK hD hS hA (hE.kept (fun q h1 h2 => hS.2.1 q h1 h2) (fun _ h => h)) (by rw [e53]; exact z_cutLH hD Z53) rfl hl.1 (Nat.le_of_ble_eq_true rfl) rfl dL_law_494 ⟨(show _ ≤ 601024 by omega), (show _ ≤ 7293034 by omega)⟩ (fun H locs hP hD hS => ?_)
        refine lv_istore (lv' := [(5, .int r53), (0, .ref bS), (1, .ref (b 0)), (2, .ref (d 0)), (3, .ref o), (4, .int x4)]) hx hb dL_law_497 hl (by decide) rfl (fun ls hl => ?_)
        refine lv_aload_n hx hb dL_law_499 rfl (lv_at hl 3 rfl) ?_
        refine lv_aload_n hx hb dL_law_500 rfl (lv_at hl 1 rfl) ?_
        refine lv_iload hx hb dL_law_501 (lv_at hl 5 rfl) ?_
        refine lv_iconst (v := (1 : Int32)) hx hb dL_law_503 (by decide) ?_
        refine lv_iadd hx hb dL_law_504 ?_
        obtain ⟨b54, hf⟩ := z_ckE hf
        refine va_sld hx hb hX hbl hbA hS (z_inE b54) dL_law_505 ?_
        obtain ⟨r55, u55, h55, hf⟩ := z_b2E hf
        obtain ⟨Y55, e55, hf⟩ := z_ltE hf
        refine z_xVi (As := [.int (xs ((x4 + (1 : Int32))).toNatClampNeg)]) (rest := []) (wf := z_md c d) (g := Y53.2.1) (u0 := u55) (V2 := z_lw c b a d o Y55) ⟨hx, hb, hml, hown, htw⟩ (kX5_at l D c N d H.size Y53.2.1 (xs ((x4 + (1 : Int32))).toNatClampNeg) r55 u55 h55) (cwV 1 htw gL_law_X5_at rfl rfl rfl (by decide +kernel) ⟨Nat.le_of_ble_eq_true rfl, Nat.le_of_ble_eq_true rfl⟩) hP hK hD hS hA (by rw [e55]; exact z_cutLM hD u55) (ci := 5) (q0 := 0) rfl rfl rfl rfl hl.1 (Nat.le_of_ble_eq_true rfl) rfl dL_law_506 ⟨(show _ ≤ 601024 by omega), (show _ ≤ 7293034 by omega)⟩ (fun H locs hP hD hS => ?_)
        refine lv_istore (lv' := [(6, .int r55), (5, .int r53), (0, .ref bS), (1, .ref (b 0)), (2, .ref (d 0)), (3, .ref o), (4, .int x4)]) hx hb dL_law_509 hl (by decide) rfl (fun ls hl => ?_)
        refine lv_aload_n hx hb dL_law_511 rfl (lv_at hl 4 rfl) ?_
        obtain ⟨r56, h56, hf⟩ := z_bE hf
        refine z_xVi (As := []) (rest := []) (wf := z_md c d) (g := Y55.2.1) (u0 := Y55.2.1) (V2 := z_lw c b a d o Y55) ⟨hx, hb, hml, hown, htw⟩ (kX5_thrown l D c N d H.size Y55.2.1  r56 h56) (cwV 0 htw gL_law_X5_thrown rfl rfl rfl (by decide +kernel) ⟨Nat.le_of_ble_eq_true rfl, Nat.le_of_ble_eq_true rfl⟩) hP hK hD hS hA (z_cutLMp hD) (ci := 5) (q0 := 0) rfl rfl rfl rfl hl.1 (Nat.le_of_ble_eq_true rfl) rfl dL_law_512 ⟨(show _ ≤ 601024 by omega), (show _ ≤ 7293034 by omega)⟩ (fun H locs hP hD hS => ?_)
        refine lv_iload hx hb dL_law_515 (lv_at hl 1 rfl) ?_
        refine lv_icmp_eq (tgt := 522) hx hb dL_law_517 (by decide) (fun c57 => ?_) (fun c57 => ?_)
        · have hf := z_ifT hf c57
          refine lv_iload hx hb dL_law_522 (lv_at hl 1 rfl) ?_
          refine lv_if_ne (tgt := 539) hx hb dL_law_524 (by decide) (fun c58 => ?_) (fun c58 => ?_)
          · have hf := z_ifF hf c58
            refine lv_goto (tgt := 1803) hx hb dL_law_539 (by decide) ?_
            refine lv_iinc (v := (x4 + (6 : Int32))) (lv' := [(4, .int (x4 + (6 : Int32))), (6, .int r55), (5, .int r53), (0, .ref bS), (1, .ref (b 0)), (2, .ref (d 0)), (3, .ref o)]) hx hb dL_law_1803 hl (k := 6) rfl rfl (by decide) rfl (fun ls hl => ?_)
            refine lv_goto (tgt := 23) hx hb dL_law_1806 (by decide) ?_
            refine W.widen (k := CC + (j + 1)) (n := SS + 6 * (j + 1)) (by omega) (by omega) ?_
            exact ih (j + 1) _ _ (by omega) (by rw [hx4]; exact z_nI6 j) hf H locs ls hP hD hS (lv_sub hl [3, 4, 5, 6, 0] rfl)
          · have hf := z_ifT hf c58
            refine lv_aload_n hx hb dL_law_527 rfl (lv_at hl 5 rfl) ?_
            refine lv_iconst (v := (0 : Int32)) hx hb dL_law_528 (by decide) ?_
            refine va_lald hx hb hK.1 (z_subP hP z_inO) 0 3 rfl rfl (z_inE (by decide)) dL_law_529 ?_
            refine lv_iload hx hb dL_law_530 (lv_at hl 0 rfl) ?_
            refine lv_i2l (v := (r55).toInt64) hx hb dL_law_532 rfl ?_
            refine W.lcmp hx hb dL_law_533 ?_
            refine lv_if_eq (tgt := 539) hx hb dL_law_534 (by decide) (fun c59 => ?_) (fun c59 => ?_)
            · have hf := z_ifT hf c59
              refine lv_goto (tgt := 1803) hx hb dL_law_539 (by decide) ?_
              refine lv_iinc (v := (x4 + (6 : Int32))) (lv' := [(4, .int (x4 + (6 : Int32))), (6, .int r55), (5, .int r53), (0, .ref bS), (1, .ref (b 0)), (2, .ref (d 0)), (3, .ref o)]) hx hb dL_law_1803 hl (k := 6) rfl rfl (by decide) rfl (fun ls hl => ?_)
              refine lv_goto (tgt := 23) hx hb dL_law_1806 (by decide) ?_
              refine W.widen (k := CC + (j + 1)) (n := SS + 6 * (j + 1)) (by omega) (by omega) ?_
              exact ih (j + 1) _ _ (by omega) (by rw [hx4]; exact z_nI6 j) hf H locs ls hP hD hS (lv_sub hl [3, 4, 5, 6, 0] rfl)
            · have hf := z_ifF hf c59
              refine lv_iconst (v := (0 : Int32)) hx hb dL_law_537 (by decide) ?_
              exact absurd hf (by decide)
        · have hf := z_ifF hf c57
          refine lv_iconst (v := (0 : Int32)) hx hb dL_law_520 (by decide) ?_
          exact absurd hf (by decide)
      have hf := z_ifF hf c3_7
      by_cases c3_8 : ((xs (x4).toNatClampNeg) &&& (31 : Int32)) = (8 : Int32)
      · have hf := z_ifT hf c3_8
        refine lv_tableIn (tgt := 542) hx hb dL_law_40 (by rw [c3_8]; decide) (by rw [c3_8]; decide) (off := 502) (by rw [c3_8]; rfl) (by decide) ?_
        refine lv_aload_n hx hb dL_law_542 rfl (lv_at hl 1 rfl) ?_
        refine lv_aload_n hx hb dL_law_543 rfl (lv_at hl 0 rfl) ?_
        refine lv_iload hx hb dL_law_544 (lv_at hl 4 rfl) ?_
        refine lv_iconst (v := (1 : Int32)) hx hb dL_law_546 (by decide) ?_
        refine lv_iadd hx hb dL_law_547 ?_
        obtain ⟨b60, hf⟩ := z_ckE hf
        refine va_sld hx hb hX hbl hbA hS (z_inE b60) dL_law_548 ?_
        refine lv_aload_n hx hb dL_law_549 rfl (lv_at hl 0 rfl) ?_
        refine lv_iload hx hb dL_law_550 (lv_at hl 4 rfl) ?_
        refine lv_iconst (v := (2 : Int32)) hx hb dL_law_552 (by decide) ?_
        refine lv_iadd hx hb dL_law_553 ?_
        obtain ⟨b61, hf⟩ := z_ckE hf
        refine va_sld hx hb hX hbl hbA hS (z_inE b61) dL_law_554 ?_
        refine lv_aload_n hx hb dL_law_555 rfl (lv_at hl 3 rfl) ?_
        obtain ⟨r62, Z62, h62, hf⟩ := z_b2E hf
        obtain ⟨Y62, e62, hf⟩ := z_ltE hf
        refine z_xH (As := [.ref (b 0), .int (xs ((x4 + (1 : Int32))).toNatClampNeg), .int (xs ((x4 + (2 : Int32))).toNatClampNeg), .ref o]) (rest := []) (wf := z_hw c b a o) (g := (Y.1, Y.2.2)) (u0 := Z62) (V2 := z_lw c b a d o Y62) ⟨hx, hb, hml, hown, htw⟩ (kL_jump l hlst D c N b a o H.size (Y.1, Y.2.2) (xs ((x4 + (1 : Int32))).toNatClampNeg) (xs ((x4 + (2 : Int32))).toNatClampNeg) r62 Z62 h62) (vx_cwSW 4 htw gL_law_L_jump rfl rfl rfl (by decide +kernel) ⟨Nat.le_of_ble_eq_true rfl, Nat.le_of_ble_eq_true rfl⟩) hP hK hD hS hA (hE.kept (fun q h1 h2 => hS.2.1 q h1 h2) (fun _ h => h)) (by rw [e62]; exact z_cutLH hD Z62) rfl hl.1 (Nat.le_of_ble_eq_true rfl) rfl dL_law_556 ⟨(show _ ≤ 601024 by omega), (show _ ≤ 7293034 by omega)⟩ (fun H locs hP hD hS => ?_)
        refine lv_istore (lv' := [(5, .int r62), (0, .ref bS), (1, .ref (b 0)), (2, .ref (d 0)), (3, .ref o), (4, .int x4)]) hx hb dL_law_559 hl (by decide) rfl (fun ls hl => ?_)
        refine lv_aload_n hx hb dL_law_561 rfl (lv_at hl 3 rfl) ?_
        refine lv_aload_n hx hb dL_law_562 rfl (lv_at hl 1 rfl) ?_
        refine lv_iload hx hb dL_law_563 (lv_at hl 5 rfl) ?_
        refine lv_iconst (v := (1 : Int32)) hx hb dL_law_565 (by decide) ?_
        refine lv_iadd hx hb dL_law_566 ?_
        obtain ⟨b63, hf⟩ := z_ckE hf
        refine va_sld hx hb hX hbl hbA hS (z_inE b63) dL_law_567 ?_
        refine lv_aload_n hx hb dL_law_568 rfl (lv_at hl 1 rfl) ?_
        refine lv_iload hx hb dL_law_569 (lv_at hl 5 rfl) ?_
        refine lv_iconst (v := (2 : Int32)) hx hb dL_law_571 (by decide) ?_
        refine lv_iadd hx hb dL_law_572 ?_
        obtain ⟨b64, hf⟩ := z_ckE hf
        refine va_sld hx hb hX hbl hbA hS (z_inE b64) dL_law_573 ?_
        obtain ⟨r65, u65, h65, hf⟩ := z_b2E hf
        obtain ⟨Y65, e65, hf⟩ := z_ltE hf
        refine z_xVi (As := [.int (xs ((x4 + (1 : Int32))).toNatClampNeg), .int (xs ((x4 + (2 : Int32))).toNatClampNeg)]) (rest := []) (wf := z_md c d) (g := Y62.2.1) (u0 := u65) (V2 := z_lw c b a d o Y65) ⟨hx, hb, hml, hown, htw⟩ (kX5_jump l D c N d H.size Y62.2.1 (xs ((x4 + (1 : Int32))).toNatClampNeg) (xs ((x4 + (2 : Int32))).toNatClampNeg) r65 u65 h65) (cwV 2 htw gL_law_X5_jump rfl rfl rfl (by decide +kernel) ⟨Nat.le_of_ble_eq_true rfl, Nat.le_of_ble_eq_true rfl⟩) hP hK hD hS hA (by rw [e65]; exact z_cutLM hD u65) (ci := 5) (q0 := 0) rfl rfl rfl rfl hl.1 (Nat.le_of_ble_eq_true rfl) rfl dL_law_574 ⟨(show _ ≤ 601024 by omega), (show _ ≤ 7293034 by omega)⟩ (fun H locs hP hD hS => ?_)
        refine lv_istore (lv' := [(6, .int r65), (5, .int r62), (0, .ref bS), (1, .ref (b 0)), (2, .ref (d 0)), (3, .ref o), (4, .int x4)]) hx hb dL_law_577 hl (by decide) rfl (fun ls hl => ?_)
        refine lv_aload_n hx hb dL_law_579 rfl (lv_at hl 4 rfl) ?_
        obtain ⟨r66, h66, hf⟩ := z_bE hf
        refine z_xVi (As := []) (rest := []) (wf := z_md c d) (g := Y65.2.1) (u0 := Y65.2.1) (V2 := z_lw c b a d o Y65) ⟨hx, hb, hml, hown, htw⟩ (kX5_thrown l D c N d H.size Y65.2.1  r66 h66) (cwV 0 htw gL_law_X5_thrown rfl rfl rfl (by decide +kernel) ⟨Nat.le_of_ble_eq_true rfl, Nat.le_of_ble_eq_true rfl⟩) hP hK hD hS hA (z_cutLMp hD) (ci := 5) (q0 := 0) rfl rfl rfl rfl hl.1 (Nat.le_of_ble_eq_true rfl) rfl dL_law_580 ⟨(show _ ≤ 601024 by omega), (show _ ≤ 7293034 by omega)⟩ (fun H locs hP hD hS => ?_)
        refine lv_iload hx hb dL_law_583 (lv_at hl 1 rfl) ?_
        refine lv_icmp_eq (tgt := 590) hx hb dL_law_585 (by decide) (fun c67 => ?_) (fun c67 => ?_)
        · have hf := z_ifT hf c67
          refine lv_iload hx hb dL_law_590 (lv_at hl 1 rfl) ?_
          refine lv_if_ne (tgt := 607) hx hb dL_law_592 (by decide) (fun c68 => ?_) (fun c68 => ?_)
          · have hf := z_ifF hf c68
            refine lv_goto (tgt := 1803) hx hb dL_law_607 (by decide) ?_
            refine lv_iinc (v := (x4 + (6 : Int32))) (lv' := [(4, .int (x4 + (6 : Int32))), (6, .int r65), (5, .int r62), (0, .ref bS), (1, .ref (b 0)), (2, .ref (d 0)), (3, .ref o)]) hx hb dL_law_1803 hl (k := 6) rfl rfl (by decide) rfl (fun ls hl => ?_)
            refine lv_goto (tgt := 23) hx hb dL_law_1806 (by decide) ?_
            refine W.widen (k := CC + (j + 1)) (n := SS + 6 * (j + 1)) (by omega) (by omega) ?_
            exact ih (j + 1) _ _ (by omega) (by rw [hx4]; exact z_nI6 j) hf H locs ls hP hD hS (lv_sub hl [3, 4, 5, 6, 0] rfl)
          · have hf := z_ifT hf c68
            refine lv_aload_n hx hb dL_law_595 rfl (lv_at hl 5 rfl) ?_
            refine lv_iconst (v := (0 : Int32)) hx hb dL_law_596 (by decide) ?_
            refine va_lald hx hb hK.1 (z_subP hP z_inO) 0 3 rfl rfl (z_inE (by decide)) dL_law_597 ?_
            refine lv_iload hx hb dL_law_598 (lv_at hl 0 rfl) ?_
            refine lv_i2l (v := (r65).toInt64) hx hb dL_law_600 rfl ?_
            refine W.lcmp hx hb dL_law_601 ?_
            refine lv_if_eq (tgt := 607) hx hb dL_law_602 (by decide) (fun c69 => ?_) (fun c69 => ?_)
            · have hf := z_ifT hf c69
              refine lv_goto (tgt := 1803) hx hb dL_law_607 (by decide) ?_
              refine lv_iinc (v := (x4 + (6 : Int32))) (lv' := [(4, .int (x4 + (6 : Int32))), (6, .int r65), (5, .int r62), (0, .ref bS), (1, .ref (b 0)), (2, .ref (d 0)), (3, .ref o)]) hx hb dL_law_1803 hl (k := 6) rfl rfl (by decide) rfl (fun ls hl => ?_)
              refine lv_goto (tgt := 23) hx hb dL_law_1806 (by decide) ?_
              refine W.widen (k := CC + (j + 1)) (n := SS + 6 * (j + 1)) (by omega) (by omega) ?_
              exact ih (j + 1) _ _ (by omega) (by rw [hx4]; exact z_nI6 j) hf H locs ls hP hD hS (lv_sub hl [3, 4, 5, 6, 0] rfl)
            · have hf := z_ifF hf c69
              refine lv_iconst (v := (0 : Int32)) hx hb dL_law_605 (by decide) ?_
              exact absurd hf (by decide)
        · have hf := z_ifF hf c67
          refine lv_iconst (v := (0 : Int32)) hx hb dL_law_588 (by decide) ?_
          exact absurd hf (by decide)
      have hf := z_ifF hf c3_8
      by_cases c3_9 : ((xs (x4).toNatClampNeg) &&& (31 : Int32)) = (9 : Int32)
      · have hf := z_ifT hf c3_9
        refine lv_tableIn (tgt := 610) hx hb dL_law_40 (by rw [c3_9]; decide) (by rw [c3_9]; decide) (off := 570) (by rw [c3_9]; rfl) (by decide) ?_
        refine lv_aload_n hx hb dL_law_610 rfl (lv_at hl 1 rfl) ?_
        refine lv_aload_n hx hb dL_law_611 rfl (lv_at hl 0 rfl) ?_
        refine lv_iload hx hb dL_law_612 (lv_at hl 4 rfl) ?_
        refine lv_iconst (v := (1 : Int32)) hx hb dL_law_614 (by decide) ?_
        refine lv_iadd hx hb dL_law_615 ?_
        obtain ⟨b70, hf⟩ := z_ckE hf
        refine va_sld hx hb hX hbl hbA hS (z_inE b70) dL_law_616 ?_
        refine lv_aload_n hx hb dL_law_617 rfl (lv_at hl 3 rfl) ?_
        obtain ⟨r71, Z71, h71, hf⟩ := z_b2E hf
        obtain ⟨Y71, e71, hf⟩ := z_ltE hf
        refine z_xH (As := [.ref (b 0), .int (xs ((x4 + (1 : Int32))).toNatClampNeg), .ref o]) (rest := []) (wf := z_hw c b a o) (g := (Y.1, Y.2.2)) (u0 := Z71) (V2 := z_lw c b a d o Y71) ⟨hx, hb, hml, hown, htw⟩ (kL_chain l hlst D c N b a o H.size (Y.1, Y.2.2) (xs ((x4 + (1 : Int32))).toNatClampNeg) r71 Z71 h71) (vx_cwSW 3 htw gL_law_L_chain rfl rfl rfl (by decide +kernel) ⟨Nat.le_of_ble_eq_true rfl, Nat.le_of_ble_eq_true rfl⟩) hP hK hD hS hA (hE.kept (fun q h1 h2 => hS.2.1 q h1 h2) (fun _ h => h)) (by rw [e71]; exact z_cutLH hD Z71) rfl hl.1 (Nat.le_of_ble_eq_true rfl) rfl dL_law_618 ⟨(show _ ≤ 601024 by omega), (show _ ≤ 7293034 by omega)⟩ (fun H locs hP hD hS => ?_)
        refine lv_istore (lv' := [(5, .int r71), (0, .ref bS), (1, .ref (b 0)), (2, .ref (d 0)), (3, .ref o), (4, .int x4)]) hx hb dL_law_621 hl (by decide) rfl (fun ls hl => ?_)
        refine lv_aload_n hx hb dL_law_623 rfl (lv_at hl 3 rfl) ?_
        refine lv_aload_n hx hb dL_law_624 rfl (lv_at hl 1 rfl) ?_
        refine lv_iload hx hb dL_law_625 (lv_at hl 5 rfl) ?_
        refine lv_iconst (v := (1 : Int32)) hx hb dL_law_627 (by decide) ?_
        refine lv_iadd hx hb dL_law_628 ?_
        obtain ⟨b72, hf⟩ := z_ckE hf
        refine va_sld hx hb hX hbl hbA hS (z_inE b72) dL_law_629 ?_
        obtain ⟨r73, u73, h73, hf⟩ := z_b2E hf
        obtain ⟨Y73, e73, hf⟩ := z_ltE hf
        refine z_xVi (As := [.int (xs ((x4 + (1 : Int32))).toNatClampNeg)]) (rest := []) (wf := z_md c d) (g := Y71.2.1) (u0 := u73) (V2 := z_lw c b a d o Y73) ⟨hx, hb, hml, hown, htw⟩ (kX5_chain l D c N d H.size Y71.2.1 (xs ((x4 + (1 : Int32))).toNatClampNeg) r73 u73 h73) (cwV 1 htw gL_law_X5_chain rfl rfl rfl (by decide +kernel) ⟨Nat.le_of_ble_eq_true rfl, Nat.le_of_ble_eq_true rfl⟩) hP hK hD hS hA (by rw [e73]; exact z_cutLM hD u73) (ci := 5) (q0 := 0) rfl rfl rfl rfl hl.1 (Nat.le_of_ble_eq_true rfl) rfl dL_law_630 ⟨(show _ ≤ 601024 by omega), (show _ ≤ 7293034 by omega)⟩ (fun H locs hP hD hS => ?_)
        refine lv_istore (lv' := [(6, .int r73), (5, .int r71), (0, .ref bS), (1, .ref (b 0)), (2, .ref (d 0)), (3, .ref o), (4, .int x4)]) hx hb dL_law_633 hl (by decide) rfl (fun ls hl => ?_)
        refine lv_aload_n hx hb dL_law_635 rfl (lv_at hl 4 rfl) ?_
        obtain ⟨r74, h74, hf⟩ := z_bE hf
        refine z_xVi (As := []) (rest := []) (wf := z_md c d) (g := Y73.2.1) (u0 := Y73.2.1) (V2 := z_lw c b a d o Y73) ⟨hx, hb, hml, hown, htw⟩ (kX5_thrown l D c N d H.size Y73.2.1  r74 h74) (cwV 0 htw gL_law_X5_thrown rfl rfl rfl (by decide +kernel) ⟨Nat.le_of_ble_eq_true rfl, Nat.le_of_ble_eq_true rfl⟩) hP hK hD hS hA (z_cutLMp hD) (ci := 5) (q0 := 0) rfl rfl rfl rfl hl.1 (Nat.le_of_ble_eq_true rfl) rfl dL_law_636 ⟨(show _ ≤ 601024 by omega), (show _ ≤ 7293034 by omega)⟩ (fun H locs hP hD hS => ?_)
        refine lv_iload hx hb dL_law_639 (lv_at hl 1 rfl) ?_
        refine lv_icmp_eq (tgt := 646) hx hb dL_law_641 (by decide) (fun c75 => ?_) (fun c75 => ?_)
        · have hf := z_ifT hf c75
          refine lv_iload hx hb dL_law_646 (lv_at hl 1 rfl) ?_
          refine lv_if_ne (tgt := 663) hx hb dL_law_648 (by decide) (fun c76 => ?_) (fun c76 => ?_)
          · have hf := z_ifF hf c76
            refine lv_goto (tgt := 1803) hx hb dL_law_663 (by decide) ?_
            refine lv_iinc (v := (x4 + (6 : Int32))) (lv' := [(4, .int (x4 + (6 : Int32))), (6, .int r73), (5, .int r71), (0, .ref bS), (1, .ref (b 0)), (2, .ref (d 0)), (3, .ref o)]) hx hb dL_law_1803 hl (k := 6) rfl rfl (by decide) rfl (fun ls hl => ?_)
            refine lv_goto (tgt := 23) hx hb dL_law_1806 (by decide) ?_
            refine W.widen (k := CC + (j + 1)) (n := SS + 6 * (j + 1)) (by omega) (by omega) ?_
            exact ih (j + 1) _ _ (by omega) (by rw [hx4]; exact z_nI6 j) hf H locs ls hP hD hS (lv_sub hl [3, 4, 5, 6, 0] rfl)
          · have hf := z_ifT hf c76
            refine lv_aload_n hx hb dL_law_651 rfl (lv_at hl 5 rfl) ?_
            refine lv_iconst (v := (0 : Int32)) hx hb dL_law_652 (by decide) ?_
            refine va_lald hx hb hK.1 (z_subP hP z_inO) 0 3 rfl rfl (z_inE (by decide)) dL_law_653 ?_
            refine lv_iload hx hb dL_law_654 (lv_at hl 0 rfl) ?_
            refine lv_i2l (v := (r73).toInt64) hx hb dL_law_656 rfl ?_
            refine W.lcmp hx hb dL_law_657 ?_
            refine lv_if_eq (tgt := 663) hx hb dL_law_658 (by decide) (fun c77 => ?_) (fun c77 => ?_)
            · have hf := z_ifT hf c77
              refine lv_goto (tgt := 1803) hx hb dL_law_663 (by decide) ?_
              refine lv_iinc (v := (x4 + (6 : Int32))) (lv' := [(4, .int (x4 + (6 : Int32))), (6, .int r73), (5, .int r71), (0, .ref bS), (1, .ref (b 0)), (2, .ref (d 0)), (3, .ref o)]) hx hb dL_law_1803 hl (k := 6) rfl rfl (by decide) rfl (fun ls hl => ?_)
              refine lv_goto (tgt := 23) hx hb dL_law_1806 (by decide) ?_
              refine W.widen (k := CC + (j + 1)) (n := SS + 6 * (j + 1)) (by omega) (by omega) ?_
              exact ih (j + 1) _ _ (by omega) (by rw [hx4]; exact z_nI6 j) hf H locs ls hP hD hS (lv_sub hl [3, 4, 5, 6, 0] rfl)
            · have hf := z_ifF hf c77
              refine lv_iconst (v := (0 : Int32)) hx hb dL_law_661 (by decide) ?_
              exact absurd hf (by decide)
        · have hf := z_ifF hf c75
          refine lv_iconst (v := (0 : Int32)) hx hb dL_law_644 (by decide) ?_
          exact absurd hf (by decide)
      have hf := z_ifF hf c3_9
      by_cases c3_10 : ((xs (x4).toNatClampNeg) &&& (31 : Int32)) = (10 : Int32)
      · have hf := z_ifT hf c3_10
        refine lv_tableIn (tgt := 666) hx hb dL_law_40 (by rw [c3_10]; decide) (by rw [c3_10]; decide) (off := 626) (by rw [c3_10]; rfl) (by decide) ?_
        refine lv_aload_n hx hb dL_law_666 rfl (lv_at hl 1 rfl) ?_
        refine lv_aload_n hx hb dL_law_667 rfl (lv_at hl 0 rfl) ?_
        refine lv_iload hx hb dL_law_668 (lv_at hl 4 rfl) ?_
        refine lv_iconst (v := (1 : Int32)) hx hb dL_law_670 (by decide) ?_
        refine lv_iadd hx hb dL_law_671 ?_
        obtain ⟨b78, hf⟩ := z_ckE hf
        refine va_sld hx hb hX hbl hbA hS (z_inE b78) dL_law_672 ?_
        refine lv_aload_n hx hb dL_law_673 rfl (lv_at hl 3 rfl) ?_
        obtain ⟨r79, Z79, h79, hf⟩ := z_b2E hf
        obtain ⟨Y79, e79, hf⟩ := z_ltE hf
        refine z_xH (As := [.ref (b 0), .int (xs ((x4 + (1 : Int32))).toNatClampNeg), .ref o]) (rest := []) (wf := z_hw c b a o) (g := (Y.1, Y.2.2)) (u0 := Z79) (V2 := z_lw c b a d o Y79) ⟨hx, hb, hml, hown, htw⟩ (kL_ring l hlst D c N b a o H.size (Y.1, Y.2.2) (xs ((x4 + (1 : Int32))).toNatClampNeg) r79 Z79 h79) (vx_cwSW 3 htw gL_law_L_ring rfl rfl rfl (by decide +kernel) ⟨Nat.le_of_ble_eq_true rfl, Nat.le_of_ble_eq_true rfl⟩) hP hK hD hS hA (hE.kept (fun q h1 h2 => hS.2.1 q h1 h2) (fun _ h => h)) (by rw [e79]; exact z_cutLH hD Z79) rfl hl.1 (Nat.le_of_ble_eq_true rfl) rfl dL_law_674 ⟨(show _ ≤ 601024 by omega), (show _ ≤ 7293034 by omega)⟩ (fun H locs hP hD hS => ?_)
        refine lv_istore (lv' := [(5, .int r79), (0, .ref bS), (1, .ref (b 0)), (2, .ref (d 0)), (3, .ref o), (4, .int x4)]) hx hb dL_law_677 hl (by decide) rfl (fun ls hl => ?_)
        refine lv_aload_n hx hb dL_law_679 rfl (lv_at hl 3 rfl) ?_
        refine lv_aload_n hx hb dL_law_680 rfl (lv_at hl 1 rfl) ?_
        refine lv_iload hx hb dL_law_681 (lv_at hl 5 rfl) ?_
        refine lv_iconst (v := (1 : Int32)) hx hb dL_law_683 (by decide) ?_
        refine lv_iadd hx hb dL_law_684 ?_
        obtain ⟨b80, hf⟩ := z_ckE hf
        refine va_sld hx hb hX hbl hbA hS (z_inE b80) dL_law_685 ?_
        obtain ⟨r81, u81, h81, hf⟩ := z_b2E hf
        obtain ⟨Y81, e81, hf⟩ := z_ltE hf
        refine z_xVi (As := [.int (xs ((x4 + (1 : Int32))).toNatClampNeg)]) (rest := []) (wf := z_md c d) (g := Y79.2.1) (u0 := u81) (V2 := z_lw c b a d o Y81) ⟨hx, hb, hml, hown, htw⟩ (kX5_ring l D c N d H.size Y79.2.1 (xs ((x4 + (1 : Int32))).toNatClampNeg) r81 u81 h81) (cwV 1 htw gL_law_X5_ring rfl rfl rfl (by decide +kernel) ⟨Nat.le_of_ble_eq_true rfl, Nat.le_of_ble_eq_true rfl⟩) hP hK hD hS hA (by rw [e81]; exact z_cutLM hD u81) (ci := 5) (q0 := 0) rfl rfl rfl rfl hl.1 (Nat.le_of_ble_eq_true rfl) rfl dL_law_686 ⟨(show _ ≤ 601024 by omega), (show _ ≤ 7293034 by omega)⟩ (fun H locs hP hD hS => ?_)
        refine lv_istore (lv' := [(6, .int r81), (5, .int r79), (0, .ref bS), (1, .ref (b 0)), (2, .ref (d 0)), (3, .ref o), (4, .int x4)]) hx hb dL_law_689 hl (by decide) rfl (fun ls hl => ?_)
        refine lv_aload_n hx hb dL_law_691 rfl (lv_at hl 4 rfl) ?_
        obtain ⟨r82, h82, hf⟩ := z_bE hf
        refine z_xVi (As := []) (rest := []) (wf := z_md c d) (g := Y81.2.1) (u0 := Y81.2.1) (V2 := z_lw c b a d o Y81) ⟨hx, hb, hml, hown, htw⟩ (kX5_thrown l D c N d H.size Y81.2.1  r82 h82) (cwV 0 htw gL_law_X5_thrown rfl rfl rfl (by decide +kernel) ⟨Nat.le_of_ble_eq_true rfl, Nat.le_of_ble_eq_true rfl⟩) hP hK hD hS hA (z_cutLMp hD) (ci := 5) (q0 := 0) rfl rfl rfl rfl hl.1 (Nat.le_of_ble_eq_true rfl) rfl dL_law_692 ⟨(show _ ≤ 601024 by omega), (show _ ≤ 7293034 by omega)⟩ (fun H locs hP hD hS => ?_)
        refine lv_iload hx hb dL_law_695 (lv_at hl 1 rfl) ?_
        refine lv_icmp_eq (tgt := 702) hx hb dL_law_697 (by decide) (fun c83 => ?_) (fun c83 => ?_)
        · have hf := z_ifT hf c83
          refine lv_iload hx hb dL_law_702 (lv_at hl 1 rfl) ?_
          refine lv_if_ne (tgt := 719) hx hb dL_law_704 (by decide) (fun c84 => ?_) (fun c84 => ?_)
          · have hf := z_ifF hf c84
            refine lv_goto (tgt := 1803) hx hb dL_law_719 (by decide) ?_
            refine lv_iinc (v := (x4 + (6 : Int32))) (lv' := [(4, .int (x4 + (6 : Int32))), (6, .int r81), (5, .int r79), (0, .ref bS), (1, .ref (b 0)), (2, .ref (d 0)), (3, .ref o)]) hx hb dL_law_1803 hl (k := 6) rfl rfl (by decide) rfl (fun ls hl => ?_)
            refine lv_goto (tgt := 23) hx hb dL_law_1806 (by decide) ?_
            refine W.widen (k := CC + (j + 1)) (n := SS + 6 * (j + 1)) (by omega) (by omega) ?_
            exact ih (j + 1) _ _ (by omega) (by rw [hx4]; exact z_nI6 j) hf H locs ls hP hD hS (lv_sub hl [3, 4, 5, 6, 0] rfl)
          · have hf := z_ifT hf c84
            refine lv_aload_n hx hb dL_law_707 rfl (lv_at hl 5 rfl) ?_
            refine lv_iconst (v := (0 : Int32)) hx hb dL_law_708 (by decide) ?_
            refine va_lald hx hb hK.1 (z_subP hP z_inO) 0 3 rfl rfl (z_inE (by decide)) dL_law_709 ?_
            refine lv_iload hx hb dL_law_710 (lv_at hl 0 rfl) ?_
            refine lv_i2l (v := (r81).toInt64) hx hb dL_law_712 rfl ?_
            refine W.lcmp hx hb dL_law_713 ?_
            refine lv_if_eq (tgt := 719) hx hb dL_law_714 (by decide) (fun c85 => ?_) (fun c85 => ?_)
            · have hf := z_ifT hf c85
              refine lv_goto (tgt := 1803) hx hb dL_law_719 (by decide) ?_
              refine lv_iinc (v := (x4 + (6 : Int32))) (lv' := [(4, .int (x4 + (6 : Int32))), (6, .int r81), (5, .int r79), (0, .ref bS), (1, .ref (b 0)), (2, .ref (d 0)), (3, .ref o)]) hx hb dL_law_1803 hl (k := 6) rfl rfl (by decide) rfl (fun ls hl => ?_)
              refine lv_goto (tgt := 23) hx hb dL_law_1806 (by decide) ?_
              refine W.widen (k := CC + (j + 1)) (n := SS + 6 * (j + 1)) (by omega) (by omega) ?_
              exact ih (j + 1) _ _ (by omega) (by rw [hx4]; exact z_nI6 j) hf H locs ls hP hD hS (lv_sub hl [3, 4, 5, 6, 0] rfl)
            · have hf := z_ifF hf c85
              refine lv_iconst (v := (0 : Int32)) hx hb dL_law_717 (by decide) ?_
              exact absurd hf (by decide)
        · have hf := z_ifF hf c83
          refine lv_iconst (v := (0 : Int32)) hx hb dL_law_700 (by decide) ?_
          exact absurd hf (by decide)
      have hf := z_ifF hf c3_10
      by_cases c3_11 : ((xs (x4).toNatClampNeg) &&& (31 : Int32)) = (11 : Int32)
      · have hf := z_ifT hf c3_11
        refine lv_tableIn (tgt := 722) hx hb dL_law_40 (by rw [c3_11]; decide) (by rw [c3_11]; decide) (off := 682) (by rw [c3_11]; rfl) (by decide) ?_
        refine lv_aload_n hx hb dL_law_722 rfl (lv_at hl 1 rfl) ?_
        refine lv_aload_n hx hb dL_law_723 rfl (lv_at hl 0 rfl) ?_
        refine lv_iload hx hb dL_law_724 (lv_at hl 4 rfl) ?_
        refine lv_iconst (v := (1 : Int32)) hx hb dL_law_726 (by decide) ?_
        refine lv_iadd hx hb dL_law_727 ?_
        obtain ⟨b86, hf⟩ := z_ckE hf
        refine va_sld hx hb hX hbl hbA hS (z_inE b86) dL_law_728 ?_
        refine lv_aload_n hx hb dL_law_729 rfl (lv_at hl 3 rfl) ?_
        obtain ⟨r87, Z87, h87, hf⟩ := z_b2E hf
        obtain ⟨Y87, e87, hf⟩ := z_ltE hf
        refine z_xH (As := [.ref (b 0), .int (xs ((x4 + (1 : Int32))).toNatClampNeg), .ref o]) (rest := []) (wf := z_hw c b a o) (g := (Y.1, Y.2.2)) (u0 := Z87) (V2 := z_lw c b a d o Y87) ⟨hx, hb, hml, hown, htw⟩ (kL_setDrum l hlst D c N b a o H.size (Y.1, Y.2.2) (xs ((x4 + (1 : Int32))).toNatClampNeg) r87 Z87 h87) (vx_cwSW 3 htw gL_law_L_setDrum rfl rfl rfl (by decide +kernel) ⟨Nat.le_of_ble_eq_true rfl, Nat.le_of_ble_eq_true rfl⟩) hP hK hD hS hA (hE.kept (fun q h1 h2 => hS.2.1 q h1 h2) (fun _ h => h)) (by rw [e87]; exact z_cutLH hD Z87) rfl hl.1 (Nat.le_of_ble_eq_true rfl) rfl dL_law_730 ⟨(show _ ≤ 601024 by omega), (show _ ≤ 7293034 by omega)⟩ (fun H locs hP hD hS => ?_)
        refine lv_istore (lv' := [(5, .int r87), (0, .ref bS), (1, .ref (b 0)), (2, .ref (d 0)), (3, .ref o), (4, .int x4)]) hx hb dL_law_733 hl (by decide) rfl (fun ls hl => ?_)
        refine lv_aload_n hx hb dL_law_735 rfl (lv_at hl 3 rfl) ?_
        refine lv_aload_n hx hb dL_law_736 rfl (lv_at hl 1 rfl) ?_
        refine lv_iload hx hb dL_law_737 (lv_at hl 5 rfl) ?_
        refine lv_iconst (v := (1 : Int32)) hx hb dL_law_739 (by decide) ?_
        refine lv_iadd hx hb dL_law_740 ?_
        obtain ⟨b88, hf⟩ := z_ckE hf
        refine va_sld hx hb hX hbl hbA hS (z_inE b88) dL_law_741 ?_
        obtain ⟨r89, u89, h89, hf⟩ := z_b2E hf
        obtain ⟨Y89, e89, hf⟩ := z_ltE hf
        refine z_xVi (As := [.int (xs ((x4 + (1 : Int32))).toNatClampNeg)]) (rest := []) (wf := z_md c d) (g := Y87.2.1) (u0 := u89) (V2 := z_lw c b a d o Y89) ⟨hx, hb, hml, hown, htw⟩ (kX5_setDrum l D c N d H.size Y87.2.1 (xs ((x4 + (1 : Int32))).toNatClampNeg) r89 u89 h89) (cwV 1 htw gL_law_X5_setDrum rfl rfl rfl (by decide +kernel) ⟨Nat.le_of_ble_eq_true rfl, Nat.le_of_ble_eq_true rfl⟩) hP hK hD hS hA (by rw [e89]; exact z_cutLM hD u89) (ci := 5) (q0 := 0) rfl rfl rfl rfl hl.1 (Nat.le_of_ble_eq_true rfl) rfl dL_law_742 ⟨(show _ ≤ 601024 by omega), (show _ ≤ 7293034 by omega)⟩ (fun H locs hP hD hS => ?_)
        refine lv_istore (lv' := [(6, .int r89), (5, .int r87), (0, .ref bS), (1, .ref (b 0)), (2, .ref (d 0)), (3, .ref o), (4, .int x4)]) hx hb dL_law_745 hl (by decide) rfl (fun ls hl => ?_)
        refine lv_aload_n hx hb dL_law_747 rfl (lv_at hl 4 rfl) ?_
        obtain ⟨r90, h90, hf⟩ := z_bE hf
        refine z_xVi (As := []) (rest := []) (wf := z_md c d) (g := Y89.2.1) (u0 := Y89.2.1) (V2 := z_lw c b a d o Y89) ⟨hx, hb, hml, hown, htw⟩ (kX5_thrown l D c N d H.size Y89.2.1  r90 h90) (cwV 0 htw gL_law_X5_thrown rfl rfl rfl (by decide +kernel) ⟨Nat.le_of_ble_eq_true rfl, Nat.le_of_ble_eq_true rfl⟩) hP hK hD hS hA (z_cutLMp hD) (ci := 5) (q0 := 0) rfl rfl rfl rfl hl.1 (Nat.le_of_ble_eq_true rfl) rfl dL_law_748 ⟨(show _ ≤ 601024 by omega), (show _ ≤ 7293034 by omega)⟩ (fun H locs hP hD hS => ?_)
        refine lv_iload hx hb dL_law_751 (lv_at hl 1 rfl) ?_
        refine lv_icmp_eq (tgt := 758) hx hb dL_law_753 (by decide) (fun c91 => ?_) (fun c91 => ?_)
        · have hf := z_ifT hf c91
          refine lv_iload hx hb dL_law_758 (lv_at hl 1 rfl) ?_
          refine lv_if_ne (tgt := 775) hx hb dL_law_760 (by decide) (fun c92 => ?_) (fun c92 => ?_)
          · have hf := z_ifF hf c92
            refine lv_goto (tgt := 1803) hx hb dL_law_775 (by decide) ?_
            refine lv_iinc (v := (x4 + (6 : Int32))) (lv' := [(4, .int (x4 + (6 : Int32))), (6, .int r89), (5, .int r87), (0, .ref bS), (1, .ref (b 0)), (2, .ref (d 0)), (3, .ref o)]) hx hb dL_law_1803 hl (k := 6) rfl rfl (by decide) rfl (fun ls hl => ?_)
            refine lv_goto (tgt := 23) hx hb dL_law_1806 (by decide) ?_
            refine W.widen (k := CC + (j + 1)) (n := SS + 6 * (j + 1)) (by omega) (by omega) ?_
            exact ih (j + 1) _ _ (by omega) (by rw [hx4]; exact z_nI6 j) hf H locs ls hP hD hS (lv_sub hl [3, 4, 5, 6, 0] rfl)
          · have hf := z_ifT hf c92
            refine lv_aload_n hx hb dL_law_763 rfl (lv_at hl 5 rfl) ?_
            refine lv_iconst (v := (0 : Int32)) hx hb dL_law_764 (by decide) ?_
            refine va_lald hx hb hK.1 (z_subP hP z_inO) 0 3 rfl rfl (z_inE (by decide)) dL_law_765 ?_
            refine lv_iload hx hb dL_law_766 (lv_at hl 0 rfl) ?_
            refine lv_i2l (v := (r89).toInt64) hx hb dL_law_768 rfl ?_
            refine W.lcmp hx hb dL_law_769 ?_
            refine lv_if_eq (tgt := 775) hx hb dL_law_770 (by decide) (fun c93 => ?_) (fun c93 => ?_)
            · have hf := z_ifT hf c93
              refine lv_goto (tgt := 1803) hx hb dL_law_775 (by decide) ?_
              refine lv_iinc (v := (x4 + (6 : Int32))) (lv' := [(4, .int (x4 + (6 : Int32))), (6, .int r89), (5, .int r87), (0, .ref bS), (1, .ref (b 0)), (2, .ref (d 0)), (3, .ref o)]) hx hb dL_law_1803 hl (k := 6) rfl rfl (by decide) rfl (fun ls hl => ?_)
              refine lv_goto (tgt := 23) hx hb dL_law_1806 (by decide) ?_
              refine W.widen (k := CC + (j + 1)) (n := SS + 6 * (j + 1)) (by omega) (by omega) ?_
              exact ih (j + 1) _ _ (by omega) (by rw [hx4]; exact z_nI6 j) hf H locs ls hP hD hS (lv_sub hl [3, 4, 5, 6, 0] rfl)
            · have hf := z_ifF hf c93
              refine lv_iconst (v := (0 : Int32)) hx hb dL_law_773 (by decide) ?_
              exact absurd hf (by decide)
        · have hf := z_ifF hf c91
          refine lv_iconst (v := (0 : Int32)) hx hb dL_law_756 (by decide) ?_
          exact absurd hf (by decide)
      have hf := z_ifF hf c3_11
      by_cases c3_12 : ((xs (x4).toNatClampNeg) &&& (31 : Int32)) = (12 : Int32)
      · have hf := z_ifT hf c3_12
        refine lv_tableIn (tgt := 778) hx hb dL_law_40 (by rw [c3_12]; decide) (by rw [c3_12]; decide) (off := 738) (by rw [c3_12]; rfl) (by decide) ?_
        refine lv_aload_n hx hb dL_law_778 rfl (lv_at hl 1 rfl) ?_
        refine lv_aload_n hx hb dL_law_779 rfl (lv_at hl 0 rfl) ?_
        refine lv_iload hx hb dL_law_780 (lv_at hl 4 rfl) ?_
        refine lv_iconst (v := (1 : Int32)) hx hb dL_law_782 (by decide) ?_
        refine lv_iadd hx hb dL_law_783 ?_
        obtain ⟨b94, hf⟩ := z_ckE hf
        refine va_sld hx hb hX hbl hbA hS (z_inE b94) dL_law_784 ?_
        refine lv_aload_n hx hb dL_law_785 rfl (lv_at hl 0 rfl) ?_
        refine lv_iload hx hb dL_law_786 (lv_at hl 4 rfl) ?_
        refine lv_iconst (v := (2 : Int32)) hx hb dL_law_788 (by decide) ?_
        refine lv_iadd hx hb dL_law_789 ?_
        obtain ⟨b95, hf⟩ := z_ckE hf
        refine va_sld hx hb hX hbl hbA hS (z_inE b95) dL_law_790 ?_
        refine lv_aload_n hx hb dL_law_791 rfl (lv_at hl 0 rfl) ?_
        refine lv_iload hx hb dL_law_792 (lv_at hl 4 rfl) ?_
        refine lv_iconst (v := (3 : Int32)) hx hb dL_law_794 (by decide) ?_
        refine lv_iadd hx hb dL_law_795 ?_
        obtain ⟨b96, hf⟩ := z_ckE hf
        refine va_sld hx hb hX hbl hbA hS (z_inE b96) dL_law_796 ?_
        refine lv_aload_n hx hb dL_law_797 rfl (lv_at hl 0 rfl) ?_
        refine lv_iload hx hb dL_law_798 (lv_at hl 4 rfl) ?_
        refine lv_iconst (v := (4 : Int32)) hx hb dL_law_800 (by decide) ?_
        refine lv_iadd hx hb dL_law_801 ?_
        obtain ⟨b97, hf⟩ := z_ckE hf
        refine va_sld hx hb hX hbl hbA hS (z_inE b97) dL_law_802 ?_
        refine lv_aload_n hx hb dL_law_803 rfl (lv_at hl 0 rfl) ?_
        refine lv_iload hx hb dL_law_804 (lv_at hl 4 rfl) ?_
        refine lv_iconst (v := (5 : Int32)) hx hb dL_law_806 (by decide) ?_
        refine lv_iadd hx hb dL_law_807 ?_
        obtain ⟨b98, hf⟩ := z_ckE hf
        refine va_sld hx hb hX hbl hbA hS (z_inE b98) dL_law_808 ?_
        refine lv_aload_n hx hb dL_law_809 rfl (lv_at hl 3 rfl) ?_
        obtain ⟨r99, Z99, h99, hf⟩ := z_b2E hf
        obtain ⟨Y99, e99, hf⟩ := z_ltE hf
        refine z_xH (As := [.ref (b 0), .int (xs ((x4 + (1 : Int32))).toNatClampNeg), .int (xs ((x4 + (2 : Int32))).toNatClampNeg), .int (xs ((x4 + (3 : Int32))).toNatClampNeg), .int (xs ((x4 + (4 : Int32))).toNatClampNeg), .int (xs ((x4 + (5 : Int32))).toNatClampNeg), .ref o]) (rest := []) (wf := z_hw c b a o) (g := (Y.1, Y.2.2)) (u0 := Z99) (V2 := z_lw c b a d o Y99) ⟨hx, hb, hml, hown, htw⟩ (kL_addOrder l hlst D c N b a o H.size (Y.1, Y.2.2) (xs ((x4 + (1 : Int32))).toNatClampNeg) (xs ((x4 + (2 : Int32))).toNatClampNeg) (xs ((x4 + (3 : Int32))).toNatClampNeg) (xs ((x4 + (4 : Int32))).toNatClampNeg) (xs ((x4 + (5 : Int32))).toNatClampNeg) r99 Z99 h99) (vx_cwSW 7 htw gL_law_L_addOrder rfl rfl rfl (by decide +kernel) ⟨Nat.le_of_ble_eq_true rfl, Nat.le_of_ble_eq_true rfl⟩) hP hK hD hS hA (hE.kept (fun q h1 h2 => hS.2.1 q h1 h2) (fun _ h => h)) (by rw [e99]; exact z_cutLH hD Z99) rfl hl.1 (Nat.le_of_ble_eq_true rfl) rfl dL_law_810 ⟨(show _ ≤ 601024 by omega), (show _ ≤ 7293034 by omega)⟩ (fun H locs hP hD hS => ?_)
        refine lv_istore (lv' := [(5, .int r99), (0, .ref bS), (1, .ref (b 0)), (2, .ref (d 0)), (3, .ref o), (4, .int x4)]) hx hb dL_law_813 hl (by decide) rfl (fun ls hl => ?_)
        refine lv_aload_n hx hb dL_law_815 rfl (lv_at hl 3 rfl) ?_
        refine lv_aload_n hx hb dL_law_816 rfl (lv_at hl 1 rfl) ?_
        refine lv_iload hx hb dL_law_817 (lv_at hl 5 rfl) ?_
        refine lv_iconst (v := (1 : Int32)) hx hb dL_law_819 (by decide) ?_
        refine lv_iadd hx hb dL_law_820 ?_
        obtain ⟨b100, hf⟩ := z_ckE hf
        refine va_sld hx hb hX hbl hbA hS (z_inE b100) dL_law_821 ?_
        refine lv_aload_n hx hb dL_law_822 rfl (lv_at hl 1 rfl) ?_
        refine lv_iload hx hb dL_law_823 (lv_at hl 5 rfl) ?_
        refine lv_iconst (v := (2 : Int32)) hx hb dL_law_825 (by decide) ?_
        refine lv_iadd hx hb dL_law_826 ?_
        obtain ⟨b101, hf⟩ := z_ckE hf
        refine va_sld hx hb hX hbl hbA hS (z_inE b101) dL_law_827 ?_
        refine lv_aload_n hx hb dL_law_828 rfl (lv_at hl 1 rfl) ?_
        refine lv_iload hx hb dL_law_829 (lv_at hl 5 rfl) ?_
        refine lv_iconst (v := (3 : Int32)) hx hb dL_law_831 (by decide) ?_
        refine lv_iadd hx hb dL_law_832 ?_
        obtain ⟨b102, hf⟩ := z_ckE hf
        refine va_sld hx hb hX hbl hbA hS (z_inE b102) dL_law_833 ?_
        refine lv_aload_n hx hb dL_law_834 rfl (lv_at hl 1 rfl) ?_
        refine lv_iload hx hb dL_law_835 (lv_at hl 5 rfl) ?_
        refine lv_iconst (v := (4 : Int32)) hx hb dL_law_837 (by decide) ?_
        refine lv_iadd hx hb dL_law_838 ?_
        obtain ⟨b103, hf⟩ := z_ckE hf
        refine va_sld hx hb hX hbl hbA hS (z_inE b103) dL_law_839 ?_
        refine lv_aload_n hx hb dL_law_840 rfl (lv_at hl 1 rfl) ?_
        refine lv_iload hx hb dL_law_841 (lv_at hl 5 rfl) ?_
        refine lv_iconst (v := (5 : Int32)) hx hb dL_law_843 (by decide) ?_
        refine lv_iadd hx hb dL_law_844 ?_
        obtain ⟨b104, hf⟩ := z_ckE hf
        refine va_sld hx hb hX hbl hbA hS (z_inE b104) dL_law_845 ?_
        obtain ⟨r105, u105, h105, hf⟩ := z_b2E hf
        obtain ⟨Y105, e105, hf⟩ := z_ltE hf
        refine z_xVi (As := [.int (xs ((x4 + (1 : Int32))).toNatClampNeg), .int (xs ((x4 + (2 : Int32))).toNatClampNeg), .int (xs ((x4 + (3 : Int32))).toNatClampNeg), .int (xs ((x4 + (4 : Int32))).toNatClampNeg), .int (xs ((x4 + (5 : Int32))).toNatClampNeg)]) (rest := []) (wf := z_md c d) (g := Y99.2.1) (u0 := u105) (V2 := z_lw c b a d o Y105) ⟨hx, hb, hml, hown, htw⟩ (kX5_addOrder l D c N d H.size Y99.2.1 (xs ((x4 + (1 : Int32))).toNatClampNeg) (xs ((x4 + (2 : Int32))).toNatClampNeg) (xs ((x4 + (3 : Int32))).toNatClampNeg) (xs ((x4 + (4 : Int32))).toNatClampNeg) (xs ((x4 + (5 : Int32))).toNatClampNeg) r105 u105 h105) (cwV 5 htw gL_law_X5_addOrder rfl rfl rfl (by decide +kernel) ⟨Nat.le_of_ble_eq_true rfl, Nat.le_of_ble_eq_true rfl⟩) hP hK hD hS hA (by rw [e105]; exact z_cutLM hD u105) (ci := 5) (q0 := 0) rfl rfl rfl rfl hl.1 (Nat.le_of_ble_eq_true rfl) rfl dL_law_846 ⟨(show _ ≤ 601024 by omega), (show _ ≤ 7293034 by omega)⟩ (fun H locs hP hD hS => ?_)
        refine lv_istore (lv' := [(6, .int r105), (5, .int r99), (0, .ref bS), (1, .ref (b 0)), (2, .ref (d 0)), (3, .ref o), (4, .int x4)]) hx hb dL_law_849 hl (by decide) rfl (fun ls hl => ?_)
        refine lv_aload_n hx hb dL_law_851 rfl (lv_at hl 4 rfl) ?_
        obtain ⟨r106, h106, hf⟩ := z_bE hf
        refine z_xVi (As := []) (rest := []) (wf := z_md c d) (g := Y105.2.1) (u0 := Y105.2.1) (V2 := z_lw c b a d o Y105) ⟨hx, hb, hml, hown, htw⟩ (kX5_thrown l D c N d H.size Y105.2.1  r106 h106) (cwV 0 htw gL_law_X5_thrown rfl rfl rfl (by decide +kernel) ⟨Nat.le_of_ble_eq_true rfl, Nat.le_of_ble_eq_true rfl⟩) hP hK hD hS hA (z_cutLMp hD) (ci := 5) (q0 := 0) rfl rfl rfl rfl hl.1 (Nat.le_of_ble_eq_true rfl) rfl dL_law_852 ⟨(show _ ≤ 601024 by omega), (show _ ≤ 7293034 by omega)⟩ (fun H locs hP hD hS => ?_)
        refine lv_iload hx hb dL_law_855 (lv_at hl 1 rfl) ?_
        refine lv_icmp_eq (tgt := 862) hx hb dL_law_857 (by decide) (fun c107 => ?_) (fun c107 => ?_)
        · have hf := z_ifT hf c107
          refine lv_iload hx hb dL_law_862 (lv_at hl 1 rfl) ?_
          refine lv_if_ne (tgt := 879) hx hb dL_law_864 (by decide) (fun c108 => ?_) (fun c108 => ?_)
          · have hf := z_ifF hf c108
            refine lv_goto (tgt := 1803) hx hb dL_law_879 (by decide) ?_
            refine lv_iinc (v := (x4 + (6 : Int32))) (lv' := [(4, .int (x4 + (6 : Int32))), (6, .int r105), (5, .int r99), (0, .ref bS), (1, .ref (b 0)), (2, .ref (d 0)), (3, .ref o)]) hx hb dL_law_1803 hl (k := 6) rfl rfl (by decide) rfl (fun ls hl => ?_)
            refine lv_goto (tgt := 23) hx hb dL_law_1806 (by decide) ?_
            refine W.widen (k := CC + (j + 1)) (n := SS + 6 * (j + 1)) (by omega) (by omega) ?_
            exact ih (j + 1) _ _ (by omega) (by rw [hx4]; exact z_nI6 j) hf H locs ls hP hD hS (lv_sub hl [3, 4, 5, 6, 0] rfl)
          · have hf := z_ifT hf c108
            refine lv_aload_n hx hb dL_law_867 rfl (lv_at hl 5 rfl) ?_
            refine lv_iconst (v := (0 : Int32)) hx hb dL_law_868 (by decide) ?_
            refine va_lald hx hb hK.1 (z_subP hP z_inO) 0 3 rfl rfl (z_inE (by decide)) dL_law_869 ?_
            refine lv_iload hx hb dL_law_870 (lv_at hl 0 rfl) ?_
            refine lv_i2l (v := (r105).toInt64) hx hb dL_law_872 rfl ?_
            refine W.lcmp hx hb dL_law_873 ?_
            refine lv_if_eq (tgt := 879) hx hb dL_law_874 (by decide) (fun c109 => ?_) (fun c109 => ?_)
            · have hf := z_ifT hf c109
              refine lv_goto (tgt := 1803) hx hb dL_law_879 (by decide) ?_
              refine lv_iinc (v := (x4 + (6 : Int32))) (lv' := [(4, .int (x4 + (6 : Int32))), (6, .int r105), (5, .int r99), (0, .ref bS), (1, .ref (b 0)), (2, .ref (d 0)), (3, .ref o)]) hx hb dL_law_1803 hl (k := 6) rfl rfl (by decide) rfl (fun ls hl => ?_)
              refine lv_goto (tgt := 23) hx hb dL_law_1806 (by decide) ?_
              refine W.widen (k := CC + (j + 1)) (n := SS + 6 * (j + 1)) (by omega) (by omega) ?_
              exact ih (j + 1) _ _ (by omega) (by rw [hx4]; exact z_nI6 j) hf H locs ls hP hD hS (lv_sub hl [3, 4, 5, 6, 0] rfl)
            · have hf := z_ifF hf c109
              refine lv_iconst (v := (0 : Int32)) hx hb dL_law_877 (by decide) ?_
              exact absurd hf (by decide)
        · have hf := z_ifF hf c107
          refine lv_iconst (v := (0 : Int32)) hx hb dL_law_860 (by decide) ?_
          exact absurd hf (by decide)
      have hf := z_ifF hf c3_12
      by_cases c3_13 : ((xs (x4).toNatClampNeg) &&& (31 : Int32)) = (13 : Int32)
      · have hf := z_ifT hf c3_13
        refine lv_tableIn (tgt := 882) hx hb dL_law_40 (by rw [c3_13]; decide) (by rw [c3_13]; decide) (off := 842) (by rw [c3_13]; rfl) (by decide) ?_
        refine lv_aload_n hx hb dL_law_882 rfl (lv_at hl 1 rfl) ?_
        refine lv_aload_n hx hb dL_law_883 rfl (lv_at hl 0 rfl) ?_
        refine lv_iload hx hb dL_law_884 (lv_at hl 4 rfl) ?_
        refine lv_iconst (v := (1 : Int32)) hx hb dL_law_886 (by decide) ?_
        refine lv_iadd hx hb dL_law_887 ?_
        obtain ⟨b110, hf⟩ := z_ckE hf
        refine va_sld hx hb hX hbl hbA hS (z_inE b110) dL_law_888 ?_
        refine lv_aload_n hx hb dL_law_889 rfl (lv_at hl 0 rfl) ?_
        refine lv_iload hx hb dL_law_890 (lv_at hl 4 rfl) ?_
        refine lv_iconst (v := (2 : Int32)) hx hb dL_law_892 (by decide) ?_
        refine lv_iadd hx hb dL_law_893 ?_
        obtain ⟨b111, hf⟩ := z_ckE hf
        refine va_sld hx hb hX hbl hbA hS (z_inE b111) dL_law_894 ?_
        refine lv_aload_n hx hb dL_law_895 rfl (lv_at hl 0 rfl) ?_
        refine lv_iload hx hb dL_law_896 (lv_at hl 4 rfl) ?_
        refine lv_iconst (v := (3 : Int32)) hx hb dL_law_898 (by decide) ?_
        refine lv_iadd hx hb dL_law_899 ?_
        obtain ⟨b112, hf⟩ := z_ckE hf
        refine va_sld hx hb hX hbl hbA hS (z_inE b112) dL_law_900 ?_
        refine lv_aload_n hx hb dL_law_901 rfl (lv_at hl 3 rfl) ?_
        obtain ⟨r113, Z113, h113, hf⟩ := z_b2E hf
        obtain ⟨Y113, e113, hf⟩ := z_ltE hf
        refine z_xH (As := [.ref (b 0), .int (xs ((x4 + (1 : Int32))).toNatClampNeg), .int (xs ((x4 + (2 : Int32))).toNatClampNeg), .int (xs ((x4 + (3 : Int32))).toNatClampNeg), .ref o]) (rest := []) (wf := z_hw c b a o) (g := (Y.1, Y.2.2)) (u0 := Z113) (V2 := z_lw c b a d o Y113) ⟨hx, hb, hml, hown, htw⟩ (kL_change l hlst D c N b a o H.size (Y.1, Y.2.2) (xs ((x4 + (1 : Int32))).toNatClampNeg) (xs ((x4 + (2 : Int32))).toNatClampNeg) (xs ((x4 + (3 : Int32))).toNatClampNeg) r113 Z113 h113) (vx_cwSW 5 htw gL_law_L_change rfl rfl rfl (by decide +kernel) ⟨Nat.le_of_ble_eq_true rfl, Nat.le_of_ble_eq_true rfl⟩) hP hK hD hS hA (hE.kept (fun q h1 h2 => hS.2.1 q h1 h2) (fun _ h => h)) (by rw [e113]; exact z_cutLH hD Z113) rfl hl.1 (Nat.le_of_ble_eq_true rfl) rfl dL_law_902 ⟨(show _ ≤ 601024 by omega), (show _ ≤ 7293034 by omega)⟩ (fun H locs hP hD hS => ?_)
        refine lv_istore (lv' := [(5, .int r113), (0, .ref bS), (1, .ref (b 0)), (2, .ref (d 0)), (3, .ref o), (4, .int x4)]) hx hb dL_law_905 hl (by decide) rfl (fun ls hl => ?_)
        refine lv_aload_n hx hb dL_law_907 rfl (lv_at hl 3 rfl) ?_
        refine lv_aload_n hx hb dL_law_908 rfl (lv_at hl 1 rfl) ?_
        refine lv_iload hx hb dL_law_909 (lv_at hl 5 rfl) ?_
        refine lv_iconst (v := (1 : Int32)) hx hb dL_law_911 (by decide) ?_
        refine lv_iadd hx hb dL_law_912 ?_
        obtain ⟨b114, hf⟩ := z_ckE hf
        refine va_sld hx hb hX hbl hbA hS (z_inE b114) dL_law_913 ?_
        refine lv_aload_n hx hb dL_law_914 rfl (lv_at hl 1 rfl) ?_
        refine lv_iload hx hb dL_law_915 (lv_at hl 5 rfl) ?_
        refine lv_iconst (v := (2 : Int32)) hx hb dL_law_917 (by decide) ?_
        refine lv_iadd hx hb dL_law_918 ?_
        obtain ⟨b115, hf⟩ := z_ckE hf
        refine va_sld hx hb hX hbl hbA hS (z_inE b115) dL_law_919 ?_
        refine lv_aload_n hx hb dL_law_920 rfl (lv_at hl 1 rfl) ?_
        refine lv_iload hx hb dL_law_921 (lv_at hl 5 rfl) ?_
        refine lv_iconst (v := (3 : Int32)) hx hb dL_law_923 (by decide) ?_
        refine lv_iadd hx hb dL_law_924 ?_
        obtain ⟨b116, hf⟩ := z_ckE hf
        refine va_sld hx hb hX hbl hbA hS (z_inE b116) dL_law_925 ?_
        obtain ⟨r117, u117, h117, hf⟩ := z_b2E hf
        obtain ⟨Y117, e117, hf⟩ := z_ltE hf
        refine z_xVi (As := [.int (xs ((x4 + (1 : Int32))).toNatClampNeg), .int (xs ((x4 + (2 : Int32))).toNatClampNeg), .int (xs ((x4 + (3 : Int32))).toNatClampNeg)]) (rest := []) (wf := z_md c d) (g := Y113.2.1) (u0 := u117) (V2 := z_lw c b a d o Y117) ⟨hx, hb, hml, hown, htw⟩ (kX5_change l D c N d H.size Y113.2.1 (xs ((x4 + (1 : Int32))).toNatClampNeg) (xs ((x4 + (2 : Int32))).toNatClampNeg) (xs ((x4 + (3 : Int32))).toNatClampNeg) r117 u117 h117) (cwV 3 htw gL_law_X5_change rfl rfl rfl (by decide +kernel) ⟨Nat.le_of_ble_eq_true rfl, Nat.le_of_ble_eq_true rfl⟩) hP hK hD hS hA (by rw [e117]; exact z_cutLM hD u117) (ci := 5) (q0 := 0) rfl rfl rfl rfl hl.1 (Nat.le_of_ble_eq_true rfl) rfl dL_law_926 ⟨(show _ ≤ 601024 by omega), (show _ ≤ 7293034 by omega)⟩ (fun H locs hP hD hS => ?_)
        refine lv_istore (lv' := [(6, .int r117), (5, .int r113), (0, .ref bS), (1, .ref (b 0)), (2, .ref (d 0)), (3, .ref o), (4, .int x4)]) hx hb dL_law_929 hl (by decide) rfl (fun ls hl => ?_)
        refine lv_aload_n hx hb dL_law_931 rfl (lv_at hl 4 rfl) ?_
        obtain ⟨r118, h118, hf⟩ := z_bE hf
        refine z_xVi (As := []) (rest := []) (wf := z_md c d) (g := Y117.2.1) (u0 := Y117.2.1) (V2 := z_lw c b a d o Y117) ⟨hx, hb, hml, hown, htw⟩ (kX5_thrown l D c N d H.size Y117.2.1  r118 h118) (cwV 0 htw gL_law_X5_thrown rfl rfl rfl (by decide +kernel) ⟨Nat.le_of_ble_eq_true rfl, Nat.le_of_ble_eq_true rfl⟩) hP hK hD hS hA (z_cutLMp hD) (ci := 5) (q0 := 0) rfl rfl rfl rfl hl.1 (Nat.le_of_ble_eq_true rfl) rfl dL_law_932 ⟨(show _ ≤ 601024 by omega), (show _ ≤ 7293034 by omega)⟩ (fun H locs hP hD hS => ?_)
        refine lv_iload hx hb dL_law_935 (lv_at hl 1 rfl) ?_
        refine lv_icmp_eq (tgt := 942) hx hb dL_law_937 (by decide) (fun c119 => ?_) (fun c119 => ?_)
        · have hf := z_ifT hf c119
          refine lv_iload hx hb dL_law_942 (lv_at hl 1 rfl) ?_
          refine lv_if_ne (tgt := 959) hx hb dL_law_944 (by decide) (fun c120 => ?_) (fun c120 => ?_)
          · have hf := z_ifF hf c120
            refine lv_goto (tgt := 1803) hx hb dL_law_959 (by decide) ?_
            refine lv_iinc (v := (x4 + (6 : Int32))) (lv' := [(4, .int (x4 + (6 : Int32))), (6, .int r117), (5, .int r113), (0, .ref bS), (1, .ref (b 0)), (2, .ref (d 0)), (3, .ref o)]) hx hb dL_law_1803 hl (k := 6) rfl rfl (by decide) rfl (fun ls hl => ?_)
            refine lv_goto (tgt := 23) hx hb dL_law_1806 (by decide) ?_
            refine W.widen (k := CC + (j + 1)) (n := SS + 6 * (j + 1)) (by omega) (by omega) ?_
            exact ih (j + 1) _ _ (by omega) (by rw [hx4]; exact z_nI6 j) hf H locs ls hP hD hS (lv_sub hl [3, 4, 5, 6, 0] rfl)
          · have hf := z_ifT hf c120
            refine lv_aload_n hx hb dL_law_947 rfl (lv_at hl 5 rfl) ?_
            refine lv_iconst (v := (0 : Int32)) hx hb dL_law_948 (by decide) ?_
            refine va_lald hx hb hK.1 (z_subP hP z_inO) 0 3 rfl rfl (z_inE (by decide)) dL_law_949 ?_
            refine lv_iload hx hb dL_law_950 (lv_at hl 0 rfl) ?_
            refine lv_i2l (v := (r117).toInt64) hx hb dL_law_952 rfl ?_
            refine W.lcmp hx hb dL_law_953 ?_
            refine lv_if_eq (tgt := 959) hx hb dL_law_954 (by decide) (fun c121 => ?_) (fun c121 => ?_)
            · have hf := z_ifT hf c121
              refine lv_goto (tgt := 1803) hx hb dL_law_959 (by decide) ?_
              refine lv_iinc (v := (x4 + (6 : Int32))) (lv' := [(4, .int (x4 + (6 : Int32))), (6, .int r117), (5, .int r113), (0, .ref bS), (1, .ref (b 0)), (2, .ref (d 0)), (3, .ref o)]) hx hb dL_law_1803 hl (k := 6) rfl rfl (by decide) rfl (fun ls hl => ?_)
              refine lv_goto (tgt := 23) hx hb dL_law_1806 (by decide) ?_
              refine W.widen (k := CC + (j + 1)) (n := SS + 6 * (j + 1)) (by omega) (by omega) ?_
              exact ih (j + 1) _ _ (by omega) (by rw [hx4]; exact z_nI6 j) hf H locs ls hP hD hS (lv_sub hl [3, 4, 5, 6, 0] rfl)
            · have hf := z_ifF hf c121
              refine lv_iconst (v := (0 : Int32)) hx hb dL_law_957 (by decide) ?_
              exact absurd hf (by decide)
        · have hf := z_ifF hf c119
          refine lv_iconst (v := (0 : Int32)) hx hb dL_law_940 (by decide) ?_
          exact absurd hf (by decide)
      have hf := z_ifF hf c3_13
      by_cases c3_14 : ((xs (x4).toNatClampNeg) &&& (31 : Int32)) = (14 : Int32)
      · have hf := z_ifT hf c3_14
        refine lv_tableIn (tgt := 962) hx hb dL_law_40 (by rw [c3_14]; decide) (by rw [c3_14]; decide) (off := 922) (by rw [c3_14]; rfl) (by decide) ?_
        refine lv_aload_n hx hb dL_law_962 rfl (lv_at hl 1 rfl) ?_
        refine lv_aload_n hx hb dL_law_963 rfl (lv_at hl 0 rfl) ?_
        refine lv_iload hx hb dL_law_964 (lv_at hl 4 rfl) ?_
        refine lv_iconst (v := (1 : Int32)) hx hb dL_law_966 (by decide) ?_
        refine lv_iadd hx hb dL_law_967 ?_
        obtain ⟨b122, hf⟩ := z_ckE hf
        refine va_sld hx hb hX hbl hbA hS (z_inE b122) dL_law_968 ?_
        refine lv_aload_n hx hb dL_law_969 rfl (lv_at hl 0 rfl) ?_
        refine lv_iload hx hb dL_law_970 (lv_at hl 4 rfl) ?_
        refine lv_iconst (v := (2 : Int32)) hx hb dL_law_972 (by decide) ?_
        refine lv_iadd hx hb dL_law_973 ?_
        obtain ⟨b123, hf⟩ := z_ckE hf
        refine va_sld hx hb hX hbl hbA hS (z_inE b123) dL_law_974 ?_
        refine lv_aload_n hx hb dL_law_975 rfl (lv_at hl 3 rfl) ?_
        obtain ⟨r124, Z124, h124, hf⟩ := z_b2E hf
        obtain ⟨Y124, e124, hf⟩ := z_ltE hf
        refine z_xH (As := [.ref (b 0), .int (xs ((x4 + (1 : Int32))).toNatClampNeg), .int (xs ((x4 + (2 : Int32))).toNatClampNeg), .ref o]) (rest := []) (wf := z_hw c b a o) (g := (Y.1, Y.2.2)) (u0 := Z124) (V2 := z_lw c b a d o Y124) ⟨hx, hb, hml, hown, htw⟩ (kL_move l hlst D c N b a o H.size (Y.1, Y.2.2) (xs ((x4 + (1 : Int32))).toNatClampNeg) (xs ((x4 + (2 : Int32))).toNatClampNeg) r124 Z124 h124) (vx_cwSW 4 htw gL_law_L_move rfl rfl rfl (by decide +kernel) ⟨Nat.le_of_ble_eq_true rfl, Nat.le_of_ble_eq_true rfl⟩) hP hK hD hS hA (hE.kept (fun q h1 h2 => hS.2.1 q h1 h2) (fun _ h => h)) (by rw [e124]; exact z_cutLH hD Z124) rfl hl.1 (Nat.le_of_ble_eq_true rfl) rfl dL_law_976 ⟨(show _ ≤ 601024 by omega), (show _ ≤ 7293034 by omega)⟩ (fun H locs hP hD hS => ?_)
        refine lv_istore (lv' := [(5, .int r124), (0, .ref bS), (1, .ref (b 0)), (2, .ref (d 0)), (3, .ref o), (4, .int x4)]) hx hb dL_law_979 hl (by decide) rfl (fun ls hl => ?_)
        refine lv_aload_n hx hb dL_law_981 rfl (lv_at hl 3 rfl) ?_
        refine lv_aload_n hx hb dL_law_982 rfl (lv_at hl 1 rfl) ?_
        refine lv_iload hx hb dL_law_983 (lv_at hl 5 rfl) ?_
        refine lv_iconst (v := (1 : Int32)) hx hb dL_law_985 (by decide) ?_
        refine lv_iadd hx hb dL_law_986 ?_
        obtain ⟨b125, hf⟩ := z_ckE hf
        refine va_sld hx hb hX hbl hbA hS (z_inE b125) dL_law_987 ?_
        refine lv_aload_n hx hb dL_law_988 rfl (lv_at hl 1 rfl) ?_
        refine lv_iload hx hb dL_law_989 (lv_at hl 5 rfl) ?_
        refine lv_iconst (v := (2 : Int32)) hx hb dL_law_991 (by decide) ?_
        refine lv_iadd hx hb dL_law_992 ?_
        obtain ⟨b126, hf⟩ := z_ckE hf
        refine va_sld hx hb hX hbl hbA hS (z_inE b126) dL_law_993 ?_
        obtain ⟨r127, u127, h127, hf⟩ := z_b2E hf
        obtain ⟨Y127, e127, hf⟩ := z_ltE hf
        refine z_xVi (As := [.int (xs ((x4 + (1 : Int32))).toNatClampNeg), .int (xs ((x4 + (2 : Int32))).toNatClampNeg)]) (rest := []) (wf := z_md c d) (g := Y124.2.1) (u0 := u127) (V2 := z_lw c b a d o Y127) ⟨hx, hb, hml, hown, htw⟩ (kX5_move l D c N d H.size Y124.2.1 (xs ((x4 + (1 : Int32))).toNatClampNeg) (xs ((x4 + (2 : Int32))).toNatClampNeg) r127 u127 h127) (cwV 2 htw gL_law_X5_move rfl rfl rfl (by decide +kernel) ⟨Nat.le_of_ble_eq_true rfl, Nat.le_of_ble_eq_true rfl⟩) hP hK hD hS hA (by rw [e127]; exact z_cutLM hD u127) (ci := 5) (q0 := 0) rfl rfl rfl rfl hl.1 (Nat.le_of_ble_eq_true rfl) rfl dL_law_994 ⟨(show _ ≤ 601024 by omega), (show _ ≤ 7293034 by omega)⟩ (fun H locs hP hD hS => ?_)
        refine lv_istore (lv' := [(6, .int r127), (5, .int r124), (0, .ref bS), (1, .ref (b 0)), (2, .ref (d 0)), (3, .ref o), (4, .int x4)]) hx hb dL_law_997 hl (by decide) rfl (fun ls hl => ?_)
        refine lv_aload_n hx hb dL_law_999 rfl (lv_at hl 4 rfl) ?_
        obtain ⟨r128, h128, hf⟩ := z_bE hf
        refine z_xVi (As := []) (rest := []) (wf := z_md c d) (g := Y127.2.1) (u0 := Y127.2.1) (V2 := z_lw c b a d o Y127) ⟨hx, hb, hml, hown, htw⟩ (kX5_thrown l D c N d H.size Y127.2.1  r128 h128) (cwV 0 htw gL_law_X5_thrown rfl rfl rfl (by decide +kernel) ⟨Nat.le_of_ble_eq_true rfl, Nat.le_of_ble_eq_true rfl⟩) hP hK hD hS hA (z_cutLMp hD) (ci := 5) (q0 := 0) rfl rfl rfl rfl hl.1 (Nat.le_of_ble_eq_true rfl) rfl dL_law_1000 ⟨(show _ ≤ 601024 by omega), (show _ ≤ 7293034 by omega)⟩ (fun H locs hP hD hS => ?_)
        refine lv_iload hx hb dL_law_1003 (lv_at hl 1 rfl) ?_
        refine lv_icmp_eq (tgt := 1010) hx hb dL_law_1005 (by decide) (fun c129 => ?_) (fun c129 => ?_)
        · have hf := z_ifT hf c129
          refine lv_iload hx hb dL_law_1010 (lv_at hl 1 rfl) ?_
          refine lv_if_ne (tgt := 1027) hx hb dL_law_1012 (by decide) (fun c130 => ?_) (fun c130 => ?_)
          · have hf := z_ifF hf c130
            refine lv_goto (tgt := 1803) hx hb dL_law_1027 (by decide) ?_
            refine lv_iinc (v := (x4 + (6 : Int32))) (lv' := [(4, .int (x4 + (6 : Int32))), (6, .int r127), (5, .int r124), (0, .ref bS), (1, .ref (b 0)), (2, .ref (d 0)), (3, .ref o)]) hx hb dL_law_1803 hl (k := 6) rfl rfl (by decide) rfl (fun ls hl => ?_)
            refine lv_goto (tgt := 23) hx hb dL_law_1806 (by decide) ?_
            refine W.widen (k := CC + (j + 1)) (n := SS + 6 * (j + 1)) (by omega) (by omega) ?_
            exact ih (j + 1) _ _ (by omega) (by rw [hx4]; exact z_nI6 j) hf H locs ls hP hD hS (lv_sub hl [3, 4, 5, 6, 0] rfl)
          · have hf := z_ifT hf c130
            refine lv_aload_n hx hb dL_law_1015 rfl (lv_at hl 5 rfl) ?_
            refine lv_iconst (v := (0 : Int32)) hx hb dL_law_1016 (by decide) ?_
            refine va_lald hx hb hK.1 (z_subP hP z_inO) 0 3 rfl rfl (z_inE (by decide)) dL_law_1017 ?_
            refine lv_iload hx hb dL_law_1018 (lv_at hl 0 rfl) ?_
            refine lv_i2l (v := (r127).toInt64) hx hb dL_law_1020 rfl ?_
            refine W.lcmp hx hb dL_law_1021 ?_
            refine lv_if_eq (tgt := 1027) hx hb dL_law_1022 (by decide) (fun c131 => ?_) (fun c131 => ?_)
            · have hf := z_ifT hf c131
              refine lv_goto (tgt := 1803) hx hb dL_law_1027 (by decide) ?_
              refine lv_iinc (v := (x4 + (6 : Int32))) (lv' := [(4, .int (x4 + (6 : Int32))), (6, .int r127), (5, .int r124), (0, .ref bS), (1, .ref (b 0)), (2, .ref (d 0)), (3, .ref o)]) hx hb dL_law_1803 hl (k := 6) rfl rfl (by decide) rfl (fun ls hl => ?_)
              refine lv_goto (tgt := 23) hx hb dL_law_1806 (by decide) ?_
              refine W.widen (k := CC + (j + 1)) (n := SS + 6 * (j + 1)) (by omega) (by omega) ?_
              exact ih (j + 1) _ _ (by omega) (by rw [hx4]; exact z_nI6 j) hf H locs ls hP hD hS (lv_sub hl [3, 4, 5, 6, 0] rfl)
            · have hf := z_ifF hf c131
              refine lv_iconst (v := (0 : Int32)) hx hb dL_law_1025 (by decide) ?_
              exact absurd hf (by decide)
        · have hf := z_ifF hf c129
          refine lv_iconst (v := (0 : Int32)) hx hb dL_law_1008 (by decide) ?_
          exact absurd hf (by decide)
      have hf := z_ifF hf c3_14
      by_cases c3_15 : ((xs (x4).toNatClampNeg) &&& (31 : Int32)) = (15 : Int32)
      · have hf := z_ifT hf c3_15
        refine lv_tableIn (tgt := 1030) hx hb dL_law_40 (by rw [c3_15]; decide) (by rw [c3_15]; decide) (off := 990) (by rw [c3_15]; rfl) (by decide) ?_
        refine lv_aload_n hx hb dL_law_1030 rfl (lv_at hl 1 rfl) ?_
        obtain ⟨r132, u132, h132, hf⟩ := z_b2E hf
        obtain ⟨Y132, e132, hf⟩ := z_ltE hf
        refine z_xVi (As := []) (rest := []) (wf := z_dw c b a) (g := Y.1) (u0 := u132) (V2 := z_lw c b a d o Y132) ⟨hx, hb, hml, hown, htw⟩ (kX4_lay l D c N b a H.size Y.1  r132 u132 h132) (cwV 0 htw gL_law_X4_lay rfl rfl rfl (by decide +kernel) ⟨Nat.le_of_ble_eq_true rfl, Nat.le_of_ble_eq_true rfl⟩) hP hK hD hS hA (by rw [e132]; exact z_cutLD hD u132) (ci := 4) (q0 := 0) rfl rfl rfl rfl hl.1 (Nat.le_of_ble_eq_true rfl) rfl dL_law_1031 ⟨(show _ ≤ 601024 by omega), (show _ ≤ 7293034 by omega)⟩ (fun H locs hP hD hS => ?_)
        refine lv_aload_n hx hb dL_law_1034 rfl (lv_at hl 2 rfl) ?_
        obtain ⟨r133, u133, h133, hf⟩ := z_b2E hf
        obtain ⟨Y133, e133, hf⟩ := z_ltE hf
        refine z_xVi (As := []) (rest := [.int r132]) (wf := z_md c d) (g := Y132.2.1) (u0 := u133) (V2 := z_lw c b a d o Y133) ⟨hx, hb, hml, hown, htw⟩ (kX5_lay l D c N d H.size Y132.2.1  r133 u133 h133) (cwV 0 htw gL_law_X5_lay rfl rfl rfl (by decide +kernel) ⟨Nat.le_of_ble_eq_true rfl, Nat.le_of_ble_eq_true rfl⟩) hP hK hD hS hA (by rw [e133]; exact z_cutLM hD u133) (ci := 5) (q0 := 0) rfl rfl rfl rfl hl.1 (Nat.le_of_ble_eq_true rfl) rfl dL_law_1035 ⟨(show _ ≤ 601024 by omega), (show _ ≤ 7293034 by omega)⟩ (fun H locs hP hD hS => ?_)
        refine lv_icmp_eq (tgt := 1803) hx hb dL_law_1038 (by decide) (fun c134 => ?_) (fun c134 => ?_)
        · have hf := z_ifT hf c134
          refine lv_iinc (v := (x4 + (6 : Int32))) (lv' := [(4, .int (x4 + (6 : Int32))), (0, .ref bS), (1, .ref (b 0)), (2, .ref (d 0)), (3, .ref o)]) hx hb dL_law_1803 hl (k := 4) rfl rfl (by decide) rfl (fun ls hl => ?_)
          refine lv_goto (tgt := 23) hx hb dL_law_1806 (by decide) ?_
          refine W.widen (k := CC + (j + 1)) (n := SS + 6 * (j + 1)) (by omega) (by omega) ?_
          exact ih (j + 1) _ _ (by omega) (by rw [hx4]; exact z_nI6 j) hf H locs ls hP hD hS (lv_sub hl [1, 2, 3, 4, 0] rfl)
        · have hf := z_ifF hf c134
          refine lv_iconst (v := (0 : Int32)) hx hb dL_law_1041 (by decide) ?_
          exact absurd hf (by decide)
      have hf := z_ifF hf c3_15
      by_cases c3_16 : ((xs (x4).toNatClampNeg) &&& (31 : Int32)) = (16 : Int32)
      · have hf := z_ifT hf c3_16
        refine lv_tableIn (tgt := 1043) hx hb dL_law_40 (by rw [c3_16]; decide) (by rw [c3_16]; decide) (off := 1003) (by rw [c3_16]; rfl) (by decide) ?_
        refine lv_aload_n hx hb dL_law_1043 rfl (lv_at hl 1 rfl) ?_
        refine lv_aload_n hx hb dL_law_1044 rfl (lv_at hl 0 rfl) ?_
        refine lv_iload hx hb dL_law_1045 (lv_at hl 4 rfl) ?_
        refine lv_iconst (v := (1 : Int32)) hx hb dL_law_1047 (by decide) ?_
        refine lv_iadd hx hb dL_law_1048 ?_
        obtain ⟨b135, hf⟩ := z_ckE hf
        refine va_sld hx hb hX hbl hbA hS (z_inE b135) dL_law_1049 ?_
        refine lv_aload_n hx hb dL_law_1050 rfl (lv_at hl 3 rfl) ?_
        obtain ⟨r136, Z136, h136, hf⟩ := z_b2E hf
        obtain ⟨Y136, e136, hf⟩ := z_ltE hf
        refine z_xH (As := [.ref (b 0), .int (xs ((x4 + (1 : Int32))).toNatClampNeg), .ref o]) (rest := []) (wf := z_hw c b a o) (g := (Y.1, Y.2.2)) (u0 := Z136) (V2 := z_lw c b a d o Y136) ⟨hx, hb, hml, hown, htw⟩ (kL_run l hlst D c N b a o H.size (Y.1, Y.2.2) (xs ((x4 + (1 : Int32))).toNatClampNeg) r136 Z136 h136) (vx_cwSW 3 htw gL_law_L_run rfl rfl rfl (by decide +kernel) ⟨Nat.le_of_ble_eq_true rfl, Nat.le_of_ble_eq_true rfl⟩) hP hK hD hS hA (hE.kept (fun q h1 h2 => hS.2.1 q h1 h2) (fun _ h => h)) (by rw [e136]; exact z_cutLH hD Z136) rfl hl.1 (Nat.le_of_ble_eq_true rfl) rfl dL_law_1051 ⟨(show _ ≤ 601024 by omega), (show _ ≤ 7293034 by omega)⟩ (fun H locs hP hD hS => ?_)
        refine lv_istore (lv' := [(5, .int r136), (0, .ref bS), (1, .ref (b 0)), (2, .ref (d 0)), (3, .ref o), (4, .int x4)]) hx hb dL_law_1054 hl (by decide) rfl (fun ls hl => ?_)
        refine lv_aload_n hx hb dL_law_1056 rfl (lv_at hl 3 rfl) ?_
        refine lv_aload_n hx hb dL_law_1057 rfl (lv_at hl 1 rfl) ?_
        refine lv_iload hx hb dL_law_1058 (lv_at hl 5 rfl) ?_
        refine lv_iconst (v := (1 : Int32)) hx hb dL_law_1060 (by decide) ?_
        refine lv_iadd hx hb dL_law_1061 ?_
        obtain ⟨b137, hf⟩ := z_ckE hf
        refine va_sld hx hb hX hbl hbA hS (z_inE b137) dL_law_1062 ?_
        obtain ⟨r138, u138, h138, hf⟩ := z_b2E hf
        obtain ⟨Y138, e138, hf⟩ := z_ltE hf
        refine z_xVi (As := [.int (xs ((x4 + (1 : Int32))).toNatClampNeg)]) (rest := []) (wf := z_md c d) (g := Y136.2.1) (u0 := u138) (V2 := z_lw c b a d o Y138) ⟨hx, hb, hml, hown, htw⟩ (kX5_run l D c N d H.size Y136.2.1 (xs ((x4 + (1 : Int32))).toNatClampNeg) r138 u138 h138) (cwV 1 htw gL_law_X5_run rfl rfl rfl (by decide +kernel) ⟨Nat.le_of_ble_eq_true rfl, Nat.le_of_ble_eq_true rfl⟩) hP hK hD hS hA (by rw [e138]; exact z_cutLM hD u138) (ci := 5) (q0 := 0) rfl rfl rfl rfl hl.1 (Nat.le_of_ble_eq_true rfl) rfl dL_law_1063 ⟨(show _ ≤ 601024 by omega), (show _ ≤ 7293034 by omega)⟩ (fun H locs hP hD hS => ?_)
        refine lv_istore (lv' := [(6, .int r138), (5, .int r136), (0, .ref bS), (1, .ref (b 0)), (2, .ref (d 0)), (3, .ref o), (4, .int x4)]) hx hb dL_law_1066 hl (by decide) rfl (fun ls hl => ?_)
        refine lv_aload_n hx hb dL_law_1068 rfl (lv_at hl 4 rfl) ?_
        obtain ⟨r139, h139, hf⟩ := z_bE hf
        refine z_xVi (As := []) (rest := []) (wf := z_md c d) (g := Y138.2.1) (u0 := Y138.2.1) (V2 := z_lw c b a d o Y138) ⟨hx, hb, hml, hown, htw⟩ (kX5_thrown l D c N d H.size Y138.2.1  r139 h139) (cwV 0 htw gL_law_X5_thrown rfl rfl rfl (by decide +kernel) ⟨Nat.le_of_ble_eq_true rfl, Nat.le_of_ble_eq_true rfl⟩) hP hK hD hS hA (z_cutLMp hD) (ci := 5) (q0 := 0) rfl rfl rfl rfl hl.1 (Nat.le_of_ble_eq_true rfl) rfl dL_law_1069 ⟨(show _ ≤ 601024 by omega), (show _ ≤ 7293034 by omega)⟩ (fun H locs hP hD hS => ?_)
        refine lv_iload hx hb dL_law_1072 (lv_at hl 1 rfl) ?_
        refine lv_icmp_eq (tgt := 1079) hx hb dL_law_1074 (by decide) (fun c140 => ?_) (fun c140 => ?_)
        · have hf := z_ifT hf c140
          refine lv_iload hx hb dL_law_1079 (lv_at hl 1 rfl) ?_
          refine lv_if_ne (tgt := 1096) hx hb dL_law_1081 (by decide) (fun c141 => ?_) (fun c141 => ?_)
          · have hf := z_ifF hf c141
            refine lv_goto (tgt := 1803) hx hb dL_law_1096 (by decide) ?_
            refine lv_iinc (v := (x4 + (6 : Int32))) (lv' := [(4, .int (x4 + (6 : Int32))), (6, .int r138), (5, .int r136), (0, .ref bS), (1, .ref (b 0)), (2, .ref (d 0)), (3, .ref o)]) hx hb dL_law_1803 hl (k := 6) rfl rfl (by decide) rfl (fun ls hl => ?_)
            refine lv_goto (tgt := 23) hx hb dL_law_1806 (by decide) ?_
            refine W.widen (k := CC + (j + 1)) (n := SS + 6 * (j + 1)) (by omega) (by omega) ?_
            exact ih (j + 1) _ _ (by omega) (by rw [hx4]; exact z_nI6 j) hf H locs ls hP hD hS (lv_sub hl [3, 4, 5, 6, 0] rfl)
          · have hf := z_ifT hf c141
            refine lv_aload_n hx hb dL_law_1084 rfl (lv_at hl 5 rfl) ?_
            refine lv_iconst (v := (0 : Int32)) hx hb dL_law_1085 (by decide) ?_
            refine va_lald hx hb hK.1 (z_subP hP z_inO) 0 3 rfl rfl (z_inE (by decide)) dL_law_1086 ?_
            refine lv_iload hx hb dL_law_1087 (lv_at hl 0 rfl) ?_
            refine lv_i2l (v := (r138).toInt64) hx hb dL_law_1089 rfl ?_
            refine W.lcmp hx hb dL_law_1090 ?_
            refine lv_if_eq (tgt := 1096) hx hb dL_law_1091 (by decide) (fun c142 => ?_) (fun c142 => ?_)
            · have hf := z_ifT hf c142
              refine lv_goto (tgt := 1803) hx hb dL_law_1096 (by decide) ?_
              refine lv_iinc (v := (x4 + (6 : Int32))) (lv' := [(4, .int (x4 + (6 : Int32))), (6, .int r138), (5, .int r136), (0, .ref bS), (1, .ref (b 0)), (2, .ref (d 0)), (3, .ref o)]) hx hb dL_law_1803 hl (k := 6) rfl rfl (by decide) rfl (fun ls hl => ?_)
              refine lv_goto (tgt := 23) hx hb dL_law_1806 (by decide) ?_
              refine W.widen (k := CC + (j + 1)) (n := SS + 6 * (j + 1)) (by omega) (by omega) ?_
              exact ih (j + 1) _ _ (by omega) (by rw [hx4]; exact z_nI6 j) hf H locs ls hP hD hS (lv_sub hl [3, 4, 5, 6, 0] rfl)
            · have hf := z_ifF hf c142
              refine lv_iconst (v := (0 : Int32)) hx hb dL_law_1094 (by decide) ?_
              exact absurd hf (by decide)
        · have hf := z_ifF hf c140
          refine lv_iconst (v := (0 : Int32)) hx hb dL_law_1077 (by decide) ?_
          exact absurd hf (by decide)
      have hf := z_ifF hf c3_16
      by_cases c3_17 : ((xs (x4).toNatClampNeg) &&& (31 : Int32)) = (17 : Int32)
      · have hf := z_ifT hf c3_17
        refine lv_tableIn (tgt := 1099) hx hb dL_law_40 (by rw [c3_17]; decide) (by rw [c3_17]; decide) (off := 1059) (by rw [c3_17]; rfl) (by decide) ?_
        refine lv_aload_n hx hb dL_law_1099 rfl (lv_at hl 1 rfl) ?_
        refine lv_aload_n hx hb dL_law_1100 rfl (lv_at hl 0 rfl) ?_
        refine lv_iload hx hb dL_law_1101 (lv_at hl 4 rfl) ?_
        refine lv_iconst (v := (1 : Int32)) hx hb dL_law_1103 (by decide) ?_
        refine lv_iadd hx hb dL_law_1104 ?_
        obtain ⟨b143, hf⟩ := z_ckE hf
        refine va_sld hx hb hX hbl hbA hS (z_inE b143) dL_law_1105 ?_
        refine lv_aload_n hx hb dL_law_1106 rfl (lv_at hl 3 rfl) ?_
        obtain ⟨r144, Z144, h144, hf⟩ := z_b2E hf
        obtain ⟨Y144, e144, hf⟩ := z_ltE hf
        refine z_xH (As := [.ref (b 0), .int (xs ((x4 + (1 : Int32))).toNatClampNeg), .ref o]) (rest := []) (wf := z_hw c b a o) (g := (Y.1, Y.2.2)) (u0 := Z144) (V2 := z_lw c b a d o Y144) ⟨hx, hb, hml, hown, htw⟩ (kL_turn l hlst D c N b a o H.size (Y.1, Y.2.2) (xs ((x4 + (1 : Int32))).toNatClampNeg) r144 Z144 h144) (vx_cwSW 3 htw gL_law_L_turn rfl rfl rfl (by decide +kernel) ⟨Nat.le_of_ble_eq_true rfl, Nat.le_of_ble_eq_true rfl⟩) hP hK hD hS hA (hE.kept (fun q h1 h2 => hS.2.1 q h1 h2) (fun _ h => h)) (by rw [e144]; exact z_cutLH hD Z144) rfl hl.1 (Nat.le_of_ble_eq_true rfl) rfl dL_law_1107 ⟨(show _ ≤ 601024 by omega), (show _ ≤ 7293034 by omega)⟩ (fun H locs hP hD hS => ?_)
        refine lv_istore (lv' := [(5, .int r144), (0, .ref bS), (1, .ref (b 0)), (2, .ref (d 0)), (3, .ref o), (4, .int x4)]) hx hb dL_law_1110 hl (by decide) rfl (fun ls hl => ?_)
        refine lv_aload_n hx hb dL_law_1112 rfl (lv_at hl 3 rfl) ?_
        refine lv_aload_n hx hb dL_law_1113 rfl (lv_at hl 1 rfl) ?_
        refine lv_iload hx hb dL_law_1114 (lv_at hl 5 rfl) ?_
        refine lv_iconst (v := (1 : Int32)) hx hb dL_law_1116 (by decide) ?_
        refine lv_iadd hx hb dL_law_1117 ?_
        obtain ⟨b145, hf⟩ := z_ckE hf
        refine va_sld hx hb hX hbl hbA hS (z_inE b145) dL_law_1118 ?_
        obtain ⟨r146, u146, h146, hf⟩ := z_b2E hf
        obtain ⟨Y146, e146, hf⟩ := z_ltE hf
        refine z_xVi (As := [.int (xs ((x4 + (1 : Int32))).toNatClampNeg)]) (rest := []) (wf := z_md c d) (g := Y144.2.1) (u0 := u146) (V2 := z_lw c b a d o Y146) ⟨hx, hb, hml, hown, htw⟩ (kX5_turn l D c N d H.size Y144.2.1 (xs ((x4 + (1 : Int32))).toNatClampNeg) r146 u146 h146) (cwV 1 htw gL_law_X5_turn rfl rfl rfl (by decide +kernel) ⟨Nat.le_of_ble_eq_true rfl, Nat.le_of_ble_eq_true rfl⟩) hP hK hD hS hA (by rw [e146]; exact z_cutLM hD u146) (ci := 5) (q0 := 0) rfl rfl rfl rfl hl.1 (Nat.le_of_ble_eq_true rfl) rfl dL_law_1119 ⟨(show _ ≤ 601024 by omega), (show _ ≤ 7293034 by omega)⟩ (fun H locs hP hD hS => ?_)
        refine lv_istore (lv' := [(6, .int r146), (5, .int r144), (0, .ref bS), (1, .ref (b 0)), (2, .ref (d 0)), (3, .ref o), (4, .int x4)]) hx hb dL_law_1122 hl (by decide) rfl (fun ls hl => ?_)
        refine lv_aload_n hx hb dL_law_1124 rfl (lv_at hl 4 rfl) ?_
        obtain ⟨r147, h147, hf⟩ := z_bE hf
        refine z_xVi (As := []) (rest := []) (wf := z_md c d) (g := Y146.2.1) (u0 := Y146.2.1) (V2 := z_lw c b a d o Y146) ⟨hx, hb, hml, hown, htw⟩ (kX5_thrown l D c N d H.size Y146.2.1  r147 h147) (cwV 0 htw gL_law_X5_thrown rfl rfl rfl (by decide +kernel) ⟨Nat.le_of_ble_eq_true rfl, Nat.le_of_ble_eq_true rfl⟩) hP hK hD hS hA (z_cutLMp hD) (ci := 5) (q0 := 0) rfl rfl rfl rfl hl.1 (Nat.le_of_ble_eq_true rfl) rfl dL_law_1125 ⟨(show _ ≤ 601024 by omega), (show _ ≤ 7293034 by omega)⟩ (fun H locs hP hD hS => ?_)
        refine lv_iload hx hb dL_law_1128 (lv_at hl 1 rfl) ?_
        refine lv_icmp_eq (tgt := 1135) hx hb dL_law_1130 (by decide) (fun c148 => ?_) (fun c148 => ?_)
        · have hf := z_ifT hf c148
          refine lv_iload hx hb dL_law_1135 (lv_at hl 1 rfl) ?_
          refine lv_if_ne (tgt := 1152) hx hb dL_law_1137 (by decide) (fun c149 => ?_) (fun c149 => ?_)
          · have hf := z_ifF hf c149
            refine lv_goto (tgt := 1803) hx hb dL_law_1152 (by decide) ?_
            refine lv_iinc (v := (x4 + (6 : Int32))) (lv' := [(4, .int (x4 + (6 : Int32))), (6, .int r146), (5, .int r144), (0, .ref bS), (1, .ref (b 0)), (2, .ref (d 0)), (3, .ref o)]) hx hb dL_law_1803 hl (k := 6) rfl rfl (by decide) rfl (fun ls hl => ?_)
            refine lv_goto (tgt := 23) hx hb dL_law_1806 (by decide) ?_
            refine W.widen (k := CC + (j + 1)) (n := SS + 6 * (j + 1)) (by omega) (by omega) ?_
            exact ih (j + 1) _ _ (by omega) (by rw [hx4]; exact z_nI6 j) hf H locs ls hP hD hS (lv_sub hl [3, 4, 5, 6, 0] rfl)
          · have hf := z_ifT hf c149
            refine lv_aload_n hx hb dL_law_1140 rfl (lv_at hl 5 rfl) ?_
            refine lv_iconst (v := (0 : Int32)) hx hb dL_law_1141 (by decide) ?_
            refine va_lald hx hb hK.1 (z_subP hP z_inO) 0 3 rfl rfl (z_inE (by decide)) dL_law_1142 ?_
            refine lv_iload hx hb dL_law_1143 (lv_at hl 0 rfl) ?_
            refine lv_i2l (v := (r146).toInt64) hx hb dL_law_1145 rfl ?_
            refine W.lcmp hx hb dL_law_1146 ?_
            refine lv_if_eq (tgt := 1152) hx hb dL_law_1147 (by decide) (fun c150 => ?_) (fun c150 => ?_)
            · have hf := z_ifT hf c150
              refine lv_goto (tgt := 1803) hx hb dL_law_1152 (by decide) ?_
              refine lv_iinc (v := (x4 + (6 : Int32))) (lv' := [(4, .int (x4 + (6 : Int32))), (6, .int r146), (5, .int r144), (0, .ref bS), (1, .ref (b 0)), (2, .ref (d 0)), (3, .ref o)]) hx hb dL_law_1803 hl (k := 6) rfl rfl (by decide) rfl (fun ls hl => ?_)
              refine lv_goto (tgt := 23) hx hb dL_law_1806 (by decide) ?_
              refine W.widen (k := CC + (j + 1)) (n := SS + 6 * (j + 1)) (by omega) (by omega) ?_
              exact ih (j + 1) _ _ (by omega) (by rw [hx4]; exact z_nI6 j) hf H locs ls hP hD hS (lv_sub hl [3, 4, 5, 6, 0] rfl)
            · have hf := z_ifF hf c150
              refine lv_iconst (v := (0 : Int32)) hx hb dL_law_1150 (by decide) ?_
              exact absurd hf (by decide)
        · have hf := z_ifF hf c148
          refine lv_iconst (v := (0 : Int32)) hx hb dL_law_1133 (by decide) ?_
          exact absurd hf (by decide)
      have hf := z_ifF hf c3_17
      by_cases c3_18 : ((xs (x4).toNatClampNeg) &&& (31 : Int32)) = (18 : Int32)
      · have hf := z_ifT hf c3_18
        refine lv_tableIn (tgt := 1155) hx hb dL_law_40 (by rw [c3_18]; decide) (by rw [c3_18]; decide) (off := 1115) (by rw [c3_18]; rfl) (by decide) ?_
        refine lv_aload_n hx hb dL_law_1155 rfl (lv_at hl 1 rfl) ?_
        refine lv_aload_n hx hb dL_law_1156 rfl (lv_at hl 3 rfl) ?_
        obtain ⟨r151, Z151, h151, hf⟩ := z_b2E hf
        obtain ⟨Y151, e151, hf⟩ := z_ltE hf
        refine z_xH (As := [.ref (b 0), .ref o]) (rest := []) (wf := z_hw c b a o) (g := (Y.1, Y.2.2)) (u0 := Z151) (V2 := z_lw c b a d o Y151) ⟨hx, hb, hml, hown, htw⟩ (kL_undo l hlst D c N b a o H.size (Y.1, Y.2.2)  r151 Z151 h151) (vx_cwSW 2 htw gL_law_L_undo rfl rfl rfl (by decide +kernel) ⟨Nat.le_of_ble_eq_true rfl, Nat.le_of_ble_eq_true rfl⟩) hP hK hD hS hA (hE.kept (fun q h1 h2 => hS.2.1 q h1 h2) (fun _ h => h)) (by rw [e151]; exact z_cutLH hD Z151) rfl hl.1 (Nat.le_of_ble_eq_true rfl) rfl dL_law_1157 ⟨(show _ ≤ 601024 by omega), (show _ ≤ 7293034 by omega)⟩ (fun H locs hP hD hS => ?_)
        refine lv_istore (lv' := [(5, .int r151), (0, .ref bS), (1, .ref (b 0)), (2, .ref (d 0)), (3, .ref o), (4, .int x4)]) hx hb dL_law_1160 hl (by decide) rfl (fun ls hl => ?_)
        refine lv_aload_n hx hb dL_law_1162 rfl (lv_at hl 3 rfl) ?_
        obtain ⟨r152, u152, h152, hf⟩ := z_b2E hf
        obtain ⟨Y152, e152, hf⟩ := z_ltE hf
        refine z_xVi (As := []) (rest := []) (wf := z_md c d) (g := Y151.2.1) (u0 := u152) (V2 := z_lw c b a d o Y152) ⟨hx, hb, hml, hown, htw⟩ (kX5_undo l D c N d H.size Y151.2.1  r152 u152 h152) (cwV 0 htw gL_law_X5_undo rfl rfl rfl (by decide +kernel) ⟨Nat.le_of_ble_eq_true rfl, Nat.le_of_ble_eq_true rfl⟩) hP hK hD hS hA (by rw [e152]; exact z_cutLM hD u152) (ci := 5) (q0 := 0) rfl rfl rfl rfl hl.1 (Nat.le_of_ble_eq_true rfl) rfl dL_law_1163 ⟨(show _ ≤ 601024 by omega), (show _ ≤ 7293034 by omega)⟩ (fun H locs hP hD hS => ?_)
        refine lv_istore (lv' := [(6, .int r152), (5, .int r151), (0, .ref bS), (1, .ref (b 0)), (2, .ref (d 0)), (3, .ref o), (4, .int x4)]) hx hb dL_law_1166 hl (by decide) rfl (fun ls hl => ?_)
        refine lv_aload_n hx hb dL_law_1168 rfl (lv_at hl 4 rfl) ?_
        obtain ⟨r153, h153, hf⟩ := z_bE hf
        refine z_xVi (As := []) (rest := []) (wf := z_md c d) (g := Y152.2.1) (u0 := Y152.2.1) (V2 := z_lw c b a d o Y152) ⟨hx, hb, hml, hown, htw⟩ (kX5_thrown l D c N d H.size Y152.2.1  r153 h153) (cwV 0 htw gL_law_X5_thrown rfl rfl rfl (by decide +kernel) ⟨Nat.le_of_ble_eq_true rfl, Nat.le_of_ble_eq_true rfl⟩) hP hK hD hS hA (z_cutLMp hD) (ci := 5) (q0 := 0) rfl rfl rfl rfl hl.1 (Nat.le_of_ble_eq_true rfl) rfl dL_law_1169 ⟨(show _ ≤ 601024 by omega), (show _ ≤ 7293034 by omega)⟩ (fun H locs hP hD hS => ?_)
        refine lv_iload hx hb dL_law_1172 (lv_at hl 1 rfl) ?_
        refine lv_icmp_eq (tgt := 1179) hx hb dL_law_1174 (by decide) (fun c154 => ?_) (fun c154 => ?_)
        · have hf := z_ifT hf c154
          refine lv_iload hx hb dL_law_1179 (lv_at hl 1 rfl) ?_
          refine lv_if_ne (tgt := 1196) hx hb dL_law_1181 (by decide) (fun c155 => ?_) (fun c155 => ?_)
          · have hf := z_ifF hf c155
            refine lv_goto (tgt := 1803) hx hb dL_law_1196 (by decide) ?_
            refine lv_iinc (v := (x4 + (6 : Int32))) (lv' := [(4, .int (x4 + (6 : Int32))), (6, .int r152), (5, .int r151), (0, .ref bS), (1, .ref (b 0)), (2, .ref (d 0)), (3, .ref o)]) hx hb dL_law_1803 hl (k := 6) rfl rfl (by decide) rfl (fun ls hl => ?_)
            refine lv_goto (tgt := 23) hx hb dL_law_1806 (by decide) ?_
            refine W.widen (k := CC + (j + 1)) (n := SS + 6 * (j + 1)) (by omega) (by omega) ?_
            exact ih (j + 1) _ _ (by omega) (by rw [hx4]; exact z_nI6 j) hf H locs ls hP hD hS (lv_sub hl [3, 4, 5, 6, 0] rfl)
          · have hf := z_ifT hf c155
            refine lv_aload_n hx hb dL_law_1184 rfl (lv_at hl 5 rfl) ?_
            refine lv_iconst (v := (0 : Int32)) hx hb dL_law_1185 (by decide) ?_
            refine va_lald hx hb hK.1 (z_subP hP z_inO) 0 3 rfl rfl (z_inE (by decide)) dL_law_1186 ?_
            refine lv_iload hx hb dL_law_1187 (lv_at hl 0 rfl) ?_
            refine lv_i2l (v := (r152).toInt64) hx hb dL_law_1189 rfl ?_
            refine W.lcmp hx hb dL_law_1190 ?_
            refine lv_if_eq (tgt := 1196) hx hb dL_law_1191 (by decide) (fun c156 => ?_) (fun c156 => ?_)
            · have hf := z_ifT hf c156
              refine lv_goto (tgt := 1803) hx hb dL_law_1196 (by decide) ?_
              refine lv_iinc (v := (x4 + (6 : Int32))) (lv' := [(4, .int (x4 + (6 : Int32))), (6, .int r152), (5, .int r151), (0, .ref bS), (1, .ref (b 0)), (2, .ref (d 0)), (3, .ref o)]) hx hb dL_law_1803 hl (k := 6) rfl rfl (by decide) rfl (fun ls hl => ?_)
              refine lv_goto (tgt := 23) hx hb dL_law_1806 (by decide) ?_
              refine W.widen (k := CC + (j + 1)) (n := SS + 6 * (j + 1)) (by omega) (by omega) ?_
              exact ih (j + 1) _ _ (by omega) (by rw [hx4]; exact z_nI6 j) hf H locs ls hP hD hS (lv_sub hl [3, 4, 5, 6, 0] rfl)
            · have hf := z_ifF hf c156
              refine lv_iconst (v := (0 : Int32)) hx hb dL_law_1194 (by decide) ?_
              exact absurd hf (by decide)
        · have hf := z_ifF hf c154
          refine lv_iconst (v := (0 : Int32)) hx hb dL_law_1177 (by decide) ?_
          exact absurd hf (by decide)
      have hf := z_ifF hf c3_18
      by_cases c3_19 : ((xs (x4).toNatClampNeg) &&& (31 : Int32)) = (19 : Int32)
      · have hf := z_ifT hf c3_19
        refine lv_tableIn (tgt := 1199) hx hb dL_law_40 (by rw [c3_19]; decide) (by rw [c3_19]; decide) (off := 1159) (by rw [c3_19]; rfl) (by decide) ?_
        refine lv_aload_n hx hb dL_law_1199 rfl (lv_at hl 1 rfl) ?_
        refine lv_aload_n hx hb dL_law_1200 rfl (lv_at hl 0 rfl) ?_
        refine lv_iload hx hb dL_law_1201 (lv_at hl 4 rfl) ?_
        refine lv_iconst (v := (1 : Int32)) hx hb dL_law_1203 (by decide) ?_
        refine lv_iadd hx hb dL_law_1204 ?_
        obtain ⟨b157, hf⟩ := z_ckE hf
        refine va_sld hx hb hX hbl hbA hS (z_inE b157) dL_law_1205 ?_
        refine lv_aload_n hx hb dL_law_1206 rfl (lv_at hl 3 rfl) ?_
        obtain ⟨r158, Z158, h158, hf⟩ := z_b2E hf
        obtain ⟨Y158, e158, hf⟩ := z_ltE hf
        refine z_xH (As := [.ref (b 0), .int (xs ((x4 + (1 : Int32))).toNatClampNeg), .ref o]) (rest := []) (wf := z_hw c b a o) (g := (Y.1, Y.2.2)) (u0 := Z158) (V2 := z_lw c b a d o Y158) ⟨hx, hb, hml, hown, htw⟩ (kL_waits l hlst D c N b a o H.size (Y.1, Y.2.2) (xs ((x4 + (1 : Int32))).toNatClampNeg) r158 Z158 h158) (vx_cwSW 3 htw gL_law_L_waits rfl rfl rfl (by decide +kernel) ⟨Nat.le_of_ble_eq_true rfl, Nat.le_of_ble_eq_true rfl⟩) hP hK hD hS hA (hE.kept (fun q h1 h2 => hS.2.1 q h1 h2) (fun _ h => h)) (by rw [e158]; exact z_cutLH hD Z158) rfl hl.1 (Nat.le_of_ble_eq_true rfl) rfl dL_law_1207 ⟨(show _ ≤ 601024 by omega), (show _ ≤ 7293034 by omega)⟩ (fun H locs hP hD hS => ?_)
        refine lv_istore (lv' := [(5, .int r158), (0, .ref bS), (1, .ref (b 0)), (2, .ref (d 0)), (3, .ref o), (4, .int x4)]) hx hb dL_law_1210 hl (by decide) rfl (fun ls hl => ?_)
        refine lv_aload_n hx hb dL_law_1212 rfl (lv_at hl 3 rfl) ?_
        refine lv_aload_n hx hb dL_law_1213 rfl (lv_at hl 1 rfl) ?_
        refine lv_iload hx hb dL_law_1214 (lv_at hl 5 rfl) ?_
        refine lv_iconst (v := (1 : Int32)) hx hb dL_law_1216 (by decide) ?_
        refine lv_iadd hx hb dL_law_1217 ?_
        obtain ⟨b159, hf⟩ := z_ckE hf
        refine va_sld hx hb hX hbl hbA hS (z_inE b159) dL_law_1218 ?_
        obtain ⟨r160, u160, h160, hf⟩ := z_b2E hf
        obtain ⟨Y160, e160, hf⟩ := z_ltE hf
        refine z_xVi (As := [.int (xs ((x4 + (1 : Int32))).toNatClampNeg)]) (rest := []) (wf := z_md c d) (g := Y158.2.1) (u0 := u160) (V2 := z_lw c b a d o Y160) ⟨hx, hb, hml, hown, htw⟩ (kX5_waits l D c N d H.size Y158.2.1 (xs ((x4 + (1 : Int32))).toNatClampNeg) r160 u160 h160) (cwV 1 htw gL_law_X5_waits rfl rfl rfl (by decide +kernel) ⟨Nat.le_of_ble_eq_true rfl, Nat.le_of_ble_eq_true rfl⟩) hP hK hD hS hA (by rw [e160]; exact z_cutLM hD u160) (ci := 5) (q0 := 0) rfl rfl rfl rfl hl.1 (Nat.le_of_ble_eq_true rfl) rfl dL_law_1219 ⟨(show _ ≤ 601024 by omega), (show _ ≤ 7293034 by omega)⟩ (fun H locs hP hD hS => ?_)
        refine lv_istore (lv' := [(6, .int r160), (5, .int r158), (0, .ref bS), (1, .ref (b 0)), (2, .ref (d 0)), (3, .ref o), (4, .int x4)]) hx hb dL_law_1222 hl (by decide) rfl (fun ls hl => ?_)
        refine lv_aload_n hx hb dL_law_1224 rfl (lv_at hl 4 rfl) ?_
        obtain ⟨r161, h161, hf⟩ := z_bE hf
        refine z_xVi (As := []) (rest := []) (wf := z_md c d) (g := Y160.2.1) (u0 := Y160.2.1) (V2 := z_lw c b a d o Y160) ⟨hx, hb, hml, hown, htw⟩ (kX5_thrown l D c N d H.size Y160.2.1  r161 h161) (cwV 0 htw gL_law_X5_thrown rfl rfl rfl (by decide +kernel) ⟨Nat.le_of_ble_eq_true rfl, Nat.le_of_ble_eq_true rfl⟩) hP hK hD hS hA (z_cutLMp hD) (ci := 5) (q0 := 0) rfl rfl rfl rfl hl.1 (Nat.le_of_ble_eq_true rfl) rfl dL_law_1225 ⟨(show _ ≤ 601024 by omega), (show _ ≤ 7293034 by omega)⟩ (fun H locs hP hD hS => ?_)
        refine lv_iload hx hb dL_law_1228 (lv_at hl 1 rfl) ?_
        refine lv_icmp_eq (tgt := 1235) hx hb dL_law_1230 (by decide) (fun c162 => ?_) (fun c162 => ?_)
        · have hf := z_ifT hf c162
          refine lv_iload hx hb dL_law_1235 (lv_at hl 1 rfl) ?_
          refine lv_if_ne (tgt := 1252) hx hb dL_law_1237 (by decide) (fun c163 => ?_) (fun c163 => ?_)
          · have hf := z_ifF hf c163
            refine lv_goto (tgt := 1803) hx hb dL_law_1252 (by decide) ?_
            refine lv_iinc (v := (x4 + (6 : Int32))) (lv' := [(4, .int (x4 + (6 : Int32))), (6, .int r160), (5, .int r158), (0, .ref bS), (1, .ref (b 0)), (2, .ref (d 0)), (3, .ref o)]) hx hb dL_law_1803 hl (k := 6) rfl rfl (by decide) rfl (fun ls hl => ?_)
            refine lv_goto (tgt := 23) hx hb dL_law_1806 (by decide) ?_
            refine W.widen (k := CC + (j + 1)) (n := SS + 6 * (j + 1)) (by omega) (by omega) ?_
            exact ih (j + 1) _ _ (by omega) (by rw [hx4]; exact z_nI6 j) hf H locs ls hP hD hS (lv_sub hl [3, 4, 5, 6, 0] rfl)
          · have hf := z_ifT hf c163
            refine lv_aload_n hx hb dL_law_1240 rfl (lv_at hl 5 rfl) ?_
            refine lv_iconst (v := (0 : Int32)) hx hb dL_law_1241 (by decide) ?_
            refine va_lald hx hb hK.1 (z_subP hP z_inO) 0 3 rfl rfl (z_inE (by decide)) dL_law_1242 ?_
            refine lv_iload hx hb dL_law_1243 (lv_at hl 0 rfl) ?_
            refine lv_i2l (v := (r160).toInt64) hx hb dL_law_1245 rfl ?_
            refine W.lcmp hx hb dL_law_1246 ?_
            refine lv_if_eq (tgt := 1252) hx hb dL_law_1247 (by decide) (fun c164 => ?_) (fun c164 => ?_)
            · have hf := z_ifT hf c164
              refine lv_goto (tgt := 1803) hx hb dL_law_1252 (by decide) ?_
              refine lv_iinc (v := (x4 + (6 : Int32))) (lv' := [(4, .int (x4 + (6 : Int32))), (6, .int r160), (5, .int r158), (0, .ref bS), (1, .ref (b 0)), (2, .ref (d 0)), (3, .ref o)]) hx hb dL_law_1803 hl (k := 6) rfl rfl (by decide) rfl (fun ls hl => ?_)
              refine lv_goto (tgt := 23) hx hb dL_law_1806 (by decide) ?_
              refine W.widen (k := CC + (j + 1)) (n := SS + 6 * (j + 1)) (by omega) (by omega) ?_
              exact ih (j + 1) _ _ (by omega) (by rw [hx4]; exact z_nI6 j) hf H locs ls hP hD hS (lv_sub hl [3, 4, 5, 6, 0] rfl)
            · have hf := z_ifF hf c164
              refine lv_iconst (v := (0 : Int32)) hx hb dL_law_1250 (by decide) ?_
              exact absurd hf (by decide)
        · have hf := z_ifF hf c162
          refine lv_iconst (v := (0 : Int32)) hx hb dL_law_1233 (by decide) ?_
          exact absurd hf (by decide)
      have hf := z_ifF hf c3_19
      by_cases c3_20 : ((xs (x4).toNatClampNeg) &&& (31 : Int32)) = (20 : Int32)
      · have hf := z_ifT hf c3_20
        refine lv_tableIn (tgt := 1255) hx hb dL_law_40 (by rw [c3_20]; decide) (by rw [c3_20]; decide) (off := 1215) (by rw [c3_20]; rfl) (by decide) ?_
        refine lv_aload_n hx hb dL_law_1255 rfl (lv_at hl 1 rfl) ?_
        refine lv_aload_n hx hb dL_law_1256 rfl (lv_at hl 0 rfl) ?_
        refine lv_iload hx hb dL_law_1257 (lv_at hl 4 rfl) ?_
        refine lv_iconst (v := (1 : Int32)) hx hb dL_law_1259 (by decide) ?_
        refine lv_iadd hx hb dL_law_1260 ?_
        obtain ⟨b165, hf⟩ := z_ckE hf
        refine va_sld hx hb hX hbl hbA hS (z_inE b165) dL_law_1261 ?_
        refine lv_aload_n hx hb dL_law_1262 rfl (lv_at hl 3 rfl) ?_
        obtain ⟨r166, Z166, h166, hf⟩ := z_b2E hf
        obtain ⟨Y166, e166, hf⟩ := z_ltE hf
        refine z_xH (As := [.ref (b 0), .int (xs ((x4 + (1 : Int32))).toNatClampNeg), .ref o]) (rest := []) (wf := z_hw c b a o) (g := (Y.1, Y.2.2)) (u0 := Z166) (V2 := z_lw c b a d o Y166) ⟨hx, hb, hml, hown, htw⟩ (kL_time l hlst D c N b a o H.size (Y.1, Y.2.2) (xs ((x4 + (1 : Int32))).toNatClampNeg) r166 Z166 h166) (vx_cwSW 3 htw gL_law_L_time rfl rfl rfl (by decide +kernel) ⟨Nat.le_of_ble_eq_true rfl, Nat.le_of_ble_eq_true rfl⟩) hP hK hD hS hA (hE.kept (fun q h1 h2 => hS.2.1 q h1 h2) (fun _ h => h)) (by rw [e166]; exact z_cutLH hD Z166) rfl hl.1 (Nat.le_of_ble_eq_true rfl) rfl dL_law_1263 ⟨(show _ ≤ 601024 by omega), (show _ ≤ 7293034 by omega)⟩ (fun H locs hP hD hS => ?_)
        refine lv_istore (lv' := [(5, .int r166), (0, .ref bS), (1, .ref (b 0)), (2, .ref (d 0)), (3, .ref o), (4, .int x4)]) hx hb dL_law_1266 hl (by decide) rfl (fun ls hl => ?_)
        refine lv_aload_n hx hb dL_law_1268 rfl (lv_at hl 3 rfl) ?_
        refine lv_aload_n hx hb dL_law_1269 rfl (lv_at hl 1 rfl) ?_
        refine lv_iload hx hb dL_law_1270 (lv_at hl 5 rfl) ?_
        refine lv_iconst (v := (1 : Int32)) hx hb dL_law_1272 (by decide) ?_
        refine lv_iadd hx hb dL_law_1273 ?_
        obtain ⟨b167, hf⟩ := z_ckE hf
        refine va_sld hx hb hX hbl hbA hS (z_inE b167) dL_law_1274 ?_
        obtain ⟨r168, u168, h168, hf⟩ := z_b2E hf
        obtain ⟨Y168, e168, hf⟩ := z_ltE hf
        refine z_xVi (As := [.int (xs ((x4 + (1 : Int32))).toNatClampNeg)]) (rest := []) (wf := z_md c d) (g := Y166.2.1) (u0 := u168) (V2 := z_lw c b a d o Y168) ⟨hx, hb, hml, hown, htw⟩ (kX5_time l D c N d H.size Y166.2.1 (xs ((x4 + (1 : Int32))).toNatClampNeg) r168 u168 h168) (cwV 1 htw gL_law_X5_time rfl rfl rfl (by decide +kernel) ⟨Nat.le_of_ble_eq_true rfl, Nat.le_of_ble_eq_true rfl⟩) hP hK hD hS hA (by rw [e168]; exact z_cutLM hD u168) (ci := 5) (q0 := 0) rfl rfl rfl rfl hl.1 (Nat.le_of_ble_eq_true rfl) rfl dL_law_1275 ⟨(show _ ≤ 601024 by omega), (show _ ≤ 7293034 by omega)⟩ (fun H locs hP hD hS => ?_)
        refine lv_istore (lv' := [(6, .int r168), (5, .int r166), (0, .ref bS), (1, .ref (b 0)), (2, .ref (d 0)), (3, .ref o), (4, .int x4)]) hx hb dL_law_1278 hl (by decide) rfl (fun ls hl => ?_)
        refine lv_aload_n hx hb dL_law_1280 rfl (lv_at hl 4 rfl) ?_
        obtain ⟨r169, h169, hf⟩ := z_bE hf
        refine z_xVi (As := []) (rest := []) (wf := z_md c d) (g := Y168.2.1) (u0 := Y168.2.1) (V2 := z_lw c b a d o Y168) ⟨hx, hb, hml, hown, htw⟩ (kX5_thrown l D c N d H.size Y168.2.1  r169 h169) (cwV 0 htw gL_law_X5_thrown rfl rfl rfl (by decide +kernel) ⟨Nat.le_of_ble_eq_true rfl, Nat.le_of_ble_eq_true rfl⟩) hP hK hD hS hA (z_cutLMp hD) (ci := 5) (q0 := 0) rfl rfl rfl rfl hl.1 (Nat.le_of_ble_eq_true rfl) rfl dL_law_1281 ⟨(show _ ≤ 601024 by omega), (show _ ≤ 7293034 by omega)⟩ (fun H locs hP hD hS => ?_)
        refine lv_iload hx hb dL_law_1284 (lv_at hl 1 rfl) ?_
        refine lv_icmp_eq (tgt := 1291) hx hb dL_law_1286 (by decide) (fun c170 => ?_) (fun c170 => ?_)
        · have hf := z_ifT hf c170
          refine lv_iload hx hb dL_law_1291 (lv_at hl 1 rfl) ?_
          refine lv_if_ne (tgt := 1308) hx hb dL_law_1293 (by decide) (fun c171 => ?_) (fun c171 => ?_)
          · have hf := z_ifF hf c171
            refine lv_goto (tgt := 1803) hx hb dL_law_1308 (by decide) ?_
            refine lv_iinc (v := (x4 + (6 : Int32))) (lv' := [(4, .int (x4 + (6 : Int32))), (6, .int r168), (5, .int r166), (0, .ref bS), (1, .ref (b 0)), (2, .ref (d 0)), (3, .ref o)]) hx hb dL_law_1803 hl (k := 6) rfl rfl (by decide) rfl (fun ls hl => ?_)
            refine lv_goto (tgt := 23) hx hb dL_law_1806 (by decide) ?_
            refine W.widen (k := CC + (j + 1)) (n := SS + 6 * (j + 1)) (by omega) (by omega) ?_
            exact ih (j + 1) _ _ (by omega) (by rw [hx4]; exact z_nI6 j) hf H locs ls hP hD hS (lv_sub hl [3, 4, 5, 6, 0] rfl)
          · have hf := z_ifT hf c171
            refine lv_aload_n hx hb dL_law_1296 rfl (lv_at hl 5 rfl) ?_
            refine lv_iconst (v := (0 : Int32)) hx hb dL_law_1297 (by decide) ?_
            refine va_lald hx hb hK.1 (z_subP hP z_inO) 0 3 rfl rfl (z_inE (by decide)) dL_law_1298 ?_
            refine lv_iload hx hb dL_law_1299 (lv_at hl 0 rfl) ?_
            refine lv_i2l (v := (r168).toInt64) hx hb dL_law_1301 rfl ?_
            refine W.lcmp hx hb dL_law_1302 ?_
            refine lv_if_eq (tgt := 1308) hx hb dL_law_1303 (by decide) (fun c172 => ?_) (fun c172 => ?_)
            · have hf := z_ifT hf c172
              refine lv_goto (tgt := 1803) hx hb dL_law_1308 (by decide) ?_
              refine lv_iinc (v := (x4 + (6 : Int32))) (lv' := [(4, .int (x4 + (6 : Int32))), (6, .int r168), (5, .int r166), (0, .ref bS), (1, .ref (b 0)), (2, .ref (d 0)), (3, .ref o)]) hx hb dL_law_1803 hl (k := 6) rfl rfl (by decide) rfl (fun ls hl => ?_)
              refine lv_goto (tgt := 23) hx hb dL_law_1806 (by decide) ?_
              refine W.widen (k := CC + (j + 1)) (n := SS + 6 * (j + 1)) (by omega) (by omega) ?_
              exact ih (j + 1) _ _ (by omega) (by rw [hx4]; exact z_nI6 j) hf H locs ls hP hD hS (lv_sub hl [3, 4, 5, 6, 0] rfl)
            · have hf := z_ifF hf c172
              refine lv_iconst (v := (0 : Int32)) hx hb dL_law_1306 (by decide) ?_
              exact absurd hf (by decide)
        · have hf := z_ifF hf c170
          refine lv_iconst (v := (0 : Int32)) hx hb dL_law_1289 (by decide) ?_
          exact absurd hf (by decide)
      have hf := z_ifF hf c3_20
      by_cases c3_21 : ((xs (x4).toNatClampNeg) &&& (31 : Int32)) = (21 : Int32)
      · have hf := z_ifT hf c3_21
        refine lv_tableIn (tgt := 1311) hx hb dL_law_40 (by rw [c3_21]; decide) (by rw [c3_21]; decide) (off := 1271) (by rw [c3_21]; rfl) (by decide) ?_
        refine lv_aload_n hx hb dL_law_1311 rfl (lv_at hl 1 rfl) ?_
        refine lv_aload_n hx hb dL_law_1312 rfl (lv_at hl 0 rfl) ?_
        refine lv_iload hx hb dL_law_1313 (lv_at hl 4 rfl) ?_
        refine lv_iconst (v := (1 : Int32)) hx hb dL_law_1315 (by decide) ?_
        refine lv_iadd hx hb dL_law_1316 ?_
        obtain ⟨b173, hf⟩ := z_ckE hf
        refine va_sld hx hb hX hbl hbA hS (z_inE b173) dL_law_1317 ?_
        refine lv_aload_n hx hb dL_law_1318 rfl (lv_at hl 0 rfl) ?_
        refine lv_iload hx hb dL_law_1319 (lv_at hl 4 rfl) ?_
        refine lv_iconst (v := (2 : Int32)) hx hb dL_law_1321 (by decide) ?_
        refine lv_iadd hx hb dL_law_1322 ?_
        obtain ⟨b174, hf⟩ := z_ckE hf
        refine va_sld hx hb hX hbl hbA hS (z_inE b174) dL_law_1323 ?_
        refine lv_aload_n hx hb dL_law_1324 rfl (lv_at hl 3 rfl) ?_
        obtain ⟨r175, Z175, h175, hf⟩ := z_b2E hf
        obtain ⟨Y175, e175, hf⟩ := z_ltE hf
        refine z_xH (As := [.ref (b 0), .int (xs ((x4 + (1 : Int32))).toNatClampNeg), .int (xs ((x4 + (2 : Int32))).toNatClampNeg), .ref o]) (rest := []) (wf := z_hw c b a o) (g := (Y.1, Y.2.2)) (u0 := Z175) (V2 := z_lw c b a d o Y175) ⟨hx, hb, hml, hown, htw⟩ (kL_bestPlace l hlst D c N b a o H.size (Y.1, Y.2.2) (xs ((x4 + (1 : Int32))).toNatClampNeg) (xs ((x4 + (2 : Int32))).toNatClampNeg) r175 Z175 h175) (vx_cwSW 4 htw gL_law_L_bestPlace rfl rfl rfl (by decide +kernel) ⟨Nat.le_of_ble_eq_true rfl, Nat.le_of_ble_eq_true rfl⟩) hP hK hD hS hA (hE.kept (fun q h1 h2 => hS.2.1 q h1 h2) (fun _ h => h)) (by rw [e175]; exact z_cutLH hD Z175) rfl hl.1 (Nat.le_of_ble_eq_true rfl) rfl dL_law_1325 ⟨(show _ ≤ 601024 by omega), (show _ ≤ 7293034 by omega)⟩ (fun H locs hP hD hS => ?_)
        refine lv_istore (lv' := [(5, .int r175), (0, .ref bS), (1, .ref (b 0)), (2, .ref (d 0)), (3, .ref o), (4, .int x4)]) hx hb dL_law_1328 hl (by decide) rfl (fun ls hl => ?_)
        refine lv_aload_n hx hb dL_law_1330 rfl (lv_at hl 3 rfl) ?_
        refine lv_aload_n hx hb dL_law_1331 rfl (lv_at hl 1 rfl) ?_
        refine lv_iload hx hb dL_law_1332 (lv_at hl 5 rfl) ?_
        refine lv_iconst (v := (1 : Int32)) hx hb dL_law_1334 (by decide) ?_
        refine lv_iadd hx hb dL_law_1335 ?_
        obtain ⟨b176, hf⟩ := z_ckE hf
        refine va_sld hx hb hX hbl hbA hS (z_inE b176) dL_law_1336 ?_
        refine lv_aload_n hx hb dL_law_1337 rfl (lv_at hl 1 rfl) ?_
        refine lv_iload hx hb dL_law_1338 (lv_at hl 5 rfl) ?_
        refine lv_iconst (v := (2 : Int32)) hx hb dL_law_1340 (by decide) ?_
        refine lv_iadd hx hb dL_law_1341 ?_
        obtain ⟨b177, hf⟩ := z_ckE hf
        refine va_sld hx hb hX hbl hbA hS (z_inE b177) dL_law_1342 ?_
        obtain ⟨r178, u178, h178, hf⟩ := z_b2E hf
        obtain ⟨Y178, e178, hf⟩ := z_ltE hf
        refine z_xVi (As := [.int (xs ((x4 + (1 : Int32))).toNatClampNeg), .int (xs ((x4 + (2 : Int32))).toNatClampNeg)]) (rest := []) (wf := z_md c d) (g := Y175.2.1) (u0 := u178) (V2 := z_lw c b a d o Y178) ⟨hx, hb, hml, hown, htw⟩ (kX5_bestPlace l D c N d H.size Y175.2.1 (xs ((x4 + (1 : Int32))).toNatClampNeg) (xs ((x4 + (2 : Int32))).toNatClampNeg) r178 u178 h178) (cwV 2 htw gL_law_X5_bestPlace rfl rfl rfl (by decide +kernel) ⟨Nat.le_of_ble_eq_true rfl, Nat.le_of_ble_eq_true rfl⟩) hP hK hD hS hA (by rw [e178]; exact z_cutLM hD u178) (ci := 5) (q0 := 0) rfl rfl rfl rfl hl.1 (Nat.le_of_ble_eq_true rfl) rfl dL_law_1343 ⟨(show _ ≤ 601024 by omega), (show _ ≤ 7293034 by omega)⟩ (fun H locs hP hD hS => ?_)
        refine lv_istore (lv' := [(6, .int r178), (5, .int r175), (0, .ref bS), (1, .ref (b 0)), (2, .ref (d 0)), (3, .ref o), (4, .int x4)]) hx hb dL_law_1346 hl (by decide) rfl (fun ls hl => ?_)
        refine lv_aload_n hx hb dL_law_1348 rfl (lv_at hl 4 rfl) ?_
        obtain ⟨r179, h179, hf⟩ := z_bE hf
        refine z_xVi (As := []) (rest := []) (wf := z_md c d) (g := Y178.2.1) (u0 := Y178.2.1) (V2 := z_lw c b a d o Y178) ⟨hx, hb, hml, hown, htw⟩ (kX5_thrown l D c N d H.size Y178.2.1  r179 h179) (cwV 0 htw gL_law_X5_thrown rfl rfl rfl (by decide +kernel) ⟨Nat.le_of_ble_eq_true rfl, Nat.le_of_ble_eq_true rfl⟩) hP hK hD hS hA (z_cutLMp hD) (ci := 5) (q0 := 0) rfl rfl rfl rfl hl.1 (Nat.le_of_ble_eq_true rfl) rfl dL_law_1349 ⟨(show _ ≤ 601024 by omega), (show _ ≤ 7293034 by omega)⟩ (fun H locs hP hD hS => ?_)
        refine lv_iload hx hb dL_law_1352 (lv_at hl 1 rfl) ?_
        refine lv_icmp_eq (tgt := 1359) hx hb dL_law_1354 (by decide) (fun c180 => ?_) (fun c180 => ?_)
        · have hf := z_ifT hf c180
          refine lv_iload hx hb dL_law_1359 (lv_at hl 1 rfl) ?_
          refine lv_if_ne (tgt := 1376) hx hb dL_law_1361 (by decide) (fun c181 => ?_) (fun c181 => ?_)
          · have hf := z_ifF hf c181
            refine lv_goto (tgt := 1803) hx hb dL_law_1376 (by decide) ?_
            refine lv_iinc (v := (x4 + (6 : Int32))) (lv' := [(4, .int (x4 + (6 : Int32))), (6, .int r178), (5, .int r175), (0, .ref bS), (1, .ref (b 0)), (2, .ref (d 0)), (3, .ref o)]) hx hb dL_law_1803 hl (k := 6) rfl rfl (by decide) rfl (fun ls hl => ?_)
            refine lv_goto (tgt := 23) hx hb dL_law_1806 (by decide) ?_
            refine W.widen (k := CC + (j + 1)) (n := SS + 6 * (j + 1)) (by omega) (by omega) ?_
            exact ih (j + 1) _ _ (by omega) (by rw [hx4]; exact z_nI6 j) hf H locs ls hP hD hS (lv_sub hl [3, 4, 5, 6, 0] rfl)
          · have hf := z_ifT hf c181
            refine lv_aload_n hx hb dL_law_1364 rfl (lv_at hl 5 rfl) ?_
            refine lv_iconst (v := (0 : Int32)) hx hb dL_law_1365 (by decide) ?_
            refine va_lald hx hb hK.1 (z_subP hP z_inO) 0 3 rfl rfl (z_inE (by decide)) dL_law_1366 ?_
            refine lv_iload hx hb dL_law_1367 (lv_at hl 0 rfl) ?_
            refine lv_i2l (v := (r178).toInt64) hx hb dL_law_1369 rfl ?_
            refine W.lcmp hx hb dL_law_1370 ?_
            refine lv_if_eq (tgt := 1376) hx hb dL_law_1371 (by decide) (fun c182 => ?_) (fun c182 => ?_)
            · have hf := z_ifT hf c182
              refine lv_goto (tgt := 1803) hx hb dL_law_1376 (by decide) ?_
              refine lv_iinc (v := (x4 + (6 : Int32))) (lv' := [(4, .int (x4 + (6 : Int32))), (6, .int r178), (5, .int r175), (0, .ref bS), (1, .ref (b 0)), (2, .ref (d 0)), (3, .ref o)]) hx hb dL_law_1803 hl (k := 6) rfl rfl (by decide) rfl (fun ls hl => ?_)
              refine lv_goto (tgt := 23) hx hb dL_law_1806 (by decide) ?_
              refine W.widen (k := CC + (j + 1)) (n := SS + 6 * (j + 1)) (by omega) (by omega) ?_
              exact ih (j + 1) _ _ (by omega) (by rw [hx4]; exact z_nI6 j) hf H locs ls hP hD hS (lv_sub hl [3, 4, 5, 6, 0] rfl)
            · have hf := z_ifF hf c182
              refine lv_iconst (v := (0 : Int32)) hx hb dL_law_1374 (by decide) ?_
              exact absurd hf (by decide)
        · have hf := z_ifF hf c180
          refine lv_iconst (v := (0 : Int32)) hx hb dL_law_1357 (by decide) ?_
          exact absurd hf (by decide)
      have hf := z_ifF hf c3_21
      by_cases c3_22 : ((xs (x4).toNatClampNeg) &&& (31 : Int32)) = (22 : Int32)
      · have hf := z_ifT hf c3_22
        refine lv_tableIn (tgt := 1379) hx hb dL_law_40 (by rw [c3_22]; decide) (by rw [c3_22]; decide) (off := 1339) (by rw [c3_22]; rfl) (by decide) ?_
        refine lv_aload_n hx hb dL_law_1379 rfl (lv_at hl 1 rfl) ?_
        refine lv_aload_n hx hb dL_law_1380 rfl (lv_at hl 0 rfl) ?_
        refine lv_iload hx hb dL_law_1381 (lv_at hl 4 rfl) ?_
        refine lv_iconst (v := (1 : Int32)) hx hb dL_law_1383 (by decide) ?_
        refine lv_iadd hx hb dL_law_1384 ?_
        obtain ⟨b183, hf⟩ := z_ckE hf
        refine va_sld hx hb hX hbl hbA hS (z_inE b183) dL_law_1385 ?_
        refine lv_aload_n hx hb dL_law_1386 rfl (lv_at hl 3 rfl) ?_
        obtain ⟨r184, Z184, h184, hf⟩ := z_b2E hf
        obtain ⟨Y184, e184, hf⟩ := z_ltE hf
        refine z_xH (As := [.ref (b 0), .int (xs ((x4 + (1 : Int32))).toNatClampNeg), .ref o]) (rest := []) (wf := z_hw c b a o) (g := (Y.1, Y.2.2)) (u0 := Z184) (V2 := z_lw c b a d o Y184) ⟨hx, hb, hml, hown, htw⟩ (kL_leastBribe l hlst D c N b a o H.size (Y.1, Y.2.2) (xs ((x4 + (1 : Int32))).toNatClampNeg) r184 Z184 h184) (vx_cwSW 3 htw gL_law_L_leastBribe rfl rfl rfl (by decide +kernel) ⟨Nat.le_of_ble_eq_true rfl, Nat.le_of_ble_eq_true rfl⟩) hP hK hD hS hA (hE.kept (fun q h1 h2 => hS.2.1 q h1 h2) (fun _ h => h)) (by rw [e184]; exact z_cutLH hD Z184) rfl hl.1 (Nat.le_of_ble_eq_true rfl) rfl dL_law_1387 ⟨(show _ ≤ 601024 by omega), (show _ ≤ 7293034 by omega)⟩ (fun H locs hP hD hS => ?_)
        refine lv_istore (lv' := [(5, .int r184), (0, .ref bS), (1, .ref (b 0)), (2, .ref (d 0)), (3, .ref o), (4, .int x4)]) hx hb dL_law_1390 hl (by decide) rfl (fun ls hl => ?_)
        refine lv_aload_n hx hb dL_law_1392 rfl (lv_at hl 3 rfl) ?_
        refine lv_aload_n hx hb dL_law_1393 rfl (lv_at hl 1 rfl) ?_
        refine lv_iload hx hb dL_law_1394 (lv_at hl 5 rfl) ?_
        refine lv_iconst (v := (1 : Int32)) hx hb dL_law_1396 (by decide) ?_
        refine lv_iadd hx hb dL_law_1397 ?_
        obtain ⟨b185, hf⟩ := z_ckE hf
        refine va_sld hx hb hX hbl hbA hS (z_inE b185) dL_law_1398 ?_
        obtain ⟨r186, u186, h186, hf⟩ := z_b2E hf
        obtain ⟨Y186, e186, hf⟩ := z_ltE hf
        refine z_xVi (As := [.int (xs ((x4 + (1 : Int32))).toNatClampNeg)]) (rest := []) (wf := z_md c d) (g := Y184.2.1) (u0 := u186) (V2 := z_lw c b a d o Y186) ⟨hx, hb, hml, hown, htw⟩ (kX5_leastBribe l D c N d H.size Y184.2.1 (xs ((x4 + (1 : Int32))).toNatClampNeg) r186 u186 h186) (cwV 1 htw gL_law_X5_leastBribe rfl rfl rfl (by decide +kernel) ⟨Nat.le_of_ble_eq_true rfl, Nat.le_of_ble_eq_true rfl⟩) hP hK hD hS hA (by rw [e186]; exact z_cutLM hD u186) (ci := 5) (q0 := 0) rfl rfl rfl rfl hl.1 (Nat.le_of_ble_eq_true rfl) rfl dL_law_1399 ⟨(show _ ≤ 601024 by omega), (show _ ≤ 7293034 by omega)⟩ (fun H locs hP hD hS => ?_)
        refine lv_istore (lv' := [(6, .int r186), (5, .int r184), (0, .ref bS), (1, .ref (b 0)), (2, .ref (d 0)), (3, .ref o), (4, .int x4)]) hx hb dL_law_1402 hl (by decide) rfl (fun ls hl => ?_)
        refine lv_aload_n hx hb dL_law_1404 rfl (lv_at hl 4 rfl) ?_
        obtain ⟨r187, h187, hf⟩ := z_bE hf
        refine z_xVi (As := []) (rest := []) (wf := z_md c d) (g := Y186.2.1) (u0 := Y186.2.1) (V2 := z_lw c b a d o Y186) ⟨hx, hb, hml, hown, htw⟩ (kX5_thrown l D c N d H.size Y186.2.1  r187 h187) (cwV 0 htw gL_law_X5_thrown rfl rfl rfl (by decide +kernel) ⟨Nat.le_of_ble_eq_true rfl, Nat.le_of_ble_eq_true rfl⟩) hP hK hD hS hA (z_cutLMp hD) (ci := 5) (q0 := 0) rfl rfl rfl rfl hl.1 (Nat.le_of_ble_eq_true rfl) rfl dL_law_1405 ⟨(show _ ≤ 601024 by omega), (show _ ≤ 7293034 by omega)⟩ (fun H locs hP hD hS => ?_)
        refine lv_iload hx hb dL_law_1408 (lv_at hl 1 rfl) ?_
        refine lv_icmp_eq (tgt := 1415) hx hb dL_law_1410 (by decide) (fun c188 => ?_) (fun c188 => ?_)
        · have hf := z_ifT hf c188
          refine lv_iload hx hb dL_law_1415 (lv_at hl 1 rfl) ?_
          refine lv_if_ne (tgt := 1432) hx hb dL_law_1417 (by decide) (fun c189 => ?_) (fun c189 => ?_)
          · have hf := z_ifF hf c189
            refine lv_goto (tgt := 1803) hx hb dL_law_1432 (by decide) ?_
            refine lv_iinc (v := (x4 + (6 : Int32))) (lv' := [(4, .int (x4 + (6 : Int32))), (6, .int r186), (5, .int r184), (0, .ref bS), (1, .ref (b 0)), (2, .ref (d 0)), (3, .ref o)]) hx hb dL_law_1803 hl (k := 6) rfl rfl (by decide) rfl (fun ls hl => ?_)
            refine lv_goto (tgt := 23) hx hb dL_law_1806 (by decide) ?_
            refine W.widen (k := CC + (j + 1)) (n := SS + 6 * (j + 1)) (by omega) (by omega) ?_
            exact ih (j + 1) _ _ (by omega) (by rw [hx4]; exact z_nI6 j) hf H locs ls hP hD hS (lv_sub hl [3, 4, 5, 6, 0] rfl)
          · have hf := z_ifT hf c189
            refine lv_aload_n hx hb dL_law_1420 rfl (lv_at hl 5 rfl) ?_
            refine lv_iconst (v := (0 : Int32)) hx hb dL_law_1421 (by decide) ?_
            refine va_lald hx hb hK.1 (z_subP hP z_inO) 0 3 rfl rfl (z_inE (by decide)) dL_law_1422 ?_
            refine lv_iload hx hb dL_law_1423 (lv_at hl 0 rfl) ?_
            refine lv_i2l (v := (r186).toInt64) hx hb dL_law_1425 rfl ?_
            refine W.lcmp hx hb dL_law_1426 ?_
            refine lv_if_eq (tgt := 1432) hx hb dL_law_1427 (by decide) (fun c190 => ?_) (fun c190 => ?_)
            · have hf := z_ifT hf c190
              refine lv_goto (tgt := 1803) hx hb dL_law_1432 (by decide) ?_
              refine lv_iinc (v := (x4 + (6 : Int32))) (lv' := [(4, .int (x4 + (6 : Int32))), (6, .int r186), (5, .int r184), (0, .ref bS), (1, .ref (b 0)), (2, .ref (d 0)), (3, .ref o)]) hx hb dL_law_1803 hl (k := 6) rfl rfl (by decide) rfl (fun ls hl => ?_)
              refine lv_goto (tgt := 23) hx hb dL_law_1806 (by decide) ?_
              refine W.widen (k := CC + (j + 1)) (n := SS + 6 * (j + 1)) (by omega) (by omega) ?_
              exact ih (j + 1) _ _ (by omega) (by rw [hx4]; exact z_nI6 j) hf H locs ls hP hD hS (lv_sub hl [3, 4, 5, 6, 0] rfl)
            · have hf := z_ifF hf c190
              refine lv_iconst (v := (0 : Int32)) hx hb dL_law_1430 (by decide) ?_
              exact absurd hf (by decide)
        · have hf := z_ifF hf c188
          refine lv_iconst (v := (0 : Int32)) hx hb dL_law_1413 (by decide) ?_
          exact absurd hf (by decide)
      have hf := z_ifF hf c3_22
      by_cases c3_23 : ((xs (x4).toNatClampNeg) &&& (31 : Int32)) = (23 : Int32)
      · have hf := z_ifT hf c3_23
        refine lv_tableIn (tgt := 1435) hx hb dL_law_40 (by rw [c3_23]; decide) (by rw [c3_23]; decide) (off := 1395) (by rw [c3_23]; rfl) (by decide) ?_
        refine lv_aload_n hx hb dL_law_1435 rfl (lv_at hl 1 rfl) ?_
        refine lv_aload_n hx hb dL_law_1436 rfl (lv_at hl 0 rfl) ?_
        refine lv_iload hx hb dL_law_1437 (lv_at hl 4 rfl) ?_
        refine lv_iconst (v := (1 : Int32)) hx hb dL_law_1439 (by decide) ?_
        refine lv_iadd hx hb dL_law_1440 ?_
        obtain ⟨b191, hf⟩ := z_ckE hf
        refine va_sld hx hb hX hbl hbA hS (z_inE b191) dL_law_1441 ?_
        refine lv_aload_n hx hb dL_law_1442 rfl (lv_at hl 3 rfl) ?_
        obtain ⟨r192, Z192, h192, hf⟩ := z_b2E hf
        obtain ⟨Y192, e192, hf⟩ := z_ltE hf
        refine z_xH (As := [.ref (b 0), .int (xs ((x4 + (1 : Int32))).toNatClampNeg), .ref o]) (rest := []) (wf := z_hw c b a o) (g := (Y.1, Y.2.2)) (u0 := Z192) (V2 := z_lw c b a d o Y192) ⟨hx, hb, hml, hown, htw⟩ (kL_saves l hlst D c N b a o H.size (Y.1, Y.2.2) (xs ((x4 + (1 : Int32))).toNatClampNeg) r192 Z192 h192) (vx_cwSW 3 htw gL_law_L_saves rfl rfl rfl (by decide +kernel) ⟨Nat.le_of_ble_eq_true rfl, Nat.le_of_ble_eq_true rfl⟩) hP hK hD hS hA (hE.kept (fun q h1 h2 => hS.2.1 q h1 h2) (fun _ h => h)) (by rw [e192]; exact z_cutLH hD Z192) rfl hl.1 (Nat.le_of_ble_eq_true rfl) rfl dL_law_1443 ⟨(show _ ≤ 601024 by omega), (show _ ≤ 7293034 by omega)⟩ (fun H locs hP hD hS => ?_)
        refine lv_istore (lv' := [(5, .int r192), (0, .ref bS), (1, .ref (b 0)), (2, .ref (d 0)), (3, .ref o), (4, .int x4)]) hx hb dL_law_1446 hl (by decide) rfl (fun ls hl => ?_)
        refine lv_aload_n hx hb dL_law_1448 rfl (lv_at hl 3 rfl) ?_
        refine lv_aload_n hx hb dL_law_1449 rfl (lv_at hl 1 rfl) ?_
        refine lv_iload hx hb dL_law_1450 (lv_at hl 5 rfl) ?_
        refine lv_iconst (v := (1 : Int32)) hx hb dL_law_1452 (by decide) ?_
        refine lv_iadd hx hb dL_law_1453 ?_
        obtain ⟨b193, hf⟩ := z_ckE hf
        refine va_sld hx hb hX hbl hbA hS (z_inE b193) dL_law_1454 ?_
        obtain ⟨r194, u194, h194, hf⟩ := z_b2E hf
        obtain ⟨Y194, e194, hf⟩ := z_ltE hf
        refine z_xVi (As := [.int (xs ((x4 + (1 : Int32))).toNatClampNeg)]) (rest := []) (wf := z_md c d) (g := Y192.2.1) (u0 := u194) (V2 := z_lw c b a d o Y194) ⟨hx, hb, hml, hown, htw⟩ (kX5_saves l D c N d H.size Y192.2.1 (xs ((x4 + (1 : Int32))).toNatClampNeg) r194 u194 h194) (cwV 1 htw gL_law_X5_saves rfl rfl rfl (by decide +kernel) ⟨Nat.le_of_ble_eq_true rfl, Nat.le_of_ble_eq_true rfl⟩) hP hK hD hS hA (by rw [e194]; exact z_cutLM hD u194) (ci := 5) (q0 := 0) rfl rfl rfl rfl hl.1 (Nat.le_of_ble_eq_true rfl) rfl dL_law_1455 ⟨(show _ ≤ 601024 by omega), (show _ ≤ 7293034 by omega)⟩ (fun H locs hP hD hS => ?_)
        refine lv_istore (lv' := [(6, .int r194), (5, .int r192), (0, .ref bS), (1, .ref (b 0)), (2, .ref (d 0)), (3, .ref o), (4, .int x4)]) hx hb dL_law_1458 hl (by decide) rfl (fun ls hl => ?_)
        refine lv_aload_n hx hb dL_law_1460 rfl (lv_at hl 4 rfl) ?_
        obtain ⟨r195, h195, hf⟩ := z_bE hf
        refine z_xVi (As := []) (rest := []) (wf := z_md c d) (g := Y194.2.1) (u0 := Y194.2.1) (V2 := z_lw c b a d o Y194) ⟨hx, hb, hml, hown, htw⟩ (kX5_thrown l D c N d H.size Y194.2.1  r195 h195) (cwV 0 htw gL_law_X5_thrown rfl rfl rfl (by decide +kernel) ⟨Nat.le_of_ble_eq_true rfl, Nat.le_of_ble_eq_true rfl⟩) hP hK hD hS hA (z_cutLMp hD) (ci := 5) (q0 := 0) rfl rfl rfl rfl hl.1 (Nat.le_of_ble_eq_true rfl) rfl dL_law_1461 ⟨(show _ ≤ 601024 by omega), (show _ ≤ 7293034 by omega)⟩ (fun H locs hP hD hS => ?_)
        refine lv_iload hx hb dL_law_1464 (lv_at hl 1 rfl) ?_
        refine lv_icmp_eq (tgt := 1471) hx hb dL_law_1466 (by decide) (fun c196 => ?_) (fun c196 => ?_)
        · have hf := z_ifT hf c196
          refine lv_iload hx hb dL_law_1471 (lv_at hl 1 rfl) ?_
          refine lv_if_ne (tgt := 1488) hx hb dL_law_1473 (by decide) (fun c197 => ?_) (fun c197 => ?_)
          · have hf := z_ifF hf c197
            refine lv_goto (tgt := 1803) hx hb dL_law_1488 (by decide) ?_
            refine lv_iinc (v := (x4 + (6 : Int32))) (lv' := [(4, .int (x4 + (6 : Int32))), (6, .int r194), (5, .int r192), (0, .ref bS), (1, .ref (b 0)), (2, .ref (d 0)), (3, .ref o)]) hx hb dL_law_1803 hl (k := 6) rfl rfl (by decide) rfl (fun ls hl => ?_)
            refine lv_goto (tgt := 23) hx hb dL_law_1806 (by decide) ?_
            refine W.widen (k := CC + (j + 1)) (n := SS + 6 * (j + 1)) (by omega) (by omega) ?_
            exact ih (j + 1) _ _ (by omega) (by rw [hx4]; exact z_nI6 j) hf H locs ls hP hD hS (lv_sub hl [3, 4, 5, 6, 0] rfl)
          · have hf := z_ifT hf c197
            refine lv_aload_n hx hb dL_law_1476 rfl (lv_at hl 5 rfl) ?_
            refine lv_iconst (v := (0 : Int32)) hx hb dL_law_1477 (by decide) ?_
            refine va_lald hx hb hK.1 (z_subP hP z_inO) 0 3 rfl rfl (z_inE (by decide)) dL_law_1478 ?_
            refine lv_iload hx hb dL_law_1479 (lv_at hl 0 rfl) ?_
            refine lv_i2l (v := (r194).toInt64) hx hb dL_law_1481 rfl ?_
            refine W.lcmp hx hb dL_law_1482 ?_
            refine lv_if_eq (tgt := 1488) hx hb dL_law_1483 (by decide) (fun c198 => ?_) (fun c198 => ?_)
            · have hf := z_ifT hf c198
              refine lv_goto (tgt := 1803) hx hb dL_law_1488 (by decide) ?_
              refine lv_iinc (v := (x4 + (6 : Int32))) (lv' := [(4, .int (x4 + (6 : Int32))), (6, .int r194), (5, .int r192), (0, .ref bS), (1, .ref (b 0)), (2, .ref (d 0)), (3, .ref o)]) hx hb dL_law_1803 hl (k := 6) rfl rfl (by decide) rfl (fun ls hl => ?_)
              refine lv_goto (tgt := 23) hx hb dL_law_1806 (by decide) ?_
              refine W.widen (k := CC + (j + 1)) (n := SS + 6 * (j + 1)) (by omega) (by omega) ?_
              exact ih (j + 1) _ _ (by omega) (by rw [hx4]; exact z_nI6 j) hf H locs ls hP hD hS (lv_sub hl [3, 4, 5, 6, 0] rfl)
            · have hf := z_ifF hf c198
              refine lv_iconst (v := (0 : Int32)) hx hb dL_law_1486 (by decide) ?_
              exact absurd hf (by decide)
        · have hf := z_ifF hf c196
          refine lv_iconst (v := (0 : Int32)) hx hb dL_law_1469 (by decide) ?_
          exact absurd hf (by decide)
      have hf := z_ifF hf c3_23
      by_cases c3_24 : ((xs (x4).toNatClampNeg) &&& (31 : Int32)) = (24 : Int32)
      · have hf := z_ifT hf c3_24
        refine lv_tableIn (tgt := 1491) hx hb dL_law_40 (by rw [c3_24]; decide) (by rw [c3_24]; decide) (off := 1451) (by rw [c3_24]; rfl) (by decide) ?_
        refine lv_aload_n hx hb dL_law_1491 rfl (lv_at hl 1 rfl) ?_
        refine lv_aload_n hx hb dL_law_1492 rfl (lv_at hl 0 rfl) ?_
        refine lv_iload hx hb dL_law_1493 (lv_at hl 4 rfl) ?_
        refine lv_iconst (v := (1 : Int32)) hx hb dL_law_1495 (by decide) ?_
        refine lv_iadd hx hb dL_law_1496 ?_
        obtain ⟨b199, hf⟩ := z_ckE hf
        refine va_sld hx hb hX hbl hbA hS (z_inE b199) dL_law_1497 ?_
        refine lv_aload_n hx hb dL_law_1498 rfl (lv_at hl 0 rfl) ?_
        refine lv_iload hx hb dL_law_1499 (lv_at hl 4 rfl) ?_
        refine lv_iconst (v := (2 : Int32)) hx hb dL_law_1501 (by decide) ?_
        refine lv_iadd hx hb dL_law_1502 ?_
        obtain ⟨b200, hf⟩ := z_ckE hf
        refine va_sld hx hb hX hbl hbA hS (z_inE b200) dL_law_1503 ?_
        refine lv_i2l (v := ((xs ((x4 + (2 : Int32))).toNatClampNeg)).toInt64) hx hb dL_law_1504 rfl ?_
        refine lv_bipush (v := (32 : Int32)) hx hb dL_law_1505 (by decide) ?_
        refine lv_lshl (v := (((xs ((x4 + (2 : Int32))).toNatClampNeg)).toInt64 <<< ((32 : Int32).toInt64 &&& 63))) hx hb dL_law_1507 rfl ?_
        refine lv_aload_n hx hb dL_law_1508 rfl (lv_at hl 0 rfl) ?_
        refine lv_iload hx hb dL_law_1509 (lv_at hl 4 rfl) ?_
        refine lv_iconst (v := (3 : Int32)) hx hb dL_law_1511 (by decide) ?_
        refine lv_iadd hx hb dL_law_1512 ?_
        obtain ⟨b201, hf⟩ := z_ckE hf
        refine va_sld hx hb hX hbl hbA hS (z_inE b201) dL_law_1513 ?_
        refine lv_i2l (v := ((xs ((x4 + (3 : Int32))).toNatClampNeg)).toInt64) hx hb dL_law_1514 rfl ?_
        refine lv_ldc2 (v := (4294967295 : Int64)) hx hb hown (hts _ qL_law_186) dL_law_1515 ?_
        refine lv_land hx hb dL_law_1518 ?_
        refine lv_lor hx hb dL_law_1519 ?_
        refine lv_aload_n hx hb dL_law_1520 rfl (lv_at hl 3 rfl) ?_
        obtain ⟨r202, Z202, h202, hf⟩ := z_b2E hf
        obtain ⟨Y202, e202, hf⟩ := z_ltE hf
        refine z_xH (As := [.ref (b 0), .int (xs ((x4 + (1 : Int32))).toNatClampNeg), .long ((((xs ((x4 + (2 : Int32))).toNatClampNeg)).toInt64 <<< ((32 : Int32).toInt64 &&& 63)) ||| (((xs ((x4 + (3 : Int32))).toNatClampNeg)).toInt64 &&& (4294967295 : Int64))), .ref o]) (rest := []) (wf := z_hw c b a o) (g := (Y.1, Y.2.2)) (u0 := Z202) (V2 := z_lw c b a d o Y202) ⟨hx, hb, hml, hown, htw⟩ (kL_runScript l hlst D c N b a o H.size (Y.1, Y.2.2) (xs ((x4 + (1 : Int32))).toNatClampNeg) ((((xs ((x4 + (2 : Int32))).toNatClampNeg)).toInt64 <<< ((32 : Int32).toInt64 &&& 63)) ||| (((xs ((x4 + (3 : Int32))).toNatClampNeg)).toInt64 &&& (4294967295 : Int64))) r202 Z202 h202) (vx_cwSW 4 htw gL_law_L_runScript rfl rfl rfl (by decide +kernel) ⟨Nat.le_of_ble_eq_true rfl, Nat.le_of_ble_eq_true rfl⟩) hP hK hD hS hA (hE.kept (fun q h1 h2 => hS.2.1 q h1 h2) (fun _ h => h)) (by rw [e202]; exact z_cutLH hD Z202) rfl hl.1 (Nat.le_of_ble_eq_true rfl) rfl dL_law_1521 ⟨(show _ ≤ 601024 by omega), (show _ ≤ 7293034 by omega)⟩ (fun H locs hP hD hS => ?_)
        refine lv_istore (lv' := [(5, .int r202), (0, .ref bS), (1, .ref (b 0)), (2, .ref (d 0)), (3, .ref o), (4, .int x4)]) hx hb dL_law_1524 hl (by decide) rfl (fun ls hl => ?_)
        refine lv_aload_n hx hb dL_law_1526 rfl (lv_at hl 3 rfl) ?_
        refine lv_aload_n hx hb dL_law_1527 rfl (lv_at hl 1 rfl) ?_
        refine lv_iload hx hb dL_law_1528 (lv_at hl 5 rfl) ?_
        refine lv_iconst (v := (1 : Int32)) hx hb dL_law_1530 (by decide) ?_
        refine lv_iadd hx hb dL_law_1531 ?_
        obtain ⟨b203, hf⟩ := z_ckE hf
        refine va_sld hx hb hX hbl hbA hS (z_inE b203) dL_law_1532 ?_
        refine lv_aload_n hx hb dL_law_1533 rfl (lv_at hl 1 rfl) ?_
        refine lv_iload hx hb dL_law_1534 (lv_at hl 5 rfl) ?_
        refine lv_iconst (v := (2 : Int32)) hx hb dL_law_1536 (by decide) ?_
        refine lv_iadd hx hb dL_law_1537 ?_
        obtain ⟨b204, hf⟩ := z_ckE hf
        refine va_sld hx hb hX hbl hbA hS (z_inE b204) dL_law_1538 ?_
        refine lv_i2l (v := ((xs ((x4 + (2 : Int32))).toNatClampNeg)).toInt64) hx hb dL_law_1539 rfl ?_
        refine lv_bipush (v := (32 : Int32)) hx hb dL_law_1540 (by decide) ?_
        refine lv_lshl (v := (((xs ((x4 + (2 : Int32))).toNatClampNeg)).toInt64 <<< ((32 : Int32).toInt64 &&& 63))) hx hb dL_law_1542 rfl ?_
        refine lv_aload_n hx hb dL_law_1543 rfl (lv_at hl 1 rfl) ?_
        refine lv_iload hx hb dL_law_1544 (lv_at hl 5 rfl) ?_
        refine lv_iconst (v := (3 : Int32)) hx hb dL_law_1546 (by decide) ?_
        refine lv_iadd hx hb dL_law_1547 ?_
        obtain ⟨b205, hf⟩ := z_ckE hf
        refine va_sld hx hb hX hbl hbA hS (z_inE b205) dL_law_1548 ?_
        refine lv_i2l (v := ((xs ((x4 + (3 : Int32))).toNatClampNeg)).toInt64) hx hb dL_law_1549 rfl ?_
        refine lv_ldc2 (v := (4294967295 : Int64)) hx hb hown (hts _ qL_law_186) dL_law_1550 ?_
        refine lv_land hx hb dL_law_1553 ?_
        refine lv_lor hx hb dL_law_1554 ?_
        obtain ⟨r206, u206, h206, hf⟩ := z_b2E hf
        obtain ⟨Y206, e206, hf⟩ := z_ltE hf
        refine z_xVi (As := [.int (xs ((x4 + (1 : Int32))).toNatClampNeg), .long ((((xs ((x4 + (2 : Int32))).toNatClampNeg)).toInt64 <<< ((32 : Int32).toInt64 &&& 63)) ||| (((xs ((x4 + (3 : Int32))).toNatClampNeg)).toInt64 &&& (4294967295 : Int64)))]) (rest := []) (wf := z_md c d) (g := Y202.2.1) (u0 := u206) (V2 := z_lw c b a d o Y206) ⟨hx, hb, hml, hown, htw⟩ (kX5_runScript l D c N d H.size Y202.2.1 (xs ((x4 + (1 : Int32))).toNatClampNeg) ((((xs ((x4 + (2 : Int32))).toNatClampNeg)).toInt64 <<< ((32 : Int32).toInt64 &&& 63)) ||| (((xs ((x4 + (3 : Int32))).toNatClampNeg)).toInt64 &&& (4294967295 : Int64))) r206 u206 h206) (cwV 2 htw gL_law_X5_runScript rfl rfl rfl (by decide +kernel) ⟨Nat.le_of_ble_eq_true rfl, Nat.le_of_ble_eq_true rfl⟩) hP hK hD hS hA (by rw [e206]; exact z_cutLM hD u206) (ci := 5) (q0 := 0) rfl rfl rfl rfl hl.1 (Nat.le_of_ble_eq_true rfl) rfl dL_law_1555 ⟨(show _ ≤ 601024 by omega), (show _ ≤ 7293034 by omega)⟩ (fun H locs hP hD hS => ?_)
        refine lv_istore (lv' := [(6, .int r206), (5, .int r202), (0, .ref bS), (1, .ref (b 0)), (2, .ref (d 0)), (3, .ref o), (4, .int x4)]) hx hb dL_law_1558 hl (by decide) rfl (fun ls hl => ?_)
        refine lv_aload_n hx hb dL_law_1560 rfl (lv_at hl 4 rfl) ?_
        obtain ⟨r207, h207, hf⟩ := z_bE hf
        refine z_xVi (As := []) (rest := []) (wf := z_md c d) (g := Y206.2.1) (u0 := Y206.2.1) (V2 := z_lw c b a d o Y206) ⟨hx, hb, hml, hown, htw⟩ (kX5_thrown l D c N d H.size Y206.2.1  r207 h207) (cwV 0 htw gL_law_X5_thrown rfl rfl rfl (by decide +kernel) ⟨Nat.le_of_ble_eq_true rfl, Nat.le_of_ble_eq_true rfl⟩) hP hK hD hS hA (z_cutLMp hD) (ci := 5) (q0 := 0) rfl rfl rfl rfl hl.1 (Nat.le_of_ble_eq_true rfl) rfl dL_law_1561 ⟨(show _ ≤ 601024 by omega), (show _ ≤ 7293034 by omega)⟩ (fun H locs hP hD hS => ?_)
        refine lv_iload hx hb dL_law_1564 (lv_at hl 1 rfl) ?_
        refine lv_icmp_eq (tgt := 1571) hx hb dL_law_1566 (by decide) (fun c208 => ?_) (fun c208 => ?_)
        · have hf := z_ifT hf c208
          refine lv_iload hx hb dL_law_1571 (lv_at hl 1 rfl) ?_
          refine lv_if_ne (tgt := 1588) hx hb dL_law_1573 (by decide) (fun c209 => ?_) (fun c209 => ?_)
          · have hf := z_ifF hf c209
            refine lv_goto (tgt := 1803) hx hb dL_law_1588 (by decide) ?_
            refine lv_iinc (v := (x4 + (6 : Int32))) (lv' := [(4, .int (x4 + (6 : Int32))), (6, .int r206), (5, .int r202), (0, .ref bS), (1, .ref (b 0)), (2, .ref (d 0)), (3, .ref o)]) hx hb dL_law_1803 hl (k := 6) rfl rfl (by decide) rfl (fun ls hl => ?_)
            refine lv_goto (tgt := 23) hx hb dL_law_1806 (by decide) ?_
            refine W.widen (k := CC + (j + 1)) (n := SS + 6 * (j + 1)) (by omega) (by omega) ?_
            exact ih (j + 1) _ _ (by omega) (by rw [hx4]; exact z_nI6 j) hf H locs ls hP hD hS (lv_sub hl [3, 4, 5, 6, 0] rfl)
          · have hf := z_ifT hf c209
            refine lv_aload_n hx hb dL_law_1576 rfl (lv_at hl 5 rfl) ?_
            refine lv_iconst (v := (0 : Int32)) hx hb dL_law_1577 (by decide) ?_
            refine va_lald hx hb hK.1 (z_subP hP z_inO) 0 3 rfl rfl (z_inE (by decide)) dL_law_1578 ?_
            refine lv_iload hx hb dL_law_1579 (lv_at hl 0 rfl) ?_
            refine lv_i2l (v := (r206).toInt64) hx hb dL_law_1581 rfl ?_
            refine W.lcmp hx hb dL_law_1582 ?_
            refine lv_if_eq (tgt := 1588) hx hb dL_law_1583 (by decide) (fun c210 => ?_) (fun c210 => ?_)
            · have hf := z_ifT hf c210
              refine lv_goto (tgt := 1803) hx hb dL_law_1588 (by decide) ?_
              refine lv_iinc (v := (x4 + (6 : Int32))) (lv' := [(4, .int (x4 + (6 : Int32))), (6, .int r206), (5, .int r202), (0, .ref bS), (1, .ref (b 0)), (2, .ref (d 0)), (3, .ref o)]) hx hb dL_law_1803 hl (k := 6) rfl rfl (by decide) rfl (fun ls hl => ?_)
              refine lv_goto (tgt := 23) hx hb dL_law_1806 (by decide) ?_
              refine W.widen (k := CC + (j + 1)) (n := SS + 6 * (j + 1)) (by omega) (by omega) ?_
              exact ih (j + 1) _ _ (by omega) (by rw [hx4]; exact z_nI6 j) hf H locs ls hP hD hS (lv_sub hl [3, 4, 5, 6, 0] rfl)
            · have hf := z_ifF hf c210
              refine lv_iconst (v := (0 : Int32)) hx hb dL_law_1586 (by decide) ?_
              exact absurd hf (by decide)
        · have hf := z_ifF hf c208
          refine lv_iconst (v := (0 : Int32)) hx hb dL_law_1569 (by decide) ?_
          exact absurd hf (by decide)
      have hf := z_ifF hf c3_24
      by_cases c3_25 : ((xs (x4).toNatClampNeg) &&& (31 : Int32)) = (25 : Int32)
      · have hf := z_ifT hf c3_25
        refine lv_tableIn (tgt := 1591) hx hb dL_law_40 (by rw [c3_25]; decide) (by rw [c3_25]; decide) (off := 1551) (by rw [c3_25]; rfl) (by decide) ?_
        refine lv_aload_n hx hb dL_law_1591 rfl (lv_at hl 1 rfl) ?_
        refine lv_aload_n hx hb dL_law_1592 rfl (lv_at hl 0 rfl) ?_
        refine lv_iload hx hb dL_law_1593 (lv_at hl 4 rfl) ?_
        refine lv_iconst (v := (1 : Int32)) hx hb dL_law_1595 (by decide) ?_
        refine lv_iadd hx hb dL_law_1596 ?_
        obtain ⟨b211, hf⟩ := z_ckE hf
        refine va_sld hx hb hX hbl hbA hS (z_inE b211) dL_law_1597 ?_
        refine lv_i2l (v := ((xs ((x4 + (1 : Int32))).toNatClampNeg)).toInt64) hx hb dL_law_1598 rfl ?_
        refine lv_bipush (v := (32 : Int32)) hx hb dL_law_1599 (by decide) ?_
        refine lv_lshl (v := (((xs ((x4 + (1 : Int32))).toNatClampNeg)).toInt64 <<< ((32 : Int32).toInt64 &&& 63))) hx hb dL_law_1601 rfl ?_
        refine lv_aload_n hx hb dL_law_1602 rfl (lv_at hl 0 rfl) ?_
        refine lv_iload hx hb dL_law_1603 (lv_at hl 4 rfl) ?_
        refine lv_iconst (v := (2 : Int32)) hx hb dL_law_1605 (by decide) ?_
        refine lv_iadd hx hb dL_law_1606 ?_
        obtain ⟨b212, hf⟩ := z_ckE hf
        refine va_sld hx hb hX hbl hbA hS (z_inE b212) dL_law_1607 ?_
        refine lv_i2l (v := ((xs ((x4 + (2 : Int32))).toNatClampNeg)).toInt64) hx hb dL_law_1608 rfl ?_
        refine lv_ldc2 (v := (4294967295 : Int64)) hx hb hown (hts _ qL_law_186) dL_law_1609 ?_
        refine lv_land hx hb dL_law_1612 ?_
        refine lv_lor hx hb dL_law_1613 ?_
        refine lv_aload_n hx hb dL_law_1614 rfl (lv_at hl 0 rfl) ?_
        refine lv_iload hx hb dL_law_1615 (lv_at hl 4 rfl) ?_
        refine lv_iconst (v := (3 : Int32)) hx hb dL_law_1617 (by decide) ?_
        refine lv_iadd hx hb dL_law_1618 ?_
        obtain ⟨b213, hf⟩ := z_ckE hf
        refine va_sld hx hb hX hbl hbA hS (z_inE b213) dL_law_1619 ?_
        refine lv_aload_n hx hb dL_law_1620 rfl (lv_at hl 3 rfl) ?_
        obtain ⟨r214, Z214, h214, hf⟩ := z_b2E hf
        obtain ⟨Y214, e214, hf⟩ := z_ltE hf
        refine z_xH (As := [.ref (b 0), .long ((((xs ((x4 + (1 : Int32))).toNatClampNeg)).toInt64 <<< ((32 : Int32).toInt64 &&& 63)) ||| (((xs ((x4 + (2 : Int32))).toNatClampNeg)).toInt64 &&& (4294967295 : Int64))), .int (xs ((x4 + (3 : Int32))).toNatClampNeg), .ref o]) (rest := []) (wf := z_hw c b a o) (g := (Y.1, Y.2.2)) (u0 := Z214) (V2 := z_lw c b a d o Y214) ⟨hx, hb, hml, hown, htw⟩ (kL_simulate l hlst D c N b a o H.size (Y.1, Y.2.2) ((((xs ((x4 + (1 : Int32))).toNatClampNeg)).toInt64 <<< ((32 : Int32).toInt64 &&& 63)) ||| (((xs ((x4 + (2 : Int32))).toNatClampNeg)).toInt64 &&& (4294967295 : Int64))) (xs ((x4 + (3 : Int32))).toNatClampNeg) r214 Z214 h214) (vx_cwSW 4 htw gL_law_L_simulate rfl rfl rfl (by decide +kernel) ⟨Nat.le_of_ble_eq_true rfl, Nat.le_of_ble_eq_true rfl⟩) hP hK hD hS hA (hE.kept (fun q h1 h2 => hS.2.1 q h1 h2) (fun _ h => h)) (by rw [e214]; exact z_cutLH hD Z214) rfl hl.1 (Nat.le_of_ble_eq_true rfl) rfl dL_law_1621 ⟨(show _ ≤ 601024 by omega), (show _ ≤ 7293034 by omega)⟩ (fun H locs hP hD hS => ?_)
        refine lv_istore (lv' := [(5, .int r214), (0, .ref bS), (1, .ref (b 0)), (2, .ref (d 0)), (3, .ref o), (4, .int x4)]) hx hb dL_law_1624 hl (by decide) rfl (fun ls hl => ?_)
        refine lv_aload_n hx hb dL_law_1626 rfl (lv_at hl 3 rfl) ?_
        refine lv_aload_n hx hb dL_law_1627 rfl (lv_at hl 1 rfl) ?_
        refine lv_iload hx hb dL_law_1628 (lv_at hl 5 rfl) ?_
        refine lv_iconst (v := (1 : Int32)) hx hb dL_law_1630 (by decide) ?_
        refine lv_iadd hx hb dL_law_1631 ?_
        obtain ⟨b215, hf⟩ := z_ckE hf
        refine va_sld hx hb hX hbl hbA hS (z_inE b215) dL_law_1632 ?_
        refine lv_i2l (v := ((xs ((x4 + (1 : Int32))).toNatClampNeg)).toInt64) hx hb dL_law_1633 rfl ?_
        refine lv_bipush (v := (32 : Int32)) hx hb dL_law_1634 (by decide) ?_
        refine lv_lshl (v := (((xs ((x4 + (1 : Int32))).toNatClampNeg)).toInt64 <<< ((32 : Int32).toInt64 &&& 63))) hx hb dL_law_1636 rfl ?_
        refine lv_aload_n hx hb dL_law_1637 rfl (lv_at hl 1 rfl) ?_
        refine lv_iload hx hb dL_law_1638 (lv_at hl 5 rfl) ?_
        refine lv_iconst (v := (2 : Int32)) hx hb dL_law_1640 (by decide) ?_
        refine lv_iadd hx hb dL_law_1641 ?_
        obtain ⟨b216, hf⟩ := z_ckE hf
        refine va_sld hx hb hX hbl hbA hS (z_inE b216) dL_law_1642 ?_
        refine lv_i2l (v := ((xs ((x4 + (2 : Int32))).toNatClampNeg)).toInt64) hx hb dL_law_1643 rfl ?_
        refine lv_ldc2 (v := (4294967295 : Int64)) hx hb hown (hts _ qL_law_186) dL_law_1644 ?_
        refine lv_land hx hb dL_law_1647 ?_
        refine lv_lor hx hb dL_law_1648 ?_
        refine lv_aload_n hx hb dL_law_1649 rfl (lv_at hl 1 rfl) ?_
        refine lv_iload hx hb dL_law_1650 (lv_at hl 5 rfl) ?_
        refine lv_iconst (v := (3 : Int32)) hx hb dL_law_1652 (by decide) ?_
        refine lv_iadd hx hb dL_law_1653 ?_
        obtain ⟨b217, hf⟩ := z_ckE hf
        refine va_sld hx hb hX hbl hbA hS (z_inE b217) dL_law_1654 ?_
        obtain ⟨r218, u218, h218, hf⟩ := z_b2E hf
        obtain ⟨Y218, e218, hf⟩ := z_ltE hf
        refine z_xVi (As := [.long ((((xs ((x4 + (1 : Int32))).toNatClampNeg)).toInt64 <<< ((32 : Int32).toInt64 &&& 63)) ||| (((xs ((x4 + (2 : Int32))).toNatClampNeg)).toInt64 &&& (4294967295 : Int64))), .int (xs ((x4 + (3 : Int32))).toNatClampNeg)]) (rest := []) (wf := z_md c d) (g := Y214.2.1) (u0 := u218) (V2 := z_lw c b a d o Y218) ⟨hx, hb, hml, hown, htw⟩ (kX5_simulate l D c N d H.size Y214.2.1 ((((xs ((x4 + (1 : Int32))).toNatClampNeg)).toInt64 <<< ((32 : Int32).toInt64 &&& 63)) ||| (((xs ((x4 + (2 : Int32))).toNatClampNeg)).toInt64 &&& (4294967295 : Int64))) (xs ((x4 + (3 : Int32))).toNatClampNeg) r218 u218 h218) (cwV 2 htw gL_law_X5_simulate rfl rfl rfl (by decide +kernel) ⟨Nat.le_of_ble_eq_true rfl, Nat.le_of_ble_eq_true rfl⟩) hP hK hD hS hA (by rw [e218]; exact z_cutLM hD u218) (ci := 5) (q0 := 0) rfl rfl rfl rfl hl.1 (Nat.le_of_ble_eq_true rfl) rfl dL_law_1655 ⟨(show _ ≤ 601024 by omega), (show _ ≤ 7293034 by omega)⟩ (fun H locs hP hD hS => ?_)
        refine lv_istore (lv' := [(6, .int r218), (5, .int r214), (0, .ref bS), (1, .ref (b 0)), (2, .ref (d 0)), (3, .ref o), (4, .int x4)]) hx hb dL_law_1658 hl (by decide) rfl (fun ls hl => ?_)
        refine lv_aload_n hx hb dL_law_1660 rfl (lv_at hl 4 rfl) ?_
        obtain ⟨r219, h219, hf⟩ := z_bE hf
        refine z_xVi (As := []) (rest := []) (wf := z_md c d) (g := Y218.2.1) (u0 := Y218.2.1) (V2 := z_lw c b a d o Y218) ⟨hx, hb, hml, hown, htw⟩ (kX5_thrown l D c N d H.size Y218.2.1  r219 h219) (cwV 0 htw gL_law_X5_thrown rfl rfl rfl (by decide +kernel) ⟨Nat.le_of_ble_eq_true rfl, Nat.le_of_ble_eq_true rfl⟩) hP hK hD hS hA (z_cutLMp hD) (ci := 5) (q0 := 0) rfl rfl rfl rfl hl.1 (Nat.le_of_ble_eq_true rfl) rfl dL_law_1661 ⟨(show _ ≤ 601024 by omega), (show _ ≤ 7293034 by omega)⟩ (fun H locs hP hD hS => ?_)
        refine lv_iload hx hb dL_law_1664 (lv_at hl 1 rfl) ?_
        refine lv_icmp_eq (tgt := 1671) hx hb dL_law_1666 (by decide) (fun c220 => ?_) (fun c220 => ?_)
        · have hf := z_ifT hf c220
          refine lv_iload hx hb dL_law_1671 (lv_at hl 1 rfl) ?_
          refine lv_if_ne (tgt := 1688) hx hb dL_law_1673 (by decide) (fun c221 => ?_) (fun c221 => ?_)
          · have hf := z_ifF hf c221
            refine lv_goto (tgt := 1803) hx hb dL_law_1688 (by decide) ?_
            refine lv_iinc (v := (x4 + (6 : Int32))) (lv' := [(4, .int (x4 + (6 : Int32))), (6, .int r218), (5, .int r214), (0, .ref bS), (1, .ref (b 0)), (2, .ref (d 0)), (3, .ref o)]) hx hb dL_law_1803 hl (k := 6) rfl rfl (by decide) rfl (fun ls hl => ?_)
            refine lv_goto (tgt := 23) hx hb dL_law_1806 (by decide) ?_
            refine W.widen (k := CC + (j + 1)) (n := SS + 6 * (j + 1)) (by omega) (by omega) ?_
            exact ih (j + 1) _ _ (by omega) (by rw [hx4]; exact z_nI6 j) hf H locs ls hP hD hS (lv_sub hl [3, 4, 5, 6, 0] rfl)
          · have hf := z_ifT hf c221
            refine lv_aload_n hx hb dL_law_1676 rfl (lv_at hl 5 rfl) ?_
            refine lv_iconst (v := (0 : Int32)) hx hb dL_law_1677 (by decide) ?_
            refine va_lald hx hb hK.1 (z_subP hP z_inO) 0 3 rfl rfl (z_inE (by decide)) dL_law_1678 ?_
            refine lv_iload hx hb dL_law_1679 (lv_at hl 0 rfl) ?_
            refine lv_i2l (v := (r218).toInt64) hx hb dL_law_1681 rfl ?_
            refine W.lcmp hx hb dL_law_1682 ?_
            refine lv_if_eq (tgt := 1688) hx hb dL_law_1683 (by decide) (fun c222 => ?_) (fun c222 => ?_)
            · have hf := z_ifT hf c222
              refine lv_goto (tgt := 1803) hx hb dL_law_1688 (by decide) ?_
              refine lv_iinc (v := (x4 + (6 : Int32))) (lv' := [(4, .int (x4 + (6 : Int32))), (6, .int r218), (5, .int r214), (0, .ref bS), (1, .ref (b 0)), (2, .ref (d 0)), (3, .ref o)]) hx hb dL_law_1803 hl (k := 6) rfl rfl (by decide) rfl (fun ls hl => ?_)
              refine lv_goto (tgt := 23) hx hb dL_law_1806 (by decide) ?_
              refine W.widen (k := CC + (j + 1)) (n := SS + 6 * (j + 1)) (by omega) (by omega) ?_
              exact ih (j + 1) _ _ (by omega) (by rw [hx4]; exact z_nI6 j) hf H locs ls hP hD hS (lv_sub hl [3, 4, 5, 6, 0] rfl)
            · have hf := z_ifF hf c222
              refine lv_iconst (v := (0 : Int32)) hx hb dL_law_1686 (by decide) ?_
              exact absurd hf (by decide)
        · have hf := z_ifF hf c220
          refine lv_iconst (v := (0 : Int32)) hx hb dL_law_1669 (by decide) ?_
          exact absurd hf (by decide)
      have hf := z_ifF hf c3_25
      by_cases c3_26 : ((xs (x4).toNatClampNeg) &&& (31 : Int32)) = (26 : Int32)
      · have hf := z_ifT hf c3_26
        refine lv_tableIn (tgt := 1691) hx hb dL_law_40 (by rw [c3_26]; decide) (by rw [c3_26]; decide) (off := 1651) (by rw [c3_26]; rfl) (by decide) ?_
        refine lv_aload_n hx hb dL_law_1691 rfl (lv_at hl 1 rfl) ?_
        refine lv_aload_n hx hb dL_law_1692 rfl (lv_at hl 0 rfl) ?_
        refine lv_iload hx hb dL_law_1693 (lv_at hl 4 rfl) ?_
        refine lv_iconst (v := (1 : Int32)) hx hb dL_law_1695 (by decide) ?_
        refine lv_iadd hx hb dL_law_1696 ?_
        obtain ⟨b223, hf⟩ := z_ckE hf
        refine va_sld hx hb hX hbl hbA hS (z_inE b223) dL_law_1697 ?_
        refine lv_aload_n hx hb dL_law_1698 rfl (lv_at hl 3 rfl) ?_
        obtain ⟨r224, Z224, h224, hf⟩ := z_b2E hf
        obtain ⟨Y224, e224, hf⟩ := z_ltE hf
        refine z_xH (As := [.ref (b 0), .int (xs ((x4 + (1 : Int32))).toNatClampNeg), .ref o]) (rest := []) (wf := z_hw c b a o) (g := (Y.1, Y.2.2)) (u0 := Z224) (V2 := z_lw c b a d o Y224) ⟨hx, hb, hml, hown, htw⟩ (kL_save l hlst D c N b a o H.size (Y.1, Y.2.2) (xs ((x4 + (1 : Int32))).toNatClampNeg) r224 Z224 h224) (vx_cwSW 3 htw gL_law_L_save rfl rfl rfl (by decide +kernel) ⟨Nat.le_of_ble_eq_true rfl, Nat.le_of_ble_eq_true rfl⟩) hP hK hD hS hA (hE.kept (fun q h1 h2 => hS.2.1 q h1 h2) (fun _ h => h)) (by rw [e224]; exact z_cutLH hD Z224) rfl hl.1 (Nat.le_of_ble_eq_true rfl) rfl dL_law_1699 ⟨(show _ ≤ 601024 by omega), (show _ ≤ 7293034 by omega)⟩ (fun H locs hP hD hS => ?_)
        refine lv_istore (lv' := [(5, .int r224), (0, .ref bS), (1, .ref (b 0)), (2, .ref (d 0)), (3, .ref o), (4, .int x4)]) hx hb dL_law_1702 hl (by decide) rfl (fun ls hl => ?_)
        refine lv_aload_n hx hb dL_law_1704 rfl (lv_at hl 3 rfl) ?_
        refine lv_aload_n hx hb dL_law_1705 rfl (lv_at hl 1 rfl) ?_
        refine lv_iload hx hb dL_law_1706 (lv_at hl 5 rfl) ?_
        refine lv_iconst (v := (1 : Int32)) hx hb dL_law_1708 (by decide) ?_
        refine lv_iadd hx hb dL_law_1709 ?_
        obtain ⟨b225, hf⟩ := z_ckE hf
        refine va_sld hx hb hX hbl hbA hS (z_inE b225) dL_law_1710 ?_
        obtain ⟨r226, u226, h226, hf⟩ := z_b2E hf
        obtain ⟨Y226, e226, hf⟩ := z_ltE hf
        refine z_xVi (As := [.int (xs ((x4 + (1 : Int32))).toNatClampNeg)]) (rest := []) (wf := z_md c d) (g := Y224.2.1) (u0 := u226) (V2 := z_lw c b a d o Y226) ⟨hx, hb, hml, hown, htw⟩ (kX5_save l D c N d H.size Y224.2.1 (xs ((x4 + (1 : Int32))).toNatClampNeg) r226 u226 h226) (cwV 1 htw gL_law_X5_save rfl rfl rfl (by decide +kernel) ⟨Nat.le_of_ble_eq_true rfl, Nat.le_of_ble_eq_true rfl⟩) hP hK hD hS hA (by rw [e226]; exact z_cutLM hD u226) (ci := 5) (q0 := 0) rfl rfl rfl rfl hl.1 (Nat.le_of_ble_eq_true rfl) rfl dL_law_1711 ⟨(show _ ≤ 601024 by omega), (show _ ≤ 7293034 by omega)⟩ (fun H locs hP hD hS => ?_)
        refine lv_istore (lv' := [(6, .int r226), (5, .int r224), (0, .ref bS), (1, .ref (b 0)), (2, .ref (d 0)), (3, .ref o), (4, .int x4)]) hx hb dL_law_1714 hl (by decide) rfl (fun ls hl => ?_)
        refine lv_aload_n hx hb dL_law_1716 rfl (lv_at hl 4 rfl) ?_
        obtain ⟨r227, h227, hf⟩ := z_bE hf
        refine z_xVi (As := []) (rest := []) (wf := z_md c d) (g := Y226.2.1) (u0 := Y226.2.1) (V2 := z_lw c b a d o Y226) ⟨hx, hb, hml, hown, htw⟩ (kX5_thrown l D c N d H.size Y226.2.1  r227 h227) (cwV 0 htw gL_law_X5_thrown rfl rfl rfl (by decide +kernel) ⟨Nat.le_of_ble_eq_true rfl, Nat.le_of_ble_eq_true rfl⟩) hP hK hD hS hA (z_cutLMp hD) (ci := 5) (q0 := 0) rfl rfl rfl rfl hl.1 (Nat.le_of_ble_eq_true rfl) rfl dL_law_1717 ⟨(show _ ≤ 601024 by omega), (show _ ≤ 7293034 by omega)⟩ (fun H locs hP hD hS => ?_)
        refine lv_iload hx hb dL_law_1720 (lv_at hl 1 rfl) ?_
        refine lv_icmp_eq (tgt := 1727) hx hb dL_law_1722 (by decide) (fun c228 => ?_) (fun c228 => ?_)
        · have hf := z_ifT hf c228
          refine lv_iload hx hb dL_law_1727 (lv_at hl 1 rfl) ?_
          refine lv_if_ne (tgt := 1744) hx hb dL_law_1729 (by decide) (fun c229 => ?_) (fun c229 => ?_)
          · have hf := z_ifF hf c229
            refine lv_goto (tgt := 1803) hx hb dL_law_1744 (by decide) ?_
            refine lv_iinc (v := (x4 + (6 : Int32))) (lv' := [(4, .int (x4 + (6 : Int32))), (6, .int r226), (5, .int r224), (0, .ref bS), (1, .ref (b 0)), (2, .ref (d 0)), (3, .ref o)]) hx hb dL_law_1803 hl (k := 6) rfl rfl (by decide) rfl (fun ls hl => ?_)
            refine lv_goto (tgt := 23) hx hb dL_law_1806 (by decide) ?_
            refine W.widen (k := CC + (j + 1)) (n := SS + 6 * (j + 1)) (by omega) (by omega) ?_
            exact ih (j + 1) _ _ (by omega) (by rw [hx4]; exact z_nI6 j) hf H locs ls hP hD hS (lv_sub hl [3, 4, 5, 6, 0] rfl)
          · have hf := z_ifT hf c229
            refine lv_aload_n hx hb dL_law_1732 rfl (lv_at hl 5 rfl) ?_
            refine lv_iconst (v := (0 : Int32)) hx hb dL_law_1733 (by decide) ?_
            refine va_lald hx hb hK.1 (z_subP hP z_inO) 0 3 rfl rfl (z_inE (by decide)) dL_law_1734 ?_
            refine lv_iload hx hb dL_law_1735 (lv_at hl 0 rfl) ?_
            refine lv_i2l (v := (r226).toInt64) hx hb dL_law_1737 rfl ?_
            refine W.lcmp hx hb dL_law_1738 ?_
            refine lv_if_eq (tgt := 1744) hx hb dL_law_1739 (by decide) (fun c230 => ?_) (fun c230 => ?_)
            · have hf := z_ifT hf c230
              refine lv_goto (tgt := 1803) hx hb dL_law_1744 (by decide) ?_
              refine lv_iinc (v := (x4 + (6 : Int32))) (lv' := [(4, .int (x4 + (6 : Int32))), (6, .int r226), (5, .int r224), (0, .ref bS), (1, .ref (b 0)), (2, .ref (d 0)), (3, .ref o)]) hx hb dL_law_1803 hl (k := 6) rfl rfl (by decide) rfl (fun ls hl => ?_)
              refine lv_goto (tgt := 23) hx hb dL_law_1806 (by decide) ?_
              refine W.widen (k := CC + (j + 1)) (n := SS + 6 * (j + 1)) (by omega) (by omega) ?_
              exact ih (j + 1) _ _ (by omega) (by rw [hx4]; exact z_nI6 j) hf H locs ls hP hD hS (lv_sub hl [3, 4, 5, 6, 0] rfl)
            · have hf := z_ifF hf c230
              refine lv_iconst (v := (0 : Int32)) hx hb dL_law_1742 (by decide) ?_
              exact absurd hf (by decide)
        · have hf := z_ifF hf c228
          refine lv_iconst (v := (0 : Int32)) hx hb dL_law_1725 (by decide) ?_
          exact absurd hf (by decide)
      have hf := z_ifF hf c3_26
      by_cases c3_27 : ((xs (x4).toNatClampNeg) &&& (31 : Int32)) = (27 : Int32)
      · have hf := z_ifT hf c3_27
        refine lv_tableIn (tgt := 1747) hx hb dL_law_40 (by rw [c3_27]; decide) (by rw [c3_27]; decide) (off := 1707) (by rw [c3_27]; rfl) (by decide) ?_
        refine lv_aload_n hx hb dL_law_1747 rfl (lv_at hl 1 rfl) ?_
        refine lv_aload_n hx hb dL_law_1748 rfl (lv_at hl 0 rfl) ?_
        refine lv_iload hx hb dL_law_1749 (lv_at hl 4 rfl) ?_
        refine lv_iconst (v := (1 : Int32)) hx hb dL_law_1751 (by decide) ?_
        refine lv_iadd hx hb dL_law_1752 ?_
        obtain ⟨b231, hf⟩ := z_ckE hf
        refine va_sld hx hb hX hbl hbA hS (z_inE b231) dL_law_1753 ?_
        refine lv_aload_n hx hb dL_law_1754 rfl (lv_at hl 3 rfl) ?_
        obtain ⟨r232, Z232, h232, hf⟩ := z_b2E hf
        obtain ⟨Y232, e232, hf⟩ := z_ltE hf
        refine z_xH (As := [.ref (b 0), .int (xs ((x4 + (1 : Int32))).toNatClampNeg), .ref o]) (rest := []) (wf := z_hw c b a o) (g := (Y.1, Y.2.2)) (u0 := Z232) (V2 := z_lw c b a d o Y232) ⟨hx, hb, hml, hown, htw⟩ (kL_restore l hlst D c N b a o H.size (Y.1, Y.2.2) (xs ((x4 + (1 : Int32))).toNatClampNeg) r232 Z232 h232) (vx_cwSW 3 htw gL_law_L_restore rfl rfl rfl (by decide +kernel) ⟨Nat.le_of_ble_eq_true rfl, Nat.le_of_ble_eq_true rfl⟩) hP hK hD hS hA (hE.kept (fun q h1 h2 => hS.2.1 q h1 h2) (fun _ h => h)) (by rw [e232]; exact z_cutLH hD Z232) rfl hl.1 (Nat.le_of_ble_eq_true rfl) rfl dL_law_1755 ⟨(show _ ≤ 601024 by omega), (show _ ≤ 7293034 by omega)⟩ (fun H locs hP hD hS => ?_)
        refine lv_istore (lv' := [(5, .int r232), (0, .ref bS), (1, .ref (b 0)), (2, .ref (d 0)), (3, .ref o), (4, .int x4)]) hx hb dL_law_1758 hl (by decide) rfl (fun ls hl => ?_)
        refine lv_aload_n hx hb dL_law_1760 rfl (lv_at hl 3 rfl) ?_
        refine lv_aload_n hx hb dL_law_1761 rfl (lv_at hl 1 rfl) ?_
        refine lv_iload hx hb dL_law_1762 (lv_at hl 5 rfl) ?_
        refine lv_iconst (v := (1 : Int32)) hx hb dL_law_1764 (by decide) ?_
        refine lv_iadd hx hb dL_law_1765 ?_
        obtain ⟨b233, hf⟩ := z_ckE hf
        refine va_sld hx hb hX hbl hbA hS (z_inE b233) dL_law_1766 ?_
        obtain ⟨r234, u234, h234, hf⟩ := z_b2E hf
        obtain ⟨Y234, e234, hf⟩ := z_ltE hf
        refine z_xVi (As := [.int (xs ((x4 + (1 : Int32))).toNatClampNeg)]) (rest := []) (wf := z_md c d) (g := Y232.2.1) (u0 := u234) (V2 := z_lw c b a d o Y234) ⟨hx, hb, hml, hown, htw⟩ (kX5_restore l D c N d H.size Y232.2.1 (xs ((x4 + (1 : Int32))).toNatClampNeg) r234 u234 h234) (cwV 1 htw gL_law_X5_restore rfl rfl rfl (by decide +kernel) ⟨Nat.le_of_ble_eq_true rfl, Nat.le_of_ble_eq_true rfl⟩) hP hK hD hS hA (by rw [e234]; exact z_cutLM hD u234) (ci := 5) (q0 := 0) rfl rfl rfl rfl hl.1 (Nat.le_of_ble_eq_true rfl) rfl dL_law_1767 ⟨(show _ ≤ 601024 by omega), (show _ ≤ 7293034 by omega)⟩ (fun H locs hP hD hS => ?_)
        refine lv_istore (lv' := [(6, .int r234), (5, .int r232), (0, .ref bS), (1, .ref (b 0)), (2, .ref (d 0)), (3, .ref o), (4, .int x4)]) hx hb dL_law_1770 hl (by decide) rfl (fun ls hl => ?_)
        refine lv_aload_n hx hb dL_law_1772 rfl (lv_at hl 4 rfl) ?_
        obtain ⟨r235, h235, hf⟩ := z_bE hf
        refine z_xVi (As := []) (rest := []) (wf := z_md c d) (g := Y234.2.1) (u0 := Y234.2.1) (V2 := z_lw c b a d o Y234) ⟨hx, hb, hml, hown, htw⟩ (kX5_thrown l D c N d H.size Y234.2.1  r235 h235) (cwV 0 htw gL_law_X5_thrown rfl rfl rfl (by decide +kernel) ⟨Nat.le_of_ble_eq_true rfl, Nat.le_of_ble_eq_true rfl⟩) hP hK hD hS hA (z_cutLMp hD) (ci := 5) (q0 := 0) rfl rfl rfl rfl hl.1 (Nat.le_of_ble_eq_true rfl) rfl dL_law_1773 ⟨(show _ ≤ 601024 by omega), (show _ ≤ 7293034 by omega)⟩ (fun H locs hP hD hS => ?_)
        refine lv_iload hx hb dL_law_1776 (lv_at hl 1 rfl) ?_
        refine lv_icmp_eq (tgt := 1783) hx hb dL_law_1778 (by decide) (fun c236 => ?_) (fun c236 => ?_)
        · have hf := z_ifT hf c236
          refine lv_iload hx hb dL_law_1783 (lv_at hl 1 rfl) ?_
          refine lv_if_ne (tgt := 1800) hx hb dL_law_1785 (by decide) (fun c237 => ?_) (fun c237 => ?_)
          · have hf := z_ifF hf c237
            refine lv_goto (tgt := 1803) hx hb dL_law_1800 (by decide) ?_
            refine lv_iinc (v := (x4 + (6 : Int32))) (lv' := [(4, .int (x4 + (6 : Int32))), (6, .int r234), (5, .int r232), (0, .ref bS), (1, .ref (b 0)), (2, .ref (d 0)), (3, .ref o)]) hx hb dL_law_1803 hl (k := 6) rfl rfl (by decide) rfl (fun ls hl => ?_)
            refine lv_goto (tgt := 23) hx hb dL_law_1806 (by decide) ?_
            refine W.widen (k := CC + (j + 1)) (n := SS + 6 * (j + 1)) (by omega) (by omega) ?_
            exact ih (j + 1) _ _ (by omega) (by rw [hx4]; exact z_nI6 j) hf H locs ls hP hD hS (lv_sub hl [3, 4, 5, 6, 0] rfl)
          · have hf := z_ifT hf c237
            refine lv_aload_n hx hb dL_law_1788 rfl (lv_at hl 5 rfl) ?_
            refine lv_iconst (v := (0 : Int32)) hx hb dL_law_1789 (by decide) ?_
            refine va_lald hx hb hK.1 (z_subP hP z_inO) 0 3 rfl rfl (z_inE (by decide)) dL_law_1790 ?_
            refine lv_iload hx hb dL_law_1791 (lv_at hl 0 rfl) ?_
            refine lv_i2l (v := (r234).toInt64) hx hb dL_law_1793 rfl ?_
            refine W.lcmp hx hb dL_law_1794 ?_
            refine lv_if_eq (tgt := 1800) hx hb dL_law_1795 (by decide) (fun c238 => ?_) (fun c238 => ?_)
            · have hf := z_ifT hf c238
              refine lv_goto (tgt := 1803) hx hb dL_law_1800 (by decide) ?_
              refine lv_iinc (v := (x4 + (6 : Int32))) (lv' := [(4, .int (x4 + (6 : Int32))), (6, .int r234), (5, .int r232), (0, .ref bS), (1, .ref (b 0)), (2, .ref (d 0)), (3, .ref o)]) hx hb dL_law_1803 hl (k := 6) rfl rfl (by decide) rfl (fun ls hl => ?_)
              refine lv_goto (tgt := 23) hx hb dL_law_1806 (by decide) ?_
              refine W.widen (k := CC + (j + 1)) (n := SS + 6 * (j + 1)) (by omega) (by omega) ?_
              exact ih (j + 1) _ _ (by omega) (by rw [hx4]; exact z_nI6 j) hf H locs ls hP hD hS (lv_sub hl [3, 4, 5, 6, 0] rfl)
            · have hf := z_ifF hf c238
              refine lv_iconst (v := (0 : Int32)) hx hb dL_law_1798 (by decide) ?_
              exact absurd hf (by decide)
        · have hf := z_ifF hf c236
          refine lv_iconst (v := (0 : Int32)) hx hb dL_law_1781 (by decide) ?_
          exact absurd hf (by decide)
      have hf := z_ifF hf c3_27
      refine lv_tableOut (tgt := 1803) hx hb dL_law_40 (z_sw0_27 c3_0 c3_1 c3_2 c3_3 c3_4 c3_5 c3_6 c3_7 c3_8 c3_9 c3_10 c3_11 c3_12 c3_13 c3_14 c3_15 c3_16 c3_17 c3_18 c3_19 c3_20 c3_21 c3_22 c3_23 c3_24 c3_25 c3_26 c3_27) (by decide) ?_
      refine lv_iinc (v := (x4 + (6 : Int32))) (lv' := [(4, .int (x4 + (6 : Int32))), (0, .ref bS), (1, .ref (b 0)), (2, .ref (d 0)), (3, .ref o)]) hx hb dL_law_1803 hl (k := 4) rfl rfl (by decide) rfl (fun ls hl => ?_)
      refine lv_goto (tgt := 23) hx hb dL_law_1806 (by decide) ?_
      refine W.widen (k := CC + (j + 1)) (n := SS + 6 * (j + 1)) (by omega) (by omega) ?_
      exact ih (j + 1) _ _ (by omega) (by rw [hx4]; exact z_nI6 j) hf H locs ls hP hD hS (lv_sub hl [1, 2, 3, 4, 0] rfl)
