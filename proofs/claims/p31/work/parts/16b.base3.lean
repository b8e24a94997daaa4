/-! the law's worlds: the drum, the reference, the row of one long; calls on a part of them -/
def z_ow (c : Nat → ClassId) (o : Nat) (f : Nat → Int64) : va_W := [(o, .inl (c 3, 1, .inr (.inl f)))]
abbrev z_H : Type := z_X × (Nat → Int64)
def z_hw (c : Nat → ClassId) (b : Nat → Nat) (a : Nat → Nat → Nat) (o : Nat) (Y : z_H) : va_W := z_dw c b a Y.1 ++ z_ow c o Y.2
abbrev z_Y : Type := z_X × z_R × (Nat → Int64)
def z_lw (c : Nat → ClassId) (b : Nat → Nat) (a : Nat → Nat → Nat) (d : Nat → Nat) (o : Nat) (Y : z_Y) : va_W := z_dw c b a Y.1 ++ (z_md c d Y.2.1 ++ z_ow c o Y.2.2)
theorem z_cut1 {A : Nat → Prop} {B1 R C1 : va_W} (hD : va_D A (B1 ++ R)) (e1 : C1.map Prod.fst = B1.map Prod.fst) : z_Cut (B1 ++ R) B1 C1 (C1 ++ R) := by
  have h := z_nd hD
  rw [List.map_append, List.nodup_append] at h
  obtain ⟨n1, n2, n12⟩ := h
  refine ⟨fun q hq => List.mem_append_left _ hq, n1, by rw [List.map_append, List.map_append, e1], fun q hq => ?_⟩
  rcases List.mem_append.mp hq with h | h
  · exact Or.inl h
  · exact Or.inr ⟨List.mem_append_right _ h, fun hx => n12 q.1 hx q.1 (List.mem_map.mpr ⟨q, h, rfl⟩) rfl⟩
theorem z_cut2 {A : Nat → Prop} {B1 B2 B3 C2 : va_W} (hD : va_D A (B1 ++ (B2 ++ B3))) (e2 : C2.map Prod.fst = B2.map Prod.fst) : z_Cut (B1 ++ (B2 ++ B3)) B2 C2 (B1 ++ (C2 ++ B3)) := by
  have h := z_nd hD
  rw [List.map_append, List.map_append, List.nodup_append, List.nodup_append] at h
  obtain ⟨n1, ⟨n2, n3, n23⟩, n1r⟩ := h
  refine ⟨fun q hq => List.mem_append_right _ (List.mem_append_left _ hq), n2, by rw [List.map_append, List.map_append, List.map_append, List.map_append, e2], fun q hq => ?_⟩
  rcases List.mem_append.mp hq with h | h
  · exact Or.inr ⟨List.mem_append_left _ h, fun hx => n1r q.1 (List.mem_map.mpr ⟨q, h, rfl⟩) q.1 (List.mem_append_left _ hx) rfl⟩
  · rcases List.mem_append.mp h with h | h
    · exact Or.inl h
    · exact Or.inr ⟨List.mem_append_right _ (List.mem_append_right _ h), fun hx => n23 q.1 hx q.1 (List.mem_map.mpr ⟨q, h, rfl⟩) rfl⟩
theorem z_cut13 {A : Nat → Prop} {B1 B2 B3 C1 C3 : va_W} (hD : va_D A (B1 ++ (B2 ++ B3))) (e1 : C1.map Prod.fst = B1.map Prod.fst) (e3 : C3.map Prod.fst = B3.map Prod.fst) : z_Cut (B1 ++ (B2 ++ B3)) (B1 ++ B3) (C1 ++ C3) (C1 ++ (B2 ++ C3)) := by
  have h := z_nd hD
  rw [List.map_append, List.map_append, List.nodup_append, List.nodup_append] at h
  obtain ⟨n1, ⟨n2, n3, n23⟩, n1r⟩ := h
  refine ⟨fun q hq => ?_, ?_, by rw [List.map_append, List.map_append, List.map_append, List.map_append, e1, e3], fun q hq => ?_⟩
  · rcases List.mem_append.mp hq with h | h
    · exact List.mem_append_left _ h
    · exact List.mem_append_right _ (List.mem_append_right _ h)
  · rw [List.map_append, List.nodup_append]
    exact ⟨n1, n3, fun x hx y hy => n1r x hx y (List.mem_append_right _ hy)⟩
  · rcases List.mem_append.mp hq with h | h
    · exact Or.inl (List.mem_append_left _ h)
    · rcases List.mem_append.mp h with h | h
      · refine Or.inr ⟨List.mem_append_right _ (List.mem_append_left _ h), fun hx => ?_⟩
        rw [List.map_append] at hx
        have hq1 : q.1 ∈ B2.map Prod.fst := List.mem_map.mpr ⟨q, h, rfl⟩
        rcases List.mem_append.mp hx with hx | hx
        · exact n1r q.1 hx q.1 (List.mem_append_left _ hq1) rfl
        · exact n23 q.1 hq1 q.1 hx rfl
      · exact Or.inl (List.mem_append_right _ h)
section ZL
variable {c : Nat → ClassId} {b : Nat → Nat} {a : Nat → Nat → Nat} {d : Nat → Nat} {o : Nat} {A : Nat → Prop}
theorem z_cutH {Y : z_H} (hD : va_D A (z_hw c b a o Y)) (X : z_X) : z_Cut (z_hw c b a o Y) (z_dw c b a Y.1) (z_dw c b a X) (z_hw c b a o (X, Y.2)) := z_cut1 hD z_dwA
theorem z_cutLH {Y : z_Y} (hD : va_D A (z_lw c b a d o Y)) (X : z_H) : z_Cut (z_lw c b a d o Y) (z_hw c b a o (Y.1, Y.2.2)) (z_hw c b a o X) (z_lw c b a d o (X.1, Y.2.1, X.2)) := z_cut13 hD z_dwA rfl
theorem z_cutLD {Y : z_Y} (hD : va_D A (z_lw c b a d o Y)) (X : z_X) : z_Cut (z_lw c b a d o Y) (z_dw c b a Y.1) (z_dw c b a X) (z_lw c b a d o (X, Y.2.1, Y.2.2)) := z_cut1 hD z_dwA
theorem z_cutLDp {Y : z_Y} (hD : va_D A (z_lw c b a d o Y)) : z_Cut (z_lw c b a d o Y) (z_dw c b a Y.1) (z_dw c b a Y.1) (z_lw c b a d o Y) := z_cut1 hD rfl
theorem z_cutLM {Y : z_Y} (hD : va_D A (z_lw c b a d o Y)) (g : z_R) : z_Cut (z_lw c b a d o Y) (z_md c d Y.2.1) (z_md c d g) (z_lw c b a d o (Y.1, g, Y.2.2)) := z_cut2 hD rfl
theorem z_cutLMp {Y : z_Y} (hD : va_D A (z_lw c b a d o Y)) : z_Cut (z_lw c b a d o Y) (z_md c d Y.2.1) (z_md c d Y.2.1) (z_lw c b a d o Y) := z_cut2 hD rfl
theorem z_inO {Y : z_Y} : ∀ q ∈ z_ow c o Y.2.2, q ∈ z_lw c b a d o Y := fun q hq => List.mem_append_right _ (List.mem_append_right _ hq)
theorem z_inOh {Y : z_H} : ∀ q ∈ z_ow c o Y.2, q ∈ z_hw c b a o Y := fun q hq => List.mem_append_right _ hq
end ZL
section ZH
variable {p : Program} {l : Launch} {e : Env} {R : Room} {s : State} {m : MethodId} {args : Array Value} {below : List Frame} {meth : Method} {co : Code} {H : Heap} {locs : List Loc} {cells slots : Nat} {Q : State → Prop}
variable {cc bytes : ByteArray} {pc nL maxL n index : Nat} {ls : Array Slot} {own C host : String} {y : MethodName} {ret : Option FieldType} {Ts ws : List Cond} {rm : Room} {As rest st0 : List Value} {bb : Nat} {D : va_G} {c : Nat → ClassId} {A0 : Nat → Prop} {H0 : Heap}
/-- a call of a method that answers an int or throws, on a part of the world -/
theorem z_xT {V V2 : va_W} {S : Type} {wf : S → va_W} {g u0 : S} {r0 : Int32 ⊕ Nat} (S0 : CallFix p m co cc nL s args Ts own)
    (hM : vx_Met l y ws rm (z_Pt D c H.size (wf g) (.ref bb :: As)) (z_Ti D wf r0 u0 (va_A (wf g) H.size)) (z_Tx D wf r0 u0 (va_A (wf g) H.size)) 1 6 (va_A (wf g) H.size))
    (cw : CallW R s args own C index y bytes maxL ret ws rm 1 6 n) (hP : va_P D vwCl V H) (hK : z_K D c s) (hD : va_D A0 V) (hS : va_S A0 H0 H locs) (hA : ∀ q : Nat, H0.size ≤ q → A0 q) (hE : z_EH A0 s H) (hc : z_Cut V (wf g) (wf u0) V2)
    {ci q0 : Nat} {q : vw_C} {fs : List Value} (hcl : vwCl[ci]? = some q) (he : (wf g)[q0]? = some (bb, .inr (ci, fs))) (hq : q.1 = C) (hn : As.length = n) (hsize : ls.size = nL) (hW : (rest.map fun v => v.category).sum ≤ 8) (hstack : st0 = As.reverse ++ .ref bb :: rest) (hdg : decode cc pc = .ok (.invokevirtual index, 3)) (hf : cells + 1 ≤ R.cells ∧ slots + 6 ≤ R.slots)
    (kx : ∀ (k : Nat) (q9 : Addr) (ce : Cell) (H1 : Heap) (locs1 : List Loc), r0 = .inr k → va_P D vwCl V2 H1 → va_D A0 V2 → va_S A0 H0 H1 locs1 → H1[q9]? = some ce → ce.vm = .none → s.vm.findClass (z_ex k) = some ce.cls → vx_W p l e R s m args below meth co H1 locs1 (cells + 1) (slots + 6) Q (F0 m pc ls rest) q9)
    (kk : ∀ (r : Int32) (H1 : Heap) (locs1 : List Loc), r0 = .inl r → va_P D vwCl V2 H1 → va_D A0 V2 → va_S A0 H0 H1 locs1 → W p l e R s m args below meth co H1 locs1 (cells + 1) (slots + 6) Q (F0 m (pc + 3) ls (.int r :: rest))) : W p l e R s m args below meth co H locs cells slots Q (F0 m pc ls st0) := by
  have hF := z_Fc hD hc.1 hS hA
  have hPc := z_subP hP hc.1
  have hE1 : z_EH (va_A (wf g) H.size) s H := hE.kept (fun _ _ _ => rfl) hF
  subst hq
  refine vx_calli (vx_runV (As := As) (rest := rest) S0 hM cw ⟨z_blt, va_recv hK.1 hPc hcl he, z_pret hPc hK (z_subD hD hc.1 hc.2.1) hE1⟩ rfl hn hsize hstack (lv_room hW) hdg hf) hS (fun q _ h => hF q h) hF (fun q _ h => hF q h) (fun E ce q9 u t H1 locs1 ht hvm hu hB hz hk hS1 h1 h2 h3 => ?_) (fun r u t H1 locs1 ht hvm hw hB hz hk hS1 => ?_)
  · obtain ⟨⟨k, e1, e2⟩, hP1, hD1⟩ := hB
    rw [hu, ht] at hP1
    obtain ⟨hP2, hD2⟩ := z_jn hP hD hc hk hP1
    exact kx k q9 ce H1 locs1 e1 hP2 hD2 hS1 h1 h2 (by rw [← e2]; exact h3)
  · obtain ⟨e1, e2⟩ := hw
    obtain ⟨hP1, hD1⟩ := hB
    rw [e2, ht] at hP1
    obtain ⟨hP2, hD2⟩ := z_jn hP hD hc hk hP1
    exact kk r H1 locs1 e1 hP2 hD2 hS1
/-- a call of a helper of the law -/
theorem z_xH {V V2 : va_W} {S : Type} {wf : S → va_W} {g u0 : S} {r0 : Int32} {hh : List (Nat × Nat × Nat × Nat)} (S0 : CallFix p m co cc nL s args Ts own)
    (hM : Met l y ws rm (z_Pt D c H.size (wf g) As) (z_Qi D wf r0 u0 (va_A (wf g) H.size)) 1 6 (va_A (wf g) H.size))
    (cw : vx_CSW R s args own index y bytes maxL ret hh ws rm 1 6 n) (hP : va_P D vwCl V H) (hK : z_K D c s) (hD : va_D A0 V) (hS : va_S A0 H0 H locs) (hA : ∀ q : Nat, H0.size ≤ q → A0 q) (hE : z_EH A0 s H) (hc : z_Cut V (wf g) (wf u0) V2)
    (hn : As.length = n) (hsize : ls.size = nL) (hW : (rest.map fun v => v.category).sum ≤ 8) (hstack : st0 = As.reverse ++ rest) (hdg : decode cc pc = .ok (.invokestatic index, 3)) (hf : cells + 1 ≤ R.cells ∧ slots + 6 ≤ R.slots)
    (kk : ∀ (H1 : Heap) (locs1 : List Loc), va_P D vwCl V2 H1 → va_D A0 V2 → va_S A0 H0 H1 locs1 → W p l e R s m args below meth co H1 locs1 (cells + 1) (slots + 6) Q (F0 m (pc + 3) ls (.int r0 :: rest))) : W p l e R s m args below meth co H locs cells slots Q (F0 m pc ls st0) := by
  have hF := z_Fc hD hc.1 hS hA
  have hPc := z_subP hP hc.1
  have hE1 : z_EH (va_A (wf g) H.size) s H := hE.kept (fun _ _ _ => rfl) hF
  refine va_calli (vx_runSW (As := As) (rest := rest) S0 hM cw ⟨z_blt, z_pret hPc hK (z_subD hD hc.1 hc.2.1) hE1⟩ rfl hn hsize hstack (lv_room hW) hdg hf) hS (fun q _ h => hF q h) hF (fun r u t H1 locs1 ht hvm hw hB hz hk hS1 => ?_)
  obtain ⟨e1, e2⟩ := hw
  obtain ⟨hP1, hD1⟩ := hB
  rw [e2, ht] at hP1
  obtain ⟨hP2, hD2⟩ := z_jn hP hD hc hk hP1
  rw [e1]
  exact kk H1 locs1 hP2 hD2 hS1
end ZH
/-- the helper's own start -/
theorem z_ofH {l : Launch} {y : MethodName} {ws ws' : List Cond} {rm : Room} {D : va_G} {c : Nat → ClassId} {sz : Nat} {V : va_W} {av : List Value} {Qf : (Nat → Prop) → Array Value → State → Outcome → State → Prop} {cc : ByteArray} {maxL mc ms : Nat} {ret : Option FieldType} {hh : List (Nat × Nat × Nat × Nat)}
    (hy : plainName y.cls = true) (hw : ws = Cond.codeWith y cc maxL ret hh :: ws') (hn : (lg_sl av).length ≤ maxL)
    (body : ∀ (p : Program) (e : Env) (s : State) (m : MethodId) (args : Array Value) (below : List Frame) (meth : Method) (co : Code) (A : Nat → Prop) (ls : Array Slot), p.tables.exec = Jvm.exec → co.code = cc → meth.sig.returnType = ret → co.maxLocals = maxL → (∀ w ∈ ws, w.before args s = true) → s.vm.findClass y.cls = some m.cls → meth.locks = false → co.exceptionTable.toList = tableOf hh → (∀ q : Nat, s.heap.size ≤ q → A q) → va_P D vwCl V s.heap → z_K D c s → va_D A V → z_EH A s s.heap → lv_has ls maxL (lv_args 0 av) → s.heap.size = sz →
      W p l e rm s m args below meth co s.heap [] 0 0 (MQ below (Qf A) args s mc ms A) (F0 m 0 ls [])) :
    Met l y ws rm (z_Pt D c sz V av) (Qf (va_A V sz)) mc ms (va_A V sz) := by
  refine va_MetW (cc := cc) (maxL := maxL) (ret := ret) (hh := hh) hy hw ?_
  intro p e s m args below meth co s₁ B hml hv
  obtain ⟨rfl, hsz, hP, hK, hD0, hE⟩ := hv
  have hts := atoms_spec (ws := ws) B.pre
  have hown : s.vm.findClass y.cls = some m.cls := findClass_of_methodNamed B.named
  have htb := vx_table (x := y) B (hts _ (by rw [hw]; exact List.mem_cons_self))
  have hl := lv_entry av (n := maxL) hn
  rw [lg_entry_eq]
  exact body p e s m _ below meth co (va_A V sz) _ B.exec B.bytes B.returns hml hts hown B.notSynchronized htb (fun q h => Or.inr (by rw [← hsz]; exact h)) hP hK hD0.self hE hl hsz
section ZHR
variable {p : Program} {l : Launch} {e : Env} {R : Room} {s : State} {m : MethodId} {args : Array Value} {below : List Frame} {meth : Method} {co : Code} {H : Heap} {locs : List Loc}
variable {cc : ByteArray} {pc : Nat} {ls : Array Slot} {D : va_G} {A : Nat → Prop} {S : Type} {wf : S → va_W} {g g0 : S} {r r0 : Int32}
theorem z_rH (hx : p.tables.exec = Jvm.exec) (hb : co.code = cc) (hr : meth.sig.returnType = some .int) (hlocks : meth.locks = false) (hP : va_P D vwCl (wf g) H) (hD : va_D A (wf g)) (hS : va_S A s.heap H locs) (hf : some (r, g) = some (r0, g0)) (hdg : decode cc pc = .ok (.ireturn, 1)) : W p l e R s m args below meth co H locs 1 6 (MQ below (z_Qi D wf r0 g0 A) args s 1 6 A) (F0 m pc ls [.int r]) := by
  cases hf
  exact W.iret (v := r) hx hb hr (fun t ht _ => ⟨⟨r, g, rfl, ⟨rfl, rfl⟩, by rw [ht]; exact hP, hD⟩, hS.F ht⟩) hS.2.2 hdg hlocks
end ZHR
section ZHS
variable {c : Nat → ClassId} {b : Nat → Nat} {a : Nat → Nat → Nat} {o : Nat} {X : z_X} {Y : z_H}
theorem z_dwL : (z_dw c b a X).length = 311 := by
  rw [z_dwE, List.length_append]
  unfold z_bk
  rw [List.length_flatMap, show (List.range 19).map (fun k => (z_st c (a k) (X.2.2 k)).length) = (List.range 19).map (fun _ => 16) from rfl]
  rfl
theorem z_hwAt : (z_hw c b a o Y)[311]? = some (o, .inl (c 3, 1, .inr (.inl Y.2))) := by
  unfold z_hw
  rw [List.getElem?_append_right (by rw [z_dwL]; exact Nat.le_refl _), z_dwL]
  rfl
theorem z_hwSet (f : Nat → Int64) : (z_hw c b a o Y).set 311 (o, .inl (c 3, 1, .inr (.inl f))) = z_hw c b a o (Y.1, f) := by
  unfold z_hw
  rw [List.set_append_right _ _ (by rw [z_dwL]; exact Nat.le_refl _), z_dwL]
  rfl
end ZHS
def z_sm {γ : Type} (o : Int32 ⊕ Nat) (f : Int32 → Option γ) (h : Nat → Option γ) : Option γ := match o with
  | .inl r => f r
  | .inr k => h k
theorem z_smL {γ : Type} {o : Int32 ⊕ Nat} {f : Int32 → Option γ} {h : Nat → Option γ} {x : γ} {r : Int32} (hf : z_sm o f h = some x) (e : o = .inl r) : f r = some x := by
  rw [e] at hf; exact hf
theorem z_smR {γ : Type} {o : Int32 ⊕ Nat} {f : Int32 → Option γ} {h : Nat → Option γ} {x : γ} {k : Nat} (hf : z_sm o f h = some x) (e : o = .inr k) : h k = some x := by
  rw [e] at hf; exact hf
theorem z_nI6 (j : Nat) : nI (6 * j) + (6 : Int32) = nI (6 * (j + 1)) := by
  rw [show (6 : Int32) = nI 6 from rfl, nI_add]
  rfl
theorem z_jlt {L j : Nat} {x4 : Int32} (hL : L ≤ 3072) (hj : j ≤ 512) (hx4 : x4 = nI (6 * j)) (c : ¬ Int32.ofNat L - (6 : Int32) < x4) : j < 512 := by
  rw [hx4, Int32.lt_iff_toInt_lt, nI_toInt (by omega)] at c
  have h1 : (Int32.ofNat L).toInt = (L : Int) := nI_toInt (by omega)
  have h6 : (6 : Int32).toInt = 6 := by decide
  have h2 : (Int32.ofNat L - (6 : Int32)).toInt = (L : Int) - 6 := by
    rw [Int32.toInt_sub, h1, h6]
    exact Int.bmod_eq_of_le (by omega) (by omega)
  omega

