/-! base: combinators of the printed functions, worlds, contracts in short form -/
abbrev z_R : Type := Nat → Nat → Int32
def z_lt {α β : Type} (x : α) (f : α → β) : β := f x
theorem z_ltE {α β : Type} {x : α} {f : α → Option β} {o : β} (h : z_lt x f = some o) : ∃ y, y = x ∧ f y = some o := ⟨x, rfl, h⟩
def z_ck {α : Type} (b : Bool) (x : Option α) : Option α := if b = true then x else none
theorem z_ckE {α : Type} {b : Bool} {x : Option α} {o : α} (h : z_ck b x = some o) : b = true ∧ x = some o := by
  cases b with
  | false => simp [z_ck] at h
  | true => simp [z_ck] at h; exact ⟨rfl, h⟩
def z_in (i : Int32) (n : Nat) : Bool := !(decide (i < 0) || decide (n ≤ i.toNatClampNeg))
theorem z_inE {i : Int32} {n : Nat} (h : z_in i n = true) : vp_in i n := by
  unfold vp_in
  intro q
  unfold z_in at h
  rcases q with q | q
  · simp [q] at h
  · simp [q] at h
def z_nz (i : Int32) : Bool := !decide (i = 0)
theorem z_nzE {i : Int32} (h : z_nz i = true) : ¬ i = 0 := by
  intro q
  simp [z_nz, q] at h
def z_nzL (i : Int64) : Bool := !decide (i = 0)
theorem z_nzLE {i : Int64} (h : z_nzL i = true) : ¬ i = 0 := by
  intro q
  simp [z_nzL, q] at h
def z_bo (r : Int32) : Bool := decide (r = 0) || decide (r = 1)
theorem z_boE {r : Int32} (h : z_bo r = true) : narrow .boolean (.int r) = .int r := by
  unfold z_bo at h
  by_cases h0 : r = 0
  · rw [h0]; rfl
  · by_cases h1 : r = 1
    · rw [h1]; rfl
    · simp [h0, h1] at h
theorem z_bE {α β : Type} {x : Option α} {f : α → Option β} {o : β} (h : x.bind f = some o) : ∃ y, x = some y ∧ f y = some o := by
  cases x with
  | none => cases h
  | some y => exact ⟨y, rfl, h⟩
def z_b2 {α β γ : Type} (x : Option (α × β)) (f : α → β → Option γ) : Option γ := x.bind fun y => f y.1 y.2
theorem z_b2E {α β γ : Type} {x : Option (α × β)} {f : α → β → Option γ} {o : γ} (h : z_b2 x f = some o) : ∃ y u, x = some (y, u) ∧ f y u = some o := by
  cases x with
  | none => cases h
  | some y => exact ⟨y.1, y.2, rfl, h⟩
theorem z_ifT {α : Type} {c : Prop} [Decidable c] {x y : Option α} {o : α} (h : (if c then x else y) = some o) (hc : c) : x = some o := by
  rw [if_pos hc] at h; exact h
theorem z_ifF {α : Type} {c : Prop} [Decidable c] {x y : Option α} {o : α} (h : (if c then x else y) = some o) (hc : ¬ c) : y = some o := by
  rw [if_neg hc] at h; exact h
/-- a number put into a row -/
def z_u2 (g : z_R) (i j : Nat) (x : Int32) : z_R := fun a => if a = i then upd (g i) j x else g a
def z_u3 (G : Nat → z_R) (k : Nat) (g : z_R) : Nat → z_R := fun a => if a = k then g else G a

def z_st (c : Nat → ClassId) (a : Nat → Nat) (g : z_R) : va_W := [(a 0, .inr (2, [.int (g 0 0), .int (g 0 1), .int (g 0 2), .int (g 0 3), .ref (a 1), .ref (a 2), .ref (a 3), .ref (a 4), .ref (a 5), .ref (a 6), .ref (a 7), .ref (a 8), .ref (a 9), .ref (a 10), .ref (a 11), .ref (a 12)])), (a 1, .inl (c 0, 16, .inl (g 1))), (a 2, .inl (c 0, 16, .inl (g 2))), (a 3, .inl (c 0, 16, .inl (g 3))), (a 4, .inl (c 0, 16, .inl (g 4))), (a 5, .inl (c 0, 16, .inl (g 5))), (a 6, .inl (c 0, 16, .inl (g 6))), (a 7, .inl (c 0, 16, .inl (g 7))), (a 8, .inl (c 0, 16, .inl (g 8))), (a 9, .inl (c 0, 16, .inl (g 9))), (a 10, .inl (c 0, 4, .inl (g 10))), (a 11, .inl (c 0, 4, .inl (g 11))), (a 12, .inr (0, [.ref (a 13), .ref (a 14), .ref (a 15), .int (g 0 4)])), (a 13, .inl (c 0, 256, .inl (g 13))), (a 14, .inl (c 0, 256, .inl (g 14))), (a 15, .inl (c 0, 256, .inl (g 15)))]
def z_md (c : Nat → ClassId) (a : Nat → Nat) (g : z_R) : va_W := [(a 0, .inr (5, [.int (g 0 0), .ref (a 1), .ref (a 2), .ref (a 3), .ref (a 4), .ref (a 5), .int (g 0 1), .ref (a 6), .ref (a 7), .ref (a 8), .int (g 0 2), .ref (a 9), .int (g 0 3)])), (a 1, .inl (c 0, 925, .inl (g 1))), (a 2, .inl (c 0, 925, .inl (g 2))), (a 3, .inl (c 0, 925, .inl (g 3))), (a 4, .inl (c 0, 925, .inl (g 4))), (a 5, .inl (c 0, 12950, .inl (g 5))), (a 6, .inl (c 0, 1850, .inl (g 6))), (a 7, .inl (c 0, 2, .inl (g 7))), (a 8, .inl (c 0, 160, .inl (g 8))), (a 9, .inl (c 0, 16, .inl (g 9)))]
def z_tx (c : Nat → ClassId) (a : Nat → Nat) (g : z_R) : va_W := [(a 0, .inr (3, [.ref (a 1), .int (g 0 0)])), (a 1, .inl (c 0, 160, .inl (g 1)))]
def z_jp (c : Nat → ClassId) (a : Nat → Nat) (g : z_R) : va_W := [(a 12, .inr (0, [.ref (a 13), .ref (a 14), .ref (a 15), .int (g 0 4)])), (a 13, .inl (c 0, 256, .inl (g 13))), (a 14, .inl (c 0, 256, .inl (g 14))), (a 15, .inl (c 0, 256, .inl (g 15)))]
def z_ty (c : Nat → ClassId) : List (ClassId × FieldType) := [(c 0, .int), (c 1, .boolean), (c 2, .object "ProgramDrum$State"), (c 3, .long)]
def z_nF : List (String × Nat × String × String × String × String) := [(RX2, 65, "ProgramDrum$Jumps", "size", "I", "ProgramDrum"), (RX4, 114, "ProgramDrum$Jumps", "size", "I", "ProgramDrum"), (RX4, 84, "ProgramDrum$State", "places", "I", "ProgramDrum"), (RX4, 80, "ProgramDrum$State", "count", "I", "ProgramDrum"), (RX4, 87, "ProgramDrum$State", "tick", "I", "ProgramDrum"), (RX4, 119, "ProgramDrum$State", "lastEnd", "I", "ProgramDrum"), (RX4, 133, "ProgramDrum$State", "author", "[I", "ProgramDrum"), (RX4, 136, "ProgramDrum$State", "work", "[I", "ProgramDrum"), (RX4, 139, "ProgramDrum$State", "next", "[I", "ProgramDrum"), (RX4, 142, "ProgramDrum$State", "expects", "[I", "ProgramDrum"), (RX4, 145, "ProgramDrum$State", "bribe", "[I", "ProgramDrum"), (RX4, 148, "ProgramDrum$State", "place", "[I", "ProgramDrum"), (RX4, 151, "ProgramDrum$State", "delay", "[I", "ProgramDrum"), (RX4, 107, "ProgramDrum$State", "open", "[I", "ProgramDrum"), (RX4, 154, "ProgramDrum$State", "lastWait", "[I", "ProgramDrum"), (RX4, 96, "ProgramDrum$State", "paid", "[I", "ProgramDrum"), (RX4, 104, "ProgramDrum$State", "refunded", "[I", "ProgramDrum"), (RX4, 110, "ProgramDrum$State", "jumps", "LProgramDrum$Jumps;", "ProgramDrum"), (RX4, 245, "ProgramDrum$Memory", "size", "I", "ProgramDrum")]
def z_nM : List (String × Nat × MethodName × String) := [(RX4, 9, yX3_init, "ProgramDrum"), (RX4, 18, yX2_init, "ProgramDrum"), (RX2, 54, yX0_init, "ProgramDrum"), (RX1, 17, yX2_init, "ProgramDrum"), (RX2, 100, yX4_isAuthor, "ProgramDrum")]
def z_NW (U : State) : Prop := (∀ q ∈ z_nF, va_Nw (.fieldLinkNest q.1 q.2.1 q.2.2.1 q.2.2.2.1 q.2.2.2.2.1 q.2.2.2.2.2) U) ∧ ∀ q ∈ z_nM, va_Nw (.methodLinkNest q.1 q.2.1 q.2.2.1 q.2.2.2) U
theorem z_NW.moved {u U : State} (hW : u.WarmedH U.vm) (h : z_NW u) : z_NW U := ⟨fun q hq => va_Nw.warmF hW (h.1 q hq), fun q hq => va_Nw.warmM hW (h.2 q hq)⟩
theorem z_NW.same {u U : State} (e : u.vm = U.vm) (h : z_NW u) : z_NW U := ⟨fun q hq => va_Nw.same rfl e (h.1 q hq), fun q hq => va_Nw.same rfl e (h.2 q hq)⟩
def z_K (D : va_G) (c : Nat → ClassId) (U : State) : Prop := va_K D vwCl (z_ty c) U ∧ z_NW U
theorem z_K.moved {D : va_G} {c : Nat → ClassId} {u U : State} (hW : u.WarmedH U.vm) (h : z_K D c u) : z_K D c U := ⟨va_K.moved hW.alike h.1, h.2.moved hW⟩
theorem z_K.same {D : va_G} {c : Nat → ClassId} {u U : State} (e : u.vm = U.vm) (h : z_K D c u) : z_K D c U := ⟨va_K.moved (by rw [← e]; exact Vm.Alike.refl u.vm) h.1, h.2.same e⟩
abbrev z_Pc (D : va_G) (c : Nat → ClassId) (sz : Nat) (V : va_W) (av : List Value) : Array Value → State → Prop := va_Pc av (fun U => U.heap.size = sz ∧ va_P D vwCl V U.heap ∧ z_K D c U ∧ va_D (fun _ => True) V)
theorem z_bl {D : va_G} {c : Nat → ClassId} {sz : Nat} {V : va_W} {av : List Value} : FrameBlind (z_Pc D c sz V av) := fun a U g mk q => by
  obtain ⟨q0, q1, qP, qK, qD⟩ := q
  exact ⟨q0, q1, qP, z_K.same (u := U) (U := U.calling g mk a) rfl qK, qD⟩
theorem z_pre {D : va_G} {c : Nat → ClassId} {V : va_W} {av : List Value} {s : State} {H : Heap} {A : Nat → Prop} (hP : va_P D vwCl V H) (hK : z_K D c s) (hD : va_D A V) : ∀ U : State, U.heap = H → s.WarmedH U.vm → z_Pc D c H.size V av av.toArray U := fun U hU hW => ⟨rfl, by rw [hU], by rw [hU]; exact hP, hK.moved hW, hD.weaken (fun _ _ _ _ => trivial)⟩
/-- the world behind a method: of the form wf, with the value u -/
abbrev z_B (D : va_G) {S : Type} (wf : S → va_W) (A : Nat → Prop) (u : S) (t : State) : Prop := va_P D vwCl (wf u) t.heap ∧ va_D A (wf u)
/-- a method that answers r0 and leaves the value g0 -/
abbrev z_Qi (D : va_G) {S : Type} (wf : S → va_W) (r0 : Int32) (g0 : S) (A : Nat → Prop) : Array Value → State → Outcome → State → Prop := va_Qi (fun r u => r = r0 ∧ u = g0) (z_B D wf A) A
abbrev z_Qv (D : va_G) {S : Type} (wf : S → va_W) (g0 : S) (A : Nat → Prop) : Array Value → State → Outcome → State → Prop := va_Qv (fun u => u = g0) (z_B D wf A) A
theorem z_ofF {l : Launch} {y : MethodName} {ws ws' : List Cond} {rm : Room} {Pc : Array Value → State → Prop} {Qc : Array Value → State → Outcome → State → Prop} {mc ms : Nat} {free : Addr → Prop} {cc : ByteArray} {maxL : Nat} {ret : Option FieldType}
    (hy : plainFor y = true) (hw : ws = Cond.code y cc maxL ret :: ws')
    (body : ∀ p e s m args below meth co s₁, BodyLoose p l y (headSpec ws rm) cc maxL ret e s m args below meth co s₁ → co.maxLocals = maxL → Pc args s →
      W p l e (headSpec ws rm).room s m args below meth co s.heap [] 0 0 (MQ below Qc args s mc ms free) (entryFrame m args maxL)) : Met l y ws rm Pc Qc mc ms free := by
  refine MetFree.of_bodyRF (code := cc) (maxLocals := maxL) (ret := ret) hy ?_ ?_
  · intro args s m h hn
    obtain ⟨meth, co, h1, h2, h3, h4, h5, h6, -, -⟩ := Cond.code_spec hn (atoms_spec (ws := ws) h _ (by rw [hw]; exact List.mem_cons_self))
    exact ⟨meth, co, h1, h2, h3, h4, h5, h6⟩
  · intro p e s m args below meth co s₁ B hml hP _ hst
    have hh0 : s₁.heap = s.heap := by rw [B.state]; rfl
    obtain ⟨t, a1, o, b1, b2, b3⟩ := body p e s m args below meth co s₁ B hml hP s₁ hh0 (Stand.of_body B)
    exact ⟨t, o, hst.trans a1, b1, b2, ⟨b3.1, b3.2⟩⟩
theorem z_ofM {l : Launch} {y : MethodName} {ws ws' : List Cond} {rm : Room} {D : va_G} {c : Nat → ClassId} {sz : Nat} {V : va_W} {av : List Value} {Qf : (Nat → Prop) → Array Value → State → Outcome → State → Prop} {cc : ByteArray} {maxL mc ms : Nat} {ret : Option FieldType}
    (hy : plainFor y = true) (hw : ws = Cond.code y cc maxL ret :: ws') (hn : (lg_sl av).length ≤ maxL)
    (body : ∀ (p : Program) (e : Env) (s : State) (m : MethodId) (args : Array Value) (below : List Frame) (meth : Method) (co : Code) (A : Nat → Prop) (ls : Array Slot), p.tables.exec = Jvm.exec → co.code = cc → meth.sig.returnType = ret → co.maxLocals = maxL → (∀ w ∈ ws, w.before args s = true) → s.vm.findClass y.cls = some m.cls → meth.locks = false → meth.name = y.name → (∀ q : Nat, s.heap.size ≤ q → A q) → va_P D vwCl V s.heap → z_K D c s → va_D A V → lv_has ls maxL (lv_args 0 av) → s.heap.size = sz →
      W p l e rm s m args below meth co s.heap [] 0 0 (MQ below (Qf A) args s mc ms A) (F0 m 0 ls [])) :
    Met l y ws rm (z_Pc D c sz V av) (Qf (va_A V sz)) mc ms (va_A V sz) := by
  refine z_ofF (cc := cc) (maxL := maxL) (ret := ret) hy hw ?_
  intro p e s m args below meth co s₁ B hml hv
  obtain ⟨rfl, hsz, hP, hK, hD0⟩ := hv
  have hts := atoms_spec (ws := ws) B.pre
  have hown : s.vm.findClass y.cls = some m.cls := findClass_of_methodNamed B.named
  have hin : meth.name = y.name := (name_of_methodNamed B.named B.method).1
  have hl := lv_entry av (n := maxL) hn
  rw [lg_entry_eq]
  exact body p e s m _ below meth co (va_A V sz) _ B.exec B.bytes B.returns hml hts hown B.notSynchronized hin (fun q h => Or.inr (by rw [← hsz]; exact h)) hP hK hD0.self hl hsz
section ZZ
variable {p : Program} {l : Launch} {e : Env} {R : Room} {s : State} {m : MethodId} {args : Array Value} {below : List Frame} {meth : Method} {co : Code} {H : Heap} {locs : List Loc} {cells slots : Nat} {Q : State → Prop}
variable {cc bytes : ByteArray} {pc nL maxL n index : Nat} {ls : Array Slot} {own C host : String} {y : MethodName} {ret : Option FieldType} {Ts ws : List Cond} {rm : Room} {As rest st0 : List Value} {b : Nat} {D : va_G} {c : Nat → ClassId} {A0 : Nat → Prop} {H0 : Heap}
theorem z_F {V : va_W} (hD : va_D A0 V) (hS : va_S A0 H0 H locs) (hA : ∀ q : Nat, H0.size ≤ q → A0 q) : ∀ q : Nat, va_A V H.size q → A0 q := by
  intro q h
  rcases h with ⟨k, e, h⟩ | h
  · exact hD.2 k (q, e) h
  · exact hA q (Nat.le_trans hS.1 h)
/-- the same world: an instance method that answers an int -/
theorem z_cVi {S : Type} {wf : S → va_W} {g u0 : S} {r0 : Int32} (S0 : CallFix p m co cc nL s args Ts own)
    (hM : Met l y ws rm (z_Pc D c H.size (wf g) (.ref b :: As)) (z_Qi D wf r0 u0 (va_A (wf g) H.size)) 0 0 (va_A (wf g) H.size))
    (cw : CallW R s args own C index y bytes maxL ret ws rm 0 0 n) (hP : va_P D vwCl (wf g) H) (hK : z_K D c s) (hD : va_D A0 (wf g)) (hS : va_S A0 H0 H locs) (hA : ∀ q : Nat, H0.size ≤ q → A0 q)
    {ci q0 : Nat} {q : vw_C} {fs : List Value} (hc : vwCl[ci]? = some q) (he : (wf g)[q0]? = some (b, .inr (ci, fs))) (hq : q.1 = C) (hn : As.length = n) (hsize : ls.size = nL) (hW : (rest.map fun v => v.category).sum ≤ 8) (hstack : st0 = As.reverse ++ .ref b :: rest) (hdg : decode cc pc = .ok (.invokevirtual index, 3)) (hf : cells + 0 ≤ R.cells ∧ slots + 0 ≤ R.slots)
    (kk : ∀ (H1 : Heap) (locs1 : List Loc), va_P D vwCl (wf u0) H1 → va_D A0 (wf u0) → va_S A0 H0 H1 locs1 → W p l e R s m args below meth co H1 locs1 cells slots Q (F0 m (pc + 3) ls (.int r0 :: rest))) : W p l e R s m args below meth co H locs cells slots Q (F0 m pc ls st0) := by
  have hF := z_F hD hS hA
  subst hq
  refine va_calli (va_runV (As := As) (rest := rest) S0 hM cw ⟨z_bl, va_recv hK.1 hP hc he, z_pre hP hK hD⟩ rfl hn hsize hstack (lv_room hW) hdg hf) hS (fun q _ h => hF q h) hF (fun r u t H1 locs1 ht hvm hw hB hz hk hS1 => ?_)
  obtain ⟨e1, e2⟩ := hw
  obtain ⟨hP1, hD1⟩ := hB
  rw [e2, ht] at hP1
  rw [e2] at hD1
  rw [e1]
  exact kk H1 locs1 hP1 (hD1.weaken (fun _ q _ h => hF q.1 h)) hS1
theorem z_cVv {S : Type} {wf : S → va_W} {g u0 : S} (S0 : CallFix p m co cc nL s args Ts own)
    (hM : Met l y ws rm (z_Pc D c H.size (wf g) (.ref b :: As)) (z_Qv D wf u0 (va_A (wf g) H.size)) 0 0 (va_A (wf g) H.size))
    (cw : CallW R s args own C index y bytes maxL ret ws rm 0 0 n) (hP : va_P D vwCl (wf g) H) (hK : z_K D c s) (hD : va_D A0 (wf g)) (hS : va_S A0 H0 H locs) (hA : ∀ q : Nat, H0.size ≤ q → A0 q)
    {ci q0 : Nat} {q : vw_C} {fs : List Value} (hc : vwCl[ci]? = some q) (he : (wf g)[q0]? = some (b, .inr (ci, fs))) (hq : q.1 = C) (hn : As.length = n) (hsize : ls.size = nL) (hW : (rest.map fun v => v.category).sum ≤ 8) (hstack : st0 = As.reverse ++ .ref b :: rest) (hdg : decode cc pc = .ok (.invokevirtual index, 3)) (hf : cells + 0 ≤ R.cells ∧ slots + 0 ≤ R.slots)
    (kk : ∀ (H1 : Heap) (locs1 : List Loc), va_P D vwCl (wf u0) H1 → va_D A0 (wf u0) → va_S A0 H0 H1 locs1 → W p l e R s m args below meth co H1 locs1 cells slots Q (F0 m (pc + 3) ls rest)) : W p l e R s m args below meth co H locs cells slots Q (F0 m pc ls st0) := by
  have hF := z_F hD hS hA
  subst hq
  refine va_callv (va_runV (As := As) (rest := rest) S0 hM cw ⟨z_bl, va_recv hK.1 hP hc he, z_pre hP hK hD⟩ rfl hn hsize hstack (lv_room hW) hdg hf) hS (fun q _ h => hF q h) hF (fun u t H1 locs1 ht hvm hw hB hz hk hS1 => ?_)
  obtain ⟨hP1, hD1⟩ := hB
  rw [hw, ht] at hP1
  rw [hw] at hD1
  exact kk H1 locs1 hP1 (hD1.weaken (fun _ q _ h => hF q.1 h)) hS1
theorem z_keep0 {V : va_W} {H1 : Heap} (hP : va_P D vwCl V H) (hk : ∀ q : Nat, q < H.size → ¬ va_A [] H.size q → H1[q]? = H[q]?) : va_P D vwCl V H1 := hP.kept fun k q hq => hk q.1 (hP k q hq).lt fun h => by
  rcases h with ⟨k2, e2, h⟩ | h
  · simp at h
  · exact absurd (hP k q hq).lt (Nat.not_lt.mpr h)
theorem z_D0 {A : Nat → Prop} : va_D A ([] : va_W) := ⟨fun i j p q h => by simp at h, fun k q h => by simp at h⟩
theorem z_P0 {H : Heap} : va_P D vwCl ([] : va_W) H := fun k q h => by simp at h
/-- no world: a static method of its own class that answers an int -/
theorem z_cSi {V : va_W} {r0 : Int32} (S0 : CallFix p m co cc nL s args Ts own)
    (hM : Met l y ws rm (z_Pc D c H.size [] As) (z_Qi D (fun _ : Unit => []) r0 () (va_A [] H.size)) 0 0 (va_A [] H.size))
    (cw : CallB R s args own index y bytes maxL ret ws rm 0 0 n ∧ (Cond.static y).before args s = true) (hP : va_P D vwCl V H) (hK : z_K D c s) (hS : va_S A0 H0 H locs) (hA : ∀ q : Nat, H0.size ≤ q → A0 q)
    (hn : As.length = n) (hsize : ls.size = nL) (hW : (rest.map fun v => v.category).sum ≤ 8) (hstack : st0 = As.reverse ++ rest) (hdg : decode cc pc = .ok (.invokestatic index, 3)) (hf : cells + 0 ≤ R.cells ∧ slots + 0 ≤ R.slots)
    (kk : ∀ (H1 : Heap) (locs1 : List Loc), va_P D vwCl V H1 → va_S A0 H0 H1 locs1 → W p l e R s m args below meth co H1 locs1 cells slots Q (F0 m (pc + 3) ls (.int r0 :: rest))) : W p l e R s m args below meth co H locs cells slots Q (F0 m pc ls st0) := by
  have hF := z_F (A0 := A0) (V := []) z_D0 hS hA
  refine va_calli (va_runS (As := As) (rest := rest) S0 hM cw ⟨z_bl, z_pre (A := A0) z_P0 hK z_D0⟩ rfl hn hsize hstack (lv_room hW) hdg hf) hS (fun q _ h => hF q h) hF (fun r u t H1 locs1 ht hvm hw hB hz hk hS1 => ?_)
  obtain ⟨e1, e2⟩ := hw
  rw [e1]
  exact kk H1 locs1 (z_keep0 hP hk) hS1
/-- no world: a static method of a nest mate that answers an int -/
theorem z_cNi {V : va_W} {r0 : Int32} (S0 : CallFix p m co cc nL s args Ts own)
    (hM : Met l y ws rm (z_Pc D c H.size [] As) (z_Qi D (fun _ : Unit => []) r0 () (va_A [] H.size)) 0 0 (va_A [] H.size))
    (cw : va_CN R s args own index y host bytes maxL ret ws rm 0 0 n ∧ (Cond.static y).before args s = true ∧ True) (hP : va_P D vwCl V H) (hK : z_K D c s) (hS : va_S A0 H0 H locs) (hA : ∀ q : Nat, H0.size ≤ q → A0 q)
    (hn : As.length = n) (hsize : ls.size = nL) (hW : (rest.map fun v => v.category).sum ≤ 8) (hstack : st0 = As.reverse ++ rest) (hdg : decode cc pc = .ok (.invokestatic index, 3)) (hf : cells + 0 ≤ R.cells ∧ slots + 0 ≤ R.slots)
    (kk : ∀ (H1 : Heap) (locs1 : List Loc), va_P D vwCl V H1 → va_S A0 H0 H1 locs1 → W p l e R s m args below meth co H1 locs1 cells slots Q (F0 m (pc + 3) ls (.int r0 :: rest))) : W p l e R s m args below meth co H locs cells slots Q (F0 m pc ls st0) := by
  have hF := z_F (A0 := A0) (V := []) z_D0 hS hA
  refine va_calli (va_runSN (As := As) (rest := rest) S0 hM cw ⟨z_bl, z_pre (A := A0) z_P0 hK z_D0⟩ rfl hn hsize hstack (lv_room hW) hdg hf) hS (fun q _ h => hF q h) hF (fun r u t H1 locs1 ht hvm hw hB hz hk hS1 => ?_)
  obtain ⟨e1, e2⟩ := hw
  rw [e1]
  exact kk H1 locs1 (z_keep0 hP hk) hS1
end ZZ
section ZR
variable {p : Program} {l : Launch} {e : Env} {R : Room} {s : State} {m : MethodId} {args : Array Value} {below : List Frame} {meth : Method} {co : Code} {H : Heap} {locs : List Loc}
variable {cc : ByteArray} {pc : Nat} {ls : Array Slot} {D : va_G} {A : Nat → Prop} {S : Type} {wf : S → va_W} {g g0 : S} {r r0 : Int32}
theorem z_ri (hx : p.tables.exec = Jvm.exec) (hb : co.code = cc) (hr : meth.sig.returnType = some .int) (hlocks : meth.locks = false) (hP : va_P D vwCl (wf g) H) (hD : va_D A (wf g)) (hS : va_S A s.heap H locs) (hf : some (r, g) = some (r0, g0)) (hdg : decode cc pc = .ok (.ireturn, 1)) : W p l e R s m args below meth co H locs 0 0 (MQ below (z_Qi D wf r0 g0 A) args s 0 0 A) (F0 m pc ls [.int r]) := by
  cases hf
  exact W.iret (v := r) hx hb hr (fun t ht _ => ⟨⟨r, g, rfl, ⟨rfl, rfl⟩, by rw [ht]; exact hP, hD⟩, hS.F ht⟩) hS.2.2 hdg hlocks
theorem z_rp (hx : p.tables.exec = Jvm.exec) (hb : co.code = cc) (hr : meth.sig.returnType = some .int) (hlocks : meth.locks = false) (hP : va_P D vwCl (wf g) H) (hD : va_D A (wf g)) (hS : va_S A s.heap H locs) (hf : some r = some r0) (hdg : decode cc pc = .ok (.ireturn, 1)) : W p l e R s m args below meth co H locs 0 0 (MQ below (z_Qi D wf r0 g A) args s 0 0 A) (F0 m pc ls [.int r]) := by
  cases hf
  exact W.iret (v := r) hx hb hr (fun t ht _ => ⟨⟨r, g, rfl, ⟨rfl, rfl⟩, by rw [ht]; exact hP, hD⟩, hS.F ht⟩) hS.2.2 hdg hlocks
theorem z_zi (hx : p.tables.exec = Jvm.exec) (hb : co.code = cc) (hr : meth.sig.returnType = some .boolean) (hn : narrow .boolean (.int r) = .int r) (hlocks : meth.locks = false) (hP : va_P D vwCl (wf g) H) (hD : va_D A (wf g)) (hS : va_S A s.heap H locs) (hf : some (r, g) = some (r0, g0)) (hdg : decode cc pc = .ok (.ireturn, 1)) : W p l e R s m args below meth co H locs 0 0 (MQ below (z_Qi D wf r0 g0 A) args s 0 0 A) (F0 m pc ls [.int r]) := by
  cases hf
  exact W.zret (v := r) hx hb hr hn (fun t ht _ => ⟨⟨r, g, rfl, ⟨rfl, rfl⟩, by rw [ht]; exact hP, hD⟩, hS.F ht⟩) hS.2.2 hdg hlocks
theorem z_zp (hx : p.tables.exec = Jvm.exec) (hb : co.code = cc) (hr : meth.sig.returnType = some .boolean) (hn : narrow .boolean (.int r) = .int r) (hlocks : meth.locks = false) (hP : va_P D vwCl (wf g) H) (hD : va_D A (wf g)) (hS : va_S A s.heap H locs) (hf : some r = some r0) (hdg : decode cc pc = .ok (.ireturn, 1)) : W p l e R s m args below meth co H locs 0 0 (MQ below (z_Qi D wf r0 g A) args s 0 0 A) (F0 m pc ls [.int r]) := by
  cases hf
  exact W.zret (v := r) hx hb hr hn (fun t ht _ => ⟨⟨r, g, rfl, ⟨rfl, rfl⟩, by rw [ht]; exact hP, hD⟩, hS.F ht⟩) hS.2.2 hdg hlocks
theorem z_rv (hx : p.tables.exec = Jvm.exec) (hb : co.code = cc) (hr : meth.sig.returnType = none) (hlocks : meth.locks = false) (hP : va_P D vwCl (wf g) H) (hD : va_D A (wf g)) (hS : va_S A s.heap H locs) (hf : some g = some g0) (hdg : decode cc pc = .ok (.return_, 1)) : W p l e R s m args below meth co H locs 0 0 (MQ below (z_Qv D wf g0 A) args s 0 0 A) (F0 m pc ls []) := by
  cases hf
  exact W.vret hx hb hr (fun t ht _ => ⟨⟨g, rfl, rfl, by rw [ht]; exact hP, hD⟩, hS.F ht⟩) hS.2.2 hdg hlocks
end ZR

def z_rr (c : Nat → ClassId) (x y n : Nat) (f h : Nat → Int32) : va_W := [(x, .inl (c 0, n, .inl f)), (y, .inl (c 0, n, .inl h))]
def z_cp (c : Nat → ClassId) (x y n k : Nat) (f h : Nat → Int32) : va_W := [(x, .inl (c 0, n, .inl f)), (y, .inl (c 0, k, .inl h))]
def z_r1 (c : Nat → ClassId) (x n : Nat) (f : Nat → Int32) : va_W := [(x, .inl (c 0, n, .inl f))]
def z_uR (g : z_R) (r : Nat) (u : Nat → Int32) : z_R := fun a => if a = r then u else g a
def z_rw (a : Nat → Nat) (i : Nat) : Option Nat := if i = 0 then none else some (a i)
theorem zF_X2_65 : ((RX2, 65, "ProgramDrum$Jumps", "size", "I", "ProgramDrum") : String × Nat × String × String × String × String) ∈ z_nF := by decide +kernel
theorem zF_X4_114 : ((RX4, 114, "ProgramDrum$Jumps", "size", "I", "ProgramDrum") : String × Nat × String × String × String × String) ∈ z_nF := by decide +kernel
theorem zF_X4_84 : ((RX4, 84, "ProgramDrum$State", "places", "I", "ProgramDrum") : String × Nat × String × String × String × String) ∈ z_nF := by decide +kernel
theorem zF_X4_80 : ((RX4, 80, "ProgramDrum$State", "count", "I", "ProgramDrum") : String × Nat × String × String × String × String) ∈ z_nF := by decide +kernel
theorem zF_X4_87 : ((RX4, 87, "ProgramDrum$State", "tick", "I", "ProgramDrum") : String × Nat × String × String × String × String) ∈ z_nF := by decide +kernel
theorem zF_X4_119 : ((RX4, 119, "ProgramDrum$State", "lastEnd", "I", "ProgramDrum") : String × Nat × String × String × String × String) ∈ z_nF := by decide +kernel
theorem zF_X4_133 : ((RX4, 133, "ProgramDrum$State", "author", "[I", "ProgramDrum") : String × Nat × String × String × String × String) ∈ z_nF := by decide +kernel
theorem zF_X4_136 : ((RX4, 136, "ProgramDrum$State", "work", "[I", "ProgramDrum") : String × Nat × String × String × String × String) ∈ z_nF := by decide +kernel
theorem zF_X4_139 : ((RX4, 139, "ProgramDrum$State", "next", "[I", "ProgramDrum") : String × Nat × String × String × String × String) ∈ z_nF := by decide +kernel
theorem zF_X4_142 : ((RX4, 142, "ProgramDrum$State", "expects", "[I", "ProgramDrum") : String × Nat × String × String × String × String) ∈ z_nF := by decide +kernel
theorem zF_X4_145 : ((RX4, 145, "ProgramDrum$State", "bribe", "[I", "ProgramDrum") : String × Nat × String × String × String × String) ∈ z_nF := by decide +kernel
theorem zF_X4_148 : ((RX4, 148, "ProgramDrum$State", "place", "[I", "ProgramDrum") : String × Nat × String × String × String × String) ∈ z_nF := by decide +kernel
theorem zF_X4_151 : ((RX4, 151, "ProgramDrum$State", "delay", "[I", "ProgramDrum") : String × Nat × String × String × String × String) ∈ z_nF := by decide +kernel
theorem zF_X4_107 : ((RX4, 107, "ProgramDrum$State", "open", "[I", "ProgramDrum") : String × Nat × String × String × String × String) ∈ z_nF := by decide +kernel
theorem zF_X4_154 : ((RX4, 154, "ProgramDrum$State", "lastWait", "[I", "ProgramDrum") : String × Nat × String × String × String × String) ∈ z_nF := by decide +kernel
theorem zF_X4_96 : ((RX4, 96, "ProgramDrum$State", "paid", "[I", "ProgramDrum") : String × Nat × String × String × String × String) ∈ z_nF := by decide +kernel
theorem zF_X4_104 : ((RX4, 104, "ProgramDrum$State", "refunded", "[I", "ProgramDrum") : String × Nat × String × String × String × String) ∈ z_nF := by decide +kernel
theorem zF_X4_110 : ((RX4, 110, "ProgramDrum$State", "jumps", "LProgramDrum$Jumps;", "ProgramDrum") : String × Nat × String × String × String × String) ∈ z_nF := by decide +kernel
theorem zF_X4_245 : ((RX4, 245, "ProgramDrum$Memory", "size", "I", "ProgramDrum") : String × Nat × String × String × String × String) ∈ z_nF := by decide +kernel
theorem zM_X4_9 : ((RX4, 9, yX3_init, "ProgramDrum") : String × Nat × MethodName × String) ∈ z_nM := by decide +kernel
theorem zM_X4_18 : ((RX4, 18, yX2_init, "ProgramDrum") : String × Nat × MethodName × String) ∈ z_nM := by decide +kernel
theorem zM_X2_54 : ((RX2, 54, yX0_init, "ProgramDrum") : String × Nat × MethodName × String) ∈ z_nM := by decide +kernel
theorem zM_X1_17 : ((RX1, 17, yX2_init, "ProgramDrum") : String × Nat × MethodName × String) ∈ z_nM := by decide +kernel
theorem zM_X2_100 : ((RX2, 100, yX4_isAuthor, "ProgramDrum") : String × Nat × MethodName × String) ∈ z_nM := by decide +kernel
theorem z_sw0_2 {x : Int32} (c0 : ¬ x = (0 : Int32)) (c1 : ¬ x = (1 : Int32)) (c2 : ¬ x = (2 : Int32)) : x.toInt < 0 ∨ 2 < x.toInt := by
  have d0 : x.toInt ≠ 0 := fun h => c0 (Int32.toInt_inj.mp h)
  have d1 : x.toInt ≠ 1 := fun h => c1 (Int32.toInt_inj.mp h)
  have d2 : x.toInt ≠ 2 := fun h => c2 (Int32.toInt_inj.mp h)
  omega
theorem z_sw0_4 {x : Int32} (c0 : ¬ x = (0 : Int32)) (c1 : ¬ x = (1 : Int32)) (c2 : ¬ x = (2 : Int32)) (c3 : ¬ x = (3 : Int32)) (c4 : ¬ x = (4 : Int32)) : x.toInt < 0 ∨ 4 < x.toInt := by
  have d0 : x.toInt ≠ 0 := fun h => c0 (Int32.toInt_inj.mp h)
  have d1 : x.toInt ≠ 1 := fun h => c1 (Int32.toInt_inj.mp h)
  have d2 : x.toInt ≠ 2 := fun h => c2 (Int32.toInt_inj.mp h)
  have d3 : x.toInt ≠ 3 := fun h => c3 (Int32.toInt_inj.mp h)
  have d4 : x.toInt ≠ 4 := fun h => c4 (Int32.toInt_inj.mp h)
  omega
theorem z_sw0_6 {x : Int32} (c0 : ¬ x = (0 : Int32)) (c1 : ¬ x = (1 : Int32)) (c2 : ¬ x = (2 : Int32)) (c3 : ¬ x = (3 : Int32)) (c4 : ¬ x = (4 : Int32)) (c5 : ¬ x = (5 : Int32)) (c6 : ¬ x = (6 : Int32)) : x.toInt < 0 ∨ 6 < x.toInt := by
  have d0 : x.toInt ≠ 0 := fun h => c0 (Int32.toInt_inj.mp h)
  have d1 : x.toInt ≠ 1 := fun h => c1 (Int32.toInt_inj.mp h)
  have d2 : x.toInt ≠ 2 := fun h => c2 (Int32.toInt_inj.mp h)
  have d3 : x.toInt ≠ 3 := fun h => c3 (Int32.toInt_inj.mp h)
  have d4 : x.toInt ≠ 4 := fun h => c4 (Int32.toInt_inj.mp h)
  have d5 : x.toInt ≠ 5 := fun h => c5 (Int32.toInt_inj.mp h)
  have d6 : x.toInt ≠ 6 := fun h => c6 (Int32.toInt_inj.mp h)
  omega
theorem z_sw0_8 {x : Int32} (c0 : ¬ x = (0 : Int32)) (c1 : ¬ x = (1 : Int32)) (c2 : ¬ x = (2 : Int32)) (c3 : ¬ x = (3 : Int32)) (c4 : ¬ x = (4 : Int32)) (c5 : ¬ x = (5 : Int32)) (c6 : ¬ x = (6 : Int32)) (c7 : ¬ x = (7 : Int32)) (c8 : ¬ x = (8 : Int32)) : x.toInt < 0 ∨ 8 < x.toInt := by
  have d0 : x.toInt ≠ 0 := fun h => c0 (Int32.toInt_inj.mp h)
  have d1 : x.toInt ≠ 1 := fun h => c1 (Int32.toInt_inj.mp h)
  have d2 : x.toInt ≠ 2 := fun h => c2 (Int32.toInt_inj.mp h)
  have d3 : x.toInt ≠ 3 := fun h => c3 (Int32.toInt_inj.mp h)
  have d4 : x.toInt ≠ 4 := fun h => c4 (Int32.toInt_inj.mp h)
  have d5 : x.toInt ≠ 5 := fun h => c5 (Int32.toInt_inj.mp h)
  have d6 : x.toInt ≠ 6 := fun h => c6 (Int32.toInt_inj.mp h)
  have d7 : x.toInt ≠ 7 := fun h => c7 (Int32.toInt_inj.mp h)
  have d8 : x.toInt ≠ 8 := fun h => c8 (Int32.toInt_inj.mp h)
  omega
theorem z_sw0_9 {x : Int32} (c0 : ¬ x = (0 : Int32)) (c1 : ¬ x = (1 : Int32)) (c2 : ¬ x = (2 : Int32)) (c3 : ¬ x = (3 : Int32)) (c4 : ¬ x = (4 : Int32)) (c5 : ¬ x = (5 : Int32)) (c6 : ¬ x = (6 : Int32)) (c7 : ¬ x = (7 : Int32)) (c8 : ¬ x = (8 : Int32)) (c9 : ¬ x = (9 : Int32)) : x.toInt < 0 ∨ 9 < x.toInt := by
  have d0 : x.toInt ≠ 0 := fun h => c0 (Int32.toInt_inj.mp h)
  have d1 : x.toInt ≠ 1 := fun h => c1 (Int32.toInt_inj.mp h)
  have d2 : x.toInt ≠ 2 := fun h => c2 (Int32.toInt_inj.mp h)
  have d3 : x.toInt ≠ 3 := fun h => c3 (Int32.toInt_inj.mp h)
  have d4 : x.toInt ≠ 4 := fun h => c4 (Int32.toInt_inj.mp h)
  have d5 : x.toInt ≠ 5 := fun h => c5 (Int32.toInt_inj.mp h)
  have d6 : x.toInt ≠ 6 := fun h => c6 (Int32.toInt_inj.mp h)
  have d7 : x.toInt ≠ 7 := fun h => c7 (Int32.toInt_inj.mp h)
  have d8 : x.toInt ≠ 8 := fun h => c8 (Int32.toInt_inj.mp h)
  have d9 : x.toInt ≠ 9 := fun h => c9 (Int32.toInt_inj.mp h)
  omega
theorem z_sw1_9 {x : Int32} (c1 : ¬ x = (1 : Int32)) (c2 : ¬ x = (2 : Int32)) (c3 : ¬ x = (3 : Int32)) (c4 : ¬ x = (4 : Int32)) (c5 : ¬ x = (5 : Int32)) (c6 : ¬ x = (6 : Int32)) (c7 : ¬ x = (7 : Int32)) (c8 : ¬ x = (8 : Int32)) (c9 : ¬ x = (9 : Int32)) : x.toInt < 1 ∨ 9 < x.toInt := by
  have d1 : x.toInt ≠ 1 := fun h => c1 (Int32.toInt_inj.mp h)
  have d2 : x.toInt ≠ 2 := fun h => c2 (Int32.toInt_inj.mp h)
  have d3 : x.toInt ≠ 3 := fun h => c3 (Int32.toInt_inj.mp h)
  have d4 : x.toInt ≠ 4 := fun h => c4 (Int32.toInt_inj.mp h)
  have d5 : x.toInt ≠ 5 := fun h => c5 (Int32.toInt_inj.mp h)
  have d6 : x.toInt ≠ 6 := fun h => c6 (Int32.toInt_inj.mp h)
  have d7 : x.toInt ≠ 7 := fun h => c7 (Int32.toInt_inj.mp h)
  have d8 : x.toInt ≠ 8 := fun h => c8 (Int32.toInt_inj.mp h)
  have d9 : x.toInt ≠ 9 := fun h => c9 (Int32.toInt_inj.mp h)
  omega
theorem z_sw0_27 {x : Int32} (c0 : ¬ x = (0 : Int32)) (c1 : ¬ x = (1 : Int32)) (c2 : ¬ x = (2 : Int32)) (c3 : ¬ x = (3 : Int32)) (c4 : ¬ x = (4 : Int32)) (c5 : ¬ x = (5 : Int32)) (c6 : ¬ x = (6 : Int32)) (c7 : ¬ x = (7 : Int32)) (c8 : ¬ x = (8 : Int32)) (c9 : ¬ x = (9 : Int32)) (c10 : ¬ x = (10 : Int32)) (c11 : ¬ x = (11 : Int32)) (c12 : ¬ x = (12 : Int32)) (c13 : ¬ x = (13 : Int32)) (c14 : ¬ x = (14 : Int32)) (c15 : ¬ x = (15 : Int32)) (c16 : ¬ x = (16 : Int32)) (c17 : ¬ x = (17 : Int32)) (c18 : ¬ x = (18 : Int32)) (c19 : ¬ x = (19 : Int32)) (c20 : ¬ x = (20 : Int32)) (c21 : ¬ x = (21 : Int32)) (c22 : ¬ x = (22 : Int32)) (c23 : ¬ x = (23 : Int32)) (c24 : ¬ x = (24 : Int32)) (c25 : ¬ x = (25 : Int32)) (c26 : ¬ x = (26 : Int32)) (c27 : ¬ x = (27 : Int32)) : x.toInt < 0 ∨ 27 < x.toInt := by
  have d0 : x.toInt ≠ 0 := fun h => c0 (Int32.toInt_inj.mp h)
  have d1 : x.toInt ≠ 1 := fun h => c1 (Int32.toInt_inj.mp h)
  have d2 : x.toInt ≠ 2 := fun h => c2 (Int32.toInt_inj.mp h)
  have d3 : x.toInt ≠ 3 := fun h => c3 (Int32.toInt_inj.mp h)
  have d4 : x.toInt ≠ 4 := fun h => c4 (Int32.toInt_inj.mp h)
  have d5 : x.toInt ≠ 5 := fun h => c5 (Int32.toInt_inj.mp h)
  have d6 : x.toInt ≠ 6 := fun h => c6 (Int32.toInt_inj.mp h)
  have d7 : x.toInt ≠ 7 := fun h => c7 (Int32.toInt_inj.mp h)
  have d8 : x.toInt ≠ 8 := fun h => c8 (Int32.toInt_inj.mp h)
  have d9 : x.toInt ≠ 9 := fun h => c9 (Int32.toInt_inj.mp h)
  have d10 : x.toInt ≠ 10 := fun h => c10 (Int32.toInt_inj.mp h)
  have d11 : x.toInt ≠ 11 := fun h => c11 (Int32.toInt_inj.mp h)
  have d12 : x.toInt ≠ 12 := fun h => c12 (Int32.toInt_inj.mp h)
  have d13 : x.toInt ≠ 13 := fun h => c13 (Int32.toInt_inj.mp h)
  have d14 : x.toInt ≠ 14 := fun h => c14 (Int32.toInt_inj.mp h)
  have d15 : x.toInt ≠ 15 := fun h => c15 (Int32.toInt_inj.mp h)
  have d16 : x.toInt ≠ 16 := fun h => c16 (Int32.toInt_inj.mp h)
  have d17 : x.toInt ≠ 17 := fun h => c17 (Int32.toInt_inj.mp h)
  have d18 : x.toInt ≠ 18 := fun h => c18 (Int32.toInt_inj.mp h)
  have d19 : x.toInt ≠ 19 := fun h => c19 (Int32.toInt_inj.mp h)
  have d20 : x.toInt ≠ 20 := fun h => c20 (Int32.toInt_inj.mp h)
  have d21 : x.toInt ≠ 21 := fun h => c21 (Int32.toInt_inj.mp h)
  have d22 : x.toInt ≠ 22 := fun h => c22 (Int32.toInt_inj.mp h)
  have d23 : x.toInt ≠ 23 := fun h => c23 (Int32.toInt_inj.mp h)
  have d24 : x.toInt ≠ 24 := fun h => c24 (Int32.toInt_inj.mp h)
  have d25 : x.toInt ≠ 25 := fun h => c25 (Int32.toInt_inj.mp h)
  have d26 : x.toInt ≠ 26 := fun h => c26 (Int32.toInt_inj.mp h)
  have d27 : x.toInt ≠ 27 := fun h => c27 (Int32.toInt_inj.mp h)
  omega
theorem z_fm {α β : Type} {f : α → Option β} : ∀ {is : List α} {w : List β}, is.map f = w.map some → is.filterMap f = w
  | [], [], _ => rfl
  | [], b :: w, h => by simp at h
  | a :: is, [], h => by simp at h
  | a :: is, b :: w, h => by
    rw [List.map_cons, List.map_cons] at h
    injection h with h1 h2
    rw [List.filterMap_cons, h1, z_fm h2]
abbrev z_Qq (D : va_G) (a : Nat → Nat) {S : Type} (wf : S → va_W) (r0 : Nat) (g0 : S) (A : Nat → Prop) : Array Value → State → Outcome → State → Prop := va_Qq (fun r u => r = z_rw a r0 ∧ u = g0) (z_B D wf A) A
section ZC
variable {p : Program} {l : Launch} {e : Env} {R : Room} {s : State} {m : MethodId} {args : Array Value} {below : List Frame} {meth : Method} {co : Code} {H : Heap} {locs : List Loc} {cells slots : Nat} {Q : State → Prop}
variable {cc bytes : ByteArray} {pc nL maxL n index : Nat} {ls : Array Slot} {own C host : String} {y : MethodName} {ret : Option FieldType} {Ts ws : List Cond} {rm : Room} {As rest st0 : List Value} {b : Nat} {D : va_G} {c : Nat → ClassId} {A0 : Nat → Prop} {H0 : Heap}
theorem z_cVq {a : Nat → Nat} {S : Type} {wf : S → va_W} {g u0 : S} {r0 : Nat} (S0 : CallFix p m co cc nL s args Ts own)
    (hM : Met l y ws rm (z_Pc D c H.size (wf g) (.ref b :: As)) (z_Qq D a wf r0 u0 (va_A (wf g) H.size)) 0 0 (va_A (wf g) H.size))
    (cw : CallW R s args own C index y bytes maxL ret ws rm 0 0 n) (hP : va_P D vwCl (wf g) H) (hK : z_K D c s) (hD : va_D A0 (wf g)) (hS : va_S A0 H0 H locs) (hA : ∀ q : Nat, H0.size ≤ q → A0 q)
    {ci q0 : Nat} {q : vw_C} {fs : List Value} (hc : vwCl[ci]? = some q) (he : (wf g)[q0]? = some (b, .inr (ci, fs))) (hq : q.1 = C) (hn : As.length = n) (hsize : ls.size = nL) (hW : (rest.map fun v => v.category).sum ≤ 8) (hstack : st0 = As.reverse ++ .ref b :: rest) (hdg : decode cc pc = .ok (.invokevirtual index, 3)) (hf : cells + 0 ≤ R.cells ∧ slots + 0 ≤ R.slots)
    (kk : ∀ (H1 : Heap) (locs1 : List Loc), va_P D vwCl (wf u0) H1 → va_D A0 (wf u0) → va_S A0 H0 H1 locs1 → W p l e R s m args below meth co H1 locs1 cells slots Q (F0 m (pc + 3) ls (va_rf (z_rw a r0) :: rest))) : W p l e R s m args below meth co H locs cells slots Q (F0 m pc ls st0) := by
  have hF := z_F hD hS hA
  subst hq
  refine va_callq (va_runV (As := As) (rest := rest) S0 hM cw ⟨z_bl, va_recv hK.1 hP hc he, z_pre hP hK hD⟩ rfl hn hsize hstack (lv_room hW) hdg hf) hS (fun q _ h => hF q h) hF (fun r u t H1 locs1 ht hvm hw hB hz hk hS1 => ?_)
  obtain ⟨e1, e2⟩ := hw
  obtain ⟨hP1, hD1⟩ := hB
  rw [e2, ht] at hP1
  rw [e2] at hD1
  rw [e1]
  exact kk H1 locs1 hP1 (hD1.weaken (fun _ q _ h => hF q.1 h)) hS1
/-- a part of the world: a static method of its own class that answers nothing -/
theorem z_cSvC {V V' : va_W} {S : Type} {wf : S → va_W} {g u0 : S} (S0 : CallFix p m co cc nL s args Ts own)
    (hM : Met l y ws rm (z_Pc D c H.size (wf g) As) (z_Qv D wf u0 (va_A (wf g) H.size)) 0 0 (va_A (wf g) H.size))
    (cw : CallB R s args own index y bytes maxL ret ws rm 0 0 n ∧ (Cond.static y).before args s = true) (hP : va_P D vwCl V H) (hK : z_K D c s) (hD : va_D A0 V) (hS : va_S A0 H0 H locs) (hA : ∀ q : Nat, H0.size ≤ q → A0 q)
    (isC isR pm : List Nat) (hC : isC.map (fun i => V[i]?) = (wf g).map some) (hR : isR.map (fun i => V[i]?) = (isR.filterMap (fun i => V[i]?)).map some) (hnC : va_nd isC = true) (hnR : va_nd isR = true) (hdis : ∀ i ∈ isR, i ∉ isC) (hpm : va_nd pm = true)
    (hn : As.length = n) (hsize : ls.size = nL) (hW : (rest.map fun v => v.category).sum ≤ 8) (hstack : st0 = As.reverse ++ rest) (hdg : decode cc pc = .ok (.invokestatic index, 3)) (hf : cells + 0 ≤ R.cells ∧ slots + 0 ≤ R.slots)
    (hV : pm.map (fun i => (isR.filterMap (fun i => V[i]?) ++ wf u0)[i]?) = V'.map some)
    (kk : ∀ (H1 : Heap) (locs1 : List Loc), va_P D vwCl V' H1 → va_D A0 V' → va_S A0 H0 H1 locs1 → W p l e R s m args below meth co H1 locs1 cells slots Q (F0 m (pc + 3) ls rest)) : W p l e R s m args below meth co H locs cells slots Q (F0 m pc ls st0) := by
  have hPc := hP.sub (ws' := wf g) isC (z_fm hC)
  have hDc := hD.sub (ws' := wf g) isC hnC hC
  have hF := va_free (wc := wf g) hD hS hA isC hC
  refine va_callv (va_runS (As := As) (rest := rest) S0 hM cw ⟨z_bl, z_pre hPc hK hDc⟩ rfl hn hsize hstack (lv_room hW) hdg hf) hS (fun q _ h => hF q h) hF (fun u t H1 locs1 ht hvm hw hB hz hk hS1 => ?_)
  obtain ⟨hP1, hD1⟩ := hB
  rw [hw, ht] at hP1
  rw [hw] at hD1
  obtain ⟨hP2, hD2⟩ := va_join hP hD isC isR hC hR hnR hdis hk hF hP1 hD1
  exact kk H1 locs1 (hP2.sub pm (z_fm hV)) (hD2.sub pm hpm hV) hS1
end ZC
section ZA
variable {p : Program} {l : Launch} {e : Env} {R : Room} {s : State} {m : MethodId} {args : Array Value} {below : List Frame} {meth : Method} {co : Code} {H : Heap} {locs : List Loc}
variable {cc : ByteArray} {pc : Nat} {ls : Array Slot} {D : va_G} {A : Nat → Prop} {S : Type} {wf : S → va_W} {g g0 : S} {a : Nat → Nat} {i r0 : Nat} {rt : FieldType}
theorem z_ra (hx : p.tables.exec = Jvm.exec) (hb : co.code = cc) (hr : meth.sig.returnType = some rt) (hrt : (∃ n, rt = .object n) ∨ ∃ t, rt = .array t) (hv : va_rf (z_rw a i) = .null ∨ ∃ x, va_rf (z_rw a i) = .ref x) (hlocks : meth.locks = false) (hP : va_P D vwCl (wf g) H) (hD : va_D A (wf g)) (hS : va_S A s.heap H locs) (hf : some i = some r0) (hdg : decode cc pc = .ok (.areturn, 1)) : W p l e R s m args below meth co H locs 0 0 (MQ below (z_Qq D a wf r0 g A) args s 0 0 A) (F0 m pc ls [va_rf (z_rw a i)]) := by
  cases hf
  exact W.aret (v := va_rf (z_rw a i)) hx hb hr hrt hv (fun t ht _ => ⟨⟨z_rw a i, g, rfl, ⟨rfl, rfl⟩, by rw [ht]; exact hP, hD⟩, hS.F ht⟩) hS.2.2 hdg hlocks
end ZA
section ZL
variable {p : Program} {l : Launch} {e : Env} {R : Room} {s : State} {m : MethodId} {args : Array Value} {below : List Frame} {meth : Method} {co : Code} {H : Heap} {locs : List Loc} {cells slots : Nat} {Q : State → Prop}
variable {cc bytes : ByteArray} {pc nL maxL n index : Nat} {ls : Array Slot} {own C host : String} {y : MethodName} {ret : Option FieldType} {Ts ws : List Cond} {rm : Room} {As rest st0 : List Value} {b : Nat} {D : va_G} {c : Nat → ClassId} {A A0 : Nat → Prop} {H0 : Heap}
/-- an answer that is a long -/
abbrev z_Ql (D : va_G) {S : Type} (wf : S → va_W) (r0 : Int64) (g0 : S) (A : Nat → Prop) : Array Value → State → Outcome → State → Prop := va_Ql (fun r u => r = r0 ∧ u = g0) (z_B D wf A) A
theorem z_cSl {V : va_W} {r0 : Int64} (S0 : CallFix p m co cc nL s args Ts own)
    (hM : Met l y ws rm (z_Pc D c H.size [] As) (z_Ql D (fun _ : Unit => []) r0 () (va_A [] H.size)) 0 0 (va_A [] H.size))
    (cw : CallB R s args own index y bytes maxL ret ws rm 0 0 n ∧ (Cond.static y).before args s = true) (hP : va_P D vwCl V H) (hK : z_K D c s) (hS : va_S A0 H0 H locs) (hA : ∀ q : Nat, H0.size ≤ q → A0 q)
    (hn : As.length = n) (hsize : ls.size = nL) (hW : (rest.map fun v => v.category).sum ≤ 8) (hstack : st0 = As.reverse ++ rest) (hdg : decode cc pc = .ok (.invokestatic index, 3)) (hf : cells + 0 ≤ R.cells ∧ slots + 0 ≤ R.slots)
    (kk : ∀ (H1 : Heap) (locs1 : List Loc), va_P D vwCl V H1 → va_S A0 H0 H1 locs1 → W p l e R s m args below meth co H1 locs1 cells slots Q (F0 m (pc + 3) ls (.long r0 :: rest))) : W p l e R s m args below meth co H locs cells slots Q (F0 m pc ls st0) := by
  have hF := z_F (A0 := A0) (V := []) z_D0 hS hA
  refine va_calll (va_runS (As := As) (rest := rest) S0 hM cw ⟨z_bl, z_pre (A := A0) z_P0 hK z_D0⟩ rfl hn hsize hstack (lv_room hW) hdg hf) hS (fun q _ h => hF q h) hF (fun r u t H1 locs1 ht hvm hw hB hz hk hS1 => ?_)
  obtain ⟨e1, e2⟩ := hw
  rw [e1]
  exact kk H1 locs1 (z_keep0 hP hk) hS1
theorem z_lp {S : Type} {wf : S → va_W} {g : S} {r r0 : Int64} (hx : p.tables.exec = Jvm.exec) (hb : co.code = cc) (hr : meth.sig.returnType = some .long) (hlocks : meth.locks = false) (hP : va_P D vwCl (wf g) H) (hD : va_D A (wf g)) (hS : va_S A s.heap H locs) (hf : some r = some r0) (hdg : decode cc pc = .ok (.lreturn, 1)) : W p l e R s m args below meth co H locs 0 0 (MQ below (z_Ql D wf r0 g A) args s 0 0 A) (F0 m pc ls [.long r]) := by
  cases hf
  exact W.lret (v := r) hx hb hr (fun t ht _ => ⟨⟨r, g, rfl, ⟨rfl, rfl⟩, by rw [ht]; exact hP, hD⟩, hS.F ht⟩) hS.2.2 hdg hlocks
end ZL

