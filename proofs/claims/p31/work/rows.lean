section
-- ===== PART A: goes FIRST, ahead of the names: the tables' words, and 'selects' of the private methods out of them =====
/-- a private method of a class that the tables say can be made, by its rows of tables_1 -/
def lw_okq (q : MethodName × Nat) : Prop := (q.1.cls ≠ "java/lang/invoke/MethodHandle" ∧ q.1.cls ≠ "java/lang/invoke/VarHandle") ∧ Cond.instantiable q.1.cls q.2 ∈ tables_1 ∧ Cond.privateMethod q.1 ∈ tables_1 ∧ Cond.instanceMethod q.1 ∈ tables_1
theorem lw_p0 : lw_okq (⟨"java/lang/Throwable", "fillInStackTrace", "(I)Ljava/lang/Throwable;"⟩, 6) := ⟨⟨by decide +kernel, by decide +kernel⟩, List.mem_of_getElem? (i := 210) (by decide +kernel), List.mem_of_getElem? (i := 208) (by decide +kernel), List.mem_of_getElem? (i := 209) (by decide +kernel)⟩
theorem lw_p1 : lw_okq (⟨"ProgramDrum$State", "refund", "(I)I"⟩, 16) := ⟨⟨by decide +kernel, by decide +kernel⟩, List.mem_of_getElem? (i := 35) (by decide +kernel), List.mem_of_getElem? (i := 267) (by decide +kernel), List.mem_of_getElem? (i := 268) (by decide +kernel)⟩
theorem lw_p2 : lw_okq (⟨"ProgramDrum$State", "changeableRow", "(I)[I"⟩, 16) := ⟨⟨by decide +kernel, by decide +kernel⟩, List.mem_of_getElem? (i := 35) (by decide +kernel), List.mem_of_getElem? (i := 338) (by decide +kernel), List.mem_of_getElem? (i := 339) (by decide +kernel)⟩
theorem lw_p3 : lw_okq (⟨"ProgramDrum$State", "laidBehind", "(I)I"⟩, 16) := ⟨⟨by decide +kernel, by decide +kernel⟩, List.mem_of_getElem? (i := 35) (by decide +kernel), List.mem_of_getElem? (i := 351) (by decide +kernel), List.mem_of_getElem? (i := 352) (by decide +kernel)⟩
theorem lw_p4 : lw_okq (⟨"ProgramDrum$State", "layOne", "(I)V"⟩, 16) := ⟨⟨by decide +kernel, by decide +kernel⟩, List.mem_of_getElem? (i := 35) (by decide +kernel), List.mem_of_getElem? (i := 355) (by decide +kernel), List.mem_of_getElem? (i := 356) (by decide +kernel)⟩
theorem lw_p5 : lw_okq (⟨"ProgramDrum$State", "wantedPlace", "(I)I"⟩, 16) := ⟨⟨by decide +kernel, by decide +kernel⟩, List.mem_of_getElem? (i := 35) (by decide +kernel), List.mem_of_getElem? (i := 359) (by decide +kernel), List.mem_of_getElem? (i := 360) (by decide +kernel)⟩
theorem lw_p6 : lw_okq (⟨"ProgramDrum$State", "read", "(IZ)V"⟩, 16) := ⟨⟨by decide +kernel, by decide +kernel⟩, List.mem_of_getElem? (i := 35) (by decide +kernel), List.mem_of_getElem? (i := 386) (by decide +kernel), List.mem_of_getElem? (i := 387) (by decide +kernel)⟩
theorem lw_p7 : lw_okq (⟨"ProgramDrum", "ticksOfRun", "(LProgramDrum$State;I)I"⟩, 7) := ⟨⟨by decide +kernel, by decide +kernel⟩, List.mem_of_getElem? (i := 14) (by decide +kernel), List.mem_of_getElem? (i := 510) (by decide +kernel), List.mem_of_getElem? (i := 511) (by decide +kernel)⟩
def lw_privs_1 : List (MethodName × Nat) := [(⟨"java/lang/Throwable", "fillInStackTrace", "(I)Ljava/lang/Throwable;"⟩, 6), (⟨"ProgramDrum$State", "refund", "(I)I"⟩, 16), (⟨"ProgramDrum$State", "changeableRow", "(I)[I"⟩, 16), (⟨"ProgramDrum$State", "laidBehind", "(I)I"⟩, 16), (⟨"ProgramDrum$State", "layOne", "(I)V"⟩, 16), (⟨"ProgramDrum$State", "wantedPlace", "(I)I"⟩, 16), (⟨"ProgramDrum$State", "read", "(IZ)V"⟩, 16), (⟨"ProgramDrum", "ticksOfRun", "(LProgramDrum$State;I)I"⟩, 7)]
theorem lw_r1 : ∀ q ∈ lw_privs_1, lw_okq q := List.forall_mem_cons.mpr ⟨lw_p0, List.forall_mem_cons.mpr ⟨lw_p1, List.forall_mem_cons.mpr ⟨lw_p2, List.forall_mem_cons.mpr ⟨lw_p3, List.forall_mem_cons.mpr ⟨lw_p4, List.forall_mem_cons.mpr ⟨lw_p5, List.forall_mem_cons.mpr ⟨lw_p6, List.forall_mem_cons.mpr ⟨lw_p7, fun _ h => absurd h List.not_mem_nil⟩⟩⟩⟩⟩⟩⟩⟩
def lw_privs : List (MethodName × Nat) := lw_privs_1
def lw_tbl : List Cond := k2_sels lw_privs ++ tables_1
theorem lw_privs_ok : ∀ q ∈ lw_privs, lw_okq q := lw_r1
end
section
/-! ===== BEGIN words of one list among another's, by their places ===== -/
theorem goodIn_r {big : List Cond} (ws : List Cond) (ps : List Nat) (hp : ws = ps.filterMap (fun i => big[i]?)) (h : ws.all goodWord = true) : GoodIn big ws := by
  intro w hw
  have h1 := List.all_eq_true.mp h w hw
  rw [hp] at hw
  obtain ⟨i, -, hi⟩ := List.mem_filterMap.mp hw
  have hm : w ∈ big := by first | exact List.mem_of_getElem? hi | exact List.getElem?_mem hi
  exact ⟨hm, good_of_word h1⟩
theorem goodIn_app {big a b : List Cond} (ha : GoodIn big a) (hb : GoodIn big b) : GoodIn big (a ++ b) := fun w h => (List.mem_append.mp h).elim (ha w) (hb w)
theorem goodIn_ca {big a b : List Cond} {c : Cond} (ha : GoodIn big (c :: a)) (hb : GoodIn big b) : GoodIn big (c :: (a ++ b)) := fun w h => (List.mem_cons.mp h).elim (fun e => ha w (List.mem_cons.mpr (Or.inl e))) (fun h => (List.mem_append.mp h).elim (fun h => ha w (List.mem_cons.mpr (Or.inr h))) (hb w))
theorem goodIn_sub {big ws : List Cond} (hm : ∀ w ∈ ws, w ∈ big) (h : ws.all goodWord = true) : GoodIn big ws := fun w hw => ⟨hm w hw, good_of_word (List.all_eq_true.mp h w hw)⟩
/-! ===== END ===== -/

/-! ===== BEGIN exceptions that leave a method, and their catching by the caller (launches without stack traces) ===== -/
section VXA
/-! The laws vx_back, vx_callV, vx_callS, vx_callSW, vx_throw0, vx_throwS follow proofs of the library, with one case more: JvmDerived/Free/Laws.lean (Back.of_free), Shelf42/LK1.lean (callV, callS), Shelf/KitTraced.lean (throwNew0V, throwNewS). -/
/-- where a method has thrown q: the class by its name, the cell, what was written, the world -/
def vx_T (XC : String → State → State → Prop) (st : State) (q : Addr) (t : State) (mc ms : Nat) (free : Addr → Prop) : Prop :=
  ∃ (E : String) (ce : Cell) (L : List Loc), XC E st t ∧ t.heap[q]? = some ce ∧ ce.vm = .none ∧ st.vm.findClass E = some ce.cls ∧ st.WarmedH t.vm ∧ st.sameButNew ({ t with vm := st.vm } : State) L mc ms ∧ ∀ z ∈ L, free z.base
def vx_Q (Qc : Array Value → State → Outcome → State → Prop) (XC : String → State → State → Prop) (mc ms : Nat) (free : Addr → Prop) : Array Value → State → Outcome → State → Prop := fun a st o t =>
  (Qc a st o t ∧ ∃ L, FrameEnd st o t L mc ms ∧ ∀ q ∈ L, free q.base) ∨ ∃ q, o = .threw q ∧ vx_T XC st q t mc ms free
/-- a callee that returns or throws -/
def vx_Met (l : Launch) (y : MethodName) (ws : List Cond) (rm : Room) (Pc : Array Value → State → Prop) (Qc : Array Value → State → Outcome → State → Prop) (XC : String → State → State → Prop) (mc ms : Nat) (free : Addr → Prop) : Prop :=
  MetFree l y (headSpec ws rm) Pc (fun _ _ _ _ _ => True) (vx_Q Qc XC mc ms free)
def vx_Post (XC : String → State → State → Prop) (mc ms : Nat) (free : Addr → Prop) : Pt → Array Value → Addr → Pt → Prop := fun A a q B =>
  ∃ (g : JFrame) (mk : MethodId) (t : State) (L : List Loc) (E : String) (ce : Cell), B.U.heap = t.heap ∧ B.U.vm = t.vm ∧ XC E (A.U.calling g mk a) t ∧ t.heap[q]? = some ce ∧ ce.vm = .none ∧ A.U.vm.findClass E = some ce.cls ∧ B.locs = A.locs ++ L ∧ (∀ z ∈ L, free z.base) ∧ B.cells = A.cells + mc ∧ B.slots = A.slots + ms
def vx_Back (l : Launch) (R : Room) (p : Program) (e : Env) (below : List Frame) (s : State) (sargs : Array Value) (y : MethodName) (len W9 : Nat)
    (Pre : Pt → Array Value → Prop) (Post : Pt → Array Value → Option Value → Pt → Prop) (PostX : Pt → Array Value → Addr → Pt → Prop) : Prop :=
  ∀ (m : MethodId) (meth : Method) (c : Code) (A : Pt) (g : JFrame) (ig : Instr) (mk : MethodId) (a : Array Value),
    Stand p l e R s m sargs below meth c A.U A.locs A.cells A.slots → g.method = m → g.locals.size = c.maxLocals → decode c.code g.pc = .ok (ig, len) →
    2 * g.monitorRoom + (g.stack.map fun v => v.category).sum ≤ W9 → A.U.methodNamed? y = some mk → Pre A a →
    (∃ (v : Option Value) (B : Pt), Stand p l e R s m sargs below meth c B.U B.locs B.cells B.slots ∧ Post A a v B ∧
      Steps p.tables e below (doInvoke e (A.U.setTop g) [] mk a).1 (B.U.setTop { g with pc := g.pc + len, stack := v.toList ++ g.stack })) ∨
    (∃ (q : Addr) (B : Pt), Stand p l e R s m sargs below meth c B.U B.locs B.cells B.slots ∧ PostX A a q B ∧
      Steps p.tables e below (doInvoke e (A.U.setTop g) [] mk a).1 ((B.U.setTop g).pushFrame (.throwing q)))
section Payer
variable {l : Launch} {R : Room} {p : Program} {e : Env} {below : List Frame} {s : State} {sargs : Array Value} {y : MethodName} {len W9 : Nat}
theorem vx_back {ws : List Cond} {rm : Room} {Pc : Array Value → State → Prop} {Qc : Array Value → State → Outcome → State → Prop} {XC : String → State → State → Prop} {mc ms : Nat} {free : Addr → Prop} {bytes : ByteArray} {maxL : Nat} {ret : Option FieldType}
    (hM : vx_Met l y ws rm Pc Qc XC mc ms free) (hblind : FrameBlind Pc) (hrc : rm.cells = mc) (hrs : rm.slots = ms)
    (hframes : rm.frames + 1 ≤ R.frames) (hlocals : W9 + (maxL + 11) + rm.locals ≤ R.locals)
    (hws : ∀ w ∈ ws, ∀ a' U, s.WarmedH U.vm → w.before a' U = true) (hcode : Cond.code y bytes maxL ret ∈ ws) (hinit : ∀ a' U, s.WarmedH U.vm → (Cond.initialized y.cls).before a' U = true) :
    vx_Back l R p e below s sargs y len W9 (PreOf R mc ms Pc) (PostOf Qc mc ms free) (vx_Post XC mc ms free) := by
  intro m meth c A g ig mk a X hg hsize hdg hW hn hp
  have h1 : (headSpec ws rm).pre.before a A.U = true := atoms_intro fun w hw => hws w hw _ _ X.warmed
  have h2 : (Cond.code y bytes maxL ret).before a A.U = true := hws _ hcode _ _ X.warmed
  have h3 : (Cond.initialized y.cls).before a A.U = true := hinit _ _ X.warmed
  have h4 : A.cells + (headSpec ws rm).room.cells ≤ R.cells := by rw [show (headSpec ws rm).room.cells = mc from hrc]; exact hp.1
  have h5 : A.slots + (headSpec ws rm).room.slots ≤ R.slots := by rw [show (headSpec ws rm).room.slots = ms from hrs]; exact hp.2.1
  have hPc : Pc a (A.U.calling g mk a) := hblind _ _ _ _ hp.2.2
  obtain ⟨U, Ls, c0, s0⟩ := A
  dsimp only [Pt.U, Pt.locs, Pt.cells, Pt.slots] at h1 h2 h3 h4 h5 X hn hPc ⊢
  obtain ⟨methY, cY, hmY, hcY, -, hlY, -, -, -, -⟩ := Cond.code_spec hn h2
  obtain ⟨kY, hkY, -⟩ := className_of_methodNamed hn
  have hinitY : kY.init = .initialized := Cond.initialized_spec (findClass_of_methodNamed hn) hkY h3
  have h : At U g.method c below := by rw [hg]; exact X.here
  have hlocals9 : W9 + (maxL + 11) + (headSpec ws rm).room.locals ≤ R.locals := hlocals
  have happ : (headSpec ws rm).appliesLoose y e.platform (U.calling g mk a) = true :=
    Spec.appliesLoose_calling (g := g) h hdg hn hkY hinitY
      (X.room_calling (g := g) (R' := (headSpec ws rm).room) hsize hmY hcY hframes (by rw [hlY]; omega) h4 h5) h1
  obtain ⟨mid, hmid⟩ := h.above
  have hfr : (U.setTop g).frames = (.java g :: mid) ++ below := by rw [State.frames_setTop' g h.top, hmid]; rfl
  obtain ⟨o, s₂, hsteps, -, hend, hq⟩ := Steps.callFree hM p X.admits X.cas X.clock (acts := []) hfr happ hPc trivial
  have hq' : vx_Q Qc XC mc ms free a (U.calling g mk a) o s₂ := hq
  rw [State.frames_setTop' g h.top] at hend
  obtain ⟨g₀, hg0⟩ := Option.isSome_iff_exists.mp h.top
  obtain ⟨r, hr⟩ := State.topJava?_eq_some.mp hg0
  have hr' : (({ U with heap := s₂.heap, slotsUsed := s₂.slotsUsed } : State).setVm s₂.vm).frames = .java g₀ :: r := hr
  rcases hq' with ⟨hqc, L, hfe, hL⟩ | ⟨q, rfl, E, ce, L, hx, hce, hcv, hcl, hW₂, hsm, hL⟩
  · obtain ⟨⟨v, rfl⟩, hW₂, e2, q2, q3, q4, q5, q6⟩ := id hfe
    have e3 : s₂ = ({ (U.calling g mk a).setFrames s₂.frames with heap := s₂.heap, slotsUsed := s₂.slotsUsed } : State).setVm s₂.vm := by
      have : s₂ = ({ s₂ with vm := (U.calling g mk a).vm } : State).setVm s₂.vm := rfl
      rw [e2] at this
      exact this
    obtain ⟨c₂, i₂, len₂, hc₂, hd₂, hf₂⟩ := hend
    have hW' : U.WarmedH s₂.vm := hW₂
    have hcc : c₂ = c := by
      have h1 : s₂.code? g.method = U.code? g.method := by
        rw [State.code?_eq, State.code?_eq, hW'.alike.method?]
      exact Option.some.inj (hc₂.symm.trans (h1.trans h.code))
    subst hcc
    have hlen : len₂ = len := by rw [hdg] at hd₂; cases hd₂; rfl
    subst hlen
    have hs₂ : s₂ = (({ U with heap := s₂.heap, slotsUsed := s₂.slotsUsed } : State).setVm s₂.vm).setTop { g with pc := g.pc + len₂, stack := v.toList ++ g.stack } := by
      refine e3.trans ?_
      rw [hf₂, State.calling_eq h.top, State.setFrames_setFrames, State.setTop_of_frames _ hr', hr]
      rfl
    have hsame : U.sameButNew ({ U with heap := s₂.heap, slotsUsed := s₂.slotsUsed } : State) L mc ms := by
      refine ⟨?_, q2, q3, q4, q5, q6⟩
      obtain ⟨t, ht, -⟩ := State.frames_cons hr
      show ({ U with heap := s₂.heap, slotsUsed := s₂.slotsUsed } : State) = { U.setFrames U.frames with heap := s₂.heap, slotsUsed := s₂.slotsUsed }
      rw [State.setFrames_self ht]
    subst hg
    refine Or.inl ⟨v, ⟨(({ U with heap := s₂.heap, slotsUsed := s₂.slotsUsed } : State).setVm s₂.vm), Ls ++ L, c0 + mc, s0 + ms⟩,
      ⟨X.admits, X.cas, X.clock, X.frames, X.room, X.hears, X.method, X.code, (X.here.setHeapUsed s₂.heap s₂.slotsUsed).setVm hW'.alike, X.tail, State.WarmedH.trans X.warmed hW', X.limits, X.bytes, X.same.trans (hsame.setVm s.vm)⟩,
      ⟨g, mk, s₂, L, rfl, rfl, hqc, rfl, hL, rfl, rfl⟩, ?_⟩
    show Steps p.tables e below _ ((({ U with heap := s₂.heap, slotsUsed := s₂.slotsUsed } : State).setVm s₂.vm).setTop { g with pc := g.pc + len₂, stack := v.toList ++ g.stack })
    rw [← hs₂]
    exact hsteps
  · obtain ⟨e2, q2, q3, q4, q5, q6⟩ := id hsm
    have e3 : s₂ = ({ (U.calling g mk a).setFrames s₂.frames with heap := s₂.heap, slotsUsed := s₂.slotsUsed } : State).setVm s₂.vm := by
      have : s₂ = ({ s₂ with vm := (U.calling g mk a).vm } : State).setVm s₂.vm := rfl
      rw [e2] at this
      exact this
    have hf₂ : s₂.frames = .throwing q :: .java g :: U.frames.tail := hend
    have hW' : U.WarmedH s₂.vm := hW₂
    have hs₂ : s₂ = ((({ U with heap := s₂.heap, slotsUsed := s₂.slotsUsed } : State).setVm s₂.vm).setTop g).pushFrame (.throwing q) := by
      refine e3.trans ?_
      rw [hf₂, State.calling_eq h.top, State.setFrames_setFrames, State.pushFrame, State.frames_setTop _ hr', State.setTop_of_frames _ hr', State.setFrames_setFrames, hr]
      rfl
    have hsame : U.sameButNew ({ U with heap := s₂.heap, slotsUsed := s₂.slotsUsed } : State) L mc ms := by
      refine ⟨?_, q2, q3, q4, q5, q6⟩
      obtain ⟨t, ht, -⟩ := State.frames_cons hr
      show ({ U with heap := s₂.heap, slotsUsed := s₂.slotsUsed } : State) = { U.setFrames U.frames with heap := s₂.heap, slotsUsed := s₂.slotsUsed }
      rw [State.setFrames_self ht]
    subst hg
    refine Or.inr ⟨q, ⟨(({ U with heap := s₂.heap, slotsUsed := s₂.slotsUsed } : State).setVm s₂.vm), Ls ++ L, c0 + mc, s0 + ms⟩,
      ⟨X.admits, X.cas, X.clock, X.frames, X.room, X.hears, X.method, X.code, (X.here.setHeapUsed s₂.heap s₂.slotsUsed).setVm hW'.alike, X.tail, State.WarmedH.trans X.warmed hW', X.limits, X.bytes, X.same.trans (hsame.setVm s.vm)⟩,
      ⟨g, mk, s₂, L, E, ce, rfl, rfl, hx, hce, hcv, hcl, rfl, hL, rfl, rfl⟩, ?_⟩
    show Steps p.tables e below _ (((({ U with heap := s₂.heap, slotsUsed := s₂.slotsUsed } : State).setVm s₂.vm).setTop g).pushFrame (.throwing q))
    rw [← hs₂]
    exact hsteps
end Payer
section Calls
variable {p : Program} {l : Launch} {e : Env} {R : Room} {s : State} {m : MethodId} {args : Array Value} {below : List Frame} {meth : Method} {c : Code} {T : State} {locs : List Loc} {cells slots : Nat}
theorem vx_callV (X : Stand p l e R s m args below meth c T locs cells slots) (hexec : p.tables.exec = Jvm.exec) {own C : String} {index : Nat} {y : MethodName} {bytes : ByteArray} {maxL : Nat} {ret : Option FieldType}
    (hown : s.vm.findClass own = some m.cls) (hlink : (Cond.methodLink own index y).before args s = true) (hinst : (Cond.instanceMethod y).before args s = true) (hsel : (Cond.selects C y y).before args s = true)
    (hcode : (Cond.code y bytes maxL ret).before args s = true) (hy : y.cls ≠ "java/lang/invoke/MethodHandle" ∧ y.cls ≠ "java/lang/invoke/VarHandle")
    {W9 : Nat} {Pre : Pt → Array Value → Prop} {Post : Pt → Array Value → Option Value → Pt → Prop} {PostX : Pt → Array Value → Addr → Pt → Prop} (hK : vx_Back l R p e below s args y 3 W9 Pre Post PostX)
    {b : Addr} {cellB : Cell} (hcell : T.heap[b]? = some cellB) (hobj : cellB.vm.isStatics = false) (hcls : s.vm.findClass C = some cellB.cls)
    {g : JFrame} (hg : g.method = m) (hsize : g.locals.size = c.maxLocals) {argsL rest : List Value} (hlen : ∀ sig, parseMethodDescriptor y.desc = some sig → argsL.length = sig.parameters.length)
    (hstack : g.stack = argsL.reverse ++ .ref b :: rest) (hW : 2 * g.monitorRoom + (rest.map fun v => v.category).sum ≤ W9) (hdg : decode c.code g.pc = .ok (.invokevirtual index, 3))
    (hpre : ∀ vm₁, s.WarmedH vm₁ → Pre ⟨T.setVm vm₁, locs, cells, slots⟩ (Value.ref b :: argsL).toArray) :
    (∃ (v : Option Value) (vm₁ : Vm) (B : Pt), s.WarmedH vm₁ ∧ Stand p l e R s m args below meth c B.U B.locs B.cells B.slots ∧ Post ⟨T.setVm vm₁, locs, cells, slots⟩ (Value.ref b :: argsL).toArray v B ∧
      ∀ target, Steps p.tables e below (B.U.setTop { g with pc := g.pc + 3, stack := v.toList ++ rest }) target → Steps p.tables e below (T.setTop g) target) ∨
    (∃ (q : Addr) (vm₁ : Vm) (B : Pt), s.WarmedH vm₁ ∧ Stand p l e R s m args below meth c B.U B.locs B.cells B.slots ∧ PostX ⟨T.setVm vm₁, locs, cells, slots⟩ (Value.ref b :: argsL).toArray q B ∧
      Steps p.tables e below (T.setTop g) ((B.U.setTop { g with stack := rest }).pushFrame (.throwing q))) := by
  obtain ⟨mk, methM, hnamed, hmethM, hstM, habM⟩ := Cond.instanceMethod_spec hinst
  obtain ⟨methM', cM, hmethM', -, -, -, -, -, -, hsigM⟩ := Cond.code_spec hnamed hcode
  cases hmethM.symm.trans hmethM'
  obtain ⟨c2, r2, m2, q1, q2, q3, q4, kP, hkP, hkPi⟩ := Cond.selects_spec hsel
  cases hcls.symm.trans q1
  cases (State.methodFound?_of_named hnamed hy).symm.trans q2
  cases hnamed.symm.trans q3
  have hselP : selectMethod e.platform s.vm cellB.cls mk = .method mk := by rw [Launch.admits_selectMethod X.admits]; exact q4
  obtain ⟨vm₁, X₁, hstep₁⟩ := X.invokevirtual hexec hown hlink hnamed hmethM hstM hkP hkPi hy (a := b) (cell := cellB) hcell
    (fun z h => by rw [h] at hobj; cases hobj) hselP hmethM habM hkP hkPi (g := g) hg (argsL := argsL) (rest := rest) (hlen _ hsigM) hstack hdg
  rcases hK m meth c ⟨T.setVm vm₁, locs, cells, slots⟩ { g with stack := rest } (.invokevirtual index) mk (Value.ref b :: argsL).toArray X₁ hg hsize hdg hW (X₁.named hnamed) (hpre vm₁ X₁.warmed) with ⟨v, B, X', hpost, hsteps⟩ | ⟨q, B, X', hpost, hsteps⟩
  · exact Or.inl ⟨v, vm₁, B, X₁.warmed, X', hpost, fun target h => hstep₁ _ fun acts => by rw [doInvoke_state]; exact hsteps.trans h⟩
  · exact Or.inr ⟨q, vm₁, B, X₁.warmed, X', hpost, hstep₁ _ fun acts => by rw [doInvoke_state]; exact hsteps⟩
theorem vx_callS (X : Stand p l e R s m args below meth c T locs cells slots) (hexec : p.tables.exec = Jvm.exec) {own : String} {index : Nat} {y : MethodName} {bytes : ByteArray} {maxL : Nat} {ret : Option FieldType}
    (hown : s.vm.findClass own = some m.cls) (hlink : (Cond.methodLink own index y).before args s = true) (hstat : (Cond.static y).before args s = true) (hinit : (Cond.initialized y.cls).before args s = true)
    (hcode : (Cond.code y bytes maxL ret).before args s = true) (hy : y.cls ≠ "java/lang/invoke/MethodHandle" ∧ y.cls ≠ "java/lang/invoke/VarHandle")
    {W9 : Nat} {Pre : Pt → Array Value → Prop} {Post : Pt → Array Value → Option Value → Pt → Prop} {PostX : Pt → Array Value → Addr → Pt → Prop} (hK : vx_Back l R p e below s args y 3 W9 Pre Post PostX)
    {g : JFrame} (hg : g.method = m) (hsize : g.locals.size = c.maxLocals) {argsL rest : List Value} (hlen : ∀ sig, parseMethodDescriptor y.desc = some sig → argsL.length = sig.parameters.length)
    (hstack : g.stack = argsL.reverse ++ rest) (hW : 2 * g.monitorRoom + (rest.map fun v => v.category).sum ≤ W9) (hdg : decode c.code g.pc = .ok (.invokestatic index, 3))
    (hpre : ∀ vm₁, s.WarmedH vm₁ → Pre ⟨T.setVm vm₁, locs, cells, slots⟩ argsL.toArray) :
    (∃ (v : Option Value) (vm₁ : Vm) (B : Pt), s.WarmedH vm₁ ∧ Stand p l e R s m args below meth c B.U B.locs B.cells B.slots ∧ Post ⟨T.setVm vm₁, locs, cells, slots⟩ argsL.toArray v B ∧
      ∀ target, Steps p.tables e below (B.U.setTop { g with pc := g.pc + 3, stack := v.toList ++ rest }) target → Steps p.tables e below (T.setTop g) target) ∨
    (∃ (q : Addr) (vm₁ : Vm) (B : Pt), s.WarmedH vm₁ ∧ Stand p l e R s m args below meth c B.U B.locs B.cells B.slots ∧ PostX ⟨T.setVm vm₁, locs, cells, slots⟩ argsL.toArray q B ∧
      Steps p.tables e below (T.setTop g) ((B.U.setTop { g with stack := rest }).pushFrame (.throwing q))) := by
  obtain ⟨mk, hnamed⟩ := Cond.code_named hcode
  obtain ⟨methM, cM, hmethM, -, -, -, -, -, -, hsigM⟩ := Cond.code_spec hnamed hcode
  have hstatic : methM.isStatic = true := Cond.static_spec hnamed hmethM hstat
  obtain ⟨kP, hkP, -⟩ := className_of_methodNamed hnamed
  have hinitP : kP.init = .initialized := Cond.initialized_spec (findClass_of_methodNamed hnamed) hkP hinit
  obtain ⟨vm₁, X₁, hstep₁⟩ := X.invokestatic hexec hown hlink hnamed hmethM hstatic hkP hinitP hy (g := g) hg (argsL := argsL) (rest := rest) (hlen _ hsigM) hstack hdg
  rcases hK m meth c ⟨T.setVm vm₁, locs, cells, slots⟩ { g with stack := rest } (.invokestatic index) mk argsL.toArray X₁ hg hsize hdg hW (X₁.named hnamed) (hpre vm₁ X₁.warmed) with ⟨v, B, X', hpost, hsteps⟩ | ⟨q, B, X', hpost, hsteps⟩
  · exact Or.inl ⟨v, vm₁, B, X₁.warmed, X', hpost, fun target h => hstep₁ _ fun acts => by rw [doInvoke_state]; exact hsteps.trans h⟩
  · exact Or.inr ⟨q, vm₁, B, X₁.warmed, X', hpost, hstep₁ _ fun acts => by rw [doInvoke_state]; exact hsteps⟩
end Calls
theorem vx_cls {s : State} {T : State} {vm₁ : Vm} {E : String} {k : ClassId} (hW : s.WarmedH vm₁) (h : (T.setVm vm₁).vm.findClass E = some k) : s.vm.findClass E = some k := by
  have h1 : vm₁.findClass E = some k := h
  rw [hW.alike.findClass] at h1
  exact h1
/-- the method's frame g, with q thrown over it -/
def vx_W (p : Program) (l : Launch) (e : Env) (R : Room) (s : State) (m : MethodId) (args : Array Value) (below : List Frame) (meth : Method) (c : Code) (H : Heap) (locs : List Loc) (cells slots : Nat) (Q : State → Prop) (g : JFrame) (q : Addr) : Prop :=
  ∀ T : State, T.heap = H → Stand p l e R s m args below meth c T locs cells slots → ∃ t, Steps p.tables e below ((T.setTop g).pushFrame (.throwing q)) t ∧ Q t
def vx_Run (p : Program) (l : Launch) (e : Env) (R : Room) (s : State) (m : MethodId) (args : Array Value) (below : List Frame) (meth : Method) (c : Code) (H : Heap) (locs : List Loc) (cells slots mc ms : Nat) (g : JFrame) (rest : List Value) (Qa : State → Outcome → State → Prop) (XC : String → State → State → Prop) (free : Addr → Prop) : Prop :=
  ∀ T : State, T.heap = H → Stand p l e R s m args below meth c T locs cells slots →
    (∃ (v : Option Value) (st₀ t T' : State) (L : List Loc), st₀.heap = H ∧ Stand p l e R s m args below meth c T' (locs ++ L) (cells + mc) (slots + ms) ∧ (∀ q ∈ L, free q.base) ∧ T'.heap = t.heap ∧ T'.vm = t.vm ∧ Qa st₀ (.returned v) t ∧
      Goes p e below T g T' { g with pc := g.pc + 3, stack := v.toList ++ rest }) ∨
    (∃ (q : Addr) (st₀ t T' : State) (L : List Loc) (E : String) (ce : Cell), st₀.heap = H ∧ Stand p l e R s m args below meth c T' (locs ++ L) (cells + mc) (slots + ms) ∧ (∀ z ∈ L, free z.base) ∧ T'.heap = t.heap ∧ T'.vm = t.vm ∧ XC E st₀ t ∧ t.heap[q]? = some ce ∧ ce.vm = .none ∧ s.vm.findClass E = some ce.cls ∧
      Steps p.tables e below (T.setTop g) ((T'.setTop { g with stack := rest }).pushFrame (.throwing q)))
def vx_X {S : Type} (px : S → Prop) (B : String → S → State → Prop) (A : Nat → Prop) : String → State → State → Prop := fun E st t => ∃ u : S, px u ∧ B E u t ∧ va_F A st t
section Runs
variable {p : Program} {l : Launch} {e : Env} {R : Room} {s : State} {m : MethodId} {args : Array Value} {below : List Frame} {meth : Method} {c : Code} {H : Heap} {locs : List Loc} {cells slots : Nat}
variable {y : MethodName} {bytes cc : ByteArray} {maxL nL mc ms n index : Nat} {ret : Option FieldType} {ws : List Cond} {rm : Room} {Pc : Array Value → State → Prop} {Qc : Array Value → State → Outcome → State → Prop} {XC : String → State → State → Prop} {free : Addr → Prop} {Ts : List Cond} {own C : String} {b : Addr} {As rest : List Value} {g : JFrame}
theorem vx_callBack (cb : CallB R s args own index y bytes maxL ret ws rm mc ms n) (hM : vx_Met l y ws rm Pc Qc XC mc ms free) (hbl : FrameBlind Pc) : vx_Back l R p e below s args y 3 8 (PreOf R mc ms Pc) (PostOf Qc mc ms free) (vx_Post XC mc ms free) := by
  obtain ⟨hrc, hrs, hfr, hlo, hws, hcw, -, hini, -⟩ := cb
  exact vx_back (bytes := bytes) (maxL := maxL) (ret := ret) hM hbl hrc hrs hfr hlo hws hcw (fun a' U hW => word_at hW (Or.inl (by first | rfl | simp [Cond.onTables, Cond.keeps, Cond.steady])) hini)
theorem vx_runV (S : CallFix p m c cc nL s args Ts own) (hM : vx_Met l y ws rm Pc Qc XC mc ms free) (cw : CallW R s args own C index y bytes maxL ret ws rm mc ms n) (hp : PreV s H C b Pc As)
    (hg : g.method = m) (hn : As.length = n) (hsize : g.locals.size = nL) (hstack : g.stack = As.reverse ++ .ref b :: rest) (hW : 2 * g.monitorRoom + (rest.map fun v => v.category).sum ≤ 8) (hdg : decode cc g.pc = .ok (.invokevirtual index, 3)) (hf : cells + mc ≤ R.cells ∧ slots + ms ≤ R.slots) :
    vx_Run p l e R s m args below meth c H locs cells slots mc ms g rest (Qc (Value.ref b :: As).toArray) XC free := by
  have hK : vx_Back l R p e below s args y 3 8 (PreOf R mc ms Pc) (PostOf Qc mc ms free) (vx_Post XC mc ms free) := vx_callBack cw.1 hM hp.1
  obtain ⟨⟨-, -, -, -, -, -, hcode, -, hy, hlen, hl⟩, hin, hse⟩ := cw
  obtain ⟨hx, hb, hml, ho, -⟩ := S
  obtain ⟨-, ⟨cellB, hcB, hoB, hclB⟩, hPc⟩ := hp
  intro T hT X
  rcases vx_callV X hx (C := C) (bytes := bytes) (maxL := maxL) (ret := ret) ho hl hin hse hcode hy hK (by rw [hT]; exact hcB) hoB hclB hg (hsize.trans hml.symm) (argsL := As) (rest := rest) (fun sig h => hn.trans (hlen sig h)) hstack hW (by rw [hb]; exact hdg)
    (fun vm₁ hW₁ => ⟨hf.1, hf.2, hPc (T.setVm vm₁) hT hW₁⟩) with ⟨v, vm₁, ⟨U', l2, c2, s2⟩, hW₁, X', ⟨g', mk, t, L, e1, e2, hq, h1, hL, h2, h3⟩, st⟩ | ⟨q, vm₁, ⟨U', l2, c2, s2⟩, hW₁, X', ⟨g', mk, t, L, E, ce, e1, e2, hq, hce, hcv, hcl, h1, hL, h2, h3⟩, st⟩
  · dsimp only [Pt.U, Pt.locs, Pt.cells, Pt.slots] at X' e1 e2 h1 h2 h3 st
    subst h1; subst h2; subst h3
    exact Or.inl ⟨v, (T.setVm vm₁).calling g' mk (Value.ref b :: As).toArray, t, U', L, hT, X', hL, e1, e2, hq, st⟩
  · dsimp only [Pt.U, Pt.locs, Pt.cells, Pt.slots] at X' e1 e2 h1 h2 h3 st hcl
    subst h1; subst h2; subst h3
    exact Or.inr ⟨q, (T.setVm vm₁).calling g' mk (Value.ref b :: As).toArray, t, U', L, E, ce, hT, X', hL, e1, e2, hq, hce, hcv, vx_cls hW₁ hcl, st⟩
theorem vx_runS (S : CallFix p m c cc nL s args Ts own) (hM : vx_Met l y ws rm Pc Qc XC mc ms free) (cw : CallB R s args own index y bytes maxL ret ws rm mc ms n ∧ (Cond.static y).before args s = true) (hp : PreS s H Pc As)
    (hg : g.method = m) (hn : As.length = n) (hsize : g.locals.size = nL) (hstack : g.stack = As.reverse ++ rest) (hW : 2 * g.monitorRoom + (rest.map fun v => v.category).sum ≤ 8) (hdg : decode cc g.pc = .ok (.invokestatic index, 3)) (hf : cells + mc ≤ R.cells ∧ slots + ms ≤ R.slots) :
    vx_Run p l e R s m args below meth c H locs cells slots mc ms g rest (Qc As.toArray) XC free := by
  have hK : vx_Back l R p e below s args y 3 8 (PreOf R mc ms Pc) (PostOf Qc mc ms free) (vx_Post XC mc ms free) := vx_callBack cw.1 hM hp.1
  obtain ⟨⟨-, -, -, -, -, -, hcode, hini, hy, hlen, hl⟩, hstt⟩ := cw
  obtain ⟨hx, hb, hml, ho, -⟩ := S
  intro T hT X
  rcases vx_callS X hx (bytes := bytes) (maxL := maxL) (ret := ret) ho hl hstt hini hcode hy hK hg (hsize.trans hml.symm) (argsL := As) (rest := rest) (fun sig h => hn.trans (hlen sig h)) hstack hW (by rw [hb]; exact hdg)
    (fun vm₁ hW₁ => ⟨hf.1, hf.2, hp.2 (T.setVm vm₁) hT hW₁⟩) with ⟨v, vm₁, ⟨U', l2, c2, s2⟩, hW₁, X', ⟨g', mk, t, L, e1, e2, hq, h1, hL, h2, h3⟩, st⟩ | ⟨q, vm₁, ⟨U', l2, c2, s2⟩, hW₁, X', ⟨g', mk, t, L, E, ce, e1, e2, hq, hce, hcv, hcl, h1, hL, h2, h3⟩, st⟩
  · dsimp only [Pt.U, Pt.locs, Pt.cells, Pt.slots] at X' e1 e2 h1 h2 h3 st
    subst h1; subst h2; subst h3
    exact Or.inl ⟨v, (T.setVm vm₁).calling g' mk As.toArray, t, U', L, hT, X', hL, e1, e2, hq, st⟩
  · dsimp only [Pt.U, Pt.locs, Pt.cells, Pt.slots] at X' e1 e2 h1 h2 h3 st hcl
    subst h1; subst h2; subst h3
    exact Or.inr ⟨q, (T.setVm vm₁).calling g' mk As.toArray, t, U', L, E, ce, hT, X', hL, e1, e2, hq, hce, hcv, vx_cls hW₁ hcl, st⟩
end Runs
section Rows
variable {p : Program} {l : Launch} {e : Env} {R : Room} {s : State} {m : MethodId} {args : Array Value} {below : List Frame} {meth : Method} {c : Code} {H : Heap} {locs : List Loc} {cells slots : Nat} {Q : State → Prop}
variable {mc ms : Nat} {free : Addr → Prop} {A0 A1 : Nat → Prop} {H0 : Heap} {a : Array Value} {pc : Nat} {ls : Array Slot} {st0 rest : List Value}
theorem vx_keep {st₀ t T' : State} {L : List Loc} (h0 : st₀.heap = H) (e1 : T'.heap = t.heap) (hS : va_S A0 H0 H locs) (hA : ∀ q, q < H.size → A1 q → A0 q) (hf : ∀ q, free q → A0 q) (hL : ∀ q ∈ L, free q.base) (hF : va_F A1 st₀ t) :
    H.size ≤ T'.heap.size ∧ (∀ q : Nat, q < H.size → ¬ A1 q → T'.heap[q]? = H[q]?) ∧ va_S A0 H0 T'.heap (locs ++ L) := by
  obtain ⟨hz, hk⟩ := hF
  rw [h0] at hz hk
  exact ⟨by rw [e1]; exact hz, fun q h1 h2 => by rw [e1]; exact hk q h1 h2,
    ⟨Nat.le_trans hS.1 (by rw [e1]; exact hz), fun q h1 h2 => by rw [e1, hk q (Nat.lt_of_lt_of_le h1 hS.1) (fun z => h2 (hA q (Nat.lt_of_lt_of_le h1 hS.1) z))]; exact hS.2.1 q h1 h2, fun q hq => by
      rcases List.mem_append.mp hq with h | h
      · exact hS.2.2 q h
      · exact hf _ (hL q h)⟩⟩
theorem vx_calli {S SX : Type} {post : Int32 → S → Prop} {px : SX → Prop} {B : S → State → Prop} {BX : String → SX → State → Prop} {AX : Nat → Prop} (hr : vx_Run p l e R s m args below meth c H locs cells slots mc ms (F0 m pc ls st0) rest (va_Qi post B A1 a) (vx_X px BX AX) free) (hS : va_S A0 H0 H locs) (hA : ∀ q, q < H.size → A1 q → A0 q) (hf : ∀ q, free q → A0 q) (hAX : ∀ q, q < H.size → AX q → A0 q)
    (kx : ∀ (E : String) (ce : Cell) (q9 : Addr) (u : SX) (t : State) (H1 : Heap) (locs1 : List Loc), t.heap = H1 → s.vm.Alike t.vm → px u → BX E u t → H.size ≤ H1.size → (∀ q : Nat, q < H.size → ¬ AX q → H1[q]? = H[q]?) → va_S A0 H0 H1 locs1 → H1[q9]? = some ce → ce.vm = .none → s.vm.findClass E = some ce.cls → vx_W p l e R s m args below meth c H1 locs1 (cells + mc) (slots + ms) Q (F0 m pc ls rest) q9)
    (kk : ∀ (r : Int32) (u : S) (t : State) (H1 : Heap) (locs1 : List Loc), t.heap = H1 → s.vm.Alike t.vm → post r u → B u t → H.size ≤ H1.size → (∀ q : Nat, q < H.size → ¬ A1 q → H1[q]? = H[q]?) → va_S A0 H0 H1 locs1 → W p l e R s m args below meth c H1 locs1 (cells + mc) (slots + ms) Q (F0 m (pc + 3) ls (.int r :: rest))) : W p l e R s m args below meth c H locs cells slots Q (F0 m pc ls st0) := by
  intro T hT X
  rcases hr T hT X with ⟨v, st₀, t, T', L, h0, X', hL, e1, e2, ⟨⟨r, u, hv, hp, hb⟩, hF⟩, st⟩ | ⟨q, st₀, t, T', L, E, ce, h0, X', hL, e1, e2, ⟨u, hp, hb, hF⟩, hce, hcv, hcl, st⟩
  · cases hv
    obtain ⟨k1, k2, k3⟩ := vx_keep h0 e1 hS hA hf hL hF
    obtain ⟨t2, a1, b1⟩ := kk r u t T'.heap (locs ++ L) e1.symm (by rw [← e2]; exact X'.warmed.alike) hp hb k1 k2 k3 T' rfl X'
    exact ⟨t2, st t2 a1, b1⟩
  · obtain ⟨k1, k2, k3⟩ := vx_keep h0 e1 hS hAX hf hL hF
    obtain ⟨t2, a1, b1⟩ := kx E ce q u t T'.heap (locs ++ L) e1.symm (by rw [← e2]; exact X'.warmed.alike) hp hb k1 k2 k3 (by rw [e1]; exact hce) hcv hcl T' rfl X'
    exact ⟨t2, st.trans a1, b1⟩
theorem vx_calll {S SX : Type} {post : Int64 → S → Prop} {px : SX → Prop} {B : S → State → Prop} {BX : String → SX → State → Prop} {AX : Nat → Prop} (hr : vx_Run p l e R s m args below meth c H locs cells slots mc ms (F0 m pc ls st0) rest (va_Ql post B A1 a) (vx_X px BX AX) free) (hS : va_S A0 H0 H locs) (hA : ∀ q, q < H.size → A1 q → A0 q) (hf : ∀ q, free q → A0 q) (hAX : ∀ q, q < H.size → AX q → A0 q)
    (kx : ∀ (E : String) (ce : Cell) (q9 : Addr) (u : SX) (t : State) (H1 : Heap) (locs1 : List Loc), t.heap = H1 → s.vm.Alike t.vm → px u → BX E u t → H.size ≤ H1.size → (∀ q : Nat, q < H.size → ¬ AX q → H1[q]? = H[q]?) → va_S A0 H0 H1 locs1 → H1[q9]? = some ce → ce.vm = .none → s.vm.findClass E = some ce.cls → vx_W p l e R s m args below meth c H1 locs1 (cells + mc) (slots + ms) Q (F0 m pc ls rest) q9)
    (kk : ∀ (r : Int64) (u : S) (t : State) (H1 : Heap) (locs1 : List Loc), t.heap = H1 → s.vm.Alike t.vm → post r u → B u t → H.size ≤ H1.size → (∀ q : Nat, q < H.size → ¬ A1 q → H1[q]? = H[q]?) → va_S A0 H0 H1 locs1 → W p l e R s m args below meth c H1 locs1 (cells + mc) (slots + ms) Q (F0 m (pc + 3) ls (.long r :: rest))) : W p l e R s m args below meth c H locs cells slots Q (F0 m pc ls st0) := by
  intro T hT X
  rcases hr T hT X with ⟨v, st₀, t, T', L, h0, X', hL, e1, e2, ⟨⟨r, u, hv, hp, hb⟩, hF⟩, st⟩ | ⟨q, st₀, t, T', L, E, ce, h0, X', hL, e1, e2, ⟨u, hp, hb, hF⟩, hce, hcv, hcl, st⟩
  · cases hv
    obtain ⟨k1, k2, k3⟩ := vx_keep h0 e1 hS hA hf hL hF
    obtain ⟨t2, a1, b1⟩ := kk r u t T'.heap (locs ++ L) e1.symm (by rw [← e2]; exact X'.warmed.alike) hp hb k1 k2 k3 T' rfl X'
    exact ⟨t2, st t2 a1, b1⟩
  · obtain ⟨k1, k2, k3⟩ := vx_keep h0 e1 hS hAX hf hL hF
    obtain ⟨t2, a1, b1⟩ := kx E ce q u t T'.heap (locs ++ L) e1.symm (by rw [← e2]; exact X'.warmed.alike) hp hb k1 k2 k3 (by rw [e1]; exact hce) hcv hcl T' rfl X'
    exact ⟨t2, st.trans a1, b1⟩
theorem vx_callf {S SX : Type} {post : UInt32 → S → Prop} {px : SX → Prop} {B : S → State → Prop} {BX : String → SX → State → Prop} {AX : Nat → Prop} (hr : vx_Run p l e R s m args below meth c H locs cells slots mc ms (F0 m pc ls st0) rest (va_Qf post B A1 a) (vx_X px BX AX) free) (hS : va_S A0 H0 H locs) (hA : ∀ q, q < H.size → A1 q → A0 q) (hf : ∀ q, free q → A0 q) (hAX : ∀ q, q < H.size → AX q → A0 q)
    (kx : ∀ (E : String) (ce : Cell) (q9 : Addr) (u : SX) (t : State) (H1 : Heap) (locs1 : List Loc), t.heap = H1 → s.vm.Alike t.vm → px u → BX E u t → H.size ≤ H1.size → (∀ q : Nat, q < H.size → ¬ AX q → H1[q]? = H[q]?) → va_S A0 H0 H1 locs1 → H1[q9]? = some ce → ce.vm = .none → s.vm.findClass E = some ce.cls → vx_W p l e R s m args below meth c H1 locs1 (cells + mc) (slots + ms) Q (F0 m pc ls rest) q9)
    (kk : ∀ (r : UInt32) (u : S) (t : State) (H1 : Heap) (locs1 : List Loc), t.heap = H1 → s.vm.Alike t.vm → post r u → B u t → H.size ≤ H1.size → (∀ q : Nat, q < H.size → ¬ A1 q → H1[q]? = H[q]?) → va_S A0 H0 H1 locs1 → W p l e R s m args below meth c H1 locs1 (cells + mc) (slots + ms) Q (F0 m (pc + 3) ls (.float r :: rest))) : W p l e R s m args below meth c H locs cells slots Q (F0 m pc ls st0) := by
  intro T hT X
  rcases hr T hT X with ⟨v, st₀, t, T', L, h0, X', hL, e1, e2, ⟨⟨r, u, hv, hp, hb⟩, hF⟩, st⟩ | ⟨q, st₀, t, T', L, E, ce, h0, X', hL, e1, e2, ⟨u, hp, hb, hF⟩, hce, hcv, hcl, st⟩
  · cases hv
    obtain ⟨k1, k2, k3⟩ := vx_keep h0 e1 hS hA hf hL hF
    obtain ⟨t2, a1, b1⟩ := kk r u t T'.heap (locs ++ L) e1.symm (by rw [← e2]; exact X'.warmed.alike) hp hb k1 k2 k3 T' rfl X'
    exact ⟨t2, st t2 a1, b1⟩
  · obtain ⟨k1, k2, k3⟩ := vx_keep h0 e1 hS hAX hf hL hF
    obtain ⟨t2, a1, b1⟩ := kx E ce q u t T'.heap (locs ++ L) e1.symm (by rw [← e2]; exact X'.warmed.alike) hp hb k1 k2 k3 (by rw [e1]; exact hce) hcv hcl T' rfl X'
    exact ⟨t2, st.trans a1, b1⟩
theorem vx_calld {S SX : Type} {post : UInt64 → S → Prop} {px : SX → Prop} {B : S → State → Prop} {BX : String → SX → State → Prop} {AX : Nat → Prop} (hr : vx_Run p l e R s m args below meth c H locs cells slots mc ms (F0 m pc ls st0) rest (va_Qd post B A1 a) (vx_X px BX AX) free) (hS : va_S A0 H0 H locs) (hA : ∀ q, q < H.size → A1 q → A0 q) (hf : ∀ q, free q → A0 q) (hAX : ∀ q, q < H.size → AX q → A0 q)
    (kx : ∀ (E : String) (ce : Cell) (q9 : Addr) (u : SX) (t : State) (H1 : Heap) (locs1 : List Loc), t.heap = H1 → s.vm.Alike t.vm → px u → BX E u t → H.size ≤ H1.size → (∀ q : Nat, q < H.size → ¬ AX q → H1[q]? = H[q]?) → va_S A0 H0 H1 locs1 → H1[q9]? = some ce → ce.vm = .none → s.vm.findClass E = some ce.cls → vx_W p l e R s m args below meth c H1 locs1 (cells + mc) (slots + ms) Q (F0 m pc ls rest) q9)
    (kk : ∀ (r : UInt64) (u : S) (t : State) (H1 : Heap) (locs1 : List Loc), t.heap = H1 → s.vm.Alike t.vm → post r u → B u t → H.size ≤ H1.size → (∀ q : Nat, q < H.size → ¬ A1 q → H1[q]? = H[q]?) → va_S A0 H0 H1 locs1 → W p l e R s m args below meth c H1 locs1 (cells + mc) (slots + ms) Q (F0 m (pc + 3) ls (.double r :: rest))) : W p l e R s m args below meth c H locs cells slots Q (F0 m pc ls st0) := by
  intro T hT X
  rcases hr T hT X with ⟨v, st₀, t, T', L, h0, X', hL, e1, e2, ⟨⟨r, u, hv, hp, hb⟩, hF⟩, st⟩ | ⟨q, st₀, t, T', L, E, ce, h0, X', hL, e1, e2, ⟨u, hp, hb, hF⟩, hce, hcv, hcl, st⟩
  · cases hv
    obtain ⟨k1, k2, k3⟩ := vx_keep h0 e1 hS hA hf hL hF
    obtain ⟨t2, a1, b1⟩ := kk r u t T'.heap (locs ++ L) e1.symm (by rw [← e2]; exact X'.warmed.alike) hp hb k1 k2 k3 T' rfl X'
    exact ⟨t2, st t2 a1, b1⟩
  · obtain ⟨k1, k2, k3⟩ := vx_keep h0 e1 hS hAX hf hL hF
    obtain ⟨t2, a1, b1⟩ := kx E ce q u t T'.heap (locs ++ L) e1.symm (by rw [← e2]; exact X'.warmed.alike) hp hb k1 k2 k3 (by rw [e1]; exact hce) hcv hcl T' rfl X'
    exact ⟨t2, st.trans a1, b1⟩
theorem vx_callv {S SX : Type} {post : S → Prop} {px : SX → Prop} {B : S → State → Prop} {BX : String → SX → State → Prop} {AX : Nat → Prop} (hr : vx_Run p l e R s m args below meth c H locs cells slots mc ms (F0 m pc ls st0) rest (va_Qv post B A1 a) (vx_X px BX AX) free) (hS : va_S A0 H0 H locs) (hA : ∀ q, q < H.size → A1 q → A0 q) (hf : ∀ q, free q → A0 q) (hAX : ∀ q, q < H.size → AX q → A0 q)
    (kx : ∀ (E : String) (ce : Cell) (q9 : Addr) (u : SX) (t : State) (H1 : Heap) (locs1 : List Loc), t.heap = H1 → s.vm.Alike t.vm → px u → BX E u t → H.size ≤ H1.size → (∀ q : Nat, q < H.size → ¬ AX q → H1[q]? = H[q]?) → va_S A0 H0 H1 locs1 → H1[q9]? = some ce → ce.vm = .none → s.vm.findClass E = some ce.cls → vx_W p l e R s m args below meth c H1 locs1 (cells + mc) (slots + ms) Q (F0 m pc ls rest) q9)
    (kk : ∀ (u : S) (t : State) (H1 : Heap) (locs1 : List Loc), t.heap = H1 → s.vm.Alike t.vm → post u → B u t → H.size ≤ H1.size → (∀ q : Nat, q < H.size → ¬ A1 q → H1[q]? = H[q]?) → va_S A0 H0 H1 locs1 → W p l e R s m args below meth c H1 locs1 (cells + mc) (slots + ms) Q (F0 m (pc + 3) ls (rest))) : W p l e R s m args below meth c H locs cells slots Q (F0 m pc ls st0) := by
  intro T hT X
  rcases hr T hT X with ⟨v, st₀, t, T', L, h0, X', hL, e1, e2, ⟨⟨u, hv, hp, hb⟩, hF⟩, st⟩ | ⟨q, st₀, t, T', L, E, ce, h0, X', hL, e1, e2, ⟨u, hp, hb, hF⟩, hce, hcv, hcl, st⟩
  · cases hv
    obtain ⟨k1, k2, k3⟩ := vx_keep h0 e1 hS hA hf hL hF
    obtain ⟨t2, a1, b1⟩ := kk u t T'.heap (locs ++ L) e1.symm (by rw [← e2]; exact X'.warmed.alike) hp hb k1 k2 k3 T' rfl X'
    exact ⟨t2, st t2 a1, b1⟩
  · obtain ⟨k1, k2, k3⟩ := vx_keep h0 e1 hS hAX hf hL hF
    obtain ⟨t2, a1, b1⟩ := kx E ce q u t T'.heap (locs ++ L) e1.symm (by rw [← e2]; exact X'.warmed.alike) hp hb k1 k2 k3 (by rw [e1]; exact hce) hcv hcl T' rfl X'
    exact ⟨t2, st.trans a1, b1⟩
/-- caught by the row x of this method's table; the rows ahead don't take it -/
theorem vx_catch {own name : String} {E : String} {ce : Cell} {q : Addr} (hown : s.vm.findClass own = some m.cls) (pre : List ExceptionTableEntry) (x : ExceptionTableEntry) (suf : List ExceptionTableEntry) (hsplit : c.exceptionTable.toList = pre ++ x :: suf)
    (hpass : ∀ z ∈ pre, covers z pc = false ∨ (z.catchType ≠ 0 ∧ ∃ nm : String, (Cond.classLink own z.catchType nm).before args s = true ∧ va_Nc E nm s)) (hx : covers x pc = true) (h0 : x.catchType ≠ 0)
    (hlink : (Cond.classLink own x.catchType name).before args s = true) (hcast : (Cond.castable E name).before args s = true) (hcell : H[q]? = some ce) (hv : ce.vm = .none) (hcl : s.vm.findClass E = some ce.cls)
    (kk : W p l e R s m args below meth c H locs cells slots Q (F0 m x.handlerPc ls [.ref q])) : vx_W p l e R s m args below meth c H locs cells slots Q (F0 m pc ls rest) q := by
  intro T hT X
  have hpl : e.platform.magicAccessors = ({} : Platform).magicAccessors := by rw [X.admits.platform]
  obtain ⟨c3, c4, hc3, hc4, hasg⟩ := Cond.castable_spec hcast
  cases Option.some.inj (hc3.symm.trans hcl)
  obtain ⟨c5, hc5, hcl5⟩ := Cond.classLink_spec hown hlink e.platform hpl
  cases Option.some.inj (hc4.symm.trans hc5)
  obtain ⟨vm', X', st⟩ := X.thenCaughtThrough q (g := F0 m pc ls rest) rfl (Steps.refl _) (by rw [hT]; exact hcell) (by rw [hv]; rfl) (by obtain ⟨k9, h9, -⟩ := Vm.findClass_spec hcl; exact ⟨k9, h9⟩) pre x suf hsplit
    (fun z hz => by
      rcases hpass z hz with h | ⟨hz0, nm, hl1, hn1⟩
      · exact Or.inl h
      · obtain ⟨c6, hc6, hcl6⟩ := Cond.classLink_spec hown hl1 e.platform hpl
        obtain ⟨a8, b8, h1, h2, h3⟩ := hn1
        cases Option.some.inj (h1.symm.trans hcl)
        cases Option.some.inj (h2.symm.trans hc6)
        exact Or.inr ⟨hz0, _, hcl6, h3⟩) hx (Or.inr ⟨h0, c4, hcl5, hasg⟩)
  obtain ⟨t, a1, b1⟩ := kk (T.setVm vm') hT X'
  exact ⟨t, st.trans a1, b1⟩
end Rows
section Ends
variable {p : Program} {l : Launch} {e : Env} {R : Room} {s : State} {m : MethodId} {args : Array Value} {below : List Frame} {meth : Method} {c : Code} {H : Heap} {locs : List Loc} {cells slots : Nat} {Q : State → Prop}
variable {mc ms : Nat} {free : Addr → Prop} {A0 A1 : Nat → Prop} {H0 : Heap} {a : Array Value} {ls : Array Slot} {st0 rest : List Value}
variable {Qc : Array Value → State → Outcome → State → Prop} {XC : String → State → State → Prop}
/-- what a body that may throw owes at its end -/
def vx_MQ (below : List Frame) (Qc : Array Value → State → Outcome → State → Prop) (XC : String → State → State → Prop) (a : Array Value) (s : State) (mc ms : Nat) (free : Addr → Prop) : State → Prop := fun t =>
  ∃ o, t.status = .running ∧ Ended t below o ∧ vx_Q Qc XC mc ms free a s o t
theorem vx_ret {g : JFrame} {mc ms : Nat} (k : W p l e R s m args below meth c H locs cells slots (MQ below Qc args s mc ms free) g) : W p l e R s m args below meth c H locs cells slots (vx_MQ below Qc XC args s mc ms free) g := by
  intro T hT X
  obtain ⟨t, a1, o, b1, b2, b3, b4⟩ := k T hT X
  exact ⟨t, a1, o, b1, b2, Or.inl ⟨b3, b4⟩⟩
/-- not caught here: it goes on to the caller -/
theorem vx_widen {g : JFrame} {q : Addr} {k n : Nat} (h1 : cells ≤ k) (h2 : slots ≤ n) (kk : vx_W p l e R s m args below meth c H locs k n Q g q) : vx_W p l e R s m args below meth c H locs cells slots Q g q := fun T hT X => kk T hT (stand_widen X h1 h2)
theorem vx_out {pc : Nat} {E : String} {ce : Cell} {q : Addr} {mc ms : Nat} (hout : ∀ x ∈ c.exceptionTable.toList, covers x pc = false) (hlocks : meth.locks = false) (hcell : H[q]? = some ce) (hv : ce.vm = .none) (hcl : s.vm.findClass E = some ce.cls)
    (hx : ∀ t : State, t.heap = H → s.vm.Alike t.vm → XC E s t) (hf : ∀ z ∈ locs, free z.base) (hc : cells ≤ mc) (hs : slots ≤ ms) :
    vx_W p l e R s m args below meth c H locs cells slots (vx_MQ below Qc XC args s mc ms free) (F0 m pc ls rest) q := by
  intro T hT X
  obtain ⟨st1, hrun, hend, hW, hsm⟩ := X.leaveThrown q (g := F0 m pc ls rest) rfl rfl rfl hout hlocks
  have hcell9 : (T.setFrames (.throwing q :: below)).heap[q]? = some ce := by
    show T.heap[q]? = some ce
    rw [hT]; exact hcell
  exact ⟨_, st1, .threw q, hrun, hend, Or.inr ⟨q, rfl, E, ce, locs, hx _ hT hW.alike, hcell9, hv, hcl, hW, hsm.mono hc hs, hf⟩⟩
theorem vx_frame {U : State} {k n : Nat} (h : s.sameButNew ({ U with vm := s.vm } : State) locs k n) : s.heap.size ≤ U.heap.size ∧ ∀ q : Nat, q < s.heap.size → (∀ z ∈ locs, z.base ≠ q) → U.heap[q]? = s.heap[q]? := by
  obtain ⟨-, h2, -, -, -, h6⟩ := h
  refine ⟨h2, fun q hq hz => ?_⟩
  obtain ⟨c9, e1, e2, e3, e4⟩ := h6 q _ (Array.getElem?_eq_getElem hq)
  have hs : c9.slots = (s.heap[q]).slots := Array.ext_getElem? fun i => e4 i fun hm => hz _ hm rfl
  have h9 : c9 = s.heap[q] := by
    rw [hs] at e2
    exact e2
  have e5 : U.heap[q]? = some c9 := e1
  rw [e5, h9, Array.getElem?_eq_getElem hq]
/-- the words of a throw but the four that speak of the heap -/
def vx_no (w : Cond) : Bool := decide (w ≠ .isRef (.static Bundle.tN "UNASSIGNED_STACK" Bundle.steD)) && decide (w ≠ .isRef (.static Bundle.tN "SUPPRESSED_SENTINEL" Bundle.listD)) && decide (w ≠ .laysStatic Bundle.tN "UNASSIGNED_STACK" Bundle.steD) && decide (w ≠ .laysStatic Bundle.tN "SUPPRESSED_SENTINEL" Bundle.listD)
def vx_at0 (own : String) (ic : Nat) (X : String) (names : List String) : List Cond := (Bundle.ownAtoms0 own ic X names).filter vx_no
def vx_atS (own : String) (ic : Nat) (X : String) (names : List String) : List Cond := (Bundle.ownAtoms own ic X names).filter vx_no
/-- a word that the tables alone decide, or a good one -/
def vx_ot (w : Cond) : Bool := w.onTables || goodWord w
theorem vx_ot_at {args a' : Array Value} {s U : State} {w : Cond} (hW : s.WarmedH U.vm) (hvm : s.vm = U.vm) (hg : vx_ot w = true) (h : w.before args s = true) : w.before a' U = true := by
  simp only [vx_ot, Bool.or_eq_true] at hg
  rcases hg with hg | hg
  · exact va_tabs hg hvm h
  · exact word_at hW (good_of_word hg) h
/-- a list's words: the good ones out of the method's own list, the others by premises of their own -/
theorem vx_hat {args : Array Value} {s : State} {L B : List Cond} (h1 : ∀ w ∈ L.filter goodWord, w.before args s = true) (h2 : ∀ w ∈ L.filter (fun w => !goodWord w), w ∈ B) (h3 : ∀ w ∈ B, w.before args s = true) : ∀ w ∈ L, w.before args s = true := by
  intro w hw
  by_cases g : goodWord w = true
  · exact h1 w (List.mem_filter.mpr ⟨hw, g⟩)
  · refine h3 w (h2 w (List.mem_filter.mpr ⟨hw, ?_⟩))
    show (!goodWord w) = true
    cases hgw : goodWord w
    · rfl
    · exact absurd hgw g
theorem vx_c {args : Array Value} {s : State} {w : Cond} {B : List Cond} (h : w.before args s = true) (t : ∀ w ∈ B, w.before args s = true) : ∀ w' ∈ w :: B, w'.before args s = true := fun w' h' => (List.mem_cons.mp h').elim (fun e => by rw [e]; exact h) (t w')
theorem vx_n {args : Array Value} {s : State} : ∀ w ∈ ([] : List Cond), w.before args s = true := fun _ h => nomatch h
theorem vx_own {args : Array Value} {s : State} {L : List Cond} (h1 : ∀ w ∈ L.filter vx_no, w.before args s = true)
    (hU : (Cond.isRef (.static Bundle.tN "UNASSIGNED_STACK" Bundle.steD)).before args s = true) (hN : (Cond.isRef (.static Bundle.tN "SUPPRESSED_SENTINEL" Bundle.listD)).before args s = true)
    (lU : (Cond.laysStatic Bundle.tN "UNASSIGNED_STACK" Bundle.steD).before args s = true) (lN : (Cond.laysStatic Bundle.tN "SUPPRESSED_SENTINEL" Bundle.listD).before args s = true) : ∀ w ∈ L, w.before args s = true := by
  intro w hw
  by_cases e1 : w = .isRef (.static Bundle.tN "UNASSIGNED_STACK" Bundle.steD)
  · rw [e1]; exact hU
  · by_cases e2 : w = .isRef (.static Bundle.tN "SUPPRESSED_SENTINEL" Bundle.listD)
    · rw [e2]; exact hN
    · by_cases e3 : w = .laysStatic Bundle.tN "UNASSIGNED_STACK" Bundle.steD
      · rw [e3]; exact lU
      · by_cases e4 : w = .laysStatic Bundle.tN "SUPPRESSED_SENTINEL" Bundle.listD
        · rw [e4]; exact lN
        · exact h1 w (List.mem_filter.mpr ⟨hw, by unfold vx_no; rw [decide_eq_true e1, decide_eq_true e2, decide_eq_true e3, decide_eq_true e4]; rfl⟩)
/-- where a static field lies, its class's statics cell in H -/
def vx_L (C n d : String) (A : Nat → Prop) (U : State) (H : Heap) : Prop := ∃ (c : ClassId) (k : Class) (i : Nat) (f : Field) (a : Nat) (cell : Cell), U.vm.findClass C = some c ∧ U.fieldFound? C n d = some (c, k, i, f) ∧ f.isStatic = true ∧ k.statics = some a ∧ H[a]? = some cell ∧ cell.vm.isStatics = true ∧ cell.cls = c ∧ f.slot < cell.slots.size ∧ k.staticTypes[f.slot]? = some f.type ∧ ¬ A a
theorem vx_L.moved {C n d : String} {A : Nat → Prop} {u U : State} {H : Heap} (hvm : u.vm.Alike U.vm) (h : vx_L C n d A u H) : vx_L C n d A U H := by
  obtain ⟨c, k, i, f, a, cell, h1, h2, h3, h4, h5, h6, h7, h8, h9, h10⟩ := h
  obtain ⟨k', hi', he⟩ := State.fieldFound?_setVm hvm h2
  exact ⟨c, k', i, f, a, cell, by rw [hvm.findClass]; exact h1, hi', h3, by rw [he]; exact h4, h5, h6, h7, h8, by rw [he]; exact h9, h10⟩
theorem vx_L.kept {C n d : String} {A : Nat → Prop} {U : State} {H H1 : Heap} (h : vx_L C n d A U H) (hq : ∀ a : Nat, a < H.size → ¬ A a → H1[a]? = H[a]?) : vx_L C n d A U H1 := by
  obtain ⟨c, k, i, f, a, cell, h1, h2, h3, h4, h5, h6, h7, h8, h9, h10⟩ := h
  exact ⟨c, k, i, f, a, cell, h1, h2, h3, h4, by rw [hq a (Array.getElem?_eq_some_iff.mp h5).1 h10]; exact h5, h6, h7, h8, h9, h10⟩
theorem vx_L.narrow {C n d : String} {A B : Nat → Prop} {U : State} {H : Heap} (h : vx_L C n d A U H) (hAB : ∀ q, B q → A q) : vx_L C n d B U H := by
  obtain ⟨c, k, i, f, a, cell, h1, h2, h3, h4, h5, h6, h7, h8, h9, h10⟩ := h
  exact ⟨c, k, i, f, a, cell, h1, h2, h3, h4, h5, h6, h7, h8, h9, fun z => h10 (hAB _ z)⟩
theorem vx_L.word {C n d : String} {A : Nat → Prop} {s : State} {args : Array Value} (h : vx_L C n d A s s.heap) : (Cond.laysStatic C n d).before args s = true := by
  obtain ⟨c, k, i, f, a, cell, h1, h2, h3, h4, h5, h6, h7, h8, h9, -⟩ := h
  show (Cond.laysStatic C n d).holds args s none s [] = true
  exact Cond.laysStatic_of h1 h2 h3 h4 h5 h6 h7 h8 h9
/-- .. and what it holds: null or some reference -/
def vx_Zq (C n d : String) (A : Nat → Prop) (U : State) (H : Heap) : Prop := va_Zq C n d A U H ∧ vx_L C n d A U H
theorem vx_Zq.moved {C n d : String} {A : Nat → Prop} {u U : State} {H : Heap} (hvm : u.vm.Alike U.vm) (h : vx_Zq C n d A u H) : vx_Zq C n d A U H := ⟨va_Zq.moved hvm h.1, vx_L.moved hvm h.2⟩
theorem vx_Zq.kept {C n d : String} {A : Nat → Prop} {U : State} {H H1 : Heap} (h : vx_Zq C n d A U H) (hq : ∀ a : Nat, a < H.size → ¬ A a → H1[a]? = H[a]?) : vx_Zq C n d A U H1 := ⟨va_Zq.kept h.1 hq, vx_L.kept h.2 hq⟩
theorem vx_Zq.narrow {C n d : String} {A B : Nat → Prop} {U : State} {H : Heap} (h : vx_Zq C n d A U H) (hAB : ∀ q, B q → A q) : vx_Zq C n d B U H := ⟨va_Zq.narrow h.1 hAB, vx_L.narrow h.2 hAB⟩
theorem vx_Zqof {args : Array Value} {s : State} {C n d : String} {A : Nat → Prop} (hl : (Cond.laysStatic C n d).before args s = true) (hini : (Cond.initialized C).before args s = true) (h : (Cond.isRef (.static C n d)).before args s = true) (hA : ∀ a : Nat, a < s.heap.size → ¬ A a) : vx_Zq C n d A s s.heap := by
  refine ⟨va_Zqof hl hini h hA, ?_⟩
  obtain ⟨c, k, i, f, a, cell, h1, h2, h3, h4, h5, h6, h7, h8, h9⟩ := Cond.laysStatic_spec hl
  exact ⟨c, k, i, f, a, cell, h1, h2, h3, h4, h5, h6, h7, h8, h9, hA a (Array.getElem?_eq_some_iff.mp h5).1⟩
theorem vx_isRef {C n d : String} {v : Value} {A : Nat → Prop} {s : State} {args : Array Value} (h : va_Z C n d v A s s.heap) (hv : v.isRef = true) : (Cond.isRef (.static C n d)).before args s = true := by
  obtain ⟨cf, kf, fi, f, a, cell, h1, h2, h3, h4, h5, h6, h7, -⟩ := h
  have he : (Term.static C n d).eval args s none [] s = some v := by
    simp [Term.eval, State.fieldNamed?, h1, h2, h4, h5, h6, h7]
  simp only [Cond.before, Cond.holds, Cond.value, he]
  cases v <;> simp_all [Value.isRef]
theorem vx_isRefq {C n d : String} {A : Nat → Prop} {s : State} {args : Array Value} (h : va_Zq C n d A s s.heap) : (Cond.isRef (.static C n d)).before args s = true := by
  rcases h with h | ⟨t, h⟩
  · exact vx_isRef h rfl
  · exact vx_isRef h rfl
/-- the same frame, seen from here: as if the method were called anew in this heap -/
theorem vx_rebase {T : State} (X : Stand p l e R s m args below meth c T locs cells slots) {R' : Room} (hf : R'.frames ≤ R.frames) (hl : R'.locals ≤ R.locals) (hc : cells + R'.cells ≤ R.cells) (hs : slots + R'.slots ≤ R.slots) :
    Stand p l e R' ((T.setVm s.vm).setFrames (.invoking m args :: below)) m args below meth c T [] 0 0 := by
  have htop : (T.setVm s.vm).topJava?.isSome := X.here.top
  have hF : ((T.setVm s.vm).setFrames (.invoking m args :: below)).frames = .invoking m args :: below := State.frames_setFrames _ (State.cur_lt_of_top htop)
  obtain ⟨g₀, hg0⟩ := Option.isSome_iff_exists.mp htop
  obtain ⟨r, hr⟩ := State.topJava?_eq_some.mp hg0
  have hl9 : e.platform.stackLimits (T.setVm s.vm).me = e.platform.stackLimits s.me := X.limits
  have hb9 : (T.setVm s.vm).me.stackBytes = s.me.stackBytes := X.bytes
  refine ⟨X.admits, X.cas, X.clock, hF, ?_, X.hears, X.method, X.code, X.here, X.tail, X.warmed, ?_, ?_, ?_⟩
  · have h := X.room
    have hU : ((T.setVm s.vm).setFrames (.invoking m args :: below)).localsInUse = s.localsInUse := by
      rw [State.localsInUse_invoking hF (meth := meth) (c := c) X.method X.code, State.localsInUse_invoking X.frames X.method X.code]
    simp only [State.hasRoom, Bool.and_eq_true, decide_eq_true_eq] at h ⊢
    obtain ⟨⟨⟨⟨h1, h2, h3, h4, h5, h6⟩, h7⟩, h8⟩, h9⟩ := h
    rw [X.frames, List.length_cons] at h2 h3
    have q1 := X.heapSize
    have q2 := X.used
    simp only [hF, hU, List.length_cons, State.stackLimits_setFrames, State.stackBytes_setFrames, hl9, hb9]
    refine ⟨⟨⟨⟨by omega, by omega, by omega, by omega, by omega, h6⟩, ?_⟩, ?_⟩, X.book⟩
    · show T.heap.size + R'.cells ≤ e.platform.maxCells
      omega
    · show T.slotsUsed + R'.slots ≤ e.platform.maxSlots
      omega
  · rw [State.stackLimits_setFrames]; rfl
  · rw [State.stackBytes_setFrames]; rfl
  · refine ⟨?_, Nat.le_refl _, Nat.le_refl _, ?_, ?_, fun a c9 h9 => ⟨c9, h9, rfl, rfl, fun _ _ => rfl⟩⟩
    · obtain ⟨t, ht, -⟩ := State.frames_cons hr
      show T.setVm s.vm = { ((T.setVm s.vm).setFrames (.invoking m args :: below)).setFrames (T.setVm s.vm).frames with heap := T.heap, slotsUsed := T.slotsUsed }
      rw [State.setFrames_setFrames, State.setFrames_self ht]
      rfl
    · show T.slotsUsed = T.slotsUsed + ((T.heap.toList.drop T.heap.size).map (·.slots.size)).sum
      rw [List.drop_eq_nil_of_le (Nat.le_of_eq Array.length_toList)]
      rfl
    · show ((T.heap.toList.drop T.heap.size).map (·.slots.size)).sum ≤ 0
      rw [List.drop_eq_nil_of_le (Nat.le_of_eq Array.length_toList)]
      exact Nat.le_refl _
/-- 'throw new E()': new; dup; invokespecial; athrow -/
theorem vx_throw0 {cc : ByteArray} {pc : Nat} (hexec : p.tables.exec = Jvm.exec) (hb : c.code = cc) (hl : l.stackTraces = false) {own cls : String} {names : List String} {ik ic mc ms : Nat} {A : Nat → Prop}
    (hown : s.vm.findClass own = some m.cls) (hcls : Bundle.fit cls = true) (hnames : ∀ n ∈ names, Bundle.fit n = true)
    (hk : (Cond.classLink own ik cls).before args s = true) (hini : (Cond.initialized cls).before args s = true) (hat : ∀ w ∈ vx_at0 own ic cls names, w.before args s = true)
    (hgood : ∀ w ∈ Cond.classLink own ik cls :: Cond.initialized cls :: vx_at0 own ic cls names, vx_ot w = true)
    (hU : vx_Zq Bundle.tN "UNASSIGNED_STACK" Bundle.steD A s s.heap) (hN : vx_Zq Bundle.tN "SUPPRESSED_SENTINEL" Bundle.listD A s s.heap) (hS : va_S A s.heap H locs) (hsize : ls.size = c.maxLocals)
    (d0 : decode cc pc = .ok (.new ik, 3)) (d3 : decode cc (pc + 3) = .ok (.dup, 1)) (d4 : decode cc (pc + 4) = .ok (.invokespecial ic, 3)) (d7 : decode cc (pc + 7) = .ok (.athrow, 1))
    (hout : ∀ x ∈ c.exceptionTable.toList, covers x (pc + 7) = false)
    (hRframes : names.length + 3 < R.frames) (hRlocals : (rest.map fun v => v.category).sum + (13 * (names.length + 1) + 42) ≤ R.locals) (hRcells : cells + 1 ≤ R.cells) (hRslots : slots + 6 ≤ R.slots) (hlocks : meth.locks = false)
    (hx : ∀ t : State, s.vm.Alike t.vm → H.size ≤ t.heap.size → (∀ q : Nat, q < H.size → t.heap[q]? = H[q]?) → XC cls s t)
    (hf : ∀ z ∈ locs, free z.base) (hc : cells + 1 ≤ mc) (hs : slots + 6 ≤ ms) :
    W p l e R s m args below meth c H locs cells slots (vx_MQ below Qc XC args s mc ms free) (F0 m pc ls rest) := by
  intro T hT X
  have htr : e.platform.stackTraces = false := (show e.platform.stackTraces = l.stackTraces by rw [X.admits.platform]).trans hl
  have Y := vx_rebase X (R' := { frames := R.frames, locals := R.locals, cells := 1, slots := 6 }) (Nat.le_refl _) (Nat.le_refl _) hRcells hRslots
  obtain ⟨s', hA⟩ : ∃ z, z = (T.setVm s.vm).setFrames (.invoking m args :: below) := ⟨_, rfl⟩
  rw [← hA] at Y
  have hvm : s'.vm = s.vm := by rw [hA]; rfl
  have hhp : s'.heap = H := by rw [hA]; exact hT
  have hW0 : s.WarmedH s'.vm := by rw [hvm]; exact State.WarmedH.refl s
  have hat' : ∀ w ∈ vx_at0 own ic cls names, w.before args s' = true := fun w hw => vx_ot_at hW0 hvm.symm (hgood w (List.mem_cons_of_mem _ (List.mem_cons_of_mem _ hw))) (hat w hw)
  have hk' : (Cond.classLink own ik cls).before args s' = true := vx_ot_at hW0 hvm.symm (hgood _ List.mem_cons_self) hk
  have hini' : (Cond.initialized cls).before args s' = true := vx_ot_at hW0 hvm.symm (hgood _ (List.mem_cons_of_mem _ List.mem_cons_self)) hini
  have hU' : vx_Zq Bundle.tN "UNASSIGNED_STACK" Bundle.steD A s' s'.heap := by rw [hhp]; exact vx_Zq.moved hW0.alike (hU.kept hS.2.1)
  have hN' : vx_Zq Bundle.tN "SUPPRESSED_SENTINEL" Bundle.listD A s' s'.heap := by rw [hhp]; exact vx_Zq.moved hW0.alike (hN.kept hS.2.1)
  have h : ∀ w ∈ Bundle.ownAtoms0 own ic cls names, w.before args s' = true := vx_own hat' (vx_isRefq hU'.1) (vx_isRefq hN'.1) hU'.2.word hN'.2.word
  have hown' : s'.vm.findClass own = some m.cls := by rw [hvm]; exact hown
  have hins : (Cond.instantiable cls 6).before args s' = true := h _ (by simp [Bundle.ownAtoms0])
  obtain ⟨vm₁, cX, kX, hfX, hkX, -, -, X₁, st1⟩ := Y.newCold hexec (own := own) (C := cls) (index := ik) (n := 6) hown' hk' hins hini'
    (g := F0 m pc ls rest) rfl (by rw [hb]; exact d0) (Nat.le_refl _) (Nat.le_refl _)
  generalize hT1 : (T.setVm vm₁).pushCell { cls := cX, slots := kX.instanceTypes.map defaultValue, vm := .none } = T1 at X₁ st1
  have hcat : (Value.ref T.heap.size).category = 1 := rfl
  have hcellA : T1.heap[T.heap.size]? = some (freshCell cX kX) := by rw [← hT1]; exact State.heap_pushCell_size _ _
  have d3' : decode c.code (pc + 3) = .ok (.dup, 1) := by rw [hb]; exact d3
  obtain ⟨U, hsteps, hrun, hend, hW, hsame, ce, hce, hO⟩ := X₁.ctorThrow0 hexec htr (own := own) (cls := cls) (names := names) (ic := ic) hown' hcls hnames h (fun x hx => nomatch hx) hfX hkX hcellA (by rw [hhp, hT]; exact Nat.le_refl _)
    (g := { method := m, pc := pc + 4, locals := ls, stack := .ref T.heap.size :: .ref T.heap.size :: rest, locked := none }) rfl hsize rfl rfl (rest := rest) rfl
    (by rw [hb]; exact d4) (by rw [hb]; exact d7) hout hRframes (by simp only [List.map_cons, List.sum_cons, hcat]; omega) hlocks
  obtain ⟨f1, f2⟩ := vx_frame hsame
  rw [hhp] at f1 f2
  have hWs : s.WarmedH U.vm := State.WarmedH.trans hW0 hW
  have hcl : s.vm.findClass cls = some ce.cls := by
    have h9 := hO.cls
    rw [hvm] at h9
    exact h9
  have hall : s.sameButNew ({ U with vm := s.vm } : State) locs mc ms := by
    subst hA
    obtain ⟨e1, e2⟩ := hsame
    rw [State.setFrames_setFrames] at e1
    have h2 : (T.setVm s.vm).sameButNew ({ U with vm := s.vm } : State) [] (0 + 1) (0 + 6) := ⟨e1, e2⟩
    have h3 := X.same.trans h2
    rw [List.append_nil] at h3
    exact h3.mono hc hs
  refine ⟨U, ?_, .threw T.heap.size, hrun, hend, Or.inr ⟨T.heap.size, rfl, cls, ce, locs, hx U hWs.alike f1 (fun q hq => f2 q hq (fun z hz => nomatch hz)), hce, hO.vm, hcl, hWs, hall, hf⟩⟩
  refine st1 _ ?_
  show Steps p.tables e below (T1.setTop { method := m, pc := pc + 3, locals := ls, stack := .ref T.heap.size :: rest, locked := none }) _
  jvm_step X₁.here [X₁.here.top, hexec, d3', Value.category]
  exact hsteps
/-- 'throw new E("text")': new; dup; ldc; invokespecial; athrow -/
theorem vx_throwS {cc : ByteArray} {pc : Nat} (hexec : p.tables.exec = Jvm.exec) (hb : c.code = cc) (hl : l.stackTraces = false) {own cls text : String} {names : List String} {ik is ic mc ms sa : Nat} {A : Nat → Prop}
    (hown : s.vm.findClass own = some m.cls) (hcls : Bundle.fit cls = true) (hnames : ∀ n ∈ names, Bundle.fit n = true)
    (hk : (Cond.classLink own ik cls).before args s = true) (hini : (Cond.initialized cls).before args s = true) (hstr : vk_R own is text sa s) (hat : ∀ w ∈ vx_atS own ic cls names, w.before args s = true)
    (hgood : ∀ w ∈ Cond.classLink own ik cls :: Cond.initialized cls :: vx_atS own ic cls names, vx_ot w = true)
    (hU : vx_Zq Bundle.tN "UNASSIGNED_STACK" Bundle.steD A s s.heap) (hN : vx_Zq Bundle.tN "SUPPRESSED_SENTINEL" Bundle.listD A s s.heap) (hS : va_S A s.heap H locs) (hsize : ls.size = c.maxLocals)
    (d0 : decode cc pc = .ok (.new ik, 3)) (d3 : decode cc (pc + 3) = .ok (.dup, 1)) (d4 : decode cc (pc + 4) = .ok (.ldc is, 2)) (d6 : decode cc (pc + 6) = .ok (.invokespecial ic, 3)) (d9 : decode cc (pc + 9) = .ok (.athrow, 1))
    (hout : ∀ x ∈ c.exceptionTable.toList, covers x (pc + 9) = false)
    (hRframes : names.length + 3 < R.frames) (hRlocals : (rest.map fun v => v.category).sum + (13 * (names.length + 1) + 43) ≤ R.locals) (hRcells : cells + 1 ≤ R.cells) (hRslots : slots + 6 ≤ R.slots) (hlocks : meth.locks = false)
    (hx : ∀ t : State, s.vm.Alike t.vm → H.size ≤ t.heap.size → (∀ q : Nat, q < H.size → t.heap[q]? = H[q]?) → XC cls s t)
    (hf : ∀ z ∈ locs, free z.base) (hc : cells + 1 ≤ mc) (hs : slots + 6 ≤ ms) :
    W p l e R s m args below meth c H locs cells slots (vx_MQ below Qc XC args s mc ms free) (F0 m pc ls rest) := by
  intro T hT X
  have htr : e.platform.stackTraces = false := (show e.platform.stackTraces = l.stackTraces by rw [X.admits.platform]).trans hl
  have Y := vx_rebase X (R' := { frames := R.frames, locals := R.locals, cells := 1, slots := 6 }) (Nat.le_refl _) (Nat.le_refl _) hRcells hRslots
  obtain ⟨s', hA⟩ : ∃ z, z = (T.setVm s.vm).setFrames (.invoking m args :: below) := ⟨_, rfl⟩
  rw [← hA] at Y
  have hvm : s'.vm = s.vm := by rw [hA]; rfl
  have hhp : s'.heap = H := by rw [hA]; exact hT
  have hW0 : s.WarmedH s'.vm := by rw [hvm]; exact State.WarmedH.refl s
  have hat' : ∀ w ∈ vx_atS own ic cls names, w.before args s' = true := fun w hw => vx_ot_at hW0 hvm.symm (hgood w (List.mem_cons_of_mem _ (List.mem_cons_of_mem _ hw))) (hat w hw)
  have hk' : (Cond.classLink own ik cls).before args s' = true := vx_ot_at hW0 hvm.symm (hgood _ List.mem_cons_self) hk
  have hini' : (Cond.initialized cls).before args s' = true := vx_ot_at hW0 hvm.symm (hgood _ (List.mem_cons_of_mem _ List.mem_cons_self)) hini
  have hU' : vx_Zq Bundle.tN "UNASSIGNED_STACK" Bundle.steD A s' s'.heap := by rw [hhp]; exact vx_Zq.moved hW0.alike (hU.kept hS.2.1)
  have hN' : vx_Zq Bundle.tN "SUPPRESSED_SENTINEL" Bundle.listD A s' s'.heap := by rw [hhp]; exact vx_Zq.moved hW0.alike (hN.kept hS.2.1)
  have h : ∀ w ∈ Bundle.ownAtoms own ic cls names, w.before args s' = true := vx_own hat' (vx_isRefq hU'.1) (vx_isRefq hN'.1) hU'.2.word hN'.2.word
  have hown' : s'.vm.findClass own = some m.cls := by rw [hvm]; exact hown
  have hins : (Cond.instantiable cls 6).before args s' = true := h _ (by simp [Bundle.ownAtoms])
  obtain ⟨vm₁, cX, kX, hfX, hkX, -, -, X₁, st1⟩ := Y.newCold hexec (own := own) (C := cls) (index := ik) (n := 6) hown' hk' hins hini'
    (g := F0 m pc ls rest) rfl (by rw [hb]; exact d0) (Nat.le_refl _) (Nat.le_refl _)
  generalize hT1 : (T.setVm vm₁).pushCell { cls := cX, slots := kX.instanceTypes.map defaultValue, vm := .none } = T1 at X₁ st1
  have hcat : (Value.ref T.heap.size).category = 1 := rfl
  have hcellA : T1.heap[T.heap.size]? = some (freshCell cX kX) := by rw [← hT1]; exact State.heap_pushCell_size _ _
  have d3' : decode c.code (pc + 3) = .ok (.dup, 1) := by rw [hb]; exact d3
  have d4' : decode c.code (pc + 4) = .ok (.ldc is, 2) := by rw [hb]; exact d4
  have hstr' : vk_R own is text sa s' := vk_R.warm hW0 hstr
  obtain ⟨U, hsteps, hrun, hend, hW, hsame, ce, hce, hO⟩ := X₁.ctorThrowS hexec htr (own := own) (cls := cls) (names := names) (ic := ic) hown' hcls hnames h (fun x hx => nomatch hx) hfX hkX hcellA (by rw [hhp, hT]; exact Nat.le_refl _) (msg := .ref sa) rfl
    (g := { method := m, pc := pc + 6, locals := ls, stack := .ref sa :: .ref T.heap.size :: .ref T.heap.size :: rest, locked := none }) rfl hsize rfl rfl (rest := rest) rfl
    (by rw [hb]; exact d6) (by rw [hb]; exact d9) hout hRframes (by simp only [List.map_cons, List.sum_cons, hcat]; omega) hlocks
  obtain ⟨f1, f2⟩ := vx_frame hsame
  rw [hhp] at f1 f2
  have hWs : s.WarmedH U.vm := State.WarmedH.trans hW0 hW
  have hcl : s.vm.findClass cls = some ce.cls := by
    have h9 := hO.cls
    rw [hvm] at h9
    exact h9
  have hall : s.sameButNew ({ U with vm := s.vm } : State) locs mc ms := by
    subst hA
    obtain ⟨e1, e2⟩ := hsame
    rw [State.setFrames_setFrames] at e1
    have h2 : (T.setVm s.vm).sameButNew ({ U with vm := s.vm } : State) [] (0 + 1) (0 + 6) := ⟨e1, e2⟩
    have h3 := X.same.trans h2
    rw [List.append_nil] at h3
    exact h3.mono hc hs
  refine ⟨U, ?_, .threw T.heap.size, hrun, hend, Or.inr ⟨T.heap.size, rfl, cls, ce, locs, hx U hWs.alike f1 (fun q hq => f2 q hq (fun z hz => nomatch hz)), hce, hO.vm, hcl, hWs, hall, hf⟩⟩
  refine st1 _ ?_
  show Steps p.tables e below (T1.setTop { method := m, pc := pc + 3, locals := ls, stack := .ref T.heap.size :: rest, locked := none }) _
  jvm_step X₁.here [X₁.here.top, hexec, d3', Value.category]
  exact X₁.ldcString hexec (own := own) (text := text) (index := is) (a := sa) hown' hstr'.1 hstr'.2
    (g := { method := m, pc := pc + 4, locals := ls, stack := .ref T.heap.size :: .ref T.heap.size :: rest, locked := none }) rfl d4' _ hsteps
/-- 'throw new E("text")', the text by a wide index -/
theorem vx_throwSW {cc : ByteArray} {pc : Nat} (hexec : p.tables.exec = Jvm.exec) (hb : c.code = cc) (hl : l.stackTraces = false) {own cls text : String} {names : List String} {ik is ic mc ms sa : Nat} {A : Nat → Prop}
    (hown : s.vm.findClass own = some m.cls) (hcls : Bundle.fit cls = true) (hnames : ∀ n ∈ names, Bundle.fit n = true)
    (hk : (Cond.classLink own ik cls).before args s = true) (hini : (Cond.initialized cls).before args s = true) (hstr : vk_R own is text sa s) (hat : ∀ w ∈ vx_atS own ic cls names, w.before args s = true)
    (hgood : ∀ w ∈ Cond.classLink own ik cls :: Cond.initialized cls :: vx_atS own ic cls names, vx_ot w = true)
    (hU : vx_Zq Bundle.tN "UNASSIGNED_STACK" Bundle.steD A s s.heap) (hN : vx_Zq Bundle.tN "SUPPRESSED_SENTINEL" Bundle.listD A s s.heap) (hS : va_S A s.heap H locs) (hsize : ls.size = c.maxLocals)
    (d0 : decode cc pc = .ok (.new ik, 3)) (d3 : decode cc (pc + 3) = .ok (.dup, 1)) (d4 : decode cc (pc + 4) = .ok (.ldc_w is, 3)) (d7 : decode cc (pc + 7) = .ok (.invokespecial ic, 3)) (d10 : decode cc (pc + 10) = .ok (.athrow, 1))
    (hout : ∀ x ∈ c.exceptionTable.toList, covers x (pc + 10) = false)
    (hRframes : names.length + 3 < R.frames) (hRlocals : (rest.map fun v => v.category).sum + (13 * (names.length + 1) + 43) ≤ R.locals) (hRcells : cells + 1 ≤ R.cells) (hRslots : slots + 6 ≤ R.slots) (hlocks : meth.locks = false)
    (hx : ∀ t : State, s.vm.Alike t.vm → H.size ≤ t.heap.size → (∀ q : Nat, q < H.size → t.heap[q]? = H[q]?) → XC cls s t)
    (hf : ∀ z ∈ locs, free z.base) (hc : cells + 1 ≤ mc) (hs : slots + 6 ≤ ms) :
    W p l e R s m args below meth c H locs cells slots (vx_MQ below Qc XC args s mc ms free) (F0 m pc ls rest) := by
  intro T hT X
  have htr : e.platform.stackTraces = false := (show e.platform.stackTraces = l.stackTraces by rw [X.admits.platform]).trans hl
  have Y := vx_rebase X (R' := { frames := R.frames, locals := R.locals, cells := 1, slots := 6 }) (Nat.le_refl _) (Nat.le_refl _) hRcells hRslots
  obtain ⟨s', hA⟩ : ∃ z, z = (T.setVm s.vm).setFrames (.invoking m args :: below) := ⟨_, rfl⟩
  rw [← hA] at Y
  have hvm : s'.vm = s.vm := by rw [hA]; rfl
  have hhp : s'.heap = H := by rw [hA]; exact hT
  have hW0 : s.WarmedH s'.vm := by rw [hvm]; exact State.WarmedH.refl s
  have hat' : ∀ w ∈ vx_atS own ic cls names, w.before args s' = true := fun w hw => vx_ot_at hW0 hvm.symm (hgood w (List.mem_cons_of_mem _ (List.mem_cons_of_mem _ hw))) (hat w hw)
  have hk' : (Cond.classLink own ik cls).before args s' = true := vx_ot_at hW0 hvm.symm (hgood _ List.mem_cons_self) hk
  have hini' : (Cond.initialized cls).before args s' = true := vx_ot_at hW0 hvm.symm (hgood _ (List.mem_cons_of_mem _ List.mem_cons_self)) hini
  have hU' : vx_Zq Bundle.tN "UNASSIGNED_STACK" Bundle.steD A s' s'.heap := by rw [hhp]; exact vx_Zq.moved hW0.alike (hU.kept hS.2.1)
  have hN' : vx_Zq Bundle.tN "SUPPRESSED_SENTINEL" Bundle.listD A s' s'.heap := by rw [hhp]; exact vx_Zq.moved hW0.alike (hN.kept hS.2.1)
  have h : ∀ w ∈ Bundle.ownAtoms own ic cls names, w.before args s' = true := vx_own hat' (vx_isRefq hU'.1) (vx_isRefq hN'.1) hU'.2.word hN'.2.word
  have hown' : s'.vm.findClass own = some m.cls := by rw [hvm]; exact hown
  have hins : (Cond.instantiable cls 6).before args s' = true := h _ (by simp [Bundle.ownAtoms])
  obtain ⟨vm₁, cX, kX, hfX, hkX, -, -, X₁, st1⟩ := Y.newCold hexec (own := own) (C := cls) (index := ik) (n := 6) hown' hk' hins hini'
    (g := F0 m pc ls rest) rfl (by rw [hb]; exact d0) (Nat.le_refl _) (Nat.le_refl _)
  generalize hT1 : (T.setVm vm₁).pushCell { cls := cX, slots := kX.instanceTypes.map defaultValue, vm := .none } = T1 at X₁ st1
  have hcat : (Value.ref T.heap.size).category = 1 := rfl
  have hcellA : T1.heap[T.heap.size]? = some (freshCell cX kX) := by rw [← hT1]; exact State.heap_pushCell_size _ _
  have d3' : decode c.code (pc + 3) = .ok (.dup, 1) := by rw [hb]; exact d3
  have d4' : decode c.code (pc + 4) = .ok (.ldc_w is, 3) := by rw [hb]; exact d4
  have hstr' : vk_R own is text sa s' := vk_R.warm hW0 hstr
  obtain ⟨U, hsteps, hrun, hend, hW, hsame, ce, hce, hO⟩ := X₁.ctorThrowS hexec htr (own := own) (cls := cls) (names := names) (ic := ic) hown' hcls hnames h (fun x hx => nomatch hx) hfX hkX hcellA (by rw [hhp, hT]; exact Nat.le_refl _) (msg := .ref sa) rfl
    (g := { method := m, pc := pc + 7, locals := ls, stack := .ref sa :: .ref T.heap.size :: .ref T.heap.size :: rest, locked := none }) rfl hsize rfl rfl (rest := rest) rfl
    (by rw [hb]; exact d7) (by rw [hb]; exact d10) hout hRframes (by simp only [List.map_cons, List.sum_cons, hcat]; omega) hlocks
  obtain ⟨f1, f2⟩ := vx_frame hsame
  rw [hhp] at f1 f2
  have hWs : s.WarmedH U.vm := State.WarmedH.trans hW0 hW
  have hcl : s.vm.findClass cls = some ce.cls := by
    have h9 := hO.cls
    rw [hvm] at h9
    exact h9
  have hall : s.sameButNew ({ U with vm := s.vm } : State) locs mc ms := by
    subst hA
    obtain ⟨e1, e2⟩ := hsame
    rw [State.setFrames_setFrames] at e1
    have h2 : (T.setVm s.vm).sameButNew ({ U with vm := s.vm } : State) [] (0 + 1) (0 + 6) := ⟨e1, e2⟩
    have h3 := X.same.trans h2
    rw [List.append_nil] at h3
    exact h3.mono hc hs
  refine ⟨U, ?_, .threw T.heap.size, hrun, hend, Or.inr ⟨T.heap.size, rfl, cls, ce, locs, hx U hWs.alike f1 (fun q hq => f2 q hq (fun z hz => nomatch hz)), hce, hO.vm, hcl, hWs, hall, hf⟩⟩
  refine st1 _ ?_
  show Steps p.tables e below (T1.setTop { method := m, pc := pc + 3, locals := ls, stack := .ref T.heap.size :: rest, locked := none }) _
  jvm_step X₁.here [X₁.here.top, hexec, d3', Value.category]
  exact X₁.ldcStringW hexec (own := own) (text := text) (index := is) (a := sa) hown' hstr'.1 hstr'.2
    (g := { method := m, pc := pc + 4, locals := ls, stack := .ref T.heap.size :: .ref T.heap.size :: rest, locked := none }) rfl d4' _ hsteps
end Ends
section Bodies
variable {l : Launch}
theorem vx_ofW {y : MethodName} {ws ws' : List Cond} {rm : Room} {Pc : Array Value → State → Prop} {Qc : Array Value → State → Outcome → State → Prop} {XC : String → State → State → Prop} {mc ms : Nat} {free : Addr → Prop} {cc : ByteArray} {maxL : Nat} {ret : Option FieldType}
    (hy : plainName y.cls = true) (hw : ws = Cond.code y cc maxL ret :: ws')
    (body : ∀ p e s m args below meth c s₁, BodyLoose p l y (headSpec ws rm) cc maxL ret e s m args below meth c s₁ → c.maxLocals = maxL → (∀ x ∈ c.exceptionTable.toList, False) → Pc args s →
      W p l e (headSpec ws rm).room s m args below meth c s.heap [] 0 0 (vx_MQ below Qc XC args s mc ms free) (entryFrame m args maxL)) : vx_Met l y ws rm Pc Qc XC mc ms free := by
  refine MetFree.of_bodyS (code := cc) (maxLocals := maxL) (ret := ret) hy ?_ ?_
  · intro args s m h hn
    obtain ⟨meth, c, h1, h2, h3, h4, h5, h6, -, -⟩ := Cond.code_spec hn (atoms_spec (ws := ws) h _ (by rw [hw]; exact List.mem_cons_self))
    exact ⟨meth, c, h1, h2, h3, h4, h5, h6⟩
  · intro p e s m args below meth c s₁ B hml hP _
    have hh0 : s₁.heap = s.heap := by rw [B.state]; rfl
    have ht : ∀ x ∈ c.exceptionTable.toList, False := by
      obtain ⟨meth9, c9, h1, h2, -, -, -, -, h7, -⟩ := Cond.code_spec B.named (atoms_spec (ws := ws) B.pre _ (by rw [hw]; exact List.mem_cons_self))
      cases Option.some.inj (h1.symm.trans B.method)
      cases Option.some.inj (h2.symm.trans (Stand.of_body B).code)
      intro x hx
      rw [Array.isEmpty_iff.mp h7] at hx
      cases hx
    obtain ⟨t, a1, o, b1, b2, b3⟩ := body p e s m args below meth c s₁ B hml ht hP s₁ hh0 (Stand.of_body B)
    exact ⟨t, o, a1, b1, b2, b3⟩
/-- the table of a body with handlers -/
theorem vx_table {p : Program} {x y : MethodName} {S : Spec} {cc bytes : ByteArray} {maxL maxL' : Nat} {ret ret' : Option FieldType} {e : Env} {s s₁ : State} {m : MethodId} {args : Array Value} {below : List Frame} {meth : Method} {c : Code} {hh : List (Nat × Nat × Nat × Nat)}
    (B : BodyLoose p l y S cc maxL ret e s m args below meth c s₁) (h : (Cond.codeWith y bytes maxL' ret' hh).before args s = true) : c.exceptionTable.toList = tableOf hh := by
  obtain ⟨m9, meth9, c9, hn9, h1, h2, -, -, h6, -⟩ := Cond.codeWith_spec h
  cases Option.some.inj (hn9.symm.trans B.named)
  cases Option.some.inj (h1.symm.trans B.method)
  cases Option.some.inj (h2.symm.trans (Stand.of_body B).code)
  rw [← h6, table_eq]
end Bodies
end VXA
/-! ===== END ===== -/
/-! ===== BEGIN a static call of a method with an exception table ===== -/
section VXS
variable {p : Program} {l : Launch} {e : Env} {R : Room} {s : State} {m : MethodId} {args : Array Value} {below : List Frame} {meth : Method} {c : Code} {T : State} {H : Heap} {locs : List Loc} {cells slots : Nat}
abbrev vx_CSW (R : Room) (s : State) (args : Array Value) (own : String) (index : Nat) (y : MethodName) (bytes : ByteArray) (maxL : Nat) (ret : Option FieldType) (hh : List (Nat × Nat × Nat × Nat)) (ws : List Cond) (rm : Room) (mc ms n : Nat) : Prop :=
  (rm.cells = mc ∧ rm.slots = ms ∧ rm.frames + 1 ≤ R.frames ∧ 8 + (maxL + 11) + rm.locals ≤ R.locals ∧ (∀ w ∈ ws, ∀ (a' : Array Value) (U : State), s.WarmedH U.vm → w.before a' U = true) ∧ Cond.codeWith y bytes maxL ret hh ∈ ws) ∧
  (Cond.codeWith y bytes maxL ret hh).before args s = true ∧ (Cond.initialized y.cls).before args s = true ∧ (y.cls ≠ "java/lang/invoke/MethodHandle" ∧ y.cls ≠ "java/lang/invoke/VarHandle") ∧
  (∀ sig, parseMethodDescriptor y.desc = some sig → n = sig.parameters.length) ∧ (Cond.methodLink own index y).before args s = true ∧ (Cond.static y).before args s = true
theorem vx_cwSW {own : String} {index maxL mc ms : Nat} {y : MethodName} {bytes : ByteArray} {ret : Option FieldType} {hh : List (Nat × Nat × Nat × Nat)} {Ts ws ws' : List Cond} {rm : Room} (n : Nat) (ht : ∀ w ∈ Ts, w.before args s = true) (hT : GoodIn Ts (va_wsS own index y ws)) (hw : ws = Cond.codeWith y bytes maxL ret hh :: ws') (hrc : rm.cells = mc) (hrs : rm.slots = ms)
    (hd : y.cls ≠ "java/lang/invoke/MethodHandle" ∧ y.cls ≠ "java/lang/invoke/VarHandle" ∧ (parseMethodDescriptor y.desc).map (fun d => d.parameters.length) = some n) (hR : rm.frames + 1 ≤ R.frames ∧ 8 + (maxL + 11) + rm.locals ≤ R.locals) :
    vx_CSW R s args own index y bytes maxL ret hh ws rm mc ms n := by
  have ok : ∀ w ∈ va_wsS own index y ws, w.before args s = true := fun w h => ht w (hT w h).1
  have hG : GoodIn Ts ws := fun w h => hT w (by unfold va_wsS; exact List.mem_append_right _ h)
  have hc : Cond.codeWith y bytes maxL ret hh ∈ ws := by rw [hw]; exact List.mem_cons_self
  refine ⟨⟨hrc, hrs, hR.1, hR.2, pay_in ht hG, hc⟩, ht _ (hG _ hc).1, ok _ (by simp [va_wsS]), ⟨hd.1, hd.2.1⟩, fun sig h => ?_, ok _ (by simp [va_wsS]), ok _ (by simp [va_wsS])⟩
  have h2 := hd.2.2
  rw [h] at h2
  exact (Option.some.inj h2).symm
theorem vx_callSW (X : Stand p l e R s m args below meth c T locs cells slots) (hexec : p.tables.exec = Jvm.exec) {own : String} {index : Nat} {y : MethodName} {bytes : ByteArray} {maxL : Nat} {ret : Option FieldType} {hh : List (Nat × Nat × Nat × Nat)}
    (hown : s.vm.findClass own = some m.cls) (hlink : (Cond.methodLink own index y).before args s = true) (hstat : (Cond.static y).before args s = true) (hinit : (Cond.initialized y.cls).before args s = true)
    (hcode : (Cond.codeWith y bytes maxL ret hh).before args s = true) (hy : y.cls ≠ "java/lang/invoke/MethodHandle" ∧ y.cls ≠ "java/lang/invoke/VarHandle")
    {W9 : Nat} {Pre : Pt → Array Value → Prop} {Post : Pt → Array Value → Option Value → Pt → Prop} (hK : Back l R p e below s args y 3 W9 Pre Post)
    {g : JFrame} (hg : g.method = m) (hsize : g.locals.size = c.maxLocals) {argsL rest : List Value} (hlen : ∀ sig, parseMethodDescriptor y.desc = some sig → argsL.length = sig.parameters.length)
    (hstack : g.stack = argsL.reverse ++ rest) (hW : 2 * g.monitorRoom + (rest.map fun v => v.category).sum ≤ W9) (hdg : decode c.code g.pc = .ok (.invokestatic index, 3))
    (hpre : ∀ vm₁, s.WarmedH vm₁ → Pre ⟨T.setVm vm₁, locs, cells, slots⟩ argsL.toArray) :
    ∃ (v : Option Value) (vm₁ : Vm) (B : Pt), s.WarmedH vm₁ ∧ Stand p l e R s m args below meth c B.U B.locs B.cells B.slots ∧ Post ⟨T.setVm vm₁, locs, cells, slots⟩ argsL.toArray v B ∧
      ∀ target, Steps p.tables e below (B.U.setTop { g with pc := g.pc + 3, stack := v.toList ++ rest }) target → Steps p.tables e below (T.setTop g) target := by
  obtain ⟨mk, methM, cM, hnamed, hmethM, -, -, -, -, -, -, hsigM⟩ := Cond.codeWith_spec hcode
  have hstatic : methM.isStatic = true := Cond.static_spec hnamed hmethM hstat
  obtain ⟨kP, hkP, -⟩ := className_of_methodNamed hnamed
  have hinitP : kP.init = .initialized := Cond.initialized_spec (findClass_of_methodNamed hnamed) hkP hinit
  obtain ⟨vm₁, X₁, hstep₁⟩ := X.invokestatic hexec hown hlink hnamed hmethM hstatic hkP hinitP hy (g := g) hg (argsL := argsL) (rest := rest) (hlen _ hsigM) hstack hdg
  obtain ⟨v, B, X', hpost, hsteps⟩ := hK m meth c ⟨T.setVm vm₁, locs, cells, slots⟩ { g with stack := rest } (.invokestatic index) mk argsL.toArray X₁ hg hsize hdg hW (X₁.named hnamed) (hpre vm₁ X₁.warmed)
  exact ⟨v, vm₁, B, X₁.warmed, X', hpost, fun target h => hstep₁ _ fun acts => by rw [doInvoke_state]; exact hsteps.trans h⟩
theorem vx_runSW {y : MethodName} {bytes cc : ByteArray} {maxL nL mc ms n index : Nat} {ret : Option FieldType} {hh : List (Nat × Nat × Nat × Nat)} {ws : List Cond} {rm : Room} {Pc : Array Value → State → Prop} {Qc : Array Value → State → Outcome → State → Prop} {free : Addr → Prop} {Ts : List Cond} {own : String} {As rest : List Value} {g : JFrame}
    (S : CallFix p m c cc nL s args Ts own) (hM : Met l y ws rm Pc Qc mc ms free) (cw : vx_CSW R s args own index y bytes maxL ret hh ws rm mc ms n) (hp : PreS s H Pc As)
    (hg : g.method = m) (hn : As.length = n) (hsize : g.locals.size = nL) (hstack : g.stack = As.reverse ++ rest) (hW : 2 * g.monitorRoom + (rest.map fun v => v.category).sum ≤ 8) (hdg : decode cc g.pc = .ok (.invokestatic index, 3)) (hf : cells + mc ≤ R.cells ∧ slots + ms ≤ R.slots) :
    va_Run p l e R s m args below meth c H locs cells slots mc ms g rest (Qc As.toArray) (free) := by
  obtain ⟨⟨hrc, hrs, hfr, hlo, hws, hcw⟩, hcode, hini, hy, hlen, hl, hstt⟩ := cw
  have hK : Back l R p e below s args y 3 8 (PreOf R mc ms Pc) (PostOf Qc mc ms free) := va_backW (hh := hh) (bytes := bytes) (maxL := maxL) (ret := ret) hM hp.1 hrc hrs hfr hlo hws hcw (fun a' U hW => word_at hW (Or.inl (by first | rfl | simp [Cond.onTables, Cond.keeps, Cond.steady])) hini)
  obtain ⟨hx, hb, hml, ho, -⟩ := S
  intro T hT X
  obtain ⟨v, vm₁, ⟨U', l2, c2, s2⟩, hW₁, X', ⟨g', mk, t, L, e1, e2, hq, h1, hL, h2, h3⟩, st⟩ := vx_callSW X hx (hh := hh) (bytes := bytes) (maxL := maxL) (ret := ret) ho hl hstt hini hcode hy hK hg (hsize.trans hml.symm) (argsL := As) (rest := rest) (fun sig h => hn.trans (hlen sig h)) hstack hW (by rw [hb]; exact hdg)
    (fun vm₁ hW₁ => ⟨hf.1, hf.2, hp.2 (T.setVm vm₁) hT hW₁⟩)
  dsimp only [Pt.U, Pt.locs, Pt.cells, Pt.slots] at X' e1 e2 h1 h2 h3 st
  subst h1; subst h2; subst h3
  exact ⟨v, (T.setVm vm₁).calling g' mk As.toArray, t, U', L, hT, X', hL, e1, e2, hq, st⟩
/-- not caught here, past rows that name other classes: it goes on to the caller -/
theorem vx_outP {p : Program} {l : Launch} {e : Env} {R : Room} {s : State} {m : MethodId} {args : Array Value} {below : List Frame} {meth : Method} {c : Code} {H : Heap} {locs : List Loc} {cells slots : Nat} {free : Addr → Prop} {ls : Array Slot} {rest : List Value} {Qc : Array Value → State → Outcome → State → Prop} {XC : String → State → State → Prop}
    {pc : Nat} {own E : String} {ce : Cell} {q : Addr} {mc ms : Nat} (hown : s.vm.findClass own = some m.cls) (hlocks : meth.locks = false)
    (hpass : ∀ z ∈ c.exceptionTable.toList, covers z pc = false ∨ (z.catchType ≠ 0 ∧ ∃ nm : String, (Cond.classLink own z.catchType nm).before args s = true ∧ va_Nc E nm s)) (hcell : H[q]? = some ce) (hv : ce.vm = .none) (hcl : s.vm.findClass E = some ce.cls)
    (hx : ∀ t : State, t.heap = H → s.vm.Alike t.vm → XC E s t) (hf : ∀ z ∈ locs, free z.base) (hc : cells ≤ mc) (hs : slots ≤ ms) :
    vx_W p l e R s m args below meth c H locs cells slots (vx_MQ below Qc XC args s mc ms free) (F0 m pc ls rest) q := by
  intro T hT X
  have hpl : e.platform.magicAccessors = ({} : Platform).magicAccessors := by rw [X.admits.platform]
  obtain ⟨vm', hW', X', st⟩ := X.outThrough hlocks q (g := F0 m pc ls rest) rfl rfl rfl (cell := ce) (by rw [hT]; exact hcell) (by rw [hv]; rfl)
    (by obtain ⟨k9, h9, -⟩ := Vm.findClass_spec hcl; exact ⟨k9, h9⟩) (fun z hz => by
      rcases hpass z hz with h | ⟨hz0, nm, hl1, hn1⟩
      · exact Or.inl h
      · obtain ⟨c6, hc6, hcl6⟩ := Cond.classLink_spec hown hl1 e.platform hpl
        obtain ⟨a8, b8, h1, h2, h3⟩ := hn1
        cases Option.some.inj (h1.symm.trans hcl)
        cases Option.some.inj (h2.symm.trans hc6)
        exact Or.inr ⟨hz0, _, hcl6, h3⟩)
  obtain ⟨g₀, hfr⟩ := X'.frames_eq
  have hcell9 : ((T.setVm vm').setFrames (.throwing q :: below)).heap[q]? = some ce := by
    show T.heap[q]? = some ce
    rw [hT]; exact hcell
  have hend : Ended ((T.setVm vm').setFrames (.throwing q :: below)) below (.threw q) := State.frames_setFrames _ (State.cur_lt_of_frames hfr)
  refine ⟨(T.setVm vm').setFrames (.throwing q :: below), ?_, .threw q, X'.here.running, hend, Or.inr ⟨q, rfl, E, ce, locs, hx _ hT (X'.ends _).1.alike, hcell9, hv, hcl, (X'.ends _).1, (X'.ends _).2.mono hc hs, hf⟩⟩
  rw [X.pushThrowing_eq]
  exact st
/-- a thing of a world lies in the heap -/
theorem vx_lt {D : va_G} {cl : List vw_C} {ws : va_W} {H1 : Heap} (h : va_P D cl ws H1) {k : Nat} {q : Nat × va_E} (hk : ws[k]? = some q) : q.1 < H1.size := (h k q hk).lt
end VXS
/-! ===== END ===== -/
/-! ===== BEGIN methods with a table of their own: called by a name, returning or throwing ===== -/
section VXH
/-! vx_backW, vx_callVX, vx_callSX, vx_callVW, vx_runVW, vx_runVX, vx_runSX, vx_ofWH follow the same proofs as their sisters above (Free/Laws.lean, Shelf42/LK1.lean); vx_outP calls Shelf42/NT130.lean (outThrough). -/
section
variable {l : Launch} {R : Room} {p : Program} {e : Env} {below : List Frame} {s : State} {sargs : Array Value} {y : MethodName} {len W9 : Nat}
theorem vx_backW {ws : List Cond} {rm : Room} {Pc : Array Value → State → Prop} {Qc : Array Value → State → Outcome → State → Prop} {XC : String → State → State → Prop} {mc ms : Nat} {free : Addr → Prop} {bytes : ByteArray} {maxL : Nat} {ret : Option FieldType} {hh : List (Nat × Nat × Nat × Nat)}
    (hM : vx_Met l y ws rm Pc Qc XC mc ms free) (hblind : FrameBlind Pc) (hrc : rm.cells = mc) (hrs : rm.slots = ms)
    (hframes : rm.frames + 1 ≤ R.frames) (hlocals : W9 + (maxL + 11) + rm.locals ≤ R.locals)
    (hws : ∀ w ∈ ws, ∀ a' U, s.WarmedH U.vm → w.before a' U = true) (hcode : Cond.codeWith y bytes maxL ret hh ∈ ws) (hinit : ∀ a' U, s.WarmedH U.vm → (Cond.initialized y.cls).before a' U = true) :
    vx_Back l R p e below s sargs y len W9 (PreOf R mc ms Pc) (PostOf Qc mc ms free) (vx_Post XC mc ms free) := by
  intro m meth c A g ig mk a X hg hsize hdg hW hn hp
  have h1 : (headSpec ws rm).pre.before a A.U = true := atoms_intro fun w hw => hws w hw _ _ X.warmed
  have h2 : (Cond.codeWith y bytes maxL ret hh).before a A.U = true := hws _ hcode _ _ X.warmed
  have h3 : (Cond.initialized y.cls).before a A.U = true := hinit _ _ X.warmed
  have h4 : A.cells + (headSpec ws rm).room.cells ≤ R.cells := by rw [show (headSpec ws rm).room.cells = mc from hrc]; exact hp.1
  have h5 : A.slots + (headSpec ws rm).room.slots ≤ R.slots := by rw [show (headSpec ws rm).room.slots = ms from hrs]; exact hp.2.1
  have hPc : Pc a (A.U.calling g mk a) := hblind _ _ _ _ hp.2.2
  obtain ⟨U, Ls, c0, s0⟩ := A
  dsimp only [Pt.U, Pt.locs, Pt.cells, Pt.slots] at h1 h2 h3 h4 h5 X hn hPc ⊢
  obtain ⟨m9, methY, cY, hn9, hmY, hcY, -, hlY, -⟩ := Cond.codeWith_spec h2
  cases Option.some.inj (hn9.symm.trans hn)
  obtain ⟨kY, hkY, -⟩ := className_of_methodNamed hn
  have hinitY : kY.init = .initialized := Cond.initialized_spec (findClass_of_methodNamed hn) hkY h3
  have h : At U g.method c below := by rw [hg]; exact X.here
  have hlocals9 : W9 + (maxL + 11) + (headSpec ws rm).room.locals ≤ R.locals := hlocals
  have happ : (headSpec ws rm).appliesLoose y e.platform (U.calling g mk a) = true :=
    Spec.appliesLoose_calling (g := g) h hdg hn hkY hinitY
      (X.room_calling (g := g) (R' := (headSpec ws rm).room) hsize hmY hcY hframes (by rw [hlY]; omega) h4 h5) h1
  obtain ⟨mid, hmid⟩ := h.above
  have hfr : (U.setTop g).frames = (.java g :: mid) ++ below := by rw [State.frames_setTop' g h.top, hmid]; rfl
  obtain ⟨o, s₂, hsteps, -, hend, hq⟩ := Steps.callFree hM p X.admits X.cas X.clock (acts := []) hfr happ hPc trivial
  have hq' : vx_Q Qc XC mc ms free a (U.calling g mk a) o s₂ := hq
  rw [State.frames_setTop' g h.top] at hend
  obtain ⟨g₀, hg0⟩ := Option.isSome_iff_exists.mp h.top
  obtain ⟨r, hr⟩ := State.topJava?_eq_some.mp hg0
  have hr' : (({ U with heap := s₂.heap, slotsUsed := s₂.slotsUsed } : State).setVm s₂.vm).frames = .java g₀ :: r := hr
  rcases hq' with ⟨hqc, L, hfe, hL⟩ | ⟨q, rfl, E, ce, L, hx, hce, hcv, hcl, hW₂, hsm, hL⟩
  · obtain ⟨⟨v, rfl⟩, hW₂, e2, q2, q3, q4, q5, q6⟩ := id hfe
    have e3 : s₂ = ({ (U.calling g mk a).setFrames s₂.frames with heap := s₂.heap, slotsUsed := s₂.slotsUsed } : State).setVm s₂.vm := by
      have : s₂ = ({ s₂ with vm := (U.calling g mk a).vm } : State).setVm s₂.vm := rfl
      rw [e2] at this
      exact this
    obtain ⟨c₂, i₂, len₂, hc₂, hd₂, hf₂⟩ := hend
    have hW' : U.WarmedH s₂.vm := hW₂
    have hcc : c₂ = c := by
      have h1 : s₂.code? g.method = U.code? g.method := by
        rw [State.code?_eq, State.code?_eq, hW'.alike.method?]
      exact Option.some.inj (hc₂.symm.trans (h1.trans h.code))
    subst hcc
    have hlen : len₂ = len := by rw [hdg] at hd₂; cases hd₂; rfl
    subst hlen
    have hs₂ : s₂ = (({ U with heap := s₂.heap, slotsUsed := s₂.slotsUsed } : State).setVm s₂.vm).setTop { g with pc := g.pc + len₂, stack := v.toList ++ g.stack } := by
      refine e3.trans ?_
      rw [hf₂, State.calling_eq h.top, State.setFrames_setFrames, State.setTop_of_frames _ hr', hr]
      rfl
    have hsame : U.sameButNew ({ U with heap := s₂.heap, slotsUsed := s₂.slotsUsed } : State) L mc ms := by
      refine ⟨?_, q2, q3, q4, q5, q6⟩
      obtain ⟨t, ht, -⟩ := State.frames_cons hr
      show ({ U with heap := s₂.heap, slotsUsed := s₂.slotsUsed } : State) = { U.setFrames U.frames with heap := s₂.heap, slotsUsed := s₂.slotsUsed }
      rw [State.setFrames_self ht]
    subst hg
    refine Or.inl ⟨v, ⟨(({ U with heap := s₂.heap, slotsUsed := s₂.slotsUsed } : State).setVm s₂.vm), Ls ++ L, c0 + mc, s0 + ms⟩,
      ⟨X.admits, X.cas, X.clock, X.frames, X.room, X.hears, X.method, X.code, (X.here.setHeapUsed s₂.heap s₂.slotsUsed).setVm hW'.alike, X.tail, State.WarmedH.trans X.warmed hW', X.limits, X.bytes, X.same.trans (hsame.setVm s.vm)⟩,
      ⟨g, mk, s₂, L, rfl, rfl, hqc, rfl, hL, rfl, rfl⟩, ?_⟩
    show Steps p.tables e below _ ((({ U with heap := s₂.heap, slotsUsed := s₂.slotsUsed } : State).setVm s₂.vm).setTop { g with pc := g.pc + len₂, stack := v.toList ++ g.stack })
    rw [← hs₂]
    exact hsteps
  · obtain ⟨e2, q2, q3, q4, q5, q6⟩ := id hsm
    have e3 : s₂ = ({ (U.calling g mk a).setFrames s₂.frames with heap := s₂.heap, slotsUsed := s₂.slotsUsed } : State).setVm s₂.vm := by
      have : s₂ = ({ s₂ with vm := (U.calling g mk a).vm } : State).setVm s₂.vm := rfl
      rw [e2] at this
      exact this
    have hf₂ : s₂.frames = .throwing q :: .java g :: U.frames.tail := hend
    have hW' : U.WarmedH s₂.vm := hW₂
    have hs₂ : s₂ = ((({ U with heap := s₂.heap, slotsUsed := s₂.slotsUsed } : State).setVm s₂.vm).setTop g).pushFrame (.throwing q) := by
      refine e3.trans ?_
      rw [hf₂, State.calling_eq h.top, State.setFrames_setFrames, State.pushFrame, State.frames_setTop _ hr', State.setTop_of_frames _ hr', State.setFrames_setFrames, hr]
      rfl
    have hsame : U.sameButNew ({ U with heap := s₂.heap, slotsUsed := s₂.slotsUsed } : State) L mc ms := by
      refine ⟨?_, q2, q3, q4, q5, q6⟩
      obtain ⟨t, ht, -⟩ := State.frames_cons hr
      show ({ U with heap := s₂.heap, slotsUsed := s₂.slotsUsed } : State) = { U.setFrames U.frames with heap := s₂.heap, slotsUsed := s₂.slotsUsed }
      rw [State.setFrames_self ht]
    subst hg
    refine Or.inr ⟨q, ⟨(({ U with heap := s₂.heap, slotsUsed := s₂.slotsUsed } : State).setVm s₂.vm), Ls ++ L, c0 + mc, s0 + ms⟩,
      ⟨X.admits, X.cas, X.clock, X.frames, X.room, X.hears, X.method, X.code, (X.here.setHeapUsed s₂.heap s₂.slotsUsed).setVm hW'.alike, X.tail, State.WarmedH.trans X.warmed hW', X.limits, X.bytes, X.same.trans (hsame.setVm s.vm)⟩,
      ⟨g, mk, s₂, L, E, ce, rfl, rfl, hx, hce, hcv, hcl, rfl, hL, rfl, rfl⟩, ?_⟩
    show Steps p.tables e below _ (((({ U with heap := s₂.heap, slotsUsed := s₂.slotsUsed } : State).setVm s₂.vm).setTop g).pushFrame (.throwing q))
    rw [← hs₂]
    exact hsteps
end
variable {p : Program} {l : Launch} {e : Env} {R : Room} {s : State} {m : MethodId} {args : Array Value} {below : List Frame} {meth : Method} {c : Code} {T : State} {H : Heap} {locs : List Loc} {cells slots : Nat}
theorem vx_callVX (X : Stand p l e R s m args below meth c T locs cells slots) (hexec : p.tables.exec = Jvm.exec) {own C : String} {index : Nat} {y : MethodName} {bytes : ByteArray} {maxL : Nat} {ret : Option FieldType} {hh : List (Nat × Nat × Nat × Nat)}
    (hown : s.vm.findClass own = some m.cls) (hlink : (Cond.methodLink own index y).before args s = true) (hinst : (Cond.instanceMethod y).before args s = true) (hsel : (Cond.selects C y y).before args s = true)
    (hcode : (Cond.codeWith y bytes maxL ret hh).before args s = true) (hy : y.cls ≠ "java/lang/invoke/MethodHandle" ∧ y.cls ≠ "java/lang/invoke/VarHandle")
    {W9 : Nat} {Pre : Pt → Array Value → Prop} {Post : Pt → Array Value → Option Value → Pt → Prop} {PostX : Pt → Array Value → Addr → Pt → Prop} (hK : vx_Back l R p e below s args y 3 W9 Pre Post PostX)
    {b : Addr} {cellB : Cell} (hcell : T.heap[b]? = some cellB) (hobj : cellB.vm.isStatics = false) (hcls : s.vm.findClass C = some cellB.cls)
    {g : JFrame} (hg : g.method = m) (hsize : g.locals.size = c.maxLocals) {argsL rest : List Value} (hlen : ∀ sig, parseMethodDescriptor y.desc = some sig → argsL.length = sig.parameters.length)
    (hstack : g.stack = argsL.reverse ++ .ref b :: rest) (hW : 2 * g.monitorRoom + (rest.map fun v => v.category).sum ≤ W9) (hdg : decode c.code g.pc = .ok (.invokevirtual index, 3))
    (hpre : ∀ vm₁, s.WarmedH vm₁ → Pre ⟨T.setVm vm₁, locs, cells, slots⟩ (Value.ref b :: argsL).toArray) :
    (∃ (v : Option Value) (vm₁ : Vm) (B : Pt), s.WarmedH vm₁ ∧ Stand p l e R s m args below meth c B.U B.locs B.cells B.slots ∧ Post ⟨T.setVm vm₁, locs, cells, slots⟩ (Value.ref b :: argsL).toArray v B ∧
      ∀ target, Steps p.tables e below (B.U.setTop { g with pc := g.pc + 3, stack := v.toList ++ rest }) target → Steps p.tables e below (T.setTop g) target) ∨
    (∃ (q : Addr) (vm₁ : Vm) (B : Pt), s.WarmedH vm₁ ∧ Stand p l e R s m args below meth c B.U B.locs B.cells B.slots ∧ PostX ⟨T.setVm vm₁, locs, cells, slots⟩ (Value.ref b :: argsL).toArray q B ∧
      Steps p.tables e below (T.setTop g) ((B.U.setTop { g with stack := rest }).pushFrame (.throwing q))) := by
  obtain ⟨mk, methM, hnamed, hmethM, hstM, habM⟩ := Cond.instanceMethod_spec hinst
  obtain ⟨m8, methM', cM, hn8, hmethM', -, -, -, -, -, -, hsigM⟩ := Cond.codeWith_spec hcode
  cases Option.some.inj (hn8.symm.trans hnamed)
  cases hmethM.symm.trans hmethM'
  obtain ⟨c2, r2, m2, q1, q2, q3, q4, kP, hkP, hkPi⟩ := Cond.selects_spec hsel
  cases hcls.symm.trans q1
  cases (State.methodFound?_of_named hnamed hy).symm.trans q2
  cases hnamed.symm.trans q3
  have hselP : selectMethod e.platform s.vm cellB.cls mk = .method mk := by rw [Launch.admits_selectMethod X.admits]; exact q4
  obtain ⟨vm₁, X₁, hstep₁⟩ := X.invokevirtual hexec hown hlink hnamed hmethM hstM hkP hkPi hy (a := b) (cell := cellB) hcell
    (fun z h => by rw [h] at hobj; cases hobj) hselP hmethM habM hkP hkPi (g := g) hg (argsL := argsL) (rest := rest) (hlen _ hsigM) hstack hdg
  rcases hK m meth c ⟨T.setVm vm₁, locs, cells, slots⟩ { g with stack := rest } (.invokevirtual index) mk (Value.ref b :: argsL).toArray X₁ hg hsize hdg hW (X₁.named hnamed) (hpre vm₁ X₁.warmed) with ⟨v, B, X', hpost, hsteps⟩ | ⟨q, B, X', hpost, hsteps⟩
  · exact Or.inl ⟨v, vm₁, B, X₁.warmed, X', hpost, fun target h => hstep₁ _ fun acts => by rw [doInvoke_state]; exact hsteps.trans h⟩
  · exact Or.inr ⟨q, vm₁, B, X₁.warmed, X', hpost, hstep₁ _ fun acts => by rw [doInvoke_state]; exact hsteps⟩
theorem vx_callSX (X : Stand p l e R s m args below meth c T locs cells slots) (hexec : p.tables.exec = Jvm.exec) {own : String} {index : Nat} {y : MethodName} {bytes : ByteArray} {maxL : Nat} {ret : Option FieldType} {hh : List (Nat × Nat × Nat × Nat)}
    (hown : s.vm.findClass own = some m.cls) (hlink : (Cond.methodLink own index y).before args s = true) (hstat : (Cond.static y).before args s = true) (hinit : (Cond.initialized y.cls).before args s = true)
    (hcode : (Cond.codeWith y bytes maxL ret hh).before args s = true) (hy : y.cls ≠ "java/lang/invoke/MethodHandle" ∧ y.cls ≠ "java/lang/invoke/VarHandle")
    {W9 : Nat} {Pre : Pt → Array Value → Prop} {Post : Pt → Array Value → Option Value → Pt → Prop} {PostX : Pt → Array Value → Addr → Pt → Prop} (hK : vx_Back l R p e below s args y 3 W9 Pre Post PostX)
    {g : JFrame} (hg : g.method = m) (hsize : g.locals.size = c.maxLocals) {argsL rest : List Value} (hlen : ∀ sig, parseMethodDescriptor y.desc = some sig → argsL.length = sig.parameters.length)
    (hstack : g.stack = argsL.reverse ++ rest) (hW : 2 * g.monitorRoom + (rest.map fun v => v.category).sum ≤ W9) (hdg : decode c.code g.pc = .ok (.invokestatic index, 3))
    (hpre : ∀ vm₁, s.WarmedH vm₁ → Pre ⟨T.setVm vm₁, locs, cells, slots⟩ argsL.toArray) :
    (∃ (v : Option Value) (vm₁ : Vm) (B : Pt), s.WarmedH vm₁ ∧ Stand p l e R s m args below meth c B.U B.locs B.cells B.slots ∧ Post ⟨T.setVm vm₁, locs, cells, slots⟩ argsL.toArray v B ∧
      ∀ target, Steps p.tables e below (B.U.setTop { g with pc := g.pc + 3, stack := v.toList ++ rest }) target → Steps p.tables e below (T.setTop g) target) ∨
    (∃ (q : Addr) (vm₁ : Vm) (B : Pt), s.WarmedH vm₁ ∧ Stand p l e R s m args below meth c B.U B.locs B.cells B.slots ∧ PostX ⟨T.setVm vm₁, locs, cells, slots⟩ argsL.toArray q B ∧
      Steps p.tables e below (T.setTop g) ((B.U.setTop { g with stack := rest }).pushFrame (.throwing q))) := by
  obtain ⟨mk, methM, cM, hnamed, hmethM, -, -, -, -, -, -, hsigM⟩ := Cond.codeWith_spec hcode
  have hstatic : methM.isStatic = true := Cond.static_spec hnamed hmethM hstat
  obtain ⟨kP, hkP, -⟩ := className_of_methodNamed hnamed
  have hinitP : kP.init = .initialized := Cond.initialized_spec (findClass_of_methodNamed hnamed) hkP hinit
  obtain ⟨vm₁, X₁, hstep₁⟩ := X.invokestatic hexec hown hlink hnamed hmethM hstatic hkP hinitP hy (g := g) hg (argsL := argsL) (rest := rest) (hlen _ hsigM) hstack hdg
  rcases hK m meth c ⟨T.setVm vm₁, locs, cells, slots⟩ { g with stack := rest } (.invokestatic index) mk argsL.toArray X₁ hg hsize hdg hW (X₁.named hnamed) (hpre vm₁ X₁.warmed) with ⟨v, B, X', hpost, hsteps⟩ | ⟨q, B, X', hpost, hsteps⟩
  · exact Or.inl ⟨v, vm₁, B, X₁.warmed, X', hpost, fun target h => hstep₁ _ fun acts => by rw [doInvoke_state]; exact hsteps.trans h⟩
  · exact Or.inr ⟨q, vm₁, B, X₁.warmed, X', hpost, hstep₁ _ fun acts => by rw [doInvoke_state]; exact hsteps⟩
theorem vx_callVW (X : Stand p l e R s m args below meth c T locs cells slots) (hexec : p.tables.exec = Jvm.exec) {own C : String} {index : Nat} {y : MethodName} {bytes : ByteArray} {maxL : Nat} {ret : Option FieldType} {hh : List (Nat × Nat × Nat × Nat)}
    (hown : s.vm.findClass own = some m.cls) (hlink : (Cond.methodLink own index y).before args s = true) (hinst : (Cond.instanceMethod y).before args s = true) (hsel : (Cond.selects C y y).before args s = true)
    (hcode : (Cond.codeWith y bytes maxL ret hh).before args s = true) (hy : y.cls ≠ "java/lang/invoke/MethodHandle" ∧ y.cls ≠ "java/lang/invoke/VarHandle")
    {W9 : Nat} {Pre : Pt → Array Value → Prop} {Post : Pt → Array Value → Option Value → Pt → Prop} (hK : Back l R p e below s args y 3 W9 Pre Post)
    {b : Addr} {cellB : Cell} (hcell : T.heap[b]? = some cellB) (hobj : cellB.vm.isStatics = false) (hcls : s.vm.findClass C = some cellB.cls)
    {g : JFrame} (hg : g.method = m) (hsize : g.locals.size = c.maxLocals) {argsL rest : List Value} (hlen : ∀ sig, parseMethodDescriptor y.desc = some sig → argsL.length = sig.parameters.length)
    (hstack : g.stack = argsL.reverse ++ .ref b :: rest) (hW : 2 * g.monitorRoom + (rest.map fun v => v.category).sum ≤ W9) (hdg : decode c.code g.pc = .ok (.invokevirtual index, 3))
    (hpre : ∀ vm₁, s.WarmedH vm₁ → Pre ⟨T.setVm vm₁, locs, cells, slots⟩ (Value.ref b :: argsL).toArray) :
    ∃ (v : Option Value) (vm₁ : Vm) (B : Pt), s.WarmedH vm₁ ∧ Stand p l e R s m args below meth c B.U B.locs B.cells B.slots ∧ Post ⟨T.setVm vm₁, locs, cells, slots⟩ (Value.ref b :: argsL).toArray v B ∧
      ∀ target, Steps p.tables e below (B.U.setTop { g with pc := g.pc + 3, stack := v.toList ++ rest }) target → Steps p.tables e below (T.setTop g) target := by
  obtain ⟨mk, methM, hnamed, hmethM, hstM, habM⟩ := Cond.instanceMethod_spec hinst
  obtain ⟨m8, methM', cM, hn8, hmethM', -, -, -, -, -, -, hsigM⟩ := Cond.codeWith_spec hcode
  cases Option.some.inj (hn8.symm.trans hnamed)
  cases hmethM.symm.trans hmethM'
  obtain ⟨c2, r2, m2, q1, q2, q3, q4, kP, hkP, hkPi⟩ := Cond.selects_spec hsel
  cases hcls.symm.trans q1
  cases (State.methodFound?_of_named hnamed hy).symm.trans q2
  cases hnamed.symm.trans q3
  have hselP : selectMethod e.platform s.vm cellB.cls mk = .method mk := by rw [Launch.admits_selectMethod X.admits]; exact q4
  obtain ⟨vm₁, X₁, hstep₁⟩ := X.invokevirtual hexec hown hlink hnamed hmethM hstM hkP hkPi hy (a := b) (cell := cellB) hcell
    (fun z h => by rw [h] at hobj; cases hobj) hselP hmethM habM hkP hkPi (g := g) hg (argsL := argsL) (rest := rest) (hlen _ hsigM) hstack hdg
  obtain ⟨v, B, X', hpost, hsteps⟩ := hK m meth c ⟨T.setVm vm₁, locs, cells, slots⟩ { g with stack := rest } (.invokevirtual index) mk (Value.ref b :: argsL).toArray X₁ hg hsize hdg hW (X₁.named hnamed) (hpre vm₁ X₁.warmed)
  exact ⟨v, vm₁, B, X₁.warmed, X', hpost, fun target h => hstep₁ _ fun acts => by rw [doInvoke_state]; exact hsteps.trans h⟩
abbrev vx_CVW (R : Room) (s : State) (args : Array Value) (own C : String) (index : Nat) (y : MethodName) (bytes : ByteArray) (maxL : Nat) (ret : Option FieldType) (hh : List (Nat × Nat × Nat × Nat)) (ws : List Cond) (rm : Room) (mc ms n : Nat) : Prop :=
  (rm.cells = mc ∧ rm.slots = ms ∧ rm.frames + 1 ≤ R.frames ∧ 8 + (maxL + 11) + rm.locals ≤ R.locals ∧ (∀ w ∈ ws, ∀ (a' : Array Value) (U : State), s.WarmedH U.vm → w.before a' U = true) ∧ Cond.codeWith y bytes maxL ret hh ∈ ws) ∧
  (Cond.codeWith y bytes maxL ret hh).before args s = true ∧ (Cond.initialized y.cls).before args s = true ∧ (y.cls ≠ "java/lang/invoke/MethodHandle" ∧ y.cls ≠ "java/lang/invoke/VarHandle") ∧
  (∀ sig, parseMethodDescriptor y.desc = some sig → n = sig.parameters.length) ∧ (Cond.methodLink own index y).before args s = true ∧ (Cond.instanceMethod y).before args s = true ∧ (Cond.selects C y y).before args s = true
theorem vx_cwVW {own C : String} {index maxL mc ms : Nat} {y : MethodName} {bytes : ByteArray} {ret : Option FieldType} {hh : List (Nat × Nat × Nat × Nat)} {Ts ws ws' : List Cond} {rm : Room} (n : Nat) (ht : ∀ w ∈ Ts, w.before args s = true) (hT : GoodIn Ts (wsV own index C y ws)) (hw : ws = Cond.codeWith y bytes maxL ret hh :: ws') (hrc : rm.cells = mc) (hrs : rm.slots = ms)
    (hd : y.cls = C ∧ y.cls ≠ "java/lang/invoke/MethodHandle" ∧ y.cls ≠ "java/lang/invoke/VarHandle" ∧ (parseMethodDescriptor y.desc).map (fun d => d.parameters.length) = some n) (hR : rm.frames + 1 ≤ R.frames ∧ 8 + (maxL + 11) + rm.locals ≤ R.locals) :
    vx_CVW R s args own C index y bytes maxL ret hh ws rm mc ms n := by
  obtain ⟨hC, hd⟩ := hd
  subst hC
  have ok : ∀ w ∈ wsV own index y.cls y ws, w.before args s = true := fun w h => ht w (hT w h).1
  have hG : GoodIn Ts ws := fun w h => hT w (by unfold wsV; exact List.mem_append_right _ h)
  have hc : Cond.codeWith y bytes maxL ret hh ∈ ws := by rw [hw]; exact List.mem_cons_self
  refine ⟨⟨hrc, hrs, hR.1, hR.2, pay_in ht hG, hc⟩, ht _ (hG _ hc).1, ok _ (by simp [wsV]), ⟨hd.1, hd.2.1⟩, fun sig h => ?_, ok _ (by simp [wsV]), ok _ (by simp [wsV]), ok _ (by simp [wsV])⟩
  have h2 := hd.2.2
  rw [h] at h2
  exact (Option.some.inj h2).symm
theorem vx_runVW {y : MethodName} {bytes cc : ByteArray} {maxL nL mc ms n index : Nat} {ret : Option FieldType} {hh : List (Nat × Nat × Nat × Nat)} {ws : List Cond} {rm : Room} {Pc : Array Value → State → Prop} {Qc : Array Value → State → Outcome → State → Prop} {free : Addr → Prop} {Ts : List Cond} {own C : String} {b : Addr} {As rest : List Value} {g : JFrame}
    (S : CallFix p m c cc nL s args Ts own) (hM : Met l y ws rm Pc Qc mc ms free) (cw : vx_CVW R s args own C index y bytes maxL ret hh ws rm mc ms n) (hp : PreV s H C b Pc As)
    (hg : g.method = m) (hn : As.length = n) (hsize : g.locals.size = nL) (hstack : g.stack = As.reverse ++ .ref b :: rest) (hW : 2 * g.monitorRoom + (rest.map fun v => v.category).sum ≤ 8) (hdg : decode cc g.pc = .ok (.invokevirtual index, 3)) (hf : cells + mc ≤ R.cells ∧ slots + ms ≤ R.slots) :
    va_Run p l e R s m args below meth c H locs cells slots mc ms g rest (Qc (Value.ref b :: As).toArray) free := by
  obtain ⟨⟨hrc, hrs, hfr, hlo, hws, hcw⟩, hcode, hini, hy, hlen, hl, hin, hse⟩ := cw
  have hK : Back l R p e below s args y 3 8 (PreOf R mc ms Pc) (PostOf Qc mc ms free) := va_backW (hh := hh) (bytes := bytes) (maxL := maxL) (ret := ret) hM hp.1 hrc hrs hfr hlo hws hcw (fun a' U hW => word_at hW (Or.inl (by first | rfl | simp [Cond.onTables, Cond.keeps, Cond.steady])) hini)
  obtain ⟨hx, hb, hml, ho, -⟩ := S
  obtain ⟨-, ⟨cellB, hcB, hoB, hclB⟩, hPc⟩ := hp
  intro T hT X
  obtain ⟨v, vm₁, ⟨U', l2, c2, s2⟩, hW₁, X', ⟨g', mk, t, L, e1, e2, hq, h1, hL, h2, h3⟩, st⟩ := vx_callVW X hx (C := C) (hh := hh) (bytes := bytes) (maxL := maxL) (ret := ret) ho hl hin hse hcode hy hK (by rw [hT]; exact hcB) hoB hclB hg (hsize.trans hml.symm) (argsL := As) (rest := rest) (fun sig h => hn.trans (hlen sig h)) hstack hW (by rw [hb]; exact hdg)
    (fun vm₁ hW₁ => ⟨hf.1, hf.2, hPc (T.setVm vm₁) hT hW₁⟩)
  dsimp only [Pt.U, Pt.locs, Pt.cells, Pt.slots] at X' e1 e2 h1 h2 h3 st
  subst h1; subst h2; subst h3
  exact ⟨v, (T.setVm vm₁).calling g' mk (Value.ref b :: As).toArray, t, U', L, hT, X', hL, e1, e2, hq, st⟩
section
variable {y : MethodName} {bytes cc : ByteArray} {maxL nL mc ms n index : Nat} {ret : Option FieldType} {ws : List Cond} {rm : Room} {Pc : Array Value → State → Prop} {Qc : Array Value → State → Outcome → State → Prop} {XC : String → State → State → Prop} {free : Addr → Prop} {Ts : List Cond} {own C : String} {b : Addr} {As rest : List Value} {g : JFrame}
theorem vx_runVX {hh : List (Nat × Nat × Nat × Nat)} (S : CallFix p m c cc nL s args Ts own) (hM : vx_Met l y ws rm Pc Qc XC mc ms free) (cw : vx_CVW R s args own C index y bytes maxL ret hh ws rm mc ms n) (hp : PreV s H C b Pc As)
    (hg : g.method = m) (hn : As.length = n) (hsize : g.locals.size = nL) (hstack : g.stack = As.reverse ++ .ref b :: rest) (hW : 2 * g.monitorRoom + (rest.map fun v => v.category).sum ≤ 8) (hdg : decode cc g.pc = .ok (.invokevirtual index, 3)) (hf : cells + mc ≤ R.cells ∧ slots + ms ≤ R.slots) :
    vx_Run p l e R s m args below meth c H locs cells slots mc ms g rest (Qc (Value.ref b :: As).toArray) XC free := by
  obtain ⟨⟨hrc, hrs, hfr, hlo, hws, hcw⟩, hcode, hini, hy, hlen, hl, hin, hse⟩ := cw
  have hK : vx_Back l R p e below s args y 3 8 (PreOf R mc ms Pc) (PostOf Qc mc ms free) (vx_Post XC mc ms free) := vx_backW (hh := hh) (bytes := bytes) (maxL := maxL) (ret := ret) hM hp.1 hrc hrs hfr hlo hws hcw (fun a' U hW => word_at hW (Or.inl (by first | rfl | simp [Cond.onTables, Cond.keeps, Cond.steady])) hini)
  obtain ⟨hx, hb, hml, ho, -⟩ := S
  obtain ⟨-, ⟨cellB, hcB, hoB, hclB⟩, hPc⟩ := hp
  intro T hT X
  rcases vx_callVX X hx (C := C) (hh := hh) (bytes := bytes) (maxL := maxL) (ret := ret) ho hl hin hse hcode hy hK (by rw [hT]; exact hcB) hoB hclB hg (hsize.trans hml.symm) (argsL := As) (rest := rest) (fun sig h => hn.trans (hlen sig h)) hstack hW (by rw [hb]; exact hdg)
    (fun vm₁ hW₁ => ⟨hf.1, hf.2, hPc (T.setVm vm₁) hT hW₁⟩) with ⟨v, vm₁, ⟨U', l2, c2, s2⟩, hW₁, X', ⟨g', mk, t, L, e1, e2, hq, h1, hL, h2, h3⟩, st⟩ | ⟨q, vm₁, ⟨U', l2, c2, s2⟩, hW₁, X', ⟨g', mk, t, L, E, ce, e1, e2, hq, hce, hcv, hcl, h1, hL, h2, h3⟩, st⟩
  · dsimp only [Pt.U, Pt.locs, Pt.cells, Pt.slots] at X' e1 e2 h1 h2 h3 st
    subst h1; subst h2; subst h3
    exact Or.inl ⟨v, (T.setVm vm₁).calling g' mk (Value.ref b :: As).toArray, t, U', L, hT, X', hL, e1, e2, hq, st⟩
  · dsimp only [Pt.U, Pt.locs, Pt.cells, Pt.slots] at X' e1 e2 h1 h2 h3 st hcl
    subst h1; subst h2; subst h3
    exact Or.inr ⟨q, (T.setVm vm₁).calling g' mk (Value.ref b :: As).toArray, t, U', L, E, ce, hT, X', hL, e1, e2, hq, hce, hcv, vx_cls hW₁ hcl, st⟩
theorem vx_runSX {hh : List (Nat × Nat × Nat × Nat)} (S : CallFix p m c cc nL s args Ts own) (hM : vx_Met l y ws rm Pc Qc XC mc ms free) (cw : vx_CSW R s args own index y bytes maxL ret hh ws rm mc ms n) (hp : PreS s H Pc As)
    (hg : g.method = m) (hn : As.length = n) (hsize : g.locals.size = nL) (hstack : g.stack = As.reverse ++ rest) (hW : 2 * g.monitorRoom + (rest.map fun v => v.category).sum ≤ 8) (hdg : decode cc g.pc = .ok (.invokestatic index, 3)) (hf : cells + mc ≤ R.cells ∧ slots + ms ≤ R.slots) :
    vx_Run p l e R s m args below meth c H locs cells slots mc ms g rest (Qc As.toArray) XC free := by
  obtain ⟨⟨hrc, hrs, hfr, hlo, hws, hcw⟩, hcode, hini, hy, hlen, hl, hstt⟩ := cw
  have hK : vx_Back l R p e below s args y 3 8 (PreOf R mc ms Pc) (PostOf Qc mc ms free) (vx_Post XC mc ms free) := vx_backW (hh := hh) (bytes := bytes) (maxL := maxL) (ret := ret) hM hp.1 hrc hrs hfr hlo hws hcw (fun a' U hW => word_at hW (Or.inl (by first | rfl | simp [Cond.onTables, Cond.keeps, Cond.steady])) hini)
  obtain ⟨hx, hb, hml, ho, -⟩ := S
  intro T hT X
  rcases vx_callSX X hx (hh := hh) (bytes := bytes) (maxL := maxL) (ret := ret) ho hl hstt hini hcode hy hK hg (hsize.trans hml.symm) (argsL := As) (rest := rest) (fun sig h => hn.trans (hlen sig h)) hstack hW (by rw [hb]; exact hdg)
    (fun vm₁ hW₁ => ⟨hf.1, hf.2, hp.2 (T.setVm vm₁) hT hW₁⟩) with ⟨v, vm₁, ⟨U', l2, c2, s2⟩, hW₁, X', ⟨g', mk, t, L, e1, e2, hq, h1, hL, h2, h3⟩, st⟩ | ⟨q, vm₁, ⟨U', l2, c2, s2⟩, hW₁, X', ⟨g', mk, t, L, E, ce, e1, e2, hq, hce, hcv, hcl, h1, hL, h2, h3⟩, st⟩
  · dsimp only [Pt.U, Pt.locs, Pt.cells, Pt.slots] at X' e1 e2 h1 h2 h3 st
    subst h1; subst h2; subst h3
    exact Or.inl ⟨v, (T.setVm vm₁).calling g' mk As.toArray, t, U', L, hT, X', hL, e1, e2, hq, st⟩
  · dsimp only [Pt.U, Pt.locs, Pt.cells, Pt.slots] at X' e1 e2 h1 h2 h3 st hcl
    subst h1; subst h2; subst h3
    exact Or.inr ⟨q, (T.setVm vm₁).calling g' mk As.toArray, t, U', L, E, ce, hT, X', hL, e1, e2, hq, hce, hcv, vx_cls hW₁ hcl, st⟩
end
end VXH
theorem vx_ofWH {l : Launch} {y : MethodName} {ws ws' : List Cond} {rm : Room} {Pc : Array Value → State → Prop} {Qc : Array Value → State → Outcome → State → Prop} {XC : String → State → State → Prop} {mc ms : Nat} {free : Addr → Prop} {cc : ByteArray} {maxL : Nat} {ret : Option FieldType} {hh : List (Nat × Nat × Nat × Nat)}
    (hy : plainName y.cls = true) (hw : ws = Cond.codeWith y cc maxL ret hh :: ws')
    (body : ∀ p e s m args below meth c s₁, BodyLoose p l y (headSpec ws rm) cc maxL ret e s m args below meth c s₁ → c.maxLocals = maxL → Pc args s →
      W p l e (headSpec ws rm).room s m args below meth c s.heap [] 0 0 (vx_MQ below Qc XC args s mc ms free) (entryFrame m args maxL)) : vx_Met l y ws rm Pc Qc XC mc ms free := by
  refine MetFree.of_bodyS (code := cc) (maxLocals := maxL) (ret := ret) hy ?_ ?_
  · intro args s m h hn
    obtain ⟨m9, meth, c, hn9, h1, h2, h3, h4, -, h5, h6, -⟩ := Cond.codeWith_spec (atoms_spec (ws := ws) h _ (by rw [hw]; exact List.mem_cons_self))
    cases hn.symm.trans hn9
    exact ⟨meth, c, h1, h2, h3, h4, h5, h6⟩
  · intro p e s m args below meth c s₁ B hml hP _
    have hh0 : s₁.heap = s.heap := by rw [B.state]; rfl
    obtain ⟨t, a1, o, b1, b2, b3⟩ := body p e s m args below meth c s₁ B hml hP s₁ hh0 (Stand.of_body B)
    exact ⟨t, o, a1, b1, b2, b3⟩
/-! ===== END ===== -/
end
section
def RX0 : String := "ProgramDrum$Jumps"
def TX0 : u_T := fun k => match k with
  | 0 => ("ProgramDrum$Jumps", "from", "[I", true)
  | 1 => ("ProgramDrum$Jumps", "to", "[I", true)
  | 2 => ("ProgramDrum$Jumps", "times", "[I", true)
  | _ => ("ProgramDrum$Jumps", "size", "I", false)
def tyX0 : Nat → FieldType := fun k => match k with
  | 0 => .array .int
  | 1 => .array .int
  | 2 => .array .int
  | _ => .int
abbrev wsX00 : List Cond := u_ws RX0 TX0 4
theorem nmX0 : ∀ a, a < 4 → ∀ b, b < 4 → a ≠ b → (TX0 a).2.1 ≠ (TX0 b).2.1 := by decide +kernel
theorem tyX0_ok : ∀ k, k < 4 → parseFieldDescriptor (TX0 k).2.2.1 = some (tyX0 k) := by decide +kernel
abbrev cX0_init : ByteArray := prog_2_method_1_code
def yX0_init : MethodName := ⟨RX0, "<init>", "()V"⟩
abbrev cX0_note : ByteArray := prog_2_method_2_code
def yX0_note : MethodName := ⟨RX0, "note", "(II)V"⟩
abbrev cX0_number : ByteArray := prog_2_method_3_code
def yX0_number : MethodName := ⟨RX0, "number", "(II)I"⟩
abbrev cX0_copyFrom : ByteArray := prog_2_method_4_code
def yX0_copyFrom : MethodName := ⟨RX0, "copyFrom", "(LProgramDrum$Jumps;)V"⟩
def RX1 : String := "ProgramDrum$Memory"
def TX1 : u_T := fun k => match k with
  | 0 => ("ProgramDrum$Memory", "states", "[LProgramDrum$State;", true)
  | 1 => ("ProgramDrum$Memory", "oldest", "I", false)
  | _ => ("ProgramDrum$Memory", "size", "I", false)
def tyX1 : Nat → FieldType := fun k => match k with
  | 0 => .array (.object "ProgramDrum$State")
  | 1 => .int
  | _ => .int
abbrev wsX10 : List Cond := u_ws RX1 TX1 3
theorem nmX1 : ∀ a, a < 3 → ∀ b, b < 3 → a ≠ b → (TX1 a).2.1 ≠ (TX1 b).2.1 := by decide +kernel
theorem tyX1_ok : ∀ k, k < 3 → parseFieldDescriptor (TX1 k).2.2.1 = some (tyX1 k) := by decide +kernel
abbrev cX1_init : ByteArray := prog_3_method_1_code
def yX1_init : MethodName := ⟨RX1, "<init>", "()V"⟩
abbrev cX1_remember : ByteArray := prog_3_method_3_code
def yX1_remember : MethodName := ⟨RX1, "remember", "(LProgramDrum$State;)V"⟩
def RX2 : String := "ProgramDrum$State"
def TX2 : u_T := fun k => match k with
  | 0 => ("ProgramDrum$State", "places", "I", false)
  | 1 => ("ProgramDrum$State", "count", "I", false)
  | 2 => ("ProgramDrum$State", "tick", "I", false)
  | 3 => ("ProgramDrum$State", "lastEnd", "I", false)
  | 4 => ("ProgramDrum$State", "author", "[I", true)
  | 5 => ("ProgramDrum$State", "work", "[I", true)
  | 6 => ("ProgramDrum$State", "next", "[I", true)
  | 7 => ("ProgramDrum$State", "expects", "[I", true)
  | 8 => ("ProgramDrum$State", "bribe", "[I", true)
  | 9 => ("ProgramDrum$State", "place", "[I", true)
  | 10 => ("ProgramDrum$State", "delay", "[I", true)
  | 11 => ("ProgramDrum$State", "open", "[I", true)
  | 12 => ("ProgramDrum$State", "lastWait", "[I", true)
  | 13 => ("ProgramDrum$State", "paid", "[I", true)
  | 14 => ("ProgramDrum$State", "refunded", "[I", true)
  | _ => ("ProgramDrum$State", "jumps", "LProgramDrum$Jumps;", true)
def tyX2 : Nat → FieldType := fun k => match k with
  | 0 => .int
  | 1 => .int
  | 2 => .int
  | 3 => .int
  | 4 => .array .int
  | 5 => .array .int
  | 6 => .array .int
  | 7 => .array .int
  | 8 => .array .int
  | 9 => .array .int
  | 10 => .array .int
  | 11 => .array .int
  | 12 => .array .int
  | 13 => .array .int
  | 14 => .array .int
  | _ => .object "ProgramDrum$Jumps"
abbrev wsX20 : List Cond := u_ws RX2 TX2 16
theorem nmX2 : ∀ a, a < 16 → ∀ b, b < 16 → a ≠ b → (TX2 a).2.1 ≠ (TX2 b).2.1 := by decide +kernel
theorem tyX2_ok : ∀ k, k < 16 → parseFieldDescriptor (TX2 k).2.2.1 = some (tyX2 k) := by decide +kernel
abbrev cX2_init : ByteArray := prog_4_method_1_code
def yX2_init : MethodName := ⟨RX2, "<init>", "()V"⟩
abbrev cX2_copyFrom : ByteArray := prog_4_method_3_code
def yX2_copyFrom : MethodName := ⟨RX2, "copyFrom", "(LProgramDrum$State;)V"⟩
abbrev cX2_copyRow : ByteArray := prog_4_method_4_code
def yX2_copyRow : MethodName := ⟨RX2, "copyRow", "([I[I)V"⟩
abbrev cX2_has : ByteArray := prog_4_method_5_code
def yX2_has : MethodName := ⟨RX2, "has", "(I)Z"⟩
abbrev cX2_hasPlace : ByteArray := prog_4_method_6_code
def yX2_hasPlace : MethodName := ⟨RX2, "hasPlace", "(I)Z"⟩
abbrev cX2_isOnDrum : ByteArray := prog_4_method_7_code
def yX2_isOnDrum : MethodName := ⟨RX2, "isOnDrum", "(I)Z"⟩
abbrev cX2_around : ByteArray := prog_4_method_8_code
def yX2_around : MethodName := ⟨RX2, "around", "(I)I"⟩
abbrev cX2_laidOrders : ByteArray := prog_4_method_9_code
def yX2_laidOrders : MethodName := ⟨RX2, "laidOrders", "()I"⟩
abbrev cX2_ordersOf : ByteArray := prog_4_method_10_code
def yX2_ordersOf : MethodName := ⟨RX2, "ordersOf", "(I)I"⟩
abbrev cX2_orderOn : ByteArray := prog_4_method_11_code
def yX2_orderOn : MethodName := ⟨RX2, "orderOn", "(I)I"⟩
abbrev cX2_isFreeFor : ByteArray := prog_4_method_12_code
def yX2_isFreeFor : MethodName := ⟨RX2, "isFreeFor", "(II)Z"⟩
abbrev cX2_addNew : ByteArray := prog_4_method_15_code
def yX2_addNew : MethodName := ⟨RX2, "addNew", "(IIIII)I"⟩
abbrev cX2_replace : ByteArray := prog_4_method_16_code
def yX2_replace : MethodName := ⟨RX2, "replace", "(III)I"⟩
abbrev cX2_changeableRow : ByteArray := prog_4_method_17_code
def yX2_changeableRow : MethodName := ⟨RX2, "changeableRow", "(I)[I"⟩
abbrev cX2_put : ByteArray := prog_4_method_18_code
def yX2_put : MethodName := ⟨RX2, "put", "(II)I"⟩
abbrev cX2_refund : ByteArray := prog_4_method_19_code
def yX2_refund : MethodName := ⟨RX2, "refund", "(I)I"⟩
abbrev cX2_takeAllOff : ByteArray := prog_4_method_20_code
def yX2_takeAllOff : MethodName := ⟨RX2, "takeAllOff", "()V"⟩
abbrev cX2_layAll : ByteArray := prog_4_method_21_code
def yX2_layAll : MethodName := ⟨RX2, "layAll", "()I"⟩
abbrev cX2_laidBehind : ByteArray := prog_4_method_22_code
def yX2_laidBehind : MethodName := ⟨RX2, "laidBehind", "(I)I"⟩
abbrev cX2_layOne : ByteArray := prog_4_method_23_code
def yX2_layOne : MethodName := ⟨RX2, "layOne", "(I)V"⟩
abbrev cX2_wantedPlace : ByteArray := prog_4_method_24_code
def yX2_wantedPlace : MethodName := ⟨RX2, "wantedPlace", "(I)I"⟩
abbrev cX2_waitFor : ByteArray := prog_4_method_25_code
def yX2_waitFor : MethodName := ⟨RX2, "waitFor", "(I)I"⟩
abbrev cX2_runFrom : ByteArray := prog_4_method_26_code
def yX2_runFrom : MethodName := ⟨RX2, "runFrom", "(I)I"⟩
abbrev cX2_read : ByteArray := prog_4_method_27_code
def yX2_read : MethodName := ⟨RX2, "read", "(IZ)V"⟩
def RX3 : String := "ProgramDrum$Text"
def TX3 : u_T := fun k => match k with
  | 0 => ("ProgramDrum$Text", "codes", "[I", true)
  | _ => ("ProgramDrum$Text", "length", "I", false)
def tyX3 : Nat → FieldType := fun k => match k with
  | 0 => .array .int
  | _ => .int
abbrev wsX30 : List Cond := u_ws RX3 TX3 2
theorem nmX3 : ∀ a, a < 2 → ∀ b, b < 2 → a ≠ b → (TX3 a).2.1 ≠ (TX3 b).2.1 := by decide +kernel
theorem tyX3_ok : ∀ k, k < 2 → parseFieldDescriptor (TX3 k).2.2.1 = some (tyX3 k) := by decide +kernel
abbrev cX3_init : ByteArray := prog_5_method_1_code
def yX3_init : MethodName := ⟨RX3, "<init>", "()V"⟩
def RX4 : String := "ProgramDrum"
def TX4 : u_T := fun k => match k with
  | 0 => ("ProgramDrum", "text", "LProgramDrum$Text;", true)
  | 1 => ("ProgramDrum", "now", "LProgramDrum$State;", true)
  | 2 => ("ProgramDrum", "trial", "LProgramDrum$State;", true)
  | 3 => ("ProgramDrum", "probe", "LProgramDrum$State;", true)
  | 4 => ("ProgramDrum", "memory", "LProgramDrum$Memory;", true)
  | 5 => ("ProgramDrum", "slots", "[LProgramDrum$State;", true)
  | _ => ("ProgramDrum", "saved", "[Z", true)
def tyX4 : Nat → FieldType := fun k => match k with
  | 0 => .object "ProgramDrum$Text"
  | 1 => .object "ProgramDrum$State"
  | 2 => .object "ProgramDrum$State"
  | 3 => .object "ProgramDrum$State"
  | 4 => .object "ProgramDrum$Memory"
  | 5 => .array (.object "ProgramDrum$State")
  | _ => .array .boolean
abbrev wsX40 : List Cond := u_ws RX4 TX4 7
theorem nmX4 : ∀ a, a < 7 → ∀ b, b < 7 → a ≠ b → (TX4 a).2.1 ≠ (TX4 b).2.1 := by decide +kernel
theorem tyX4_ok : ∀ k, k < 7 → parseFieldDescriptor (TX4 k).2.2.1 = some (tyX4 k) := by decide +kernel
abbrev cX4_init : ByteArray := prog_1_method_1_code
def yX4_init : MethodName := ⟨RX4, "<init>", "()V"⟩
abbrev cX4_about : ByteArray := prog_1_method_6_code
def yX4_about : MethodName := ⟨RX4, "about", "(I)I"⟩
abbrev cX4_order : ByteArray := prog_1_method_7_code
def yX4_order : MethodName := ⟨RX4, "order", "(II)I"⟩
abbrev cX4_author : ByteArray := prog_1_method_8_code
def yX4_author : MethodName := ⟨RX4, "author", "(II)I"⟩
abbrev cX4_at : ByteArray := prog_1_method_9_code
def yX4_at : MethodName := ⟨RX4, "at", "(I)I"⟩
abbrev cX4_jump : ByteArray := prog_1_method_10_code
def yX4_jump : MethodName := ⟨RX4, "jump", "(II)I"⟩
abbrev cX4_setDrum : ByteArray := prog_1_method_13_code
def yX4_setDrum : MethodName := ⟨RX4, "setDrum", "(I)I"⟩
abbrev cX4_addOrder : ByteArray := prog_1_method_14_code
def yX4_addOrder : MethodName := ⟨RX4, "addOrder", "(IIIII)I"⟩
abbrev cX4_change : ByteArray := prog_1_method_15_code
def yX4_change : MethodName := ⟨RX4, "change", "(III)I"⟩
abbrev cX4_move : ByteArray := prog_1_method_16_code
def yX4_move : MethodName := ⟨RX4, "move", "(II)I"⟩
abbrev cX4_lay : ByteArray := prog_1_method_17_code
def yX4_lay : MethodName := ⟨RX4, "lay", "()I"⟩
abbrev cX4_run : ByteArray := prog_1_method_18_code
def yX4_run : MethodName := ⟨RX4, "run", "(I)I"⟩
abbrev cX4_turn : ByteArray := prog_1_method_19_code
def yX4_turn : MethodName := ⟨RX4, "turn", "(I)I"⟩
abbrev cX4_waits : ByteArray := prog_1_method_21_code
def yX4_waits : MethodName := ⟨RX4, "waits", "(I)I"⟩
abbrev cX4_time : ByteArray := prog_1_method_22_code
def yX4_time : MethodName := ⟨RX4, "time", "(I)I"⟩
abbrev cX4_bestPlace : ByteArray := prog_1_method_23_code
def yX4_bestPlace : MethodName := ⟨RX4, "bestPlace", "(II)I"⟩
abbrev cX4_leastBribe : ByteArray := prog_1_method_24_code
def yX4_leastBribe : MethodName := ⟨RX4, "leastBribe", "(I)I"⟩
abbrev cX4_saves : ByteArray := prog_1_method_25_code
def yX4_saves : MethodName := ⟨RX4, "saves", "(I)I"⟩
abbrev cX4_isAuthor : ByteArray := prog_1_method_30_code
def yX4_isAuthor : MethodName := ⟨RX4, "isAuthor", "(I)Z"⟩
abbrev cX4_isWork : ByteArray := prog_1_method_31_code
def yX4_isWork : MethodName := ⟨RX4, "isWork", "(I)Z"⟩
abbrev cX4_isLink : ByteArray := prog_1_method_32_code
def yX4_isLink : MethodName := ⟨RX4, "isLink", "(I)Z"⟩
abbrev cX4_isBribe : ByteArray := prog_1_method_33_code
def yX4_isBribe : MethodName := ⟨RX4, "isBribe", "(I)Z"⟩
abbrev cX4_isTurn : ByteArray := prog_1_method_34_code
def yX4_isTurn : MethodName := ⟨RX4, "isTurn", "(I)Z"⟩
abbrev cX4_isNumberOfOrder : ByteArray := prog_1_method_36_code
def yX4_isNumberOfOrder : MethodName := ⟨RX4, "isNumberOfOrder", "(II)Z"⟩
abbrev cX4_sum : ByteArray := prog_1_method_37_code
def yX4_sum : MethodName := ⟨RX4, "sum", "([I)I"⟩
abbrev cX4_ticksOfRun : ByteArray := prog_1_method_38_code
def yX4_ticksOfRun : MethodName := ⟨RX4, "ticksOfRun", "(LProgramDrum$State;I)I"⟩
def RX5 : String := "ProgramDrumModel"
def TX5 : u_T := fun k => match k with
  | _ => ("", "", "", false)
def tyX5 : Nat → FieldType := fun k => match k with
  | _ => .int
abbrev wsX50 : List Cond := u_ws RX5 TX5 0
theorem nmX5 : ∀ a, a < 0 → ∀ b, b < 0 → a ≠ b → (TX5 a).2.1 ≠ (TX5 b).2.1 := by decide +kernel
theorem tyX5_ok : ∀ k, k < 0 → parseFieldDescriptor (TX5 k).2.2.1 = some (tyX5 k) := by decide +kernel
def RJ9 : String := "java/lang/Math"
def TJ9 : u_T := fun k => match k with
  | _ => ("", "", "", false)
def tyJ9 : Nat → FieldType := fun k => match k with
  | _ => .int
abbrev wsJ90 : List Cond := u_ws RJ9 TJ9 0
theorem nmJ9 : ∀ a, a < 0 → ∀ b, b < 0 → a ≠ b → (TJ9 a).2.1 ≠ (TJ9 b).2.1 := by decide +kernel
theorem tyJ9_ok : ∀ k, k < 0 → parseFieldDescriptor (TJ9 k).2.2.1 = some (tyJ9 k) := by decide +kernel
abbrev cJ9_floorMod_7cf53 : ByteArray := prog_12_method_50_code
def yJ9_floorMod_7cf53 : MethodName := ⟨RJ9, "floorMod", "(II)I"⟩
def RJ0 : String := "java/lang/String"
def TJ0 : u_T := fun k => match k with
  | _ => ("", "", "", false)
def tyJ0 : Nat → FieldType := fun k => match k with
  | _ => .int
abbrev wsJ00 : List Cond := u_ws RJ0 TJ0 0
theorem nmJ0 : ∀ a, a < 0 → ∀ b, b < 0 → a ≠ b → (TJ0 a).2.1 ≠ (TJ0 b).2.1 := by decide +kernel
theorem tyJ0_ok : ∀ k, k < 0 → parseFieldDescriptor (TJ0 k).2.2.1 = some (tyJ0 k) := by decide +kernel
def RL : String := "ProgramDrumLaw"
abbrev cL_cell : ByteArray := method_2_code
def yL_cell : MethodName := ⟨RL, "cell", "([II)I"⟩
abbrev cL_low : ByteArray := method_3_code
def yL_low : MethodName := ⟨RL, "low", "(II)I"⟩
abbrev cL_move : ByteArray := method_4_code
def yL_move : MethodName := ⟨RL, "move", "(LProgramDrum;II)I"⟩
abbrev cL_at : ByteArray := method_5_code
def yL_at : MethodName := ⟨RL, "at", "(I[I)I"⟩
abbrev cL_refund : ByteArray := method_6_code
def yL_refund : MethodName := ⟨RL, "refund", "(I[I[I)V"⟩
abbrev cL_wanted : ByteArray := method_7_code
def yL_wanted : MethodName := ⟨RL, "wanted", "(I[I[I)I"⟩
abbrev cL_lay : ByteArray := method_8_code
def yL_lay : MethodName := ⟨RL, "lay", "([I[I)I"⟩
abbrev cL_run : ByteArray := method_9_code
def yL_run : MethodName := ⟨RL, "run", "(I[I[I[I)I"⟩
abbrev cL_same : ByteArray := method_10_code
def yL_same : MethodName := ⟨RL, "same", "(LProgramDrum;[I[I[I)Z"⟩
abbrev cL_copy : ByteArray := method_11_code
def yL_copy : MethodName := ⟨RL, "copy", "([I[I)V"⟩
abbrev cL_would : ByteArray := method_12_code
def yL_would : MethodName := ⟨RL, "would", "(LProgramDrum;II[I[I[I[I[I[I)Z"⟩
abbrev cL_law : ByteArray := code
def yL_law : MethodName := ⟨RL, "law", "([I)Z"⟩
def wsX0_init : List Cond := .code yX0_init cX0_init 1 none :: ([.methodLink RX0 3 objectInit, .instanceMethod objectInit, .code objectInit ⟨#[0xb1]⟩ 1 none, .arrayClass .int, .fieldLink RX0 11 "ProgramDrum$Jumps" "from" "[I", .fieldLink RX0 15 "ProgramDrum$Jumps" "to" "[I", .fieldLink RX0 18 "ProgramDrum$Jumps" "times" "[I"] ++ wsX00)
def wsX0_note : List Cond := .code yX0_note cX0_note 4 none :: ([.fieldLink RX0 21 "ProgramDrum$Jumps" "size" "I", .fieldLink RX0 11 "ProgramDrum$Jumps" "from" "[I", .fieldLink RX0 15 "ProgramDrum$Jumps" "to" "[I", .fieldLink RX0 18 "ProgramDrum$Jumps" "times" "[I"] ++ wsX00)
def wsX0_number : List Cond := .code yX0_number cX0_number 3 (some .int) :: ([.fieldLink RX0 21 "ProgramDrum$Jumps" "size" "I", .fieldLink RX0 11 "ProgramDrum$Jumps" "from" "[I", .fieldLink RX0 15 "ProgramDrum$Jumps" "to" "[I", .fieldLink RX0 18 "ProgramDrum$Jumps" "times" "[I"] ++ wsX00)
def wsX0_copyFrom : List Cond := .code yX0_copyFrom cX0_copyFrom 3 none :: ([.fieldLink RX0 21 "ProgramDrum$Jumps" "size" "I", .fieldLink RX0 11 "ProgramDrum$Jumps" "from" "[I", .fieldLink RX0 15 "ProgramDrum$Jumps" "to" "[I", .fieldLink RX0 18 "ProgramDrum$Jumps" "times" "[I"] ++ wsX00)
def wsX2_init_r1 : List Cond := [Cond.methodLink RX2 3 objectInit, Cond.instanceMethod objectInit, Cond.code objectInit ⟨#[0xb1]⟩ 1 none, Cond.fieldLink RX2 9 "ProgramDrum$State" "places" "I", Cond.fieldLink RX2 15 "ProgramDrum$State" "lastEnd" "I", Cond.arrayClass .int, Cond.fieldLink RX2 18 "ProgramDrum$State" "author" "[I", Cond.fieldLink RX2 22 "ProgramDrum$State" "work" "[I", Cond.fieldLink RX2 25 "ProgramDrum$State" "next" "[I", Cond.fieldLink RX2 28 "ProgramDrum$State" "expects" "[I", Cond.fieldLink RX2 31 "ProgramDrum$State" "bribe" "[I", Cond.fieldLink RX2 34 "ProgramDrum$State" "place" "[I", Cond.fieldLink RX2 37 "ProgramDrum$State" "delay" "[I", Cond.fieldLink RX2 40 "ProgramDrum$State" "open" "[I", Cond.fieldLink RX2 43 "ProgramDrum$State" "lastWait" "[I", Cond.fieldLink RX2 46 "ProgramDrum$State" "paid" "[I", Cond.fieldLink RX2 49 "ProgramDrum$State" "refunded" "[I", Cond.classLink RX2 52 RX0, Cond.instantiable RX0 4, Cond.initialized RX0, Cond.fieldLink RX2 55 "ProgramDrum$State" "jumps" "LProgramDrum$Jumps;", Cond.instanceMethod yX0_init, Cond.code yX0_init cX0_init 1 none, Cond.methodLink RX0 3 objectInit]
def wsX2_init_r2 : List Cond := [Cond.fieldLink RX0 11 "ProgramDrum$Jumps" "from" "[I", Cond.fieldLink RX0 15 "ProgramDrum$Jumps" "to" "[I", Cond.fieldLink RX0 18 "ProgramDrum$Jumps" "times" "[I"]
def wsX2_init : List Cond := .code yX2_init cX2_init 1 none :: ((wsX2_init_r1 ++ wsX2_init_r2) ++ wsX20 ++ wsX00)
def wsX1_init_r1 : List Cond := [Cond.methodLink RX1 3 objectInit, Cond.instanceMethod objectInit, Cond.code objectInit ⟨#[0xb1]⟩ 1 none, Cond.classLink RX1 9 RX2, Cond.fieldLink RX1 11 "ProgramDrum$Memory" "states" "[LProgramDrum$State;", Cond.instantiable RX2 16, Cond.initialized RX2, Cond.instanceMethod yX2_init, Cond.code yX2_init cX2_init 1 none, Cond.methodLink RX2 3 objectInit, Cond.fieldLink RX2 9 "ProgramDrum$State" "places" "I", Cond.fieldLink RX2 15 "ProgramDrum$State" "lastEnd" "I", Cond.arrayClass .int, Cond.fieldLink RX2 18 "ProgramDrum$State" "author" "[I", Cond.fieldLink RX2 22 "ProgramDrum$State" "work" "[I", Cond.fieldLink RX2 25 "ProgramDrum$State" "next" "[I", Cond.fieldLink RX2 28 "ProgramDrum$State" "expects" "[I", Cond.fieldLink RX2 31 "ProgramDrum$State" "bribe" "[I", Cond.fieldLink RX2 34 "ProgramDrum$State" "place" "[I", Cond.fieldLink RX2 37 "ProgramDrum$State" "delay" "[I", Cond.fieldLink RX2 40 "ProgramDrum$State" "open" "[I", Cond.fieldLink RX2 43 "ProgramDrum$State" "lastWait" "[I", Cond.fieldLink RX2 46 "ProgramDrum$State" "paid" "[I", Cond.fieldLink RX2 49 "ProgramDrum$State" "refunded" "[I"]
def wsX1_init_r2 : List Cond := [Cond.classLink RX2 52 RX0, Cond.instantiable RX0 4, Cond.initialized RX0, Cond.fieldLink RX2 55 "ProgramDrum$State" "jumps" "LProgramDrum$Jumps;", Cond.instanceMethod yX0_init, Cond.code yX0_init cX0_init 1 none, Cond.methodLink RX0 3 objectInit, Cond.fieldLink RX0 11 "ProgramDrum$Jumps" "from" "[I", Cond.fieldLink RX0 15 "ProgramDrum$Jumps" "to" "[I", Cond.fieldLink RX0 18 "ProgramDrum$Jumps" "times" "[I"]
def wsX1_init : List Cond := .code yX1_init cX1_init 2 none :: ((wsX1_init_r1 ++ wsX1_init_r2) ++ wsX10 ++ wsX20 ++ wsX00)
def wsX2_copyRow : List Cond := .code yX2_copyRow cX2_copyRow 3 none :: ([])
def wsX2_copyFrom_r1 : List Cond := [Cond.fieldLink RX2 9 "ProgramDrum$State" "places" "I", Cond.fieldLink RX2 59 "ProgramDrum$State" "count" "I", Cond.fieldLink RX2 62 "ProgramDrum$State" "tick" "I", Cond.fieldLink RX2 15 "ProgramDrum$State" "lastEnd" "I", Cond.fieldLink RX2 18 "ProgramDrum$State" "author" "[I", Cond.fieldLink RX2 22 "ProgramDrum$State" "work" "[I", Cond.fieldLink RX2 25 "ProgramDrum$State" "next" "[I", Cond.fieldLink RX2 28 "ProgramDrum$State" "expects" "[I", Cond.fieldLink RX2 31 "ProgramDrum$State" "bribe" "[I", Cond.fieldLink RX2 34 "ProgramDrum$State" "place" "[I", Cond.fieldLink RX2 37 "ProgramDrum$State" "delay" "[I", Cond.fieldLink RX2 40 "ProgramDrum$State" "open" "[I", Cond.fieldLink RX2 43 "ProgramDrum$State" "lastWait" "[I", Cond.fieldLink RX2 46 "ProgramDrum$State" "paid" "[I", Cond.fieldLink RX2 49 "ProgramDrum$State" "refunded" "[I", Cond.fieldLink RX2 55 "ProgramDrum$State" "jumps" "LProgramDrum$Jumps;", Cond.methodLink RX2 68 yX2_copyRow, Cond.static yX2_copyRow, Cond.initialized RX2, Cond.code yX2_copyRow cX2_copyRow 3 none, Cond.methodLink RX2 72 yX0_copyFrom, Cond.instanceMethod yX0_copyFrom, Cond.selects RX0 yX0_copyFrom yX0_copyFrom, Cond.initialized RX0]
def wsX2_copyFrom_r2 : List Cond := [Cond.code yX0_copyFrom cX0_copyFrom 3 none, Cond.fieldLink RX0 21 "ProgramDrum$Jumps" "size" "I", Cond.fieldLink RX0 11 "ProgramDrum$Jumps" "from" "[I", Cond.fieldLink RX0 15 "ProgramDrum$Jumps" "to" "[I", Cond.fieldLink RX0 18 "ProgramDrum$Jumps" "times" "[I"]
def wsX2_copyFrom : List Cond := .code yX2_copyFrom cX2_copyFrom 2 none :: ((wsX2_copyFrom_r1 ++ wsX2_copyFrom_r2) ++ wsX20 ++ wsX00)
def wsX1_remember_r1 : List Cond := [Cond.fieldLink RX1 11 "ProgramDrum$Memory" "states" "[LProgramDrum$State;", Cond.fieldLink RX1 18 "ProgramDrum$Memory" "oldest" "I", Cond.fieldLink RX1 22 "ProgramDrum$Memory" "size" "I", Cond.methodLink RX1 25 yX2_copyFrom, Cond.instanceMethod yX2_copyFrom, Cond.selects RX2 yX2_copyFrom yX2_copyFrom, Cond.initialized RX2, Cond.code yX2_copyFrom cX2_copyFrom 2 none, Cond.fieldLink RX2 9 "ProgramDrum$State" "places" "I", Cond.fieldLink RX2 59 "ProgramDrum$State" "count" "I", Cond.fieldLink RX2 62 "ProgramDrum$State" "tick" "I", Cond.fieldLink RX2 15 "ProgramDrum$State" "lastEnd" "I", Cond.fieldLink RX2 18 "ProgramDrum$State" "author" "[I", Cond.fieldLink RX2 22 "ProgramDrum$State" "work" "[I", Cond.fieldLink RX2 25 "ProgramDrum$State" "next" "[I", Cond.fieldLink RX2 28 "ProgramDrum$State" "expects" "[I", Cond.fieldLink RX2 31 "ProgramDrum$State" "bribe" "[I", Cond.fieldLink RX2 34 "ProgramDrum$State" "place" "[I", Cond.fieldLink RX2 37 "ProgramDrum$State" "delay" "[I", Cond.fieldLink RX2 40 "ProgramDrum$State" "open" "[I", Cond.fieldLink RX2 43 "ProgramDrum$State" "lastWait" "[I", Cond.fieldLink RX2 46 "ProgramDrum$State" "paid" "[I", Cond.fieldLink RX2 49 "ProgramDrum$State" "refunded" "[I", Cond.fieldLink RX2 55 "ProgramDrum$State" "jumps" "LProgramDrum$Jumps;"]
def wsX1_remember_r2 : List Cond := [Cond.methodLink RX2 68 yX2_copyRow, Cond.static yX2_copyRow, Cond.code yX2_copyRow cX2_copyRow 3 none, Cond.methodLink RX2 72 yX0_copyFrom, Cond.instanceMethod yX0_copyFrom, Cond.selects RX0 yX0_copyFrom yX0_copyFrom, Cond.initialized RX0, Cond.code yX0_copyFrom cX0_copyFrom 3 none, Cond.fieldLink RX0 21 "ProgramDrum$Jumps" "size" "I", Cond.fieldLink RX0 11 "ProgramDrum$Jumps" "from" "[I", Cond.fieldLink RX0 15 "ProgramDrum$Jumps" "to" "[I", Cond.fieldLink RX0 18 "ProgramDrum$Jumps" "times" "[I"]
def wsX1_remember : List Cond := .code yX1_remember cX1_remember 3 none :: ((wsX1_remember_r1 ++ wsX1_remember_r2) ++ wsX10 ++ wsX20 ++ wsX00)
def wsX2_has : List Cond := .code yX2_has cX2_has 2 (some .boolean) :: ([.fieldLink RX2 59 "ProgramDrum$State" "count" "I"] ++ wsX20)
def wsX2_hasPlace : List Cond := .code yX2_hasPlace cX2_hasPlace 2 (some .boolean) :: ([.fieldLink RX2 9 "ProgramDrum$State" "places" "I"] ++ wsX20)
def wsX2_isOnDrum : List Cond := .code yX2_isOnDrum cX2_isOnDrum 2 (some .boolean) :: ([.fieldLink RX2 34 "ProgramDrum$State" "place" "[I", .methodLink RX2 76 yX2_has, .instanceMethod yX2_has, .selects RX2 yX2_has yX2_has, .initialized RX2, .code yX2_has cX2_has 2 (some .boolean), .fieldLink RX2 59 "ProgramDrum$State" "count" "I"] ++ wsX20)
def wsJ9_floorMod_7cf53 : List Cond := .code yJ9_floorMod_7cf53 cJ9_floorMod_7cf53 3 (some .int) :: ([])
def wsX2_around : List Cond := .code yX2_around cX2_around 2 (some .int) :: ([.fieldLink RX2 9 "ProgramDrum$State" "places" "I", .methodLink RX2 80 yJ9_floorMod_7cf53, .static yJ9_floorMod_7cf53, .initialized RJ9, .code yJ9_floorMod_7cf53 cJ9_floorMod_7cf53 3 (some .int)] ++ wsX20)
def wsX2_laidOrders : List Cond := .code yX2_laidOrders cX2_laidOrders 3 (some .int) :: ([.fieldLink RX2 34 "ProgramDrum$State" "place" "[I", .methodLink RX2 76 yX2_has, .instanceMethod yX2_has, .selects RX2 yX2_has yX2_has, .initialized RX2, .code yX2_has cX2_has 2 (some .boolean), .fieldLink RX2 59 "ProgramDrum$State" "count" "I"] ++ wsX20)
def wsX2_ordersOf : List Cond := .code yX2_ordersOf cX2_ordersOf 4 (some .int) :: ([.fieldLink RX2 18 "ProgramDrum$State" "author" "[I", .methodLink RX2 76 yX2_has, .instanceMethod yX2_has, .selects RX2 yX2_has yX2_has, .initialized RX2, .code yX2_has cX2_has 2 (some .boolean), .fieldLink RX2 59 "ProgramDrum$State" "count" "I"] ++ wsX20)
def wsX2_orderOn : List Cond := .code yX2_orderOn cX2_orderOn 3 (some .int) :: ([.fieldLink RX2 34 "ProgramDrum$State" "place" "[I", .methodLink RX2 76 yX2_has, .instanceMethod yX2_has, .selects RX2 yX2_has yX2_has, .initialized RX2, .code yX2_has cX2_has 2 (some .boolean), .fieldLink RX2 59 "ProgramDrum$State" "count" "I"] ++ wsX20)
def wsX2_isFreeFor : List Cond := .code yX2_isFreeFor cX2_isFreeFor 4 (some .boolean) :: ([.methodLink RX2 86 yX2_orderOn, .instanceMethod yX2_orderOn, .selects RX2 yX2_orderOn yX2_orderOn, .initialized RX2, .code yX2_orderOn cX2_orderOn 3 (some .int), .fieldLink RX2 34 "ProgramDrum$State" "place" "[I", .methodLink RX2 76 yX2_has, .instanceMethod yX2_has, .selects RX2 yX2_has yX2_has, .code yX2_has cX2_has 2 (some .boolean), .fieldLink RX2 59 "ProgramDrum$State" "count" "I"] ++ wsX20)
def wsX2_addNew : List Cond := .code yX2_addNew cX2_addNew 7 (some .int) :: ([.fieldLink RX2 59 "ProgramDrum$State" "count" "I", .fieldLink RX2 18 "ProgramDrum$State" "author" "[I", .fieldLink RX2 22 "ProgramDrum$State" "work" "[I", .fieldLink RX2 25 "ProgramDrum$State" "next" "[I", .fieldLink RX2 28 "ProgramDrum$State" "expects" "[I", .fieldLink RX2 31 "ProgramDrum$State" "bribe" "[I", .fieldLink RX2 34 "ProgramDrum$State" "place" "[I", .fieldLink RX2 37 "ProgramDrum$State" "delay" "[I", .fieldLink RX2 40 "ProgramDrum$State" "open" "[I", .fieldLink RX2 43 "ProgramDrum$State" "lastWait" "[I"] ++ wsX20)
def wsX2_changeableRow : List Cond := .code yX2_changeableRow cX2_changeableRow 2 (some (.array .int)) :: ([.fieldLink RX2 18 "ProgramDrum$State" "author" "[I", .fieldLink RX2 22 "ProgramDrum$State" "work" "[I", .fieldLink RX2 25 "ProgramDrum$State" "next" "[I", .fieldLink RX2 28 "ProgramDrum$State" "expects" "[I", .fieldLink RX2 31 "ProgramDrum$State" "bribe" "[I"] ++ wsX20)
def wsX2_replace : List Cond := .code yX2_replace cX2_replace 6 (some .int) :: ([.methodLink RX2 93 yX2_changeableRow, .instanceMethod yX2_changeableRow, .selects RX2 yX2_changeableRow yX2_changeableRow, .initialized RX2, .code yX2_changeableRow cX2_changeableRow 2 (some (.array .int)), .fieldLink RX2 18 "ProgramDrum$State" "author" "[I", .fieldLink RX2 22 "ProgramDrum$State" "work" "[I", .fieldLink RX2 25 "ProgramDrum$State" "next" "[I", .fieldLink RX2 28 "ProgramDrum$State" "expects" "[I", .fieldLink RX2 31 "ProgramDrum$State" "bribe" "[I"] ++ wsX20)
def wsX4_isAuthor : List Cond := .code yX4_isAuthor cX4_isAuthor 1 (some .boolean) :: ([])
def wsX2_refund : List Cond := .code yX2_refund cX2_refund 3 (some .int) :: ([.fieldLink RX2 40 "ProgramDrum$State" "open" "[I", .fieldLink RX2 18 "ProgramDrum$State" "author" "[I", .fieldLink RX2 49 "ProgramDrum$State" "refunded" "[I", .static yX4_isAuthor, .initialized RX4, .code yX4_isAuthor cX4_isAuthor 1 (some .boolean)] ++ wsX20)
def wsX2_put : List Cond := .code yX2_put cX2_put 4 (some .int) :: ([.fieldLink RX2 34 "ProgramDrum$State" "place" "[I", .fieldLink RX2 37 "ProgramDrum$State" "delay" "[I", .methodLink RX2 97 yX2_refund, .instanceMethod yX2_refund, .selects RX2 yX2_refund yX2_refund, .initialized RX2, .code yX2_refund cX2_refund 3 (some .int), .fieldLink RX2 40 "ProgramDrum$State" "open" "[I", .fieldLink RX2 18 "ProgramDrum$State" "author" "[I", .fieldLink RX2 49 "ProgramDrum$State" "refunded" "[I", .static yX4_isAuthor, .initialized RX4, .code yX4_isAuthor cX4_isAuthor 1 (some .boolean)] ++ wsX20)
def wsX2_takeAllOff : List Cond := .code yX2_takeAllOff cX2_takeAllOff 2 none :: ([.methodLink RX2 76 yX2_has, .instanceMethod yX2_has, .selects RX2 yX2_has yX2_has, .initialized RX2, .code yX2_has cX2_has 2 (some .boolean), .fieldLink RX2 59 "ProgramDrum$State" "count" "I", .methodLink RX2 103 yX2_put, .instanceMethod yX2_put, .selects RX2 yX2_put yX2_put, .code yX2_put cX2_put 4 (some .int), .fieldLink RX2 34 "ProgramDrum$State" "place" "[I", .fieldLink RX2 37 "ProgramDrum$State" "delay" "[I", .methodLink RX2 97 yX2_refund, .instanceMethod yX2_refund, .selects RX2 yX2_refund yX2_refund, .code yX2_refund cX2_refund 3 (some .int), .fieldLink RX2 40 "ProgramDrum$State" "open" "[I", .fieldLink RX2 18 "ProgramDrum$State" "author" "[I", .fieldLink RX2 49 "ProgramDrum$State" "refunded" "[I", .static yX4_isAuthor, .initialized RX4, .code yX4_isAuthor cX4_isAuthor 1 (some .boolean)] ++ wsX20)
def wsX2_laidBehind : List Cond := .code yX2_laidBehind cX2_laidBehind 5 (some .int) :: ([.fieldLink RX2 31 "ProgramDrum$State" "bribe" "[I", .methodLink RX2 76 yX2_has, .instanceMethod yX2_has, .selects RX2 yX2_has yX2_has, .initialized RX2, .code yX2_has cX2_has 2 (some .boolean), .fieldLink RX2 59 "ProgramDrum$State" "count" "I"] ++ wsX20)
def wsX2_wantedPlace : List Cond := .code yX2_wantedPlace cX2_wantedPlace 3 (some .int) :: ([.fieldLink RX2 34 "ProgramDrum$State" "place" "[I", .fieldLink RX2 25 "ProgramDrum$State" "next" "[I", .fieldLink RX2 22 "ProgramDrum$State" "work" "[I", .methodLink RX2 76 yX2_has, .instanceMethod yX2_has, .selects RX2 yX2_has yX2_has, .initialized RX2, .code yX2_has cX2_has 2 (some .boolean), .fieldLink RX2 59 "ProgramDrum$State" "count" "I", .methodLink RX2 119 yX2_around, .instanceMethod yX2_around, .selects RX2 yX2_around yX2_around, .code yX2_around cX2_around 2 (some .int), .fieldLink RX2 9 "ProgramDrum$State" "places" "I", .methodLink RX2 80 yJ9_floorMod_7cf53, .static yJ9_floorMod_7cf53, .initialized RJ9, .code yJ9_floorMod_7cf53 cJ9_floorMod_7cf53 3 (some .int), .methodLink RX2 122 yX2_isOnDrum, .instanceMethod yX2_isOnDrum, .selects RX2 yX2_isOnDrum yX2_isOnDrum, .code yX2_isOnDrum cX2_isOnDrum 2 (some .boolean)] ++ wsX20)
def wsX2_layOne_r1 : List Cond := [Cond.fieldLink RX2 9 "ProgramDrum$State" "places" "I", Cond.fieldLink RX2 34 "ProgramDrum$State" "place" "[I", Cond.fieldLink RX2 37 "ProgramDrum$State" "delay" "[I", Cond.fieldLink RX2 40 "ProgramDrum$State" "open" "[I", Cond.fieldLink RX2 31 "ProgramDrum$State" "bribe" "[I", Cond.fieldLink RX2 18 "ProgramDrum$State" "author" "[I", Cond.fieldLink RX2 46 "ProgramDrum$State" "paid" "[I", Cond.methodLink RX2 116 yX2_wantedPlace, Cond.instanceMethod yX2_wantedPlace, Cond.selects RX2 yX2_wantedPlace yX2_wantedPlace, Cond.initialized RX2, Cond.code yX2_wantedPlace cX2_wantedPlace 3 (some .int), Cond.fieldLink RX2 25 "ProgramDrum$State" "next" "[I", Cond.fieldLink RX2 22 "ProgramDrum$State" "work" "[I", Cond.methodLink RX2 76 yX2_has, Cond.instanceMethod yX2_has, Cond.selects RX2 yX2_has yX2_has, Cond.code yX2_has cX2_has 2 (some .boolean), Cond.fieldLink RX2 59 "ProgramDrum$State" "count" "I", Cond.methodLink RX2 119 yX2_around, Cond.instanceMethod yX2_around, Cond.selects RX2 yX2_around yX2_around, Cond.code yX2_around cX2_around 2 (some .int), Cond.methodLink RX2 80 yJ9_floorMod_7cf53]
def wsX2_layOne_r2 : List Cond := [Cond.static yJ9_floorMod_7cf53, Cond.initialized RJ9, Cond.code yJ9_floorMod_7cf53 cJ9_floorMod_7cf53 3 (some .int), Cond.methodLink RX2 122 yX2_isOnDrum, Cond.instanceMethod yX2_isOnDrum, Cond.selects RX2 yX2_isOnDrum yX2_isOnDrum, Cond.code yX2_isOnDrum cX2_isOnDrum 2 (some .boolean), Cond.methodLink RX2 86 yX2_orderOn, Cond.instanceMethod yX2_orderOn, Cond.selects RX2 yX2_orderOn yX2_orderOn, Cond.code yX2_orderOn cX2_orderOn 3 (some .int), Cond.static yX4_isAuthor, Cond.initialized RX4, Cond.code yX4_isAuthor cX4_isAuthor 1 (some .boolean)]
def wsX2_layOne : List Cond := .code yX2_layOne cX2_layOne 5 none :: ((wsX2_layOne_r1 ++ wsX2_layOne_r2) ++ wsX20)
def wsX2_layAll_r1 : List Cond := [Cond.fieldLink RX2 37 "ProgramDrum$State" "delay" "[I", Cond.methodLink RX2 106 yX2_takeAllOff, Cond.instanceMethod yX2_takeAllOff, Cond.selects RX2 yX2_takeAllOff yX2_takeAllOff, Cond.initialized RX2, Cond.code yX2_takeAllOff cX2_takeAllOff 2 none, Cond.methodLink RX2 76 yX2_has, Cond.instanceMethod yX2_has, Cond.selects RX2 yX2_has yX2_has, Cond.code yX2_has cX2_has 2 (some .boolean), Cond.fieldLink RX2 59 "ProgramDrum$State" "count" "I", Cond.methodLink RX2 103 yX2_put, Cond.instanceMethod yX2_put, Cond.selects RX2 yX2_put yX2_put, Cond.code yX2_put cX2_put 4 (some .int), Cond.fieldLink RX2 34 "ProgramDrum$State" "place" "[I", Cond.methodLink RX2 97 yX2_refund, Cond.instanceMethod yX2_refund, Cond.selects RX2 yX2_refund yX2_refund, Cond.code yX2_refund cX2_refund 3 (some .int), Cond.fieldLink RX2 40 "ProgramDrum$State" "open" "[I", Cond.fieldLink RX2 18 "ProgramDrum$State" "author" "[I", Cond.fieldLink RX2 49 "ProgramDrum$State" "refunded" "[I", Cond.static yX4_isAuthor]
def wsX2_layAll_r2 : List Cond := [Cond.initialized RX4, Cond.code yX4_isAuthor cX4_isAuthor 1 (some .boolean), Cond.methodLink RX2 109 yX2_laidBehind, Cond.instanceMethod yX2_laidBehind, Cond.selects RX2 yX2_laidBehind yX2_laidBehind, Cond.code yX2_laidBehind cX2_laidBehind 5 (some .int), Cond.fieldLink RX2 31 "ProgramDrum$State" "bribe" "[I", Cond.methodLink RX2 112 yX2_layOne, Cond.instanceMethod yX2_layOne, Cond.selects RX2 yX2_layOne yX2_layOne, Cond.code yX2_layOne cX2_layOne 5 none, Cond.fieldLink RX2 9 "ProgramDrum$State" "places" "I", Cond.fieldLink RX2 46 "ProgramDrum$State" "paid" "[I", Cond.methodLink RX2 116 yX2_wantedPlace, Cond.instanceMethod yX2_wantedPlace, Cond.selects RX2 yX2_wantedPlace yX2_wantedPlace, Cond.code yX2_wantedPlace cX2_wantedPlace 3 (some .int), Cond.fieldLink RX2 25 "ProgramDrum$State" "next" "[I", Cond.fieldLink RX2 22 "ProgramDrum$State" "work" "[I", Cond.methodLink RX2 119 yX2_around, Cond.instanceMethod yX2_around, Cond.selects RX2 yX2_around yX2_around, Cond.code yX2_around cX2_around 2 (some .int), Cond.methodLink RX2 80 yJ9_floorMod_7cf53]
def wsX2_layAll_r3 : List Cond := [Cond.static yJ9_floorMod_7cf53, Cond.initialized RJ9, Cond.code yJ9_floorMod_7cf53 cJ9_floorMod_7cf53 3 (some .int), Cond.methodLink RX2 122 yX2_isOnDrum, Cond.instanceMethod yX2_isOnDrum, Cond.selects RX2 yX2_isOnDrum yX2_isOnDrum, Cond.code yX2_isOnDrum cX2_isOnDrum 2 (some .boolean), Cond.methodLink RX2 86 yX2_orderOn, Cond.instanceMethod yX2_orderOn, Cond.selects RX2 yX2_orderOn yX2_orderOn, Cond.code yX2_orderOn cX2_orderOn 3 (some .int)]
def wsX2_layAll : List Cond := .code yX2_layAll cX2_layAll 4 (some .int) :: ((wsX2_layAll_r1 ++ (wsX2_layAll_r2 ++ wsX2_layAll_r3)) ++ wsX20)
def wsX2_waitFor : List Cond := .code yX2_waitFor cX2_waitFor 2 (some .int) :: ([.fieldLink RX2 34 "ProgramDrum$State" "place" "[I", .fieldLink RX2 62 "ProgramDrum$State" "tick" "I", .methodLink RX2 122 yX2_isOnDrum, .instanceMethod yX2_isOnDrum, .selects RX2 yX2_isOnDrum yX2_isOnDrum, .initialized RX2, .code yX2_isOnDrum cX2_isOnDrum 2 (some .boolean), .methodLink RX2 76 yX2_has, .instanceMethod yX2_has, .selects RX2 yX2_has yX2_has, .code yX2_has cX2_has 2 (some .boolean), .fieldLink RX2 59 "ProgramDrum$State" "count" "I", .methodLink RX2 119 yX2_around, .instanceMethod yX2_around, .selects RX2 yX2_around yX2_around, .code yX2_around cX2_around 2 (some .int), .fieldLink RX2 9 "ProgramDrum$State" "places" "I", .methodLink RX2 80 yJ9_floorMod_7cf53, .static yJ9_floorMod_7cf53, .initialized RJ9, .code yJ9_floorMod_7cf53 cJ9_floorMod_7cf53 3 (some .int)] ++ wsX20)
def wsX2_read : List Cond := .code yX2_read cX2_read 4 none :: ([.fieldLink RX2 34 "ProgramDrum$State" "place" "[I", .fieldLink RX2 62 "ProgramDrum$State" "tick" "I", .fieldLink RX2 43 "ProgramDrum$State" "lastWait" "[I", .fieldLink RX2 40 "ProgramDrum$State" "open" "[I", .fieldLink RX2 22 "ProgramDrum$State" "work" "[I", .methodLink RX2 119 yX2_around, .instanceMethod yX2_around, .selects RX2 yX2_around yX2_around, .initialized RX2, .code yX2_around cX2_around 2 (some .int), .fieldLink RX2 9 "ProgramDrum$State" "places" "I", .methodLink RX2 80 yJ9_floorMod_7cf53, .static yJ9_floorMod_7cf53, .initialized RJ9, .code yJ9_floorMod_7cf53 cJ9_floorMod_7cf53 3 (some .int), .methodLink RX2 97 yX2_refund, .instanceMethod yX2_refund, .selects RX2 yX2_refund yX2_refund, .code yX2_refund cX2_refund 3 (some .int), .fieldLink RX2 18 "ProgramDrum$State" "author" "[I", .fieldLink RX2 49 "ProgramDrum$State" "refunded" "[I", .static yX4_isAuthor, .initialized RX4, .code yX4_isAuthor cX4_isAuthor 1 (some .boolean)] ++ wsX20)
def wsX2_runFrom_r1 : List Cond := [Cond.fieldLink RX2 28 "ProgramDrum$State" "expects" "[I", Cond.fieldLink RX2 25 "ProgramDrum$State" "next" "[I", Cond.fieldLink RX2 55 "ProgramDrum$State" "jumps" "LProgramDrum$Jumps;", Cond.fieldLink RX2 15 "ProgramDrum$State" "lastEnd" "I", Cond.methodLink RX2 122 yX2_isOnDrum, Cond.instanceMethod yX2_isOnDrum, Cond.selects RX2 yX2_isOnDrum yX2_isOnDrum, Cond.initialized RX2, Cond.code yX2_isOnDrum cX2_isOnDrum 2 (some .boolean), Cond.fieldLink RX2 34 "ProgramDrum$State" "place" "[I", Cond.methodLink RX2 76 yX2_has, Cond.instanceMethod yX2_has, Cond.selects RX2 yX2_has yX2_has, Cond.code yX2_has cX2_has 2 (some .boolean), Cond.fieldLink RX2 59 "ProgramDrum$State" "count" "I", Cond.methodLink RX2 125 yX2_read, Cond.instanceMethod yX2_read, Cond.selects RX2 yX2_read yX2_read, Cond.code yX2_read cX2_read 4 none, Cond.fieldLink RX2 62 "ProgramDrum$State" "tick" "I", Cond.fieldLink RX2 43 "ProgramDrum$State" "lastWait" "[I", Cond.fieldLink RX2 40 "ProgramDrum$State" "open" "[I", Cond.fieldLink RX2 22 "ProgramDrum$State" "work" "[I", Cond.methodLink RX2 119 yX2_around]
def wsX2_runFrom_r2 : List Cond := [Cond.instanceMethod yX2_around, Cond.selects RX2 yX2_around yX2_around, Cond.code yX2_around cX2_around 2 (some .int), Cond.fieldLink RX2 9 "ProgramDrum$State" "places" "I", Cond.methodLink RX2 80 yJ9_floorMod_7cf53, Cond.static yJ9_floorMod_7cf53, Cond.initialized RJ9, Cond.code yJ9_floorMod_7cf53 cJ9_floorMod_7cf53 3 (some .int), Cond.methodLink RX2 97 yX2_refund, Cond.instanceMethod yX2_refund, Cond.selects RX2 yX2_refund yX2_refund, Cond.code yX2_refund cX2_refund 3 (some .int), Cond.fieldLink RX2 18 "ProgramDrum$State" "author" "[I", Cond.fieldLink RX2 49 "ProgramDrum$State" "refunded" "[I", Cond.static yX4_isAuthor, Cond.initialized RX4, Cond.code yX4_isAuthor cX4_isAuthor 1 (some .boolean), Cond.methodLink RX2 129 yX0_note, Cond.instanceMethod yX0_note, Cond.selects RX0 yX0_note yX0_note, Cond.initialized RX0, Cond.code yX0_note cX0_note 4 none, Cond.fieldLink RX0 21 "ProgramDrum$Jumps" "size" "I", Cond.fieldLink RX0 11 "ProgramDrum$Jumps" "from" "[I"]
def wsX2_runFrom_r3 : List Cond := [Cond.fieldLink RX0 15 "ProgramDrum$Jumps" "to" "[I", Cond.fieldLink RX0 18 "ProgramDrum$Jumps" "times" "[I"]
def wsX2_runFrom : List Cond := .code yX2_runFrom cX2_runFrom 6 (some .int) :: ((wsX2_runFrom_r1 ++ (wsX2_runFrom_r2 ++ wsX2_runFrom_r3)) ++ wsX20 ++ wsX00)
def wsX3_init : List Cond := .code yX3_init cX3_init 1 none :: ([.methodLink RX3 5 objectInit, .instanceMethod objectInit, .code objectInit ⟨#[0xb1]⟩ 1 none, .arrayClass .int, .fieldLink RX3 11 "ProgramDrum$Text" "codes" "[I"] ++ wsX30)
def wsX4_init_r1 : List Cond := [Cond.methodLink RX4 1 objectInit, Cond.instanceMethod objectInit, Cond.code objectInit ⟨#[0xb1]⟩ 1 none, Cond.classLink RX4 7 RX3, Cond.instantiable RX3 2, Cond.initialized RX3, Cond.fieldLink RX4 10 "ProgramDrum" "text" "LProgramDrum$Text;", Cond.classLink RX4 16 RX2, Cond.instantiable RX2 16, Cond.initialized RX2, Cond.fieldLink RX4 19 "ProgramDrum" "now" "LProgramDrum$State;", Cond.fieldLink RX4 23 "ProgramDrum" "trial" "LProgramDrum$State;", Cond.fieldLink RX4 26 "ProgramDrum" "probe" "LProgramDrum$State;", Cond.classLink RX4 29 RX1, Cond.instantiable RX1 3, Cond.initialized RX1, Cond.fieldLink RX4 32 "ProgramDrum" "memory" "LProgramDrum$Memory;", Cond.fieldLink RX4 36 "ProgramDrum" "slots" "[LProgramDrum$State;", Cond.arrayClass .boolean, Cond.fieldLink RX4 40 "ProgramDrum" "saved" "[Z", Cond.instanceMethod yX3_init, Cond.code yX3_init cX3_init 1 none, Cond.methodLink RX3 5 objectInit, Cond.arrayClass .int]
def wsX4_init_r2 : List Cond := [Cond.fieldLink RX3 11 "ProgramDrum$Text" "codes" "[I", Cond.instanceMethod yX2_init, Cond.code yX2_init cX2_init 1 none, Cond.methodLink RX2 3 objectInit, Cond.fieldLink RX2 9 "ProgramDrum$State" "places" "I", Cond.fieldLink RX2 15 "ProgramDrum$State" "lastEnd" "I", Cond.fieldLink RX2 18 "ProgramDrum$State" "author" "[I", Cond.fieldLink RX2 22 "ProgramDrum$State" "work" "[I", Cond.fieldLink RX2 25 "ProgramDrum$State" "next" "[I", Cond.fieldLink RX2 28 "ProgramDrum$State" "expects" "[I", Cond.fieldLink RX2 31 "ProgramDrum$State" "bribe" "[I", Cond.fieldLink RX2 34 "ProgramDrum$State" "place" "[I", Cond.fieldLink RX2 37 "ProgramDrum$State" "delay" "[I", Cond.fieldLink RX2 40 "ProgramDrum$State" "open" "[I", Cond.fieldLink RX2 43 "ProgramDrum$State" "lastWait" "[I", Cond.fieldLink RX2 46 "ProgramDrum$State" "paid" "[I", Cond.fieldLink RX2 49 "ProgramDrum$State" "refunded" "[I", Cond.classLink RX2 52 RX0, Cond.instantiable RX0 4, Cond.initialized RX0, Cond.fieldLink RX2 55 "ProgramDrum$State" "jumps" "LProgramDrum$Jumps;", Cond.instanceMethod yX0_init, Cond.code yX0_init cX0_init 1 none, Cond.methodLink RX0 3 objectInit]
def wsX4_init_r3 : List Cond := [Cond.fieldLink RX0 11 "ProgramDrum$Jumps" "from" "[I", Cond.fieldLink RX0 15 "ProgramDrum$Jumps" "to" "[I", Cond.fieldLink RX0 18 "ProgramDrum$Jumps" "times" "[I", Cond.methodLink RX4 31 yX1_init, Cond.instanceMethod yX1_init, Cond.code yX1_init cX1_init 2 none, Cond.methodLink RX1 3 objectInit, Cond.classLink RX1 9 RX2, Cond.fieldLink RX1 11 "ProgramDrum$Memory" "states" "[LProgramDrum$State;"]
def wsX4_init : List Cond := .code yX4_init cX4_init 1 none :: ((wsX4_init_r1 ++ (wsX4_init_r2 ++ wsX4_init_r3)) ++ wsX30 ++ wsX40 ++ wsX20 ++ wsX10 ++ wsX00)
def wsX4_sum : List Cond := .code yX4_sum cX4_sum 3 (some .int) :: ([])
def wsX4_about_r1 : List Cond := [Cond.classLink RX4 44 "java/lang/IllegalArgumentException", Cond.initialized "java/lang/IllegalArgumentException", Cond.fieldLink RX4 19 "ProgramDrum" "now" "LProgramDrum$State;", Cond.methodLink RX4 90 yX2_around, Cond.instanceMethod yX2_around, Cond.selects RX2 yX2_around yX2_around, Cond.initialized RX2, Cond.code yX2_around cX2_around 2 (some .int), Cond.fieldLink RX2 9 "ProgramDrum$State" "places" "I", Cond.methodLink RX2 80 yJ9_floorMod_7cf53, Cond.static yJ9_floorMod_7cf53, Cond.initialized RJ9, Cond.code yJ9_floorMod_7cf53 cJ9_floorMod_7cf53 3 (some .int), Cond.methodLink RX4 93 yX2_laidOrders, Cond.instanceMethod yX2_laidOrders, Cond.selects RX2 yX2_laidOrders yX2_laidOrders, Cond.code yX2_laidOrders cX2_laidOrders 3 (some .int), Cond.fieldLink RX2 34 "ProgramDrum$State" "place" "[I", Cond.methodLink RX2 76 yX2_has, Cond.instanceMethod yX2_has, Cond.selects RX2 yX2_has yX2_has, Cond.code yX2_has cX2_has 2 (some .boolean), Cond.fieldLink RX2 59 "ProgramDrum$State" "count" "I", Cond.methodLink RX4 100 yX4_sum]
def wsX4_about_r2 : List Cond := [Cond.static yX4_sum, Cond.initialized RX4, Cond.code yX4_sum cX4_sum 3 (some .int)]
def wsX4_about : List Cond := .code yX4_about cX4_about 2 (some .int) :: ((wsX4_about_r1 ++ wsX4_about_r2) ++ wsX40 ++ wsX20 ++ wsX00 ++ (vx_atS RX4 48 "java/lang/IllegalArgumentException" ["java/lang/RuntimeException", "java/lang/Exception"]).filter goodWord)
def wsX4_order : List Cond := .code yX4_order cX4_order 3 (some .int) :: ([.classLink RX4 128 "java/lang/IndexOutOfBoundsException", .initialized "java/lang/IndexOutOfBoundsException", .classLink RX4 44 "java/lang/IllegalArgumentException", .initialized "java/lang/IllegalArgumentException", .fieldLink RX4 19 "ProgramDrum" "now" "LProgramDrum$State;", .methodLink RX4 124 yX2_has, .instanceMethod yX2_has, .selects RX2 yX2_has yX2_has, .initialized RX2, .code yX2_has cX2_has 2 (some .boolean), .fieldLink RX2 59 "ProgramDrum$State" "count" "I"] ++ wsX40 ++ wsX20 ++ (vx_atS RX4 132 "java/lang/IndexOutOfBoundsException" ["java/lang/RuntimeException", "java/lang/Exception"]).filter goodWord ++ (vx_atS RX4 48 "java/lang/IllegalArgumentException" ["java/lang/RuntimeException", "java/lang/Exception"]).filter goodWord)
def wsX4_author : List Cond := .code yX4_author cX4_author 3 (some .int) :: ([.classLink RX4 128 "java/lang/IndexOutOfBoundsException", .initialized "java/lang/IndexOutOfBoundsException", .classLink RX4 44 "java/lang/IllegalArgumentException", .initialized "java/lang/IllegalArgumentException", .fieldLink RX4 19 "ProgramDrum" "now" "LProgramDrum$State;", .methodLink RX4 159 yX4_isAuthor, .static yX4_isAuthor, .initialized RX4, .code yX4_isAuthor cX4_isAuthor 1 (some .boolean), .methodLink RX4 164 yX2_ordersOf, .instanceMethod yX2_ordersOf, .selects RX2 yX2_ordersOf yX2_ordersOf, .initialized RX2, .code yX2_ordersOf cX2_ordersOf 4 (some .int), .fieldLink RX2 18 "ProgramDrum$State" "author" "[I", .methodLink RX2 76 yX2_has, .instanceMethod yX2_has, .selects RX2 yX2_has yX2_has, .code yX2_has cX2_has 2 (some .boolean), .fieldLink RX2 59 "ProgramDrum$State" "count" "I"] ++ wsX40 ++ wsX20 ++ (vx_atS RX4 132 "java/lang/IndexOutOfBoundsException" ["java/lang/RuntimeException", "java/lang/Exception"]).filter goodWord ++ (vx_atS RX4 48 "java/lang/IllegalArgumentException" ["java/lang/RuntimeException", "java/lang/Exception"]).filter goodWord)
def wsX4_at : List Cond := .code yX4_at cX4_at 2 (some .int) :: ([.classLink RX4 128 "java/lang/IndexOutOfBoundsException", .initialized "java/lang/IndexOutOfBoundsException", .fieldLink RX4 19 "ProgramDrum" "now" "LProgramDrum$State;", .methodLink RX4 169 yX2_hasPlace, .instanceMethod yX2_hasPlace, .selects RX2 yX2_hasPlace yX2_hasPlace, .initialized RX2, .code yX2_hasPlace cX2_hasPlace 2 (some .boolean), .fieldLink RX2 9 "ProgramDrum$State" "places" "I", .methodLink RX4 174 yX2_orderOn, .instanceMethod yX2_orderOn, .selects RX2 yX2_orderOn yX2_orderOn, .code yX2_orderOn cX2_orderOn 3 (some .int), .fieldLink RX2 34 "ProgramDrum$State" "place" "[I", .methodLink RX2 76 yX2_has, .instanceMethod yX2_has, .selects RX2 yX2_has yX2_has, .code yX2_has cX2_has 2 (some .boolean), .fieldLink RX2 59 "ProgramDrum$State" "count" "I"] ++ wsX40 ++ wsX20 ++ (vx_atS RX4 132 "java/lang/IndexOutOfBoundsException" ["java/lang/RuntimeException", "java/lang/Exception"]).filter goodWord)
def wsX4_jump : List Cond := .code yX4_jump cX4_jump 3 (some .int) :: ([.classLink RX4 44 "java/lang/IllegalArgumentException", .initialized "java/lang/IllegalArgumentException", .fieldLink RX4 19 "ProgramDrum" "now" "LProgramDrum$State;", .methodLink RX4 179 yX0_number, .instanceMethod yX0_number, .selects RX0 yX0_number yX0_number, .initialized RX0, .code yX0_number cX0_number 3 (some .int), .fieldLink RX0 21 "ProgramDrum$Jumps" "size" "I", .fieldLink RX0 11 "ProgramDrum$Jumps" "from" "[I", .fieldLink RX0 15 "ProgramDrum$Jumps" "to" "[I", .fieldLink RX0 18 "ProgramDrum$Jumps" "times" "[I"] ++ wsX40 ++ wsX20 ++ wsX00 ++ (vx_atS RX4 48 "java/lang/IllegalArgumentException" ["java/lang/RuntimeException", "java/lang/Exception"]).filter goodWord)
def wsX4_setDrum_r1 : List Cond := [Cond.classLink RX4 44 "java/lang/IllegalArgumentException", Cond.initialized "java/lang/IllegalArgumentException", Cond.fieldLink RX4 32 "ProgramDrum" "memory" "LProgramDrum$Memory;", Cond.fieldLink RX4 19 "ProgramDrum" "now" "LProgramDrum$State;", Cond.methodLink RX4 191 yX1_remember, Cond.instanceMethod yX1_remember, Cond.selects RX1 yX1_remember yX1_remember, Cond.initialized RX1, Cond.code yX1_remember cX1_remember 3 none, Cond.fieldLink RX1 11 "ProgramDrum$Memory" "states" "[LProgramDrum$State;", Cond.fieldLink RX1 18 "ProgramDrum$Memory" "oldest" "I", Cond.fieldLink RX1 22 "ProgramDrum$Memory" "size" "I", Cond.methodLink RX1 25 yX2_copyFrom, Cond.instanceMethod yX2_copyFrom, Cond.selects RX2 yX2_copyFrom yX2_copyFrom, Cond.initialized RX2, Cond.code yX2_copyFrom cX2_copyFrom 2 none, Cond.fieldLink RX2 9 "ProgramDrum$State" "places" "I", Cond.fieldLink RX2 59 "ProgramDrum$State" "count" "I", Cond.fieldLink RX2 62 "ProgramDrum$State" "tick" "I", Cond.fieldLink RX2 15 "ProgramDrum$State" "lastEnd" "I", Cond.fieldLink RX2 18 "ProgramDrum$State" "author" "[I", Cond.fieldLink RX2 22 "ProgramDrum$State" "work" "[I", Cond.fieldLink RX2 25 "ProgramDrum$State" "next" "[I"]
def wsX4_setDrum_r2 : List Cond := [Cond.fieldLink RX2 28 "ProgramDrum$State" "expects" "[I", Cond.fieldLink RX2 31 "ProgramDrum$State" "bribe" "[I", Cond.fieldLink RX2 34 "ProgramDrum$State" "place" "[I", Cond.fieldLink RX2 37 "ProgramDrum$State" "delay" "[I", Cond.fieldLink RX2 40 "ProgramDrum$State" "open" "[I", Cond.fieldLink RX2 43 "ProgramDrum$State" "lastWait" "[I", Cond.fieldLink RX2 46 "ProgramDrum$State" "paid" "[I", Cond.fieldLink RX2 49 "ProgramDrum$State" "refunded" "[I", Cond.fieldLink RX2 55 "ProgramDrum$State" "jumps" "LProgramDrum$Jumps;", Cond.methodLink RX2 68 yX2_copyRow, Cond.static yX2_copyRow, Cond.code yX2_copyRow cX2_copyRow 3 none, Cond.methodLink RX2 72 yX0_copyFrom, Cond.instanceMethod yX0_copyFrom, Cond.selects RX0 yX0_copyFrom yX0_copyFrom, Cond.initialized RX0, Cond.code yX0_copyFrom cX0_copyFrom 3 none, Cond.fieldLink RX0 21 "ProgramDrum$Jumps" "size" "I", Cond.fieldLink RX0 11 "ProgramDrum$Jumps" "from" "[I", Cond.fieldLink RX0 15 "ProgramDrum$Jumps" "to" "[I", Cond.fieldLink RX0 18 "ProgramDrum$Jumps" "times" "[I", Cond.methodLink RX4 194 yX2_takeAllOff, Cond.instanceMethod yX2_takeAllOff, Cond.selects RX2 yX2_takeAllOff yX2_takeAllOff]
def wsX4_setDrum_r3 : List Cond := [Cond.code yX2_takeAllOff cX2_takeAllOff 2 none, Cond.methodLink RX2 76 yX2_has, Cond.instanceMethod yX2_has, Cond.selects RX2 yX2_has yX2_has, Cond.code yX2_has cX2_has 2 (some .boolean), Cond.methodLink RX2 103 yX2_put, Cond.instanceMethod yX2_put, Cond.selects RX2 yX2_put yX2_put, Cond.code yX2_put cX2_put 4 (some .int), Cond.methodLink RX2 97 yX2_refund, Cond.instanceMethod yX2_refund, Cond.selects RX2 yX2_refund yX2_refund, Cond.code yX2_refund cX2_refund 3 (some .int), Cond.static yX4_isAuthor, Cond.initialized RX4, Cond.code yX4_isAuthor cX4_isAuthor 1 (some .boolean)]
def wsX4_setDrum : List Cond := .code yX4_setDrum cX4_setDrum 3 (some .int) :: ((wsX4_setDrum_r1 ++ (wsX4_setDrum_r2 ++ wsX4_setDrum_r3)) ++ wsX40 ++ wsX20 ++ wsX10 ++ wsX00 ++ (vx_atS RX4 48 "java/lang/IllegalArgumentException" ["java/lang/RuntimeException", "java/lang/Exception"]).filter goodWord)
def wsX4_isWork : List Cond := .code yX4_isWork cX4_isWork 1 (some .boolean) :: ([])
def wsX4_isLink : List Cond := .code yX4_isLink cX4_isLink 1 (some .boolean) :: ([])
def wsX4_isBribe : List Cond := .code yX4_isBribe cX4_isBribe 1 (some .boolean) :: ([])
def wsX4_addOrder_r1 : List Cond := [Cond.classLink RX4 44 "java/lang/IllegalArgumentException", Cond.initialized "java/lang/IllegalArgumentException", Cond.classLink RX4 55 "java/lang/IllegalStateException", Cond.initialized "java/lang/IllegalStateException", Cond.fieldLink RX4 19 "ProgramDrum" "now" "LProgramDrum$State;", Cond.fieldLink RX4 32 "ProgramDrum" "memory" "LProgramDrum$Memory;", Cond.methodLink RX4 159 yX4_isAuthor, Cond.static yX4_isAuthor, Cond.initialized RX4, Cond.code yX4_isAuthor cX4_isAuthor 1 (some .boolean), Cond.methodLink RX4 197 yX4_isWork, Cond.static yX4_isWork, Cond.code yX4_isWork cX4_isWork 1 (some .boolean), Cond.methodLink RX4 200 yX4_isLink, Cond.static yX4_isLink, Cond.code yX4_isLink cX4_isLink 1 (some .boolean), Cond.methodLink RX4 203 yX4_isBribe, Cond.static yX4_isBribe, Cond.code yX4_isBribe cX4_isBribe 1 (some .boolean), Cond.methodLink RX4 191 yX1_remember, Cond.instanceMethod yX1_remember, Cond.selects RX1 yX1_remember yX1_remember, Cond.initialized RX1, Cond.code yX1_remember cX1_remember 3 none]
def wsX4_addOrder_r2 : List Cond := [Cond.fieldLink RX1 11 "ProgramDrum$Memory" "states" "[LProgramDrum$State;", Cond.fieldLink RX1 18 "ProgramDrum$Memory" "oldest" "I", Cond.fieldLink RX1 22 "ProgramDrum$Memory" "size" "I", Cond.methodLink RX1 25 yX2_copyFrom, Cond.instanceMethod yX2_copyFrom, Cond.selects RX2 yX2_copyFrom yX2_copyFrom, Cond.initialized RX2, Cond.code yX2_copyFrom cX2_copyFrom 2 none, Cond.fieldLink RX2 9 "ProgramDrum$State" "places" "I", Cond.fieldLink RX2 59 "ProgramDrum$State" "count" "I", Cond.fieldLink RX2 62 "ProgramDrum$State" "tick" "I", Cond.fieldLink RX2 15 "ProgramDrum$State" "lastEnd" "I", Cond.fieldLink RX2 18 "ProgramDrum$State" "author" "[I", Cond.fieldLink RX2 22 "ProgramDrum$State" "work" "[I", Cond.fieldLink RX2 25 "ProgramDrum$State" "next" "[I", Cond.fieldLink RX2 28 "ProgramDrum$State" "expects" "[I", Cond.fieldLink RX2 31 "ProgramDrum$State" "bribe" "[I", Cond.fieldLink RX2 34 "ProgramDrum$State" "place" "[I", Cond.fieldLink RX2 37 "ProgramDrum$State" "delay" "[I", Cond.fieldLink RX2 40 "ProgramDrum$State" "open" "[I", Cond.fieldLink RX2 43 "ProgramDrum$State" "lastWait" "[I", Cond.fieldLink RX2 46 "ProgramDrum$State" "paid" "[I", Cond.fieldLink RX2 49 "ProgramDrum$State" "refunded" "[I", Cond.fieldLink RX2 55 "ProgramDrum$State" "jumps" "LProgramDrum$Jumps;"]
def wsX4_addOrder_r3 : List Cond := [Cond.methodLink RX2 68 yX2_copyRow, Cond.static yX2_copyRow, Cond.code yX2_copyRow cX2_copyRow 3 none, Cond.methodLink RX2 72 yX0_copyFrom, Cond.instanceMethod yX0_copyFrom, Cond.selects RX0 yX0_copyFrom yX0_copyFrom, Cond.initialized RX0, Cond.code yX0_copyFrom cX0_copyFrom 3 none, Cond.fieldLink RX0 21 "ProgramDrum$Jumps" "size" "I", Cond.fieldLink RX0 11 "ProgramDrum$Jumps" "from" "[I", Cond.fieldLink RX0 15 "ProgramDrum$Jumps" "to" "[I", Cond.fieldLink RX0 18 "ProgramDrum$Jumps" "times" "[I", Cond.methodLink RX4 210 yX2_addNew, Cond.instanceMethod yX2_addNew, Cond.selects RX2 yX2_addNew yX2_addNew, Cond.code yX2_addNew cX2_addNew 7 (some .int)]
def wsX4_addOrder : List Cond := .code yX4_addOrder cX4_addOrder 6 (some .int) :: ((wsX4_addOrder_r1 ++ (wsX4_addOrder_r2 ++ wsX4_addOrder_r3)) ++ wsX40 ++ wsX20 ++ wsX10 ++ wsX00 ++ (vx_atS RX4 48 "java/lang/IllegalArgumentException" ["java/lang/RuntimeException", "java/lang/Exception"]).filter goodWord ++ (vx_atS RX4 59 "java/lang/IllegalStateException" ["java/lang/RuntimeException", "java/lang/Exception"]).filter goodWord)
def wsX4_isNumberOfOrder : List Cond := .code yX4_isNumberOfOrder cX4_isNumberOfOrder 2 (some .boolean) :: ([.methodLink RX4 159 yX4_isAuthor, .static yX4_isAuthor, .initialized RX4, .code yX4_isAuthor cX4_isAuthor 1 (some .boolean), .methodLink RX4 197 yX4_isWork, .static yX4_isWork, .code yX4_isWork cX4_isWork 1 (some .boolean), .methodLink RX4 200 yX4_isLink, .static yX4_isLink, .code yX4_isLink cX4_isLink 1 (some .boolean), .methodLink RX4 203 yX4_isBribe, .static yX4_isBribe, .code yX4_isBribe cX4_isBribe 1 (some .boolean)])
def wsX4_change_r1 : List Cond := [Cond.classLink RX4 128 "java/lang/IndexOutOfBoundsException", Cond.initialized "java/lang/IndexOutOfBoundsException", Cond.classLink RX4 44 "java/lang/IllegalArgumentException", Cond.initialized "java/lang/IllegalArgumentException", Cond.fieldLink RX4 19 "ProgramDrum" "now" "LProgramDrum$State;", Cond.fieldLink RX4 32 "ProgramDrum" "memory" "LProgramDrum$Memory;", Cond.methodLink RX4 124 yX2_has, Cond.instanceMethod yX2_has, Cond.selects RX2 yX2_has yX2_has, Cond.initialized RX2, Cond.code yX2_has cX2_has 2 (some .boolean), Cond.fieldLink RX2 59 "ProgramDrum$State" "count" "I", Cond.methodLink RX4 214 yX4_isNumberOfOrder, Cond.static yX4_isNumberOfOrder, Cond.initialized RX4, Cond.code yX4_isNumberOfOrder cX4_isNumberOfOrder 2 (some .boolean), Cond.methodLink RX4 159 yX4_isAuthor, Cond.static yX4_isAuthor, Cond.code yX4_isAuthor cX4_isAuthor 1 (some .boolean), Cond.methodLink RX4 197 yX4_isWork, Cond.static yX4_isWork, Cond.code yX4_isWork cX4_isWork 1 (some .boolean), Cond.methodLink RX4 200 yX4_isLink, Cond.static yX4_isLink]
def wsX4_change_r2 : List Cond := [Cond.code yX4_isLink cX4_isLink 1 (some .boolean), Cond.methodLink RX4 203 yX4_isBribe, Cond.static yX4_isBribe, Cond.code yX4_isBribe cX4_isBribe 1 (some .boolean), Cond.methodLink RX4 191 yX1_remember, Cond.instanceMethod yX1_remember, Cond.selects RX1 yX1_remember yX1_remember, Cond.initialized RX1, Cond.code yX1_remember cX1_remember 3 none, Cond.fieldLink RX1 11 "ProgramDrum$Memory" "states" "[LProgramDrum$State;", Cond.fieldLink RX1 18 "ProgramDrum$Memory" "oldest" "I", Cond.fieldLink RX1 22 "ProgramDrum$Memory" "size" "I", Cond.methodLink RX1 25 yX2_copyFrom, Cond.instanceMethod yX2_copyFrom, Cond.selects RX2 yX2_copyFrom yX2_copyFrom, Cond.code yX2_copyFrom cX2_copyFrom 2 none, Cond.fieldLink RX2 9 "ProgramDrum$State" "places" "I", Cond.fieldLink RX2 62 "ProgramDrum$State" "tick" "I", Cond.fieldLink RX2 15 "ProgramDrum$State" "lastEnd" "I", Cond.fieldLink RX2 18 "ProgramDrum$State" "author" "[I", Cond.fieldLink RX2 22 "ProgramDrum$State" "work" "[I", Cond.fieldLink RX2 25 "ProgramDrum$State" "next" "[I", Cond.fieldLink RX2 28 "ProgramDrum$State" "expects" "[I", Cond.fieldLink RX2 31 "ProgramDrum$State" "bribe" "[I"]
def wsX4_change_r3 : List Cond := [Cond.fieldLink RX2 34 "ProgramDrum$State" "place" "[I", Cond.fieldLink RX2 37 "ProgramDrum$State" "delay" "[I", Cond.fieldLink RX2 40 "ProgramDrum$State" "open" "[I", Cond.fieldLink RX2 43 "ProgramDrum$State" "lastWait" "[I", Cond.fieldLink RX2 46 "ProgramDrum$State" "paid" "[I", Cond.fieldLink RX2 49 "ProgramDrum$State" "refunded" "[I", Cond.fieldLink RX2 55 "ProgramDrum$State" "jumps" "LProgramDrum$Jumps;", Cond.methodLink RX2 68 yX2_copyRow, Cond.static yX2_copyRow, Cond.code yX2_copyRow cX2_copyRow 3 none, Cond.methodLink RX2 72 yX0_copyFrom, Cond.instanceMethod yX0_copyFrom, Cond.selects RX0 yX0_copyFrom yX0_copyFrom, Cond.initialized RX0, Cond.code yX0_copyFrom cX0_copyFrom 3 none, Cond.fieldLink RX0 21 "ProgramDrum$Jumps" "size" "I", Cond.fieldLink RX0 11 "ProgramDrum$Jumps" "from" "[I", Cond.fieldLink RX0 15 "ProgramDrum$Jumps" "to" "[I", Cond.fieldLink RX0 18 "ProgramDrum$Jumps" "times" "[I", Cond.methodLink RX4 220 yX2_replace, Cond.instanceMethod yX2_replace, Cond.selects RX2 yX2_replace yX2_replace, Cond.code yX2_replace cX2_replace 6 (some .int), Cond.methodLink RX2 93 yX2_changeableRow]
def wsX4_change_r4 : List Cond := [Cond.instanceMethod yX2_changeableRow, Cond.selects RX2 yX2_changeableRow yX2_changeableRow, Cond.code yX2_changeableRow cX2_changeableRow 2 (some (.array .int))]
def wsX4_change : List Cond := .code yX4_change cX4_change 4 (some .int) :: ((wsX4_change_r1 ++ (wsX4_change_r2 ++ (wsX4_change_r3 ++ wsX4_change_r4))) ++ wsX40 ++ wsX20 ++ wsX10 ++ wsX00 ++ (vx_atS RX4 132 "java/lang/IndexOutOfBoundsException" ["java/lang/RuntimeException", "java/lang/Exception"]).filter goodWord ++ (vx_atS RX4 48 "java/lang/IllegalArgumentException" ["java/lang/RuntimeException", "java/lang/Exception"]).filter goodWord)
def wsX4_move_r1 : List Cond := [Cond.classLink RX4 128 "java/lang/IndexOutOfBoundsException", Cond.initialized "java/lang/IndexOutOfBoundsException", Cond.classLink RX4 55 "java/lang/IllegalStateException", Cond.initialized "java/lang/IllegalStateException", Cond.fieldLink RX4 19 "ProgramDrum" "now" "LProgramDrum$State;", Cond.fieldLink RX4 32 "ProgramDrum" "memory" "LProgramDrum$Memory;", Cond.methodLink RX4 124 yX2_has, Cond.instanceMethod yX2_has, Cond.selects RX2 yX2_has yX2_has, Cond.initialized RX2, Cond.code yX2_has cX2_has 2 (some .boolean), Cond.fieldLink RX2 59 "ProgramDrum$State" "count" "I", Cond.methodLink RX4 169 yX2_hasPlace, Cond.instanceMethod yX2_hasPlace, Cond.selects RX2 yX2_hasPlace yX2_hasPlace, Cond.code yX2_hasPlace cX2_hasPlace 2 (some .boolean), Cond.fieldLink RX2 9 "ProgramDrum$State" "places" "I", Cond.methodLink RX4 226 yX2_isFreeFor, Cond.instanceMethod yX2_isFreeFor, Cond.selects RX2 yX2_isFreeFor yX2_isFreeFor, Cond.code yX2_isFreeFor cX2_isFreeFor 4 (some .boolean), Cond.methodLink RX2 86 yX2_orderOn, Cond.instanceMethod yX2_orderOn, Cond.selects RX2 yX2_orderOn yX2_orderOn]
def wsX4_move_r2 : List Cond := [Cond.code yX2_orderOn cX2_orderOn 3 (some .int), Cond.fieldLink RX2 34 "ProgramDrum$State" "place" "[I", Cond.methodLink RX2 76 yX2_has, Cond.methodLink RX4 191 yX1_remember, Cond.instanceMethod yX1_remember, Cond.selects RX1 yX1_remember yX1_remember, Cond.initialized RX1, Cond.code yX1_remember cX1_remember 3 none, Cond.fieldLink RX1 11 "ProgramDrum$Memory" "states" "[LProgramDrum$State;", Cond.fieldLink RX1 18 "ProgramDrum$Memory" "oldest" "I", Cond.fieldLink RX1 22 "ProgramDrum$Memory" "size" "I", Cond.methodLink RX1 25 yX2_copyFrom, Cond.instanceMethod yX2_copyFrom, Cond.selects RX2 yX2_copyFrom yX2_copyFrom, Cond.code yX2_copyFrom cX2_copyFrom 2 none, Cond.fieldLink RX2 62 "ProgramDrum$State" "tick" "I", Cond.fieldLink RX2 15 "ProgramDrum$State" "lastEnd" "I", Cond.fieldLink RX2 18 "ProgramDrum$State" "author" "[I", Cond.fieldLink RX2 22 "ProgramDrum$State" "work" "[I", Cond.fieldLink RX2 25 "ProgramDrum$State" "next" "[I", Cond.fieldLink RX2 28 "ProgramDrum$State" "expects" "[I", Cond.fieldLink RX2 31 "ProgramDrum$State" "bribe" "[I", Cond.fieldLink RX2 37 "ProgramDrum$State" "delay" "[I", Cond.fieldLink RX2 40 "ProgramDrum$State" "open" "[I"]
def wsX4_move_r3 : List Cond := [Cond.fieldLink RX2 43 "ProgramDrum$State" "lastWait" "[I", Cond.fieldLink RX2 46 "ProgramDrum$State" "paid" "[I", Cond.fieldLink RX2 49 "ProgramDrum$State" "refunded" "[I", Cond.fieldLink RX2 55 "ProgramDrum$State" "jumps" "LProgramDrum$Jumps;", Cond.methodLink RX2 68 yX2_copyRow, Cond.static yX2_copyRow, Cond.code yX2_copyRow cX2_copyRow 3 none, Cond.methodLink RX2 72 yX0_copyFrom, Cond.instanceMethod yX0_copyFrom, Cond.selects RX0 yX0_copyFrom yX0_copyFrom, Cond.initialized RX0, Cond.code yX0_copyFrom cX0_copyFrom 3 none, Cond.fieldLink RX0 21 "ProgramDrum$Jumps" "size" "I", Cond.fieldLink RX0 11 "ProgramDrum$Jumps" "from" "[I", Cond.fieldLink RX0 15 "ProgramDrum$Jumps" "to" "[I", Cond.fieldLink RX0 18 "ProgramDrum$Jumps" "times" "[I", Cond.methodLink RX4 231 yX2_put, Cond.instanceMethod yX2_put, Cond.selects RX2 yX2_put yX2_put, Cond.code yX2_put cX2_put 4 (some .int), Cond.methodLink RX2 97 yX2_refund, Cond.instanceMethod yX2_refund, Cond.selects RX2 yX2_refund yX2_refund, Cond.code yX2_refund cX2_refund 3 (some .int)]
def wsX4_move_r4 : List Cond := [Cond.static yX4_isAuthor, Cond.initialized RX4, Cond.code yX4_isAuthor cX4_isAuthor 1 (some .boolean)]
def wsX4_move : List Cond := .code yX4_move cX4_move 3 (some .int) :: ((wsX4_move_r1 ++ (wsX4_move_r2 ++ (wsX4_move_r3 ++ wsX4_move_r4))) ++ wsX40 ++ wsX20 ++ wsX10 ++ wsX00 ++ (vx_atS RX4 132 "java/lang/IndexOutOfBoundsException" ["java/lang/RuntimeException", "java/lang/Exception"]).filter goodWord ++ (vx_atS RX4 59 "java/lang/IllegalStateException" ["java/lang/RuntimeException", "java/lang/Exception"]).filter goodWord)
def wsX4_lay_r1 : List Cond := [Cond.fieldLink RX4 32 "ProgramDrum" "memory" "LProgramDrum$Memory;", Cond.fieldLink RX4 19 "ProgramDrum" "now" "LProgramDrum$State;", Cond.methodLink RX4 191 yX1_remember, Cond.instanceMethod yX1_remember, Cond.selects RX1 yX1_remember yX1_remember, Cond.initialized RX1, Cond.code yX1_remember cX1_remember 3 none, Cond.fieldLink RX1 11 "ProgramDrum$Memory" "states" "[LProgramDrum$State;", Cond.fieldLink RX1 18 "ProgramDrum$Memory" "oldest" "I", Cond.fieldLink RX1 22 "ProgramDrum$Memory" "size" "I", Cond.methodLink RX1 25 yX2_copyFrom, Cond.instanceMethod yX2_copyFrom, Cond.selects RX2 yX2_copyFrom yX2_copyFrom, Cond.initialized RX2, Cond.code yX2_copyFrom cX2_copyFrom 2 none, Cond.fieldLink RX2 9 "ProgramDrum$State" "places" "I", Cond.fieldLink RX2 59 "ProgramDrum$State" "count" "I", Cond.fieldLink RX2 62 "ProgramDrum$State" "tick" "I", Cond.fieldLink RX2 15 "ProgramDrum$State" "lastEnd" "I", Cond.fieldLink RX2 18 "ProgramDrum$State" "author" "[I", Cond.fieldLink RX2 22 "ProgramDrum$State" "work" "[I", Cond.fieldLink RX2 25 "ProgramDrum$State" "next" "[I", Cond.fieldLink RX2 28 "ProgramDrum$State" "expects" "[I", Cond.fieldLink RX2 31 "ProgramDrum$State" "bribe" "[I"]
def wsX4_lay_r2 : List Cond := [Cond.fieldLink RX2 34 "ProgramDrum$State" "place" "[I", Cond.fieldLink RX2 37 "ProgramDrum$State" "delay" "[I", Cond.fieldLink RX2 40 "ProgramDrum$State" "open" "[I", Cond.fieldLink RX2 43 "ProgramDrum$State" "lastWait" "[I", Cond.fieldLink RX2 46 "ProgramDrum$State" "paid" "[I", Cond.fieldLink RX2 49 "ProgramDrum$State" "refunded" "[I", Cond.fieldLink RX2 55 "ProgramDrum$State" "jumps" "LProgramDrum$Jumps;", Cond.methodLink RX2 68 yX2_copyRow, Cond.static yX2_copyRow, Cond.code yX2_copyRow cX2_copyRow 3 none, Cond.methodLink RX2 72 yX0_copyFrom, Cond.instanceMethod yX0_copyFrom, Cond.selects RX0 yX0_copyFrom yX0_copyFrom, Cond.initialized RX0, Cond.code yX0_copyFrom cX0_copyFrom 3 none, Cond.fieldLink RX0 21 "ProgramDrum$Jumps" "size" "I", Cond.fieldLink RX0 11 "ProgramDrum$Jumps" "from" "[I", Cond.fieldLink RX0 15 "ProgramDrum$Jumps" "to" "[I", Cond.fieldLink RX0 18 "ProgramDrum$Jumps" "times" "[I", Cond.methodLink RX4 234 yX2_layAll, Cond.instanceMethod yX2_layAll, Cond.selects RX2 yX2_layAll yX2_layAll, Cond.code yX2_layAll cX2_layAll 4 (some .int), Cond.methodLink RX2 106 yX2_takeAllOff]
def wsX4_lay_r3 : List Cond := [Cond.instanceMethod yX2_takeAllOff, Cond.selects RX2 yX2_takeAllOff yX2_takeAllOff, Cond.code yX2_takeAllOff cX2_takeAllOff 2 none, Cond.methodLink RX2 76 yX2_has, Cond.instanceMethod yX2_has, Cond.selects RX2 yX2_has yX2_has, Cond.code yX2_has cX2_has 2 (some .boolean), Cond.methodLink RX2 103 yX2_put, Cond.instanceMethod yX2_put, Cond.selects RX2 yX2_put yX2_put, Cond.code yX2_put cX2_put 4 (some .int), Cond.methodLink RX2 97 yX2_refund, Cond.instanceMethod yX2_refund, Cond.selects RX2 yX2_refund yX2_refund, Cond.code yX2_refund cX2_refund 3 (some .int), Cond.static yX4_isAuthor, Cond.initialized RX4, Cond.code yX4_isAuthor cX4_isAuthor 1 (some .boolean), Cond.methodLink RX2 109 yX2_laidBehind, Cond.instanceMethod yX2_laidBehind, Cond.selects RX2 yX2_laidBehind yX2_laidBehind, Cond.code yX2_laidBehind cX2_laidBehind 5 (some .int), Cond.methodLink RX2 112 yX2_layOne, Cond.instanceMethod yX2_layOne]
def wsX4_lay_r4 : List Cond := [Cond.selects RX2 yX2_layOne yX2_layOne, Cond.code yX2_layOne cX2_layOne 5 none, Cond.methodLink RX2 116 yX2_wantedPlace, Cond.instanceMethod yX2_wantedPlace, Cond.selects RX2 yX2_wantedPlace yX2_wantedPlace, Cond.code yX2_wantedPlace cX2_wantedPlace 3 (some .int), Cond.methodLink RX2 119 yX2_around, Cond.instanceMethod yX2_around, Cond.selects RX2 yX2_around yX2_around, Cond.code yX2_around cX2_around 2 (some .int), Cond.methodLink RX2 80 yJ9_floorMod_7cf53, Cond.static yJ9_floorMod_7cf53, Cond.initialized RJ9, Cond.code yJ9_floorMod_7cf53 cJ9_floorMod_7cf53 3 (some .int), Cond.methodLink RX2 122 yX2_isOnDrum, Cond.instanceMethod yX2_isOnDrum, Cond.selects RX2 yX2_isOnDrum yX2_isOnDrum, Cond.code yX2_isOnDrum cX2_isOnDrum 2 (some .boolean), Cond.methodLink RX2 86 yX2_orderOn, Cond.instanceMethod yX2_orderOn, Cond.selects RX2 yX2_orderOn yX2_orderOn, Cond.code yX2_orderOn cX2_orderOn 3 (some .int)]
def wsX4_lay : List Cond := .code yX4_lay cX4_lay 1 (some .int) :: ((wsX4_lay_r1 ++ (wsX4_lay_r2 ++ (wsX4_lay_r3 ++ wsX4_lay_r4))) ++ wsX40 ++ wsX10 ++ wsX20 ++ wsX00)
def wsX4_run_r1 : List Cond := [Cond.classLink RX4 128 "java/lang/IndexOutOfBoundsException", Cond.initialized "java/lang/IndexOutOfBoundsException", Cond.fieldLink RX4 19 "ProgramDrum" "now" "LProgramDrum$State;", Cond.fieldLink RX4 32 "ProgramDrum" "memory" "LProgramDrum$Memory;", Cond.methodLink RX4 124 yX2_has, Cond.instanceMethod yX2_has, Cond.selects RX2 yX2_has yX2_has, Cond.initialized RX2, Cond.code yX2_has cX2_has 2 (some .boolean), Cond.fieldLink RX2 59 "ProgramDrum$State" "count" "I", Cond.methodLink RX4 191 yX1_remember, Cond.instanceMethod yX1_remember, Cond.selects RX1 yX1_remember yX1_remember, Cond.initialized RX1, Cond.code yX1_remember cX1_remember 3 none, Cond.fieldLink RX1 11 "ProgramDrum$Memory" "states" "[LProgramDrum$State;", Cond.fieldLink RX1 18 "ProgramDrum$Memory" "oldest" "I", Cond.fieldLink RX1 22 "ProgramDrum$Memory" "size" "I", Cond.methodLink RX1 25 yX2_copyFrom, Cond.instanceMethod yX2_copyFrom, Cond.selects RX2 yX2_copyFrom yX2_copyFrom, Cond.code yX2_copyFrom cX2_copyFrom 2 none, Cond.fieldLink RX2 9 "ProgramDrum$State" "places" "I", Cond.fieldLink RX2 62 "ProgramDrum$State" "tick" "I"]
def wsX4_run_r2 : List Cond := [Cond.fieldLink RX2 15 "ProgramDrum$State" "lastEnd" "I", Cond.fieldLink RX2 18 "ProgramDrum$State" "author" "[I", Cond.fieldLink RX2 22 "ProgramDrum$State" "work" "[I", Cond.fieldLink RX2 25 "ProgramDrum$State" "next" "[I", Cond.fieldLink RX2 28 "ProgramDrum$State" "expects" "[I", Cond.fieldLink RX2 31 "ProgramDrum$State" "bribe" "[I", Cond.fieldLink RX2 34 "ProgramDrum$State" "place" "[I", Cond.fieldLink RX2 37 "ProgramDrum$State" "delay" "[I", Cond.fieldLink RX2 40 "ProgramDrum$State" "open" "[I", Cond.fieldLink RX2 43 "ProgramDrum$State" "lastWait" "[I", Cond.fieldLink RX2 46 "ProgramDrum$State" "paid" "[I", Cond.fieldLink RX2 49 "ProgramDrum$State" "refunded" "[I", Cond.fieldLink RX2 55 "ProgramDrum$State" "jumps" "LProgramDrum$Jumps;", Cond.methodLink RX2 68 yX2_copyRow, Cond.static yX2_copyRow, Cond.code yX2_copyRow cX2_copyRow 3 none, Cond.methodLink RX2 72 yX0_copyFrom, Cond.instanceMethod yX0_copyFrom, Cond.selects RX0 yX0_copyFrom yX0_copyFrom, Cond.initialized RX0, Cond.code yX0_copyFrom cX0_copyFrom 3 none, Cond.fieldLink RX0 21 "ProgramDrum$Jumps" "size" "I", Cond.fieldLink RX0 11 "ProgramDrum$Jumps" "from" "[I", Cond.fieldLink RX0 15 "ProgramDrum$Jumps" "to" "[I"]
def wsX4_run_r3 : List Cond := [Cond.fieldLink RX0 18 "ProgramDrum$Jumps" "times" "[I", Cond.methodLink RX4 237 yX2_runFrom, Cond.instanceMethod yX2_runFrom, Cond.selects RX2 yX2_runFrom yX2_runFrom, Cond.code yX2_runFrom cX2_runFrom 6 (some .int), Cond.methodLink RX2 122 yX2_isOnDrum, Cond.instanceMethod yX2_isOnDrum, Cond.selects RX2 yX2_isOnDrum yX2_isOnDrum, Cond.code yX2_isOnDrum cX2_isOnDrum 2 (some .boolean), Cond.methodLink RX2 76 yX2_has, Cond.methodLink RX2 125 yX2_read, Cond.instanceMethod yX2_read, Cond.selects RX2 yX2_read yX2_read, Cond.code yX2_read cX2_read 4 none, Cond.methodLink RX2 119 yX2_around, Cond.instanceMethod yX2_around, Cond.selects RX2 yX2_around yX2_around, Cond.code yX2_around cX2_around 2 (some .int), Cond.methodLink RX2 80 yJ9_floorMod_7cf53, Cond.static yJ9_floorMod_7cf53, Cond.initialized RJ9, Cond.code yJ9_floorMod_7cf53 cJ9_floorMod_7cf53 3 (some .int), Cond.methodLink RX2 97 yX2_refund, Cond.instanceMethod yX2_refund]
def wsX4_run_r4 : List Cond := [Cond.selects RX2 yX2_refund yX2_refund, Cond.code yX2_refund cX2_refund 3 (some .int), Cond.static yX4_isAuthor, Cond.initialized RX4, Cond.code yX4_isAuthor cX4_isAuthor 1 (some .boolean), Cond.methodLink RX2 129 yX0_note, Cond.instanceMethod yX0_note, Cond.selects RX0 yX0_note yX0_note, Cond.code yX0_note cX0_note 4 none]
def wsX4_run : List Cond := .code yX4_run cX4_run 2 (some .int) :: ((wsX4_run_r1 ++ (wsX4_run_r2 ++ (wsX4_run_r3 ++ wsX4_run_r4))) ++ wsX40 ++ wsX20 ++ wsX10 ++ wsX00 ++ (vx_atS RX4 132 "java/lang/IndexOutOfBoundsException" ["java/lang/RuntimeException", "java/lang/Exception"]).filter goodWord)
def wsX4_isTurn : List Cond := .code yX4_isTurn cX4_isTurn 1 (some .boolean) :: ([])
def wsX4_turn_r1 : List Cond := [Cond.classLink RX4 44 "java/lang/IllegalArgumentException", Cond.initialized "java/lang/IllegalArgumentException", Cond.fieldLink RX4 32 "ProgramDrum" "memory" "LProgramDrum$Memory;", Cond.fieldLink RX4 19 "ProgramDrum" "now" "LProgramDrum$State;", Cond.methodLink RX4 240 yX4_isTurn, Cond.static yX4_isTurn, Cond.initialized RX4, Cond.code yX4_isTurn cX4_isTurn 1 (some .boolean), Cond.methodLink RX4 191 yX1_remember, Cond.instanceMethod yX1_remember, Cond.selects RX1 yX1_remember yX1_remember, Cond.initialized RX1, Cond.code yX1_remember cX1_remember 3 none, Cond.fieldLink RX1 11 "ProgramDrum$Memory" "states" "[LProgramDrum$State;", Cond.fieldLink RX1 18 "ProgramDrum$Memory" "oldest" "I", Cond.fieldLink RX1 22 "ProgramDrum$Memory" "size" "I", Cond.methodLink RX1 25 yX2_copyFrom, Cond.instanceMethod yX2_copyFrom, Cond.selects RX2 yX2_copyFrom yX2_copyFrom, Cond.initialized RX2, Cond.code yX2_copyFrom cX2_copyFrom 2 none, Cond.fieldLink RX2 9 "ProgramDrum$State" "places" "I", Cond.fieldLink RX2 59 "ProgramDrum$State" "count" "I", Cond.fieldLink RX2 62 "ProgramDrum$State" "tick" "I"]
def wsX4_turn_r2 : List Cond := [Cond.fieldLink RX2 15 "ProgramDrum$State" "lastEnd" "I", Cond.fieldLink RX2 18 "ProgramDrum$State" "author" "[I", Cond.fieldLink RX2 22 "ProgramDrum$State" "work" "[I", Cond.fieldLink RX2 25 "ProgramDrum$State" "next" "[I", Cond.fieldLink RX2 28 "ProgramDrum$State" "expects" "[I", Cond.fieldLink RX2 31 "ProgramDrum$State" "bribe" "[I", Cond.fieldLink RX2 34 "ProgramDrum$State" "place" "[I", Cond.fieldLink RX2 37 "ProgramDrum$State" "delay" "[I", Cond.fieldLink RX2 40 "ProgramDrum$State" "open" "[I", Cond.fieldLink RX2 43 "ProgramDrum$State" "lastWait" "[I", Cond.fieldLink RX2 46 "ProgramDrum$State" "paid" "[I", Cond.fieldLink RX2 49 "ProgramDrum$State" "refunded" "[I", Cond.fieldLink RX2 55 "ProgramDrum$State" "jumps" "LProgramDrum$Jumps;", Cond.methodLink RX2 68 yX2_copyRow, Cond.static yX2_copyRow, Cond.code yX2_copyRow cX2_copyRow 3 none, Cond.methodLink RX2 72 yX0_copyFrom, Cond.instanceMethod yX0_copyFrom, Cond.selects RX0 yX0_copyFrom yX0_copyFrom, Cond.initialized RX0, Cond.code yX0_copyFrom cX0_copyFrom 3 none, Cond.fieldLink RX0 21 "ProgramDrum$Jumps" "size" "I", Cond.fieldLink RX0 11 "ProgramDrum$Jumps" "from" "[I", Cond.fieldLink RX0 15 "ProgramDrum$Jumps" "to" "[I"]
def wsX4_turn_r3 : List Cond := [Cond.fieldLink RX0 18 "ProgramDrum$Jumps" "times" "[I", Cond.methodLink RX4 90 yX2_around, Cond.instanceMethod yX2_around, Cond.selects RX2 yX2_around yX2_around, Cond.code yX2_around cX2_around 2 (some .int), Cond.methodLink RX2 80 yJ9_floorMod_7cf53, Cond.static yJ9_floorMod_7cf53, Cond.initialized RJ9, Cond.code yJ9_floorMod_7cf53 cJ9_floorMod_7cf53 3 (some .int)]
def wsX4_turn : List Cond := .code yX4_turn cX4_turn 2 (some .int) :: ((wsX4_turn_r1 ++ (wsX4_turn_r2 ++ wsX4_turn_r3)) ++ wsX40 ++ wsX20 ++ wsX10 ++ wsX00 ++ (vx_atS RX4 48 "java/lang/IllegalArgumentException" ["java/lang/RuntimeException", "java/lang/Exception"]).filter goodWord)
def wsX4_waits_r1 : List Cond := [Cond.classLink RX4 128 "java/lang/IndexOutOfBoundsException", Cond.initialized "java/lang/IndexOutOfBoundsException", Cond.fieldLink RX4 19 "ProgramDrum" "now" "LProgramDrum$State;", Cond.methodLink RX4 124 yX2_has, Cond.instanceMethod yX2_has, Cond.selects RX2 yX2_has yX2_has, Cond.initialized RX2, Cond.code yX2_has cX2_has 2 (some .boolean), Cond.fieldLink RX2 59 "ProgramDrum$State" "count" "I", Cond.methodLink RX4 251 yX2_waitFor, Cond.instanceMethod yX2_waitFor, Cond.selects RX2 yX2_waitFor yX2_waitFor, Cond.code yX2_waitFor cX2_waitFor 2 (some .int), Cond.fieldLink RX2 34 "ProgramDrum$State" "place" "[I", Cond.fieldLink RX2 62 "ProgramDrum$State" "tick" "I", Cond.methodLink RX2 122 yX2_isOnDrum, Cond.instanceMethod yX2_isOnDrum, Cond.selects RX2 yX2_isOnDrum yX2_isOnDrum, Cond.code yX2_isOnDrum cX2_isOnDrum 2 (some .boolean), Cond.methodLink RX2 76 yX2_has, Cond.methodLink RX2 119 yX2_around, Cond.instanceMethod yX2_around, Cond.selects RX2 yX2_around yX2_around, Cond.code yX2_around cX2_around 2 (some .int)]
def wsX4_waits_r2 : List Cond := [Cond.fieldLink RX2 9 "ProgramDrum$State" "places" "I", Cond.methodLink RX2 80 yJ9_floorMod_7cf53, Cond.static yJ9_floorMod_7cf53, Cond.initialized RJ9, Cond.code yJ9_floorMod_7cf53 cJ9_floorMod_7cf53 3 (some .int)]
def wsX4_waits : List Cond := .code yX4_waits cX4_waits 2 (some .int) :: ((wsX4_waits_r1 ++ wsX4_waits_r2) ++ wsX40 ++ wsX20 ++ (vx_atS RX4 132 "java/lang/IndexOutOfBoundsException" ["java/lang/RuntimeException", "java/lang/Exception"]).filter goodWord)
def wsX4_ticksOfRun_r1 : List Cond := [Cond.fieldLink RX4 26 "ProgramDrum" "probe" "LProgramDrum$State;", Cond.methodLink RX4 258 yX2_copyFrom, Cond.instanceMethod yX2_copyFrom, Cond.selects RX2 yX2_copyFrom yX2_copyFrom, Cond.initialized RX2, Cond.code yX2_copyFrom cX2_copyFrom 2 none, Cond.fieldLink RX2 9 "ProgramDrum$State" "places" "I", Cond.fieldLink RX2 59 "ProgramDrum$State" "count" "I", Cond.fieldLink RX2 62 "ProgramDrum$State" "tick" "I", Cond.fieldLink RX2 15 "ProgramDrum$State" "lastEnd" "I", Cond.fieldLink RX2 18 "ProgramDrum$State" "author" "[I", Cond.fieldLink RX2 22 "ProgramDrum$State" "work" "[I", Cond.fieldLink RX2 25 "ProgramDrum$State" "next" "[I", Cond.fieldLink RX2 28 "ProgramDrum$State" "expects" "[I", Cond.fieldLink RX2 31 "ProgramDrum$State" "bribe" "[I", Cond.fieldLink RX2 34 "ProgramDrum$State" "place" "[I", Cond.fieldLink RX2 37 "ProgramDrum$State" "delay" "[I", Cond.fieldLink RX2 40 "ProgramDrum$State" "open" "[I", Cond.fieldLink RX2 43 "ProgramDrum$State" "lastWait" "[I", Cond.fieldLink RX2 46 "ProgramDrum$State" "paid" "[I", Cond.fieldLink RX2 49 "ProgramDrum$State" "refunded" "[I", Cond.fieldLink RX2 55 "ProgramDrum$State" "jumps" "LProgramDrum$Jumps;", Cond.methodLink RX2 68 yX2_copyRow, Cond.static yX2_copyRow]
def wsX4_ticksOfRun_r2 : List Cond := [Cond.code yX2_copyRow cX2_copyRow 3 none, Cond.methodLink RX2 72 yX0_copyFrom, Cond.instanceMethod yX0_copyFrom, Cond.selects RX0 yX0_copyFrom yX0_copyFrom, Cond.initialized RX0, Cond.code yX0_copyFrom cX0_copyFrom 3 none, Cond.fieldLink RX0 21 "ProgramDrum$Jumps" "size" "I", Cond.fieldLink RX0 11 "ProgramDrum$Jumps" "from" "[I", Cond.fieldLink RX0 15 "ProgramDrum$Jumps" "to" "[I", Cond.fieldLink RX0 18 "ProgramDrum$Jumps" "times" "[I", Cond.methodLink RX4 237 yX2_runFrom, Cond.instanceMethod yX2_runFrom, Cond.selects RX2 yX2_runFrom yX2_runFrom, Cond.code yX2_runFrom cX2_runFrom 6 (some .int), Cond.methodLink RX2 122 yX2_isOnDrum, Cond.instanceMethod yX2_isOnDrum, Cond.selects RX2 yX2_isOnDrum yX2_isOnDrum, Cond.code yX2_isOnDrum cX2_isOnDrum 2 (some .boolean), Cond.methodLink RX2 76 yX2_has, Cond.instanceMethod yX2_has, Cond.selects RX2 yX2_has yX2_has, Cond.code yX2_has cX2_has 2 (some .boolean), Cond.methodLink RX2 125 yX2_read, Cond.instanceMethod yX2_read]
def wsX4_ticksOfRun_r3 : List Cond := [Cond.selects RX2 yX2_read yX2_read, Cond.code yX2_read cX2_read 4 none, Cond.methodLink RX2 119 yX2_around, Cond.instanceMethod yX2_around, Cond.selects RX2 yX2_around yX2_around, Cond.code yX2_around cX2_around 2 (some .int), Cond.methodLink RX2 80 yJ9_floorMod_7cf53, Cond.static yJ9_floorMod_7cf53, Cond.initialized RJ9, Cond.code yJ9_floorMod_7cf53 cJ9_floorMod_7cf53 3 (some .int), Cond.methodLink RX2 97 yX2_refund, Cond.instanceMethod yX2_refund, Cond.selects RX2 yX2_refund yX2_refund, Cond.code yX2_refund cX2_refund 3 (some .int), Cond.static yX4_isAuthor, Cond.initialized RX4, Cond.code yX4_isAuthor cX4_isAuthor 1 (some .boolean), Cond.methodLink RX2 129 yX0_note, Cond.instanceMethod yX0_note, Cond.selects RX0 yX0_note yX0_note, Cond.code yX0_note cX0_note 4 none]
def wsX4_ticksOfRun : List Cond := .code yX4_ticksOfRun cX4_ticksOfRun 3 (some .int) :: ((wsX4_ticksOfRun_r1 ++ (wsX4_ticksOfRun_r2 ++ wsX4_ticksOfRun_r3)) ++ wsX40 ++ wsX20 ++ wsX00)
def wsX4_time_r1 : List Cond := [Cond.classLink RX4 128 "java/lang/IndexOutOfBoundsException", Cond.initialized "java/lang/IndexOutOfBoundsException", Cond.fieldLink RX4 19 "ProgramDrum" "now" "LProgramDrum$State;", Cond.methodLink RX4 124 yX2_has, Cond.instanceMethod yX2_has, Cond.selects RX2 yX2_has yX2_has, Cond.initialized RX2, Cond.code yX2_has cX2_has 2 (some .boolean), Cond.fieldLink RX2 59 "ProgramDrum$State" "count" "I", Cond.methodLink RX4 254 yX4_ticksOfRun, Cond.instanceMethod yX4_ticksOfRun, Cond.selects RX4 yX4_ticksOfRun yX4_ticksOfRun, Cond.initialized RX4, Cond.code yX4_ticksOfRun cX4_ticksOfRun 3 (some .int), Cond.fieldLink RX4 26 "ProgramDrum" "probe" "LProgramDrum$State;", Cond.methodLink RX4 258 yX2_copyFrom, Cond.instanceMethod yX2_copyFrom, Cond.selects RX2 yX2_copyFrom yX2_copyFrom, Cond.code yX2_copyFrom cX2_copyFrom 2 none, Cond.fieldLink RX2 9 "ProgramDrum$State" "places" "I", Cond.fieldLink RX2 62 "ProgramDrum$State" "tick" "I", Cond.fieldLink RX2 15 "ProgramDrum$State" "lastEnd" "I", Cond.fieldLink RX2 18 "ProgramDrum$State" "author" "[I", Cond.fieldLink RX2 22 "ProgramDrum$State" "work" "[I"]
def wsX4_time_r2 : List Cond := [Cond.fieldLink RX2 25 "ProgramDrum$State" "next" "[I", Cond.fieldLink RX2 28 "ProgramDrum$State" "expects" "[I", Cond.fieldLink RX2 31 "ProgramDrum$State" "bribe" "[I", Cond.fieldLink RX2 34 "ProgramDrum$State" "place" "[I", Cond.fieldLink RX2 37 "ProgramDrum$State" "delay" "[I", Cond.fieldLink RX2 40 "ProgramDrum$State" "open" "[I", Cond.fieldLink RX2 43 "ProgramDrum$State" "lastWait" "[I", Cond.fieldLink RX2 46 "ProgramDrum$State" "paid" "[I", Cond.fieldLink RX2 49 "ProgramDrum$State" "refunded" "[I", Cond.fieldLink RX2 55 "ProgramDrum$State" "jumps" "LProgramDrum$Jumps;", Cond.methodLink RX2 68 yX2_copyRow, Cond.static yX2_copyRow, Cond.code yX2_copyRow cX2_copyRow 3 none, Cond.methodLink RX2 72 yX0_copyFrom, Cond.instanceMethod yX0_copyFrom, Cond.selects RX0 yX0_copyFrom yX0_copyFrom, Cond.initialized RX0, Cond.code yX0_copyFrom cX0_copyFrom 3 none, Cond.fieldLink RX0 21 "ProgramDrum$Jumps" "size" "I", Cond.fieldLink RX0 11 "ProgramDrum$Jumps" "from" "[I", Cond.fieldLink RX0 15 "ProgramDrum$Jumps" "to" "[I", Cond.fieldLink RX0 18 "ProgramDrum$Jumps" "times" "[I", Cond.methodLink RX4 237 yX2_runFrom, Cond.instanceMethod yX2_runFrom]
def wsX4_time_r3 : List Cond := [Cond.selects RX2 yX2_runFrom yX2_runFrom, Cond.code yX2_runFrom cX2_runFrom 6 (some .int), Cond.methodLink RX2 122 yX2_isOnDrum, Cond.instanceMethod yX2_isOnDrum, Cond.selects RX2 yX2_isOnDrum yX2_isOnDrum, Cond.code yX2_isOnDrum cX2_isOnDrum 2 (some .boolean), Cond.methodLink RX2 76 yX2_has, Cond.methodLink RX2 125 yX2_read, Cond.instanceMethod yX2_read, Cond.selects RX2 yX2_read yX2_read, Cond.code yX2_read cX2_read 4 none, Cond.methodLink RX2 119 yX2_around, Cond.instanceMethod yX2_around, Cond.selects RX2 yX2_around yX2_around, Cond.code yX2_around cX2_around 2 (some .int), Cond.methodLink RX2 80 yJ9_floorMod_7cf53, Cond.static yJ9_floorMod_7cf53, Cond.initialized RJ9, Cond.code yJ9_floorMod_7cf53 cJ9_floorMod_7cf53 3 (some .int), Cond.methodLink RX2 97 yX2_refund, Cond.instanceMethod yX2_refund, Cond.selects RX2 yX2_refund yX2_refund, Cond.code yX2_refund cX2_refund 3 (some .int), Cond.static yX4_isAuthor]
def wsX4_time_r4 : List Cond := [Cond.code yX4_isAuthor cX4_isAuthor 1 (some .boolean), Cond.methodLink RX2 129 yX0_note, Cond.instanceMethod yX0_note, Cond.selects RX0 yX0_note yX0_note, Cond.code yX0_note cX0_note 4 none]
def wsX4_time : List Cond := .code yX4_time cX4_time 2 (some .int) :: ((wsX4_time_r1 ++ (wsX4_time_r2 ++ (wsX4_time_r3 ++ wsX4_time_r4))) ++ wsX40 ++ wsX20 ++ wsX00 ++ (vx_atS RX4 132 "java/lang/IndexOutOfBoundsException" ["java/lang/RuntimeException", "java/lang/Exception"]).filter goodWord)
def wsX4_bestPlace_r1 : List Cond := [Cond.classLink RX4 128 "java/lang/IndexOutOfBoundsException", Cond.initialized "java/lang/IndexOutOfBoundsException", Cond.fieldLink RX4 19 "ProgramDrum" "now" "LProgramDrum$State;", Cond.fieldLink RX4 23 "ProgramDrum" "trial" "LProgramDrum$State;", Cond.methodLink RX4 124 yX2_has, Cond.instanceMethod yX2_has, Cond.selects RX2 yX2_has yX2_has, Cond.initialized RX2, Cond.code yX2_has cX2_has 2 (some .boolean), Cond.fieldLink RX2 59 "ProgramDrum$State" "count" "I", Cond.methodLink RX4 258 yX2_copyFrom, Cond.instanceMethod yX2_copyFrom, Cond.selects RX2 yX2_copyFrom yX2_copyFrom, Cond.code yX2_copyFrom cX2_copyFrom 2 none, Cond.fieldLink RX2 9 "ProgramDrum$State" "places" "I", Cond.fieldLink RX2 62 "ProgramDrum$State" "tick" "I", Cond.fieldLink RX2 15 "ProgramDrum$State" "lastEnd" "I", Cond.fieldLink RX2 18 "ProgramDrum$State" "author" "[I", Cond.fieldLink RX2 22 "ProgramDrum$State" "work" "[I", Cond.fieldLink RX2 25 "ProgramDrum$State" "next" "[I", Cond.fieldLink RX2 28 "ProgramDrum$State" "expects" "[I", Cond.fieldLink RX2 31 "ProgramDrum$State" "bribe" "[I", Cond.fieldLink RX2 34 "ProgramDrum$State" "place" "[I", Cond.fieldLink RX2 37 "ProgramDrum$State" "delay" "[I"]
def wsX4_bestPlace_r2 : List Cond := [Cond.fieldLink RX2 40 "ProgramDrum$State" "open" "[I", Cond.fieldLink RX2 43 "ProgramDrum$State" "lastWait" "[I", Cond.fieldLink RX2 46 "ProgramDrum$State" "paid" "[I", Cond.fieldLink RX2 49 "ProgramDrum$State" "refunded" "[I", Cond.fieldLink RX2 55 "ProgramDrum$State" "jumps" "LProgramDrum$Jumps;", Cond.methodLink RX2 68 yX2_copyRow, Cond.static yX2_copyRow, Cond.code yX2_copyRow cX2_copyRow 3 none, Cond.methodLink RX2 72 yX0_copyFrom, Cond.instanceMethod yX0_copyFrom, Cond.selects RX0 yX0_copyFrom yX0_copyFrom, Cond.initialized RX0, Cond.code yX0_copyFrom cX0_copyFrom 3 none, Cond.fieldLink RX0 21 "ProgramDrum$Jumps" "size" "I", Cond.fieldLink RX0 11 "ProgramDrum$Jumps" "from" "[I", Cond.fieldLink RX0 15 "ProgramDrum$Jumps" "to" "[I", Cond.fieldLink RX0 18 "ProgramDrum$Jumps" "times" "[I", Cond.methodLink RX4 226 yX2_isFreeFor, Cond.instanceMethod yX2_isFreeFor, Cond.selects RX2 yX2_isFreeFor yX2_isFreeFor, Cond.code yX2_isFreeFor cX2_isFreeFor 4 (some .boolean), Cond.methodLink RX2 86 yX2_orderOn, Cond.instanceMethod yX2_orderOn, Cond.selects RX2 yX2_orderOn yX2_orderOn]
def wsX4_bestPlace_r3 : List Cond := [Cond.code yX2_orderOn cX2_orderOn 3 (some .int), Cond.methodLink RX2 76 yX2_has, Cond.methodLink RX4 254 yX4_ticksOfRun, Cond.instanceMethod yX4_ticksOfRun, Cond.selects RX4 yX4_ticksOfRun yX4_ticksOfRun, Cond.initialized RX4, Cond.code yX4_ticksOfRun cX4_ticksOfRun 3 (some .int), Cond.fieldLink RX4 26 "ProgramDrum" "probe" "LProgramDrum$State;", Cond.methodLink RX4 237 yX2_runFrom, Cond.instanceMethod yX2_runFrom, Cond.selects RX2 yX2_runFrom yX2_runFrom, Cond.code yX2_runFrom cX2_runFrom 6 (some .int), Cond.methodLink RX2 122 yX2_isOnDrum, Cond.instanceMethod yX2_isOnDrum, Cond.selects RX2 yX2_isOnDrum yX2_isOnDrum, Cond.code yX2_isOnDrum cX2_isOnDrum 2 (some .boolean), Cond.methodLink RX2 125 yX2_read, Cond.instanceMethod yX2_read, Cond.selects RX2 yX2_read yX2_read, Cond.code yX2_read cX2_read 4 none, Cond.methodLink RX2 119 yX2_around, Cond.instanceMethod yX2_around, Cond.selects RX2 yX2_around yX2_around, Cond.code yX2_around cX2_around 2 (some .int)]
def wsX4_bestPlace_r4 : List Cond := [Cond.methodLink RX2 80 yJ9_floorMod_7cf53, Cond.static yJ9_floorMod_7cf53, Cond.initialized RJ9, Cond.code yJ9_floorMod_7cf53 cJ9_floorMod_7cf53 3 (some .int), Cond.methodLink RX2 97 yX2_refund, Cond.instanceMethod yX2_refund, Cond.selects RX2 yX2_refund yX2_refund, Cond.code yX2_refund cX2_refund 3 (some .int), Cond.static yX4_isAuthor, Cond.code yX4_isAuthor cX4_isAuthor 1 (some .boolean), Cond.methodLink RX2 129 yX0_note, Cond.instanceMethod yX0_note, Cond.selects RX0 yX0_note yX0_note, Cond.code yX0_note cX0_note 4 none]
def wsX4_bestPlace : List Cond := .code yX4_bestPlace cX4_bestPlace 7 (some .int) :: ((wsX4_bestPlace_r1 ++ (wsX4_bestPlace_r2 ++ (wsX4_bestPlace_r3 ++ wsX4_bestPlace_r4))) ++ wsX40 ++ wsX20 ++ wsX00 ++ (vx_atS RX4 132 "java/lang/IndexOutOfBoundsException" ["java/lang/RuntimeException", "java/lang/Exception"]).filter goodWord)
def wsX4_leastBribe_r1 : List Cond := [Cond.classLink RX4 128 "java/lang/IndexOutOfBoundsException", Cond.initialized "java/lang/IndexOutOfBoundsException", Cond.fieldLink RX4 19 "ProgramDrum" "now" "LProgramDrum$State;", Cond.fieldLink RX4 23 "ProgramDrum" "trial" "LProgramDrum$State;", Cond.methodLink RX4 124 yX2_has, Cond.instanceMethod yX2_has, Cond.selects RX2 yX2_has yX2_has, Cond.initialized RX2, Cond.code yX2_has cX2_has 2 (some .boolean), Cond.fieldLink RX2 59 "ProgramDrum$State" "count" "I", Cond.methodLink RX4 258 yX2_copyFrom, Cond.instanceMethod yX2_copyFrom, Cond.selects RX2 yX2_copyFrom yX2_copyFrom, Cond.code yX2_copyFrom cX2_copyFrom 2 none, Cond.fieldLink RX2 9 "ProgramDrum$State" "places" "I", Cond.fieldLink RX2 62 "ProgramDrum$State" "tick" "I", Cond.fieldLink RX2 15 "ProgramDrum$State" "lastEnd" "I", Cond.fieldLink RX2 18 "ProgramDrum$State" "author" "[I", Cond.fieldLink RX2 22 "ProgramDrum$State" "work" "[I", Cond.fieldLink RX2 25 "ProgramDrum$State" "next" "[I", Cond.fieldLink RX2 28 "ProgramDrum$State" "expects" "[I", Cond.fieldLink RX2 31 "ProgramDrum$State" "bribe" "[I", Cond.fieldLink RX2 34 "ProgramDrum$State" "place" "[I", Cond.fieldLink RX2 37 "ProgramDrum$State" "delay" "[I"]
def wsX4_leastBribe_r2 : List Cond := [Cond.fieldLink RX2 40 "ProgramDrum$State" "open" "[I", Cond.fieldLink RX2 43 "ProgramDrum$State" "lastWait" "[I", Cond.fieldLink RX2 46 "ProgramDrum$State" "paid" "[I", Cond.fieldLink RX2 49 "ProgramDrum$State" "refunded" "[I", Cond.fieldLink RX2 55 "ProgramDrum$State" "jumps" "LProgramDrum$Jumps;", Cond.methodLink RX2 68 yX2_copyRow, Cond.static yX2_copyRow, Cond.code yX2_copyRow cX2_copyRow 3 none, Cond.methodLink RX2 72 yX0_copyFrom, Cond.instanceMethod yX0_copyFrom, Cond.selects RX0 yX0_copyFrom yX0_copyFrom, Cond.initialized RX0, Cond.code yX0_copyFrom cX0_copyFrom 3 none, Cond.fieldLink RX0 21 "ProgramDrum$Jumps" "size" "I", Cond.fieldLink RX0 11 "ProgramDrum$Jumps" "from" "[I", Cond.fieldLink RX0 15 "ProgramDrum$Jumps" "to" "[I", Cond.fieldLink RX0 18 "ProgramDrum$Jumps" "times" "[I", Cond.methodLink RX4 234 yX2_layAll, Cond.instanceMethod yX2_layAll, Cond.selects RX2 yX2_layAll yX2_layAll, Cond.code yX2_layAll cX2_layAll 4 (some .int), Cond.methodLink RX2 106 yX2_takeAllOff, Cond.instanceMethod yX2_takeAllOff, Cond.selects RX2 yX2_takeAllOff yX2_takeAllOff]
def wsX4_leastBribe_r3 : List Cond := [Cond.code yX2_takeAllOff cX2_takeAllOff 2 none, Cond.methodLink RX2 76 yX2_has, Cond.methodLink RX2 103 yX2_put, Cond.instanceMethod yX2_put, Cond.selects RX2 yX2_put yX2_put, Cond.code yX2_put cX2_put 4 (some .int), Cond.methodLink RX2 97 yX2_refund, Cond.instanceMethod yX2_refund, Cond.selects RX2 yX2_refund yX2_refund, Cond.code yX2_refund cX2_refund 3 (some .int), Cond.static yX4_isAuthor, Cond.initialized RX4, Cond.code yX4_isAuthor cX4_isAuthor 1 (some .boolean), Cond.methodLink RX2 109 yX2_laidBehind, Cond.instanceMethod yX2_laidBehind, Cond.selects RX2 yX2_laidBehind yX2_laidBehind, Cond.code yX2_laidBehind cX2_laidBehind 5 (some .int), Cond.methodLink RX2 112 yX2_layOne, Cond.instanceMethod yX2_layOne, Cond.selects RX2 yX2_layOne yX2_layOne, Cond.code yX2_layOne cX2_layOne 5 none, Cond.methodLink RX2 116 yX2_wantedPlace, Cond.instanceMethod yX2_wantedPlace, Cond.selects RX2 yX2_wantedPlace yX2_wantedPlace]
def wsX4_leastBribe_r4 : List Cond := [Cond.code yX2_wantedPlace cX2_wantedPlace 3 (some .int), Cond.methodLink RX2 119 yX2_around, Cond.instanceMethod yX2_around, Cond.selects RX2 yX2_around yX2_around, Cond.code yX2_around cX2_around 2 (some .int), Cond.methodLink RX2 80 yJ9_floorMod_7cf53, Cond.static yJ9_floorMod_7cf53, Cond.initialized RJ9, Cond.code yJ9_floorMod_7cf53 cJ9_floorMod_7cf53 3 (some .int), Cond.methodLink RX2 122 yX2_isOnDrum, Cond.instanceMethod yX2_isOnDrum, Cond.selects RX2 yX2_isOnDrum yX2_isOnDrum, Cond.code yX2_isOnDrum cX2_isOnDrum 2 (some .boolean), Cond.methodLink RX2 86 yX2_orderOn, Cond.instanceMethod yX2_orderOn, Cond.selects RX2 yX2_orderOn yX2_orderOn, Cond.code yX2_orderOn cX2_orderOn 3 (some .int)]
def wsX4_leastBribe : List Cond := .code yX4_leastBribe cX4_leastBribe 3 (some .int) :: ((wsX4_leastBribe_r1 ++ (wsX4_leastBribe_r2 ++ (wsX4_leastBribe_r3 ++ wsX4_leastBribe_r4))) ++ wsX40 ++ wsX20 ++ wsX00 ++ (vx_atS RX4 132 "java/lang/IndexOutOfBoundsException" ["java/lang/RuntimeException", "java/lang/Exception"]).filter goodWord)
def wsX4_saves_r1 : List Cond := [Cond.classLink RX4 128 "java/lang/IndexOutOfBoundsException", Cond.initialized "java/lang/IndexOutOfBoundsException", Cond.fieldLink RX4 19 "ProgramDrum" "now" "LProgramDrum$State;", Cond.fieldLink RX4 23 "ProgramDrum" "trial" "LProgramDrum$State;", Cond.methodLink RX4 124 yX2_has, Cond.instanceMethod yX2_has, Cond.selects RX2 yX2_has yX2_has, Cond.initialized RX2, Cond.code yX2_has cX2_has 2 (some .boolean), Cond.fieldLink RX2 59 "ProgramDrum$State" "count" "I", Cond.methodLink RX4 258 yX2_copyFrom, Cond.instanceMethod yX2_copyFrom, Cond.selects RX2 yX2_copyFrom yX2_copyFrom, Cond.code yX2_copyFrom cX2_copyFrom 2 none, Cond.fieldLink RX2 9 "ProgramDrum$State" "places" "I", Cond.fieldLink RX2 62 "ProgramDrum$State" "tick" "I", Cond.fieldLink RX2 15 "ProgramDrum$State" "lastEnd" "I", Cond.fieldLink RX2 18 "ProgramDrum$State" "author" "[I", Cond.fieldLink RX2 22 "ProgramDrum$State" "work" "[I", Cond.fieldLink RX2 25 "ProgramDrum$State" "next" "[I", Cond.fieldLink RX2 28 "ProgramDrum$State" "expects" "[I", Cond.fieldLink RX2 31 "ProgramDrum$State" "bribe" "[I", Cond.fieldLink RX2 34 "ProgramDrum$State" "place" "[I", Cond.fieldLink RX2 37 "ProgramDrum$State" "delay" "[I"]
def wsX4_saves_r2 : List Cond := [Cond.fieldLink RX2 40 "ProgramDrum$State" "open" "[I", Cond.fieldLink RX2 43 "ProgramDrum$State" "lastWait" "[I", Cond.fieldLink RX2 46 "ProgramDrum$State" "paid" "[I", Cond.fieldLink RX2 49 "ProgramDrum$State" "refunded" "[I", Cond.fieldLink RX2 55 "ProgramDrum$State" "jumps" "LProgramDrum$Jumps;", Cond.methodLink RX2 68 yX2_copyRow, Cond.static yX2_copyRow, Cond.code yX2_copyRow cX2_copyRow 3 none, Cond.methodLink RX2 72 yX0_copyFrom, Cond.instanceMethod yX0_copyFrom, Cond.selects RX0 yX0_copyFrom yX0_copyFrom, Cond.initialized RX0, Cond.code yX0_copyFrom cX0_copyFrom 3 none, Cond.fieldLink RX0 21 "ProgramDrum$Jumps" "size" "I", Cond.fieldLink RX0 11 "ProgramDrum$Jumps" "from" "[I", Cond.fieldLink RX0 15 "ProgramDrum$Jumps" "to" "[I", Cond.fieldLink RX0 18 "ProgramDrum$Jumps" "times" "[I", Cond.methodLink RX4 234 yX2_layAll, Cond.instanceMethod yX2_layAll, Cond.selects RX2 yX2_layAll yX2_layAll, Cond.code yX2_layAll cX2_layAll 4 (some .int), Cond.methodLink RX2 106 yX2_takeAllOff, Cond.instanceMethod yX2_takeAllOff, Cond.selects RX2 yX2_takeAllOff yX2_takeAllOff]
def wsX4_saves_r3 : List Cond := [Cond.code yX2_takeAllOff cX2_takeAllOff 2 none, Cond.methodLink RX2 76 yX2_has, Cond.methodLink RX2 103 yX2_put, Cond.instanceMethod yX2_put, Cond.selects RX2 yX2_put yX2_put, Cond.code yX2_put cX2_put 4 (some .int), Cond.methodLink RX2 97 yX2_refund, Cond.instanceMethod yX2_refund, Cond.selects RX2 yX2_refund yX2_refund, Cond.code yX2_refund cX2_refund 3 (some .int), Cond.static yX4_isAuthor, Cond.initialized RX4, Cond.code yX4_isAuthor cX4_isAuthor 1 (some .boolean), Cond.methodLink RX2 109 yX2_laidBehind, Cond.instanceMethod yX2_laidBehind, Cond.selects RX2 yX2_laidBehind yX2_laidBehind, Cond.code yX2_laidBehind cX2_laidBehind 5 (some .int), Cond.methodLink RX2 112 yX2_layOne, Cond.instanceMethod yX2_layOne, Cond.selects RX2 yX2_layOne yX2_layOne, Cond.code yX2_layOne cX2_layOne 5 none, Cond.methodLink RX2 116 yX2_wantedPlace, Cond.instanceMethod yX2_wantedPlace, Cond.selects RX2 yX2_wantedPlace yX2_wantedPlace]
def wsX4_saves_r4 : List Cond := [Cond.code yX2_wantedPlace cX2_wantedPlace 3 (some .int), Cond.methodLink RX2 119 yX2_around, Cond.instanceMethod yX2_around, Cond.selects RX2 yX2_around yX2_around, Cond.code yX2_around cX2_around 2 (some .int), Cond.methodLink RX2 80 yJ9_floorMod_7cf53, Cond.static yJ9_floorMod_7cf53, Cond.initialized RJ9, Cond.code yJ9_floorMod_7cf53 cJ9_floorMod_7cf53 3 (some .int), Cond.methodLink RX2 122 yX2_isOnDrum, Cond.instanceMethod yX2_isOnDrum, Cond.selects RX2 yX2_isOnDrum yX2_isOnDrum, Cond.code yX2_isOnDrum cX2_isOnDrum 2 (some .boolean), Cond.methodLink RX2 86 yX2_orderOn, Cond.instanceMethod yX2_orderOn, Cond.selects RX2 yX2_orderOn yX2_orderOn, Cond.code yX2_orderOn cX2_orderOn 3 (some .int), Cond.methodLink RX4 254 yX4_ticksOfRun, Cond.instanceMethod yX4_ticksOfRun, Cond.selects RX4 yX4_ticksOfRun yX4_ticksOfRun, Cond.code yX4_ticksOfRun cX4_ticksOfRun 3 (some .int), Cond.fieldLink RX4 26 "ProgramDrum" "probe" "LProgramDrum$State;", Cond.methodLink RX4 237 yX2_runFrom, Cond.instanceMethod yX2_runFrom]
def wsX4_saves_r5 : List Cond := [Cond.selects RX2 yX2_runFrom yX2_runFrom, Cond.code yX2_runFrom cX2_runFrom 6 (some .int), Cond.methodLink RX2 125 yX2_read, Cond.instanceMethod yX2_read, Cond.selects RX2 yX2_read yX2_read, Cond.code yX2_read cX2_read 4 none, Cond.methodLink RX2 129 yX0_note, Cond.instanceMethod yX0_note, Cond.selects RX0 yX0_note yX0_note, Cond.code yX0_note cX0_note 4 none]
def wsX4_saves : List Cond := .code yX4_saves cX4_saves 2 (some .int) :: ((wsX4_saves_r1 ++ (wsX4_saves_r2 ++ (wsX4_saves_r3 ++ (wsX4_saves_r4 ++ wsX4_saves_r5)))) ++ wsX40 ++ wsX20 ++ wsX00 ++ (vx_atS RX4 132 "java/lang/IndexOutOfBoundsException" ["java/lang/RuntimeException", "java/lang/Exception"]).filter goodWord)
def wsL_cell : List Cond := .code yL_cell cL_cell 2 (some .int) :: ([.constant RL 7 (1028477379), .constant RL 8 (1516993665)])
def wsL_low : List Cond := .code yL_low cL_low 2 (some .int) :: ([.constant RL 9 (2147483647)])
def wsL_move_r1 : List Cond := [Cond.classLink RL 16 "java/lang/IndexOutOfBoundsException", Cond.classLink RL 18 "java/lang/IllegalStateException", Cond.methodLink RL 10 yX4_move, Cond.instanceMethod yX4_move, Cond.selects RX4 yX4_move yX4_move, Cond.initialized RX4, Cond.code yX4_move cX4_move 3 (some .int), Cond.classLink RX4 128 "java/lang/IndexOutOfBoundsException", Cond.initialized "java/lang/IndexOutOfBoundsException", Cond.classLink RX4 55 "java/lang/IllegalStateException", Cond.initialized "java/lang/IllegalStateException", Cond.fieldLink RX4 19 "ProgramDrum" "now" "LProgramDrum$State;", Cond.fieldLink RX4 32 "ProgramDrum" "memory" "LProgramDrum$Memory;", Cond.methodLink RX4 124 yX2_has, Cond.instanceMethod yX2_has, Cond.selects RX2 yX2_has yX2_has, Cond.initialized RX2, Cond.code yX2_has cX2_has 2 (some .boolean), Cond.fieldLink RX2 59 "ProgramDrum$State" "count" "I", Cond.methodLink RX4 169 yX2_hasPlace, Cond.instanceMethod yX2_hasPlace, Cond.selects RX2 yX2_hasPlace yX2_hasPlace, Cond.code yX2_hasPlace cX2_hasPlace 2 (some .boolean), Cond.fieldLink RX2 9 "ProgramDrum$State" "places" "I"]
def wsL_move_r2 : List Cond := [Cond.methodLink RX4 226 yX2_isFreeFor, Cond.instanceMethod yX2_isFreeFor, Cond.selects RX2 yX2_isFreeFor yX2_isFreeFor, Cond.code yX2_isFreeFor cX2_isFreeFor 4 (some .boolean), Cond.methodLink RX2 86 yX2_orderOn, Cond.instanceMethod yX2_orderOn, Cond.selects RX2 yX2_orderOn yX2_orderOn, Cond.code yX2_orderOn cX2_orderOn 3 (some .int), Cond.fieldLink RX2 34 "ProgramDrum$State" "place" "[I", Cond.methodLink RX2 76 yX2_has, Cond.methodLink RX4 191 yX1_remember, Cond.instanceMethod yX1_remember, Cond.selects RX1 yX1_remember yX1_remember, Cond.initialized RX1, Cond.code yX1_remember cX1_remember 3 none, Cond.fieldLink RX1 11 "ProgramDrum$Memory" "states" "[LProgramDrum$State;", Cond.fieldLink RX1 18 "ProgramDrum$Memory" "oldest" "I", Cond.fieldLink RX1 22 "ProgramDrum$Memory" "size" "I", Cond.methodLink RX1 25 yX2_copyFrom, Cond.instanceMethod yX2_copyFrom, Cond.selects RX2 yX2_copyFrom yX2_copyFrom, Cond.code yX2_copyFrom cX2_copyFrom 2 none, Cond.fieldLink RX2 62 "ProgramDrum$State" "tick" "I", Cond.fieldLink RX2 15 "ProgramDrum$State" "lastEnd" "I"]
def wsL_move_r3 : List Cond := [Cond.fieldLink RX2 18 "ProgramDrum$State" "author" "[I", Cond.fieldLink RX2 22 "ProgramDrum$State" "work" "[I", Cond.fieldLink RX2 25 "ProgramDrum$State" "next" "[I", Cond.fieldLink RX2 28 "ProgramDrum$State" "expects" "[I", Cond.fieldLink RX2 31 "ProgramDrum$State" "bribe" "[I", Cond.fieldLink RX2 37 "ProgramDrum$State" "delay" "[I", Cond.fieldLink RX2 40 "ProgramDrum$State" "open" "[I", Cond.fieldLink RX2 43 "ProgramDrum$State" "lastWait" "[I", Cond.fieldLink RX2 46 "ProgramDrum$State" "paid" "[I", Cond.fieldLink RX2 49 "ProgramDrum$State" "refunded" "[I", Cond.fieldLink RX2 55 "ProgramDrum$State" "jumps" "LProgramDrum$Jumps;", Cond.methodLink RX2 68 yX2_copyRow, Cond.static yX2_copyRow, Cond.code yX2_copyRow cX2_copyRow 3 none, Cond.methodLink RX2 72 yX0_copyFrom, Cond.instanceMethod yX0_copyFrom, Cond.selects RX0 yX0_copyFrom yX0_copyFrom, Cond.initialized RX0, Cond.code yX0_copyFrom cX0_copyFrom 3 none, Cond.fieldLink RX0 21 "ProgramDrum$Jumps" "size" "I", Cond.fieldLink RX0 11 "ProgramDrum$Jumps" "from" "[I", Cond.fieldLink RX0 15 "ProgramDrum$Jumps" "to" "[I", Cond.fieldLink RX0 18 "ProgramDrum$Jumps" "times" "[I", Cond.methodLink RX4 231 yX2_put]
def wsL_move_r4 : List Cond := [Cond.instanceMethod yX2_put, Cond.selects RX2 yX2_put yX2_put, Cond.code yX2_put cX2_put 4 (some .int), Cond.methodLink RX2 97 yX2_refund, Cond.instanceMethod yX2_refund, Cond.selects RX2 yX2_refund yX2_refund, Cond.code yX2_refund cX2_refund 3 (some .int), Cond.static yX4_isAuthor, Cond.code yX4_isAuthor cX4_isAuthor 1 (some .boolean)]
def wsL_move : List Cond := .codeWith yL_move cL_move 4 (some .int) [(0, 6, 7, 16), (0, 6, 10, 18)] :: ((wsL_move_r1 ++ (wsL_move_r2 ++ (wsL_move_r3 ++ wsL_move_r4))) ++ wsX40 ++ wsX20 ++ wsX10 ++ wsX00 ++ (vx_atS RX4 132 "java/lang/IndexOutOfBoundsException" ["java/lang/RuntimeException", "java/lang/Exception"]).filter goodWord ++ (vx_atS RX4 59 "java/lang/IllegalStateException" ["java/lang/RuntimeException", "java/lang/Exception"]).filter goodWord)
def wsL_at : List Cond := .code yL_at cL_at 3 (some .int) :: ([])
def wsL_refund : List Cond := .code yL_refund cL_refund 3 none :: ([])
def wsL_wanted : List Cond := .code yL_wanted cL_wanted 7 (some .int) :: ([])
def wsL_lay : List Cond := .code yL_lay cL_lay 8 (some .int) :: ([.arrayClass .int, .methodLink RL 20 yL_refund, .static yL_refund, .initialized RL, .code yL_refund cL_refund 3 none, .methodLink RL 26 yL_wanted, .static yL_wanted, .code yL_wanted cL_wanted 7 (some .int), .methodLink RL 30 yL_at, .static yL_at, .code yL_at cL_at 3 (some .int)])
def wsL_run : List Cond := .code yL_run cL_run 8 (some .int) :: ([.methodLink RL 20 yL_refund, .static yL_refund, .initialized RL, .code yL_refund cL_refund 3 none])
def wsL_same_r1 : List Cond := [Cond.methodLink RL 34 yX4_order, Cond.instanceMethod yX4_order, Cond.selects RX4 yX4_order yX4_order, Cond.initialized RX4, Cond.code yX4_order cX4_order 3 (some .int), Cond.classLink RX4 128 "java/lang/IndexOutOfBoundsException", Cond.initialized "java/lang/IndexOutOfBoundsException", Cond.classLink RX4 44 "java/lang/IllegalArgumentException", Cond.initialized "java/lang/IllegalArgumentException", Cond.fieldLink RX4 19 "ProgramDrum" "now" "LProgramDrum$State;", Cond.methodLink RX4 124 yX2_has, Cond.instanceMethod yX2_has, Cond.selects RX2 yX2_has yX2_has, Cond.initialized RX2, Cond.code yX2_has cX2_has 2 (some .boolean), Cond.fieldLink RX2 59 "ProgramDrum$State" "count" "I", Cond.methodLink RL 37 yX4_waits, Cond.instanceMethod yX4_waits, Cond.selects RX4 yX4_waits yX4_waits, Cond.code yX4_waits cX4_waits 2 (some .int), Cond.methodLink RX4 251 yX2_waitFor, Cond.instanceMethod yX2_waitFor, Cond.selects RX2 yX2_waitFor yX2_waitFor, Cond.code yX2_waitFor cX2_waitFor 2 (some .int)]
def wsL_same_r2 : List Cond := [Cond.fieldLink RX2 34 "ProgramDrum$State" "place" "[I", Cond.fieldLink RX2 62 "ProgramDrum$State" "tick" "I", Cond.methodLink RX2 122 yX2_isOnDrum, Cond.instanceMethod yX2_isOnDrum, Cond.selects RX2 yX2_isOnDrum yX2_isOnDrum, Cond.code yX2_isOnDrum cX2_isOnDrum 2 (some .boolean), Cond.methodLink RX2 76 yX2_has, Cond.methodLink RX2 119 yX2_around, Cond.instanceMethod yX2_around, Cond.selects RX2 yX2_around yX2_around, Cond.code yX2_around cX2_around 2 (some .int), Cond.fieldLink RX2 9 "ProgramDrum$State" "places" "I", Cond.methodLink RX2 80 yJ9_floorMod_7cf53, Cond.static yJ9_floorMod_7cf53, Cond.initialized RJ9, Cond.code yJ9_floorMod_7cf53 cJ9_floorMod_7cf53 3 (some .int), Cond.methodLink RL 41 yX4_at, Cond.instanceMethod yX4_at, Cond.selects RX4 yX4_at yX4_at, Cond.code yX4_at cX4_at 2 (some .int), Cond.methodLink RX4 169 yX2_hasPlace, Cond.instanceMethod yX2_hasPlace, Cond.selects RX2 yX2_hasPlace yX2_hasPlace, Cond.code yX2_hasPlace cX2_hasPlace 2 (some .boolean)]
def wsL_same_r3 : List Cond := [Cond.methodLink RX4 174 yX2_orderOn, Cond.instanceMethod yX2_orderOn, Cond.selects RX2 yX2_orderOn yX2_orderOn, Cond.code yX2_orderOn cX2_orderOn 3 (some .int), Cond.methodLink RL 43 yX4_author, Cond.instanceMethod yX4_author, Cond.selects RX4 yX4_author yX4_author, Cond.code yX4_author cX4_author 3 (some .int), Cond.methodLink RX4 159 yX4_isAuthor, Cond.static yX4_isAuthor, Cond.code yX4_isAuthor cX4_isAuthor 1 (some .boolean), Cond.methodLink RX4 164 yX2_ordersOf, Cond.instanceMethod yX2_ordersOf, Cond.selects RX2 yX2_ordersOf yX2_ordersOf, Cond.code yX2_ordersOf cX2_ordersOf 4 (some .int), Cond.fieldLink RX2 18 "ProgramDrum$State" "author" "[I", Cond.methodLink RL 46 yX4_jump, Cond.instanceMethod yX4_jump, Cond.selects RX4 yX4_jump yX4_jump, Cond.code yX4_jump cX4_jump 3 (some .int), Cond.methodLink RX4 179 yX0_number, Cond.instanceMethod yX0_number, Cond.selects RX0 yX0_number yX0_number, Cond.initialized RX0]
def wsL_same_r4 : List Cond := [Cond.code yX0_number cX0_number 3 (some .int), Cond.fieldLink RX0 21 "ProgramDrum$Jumps" "size" "I", Cond.fieldLink RX0 11 "ProgramDrum$Jumps" "from" "[I", Cond.fieldLink RX0 15 "ProgramDrum$Jumps" "to" "[I", Cond.fieldLink RX0 18 "ProgramDrum$Jumps" "times" "[I", Cond.methodLink RL 49 yX4_about, Cond.instanceMethod yX4_about, Cond.selects RX4 yX4_about yX4_about, Cond.code yX4_about cX4_about 2 (some .int), Cond.methodLink RX4 90 yX2_around, Cond.methodLink RX4 93 yX2_laidOrders, Cond.instanceMethod yX2_laidOrders, Cond.selects RX2 yX2_laidOrders yX2_laidOrders, Cond.code yX2_laidOrders cX2_laidOrders 3 (some .int), Cond.methodLink RX4 100 yX4_sum, Cond.static yX4_sum, Cond.code yX4_sum cX4_sum 3 (some .int)]
def wsL_same : List Cond := .code yL_same cL_same 11 (some .boolean) :: ((wsL_same_r1 ++ (wsL_same_r2 ++ (wsL_same_r3 ++ wsL_same_r4))) ++ wsX40 ++ wsX20 ++ wsX00 ++ (vx_atS RX4 132 "java/lang/IndexOutOfBoundsException" ["java/lang/RuntimeException", "java/lang/Exception"]).filter goodWord ++ (vx_atS RX4 48 "java/lang/IllegalArgumentException" ["java/lang/RuntimeException", "java/lang/Exception"]).filter goodWord)
def wsL_copy : List Cond := .code yL_copy cL_copy 3 none :: ([])
def wsL_would_r1 : List Cond := [Cond.methodLink RL 52 yL_copy, Cond.static yL_copy, Cond.initialized RL, Cond.code yL_copy cL_copy 3 none, Cond.methodLink RL 56 yL_run, Cond.static yL_run, Cond.code yL_run cL_run 8 (some .int), Cond.methodLink RL 20 yL_refund, Cond.static yL_refund, Cond.code yL_refund cL_refund 3 none, Cond.methodLink RL 60 yX4_time, Cond.instanceMethod yX4_time, Cond.selects RX4 yX4_time yX4_time, Cond.initialized RX4, Cond.code yX4_time cX4_time 2 (some .int), Cond.classLink RX4 128 "java/lang/IndexOutOfBoundsException", Cond.initialized "java/lang/IndexOutOfBoundsException", Cond.fieldLink RX4 19 "ProgramDrum" "now" "LProgramDrum$State;", Cond.methodLink RX4 124 yX2_has, Cond.instanceMethod yX2_has, Cond.selects RX2 yX2_has yX2_has, Cond.initialized RX2, Cond.code yX2_has cX2_has 2 (some .boolean), Cond.fieldLink RX2 59 "ProgramDrum$State" "count" "I"]
def wsL_would_r2 : List Cond := [Cond.methodLink RX4 254 yX4_ticksOfRun, Cond.instanceMethod yX4_ticksOfRun, Cond.selects RX4 yX4_ticksOfRun yX4_ticksOfRun, Cond.code yX4_ticksOfRun cX4_ticksOfRun 3 (some .int), Cond.fieldLink RX4 26 "ProgramDrum" "probe" "LProgramDrum$State;", Cond.methodLink RX4 258 yX2_copyFrom, Cond.instanceMethod yX2_copyFrom, Cond.selects RX2 yX2_copyFrom yX2_copyFrom, Cond.code yX2_copyFrom cX2_copyFrom 2 none, Cond.fieldLink RX2 9 "ProgramDrum$State" "places" "I", Cond.fieldLink RX2 62 "ProgramDrum$State" "tick" "I", Cond.fieldLink RX2 15 "ProgramDrum$State" "lastEnd" "I", Cond.fieldLink RX2 18 "ProgramDrum$State" "author" "[I", Cond.fieldLink RX2 22 "ProgramDrum$State" "work" "[I", Cond.fieldLink RX2 25 "ProgramDrum$State" "next" "[I", Cond.fieldLink RX2 28 "ProgramDrum$State" "expects" "[I", Cond.fieldLink RX2 31 "ProgramDrum$State" "bribe" "[I", Cond.fieldLink RX2 34 "ProgramDrum$State" "place" "[I", Cond.fieldLink RX2 37 "ProgramDrum$State" "delay" "[I", Cond.fieldLink RX2 40 "ProgramDrum$State" "open" "[I", Cond.fieldLink RX2 43 "ProgramDrum$State" "lastWait" "[I", Cond.fieldLink RX2 46 "ProgramDrum$State" "paid" "[I", Cond.fieldLink RX2 49 "ProgramDrum$State" "refunded" "[I", Cond.fieldLink RX2 55 "ProgramDrum$State" "jumps" "LProgramDrum$Jumps;"]
def wsL_would_r3 : List Cond := [Cond.methodLink RX2 68 yX2_copyRow, Cond.static yX2_copyRow, Cond.code yX2_copyRow cX2_copyRow 3 none, Cond.methodLink RX2 72 yX0_copyFrom, Cond.instanceMethod yX0_copyFrom, Cond.selects RX0 yX0_copyFrom yX0_copyFrom, Cond.initialized RX0, Cond.code yX0_copyFrom cX0_copyFrom 3 none, Cond.fieldLink RX0 21 "ProgramDrum$Jumps" "size" "I", Cond.fieldLink RX0 11 "ProgramDrum$Jumps" "from" "[I", Cond.fieldLink RX0 15 "ProgramDrum$Jumps" "to" "[I", Cond.fieldLink RX0 18 "ProgramDrum$Jumps" "times" "[I", Cond.methodLink RX4 237 yX2_runFrom, Cond.instanceMethod yX2_runFrom, Cond.selects RX2 yX2_runFrom yX2_runFrom, Cond.code yX2_runFrom cX2_runFrom 6 (some .int), Cond.methodLink RX2 122 yX2_isOnDrum, Cond.instanceMethod yX2_isOnDrum, Cond.selects RX2 yX2_isOnDrum yX2_isOnDrum, Cond.code yX2_isOnDrum cX2_isOnDrum 2 (some .boolean), Cond.methodLink RX2 76 yX2_has, Cond.methodLink RX2 125 yX2_read, Cond.instanceMethod yX2_read, Cond.selects RX2 yX2_read yX2_read]
def wsL_would_r4 : List Cond := [Cond.code yX2_read cX2_read 4 none, Cond.methodLink RX2 119 yX2_around, Cond.instanceMethod yX2_around, Cond.selects RX2 yX2_around yX2_around, Cond.code yX2_around cX2_around 2 (some .int), Cond.methodLink RX2 80 yJ9_floorMod_7cf53, Cond.static yJ9_floorMod_7cf53, Cond.initialized RJ9, Cond.code yJ9_floorMod_7cf53 cJ9_floorMod_7cf53 3 (some .int), Cond.methodLink RX2 97 yX2_refund, Cond.instanceMethod yX2_refund, Cond.selects RX2 yX2_refund yX2_refund, Cond.code yX2_refund cX2_refund 3 (some .int), Cond.static yX4_isAuthor, Cond.code yX4_isAuthor cX4_isAuthor 1 (some .boolean), Cond.methodLink RX2 129 yX0_note, Cond.instanceMethod yX0_note, Cond.selects RX0 yX0_note yX0_note, Cond.code yX0_note cX0_note 4 none, Cond.methodLink RL 63 yL_lay, Cond.static yL_lay, Cond.code yL_lay cL_lay 8 (some .int), Cond.arrayClass .int, Cond.methodLink RL 26 yL_wanted]
def wsL_would_r5 : List Cond := [Cond.static yL_wanted, Cond.code yL_wanted cL_wanted 7 (some .int), Cond.methodLink RL 30 yL_at, Cond.static yL_at, Cond.code yL_at cL_at 3 (some .int), Cond.methodLink RL 67 yX4_saves, Cond.instanceMethod yX4_saves, Cond.selects RX4 yX4_saves yX4_saves, Cond.code yX4_saves cX4_saves 2 (some .int), Cond.fieldLink RX4 23 "ProgramDrum" "trial" "LProgramDrum$State;", Cond.methodLink RX4 234 yX2_layAll, Cond.instanceMethod yX2_layAll, Cond.selects RX2 yX2_layAll yX2_layAll, Cond.code yX2_layAll cX2_layAll 4 (some .int), Cond.methodLink RX2 106 yX2_takeAllOff, Cond.instanceMethod yX2_takeAllOff, Cond.selects RX2 yX2_takeAllOff yX2_takeAllOff, Cond.code yX2_takeAllOff cX2_takeAllOff 2 none, Cond.methodLink RX2 103 yX2_put, Cond.instanceMethod yX2_put, Cond.selects RX2 yX2_put yX2_put, Cond.code yX2_put cX2_put 4 (some .int), Cond.methodLink RX2 109 yX2_laidBehind, Cond.instanceMethod yX2_laidBehind]
def wsL_would_r6 : List Cond := [Cond.selects RX2 yX2_laidBehind yX2_laidBehind, Cond.code yX2_laidBehind cX2_laidBehind 5 (some .int), Cond.methodLink RX2 112 yX2_layOne, Cond.instanceMethod yX2_layOne, Cond.selects RX2 yX2_layOne yX2_layOne, Cond.code yX2_layOne cX2_layOne 5 none, Cond.methodLink RX2 116 yX2_wantedPlace, Cond.instanceMethod yX2_wantedPlace, Cond.selects RX2 yX2_wantedPlace yX2_wantedPlace, Cond.code yX2_wantedPlace cX2_wantedPlace 3 (some .int), Cond.methodLink RX2 86 yX2_orderOn, Cond.instanceMethod yX2_orderOn, Cond.selects RX2 yX2_orderOn yX2_orderOn, Cond.code yX2_orderOn cX2_orderOn 3 (some .int), Cond.methodLink RL 70 yX4_bestPlace, Cond.instanceMethod yX4_bestPlace, Cond.selects RX4 yX4_bestPlace yX4_bestPlace, Cond.code yX4_bestPlace cX4_bestPlace 7 (some .int), Cond.methodLink RX4 226 yX2_isFreeFor, Cond.instanceMethod yX2_isFreeFor, Cond.selects RX2 yX2_isFreeFor yX2_isFreeFor, Cond.code yX2_isFreeFor cX2_isFreeFor 4 (some .boolean), Cond.methodLink RL 73 yX4_leastBribe, Cond.instanceMethod yX4_leastBribe]
def wsL_would_r7 : List Cond := [Cond.selects RX4 yX4_leastBribe yX4_leastBribe, Cond.code yX4_leastBribe cX4_leastBribe 3 (some .int)]
def wsL_would : List Cond := .code yL_would cL_would 14 (some .boolean) :: ((wsL_would_r1 ++ (wsL_would_r2 ++ (wsL_would_r3 ++ (wsL_would_r4 ++ (wsL_would_r5 ++ (wsL_would_r6 ++ wsL_would_r7)))))) ++ wsX40 ++ wsX20 ++ wsX00 ++ (vx_atS RX4 132 "java/lang/IndexOutOfBoundsException" ["java/lang/RuntimeException", "java/lang/Exception"]).filter goodWord)
def wsL_law0_r1 : List Cond := [Cond.classLink RL 11 RX4, Cond.instantiable RX4 7, Cond.initialized RX4, Cond.arrayClass .int, Cond.methodLink RL 76 yX4_init, Cond.instanceMethod yX4_init, Cond.code yX4_init cX4_init 1 none, Cond.methodLink RX4 1 objectInit, Cond.instanceMethod objectInit, Cond.code objectInit ⟨#[0xb1]⟩ 1 none, Cond.classLink RX4 7 RX3, Cond.instantiable RX3 2, Cond.initialized RX3, Cond.fieldLink RX4 10 "ProgramDrum" "text" "LProgramDrum$Text;", Cond.classLink RX4 16 RX2, Cond.instantiable RX2 16, Cond.initialized RX2, Cond.fieldLink RX4 19 "ProgramDrum" "now" "LProgramDrum$State;", Cond.fieldLink RX4 23 "ProgramDrum" "trial" "LProgramDrum$State;", Cond.fieldLink RX4 26 "ProgramDrum" "probe" "LProgramDrum$State;", Cond.classLink RX4 29 RX1, Cond.instantiable RX1 3, Cond.initialized RX1, Cond.fieldLink RX4 32 "ProgramDrum" "memory" "LProgramDrum$Memory;"]
def wsL_law0_r2 : List Cond := [Cond.fieldLink RX4 36 "ProgramDrum" "slots" "[LProgramDrum$State;", Cond.arrayClass .boolean, Cond.fieldLink RX4 40 "ProgramDrum" "saved" "[Z", Cond.instanceMethod yX3_init, Cond.code yX3_init cX3_init 1 none, Cond.methodLink RX3 5 objectInit, Cond.fieldLink RX3 11 "ProgramDrum$Text" "codes" "[I", Cond.instanceMethod yX2_init, Cond.code yX2_init cX2_init 1 none, Cond.methodLink RX2 3 objectInit, Cond.fieldLink RX2 9 "ProgramDrum$State" "places" "I", Cond.fieldLink RX2 15 "ProgramDrum$State" "lastEnd" "I", Cond.fieldLink RX2 18 "ProgramDrum$State" "author" "[I", Cond.fieldLink RX2 22 "ProgramDrum$State" "work" "[I", Cond.fieldLink RX2 25 "ProgramDrum$State" "next" "[I", Cond.fieldLink RX2 28 "ProgramDrum$State" "expects" "[I", Cond.fieldLink RX2 31 "ProgramDrum$State" "bribe" "[I", Cond.fieldLink RX2 34 "ProgramDrum$State" "place" "[I", Cond.fieldLink RX2 37 "ProgramDrum$State" "delay" "[I", Cond.fieldLink RX2 40 "ProgramDrum$State" "open" "[I", Cond.fieldLink RX2 43 "ProgramDrum$State" "lastWait" "[I", Cond.fieldLink RX2 46 "ProgramDrum$State" "paid" "[I", Cond.fieldLink RX2 49 "ProgramDrum$State" "refunded" "[I", Cond.classLink RX2 52 RX0]
def wsL_law0_r3 : List Cond := [Cond.instantiable RX0 4, Cond.initialized RX0, Cond.fieldLink RX2 55 "ProgramDrum$State" "jumps" "LProgramDrum$Jumps;", Cond.instanceMethod yX0_init, Cond.code yX0_init cX0_init 1 none, Cond.methodLink RX0 3 objectInit, Cond.fieldLink RX0 11 "ProgramDrum$Jumps" "from" "[I", Cond.fieldLink RX0 15 "ProgramDrum$Jumps" "to" "[I", Cond.fieldLink RX0 18 "ProgramDrum$Jumps" "times" "[I", Cond.methodLink RX4 31 yX1_init, Cond.instanceMethod yX1_init, Cond.code yX1_init cX1_init 2 none, Cond.methodLink RX1 3 objectInit, Cond.classLink RX1 9 RX2, Cond.fieldLink RX1 11 "ProgramDrum$Memory" "states" "[LProgramDrum$State;", Cond.methodLink RL 77 yL_cell, Cond.static yL_cell, Cond.initialized RL, Cond.code yL_cell cL_cell 2 (some .int), Cond.constant RL 7 (1028477379), Cond.constant RL 8 (1516993665), Cond.methodLink RL 81 yL_low, Cond.static yL_low, Cond.code yL_low cL_low 2 (some .int)]
def wsL_law0_r4 : List Cond := [Cond.constant RL 9 (2147483647), Cond.methodLink RL 84 yX4_setDrum, Cond.instanceMethod yX4_setDrum, Cond.selects RX4 yX4_setDrum yX4_setDrum, Cond.code yX4_setDrum cX4_setDrum 3 (some .int), Cond.classLink RX4 44 "java/lang/IllegalArgumentException", Cond.initialized "java/lang/IllegalArgumentException", Cond.methodLink RX4 191 yX1_remember, Cond.instanceMethod yX1_remember, Cond.selects RX1 yX1_remember yX1_remember, Cond.code yX1_remember cX1_remember 3 none, Cond.fieldLink RX1 18 "ProgramDrum$Memory" "oldest" "I", Cond.fieldLink RX1 22 "ProgramDrum$Memory" "size" "I", Cond.methodLink RX1 25 yX2_copyFrom, Cond.instanceMethod yX2_copyFrom, Cond.selects RX2 yX2_copyFrom yX2_copyFrom, Cond.code yX2_copyFrom cX2_copyFrom 2 none, Cond.fieldLink RX2 59 "ProgramDrum$State" "count" "I", Cond.fieldLink RX2 62 "ProgramDrum$State" "tick" "I", Cond.methodLink RX2 68 yX2_copyRow, Cond.static yX2_copyRow, Cond.code yX2_copyRow cX2_copyRow 3 none, Cond.methodLink RX2 72 yX0_copyFrom, Cond.instanceMethod yX0_copyFrom]
def wsL_law0_r5 : List Cond := [Cond.selects RX0 yX0_copyFrom yX0_copyFrom, Cond.code yX0_copyFrom cX0_copyFrom 3 none, Cond.fieldLink RX0 21 "ProgramDrum$Jumps" "size" "I", Cond.methodLink RX4 194 yX2_takeAllOff, Cond.instanceMethod yX2_takeAllOff, Cond.selects RX2 yX2_takeAllOff yX2_takeAllOff, Cond.code yX2_takeAllOff cX2_takeAllOff 2 none, Cond.methodLink RX2 76 yX2_has, Cond.instanceMethod yX2_has, Cond.selects RX2 yX2_has yX2_has, Cond.code yX2_has cX2_has 2 (some .boolean), Cond.methodLink RX2 103 yX2_put, Cond.instanceMethod yX2_put, Cond.selects RX2 yX2_put yX2_put, Cond.code yX2_put cX2_put 4 (some .int), Cond.methodLink RX2 97 yX2_refund, Cond.instanceMethod yX2_refund, Cond.selects RX2 yX2_refund yX2_refund, Cond.code yX2_refund cX2_refund 3 (some .int), Cond.static yX4_isAuthor, Cond.code yX4_isAuthor cX4_isAuthor 1 (some .boolean), Cond.methodLink RL 87 yX4_addOrder, Cond.instanceMethod yX4_addOrder, Cond.selects RX4 yX4_addOrder yX4_addOrder]
def wsL_law0_r6 : List Cond := [Cond.code yX4_addOrder cX4_addOrder 6 (some .int), Cond.classLink RX4 55 "java/lang/IllegalStateException", Cond.initialized "java/lang/IllegalStateException", Cond.methodLink RX4 159 yX4_isAuthor, Cond.methodLink RX4 197 yX4_isWork, Cond.static yX4_isWork, Cond.code yX4_isWork cX4_isWork 1 (some .boolean), Cond.methodLink RX4 200 yX4_isLink, Cond.static yX4_isLink, Cond.code yX4_isLink cX4_isLink 1 (some .boolean), Cond.methodLink RX4 203 yX4_isBribe, Cond.static yX4_isBribe, Cond.code yX4_isBribe cX4_isBribe 1 (some .boolean), Cond.methodLink RX4 210 yX2_addNew, Cond.instanceMethod yX2_addNew, Cond.selects RX2 yX2_addNew yX2_addNew, Cond.code yX2_addNew cX2_addNew 7 (some .int), Cond.methodLink RL 91 yX4_lay, Cond.instanceMethod yX4_lay, Cond.selects RX4 yX4_lay yX4_lay, Cond.code yX4_lay cX4_lay 1 (some .int), Cond.methodLink RX4 234 yX2_layAll, Cond.instanceMethod yX2_layAll, Cond.selects RX2 yX2_layAll yX2_layAll]
def wsL_law0_r7 : List Cond := [Cond.code yX2_layAll cX2_layAll 4 (some .int), Cond.methodLink RX2 106 yX2_takeAllOff, Cond.methodLink RX2 109 yX2_laidBehind, Cond.instanceMethod yX2_laidBehind, Cond.selects RX2 yX2_laidBehind yX2_laidBehind, Cond.code yX2_laidBehind cX2_laidBehind 5 (some .int), Cond.methodLink RX2 112 yX2_layOne, Cond.instanceMethod yX2_layOne, Cond.selects RX2 yX2_layOne yX2_layOne, Cond.code yX2_layOne cX2_layOne 5 none, Cond.methodLink RX2 116 yX2_wantedPlace, Cond.instanceMethod yX2_wantedPlace, Cond.selects RX2 yX2_wantedPlace yX2_wantedPlace, Cond.code yX2_wantedPlace cX2_wantedPlace 3 (some .int), Cond.methodLink RX2 119 yX2_around, Cond.instanceMethod yX2_around, Cond.selects RX2 yX2_around yX2_around, Cond.code yX2_around cX2_around 2 (some .int), Cond.methodLink RX2 80 yJ9_floorMod_7cf53, Cond.static yJ9_floorMod_7cf53, Cond.initialized RJ9, Cond.code yJ9_floorMod_7cf53 cJ9_floorMod_7cf53 3 (some .int), Cond.methodLink RX2 122 yX2_isOnDrum, Cond.instanceMethod yX2_isOnDrum]
def wsL_law0_r8 : List Cond := [Cond.selects RX2 yX2_isOnDrum yX2_isOnDrum, Cond.code yX2_isOnDrum cX2_isOnDrum 2 (some .boolean), Cond.methodLink RX2 86 yX2_orderOn, Cond.instanceMethod yX2_orderOn, Cond.selects RX2 yX2_orderOn yX2_orderOn, Cond.code yX2_orderOn cX2_orderOn 3 (some .int), Cond.methodLink RL 63 yL_lay, Cond.static yL_lay, Cond.code yL_lay cL_lay 8 (some .int), Cond.methodLink RL 20 yL_refund, Cond.static yL_refund, Cond.code yL_refund cL_refund 3 none, Cond.methodLink RL 26 yL_wanted, Cond.static yL_wanted, Cond.code yL_wanted cL_wanted 7 (some .int), Cond.methodLink RL 30 yL_at, Cond.static yL_at, Cond.code yL_at cL_at 3 (some .int), Cond.methodLink RL 56 yL_run, Cond.static yL_run, Cond.code yL_run cL_run 8 (some .int), Cond.methodLink RL 94 yX4_run, Cond.instanceMethod yX4_run, Cond.selects RX4 yX4_run yX4_run]
def wsL_law0_r9 : List Cond := [Cond.code yX4_run cX4_run 2 (some .int), Cond.classLink RX4 128 "java/lang/IndexOutOfBoundsException", Cond.initialized "java/lang/IndexOutOfBoundsException", Cond.methodLink RX4 124 yX2_has, Cond.methodLink RX4 237 yX2_runFrom, Cond.instanceMethod yX2_runFrom, Cond.selects RX2 yX2_runFrom yX2_runFrom, Cond.code yX2_runFrom cX2_runFrom 6 (some .int), Cond.methodLink RX2 125 yX2_read, Cond.instanceMethod yX2_read, Cond.selects RX2 yX2_read yX2_read, Cond.code yX2_read cX2_read 4 none, Cond.methodLink RX2 129 yX0_note, Cond.instanceMethod yX0_note, Cond.selects RX0 yX0_note yX0_note, Cond.code yX0_note cX0_note 4 none, Cond.methodLink RL 96 yL_move, Cond.static yL_move, Cond.codeWith yL_move cL_move 4 (some .int) [(0, 6, 7, 16), (0, 6, 10, 18)], Cond.classLink RL 16 "java/lang/IndexOutOfBoundsException", Cond.classLink RL 18 "java/lang/IllegalStateException", Cond.methodLink RL 10 yX4_move, Cond.instanceMethod yX4_move, Cond.selects RX4 yX4_move yX4_move]
def wsL_law0_r10 : List Cond := [Cond.code yX4_move cX4_move 3 (some .int), Cond.methodLink RX4 169 yX2_hasPlace, Cond.instanceMethod yX2_hasPlace, Cond.selects RX2 yX2_hasPlace yX2_hasPlace, Cond.code yX2_hasPlace cX2_hasPlace 2 (some .boolean), Cond.methodLink RX4 226 yX2_isFreeFor, Cond.instanceMethod yX2_isFreeFor, Cond.selects RX2 yX2_isFreeFor yX2_isFreeFor, Cond.code yX2_isFreeFor cX2_isFreeFor 4 (some .boolean), Cond.methodLink RX4 231 yX2_put, Cond.methodLink RL 99 yX4_turn, Cond.instanceMethod yX4_turn, Cond.selects RX4 yX4_turn yX4_turn, Cond.code yX4_turn cX4_turn 2 (some .int), Cond.methodLink RX4 240 yX4_isTurn, Cond.static yX4_isTurn, Cond.code yX4_isTurn cX4_isTurn 1 (some .boolean), Cond.methodLink RX4 90 yX2_around, Cond.methodLink RL 102 yX4_change, Cond.instanceMethod yX4_change, Cond.selects RX4 yX4_change yX4_change, Cond.code yX4_change cX4_change 4 (some .int), Cond.methodLink RX4 214 yX4_isNumberOfOrder, Cond.static yX4_isNumberOfOrder]
def wsL_law0_r11 : List Cond := [Cond.code yX4_isNumberOfOrder cX4_isNumberOfOrder 2 (some .boolean), Cond.methodLink RX4 220 yX2_replace, Cond.instanceMethod yX2_replace, Cond.selects RX2 yX2_replace yX2_replace, Cond.code yX2_replace cX2_replace 6 (some .int), Cond.methodLink RX2 93 yX2_changeableRow, Cond.instanceMethod yX2_changeableRow, Cond.selects RX2 yX2_changeableRow yX2_changeableRow, Cond.code yX2_changeableRow cX2_changeableRow 2 (some (.array .int)), Cond.methodLink RL 106 yL_same, Cond.static yL_same, Cond.code yL_same cL_same 11 (some .boolean), Cond.methodLink RL 34 yX4_order, Cond.instanceMethod yX4_order, Cond.selects RX4 yX4_order yX4_order, Cond.code yX4_order cX4_order 3 (some .int), Cond.methodLink RL 37 yX4_waits, Cond.instanceMethod yX4_waits, Cond.selects RX4 yX4_waits yX4_waits, Cond.code yX4_waits cX4_waits 2 (some .int), Cond.methodLink RX4 251 yX2_waitFor, Cond.instanceMethod yX2_waitFor, Cond.selects RX2 yX2_waitFor yX2_waitFor, Cond.code yX2_waitFor cX2_waitFor 2 (some .int)]
def wsL_law0_r12 : List Cond := [Cond.methodLink RL 41 yX4_at, Cond.instanceMethod yX4_at, Cond.selects RX4 yX4_at yX4_at, Cond.code yX4_at cX4_at 2 (some .int), Cond.methodLink RX4 174 yX2_orderOn, Cond.methodLink RL 43 yX4_author, Cond.instanceMethod yX4_author, Cond.selects RX4 yX4_author yX4_author, Cond.code yX4_author cX4_author 3 (some .int), Cond.methodLink RX4 164 yX2_ordersOf, Cond.instanceMethod yX2_ordersOf, Cond.selects RX2 yX2_ordersOf yX2_ordersOf, Cond.code yX2_ordersOf cX2_ordersOf 4 (some .int), Cond.methodLink RL 46 yX4_jump, Cond.instanceMethod yX4_jump, Cond.selects RX4 yX4_jump yX4_jump, Cond.code yX4_jump cX4_jump 3 (some .int), Cond.methodLink RX4 179 yX0_number, Cond.instanceMethod yX0_number, Cond.selects RX0 yX0_number yX0_number, Cond.code yX0_number cX0_number 3 (some .int), Cond.methodLink RL 49 yX4_about, Cond.instanceMethod yX4_about, Cond.selects RX4 yX4_about yX4_about]
def wsL_law0_r13 : List Cond := [Cond.code yX4_about cX4_about 2 (some .int), Cond.methodLink RX4 93 yX2_laidOrders, Cond.instanceMethod yX2_laidOrders, Cond.selects RX2 yX2_laidOrders yX2_laidOrders, Cond.code yX2_laidOrders cX2_laidOrders 3 (some .int), Cond.methodLink RX4 100 yX4_sum, Cond.static yX4_sum, Cond.code yX4_sum cX4_sum 3 (some .int), Cond.methodLink RL 110 yL_would, Cond.static yL_would, Cond.code yL_would cL_would 14 (some .boolean), Cond.methodLink RL 52 yL_copy, Cond.static yL_copy, Cond.code yL_copy cL_copy 3 none, Cond.methodLink RL 60 yX4_time, Cond.instanceMethod yX4_time, Cond.selects RX4 yX4_time yX4_time, Cond.code yX4_time cX4_time 2 (some .int), Cond.methodLink RX4 254 yX4_ticksOfRun, Cond.instanceMethod yX4_ticksOfRun, Cond.selects RX4 yX4_ticksOfRun yX4_ticksOfRun, Cond.code yX4_ticksOfRun cX4_ticksOfRun 3 (some .int), Cond.methodLink RX4 258 yX2_copyFrom, Cond.methodLink RL 67 yX4_saves]
def wsL_law0_r14 : List Cond := [Cond.instanceMethod yX4_saves, Cond.selects RX4 yX4_saves yX4_saves, Cond.code yX4_saves cX4_saves 2 (some .int), Cond.methodLink RL 70 yX4_bestPlace, Cond.instanceMethod yX4_bestPlace, Cond.selects RX4 yX4_bestPlace yX4_bestPlace, Cond.code yX4_bestPlace cX4_bestPlace 7 (some .int), Cond.methodLink RL 73 yX4_leastBribe, Cond.instanceMethod yX4_leastBribe, Cond.selects RX4 yX4_leastBribe yX4_leastBribe, Cond.code yX4_leastBribe cX4_leastBribe 3 (some .int)]
def wsL_law0 : List Cond := (wsL_law0_r1 ++ (wsL_law0_r2 ++ (wsL_law0_r3 ++ (wsL_law0_r4 ++ (wsL_law0_r5 ++ (wsL_law0_r6 ++ (wsL_law0_r7 ++ (wsL_law0_r8 ++ (wsL_law0_r9 ++ (wsL_law0_r10 ++ (wsL_law0_r11 ++ (wsL_law0_r12 ++ (wsL_law0_r13 ++ wsL_law0_r14))))))))))))) ++ wsX40 ++ wsX30 ++ wsX20 ++ wsX10 ++ wsX00 ++ ([] : List Cond)
def wsL_law : List Cond := wsL_law0 ++ (vx_atS RX4 48 "java/lang/IllegalArgumentException" ["java/lang/RuntimeException", "java/lang/Exception"]).filter goodWord ++ (vx_atS RX4 59 "java/lang/IllegalStateException" ["java/lang/RuntimeException", "java/lang/Exception"]).filter goodWord ++ (vx_atS RX4 132 "java/lang/IndexOutOfBoundsException" ["java/lang/RuntimeException", "java/lang/Exception"]).filter goodWord
abbrev vwCl : List vw_C := [(RX0, TX0, 4), (RX1, TX1, 3), (RX2, TX2, 16), (RX3, TX3, 2), (RX4, TX4, 7)]
end
section
/-! base: combinators of the printed functions, worlds, contracts in short form -/
abbrev z_R : Type := Nat → Nat → Int32
def z_lt {α β : Type} (x : α) (f : α → β) : β := f x
theorem z_ltE {α β : Type} {x : α} {f : α → Option β} {o : β} (h : z_lt x f = some o) : ∃ y, y = x ∧ f y = some o := ⟨x, rfl, h⟩
def z_ck {α : Type} (b : Bool) (x : Option α) : Option α := if b = true then x else none
theorem z_ckE {α : Type} {b : Bool} {x : Option α} {o : α} (h : z_ck b x = some o) : b = true ∧ x = some o := by
  cases b with
  | false => simp [z_ck] at h
  | true => simp [z_ck] at h; exact ⟨rfl, h⟩
def z_in (i : Int32) (n : Nat) : Bool := !(decide (i < 0) || decide (n ≤ i.toNatClampNeg))
theorem z_inE {i : Int32} {n : Nat} (h : z_in i n = true) : vp_in i n := by
  unfold vp_in
  intro q
  unfold z_in at h
  rcases q with q | q
  · simp [q] at h
  · simp [q] at h
def z_nz (i : Int32) : Bool := !decide (i = 0)
theorem z_nzE {i : Int32} (h : z_nz i = true) : ¬ i = 0 := by
  intro q
  simp [z_nz, q] at h
def z_nzL (i : Int64) : Bool := !decide (i = 0)
theorem z_nzLE {i : Int64} (h : z_nzL i = true) : ¬ i = 0 := by
  intro q
  simp [z_nzL, q] at h
def z_bo (r : Int32) : Bool := decide (r = 0) || decide (r = 1)
theorem z_boE {r : Int32} (h : z_bo r = true) : narrow .boolean (.int r) = .int r := by
  unfold z_bo at h
  by_cases h0 : r = 0
  · rw [h0]; rfl
  · by_cases h1 : r = 1
    · rw [h1]; rfl
    · simp [h0, h1] at h
theorem z_bE {α β : Type} {x : Option α} {f : α → Option β} {o : β} (h : x.bind f = some o) : ∃ y, x = some y ∧ f y = some o := by
  cases x with
  | none => cases h
  | some y => exact ⟨y, rfl, h⟩
def z_b2 {α β γ : Type} (x : Option (α × β)) (f : α → β → Option γ) : Option γ := x.bind fun y => f y.1 y.2
theorem z_b2E {α β γ : Type} {x : Option (α × β)} {f : α → β → Option γ} {o : γ} (h : z_b2 x f = some o) : ∃ y u, x = some (y, u) ∧ f y u = some o := by
  cases x with
  | none => cases h
  | some y => exact ⟨y.1, y.2, rfl, h⟩
theorem z_ifT {α : Type} {c : Prop} [Decidable c] {x y : Option α} {o : α} (h : (if c then x else y) = some o) (hc : c) : x = some o := by
  rw [if_pos hc] at h; exact h
theorem z_ifF {α : Type} {c : Prop} [Decidable c] {x y : Option α} {o : α} (h : (if c then x else y) = some o) (hc : ¬ c) : y = some o := by
  rw [if_neg hc] at h; exact h
/-- a number put into a row -/
def z_u2 (g : z_R) (i j : Nat) (x : Int32) : z_R := fun a => if a = i then upd (g i) j x else g a
def z_u3 (G : Nat → z_R) (k : Nat) (g : z_R) : Nat → z_R := fun a => if a = k then g else G a

def z_st (c : Nat → ClassId) (a : Nat → Nat) (g : z_R) : va_W := [(a 0, .inr (2, [.int (g 0 0), .int (g 0 1), .int (g 0 2), .int (g 0 3), .ref (a 1), .ref (a 2), .ref (a 3), .ref (a 4), .ref (a 5), .ref (a 6), .ref (a 7), .ref (a 8), .ref (a 9), .ref (a 10), .ref (a 11), .ref (a 12)])), (a 1, .inl (c 0, 16, .inl (g 1))), (a 2, .inl (c 0, 16, .inl (g 2))), (a 3, .inl (c 0, 16, .inl (g 3))), (a 4, .inl (c 0, 16, .inl (g 4))), (a 5, .inl (c 0, 16, .inl (g 5))), (a 6, .inl (c 0, 16, .inl (g 6))), (a 7, .inl (c 0, 16, .inl (g 7))), (a 8, .inl (c 0, 16, .inl (g 8))), (a 9, .inl (c 0, 16, .inl (g 9))), (a 10, .inl (c 0, 4, .inl (g 10))), (a 11, .inl (c 0, 4, .inl (g 11))), (a 12, .inr (0, [.ref (a 13), .ref (a 14), .ref (a 15), .int (g 0 4)])), (a 13, .inl (c 0, 256, .inl (g 13))), (a 14, .inl (c 0, 256, .inl (g 14))), (a 15, .inl (c 0, 256, .inl (g 15)))]
def z_md (c : Nat → ClassId) (a : Nat → Nat) (g : z_R) : va_W := [(a 0, .inr (5, [.int (g 0 0), .ref (a 1), .ref (a 2), .ref (a 3), .ref (a 4), .ref (a 5), .int (g 0 1), .ref (a 6), .ref (a 7), .ref (a 8), .int (g 0 2), .ref (a 9), .int (g 0 3)])), (a 1, .inl (c 0, 925, .inl (g 1))), (a 2, .inl (c 0, 925, .inl (g 2))), (a 3, .inl (c 0, 925, .inl (g 3))), (a 4, .inl (c 0, 925, .inl (g 4))), (a 5, .inl (c 0, 12950, .inl (g 5))), (a 6, .inl (c 0, 1850, .inl (g 6))), (a 7, .inl (c 0, 2, .inl (g 7))), (a 8, .inl (c 0, 160, .inl (g 8))), (a 9, .inl (c 0, 16, .inl (g 9)))]
def z_tx (c : Nat → ClassId) (a : Nat → Nat) (g : z_R) : va_W := [(a 0, .inr (3, [.ref (a 1), .int (g 0 0)])), (a 1, .inl (c 0, 160, .inl (g 1)))]
def z_jp (c : Nat → ClassId) (a : Nat → Nat) (g : z_R) : va_W := [(a 12, .inr (0, [.ref (a 13), .ref (a 14), .ref (a 15), .int (g 0 4)])), (a 13, .inl (c 0, 256, .inl (g 13))), (a 14, .inl (c 0, 256, .inl (g 14))), (a 15, .inl (c 0, 256, .inl (g 15)))]
def z_ty (c : Nat → ClassId) : List (ClassId × FieldType) := [(c 0, .int), (c 1, .boolean), (c 2, .object "ProgramDrum$State"), (c 3, .int)]
def z_nF : List (String × Nat × String × String × String × String) := [(RX4, 114, "ProgramDrum$Jumps", "size", "I", "ProgramDrum"), (RX4, 84, "ProgramDrum$State", "places", "I", "ProgramDrum"), (RX4, 80, "ProgramDrum$State", "count", "I", "ProgramDrum"), (RX4, 87, "ProgramDrum$State", "tick", "I", "ProgramDrum"), (RX4, 119, "ProgramDrum$State", "lastEnd", "I", "ProgramDrum"), (RX4, 133, "ProgramDrum$State", "author", "[I", "ProgramDrum"), (RX4, 136, "ProgramDrum$State", "work", "[I", "ProgramDrum"), (RX4, 139, "ProgramDrum$State", "next", "[I", "ProgramDrum"), (RX4, 142, "ProgramDrum$State", "expects", "[I", "ProgramDrum"), (RX4, 145, "ProgramDrum$State", "bribe", "[I", "ProgramDrum"), (RX4, 148, "ProgramDrum$State", "place", "[I", "ProgramDrum"), (RX4, 151, "ProgramDrum$State", "delay", "[I", "ProgramDrum"), (RX4, 107, "ProgramDrum$State", "open", "[I", "ProgramDrum"), (RX4, 154, "ProgramDrum$State", "lastWait", "[I", "ProgramDrum"), (RX4, 96, "ProgramDrum$State", "paid", "[I", "ProgramDrum"), (RX4, 104, "ProgramDrum$State", "refunded", "[I", "ProgramDrum"), (RX4, 110, "ProgramDrum$State", "jumps", "LProgramDrum$Jumps;", "ProgramDrum")]
def z_nM : List (String × Nat × MethodName × String) := [(RX4, 9, yX3_init, "ProgramDrum"), (RX4, 18, yX2_init, "ProgramDrum"), (RX2, 54, yX0_init, "ProgramDrum"), (RX1, 17, yX2_init, "ProgramDrum"), (RX2, 100, yX4_isAuthor, "ProgramDrum")]
def z_NW (U : State) : Prop := (∀ q ∈ z_nF, va_Nw (.fieldLinkNest q.1 q.2.1 q.2.2.1 q.2.2.2.1 q.2.2.2.2.1 q.2.2.2.2.2) U) ∧ ∀ q ∈ z_nM, va_Nw (.methodLinkNest q.1 q.2.1 q.2.2.1 q.2.2.2) U
theorem z_NW.moved {u U : State} (hW : u.WarmedH U.vm) (h : z_NW u) : z_NW U := ⟨fun q hq => va_Nw.warmF hW (h.1 q hq), fun q hq => va_Nw.warmM hW (h.2 q hq)⟩
theorem z_NW.same {u U : State} (e : u.vm = U.vm) (h : z_NW u) : z_NW U := ⟨fun q hq => va_Nw.same rfl e (h.1 q hq), fun q hq => va_Nw.same rfl e (h.2 q hq)⟩
def z_K (D : va_G) (c : Nat → ClassId) (U : State) : Prop := va_K D vwCl (z_ty c) U ∧ z_NW U
theorem z_K.moved {D : va_G} {c : Nat → ClassId} {u U : State} (hW : u.WarmedH U.vm) (h : z_K D c u) : z_K D c U := ⟨va_K.moved hW.alike h.1, h.2.moved hW⟩
theorem z_K.same {D : va_G} {c : Nat → ClassId} {u U : State} (e : u.vm = U.vm) (h : z_K D c u) : z_K D c U := ⟨va_K.moved (by rw [← e]; exact Vm.Alike.refl u.vm) h.1, h.2.same e⟩
abbrev z_Pc (D : va_G) (c : Nat → ClassId) (sz : Nat) (V : va_W) (av : List Value) : Array Value → State → Prop := va_Pc av (fun U => U.heap.size = sz ∧ va_P D vwCl V U.heap ∧ z_K D c U ∧ va_D (fun _ => True) V)
theorem z_bl {D : va_G} {c : Nat → ClassId} {sz : Nat} {V : va_W} {av : List Value} : FrameBlind (z_Pc D c sz V av) := fun a U g mk q => by
  obtain ⟨q0, q1, qP, qK, qD⟩ := q
  exact ⟨q0, q1, qP, z_K.same (u := U) (U := U.calling g mk a) rfl qK, qD⟩
theorem z_pre {D : va_G} {c : Nat → ClassId} {V : va_W} {av : List Value} {s : State} {H : Heap} {A : Nat → Prop} (hP : va_P D vwCl V H) (hK : z_K D c s) (hD : va_D A V) : ∀ U : State, U.heap = H → s.WarmedH U.vm → z_Pc D c H.size V av av.toArray U := fun U hU hW => ⟨rfl, by rw [hU], by rw [hU]; exact hP, hK.moved hW, hD.weaken (fun _ _ _ _ => trivial)⟩
/-- the world behind a method: of the form wf, with the value u -/
abbrev z_B (D : va_G) {S : Type} (wf : S → va_W) (A : Nat → Prop) (u : S) (t : State) : Prop := va_P D vwCl (wf u) t.heap ∧ va_D A (wf u)
/-- a method that answers r0 and leaves the value g0 -/
abbrev z_Qi (D : va_G) {S : Type} (wf : S → va_W) (r0 : Int32) (g0 : S) (A : Nat → Prop) : Array Value → State → Outcome → State → Prop := va_Qi (fun r u => r = r0 ∧ u = g0) (z_B D wf A) A
abbrev z_Qv (D : va_G) {S : Type} (wf : S → va_W) (g0 : S) (A : Nat → Prop) : Array Value → State → Outcome → State → Prop := va_Qv (fun u => u = g0) (z_B D wf A) A
theorem z_ofF {l : Launch} {y : MethodName} {ws ws' : List Cond} {rm : Room} {Pc : Array Value → State → Prop} {Qc : Array Value → State → Outcome → State → Prop} {mc ms : Nat} {free : Addr → Prop} {cc : ByteArray} {maxL : Nat} {ret : Option FieldType}
    (hy : plainFor y = true) (hw : ws = Cond.code y cc maxL ret :: ws')
    (body : ∀ p e s m args below meth co s₁, BodyLoose p l y (headSpec ws rm) cc maxL ret e s m args below meth co s₁ → co.maxLocals = maxL → Pc args s →
      W p l e (headSpec ws rm).room s m args below meth co s.heap [] 0 0 (MQ below Qc args s mc ms free) (entryFrame m args maxL)) : Met l y ws rm Pc Qc mc ms free := by
  refine MetFree.of_bodyRF (code := cc) (maxLocals := maxL) (ret := ret) hy ?_ ?_
  · intro args s m h hn
    obtain ⟨meth, co, h1, h2, h3, h4, h5, h6, -, -⟩ := Cond.code_spec hn (atoms_spec (ws := ws) h _ (by rw [hw]; exact List.mem_cons_self))
    exact ⟨meth, co, h1, h2, h3, h4, h5, h6⟩
  · intro p e s m args below meth co s₁ B hml hP _ hst
    have hh0 : s₁.heap = s.heap := by rw [B.state]; rfl
    obtain ⟨t, a1, o, b1, b2, b3⟩ := body p e s m args below meth co s₁ B hml hP s₁ hh0 (Stand.of_body B)
    exact ⟨t, o, hst.trans a1, b1, b2, ⟨b3.1, b3.2⟩⟩
theorem z_ofM {l : Launch} {y : MethodName} {ws ws' : List Cond} {rm : Room} {D : va_G} {c : Nat → ClassId} {sz : Nat} {V : va_W} {av : List Value} {Qf : (Nat → Prop) → Array Value → State → Outcome → State → Prop} {cc : ByteArray} {maxL mc ms : Nat} {ret : Option FieldType}
    (hy : plainFor y = true) (hw : ws = Cond.code y cc maxL ret :: ws') (hn : (lg_sl av).length ≤ maxL)
    (body : ∀ (p : Program) (e : Env) (s : State) (m : MethodId) (args : Array Value) (below : List Frame) (meth : Method) (co : Code) (A : Nat → Prop) (ls : Array Slot), p.tables.exec = Jvm.exec → co.code = cc → meth.sig.returnType = ret → co.maxLocals = maxL → (∀ w ∈ ws, w.before args s = true) → s.vm.findClass y.cls = some m.cls → meth.locks = false → meth.name = y.name → (∀ q : Nat, s.heap.size ≤ q → A q) → va_P D vwCl V s.heap → z_K D c s → va_D A V → lv_has ls maxL (lv_args 0 av) → s.heap.size = sz →
      W p l e rm s m args below meth co s.heap [] 0 0 (MQ below (Qf A) args s mc ms A) (F0 m 0 ls [])) :
    Met l y ws rm (z_Pc D c sz V av) (Qf (va_A V sz)) mc ms (va_A V sz) := by
  refine z_ofF (cc := cc) (maxL := maxL) (ret := ret) hy hw ?_
  intro p e s m args below meth co s₁ B hml hv
  obtain ⟨rfl, hsz, hP, hK, hD0⟩ := hv
  have hts := atoms_spec (ws := ws) B.pre
  have hown : s.vm.findClass y.cls = some m.cls := findClass_of_methodNamed B.named
  have hin : meth.name = y.name := (name_of_methodNamed B.named B.method).1
  have hl := lv_entry av (n := maxL) hn
  rw [lg_entry_eq]
  exact body p e s m _ below meth co (va_A V sz) _ B.exec B.bytes B.returns hml hts hown B.notSynchronized hin (fun q h => Or.inr (by rw [← hsz]; exact h)) hP hK hD0.self hl hsz
section ZZ
variable {p : Program} {l : Launch} {e : Env} {R : Room} {s : State} {m : MethodId} {args : Array Value} {below : List Frame} {meth : Method} {co : Code} {H : Heap} {locs : List Loc} {cells slots : Nat} {Q : State → Prop}
variable {cc bytes : ByteArray} {pc nL maxL n index : Nat} {ls : Array Slot} {own C host : String} {y : MethodName} {ret : Option FieldType} {Ts ws : List Cond} {rm : Room} {As rest st0 : List Value} {b : Nat} {D : va_G} {c : Nat → ClassId} {A0 : Nat → Prop} {H0 : Heap}
theorem z_F {V : va_W} (hD : va_D A0 V) (hS : va_S A0 H0 H locs) (hA : ∀ q : Nat, H0.size ≤ q → A0 q) : ∀ q : Nat, va_A V H.size q → A0 q := by
  intro q h
  rcases h with ⟨k, e, h⟩ | h
  · exact hD.2 k (q, e) h
  · exact hA q (Nat.le_trans hS.1 h)
/-- the same world: an instance method that answers an int -/
theorem z_cVi {S : Type} {wf : S → va_W} {g u0 : S} {r0 : Int32} (S0 : CallFix p m co cc nL s args Ts own)
    (hM : Met l y ws rm (z_Pc D c H.size (wf g) (.ref b :: As)) (z_Qi D wf r0 u0 (va_A (wf g) H.size)) 0 0 (va_A (wf g) H.size))
    (cw : CallW R s args own C index y bytes maxL ret ws rm 0 0 n) (hP : va_P D vwCl (wf g) H) (hK : z_K D c s) (hD : va_D A0 (wf g)) (hS : va_S A0 H0 H locs) (hA : ∀ q : Nat, H0.size ≤ q → A0 q)
    {ci q0 : Nat} {q : vw_C} {fs : List Value} (hc : vwCl[ci]? = some q) (he : (wf g)[q0]? = some (b, .inr (ci, fs))) (hq : q.1 = C) (hn : As.length = n) (hsize : ls.size = nL) (hW : (rest.map fun v => v.category).sum ≤ 8) (hstack : st0 = As.reverse ++ .ref b :: rest) (hdg : decode cc pc = .ok (.invokevirtual index, 3)) (hf : cells + 0 ≤ R.cells ∧ slots + 0 ≤ R.slots)
    (kk : ∀ (H1 : Heap) (locs1 : List Loc), va_P D vwCl (wf u0) H1 → va_D A0 (wf u0) → va_S A0 H0 H1 locs1 → W p l e R s m args below meth co H1 locs1 cells slots Q (F0 m (pc + 3) ls (.int r0 :: rest))) : W p l e R s m args below meth co H locs cells slots Q (F0 m pc ls st0) := by
  have hF := z_F hD hS hA
  subst hq
  refine va_calli (va_runV (As := As) (rest := rest) S0 hM cw ⟨z_bl, va_recv hK.1 hP hc he, z_pre hP hK hD⟩ rfl hn hsize hstack (lv_room hW) hdg hf) hS (fun q _ h => hF q h) hF (fun r u t H1 locs1 ht hvm hw hB hz hk hS1 => ?_)
  obtain ⟨e1, e2⟩ := hw
  obtain ⟨hP1, hD1⟩ := hB
  rw [e2, ht] at hP1
  rw [e2] at hD1
  rw [e1]
  exact kk H1 locs1 hP1 (hD1.weaken (fun _ q _ h => hF q.1 h)) hS1
theorem z_cVv {S : Type} {wf : S → va_W} {g u0 : S} (S0 : CallFix p m co cc nL s args Ts own)
    (hM : Met l y ws rm (z_Pc D c H.size (wf g) (.ref b :: As)) (z_Qv D wf u0 (va_A (wf g) H.size)) 0 0 (va_A (wf g) H.size))
    (cw : CallW R s args own C index y bytes maxL ret ws rm 0 0 n) (hP : va_P D vwCl (wf g) H) (hK : z_K D c s) (hD : va_D A0 (wf g)) (hS : va_S A0 H0 H locs) (hA : ∀ q : Nat, H0.size ≤ q → A0 q)
    {ci q0 : Nat} {q : vw_C} {fs : List Value} (hc : vwCl[ci]? = some q) (he : (wf g)[q0]? = some (b, .inr (ci, fs))) (hq : q.1 = C) (hn : As.length = n) (hsize : ls.size = nL) (hW : (rest.map fun v => v.category).sum ≤ 8) (hstack : st0 = As.reverse ++ .ref b :: rest) (hdg : decode cc pc = .ok (.invokevirtual index, 3)) (hf : cells + 0 ≤ R.cells ∧ slots + 0 ≤ R.slots)
    (kk : ∀ (H1 : Heap) (locs1 : List Loc), va_P D vwCl (wf u0) H1 → va_D A0 (wf u0) → va_S A0 H0 H1 locs1 → W p l e R s m args below meth co H1 locs1 cells slots Q (F0 m (pc + 3) ls rest)) : W p l e R s m args below meth co H locs cells slots Q (F0 m pc ls st0) := by
  have hF := z_F hD hS hA
  subst hq
  refine va_callv (va_runV (As := As) (rest := rest) S0 hM cw ⟨z_bl, va_recv hK.1 hP hc he, z_pre hP hK hD⟩ rfl hn hsize hstack (lv_room hW) hdg hf) hS (fun q _ h => hF q h) hF (fun u t H1 locs1 ht hvm hw hB hz hk hS1 => ?_)
  obtain ⟨hP1, hD1⟩ := hB
  rw [hw, ht] at hP1
  rw [hw] at hD1
  exact kk H1 locs1 hP1 (hD1.weaken (fun _ q _ h => hF q.1 h)) hS1
theorem z_keep0 {V : va_W} {H1 : Heap} (hP : va_P D vwCl V H) (hk : ∀ q : Nat, q < H.size → ¬ va_A [] H.size q → H1[q]? = H[q]?) : va_P D vwCl V H1 := hP.kept fun k q hq => hk q.1 (hP k q hq).lt fun h => by
  rcases h with ⟨k2, e2, h⟩ | h
  · simp at h
  · exact absurd (hP k q hq).lt (Nat.not_lt.mpr h)
theorem z_D0 {A : Nat → Prop} : va_D A ([] : va_W) := ⟨fun i j p q h => by simp at h, fun k q h => by simp at h⟩
theorem z_P0 {H : Heap} : va_P D vwCl ([] : va_W) H := fun k q h => by simp at h
/-- no world: a static method of its own class that answers an int -/
theorem z_cSi {V : va_W} {r0 : Int32} (S0 : CallFix p m co cc nL s args Ts own)
    (hM : Met l y ws rm (z_Pc D c H.size [] As) (z_Qi D (fun _ : Unit => []) r0 () (va_A [] H.size)) 0 0 (va_A [] H.size))
    (cw : CallB R s args own index y bytes maxL ret ws rm 0 0 n ∧ (Cond.static y).before args s = true) (hP : va_P D vwCl V H) (hK : z_K D c s) (hS : va_S A0 H0 H locs) (hA : ∀ q : Nat, H0.size ≤ q → A0 q)
    (hn : As.length = n) (hsize : ls.size = nL) (hW : (rest.map fun v => v.category).sum ≤ 8) (hstack : st0 = As.reverse ++ rest) (hdg : decode cc pc = .ok (.invokestatic index, 3)) (hf : cells + 0 ≤ R.cells ∧ slots + 0 ≤ R.slots)
    (kk : ∀ (H1 : Heap) (locs1 : List Loc), va_P D vwCl V H1 → va_S A0 H0 H1 locs1 → W p l e R s m args below meth co H1 locs1 cells slots Q (F0 m (pc + 3) ls (.int r0 :: rest))) : W p l e R s m args below meth co H locs cells slots Q (F0 m pc ls st0) := by
  have hF := z_F (A0 := A0) (V := []) z_D0 hS hA
  refine va_calli (va_runS (As := As) (rest := rest) S0 hM cw ⟨z_bl, z_pre (A := A0) z_P0 hK z_D0⟩ rfl hn hsize hstack (lv_room hW) hdg hf) hS (fun q _ h => hF q h) hF (fun r u t H1 locs1 ht hvm hw hB hz hk hS1 => ?_)
  obtain ⟨e1, e2⟩ := hw
  rw [e1]
  exact kk H1 locs1 (z_keep0 hP hk) hS1
/-- no world: a static method of a nest mate that answers an int -/
theorem z_cNi {V : va_W} {r0 : Int32} (S0 : CallFix p m co cc nL s args Ts own)
    (hM : Met l y ws rm (z_Pc D c H.size [] As) (z_Qi D (fun _ : Unit => []) r0 () (va_A [] H.size)) 0 0 (va_A [] H.size))
    (cw : va_CN R s args own index y host bytes maxL ret ws rm 0 0 n ∧ (Cond.static y).before args s = true ∧ True) (hP : va_P D vwCl V H) (hK : z_K D c s) (hS : va_S A0 H0 H locs) (hA : ∀ q : Nat, H0.size ≤ q → A0 q)
    (hn : As.length = n) (hsize : ls.size = nL) (hW : (rest.map fun v => v.category).sum ≤ 8) (hstack : st0 = As.reverse ++ rest) (hdg : decode cc pc = .ok (.invokestatic index, 3)) (hf : cells + 0 ≤ R.cells ∧ slots + 0 ≤ R.slots)
    (kk : ∀ (H1 : Heap) (locs1 : List Loc), va_P D vwCl V H1 → va_S A0 H0 H1 locs1 → W p l e R s m args below meth co H1 locs1 cells slots Q (F0 m (pc + 3) ls (.int r0 :: rest))) : W p l e R s m args below meth co H locs cells slots Q (F0 m pc ls st0) := by
  have hF := z_F (A0 := A0) (V := []) z_D0 hS hA
  refine va_calli (va_runSN (As := As) (rest := rest) S0 hM cw ⟨z_bl, z_pre (A := A0) z_P0 hK z_D0⟩ rfl hn hsize hstack (lv_room hW) hdg hf) hS (fun q _ h => hF q h) hF (fun r u t H1 locs1 ht hvm hw hB hz hk hS1 => ?_)
  obtain ⟨e1, e2⟩ := hw
  rw [e1]
  exact kk H1 locs1 (z_keep0 hP hk) hS1
end ZZ
section ZR
variable {p : Program} {l : Launch} {e : Env} {R : Room} {s : State} {m : MethodId} {args : Array Value} {below : List Frame} {meth : Method} {co : Code} {H : Heap} {locs : List Loc}
variable {cc : ByteArray} {pc : Nat} {ls : Array Slot} {D : va_G} {A : Nat → Prop} {S : Type} {wf : S → va_W} {g g0 : S} {r r0 : Int32}
theorem z_ri (hx : p.tables.exec = Jvm.exec) (hb : co.code = cc) (hr : meth.sig.returnType = some .int) (hlocks : meth.locks = false) (hP : va_P D vwCl (wf g) H) (hD : va_D A (wf g)) (hS : va_S A s.heap H locs) (hf : some (r, g) = some (r0, g0)) (hdg : decode cc pc = .ok (.ireturn, 1)) : W p l e R s m args below meth co H locs 0 0 (MQ below (z_Qi D wf r0 g0 A) args s 0 0 A) (F0 m pc ls [.int r]) := by
  cases hf
  exact W.iret (v := r) hx hb hr (fun t ht _ => ⟨⟨r, g, rfl, ⟨rfl, rfl⟩, by rw [ht]; exact hP, hD⟩, hS.F ht⟩) hS.2.2 hdg hlocks
theorem z_rp (hx : p.tables.exec = Jvm.exec) (hb : co.code = cc) (hr : meth.sig.returnType = some .int) (hlocks : meth.locks = false) (hP : va_P D vwCl (wf g) H) (hD : va_D A (wf g)) (hS : va_S A s.heap H locs) (hf : some r = some r0) (hdg : decode cc pc = .ok (.ireturn, 1)) : W p l e R s m args below meth co H locs 0 0 (MQ below (z_Qi D wf r0 g A) args s 0 0 A) (F0 m pc ls [.int r]) := by
  cases hf
  exact W.iret (v := r) hx hb hr (fun t ht _ => ⟨⟨r, g, rfl, ⟨rfl, rfl⟩, by rw [ht]; exact hP, hD⟩, hS.F ht⟩) hS.2.2 hdg hlocks
theorem z_zi (hx : p.tables.exec = Jvm.exec) (hb : co.code = cc) (hr : meth.sig.returnType = some .boolean) (hn : narrow .boolean (.int r) = .int r) (hlocks : meth.locks = false) (hP : va_P D vwCl (wf g) H) (hD : va_D A (wf g)) (hS : va_S A s.heap H locs) (hf : some (r, g) = some (r0, g0)) (hdg : decode cc pc = .ok (.ireturn, 1)) : W p l e R s m args below meth co H locs 0 0 (MQ below (z_Qi D wf r0 g0 A) args s 0 0 A) (F0 m pc ls [.int r]) := by
  cases hf
  exact W.zret (v := r) hx hb hr hn (fun t ht _ => ⟨⟨r, g, rfl, ⟨rfl, rfl⟩, by rw [ht]; exact hP, hD⟩, hS.F ht⟩) hS.2.2 hdg hlocks
theorem z_zp (hx : p.tables.exec = Jvm.exec) (hb : co.code = cc) (hr : meth.sig.returnType = some .boolean) (hn : narrow .boolean (.int r) = .int r) (hlocks : meth.locks = false) (hP : va_P D vwCl (wf g) H) (hD : va_D A (wf g)) (hS : va_S A s.heap H locs) (hf : some r = some r0) (hdg : decode cc pc = .ok (.ireturn, 1)) : W p l e R s m args below meth co H locs 0 0 (MQ below (z_Qi D wf r0 g A) args s 0 0 A) (F0 m pc ls [.int r]) := by
  cases hf
  exact W.zret (v := r) hx hb hr hn (fun t ht _ => ⟨⟨r, g, rfl, ⟨rfl, rfl⟩, by rw [ht]; exact hP, hD⟩, hS.F ht⟩) hS.2.2 hdg hlocks
theorem z_rv (hx : p.tables.exec = Jvm.exec) (hb : co.code = cc) (hr : meth.sig.returnType = none) (hlocks : meth.locks = false) (hP : va_P D vwCl (wf g) H) (hD : va_D A (wf g)) (hS : va_S A s.heap H locs) (hf : some g = some g0) (hdg : decode cc pc = .ok (.return_, 1)) : W p l e R s m args below meth co H locs 0 0 (MQ below (z_Qv D wf g0 A) args s 0 0 A) (F0 m pc ls []) := by
  cases hf
  exact W.vret hx hb hr (fun t ht _ => ⟨⟨g, rfl, rfl, by rw [ht]; exact hP, hD⟩, hS.F ht⟩) hS.2.2 hdg hlocks
end ZR

def z_rr (c : Nat → ClassId) (x y n : Nat) (f h : Nat → Int32) : va_W := [(x, .inl (c 0, n, .inl f)), (y, .inl (c 0, n, .inl h))]
def z_cp (c : Nat → ClassId) (x y n k : Nat) (f h : Nat → Int32) : va_W := [(x, .inl (c 0, n, .inl f)), (y, .inl (c 0, k, .inl h))]
def z_r1 (c : Nat → ClassId) (x n : Nat) (f : Nat → Int32) : va_W := [(x, .inl (c 0, n, .inl f))]
def z_uR (g : z_R) (r : Nat) (u : Nat → Int32) : z_R := fun a => if a = r then u else g a
def z_rw (a : Nat → Nat) (i : Nat) : Option Nat := if i = 0 then none else some (a i)
theorem zF_X4_114 : ((RX4, 114, "ProgramDrum$Jumps", "size", "I", "ProgramDrum") : String × Nat × String × String × String × String) ∈ z_nF := by decide +kernel
theorem zF_X4_84 : ((RX4, 84, "ProgramDrum$State", "places", "I", "ProgramDrum") : String × Nat × String × String × String × String) ∈ z_nF := by decide +kernel
theorem zF_X4_80 : ((RX4, 80, "ProgramDrum$State", "count", "I", "ProgramDrum") : String × Nat × String × String × String × String) ∈ z_nF := by decide +kernel
theorem zF_X4_87 : ((RX4, 87, "ProgramDrum$State", "tick", "I", "ProgramDrum") : String × Nat × String × String × String × String) ∈ z_nF := by decide +kernel
theorem zF_X4_119 : ((RX4, 119, "ProgramDrum$State", "lastEnd", "I", "ProgramDrum") : String × Nat × String × String × String × String) ∈ z_nF := by decide +kernel
theorem zF_X4_133 : ((RX4, 133, "ProgramDrum$State", "author", "[I", "ProgramDrum") : String × Nat × String × String × String × String) ∈ z_nF := by decide +kernel
theorem zF_X4_136 : ((RX4, 136, "ProgramDrum$State", "work", "[I", "ProgramDrum") : String × Nat × String × String × String × String) ∈ z_nF := by decide +kernel
theorem zF_X4_139 : ((RX4, 139, "ProgramDrum$State", "next", "[I", "ProgramDrum") : String × Nat × String × String × String × String) ∈ z_nF := by decide +kernel
theorem zF_X4_142 : ((RX4, 142, "ProgramDrum$State", "expects", "[I", "ProgramDrum") : String × Nat × String × String × String × String) ∈ z_nF := by decide +kernel
theorem zF_X4_145 : ((RX4, 145, "ProgramDrum$State", "bribe", "[I", "ProgramDrum") : String × Nat × String × String × String × String) ∈ z_nF := by decide +kernel
theorem zF_X4_148 : ((RX4, 148, "ProgramDrum$State", "place", "[I", "ProgramDrum") : String × Nat × String × String × String × String) ∈ z_nF := by decide +kernel
theorem zF_X4_151 : ((RX4, 151, "ProgramDrum$State", "delay", "[I", "ProgramDrum") : String × Nat × String × String × String × String) ∈ z_nF := by decide +kernel
theorem zF_X4_107 : ((RX4, 107, "ProgramDrum$State", "open", "[I", "ProgramDrum") : String × Nat × String × String × String × String) ∈ z_nF := by decide +kernel
theorem zF_X4_154 : ((RX4, 154, "ProgramDrum$State", "lastWait", "[I", "ProgramDrum") : String × Nat × String × String × String × String) ∈ z_nF := by decide +kernel
theorem zF_X4_96 : ((RX4, 96, "ProgramDrum$State", "paid", "[I", "ProgramDrum") : String × Nat × String × String × String × String) ∈ z_nF := by decide +kernel
theorem zF_X4_104 : ((RX4, 104, "ProgramDrum$State", "refunded", "[I", "ProgramDrum") : String × Nat × String × String × String × String) ∈ z_nF := by decide +kernel
theorem zF_X4_110 : ((RX4, 110, "ProgramDrum$State", "jumps", "LProgramDrum$Jumps;", "ProgramDrum") : String × Nat × String × String × String × String) ∈ z_nF := by decide +kernel
theorem zM_X4_9 : ((RX4, 9, yX3_init, "ProgramDrum") : String × Nat × MethodName × String) ∈ z_nM := by decide +kernel
theorem zM_X4_18 : ((RX4, 18, yX2_init, "ProgramDrum") : String × Nat × MethodName × String) ∈ z_nM := by decide +kernel
theorem zM_X2_54 : ((RX2, 54, yX0_init, "ProgramDrum") : String × Nat × MethodName × String) ∈ z_nM := by decide +kernel
theorem zM_X1_17 : ((RX1, 17, yX2_init, "ProgramDrum") : String × Nat × MethodName × String) ∈ z_nM := by decide +kernel
theorem zM_X2_100 : ((RX2, 100, yX4_isAuthor, "ProgramDrum") : String × Nat × MethodName × String) ∈ z_nM := by decide +kernel
theorem z_sw0_2 {x : Int32} (c0 : ¬ x = (0 : Int32)) (c1 : ¬ x = (1 : Int32)) (c2 : ¬ x = (2 : Int32)) : x.toInt < 0 ∨ 2 < x.toInt := by
  have d0 : x.toInt ≠ 0 := fun h => c0 (Int32.toInt_inj.mp h)
  have d1 : x.toInt ≠ 1 := fun h => c1 (Int32.toInt_inj.mp h)
  have d2 : x.toInt ≠ 2 := fun h => c2 (Int32.toInt_inj.mp h)
  omega
theorem z_sw0_4 {x : Int32} (c0 : ¬ x = (0 : Int32)) (c1 : ¬ x = (1 : Int32)) (c2 : ¬ x = (2 : Int32)) (c3 : ¬ x = (3 : Int32)) (c4 : ¬ x = (4 : Int32)) : x.toInt < 0 ∨ 4 < x.toInt := by
  have d0 : x.toInt ≠ 0 := fun h => c0 (Int32.toInt_inj.mp h)
  have d1 : x.toInt ≠ 1 := fun h => c1 (Int32.toInt_inj.mp h)
  have d2 : x.toInt ≠ 2 := fun h => c2 (Int32.toInt_inj.mp h)
  have d3 : x.toInt ≠ 3 := fun h => c3 (Int32.toInt_inj.mp h)
  have d4 : x.toInt ≠ 4 := fun h => c4 (Int32.toInt_inj.mp h)
  omega
theorem z_sw0_6 {x : Int32} (c0 : ¬ x = (0 : Int32)) (c1 : ¬ x = (1 : Int32)) (c2 : ¬ x = (2 : Int32)) (c3 : ¬ x = (3 : Int32)) (c4 : ¬ x = (4 : Int32)) (c5 : ¬ x = (5 : Int32)) (c6 : ¬ x = (6 : Int32)) : x.toInt < 0 ∨ 6 < x.toInt := by
  have d0 : x.toInt ≠ 0 := fun h => c0 (Int32.toInt_inj.mp h)
  have d1 : x.toInt ≠ 1 := fun h => c1 (Int32.toInt_inj.mp h)
  have d2 : x.toInt ≠ 2 := fun h => c2 (Int32.toInt_inj.mp h)
  have d3 : x.toInt ≠ 3 := fun h => c3 (Int32.toInt_inj.mp h)
  have d4 : x.toInt ≠ 4 := fun h => c4 (Int32.toInt_inj.mp h)
  have d5 : x.toInt ≠ 5 := fun h => c5 (Int32.toInt_inj.mp h)
  have d6 : x.toInt ≠ 6 := fun h => c6 (Int32.toInt_inj.mp h)
  omega
theorem z_sw0_8 {x : Int32} (c0 : ¬ x = (0 : Int32)) (c1 : ¬ x = (1 : Int32)) (c2 : ¬ x = (2 : Int32)) (c3 : ¬ x = (3 : Int32)) (c4 : ¬ x = (4 : Int32)) (c5 : ¬ x = (5 : Int32)) (c6 : ¬ x = (6 : Int32)) (c7 : ¬ x = (7 : Int32)) (c8 : ¬ x = (8 : Int32)) : x.toInt < 0 ∨ 8 < x.toInt := by
  have d0 : x.toInt ≠ 0 := fun h => c0 (Int32.toInt_inj.mp h)
  have d1 : x.toInt ≠ 1 := fun h => c1 (Int32.toInt_inj.mp h)
  have d2 : x.toInt ≠ 2 := fun h => c2 (Int32.toInt_inj.mp h)
  have d3 : x.toInt ≠ 3 := fun h => c3 (Int32.toInt_inj.mp h)
  have d4 : x.toInt ≠ 4 := fun h => c4 (Int32.toInt_inj.mp h)
  have d5 : x.toInt ≠ 5 := fun h => c5 (Int32.toInt_inj.mp h)
  have d6 : x.toInt ≠ 6 := fun h => c6 (Int32.toInt_inj.mp h)
  have d7 : x.toInt ≠ 7 := fun h => c7 (Int32.toInt_inj.mp h)
  have d8 : x.toInt ≠ 8 := fun h => c8 (Int32.toInt_inj.mp h)
  omega
theorem z_sw0_9 {x : Int32} (c0 : ¬ x = (0 : Int32)) (c1 : ¬ x = (1 : Int32)) (c2 : ¬ x = (2 : Int32)) (c3 : ¬ x = (3 : Int32)) (c4 : ¬ x = (4 : Int32)) (c5 : ¬ x = (5 : Int32)) (c6 : ¬ x = (6 : Int32)) (c7 : ¬ x = (7 : Int32)) (c8 : ¬ x = (8 : Int32)) (c9 : ¬ x = (9 : Int32)) : x.toInt < 0 ∨ 9 < x.toInt := by
  have d0 : x.toInt ≠ 0 := fun h => c0 (Int32.toInt_inj.mp h)
  have d1 : x.toInt ≠ 1 := fun h => c1 (Int32.toInt_inj.mp h)
  have d2 : x.toInt ≠ 2 := fun h => c2 (Int32.toInt_inj.mp h)
  have d3 : x.toInt ≠ 3 := fun h => c3 (Int32.toInt_inj.mp h)
  have d4 : x.toInt ≠ 4 := fun h => c4 (Int32.toInt_inj.mp h)
  have d5 : x.toInt ≠ 5 := fun h => c5 (Int32.toInt_inj.mp h)
  have d6 : x.toInt ≠ 6 := fun h => c6 (Int32.toInt_inj.mp h)
  have d7 : x.toInt ≠ 7 := fun h => c7 (Int32.toInt_inj.mp h)
  have d8 : x.toInt ≠ 8 := fun h => c8 (Int32.toInt_inj.mp h)
  have d9 : x.toInt ≠ 9 := fun h => c9 (Int32.toInt_inj.mp h)
  omega
theorem z_sw1_9 {x : Int32} (c1 : ¬ x = (1 : Int32)) (c2 : ¬ x = (2 : Int32)) (c3 : ¬ x = (3 : Int32)) (c4 : ¬ x = (4 : Int32)) (c5 : ¬ x = (5 : Int32)) (c6 : ¬ x = (6 : Int32)) (c7 : ¬ x = (7 : Int32)) (c8 : ¬ x = (8 : Int32)) (c9 : ¬ x = (9 : Int32)) : x.toInt < 1 ∨ 9 < x.toInt := by
  have d1 : x.toInt ≠ 1 := fun h => c1 (Int32.toInt_inj.mp h)
  have d2 : x.toInt ≠ 2 := fun h => c2 (Int32.toInt_inj.mp h)
  have d3 : x.toInt ≠ 3 := fun h => c3 (Int32.toInt_inj.mp h)
  have d4 : x.toInt ≠ 4 := fun h => c4 (Int32.toInt_inj.mp h)
  have d5 : x.toInt ≠ 5 := fun h => c5 (Int32.toInt_inj.mp h)
  have d6 : x.toInt ≠ 6 := fun h => c6 (Int32.toInt_inj.mp h)
  have d7 : x.toInt ≠ 7 := fun h => c7 (Int32.toInt_inj.mp h)
  have d8 : x.toInt ≠ 8 := fun h => c8 (Int32.toInt_inj.mp h)
  have d9 : x.toInt ≠ 9 := fun h => c9 (Int32.toInt_inj.mp h)
  omega
theorem z_sw0_27 {x : Int32} (c0 : ¬ x = (0 : Int32)) (c1 : ¬ x = (1 : Int32)) (c2 : ¬ x = (2 : Int32)) (c3 : ¬ x = (3 : Int32)) (c4 : ¬ x = (4 : Int32)) (c5 : ¬ x = (5 : Int32)) (c6 : ¬ x = (6 : Int32)) (c7 : ¬ x = (7 : Int32)) (c8 : ¬ x = (8 : Int32)) (c9 : ¬ x = (9 : Int32)) (c10 : ¬ x = (10 : Int32)) (c11 : ¬ x = (11 : Int32)) (c12 : ¬ x = (12 : Int32)) (c13 : ¬ x = (13 : Int32)) (c14 : ¬ x = (14 : Int32)) (c15 : ¬ x = (15 : Int32)) (c16 : ¬ x = (16 : Int32)) (c17 : ¬ x = (17 : Int32)) (c18 : ¬ x = (18 : Int32)) (c19 : ¬ x = (19 : Int32)) (c20 : ¬ x = (20 : Int32)) (c21 : ¬ x = (21 : Int32)) (c22 : ¬ x = (22 : Int32)) (c23 : ¬ x = (23 : Int32)) (c24 : ¬ x = (24 : Int32)) (c25 : ¬ x = (25 : Int32)) (c26 : ¬ x = (26 : Int32)) (c27 : ¬ x = (27 : Int32)) : x.toInt < 0 ∨ 27 < x.toInt := by
  have d0 : x.toInt ≠ 0 := fun h => c0 (Int32.toInt_inj.mp h)
  have d1 : x.toInt ≠ 1 := fun h => c1 (Int32.toInt_inj.mp h)
  have d2 : x.toInt ≠ 2 := fun h => c2 (Int32.toInt_inj.mp h)
  have d3 : x.toInt ≠ 3 := fun h => c3 (Int32.toInt_inj.mp h)
  have d4 : x.toInt ≠ 4 := fun h => c4 (Int32.toInt_inj.mp h)
  have d5 : x.toInt ≠ 5 := fun h => c5 (Int32.toInt_inj.mp h)
  have d6 : x.toInt ≠ 6 := fun h => c6 (Int32.toInt_inj.mp h)
  have d7 : x.toInt ≠ 7 := fun h => c7 (Int32.toInt_inj.mp h)
  have d8 : x.toInt ≠ 8 := fun h => c8 (Int32.toInt_inj.mp h)
  have d9 : x.toInt ≠ 9 := fun h => c9 (Int32.toInt_inj.mp h)
  have d10 : x.toInt ≠ 10 := fun h => c10 (Int32.toInt_inj.mp h)
  have d11 : x.toInt ≠ 11 := fun h => c11 (Int32.toInt_inj.mp h)
  have d12 : x.toInt ≠ 12 := fun h => c12 (Int32.toInt_inj.mp h)
  have d13 : x.toInt ≠ 13 := fun h => c13 (Int32.toInt_inj.mp h)
  have d14 : x.toInt ≠ 14 := fun h => c14 (Int32.toInt_inj.mp h)
  have d15 : x.toInt ≠ 15 := fun h => c15 (Int32.toInt_inj.mp h)
  have d16 : x.toInt ≠ 16 := fun h => c16 (Int32.toInt_inj.mp h)
  have d17 : x.toInt ≠ 17 := fun h => c17 (Int32.toInt_inj.mp h)
  have d18 : x.toInt ≠ 18 := fun h => c18 (Int32.toInt_inj.mp h)
  have d19 : x.toInt ≠ 19 := fun h => c19 (Int32.toInt_inj.mp h)
  have d20 : x.toInt ≠ 20 := fun h => c20 (Int32.toInt_inj.mp h)
  have d21 : x.toInt ≠ 21 := fun h => c21 (Int32.toInt_inj.mp h)
  have d22 : x.toInt ≠ 22 := fun h => c22 (Int32.toInt_inj.mp h)
  have d23 : x.toInt ≠ 23 := fun h => c23 (Int32.toInt_inj.mp h)
  have d24 : x.toInt ≠ 24 := fun h => c24 (Int32.toInt_inj.mp h)
  have d25 : x.toInt ≠ 25 := fun h => c25 (Int32.toInt_inj.mp h)
  have d26 : x.toInt ≠ 26 := fun h => c26 (Int32.toInt_inj.mp h)
  have d27 : x.toInt ≠ 27 := fun h => c27 (Int32.toInt_inj.mp h)
  omega
theorem z_fm {α β : Type} {f : α → Option β} : ∀ {is : List α} {w : List β}, is.map f = w.map some → is.filterMap f = w
  | [], [], _ => rfl
  | [], b :: w, h => by simp at h
  | a :: is, [], h => by simp at h
  | a :: is, b :: w, h => by
    rw [List.map_cons, List.map_cons] at h
    injection h with h1 h2
    rw [List.filterMap_cons, h1, z_fm h2]
abbrev z_Qq (D : va_G) (a : Nat → Nat) {S : Type} (wf : S → va_W) (r0 : Nat) (g0 : S) (A : Nat → Prop) : Array Value → State → Outcome → State → Prop := va_Qq (fun r u => r = z_rw a r0 ∧ u = g0) (z_B D wf A) A
section ZC
variable {p : Program} {l : Launch} {e : Env} {R : Room} {s : State} {m : MethodId} {args : Array Value} {below : List Frame} {meth : Method} {co : Code} {H : Heap} {locs : List Loc} {cells slots : Nat} {Q : State → Prop}
variable {cc bytes : ByteArray} {pc nL maxL n index : Nat} {ls : Array Slot} {own C host : String} {y : MethodName} {ret : Option FieldType} {Ts ws : List Cond} {rm : Room} {As rest st0 : List Value} {b : Nat} {D : va_G} {c : Nat → ClassId} {A0 : Nat → Prop} {H0 : Heap}
theorem z_cVq {a : Nat → Nat} {S : Type} {wf : S → va_W} {g u0 : S} {r0 : Nat} (S0 : CallFix p m co cc nL s args Ts own)
    (hM : Met l y ws rm (z_Pc D c H.size (wf g) (.ref b :: As)) (z_Qq D a wf r0 u0 (va_A (wf g) H.size)) 0 0 (va_A (wf g) H.size))
    (cw : CallW R s args own C index y bytes maxL ret ws rm 0 0 n) (hP : va_P D vwCl (wf g) H) (hK : z_K D c s) (hD : va_D A0 (wf g)) (hS : va_S A0 H0 H locs) (hA : ∀ q : Nat, H0.size ≤ q → A0 q)
    {ci q0 : Nat} {q : vw_C} {fs : List Value} (hc : vwCl[ci]? = some q) (he : (wf g)[q0]? = some (b, .inr (ci, fs))) (hq : q.1 = C) (hn : As.length = n) (hsize : ls.size = nL) (hW : (rest.map fun v => v.category).sum ≤ 8) (hstack : st0 = As.reverse ++ .ref b :: rest) (hdg : decode cc pc = .ok (.invokevirtual index, 3)) (hf : cells + 0 ≤ R.cells ∧ slots + 0 ≤ R.slots)
    (kk : ∀ (H1 : Heap) (locs1 : List Loc), va_P D vwCl (wf u0) H1 → va_D A0 (wf u0) → va_S A0 H0 H1 locs1 → W p l e R s m args below meth co H1 locs1 cells slots Q (F0 m (pc + 3) ls (va_rf (z_rw a r0) :: rest))) : W p l e R s m args below meth co H locs cells slots Q (F0 m pc ls st0) := by
  have hF := z_F hD hS hA
  subst hq
  refine va_callq (va_runV (As := As) (rest := rest) S0 hM cw ⟨z_bl, va_recv hK.1 hP hc he, z_pre hP hK hD⟩ rfl hn hsize hstack (lv_room hW) hdg hf) hS (fun q _ h => hF q h) hF (fun r u t H1 locs1 ht hvm hw hB hz hk hS1 => ?_)
  obtain ⟨e1, e2⟩ := hw
  obtain ⟨hP1, hD1⟩ := hB
  rw [e2, ht] at hP1
  rw [e2] at hD1
  rw [e1]
  exact kk H1 locs1 hP1 (hD1.weaken (fun _ q _ h => hF q.1 h)) hS1
/-- a part of the world: a static method of its own class that answers nothing -/
theorem z_cSvC {V V' : va_W} {S : Type} {wf : S → va_W} {g u0 : S} (S0 : CallFix p m co cc nL s args Ts own)
    (hM : Met l y ws rm (z_Pc D c H.size (wf g) As) (z_Qv D wf u0 (va_A (wf g) H.size)) 0 0 (va_A (wf g) H.size))
    (cw : CallB R s args own index y bytes maxL ret ws rm 0 0 n ∧ (Cond.static y).before args s = true) (hP : va_P D vwCl V H) (hK : z_K D c s) (hD : va_D A0 V) (hS : va_S A0 H0 H locs) (hA : ∀ q : Nat, H0.size ≤ q → A0 q)
    (isC isR pm : List Nat) (hC : isC.map (fun i => V[i]?) = (wf g).map some) (hR : isR.map (fun i => V[i]?) = (isR.filterMap (fun i => V[i]?)).map some) (hnC : va_nd isC = true) (hnR : va_nd isR = true) (hdis : ∀ i ∈ isR, i ∉ isC) (hpm : va_nd pm = true)
    (hn : As.length = n) (hsize : ls.size = nL) (hW : (rest.map fun v => v.category).sum ≤ 8) (hstack : st0 = As.reverse ++ rest) (hdg : decode cc pc = .ok (.invokestatic index, 3)) (hf : cells + 0 ≤ R.cells ∧ slots + 0 ≤ R.slots)
    (hV : pm.map (fun i => (isR.filterMap (fun i => V[i]?) ++ wf u0)[i]?) = V'.map some)
    (kk : ∀ (H1 : Heap) (locs1 : List Loc), va_P D vwCl V' H1 → va_D A0 V' → va_S A0 H0 H1 locs1 → W p l e R s m args below meth co H1 locs1 cells slots Q (F0 m (pc + 3) ls rest)) : W p l e R s m args below meth co H locs cells slots Q (F0 m pc ls st0) := by
  have hPc := hP.sub (ws' := wf g) isC (z_fm hC)
  have hDc := hD.sub (ws' := wf g) isC hnC hC
  have hF := va_free (wc := wf g) hD hS hA isC hC
  refine va_callv (va_runS (As := As) (rest := rest) S0 hM cw ⟨z_bl, z_pre hPc hK hDc⟩ rfl hn hsize hstack (lv_room hW) hdg hf) hS (fun q _ h => hF q h) hF (fun u t H1 locs1 ht hvm hw hB hz hk hS1 => ?_)
  obtain ⟨hP1, hD1⟩ := hB
  rw [hw, ht] at hP1
  rw [hw] at hD1
  obtain ⟨hP2, hD2⟩ := va_join hP hD isC isR hC hR hnR hdis hk hF hP1 hD1
  exact kk H1 locs1 (hP2.sub pm (z_fm hV)) (hD2.sub pm hpm hV) hS1
end ZC
section ZA
variable {p : Program} {l : Launch} {e : Env} {R : Room} {s : State} {m : MethodId} {args : Array Value} {below : List Frame} {meth : Method} {co : Code} {H : Heap} {locs : List Loc}
variable {cc : ByteArray} {pc : Nat} {ls : Array Slot} {D : va_G} {A : Nat → Prop} {S : Type} {wf : S → va_W} {g g0 : S} {a : Nat → Nat} {i r0 : Nat} {rt : FieldType}
theorem z_ra (hx : p.tables.exec = Jvm.exec) (hb : co.code = cc) (hr : meth.sig.returnType = some rt) (hrt : (∃ n, rt = .object n) ∨ ∃ t, rt = .array t) (hv : va_rf (z_rw a i) = .null ∨ ∃ x, va_rf (z_rw a i) = .ref x) (hlocks : meth.locks = false) (hP : va_P D vwCl (wf g) H) (hD : va_D A (wf g)) (hS : va_S A s.heap H locs) (hf : some i = some r0) (hdg : decode cc pc = .ok (.areturn, 1)) : W p l e R s m args below meth co H locs 0 0 (MQ below (z_Qq D a wf r0 g A) args s 0 0 A) (F0 m pc ls [va_rf (z_rw a i)]) := by
  cases hf
  exact W.aret (v := va_rf (z_rw a i)) hx hb hr hrt hv (fun t ht _ => ⟨⟨z_rw a i, g, rfl, ⟨rfl, rfl⟩, by rw [ht]; exact hP, hD⟩, hS.F ht⟩) hS.2.2 hdg hlocks
end ZA
section ZL
variable {p : Program} {l : Launch} {e : Env} {R : Room} {s : State} {m : MethodId} {args : Array Value} {below : List Frame} {meth : Method} {co : Code} {H : Heap} {locs : List Loc} {cells slots : Nat} {Q : State → Prop}
variable {cc bytes : ByteArray} {pc nL maxL n index : Nat} {ls : Array Slot} {own C host : String} {y : MethodName} {ret : Option FieldType} {Ts ws : List Cond} {rm : Room} {As rest st0 : List Value} {b : Nat} {D : va_G} {c : Nat → ClassId} {A A0 : Nat → Prop} {H0 : Heap}
/-- an answer that is a long -/
abbrev z_Ql (D : va_G) {S : Type} (wf : S → va_W) (r0 : Int64) (g0 : S) (A : Nat → Prop) : Array Value → State → Outcome → State → Prop := va_Ql (fun r u => r = r0 ∧ u = g0) (z_B D wf A) A
theorem z_cSl {V : va_W} {r0 : Int64} (S0 : CallFix p m co cc nL s args Ts own)
    (hM : Met l y ws rm (z_Pc D c H.size [] As) (z_Ql D (fun _ : Unit => []) r0 () (va_A [] H.size)) 0 0 (va_A [] H.size))
    (cw : CallB R s args own index y bytes maxL ret ws rm 0 0 n ∧ (Cond.static y).before args s = true) (hP : va_P D vwCl V H) (hK : z_K D c s) (hS : va_S A0 H0 H locs) (hA : ∀ q : Nat, H0.size ≤ q → A0 q)
    (hn : As.length = n) (hsize : ls.size = nL) (hW : (rest.map fun v => v.category).sum ≤ 8) (hstack : st0 = As.reverse ++ rest) (hdg : decode cc pc = .ok (.invokestatic index, 3)) (hf : cells + 0 ≤ R.cells ∧ slots + 0 ≤ R.slots)
    (kk : ∀ (H1 : Heap) (locs1 : List Loc), va_P D vwCl V H1 → va_S A0 H0 H1 locs1 → W p l e R s m args below meth co H1 locs1 cells slots Q (F0 m (pc + 3) ls (.long r0 :: rest))) : W p l e R s m args below meth co H locs cells slots Q (F0 m pc ls st0) := by
  have hF := z_F (A0 := A0) (V := []) z_D0 hS hA
  refine va_calll (va_runS (As := As) (rest := rest) S0 hM cw ⟨z_bl, z_pre (A := A0) z_P0 hK z_D0⟩ rfl hn hsize hstack (lv_room hW) hdg hf) hS (fun q _ h => hF q h) hF (fun r u t H1 locs1 ht hvm hw hB hz hk hS1 => ?_)
  obtain ⟨e1, e2⟩ := hw
  rw [e1]
  exact kk H1 locs1 (z_keep0 hP hk) hS1
theorem z_lp {S : Type} {wf : S → va_W} {g : S} {r r0 : Int64} (hx : p.tables.exec = Jvm.exec) (hb : co.code = cc) (hr : meth.sig.returnType = some .long) (hlocks : meth.locks = false) (hP : va_P D vwCl (wf g) H) (hD : va_D A (wf g)) (hS : va_S A s.heap H locs) (hf : some r = some r0) (hdg : decode cc pc = .ok (.lreturn, 1)) : W p l e R s m args below meth co H locs 0 0 (MQ below (z_Ql D wf r0 g A) args s 0 0 A) (F0 m pc ls [.long r]) := by
  cases hf
  exact W.lret (v := r) hx hb hr (fun t ht _ => ⟨⟨r, g, rfl, ⟨rfl, rfl⟩, by rw [ht]; exact hP, hD⟩, hS.F ht⟩) hS.2.2 hdg hlocks
end ZL
end
section
/-! what the methods do, as functions: printed out of the bytecode by wip/whole/gen -/
def lX0_note_2 (N : Nat) (x1 : Int32) (x2 : Int32) (g : z_R) : Nat → Int32 → Option (z_R)
  | 0, _ => none
  | fu + 1, x3 => (if (g 0 4) ≤ x3 then
(if (256 : Int32) ≤ (g 0 4) then
some g
else
z_ck (z_in (g 0 4) 256) <|
z_lt (z_u2 g 13 ((g 0 4)).toNatClampNeg x1) fun g4 =>
z_ck (z_in (g4 0 4) 256) <|
z_lt (z_u2 g4 14 ((g4 0 4)).toNatClampNeg x2) fun g6 =>
z_ck (z_in (g6 0 4) 256) <|
z_lt (z_u2 g6 15 ((g6 0 4)).toNatClampNeg (1 : Int32)) fun g8 =>
z_lt (z_u2 g8 0 4 ((g8 0 4) + (1 : Int32))) fun g9 =>
some g9)
else
z_ck (z_in x3 256) <|
(if (g 13 (x3).toNatClampNeg) = x1 then
z_ck (z_in x3 256) <|
(if (g 14 (x3).toNatClampNeg) = x2 then
z_ck (z_in x3 256) <|
z_ck (z_in x3 256) <|
z_lt (z_u2 g 15 (x3).toNatClampNeg ((g 15 (x3).toNatClampNeg) + (1 : Int32))) fun g16 =>
some g16
else
(lX0_note_2 N x1 x2 g fu (x3 + (1 : Int32))))
else
(lX0_note_2 N x1 x2 g fu (x3 + (1 : Int32)))))
def fX0_note (N : Nat) (p1 : Int32) (p2 : Int32) (g : z_R) : Option (z_R) :=
(lX0_note_2 N p1 p2 g N (0 : Int32))
def fX0_number (N : Nat) (p1 : Int32) (p2 : Int32) (g : z_R) : Option Int32 :=
(if p1 < 0 then
some ((-1 : Int32))
else
(if p1 < (g 0 4) then
(if p2 = 0 then
z_ck (z_in p1 256) <|
some ((g 13 (p1).toNatClampNeg))
else
(if p2 = (1 : Int32) then
z_ck (z_in p1 256) <|
some ((g 14 (p1).toNatClampNeg))
else
z_ck (z_in p1 256) <|
some ((g 15 (p1).toNatClampNeg))))
else
some ((-1 : Int32))))
def lX0_copyFrom_2 (N : Nat) (h : z_R) : Nat → Int32 → z_R → Option (z_R)
  | 0, _, _ => none
  | fu + 1, x2, g => (if (h 0 4) ≤ x2 then
z_lt (z_u2 g 0 4 (h 0 4)) fun g2 =>
some g2
else
z_ck (z_in x2 256) <|
z_ck (z_in x2 256) <|
z_lt (z_u2 g 13 (x2).toNatClampNeg (h 13 (x2).toNatClampNeg)) fun g5 =>
z_ck (z_in x2 256) <|
z_ck (z_in x2 256) <|
z_lt (z_u2 g5 14 (x2).toNatClampNeg (h 14 (x2).toNatClampNeg)) fun g8 =>
z_ck (z_in x2 256) <|
z_ck (z_in x2 256) <|
z_lt (z_u2 g8 15 (x2).toNatClampNeg (h 15 (x2).toNatClampNeg)) fun g11 =>
(lX0_copyFrom_2 N h fu (x2 + (1 : Int32)) g11))
def fX0_copyFrom (N : Nat) (h : z_R) (g : z_R) : Option (z_R) :=
(lX0_copyFrom_2 N h N (0 : Int32) g)
def lX2_reset_57 (N : Nat) : Nat → Int32 → z_R → Option (z_R)
  | 0, _, _ => none
  | fu + 1, x2, g => (if (16 : Int32) ≤ x2 then
some g
else
z_ck (z_in x2 16) <|
z_lt (z_u2 g 8 (x2).toNatClampNeg (0 : Int32)) fun g9 =>
(lX2_reset_57 N fu (x2 + (1 : Int32)) g9))
def lX2_reset_30 (N : Nat) : Nat → Int32 → z_R → Option (z_R)
  | 0, _, _ => none
  | fu + 1, x2, g => (if (4 : Int32) ≤ x2 then
(lX2_reset_57 N N (0 : Int32) g)
else
z_ck (z_in x2 4) <|
z_lt (z_u2 g 10 (x2).toNatClampNeg (0 : Int32)) fun g11 =>
z_ck (z_in x2 4) <|
z_lt (z_u2 g11 11 (x2).toNatClampNeg (0 : Int32)) fun g13 =>
(lX2_reset_30 N fu (x2 + (1 : Int32)) g13))
def fX2_reset (N : Nat) (p1 : Int32) (g : z_R) : Option (z_R) :=
z_lt (z_u2 g 0 0 p1) fun g1 =>
z_lt (z_u2 g1 0 1 (0 : Int32)) fun g2 =>
z_lt (z_u2 g2 0 2 (0 : Int32)) fun g3 =>
z_lt (z_u2 g3 0 3 (-1 : Int32)) fun g4 =>
z_lt (z_u2 g4 0 4 (0 : Int32)) fun g5 =>
(lX2_reset_30 N N (0 : Int32) g5)
def lX2_copyRow_2 (N : Nat) (ln : Nat) (f : Nat → Int32) : Nat → Int32 → (Nat → Int32) → Option ((Nat → Int32))
  | 0, _, _ => none
  | fu + 1, x2, h => (if (Int32.ofNat ln) ≤ x2 then
some h
else
(if (Int32.ofNat ln) ≤ x2 then
some h
else
z_ck (z_in x2 ln) <|
z_ck (z_in x2 ln) <|
z_lt (upd h (x2).toNatClampNeg (f (x2).toNatClampNeg)) fun h5 =>
(lX2_copyRow_2 N ln f fu (x2 + (1 : Int32)) h5)))
def fX2_copyRow (N : Nat) (ln : Nat) (f : Nat → Int32) (h : (Nat → Int32)) : Option ((Nat → Int32)) :=
(lX2_copyRow_2 N ln f N (0 : Int32) h)
def fX2_copyFrom (N : Nat) (h : z_R) (g : z_R) : Option (z_R) :=
z_lt (z_u2 g 0 0 (h 0 0)) fun g1 =>
z_lt (z_u2 g1 0 1 (h 0 1)) fun g2 =>
z_lt (z_u2 g2 0 2 (h 0 2)) fun g3 =>
z_lt (z_u2 g3 0 3 (h 0 3)) fun g4 =>
(fX2_copyRow N 16 (h 1)  (g4 1)).bind fun u5 =>
z_lt (z_uR g4 1 u5) fun g5 =>
(fX2_copyRow N 16 (h 2)  (g5 2)).bind fun u6 =>
z_lt (z_uR g5 2 u6) fun g6 =>
(fX2_copyRow N 16 (h 3)  (g6 3)).bind fun u7 =>
z_lt (z_uR g6 3 u7) fun g7 =>
(fX2_copyRow N 16 (h 4)  (g7 4)).bind fun u8 =>
z_lt (z_uR g7 4 u8) fun g8 =>
(fX2_copyRow N 16 (h 5)  (g8 5)).bind fun u9 =>
z_lt (z_uR g8 5 u9) fun g9 =>
(fX2_copyRow N 16 (h 6)  (g9 6)).bind fun u10 =>
z_lt (z_uR g9 6 u10) fun g10 =>
(fX2_copyRow N 16 (h 7)  (g10 7)).bind fun u11 =>
z_lt (z_uR g10 7 u11) fun g11 =>
(fX2_copyRow N 16 (h 8)  (g11 8)).bind fun u12 =>
z_lt (z_uR g11 8 u12) fun g12 =>
(fX2_copyRow N 16 (h 9)  (g12 9)).bind fun u13 =>
z_lt (z_uR g12 9 u13) fun g13 =>
(fX2_copyRow N 4 (h 10)  (g13 10)).bind fun u14 =>
z_lt (z_uR g13 10 u14) fun g14 =>
(fX2_copyRow N 4 (h 11)  (g14 11)).bind fun u15 =>
z_lt (z_uR g14 11 u15) fun g15 =>
(fX0_copyFrom N h  g15).bind fun g16 =>
some g16
def fX2_has (N : Nat) (p1 : Int32) (g : z_R) : Option Int32 :=
(if p1 < 0 then
some ((0 : Int32))
else
(if (g 0 1) ≤ p1 then
some ((0 : Int32))
else
(if (16 : Int32) ≤ p1 then
some ((0 : Int32))
else
some ((1 : Int32)))))
def fX2_hasPlace (N : Nat) (p1 : Int32) (g : z_R) : Option Int32 :=
(if p1 < 0 then
some ((0 : Int32))
else
(if (g 0 0) ≤ p1 then
some ((0 : Int32))
else
some ((1 : Int32))))
def fX2_isOnDrum (N : Nat) (p1 : Int32) (g : z_R) : Option Int32 :=
(fX2_has N p1 g).bind fun r1 =>
(if r1 = 0 then
some ((0 : Int32))
else
z_ck (z_in p1 16) <|
(if (g 6 (p1).toNatClampNeg) = (-1 : Int32) then
some ((0 : Int32))
else
some ((1 : Int32))))
def fJ9_floorMod_7cf53 (N : Nat) (p0 : Int32) (p1 : Int32) : Option Int32 :=
z_ck (z_nz p1) <|
(if 0 ≤ (p0 ^^^ p1) then
some ((p0 - p0 / p1 * p1))
else
(if (p0 - p0 / p1 * p1) = 0 then
some ((p0 - p0 / p1 * p1))
else
some (((p0 - p0 / p1 * p1) + p1))))
def fX2_around (N : Nat) (p1 : Int32) (g : z_R) : Option Int32 :=
(if (g 0 0) ≤ 0 then
some ((0 : Int32))
else
(fJ9_floorMod_7cf53 N p1 (g 0 0)).bind fun r2 =>
some (r2))
def lX2_laidOrders_4 (N : Nat) (g : z_R) : Nat → Int32 → Int32 → Option Int32
  | 0, _, _ => none
  | fu + 1, x1, x2 => (if (16 : Int32) ≤ x2 then
some (x1)
else
(fX2_has N x2 g).bind fun r2 =>
(if r2 = 0 then
some (x1)
else
z_ck (z_in x2 16) <|
(if (g 6 (x2).toNatClampNeg) = (-1 : Int32) then
(lX2_laidOrders_4 N g fu x1 (x2 + (1 : Int32)))
else
(lX2_laidOrders_4 N g fu (x1 + (1 : Int32)) (x2 + (1 : Int32))))))
def fX2_laidOrders (N : Nat) (g : z_R) : Option Int32 :=
(lX2_laidOrders_4 N g N (0 : Int32) (0 : Int32))
def lX2_ordersOf_4 (N : Nat) (x1 : Int32) (g : z_R) : Nat → Int32 → Int32 → Option Int32
  | 0, _, _ => none
  | fu + 1, x2, x3 => (if (16 : Int32) ≤ x3 then
some (x2)
else
(fX2_has N x3 g).bind fun r2 =>
(if r2 = 0 then
some (x2)
else
z_ck (z_in x3 16) <|
(if (g 1 (x3).toNatClampNeg) = x1 then
(lX2_ordersOf_4 N x1 g fu (x2 + (1 : Int32)) (x3 + (1 : Int32)))
else
(lX2_ordersOf_4 N x1 g fu x2 (x3 + (1 : Int32))))))
def fX2_ordersOf (N : Nat) (p1 : Int32) (g : z_R) : Option Int32 :=
(lX2_ordersOf_4 N p1 g N (0 : Int32) (0 : Int32))
def lX2_orderOn_2 (N : Nat) (x1 : Int32) (g : z_R) : Nat → Int32 → Option Int32
  | 0, _ => none
  | fu + 1, x2 => (if (16 : Int32) ≤ x2 then
some ((-1 : Int32))
else
(fX2_has N x2 g).bind fun r2 =>
(if r2 = 0 then
some ((-1 : Int32))
else
z_ck (z_in x2 16) <|
(if (g 6 (x2).toNatClampNeg) = x1 then
some (x2)
else
(lX2_orderOn_2 N x1 g fu (x2 + (1 : Int32))))))
def fX2_orderOn (N : Nat) (p1 : Int32) (g : z_R) : Option Int32 :=
(lX2_orderOn_2 N p1 g N (0 : Int32))
def fX2_isFreeFor (N : Nat) (p1 : Int32) (p2 : Int32) (g : z_R) : Option Int32 :=
(fX2_orderOn N p2 g).bind fun r1 =>
(if r1 = (-1 : Int32) then
some ((1 : Int32))
else
(if r1 = p1 then
some ((1 : Int32))
else
some ((0 : Int32))))
def lX2_chainLength_7 (N : Nat) (g : z_R) : Nat → Int32 → Int32 → Int32 → Option Int32
  | 0, _, _, _ => none
  | fu + 1, x2, x3, x4 => (if (16 : Int32) ≤ x3 then
some (x3)
else
(fX2_has N x4 g).bind fun r2 =>
(if r2 = 0 then
some (x3)
else
(if ((x2 >>> (x4 &&& 31)) &&& (1 : Int32)) = 0 then
z_ck (z_in x4 16) <|
(lX2_chainLength_7 N g fu (x2 ||| ((1 : Int32) <<< (x4 &&& 31))) (x3 + (1 : Int32)) (g 3 (x4).toNatClampNeg))
else
some (x3))))
def fX2_chainLength (N : Nat) (p1 : Int32) (g : z_R) : Option Int32 :=
(lX2_chainLength_7 N g N (0 : Int32) (0 : Int32) p1)
def lX2_ringLength_4 (N : Nat) (g : z_R) (k : Int32 → Option Int32) : Nat → Int32 → Int32 → Option Int32
  | 0, _, _ => none
  | fu + 1, x2, x3 => (if (16 : Int32) ≤ x3 then
(k x2)
else
(fX2_has N x2 g).bind fun r2 =>
(if r2 = 0 then
(k x2)
else
z_ck (z_in x2 16) <|
(lX2_ringLength_4 N g k fu (g 3 (x2).toNatClampNeg) (x3 + (1 : Int32)))))
def fX2_ringLength (N : Nat) (p1 : Int32) (g : z_R) : Option Int32 :=
(lX2_ringLength_4 N g (fun x2_4 => (fX2_has N x2_4 g).bind fun r5 =>
(if r5 = 0 then
some ((0 : Int32))
else
(fX2_chainLength N x2_4 g).bind fun r7 =>
some (r7))) N p1 (0 : Int32))
def fX2_addNew (N : Nat) (p1 : Int32) (p2 : Int32) (p3 : Int32) (p4 : Int32) (p5 : Int32) (g : z_R) : Option (Int32 × z_R) :=
(if (g 0 1) < 0 then
some ((-1 : Int32), g)
else
(if (g 0 1) < (16 : Int32) then
z_ck (z_in (g 0 1) 16) <|
z_lt (z_u2 g 1 ((g 0 1)).toNatClampNeg p1) fun g4 =>
z_ck (z_in (g 0 1) 16) <|
z_lt (z_u2 g4 2 ((g 0 1)).toNatClampNeg p2) fun g6 =>
z_ck (z_in (g 0 1) 16) <|
z_lt (z_u2 g6 3 ((g 0 1)).toNatClampNeg p3) fun g8 =>
z_ck (z_in (g 0 1) 16) <|
z_lt (z_u2 g8 4 ((g 0 1)).toNatClampNeg p4) fun g10 =>
z_ck (z_in (g 0 1) 16) <|
z_lt (z_u2 g10 5 ((g 0 1)).toNatClampNeg p5) fun g12 =>
z_ck (z_in (g 0 1) 16) <|
z_lt (z_u2 g12 6 ((g 0 1)).toNatClampNeg (-1 : Int32)) fun g14 =>
z_ck (z_in (g 0 1) 16) <|
z_lt (z_u2 g14 7 ((g 0 1)).toNatClampNeg (-1 : Int32)) fun g16 =>
z_ck (z_in (g 0 1) 16) <|
z_lt (z_u2 g16 8 ((g 0 1)).toNatClampNeg (0 : Int32)) fun g18 =>
z_ck (z_in (g 0 1) 16) <|
z_lt (z_u2 g18 9 ((g 0 1)).toNatClampNeg (-1 : Int32)) fun g20 =>
z_lt (z_u2 g20 0 1 ((g20 0 1) + (1 : Int32))) fun g21 =>
some ((g 0 1), g21)
else
some ((-1 : Int32), g)))
def fX2_changeableRow (N : Nat) (p1 : Int32) (g : z_R) : Option Nat :=
(if p1 = (0 : Int32) then
some (1 : Nat)
else
(if p1 = (1 : Int32) then
some (2 : Nat)
else
(if p1 = (2 : Int32) then
some (3 : Nat)
else
(if p1 = (3 : Int32) then
some (4 : Nat)
else
(if p1 = (4 : Int32) then
some (5 : Nat)
else
some (0 : Nat))))))
def fX2_replace (N : Nat) (p1 : Int32) (p2 : Int32) (p3 : Int32) (g : z_R) : Option (Int32 × z_R) :=
(fX2_changeableRow N p2 g).bind fun r1 =>
(if r1 = 1 then
(if p1 < 0 then
some ((-1 : Int32), g)
else
(if p1 < (16 : Int32) then
z_ck (z_in p1 16) <|
z_ck (z_in p1 16) <|
z_lt (z_u2 g 1 (p1).toNatClampNeg p3) fun g6 =>
some ((g 1 (p1).toNatClampNeg), g6)
else
some ((-1 : Int32), g)))
else
(if r1 = 2 then
(if p1 < 0 then
some ((-1 : Int32), g)
else
(if p1 < (16 : Int32) then
z_ck (z_in p1 16) <|
z_ck (z_in p1 16) <|
z_lt (z_u2 g 2 (p1).toNatClampNeg p3) fun g11 =>
some ((g 2 (p1).toNatClampNeg), g11)
else
some ((-1 : Int32), g)))
else
(if r1 = 3 then
(if p1 < 0 then
some ((-1 : Int32), g)
else
(if p1 < (16 : Int32) then
z_ck (z_in p1 16) <|
z_ck (z_in p1 16) <|
z_lt (z_u2 g 3 (p1).toNatClampNeg p3) fun g16 =>
some ((g 3 (p1).toNatClampNeg), g16)
else
some ((-1 : Int32), g)))
else
(if r1 = 4 then
(if p1 < 0 then
some ((-1 : Int32), g)
else
(if p1 < (16 : Int32) then
z_ck (z_in p1 16) <|
z_ck (z_in p1 16) <|
z_lt (z_u2 g 4 (p1).toNatClampNeg p3) fun g21 =>
some ((g 4 (p1).toNatClampNeg), g21)
else
some ((-1 : Int32), g)))
else
(if r1 = 5 then
(if p1 < 0 then
some ((-1 : Int32), g)
else
(if p1 < (16 : Int32) then
z_ck (z_in p1 16) <|
z_ck (z_in p1 16) <|
z_lt (z_u2 g 5 (p1).toNatClampNeg p3) fun g26 =>
some ((g 5 (p1).toNatClampNeg), g26)
else
some ((-1 : Int32), g)))
else
(if r1 = 0 then
some ((-1 : Int32), g)
else
none))))))
def fX4_isAuthor (N : Nat) (p0 : Int32) : Option Int32 :=
(if p0 < 0 then
some ((0 : Int32))
else
(if (4 : Int32) ≤ p0 then
some ((0 : Int32))
else
some ((1 : Int32))))
def fX2_refund (N : Nat) (p1 : Int32) (g : z_R) : Option (Int32 × z_R) :=
z_ck (z_in p1 16) <|
z_ck (z_in p1 16) <|
z_lt (z_u2 g 8 (p1).toNatClampNeg (0 : Int32)) fun g3 =>
z_ck (z_in p1 16) <|
(fX4_isAuthor N (g3 1 (p1).toNatClampNeg)).bind fun r5 =>
(if r5 = 0 then
some ((g 8 (p1).toNatClampNeg), g3)
else
z_ck (z_in p1 16) <|
z_ck (z_in (g3 1 (p1).toNatClampNeg) 4) <|
z_ck (z_in (g3 1 (p1).toNatClampNeg) 4) <|
z_lt (z_u2 g3 11 ((g3 1 (p1).toNatClampNeg)).toNatClampNeg ((g3 11 ((g3 1 (p1).toNatClampNeg)).toNatClampNeg) + (g 8 (p1).toNatClampNeg))) fun g10 =>
some ((g 8 (p1).toNatClampNeg), g10))
def fX2_put (N : Nat) (p1 : Int32) (p2 : Int32) (g : z_R) : Option (Int32 × z_R) :=
z_b2 (fX2_refund N p1 g) fun r1 g1 =>
z_ck (z_in p1 16) <|
z_lt (z_u2 g1 6 (p1).toNatClampNeg p2) fun g3 =>
z_ck (z_in p1 16) <|
z_lt (z_u2 g3 7 (p1).toNatClampNeg (-1 : Int32)) fun g5 =>
some (r1, g5)
def lX2_takeAllOff_2 (N : Nat) : Nat → Int32 → z_R → Option (z_R)
  | 0, _, _ => none
  | fu + 1, x1, g => (if (16 : Int32) ≤ x1 then
some g
else
(fX2_has N x1 g).bind fun r2 =>
(if r2 = 0 then
some g
else
z_b2 (fX2_put N x1 (-1 : Int32) g) fun r4 g4 =>
(lX2_takeAllOff_2 N fu (x1 + (1 : Int32)) g4)))
def fX2_takeAllOff (N : Nat) (g : z_R) : Option (z_R) :=
(lX2_takeAllOff_2 N N (0 : Int32) g)
def lX2_laidBehind_4 (N : Nat) (x1 : Int32) (g : z_R) : Nat → Int32 → Int32 → Option Int32
  | 0, _, _ => none
  | fu + 1, x2, x3 => (if (16 : Int32) ≤ x3 then
some (x2)
else
(fX2_has N x3 g).bind fun r2 =>
(if r2 = 0 then
some (x2)
else
(fX2_has N x1 g).bind fun r4 =>
(if r4 = 0 then
(if x2 = (-1 : Int32) then
(lX2_laidBehind_4 N x1 g fu x3 (x3 + (1 : Int32)))
else
z_ck (z_in x3 16) <|
z_ck (z_in x2 16) <|
(if (g 5 (x3).toNatClampNeg) ≤ (g 5 (x2).toNatClampNeg) then
(lX2_laidBehind_4 N x1 g fu x2 (x3 + (1 : Int32)))
else
(lX2_laidBehind_4 N x1 g fu x3 (x3 + (1 : Int32)))))
else
z_ck (z_in x3 16) <|
z_ck (z_in x1 16) <|
(if (g 5 (x3).toNatClampNeg) < (g 5 (x1).toNatClampNeg) then
(if x2 = (-1 : Int32) then
(lX2_laidBehind_4 N x1 g fu x3 (x3 + (1 : Int32)))
else
z_ck (z_in x3 16) <|
z_ck (z_in x2 16) <|
(if (g 5 (x3).toNatClampNeg) ≤ (g 5 (x2).toNatClampNeg) then
(lX2_laidBehind_4 N x1 g fu x2 (x3 + (1 : Int32)))
else
(lX2_laidBehind_4 N x1 g fu x3 (x3 + (1 : Int32)))))
else
z_ck (z_in x3 16) <|
z_ck (z_in x1 16) <|
(if (g 5 (x3).toNatClampNeg) = (g 5 (x1).toNatClampNeg) then
(if x3 ≤ x1 then
(lX2_laidBehind_4 N x1 g fu x2 (x3 + (1 : Int32)))
else
(if x2 = (-1 : Int32) then
(lX2_laidBehind_4 N x1 g fu x3 (x3 + (1 : Int32)))
else
z_ck (z_in x3 16) <|
z_ck (z_in x2 16) <|
(if (g 5 (x3).toNatClampNeg) ≤ (g 5 (x2).toNatClampNeg) then
(lX2_laidBehind_4 N x1 g fu x2 (x3 + (1 : Int32)))
else
(lX2_laidBehind_4 N x1 g fu x3 (x3 + (1 : Int32))))))
else
(lX2_laidBehind_4 N x1 g fu x2 (x3 + (1 : Int32))))))))
def fX2_laidBehind (N : Nat) (p1 : Int32) (g : z_R) : Option Int32 :=
(lX2_laidBehind_4 N p1 g N (-1 : Int32) (0 : Int32))
def lX2_wantedPlace_2 (N : Nat) (x1 : Int32) (g : z_R) (k : Unit → Option Int32) : Nat → Int32 → Option Int32
  | 0, _ => none
  | fu + 1, x2 => (if (16 : Int32) ≤ x2 then
(k ())
else
(fX2_has N x2 g).bind fun r2 =>
(if r2 = 0 then
(k ())
else
z_ck (z_in x2 16) <|
(if (g 6 (x2).toNatClampNeg) = (-1 : Int32) then
(lX2_wantedPlace_2 N x1 g k fu (x2 + (1 : Int32)))
else
z_ck (z_in x2 16) <|
(if (g 3 (x2).toNatClampNeg) = x1 then
z_ck (z_in x2 16) <|
z_ck (z_in x2 16) <|
(fX2_around N (((g 6 (x2).toNatClampNeg) + (1 : Int32)) + (g 2 (x2).toNatClampNeg)) g).bind fun r10 =>
some (r10)
else
(lX2_wantedPlace_2 N x1 g k fu (x2 + (1 : Int32)))))))
def fX2_wantedPlace (N : Nat) (p1 : Int32) (g : z_R) : Option Int32 :=
(lX2_wantedPlace_2 N p1 g (fun _ : Unit => z_ck (z_in p1 16) <|
(fX2_isOnDrum N (g 3 (p1).toNatClampNeg) g).bind fun r12 =>
(if r12 = 0 then
some ((0 : Int32))
else
z_ck (z_in p1 16) <|
z_ck (z_in (g 3 (p1).toNatClampNeg) 16) <|
z_ck (z_in p1 16) <|
(fX2_around N (((g 6 ((g 3 (p1).toNatClampNeg)).toNatClampNeg) - (1 : Int32)) - (g 2 (p1).toNatClampNeg)) g).bind fun r17 =>
some (r17))) N (0 : Int32))
def lX2_layOne_8 (N : Nat) (x1 : Int32) (x2 : Int32) (g : z_R) : Nat → Int32 → Option (z_R)
  | 0, _ => none
  | fu + 1, x3 => (if (g 0 0) ≤ x3 then
some g
else
(fX2_around N (x2 + x3) g).bind fun r3 =>
(fX2_orderOn N r3 g).bind fun r4 =>
(if r4 = (-1 : Int32) then
z_ck (z_in x1 16) <|
z_lt (z_u2 g 6 (x1).toNatClampNeg r3) fun g7 =>
z_ck (z_in x1 16) <|
z_lt (z_u2 g7 7 (x1).toNatClampNeg x3) fun g9 =>
z_ck (z_in x1 16) <|
z_ck (z_in x1 16) <|
z_lt (z_u2 g9 8 (x1).toNatClampNeg (g9 5 (x1).toNatClampNeg)) fun g12 =>
z_ck (z_in x1 16) <|
(fX4_isAuthor N (g12 1 (x1).toNatClampNeg)).bind fun r14 =>
(if r14 = 0 then
some g12
else
z_ck (z_in x1 16) <|
z_ck (z_in (g12 1 (x1).toNatClampNeg) 4) <|
z_ck (z_in x1 16) <|
z_ck (z_in (g12 1 (x1).toNatClampNeg) 4) <|
z_lt (z_u2 g12 10 ((g12 1 (x1).toNatClampNeg)).toNatClampNeg ((g12 10 ((g12 1 (x1).toNatClampNeg)).toNatClampNeg) + (g12 5 (x1).toNatClampNeg))) fun g20 =>
some g20)
else
(lX2_layOne_8 N x1 x2 g fu (x3 + (1 : Int32)))))
def fX2_layOne (N : Nat) (p1 : Int32) (g : z_R) : Option (z_R) :=
(fX2_wantedPlace N p1 g).bind fun r1 =>
(lX2_layOne_8 N p1 r1 g N (0 : Int32))
def lX2_layAll_14 (N : Nat) : Nat → Int32 → Int32 → Int32 → z_R → Option (Int32 × z_R)
  | 0, _, _, _, _ => none
  | fu + 1, x1, x2, x3, g => (if (16 : Int32) ≤ x3 then
some (x1, g)
else
(fX2_has N x2 g).bind fun r4 =>
(if r4 = 0 then
some (x1, g)
else
(fX2_layOne N x2 g).bind fun g6 =>
z_ck (z_in x2 16) <|
(if (g6 7 (x2).toNatClampNeg) = (-1 : Int32) then
(fX2_laidBehind N x2 g6).bind fun r9 =>
(lX2_layAll_14 N fu x1 r9 (x3 + (1 : Int32)) g6)
else
z_ck (z_in x2 16) <|
(fX2_laidBehind N x2 g6).bind fun r11 =>
(lX2_layAll_14 N fu (x1 + (g6 7 (x2).toNatClampNeg)) r11 (x3 + (1 : Int32)) g6))))
def fX2_layAll (N : Nat) (g : z_R) : Option (Int32 × z_R) :=
(fX2_takeAllOff N  g).bind fun g1 =>
(fX2_laidBehind N (-1 : Int32) g1).bind fun r2 =>
(lX2_layAll_14 N N (0 : Int32) r2 (0 : Int32) g1)
def fX2_waitFor (N : Nat) (p1 : Int32) (g : z_R) : Option Int32 :=
(fX2_isOnDrum N p1 g).bind fun r1 =>
(if r1 = 0 then
some ((-1 : Int32))
else
z_ck (z_in p1 16) <|
(fX2_around N ((g 6 (p1).toNatClampNeg) - (g 0 2)) g).bind fun r4 =>
some (r4))
def fX2_read (N : Nat) (p1 : Int32) (p2 : Int32) (g : z_R) : Option (z_R) :=
z_ck (z_in p1 16) <|
(fX2_around N ((g 6 (p1).toNatClampNeg) - (g 0 2)) g).bind fun r2 =>
z_lt (z_u2 g 0 2 ((g 0 2) + r2)) fun g3 =>
z_ck (z_in p1 16) <|
z_lt (z_u2 g3 9 (p1).toNatClampNeg r2) fun g5 =>
(if p2 = 0 then
z_ck (z_in p1 16) <|
z_lt (z_u2 g5 0 2 ((g5 0 2) + ((1 : Int32) + (g5 2 (p1).toNatClampNeg)))) fun g8 =>
some g8
else
(if r2 = 0 then
z_ck (z_in p1 16) <|
z_lt (z_u2 g5 8 (p1).toNatClampNeg (0 : Int32)) fun g11 =>
z_ck (z_in p1 16) <|
z_lt (z_u2 g11 0 2 ((g11 0 2) + ((1 : Int32) + (g11 2 (p1).toNatClampNeg)))) fun g13 =>
some g13
else
z_b2 (fX2_refund N p1 g5) fun r14 g14 =>
z_ck (z_in p1 16) <|
z_lt (z_u2 g14 8 (p1).toNatClampNeg (0 : Int32)) fun g16 =>
z_ck (z_in p1 16) <|
z_lt (z_u2 g16 0 2 ((g16 0 2) + ((1 : Int32) + (g16 2 (p1).toNatClampNeg)))) fun g18 =>
some g18))
def lX2_runFrom_10 (N : Nat) (k : Int32 → z_R → Option (Int32 × z_R)) : Nat → Int32 → Int32 → Int32 → Int32 → z_R → Option (Int32 × z_R)
  | 0, _, _, _, _, _ => none
  | fu + 1, x2, x3, x4, x5, g => (if (99 : Int32) < x5 then
(k x2 g)
else
(if x2 = (-1 : Int32) then
(fX2_isOnDrum N x4 g).bind fun r3 =>
(if r3 = 0 then
(lX2_runFrom_10 N k fu (3 : Int32) x3 x4 (x5 + (1 : Int32)) g)
else
(if x3 = (-1 : Int32) then
(if x5 = (99 : Int32) then
(lX2_runFrom_10 N k fu (2 : Int32) x3 x4 (x5 + (1 : Int32)) g)
else
(if x3 = (-1 : Int32) then
(fX2_read N x4 (0 : Int32) g).bind fun g8 =>
z_ck (z_in x4 16) <|
(if (g8 3 (x4).toNatClampNeg) = (-1 : Int32) then
(lX2_runFrom_10 N k fu (0 : Int32) x3 x4 (x5 + (1 : Int32)) g8)
else
z_ck (z_in x4 16) <|
(fX0_note N x4 (g8 3 (x4).toNatClampNeg) g8).bind fun g12 =>
z_ck (z_in x4 16) <|
(lX2_runFrom_10 N k fu x2 x4 (g12 3 (x4).toNatClampNeg) (x5 + (1 : Int32)) g12))
else
(fX2_read N x4 (1 : Int32) g).bind fun g14 =>
z_ck (z_in x4 16) <|
(if (g14 3 (x4).toNatClampNeg) = (-1 : Int32) then
(lX2_runFrom_10 N k fu (0 : Int32) x3 x4 (x5 + (1 : Int32)) g14)
else
z_ck (z_in x4 16) <|
(fX0_note N x4 (g14 3 (x4).toNatClampNeg) g14).bind fun g18 =>
z_ck (z_in x4 16) <|
(lX2_runFrom_10 N k fu x2 x4 (g18 3 (x4).toNatClampNeg) (x5 + (1 : Int32)) g18))))
else
z_ck (z_in x4 16) <|
(if (g 4 (x4).toNatClampNeg) = (-1 : Int32) then
(if x5 = (99 : Int32) then
(lX2_runFrom_10 N k fu (2 : Int32) x3 x4 (x5 + (1 : Int32)) g)
else
(if x3 = (-1 : Int32) then
(fX2_read N x4 (0 : Int32) g).bind fun g24 =>
z_ck (z_in x4 16) <|
(if (g24 3 (x4).toNatClampNeg) = (-1 : Int32) then
(lX2_runFrom_10 N k fu (0 : Int32) x3 x4 (x5 + (1 : Int32)) g24)
else
z_ck (z_in x4 16) <|
(fX0_note N x4 (g24 3 (x4).toNatClampNeg) g24).bind fun g28 =>
z_ck (z_in x4 16) <|
(lX2_runFrom_10 N k fu x2 x4 (g28 3 (x4).toNatClampNeg) (x5 + (1 : Int32)) g28))
else
(fX2_read N x4 (1 : Int32) g).bind fun g30 =>
z_ck (z_in x4 16) <|
(if (g30 3 (x4).toNatClampNeg) = (-1 : Int32) then
(lX2_runFrom_10 N k fu (0 : Int32) x3 x4 (x5 + (1 : Int32)) g30)
else
z_ck (z_in x4 16) <|
(fX0_note N x4 (g30 3 (x4).toNatClampNeg) g30).bind fun g34 =>
z_ck (z_in x4 16) <|
(lX2_runFrom_10 N k fu x2 x4 (g34 3 (x4).toNatClampNeg) (x5 + (1 : Int32)) g34))))
else
z_ck (z_in x4 16) <|
(if (g 4 (x4).toNatClampNeg) = x3 then
(if x5 = (99 : Int32) then
(lX2_runFrom_10 N k fu (2 : Int32) x3 x4 (x5 + (1 : Int32)) g)
else
(if x3 = (-1 : Int32) then
(fX2_read N x4 (0 : Int32) g).bind fun g40 =>
z_ck (z_in x4 16) <|
(if (g40 3 (x4).toNatClampNeg) = (-1 : Int32) then
(lX2_runFrom_10 N k fu (0 : Int32) x3 x4 (x5 + (1 : Int32)) g40)
else
z_ck (z_in x4 16) <|
(fX0_note N x4 (g40 3 (x4).toNatClampNeg) g40).bind fun g44 =>
z_ck (z_in x4 16) <|
(lX2_runFrom_10 N k fu x2 x4 (g44 3 (x4).toNatClampNeg) (x5 + (1 : Int32)) g44))
else
(fX2_read N x4 (1 : Int32) g).bind fun g46 =>
z_ck (z_in x4 16) <|
(if (g46 3 (x4).toNatClampNeg) = (-1 : Int32) then
(lX2_runFrom_10 N k fu (0 : Int32) x3 x4 (x5 + (1 : Int32)) g46)
else
z_ck (z_in x4 16) <|
(fX0_note N x4 (g46 3 (x4).toNatClampNeg) g46).bind fun g50 =>
z_ck (z_in x4 16) <|
(lX2_runFrom_10 N k fu x2 x4 (g50 3 (x4).toNatClampNeg) (x5 + (1 : Int32)) g50))))
else
(lX2_runFrom_10 N k fu (1 : Int32) x3 x4 (x5 + (1 : Int32)) g)))))
else
(k x2 g)))
def fX2_runFrom (N : Nat) (p1 : Int32) (g : z_R) : Option (Int32 × z_R) :=
(lX2_runFrom_10 N (fun x2_10 g10_52 => z_lt (z_u2 g10_52 0 3 x2_10) fun g53 =>
some (x2_10, g53)) N (-1 : Int32) (-1 : Int32) p1 (0 : Int32) g)
def fX3_isFull (N : Nat) (g : z_R) : Option Int32 :=
(if (g 0 0) < (160 : Int32) then
some ((0 : Int32))
else
some ((1 : Int32)))
def fX3_add (N : Nat) (p1 : Int32) (g : z_R) : Option (Int32 × z_R) :=
(if (g 0 0) < 0 then
some ((g 0 0), g)
else
(if (160 : Int32) ≤ (g 0 0) then
some ((g 0 0), g)
else
z_ck (z_in (g 0 0) 160) <|
z_lt (z_u2 g 1 ((g 0 0)).toNatClampNeg p1) fun g4 =>
z_lt (z_u2 g4 0 0 ((g4 0 0) + (1 : Int32))) fun g5 =>
some ((g5 0 0), g5)))
def fX3_empty (N : Nat) (g : z_R) : Option (Int32 × z_R) :=
z_lt (z_u2 g 0 0 (0 : Int32)) fun g1 =>
some ((g 0 0), g1)
def fX3_code (N : Nat) (p1 : Int32) (g : z_R) : Option Int32 :=
(if p1 < 0 then
some ((0 : Int32))
else
(if (160 : Int32) ≤ p1 then
some ((0 : Int32))
else
z_ck (z_in p1 160) <|
some ((g 1 (p1).toNatClampNeg))))
def fX3_isDigit (N : Nat) (p0 : Int32) : Option Int32 :=
(if p0 < (48 : Int32) then
some ((0 : Int32))
else
(if (57 : Int32) < p0 then
some ((0 : Int32))
else
some ((1 : Int32))))
def fX3_isAllowedInHead (N : Nat) (p1 : Int32) (p2 : Int32) (g : z_R) : Option Int32 :=
(if p1 = 0 then
(if p2 = (68 : Int32) then
some ((1 : Int32))
else
some ((0 : Int32)))
else
(if p1 = (1 : Int32) then
(if p2 < (48 : Int32) then
some ((0 : Int32))
else
(if (52 : Int32) < p2 then
some ((0 : Int32))
else
some ((1 : Int32))))
else
(fX3_code N (1 : Int32) g).bind fun r3 =>
(fX3_isDigit N p2).bind fun r4 =>
(if r4 = 0 then
some ((0 : Int32))
else
(if ((((10 : Int32) * (r3 - (48 : Int32))) + p2) - (48 : Int32)) < (6 : Int32) then
some ((0 : Int32))
else
(if (40 : Int32) < ((((10 : Int32) * (r3 - (48 : Int32))) + p2) - (48 : Int32)) then
some ((0 : Int32))
else
some ((1 : Int32)))))))
def fX3_endsLink (N : Nat) (p0 : Int32) (p1 : Int32) : Option Int32 :=
(if p0 = (45 : Int32) then
(if p1 = (45 : Int32) then
some ((1 : Int32))
else
some ((0 : Int32)))
else
(fX3_isDigit N p1).bind fun r2 =>
(if r2 = 0 then
some ((0 : Int32))
else
(if p0 = (48 : Int32) then
some ((1 : Int32))
else
(if (53 : Int32) < p1 then
some ((0 : Int32))
else
some ((1 : Int32))))))
def fX3_isAllowed (N : Nat) (p1 : Int32) (g : z_R) : Option Int32 :=
(fX3_code N p1 g).bind fun r1 =>
(if (3 : Int32) ≤ p1 then
(if p1 < (147 : Int32) then
(if ((p1 - (3 : Int32)) - (p1 - (3 : Int32)) / (9 : Int32) * (9 : Int32)) = (0 : Int32) then
(if r1 = (111 : Int32) then
some ((1 : Int32))
else
some ((0 : Int32)))
else
(if ((p1 - (3 : Int32)) - (p1 - (3 : Int32)) / (9 : Int32) * (9 : Int32)) = (1 : Int32) then
(if r1 < (48 : Int32) then
some ((0 : Int32))
else
(if (52 : Int32) ≤ r1 then
some ((0 : Int32))
else
some ((1 : Int32))))
else
(if ((p1 - (3 : Int32)) - (p1 - (3 : Int32)) / (9 : Int32) * (9 : Int32)) = (2 : Int32) then
(if r1 < (49 : Int32) then
some ((0 : Int32))
else
(if (57 : Int32) < r1 then
some ((0 : Int32))
else
some ((1 : Int32))))
else
(if ((p1 - (3 : Int32)) - (p1 - (3 : Int32)) / (9 : Int32) * (9 : Int32)) = (3 : Int32) then
(if r1 = (48 : Int32) then
some ((1 : Int32))
else
(if r1 = (49 : Int32) then
some ((1 : Int32))
else
(if r1 = (45 : Int32) then
some ((1 : Int32))
else
some ((0 : Int32)))))
else
(if ((p1 - (3 : Int32)) - (p1 - (3 : Int32)) / (9 : Int32) * (9 : Int32)) = (4 : Int32) then
(fX3_code N (p1 - (1 : Int32)) g).bind fun r13 =>
(fX3_endsLink N r13 r1).bind fun r14 =>
z_ck (z_bo r14) <|
some (r14)
else
(if ((p1 - (3 : Int32)) - (p1 - (3 : Int32)) / (9 : Int32) * (9 : Int32)) = (5 : Int32) then
(if r1 = (48 : Int32) then
some ((1 : Int32))
else
(if r1 = (49 : Int32) then
some ((1 : Int32))
else
(if r1 = (45 : Int32) then
some ((1 : Int32))
else
some ((0 : Int32)))))
else
(if ((p1 - (3 : Int32)) - (p1 - (3 : Int32)) / (9 : Int32) * (9 : Int32)) = (6 : Int32) then
(fX3_code N (p1 - (1 : Int32)) g).bind fun r19 =>
(fX3_endsLink N r19 r1).bind fun r20 =>
z_ck (z_bo r20) <|
some (r20)
else
(fX3_isDigit N r1).bind fun r22 =>
z_ck (z_bo r22) <|
some (r22))))))))
else
some ((0 : Int32)))
else
(fX3_isAllowedInHead N p1 r1 g).bind fun r24 =>
z_ck (z_bo r24) <|
some (r24))
def lX3_firstError_2 (N : Nat) (g : z_R) : Nat → Int32 → Option Int32
  | 0, _ => none
  | fu + 1, x1 => (if (g 0 0) ≤ x1 then
(if (g 0 0) < (3 : Int32) then
some ((g 0 0))
else
(if (((g 0 0) - (3 : Int32)) - ((g 0 0) - (3 : Int32)) / (9 : Int32) * (9 : Int32)) = 0 then
some ((-1 : Int32))
else
some ((g 0 0))))
else
(fX3_isAllowed N x1 g).bind fun r4 =>
(if r4 = 0 then
some (x1)
else
(lX3_firstError_2 N g fu (x1 + (1 : Int32)))))
def fX3_firstError (N : Nat) (g : z_R) : Option Int32 :=
(lX3_firstError_2 N g N (0 : Int32))
def fX3_digit (N : Nat) (p1 : Int32) (g : z_R) : Option Int32 :=
(fX3_code N p1 g).bind fun r1 =>
some ((r1 - (48 : Int32)))
def fX3_pair (N : Nat) (p1 : Int32) (g : z_R) : Option Int32 :=
(fX3_code N p1 g).bind fun r1 =>
(if r1 = (45 : Int32) then
some ((-1 : Int32))
else
(fX3_digit N p1 g).bind fun r3 =>
(fX3_digit N (p1 + (1 : Int32)) g).bind fun r4 =>
some ((((10 : Int32) * r3) + r4)))
def fX4_isWork (N : Nat) (p0 : Int32) : Option Int32 :=
(if p0 < (1 : Int32) then
some ((0 : Int32))
else
(if (9 : Int32) < p0 then
some ((0 : Int32))
else
some ((1 : Int32))))
def fX4_isLink (N : Nat) (p0 : Int32) : Option Int32 :=
(if p0 = (-1 : Int32) then
some ((1 : Int32))
else
(if p0 < 0 then
some ((0 : Int32))
else
(if (16 : Int32) ≤ p0 then
some ((0 : Int32))
else
some ((1 : Int32)))))
def fX4_isBribe (N : Nat) (p0 : Int32) : Option Int32 :=
(if p0 < 0 then
some ((0 : Int32))
else
(if (99 : Int32) < p0 then
some ((0 : Int32))
else
some ((1 : Int32))))
def fX4_isTurn (N : Nat) (p0 : Int32) : Option Int32 :=
(if p0 < (1 : Int32) then
some ((0 : Int32))
else
(if (99 : Int32) < p0 then
some ((0 : Int32))
else
some ((1 : Int32))))
def fX4_isNumberOfOrder (N : Nat) (p0 : Int32) (p1 : Int32) : Option Int32 :=
(if p0 = (0 : Int32) then
(fX4_isAuthor N p1).bind fun r2 =>
z_ck (z_bo r2) <|
some (r2)
else
(if p0 = (1 : Int32) then
(fX4_isWork N p1).bind fun r4 =>
z_ck (z_bo r4) <|
some (r4)
else
(if p0 = (2 : Int32) then
(fX4_isLink N p1).bind fun r6 =>
z_ck (z_bo r6) <|
some (r6)
else
(if p0 = (3 : Int32) then
(fX4_isLink N p1).bind fun r8 =>
z_ck (z_bo r8) <|
some (r8)
else
(if p0 = (4 : Int32) then
(fX4_isBribe N p1).bind fun r10 =>
z_ck (z_bo r10) <|
some (r10)
else
some ((0 : Int32)))))))
def lX4_sum_4 (N : Nat) (ln : Nat) (f : (Nat → Int32)) : Nat → Int32 → Int32 → Option Int32
  | 0, _, _ => none
  | fu + 1, x1, x2 => (if (Int32.ofNat ln) ≤ x2 then
some (x1)
else
z_ck (z_in x2 ln) <|
(lX4_sum_4 N ln f fu (x1 + (f (x2).toNatClampNeg)) (x2 + (1 : Int32))))
def fX4_sum (N : Nat) (ln : Nat) (f : (Nat → Int32)) : Option Int32 :=
(lX4_sum_4 N ln f N (0 : Int32) (0 : Int32))
def lX4_withoutLast_5 (N : Nat) (x0 : Int32) : Nat → Int64 → Int32 → Option Int64
  | 0, _, _ => none
  | fu + 1, x3, x5 => (if x0 ≤ x5 then
some (x3)
else
(lX4_withoutLast_5 N x0 fu (x3 / (100000 : Int64)) (x5 + (1 : Int32))))
def fX4_withoutLast (N : Nat) (p0 : Int32) (p1 : Int64) : Option Int64 :=
(lX4_withoutLast_5 N p0 N p1 (0 : Int32))
def fX5_thrown (N : Nat) (g : z_R) : Option Int32 :=
some ((g 0 0))
def lX5_copy_3 (N : Nat) (ln lk : Nat) (f : Nat → Int32) (x1 : Int32) (x3 : Int32) : Nat → Int32 → (Nat → Int32) → Option ((Nat → Int32))
  | 0, _, _ => none
  | fu + 1, x4, h => (if (925 : Int32) ≤ x4 then
some h
else
z_ck (z_in (x1 + x4) ln) <|
z_ck (z_in (x3 + x4) lk) <|
z_lt (upd h ((x3 + x4)).toNatClampNeg (f ((x1 + x4)).toNatClampNeg)) fun h4 =>
(lX5_copy_3 N ln lk f x1 x3 fu (x4 + (1 : Int32)) h4))
def fX5_copy (N : Nat) (ln lk : Nat) (f : Nat → Int32) (p1 : Int32) (p3 : Int32) (h : (Nat → Int32)) : Option ((Nat → Int32)) :=
(lX5_copy_3 N ln lk f p1 p3 N (0 : Int32) h)
def fX5_within (N : Nat) (p0 : Int32) (p1 : Int32) (p2 : Int32) : Option Int32 :=
(if p0 < p1 then
some ((0 : Int32))
else
(if p2 < p0 then
some ((0 : Int32))
else
some ((1 : Int32))))
def fX5_append (N : Nat) (p1 : Int32) (g : z_R) : Option (Int32 × z_R) :=
(fX5_within N p1 (0 : Int32) (255 : Int32)).bind fun r1 =>
(if r1 = 0 then
z_lt (z_u2 g 0 0 (1 : Int32)) fun g14 =>
(if (g14 0 0) ≤ 0 then
z_ck (z_in (g14 0 2) 160) <|
z_lt (z_u2 g14 8 ((g14 0 2)).toNatClampNeg p1) fun g17 =>
z_lt (z_u2 g17 0 2 ((g17 0 2) + (1 : Int32))) fun g18 =>
some ((g18 0 2), g18)
else
some ((0 : Int32), g14))
else
(if (g 0 2) = (160 : Int32) then
z_lt (z_u2 g 0 0 (2 : Int32)) fun g9 =>
(if (g9 0 0) ≤ 0 then
z_ck (z_in (g9 0 2) 160) <|
z_lt (z_u2 g9 8 ((g9 0 2)).toNatClampNeg p1) fun g12 =>
z_lt (z_u2 g12 0 2 ((g12 0 2) + (1 : Int32))) fun g13 =>
some ((g13 0 2), g13)
else
some ((0 : Int32), g9))
else
z_lt (z_u2 g 0 0 (0 : Int32)) fun g4 =>
(if (g4 0 0) ≤ 0 then
z_ck (z_in (g4 0 2) 160) <|
z_lt (z_u2 g4 8 ((g4 0 2)).toNatClampNeg p1) fun g7 =>
z_lt (z_u2 g7 0 2 ((g7 0 2) + (1 : Int32))) fun g8 =>
some ((g8 0 2), g8)
else
some ((0 : Int32), g4))))
def fX5_clearText (N : Nat) (g : z_R) : Option (Int32 × z_R) :=
z_lt (z_u2 g 0 0 (0 : Int32)) fun g1 =>
z_lt (z_u2 g1 0 2 (0 : Int32)) fun g2 =>
some ((g1 0 2), g2)
def fX5_digit (N : Nat) (p1 : Int32) (g : z_R) : Option Int32 :=
(if (g 0 2) ≤ p1 then
some ((-1 : Int32))
else
z_ck (z_in p1 160) <|
(fX5_within N (g 8 (p1).toNatClampNeg) (48 : Int32) (57 : Int32)).bind fun r3 =>
(if r3 = 0 then
some ((-1 : Int32))
else
z_ck (z_in p1 160) <|
some (((g 8 (p1).toNatClampNeg) - (48 : Int32)))))
def fX5_isMinus (N : Nat) (p1 : Int32) (g : z_R) : Option Int32 :=
(if (g 0 2) ≤ p1 then
some ((0 : Int32))
else
z_ck (z_in p1 160) <|
(if (g 8 (p1).toNatClampNeg) = (45 : Int32) then
some ((1 : Int32))
else
some ((0 : Int32))))
def fX5_behindLink (N : Nat) (p1 : Int32) (g : z_R) : Option Int32 :=
(fX5_digit N p1 g).bind fun r1 =>
(fX5_isMinus N p1 g).bind fun r2 =>
(if r2 = 0 then
(fX5_within N r1 (0 : Int32) (1 : Int32)).bind fun r13 =>
(if r13 = 0 then
some (p1)
else
(if 0 ≤ r1 then
(fX5_digit N (p1 + (1 : Int32)) g).bind fun r16 =>
(if r1 = 0 then
(fX5_within N r16 (0 : Int32) (9 : Int32)).bind fun r20 =>
(if r20 = 0 then
some ((p1 + (1 : Int32)))
else
some ((p1 + (2 : Int32))))
else
(fX5_within N r16 (0 : Int32) (5 : Int32)).bind fun r18 =>
(if r18 = 0 then
some ((p1 + (1 : Int32)))
else
some ((p1 + (2 : Int32)))))
else
(fX5_isMinus N (p1 + (1 : Int32)) g).bind fun r22 =>
(if r22 = 0 then
some ((p1 + (1 : Int32)))
else
some ((p1 + (2 : Int32))))))
else
(if 0 ≤ r1 then
(fX5_digit N (p1 + (1 : Int32)) g).bind fun r5 =>
(if r1 = 0 then
(fX5_within N r5 (0 : Int32) (9 : Int32)).bind fun r9 =>
(if r9 = 0 then
some ((p1 + (1 : Int32)))
else
some ((p1 + (2 : Int32))))
else
(fX5_within N r5 (0 : Int32) (5 : Int32)).bind fun r7 =>
(if r7 = 0 then
some ((p1 + (1 : Int32)))
else
some ((p1 + (2 : Int32)))))
else
(fX5_isMinus N (p1 + (1 : Int32)) g).bind fun r11 =>
(if r11 = 0 then
some ((p1 + (1 : Int32)))
else
some ((p1 + (2 : Int32))))))
def fX5_link (N : Nat) (p1 : Int32) (g : z_R) : Option Int32 :=
(fX5_isMinus N p1 g).bind fun r1 =>
(if r1 = 0 then
(fX5_digit N p1 g).bind fun r3 =>
(fX5_digit N (p1 + (1 : Int32)) g).bind fun r4 =>
some ((((10 : Int32) * r3) + r4))
else
some ((-1 : Int32)))
def fX5_readOrder (N : Nat) (p1 : Int32) (g : z_R) : Option (Int32 × z_R) :=
z_ck (z_in p1 160) <|
(if (g 8 (p1).toNatClampNeg) = (111 : Int32) then
(if (g 4 ((2 : Int32)).toNatClampNeg) = (16 : Int32) then
some (p1, g)
else
(fX5_digit N (p1 + (1 : Int32)) g).bind fun r4 =>
(fX5_within N r4 (0 : Int32) (3 : Int32)).bind fun r5 =>
(if r5 = 0 then
some ((p1 + (1 : Int32)), g)
else
(fX5_digit N (p1 + (2 : Int32)) g).bind fun r7 =>
(fX5_within N r7 (1 : Int32) (9 : Int32)).bind fun r8 =>
(if r8 = 0 then
some ((p1 + (2 : Int32)), g)
else
(fX5_behindLink N (p1 + (3 : Int32)) g).bind fun r10 =>
(if (p1 + (5 : Int32)) ≤ r10 then
(fX5_behindLink N (p1 + (5 : Int32)) g).bind fun r12 =>
(if (p1 + (7 : Int32)) ≤ r12 then
(fX5_digit N (p1 + (7 : Int32)) g).bind fun r14 =>
(if r14 < 0 then
(fX5_digit N (p1 + (7 : Int32)) g).bind fun r16 =>
(if 0 ≤ r16 then
some ((p1 + (8 : Int32)), g)
else
some ((p1 + (7 : Int32)), g))
else
(fX5_digit N (p1 + (8 : Int32)) g).bind fun r18 =>
(if 0 ≤ r18 then
(fX5_digit N (p1 + (1 : Int32)) g).bind fun r20 =>
z_ck (z_in (((13 : Int32) + ((9 : Int32) * (g 4 ((2 : Int32)).toNatClampNeg))) + (0 : Int32)) 925) <|
z_lt (z_u2 g 4 ((((13 : Int32) + ((9 : Int32) * (g 4 ((2 : Int32)).toNatClampNeg))) + (0 : Int32))).toNatClampNeg r20) fun g22 =>
(fX5_digit N (p1 + (2 : Int32)) g22).bind fun r23 =>
z_ck (z_in (((13 : Int32) + ((9 : Int32) * (g 4 ((2 : Int32)).toNatClampNeg))) + (1 : Int32)) 925) <|
z_lt (z_u2 g22 4 ((((13 : Int32) + ((9 : Int32) * (g 4 ((2 : Int32)).toNatClampNeg))) + (1 : Int32))).toNatClampNeg r23) fun g25 =>
(fX5_link N (p1 + (3 : Int32)) g25).bind fun r26 =>
z_ck (z_in (((13 : Int32) + ((9 : Int32) * (g 4 ((2 : Int32)).toNatClampNeg))) + (2 : Int32)) 925) <|
z_lt (z_u2 g25 4 ((((13 : Int32) + ((9 : Int32) * (g 4 ((2 : Int32)).toNatClampNeg))) + (2 : Int32))).toNatClampNeg r26) fun g28 =>
(fX5_link N (p1 + (5 : Int32)) g28).bind fun r29 =>
z_ck (z_in (((13 : Int32) + ((9 : Int32) * (g 4 ((2 : Int32)).toNatClampNeg))) + (3 : Int32)) 925) <|
z_lt (z_u2 g28 4 ((((13 : Int32) + ((9 : Int32) * (g 4 ((2 : Int32)).toNatClampNeg))) + (3 : Int32))).toNatClampNeg r29) fun g31 =>
(fX5_digit N (p1 + (7 : Int32)) g31).bind fun r32 =>
(fX5_digit N (p1 + (8 : Int32)) g31).bind fun r33 =>
z_ck (z_in (((13 : Int32) + ((9 : Int32) * (g 4 ((2 : Int32)).toNatClampNeg))) + (4 : Int32)) 925) <|
z_lt (z_u2 g31 4 ((((13 : Int32) + ((9 : Int32) * (g 4 ((2 : Int32)).toNatClampNeg))) + (4 : Int32))).toNatClampNeg (((10 : Int32) * r32) + r33)) fun g35 =>
z_ck (z_in (((13 : Int32) + ((9 : Int32) * (g 4 ((2 : Int32)).toNatClampNeg))) + (5 : Int32)) 925) <|
z_lt (z_u2 g35 4 ((((13 : Int32) + ((9 : Int32) * (g 4 ((2 : Int32)).toNatClampNeg))) + (5 : Int32))).toNatClampNeg (-1 : Int32)) fun g37 =>
z_ck (z_in (((13 : Int32) + ((9 : Int32) * (g 4 ((2 : Int32)).toNatClampNeg))) + (6 : Int32)) 925) <|
z_lt (z_u2 g37 4 ((((13 : Int32) + ((9 : Int32) * (g 4 ((2 : Int32)).toNatClampNeg))) + (6 : Int32))).toNatClampNeg (-1 : Int32)) fun g39 =>
z_ck (z_in (((13 : Int32) + ((9 : Int32) * (g 4 ((2 : Int32)).toNatClampNeg))) + (7 : Int32)) 925) <|
z_lt (z_u2 g39 4 ((((13 : Int32) + ((9 : Int32) * (g 4 ((2 : Int32)).toNatClampNeg))) + (7 : Int32))).toNatClampNeg (0 : Int32)) fun g41 =>
z_ck (z_in (((13 : Int32) + ((9 : Int32) * (g 4 ((2 : Int32)).toNatClampNeg))) + (8 : Int32)) 925) <|
z_lt (z_u2 g41 4 ((((13 : Int32) + ((9 : Int32) * (g 4 ((2 : Int32)).toNatClampNeg))) + (8 : Int32))).toNatClampNeg (-1 : Int32)) fun g43 =>
z_lt (z_u2 g43 4 ((2 : Int32)).toNatClampNeg ((g43 4 ((2 : Int32)).toNatClampNeg) + (1 : Int32))) fun g44 =>
some ((-1 : Int32), g44)
else
(fX5_digit N (p1 + (7 : Int32)) g).bind fun r45 =>
(if 0 ≤ r45 then
some ((p1 + (8 : Int32)), g)
else
some ((p1 + (7 : Int32)), g))))
else
some (r12, g))
else
some (r10, g)))))
else
some (p1, g))
def lX5_readText_118 (N : Nat) : Nat → Int32 → z_R → Option (Int32 × z_R)
  | 0, _, _ => none
  | fu + 1, x2, g => (if (g 0 2) ≤ x2 then
some ((-1 : Int32), g)
else
z_b2 (fX5_readOrder N x2 g) fun r16 g16 =>
(if r16 = (-1 : Int32) then
(lX5_readText_118 N fu (x2 + (9 : Int32)) g16)
else
some (r16, g16)))
def lX5_readText_2 (N : Nat) : Nat → Int32 → z_R → Option (Int32 × z_R)
  | 0, _, _ => none
  | fu + 1, x1, g => (if (925 : Int32) ≤ x1 then
z_lt (z_u2 g 4 ((4 : Int32)).toNatClampNeg (-1 : Int32)) fun g2 =>
(if (g2 0 2) = 0 then
some ((0 : Int32), g2)
else
(if (g2 8 ((0 : Int32)).toNatClampNeg) = (68 : Int32) then
(fX5_digit N (1 : Int32) g2).bind fun r5 =>
(fX5_within N r5 (0 : Int32) (4 : Int32)).bind fun r6 =>
(if r6 = 0 then
some ((1 : Int32), g2)
else
(fX5_digit N (2 : Int32) g2).bind fun r8 =>
(if r5 = 0 then
(if r5 = (4 : Int32) then
(fX5_within N r8 (6 : Int32) (0 : Int32)).bind fun r27 =>
(if r27 = 0 then
some ((2 : Int32), g2)
else
(fX5_digit N (2 : Int32) g2).bind fun r29 =>
z_lt (z_u2 g2 4 ((0 : Int32)).toNatClampNeg (((10 : Int32) * r5) + r29)) fun g30 =>
(lX5_readText_118 N N (3 : Int32) g30))
else
(fX5_within N r8 (6 : Int32) (9 : Int32)).bind fun r23 =>
(if r23 = 0 then
some ((2 : Int32), g2)
else
(fX5_digit N (2 : Int32) g2).bind fun r25 =>
z_lt (z_u2 g2 4 ((0 : Int32)).toNatClampNeg (((10 : Int32) * r5) + r25)) fun g26 =>
(lX5_readText_118 N N (3 : Int32) g26)))
else
(if r5 = (4 : Int32) then
(fX5_within N r8 (0 : Int32) (0 : Int32)).bind fun r18 =>
(if r18 = 0 then
some ((2 : Int32), g2)
else
(fX5_digit N (2 : Int32) g2).bind fun r20 =>
z_lt (z_u2 g2 4 ((0 : Int32)).toNatClampNeg (((10 : Int32) * r5) + r20)) fun g21 =>
(lX5_readText_118 N N (3 : Int32) g21))
else
(fX5_within N r8 (0 : Int32) (9 : Int32)).bind fun r11 =>
(if r11 = 0 then
some ((2 : Int32), g2)
else
(fX5_digit N (2 : Int32) g2).bind fun r13 =>
z_lt (z_u2 g2 4 ((0 : Int32)).toNatClampNeg (((10 : Int32) * r5) + r13)) fun g14 =>
(lX5_readText_118 N N (3 : Int32) g14)))))
else
some ((0 : Int32), g2)))
else
z_ck (z_in x1 925) <|
z_lt (z_u2 g 4 (x1).toNatClampNeg (0 : Int32)) fun g32 =>
(lX5_readText_2 N fu (x1 + (1 : Int32)) g32))
def fX5_readText (N : Nat) (g : z_R) : Option (Int32 × z_R) :=
(lX5_readText_2 N N (0 : Int32) g)
def fX5_errorPosition (N : Nat) (g : z_R) : Option (Int32 × z_R) :=
z_lt (z_u2 g 0 0 (0 : Int32)) fun g1 =>
z_b2 (fX5_readText N  g1) fun r2 g2 =>
some (r2, g2)
def fX5_load (N : Nat) (g : z_R) : Option (Int32 × z_R) :=
z_b2 (fX5_readText N  g) fun r1 g1 =>
(if r1 = (-1 : Int32) then
z_lt (z_u2 g1 0 0 (0 : Int32)) fun g9 =>
(if (g9 0 0) ≤ 0 then
(fX5_copy N 925 925 (g9 4) (0 : Int32) (0 : Int32) (g9 1)).bind fun u11 =>
z_lt (z_uR g9 1 u11) fun g11 =>
z_lt (z_u2 g11 0 1 (0 : Int32)) fun g12 =>
z_lt (z_u2 g12 7 ((0 : Int32)).toNatClampNeg (0 : Int32)) fun g13 =>
z_lt (z_u2 g13 7 ((1 : Int32)).toNatClampNeg (0 : Int32)) fun g14 =>
some ((g14 1 ((2 : Int32)).toNatClampNeg), g14)
else
some ((0 : Int32), g9))
else
z_lt (z_u2 g1 0 0 (1 : Int32)) fun g3 =>
(if (g3 0 0) ≤ 0 then
(fX5_copy N 925 925 (g3 4) (0 : Int32) (0 : Int32) (g3 1)).bind fun u5 =>
z_lt (z_uR g3 1 u5) fun g5 =>
z_lt (z_u2 g5 0 1 (0 : Int32)) fun g6 =>
z_lt (z_u2 g6 7 ((0 : Int32)).toNatClampNeg (0 : Int32)) fun g7 =>
z_lt (z_u2 g7 7 ((1 : Int32)).toNatClampNeg (0 : Int32)) fun g8 =>
some ((g8 1 ((2 : Int32)).toNatClampNeg), g8)
else
some ((0 : Int32), g3)))
def fX5_isOrder (N : Nat) (p1 : Int32) (g : z_R) : Option Int32 :=
(fX5_within N p1 (0 : Int32) ((g 1 ((2 : Int32)).toNatClampNeg) - (1 : Int32))).bind fun r1 =>
z_ck (z_bo r1) <|
some (r1)
def fX5_isPlace (N : Nat) (p1 : Int32) (g : z_R) : Option Int32 :=
(fX5_within N p1 (0 : Int32) ((g 1 ((0 : Int32)).toNatClampNeg) - (1 : Int32))).bind fun r1 =>
z_ck (z_bo r1) <|
some (r1)
def fX5_part (N : Nat) (p1 : Int32) (p2 : Int32) (g : z_R) : Option Int32 :=
z_ck (z_in (((13 : Int32) + ((9 : Int32) * p1)) + p2) 925) <|
some ((g 1 ((((13 : Int32) + ((9 : Int32) * p1)) + p2)).toNatClampNeg))
def fX5_setPart (N : Nat) (p1 : Int32) (p2 : Int32) (p3 : Int32) (g : z_R) : Option (z_R) :=
z_ck (z_in (((13 : Int32) + ((9 : Int32) * p1)) + p2) 925) <|
z_lt (z_u2 g 1 ((((13 : Int32) + ((9 : Int32) * p1)) + p2)).toNatClampNeg p3) fun g2 =>
some g2
def lX5_standing_4 (N : Nat) (x1 : Int32) (g : z_R) : Nat → Int32 → Int32 → Option Int32
  | 0, _, _ => none
  | fu + 1, x2, x3 => (if (g 1 ((2 : Int32)).toNatClampNeg) ≤ x3 then
some (x2)
else
(fX5_part N x3 (5 : Int32) g).bind fun r2 =>
(if r2 = x1 then
(lX5_standing_4 N x1 g fu x3 (x3 + (1 : Int32)))
else
(lX5_standing_4 N x1 g fu x2 (x3 + (1 : Int32)))))
def fX5_standing (N : Nat) (p1 : Int32) (g : z_R) : Option Int32 :=
(lX5_standing_4 N p1 g N (-1 : Int32) (0 : Int32))
def fX5_comingBy (N : Nat) (g : z_R) : Option Int32 :=
z_ck (z_nz (g 1 ((0 : Int32)).toNatClampNeg)) <|
some (((g 1 ((1 : Int32)).toNatClampNeg) - (g 1 ((1 : Int32)).toNatClampNeg) / (g 1 ((0 : Int32)).toNatClampNeg) * (g 1 ((0 : Int32)).toNatClampNeg)))
def lX5_refundedAll_4 (N : Nat) (g : z_R) : Nat → Int32 → Int32 → Option Int32
  | 0, _, _ => none
  | fu + 1, x1, x2 => (if (4 : Int32) ≤ x2 then
some (x1)
else
z_ck (z_in ((9 : Int32) + x2) 925) <|
(lX5_refundedAll_4 N g fu (x1 + (g 1 (((9 : Int32) + x2)).toNatClampNeg)) (x2 + (1 : Int32))))
def fX5_refundedAll (N : Nat) (g : z_R) : Option Int32 :=
(lX5_refundedAll_4 N g N (0 : Int32) (0 : Int32))
def lX5_about_79 (N : Nat) (x1 : Int32) (x2 : Int32) (x3 : Int32) (g : z_R) : Nat → Int32 → Int32 → Option (Int32 × z_R)
  | 0, _, _ => none
  | fu + 1, x4, x5 => (if (4 : Int32) ≤ x5 then
(if x1 = (0 : Int32) then
some ((g 1 ((0 : Int32)).toNatClampNeg), g)
else
(if x1 = (1 : Int32) then
some ((g 1 ((2 : Int32)).toNatClampNeg), g)
else
(if x1 = (2 : Int32) then
some ((g 1 ((1 : Int32)).toNatClampNeg), g)
else
(if x1 = (3 : Int32) then
(fX5_comingBy N  g).bind fun r7 =>
some (r7, g)
else
(if x1 = (4 : Int32) then
some (x2, g)
else
(if x1 = (5 : Int32) then
some (x4, g)
else
(if x1 = (6 : Int32) then
(fX5_refundedAll N  g).bind fun r8 =>
some (r8, g)
else
(if x1 = (7 : Int32) then
some (x3, g)
else
(if x1 = (8 : Int32) then
some ((g 1 ((3 : Int32)).toNatClampNeg), g)
else
(if x1 = (9 : Int32) then
some ((g 1 ((4 : Int32)).toNatClampNeg), g)
else
some ((0 : Int32), g)))))))))))
else
z_ck (z_in ((5 : Int32) + x5) 925) <|
(lX5_about_79 N x1 x2 x3 g fu (x4 + (g 1 (((5 : Int32) + x5)).toNatClampNeg)) (x5 + (1 : Int32))))
def lX5_about_26 (N : Nat) (x1 : Int32) (g : z_R) : Nat → Int32 → Int32 → Int32 → Option (Int32 × z_R)
  | 0, _, _, _ => none
  | fu + 1, x2, x3, x4 => (if (g 1 ((2 : Int32)).toNatClampNeg) ≤ x4 then
(lX5_about_79 N x1 x2 x3 g N (0 : Int32) (0 : Int32))
else
(fX5_part N x4 (5 : Int32) g).bind fun r10 =>
(if r10 = (-1 : Int32) then
(fX5_part N x4 (7 : Int32) g).bind fun r13 =>
(lX5_about_26 N x1 g fu (x2 + (0 : Int32)) (x3 + r13) (x4 + (1 : Int32)))
else
(fX5_part N x4 (7 : Int32) g).bind fun r12 =>
(lX5_about_26 N x1 g fu (x2 + (1 : Int32)) (x3 + r12) (x4 + (1 : Int32)))))
def fX5_about (N : Nat) (p1 : Int32) (g : z_R) : Option (Int32 × z_R) :=
(fX5_within N p1 (0 : Int32) (9 : Int32)).bind fun r1 =>
(if r1 = 0 then
z_lt (z_u2 g 0 0 (1 : Int32)) fun g3 =>
(lX5_about_26 N p1 g3 N (0 : Int32) (0 : Int32) (0 : Int32))
else
z_lt (z_u2 g 0 0 (0 : Int32)) fun g14 =>
(lX5_about_26 N p1 g14 N (0 : Int32) (0 : Int32) (0 : Int32)))
def fX5_order (N : Nat) (p1 : Int32) (p2 : Int32) (g : z_R) : Option (Int32 × z_R) :=
(fX5_isOrder N p1 g).bind fun r1 =>
(if r1 = 0 then
z_lt (z_u2 g 0 0 (1 : Int32)) fun g11 =>
(if (g11 0 0) ≤ 0 then
(fX5_part N p1 p2 g11).bind fun r13 =>
some (r13, g11)
else
some ((0 : Int32), g11))
else
(fX5_within N p2 (0 : Int32) (8 : Int32)).bind fun r3 =>
(if r3 = 0 then
z_lt (z_u2 g 0 0 (2 : Int32)) fun g5 =>
(if (g5 0 0) ≤ 0 then
(fX5_part N p1 p2 g5).bind fun r7 =>
some (r7, g5)
else
some ((0 : Int32), g5))
else
z_lt (z_u2 g 0 0 (0 : Int32)) fun g8 =>
(if (g8 0 0) ≤ 0 then
(fX5_part N p1 p2 g8).bind fun r10 =>
some (r10, g8)
else
some ((0 : Int32), g8))))
def fX5_isAuthor (N : Nat) (p0 : Int32) : Option Int32 :=
(fX5_within N p0 (0 : Int32) (3 : Int32)).bind fun r1 =>
z_ck (z_bo r1) <|
some (r1)
def lX5_author_43 (N : Nat) (x1 : Int32) (x2 : Int32) (g : z_R) : Nat → Int32 → Int32 → Option (Int32 × z_R)
  | 0, _, _ => none
  | fu + 1, x3, x4 => (if (g 1 ((2 : Int32)).toNatClampNeg) ≤ x4 then
(if x2 = 0 then
some (x3, g)
else
(if x2 = (1 : Int32) then
z_ck (z_in ((5 : Int32) + x1) 925) <|
some ((g 1 (((5 : Int32) + x1)).toNatClampNeg), g)
else
z_ck (z_in ((9 : Int32) + x1) 925) <|
some ((g 1 (((9 : Int32) + x1)).toNatClampNeg), g)))
else
(fX5_part N x4 (0 : Int32) g).bind fun r12 =>
(if r12 = x1 then
(lX5_author_43 N x1 x2 g fu (x3 + (1 : Int32)) (x4 + (1 : Int32)))
else
(lX5_author_43 N x1 x2 g fu (x3 + (0 : Int32)) (x4 + (1 : Int32)))))
def fX5_author (N : Nat) (p1 : Int32) (p2 : Int32) (g : z_R) : Option (Int32 × z_R) :=
(fX5_isAuthor N p1).bind fun r1 =>
(if r1 = 0 then
z_lt (z_u2 g 0 0 (1 : Int32)) fun g16 =>
(if (g16 0 0) ≤ 0 then
(lX5_author_43 N p1 p2 g16 N (0 : Int32) (0 : Int32))
else
some ((0 : Int32), g16))
else
(fX5_within N p2 (0 : Int32) (2 : Int32)).bind fun r3 =>
(if r3 = 0 then
z_lt (z_u2 g 0 0 (2 : Int32)) fun g5 =>
(if (g5 0 0) ≤ 0 then
(lX5_author_43 N p1 p2 g5 N (0 : Int32) (0 : Int32))
else
some ((0 : Int32), g5))
else
z_lt (z_u2 g 0 0 (0 : Int32)) fun g14 =>
(if (g14 0 0) ≤ 0 then
(lX5_author_43 N p1 p2 g14 N (0 : Int32) (0 : Int32))
else
some ((0 : Int32), g14))))
def fX5_at (N : Nat) (p1 : Int32) (g : z_R) : Option (Int32 × z_R) :=
(fX5_isPlace N p1 g).bind fun r1 =>
(if r1 = 0 then
z_lt (z_u2 g 0 0 (1 : Int32)) fun g3 =>
(if (g3 0 0) ≤ 0 then
(fX5_standing N p1 g3).bind fun r5 =>
some (r5, g3)
else
some ((0 : Int32), g3))
else
z_lt (z_u2 g 0 0 (0 : Int32)) fun g6 =>
(if (g6 0 0) ≤ 0 then
(fX5_standing N p1 g6).bind fun r8 =>
some (r8, g6)
else
some ((0 : Int32), g6)))
def fX5_jump (N : Nat) (p1 : Int32) (p2 : Int32) (g : z_R) : Option (Int32 × z_R) :=
(if p1 < 0 then
z_lt (z_u2 g 0 0 (1 : Int32)) fun g2 =>
(if (g2 0 0) ≤ 0 then
(if (g2 1 ((3 : Int32)).toNatClampNeg) ≤ p1 then
some ((-1 : Int32), g2)
else
z_ck (z_in (((157 : Int32) + ((3 : Int32) * p1)) + p2) 925) <|
some ((g2 1 ((((157 : Int32) + ((3 : Int32) * p1)) + p2)).toNatClampNeg), g2))
else
some ((0 : Int32), g2))
else
(fX5_within N p2 (0 : Int32) (2 : Int32)).bind fun r6 =>
(if r6 = 0 then
z_lt (z_u2 g 0 0 (1 : Int32)) fun g12 =>
(if (g12 0 0) ≤ 0 then
(if (g12 1 ((3 : Int32)).toNatClampNeg) ≤ p1 then
some ((-1 : Int32), g12)
else
z_ck (z_in (((157 : Int32) + ((3 : Int32) * p1)) + p2) 925) <|
some ((g12 1 ((((157 : Int32) + ((3 : Int32) * p1)) + p2)).toNatClampNeg), g12))
else
some ((0 : Int32), g12))
else
z_lt (z_u2 g 0 0 (0 : Int32)) fun g8 =>
(if (g8 0 0) ≤ 0 then
(if (g8 1 ((3 : Int32)).toNatClampNeg) ≤ p1 then
some ((-1 : Int32), g8)
else
z_ck (z_in (((157 : Int32) + ((3 : Int32) * p1)) + p2) 925) <|
some ((g8 1 ((((157 : Int32) + ((3 : Int32) * p1)) + p2)).toNatClampNeg), g8))
else
some ((0 : Int32), g8))))
def lX5_goAlong_23 (N : Nat) (k : Int32 → z_R → Option (Int32 × z_R)) : Nat → Int32 → z_R → Option (Int32 × z_R)
  | 0, _, _ => none
  | fu + 1, x2, g => (fX5_isOrder N x2 g).bind fun r2 =>
(if r2 = 0 then
(k x2 g)
else
z_ck (z_in x2 16) <|
(if (g 9 (x2).toNatClampNeg) = 0 then
z_ck (z_in x2 16) <|
z_lt (z_u2 g 9 (x2).toNatClampNeg (1 : Int32)) fun g7 =>
(fX5_part N x2 (2 : Int32) g7).bind fun r8 =>
(lX5_goAlong_23 N k fu r8 g7)
else
(k x2 g)))
def lX5_goAlong_2 (N : Nat) (x1 : Int32) : Nat → Int32 → z_R → Option (Int32 × z_R)
  | 0, _, _ => none
  | fu + 1, x2, g => (if (16 : Int32) ≤ x2 then
(lX5_goAlong_23 N (fun x2_23 g23_9 => (fX5_isOrder N x2_23 g23_9).bind fun r10 =>
(if r10 = 0 then
some ((-1 : Int32), g23_9)
else
some (x2_23, g23_9))) N x1 g)
else
z_ck (z_in x2 16) <|
z_lt (z_u2 g 9 (x2).toNatClampNeg (0 : Int32)) fun g13 =>
(lX5_goAlong_2 N x1 fu (x2 + (1 : Int32)) g13))
def fX5_goAlong (N : Nat) (p1 : Int32) (g : z_R) : Option (Int32 × z_R) :=
(lX5_goAlong_2 N p1 N (0 : Int32) g)
def lX5_chain_36 (N : Nat) (g : z_R) : Nat → Int32 → Int32 → Option (Int32 × z_R)
  | 0, _, _ => none
  | fu + 1, x2, x3 => (if (16 : Int32) ≤ x3 then
some (x2, g)
else
z_ck (z_in x3 16) <|
(lX5_chain_36 N g fu (x2 + (g 9 (x3).toNatClampNeg)) (x3 + (1 : Int32))))
def fX5_chain (N : Nat) (p1 : Int32) (g : z_R) : Option (Int32 × z_R) :=
(fX5_isOrder N p1 g).bind fun r1 =>
(if r1 = 0 then
z_lt (z_u2 g 0 0 (1 : Int32)) fun g3 =>
(if (g3 0 0) ≤ 0 then
z_b2 (fX5_goAlong N p1 g3) fun r5 g5 =>
(lX5_chain_36 N g5 N (0 : Int32) (0 : Int32))
else
some ((0 : Int32), g3))
else
z_lt (z_u2 g 0 0 (0 : Int32)) fun g8 =>
(if (g8 0 0) ≤ 0 then
z_b2 (fX5_goAlong N p1 g8) fun r10 g10 =>
(lX5_chain_36 N g10 N (0 : Int32) (0 : Int32))
else
some ((0 : Int32), g8)))
def lX5_ring_49 (N : Nat) (x2 : Int32) (g : z_R) : Nat → Int32 → Int32 → Option (Int32 × z_R)
  | 0, _, _ => none
  | fu + 1, x3, x4 => (if x4 = x2 then
some (x3, g)
else
(fX5_part N x4 (2 : Int32) g).bind fun r9 =>
(lX5_ring_49 N x2 g fu (x3 + (1 : Int32)) r9))
def fX5_ring (N : Nat) (p1 : Int32) (g : z_R) : Option (Int32 × z_R) :=
(fX5_isOrder N p1 g).bind fun r1 =>
(if r1 = 0 then
z_lt (z_u2 g 0 0 (1 : Int32)) fun g3 =>
(if (g3 0 0) ≤ 0 then
z_b2 (fX5_goAlong N p1 g3) fun r5 g5 =>
(if r5 = (-1 : Int32) then
some ((0 : Int32), g5)
else
(fX5_part N r5 (2 : Int32) g5).bind fun r7 =>
(lX5_ring_49 N r5 g5 N (1 : Int32) r7))
else
some ((0 : Int32), g3))
else
z_lt (z_u2 g 0 0 (0 : Int32)) fun g10 =>
(if (g10 0 0) ≤ 0 then
z_b2 (fX5_goAlong N p1 g10) fun r12 g12 =>
(if r12 = (-1 : Int32) then
some ((0 : Int32), g12)
else
(fX5_part N r12 (2 : Int32) g12).bind fun r14 =>
(lX5_ring_49 N r12 g12 N (1 : Int32) r14))
else
some ((0 : Int32), g10)))
def lX5_remember_11 (N : Nat) : Nat → Int32 → z_R → Option (z_R)
  | 0, _, _ => none
  | fu + 1, x1, g => (if (12025 : Int32) ≤ x1 then
z_lt (z_u2 g 0 1 ((g 0 1) - (1 : Int32))) fun g5 =>
(fX5_copy N 925 12950 (g5 1) (0 : Int32) ((g5 0 1) * (925 : Int32)) (g5 5)).bind fun u6 =>
z_lt (z_uR g5 5 u6) fun g6 =>
z_lt (z_u2 g6 0 1 ((g6 0 1) + (1 : Int32))) fun g7 =>
some g7
else
z_ck (z_in (x1 + (925 : Int32)) 12950) <|
z_ck (z_in x1 12950) <|
z_lt (z_u2 g 5 (x1).toNatClampNeg (g 5 ((x1 + (925 : Int32))).toNatClampNeg)) fun g10 =>
(lX5_remember_11 N fu (x1 + (1 : Int32)) g10))
def fX5_remember (N : Nat) (g : z_R) : Option (z_R) :=
(if (g 0 1) = (14 : Int32) then
(lX5_remember_11 N N (0 : Int32) g)
else
(fX5_copy N 925 12950 (g 1) (0 : Int32) ((g 0 1) * (925 : Int32)) (g 5)).bind fun u2 =>
z_lt (z_uR g 5 u2) fun g2 =>
z_lt (z_u2 g2 0 1 ((g2 0 1) + (1 : Int32))) fun g3 =>
some g3)
def fX5_refund (N : Nat) (p1 : Int32) (g : z_R) : Option (Int32 × z_R) :=
(fX5_part N p1 (7 : Int32) g).bind fun r1 =>
(fX5_part N p1 (0 : Int32) g).bind fun r2 =>
z_ck (z_in ((9 : Int32) + r2) 925) <|
z_ck (z_in ((9 : Int32) + r2) 925) <|
z_lt (z_u2 g 1 (((9 : Int32) + r2)).toNatClampNeg ((g 1 (((9 : Int32) + r2)).toNatClampNeg) + r1)) fun g5 =>
(fX5_setPart N p1 (7 : Int32) (0 : Int32) g5).bind fun g6 =>
some (r1, g6)
def lX5_takeOff_2 (N : Nat) : Nat → Int32 → z_R → Option (z_R)
  | 0, _, _ => none
  | fu + 1, x1, g => (if (g 1 ((2 : Int32)).toNatClampNeg) ≤ x1 then
some g
else
z_b2 (fX5_refund N x1 g) fun r2 g2 =>
(fX5_setPart N x1 (5 : Int32) (-1 : Int32) g2).bind fun g3 =>
(fX5_setPart N x1 (6 : Int32) (-1 : Int32) g3).bind fun g4 =>
(lX5_takeOff_2 N fu (x1 + (1 : Int32)) g4))
def fX5_takeOff (N : Nat) (g : z_R) : Option (z_R) :=
(lX5_takeOff_2 N N (0 : Int32) g)
def fX5_setDrum (N : Nat) (p1 : Int32) (g : z_R) : Option (Int32 × z_R) :=
(fX5_within N p1 (6 : Int32) (40 : Int32)).bind fun r1 =>
(if r1 = 0 then
z_lt (z_u2 g 0 0 (1 : Int32)) fun g3 =>
(if (g3 0 0) ≤ 0 then
(fX5_remember N  g3).bind fun g5 =>
(fX5_takeOff N  g5).bind fun g6 =>
z_lt (z_u2 g6 1 ((0 : Int32)).toNatClampNeg p1) fun g7 =>
some ((g5 1 ((0 : Int32)).toNatClampNeg), g7)
else
some ((0 : Int32), g3))
else
z_lt (z_u2 g 0 0 (0 : Int32)) fun g8 =>
(if (g8 0 0) ≤ 0 then
(fX5_remember N  g8).bind fun g10 =>
(fX5_takeOff N  g10).bind fun g11 =>
z_lt (z_u2 g11 1 ((0 : Int32)).toNatClampNeg p1) fun g12 =>
some ((g10 1 ((0 : Int32)).toNatClampNeg), g12)
else
some ((0 : Int32), g8)))
def fX5_isInRange (N : Nat) (p0 : Int32) (p1 : Int32) : Option Int32 :=
(if p0 = (0 : Int32) then
(fX5_isAuthor N p1).bind fun r2 =>
z_ck (z_bo r2) <|
some (r2)
else
(if p0 = (1 : Int32) then
(fX5_within N p1 (1 : Int32) (9 : Int32)).bind fun r4 =>
z_ck (z_bo r4) <|
some (r4)
else
(if p0 = (2 : Int32) then
(fX5_within N p1 (-1 : Int32) (15 : Int32)).bind fun r6 =>
z_ck (z_bo r6) <|
some (r6)
else
(if p0 = (3 : Int32) then
(fX5_within N p1 (-1 : Int32) (15 : Int32)).bind fun r8 =>
z_ck (z_bo r8) <|
some (r8)
else
(if p0 = (4 : Int32) then
(fX5_within N p1 (0 : Int32) (99 : Int32)).bind fun r10 =>
z_ck (z_bo r10) <|
some (r10)
else
some ((0 : Int32)))))))
def fX5_addOrder (N : Nat) (p1 : Int32) (p2 : Int32) (p3 : Int32) (p4 : Int32) (p5 : Int32) (g : z_R) : Option (Int32 × z_R) :=
(fX5_isInRange N (0 : Int32) p1).bind fun r1 =>
(if r1 = 0 then
z_lt (z_u2 g 0 0 (1 : Int32)) fun g3 =>
(if (g3 0 0) ≤ 0 then
(fX5_remember N  g3).bind fun g5 =>
(fX5_setPart N (g5 1 ((2 : Int32)).toNatClampNeg) (0 : Int32) p1 g5).bind fun g6 =>
(fX5_setPart N (g5 1 ((2 : Int32)).toNatClampNeg) (1 : Int32) p2 g6).bind fun g7 =>
(fX5_setPart N (g5 1 ((2 : Int32)).toNatClampNeg) (2 : Int32) p3 g7).bind fun g8 =>
(fX5_setPart N (g5 1 ((2 : Int32)).toNatClampNeg) (3 : Int32) p4 g8).bind fun g9 =>
(fX5_setPart N (g5 1 ((2 : Int32)).toNatClampNeg) (4 : Int32) p5 g9).bind fun g10 =>
(fX5_setPart N (g5 1 ((2 : Int32)).toNatClampNeg) (5 : Int32) (-1 : Int32) g10).bind fun g11 =>
(fX5_setPart N (g5 1 ((2 : Int32)).toNatClampNeg) (6 : Int32) (-1 : Int32) g11).bind fun g12 =>
(fX5_setPart N (g5 1 ((2 : Int32)).toNatClampNeg) (7 : Int32) (0 : Int32) g12).bind fun g13 =>
(fX5_setPart N (g5 1 ((2 : Int32)).toNatClampNeg) (8 : Int32) (-1 : Int32) g13).bind fun g14 =>
z_lt (z_u2 g14 1 ((2 : Int32)).toNatClampNeg ((g14 1 ((2 : Int32)).toNatClampNeg) + (1 : Int32))) fun g15 =>
some ((g5 1 ((2 : Int32)).toNatClampNeg), g15)
else
some ((0 : Int32), g3))
else
(fX5_isInRange N (1 : Int32) p2).bind fun r16 =>
(if r16 = 0 then
z_lt (z_u2 g 0 0 (1 : Int32)) fun g18 =>
(if (g18 0 0) ≤ 0 then
(fX5_remember N  g18).bind fun g20 =>
(fX5_setPart N (g20 1 ((2 : Int32)).toNatClampNeg) (0 : Int32) p1 g20).bind fun g21 =>
(fX5_setPart N (g20 1 ((2 : Int32)).toNatClampNeg) (1 : Int32) p2 g21).bind fun g22 =>
(fX5_setPart N (g20 1 ((2 : Int32)).toNatClampNeg) (2 : Int32) p3 g22).bind fun g23 =>
(fX5_setPart N (g20 1 ((2 : Int32)).toNatClampNeg) (3 : Int32) p4 g23).bind fun g24 =>
(fX5_setPart N (g20 1 ((2 : Int32)).toNatClampNeg) (4 : Int32) p5 g24).bind fun g25 =>
(fX5_setPart N (g20 1 ((2 : Int32)).toNatClampNeg) (5 : Int32) (-1 : Int32) g25).bind fun g26 =>
(fX5_setPart N (g20 1 ((2 : Int32)).toNatClampNeg) (6 : Int32) (-1 : Int32) g26).bind fun g27 =>
(fX5_setPart N (g20 1 ((2 : Int32)).toNatClampNeg) (7 : Int32) (0 : Int32) g27).bind fun g28 =>
(fX5_setPart N (g20 1 ((2 : Int32)).toNatClampNeg) (8 : Int32) (-1 : Int32) g28).bind fun g29 =>
z_lt (z_u2 g29 1 ((2 : Int32)).toNatClampNeg ((g29 1 ((2 : Int32)).toNatClampNeg) + (1 : Int32))) fun g30 =>
some ((g20 1 ((2 : Int32)).toNatClampNeg), g30)
else
some ((0 : Int32), g18))
else
(fX5_isInRange N (2 : Int32) p3).bind fun r31 =>
(if r31 = 0 then
z_lt (z_u2 g 0 0 (1 : Int32)) fun g33 =>
(if (g33 0 0) ≤ 0 then
(fX5_remember N  g33).bind fun g35 =>
(fX5_setPart N (g35 1 ((2 : Int32)).toNatClampNeg) (0 : Int32) p1 g35).bind fun g36 =>
(fX5_setPart N (g35 1 ((2 : Int32)).toNatClampNeg) (1 : Int32) p2 g36).bind fun g37 =>
(fX5_setPart N (g35 1 ((2 : Int32)).toNatClampNeg) (2 : Int32) p3 g37).bind fun g38 =>
(fX5_setPart N (g35 1 ((2 : Int32)).toNatClampNeg) (3 : Int32) p4 g38).bind fun g39 =>
(fX5_setPart N (g35 1 ((2 : Int32)).toNatClampNeg) (4 : Int32) p5 g39).bind fun g40 =>
(fX5_setPart N (g35 1 ((2 : Int32)).toNatClampNeg) (5 : Int32) (-1 : Int32) g40).bind fun g41 =>
(fX5_setPart N (g35 1 ((2 : Int32)).toNatClampNeg) (6 : Int32) (-1 : Int32) g41).bind fun g42 =>
(fX5_setPart N (g35 1 ((2 : Int32)).toNatClampNeg) (7 : Int32) (0 : Int32) g42).bind fun g43 =>
(fX5_setPart N (g35 1 ((2 : Int32)).toNatClampNeg) (8 : Int32) (-1 : Int32) g43).bind fun g44 =>
z_lt (z_u2 g44 1 ((2 : Int32)).toNatClampNeg ((g44 1 ((2 : Int32)).toNatClampNeg) + (1 : Int32))) fun g45 =>
some ((g35 1 ((2 : Int32)).toNatClampNeg), g45)
else
some ((0 : Int32), g33))
else
(fX5_isInRange N (3 : Int32) p4).bind fun r46 =>
(if r46 = 0 then
z_lt (z_u2 g 0 0 (1 : Int32)) fun g48 =>
(if (g48 0 0) ≤ 0 then
(fX5_remember N  g48).bind fun g50 =>
(fX5_setPart N (g50 1 ((2 : Int32)).toNatClampNeg) (0 : Int32) p1 g50).bind fun g51 =>
(fX5_setPart N (g50 1 ((2 : Int32)).toNatClampNeg) (1 : Int32) p2 g51).bind fun g52 =>
(fX5_setPart N (g50 1 ((2 : Int32)).toNatClampNeg) (2 : Int32) p3 g52).bind fun g53 =>
(fX5_setPart N (g50 1 ((2 : Int32)).toNatClampNeg) (3 : Int32) p4 g53).bind fun g54 =>
(fX5_setPart N (g50 1 ((2 : Int32)).toNatClampNeg) (4 : Int32) p5 g54).bind fun g55 =>
(fX5_setPart N (g50 1 ((2 : Int32)).toNatClampNeg) (5 : Int32) (-1 : Int32) g55).bind fun g56 =>
(fX5_setPart N (g50 1 ((2 : Int32)).toNatClampNeg) (6 : Int32) (-1 : Int32) g56).bind fun g57 =>
(fX5_setPart N (g50 1 ((2 : Int32)).toNatClampNeg) (7 : Int32) (0 : Int32) g57).bind fun g58 =>
(fX5_setPart N (g50 1 ((2 : Int32)).toNatClampNeg) (8 : Int32) (-1 : Int32) g58).bind fun g59 =>
z_lt (z_u2 g59 1 ((2 : Int32)).toNatClampNeg ((g59 1 ((2 : Int32)).toNatClampNeg) + (1 : Int32))) fun g60 =>
some ((g50 1 ((2 : Int32)).toNatClampNeg), g60)
else
some ((0 : Int32), g48))
else
(fX5_isInRange N (4 : Int32) p5).bind fun r61 =>
(if r61 = 0 then
z_lt (z_u2 g 0 0 (1 : Int32)) fun g63 =>
(if (g63 0 0) ≤ 0 then
(fX5_remember N  g63).bind fun g65 =>
(fX5_setPart N (g65 1 ((2 : Int32)).toNatClampNeg) (0 : Int32) p1 g65).bind fun g66 =>
(fX5_setPart N (g65 1 ((2 : Int32)).toNatClampNeg) (1 : Int32) p2 g66).bind fun g67 =>
(fX5_setPart N (g65 1 ((2 : Int32)).toNatClampNeg) (2 : Int32) p3 g67).bind fun g68 =>
(fX5_setPart N (g65 1 ((2 : Int32)).toNatClampNeg) (3 : Int32) p4 g68).bind fun g69 =>
(fX5_setPart N (g65 1 ((2 : Int32)).toNatClampNeg) (4 : Int32) p5 g69).bind fun g70 =>
(fX5_setPart N (g65 1 ((2 : Int32)).toNatClampNeg) (5 : Int32) (-1 : Int32) g70).bind fun g71 =>
(fX5_setPart N (g65 1 ((2 : Int32)).toNatClampNeg) (6 : Int32) (-1 : Int32) g71).bind fun g72 =>
(fX5_setPart N (g65 1 ((2 : Int32)).toNatClampNeg) (7 : Int32) (0 : Int32) g72).bind fun g73 =>
(fX5_setPart N (g65 1 ((2 : Int32)).toNatClampNeg) (8 : Int32) (-1 : Int32) g73).bind fun g74 =>
z_lt (z_u2 g74 1 ((2 : Int32)).toNatClampNeg ((g74 1 ((2 : Int32)).toNatClampNeg) + (1 : Int32))) fun g75 =>
some ((g65 1 ((2 : Int32)).toNatClampNeg), g75)
else
some ((0 : Int32), g63))
else
(if (g 1 ((2 : Int32)).toNatClampNeg) = (16 : Int32) then
z_lt (z_u2 g 0 0 (2 : Int32)) fun g90 =>
(if (g90 0 0) ≤ 0 then
(fX5_remember N  g90).bind fun g92 =>
(fX5_setPart N (g92 1 ((2 : Int32)).toNatClampNeg) (0 : Int32) p1 g92).bind fun g93 =>
(fX5_setPart N (g92 1 ((2 : Int32)).toNatClampNeg) (1 : Int32) p2 g93).bind fun g94 =>
(fX5_setPart N (g92 1 ((2 : Int32)).toNatClampNeg) (2 : Int32) p3 g94).bind fun g95 =>
(fX5_setPart N (g92 1 ((2 : Int32)).toNatClampNeg) (3 : Int32) p4 g95).bind fun g96 =>
(fX5_setPart N (g92 1 ((2 : Int32)).toNatClampNeg) (4 : Int32) p5 g96).bind fun g97 =>
(fX5_setPart N (g92 1 ((2 : Int32)).toNatClampNeg) (5 : Int32) (-1 : Int32) g97).bind fun g98 =>
(fX5_setPart N (g92 1 ((2 : Int32)).toNatClampNeg) (6 : Int32) (-1 : Int32) g98).bind fun g99 =>
(fX5_setPart N (g92 1 ((2 : Int32)).toNatClampNeg) (7 : Int32) (0 : Int32) g99).bind fun g100 =>
(fX5_setPart N (g92 1 ((2 : Int32)).toNatClampNeg) (8 : Int32) (-1 : Int32) g100).bind fun g101 =>
z_lt (z_u2 g101 1 ((2 : Int32)).toNatClampNeg ((g101 1 ((2 : Int32)).toNatClampNeg) + (1 : Int32))) fun g102 =>
some ((g92 1 ((2 : Int32)).toNatClampNeg), g102)
else
some ((0 : Int32), g90))
else
z_lt (z_u2 g 0 0 (0 : Int32)) fun g77 =>
(if (g77 0 0) ≤ 0 then
(fX5_remember N  g77).bind fun g79 =>
(fX5_setPart N (g79 1 ((2 : Int32)).toNatClampNeg) (0 : Int32) p1 g79).bind fun g80 =>
(fX5_setPart N (g79 1 ((2 : Int32)).toNatClampNeg) (1 : Int32) p2 g80).bind fun g81 =>
(fX5_setPart N (g79 1 ((2 : Int32)).toNatClampNeg) (2 : Int32) p3 g81).bind fun g82 =>
(fX5_setPart N (g79 1 ((2 : Int32)).toNatClampNeg) (3 : Int32) p4 g82).bind fun g83 =>
(fX5_setPart N (g79 1 ((2 : Int32)).toNatClampNeg) (4 : Int32) p5 g83).bind fun g84 =>
(fX5_setPart N (g79 1 ((2 : Int32)).toNatClampNeg) (5 : Int32) (-1 : Int32) g84).bind fun g85 =>
(fX5_setPart N (g79 1 ((2 : Int32)).toNatClampNeg) (6 : Int32) (-1 : Int32) g85).bind fun g86 =>
(fX5_setPart N (g79 1 ((2 : Int32)).toNatClampNeg) (7 : Int32) (0 : Int32) g86).bind fun g87 =>
(fX5_setPart N (g79 1 ((2 : Int32)).toNatClampNeg) (8 : Int32) (-1 : Int32) g87).bind fun g88 =>
z_lt (z_u2 g88 1 ((2 : Int32)).toNatClampNeg ((g88 1 ((2 : Int32)).toNatClampNeg) + (1 : Int32))) fun g89 =>
some ((g79 1 ((2 : Int32)).toNatClampNeg), g89)
else
some ((0 : Int32), g77))))))))
def fX5_change (N : Nat) (p1 : Int32) (p2 : Int32) (p3 : Int32) (g : z_R) : Option (Int32 × z_R) :=
(fX5_isOrder N p1 g).bind fun r1 =>
(if r1 = 0 then
z_lt (z_u2 g 0 0 (1 : Int32)) fun g15 =>
(if (g15 0 0) ≤ 0 then
(fX5_remember N  g15).bind fun g17 =>
(fX5_part N p1 p2 g17).bind fun r18 =>
(fX5_setPart N p1 p2 p3 g17).bind fun g19 =>
some (r18, g19)
else
some ((0 : Int32), g15))
else
(fX5_isInRange N p2 p3).bind fun r3 =>
(if r3 = 0 then
z_lt (z_u2 g 0 0 (2 : Int32)) fun g5 =>
(if (g5 0 0) ≤ 0 then
(fX5_remember N  g5).bind fun g7 =>
(fX5_part N p1 p2 g7).bind fun r8 =>
(fX5_setPart N p1 p2 p3 g7).bind fun g9 =>
some (r8, g9)
else
some ((0 : Int32), g5))
else
z_lt (z_u2 g 0 0 (0 : Int32)) fun g10 =>
(if (g10 0 0) ≤ 0 then
(fX5_remember N  g10).bind fun g12 =>
(fX5_part N p1 p2 g12).bind fun r13 =>
(fX5_setPart N p1 p2 p3 g12).bind fun g14 =>
some (r13, g14)
else
some ((0 : Int32), g10))))
def fX5_whyNotMoved (N : Nat) (p1 : Int32) (p2 : Int32) (g : z_R) : Option Int32 :=
(fX5_isOrder N p1 g).bind fun r1 =>
(if r1 = 0 then
some ((1 : Int32))
else
(fX5_isPlace N p2 g).bind fun r3 =>
(if r3 = 0 then
some ((1 : Int32))
else
(fX5_standing N p2 g).bind fun r5 =>
(if r5 = (-1 : Int32) then
some ((0 : Int32))
else
(if r5 = p1 then
some ((0 : Int32))
else
some ((2 : Int32))))))
def fX5_moved (N : Nat) (p1 : Int32) (p2 : Int32) (g : z_R) : Option (Int32 × z_R) :=
(fX5_setPart N p1 (5 : Int32) p2 g).bind fun g1 =>
(fX5_setPart N p1 (6 : Int32) (-1 : Int32) g1).bind fun g2 =>
z_b2 (fX5_refund N p1 g2) fun r3 g3 =>
some (r3, g3)
def fX5_move (N : Nat) (p1 : Int32) (p2 : Int32) (g : z_R) : Option (Int32 × z_R) :=
(fX5_whyNotMoved N p1 p2 g).bind fun r1 =>
z_lt (z_u2 g 0 0 r1) fun g2 =>
(if (g2 0 0) ≤ 0 then
(fX5_remember N  g2).bind fun g4 =>
z_b2 (fX5_moved N p1 p2 g4) fun r5 g5 =>
some (r5, g5)
else
some ((0 : Int32), g2))
def lX5_wanted_53 (N : Nat) (x1 : Int32) (g : z_R) : Nat → Int32 → Int32 → Option Int32
  | 0, _, _ => none
  | fu + 1, x2, x4 => (if x4 < 0 then
z_ck (z_nz (g 1 ((0 : Int32)).toNatClampNeg)) <|
some (((x2 + ((2 : Int32) * (g 1 ((0 : Int32)).toNatClampNeg))) - (x2 + ((2 : Int32) * (g 1 ((0 : Int32)).toNatClampNeg))) / (g 1 ((0 : Int32)).toNatClampNeg) * (g 1 ((0 : Int32)).toNatClampNeg)))
else
(fX5_part N x4 (5 : Int32) g).bind fun r6 =>
(if r6 = (-1 : Int32) then
(lX5_wanted_53 N x1 g fu x2 (x4 + (-1 : Int32)))
else
(fX5_part N x4 (2 : Int32) g).bind fun r8 =>
(if r8 = x1 then
(fX5_part N x4 (5 : Int32) g).bind fun r10 =>
(fX5_part N x4 (1 : Int32) g).bind fun r11 =>
(lX5_wanted_53 N x1 g fu ((r10 + (1 : Int32)) + r11) (x4 + (-1 : Int32)))
else
(lX5_wanted_53 N x1 g fu x2 (x4 + (-1 : Int32))))))
def fX5_wanted (N : Nat) (p1 : Int32) (g : z_R) : Option Int32 :=
(fX5_part N p1 (2 : Int32) g).bind fun r1 =>
(fX5_isOrder N r1 g).bind fun r2 =>
(if r2 = 0 then
(lX5_wanted_53 N p1 g N (0 : Int32) ((g 1 ((2 : Int32)).toNatClampNeg) - (1 : Int32)))
else
(fX5_part N r1 (5 : Int32) g).bind fun r12 =>
(if r12 = (-1 : Int32) then
(lX5_wanted_53 N p1 g N (0 : Int32) ((g 1 ((2 : Int32)).toNatClampNeg) - (1 : Int32)))
else
(fX5_part N r1 (5 : Int32) g).bind fun r14 =>
(fX5_part N p1 (1 : Int32) g).bind fun r15 =>
(lX5_wanted_53 N p1 g N ((r14 - (1 : Int32)) - r15) ((g 1 ((2 : Int32)).toNatClampNeg) - (1 : Int32)))))
def lX5_laid_45 (N : Nat) (x1 : Int32) (x2 : Int32) (x3 : Int32) (x4 : Int32) (g : z_R) (k : Int32 → Option (Int32 × z_R)) : Nat → Int32 → Option (Int32 × z_R)
  | 0, _ => none
  | fu + 1, x5 => (if (g 1 ((0 : Int32)).toNatClampNeg) ≤ x5 then
(k x5)
else
z_ck (z_nz (g 1 ((0 : Int32)).toNatClampNeg)) <|
(fX5_standing N ((x4 + x5) - (x4 + x5) / (g 1 ((0 : Int32)).toNatClampNeg) * (g 1 ((0 : Int32)).toNatClampNeg)) g).bind fun r9 =>
(if r9 = (-1 : Int32) then
(k x5)
else
(lX5_laid_45 N x1 x2 x3 x4 g k fu (x5 + (1 : Int32)))))
def lX5_laid_15 (N : Nat) (x2 : Int32) (k : Int32 → z_R → Option (Int32 × z_R)) : Nat → Int32 → Int32 → z_R → Option (Int32 × z_R)
  | 0, _, _, _ => none
  | fu + 1, x1, x3, g => (if (g 1 ((2 : Int32)).toNatClampNeg) ≤ x3 then
(k x1 g)
else
(fX5_part N x3 (4 : Int32) g).bind fun r4 =>
(if r4 = x2 then
(fX5_wanted N x3 g).bind fun r6 =>
(lX5_laid_45 N x1 x2 x3 r6 g (fun x5_45 => (if (g 1 ((0 : Int32)).toNatClampNeg) ≤ x5_45 then
(lX5_laid_15 N x2 k fu x1 (x3 + (1 : Int32)) g)
else
z_ck (z_nz (g 1 ((0 : Int32)).toNatClampNeg)) <|
(fX5_setPart N x3 (5 : Int32) ((r6 + x5_45) - (r6 + x5_45) / (g 1 ((0 : Int32)).toNatClampNeg) * (g 1 ((0 : Int32)).toNatClampNeg)) g).bind fun g13 =>
(fX5_setPart N x3 (6 : Int32) x5_45 g13).bind fun g14 =>
(fX5_setPart N x3 (7 : Int32) x2 g14).bind fun g15 =>
(fX5_part N x3 (0 : Int32) g15).bind fun r16 =>
z_ck (z_in ((5 : Int32) + r16) 925) <|
z_ck (z_in ((5 : Int32) + r16) 925) <|
z_lt (z_u2 g15 1 (((5 : Int32) + r16)).toNatClampNeg ((g15 1 (((5 : Int32) + r16)).toNatClampNeg) + x2)) fun g19 =>
(lX5_laid_15 N x2 k fu (x1 + x5_45) (x3 + (1 : Int32)) g19))) N (0 : Int32))
else
(lX5_laid_15 N x2 k fu x1 (x3 + (1 : Int32)) g)))
def lX5_laid_9 (N : Nat) : Nat → Int32 → Int32 → z_R → Option (Int32 × z_R)
  | 0, _, _, _ => none
  | fu + 1, x1, x2, g => (if x2 < 0 then
some (x1, g)
else
(lX5_laid_15 N x2 (fun x1_15 g15_20 => (lX5_laid_9 N fu x1_15 (x2 + (-1 : Int32)) g15_20)) N x1 (0 : Int32) g))
def fX5_laid (N : Nat) (g : z_R) : Option (Int32 × z_R) :=
(fX5_takeOff N  g).bind fun g1 =>
(lX5_laid_9 N N (0 : Int32) (99 : Int32) g1)
def fX5_lay (N : Nat) (g : z_R) : Option (Int32 × z_R) :=
z_lt (z_u2 g 0 0 (0 : Int32)) fun g1 =>
(fX5_remember N  g1).bind fun g2 =>
z_b2 (fX5_laid N  g2) fun r3 g3 =>
some (r3, g3)
def lX5_noteJump_2 (N : Nat) (x1 : Int32) (x2 : Int32) (g : z_R) (k : Int32 → Option (z_R)) : Nat → Int32 → Option (z_R)
  | 0, _ => none
  | fu + 1, x3 => (if (g 1 ((3 : Int32)).toNatClampNeg) ≤ x3 then
(k x3)
else
z_ck (z_in ((157 : Int32) + ((3 : Int32) * x3)) 925) <|
(if (g 1 (((157 : Int32) + ((3 : Int32) * x3))).toNatClampNeg) = x1 then
z_ck (z_in (((157 : Int32) + ((3 : Int32) * x3)) + (1 : Int32)) 925) <|
(if (g 1 ((((157 : Int32) + ((3 : Int32) * x3)) + (1 : Int32))).toNatClampNeg) = x2 then
(k x3)
else
(lX5_noteJump_2 N x1 x2 g k fu (x3 + (1 : Int32))))
else
(lX5_noteJump_2 N x1 x2 g k fu (x3 + (1 : Int32)))))
def fX5_noteJump (N : Nat) (p1 : Int32) (p2 : Int32) (g : z_R) : Option (z_R) :=
(lX5_noteJump_2 N p1 p2 g (fun x3_2 => (if x3_2 = (g 1 ((3 : Int32)).toNatClampNeg) then
z_ck (z_in ((157 : Int32) + ((3 : Int32) * x3_2)) 925) <|
z_lt (z_u2 g 1 (((157 : Int32) + ((3 : Int32) * x3_2))).toNatClampNeg p1) fun g11 =>
z_ck (z_in (((157 : Int32) + ((3 : Int32) * x3_2)) + (1 : Int32)) 925) <|
z_lt (z_u2 g11 1 ((((157 : Int32) + ((3 : Int32) * x3_2)) + (1 : Int32))).toNatClampNeg p2) fun g13 =>
z_ck (z_in (((157 : Int32) + ((3 : Int32) * x3_2)) + (2 : Int32)) 925) <|
z_lt (z_u2 g13 1 ((((157 : Int32) + ((3 : Int32) * x3_2)) + (2 : Int32))).toNatClampNeg (0 : Int32)) fun g15 =>
z_lt (z_u2 g15 1 ((3 : Int32)).toNatClampNeg ((g15 1 ((3 : Int32)).toNatClampNeg) + (1 : Int32))) fun g16 =>
z_ck (z_in (((157 : Int32) + ((3 : Int32) * x3_2)) + (2 : Int32)) 925) <|
z_ck (z_in (((157 : Int32) + ((3 : Int32) * x3_2)) + (2 : Int32)) 925) <|
z_lt (z_u2 g16 1 ((((157 : Int32) + ((3 : Int32) * x3_2)) + (2 : Int32))).toNatClampNeg ((g16 1 ((((157 : Int32) + ((3 : Int32) * x3_2)) + (2 : Int32))).toNatClampNeg) + (1 : Int32))) fun g19 =>
some g19
else
z_ck (z_in (((157 : Int32) + ((3 : Int32) * x3_2)) + (2 : Int32)) 925) <|
z_ck (z_in (((157 : Int32) + ((3 : Int32) * x3_2)) + (2 : Int32)) 925) <|
z_lt (z_u2 g 1 ((((157 : Int32) + ((3 : Int32) * x3_2)) + (2 : Int32))).toNatClampNeg ((g 1 ((((157 : Int32) + ((3 : Int32) * x3_2)) + (2 : Int32))).toNatClampNeg) + (1 : Int32))) fun g9 =>
some g9)) N (0 : Int32))
def fX5_waitOf (N : Nat) (p1 : Int32) (g : z_R) : Option Int32 :=
(fX5_part N p1 (5 : Int32) g).bind fun r1 =>
(fX5_comingBy N  g).bind fun r2 =>
z_ck (z_nz (g 1 ((0 : Int32)).toNatClampNeg)) <|
some ((((r1 + (g 1 ((0 : Int32)).toNatClampNeg)) - r2) - ((r1 + (g 1 ((0 : Int32)).toNatClampNeg)) - r2) / (g 1 ((0 : Int32)).toNatClampNeg) * (g 1 ((0 : Int32)).toNatClampNeg)))
def fX5_reads (N : Nat) (p1 : Int32) (p2 : Int32) (g : z_R) : Option (z_R) :=
(fX5_waitOf N p1 g).bind fun r1 =>
z_lt (z_u2 g 1 ((1 : Int32)).toNatClampNeg ((g 1 ((1 : Int32)).toNatClampNeg) + r1)) fun g2 =>
(fX5_setPart N p1 (8 : Int32) r1 g2).bind fun g3 =>
(if p2 = 0 then
(if p2 = 0 then
(fX5_part N p1 (1 : Int32) g3).bind fun r6 =>
z_lt (z_u2 g3 1 ((1 : Int32)).toNatClampNeg ((g3 1 ((1 : Int32)).toNatClampNeg) + ((1 : Int32) + r6))) fun g7 =>
some g7
else
(fX5_setPart N p1 (7 : Int32) (0 : Int32) g3).bind fun g8 =>
(fX5_part N p1 (1 : Int32) g8).bind fun r9 =>
z_lt (z_u2 g8 1 ((1 : Int32)).toNatClampNeg ((g8 1 ((1 : Int32)).toNatClampNeg) + ((1 : Int32) + r9))) fun g10 =>
some g10)
else
(if r1 ≤ 0 then
(if p2 = 0 then
(fX5_part N p1 (1 : Int32) g3).bind fun r13 =>
z_lt (z_u2 g3 1 ((1 : Int32)).toNatClampNeg ((g3 1 ((1 : Int32)).toNatClampNeg) + ((1 : Int32) + r13))) fun g14 =>
some g14
else
(fX5_setPart N p1 (7 : Int32) (0 : Int32) g3).bind fun g15 =>
(fX5_part N p1 (1 : Int32) g15).bind fun r16 =>
z_lt (z_u2 g15 1 ((1 : Int32)).toNatClampNeg ((g15 1 ((1 : Int32)).toNatClampNeg) + ((1 : Int32) + r16))) fun g17 =>
some g17)
else
z_b2 (fX5_refund N p1 g3) fun r18 g18 =>
(if p2 = 0 then
(fX5_part N p1 (1 : Int32) g18).bind fun r20 =>
z_lt (z_u2 g18 1 ((1 : Int32)).toNatClampNeg ((g18 1 ((1 : Int32)).toNatClampNeg) + ((1 : Int32) + r20))) fun g21 =>
some g21
else
(fX5_setPart N p1 (7 : Int32) (0 : Int32) g18).bind fun g22 =>
(fX5_part N p1 (1 : Int32) g22).bind fun r23 =>
z_lt (z_u2 g22 1 ((1 : Int32)).toNatClampNeg ((g22 1 ((1 : Int32)).toNatClampNeg) + ((1 : Int32) + r23))) fun g24 =>
some g24)))
def lX5_runs_10 (N : Nat) : Nat → Int32 → Int32 → Int32 → Int32 → z_R → Option (Int32 × z_R)
  | 0, _, _, _, _, _ => none
  | fu + 1, x2, x3, x4, x5, g => (if x4 = (-1 : Int32) then
(fX5_isOrder N x2 g).bind fun r3 =>
(if r3 = 0 then
(lX5_runs_10 N fu x2 x3 (3 : Int32) x5 g)
else
(fX5_part N x2 (5 : Int32) g).bind fun r5 =>
(if r5 = (-1 : Int32) then
(lX5_runs_10 N fu x2 x3 (3 : Int32) x5 g)
else
(if x3 = (-1 : Int32) then
(if x5 = (99 : Int32) then
(lX5_runs_10 N fu x2 x3 (2 : Int32) x5 g)
else
(if x3 = (-1 : Int32) then
(fX5_reads N x2 (0 : Int32) g).bind fun g10 =>
(fX5_part N x2 (2 : Int32) g10).bind fun r11 =>
(if r11 = (-1 : Int32) then
(lX5_runs_10 N fu r11 x2 (0 : Int32) (x5 + (1 : Int32)) g10)
else
(fX5_noteJump N x2 r11 g10).bind fun g13 =>
(lX5_runs_10 N fu r11 x2 x4 (x5 + (1 : Int32)) g13))
else
(fX5_reads N x2 (1 : Int32) g).bind fun g14 =>
(fX5_part N x2 (2 : Int32) g14).bind fun r15 =>
(if r15 = (-1 : Int32) then
(lX5_runs_10 N fu r15 x2 (0 : Int32) (x5 + (1 : Int32)) g14)
else
(fX5_noteJump N x2 r15 g14).bind fun g17 =>
(lX5_runs_10 N fu r15 x2 x4 (x5 + (1 : Int32)) g17))))
else
(fX5_part N x2 (3 : Int32) g).bind fun r18 =>
(if r18 = (-1 : Int32) then
(if x5 = (99 : Int32) then
(lX5_runs_10 N fu x2 x3 (2 : Int32) x5 g)
else
(if x3 = (-1 : Int32) then
(fX5_reads N x2 (0 : Int32) g).bind fun g22 =>
(fX5_part N x2 (2 : Int32) g22).bind fun r23 =>
(if r23 = (-1 : Int32) then
(lX5_runs_10 N fu r23 x2 (0 : Int32) (x5 + (1 : Int32)) g22)
else
(fX5_noteJump N x2 r23 g22).bind fun g25 =>
(lX5_runs_10 N fu r23 x2 x4 (x5 + (1 : Int32)) g25))
else
(fX5_reads N x2 (1 : Int32) g).bind fun g26 =>
(fX5_part N x2 (2 : Int32) g26).bind fun r27 =>
(if r27 = (-1 : Int32) then
(lX5_runs_10 N fu r27 x2 (0 : Int32) (x5 + (1 : Int32)) g26)
else
(fX5_noteJump N x2 r27 g26).bind fun g29 =>
(lX5_runs_10 N fu r27 x2 x4 (x5 + (1 : Int32)) g29))))
else
(fX5_part N x2 (3 : Int32) g).bind fun r30 =>
(if r30 = x3 then
(if x5 = (99 : Int32) then
(lX5_runs_10 N fu x2 x3 (2 : Int32) x5 g)
else
(if x3 = (-1 : Int32) then
(fX5_reads N x2 (0 : Int32) g).bind fun g34 =>
(fX5_part N x2 (2 : Int32) g34).bind fun r35 =>
(if r35 = (-1 : Int32) then
(lX5_runs_10 N fu r35 x2 (0 : Int32) (x5 + (1 : Int32)) g34)
else
(fX5_noteJump N x2 r35 g34).bind fun g37 =>
(lX5_runs_10 N fu r35 x2 x4 (x5 + (1 : Int32)) g37))
else
(fX5_reads N x2 (1 : Int32) g).bind fun g38 =>
(fX5_part N x2 (2 : Int32) g38).bind fun r39 =>
(if r39 = (-1 : Int32) then
(lX5_runs_10 N fu r39 x2 (0 : Int32) (x5 + (1 : Int32)) g38)
else
(fX5_noteJump N x2 r39 g38).bind fun g41 =>
(lX5_runs_10 N fu r39 x2 x4 (x5 + (1 : Int32)) g41))))
else
(lX5_runs_10 N fu x2 x3 (1 : Int32) x5 g))))))
else
z_lt (z_u2 g 1 ((4 : Int32)).toNatClampNeg x4) fun g2 =>
some (x4, g2))
def fX5_runs (N : Nat) (p1 : Int32) (g : z_R) : Option (Int32 × z_R) :=
(lX5_runs_10 N N p1 (-1 : Int32) (-1 : Int32) (0 : Int32) g)
def fX5_run (N : Nat) (p1 : Int32) (g : z_R) : Option (Int32 × z_R) :=
(fX5_isOrder N p1 g).bind fun r1 =>
(if r1 = 0 then
z_lt (z_u2 g 0 0 (1 : Int32)) fun g3 =>
(if (g3 0 0) ≤ 0 then
(fX5_remember N  g3).bind fun g5 =>
z_b2 (fX5_runs N p1 g5) fun r6 g6 =>
some (r6, g6)
else
some ((0 : Int32), g3))
else
z_lt (z_u2 g 0 0 (0 : Int32)) fun g7 =>
(if (g7 0 0) ≤ 0 then
(fX5_remember N  g7).bind fun g9 =>
z_b2 (fX5_runs N p1 g9) fun r10 g10 =>
some (r10, g10)
else
some ((0 : Int32), g7)))
def fX5_turn (N : Nat) (p1 : Int32) (g : z_R) : Option (Int32 × z_R) :=
(fX5_within N p1 (1 : Int32) (99 : Int32)).bind fun r1 =>
(if r1 = 0 then
z_lt (z_u2 g 0 0 (1 : Int32)) fun g3 =>
(if (g3 0 0) ≤ 0 then
(fX5_remember N  g3).bind fun g5 =>
z_lt (z_u2 g5 1 ((1 : Int32)).toNatClampNeg ((g5 1 ((1 : Int32)).toNatClampNeg) + p1)) fun g6 =>
(fX5_comingBy N  g6).bind fun r7 =>
some (r7, g6)
else
some ((0 : Int32), g3))
else
z_lt (z_u2 g 0 0 (0 : Int32)) fun g8 =>
(if (g8 0 0) ≤ 0 then
(fX5_remember N  g8).bind fun g10 =>
z_lt (z_u2 g10 1 ((1 : Int32)).toNatClampNeg ((g10 1 ((1 : Int32)).toNatClampNeg) + p1)) fun g11 =>
(fX5_comingBy N  g11).bind fun r12 =>
some (r12, g11)
else
some ((0 : Int32), g8)))
def fX5_undo (N : Nat) (g : z_R) : Option (Int32 × z_R) :=
(if (g 0 1) ≤ 0 then
z_lt (z_u2 g 0 0 (1 : Int32)) fun g2 =>
(if (g2 0 0) ≤ 0 then
z_lt (z_u2 g2 0 1 ((g2 0 1) - (1 : Int32))) fun g4 =>
(fX5_copy N 12950 925 (g4 5) ((g4 0 1) * (925 : Int32)) (0 : Int32) (g4 1)).bind fun u5 =>
z_lt (z_uR g4 1 u5) fun g5 =>
some ((g5 0 1), g5)
else
some ((0 : Int32), g2))
else
z_lt (z_u2 g 0 0 (0 : Int32)) fun g6 =>
(if (g6 0 0) ≤ 0 then
z_lt (z_u2 g6 0 1 ((g6 0 1) - (1 : Int32))) fun g8 =>
(fX5_copy N 12950 925 (g8 5) ((g8 0 1) * (925 : Int32)) (0 : Int32) (g8 1)).bind fun u9 =>
z_lt (z_uR g8 1 u9) fun g9 =>
some ((g9 0 1), g9)
else
some ((0 : Int32), g6)))
def fX5_waits (N : Nat) (p1 : Int32) (g : z_R) : Option (Int32 × z_R) :=
(fX5_isOrder N p1 g).bind fun r1 =>
(if r1 = 0 then
z_lt (z_u2 g 0 0 (1 : Int32)) fun g3 =>
(if (g3 0 0) ≤ 0 then
(fX5_part N p1 (5 : Int32) g3).bind fun r5 =>
(if r5 = (-1 : Int32) then
some ((-1 : Int32), g3)
else
(fX5_waitOf N p1 g3).bind fun r7 =>
some (r7, g3))
else
some ((0 : Int32), g3))
else
z_lt (z_u2 g 0 0 (0 : Int32)) fun g8 =>
(if (g8 0 0) ≤ 0 then
(fX5_part N p1 (5 : Int32) g8).bind fun r10 =>
(if r10 = (-1 : Int32) then
some ((-1 : Int32), g8)
else
(fX5_waitOf N p1 g8).bind fun r12 =>
some (r12, g8))
else
some ((0 : Int32), g8)))
def fX5_ticksOf (N : Nat) (p1 : Int32) (g : z_R) : Option (Int32 × z_R) :=
(fX5_copy N 925 925 (g 1) (0 : Int32) (0 : Int32) (g 2)).bind fun u1 =>
z_lt (z_uR g 2 u1) fun g1 =>
z_b2 (fX5_runs N p1 g1) fun r2 g2 =>
z_lt (z_u2 g2 0 3 (g2 1 ((4 : Int32)).toNatClampNeg)) fun g3 =>
(fX5_copy N 925 925 (g3 2) (0 : Int32) (0 : Int32) (g3 1)).bind fun u4 =>
z_lt (z_uR g3 1 u4) fun g4 =>
some (((g2 1 ((1 : Int32)).toNatClampNeg) - (g2 2 ((1 : Int32)).toNatClampNeg)), g4)
def fX5_time (N : Nat) (p1 : Int32) (g : z_R) : Option (Int32 × z_R) :=
(fX5_isOrder N p1 g).bind fun r1 =>
(if r1 = 0 then
z_lt (z_u2 g 0 0 (1 : Int32)) fun g3 =>
(if (g3 0 0) ≤ 0 then
z_b2 (fX5_ticksOf N p1 g3) fun r5 g5 =>
some (r5, g5)
else
some ((0 : Int32), g3))
else
z_lt (z_u2 g 0 0 (0 : Int32)) fun g6 =>
(if (g6 0 0) ≤ 0 then
z_b2 (fX5_ticksOf N p1 g6) fun r8 g8 =>
some (r8, g8)
else
some ((0 : Int32), g6)))
def lX5_bestPlace_50 (N : Nat) (x1 : Int32) (x2 : Int32) (x3 : Int32) : Nat → Int32 → Int32 → Int32 → z_R → Option (Int32 × z_R)
  | 0, _, _, _, _ => none
  | fu + 1, x4, x5, x6, g => (if (g 1 ((0 : Int32)).toNatClampNeg) ≤ x6 then
some (x4, g)
else
(fX5_standing N x6 g).bind fun r7 =>
(if r7 = (-1 : Int32) then
(fX5_setPart N x1 (5 : Int32) x6 g).bind fun g9 =>
z_b2 (fX5_ticksOf N x2 g9) fun r10 g10 =>
(fX5_setPart N x1 (5 : Int32) x3 g10).bind fun g11 =>
(if x4 = (-1 : Int32) then
(lX5_bestPlace_50 N x1 x2 x3 fu x6 r10 (x6 + (1 : Int32)) g11)
else
(if x5 ≤ r10 then
(lX5_bestPlace_50 N x1 x2 x3 fu x4 x5 (x6 + (1 : Int32)) g11)
else
(lX5_bestPlace_50 N x1 x2 x3 fu x6 r10 (x6 + (1 : Int32)) g11)))
else
(if x6 = x3 then
(fX5_setPart N x1 (5 : Int32) x6 g).bind fun g15 =>
z_b2 (fX5_ticksOf N x2 g15) fun r16 g16 =>
(fX5_setPart N x1 (5 : Int32) x3 g16).bind fun g17 =>
(if x4 = (-1 : Int32) then
(lX5_bestPlace_50 N x1 x2 x3 fu x6 r16 (x6 + (1 : Int32)) g17)
else
(if x5 ≤ r16 then
(lX5_bestPlace_50 N x1 x2 x3 fu x4 x5 (x6 + (1 : Int32)) g17)
else
(lX5_bestPlace_50 N x1 x2 x3 fu x6 r16 (x6 + (1 : Int32)) g17)))
else
(lX5_bestPlace_50 N x1 x2 x3 fu x4 x5 (x6 + (1 : Int32)) g))))
def fX5_bestPlace (N : Nat) (p1 : Int32) (p2 : Int32) (g : z_R) : Option (Int32 × z_R) :=
(fX5_isOrder N p1 g).bind fun r1 =>
(if r1 = 0 then
z_lt (z_u2 g 0 0 (1 : Int32)) fun g3 =>
(if (g3 0 0) ≤ 0 then
(fX5_part N p1 (5 : Int32) g3).bind fun r5 =>
(lX5_bestPlace_50 N p1 p2 r5 N (-1 : Int32) (0 : Int32) (0 : Int32) g3)
else
some ((0 : Int32), g3))
else
(fX5_isOrder N p2 g).bind fun r20 =>
(if r20 = 0 then
z_lt (z_u2 g 0 0 (1 : Int32)) fun g22 =>
(if (g22 0 0) ≤ 0 then
(fX5_part N p1 (5 : Int32) g22).bind fun r24 =>
(lX5_bestPlace_50 N p1 p2 r24 N (-1 : Int32) (0 : Int32) (0 : Int32) g22)
else
some ((0 : Int32), g22))
else
z_lt (z_u2 g 0 0 (0 : Int32)) fun g25 =>
(if (g25 0 0) ≤ 0 then
(fX5_part N p1 (5 : Int32) g25).bind fun r27 =>
(lX5_bestPlace_50 N p1 p2 r27 N (-1 : Int32) (0 : Int32) (0 : Int32) g25)
else
some ((0 : Int32), g25))))
def lX5_leastBribe_43 (N : Nat) (x1 : Int32) : Nat → Int32 → Int32 → z_R → Option (Int32 × z_R)
  | 0, _, _, _ => none
  | fu + 1, x2, x3, g => (if (99 : Int32) < x3 then
some (x2, g)
else
(if x2 = (-1 : Int32) then
(fX5_setPart N x1 (4 : Int32) x3 g).bind fun g8 =>
z_b2 (fX5_laid N  g8) fun r9 g9 =>
(fX5_part N x1 (6 : Int32) g9).bind fun r10 =>
(if r10 = 0 then
(fX5_copy N 925 925 (g9 2) (0 : Int32) (0 : Int32) (g9 1)).bind fun u13 =>
z_lt (z_uR g9 1 u13) fun g13 =>
(lX5_leastBribe_43 N x1 fu x3 (x3 + (1 : Int32)) g13)
else
(fX5_copy N 925 925 (g9 2) (0 : Int32) (0 : Int32) (g9 1)).bind fun u12 =>
z_lt (z_uR g9 1 u12) fun g12 =>
(lX5_leastBribe_43 N x1 fu (-1 : Int32) (x3 + (1 : Int32)) g12))
else
some (x2, g)))
def fX5_leastBribe (N : Nat) (p1 : Int32) (g : z_R) : Option (Int32 × z_R) :=
(fX5_isOrder N p1 g).bind fun r1 =>
(if r1 = 0 then
z_lt (z_u2 g 0 0 (1 : Int32)) fun g3 =>
(if (g3 0 0) ≤ 0 then
(fX5_copy N 925 925 (g3 1) (0 : Int32) (0 : Int32) (g3 2)).bind fun u5 =>
z_lt (z_uR g3 2 u5) fun g5 =>
(lX5_leastBribe_43 N p1 N (-1 : Int32) (0 : Int32) g5)
else
some ((0 : Int32), g3))
else
z_lt (z_u2 g 0 0 (0 : Int32)) fun g14 =>
(if (g14 0 0) ≤ 0 then
(fX5_copy N 925 925 (g14 1) (0 : Int32) (0 : Int32) (g14 2)).bind fun u16 =>
z_lt (z_uR g14 2 u16) fun g16 =>
(lX5_leastBribe_43 N p1 N (-1 : Int32) (0 : Int32) g16)
else
some ((0 : Int32), g14)))
def fX5_saves (N : Nat) (p1 : Int32) (g : z_R) : Option (Int32 × z_R) :=
(fX5_isOrder N p1 g).bind fun r1 =>
(if r1 = 0 then
z_lt (z_u2 g 0 0 (1 : Int32)) fun g3 =>
(if (g3 0 0) ≤ 0 then
z_b2 (fX5_ticksOf N p1 g3) fun r5 g5 =>
(fX5_copy N 925 925 (g5 1) (0 : Int32) (0 : Int32) (g5 2)).bind fun u6 =>
z_lt (z_uR g5 2 u6) fun g6 =>
z_b2 (fX5_laid N  g6) fun r7 g7 =>
z_b2 (fX5_runs N p1 g7) fun r8 g8 =>
(fX5_copy N 925 925 (g8 2) (0 : Int32) (0 : Int32) (g8 1)).bind fun u9 =>
z_lt (z_uR g8 1 u9) fun g9 =>
some ((r5 - ((g8 1 ((1 : Int32)).toNatClampNeg) - (g7 1 ((1 : Int32)).toNatClampNeg))), g9)
else
some ((0 : Int32), g3))
else
z_lt (z_u2 g 0 0 (0 : Int32)) fun g10 =>
(if (g10 0 0) ≤ 0 then
z_b2 (fX5_ticksOf N p1 g10) fun r12 g12 =>
(fX5_copy N 925 925 (g12 1) (0 : Int32) (0 : Int32) (g12 2)).bind fun u13 =>
z_lt (z_uR g12 2 u13) fun g13 =>
z_b2 (fX5_laid N  g13) fun r14 g14 =>
z_b2 (fX5_runs N p1 g14) fun r15 g15 =>
(fX5_copy N 925 925 (g15 2) (0 : Int32) (0 : Int32) (g15 1)).bind fun u16 =>
z_lt (z_uR g15 1 u16) fun g16 =>
some ((r12 - ((g15 1 ((1 : Int32)).toNatClampNeg) - (g14 1 ((1 : Int32)).toNatClampNeg))), g16)
else
some ((0 : Int32), g10)))
def fX5_changes (N : Nat) (p1 : Int32) (p2 : Int32) (p3 : Int32) (g : z_R) : Option (Int32 × z_R) :=
(fX5_isOrder N p1 g).bind fun r1 =>
(if r1 = 0 then
some ((0 : Int32), g)
else
(fX5_isInRange N p2 p3).bind fun r3 =>
(if r3 = 0 then
some ((0 : Int32), g)
else
(fX5_setPart N p1 p2 p3 g).bind fun g5 =>
some ((1 : Int32), g5)))
def fX5_moves (N : Nat) (p1 : Int32) (p2 : Int32) (g : z_R) : Option (Int32 × z_R) :=
(fX5_whyNotMoved N p1 p2 g).bind fun r1 =>
(if r1 = 0 then
z_b2 (fX5_moved N p1 p2 g) fun r3 g3 =>
some ((1 : Int32), g3)
else
some ((0 : Int32), g))
def fX5_runsFrom (N : Nat) (p1 : Int32) (g : z_R) : Option (Int32 × z_R) :=
(fX5_isOrder N p1 g).bind fun r1 =>
(if r1 = 0 then
z_ck (z_bo r1) <|
some (r1, g)
else
z_b2 (fX5_runs N p1 g) fun r4 g4 =>
z_ck (z_bo r1) <|
some (r1, g4))
def fX5_lays (N : Nat) (g : z_R) : Option (Int32 × z_R) :=
z_b2 (fX5_laid N  g) fun r1 g1 =>
some ((1 : Int32), g1)
def fX5_turns (N : Nat) (p1 : Int32) (g : z_R) : Option (Int32 × z_R) :=
z_lt (z_u2 g 1 ((1 : Int32)).toNatClampNeg ((g 1 ((1 : Int32)).toNatClampNeg) + p1)) fun g1 =>
(if p1 ≤ 0 then
some ((0 : Int32), g1)
else
some ((1 : Int32), g1))
def fX5_isSoon (N : Nat) (p1 : Int32) (p2 : Int32) (g : z_R) : Option Int32 :=
(fX5_isOrder N p1 g).bind fun r1 =>
(if r1 = 0 then
some ((0 : Int32))
else
(fX5_part N p1 (5 : Int32) g).bind fun r3 =>
(if r3 = (-1 : Int32) then
some ((0 : Int32))
else
(fX5_waitOf N p1 g).bind fun r5 =>
(if p2 < r5 then
some ((0 : Int32))
else
some ((1 : Int32)))))
def fX5_isQuick (N : Nat) (p1 : Int32) (p2 : Int32) (g : z_R) : Option (Int32 × z_R) :=
(fX5_isOrder N p1 g).bind fun r1 =>
(if r1 = 0 then
some ((0 : Int32), g)
else
z_b2 (fX5_ticksOf N p1 g) fun r3 g3 =>
(if p2 < r3 then
some ((0 : Int32), g3)
else
(if (g3 0 3) = 0 then
some ((1 : Int32), g3)
else
some ((0 : Int32), g3))))
def fX5_commands (N : Nat) (p1 : Int32) (g : z_R) : Option (Int32 × z_R) :=
(if (p1 / (10000 : Int32)) = (1 : Int32) then
(if (p1 - p1 / (100 : Int32) * (100 : Int32)) = 0 then
z_b2 (fX5_runsFrom N ((p1 / (100 : Int32)) - (p1 / (100 : Int32)) / (100 : Int32) * (100 : Int32)) g) fun r3 g3 =>
(if r3 = 0 then
some ((0 : Int32), g3)
else
some ((1 : Int32), g3))
else
some ((0 : Int32), g))
else
(if (p1 / (10000 : Int32)) = (2 : Int32) then
(if ((p1 / (100 : Int32)) - (p1 / (100 : Int32)) / (100 : Int32) * (100 : Int32)) = 0 then
(if (p1 - p1 / (100 : Int32) * (100 : Int32)) = 0 then
z_b2 (fX5_lays N  g) fun r7 g7 =>
(if r7 = 0 then
some ((0 : Int32), g7)
else
some ((1 : Int32), g7))
else
some ((0 : Int32), g))
else
some ((0 : Int32), g))
else
(if (p1 / (10000 : Int32)) = (3 : Int32) then
z_b2 (fX5_moves N ((p1 / (100 : Int32)) - (p1 / (100 : Int32)) / (100 : Int32) * (100 : Int32)) (p1 - p1 / (100 : Int32) * (100 : Int32)) g) fun r9 g9 =>
z_ck (z_bo r9) <|
some (r9, g9)
else
(if (p1 / (10000 : Int32)) = (4 : Int32) then
(if ((p1 / (100 : Int32)) - (p1 / (100 : Int32)) / (100 : Int32) * (100 : Int32)) = 0 then
z_b2 (fX5_turns N (p1 - p1 / (100 : Int32) * (100 : Int32)) g) fun r12 g12 =>
(if r12 = 0 then
some ((0 : Int32), g12)
else
some ((1 : Int32), g12))
else
some ((0 : Int32), g))
else
(if (p1 / (10000 : Int32)) = (5 : Int32) then
z_b2 (fX5_changes N ((p1 / (100 : Int32)) - (p1 / (100 : Int32)) / (100 : Int32) * (100 : Int32)) (4 : Int32) (p1 - p1 / (100 : Int32) * (100 : Int32)) g) fun r14 g14 =>
z_ck (z_bo r14) <|
some (r14, g14)
else
(if (p1 / (10000 : Int32)) = (6 : Int32) then
(if (p1 - p1 / (100 : Int32) * (100 : Int32)) = (99 : Int32) then
z_b2 (fX5_changes N ((p1 / (100 : Int32)) - (p1 / (100 : Int32)) / (100 : Int32) * (100 : Int32)) (2 : Int32) (-1 : Int32) g) fun r19 g19 =>
z_ck (z_bo r19) <|
some (r19, g19)
else
z_b2 (fX5_changes N ((p1 / (100 : Int32)) - (p1 / (100 : Int32)) / (100 : Int32) * (100 : Int32)) (2 : Int32) (p1 - p1 / (100 : Int32) * (100 : Int32)) g) fun r17 g17 =>
z_ck (z_bo r17) <|
some (r17, g17))
else
(if (p1 / (10000 : Int32)) = (7 : Int32) then
(fX5_isSoon N ((p1 / (100 : Int32)) - (p1 / (100 : Int32)) / (100 : Int32) * (100 : Int32)) (p1 - p1 / (100 : Int32) * (100 : Int32)) g).bind fun r21 =>
z_ck (z_bo r21) <|
some (r21, g)
else
(if (p1 / (10000 : Int32)) = (8 : Int32) then
z_b2 (fX5_isQuick N ((p1 / (100 : Int32)) - (p1 / (100 : Int32)) / (100 : Int32) * (100 : Int32)) ((10 : Int32) * (p1 - p1 / (100 : Int32) * (100 : Int32))) g) fun r23 g23 =>
z_ck (z_bo r23) <|
some (r23, g23)
else
(if (p1 / (10000 : Int32)) = (9 : Int32) then
(fX5_isAuthor N (((p1 / (100 : Int32)) - (p1 / (100 : Int32)) / (100 : Int32) * (100 : Int32)) / (10 : Int32))).bind fun r25 =>
(if r25 = 0 then
some ((0 : Int32), g)
else
z_ck (z_in ((9 : Int32) + (((p1 / (100 : Int32)) - (p1 / (100 : Int32)) / (100 : Int32) * (100 : Int32)) / (10 : Int32))) 925) <|
(if (p1 - p1 / (1000 : Int32) * (1000 : Int32)) < (g 1 (((9 : Int32) + (((p1 / (100 : Int32)) - (p1 / (100 : Int32)) / (100 : Int32) * (100 : Int32)) / (10 : Int32)))).toNatClampNeg) then
some ((0 : Int32), g)
else
some ((1 : Int32), g)))
else
some ((0 : Int32), g))))))))))
def lX5_runScript_95 (N : Nat) (x1 : Int32) (x2 : Int64) (k : Int32 → z_R → Option (Int32 × z_R)) : Nat → Int32 → Int64 → Int32 → z_R → Option (Int32 × z_R)
  | 0, _, _, _, _ => none
  | fu + 1, x6, x7, x9, g => (if x1 ≤ x9 then
(k x6 g)
else
(if x6 = (-1 : Int32) then
z_ck (z_nzL x7) <|
z_b2 (fX5_commands N (((x2 / x7) - (x2 / x7) / (100000 : Int64) * (100000 : Int64))).toInt32 g) fun r10 g10 =>
(if r10 = 0 then
(lX5_runScript_95 N x1 x2 k fu x9 (x7 / (100000 : Int64)) (x9 + (1 : Int32)) g10)
else
(lX5_runScript_95 N x1 x2 k fu (-1 : Int32) (x7 / (100000 : Int64)) (x9 + (1 : Int32)) g10))
else
(k x6 g)))
def fX5_runScript (N : Nat) (p1 : Int32) (p2 : Int64) (g : z_R) : Option (Int32 × z_R) :=
(if p1 = (1 : Int32) then
(if p1 < (1 : Int32) then
z_lt (z_u2 g 0 0 (1 : Int32)) fun g67 =>
(if (g67 0 0) ≤ 0 then
(fX5_copy N 925 925 (g67 1) (0 : Int32) (0 : Int32) (g67 3)).bind fun u69 =>
z_lt (z_uR g67 3 u69) fun g69 =>
(lX5_runScript_95 N p1 p2 (fun x6_95 g95_70 => (fX5_copy N 925 925 (g95_70 3) (0 : Int32) (0 : Int32) (g95_70 1)).bind fun u71 =>
z_lt (z_uR g95_70 1 u71) fun g71 =>
some (x6_95, g71)) N (-1 : Int32) ((100000 : Int64) / (100000 : Int64)) (0 : Int32) g69)
else
some ((0 : Int32), g67))
else
(if (3 : Int32) < p1 then
z_lt (z_u2 g 0 0 (1 : Int32)) fun g73 =>
(if (g73 0 0) ≤ 0 then
(fX5_copy N 925 925 (g73 1) (0 : Int32) (0 : Int32) (g73 3)).bind fun u75 =>
z_lt (z_uR g73 3 u75) fun g75 =>
(lX5_runScript_95 N p1 p2 (fun x6_95 g95_76 => (fX5_copy N 925 925 (g95_76 3) (0 : Int32) (0 : Int32) (g95_76 1)).bind fun u77 =>
z_lt (z_uR g95_76 1 u77) fun g77 =>
some (x6_95, g77)) N (-1 : Int32) ((100000 : Int64) / (100000 : Int64)) (0 : Int32) g75)
else
some ((0 : Int32), g73))
else
(if (lg_cmp p2 (0 : Int64)) < 0 then
z_lt (z_u2 g 0 0 (1 : Int32)) fun g79 =>
(if (g79 0 0) ≤ 0 then
(fX5_copy N 925 925 (g79 1) (0 : Int32) (0 : Int32) (g79 3)).bind fun u81 =>
z_lt (z_uR g79 3 u81) fun g81 =>
(lX5_runScript_95 N p1 p2 (fun x6_95 g95_82 => (fX5_copy N 925 925 (g95_82 3) (0 : Int32) (0 : Int32) (g95_82 1)).bind fun u83 =>
z_lt (z_uR g95_82 1 u83) fun g83 =>
some (x6_95, g83)) N (-1 : Int32) ((100000 : Int64) / (100000 : Int64)) (0 : Int32) g81)
else
some ((0 : Int32), g79))
else
(if (lg_cmp p2 (100000 : Int64)) < 0 then
z_lt (z_u2 g 0 0 (0 : Int32)) fun g85 =>
(if (g85 0 0) ≤ 0 then
(fX5_copy N 925 925 (g85 1) (0 : Int32) (0 : Int32) (g85 3)).bind fun u87 =>
z_lt (z_uR g85 3 u87) fun g87 =>
(lX5_runScript_95 N p1 p2 (fun x6_95 g95_88 => (fX5_copy N 925 925 (g95_88 3) (0 : Int32) (0 : Int32) (g95_88 1)).bind fun u89 =>
z_lt (z_uR g95_88 1 u89) fun g89 =>
some (x6_95, g89)) N (-1 : Int32) ((100000 : Int64) / (100000 : Int64)) (0 : Int32) g87)
else
some ((0 : Int32), g85))
else
z_lt (z_u2 g 0 0 (1 : Int32)) fun g90 =>
(if (g90 0 0) ≤ 0 then
(fX5_copy N 925 925 (g90 1) (0 : Int32) (0 : Int32) (g90 3)).bind fun u92 =>
z_lt (z_uR g90 3 u92) fun g92 =>
(lX5_runScript_95 N p1 p2 (fun x6_95 g95_93 => (fX5_copy N 925 925 (g95_93 3) (0 : Int32) (0 : Int32) (g95_93 1)).bind fun u94 =>
z_lt (z_uR g95_93 1 u94) fun g94 =>
some (x6_95, g94)) N (-1 : Int32) ((100000 : Int64) / (100000 : Int64)) (0 : Int32) g92)
else
some ((0 : Int32), g90))))))
else
(if p1 = (2 : Int32) then
(if p1 < (1 : Int32) then
z_lt (z_u2 g 0 0 (1 : Int32)) fun g38 =>
(if (g38 0 0) ≤ 0 then
(fX5_copy N 925 925 (g38 1) (0 : Int32) (0 : Int32) (g38 3)).bind fun u40 =>
z_lt (z_uR g38 3 u40) fun g40 =>
(lX5_runScript_95 N p1 p2 (fun x6_95 g95_41 => (fX5_copy N 925 925 (g95_41 3) (0 : Int32) (0 : Int32) (g95_41 1)).bind fun u42 =>
z_lt (z_uR g95_41 1 u42) fun g42 =>
some (x6_95, g42)) N (-1 : Int32) ((10000000000 : Int64) / (100000 : Int64)) (0 : Int32) g40)
else
some ((0 : Int32), g38))
else
(if (3 : Int32) < p1 then
z_lt (z_u2 g 0 0 (1 : Int32)) fun g44 =>
(if (g44 0 0) ≤ 0 then
(fX5_copy N 925 925 (g44 1) (0 : Int32) (0 : Int32) (g44 3)).bind fun u46 =>
z_lt (z_uR g44 3 u46) fun g46 =>
(lX5_runScript_95 N p1 p2 (fun x6_95 g95_47 => (fX5_copy N 925 925 (g95_47 3) (0 : Int32) (0 : Int32) (g95_47 1)).bind fun u48 =>
z_lt (z_uR g95_47 1 u48) fun g48 =>
some (x6_95, g48)) N (-1 : Int32) ((10000000000 : Int64) / (100000 : Int64)) (0 : Int32) g46)
else
some ((0 : Int32), g44))
else
(if (lg_cmp p2 (0 : Int64)) < 0 then
z_lt (z_u2 g 0 0 (1 : Int32)) fun g50 =>
(if (g50 0 0) ≤ 0 then
(fX5_copy N 925 925 (g50 1) (0 : Int32) (0 : Int32) (g50 3)).bind fun u52 =>
z_lt (z_uR g50 3 u52) fun g52 =>
(lX5_runScript_95 N p1 p2 (fun x6_95 g95_53 => (fX5_copy N 925 925 (g95_53 3) (0 : Int32) (0 : Int32) (g95_53 1)).bind fun u54 =>
z_lt (z_uR g95_53 1 u54) fun g54 =>
some (x6_95, g54)) N (-1 : Int32) ((10000000000 : Int64) / (100000 : Int64)) (0 : Int32) g52)
else
some ((0 : Int32), g50))
else
(if (lg_cmp p2 (10000000000 : Int64)) < 0 then
z_lt (z_u2 g 0 0 (0 : Int32)) fun g56 =>
(if (g56 0 0) ≤ 0 then
(fX5_copy N 925 925 (g56 1) (0 : Int32) (0 : Int32) (g56 3)).bind fun u58 =>
z_lt (z_uR g56 3 u58) fun g58 =>
(lX5_runScript_95 N p1 p2 (fun x6_95 g95_59 => (fX5_copy N 925 925 (g95_59 3) (0 : Int32) (0 : Int32) (g95_59 1)).bind fun u60 =>
z_lt (z_uR g95_59 1 u60) fun g60 =>
some (x6_95, g60)) N (-1 : Int32) ((10000000000 : Int64) / (100000 : Int64)) (0 : Int32) g58)
else
some ((0 : Int32), g56))
else
z_lt (z_u2 g 0 0 (1 : Int32)) fun g61 =>
(if (g61 0 0) ≤ 0 then
(fX5_copy N 925 925 (g61 1) (0 : Int32) (0 : Int32) (g61 3)).bind fun u63 =>
z_lt (z_uR g61 3 u63) fun g63 =>
(lX5_runScript_95 N p1 p2 (fun x6_95 g95_64 => (fX5_copy N 925 925 (g95_64 3) (0 : Int32) (0 : Int32) (g95_64 1)).bind fun u65 =>
z_lt (z_uR g95_64 1 u65) fun g65 =>
some (x6_95, g65)) N (-1 : Int32) ((10000000000 : Int64) / (100000 : Int64)) (0 : Int32) g63)
else
some ((0 : Int32), g61))))))
else
(if p1 < (1 : Int32) then
z_lt (z_u2 g 0 0 (1 : Int32)) fun g4 =>
(if (g4 0 0) ≤ 0 then
(fX5_copy N 925 925 (g4 1) (0 : Int32) (0 : Int32) (g4 3)).bind fun u6 =>
z_lt (z_uR g4 3 u6) fun g6 =>
(lX5_runScript_95 N p1 p2 (fun x6_95 g95_12 => (fX5_copy N 925 925 (g95_12 3) (0 : Int32) (0 : Int32) (g95_12 1)).bind fun u13 =>
z_lt (z_uR g95_12 1 u13) fun g13 =>
some (x6_95, g13)) N (-1 : Int32) ((1000000000000000 : Int64) / (100000 : Int64)) (0 : Int32) g6)
else
some ((0 : Int32), g4))
else
(if (3 : Int32) < p1 then
z_lt (z_u2 g 0 0 (1 : Int32)) fun g15 =>
(if (g15 0 0) ≤ 0 then
(fX5_copy N 925 925 (g15 1) (0 : Int32) (0 : Int32) (g15 3)).bind fun u17 =>
z_lt (z_uR g15 3 u17) fun g17 =>
(lX5_runScript_95 N p1 p2 (fun x6_95 g95_18 => (fX5_copy N 925 925 (g95_18 3) (0 : Int32) (0 : Int32) (g95_18 1)).bind fun u19 =>
z_lt (z_uR g95_18 1 u19) fun g19 =>
some (x6_95, g19)) N (-1 : Int32) ((1000000000000000 : Int64) / (100000 : Int64)) (0 : Int32) g17)
else
some ((0 : Int32), g15))
else
(if (lg_cmp p2 (0 : Int64)) < 0 then
z_lt (z_u2 g 0 0 (1 : Int32)) fun g21 =>
(if (g21 0 0) ≤ 0 then
(fX5_copy N 925 925 (g21 1) (0 : Int32) (0 : Int32) (g21 3)).bind fun u23 =>
z_lt (z_uR g21 3 u23) fun g23 =>
(lX5_runScript_95 N p1 p2 (fun x6_95 g95_24 => (fX5_copy N 925 925 (g95_24 3) (0 : Int32) (0 : Int32) (g95_24 1)).bind fun u25 =>
z_lt (z_uR g95_24 1 u25) fun g25 =>
some (x6_95, g25)) N (-1 : Int32) ((1000000000000000 : Int64) / (100000 : Int64)) (0 : Int32) g23)
else
some ((0 : Int32), g21))
else
(if (lg_cmp p2 (1000000000000000 : Int64)) < 0 then
z_lt (z_u2 g 0 0 (0 : Int32)) fun g27 =>
(if (g27 0 0) ≤ 0 then
(fX5_copy N 925 925 (g27 1) (0 : Int32) (0 : Int32) (g27 3)).bind fun u29 =>
z_lt (z_uR g27 3 u29) fun g29 =>
(lX5_runScript_95 N p1 p2 (fun x6_95 g95_30 => (fX5_copy N 925 925 (g95_30 3) (0 : Int32) (0 : Int32) (g95_30 1)).bind fun u31 =>
z_lt (z_uR g95_30 1 u31) fun g31 =>
some (x6_95, g31)) N (-1 : Int32) ((1000000000000000 : Int64) / (100000 : Int64)) (0 : Int32) g29)
else
some ((0 : Int32), g27))
else
z_lt (z_u2 g 0 0 (1 : Int32)) fun g32 =>
(if (g32 0 0) ≤ 0 then
(fX5_copy N 925 925 (g32 1) (0 : Int32) (0 : Int32) (g32 3)).bind fun u34 =>
z_lt (z_uR g32 3 u34) fun g34 =>
(lX5_runScript_95 N p1 p2 (fun x6_95 g95_35 => (fX5_copy N 925 925 (g95_35 3) (0 : Int32) (0 : Int32) (g95_35 1)).bind fun u36 =>
z_lt (z_uR g95_35 1 u36) fun g36 =>
some (x6_95, g36)) N (-1 : Int32) ((1000000000000000 : Int64) / (100000 : Int64)) (0 : Int32) g34)
else
some ((0 : Int32), g32))))))))
def lX5_simulate_50 (N : Nat) (x3 : Int32) (k : Int32 → z_R → Option (Int32 × z_R)) : Nat → Int64 → Int32 → Int32 → z_R → Option (Int32 × z_R)
  | 0, _, _, _, _ => none
  | fu + 1, x4, x6, x7, g => (if x3 ≤ x7 then
(k x6 g)
else
(if (g 1 ((2 : Int32)).toNatClampNeg) ≤ 0 then
(k x6 g)
else
z_ck (z_nz (g 1 ((2 : Int32)).toNatClampNeg)) <|
(fX5_setPart N (((((((x4 * (6364136223846793005 : Int64)) + (1442695040888963407 : Int64))).toUInt64 >>> (((33 : Int32)).toInt64.toUInt64 &&& Int64.toUInt64 63)).toInt64).toInt32 / (16 : Int32)) - ((((((x4 * (6364136223846793005 : Int64)) + (1442695040888963407 : Int64))).toUInt64 >>> (((33 : Int32)).toInt64.toUInt64 &&& Int64.toUInt64 63)).toInt64).toInt32 / (16 : Int32)) / (g 1 ((2 : Int32)).toNatClampNeg) * (g 1 ((2 : Int32)).toNatClampNeg)) (4 : Int32) (((((((x4 * (6364136223846793005 : Int64)) + (1442695040888963407 : Int64))).toUInt64 >>> (((33 : Int32)).toInt64.toUInt64 &&& Int64.toUInt64 63)).toInt64).toInt32 / (1024 : Int32)) - ((((((x4 * (6364136223846793005 : Int64)) + (1442695040888963407 : Int64))).toUInt64 >>> (((33 : Int32)).toInt64.toUInt64 &&& Int64.toUInt64 63)).toInt64).toInt32 / (1024 : Int32)) / (100 : Int32) * (100 : Int32)) g).bind fun g9 =>
(if ((((((x4 * (6364136223846793005 : Int64)) + (1442695040888963407 : Int64))).toUInt64 >>> (((33 : Int32)).toInt64.toUInt64 &&& Int64.toUInt64 63)).toInt64).toInt32 - (((((x4 * (6364136223846793005 : Int64)) + (1442695040888963407 : Int64))).toUInt64 >>> (((33 : Int32)).toInt64.toUInt64 &&& Int64.toUInt64 63)).toInt64).toInt32 / (4 : Int32) * (4 : Int32)) = 0 then
z_b2 (fX5_laid N  g9) fun r14 g14 =>
z_ck (z_nz (g14 1 ((2 : Int32)).toNatClampNeg)) <|
z_b2 (fX5_runs N (((((((x4 * (6364136223846793005 : Int64)) + (1442695040888963407 : Int64))).toUInt64 >>> (((33 : Int32)).toInt64.toUInt64 &&& Int64.toUInt64 63)).toInt64).toInt32 / (256 : Int32)) - ((((((x4 * (6364136223846793005 : Int64)) + (1442695040888963407 : Int64))).toUInt64 >>> (((33 : Int32)).toInt64.toUInt64 &&& Int64.toUInt64 63)).toInt64).toInt32 / (256 : Int32)) / (g14 1 ((2 : Int32)).toNatClampNeg) * (g14 1 ((2 : Int32)).toNatClampNeg)) g14) fun r16 g16 =>
(if r16 = 0 then
(lX5_simulate_50 N x3 k fu ((x4 * (6364136223846793005 : Int64)) + (1442695040888963407 : Int64)) (x6 + (1 : Int32)) (x7 + (1 : Int32)) g16)
else
(lX5_simulate_50 N x3 k fu ((x4 * (6364136223846793005 : Int64)) + (1442695040888963407 : Int64)) (x6 + (0 : Int32)) (x7 + (1 : Int32)) g16))
else
z_ck (z_nz (g9 1 ((2 : Int32)).toNatClampNeg)) <|
z_b2 (fX5_runs N (((((((x4 * (6364136223846793005 : Int64)) + (1442695040888963407 : Int64))).toUInt64 >>> (((33 : Int32)).toInt64.toUInt64 &&& Int64.toUInt64 63)).toInt64).toInt32 / (256 : Int32)) - ((((((x4 * (6364136223846793005 : Int64)) + (1442695040888963407 : Int64))).toUInt64 >>> (((33 : Int32)).toInt64.toUInt64 &&& Int64.toUInt64 63)).toInt64).toInt32 / (256 : Int32)) / (g9 1 ((2 : Int32)).toNatClampNeg) * (g9 1 ((2 : Int32)).toNatClampNeg)) g9) fun r12 g12 =>
(if r12 = 0 then
(lX5_simulate_50 N x3 k fu ((x4 * (6364136223846793005 : Int64)) + (1442695040888963407 : Int64)) (x6 + (1 : Int32)) (x7 + (1 : Int32)) g12)
else
(lX5_simulate_50 N x3 k fu ((x4 * (6364136223846793005 : Int64)) + (1442695040888963407 : Int64)) (x6 + (0 : Int32)) (x7 + (1 : Int32)) g12)))))
def fX5_simulate (N : Nat) (p1 : Int64) (p3 : Int32) (g : z_R) : Option (Int32 × z_R) :=
(fX5_within N p3 (1 : Int32) (50 : Int32)).bind fun r1 =>
(if r1 = 0 then
z_lt (z_u2 g 0 0 (1 : Int32)) fun g3 =>
(if (g3 0 0) ≤ 0 then
(fX5_copy N 925 925 (g3 1) (0 : Int32) (0 : Int32) (g3 3)).bind fun u5 =>
z_lt (z_uR g3 3 u5) fun g5 =>
(lX5_simulate_50 N p3 (fun x6_50 g50_18 => (fX5_refundedAll N  g50_18).bind fun r19 =>
(fX5_copy N 925 925 (g50_18 3) (0 : Int32) (0 : Int32) (g50_18 1)).bind fun u20 =>
z_lt (z_uR g50_18 1 u20) fun g20 =>
(fX5_refundedAll N  g20).bind fun r21 =>
(if (999 : Int32) ≤ (r19 - r21) then
some ((((1000 : Int32) * x6_50) + (999 : Int32)), g20)
else
some ((((1000 : Int32) * x6_50) + (r19 - r21)), g20))) N p1 (0 : Int32) (0 : Int32) g5)
else
some ((0 : Int32), g3))
else
z_lt (z_u2 g 0 0 (0 : Int32)) fun g23 =>
(if (g23 0 0) ≤ 0 then
(fX5_copy N 925 925 (g23 1) (0 : Int32) (0 : Int32) (g23 3)).bind fun u25 =>
z_lt (z_uR g23 3 u25) fun g25 =>
(lX5_simulate_50 N p3 (fun x6_50 g50_26 => (fX5_refundedAll N  g50_26).bind fun r27 =>
(fX5_copy N 925 925 (g50_26 3) (0 : Int32) (0 : Int32) (g50_26 1)).bind fun u28 =>
z_lt (z_uR g50_26 1 u28) fun g28 =>
(fX5_refundedAll N  g28).bind fun r29 =>
(if (999 : Int32) ≤ (r27 - r29) then
some ((((1000 : Int32) * x6_50) + (999 : Int32)), g28)
else
some ((((1000 : Int32) * x6_50) + (r27 - r29)), g28))) N p1 (0 : Int32) (0 : Int32) g25)
else
some ((0 : Int32), g23)))
def fX5_isSlot (N : Nat) (p0 : Int32) : Option Int32 :=
(if p0 = 0 then
some ((1 : Int32))
else
(if p0 = (1 : Int32) then
some ((1 : Int32))
else
some ((0 : Int32))))
def fX5_save (N : Nat) (p1 : Int32) (g : z_R) : Option (Int32 × z_R) :=
(fX5_isSlot N p1).bind fun r1 =>
(if r1 = 0 then
z_lt (z_u2 g 0 0 (1 : Int32)) fun g3 =>
(if (g3 0 0) ≤ 0 then
(fX5_copy N 925 1850 (g3 1) (0 : Int32) ((925 : Int32) * p1) (g3 6)).bind fun u5 =>
z_lt (z_uR g3 6 u5) fun g5 =>
z_ck (z_in p1 2) <|
z_lt (z_u2 g5 7 (p1).toNatClampNeg (1 : Int32)) fun g7 =>
some ((g7 1 ((2 : Int32)).toNatClampNeg), g7)
else
some ((0 : Int32), g3))
else
z_lt (z_u2 g 0 0 (0 : Int32)) fun g8 =>
(if (g8 0 0) ≤ 0 then
(fX5_copy N 925 1850 (g8 1) (0 : Int32) ((925 : Int32) * p1) (g8 6)).bind fun u10 =>
z_lt (z_uR g8 6 u10) fun g10 =>
z_ck (z_in p1 2) <|
z_lt (z_u2 g10 7 (p1).toNatClampNeg (1 : Int32)) fun g12 =>
some ((g12 1 ((2 : Int32)).toNatClampNeg), g12)
else
some ((0 : Int32), g8)))
def fX5_restore (N : Nat) (p1 : Int32) (g : z_R) : Option (Int32 × z_R) :=
(fX5_isSlot N p1).bind fun r1 =>
(if r1 = 0 then
z_lt (z_u2 g 0 0 (1 : Int32)) fun g13 =>
(if (g13 0 0) ≤ 0 then
(fX5_copy N 1850 925 (g13 6) ((925 : Int32) * p1) (0 : Int32) (g13 1)).bind fun u15 =>
z_lt (z_uR g13 1 u15) fun g15 =>
z_lt (z_u2 g15 0 1 (0 : Int32)) fun g16 =>
some ((g16 1 ((2 : Int32)).toNatClampNeg), g16)
else
some ((0 : Int32), g13))
else
z_ck (z_in p1 2) <|
(if (g 7 (p1).toNatClampNeg) = (1 : Int32) then
z_lt (z_u2 g 0 0 (0 : Int32)) fun g9 =>
(if (g9 0 0) ≤ 0 then
(fX5_copy N 1850 925 (g9 6) ((925 : Int32) * p1) (0 : Int32) (g9 1)).bind fun u11 =>
z_lt (z_uR g9 1 u11) fun g11 =>
z_lt (z_u2 g11 0 1 (0 : Int32)) fun g12 =>
some ((g12 1 ((2 : Int32)).toNatClampNeg), g12)
else
some ((0 : Int32), g9))
else
z_lt (z_u2 g 0 0 (2 : Int32)) fun g5 =>
(if (g5 0 0) ≤ 0 then
(fX5_copy N 1850 925 (g5 6) ((925 : Int32) * p1) (0 : Int32) (g5 1)).bind fun u7 =>
z_lt (z_uR g5 1 u7) fun g7 =>
z_lt (z_u2 g7 0 1 (0 : Int32)) fun g8 =>
some ((g8 1 ((2 : Int32)).toNatClampNeg), g8)
else
some ((0 : Int32), g5))))
def fJ9_min_7cf53 (N : Nat) (p0 : Int32) (p1 : Int32) : Option Int32 :=
(if p1 < p0 then
some (p1)
else
some (p0))
end
section
/-! the whole drum's world: its seven cells, nineteen states; calls on a part of it -/
abbrev z_X : Type := z_R × z_R × (Nat → z_R)
def z_pl (c : Nat → ClassId) (a : Nat → Nat → Nat) (G : Nat → z_R) : va_W := (List.range 16).flatMap fun k => z_st c (a (k + 3)) (G (k + 3))
def z_hd (c : Nat → ClassId) (b : Nat → Nat) (a : Nat → Nat → Nat) (X : z_X) : va_W := [(b 0, .inr (4, [.ref (b 1), .ref (a 0 0), .ref (a 1 0), .ref (a 2 0), .ref (b 3), .ref (b 5), .ref (b 6)])), (b 1, .inr (3, [.ref (b 2), .int (X.1 0 0)])), (b 2, .inl (c 0, 160, .inl (X.1 1))), (b 3, .inr (1, [.ref (b 4), .int (X.2.1 0 0), .int (X.2.1 0 1)])), (b 4, .inl (c 2, 14, .inr (.inr (.inr (.inr (fun i => some (a (i + 3) 0))))))), (b 5, .inl (c 2, 2, .inr (.inr (.inr (.inr (fun i => some (a (i + 17) 0))))))), (b 6, .inl (c 1, 2, .inl (X.2.1 1)))]
def z_dw (c : Nat → ClassId) (b : Nat → Nat) (a : Nat → Nat → Nat) (X : z_X) : va_W := z_hd c b a X ++ (z_st c (a 0) (X.2.2 0) ++ (z_st c (a 1) (X.2.2 1) ++ (z_st c (a 2) (X.2.2 2) ++ z_pl c a X.2.2)))
def z_bk (c : Nat → ClassId) (a : Nat → Nat → Nat) (G : Nat → z_R) : va_W := (List.range 19).flatMap fun k => z_st c (a k) (G k)
theorem z_dwE {c : Nat → ClassId} {b : Nat → Nat} {a : Nat → Nat → Nat} {X : z_X} : z_dw c b a X = z_hd c b a X ++ z_bk c a X.2.2 := by
  unfold z_dw z_bk z_pl
  rw [show List.range 19 = 0 :: 1 :: 2 :: (List.range 16).map (fun k => k + 3) from by decide, List.flatMap_cons, List.flatMap_cons, List.flatMap_cons, List.flatMap_map]
theorem z_stA {c : Nat → ClassId} {a : Nat → Nat} {g : z_R} : (z_st c a g).map Prod.fst = (List.range 16).map a := rfl
theorem z_nd {A : Nat → Prop} {V : va_W} (hD : va_D A V) : (V.map Prod.fst).Nodup := by
  rw [List.Nodup, List.pairwise_iff_getElem]
  intro i j hi hj hij e
  have hi' : i < V.length := by simpa using hi
  have hj' : j < V.length := by simpa using hj
  rw [List.getElem_map, List.getElem_map] at e
  have h := hD.1 i j V[i] V[j] (List.getElem?_eq_getElem hi') (List.getElem?_eq_getElem hj') e
  omega
theorem z_Dof {A : Nat → Prop} {V : va_W} (h1 : (V.map Prod.fst).Nodup) (h2 : ∀ q ∈ V, A q.1) : va_D A V := by
  refine ⟨fun i j p q hi hj e => ?_, fun k q hk => h2 q (List.mem_of_getElem? hk)⟩
  rw [List.Nodup, List.pairwise_iff_getElem] at h1
  obtain ⟨li, ei⟩ := List.getElem?_eq_some_iff.mp hi
  obtain ⟨lj, ej⟩ := List.getElem?_eq_some_iff.mp hj
  rcases Nat.lt_trichotomy i j with h | h | h
  · refine absurd ?_ (h1 i j (by simpa using li) (by simpa using lj) h)
    rw [List.getElem_map, List.getElem_map, ei, ej]; exact e
  · exact h
  · refine absurd ?_ (h1 j i (by simpa using lj) (by simpa using li) h)
    rw [List.getElem_map, List.getElem_map, ei, ej]; exact e.symm
theorem z_Dsame {A : Nat → Prop} {V V' : va_W} (hD : va_D A V) (e : V'.map Prod.fst = V.map Prod.fst) : va_D A V' := by
  refine z_Dof (by rw [e]; exact z_nd hD) (fun q hq => ?_)
  have h : q.1 ∈ V.map Prod.fst := by rw [← e]; exact List.mem_map.mpr ⟨q, hq, rfl⟩
  obtain ⟨p, hp, ep⟩ := List.mem_map.mp h
  obtain ⟨i, hi⟩ := List.getElem?_of_mem hp
  rw [← ep]; exact hD.2 i p hi
/-- a part Vc of the world V, behind which V1 stands and the whole is V2 -/
def z_Cut (V Vc V1 V2 : va_W) : Prop := (∀ q ∈ Vc, q ∈ V) ∧ (Vc.map Prod.fst).Nodup ∧ V2.map Prod.fst = V.map Prod.fst ∧ ∀ q ∈ V2, q ∈ V1 ∨ (q ∈ V ∧ q.1 ∉ Vc.map Prod.fst)
theorem z_subP {D : va_G} {V Vc : va_W} {H : Heap} (hP : va_P D vwCl V H) (hs : ∀ q ∈ Vc, q ∈ V) : va_P D vwCl Vc H := fun k q hq => by
  obtain ⟨i, hi⟩ := List.getElem?_of_mem (hs q (List.mem_of_getElem? hq))
  exact hP i q hi
theorem z_subD {A : Nat → Prop} {V Vc : va_W} (hD : va_D A V) (hs : ∀ q ∈ Vc, q ∈ V) (hn : (Vc.map Prod.fst).Nodup) : va_D A Vc := z_Dof hn fun q hq => by
  obtain ⟨i, hi⟩ := List.getElem?_of_mem (hs q hq)
  exact hD.2 i q hi
theorem z_jn {A0 : Nat → Prop} {D : va_G} {V Vc V1 V2 : va_W} {H H1 : Heap} (hP : va_P D vwCl V H) (hD : va_D A0 V) (hc : z_Cut V Vc V1 V2) (hk : ∀ q : Nat, q < H.size → ¬ va_A Vc H.size q → H1[q]? = H[q]?) (hP1 : va_P D vwCl V1 H1) : va_P D vwCl V2 H1 ∧ va_D A0 V2 := by
  refine ⟨fun k q hq => ?_, z_Dsame hD hc.2.2.1⟩
  rcases hc.2.2.2 q (List.mem_of_getElem? hq) with h | ⟨h, hn⟩
  · obtain ⟨i, hi⟩ := List.getElem?_of_mem h
    exact hP1 i q hi
  · obtain ⟨i, hi⟩ := List.getElem?_of_mem h
    have hq0 := hP i q hi
    refine hq0.kept (hk q.1 hq0.lt (fun hA => ?_))
    rcases hA with ⟨k2, e2, h2⟩ | h2
    · exact hn (List.mem_map.mpr ⟨_, List.mem_of_getElem? h2, rfl⟩)
    · exact absurd hq0.lt (Nat.not_lt.mpr h2)
section ZD
variable {p : Program} {l : Launch} {e : Env} {R : Room} {s : State} {m : MethodId} {args : Array Value} {below : List Frame} {meth : Method} {co : Code} {H : Heap} {locs : List Loc} {cells slots : Nat} {Q : State → Prop}
variable {cc bytes : ByteArray} {pc nL maxL n index : Nat} {ls : Array Slot} {own C host : String} {y : MethodName} {ret : Option FieldType} {Ts ws : List Cond} {rm : Room} {As rest st0 : List Value} {b : Nat} {D : va_G} {c : Nat → ClassId} {A0 : Nat → Prop} {H0 : Heap}
theorem z_Fc {V Vc : va_W} (hD : va_D A0 V) (hs : ∀ q ∈ Vc, q ∈ V) (hS : va_S A0 H0 H locs) (hA : ∀ q : Nat, H0.size ≤ q → A0 q) : ∀ q : Nat, va_A Vc H.size q → A0 q := by
  intro q h
  rcases h with ⟨k, e, h⟩ | h
  · obtain ⟨i, hi⟩ := List.getElem?_of_mem (hs _ (List.mem_of_getElem? h))
    exact hD.2 i (q, e) hi
  · exact hA q (Nat.le_trans hS.1 h)
theorem z_xVi {V V2 : va_W} {S : Type} {wf : S → va_W} {g u0 : S} {r0 : Int32} (S0 : CallFix p m co cc nL s args Ts own)
    (hM : Met l y ws rm (z_Pc D c H.size (wf g) (.ref b :: As)) (z_Qi D wf r0 u0 (va_A (wf g) H.size)) 0 0 (va_A (wf g) H.size))
    (cw : CallW R s args own C index y bytes maxL ret ws rm 0 0 n) (hP : va_P D vwCl V H) (hK : z_K D c s) (hD : va_D A0 V) (hS : va_S A0 H0 H locs) (hA : ∀ q : Nat, H0.size ≤ q → A0 q) (hc : z_Cut V (wf g) (wf u0) V2)
    {ci q0 : Nat} {q : vw_C} {fs : List Value} (hcl : vwCl[ci]? = some q) (he : (wf g)[q0]? = some (b, .inr (ci, fs))) (hq : q.1 = C) (hn : As.length = n) (hsize : ls.size = nL) (hW : (rest.map fun v => v.category).sum ≤ 8) (hstack : st0 = As.reverse ++ .ref b :: rest) (hdg : decode cc pc = .ok (.invokevirtual index, 3)) (hf : cells + 0 ≤ R.cells ∧ slots + 0 ≤ R.slots)
    (kk : ∀ (H1 : Heap) (locs1 : List Loc), va_P D vwCl V2 H1 → va_D A0 V2 → va_S A0 H0 H1 locs1 → W p l e R s m args below meth co H1 locs1 cells slots Q (F0 m (pc + 3) ls (.int r0 :: rest))) : W p l e R s m args below meth co H locs cells slots Q (F0 m pc ls st0) := by
  have hF := z_Fc hD hc.1 hS hA
  have hPc := z_subP hP hc.1
  subst hq
  refine va_calli (va_runV (As := As) (rest := rest) S0 hM cw ⟨z_bl, va_recv hK.1 hPc hcl he, z_pre hPc hK (z_subD hD hc.1 hc.2.1)⟩ rfl hn hsize hstack (lv_room hW) hdg hf) hS (fun q _ h => hF q h) hF (fun r u t H1 locs1 ht hvm hw hB hz hk hS1 => ?_)
  obtain ⟨e1, e2⟩ := hw
  obtain ⟨hP1, hD1⟩ := hB
  rw [e2, ht] at hP1
  obtain ⟨hP2, hD2⟩ := z_jn hP hD hc hk hP1
  rw [e1]
  exact kk H1 locs1 hP2 hD2 hS1
theorem z_xVv {V V2 : va_W} {S : Type} {wf : S → va_W} {g u0 : S} (S0 : CallFix p m co cc nL s args Ts own)
    (hM : Met l y ws rm (z_Pc D c H.size (wf g) (.ref b :: As)) (z_Qv D wf u0 (va_A (wf g) H.size)) 0 0 (va_A (wf g) H.size))
    (cw : CallW R s args own C index y bytes maxL ret ws rm 0 0 n) (hP : va_P D vwCl V H) (hK : z_K D c s) (hD : va_D A0 V) (hS : va_S A0 H0 H locs) (hA : ∀ q : Nat, H0.size ≤ q → A0 q) (hc : z_Cut V (wf g) (wf u0) V2)
    {ci q0 : Nat} {q : vw_C} {fs : List Value} (hcl : vwCl[ci]? = some q) (he : (wf g)[q0]? = some (b, .inr (ci, fs))) (hq : q.1 = C) (hn : As.length = n) (hsize : ls.size = nL) (hW : (rest.map fun v => v.category).sum ≤ 8) (hstack : st0 = As.reverse ++ .ref b :: rest) (hdg : decode cc pc = .ok (.invokevirtual index, 3)) (hf : cells + 0 ≤ R.cells ∧ slots + 0 ≤ R.slots)
    (kk : ∀ (H1 : Heap) (locs1 : List Loc), va_P D vwCl V2 H1 → va_D A0 V2 → va_S A0 H0 H1 locs1 → W p l e R s m args below meth co H1 locs1 cells slots Q (F0 m (pc + 3) ls rest)) : W p l e R s m args below meth co H locs cells slots Q (F0 m pc ls st0) := by
  have hF := z_Fc hD hc.1 hS hA
  have hPc := z_subP hP hc.1
  subst hq
  refine va_callv (va_runV (As := As) (rest := rest) S0 hM cw ⟨z_bl, va_recv hK.1 hPc hcl he, z_pre hPc hK (z_subD hD hc.1 hc.2.1)⟩ rfl hn hsize hstack (lv_room hW) hdg hf) hS (fun q _ h => hF q h) hF (fun u t H1 locs1 ht hvm hw hB hz hk hS1 => ?_)
  obtain ⟨hP1, hD1⟩ := hB
  rw [hw, ht] at hP1
  obtain ⟨hP2, hD2⟩ := z_jn hP hD hc hk hP1
  exact kk H1 locs1 hP2 hD2 hS1
theorem z_xSi {V V2 : va_W} {S : Type} {wf : S → va_W} {g u0 : S} {r0 : Int32} (S0 : CallFix p m co cc nL s args Ts own)
    (hM : Met l y ws rm (z_Pc D c H.size (wf g) As) (z_Qi D wf r0 u0 (va_A (wf g) H.size)) 0 0 (va_A (wf g) H.size))
    (cw : CallB R s args own index y bytes maxL ret ws rm 0 0 n ∧ (Cond.static y).before args s = true) (hP : va_P D vwCl V H) (hK : z_K D c s) (hD : va_D A0 V) (hS : va_S A0 H0 H locs) (hA : ∀ q : Nat, H0.size ≤ q → A0 q) (hc : z_Cut V (wf g) (wf u0) V2)
    (hn : As.length = n) (hsize : ls.size = nL) (hW : (rest.map fun v => v.category).sum ≤ 8) (hstack : st0 = As.reverse ++ rest) (hdg : decode cc pc = .ok (.invokestatic index, 3)) (hf : cells + 0 ≤ R.cells ∧ slots + 0 ≤ R.slots)
    (kk : ∀ (H1 : Heap) (locs1 : List Loc), va_P D vwCl V2 H1 → va_D A0 V2 → va_S A0 H0 H1 locs1 → W p l e R s m args below meth co H1 locs1 cells slots Q (F0 m (pc + 3) ls (.int r0 :: rest))) : W p l e R s m args below meth co H locs cells slots Q (F0 m pc ls st0) := by
  have hF := z_Fc hD hc.1 hS hA
  have hPc := z_subP hP hc.1
  refine va_calli (va_runS (As := As) (rest := rest) S0 hM cw ⟨z_bl, z_pre hPc hK (z_subD hD hc.1 hc.2.1)⟩ rfl hn hsize hstack (lv_room hW) hdg hf) hS (fun q _ h => hF q h) hF (fun r u t H1 locs1 ht hvm hw hB hz hk hS1 => ?_)
  obtain ⟨e1, e2⟩ := hw
  obtain ⟨hP1, hD1⟩ := hB
  rw [e2, ht] at hP1
  obtain ⟨hP2, hD2⟩ := z_jn hP hD hc hk hP1
  rw [e1]
  exact kk H1 locs1 hP2 hD2 hS1
end ZD
section ZE
variable {c : Nat → ClassId} {b : Nat → Nat} {a : Nat → Nat → Nat} {X : z_X} {A : Nat → Prop}
theorem z_bkA {G G' : Nat → z_R} : (z_bk c a G).map Prod.fst = (z_bk c a G').map Prod.fst := by
  unfold z_bk
  rw [List.map_flatMap, List.map_flatMap]
  rfl
theorem z_dwA {X' : z_X} : (z_dw c b a X').map Prod.fst = (z_dw c b a X).map Prod.fst := by
  rw [z_dwE, z_dwE, List.map_append, List.map_append, z_bkA (G := X'.2.2) (G' := X.2.2)]
  rfl
theorem z_ap (hD : va_D A (z_dw c b a X)) : (∀ k, k < 19 → ((z_st c (a k) (X.2.2 k)).map Prod.fst).Nodup) ∧ (∀ j k, j < 19 → k < 19 → j ≠ k → ∀ x ∈ (z_st c (a j) (X.2.2 j)).map Prod.fst, ∀ y ∈ (z_st c (a k) (X.2.2 k)).map Prod.fst, x ≠ y) ∧ (∀ k, k < 19 → ∀ x ∈ (z_hd c b a X).map Prod.fst, ∀ y ∈ (z_st c (a k) (X.2.2 k)).map Prod.fst, x ≠ y) ∧ ((z_hd c b a X).map Prod.fst).Nodup := by
  have h := z_nd hD
  rw [z_dwE, List.map_append, List.nodup_append] at h
  obtain ⟨h1, h2, h3⟩ := h
  unfold z_bk at h2
  rw [List.map_flatMap, List.Nodup, List.pairwise_flatMap] at h2
  obtain ⟨h4, h5⟩ := h2
  rw [List.pairwise_iff_getElem] at h5
  have h6 : ∀ i j, i < 19 → j < 19 → i < j → ∀ x ∈ (z_st c (a i) (X.2.2 i)).map Prod.fst, ∀ y ∈ (z_st c (a j) (X.2.2 j)).map Prod.fst, x ≠ y := by
    intro i j hi hj hij
    have := h5 i j (by rw [List.length_range]; exact hi) (by rw [List.length_range]; exact hj) hij
    rw [List.getElem_range, List.getElem_range] at this
    exact this
  refine ⟨fun k hk => h4 k (List.mem_range.mpr hk), fun j k hj hk hjk x hx y hy => ?_, fun k hk x hx y hy => ?_, h1⟩
  · rcases Nat.lt_or_gt_of_ne hjk with h | h
    · exact h6 j k hj hk h x hx y hy
    · exact (h6 k j hk hj h y hy x hx).symm
  · refine h3 x hx y ?_
    obtain ⟨q, hq, rfl⟩ := List.mem_map.mp hy
    exact List.mem_map.mpr ⟨q, List.mem_flatMap.mpr ⟨k, List.mem_range.mpr hk, hq⟩, rfl⟩
theorem z_inS {k : Nat} (hk : k < 19) : ∀ q ∈ z_st c (a k) (X.2.2 k), q ∈ z_dw c b a X := by
  intro q hq
  rw [z_dwE]
  exact List.mem_append_right _ (List.mem_flatMap.mpr ⟨k, List.mem_range.mpr hk, hq⟩)
theorem z_cutS (hD : va_D A (z_dw c b a X)) {k : Nat} (hk : k < 19) (u : z_R) : z_Cut (z_dw c b a X) (z_st c (a k) (X.2.2 k)) (z_st c (a k) u) (z_dw c b a (X.1, X.2.1, z_u3 X.2.2 k u)) := by
  obtain ⟨h1, h2, h3, -⟩ := z_ap hD
  refine ⟨z_inS hk, h1 k hk, z_dwA, fun q hq => ?_⟩
  rw [z_dwE] at hq
  rcases List.mem_append.mp hq with hq | hq
  · have hq : q ∈ z_hd c b a X := hq
    refine Or.inr ⟨by rw [z_dwE]; exact List.mem_append_left _ hq, fun hx => ?_⟩
    exact h3 k hk q.1 (List.mem_map.mpr ⟨q, hq, rfl⟩) q.1 hx rfl
  · obtain ⟨j, hj, hq⟩ := List.mem_flatMap.mp hq
    have hj := List.mem_range.mp hj
    by_cases e : j = k
    · subst e
      have hq : q ∈ z_st c (a j) (z_u3 X.2.2 j u j) := hq
      rw [show z_u3 X.2.2 j u j = u from if_pos rfl] at hq
      exact Or.inl hq
    · have hq : q ∈ z_st c (a j) (z_u3 X.2.2 k u j) := hq
      rw [show z_u3 X.2.2 k u j = X.2.2 j from if_neg e] at hq
      refine Or.inr ⟨z_inS hj q hq, fun hx => ?_⟩
      exact h2 j k hj hk e q.1 (List.mem_map.mpr ⟨q, hq, rfl⟩) q.1 hx rfl
/-- nothing of the part changes -/
theorem z_cutP {V Vc : va_W} (hs : ∀ q ∈ Vc, q ∈ V) (hn : (Vc.map Prod.fst).Nodup) (hV : (V.map Prod.fst).Nodup) : z_Cut V Vc Vc V := by
  refine ⟨hs, hn, rfl, fun q hq => ?_⟩
  by_cases h : q.1 ∈ Vc.map Prod.fst
  · obtain ⟨q2, h2, e2⟩ := List.mem_map.mp h
    have hD : va_D (fun _ => True) V := z_Dof hV (fun _ _ => trivial)
    obtain ⟨i, hi⟩ := List.getElem?_of_mem (hs q2 h2)
    obtain ⟨j, hj⟩ := List.getElem?_of_mem hq
    have hij := hD.1 i j q2 q hi hj e2
    subst hij
    rw [hi] at hj
    cases hj
    exact Or.inl h2
  · exact Or.inr ⟨hq, h⟩
theorem z_cutSp (hD : va_D A (z_dw c b a X)) {k : Nat} (hk : k < 19) : z_Cut (z_dw c b a X) (z_st c (a k) (X.2.2 k)) (z_st c (a k) (X.2.2 k)) (z_dw c b a X) := z_cutP (z_inS hk) ((z_ap hD).1 k hk) (z_nd hD)
theorem z_cutSS (hD : va_D A (z_dw c b a X)) {k j : Nat} (hk : k < 19) (hj : j < 19) (hkj : k ≠ j) (u : z_R) : z_Cut (z_dw c b a X) (z_st c (a k) (X.2.2 k) ++ z_st c (a j) (X.2.2 j)) (z_st c (a k) u ++ z_st c (a j) (X.2.2 j)) (z_dw c b a (X.1, X.2.1, z_u3 X.2.2 k u)) := by
  obtain ⟨h1, h2, h3, -⟩ := z_ap hD
  obtain ⟨c1, c2, c3, c4⟩ := z_cutS hD hk u
  refine ⟨fun q hq => ?_, ?_, c3, fun q hq => ?_⟩
  · rcases List.mem_append.mp hq with h | h
    · exact z_inS hk q h
    · exact z_inS hj q h
  · rw [List.map_append, List.nodup_append]
    exact ⟨h1 k hk, h1 j hj, fun x hx y hy => h2 k j hk hj hkj x hx y hy⟩
  · rcases c4 q hq with h | ⟨h, hn⟩
    · exact Or.inl (List.mem_append_left _ h)
    · by_cases hx : q.1 ∈ (z_st c (a j) (X.2.2 j)).map Prod.fst
      · obtain ⟨q2, hq2, e2⟩ := List.mem_map.mp hx
        obtain ⟨i1, hi1⟩ := List.getElem?_of_mem (z_inS (c := c) (b := b) (a := a) (X := X) hj q2 hq2)
        obtain ⟨i2, hi2⟩ := List.getElem?_of_mem h
        have hij := hD.1 i1 i2 q2 q hi1 hi2 e2
        subst hij
        rw [hi1] at hi2
        cases hi2
        exact Or.inl (List.mem_append_right _ hq2)
      · refine Or.inr ⟨h, fun hh => ?_⟩
        rw [List.map_append] at hh
        rcases List.mem_append.mp hh with hh | hh
        · exact hn hh
        · exact hx hh
theorem z_cutT (hD : va_D A (z_dw c b a X)) (t : z_R) : z_Cut (z_dw c b a X) (z_tx c (fun i => b (i + 1)) X.1) (z_tx c (fun i => b (i + 1)) t) (z_dw c b a (t, X.2.1, X.2.2)) := by
  obtain ⟨h1, h2, h3, h4⟩ := z_ap hD
  have hs : ∀ q ∈ z_tx c (fun i => b (i + 1)) X.1, q ∈ z_hd c b a X := by
    intro q hq
    rcases List.mem_cons.mp hq with e | hq
    · rw [e]; exact List.mem_cons_of_mem _ List.mem_cons_self
    · rcases List.mem_cons.mp hq with e | hq
      · rw [e]; exact List.mem_cons_of_mem _ (List.mem_cons_of_mem _ List.mem_cons_self)
      · exact absurd hq List.not_mem_nil
  have hb : List.Nodup [b 0, b 1, b 2, b 3, b 4, b 5, b 6] := h4
  have e01 : b 0 ≠ b 1 := by simp at hb; omega
  have e02 : b 0 ≠ b 2 := by simp at hb; omega
  have e12 : b 1 ≠ b 2 := by simp at hb; omega
  have eo : ∀ x, x = b 3 ∨ x = b 4 ∨ x = b 5 ∨ x = b 6 → x ≠ b 1 ∧ x ≠ b 2 := by simp at hb; omega
  refine ⟨fun q hq => by rw [z_dwE]; exact List.mem_append_left _ (hs q hq), ?_, z_dwA, fun q hq => ?_⟩
  · show List.Nodup [b 1, b 2]
    simp [e12]
  · rw [z_dwE] at hq
    rcases List.mem_append.mp hq with hq | hq
    · have key : ∀ x, x ∈ (z_tx c (fun i => b (i + 1)) X.1).map Prod.fst → x = b 1 ∨ x = b 2 := by
        intro x hx
        have hx : x ∈ [b 1, b 2] := hx
        simpa using hx
      have old : ∀ q ∈ z_hd c b a X, q.1 ≠ b 1 → q.1 ≠ b 2 → q ∈ z_tx c (fun i => b (i + 1)) t ∨ (q ∈ z_dw c b a X ∧ q.1 ∉ (z_tx c (fun i => b (i + 1)) X.1).map Prod.fst) := fun q h n1 n2 => Or.inr ⟨by rw [z_dwE]; exact List.mem_append_left _ h, fun hx => by
        rcases key _ hx with e | e
        · exact n1 e
        · exact n2 e⟩
      rcases List.mem_cons.mp hq with e | hq
      · rw [e]; exact old _ List.mem_cons_self e01 e02
      · rcases List.mem_cons.mp hq with e | hq
        · rw [e]; exact Or.inl List.mem_cons_self
        · rcases List.mem_cons.mp hq with e | hq
          · rw [e]; exact Or.inl (List.mem_cons_of_mem _ List.mem_cons_self)
          · have hq' : q ∈ z_hd c b a X := List.mem_cons_of_mem _ (List.mem_cons_of_mem _ (List.mem_cons_of_mem _ hq))
            have h9 : q.1 ∈ [b 3, b 4, b 5, b 6] := List.mem_map.mpr ⟨q, hq, rfl⟩
            have h8 := eo q.1 (by simpa using h9)
            exact old q hq' h8.1 h8.2
    · obtain ⟨j, hj, hq⟩ := List.mem_flatMap.mp hq
      have hj := List.mem_range.mp hj
      refine Or.inr ⟨z_inS hj q hq, fun hx => ?_⟩
      obtain ⟨q2, hq2, e2⟩ := List.mem_map.mp hx
      exact h3 j hj q2.1 (List.mem_map.mpr ⟨q2, hs q2 hq2, rfl⟩) q.1 (List.mem_map.mpr ⟨q, hq, rfl⟩) e2
theorem z_cutTp (hD : va_D A (z_dw c b a X)) : z_Cut (z_dw c b a X) (z_tx c (fun i => b (i + 1)) X.1) (z_tx c (fun i => b (i + 1)) X.1) (z_dw c b a X) := z_cutT hD X.1
theorem z_cutR (hD : va_D A (z_dw c b a X)) {k : Nat} (hk : k < 19) (r n : Nat) (f : Nat → Int32) (h : (a k r, .inl (c 0, n, .inl f)) ∈ z_st c (a k) (X.2.2 k)) : z_Cut (z_dw c b a X) (z_r1 c (a k r) n f) (z_r1 c (a k r) n f) (z_dw c b a X) := by
  refine z_cutP (fun q hq => ?_) ?_ (z_nd hD)
  · rcases List.mem_cons.mp hq with e | hq
    · rw [e]; exact z_inS hk _ h
    · exact absurd hq List.not_mem_nil
  · show List.Nodup [a k r]
    simp
theorem z_pl3 {G : Nat → z_R} {k : Nat} (hk : k < 3) (u : z_R) : z_pl c a (z_u3 G k u) = z_pl c a G := by
  unfold z_pl
  congr 1
  funext j
  rw [show z_u3 G k u (j + 3) = G (j + 3) from if_neg (by omega)]

theorem z_put0_0 (v : Int32) : (z_dw c b a X).set 7 (a 0 0, .inr (2, [.int v, .int ((X.2.2 0) 0 1), .int ((X.2.2 0) 0 2), .int ((X.2.2 0) 0 3), .ref (a 0 1), .ref (a 0 2), .ref (a 0 3), .ref (a 0 4), .ref (a 0 5), .ref (a 0 6), .ref (a 0 7), .ref (a 0 8), .ref (a 0 9), .ref (a 0 10), .ref (a 0 11), .ref (a 0 12)])) = z_dw c b a (X.1, X.2.1, z_u3 X.2.2 0 (z_u2 (X.2.2 0) 0 0 v)) := by
  unfold z_dw
  rw [z_pl3 (by decide)]
  rfl
theorem z_put0_2 (v : Int32) : (z_dw c b a X).set 7 (a 0 0, .inr (2, [.int ((X.2.2 0) 0 0), .int ((X.2.2 0) 0 1), .int v, .int ((X.2.2 0) 0 3), .ref (a 0 1), .ref (a 0 2), .ref (a 0 3), .ref (a 0 4), .ref (a 0 5), .ref (a 0 6), .ref (a 0 7), .ref (a 0 8), .ref (a 0 9), .ref (a 0 10), .ref (a 0 11), .ref (a 0 12)])) = z_dw c b a (X.1, X.2.1, z_u3 X.2.2 0 (z_u2 (X.2.2 0) 0 2 v)) := by
  unfold z_dw
  rw [z_pl3 (by decide)]
  rfl
theorem z_put1_2 (v : Int32) : (z_dw c b a X).set 23 (a 1 0, .inr (2, [.int ((X.2.2 1) 0 0), .int ((X.2.2 1) 0 1), .int v, .int ((X.2.2 1) 0 3), .ref (a 1 1), .ref (a 1 2), .ref (a 1 3), .ref (a 1 4), .ref (a 1 5), .ref (a 1 6), .ref (a 1 7), .ref (a 1 8), .ref (a 1 9), .ref (a 1 10), .ref (a 1 11), .ref (a 1 12)])) = z_dw c b a (X.1, X.2.1, z_u3 X.2.2 1 (z_u2 (X.2.2 1) 0 2 v)) := by
  unfold z_dw
  rw [z_pl3 (by decide)]
  rfl
theorem z_putR1_5 (j : Nat) (v : Int32) : (z_dw c b a X).set 28 (a 1 5, .inl (c 0, 16, .inl (upd (X.2.2 1 5) j v))) = z_dw c b a (X.1, X.2.1, z_u3 X.2.2 1 (z_u2 (X.2.2 1) 5 j v)) := by
  unfold z_dw
  rw [z_pl3 (by decide)]
  rfl
theorem z_putR1_6 (j : Nat) (v : Int32) : (z_dw c b a X).set 29 (a 1 6, .inl (c 0, 16, .inl (upd (X.2.2 1 6) j v))) = z_dw c b a (X.1, X.2.1, z_u3 X.2.2 1 (z_u2 (X.2.2 1) 6 j v)) := by
  unfold z_dw
  rw [z_pl3 (by decide)]
  rfl
end ZE
def z_str : List (Nat × String) := [(189, "no such number of places"), (206, "a number of the order is out of its range"), (208, "there are 16 orders"), (130, "no such order"), (218, "what or v is out of its range"), (243, "ticks is not 1 to 99"), (224, "no such order or place"), (229, "another order stands there"), (157, "what is not 0 to 8"), (172, "no such place"), (162, "no such author"), (167, "what is not 0 to 2"), (177, "no such number of a jump"), (122, "what is not 0 to 9")]
theorem z_k3 {i : Int32} (h : z_in i 14 = true) : i.toNatClampNeg + 3 < 19 := by
  have h1 := z_inE h
  have h2 : ¬ (14 ≤ i.toNatClampNeg) := fun q => h1 (Or.inr q)
  omega
theorem z_k17 {i : Int32} (h : z_in i 2 = true) : i.toNatClampNeg + 17 < 19 := by
  have h1 := z_inE h
  have h2 : ¬ (2 ≤ i.toNatClampNeg) := fun q => h1 (Or.inr q)
  omega
theorem z_show {p : Program} {l : Launch} {e : Env} {R : Room} {s : State} {m : MethodId} {args : Array Value} {below : List Frame} {meth : Method} {co : Code} {H : Heap} {locs : List Loc} {cells slots : Nat} {Q : State → Prop} {pc : Nat} {ls : Array Slot} {st st' : List Value} (h : st = st') (k : W p l e R s m args below meth co H locs cells slots Q (F0 m pc ls st)) : W p l e R s m args below meth co H locs cells slots Q (F0 m pc ls st') := by
  rw [← h]; exact k
/-- the exceptions: by number -/
def z_ex (k : Nat) : String := if k = 1 then "java/lang/IllegalArgumentException" else if k = 2 then "java/lang/IllegalStateException" else "java/lang/IndexOutOfBoundsException"
def z_nms : List String := ["java/lang/RuntimeException", "java/lang/Exception"]
def z_tD : List MethodName := [Bundle.initS "java/lang/RuntimeException", Bundle.initS "java/lang/Exception", Bundle.initS Bundle.tN]
def z_tC : List (String × String) := [(z_ex 1, z_ex 1), (z_ex 2, z_ex 2), (z_ex 3, z_ex 3)]
def z_tN : List (String × String) := [(z_ex 1, z_ex 3), (z_ex 2, z_ex 3), (z_ex 1, z_ex 2), (z_ex 3, z_ex 2)]
def z_bad (E : String) : List Cond := z_tD.map Cond.declares ++ [.castable E E]
/-- what a throw wants of the state beside the tables' words -/
def z_EH (A : Nat → Prop) (U : State) (H : Heap) : Prop := vx_Zq Bundle.tN "UNASSIGNED_STACK" Bundle.steD A U H ∧ vx_Zq Bundle.tN "SUPPRESSED_SENTINEL" Bundle.listD A U H ∧ (∀ q ∈ z_str, ∃ sa, vk_R RX4 q.1 q.2 sa U) ∧ (∀ y ∈ z_tD, va_Nw (.declares y) U) ∧ (∀ q ∈ z_tC, va_Nw (.castable q.1 q.2) U) ∧ ∀ q ∈ z_tN, va_Nc q.1 q.2 U
theorem z_EH.same {A : Nat → Prop} {u U : State} {H : Heap} (e : U.vm = u.vm) (h : z_EH A u H) : z_EH A U H := ⟨h.1.moved (by rw [e]; exact Vm.Alike.refl _), h.2.1.moved (by rw [e]; exact Vm.Alike.refl _), fun q hq => by
  obtain ⟨sa, h1⟩ := h.2.2.1 q hq
  exact ⟨sa, h1.same e⟩, fun y hy => (h.2.2.2.1 y hy).same rfl e.symm, fun q hq => (h.2.2.2.2.1 q hq).same rfl e.symm, fun q hq => (h.2.2.2.2.2 q hq).moved (by rw [e]; exact Vm.Alike.refl _)⟩
theorem z_EH.moved {A : Nat → Prop} {u U : State} {H : Heap} (hW : u.WarmedH U.vm) (h : z_EH A u H) : z_EH A U H := ⟨h.1.moved hW.alike, h.2.1.moved hW.alike, fun q hq => by
  obtain ⟨sa, h1⟩ := h.2.2.1 q hq
  exact ⟨sa, h1.warm hW⟩, fun y hy => va_Nw.warmD hW (h.2.2.2.1 y hy), fun q hq => va_Nw.warmC hW (h.2.2.2.2.1 q hq), fun q hq => (h.2.2.2.2.2 q hq).moved hW.alike⟩
theorem z_EH.kept {A B : Nat → Prop} {u : State} {H H1 : Heap} (h : z_EH A u H) (hq : ∀ a : Nat, a < H.size → ¬ A a → H1[a]? = H[a]?) (hAB : ∀ q, B q → A q) : z_EH B u H1 := ⟨(h.1.kept hq).narrow hAB, (h.2.1.kept hq).narrow hAB, h.2.2⟩
abbrev z_Pt (D : va_G) (c : Nat → ClassId) (sz : Nat) (V : va_W) (av : List Value) : Array Value → State → Prop := va_Pc av (fun U => U.heap.size = sz ∧ va_P D vwCl V U.heap ∧ z_K D c U ∧ va_D (fun _ => True) V ∧ z_EH (va_A V sz) U U.heap)
theorem z_blt {D : va_G} {c : Nat → ClassId} {sz : Nat} {V : va_W} {av : List Value} : FrameBlind (z_Pt D c sz V av) := fun a U g mk q => by
  obtain ⟨q0, q1, qP, qK, qD, qE⟩ := q
  exact ⟨q0, q1, qP, z_K.same (u := U) (U := U.calling g mk a) rfl qK, qD, z_EH.same (u := U) (U := U.calling g mk a) rfl qE⟩
theorem z_pret {D : va_G} {c : Nat → ClassId} {V : va_W} {av : List Value} {s : State} {H : Heap} {A : Nat → Prop} (hP : va_P D vwCl V H) (hK : z_K D c s) (hD : va_D A V) (hE : z_EH (va_A V H.size) s H) : ∀ U : State, U.heap = H → s.WarmedH U.vm → z_Pt D c H.size V av av.toArray U := fun U hU hW => ⟨rfl, by rw [hU], by rw [hU]; exact hP, hK.moved hW, hD.weaken (fun _ _ _ _ => trivial), by rw [hU]; exact hE.moved hW⟩
/-- a method that answers an int or throws -/
abbrev z_Ti (D : va_G) {S : Type} (wf : S → va_W) (r0 : Int32 ⊕ Nat) (g0 : S) (A : Nat → Prop) : Array Value → State → Outcome → State → Prop := va_Qi (fun r u => r0 = .inl r ∧ u = g0) (z_B D wf A) A
abbrev z_Tx (D : va_G) {S : Type} (wf : S → va_W) (r0 : Int32 ⊕ Nat) (g0 : S) (A : Nat → Prop) : String → State → State → Prop := vx_X (fun u : S => u = g0) (fun E u t => (∃ k, r0 = .inr k ∧ E = z_ex k) ∧ va_P D vwCl (wf u) t.heap ∧ va_D A (wf u)) A
theorem z_ofT {l : Launch} {y : MethodName} {ws ws' : List Cond} {rm : Room} {D : va_G} {c : Nat → ClassId} {sz : Nat} {V : va_W} {av : List Value} {Qf : (Nat → Prop) → Array Value → State → Outcome → State → Prop} {Xf : (Nat → Prop) → String → State → State → Prop} {cc : ByteArray} {maxL mc ms : Nat} {ret : Option FieldType}
    (hy : plainName y.cls = true) (hw : ws = Cond.code y cc maxL ret :: ws') (hn : (lg_sl av).length ≤ maxL)
    (body : ∀ (p : Program) (e : Env) (s : State) (m : MethodId) (args : Array Value) (below : List Frame) (meth : Method) (co : Code) (A : Nat → Prop) (ls : Array Slot), p.tables.exec = Jvm.exec → co.code = cc → meth.sig.returnType = ret → co.maxLocals = maxL → (∀ w ∈ ws, w.before args s = true) → s.vm.findClass y.cls = some m.cls → meth.locks = false → meth.name = y.name → (∀ x ∈ co.exceptionTable.toList, False) → (∀ q : Nat, s.heap.size ≤ q → A q) → va_P D vwCl V s.heap → z_K D c s → va_D A V → z_EH A s s.heap → lv_has ls maxL (lv_args 0 av) → s.heap.size = sz →
      W p l e rm s m args below meth co s.heap [] 0 0 (vx_MQ below (Qf A) (Xf A) args s mc ms A) (F0 m 0 ls [])) :
    vx_Met l y ws rm (z_Pt D c sz V av) (Qf (va_A V sz)) (Xf (va_A V sz)) mc ms (va_A V sz) := by
  refine vx_ofW (cc := cc) (maxL := maxL) (ret := ret) hy hw ?_
  intro p e s m args below meth co s₁ B hml hxt hv
  obtain ⟨rfl, hsz, hP, hK, hD0, hE⟩ := hv
  have hts := atoms_spec (ws := ws) B.pre
  have hown : s.vm.findClass y.cls = some m.cls := findClass_of_methodNamed B.named
  have hin : meth.name = y.name := (name_of_methodNamed B.named B.method).1
  have hl := lv_entry av (n := maxL) hn
  rw [lg_entry_eq]
  exact body p e s m _ below meth co (va_A V sz) _ B.exec B.bytes B.returns hml hts hown B.notSynchronized hin hxt (fun q h => Or.inr (by rw [← hsz]; exact h)) hP hK hD0.self hE hl hsz
section ZT
variable {p : Program} {l : Launch} {e : Env} {R : Room} {s : State} {m : MethodId} {args : Array Value} {below : List Frame} {meth : Method} {co : Code} {H : Heap} {locs : List Loc}
variable {cc : ByteArray} {pc : Nat} {ls : Array Slot} {D : va_G} {A : Nat → Prop} {S : Type} {wf : S → va_W} {g g0 : S} {r : Int32} {r0 : Int32 ⊕ Nat} {rest : List Value}
theorem z_ti {XC : String → State → State → Prop} (hx : p.tables.exec = Jvm.exec) (hb : co.code = cc) (hr : meth.sig.returnType = some .int) (hlocks : meth.locks = false) (hP : va_P D vwCl (wf g) H) (hD : va_D A (wf g)) (hS : va_S A s.heap H locs) (hf : some ((Sum.inl r : Int32 ⊕ Nat), g) = some (r0, g0)) (hdg : decode cc pc = .ok (.ireturn, 1)) : W p l e R s m args below meth co H locs 0 0 (vx_MQ below (z_Ti D wf r0 g0 A) XC args s 1 6 A) (F0 m pc ls [.int r]) := by
  cases hf
  refine W.widen (k := 1) (n := 6) (Nat.zero_le _) (Nat.zero_le _) (vx_ret ?_)
  exact W.iret (v := r) hx hb hr (fun t ht _ => ⟨⟨r, g, rfl, ⟨rfl, rfl⟩, by rw [ht]; exact hP, hD⟩, hS.F ht⟩) hS.2.2 hdg hlocks
theorem z_keepT {V : va_W} {H1 : Heap} (hP : va_P D vwCl V H) (hq : ∀ q : Nat, q < H.size → H1[q]? = H[q]?) : va_P D vwCl V H1 := hP.kept fun k q hk => hq q.1 (hP k q hk).lt
theorem z_thrX {cls : String} {k : Nat} (hg0 : (Sum.inr k : Int32 ⊕ Nat) = r0) (hg : g = g0) (hk : cls = z_ex k) (hP : va_P D vwCl (wf g) H) (hD : va_D A (wf g)) (hS : va_S A s.heap H locs) : ∀ t : State, s.vm.Alike t.vm → H.size ≤ t.heap.size → (∀ q : Nat, q < H.size → t.heap[q]? = H[q]?) → z_Tx D wf r0 g0 A cls s t := fun t _ hsz hq => ⟨g, hg, ⟨⟨k, hg0.symm, hk⟩, z_keepT hP hq, hD⟩, ⟨Nat.le_trans hS.1 hsz, fun q h1 h2 => by rw [hq q (Nat.lt_of_lt_of_le h1 hS.1)]; exact hS.2.1 q h1 h2⟩⟩
theorem z_at3 {own : String} {ic k : Nat} (hE : z_EH A s s.heap) (hat : ∀ w ∈ (vx_atS own ic (z_ex k) z_nms).filter goodWord, w.before args s = true) (hk : (z_ex k, z_ex k) ∈ z_tC) (hbad : ∀ w ∈ (vx_atS own ic (z_ex k) z_nms).filter (fun w => !goodWord w), w ∈ z_bad (z_ex k)) : ∀ w ∈ vx_atS own ic (z_ex k) z_nms, w.before args s = true := vx_hat hat hbad (fun w hw => by
  unfold z_bad at hw
  rcases List.mem_append.mp hw with h | h
  · obtain ⟨y, hy, rfl⟩ := List.mem_map.mp h
    exact va_Nw.use rfl (hE.2.2.2.1 y hy)
  · rcases List.mem_cons.mp h with e | h
    · rw [e]; exact va_Nw.use rfl (hE.2.2.2.2.1 _ hk)
    · exact absurd h List.not_mem_nil)

theorem z_thr1 {ik is : Nat} {text : String} (hx : p.tables.exec = Jvm.exec) (hb : co.code = cc) (hlst : l.stackTraces = false) (hown : s.vm.findClass RX4 = some m.cls) (_hn : True ∨ meth.name = meth.name) (hlink : (Cond.classLink RX4 ik (z_ex 1)).before args s = true) (hini : (Cond.initialized (z_ex 1)).before args s = true) (hat : ∀ w ∈ (vx_atS RX4 48 (z_ex 1) z_nms).filter goodWord, w.before args s = true) (hE : z_EH A s s.heap) (hstr : (is, text) ∈ z_str) (hP : va_P D vwCl (wf g) H) (hD : va_D A (wf g)) (hS : va_S A s.heap H locs) (hsize : ls.size = co.maxLocals)
    (d0 : decode cc pc = .ok (.new ik, 3)) (d3 : decode cc (pc + 3) = .ok (.dup, 1)) (d4 : decode cc (pc + 4) = .ok (.ldc is, 2)) (d6 : decode cc (pc + 6) = .ok (.invokespecial 48, 3)) (d9 : decode cc (pc + 9) = .ok (.athrow, 1)) (hxt : ∀ x ∈ co.exceptionTable.toList, False) (hlocks : meth.locks = false) (hRf : 5 < R.frames) (hRl : 82 ≤ R.locals) (hRc : 1 ≤ R.cells) (hRs : 6 ≤ R.slots) (hrest : (rest.map fun v => v.category).sum = 0) (hf : some ((Sum.inr 1 : Int32 ⊕ Nat), g) = some (r0, g0)) : W p l e R s m args below meth co H locs 0 0 (vx_MQ below (z_Ti D wf r0 g0 A) (z_Tx D wf r0 g0 A) args s 1 6 A) (F0 m pc ls rest) := by
  obtain ⟨sa, hsa⟩ := hE.2.2.1 _ hstr
  refine vx_throwS (own := RX4) (cls := z_ex 1) (text := text) (names := z_nms) (ik := ik) (is := is) (ic := 48) (sa := sa) hx hb hlst hown (by decide +kernel) (by decide +kernel) hlink hini hsa (z_at3 hE hat (by decide +kernel) (by decide +kernel)) ?_ hE.1 hE.2.1 hS hsize d0 d3 d4 d6 d9 (fun x hx => (hxt x hx).elim) hRf (by rw [hrest]; exact hRl) (by omega) (by omega) hlocks (z_thrX (by cases hf; rfl) (by cases hf; rfl) rfl hP hD hS) hS.2.2 (by omega) (by omega)
  refine List.forall_mem_cons.mpr ⟨by rfl, List.forall_mem_cons.mpr ⟨by rfl, by decide +kernel⟩⟩
theorem z_thrW1 {ik is : Nat} {text : String} (hx : p.tables.exec = Jvm.exec) (hb : co.code = cc) (hlst : l.stackTraces = false) (hown : s.vm.findClass RX4 = some m.cls) (_hn : True ∨ meth.name = meth.name) (hlink : (Cond.classLink RX4 ik (z_ex 1)).before args s = true) (hini : (Cond.initialized (z_ex 1)).before args s = true) (hat : ∀ w ∈ (vx_atS RX4 48 (z_ex 1) z_nms).filter goodWord, w.before args s = true) (hE : z_EH A s s.heap) (hstr : (is, text) ∈ z_str) (hP : va_P D vwCl (wf g) H) (hD : va_D A (wf g)) (hS : va_S A s.heap H locs) (hsize : ls.size = co.maxLocals)
    (d0 : decode cc pc = .ok (.new ik, 3)) (d3 : decode cc (pc + 3) = .ok (.dup, 1)) (d4 : decode cc (pc + 4) = .ok (.ldc_w is, 3)) (d6 : decode cc (pc + 7) = .ok (.invokespecial 48, 3)) (d9 : decode cc (pc + 10) = .ok (.athrow, 1)) (hxt : ∀ x ∈ co.exceptionTable.toList, False) (hlocks : meth.locks = false) (hRf : 5 < R.frames) (hRl : 82 ≤ R.locals) (hRc : 1 ≤ R.cells) (hRs : 6 ≤ R.slots) (hrest : (rest.map fun v => v.category).sum = 0) (hf : some ((Sum.inr 1 : Int32 ⊕ Nat), g) = some (r0, g0)) : W p l e R s m args below meth co H locs 0 0 (vx_MQ below (z_Ti D wf r0 g0 A) (z_Tx D wf r0 g0 A) args s 1 6 A) (F0 m pc ls rest) := by
  obtain ⟨sa, hsa⟩ := hE.2.2.1 _ hstr
  refine vx_throwSW (own := RX4) (cls := z_ex 1) (text := text) (names := z_nms) (ik := ik) (is := is) (ic := 48) (sa := sa) hx hb hlst hown (by decide +kernel) (by decide +kernel) hlink hini hsa (z_at3 hE hat (by decide +kernel) (by decide +kernel)) ?_ hE.1 hE.2.1 hS hsize d0 d3 d4 d6 d9 (fun x hx => (hxt x hx).elim) hRf (by rw [hrest]; exact hRl) (by omega) (by omega) hlocks (z_thrX (by cases hf; rfl) (by cases hf; rfl) rfl hP hD hS) hS.2.2 (by omega) (by omega)
  refine List.forall_mem_cons.mpr ⟨by rfl, List.forall_mem_cons.mpr ⟨by rfl, by decide +kernel⟩⟩
theorem z_thr2 {ik is : Nat} {text : String} (hx : p.tables.exec = Jvm.exec) (hb : co.code = cc) (hlst : l.stackTraces = false) (hown : s.vm.findClass RX4 = some m.cls) (_hn : True ∨ meth.name = meth.name) (hlink : (Cond.classLink RX4 ik (z_ex 2)).before args s = true) (hini : (Cond.initialized (z_ex 2)).before args s = true) (hat : ∀ w ∈ (vx_atS RX4 59 (z_ex 2) z_nms).filter goodWord, w.before args s = true) (hE : z_EH A s s.heap) (hstr : (is, text) ∈ z_str) (hP : va_P D vwCl (wf g) H) (hD : va_D A (wf g)) (hS : va_S A s.heap H locs) (hsize : ls.size = co.maxLocals)
    (d0 : decode cc pc = .ok (.new ik, 3)) (d3 : decode cc (pc + 3) = .ok (.dup, 1)) (d4 : decode cc (pc + 4) = .ok (.ldc is, 2)) (d6 : decode cc (pc + 6) = .ok (.invokespecial 59, 3)) (d9 : decode cc (pc + 9) = .ok (.athrow, 1)) (hxt : ∀ x ∈ co.exceptionTable.toList, False) (hlocks : meth.locks = false) (hRf : 5 < R.frames) (hRl : 82 ≤ R.locals) (hRc : 1 ≤ R.cells) (hRs : 6 ≤ R.slots) (hrest : (rest.map fun v => v.category).sum = 0) (hf : some ((Sum.inr 2 : Int32 ⊕ Nat), g) = some (r0, g0)) : W p l e R s m args below meth co H locs 0 0 (vx_MQ below (z_Ti D wf r0 g0 A) (z_Tx D wf r0 g0 A) args s 1 6 A) (F0 m pc ls rest) := by
  obtain ⟨sa, hsa⟩ := hE.2.2.1 _ hstr
  refine vx_throwS (own := RX4) (cls := z_ex 2) (text := text) (names := z_nms) (ik := ik) (is := is) (ic := 59) (sa := sa) hx hb hlst hown (by decide +kernel) (by decide +kernel) hlink hini hsa (z_at3 hE hat (by decide +kernel) (by decide +kernel)) ?_ hE.1 hE.2.1 hS hsize d0 d3 d4 d6 d9 (fun x hx => (hxt x hx).elim) hRf (by rw [hrest]; exact hRl) (by omega) (by omega) hlocks (z_thrX (by cases hf; rfl) (by cases hf; rfl) rfl hP hD hS) hS.2.2 (by omega) (by omega)
  refine List.forall_mem_cons.mpr ⟨by rfl, List.forall_mem_cons.mpr ⟨by rfl, by decide +kernel⟩⟩
theorem z_thrW2 {ik is : Nat} {text : String} (hx : p.tables.exec = Jvm.exec) (hb : co.code = cc) (hlst : l.stackTraces = false) (hown : s.vm.findClass RX4 = some m.cls) (_hn : True ∨ meth.name = meth.name) (hlink : (Cond.classLink RX4 ik (z_ex 2)).before args s = true) (hini : (Cond.initialized (z_ex 2)).before args s = true) (hat : ∀ w ∈ (vx_atS RX4 59 (z_ex 2) z_nms).filter goodWord, w.before args s = true) (hE : z_EH A s s.heap) (hstr : (is, text) ∈ z_str) (hP : va_P D vwCl (wf g) H) (hD : va_D A (wf g)) (hS : va_S A s.heap H locs) (hsize : ls.size = co.maxLocals)
    (d0 : decode cc pc = .ok (.new ik, 3)) (d3 : decode cc (pc + 3) = .ok (.dup, 1)) (d4 : decode cc (pc + 4) = .ok (.ldc_w is, 3)) (d6 : decode cc (pc + 7) = .ok (.invokespecial 59, 3)) (d9 : decode cc (pc + 10) = .ok (.athrow, 1)) (hxt : ∀ x ∈ co.exceptionTable.toList, False) (hlocks : meth.locks = false) (hRf : 5 < R.frames) (hRl : 82 ≤ R.locals) (hRc : 1 ≤ R.cells) (hRs : 6 ≤ R.slots) (hrest : (rest.map fun v => v.category).sum = 0) (hf : some ((Sum.inr 2 : Int32 ⊕ Nat), g) = some (r0, g0)) : W p l e R s m args below meth co H locs 0 0 (vx_MQ below (z_Ti D wf r0 g0 A) (z_Tx D wf r0 g0 A) args s 1 6 A) (F0 m pc ls rest) := by
  obtain ⟨sa, hsa⟩ := hE.2.2.1 _ hstr
  refine vx_throwSW (own := RX4) (cls := z_ex 2) (text := text) (names := z_nms) (ik := ik) (is := is) (ic := 59) (sa := sa) hx hb hlst hown (by decide +kernel) (by decide +kernel) hlink hini hsa (z_at3 hE hat (by decide +kernel) (by decide +kernel)) ?_ hE.1 hE.2.1 hS hsize d0 d3 d4 d6 d9 (fun x hx => (hxt x hx).elim) hRf (by rw [hrest]; exact hRl) (by omega) (by omega) hlocks (z_thrX (by cases hf; rfl) (by cases hf; rfl) rfl hP hD hS) hS.2.2 (by omega) (by omega)
  refine List.forall_mem_cons.mpr ⟨by rfl, List.forall_mem_cons.mpr ⟨by rfl, by decide +kernel⟩⟩
theorem z_thr3 {ik is : Nat} {text : String} (hx : p.tables.exec = Jvm.exec) (hb : co.code = cc) (hlst : l.stackTraces = false) (hown : s.vm.findClass RX4 = some m.cls) (_hn : True ∨ meth.name = meth.name) (hlink : (Cond.classLink RX4 ik (z_ex 3)).before args s = true) (hini : (Cond.initialized (z_ex 3)).before args s = true) (hat : ∀ w ∈ (vx_atS RX4 132 (z_ex 3) z_nms).filter goodWord, w.before args s = true) (hE : z_EH A s s.heap) (hstr : (is, text) ∈ z_str) (hP : va_P D vwCl (wf g) H) (hD : va_D A (wf g)) (hS : va_S A s.heap H locs) (hsize : ls.size = co.maxLocals)
    (d0 : decode cc pc = .ok (.new ik, 3)) (d3 : decode cc (pc + 3) = .ok (.dup, 1)) (d4 : decode cc (pc + 4) = .ok (.ldc is, 2)) (d6 : decode cc (pc + 6) = .ok (.invokespecial 132, 3)) (d9 : decode cc (pc + 9) = .ok (.athrow, 1)) (hxt : ∀ x ∈ co.exceptionTable.toList, False) (hlocks : meth.locks = false) (hRf : 5 < R.frames) (hRl : 82 ≤ R.locals) (hRc : 1 ≤ R.cells) (hRs : 6 ≤ R.slots) (hrest : (rest.map fun v => v.category).sum = 0) (hf : some ((Sum.inr 3 : Int32 ⊕ Nat), g) = some (r0, g0)) : W p l e R s m args below meth co H locs 0 0 (vx_MQ below (z_Ti D wf r0 g0 A) (z_Tx D wf r0 g0 A) args s 1 6 A) (F0 m pc ls rest) := by
  obtain ⟨sa, hsa⟩ := hE.2.2.1 _ hstr
  refine vx_throwS (own := RX4) (cls := z_ex 3) (text := text) (names := z_nms) (ik := ik) (is := is) (ic := 132) (sa := sa) hx hb hlst hown (by decide +kernel) (by decide +kernel) hlink hini hsa (z_at3 hE hat (by decide +kernel) (by decide +kernel)) ?_ hE.1 hE.2.1 hS hsize d0 d3 d4 d6 d9 (fun x hx => (hxt x hx).elim) hRf (by rw [hrest]; exact hRl) (by omega) (by omega) hlocks (z_thrX (by cases hf; rfl) (by cases hf; rfl) rfl hP hD hS) hS.2.2 (by omega) (by omega)
  refine List.forall_mem_cons.mpr ⟨by rfl, List.forall_mem_cons.mpr ⟨by rfl, by decide +kernel⟩⟩
theorem z_thrW3 {ik is : Nat} {text : String} (hx : p.tables.exec = Jvm.exec) (hb : co.code = cc) (hlst : l.stackTraces = false) (hown : s.vm.findClass RX4 = some m.cls) (_hn : True ∨ meth.name = meth.name) (hlink : (Cond.classLink RX4 ik (z_ex 3)).before args s = true) (hini : (Cond.initialized (z_ex 3)).before args s = true) (hat : ∀ w ∈ (vx_atS RX4 132 (z_ex 3) z_nms).filter goodWord, w.before args s = true) (hE : z_EH A s s.heap) (hstr : (is, text) ∈ z_str) (hP : va_P D vwCl (wf g) H) (hD : va_D A (wf g)) (hS : va_S A s.heap H locs) (hsize : ls.size = co.maxLocals)
    (d0 : decode cc pc = .ok (.new ik, 3)) (d3 : decode cc (pc + 3) = .ok (.dup, 1)) (d4 : decode cc (pc + 4) = .ok (.ldc_w is, 3)) (d6 : decode cc (pc + 7) = .ok (.invokespecial 132, 3)) (d9 : decode cc (pc + 10) = .ok (.athrow, 1)) (hxt : ∀ x ∈ co.exceptionTable.toList, False) (hlocks : meth.locks = false) (hRf : 5 < R.frames) (hRl : 82 ≤ R.locals) (hRc : 1 ≤ R.cells) (hRs : 6 ≤ R.slots) (hrest : (rest.map fun v => v.category).sum = 0) (hf : some ((Sum.inr 3 : Int32 ⊕ Nat), g) = some (r0, g0)) : W p l e R s m args below meth co H locs 0 0 (vx_MQ below (z_Ti D wf r0 g0 A) (z_Tx D wf r0 g0 A) args s 1 6 A) (F0 m pc ls rest) := by
  obtain ⟨sa, hsa⟩ := hE.2.2.1 _ hstr
  refine vx_throwSW (own := RX4) (cls := z_ex 3) (text := text) (names := z_nms) (ik := ik) (is := is) (ic := 132) (sa := sa) hx hb hlst hown (by decide +kernel) (by decide +kernel) hlink hini hsa (z_at3 hE hat (by decide +kernel) (by decide +kernel)) ?_ hE.1 hE.2.1 hS hsize d0 d3 d4 d6 d9 (fun x hx => (hxt x hx).elim) hRf (by rw [hrest]; exact hRl) (by omega) (by omega) hlocks (z_thrX (by cases hf; rfl) (by cases hf; rfl) rfl hP hD hS) hS.2.2 (by omega) (by omega)
  refine List.forall_mem_cons.mpr ⟨by rfl, List.forall_mem_cons.mpr ⟨by rfl, by decide +kernel⟩⟩
end ZT
end
section
/-! the law's worlds: the drum, the reference, the row of one long; calls on a part of them -/
def z_ow (c : Nat → ClassId) (o : Nat) (f : Nat → Int64) : va_W := [(o, .inl (c 3, 1, .inr (.inl f)))]
abbrev z_H : Type := z_X × (Nat → Int64)
def z_hw (c : Nat → ClassId) (b : Nat → Nat) (a : Nat → Nat → Nat) (o : Nat) (Y : z_H) : va_W := z_dw c b a Y.1 ++ z_ow c o Y.2
abbrev z_Y : Type := z_X × z_R × (Nat → Int64)
def z_lw (c : Nat → ClassId) (b : Nat → Nat) (a : Nat → Nat → Nat) (d : Nat → Nat) (o : Nat) (Y : z_Y) : va_W := z_dw c b a Y.1 ++ (z_md c d Y.2.1 ++ z_ow c o Y.2.2)
theorem z_cut1 {A : Nat → Prop} {B1 R C1 : va_W} (hD : va_D A (B1 ++ R)) (e1 : C1.map Prod.fst = B1.map Prod.fst) : z_Cut (B1 ++ R) B1 C1 (C1 ++ R) := by
  have h := z_nd hD
  rw [List.map_append, List.nodup_append] at h
  obtain ⟨n1, n2, n12⟩ := h
  refine ⟨fun q hq => List.mem_append_left _ hq, n1, by rw [List.map_append, List.map_append, e1], fun q hq => ?_⟩
  rcases List.mem_append.mp hq with h | h
  · exact Or.inl h
  · exact Or.inr ⟨List.mem_append_right _ h, fun hx => n12 q.1 hx q.1 (List.mem_map.mpr ⟨q, h, rfl⟩) rfl⟩
theorem z_cut2 {A : Nat → Prop} {B1 B2 B3 C2 : va_W} (hD : va_D A (B1 ++ (B2 ++ B3))) (e2 : C2.map Prod.fst = B2.map Prod.fst) : z_Cut (B1 ++ (B2 ++ B3)) B2 C2 (B1 ++ (C2 ++ B3)) := by
  have h := z_nd hD
  rw [List.map_append, List.map_append, List.nodup_append, List.nodup_append] at h
  obtain ⟨n1, ⟨n2, n3, n23⟩, n1r⟩ := h
  refine ⟨fun q hq => List.mem_append_right _ (List.mem_append_left _ hq), n2, by rw [List.map_append, List.map_append, List.map_append, List.map_append, e2], fun q hq => ?_⟩
  rcases List.mem_append.mp hq with h | h
  · exact Or.inr ⟨List.mem_append_left _ h, fun hx => n1r q.1 (List.mem_map.mpr ⟨q, h, rfl⟩) q.1 (List.mem_append_left _ hx) rfl⟩
  · rcases List.mem_append.mp h with h | h
    · exact Or.inl h
    · exact Or.inr ⟨List.mem_append_right _ (List.mem_append_right _ h), fun hx => n23 q.1 hx q.1 (List.mem_map.mpr ⟨q, h, rfl⟩) rfl⟩
theorem z_cut13 {A : Nat → Prop} {B1 B2 B3 C1 C3 : va_W} (hD : va_D A (B1 ++ (B2 ++ B3))) (e1 : C1.map Prod.fst = B1.map Prod.fst) (e3 : C3.map Prod.fst = B3.map Prod.fst) : z_Cut (B1 ++ (B2 ++ B3)) (B1 ++ B3) (C1 ++ C3) (C1 ++ (B2 ++ C3)) := by
  have h := z_nd hD
  rw [List.map_append, List.map_append, List.nodup_append, List.nodup_append] at h
  obtain ⟨n1, ⟨n2, n3, n23⟩, n1r⟩ := h
  refine ⟨fun q hq => ?_, ?_, by rw [List.map_append, List.map_append, List.map_append, List.map_append, e1, e3], fun q hq => ?_⟩
  · rcases List.mem_append.mp hq with h | h
    · exact List.mem_append_left _ h
    · exact List.mem_append_right _ (List.mem_append_right _ h)
  · rw [List.map_append, List.nodup_append]
    exact ⟨n1, n3, fun x hx y hy => n1r x hx y (List.mem_append_right _ hy)⟩
  · rcases List.mem_append.mp hq with h | h
    · exact Or.inl (List.mem_append_left _ h)
    · rcases List.mem_append.mp h with h | h
      · refine Or.inr ⟨List.mem_append_right _ (List.mem_append_left _ h), fun hx => ?_⟩
        rw [List.map_append] at hx
        have hq1 : q.1 ∈ B2.map Prod.fst := List.mem_map.mpr ⟨q, h, rfl⟩
        rcases List.mem_append.mp hx with hx | hx
        · exact n1r q.1 hx q.1 (List.mem_append_left _ hq1) rfl
        · exact n23 q.1 hq1 q.1 hx rfl
      · exact Or.inl (List.mem_append_right _ h)
section ZL
variable {c : Nat → ClassId} {b : Nat → Nat} {a : Nat → Nat → Nat} {d : Nat → Nat} {o : Nat} {A : Nat → Prop}
theorem z_cutH {Y : z_H} (hD : va_D A (z_hw c b a o Y)) (X : z_X) : z_Cut (z_hw c b a o Y) (z_dw c b a Y.1) (z_dw c b a X) (z_hw c b a o (X, Y.2)) := z_cut1 hD z_dwA
theorem z_cutLH {Y : z_Y} (hD : va_D A (z_lw c b a d o Y)) (X : z_H) : z_Cut (z_lw c b a d o Y) (z_hw c b a o (Y.1, Y.2.2)) (z_hw c b a o X) (z_lw c b a d o (X.1, Y.2.1, X.2)) := z_cut13 hD z_dwA rfl
theorem z_cutLD {Y : z_Y} (hD : va_D A (z_lw c b a d o Y)) (X : z_X) : z_Cut (z_lw c b a d o Y) (z_dw c b a Y.1) (z_dw c b a X) (z_lw c b a d o (X, Y.2.1, Y.2.2)) := z_cut1 hD z_dwA
theorem z_cutLDp {Y : z_Y} (hD : va_D A (z_lw c b a d o Y)) : z_Cut (z_lw c b a d o Y) (z_dw c b a Y.1) (z_dw c b a Y.1) (z_lw c b a d o Y) := z_cut1 hD rfl
theorem z_cutLM {Y : z_Y} (hD : va_D A (z_lw c b a d o Y)) (g : z_R) : z_Cut (z_lw c b a d o Y) (z_md c d Y.2.1) (z_md c d g) (z_lw c b a d o (Y.1, g, Y.2.2)) := z_cut2 hD rfl
theorem z_cutLMp {Y : z_Y} (hD : va_D A (z_lw c b a d o Y)) : z_Cut (z_lw c b a d o Y) (z_md c d Y.2.1) (z_md c d Y.2.1) (z_lw c b a d o Y) := z_cut2 hD rfl
theorem z_inO {Y : z_Y} : ∀ q ∈ z_ow c o Y.2.2, q ∈ z_lw c b a d o Y := fun q hq => List.mem_append_right _ (List.mem_append_right _ hq)
theorem z_inOh {Y : z_H} : ∀ q ∈ z_ow c o Y.2, q ∈ z_hw c b a o Y := fun q hq => List.mem_append_right _ hq
end ZL
section ZH
variable {p : Program} {l : Launch} {e : Env} {R : Room} {s : State} {m : MethodId} {args : Array Value} {below : List Frame} {meth : Method} {co : Code} {H : Heap} {locs : List Loc} {cells slots : Nat} {Q : State → Prop}
variable {cc bytes : ByteArray} {pc nL maxL n index : Nat} {ls : Array Slot} {own C host : String} {y : MethodName} {ret : Option FieldType} {Ts ws : List Cond} {rm : Room} {As rest st0 : List Value} {bb : Nat} {D : va_G} {c : Nat → ClassId} {A0 : Nat → Prop} {H0 : Heap}
/-- a call of a method that answers an int or throws, on a part of the world -/
theorem z_xT {V V2 : va_W} {S : Type} {wf : S → va_W} {g u0 : S} {r0 : Int32 ⊕ Nat} (S0 : CallFix p m co cc nL s args Ts own)
    (hM : vx_Met l y ws rm (z_Pt D c H.size (wf g) (.ref bb :: As)) (z_Ti D wf r0 u0 (va_A (wf g) H.size)) (z_Tx D wf r0 u0 (va_A (wf g) H.size)) 1 6 (va_A (wf g) H.size))
    (cw : CallW R s args own C index y bytes maxL ret ws rm 1 6 n) (hP : va_P D vwCl V H) (hK : z_K D c s) (hD : va_D A0 V) (hS : va_S A0 H0 H locs) (hA : ∀ q : Nat, H0.size ≤ q → A0 q) (hE : z_EH A0 s H) (hc : z_Cut V (wf g) (wf u0) V2)
    {ci q0 : Nat} {q : vw_C} {fs : List Value} (hcl : vwCl[ci]? = some q) (he : (wf g)[q0]? = some (bb, .inr (ci, fs))) (hq : q.1 = C) (hn : As.length = n) (hsize : ls.size = nL) (hW : (rest.map fun v => v.category).sum ≤ 8) (hstack : st0 = As.reverse ++ .ref bb :: rest) (hdg : decode cc pc = .ok (.invokevirtual index, 3)) (hf : cells + 1 ≤ R.cells ∧ slots + 6 ≤ R.slots)
    (kx : ∀ (k : Nat) (q9 : Addr) (ce : Cell) (H1 : Heap) (locs1 : List Loc), r0 = .inr k → va_P D vwCl V2 H1 → va_D A0 V2 → va_S A0 H0 H1 locs1 → H1[q9]? = some ce → ce.vm = .none → s.vm.findClass (z_ex k) = some ce.cls → vx_W p l e R s m args below meth co H1 locs1 (cells + 1) (slots + 6) Q (F0 m pc ls rest) q9)
    (kk : ∀ (r : Int32) (H1 : Heap) (locs1 : List Loc), r0 = .inl r → va_P D vwCl V2 H1 → va_D A0 V2 → va_S A0 H0 H1 locs1 → W p l e R s m args below meth co H1 locs1 (cells + 1) (slots + 6) Q (F0 m (pc + 3) ls (.int r :: rest))) : W p l e R s m args below meth co H locs cells slots Q (F0 m pc ls st0) := by
  have hF := z_Fc hD hc.1 hS hA
  have hPc := z_subP hP hc.1
  have hE1 : z_EH (va_A (wf g) H.size) s H := hE.kept (fun _ _ _ => rfl) hF
  subst hq
  refine vx_calli (vx_runV (As := As) (rest := rest) S0 hM cw ⟨z_blt, va_recv hK.1 hPc hcl he, z_pret hPc hK (z_subD hD hc.1 hc.2.1) hE1⟩ rfl hn hsize hstack (lv_room hW) hdg hf) hS (fun q _ h => hF q h) hF (fun q _ h => hF q h) (fun E ce q9 u t H1 locs1 ht hvm hu hB hz hk hS1 h1 h2 h3 => ?_) (fun r u t H1 locs1 ht hvm hw hB hz hk hS1 => ?_)
  · obtain ⟨⟨k, e1, e2⟩, hP1, hD1⟩ := hB
    rw [hu, ht] at hP1
    obtain ⟨hP2, hD2⟩ := z_jn hP hD hc hk hP1
    exact kx k q9 ce H1 locs1 e1 hP2 hD2 hS1 h1 h2 (by rw [← e2]; exact h3)
  · obtain ⟨e1, e2⟩ := hw
    obtain ⟨hP1, hD1⟩ := hB
    rw [e2, ht] at hP1
    obtain ⟨hP2, hD2⟩ := z_jn hP hD hc hk hP1
    exact kk r H1 locs1 e1 hP2 hD2 hS1
/-- a call of a helper of the law -/
theorem z_xH {V V2 : va_W} {S : Type} {wf : S → va_W} {g u0 : S} {r0 : Int32} {hh : List (Nat × Nat × Nat × Nat)} (S0 : CallFix p m co cc nL s args Ts own)
    (hM : Met l y ws rm (z_Pt D c H.size (wf g) As) (z_Qi D wf r0 u0 (va_A (wf g) H.size)) 1 6 (va_A (wf g) H.size))
    (cw : vx_CSW R s args own index y bytes maxL ret hh ws rm 1 6 n) (hP : va_P D vwCl V H) (hK : z_K D c s) (hD : va_D A0 V) (hS : va_S A0 H0 H locs) (hA : ∀ q : Nat, H0.size ≤ q → A0 q) (hE : z_EH A0 s H) (hc : z_Cut V (wf g) (wf u0) V2)
    (hn : As.length = n) (hsize : ls.size = nL) (hW : (rest.map fun v => v.category).sum ≤ 8) (hstack : st0 = As.reverse ++ rest) (hdg : decode cc pc = .ok (.invokestatic index, 3)) (hf : cells + 1 ≤ R.cells ∧ slots + 6 ≤ R.slots)
    (kk : ∀ (H1 : Heap) (locs1 : List Loc), va_P D vwCl V2 H1 → va_D A0 V2 → va_S A0 H0 H1 locs1 → W p l e R s m args below meth co H1 locs1 (cells + 1) (slots + 6) Q (F0 m (pc + 3) ls (.int r0 :: rest))) : W p l e R s m args below meth co H locs cells slots Q (F0 m pc ls st0) := by
  have hF := z_Fc hD hc.1 hS hA
  have hPc := z_subP hP hc.1
  have hE1 : z_EH (va_A (wf g) H.size) s H := hE.kept (fun _ _ _ => rfl) hF
  refine va_calli (vx_runSW (As := As) (rest := rest) S0 hM cw ⟨z_blt, z_pret hPc hK (z_subD hD hc.1 hc.2.1) hE1⟩ rfl hn hsize hstack (lv_room hW) hdg hf) hS (fun q _ h => hF q h) hF (fun r u t H1 locs1 ht hvm hw hB hz hk hS1 => ?_)
  obtain ⟨e1, e2⟩ := hw
  obtain ⟨hP1, hD1⟩ := hB
  rw [e2, ht] at hP1
  obtain ⟨hP2, hD2⟩ := z_jn hP hD hc hk hP1
  rw [e1]
  exact kk H1 locs1 hP2 hD2 hS1
end ZH
/-- the helper's own start -/
theorem z_ofH {l : Launch} {y : MethodName} {ws ws' : List Cond} {rm : Room} {D : va_G} {c : Nat → ClassId} {sz : Nat} {V : va_W} {av : List Value} {Qf : (Nat → Prop) → Array Value → State → Outcome → State → Prop} {cc : ByteArray} {maxL mc ms : Nat} {ret : Option FieldType} {hh : List (Nat × Nat × Nat × Nat)}
    (hy : plainName y.cls = true) (hw : ws = Cond.codeWith y cc maxL ret hh :: ws') (hn : (lg_sl av).length ≤ maxL)
    (body : ∀ (p : Program) (e : Env) (s : State) (m : MethodId) (args : Array Value) (below : List Frame) (meth : Method) (co : Code) (A : Nat → Prop) (ls : Array Slot), p.tables.exec = Jvm.exec → co.code = cc → meth.sig.returnType = ret → co.maxLocals = maxL → (∀ w ∈ ws, w.before args s = true) → s.vm.findClass y.cls = some m.cls → meth.locks = false → co.exceptionTable.toList = tableOf hh → (∀ q : Nat, s.heap.size ≤ q → A q) → va_P D vwCl V s.heap → z_K D c s → va_D A V → z_EH A s s.heap → lv_has ls maxL (lv_args 0 av) → s.heap.size = sz →
      W p l e rm s m args below meth co s.heap [] 0 0 (MQ below (Qf A) args s mc ms A) (F0 m 0 ls [])) :
    Met l y ws rm (z_Pt D c sz V av) (Qf (va_A V sz)) mc ms (va_A V sz) := by
  refine va_MetW (cc := cc) (maxL := maxL) (ret := ret) (hh := hh) hy hw ?_
  intro p e s m args below meth co s₁ B hml hv
  obtain ⟨rfl, hsz, hP, hK, hD0, hE⟩ := hv
  have hts := atoms_spec (ws := ws) B.pre
  have hown : s.vm.findClass y.cls = some m.cls := findClass_of_methodNamed B.named
  have htb := vx_table (x := y) B (hts _ (by rw [hw]; exact List.mem_cons_self))
  have hl := lv_entry av (n := maxL) hn
  rw [lg_entry_eq]
  exact body p e s m _ below meth co (va_A V sz) _ B.exec B.bytes B.returns hml hts hown B.notSynchronized htb (fun q h => Or.inr (by rw [← hsz]; exact h)) hP hK hD0.self hE hl hsz
section ZHR
variable {p : Program} {l : Launch} {e : Env} {R : Room} {s : State} {m : MethodId} {args : Array Value} {below : List Frame} {meth : Method} {co : Code} {H : Heap} {locs : List Loc}
variable {cc : ByteArray} {pc : Nat} {ls : Array Slot} {D : va_G} {A : Nat → Prop} {S : Type} {wf : S → va_W} {g g0 : S} {r r0 : Int32}
theorem z_rH (hx : p.tables.exec = Jvm.exec) (hb : co.code = cc) (hr : meth.sig.returnType = some .int) (hlocks : meth.locks = false) (hP : va_P D vwCl (wf g) H) (hD : va_D A (wf g)) (hS : va_S A s.heap H locs) (hf : some (r, g) = some (r0, g0)) (hdg : decode cc pc = .ok (.ireturn, 1)) : W p l e R s m args below meth co H locs 1 6 (MQ below (z_Qi D wf r0 g0 A) args s 1 6 A) (F0 m pc ls [.int r]) := by
  cases hf
  exact W.iret (v := r) hx hb hr (fun t ht _ => ⟨⟨r, g, rfl, ⟨rfl, rfl⟩, by rw [ht]; exact hP, hD⟩, hS.F ht⟩) hS.2.2 hdg hlocks
end ZHR
section ZHS
variable {c : Nat → ClassId} {b : Nat → Nat} {a : Nat → Nat → Nat} {o : Nat} {X : z_X} {Y : z_H}
theorem z_dwL : (z_dw c b a X).length = 311 := by
  rw [z_dwE, List.length_append]
  unfold z_bk
  rw [List.length_flatMap, show (List.range 19).map (fun k => (z_st c (a k) (X.2.2 k)).length) = (List.range 19).map (fun _ => 16) from rfl]
  rfl
theorem z_hwAt : (z_hw c b a o Y)[311]? = some (o, .inl (c 3, 1, .inr (.inl Y.2))) := by
  unfold z_hw
  rw [List.getElem?_append_right (by rw [z_dwL]; exact Nat.le_refl _), z_dwL]
  rfl
theorem z_hwSet (f : Nat → Int64) : (z_hw c b a o Y).set 311 (o, .inl (c 3, 1, .inr (.inl f))) = z_hw c b a o (Y.1, f) := by
  unfold z_hw
  rw [List.set_append_right _ _ (by rw [z_dwL]; exact Nat.le_refl _), z_dwL]
  rfl
end ZHS
def z_sm {γ : Type} (o : Int32 ⊕ Nat) (f : Int32 → Option γ) (h : Nat → Option γ) : Option γ := match o with
  | .inl r => f r
  | .inr k => h k
theorem z_smL {γ : Type} {o : Int32 ⊕ Nat} {f : Int32 → Option γ} {h : Nat → Option γ} {x : γ} {r : Int32} (hf : z_sm o f h = some x) (e : o = .inl r) : f r = some x := by
  rw [e] at hf; exact hf
theorem z_smR {γ : Type} {o : Int32 ⊕ Nat} {f : Int32 → Option γ} {h : Nat → Option γ} {x : γ} {k : Nat} (hf : z_sm o f h = some x) (e : o = .inr k) : h k = some x := by
  rw [e] at hf; exact hf
theorem z_nI6 (j : Nat) : nI (6 * j) + (6 : Int32) = nI (6 * (j + 1)) := by
  rw [show (6 : Int32) = nI 6 from rfl, nI_add]
  rfl
theorem z_jlt {L j : Nat} {x4 : Int32} (hL : L ≤ 3072) (hj : j ≤ 512) (hx4 : x4 = nI (6 * j)) (c : ¬ Int32.ofNat L - (6 : Int32) < x4) : j < 512 := by
  rw [hx4, Int32.lt_iff_toInt_lt, nI_toInt (by omega)] at c
  have h1 : (Int32.ofNat L).toInt = (L : Int) := nI_toInt (by omega)
  have h6 : (6 : Int32).toInt = 6 := by decide
  have h2 : (Int32.ofNat L - (6 : Int32)).toInt = (L : Int) - 6 := by
    rw [Int32.toInt_sub, h1, h6]
    exact Int.bmod_eq_of_le (by omega) (by omega)
  omega
end
section
/-! the law's own rows: three of them (q, or, ju), with a fourth (done), beside the drum, twice beside the drum -/
def z_q3 (c : Nat → ClassId) (d : Nat → Nat) (g : z_R) : va_W := [(d 0, .inl (c 0, 12, .inl (g 0))), (d 1, .inl (c 0, 54, .inl (g 1))), (d 2, .inl (c 0, 64, .inl (g 2)))]
abbrev z_V : Type := z_R × (Nat → Int32)
def z_q4 (c : Nat → ClassId) (d : Nat → Nat) (o : Nat) (Y : z_V) : va_W := [(d 0, .inl (c 0, 12, .inl (Y.1 0))), (d 1, .inl (c 0, 54, .inl (Y.1 1))), (d 2, .inl (c 0, 64, .inl (Y.1 2))), (o, .inl (c 0, 6, .inl Y.2))]
abbrev z_N : Type := z_X × z_R
def z_nw (c : Nat → ClassId) (b : Nat → Nat) (a : Nat → Nat → Nat) (d : Nat → Nat) (Y : z_N) : va_W := z_dw c b a Y.1 ++ z_q3 c d Y.2
abbrev z_O : Type := z_X × z_R × z_R
def z_vw (c : Nat → ClassId) (b : Nat → Nat) (a : Nat → Nat → Nat) (d d' : Nat → Nat) (Y : z_O) : va_W := z_dw c b a Y.1 ++ (z_q3 c d Y.2.1 ++ z_q3 c d' Y.2.2)
theorem z_cutAll {A : Nat → Prop} {V C1 : va_W} (hD : va_D A V) (e : C1.map Prod.fst = V.map Prod.fst) : z_Cut V V C1 C1 := ⟨fun _ h => h, z_nd hD, e, fun _ h => Or.inl h⟩
theorem z_cut3 {A : Nat → Prop} {B1 B2 B3 C3 : va_W} (hD : va_D A (B1 ++ (B2 ++ B3))) (e3 : C3.map Prod.fst = B3.map Prod.fst) : z_Cut (B1 ++ (B2 ++ B3)) B3 C3 (B1 ++ (B2 ++ C3)) := by
  have h := z_nd hD
  rw [List.map_append, List.map_append, List.nodup_append, List.nodup_append] at h
  obtain ⟨n1, ⟨n2, n3, n23⟩, n1r⟩ := h
  refine ⟨fun q hq => List.mem_append_right _ (List.mem_append_right _ hq), n3, by rw [List.map_append, List.map_append, List.map_append, List.map_append, e3], fun q hq => ?_⟩
  rcases List.mem_append.mp hq with h | h
  · exact Or.inr ⟨List.mem_append_left _ h, fun hx => n1r q.1 (List.mem_map.mpr ⟨q, h, rfl⟩) q.1 (List.mem_append_right _ hx) rfl⟩
  · rcases List.mem_append.mp h with h | h
    · exact Or.inr ⟨List.mem_append_right _ (List.mem_append_left _ h), fun hx => n23 q.1 (List.mem_map.mpr ⟨q, h, rfl⟩) q.1 hx rfl⟩
    · exact Or.inl h
theorem z_cut12 {A : Nat → Prop} {B1 B2 B3 C1 C2 : va_W} (hD : va_D A (B1 ++ (B2 ++ B3))) (e1 : C1.map Prod.fst = B1.map Prod.fst) (e2 : C2.map Prod.fst = B2.map Prod.fst) : z_Cut (B1 ++ (B2 ++ B3)) (B1 ++ B2) (C1 ++ C2) (C1 ++ (C2 ++ B3)) := by
  rw [← List.append_assoc, ← List.append_assoc] 
  rw [← List.append_assoc] at hD
  exact z_cut1 hD (by rw [List.map_append, List.map_append, e1, e2])
section ZQ
variable {c : Nat → ClassId} {b : Nat → Nat} {a : Nat → Nat → Nat} {d d' : Nat → Nat} {o : Nat} {A : Nat → Prop}
theorem z_cutQ {g : z_R} (hD : va_D A (z_q3 c d g)) (g' : z_R) : z_Cut (z_q3 c d g) (z_q3 c d g) (z_q3 c d g') (z_q3 c d g') := z_cutAll hD rfl
theorem z_cutQ4 {Y : z_V} (hD : va_D A (z_q4 c d o Y)) (g' : z_R) : z_Cut (z_q4 c d o Y) (z_q3 c d Y.1) (z_q3 c d g') (z_q4 c d o (g', Y.2)) := z_cut1 (B1 := z_q3 c d Y.1) (R := [(o, .inl (c 0, 6, .inl Y.2))]) (C1 := z_q3 c d g') hD rfl
theorem z_cutQ4p {Y : z_V} (hD : va_D A (z_q4 c d o Y)) : z_Cut (z_q4 c d o Y) (z_q3 c d Y.1) (z_q3 c d Y.1) (z_q4 c d o Y) := z_cut1 (B1 := z_q3 c d Y.1) (R := [(o, .inl (c 0, 6, .inl Y.2))]) (C1 := z_q3 c d Y.1) hD rfl
theorem z_in43 {Y : z_V} : ∀ q ∈ z_q3 c d Y.1, q ∈ z_q4 c d o Y := fun q h => show q ∈ z_q3 c d Y.1 ++ [(o, .inl (c 0, 6, .inl Y.2))] from List.mem_append_left _ h
theorem z_cutVQp {Y : z_O} (hD : va_D A (z_vw c b a d d' Y)) : z_Cut (z_vw c b a d d' Y) (z_q3 c d Y.2.1) (z_q3 c d Y.2.1) (z_vw c b a d d' Y) := z_cut2 hD rfl
theorem z_cutVRp {Y : z_O} (hD : va_D A (z_vw c b a d d' Y)) : z_Cut (z_vw c b a d d' Y) (z_q3 c d' Y.2.2) (z_q3 c d' Y.2.2) (z_vw c b a d d' Y) := z_cut3 hD rfl
theorem z_cutND {Y : z_N} (hD : va_D A (z_nw c b a d Y)) (X : z_X) : z_Cut (z_nw c b a d Y) (z_dw c b a Y.1) (z_dw c b a X) (z_nw c b a d (X, Y.2)) := z_cut1 hD z_dwA
theorem z_cutNDp {Y : z_N} (hD : va_D A (z_nw c b a d Y)) : z_Cut (z_nw c b a d Y) (z_dw c b a Y.1) (z_dw c b a Y.1) (z_nw c b a d Y) := z_cut1 hD rfl
theorem z_cutVD {Y : z_O} (hD : va_D A (z_vw c b a d d' Y)) (X : z_X) : z_Cut (z_vw c b a d d' Y) (z_dw c b a Y.1) (z_dw c b a X) (z_vw c b a d d' (X, Y.2)) := z_cut1 hD z_dwA
theorem z_cutVDp {Y : z_O} (hD : va_D A (z_vw c b a d d' Y)) : z_Cut (z_vw c b a d d' Y) (z_dw c b a Y.1) (z_dw c b a Y.1) (z_vw c b a d d' Y) := z_cut1 hD rfl
theorem z_cutVQ {Y : z_O} (hD : va_D A (z_vw c b a d d' Y)) (g : z_R) : z_Cut (z_vw c b a d d' Y) (z_q3 c d Y.2.1) (z_q3 c d g) (z_vw c b a d d' (Y.1, g, Y.2.2)) := z_cut2 hD rfl
theorem z_cutVR {Y : z_O} (hD : va_D A (z_vw c b a d d' Y)) (g : z_R) : z_Cut (z_vw c b a d d' Y) (z_q3 c d' Y.2.2) (z_q3 c d' g) (z_vw c b a d d' (Y.1, Y.2.1, g)) := z_cut3 hD rfl
theorem z_cutVNp {Y : z_O} (hD : va_D A (z_vw c b a d d' Y)) : z_Cut (z_vw c b a d d' Y) (z_nw c b a d (Y.1, Y.2.1)) (z_nw c b a d (Y.1, Y.2.1)) (z_vw c b a d d' Y) := z_cut12 hD rfl rfl
theorem z_cutV {Y : z_O} (hD : va_D A (z_vw c b a d d' Y)) (Y' : z_O) : z_Cut (z_vw c b a d d' Y) (z_vw c b a d d' Y) (z_vw c b a d d' Y') (z_vw c b a d d' Y') := z_cutAll hD (by
  unfold z_vw
  rw [List.map_append, List.map_append, List.map_append, List.map_append, z_dwA (X' := Y'.1) (X := Y.1)]
  rfl)
theorem z_inN {Y : z_N} : ∀ q ∈ z_q3 c d Y.2, q ∈ z_nw c b a d Y := fun q hq => List.mem_append_right _ hq
theorem z_inVQ {Y : z_O} : ∀ q ∈ z_q3 c d Y.2.1, q ∈ z_vw c b a d d' Y := fun q hq => List.mem_append_right _ (List.mem_append_left _ hq)
theorem z_inVR {Y : z_O} : ∀ q ∈ z_q3 c d' Y.2.2, q ∈ z_vw c b a d d' Y := fun q hq => List.mem_append_right _ (List.mem_append_right _ hq)
theorem z_dwL4 {X : z_X} : (z_dw c b a X).length = 311 := z_dwL
theorem z_vAt0 {Y : z_O} : (z_vw c b a d d' Y)[311]? = some (d 0, .inl (c 0, 12, .inl (Y.2.1 0))) := by
  unfold z_vw
  rw [List.getElem?_append_right (by rw [z_dwL]; decide), z_dwL]
  rfl
theorem z_vSet0 {Y : z_O} (j : Nat) (v : Int32) : (z_vw c b a d d' Y).set 311 (d 0, .inl (c 0, 12, .inl (upd (Y.2.1 0) j v))) = z_vw c b a d d' (Y.1, z_u2 Y.2.1 0 j v, Y.2.2) := by
  unfold z_vw
  rw [List.set_append_right _ _ (by rw [z_dwL]; decide), z_dwL]
  rfl
theorem z_vAt1 {Y : z_O} : (z_vw c b a d d' Y)[312]? = some (d 1, .inl (c 0, 54, .inl (Y.2.1 1))) := by
  unfold z_vw
  rw [List.getElem?_append_right (by rw [z_dwL]; decide), z_dwL]
  rfl
theorem z_vSet1 {Y : z_O} (j : Nat) (v : Int32) : (z_vw c b a d d' Y).set 312 (d 1, .inl (c 0, 54, .inl (upd (Y.2.1 1) j v))) = z_vw c b a d d' (Y.1, z_u2 Y.2.1 1 j v, Y.2.2) := by
  unfold z_vw
  rw [List.set_append_right _ _ (by rw [z_dwL]; decide), z_dwL]
  rfl
theorem z_vAt2 {Y : z_O} : (z_vw c b a d d' Y)[313]? = some (d 2, .inl (c 0, 64, .inl (Y.2.1 2))) := by
  unfold z_vw
  rw [List.getElem?_append_right (by rw [z_dwL]; decide), z_dwL]
  rfl
theorem z_vSet2 {Y : z_O} (j : Nat) (v : Int32) : (z_vw c b a d d' Y).set 313 (d 2, .inl (c 0, 64, .inl (upd (Y.2.1 2) j v))) = z_vw c b a d d' (Y.1, z_u2 Y.2.1 2 j v, Y.2.2) := by
  unfold z_vw
  rw [List.set_append_right _ _ (by rw [z_dwL]; decide), z_dwL]
  rfl
theorem z_vAt3 {Y : z_O} : (z_vw c b a d d' Y)[314]? = some (d' 0, .inl (c 0, 12, .inl (Y.2.2 0))) := by
  unfold z_vw
  rw [List.getElem?_append_right (by rw [z_dwL]; decide), z_dwL]
  rfl
theorem z_vSet3 {Y : z_O} (j : Nat) (v : Int32) : (z_vw c b a d d' Y).set 314 (d' 0, .inl (c 0, 12, .inl (upd (Y.2.2 0) j v))) = z_vw c b a d d' (Y.1, Y.2.1, z_u2 Y.2.2 0 j v) := by
  unfold z_vw
  rw [List.set_append_right _ _ (by rw [z_dwL]; decide), z_dwL]
  rfl
theorem z_vAt4 {Y : z_O} : (z_vw c b a d d' Y)[315]? = some (d' 1, .inl (c 0, 54, .inl (Y.2.2 1))) := by
  unfold z_vw
  rw [List.getElem?_append_right (by rw [z_dwL]; decide), z_dwL]
  rfl
theorem z_vSet4 {Y : z_O} (j : Nat) (v : Int32) : (z_vw c b a d d' Y).set 315 (d' 1, .inl (c 0, 54, .inl (upd (Y.2.2 1) j v))) = z_vw c b a d d' (Y.1, Y.2.1, z_u2 Y.2.2 1 j v) := by
  unfold z_vw
  rw [List.set_append_right _ _ (by rw [z_dwL]; decide), z_dwL]
  rfl
theorem z_vAt5 {Y : z_O} : (z_vw c b a d d' Y)[316]? = some (d' 2, .inl (c 0, 64, .inl (Y.2.2 2))) := by
  unfold z_vw
  rw [List.getElem?_append_right (by rw [z_dwL]; decide), z_dwL]
  rfl
theorem z_vSet5 {Y : z_O} (j : Nat) (v : Int32) : (z_vw c b a d d' Y).set 316 (d' 2, .inl (c 0, 64, .inl (upd (Y.2.2 2) j v))) = z_vw c b a d d' (Y.1, Y.2.1, z_u2 Y.2.2 2 j v) := by
  unfold z_vw
  rw [List.set_append_right _ _ (by rw [z_dwL]; decide), z_dwL]
  rfl
theorem z_cutCp0 {Y : z_O} (hD : va_D A (z_vw c b a d d' Y)) (u : Nat → Int32) : z_Cut (z_vw c b a d d' Y) (z_rr c (d 0) (d' 0) 12 (Y.2.1 0) (Y.2.2 0)) (z_rr c (d 0) (d' 0) 12 (Y.2.1 0) u) (z_vw c b a d d' (Y.1, Y.2.1, z_uR Y.2.2 0 u)) := by
  have h := z_nd hD
  unfold z_vw at h
  rw [List.map_append, List.map_append, List.nodup_append, List.nodup_append] at h
  obtain ⟨n1, ⟨n2, n3, n23⟩, n1r⟩ := h
  have n2 : [d 0, d 1, d 2].Nodup := n2
  have n3 : [d' 0, d' 1, d' 2].Nodup := n3
  have n23 : ∀ x ∈ [d 0, d 1, d 2], ∀ y ∈ [d' 0, d' 1, d' 2], x ≠ y := n23
  have n1r : ∀ x ∈ (z_dw c b a Y.1).map Prod.fst, ∀ y ∈ [d 0, d 1, d 2, d' 0, d' 1, d' 2], x ≠ y := n1r
  have a1 : d 1 ≠ d 0 := fun e => by simp [e] at n2
  have a2 : d 2 ≠ d 0 := fun e => by simp [e] at n2
  have b1 : d' 1 ≠ d' 0 := fun e => by simp [e] at n3
  have b2 : d' 2 ≠ d' 0 := fun e => by simp [e] at n3
  have q23 : ∀ x ∈ [d 0, d 1, d 2], x ≠ d' 0 := fun x hx => n23 x hx _ (by simp)
  have q32 : ∀ y ∈ [d' 0, d' 1, d' 2], y ≠ d 0 := fun y hy e => n23 (d 0) (by simp) y hy e.symm
  refine ⟨fun q hq => ?_, ?_, ?_, fun q hq => ?_⟩
  · rcases List.mem_cons.mp hq with rfl | hq
    · exact List.mem_append_right _ (List.mem_append_left _ (List.mem_of_getElem? (i := 0) rfl))
    · rcases List.mem_cons.mp hq with rfl | hq
      · exact List.mem_append_right _ (List.mem_append_right _ (List.mem_of_getElem? (i := 0) rfl))
      · cases hq
  · show [d 0, d' 0].Nodup
    exact List.nodup_cons.mpr ⟨fun hx => q23 (d 0) (by simp) (List.mem_singleton.mp hx), List.nodup_cons.mpr ⟨List.not_mem_nil, List.nodup_nil⟩⟩
  · unfold z_vw
    rw [List.map_append, List.map_append, List.map_append, List.map_append]
    rfl
  · have hno : ∀ x : Nat, x ≠ d 0 → x ≠ d' 0 → x ∉ (z_rr c (d 0) (d' 0) 12 (Y.2.1 0) (Y.2.2 0)).map Prod.fst := fun x h1 h2 hx => by
      have hx : x ∈ [d 0, d' 0] := hx
      rcases List.mem_cons.mp hx with e | hx
      · exact h1 e
      · exact h2 (List.mem_singleton.mp hx)
    rcases List.mem_append.mp hq with h | h
    · have hq1 : q.1 ∈ (z_dw c b a Y.1).map Prod.fst := List.mem_map.mpr ⟨q, h, rfl⟩
      exact Or.inr ⟨List.mem_append_left _ h, hno _ (n1r _ hq1 _ (by simp)) (n1r _ hq1 _ (by simp))⟩
    · rcases List.mem_append.mp h with h | h
      · have hV := List.mem_append_right (z_dw c b a Y.1) (List.mem_append_left (z_q3 c d' Y.2.2) h)
        rcases List.mem_cons.mp h with rfl | h
        · exact Or.inl (List.mem_of_getElem? (i := 0) rfl)
        · rcases List.mem_cons.mp h with rfl | h
          · exact Or.inr ⟨hV, hno _ a1 (q23 _ (by simp))⟩
          · rcases List.mem_cons.mp h with rfl | h
            · exact Or.inr ⟨hV, hno _ a2 (q23 _ (by simp))⟩
            · cases h
      · rcases List.mem_cons.mp h with rfl | h
        · exact Or.inl (List.mem_of_getElem? (i := 1) rfl)
        · rcases List.mem_cons.mp h with rfl | h
          · exact Or.inr ⟨List.mem_append_right _ (List.mem_append_right _ (List.mem_of_getElem? (i := 1) rfl)), hno _ (q32 _ (by simp)) b1⟩
          · rcases List.mem_cons.mp h with rfl | h
            · exact Or.inr ⟨List.mem_append_right _ (List.mem_append_right _ (List.mem_of_getElem? (i := 2) rfl)), hno _ (q32 _ (by simp)) b2⟩
            · cases h
theorem z_cutCp1 {Y : z_O} (hD : va_D A (z_vw c b a d d' Y)) (u : Nat → Int32) : z_Cut (z_vw c b a d d' Y) (z_rr c (d 1) (d' 1) 54 (Y.2.1 1) (Y.2.2 1)) (z_rr c (d 1) (d' 1) 54 (Y.2.1 1) u) (z_vw c b a d d' (Y.1, Y.2.1, z_uR Y.2.2 1 u)) := by
  have h := z_nd hD
  unfold z_vw at h
  rw [List.map_append, List.map_append, List.nodup_append, List.nodup_append] at h
  obtain ⟨n1, ⟨n2, n3, n23⟩, n1r⟩ := h
  have n2 : [d 0, d 1, d 2].Nodup := n2
  have n3 : [d' 0, d' 1, d' 2].Nodup := n3
  have n23 : ∀ x ∈ [d 0, d 1, d 2], ∀ y ∈ [d' 0, d' 1, d' 2], x ≠ y := n23
  have n1r : ∀ x ∈ (z_dw c b a Y.1).map Prod.fst, ∀ y ∈ [d 0, d 1, d 2, d' 0, d' 1, d' 2], x ≠ y := n1r
  have a0 : d 0 ≠ d 1 := fun e => by simp [e] at n2
  have a2 : d 2 ≠ d 1 := fun e => by simp [e] at n2
  have b0 : d' 0 ≠ d' 1 := fun e => by simp [e] at n3
  have b2 : d' 2 ≠ d' 1 := fun e => by simp [e] at n3
  have q23 : ∀ x ∈ [d 0, d 1, d 2], x ≠ d' 1 := fun x hx => n23 x hx _ (by simp)
  have q32 : ∀ y ∈ [d' 0, d' 1, d' 2], y ≠ d 1 := fun y hy e => n23 (d 1) (by simp) y hy e.symm
  refine ⟨fun q hq => ?_, ?_, ?_, fun q hq => ?_⟩
  · rcases List.mem_cons.mp hq with rfl | hq
    · exact List.mem_append_right _ (List.mem_append_left _ (List.mem_of_getElem? (i := 1) rfl))
    · rcases List.mem_cons.mp hq with rfl | hq
      · exact List.mem_append_right _ (List.mem_append_right _ (List.mem_of_getElem? (i := 1) rfl))
      · cases hq
  · show [d 1, d' 1].Nodup
    exact List.nodup_cons.mpr ⟨fun hx => q23 (d 1) (by simp) (List.mem_singleton.mp hx), List.nodup_cons.mpr ⟨List.not_mem_nil, List.nodup_nil⟩⟩
  · unfold z_vw
    rw [List.map_append, List.map_append, List.map_append, List.map_append]
    rfl
  · have hno : ∀ x : Nat, x ≠ d 1 → x ≠ d' 1 → x ∉ (z_rr c (d 1) (d' 1) 54 (Y.2.1 1) (Y.2.2 1)).map Prod.fst := fun x h1 h2 hx => by
      have hx : x ∈ [d 1, d' 1] := hx
      rcases List.mem_cons.mp hx with e | hx
      · exact h1 e
      · exact h2 (List.mem_singleton.mp hx)
    rcases List.mem_append.mp hq with h | h
    · have hq1 : q.1 ∈ (z_dw c b a Y.1).map Prod.fst := List.mem_map.mpr ⟨q, h, rfl⟩
      exact Or.inr ⟨List.mem_append_left _ h, hno _ (n1r _ hq1 _ (by simp)) (n1r _ hq1 _ (by simp))⟩
    · rcases List.mem_append.mp h with h | h
      · have hV := List.mem_append_right (z_dw c b a Y.1) (List.mem_append_left (z_q3 c d' Y.2.2) h)
        rcases List.mem_cons.mp h with rfl | h
        · exact Or.inr ⟨hV, hno _ a0 (q23 _ (by simp))⟩
        · rcases List.mem_cons.mp h with rfl | h
          · exact Or.inl (List.mem_of_getElem? (i := 0) rfl)
          · rcases List.mem_cons.mp h with rfl | h
            · exact Or.inr ⟨hV, hno _ a2 (q23 _ (by simp))⟩
            · cases h
      · rcases List.mem_cons.mp h with rfl | h
        · exact Or.inr ⟨List.mem_append_right _ (List.mem_append_right _ (List.mem_of_getElem? (i := 0) rfl)), hno _ (q32 _ (by simp)) b0⟩
        · rcases List.mem_cons.mp h with rfl | h
          · exact Or.inl (List.mem_of_getElem? (i := 1) rfl)
          · rcases List.mem_cons.mp h with rfl | h
            · exact Or.inr ⟨List.mem_append_right _ (List.mem_append_right _ (List.mem_of_getElem? (i := 2) rfl)), hno _ (q32 _ (by simp)) b2⟩
            · cases h
theorem z_cutCp2 {Y : z_O} (hD : va_D A (z_vw c b a d d' Y)) (u : Nat → Int32) : z_Cut (z_vw c b a d d' Y) (z_rr c (d 2) (d' 2) 64 (Y.2.1 2) (Y.2.2 2)) (z_rr c (d 2) (d' 2) 64 (Y.2.1 2) u) (z_vw c b a d d' (Y.1, Y.2.1, z_uR Y.2.2 2 u)) := by
  have h := z_nd hD
  unfold z_vw at h
  rw [List.map_append, List.map_append, List.nodup_append, List.nodup_append] at h
  obtain ⟨n1, ⟨n2, n3, n23⟩, n1r⟩ := h
  have n2 : [d 0, d 1, d 2].Nodup := n2
  have n3 : [d' 0, d' 1, d' 2].Nodup := n3
  have n23 : ∀ x ∈ [d 0, d 1, d 2], ∀ y ∈ [d' 0, d' 1, d' 2], x ≠ y := n23
  have n1r : ∀ x ∈ (z_dw c b a Y.1).map Prod.fst, ∀ y ∈ [d 0, d 1, d 2, d' 0, d' 1, d' 2], x ≠ y := n1r
  have a0 : d 0 ≠ d 2 := fun e => by simp [e] at n2
  have a1 : d 1 ≠ d 2 := fun e => by simp [e] at n2
  have b0 : d' 0 ≠ d' 2 := fun e => by simp [e] at n3
  have b1 : d' 1 ≠ d' 2 := fun e => by simp [e] at n3
  have q23 : ∀ x ∈ [d 0, d 1, d 2], x ≠ d' 2 := fun x hx => n23 x hx _ (by simp)
  have q32 : ∀ y ∈ [d' 0, d' 1, d' 2], y ≠ d 2 := fun y hy e => n23 (d 2) (by simp) y hy e.symm
  refine ⟨fun q hq => ?_, ?_, ?_, fun q hq => ?_⟩
  · rcases List.mem_cons.mp hq with rfl | hq
    · exact List.mem_append_right _ (List.mem_append_left _ (List.mem_of_getElem? (i := 2) rfl))
    · rcases List.mem_cons.mp hq with rfl | hq
      · exact List.mem_append_right _ (List.mem_append_right _ (List.mem_of_getElem? (i := 2) rfl))
      · cases hq
  · show [d 2, d' 2].Nodup
    exact List.nodup_cons.mpr ⟨fun hx => q23 (d 2) (by simp) (List.mem_singleton.mp hx), List.nodup_cons.mpr ⟨List.not_mem_nil, List.nodup_nil⟩⟩
  · unfold z_vw
    rw [List.map_append, List.map_append, List.map_append, List.map_append]
    rfl
  · have hno : ∀ x : Nat, x ≠ d 2 → x ≠ d' 2 → x ∉ (z_rr c (d 2) (d' 2) 64 (Y.2.1 2) (Y.2.2 2)).map Prod.fst := fun x h1 h2 hx => by
      have hx : x ∈ [d 2, d' 2] := hx
      rcases List.mem_cons.mp hx with e | hx
      · exact h1 e
      · exact h2 (List.mem_singleton.mp hx)
    rcases List.mem_append.mp hq with h | h
    · have hq1 : q.1 ∈ (z_dw c b a Y.1).map Prod.fst := List.mem_map.mpr ⟨q, h, rfl⟩
      exact Or.inr ⟨List.mem_append_left _ h, hno _ (n1r _ hq1 _ (by simp)) (n1r _ hq1 _ (by simp))⟩
    · rcases List.mem_append.mp h with h | h
      · have hV := List.mem_append_right (z_dw c b a Y.1) (List.mem_append_left (z_q3 c d' Y.2.2) h)
        rcases List.mem_cons.mp h with rfl | h
        · exact Or.inr ⟨hV, hno _ a0 (q23 _ (by simp))⟩
        · rcases List.mem_cons.mp h with rfl | h
          · exact Or.inr ⟨hV, hno _ a1 (q23 _ (by simp))⟩
          · rcases List.mem_cons.mp h with rfl | h
            · exact Or.inl (List.mem_of_getElem? (i := 0) rfl)
            · cases h
      · rcases List.mem_cons.mp h with rfl | h
        · exact Or.inr ⟨List.mem_append_right _ (List.mem_append_right _ (List.mem_of_getElem? (i := 0) rfl)), hno _ (q32 _ (by simp)) b0⟩
        · rcases List.mem_cons.mp h with rfl | h
          · exact Or.inr ⟨List.mem_append_right _ (List.mem_append_right _ (List.mem_of_getElem? (i := 1) rfl)), hno _ (q32 _ (by simp)) b1⟩
          · rcases List.mem_cons.mp h with rfl | h
            · exact Or.inl (List.mem_of_getElem? (i := 1) rfl)
            · cases h
end ZQ
section ZS
variable {p : Program} {l : Launch} {e : Env} {R : Room} {s : State} {m : MethodId} {args : Array Value} {below : List Frame} {meth : Method} {co : Code} {H : Heap} {locs : List Loc} {cells slots : Nat} {Q : State → Prop}
variable {cc bytes : ByteArray} {pc nL maxL n index : Nat} {ls : Array Slot} {own C host : String} {y : MethodName} {ret : Option FieldType} {Ts ws : List Cond} {rm : Room} {As rest st0 : List Value} {bb : Nat} {D : va_G} {c : Nat → ClassId} {A A0 : Nat → Prop} {H0 : Heap} {mc ms : Nat}
/-- a static call on a part of the world, that answers an int and makes some cells -/
theorem z_ySi {V V2 : va_W} {S : Type} {wf : S → va_W} {g u0 : S} {r0 : Int32} (S0 : CallFix p m co cc nL s args Ts own)
    (hM : Met l y ws rm (z_Pc D c H.size (wf g) As) (z_Qi D wf r0 u0 (va_A (wf g) H.size)) mc ms (va_A (wf g) H.size))
    (cw : CallB R s args own index y bytes maxL ret ws rm mc ms n ∧ (Cond.static y).before args s = true) (hP : va_P D vwCl V H) (hK : z_K D c s) (hD : va_D A0 V) (hS : va_S A0 H0 H locs) (hA : ∀ q : Nat, H0.size ≤ q → A0 q) (hc : z_Cut V (wf g) (wf u0) V2)
    (hn : As.length = n) (hsize : ls.size = nL) (hW : (rest.map fun v => v.category).sum ≤ 8) (hstack : st0 = As.reverse ++ rest) (hdg : decode cc pc = .ok (.invokestatic index, 3)) (hf : cells + mc ≤ R.cells ∧ slots + ms ≤ R.slots)
    (kk : ∀ (H1 : Heap) (locs1 : List Loc), va_P D vwCl V2 H1 → va_D A0 V2 → va_S A0 H0 H1 locs1 → W p l e R s m args below meth co H1 locs1 (cells + mc) (slots + ms) Q (F0 m (pc + 3) ls (.int r0 :: rest))) : W p l e R s m args below meth co H locs cells slots Q (F0 m pc ls st0) := by
  have hF := z_Fc hD hc.1 hS hA
  have hPc := z_subP hP hc.1
  refine va_calli (va_runS (As := As) (rest := rest) S0 hM cw ⟨z_bl, z_pre hPc hK (z_subD hD hc.1 hc.2.1)⟩ rfl hn hsize hstack (lv_room hW) hdg hf) hS (fun q _ h => hF q h) hF (fun r u t H1 locs1 ht hvm hw hB hz hk hS1 => ?_)
  obtain ⟨e1, e2⟩ := hw
  obtain ⟨hP1, hD1⟩ := hB
  rw [e2, ht] at hP1
  obtain ⟨hP2, hD2⟩ := z_jn hP hD hc hk hP1
  rw [e1]
  exact kk H1 locs1 hP2 hD2 hS1
/-- a static call on a part of the world, that answers nothing -/
theorem z_xSv {V V2 : va_W} {S : Type} {wf : S → va_W} {g u0 : S} (S0 : CallFix p m co cc nL s args Ts own)
    (hM : Met l y ws rm (z_Pc D c H.size (wf g) As) (z_Qv D wf u0 (va_A (wf g) H.size)) 0 0 (va_A (wf g) H.size))
    (cw : CallB R s args own index y bytes maxL ret ws rm 0 0 n ∧ (Cond.static y).before args s = true) (hP : va_P D vwCl V H) (hK : z_K D c s) (hD : va_D A0 V) (hS : va_S A0 H0 H locs) (hA : ∀ q : Nat, H0.size ≤ q → A0 q) (hc : z_Cut V (wf g) (wf u0) V2)
    (hn : As.length = n) (hsize : ls.size = nL) (hW : (rest.map fun v => v.category).sum ≤ 8) (hstack : st0 = As.reverse ++ rest) (hdg : decode cc pc = .ok (.invokestatic index, 3)) (hf : cells + 0 ≤ R.cells ∧ slots + 0 ≤ R.slots)
    (kk : ∀ (H1 : Heap) (locs1 : List Loc), va_P D vwCl V2 H1 → va_D A0 V2 → va_S A0 H0 H1 locs1 → W p l e R s m args below meth co H1 locs1 cells slots Q (F0 m (pc + 3) ls rest)) : W p l e R s m args below meth co H locs cells slots Q (F0 m pc ls st0) := by
  have hF := z_Fc hD hc.1 hS hA
  have hPc := z_subP hP hc.1
  refine va_callv (va_runS (As := As) (rest := rest) S0 hM cw ⟨z_bl, z_pre hPc hK (z_subD hD hc.1 hc.2.1)⟩ rfl hn hsize hstack (lv_room hW) hdg hf) hS (fun q _ h => hF q h) hF (fun u t H1 locs1 ht hvm hw hB hz hk hS1 => ?_)
  obtain ⟨hP1, hD1⟩ := hB
  rw [hw, ht] at hP1
  obtain ⟨hP2, hD2⟩ := z_jn hP hD hc hk hP1
  exact kk H1 locs1 hP2 hD2 hS1
/-- a method's start that has the law's script beside an empty world -/
abbrev z_PX (b L : Nat) (xs : Nat → Int32) (sz : Nat) (av : List Value) : Array Value → State → Prop := va_Pc av (fun U => U.heap.size = sz ∧ va_X b L xs U U.heap ∧ b < sz)
theorem z_blX {b L : Nat} {xs : Nat → Int32} {sz : Nat} {av : List Value} : FrameBlind (z_PX b L xs sz av) := fun a U g mk q => by
  obtain ⟨q0, q1, q2, q3⟩ := q
  exact ⟨q0, q1, q2, q3⟩
/-- a static call on the script alone -/
theorem z_xX {V : va_W} {r0 : Int32} {b L : Nat} {xs : Nat → Int32} (S0 : CallFix p m co cc nL s args Ts own)
    (hM : Met l y ws rm (z_PX b L xs H.size As) (z_Qi D (fun _ : Unit => []) r0 () (va_A [] H.size)) 0 0 (va_A [] H.size))
    (cw : CallB R s args own index y bytes maxL ret ws rm 0 0 n ∧ (Cond.static y).before args s = true) (hP : va_P D vwCl V H) (hX : va_X b L xs s H0) (hbl : b < H0.size) (hbA : ¬ A0 b) (hS : va_S A0 H0 H locs) (hA : ∀ q : Nat, H0.size ≤ q → A0 q)
    (hn : As.length = n) (hsize : ls.size = nL) (hW : (rest.map fun v => v.category).sum ≤ 8) (hstack : st0 = As.reverse ++ rest) (hdg : decode cc pc = .ok (.invokestatic index, 3)) (hf : cells + 0 ≤ R.cells ∧ slots + 0 ≤ R.slots)
    (kk : ∀ (H1 : Heap) (locs1 : List Loc), va_P D vwCl V H1 → va_S A0 H0 H1 locs1 → W p l e R s m args below meth co H1 locs1 cells slots Q (F0 m (pc + 3) ls (.int r0 :: rest))) : W p l e R s m args below meth co H locs cells slots Q (F0 m pc ls st0) := by
  have hF := z_F (A0 := A0) (V := []) z_D0 hS hA
  have hXH : va_X b L xs s H := hX.kept (hS.2.1 b hbl hbA)
  refine va_calli (va_runS (As := As) (rest := rest) S0 hM cw ⟨z_blX, fun U hU hW => ⟨rfl, by rw [hU], by rw [hU]; exact hXH.moved hW.alike, Nat.lt_of_lt_of_le hbl hS.1⟩⟩ rfl hn hsize hstack (lv_room hW) hdg hf) hS (fun q _ h => hF q h) hF (fun r u t H1 locs1 ht hvm hw hB hz hk hS1 => ?_)
  obtain ⟨e1, e2⟩ := hw
  rw [e1]
  exact kk H1 locs1 (z_keep0 hP hk) hS1
/-- returns of a method that has made cells -/
theorem z_yi {S : Type} {wf : S → va_W} {g g0 : S} {r r0 : Int32} (hx : p.tables.exec = Jvm.exec) (hb : co.code = cc) (hr : meth.sig.returnType = some .int) (hlocks : meth.locks = false) (hP : va_P D vwCl (wf g) H) (hD : va_D A (wf g)) (hS : va_S A s.heap H locs) (hf : some (r, g) = some (r0, g0)) (hc : cells ≤ mc) (hs : slots ≤ ms) (hdg : decode cc pc = .ok (.ireturn, 1)) : W p l e R s m args below meth co H locs cells slots (MQ below (z_Qi D wf r0 g0 A) args s mc ms A) (F0 m pc ls [.int r]) := by
  cases hf
  refine W.widen (k := mc) (n := ms) hc hs ?_
  exact W.iret (v := r) hx hb hr (fun t ht _ => ⟨⟨r, g, rfl, ⟨rfl, rfl⟩, by rw [ht]; exact hP, hD⟩, hS.F ht⟩) hS.2.2 hdg hlocks
theorem z_yz {S : Type} {wf : S → va_W} {g g0 : S} {r r0 : Int32} (hx : p.tables.exec = Jvm.exec) (hb : co.code = cc) (hr : meth.sig.returnType = some .boolean) (hn : narrow .boolean (.int r) = .int r) (hlocks : meth.locks = false) (hP : va_P D vwCl (wf g) H) (hD : va_D A (wf g)) (hS : va_S A s.heap H locs) (hf : some (r, g) = some (r0, g0)) (hc : cells ≤ mc) (hs : slots ≤ ms) (hdg : decode cc pc = .ok (.ireturn, 1)) : W p l e R s m args below meth co H locs cells slots (MQ below (z_Qi D wf r0 g0 A) args s mc ms A) (F0 m pc ls [.int r]) := by
  cases hf
  refine W.widen (k := mc) (n := ms) hc hs ?_
  exact W.zret (v := r) hx hb hr hn (fun t ht _ => ⟨⟨r, g, rfl, ⟨rfl, rfl⟩, by rw [ht]; exact hP, hD⟩, hS.F ht⟩) hS.2.2 hdg hlocks
end ZS
/-- the start of a method on the script -/
theorem z_ofX {l : Launch} {y : MethodName} {ws ws' : List Cond} {rm : Room} {b L : Nat} {xs : Nat → Int32} {sz : Nat} {av : List Value} {Qf : Array Value → State → Outcome → State → Prop} {cc : ByteArray} {maxL mc ms : Nat} {ret : Option FieldType}
    (hy : plainFor y = true) (hw : ws = Cond.code y cc maxL ret :: ws') (hn : (lg_sl av).length ≤ maxL)
    (body : ∀ (p : Program) (e : Env) (s : State) (m : MethodId) (args : Array Value) (below : List Frame) (meth : Method) (co : Code) (ls : Array Slot), p.tables.exec = Jvm.exec → co.code = cc → meth.sig.returnType = ret → co.maxLocals = maxL → (∀ w ∈ ws, w.before args s = true) → s.vm.findClass y.cls = some m.cls → meth.locks = false → va_X b L xs s s.heap → b < s.heap.size → lv_has ls maxL (lv_args 0 av) → s.heap.size = sz →
      W p l e rm s m args below meth co s.heap [] 0 0 (MQ below Qf args s mc ms (va_A [] sz)) (F0 m 0 ls [])) :
    Met l y ws rm (z_PX b L xs sz av) Qf mc ms (va_A [] sz) := by
  refine z_ofF (cc := cc) (maxL := maxL) (ret := ret) hy hw ?_
  intro p e s m args below meth co s₁ B hml hv
  obtain ⟨rfl, hsz, hX, hbl⟩ := hv
  have hts := atoms_spec (ws := ws) B.pre
  have hown : s.vm.findClass y.cls = some m.cls := findClass_of_methodNamed B.named
  have hl := lv_entry av (n := maxL) hn
  rw [lg_entry_eq]
  exact body p e s m _ below meth co _ B.exec B.bytes B.returns hml hts hown B.notSynchronized hX (by rw [hsz]; exact hbl) hl hsz
end
section
def fX1_forget (N : Nat) (X : z_X) : Option (z_X) :=
z_lt ((X.1, z_u2 X.2.1 0 0 (0 : Int32), X.2.2)) fun X1 =>
z_lt ((X1.1, z_u2 X1.2.1 0 1 (0 : Int32), X1.2.2)) fun X2 =>
some X2
def fX1_remember (N : Nat) (X : z_X) : Option (z_X) :=
z_ck (z_in (((X.2.1 0 0) + (X.2.1 0 1)) - ((X.2.1 0 0) + (X.2.1 0 1)) / (14 : Int32) * (14 : Int32)) 14) <|
(fX2_copyFrom N (X.2.2 0) (X.2.2 (((((X.2.1 0 0) + (X.2.1 0 1)) - ((X.2.1 0 0) + (X.2.1 0 1)) / (14 : Int32) * (14 : Int32))).toNatClampNeg + 3))).bind fun u2 =>
z_lt ((X.1, X.2.1, z_u3 X.2.2 (((((X.2.1 0 0) + (X.2.1 0 1)) - ((X.2.1 0 0) + (X.2.1 0 1)) / (14 : Int32) * (14 : Int32))).toNatClampNeg + 3) u2)) fun X3 =>
(if (14 : Int32) ≤ (X3.2.1 0 1) then
z_lt ((X3.1, z_u2 X3.2.1 0 0 (((X3.2.1 0 0) + (1 : Int32)) - ((X3.2.1 0 0) + (1 : Int32)) / (14 : Int32) * (14 : Int32)), X3.2.2)) fun X5 =>
some X5
else
z_lt ((X3.1, z_u2 X3.2.1 0 1 ((X3.2.1 0 1) + (1 : Int32)), X3.2.2)) fun X6 =>
some X6)
def fX1_bringBack (N : Nat) (X : z_X) : Option (z_X) :=
(if (1 : Int32) ≤ (X.2.1 0 1) then
z_lt ((X.1, z_u2 X.2.1 0 1 ((X.2.1 0 1) - (1 : Int32)), X.2.2)) fun X2 =>
z_ck (z_in (((X2.2.1 0 0) + (X2.2.1 0 1)) - ((X2.2.1 0 0) + (X2.2.1 0 1)) / (14 : Int32) * (14 : Int32)) 14) <|
(fX2_copyFrom N (X2.2.2 (((((X2.2.1 0 0) + (X2.2.1 0 1)) - ((X2.2.1 0 0) + (X2.2.1 0 1)) / (14 : Int32) * (14 : Int32))).toNatClampNeg + 3)) (X2.2.2 0)).bind fun u4 =>
z_lt ((X2.1, X2.2.1, z_u3 X2.2.2 0 u4)) fun X5 =>
some X5
else
some X)
def lX3_fill_11 (N : Nat) : Nat → Int32 → z_X → Option (z_X)
  | 0, _, _ => none
  | fu + 1, x2, X => (if (X.1 0 0) ≤ x2 then
some X
else
(fX3_digit N (x2 + (1 : Int32)) X.1).bind fun r5 =>
(fX3_digit N (x2 + (2 : Int32)) X.1).bind fun r6 =>
(fX3_pair N (x2 + (3 : Int32)) X.1).bind fun r7 =>
(fX3_pair N (x2 + (5 : Int32)) X.1).bind fun r8 =>
(fX3_pair N (x2 + (7 : Int32)) X.1).bind fun r9 =>
z_b2 (fX2_addNew N r5 r6 r7 r8 r9 (X.2.2 0)) fun r10 u10 =>
z_lt ((X.1, X.2.1, z_u3 X.2.2 0 u10)) fun X11 =>
(lX3_fill_11 N fu (x2 + (9 : Int32)) X11))
def fX3_fill (N : Nat) (X : z_X) : Option (z_X) :=
(fX3_pair N (1 : Int32) X.1).bind fun r1 =>
(fX2_reset N r1 (X.2.2 0)).bind fun u2 =>
z_lt ((X.1, X.2.1, z_u3 X.2.2 0 u2)) fun X3 =>
(lX3_fill_11 N N (3 : Int32) X3)
def fX4_append (N : Nat) (p1 : Int32) (X : z_X) : Option ((Int32 ⊕ Nat) × z_X) :=
(if p1 < 0 then
some (.inr 1, X)
else
(if p1 ≤ (255 : Int32) then
(fX3_isFull N  X.1).bind fun r3 =>
(if r3 = 0 then
z_b2 (fX3_add N p1 X.1) fun r5 u5 =>
z_lt ((u5, X.2.1, X.2.2)) fun X6 =>
some (.inl r5, X6)
else
some (.inr 2, X))
else
some (.inr 1, X)))
def fX4_clearText (N : Nat) (X : z_X) : Option (Int32 × z_X) :=
z_b2 (fX3_empty N  X.1) fun r1 u1 =>
z_lt ((u1, X.2.1, X.2.2)) fun X2 =>
some (r1, X2)
def fX4_errorPosition (N : Nat) (X : z_X) : Option Int32 :=
(fX3_firstError N  X.1).bind fun r1 =>
some (r1)
def lX4_load_41 (N : Nat) : Nat → Int32 → z_X → Option ((Int32 ⊕ Nat) × z_X)
  | 0, _, _ => none
  | fu + 1, x1, X => (if (2 : Int32) ≤ x1 then
some (.inl (X.2.2 0 0 1), X)
else
z_ck (z_in x1 2) <|
z_lt ((X.1, z_u2 X.2.1 1 (x1).toNatClampNeg (0 : Int32), X.2.2)) fun X7 =>
(lX4_load_41 N fu (x1 + (1 : Int32)) X7))
def fX4_load (N : Nat) (X : z_X) : Option ((Int32 ⊕ Nat) × z_X) :=
(fX3_firstError N  X.1).bind fun r1 =>
(if r1 = (-1 : Int32) then
(fX3_fill N  X).bind fun X3 =>
(fX1_forget N  X3).bind fun X4 =>
(lX4_load_41 N N (0 : Int32) X4)
else
some (.inr 2, X))
def fX4_about (N : Nat) (p1 : Int32) (X : z_X) : Option ((Int32 ⊕ Nat) × z_X) :=
(if p1 = (0 : Int32) then
some (.inl (X.2.2 0 0 0), X)
else
(if p1 = (1 : Int32) then
some (.inl (X.2.2 0 0 1), X)
else
(if p1 = (2 : Int32) then
some (.inl (X.2.2 0 0 2), X)
else
(if p1 = (3 : Int32) then
(fX2_around N (X.2.2 0 0 2) (X.2.2 0)).bind fun r2 =>
some (.inl r2, X)
else
(if p1 = (4 : Int32) then
(fX2_laidOrders N  (X.2.2 0)).bind fun r3 =>
some (.inl r3, X)
else
(if p1 = (5 : Int32) then
(fX4_sum N 4 (X.2.2 0 10)).bind fun r4 =>
some (.inl r4, X)
else
(if p1 = (6 : Int32) then
(fX4_sum N 4 (X.2.2 0 11)).bind fun r5 =>
some (.inl r5, X)
else
(if p1 = (7 : Int32) then
(fX4_sum N 16 (X.2.2 0 8)).bind fun r6 =>
some (.inl r6, X)
else
(if p1 = (8 : Int32) then
some (.inl (X.2.2 0 0 4), X)
else
(if p1 = (9 : Int32) then
some (.inl (X.2.2 0 0 3), X)
else
some (.inr 1, X)))))))))))
def fX4_order (N : Nat) (p1 : Int32) (p2 : Int32) (X : z_X) : Option ((Int32 ⊕ Nat) × z_X) :=
(fX2_has N p1 (X.2.2 0)).bind fun r1 =>
(if r1 = 0 then
some (.inr 3, X)
else
(if p2 = (0 : Int32) then
z_ck (z_in p1 16) <|
some (.inl (X.2.2 0 1 (p1).toNatClampNeg), X)
else
(if p2 = (1 : Int32) then
z_ck (z_in p1 16) <|
some (.inl (X.2.2 0 2 (p1).toNatClampNeg), X)
else
(if p2 = (2 : Int32) then
z_ck (z_in p1 16) <|
some (.inl (X.2.2 0 3 (p1).toNatClampNeg), X)
else
(if p2 = (3 : Int32) then
z_ck (z_in p1 16) <|
some (.inl (X.2.2 0 4 (p1).toNatClampNeg), X)
else
(if p2 = (4 : Int32) then
z_ck (z_in p1 16) <|
some (.inl (X.2.2 0 5 (p1).toNatClampNeg), X)
else
(if p2 = (5 : Int32) then
z_ck (z_in p1 16) <|
some (.inl (X.2.2 0 6 (p1).toNatClampNeg), X)
else
(if p2 = (6 : Int32) then
z_ck (z_in p1 16) <|
some (.inl (X.2.2 0 7 (p1).toNatClampNeg), X)
else
(if p2 = (7 : Int32) then
z_ck (z_in p1 16) <|
some (.inl (X.2.2 0 8 (p1).toNatClampNeg), X)
else
(if p2 = (8 : Int32) then
z_ck (z_in p1 16) <|
some (.inl (X.2.2 0 9 (p1).toNatClampNeg), X)
else
some (.inr 1, X)))))))))))
def fX4_author (N : Nat) (p1 : Int32) (p2 : Int32) (X : z_X) : Option ((Int32 ⊕ Nat) × z_X) :=
(fX4_isAuthor N p1).bind fun r1 =>
(if r1 = 0 then
some (.inr 3, X)
else
(if p2 = (0 : Int32) then
(fX2_ordersOf N p1 (X.2.2 0)).bind fun r4 =>
some (.inl r4, X)
else
(if p2 = (1 : Int32) then
z_ck (z_in p1 4) <|
some (.inl (X.2.2 0 10 (p1).toNatClampNeg), X)
else
(if p2 = (2 : Int32) then
z_ck (z_in p1 4) <|
some (.inl (X.2.2 0 11 (p1).toNatClampNeg), X)
else
some (.inr 1, X)))))
def fX4_at (N : Nat) (p1 : Int32) (X : z_X) : Option ((Int32 ⊕ Nat) × z_X) :=
(fX2_hasPlace N p1 (X.2.2 0)).bind fun r1 =>
(if r1 = 0 then
some (.inr 3, X)
else
(fX2_orderOn N p1 (X.2.2 0)).bind fun r3 =>
some (.inl r3, X))
def fX4_jump (N : Nat) (p1 : Int32) (p2 : Int32) (X : z_X) : Option ((Int32 ⊕ Nat) × z_X) :=
(if p1 < 0 then
some (.inr 1, X)
else
(if p2 < 0 then
some (.inr 1, X)
else
(if p2 ≤ (2 : Int32) then
(fX0_number N p1 p2 (X.2.2 0)).bind fun r4 =>
some (.inl r4, X)
else
some (.inr 1, X))))
def fX4_chain (N : Nat) (p1 : Int32) (X : z_X) : Option ((Int32 ⊕ Nat) × z_X) :=
(fX2_has N p1 (X.2.2 0)).bind fun r1 =>
(if r1 = 0 then
some (.inr 3, X)
else
(fX2_chainLength N p1 (X.2.2 0)).bind fun r3 =>
some (.inl r3, X))
def fX4_ring (N : Nat) (p1 : Int32) (X : z_X) : Option ((Int32 ⊕ Nat) × z_X) :=
(fX2_has N p1 (X.2.2 0)).bind fun r1 =>
(if r1 = 0 then
some (.inr 3, X)
else
(fX2_ringLength N p1 (X.2.2 0)).bind fun r3 =>
some (.inl r3, X))
def fX4_setDrum (N : Nat) (p1 : Int32) (X : z_X) : Option ((Int32 ⊕ Nat) × z_X) :=
(if p1 < (6 : Int32) then
some (.inr 1, X)
else
(if p1 ≤ (40 : Int32) then
(fX1_remember N  X).bind fun X3 =>
(fX2_takeAllOff N  (X3.2.2 0)).bind fun u4 =>
z_lt ((X3.1, X3.2.1, z_u3 X3.2.2 0 u4)) fun X5 =>
z_lt ((X5.1, X5.2.1, z_u3 X5.2.2 0 (z_u2 (X5.2.2 0) 0 0 p1))) fun X6 =>
some (.inl (X3.2.2 0 0 0), X6)
else
some (.inr 1, X)))
def fX4_addOrder (N : Nat) (p1 : Int32) (p2 : Int32) (p3 : Int32) (p4 : Int32) (p5 : Int32) (X : z_X) : Option ((Int32 ⊕ Nat) × z_X) :=
(fX4_isAuthor N p1).bind fun r1 =>
(if r1 = 0 then
some (.inr 1, X)
else
(fX4_isWork N p2).bind fun r3 =>
(if r3 = 0 then
some (.inr 1, X)
else
(fX4_isLink N p3).bind fun r5 =>
(if r5 = 0 then
some (.inr 1, X)
else
(fX4_isLink N p4).bind fun r7 =>
(if r7 = 0 then
some (.inr 1, X)
else
(fX4_isBribe N p5).bind fun r9 =>
(if r9 = 0 then
some (.inr 1, X)
else
(if (X.2.2 0 0 1) < (16 : Int32) then
(fX1_remember N  X).bind fun X12 =>
z_b2 (fX2_addNew N p1 p2 p3 p4 p5 (X12.2.2 0)) fun r13 u13 =>
z_lt ((X12.1, X12.2.1, z_u3 X12.2.2 0 u13)) fun X14 =>
some (.inl r13, X14)
else
some (.inr 2, X)))))))
def fX4_change (N : Nat) (p1 : Int32) (p2 : Int32) (p3 : Int32) (X : z_X) : Option ((Int32 ⊕ Nat) × z_X) :=
(fX2_has N p1 (X.2.2 0)).bind fun r1 =>
(if r1 = 0 then
some (.inr 3, X)
else
(fX4_isNumberOfOrder N p2 p3).bind fun r3 =>
(if r3 = 0 then
some (.inr 1, X)
else
(fX1_remember N  X).bind fun X5 =>
z_b2 (fX2_replace N p1 p2 p3 (X5.2.2 0)) fun r6 u6 =>
z_lt ((X5.1, X5.2.1, z_u3 X5.2.2 0 u6)) fun X7 =>
some (.inl r6, X7)))
def fX4_move (N : Nat) (p1 : Int32) (p2 : Int32) (X : z_X) : Option ((Int32 ⊕ Nat) × z_X) :=
(fX2_has N p1 (X.2.2 0)).bind fun r1 =>
(if r1 = 0 then
some (.inr 3, X)
else
(fX2_hasPlace N p2 (X.2.2 0)).bind fun r3 =>
(if r3 = 0 then
some (.inr 3, X)
else
(fX2_isFreeFor N p1 p2 (X.2.2 0)).bind fun r5 =>
(if r5 = 0 then
some (.inr 2, X)
else
(fX1_remember N  X).bind fun X7 =>
z_b2 (fX2_put N p1 p2 (X7.2.2 0)) fun r8 u8 =>
z_lt ((X7.1, X7.2.1, z_u3 X7.2.2 0 u8)) fun X9 =>
some (.inl r8, X9))))
def fX4_lay (N : Nat) (X : z_X) : Option (Int32 × z_X) :=
(fX1_remember N  X).bind fun X1 =>
z_b2 (fX2_layAll N  (X1.2.2 0)) fun r2 u2 =>
z_lt ((X1.1, X1.2.1, z_u3 X1.2.2 0 u2)) fun X3 =>
some (r2, X3)
def fX4_run (N : Nat) (p1 : Int32) (X : z_X) : Option ((Int32 ⊕ Nat) × z_X) :=
(fX2_has N p1 (X.2.2 0)).bind fun r1 =>
(if r1 = 0 then
some (.inr 3, X)
else
(fX1_remember N  X).bind fun X3 =>
z_b2 (fX2_runFrom N p1 (X3.2.2 0)) fun r4 u4 =>
z_lt ((X3.1, X3.2.1, z_u3 X3.2.2 0 u4)) fun X5 =>
some (.inl r4, X5))
def fX4_turn (N : Nat) (p1 : Int32) (X : z_X) : Option ((Int32 ⊕ Nat) × z_X) :=
(fX4_isTurn N p1).bind fun r1 =>
(if r1 = 0 then
some (.inr 1, X)
else
(fX1_remember N  X).bind fun X3 =>
z_lt ((X3.1, X3.2.1, z_u3 X3.2.2 0 (z_u2 (X3.2.2 0) 0 2 ((X3.2.2 0 0 2) + p1)))) fun X4 =>
(fX2_around N (X4.2.2 0 0 2) (X4.2.2 0)).bind fun r5 =>
some (.inl r5, X4))
def fX4_undo (N : Nat) (X : z_X) : Option ((Int32 ⊕ Nat) × z_X) :=
(if (1 : Int32) ≤ (X.2.1 0 1) then
(fX1_bringBack N  X).bind fun X2 =>
some (.inl (X2.2.1 0 1), X2)
else
some (.inr 2, X))
def fX4_waits (N : Nat) (p1 : Int32) (X : z_X) : Option ((Int32 ⊕ Nat) × z_X) :=
(fX2_has N p1 (X.2.2 0)).bind fun r1 =>
(if r1 = 0 then
some (.inr 3, X)
else
(fX2_waitFor N p1 (X.2.2 0)).bind fun r3 =>
some (.inl r3, X))
def fX4_ticksOfRun (N : Nat) (j1 : Nat) (p2 : Int32) (X : z_X) : Option (Int32 × z_X) :=
(fX2_copyFrom N (X.2.2 j1) (X.2.2 2)).bind fun u1 =>
z_lt ((X.1, X.2.1, z_u3 X.2.2 2 u1)) fun X2 =>
z_b2 (fX2_runFrom N p2 (X2.2.2 2)) fun r3 u3 =>
z_lt ((X2.1, X2.2.1, z_u3 X2.2.2 2 u3)) fun X4 =>
some (((X4.2.2 2 0 2) - (X4.2.2 j1 0 2)), X4)
def fX4_time (N : Nat) (p1 : Int32) (X : z_X) : Option ((Int32 ⊕ Nat) × z_X) :=
(fX2_has N p1 (X.2.2 0)).bind fun r1 =>
(if r1 = 0 then
some (.inr 3, X)
else
z_b2 (fX4_ticksOfRun N 0 p1 X) fun r3 X3 =>
some (.inl r3, X3))
def lX4_bestPlace_51 (N : Nat) (x1 : Int32) (x2 : Int32) : Nat → Int32 → Int32 → Int32 → z_X → Option ((Int32 ⊕ Nat) × z_X)
  | 0, _, _, _, _ => none
  | fu + 1, x3, x4, x5, X => (if (X.2.2 0 0 0) ≤ x5 then
some (.inl x3, X)
else
(fX2_isFreeFor N x1 x5 (X.2.2 0)).bind fun r8 =>
(if r8 = 0 then
(lX4_bestPlace_51 N x1 x2 fu x3 x4 (x5 + (1 : Int32)) X)
else
z_ck (z_in x1 16) <|
z_lt ((X.1, X.2.1, z_u3 X.2.2 1 (z_u2 (X.2.2 1) 6 (x1).toNatClampNeg x5))) fun X11 =>
z_b2 (fX4_ticksOfRun N 1 x2 X11) fun r12 X12 =>
(if x3 = (-1 : Int32) then
(lX4_bestPlace_51 N x1 x2 fu x5 r12 (x5 + (1 : Int32)) X12)
else
(if x4 ≤ r12 then
(lX4_bestPlace_51 N x1 x2 fu x3 x4 (x5 + (1 : Int32)) X12)
else
(lX4_bestPlace_51 N x1 x2 fu x5 r12 (x5 + (1 : Int32)) X12)))))
def fX4_bestPlace (N : Nat) (p1 : Int32) (p2 : Int32) (X : z_X) : Option ((Int32 ⊕ Nat) × z_X) :=
(fX2_has N p1 (X.2.2 0)).bind fun r1 =>
(if r1 = 0 then
some (.inr 3, X)
else
(fX2_has N p2 (X.2.2 0)).bind fun r3 =>
(if r3 = 0 then
some (.inr 3, X)
else
(fX2_copyFrom N (X.2.2 0) (X.2.2 1)).bind fun u5 =>
z_lt ((X.1, X.2.1, z_u3 X.2.2 1 u5)) fun X6 =>
(lX4_bestPlace_51 N p1 p2 N (-1 : Int32) (0 : Int32) (0 : Int32) X6)))
def lX4_leastBribe_34 (N : Nat) (x1 : Int32) : Nat → Int32 → z_X → Option ((Int32 ⊕ Nat) × z_X)
  | 0, _, _ => none
  | fu + 1, x2, X => (if (99 : Int32) < x2 then
some (.inl (-1 : Int32), X)
else
z_ck (z_in x1 16) <|
z_lt ((X.1, X.2.1, z_u3 X.2.2 1 (z_u2 (X.2.2 1) 5 (x1).toNatClampNeg x2))) fun X7 =>
z_b2 (fX2_layAll N  (X7.2.2 1)) fun r8 u8 =>
z_lt ((X7.1, X7.2.1, z_u3 X7.2.2 1 u8)) fun X9 =>
z_ck (z_in x1 16) <|
(if (X9.2.2 1 7 (x1).toNatClampNeg) = 0 then
some (.inl x2, X9)
else
(lX4_leastBribe_34 N x1 fu (x2 + (1 : Int32)) X9)))
def fX4_leastBribe (N : Nat) (p1 : Int32) (X : z_X) : Option ((Int32 ⊕ Nat) × z_X) :=
(fX2_has N p1 (X.2.2 0)).bind fun r1 =>
(if r1 = 0 then
some (.inr 3, X)
else
(fX2_copyFrom N (X.2.2 0) (X.2.2 1)).bind fun u3 =>
z_lt ((X.1, X.2.1, z_u3 X.2.2 1 u3)) fun X4 =>
(lX4_leastBribe_34 N p1 N (0 : Int32) X4))
def fX4_saves (N : Nat) (p1 : Int32) (X : z_X) : Option ((Int32 ⊕ Nat) × z_X) :=
(fX2_has N p1 (X.2.2 0)).bind fun r1 =>
(if r1 = 0 then
some (.inr 3, X)
else
(fX2_copyFrom N (X.2.2 0) (X.2.2 1)).bind fun u3 =>
z_lt ((X.1, X.2.1, z_u3 X.2.2 1 u3)) fun X4 =>
z_b2 (fX2_layAll N  (X4.2.2 1)) fun r5 u5 =>
z_lt ((X4.1, X4.2.1, z_u3 X4.2.2 1 u5)) fun X6 =>
z_b2 (fX4_ticksOfRun N 0 p1 X6) fun r7 X7 =>
z_b2 (fX4_ticksOfRun N 1 p1 X7) fun r8 X8 =>
some (.inl (r7 - r8), X8))
def fX4_runsOnTrial (N : Nat) (p1 : Int32) (X : z_X) : Option (Int32 × z_X) :=
(fX2_has N p1 (X.2.2 1)).bind fun r1 =>
(if r1 = 0 then
some ((0 : Int32), X)
else
z_b2 (fX2_runFrom N p1 (X.2.2 1)) fun r3 u3 =>
z_lt ((X.1, X.2.1, z_u3 X.2.2 1 u3)) fun X4 =>
some ((1 : Int32), X4))
def fX4_movesOnTrial (N : Nat) (p1 : Int32) (p2 : Int32) (X : z_X) : Option (Int32 × z_X) :=
(fX2_has N p1 (X.2.2 1)).bind fun r1 =>
(if r1 = 0 then
some ((0 : Int32), X)
else
(fX2_hasPlace N p2 (X.2.2 1)).bind fun r3 =>
(if r3 = 0 then
some ((0 : Int32), X)
else
(fX2_isFreeFor N p1 p2 (X.2.2 1)).bind fun r5 =>
(if r5 = 0 then
some ((0 : Int32), X)
else
z_b2 (fX2_put N p1 p2 (X.2.2 1)) fun r7 u7 =>
z_lt ((X.1, X.2.1, z_u3 X.2.2 1 u7)) fun X8 =>
some ((1 : Int32), X8))))
def fX4_turnsOnTrial (N : Nat) (p1 : Int32) (X : z_X) : Option (Int32 × z_X) :=
(fX4_isTurn N p1).bind fun r1 =>
(if r1 = 0 then
some ((0 : Int32), X)
else
z_lt ((X.1, X.2.1, z_u3 X.2.2 1 (z_u2 (X.2.2 1) 0 2 ((X.2.2 1 0 2) + p1)))) fun X3 =>
some ((1 : Int32), X3))
def fX4_changesOnTrial (N : Nat) (p1 : Int32) (p2 : Int32) (p3 : Int32) (X : z_X) : Option (Int32 × z_X) :=
(fX2_has N p1 (X.2.2 1)).bind fun r1 =>
(if r1 = 0 then
some ((0 : Int32), X)
else
(fX4_isNumberOfOrder N p2 p3).bind fun r3 =>
(if r3 = 0 then
some ((0 : Int32), X)
else
z_b2 (fX2_replace N p1 p2 p3 (X.2.2 1)) fun r5 u5 =>
z_lt ((X.1, X.2.1, z_u3 X.2.2 1 u5)) fun X6 =>
some ((1 : Int32), X6)))
def fX4_isSoonOnTrial (N : Nat) (p1 : Int32) (p2 : Int32) (X : z_X) : Option Int32 :=
(fX2_isOnDrum N p1 (X.2.2 1)).bind fun r1 =>
(if r1 = 0 then
some ((0 : Int32))
else
(fX2_waitFor N p1 (X.2.2 1)).bind fun r3 =>
(if p2 < r3 then
some ((0 : Int32))
else
some ((1 : Int32))))
def fX4_isShortOnTrial (N : Nat) (p1 : Int32) (p2 : Int32) (X : z_X) : Option (Int32 × z_X) :=
(fX2_has N p1 (X.2.2 1)).bind fun r1 =>
(if r1 = 0 then
some ((0 : Int32), X)
else
(fX2_copyFrom N (X.2.2 1) (X.2.2 2)).bind fun u3 =>
z_lt ((X.1, X.2.1, z_u3 X.2.2 2 u3)) fun X4 =>
z_b2 (fX2_runFrom N p1 (X4.2.2 2)) fun r5 u5 =>
z_lt ((X4.1, X4.2.1, z_u3 X4.2.2 2 u5)) fun X6 =>
(if r5 = 0 then
(if p2 < ((X6.2.2 2 0 2) - (X6.2.2 1 0 2)) then
some ((0 : Int32), X6)
else
some ((1 : Int32), X6))
else
some ((0 : Int32), X6)))
def fX4_isCheapOnTrial (N : Nat) (p1 : Int32) (p2 : Int32) (X : z_X) : Option Int32 :=
(fX4_isAuthor N p1).bind fun r1 =>
(if r1 = 0 then
some ((0 : Int32))
else
z_ck (z_in p1 4) <|
(if p2 < (X.2.2 1 11 (p1).toNatClampNeg) then
some ((0 : Int32))
else
some ((1 : Int32))))
def fX4_succeeds (N : Nat) (p1 : Int32) (X : z_X) : Option (Int32 × z_X) :=
(if (p1 / (10000 : Int32)) = (1 : Int32) then
(if (p1 - p1 / (100 : Int32) * (100 : Int32)) = 0 then
z_b2 (fX4_runsOnTrial N ((p1 / (100 : Int32)) - (p1 / (100 : Int32)) / (100 : Int32) * (100 : Int32)) X) fun r3 X3 =>
(if r3 = 0 then
some ((0 : Int32), X3)
else
some ((1 : Int32), X3))
else
some ((0 : Int32), X))
else
(if (p1 / (10000 : Int32)) = (2 : Int32) then
(if ((p1 / (100 : Int32)) - (p1 / (100 : Int32)) / (100 : Int32) * (100 : Int32)) = 0 then
(if (p1 - p1 / (100 : Int32) * (100 : Int32)) = 0 then
z_b2 (fX2_layAll N  (X.2.2 1)) fun r7 u7 =>
z_lt ((X.1, X.2.1, z_u3 X.2.2 1 u7)) fun X8 =>
some ((1 : Int32), X8)
else
some ((0 : Int32), X))
else
some ((0 : Int32), X))
else
(if (p1 / (10000 : Int32)) = (3 : Int32) then
z_b2 (fX4_movesOnTrial N ((p1 / (100 : Int32)) - (p1 / (100 : Int32)) / (100 : Int32) * (100 : Int32)) (p1 - p1 / (100 : Int32) * (100 : Int32)) X) fun r9 X9 =>
z_ck (z_bo r9) <|
some (r9, X9)
else
(if (p1 / (10000 : Int32)) = (4 : Int32) then
(if ((p1 / (100 : Int32)) - (p1 / (100 : Int32)) / (100 : Int32) * (100 : Int32)) = 0 then
z_b2 (fX4_turnsOnTrial N (p1 - p1 / (100 : Int32) * (100 : Int32)) X) fun r12 X12 =>
(if r12 = 0 then
some ((0 : Int32), X12)
else
some ((1 : Int32), X12))
else
some ((0 : Int32), X))
else
(if (p1 / (10000 : Int32)) = (5 : Int32) then
z_b2 (fX4_changesOnTrial N ((p1 / (100 : Int32)) - (p1 / (100 : Int32)) / (100 : Int32) * (100 : Int32)) (4 : Int32) (p1 - p1 / (100 : Int32) * (100 : Int32)) X) fun r14 X14 =>
z_ck (z_bo r14) <|
some (r14, X14)
else
(if (p1 / (10000 : Int32)) = (6 : Int32) then
(if (p1 - p1 / (100 : Int32) * (100 : Int32)) = (99 : Int32) then
z_b2 (fX4_changesOnTrial N ((p1 / (100 : Int32)) - (p1 / (100 : Int32)) / (100 : Int32) * (100 : Int32)) (2 : Int32) (-1 : Int32) X) fun r19 X19 =>
z_ck (z_bo r19) <|
some (r19, X19)
else
z_b2 (fX4_changesOnTrial N ((p1 / (100 : Int32)) - (p1 / (100 : Int32)) / (100 : Int32) * (100 : Int32)) (2 : Int32) (p1 - p1 / (100 : Int32) * (100 : Int32)) X) fun r17 X17 =>
z_ck (z_bo r17) <|
some (r17, X17))
else
(if (p1 / (10000 : Int32)) = (7 : Int32) then
(fX4_isSoonOnTrial N ((p1 / (100 : Int32)) - (p1 / (100 : Int32)) / (100 : Int32) * (100 : Int32)) (p1 - p1 / (100 : Int32) * (100 : Int32)) X).bind fun r21 =>
z_ck (z_bo r21) <|
some (r21, X)
else
(if (p1 / (10000 : Int32)) = (8 : Int32) then
z_b2 (fX4_isShortOnTrial N ((p1 / (100 : Int32)) - (p1 / (100 : Int32)) / (100 : Int32) * (100 : Int32)) ((10 : Int32) * (p1 - p1 / (100 : Int32) * (100 : Int32))) X) fun r23 X23 =>
z_ck (z_bo r23) <|
some (r23, X23)
else
(if (p1 / (10000 : Int32)) = (9 : Int32) then
(fX4_isCheapOnTrial N ((p1 / (1000 : Int32)) - (p1 / (1000 : Int32)) / (10 : Int32) * (10 : Int32)) (p1 - p1 / (1000 : Int32) * (1000 : Int32)) X).bind fun r25 =>
z_ck (z_bo r25) <|
some (r25, X)
else
some ((0 : Int32), X))))))))))
def lX4_runScript_51 (N : Nat) (x1 : Int32) (x2 : Int64) : Nat → Int32 → z_X → Option ((Int32 ⊕ Nat) × z_X)
  | 0, _, _ => none
  | fu + 1, x4, X => (if x1 ≤ x4 then
some (.inl (-1 : Int32), X)
else
(fX4_withoutLast N ((x1 - (1 : Int32)) - x4) x2).bind fun r9 =>
z_b2 (fX4_succeeds N ((r9 - r9 / (100000 : Int64) * (100000 : Int64))).toInt32 X) fun r10 X10 =>
(if r10 = 0 then
some (.inl x4, X10)
else
(lX4_runScript_51 N x1 x2 fu (x4 + (1 : Int32)) X10)))
def fX4_runScript (N : Nat) (p1 : Int32) (p2 : Int64) (X : z_X) : Option ((Int32 ⊕ Nat) × z_X) :=
(if p1 < (1 : Int32) then
some (.inr 1, X)
else
(if (3 : Int32) < p1 then
some (.inr 1, X)
else
(if (lg_cmp p2 (0 : Int64)) < 0 then
some (.inr 1, X)
else
(fX4_withoutLast N p1 p2).bind fun r4 =>
(if (lg_cmp r4 (0 : Int64)) ≤ 0 then
(fX2_copyFrom N (X.2.2 0) (X.2.2 1)).bind fun u6 =>
z_lt ((X.1, X.2.1, z_u3 X.2.2 1 u6)) fun X7 =>
(lX4_runScript_51 N p1 p2 N (0 : Int32) X7)
else
some (.inr 1, X)))))
def fX4_simulateRun (N : Nat) (p1 : Int32) (X : z_X) : Option (Int32 × z_X) :=
(if (X.2.2 1 0 1) < (1 : Int32) then
some ((-1 : Int32), X)
else
(if 0 ≤ p1 then
z_ck (z_nz (X.2.2 1 0 1)) <|
z_b2 (fX2_replace N ((p1 / (16 : Int32)) - (p1 / (16 : Int32)) / (X.2.2 1 0 1) * (X.2.2 1 0 1)) (4 : Int32) ((p1 / (1024 : Int32)) - (p1 / (1024 : Int32)) / (100 : Int32) * (100 : Int32)) (X.2.2 1)) fun r4 u4 =>
z_lt ((X.1, X.2.1, z_u3 X.2.2 1 u4)) fun X5 =>
(if (p1 - p1 / (4 : Int32) * (4 : Int32)) = 0 then
z_b2 (fX2_layAll N  (X5.2.2 1)) fun r10 u10 =>
z_lt ((X5.1, X5.2.1, z_u3 X5.2.2 1 u10)) fun X11 =>
z_ck (z_nz (X.2.2 1 0 1)) <|
z_b2 (fX2_runFrom N ((p1 / (256 : Int32)) - (p1 / (256 : Int32)) / (X.2.2 1 0 1) * (X.2.2 1 0 1)) (X11.2.2 1)) fun r13 u13 =>
z_lt ((X11.1, X11.2.1, z_u3 X11.2.2 1 u13)) fun X14 =>
some (r13, X14)
else
z_ck (z_nz (X.2.2 1 0 1)) <|
z_b2 (fX2_runFrom N ((p1 / (256 : Int32)) - (p1 / (256 : Int32)) / (X.2.2 1 0 1) * (X.2.2 1 0 1)) (X5.2.2 1)) fun r8 u8 =>
z_lt ((X5.1, X5.2.1, z_u3 X5.2.2 1 u8)) fun X9 =>
some (r8, X9))
else
some ((-1 : Int32), X)))
def lX4_simulate_42 (N : Nat) (x3 : Int32) : Nat → Int64 → Int32 → Int32 → z_X → Option ((Int32 ⊕ Nat) × z_X)
  | 0, _, _, _, _ => none
  | fu + 1, x4, x6, x7, X => (if x3 ≤ x7 then
(fX4_sum N 4 (X.2.2 1 11)).bind fun r6 =>
(fX4_sum N 4 (X.2.2 0 11)).bind fun r7 =>
some (.inl (((1000 : Int32) * x6) + (if (999 : Int32) < (r6 - r7) then (999 : Int32) else (r6 - r7))), X)
else
z_b2 (fX4_simulateRun N (((((x4 * (6364136223846793005 : Int64)) + (1442695040888963407 : Int64))).toUInt64 >>> (((33 : Int32)).toInt64.toUInt64 &&& Int64.toUInt64 63)).toInt64).toInt32 X) fun r8 X8 =>
(if r8 = 0 then
(lX4_simulate_42 N x3 fu ((x4 * (6364136223846793005 : Int64)) + (1442695040888963407 : Int64)) (x6 + (1 : Int32)) (x7 + (1 : Int32)) X8)
else
(lX4_simulate_42 N x3 fu ((x4 * (6364136223846793005 : Int64)) + (1442695040888963407 : Int64)) x6 (x7 + (1 : Int32)) X8)))
def fX4_simulate (N : Nat) (p1 : Int64) (p3 : Int32) (X : z_X) : Option ((Int32 ⊕ Nat) × z_X) :=
(if p3 < (1 : Int32) then
some (.inr 1, X)
else
(if p3 ≤ (50 : Int32) then
(fX2_copyFrom N (X.2.2 0) (X.2.2 1)).bind fun u3 =>
z_lt ((X.1, X.2.1, z_u3 X.2.2 1 u3)) fun X4 =>
(lX4_simulate_42 N p3 N p1 (0 : Int32) (0 : Int32) X4)
else
some (.inr 1, X)))
def fX4_isSlot (N : Nat) (p1 : Int32) (X : z_X) : Option Int32 :=
(if p1 < 0 then
some ((0 : Int32))
else
(if (2 : Int32) ≤ p1 then
some ((0 : Int32))
else
(if (2 : Int32) ≤ p1 then
some ((0 : Int32))
else
some ((1 : Int32)))))
def fX4_save (N : Nat) (p1 : Int32) (X : z_X) : Option ((Int32 ⊕ Nat) × z_X) :=
(fX4_isSlot N p1 X).bind fun r1 =>
(if r1 = 0 then
some (.inr 3, X)
else
z_ck (z_in p1 2) <|
(fX2_copyFrom N (X.2.2 0) (X.2.2 ((p1).toNatClampNeg + 17))).bind fun u4 =>
z_lt ((X.1, X.2.1, z_u3 X.2.2 ((p1).toNatClampNeg + 17) u4)) fun X5 =>
z_ck (z_in p1 2) <|
z_lt ((X5.1, z_u2 X5.2.1 1 (p1).toNatClampNeg (1 : Int32), X5.2.2)) fun X7 =>
some (.inl (X7.2.2 0 0 1), X7))
def fX4_restore (N : Nat) (p1 : Int32) (X : z_X) : Option ((Int32 ⊕ Nat) × z_X) :=
(fX4_isSlot N p1 X).bind fun r1 =>
(if r1 = 0 then
some (.inr 3, X)
else
z_ck (z_in p1 2) <|
z_ck (z_in p1 2) <|
(if (X.2.1 1 (p1).toNatClampNeg) = 0 then
some (.inr 2, X)
else
(fX2_copyFrom N (X.2.2 ((p1).toNatClampNeg + 17)) (X.2.2 0)).bind fun u6 =>
z_lt ((X.1, X.2.1, z_u3 X.2.2 0 u6)) fun X7 =>
(fX1_forget N  X7).bind fun X8 =>
some (.inl (X8.2.2 0 0 1), X8)))
end
section
def nX4_about (N : Nat) (p1 : Int32) (X : z_X) : Option Int32 :=
(if p1 = (0 : Int32) then
some ((X.2.2 0 0 0))
else
(if p1 = (1 : Int32) then
some ((X.2.2 0 0 1))
else
(if p1 = (2 : Int32) then
some ((X.2.2 0 0 2))
else
(if p1 = (3 : Int32) then
(fX2_around N (X.2.2 0 0 2) (X.2.2 0)).bind fun r2 =>
some (r2)
else
(if p1 = (4 : Int32) then
(fX2_laidOrders N  (X.2.2 0)).bind fun r3 =>
some (r3)
else
(if p1 = (5 : Int32) then
(fX4_sum N 4 (X.2.2 0 10)).bind fun r4 =>
some (r4)
else
(if p1 = (6 : Int32) then
(fX4_sum N 4 (X.2.2 0 11)).bind fun r5 =>
some (r5)
else
(if p1 = (7 : Int32) then
(fX4_sum N 16 (X.2.2 0 8)).bind fun r6 =>
some (r6)
else
(if p1 = (8 : Int32) then
some ((X.2.2 0 0 4))
else
(if p1 = (9 : Int32) then
some ((X.2.2 0 0 3))
else
none))))))))))
def nX4_order (N : Nat) (p1 : Int32) (p2 : Int32) (X : z_X) : Option Int32 :=
(fX2_has N p1 (X.2.2 0)).bind fun r1 =>
(if r1 = 0 then
none
else
(if p2 = (0 : Int32) then
z_ck (z_in p1 16) <|
some ((X.2.2 0 1 (p1).toNatClampNeg))
else
(if p2 = (1 : Int32) then
z_ck (z_in p1 16) <|
some ((X.2.2 0 2 (p1).toNatClampNeg))
else
(if p2 = (2 : Int32) then
z_ck (z_in p1 16) <|
some ((X.2.2 0 3 (p1).toNatClampNeg))
else
(if p2 = (3 : Int32) then
z_ck (z_in p1 16) <|
some ((X.2.2 0 4 (p1).toNatClampNeg))
else
(if p2 = (4 : Int32) then
z_ck (z_in p1 16) <|
some ((X.2.2 0 5 (p1).toNatClampNeg))
else
(if p2 = (5 : Int32) then
z_ck (z_in p1 16) <|
some ((X.2.2 0 6 (p1).toNatClampNeg))
else
(if p2 = (6 : Int32) then
z_ck (z_in p1 16) <|
some ((X.2.2 0 7 (p1).toNatClampNeg))
else
(if p2 = (7 : Int32) then
z_ck (z_in p1 16) <|
some ((X.2.2 0 8 (p1).toNatClampNeg))
else
(if p2 = (8 : Int32) then
z_ck (z_in p1 16) <|
some ((X.2.2 0 9 (p1).toNatClampNeg))
else
none))))))))))
def nX4_author (N : Nat) (p1 : Int32) (p2 : Int32) (X : z_X) : Option Int32 :=
(fX4_isAuthor N p1).bind fun r1 =>
(if r1 = 0 then
none
else
(if p2 = (0 : Int32) then
(fX2_ordersOf N p1 (X.2.2 0)).bind fun r4 =>
some (r4)
else
(if p2 = (1 : Int32) then
z_ck (z_in p1 4) <|
some ((X.2.2 0 10 (p1).toNatClampNeg))
else
(if p2 = (2 : Int32) then
z_ck (z_in p1 4) <|
some ((X.2.2 0 11 (p1).toNatClampNeg))
else
none))))
def nX4_at (N : Nat) (p1 : Int32) (X : z_X) : Option Int32 :=
(fX2_hasPlace N p1 (X.2.2 0)).bind fun r1 =>
(if r1 = 0 then
none
else
(fX2_orderOn N p1 (X.2.2 0)).bind fun r3 =>
some (r3))
def nX4_jump (N : Nat) (p1 : Int32) (p2 : Int32) (X : z_X) : Option Int32 :=
(if p1 < 0 then
none
else
(if p2 < 0 then
none
else
(if p2 ≤ (2 : Int32) then
(fX0_number N p1 p2 (X.2.2 0)).bind fun r4 =>
some (r4)
else
none)))
def nX4_setDrum (N : Nat) (p1 : Int32) (X : z_X) : Option (Int32 × z_X) :=
(if p1 < (6 : Int32) then
none
else
(if p1 ≤ (40 : Int32) then
(fX1_remember N  X).bind fun X3 =>
(fX2_takeAllOff N  (X3.2.2 0)).bind fun u4 =>
z_lt ((X3.1, X3.2.1, z_u3 X3.2.2 0 u4)) fun X5 =>
z_lt ((X5.1, X5.2.1, z_u3 X5.2.2 0 (z_u2 (X5.2.2 0) 0 0 p1))) fun X6 =>
some ((X3.2.2 0 0 0), X6)
else
none))
def nX4_addOrder (N : Nat) (p1 : Int32) (p2 : Int32) (p3 : Int32) (p4 : Int32) (p5 : Int32) (X : z_X) : Option (Int32 × z_X) :=
(fX4_isAuthor N p1).bind fun r1 =>
(if r1 = 0 then
none
else
(fX4_isWork N p2).bind fun r3 =>
(if r3 = 0 then
none
else
(fX4_isLink N p3).bind fun r5 =>
(if r5 = 0 then
none
else
(fX4_isLink N p4).bind fun r7 =>
(if r7 = 0 then
none
else
(fX4_isBribe N p5).bind fun r9 =>
(if r9 = 0 then
none
else
(if (X.2.2 0 0 1) < (16 : Int32) then
(fX1_remember N  X).bind fun X12 =>
z_b2 (fX2_addNew N p1 p2 p3 p4 p5 (X12.2.2 0)) fun r13 u13 =>
z_lt ((X12.1, X12.2.1, z_u3 X12.2.2 0 u13)) fun X14 =>
some (r13, X14)
else
none))))))
def nX4_change (N : Nat) (p1 : Int32) (p2 : Int32) (p3 : Int32) (X : z_X) : Option (Int32 × z_X) :=
(fX2_has N p1 (X.2.2 0)).bind fun r1 =>
(if r1 = 0 then
none
else
(fX4_isNumberOfOrder N p2 p3).bind fun r3 =>
(if r3 = 0 then
none
else
(fX1_remember N  X).bind fun X5 =>
z_b2 (fX2_replace N p1 p2 p3 (X5.2.2 0)) fun r6 u6 =>
z_lt ((X5.1, X5.2.1, z_u3 X5.2.2 0 u6)) fun X7 =>
some (r6, X7)))
def nX4_run (N : Nat) (p1 : Int32) (X : z_X) : Option (Int32 × z_X) :=
(fX2_has N p1 (X.2.2 0)).bind fun r1 =>
(if r1 = 0 then
none
else
(fX1_remember N  X).bind fun X3 =>
z_b2 (fX2_runFrom N p1 (X3.2.2 0)) fun r4 u4 =>
z_lt ((X3.1, X3.2.1, z_u3 X3.2.2 0 u4)) fun X5 =>
some (r4, X5))
def nX4_turn (N : Nat) (p1 : Int32) (X : z_X) : Option (Int32 × z_X) :=
(fX4_isTurn N p1).bind fun r1 =>
(if r1 = 0 then
none
else
(fX1_remember N  X).bind fun X3 =>
z_lt ((X3.1, X3.2.1, z_u3 X3.2.2 0 (z_u2 (X3.2.2 0) 0 2 ((X3.2.2 0 0 2) + p1)))) fun X4 =>
(fX2_around N (X4.2.2 0 0 2) (X4.2.2 0)).bind fun r5 =>
some (r5, X4))
def nX4_waits (N : Nat) (p1 : Int32) (X : z_X) : Option Int32 :=
(fX2_has N p1 (X.2.2 0)).bind fun r1 =>
(if r1 = 0 then
none
else
(fX2_waitFor N p1 (X.2.2 0)).bind fun r3 =>
some (r3))
def nX4_time (N : Nat) (p1 : Int32) (X : z_X) : Option (Int32 × z_X) :=
(fX2_has N p1 (X.2.2 0)).bind fun r1 =>
(if r1 = 0 then
none
else
z_b2 (fX4_ticksOfRun N 0 p1 X) fun r3 X3 =>
some (r3, X3))
def nlX4_bestPlace_51 (N : Nat) (x1 : Int32) (x2 : Int32) : Nat → Int32 → Int32 → Int32 → z_X → Option (Int32 × z_X)
  | 0, _, _, _, _ => none
  | fu + 1, x3, x4, x5, X => (if (X.2.2 0 0 0) ≤ x5 then
some (x3, X)
else
(fX2_isFreeFor N x1 x5 (X.2.2 0)).bind fun r8 =>
(if r8 = 0 then
(nlX4_bestPlace_51 N x1 x2 fu x3 x4 (x5 + (1 : Int32)) X)
else
z_ck (z_in x1 16) <|
z_lt ((X.1, X.2.1, z_u3 X.2.2 1 (z_u2 (X.2.2 1) 6 (x1).toNatClampNeg x5))) fun X11 =>
z_b2 (fX4_ticksOfRun N 1 x2 X11) fun r12 X12 =>
(if x3 = (-1 : Int32) then
(nlX4_bestPlace_51 N x1 x2 fu x5 r12 (x5 + (1 : Int32)) X12)
else
(if x4 ≤ r12 then
(nlX4_bestPlace_51 N x1 x2 fu x3 x4 (x5 + (1 : Int32)) X12)
else
(nlX4_bestPlace_51 N x1 x2 fu x5 r12 (x5 + (1 : Int32)) X12)))))
def nX4_bestPlace (N : Nat) (p1 : Int32) (p2 : Int32) (X : z_X) : Option (Int32 × z_X) :=
(fX2_has N p1 (X.2.2 0)).bind fun r1 =>
(if r1 = 0 then
none
else
(fX2_has N p2 (X.2.2 0)).bind fun r3 =>
(if r3 = 0 then
none
else
(fX2_copyFrom N (X.2.2 0) (X.2.2 1)).bind fun u5 =>
z_lt ((X.1, X.2.1, z_u3 X.2.2 1 u5)) fun X6 =>
(nlX4_bestPlace_51 N p1 p2 N (-1 : Int32) (0 : Int32) (0 : Int32) X6)))
def nlX4_leastBribe_34 (N : Nat) (x1 : Int32) : Nat → Int32 → z_X → Option (Int32 × z_X)
  | 0, _, _ => none
  | fu + 1, x2, X => (if (99 : Int32) < x2 then
some ((-1 : Int32), X)
else
z_ck (z_in x1 16) <|
z_lt ((X.1, X.2.1, z_u3 X.2.2 1 (z_u2 (X.2.2 1) 5 (x1).toNatClampNeg x2))) fun X7 =>
z_b2 (fX2_layAll N  (X7.2.2 1)) fun r8 u8 =>
z_lt ((X7.1, X7.2.1, z_u3 X7.2.2 1 u8)) fun X9 =>
z_ck (z_in x1 16) <|
(if (X9.2.2 1 7 (x1).toNatClampNeg) = 0 then
some (x2, X9)
else
(nlX4_leastBribe_34 N x1 fu (x2 + (1 : Int32)) X9)))
def nX4_leastBribe (N : Nat) (p1 : Int32) (X : z_X) : Option (Int32 × z_X) :=
(fX2_has N p1 (X.2.2 0)).bind fun r1 =>
(if r1 = 0 then
none
else
(fX2_copyFrom N (X.2.2 0) (X.2.2 1)).bind fun u3 =>
z_lt ((X.1, X.2.1, z_u3 X.2.2 1 u3)) fun X4 =>
(nlX4_leastBribe_34 N p1 N (0 : Int32) X4))
def nX4_saves (N : Nat) (p1 : Int32) (X : z_X) : Option (Int32 × z_X) :=
(fX2_has N p1 (X.2.2 0)).bind fun r1 =>
(if r1 = 0 then
none
else
(fX2_copyFrom N (X.2.2 0) (X.2.2 1)).bind fun u3 =>
z_lt ((X.1, X.2.1, z_u3 X.2.2 1 u3)) fun X4 =>
z_b2 (fX2_layAll N  (X4.2.2 1)) fun r5 u5 =>
z_lt ((X4.1, X4.2.1, z_u3 X4.2.2 1 u5)) fun X6 =>
z_b2 (fX4_ticksOfRun N 0 p1 X6) fun r7 X7 =>
z_b2 (fX4_ticksOfRun N 1 p1 X7) fun r8 X8 =>
some ((r7 - r8), X8))
end
section
def fL_low (N : Nat) (p0 : Int32) (p1 : Int32) : Option Int32 :=
z_ck (z_nz p1) <|
some (((p0 &&& (2147483647 : Int32)) - (p0 &&& (2147483647 : Int32)) / p1 * p1))
def lL_copy_2 (N : Nat) (ln : Nat) (f : Nat → Int32) : Nat → Int32 → (Nat → Int32) → Option ((Nat → Int32))
  | 0, _, _ => none
  | fu + 1, x2, h => (if (Int32.ofNat ln) ≤ x2 then
some h
else
z_ck (z_in x2 ln) <|
z_ck (z_in x2 ln) <|
z_lt (upd h (x2).toNatClampNeg (f (x2).toNatClampNeg)) fun h4 =>
(lL_copy_2 N ln f fu (x2 + (1 : Int32)) h4))
def fL_copy (N : Nat) (ln : Nat) (f : Nat → Int32) (h : (Nat → Int32)) : Option ((Nat → Int32)) :=
(lL_copy_2 N ln f N (0 : Int32) h)
def fL_cell (N L : Nat) (xs : Nat → Int32) (p1 : Int32) : Option Int32 :=
(if (Int32.ofNat L) ≤ p1 then
some ((((1028477379 : Int32) * (p1 + (1 : Int32))) + (1516993665 : Int32)))
else
z_ck (z_in p1 L) <|
some ((xs (p1).toNatClampNeg)))
def lL_at_2 (N : Nat) (x0 : Int32) (g : z_R) : Nat → Int32 → Option Int32
  | 0, _ => none
  | fu + 1, x2 => (if (6 : Int32) ≤ x2 then
some ((-1 : Int32))
else
z_ck (z_in (((9 : Int32) * x2) + (5 : Int32)) 54) <|
(if (g 1 ((((9 : Int32) * x2) + (5 : Int32))).toNatClampNeg) = x0 then
some (x2)
else
(lL_at_2 N x0 g fu (x2 + (1 : Int32)))))
def fL_at (N : Nat) (p0 : Int32) (g : z_R) : Option Int32 :=
(lL_at_2 N p0 g N (0 : Int32))
def fL_refund (N : Nat) (p0 : Int32) (g : z_R) : Option (z_R) :=
z_ck (z_in ((9 : Int32) * p0) 54) <|
z_ck (z_in ((7 : Int32) + (g 1 (((9 : Int32) * p0)).toNatClampNeg)) 12) <|
z_ck (z_in (((9 : Int32) * p0) + (7 : Int32)) 54) <|
z_ck (z_in ((7 : Int32) + (g 1 (((9 : Int32) * p0)).toNatClampNeg)) 12) <|
z_lt (z_u2 g 0 (((7 : Int32) + (g 1 (((9 : Int32) * p0)).toNatClampNeg))).toNatClampNeg ((g 0 (((7 : Int32) + (g 1 (((9 : Int32) * p0)).toNatClampNeg))).toNatClampNeg) + (g 1 ((((9 : Int32) * p0) + (7 : Int32))).toNatClampNeg))) fun g5 =>
z_ck (z_in (((9 : Int32) * p0) + (7 : Int32)) 54) <|
z_lt (z_u2 g5 1 ((((9 : Int32) * p0) + (7 : Int32))).toNatClampNeg (0 : Int32)) fun g7 =>
some g7
def lL_wanted_133 (N : Nat) (g : z_R) : Nat → Int32 → Option Int32
  | 0, _ => none
  | fu + 1, x4 => (if 0 ≤ x4 then
z_ck (z_nz (g 0 ((0 : Int32)).toNatClampNeg)) <|
some ((x4 - x4 / (g 0 ((0 : Int32)).toNatClampNeg) * (g 0 ((0 : Int32)).toNatClampNeg)))
else
(lL_wanted_133 N g fu (x4 + (g 0 ((0 : Int32)).toNatClampNeg))))
def lL_wanted_61 (N : Nat) (x0 : Int32) (g : z_R) : Nat → Int32 → Int32 → Int32 → Option Int32
  | 0, _, _, _ => none
  | fu + 1, x4, x5, x6 => (if (6 : Int32) ≤ x6 then
(lL_wanted_133 N g N x4)
else
(if x5 = 0 then
z_ck (z_in (((9 : Int32) * x6) + (5 : Int32)) 54) <|
(if (g 1 ((((9 : Int32) * x6) + (5 : Int32))).toNatClampNeg) < 0 then
(lL_wanted_61 N x0 g fu x4 x5 (x6 + (1 : Int32)))
else
z_ck (z_in (((9 : Int32) * x6) + (2 : Int32)) 54) <|
(if (g 1 ((((9 : Int32) * x6) + (2 : Int32))).toNatClampNeg) = x0 then
z_ck (z_in (((9 : Int32) * x6) + (5 : Int32)) 54) <|
z_ck (z_in (((9 : Int32) * x6) + (1 : Int32)) 54) <|
(lL_wanted_61 N x0 g fu (((g 1 ((((9 : Int32) * x6) + (5 : Int32))).toNatClampNeg) + (1 : Int32)) + (g 1 ((((9 : Int32) * x6) + (1 : Int32))).toNatClampNeg)) (1 : Int32) (x6 + (1 : Int32)))
else
(lL_wanted_61 N x0 g fu x4 x5 (x6 + (1 : Int32)))))
else
(lL_wanted_61 N x0 g fu x4 x5 (x6 + (1 : Int32)))))
def jL_wanted_52 (N : Nat) (x0 : Int32) (g : z_R) : Option Int32 :=
(lL_wanted_61 N x0 g N (0 : Int32) (0 : Int32) (0 : Int32))
def fL_wanted (N : Nat) (p0 : Int32) (g : z_R) : Option Int32 :=
z_ck (z_in (((9 : Int32) * p0) + (2 : Int32)) 54) <|
(if (g 1 ((((9 : Int32) * p0) + (2 : Int32))).toNatClampNeg) < 0 then
(jL_wanted_52 N p0 g)
else
(if (6 : Int32) ≤ (g 1 ((((9 : Int32) * p0) + (2 : Int32))).toNatClampNeg) then
(jL_wanted_52 N p0 g)
else
z_ck (z_in (((9 : Int32) * (g 1 ((((9 : Int32) * p0) + (2 : Int32))).toNatClampNeg)) + (5 : Int32)) 54) <|
(if (g 1 ((((9 : Int32) * (g 1 ((((9 : Int32) * p0) + (2 : Int32))).toNatClampNeg)) + (5 : Int32))).toNatClampNeg) < 0 then
(jL_wanted_52 N p0 g)
else
z_ck (z_in (((9 : Int32) * (g 1 ((((9 : Int32) * p0) + (2 : Int32))).toNatClampNeg)) + (5 : Int32)) 54) <|
z_ck (z_in (((9 : Int32) * p0) + (1 : Int32)) 54) <|
(lL_wanted_61 N p0 g N (((g 1 ((((9 : Int32) * (g 1 ((((9 : Int32) * p0) + (2 : Int32))).toNatClampNeg)) + (5 : Int32))).toNatClampNeg) - (1 : Int32)) - (g 1 ((((9 : Int32) * p0) + (1 : Int32))).toNatClampNeg)) (0 : Int32) (0 : Int32)))))
def lL_lay_67 (N : Nat) (x2 : Int32) (x4 : Int32) (Y : z_V) (k : Int32 → Option (Int32 × z_R)) : Nat → Int32 → Int32 → Option (Int32 × z_R)
  | 0, _, _ => none
  | fu + 1, x5, x6 => (if (6 : Int32) ≤ x6 then
(k x5)
else
z_ck (z_in x6 6) <|
(if (Y.2 (x6).toNatClampNeg) = 0 then
(if x5 < 0 then
(lL_lay_67 N x2 x4 Y k fu x6 (x6 + (1 : Int32)))
else
z_ck (z_in (((9 : Int32) * x6) + (4 : Int32)) 54) <|
z_ck (z_in (((9 : Int32) * x5) + (4 : Int32)) 54) <|
(if (Y.1 1 ((((9 : Int32) * x6) + (4 : Int32))).toNatClampNeg) ≤ (Y.1 1 ((((9 : Int32) * x5) + (4 : Int32))).toNatClampNeg) then
(lL_lay_67 N x2 x4 Y k fu x5 (x6 + (1 : Int32)))
else
(lL_lay_67 N x2 x4 Y k fu x6 (x6 + (1 : Int32)))))
else
(lL_lay_67 N x2 x4 Y k fu x5 (x6 + (1 : Int32)))))
def lL_lay_134 (N : Nat) (x2 : Int32) (x4 : Int32) (x5 : Int32) (x6 : Int32) (Y : z_V) (k : Int32 → Option (Int32 × z_R)) : Nat → Int32 → Option (Int32 × z_R)
  | 0, _ => none
  | fu + 1, x7 => (if (Y.1 0 ((0 : Int32)).toNatClampNeg) ≤ x7 then
(k x7)
else
z_ck (z_nz (Y.1 0 ((0 : Int32)).toNatClampNeg)) <|
(fL_at N ((x6 + x7) - (x6 + x7) / (Y.1 0 ((0 : Int32)).toNatClampNeg) * (Y.1 0 ((0 : Int32)).toNatClampNeg)) (Y.1)).bind fun r16 =>
(if r16 < 0 then
(k x7)
else
(lL_lay_134 N x2 x4 x5 x6 Y k fu (x7 + (1 : Int32)))))
def jL_lay_164_54 (N : Nat) (bk : Int32 → Int32 → z_V → Option (Int32 × z_R)) (x2 : Int32) (x4 : Int32) (x5 : Int32) (x6 : Int32) (x7 : Int32) (Y : z_V) : Option (Int32 × z_R) :=
(if x7 = (Y.1 0 ((0 : Int32)).toNatClampNeg) then
(bk x2 (x4 + (1 : Int32)) Y)
else
z_ck (z_nz (Y.1 0 ((0 : Int32)).toNatClampNeg)) <|
z_ck (z_in (((9 : Int32) * x5) + (5 : Int32)) 54) <|
z_lt ((z_u2 Y.1 1 ((((9 : Int32) * x5) + (5 : Int32))).toNatClampNeg ((x6 + x7) - (x6 + x7) / (Y.1 0 ((0 : Int32)).toNatClampNeg) * (Y.1 0 ((0 : Int32)).toNatClampNeg)), Y.2)) fun Y21 =>
z_ck (z_in (((9 : Int32) * x5) + (6 : Int32)) 54) <|
z_lt ((z_u2 Y21.1 1 ((((9 : Int32) * x5) + (6 : Int32))).toNatClampNeg x7, Y21.2)) fun Y23 =>
z_ck (z_in (((9 : Int32) * x5) + (4 : Int32)) 54) <|
z_ck (z_in (((9 : Int32) * x5) + (7 : Int32)) 54) <|
z_lt ((z_u2 Y23.1 1 ((((9 : Int32) * x5) + (7 : Int32))).toNatClampNeg (Y23.1 1 ((((9 : Int32) * x5) + (4 : Int32))).toNatClampNeg), Y23.2)) fun Y26 =>
z_ck (z_in ((9 : Int32) * x5) 54) <|
z_ck (z_in ((3 : Int32) + (Y26.1 1 (((9 : Int32) * x5)).toNatClampNeg)) 12) <|
z_ck (z_in (((9 : Int32) * x5) + (4 : Int32)) 54) <|
z_ck (z_in ((3 : Int32) + (Y26.1 1 (((9 : Int32) * x5)).toNatClampNeg)) 12) <|
z_lt ((z_u2 Y26.1 0 (((3 : Int32) + (Y26.1 1 (((9 : Int32) * x5)).toNatClampNeg))).toNatClampNeg ((Y26.1 0 (((3 : Int32) + (Y26.1 1 (((9 : Int32) * x5)).toNatClampNeg))).toNatClampNeg) + (Y26.1 1 ((((9 : Int32) * x5) + (4 : Int32))).toNatClampNeg)), Y26.2)) fun Y31 =>
(bk (x2 + x7) (x4 + (1 : Int32)) Y31))
def lL_lay_54 (N : Nat) : Nat → Int32 → Int32 → z_V → Option (Int32 × z_R)
  | 0, _, _, _ => none
  | fu + 1, x2, x4, Y => (if (6 : Int32) ≤ x4 then
some (x2, Y.1)
else
(lL_lay_67 N x2 x4 Y (fun x5_67 => z_ck (z_in x5_67 6) <|
z_lt ((Y.1, upd Y.2 (x5_67).toNatClampNeg (1 : Int32))) fun Y12 =>
(fL_wanted N x5_67 (Y12.1)).bind fun r13 =>
(lL_lay_134 N x2 x4 x5_67 r13 Y12 (fun x7_134 => (jL_lay_164_54 N (lL_lay_54 N fu) x2 x4 x5_67 r13 x7_134 Y12)) N (0 : Int32))) N (-1 : Int32) (0 : Int32)))
def lL_lay_10 (N : Nat) (x2 : Int32) : Nat → Int32 → z_V → Option (Int32 × z_R)
  | 0, _, _ => none
  | fu + 1, x4, Y => (if (6 : Int32) ≤ x4 then
(lL_lay_54 N N x2 (0 : Int32) Y)
else
(fL_refund N x4 (Y.1)).bind fun u32 =>
z_lt ((u32, Y.2)) fun Y33 =>
z_ck (z_in (((9 : Int32) * x4) + (5 : Int32)) 54) <|
z_lt ((z_u2 Y33.1 1 ((((9 : Int32) * x4) + (5 : Int32))).toNatClampNeg (-1 : Int32), Y33.2)) fun Y35 =>
z_ck (z_in (((9 : Int32) * x4) + (6 : Int32)) 54) <|
z_lt ((z_u2 Y35.1 1 ((((9 : Int32) * x4) + (6 : Int32))).toNatClampNeg (-1 : Int32), Y35.2)) fun Y37 =>
(lL_lay_10 N x2 fu (x4 + (1 : Int32)) Y37))
def fL_lay (N : Nat) (g : z_R) : Option (Int32 × z_R) :=
z_lt ((g, fun _ => 0) : z_V) fun Y1 =>
(lL_lay_10 N (0 : Int32) N (0 : Int32) Y1)
def lL_run_93 (N : Nat) (x4 : Int32) (x5 : Int32) (x6 : Int32) (k : Int32 → z_R → Option (Int32 × z_R)) : Nat → Int32 → z_R → Option (Int32 × z_R)
  | 0, _, _ => none
  | fu + 1, x7, g => z_ck (z_nz (g 0 ((0 : Int32)).toNatClampNeg)) <|
z_ck (z_in (((9 : Int32) * x4) + (5 : Int32)) 54) <|
(if ((g 0 ((1 : Int32)).toNatClampNeg) - (g 0 ((1 : Int32)).toNatClampNeg) / (g 0 ((0 : Int32)).toNatClampNeg) * (g 0 ((0 : Int32)).toNatClampNeg)) = (g 1 ((((9 : Int32) * x4) + (5 : Int32))).toNatClampNeg) then
(k x7 g)
else
z_lt (z_u2 g 0 ((1 : Int32)).toNatClampNeg ((g 0 ((1 : Int32)).toNatClampNeg) + (1 : Int32))) fun g13 =>
(lL_run_93 N x4 x5 x6 k fu (x7 + (1 : Int32)) g13))
def jL_run_154_9 (N : Nat) (bk : Int32 → Int32 → Int32 → z_R → Option (Int32 × z_R)) (x4 : Int32) (x5 : Int32) (x6 : Int32) (g : z_R) : Option (Int32 × z_R) :=
(if x5 < 0 then
z_ck (z_in (((9 : Int32) * x4) + (7 : Int32)) 54) <|
z_ck (z_in (((9 : Int32) * x4) + (7 : Int32)) 54) <|
z_lt (z_u2 g 1 ((((9 : Int32) * x4) + (7 : Int32))).toNatClampNeg (g 1 ((((9 : Int32) * x4) + (7 : Int32))).toNatClampNeg)) fun g21 =>
z_ck (z_in (((9 : Int32) * x4) + (1 : Int32)) 54) <|
z_lt (z_u2 g21 0 ((1 : Int32)).toNatClampNeg ((g21 0 ((1 : Int32)).toNatClampNeg) + ((1 : Int32) + (g21 1 ((((9 : Int32) * x4) + (1 : Int32))).toNatClampNeg)))) fun g23 =>
z_lt (z_u2 g23 0 ((2 : Int32)).toNatClampNeg (0 : Int32)) fun g24 =>
z_ck (z_in (((9 : Int32) * x4) + (2 : Int32)) 54) <|
(if 0 ≤ (g24 1 ((((9 : Int32) * x4) + (2 : Int32))).toNatClampNeg) then
z_ck (z_in (((8 : Int32) * x4) + (g24 1 ((((9 : Int32) * x4) + (2 : Int32))).toNatClampNeg)) 64) <|
(if (g24 2 ((((8 : Int32) * x4) + (g24 1 ((((9 : Int32) * x4) + (2 : Int32))).toNatClampNeg))).toNatClampNeg) = 0 then
z_lt (z_u2 g24 0 ((11 : Int32)).toNatClampNeg ((g24 0 ((11 : Int32)).toNatClampNeg) + (1 : Int32))) fun g33 =>
z_ck (z_in (((8 : Int32) * x4) + (g24 1 ((((9 : Int32) * x4) + (2 : Int32))).toNatClampNeg)) 64) <|
z_ck (z_in (((8 : Int32) * x4) + (g24 1 ((((9 : Int32) * x4) + (2 : Int32))).toNatClampNeg)) 64) <|
z_lt (z_u2 g33 2 ((((8 : Int32) * x4) + (g24 1 ((((9 : Int32) * x4) + (2 : Int32))).toNatClampNeg))).toNatClampNeg ((g33 2 ((((8 : Int32) * x4) + (g24 1 ((((9 : Int32) * x4) + (2 : Int32))).toNatClampNeg))).toNatClampNeg) + (1 : Int32))) fun g36 =>
(bk (g24 1 ((((9 : Int32) * x4) + (2 : Int32))).toNatClampNeg) x4 (x6 + (1 : Int32)) g36)
else
z_lt (z_u2 g24 0 ((11 : Int32)).toNatClampNeg ((g24 0 ((11 : Int32)).toNatClampNeg) + (0 : Int32))) fun g29 =>
z_ck (z_in (((8 : Int32) * x4) + (g24 1 ((((9 : Int32) * x4) + (2 : Int32))).toNatClampNeg)) 64) <|
z_ck (z_in (((8 : Int32) * x4) + (g24 1 ((((9 : Int32) * x4) + (2 : Int32))).toNatClampNeg)) 64) <|
z_lt (z_u2 g29 2 ((((8 : Int32) * x4) + (g24 1 ((((9 : Int32) * x4) + (2 : Int32))).toNatClampNeg))).toNatClampNeg ((g29 2 ((((8 : Int32) * x4) + (g24 1 ((((9 : Int32) * x4) + (2 : Int32))).toNatClampNeg))).toNatClampNeg) + (1 : Int32))) fun g32 =>
(bk (g24 1 ((((9 : Int32) * x4) + (2 : Int32))).toNatClampNeg) x4 (x6 + (1 : Int32)) g32))
else
some ((0 : Int32), g24))
else
z_ck (z_in (((9 : Int32) * x4) + (7 : Int32)) 54) <|
z_lt (z_u2 g 1 ((((9 : Int32) * x4) + (7 : Int32))).toNatClampNeg (0 : Int32)) fun g38 =>
z_ck (z_in (((9 : Int32) * x4) + (1 : Int32)) 54) <|
z_lt (z_u2 g38 0 ((1 : Int32)).toNatClampNeg ((g38 0 ((1 : Int32)).toNatClampNeg) + ((1 : Int32) + (g38 1 ((((9 : Int32) * x4) + (1 : Int32))).toNatClampNeg)))) fun g40 =>
z_lt (z_u2 g40 0 ((2 : Int32)).toNatClampNeg (0 : Int32)) fun g41 =>
z_ck (z_in (((9 : Int32) * x4) + (2 : Int32)) 54) <|
(if 0 ≤ (g41 1 ((((9 : Int32) * x4) + (2 : Int32))).toNatClampNeg) then
z_ck (z_in (((8 : Int32) * x4) + (g41 1 ((((9 : Int32) * x4) + (2 : Int32))).toNatClampNeg)) 64) <|
(if (g41 2 ((((8 : Int32) * x4) + (g41 1 ((((9 : Int32) * x4) + (2 : Int32))).toNatClampNeg))).toNatClampNeg) = 0 then
z_lt (z_u2 g41 0 ((11 : Int32)).toNatClampNeg ((g41 0 ((11 : Int32)).toNatClampNeg) + (1 : Int32))) fun g50 =>
z_ck (z_in (((8 : Int32) * x4) + (g41 1 ((((9 : Int32) * x4) + (2 : Int32))).toNatClampNeg)) 64) <|
z_ck (z_in (((8 : Int32) * x4) + (g41 1 ((((9 : Int32) * x4) + (2 : Int32))).toNatClampNeg)) 64) <|
z_lt (z_u2 g50 2 ((((8 : Int32) * x4) + (g41 1 ((((9 : Int32) * x4) + (2 : Int32))).toNatClampNeg))).toNatClampNeg ((g50 2 ((((8 : Int32) * x4) + (g41 1 ((((9 : Int32) * x4) + (2 : Int32))).toNatClampNeg))).toNatClampNeg) + (1 : Int32))) fun g53 =>
(bk (g41 1 ((((9 : Int32) * x4) + (2 : Int32))).toNatClampNeg) x4 (x6 + (1 : Int32)) g53)
else
z_lt (z_u2 g41 0 ((11 : Int32)).toNatClampNeg ((g41 0 ((11 : Int32)).toNatClampNeg) + (0 : Int32))) fun g46 =>
z_ck (z_in (((8 : Int32) * x4) + (g41 1 ((((9 : Int32) * x4) + (2 : Int32))).toNatClampNeg)) 64) <|
z_ck (z_in (((8 : Int32) * x4) + (g41 1 ((((9 : Int32) * x4) + (2 : Int32))).toNatClampNeg)) 64) <|
z_lt (z_u2 g46 2 ((((8 : Int32) * x4) + (g41 1 ((((9 : Int32) * x4) + (2 : Int32))).toNatClampNeg))).toNatClampNeg ((g46 2 ((((8 : Int32) * x4) + (g41 1 ((((9 : Int32) * x4) + (2 : Int32))).toNatClampNeg))).toNatClampNeg) + (1 : Int32))) fun g49 =>
(bk (g41 1 ((((9 : Int32) * x4) + (2 : Int32))).toNatClampNeg) x4 (x6 + (1 : Int32)) g49))
else
some ((0 : Int32), g41)))
def jL_run_77_9 (N : Nat) (bk : Int32 → Int32 → Int32 → z_R → Option (Int32 × z_R)) (x4 : Int32) (x5 : Int32) (x6 : Int32) (g : z_R) : Option (Int32 × z_R) :=
z_lt (z_u2 g 0 ((2 : Int32)).toNatClampNeg (2 : Int32)) fun g8 =>
(if x6 = (99 : Int32) then
some ((2 : Int32), g8)
else
(lL_run_93 N x4 x5 x6 (fun x7_93 g93_14 => z_ck (z_in (((9 : Int32) * x4) + (8 : Int32)) 54) <|
z_lt (z_u2 g93_14 1 ((((9 : Int32) * x4) + (8 : Int32))).toNatClampNeg x7_93) fun g16 =>
(if x5 < 0 then
(jL_run_154_9 N bk x4 x5 x6 g16)
else
(if x7_93 ≤ 0 then
(jL_run_154_9 N bk x4 x5 x6 g16)
else
(fL_refund N x4 (g16)).bind fun u55 =>
(jL_run_154_9 N bk x4 x5 x6 u55)))) N (0 : Int32) g8))
def lL_run_9 (N : Nat) : Nat → Int32 → Int32 → Int32 → z_R → Option (Int32 × z_R)
  | 0, _, _, _, _ => none
  | fu + 1, x4, x5, x6, g => (if (100 : Int32) ≤ x6 then
some ((-1 : Int32), g)
else
z_lt (z_u2 g 0 ((2 : Int32)).toNatClampNeg (3 : Int32)) fun g2 =>
(if (5 : Int32) < x4 then
some ((3 : Int32), g2)
else
z_ck (z_in (((9 : Int32) * x4) + (5 : Int32)) 54) <|
(if 0 ≤ (g2 1 ((((9 : Int32) * x4) + (5 : Int32))).toNatClampNeg) then
z_lt (z_u2 g2 0 ((2 : Int32)).toNatClampNeg (1 : Int32)) fun g6 =>
(if x5 < 0 then
(jL_run_77_9 N (lL_run_9 N fu) x4 x5 x6 g6)
else
z_ck (z_in (((9 : Int32) * x4) + (3 : Int32)) 54) <|
(if (g6 1 ((((9 : Int32) * x4) + (3 : Int32))).toNatClampNeg) < 0 then
(jL_run_77_9 N (lL_run_9 N fu) x4 x5 x6 g6)
else
z_ck (z_in (((9 : Int32) * x4) + (3 : Int32)) 54) <|
(if (g6 1 ((((9 : Int32) * x4) + (3 : Int32))).toNatClampNeg) = x5 then
(jL_run_77_9 N (lL_run_9 N fu) x4 x5 x6 g6)
else
some ((1 : Int32), g6))))
else
some ((3 : Int32), g2))))
def fL_run (N : Nat) (p0 : Int32) (g : z_R) : Option (Int32 × z_R) :=
(lL_run_9 N N p0 (-1 : Int32) (0 : Int32) g)
def fL_move (N : Nat) (p1 : Int32) (p2 : Int32) (X : z_X) : Option (Int32 × z_X) :=
z_b2 (fX4_move N p1 p2 X) fun o1 X1 =>
(z_sm o1 (fun r1 =>
some (r1, X1)) (fun k =>
(if k = 3 then
some ((-1 : Int32), X1)
else
(if k = 2 then
some ((-2 : Int32), X1)
else
none))))
def lL_same_252 (N : Nat) (x4 : Int32) (x5 : Int32) (x6 : Int32) (x7 : Int32) (Y : z_N) : Nat → Int32 → Option Int32
  | 0, _ => none
  | fu + 1, x8 => (if (Y.2 0 ((11 : Int32)).toNatClampNeg) ≤ x8 then
(nX4_about N (0 : Int32) Y.1).bind fun r4 =>
(if r4 = (Y.2 0 ((0 : Int32)).toNatClampNeg) then
(nX4_about N (2 : Int32) Y.1).bind fun r6 =>
(if r6 = (Y.2 0 ((1 : Int32)).toNatClampNeg) then
(nX4_about N (3 : Int32) Y.1).bind fun r8 =>
z_ck (z_nz (Y.2 0 ((0 : Int32)).toNatClampNeg)) <|
(if r8 = ((Y.2 0 ((1 : Int32)).toNatClampNeg) - (Y.2 0 ((1 : Int32)).toNatClampNeg) / (Y.2 0 ((0 : Int32)).toNatClampNeg) * (Y.2 0 ((0 : Int32)).toNatClampNeg)) then
(nX4_about N (4 : Int32) Y.1).bind fun r11 =>
(if r11 = x7 then
(nX4_about N (5 : Int32) Y.1).bind fun r13 =>
(if r13 = x4 then
(nX4_about N (6 : Int32) Y.1).bind fun r15 =>
(if r15 = x5 then
(nX4_about N (7 : Int32) Y.1).bind fun r17 =>
(if r17 = x6 then
(nX4_about N (8 : Int32) Y.1).bind fun r19 =>
(if r19 = (Y.2 0 ((11 : Int32)).toNatClampNeg) then
(nX4_about N (9 : Int32) Y.1).bind fun r21 =>
(if r21 = (Y.2 0 ((2 : Int32)).toNatClampNeg) then
(nX4_jump N (Y.2 0 ((11 : Int32)).toNatClampNeg) (0 : Int32) Y.1).bind fun r23 =>
(if r23 = (-1 : Int32) then
some ((1 : Int32))
else
some ((0 : Int32)))
else
some ((0 : Int32)))
else
some ((0 : Int32)))
else
some ((0 : Int32)))
else
some ((0 : Int32)))
else
some ((0 : Int32)))
else
some ((0 : Int32)))
else
some ((0 : Int32)))
else
some ((0 : Int32)))
else
some ((0 : Int32)))
else
(nX4_jump N x8 (2 : Int32) Y.1).bind fun r25 =>
(nX4_jump N x8 (0 : Int32) Y.1).bind fun r26 =>
(nX4_jump N x8 (1 : Int32) Y.1).bind fun r27 =>
z_ck (z_in (((8 : Int32) * r26) + r27) 64) <|
(if r25 = (Y.2 2 ((((8 : Int32) * r26) + r27)).toNatClampNeg) then
(nX4_jump N x8 (2 : Int32) Y.1).bind fun r30 =>
(if (1 : Int32) ≤ r30 then
(lL_same_252 N x4 x5 x6 x7 Y fu (x8 + (1 : Int32)))
else
some ((0 : Int32)))
else
some ((0 : Int32))))
def lL_same_179 (N : Nat) (x6 : Int32) (x7 : Int32) (Y : z_N) : Nat → Int32 → Int32 → Int32 → Option Int32
  | 0, _, _, _ => none
  | fu + 1, x4, x5, x8 => (if (4 : Int32) ≤ x8 then
(lL_same_252 N x4 x5 x6 x7 Y N (0 : Int32))
else
(nX4_author N x8 (1 : Int32) Y.1).bind fun r32 =>
z_ck (z_in ((3 : Int32) + x8) 12) <|
(if r32 = (Y.2 0 (((3 : Int32) + x8)).toNatClampNeg) then
(nX4_author N x8 (2 : Int32) Y.1).bind fun r35 =>
z_ck (z_in ((7 : Int32) + x8) 12) <|
(if r35 = (Y.2 0 (((7 : Int32) + x8)).toNatClampNeg) then
z_ck (z_in ((3 : Int32) + x8) 12) <|
z_ck (z_in ((7 : Int32) + x8) 12) <|
(lL_same_179 N x6 x7 Y fu (x4 + (Y.2 0 (((3 : Int32) + x8)).toNatClampNeg)) (x5 + (Y.2 0 (((7 : Int32) + x8)).toNatClampNeg)) (x8 + (1 : Int32)))
else
some ((0 : Int32)))
else
some ((0 : Int32))))
def lL_same_32 (N : Nat) (x4 : Int32) (x5 : Int32) (x6 : Int32) (x7 : Int32) (x8 : Int32) (x9 : Int32) (Y : z_N) (k : Unit → Option Int32) : Nat → Int32 → Option Int32
  | 0, _ => none
  | fu + 1, x10 => (if (8 : Int32) < x10 then
(k ())
else
(nX4_order N x8 x10 Y.1).bind fun r41 =>
z_ck (z_in (x9 + x10) 54) <|
(if r41 = (Y.2 1 ((x9 + x10)).toNatClampNeg) then
(lL_same_32 N x4 x5 x6 x7 x8 x9 Y k fu (x10 + (1 : Int32)))
else
some ((0 : Int32))))
def jL_same_139_15 (N : Nat) (bk : Int32 → Int32 → Int32 → Option Int32) (x4 : Int32) (x5 : Int32) (x6 : Int32) (x7 : Int32) (x8 : Int32) (x9 : Int32) (Y : z_N) : Option Int32 :=
z_ck (z_in (x9 + (7 : Int32)) 54) <|
z_ck (z_in (x9 + (5 : Int32)) 54) <|
(if (Y.2 1 ((x9 + (5 : Int32))).toNatClampNeg) < 0 then
(bk (x6 + (Y.2 1 ((x9 + (7 : Int32))).toNatClampNeg)) (x7 + (0 : Int32)) (x8 + (1 : Int32)))
else
(bk (x6 + (Y.2 1 ((x9 + (7 : Int32))).toNatClampNeg)) (x7 + (1 : Int32)) (x8 + (1 : Int32))))
def lL_same_15 (N : Nat) (x4 : Int32) (x5 : Int32) (Y : z_N) : Nat → Int32 → Int32 → Int32 → Option Int32
  | 0, _, _, _ => none
  | fu + 1, x6, x7, x8 => (if (6 : Int32) ≤ x8 then
(lL_same_179 N x6 x7 Y N x4 x5 (0 : Int32))
else
(lL_same_32 N x4 x5 x6 x7 x8 ((9 : Int32) * x8) Y (fun _ : Unit => z_ck (z_in (((9 : Int32) * x8) + (5 : Int32)) 54) <|
(if 0 ≤ (Y.2 1 ((((9 : Int32) * x8) + (5 : Int32))).toNatClampNeg) then
z_ck (z_in (((9 : Int32) * x8) + (5 : Int32)) 54) <|
z_ck (z_nz (Y.2 0 ((0 : Int32)).toNatClampNeg)) <|
z_ck (z_nz (Y.2 0 ((0 : Int32)).toNatClampNeg)) <|
(nX4_waits N x8 Y.1).bind fun r49 =>
(if r49 = ((((Y.2 1 ((((9 : Int32) * x8) + (5 : Int32))).toNatClampNeg) - ((Y.2 0 ((1 : Int32)).toNatClampNeg) - (Y.2 0 ((1 : Int32)).toNatClampNeg) / (Y.2 0 ((0 : Int32)).toNatClampNeg) * (Y.2 0 ((0 : Int32)).toNatClampNeg))) + (Y.2 0 ((0 : Int32)).toNatClampNeg)) - (((Y.2 1 ((((9 : Int32) * x8) + (5 : Int32))).toNatClampNeg) - ((Y.2 0 ((1 : Int32)).toNatClampNeg) - (Y.2 0 ((1 : Int32)).toNatClampNeg) / (Y.2 0 ((0 : Int32)).toNatClampNeg) * (Y.2 0 ((0 : Int32)).toNatClampNeg))) + (Y.2 0 ((0 : Int32)).toNatClampNeg)) / (Y.2 0 ((0 : Int32)).toNatClampNeg) * (Y.2 0 ((0 : Int32)).toNatClampNeg)) then
z_ck (z_in (((9 : Int32) * x8) + (5 : Int32)) 54) <|
(if (Y.2 1 ((((9 : Int32) * x8) + (5 : Int32))).toNatClampNeg) < 0 then
(jL_same_139_15 N (lL_same_15 N x4 x5 Y fu) x4 x5 x6 x7 x8 ((9 : Int32) * x8) Y)
else
z_ck (z_in (((9 : Int32) * x8) + (5 : Int32)) 54) <|
(nX4_at N (Y.2 1 ((((9 : Int32) * x8) + (5 : Int32))).toNatClampNeg) Y.1).bind fun r57 =>
(if r57 = x8 then
(jL_same_139_15 N (lL_same_15 N x4 x5 Y fu) x4 x5 x6 x7 x8 ((9 : Int32) * x8) Y)
else
some ((0 : Int32))))
else
some ((0 : Int32)))
else
(nX4_waits N x8 Y.1).bind fun r59 =>
(if r59 = (-1 : Int32) then
z_ck (z_in (((9 : Int32) * x8) + (5 : Int32)) 54) <|
(if (Y.2 1 ((((9 : Int32) * x8) + (5 : Int32))).toNatClampNeg) < 0 then
(jL_same_139_15 N (lL_same_15 N x4 x5 Y fu) x4 x5 x6 x7 x8 ((9 : Int32) * x8) Y)
else
z_ck (z_in (((9 : Int32) * x8) + (5 : Int32)) 54) <|
(nX4_at N (Y.2 1 ((((9 : Int32) * x8) + (5 : Int32))).toNatClampNeg) Y.1).bind fun r64 =>
(if r64 = x8 then
(jL_same_139_15 N (lL_same_15 N x4 x5 Y fu) x4 x5 x6 x7 x8 ((9 : Int32) * x8) Y)
else
some ((0 : Int32))))
else
some ((0 : Int32))))) N (0 : Int32)))
def fL_same (N : Nat) (Y : z_N) : Option Int32 :=
(lL_same_15 N (0 : Int32) (0 : Int32) Y N (0 : Int32) (0 : Int32) (0 : Int32))
def lL_would_255 (N : Nat) (x1 : Int32) : Nat → Int32 → Int32 → z_O → Option (Int32 × z_O)
  | 0, _, _, _ => none
  | fu + 1, x12, x13, Y => (if x13 < 0 then
z_b2 (nX4_leastBribe N x1 Y.1) fun r28 u28 =>
z_lt ((u28, Y.2)) fun Y29 =>
(if r28 = x12 then
some ((1 : Int32), Y29)
else
some ((0 : Int32), Y29))
else
(fL_copy N 12 (Y.2.1 0) (Y.2.2 0)).bind fun u31 =>
z_lt ((Y.1, Y.2.1, z_uR Y.2.2 0 u31)) fun Y32 =>
(fL_copy N 54 (Y32.2.1 1) (Y32.2.2 1)).bind fun u33 =>
z_lt ((Y32.1, Y32.2.1, z_uR Y32.2.2 1 u33)) fun Y34 =>
z_ck (z_in (((9 : Int32) * x1) + (4 : Int32)) 54) <|
z_lt ((Y34.1, Y34.2.1, z_u2 Y34.2.2 1 ((((9 : Int32) * x1) + (4 : Int32))).toNatClampNeg x13)) fun Y36 =>
z_b2 (fL_lay N  (Y36.2.2)) fun r37 u37 =>
z_lt ((Y36.1, Y36.2.1, u37)) fun Y38 =>
z_ck (z_in (((9 : Int32) * x1) + (6 : Int32)) 54) <|
(if (Y38.2.2 1 ((((9 : Int32) * x1) + (6 : Int32))).toNatClampNeg) = 0 then
(lL_would_255 N x1 fu x13 (x13 + (-1 : Int32)) Y38)
else
(lL_would_255 N x1 fu x12 (x13 + (-1 : Int32)) Y38)))
def jL_would_204_115 (N : Nat) (bk : Int32 → Int32 → Int32 → z_O → Option (Int32 × z_O)) (x1 : Int32) (x2 : Int32) (x11 : Int32) (x12 : Int32) (x13 : Int32) (Y : z_O) : Option (Int32 × z_O) :=
(if x12 = x12 then
(bk x12 x13 (x12 + (1 : Int32)) Y)
else
(bk x12 x11 (x12 + (1 : Int32)) Y))
def jL_would_147_115 (N : Nat) (bk : Int32 → Int32 → Int32 → z_O → Option (Int32 × z_O)) (x1 : Int32) (x2 : Int32) (x10 : Int32) (x11 : Int32) (x12 : Int32) (Y : z_O) : Option (Int32 × z_O) :=
(fL_copy N 12 (Y.2.1 0) (Y.2.2 0)).bind fun u43 =>
z_lt ((Y.1, Y.2.1, z_uR Y.2.2 0 u43)) fun Y44 =>
(fL_copy N 54 (Y44.2.1 1) (Y44.2.2 1)).bind fun u45 =>
z_lt ((Y44.1, Y44.2.1, z_uR Y44.2.2 1 u45)) fun Y46 =>
z_ck (z_in (((9 : Int32) * x1) + (5 : Int32)) 54) <|
z_lt ((Y46.1, Y46.2.1, z_u2 Y46.2.2 1 ((((9 : Int32) * x1) + (5 : Int32))).toNatClampNeg x12)) fun Y48 =>
z_b2 (fL_run N x2 (Y48.2.2)) fun r49 u49 =>
z_lt ((Y48.1, Y48.2.1, u49)) fun Y50 =>
(if x10 < 0 then
(jL_would_204_115 N bk x1 x2 x11 x12 ((Y50.2.2 0 ((1 : Int32)).toNatClampNeg) - (Y50.2.1 0 ((1 : Int32)).toNatClampNeg)) Y50)
else
(if x11 ≤ ((Y50.2.2 0 ((1 : Int32)).toNatClampNeg) - (Y50.2.1 0 ((1 : Int32)).toNatClampNeg)) then
(if x10 = x12 then
(bk x10 ((Y50.2.2 0 ((1 : Int32)).toNatClampNeg) - (Y50.2.1 0 ((1 : Int32)).toNatClampNeg)) (x12 + (1 : Int32)) Y50)
else
(bk x10 x11 (x12 + (1 : Int32)) Y50))
else
(jL_would_204_115 N bk x1 x2 x11 x12 ((Y50.2.2 0 ((1 : Int32)).toNatClampNeg) - (Y50.2.1 0 ((1 : Int32)).toNatClampNeg)) Y50)))
def lL_would_115 (N : Nat) (x1 : Int32) (x2 : Int32) : Nat → Int32 → Int32 → Int32 → z_O → Option (Int32 × z_O)
  | 0, _, _, _, _ => none
  | fu + 1, x10, x11, x12, Y => (if (Y.2.1 0 ((0 : Int32)).toNatClampNeg) ≤ x12 then
z_b2 (nX4_bestPlace N x1 x2 Y.1) fun r24 u24 =>
z_lt ((u24, Y.2)) fun Y25 =>
(if r24 = x10 then
(lL_would_255 N x1 300 (-1 : Int32) (99 : Int32) Y25)
else
some ((0 : Int32), Y25))
else
(fL_at N x12 (Y.2.1)).bind fun r41 =>
(if r41 < 0 then
(jL_would_147_115 N (lL_would_115 N x1 x2 fu) x1 x2 x10 x11 x12 Y)
else
(fL_at N x12 (Y.2.1)).bind fun r55 =>
(if r55 = x1 then
(jL_would_147_115 N (lL_would_115 N x1 x2 fu) x1 x2 x10 x11 x12 Y)
else
(lL_would_115 N x1 x2 fu x10 x11 (x12 + (1 : Int32)) Y))))
def fL_would (N : Nat) (p1 : Int32) (p2 : Int32) (Y : z_O) : Option (Int32 × z_O) :=
(fL_copy N 12 (Y.2.1 0) (Y.2.2 0)).bind fun u1 =>
z_lt ((Y.1, Y.2.1, z_uR Y.2.2 0 u1)) fun Y2 =>
(fL_copy N 54 (Y2.2.1 1) (Y2.2.2 1)).bind fun u3 =>
z_lt ((Y2.1, Y2.2.1, z_uR Y2.2.2 1 u3)) fun Y4 =>
(fL_copy N 64 (Y4.2.1 2) (Y4.2.2 2)).bind fun u5 =>
z_lt ((Y4.1, Y4.2.1, z_uR Y4.2.2 2 u5)) fun Y6 =>
z_b2 (fL_run N p2 (Y6.2.2)) fun r7 u7 =>
z_lt ((Y6.1, Y6.2.1, u7)) fun Y8 =>
z_b2 (nX4_time N p2 Y8.1) fun r9 u9 =>
z_lt ((u9, Y8.2)) fun Y10 =>
(if r9 = ((Y8.2.2 0 ((1 : Int32)).toNatClampNeg) - (Y8.2.1 0 ((1 : Int32)).toNatClampNeg)) then
(fL_copy N 12 (Y10.2.1 0) (Y10.2.2 0)).bind fun u12 =>
z_lt ((Y10.1, Y10.2.1, z_uR Y10.2.2 0 u12)) fun Y13 =>
(fL_copy N 54 (Y13.2.1 1) (Y13.2.2 1)).bind fun u14 =>
z_lt ((Y13.1, Y13.2.1, z_uR Y13.2.2 1 u14)) fun Y15 =>
z_b2 (fL_lay N  (Y15.2.2)) fun r16 u16 =>
z_lt ((Y15.1, Y15.2.1, u16)) fun Y17 =>
z_b2 (fL_run N p2 (Y17.2.2)) fun r18 u18 =>
z_lt ((Y17.1, Y17.2.1, u18)) fun Y19 =>
z_b2 (nX4_saves N p2 Y19.1) fun r20 u20 =>
z_lt ((u20, Y19.2)) fun Y21 =>
(if r20 = (((Y8.2.2 0 ((1 : Int32)).toNatClampNeg) - (Y8.2.1 0 ((1 : Int32)).toNatClampNeg)) - ((Y21.2.2 0 ((1 : Int32)).toNatClampNeg) - (Y21.2.1 0 ((1 : Int32)).toNatClampNeg))) then
(lL_would_115 N p1 p2 N (-1 : Int32) (0 : Int32) (0 : Int32) Y21)
else
some ((0 : Int32), Y21))
else
some ((0 : Int32), Y10))
def jL_law_676_299 (N : Nat) (L : Nat) (xs : Nat → Int32) (bk : Int32 → z_O → Option Int32) (x8 : Int32) (x9 : Int32) (x11 : Int32) (Y : z_O) : Option Int32 :=
(fL_same N (Y.1, Y.2.1)).bind fun r19 =>
(if r19 = 0 then
some (0 : Int32)
else
(fL_low N (x9 >>> ((16 : Int32) &&& 31)) (6 : Int32)).bind fun r21 =>
z_b2 (fL_would N x11 r21 Y) fun r22 u22 =>
(if r22 = 0 then
some (0 : Int32)
else
(bk (x8 + (1 : Int32)) u22)))
def jL_law_355_299 (N : Nat) (L : Nat) (xs : Nat → Int32) (bk : Int32 → z_O → Option Int32) (x8 : Int32) (x9 : Int32) (x11 : Int32) (Y : z_O) : Option Int32 :=
z_b2 (fX4_lay N  Y.1) fun r14 u14 =>
z_lt ((u14, Y.2)) fun Y15 =>
z_b2 (fL_lay N  (Y15.2.1)) fun r16 u16 =>
z_lt ((Y15.1, u16, Y15.2.2)) fun Y17 =>
(if r14 = r16 then
(jL_law_676_299 N L xs bk x8 x9 x11 Y17)
else
some (0 : Int32))
def jL_law_510_299 (N : Nat) (L : Nat) (xs : Nat → Int32) (bk : Int32 → z_O → Option Int32) (x8 : Int32) (x9 : Int32) (x11 : Int32) (Y : z_O) : Option Int32 :=
(jL_law_676_299 N L xs bk x8 x9 x11 Y)
def jL_law_487_299 (N : Nat) (L : Nat) (xs : Nat → Int32) (bk : Int32 → z_O → Option Int32) (x8 : Int32) (x9 : Int32) (x11 : Int32) (x12 : Int32) (x13 : Int32) (Y : z_O) : Option Int32 :=
(fL_refund N x11 (Y.2.1)).bind fun u74 =>
z_lt ((Y.1, u74, Y.2.2)) fun Y75 =>
z_ck (z_in (x12 + (5 : Int32)) 54) <|
z_lt ((Y75.1, z_u2 Y75.2.1 1 ((x12 + (5 : Int32))).toNatClampNeg x13, Y75.2.2)) fun Y77 =>
z_ck (z_in (x12 + (6 : Int32)) 54) <|
z_lt ((Y77.1, z_u2 Y77.2.1 1 ((x12 + (6 : Int32))).toNatClampNeg (-1 : Int32), Y77.2.2)) fun Y79 =>
(jL_law_510_299 N L xs bk x8 x9 x11 Y79)
def lL_law_299 (N : Nat) (L : Nat) (xs : Nat → Int32) : Nat → Int32 → z_O → Option Int32
  | 0, _, _ => none
  | fu + 1, x8, Y => (if (9 : Int32) ≤ x8 then
some (1 : Int32)
else
(fL_cell N L xs ((7 : Int32) + x8)).bind fun r10 =>
(fL_low N r10 (8 : Int32)).bind fun r11 =>
(fL_low N (r10 >>> ((3 : Int32) &&& 31)) (6 : Int32)).bind fun r12 =>
(if r11 < (2 : Int32) then
(jL_law_355_299 N L xs (lL_law_299 N L xs fu) x8 r10 r12 Y)
else
(if x8 = 0 then
(jL_law_355_299 N L xs (lL_law_299 N L xs fu) x8 r10 r12 Y)
else
(if (5 : Int32) ≤ r11 then
(if r11 = (5 : Int32) then
(fL_low N (r10 >>> ((6 : Int32) &&& 31)) (Y.2.1 0 ((0 : Int32)).toNatClampNeg)).bind fun r66 =>
(fL_at N r66 (Y.2.1)).bind fun r67 =>
z_ck (z_in (((9 : Int32) * r12) + (7 : Int32)) 54) <|
z_b2 (fL_move N r12 r66 Y.1) fun r69 u69 =>
z_lt ((u69, Y.2)) fun Y70 =>
(if r67 < 0 then
(if r69 = (Y.2.1 1 ((((9 : Int32) * r12) + (7 : Int32))).toNatClampNeg) then
(if r67 < 0 then
(jL_law_487_299 N L xs (lL_law_299 N L xs fu) x8 r10 r12 ((9 : Int32) * r12) r66 Y70)
else
(if r67 = r12 then
(jL_law_487_299 N L xs (lL_law_299 N L xs fu) x8 r10 r12 ((9 : Int32) * r12) r66 Y70)
else
(jL_law_510_299 N L xs (lL_law_299 N L xs fu) x8 r10 r12 Y70)))
else
some (0 : Int32))
else
(if r67 = r12 then
(if r69 = (Y.2.1 1 ((((9 : Int32) * r12) + (7 : Int32))).toNatClampNeg) then
(if r67 < 0 then
(jL_law_487_299 N L xs (lL_law_299 N L xs fu) x8 r10 r12 ((9 : Int32) * r12) r66 Y70)
else
(if r67 = r12 then
(jL_law_487_299 N L xs (lL_law_299 N L xs fu) x8 r10 r12 ((9 : Int32) * r12) r66 Y70)
else
(jL_law_510_299 N L xs (lL_law_299 N L xs fu) x8 r10 r12 Y70)))
else
some (0 : Int32))
else
(if r69 = (-2 : Int32) then
(if r67 < 0 then
(jL_law_487_299 N L xs (lL_law_299 N L xs fu) x8 r10 r12 ((9 : Int32) * r12) r66 Y70)
else
(if r67 = r12 then
(jL_law_487_299 N L xs (lL_law_299 N L xs fu) x8 r10 r12 ((9 : Int32) * r12) r66 Y70)
else
(jL_law_510_299 N L xs (lL_law_299 N L xs fu) x8 r10 r12 Y70)))
else
some (0 : Int32))))
else
(if r11 = (6 : Int32) then
(fL_low N (r10 >>> ((6 : Int32) &&& 31)) (99 : Int32)).bind fun r60 =>
z_lt ((Y.1, z_u2 Y.2.1 0 ((1 : Int32)).toNatClampNeg ((Y.2.1 0 ((1 : Int32)).toNatClampNeg) + ((1 : Int32) + r60)), Y.2.2)) fun Y61 =>
z_b2 (nX4_turn N ((1 : Int32) + r60) Y61.1) fun r62 u62 =>
z_lt ((u62, Y61.2)) fun Y63 =>
z_ck (z_nz (Y63.2.1 0 ((0 : Int32)).toNatClampNeg)) <|
(if r62 = ((Y63.2.1 0 ((1 : Int32)).toNatClampNeg) - (Y63.2.1 0 ((1 : Int32)).toNatClampNeg) / (Y63.2.1 0 ((0 : Int32)).toNatClampNeg) * (Y63.2.1 0 ((0 : Int32)).toNatClampNeg)) then
(jL_law_676_299 N L xs (lL_law_299 N L xs fu) x8 r10 r12 Y63)
else
some (0 : Int32))
else
(fL_low N (r10 >>> ((6 : Int32) &&& 31)) (5 : Int32)).bind fun r28 =>
(if r28 = 0 then
(fL_low N (r10 >>> ((9 : Int32) &&& 31)) (4 : Int32)).bind fun r53 =>
z_b2 (nX4_change N r12 r28 r53 Y.1) fun r54 u54 =>
z_lt ((u54, Y.2)) fun Y55 =>
z_ck (z_in (((9 : Int32) * r12) + r28) 54) <|
(if r54 = (Y55.2.1 1 ((((9 : Int32) * r12) + r28)).toNatClampNeg) then
z_ck (z_in (((9 : Int32) * r12) + r28) 54) <|
z_lt ((Y55.1, z_u2 Y55.2.1 1 ((((9 : Int32) * r12) + r28)).toNatClampNeg r53, Y55.2.2)) fun Y59 =>
(jL_law_676_299 N L xs (lL_law_299 N L xs fu) x8 r10 r12 Y59)
else
some (0 : Int32))
else
(if r28 = (1 : Int32) then
(fL_low N (r10 >>> ((9 : Int32) &&& 31)) (9 : Int32)).bind fun r46 =>
z_b2 (nX4_change N r12 r28 ((1 : Int32) + r46) Y.1) fun r47 u47 =>
z_lt ((u47, Y.2)) fun Y48 =>
z_ck (z_in (((9 : Int32) * r12) + r28) 54) <|
(if r47 = (Y48.2.1 1 ((((9 : Int32) * r12) + r28)).toNatClampNeg) then
z_ck (z_in (((9 : Int32) * r12) + r28) 54) <|
z_lt ((Y48.1, z_u2 Y48.2.1 1 ((((9 : Int32) * r12) + r28)).toNatClampNeg ((1 : Int32) + r46), Y48.2.2)) fun Y52 =>
(jL_law_676_299 N L xs (lL_law_299 N L xs fu) x8 r10 r12 Y52)
else
some (0 : Int32))
else
(if r28 = (4 : Int32) then
(fL_low N (r10 >>> ((9 : Int32) &&& 31)) (100 : Int32)).bind fun r39 =>
z_b2 (nX4_change N r12 r28 r39 Y.1) fun r40 u40 =>
z_lt ((u40, Y.2)) fun Y41 =>
z_ck (z_in (((9 : Int32) * r12) + r28) 54) <|
(if r40 = (Y41.2.1 1 ((((9 : Int32) * r12) + r28)).toNatClampNeg) then
z_ck (z_in (((9 : Int32) * r12) + r28) 54) <|
z_lt ((Y41.1, z_u2 Y41.2.1 1 ((((9 : Int32) * r12) + r28)).toNatClampNeg r39, Y41.2.2)) fun Y45 =>
(jL_law_676_299 N L xs (lL_law_299 N L xs fu) x8 r10 r12 Y45)
else
some (0 : Int32))
else
(fL_low N (r10 >>> ((9 : Int32) &&& 31)) (9 : Int32)).bind fun r32 =>
z_b2 (nX4_change N r12 r28 (r32 - (1 : Int32)) Y.1) fun r33 u33 =>
z_lt ((u33, Y.2)) fun Y34 =>
z_ck (z_in (((9 : Int32) * r12) + r28) 54) <|
(if r33 = (Y34.2.1 1 ((((9 : Int32) * r12) + r28)).toNatClampNeg) then
z_ck (z_in (((9 : Int32) * r12) + r28) 54) <|
z_lt ((Y34.1, z_u2 Y34.2.1 1 ((((9 : Int32) * r12) + r28)).toNatClampNeg (r32 - (1 : Int32)), Y34.2.2)) fun Y38 =>
(jL_law_676_299 N L xs (lL_law_299 N L xs fu) x8 r10 r12 Y38)
else
some (0 : Int32)))))))
else
z_b2 (fL_run N r12 (Y.2.1)) fun r88 u88 =>
z_lt ((Y.1, u88, Y.2.2)) fun Y89 =>
(if r88 < 0 then
some (0 : Int32)
else
z_b2 (nX4_run N r12 Y89.1) fun r91 u91 =>
z_lt ((u91, Y89.2)) fun Y92 =>
(if r91 = r88 then
(jL_law_676_299 N L xs (lL_law_299 N L xs fu) x8 r10 r12 Y92)
else
some (0 : Int32)))))))
def lL_law_79 (N : Nat) (L : Nat) (xs : Nat → Int32) : Nat → Int32 → z_O → Option Int32
  | 0, _, _ => none
  | fu + 1, x8, Y => (if (6 : Int32) ≤ x8 then
(lL_law_299 N L xs 300 (0 : Int32) Y)
else
(fL_cell N L xs ((1 : Int32) + x8)).bind fun r94 =>
(fL_low N r94 (4 : Int32)).bind fun r95 =>
z_ck (z_in ((9 : Int32) * x8) 54) <|
z_lt ((Y.1, z_u2 Y.2.1 1 (((9 : Int32) * x8)).toNatClampNeg r95, Y.2.2)) fun Y97 =>
(fL_low N (r94 >>> ((2 : Int32) &&& 31)) (9 : Int32)).bind fun r98 =>
z_ck (z_in (((9 : Int32) * x8) + (1 : Int32)) 54) <|
z_lt ((Y97.1, z_u2 Y97.2.1 1 ((((9 : Int32) * x8) + (1 : Int32))).toNatClampNeg ((1 : Int32) + r98), Y97.2.2)) fun Y100 =>
(fL_low N (r94 >>> ((6 : Int32) &&& 31)) (9 : Int32)).bind fun r101 =>
z_ck (z_in (((9 : Int32) * x8) + (2 : Int32)) 54) <|
z_lt ((Y100.1, z_u2 Y100.2.1 1 ((((9 : Int32) * x8) + (2 : Int32))).toNatClampNeg (r101 - (1 : Int32)), Y100.2.2)) fun Y103 =>
(fL_low N (r94 >>> ((10 : Int32) &&& 31)) (3 : Int32)).bind fun r104 =>
(if r104 ≤ 0 then
(fL_low N (r94 >>> ((12 : Int32) &&& 31)) (7 : Int32)).bind fun r106 =>
z_ck (z_in (((9 : Int32) * x8) + (3 : Int32)) 54) <|
z_lt ((Y103.1, z_u2 Y103.2.1 1 ((((9 : Int32) * x8) + (3 : Int32))).toNatClampNeg r106, Y103.2.2)) fun Y108 =>
(fL_low N (r94 >>> ((15 : Int32) &&& 31)) (100 : Int32)).bind fun r109 =>
z_ck (z_in (((9 : Int32) * x8) + (4 : Int32)) 54) <|
z_lt ((Y108.1, z_u2 Y108.2.1 1 ((((9 : Int32) * x8) + (4 : Int32))).toNatClampNeg r109, Y108.2.2)) fun Y111 =>
z_ck (z_in (((9 : Int32) * x8) + (5 : Int32)) 54) <|
z_lt ((Y111.1, z_u2 Y111.2.1 1 ((((9 : Int32) * x8) + (5 : Int32))).toNatClampNeg (-1 : Int32), Y111.2.2)) fun Y113 =>
z_ck (z_in (((9 : Int32) * x8) + (6 : Int32)) 54) <|
z_lt ((Y113.1, z_u2 Y113.2.1 1 ((((9 : Int32) * x8) + (6 : Int32))).toNatClampNeg (-1 : Int32), Y113.2.2)) fun Y115 =>
z_ck (z_in (((9 : Int32) * x8) + (8 : Int32)) 54) <|
z_lt ((Y115.1, z_u2 Y115.2.1 1 ((((9 : Int32) * x8) + (8 : Int32))).toNatClampNeg (-1 : Int32), Y115.2.2)) fun Y117 =>
z_ck (z_in ((9 : Int32) * x8) 54) <|
z_ck (z_in (((9 : Int32) * x8) + (1 : Int32)) 54) <|
z_ck (z_in (((9 : Int32) * x8) + (2 : Int32)) 54) <|
z_ck (z_in (((9 : Int32) * x8) + (3 : Int32)) 54) <|
z_ck (z_in (((9 : Int32) * x8) + (4 : Int32)) 54) <|
z_b2 (nX4_addOrder N (Y117.2.1 1 (((9 : Int32) * x8)).toNatClampNeg) (Y117.2.1 1 ((((9 : Int32) * x8) + (1 : Int32))).toNatClampNeg) (Y117.2.1 1 ((((9 : Int32) * x8) + (2 : Int32))).toNatClampNeg) (Y117.2.1 1 ((((9 : Int32) * x8) + (3 : Int32))).toNatClampNeg) (Y117.2.1 1 ((((9 : Int32) * x8) + (4 : Int32))).toNatClampNeg) Y117.1) fun r123 u123 =>
z_lt ((u123, Y117.2)) fun Y124 =>
(if r123 = x8 then
(lL_law_79 N L xs fu (x8 + (1 : Int32)) Y124)
else
some (0 : Int32))
else
z_ck (z_in (((9 : Int32) * x8) + (3 : Int32)) 54) <|
z_lt ((Y103.1, z_u2 Y103.2.1 1 ((((9 : Int32) * x8) + (3 : Int32))).toNatClampNeg (-1 : Int32), Y103.2.2)) fun Y127 =>
(fL_low N (r94 >>> ((15 : Int32) &&& 31)) (100 : Int32)).bind fun r128 =>
z_ck (z_in (((9 : Int32) * x8) + (4 : Int32)) 54) <|
z_lt ((Y127.1, z_u2 Y127.2.1 1 ((((9 : Int32) * x8) + (4 : Int32))).toNatClampNeg r128, Y127.2.2)) fun Y130 =>
z_ck (z_in (((9 : Int32) * x8) + (5 : Int32)) 54) <|
z_lt ((Y130.1, z_u2 Y130.2.1 1 ((((9 : Int32) * x8) + (5 : Int32))).toNatClampNeg (-1 : Int32), Y130.2.2)) fun Y132 =>
z_ck (z_in (((9 : Int32) * x8) + (6 : Int32)) 54) <|
z_lt ((Y132.1, z_u2 Y132.2.1 1 ((((9 : Int32) * x8) + (6 : Int32))).toNatClampNeg (-1 : Int32), Y132.2.2)) fun Y134 =>
z_ck (z_in (((9 : Int32) * x8) + (8 : Int32)) 54) <|
z_lt ((Y134.1, z_u2 Y134.2.1 1 ((((9 : Int32) * x8) + (8 : Int32))).toNatClampNeg (-1 : Int32), Y134.2.2)) fun Y136 =>
z_ck (z_in ((9 : Int32) * x8) 54) <|
z_ck (z_in (((9 : Int32) * x8) + (1 : Int32)) 54) <|
z_ck (z_in (((9 : Int32) * x8) + (2 : Int32)) 54) <|
z_ck (z_in (((9 : Int32) * x8) + (3 : Int32)) 54) <|
z_ck (z_in (((9 : Int32) * x8) + (4 : Int32)) 54) <|
z_b2 (nX4_addOrder N (Y136.2.1 1 (((9 : Int32) * x8)).toNatClampNeg) (Y136.2.1 1 ((((9 : Int32) * x8) + (1 : Int32))).toNatClampNeg) (Y136.2.1 1 ((((9 : Int32) * x8) + (2 : Int32))).toNatClampNeg) (Y136.2.1 1 ((((9 : Int32) * x8) + (3 : Int32))).toNatClampNeg) (Y136.2.1 1 ((((9 : Int32) * x8) + (4 : Int32))).toNatClampNeg) Y136.1) fun r142 u142 =>
z_lt ((u142, Y136.2)) fun Y143 =>
(if r142 = x8 then
(lL_law_79 N L xs fu (x8 + (1 : Int32)) Y143)
else
some (0 : Int32))))
def fL_main (N L : Nat) (xs : Nat → Int32) (Y : z_O) : Option Int32 :=
(fL_cell N L xs (0 : Int32)).bind fun r1 =>
(fL_low N r1 (20 : Int32)).bind fun r2 =>
z_lt ((Y.1, z_u2 Y.2.1 0 ((0 : Int32)).toNatClampNeg ((6 : Int32) + r2), Y.2.2)) fun Y3 =>
z_lt ((Y3.1, z_u2 Y3.2.1 0 ((2 : Int32)).toNatClampNeg (-1 : Int32), Y3.2.2)) fun Y4 =>
z_b2 (nX4_setDrum N (Y4.2.1 0 ((0 : Int32)).toNatClampNeg) Y4.1) fun r5 u5 =>
z_lt ((u5, Y4.2)) fun Y6 =>
(if r5 = (12 : Int32) then
(lL_law_79 N L xs N (0 : Int32) Y6)
else
some (0 : Int32))
end
section
def z_0 : z_R := fun _ _ => 0
def z_s0 : z_R := fun r => match r with
  | 0 => fun k => match k with
    | 0 => 12
    | 3 => -1
    | _ => 0
  | _ => fun _ => 0
def z_m0 : z_R := fun r => match r with
  | 1 => upd (upd (fun _ => 0) ((0 : Int32)).toNatClampNeg (12 : Int32)) ((4 : Int32)).toNatClampNeg (-1 : Int32)
  | _ => fun _ => 0
def z_X0 : z_X := (z_0, z_0, fun _ => z_s0)
end
section
/-! plain facts: ints as numbers, rows, the printed combinators -/
theorem m_lit (n : Nat) : (OfNat.ofNat n : Int32) = nI n := rfl
theorem m_ne1 : (-1 : Int32).toInt = -1 := by decide
theorem m_nI_ne {j : Nat} (h : j < 2 ^ 31) : ¬ nI j = (-1 : Int32) := by
  intro e
  have h1 : (nI j).toInt = (-1 : Int32).toInt := by rw [e]
  rw [nI_toInt h, m_ne1] at h1
  omega
theorem m_nI_inj {a b : Nat} (ha : a < 2 ^ 31) (hb : b < 2 ^ 31) (h : nI a = nI b) : a = b := (nI_eq ha hb).mp h
theorem m_ltI {a b : Nat} (ha : a < 2 ^ 31) (hb : b < 2 ^ 31) : nI a < nI b ↔ a < b := nI_ltI ha hb
theorem m_leI {a b : Nat} (ha : a < 2 ^ 31) (hb : b < 2 ^ 31) : nI a ≤ nI b ↔ a ≤ b := nI_leI ha hb
theorem m_neg {j : Nat} (h : j < 2 ^ 31) : ¬ nI j < (0 : Int32) := nI_pos h
theorem m_in {k n : Nat} (h : k < n) (hn : n < 2 ^ 31) : z_in (nI k) n = true := by
  have h1 : ¬ nI k < 0 := nI_pos (by omega)
  have h2 : ¬ n ≤ (nI k).toNatClampNeg := by rw [nI_clamp (by omega)]; omega
  simp [z_in, h1, h2]
theorem m_ck {α : Type} {b : Bool} (h : b = true) (x : Option α) : z_ck b x = x := by
  rw [h]; rfl
theorem m_nz {k : Nat} (h0 : 0 < k) (h : k < 2 ^ 31) : z_nz (nI k) = true := by
  simp [z_nz, nI_ne0 h0 h]
theorem m_b0 : z_bo 0 = true := by decide
theorem m_b1 : z_bo 1 = true := by decide
theorem m_idx (j p : Nat) : ((13 : Int32) + ((9 : Int32) * nI j)) + nI p = nI (13 + 9 * j + p) := by
  rw [show (13 : Int32) = nI 13 from rfl, show (9 : Int32) = nI 9 from rfl, pk_mul, nI_add, nI_add]
theorem m_clamp {n : Nat} (h : n < 2 ^ 31) : (nI n).toNatClampNeg = n := nI_clamp h
theorem m_same (g : z_R) (r : Nat) (u : Nat → Int32) : z_uR g r u r = u := if_pos rfl
theorem m_other (g : z_R) {r q : Nat} (u : Nat → Int32) (h : q ≠ r) : z_uR g r u q = g q := if_neg h
theorem m_uR (m : z_R) (r k : Nat) (v : Int32) : z_u2 m r k v = z_uR m r (upd (m r) k v) := rfl
theorem m_uRR (m : z_R) (r k : Nat) (s : Nat → Int32) (v : Int32) : z_u2 (z_uR m r s) r k v = z_uR m r (upd s k v) := by
  funext a
  by_cases h : a = r
  · subst h; simp [z_u2, z_uR]
  · simp [z_u2, z_uR, h]
theorem m_uRn (m : z_R) {r q k : Nat} (s : Nat → Int32) (v : Int32) (h : q ≠ r) : z_u2 (z_uR m r s) q k v = z_uR (z_u2 m q k v) r s := by
  funext a
  by_cases h1 : a = r
  · subst h1
    have h2 : ¬ a = q := fun e => h e.symm
    simp [z_u2, z_uR, h2]
  · by_cases h2 : a = q
    · subst h2; simp [z_u2, z_uR, h]
    · simp [z_u2, z_uR, h1, h2]
theorem m_uR2 (m : z_R) (r : Nat) (s t : Nat → Int32) : z_uR (z_uR m r s) r t = z_uR m r t := by
  funext a
  by_cases h : a = r
  · simp [z_uR, h]
  · simp [z_uR, h]
theorem m_uRself (m : z_R) (r : Nat) : z_uR m r (m r) = m := by
  funext a
  by_cases h : a = r
  · subst h; simp [z_uR]
  · simp [z_uR, h]
theorem m_u2s (g : z_R) (r k : Nat) (v : Int32) : z_u2 g r k v r = upd (g r) k v := if_pos rfl
theorem m_u2n (g : z_R) {r q : Nat} (k : Nat) (v : Int32) (h : q ≠ r) : z_u2 g r k v q = g q := if_neg h
theorem m_us (f : Nat → Int32) (k : Nat) (v : Int32) : upd f k v k = v := if_pos rfl
theorem m_un (f : Nat → Int32) {k j : Nat} (v : Int32) (h : j ≠ k) : upd f k v j = f j := if_neg h
theorem m_bind {α β : Type} (x : α) (f : α → Option β) : (some x).bind f = f x := rfl
theorem m_b2 {α β γ : Type} (x : α) (u : β) (f : α → β → Option γ) : z_b2 (some (x, u)) f = f x u := rfl
theorem m_lt {α β : Type} (x : α) (f : α → β) : z_lt x f = f x := rfl
theorem m_ifT {α : Type} {c : Prop} [Decidable c] (x y : α) (h : c) : (if c then x else y) = x := if_pos h
theorem m_ifF {α : Type} {c : Prop} [Decidable c] (x y : α) (h : ¬ c) : (if c then x else y) = y := if_neg h
/-- an int is negative, or too large, or a number -/
theorem m_ix (x : Int32) {n : Nat} (hn : n < 2 ^ 31) : x < 0 ∨ nI n ≤ x ∨ ∃ j : Nat, j < n ∧ x = nI j := pk_ix x hn
/-- what an order's row may hold -/
def m_Vd (P r : Nat) (x : Int32) : Prop :=
  (r = 1 → ∃ a, a < 4 ∧ x = nI a) ∧ (r = 2 → ∃ w, 1 ≤ w ∧ w ≤ 9 ∧ x = nI w) ∧ (r = 3 ∨ r = 4 → x = -1 ∨ ∃ k, k < 16 ∧ x = nI k) ∧ (r = 5 → ∃ b, b ≤ 99 ∧ x = nI b) ∧ (r = 6 → x = -1 ∨ ∃ p, p < P ∧ x = nI p)
/-- the state g of the class and the row s of the reference: n orders, P places, the tick T, J jumps; they agree in what E names (rows 1 to 9 of the orders, 10 paid, 11 refunded, 12 the jumps, 0 tick and end) -/
def RS (E : Nat → Prop) (n P T J : Nat) (g : z_R) (s : Nat → Int32) : Prop :=
  (n ≤ 16 ∧ 6 ≤ P ∧ P ≤ 40 ∧ J ≤ 256) ∧
  (g 0 0 = nI P ∧ g 0 1 = nI n ∧ g 0 2 = nI T ∧ g 0 4 = nI J) ∧
  (s 0 = nI P ∧ s 2 = nI n) ∧ (E 0 → s 1 = nI T ∧ s 4 = g 0 3) ∧ (E 12 → s 3 = nI J) ∧
  (∀ i, i < 4 → (E 10 → s (5 + i) = g 10 i) ∧ (E 11 → s (9 + i) = g 11 i)) ∧
  (∀ o r, o < n → 1 ≤ r → r ≤ 9 → (E r → s (12 + 9 * o + r) = g r o) ∧ m_Vd P r (g r o)) ∧
  (∀ o q, o < n → q < n → o ≠ q → g 6 o = g 6 q → g 6 o = -1) ∧
  (∀ o, n ≤ o → o < 16 → g 8 o = 0) ∧
  (E 12 → ∀ i, i < J → s (157 + 3 * i) = g 13 i ∧ s (157 + 3 * i + 1) = g 14 i ∧ s (157 + 3 * i + 2) = g 15 i) ∧
  (∀ i, i < J → (∃ x, x < 16 ∧ g 13 i = nI x) ∧ ∃ y, y < 16 ∧ g 14 i = nI y) ∧
  (∀ i k, i < k → k < J → ¬ (g 13 i = g 13 k ∧ g 14 i = g 14 k))
section MRS
variable {E : Nat → Prop} {n P T J : Nat} {g : z_R} {s : Nat → Int32}
theorem RS.n16 (h : RS E n P T J g s) : n ≤ 16 := h.1.1
theorem RS.P6 (h : RS E n P T J g s) : 6 ≤ P := h.1.2.1
theorem RS.P40 (h : RS E n P T J g s) : P ≤ 40 := h.1.2.2.1
theorem RS.J256 (h : RS E n P T J g s) : J ≤ 256 := h.1.2.2.2
theorem RS.gP (h : RS E n P T J g s) : g 0 0 = nI P := h.2.1.1
theorem RS.gn (h : RS E n P T J g s) : g 0 1 = nI n := h.2.1.2.1
theorem RS.gT (h : RS E n P T J g s) : g 0 2 = nI T := h.2.1.2.2.1
theorem RS.gJ (h : RS E n P T J g s) : g 0 4 = nI J := h.2.1.2.2.2
theorem RS.sP (h : RS E n P T J g s) : s 0 = nI P := h.2.2.1.1
theorem RS.sn (h : RS E n P T J g s) : s 2 = nI n := h.2.2.1.2
theorem RS.sT (h : RS E n P T J g s) (e : E 0) : s 1 = nI T := (h.2.2.2.1 e).1
theorem RS.sE (h : RS E n P T J g s) (e : E 0) : s 4 = g 0 3 := (h.2.2.2.1 e).2
theorem RS.sJ (h : RS E n P T J g s) (e : E 12) : s 3 = nI J := h.2.2.2.2.1 e
theorem RS.pd (h : RS E n P T J g s) {i : Nat} (hi : i < 4) (e : E 10) : s (5 + i) = g 10 i := (h.2.2.2.2.2.1 i hi).1 e
theorem RS.rf (h : RS E n P T J g s) {i : Nat} (hi : i < 4) (e : E 11) : s (9 + i) = g 11 i := (h.2.2.2.2.2.1 i hi).2 e
theorem RS.or (h : RS E n P T J g s) {o r : Nat} (ho : o < n) (h1 : 1 ≤ r) (h2 : r ≤ 9) (e : E r) : s (12 + 9 * o + r) = g r o := (h.2.2.2.2.2.2.1 o r ho h1 h2).1 e
theorem RS.vd (h : RS E n P T J g s) {o r : Nat} (ho : o < n) (h1 : 1 ≤ r) (h2 : r ≤ 9) : m_Vd P r (g r o) := (h.2.2.2.2.2.2.1 o r ho h1 h2).2
theorem RS.au (h : RS E n P T J g s) {o : Nat} (ho : o < n) : ∃ a, a < 4 ∧ g 1 o = nI a := (h.vd ho (r := 1) (by omega) (by omega)).1 rfl
theorem RS.wo (h : RS E n P T J g s) {o : Nat} (ho : o < n) : ∃ w, 1 ≤ w ∧ w ≤ 9 ∧ g 2 o = nI w := (h.vd ho (r := 2) (by omega) (by omega)).2.1 rfl
theorem RS.ne (h : RS E n P T J g s) {o : Nat} (ho : o < n) : g 3 o = -1 ∨ ∃ k, k < 16 ∧ g 3 o = nI k := (h.vd ho (r := 3) (by omega) (by omega)).2.2.1 (Or.inl rfl)
theorem RS.ex (h : RS E n P T J g s) {o : Nat} (ho : o < n) : g 4 o = -1 ∨ ∃ k, k < 16 ∧ g 4 o = nI k := (h.vd ho (r := 4) (by omega) (by omega)).2.2.1 (Or.inr rfl)
theorem RS.br (h : RS E n P T J g s) {o : Nat} (ho : o < n) : ∃ b, b ≤ 99 ∧ g 5 o = nI b := (h.vd ho (r := 5) (by omega) (by omega)).2.2.2.1 rfl
theorem RS.pl (h : RS E n P T J g s) {o : Nat} (ho : o < n) : g 6 o = -1 ∨ ∃ p, p < P ∧ g 6 o = nI p := (h.vd ho (r := 6) (by omega) (by omega)).2.2.2.2 rfl
theorem RS.ap (h : RS E n P T J g s) {o q : Nat} (ho : o < n) (hq : q < n) (hoq : o ≠ q) (e : g 6 o = g 6 q) : g 6 o = -1 := h.2.2.2.2.2.2.2.1 o q ho hq hoq e
theorem RS.op0 (h : RS E n P T J g s) {o : Nat} (ho : n ≤ o) (h16 : o < 16) : g 8 o = 0 := h.2.2.2.2.2.2.2.2.1 o ho h16
theorem RS.ju (h : RS E n P T J g s) (e : E 12) {i : Nat} (hi : i < J) : s (157 + 3 * i) = g 13 i ∧ s (157 + 3 * i + 1) = g 14 i ∧ s (157 + 3 * i + 2) = g 15 i := h.2.2.2.2.2.2.2.2.2.1 e i hi
theorem RS.jv (h : RS E n P T J g s) {i : Nat} (hi : i < J) : (∃ x, x < 16 ∧ g 13 i = nI x) ∧ ∃ y, y < 16 ∧ g 14 i = nI y := h.2.2.2.2.2.2.2.2.2.2.1 i hi
theorem RS.jd (h : RS E n P T J g s) {i k : Nat} (hi : i < k) (hk : k < J) : ¬ (g 13 i = g 13 k ∧ g 14 i = g 14 k) := h.2.2.2.2.2.2.2.2.2.2.2 i k hi hk
/-- one number of an order is changed on both sides -/
theorem RS.part (h : RS E n P T J g s) {j r : Nat} {v : Int32} (hj : j < n) (h1 : 1 ≤ r) (h2 : r ≤ 9) (hv : m_Vd P r v) (h6 : r = 6 → v = -1 ∨ ∀ q, q < n → q ≠ j → g 6 q ≠ v) : RS E n P T J (z_u2 g r j v) (upd s (12 + 9 * j + r) v) := by
  have hn := h.n16
  have hJ := h.J256
  refine ⟨h.1, ?_, ?_, ?_, ?_, ?_, ?_, ?_, ?_, ?_, ?_, ?_⟩
  · rw [m_u2n g j v (by omega : (0 : Nat) ≠ r)]; exact h.2.1
  · rw [m_un s v (by omega), m_un s v (by omega)]; exact h.2.2.1
  · rw [m_un s v (by omega), m_un s v (by omega), m_u2n g j v (by omega : (0 : Nat) ≠ r)]; exact h.2.2.2.1
  · rw [m_un s v (by omega)]; exact h.2.2.2.2.1
  · intro i hi
    rw [m_un s v (by omega), m_un s v (by omega), m_u2n g j v (by omega : (10 : Nat) ≠ r), m_u2n g j v (by omega : (11 : Nat) ≠ r)]
    exact h.2.2.2.2.2.1 i hi
  · intro o q ho hq1 hq2
    by_cases hr : q = r
    · subst hr
      rw [m_u2s]
      by_cases ho2 : o = j
      · subst ho2
        rw [m_us, m_us]
        exact ⟨fun _ => rfl, hv⟩
      · rw [m_un _ v ho2, m_un s v (by omega)]
        exact h.2.2.2.2.2.2.1 o q ho hq1 hq2
    · rw [m_u2n g j v hr, m_un s v (by omega)]
      exact h.2.2.2.2.2.2.1 o q ho hq1 hq2
  · intro o q ho hq hoq
    by_cases hr : r = 6
    · subst hr
      rw [m_u2s]
      by_cases ho2 : o = j
      · subst ho2
        rw [m_us, m_un _ v (fun e => hoq e.symm)]
        intro e
        rcases h6 rfl with h7 | h7
        · exact h7
        · exact absurd e.symm (h7 q hq (fun e => hoq e.symm))
      · rw [m_un _ v ho2]
        by_cases hq2 : q = j
        · subst hq2
          rw [m_us]
          intro e
          rcases h6 rfl with h7 | h7
          · rw [e]; exact h7
          · exact absurd e (h7 o ho hoq)
        · rw [m_un _ v hq2]; exact h.ap ho hq hoq
    · rw [m_u2n g j v (fun e => hr e.symm)]; exact h.ap ho hq hoq
  · intro o ho h16
    by_cases hr : r = 8
    · subst hr
      rw [m_u2s, m_un _ v (by omega)]; exact h.op0 ho h16
    · rw [m_u2n g j v (fun e => hr e.symm)]; exact h.op0 ho h16
  · intro e i hi
    rw [m_un s v (by omega), m_un s v (by omega), m_un s v (by omega), m_u2n g j v (by omega : (13 : Nat) ≠ r), m_u2n g j v (by omega : (14 : Nat) ≠ r), m_u2n g j v (by omega : (15 : Nat) ≠ r)]
    exact h.ju e hi
  · intro i hi
    rw [m_u2n g j v (by omega : (13 : Nat) ≠ r), m_u2n g j v (by omega : (14 : Nat) ≠ r)]; exact h.jv hi
  · intro i k hi hk
    rw [m_u2n g j v (by omega : (13 : Nat) ≠ r), m_u2n g j v (by omega : (14 : Nat) ≠ r)]; exact h.jd hi hk
/-- paid (row 10) or refunded (row 11) is changed on both sides -/
theorem RS.acc (h : RS E n P T J g s) {i r : Nat} {v w : Int32} (hi : i < 4) (hr : r = 10 ∨ r = 11) (hvw : E r → w = v) : RS E n P T J (z_u2 g r i v) (upd s (4 * r - 35 + i) w) := by
  have hn := h.n16
  have hJ := h.J256
  refine ⟨h.1, ?_, ?_, ?_, ?_, ?_, ?_, ?_, ?_, ?_, ?_, ?_⟩
  · rw [m_u2n g i v (by omega : (0 : Nat) ≠ r)]; exact h.2.1
  · rw [m_un s w (by omega), m_un s w (by omega)]; exact h.2.2.1
  · rw [m_un s w (by omega), m_un s w (by omega), m_u2n g i v (by omega : (0 : Nat) ≠ r)]; exact h.2.2.2.1
  · rw [m_un s w (by omega)]; exact h.2.2.2.2.1
  · intro k hk
    rcases hr with e | e
    · subst e
      rw [m_u2s, m_u2n g i v (by omega : (11 : Nat) ≠ 10), m_un s w (show 9 + k ≠ _ by omega)]
      refine ⟨fun e => ?_, (h.2.2.2.2.2.1 k hk).2⟩
      by_cases h2 : k = i
      · subst h2
        rw [show 4 * 10 - 35 + k = 5 + k by omega, m_us, m_us]; exact hvw e
      · rw [m_un s w (by omega), m_un _ v h2]; exact h.pd hk e
    · subst e
      rw [m_u2s, m_u2n g i v (by omega : (10 : Nat) ≠ 11), m_un s w (show 5 + k ≠ _ by omega)]
      refine ⟨(h.2.2.2.2.2.1 k hk).1, fun e => ?_⟩
      by_cases h2 : k = i
      · subst h2
        rw [show 4 * 11 - 35 + k = 9 + k by omega, m_us, m_us]; exact hvw e
      · rw [m_un s w (by omega), m_un _ v h2]; exact h.rf hk e
  · intro o q ho hq1 hq2
    rw [m_u2n g i v (by omega : q ≠ r), m_un s w (by omega)]
    exact h.2.2.2.2.2.2.1 o q ho hq1 hq2
  · intro o q ho hq hoq
    rw [m_u2n g i v (by omega : (6 : Nat) ≠ r)]; exact h.ap ho hq hoq
  · intro o ho h16
    rw [m_u2n g i v (by omega : (8 : Nat) ≠ r)]; exact h.op0 ho h16
  · intro e k hk
    rw [m_un s w (by omega), m_un s w (by omega), m_un s w (by omega), m_u2n g i v (by omega : (13 : Nat) ≠ r), m_u2n g i v (by omega : (14 : Nat) ≠ r), m_u2n g i v (by omega : (15 : Nat) ≠ r)]
    exact h.ju e hk
  · intro k hk
    rw [m_u2n g i v (by omega : (13 : Nat) ≠ r), m_u2n g i v (by omega : (14 : Nat) ≠ r)]; exact h.jv hk
  · intro k q hk hq
    rw [m_u2n g i v (by omega : (13 : Nat) ≠ r), m_u2n g i v (by omega : (14 : Nat) ≠ r)]; exact h.jd hk hq
end MRS
end
section
/-! evaluation: plain pieces of both sides -/
theorem m_ckt {α : Type} (x : Option α) : z_ck true x = x := rfl
theorem m_t0 : ((0 : Int32)).toNatClampNeg = 0 := by decide
theorem m_t1 : ((1 : Int32)).toNatClampNeg = 1 := by decide
theorem m_t2 : ((2 : Int32)).toNatClampNeg = 2 := by decide
theorem m_t3 : ((3 : Int32)).toNatClampNeg = 3 := by decide
theorem m_t4 : ((4 : Int32)).toNatClampNeg = 4 := by decide
theorem m_1_0 : ¬ (1 : Int32) = 0 := by decide
theorem m_00 : (0 : Int32) = 0 := rfl
theorem m_nN (k : Nat) (h : k < 2 ^ 31) : ¬ nI k = -1 := m_nI_ne h
theorem m_ge16 {o : Nat} (h : o < 16) : ¬ (16 : Int32) ≤ nI o := nI_ge (b := 16) h (by decide)
theorem m_ge4 {o : Nat} (h : o < 4) : ¬ (4 : Int32) ≤ nI o := nI_ge (b := 4) h (by decide)
theorem m_ge256 {o : Nat} (h : o < 256) : ¬ (256 : Int32) ≤ nI o := nI_ge (b := 256) h (by decide)
theorem m_nlt99 {o : Nat} (h : o ≤ 99) : ¬ (99 : Int32) < nI o := nI_nlt (b := o) (a := 99) h (by decide)
theorem m_lt0 {x : Int32} : x < 0 ↔ x.toInt < 0 := by
  rw [Int32.lt_iff_toInt_lt, show (0 : Int32).toInt = 0 from by decide]
theorem m_xorT {x y : Int32} : (x ^^^ y) < 0 ↔ ((x < 0) ≠ (y < 0)) := by
  have hm : ∀ z : Int32, (z < 0 ↔ z.toBitVec.msb = true) := fun z => by
    rw [m_lt0, BitVec.msb_eq_toInt, decide_eq_true_iff]
    rfl
  rw [hm, hm x, hm y, show (x ^^^ y).toBitVec = x.toBitVec ^^^ y.toBitVec from rfl, BitVec.msb_xor]
  cases x.toBitVec.msb <;> cases y.toBitVec.msb <;> simp
theorem m_le0 {x : Int32} : 0 ≤ x ↔ ¬ x < 0 := by
  rw [Int32.le_iff_toInt_le, Int32.lt_iff_toInt_lt, show (0 : Int32).toInt = 0 from by decide]
  omega
/-- the rest of a negative number -/
theorem m_remN {d P : Nat} (hd : d < 2 ^ 30) (h0 : 0 < P) (hP : P < 2 ^ 15) {x : Int32} (hx : x.toInt = -(d : Int)) : (x - x / nI P * nI P).toInt = -((d % P : Nat) : Int) := by
  have hPi : (nI P).toInt = (P : Int) := nI_toInt (by omega)
  have h1 : d / P ≤ d := Nat.div_le_self d P
  have h2 : d / P * P ≤ d := Nat.div_mul_le_self d P
  have h3 : d % P = d - d / P * P := by have := Nat.div_add_mod' d P; omega
  obtain ⟨y, hy⟩ : ∃ y, y = d / P := ⟨_, rfl⟩
  have e1 : (x / nI P).toInt = -(y : Int) := by
    rw [Int32.toInt_div, hx, hPi, Int.neg_tdiv, show (d : Int).tdiv (P : Int) = ((d / P : Nat) : Int) from rfl, ← hy]
    rw [← hy] at h1
    exact Int.bmod_eq_of_le (by omega) (by omega)
  obtain ⟨z, hz⟩ : ∃ z, z = d / P * P := ⟨_, rfl⟩
  have e2 : (x / nI P * nI P).toInt = -(z : Int) := by
    rw [← hz] at h2
    rw [Int32.toInt_mul, e1, hPi, Int.neg_mul, show (y : Int) * (P : Int) = ((y * P : Nat) : Int) from (Int.natCast_mul _ _).symm, hy, ← hz]
    exact Int.bmod_eq_of_le (by omega) (by omega)
  rw [← hz] at h2 h3
  rw [Int32.toInt_sub, hx, e2]
  rw [show -(d : Int) - -(z : Int) = -((d % P : Nat) : Int) by rw [h3]; omega]
  exact Int.bmod_eq_of_le (by omega) (by omega)
theorem m_fmP {N k P : Nat} (hk : k < 2 ^ 31) (h0 : 0 < P) (hP : P < 2 ^ 15) : fJ9_floorMod_7cf53 N (nI k) (nI P) = some (nI (k % P)) := by
  have h1 : (0 : Int32) ≤ (nI k ^^^ nI P) := by
    rw [m_le0, m_xorT]
    simp [m_neg hk, m_neg (show P < 2 ^ 31 by omega)]
  unfold fJ9_floorMod_7cf53
  rw [m_nz h0 (by omega), m_ckt, if_pos h1, pk_rem hk h0 (by omega)]
theorem m_modN {a b P : Nat} (h0 : 0 < P) (h : a < b) : (a + P - b % P) % P = if (b - a) % P = 0 then 0 else P - (b - a) % P := by
  have hb := Nat.div_add_mod b P
  have hd := Nat.div_add_mod (b - a) P
  have hr := Nat.mod_lt (b - a) h0
  have hv := Nat.mod_lt b h0
  have hq : (b - a) / P ≤ b / P := Nat.div_le_div_right (by omega)
  have hm : P * (b / P) = P * (b / P - (b - a) / P) + P * ((b - a) / P) := by rw [← Nat.mul_add]; congr 1; omega
  have e : a + P - b % P = P * (b / P - (b - a) / P) + (P - (b - a) % P) := by omega
  rw [e, Nat.mul_add_mod]
  by_cases hz : (b - a) % P = 0
  · rw [if_pos hz, hz, Nat.sub_zero, Nat.mod_self]
  · rw [if_neg hz, Nat.mod_eq_of_lt (by omega)]
theorem m_modP {a b P : Nat} (h0 : 0 < P) (h : b ≤ a) : (a + P - b % P) % P = (a - b) % P := by
  have hb := Nat.div_add_mod b P
  have hv := Nat.mod_lt b h0
  have e : a + P - b % P = (a - b) + P * (b / P + 1) := by rw [Nat.mul_add]; omega
  rw [e, Nat.add_mul_mod_self_left]
theorem m_fmD {N a b P : Nat} (ha : a < 2 ^ 30) (hb : b < 2 ^ 30) (h0 : 0 < P) (hP : P < 2 ^ 15) : fJ9_floorMod_7cf53 N (nI a - nI b) (nI P) = some (nI ((a + P - b % P) % P)) := by
  rcases Nat.lt_or_ge a b with h | h
  · have hx : (nI a - nI b).toInt = -((b - a : Nat) : Int) := by rw [pk_sub_toInt ha hb]; omega
    have hneg : nI a - nI b < 0 := pk_sneg hb h
    have h1 : ¬ (0 : Int32) ≤ ((nI a - nI b) ^^^ nI P) := by
      rw [m_le0, m_xorT]
      simp [hneg, m_neg (show P < 2 ^ 31 by omega)]
    have hr := m_remN (d := b - a) (by omega) h0 hP hx
    have hl := Nat.mod_lt (b - a) h0
    unfold fJ9_floorMod_7cf53
    rw [m_nz h0 (by omega), m_ckt, if_neg h1, m_modN h0 h]
    by_cases hz : (b - a) % P = 0
    · have e0 : (nI a - nI b) - (nI a - nI b) / nI P * nI P = 0 := by
        apply Int32.toInt_inj.mp
        rw [hr, hz]; decide
      rw [e0, if_pos rfl, if_pos hz]; rfl
    · have en : ¬ (nI a - nI b) - (nI a - nI b) / nI P * nI P = 0 := by
        intro e
        rw [e, show (0 : Int32).toInt = 0 from by decide] at hr
        omega
      rw [if_neg en, if_neg hz]
      congr 1
      apply Int32.toInt_inj.mp
      rw [Int32.toInt_add, hr, nI_toInt (by omega), nI_toInt (by omega)]
      rw [show -(((b - a) % P : Nat) : Int) + (P : Int) = ((P - (b - a) % P : Nat) : Int) by omega]
      exact Int.bmod_eq_of_le (by omega) (by omega)
  · rw [pk_sub h, m_fmP (by omega) h0 hP, m_modP h0 h]
section MEV
variable {N n P T J : Nat} {g m : z_R} {s : Nat → Int32}
theorem m_aroundP (hg : g 0 0 = nI P) (h0 : 0 < P) (hP : P < 2 ^ 15) {k : Nat} (hk : k < 2 ^ 31) : fX2_around N (nI k) g = some (nI (k % P)) := by
  unfold fX2_around
  rw [hg, if_neg (nI_nle h0 (by omega)), m_fmP hk h0 hP, m_bind]
theorem m_aroundD (hg : g 0 0 = nI P) (h0 : 0 < P) (hP : P < 2 ^ 15) {a b : Nat} (ha : a < 2 ^ 30) (hb : b < 2 ^ 30) : fX2_around N (nI a - nI b) g = some (nI ((a + P - b % P) % P)) := by
  unfold fX2_around
  rw [hg, if_neg (nI_nle h0 (by omega)), m_fmD ha hb h0 hP, m_bind]
theorem m_within {lo hi : Int32} {x : Int32} : fX5_within N x lo hi = some (if x < lo ∨ hi < x then 0 else 1) := by
  unfold fX5_within
  by_cases h1 : x < lo
  · rw [if_pos h1, if_pos (Or.inl h1)]
  · rw [if_neg h1]
    by_cases h2 : hi < x
    · rw [if_pos h2, if_pos (Or.inr h2)]
    · rw [if_neg h2, if_neg (fun q => q.elim h1 h2)]
/-- whether a number is below n -/
theorem m_cs (x : Int32) {n : Nat} (hn : n < 2 ^ 31) : (∃ o, o < n ∧ x = nI o) ∨ ((x < 0 ∨ nI n ≤ x) ∧ ¬ ∃ o, o < n ∧ x = nI o) := by
  rcases m_ix x hn with h | h | h
  · refine Or.inr ⟨Or.inl h, ?_⟩
    rintro ⟨o, ho, rfl⟩
    exact m_neg (by omega) h
  · refine Or.inr ⟨Or.inr h, ?_⟩
    rintro ⟨o, ho, rfl⟩
    exact nI_ge ho hn h
  · exact Or.inl h
theorem m_hasY (hn : g 0 1 = nI n) (h16 : n ≤ 16) {o : Nat} (ho : o < n) : fX2_has N (nI o) g = some 1 := by
  unfold fX2_has
  rw [if_neg (m_neg (by omega)), hn, if_neg (nI_ge ho (by omega)), if_neg (m_ge16 (by omega))]
theorem m_hasN (hn : g 0 1 = nI n) {x : Int32} (hx : x < 0 ∨ nI n ≤ x) : fX2_has N x g = some 0 := by
  unfold fX2_has
  rcases hx with h | h
  · rw [if_pos h]
  · rw [hn]
    by_cases h0 : x < 0
    · rw [if_pos h0]
    · rw [if_neg h0, if_pos h]
theorem m_hpY (hg : g 0 0 = nI P) (hP : P < 2 ^ 31) {p : Nat} (hp : p < P) : fX2_hasPlace N (nI p) g = some 1 := by
  unfold fX2_hasPlace
  rw [if_neg (m_neg (by omega)), hg, if_neg (nI_ge hp hP)]
theorem m_hpN (hg : g 0 0 = nI P) {x : Int32} (hx : x < 0 ∨ nI P ≤ x) : fX2_hasPlace N x g = some 0 := by
  unfold fX2_hasPlace
  rcases hx with h | h
  · rw [if_pos h]
  · rw [hg]
    by_cases h0 : x < 0
    · rw [if_pos h0]
    · rw [if_neg h0, if_pos h]
theorem m_pred {n : Nat} (h0 : 0 < n) : nI n - 1 = nI (n - 1) := by
  obtain ⟨k, rfl⟩ : ∃ k, n = k + 1 := ⟨n - 1, by omega⟩
  exact nI_pred k
theorem m_wiY {n : Nat} (hn : n < 2 ^ 31) {o : Nat} (ho : o < n) : fX5_within N (nI o) 0 (nI n - 1) = some 1 := by
  rw [m_within, m_pred (by omega), if_neg]
  rintro (h | h)
  · exact m_neg (by omega) h
  · exact nI_nlt (by omega) (by omega) h
theorem m_wiN {n : Nat} (hn : n < 2 ^ 31) {x : Int32} (hx : x < 0 ∨ nI n ≤ x) : fX5_within N x 0 (nI n - 1) = some 0 := by
  rw [m_within, if_pos]
  rcases hx with h | h
  · exact Or.inl h
  · rcases Nat.eq_zero_or_pos n with h0 | h0
    · subst h0
      by_cases hx : x < 0
      · exact Or.inl hx
      · refine Or.inr ?_
        rw [Int32.lt_iff_toInt_lt, show (nI 0 - 1 : Int32).toInt = -1 from by decide]
        rw [m_lt0] at hx
        omega
    · refine Or.inr ?_
      rw [m_pred h0, Int32.lt_iff_toInt_lt, nI_toInt (by omega)]
      rw [Int32.le_iff_toInt_le, nI_toInt hn] at h
      omega
theorem m_ioY (hs : m 1 2 = nI n) (h16 : n ≤ 16) {o : Nat} (ho : o < n) : fX5_isOrder N (nI o) m = some 1 := by
  unfold fX5_isOrder
  rw [m_t2, hs, m_wiY (by omega) ho, m_bind, m_b1, m_ckt]
theorem m_ioN (hs : m 1 2 = nI n) (h16 : n ≤ 16) {x : Int32} (hx : x < 0 ∨ nI n ≤ x) : fX5_isOrder N x m = some 0 := by
  unfold fX5_isOrder
  rw [m_t2, hs, m_wiN (by omega) hx, m_bind, m_b0, m_ckt]
theorem m_ipY (hs : m 1 0 = nI P) (hP : P ≤ 40) {p : Nat} (hp : p < P) : fX5_isPlace N (nI p) m = some 1 := by
  unfold fX5_isPlace
  rw [m_t0, hs, m_wiY (by omega) hp, m_bind, m_b1, m_ckt]
theorem m_ipN (hs : m 1 0 = nI P) (hP : P ≤ 40) {x : Int32} (hx : x < 0 ∨ nI P ≤ x) : fX5_isPlace N x m = some 0 := by
  unfold fX5_isPlace
  rw [m_t0, hs, m_wiN (by omega) hx, m_bind, m_b0, m_ckt]
theorem m_part {j k r : Nat} {p : Int32} (hp : p = nI k) (hr : k + 1 = r) (hj : j < 16) (hk : r ≤ 9) : fX5_part N (nI j) p m = some (m 1 (12 + 9 * j + r)) := by
  subst hp
  subst hr
  unfold fX5_part
  rw [m_idx, m_in (by omega) (by decide), m_ckt, m_clamp (by omega), show 13 + 9 * j + k = 12 + 9 * j + (k + 1) by omega]
theorem m_setP {j k r : Nat} {p v : Int32} (hp : p = nI k) (hr : k + 1 = r) (hj : j < 16) (hk : r ≤ 9) : fX5_setPart N (nI j) p v (z_uR m 1 s) = some (z_uR m 1 (upd s (12 + 9 * j + r) v)) := by
  subst hp
  subst hr
  unfold fX5_setPart
  rw [m_idx, m_in (by omega) (by decide), m_ckt, m_clamp (by omega), m_uRR, m_lt, show 13 + 9 * j + k = 12 + 9 * j + (k + 1) by omega]
/-- the order on a place: the first one -/
def m_On (n : Nat) (f : Nat → Int32) (p r : Int32) : Prop := (r = -1 ∧ ∀ o, o < n → f o ≠ p) ∨ ∃ o, o < n ∧ f o = p ∧ r = nI o
theorem m_On_u {f : Nat → Int32} {p r q : Int32} (hu : ∀ i j, i < n → j < n → i ≠ j → f i = f j → f i = -1) (hp : p ≠ -1) (h1 : m_On n f p r) (h2 : m_On n f p q) : r = q := by
  rcases h1 with ⟨e1, h1⟩ | ⟨o, ho, e1, r1⟩
  · rcases h2 with ⟨e2, h2⟩ | ⟨u, hu2, e2, r2⟩
    · rw [e1, e2]
    · exact absurd e2 (h1 u hu2)
  · rcases h2 with ⟨e2, h2⟩ | ⟨u, hu2, e2, r2⟩
    · exact absurd e1 (h2 o ho)
    · by_cases h : o = u
      · subst h; rw [r1, r2]
      · exact absurd ((e1.symm.trans (hu o u ho hu2 h (e1.trans e2.symm)))) hp
theorem m_onL (hn : g 0 1 = nI n) (h16 : n ≤ 16) (p : Int32) : ∀ (k i fu : Nat), i + k = n → k < fu → (∀ o, o < i → g 6 o ≠ p) → ∃ r, lX2_orderOn_2 N p g fu (nI i) = some r ∧ m_On n (g 6) p r := by
  intro k
  induction k with
  | zero =>
    intro i fu hi hfu hb
    obtain ⟨fu, rfl⟩ : ∃ q, fu = q + 1 := ⟨fu - 1, by omega⟩
    refine ⟨-1, ?_, Or.inl ⟨rfl, fun o ho => hb o (by omega)⟩⟩
    rw [lX2_orderOn_2.eq_2]
    by_cases h : (16 : Int32) ≤ nI i
    · rw [if_pos h]
    · rw [if_neg h, m_hasN hn (Or.inr (nI_le (by omega) (by omega))), m_bind, if_pos m_00]
  | succ k ih =>
    intro i fu hi hfu hb
    obtain ⟨fu, rfl⟩ : ∃ q, fu = q + 1 := ⟨fu - 1, by omega⟩
    rw [lX2_orderOn_2.eq_2, if_neg (m_ge16 (by omega)), m_hasY hn h16 (by omega), m_bind, if_neg m_1_0, m_in (by omega) (by decide), m_ckt, m_clamp (by omega)]
    by_cases h : g 6 i = p
    · rw [if_pos h]
      exact ⟨_, rfl, Or.inr ⟨i, by omega, h, rfl⟩⟩
    · rw [if_neg h, nI_1]
      exact ih (i + 1) fu (by omega) (by omega) (fun o ho => by
        by_cases e : o = i
        · subst e; exact h
        · exact hb o (by omega))
theorem m_orderOn (hn : g 0 1 = nI n) (h16 : n ≤ 16) (hN : 17 ≤ N) (p : Int32) : ∃ r, fX2_orderOn N p g = some r ∧ m_On n (g 6) p r := m_onL hn h16 p n 0 N (by omega) (by omega) (fun o ho => by omega)
theorem m_stL (hs : m 1 2 = nI n) (h16 : n ≤ 16) (p : Int32) : ∀ (k i fu : Nat) (x : Int32), i + k = n → k < fu → m_On i (fun o => m 1 (12 + 9 * o + 6)) p x → ∃ r, lX5_standing_4 N p m fu x (nI i) = some r ∧ m_On n (fun o => m 1 (12 + 9 * o + 6)) p r := by
  intro k
  induction k with
  | zero =>
    intro i fu x hi hfu hx
    obtain ⟨fu, rfl⟩ : ∃ q, fu = q + 1 := ⟨fu - 1, by omega⟩
    have e : i = n := by omega
    subst e
    refine ⟨x, ?_, hx⟩
    rw [lX5_standing_4.eq_2, m_t2, hs, if_pos (nI_le (by omega) (by omega))]
  | succ k ih =>
    intro i fu x hi hfu hx
    obtain ⟨fu, rfl⟩ : ∃ q, fu = q + 1 := ⟨fu - 1, by omega⟩
    rw [lX5_standing_4.eq_2, m_t2, hs, if_neg (nI_ge (by omega) (by omega)), m_part (p := 5) (k := 5) (r := 6) rfl rfl (by omega) (by decide), m_bind]
    by_cases h : m 1 (12 + 9 * i + 6) = p
    · rw [if_pos h, nI_1]
      exact ih (i + 1) fu _ (by omega) (by omega) (Or.inr ⟨i, by omega, h, rfl⟩)
    · rw [if_neg h, nI_1]
      refine ih (i + 1) fu _ (by omega) (by omega) ?_
      rcases hx with ⟨e, hx⟩ | ⟨o, ho, e, hr⟩
      · refine Or.inl ⟨e, fun o ho => ?_⟩
        by_cases ei : o = i
        · subst ei
          exact h
        · exact hx o (by omega)
      · exact Or.inr ⟨o, by omega, e, hr⟩
theorem m_standing (hs : m 1 2 = nI n) (h16 : n ≤ 16) (hN : 17 ≤ N) (p : Int32) : ∃ r, fX5_standing N p m = some r ∧ m_On n (fun o => m 1 (12 + 9 * o + 6)) p r := m_stL hs h16 p n 0 N (-1) (by omega) (by omega) (Or.inl ⟨rfl, fun o ho => by omega⟩)
end MEV
end
section
/-! both sides in step: refund, put, all off, where an order wants to stand -/
theorem m_cm (g : z_R) {r q : Nat} (i j : Nat) (v w : Int32) (h : r ≠ q) : z_u2 (z_u2 g r i v) q j w = z_u2 (z_u2 g q j w) r i v := by
  funext a
  by_cases h1 : a = q
  · subst h1
    rw [m_u2s, m_u2n g i v (fun e => h e.symm), m_u2n _ i v (fun e => h e.symm), m_u2s]
  · rw [m_u2n _ j w h1]
    by_cases h2 : a = r
    · subst h2; rw [m_u2s, m_u2s, m_u2n g j w h]
    · rw [m_u2n g i v h2, m_u2n _ i v h2, m_u2n g j w h1]
theorem m_auY {N a : Nat} (ha : a < 4) : fX4_isAuthor N (nI a) = some 1 := by
  unfold fX4_isAuthor
  rw [if_neg (m_neg (by omega)), if_neg (m_ge4 (by omega))]
section MR3
variable {E : Nat → Prop} {N n P T J : Nat} {g m : z_R} {s : Nat → Int32}
theorem m_refC {o a : Nat} (ho : o < 16) (ha : g 1 o = nI a) (ha4 : a < 4) : fX2_refund N (nI o) g = some (g 8 o, z_u2 (z_u2 g 11 a (g 11 a + g 8 o)) 8 o 0) := by
  unfold fX2_refund
  rw [m_in ho (by decide), m_ckt, m_ckt, m_clamp (by omega), m_lt, m_ckt, m_u2n g o 0 (by decide : (1 : Nat) ≠ 8), ha, m_auY ha4, m_bind, if_neg m_1_0, m_ckt, m_in ha4 (by decide), m_ckt, m_ckt, m_clamp (by omega), m_lt, m_u2n g o 0 (by decide : (11 : Nat) ≠ 8), m_cm g o a 0 _ (by decide)]
theorem m_refM {o a : Nat} (ho : o < 16) (ha : s (12 + 9 * o + 1) = nI a) (ha4 : a < 4) : fX5_refund N (nI o) (z_uR m 1 s) = some (s (12 + 9 * o + 8), z_uR m 1 (upd (upd s (9 + a) (s (9 + a) + s (12 + 9 * o + 8))) (12 + 9 * o + 8) 0)) := by
  unfold fX5_refund
  rw [m_part (p := 7) (k := 7) (r := 8) rfl rfl ho (by decide), m_bind, m_part (p := 0) (k := 0) (r := 1) rfl rfl ho (by decide), m_bind, m_same, ha, show (9 : Int32) + nI a = nI (9 + a) from nI_add 9 a, m_in (by omega) (by decide), m_ckt, m_ckt, m_clamp (by omega), m_uRR, m_lt, m_setP (p := 7) (k := 7) (r := 8) rfl rfl ho (by decide), m_bind]
/-- the open bribe of an order is refunded, on both sides -/
theorem m_refund (h : RS E n P T J g s) (hE1 : E 1) (hE : E 11 → E 8) {o : Nat} (ho : o < n) : ∃ g' s', fX2_refund N (nI o) g = some (g 8 o, g') ∧ fX5_refund N (nI o) (z_uR m 1 s) = some (s (12 + 9 * o + 8), z_uR m 1 s') ∧ RS E n P T J g' s' ∧ (∀ r, r ≠ 8 → r ≠ 11 → g' r = g r) ∧ (∀ k, g' 8 k = 0 ∨ g' 8 k = g 8 k) ∧ g' 8 o = 0 ∧ (∀ k, k ≠ 12 + 9 * o + 8 → (k < 9 ∨ 13 ≤ k) → s' k = s k) := by
  obtain ⟨a, ha4, ha⟩ := h.au ho
  have h16 := h.n16
  have hsa : s (12 + 9 * o + 1) = nI a := by rw [h.or ho (by decide) (by decide) hE1, ha]
  have h1 := h.acc (i := a) (r := 11) (v := g 11 a + g 8 o) (w := s (9 + a) + s (12 + 9 * o + 8)) ha4 (Or.inr rfl) (fun e => by rw [h.rf ha4 e, h.or ho (by decide) (by decide) (hE e)])
  rw [show 4 * 11 - 35 + a = 9 + a by omega] at h1
  have h2 := h1.part (j := o) (r := 8) (v := 0) ho (by decide) (by decide) (by
    refine ⟨?_, ?_, ?_, ?_, ?_⟩ <;> intro e <;> omega) (fun e => by omega)
  refine ⟨_, _, m_refC (by omega) ha ha4, m_refM (by omega) hsa ha4, h2, fun r h8 h11 => ?_, fun k => ?_, ?_, fun k hk hk2 => ?_⟩
  · rw [m_u2n _ o 0 h8, m_u2n g a _ h11]
  · rw [m_u2s]
    by_cases hk : k = o
    · subst hk; exact Or.inl (m_us _ _ _)
    · rw [m_un _ 0 hk, m_u2n g a _ (by decide : (8 : Nat) ≠ 11)]; exact Or.inr rfl
  · rw [m_u2s, m_us]
  · rw [m_un _ _ hk, m_un _ _ (by omega)]
theorem m_Vd6 {P : Nat} {v : Int32} (h : v = -1 ∨ ∃ p, p < P ∧ v = nI p) : m_Vd P 6 v := by
  refine ⟨?_, ?_, ?_, ?_, fun _ => h⟩ <;> intro e <;> omega
theorem m_Vd7 {P : Nat} {v : Int32} {r : Nat} (h : 7 ≤ r) : m_Vd P r v := by
  refine ⟨?_, ?_, ?_, ?_, ?_⟩ <;> intro e <;> omega
/-- an order is put on a place (or off), with its refund: the class refunds first -/
theorem m_put (h : RS E n P T J g s) (hE1 : E 1) (hE : E 11 → E 8) {o : Nat} (ho : o < n) {v : Int32} (hv : v = -1 ∨ ∃ p, p < P ∧ v = nI p) (hf : v = -1 ∨ ∀ q, q < n → q ≠ o → g 6 q ≠ v) : ∃ g' s' s'', fX2_put N (nI o) v g = some (g 8 o, g') ∧ fX5_moved N (nI o) v (z_uR m 1 s) = some (s (12 + 9 * o + 8), z_uR m 1 s') ∧ RS E n P T J g' s' ∧
    (∃ s1, fX5_refund N (nI o) (z_uR m 1 s) = some (s (12 + 9 * o + 8), z_uR m 1 s1) ∧ s'' = upd (upd s1 (12 + 9 * o + 6) v) (12 + 9 * o + 7) (-1) ∧ ∀ k, k ≠ 12 + 9 * o + 8 → (k < 9 ∨ 13 ≤ k) → s1 k = s k) ∧ RS E n P T J g' s'' ∧ (∀ r, r ≠ 8 → r ≠ 11 → r ≠ 6 → r ≠ 7 → g' r = g r) ∧ g' 6 = upd (g 6) o v ∧ g' 7 = upd (g 7) o (-1) := by
  have h16 := h.n16
  obtain ⟨g1, s1, c1, c2, c3, c4, c5, c6⟩ := m_refund (N := N) (m := m) h hE1 hE ho
  have hv6 : ∀ {q}, q < n → q ≠ o → g1 6 q = g 6 q := fun _ _ => by rw [c4 6 (by decide) (by decide)]
  have d1 := (c3.part (j := o) (r := 6) (v := v) ho (by decide) (by decide) (m_Vd6 hv) (fun _ => hf.imp id fun hq q h1 h2 => by rw [hv6 h1 h2]; exact hq q h1 h2)).part (j := o) (r := 7) (v := -1) ho (by decide) (by decide) (m_Vd7 (by decide)) (fun e => by omega)
  -- the other order of the steps
  have e1 := (h.part (j := o) (r := 6) (v := v) ho (by decide) (by decide) (m_Vd6 hv) (fun _ => hf)).part (j := o) (r := 7) (v := -1) ho (by decide) (by decide) (m_Vd7 (by decide)) (fun e => by omega)
  obtain ⟨g2, s2, b1, b2, b3, b4, b5, b6⟩ := m_refund (N := N) (m := m) e1 hE1 hE ho
  obtain ⟨a, ha4, ha⟩ := h.au ho
  have hg8 : z_u2 (z_u2 g 6 o v) 7 o (-1) 8 = g 8 := by rw [m_u2n _ o _ (by decide : (8 : Nat) ≠ 7), m_u2n _ o _ (by decide : (8 : Nat) ≠ 6)]
  have hg11 : z_u2 (z_u2 g 6 o v) 7 o (-1) 11 = g 11 := by rw [m_u2n _ o _ (by decide : (11 : Nat) ≠ 7), m_u2n _ o _ (by decide : (11 : Nat) ≠ 6)]
  have hg1 : z_u2 (z_u2 g 6 o v) 7 o (-1) 1 = g 1 := by rw [m_u2n _ o _ (by decide : (1 : Nat) ≠ 7), m_u2n _ o _ (by decide : (1 : Nat) ≠ 6)]
  have eg1 : g1 = z_u2 (z_u2 g 11 a (g 11 a + g 8 o)) 8 o 0 := by
    rw [m_refC (by omega) ha ha4] at c1
    exact (Prod.mk.inj (Option.some.inj c1)).2.symm
  have eg2 : g2 = z_u2 (z_u2 (z_u2 (z_u2 g 6 o v) 7 o (-1)) 11 a (g 11 a + g 8 o)) 8 o 0 := by
    have q := m_refC (N := N) (g := z_u2 (z_u2 g 6 o v) 7 o (-1)) (o := o) (by omega) (by rw [hg1]; exact ha) ha4
    rw [q, hg8, hg11] at b1
    exact (Prod.mk.inj (Option.some.inj b1)).2.symm
  have eg : g2 = z_u2 (z_u2 g1 6 o v) 7 o (-1) := by
    rw [eg1, eg2]
    rw [m_cm _ o o 0 v (by decide : (8 : Nat) ≠ 6), m_cm _ o o 0 (-1) (by decide : (8 : Nat) ≠ 7), m_cm _ a o _ v (by decide : (11 : Nat) ≠ 6), m_cm _ a o _ (-1) (by decide : (11 : Nat) ≠ 7)]
  rw [eg] at b3
  have hs8 : upd (upd s (12 + 9 * o + 6) v) (12 + 9 * o + 7) (-1) (12 + 9 * o + 8) = s (12 + 9 * o + 8) := by rw [m_un _ _ (by omega), m_un _ _ (by omega)]
  rw [hs8] at b2
  refine ⟨_, s2, _, ?_, ?_, b3, ⟨s1, c2, rfl, c6.2⟩, d1, fun r r8 r11 r6 r7 => ?_, ?_, ?_⟩
  · unfold fX2_put
    rw [c1, m_b2, m_in (by omega) (by decide), m_ckt, m_clamp (by omega), m_lt, m_ckt, m_lt]
  · unfold fX5_moved
    rw [m_setP (p := 5) (k := 5) (r := 6) rfl rfl (by omega) (by decide), m_bind, m_setP (p := 6) (k := 6) (r := 7) rfl rfl (by omega) (by decide), m_bind, b2, m_b2]
  · rw [m_u2n _ o _ r7, m_u2n _ o _ r6, c4 r r8 r11]
  · rw [m_u2n _ o _ (by decide : (6 : Nat) ≠ 7), m_u2s, c4 6 (by decide) (by decide)]
  · rw [m_u2s, m_u2n _ o _ (by decide : (7 : Nat) ≠ 6), c4 7 (by decide) (by decide)]
theorem m_toC (hE1 : E 1) (hE : E 11 → E 8) : ∀ (k i fu fv : Nat) (g : z_R) (s : Nat → Int32), i + k = n → k < fu → k < fv → RS E n P T J g s → (∀ o, o < i → g 6 o = -1 ∧ g 7 o = -1 ∧ s (12 + 9 * o + 6) = -1 ∧ s (12 + 9 * o + 7) = -1) → ∃ g' s', lX2_takeAllOff_2 N fu (nI i) g = some g' ∧ lX5_takeOff_2 N fv (nI i) (z_uR m 1 s) = some (z_uR m 1 s') ∧ RS E n P T J g' s' ∧ (∀ o, o < n → g' 6 o = -1 ∧ g' 7 o = -1 ∧ s' (12 + 9 * o + 6) = -1 ∧ s' (12 + 9 * o + 7) = -1) ∧ (∀ r, r ≠ 8 → r ≠ 11 → r ≠ 6 → r ≠ 7 → g' r = g r) := by
  intro k
  induction k with
  | zero =>
    intro i fu fv g s hi hfu hfv h hb
    obtain ⟨fu, rfl⟩ : ∃ q, fu = q + 1 := ⟨fu - 1, by omega⟩
    obtain ⟨fv, rfl⟩ : ∃ q, fv = q + 1 := ⟨fv - 1, by omega⟩
    have e : i = n := by omega
    subst e
    have h16 := h.n16
    refine ⟨g, s, ?_, ?_, h, hb, fun _ _ _ _ _ => rfl⟩
    · rw [lX2_takeAllOff_2.eq_2]
      by_cases c : (16 : Int32) ≤ nI i
      · rw [if_pos c]
      · rw [if_neg c, m_hasN h.gn (Or.inr (nI_le (by omega) (by omega))), m_bind, if_pos m_00]
    · rw [lX5_takeOff_2.eq_2, m_same, m_t2, h.sn, if_pos (nI_le (by omega) (by omega))]
  | succ k ih =>
    intro i fu fv g s hi hfu hfv h hb
    obtain ⟨fu, rfl⟩ : ∃ q, fu = q + 1 := ⟨fu - 1, by omega⟩
    obtain ⟨fv, rfl⟩ : ∃ q, fv = q + 1 := ⟨fv - 1, by omega⟩
    have h16 := h.n16
    obtain ⟨g1, s0, s1, a1, -, -, ⟨s3, a4, a5, a10⟩, a6, a7, a8, a9⟩ := m_put (N := N) (m := m) h hE1 hE (o := i) (by omega) (v := -1) (Or.inl rfl) (Or.inl rfl)
    obtain ⟨g', s', b1, b2, b3, b4, b5⟩ := ih (i + 1) fu fv g1 s1 (by omega) (by omega) (by omega) a6 (fun o ho => by
      rw [a8, a9]
      by_cases e : o = i
      · subst e
        refine ⟨m_us _ _ _, m_us _ _ _, ?_, ?_⟩
        · rw [a5, m_un _ _ (by omega), m_us]
        · rw [a5, m_us]
      · rw [m_un _ _ e, m_un _ _ e, a5, m_un _ _ (by omega), m_un _ _ (by omega), m_un _ _ (by omega), m_un _ _ (by omega), a10 _ (by omega) (by omega), a10 _ (by omega) (by omega)]; exact hb o (by omega))
    refine ⟨g', s', ?_, ?_, b3, b4, fun r r8 r11 r6 r7 => by rw [b5 r r8 r11 r6 r7, a7 r r8 r11 r6 r7]⟩
    · rw [lX2_takeAllOff_2.eq_2, if_neg (m_ge16 (by omega)), m_hasY h.gn h16 (by omega), m_bind, if_neg m_1_0, a1, m_b2, nI_1]
      exact b1
    · rw [lX5_takeOff_2.eq_2, m_same, m_t2, h.sn, if_neg (nI_ge (by omega) (by omega)), a4, m_b2, m_setP (p := 5) (k := 5) (r := 6) rfl rfl (by omega) (by decide), m_bind, m_setP (p := 6) (k := 6) (r := 7) rfl rfl (by omega) (by decide), m_bind, nI_1, ← a5]
      exact b2
/-- all orders are taken off -/
theorem m_takeOff (h : RS E n P T J g s) (hE1 : E 1) (hE : E 11 → E 8) (hN : 17 ≤ N) : ∃ g' s', fX2_takeAllOff N g = some g' ∧ fX5_takeOff N (z_uR m 1 s) = some (z_uR m 1 s') ∧ RS E n P T J g' s' ∧ (∀ o, o < n → g' 6 o = -1 ∧ g' 7 o = -1 ∧ s' (12 + 9 * o + 6) = -1 ∧ s' (12 + 9 * o + 7) = -1) ∧ (∀ r, r ≠ 8 → r ≠ 11 → r ≠ 6 → r ≠ 7 → g' r = g r) := by
  have h16 := h.n16
  exact m_toC hE1 hE n 0 N N g s (by omega) (by omega) (by omega) h (fun o ho => by omega)
end MR3
end
section
/-! where an order wants to be laid -/
section MR4
variable {E : Nat → Prop} {N n P T J : Nat} {g m : z_R} {s : Nat → Int32}
theorem m_mod2 (x : Nat) {P : Nat} : (x + 2 * P) % P = x % P := by rw [Nat.mul_comm, Nat.add_mul_mod_self_left]
/-- the class's walk over the orders before: ends at the first one that stands and leads to o -/
theorem m_wC (hn : g 0 1 = nI n) (h16 : n ≤ 16) (x : Int32) (kk : Unit → Option Int32) : ∀ (k i fu : Nat), i + k = n → k < fu → ((∀ q, i ≤ q → q < n → ¬ (g 6 q ≠ -1 ∧ g 3 q = x)) ∧ lX2_wantedPlace_2 N x g kk fu (nI i) = kk ()) ∨ ∃ q, i ≤ q ∧ q < n ∧ g 6 q ≠ -1 ∧ g 3 q = x ∧ (∀ u, i ≤ u → u < q → ¬ (g 6 u ≠ -1 ∧ g 3 u = x)) ∧ lX2_wantedPlace_2 N x g kk fu (nI i) = fX2_around N ((g 6 q + 1) + g 2 q) g := by
  intro k
  induction k with
  | zero =>
    intro i fu hi hfu
    obtain ⟨fu, rfl⟩ : ∃ q, fu = q + 1 := ⟨fu - 1, by omega⟩
    refine Or.inl ⟨fun q h1 h2 => by omega, ?_⟩
    rw [lX2_wantedPlace_2.eq_2]
    by_cases c : (16 : Int32) ≤ nI i
    · rw [if_pos c]
    · rw [if_neg c, m_hasN hn (Or.inr (nI_le (by omega) (by omega))), m_bind, if_pos m_00]
  | succ k ih =>
    intro i fu hi hfu
    obtain ⟨fu, rfl⟩ : ∃ q, fu = q + 1 := ⟨fu - 1, by omega⟩
    have step : lX2_wantedPlace_2 N x g kk (fu + 1) (nI i) = (if g 6 i = -1 then lX2_wantedPlace_2 N x g kk fu (nI (i + 1)) else if g 3 i = x then fX2_around N ((g 6 i + 1) + g 2 i) g else lX2_wantedPlace_2 N x g kk fu (nI (i + 1))) := by
      rw [lX2_wantedPlace_2.eq_2, if_neg (m_ge16 (by omega)), m_hasY hn h16 (by omega), m_bind, if_neg m_1_0, m_in (by omega) (by decide), m_ckt, m_ckt, m_ckt, m_ckt, m_clamp (by omega), nI_1]
      congr 1
      congr 1
      cases fX2_around N (g 6 i + 1 + g 2 i) g <;> rfl
    by_cases h6 : g 6 i = -1
    · rw [step, if_pos h6]
      rcases ih (i + 1) fu (by omega) (by omega) with ⟨a, b⟩ | ⟨q, a1, a2, a3, a4, a5, b⟩
      · refine Or.inl ⟨fun q h1 h2 => ?_, b⟩
        by_cases e : q = i
        · subst e; exact fun h => h.1 h6
        · exact a q (by omega) h2
      · refine Or.inr ⟨q, by omega, a2, a3, a4, fun u h1 h2 => ?_, b⟩
        by_cases e : u = i
        · subst e; exact fun h => h.1 h6
        · exact a5 u (by omega) h2
    · by_cases h3 : g 3 i = x
      · rw [step, if_neg h6, if_pos h3]
        exact Or.inr ⟨i, Nat.le_refl i, by omega, h6, h3, fun u h1 h2 => by omega, rfl⟩
      · rw [step, if_neg h6, if_neg h3]
        rcases ih (i + 1) fu (by omega) (by omega) with ⟨a, b⟩ | ⟨q, a1, a2, a3, a4, a5, b⟩
        · refine Or.inl ⟨fun q h1 h2 => ?_, b⟩
          by_cases e : q = i
          · subst e; exact fun h => h3 h.2
          · exact a q (by omega) h2
        · refine Or.inr ⟨q, by omega, a2, a3, a4, fun u h1 h2 => ?_, b⟩
          by_cases e : u = i
          · subst e; exact fun h => h3 h.2
          · exact a5 u (by omega) h2
/-- the reference's walk back: the value of the first one wins -/
theorem m_wM (hP : m 1 0 = nI P) (h0 : 0 < P) (hP4 : P ≤ 40) (h16 : n ≤ 16) (x : Int32) : ∀ (i fu : Nat) (y : Int32), i ≤ n → i < fu → ∃ z, lX5_wanted_53 N x m fu y (nI i - 1) = some ((z + 2 * nI P) - (z + 2 * nI P) / nI P * nI P) ∧ (((∀ q, q < i → ¬ (m 1 (12 + 9 * q + 6) ≠ -1 ∧ m 1 (12 + 9 * q + 3) = x)) ∧ z = y) ∨ ∃ q, q < i ∧ m 1 (12 + 9 * q + 6) ≠ -1 ∧ m 1 (12 + 9 * q + 3) = x ∧ (∀ u, u < q → ¬ (m 1 (12 + 9 * u + 6) ≠ -1 ∧ m 1 (12 + 9 * u + 3) = x)) ∧ z = (m 1 (12 + 9 * q + 6) + 1) + m 1 (12 + 9 * q + 2)) := by
  intro i
  induction i with
  | zero =>
    intro fu y hi hfu
    obtain ⟨fu, rfl⟩ : ∃ q, fu = q + 1 := ⟨fu - 1, by omega⟩
    refine ⟨y, ?_, Or.inl ⟨fun q h => by omega, rfl⟩⟩
    rw [lX5_wanted_53.eq_2, if_pos (by decide), m_t0, hP, m_nz h0 (by omega), m_ckt]
  | succ i ih =>
    intro fu y hi hfu
    obtain ⟨fu, rfl⟩ : ∃ q, fu = q + 1 := ⟨fu - 1, by omega⟩
    have e1 : nI (i + 1) - 1 = nI i := nI_pred i
    have e2 : nI i + (-1) = nI i - 1 := (Int32.sub_eq_add_neg (nI i) 1).symm
    have step : lX5_wanted_53 N x m (fu + 1) y (nI (i + 1) - 1) = (if m 1 (12 + 9 * i + 6) = -1 then lX5_wanted_53 N x m fu y (nI i - 1) else if m 1 (12 + 9 * i + 3) = x then lX5_wanted_53 N x m fu ((m 1 (12 + 9 * i + 6) + 1) + m 1 (12 + 9 * i + 2)) (nI i - 1) else lX5_wanted_53 N x m fu y (nI i - 1)) := by
      rw [lX5_wanted_53.eq_2, e1, if_neg (m_neg (by omega)), m_part (p := 5) (k := 5) (r := 6) rfl rfl (by omega) (by decide), m_bind, e2, m_part (p := 2) (k := 2) (r := 3) rfl rfl (by omega) (by decide), m_bind, m_bind, m_part (p := 1) (k := 1) (r := 2) rfl rfl (by omega) (by decide), m_bind]
    by_cases h6 : m 1 (12 + 9 * i + 6) = -1
    · obtain ⟨z, hz, hc⟩ := ih fu y (by omega) (by omega)
      refine ⟨z, by rw [step, if_pos h6]; exact hz, ?_⟩
      rcases hc with ⟨a, b⟩ | ⟨q, a1, a2, a3, a4, b⟩
      · refine Or.inl ⟨fun q hq => ?_, b⟩
        by_cases e : q = i
        · subst e; exact fun h => h.1 h6
        · exact a q (by omega)
      · exact Or.inr ⟨q, by omega, a2, a3, a4, b⟩
    · by_cases h3 : m 1 (12 + 9 * i + 3) = x
      · obtain ⟨z, hz, hc⟩ := ih fu ((m 1 (12 + 9 * i + 6) + 1) + m 1 (12 + 9 * i + 2)) (by omega) (by omega)
        refine ⟨z, by rw [step, if_neg h6, if_pos h3]; exact hz, ?_⟩
        rcases hc with ⟨a, b⟩ | ⟨q, a1, a2, a3, a4, b⟩
        · exact Or.inr ⟨i, by omega, h6, h3, a, b⟩
        · exact Or.inr ⟨q, by omega, a2, a3, a4, b⟩
      · obtain ⟨z, hz, hc⟩ := ih fu y (by omega) (by omega)
        refine ⟨z, by rw [step, if_neg h6, if_neg h3]; exact hz, ?_⟩
        rcases hc with ⟨a, b⟩ | ⟨q, a1, a2, a3, a4, b⟩
        · refine Or.inl ⟨fun q hq => ?_, b⟩
          by_cases e : q = i
          · subst e; exact fun h => h3 h.2
          · exact a q (by omega)
        · exact Or.inr ⟨q, by omega, a2, a3, a4, b⟩
theorem m_2P (P : Nat) : (2 : Int32) * nI P = nI (2 * P) := pk_mul 2 P
theorem m_fin {k : Nat} (h0 : 0 < P) (hP : P ≤ 40) (hk : k < 2 ^ 30) : (nI k + 2 * nI P) - (nI k + 2 * nI P) / nI P * nI P = nI (k % P) := by
  rw [m_2P, nI_add, pk_rem (by omega) h0 (by omega), m_mod2]
theorem m_finD {p w : Nat} (h0 : 6 ≤ P) (hP : P ≤ 40) (hp : p < P) (hw : w ≤ 9) : (((nI p - 1) - nI w) + 2 * nI P) - (((nI p - 1) - nI w) + 2 * nI P) / nI P * nI P = nI ((p + 2 * P - 1 - w) % P) ∧ fX2_around N ((nI p - 1) - nI w) g = fX2_around N (nI p - nI (1 + w)) g := by
  have e1 : (nI p - 1) - nI w = nI p - nI (1 + w) := by
    rw [← nI_add, show nI 1 = (1 : Int32) from rfl]
    apply Int32.toBitVec_inj.mp
    show (nI p).toBitVec - (1 : Int32).toBitVec - (nI w).toBitVec = (nI p).toBitVec - ((1 : Int32).toBitVec + (nI w).toBitVec)
    bv_omega
  refine ⟨?_, by rw [e1]⟩
  have e2 : nI p - nI (1 + w) + 2 * nI P = nI (p + 2 * P - 1 - w) := by
    rw [m_2P]
    have e3 : nI p + nI (2 * P) = nI (p + 2 * P - 1 - w) + nI (1 + w) := by rw [nI_add, nI_add]; congr 1; omega
    apply Int32.toBitVec_inj.mp
    have e4 := congrArg Int32.toBitVec e3
    have e5 : (nI p).toBitVec + (nI (2 * P)).toBitVec = (nI (p + 2 * P - 1 - w)).toBitVec + (nI (1 + w)).toBitVec := e4
    show (nI p).toBitVec - (nI (1 + w)).toBitVec + (nI (2 * P)).toBitVec = (nI (p + 2 * P - 1 - w)).toBitVec
    bv_omega
  rw [e1, e2, pk_rem (by omega) (by omega) (by omega)]
/-- both sides want the same place -/
theorem m_wanted (h : RS E n P T J g s) (hE2 : E 2) (hE3 : E 3) (hE6 : E 6) (hN : 17 ≤ N) {o : Nat} (ho : o < n) : ∃ w, w < P ∧ fX2_wantedPlace N (nI o) g = some (nI w) ∧ fX5_wanted N (nI o) (z_uR m 1 s) = some (nI w) := by
  have h16 := h.n16
  have hP6 := h.P6
  have hP4 := h.P40
  have hsP : (z_uR m 1 s) 1 0 = nI P := by rw [m_same]; exact h.sP
  have hsn : (z_uR m 1 s) 1 2 = nI n := by rw [m_same]; exact h.sn
  have r6 : ∀ {q}, q < n → s (12 + 9 * q + 6) = g 6 q := fun hq => h.or hq (by decide) (by decide) hE6
  have r3 : ∀ {q}, q < n → s (12 + 9 * q + 3) = g 3 q := fun hq => h.or hq (by decide) (by decide) hE3
  have r2 : ∀ {q}, q < n → s (12 + 9 * q + 2) = g 2 q := fun hq => h.or hq (by decide) (by decide) hE2
  -- what the reference begins with
  obtain ⟨y, hy, hyv⟩ : ∃ y, fX5_wanted N (nI o) (z_uR m 1 s) = lX5_wanted_53 N (nI o) (z_uR m 1 s) N y (nI n - 1) ∧ ((y = 0 ∧ fX2_isOnDrum N (g 3 o) g = some 0) ∨ ∃ q, q < n ∧ g 3 o = nI q ∧ g 6 q ≠ -1 ∧ y = (g 6 q - 1) - g 2 o) := by
    unfold fX5_wanted
    rw [m_part (p := 2) (k := 2) (r := 3) rfl rfl (by omega) (by decide), m_bind, m_same, r3 ho]
    rcases m_cs (g 3 o) (n := n) (by omega) with ⟨q, hq, e⟩ | ⟨hx, hno⟩
    · rw [e, m_ioY hsn h16 hq, m_bind, if_neg m_1_0, m_part (p := 5) (k := 5) (r := 6) rfl rfl (by omega) (by decide), m_bind, m_bind, m_same, r6 hq, m_t2, h.sn]
      by_cases h6 : g 6 q = -1
      · refine ⟨0, by rw [if_pos h6], Or.inl ⟨rfl, ?_⟩⟩
        unfold fX2_isOnDrum
        rw [m_hasY h.gn h16 hq, m_bind, if_neg m_1_0, m_in (by omega) (by decide), m_ckt, m_clamp (by omega), if_pos h6]
      · rw [if_neg h6, m_part (p := 1) (k := 1) (r := 2) rfl rfl (by omega) (by decide), m_bind, m_same, r2 ho]
        exact ⟨_, rfl, Or.inr ⟨q, hq, rfl, h6, rfl⟩⟩
    · rw [m_ioN hsn h16 hx, m_bind, if_pos m_00, m_t2, h.sn]
      refine ⟨0, rfl, Or.inl ⟨rfl, ?_⟩⟩
      unfold fX2_isOnDrum
      rw [m_hasN h.gn hx, m_bind, if_pos m_00]
  obtain ⟨z, hz, hzv⟩ := m_wM (N := N) hsP (by omega) hP4 h16 (nI o) n N y (Nat.le_refl n) (by omega)
  rw [hy, hz]
  rw [m_same] at hzv
  obtain ⟨wo, hw1, hw9, hwe⟩ := h.wo ho
  unfold fX2_wantedPlace
  rcases m_wC (N := N) h.gn h16 (nI o) _ n 0 N (by omega) (by omega) with ⟨a, b⟩ | ⟨q, a1, a2, a3, a4, a5, b⟩
  · rw [nI_0] at b
    rw [b]
    have hz0 : z = y := by
      rcases hzv with ⟨-, e⟩ | ⟨q, q1, q2, q3, -, -⟩
      · exact e
      · exact absurd ⟨by rw [← r6 q1]; exact q2, by rw [← r3 q1]; exact q3⟩ (a q (Nat.zero_le q) q1)
    rw [m_in (show o < 16 by omega) (by decide), m_ckt, m_clamp (by omega), hz0]
    rcases hyv with ⟨e, hd⟩ | ⟨q, hq, e3, h6, e⟩
    · refine ⟨0, by omega, ?_, ?_⟩
      · rw [hd, m_bind, if_pos m_00]
        rfl
      · rw [e, show (0 : Int32) = nI 0 from rfl, m_fin (by omega) hP4 (by decide), Nat.zero_mod]
    · obtain ⟨p, hp, ep⟩ : ∃ p, p < P ∧ g 6 q = nI p := (h.pl hq).resolve_left h6
      have hon : fX2_isOnDrum N (g 3 o) g = some 1 := by
        unfold fX2_isOnDrum
        rw [e3, m_hasY h.gn h16 hq, m_bind, if_neg m_1_0, m_in (by omega) (by decide), m_ckt, m_clamp (by omega), if_neg h6]
      have hf := m_finD (N := N) (g := g) (w := wo) hP6 hP4 hp hw9
      refine ⟨(p + 2 * P - 1 - wo) % P, Nat.mod_lt _ (by omega), ?_, ?_⟩
      · rw [hon, m_bind, if_neg m_1_0, m_ckt, e3, m_in (show q < 16 by omega) (by decide), m_ckt, m_ckt, m_clamp (by omega), hwe, ep, hf.2, m_aroundD h.gP (by omega) (by omega) (by omega) (by omega), m_bind]
        congr 2
        have hlt : (1 + wo) % P ≤ 1 + wo := Nat.mod_le _ _
        have := Nat.div_add_mod (1 + wo) P
        rcases Nat.lt_or_ge (1 + wo) P with hh | hh
        · rw [Nat.mod_eq_of_lt hh, show p + 2 * P - 1 - wo = (p + P - (1 + wo)) + P by omega, Nat.add_mod_right]
        · have hd1 : (1 + wo) / P = 1 := by
            apply Nat.div_eq_of_lt_le <;> omega
          rw [hd1] at this
          rw [show p + 2 * P - 1 - wo = p + P - (1 + wo) % P by omega]
      · rw [e, ep, hwe, hf.1]
  · rw [nI_0] at b
    rw [b]
    obtain ⟨p, hp, ep⟩ : ∃ p, p < P ∧ g 6 q = nI p := (h.pl a2).resolve_left a3
    obtain ⟨wq, hq1, hq9, hqe⟩ := h.wo a2
    have hzq : z = (g 6 q + 1) + g 2 q := by
      rcases hzv with ⟨c, -⟩ | ⟨u, u1, u2, u3, u4, u5⟩
      · exact absurd ⟨by rw [r6 a2]; exact a3, by rw [r3 a2]; exact a4⟩ (c q a2)
      · have hqu : u = q := by
          rcases Nat.lt_trichotomy u q with hl | hl | hl
          · exact absurd ⟨by rw [← r6 u1]; exact u2, by rw [← r3 u1]; exact u3⟩ (a5 u (Nat.zero_le u) hl)
          · exact hl
          · exact absurd ⟨by rw [r6 a2]; exact a3, by rw [r3 a2]; exact a4⟩ (u4 q hl)
        subst hqu
        rw [u5, r6 u1, r2 u1]
    have ev : (nI p + 1) + nI wq = nI (p + 1 + wq) := by rw [nI_1, nI_add]
    refine ⟨(p + 1 + wq) % P, Nat.mod_lt _ (by omega), ?_, ?_⟩
    · rw [ep, hqe, ev, m_aroundP h.gP (by omega) (by omega) (by omega)]
    · rw [hzq, ep, hqe, ev, m_fin (by omega) hP4 (by omega)]
end MR4
end
section
/-! the orders are laid, on both sides -/
def m_key (f : Nat → Int32) (o : Nat) : Nat := (99 - (f o).toNatClampNeg) * 16 + o
def m_Nx (n : Nat) (f : Nat → Int32) (pos : Nat) (r : Int32) : Prop := (r = -1 ∧ ∀ o, o < n → m_key f o < pos) ∨ ∃ o, o < n ∧ r = nI o ∧ pos ≤ m_key f o ∧ ∀ q, q < n → pos ≤ m_key f q → m_key f o ≤ m_key f q
def m_cnt (f : Nat → Nat) (pos : Nat) : Nat → Nat
  | 0 => 0
  | n + 1 => m_cnt f pos n + (if f n < pos then 1 else 0)
theorem m_cnt_le (f : Nat → Nat) (pos : Nat) : ∀ n, m_cnt f pos n ≤ n := by
  intro n
  induction n with
  | zero => exact Nat.le_refl 0
  | succ n ih =>
    show m_cnt f pos n + (if f n < pos then 1 else 0) ≤ n + 1
    split <;> omega
theorem m_cnt_lt (f : Nat → Nat) (pos o : Nat) (h : pos ≤ f o) : ∀ n, o < n → m_cnt f pos n < n := by
  intro n
  induction n with
  | zero => intro h0; omega
  | succ n ih =>
    intro ho
    show m_cnt f pos n + (if f n < pos then 1 else 0) < n + 1
    by_cases e : o = n
    · subst e
      rw [if_neg (by omega)]
      have := m_cnt_le f pos o
      omega
    · have := ih (by omega)
      split <;> omega
theorem m_cnt_mono (f : Nat → Nat) {p q : Nat} (h : p ≤ q) : ∀ n, m_cnt f p n ≤ m_cnt f q n := by
  intro n
  induction n with
  | zero => exact Nat.le_refl 0
  | succ n ih =>
    show m_cnt f p n + (if f n < p then 1 else 0) ≤ m_cnt f q n + (if f n < q then 1 else 0)
    by_cases h1 : f n < p
    · rw [if_pos h1, if_pos (by omega)]; omega
    · rw [if_neg h1]; omega
theorem m_cnt_s (f : Nat → Nat) {pos o : Nat} (h : f o = pos) : ∀ n, o < n → m_cnt f pos n + 1 ≤ m_cnt f (pos + 1) n := by
  intro n
  induction n with
  | zero => intro h0; omega
  | succ n ih =>
    intro ho
    show m_cnt f pos n + (if f n < pos then 1 else 0) + 1 ≤ m_cnt f (pos + 1) n + (if f n < pos + 1 then 1 else 0)
    by_cases e : o = n
    · subst e
      rw [if_neg (by omega), if_pos (by omega)]
      have := m_cnt_mono f (show pos ≤ pos + 1 by omega) o
      omega
    · have := ih (by omega)
      by_cases h1 : f n < pos
      · rw [if_pos h1, if_pos (by omega)]; omega
      · rw [if_neg h1]; omega
section MR5
variable {E : Nat → Prop} {N n P T J : Nat} {g m : z_R} {s : Nat → Int32}
theorem RS.key (h : RS E n P T J g s) {o : Nat} (ho : o < n) : ∃ b, b ≤ 99 ∧ g 5 o = nI b ∧ m_key (g 5) o = (99 - b) * 16 + o := by
  obtain ⟨b, hb, e⟩ := h.br ho
  refine ⟨b, hb, e, ?_⟩
  unfold m_key
  rw [e, m_clamp (by omega)]
/-- one more order is looked at, on the way to the next one to be laid -/
theorem m_nx1 {f : Nat → Int32} {pos i : Nat} {r : Int32} (hi : i < 16) (hb : ∀ o, o ≤ i → ∃ b, b ≤ 99 ∧ f o = nI b) (h : m_Nx i f pos r) : (m_key f i < pos → m_Nx (i + 1) f pos r) ∧ (pos ≤ m_key f i → (r = -1 → m_Nx (i + 1) f pos (nI i)) ∧ ∀ q, q < i → r = nI q → (f i ≤ f q → m_Nx (i + 1) f pos r) ∧ (¬ f i ≤ f q → m_Nx (i + 1) f pos (nI i))) := by
  have key : ∀ o, o ≤ i → ∃ b, b ≤ 99 ∧ f o = nI b ∧ m_key f o = (99 - b) * 16 + o := fun o ho => by
    obtain ⟨b, h1, h2⟩ := hb o ho
    exact ⟨b, h1, h2, by unfold m_key; rw [h2, m_clamp (by omega)]⟩
  refine ⟨fun hk => ?_, fun hk => ⟨fun hr => ?_, fun q hq hr => ⟨fun hle => ?_, fun hle => ?_⟩⟩⟩
  · rcases h with ⟨e, h⟩ | ⟨o, ho, e, h1, h2⟩
    · refine Or.inl ⟨e, fun o ho => ?_⟩
      by_cases c : o = i
      · subst c; exact hk
      · exact h o (by omega)
    · refine Or.inr ⟨o, by omega, e, h1, fun u hu h3 => ?_⟩
      by_cases c : u = i
      · subst c; omega
      · exact h2 u (by omega) h3
  · rcases h with ⟨e, h⟩ | ⟨o, ho, e, h1, h2⟩
    · refine Or.inr ⟨i, by omega, rfl, hk, fun u hu h3 => ?_⟩
      by_cases c : u = i
      · subst c; exact Nat.le_refl _
      · have := h u (by omega); omega
    · rw [e] at hr
      exact absurd hr (m_nN o (by omega))
  · rcases h with ⟨e, h⟩ | ⟨o, ho, e, h1, h2⟩
    · rw [e] at hr
      exact absurd hr.symm (m_nN q (by omega))
    · have eo : o = q := m_nI_inj (by omega) (by omega) (e.symm.trans hr)
      subst eo
      obtain ⟨bi, b1, b2, b3⟩ := key i (Nat.le_refl i)
      obtain ⟨bo, c1, c2, c3⟩ := key o (by omega)
      rw [b2, c2, m_leI (by omega) (by omega)] at hle
      refine Or.inr ⟨o, by omega, e, h1, fun u hu h3 => ?_⟩
      by_cases c : u = i
      · subst c; omega
      · exact h2 u (by omega) h3
  · rcases h with ⟨e, h⟩ | ⟨o, ho, e, h1, h2⟩
    · rw [e] at hr
      exact absurd hr.symm (m_nN q (by omega))
    · have eo : o = q := m_nI_inj (by omega) (by omega) (e.symm.trans hr)
      subst eo
      obtain ⟨bi, b1, b2, b3⟩ := key i (Nat.le_refl i)
      obtain ⟨bo, c1, c2, c3⟩ := key o (by omega)
      rw [b2, c2, m_leI (by omega) (by omega)] at hle
      refine Or.inr ⟨i, by omega, rfl, hk, fun u hu h3 => ?_⟩
      by_cases c : u = i
      · subst c; exact Nat.le_refl _
      · have := h2 u (by omega) h3; omega
/-- the order whose turn is behind that of the last: pos is its key and one, or 0 -/
theorem m_lbL (h : RS E n P T J g s) (x : Int32) (pos : Nat) (hx : (x = -1 ∧ pos = 0) ∨ ∃ l, l < n ∧ x = nI l ∧ pos = m_key (g 5) l + 1) : ∀ (k i fu : Nat) (r : Int32), i + k = n → k < fu → m_Nx i (g 5) pos r → ∃ r', lX2_laidBehind_4 N x g fu r (nI i) = some r' ∧ m_Nx n (g 5) pos r' := by
  have h16 := h.n16
  intro k
  induction k with
  | zero =>
    intro i fu r hi hfu hr
    obtain ⟨fu, rfl⟩ : ∃ q, fu = q + 1 := ⟨fu - 1, by omega⟩
    have e : i = n := by omega
    subst e
    refine ⟨r, ?_, hr⟩
    rw [lX2_laidBehind_4.eq_2]
    by_cases c : (16 : Int32) ≤ nI i
    · rw [if_pos c]
    · rw [if_neg c, m_hasN h.gn (Or.inr (nI_le (by omega) (by omega))), m_bind, if_pos m_00]
  | succ k ih =>
    intro i fu r hi hfu hr
    obtain ⟨fu, rfl⟩ : ∃ q, fu = q + 1 := ⟨fu - 1, by omega⟩
    have hin : i < n := by omega
    have st := m_nx1 (f := g 5) (pos := pos) (i := i) (by omega) (fun o ho => by obtain ⟨b, h1, h2, -⟩ := h.key (o := o) (by omega); exact ⟨b, h1, h2⟩) hr
    have hrc : r = -1 ∨ ∃ q, q < i ∧ r = nI q := by
      rcases hr with ⟨e, -⟩ | ⟨o, ho, e, -, -⟩
      · exact Or.inl e
      · exact Or.inr ⟨o, ho, e⟩
    -- the choice of the better one
    have best : pos ≤ m_key (g 5) i → ∃ r1, m_Nx (i + 1) (g 5) pos r1 ∧ (if r = (-1 : Int32) then lX2_laidBehind_4 N x g fu (nI i) (nI i + 1) else z_ck (z_in (nI i) 16) (z_ck (z_in r 16) (if g 5 (nI i).toNatClampNeg ≤ g 5 r.toNatClampNeg then lX2_laidBehind_4 N x g fu r (nI i + 1) else lX2_laidBehind_4 N x g fu (nI i) (nI i + 1)))) = lX2_laidBehind_4 N x g fu r1 (nI (i + 1)) := by
      intro hk
      rcases hrc with e | ⟨q, hq, e⟩
      · exact ⟨nI i, (st.2 hk).1 e, by rw [if_pos e, nI_1]⟩
      · have hqn : ¬ r = (-1 : Int32) := by rw [e]; exact m_nN q (by omega)
        have sq := (st.2 hk).2 q hq e
        rw [if_neg hqn, m_in (by omega) (by decide), m_ckt, e, m_in (by omega) (by decide), m_ckt, m_clamp (by omega), m_clamp (by omega), nI_1]
        by_cases c : g 5 i ≤ g 5 q
        · exact ⟨nI q, by rw [← e]; exact sq.1 c, by rw [if_pos c]⟩
        · exact ⟨nI i, sq.2 c, by rw [if_neg c]⟩
    rw [lX2_laidBehind_4.eq_2, if_neg (m_ge16 (by omega)), m_hasY h.gn h16 hin, m_bind, if_neg m_1_0]
    rcases hx with ⟨ex, ep⟩ | ⟨l, hl, ex, ep⟩
    · rw [show fX2_has N x g = some 0 by rw [ex]; exact m_hasN h.gn (Or.inl (by decide)), m_bind, if_pos m_00]
      obtain ⟨r1, q1, q2⟩ := best (by omega)
      rw [q2]
      exact ih (i + 1) fu r1 (by omega) (by omega) q1
    · obtain ⟨bi, b1, b2, b3⟩ := h.key hin
      obtain ⟨bl, c1, c2, c3⟩ := h.key hl
      rw [show fX2_has N x g = some 1 by rw [ex]; exact m_hasY h.gn h16 hl, m_bind, if_neg m_1_0, show z_in x 16 = true by rw [ex]; exact m_in (by omega) (by decide)]
      rw [show g 5 x.toNatClampNeg = nI bl by rw [ex, m_clamp (by omega)]; exact c2]
      rw [show g 5 (nI i).toNatClampNeg = nI bi by rw [m_clamp (by omega)]; exact b2] at best ⊢
      rw [show z_in (nI i) 16 = true from m_in (by omega) (by decide)] at best ⊢
      simp only [m_ckt] at best ⊢
      by_cases k1 : nI bi < nI bl
      · rw [if_pos k1]
        rw [m_ltI (by omega) (by omega)] at k1
        obtain ⟨r1, q1, q2⟩ := best (by omega)
        rw [q2]
        exact ih (i + 1) fu r1 (by omega) (by omega) q1
      · rw [if_neg k1]
        rw [m_ltI (by omega) (by omega)] at k1
        by_cases k2 : nI bi = nI bl
        · rw [if_pos k2]
          have k3 := m_nI_inj (by omega) (by omega) k2
          by_cases k4 : nI i ≤ x
          · rw [if_pos k4]
            rw [ex, m_leI (by omega) (by omega)] at k4
            rw [nI_1]
            exact ih (i + 1) fu r (by omega) (by omega) (st.1 (by omega))
          · rw [if_neg k4]
            rw [ex, m_leI (by omega) (by omega)] at k4
            obtain ⟨r1, q1, q2⟩ := best (by omega)
            rw [q2]
            exact ih (i + 1) fu r1 (by omega) (by omega) q1
        · rw [if_neg k2, nI_1]
          have k3 : bi ≠ bl := fun e => k2 (by rw [e])
          exact ih (i + 1) fu r (by omega) (by omega) (st.1 (by omega))
theorem m_laidBehind (h : RS E n P T J g s) (hN : 17 ≤ N) (x : Int32) (pos : Nat) (hx : (x = -1 ∧ pos = 0) ∨ ∃ l, l < n ∧ x = nI l ∧ pos = m_key (g 5) l + 1) : ∃ r', fX2_laidBehind N x g = some r' ∧ m_Nx n (g 5) pos r' := by
  have h16 := h.n16
  exact m_lbL h x pos hx n 0 N (-1) (by omega) (by omega) (Or.inl ⟨rfl, fun o ho => by omega⟩)
theorem m_on2 (h : RS E n P T J g s) (hE6 : E 6) (hN : 17 ≤ N) {p : Int32} (hp : p ≠ -1) : ∃ r, fX2_orderOn N p g = some r ∧ fX5_standing N p (z_uR m 1 s) = some r ∧ m_On n (g 6) p r := by
  have h16 := h.n16
  obtain ⟨r, a1, a2⟩ := m_orderOn (N := N) h.gn h16 hN p
  obtain ⟨q, b1, b2⟩ := m_standing (N := N) (m := z_uR m 1 s) (n := n) (by rw [m_same]; exact h.sn) h16 hN p
  have b3 : m_On n (g 6) p q := by
    rw [m_same] at b2
    rcases b2 with ⟨e, c⟩ | ⟨o, ho, c, e⟩
    · exact Or.inl ⟨e, fun o ho => by rw [← h.or ho (by decide) (by decide) hE6]; exact c o ho⟩
    · exact Or.inr ⟨o, ho, by rw [← h.or ho (by decide) (by decide) hE6]; exact c, e⟩
  have e := m_On_u (fun i j hi hj hij e => h.ap hi hj hij e) hp a2 b3
  exact ⟨r, a1, by rw [e]; exact b1, a2⟩
/-- the search of a free place, from f on -/
theorem m_lay8 (h : RS E n P T J g s) (hE6 : E 6) (hN : 17 ≤ N) {o w a : Nat} (ho : o < n) (hw : w < P) (ha : g 1 o = nI a) (ha4 : a < 4) (x1 x2 x3 : Int32) (kk : Int32 → Option (Int32 × z_R)) : ∀ (k f fu fv : Nat), f + k = P → k < fu → k < fv → ∃ f', f' ≤ P ∧ lX5_laid_45 N x1 x2 x3 (nI w) (z_uR m 1 s) kk fv (nI f) = kk (nI f') ∧ ((f' = P ∧ lX2_layOne_8 N (nI o) (nI w) g fu (nI f) = some g) ∨ (f' < P ∧ (∀ q, q < n → g 6 q ≠ nI ((w + f') % P)) ∧ lX2_layOne_8 N (nI o) (nI w) g fu (nI f) = some (z_u2 (z_u2 (z_u2 (z_u2 g 6 o (nI ((w + f') % P))) 7 o (nI f')) 8 o (g 5 o)) 10 a (g 10 a + g 5 o)))) := by
  have h16 := h.n16
  have hP6 := h.P6
  have hP4 := h.P40
  intro k
  induction k with
  | zero =>
    intro f fu fv hf hfu hfv
    obtain ⟨fu, rfl⟩ : ∃ q, fu = q + 1 := ⟨fu - 1, by omega⟩
    obtain ⟨fv, rfl⟩ : ∃ q, fv = q + 1 := ⟨fv - 1, by omega⟩
    have e : f = P := by omega
    subst e
    refine ⟨f, Nat.le_refl f, ?_, Or.inl ⟨rfl, ?_⟩⟩
    · rw [lX5_laid_45.eq_2, m_same, m_t0, h.sP, if_pos (nI_le (Nat.le_refl f) (by omega))]
    · rw [lX2_layOne_8.eq_2, h.gP, if_pos (nI_le (Nat.le_refl f) (by omega))]
  | succ k ih =>
    intro f fu fv hf hfu hfv
    obtain ⟨fu, rfl⟩ : ∃ q, fu = q + 1 := ⟨fu - 1, by omega⟩
    obtain ⟨fv, rfl⟩ : ∃ q, fv = q + 1 := ⟨fv - 1, by omega⟩
    have hlt := Nat.mod_lt (w + f) (show 0 < P by omega)
    obtain ⟨r, a1, a2, a3⟩ := m_on2 (N := N) (m := m) h hE6 hN (p := nI ((w + f) % P)) (m_nN _ (by omega))
    rw [lX5_laid_45.eq_2, m_same, m_t0, h.sP, if_neg (nI_ge (by omega) (by omega)), m_nz (by omega) (by omega), m_ckt, nI_add, pk_rem (by omega) (by omega) (by omega), a2, m_bind]
    rw [lX2_layOne_8.eq_2, h.gP, if_neg (nI_ge (by omega) (by omega)), nI_add, m_aroundP h.gP (by omega) (by omega) (by omega), m_bind, a1, m_bind]
    rcases a3 with ⟨e, hfree⟩ | ⟨q, hq, e1, e2⟩
    · rw [if_pos e, if_pos e]
      refine ⟨f, by omega, rfl, Or.inr ⟨by omega, hfree, ?_⟩⟩
      rw [m_in (show o < 16 by omega) (by decide), m_ckt, m_clamp (by omega), m_lt, m_ckt, m_lt, m_ckt, m_ckt, m_lt, m_ckt]
      rw [m_u2n _ o _ (by decide : (1 : Nat) ≠ 8), m_u2n _ o _ (by decide : (1 : Nat) ≠ 7), m_u2n _ o _ (by decide : (1 : Nat) ≠ 6), ha, m_auY ha4, m_bind, if_neg m_1_0, m_ckt, m_in ha4 (by decide), m_ckt, m_ckt, m_ckt, m_lt, m_clamp (by omega)]
      rw [m_u2n _ o _ (by decide : (5 : Nat) ≠ 7), m_u2n _ o _ (by decide : (5 : Nat) ≠ 6), m_u2n _ o _ (by decide : (10 : Nat) ≠ 8), m_u2n _ o _ (by decide : (10 : Nat) ≠ 7), m_u2n _ o _ (by decide : (10 : Nat) ≠ 6), m_u2n _ o _ (by decide : (5 : Nat) ≠ 8), m_u2n _ o _ (by decide : (5 : Nat) ≠ 7), m_u2n _ o _ (by decide : (5 : Nat) ≠ 6)]
    · have en : ¬ r = -1 := by rw [e2]; exact m_nN q (by omega)
      rw [if_neg en, if_neg en, nI_1]
      exact ih (f + 1) fu fv (by omega) (by omega) (by omega)
end MR5
end
section
/-! laying, both sides: the class takes the next order, the reference goes over bribes and orders -/
section MR6
variable {E : Nat → Prop} {N n P T J : Nat} {g m : z_R} {s : Nat → Int32}
theorem m_Vd8 {P r : Nat} {v : Int32} (h : 7 ≤ r) : m_Vd P r v := m_Vd7 h
/-- the accounts behind a laid order -/
theorem RS.lay (h : RS E n P T J g s) {o a p f b : Nat} (ho : o < n) (ha4 : a < 4) (hp : p < P) (hfree : ∀ q, q < n → g 6 q ≠ nI p) : RS E n P T J (z_u2 (z_u2 (z_u2 (z_u2 g 6 o (nI p)) 7 o (nI f)) 8 o (nI b)) 10 a (g 10 a + nI b)) (upd (upd (upd (upd s (12 + 9 * o + 6) (nI p)) (12 + 9 * o + 7) (nI f)) (12 + 9 * o + 8) (nI b)) (5 + a) (s (5 + a) + nI b)) := by
  have h1 := ((h.part (j := o) (r := 6) (v := nI p) ho (by decide) (by decide) (m_Vd6 (Or.inr ⟨p, hp, rfl⟩)) (fun _ => Or.inr fun q hq _ => hfree q hq)).part (j := o) (r := 7) (v := nI f) ho (by decide) (by decide) (m_Vd7 (by decide)) (fun e => by omega)).part (j := o) (r := 8) (v := nI b) ho (by decide) (by decide) (m_Vd7 (by decide)) (fun e => by omega)
  have h2 := h1.acc (i := a) (r := 10) (v := g 10 a + nI b) (w := s (5 + a) + nI b) ha4 (Or.inl rfl) (fun e => by rw [h.pd ha4 e])
  rw [show 4 * 10 - 35 + a = 5 + a by omega] at h2
  exact h2
theorem m_Nx_up {f : Nat → Int32} {pos : Nat} {r : Int32} (h : m_Nx n f pos r) (hno : ∀ o, o < n → m_key f o ≠ pos) : m_Nx n f (pos + 1) r := by
  rcases h with ⟨e, h⟩ | ⟨o, ho, e, h1, h2⟩
  · exact Or.inl ⟨e, fun o ho => by have := h o ho; omega⟩
  · exact Or.inr ⟨o, ho, e, by have := hno o ho; omega, fun q hq h3 => h2 q hq (by omega)⟩
theorem m_Nx_skip {f : Nat → Int32} {pos : Nat} {r : Int32} : ∀ (k : Nat), (∀ o, o < n → m_key f o < pos ∨ pos + k ≤ m_key f o) → m_Nx n f pos r → m_Nx n f (pos + k) r := by
  intro k
  induction k generalizing pos with
  | zero => intro _ h; exact h
  | succ k ih =>
    intro hno h
    have h1 := m_Nx_up h (fun o ho e => by rcases hno o ho with q | q <;> omega)
    have h2 := ih (pos := pos + 1) (fun o ho => by rcases hno o ho with q | q <;> omega) h1
    rw [show pos + (k + 1) = pos + 1 + k by omega]
    exact h2
/-- one bribe's orders -/
theorem m_l15 (hE : E 1 ∧ E 2 ∧ E 3 ∧ E 5 ∧ E 6) (hN : 50 ≤ N) {b : Nat} (hb : b ≤ 99) (kk : Int32 → z_R → Option (Int32 × z_R)) : ∀ (k i fu c : Nat) (sum r : Int32) (g : z_R) (s : Nat → Int32), i + k = n → k < fu → RS E n P T J g s → m_Nx n (g 5) ((99 - b) * 16 + i) r → c ≤ m_cnt (m_key (g 5)) ((99 - b) * 16 + i) n → (∀ o, o < n → (99 - b) * 16 + i ≤ m_key (g 5) o → g 6 o = -1 ∧ g 7 o = -1) →
    ∃ g' s' r' sum' c', lX5_laid_15 N (nI b) kk fu sum (nI i) (z_uR m 1 s) = kk sum' (z_uR m 1 s') ∧ (∀ fa, 17 ≤ fa + c → ∃ fa', 17 ≤ fa' + c' ∧ lX2_layAll_14 N fa sum r (nI c) g = lX2_layAll_14 N fa' sum' r' (nI c') g') ∧ RS E n P T J g' s' ∧ m_Nx n (g' 5) ((99 - b) * 16 + n) r' ∧ c' ≤ m_cnt (m_key (g' 5)) ((99 - b) * 16 + n) n ∧ (∀ o, o < n → (99 - b) * 16 + n ≤ m_key (g' 5) o → g' 6 o = -1 ∧ g' 7 o = -1) ∧ (∀ q, q ≠ 6 → q ≠ 7 → q ≠ 8 → q ≠ 10 → g' q = g q) := by
  obtain ⟨hE1, hE2, hE3, hE5, hE6⟩ := hE
  intro k
  induction k with
  | zero =>
    intro i fu c sum r g s hi hfu h hr hc hinv
    obtain ⟨fu, rfl⟩ : ∃ q, fu = q + 1 := ⟨fu - 1, by omega⟩
    have e : i = n := by omega
    subst e
    have h16 := h.n16
    refine ⟨g, s, r, sum, c, ?_, fun fa hfa => ⟨fa, hfa, rfl⟩, h, hr, hc, hinv, fun _ _ _ _ _ => rfl⟩
    rw [lX5_laid_15.eq_2, m_same, m_t2, h.sn, if_pos (nI_le (by omega) (by omega))]
  | succ k ih =>
    intro i fu c sum r g s hi hfu h hr hc hinv
    obtain ⟨fu, rfl⟩ : ∃ q, fu = q + 1 := ⟨fu - 1, by omega⟩
    have h16 := h.n16
    have hP6 := h.P6
    have hP4 := h.P40
    have hin : i < n := by omega
    obtain ⟨bi, k1, k2, k3⟩ := h.key hin
    have hs5 : s (12 + 9 * i + 5) = nI bi := by rw [h.or hin (by decide) (by decide) hE5, k2]
    by_cases hbi : bi = b
    · -- the order i is laid
      subst hbi
      have hr1 : r = nI i := by
        rcases hr with ⟨-, q⟩ | ⟨o, ho, e, q1, q2⟩
        · have := q i hin; omega
        · have q3 := q2 i hin (by omega)
          obtain ⟨bo, o1, o2, o3⟩ := h.key ho
          have : o = i := by omega
          rw [e, this]
      subst hr1
      have hc16 : c < 16 := by
        have := m_cnt_lt (m_key (g 5)) ((99 - bi) * 16 + i) i (by omega) n hin
        omega
      obtain ⟨a, ha4, ha⟩ := h.au hin
      have hsa : s (12 + 9 * i + 1) = nI a := by rw [h.or hin (by decide) (by decide) hE1, ha]
      obtain ⟨h6, h7⟩ := hinv i hin (by omega)
      obtain ⟨w, hw, w1, w2⟩ := m_wanted (N := N) (m := m) h hE2 hE3 hE6 (by omega) hin
      -- what the class does at this order
      have cls : ∀ g1 : z_R, fX2_layOne N (nI i) g = some g1 → ∀ r1, fX2_laidBehind N (nI i) g1 = some r1 → g1 0 1 = nI n → ∀ fa, 17 ≤ fa + c → ∃ fa', 17 ≤ fa' + (c + 1) ∧ lX2_layAll_14 N fa sum (nI i) (nI c) g = lX2_layAll_14 N fa' (if g1 7 i = -1 then sum else sum + g1 7 i) r1 (nI (c + 1)) g1 := by
        intro g1 e1 r1 e2 e3 fa hfa
        obtain ⟨fa, rfl⟩ : ∃ q, fa = q + 1 := ⟨fa - 1, by omega⟩
        refine ⟨fa, by omega, ?_⟩
        rw [lX2_layAll_14.eq_2, if_neg (m_ge16 (by omega)), m_hasY h.gn h16 hin, m_bind, if_neg m_1_0, e1, m_bind, m_in (by omega) (by decide), m_ckt, m_clamp (by omega), e2, m_bind, m_ckt, m_bind, nI_1]
        by_cases q : g1 7 i = -1
        · rw [if_pos q, if_pos q]
        · rw [if_neg q, if_neg q]
      have hlay : fX2_layOne N (nI i) g = lX2_layOne_8 N (nI i) (nI w) g N (nI 0) := by
        unfold fX2_layOne
        rw [w1, m_bind]
        rfl
      have hsn : (z_uR m 1 s) 1 2 = nI n := by rw [m_same]; exact h.sn
      have hsb : (z_uR m 1 s) 1 (12 + 9 * i + 5) = nI bi := by rw [m_same]; exact hs5
      rw [lX5_laid_15.eq_2, m_t2, hsn, if_neg (nI_ge (by omega) (by omega)), m_part (p := 4) (k := 4) (r := 5) rfl rfl (by omega) (by decide), m_bind, hsb, if_pos rfl, w2, m_bind]
      obtain ⟨f, f1, f2, f3⟩ := m_lay8 (N := N) (m := m) h hE6 (by omega) hin hw ha ha4 sum (nI bi) (nI i) (fun x5_45 => (if (z_uR m 1 s) 1 ((0 : Int32)).toNatClampNeg ≤ x5_45 then (lX5_laid_15 N (nI bi) kk fu sum (nI i + (1 : Int32)) (z_uR m 1 s)) else z_ck (z_nz ((z_uR m 1 s) 1 ((0 : Int32)).toNatClampNeg)) <| (fX5_setPart N (nI i) (5 : Int32) ((nI w + x5_45) - (nI w + x5_45) / ((z_uR m 1 s) 1 ((0 : Int32)).toNatClampNeg) * ((z_uR m 1 s) 1 ((0 : Int32)).toNatClampNeg)) (z_uR m 1 s)).bind fun g13 => (fX5_setPart N (nI i) (6 : Int32) x5_45 g13).bind fun g14 => (fX5_setPart N (nI i) (7 : Int32) (nI bi) g14).bind fun g15 => (fX5_part N (nI i) (0 : Int32) g15).bind fun r16 => z_ck (z_in ((5 : Int32) + r16) 925) <| z_ck (z_in ((5 : Int32) + r16) 925) <| z_lt (z_u2 g15 1 (((5 : Int32) + r16)).toNatClampNeg ((g15 1 (((5 : Int32) + r16)).toNatClampNeg) + (nI bi))) fun g19 => (lX5_laid_15 N (nI bi) kk fu (sum + x5_45) (nI i + (1 : Int32)) g19))) P 0 N N (by omega) (by omega) (by omega)
      rw [nI_0] at f2
      rw [f2]
      rw [m_same, m_t0, h.sP]
      rcases f3 with ⟨e, f4⟩ | ⟨e, hfree, f4⟩
      · -- no place is free
        subst e
        rw [if_pos (nI_le (Nat.le_refl f) (by omega)), nI_1]
        obtain ⟨r1, l1, l2⟩ := m_laidBehind (N := N) h (by omega) (nI i) (m_key (g 5) i + 1) (Or.inr ⟨i, hin, rfl, rfl⟩)
        rw [k3, show (99 - bi) * 16 + i + 1 = (99 - bi) * 16 + (i + 1) by omega] at l2
        obtain ⟨g', s', r', sum', c', d1, d2, d3, d4, d5, d6, d7⟩ := ih (i + 1) fu (c + 1) sum r1 g s (by omega) (by omega) h l2 (by
          have := m_cnt_s (m_key (g 5)) k3 n hin
          rw [show (99 - bi) * 16 + (i + 1) = (99 - bi) * 16 + i + 1 by omega]
          omega) (fun o ho hk => hinv o ho (by omega))
        refine ⟨g', s', r', sum', c', d1, fun fa hfa => ?_, d3, d4, d5, d6, d7⟩
        obtain ⟨fb, p1, p2⟩ := cls g (by rw [hlay]; exact f4) r1 l1 h.gn fa hfa
        rw [p2, if_pos h7]
        exact d2 fb p1
      · -- the order stands
        have hp : (w + f) % P < P := Nat.mod_lt _ (by omega)
        rw [k2] at f4
        have h1 := h.lay (f := f) (b := bi) hin ha4 hp hfree
        rw [if_neg (nI_ge e (by omega)), m_nz (by omega) (by omega), m_ckt, nI_add, pk_rem (by omega) (by omega) (by omega), m_setP (p := 5) (k := 5) (r := 6) rfl rfl (by omega) (by decide), m_bind, m_setP (p := 6) (k := 6) (r := 7) rfl rfl (by omega) (by decide), m_bind, m_setP (p := 7) (k := 7) (r := 8) rfl rfl (by omega) (by decide), m_bind, m_part (p := 0) (k := 0) (r := 1) rfl rfl (by omega) (by decide), m_bind, m_same, m_un _ _ (by omega), m_un _ _ (by omega), m_un _ _ (by omega), hsa, show (5 : Int32) + nI a = nI (5 + a) from nI_add 5 a, m_in (by omega) (by decide), m_ckt, m_ckt, m_clamp (by omega), m_un _ _ (show 5 + a ≠ 12 + 9 * i + 8 by omega), m_un _ _ (show 5 + a ≠ 12 + 9 * i + 7 by omega), m_un _ _ (show 5 + a ≠ 12 + 9 * i + 6 by omega), m_uRR, m_lt, nI_1]
        obtain ⟨G, hG⟩ : ∃ G, G = z_u2 (z_u2 (z_u2 (z_u2 g 6 i (nI ((w + f) % P))) 7 i (nI f)) 8 i (nI bi)) 10 a (g 10 a + nI bi) := ⟨_, rfl⟩
        rw [← hG] at f4 h1
        have g5 : G 5 = g 5 := by rw [hG, m_u2n _ _ _ (by decide), m_u2n _ _ _ (by decide), m_u2n _ _ _ (by decide), m_u2n _ _ _ (by decide)]
        have g7 : G 7 = upd (g 7) i (nI f) := by rw [hG, m_u2n _ _ _ (by decide), m_u2n _ _ _ (by decide), m_u2s, m_u2n _ _ _ (by decide)]
        have g6 : G 6 = upd (g 6) i (nI ((w + f) % P)) := by rw [hG, m_u2n _ _ _ (by decide), m_u2n _ _ _ (by decide), m_u2n _ _ _ (by decide), m_u2s]
        obtain ⟨r1, l1, l2⟩ := m_laidBehind (N := N) h1 (by omega) (nI i) (m_key (G 5) i + 1) (Or.inr ⟨i, hin, rfl, rfl⟩)
        rw [show m_key (G 5) i + 1 = (99 - bi) * 16 + (i + 1) by rw [g5, k3]; omega] at l2
        obtain ⟨g', s', r', sum', c', d1, d2, d3, d4, d5, d6, d7⟩ := ih (i + 1) fu (c + 1) (sum + nI f) r1 G _ (by omega) (by omega) h1 l2 (by
          have := m_cnt_s (m_key (g 5)) k3 n hin
          rw [g5, show (99 - bi) * 16 + (i + 1) = (99 - bi) * 16 + i + 1 by omega]
          omega) (fun o ho hk => by
          rw [g5] at hk
          have hoi : o ≠ i := fun e => by subst e; omega
          rw [g6, g7, m_un _ _ hoi, m_un _ _ hoi]
          exact hinv o ho (by omega))
        refine ⟨g', s', r', sum', c', d1, fun fa hfa => ?_, d3, d4, d5, d6, fun q q6 q7 q8 q10 => ?_⟩
        · obtain ⟨fb, p1, p2⟩ := cls G (by rw [hlay]; exact f4) r1 l1 h1.gn fa hfa
          rw [p2, if_neg (show ¬ G 7 i = -1 by rw [g7, m_us]; exact m_nN f (by omega)), show G 7 i = nI f by rw [g7, m_us]]
          exact d2 fb p1
        · rw [d7 q q6 q7 q8 q10, hG, m_u2n _ _ _ q10, m_u2n _ _ _ q8, m_u2n _ _ _ q7, m_u2n _ _ _ q6]
    · -- another bribe
      have hne : ∀ o, o < n → m_key (g 5) o ≠ (99 - b) * 16 + i := fun o ho e => by
        obtain ⟨bo, o1, o2, o3⟩ := h.key ho
        have : o = i := by omega
        subst this
        omega
      obtain ⟨g', s', r', sum', c', d1, d2, d3, d4, d5, d6, d7⟩ := ih (i + 1) fu c sum r g s (by omega) (by omega) h (by rw [show (99 - b) * 16 + (i + 1) = (99 - b) * 16 + i + 1 by omega]; exact m_Nx_up hr hne) (Nat.le_trans hc (m_cnt_mono _ (by omega) n)) (fun o ho hk => hinv o ho (by omega))
      refine ⟨g', s', r', sum', c', ?_, d2, d3, d4, d5, d6, d7⟩
      rw [lX5_laid_15.eq_2, m_same, m_t2, h.sn, if_neg (nI_ge (by omega) (by omega)), m_part (p := 4) (k := 4) (r := 5) rfl rfl (by omega) (by decide), m_bind, m_same, hs5, if_neg (fun e => hbi (m_nI_inj (by omega) (by omega) e)), nI_1]
      exact d1
/-- all bribes from b - 1 down -/
theorem m_l9 (hE : E 1 ∧ E 2 ∧ E 3 ∧ E 5 ∧ E 6) (hN : 110 ≤ N) : ∀ (b fu c : Nat) (sum r : Int32) (g : z_R) (s : Nat → Int32), b ≤ 100 → b < fu → RS E n P T J g s → m_Nx n (g 5) ((100 - b) * 16) r → c ≤ m_cnt (m_key (g 5)) ((100 - b) * 16) n → (∀ o, o < n → (100 - b) * 16 ≤ m_key (g 5) o → g 6 o = -1 ∧ g 7 o = -1) →
    ∃ g' s' sum', lX5_laid_9 N fu sum (nI b - 1) (z_uR m 1 s) = some (sum', z_uR m 1 s') ∧ (∀ fa, 17 ≤ fa + c → lX2_layAll_14 N fa sum r (nI c) g = some (sum', g')) ∧ RS E n P T J g' s' ∧ (∀ q, q ≠ 6 → q ≠ 7 → q ≠ 8 → q ≠ 10 → g' q = g q) := by
  intro b
  induction b with
  | zero =>
    intro fu c sum r g s hb hfu h hr hc hinv
    obtain ⟨fu, rfl⟩ : ∃ q, fu = q + 1 := ⟨fu - 1, by omega⟩
    have h16 := h.n16
    refine ⟨g, s, sum, ?_, fun fa hfa => ?_, h, fun _ _ _ _ _ => rfl⟩
    · rw [lX5_laid_9.eq_2, if_pos (by decide)]
    · have hr1 : r = -1 := by
        rcases hr with ⟨e, -⟩ | ⟨o, ho, e, h1, -⟩
        · exact e
        · obtain ⟨b, q1, q2, q3⟩ := h.key ho
          omega
      have hcn := m_cnt_le (m_key (g 5)) ((100 - 0) * 16) n
      obtain ⟨fa, rfl⟩ : ∃ q, fa = q + 1 := ⟨fa - 1, by omega⟩
      rw [lX2_layAll_14.eq_2, hr1]
      by_cases c16 : (16 : Int32) ≤ nI c
      · rw [if_pos c16]
      · rw [if_neg c16, m_hasN h.gn (Or.inl (by decide)), m_bind, if_pos m_00]
  | succ b ih =>
    intro fu c sum r g s hb hfu h hr hc hinv
    obtain ⟨fu, rfl⟩ : ∃ q, fu = q + 1 := ⟨fu - 1, by omega⟩
    have h16 := h.n16
    have e1 : nI (b + 1) - 1 = nI b := nI_pred b
    have e2 : nI b + (-1) = nI b - 1 := (Int32.sub_eq_add_neg (nI b) 1).symm
    rw [show (100 - (b + 1)) * 16 = (99 - b) * 16 + 0 by omega] at hr hc hinv
    obtain ⟨g1, s1, r1, sum1, c1, a1, a2, a3, a4, a5, a6, a7⟩ := m_l15 (N := N) (m := m) hE (by omega) (b := b) (by omega) (fun x1_15 g15_20 => (lX5_laid_9 N fu x1_15 (nI b + (-1 : Int32)) g15_20)) n 0 N c sum r g s (by omega) (by omega) h hr hc hinv
    have hgap : ∀ o, o < n → m_key (g1 5) o < (99 - b) * 16 + n ∨ (99 - b) * 16 + n + (16 - n) ≤ m_key (g1 5) o := fun o ho => by
      obtain ⟨bo, q1, q2, q3⟩ := a3.key ho
      omega
    have e3 : (99 - b) * 16 + n + (16 - n) = (100 - b) * 16 := by omega
    have a8 := m_Nx_skip (16 - n) hgap a4
    rw [e3] at a8
    obtain ⟨g', s', sum', d1, d2, d3, d4⟩ := ih fu c1 sum1 r1 g1 s1 (by omega) (by omega) a3 a8 (Nat.le_trans a5 (m_cnt_mono _ (by omega) n)) (fun o ho hk => a6 o ho (by omega))
    refine ⟨g', s', sum', ?_, fun fa hfa => ?_, d3, fun q q6 q7 q8 q10 => by rw [d4 q q6 q7 q8 q10, a7 q q6 q7 q8 q10]⟩
    · rw [lX5_laid_9.eq_2, e1, if_neg (m_neg (by omega)), show (0 : Int32) = nI 0 from rfl, a1, e2]
      exact d1
    · obtain ⟨fb, b1, b2⟩ := a2 fa hfa
      rw [b2]
      exact d2 fb b1
/-- the whole laying -/
theorem m_layAll (h : RS E n P T J g s) (hE : E 1 ∧ E 2 ∧ E 3 ∧ E 5 ∧ E 6) (hE8 : E 11 → E 8) (hN : 110 ≤ N) : ∃ g' s' sum, fX2_layAll N g = some (sum, g') ∧ fX5_laid N (z_uR m 1 s) = some (sum, z_uR m 1 s') ∧ RS E n P T J g' s' ∧ (∀ q, q ≠ 6 → q ≠ 7 → q ≠ 8 → q ≠ 10 → q ≠ 11 → g' q = g q) := by
  obtain ⟨g1, s1, a1, a2, a3, a4, a5⟩ := m_takeOff (N := N) (m := m) h hE.1 hE8 (by omega)
  obtain ⟨r, b1, b2⟩ := m_laidBehind (N := N) a3 (by omega) (-1) 0 (Or.inl ⟨rfl, rfl⟩)
  obtain ⟨g', s', sum, c1, c2, c3, c4⟩ := m_l9 (N := N) (m := m) hE hN 100 N 0 0 r g1 s1 (by omega) (by omega) a3 b2 (Nat.zero_le _) (fun o ho _ => ⟨(a4 o ho).1, (a4 o ho).2.1⟩)
  refine ⟨g', s', sum, ?_, ?_, c3, fun q q6 q7 q8 q10 q11 => by rw [c4 q q6 q7 q8 q10, a5 q q8 q11 q6 q7]⟩
  · unfold fX2_layAll
    rw [a1, m_bind, b1, m_bind]
    exact c2 N (by omega)
  · unfold fX5_laid
    rw [a2, m_bind, show (99 : Int32) = nI 100 - 1 by decide]
    exact c1
theorem RS.mo {E E' : Nat → Prop} (h : RS E n P T J g s) (hE : ∀ r, E' r → E r) : RS E' n P T J g s := ⟨h.1, h.2.1, h.2.2.1, fun e => h.2.2.2.1 (hE _ e), fun e => h.2.2.2.2.1 (hE _ e), fun i hi => ⟨fun e => h.pd hi (hE _ e), fun e => h.rf hi (hE _ e)⟩, fun o r ho h1 h9 => ⟨fun e => h.or ho h1 h9 (hE _ e), h.vd ho h1 h9⟩, h.2.2.2.2.2.2.2.1, h.2.2.2.2.2.2.2.2.1, fun e => h.2.2.2.2.2.2.2.2.2.1 (hE _ e), h.2.2.2.2.2.2.2.2.2.2⟩
theorem RS.up {E : Nat → Prop} (h : RS E n P T J g s) (h6 : ∀ o, o < n → s (12 + 9 * o + 6) = g 6 o ∧ s (12 + 9 * o + 7) = g 7 o) : RS (fun r => E r ∨ r = 6 ∨ r = 7) n P T J g s := ⟨h.1, h.2.1, h.2.2.1, fun e => h.2.2.2.1 (e.resolve_right (by omega)), fun e => h.2.2.2.2.1 (e.resolve_right (by omega)), fun i hi => ⟨fun e => h.pd hi (e.resolve_right (by omega)), fun e => h.rf hi (e.resolve_right (by omega))⟩, fun o r ho h1 h9 => ⟨fun e => by
  rcases e with e | e | e
  · exact h.or ho h1 h9 e
  · subst e; exact (h6 o ho).1
  · subst e; exact (h6 o ho).2, h.vd ho h1 h9⟩, h.2.2.2.2.2.2.2.1, h.2.2.2.2.2.2.2.2.1, fun e => h.2.2.2.2.2.2.2.2.2.1 (e.resolve_right (by omega)), h.2.2.2.2.2.2.2.2.2.2⟩
/-- the laying needs no places to begin with -/
theorem m_lay0 {E : Nat → Prop} (h : RS E n P T J g s) (hE : E 1 ∧ E 2 ∧ E 3 ∧ E 5) (hE8 : E 11 → E 8) (hN : 110 ≤ N) : ∃ g' s' sum, fX2_layAll N g = some (sum, g') ∧ fX5_laid N (z_uR m 1 s) = some (sum, z_uR m 1 s') ∧ RS (fun r => E r ∨ r = 6 ∨ r = 7) n P T J g' s' ∧ (∀ q, q ≠ 6 → q ≠ 7 → q ≠ 8 → q ≠ 10 → q ≠ 11 → g' q = g q) := by
  obtain ⟨g1, s1, a1, a2, a3, a4, a5⟩ := m_takeOff (N := N) (m := m) h hE.1 hE8 (by omega)
  have a6 := a3.up (fun o ho => ⟨(a4 o ho).2.2.1.trans (a4 o ho).1.symm, (a4 o ho).2.2.2.trans (a4 o ho).2.1.symm⟩)
  obtain ⟨r, b1, b2⟩ := m_laidBehind (N := N) a6 (by omega) (-1) 0 (Or.inl ⟨rfl, rfl⟩)
  obtain ⟨g', s', sum, c1, c2, c3, c4⟩ := m_l9 (N := N) (m := m) ⟨Or.inl hE.1, Or.inl hE.2.1, Or.inl hE.2.2.1, Or.inl hE.2.2.2, Or.inr (Or.inl rfl)⟩ hN 100 N 0 0 r g1 s1 (by omega) (by omega) a6 b2 (Nat.zero_le _) (fun o ho _ => ⟨(a4 o ho).1, (a4 o ho).2.1⟩)
  refine ⟨g', s', sum, ?_, ?_, c3, fun q q6 q7 q8 q10 q11 => by rw [c4 q q6 q7 q8 q10, a5 q q8 q11 q6 q7]⟩
  · unfold fX2_layAll
    rw [a1, m_bind, b1, m_bind]
    exact c2 N (by omega)
  · unfold fX5_laid
    rw [a2, m_bind, show (99 : Int32) = nI 100 - 1 by decide]
    exact c1
end MR6
end
section
/-! reading, jumps, runs: both sides -/
theorem m_php : ∀ (n : Nat) (f : Nat → Nat), (∀ i, i < n + 1 → f i < n) → (∀ i j, i < j → j < n + 1 → f i ≠ f j) → False := by
  intro n
  induction n with
  | zero => intro f h _; exact absurd (h 0 (by omega)) (by omega)
  | succ n ih =>
    intro f h hd
    refine ih (fun i => if f i = n then f (n + 1) else f i) (fun i hi => ?_) (fun i j hij hj => ?_)
    · show (if f i = n then f (n + 1) else f i) < n
      have h1 := h i (by omega)
      have h2 := h (n + 1) (by omega)
      have h3 := hd i (n + 1) (by omega) (by omega)
      split <;> omega
    · show (if f i = n then f (n + 1) else f i) ≠ (if f j = n then f (n + 1) else f j)
      have h1 := hd i j hij (by omega)
      have h2 := hd i (n + 1) (by omega) (by omega)
      have h3 := hd j (n + 1) (by omega) (by omega)
      split <;> split <;> omega
section MR7
variable {E : Nat → Prop} {N n P T J T' J' : Nat} {g g' m : z_R} {s s' : Nat → Int32}
theorem RS.sc (h : RS E n P T J g s) (hg : ∀ r, r ≠ 0 → g' r = g r) (h0 : g' 0 0 = nI P) (h1 : g' 0 1 = nI n) (h2 : g' 0 2 = nI T') (h4 : g' 0 4 = nI J) (hs : ∀ k, k ≠ 1 → k ≠ 4 → s' k = s k) (hE0 : E 0 → s' 1 = nI T' ∧ s' 4 = g' 0 3) : RS E n P T' J g' s' := by
  refine ⟨h.1, ⟨h0, h1, h2, h4⟩, ?_, hE0, ?_, ?_, ?_, ?_, ?_, ?_, ?_, ?_⟩
  · rw [hs 0 (by decide) (by decide), hs 2 (by decide) (by decide)]; exact h.2.2.1
  · rw [hs 3 (by decide) (by decide)]; exact h.2.2.2.2.1
  · intro i hi
    rw [hs (5 + i) (by omega) (by omega), hs (9 + i) (by omega) (by omega), hg 10 (by decide), hg 11 (by decide)]
    exact h.2.2.2.2.2.1 i hi
  · intro o r ho h1 h9
    rw [hs _ (by omega) (by omega), hg r (by omega)]
    exact h.2.2.2.2.2.2.1 o r ho h1 h9
  · intro o q ho hq hoq
    rw [hg 6 (by decide)]; exact h.ap ho hq hoq
  · intro o ho h16
    rw [hg 8 (by decide)]; exact h.op0 ho h16
  · intro e i hi
    rw [hs _ (by omega) (by omega), hs _ (by omega) (by omega), hs _ (by omega) (by omega), hg 13 (by decide), hg 14 (by decide), hg 15 (by decide)]
    exact h.ju e hi
  · intro i hi
    rw [hg 13 (by decide), hg 14 (by decide)]; exact h.jv hi
  · intro i k hi hk
    rw [hg 13 (by decide), hg 14 (by decide)]; exact h.jd hi hk
theorem RS.tk (h : RS E n P T J g s) : RS E n P T' J (z_u2 g 0 2 (nI T')) (upd s 1 (nI T')) := by
  refine h.sc (fun r hr => m_u2n g 2 _ hr) ?_ ?_ ?_ ?_ (fun k h1 _ => m_un s _ h1) (fun e => ⟨m_us _ _ _, ?_⟩)
  · rw [m_u2s, m_un _ _ (by decide)]; exact h.gP
  · rw [m_u2s, m_un _ _ (by decide)]; exact h.gn
  · rw [m_u2s, m_us]
  · rw [m_u2s, m_un _ _ (by decide)]; exact h.gJ
  · rw [m_u2s, m_un _ _ (by decide), m_un _ _ (by decide)]; exact h.sE e
theorem RS.en (h : RS E n P T J g s) (e : Int32) : RS E n P T J (z_u2 g 0 3 e) (upd s 4 e) := by
  refine h.sc (fun r hr => m_u2n g 3 _ hr) ?_ ?_ ?_ ?_ (fun k _ h4 => m_un s _ h4) (fun q => ⟨?_, ?_⟩)
  · rw [m_u2s, m_un _ _ (by decide)]; exact h.gP
  · rw [m_u2s, m_un _ _ (by decide)]; exact h.gn
  · rw [m_u2s, m_un _ _ (by decide)]; exact h.gT
  · rw [m_u2s, m_un _ _ (by decide)]; exact h.gJ
  · rw [m_un _ _ (by decide)]; exact h.sT q
  · rw [m_us, m_u2s, m_us]
theorem RS.jj (h : RS E n P T J g s) (hJ : J' ≤ 256) (hg : ∀ r, 1 ≤ r → r ≤ 12 → g' r = g r) (h0 : ∀ k, k ≠ 4 → g' 0 k = g 0 k) (h4 : g' 0 4 = nI J') (hs : ∀ k, k < 157 → k ≠ 3 → s' k = s k) (h3 : E 12 → s' 3 = nI J') (ju : E 12 → ∀ i, i < J' → s' (157 + 3 * i) = g' 13 i ∧ s' (157 + 3 * i + 1) = g' 14 i ∧ s' (157 + 3 * i + 2) = g' 15 i) (jv : ∀ i, i < J' → (∃ x, x < 16 ∧ g' 13 i = nI x) ∧ ∃ y, y < 16 ∧ g' 14 i = nI y) (jd : ∀ i k, i < k → k < J' → ¬ (g' 13 i = g' 13 k ∧ g' 14 i = g' 14 k)) : RS E n P T J' g' s' := by
  have h16 := h.n16
  refine ⟨⟨h.1.1, h.1.2.1, h.1.2.2.1, hJ⟩, ⟨?_, ?_, ?_, h4⟩, ?_, ?_, h3, ?_, ?_, ?_, ?_, ju, jv, jd⟩
  · rw [h0 0 (by decide)]; exact h.gP
  · rw [h0 1 (by decide)]; exact h.gn
  · rw [h0 2 (by decide)]; exact h.gT
  · rw [hs 0 (by decide) (by decide), hs 2 (by decide) (by decide)]; exact h.2.2.1
  · rw [hs 1 (by decide) (by decide), hs 4 (by decide) (by decide), h0 3 (by decide)]; exact h.2.2.2.1
  · intro i hi
    rw [hs (5 + i) (by omega) (by omega), hs (9 + i) (by omega) (by omega), hg 10 (by decide) (by decide), hg 11 (by decide) (by decide)]
    exact h.2.2.2.2.2.1 i hi
  · intro o r ho h1 h9
    rw [hs _ (by omega) (by omega), hg r (by omega) (by omega)]
    exact h.2.2.2.2.2.2.1 o r ho h1 h9
  · intro o q ho hq hoq
    rw [hg 6 (by decide) (by decide)]; exact h.ap ho hq hoq
  · intro o ho h16
    rw [hg 8 (by decide) (by decide)]; exact h.op0 ho h16
/-- how long an order is waited for -/
theorem m_wait (h : RS E n P T J g s) (hE0 : E 0) (hE6 : E 6) (hT : T < 2 ^ 30) {o p : Nat} (ho : o < n) (hp : g 6 o = nI p) (hpP : p < P) : fX2_waitFor N (nI o) g = some (nI ((p + P - T % P) % P)) ∧ fX5_waitOf N (nI o) (z_uR m 1 s) = some (nI ((p + P - T % P) % P)) := by
  have h16 := h.n16
  have hP6 := h.P6
  have hP4 := h.P40
  have hT2 := Nat.mod_lt T (show 0 < P by omega)
  refine ⟨?_, ?_⟩
  · unfold fX2_waitFor fX2_isOnDrum
    rw [m_hasY h.gn h16 ho, m_bind, if_neg m_1_0, m_in (by omega) (by decide), m_ckt, m_clamp (by omega), hp, if_neg (m_nN p (by omega)), m_bind, if_neg m_1_0, m_ckt, h.gT, m_aroundD h.gP (by omega) (by omega) (by omega) hT, m_bind]
  · unfold fX5_waitOf fX5_comingBy
    rw [m_part (p := 5) (k := 5) (r := 6) rfl rfl (by omega) (by decide), m_bind, m_same, h.or ho (by decide) (by decide) hE6, hp, m_t0, m_t1, h.sP, h.sT hE0, m_nz (by omega) (by omega), m_ckt, pk_rem (by omega) (by omega) (by omega), m_bind, m_ckt, nI_add, pk_sub (by omega), pk_rem (by omega) (by omega) (by omega)]
/-- an order is read -/
theorem m_read (h : RS E n P T J g s) (hE : E 0 ∧ E 1 ∧ E 2 ∧ E 6) (hE8 : E 11 → E 8) (hT : T < 2 ^ 30) {o p : Nat} (ho : o < n) (hp : g 6 o = nI p) (hpP : p < P) {x : Int32} (hx : x = 0 ∨ x = 1) : ∃ g' s' T', T ≤ T' ∧ T' ≤ T + 49 ∧ fX2_read N (nI o) x g = some g' ∧ fX5_reads N (nI o) x (z_uR m 1 s) = some (z_uR m 1 s') ∧ RS E n P T' J g' s' ∧ (∀ q, q ≠ 0 → q ≠ 8 → q ≠ 9 → q ≠ 11 → g' q = g q) := by
  obtain ⟨hE0, hE1, hE2, hE6⟩ := hE
  have h16 := h.n16
  have hP6 := h.P6
  have hP4 := h.P40
  obtain ⟨wo, hw1, hw9, hwe⟩ := h.wo ho
  obtain ⟨w1, w2⟩ := m_wait (N := N) (m := m) h hE0 hE6 hT ho hp hpP
  obtain ⟨w, hw⟩ : ∃ w, w = (p + P - T % P) % P := ⟨_, rfl⟩
  have hwP : w < P := by rw [hw]; exact Nat.mod_lt _ (by omega)
  rw [← hw] at w1 w2
  have a1 : RS E n P (T + w) J (z_u2 g 0 2 (nI (T + w))) (upd s 1 (nI (T + w))) := h.tk
  have a2 := a1.part (j := o) (r := 9) (v := nI w) ho (by decide) (by decide) (m_Vd7 (by decide)) (fun e => by omega)
  -- the last step: the work
  have fin : ∀ (G : z_R) (S : Nat → Int32), RS E n P (T + w) J G S → G 2 = g 2 → (G 0 2 + (1 + G 2 o) = nI (T + w + 1 + wo) ∧ S 1 + (1 + S (12 + 9 * o + 2)) = nI (T + w + 1 + wo)) := fun G S hG h2 => by
    rw [hG.gT, hG.sT hE0, hG.or ho (by decide) (by decide) hE2, h2, hwe, show (1 : Int32) = nI 1 from rfl, nI_add, nI_add]
    exact ⟨congrArg nI (by omega), congrArg nI (by omega)⟩
  have stepC : fX2_read N (nI o) x g = (if x = 0 then some (z_u2 (z_u2 (z_u2 g 0 2 (nI (T + w))) 9 o (nI w)) 0 2 (z_u2 (z_u2 g 0 2 (nI (T + w))) 9 o (nI w) 0 2 + (1 + z_u2 (z_u2 g 0 2 (nI (T + w))) 9 o (nI w) 2 o))) else if nI w = 0 then some (z_u2 (z_u2 (z_u2 (z_u2 g 0 2 (nI (T + w))) 9 o (nI w)) 8 o 0) 0 2 (z_u2 (z_u2 (z_u2 g 0 2 (nI (T + w))) 9 o (nI w)) 8 o 0 0 2 + (1 + z_u2 (z_u2 (z_u2 g 0 2 (nI (T + w))) 9 o (nI w)) 8 o 0 2 o))) else z_b2 (fX2_refund N (nI o) (z_u2 (z_u2 g 0 2 (nI (T + w))) 9 o (nI w))) fun _ g13 => some (z_u2 (z_u2 g13 8 o 0) 0 2 (z_u2 g13 8 o 0 0 2 + (1 + z_u2 g13 8 o 0 2 o)))) := by
    have wa : fX2_around N (nI p - nI T) g = some (nI w) := by rw [hw]; exact m_aroundD h.gP (by omega) (by omega) (by omega) hT
    unfold fX2_read
    rw [m_in (by omega) (by decide), m_ckt, m_clamp (by omega), hp, h.gT, wa, m_bind, nI_add, m_lt, m_ckt]
    rfl
  have stepM : fX5_reads N (nI o) x (z_uR m 1 s) = (if x = 0 then some (z_uR m 1 (upd (upd (upd s 1 (nI (T + w))) (12 + 9 * o + 9) (nI w)) 1 ((upd (upd s 1 (nI (T + w))) (12 + 9 * o + 9) (nI w)) 1 + (1 + (upd (upd s 1 (nI (T + w))) (12 + 9 * o + 9) (nI w)) (12 + 9 * o + 2))))) else if nI w ≤ 0 then some (z_uR m 1 (upd (upd (upd (upd s 1 (nI (T + w))) (12 + 9 * o + 9) (nI w)) (12 + 9 * o + 8) 0) 1 ((upd (upd (upd s 1 (nI (T + w))) (12 + 9 * o + 9) (nI w)) (12 + 9 * o + 8) 0) 1 + (1 + (upd (upd (upd s 1 (nI (T + w))) (12 + 9 * o + 9) (nI w)) (12 + 9 * o + 8) 0) (12 + 9 * o + 2))))) else z_b2 (fX5_refund N (nI o) (z_uR m 1 (upd (upd s 1 (nI (T + w))) (12 + 9 * o + 9) (nI w)))) fun _ g18 => (fX5_setPart N (nI o) (7 : Int32) (0 : Int32) g18).bind fun g22 => (fX5_part N (nI o) (1 : Int32) g22).bind fun r23 => z_lt (z_u2 g22 1 ((1 : Int32)).toNatClampNeg ((g22 1 ((1 : Int32)).toNatClampNeg) + ((1 : Int32) + r23))) fun g24 => some g24) := by
    unfold fX5_reads
    rw [w2, m_bind, m_same, m_t1, h.sT hE0, nI_add, m_uRR, m_lt, m_setP (p := 8) (k := 8) (r := 9) rfl rfl (by omega) (by decide), m_bind]
    by_cases x0 : x = 0
    · rw [if_pos x0, if_pos x0, if_pos x0, m_part (p := 1) (k := 1) (r := 2) rfl rfl (by omega) (by decide), m_bind, m_same, m_uRR, m_lt]
    · rw [if_neg x0, if_neg x0, if_neg x0]
      by_cases c : nI w ≤ 0
      · rw [if_pos c, if_pos c, m_setP (p := 7) (k := 7) (r := 8) rfl rfl (by omega) (by decide), m_bind, m_part (p := 1) (k := 1) (r := 2) rfl rfl (by omega) (by decide), m_bind, m_same, m_uRR, m_lt]
      · rw [if_neg c, if_neg c]
        congr 1
        funext r18 g18
        rw [if_neg x0]
  have g2a : z_u2 (z_u2 g 0 2 (nI (T + w))) 9 o (nI w) 2 = g 2 := by rw [m_u2n _ _ _ (by decide), m_u2n _ _ _ (by decide)]
  by_cases x0 : x = 0
  · obtain ⟨f1, f2⟩ := fin _ _ a2 g2a
    refine ⟨_, _, T + w + 1 + wo, by omega, by omega, by rw [stepC, if_pos x0, f1], by rw [stepM, if_pos x0, f2], a2.tk, fun q q0 q8 q9 q11 => ?_⟩
    rw [m_u2n _ _ _ q0, m_u2n _ _ _ q9, m_u2n _ _ _ q0]
  · by_cases c : w = 0
    · have a3 := a2.part (j := o) (r := 8) (v := 0) ho (by decide) (by decide) (m_Vd7 (by decide)) (fun e => by omega)
      obtain ⟨f1, f2⟩ := fin _ _ a3 (by rw [m_u2n _ _ _ (by decide : (2 : Nat) ≠ 8)]; exact g2a)
      refine ⟨_, _, T + w + 1 + wo, by omega, by omega, by rw [stepC, if_neg x0, if_pos (by rw [c]; rfl), f1], by rw [stepM, if_neg x0, if_pos (by rw [c]; decide), f2], a3.tk, fun q q0 q8 q9 q11 => ?_⟩
      rw [m_u2n _ _ _ q0, m_u2n _ _ _ q8, m_u2n _ _ _ q9, m_u2n _ _ _ q0]
    · obtain ⟨g3, s3, r1, r2, r3, r4, -, -⟩ := m_refund (N := N) (m := m) a2 hE1 hE8 ho
      have a3 := r3.part (j := o) (r := 8) (v := 0) ho (by decide) (by decide) (m_Vd7 (by decide)) (fun e => by omega)
      obtain ⟨f1, f2⟩ := fin _ _ a3 (by rw [m_u2n _ _ _ (by decide : (2 : Nat) ≠ 8), r4 2 (by decide) (by decide)]; exact g2a)
      refine ⟨_, _, T + w + 1 + wo, by omega, by omega, by rw [stepC, if_neg x0, if_neg (nI_ne0 (by omega) (by omega)), r1, m_b2, f1], ?_, a3.tk, fun q q0 q8 q9 q11 => ?_⟩
      · rw [stepM, if_neg x0, if_neg (nI_nle (by omega) (by omega)), r2, m_b2, m_setP (p := 7) (k := 7) (r := 8) rfl rfl (by omega) (by decide), m_bind, m_part (p := 1) (k := 1) (r := 2) rfl rfl (by omega) (by decide), m_bind, m_same, m_t1, m_uRR, m_lt, f2]
      · rw [m_u2n _ _ _ q0, m_u2n _ _ _ q8, r4 q q8 q11, m_u2n _ _ _ q9, m_u2n _ _ _ q0]
end MR7
end
section
/-! a jump is noted, a run is made: both sides -/
section MR8
variable {E : Nat → Prop} {N n P T J : Nat} {g m : z_R} {s : Nat → Int32}
theorem m_jx (i : Nat) : (157 : Int32) + (3 : Int32) * nI i = nI (157 + 3 * i) := by
  rw [show (157 : Int32) = nI 157 from rfl, show (3 : Int32) = nI 3 from rfl, pk_mul, nI_add]
theorem m_jx1 (i : Nat) : nI (157 + 3 * i) + (1 : Int32) = nI (157 + 3 * i + 1) := nI_1 _
theorem m_jx2 (i : Nat) : nI (157 + 3 * i) + (2 : Int32) = nI (157 + 3 * i + 2) := nI_add _ 2
/-- the class's search among the jumps -/
theorem m_ntC (h : RS E n P T J g s) (x y : Int32) : ∀ (k i fu : Nat), i + k = J → k < fu → (∀ q, q < i → ¬ (g 13 q = x ∧ g 14 q = y)) → (∃ q, q < J ∧ (∀ u, u < q → ¬ (g 13 u = x ∧ g 14 u = y)) ∧ g 13 q = x ∧ g 14 q = y ∧ lX0_note_2 N x y g fu (nI i) = some (z_u2 g 15 q (g 15 q + 1))) ∨ ((∀ q, q < J → ¬ (g 13 q = x ∧ g 14 q = y)) ∧ (J < 256 → lX0_note_2 N x y g fu (nI i) = some (z_u2 (z_u2 (z_u2 (z_u2 g 13 J x) 14 J y) 15 J 1) 0 4 (nI (J + 1))))) := by
  have hJ := h.J256
  intro k
  induction k with
  | zero =>
    intro i fu hi hfu hb
    obtain ⟨fu, rfl⟩ : ∃ q, fu = q + 1 := ⟨fu - 1, by omega⟩
    have e : i = J := by omega
    subst e
    refine Or.inr ⟨hb, fun hlt => ?_⟩
    rw [lX0_note_2.eq_2, h.gJ, if_pos (nI_le (Nat.le_refl i) (by omega)), if_neg (m_ge256 (by omega)), m_in (by omega) (by decide), m_ckt, m_clamp (by omega), m_lt]
    rw [show z_u2 g 13 i x 0 4 = nI i by rw [m_u2n _ _ _ (by decide : (0 : Nat) ≠ 13)]; exact h.gJ, m_in (by omega) (by decide), m_ckt, m_clamp (by omega), m_lt]
    rw [show z_u2 (z_u2 g 13 i x) 14 i y 0 4 = nI i by rw [m_u2n _ _ _ (by decide : (0 : Nat) ≠ 14), m_u2n _ _ _ (by decide : (0 : Nat) ≠ 13)]; exact h.gJ, m_in (by omega) (by decide), m_ckt, m_clamp (by omega), m_lt]
    rw [show z_u2 (z_u2 (z_u2 g 13 i x) 14 i y) 15 i 1 0 4 = nI i by rw [m_u2n _ _ _ (by decide : (0 : Nat) ≠ 15), m_u2n _ _ _ (by decide : (0 : Nat) ≠ 14), m_u2n _ _ _ (by decide : (0 : Nat) ≠ 13)]; exact h.gJ, nI_1, m_lt]
  | succ k ih =>
    intro i fu hi hfu hb
    obtain ⟨fu, rfl⟩ : ∃ q, fu = q + 1 := ⟨fu - 1, by omega⟩
    rw [lX0_note_2.eq_2, h.gJ, if_neg (nI_ge (by omega) (by omega)), m_in (by omega) (by decide), m_ckt, m_ckt, m_ckt, m_ckt, m_clamp (by omega)]
    by_cases c1 : g 13 i = x
    · rw [if_pos c1]
      by_cases c2 : g 14 i = y
      · rw [if_pos c2]
        exact Or.inl ⟨i, by omega, hb, c1, c2, by rw [m_lt]⟩
      · rw [if_neg c2, nI_1]
        exact ih (i + 1) fu (by omega) (by omega) (fun q hq => by
          by_cases e : q = i
          · subst e; exact fun z => c2 z.2
          · exact hb q (by omega))
    · rw [if_neg c1, nI_1]
      exact ih (i + 1) fu (by omega) (by omega) (fun q hq => by
        by_cases e : q = i
        · subst e; exact fun z => c1 z.1
        · exact hb q (by omega))
/-- the reference's -/
theorem m_ntM (h : RS E n P T J g s) (hE : E 12) (x y : Int32) (kk : Int32 → Option z_R) : ∀ (k i fu : Nat), i + k = J → k < fu → (∀ q, q < i → ¬ (g 13 q = x ∧ g 14 q = y)) → ∃ q, lX5_noteJump_2 N x y (z_uR m 1 s) kk fu (nI i) = kk (nI q) ∧ ((q < J ∧ (∀ u, u < q → ¬ (g 13 u = x ∧ g 14 u = y)) ∧ g 13 q = x ∧ g 14 q = y) ∨ (q = J ∧ ∀ u, u < J → ¬ (g 13 u = x ∧ g 14 u = y))) := by
  have hJ := h.J256
  intro k
  induction k with
  | zero =>
    intro i fu hi hfu hb
    obtain ⟨fu, rfl⟩ : ∃ q, fu = q + 1 := ⟨fu - 1, by omega⟩
    have e : i = J := by omega
    subst e
    refine ⟨i, ?_, Or.inr ⟨rfl, hb⟩⟩
    rw [lX5_noteJump_2.eq_2, m_same, m_t3, h.sJ hE, if_pos (nI_le (Nat.le_refl i) (by omega))]
  | succ k ih =>
    intro i fu hi hfu hb
    obtain ⟨fu, rfl⟩ : ∃ q, fu = q + 1 := ⟨fu - 1, by omega⟩
    obtain ⟨j1, j2, j3⟩ := h.ju hE (i := i) (by omega)
    rw [lX5_noteJump_2.eq_2, m_same, m_t3, h.sJ hE, if_neg (nI_ge (by omega) (by omega)), m_jx, m_in (by omega) (by decide), m_ckt, m_clamp (by omega), j1, m_jx1, m_in (by omega) (by decide), m_ckt, m_clamp (by omega), j2]
    by_cases c1 : g 13 i = x
    · rw [if_pos c1]
      by_cases c2 : g 14 i = y
      · rw [if_pos c2]
        exact ⟨i, rfl, Or.inl ⟨by omega, hb, c1, c2⟩⟩
      · rw [if_neg c2, nI_1]
        exact ih (i + 1) fu (by omega) (by omega) (fun q hq => by
          by_cases e : q = i
          · subst e; exact fun z => c2 z.2
          · exact hb q (by omega))
    · rw [if_neg c1, nI_1]
      exact ih (i + 1) fu (by omega) (by omega) (fun q hq => by
        by_cases e : q = i
        · subst e; exact fun z => c1 z.1
        · exact hb q (by omega))
/-- with all pairs noted, none is new -/
theorem RS.full (h : RS E n P T J g s) {x y : Nat} (hx : x < 16) (hy : y < 16) (hno : ∀ q, q < J → ¬ (g 13 q = nI x ∧ g 14 q = nI y)) : J < 256 := by
  have hJ := h.J256
  rcases Nat.lt_or_ge J 256 with c | c
  · exact c
  exfalso
  have e : J = 256 := by omega
  subst e
  refine m_php 256 (fun i => if i < 256 then 16 * (g 13 i).toNatClampNeg + (g 14 i).toNatClampNeg else 16 * x + y) (fun i hi => ?_) (fun i j hij hj => ?_)
  · show (if i < 256 then 16 * (g 13 i).toNatClampNeg + (g 14 i).toNatClampNeg else 16 * x + y) < 256
    by_cases c1 : i < 256
    · obtain ⟨⟨a, a1, a2⟩, b, b1, b2⟩ := h.jv c1
      rw [if_pos c1, a2, b2, m_clamp (by omega), m_clamp (by omega)]; omega
    · rw [if_neg c1]; omega
  · show (if i < 256 then 16 * (g 13 i).toNatClampNeg + (g 14 i).toNatClampNeg else 16 * x + y) ≠ (if j < 256 then 16 * (g 13 j).toNatClampNeg + (g 14 j).toNatClampNeg else 16 * x + y)
    have c1 : i < 256 := by omega
    obtain ⟨⟨a, a1, a2⟩, b, b1, b2⟩ := h.jv c1
    rw [if_pos c1, a2, b2, m_clamp (by omega), m_clamp (by omega)]
    by_cases c2 : j < 256
    · obtain ⟨⟨u, u1, u2⟩, v, v1, v2⟩ := h.jv c2
      rw [if_pos c2, u2, v2, m_clamp (by omega), m_clamp (by omega)]
      intro e
      refine h.jd hij c2 ⟨?_, ?_⟩
      · rw [a2, u2]; congr 1; omega
      · rw [b2, v2]; congr 1; omega
    · rw [if_neg c2]
      intro e
      refine hno i c1 ⟨?_, ?_⟩
      · rw [a2]; congr 1; omega
      · rw [b2]; congr 1; omega
/-- the jump from x to y is noted -/
theorem m_note (h : RS E n P T J g s) (hE : E 12) (hN : 260 ≤ N) {x y : Nat} (hx : x < 16) (hy : y < 16) : ∃ g' s' J', fX0_note N (nI x) (nI y) g = some g' ∧ fX5_noteJump N (nI x) (nI y) (z_uR m 1 s) = some (z_uR m 1 s') ∧ RS E n P T J' g' s' ∧ (∀ q, 1 ≤ q → q ≤ 12 → g' q = g q) := by
  have hJ := h.J256
  unfold fX5_noteJump fX0_note
  obtain ⟨q, q1, q2⟩ := m_ntM (N := N) (m := m) h hE (nI x) (nI y) (fun x3_2 => (if x3_2 = ((z_uR m 1 s) 1 ((3 : Int32)).toNatClampNeg) then
z_ck (z_in ((157 : Int32) + ((3 : Int32) * x3_2)) 925) <|
z_lt (z_u2 (z_uR m 1 s) 1 (((157 : Int32) + ((3 : Int32) * x3_2))).toNatClampNeg (nI x)) fun g11 =>
z_ck (z_in (((157 : Int32) + ((3 : Int32) * x3_2)) + (1 : Int32)) 925) <|
z_lt (z_u2 g11 1 ((((157 : Int32) + ((3 : Int32) * x3_2)) + (1 : Int32))).toNatClampNeg (nI y)) fun g13 =>
z_ck (z_in (((157 : Int32) + ((3 : Int32) * x3_2)) + (2 : Int32)) 925) <|
z_lt (z_u2 g13 1 ((((157 : Int32) + ((3 : Int32) * x3_2)) + (2 : Int32))).toNatClampNeg (0 : Int32)) fun g15 =>
z_lt (z_u2 g15 1 ((3 : Int32)).toNatClampNeg ((g15 1 ((3 : Int32)).toNatClampNeg) + (1 : Int32))) fun g16 =>
z_ck (z_in (((157 : Int32) + ((3 : Int32) * x3_2)) + (2 : Int32)) 925) <|
z_ck (z_in (((157 : Int32) + ((3 : Int32) * x3_2)) + (2 : Int32)) 925) <|
z_lt (z_u2 g16 1 ((((157 : Int32) + ((3 : Int32) * x3_2)) + (2 : Int32))).toNatClampNeg ((g16 1 ((((157 : Int32) + ((3 : Int32) * x3_2)) + (2 : Int32))).toNatClampNeg) + (1 : Int32))) fun g19 =>
some g19
else
z_ck (z_in (((157 : Int32) + ((3 : Int32) * x3_2)) + (2 : Int32)) 925) <|
z_ck (z_in (((157 : Int32) + ((3 : Int32) * x3_2)) + (2 : Int32)) 925) <|
z_lt (z_u2 (z_uR m 1 s) 1 ((((157 : Int32) + ((3 : Int32) * x3_2)) + (2 : Int32))).toNatClampNeg (((z_uR m 1 s) 1 ((((157 : Int32) + ((3 : Int32) * x3_2)) + (2 : Int32))).toNatClampNeg) + (1 : Int32))) fun g9 =>
some g9)) J 0 N (by omega) (by omega) (fun q hq => by omega)
  rw [nI_0] at q1
  rw [q1]
  have sJ := h.sJ hE
  rcases (by rw [← nI_0]; exact m_ntC (N := N) h (nI x) (nI y) J 0 N (by omega) (by omega) (fun q hq => by omega) : (∃ q, q < J ∧ (∀ u, u < q → ¬ (g 13 u = nI x ∧ g 14 u = nI y)) ∧ g 13 q = nI x ∧ g 14 q = nI y ∧ lX0_note_2 N (nI x) (nI y) g N (0 : Int32) = some (z_u2 g 15 q (g 15 q + 1))) ∨ ((∀ q, q < J → ¬ (g 13 q = nI x ∧ g 14 q = nI y)) ∧ (J < 256 → lX0_note_2 N (nI x) (nI y) g N (0 : Int32) = some (z_u2 (z_u2 (z_u2 (z_u2 g 13 J (nI x)) 14 J (nI y)) 15 J 1) 0 4 (nI (J + 1)))))) with ⟨u, u1, u2, u3, u4, u5⟩ | ⟨u1, u2⟩
  · -- it was noted before
    have hqu : q = u ∧ q < J := by
      rcases q2 with ⟨a1, a2, a3, a4⟩ | ⟨-, a2⟩
      · rcases Nat.lt_trichotomy q u with c | c | c
        · exact absurd ⟨a3, a4⟩ (u2 q c)
        · exact ⟨c, a1⟩
        · exact absurd ⟨u3, u4⟩ (a2 u c)
      · exact absurd ⟨u3, u4⟩ (a2 u u1)
    obtain ⟨rfl, hq⟩ := hqu
    obtain ⟨j1, j2, j3⟩ := h.ju hE hq
    refine ⟨_, upd s (157 + 3 * q + 2) (g 15 q + 1), J, u5, ?_, ?_, fun r h1 h2 => m_u2n _ _ _ (by omega)⟩
    · rw [m_same, m_t3, sJ, if_neg (fun e => by have := m_nI_inj (by omega) (by omega) e; omega), m_jx, m_jx2, m_in (by omega) (by decide), m_ckt, m_ckt, m_clamp (by omega), j3, m_uRR, m_lt]
    · refine h.jj hJ (fun r h1 h2 => m_u2n _ _ _ (by omega)) (fun k _ => by rw [m_u2n _ _ _ (by decide : (0 : Nat) ≠ 15)]) (by rw [m_u2n _ _ _ (by decide : (0 : Nat) ≠ 15)]; exact h.gJ) (fun k h1 h2 => m_un _ _ (by omega)) (fun _ => by rw [m_un _ _ (by omega)]; exact sJ) (fun e i hi => ?_) (fun i hi => ?_) (fun i k hi hk => ?_)
      · obtain ⟨i1, i2, i3⟩ := h.ju e hi
        rw [m_un _ _ (by omega), m_un _ _ (by omega), m_u2n _ _ _ (by decide : (13 : Nat) ≠ 15), m_u2n _ _ _ (by decide : (14 : Nat) ≠ 15), m_u2s]
        refine ⟨i1, i2, ?_⟩
        by_cases c : i = q
        · subst c; rw [m_us, m_us]
        · rw [m_un _ _ (by omega), m_un _ _ c]; exact i3
      · rw [m_u2n _ _ _ (by decide : (13 : Nat) ≠ 15), m_u2n _ _ _ (by decide : (14 : Nat) ≠ 15)]; exact h.jv hi
      · rw [m_u2n _ _ _ (by decide : (13 : Nat) ≠ 15), m_u2n _ _ _ (by decide : (14 : Nat) ≠ 15)]; exact h.jd hi hk
  · -- a new jump
    have hq : q = J := by
      rcases q2 with ⟨a1, a2, a3, a4⟩ | ⟨a1, -⟩
      · exact absurd ⟨a3, a4⟩ (u1 q a1)
      · exact a1
    subst hq
    have hlt := h.full hx hy u1
    refine ⟨_, upd (upd (upd (upd (upd s (157 + 3 * q) (nI x)) (157 + 3 * q + 1) (nI y)) (157 + 3 * q + 2) 0) 3 (nI (q + 1))) (157 + 3 * q + 2) 1, q + 1, u2 hlt, ?_, ?_, fun r h1 h2 => by rw [m_u2n _ _ _ (by omega), m_u2n _ _ _ (by omega), m_u2n _ _ _ (by omega), m_u2n _ _ _ (by omega)]⟩
    · rw [m_same, m_t3, sJ, if_pos rfl, m_jx, m_in (by omega) (by decide), m_ckt, m_clamp (by omega), m_uRR, m_lt, m_jx1, m_in (by omega) (by decide), m_ckt, m_clamp (by omega), m_uRR, m_lt, m_jx2, m_in (by omega) (by decide), m_ckt, m_clamp (by omega), m_uRR, m_lt, m_lt, m_ckt, m_ckt, m_lt, m_same, m_un _ _ (show 3 ≠ 157 + 3 * q + 2 by omega), m_un _ _ (show 3 ≠ 157 + 3 * q + 1 by omega), m_un _ _ (show 3 ≠ 157 + 3 * q by omega), sJ, nI_1, m_uRR, m_same, m_un _ _ (show 157 + 3 * q + 2 ≠ 3 by omega), m_us, m_uRR]
      rfl
    · refine h.jj (by omega) (fun r h1 h2 => by rw [m_u2n _ _ _ (by omega), m_u2n _ _ _ (by omega), m_u2n _ _ _ (by omega), m_u2n _ _ _ (by omega)]) (fun k h4 => by rw [m_u2s, m_un _ _ h4, m_u2n _ _ _ (by decide : (0 : Nat) ≠ 15), m_u2n _ _ _ (by decide : (0 : Nat) ≠ 14), m_u2n _ _ _ (by decide : (0 : Nat) ≠ 13)]) (by rw [m_u2s, m_us]) (fun k h1 h2 => by rw [m_un _ _ (by omega), m_un _ _ h2, m_un _ _ (by omega), m_un _ _ (by omega), m_un _ _ (by omega)]) (fun _ => by rw [m_un _ _ (by omega), m_us]) (fun e i hi => ?_) (fun i hi => ?_) (fun i k hi hk => ?_)
      all_goals rw [m_u2n _ _ _ (by decide : (13 : Nat) ≠ 0), m_u2n _ _ _ (by decide : (13 : Nat) ≠ 15), m_u2n _ _ _ (by decide : (13 : Nat) ≠ 14), m_u2s, m_u2n _ _ _ (by decide : (14 : Nat) ≠ 0), m_u2n _ _ _ (by decide : (14 : Nat) ≠ 15), m_u2s, m_u2n _ _ _ (by decide : (14 : Nat) ≠ 13)]
      · rw [m_u2n _ _ _ (by decide : (15 : Nat) ≠ 0), m_u2s, m_u2n _ _ _ (by decide : (15 : Nat) ≠ 14), m_u2n _ _ _ (by decide : (15 : Nat) ≠ 13)]
        by_cases c : i = q
        · subst c
          refine ⟨?_, ?_, ?_⟩
          · rw [m_un _ _ (by omega), m_un _ _ (by omega), m_un _ _ (by omega), m_un _ _ (by omega), m_us, m_us]
          · rw [m_un _ _ (by omega), m_un _ _ (by omega), m_un _ _ (by omega), m_us, m_us]
          · rw [m_us, m_us]
        · obtain ⟨i1, i2, i3⟩ := h.ju e (i := i) (by omega)
          refine ⟨?_, ?_, ?_⟩
          · rw [m_un _ _ (by omega), m_un _ _ (by omega), m_un _ _ (by omega), m_un _ _ (by omega), m_un _ _ (by omega), m_un _ _ c]; exact i1
          · rw [m_un _ _ (by omega), m_un _ _ (by omega), m_un _ _ (by omega), m_un _ _ (by omega), m_un _ _ (by omega), m_un _ _ c]; exact i2
          · rw [m_un _ _ (by omega), m_un _ _ (by omega), m_un _ _ (by omega), m_un _ _ (by omega), m_un _ _ (by omega), m_un _ _ c]; exact i3
      · by_cases c : i = q
        · subst c; rw [m_us, m_us]; exact ⟨⟨x, hx, rfl⟩, y, hy, rfl⟩
        · rw [m_un _ _ c, m_un _ _ c]; exact h.jv (by omega)
      · rw [m_un _ _ (show i ≠ q by omega), m_un _ _ (show i ≠ q by omega)]
        by_cases c : k = q
        · subst c; rw [m_us, m_us]; exact u1 i hi
        · rw [m_un _ _ c, m_un _ _ c]; exact h.jd hi (by omega)
end MR8
end
section
/-! a run: both sides -/
section MR9
variable {E : Nat → Prop} {N n P T J : Nat} {g m : z_R} {s : Nat → Int32}
theorem m_99 {k : Nat} (hk : k ≤ 99) : (nI k = (99 : Int32)) ↔ k = 99 := by
  rw [show (99 : Int32) = nI 99 from rfl]
  exact nI_eq (by omega) (by omega)
theorem m_wkE {fu : Nat} {e f x k : Int32} (K : Int32 → z_R → Option (Int32 × z_R)) (he : ¬ e = -1) : lX2_runFrom_10 N K (fu + 1) e f x k g = K e g := by
  rw [lX2_runFrom_10.eq_2]
  by_cases c : (99 : Int32) < k
  · rw [if_pos c]
  · rw [if_neg c, if_neg he]
theorem m_wkB {o k fu : Nat} {f : Int32} (K : Int32 → z_R → Option (Int32 × z_R)) (hon : fX2_isOnDrum N (nI o) g = some 1) (ho : o < 16) (hk : k ≤ 99) : lX2_runFrom_10 N K (fu + 1) (-1) f (nI o) (nI k) g = (if ¬ f = -1 ∧ ¬ g 4 o = -1 ∧ ¬ g 4 o = f then lX2_runFrom_10 N K fu 1 f (nI o) (nI (k + 1)) g else if k = 99 then lX2_runFrom_10 N K fu 2 f (nI o) (nI (k + 1)) g else (fX2_read N (nI o) (if f = -1 then 0 else 1) g).bind fun g7 => if g7 3 o = -1 then lX2_runFrom_10 N K fu 0 f (nI o) (nI (k + 1)) g7 else (fX0_note N (nI o) (g7 3 o) g7).bind fun g11 => lX2_runFrom_10 N K fu (-1) (nI o) (g11 3 o) (nI (k + 1)) g11) := by
  have i1 : z_in (nI o) 16 = true := m_in ho (by decide)
  have c1 : (nI o).toNatClampNeg = o := m_clamp (by omega)
  rw [lX2_runFrom_10.eq_2, if_neg (m_nlt99 hk), if_pos rfl, hon, m_bind, if_neg m_1_0]
  simp only [i1, c1, m_ckt, nI_1]
  by_cases c0 : f = -1
  · simp only [if_pos c0]
    rw [if_neg (show ¬ (¬ f = -1 ∧ ¬ g 4 o = -1 ∧ ¬ g 4 o = f) from fun q => q.1 c0)]
    by_cases c9 : k = 99
    · rw [if_pos ((m_99 hk).mpr c9), if_pos c9]
    · rw [if_neg (fun q => c9 ((m_99 hk).mp q)), if_neg c9]
  · simp only [if_neg c0]
    by_cases c4 : g 4 o = -1
    · rw [if_pos c4, if_neg (show ¬ (¬ f = -1 ∧ ¬ g 4 o = -1 ∧ ¬ g 4 o = f) from fun q => q.2.1 c4)]
      by_cases c9 : k = 99
      · rw [if_pos ((m_99 hk).mpr c9), if_pos c9]
      · rw [if_neg (fun q => c9 ((m_99 hk).mp q)), if_neg c9]
    · rw [if_neg c4]
      by_cases c5 : g 4 o = f
      · rw [if_pos c5, if_neg (show ¬ (¬ f = -1 ∧ ¬ g 4 o = -1 ∧ ¬ g 4 o = f) from fun q => q.2.2 c5)]
        by_cases c9 : k = 99
        · rw [if_pos ((m_99 hk).mpr c9), if_pos c9]
        · rw [if_neg (fun q => c9 ((m_99 hk).mp q)), if_neg c9]
      · rw [if_neg c5, if_pos ⟨c0, c4, c5⟩]
theorem m_rnB {o k fv : Nat} {f : Int32} (hs : m 1 2 = nI n) (h16 : n ≤ 16) (ho : o < n) (h6 : ¬ m 1 (12 + 9 * o + 6) = -1) (hk : k ≤ 99) : lX5_runs_10 N (fv + 1) (nI o) f (-1) (nI k) m = (if ¬ f = -1 ∧ ¬ m 1 (12 + 9 * o + 4) = -1 ∧ ¬ m 1 (12 + 9 * o + 4) = f then lX5_runs_10 N fv (nI o) f 1 (nI k) m else if k = 99 then lX5_runs_10 N fv (nI o) f 2 (nI k) m else (fX5_reads N (nI o) (if f = -1 then 0 else 1) m).bind fun g10 => (fX5_part N (nI o) (2 : Int32) g10).bind fun r => if r = -1 then lX5_runs_10 N fv r (nI o) 0 (nI (k + 1)) g10 else (fX5_noteJump N (nI o) r g10).bind fun g13 => lX5_runs_10 N fv r (nI o) (-1) (nI (k + 1)) g13) := by
  have e4 : fX5_part N (nI o) (3 : Int32) m = some (m 1 (12 + 9 * o + 4)) := m_part (p := 3) (k := 3) (r := 4) rfl rfl (by omega) (by decide)
  rw [lX5_runs_10.eq_2, if_pos rfl, m_ioY hs h16 ho, m_bind, if_neg m_1_0, m_part (p := 5) (k := 5) (r := 6) rfl rfl (by omega) (by decide), m_bind, if_neg h6]
  simp only [e4, m_bind, nI_1]
  by_cases c0 : f = -1
  · simp only [if_pos c0]
    rw [if_neg (show ¬ (¬ f = -1 ∧ ¬ m 1 (12 + 9 * o + 4) = -1 ∧ ¬ m 1 (12 + 9 * o + 4) = f) from fun q => q.1 c0)]
    by_cases c9 : k = 99
    · rw [if_pos ((m_99 hk).mpr c9), if_pos c9]
    · rw [if_neg (fun q => c9 ((m_99 hk).mp q)), if_neg c9]
  · simp only [if_neg c0]
    by_cases c4 : m 1 (12 + 9 * o + 4) = -1
    · rw [if_pos c4, if_neg (show ¬ (¬ f = -1 ∧ ¬ m 1 (12 + 9 * o + 4) = -1 ∧ ¬ m 1 (12 + 9 * o + 4) = f) from fun q => q.2.1 c4)]
      by_cases c9 : k = 99
      · rw [if_pos ((m_99 hk).mpr c9), if_pos c9]
      · rw [if_neg (fun q => c9 ((m_99 hk).mp q)), if_neg c9]
    · rw [if_neg c4]
      by_cases c5 : m 1 (12 + 9 * o + 4) = f
      · rw [if_pos c5, if_neg (show ¬ (¬ f = -1 ∧ ¬ m 1 (12 + 9 * o + 4) = -1 ∧ ¬ m 1 (12 + 9 * o + 4) = f) from fun q => q.2.2 c5)]
        by_cases c9 : k = 99
        · rw [if_pos ((m_99 hk).mpr c9), if_pos c9]
        · rw [if_neg (fun q => c9 ((m_99 hk).mp q)), if_neg c9]
      · rw [if_neg c5, if_pos ⟨c0, c4, c5⟩]
theorem m_rnE {fv : Nat} {x f e k : Int32} (he : ¬ e = -1) : lX5_runs_10 N (fv + 1) x f e k (z_uR m 1 s) = some (e, z_uR m 1 (upd s 4 e)) := by
  rw [lX5_runs_10.eq_2, if_neg he, m_t4, m_uRR, m_lt]
theorem m_walk (K : Int32 → z_R → Option (Int32 × z_R)) (hE : E 0 ∧ E 1 ∧ E 2 ∧ E 3 ∧ E 4 ∧ E 6 ∧ E 12) (hE8 : E 11 → E 8) (hN : 260 ≤ N) : ∀ (d k fu fv T J : Nat) (f x : Int32) (g : z_R) (s : Nat → Int32), k + d = 99 → d + 1 < fu → d + 1 < fv → T + 49 * (d + 1) < 2 ^ 30 → (f = -1 ∨ ∃ q, q < 16 ∧ f = nI q) → RS E n P T J g s → ∃ e j g' s' T' J', e = nI j ∧ j < 4 ∧ lX2_runFrom_10 N K fu (-1) f x (nI k) g = K e g' ∧ lX5_runs_10 N fv x f (-1) (nI k) (z_uR m 1 s) = some (e, z_uR m 1 (upd s' 4 e)) ∧ RS E n P T' J' g' s' ∧ T ≤ T' ∧ T' ≤ T + 49 * (d + 1) ∧ (∀ q, 1 ≤ q → q ≤ 12 → q ≠ 8 → q ≠ 9 → q ≠ 11 → g' q = g q) := by
  obtain ⟨hE0, hE1, hE2, hE3, hE4, hE6, hE12⟩ := hE
  intro d
  induction d with
  | zero =>
    intro k fu fv T J f x g s hk hfu hfv hT hf h
    obtain ⟨fu, rfl⟩ : ∃ q, fu = q + 2 := ⟨fu - 2, by omega⟩
    obtain ⟨fv, rfl⟩ : ∃ q, fv = q + 2 := ⟨fv - 2, by omega⟩
    have h16 := h.n16
    have hsn : (z_uR m 1 s) 1 2 = nI n := by rw [m_same]; exact h.sn
    rcases m_cs x (n := n) (by omega) with ⟨o, ho, rfl⟩ | ⟨hx, -⟩
    · by_cases h6 : g 6 o = -1
      · refine ⟨3, 3, g, s, T, J, rfl, by decide, ?_, ?_, h, Nat.le_refl T, by omega, fun _ _ _ _ _ _ => rfl⟩
        · rw [lX2_runFrom_10.eq_2, if_neg (m_nlt99 (by omega)), if_pos rfl]
          unfold fX2_isOnDrum
          rw [m_hasY h.gn h16 ho, m_bind, if_neg m_1_0, m_in (by omega) (by decide), m_ckt, m_clamp (by omega), if_pos h6, m_bind, if_pos m_00]
          exact m_wkE K (by decide)
        · rw [lX5_runs_10.eq_2, if_pos rfl, m_ioY hsn h16 ho, m_bind, if_neg m_1_0, m_part (p := 5) (k := 5) (r := 6) rfl rfl (by omega) (by decide), m_bind, m_same, h.or ho (by decide) (by decide) hE6, if_pos h6]
          exact m_rnE (by decide)
      · have hon : fX2_isOnDrum N (nI o) g = some 1 := by
          unfold fX2_isOnDrum
          rw [m_hasY h.gn h16 ho, m_bind, if_neg m_1_0, m_in (by omega) (by decide), m_ckt, m_clamp (by omega), if_neg h6]
        have c := m_wkB (N := N) (g := g) (k := k) (fu := fu + 1) (f := f) K hon (by omega) (by omega)
        have c' := m_rnB (N := N) (m := z_uR m 1 s) (k := k) (fv := fv + 1) (f := f) hsn h16 ho (by rw [m_same, h.or ho (by decide) (by decide) hE6]; exact h6) (by omega)
        rw [m_same, h.or ho (by decide) (by decide) hE4] at c'
        by_cases cf : ¬ f = -1 ∧ ¬ g 4 o = -1 ∧ ¬ g 4 o = f
        · rw [if_pos cf] at c c'
          exact ⟨1, 1, g, s, T, J, rfl, by decide, by rw [c]; exact m_wkE K (by decide), by rw [c']; exact m_rnE (by decide), h, Nat.le_refl T, by omega, fun _ _ _ _ _ _ => rfl⟩
        · rw [if_neg cf, if_pos (by omega)] at c c'
          exact ⟨2, 2, g, s, T, J, rfl, by decide, by rw [c]; exact m_wkE K (by decide), by rw [c']; exact m_rnE (by decide), h, Nat.le_refl T, by omega, fun _ _ _ _ _ _ => rfl⟩
    · refine ⟨3, 3, g, s, T, J, rfl, by decide, ?_, ?_, h, Nat.le_refl T, by omega, fun _ _ _ _ _ _ => rfl⟩
      · rw [lX2_runFrom_10.eq_2, if_neg (m_nlt99 (by omega)), if_pos rfl]
        unfold fX2_isOnDrum
        rw [m_hasN h.gn hx, m_bind, if_pos m_00, m_bind, if_pos m_00]
        exact m_wkE K (by decide)
      · rw [lX5_runs_10.eq_2, if_pos rfl, m_ioN hsn h16 hx, m_bind, if_pos m_00]
        exact m_rnE (by decide)
  | succ d ih =>
    intro k fu fv T J f x g s hk hfu hfv hT hf h
    obtain ⟨fu, rfl⟩ : ∃ q, fu = q + 2 := ⟨fu - 2, by omega⟩
    obtain ⟨fv, rfl⟩ : ∃ q, fv = q + 2 := ⟨fv - 2, by omega⟩
    have h16 := h.n16
    have hsn : (z_uR m 1 s) 1 2 = nI n := by rw [m_same]; exact h.sn
    rcases m_cs x (n := n) (by omega) with ⟨o, ho, rfl⟩ | ⟨hx, -⟩
    · by_cases h6 : g 6 o = -1
      · refine ⟨3, 3, g, s, T, J, rfl, by decide, ?_, ?_, h, Nat.le_refl T, by omega, fun _ _ _ _ _ _ => rfl⟩
        · rw [lX2_runFrom_10.eq_2, if_neg (m_nlt99 (by omega)), if_pos rfl]
          unfold fX2_isOnDrum
          rw [m_hasY h.gn h16 ho, m_bind, if_neg m_1_0, m_in (by omega) (by decide), m_ckt, m_clamp (by omega), if_pos h6, m_bind, if_pos m_00]
          exact m_wkE K (by decide)
        · rw [lX5_runs_10.eq_2, if_pos rfl, m_ioY hsn h16 ho, m_bind, if_neg m_1_0, m_part (p := 5) (k := 5) (r := 6) rfl rfl (by omega) (by decide), m_bind, m_same, h.or ho (by decide) (by decide) hE6, if_pos h6]
          exact m_rnE (by decide)
      · have hon : fX2_isOnDrum N (nI o) g = some 1 := by
          unfold fX2_isOnDrum
          rw [m_hasY h.gn h16 ho, m_bind, if_neg m_1_0, m_in (by omega) (by decide), m_ckt, m_clamp (by omega), if_neg h6]
        have c := m_wkB (N := N) (g := g) (k := k) (fu := fu + 1) (f := f) K hon (by omega) (by omega)
        have c' := m_rnB (N := N) (m := z_uR m 1 s) (k := k) (fv := fv + 1) (f := f) hsn h16 ho (by rw [m_same, h.or ho (by decide) (by decide) hE6]; exact h6) (by omega)
        rw [m_same, h.or ho (by decide) (by decide) hE4] at c'
        by_cases cf : ¬ f = -1 ∧ ¬ g 4 o = -1 ∧ ¬ g 4 o = f
        · rw [if_pos cf] at c c'
          exact ⟨1, 1, g, s, T, J, rfl, by decide, by rw [c]; exact m_wkE K (by decide), by rw [c']; exact m_rnE (by decide), h, Nat.le_refl T, by omega, fun _ _ _ _ _ _ => rfl⟩
        · obtain ⟨p, hp, ep⟩ : ∃ p, p < P ∧ g 6 o = nI p := (h.pl ho).resolve_left h6
          obtain ⟨xx, hxx⟩ : ∃ xx : Int32, xx = if f = -1 then 0 else 1 := ⟨_, rfl⟩
          have hx01 : xx = 0 ∨ xx = 1 := by
            rw [hxx]
            by_cases q : f = -1
            · exact Or.inl (if_pos q)
            · exact Or.inr (if_neg q)
          obtain ⟨g1, s1, T1, t1, t2, r1, r2, r3, r4⟩ := m_read (N := N) (m := m) h ⟨hE0, hE1, hE2, hE6⟩ hE8 (by omega) ho ep hp hx01
          have hn3 : g1 3 o = g 3 o := by rw [r4 3 (by decide) (by decide) (by decide) (by decide)]
          have hp3 : fX5_part N (nI o) (2 : Int32) (z_uR m 1 s1) = some (g1 3 o) := by
            rw [m_part (p := 2) (k := 2) (r := 3) rfl rfl (by omega) (by decide), m_same, r3.or ho (by decide) (by decide) hE3]
          rw [if_neg cf, if_neg (by omega), ← hxx, r1, m_bind] at c
          rw [if_neg cf, if_neg (by omega), ← hxx, r2, m_bind, hp3, m_bind] at c'
          have hfr : ∀ q, 1 ≤ q → q ≤ 12 → q ≠ 8 → q ≠ 9 → q ≠ 11 → g1 q = g q := fun q q1 q2 q8 q9 q11 => r4 q (by omega) q8 q9 q11
          by_cases c3 : g1 3 o = -1
          · rw [if_pos c3] at c c'
            exact ⟨0, 0, g1, s1, T1, J, rfl, by decide, by rw [c]; exact m_wkE K (by decide), by rw [c', c3]; exact m_rnE (by decide), r3, t1, by omega, hfr⟩
          · obtain ⟨y, hy, ey⟩ : ∃ y, y < 16 ∧ g1 3 o = nI y := (r3.ne ho).resolve_left c3
            obtain ⟨g2, s2, J2, n1, n2, n3, n4⟩ := m_note (N := N) (m := m) r3 hE12 hN (x := o) (y := y) (by omega) hy
            rw [if_neg c3, ey, n1, m_bind, show g2 3 o = nI y by rw [n4 3 (by decide) (by decide)]; exact ey] at c
            rw [if_neg c3, ey, n2, m_bind] at c'
            obtain ⟨e, j, g', s', T', J', e1, e2, e3, e4, e5, e6, e7, e8⟩ := ih (k + 1) (fu + 1) (fv + 1) T1 J2 (nI o) (nI y) g2 s2 (by omega) (by omega) (by omega) (by omega) (Or.inr ⟨o, by omega, rfl⟩) n3
            exact ⟨e, j, g', s', T', J', e1, e2, by rw [c]; exact e3, by rw [c']; exact e4, e5, by omega, by omega, fun q q1 q2 q8 q9 q11 => by rw [e8 q q1 q2 q8 q9 q11, n4 q q1 q2, hfr q q1 q2 q8 q9 q11]⟩
    · refine ⟨3, 3, g, s, T, J, rfl, by decide, ?_, ?_, h, Nat.le_refl T, by omega, fun _ _ _ _ _ _ => rfl⟩
      · rw [lX2_runFrom_10.eq_2, if_neg (m_nlt99 (by omega)), if_pos rfl]
        unfold fX2_isOnDrum
        rw [m_hasN h.gn hx, m_bind, if_pos m_00, m_bind, if_pos m_00]
        exact m_wkE K (by decide)
      · rw [lX5_runs_10.eq_2, if_pos rfl, m_ioN hsn h16 hx, m_bind, if_pos m_00]
        exact m_rnE (by decide)
/-- a run from x, how it ends is kept -/
theorem m_runs (h : RS E n P T J g s) (hE : E 0 ∧ E 1 ∧ E 2 ∧ E 3 ∧ E 4 ∧ E 6 ∧ E 12) (hE8 : E 11 → E 8) (hN : 260 ≤ N) (hT : T + 4900 < 2 ^ 30) (x : Int32) : ∃ e j g' s' T' J', e = nI j ∧ j < 4 ∧ fX2_runFrom N x g = some (e, g') ∧ fX5_runs N x (z_uR m 1 s) = some (e, z_uR m 1 s') ∧ RS E n P T' J' g' s' ∧ T ≤ T' ∧ T' ≤ T + 4900 ∧ g' 0 3 = e ∧ s' 4 = e ∧ (∀ q, 1 ≤ q → q ≤ 12 → q ≠ 8 → q ≠ 9 → q ≠ 11 → g' q = g q) := by
  obtain ⟨e, j, g', s', T', J', e1, e2, e3, e4, e5, e6, e7, e8⟩ := m_walk (N := N) (m := m) (fun x2 g2 => z_lt (z_u2 g2 0 3 x2) fun g53 => some (x2, g53)) hE hE8 hN 99 0 N N T J (-1) x g s (by omega) (by omega) (by omega) (by omega) (Or.inl rfl) h
  refine ⟨e, j, z_u2 g' 0 3 e, upd s' 4 e, T', J', e1, e2, ?_, e4, e5.en e, e6, by omega, by rw [m_u2s, m_us], m_us _ _ _, fun q q1 q2 q8 q9 q11 => by rw [m_u2n _ _ _ (by omega), e8 q q1 q2 q8 q9 q11]⟩
  unfold fX2_runFrom
  rw [show (0 : Int32) = nI 0 from rfl, e3, m_lt]
end MR9
end
section
/-! counts and sums: both sides -/
section MR10
variable {E : Nat → Prop} {N n P T J : Nat} {g m : z_R} {s : Nat → Int32}
def m_sum (f : Nat → Int32) : Nat → Int32
  | 0 => 0
  | n + 1 => m_sum f n + f n
theorem m_sumE {f h : Nat → Int32} : ∀ n, (∀ i, i < n → f i = h i) → m_sum f n = m_sum h n := by
  intro n
  induction n with
  | zero => intro _; rfl
  | succ n ih =>
    intro hh
    show m_sum f n + f n = m_sum h n + h n
    rw [ih fun i hi => hh i (by omega), hh n (by omega)]
theorem m_sum0 {f : Nat → Int32} {a : Nat} : ∀ k, (∀ i, a ≤ i → i < a + k → f i = 0) → m_sum f (a + k) = m_sum f a := by
  intro k
  induction k with
  | zero => intro _; rfl
  | succ k ih =>
    intro hh
    show m_sum f (a + k) + f (a + k) = m_sum f a
    rw [ih fun i h1 h2 => hh i h1 (by omega), hh (a + k) (by omega) (by omega), Int32.add_zero]
theorem m_sumL {ln : Nat} (hl : ln < 2 ^ 31) (f : Nat → Int32) : ∀ (k i fu : Nat), i + k = ln → k < fu → lX4_sum_4 N ln f fu (m_sum f i) (nI i) = some (m_sum f ln) := by
  intro k
  induction k with
  | zero =>
    intro i fu hi hfu
    obtain ⟨fu, rfl⟩ : ∃ q, fu = q + 1 := ⟨fu - 1, by omega⟩
    have e : i = ln := by omega
    subst e
    rw [lX4_sum_4.eq_2, show (Int32.ofNat i) = nI i from rfl, if_pos (nI_le (Nat.le_refl i) hl)]
  | succ k ih =>
    intro i fu hi hfu
    obtain ⟨fu, rfl⟩ : ∃ q, fu = q + 1 := ⟨fu - 1, by omega⟩
    rw [lX4_sum_4.eq_2, show (Int32.ofNat ln) = nI ln from rfl, if_neg (nI_ge (by omega) hl), m_in (by omega) hl, m_ckt, m_clamp (by omega), nI_1]
    exact ih (i + 1) fu (by omega) (by omega)
theorem m_sumC {ln : Nat} (hl : ln < N) (hN : N < 2 ^ 31) (f : Nat → Int32) : fX4_sum N ln f = some (m_sum f ln) := m_sumL (by omega) f ln 0 N (by omega) hl
theorem m_raL (hm : m 1 = s) : ∀ (k i fu : Nat), i + k = 4 → k < fu → lX5_refundedAll_4 N m fu (m_sum (fun a => s (9 + a)) i) (nI i) = some (m_sum (fun a => s (9 + a)) 4) := by
  intro k
  induction k with
  | zero =>
    intro i fu hi hfu
    obtain ⟨fu, rfl⟩ : ∃ q, fu = q + 1 := ⟨fu - 1, by omega⟩
    have e : i = 4 := by omega
    subst e
    rw [lX5_refundedAll_4.eq_2, if_pos (by decide)]
  | succ k ih =>
    intro i fu hi hfu
    obtain ⟨fu, rfl⟩ : ∃ q, fu = q + 1 := ⟨fu - 1, by omega⟩
    rw [lX5_refundedAll_4.eq_2, if_neg (m_ge4 (by omega)), show (9 : Int32) + nI i = nI (9 + i) from nI_add 9 i, m_in (by omega) (by decide), m_ckt, m_clamp (by omega), hm, nI_1]
    exact ih (i + 1) fu (by omega) (by omega)
theorem m_refundedAll (h : RS E n P T J g s) (hE : E 11) (hN : 17 ≤ N) (hN2 : N < 2 ^ 31) : fX4_sum N 4 (g 11) = some (m_sum (g 11) 4) ∧ fX5_refundedAll N (z_uR m 1 s) = some (m_sum (g 11) 4) := by
  refine ⟨m_sumC (by omega) hN2 _, ?_⟩
  have e : m_sum (g 11) 4 = m_sum (fun a => s (9 + a)) 4 := m_sumE 4 fun i hi => (h.rf hi hE).symm
  rw [e]
  exact m_raL (m_same m 1 s) 4 0 N (by omega) (by omega)
theorem m_0n (x : Int32) : (0 : Int32) + x = x := Int32.zero_add x
/-- the class's count of orders on the drum -/
theorem m_ldL (h : RS E n P T J g s) : ∀ (k i fu : Nat), i + k = n → k < fu → lX2_laidOrders_4 N g fu (m_sum (fun o => if g 6 o = -1 then 0 else 1) i) (nI i) = some (m_sum (fun o => if g 6 o = -1 then 0 else 1) n) := by
  have h16 := h.n16
  intro k
  induction k with
  | zero =>
    intro i fu hi hfu
    obtain ⟨fu, rfl⟩ : ∃ q, fu = q + 1 := ⟨fu - 1, by omega⟩
    have e : i = n := by omega
    subst e
    rw [lX2_laidOrders_4.eq_2]
    by_cases c : (16 : Int32) ≤ nI i
    · rw [if_pos c]
    · rw [if_neg c, m_hasN h.gn (Or.inr (nI_le (by omega) (by omega))), m_bind, if_pos m_00]
  | succ k ih =>
    intro i fu hi hfu
    obtain ⟨fu, rfl⟩ : ∃ q, fu = q + 1 := ⟨fu - 1, by omega⟩
    have q := ih (i + 1) fu (by omega) (by omega)
    rw [show m_sum (fun o => if g 6 o = -1 then 0 else 1) (i + 1) = m_sum (fun o => if g 6 o = -1 then 0 else 1) i + (if g 6 i = -1 then 0 else 1) from rfl] at q
    rw [lX2_laidOrders_4.eq_2, if_neg (m_ge16 (by omega)), m_hasY h.gn h16 (by omega), m_bind, if_neg m_1_0, m_in (by omega) (by decide), m_ckt, m_clamp (by omega), nI_1]
    by_cases c : g 6 i = -1
    · rw [if_pos c]
      rw [if_pos c, Int32.add_zero] at q
      exact q
    · rw [if_neg c]
      rw [if_neg c] at q
      exact q
theorem m_ooL (h : RS E n P T J g s) (x : Int32) : ∀ (k i fu : Nat), i + k = n → k < fu → lX2_ordersOf_4 N x g fu (m_sum (fun o => if g 1 o = x then 1 else 0) i) (nI i) = some (m_sum (fun o => if g 1 o = x then 1 else 0) n) := by
  have h16 := h.n16
  intro k
  induction k with
  | zero =>
    intro i fu hi hfu
    obtain ⟨fu, rfl⟩ : ∃ q, fu = q + 1 := ⟨fu - 1, by omega⟩
    have e : i = n := by omega
    subst e
    rw [lX2_ordersOf_4.eq_2]
    by_cases c : (16 : Int32) ≤ nI i
    · rw [if_pos c]
    · rw [if_neg c, m_hasN h.gn (Or.inr (nI_le (by omega) (by omega))), m_bind, if_pos m_00]
  | succ k ih =>
    intro i fu hi hfu
    obtain ⟨fu, rfl⟩ : ∃ q, fu = q + 1 := ⟨fu - 1, by omega⟩
    have q := ih (i + 1) fu (by omega) (by omega)
    rw [show m_sum (fun o => if g 1 o = x then 1 else 0) (i + 1) = m_sum (fun o => if g 1 o = x then 1 else 0) i + (if g 1 i = x then 1 else 0) from rfl] at q
    rw [lX2_ordersOf_4.eq_2, if_neg (m_ge16 (by omega)), m_hasY h.gn h16 (by omega), m_bind, if_neg m_1_0, m_in (by omega) (by decide), m_ckt, m_clamp (by omega), nI_1]
    by_cases c : g 1 i = x
    · rw [if_pos c]
      rw [if_pos c] at q
      exact q
    · rw [if_neg c]
      rw [if_neg c, Int32.add_zero] at q
      exact q
end MR10
end
section
/-! copies of states, on both sides -/
section MR11
variable {E : Nat → Prop} {N n P T J : Nat} {g g' h m : z_R} {s s' : Nat → Int32}
theorem RS.cg (h : RS E n P T J g s) (hg0 : ∀ k, k ≤ 4 → g' 0 k = g 0 k) (hg : ∀ r o, 1 ≤ r → r ≤ 9 → o < 16 → g' r o = g r o) (h10 : ∀ i, i < 4 → g' 10 i = g 10 i ∧ g' 11 i = g 11 i) (hj : ∀ i, i < J → g' 13 i = g 13 i ∧ g' 14 i = g 14 i ∧ g' 15 i = g 15 i) (hs : ∀ k, k < 925 → s' k = s k) : RS E n P T J g' s' := by
  have h16 := h.n16
  have hJ := h.J256
  refine ⟨h.1, ?_, ?_, ?_, ?_, ?_, ?_, ?_, ?_, ?_, ?_, ?_⟩
  · rw [hg0 0 (by decide), hg0 1 (by decide), hg0 2 (by decide), hg0 4 (by decide)]; exact h.2.1
  · rw [hs 0 (by decide), hs 2 (by decide)]; exact h.2.2.1
  · rw [hs 1 (by decide), hs 4 (by decide), hg0 3 (by decide)]; exact h.2.2.2.1
  · rw [hs 3 (by decide)]; exact h.2.2.2.2.1
  · intro i hi
    rw [hs (5 + i) (by omega), hs (9 + i) (by omega), (h10 i hi).1, (h10 i hi).2]
    exact h.2.2.2.2.2.1 i hi
  · intro o r ho h1 h9
    rw [hs _ (by omega), hg r o h1 h9 (by omega)]
    exact h.2.2.2.2.2.2.1 o r ho h1 h9
  · intro o q ho hq hoq
    rw [hg 6 o (by decide) (by decide) (by omega), hg 6 q (by decide) (by decide) (by omega)]; exact h.ap ho hq hoq
  · intro o ho h16
    rw [hg 8 o (by decide) (by decide) h16]; exact h.op0 ho h16
  · intro e i hi
    rw [hs _ (by omega), hs _ (by omega), hs _ (by omega), (hj i hi).1, (hj i hi).2.1, (hj i hi).2.2]
    exact h.ju e hi
  · intro i hi
    rw [(hj i hi).1, (hj i hi).2.1]; exact h.jv hi
  · intro i k hi hk
    rw [(hj i (by omega)).1, (hj i (by omega)).2.1, (hj k hk).1, (hj k hk).2.1]; exact h.jd hi hk
def m_up (f u : Nat → Int32) (n : Nat) : Nat → Int32 := fun j => if j < n then f j else u j
theorem m_crL {ln : Nat} (hl : ln < 2 ^ 31) (f u : Nat → Int32) : ∀ (k i fu : Nat), i + k = ln → k < fu → lX2_copyRow_2 N ln f fu (nI i) (m_up f u i) = some (m_up f u ln) := by
  intro k
  induction k with
  | zero =>
    intro i fu hi hfu
    obtain ⟨fu, rfl⟩ : ∃ q, fu = q + 1 := ⟨fu - 1, by omega⟩
    have e : i = ln := by omega
    subst e
    rw [lX2_copyRow_2.eq_2, show (Int32.ofNat i) = nI i from rfl, if_pos (nI_le (Nat.le_refl i) hl)]
  | succ k ih =>
    intro i fu hi hfu
    obtain ⟨fu, rfl⟩ : ∃ q, fu = q + 1 := ⟨fu - 1, by omega⟩
    rw [lX2_copyRow_2.eq_2, show (Int32.ofNat ln) = nI ln from rfl, if_neg (nI_ge (by omega) hl), if_neg (nI_ge (by omega) hl), m_in (by omega) hl, m_ckt, m_ckt, m_clamp (by omega), m_lt, nI_1]
    have e : upd (m_up f u i) i (f i) = m_up f u (i + 1) := by
      funext j
      by_cases c : j = i
      · subst c
        rw [m_us]
        exact (if_pos (Nat.lt_succ_self j)).symm
      · rw [m_un _ _ c]
        unfold m_up
        by_cases c2 : j < i
        · rw [if_pos c2, if_pos (by omega)]
        · rw [if_neg c2, if_neg (by omega)]
    rw [e]
    exact ih (i + 1) fu (by omega) (by omega)
theorem m_cr {ln : Nat} (hl : ln < N) (hN : N < 2 ^ 31) (f u : Nat → Int32) : fX2_copyRow N ln f u = some (m_up f u ln) := by
  have e : m_up f u 0 = u := by
    funext j
    exact if_neg (Nat.not_lt_zero j)
  have h := m_crL (N := N) (ln := ln) (by omega) f u ln 0 N (by omega) hl
  rw [e] at h
  exact h
theorem m_cjL (hJ : h 0 4 = nI J) (hJ6 : J ≤ 256) : ∀ (k i fu : Nat) (g : z_R), i + k = J → k < fu → (∀ q, q < i → g 13 q = h 13 q ∧ g 14 q = h 14 q ∧ g 15 q = h 15 q) → ∃ g', lX0_copyFrom_2 N h fu (nI i) g = some g' ∧ (∀ q, q < J → g' 13 q = h 13 q ∧ g' 14 q = h 14 q ∧ g' 15 q = h 15 q) ∧ g' 0 4 = nI J ∧ (∀ k, k ≠ 4 → g' 0 k = g 0 k) ∧ (∀ r, 1 ≤ r → r ≤ 12 → g' r = g r) := by
  intro k
  induction k with
  | zero =>
    intro i fu g hi hfu hb
    obtain ⟨fu, rfl⟩ : ∃ q, fu = q + 1 := ⟨fu - 1, by omega⟩
    have e : i = J := by omega
    subst e
    refine ⟨z_u2 g 0 4 (nI i), ?_, fun q hq => ?_, by rw [m_u2s, m_us], fun k hk => by rw [m_u2s, m_un _ _ hk], fun r h1 h2 => m_u2n _ _ _ (by omega)⟩
    · rw [lX0_copyFrom_2.eq_2, hJ, if_pos (nI_le (Nat.le_refl i) (by omega)), m_lt]
    · rw [m_u2n _ _ _ (by decide), m_u2n _ _ _ (by decide), m_u2n _ _ _ (by decide)]; exact hb q hq
  | succ k ih =>
    intro i fu g hi hfu hb
    obtain ⟨fu, rfl⟩ : ∃ q, fu = q + 1 := ⟨fu - 1, by omega⟩
    obtain ⟨G, hG⟩ : ∃ G, G = z_u2 (z_u2 (z_u2 g 13 i (h 13 i)) 14 i (h 14 i)) 15 i (h 15 i) := ⟨_, rfl⟩
    have g13 : G 13 = upd (g 13) i (h 13 i) := by rw [hG, m_u2n _ _ _ (by decide), m_u2n _ _ _ (by decide), m_u2s]
    have g14 : G 14 = upd (g 14) i (h 14 i) := by rw [hG, m_u2n _ _ _ (by decide), m_u2s, m_u2n _ _ _ (by decide)]
    have g15 : G 15 = upd (g 15) i (h 15 i) := by rw [hG, m_u2s, m_u2n _ _ _ (by decide), m_u2n _ _ _ (by decide)]
    have gr : ∀ r, r ≤ 12 → G r = g r := fun r hr => by rw [hG, m_u2n _ _ _ (by omega), m_u2n _ _ _ (by omega), m_u2n _ _ _ (by omega)]
    obtain ⟨g', a1, a2, a3, a4, a5⟩ := ih (i + 1) fu G (by omega) (by omega) (fun q hq => by
      rw [g13, g14, g15]
      by_cases c : q = i
      · subst c; rw [m_us, m_us, m_us]; exact ⟨rfl, rfl, rfl⟩
      · rw [m_un _ _ c, m_un _ _ c, m_un _ _ c]; exact hb q (by omega))
    refine ⟨g', ?_, a2, a3, fun k hk => by rw [a4 k hk, gr 0 (by decide)], fun r h1 h2 => by rw [a5 r h1 h2, gr r h2]⟩
    rw [lX0_copyFrom_2.eq_2, hJ, if_neg (nI_ge (by omega) (by omega)), m_in (by omega) (by decide), m_ckt, m_ckt, m_clamp (by omega), m_lt, m_ckt, m_ckt, m_lt, m_ckt, m_ckt, m_lt, nI_1, ← hG]
    exact a1
/-- the class copies a state -/
theorem m_copyC (hs : RS E n P T J h s) (hN : 260 ≤ N) (hN2 : N < 2 ^ 31) (g : z_R) : ∃ g', fX2_copyFrom N h g = some g' ∧ ∀ {E' : Nat → Prop} {n' P' T' J' : Nat} {s' s'' : Nat → Int32}, RS E' n' P' T' J' h s' → (∀ k, k < 925 → s'' k = s' k) → RS E' n' P' T' J' g' s'' := by
  obtain ⟨G, hG⟩ : ∃ G, G = z_u2 (z_u2 (z_u2 (z_u2 g 0 0 (h 0 0)) 0 1 (h 0 1)) 0 2 (h 0 2)) 0 3 (h 0 3) := ⟨_, rfl⟩
  obtain ⟨G', hG'⟩ : ∃ G', G' = z_uR (z_uR (z_uR (z_uR (z_uR (z_uR (z_uR (z_uR (z_uR (z_uR (z_uR G 1 (m_up (h 1) (G 1) 16)) 2 (m_up (h 2) (G 2) 16)) 3 (m_up (h 3) (G 3) 16)) 4 (m_up (h 4) (G 4) 16)) 5 (m_up (h 5) (G 5) 16)) 6 (m_up (h 6) (G 6) 16)) 7 (m_up (h 7) (G 7) 16)) 8 (m_up (h 8) (G 8) 16)) 9 (m_up (h 9) (G 9) 16)) 10 (m_up (h 10) (G 10) 4)) 11 (m_up (h 11) (G 11) 4) := ⟨_, rfl⟩
  obtain ⟨g', a1, a2, a3, a4, a5⟩ := m_cjL (N := N) hs.gJ hs.J256 J 0 N G' (by omega) (by have := hs.J256; omega) (fun q hq => absurd hq (Nat.not_lt_zero q))
  refine ⟨g', ?_, fun {E' n' P' T' J' s' s''} h1 h2 => ?_⟩
  · unfold fX2_copyFrom fX0_copyFrom
    have c16 : ∀ f u, fX2_copyRow N 16 f u = some (m_up f u 16) := fun f u => m_cr (by omega) hN2 f u
    have c4 : ∀ f u, fX2_copyRow N 4 f u = some (m_up f u 4) := fun f u => m_cr (by omega) hN2 f u
    rw [m_lt, m_lt, m_lt, m_lt, ← hG]
    simp only [c16, c4, m_bind, m_lt]
    rw [m_other _ _ (show (2 : Nat) ≠ 1 by decide)]
    simp only [m_other _ _ (show (3 : Nat) ≠ 2 by decide), m_other _ _ (show (3 : Nat) ≠ 1 by decide), m_other _ _ (show (4 : Nat) ≠ 3 by decide), m_other _ _ (show (4 : Nat) ≠ 2 by decide), m_other _ _ (show (4 : Nat) ≠ 1 by decide), m_other _ _ (show (5 : Nat) ≠ 4 by decide), m_other _ _ (show (5 : Nat) ≠ 3 by decide), m_other _ _ (show (5 : Nat) ≠ 2 by decide), m_other _ _ (show (5 : Nat) ≠ 1 by decide), m_other _ _ (show (6 : Nat) ≠ 5 by decide), m_other _ _ (show (6 : Nat) ≠ 4 by decide), m_other _ _ (show (6 : Nat) ≠ 3 by decide), m_other _ _ (show (6 : Nat) ≠ 2 by decide), m_other _ _ (show (6 : Nat) ≠ 1 by decide), m_other _ _ (show (7 : Nat) ≠ 6 by decide), m_other _ _ (show (7 : Nat) ≠ 5 by decide), m_other _ _ (show (7 : Nat) ≠ 4 by decide), m_other _ _ (show (7 : Nat) ≠ 3 by decide), m_other _ _ (show (7 : Nat) ≠ 2 by decide), m_other _ _ (show (7 : Nat) ≠ 1 by decide), m_other _ _ (show (8 : Nat) ≠ 7 by decide), m_other _ _ (show (8 : Nat) ≠ 6 by decide), m_other _ _ (show (8 : Nat) ≠ 5 by decide), m_other _ _ (show (8 : Nat) ≠ 4 by decide), m_other _ _ (show (8 : Nat) ≠ 3 by decide), m_other _ _ (show (8 : Nat) ≠ 2 by decide), m_other _ _ (show (8 : Nat) ≠ 1 by decide), m_other _ _ (show (9 : Nat) ≠ 8 by decide), m_other _ _ (show (9 : Nat) ≠ 7 by decide), m_other _ _ (show (9 : Nat) ≠ 6 by decide), m_other _ _ (show (9 : Nat) ≠ 5 by decide), m_other _ _ (show (9 : Nat) ≠ 4 by decide), m_other _ _ (show (9 : Nat) ≠ 3 by decide), m_other _ _ (show (9 : Nat) ≠ 2 by decide), m_other _ _ (show (9 : Nat) ≠ 1 by decide), m_other _ _ (show (10 : Nat) ≠ 9 by decide), m_other _ _ (show (10 : Nat) ≠ 8 by decide), m_other _ _ (show (10 : Nat) ≠ 7 by decide), m_other _ _ (show (10 : Nat) ≠ 6 by decide), m_other _ _ (show (10 : Nat) ≠ 5 by decide), m_other _ _ (show (10 : Nat) ≠ 4 by decide), m_other _ _ (show (10 : Nat) ≠ 3 by decide), m_other _ _ (show (10 : Nat) ≠ 2 by decide), m_other _ _ (show (10 : Nat) ≠ 1 by decide), m_other _ _ (show (11 : Nat) ≠ 10 by decide), m_other _ _ (show (11 : Nat) ≠ 9 by decide), m_other _ _ (show (11 : Nat) ≠ 8 by decide), m_other _ _ (show (11 : Nat) ≠ 7 by decide), m_other _ _ (show (11 : Nat) ≠ 6 by decide), m_other _ _ (show (11 : Nat) ≠ 5 by decide), m_other _ _ (show (11 : Nat) ≠ 4 by decide), m_other _ _ (show (11 : Nat) ≠ 3 by decide), m_other _ _ (show (11 : Nat) ≠ 2 by decide), m_other _ _ (show (11 : Nat) ≠ 1 by decide)]
    rw [← hG', show (0 : Int32) = nI 0 from rfl, a1, m_bind]
  · have hJJ : J' = J := m_nI_inj (by have := h1.J256; omega) (by have := hs.J256; omega) (h1.gJ.symm.trans hs.gJ)
    subst hJJ
    have row : ∀ r o, 1 ≤ r → r ≤ 9 → o < 16 → g' r o = h r o := fun r o r1 r9 ho => by
      rw [a5 r r1 (by omega), hG']
      have hup : ∀ f u : Nat → Int32, m_up f u 16 o = f o := fun f u => if_pos ho
      rcases (show r = 1 ∨ r = 2 ∨ r = 3 ∨ r = 4 ∨ r = 5 ∨ r = 6 ∨ r = 7 ∨ r = 8 ∨ r = 9 by omega) with e | e | e | e | e | e | e | e | e <;> subst e <;> simp [z_uR, hup]
    have g00 : ∀ k, k ≤ 3 → g' 0 k = h 0 k := fun k hk => by
      rw [a4 k (by omega), hG']
      have e0 : G 0 k = h 0 k := by
        rw [hG]
        rcases (show k = 0 ∨ k = 1 ∨ k = 2 ∨ k = 3 by omega) with e | e | e | e <;> subst e <;> simp [z_u2, upd]
      simp [z_uR, e0]
    refine h1.cg (fun k hk => ?_) row (fun i hi => ?_) a2 h2
    · by_cases c : k = 4
      · subst c; rw [a3, h1.gJ]
      · exact g00 k (by omega)
    · have hup : ∀ f u : Nat → Int32, m_up f u 4 i = f i := fun f u => if_pos hi
      rw [a5 10 (by decide) (by decide), a5 11 (by decide) (by decide), hG']
      simp [z_uR, hup]
/-- the reference copies 925 numbers -/
def m_cp (f : Nat → Int32) (a : Nat) (u : Nat → Int32) (b i : Nat) : Nat → Int32 := fun j => if b ≤ j ∧ j < b + i then f (a + (j - b)) else u j
theorem m_cpL {ln lk a b : Nat} (ha : a + 925 ≤ ln) (hb : b + 925 ≤ lk) (hln : ln < 2 ^ 31) (hlk : lk < 2 ^ 31) (f u : Nat → Int32) : ∀ (k i fu : Nat), i + k = 925 → k < fu → lX5_copy_3 N ln lk f (nI a) (nI b) fu (nI i) (m_cp f a u b i) = some (m_cp f a u b 925) := by
  intro k
  induction k with
  | zero =>
    intro i fu hi hfu
    obtain ⟨fu, rfl⟩ : ∃ q, fu = q + 1 := ⟨fu - 1, by omega⟩
    have e : i = 925 := by omega
    subst e
    rw [lX5_copy_3.eq_2, if_pos (by decide)]
  | succ k ih =>
    intro i fu hi hfu
    obtain ⟨fu, rfl⟩ : ∃ q, fu = q + 1 := ⟨fu - 1, by omega⟩
    rw [lX5_copy_3.eq_2, if_neg (show ¬ (925 : Int32) ≤ nI i from nI_ge (b := 925) (by omega) (by decide)), nI_add, nI_add, m_in (by omega) hln, m_ckt, m_in (by omega) hlk, m_ckt, m_clamp (by omega), m_clamp (by omega), m_lt, nI_1]
    have e : upd (m_cp f a u b i) (b + i) (f (a + i)) = m_cp f a u b (i + 1) := by
      funext j
      by_cases c : j = b + i
      · subst c
        rw [m_us]
        unfold m_cp
        rw [if_pos ⟨by omega, by omega⟩, show a + (b + i - b) = a + i by omega]
      · rw [m_un _ _ c]
        unfold m_cp
        by_cases c2 : b ≤ j ∧ j < b + i
        · rw [if_pos c2, if_pos ⟨c2.1, by omega⟩]
        · rw [if_neg c2, if_neg (by omega)]
    rw [e]
    exact ih (i + 1) fu (by omega) (by omega)
theorem m_cpM {ln lk a b : Nat} {x y : Int32} (hx : x = nI a) (hy : y = nI b) (ha : a + 925 ≤ ln) (hb : b + 925 ≤ lk) (hln : ln < 2 ^ 31) (hlk : lk < 2 ^ 31) (hN : 930 ≤ N) (f u : Nat → Int32) : fX5_copy N ln lk f x y u = some (m_cp f a u b 925) := by
  subst hx
  subst hy
  have e : m_cp f a u b 0 = u := by
    funext j
    exact if_neg (by omega)
  have h := m_cpL (N := N) ha hb hln hlk f u 925 0 N (by omega) (by omega)
  rw [e] at h
  exact h
theorem m_cpI {f u : Nat → Int32} {a b k : Nat} (hk : k < 925) : m_cp f a u b 925 (b + k) = f (a + k) := by
  unfold m_cp
  rw [if_pos ⟨by omega, by omega⟩, show a + (b + k - b) = a + k by omega]
theorem m_cpO {f u : Nat → Int32} {a b j : Nat} (hj : j < b ∨ b + 925 ≤ j) : m_cp f a u b 925 j = u j := if_neg (by omega)
end MR11
end
section
/-! the whole relation of the class and the reference; what is remembered -/
theorem m_u3n (G : Nat → z_R) {k j : Nat} (g : z_R) (h : j ≠ k) : z_u3 G k g j = G j := if_neg h
theorem m_u3s (G : Nat → z_R) (k : Nat) (g : z_R) : z_u3 G k g k = g := if_pos rfl
theorem m_self (m : z_R) (r : Nat) : z_uR m r (m r) = m := m_uRself m r
def m_St (B : Nat) (g : z_R) (s : Nat → Int32) : Prop := ∃ n P T J, RS (fun _ => True) n P T J g s ∧ T ≤ B
def m_Tx (X : z_X) (m : z_R) : Prop := ∃ len, len ≤ 160 ∧ X.1 0 0 = nI len ∧ m 0 2 = nI len ∧ ∀ i, i < len → ∃ c, c < 256 ∧ X.1 1 i = nI c ∧ m 8 i = nI c
def m_Me (B : Nat) (X : z_X) (m : z_R) : Prop := ∃ old sz, old < 14 ∧ sz ≤ 14 ∧ X.2.1 0 0 = nI old ∧ X.2.1 0 1 = nI sz ∧ m 0 1 = nI sz ∧ ∀ j, j < sz → m_St B (X.2.2 ((old + j) % 14 + 3)) (fun k => m 5 (925 * j + k))
def m_Sl (B : Nat) (X : z_X) (m : z_R) : Prop := ∀ i, i < 2 → (X.2.1 1 i = 0 ∧ m 7 i = 0) ∨ (X.2.1 1 i = 1 ∧ m 7 i = 1 ∧ m_St B (X.2.2 (i + 17)) (fun k => m 6 (925 * i + k)))
def RG (B : Nat) (X : z_X) (m : z_R) : Prop := m_Tx X m ∧ m_St B (X.2.2 0) (m 1) ∧ m_Me B X m ∧ m_Sl B X m
theorem m_St.mono {B B' : Nat} {g : z_R} {s : Nat → Int32} (h : m_St B g s) (hB : B ≤ B') : m_St B' g s := by
  obtain ⟨n, P, T, J, a, b⟩ := h
  exact ⟨n, P, T, J, a, Nat.le_trans b hB⟩
theorem RG.mono {B B' : Nat} {X : z_X} {m : z_R} (h : RG B X m) (hB : B ≤ B') : RG B' X m := by
  obtain ⟨h1, h2, ⟨old, sz, a1, a2, a3, a4, a5, a6⟩, h4⟩ := h
  exact ⟨h1, h2.mono hB, ⟨old, sz, a1, a2, a3, a4, a5, fun j hj => (a6 j hj).mono hB⟩, fun i hi => (h4 i hi).imp id fun q => ⟨q.1, q.2.1, q.2.2.mono hB⟩⟩
/-- what the relation does not speak of may change -/
theorem RG.fr {B : Nat} {X X' : z_X} {m m' : z_R} (h : RG B X m) (h1 : X'.1 = X.1) (h2 : X'.2.1 = X.2.1) (h3 : ∀ k, k = 0 ∨ 3 ≤ k → X'.2.2 k = X.2.2 k) (h4 : m' 1 = m 1 ∧ m' 5 = m 5 ∧ m' 6 = m 6 ∧ m' 7 = m 7 ∧ m' 8 = m 8) (h5 : m' 0 1 = m 0 1 ∧ m' 0 2 = m 0 2) : RG B X' m' := by
  obtain ⟨e1, e5, e6, e7, e8⟩ := h4
  obtain ⟨⟨len, t1, t2, t3, t4⟩, q2, ⟨old, sz, a1, a2, a3, a4, a5, a6⟩, q4⟩ := h
  refine ⟨⟨len, t1, by rw [h1]; exact t2, by rw [h5.2]; exact t3, by rw [h1, e8]; exact t4⟩, by rw [h3 0 (Or.inl rfl), e1]; exact q2, ⟨old, sz, a1, a2, by rw [h2]; exact a3, by rw [h2]; exact a4, by rw [h5.1]; exact a5, fun j hj => by rw [h3 _ (Or.inr (by omega)), e5]; exact a6 j hj⟩, fun i hi => ?_⟩
  rw [h2, h3 _ (Or.inr (by omega)), e6, e7]
  exact q4 i hi
/-- the state now is another one -/
theorem RG.nw {B B' : Nat} {X : z_X} {m : z_R} {g : z_R} {s : Nat → Int32} (h : RG B X m) (hB : B ≤ B') (hs : m_St B' g s) : RG B' (X.1, X.2.1, z_u3 X.2.2 0 g) (z_uR m 1 s) := by
  obtain ⟨⟨len, t1, t2, t3, t4⟩, q2, ⟨old, sz, a1, a2, a3, a4, a5, a6⟩, q4⟩ := h.mono hB
  refine ⟨⟨len, t1, t2, by rw [m_other _ _ (by decide : (0 : Nat) ≠ 1)]; exact t3, by rw [m_other _ _ (by decide : (8 : Nat) ≠ 1)]; exact t4⟩, by rw [m_same]; exact hs, ⟨old, sz, a1, a2, a3, a4, by rw [m_other _ _ (by decide : (0 : Nat) ≠ 1)]; exact a5, fun j hj => ?_⟩, fun i hi => ?_⟩
  · rw [m_other _ _ (by decide : (5 : Nat) ≠ 1)]
    show m_St B' (z_u3 X.2.2 0 g ((old + j) % 14 + 3)) _
    rw [m_u3n _ g (by omega)]
    exact a6 j hj
  · rw [m_other _ _ (by decide : (6 : Nat) ≠ 1), m_other _ _ (by decide : (7 : Nat) ≠ 1)]
    show (X.2.1 1 i = 0 ∧ _) ∨ (X.2.1 1 i = 1 ∧ _ ∧ m_St B' (z_u3 X.2.2 0 g (i + 17)) _)
    rw [m_u3n _ g (by omega)]
    exact q4 i hi
theorem m_kd (m : z_R) (k : Int32) : z_u2 m 0 0 k 0 0 = k := by rw [m_u2s, m_us]
theorem m_kd1 (m : z_R) (k : Int32) {r : Nat} (hr : r ≠ 0) : z_u2 m 0 0 k r = m r := m_u2n m 0 k hr
theorem RG.kd {B : Nat} {X : z_X} {m : z_R} (h : RG B X m) (k : Int32) : RG B X (z_u2 m 0 0 k) := h.fr rfl rfl (fun _ _ => rfl) ⟨m_kd1 m k (by decide), m_kd1 m k (by decide), m_kd1 m k (by decide), m_kd1 m k (by decide), m_kd1 m k (by decide)⟩ ⟨by rw [m_u2s, m_un _ _ (by decide)], by rw [m_u2s, m_un _ _ (by decide)]⟩
section MR12
variable {N B : Nat} {X : z_X} {m : z_R}
def m_shf (u : Nat → Int32) (i : Nat) : Nat → Int32 := fun j => if j < i then u (j + 925) else u j
theorem m_rmL (u : Nat → Int32) : ∀ (k i fu : Nat), i + k = 12025 → k < fu → ∃ fv, lX5_remember_11 N fu (nI i) (z_uR m 5 (m_shf u i)) = lX5_remember_11 N (fv + 1) (nI 12025) (z_uR m 5 (m_shf u 12025)) := by
  intro k
  induction k with
  | zero =>
    intro i fu hi hfu
    have e : i = 12025 := by omega
    subst e
    exact ⟨fu - 1, by rw [show fu - 1 + 1 = fu by omega]⟩
  | succ k ih =>
    intro i fu hi hfu
    obtain ⟨fu, rfl⟩ : ∃ q, fu = q + 1 := ⟨fu - 1, by omega⟩
    obtain ⟨fv, hv⟩ := ih (i + 1) fu (by omega) (by omega)
    refine ⟨fv, ?_⟩
    rw [← hv, lX5_remember_11.eq_2, if_neg (show ¬ (12025 : Int32) ≤ nI i from nI_ge (b := 12025) (by omega) (by decide)), show nI i + (925 : Int32) = nI (i + 925) from nI_add i 925, m_in (by omega) (by decide), m_ckt, m_in (by omega) (by decide), m_ckt, m_clamp (by omega), m_clamp (by omega), m_same, m_uRR, m_lt, nI_1]
    have e : upd (m_shf u i) i (m_shf u i (i + 925)) = m_shf u (i + 1) := by
      funext j
      by_cases c : j = i
      · subst c
        rw [m_us]
        unfold m_shf
        rw [if_neg (by omega), if_pos (by omega)]
      · rw [m_un _ _ c]
        unfold m_shf
        by_cases c2 : j < i
        · rw [if_pos c2, if_pos (by omega)]
        · rw [if_neg c2, if_neg (by omega)]
    rw [e]
/-- the state now is remembered, on both sides -/
theorem m_remember (h : RG B X m) (hN : 13000 ≤ N) (hN2 : N < 2 ^ 31) : ∃ X' m', fX1_remember N X = some X' ∧ fX5_remember N m = some m' ∧ RG B X' m' ∧ X'.2.2 0 = X.2.2 0 ∧ m' 1 = m 1 ∧ m' 0 0 = m 0 0 := by
  obtain ⟨ht, hn, ⟨old, sz, a1, a2, a3, a4, a5, a6⟩, hsl⟩ := h
  obtain ⟨n, P, T, J, hrs, hT⟩ := id hn
  have hix : (X.2.1 0 0 + X.2.1 0 1) - (X.2.1 0 0 + X.2.1 0 1) / (14 : Int32) * (14 : Int32) = nI ((old + sz) % 14) := by
    rw [a3, a4, nI_add, show (14 : Int32) = nI 14 from rfl, pk_rem (by omega) (by decide) (by decide)]
  obtain ⟨u, u1, u2⟩ := m_copyC (N := N) hrs (by omega) hN2 (X.2.2 ((old + sz) % 14 + 3))
  have hu : ∀ s' : Nat → Int32, (∀ k, k < 925 → s' k = m 1 k) → m_St B u s' := fun s' hs' => ⟨n, P, T, J, u2 hrs hs', hT⟩
  by_cases c : sz < 14
  · refine ⟨(X.1, z_u2 X.2.1 0 1 (nI (sz + 1)), z_u3 X.2.2 ((old + sz) % 14 + 3) u), z_u2 (z_uR m 5 (m_cp (m 1) 0 (m 5) (925 * sz) 925)) 0 1 (nI (sz + 1)), ?_, ?_, ⟨?_, ?_, ?_, ?_⟩, m_u3n (k := (old + sz) % 14 + 3) (j := 0) X.2.2 u (by omega), ?_, ?_⟩
    · unfold fX1_remember
      rw [hix, m_in (by omega) (by decide), m_ckt, m_clamp (by omega), u1, m_bind, m_lt]
      dsimp only
      rw [a4, if_neg (show ¬ (14 : Int32) ≤ nI sz from nI_ge (b := 14) c (by decide)), nI_1, m_lt]
    · unfold fX5_remember
      rw [a5, if_neg (show ¬ nI sz = (14 : Int32) from fun e => by have := m_nI_inj (a := sz) (b := 14) (by omega) (by decide) e; omega), show nI sz * (925 : Int32) = nI (925 * sz) by rw [show (925 : Int32) = nI 925 from rfl, pk_mul, Nat.mul_comm], m_cpM (ln := 925) (lk := 12950) (x := 0) (N := N) (a := 0) (b := 925 * sz) rfl rfl (by decide) (by omega) (by decide) (by decide) (by omega), m_bind, m_lt, m_lt, m_other _ _ (by decide : (0 : Nat) ≠ 5), a5, nI_1]
    · obtain ⟨len, t1, t2, t3, t4⟩ := ht
      refine ⟨len, t1, t2, by rw [m_u2s, m_un _ _ (by decide), m_other _ _ (by decide : (0 : Nat) ≠ 5)]; exact t3, by rw [m_u2n _ _ _ (by decide : (8 : Nat) ≠ 0), m_other _ _ (by decide : (8 : Nat) ≠ 5)]; exact t4⟩
    · rw [m_u2n _ _ _ (by decide : (1 : Nat) ≠ 0), m_other _ _ (by decide : (1 : Nat) ≠ 5)]
      show m_St B (z_u3 X.2.2 ((old + sz) % 14 + 3) u 0) _
      rw [m_u3n _ u (by omega)]
      exact hn
    · refine ⟨old, sz + 1, a1, by omega, ?_, ?_, by rw [m_u2s, m_us], fun j hj => ?_⟩
      · show z_u2 X.2.1 0 1 (nI (sz + 1)) 0 0 = nI old
        rw [m_u2s, m_un _ _ (by decide)]; exact a3
      · show z_u2 X.2.1 0 1 (nI (sz + 1)) 0 1 = nI (sz + 1)
        rw [m_u2s, m_us]
      · rw [m_u2n _ _ _ (by decide : (5 : Nat) ≠ 0), m_same]
        by_cases e : j = sz
        · subst e
          show m_St B (z_u3 X.2.2 ((old + j) % 14 + 3) u ((old + j) % 14 + 3)) _
          rw [m_u3s]
          exact hu _ fun k hk => by
            show m_cp (m 1) 0 (m 5) (925 * j) 925 (925 * j + k) = m 1 k
            rw [m_cpI hk, Nat.zero_add]
        · show m_St B (z_u3 X.2.2 ((old + sz) % 14 + 3) u ((old + j) % 14 + 3)) _
          rw [m_u3n _ u (by omega)]
          obtain ⟨n', P', T', J', b1, b2⟩ := a6 j (by omega)
          exact ⟨n', P', T', J', b1.cg (fun _ _ => rfl) (fun _ _ _ _ _ => rfl) (fun _ _ => ⟨rfl, rfl⟩) (fun _ _ => ⟨rfl, rfl, rfl⟩) (fun k hk => by
            show m_cp (m 1) 0 (m 5) (925 * sz) 925 (925 * j + k) = m 5 (925 * j + k)
            exact m_cpO (Or.inl (by omega))), b2⟩
    · intro i hi
      show (z_u2 X.2.1 0 1 (nI (sz + 1)) 1 i = 0 ∧ _) ∨ (z_u2 X.2.1 0 1 (nI (sz + 1)) 1 i = 1 ∧ _ ∧ m_St B (z_u3 X.2.2 ((old + sz) % 14 + 3) u (i + 17)) _)
      rw [m_u2n _ _ _ (by decide : (7 : Nat) ≠ 0), m_other _ _ (by decide : (7 : Nat) ≠ 5), m_u2n _ _ _ (by decide : (6 : Nat) ≠ 0), m_other _ _ (by decide : (6 : Nat) ≠ 5), m_u2n _ _ _ (by decide : (1 : Nat) ≠ 0), m_u3n _ u (by omega)]
      exact hsl i hi
    · rw [m_u2n _ _ _ (by decide : (1 : Nat) ≠ 0), m_other _ _ (by decide : (1 : Nat) ≠ 5)]
    · rw [m_u2s, m_un _ _ (by decide), m_other _ _ (by decide : (0 : Nat) ≠ 5)]
  · have e14 : sz = 14 := by omega
    subst e14
    refine ⟨(X.1, z_u2 X.2.1 0 0 (nI ((old + 1) % 14)), z_u3 X.2.2 ((old + 14) % 14 + 3) u), z_u2 (z_uR (z_u2 (z_uR m 5 (m_shf (m 5) 12025)) 0 1 (nI 13)) 5 (m_cp (m 1) 0 (m_shf (m 5) 12025) 12025 925)) 0 1 (nI 14), ?_, ?_, ⟨?_, ?_, ?_, ?_⟩, m_u3n (k := (old + 14) % 14 + 3) (j := 0) X.2.2 u (by omega), ?_, ?_⟩
    · unfold fX1_remember
      rw [hix, m_in (by omega) (by decide), m_ckt, m_clamp (by omega), u1, m_bind, m_lt]
      dsimp only
      rw [a4, if_pos (show (14 : Int32) ≤ nI 14 by decide), a3, nI_1, show (14 : Int32) = nI 14 from rfl, pk_rem (by omega) (by decide) (by decide), m_lt]
    · unfold fX5_remember
      obtain ⟨fv, hv⟩ := m_rmL (N := N) (m := m) (m 5) 12025 0 N (by decide) (by omega)
      have e0 : m_shf (m 5) 0 = m 5 := by
        funext j
        exact if_neg (Nat.not_lt_zero j)
      rw [e0, m_self] at hv
      rw [a5, if_pos (show nI 14 = (14 : Int32) from rfl), show (0 : Int32) = nI 0 from rfl, hv, lX5_remember_11.eq_2, if_pos (by decide), m_other _ _ (by decide : (0 : Nat) ≠ 5), a5, show nI 14 - (1 : Int32) = nI 13 by decide, m_lt]
      rw [m_u2n _ _ _ (by decide : (1 : Nat) ≠ 0), m_u2n _ _ _ (by decide : (5 : Nat) ≠ 0), m_other _ _ (by decide : (1 : Nat) ≠ 5), m_same, show z_u2 (z_uR m 5 (m_shf (m 5) 12025)) 0 1 (nI 13) 0 1 = nI 13 by rw [m_u2s, m_us], show nI 13 * (925 : Int32) = nI 12025 by decide, m_cpM (ln := 925) (lk := 12950) (x := 0) (N := N) (a := 0) (b := 12025) rfl rfl (by decide) (by decide) (by decide) (by decide) (by omega), m_bind, m_lt, m_other _ _ (by decide : (0 : Nat) ≠ 5), show z_u2 (z_uR m 5 (m_shf (m 5) 12025)) 0 1 (nI 13) 0 1 = nI 13 by rw [m_u2s, m_us], show nI 13 + (1 : Int32) = nI 14 by decide, m_lt]
    · obtain ⟨len, t1, t2, t3, t4⟩ := ht
      refine ⟨len, t1, t2, by rw [m_u2s, m_un _ _ (by decide), m_other _ _ (by decide : (0 : Nat) ≠ 5), m_u2s, m_un _ _ (by decide), m_other _ _ (by decide : (0 : Nat) ≠ 5)]; exact t3, by rw [m_u2n _ _ _ (by decide : (8 : Nat) ≠ 0), m_other _ _ (by decide : (8 : Nat) ≠ 5), m_u2n _ _ _ (by decide : (8 : Nat) ≠ 0), m_other _ _ (by decide : (8 : Nat) ≠ 5)]; exact t4⟩
    · rw [m_u2n _ _ _ (by decide : (1 : Nat) ≠ 0), m_other _ _ (by decide : (1 : Nat) ≠ 5), m_u2n _ _ _ (by decide : (1 : Nat) ≠ 0), m_other _ _ (by decide : (1 : Nat) ≠ 5)]
      show m_St B (z_u3 X.2.2 ((old + 14) % 14 + 3) u 0) _
      rw [m_u3n _ u (by omega)]
      exact hn
    · refine ⟨(old + 1) % 14, 14, by omega, by decide, ?_, ?_, by rw [m_u2s, m_us], fun j hj => ?_⟩
      · show z_u2 X.2.1 0 0 (nI ((old + 1) % 14)) 0 0 = nI ((old + 1) % 14)
        rw [m_u2s, m_us]
      · show z_u2 X.2.1 0 0 (nI ((old + 1) % 14)) 0 1 = nI 14
        rw [m_u2s, m_un _ _ (by decide)]; exact a4
      · rw [m_u2n _ _ _ (by decide : (5 : Nat) ≠ 0), m_same]
        by_cases e : j = 13
        · subst e
          show m_St B (z_u3 X.2.2 ((old + 14) % 14 + 3) u (((old + 1) % 14 + 13) % 14 + 3)) _
          rw [show ((old + 1) % 14 + 13) % 14 + 3 = (old + 14) % 14 + 3 by omega, m_u3s]
          exact hu _ fun k hk => by
            show m_cp (m 1) 0 (m_shf (m 5) 12025) 12025 925 (925 * 13 + k) = m 1 k
            rw [show 925 * 13 + k = 12025 + k by omega, m_cpI hk, Nat.zero_add]
        · show m_St B (z_u3 X.2.2 ((old + 14) % 14 + 3) u (((old + 1) % 14 + j) % 14 + 3)) _
          rw [m_u3n _ u (by omega)]
          obtain ⟨n', P', T', J', b1, b2⟩ := a6 (j + 1) (by omega)
          rw [show ((old + 1) % 14 + j) % 14 + 3 = (old + (j + 1)) % 14 + 3 by omega]
          exact ⟨n', P', T', J', b1.cg (fun _ _ => rfl) (fun _ _ _ _ _ => rfl) (fun _ _ => ⟨rfl, rfl⟩) (fun _ _ => ⟨rfl, rfl, rfl⟩) (fun k hk => by
            show m_cp (m 1) 0 (m_shf (m 5) 12025) 12025 925 (925 * j + k) = m 5 (925 * (j + 1) + k)
            rw [m_cpO (Or.inl (by omega))]
            unfold m_shf
            rw [if_pos (by omega)]
            congr 1
            omega), b2⟩
    · intro i hi
      show (z_u2 X.2.1 0 0 (nI ((old + 1) % 14)) 1 i = 0 ∧ _) ∨ (z_u2 X.2.1 0 0 (nI ((old + 1) % 14)) 1 i = 1 ∧ _ ∧ m_St B (z_u3 X.2.2 ((old + 14) % 14 + 3) u (i + 17)) _)
      rw [m_u2n _ _ _ (by decide : (7 : Nat) ≠ 0), m_other _ _ (by decide : (7 : Nat) ≠ 5), m_u2n _ _ _ (by decide : (7 : Nat) ≠ 0), m_other _ _ (by decide : (7 : Nat) ≠ 5), m_u2n _ _ _ (by decide : (6 : Nat) ≠ 0), m_other _ _ (by decide : (6 : Nat) ≠ 5), m_u2n _ _ _ (by decide : (6 : Nat) ≠ 0), m_other _ _ (by decide : (6 : Nat) ≠ 5), m_u2n _ _ _ (by decide : (1 : Nat) ≠ 0), m_u3n _ u (by omega)]
      exact hsl i hi
    · rw [m_u2n _ _ _ (by decide : (1 : Nat) ≠ 0), m_other _ _ (by decide : (1 : Nat) ≠ 5), m_u2n _ _ _ (by decide : (1 : Nat) ≠ 0), m_other _ _ (by decide : (1 : Nat) ≠ 5)]
    · rw [m_u2s, m_un _ _ (by decide), m_other _ _ (by decide : (0 : Nat) ≠ 5), m_u2s, m_un _ _ (by decide), m_other _ _ (by decide : (0 : Nat) ≠ 5)]
end MR12
end
section
/-! the commands: actions -/
section MR13
variable {N B : Nat} {X : z_X} {m : z_R}
abbrev m_Al : Nat → Prop := fun _ => True
theorem m_rk {m : z_R} (kd : Int32) : z_u2 m 0 0 kd = z_uR (z_u2 m 0 0 kd) 1 (m 1) := by rw [← m_kd1 m kd (by decide : (1 : Nat) ≠ 0), m_self]
theorem m_z0 : ((0 : Int32) ≤ 0) := by decide
theorem m_n1 : ¬ ((1 : Int32) ≤ 0) := by decide
theorem m_n2 : ¬ ((2 : Int32) ≤ 0) := by decide
/-- what a command leaves: the answers agree, or both sides throw the same -/
def m_Ok (o : Int32 ⊕ Nat) (b kd : Int32) (mp : Nat → Int32) : Prop := (o = .inl b ∧ kd = 0) ∨ ∃ k, o = .inr k ∧ kd = mp k ∧ ¬ kd = 0
theorem c_run (h : RG B X m) (hB : B + 5000 < 2 ^ 30) (hN : 13000 ≤ N) (hN2 : N < 2 ^ 31) (x : Int32) : ∃ o X' b m', fX4_run N x X = some (o, X') ∧ fX5_run N x m = some (b, m') ∧ RG (B + 5000) X' m' ∧ ((o = .inl b ∧ m' 0 0 = 0) ∨ (o = .inr 3 ∧ m' 0 0 = 1)) := by
  obtain ⟨ht, ⟨n, P, T, J, hrs, hT⟩, hme, hsl⟩ := id h
  have h16 := hrs.n16
  unfold fX4_run fX5_run
  rcases m_cs x (n := n) (by omega) with ⟨q, hq, e⟩ | ⟨hx, -⟩
  · obtain ⟨X1, m1, r1, r2, r3, r4, r5, r6⟩ := m_remember (N := N) (h.kd 0) hN hN2
    rw [m_kd] at r6
    rw [m_kd1 m 0 (by decide)] at r5
    obtain ⟨ee, j, g', s', T', J', e1, e2, e3, e4, e5, e6, e7, -⟩ := m_runs (N := N) (m := m1) hrs ⟨trivial, trivial, trivial, trivial, trivial, trivial, trivial⟩ (fun _ => trivial) (by omega) (by omega) x
    rw [show z_uR m1 1 (m 1) = m1 by rw [← r5, m_self]] at e4
    refine ⟨.inl ee, (X1.1, X1.2.1, z_u3 X1.2.2 0 g'), ee, z_uR m1 1 s', ?_, ?_, r3.nw (by omega) ⟨n, P, T', J', e5, by omega⟩, Or.inl ⟨rfl, by rw [m_other _ _ (by decide : (0 : Nat) ≠ 1)]; exact r6⟩⟩
    · rw [e, m_hasY hrs.gn h16 hq, m_bind, if_neg m_1_0, r1, m_bind, r4, ← e, e3, m_b2, m_lt]
    · rw [e, m_ioY hrs.sn h16 hq, m_bind, if_neg m_1_0, m_lt, m_kd, if_pos m_z0, r2, m_bind, ← e, e4, m_b2]
  · refine ⟨.inr 3, X, 0, z_u2 m 0 0 1, ?_, ?_, (h.kd 1).mono (by omega), Or.inr ⟨rfl, m_kd m 1⟩⟩
    · rw [m_hasN hrs.gn hx, m_bind, if_pos m_00]
    · rw [m_ioN hrs.sn h16 hx, m_bind, if_pos m_00, m_lt, m_kd, if_neg m_n1]
theorem c_lay (h : RG B X m) (hN : 13000 ≤ N) (hN2 : N < 2 ^ 31) : ∃ b X' m', fX4_lay N X = some (b, X') ∧ fX5_lay N m = some (b, m') ∧ RG (B + 5000) X' m' := by
  obtain ⟨ht, ⟨n, P, T, J, hrs, hT⟩, hme, hsl⟩ := id h
  obtain ⟨X1, m1, r1, r2, r3, r4, r5, r6⟩ := m_remember (N := N) (h.kd 0) hN hN2
  rw [m_kd1 m 0 (by decide)] at r5
  obtain ⟨g', s', sum, e1, e2, e3, -⟩ := m_layAll (N := N) (m := m1) hrs ⟨trivial, trivial, trivial, trivial, trivial⟩ (fun _ => trivial) (by omega)
  rw [show z_uR m1 1 (m 1) = m1 by rw [← r5, m_self]] at e2
  refine ⟨sum, (X1.1, X1.2.1, z_u3 X1.2.2 0 g'), z_uR m1 1 s', ?_, ?_, r3.nw (by omega) ⟨n, P, T, J, e3, by omega⟩⟩
  · unfold fX4_lay
    rw [r1, m_bind, r4, e1, m_b2, m_lt]
  · unfold fX5_lay
    rw [m_lt, r2, m_bind, e2, m_b2]
theorem m_tu {x : Int32} (hx : x < 1 ∨ 99 < x) : fX4_isTurn N x = some 0 ∧ fX5_within N x 1 99 = some 0 := by
  refine ⟨?_, by rw [m_within, if_pos hx]⟩
  unfold fX4_isTurn
  rcases hx with h | h
  · rw [if_pos h]
  · by_cases c : x < 1
    · rw [if_pos c]
    · rw [if_neg c, if_pos h]
theorem m_rg {lo hi : Nat} (hl : lo ≤ hi) (hh : hi < 2 ^ 30) (x : Int32) : (x < nI lo ∨ nI hi < x) ∨ ∃ k, lo ≤ k ∧ k ≤ hi ∧ x = nI k := by
  rcases m_ix x (n := hi + 1) (by omega) with h | h | ⟨k, hk, e⟩
  · refine Or.inl (Or.inl ?_)
    rw [m_lt0] at h
    rw [Int32.lt_iff_toInt_lt, nI_toInt (by omega)]
    omega
  · refine Or.inl (Or.inr ?_)
    rw [Int32.lt_iff_toInt_lt, nI_toInt (by omega)]
    rw [Int32.le_iff_toInt_le, nI_toInt (by omega)] at h
    omega
  · by_cases c : lo ≤ k
    · exact Or.inr ⟨k, c, by omega, e⟩
    · refine Or.inl (Or.inl ?_)
      rw [e]
      exact nI_lt (by omega) (by omega)

theorem m_tuY {k : Nat} (h1 : 1 ≤ k) (h9 : k ≤ 99) : fX4_isTurn N (nI k) = some 1 ∧ fX5_within N (nI k) 1 99 = some 1 := by
  have a1 : ¬ nI k < (1 : Int32) := nI_nlt (b := 1) h1 (by omega)
  have a2 : ¬ (99 : Int32) < nI k := m_nlt99 h9
  refine ⟨?_, by rw [m_within, if_neg (fun q => q.elim a1 a2)]⟩
  unfold fX4_isTurn
  rw [if_neg a1, if_neg a2]
theorem m_auN {x : Int32} (hx : x < 0 ∨ nI 4 ≤ x) : fX4_isAuthor N x = some 0 := by
  unfold fX4_isAuthor
  rcases hx with h | h
  · rw [if_pos h]
  · by_cases c : x < 0
    · rw [if_pos c]
    · rw [if_neg c, if_pos (show (4 : Int32) ≤ x from h)]
theorem m_au (x : Int32) : (fX4_isAuthor N x = some 1 ∧ fX5_isAuthor N x = some 1 ∧ ∃ a, a < 4 ∧ x = nI a) ∨ (fX4_isAuthor N x = some 0 ∧ fX5_isAuthor N x = some 0) := by
  have e3 : (3 : Int32) = nI 4 - 1 := by decide
  unfold fX5_isAuthor
  rw [e3]
  rcases m_cs x (n := 4) (by decide) with ⟨a, ha, rfl⟩ | ⟨hx, -⟩
  · exact Or.inl ⟨m_auY ha, by rw [m_wiY (by decide) ha, m_bind, m_b1, m_ckt], a, ha, rfl⟩
  · exact Or.inr ⟨m_auN hx, by rw [m_wiN (by decide) hx, m_bind, m_b0, m_ckt]⟩
theorem m_wk (x : Int32) : (fX4_isWork N x = some 1 ∧ fX5_within N x 1 9 = some 1 ∧ ∃ w, 1 ≤ w ∧ w ≤ 9 ∧ x = nI w) ∨ (fX4_isWork N x = some 0 ∧ fX5_within N x 1 9 = some 0) := by
  unfold fX4_isWork
  rcases m_rg (lo := 1) (hi := 9) (by decide) (by decide) x with h | ⟨k, h1, h9, rfl⟩
  · have h : x < 1 ∨ 9 < x := h
    refine Or.inr ⟨?_, by rw [m_within, if_pos h]⟩
    by_cases c : x < 1
    · rw [if_pos c]
    · rw [if_neg c, if_pos (h.resolve_left c)]
  · have a1 : ¬ nI k < (1 : Int32) := nI_nlt (b := 1) h1 (by omega)
    have a2 : ¬ (9 : Int32) < nI k := nI_nlt (b := k) (a := 9) h9 (by decide)
    exact Or.inl ⟨by rw [if_neg a1, if_neg a2], by rw [m_within, if_neg (fun q => q.elim a1 a2)], k, h1, h9, rfl⟩
theorem m_br (x : Int32) : (fX4_isBribe N x = some 1 ∧ fX5_within N x 0 99 = some 1 ∧ ∃ b, b ≤ 99 ∧ x = nI b) ∨ (fX4_isBribe N x = some 0 ∧ fX5_within N x 0 99 = some 0) := by
  unfold fX4_isBribe
  rcases m_rg (lo := 0) (hi := 99) (by decide) (by decide) x with h | ⟨k, h1, h9, rfl⟩
  · have h : x < 0 ∨ 99 < x := h
    refine Or.inr ⟨?_, by rw [m_within, if_pos h]⟩
    by_cases c : x < 0
    · rw [if_pos c]
    · rw [if_neg c, if_pos (h.resolve_left c)]
  · have a1 : ¬ nI k < (0 : Int32) := m_neg (by omega)
    have a2 : ¬ (99 : Int32) < nI k := m_nlt99 h9
    exact Or.inl ⟨by rw [if_neg a1, if_neg a2], by rw [m_within, if_neg (fun q => q.elim a1 a2)], k, h9, rfl⟩
theorem m_lk (x : Int32) : (fX4_isLink N x = some 1 ∧ fX5_within N x (-1) 15 = some 1 ∧ (x = -1 ∨ ∃ k, k < 16 ∧ x = nI k)) ∨ (fX4_isLink N x = some 0 ∧ fX5_within N x (-1) 15 = some 0) := by
  unfold fX4_isLink
  by_cases e : x = -1
  · subst e
    exact Or.inl ⟨if_pos rfl, by rw [m_within, if_neg (by decide)], Or.inl rfl⟩
  · rw [if_neg e]
    rcases m_cs x (n := 16) (by decide) with ⟨k, hk, rfl⟩ | ⟨hx, -⟩
    · have a1 : ¬ nI k < (-1 : Int32) := by
        rw [Int32.lt_iff_toInt_lt, nI_toInt (by omega), m_ne1]; omega
      have a2 : ¬ (15 : Int32) < nI k := nI_nlt (b := k) (a := 15) (by omega) (by decide)
      exact Or.inl ⟨by rw [if_neg (m_neg (by omega)), if_neg (m_ge16 hk)], by rw [m_within, if_neg (fun q => q.elim a1 a2)], Or.inr ⟨k, hk, rfl⟩⟩
    · refine Or.inr ⟨?_, ?_⟩
      · by_cases c : x < 0
        · rw [if_pos c]
        · rw [if_neg c, if_pos (show (16 : Int32) ≤ x from hx.resolve_left c)]
      · rw [m_within, if_pos]
        rcases hx with h | h
        · refine Or.inl ?_
          rw [m_lt0] at h
          rw [Int32.lt_iff_toInt_lt, m_ne1]
          have : x.toInt ≠ -1 := fun q => e (Int32.toInt_inj.mp (q.trans m_ne1.symm))
          omega
        · refine Or.inr ?_
          rw [Int32.le_iff_toInt_le, nI_toInt (by decide)] at h
          rw [Int32.lt_iff_toInt_lt, show (15 : Int32).toInt = 15 from by decide]
          omega
theorem m_num (w v : Int32) : (fX4_isNumberOfOrder N w v = some 1 ∧ fX5_isInRange N w v = some 1 ∧ ∃ k, k < 5 ∧ w = nI k ∧ ∀ P, m_Vd P (k + 1) v) ∨ (fX4_isNumberOfOrder N w v = some 0 ∧ fX5_isInRange N w v = some 0) := by
  unfold fX4_isNumberOfOrder fX5_isInRange
  by_cases c0 : w = 0
  · simp only [if_pos c0]
    rcases m_au (N := N) v with ⟨a, b, q⟩ | ⟨a, b⟩
    · refine Or.inl ⟨by rw [a, m_bind, m_b1, m_ckt], by rw [b, m_bind, m_b1, m_ckt], 0, by decide, c0, fun P => ?_⟩
      refine ⟨fun _ => q, ?_, ?_, ?_, ?_⟩ <;> intro e <;> omega
    · exact Or.inr ⟨by rw [a, m_bind, m_b0, m_ckt], by rw [b, m_bind, m_b0, m_ckt]⟩
  simp only [if_neg c0]
  by_cases c1 : w = 1
  · simp only [if_pos c1]
    rcases m_wk (N := N) v with ⟨a, b, q⟩ | ⟨a, b⟩
    · refine Or.inl ⟨by rw [a, m_bind, m_b1, m_ckt], by rw [b, m_bind, m_b1, m_ckt], 1, by decide, c1, fun P => ?_⟩
      refine ⟨?_, fun _ => q, ?_, ?_, ?_⟩ <;> intro e <;> omega
    · exact Or.inr ⟨by rw [a, m_bind, m_b0, m_ckt], by rw [b, m_bind, m_b0, m_ckt]⟩
  simp only [if_neg c1]
  by_cases c2 : w = 2
  · simp only [if_pos c2]
    rcases m_lk (N := N) v with ⟨a, b, q⟩ | ⟨a, b⟩
    · refine Or.inl ⟨by rw [a, m_bind, m_b1, m_ckt], by rw [b, m_bind, m_b1, m_ckt], 2, by decide, c2, fun P => ?_⟩
      refine ⟨?_, ?_, fun _ => q, ?_, ?_⟩ <;> intro e <;> omega
    · exact Or.inr ⟨by rw [a, m_bind, m_b0, m_ckt], by rw [b, m_bind, m_b0, m_ckt]⟩
  simp only [if_neg c2]
  by_cases c3 : w = 3
  · simp only [if_pos c3]
    rcases m_lk (N := N) v with ⟨a, b, q⟩ | ⟨a, b⟩
    · refine Or.inl ⟨by rw [a, m_bind, m_b1, m_ckt], by rw [b, m_bind, m_b1, m_ckt], 3, by decide, c3, fun P => ?_⟩
      refine ⟨?_, ?_, fun _ => q, ?_, ?_⟩ <;> intro e <;> omega
    · exact Or.inr ⟨by rw [a, m_bind, m_b0, m_ckt], by rw [b, m_bind, m_b0, m_ckt]⟩
  simp only [if_neg c3]
  by_cases c4 : w = 4
  · simp only [if_pos c4]
    rcases m_br (N := N) v with ⟨a, b, q⟩ | ⟨a, b⟩
    · refine Or.inl ⟨by rw [a, m_bind, m_b1, m_ckt], by rw [b, m_bind, m_b1, m_ckt], 4, by decide, c4, fun P => ?_⟩
      refine ⟨?_, ?_, ?_, fun _ => q, ?_⟩ <;> intro e <;> omega
    · exact Or.inr ⟨by rw [a, m_bind, m_b0, m_ckt], by rw [b, m_bind, m_b0, m_ckt]⟩
  rw [if_neg c4, if_neg c4]
  exact Or.inr ⟨rfl, rfl⟩
theorem m_repl {g : z_R} {k o : Nat} (hk : k < 5) (ho : o < 16) (v : Int32) : fX2_replace N (nI o) (nI k) v g = some (g (k + 1) o, z_u2 g (k + 1) o v) := by
  have a1 : ¬ nI o < 0 := m_neg (by omega)
  have a2 : nI o < (16 : Int32) := nI_lt (b := 16) ho (by decide)
  have i1 : z_in (nI o) 16 = true := m_in ho (by decide)
  have c1 : (nI o).toNatClampNeg = o := m_clamp (by omega)
  have hrow : fX2_changeableRow N (nI k) g = some (k + 1) := by
    rcases (show k = 0 ∨ k = 1 ∨ k = 2 ∨ k = 3 ∨ k = 4 by omega) with e | e | e | e | e <;> subst e <;> rfl
  unfold fX2_replace
  rw [hrow, m_bind]
  simp only [if_neg a1, if_pos a2, i1, m_ckt, c1, m_lt]
  rcases (show k = 0 ∨ k = 1 ∨ k = 2 ∨ k = 3 ∨ k = 4 by omega) with e | e | e | e | e <;> subst e <;> rfl
/-- a number of an order is changed -/
theorem RS.ch {E : Nat → Prop} {n P T J k o : Nat} {g : z_R} {s : Nat → Int32} {v : Int32} (h : RS E n P T J g s) (hk : k < 5) (ho : o < n) (hv : ∀ P, m_Vd P (k + 1) v) : RS E n P T J (z_u2 g (k + 1) o v) (upd s (12 + 9 * o + (k + 1)) v) := h.part ho (by omega) (by omega) (hv P) (fun e => by omega)
theorem c_change (h : RG B X m) (hN : 13000 ≤ N) (hN2 : N < 2 ^ 31) (x w v : Int32) : ∃ o X' b m', fX4_change N x w v X = some (o, X') ∧ fX5_change N x w v m = some (b, m') ∧ RG (B + 5000) X' m' ∧ ((o = .inl b ∧ m' 0 0 = 0) ∨ (o = .inr 3 ∧ m' 0 0 = 1) ∨ (o = .inr 1 ∧ m' 0 0 = 2)) := by
  obtain ⟨ht, ⟨n, P, T, J, hrs, hT⟩, hme, hsl⟩ := id h
  have h16 := hrs.n16
  unfold fX4_change fX5_change
  rcases m_cs x (n := n) (by omega) with ⟨q, hq, rfl⟩ | ⟨hx, -⟩
  · rw [m_hasY hrs.gn h16 hq, m_bind, if_neg m_1_0, m_ioY hrs.sn h16 hq, m_bind, if_neg m_1_0]
    rcases m_num (N := N) w v with ⟨a1, a2, k, hk, rfl, hv⟩ | ⟨a1, a2⟩
    · obtain ⟨X1, m1, r1, r2, r3, r4, r5, r6⟩ := m_remember (N := N) (h.kd 0) hN hN2
      rw [m_kd] at r6
      rw [m_kd1 m 0 (by decide)] at r5
      have hr2 := hrs.ch hk hq hv
      refine ⟨.inl (X.2.2 0 (k + 1) q), (X1.1, X1.2.1, z_u3 X1.2.2 0 (z_u2 (X.2.2 0) (k + 1) q v)), X.2.2 0 (k + 1) q, z_uR m1 1 (upd (m 1) (12 + 9 * q + (k + 1)) v), ?_, ?_, r3.nw (by omega) ⟨n, P, T, J, hr2, by omega⟩, Or.inl ⟨rfl, by rw [m_other _ _ (by decide : (0 : Nat) ≠ 1)]; exact r6⟩⟩
      · rw [a1, m_bind, if_neg m_1_0, r1, m_bind, r4, m_repl hk (by omega), m_b2, m_lt]
      · rw [a2, m_bind, if_neg m_1_0, m_lt, m_kd, if_pos m_z0, r2, m_bind, m_part (p := nI k) (k := k) (r := k + 1) rfl rfl (by omega) (by omega), m_bind, show m1 = z_uR m1 1 (m 1) by rw [← r5, m_self], m_setP (p := nI k) (k := k) (r := k + 1) rfl rfl (by omega) (by omega), m_bind, m_same, hrs.or hq (by omega) (by omega) trivial]
        rw [← r5, m_self]
    · refine ⟨.inr 1, X, 0, z_u2 m 0 0 2, ?_, ?_, (h.kd 2).mono (by omega), Or.inr (Or.inr ⟨rfl, m_kd m 2⟩)⟩
      · rw [a1, m_bind, if_pos m_00]
      · rw [a2, m_bind, if_pos m_00, m_lt, m_kd, if_neg m_n2]
  · refine ⟨.inr 3, X, 0, z_u2 m 0 0 1, ?_, ?_, (h.kd 1).mono (by omega), Or.inr (Or.inl ⟨rfl, m_kd m 1⟩)⟩
    · rw [m_hasN hrs.gn hx, m_bind, if_pos m_00]
    · rw [m_ioN hrs.sn h16 hx, m_bind, if_pos m_00, m_lt, m_kd, if_neg m_n1]
end MR13
end
section
/-! the commands: turn, setDrum, undo, move, save, restore -/
section MR14
variable {N B : Nat} {X : z_X} {m : z_R}
theorem c_turn (h : RG B X m) (hB : B + 5000 < 2 ^ 30) (hN : 13000 ≤ N) (hN2 : N < 2 ^ 31) (x : Int32) : ∃ o X' b m', fX4_turn N x X = some (o, X') ∧ fX5_turn N x m = some (b, m') ∧ RG (B + 5000) X' m' ∧ ((o = .inl b ∧ m' 0 0 = 0) ∨ (o = .inr 1 ∧ m' 0 0 = 1)) := by
  obtain ⟨ht, ⟨n, P, T, J, hrs, hT⟩, hme, hsl⟩ := id h
  have hP6 := hrs.P6
  have hP4 := hrs.P40
  unfold fX4_turn fX5_turn
  rcases m_rg (lo := 1) (hi := 99) (by decide) (by decide) x with hx | ⟨k, h1, h9, rfl⟩
  · obtain ⟨a1, a2⟩ := m_tu (N := N) (x := x) hx
    refine ⟨.inr 1, X, 0, z_u2 m 0 0 1, ?_, ?_, (h.kd 1).mono (by omega), Or.inr ⟨rfl, m_kd m 1⟩⟩
    · rw [a1, m_bind, if_pos m_00]
    · rw [a2, m_bind, if_pos m_00, m_lt, m_kd, if_neg m_n1]
  · obtain ⟨a1, a2⟩ := m_tuY (N := N) h1 h9
    obtain ⟨X1, m1, r1, r2, r3, r4, r5, r6⟩ := m_remember (N := N) (h.kd 0) hN hN2
    rw [m_kd] at r6
    rw [m_kd1 m 0 (by decide)] at r5
    have hr2 : RS m_Al n P (T + k) J (z_u2 (X.2.2 0) 0 2 (nI (T + k))) (upd (m 1) 1 (nI (T + k))) := hrs.tk
    refine ⟨.inl (nI ((T + k) % P)), (X1.1, X1.2.1, z_u3 X1.2.2 0 (z_u2 (X.2.2 0) 0 2 (nI (T + k)))), nI ((T + k) % P), z_uR m1 1 (upd (m 1) 1 (nI (T + k))), ?_, ?_, r3.nw (by omega) ⟨n, P, T + k, J, hr2, by omega⟩, Or.inl ⟨rfl, by rw [m_other _ _ (by decide : (0 : Nat) ≠ 1)]; exact r6⟩⟩
    · rw [a1, m_bind, if_neg m_1_0, r1, m_bind, r4, hrs.gT, nI_add, m_lt]
      dsimp only
      rw [m_u3s, hr2.gT, m_aroundP hr2.gP (by omega) (by omega) (by omega), m_bind]
    · rw [a2, m_bind, if_neg m_1_0, m_lt, m_kd, if_pos m_z0, r2, m_bind, m_t1, r5, hrs.sT trivial, nI_add, m_uR, r5, m_lt]
      unfold fX5_comingBy
      rw [m_same, m_t0, m_t1, hr2.sP, hr2.sT trivial, m_nz (by omega) (by omega), m_ckt, pk_rem (by omega) (by omega) (by omega), m_bind]
theorem RS.pc {E : Nat → Prop} {n P T J P' : Nat} {g : z_R} {s : Nat → Int32} (h : RS E n P T J g s) (h6 : 6 ≤ P') (h40 : P' ≤ 40) (hoff : ∀ o, o < n → g 6 o = -1) : RS E n P' T J (z_u2 g 0 0 (nI P')) (upd s 0 (nI P')) := by
  have h16 := h.n16
  refine ⟨⟨h16, h6, h40, h.J256⟩, ⟨by rw [m_u2s, m_us], ?_, ?_, ?_⟩, ⟨m_us _ _ _, ?_⟩, fun e => ?_, fun e => ?_, ?_, ?_, ?_, ?_, ?_, ?_, ?_⟩
  · rw [m_u2s, m_un _ _ (by decide)]; exact h.gn
  · rw [m_u2s, m_un _ _ (by decide)]; exact h.gT
  · rw [m_u2s, m_un _ _ (by decide)]; exact h.gJ
  · rw [m_un _ _ (by decide)]; exact h.sn
  · rw [m_un _ _ (by decide), m_un _ _ (by decide), m_u2s, m_un _ _ (by decide)]; exact h.2.2.2.1 e
  · rw [m_un _ _ (by decide)]; exact h.sJ e
  · intro i hi
    rw [m_un _ _ (by omega), m_un _ _ (by omega), m_u2n _ _ _ (by decide : (10 : Nat) ≠ 0), m_u2n _ _ _ (by decide : (11 : Nat) ≠ 0)]
    exact h.2.2.2.2.2.1 i hi
  · intro o r ho h1 h9
    rw [m_un _ _ (by omega), m_u2n _ _ _ (by omega : r ≠ 0)]
    obtain ⟨a, b1, b2, b3, b4, b5⟩ := h.2.2.2.2.2.2.1 o r ho h1 h9
    refine ⟨a, b1, b2, b3, b4, fun e => Or.inl ?_⟩
    rw [e]; exact hoff o ho
  · intro o q ho hq hoq
    rw [m_u2n _ _ _ (by decide : (6 : Nat) ≠ 0)]; exact h.ap ho hq hoq
  · intro o ho h16
    rw [m_u2n _ _ _ (by decide : (8 : Nat) ≠ 0)]; exact h.op0 ho h16
  · intro e i hi
    rw [m_un _ _ (by omega), m_un _ _ (by omega), m_un _ _ (by omega), m_u2n _ _ _ (by decide : (13 : Nat) ≠ 0), m_u2n _ _ _ (by decide : (14 : Nat) ≠ 0), m_u2n _ _ _ (by decide : (15 : Nat) ≠ 0)]
    exact h.ju e hi
  · intro i hi
    rw [m_u2n _ _ _ (by decide : (13 : Nat) ≠ 0), m_u2n _ _ _ (by decide : (14 : Nat) ≠ 0)]; exact h.jv hi
  · intro i k hi hk
    rw [m_u2n _ _ _ (by decide : (13 : Nat) ≠ 0), m_u2n _ _ _ (by decide : (14 : Nat) ≠ 0)]; exact h.jd hi hk
theorem c_setDrum (h : RG B X m) (hN : 13000 ≤ N) (hN2 : N < 2 ^ 31) (x : Int32) : ∃ o X' b m', fX4_setDrum N x X = some (o, X') ∧ fX5_setDrum N x m = some (b, m') ∧ RG (B + 5000) X' m' ∧ ((o = .inl b ∧ m' 0 0 = 0) ∨ (o = .inr 1 ∧ m' 0 0 = 1)) := by
  obtain ⟨ht, ⟨n, P, T, J, hrs, hT⟩, hme, hsl⟩ := id h
  unfold fX4_setDrum fX5_setDrum
  rw [m_within]
  rcases m_rg (lo := 6) (hi := 40) (by decide) (by decide) x with hx | ⟨k, h1, h9, rfl⟩
  · have hx : x < 6 ∨ 40 < x := hx
    refine ⟨.inr 1, X, 0, z_u2 m 0 0 1, ?_, ?_, (h.kd 1).mono (by omega), Or.inr ⟨rfl, m_kd m 1⟩⟩
    · by_cases c : x < 6
      · rw [if_pos c]
      · rw [if_neg c, if_neg (fun q => by
          have h2 := hx.resolve_left c
          rw [Int32.lt_iff_toInt_lt] at h2
          rw [Int32.le_iff_toInt_le] at q
          omega)]
    · rw [if_pos hx, m_bind, if_pos m_00, m_lt, m_kd, if_neg m_n1]
  · have b1 : ¬ nI k < (6 : Int32) := nI_nlt (b := 6) h1 (by omega)
    have b2 : nI k ≤ (40 : Int32) := nI_le (b := 40) h9 (by decide)
    have b3 : ¬ (40 : Int32) < nI k := nI_nlt (b := k) (a := 40) h9 (by decide)
    obtain ⟨X1, m1, r1, r2, r3, r4, r5, r6⟩ := m_remember (N := N) (h.kd 0) hN hN2
    rw [m_kd] at r6
    rw [m_kd1 m 0 (by decide)] at r5
    obtain ⟨g', s', t1, t2, t3, t4, -⟩ := m_takeOff (N := N) (m := m1) hrs trivial (fun _ => trivial) (by omega)
    rw [show z_uR m1 1 (m 1) = m1 by rw [← r5, m_self]] at t2
    have hr2 := t3.pc h1 h9 (fun o ho => (t4 o ho).1)
    refine ⟨.inl (nI P), (X1.1, X1.2.1, z_u3 X1.2.2 0 (z_u2 g' 0 0 (nI k))), nI P, z_uR m1 1 (upd s' 0 (nI k)), ?_, ?_, r3.nw (by omega) ⟨n, k, T, J, hr2, by omega⟩, Or.inl ⟨rfl, by rw [m_other _ _ (by decide : (0 : Nat) ≠ 1)]; exact r6⟩⟩
    · rw [if_neg b1, if_pos b2, r1, m_bind, r4, t1, m_bind, m_lt, m_lt]
      dsimp only
      rw [m_u3s, hrs.gP]
      congr 4
      funext a
      by_cases c : a = 0
      · subst c; rw [m_u3s, m_u3s]
      · rw [m_u3n _ _ c, m_u3n _ _ c, m_u3n _ _ c]
    · rw [if_neg (fun q => q.elim b1 b3), m_bind, if_neg m_1_0, m_lt, m_kd, if_pos m_z0, r2, m_bind, t2, m_bind, m_t0, m_uRR, m_lt, r5, hrs.sP]
theorem c_undo (h : RG B X m) (hN : 13000 ≤ N) (hN2 : N < 2 ^ 31) : ∃ o X' b m', fX4_undo N X = some (o, X') ∧ fX5_undo N m = some (b, m') ∧ RG (B + 5000) X' m' ∧ ((o = .inl b ∧ m' 0 0 = 0) ∨ (o = .inr 2 ∧ m' 0 0 = 1)) := by
  obtain ⟨ht, hn, ⟨old, sz, a1, a2, a3, a4, a5, a6⟩, hsl⟩ := id h
  unfold fX4_undo fX5_undo
  by_cases c : sz = 0
  · subst c
    refine ⟨.inr 2, X, 0, z_u2 m 0 0 1, ?_, ?_, (h.kd 1).mono (by omega), Or.inr ⟨rfl, m_kd m 1⟩⟩
    · rw [a4, if_neg (by decide)]
    · rw [a5, if_pos (by decide), m_lt, m_kd, if_neg m_n1]
  · obtain ⟨z, rfl⟩ : ∃ z, sz = z + 1 := ⟨sz - 1, by omega⟩
    obtain ⟨n, P, T, J, hrs, hT⟩ := a6 z (by omega)
    obtain ⟨u, u1, u2⟩ := m_copyC (N := N) hrs (by omega) hN2 (X.2.2 0)
    have hu := u2 (s'' := m_cp (m 5) (925 * z) (m 1) 0 925) hrs (fun k hk => by
      have := m_cpI (f := m 5) (u := m 1) (a := 925 * z) (b := 0) hk
      rw [Nat.zero_add] at this
      exact this)
    have hz1 : nI (z + 1) - 1 = nI z := nI_pred z
    refine ⟨.inl (nI z), (X.1, z_u2 X.2.1 0 1 (nI z), z_u3 X.2.2 0 u), nI z, z_uR (z_u2 (z_u2 m 0 0 0) 0 1 (nI z)) 1 (m_cp (m 5) (925 * z) (m 1) 0 925), ?_, ?_, ?_, Or.inl ⟨rfl, ?_⟩⟩
    · rw [a4, if_pos (show (1 : Int32) ≤ nI (z + 1) from nI_le (a := 1) (by omega) (by omega))]
      unfold fX1_bringBack
      rw [a4, if_pos (show (1 : Int32) ≤ nI (z + 1) from nI_le (a := 1) (by omega) (by omega)), hz1, m_lt]
      dsimp only
      rw [show z_u2 X.2.1 0 1 (nI z) 0 0 = nI old by rw [m_u2s, m_un _ _ (by decide)]; exact a3, show z_u2 X.2.1 0 1 (nI z) 0 1 = nI z by rw [m_u2s, m_us], nI_add, show (14 : Int32) = nI 14 from rfl, pk_rem (by omega) (by decide) (by decide), m_in (by omega) (by decide), m_ckt, m_clamp (by omega), u1, m_bind, m_lt, m_bind]
      dsimp only
      rw [show z_u2 X.2.1 0 1 (nI z) 0 1 = nI z by rw [m_u2s, m_us]]
    · rw [a5, if_neg (nI_nle (by omega) (by omega)), m_lt, m_kd, if_pos m_z0, show z_u2 m 0 0 0 0 1 = nI (z + 1) by rw [m_u2s, m_un _ _ (by decide)]; exact a5, hz1, m_lt, show z_u2 (z_u2 m 0 0 0) 0 1 (nI z) 0 1 = nI z by rw [m_u2s, m_us], m_u2n _ _ _ (by decide : (5 : Nat) ≠ 0), m_kd1 m 0 (by decide : (5 : Nat) ≠ 0), m_u2n _ _ _ (by decide : (1 : Nat) ≠ 0), m_kd1 m 0 (by decide : (1 : Nat) ≠ 0), show nI z * (925 : Int32) = nI (925 * z) by rw [show (925 : Int32) = nI 925 from rfl, pk_mul, Nat.mul_comm], m_cpM (ln := 12950) (lk := 925) (y := 0) (N := N) (a := 925 * z) (b := 0) rfl rfl (by omega) (by decide) (by decide) (by decide) (by omega), m_bind, m_lt, m_other _ _ (by decide : (0 : Nat) ≠ 1), show z_u2 (z_u2 m 0 0 0) 0 1 (nI z) 0 1 = nI z by rw [m_u2s, m_us]]
    · refine RG.mono (B := B) ?_ (by omega)
      obtain ⟨len, t1, t2, t3, t4⟩ := ht
      refine ⟨⟨len, t1, t2, ?_, ?_⟩, ?_, ⟨old, z, a1, by omega, ?_, ?_, ?_, fun j hj => ?_⟩, fun i hi => ?_⟩
      · rw [m_other _ _ (by decide : (0 : Nat) ≠ 1), m_u2s, m_un _ _ (by decide), m_u2s, m_un _ _ (by decide)]; exact t3
      · rw [m_other _ _ (by decide : (8 : Nat) ≠ 1), m_u2n _ _ _ (by decide : (8 : Nat) ≠ 0), m_kd1 m 0 (by decide : (8 : Nat) ≠ 0)]; exact t4
      · rw [m_same]
        show m_St B (z_u3 X.2.2 0 u 0) _
        rw [m_u3s]
        exact ⟨n, P, T, J, hu, hT⟩
      · show z_u2 X.2.1 0 1 (nI z) 0 0 = nI old
        rw [m_u2s, m_un _ _ (by decide)]; exact a3
      · show z_u2 X.2.1 0 1 (nI z) 0 1 = nI z
        rw [m_u2s, m_us]
      · rw [m_other _ _ (by decide : (0 : Nat) ≠ 1), m_u2s, m_us]
      · rw [m_other _ _ (by decide : (5 : Nat) ≠ 1), m_u2n _ _ _ (by decide : (5 : Nat) ≠ 0), m_kd1 m 0 (by decide : (5 : Nat) ≠ 0)]
        show m_St B (z_u3 X.2.2 0 u ((old + j) % 14 + 3)) _
        rw [m_u3n _ u (by omega)]
        exact a6 j (by omega)
      · show (z_u2 X.2.1 0 1 (nI z) 1 i = 0 ∧ _) ∨ (z_u2 X.2.1 0 1 (nI z) 1 i = 1 ∧ _ ∧ m_St B (z_u3 X.2.2 0 u (i + 17)) _)
        rw [m_u2n _ _ _ (by decide : (1 : Nat) ≠ 0), m_u3n _ u (by omega), m_other _ _ (by decide : (7 : Nat) ≠ 1), m_u2n _ _ _ (by decide : (7 : Nat) ≠ 0), m_kd1 m 0 (by decide : (7 : Nat) ≠ 0), m_other _ _ (by decide : (6 : Nat) ≠ 1), m_u2n _ _ _ (by decide : (6 : Nat) ≠ 0), m_kd1 m 0 (by decide : (6 : Nat) ≠ 0)]
        exact hsl i hi
    · rw [m_other _ _ (by decide : (0 : Nat) ≠ 1), m_u2s, m_un _ _ (by decide), m_u2s, m_us]
/-- whether an order may be moved -/
theorem m_free {n P T J : Nat} {g : z_R} {s : Nat → Int32} (h : RS m_Al n P T J g s) (hN : 17 ≤ N) {o p : Nat} (ho : o < n) (hp : p < P) : (fX2_isFreeFor N (nI o) (nI p) g = some 1 ∧ fX5_whyNotMoved N (nI o) (nI p) (z_uR m 1 s) = some 0 ∧ ∀ q, q < n → q ≠ o → g 6 q ≠ nI p) ∨ (fX2_isFreeFor N (nI o) (nI p) g = some 0 ∧ fX5_whyNotMoved N (nI o) (nI p) (z_uR m 1 s) = some 2) := by
  have h16 := h.n16
  have hP4 := h.P40
  obtain ⟨r, a1, a2, a3⟩ := m_on2 (N := N) (m := m) h trivial hN (p := nI p) (m_nN p (by omega))
  unfold fX2_isFreeFor fX5_whyNotMoved
  rw [a1, m_bind, m_ioY (n := n) (by rw [m_same]; exact h.sn) h16 ho, m_bind, if_neg m_1_0, m_ipY (P := P) (by rw [m_same]; exact h.sP) hP4 hp, m_bind, if_neg m_1_0, a2, m_bind]
  rcases a3 with ⟨e, hf⟩ | ⟨q, hq, e1, e2⟩
  · rw [if_pos e, if_pos e]
    exact Or.inl ⟨rfl, rfl, fun u hu _ => hf u hu⟩
  · rw [e2, if_neg (m_nN q (by omega)), if_neg (m_nN q (by omega))]
    by_cases c : q = o
    · subst c
      rw [if_pos rfl, if_pos rfl]
      refine Or.inl ⟨rfl, rfl, fun u hu huq e => ?_⟩
      have := h.ap hu hq huq (e.trans e1.symm)
      rw [e] at this
      exact m_nN p (by omega) this
    · have cn : ¬ nI q = nI o := fun e => c (m_nI_inj (by omega) (by omega) e)
      rw [if_neg cn, if_neg cn]
      exact Or.inr ⟨rfl, rfl⟩
theorem c_move (h : RG B X m) (hN : 13000 ≤ N) (hN2 : N < 2 ^ 31) (x y : Int32) : ∃ o X' b m', fX4_move N x y X = some (o, X') ∧ fX5_move N x y m = some (b, m') ∧ RG (B + 5000) X' m' ∧ ((o = .inl b ∧ m' 0 0 = 0) ∨ (o = .inr 3 ∧ m' 0 0 = 1) ∨ (o = .inr 2 ∧ m' 0 0 = 2)) := by
  obtain ⟨ht, ⟨n, P, T, J, hrs, hT⟩, hme, hsl⟩ := id h
  have h16 := hrs.n16
  have hP4 := hrs.P40
  unfold fX4_move fX5_move
  rcases m_cs x (n := n) (by omega) with ⟨o, ho, rfl⟩ | ⟨hx, -⟩
  · rcases m_cs y (n := P) (by omega) with ⟨p, hp, rfl⟩ | ⟨hy, -⟩
    · rw [m_hasY hrs.gn h16 ho, m_bind, if_neg m_1_0, m_hpY hrs.gP (by omega) hp, m_bind, if_neg m_1_0]
      rcases m_free (N := N) (m := m) hrs (by omega) ho hp with ⟨f1, f2, f3⟩ | ⟨f1, f2⟩
      · rw [m_self] at f2
        obtain ⟨X1, m1, r1, r2, r3, r4, r5, r6⟩ := m_remember (N := N) (h.kd 0) hN hN2
        rw [m_kd] at r6
        rw [m_kd1 m 0 (by decide)] at r5
        obtain ⟨g', s', -, t1, t2, t3, -⟩ := m_put (N := N) (m := m1) hrs trivial (fun _ => trivial) ho (v := nI p) (Or.inr ⟨p, hp, rfl⟩) (Or.inr f3)
        rw [show z_uR m1 1 (m 1) = m1 by rw [← r5, m_self], hrs.or ho (by decide) (by decide) trivial] at t2
        refine ⟨.inl (X.2.2 0 8 o), (X1.1, X1.2.1, z_u3 X1.2.2 0 g'), X.2.2 0 8 o, z_uR m1 1 s', ?_, ?_, r3.nw (by omega) ⟨n, P, T, J, t3, by omega⟩, Or.inl ⟨rfl, by rw [m_other _ _ (by decide : (0 : Nat) ≠ 1)]; exact r6⟩⟩
        · rw [f1, m_bind, if_neg m_1_0, r1, m_bind, r4, t1, m_b2, m_lt]
        · rw [f2, m_bind, m_lt, m_kd, if_pos m_z0, r2, m_bind, t2, m_b2]
      · rw [m_self] at f2
        refine ⟨.inr 2, X, 0, z_u2 m 0 0 2, ?_, ?_, (h.kd 2).mono (by omega), Or.inr (Or.inr ⟨rfl, m_kd m 2⟩)⟩
        · rw [f1, m_bind, if_pos m_00]
        · rw [f2, m_bind, m_lt, m_kd, if_neg m_n2]
    · refine ⟨.inr 3, X, 0, z_u2 m 0 0 1, ?_, ?_, (h.kd 1).mono (by omega), Or.inr (Or.inl ⟨rfl, m_kd m 1⟩)⟩
      · rw [m_hasY hrs.gn h16 ho, m_bind, if_neg m_1_0, m_hpN hrs.gP hy, m_bind, if_pos m_00]
      · unfold fX5_whyNotMoved
        rw [m_ioY hrs.sn h16 ho, m_bind, if_neg m_1_0, m_ipN hrs.sP hP4 hy, m_bind, if_pos m_00, m_bind, m_lt, m_kd, if_neg m_n1]
  · refine ⟨.inr 3, X, 0, z_u2 m 0 0 1, ?_, ?_, (h.kd 1).mono (by omega), Or.inr (Or.inl ⟨rfl, m_kd m 1⟩)⟩
    · rw [m_hasN hrs.gn hx, m_bind, if_pos m_00]
    · unfold fX5_whyNotMoved
      rw [m_ioN hrs.sn h16 hx, m_bind, if_pos m_00, m_bind, m_lt, m_kd, if_neg m_n1]
end MR14
end
section
/-! the commands that only look -/
section MR15
variable {N B : Nat} {X : z_X} {m : z_R}
theorem m_ticks {n P T J j : Nat} {s : Nat → Int32} (hrs : RS m_Al n P T J (X.2.2 j) s) (hm : m 1 = s) (hj : j ≠ 2) (hT : T + 4900 < 2 ^ 30) (hN : 13000 ≤ N) (hN2 : N < 2 ^ 31) (x : Int32) : ∃ T' e g' m', T ≤ T' ∧ T' ≤ T + 4900 ∧ fX4_ticksOfRun N j x X = some (nI (T' - T), (X.1, X.2.1, z_u3 X.2.2 2 g')) ∧ fX5_ticksOf N x m = some (nI (T' - T), m') ∧ g' 0 3 = e ∧ m' 0 3 = e ∧ (∀ k, k < 925 → m' 1 k = m 1 k) ∧ (∀ r, 3 ≤ r → m' r = m r) ∧ (∀ k, k ≠ 3 → m' 0 k = m 0 k) := by
  obtain ⟨u, u1, u2⟩ := m_copyC (N := N) hrs (by omega) hN2 (X.2.2 2)
  have hu := u2 (s'' := s) hrs (fun _ _ => rfl)
  obtain ⟨e, je, g', s', T', J', e1, e2, e3, e4, e5, e6, e7, e8, e9, -⟩ := m_runs (N := N) (m := z_uR m 2 (m_cp s 0 (m 2) 0 925)) hu ⟨trivial, trivial, trivial, trivial, trivial, trivial, trivial⟩ (fun _ => trivial) (by omega) hT x
  refine ⟨T', e, g', z_uR (z_u2 (z_uR (z_uR m 2 (m_cp s 0 (m 2) 0 925)) 1 s') 0 3 e) 1 (m_cp (m_cp s 0 (m 2) 0 925) 0 s' 0 925), e6, e7, ?_, ?_, e8, ?_, fun k hk => ?_, fun r hr => ?_, fun k hk => ?_⟩
  · unfold fX4_ticksOfRun
    rw [u1, m_bind, m_lt]
    dsimp only
    rw [m_u3s, e3, m_b2, m_lt]
    dsimp only
    rw [m_u3s, m_u3n _ g' hj, m_u3n _ u hj, e5.gT, hrs.gT, pk_sub e6]
    congr 4
    funext a
    by_cases c : a = 2
    · subst c; rw [m_u3s, m_u3s]
    · rw [m_u3n _ _ c, m_u3n _ _ c, m_u3n _ _ c]
  · unfold fX5_ticksOf
    have hmm : z_uR m 2 (m_cp s 0 (m 2) 0 925) = z_uR (z_uR m 2 (m_cp s 0 (m 2) 0 925)) 1 s := by
      rw [← hm]
      have q := m_self (z_uR m 2 (m_cp (m 1) 0 (m 2) 0 925)) 1
      rw [m_other _ _ (by decide : (1 : Nat) ≠ 2)] at q
      exact q.symm
    rw [← hmm] at e4
    rw [m_cpM (ln := 925) (lk := 925) (x := 0) (y := 0) (N := N) (a := 0) (b := 0) rfl rfl (by decide) (by decide) (by decide) (by decide) (by omega), m_bind, m_lt, hm, e4, m_b2, m_t4, m_same, e9, m_lt]
    rw [m_u2n _ _ _ (by decide : (2 : Nat) ≠ 0), m_other _ _ (by decide : (2 : Nat) ≠ 1), m_same, m_u2n _ _ _ (by decide : (1 : Nat) ≠ 0), m_same, m_cpM (ln := 925) (lk := 925) (x := 0) (y := 0) (N := N) (a := 0) (b := 0) rfl rfl (by decide) (by decide) (by decide) (by decide) (by omega), m_bind, m_lt, m_t1, e5.sT trivial]
    have q := m_cpI (f := s) (u := m 2) (a := 0) (b := 0) (k := 1) (by decide)
    rw [show 0 + 1 = 1 from rfl] at q
    rw [q, hrs.sT trivial, pk_sub e6]
  · rw [m_other _ _ (by decide : (0 : Nat) ≠ 1), m_u2s, m_us]
  · rw [m_same]
    have q := m_cpI (f := m_cp s 0 (m 2) 0 925) (u := s') (a := 0) (b := 0) hk
    rw [Nat.zero_add] at q
    rw [q]
    have q2 := m_cpI (f := s) (u := m 2) (a := 0) (b := 0) hk
    rw [Nat.zero_add] at q2
    rw [q2, hm]
  · rw [m_other _ _ (by omega : r ≠ 1), m_u2n _ _ _ (by omega : r ≠ 0), m_other _ _ (by omega : r ≠ 1), m_other _ _ (by omega : r ≠ 2)]
  · rw [m_other _ _ (by decide : (0 : Nat) ≠ 1), m_u2s, m_un _ _ hk, m_other _ _ (by decide : (0 : Nat) ≠ 1), m_other _ _ (by decide : (0 : Nat) ≠ 2)]
/-- the relation holds on where the reference's state is the same as far as it goes -/
theorem RG.tk (h : RG B X m) {X' : z_X} {m' : z_R} (h1 : X'.1 = X.1) (h2 : X'.2.1 = X.2.1) (h3 : ∀ k, k = 0 ∨ 3 ≤ k → X'.2.2 k = X.2.2 k) (h4 : ∀ k, k < 925 → m' 1 k = m 1 k) (h5 : m' 5 = m 5 ∧ m' 6 = m 6 ∧ m' 7 = m 7 ∧ m' 8 = m 8) (h6 : m' 0 1 = m 0 1 ∧ m' 0 2 = m 0 2) : RG B X' m' := by
  obtain ⟨ht, ⟨n, P, T, J, hrs, hT⟩, hme, hsl⟩ := h
  have hn : m_St B (X'.2.2 0) (m' 1) := by
    rw [h3 0 (Or.inl rfl)]
    exact ⟨n, P, T, J, hrs.cg (fun _ _ => rfl) (fun _ _ _ _ _ => rfl) (fun _ _ => ⟨rfl, rfl⟩) (fun _ _ => ⟨rfl, rfl, rfl⟩) h4, hT⟩
  have h0 : RG B X m := ⟨ht, ⟨n, P, T, J, hrs, hT⟩, hme, hsl⟩
  obtain ⟨q1, -, q3, q4⟩ := h0.fr (X' := X') (m' := z_uR m' 1 (m 1)) h1 h2 h3 ⟨m_same _ _ _, by rw [m_other _ _ (by decide)]; exact h5.1, by rw [m_other _ _ (by decide)]; exact h5.2.1, by rw [m_other _ _ (by decide)]; exact h5.2.2.1, by rw [m_other _ _ (by decide)]; exact h5.2.2.2⟩ ⟨by rw [m_other _ _ (by decide)]; exact h6.1, by rw [m_other _ _ (by decide)]; exact h6.2⟩
  refine ⟨?_, hn, ?_, ?_⟩
  · obtain ⟨len, t1, t2, t3, t4⟩ := q1
    exact ⟨len, t1, t2, by rw [m_other _ _ (by decide)] at t3; exact t3, by rw [m_other _ _ (by decide)] at t4; exact t4⟩
  · obtain ⟨old, sz, a1, a2, a3, a4, a5, a6⟩ := q3
    exact ⟨old, sz, a1, a2, a3, a4, by rw [m_other _ _ (by decide)] at a5; exact a5, by rw [m_other _ _ (by decide)] at a6; exact a6⟩
  · intro i hi
    have := q4 i hi
    rw [m_other _ _ (by decide : (7 : Nat) ≠ 1), m_other _ _ (by decide : (6 : Nat) ≠ 1)] at this
    exact this
theorem c_time (h : RG B X m) (hB : B + 5000 < 2 ^ 30) (hN : 13000 ≤ N) (hN2 : N < 2 ^ 31) (x : Int32) : ∃ o X' b m', fX4_time N x X = some (o, X') ∧ fX5_time N x m = some (b, m') ∧ RG (B + 5000) X' m' ∧ ((o = .inl b ∧ m' 0 0 = 0) ∨ (o = .inr 3 ∧ m' 0 0 = 1)) := by
  obtain ⟨ht, ⟨n, P, T, J, hrs, hT⟩, hme, hsl⟩ := id h
  have h16 := hrs.n16
  unfold fX4_time fX5_time
  rcases m_cs x (n := n) (by omega) with ⟨q, hq, e⟩ | ⟨hx, -⟩
  · obtain ⟨T', ee, g', m', t1, t2, t3, t4, t5, t6, t7, t8, t9⟩ := m_ticks (N := N) (m := z_u2 m 0 0 0) hrs (m_kd1 m 0 (by decide)) (by decide) (by omega) hN hN2 x
    refine ⟨.inl (nI (T' - T)), (X.1, X.2.1, z_u3 X.2.2 2 g'), nI (T' - T), m', ?_, ?_, ?_, Or.inl ⟨rfl, by rw [t9 0 (by decide), m_kd]⟩⟩
    · rw [e, m_hasY hrs.gn h16 hq, m_bind, if_neg m_1_0, ← e, t3, m_b2]
    · rw [e, m_ioY hrs.sn h16 hq, m_bind, if_neg m_1_0, m_lt, m_kd, if_pos m_z0, ← e, t4, m_b2]
    · refine RG.mono ((h.kd 0).tk (m' := m') rfl rfl (fun k hk => ?_) t7 ⟨t8 5 (by decide), t8 6 (by decide), t8 7 (by decide), t8 8 (by decide)⟩ ⟨t9 1 (by decide), t9 2 (by decide)⟩) (by omega)
      exact m_u3n _ _ (by omega)
  · refine ⟨.inr 3, X, 0, z_u2 m 0 0 1, ?_, ?_, (h.kd 1).mono (by omega), Or.inr ⟨rfl, m_kd m 1⟩⟩
    · rw [m_hasN hrs.gn hx, m_bind, if_pos m_00]
    · rw [m_ioN hrs.sn h16 hx, m_bind, if_pos m_00, m_lt, m_kd, if_neg m_n1]
theorem c_waits (h : RG B X m) (hB : B + 5000 < 2 ^ 30) (hN : 13000 ≤ N) (x : Int32) : ∃ o X' b m', fX4_waits N x X = some (o, X') ∧ fX5_waits N x m = some (b, m') ∧ RG (B + 5000) X' m' ∧ ((o = .inl b ∧ m' 0 0 = 0) ∨ (o = .inr 3 ∧ m' 0 0 = 1)) := by
  obtain ⟨ht, ⟨n, P, T, J, hrs, hT⟩, hme, hsl⟩ := id h
  have h16 := hrs.n16
  unfold fX4_waits fX5_waits
  rcases m_cs x (n := n) (by omega) with ⟨q, hq, rfl⟩ | ⟨hx, -⟩
  · rw [m_hasY hrs.gn h16 hq, m_bind, if_neg m_1_0, m_ioY hrs.sn h16 hq, m_bind, if_neg m_1_0, m_lt, m_kd, if_pos m_z0, m_part (p := 5) (k := 5) (r := 6) rfl rfl (by omega) (by decide), m_bind, m_kd1 m 0 (by decide), hrs.or hq (by decide) (by decide) trivial]
    by_cases c : X.2.2 0 6 q = -1
    · refine ⟨.inl (-1), X, -1, z_u2 m 0 0 0, ?_, by rw [if_pos c], (h.kd 0).mono (by omega), Or.inl ⟨rfl, m_kd m 0⟩⟩
      unfold fX2_waitFor fX2_isOnDrum
      rw [m_hasY hrs.gn h16 hq, m_bind, if_neg m_1_0, m_in (by omega) (by decide), m_ckt, m_clamp (by omega), if_pos c, m_bind, if_pos m_00, m_bind]
    · obtain ⟨p, hp, ep⟩ := (hrs.pl hq).resolve_left c
      obtain ⟨w1, w2⟩ := m_wait (N := N) (m := z_u2 m 0 0 0) hrs trivial trivial (by omega) hq ep hp
      rw [← m_rk 0] at w2
      exact ⟨.inl (nI ((p + P - T % P) % P)), X, nI ((p + P - T % P) % P), z_u2 m 0 0 0, by rw [w1, m_bind], by rw [if_neg c, w2, m_bind], (h.kd 0).mono (by omega), Or.inl ⟨rfl, m_kd m 0⟩⟩
  · refine ⟨.inr 3, X, 0, z_u2 m 0 0 1, ?_, ?_, (h.kd 1).mono (by omega), Or.inr ⟨rfl, m_kd m 1⟩⟩
    · rw [m_hasN hrs.gn hx, m_bind, if_pos m_00]
    · rw [m_ioN hrs.sn h16 hx, m_bind, if_pos m_00, m_lt, m_kd, if_neg m_n1]
theorem c_at (h : RG B X m) (hN : 13000 ≤ N) (x : Int32) : ∃ o X' b m', fX4_at N x X = some (o, X') ∧ fX5_at N x m = some (b, m') ∧ RG (B + 5000) X' m' ∧ ((o = .inl b ∧ m' 0 0 = 0) ∨ (o = .inr 3 ∧ m' 0 0 = 1)) := by
  obtain ⟨ht, ⟨n, P, T, J, hrs, hT⟩, hme, hsl⟩ := id h
  have h16 := hrs.n16
  have hP4 := hrs.P40
  unfold fX4_at fX5_at
  rcases m_cs x (n := P) (by omega) with ⟨p, hp, rfl⟩ | ⟨hx, -⟩
  · obtain ⟨r, a1, a2, -⟩ := m_on2 (N := N) (m := z_u2 m 0 0 0) hrs trivial (by omega) (p := nI p) (m_nN p (by omega))
    rw [← m_rk 0] at a2
    exact ⟨.inl r, X, r, z_u2 m 0 0 0, by rw [m_hpY hrs.gP (by omega) hp, m_bind, if_neg m_1_0, a1, m_bind], by rw [m_ipY hrs.sP hP4 hp, m_bind, if_neg m_1_0, m_lt, m_kd, if_pos m_z0, a2, m_bind], (h.kd 0).mono (by omega), Or.inl ⟨rfl, m_kd m 0⟩⟩
  · refine ⟨.inr 3, X, 0, z_u2 m 0 0 1, ?_, ?_, (h.kd 1).mono (by omega), Or.inr ⟨rfl, m_kd m 1⟩⟩
    · rw [m_hpN hrs.gP hx, m_bind, if_pos m_00]
    · rw [m_ipN hrs.sP hP4 hx, m_bind, if_pos m_00, m_lt, m_kd, if_neg m_n1]
theorem c_order (h : RG B X m) (hN : 13000 ≤ N) (x w : Int32) : ∃ o X' b m', fX4_order N x w X = some (o, X') ∧ fX5_order N x w m = some (b, m') ∧ RG (B + 5000) X' m' ∧ ((o = .inl b ∧ m' 0 0 = 0) ∨ (o = .inr 3 ∧ m' 0 0 = 1) ∨ (o = .inr 1 ∧ m' 0 0 = 2)) := by
  obtain ⟨ht, ⟨n, P, T, J, hrs, hT⟩, hme, hsl⟩ := id h
  have h16 := hrs.n16
  unfold fX4_order fX5_order
  rcases m_cs x (n := n) (by omega) with ⟨q, hq, rfl⟩ | ⟨hx, -⟩
  · rw [m_hasY hrs.gn h16 hq, m_bind, if_neg m_1_0, m_ioY hrs.sn h16 hq, m_bind, if_neg m_1_0]
    have e8 : (8 : Int32) = nI 9 - 1 := by decide
    rcases m_cs w (n := 9) (by decide) with ⟨k, hk, rfl⟩ | ⟨hw, hno⟩
    · have i1 : z_in (nI q) 16 = true := m_in (by omega) (by decide)
      have c1 : (nI q).toNatClampNeg = q := m_clamp (by omega)
      refine ⟨.inl (X.2.2 0 (k + 1) q), X, X.2.2 0 (k + 1) q, z_u2 m 0 0 0, ?_, ?_, (h.kd 0).mono (by omega), Or.inl ⟨rfl, m_kd m 0⟩⟩
      · rw [i1, c1]
        rcases (show k = 0 ∨ k = 1 ∨ k = 2 ∨ k = 3 ∨ k = 4 ∨ k = 5 ∨ k = 6 ∨ k = 7 ∨ k = 8 by omega) with e | e | e | e | e | e | e | e | e <;> subst e <;> rfl
      · rw [e8, m_wiY (by decide) hk, m_bind, if_neg m_1_0, m_lt, m_kd, if_pos m_z0, m_part (p := nI k) (k := k) (r := k + 1) rfl rfl (by omega) (by omega), m_bind, m_kd1 m 0 (by decide), hrs.or hq (by omega) (by omega) trivial]
    · refine ⟨.inr 1, X, 0, z_u2 m 0 0 2, ?_, ?_, (h.kd 2).mono (by omega), Or.inr (Or.inr ⟨rfl, m_kd m 2⟩)⟩
      · have hne : ∀ k, k < 9 → ¬ w = nI k := fun k hk e => hno ⟨k, hk, e⟩
        rw [if_neg (show ¬ w = (0 : Int32) from hne 0 (by decide)), if_neg (show ¬ w = (1 : Int32) from hne 1 (by decide)), if_neg (show ¬ w = (2 : Int32) from hne 2 (by decide)), if_neg (show ¬ w = (3 : Int32) from hne 3 (by decide)), if_neg (show ¬ w = (4 : Int32) from hne 4 (by decide)), if_neg (show ¬ w = (5 : Int32) from hne 5 (by decide)), if_neg (show ¬ w = (6 : Int32) from hne 6 (by decide)), if_neg (show ¬ w = (7 : Int32) from hne 7 (by decide)), if_neg (show ¬ w = (8 : Int32) from hne 8 (by decide))]
      · rw [e8, m_wiN (by decide) hw, m_bind, if_pos m_00, m_lt, m_kd, if_neg m_n2]
  · refine ⟨.inr 3, X, 0, z_u2 m 0 0 1, ?_, ?_, (h.kd 1).mono (by omega), Or.inr (Or.inl ⟨rfl, m_kd m 1⟩)⟩
    · rw [m_hasN hrs.gn hx, m_bind, if_pos m_00]
    · rw [m_ioN hrs.sn h16 hx, m_bind, if_pos m_00, m_lt, m_kd, if_neg m_n1]
end MR15
end
section
/-! author, jump, about, save, restore, addOrder -/
section MR16
variable {N B : Nat} {X : z_X} {m : z_R}
theorem m_authL {n P T J : Nat} {g : z_R} {s : Nat → Int32} (h : RS m_Al n P T J g s) (hm : m 1 = s) (x w : Int32) : ∀ (k i fu : Nat), i + k = n → k < fu → ∃ fv, lX5_author_43 N x w m fu (m_sum (fun o => if g 1 o = x then 1 else 0) i) (nI i) = lX5_author_43 N x w m (fv + 1) (m_sum (fun o => if g 1 o = x then 1 else 0) n) (nI n) := by
  have h16 := h.n16
  intro k
  induction k with
  | zero =>
    intro i fu hi hfu
    have e : i = n := by omega
    subst e
    exact ⟨fu - 1, by rw [show fu - 1 + 1 = fu by omega]⟩
  | succ k ih =>
    intro i fu hi hfu
    obtain ⟨fu, rfl⟩ : ∃ q, fu = q + 1 := ⟨fu - 1, by omega⟩
    obtain ⟨fv, hv⟩ := ih (i + 1) fu (by omega) (by omega)
    refine ⟨fv, ?_⟩
    rw [← hv, lX5_author_43.eq_2, m_t2, hm, h.sn, if_neg (nI_ge (by omega) (by omega)), m_part (p := 0) (k := 0) (r := 1) rfl rfl (by omega) (by decide), m_bind, hm, h.or (by omega) (by decide) (by decide) trivial, nI_1]
    rw [show m_sum (fun o => if g 1 o = x then 1 else 0) (i + 1) = m_sum (fun o => if g 1 o = x then 1 else 0) i + (if g 1 i = x then 1 else 0) from rfl]
    by_cases c : g 1 i = x
    · rw [if_pos c, if_pos c]
    · rw [if_neg c, if_neg c]
theorem c_author (h : RG B X m) (hN : 13000 ≤ N) (x w : Int32) : ∃ o X' b m', fX4_author N x w X = some (o, X') ∧ fX5_author N x w m = some (b, m') ∧ RG (B + 5000) X' m' ∧ ((o = .inl b ∧ m' 0 0 = 0) ∨ (o = .inr 3 ∧ m' 0 0 = 1) ∨ (o = .inr 1 ∧ m' 0 0 = 2)) := by
  obtain ⟨ht, ⟨n, P, T, J, hrs, hT⟩, hme, hsl⟩ := id h
  have h16 := hrs.n16
  unfold fX4_author fX5_author
  rcases m_au (N := N) x with ⟨a1, a2, a, ha, rfl⟩ | ⟨a1, a2⟩
  · rw [a1, m_bind, if_neg m_1_0, a2, m_bind, if_neg m_1_0]
    have e2 : (2 : Int32) = nI 3 - 1 := by decide
    have cnt := m_ooL (N := N) hrs (nI a) n 0 N (by omega) (by omega)
    obtain ⟨fv, hv⟩ := m_authL (N := N) (m := z_u2 m 0 0 0) hrs (m_kd1 m 0 (by decide)) (nI a) w n 0 N (by omega) (by omega)
    have hv : lX5_author_43 N (nI a) w (z_u2 m 0 0 0) N 0 0 = _ := hv
    rcases m_cs w (n := 3) (by decide) with ⟨k, hk, rfl⟩ | ⟨hw, hno⟩
    · have fin : ∀ r, fX4_author N (nI a) (nI k) X = some (.inl r, X) → lX5_author_43 N (nI a) (nI k) (z_u2 m 0 0 0) (fv + 1) (m_sum (fun o => if X.2.2 0 1 o = nI a then 1 else 0) n) (nI n) = some (r, z_u2 m 0 0 0) → ∃ o X' b m', fX4_author N (nI a) (nI k) X = some (o, X') ∧ ((fX5_within N (nI k) (0 : Int32) (2 : Int32)).bind fun r3 => (if r3 = 0 then z_lt (z_u2 m 0 0 (2 : Int32)) fun g5 => (if (g5 0 0) ≤ 0 then (lX5_author_43 N (nI a) (nI k) g5 N (0 : Int32) (0 : Int32)) else some ((0 : Int32), g5)) else z_lt (z_u2 m 0 0 (0 : Int32)) fun g14 => (if (g14 0 0) ≤ 0 then (lX5_author_43 N (nI a) (nI k) g14 N (0 : Int32) (0 : Int32)) else some ((0 : Int32), g14)))) = some (b, m') ∧ RG (B + 5000) X' m' ∧ ((o = .inl b ∧ m' 0 0 = 0) ∨ (o = .inr 3 ∧ m' 0 0 = 1) ∨ (o = .inr 1 ∧ m' 0 0 = 2)) := fun r h1 h2 => by
        refine ⟨.inl r, X, r, z_u2 m 0 0 0, h1, ?_, (h.kd 0).mono (by omega), Or.inl ⟨rfl, m_kd m 0⟩⟩
        rw [e2, m_wiY (by decide) hk, m_bind, if_neg m_1_0, m_lt, m_kd, if_pos m_z0, hv]
        exact h2
      have fin2 := fin
      unfold fX4_author at fin2
      simp only [a1, m_bind, if_neg m_1_0] at fin2
      rcases (show k = 0 ∨ k = 1 ∨ k = 2 by omega) with e | e | e
      · subst e
        refine fin2 (m_sum (fun o => if X.2.2 0 1 o = nI a then 1 else 0) n) ?_ ?_
        · rw [if_pos (show nI 0 = (0 : Int32) from rfl)]
          unfold fX2_ordersOf
          rw [show lX2_ordersOf_4 N (nI a) (X.2.2 0) N 0 0 = _ from cnt, m_bind]
        · rw [lX5_author_43.eq_2, m_t2, m_kd1 m 0 (by decide), hrs.sn, if_pos (nI_le (Nat.le_refl n) (by omega)), if_pos (show nI 0 = (0 : Int32) from rfl)]
      · subst e
        refine fin2 (X.2.2 0 10 a) ?_ ?_
        · rw [if_neg (show ¬ nI 1 = (0 : Int32) by decide), if_pos (show nI 1 = (1 : Int32) from rfl), m_in ha (by decide), m_ckt, m_clamp (by omega)]
        · rw [lX5_author_43.eq_2, m_t2, m_kd1 m 0 (by decide), hrs.sn, if_pos (nI_le (Nat.le_refl n) (by omega)), if_neg (show ¬ nI 1 = (0 : Int32) by decide), if_pos (show nI 1 = (1 : Int32) from rfl), show (5 : Int32) + nI a = nI (5 + a) from nI_add 5 a, m_in (by omega) (by decide), m_ckt, m_clamp (by omega), hrs.pd ha trivial]
      · subst e
        refine fin2 (X.2.2 0 11 a) ?_ ?_
        · rw [if_neg (show ¬ nI 2 = (0 : Int32) by decide), if_neg (show ¬ nI 2 = (1 : Int32) by decide), if_pos (show nI 2 = (2 : Int32) from rfl), m_in ha (by decide), m_ckt, m_clamp (by omega)]
        · rw [lX5_author_43.eq_2, m_t2, m_kd1 m 0 (by decide), hrs.sn, if_pos (nI_le (Nat.le_refl n) (by omega)), if_neg (show ¬ nI 2 = (0 : Int32) by decide), if_neg (show ¬ nI 2 = (1 : Int32) by decide), show (9 : Int32) + nI a = nI (9 + a) from nI_add 9 a, m_in (by omega) (by decide), m_ckt, m_clamp (by omega), hrs.rf ha trivial]
    · refine ⟨.inr 1, X, 0, z_u2 m 0 0 2, ?_, ?_, (h.kd 2).mono (by omega), Or.inr (Or.inr ⟨rfl, m_kd m 2⟩)⟩
      · have hne : ∀ k, k < 3 → ¬ w = nI k := fun k hk e => hno ⟨k, hk, e⟩
        rw [if_neg (show ¬ w = (0 : Int32) from hne 0 (by decide)), if_neg (show ¬ w = (1 : Int32) from hne 1 (by decide)), if_neg (show ¬ w = (2 : Int32) from hne 2 (by decide))]
      · rw [show fX5_within N w 0 2 = some 0 by rw [e2]; exact m_wiN (by decide) hw, m_bind, if_pos m_00, m_lt, m_kd, if_neg m_n2]
  · refine ⟨.inr 3, X, 0, z_u2 m 0 0 1, ?_, ?_, (h.kd 1).mono (by omega), Or.inr (Or.inl ⟨rfl, m_kd m 1⟩)⟩
    · rw [a1, m_bind, if_pos m_00]
    · rw [a2, m_bind, if_pos m_00, m_lt, m_kd, if_neg m_n1]
theorem c_jump (h : RG B X m) (x w : Int32) : ∃ o X' b m', fX4_jump N x w X = some (o, X') ∧ fX5_jump N x w m = some (b, m') ∧ RG (B + 5000) X' m' ∧ ((o = .inl b ∧ m' 0 0 = 0) ∨ (o = .inr 1 ∧ m' 0 0 = 1)) := by
  obtain ⟨ht, ⟨n, P, T, J, hrs, hT⟩, hme, hsl⟩ := id h
  have hJ := hrs.J256
  unfold fX4_jump fX5_jump
  have e2 : (2 : Int32) = nI 3 - 1 := by decide
  by_cases cx : x < 0
  · exact ⟨.inr 1, X, 0, z_u2 m 0 0 1, by rw [if_pos cx], by rw [if_pos cx, m_lt, m_kd, if_neg m_n1], (h.kd 1).mono (by omega), Or.inr ⟨rfl, m_kd m 1⟩⟩
  rw [if_neg cx, if_neg cx]
  rcases m_cs w (n := 3) (by decide) with ⟨k, hk, rfl⟩ | ⟨hw, hno⟩
  · have b1 : ¬ nI k < 0 := m_neg (by omega)
    have b2 : nI k ≤ (2 : Int32) := nI_le (b := 2) (by omega) (by decide)
    rw [if_neg b1, if_pos b2, m_wiY (N := N) (n := 3) (by decide) hk |> fun q => (show fX5_within N (nI k) 0 2 = some 1 by rw [e2]; exact q), m_bind, if_neg m_1_0, m_lt, m_kd, if_pos m_z0, m_t3, m_kd1 m 0 (by decide), hrs.sJ trivial]
    unfold fX0_number
    rw [if_neg cx, hrs.gJ]
    by_cases cJ : nI J ≤ x
    · have cJ2 : ¬ x < nI J := fun q => by
        rw [Int32.le_iff_toInt_le] at cJ
        rw [Int32.lt_iff_toInt_lt] at q
        omega
      exact ⟨.inl (-1), X, -1, z_u2 m 0 0 0, by rw [if_neg cJ2, m_bind], by rw [if_pos cJ], (h.kd 0).mono (by omega), Or.inl ⟨rfl, m_kd m 0⟩⟩
    · obtain ⟨i, hi, rfl⟩ := ((m_ix x (n := J) (by omega)).resolve_left cx).resolve_left cJ
      obtain ⟨j1, j2, j3⟩ := hrs.ju trivial hi
      rw [if_pos (nI_lt hi (by omega)), if_neg cJ, m_in (show i < 256 by omega) (by decide), m_clamp (by omega), m_jx, nI_add, m_in (by omega) (by decide), m_ckt, m_clamp (by omega)]
      rcases (show k = 0 ∨ k = 1 ∨ k = 2 by omega) with e | e | e <;> subst e
      · exact ⟨.inl (X.2.2 0 13 i), X, X.2.2 0 13 i, z_u2 m 0 0 0, rfl, by rw [Nat.add_zero, j1, m_ckt], (h.kd 0).mono (by omega), Or.inl ⟨rfl, m_kd m 0⟩⟩
      · exact ⟨.inl (X.2.2 0 14 i), X, X.2.2 0 14 i, z_u2 m 0 0 0, rfl, by rw [j2, m_ckt], (h.kd 0).mono (by omega), Or.inl ⟨rfl, m_kd m 0⟩⟩
      · exact ⟨.inl (X.2.2 0 15 i), X, X.2.2 0 15 i, z_u2 m 0 0 0, rfl, by rw [j3, m_ckt], (h.kd 0).mono (by omega), Or.inl ⟨rfl, m_kd m 0⟩⟩
  · refine ⟨.inr 1, X, 0, z_u2 m 0 0 1, ?_, ?_, (h.kd 1).mono (by omega), Or.inr ⟨rfl, m_kd m 1⟩⟩
    · by_cases c : w < 0
      · rw [if_pos c]
      · rw [if_neg c, if_neg (fun q => by
          have h2 := hw.resolve_left c
          rw [Int32.le_iff_toInt_le, nI_toInt (by decide)] at h2
          rw [Int32.le_iff_toInt_le, show (2 : Int32).toInt = 2 from by decide] at q
          omega)]
    · rw [e2, m_wiN (by decide) hw, m_bind, if_pos m_00, m_lt, m_kd, if_neg m_n1]
end MR16
end
section
/-! addOrder -/
section MR18
variable {N B : Nat} {X : z_X} {m : z_R}
theorem RS.add {E : Nat → Prop} {n P T J : Nat} {g g' : z_R} {s s' : Nat → Int32} (h : RS E n P T J g s) (hn : n < 16) (V : Nat → Int32) (hV : ∀ r, 1 ≤ r → r ≤ 9 → m_Vd P r (V r)) (h6 : V 6 = -1) (hg : ∀ r, 1 ≤ r → r ≤ 9 → g' r = upd (g r) n (V r)) (hgr : ∀ r, 10 ≤ r → g' r = g r) (h01 : g' 0 1 = nI (n + 1)) (h0 : ∀ k, k ≠ 1 → g' 0 k = g 0 k) (hs : ∀ r, 1 ≤ r → r ≤ 9 → s' (12 + 9 * n + r) = V r) (hs2 : s' 2 = nI (n + 1)) (hso : ∀ k, k ≠ 2 → (k < 13 + 9 * n ∨ 22 + 9 * n ≤ k) → s' k = s k) : RS E (n + 1) P T J g' s' := by
  refine ⟨⟨by omega, h.1.2.1, h.1.2.2.1, h.1.2.2.2⟩, ⟨?_, h01, ?_, ?_⟩, ⟨?_, hs2⟩, fun e => ?_, fun e => ?_, ?_, ?_, ?_, ?_, ?_, ?_, ?_⟩
  · rw [h0 0 (by decide)]; exact h.gP
  · rw [h0 2 (by decide)]; exact h.gT
  · rw [h0 4 (by decide)]; exact h.gJ
  · rw [hso 0 (by decide) (by omega)]; exact h.sP
  · rw [hso 1 (by decide) (by omega), hso 4 (by decide) (by omega), h0 3 (by decide)]; exact h.2.2.2.1 e
  · rw [hso 3 (by decide) (by omega)]; exact h.sJ e
  · intro i hi
    rw [hso (5 + i) (by omega) (by omega), hso (9 + i) (by omega) (by omega), hgr 10 (by decide), hgr 11 (by decide)]
    exact h.2.2.2.2.2.1 i hi
  · intro o r ho h1 h9
    rw [hg r h1 h9]
    by_cases c : o = n
    · subst c
      rw [m_us, hs r h1 h9]
      exact ⟨fun _ => rfl, hV r h1 h9⟩
    · rw [m_un _ _ c, hso _ (by omega) (by omega)]
      exact h.2.2.2.2.2.2.1 o r (by omega) h1 h9
  · intro o q ho hq hoq
    rw [hg 6 (by decide) (by decide)]
    by_cases c : o = n
    · subst c; rw [m_us]; exact fun _ => h6
    · rw [m_un _ _ c]
      by_cases c2 : q = n
      · subst c2; rw [m_us]; exact fun e => e.trans h6
      · rw [m_un _ _ c2]; exact h.ap (by omega) (by omega) hoq
  · intro o ho h16
    rw [hg 8 (by decide) (by decide), m_un _ _ (by omega)]; exact h.op0 (by omega) h16
  · intro e i hi
    rw [hso _ (by omega) (by omega), hso _ (by omega) (by omega), hso _ (by omega) (by omega), hgr 13 (by decide), hgr 14 (by decide), hgr 15 (by decide)]
    exact h.ju e hi
  · intro i hi
    rw [hgr 13 (by decide), hgr 14 (by decide)]; exact h.jv hi
  · intro i k hi hk
    rw [hgr 13 (by decide), hgr 14 (by decide)]; exact h.jd hi hk
def m_V (a w x e b : Int32) : Nat → Int32 := fun r => if r = 1 then a else if r = 2 then w else if r = 3 then x else if r = 4 then e else if r = 5 then b else if r = 8 then 0 else -1
/-- nine rows get a number at n -/
def m_g9 (g : z_R) (n : Nat) (a w x e b : Int32) : z_R := z_u2 (z_u2 (z_u2 (z_u2 (z_u2 (z_u2 (z_u2 (z_u2 (z_u2 g 1 n a) 2 n w) 3 n x) 4 n e) 5 n b) 6 n (-1)) 7 n (-1)) 8 n 0) 9 n (-1)
theorem m_addC {n : Nat} {g : z_R} (hg : g 0 1 = nI n) (hn : n < 16) (a w x e b : Int32) : fX2_addNew N a w x e b g = some (nI n, z_u2 (m_g9 g n a w x e b) 0 1 (nI (n + 1))) := by
  unfold fX2_addNew
  have h0 : m_g9 g n a w x e b 0 = g 0 := by
    unfold m_g9
    rw [m_u2n _ _ _ (by decide), m_u2n _ _ _ (by decide), m_u2n _ _ _ (by decide), m_u2n _ _ _ (by decide), m_u2n _ _ _ (by decide), m_u2n _ _ _ (by decide), m_u2n _ _ _ (by decide), m_u2n _ _ _ (by decide), m_u2n _ _ _ (by decide)]
  rw [hg, if_neg (m_neg (by omega)), if_pos (show nI n < (16 : Int32) from nI_lt (b := 16) hn (by decide)), m_in hn (by decide), m_ckt, m_clamp (by omega), m_lt, m_ckt, m_lt, m_ckt, m_lt, m_ckt, m_lt, m_ckt, m_lt, m_ckt, m_lt, m_ckt, m_lt, m_ckt, m_lt, m_ckt, m_lt]
  rw [show z_u2 (z_u2 (z_u2 (z_u2 (z_u2 (z_u2 (z_u2 (z_u2 (z_u2 g 1 n a) 2 n w) 3 n x) 4 n e) 5 n b) 6 n (-1)) 7 n (-1)) 8 n 0) 9 n (-1) = m_g9 g n a w x e b from rfl, h0, hg, nI_1, m_lt]
def m_s9 (s : Nat → Int32) (n : Nat) (a w x e b : Int32) : Nat → Int32 := upd (upd (upd (upd (upd (upd (upd (upd (upd s (12 + 9 * n + 1) a) (12 + 9 * n + 2) w) (12 + 9 * n + 3) x) (12 + 9 * n + 4) e) (12 + 9 * n + 5) b) (12 + 9 * n + 6) (-1)) (12 + 9 * n + 7) (-1)) (12 + 9 * n + 8) 0) (12 + 9 * n + 9) (-1)
theorem RS.ad9 {E : Nat → Prop} {n P T J : Nat} {g : z_R} {s : Nat → Int32} (h : RS E n P T J g s) (hn : n < 16) {a w x e b : Int32} (va : ∃ k, k < 4 ∧ a = nI k) (vw : ∃ k, 1 ≤ k ∧ k ≤ 9 ∧ w = nI k) (vx : x = -1 ∨ ∃ k, k < 16 ∧ x = nI k) (ve : e = -1 ∨ ∃ k, k < 16 ∧ e = nI k) (vb : ∃ k, k ≤ 99 ∧ b = nI k) : RS E (n + 1) P T J (z_u2 (m_g9 g n a w x e b) 0 1 (nI (n + 1))) (upd (m_s9 s n a w x e b) 2 (nI (n + 1))) := by
  refine h.add hn (m_V a w x e b) (fun r h1 h9 => ?_) rfl (fun r h1 h9 => ?_) (fun r hr => ?_) (by rw [m_u2s, m_us]) (fun k hk => ?_) (fun r h1 h9 => ?_) (m_us _ _ _) (fun k h2 hk => ?_)
  · refine ⟨fun q => ?_, fun q => ?_, fun q => ?_, fun q => ?_, fun q => ?_⟩
    · subst q; exact va
    · subst q; exact vw
    · rcases q with q | q <;> subst q
      · exact vx
      · exact ve
    · subst q; exact vb
    · subst q; exact Or.inl rfl
  · rw [m_u2n _ _ _ (by omega)]
    unfold m_g9
    rcases (show r = 1 ∨ r = 2 ∨ r = 3 ∨ r = 4 ∨ r = 5 ∨ r = 6 ∨ r = 7 ∨ r = 8 ∨ r = 9 by omega) with q | q | q | q | q | q | q | q | q <;> subst q <;> rfl
  · rw [m_u2n _ _ _ (by omega)]
    unfold m_g9
    rw [m_u2n _ _ _ (by omega), m_u2n _ _ _ (by omega), m_u2n _ _ _ (by omega), m_u2n _ _ _ (by omega), m_u2n _ _ _ (by omega), m_u2n _ _ _ (by omega), m_u2n _ _ _ (by omega), m_u2n _ _ _ (by omega), m_u2n _ _ _ (by omega)]
  · rw [m_u2s, m_un _ _ hk]
    unfold m_g9
    rw [m_u2n _ _ _ (by decide), m_u2n _ _ _ (by decide), m_u2n _ _ _ (by decide), m_u2n _ _ _ (by decide), m_u2n _ _ _ (by decide), m_u2n _ _ _ (by decide), m_u2n _ _ _ (by decide), m_u2n _ _ _ (by decide), m_u2n _ _ _ (by decide)]
  · rw [m_un _ _ (by omega)]
    unfold m_s9
    have ne : ∀ i j : Nat, i ≠ j → 12 + 9 * n + i ≠ 12 + 9 * n + j := fun i j q => by omega
    rcases (show r = 1 ∨ r = 2 ∨ r = 3 ∨ r = 4 ∨ r = 5 ∨ r = 6 ∨ r = 7 ∨ r = 8 ∨ r = 9 by omega) with q | q | q | q | q | q | q | q | q <;> subst q
    · rw [m_un _ _ (ne _ _ (by decide)), m_un _ _ (ne _ _ (by decide)), m_un _ _ (ne _ _ (by decide)), m_un _ _ (ne _ _ (by decide)), m_un _ _ (ne _ _ (by decide)), m_un _ _ (ne _ _ (by decide)), m_un _ _ (ne _ _ (by decide)), m_un _ _ (ne _ _ (by decide)), m_us]; rfl
    · rw [m_un _ _ (ne _ _ (by decide)), m_un _ _ (ne _ _ (by decide)), m_un _ _ (ne _ _ (by decide)), m_un _ _ (ne _ _ (by decide)), m_un _ _ (ne _ _ (by decide)), m_un _ _ (ne _ _ (by decide)), m_un _ _ (ne _ _ (by decide)), m_us]; rfl
    · rw [m_un _ _ (ne _ _ (by decide)), m_un _ _ (ne _ _ (by decide)), m_un _ _ (ne _ _ (by decide)), m_un _ _ (ne _ _ (by decide)), m_un _ _ (ne _ _ (by decide)), m_un _ _ (ne _ _ (by decide)), m_us]; rfl
    · rw [m_un _ _ (ne _ _ (by decide)), m_un _ _ (ne _ _ (by decide)), m_un _ _ (ne _ _ (by decide)), m_un _ _ (ne _ _ (by decide)), m_un _ _ (ne _ _ (by decide)), m_us]; rfl
    · rw [m_un _ _ (ne _ _ (by decide)), m_un _ _ (ne _ _ (by decide)), m_un _ _ (ne _ _ (by decide)), m_un _ _ (ne _ _ (by decide)), m_us]; rfl
    · rw [m_un _ _ (ne _ _ (by decide)), m_un _ _ (ne _ _ (by decide)), m_un _ _ (ne _ _ (by decide)), m_us]; rfl
    · rw [m_un _ _ (ne _ _ (by decide)), m_un _ _ (ne _ _ (by decide)), m_us]; rfl
    · rw [m_un _ _ (ne _ _ (by decide)), m_us]; rfl
    · rw [m_us]; rfl
  · rw [m_un _ _ h2]
    unfold m_s9
    rw [m_un _ _ (by omega), m_un _ _ (by omega), m_un _ _ (by omega), m_un _ _ (by omega), m_un _ _ (by omega), m_un _ _ (by omega), m_un _ _ (by omega), m_un _ _ (by omega), m_un _ _ (by omega)]
theorem c_addOrder (h : RG B X m) (hN : 13000 ≤ N) (hN2 : N < 2 ^ 31) (a w x e b : Int32) : ∃ o X' r m', fX4_addOrder N a w x e b X = some (o, X') ∧ fX5_addOrder N a w x e b m = some (r, m') ∧ RG (B + 5000) X' m' ∧ ((o = .inl r ∧ m' 0 0 = 0) ∨ (o = .inr 1 ∧ m' 0 0 = 1) ∨ (o = .inr 2 ∧ m' 0 0 = 2)) := by
  obtain ⟨ht, ⟨n, P, T, J, hrs, hT⟩, hme, hsl⟩ := id h
  have h16 := hrs.n16
  have bad : ∀ {p : Option ((Int32 ⊕ Nat) × z_X)} {q : Option (Int32 × z_R)}, p = some (.inr 1, X) → q = some (0, z_u2 m 0 0 1) → ∃ o X' r m', p = some (o, X') ∧ q = some (r, m') ∧ RG (B + 5000) X' m' ∧ ((o = .inl r ∧ m' 0 0 = 0) ∨ (o = .inr 1 ∧ m' 0 0 = 1) ∨ (o = .inr 2 ∧ m' 0 0 = 2)) := fun p1 q1 => ⟨.inr 1, X, 0, z_u2 m 0 0 1, p1, q1, (h.kd 1).mono (by omega), Or.inr (Or.inl ⟨rfl, m_kd m 1⟩)⟩
  have ir0 : fX5_isInRange N 0 a = (fX5_isAuthor N a).bind fun r2 => z_ck (z_bo r2) (some r2) := rfl
  have ir1 : fX5_isInRange N 1 w = (fX5_within N w 1 9).bind fun r2 => z_ck (z_bo r2) (some r2) := rfl
  have ir2 : fX5_isInRange N 2 x = (fX5_within N x (-1) 15).bind fun r2 => z_ck (z_bo r2) (some r2) := rfl
  have ir3 : fX5_isInRange N 3 e = (fX5_within N e (-1) 15).bind fun r2 => z_ck (z_bo r2) (some r2) := rfl
  have ir4 : fX5_isInRange N 4 b = (fX5_within N b 0 99).bind fun r2 => z_ck (z_bo r2) (some r2) := rfl
  unfold fX4_addOrder fX5_addOrder
  rcases m_au (N := N) a with ⟨a1, a2, va⟩ | ⟨a1, a2⟩
  rotate_left
  · exact bad (by rw [a1, m_bind, if_pos m_00]) (by rw [ir0, a2, m_bind, m_b0, m_ckt, m_bind, if_pos m_00, m_lt, m_kd, if_neg m_n1])
  rw [a1, m_bind, if_neg m_1_0, ir0, a2, m_bind, m_b1, m_ckt, m_bind, if_neg m_1_0]
  rcases m_wk (N := N) w with ⟨b1, b2, vw⟩ | ⟨b1, b2⟩
  rotate_left
  · exact bad (by rw [b1, m_bind, if_pos m_00]) (by rw [ir1, b2, m_bind, m_b0, m_ckt, m_bind, if_pos m_00, m_lt, m_kd, if_neg m_n1])
  rw [b1, m_bind, if_neg m_1_0, ir1, b2, m_bind, m_b1, m_ckt, m_bind, if_neg m_1_0]
  rcases m_lk (N := N) x with ⟨c1, c2, vx⟩ | ⟨c1, c2⟩
  rotate_left
  · exact bad (by rw [c1, m_bind, if_pos m_00]) (by rw [ir2, c2, m_bind, m_b0, m_ckt, m_bind, if_pos m_00, m_lt, m_kd, if_neg m_n1])
  rw [c1, m_bind, if_neg m_1_0, ir2, c2, m_bind, m_b1, m_ckt, m_bind, if_neg m_1_0]
  rcases m_lk (N := N) e with ⟨d1, d2, ve⟩ | ⟨d1, d2⟩
  rotate_left
  · exact bad (by rw [d1, m_bind, if_pos m_00]) (by rw [ir3, d2, m_bind, m_b0, m_ckt, m_bind, if_pos m_00, m_lt, m_kd, if_neg m_n1])
  rw [d1, m_bind, if_neg m_1_0, ir3, d2, m_bind, m_b1, m_ckt, m_bind, if_neg m_1_0]
  rcases m_br (N := N) b with ⟨e1, e2, vb⟩ | ⟨e1, e2⟩
  rotate_left
  · exact bad (by rw [e1, m_bind, if_pos m_00]) (by rw [ir4, e2, m_bind, m_b0, m_ckt, m_bind, if_pos m_00, m_lt, m_kd, if_neg m_n1])
  rw [e1, m_bind, if_neg m_1_0, ir4, e2, m_bind, m_b1, m_ckt, m_bind, if_neg m_1_0, hrs.gn, m_t2, hrs.sn]
  by_cases cn : n = 16
  · subst cn
    refine ⟨.inr 2, X, 0, z_u2 m 0 0 2, ?_, ?_, (h.kd 2).mono (by omega), Or.inr (Or.inr ⟨rfl, m_kd m 2⟩)⟩
    · rw [if_neg (by decide)]
    · rw [if_pos (by decide), m_lt, m_kd, if_neg m_n2]
  · have hn : n < 16 := by omega
    obtain ⟨X1, m1, r1, r2, r3, r4, r5, r6⟩ := m_remember (N := N) (h.kd 0) hN hN2
    rw [m_kd] at r6
    rw [m_kd1 m 0 (by decide)] at r5
    have hr2 := hrs.ad9 hn va vw vx ve vb
    refine ⟨.inl (nI n), (X1.1, X1.2.1, z_u3 X1.2.2 0 (z_u2 (m_g9 (X.2.2 0) n a w x e b) 0 1 (nI (n + 1)))), nI n, z_uR m1 1 (upd (m_s9 (m 1) n a w x e b) 2 (nI (n + 1))), ?_, ?_, r3.nw (by omega) ⟨n + 1, P, T, J, hr2, by omega⟩, Or.inl ⟨rfl, by rw [m_other _ _ (by decide : (0 : Nat) ≠ 1)]; exact r6⟩⟩
    · rw [if_pos (show nI n < (16 : Int32) from nI_lt (b := 16) hn (by decide)), r1, m_bind, r4, m_addC hrs.gn hn, m_b2, m_lt]
    · rw [if_neg (show ¬ nI n = (16 : Int32) from fun q => cn (m_nI_inj (a := n) (b := 16) (by omega) (by decide) q)), m_lt, m_kd, if_pos m_z0, r2, m_bind]
      rw [r5, hrs.sn]
      have hm1 : m1 = z_uR m1 1 (m 1) := by rw [← r5, m_self]
      rw [show fX5_setPart N (nI n) 0 a m1 = some (z_uR m1 1 (upd (m 1) (12 + 9 * n + 1) a)) by
        conv => lhs; rw [hm1]
        exact m_setP (p := 0) (k := 0) (r := 1) rfl rfl hn (by decide), m_bind]
      rw [m_setP (p := 1) (k := 1) (r := 2) rfl rfl hn (by decide), m_bind, m_setP (p := 2) (k := 2) (r := 3) rfl rfl hn (by decide), m_bind, m_setP (p := 3) (k := 3) (r := 4) rfl rfl hn (by decide), m_bind, m_setP (p := 4) (k := 4) (r := 5) rfl rfl hn (by decide), m_bind, m_setP (p := 5) (k := 5) (r := 6) rfl rfl hn (by decide), m_bind, m_setP (p := 6) (k := 6) (r := 7) rfl rfl hn (by decide), m_bind, m_setP (p := 7) (k := 7) (r := 8) rfl rfl hn (by decide), m_bind, m_setP (p := 8) (k := 8) (r := 9) rfl rfl hn (by decide), m_bind, m_same, m_uRR]
      rw [show upd (upd (upd (upd (upd (upd (upd (upd (upd (m 1) (12 + 9 * n + 1) a) (12 + 9 * n + 2) w) (12 + 9 * n + 3) x) (12 + 9 * n + 4) e) (12 + 9 * n + 5) b) (12 + 9 * n + 6) (-1)) (12 + 9 * n + 7) (-1)) (12 + 9 * n + 8) 0) (12 + 9 * n + 9) (-1) = m_s9 (m 1) n a w x e b from rfl]
      have e2 : m_s9 (m 1) n a w x e b 2 = nI n := by
        unfold m_s9
        rw [m_un _ _ (by omega), m_un _ _ (by omega), m_un _ _ (by omega), m_un _ _ (by omega), m_un _ _ (by omega), m_un _ _ (by omega), m_un _ _ (by omega), m_un _ _ (by omega), m_un _ _ (by omega)]
        exact hrs.sn
      rw [e2, nI_1, m_lt]
end MR18
end
section
/-! saves, bestPlace, leastBribe -/
section MR19
variable {N B : Nat} {X : z_X} {m : z_R}
theorem m_tickC {n P T J j : Nat} {s : Nat → Int32} (hrs : RS m_Al n P T J (X.2.2 j) s) (hj : j ≠ 2) (hT : T + 4900 < 2 ^ 30) (hN : 13000 ≤ N) (hN2 : N < 2 ^ 31) (x : Int32) : ∃ T' e g' s' J', T ≤ T' ∧ T' ≤ T + 4900 ∧ fX4_ticksOfRun N j x X = some (nI (T' - T), (X.1, X.2.1, z_u3 X.2.2 2 g')) ∧ fX5_runs N x (z_uR m 1 s) = some (e, z_uR m 1 s') ∧ RS m_Al n P T' J' g' s' ∧ g' 0 3 = e ∧ s' 4 = e := by
  obtain ⟨u, u1, u2⟩ := m_copyC (N := N) hrs (by omega) hN2 (X.2.2 2)
  have hu := u2 (s'' := s) hrs (fun _ _ => rfl)
  obtain ⟨e, je, g', s', T', J', e1, e2, e3, e4, e5, e6, e7, e8, e9, -⟩ := m_runs (N := N) (m := m) hu ⟨trivial, trivial, trivial, trivial, trivial, trivial, trivial⟩ (fun _ => trivial) (by omega) hT x
  refine ⟨T', e, g', s', J', e6, e7, ?_, e4, e5, e8, e9⟩
  unfold fX4_ticksOfRun
  rw [u1, m_bind, m_lt]
  dsimp only
  rw [m_u3s, e3, m_b2, m_lt]
  dsimp only
  rw [m_u3s, m_u3n _ g' hj, m_u3n _ u hj, e5.gT, hrs.gT, pk_sub e6]
  congr 4
  funext a
  by_cases c : a = 2
  · subst c; rw [m_u3s, m_u3s]
  · rw [m_u3n _ _ c, m_u3n _ _ c, m_u3n _ _ c]
theorem m_cp0 (f u : Nat → Int32) {k : Nat} (hk : k < 925) : m_cp f 0 u 0 925 k = f k := by
  have q := m_cpI (f := f) (u := u) (a := 0) (b := 0) hk
  rw [Nat.zero_add] at q
  exact q
theorem m_copy0 (hN : 13000 ≤ N) (f u : Nat → Int32) : fX5_copy N 925 925 f 0 0 u = some (m_cp f 0 u 0 925) := m_cpM (x := 0) (y := 0) (a := 0) (b := 0) rfl rfl (by decide) (by decide) (by decide) (by decide) (by omega) f u
theorem RS.ag {E : Nat → Prop} {n P T J : Nat} {g : z_R} {s s' : Nat → Int32} (h : RS E n P T J g s) (hs : ∀ k, k < 925 → s' k = s k) : RS E n P T J g s' := h.cg (fun _ _ => rfl) (fun _ _ _ _ _ => rfl) (fun _ _ => ⟨rfl, rfl⟩) (fun _ _ => ⟨rfl, rfl, rfl⟩) hs
theorem c_saves (h : RG B X m) (hB : B + 5000 < 2 ^ 30) (hN : 13000 ≤ N) (hN2 : N < 2 ^ 31) (x : Int32) : ∃ o X' b m', fX4_saves N x X = some (o, X') ∧ fX5_saves N x m = some (b, m') ∧ RG (B + 5000) X' m' ∧ ((o = .inl b ∧ m' 0 0 = 0) ∨ (o = .inr 3 ∧ m' 0 0 = 1)) := by
  obtain ⟨ht, ⟨n, P, T, J, hrs, hT⟩, hme, hsl⟩ := id h
  have h16 := hrs.n16
  unfold fX4_saves fX5_saves
  rcases m_cs x (n := n) (by omega) with ⟨q, hq, e⟩ | ⟨hx, -⟩
  · obtain ⟨u, u1, u2⟩ := m_copyC (N := N) hrs (by omega) hN2 (X.2.2 1)
    -- the reference's first run
    obtain ⟨T', ee, g0, m5, t1, t2, -, t4, t5, t6, t7, t8, t9⟩ := m_ticks (N := N) (X := X) (j := 0) (m := z_u2 m 0 0 0) hrs (m_kd1 m 0 (by decide)) (by decide) (by omega) hN hN2 x
    have t7 : ∀ k, k < 925 → m5 1 k = m 1 k := fun k hk => by rw [t7 k hk, m_kd1 m 0 (by decide)]
    have hu := u2 (s'' := m5 1) hrs t7
    obtain ⟨g1, s1, sum, l1, l2, l3, -⟩ := m_layAll (N := N) (m := z_uR m5 2 (m_cp (m5 1) 0 (m5 2) 0 925)) hu ⟨trivial, trivial, trivial, trivial, trivial⟩ (fun _ => trivial) (by omega)
    rw [show z_uR (z_uR m5 2 (m_cp (m5 1) 0 (m5 2) 0 925)) 1 (m5 1) = z_uR m5 2 (m_cp (m5 1) 0 (m5 2) 0 925) by
      have q := m_self (z_uR m5 2 (m_cp (m5 1) 0 (m5 2) 0 925)) 1
      rw [m_other _ _ (by decide : (1 : Nat) ≠ 2)] at q
      exact q] at l2
    obtain ⟨X6, hX6⟩ : ∃ X6 : z_X, X6 = (X.1, X.2.1, z_u3 (z_u3 X.2.2 1 u) 1 g1) := ⟨_, rfl⟩
    have x60 : X6.2.2 0 = X.2.2 0 := by rw [hX6]; dsimp only; rw [m_u3n _ _ (by decide), m_u3n _ _ (by decide)]
    obtain ⟨Ta, ea, ga, ma, a1, a2, a3, a4, -⟩ := m_ticks (N := N) (X := X6) (j := 0) (m := z_u2 m 0 0 0) (by rw [x60]; exact hrs) (m_kd1 m 0 (by decide)) (by decide) (by omega) hN hN2 x
    have eTa : nI (Ta - T) = nI (T' - T) := (Prod.mk.inj (Option.some.inj (a4.symm.trans t4))).1
    obtain ⟨X7, hX7⟩ : ∃ X7 : z_X, X7 = (X6.1, X6.2.1, z_u3 X6.2.2 2 ga) := ⟨_, rfl⟩
    have x71 : X7.2.2 1 = g1 := by rw [hX7]; dsimp only; rw [m_u3n _ _ (by decide), hX6]; dsimp only; rw [m_u3s]
    obtain ⟨Tb, eb, gb, sb, Jb, b1, b2, b3, b4, b5, b6, b7⟩ := m_tickC (N := N) (X := X7) (j := 1) (m := z_uR m5 2 (m_cp (m5 1) 0 (m5 2) 0 925)) (by rw [x71]; exact l3) (by decide) (by omega) hN hN2 x
    refine ⟨.inl (nI (T' - T) - nI (Tb - T)), (X7.1, X7.2.1, z_u3 X7.2.2 2 gb), nI (T' - T) - nI (Tb - T), z_uR (z_uR (z_uR m5 2 (m_cp (m5 1) 0 (m5 2) 0 925)) 1 sb) 1 (m_cp (m_cp (m5 1) 0 (m5 2) 0 925) 0 sb 0 925), ?_, ?_, ?_, Or.inl ⟨rfl, ?_⟩⟩
    · rw [e, m_hasY hrs.gn h16 hq, m_bind, if_neg m_1_0, ← e, u1, m_bind, m_lt]
      (try dsimp only)
      rw [m_u3s, l1, m_b2, m_lt]
      (try dsimp only)
      rw [← hX6, a3, m_b2, ← hX7, b3, m_b2, eTa]
    · rw [e, m_ioY hrs.sn h16 hq, m_bind, if_neg m_1_0, m_lt, m_kd, if_pos m_z0, ← e, t4, m_b2, m_copy0 hN, m_bind, m_lt, l2, m_b2, b4, m_b2, m_other _ _ (by decide : (2 : Nat) ≠ 1), m_same, m_same, m_copy0 hN, m_bind, m_lt, m_t1, m_same, b5.sT trivial, l3.sT trivial, pk_sub b1]
    · refine RG.mono ((h.kd 0).tk ?_ ?_ (fun k hk => ?_) (fun k hk => ?_) ⟨?_, ?_, ?_, ?_⟩ ⟨?_, ?_⟩) (by omega)
      · rw [hX7, hX6]
      · rw [hX7, hX6]
      · show z_u3 X7.2.2 2 gb k = X.2.2 k
        rw [m_u3n _ _ (by omega), hX7]
        show z_u3 X6.2.2 2 ga k = _
        rw [m_u3n _ _ (by omega), hX6]
        show z_u3 (z_u3 X.2.2 1 u) 1 g1 k = _
        rw [m_u3n _ _ (by omega), m_u3n _ _ (by omega)]
      · rw [m_same, m_cp0 _ _ hk, m_cp0 _ _ hk, t7 k hk, m_kd1 m 0 (by decide)]
      · rw [m_other _ _ (by decide), m_other _ _ (by decide), m_other _ _ (by decide)]; exact t8 5 (by decide)
      · rw [m_other _ _ (by decide), m_other _ _ (by decide), m_other _ _ (by decide)]; exact t8 6 (by decide)
      · rw [m_other _ _ (by decide), m_other _ _ (by decide), m_other _ _ (by decide)]; exact t8 7 (by decide)
      · rw [m_other _ _ (by decide), m_other _ _ (by decide), m_other _ _ (by decide)]; exact t8 8 (by decide)
      · rw [m_other _ _ (by decide), m_other _ _ (by decide), m_other _ _ (by decide)]; exact t9 1 (by decide)
      · rw [m_other _ _ (by decide), m_other _ _ (by decide), m_other _ _ (by decide)]; exact t9 2 (by decide)
    · rw [m_other _ _ (by decide), m_other _ _ (by decide), m_other _ _ (by decide), t9 0 (by decide), m_kd]
  · refine ⟨.inr 3, X, 0, z_u2 m 0 0 1, ?_, ?_, (h.kd 1).mono (by omega), Or.inr ⟨rfl, m_kd m 1⟩⟩
    · rw [m_hasN hrs.gn hx, m_bind, if_pos m_00]
    · rw [m_ioN hrs.sn h16 hx, m_bind, if_pos m_00, m_lt, m_kd, if_neg m_n1]
end MR19
end
section
/-! bestPlace, leastBribe -/
section MR20
variable {N B : Nat} {X : z_X} {m : z_R}
theorem m_u2u (g : z_R) (r k : Nat) (v w : Int32) : z_u2 (z_u2 g r k v) r k w = z_u2 g r k w := by
  funext a
  by_cases c : a = r
  · subst c
    rw [m_u2s, m_u2s, m_u2s]
    funext j
    by_cases cj : j = k
    · subst cj; rw [m_us, m_us]
    · rw [m_un _ _ cj, m_un _ _ cj, m_un _ _ cj]
  · rw [m_u2n _ _ _ c, m_u2n _ _ _ c, m_u2n _ _ _ c]
theorem m_uu (f : Nat → Int32) (k : Nat) (v w : Int32) : upd (upd f k v) k w = upd f k w := by
  funext j
  by_cases cj : j = k
  · subst cj; rw [m_us, m_us]
  · rw [m_un _ _ cj, m_un _ _ cj, m_un _ _ cj]
/-- what the search for the best place keeps -/
def m_BI (B : Nat) (X0 : z_X) (m0 : z_R) (X : z_X) (m : z_R) : Prop := X.1 = X0.1 ∧ X.2.1 = X0.2.1 ∧ (∀ k, k = 0 ∨ 3 ≤ k → X.2.2 k = X0.2.2 k) ∧ (∀ k, k < 925 → m 1 k = m0 1 k) ∧ (∀ r, 3 ≤ r → m r = m0 r) ∧ ∀ k, k ≠ 3 → m 0 k = m0 0 k
theorem m_bpL {n P T J o : Nat} {X0 : z_X} {m0 : z_R} (h : RG B X0 m0) (hrs : RS m_Al n P T J (X0.2.2 0) (m0 1)) (hT : T + 4900 < 2 ^ 30) (hN : 13000 ≤ N) (hN2 : N < 2 ^ 31) (ho : o < n) (x2 : Int32) : ∀ (k i fu fv : Nat) (best least : Int32) (X : z_X) (m : z_R), i + k = P → k < fu → k < fv → m_BI B X0 m0 X m → (∀ v p, p < P → v = nI p → (∀ u, u < n → u ≠ o → X0.2.2 0 6 u ≠ v) → RS m_Al n P T J (z_u2 (X.2.2 1) 6 o v) (upd (m0 1) (12 + 9 * o + 6) v)) → ∃ b X' m', lX4_bestPlace_51 N (nI o) x2 fu best least (nI i) X = some (.inl b, X') ∧ lX5_bestPlace_50 N (nI o) x2 (X0.2.2 0 6 o) fv best least (nI i) m = some (b, m') ∧ m_BI B X0 m0 X' m' := by
  have h16 := hrs.n16
  have hP4 := hrs.P40
  intro k
  induction k with
  | zero =>
    intro i fu fv best least X m hi hfu hfv hb ht
    obtain ⟨fu, rfl⟩ : ∃ q, fu = q + 1 := ⟨fu - 1, by omega⟩
    obtain ⟨fv, rfl⟩ : ∃ q, fv = q + 1 := ⟨fv - 1, by omega⟩
    have e : i = P := by omega
    subst e
    refine ⟨best, X, m, ?_, ?_, hb⟩
    · rw [lX4_bestPlace_51.eq_2, hb.2.2.1 0 (Or.inl rfl), hrs.gP, if_pos (nI_le (Nat.le_refl i) (by omega))]
    · rw [lX5_bestPlace_50.eq_2, m_t0, hb.2.2.2.1 0 (by decide), hrs.sP, if_pos (nI_le (Nat.le_refl i) (by omega))]
  | succ k ih =>
    intro i fu fv best least X m hi hfu hfv hb ht
    obtain ⟨fu, rfl⟩ : ∃ q, fu = q + 1 := ⟨fu - 1, by omega⟩
    obtain ⟨fv, rfl⟩ : ∃ q, fv = q + 1 := ⟨fv - 1, by omega⟩
    have hin : i < P := by omega
    obtain ⟨b1, b2, b3, b4, b5, b6⟩ := id hb
    have hrs1 : RS m_Al n P T J (X0.2.2 0) (m 1) := hrs.ag b4
    obtain ⟨r, a1, a2, a3⟩ := m_on2 (N := N) (m := m) hrs1 trivial (by omega) (p := nI i) (m_nN i (by omega))
    rw [m_self] at a2
    -- the place is free for o, or not
    have cls : lX4_bestPlace_51 N (nI o) x2 (fu + 1) best least (nI i) X = (fX2_isFreeFor N (nI o) (nI i) (X0.2.2 0)).bind fun r8 => (if r8 = 0 then (lX4_bestPlace_51 N (nI o) x2 fu best least (nI (i + 1)) X) else z_b2 (fX4_ticksOfRun N 1 x2 (X.1, X.2.1, z_u3 X.2.2 1 (z_u2 (X.2.2 1) 6 o (nI i)))) fun r12 X12 => (if best = (-1 : Int32) then (lX4_bestPlace_51 N (nI o) x2 fu (nI i) r12 (nI (i + 1)) X12) else (if least ≤ r12 then (lX4_bestPlace_51 N (nI o) x2 fu best least (nI (i + 1)) X12) else (lX4_bestPlace_51 N (nI o) x2 fu (nI i) r12 (nI (i + 1)) X12)))) := by
      rw [lX4_bestPlace_51.eq_2, b3 0 (Or.inl rfl), hrs.gP, if_neg (nI_ge hin (by omega)), m_in (show o < 16 by omega) (by decide), m_clamp (by omega), nI_1]
      rfl
    have tak : (∀ u, u < n → u ≠ o → X0.2.2 0 6 u ≠ nI i) → fX2_isFreeFor N (nI o) (nI i) (X0.2.2 0) = some 1 → ((fX5_setPart N (nI o) (5 : Int32) (nI i) m).bind fun g9 => z_b2 (fX5_ticksOf N x2 g9) fun r10 g10 => (fX5_setPart N (nI o) (5 : Int32) (X0.2.2 0 6 o) g10).bind fun g11 => (if best = (-1 : Int32) then (lX5_bestPlace_50 N (nI o) x2 (X0.2.2 0 6 o) fv (nI i) r10 (nI i + (1 : Int32)) g11) else (if least ≤ r10 then (lX5_bestPlace_50 N (nI o) x2 (X0.2.2 0 6 o) fv best least (nI i + (1 : Int32)) g11) else (lX5_bestPlace_50 N (nI o) x2 (X0.2.2 0 6 o) fv (nI i) r10 (nI i + (1 : Int32)) g11)))) = lX5_bestPlace_50 N (nI o) x2 (X0.2.2 0 6 o) (fv + 1) best least (nI i) m → ∃ b X' m', lX4_bestPlace_51 N (nI o) x2 (fu + 1) best least (nI i) X = some (.inl b, X') ∧ lX5_bestPlace_50 N (nI o) x2 (X0.2.2 0 6 o) (fv + 1) best least (nI i) m = some (b, m') ∧ m_BI B X0 m0 X' m' := by
      intro hfree hf hm
      obtain ⟨X1, hX1⟩ : ∃ X1 : z_X, X1 = (X.1, X.2.1, z_u3 X.2.2 1 (z_u2 (X.2.2 1) 6 o (nI i))) := ⟨_, rfl⟩
      have hr1 : RS m_Al n P T J (X1.2.2 1) (upd (m 1) (12 + 9 * o + 6) (nI i)) := by
        rw [hX1]
        dsimp only
        rw [m_u3s]
        refine (ht (nI i) i hin rfl hfree).ag (fun q hq => ?_)
        by_cases c : q = 12 + 9 * o + 6
        · subst c; rw [m_us, m_us]
        · rw [m_un _ _ c, m_un _ _ c]; exact b4 q hq
      obtain ⟨T', ee, g', m', t1, t2, t3, t4, -, -, t7, t8, t9⟩ := m_ticks (N := N) (X := X1) (j := 1) (m := z_uR m 1 (upd (m 1) (12 + 9 * o + 6) (nI i))) hr1 (m_same _ _ _) (by decide) hT hN hN2 x2
      have s1 : fX5_setPart N (nI o) 5 (nI i) m = some (z_uR m 1 (upd (m 1) (12 + 9 * o + 6) (nI i))) := by
        have q := m_setP (N := N) (m := m) (s := m 1) (j := o) (v := nI i) (p := 5) (k := 5) (r := 6) rfl rfl (by omega) (by decide)
        rw [m_self] at q
        exact q
      have s2 : fX5_setPart N (nI o) 5 (X0.2.2 0 6 o) m' = some (z_uR m' 1 (upd (m' 1) (12 + 9 * o + 6) (X0.2.2 0 6 o))) := by
        have q := m_setP (N := N) (m := m') (s := m' 1) (j := o) (v := X0.2.2 0 6 o) (p := 5) (k := 5) (r := 6) rfl rfl (by omega) (by decide)
        rw [m_self] at q
        exact q
      have hb' : m_BI B X0 m0 (X1.1, X1.2.1, z_u3 X1.2.2 2 g') (z_uR m' 1 (upd (m' 1) (12 + 9 * o + 6) (X0.2.2 0 6 o))) := by
        refine ⟨by rw [hX1]; exact b1, by rw [hX1]; exact b2, fun k hk => ?_, fun k hk => ?_, fun r hr => ?_, fun k hk => ?_⟩
        · dsimp only
          rw [m_u3n _ _ (by omega), hX1]
          dsimp only
          rw [m_u3n _ _ (by omega)]
          exact b3 k hk
        · rw [m_same]
          by_cases c : k = 12 + 9 * o + 6
          · subst c
            rw [m_us]
            exact (hrs.or ho (by decide) (by decide) trivial).symm
          · rw [m_un _ _ c, t7 k hk, m_same, m_un _ _ c]
            exact b4 k hk
        · rw [m_other _ _ (by omega), t8 r hr, m_other _ _ (by omega)]
          exact b5 r hr
        · rw [m_other _ _ (by decide), t9 k hk, m_other _ _ (by decide)]
          exact b6 k hk
      have ht' : ∀ v p, p < P → v = nI p → (∀ u, u < n → u ≠ o → X0.2.2 0 6 u ≠ v) → RS m_Al n P T J (z_u2 (((X1.1, X1.2.1, z_u3 X1.2.2 2 g') : z_X).2.2 1) 6 o v) (upd (m0 1) (12 + 9 * o + 6) v) := by
        intro v p hp hv hf2
        dsimp only
        rw [m_u3n _ _ (by decide), hX1]
        dsimp only
        rw [m_u3s, m_u2u]
        exact ht v p hp hv hf2
      have step := fun (bb ll : Int32) => ih (i + 1) fu fv bb ll _ _ (by omega) (by omega) (by omega) hb' ht'
      rw [← hm, cls, hf, m_bind, if_neg m_1_0, ← hX1, t3, m_b2, s1, m_bind, t4, m_b2, s2, m_bind, nI_1]
      by_cases c1 : best = -1
      · rw [if_pos c1, if_pos c1]; exact step _ _
      · rw [if_neg c1, if_neg c1]
        by_cases c2 : least ≤ nI (T' - T)
        · rw [if_pos c2, if_pos c2]; exact step _ _
        · rw [if_neg c2, if_neg c2]; exact step _ _
    have mdl : lX5_bestPlace_50 N (nI o) x2 (X0.2.2 0 6 o) (fv + 1) best least (nI i) m = lX5_bestPlace_50 N (nI o) x2 (X0.2.2 0 6 o) (fv + 1) best least (nI i) m := rfl
    conv at mdl =>
      rhs
      rw [lX5_bestPlace_50.eq_2]
    rw [m_t0, b4 0 (by decide), hrs.sP, if_neg (nI_ge hin (by omega)), a2, m_bind] at mdl
    rcases a3 with ⟨e, hf⟩ | ⟨u, hu, e1, e2⟩
    · rw [if_pos e] at mdl
      refine tak (fun u hu _ => hf u hu) ?_ mdl.symm
      unfold fX2_isFreeFor
      rw [a1, m_bind, if_pos e]
    · rw [e2, if_neg (m_nN u (by omega))] at mdl
      by_cases c : u = o
      · subst c
        rw [if_pos e1.symm] at mdl
        refine tak (fun v hv hvu ev => ?_) ?_ mdl.symm
        · have := hrs.ap hv hu hvu (ev.trans e1.symm)
          rw [ev] at this
          exact m_nN i (by omega) this
        · unfold fX2_isFreeFor
          rw [a1, m_bind, e2, if_neg (m_nN u (by omega)), if_pos rfl]
      · have cn : ¬ nI i = X0.2.2 0 6 o := fun ev => by
          have := hrs.ap hu ho c (e1.trans ev)
          rw [e1] at this
          exact m_nN i (by omega) this
        rw [if_neg cn, nI_1] at mdl
        obtain ⟨b, X', m', p1, p2, p3⟩ := ih (i + 1) fu fv best least X m (by omega) (by omega) (by omega) hb ht
        refine ⟨b, X', m', ?_, mdl.trans p2, p3⟩
        have hf0 : fX2_isFreeFor N (nI o) (nI i) (X0.2.2 0) = some 0 := by
          unfold fX2_isFreeFor
          rw [a1, m_bind, e2, if_neg (m_nN u (by omega)), if_neg (fun q => c (m_nI_inj (by omega) (by omega) q))]
        rw [cls, hf0, m_bind, if_pos m_00]
        exact p1
theorem c_bestPlace (h : RG B X m) (hB : B + 5000 < 2 ^ 30) (hN : 13000 ≤ N) (hN2 : N < 2 ^ 31) (x y : Int32) : ∃ o X' b m', fX4_bestPlace N x y X = some (o, X') ∧ fX5_bestPlace N x y m = some (b, m') ∧ RG (B + 5000) X' m' ∧ ((o = .inl b ∧ m' 0 0 = 0) ∨ (o = .inr 3 ∧ m' 0 0 = 1)) := by
  obtain ⟨ht, ⟨n, P, T, J, hrs, hT⟩, hme, hsl⟩ := id h
  have h16 := hrs.n16
  have hP4 := hrs.P40
  unfold fX4_bestPlace fX5_bestPlace
  rcases m_cs x (n := n) (by omega) with ⟨o, ho, rfl⟩ | ⟨hx, -⟩
  · rcases m_cs y (n := n) (by omega) with ⟨q, hq, rfl⟩ | ⟨hy, -⟩
    · rw [m_hasY hrs.gn h16 ho, m_bind, if_neg m_1_0, m_hasY hrs.gn h16 hq, m_bind, if_neg m_1_0, m_ioY hrs.sn h16 ho, m_bind, if_neg m_1_0, m_ioY hrs.sn h16 hq, m_bind, if_neg m_1_0, m_lt, m_kd, if_pos m_z0, m_part (p := 5) (k := 5) (r := 6) rfl rfl (by omega) (by decide), m_bind, m_kd1 m 0 (by decide), hrs.or ho (by decide) (by decide) trivial]
      obtain ⟨u, u1, u2⟩ := m_copyC (N := N) hrs (by omega) hN2 (X.2.2 1)
      have hu := u2 (s'' := m 1) hrs (fun _ _ => rfl)
      rw [u1, m_bind, m_lt]
      have h0 : RG B X (z_u2 m 0 0 0) := h.kd 0
      have hrs0 : RS m_Al n P T J (X.2.2 0) (z_u2 m 0 0 0 1) := by rw [m_kd1 m 0 (by decide)]; exact hrs
      obtain ⟨b, X', m', p1, p2, p3⟩ := m_bpL (N := N) h0 hrs0 (by omega) hN hN2 ho (nI q) P 0 N N (-1) 0 (X.1, X.2.1, z_u3 X.2.2 1 u) (z_u2 m 0 0 0) (by omega) (by omega) (by omega) ⟨rfl, rfl, fun k hk => m_u3n _ _ (by omega), fun _ _ => rfl, fun _ _ => rfl, fun _ _ => rfl⟩ (fun v p hp hv hf => by
        dsimp only
        rw [m_u3s, m_kd1 m 0 (by decide)]
        refine hu.part ho (by decide) (by decide) (m_Vd6 (Or.inr ⟨p, hp, hv⟩)) (fun _ => Or.inr fun w hw hwo => ?_)
        have e1 := hu.or hw (r := 6) (by decide) (by decide) trivial
        have e2 := hrs.or hw (r := 6) (by decide) (by decide) trivial
        rw [← e1, e2]
        exact hf w hw hwo)
      obtain ⟨q1, q2, q3, q4, q5, q6⟩ := p3
      refine ⟨.inl b, X', b, m', p1, p2, RG.mono (h0.tk q1 q2 q3 q4 ⟨q5 5 (by decide), q5 6 (by decide), q5 7 (by decide), q5 8 (by decide)⟩ ⟨q6 1 (by decide), q6 2 (by decide)⟩) (by omega), Or.inl ⟨rfl, ?_⟩⟩
      rw [q6 0 (by decide), m_kd]
    · refine ⟨.inr 3, X, 0, z_u2 m 0 0 1, ?_, ?_, (h.kd 1).mono (by omega), Or.inr ⟨rfl, m_kd m 1⟩⟩
      · rw [m_hasY hrs.gn h16 ho, m_bind, if_neg m_1_0, m_hasN hrs.gn hy, m_bind, if_pos m_00]
      · rw [m_ioY hrs.sn h16 ho, m_bind, if_neg m_1_0, m_ioN hrs.sn h16 hy, m_bind, if_pos m_00, m_lt, m_kd, if_neg m_n1]
  · refine ⟨.inr 3, X, 0, z_u2 m 0 0 1, ?_, ?_, (h.kd 1).mono (by omega), Or.inr ⟨rfl, m_kd m 1⟩⟩
    · rw [m_hasN hrs.gn hx, m_bind, if_pos m_00]
    · rw [m_ioN hrs.sn h16 hx, m_bind, if_pos m_00, m_lt, m_kd, if_neg m_n1]
end MR20
end
section
/-! leastBribe -/
section MR21
variable {N B : Nat} {X : z_X} {m : z_R}
def m_E0 : Nat → Prop := fun r => r ≠ 6 ∧ r ≠ 7 ∧ r ≠ 8 ∧ r ≠ 10 ∧ r ≠ 11
theorem RS.tr {E' : Nat → Prop} {n P T J : Nat} {g' gh : z_R} {s' s : Nat → Int32} (h' : RS E' n P T J g' s') (h : RS m_E0 n P T J gh s) (hq : ∀ q, q ≠ 6 → q ≠ 7 → q ≠ 8 → q ≠ 10 → q ≠ 11 → g' q = gh q) : RS m_E0 n P T J g' s := by
  have e0 := hq 0 (by decide) (by decide) (by decide) (by decide) (by decide)
  refine ⟨h'.1, h'.2.1, h.2.2.1, fun e => by rw [e0]; exact h.2.2.2.1 e, fun e => h.sJ e, fun i hi => ⟨fun e => absurd rfl e.2.2.2.1, fun e => absurd rfl e.2.2.2.2⟩, fun o r ho h1 h9 => ⟨fun e => ?_, h'.vd ho h1 h9⟩, h'.2.2.2.2.2.2.2.1, h'.2.2.2.2.2.2.2.2.1, fun e i hi => ?_, h'.2.2.2.2.2.2.2.2.2.2⟩
  · rw [hq r e.1 e.2.1 e.2.2.1 e.2.2.2.1 e.2.2.2.2]
    exact h.or ho h1 h9 e
  · rw [hq 13 (by decide) (by decide) (by decide) (by decide) (by decide), hq 14 (by decide) (by decide) (by decide) (by decide) (by decide), hq 15 (by decide) (by decide) (by decide) (by decide) (by decide)]
    exact h.ju e hi
theorem m_lbr {n P T J o : Nat} {X0 : z_X} {m0 : z_R} (h16 : n ≤ 16) (hN : 13000 ≤ N) (ho : o < n) : ∀ (k b fu fv : Nat) (X : z_X) (m : z_R), b + k = 100 → k < fu → k + 1 < fv → m_BI B X0 m0 X m → (∀ j, j < 925 → m 2 j = m0 1 j) → (∀ w, w ≤ 99 → RS m_E0 n P T J (z_u2 (X.2.2 1) 5 o (nI w)) (upd (m0 1) (12 + 9 * o + 5) (nI w))) → ∃ r X' m', lX4_leastBribe_34 N (nI o) fu (nI b) X = some (.inl r, X') ∧ lX5_leastBribe_43 N (nI o) fv (-1) (nI b) m = some (r, m') ∧ m_BI B X0 m0 X' m' := by
  intro k
  induction k with
  | zero =>
    intro b fu fv X m hi hfu hfv hb h2 ht
    obtain ⟨fu, rfl⟩ : ∃ q, fu = q + 1 := ⟨fu - 1, by omega⟩
    obtain ⟨fv, rfl⟩ : ∃ q, fv = q + 1 := ⟨fv - 1, by omega⟩
    have e : b = 100 := by omega
    subst e
    exact ⟨-1, X, m, by rw [lX4_leastBribe_34.eq_2, if_pos (by decide)], by rw [lX5_leastBribe_43.eq_2, if_pos (by decide)], hb⟩
  | succ k ih =>
    intro b fu fv X m hi hfu hfv hb h2 ht
    obtain ⟨fu, rfl⟩ : ∃ q, fu = q + 1 := ⟨fu - 1, by omega⟩
    obtain ⟨fv, rfl⟩ : ∃ q, fv = q + 2 := ⟨fv - 2, by omega⟩
    obtain ⟨b1, b2, b3, b4, b5, b6⟩ := id hb
    have ht1 : RS m_E0 n P T J (z_u2 (X.2.2 1) 5 o (nI b)) (upd (m 1) (12 + 9 * o + 5) (nI b)) := (ht b (by omega)).ag (fun q hq => by
      by_cases c : q = 12 + 9 * o + 5
      · subst c; rw [m_us, m_us]
      · rw [m_un _ _ c, m_un _ _ c]; exact b4 q hq)
    have E1 : m_E0 1 := ⟨by decide, by decide, by decide, by decide, by decide⟩
    have E2 : m_E0 2 := ⟨by decide, by decide, by decide, by decide, by decide⟩
    have E3 : m_E0 3 := ⟨by decide, by decide, by decide, by decide, by decide⟩
    have E5 : m_E0 5 := ⟨by decide, by decide, by decide, by decide, by decide⟩
    obtain ⟨g', s', sum, l1, l2, l3, l4⟩ := m_lay0 (N := N) (m := m) ht1 ⟨E1, E2, E3, E5⟩ (fun e => absurd rfl e.2.2.2.2) (by omega)
    have hd : s' (12 + 9 * o + 7) = g' 7 o := l3.or ho (by decide) (by decide) (Or.inr (Or.inr rfl))
    have s1 : fX5_setPart N (nI o) 4 (nI b) m = some (z_uR m 1 (upd (m 1) (12 + 9 * o + 5) (nI b))) := by
      have q := m_setP (N := N) (m := m) (s := m 1) (j := o) (v := nI b) (p := 4) (k := 4) (r := 5) rfl rfl (by omega) (by decide)
      rw [m_self] at q
      exact q
    -- behind the laying: the reference's state as it was
    obtain ⟨m3, hm3⟩ : ∃ m3, m3 = z_uR (z_uR m 1 s') 1 (m_cp (m 2) 0 s' 0 925) := ⟨_, rfl⟩
    have hb' : m_BI B X0 m0 (X.1, X.2.1, z_u3 (z_u3 X.2.2 1 (z_u2 (X.2.2 1) 5 o (nI b))) 1 g') m3 := by
      refine ⟨b1, b2, fun k hk => ?_, fun k hk => ?_, fun r hr => ?_, fun k hk => ?_⟩
      · dsimp only
        rw [m_u3n _ _ (by omega), m_u3n _ _ (by omega)]
        exact b3 k hk
      · rw [hm3, m_same, m_cp0 _ _ hk]
        exact h2 k hk
      · rw [hm3, m_other _ _ (by omega), m_other _ _ (by omega)]
        exact b5 r hr
      · rw [hm3, m_other _ _ (by decide), m_other _ _ (by decide)]
        exact b6 k hk
    have cls : lX4_leastBribe_34 N (nI o) (fu + 1) (nI b) X = (if g' 7 o = 0 then some (.inl (nI b), (X.1, X.2.1, z_u3 (z_u3 X.2.2 1 (z_u2 (X.2.2 1) 5 o (nI b))) 1 g')) else lX4_leastBribe_34 N (nI o) fu (nI (b + 1)) (X.1, X.2.1, z_u3 (z_u3 X.2.2 1 (z_u2 (X.2.2 1) 5 o (nI b))) 1 g')) := by
      rw [lX4_leastBribe_34.eq_2, if_neg (m_nlt99 (by omega)), m_in (show o < 16 by omega) (by decide), m_ckt, m_clamp (by omega), m_lt]
      (try dsimp only)
      rw [m_u3s, l1, m_b2, m_lt, m_ckt]
      simp only [m_u3s, nI_1]
    have mdl : lX5_leastBribe_43 N (nI o) (fv + 2) (-1) (nI b) m = (if g' 7 o = 0 then lX5_leastBribe_43 N (nI o) (fv + 1) (nI b) (nI (b + 1)) m3 else lX5_leastBribe_43 N (nI o) (fv + 1) (-1) (nI (b + 1)) m3) := by
      rw [lX5_leastBribe_43.eq_2, if_neg (m_nlt99 (by omega)), if_pos rfl, s1, m_bind, l2, m_b2, m_part (p := 6) (k := 6) (r := 7) rfl rfl (by omega) (by decide), m_bind, m_same, hd, m_other _ _ (by decide : (2 : Nat) ≠ 1), m_copy0 hN, m_bind, m_lt, m_bind, m_lt, nI_1, ← hm3]
    rw [cls, mdl]
    by_cases c : g' 7 o = 0
    · rw [if_pos c, if_pos c]
      refine ⟨nI b, _, m3, rfl, ?_, hb'⟩
      rw [lX5_leastBribe_43.eq_2]
      by_cases c9 : (99 : Int32) < nI (b + 1)
      · rw [if_pos c9]
      · rw [if_neg c9, if_neg (m_nN b (by omega))]
    · rw [if_neg c, if_neg c]
      refine ih (b + 1) fu (fv + 1) _ m3 (by omega) (by omega) (by omega) hb' (fun j hj => by rw [hm3, m_other _ _ (by decide), m_other _ _ (by decide)]; exact h2 j hj) (fun w hw => ?_)
      dsimp only
      rw [m_u3s]
      have t1 : RS m_E0 n P T J g' (upd (m0 1) (12 + 9 * o + 5) (nI b)) := l3.tr (ht b (by omega)) l4
      have t2 := t1.part (j := o) (r := 5) (v := nI w) ho (by decide) (by decide) (by
        refine ⟨?_, ?_, ?_, fun _ => ⟨w, hw, rfl⟩, ?_⟩ <;> intro e <;> omega) (fun e => by omega)
      rw [m_uu] at t2
      exact t2
theorem c_leastBribe (h : RG B X m) (hN : 13000 ≤ N) (hN2 : N < 2 ^ 31) (x : Int32) : ∃ o X' b m', fX4_leastBribe N x X = some (o, X') ∧ fX5_leastBribe N x m = some (b, m') ∧ RG (B + 5000) X' m' ∧ ((o = .inl b ∧ m' 0 0 = 0) ∨ (o = .inr 3 ∧ m' 0 0 = 1)) := by
  obtain ⟨ht, ⟨n, P, T, J, hrs, hT⟩, hme, hsl⟩ := id h
  have h16 := hrs.n16
  unfold fX4_leastBribe fX5_leastBribe
  rcases m_cs x (n := n) (by omega) with ⟨o, ho, rfl⟩ | ⟨hx, -⟩
  · obtain ⟨u, u1, u2⟩ := m_copyC (N := N) hrs (by omega) hN2 (X.2.2 1)
    have hu : RS m_E0 n P T J u (m 1) := (u2 (s'' := m 1) hrs (fun _ _ => rfl)).mo (fun _ _ => trivial)
    have h0 : RG B X (z_u2 m 0 0 0) := h.kd 0
    rw [m_hasY hrs.gn h16 ho, m_bind, if_neg m_1_0, u1, m_bind, m_lt, m_ioY hrs.sn h16 ho, m_bind, if_neg m_1_0, m_lt, m_kd, if_pos m_z0, m_kd1 m 0 (by decide : (1 : Nat) ≠ 0), m_kd1 m 0 (by decide : (2 : Nat) ≠ 0), m_copy0 hN, m_bind, m_lt]
    obtain ⟨r, X', m', p1, p2, p3⟩ := m_lbr (N := N) (B := B) (X0 := X) (m0 := z_u2 m 0 0 0) (P := P) (T := T) (J := J) h16 hN ho 100 0 N N (X.1, X.2.1, z_u3 X.2.2 1 u) (z_uR (z_u2 m 0 0 0) 2 (m_cp (m 1) 0 (m 2) 0 925)) (by omega) (by omega) (by omega) ⟨rfl, rfl, fun k hk => m_u3n _ _ (by omega), fun k hk => by rw [m_other _ _ (by decide)], fun r hr => by rw [m_other _ _ (by omega)], fun k hk => by rw [m_other _ _ (by decide)]⟩ (fun j hj => by rw [m_same, m_cp0 _ _ hj, m_kd1 m 0 (by decide)]) (fun w hw => by
      dsimp only
      rw [m_u3s, m_kd1 m 0 (by decide)]
      exact hu.part ho (by decide) (by decide) (by
        refine ⟨?_, ?_, ?_, fun _ => ⟨w, hw, rfl⟩, ?_⟩ <;> intro e <;> omega) (fun e => by omega))
    obtain ⟨q1, q2, q3, q4, q5, q6⟩ := p3
    refine ⟨.inl r, X', r, m', p1, p2, RG.mono (h0.tk q1 q2 q3 q4 ⟨q5 5 (by decide), q5 6 (by decide), q5 7 (by decide), q5 8 (by decide)⟩ ⟨q6 1 (by decide), q6 2 (by decide)⟩) (by omega), Or.inl ⟨rfl, ?_⟩⟩
    rw [q6 0 (by decide), m_kd]
  · refine ⟨.inr 3, X, 0, z_u2 m 0 0 1, ?_, ?_, (h.kd 1).mono (by omega), Or.inr ⟨rfl, m_kd m 1⟩⟩
    · rw [m_hasN hrs.gn hx, m_bind, if_pos m_00]
    · rw [m_ioN hrs.sn h16 hx, m_bind, if_pos m_00, m_lt, m_kd, if_neg m_n1]
end MR21
end
section
/-! the relation at the start -/
theorem m_RG0 : RG 0 z_X0 z_m0 := by
  refine ⟨⟨0, by decide, rfl, rfl, fun i hi => absurd hi (Nat.not_lt_zero _)⟩, ⟨0, 12, 0, 0, ⟨⟨by decide, by decide, by decide, by decide⟩, ⟨rfl, rfl, rfl, rfl⟩, ⟨rfl, rfl⟩, fun _ => ⟨rfl, rfl⟩, fun _ => rfl, fun i hi => ?_, fun o r ho => absurd ho (Nat.not_lt_zero _), fun o q ho => absurd ho (Nat.not_lt_zero _), fun o _ _ => rfl, fun _ i hi => absurd hi (Nat.not_lt_zero _), fun i hi => absurd hi (Nat.not_lt_zero _), fun i k _ hk => absurd hk (Nat.not_lt_zero _)⟩, by decide⟩, ⟨0, 0, by decide, by decide, rfl, rfl, rfl, fun j hj => absurd hj (Nat.not_lt_zero _)⟩, fun i hi => Or.inl ⟨rfl, rfl⟩⟩
  have hc : i = 0 ∨ i = 1 ∨ i = 2 ∨ i = 3 := by omega
  rcases hc with e | e | e | e <;> subst e <;> exact ⟨fun _ => rfl, fun _ => rfl⟩
end
section
/-! the class without its throws: its functions out of those with them -/
def z_nt {α : Type} (x : Option ((Int32 ⊕ Nat) × α)) : Option (Int32 × α) := x.bind fun y => z_sm y.1 (fun r => some (r, y.2)) (fun _ => none)
section NT
variable {α β γ : Type}
theorem nt_if {c : Prop} [Decidable c] (x y : Option ((Int32 ⊕ Nat) × α)) : z_nt (if c then x else y) = if c then z_nt x else z_nt y := by
  by_cases h : c
  · rw [if_pos h, if_pos h]
  · rw [if_neg h, if_neg h]
theorem nt_bind (x : Option β) (f : β → Option ((Int32 ⊕ Nat) × α)) : z_nt (x.bind f) = x.bind fun y => z_nt (f y) := by
  cases x <;> rfl
theorem nt_b2 (x : Option (β × γ)) (f : β → γ → Option ((Int32 ⊕ Nat) × α)) : z_nt (z_b2 x f) = z_b2 x fun a b => z_nt (f a b) := by
  cases x <;> rfl
theorem nt_lt (x : β) (f : β → Option ((Int32 ⊕ Nat) × α)) : z_nt (z_lt x f) = z_lt x fun y => z_nt (f y) := rfl
theorem nt_ck (b : Bool) (x : Option ((Int32 ⊕ Nat) × α)) : z_nt (z_ck b x) = z_ck b (z_nt x) := by
  cases b <;> rfl
theorem nt_l (r : Int32) (X : α) : z_nt (some (.inl r, X)) = some (r, X) := rfl
theorem nt_r (k : Nat) (X : α) : z_nt (some (.inr k, X)) = none := rfl
end NT
section NTX
variable {N : Nat} {X : z_X}
theorem n_setDrum (p : Int32) : nX4_setDrum N p X = z_nt (fX4_setDrum N p X) := by
  unfold nX4_setDrum fX4_setDrum
  simp only [nt_if, nt_bind, nt_b2, nt_lt, nt_ck, nt_l, nt_r]
theorem n_addOrder (a w x e b : Int32) : nX4_addOrder N a w x e b X = z_nt (fX4_addOrder N a w x e b X) := by
  unfold nX4_addOrder fX4_addOrder
  simp only [nt_if, nt_bind, nt_b2, nt_lt, nt_ck, nt_l, nt_r]
theorem n_change (x w v : Int32) : nX4_change N x w v X = z_nt (fX4_change N x w v X) := by
  unfold nX4_change fX4_change
  simp only [nt_if, nt_bind, nt_b2, nt_lt, nt_ck, nt_l, nt_r]
theorem n_run (x : Int32) : nX4_run N x X = z_nt (fX4_run N x X) := by
  unfold nX4_run fX4_run
  simp only [nt_if, nt_bind, nt_b2, nt_lt, nt_ck, nt_l, nt_r]
theorem n_turn (x : Int32) : nX4_turn N x X = z_nt (fX4_turn N x X) := by
  unfold nX4_turn fX4_turn
  simp only [nt_if, nt_bind, nt_b2, nt_lt, nt_ck, nt_l, nt_r]
theorem n_time (x : Int32) : nX4_time N x X = z_nt (fX4_time N x X) := by
  unfold nX4_time fX4_time
  simp only [nt_if, nt_bind, nt_b2, nt_lt, nt_ck, nt_l, nt_r]
theorem n_saves (x : Int32) : nX4_saves N x X = z_nt (fX4_saves N x X) := by
  unfold nX4_saves fX4_saves
  simp only [nt_if, nt_bind, nt_b2, nt_lt, nt_ck, nt_l, nt_r]
theorem n_bpL (x1 x2 : Int32) : ∀ (fu : Nat) (a b c : Int32) (X : z_X), nlX4_bestPlace_51 N x1 x2 fu a b c X = z_nt (lX4_bestPlace_51 N x1 x2 fu a b c X) := by
  intro fu
  induction fu with
  | zero => intro a b c X; rfl
  | succ fu ih =>
    intro a b c X
    rw [nlX4_bestPlace_51.eq_2, lX4_bestPlace_51.eq_2]
    simp only [nt_if, nt_bind, nt_b2, nt_lt, nt_ck, nt_l, nt_r, ih]
theorem n_bestPlace (x y : Int32) : nX4_bestPlace N x y X = z_nt (fX4_bestPlace N x y X) := by
  unfold nX4_bestPlace fX4_bestPlace
  simp only [nt_if, nt_bind, nt_b2, nt_lt, nt_ck, nt_l, nt_r, n_bpL]
theorem n_lbL (x1 : Int32) : ∀ (fu : Nat) (a : Int32) (X : z_X), nlX4_leastBribe_34 N x1 fu a X = z_nt (lX4_leastBribe_34 N x1 fu a X) := by
  intro fu
  induction fu with
  | zero => intro a X; rfl
  | succ fu ih =>
    intro a X
    rw [nlX4_leastBribe_34.eq_2, lX4_leastBribe_34.eq_2]
    simp only [nt_if, nt_bind, nt_b2, nt_lt, nt_ck, nt_l, nt_r, ih]
theorem n_leastBribe (x : Int32) : nX4_leastBribe N x X = z_nt (fX4_leastBribe N x X) := by
  unfold nX4_leastBribe fX4_leastBribe
  simp only [nt_if, nt_bind, nt_b2, nt_lt, nt_ck, nt_l, nt_r, n_lbL]
end NTX
/-! the law's rows beside the class's state -/
theorem q_i0 (k : Nat) : (9 : Int32) * nI k = nI (9 * k) := pk_mul 9 k
theorem q_ix (k w : Nat) : (9 : Int32) * nI k + nI w = nI (9 * k + w) := by rw [q_i0, nI_add]
theorem q_i1 (k : Nat) : (9 : Int32) * nI k + (1 : Int32) = nI (9 * k + 1) := q_ix k 1
theorem q_i2 (k : Nat) : (9 : Int32) * nI k + (2 : Int32) = nI (9 * k + 2) := q_ix k 2
theorem q_i3 (k : Nat) : (9 : Int32) * nI k + (3 : Int32) = nI (9 * k + 3) := q_ix k 3
theorem q_i4 (k : Nat) : (9 : Int32) * nI k + (4 : Int32) = nI (9 * k + 4) := q_ix k 4
theorem q_i5 (k : Nat) : (9 : Int32) * nI k + (5 : Int32) = nI (9 * k + 5) := q_ix k 5
theorem q_i6 (k : Nat) : (9 : Int32) * nI k + (6 : Int32) = nI (9 * k + 6) := q_ix k 6
theorem q_i7 (k : Nat) : (9 : Int32) * nI k + (7 : Int32) = nI (9 * k + 7) := q_ix k 7
theorem q_i8 (k : Nat) : (9 : Int32) * nI k + (8 : Int32) = nI (9 * k + 8) := q_ix k 8
theorem q_ge6 {o : Nat} (h : o < 6) : ¬ (6 : Int32) ≤ nI o := nI_ge (b := 6) h (by decide)
theorem q_lt5 {o : Nat} (h : o < 6) : ¬ (5 : Int32) < nI o := nI_nlt (b := o) (a := 5) (by omega) (by decide)
theorem q_t11 : ((11 : Int32)).toNatClampNeg = 11 := by decide
theorem q_n1 : (-1 : Int32) < 0 := by decide
/-- the law's numbers of the orders, the accounts, the drum: those of the class's state; the end apart -/
def QO (g v : z_R) : Prop := v 0 0 = g 0 0 ∧ v 0 1 = g 0 2 ∧ (∀ a, a < 4 → v 0 (3 + a) = g 10 a ∧ v 0 (7 + a) = g 11 a) ∧ (∀ o w, o < 6 → w < 9 → v 1 (9 * o + w) = g (w + 1) o)
/-- where the orders lead to -/
def QN (g : z_R) : Prop := ∀ o, o < 6 → g 3 o = -1 ∨ ∃ k, k < 8 ∧ g 3 o = nI k
/-- the jumps, at most c times each -/
def QJ (c : Nat) (g v : z_R) : Prop := v 0 11 = g 0 4 ∧ ∃ J, J ≤ 256 ∧ g 0 4 = nI J ∧ (∀ i, i < J → ∃ x y k, x < 6 ∧ y < 8 ∧ 1 ≤ k ∧ k ≤ c ∧ g 13 i = nI x ∧ g 14 i = nI y ∧ g 15 i = nI k ∧ v 2 (8 * x + y) = nI k) ∧ (∀ i k, i < k → k < J → ¬ (g 13 i = g 13 k ∧ g 14 i = g 14 k)) ∧ (∀ x y, x < 6 → y < 8 → (∀ i, i < J → ¬ (g 13 i = nI x ∧ g 14 i = nI y)) → v 2 (8 * x + y) = 0)
section Q1
variable {E : Nat → Prop} {N n P T J : Nat} {g v : z_R} {s : Nat → Int32}
theorem QO.eP (h : QO g v) : v 0 0 = g 0 0 := h.1
theorem QO.eT (h : QO g v) : v 0 1 = g 0 2 := h.2.1
theorem QO.pd (h : QO g v) {a : Nat} (ha : a < 4) : v 0 (3 + a) = g 10 a := (h.2.2.1 a ha).1
theorem QO.rf (h : QO g v) {a : Nat} (ha : a < 4) : v 0 (7 + a) = g 11 a := (h.2.2.1 a ha).2
theorem QO.or (h : QO g v) {o : Nat} (w : Nat) (ho : o < 6) (hw : w < 9) : v 1 (9 * o + w) = g (w + 1) o := h.2.2.2 o w ho hw
theorem QO.o0 (h : QO g v) {o : Nat} (ho : o < 6) : v 1 (9 * o) = g 1 o := h.or 0 ho (by decide)
/-- one number of an order is put, on both sides -/
theorem QO.set (h : QO g v) {o w : Nat} (x : Int32) (ho : o < 6) (hw : w < 9) : QO (z_u2 g (w + 1) o x) (z_u2 v 1 (9 * o + w) x) := by
  refine ⟨?_, ?_, fun a ha => ⟨?_, ?_⟩, fun q u hq hu => ?_⟩
  · rw [m_u2n _ _ _ (by decide), m_u2n _ _ _ (by omega)]; exact h.eP
  · rw [m_u2n _ _ _ (by decide), m_u2n _ _ _ (by omega)]; exact h.eT
  · rw [m_u2n _ _ _ (by decide), m_u2n _ _ _ (by omega)]; exact h.pd ha
  · rw [m_u2n _ _ _ (by decide), m_u2n _ _ _ (by omega)]; exact h.rf ha
  · rw [m_u2s]
    by_cases c : q = o ∧ u = w
    · obtain ⟨c1, c2⟩ := c
      subst c1 c2
      rw [m_us, m_u2s, m_us]
    · rw [m_un _ _ (show 9 * q + u ≠ 9 * o + w by omega), h.or u hq hu]
      by_cases cw : u = w
      · subst cw
        have cq : q ≠ o := fun e => c ⟨e, rfl⟩
        rw [m_u2s, m_un _ _ cq]
      · rw [m_u2n _ _ _ (show u + 1 ≠ w + 1 by omega)]
/-- the tick moves -/
theorem QO.tk (h : QO g v) (x : Int32) : QO (z_u2 g 0 2 x) (z_u2 v 0 1 x) := by
  refine ⟨?_, ?_, fun a ha => ⟨?_, ?_⟩, fun q u hq hu => ?_⟩
  · rw [m_u2s, m_un _ _ (by decide), m_u2s, m_un _ _ (by decide)]; exact h.eP
  · rw [m_u2s, m_us, m_u2s, m_us]
  · rw [m_u2s, m_un _ _ (by omega), m_u2n _ _ _ (by decide)]; exact h.pd ha
  · rw [m_u2s, m_un _ _ (by omega), m_u2n _ _ _ (by decide)]; exact h.rf ha
  · rw [m_u2n _ _ _ (by decide), m_u2n _ _ _ (by omega)]; exact h.or u hq hu
/-- the class's end, and what of the law's row is not spoken of -/
theorem QO.en (h : QO g v) (x : Int32) : QO (z_u2 g 0 3 x) v := by
  refine ⟨?_, ?_, fun a ha => ⟨?_, ?_⟩, fun q u hq hu => ?_⟩
  · rw [m_u2s, m_un _ _ (by decide)]; exact h.eP
  · rw [m_u2s, m_un _ _ (by decide)]; exact h.eT
  · rw [m_u2n _ _ _ (by decide)]; exact h.pd ha
  · rw [m_u2n _ _ _ (by decide)]; exact h.rf ha
  · rw [m_u2n _ _ _ (by omega)]; exact h.or u hq hu
theorem QO.q2 (h : QO g v) {k : Nat} (hk : k = 2 ∨ k = 11) (x : Int32) : QO g (z_u2 v 0 k x) := by
  refine ⟨?_, ?_, fun a ha => ⟨?_, ?_⟩, fun q u hq hu => ?_⟩
  · rw [m_u2s, m_un _ _ (by omega)]; exact h.eP
  · rw [m_u2s, m_un _ _ (by omega)]; exact h.eT
  · rw [m_u2s, m_un _ _ (by omega)]; exact h.pd ha
  · rw [m_u2s, m_un _ _ (by omega)]; exact h.rf ha
  · rw [m_u2n _ _ _ (by decide)]; exact h.or u hq hu
theorem QO.j (h : QO g v) (k : Nat) (x : Int32) : QO g (z_u2 v 2 k x) := by
  refine ⟨?_, ?_, fun a ha => ⟨?_, ?_⟩, fun q u hq hu => ?_⟩
  · rw [m_u2n _ _ _ (by decide)]; exact h.eP
  · rw [m_u2n _ _ _ (by decide)]; exact h.eT
  · rw [m_u2n _ _ _ (by decide)]; exact h.pd ha
  · rw [m_u2n _ _ _ (by decide)]; exact h.rf ha
  · rw [m_u2n _ _ _ (by decide)]; exact h.or u hq hu
/-- what the class's jumps hold is not spoken of -/
theorem QO.gj {g' : z_R} (h : QO g v) (h0 : ∀ k, k ≠ 4 → g' 0 k = g 0 k) (hr : ∀ r, 1 ≤ r → r ≤ 12 → g' r = g r) : QO g' v := by
  refine ⟨?_, ?_, fun a ha => ⟨?_, ?_⟩, fun q u hq hu => ?_⟩
  · rw [h0 0 (by decide)]; exact h.eP
  · rw [h0 2 (by decide)]; exact h.eT
  · rw [hr 10 (by decide) (by decide)]; exact h.pd ha
  · rw [hr 11 (by decide) (by decide)]; exact h.rf ha
  · rw [hr (u + 1) (by omega) (by omega)]; exact h.or u hq hu
/-- the accounts: paid, refunded -/
theorem QO.pay (h : QO g v) {a : Nat} (ha : a < 4) (x : Int32) : QO (z_u2 g 10 a x) (z_u2 v 0 (3 + a) x) := by
  refine ⟨?_, ?_, fun b hb => ⟨?_, ?_⟩, fun q u hq hu => ?_⟩
  · rw [m_u2s, m_un _ _ (by omega), m_u2n _ _ _ (by decide)]; exact h.eP
  · rw [m_u2s, m_un _ _ (by omega), m_u2n _ _ _ (by decide)]; exact h.eT
  · rw [m_u2s, m_u2s]
    by_cases c : b = a
    · subst c; rw [m_us, m_us]
    · rw [m_un _ _ (show 3 + b ≠ 3 + a by omega), m_un _ _ c]; exact h.pd hb
  · rw [m_u2s, m_un _ _ (by omega), m_u2n _ _ _ (by decide)]; exact h.rf hb
  · rw [m_u2n _ _ _ (by decide), m_u2n _ _ _ (by omega)]; exact h.or u hq hu
theorem QO.ref (h : QO g v) {a : Nat} (ha : a < 4) (x : Int32) : QO (z_u2 g 11 a x) (z_u2 v 0 (7 + a) x) := by
  refine ⟨?_, ?_, fun b hb => ⟨?_, ?_⟩, fun q u hq hu => ?_⟩
  · rw [m_u2s, m_un _ _ (by omega), m_u2n _ _ _ (by decide)]; exact h.eP
  · rw [m_u2s, m_un _ _ (by omega), m_u2n _ _ _ (by decide)]; exact h.eT
  · rw [m_u2s, m_un _ _ (by omega), m_u2n _ _ _ (by decide)]; exact h.pd hb
  · rw [m_u2s, m_u2s]
    by_cases c : b = a
    · subst c; rw [m_us, m_us]
    · rw [m_un _ _ (show 7 + b ≠ 7 + a by omega), m_un _ _ c]; exact h.rf hb
  · rw [m_u2n _ _ _ (by decide), m_u2n _ _ _ (by omega)]; exact h.or u hq hu
/-- a refund: the law's, and the class's -/
theorem q_refund (h : QO g v) {o a : Nat} (ho : o < 6) (ha : g 1 o = nI a) (ha4 : a < 4) : ∃ v', fL_refund N (nI o) v = some v' ∧ QO (z_u2 (z_u2 g 11 a (g 11 a + g 8 o)) 8 o 0) v' ∧ v' 2 = v 2 ∧ v' 0 11 = v 0 11 ∧ v' 0 2 = v 0 2 := by
  have h1 := (h.ref ha4 (g 11 a + g 8 o)).set (o := o) (w := 7) 0 ho (by decide)
  refine ⟨z_u2 (z_u2 v 0 (7 + a) (g 11 a + g 8 o)) 1 (9 * o + 7) 0, ?_, h1, ?_, ?_, ?_⟩
  · unfold fL_refund
    rw [q_i7, q_i0, m_in (show 9 * o < 54 by omega) (by decide), m_ckt, m_clamp (by omega), h.o0 ho, ha, show (7 : Int32) + nI a = nI (7 + a) from nI_add 7 a, m_in (show 7 + a < 12 by omega) (by decide), m_ckt, m_in (show 9 * o + 7 < 54 by omega) (by decide), m_ckt, m_ckt, m_clamp (show 7 + a < 2 ^ 31 by omega), m_clamp (show 9 * o + 7 < 2 ^ 31 by omega), h.rf ha4, h.or 7 ho (by decide), m_lt, m_ckt, m_lt]
  · rw [m_u2n _ _ _ (by decide), m_u2n _ _ _ (by decide)]
  · rw [m_u2n _ _ _ (by decide), m_u2s, m_un _ _ (by omega)]
  · rw [m_u2n _ _ _ (by decide), m_u2s, m_un _ _ (by omega)]
/-- which order stands on a place: the same walk on both sides -/
theorem q_atL (h : QO g v) (hn : g 0 1 = nI 6) (p : Int32) : ∀ (k i fu fv : Nat), i + k = 6 → k < fu → k < fv → lL_at_2 N p v fu (nI i) = lX2_orderOn_2 N p g fv (nI i) := by
  intro k
  induction k with
  | zero =>
    intro i fu fv hi hfu hfv
    obtain ⟨fu, rfl⟩ : ∃ q, fu = q + 1 := ⟨fu - 1, by omega⟩
    obtain ⟨fv, rfl⟩ : ∃ q, fv = q + 1 := ⟨fv - 1, by omega⟩
    have e : i = 6 := by omega
    subst e
    rw [lL_at_2.eq_2, if_pos (show (6 : Int32) ≤ nI 6 by decide), lX2_orderOn_2.eq_2, if_neg (m_ge16 (by omega)), m_hasN hn (Or.inr (nI_le (Nat.le_refl 6) (by omega))), m_bind, if_pos m_00]
  | succ k ih =>
    intro i fu fv hi hfu hfv
    obtain ⟨fu, rfl⟩ : ∃ q, fu = q + 1 := ⟨fu - 1, by omega⟩
    obtain ⟨fv, rfl⟩ : ∃ q, fv = q + 1 := ⟨fv - 1, by omega⟩
    rw [lL_at_2.eq_2, if_neg (q_ge6 (by omega)), q_i5, m_in (by omega) (by decide), m_ckt, m_clamp (by omega), h.or 5 (by omega) (by decide), lX2_orderOn_2.eq_2, if_neg (m_ge16 (by omega)), m_hasY hn (by decide) (by omega), m_bind, if_neg m_1_0, m_in (by omega) (by decide), m_ckt, m_clamp (by omega), nI_1]
    by_cases c : g 6 i = p
    · rw [if_pos c, if_pos c]
    · rw [if_neg c, if_neg c]
      exact ih (i + 1) fu fv (by omega) (by omega) (by omega)
theorem q_at (h : QO g v) (hn : g 0 1 = nI 6) (hN : 17 ≤ N) (p : Int32) : fL_at N p v = fX2_orderOn N p g := q_atL h hn p 6 0 N N (by omega) (by omega) (by omega)
end Q1
end
section
/-! where the law wants an order: what the class wants -/
theorem q_subI {a b : Nat} (ha : a < 2 ^ 30) (hb : b < 2 ^ 30) : (nI a - nI b).toInt = (a : Int) - (b : Int) := by
  rw [Int32.toInt_sub, nI_toInt (by omega), nI_toInt (by omega)]
  exact Int.bmod_eq_of_le (by omega) (by omega)
theorem q_subL {a b : Nat} (ha : a < 2 ^ 30) (hb : b < 2 ^ 30) (h : a < b) : nI a - nI b < 0 := by
  rw [m_lt0, q_subI ha hb]
  omega
theorem q_subA {a b c : Nat} (ha : a + c < 2 ^ 30) (hb : b < 2 ^ 30) : nI a - nI b + nI c = nI (a + c) - nI b := by
  apply Int32.toInt_inj.mp
  rw [Int32.toInt_add, q_subI (by omega) hb, q_subI ha hb, nI_toInt (by omega)]
  rw [Int.bmod_eq_of_le (by omega) (by omega)]
  omega
theorem q_sub2 {a b : Nat} (ha : a < 2 ^ 29) (hb : b < 2 ^ 29) : nI a - 1 - nI b = nI a - nI (1 + b) := by
  apply Int32.toInt_inj.mp
  rw [show (1 : Int32) = nI 1 from rfl, Int32.toInt_sub, q_subI (by omega) (by omega), q_subI (by omega) (by omega), nI_toInt (by omega)]
  rw [Int.bmod_eq_of_le (by omega) (by omega)]
  omega
theorem q_md {a b t P : Nat} (h0 : 0 < P) (h : b ≤ a + t * P) : (a + t * P - b) % P = (a + P - b % P) % P := by
  have e := Nat.div_add_mod b P
  have hc := Nat.mod_lt b h0
  obtain ⟨d, hd⟩ : ∃ d, d = b / P := ⟨_, rfl⟩
  obtain ⟨c, hc2⟩ : ∃ c, c = b % P := ⟨_, rfl⟩
  rw [← hd, ← hc2, Nat.mul_comm] at e
  rw [← hc2] at hc ⊢
  by_cases ht : d + 1 ≤ t
  · obtain ⟨k, rfl⟩ : ∃ k, t = d + 1 + k := ⟨t - (d + 1), by omega⟩
    have q : (d + 1 + k) * P = d * P + P + k * P := by rw [Nat.add_mul, Nat.add_mul, Nat.one_mul]
    rw [show a + (d + 1 + k) * P - b = a + P - c + k * P by rw [q]; omega, Nat.add_mul_mod_self_right]
  · obtain ⟨k, rfl⟩ : ∃ k, d = t + k := ⟨d - t, by omega⟩
    have q : (t + k) * P = t * P + k * P := Nat.add_mul t k P
    rw [q] at e
    have q2 : (k + 1) * P = k * P + P := by rw [Nat.add_mul, Nat.one_mul]
    rw [show a + P - c = (a + t * P - b) + (k + 1) * P by rw [q2]; omega, Nat.add_mul_mod_self_right]
section Q2
variable {E : Nat → Prop} {N n P T J : Nat} {g v : z_R} {s : Nat → Int32}
theorem q_w133P (hP : v 0 0 = nI P) (h0 : 0 < P) (hP4 : P ≤ 40) {a fu : Nat} (ha : a < 2 ^ 29) : lL_wanted_133 N v (fu + 1) (nI a) = some (nI (a % P)) := by
  rw [lL_wanted_133.eq_2, if_pos (m_le0.mpr (m_neg (by omega))), m_t0, hP, m_nz h0 (by omega), m_ckt, pk_rem (by omega) h0 (by omega)]
theorem q_w133 (hP : v 0 0 = nI P) (h0 : 0 < P) (hP4 : P ≤ 40) {b : Nat} (hb : b < 2 ^ 20) : ∀ (j a fu : Nat), b ≤ a + j * P → a + j * P < 2 ^ 20 → j < fu → ∃ t, b ≤ a + t * P ∧ lL_wanted_133 N v fu (nI a - nI b) = some (nI ((a + t * P - b) % P)) := by
  intro j
  induction j with
  | zero =>
    intro a fu h1 h2 hfu
    obtain ⟨fu, rfl⟩ : ∃ q, fu = q + 1 := ⟨fu - 1, by omega⟩
    refine ⟨0, h1, ?_⟩
    rw [Nat.zero_mul] at h1 h2 ⊢
    rw [Nat.add_zero] at h1 h2
    rw [pk_sub h1, q_w133P hP h0 hP4 (by omega)]
    rfl
  | succ j ih =>
    intro a fu h1 h2 hfu
    obtain ⟨fu, rfl⟩ : ∃ q, fu = q + 1 := ⟨fu - 1, by omega⟩
    by_cases c : b ≤ a
    · refine ⟨0, by omega, ?_⟩
      rw [Nat.zero_mul, pk_sub c, q_w133P hP h0 hP4 (by omega)]
      rfl
    · have e : (j + 1) * P = j * P + P := by rw [Nat.add_mul, Nat.one_mul]
      rw [e] at h1 h2
      rw [lL_wanted_133.eq_2, if_neg (fun q => (m_le0.mp q) (q_subL (by omega) (by omega) (by omega))), m_t0, hP, q_subA (by omega) (by omega)]
      obtain ⟨t, t1, t2⟩ := ih (a + P) fu (by omega) (by omega) (by omega)
      refine ⟨t + 1, ?_, ?_⟩
      · rw [Nat.add_mul, Nat.one_mul]; omega
      · rw [t2, show a + (t + 1) * P - b = a + P + t * P - b by rw [Nat.add_mul, Nat.one_mul]; omega]
theorem q_w61f (x : Int32) : ∀ (k i fu : Nat) (y : Int32), i + k = 6 → k < fu → lL_wanted_61 N x v fu y 1 (nI i) = lL_wanted_133 N v N y := by
  intro k
  induction k with
  | zero =>
    intro i fu y hi hfu
    obtain ⟨fu, rfl⟩ : ∃ q, fu = q + 1 := ⟨fu - 1, by omega⟩
    have e : i = 6 := by omega
    subst e
    rw [lL_wanted_61.eq_2, if_pos (show (6 : Int32) ≤ nI 6 by decide)]
  | succ k ih =>
    intro i fu y hi hfu
    obtain ⟨fu, rfl⟩ : ∃ q, fu = q + 1 := ⟨fu - 1, by omega⟩
    rw [lL_wanted_61.eq_2, if_neg (q_ge6 (by omega)), if_neg m_1_0, nI_1]
    exact ih (i + 1) fu y (by omega) (by omega)
theorem q_w61 (h : RS E 6 P T J g s) (q : QO g v) (x : Int32) : ∀ (k i fu : Nat) (y : Int32), i + k = 6 → k < fu → ((∀ u, i ≤ u → u < 6 → ¬ (g 6 u ≠ -1 ∧ g 3 u = x)) ∧ lL_wanted_61 N x v fu y 0 (nI i) = lL_wanted_133 N v N y) ∨ ∃ u, i ≤ u ∧ u < 6 ∧ g 6 u ≠ -1 ∧ g 3 u = x ∧ (∀ w, i ≤ w → w < u → ¬ (g 6 w ≠ -1 ∧ g 3 w = x)) ∧ lL_wanted_61 N x v fu y 0 (nI i) = lL_wanted_133 N v N ((g 6 u + 1) + g 2 u) := by
  have hP4 := h.P40
  intro k
  induction k with
  | zero =>
    intro i fu y hi hfu
    obtain ⟨fu, rfl⟩ : ∃ q, fu = q + 1 := ⟨fu - 1, by omega⟩
    have e : i = 6 := by omega
    subst e
    exact Or.inl ⟨fun u h1 h2 => by omega, by rw [lL_wanted_61.eq_2, if_pos (show (6 : Int32) ≤ nI 6 by decide)]⟩
  | succ k ih =>
    intro i fu y hi hfu
    obtain ⟨fu, rfl⟩ : ∃ q, fu = q + 1 := ⟨fu - 1, by omega⟩
    have hi6 : i < 6 := by omega
    have step : lL_wanted_61 N x v (fu + 1) y 0 (nI i) = (if g 6 i < 0 then lL_wanted_61 N x v fu y 0 (nI (i + 1)) else if g 3 i = x then lL_wanted_61 N x v fu ((g 6 i + 1) + g 2 i) 1 (nI (i + 1)) else lL_wanted_61 N x v fu y 0 (nI (i + 1))) := by
      rw [lL_wanted_61.eq_2, if_neg (q_ge6 hi6), if_pos m_00, q_i5, q_i2, q_i1, m_in (show 9 * i + 5 < 54 by omega) (by decide), m_ckt, m_in (show 9 * i + 2 < 54 by omega) (by decide), m_ckt, m_ckt, m_in (show 9 * i + 1 < 54 by omega) (by decide), m_ckt, m_clamp (show 9 * i + 5 < 2 ^ 31 by omega), m_clamp (show 9 * i + 2 < 2 ^ 31 by omega), m_clamp (show 9 * i + 1 < 2 ^ 31 by omega), q.or 5 hi6 (by decide), q.or 2 hi6 (by decide), q.or 1 hi6 (by decide), nI_1]
    rcases h.pl hi6 with h6 | ⟨p, hp, h6⟩
    · rw [step, if_pos (by rw [h6]; decide)]
      rcases ih (i + 1) fu y (by omega) (by omega) with ⟨a, b⟩ | ⟨u, a1, a2, a3, a4, a5, b⟩
      · refine Or.inl ⟨fun u h1 h2 => ?_, b⟩
        by_cases e : u = i
        · subst e; exact fun h => h.1 h6
        · exact a u (by omega) h2
      · refine Or.inr ⟨u, by omega, a2, a3, a4, fun w h1 h2 => ?_, b⟩
        by_cases e : w = i
        · subst e; exact fun h => h.1 h6
        · exact a5 w (by omega) h2
    · have h6n : g 6 i ≠ -1 := by rw [h6]; exact m_nN p (by omega)
      rw [step, if_neg (by rw [h6]; exact m_neg (by omega))]
      by_cases h3 : g 3 i = x
      · rw [if_pos h3, q_w61f x k (i + 1) fu _ (by omega) (by omega)]
        exact Or.inr ⟨i, Nat.le_refl i, hi6, h6n, h3, fun w h1 h2 => by omega, rfl⟩
      · rw [if_neg h3]
        rcases ih (i + 1) fu y (by omega) (by omega) with ⟨a, b⟩ | ⟨u, a1, a2, a3, a4, a5, b⟩
        · refine Or.inl ⟨fun u h1 h2 => ?_, b⟩
          by_cases e : u = i
          · subst e; exact fun h => h3 h.2
          · exact a u (by omega) h2
        · refine Or.inr ⟨u, by omega, a2, a3, a4, fun w h1 h2 => ?_, b⟩
          by_cases e : w = i
          · subst e; exact fun h => h3 h.2
          · exact a5 w (by omega) h2
/-- where nobody before leads to o -/
theorem q_wN (h : RS E 6 P T J g s) (q : QO g v) (hN : 17 ≤ N) {o : Nat} (ho : o < 6) : ∃ y, fL_wanted N (nI o) v = lL_wanted_61 N (nI o) v N y 0 0 ∧ lL_wanted_133 N v N y = (z_ck (z_in (nI o) 16) <| (fX2_isOnDrum N (g 3 (nI o).toNatClampNeg) g).bind fun r12 => (if r12 = 0 then some ((0 : Int32)) else z_ck (z_in (nI o) 16) <| z_ck (z_in (g 3 (nI o).toNatClampNeg) 16) <| z_ck (z_in (nI o) 16) <| (fX2_around N (((g 6 (g 3 (nI o).toNatClampNeg).toNatClampNeg) - (1 : Int32)) - (g 2 (nI o).toNatClampNeg)) g).bind fun r17 => some (r17))) := by
  have hP6 := h.P6
  have hP4 := h.P40
  have hvP : v 0 0 = nI P := q.eP.trans h.gP
  obtain ⟨fu, hfu⟩ : ∃ fu, N = fu + 1 := ⟨N - 1, by omega⟩
  have z : lL_wanted_133 N v N 0 = some 0 := by
    have e := q_w133P (N := N) (fu := fu) hvP (by omega) hP4 (a := 0) (by omega)
    rw [Nat.zero_mod, ← hfu] at e
    exact e
  rw [m_in (show o < 16 by omega) (by decide), m_ckt, m_ckt, m_ckt, m_clamp (by omega)]
  have st : fL_wanted N (nI o) v = (if g 3 o < 0 then jL_wanted_52 N (nI o) v else if (6 : Int32) ≤ g 3 o then jL_wanted_52 N (nI o) v else z_ck (z_in ((9 : Int32) * g 3 o + (5 : Int32)) 54) (if v 1 ((9 : Int32) * g 3 o + (5 : Int32)).toNatClampNeg < 0 then jL_wanted_52 N (nI o) v else z_ck (z_in ((9 : Int32) * g 3 o + (5 : Int32)) 54) (lL_wanted_61 N (nI o) v N ((v 1 ((9 : Int32) * g 3 o + (5 : Int32)).toNatClampNeg - 1) - g 2 o) 0 0))) := by
    unfold fL_wanted
    rw [q_i2, q_i1, m_in (show 9 * o + 2 < 54 by omega) (by decide), m_ckt, m_in (show 9 * o + 1 < 54 by omega) (by decide), m_ckt, m_clamp (show 9 * o + 2 < 2 ^ 31 by omega), m_clamp (show 9 * o + 1 < 2 ^ 31 by omega), q.or 2 ho (by decide), q.or 1 ho (by decide)]
  have j52 : jL_wanted_52 N (nI o) v = lL_wanted_61 N (nI o) v N 0 0 0 := rfl
  rw [j52] at st
  rcases h.ne ho with e3 | ⟨k, hk, e3⟩
  · refine ⟨0, by rw [st, if_pos (by rw [e3]; decide)], ?_⟩
    rw [z, e3]
    unfold fX2_isOnDrum
    rw [m_hasN h.gn (Or.inl (by decide)), m_bind, if_pos m_00, m_bind, if_pos m_00]
  · rw [e3, if_neg (m_neg (by omega))] at st
    by_cases c6 : 6 ≤ k
    · rw [if_pos (show (6 : Int32) ≤ nI k from nI_le (a := 6) c6 (by omega))] at st
      refine ⟨0, st, ?_⟩
      rw [z, e3]
      unfold fX2_isOnDrum
      rw [m_hasN h.gn (Or.inr (nI_le c6 (by omega))), m_bind, if_pos m_00, m_bind, if_pos m_00]
    · have hk6 : k < 6 := by omega
      rw [if_neg (q_ge6 hk6), q_i5, m_in (show 9 * k + 5 < 54 by omega) (by decide), m_ckt, m_ckt, m_clamp (by omega), q.or 5 hk6 (by decide)] at st
      have hon : fX2_isOnDrum N (nI k) g = (if g 6 k = -1 then some 0 else some 1) := by
        unfold fX2_isOnDrum
        rw [m_hasY h.gn (by decide) hk6, m_bind, if_neg m_1_0, m_in (by omega) (by decide), m_ckt, m_clamp (by omega)]
      rw [e3, hon, m_in (show k < 16 by omega) (by decide), m_ckt, m_clamp (show k < 2 ^ 31 by omega)]
      rcases h.pl hk6 with h6 | ⟨p, hp, h6⟩
      · refine ⟨0, by rw [st, if_pos (by rw [show g (5 + 1) k = g 6 k from rfl, h6]; decide)], ?_⟩
        rw [z, if_pos h6, m_bind, if_pos m_00]
      · have h6n : ¬ g 6 k = -1 := by rw [h6]; exact m_nN p (by omega)
        obtain ⟨wo, w1, w9, we⟩ := h.wo ho
        rw [show g (5 + 1) k = g 6 k from rfl, h6, if_neg (m_neg (by omega)), we, q_sub2 (by omega) (by omega)] at st
        refine ⟨nI p - nI (1 + wo), st, ?_⟩
        obtain ⟨t, t1, t2⟩ := q_w133 (N := N) (v := v) hvP (show 0 < P by omega) hP4 (b := 1 + wo) (by omega) 2 p N (by omega) (by omega) (by omega)
        rw [t2, if_neg h6n, m_bind, if_neg m_1_0, h6, we, q_sub2 (by omega) (by omega), m_aroundD h.gP (by omega) (by omega) (by omega) (by omega), m_bind, q_md (by omega) t1]
theorem q_wanted (h : RS E 6 P T J g s) (q : QO g v) (hN : 17 ≤ N) {o : Nat} (ho : o < 6) : fL_wanted N (nI o) v = fX2_wantedPlace N (nI o) g := by
  have hP6 := h.P6
  have hP4 := h.P40
  have hvP : v 0 0 = nI P := q.eP.trans h.gP
  obtain ⟨y, y1, y2⟩ := q_wN (N := N) h q hN ho
  unfold fX2_wantedPlace
  rw [y1]
  obtain ⟨KK, hKK⟩ : ∃ KK : Unit → Option Int32, KK = (fun _ : Unit => z_ck (z_in (nI o) 16) <| (fX2_isOnDrum N (g 3 (nI o).toNatClampNeg) g).bind fun r12 => (if r12 = 0 then some ((0 : Int32)) else z_ck (z_in (nI o) 16) <| z_ck (z_in (g 3 (nI o).toNatClampNeg) 16) <| z_ck (z_in (nI o) 16) <| (fX2_around N (((g 6 (g 3 (nI o).toNatClampNeg).toNatClampNeg) - (1 : Int32)) - (g 2 (nI o).toNatClampNeg)) g).bind fun r17 => some (r17))) := ⟨_, rfl⟩
  have y3 : lL_wanted_133 N v N y = KK () := by rw [hKK]; exact y2
  rw [← hKK]
  have a := q_w61 (N := N) h q (nI o) 6 0 N y (by omega) (by omega)
  have b := m_wC (N := N) h.gn (by decide) (nI o) KK 6 0 N (by omega) (by omega)
  rw [show (0 : Int32) = nI 0 from rfl]
  rcases a with ⟨a1, a2⟩ | ⟨u, a1, a2, a3, a4, a5, a6⟩ <;> rcases b with ⟨b1, b2⟩ | ⟨w, b1, b2, b3, b4, b5, b6⟩
  · rw [show lL_wanted_61 N (nI o) v N y (nI 0) (nI 0) = _ from a2, b2, y3]
  · exact absurd ⟨b3, b4⟩ (a1 w b1 b2)
  · exact absurd ⟨a3, a4⟩ (b1 u a1 a2)
  · have e : u = w := by
      rcases Nat.lt_trichotomy u w with c | c | c
      · exact absurd ⟨a3, a4⟩ (b5 u (by omega) c)
      · exact c
      · exact absurd ⟨b3, b4⟩ (a5 w (by omega) c)
    subst e
    obtain ⟨wo, w1, w9, we⟩ := h.wo a2
    obtain ⟨p, hp, h6⟩ := (h.pl a2).resolve_left a3
    obtain ⟨fu, hfu⟩ : ∃ fu, N = fu + 1 := ⟨N - 1, by omega⟩
    rw [show lL_wanted_61 N (nI o) v N y (nI 0) (nI 0) = _ from a6, b6, h6, we, show (1 : Int32) = nI 1 from rfl, nI_add, nI_add, m_aroundP h.gP (by omega) (by omega) (by omega)]
    have e := q_w133P (N := N) (fu := fu) hvP (by omega) hP4 (a := p + 1 + wo) (by omega)
    rw [← hfu] at e
    exact e
end Q2
end
section
/-! laying: the law's choice is the class's next -/
theorem q_cntA (f : Nat → Nat) (pos : Nat) : ∀ n, (∀ o, o < n → f o < pos) → m_cnt f pos n = n := by
  intro n
  induction n with
  | zero => intro _; rfl
  | succ n ih =>
    intro h
    show m_cnt f pos n + (if f n < pos then 1 else 0) = n + 1
    rw [ih (fun o ho => h o (by omega)), if_pos (h n (by omega))]
theorem q_cntX (f : Nat → Nat) {pos q o : Nat} (hq : f o = q) (hp : pos ≤ q) : ∀ n, (∀ u, u < n → pos ≤ f u → f u ≤ q → u = o) → m_cnt f (q + 1) n = m_cnt f pos n + (if o < n then 1 else 0) := by
  intro n
  induction n with
  | zero => intro _; rw [if_neg (by omega)]; rfl
  | succ n ih =>
    intro h
    show m_cnt f (q + 1) n + (if f n < q + 1 then 1 else 0) = m_cnt f pos n + (if f n < pos then 1 else 0) + (if o < n + 1 then 1 else 0)
    rw [ih (fun u hu => h u (by omega))]
    by_cases c : n = o
    · subst c
      rw [if_neg (show ¬ n < n by omega), if_pos (show f n < q + 1 by omega), if_neg (show ¬ f n < pos by omega), if_pos (show n < n + 1 by omega)]
    · have h1 : f n < q + 1 ↔ f n < pos := ⟨fun h2 => Nat.lt_of_not_le fun h3 => c (h n (by omega) h3 (by omega)), fun h2 => by omega⟩
      by_cases c2 : f n < pos
      · rw [if_pos c2, if_pos (h1.mpr c2)]
        by_cases c3 : o < n
        · rw [if_pos c3, if_pos (by omega)]
        · rw [if_neg c3, if_neg (by omega)]
      · rw [if_neg c2, if_neg (fun h2 => c2 (h1.mp h2))]
        by_cases c3 : o < n
        · rw [if_pos c3, if_pos (by omega)]
        · rw [if_neg c3, if_neg (by omega)]
theorem q_cnt0 (f : Nat → Nat) : ∀ n, m_cnt f 0 n = 0 := by
  intro n
  induction n with
  | zero => rfl
  | succ n ih =>
    show m_cnt f 0 n + (if f n < 0 then 1 else 0) = 0
    rw [ih, if_neg (by omega)]
section Q3
variable {E : Nat → Prop} {N n P T J : Nat} {g v : z_R} {s d : Nat → Int32}
theorem q_keyI (h : RS E 6 P T J g s) {o u : Nat} (ho : o < 6) (hu : u < 6) (e : m_key (g 5) o = m_key (g 5) u) : o = u := by
  obtain ⟨a, -, -, a3⟩ := h.key ho
  obtain ⟨b, -, -, b3⟩ := h.key hu
  omega
theorem q_NxU (h : RS E 6 P T J g s) {pos : Nat} {r q : Int32} (h1 : m_Nx 6 (g 5) pos r) (h2 : m_Nx 6 (g 5) pos q) : r = q := by
  rcases h1 with ⟨e1, a1⟩ | ⟨o, o1, o2, o3, o4⟩ <;> rcases h2 with ⟨e2, a2⟩ | ⟨u, u1, u2, u3, u4⟩
  · rw [e1, e2]
  · have := a1 u u1; omega
  · have := a2 o o1; omega
  · have b1 := o4 u u1 u3
    have b2 := u4 o o1 o3
    rw [o2, u2, q_keyI h o1 u1 (by omega)]
/-- the law's choice -/
theorem q_sel (h : RS E 6 P T J g s) (q : QO g v) {pos : Nat} (hd : ∀ o, o < 6 → d o = if m_key (g 5) o < pos then 1 else 0) (x2 x4 : Int32) (kk : Int32 → Option (Int32 × z_R)) : ∀ (k i fu : Nat) (r : Int32), i + k = 6 → k < fu → m_Nx i (g 5) pos r → ∃ r', m_Nx 6 (g 5) pos r' ∧ lL_lay_67 N x2 x4 (v, d) kk fu r (nI i) = kk r' := by
  intro k
  induction k with
  | zero =>
    intro i fu r hi hfu hr
    obtain ⟨fu, rfl⟩ : ∃ q, fu = q + 1 := ⟨fu - 1, by omega⟩
    have e : i = 6 := by omega
    subst e
    exact ⟨r, hr, by rw [lL_lay_67.eq_2, if_pos (show (6 : Int32) ≤ nI 6 by decide)]⟩
  | succ k ih =>
    intro i fu r hi hfu hr
    obtain ⟨fu, rfl⟩ : ∃ q, fu = q + 1 := ⟨fu - 1, by omega⟩
    have hi6 : i < 6 := by omega
    have st := m_nx1 (f := g 5) (pos := pos) (i := i) (by omega) (fun o ho => by obtain ⟨b, h1, h2, -⟩ := h.key (o := o) (by omega); exact ⟨b, h1, h2⟩) hr
    have hd6 := hd i hi6
    rw [lL_lay_67.eq_2, if_neg (q_ge6 hi6), m_in (show i < 6 from hi6) (by decide), m_ckt, m_clamp (show i < 2 ^ 31 by omega), nI_1]
    have e2 : ((v, d) : z_V).2 i = d i := rfl
    rw [e2, hd6]
    by_cases c : m_key (g 5) i < pos
    · rw [if_pos c, if_neg m_1_0]
      exact ih (i + 1) fu r (by omega) (by omega) (st.1 c)
    · rw [if_neg c, if_pos m_00]
      have st2 := st.2 (by omega)
      have hrc : r = -1 ∨ ∃ q, q < i ∧ r = nI q := by
        rcases hr with ⟨e, -⟩ | ⟨o, ho, e, -, -⟩
        · exact Or.inl e
        · exact Or.inr ⟨o, ho, e⟩
      rcases hrc with e | ⟨u, hu, e⟩
      · rw [if_pos (by rw [e]; decide)]
        exact ih (i + 1) fu (nI i) (by omega) (by omega) (st2.1 e)
      · have su := st2.2 u hu e
        rw [e, if_neg (m_neg (by omega)), q_i4, q_i4, m_in (show 9 * i + 4 < 54 by omega) (by decide), m_ckt, m_in (show 9 * u + 4 < 54 by omega) (by decide), m_ckt, m_clamp (show 9 * i + 4 < 2 ^ 31 by omega), m_clamp (show 9 * u + 4 < 2 ^ 31 by omega)]
        have e3 : ((v, d) : z_V).1 1 (9 * i + 4) = g 5 i := q.or 4 hi6 (by decide)
        have e4 : ((v, d) : z_V).1 1 (9 * u + 4) = g 5 u := q.or 4 (show u < 6 by omega) (by decide)
        rw [e3, e4]
        by_cases c2 : g 5 i ≤ g 5 u
        · rw [if_pos c2, ← e]
          exact ih (i + 1) fu r (by omega) (by omega) (su.1 c2)
        · rw [if_neg c2]
          exact ih (i + 1) fu (nI i) (by omega) (by omega) (su.2 c2)
/-- the search of a free place -/
theorem q_dl (h : RS E 6 P T J g s) (q : QO g v) (hN : 17 ≤ N) {o w a : Nat} (ho : o < 6) (hw : w < P) (ha : g 1 o = nI a) (ha4 : a < 4) (x2 x4 x5 : Int32) (kk : Int32 → Option (Int32 × z_R)) : ∀ (k f fu fv : Nat), f + k = P → k < fu → k < fv → ∃ f', f' ≤ P ∧ lL_lay_134 N x2 x4 x5 (nI w) (v, d) kk fu (nI f) = kk (nI f') ∧ ((f' = P ∧ lX2_layOne_8 N (nI o) (nI w) g fv (nI f) = some g) ∨ (f' < P ∧ (∀ q, q < 6 → g 6 q ≠ nI ((w + f') % P)) ∧ lX2_layOne_8 N (nI o) (nI w) g fv (nI f) = some (z_u2 (z_u2 (z_u2 (z_u2 g 6 o (nI ((w + f') % P))) 7 o (nI f')) 8 o (g 5 o)) 10 a (g 10 a + g 5 o)))) := by
  have hP6 := h.P6
  have hP4 := h.P40
  have hvP : ((v, d) : z_V).1 0 ((0 : Int32)).toNatClampNeg = nI P := by rw [m_t0]; exact q.eP.trans h.gP
  intro k
  induction k with
  | zero =>
    intro f fu fv hf hfu hfv
    obtain ⟨fu, rfl⟩ : ∃ q, fu = q + 1 := ⟨fu - 1, by omega⟩
    obtain ⟨fv, rfl⟩ : ∃ q, fv = q + 1 := ⟨fv - 1, by omega⟩
    have e : f = P := by omega
    subst e
    refine ⟨f, Nat.le_refl f, ?_, Or.inl ⟨rfl, ?_⟩⟩
    · rw [lL_lay_134.eq_2, hvP, if_pos (nI_le (Nat.le_refl f) (by omega))]
    · rw [lX2_layOne_8.eq_2, h.gP, if_pos (nI_le (Nat.le_refl f) (by omega))]
  | succ k ih =>
    intro f fu fv hf hfu hfv
    obtain ⟨fu, rfl⟩ : ∃ q, fu = q + 1 := ⟨fu - 1, by omega⟩
    obtain ⟨fv, rfl⟩ : ∃ q, fv = q + 1 := ⟨fv - 1, by omega⟩
    have hlt := Nat.mod_lt (w + f) (show 0 < P by omega)
    obtain ⟨r, a1, a3⟩ := m_orderOn (N := N) (g := g) (n := 6) h.gn (by decide) hN (nI ((w + f) % P))
    have a2 : fL_at N (nI ((w + f) % P)) ((v, d) : z_V).1 = some r := by rw [← a1]; exact q_at q h.gn hN _
    rw [lL_lay_134.eq_2, hvP, if_neg (nI_ge (by omega) (by omega)), m_nz (by omega) (by omega), m_ckt, nI_add, pk_rem (by omega) (by omega) (by omega), a2, m_bind]
    rw [lX2_layOne_8.eq_2, h.gP, if_neg (nI_ge (by omega) (by omega)), nI_add, m_aroundP h.gP (by omega) (by omega) (by omega), m_bind, a1, m_bind]
    rcases a3 with ⟨e, hfree⟩ | ⟨q1, hq, e1, e2⟩
    · rw [if_pos (show r < 0 by rw [e]; decide), if_pos e]
      refine ⟨f, by omega, rfl, Or.inr ⟨by omega, hfree, ?_⟩⟩
      rw [m_in (show o < 16 by omega) (by decide), m_ckt, m_clamp (by omega), m_lt, m_ckt, m_lt, m_ckt, m_ckt, m_lt, m_ckt]
      rw [m_u2n _ o _ (by decide : (1 : Nat) ≠ 8), m_u2n _ o _ (by decide : (1 : Nat) ≠ 7), m_u2n _ o _ (by decide : (1 : Nat) ≠ 6), ha, m_auY ha4, m_bind, if_neg m_1_0, m_ckt, m_in ha4 (by decide), m_ckt, m_ckt, m_ckt, m_lt, m_clamp (by omega)]
      rw [m_u2n _ o _ (by decide : (5 : Nat) ≠ 7), m_u2n _ o _ (by decide : (5 : Nat) ≠ 6), m_u2n _ o _ (by decide : (10 : Nat) ≠ 8), m_u2n _ o _ (by decide : (10 : Nat) ≠ 7), m_u2n _ o _ (by decide : (10 : Nat) ≠ 6), m_u2n _ o _ (by decide : (5 : Nat) ≠ 8), m_u2n _ o _ (by decide : (5 : Nat) ≠ 7), m_u2n _ o _ (by decide : (5 : Nat) ≠ 6)]
    · have en : ¬ r = -1 := by rw [e2]; exact m_nN q1 (by omega)
      rw [if_neg (show ¬ r < 0 by rw [e2]; exact m_neg (by omega)), if_neg en, nI_1]
      exact ih (f + 1) fu fv (by omega) (by omega) (by omega)
/-- all orders are taken off -/
theorem q_takeL (x2 : Int32) : ∀ (k i fu fv : Nat) (g g' v : z_R), i + k = 6 → k < fu → k < fv → g 0 1 = nI 6 → (∀ o, o < 6 → ∃ a, a < 4 ∧ g 1 o = nI a) → QO g v → lX2_takeAllOff_2 N fv (nI i) g = some g' → ∃ v', lL_lay_10 N x2 fu (nI i) (v, d) = lL_lay_54 N N x2 0 (v', d) ∧ QO g' v' ∧ v' 2 = v 2 ∧ v' 0 11 = v 0 11 ∧ v' 0 2 = v 0 2 := by
  intro k
  induction k with
  | zero =>
    intro i fu fv g g' v hi hfu hfv hn hau q hg
    obtain ⟨fu, rfl⟩ : ∃ q, fu = q + 1 := ⟨fu - 1, by omega⟩
    obtain ⟨fv, rfl⟩ : ∃ q, fv = q + 1 := ⟨fv - 1, by omega⟩
    have e : i = 6 := by omega
    subst e
    rw [lX2_takeAllOff_2.eq_2, if_neg (m_ge16 (by omega)), m_hasN hn (Or.inr (nI_le (Nat.le_refl 6) (by omega))), m_bind, if_pos m_00] at hg
    cases hg
    exact ⟨v, by rw [lL_lay_10.eq_2, if_pos (show (6 : Int32) ≤ nI 6 by decide)], q, rfl, rfl, rfl⟩
  | succ k ih =>
    intro i fu fv g g' v hi hfu hfv hn hau q hg
    obtain ⟨fu, rfl⟩ : ∃ q, fu = q + 1 := ⟨fu - 1, by omega⟩
    obtain ⟨fv, rfl⟩ : ∃ q, fv = q + 1 := ⟨fv - 1, by omega⟩
    have hi6 : i < 6 := by omega
    obtain ⟨a, ha4, ha⟩ := hau i hi6
    obtain ⟨v1, w1, w2, w3, w4, w5⟩ := q_refund (N := N) q hi6 ha ha4
    have w6 := (w2.set (o := i) (w := 5) (-1) hi6 (by decide)).set (o := i) (w := 6) (-1) hi6 (by decide)
    rw [lX2_takeAllOff_2.eq_2, if_neg (m_ge16 (by omega)), m_hasY hn (by decide) hi6, m_bind, if_neg m_1_0] at hg
    have hput : fX2_put N (nI i) (-1) g = some (g 8 i, z_u2 (z_u2 (z_u2 (z_u2 g 11 a (g 11 a + g 8 i)) 8 i 0) 6 i (-1)) 7 i (-1)) := by
      unfold fX2_put
      rw [m_refC (by omega) ha ha4, m_b2, m_in (show i < 16 by omega) (by decide), m_ckt, m_clamp (by omega), m_lt, m_ckt, m_lt]
    rw [hput, m_b2, nI_1] at hg
    obtain ⟨v', b1, b2, b3, b4, b5⟩ := ih (i + 1) fu fv _ g' _ (by omega) (by omega) (by omega) (by rw [m_u2n _ _ _ (by decide), m_u2n _ _ _ (by decide), m_u2n _ _ _ (by decide), m_u2n _ _ _ (by decide)]; exact hn) (fun o ho => by
      obtain ⟨b, hb, hb2⟩ := hau o ho
      exact ⟨b, hb, by rw [m_u2n _ _ _ (by decide), m_u2n _ _ _ (by decide), m_u2n _ _ _ (by decide), m_u2n _ _ _ (by decide)]; exact hb2⟩) w6 hg
    refine ⟨v', ?_, b2, ?_, ?_, ?_⟩
    · rw [lL_lay_10.eq_2, if_neg (q_ge6 hi6), show ((v, d) : z_V).1 = v from rfl, w1, m_bind, m_lt, q_i5, q_i6, m_in (show 9 * i + 5 < 54 by omega) (by decide), m_ckt, m_in (show 9 * i + 6 < 54 by omega) (by decide), m_clamp (show 9 * i + 5 < 2 ^ 31 by omega), m_clamp (show 9 * i + 6 < 2 ^ 31 by omega), m_lt, m_ckt, m_lt, nI_1]
      exact b1
    · rw [b3, m_u2n _ _ _ (by decide), m_u2n _ _ _ (by decide), w3]
    · rw [b4, m_u2n _ _ _ (by decide), m_u2n _ _ _ (by decide), w4]
    · rw [b5, m_u2n _ _ _ (by decide), m_u2n _ _ _ (by decide), w5]
/-- the rounds -/
theorem q_layL (hN : 50 ≤ N) (hE : E 1 ∧ E 2 ∧ E 3 ∧ E 5 ∧ E 6) : ∀ (k i fu fv pos : Nat) (sum r sum' : Int32) (g g' v : z_R) (s d : Nat → Int32), i + k = 6 → k < fu → k < fv → RS E 6 P T J g s → QO g v → m_Nx 6 (g 5) pos r → (∀ o, o < 6 → d o = if m_key (g 5) o < pos then 1 else 0) → m_cnt (m_key (g 5)) pos 6 = i → (∀ o, o < 6 → pos ≤ m_key (g 5) o → g 7 o = -1) → lX2_layAll_14 N fv sum r (nI i) g = some (sum', g') → ∃ v', lL_lay_54 N fu sum (nI i) (v, d) = some (sum', v') ∧ QO g' v' ∧ v' 2 = v 2 ∧ v' 0 11 = v 0 11 ∧ v' 0 2 = v 0 2 := by
  intro k
  induction k with
  | zero =>
    intro i fu fv pos sum r sum' g g' v s d hi hfu hfv h q hr hd hc h7 hg
    obtain ⟨fu, rfl⟩ : ∃ q, fu = q + 1 := ⟨fu - 1, by omega⟩
    obtain ⟨fv, rfl⟩ : ∃ q, fv = q + 1 := ⟨fv - 1, by omega⟩
    have e : i = 6 := by omega
    subst e
    have er : r = -1 := by
      rcases hr with ⟨e, -⟩ | ⟨o, ho, -, h3, -⟩
      · exact e
      · have := m_cnt_lt (m_key (g 5)) pos o h3 6 ho
        omega
    rw [lX2_layAll_14.eq_2, if_neg (m_ge16 (by omega)), er, m_hasN h.gn (Or.inl (by decide)), m_bind, if_pos m_00] at hg
    cases hg
    exact ⟨v, by rw [lL_lay_54.eq_2, if_pos (show (6 : Int32) ≤ nI 6 by decide)], q, rfl, rfl, rfl⟩
  | succ k ih =>
    intro i fu fv pos sum r sum' g g' v s d hi hfu hfv h q hr hd hc h7 hg
    obtain ⟨fu, rfl⟩ : ∃ q, fu = q + 1 := ⟨fu - 1, by omega⟩
    obtain ⟨fv, rfl⟩ : ∃ q, fv = q + 1 := ⟨fv - 1, by omega⟩
    have hP6 := h.P6
    have hP4 := h.P40
    have hi6 : i < 6 := by omega
    obtain ⟨o, ho, er, ok, omin⟩ : ∃ o, o < 6 ∧ r = nI o ∧ pos ≤ m_key (g 5) o ∧ ∀ u, u < 6 → pos ≤ m_key (g 5) u → m_key (g 5) o ≤ m_key (g 5) u := by
      rcases hr with ⟨-, a⟩ | a
      · have := q_cntA (m_key (g 5)) pos 6 a
        omega
      · exact a
    have hr0 := hr
    subst er
    obtain ⟨a, ha4, ha⟩ := h.au ho
    obtain ⟨w, hw, w1, -⟩ := m_wanted (N := N) (m := fun _ _ => 0) h hE.2.1 hE.2.2.1 hE.2.2.2.2 (by omega) ho
    have wl := q_wanted (N := N) h q (by omega) ho
    rw [w1] at wl
    -- the next place in the order of laying
    have hkey : ∀ u, u < 6 → pos ≤ m_key (g 5) u → m_key (g 5) u ≤ m_key (g 5) o → u = o := fun u hu h1 h2 => q_keyI h hu ho (by have := omin u hu h1; omega)
    have hc' : m_cnt (m_key (g 5)) (m_key (g 5) o + 1) 6 = i + 1 := by
      rw [q_cntX (m_key (g 5)) rfl ok 6 hkey, if_pos ho, hc]
    have hd' : ∀ u, u < 6 → upd d o 1 u = if m_key (g 5) u < m_key (g 5) o + 1 then 1 else 0 := fun u hu => by
      by_cases c : u = o
      · subst c; rw [m_us, if_pos (by omega)]
      · rw [m_un _ _ c, hd u hu]
        by_cases c2 : m_key (g 5) u < pos
        · rw [if_pos c2, if_pos (by omega)]
        · rw [if_neg c2, if_neg (fun h2 => c (hkey u hu (by omega) (by omega)))]
    -- the law's choice, and its walk
    obtain ⟨r', s1, s2⟩ := q_sel (N := N) h q hd sum (nI i) (fun x5_67 => z_ck (z_in x5_67 6) <| z_lt ((((v, d) : z_V).1, upd ((v, d) : z_V).2 (x5_67).toNatClampNeg (1 : Int32))) fun Y12 => (fL_wanted N x5_67 (Y12.1)).bind fun r13 => (lL_lay_134 N sum (nI i) x5_67 r13 Y12 (fun x7_134 => (jL_lay_164_54 N (lL_lay_54 N fu) sum (nI i) x5_67 r13 x7_134 Y12)) N (0 : Int32))) 6 0 N (-1) (by omega) (by omega) (Or.inl ⟨rfl, fun u hu => by omega⟩)
    have er' := q_NxU h s1 hr0
    subst er'
    obtain ⟨f, f1, f2, f3⟩ := q_dl (N := N) (d := upd d o 1) h q (by omega) ho hw ha ha4 sum (nI i) (nI o) (fun x7_134 => (jL_lay_164_54 N (lL_lay_54 N fu) sum (nI i) (nI o) (nI w) x7_134 (v, upd d o 1))) P 0 N N (by omega) (by omega) (by omega)
    have lst : lL_lay_54 N (fu + 1) sum (nI i) (v, d) = jL_lay_164_54 N (lL_lay_54 N fu) sum (nI i) (nI o) (nI w) (nI f) (v, upd d o 1) := by
      rw [lL_lay_54.eq_2, if_neg (q_ge6 hi6)]
      refine Eq.trans s2 ?_
      dsimp only
      rw [m_in ho (by decide), m_ckt, m_clamp (show o < 2 ^ 31 by omega), m_lt]
      dsimp only
      rw [wl, m_bind]
      exact f2
    -- the class's step
    rw [lX2_layAll_14.eq_2, if_neg (m_ge16 (by omega)), m_hasY h.gn (by decide) ho, m_bind, if_neg m_1_0] at hg
    have hlay : fX2_layOne N (nI o) g = lX2_layOne_8 N (nI o) (nI w) g N (nI 0) := by
      unfold fX2_layOne
      rw [w1, m_bind]
      rfl
    rw [hlay] at hg
    rw [lst]
    have hvP : ((v, upd d o 1) : z_V).1 0 ((0 : Int32)).toNatClampNeg = nI P := by rw [m_t0]; exact q.eP.trans h.gP
    rcases f3 with ⟨e, f4⟩ | ⟨e, hfree, f4⟩
    · -- no place is free
      subst e
      rw [f4, m_bind, m_in (show o < 16 by omega) (by decide), m_ckt, m_clamp (show o < 2 ^ 31 by omega), if_pos (h7 o ho ok)] at hg
      obtain ⟨r1, l1, l2⟩ := m_laidBehind (N := N) h (by omega) (nI o) (m_key (g 5) o + 1) (Or.inr ⟨o, ho, rfl, rfl⟩)
      rw [l1, m_bind, nI_1] at hg
      obtain ⟨v', b1, b2⟩ := ih (i + 1) fu fv _ sum r1 sum' g g' v s (upd d o 1) (by omega) (by omega) (by omega) h q l2 hd' hc' (fun u hu hk => h7 u hu (by omega)) hg
      refine ⟨v', ?_, b2⟩
      unfold jL_lay_164_54
      rw [hvP, if_pos rfl, nI_1]
      exact b1
    · -- the order stands
      have hp : (w + f) % P < P := Nat.mod_lt _ (by omega)
      obtain ⟨b, hb, hb5⟩ := h.br ho
      rw [hb5] at f4
      have h1 := h.lay (f := f) (b := b) ho ha4 hp hfree
      have q1 := (((q.set (o := o) (w := 5) (nI ((w + f) % P)) ho (by decide)).set (o := o) (w := 6) (nI f) ho (by decide)).set (o := o) (w := 7) (nI b) ho (by decide)).pay ha4 (g 10 a + nI b)
      obtain ⟨G, hG⟩ : ∃ G, G = z_u2 (z_u2 (z_u2 (z_u2 g 6 o (nI ((w + f) % P))) 7 o (nI f)) 8 o (nI b)) 10 a (g 10 a + nI b) := ⟨_, rfl⟩
      have q1 : QO G (z_u2 (z_u2 (z_u2 (z_u2 v 1 (9 * o + 5) (nI ((w + f) % P))) 1 (9 * o + 6) (nI f)) 1 (9 * o + 7) (nI b)) 0 (3 + a) (g 10 a + nI b)) := by rw [hG]; exact q1
      rw [← hG] at f4 h1
      have g5 : G 5 = g 5 := by rw [hG, m_u2n _ _ _ (by decide), m_u2n _ _ _ (by decide), m_u2n _ _ _ (by decide), m_u2n _ _ _ (by decide)]
      have g7 : G 7 = upd (g 7) o (nI f) := by rw [hG, m_u2n _ _ _ (by decide), m_u2n _ _ _ (by decide), m_u2s, m_u2n _ _ _ (by decide)]
      rw [f4, m_bind, m_in (show o < 16 by omega) (by decide), m_ckt, m_clamp (show o < 2 ^ 31 by omega), if_neg (show ¬ G 7 o = -1 by rw [g7, m_us]; exact m_nN f (by omega)), m_ckt] at hg
      obtain ⟨r1, l1, l2⟩ := m_laidBehind (N := N) h1 (by omega) (nI o) (m_key (G 5) o + 1) (Or.inr ⟨o, ho, rfl, rfl⟩)
      rw [l1, m_bind, nI_1, show G 7 o = nI f by rw [g7, m_us]] at hg
      obtain ⟨v', b1, b2, b3, b4, b5⟩ := ih (i + 1) fu fv _ (sum + nI f) r1 sum' G g' _ _ (upd d o 1) (by omega) (by omega) (by omega) h1 q1 l2 (by rw [g5]; exact hd') (by rw [g5]; exact hc') (fun u hu hk => by
        rw [g5] at hk
        have huo : u ≠ o := fun e => by subst e; omega
        rw [g7, m_un _ _ huo]
        exact h7 u hu (by omega)) hg
      refine ⟨v', ?_, b2, ?_, ?_, ?_⟩
      · unfold jL_lay_164_54
        rw [hvP, if_neg (fun e2 => by have := m_nI_inj (by omega) (by omega) e2; omega), m_nz (by omega) (by omega), m_ckt, nI_add, pk_rem (by omega) (by omega) (by omega), q_i5, q_i6, q_i7, q_i4, q_i0, m_in (show 9 * o + 5 < 54 by omega) (by decide), m_ckt, m_in (show 9 * o + 6 < 54 by omega) (by decide), m_in (show 9 * o + 4 < 54 by omega) (by decide), m_in (show 9 * o + 7 < 54 by omega) (by decide), m_in (show 9 * o < 54 by omega) (by decide), m_clamp (show 9 * o + 5 < 2 ^ 31 by omega), m_clamp (show 9 * o + 6 < 2 ^ 31 by omega), m_clamp (show 9 * o + 4 < 2 ^ 31 by omega), m_clamp (show 9 * o + 7 < 2 ^ 31 by omega), m_clamp (show 9 * o < 2 ^ 31 by omega), m_lt, m_ckt, m_lt, m_ckt, m_ckt, m_lt, m_ckt]
        dsimp only
        have x4 : z_u2 (z_u2 v 1 (9 * o + 5) (nI ((w + f) % P))) 1 (9 * o + 6) (nI f) 1 (9 * o + 4) = nI b := by
          rw [m_u2s, m_un _ _ (by omega), m_u2s, m_un _ _ (by omega), q.or 4 ho (by decide)]
          exact hb5
        rw [x4]
        have x4b : z_u2 (z_u2 (z_u2 v 1 (9 * o + 5) (nI ((w + f) % P))) 1 (9 * o + 6) (nI f)) 1 (9 * o + 7) (nI b) 1 (9 * o + 4) = nI b := by
          rw [m_u2s, m_un _ _ (by omega), x4]
        have x1 : z_u2 (z_u2 (z_u2 v 1 (9 * o + 5) (nI ((w + f) % P))) 1 (9 * o + 6) (nI f)) 1 (9 * o + 7) (nI b) 1 (9 * o) = nI a := by
          rw [m_u2s, m_un _ _ (by omega), m_u2s, m_un _ _ (by omega), m_u2s, m_un _ _ (by omega), q.o0 ho, ha]
        have x3 : z_u2 (z_u2 (z_u2 v 1 (9 * o + 5) (nI ((w + f) % P))) 1 (9 * o + 6) (nI f)) 1 (9 * o + 7) (nI b) 0 (3 + a) = g 10 a := by
          rw [m_u2n _ _ _ (by decide), m_u2n _ _ _ (by decide), m_u2n _ _ _ (by decide), q.pd ha4]
        rw [x4b, x1, show (3 : Int32) + nI a = nI (3 + a) from nI_add 3 a, m_in (show 3 + a < 12 by omega) (by decide), m_ckt, m_ckt, m_ckt, m_clamp (show 3 + a < 2 ^ 31 by omega), x3, m_lt, nI_1]
        exact b1
      · rw [b3, m_u2n _ _ _ (by decide), m_u2n _ _ _ (by decide), m_u2n _ _ _ (by decide), m_u2n _ _ _ (by decide)]
      · rw [b4, m_u2s, m_un _ _ (by omega), m_u2n _ _ _ (by decide), m_u2n _ _ _ (by decide), m_u2n _ _ _ (by decide)]
      · rw [b5, m_u2s, m_un _ _ (by omega), m_u2n _ _ _ (by decide), m_u2n _ _ _ (by decide), m_u2n _ _ _ (by decide)]
/-- the law lays as the class -/
theorem q_lay (h : RS E 6 P T J g s) (hE : E 1 ∧ E 2 ∧ E 3 ∧ E 5 ∧ E 6) (hE8 : E 11 → E 8) (hN : 110 ≤ N) (q : QO g v) {sum : Int32} {g' : z_R} (hg : fX2_layAll N g = some (sum, g')) : ∃ v', fL_lay N v = some (sum, v') ∧ QO g' v' ∧ v' 2 = v 2 ∧ v' 0 11 = v 0 11 ∧ v' 0 2 = v 0 2 := by
  obtain ⟨g1, s1, a1, -, a3, a4, a5⟩ := m_takeOff (N := N) (m := fun _ _ => 0) h hE.1 hE8 (by omega)
  obtain ⟨r, b1, b2⟩ := m_laidBehind (N := N) a3 (by omega) (-1) 0 (Or.inl ⟨rfl, rfl⟩)
  unfold fX2_layAll at hg
  rw [a1, m_bind, b1, m_bind] at hg
  have a1' : lX2_takeAllOff_2 N N (nI 0) g = some g1 := a1
  obtain ⟨v1, c1, c2, c3, c4, c5⟩ := q_takeL (N := N) (d := fun _ => 0) 0 6 0 N N g g1 v (by omega) (by omega) (by omega) h.gn (fun o ho => h.au ho) q a1'
  obtain ⟨v', d1, d2, d3, d4, d5⟩ := q_layL (N := N) (by omega) hE 6 0 N N 0 0 r sum g1 g' v1 s1 (fun _ => 0) (by omega) (by omega) (by omega) a3 c2 b2 (fun o ho => by rw [if_neg (by omega)]) (q_cnt0 _ 6) (fun o ho _ => (a4 o ho).2.1) hg
  refine ⟨v', ?_, d2, d3.trans c3, d4.trans c4, d5.trans c5⟩
  unfold fL_lay
  rw [m_lt]
  show lL_lay_10 N 0 N (nI 0) (v, fun _ => 0) = _
  rw [c1]
  exact d1
end Q3
end
section
/-! a run: the law's and the class's -/
theorem q_u2u2 (g : z_R) (i j : Nat) (x y : Int32) : z_u2 (z_u2 g i j x) i j y = z_u2 g i j y := by
  funext a
  by_cases h : a = i
  · subst h
    rw [m_u2s, m_u2s, m_u2s]
    funext b
    by_cases hb : b = j
    · subst hb; rw [m_us, m_us]
    · rw [m_un _ _ hb, m_un _ _ hb, m_un _ _ hb]
  · rw [m_u2n _ _ _ h, m_u2n _ _ _ h, m_u2n _ _ _ h]
theorem q_u2e (g : z_R) (i j : Nat) {x : Int32} (h : g i j = x) : z_u2 g i j x = g := by
  funext a
  by_cases ha : a = i
  · subst ha
    rw [m_u2s]
    funext b
    by_cases hb : b = j
    · subst hb; rw [m_us, h]
    · rw [m_un _ _ hb]
  · rw [m_u2n _ _ _ ha]
theorem q_8x {x y : Nat} : (8 : Int32) * nI x + nI y = nI (8 * x + y) := by
  rw [show (8 : Int32) * nI x = nI (8 * x) from pk_mul 8 x, nI_add]
/-- what a run does behind a read: to the next order -/
def q_tl (N : Nat) (bk : Int32 → Int32 → Int32 → z_R → Option (Int32 × z_R)) (x4 x6 : Int32) (g24 : z_R) : Option (Int32 × z_R) :=
z_ck (z_in (((9 : Int32) * x4) + (2 : Int32)) 54) <|
(if 0 ≤ (g24 1 ((((9 : Int32) * x4) + (2 : Int32))).toNatClampNeg) then
z_ck (z_in (((8 : Int32) * x4) + (g24 1 ((((9 : Int32) * x4) + (2 : Int32))).toNatClampNeg)) 64) <|
(if (g24 2 ((((8 : Int32) * x4) + (g24 1 ((((9 : Int32) * x4) + (2 : Int32))).toNatClampNeg))).toNatClampNeg) = 0 then
z_lt (z_u2 g24 0 ((11 : Int32)).toNatClampNeg ((g24 0 ((11 : Int32)).toNatClampNeg) + (1 : Int32))) fun g33 =>
z_ck (z_in (((8 : Int32) * x4) + (g24 1 ((((9 : Int32) * x4) + (2 : Int32))).toNatClampNeg)) 64) <|
z_ck (z_in (((8 : Int32) * x4) + (g24 1 ((((9 : Int32) * x4) + (2 : Int32))).toNatClampNeg)) 64) <|
z_lt (z_u2 g33 2 ((((8 : Int32) * x4) + (g24 1 ((((9 : Int32) * x4) + (2 : Int32))).toNatClampNeg))).toNatClampNeg ((g33 2 ((((8 : Int32) * x4) + (g24 1 ((((9 : Int32) * x4) + (2 : Int32))).toNatClampNeg))).toNatClampNeg) + (1 : Int32))) fun g36 =>
(bk (g24 1 ((((9 : Int32) * x4) + (2 : Int32))).toNatClampNeg) x4 (x6 + (1 : Int32)) g36)
else
z_lt (z_u2 g24 0 ((11 : Int32)).toNatClampNeg ((g24 0 ((11 : Int32)).toNatClampNeg) + (0 : Int32))) fun g29 =>
z_ck (z_in (((8 : Int32) * x4) + (g24 1 ((((9 : Int32) * x4) + (2 : Int32))).toNatClampNeg)) 64) <|
z_ck (z_in (((8 : Int32) * x4) + (g24 1 ((((9 : Int32) * x4) + (2 : Int32))).toNatClampNeg)) 64) <|
z_lt (z_u2 g29 2 ((((8 : Int32) * x4) + (g24 1 ((((9 : Int32) * x4) + (2 : Int32))).toNatClampNeg))).toNatClampNeg ((g29 2 ((((8 : Int32) * x4) + (g24 1 ((((9 : Int32) * x4) + (2 : Int32))).toNatClampNeg))).toNatClampNeg) + (1 : Int32))) fun g32 =>
(bk (g24 1 ((((9 : Int32) * x4) + (2 : Int32))).toNatClampNeg) x4 (x6 + (1 : Int32)) g32))
else
some ((0 : Int32), g24))
/-- the law's rows behind a jump from o to y -/
def q_jm (u : z_R) (o y : Nat) : z_R := z_u2 (z_u2 u 0 11 (u 0 11 + if u 2 (8 * o + y) = 0 then 1 else 0)) 2 (8 * o + y) (u 2 (8 * o + y) + 1)
section Q4
variable {E : Nat → Prop} {N n P T J : Nat} {g v u : z_R} {s : Nat → Int32}
theorem q_tlN {bk : Int32 → Int32 → Int32 → z_R → Option (Int32 × z_R)} {o : Nat} {x6 : Int32} (ho : o < 6) (e : u 1 (9 * o + 2) = -1) : q_tl N bk (nI o) x6 u = some (0, u) := by
  unfold q_tl
  rw [q_i2, m_in (show 9 * o + 2 < 54 by omega) (by decide), m_ckt, m_clamp (show 9 * o + 2 < 2 ^ 31 by omega), e, if_neg (by decide)]
theorem q_tlY {bk : Int32 → Int32 → Int32 → z_R → Option (Int32 × z_R)} {o y k : Nat} (ho : o < 6) (hy : y < 8) (e : u 1 (9 * o + 2) = nI y) : q_tl N bk (nI o) (nI k) u = bk (nI y) (nI o) (nI (k + 1)) (q_jm u o y) := by
  unfold q_tl q_jm
  rw [q_i2, m_in (show 9 * o + 2 < 54 by omega) (by decide), m_ckt, m_clamp (show 9 * o + 2 < 2 ^ 31 by omega), e, if_pos (m_le0.mpr (m_neg (by omega))), q_8x, m_in (show 8 * o + y < 64 by omega) (by decide), m_ckt, m_clamp (show 8 * o + y < 2 ^ 31 by omega), q_t11, nI_1]
  by_cases c : u 2 (8 * o + y) = 0
  · rw [if_pos c, if_pos c, m_lt, m_ckt, m_ckt, m_lt, m_u2n _ _ _ (by decide : (2 : Nat) ≠ 0)]
  · rw [if_neg c, if_neg c, m_lt, m_ckt, m_ckt, m_lt, m_u2n _ _ _ (by decide : (2 : Nat) ≠ 0)]
theorem q_154 {bk : Int32 → Int32 → Int32 → z_R → Option (Int32 × z_R)} {o : Nat} {f x6 : Int32} (q : QO g u) (ho : o < 6) (hf : f = -1 ∨ ∃ q, q < 6 ∧ f = nI q) : ∃ u', jL_run_154_9 N bk (nI o) f x6 u = q_tl N bk (nI o) x6 u' ∧ QO (z_u2 (if f = -1 then g else z_u2 g 8 o 0) 0 2 (g 0 2 + (1 + g 2 o))) u' ∧ u' 2 = u 2 ∧ u' 0 11 = u 0 11 ∧ u' 0 2 = 0 := by
  have i7 : z_in ((9 : Int32) * nI o + (7 : Int32)) 54 = true := by rw [q_i7]; exact m_in (by omega) (by decide)
  have i1 : z_in ((9 : Int32) * nI o + (1 : Int32)) 54 = true := by rw [q_i1]; exact m_in (by omega) (by decide)
  have c7 : ((9 : Int32) * nI o + (7 : Int32)).toNatClampNeg = 9 * o + 7 := by rw [q_i7]; exact m_clamp (by omega)
  have c1 : ((9 : Int32) * nI o + (1 : Int32)).toNatClampNeg = 9 * o + 1 := by rw [q_i1]; exact m_clamp (by omega)
  by_cases c : f = -1
  · refine ⟨z_u2 (z_u2 u 0 1 (g 0 2 + (1 + g 2 o))) 0 2 0, ?_, ?_, ?_, ?_, ?_⟩
    · unfold jL_run_154_9
      rw [if_pos (show f < 0 by rw [c]; decide), i7, i1, m_ckt, m_ckt, c7, c1, m_lt, q_u2e u 1 (9 * o + 7) rfl, m_ckt, m_t1, m_t2, m_lt, m_lt, q.or 1 ho (by decide), q.eT]
      rfl
    · rw [if_pos c]
      exact (q.tk _).q2 (Or.inl rfl) 0
    · rw [m_u2n _ _ _ (by decide), m_u2n _ _ _ (by decide)]
    · rw [m_u2s, m_un _ _ (by decide), m_u2s, m_un _ _ (by decide)]
    · rw [m_u2s, m_us]
  · have fn : ¬ f < 0 := by
      rcases hf with e | ⟨w, hw, e⟩
      · exact absurd e c
      · rw [e]; exact m_neg (by omega)
    have q1 := q.set (o := o) (w := 7) 0 ho (by decide)
    refine ⟨z_u2 (z_u2 (z_u2 u 1 (9 * o + 7) 0) 0 1 (g 0 2 + (1 + g 2 o))) 0 2 0, ?_, ?_, ?_, ?_, ?_⟩
    · unfold jL_run_154_9
      rw [if_neg fn, i7, i1, m_ckt, c7, c1, m_lt, m_ckt, m_t1, m_t2, m_lt, m_lt]
      have e1 : z_u2 u 1 (9 * o + 7) 0 1 (9 * o + 1) = g 2 o := by rw [m_u2s, m_un _ _ (by omega)]; exact q.or 1 ho (by decide)
      have e2 : z_u2 u 1 (9 * o + 7) 0 0 1 = g 0 2 := by rw [m_u2n _ _ _ (by decide)]; exact q.eT
      rw [e1, e2]
      rfl
    · rw [if_neg c]
      exact (q1.tk _).q2 (Or.inl rfl) 0
    · rw [m_u2n _ _ _ (by decide), m_u2n _ _ _ (by decide), m_u2n _ _ _ (by decide)]
    · rw [m_u2s, m_un _ _ (by decide), m_u2s, m_un _ _ (by decide), m_u2n _ _ _ (by decide)]
    · rw [m_u2s, m_us]
/-- the ticks of a wait -/
theorem q_wt {T P p j w : Nat} (hp : p < P) (hw : w = (p + P - T % P) % P) : (j < w → (T + j) % P ≠ p) ∧ (T + w) % P = p := by
  have h0 : 0 < P := by omega
  have ht := Nat.mod_lt T h0
  have e : ∀ x, (T + x) % P = (T % P + x) % P := fun x => (Nat.mod_add_mod T P x).symm
  obtain ⟨t, htt⟩ : ∃ t, t = T % P := ⟨_, rfl⟩
  rw [← htt] at ht hw
  rw [e, e, ← htt]
  by_cases c : t ≤ p
  · have hw2 : w = p - t := by
      rw [hw, show p + P - t = (p - t) + P by omega, Nat.add_mod_right, Nat.mod_eq_of_lt (by omega)]
    refine ⟨fun hj => ?_, ?_⟩
    · rw [Nat.mod_eq_of_lt (by omega)]; omega
    · rw [hw2, show t + (p - t) = p by omega, Nat.mod_eq_of_lt hp]
  · have hw2 : w = p + P - t := by rw [hw, Nat.mod_eq_of_lt (by omega)]
    refine ⟨fun hj => ?_, ?_⟩
    · by_cases c2 : t + j < P
      · rw [Nat.mod_eq_of_lt c2]; omega
      · rw [show t + j = (t + j - P) + P by omega, Nat.add_mod_right, Nat.mod_eq_of_lt (by omega)]; omega
    · rw [hw2, show t + (p + P - t) = p + P by omega, Nat.add_mod_right, Nat.mod_eq_of_lt hp]
theorem q_wait {o p w : Nat} {x5 x6 : Int32} (hP : 0 < P ∧ P ≤ 40) (ho : o < 6) (hp : p < P) (h6 : g 6 o = nI p) (hgP : g 0 0 = nI P) (hw : w = (p + P - T % P) % P) (hT : T + w < 2 ^ 30) (kk : Int32 → z_R → Option (Int32 × z_R)) : ∀ (k j fu : Nat) (u : z_R), j + k = w → k < fu → QO (z_u2 g 0 2 (nI (T + j))) u → ∃ u', lL_run_93 N (nI o) x5 x6 kk fu (nI j) u = kk (nI w) u' ∧ QO (z_u2 g 0 2 (nI (T + w))) u' ∧ u' 2 = u 2 ∧ u' 0 11 = u 0 11 := by
  intro k
  induction k with
  | zero =>
    intro j fu u hj hfu q
    obtain ⟨fu, rfl⟩ : ∃ q, fu = q + 1 := ⟨fu - 1, by omega⟩
    have e : j = w := by omega
    subst e
    refine ⟨u, ?_, q, rfl, rfl⟩
    have uP : u 0 0 = nI P := by rw [q.eP, m_u2s, m_un _ _ (by decide)]; exact hgP
    have uT : u 0 1 = nI (T + j) := by rw [q.eT, m_u2s, m_us]
    have u6 : u 1 (9 * o + 5) = nI p := by rw [q.or 5 ho (by decide), m_u2n _ _ _ (by decide)]; exact h6
    rw [lL_run_93.eq_2, m_t0, m_t1, uP, uT, m_nz hP.1 (by omega), m_ckt, q_i5, m_in (show 9 * o + 5 < 54 by omega) (by decide), m_ckt, m_clamp (show 9 * o + 5 < 2 ^ 31 by omega), u6, pk_rem (by omega) hP.1 (by omega), (q_wt (j := 0) hp hw).2, if_pos rfl]
  | succ k ih =>
    intro j fu u hj hfu q
    obtain ⟨fu, rfl⟩ : ∃ q, fu = q + 1 := ⟨fu - 1, by omega⟩
    have uP : u 0 0 = nI P := by rw [q.eP, m_u2s, m_un _ _ (by decide)]; exact hgP
    have uT : u 0 1 = nI (T + j) := by rw [q.eT, m_u2s, m_us]
    have u6 : u 1 (9 * o + 5) = nI p := by rw [q.or 5 ho (by decide), m_u2n _ _ _ (by decide)]; exact h6
    have hm := Nat.mod_lt (T + j) hP.1
    have q1 := q.tk (nI (T + (j + 1)))
    rw [q_u2u2] at q1
    obtain ⟨u', a1, a2, a3, a4⟩ := ih (j + 1) fu _ (by omega) (by omega) q1
    refine ⟨u', ?_, a2, by rw [a3, m_u2n _ _ _ (by decide)], by rw [a4, m_u2s, m_un _ _ (by decide)]⟩
    rw [lL_run_93.eq_2, m_t0, m_t1, uP, uT, m_nz hP.1 (by omega), m_ckt, q_i5, m_in (show 9 * o + 5 < 54 by omega) (by decide), m_ckt, m_clamp (show 9 * o + 5 < 2 ^ 31 by omega), u6, pk_rem (by omega) hP.1 (by omega), if_neg (fun e => (q_wt (w := w) hp hw).1 (show j < w by omega) (m_nI_inj (by omega) (by omega) e)), nI_1, nI_1, m_lt]
    exact a1
/-- the class's read, written out -/
theorem q_readC (h : RS E n P T J g s) (hT : T < 2 ^ 30) {o p w : Nat} (ho : o < n) (h6 : g 6 o = nI p) (hp : p < P) (hw : w = (p + P - T % P) % P) {x : Int32} (hx : x = 0 ∨ x = 1) : fX2_read N (nI o) x g = some (z_u2 (if x = 0 then z_u2 (z_u2 g 0 2 (nI (T + w))) 9 o (nI w) else z_u2 (if w = 0 then z_u2 (z_u2 g 0 2 (nI (T + w))) 9 o (nI w) else z_u2 (z_u2 (z_u2 (z_u2 g 0 2 (nI (T + w))) 9 o (nI w)) 11 (g 1 o).toNatClampNeg (g 11 (g 1 o).toNatClampNeg + g 8 o)) 8 o 0) 8 o 0) 0 2 (nI (T + w) + (1 + g 2 o))) := by
  have h16 := h.n16
  have hP6 := h.P6
  have hP4 := h.P40
  obtain ⟨a, ha4, ha⟩ := h.au ho
  have wa : fX2_around N (nI p - nI T) g = some (nI w) := by rw [hw]; exact m_aroundD h.gP (by omega) (by omega) (by omega) hT
  have hwP : w < P := by rw [hw]; exact Nat.mod_lt _ (by omega)
  have aT : ∀ r, r ≠ 0 → ∀ q z, z_u2 (z_u2 g 0 2 (nI (T + w))) 9 q z r = if r = 9 then upd (g 9) q z else g r := fun r hr q z => by
    by_cases c : r = 9
    · subst c; rw [m_u2s, m_u2n _ _ _ (by decide), if_pos rfl]
    · rw [m_u2n _ _ _ c, m_u2n _ _ _ hr, if_neg c]
  unfold fX2_read
  rw [m_in (show o < 16 by omega) (by decide), m_ckt, m_clamp (by omega), h6, h.gT, wa, m_bind, nI_add, m_lt, m_ckt, m_lt]
  have t0 : z_u2 (z_u2 g 0 2 (nI (T + w))) 9 o (nI w) 0 2 = nI (T + w) := by rw [m_u2n _ _ _ (by decide), m_u2s, m_us]
  have t2 : z_u2 (z_u2 g 0 2 (nI (T + w))) 9 o (nI w) 2 o = g 2 o := by rw [aT 2 (by decide), if_neg (by decide)]
  by_cases x0 : x = 0
  · rw [if_pos x0, if_pos x0, m_ckt, t0, t2, m_lt]
  · rw [if_neg x0, if_neg x0]
    by_cases c : w = 0
    · rw [if_pos (show nI w = 0 by rw [c]; rfl), if_pos c, m_ckt, m_lt, m_ckt, m_u2n _ _ _ (by decide : (0 : Nat) ≠ 8), m_u2n _ _ _ (by decide : (2 : Nat) ≠ 8), t0, t2, m_lt]
    · have a1 : z_u2 (z_u2 g 0 2 (nI (T + w))) 9 o (nI w) 1 o = nI a := by rw [aT 1 (by decide), if_neg (by decide)]; exact ha
      have a8 : z_u2 (z_u2 g 0 2 (nI (T + w))) 9 o (nI w) 8 o = g 8 o := by rw [aT 8 (by decide), if_neg (by decide)]
      have a11 : z_u2 (z_u2 g 0 2 (nI (T + w))) 9 o (nI w) 11 a = g 11 a := by rw [aT 11 (by decide), if_neg (by decide)]
      rw [if_neg (nI_ne0 (by omega) (by omega)), if_neg c, m_refC (show o < 16 by omega) a1 ha4, m_b2, m_ckt, m_lt, m_ckt, a8, a11, ha, m_clamp (show a < 2 ^ 31 by omega)]
      rw [m_u2n _ _ _ (by decide : (0 : Nat) ≠ 8), m_u2n _ _ _ (by decide : (0 : Nat) ≠ 8), m_u2n _ _ _ (by decide : (0 : Nat) ≠ 11), t0, m_u2n _ _ _ (by decide : (2 : Nat) ≠ 8), m_u2n _ _ _ (by decide : (2 : Nat) ≠ 8), m_u2n _ _ _ (by decide : (2 : Nat) ≠ 11), t2, m_lt]
/-- a jump is noted: the law's and the class's -/
theorem q_note (h : RS E 6 P T J g s) (hN : 260 ≤ N) {c x y : Nat} (hx : x < 6) (hy : y < 8) : ∃ g', fX0_note N (nI x) (nI y) g = some g' ∧ (∀ k, k ≠ 4 → g' 0 k = g 0 k) ∧ (∀ r, 1 ≤ r → r ≤ 12 → g' r = g r) ∧ (c < 2 ^ 29 → QJ c g u → QJ (c + 1) g' (q_jm u x y)) := by
  have hJ := h.J256
  unfold fX0_note
  rcases (by rw [← nI_0]; exact m_ntC (N := N) h (nI x) (nI y) J 0 N (by omega) (by omega) (fun q hq => by omega) : (∃ q, q < J ∧ (∀ u, u < q → ¬ (g 13 u = nI x ∧ g 14 u = nI y)) ∧ g 13 q = nI x ∧ g 14 q = nI y ∧ lX0_note_2 N (nI x) (nI y) g N (0 : Int32) = some (z_u2 g 15 q (g 15 q + 1))) ∨ ((∀ q, q < J → ¬ (g 13 q = nI x ∧ g 14 q = nI y)) ∧ (J < 256 → lX0_note_2 N (nI x) (nI y) g N (0 : Int32) = some (z_u2 (z_u2 (z_u2 (z_u2 g 13 J (nI x)) 14 J (nI y)) 15 J 1) 0 4 (nI (J + 1)))))) with ⟨i0, u1, u2, u3, u4, u5⟩ | ⟨u1, u2⟩
  · refine ⟨_, u5, fun k _ => by rw [m_u2n _ _ _ (by decide)], fun r h1 h2 => m_u2n _ _ _ (by omega), fun hc hj => ?_⟩
    obtain ⟨j1, J', j2, j3, j4, j5, j6⟩ := hj
    have eJ : J' = J := m_nI_inj (by omega) (by omega) (j3.symm.trans h.gJ)
    subst eJ
    obtain ⟨x1, y1, k1, b1, b2, b3, b4, b5, b6, b7, b8⟩ := j4 i0 u1
    have ex : x1 = x := m_nI_inj (by omega) (by omega) (b5.symm.trans u3)
    have ey : y1 = y := m_nI_inj (by omega) (by omega) (b6.symm.trans u4)
    subst ex ey
    have hne : ¬ u 2 (8 * x1 + y1) = 0 := by rw [b8]; exact nI_ne0 (by omega) (by omega)
    unfold q_jm
    refine ⟨?_, J', j2, ?_, fun i hi => ?_, fun i k hi hk => ?_, fun x' y' hx' hy' hno => ?_⟩
    · rw [m_u2n _ _ _ (by decide), m_u2s, m_us, if_neg hne, Int32.add_zero, m_u2n _ _ _ (by decide)]; exact j1
    · rw [m_u2n _ _ _ (by decide)]; exact j3
    · rw [m_u2n _ _ _ (by decide : (13 : Nat) ≠ 15), m_u2n _ _ _ (by decide : (14 : Nat) ≠ 15), m_u2s, m_u2s, m_u2n _ _ _ (by decide : (2 : Nat) ≠ 0)]
      by_cases e : i = i0
      · subst e
        refine ⟨x1, y1, k1 + 1, b1, b2, by omega, by omega, b5, b6, ?_, ?_⟩
        · rw [m_us, b7, nI_1]
        · rw [m_us, b8, nI_1]
      · obtain ⟨x', y', k', c1, c2, c3, c4, c5, c6, c7, c8⟩ := j4 i hi
        refine ⟨x', y', k', c1, c2, c3, by omega, c5, c6, by rw [m_un _ _ e]; exact c7, ?_⟩
        rw [m_un _ _ (fun e2 => ?_)]
        · exact c8
        · have ex : x' = x1 := by omega
          have ey : y' = y1 := by omega
          subst ex ey
          rcases Nat.lt_or_gt_of_ne e with d | d
          · exact j5 i i0 d u1 ⟨c5.trans u3.symm, c6.trans u4.symm⟩
          · exact j5 i0 i d hi ⟨u3.trans c5.symm, u4.trans c6.symm⟩
    · rw [m_u2n _ _ _ (by decide : (13 : Nat) ≠ 15), m_u2n _ _ _ (by decide : (14 : Nat) ≠ 15)]
      exact j5 i k hi hk
    · rw [m_u2n _ _ _ (by decide : (13 : Nat) ≠ 15), m_u2n _ _ _ (by decide : (14 : Nat) ≠ 15)] at hno
      rw [m_u2s, m_u2n _ _ _ (by decide : (2 : Nat) ≠ 0), m_un _ _ (fun e2 => ?_)]
      · exact j6 x' y' hx' hy' hno
      · have ex : x' = x1 := by omega
        have ey : y' = y1 := by omega
        subst ex ey
        exact hno i0 u1 ⟨u3, u4⟩
  · have hlt := h.full (x := x) (y := y) (by omega) (by omega) u1
    refine ⟨_, u2 hlt, fun k hk => ?_, fun r h1 h2 => ?_, fun hc hj => ?_⟩
    · rw [m_u2s, m_un _ _ hk, m_u2n _ _ _ (by decide), m_u2n _ _ _ (by decide), m_u2n _ _ _ (by decide)]
    · rw [m_u2n _ _ _ (by omega), m_u2n _ _ _ (by omega), m_u2n _ _ _ (by omega), m_u2n _ _ _ (by omega)]
    obtain ⟨j1, J', j2, j3, j4, j5, j6⟩ := hj
    have eJ : J' = J := m_nI_inj (by omega) (by omega) (j3.symm.trans h.gJ)
    subst eJ
    have hz := j6 x y hx hy u1
    have g13 : z_u2 (z_u2 (z_u2 (z_u2 g 13 J' (nI x)) 14 J' (nI y)) 15 J' 1) 0 4 (nI (J' + 1)) 13 = upd (g 13) J' (nI x) := by rw [m_u2n _ _ _ (by decide), m_u2n _ _ _ (by decide), m_u2n _ _ _ (by decide), m_u2s]
    have g14 : z_u2 (z_u2 (z_u2 (z_u2 g 13 J' (nI x)) 14 J' (nI y)) 15 J' 1) 0 4 (nI (J' + 1)) 14 = upd (g 14) J' (nI y) := by rw [m_u2n _ _ _ (by decide), m_u2n _ _ _ (by decide), m_u2s, m_u2n _ _ _ (by decide)]
    have g15 : z_u2 (z_u2 (z_u2 (z_u2 g 13 J' (nI x)) 14 J' (nI y)) 15 J' 1) 0 4 (nI (J' + 1)) 15 = upd (g 15) J' 1 := by rw [m_u2n _ _ _ (by decide), m_u2s, m_u2n _ _ _ (by decide), m_u2n _ _ _ (by decide)]
    have hju : ∀ k, q_jm u x y 2 k = if k = 8 * x + y then 1 else u 2 k := fun k => by
      unfold q_jm
      rw [m_u2s, m_u2n _ _ _ (by decide : (2 : Nat) ≠ 0)]
      by_cases e : k = 8 * x + y
      · subst e; rw [m_us, hz, if_pos rfl]; rfl
      · rw [m_un _ _ e, if_neg e]
    refine ⟨?_, J' + 1, by omega, by rw [m_u2s, m_us], fun i hi => ?_, fun i k hi hk => ?_, fun x' y' hx' hy' hno => ?_⟩
    · unfold q_jm
      rw [m_u2n _ _ _ (by decide), m_u2s, m_us, if_pos hz, m_u2s, m_us, j1, j3, nI_1]
    · rw [g13, g14, g15, ]
      by_cases e : i = J'
      · subst e
        refine ⟨x, y, 1, hx, hy, by omega, by omega, m_us _ _ _, m_us _ _ _, by rw [m_us]; rfl, by rw [hju, if_pos rfl]; rfl⟩
      · obtain ⟨x', y', k', c1, c2, c3, c4, c5, c6, c7, c8⟩ := j4 i (by omega)
        refine ⟨x', y', k', c1, c2, c3, by omega, by rw [m_un _ _ e]; exact c5, by rw [m_un _ _ e]; exact c6, by rw [m_un _ _ e]; exact c7, ?_⟩
        rw [hju, if_neg (fun e2 => ?_)]
        · exact c8
        · have ex : x' = x := by omega
          have ey : y' = y := by omega
          subst ex ey
          exact u1 i (by omega) ⟨c5, c6⟩
    · rw [g13, g14]
      by_cases e : k = J'
      · subst e
        rw [m_us, m_us, m_un _ _ (by omega), m_un _ _ (by omega)]
        exact u1 i hi
      · rw [m_un _ _ (show i ≠ J' by omega), m_un _ _ (show i ≠ J' by omega), m_un _ _ e, m_un _ _ e]
        exact j5 i k hi (by omega)
    · rw [g13, g14] at hno
      rw [hju, if_neg (fun e2 => ?_)]
      · exact j6 x' y' hx' hy' (fun i hi => by
          have := hno i (by omega)
          rw [m_un _ _ (show i ≠ J' by omega), m_un _ _ (show i ≠ J' by omega)] at this
          exact this)
      · have ex : x' = x := by omega
        have ey : y' = y := by omega
        subst ex ey
        exact hno J' (by omega) ⟨m_us _ _ _, m_us _ _ _⟩
end Q4
end
section
/-! a run, read by read -/
/-- what the law does behind the wait for an order -/
def q_kk (N : Nat) (bk : Int32 → Int32 → Int32 → z_R → Option (Int32 × z_R)) (x4 x5 x6 : Int32) : Int32 → z_R → Option (Int32 × z_R) := fun x7_93 g93_14 => z_ck (z_in (((9 : Int32) * x4) + (8 : Int32)) 54) <|
z_lt (z_u2 g93_14 1 ((((9 : Int32) * x4) + (8 : Int32))).toNatClampNeg x7_93) fun g16 =>
(if x5 < 0 then
(jL_run_154_9 N bk x4 x5 x6 g16)
else
(if x7_93 ≤ 0 then
(jL_run_154_9 N bk x4 x5 x6 g16)
else
(fL_refund N x4 (g16)).bind fun u55 =>
(jL_run_154_9 N bk x4 x5 x6 u55)))
section Q5
variable {E : Nat → Prop} {N n P T J : Nat} {g v u : z_R} {s : Nat → Int32}
theorem QJ.cg {c : Nat} {g' v' : z_R} (h : QJ c g v) (h4 : g' 0 4 = g 0 4) (h13 : g' 13 = g 13) (h14 : g' 14 = g 14) (h15 : g' 15 = g 15) (v11 : v' 0 11 = v 0 11) (v2 : v' 2 = v 2) : QJ c g' v' := by
  unfold QJ
  rw [h4, h13, h14, h15, v11, v2]
  exact h
theorem QJ.mono {c c' : Nat} (h : QJ c g v) (hc : c ≤ c') : QJ c' g v := by
  obtain ⟨j1, J', j2, j3, j4, j5, j6⟩ := h
  refine ⟨j1, J', j2, j3, fun i hi => ?_, j5, j6⟩
  obtain ⟨x, y, k, c1, c2, c3, c4, c5⟩ := j4 i hi
  exact ⟨x, y, k, c1, c2, c3, by omega, c5⟩
theorem q_ge100 {k : Nat} (h : k < 100) : ¬ (100 : Int32) ≤ nI k := nI_ge (b := 100) h (by decide)
theorem q_77 {bk : Int32 → Int32 → Int32 → z_R → Option (Int32 × z_R)} {x4 x5 : Int32} {k : Nat} (hk : k ≤ 99) : jL_run_77_9 N bk x4 x5 (nI k) u = if k = 99 then some (2, z_u2 u 0 2 2) else lL_run_93 N x4 x5 (nI k) (q_kk N bk x4 x5 (nI k)) N 0 (z_u2 u 0 2 2) := by
  unfold jL_run_77_9
  rw [m_t2, m_lt]
  by_cases c : k = 99
  · rw [if_pos ((m_99 hk).mpr c), if_pos c]
  · rw [if_neg (fun e => c ((m_99 hk).mp e)), if_neg c]
    rfl
theorem q_lp (q : QO g v) {o k p fv : Nat} {f : Int32} (ho : o < 6) (hk : k ≤ 99) (h6 : g 6 o = nI p) (hp : p < 2 ^ 30) (hex : g 4 o = -1 ∨ ∃ w, w < 16 ∧ g 4 o = nI w) (hf : f = -1 ∨ ∃ q, q < 6 ∧ f = nI q) : lL_run_9 N (fv + 1) (nI o) f (nI k) v = if ¬ f = -1 ∧ ¬ g 4 o = -1 ∧ ¬ g 4 o = f then some (1, z_u2 (z_u2 v 0 2 3) 0 2 1) else if k = 99 then some (2, z_u2 (z_u2 (z_u2 v 0 2 3) 0 2 1) 0 2 2) else lL_run_93 N (nI o) f (nI k) (q_kk N (lL_run_9 N fv) (nI o) f (nI k)) N 0 (z_u2 (z_u2 (z_u2 v 0 2 3) 0 2 1) 0 2 2) := by
  have e6 : z_u2 v 0 2 3 1 (9 * o + 5) = nI p := by rw [m_u2n _ _ _ (by decide), q.or 5 ho (by decide)]; exact h6
  have e4 : z_u2 (z_u2 v 0 2 3) 0 2 1 1 (9 * o + 3) = g 4 o := by rw [m_u2n _ _ _ (by decide), m_u2n _ _ _ (by decide)]; exact q.or 3 ho (by decide)
  rw [lL_run_9.eq_2, if_neg (q_ge100 (show k < 100 by omega)), m_t2, m_lt, if_neg (q_lt5 ho), q_i5, m_in (show 9 * o + 5 < 54 by omega) (by decide), m_ckt, m_clamp (show 9 * o + 5 < 2 ^ 31 by omega), e6, if_pos (m_le0.mpr (m_neg (by omega))), m_lt]
  rcases hf with e | ⟨w, hw, e⟩
  · rw [if_pos (show f < 0 by rw [e]; decide), if_neg (fun c => c.1 e), q_77 hk]
  · have fn : ¬ f = -1 := by rw [e]; exact m_nN w (by omega)
    rw [if_neg (show ¬ f < 0 by rw [e]; exact m_neg (by omega)), q_i3, m_in (show 9 * o + 3 < 54 by omega) (by decide), m_ckt, m_ckt, m_clamp (show 9 * o + 3 < 2 ^ 31 by omega), e4]
    rcases hex with h4 | ⟨z, hz, h4⟩
    · rw [if_pos (show g 4 o < 0 by rw [h4]; decide), if_neg (fun c => c.2.1 h4), q_77 hk]
    · have h4n : ¬ g 4 o = -1 := by rw [h4]; exact m_nN z (by omega)
      rw [if_neg (show ¬ g 4 o < 0 by rw [h4]; exact m_neg (by omega))]
      by_cases c : g 4 o = f
      · rw [if_pos c, if_neg (fun d => d.2.2 c), q_77 hk]
      · rw [if_neg c, if_pos ⟨fn, h4n, c⟩]
/-- an order is read, on both sides -/
theorem q_rd (h : RS E 6 P T J g s) (hN : 260 ≤ N) (hT : T + 49 < 2 ^ 30) {bk : Int32 → Int32 → Int32 → z_R → Option (Int32 × z_R)} (q : QO g u) {o p : Nat} {f x6 : Int32} (ho : o < 6) (h6 : g 6 o = nI p) (hp : p < P) (hf : f = -1 ∨ ∃ q, q < 6 ∧ f = nI q) : ∃ g1 u3, fX2_read N (nI o) (if f = -1 then 0 else 1) g = some g1 ∧ lL_run_93 N (nI o) f x6 (q_kk N bk (nI o) f x6) N 0 u = q_tl N bk (nI o) x6 u3 ∧ QO g1 u3 ∧ u3 2 = u 2 ∧ u3 0 11 = u 0 11 ∧ u3 0 2 = 0 := by
  have hP6 := h.P6
  have hP4 := h.P40
  obtain ⟨a, ha4, ha⟩ := h.au ho
  obtain ⟨w, hw⟩ : ∃ w, w = (p + P - T % P) % P := ⟨_, rfl⟩
  have hwP : w < P := by rw [hw]; exact Nat.mod_lt _ (by omega)
  have hr := q_readC (N := N) h (by omega) ho h6 hp hw (x := if f = -1 then 0 else 1) (by
    by_cases c : f = -1
    · exact Or.inl (if_pos c)
    · exact Or.inr (if_neg c))
  have q0 : QO (z_u2 g 0 2 (nI (T + 0))) u := by rw [Nat.add_zero, q_u2e g 0 2 h.gT]; exact q
  obtain ⟨u1, b1, b2, b3, b4⟩ := q_wait (N := N) (x5 := f) (x6 := x6) ⟨by omega, hP4⟩ ho hp h6 h.gP hw (by omega) (q_kk N bk (nI o) f x6) w 0 N u (by omega) (by omega) q0
  have b5 := b2.set (o := o) (w := 8) (nI w) ho (by decide)
  have fn : f < 0 ↔ f = -1 := by
    rcases hf with e | ⟨z, hz, e⟩
    · exact ⟨fun _ => e, fun _ => by rw [e]; decide⟩
    · exact ⟨fun c => absurd c (by rw [e]; exact m_neg (by omega)), fun c => by rw [c]; decide⟩
  have kk0 : q_kk N bk (nI o) f x6 (nI w) u1 = if f = -1 then jL_run_154_9 N bk (nI o) f x6 (z_u2 u1 1 (9 * o + 8) (nI w)) else if w = 0 then jL_run_154_9 N bk (nI o) f x6 (z_u2 u1 1 (9 * o + 8) (nI w)) else (fL_refund N (nI o) (z_u2 u1 1 (9 * o + 8) (nI w))).bind fun u55 => jL_run_154_9 N bk (nI o) f x6 u55 := by
    unfold q_kk
    rw [q_i8, m_in (show 9 * o + 8 < 54 by omega) (by decide), m_ckt, m_clamp (show 9 * o + 8 < 2 ^ 31 by omega), m_lt]
    by_cases c : f = -1
    · rw [if_pos (fn.mpr c), if_pos c]
    · rw [if_neg (fun d => c (fn.mp d)), if_neg c]
      by_cases c2 : w = 0
      · rw [if_pos (by rw [c2]; decide), if_pos c2]
      · rw [if_neg (nI_nle (by omega) (by omega)), if_neg c2]
  have z0 : ∀ A : z_R, ∀ r i x, r ≠ 0 → z_u2 A r i x 0 2 = A 0 2 := fun A r i x hr => by rw [m_u2n _ _ _ (fun e => hr e.symm)]
  have z2 : ∀ A : z_R, ∀ r i x, r ≠ 2 → z_u2 A r i x 2 o = A 2 o := fun A r i x hr => by rw [m_u2n _ _ _ (fun e => hr e.symm)]
  have t0 : z_u2 g 0 2 (nI (T + w)) 0 2 = nI (T + w) := by rw [m_u2s, m_us]
  have t2 : z_u2 g 0 2 (nI (T + w)) 2 o = g 2 o := by rw [m_u2n _ _ _ (by decide)]
  by_cases c : f = -1
  · rw [if_pos c] at kk0 hr
    rw [if_pos rfl] at hr
    obtain ⟨u3, d1, d2, d3, d4, d5⟩ := q_154 (N := N) (bk := bk) (f := f) (x6 := x6) b5 ho hf
    rw [if_pos c, z0 _ _ _ _ (by decide), z2 _ _ _ _ (by decide), t0, t2] at d2
    refine ⟨_, u3, by rw [if_pos c]; exact hr, ?_, d2, ?_, ?_, d5⟩
    · rw [show (0 : Int32) = nI 0 from rfl, b1, kk0]; exact d1
    · rw [d3, m_u2n _ _ _ (by decide), b3]
    · rw [d4, m_u2n _ _ _ (by decide), b4]
  · rw [if_neg c] at kk0 hr
    rw [if_neg m_1_0] at hr
    by_cases c2 : w = 0
    · rw [if_pos c2] at kk0 hr
      obtain ⟨u3, d1, d2, d3, d4, d5⟩ := q_154 (N := N) (bk := bk) (f := f) (x6 := x6) b5 ho hf
      rw [if_neg c, z0 _ _ _ _ (by decide), z2 _ _ _ _ (by decide), t0, t2] at d2
      refine ⟨_, u3, by rw [if_neg c]; exact hr, ?_, d2, ?_, ?_, d5⟩
      · rw [show lL_run_93 N (nI o) f x6 (q_kk N bk (nI o) f x6) N 0 u = _ from b1, kk0]; exact d1
      · rw [d3, m_u2n _ _ _ (by decide), b3]
      · rw [d4, m_u2n _ _ _ (by decide), b4]
    · rw [if_neg c2] at kk0 hr
      have a1 : z_u2 (z_u2 g 0 2 (nI (T + w))) (8 + 1) o (nI w) 1 o = nI a := by rw [m_u2n _ _ _ (by decide), m_u2n _ _ _ (by decide)]; exact ha
      obtain ⟨v1, e1, e2, e3, e4, e5⟩ := q_refund (N := N) b5 ho a1 ha4
      rw [e1, m_bind] at kk0
      have a8 : z_u2 (z_u2 g 0 2 (nI (T + w))) (8 + 1) o (nI w) 8 o = g 8 o := by rw [m_u2n _ _ _ (by decide), m_u2n _ _ _ (by decide)]
      have a11 : z_u2 (z_u2 g 0 2 (nI (T + w))) (8 + 1) o (nI w) 11 a = g 11 a := by rw [m_u2n _ _ _ (by decide), m_u2n _ _ _ (by decide)]
      rw [a8, a11] at e2
      rw [ha, m_clamp (show a < 2 ^ 31 by omega)] at hr
      obtain ⟨u3, d1, d2, d3, d4, d5⟩ := q_154 (N := N) (bk := bk) (f := f) (x6 := x6) e2 ho hf
      rw [if_neg c, z0 _ _ _ _ (by decide), z0 _ _ _ _ (by decide), z0 _ _ _ _ (by decide), z2 _ _ _ _ (by decide), z2 _ _ _ _ (by decide), z2 _ _ _ _ (by decide), t0, t2] at d2
      refine ⟨_, u3, by rw [if_neg c]; exact hr, ?_, d2, ?_, ?_, d5⟩
      · rw [show lL_run_93 N (nI o) f x6 (q_kk N bk (nI o) f x6) N 0 u = _ from b1, kk0]; exact d1
      · rw [d3, e3, m_u2n _ _ _ (by decide), b3]
      · rw [d4, e4, m_u2n _ _ _ (by decide), b4]
/-- a whole run -/
theorem q_runL (hE : E 0 ∧ E 1 ∧ E 2 ∧ E 3 ∧ E 4 ∧ E 6 ∧ E 12) (hE8 : E 11 → E 8) (hN : 260 ≤ N) (K : Int32 → z_R → Option (Int32 × z_R)) : ∀ (d k fu fv T J c : Nat) (f : Int32) (x : Nat) (g v : z_R) (s : Nat → Int32), k + d = 99 → d + 1 < fu → d < fv → T + 49 * (d + 1) < 2 ^ 30 → (f = -1 ∨ ∃ q, q < 6 ∧ f = nI q) → x < 8 → RS E 6 P T J g s → QO g v → QN g → ∃ e j g' v', e = nI j ∧ j < 4 ∧ lX2_runFrom_10 N K fu (-1) f (nI x) (nI k) g = K e g' ∧ lL_run_9 N fv (nI x) f (nI k) v = some (e, v') ∧ v' 0 2 = e ∧ QO g' v' ∧ (c + d + 1 < 2 ^ 29 → QJ c g v → QJ (c + d + 1) g' v') := by
  intro d
  induction d with
  | zero =>
    intro k fu fv T J c f x g v s hk hfu hfv hT hf hx h q hq
    obtain ⟨fu, rfl⟩ : ∃ q, fu = q + 2 := ⟨fu - 2, by omega⟩
    obtain ⟨fv, rfl⟩ : ∃ q, fv = q + 1 := ⟨fv - 1, by omega⟩
    have hk99 : k = 99 := by omega
    subst hk99
    have ndrum : (6 ≤ x ∨ (x < 6 ∧ g 6 x = -1)) → lX2_runFrom_10 N K (fu + 2) (-1) f (nI x) (nI 99) g = K (nI 3) g ∧ lL_run_9 N (fv + 1) (nI x) f (nI 99) v = some (nI 3, z_u2 v 0 2 3) := fun hc => by
      refine ⟨?_, ?_⟩
      · rw [lX2_runFrom_10.eq_2, if_neg (m_nlt99 (by omega)), if_pos rfl]
        have hz : fX2_isOnDrum N (nI x) g = some 0 := by
          unfold fX2_isOnDrum
          rcases hc with c1 | ⟨c1, c2⟩
          · rw [m_hasN h.gn (Or.inr (nI_le c1 (by omega))), m_bind, if_pos m_00]
          · rw [m_hasY h.gn (by decide) c1, m_bind, if_neg m_1_0, m_in (by omega) (by decide), m_ckt, m_clamp (by omega), if_pos c2]
        rw [hz, m_bind, if_pos m_00]
        exact m_wkE K (by decide)
      · rw [lL_run_9.eq_2, if_neg (by decide), m_t2, m_lt]
        rcases hc with c1 | ⟨c1, c2⟩
        · rw [if_pos (show (5 : Int32) < nI x from (m_ltI (a := 5) (by decide) (by omega)).mpr (by omega))]; rfl
        · rw [if_neg (q_lt5 c1), q_i5, m_in (show 9 * x + 5 < 54 by omega) (by decide), m_ckt, m_clamp (show 9 * x + 5 < 2 ^ 31 by omega), m_u2n _ _ _ (by decide), q.or 5 c1 (by decide), show g (5 + 1) x = -1 from c2, if_neg (by decide)]; rfl
    by_cases c6 : 6 ≤ x
    · obtain ⟨a1, a2⟩ := ndrum (Or.inl c6)
      exact ⟨nI 3, 3, g, _, rfl, by decide, a1, a2, by rw [m_u2s, m_us]; rfl, q.q2 (Or.inl rfl) 3, fun _ hj => (hj.cg rfl rfl rfl rfl (by rw [m_u2s, m_un _ _ (by decide)]) (by rw [m_u2n _ _ _ (by decide)])).mono (by omega)⟩
    · have hx6 : x < 6 := by omega
      rcases h.pl hx6 with h6 | ⟨p, hp, h6⟩
      · obtain ⟨a1, a2⟩ := ndrum (Or.inr ⟨hx6, h6⟩)
        exact ⟨nI 3, 3, g, _, rfl, by decide, a1, a2, by rw [m_u2s, m_us]; rfl, q.q2 (Or.inl rfl) 3, fun _ hj => (hj.cg rfl rfl rfl rfl (by rw [m_u2s, m_un _ _ (by decide)]) (by rw [m_u2n _ _ _ (by decide)])).mono (by omega)⟩
      · have hP4 := h.P40
        have h6n : ¬ g 6 x = -1 := by rw [h6]; exact m_nN p (by omega)
        have hon : fX2_isOnDrum N (nI x) g = some 1 := by
          unfold fX2_isOnDrum
          rw [m_hasY h.gn (by decide) hx6, m_bind, if_neg m_1_0, m_in (by omega) (by decide), m_ckt, m_clamp (by omega), if_neg h6n]
        have cl := m_wkB (N := N) (g := g) (k := 99) (fu := fu + 1) (f := f) K hon (by omega) (by omega)
        have la := q_lp (N := N) (fv := fv) (f := f) q hx6 (k := 99) (by omega) h6 (by omega) (h.ex hx6) hf
        by_cases cf : ¬ f = -1 ∧ ¬ g 4 x = -1 ∧ ¬ g 4 x = f
        · rw [if_pos cf] at cl la
          refine ⟨nI 1, 1, g, _, rfl, by decide, by rw [cl]; exact m_wkE K (by decide), la, by rw [m_u2s, m_us]; rfl, (q.q2 (Or.inl rfl) 3).q2 (Or.inl rfl) 1, fun _ hj => (hj.cg rfl rfl rfl rfl ?_ ?_).mono (by omega)⟩
          · rw [m_u2s, m_un _ _ (by decide), m_u2s, m_un _ _ (by decide)]
          · rw [m_u2n _ _ _ (by decide), m_u2n _ _ _ (by decide)]
        · rw [if_neg cf, if_pos rfl] at cl la
          refine ⟨nI 2, 2, g, _, rfl, by decide, by rw [cl]; exact m_wkE K (by decide), la, by rw [m_u2s, m_us]; rfl, ((q.q2 (Or.inl rfl) 3).q2 (Or.inl rfl) 1).q2 (Or.inl rfl) 2, fun _ hj => (hj.cg rfl rfl rfl rfl ?_ ?_).mono (by omega)⟩
          · rw [m_u2s, m_un _ _ (by decide), m_u2s, m_un _ _ (by decide), m_u2s, m_un _ _ (by decide)]
          · rw [m_u2n _ _ _ (by decide), m_u2n _ _ _ (by decide), m_u2n _ _ _ (by decide)]
  | succ d ih =>
    intro k fu fv T J c f x g v s hk hfu hfv hT hf hx h q hq
    obtain ⟨fu, rfl⟩ : ∃ q, fu = q + 2 := ⟨fu - 2, by omega⟩
    obtain ⟨fv, rfl⟩ : ∃ q, fv = q + 1 := ⟨fv - 1, by omega⟩
    have ndrum : (6 ≤ x ∨ (x < 6 ∧ g 6 x = -1)) → lX2_runFrom_10 N K (fu + 2) (-1) f (nI x) (nI k) g = K (nI 3) g ∧ lL_run_9 N (fv + 1) (nI x) f (nI k) v = some (nI 3, z_u2 v 0 2 3) := fun hc => by
      refine ⟨?_, ?_⟩
      · rw [lX2_runFrom_10.eq_2, if_neg (m_nlt99 (by omega)), if_pos rfl]
        have hz : fX2_isOnDrum N (nI x) g = some 0 := by
          unfold fX2_isOnDrum
          rcases hc with c1 | ⟨c1, c2⟩
          · rw [m_hasN h.gn (Or.inr (nI_le c1 (by omega))), m_bind, if_pos m_00]
          · rw [m_hasY h.gn (by decide) c1, m_bind, if_neg m_1_0, m_in (by omega) (by decide), m_ckt, m_clamp (by omega), if_pos c2]
        rw [hz, m_bind, if_pos m_00]
        exact m_wkE K (by decide)
      · rw [lL_run_9.eq_2, if_neg (q_ge100 (show k < 100 by omega)), m_t2, m_lt]
        rcases hc with c1 | ⟨c1, c2⟩
        · rw [if_pos (show (5 : Int32) < nI x from (m_ltI (a := 5) (by decide) (by omega)).mpr (by omega))]; rfl
        · rw [if_neg (q_lt5 c1), q_i5, m_in (show 9 * x + 5 < 54 by omega) (by decide), m_ckt, m_clamp (show 9 * x + 5 < 2 ^ 31 by omega), m_u2n _ _ _ (by decide), q.or 5 c1 (by decide), show g (5 + 1) x = -1 from c2, if_neg (by decide)]; rfl
    by_cases c6 : 6 ≤ x
    · obtain ⟨a1, a2⟩ := ndrum (Or.inl c6)
      exact ⟨nI 3, 3, g, _, rfl, by decide, a1, a2, by rw [m_u2s, m_us]; rfl, q.q2 (Or.inl rfl) 3, fun _ hj => (hj.cg rfl rfl rfl rfl (by rw [m_u2s, m_un _ _ (by decide)]) (by rw [m_u2n _ _ _ (by decide)])).mono (by omega)⟩
    · have hx6 : x < 6 := by omega
      rcases h.pl hx6 with h6 | ⟨p, hp, h6⟩
      · obtain ⟨a1, a2⟩ := ndrum (Or.inr ⟨hx6, h6⟩)
        exact ⟨nI 3, 3, g, _, rfl, by decide, a1, a2, by rw [m_u2s, m_us]; rfl, q.q2 (Or.inl rfl) 3, fun _ hj => (hj.cg rfl rfl rfl rfl (by rw [m_u2s, m_un _ _ (by decide)]) (by rw [m_u2n _ _ _ (by decide)])).mono (by omega)⟩
      · have hP4 := h.P40
        have h6n : ¬ g 6 x = -1 := by rw [h6]; exact m_nN p (by omega)
        have hon : fX2_isOnDrum N (nI x) g = some 1 := by
          unfold fX2_isOnDrum
          rw [m_hasY h.gn (by decide) hx6, m_bind, if_neg m_1_0, m_in (by omega) (by decide), m_ckt, m_clamp (by omega), if_neg h6n]
        have cl := m_wkB (N := N) (g := g) (k := k) (fu := fu + 1) (f := f) K hon (by omega) (by omega)
        have la := q_lp (N := N) (fv := fv) (f := f) q hx6 (k := k) (by omega) h6 (by omega) (h.ex hx6) hf
        by_cases cf : ¬ f = -1 ∧ ¬ g 4 x = -1 ∧ ¬ g 4 x = f
        · rw [if_pos cf] at cl la
          refine ⟨nI 1, 1, g, _, rfl, by decide, by rw [cl]; exact m_wkE K (by decide), la, by rw [m_u2s, m_us]; rfl, (q.q2 (Or.inl rfl) 3).q2 (Or.inl rfl) 1, fun _ hj => (hj.cg rfl rfl rfl rfl ?_ ?_).mono (by omega)⟩
          · rw [m_u2s, m_un _ _ (by decide), m_u2s, m_un _ _ (by decide)]
          · rw [m_u2n _ _ _ (by decide), m_u2n _ _ _ (by decide)]
        · rw [if_neg cf, if_neg (by omega)] at cl la
          have q8 : QO g (z_u2 (z_u2 (z_u2 v 0 2 3) 0 2 1) 0 2 2) := ((q.q2 (Or.inl rfl) 3).q2 (Or.inl rfl) 1).q2 (Or.inl rfl) 2
          obtain ⟨g1, u3, r1, r2, r3, r4, r5, r6⟩ := q_rd (N := N) (bk := lL_run_9 N fv) (f := f) (x6 := nI k) h hN (by omega) q8 hx6 h6 hp hf
          obtain ⟨g1', s1, T1, t1, t2, m1, -, m3, m4⟩ := m_read (N := N) (m := fun _ _ => 0) h ⟨hE.1, hE.2.1, hE.2.2.1, hE.2.2.2.2.2.1⟩ hE8 (by omega) hx6 h6 hp (x := if f = -1 then 0 else 1) (by
            by_cases c : f = -1
            · exact Or.inl (if_pos c)
            · exact Or.inr (if_neg c))
          have eg : g1' = g1 := Option.some.inj (m1.symm.trans r1)
          subst eg
          rw [r1, m_bind] at cl
          rw [r2] at la
          have j1 : QJ c g v → QJ c g1' u3 := fun hj => hj.cg (by rw [m3.gJ, h.gJ]) (m4 13 (by decide) (by decide) (by decide) (by decide)) (m4 14 (by decide) (by decide) (by decide) (by decide)) (m4 15 (by decide) (by decide) (by decide) (by decide)) (by rw [r5, m_u2s, m_un _ _ (by decide), m_u2s, m_un _ _ (by decide), m_u2s, m_un _ _ (by decide)]) (by rw [r4, m_u2n _ _ _ (by decide), m_u2n _ _ _ (by decide), m_u2n _ _ _ (by decide)])
          have e3 : g1' 3 = g 3 := m4 3 (by decide) (by decide) (by decide) (by decide)
          have u3n : u3 1 (9 * x + 2) = g 3 x := by rw [r3.or 2 hx6 (by decide), show g1' (2 + 1) x = g1' 3 x from rfl, e3]
          rw [e3] at cl
          rcases hq x hx6 with h3 | ⟨y, hy, h3⟩
          · rw [if_pos h3] at cl
            rw [q_tlN hx6 (u3n.trans h3)] at la
            refine ⟨nI 0, 0, g1', u3, rfl, by decide, by rw [cl]; exact m_wkE K (by decide), la, r6, r3, fun _ hj => (j1 hj).mono (by omega)⟩
          · rw [if_neg (by rw [h3]; exact m_nN y (by omega)), h3] at cl
            rw [q_tlY hx6 hy (u3n.trans h3)] at la
            obtain ⟨g2, n1, n2, n3, n4⟩ := q_note (N := N) (c := c) (u := u3) m3 hN hx6 hy
            obtain ⟨g2', s2, J2, p1, -, p3, p4⟩ := m_note (N := N) (m := fun _ _ => 0) m3 hE.2.2.2.2.2.2 hN (x := x) (y := y) (by omega) (by omega)
            have eg2 : g2' = g2 := Option.some.inj (p1.symm.trans n1)
            subst eg2
            rw [n1, m_bind, show g2' 3 x = nI y by rw [n3 3 (by decide) (by decide), e3, h3]] at cl
            have q9 : QO g2' (q_jm u3 x y) := by
              unfold q_jm
              exact ((r3.gj n2 n3).q2 (Or.inr rfl) _).j _ _
            obtain ⟨e, j, g', v', b1, b2, b3, b4, b5, b6, b7⟩ := ih (k + 1) (fu + 1) fv T1 J2 (c + 1) (nI x) y g2' (q_jm u3 x y) s2 (by omega) (by omega) (by omega) (by omega) (Or.inr ⟨x, hx6, rfl⟩) hy p3 q9 (fun o ho => by rw [n3 3 (by decide) (by decide), e3]; exact hq o ho)
            refine ⟨e, j, g', v', b1, b2, by rw [cl]; exact b3, by rw [la]; exact b4, b5, b6, fun hc hj => ?_⟩
            have := b7 (by omega) (n4 (by omega) (j1 hj))
            rw [show c + (d + 1) + 1 = c + 1 + d + 1 by omega]
            exact this
/-- the law runs as the class -/
theorem q_run (h : RS E 6 P T J g s) (hE : E 0 ∧ E 1 ∧ E 2 ∧ E 3 ∧ E 4 ∧ E 6 ∧ E 12) (hE8 : E 11 → E 8) (hN : 260 ≤ N) (hT : T + 4900 < 2 ^ 30) (q : QO g v) (hq : QN g) {o : Nat} (ho : o < 6) {e : Int32} {g' : z_R} (hg : fX2_runFrom N (nI o) g = some (e, g')) : ∃ v', fL_run N (nI o) v = some (e, v') ∧ v' 0 2 = e ∧ QO g' v' ∧ (∃ j, j < 4 ∧ e = nI j) ∧ ∀ c, c + 100 < 2 ^ 29 → QJ c g v → QJ (c + 100) g' v' := by
  have key : ∀ c, ∃ e j g' v', e = nI j ∧ j < 4 ∧ fX2_runFrom N (nI o) g = some (e, z_u2 g' 0 3 e) ∧ fL_run N (nI o) v = some (e, v') ∧ v' 0 2 = e ∧ QO g' v' ∧ (c + 100 < 2 ^ 29 → QJ c g v → QJ (c + 100) g' v') := fun c => by
    obtain ⟨e, j, g', v', a1, a2, a3, a4, a5, a6, a7⟩ := q_runL (N := N) hE hE8 hN (fun x2 g2 => z_lt (z_u2 g2 0 3 x2) fun g53 => some (x2, g53)) 99 0 N N T J c (-1) o g v s (by omega) (by omega) (by omega) (by omega) (Or.inl rfl) (by omega) h q hq
    refine ⟨e, j, g', v', a1, a2, ?_, a4, a5, a6, a7⟩
    rw [m_lt] at a3
    exact a3
  obtain ⟨e0, j0, g0, v0, b1, b2, b3, b4, b5, b6, -⟩ := key 0
  rw [hg] at b3
  obtain ⟨c1, c2⟩ := Prod.mk.inj (Option.some.inj b3)
  subst c1
  refine ⟨v0, b4, b5, by rw [c2]; exact b6.en _, ⟨j0, b2, b1⟩, fun c hc hj => ?_⟩
  obtain ⟨e1, j1, g1, v1, d1, d2, d3, d4, d5, d6, d7⟩ := key c
  rw [hg] at d3
  rw [b4] at d4
  obtain ⟨x1, x2⟩ := Prod.mk.inj (Option.some.inj d3)
  obtain ⟨y1, y2⟩ := Prod.mk.inj (Option.some.inj d4)
  rw [x2, y2]
  exact (d7 hc hj).cg (by rw [m_u2s, m_un _ _ (by decide)]) (m_u2n _ _ _ (by decide)) (m_u2n _ _ _ (by decide)) (m_u2n _ _ _ (by decide)) rfl rfl
end Q5
end
section
/-! the law's actions beside the class's calls -/
def QG (B c : Nat) (X : z_X) (v : z_R) : Prop := (∃ m, RG B X m) ∧ (X.2.2 0) 0 1 = nI 6 ∧ QO (X.2.2 0) v ∧ v 0 2 = (X.2.2 0) 0 3 ∧ QN (X.2.2 0) ∧ QJ c (X.2.2 0) v
theorem q_x0 (X : z_X) (g : z_R) : ((X.1, X.2.1, z_u3 X.2.2 0 g) : z_X).2.2 0 = g := m_u3s X.2.2 0 g
section Q6
variable {N B c : Nat} {X X' : z_X} {v : z_R}
theorem QG.rs (h : QG B c X v) : ∃ m P T J, RG B X m ∧ RS m_Al 6 P T J (X.2.2 0) (m 1) ∧ T ≤ B := by
  obtain ⟨⟨m, hm⟩, h6, -⟩ := h
  obtain ⟨n, P, T, J, hrs, hT⟩ := id hm.2.1
  have e : n = 6 := m_nI_inj (by have := hrs.n16; omega) (by omega) (hrs.gn.symm.trans h6)
  subst e
  exact ⟨m, P, T, J, hm, hrs, hT⟩
theorem QG.mono {B' c' : Nat} (h : QG B c X v) (hB : B ≤ B') (hc : c ≤ c') : QG B' c' X v := by
  obtain ⟨⟨m, hm⟩, h6, q, e, hn, hj⟩ := h
  exact ⟨⟨m, hm.mono hB⟩, h6, q, e, hn, hj.mono hc⟩
/-- what is remembered leaves the state -/
theorem q_rem (h : fX1_remember N X = some X') : X'.2.2 0 = X.2.2 0 := by
  unfold fX1_remember at h
  obtain ⟨-, h⟩ := z_ckE h
  obtain ⟨u, -, h⟩ := z_bE h
  obtain ⟨X3, e3, h⟩ := z_ltE h
  have k : X3.2.2 0 = X.2.2 0 := by
    rw [e3]
    dsimp only
    exact m_u3n _ _ (by omega)
  by_cases c : (14 : Int32) ≤ (X3.2.1 0 1)
  · rw [if_pos c] at h
    obtain ⟨X5, e5, h⟩ := z_ltE h
    cases h
    rw [e5]; exact k
  · rw [if_neg c] at h
    obtain ⟨X5, e5, h⟩ := z_ltE h
    cases h
    rw [e5]; exact k
theorem q_lay6 (h : QG B c X v) (hN : 13000 ≤ N) (hN2 : N < 2 ^ 31) : ∃ b X' v', fX4_lay N X = some (b, X') ∧ fL_lay N v = some (b, v') ∧ QG (B + 5000) c X' v' := by
  obtain ⟨m, P, T, J, hm, hrs, hT⟩ := h.rs
  obtain ⟨-, h6, q, he, hn, hj⟩ := h
  obtain ⟨b, X', m', a1, -, a3⟩ := c_lay (N := N) hm hN hN2
  have a0 := a1
  unfold fX4_lay at a1
  obtain ⟨X1, r1, a1⟩ := z_bE a1
  obtain ⟨r2, u2, l2, a1⟩ := z_b2E a1
  obtain ⟨X3, e3, a1⟩ := z_ltE a1
  cases a1
  have k1 := q_rem r1
  rw [k1] at l2
  obtain ⟨g', s', sum, d1, -, -, d4⟩ := m_layAll (N := N) (m := m) hrs ⟨trivial, trivial, trivial, trivial, trivial⟩ (fun _ => trivial) (by omega)
  rw [l2] at d1
  obtain ⟨-, eg⟩ := Prod.mk.inj (Option.some.inj d1)
  subst eg
  obtain ⟨v', w1, w2, w3, w4, w5⟩ := q_lay (N := N) hrs ⟨trivial, trivial, trivial, trivial, trivial⟩ (fun _ => trivial) (by omega) q l2
  have k3 : X'.2.2 0 = u2 := by rw [e3]; exact q_x0 X1 u2
  have fr : ∀ r, r ≠ 6 → r ≠ 7 → r ≠ 8 → r ≠ 10 → r ≠ 11 → X'.2.2 0 r = X.2.2 0 r := by rw [k3]; exact d4
  refine ⟨b, X', v', a0, w1, ⟨m', a3⟩, by rw [fr 0 (by decide) (by decide) (by decide) (by decide) (by decide)]; exact h6, by rw [k3]; exact w2, by rw [w5, he, fr 0 (by decide) (by decide) (by decide) (by decide) (by decide)], fun o ho => by rw [fr 3 (by decide) (by decide) (by decide) (by decide) (by decide)]; exact hn o ho, ?_⟩
  exact hj.cg (by rw [fr 0 (by decide) (by decide) (by decide) (by decide) (by decide)]) (fr 13 (by decide) (by decide) (by decide) (by decide) (by decide)) (fr 14 (by decide) (by decide) (by decide) (by decide) (by decide)) (fr 15 (by decide) (by decide) (by decide) (by decide) (by decide)) w4 w3
theorem q_run6 (h : QG B c X v) (hB : B + 5000 < 2 ^ 30) (hc : c + 100 < 2 ^ 29) (hN : 13000 ≤ N) (hN2 : N < 2 ^ 31) {k : Nat} (hk : k < 6) : ∃ b X' v', nX4_run N (nI k) X = some (b, X') ∧ fL_run N (nI k) v = some (b, v') ∧ ¬ b < 0 ∧ QG (B + 5000) (c + 100) X' v' := by
  obtain ⟨m, P, T, J, hm, hrs, hT⟩ := h.rs
  obtain ⟨-, h6, q, he, hn, hj⟩ := h
  obtain ⟨o, X', b, m', a1, -, a3, a4⟩ := c_run (N := N) hm hB hN hN2 (nI k)
  have a0 := a1
  unfold fX4_run at a1
  rw [m_hasY hrs.gn (by decide) hk, m_bind, if_neg m_1_0] at a1
  obtain ⟨X1, r1, a1⟩ := z_bE a1
  obtain ⟨r2, u2, l2, a1⟩ := z_b2E a1
  obtain ⟨X3, e3, a1⟩ := z_ltE a1
  cases a1
  have k1 := q_rem r1
  rw [k1] at l2
  obtain ⟨ee, j, g', s', T', J', d1, d2, d3, -, d5, d6, d7, d8, d9, d10⟩ := m_runs (N := N) (m := m) hrs ⟨trivial, trivial, trivial, trivial, trivial, trivial, trivial⟩ (fun _ => trivial) (by omega) (by omega) (nI k)
  rw [l2] at d3
  obtain ⟨ee1, eg⟩ := Prod.mk.inj (Option.some.inj d3)
  subst eg
  subst ee1
  obtain ⟨v', w1, w2, w3, ⟨j', hj4, ej⟩, w5⟩ := q_run (N := N) hrs ⟨trivial, trivial, trivial, trivial, trivial, trivial, trivial⟩ (fun _ => trivial) (by omega) (by omega) q hn hk l2
  have k3 : X'.2.2 0 = u2 := by rw [e3]; exact q_x0 X1 u2
  refine ⟨r2, X', v', by rw [n_run, a0]; rfl, w1, by rw [ej]; exact m_neg (by omega), ⟨m', a3⟩, by rw [k3]; exact d5.gn, by rw [k3]; exact w3, by rw [k3, w2, d8], fun o ho => by rw [k3, d10 3 (by decide) (by decide) (by decide) (by decide) (by decide)]; exact hn o ho, by rw [k3]; exact w5 c hc hj⟩
theorem q_turn6 (h : QG B c X v) (hB : B + 5000 < 2 ^ 30) (hN : 13000 ≤ N) (hN2 : N < 2 ^ 31) {t : Nat} (h1 : 1 ≤ t) (h99 : t ≤ 99) : ∃ b X', nX4_turn N (nI t) X = some (b, X') ∧ QG (B + 5000) c X' (z_u2 v 0 1 (v 0 1 + nI t)) ∧ ∃ P, 0 < P ∧ P ≤ 40 ∧ v 0 0 = nI P ∧ b = (v 0 1 + nI t) - (v 0 1 + nI t) / nI P * nI P := by
  obtain ⟨m, P, T, J, hm, hrs, hT⟩ := h.rs
  obtain ⟨-, h6, q, he, hn, hj⟩ := h
  have hP6 := hrs.P6
  have hP4 := hrs.P40
  obtain ⟨o, X', b, m', a1, -, a3, a4⟩ := c_turn (N := N) hm hB hN hN2 (nI t)
  have a0 := a1
  unfold fX4_turn at a1
  rw [(m_tuY (N := N) h1 h99).1, m_bind, if_neg m_1_0] at a1
  obtain ⟨X1, r1, a1⟩ := z_bE a1
  obtain ⟨X3, e3, a1⟩ := z_ltE a1
  obtain ⟨r5, l5, a1⟩ := z_bE a1
  cases a1
  have k1 := q_rem r1
  have k3 : X'.2.2 0 = z_u2 (X.2.2 0) 0 2 (nI (T + t)) := by
    rw [e3, q_x0, k1, hrs.gT, nI_add]
  have vT : v 0 1 + nI t = nI (T + t) := by rw [q.eT, hrs.gT, nI_add]
  have l6 : fX2_around N ((X'.2.2 0) 0 2) (X'.2.2 0) = some r5 := l5
  rw [k3, m_u2s, m_us, m_aroundP (P := P) (by rw [m_u2s, m_un _ _ (by decide)]; exact hrs.gP) (by omega) (by omega) (by omega)] at l6
  refine ⟨r5, X', by rw [n_turn, a0]; rfl, ⟨⟨m', a3⟩, by rw [k3, m_u2s, m_un _ _ (by decide)]; exact h6, by rw [k3, vT]; exact q.tk _, ?_, fun o ho => by rw [k3, m_u2n _ _ _ (by decide)]; exact hn o ho, ?_⟩, P, by omega, hP4, q.eP.trans hrs.gP, ?_⟩
  · rw [k3, m_u2s, m_un _ _ (by decide), m_u2s, m_un _ _ (by decide)]; exact he
  · rw [k3]
    exact hj.cg (by rw [m_u2s, m_un _ _ (by decide)]) (m_u2n _ _ _ (by decide)) (m_u2n _ _ _ (by decide)) (m_u2n _ _ _ (by decide)) (by rw [m_u2s, m_un _ _ (by decide)]) (m_u2n _ _ _ (by decide))
  · rw [vT, pk_rem (by omega) (by omega) (by omega)]
    exact (Option.some.inj l6).symm
/-- what a change puts -/
def q_val (w : Nat) (x : Int32) : Prop := (w = 0 ∧ ∃ k, k < 4 ∧ x = nI k) ∨ (w = 1 ∧ ∃ k, 1 ≤ k ∧ k ≤ 9 ∧ x = nI k) ∨ ((w = 2 ∨ w = 3) ∧ (x = -1 ∨ ∃ k, k < 8 ∧ x = nI k)) ∨ (w = 4 ∧ ∃ k, k ≤ 99 ∧ x = nI k)
theorem q_num {w : Nat} {x : Int32} (h : q_val w x) : fX4_isNumberOfOrder N (nI w) x = some 1 := by
  rcases m_num (N := N) (nI w) x with ⟨a, -⟩ | ⟨a, -⟩
  · exact a
  · exfalso
    unfold fX4_isNumberOfOrder at a
    rcases h with ⟨e, k, hk, ex⟩ | ⟨e, k, k1, k9, ex⟩ | ⟨e, ex⟩ | ⟨e, k, hk, ex⟩
    · subst e
      rw [if_pos (by decide), ex, m_auY hk, m_bind, m_b1, m_ckt] at a
      exact absurd a (by decide)
    · subst e
      rw [if_neg (by decide), if_pos (by decide)] at a
      rcases m_wk (N := N) x with ⟨b, -⟩ | ⟨b, -⟩
      · rw [b, m_bind, m_b1, m_ckt] at a
        exact absurd a (by decide)
      · unfold fX4_isWork at b
        rw [ex, if_neg (show ¬ nI k < (1 : Int32) from nI_nlt (b := 1) k1 (by omega)), if_neg (show ¬ (9 : Int32) < nI k from nI_nlt (b := k) (a := 9) k9 (by decide))] at b
        exact absurd b (by decide)
    · have lk : fX4_isLink N x = some 1 := by
        rcases m_lk (N := N) x with ⟨b, -⟩ | ⟨b, -⟩
        · exact b
        · exfalso
          unfold fX4_isLink at b
          rcases ex with ex | ⟨k, hk, ex⟩
          · rw [ex] at b
            revert b; decide
          · rw [ex, if_neg (m_nN k (by omega))] at b
            revert b
            rw [if_neg (m_neg (by omega)), if_neg (m_ge16 (by omega))]
            decide
      rcases e with e | e <;> subst e
      · rw [if_neg (by decide), if_neg (by decide), if_pos (by decide), lk, m_bind, m_b1, m_ckt] at a
        exact absurd a (by decide)
      · rw [if_neg (by decide), if_neg (by decide), if_neg (by decide), if_pos (by decide), lk, m_bind, m_b1, m_ckt] at a
        exact absurd a (by decide)
    · subst e
      rw [if_neg (by decide), if_neg (by decide), if_neg (by decide), if_neg (by decide), if_pos (by decide)] at a
      rcases m_br (N := N) x with ⟨b, -⟩ | ⟨b, -⟩
      · rw [b, m_bind, m_b1, m_ckt] at a
        exact absurd a (by decide)
      · unfold fX4_isBribe at b
        rw [ex, if_neg (m_neg (by omega)), if_neg (m_nlt99 hk)] at b
        exact absurd b (by decide)
theorem q_change6 (h : QG B c X v) (hN : 13000 ≤ N) (hN2 : N < 2 ^ 31) {k w : Nat} (hk : k < 6) (hw : w < 5) {x : Int32} (hx : q_val w x) : ∃ X', nX4_change N (nI k) (nI w) x X = some (v 1 (9 * k + w), X') ∧ QG (B + 5000) c X' (z_u2 v 1 (9 * k + w) x) := by
  obtain ⟨m, P, T, J, hm, hrs, hT⟩ := h.rs
  obtain ⟨-, h6, q, he, hn, hj⟩ := h
  obtain ⟨o, X', b, m', a1, -, a3, a4⟩ := c_change (N := N) hm hN hN2 (nI k) (nI w) x
  have a0 := a1
  unfold fX4_change at a1
  rw [m_hasY hrs.gn (by decide) hk, m_bind, if_neg m_1_0, q_num hx, m_bind, if_neg m_1_0] at a1
  obtain ⟨X1, r1, a1⟩ := z_bE a1
  have k1 := q_rem r1
  rw [k1, m_repl hw (by omega), m_b2, m_lt] at a1
  cases a1
  have k3 : ((X1.1, X1.2.1, z_u3 X1.2.2 0 (z_u2 (X.2.2 0) (w + 1) k x)) : z_X).2.2 0 = z_u2 (X.2.2 0) (w + 1) k x := q_x0 _ _
  refine ⟨(X1.1, X1.2.1, z_u3 X1.2.2 0 (z_u2 (X.2.2 0) (w + 1) k x)), by rw [n_change, a0, q.or w hk (by omega)]; rfl, ⟨m', a3⟩, ?_, ?_, ?_, fun o ho => ?_, ?_⟩
  · rw [k3, m_u2n _ _ _ (by omega)]; exact h6
  · rw [k3]; exact q.set x hk (by omega)
  · rw [k3, m_u2n _ _ _ (by omega), m_u2n _ _ _ (by omega)]; exact he
  · rw [k3]
    by_cases c3 : w = 2
    · subst c3
      rw [show (2 : Nat) + 1 = 3 from rfl, m_u2s]
      by_cases co : o = k
      · subst co
        rw [m_us]
        rcases hx with ⟨e, -⟩ | ⟨e, -⟩ | ⟨-, e⟩ | ⟨e, -⟩
        · omega
        · omega
        · exact e
        · omega
      · rw [m_un _ _ co]; exact hn o ho
    · rw [m_u2n _ _ _ (by omega)]; exact hn o ho
  · rw [k3]
    exact hj.cg (by rw [m_u2n _ _ _ (by omega)]) (m_u2n _ _ _ (by omega)) (m_u2n _ _ _ (by omega)) (m_u2n _ _ _ (by omega)) (by rw [m_u2n _ _ _ (by decide)]) (m_u2n _ _ _ (by decide))
theorem q_move6 (h : QG B c X v) (hN : 13000 ≤ N) (hN2 : N < 2 ^ 31) {k p P : Nat} (hk : k < 6) (hP : v 0 0 = nI P) (hP4 : P ≤ 40) (hp : p < P) : ∃ t r X', fL_at N (nI p) v = some t ∧ fL_move N (nI k) (nI p) X = some (r, X') ∧ (((t < 0 ∨ t = nI k) ∧ r = v 1 (9 * k + 7) ∧ ∃ v1, fL_refund N (nI k) v = some v1 ∧ QG (B + 5000) c X' (z_u2 (z_u2 v1 1 (9 * k + 5) (nI p)) 1 (9 * k + 6) (-1))) ∨ (¬ t < 0 ∧ ¬ t = nI k ∧ r = -2 ∧ QG (B + 5000) c X' v)) := by
  obtain ⟨m, P', T, J, hm, hrs, hT⟩ := h.rs
  obtain ⟨-, h6, q, he, hn, hj⟩ := id h
  have hP4' := hrs.P40
  have eP : P' = P := m_nI_inj (by omega) (by omega) (hrs.gP.symm.trans (q.eP.symm.trans hP))
  subst eP
  obtain ⟨o, X', b, m', a1, -, a3, a4⟩ := c_move (N := N) hm hN hN2 (nI k) (nI p)
  obtain ⟨t, t1, t2⟩ := m_orderOn (N := N) (g := X.2.2 0) (n := 6) hrs.gn (by decide) (by omega) (nI p)
  have t3 := (q_at (N := N) q hrs.gn (by omega) (nI p)).trans t1
  have mv : fL_move N (nI k) (nI p) X = z_sm o (fun r => some (r, X')) (fun k => if k = 3 then some (-1, X') else if k = 2 then some (-2, X') else none) := by
    unfold fL_move
    rw [a1, m_b2]
  have a0 := a1
  unfold fX4_move at a1
  rw [m_hasY hrs.gn (by decide) hk, m_bind, if_neg m_1_0, m_hpY hrs.gP (by omega) hp, m_bind, if_neg m_1_0] at a1
  have fr : fX2_isFreeFor N (nI k) (nI p) (X.2.2 0) = if t = -1 then some 1 else if t = nI k then some 1 else some 0 := by
    unfold fX2_isFreeFor
    rw [t1, m_bind]
  have tn : t < 0 ↔ t = -1 := by
    rcases t2 with ⟨e, -⟩ | ⟨u, hu, -, e⟩
    · exact ⟨fun _ => e, fun _ => by rw [e]; decide⟩
    · exact ⟨fun d => absurd d (by rw [e]; exact m_neg (by omega)), fun d => by rw [d]; decide⟩
  by_cases cf : t = -1 ∨ t = nI k
  · have fr1 : fX2_isFreeFor N (nI k) (nI p) (X.2.2 0) = some 1 := by
      rw [fr]
      rcases cf with e | e
      · rw [if_pos e]
      · by_cases d : t = -1
        · rw [if_pos d]
        · rw [if_neg d, if_pos e]
    rw [fr1, m_bind, if_neg m_1_0] at a1
    obtain ⟨X1, r1, a1⟩ := z_bE a1
    have k1 := q_rem r1
    obtain ⟨a, ha4, ha⟩ := hrs.au hk
    have hput : fX2_put N (nI k) (nI p) (X.2.2 0) = some (X.2.2 0 8 k, z_u2 (z_u2 (z_u2 (z_u2 (X.2.2 0) 11 a (X.2.2 0 11 a + X.2.2 0 8 k)) 8 k 0) 6 k (nI p)) 7 k (-1)) := by
      unfold fX2_put
      rw [m_refC (by omega) ha ha4, m_b2, m_in (show k < 16 by omega) (by decide), m_ckt, m_clamp (by omega), m_lt, m_ckt, m_lt]
    rw [k1, hput, m_b2, m_lt] at a1
    obtain ⟨e1, e2⟩ := Prod.mk.inj (Option.some.inj a1)
    obtain ⟨v1, w1, w2, w3, w4, w5⟩ := q_refund (N := N) q hk ha ha4
    have w6 := (w2.set (o := k) (w := 5) (nI p) hk (by decide)).set (o := k) (w := 6) (-1) hk (by decide)
    obtain ⟨G, hG⟩ : ∃ G, G = z_u2 (z_u2 (z_u2 (z_u2 (X.2.2 0) 11 a (X.2.2 0 11 a + X.2.2 0 8 k)) 8 k 0) 6 k (nI p)) 7 k (-1) := ⟨_, rfl⟩
    have k3 : X'.2.2 0 = G := by
      rw [← e2, hG]
      exact q_x0 _ _
    have fG : ∀ r, r ≠ 6 → r ≠ 7 → r ≠ 8 → r ≠ 11 → G r = X.2.2 0 r := fun r x6 x7 x8 x11 => by rw [hG, m_u2n _ _ _ x7, m_u2n _ _ _ x6, m_u2n _ _ _ x8, m_u2n _ _ _ x11]
    refine ⟨t, X.2.2 0 8 k, X', t3, by rw [mv, ← e1]; rfl, Or.inl ⟨cf.imp tn.mpr id, (q.or 7 hk (by decide)).symm, v1, w1, ⟨m', a3⟩, ?_, ?_, ?_, fun o ho => ?_, ?_⟩⟩
    · rw [k3, fG 0 (by decide) (by decide) (by decide) (by decide)]; exact h6
    · rw [k3, hG]; exact w6
    · rw [k3, fG 0 (by decide) (by decide) (by decide) (by decide), m_u2n _ _ _ (by decide), m_u2n _ _ _ (by decide), w5]; exact he
    · rw [k3, fG 3 (by decide) (by decide) (by decide) (by decide)]; exact hn o ho
    · rw [k3]
      exact hj.cg (by rw [fG 0 (by decide) (by decide) (by decide) (by decide)]) (fG 13 (by decide) (by decide) (by decide) (by decide)) (fG 14 (by decide) (by decide) (by decide) (by decide)) (fG 15 (by decide) (by decide) (by decide) (by decide)) (by rw [m_u2n _ _ _ (by decide), m_u2n _ _ _ (by decide), w4]) (by rw [m_u2n _ _ _ (by decide), m_u2n _ _ _ (by decide), w3])
  · have fr0 : fX2_isFreeFor N (nI k) (nI p) (X.2.2 0) = some 0 := by
      rw [fr, if_neg (fun e => cf (Or.inl e)), if_neg (fun e => cf (Or.inr e))]
    rw [fr0, m_bind, if_pos m_00] at a1
    obtain ⟨e1, e2⟩ := Prod.mk.inj (Option.some.inj a1)
    subst e2
    refine ⟨t, -2, X, t3, by rw [mv, ← e1]; rfl, Or.inr ⟨fun d => cf (Or.inl (tn.mp d)), fun d => cf (Or.inr d), rfl, h.mono (by omega) (Nat.le_refl c)⟩⟩
end Q6
end
section
/-! all numbers of the class are the law's -/
section Q7
variable {N B c P T J : Nat} {X : z_X} {v : z_R} {s : Nat → Int32}
theorem q_ord (h : RS m_Al 6 P T J (X.2.2 0) s) {k w : Nat} (hk : k < 6) (hw : w < 9) : nX4_order N (nI k) (nI w) X = some (X.2.2 0 (w + 1) k) := by
  unfold nX4_order
  rw [m_hasY h.gn (by decide) hk, m_bind, if_neg m_1_0, m_in (show k < 16 by omega) (by decide), m_clamp (show k < 2 ^ 31 by omega)]
  simp only [m_ckt]
  rcases (show w = 0 ∨ w = 1 ∨ w = 2 ∨ w = 3 ∨ w = 4 ∨ w = 5 ∨ w = 6 ∨ w = 7 ∨ w = 8 by omega) with e | e | e | e | e | e | e | e | e <;> subst e <;> rfl
theorem q_waits (h : RS m_Al 6 P T J (X.2.2 0) s) (hT : T < 2 ^ 30) {k : Nat} (hk : k < 6) : (X.2.2 0 6 k = -1 → nX4_waits N (nI k) X = some (-1)) ∧ ∀ p, p < P → X.2.2 0 6 k = nI p → nX4_waits N (nI k) X = some (nI ((p + P - T % P) % P)) := by
  refine ⟨fun e => ?_, fun p hp e => ?_⟩
  · unfold nX4_waits fX2_waitFor fX2_isOnDrum
    rw [m_hasY h.gn (by decide) hk, m_bind, if_neg m_1_0, m_bind, if_neg m_1_0, m_in (show k < 16 by omega) (by decide), m_ckt, m_clamp (show k < 2 ^ 31 by omega), if_pos e, m_bind, if_pos m_00, m_bind]
  · obtain ⟨w1, -⟩ := m_wait (N := N) (m := fun _ _ => 0) h trivial trivial hT hk e hp
    unfold nX4_waits
    rw [m_hasY h.gn (by decide) hk, m_bind, if_neg m_1_0, w1, m_bind]
theorem q_at7 (h : RS m_Al 6 P T J (X.2.2 0) s) (hN : 17 ≤ N) {k p : Nat} (hk : k < 6) (hp : p < P) (e : X.2.2 0 6 k = nI p) : nX4_at N (nI p) X = some (nI k) := by
  have hP4 := h.P40
  unfold nX4_at
  obtain ⟨r, a1, a2⟩ := m_orderOn (N := N) (g := X.2.2 0) (n := 6) h.gn (by decide) hN (nI p)
  rw [m_hpY h.gP (by omega) hp, m_bind, if_neg m_1_0, a1, m_bind]
  rcases a2 with ⟨-, b⟩ | ⟨o, ho, b1, b2⟩
  · exact absurd e (b k hk)
  · by_cases c : o = k
    · subst c; rw [b2]
    · have := h.ap ho hk c (b1.trans e.symm)
      rw [b1] at this
      exact absurd this (m_nN p (by omega))
theorem q_author7 {a : Nat} (ha : a < 4) : nX4_author N (nI a) 1 X = some (X.2.2 0 10 a) ∧ nX4_author N (nI a) 2 X = some (X.2.2 0 11 a) := by
  unfold nX4_author
  rw [m_auY ha, m_bind, if_neg m_1_0, m_bind, if_neg m_1_0, m_in ha (by decide), m_clamp (show a < 2 ^ 31 by omega)]
  exact ⟨rfl, rfl⟩
theorem q_jump7 (h : RS m_Al 6 P T J (X.2.2 0) s) {i : Nat} (hi : i < J) : nX4_jump N (nI i) 0 X = some (X.2.2 0 13 i) ∧ nX4_jump N (nI i) 1 X = some (X.2.2 0 14 i) ∧ nX4_jump N (nI i) 2 X = some (X.2.2 0 15 i) := by
  have hJ := h.J256
  have n0 : ∀ w : Int32, fX0_number N (nI i) w (X.2.2 0) = if w = 0 then some (X.2.2 0 13 i) else if w = 1 then some (X.2.2 0 14 i) else some (X.2.2 0 15 i) := fun w => by
    unfold fX0_number
    rw [if_neg (m_neg (by omega)), h.gJ, if_pos ((m_ltI (by omega) (by omega)).mpr hi), m_in (show i < 256 by omega) (by decide), m_clamp (show i < 2 ^ 31 by omega)]
    rfl
  unfold nX4_jump
  rw [if_neg (m_neg (by omega)), if_neg (m_neg (by omega)), if_neg (m_neg (by omega)), n0, n0, n0]
  exact ⟨rfl, rfl, rfl⟩
theorem q_jumpE (h : RS m_Al 6 P T J (X.2.2 0) s) : nX4_jump N (nI J) 0 X = some (-1) := by
  have hJ := h.J256
  unfold nX4_jump fX0_number
  rw [if_neg (m_neg (by omega)), h.gJ, if_neg (m_neg (by omega)), if_neg (fun e => Nat.lt_irrefl J ((m_ltI (by omega) (by omega)).mp e))]
  rfl
theorem q_s32 (h : RS m_Al 6 P T J (X.2.2 0) s) (q : QO (X.2.2 0) v) (x4 x5 x6 x7 : Int32) {k : Nat} (hk : k < 6) (kk : Unit → Option Int32) : ∀ (d i fu : Nat), i + d = 9 → d < fu → lL_same_32 N x4 x5 x6 x7 (nI k) (nI (9 * k)) (X, v) kk fu (nI i) = kk () := by
  intro d
  induction d with
  | zero =>
    intro i fu hi hfu
    obtain ⟨fu, rfl⟩ : ∃ q, fu = q + 1 := ⟨fu - 1, by omega⟩
    have e : i = 9 := by omega
    subst e
    rw [lL_same_32.eq_2, if_pos (by decide)]
  | succ d ih =>
    intro i fu hi hfu
    obtain ⟨fu, rfl⟩ : ∃ q, fu = q + 1 := ⟨fu - 1, by omega⟩
    rw [lL_same_32.eq_2, if_neg (show ¬ (8 : Int32) < nI i from nI_nlt (b := i) (a := 8) (by omega) (by decide))]
    dsimp +instances only
    rw [q_ord h hk (show i < 9 by omega), m_bind, nI_add, m_in (show 9 * k + i < 54 by omega) (by decide), m_ckt, m_clamp (show 9 * k + i < 2 ^ 31 by omega), q.or i hk (by omega), if_pos rfl, nI_1]
    exact ih (i + 1) fu (by omega) (by omega)
/-- the counts of the law: open bribes, orders on the drum -/
def q_pl (g : z_R) : Nat → Int32 := fun o => if g 6 o = -1 then 0 else 1
theorem q_s15 (h : RS m_Al 6 P T J (X.2.2 0) s) (hT : T < 2 ^ 30) (q : QO (X.2.2 0) v) (hN : 20 ≤ N) (x4 x5 : Int32) : ∀ (d i fu : Nat), i + d = 6 → d < fu → lL_same_15 N x4 x5 (X, v) fu (m_sum (X.2.2 0 8) i) (m_sum (q_pl (X.2.2 0)) i) (nI i) = lL_same_179 N (m_sum (X.2.2 0 8) 6) (m_sum (q_pl (X.2.2 0)) 6) (X, v) N x4 x5 0 := by
  have hP6 := h.P6
  have hP4 := h.P40
  intro d
  induction d with
  | zero =>
    intro i fu hi hfu
    obtain ⟨fu, rfl⟩ : ∃ q, fu = q + 1 := ⟨fu - 1, by omega⟩
    have e : i = 6 := by omega
    subst e
    rw [lL_same_15.eq_2, if_pos (by decide)]
  | succ d ih =>
    intro i fu hi hfu
    obtain ⟨fu, rfl⟩ : ∃ q, fu = q + 1 := ⟨fu - 1, by omega⟩
    have hi6 : i < 6 := by omega
    have vP : v 0 0 = nI P := q.eP.trans h.gP
    have vT : v 0 1 = nI T := q.eT.trans h.gT
    have v5 : v 1 (9 * i + 5) = X.2.2 0 6 i := q.or 5 hi6 (by decide)
    have v7 : v 1 (9 * i + 7) = X.2.2 0 8 i := q.or 7 hi6 (by decide)
    have z5 : z_in (nI (9 * i + 5)) 54 = true := m_in (by omega) (by decide)
    have z7 : z_in (nI (9 * i + 7)) 54 = true := m_in (by omega) (by decide)
    have c5 : (nI (9 * i + 5)).toNatClampNeg = 9 * i + 5 := m_clamp (by omega)
    have c7 : (nI (9 * i + 7)).toNatClampNeg = 9 * i + 7 := m_clamp (by omega)
    have i7 : nI (9 * i) + (7 : Int32) = nI (9 * i + 7) := nI_add (9 * i) 7
    have i5 : nI (9 * i) + (5 : Int32) = nI (9 * i + 5) := nI_add (9 * i) 5
    have s8 : m_sum (X.2.2 0 8) i + X.2.2 0 8 i = m_sum (X.2.2 0 8) (i + 1) := rfl
    rw [lL_same_15.eq_2, if_neg (q_ge6 hi6), q_i0]
    rw [show (0 : Int32) = nI 0 from rfl, q_s32 h q x4 x5 _ _ hi6 _ 9 0 N (by omega) (by omega), nI_0]
    dsimp +instances only
    have j0 : jL_same_139_15 N (lL_same_15 N x4 x5 (X, v) fu) x4 x5 (m_sum (X.2.2 0 8) i) (m_sum (q_pl (X.2.2 0)) i) (nI i) (nI (9 * i)) (X, v) = lL_same_15 N x4 x5 (X, v) fu (m_sum (X.2.2 0 8) (i + 1)) (m_sum (q_pl (X.2.2 0)) (i + 1)) (nI (i + 1)) := by
      unfold jL_same_139_15
      dsimp +instances only
      have sp : m_sum (q_pl (X.2.2 0)) (i + 1) = m_sum (q_pl (X.2.2 0)) i + (if X.2.2 0 6 i = -1 then 0 else 1) := rfl
      rw [i7, i5, z7, z5, m_ckt, m_ckt, c7, c5, v7, v5, s8, nI_1, sp]
      rcases h.pl hi6 with e | ⟨p, hp, e⟩
      · rw [if_pos (show X.2.2 0 6 i < 0 by rw [e]; decide), if_pos e]
      · rw [if_neg (show ¬ X.2.2 0 6 i < 0 by rw [e]; exact m_neg (by omega)), if_neg (by rw [e]; exact m_nN p (by omega))]
    rw [i5, z5, m_ckt, m_ckt, c5, v5, m_t0, m_t1, vP, vT, m_nz (show 0 < P by omega) (by omega), m_ckt, m_ckt, j0]
    rcases h.pl hi6 with e | ⟨p, hp, e⟩
    · rw [if_neg (show ¬ 0 ≤ X.2.2 0 6 i by rw [e]; decide), (q_waits h hT hi6).1 e, m_bind, if_pos rfl, if_pos (show X.2.2 0 6 i < 0 by rw [e]; decide)]
      exact ih (i + 1) fu (by omega) (by omega)
    · have ht := Nat.mod_lt T (show 0 < P by omega)
      have en : ¬ X.2.2 0 6 i < 0 := by rw [e]; exact m_neg (by omega)
      rw [if_pos (m_le0.mpr en), (q_waits h hT hi6).2 p hp e, m_bind, if_neg en, e, pk_rem (by omega) (by omega) (by omega), q_subA (by omega) (by omega), pk_sub (by omega), pk_rem (by omega) (by omega) (by omega), if_pos rfl, m_ckt, q_at7 h (by omega) hi6 hp e, m_bind, if_pos rfl]
      exact ih (i + 1) fu (by omega) (by omega)
theorem q_s179 (q : QO (X.2.2 0) v) (x6 x7 : Int32) : ∀ (d i fu : Nat), i + d = 4 → d < fu → lL_same_179 N x6 x7 (X, v) fu (m_sum (X.2.2 0 10) i) (m_sum (X.2.2 0 11) i) (nI i) = lL_same_252 N (m_sum (X.2.2 0 10) 4) (m_sum (X.2.2 0 11) 4) x6 x7 (X, v) N 0 := by
  intro d
  induction d with
  | zero =>
    intro i fu hi hfu
    obtain ⟨fu, rfl⟩ : ∃ q, fu = q + 1 := ⟨fu - 1, by omega⟩
    have e : i = 4 := by omega
    subst e
    rw [lL_same_179.eq_2, if_pos (by decide)]
  | succ d ih =>
    intro i fu hi hfu
    obtain ⟨fu, rfl⟩ : ∃ q, fu = q + 1 := ⟨fu - 1, by omega⟩
    have hi4 : i < 4 := by omega
    rw [lL_same_179.eq_2, if_neg (m_ge4 hi4)]
    dsimp +instances only
    rw [(q_author7 (N := N) (X := X) hi4).1, (q_author7 (N := N) (X := X) hi4).2, m_bind, m_bind, show (3 : Int32) + nI i = nI (3 + i) from nI_add 3 i, show (7 : Int32) + nI i = nI (7 + i) from nI_add 7 i, m_in (show 3 + i < 12 by omega) (by decide), m_in (show 7 + i < 12 by omega) (by decide), m_ckt, m_ckt, m_ckt, m_ckt, m_clamp (show 3 + i < 2 ^ 31 by omega), m_clamp (show 7 + i < 2 ^ 31 by omega), q.pd hi4, q.rf hi4, if_pos rfl, if_pos rfl, nI_1]
    exact ih (i + 1) fu (by omega) (by omega)
theorem q_about7 (h : RS m_Al 6 P T J (X.2.2 0) s) (hN : 20 ≤ N) (hN2 : N < 2 ^ 31) (hT : T < 2 ^ 30) : nX4_about N 0 X = some (nI P) ∧ nX4_about N 2 X = some (nI T) ∧ nX4_about N 3 X = some (nI (T % P)) ∧ nX4_about N 4 X = some (m_sum (q_pl (X.2.2 0)) 6) ∧ nX4_about N 5 X = some (m_sum (X.2.2 0 10) 4) ∧ nX4_about N 6 X = some (m_sum (X.2.2 0 11) 4) ∧ nX4_about N 7 X = some (m_sum (X.2.2 0 8) 6) ∧ nX4_about N 8 X = some (nI J) ∧ nX4_about N 9 X = some (X.2.2 0 0 3) := by
  have hP6 := h.P6
  have hP4 := h.P40
  have ld : fX2_laidOrders N (X.2.2 0) = some (m_sum (q_pl (X.2.2 0)) 6) := m_ldL h 6 0 N (by omega) (by omega)
  have sm : fX4_sum N 16 (X.2.2 0 8) = some (m_sum (X.2.2 0 8) 6) := by
    rw [m_sumC (by omega) hN2, show 16 = 6 + 10 from rfl, m_sum0 10 (fun i h1 h2 => h.op0 h1 (by omega))]
  unfold nX4_about
  rw [h.gP, h.gT, h.gJ, m_aroundP h.gP (by omega) (by omega) (by omega), ld, m_sumC (show 4 < N by omega) hN2, m_sumC (show 4 < N by omega) hN2, sm]
  exact ⟨rfl, rfl, rfl, rfl, rfl, rfl, rfl, rfl, rfl⟩
theorem q_s252 (h : RS m_Al 6 P T J (X.2.2 0) s) (hT : T < 2 ^ 30) (q : QO (X.2.2 0) v) (he : v 0 2 = X.2.2 0 0 3) (hc : c < 2 ^ 29) (hj : QJ c (X.2.2 0) v) (hN : 20 ≤ N) (hN2 : N < 2 ^ 31) : ∀ (d i fu : Nat), i + d = J → d < fu → lL_same_252 N (m_sum (X.2.2 0 10) 4) (m_sum (X.2.2 0 11) 4) (m_sum (X.2.2 0 8) 6) (m_sum (q_pl (X.2.2 0)) 6) (X, v) fu (nI i) = some 1 := by
  have hP6 := h.P6
  have hP4 := h.P40
  have hJ := h.J256
  obtain ⟨j1, J', j2, j3, j4, -, -⟩ := hj
  have eJ : J' = J := m_nI_inj (by omega) (by omega) (j3.symm.trans h.gJ)
  subst eJ
  have v11 : v 0 11 = nI J' := j1.trans j3
  have vP : v 0 0 = nI P := q.eP.trans h.gP
  have vT : v 0 1 = nI T := q.eT.trans h.gT
  obtain ⟨a0, a2, a3, a4, a5, a6, a7, a8, a9⟩ := q_about7 (N := N) h hN hN2 hT
  intro d
  induction d with
  | zero =>
    intro i fu hi hfu
    obtain ⟨fu, rfl⟩ : ∃ q, fu = q + 1 := ⟨fu - 1, by omega⟩
    have e : i = J' := by omega
    subst e
    rw [lL_same_252.eq_2]
    dsimp +instances only
    rw [q_t11, v11, if_pos (nI_le (Nat.le_refl i) (by omega)), a0, m_bind, m_t0, vP, if_pos rfl, a2, m_bind, m_t1, vT, if_pos rfl, a3, m_bind, m_nz (show 0 < P by omega) (by omega), m_ckt, pk_rem (by omega) (by omega) (by omega), if_pos rfl, a4, m_bind, if_pos rfl, a5, m_bind, if_pos rfl, a6, m_bind, if_pos rfl, a7, m_bind, if_pos rfl, a8, m_bind, if_pos rfl, a9, m_bind, m_t2, he, if_pos rfl, q_jumpE h, m_bind, if_pos rfl]
  | succ d ih =>
    intro i fu hi hfu
    obtain ⟨fu, rfl⟩ : ∃ q, fu = q + 1 := ⟨fu - 1, by omega⟩
    have hiJ : i < J' := by omega
    obtain ⟨x, y, k, hx, hy, k1, k2, g13, g14, g15, v2⟩ := j4 i hiJ
    obtain ⟨b0, b1, b2⟩ := q_jump7 (N := N) h hiJ
    rw [lL_same_252.eq_2]
    dsimp +instances only
    rw [q_t11, v11, if_neg (nI_ge hiJ (by omega)), b0, b1, b2, m_bind, m_bind, m_bind, g13, g14, g15, q_8x, m_in (show 8 * x + y < 64 by omega) (by decide), m_ckt, m_clamp (show 8 * x + y < 2 ^ 31 by omega), v2, if_pos rfl, m_bind, if_pos (show (1 : Int32) ≤ nI k from nI_le (a := 1) k1 (by omega)), nI_1]
    exact ih (i + 1) fu (by omega) (by omega)
theorem q_same7 (hq : QG B c X v) (hB : B < 2 ^ 30) (hc : c < 2 ^ 29) (hN : 13000 ≤ N) (hN2 : N < 2 ^ 31) : fL_same N (X, v) = some 1 := by
  obtain ⟨m, P, T, J, -, h, hT⟩ := hq.rs
  obtain ⟨-, -, q, he, -, hj⟩ := hq
  have hJ := h.J256
  have e1 := q_s15 (N := N) h (by omega) q (by omega) 0 0 6 0 N (by omega) (by omega)
  have e2 := q_s179 (N := N) q (m_sum (X.2.2 0 8) 6) (m_sum (q_pl (X.2.2 0)) 6) 4 0 N (by omega) (by omega)
  have e3 := q_s252 (N := N) h (by omega) q he hc hj (by omega) hN2 J 0 N (by omega) (by omega)
  unfold fL_same
  exact e1.trans (e2.trans e3)
end Q7
end
section
/-! what runs, layings, places and bribes would bring -/
theorem q_cpL {N ln : Nat} (hl : ln < 2 ^ 31) (f u : Nat → Int32) : ∀ (k i fu : Nat), i + k = ln → k < fu → lL_copy_2 N ln f fu (nI i) (m_up f u i) = some (m_up f u ln) := by
  intro k
  induction k with
  | zero =>
    intro i fu hi hfu
    obtain ⟨fu, rfl⟩ : ∃ q, fu = q + 1 := ⟨fu - 1, by omega⟩
    have e : i = ln := by omega
    subst e
    rw [lL_copy_2.eq_2, show (Int32.ofNat i) = nI i from rfl, if_pos (nI_le (Nat.le_refl i) hl)]
  | succ k ih =>
    intro i fu hi hfu
    obtain ⟨fu, rfl⟩ : ∃ q, fu = q + 1 := ⟨fu - 1, by omega⟩
    rw [lL_copy_2.eq_2, show (Int32.ofNat ln) = nI ln from rfl, if_neg (nI_ge (by omega) hl), m_in (by omega) hl, m_ckt, m_ckt, m_clamp (by omega), m_lt, nI_1]
    have e : upd (m_up f u i) i (f i) = m_up f u (i + 1) := by
      funext j
      by_cases c : j = i
      · subst c
        rw [m_us]
        exact (if_pos (Nat.lt_succ_self j)).symm
      · rw [m_un _ _ c]
        unfold m_up
        by_cases c2 : j < i
        · rw [if_pos c2, if_pos (by omega)]
        · rw [if_neg c2, if_neg (by omega)]
    rw [e]
    exact ih (i + 1) fu (by omega) (by omega)
theorem q_cp {N ln : Nat} (hl : ln < N) (hN : N < 2 ^ 31) (f u : Nat → Int32) : fL_copy N ln f u = some (m_up f u ln) := by
  have e : m_up f u 0 = u := by
    funext j
    exact if_neg (Nat.not_lt_zero j)
  have h := q_cpL (N := N) (ln := ln) (by omega) f u ln 0 N (by omega) hl
  rw [e] at h
  exact h
section Q8
variable {N B c P T J : Nat} {X : z_X} {g v w : z_R} {s : Nat → Int32}
theorem QO.cg {v' : z_R} (h : QO g v) (h0 : ∀ k, k < 12 → v' 0 k = v 0 k) (h1 : ∀ k, k < 54 → v' 1 k = v 1 k) : QO g v' := by
  refine ⟨(h0 0 (by decide)).trans h.eP, (h0 1 (by decide)).trans h.eT, fun a ha => ⟨(h0 _ (by omega)).trans (h.pd ha), (h0 _ (by omega)).trans (h.rf ha)⟩, fun o u ho hu => (h1 _ (by omega)).trans (h.or u ho hu)⟩
/-- the law's rows copied: q, or -/
def q_c2 (v w : z_R) : z_R := z_uR (z_uR w 0 (m_up (v 0) (w 0) 12)) 1 (m_up (v 1) ((z_uR w 0 (m_up (v 0) (w 0) 12)) 1) 54)
theorem q_c2O (h : QO g v) : QO g (q_c2 v w) := by
  refine h.cg (fun k hk => ?_) (fun k hk => ?_)
  · unfold q_c2
    rw [m_other _ _ (by decide), m_same]
    exact if_pos hk
  · unfold q_c2
    rw [m_same]
    exact if_pos hk
theorem q_c2T (h : QO g v) : q_c2 v w 0 1 = v 0 1 := (q_c2O (w := w) h).eT.trans h.eT.symm
theorem q_cpy {u : z_R} (h : RS m_Al 6 P T J g s) (hu : RS m_Al 6 P T J u s) (q : QO g v) : QO u v := by
  refine ⟨by rw [q.eP, h.gP, hu.gP], by rw [q.eT, h.gT, hu.gT], fun a ha => ⟨by rw [q.pd ha, ← h.pd ha trivial, hu.pd ha trivial], by rw [q.rf ha, ← h.rf ha trivial, hu.rf ha trivial]⟩, fun o w ho hw => by rw [q.or w ho hw, ← h.or ho (by omega) (by omega) trivial, hu.or ho (by omega) (by omega) trivial]⟩
theorem q_cpN {u : z_R} (h : RS m_Al 6 P T J g s) (hu : RS m_Al 6 P T J u s) (q : QN g) : QN u := fun o ho => by
  rw [← hu.or ho (by decide) (by decide) trivial, h.or ho (by decide) (by decide) trivial]
  exact q o ho
/-- the ticks of a run: the class's on its probe, the law's on its copies -/
theorem q_ticks {j o : Nat} (h : RS m_Al 6 P T J (X.2.2 j) s) (hT : T + 4900 < 2 ^ 30) (hN : 13000 ≤ N) (hN2 : N < 2 ^ 31) (q : QO (X.2.2 j) v) (hq : QN (X.2.2 j)) (hj : j ≠ 2) (ho : o < 6) : ∃ r X' e v', fX4_ticksOfRun N j (nI o) X = some (r, X') ∧ fL_run N (nI o) v = some (e, v') ∧ r = v' 0 1 - v 0 1 ∧ X'.1 = X.1 ∧ X'.2.1 = X.2.1 ∧ (∀ k, k ≠ 2 → X'.2.2 k = X.2.2 k) := by
  obtain ⟨u, u1, u2⟩ := m_copyC (N := N) h (by omega) hN2 (X.2.2 2)
  have hu := u2 (s'' := s) h (fun _ _ => rfl)
  obtain ⟨e, je, g', s', T', J', e1, e2, e3, -⟩ := m_runs (N := N) (m := fun _ _ => 0) hu ⟨trivial, trivial, trivial, trivial, trivial, trivial, trivial⟩ (fun _ => trivial) (by omega) hT (nI o)
  obtain ⟨v', w1, -, w3, -⟩ := q_run (N := N) hu ⟨trivial, trivial, trivial, trivial, trivial, trivial, trivial⟩ (fun _ => trivial) (by omega) hT (q_cpy h hu q) (q_cpN h hu hq) ho e3
  refine ⟨g' 0 2 - X.2.2 j 0 2, (X.1, X.2.1, z_u3 (z_u3 X.2.2 2 u) 2 g'), e, v', ?_, w1, by rw [w3.eT, q.eT], rfl, rfl, fun k hk => ?_⟩
  · unfold fX4_ticksOfRun
    rw [u1, m_bind, m_lt]
    dsimp +instances only
    rw [m_u3s, e3, m_b2, m_lt]
    dsimp +instances only
    rw [m_u3s, m_u3n _ g' hj, m_u3n _ u hj]
  · show z_u3 (z_u3 X.2.2 2 u) 2 g' k = _
    rw [m_u3n _ _ hk, m_u3n _ _ hk]
theorem QG.pr {X' : z_X} (h : QG B c X v) (h1 : X'.1 = X.1) (h2 : X'.2.1 = X.2.1) (h3 : ∀ k, k = 0 ∨ 3 ≤ k → X'.2.2 k = X.2.2 k) : QG B c X' v := by
  obtain ⟨⟨m, hm⟩, h6, q, he, hn, hj⟩ := h
  have e := h3 0 (Or.inl rfl)
  refine ⟨⟨m, hm.tk h1 h2 h3 (fun _ _ => rfl) ⟨rfl, rfl, rfl, rfl⟩ ⟨rfl, rfl⟩⟩, ?_⟩
  rw [e]
  exact ⟨h6, q, he, hn, hj⟩
/-- which places are free for an order: the law's question and the class's -/
theorem q_free (h : RS m_Al 6 P T J g s) (q : QO g v) (hN : 17 ≤ N) {k p : Nat} (hk : k < 6) (hp : p < P) : ∃ t, fL_at N (nI p) v = some t ∧ (((t < 0 ∨ t = nI k) ∧ fX2_isFreeFor N (nI k) (nI p) g = some 1 ∧ ∀ u, u < 6 → u ≠ k → g 6 u ≠ nI p) ∨ (¬ t < 0 ∧ ¬ t = nI k ∧ fX2_isFreeFor N (nI k) (nI p) g = some 0)) := by
  have hP4 := h.P40
  obtain ⟨t, t1, t2⟩ := m_orderOn (N := N) (g := g) (n := 6) h.gn (by decide) hN (nI p)
  have t3 := (q_at (N := N) q h.gn hN (nI p)).trans t1
  refine ⟨t, t3, ?_⟩
  have fr : fX2_isFreeFor N (nI k) (nI p) g = if t = -1 then some 1 else if t = nI k then some 1 else some 0 := by
    unfold fX2_isFreeFor
    rw [t1, m_bind]
  rcases t2 with ⟨e, hf⟩ | ⟨u, hu, e1, e2⟩
  · exact Or.inl ⟨Or.inl (by rw [e]; decide), by rw [fr, if_pos e], fun u hu _ => hf u hu⟩
  · have tn : ¬ t = -1 := by rw [e2]; exact m_nN u (by omega)
    have tn2 : ¬ t < 0 := by rw [e2]; exact m_neg (by omega)
    by_cases ck : t = nI k
    · have euk : u = k := m_nI_inj (by omega) (by omega) (e2.symm.trans ck)
      subst euk
      refine Or.inl ⟨Or.inr ck, by rw [fr, if_neg tn, if_pos ck], fun z hz hzk e => ?_⟩
      have := h.ap hz hu hzk (e.trans e1.symm)
      rw [e] at this
      exact m_nN p (by omega) this
    · exact Or.inr ⟨tn2, ck, by rw [fr, if_neg tn, if_neg ck]⟩
/-- the search for the best place -/
def q_tb (N : Nat) (x1 x2 : Int32) (b : Int32) (Y : z_O) : Option (Int32 × z_O) :=
z_b2 (nX4_bestPlace N x1 x2 Y.1) fun r24 u24 =>
z_lt ((u24, Y.2)) fun Y25 =>
(if r24 = b then
(lL_would_255 N x1 300 (-1 : Int32) (99 : Int32) Y25)
else
some ((0 : Int32), Y25))
theorem q_bpL {g0 u : z_R} (h : RS m_Al 6 P T J g0 s) (hu : RS m_Al 6 P T J u s) (hT : T + 4900 < 2 ^ 30) (hN : 13000 ≤ N) (hN2 : N < 2 ^ 31) (q : QO g0 v) (hq : QN g0) {k o : Nat} (hk : k < 6) (ho : o < 6) (X0 : z_X) : ∀ (d i fu fv : Nat) (best la lc : Int32) (w : z_R) (X : z_X), i + d = P → d < fu → d < fv → (best = -1 ∨ ∃ b, b < i ∧ best = nI b ∧ la = lc) → X.2.2 0 = g0 → (∀ z, z_u2 (X.2.2 1) 6 k z = z_u2 u 6 k z) → ∃ b w' X', lL_would_115 N (nI k) (nI o) fu best la (nI i) (X0, v, w) = q_tb N (nI k) (nI o) b (X0, v, w') ∧ nlX4_bestPlace_51 N (nI k) (nI o) fv best lc (nI i) X = some (b, X') ∧ X'.1 = X.1 ∧ X'.2.1 = X.2.1 ∧ (∀ z, z = 0 ∨ 3 ≤ z → X'.2.2 z = X.2.2 z) := by
  have hP6 := h.P6
  have hP4 := h.P40
  have vP : v 0 0 = nI P := q.eP.trans h.gP
  intro d
  induction d with
  | zero =>
    intro i fu fv best la lc w X hi hfu hfv hb h0 ht
    obtain ⟨fu, rfl⟩ : ∃ q, fu = q + 1 := ⟨fu - 1, by omega⟩
    obtain ⟨fv, rfl⟩ : ∃ q, fv = q + 1 := ⟨fv - 1, by omega⟩
    have e : i = P := by omega
    subst e
    refine ⟨best, w, X, ?_, ?_, rfl, rfl, fun _ _ => rfl⟩
    · rw [lL_would_115.eq_2]
      dsimp +instances only
      rw [m_t0, vP, if_pos (nI_le (Nat.le_refl i) (by omega))]
      rfl
    · rw [nlX4_bestPlace_51.eq_2, h0, h.gP, if_pos (nI_le (Nat.le_refl i) (by omega))]
  | succ d ih =>
    intro i fu fv best la lc w X hi hfu hfv hb h0 ht
    obtain ⟨fu, rfl⟩ : ∃ q, fu = q + 1 := ⟨fu - 1, by omega⟩
    obtain ⟨fv, rfl⟩ : ∃ q, fv = q + 1 := ⟨fv - 1, by omega⟩
    have hiP : i < P := by omega
    have hb1 : best = -1 ∨ ∃ b, b < i + 1 ∧ best = nI b ∧ la = lc := hb.imp id fun ⟨b, h1, h2⟩ => ⟨b, by omega, h2⟩
    have bn : best < 0 ↔ best = -1 := by
      rcases hb with e | ⟨b, hb, e, -⟩
      · exact ⟨fun _ => e, fun _ => by rw [e]; decide⟩
      · exact ⟨fun d => absurd d (by rw [e]; exact m_neg (by omega)), fun d => by rw [d]; decide⟩
    obtain ⟨t, t1, t2⟩ := q_free (N := N) h q (by omega) hk hiP
    have cls : nlX4_bestPlace_51 N (nI k) (nI o) (fv + 1) best lc (nI i) X = (fX2_isFreeFor N (nI k) (nI i) g0).bind fun r8 => (if r8 = 0 then (nlX4_bestPlace_51 N (nI k) (nI o) fv best lc (nI (i + 1)) X) else z_b2 (fX4_ticksOfRun N 1 (nI o) (X.1, X.2.1, z_u3 X.2.2 1 (z_u2 (X.2.2 1) 6 k (nI i)))) fun r12 X12 => (if best = (-1 : Int32) then (nlX4_bestPlace_51 N (nI k) (nI o) fv (nI i) r12 (nI (i + 1)) X12) else (if lc ≤ r12 then (nlX4_bestPlace_51 N (nI k) (nI o) fv best lc (nI (i + 1)) X12) else (nlX4_bestPlace_51 N (nI k) (nI o) fv (nI i) r12 (nI (i + 1)) X12)))) := by
      rw [nlX4_bestPlace_51.eq_2, h0, h.gP, if_neg (nI_ge hiP (by omega)), m_in (show k < 16 by omega) (by decide), m_clamp (by omega), nI_1]
      rfl
    have lst : lL_would_115 N (nI k) (nI o) (fu + 1) best la (nI i) (X0, v, w) = (if t < 0 then jL_would_147_115 N (lL_would_115 N (nI k) (nI o) fu) (nI k) (nI o) best la (nI i) (X0, v, w) else if t = nI k then jL_would_147_115 N (lL_would_115 N (nI k) (nI o) fu) (nI k) (nI o) best la (nI i) (X0, v, w) else lL_would_115 N (nI k) (nI o) fu best la (nI (i + 1)) (X0, v, w)) := by
      rw [lL_would_115.eq_2]
      dsimp +instances only
      rw [m_t0, vP, if_neg (nI_ge hiP (by omega)), t1, m_bind, m_bind, nI_1]
    rcases t2 with ⟨a1, a2, a3⟩ | ⟨a1, a2, a3⟩
    · -- free
      rw [a2, m_bind, if_neg m_1_0] at cls
      have lst2 : lL_would_115 N (nI k) (nI o) (fu + 1) best la (nI i) (X0, v, w) = jL_would_147_115 N (lL_would_115 N (nI k) (nI o) fu) (nI k) (nI o) best la (nI i) (X0, v, w) := by
        rw [lst]
        rcases a1 with e | e
        · rw [if_pos e]
        · by_cases d : t < 0
          · rw [if_pos d]
          · rw [if_neg d, if_pos e]
      obtain ⟨W, hW⟩ : ∃ W, W = z_u2 (q_c2 v w) 1 (9 * k + 5) (nI i) := ⟨_, rfl⟩
      have qu := q_cpy h hu q
      have qW : QO (z_u2 u 6 k (nI i)) W := by rw [hW]; exact (q_c2O (w := w) qu).set (o := k) (w := 5) (nI i) hk (by decide)
      have WT : W 0 1 = v 0 1 := by rw [hW, m_u2n _ _ _ (by decide)]; exact q_c2T q
      have e6 : ∀ z, z < 6 → u 6 z = g0 6 z := fun z hz => by rw [← hu.or hz (by decide) (by decide) trivial, h.or hz (by decide) (by decide) trivial]
      have hr1 : RS m_Al 6 P T J (z_u2 u 6 k (nI i)) (upd s (12 + 9 * k + 6) (nI i)) := hu.part hk (by decide) (by decide) (m_Vd6 (Or.inr ⟨i, hiP, rfl⟩)) (fun _ => Or.inr fun z hz hzk => by rw [e6 z hz]; exact a3 z hz hzk)
      obtain ⟨X1, hX1⟩ : ∃ X1 : z_X, X1 = (X.1, X.2.1, z_u3 X.2.2 1 (z_u2 (X.2.2 1) 6 k (nI i))) := ⟨_, rfl⟩
      have x11 : X1.2.2 1 = z_u2 u 6 k (nI i) := by rw [hX1]; dsimp +instances only; rw [m_u3s, ht]
      obtain ⟨r, X2, e, w2, k1, k2, k3, k4, k5, k6⟩ := q_ticks (N := N) (X := X1) (j := 1) (v := W) (s := upd s (12 + 9 * k + 6) (nI i)) (by rw [x11]; exact hr1) hT hN hN2 (by rw [x11]; exact qW) (by rw [x11]; exact fun z hz => by rw [m_u2n _ _ _ (by decide)]; exact q_cpN h hu hq z hz) (by decide) ho
      rw [← hX1, k1, m_b2] at cls
      rw [WT] at k3
      have j147 : jL_would_147_115 N (lL_would_115 N (nI k) (nI o) fu) (nI k) (nI o) best la (nI i) (X0, v, w) = (if best < 0 then lL_would_115 N (nI k) (nI o) fu (nI i) r (nI (i + 1)) (X0, v, w2) else if la ≤ r then (if best = nI i then lL_would_115 N (nI k) (nI o) fu best r (nI (i + 1)) (X0, v, w2) else lL_would_115 N (nI k) (nI o) fu best la (nI (i + 1)) (X0, v, w2)) else lL_would_115 N (nI k) (nI o) fu (nI i) r (nI (i + 1)) (X0, v, w2)) := by
        unfold jL_would_147_115 jL_would_204_115
        dsimp +instances only
        rw [q_cp (show 12 < N by omega) hN2, m_bind, m_lt]
        dsimp +instances only
        rw [q_cp (show 54 < N by omega) hN2, m_bind, m_lt]
        dsimp +instances only
        rw [q_i5, m_in (show 9 * k + 5 < 54 by omega) (by decide), m_ckt, m_clamp (show 9 * k + 5 < 2 ^ 31 by omega), m_lt]
        dsimp +instances only
        have eW : z_u2 (z_uR (z_uR w 0 (m_up (v 0) (w 0) 12)) 1 (m_up (v 1) (z_uR w 0 (m_up (v 0) (w 0) 12) 1) 54)) 1 (9 * k + 5) (nI i) = W := by rw [hW]; rfl
        rw [eW, k2, m_b2, m_lt]
        dsimp +instances only
        rw [m_t1, ← k3, if_pos rfl, nI_1]
      have x20 : X2.2.2 0 = g0 := by rw [k6 0 (by decide), hX1]; dsimp +instances only; rw [m_u3n _ _ (by decide)]; exact h0
      have x21 : ∀ z, z_u2 (X2.2.2 1) 6 k z = z_u2 u 6 k z := fun z => by rw [k6 1 (by decide), x11, q_u2u2]
      have kp1 : X2.1 = X.1 := by rw [k4, hX1]
      have kp2 : X2.2.1 = X.2.1 := by rw [k5, hX1]
      have kp3 : ∀ z, z = 0 ∨ 3 ≤ z → X2.2.2 z = X.2.2 z := fun z hz => by rw [k6 z (by omega), hX1]; dsimp +instances only; rw [m_u3n _ _ (by omega)]
      have fin : ∀ {b' la' lc'}, (b' = -1 ∨ ∃ b, b < i + 1 ∧ b' = nI b ∧ la' = lc') → lL_would_115 N (nI k) (nI o) (fu + 1) best la (nI i) (X0, v, w) = lL_would_115 N (nI k) (nI o) fu b' la' (nI (i + 1)) (X0, v, w2) → nlX4_bestPlace_51 N (nI k) (nI o) (fv + 1) best lc (nI i) X = nlX4_bestPlace_51 N (nI k) (nI o) fv b' lc' (nI (i + 1)) X2 → ∃ b w' X', lL_would_115 N (nI k) (nI o) (fu + 1) best la (nI i) (X0, v, w) = q_tb N (nI k) (nI o) b (X0, v, w') ∧ nlX4_bestPlace_51 N (nI k) (nI o) (fv + 1) best lc (nI i) X = some (b, X') ∧ X'.1 = X.1 ∧ X'.2.1 = X.2.1 ∧ (∀ z, z = 0 ∨ 3 ≤ z → X'.2.2 z = X.2.2 z) := fun {b' la' lc'} hb' e1 e2 => by
        obtain ⟨b, w', X', p1, p2, p3, p4, p5⟩ := ih (i + 1) fu fv b' la' lc' w2 X2 (by omega) (by omega) (by omega) hb' x20 x21
        exact ⟨b, w', X', e1.trans p1, e2.trans p2, p3.trans kp1, p4.trans kp2, fun z hz => (p5 z hz).trans (kp3 z hz)⟩
      rw [j147] at lst2
      by_cases c1 : best = -1
      · rw [if_pos (bn.mpr c1)] at lst2
        rw [if_pos c1] at cls
        exact fin (Or.inr ⟨i, by omega, rfl, rfl⟩) lst2 cls
      · rw [if_neg (fun d => c1 (bn.mp d))] at lst2
        rw [if_neg c1] at cls
        obtain ⟨b, hbi, hbe, hl⟩ := hb.resolve_left c1
        subst hl
        by_cases c2 : la ≤ r
        · rw [if_pos c2, if_neg (fun e => by have := m_nI_inj (by omega) (by omega) (hbe.symm.trans e); omega)] at lst2
          rw [if_pos c2] at cls
          exact fin (Or.inr ⟨b, by omega, hbe, rfl⟩) lst2 cls
        · rw [if_neg c2] at lst2
          rw [if_neg c2] at cls
          exact fin (Or.inr ⟨i, by omega, rfl, rfl⟩) lst2 cls
    · rw [if_neg a1, if_neg a2] at lst
      rw [a3, m_bind, if_pos m_00] at cls
      obtain ⟨b, w', X', p1, p2, p3⟩ := ih (i + 1) fu fv best la lc w X (by omega) (by omega) (by omega) hb1 h0 ht
      exact ⟨b, w', X', lst.trans p1, cls.trans p2, p3⟩
end Q8
end
section
/-! the least bribe, and all that would be -/
section Q9
variable {N B c P T J : Nat} {X : z_X} {g v w : z_R} {s : Nat → Int32}
/-- the delay of the order k, laid with the bribe b -/
def q_D (N : Nat) (g : z_R) (k b : Nat) : Int32 := match fX2_layAll N (z_u2 g 5 k (nI b)) with
  | some r => r.2 7 k
  | none => 0
theorem q_Dv (h : RS m_Al 6 P T J g s) (hN : 110 ≤ N) {k b : Nat} (hk : k < 6) (hb : b ≤ 99) : ∃ g' sum, fX2_layAll N (z_u2 g 5 k (nI b)) = some (sum, g') ∧ q_D N g k b = g' 7 k ∧ (∀ m : z_R, ∀ s1 : Nat → Int32, (∀ q, q < 925 → s1 q = s q) → ∃ s', fX5_laid N (z_uR m 1 (upd s1 (12 + 9 * k + 5) (nI b))) = some (sum, z_uR m 1 s') ∧ s' (12 + 9 * k + 7) = g' 7 k) := by
  have part : ∀ s1 : Nat → Int32, (∀ q, q < 925 → s1 q = s q) → RS m_Al 6 P T J (z_u2 g 5 k (nI b)) (upd s1 (12 + 9 * k + 5) (nI b)) := fun s1 hs => by
    refine (h.ag hs).part hk (by decide) (by decide) ?_ (fun e => by omega)
    refine ⟨?_, ?_, ?_, fun _ => ⟨b, hb, rfl⟩, ?_⟩ <;> intro e <;> omega
  obtain ⟨g', s', sum, a1, -⟩ := m_layAll (N := N) (m := fun _ _ => 0) (part s (fun _ _ => rfl)) ⟨trivial, trivial, trivial, trivial, trivial⟩ (fun _ => trivial) hN
  refine ⟨g', sum, a1, by unfold q_D; rw [a1], fun m s1 hs => ?_⟩
  obtain ⟨g2, s2, sum2, b1, b2, b3, -⟩ := m_layAll (N := N) (m := m) (part s1 hs) ⟨trivial, trivial, trivial, trivial, trivial⟩ (fun _ => trivial) hN
  rw [a1] at b1
  obtain ⟨e1, e2⟩ := Prod.mk.inj (Option.some.inj b1)
  subst e1 e2
  exact ⟨s2, b2, b3.or hk (by decide) (by decide) trivial⟩
/-- the reference's search, from i up -/
theorem q_lbM (h : RS m_Al 6 P T J g s) (hN : 13000 ≤ N) {k : Nat} (hk : k < 6) : ∀ (d i fu : Nat) (m : z_R), i + d = 100 → d + 1 < fu → (∀ q, q < 925 → m 1 q = s q) → (∀ q, q < 925 → m 2 q = s q) → ∃ r m', lX5_leastBribe_43 N (nI k) fu (-1) (nI i) m = some (r, m') ∧ m' 0 0 = m 0 0 ∧ ((r = -1 ∧ ∀ b, i ≤ b → b < 100 → q_D N g k b ≠ 0) ∨ ∃ b, i ≤ b ∧ b < 100 ∧ r = nI b ∧ q_D N g k b = 0 ∧ ∀ u, i ≤ u → u < b → q_D N g k u ≠ 0) := by
  intro d
  induction d with
  | zero =>
    intro i fu m hi hfu h1 h2
    obtain ⟨fu, rfl⟩ : ∃ q, fu = q + 1 := ⟨fu - 1, by omega⟩
    have e : i = 100 := by omega
    subst e
    exact ⟨-1, m, by rw [lX5_leastBribe_43.eq_2, if_pos (by decide)], rfl, Or.inl ⟨rfl, fun b q1 q2 => by omega⟩⟩
  | succ d ih =>
    intro i fu m hi hfu h1 h2
    obtain ⟨fu, rfl⟩ : ∃ q, fu = q + 2 := ⟨fu - 2, by omega⟩
    have hi99 : i ≤ 99 := by omega
    obtain ⟨g', sum, a1, a2, a3⟩ := q_Dv (N := N) h (by omega) hk hi99
    obtain ⟨s', b1, b2⟩ := a3 m (m 1) h1
    have sp : fX5_setPart N (nI k) (4 : Int32) (nI i) m = some (z_uR m 1 (upd (m 1) (12 + 9 * k + 5) (nI i))) := by
      have e := m_setP (N := N) (m := m) (s := m 1) (p := 4) (k := 4) (r := 5) (j := k) (v := nI i) rfl rfl (by omega) (by decide)
      rw [m_self] at e
      exact e
    have p6 : fX5_part N (nI k) (6 : Int32) (z_uR m 1 s') = some (q_D N g k i) := by
      rw [m_part (p := 6) (k := 6) (r := 7) rfl rfl (by omega) (by decide), m_same, b2, a2]
    have cp : fX5_copy N 925 925 ((z_uR m 1 s') 2) (0 : Int32) (0 : Int32) ((z_uR m 1 s') 1) = some (m_cp (m 2) 0 s' 0 925) := by
      rw [m_other _ _ (by decide : (2 : Nat) ≠ 1), m_same]
      exact m_cpM (a := 0) (b := 0) rfl rfl (by decide) (by decide) (by decide) (by decide) (by omega) _ _
    have agr : ∀ q, q < 925 → (z_uR (z_uR m 1 s') 1 (m_cp (m 2) 0 s' 0 925)) 1 q = s q := fun q hq => by
      rw [m_same]
      have e := m_cpI (f := m 2) (u := s') (a := 0) (b := 0) hq
      rw [Nat.zero_add] at e
      rw [e]; exact h2 q hq
    have ag2 : ∀ q, q < 925 → (z_uR (z_uR m 1 s') 1 (m_cp (m 2) 0 s' 0 925)) 2 q = s q := fun q hq => by
      rw [m_other _ _ (by decide), m_other _ _ (by decide)]; exact h2 q hq
    have m00 : (z_uR (z_uR m 1 s') 1 (m_cp (m 2) 0 s' 0 925)) 0 0 = m 0 0 := by rw [m_other _ _ (by decide), m_other _ _ (by decide)]
    rw [lX5_leastBribe_43.eq_2, if_neg (m_nlt99 hi99), if_pos rfl, sp, m_bind, b1, m_b2, p6, m_bind]
    by_cases c0 : q_D N g k i = 0
    · rw [if_pos c0, cp, m_bind, m_lt]
      refine ⟨nI i, _, ?_, m00, Or.inr ⟨i, Nat.le_refl i, by omega, rfl, c0, fun u u1 u2 => by omega⟩⟩
      rw [lX5_leastBribe_43.eq_2]
      by_cases c9 : (99 : Int32) < nI i + 1
      · rw [if_pos c9]
      · rw [if_neg c9, if_neg (m_nN i (by omega))]
    · rw [if_neg c0, cp, m_bind, m_lt, nI_1]
      obtain ⟨r, m', d1, d2, d3⟩ := ih (i + 1) (fu + 1) _ (by omega) (by omega) agr ag2
      refine ⟨r, m', d1, d2.trans m00, ?_⟩
      rcases d3 with ⟨e, q1⟩ | ⟨b, q1, q2, q3, q4, q5⟩
      · refine Or.inl ⟨e, fun b x1 x2 => ?_⟩
        by_cases eb : b = i
        · subst eb; exact c0
        · exact q1 b (by omega) x2
      · refine Or.inr ⟨b, by omega, q2, q3, q4, fun u x1 x2 => ?_⟩
        by_cases eb : u = i
        · subst eb; exact c0
        · exact q5 u (by omega) x2
theorem q_x1n (X : z_X) (g : z_R) : ((X.1, X.2.1, z_u3 X.2.2 1 g) : z_X).2.2 0 = X.2.2 0 := m_u3n X.2.2 (k := 1) (j := 0) g (by decide)
/-- the class's search leaves the state -/
theorem q_lbI (x : Int32) : ∀ (fu : Nat) (a : Int32) (X : z_X) (r : Int32) (X' : z_X), nlX4_leastBribe_34 N x fu a X = some (r, X') → X'.2.2 0 = X.2.2 0 := by
  intro fu
  induction fu with
  | zero => intro a X r X' h; cases h
  | succ fu ih =>
    intro a X r X' h
    rw [nlX4_leastBribe_34.eq_2] at h
    by_cases c : (99 : Int32) < a
    · rw [if_pos c] at h
      cases h
      rfl
    · rw [if_neg c] at h
      obtain ⟨-, h⟩ := z_ckE h
      obtain ⟨X7, e7, h⟩ := z_ltE h
      obtain ⟨r8, u8, -, h⟩ := z_b2E h
      obtain ⟨X9, e9, h⟩ := z_ltE h
      obtain ⟨-, h⟩ := z_ckE h
      have k9 : X9.2.2 0 = X.2.2 0 := by
        rw [e9]
        show z_u3 X7.2.2 1 u8 0 = _
        rw [m_u3n _ _ (by decide), e7]
        exact q_x1n _ _
      by_cases c2 : (X9.2.2 1 7 (x).toNatClampNeg) = 0
      · rw [if_pos c2] at h
        cases h
        exact k9
      · rw [if_neg c2] at h
        exact (ih _ _ _ _ h).trans k9
theorem q_lb6 (h : QG B c X v) (hN : 13000 ≤ N) (hN2 : N < 2 ^ 31) {k : Nat} (hk : k < 6) : ∃ r X', nX4_leastBribe N (nI k) X = some (r, X') ∧ QG (B + 5000) c X' v ∧ ((r = -1 ∧ ∀ b, b < 100 → q_D N (X.2.2 0) k b ≠ 0) ∨ ∃ b, b < 100 ∧ r = nI b ∧ q_D N (X.2.2 0) k b = 0 ∧ ∀ u, u < b → q_D N (X.2.2 0) k u ≠ 0) := by
  obtain ⟨m, P, T, J, hm, hrs, hT⟩ := h.rs
  obtain ⟨-, h6, q, he, hn, hj⟩ := h
  obtain ⟨o, X', b, m', a1, a2, a3, a4⟩ := c_leastBribe (N := N) hm hN hN2 (nI k)
  -- the reference's answer
  have ref : ∃ r m2, fX5_leastBribe N (nI k) m = some (r, m2) ∧ m2 0 0 = 0 ∧ ((r = -1 ∧ ∀ b, b < 100 → q_D N (X.2.2 0) k b ≠ 0) ∨ ∃ b, b < 100 ∧ r = nI b ∧ q_D N (X.2.2 0) k b = 0 ∧ ∀ u, u < b → q_D N (X.2.2 0) k u ≠ 0) := by
    have cp : fX5_copy N 925 925 ((z_u2 m 0 0 0) 1) (0 : Int32) (0 : Int32) ((z_u2 m 0 0 0) 2) = some (m_cp (m 1) 0 (m 2) 0 925) := by
      rw [m_kd1 m 0 (by decide : (1 : Nat) ≠ 0), m_kd1 m 0 (by decide : (2 : Nat) ≠ 0)]
      exact m_cpM (a := 0) (b := 0) rfl rfl (by decide) (by decide) (by decide) (by decide) (by omega) _ _
    obtain ⟨r, m2, d1, d2, d3⟩ := q_lbM (N := N) hrs hN hk 100 0 N (z_uR (z_u2 m 0 0 0) 2 (m_cp (m 1) 0 (m 2) 0 925)) (by omega) (by omega) (fun z hz => by rw [m_other _ _ (by decide), m_kd1 m 0 (by decide : (1 : Nat) ≠ 0)]) (fun z hz => by
      rw [m_same]
      have e := m_cpI (f := m 1) (u := m 2) (a := 0) (b := 0) hz
      rw [Nat.zero_add] at e
      exact e)
    refine ⟨r, m2, ?_, by rw [d2, m_other _ _ (by decide), m_kd], ?_⟩
    · unfold fX5_leastBribe
      rw [m_ioY hrs.sn (by decide) hk, m_bind, if_neg m_1_0, m_lt, m_kd, if_pos m_z0, cp, m_bind, m_lt]
      exact d1
    · rcases d3 with ⟨e, q1⟩ | ⟨b, -, q2, q3, q4, q5⟩
      · exact Or.inl ⟨e, fun b hb => q1 b (Nat.zero_le b) hb⟩
      · exact Or.inr ⟨b, q2, q3, q4, fun u hu => q5 u (Nat.zero_le u) hu⟩
  obtain ⟨r, m2, r1, r2, r3⟩ := ref
  rw [a2] at r1
  obtain ⟨e1, e2⟩ := Prod.mk.inj (Option.some.inj r1)
  subst e1 e2
  have eo : o = .inl b := by
    rcases a4 with ⟨e, -⟩ | ⟨-, e⟩
    · exact e
    · rw [r2] at e
      exact absurd e (by decide)
  have nn : nX4_leastBribe N (nI k) X = some (b, X') := by rw [n_leastBribe, a1, eo]; rfl
  have keep : X'.2.2 0 = X.2.2 0 := by
    have hh := nn
    unfold nX4_leastBribe at hh
    rw [m_hasY hrs.gn (by decide) hk, m_bind, if_neg m_1_0] at hh
    obtain ⟨u3, -, hh⟩ := z_bE hh
    obtain ⟨X4, e4, hh⟩ := z_ltE hh
    rw [q_lbI _ _ _ _ _ _ hh, e4]
    exact q_x1n _ _
  refine ⟨b, X', nn, ⟨⟨m', a3⟩, ?_⟩, r3⟩
  rw [keep]
  exact ⟨h6, q, he, hn, hj⟩
/-- the law's search, from 99 down, and its comparison -/
theorem q_lbL (h : QG B c X v) (hN : 13000 ≤ N) (hN2 : N < 2 ^ 31) {k : Nat} (hk : k < 6) : ∀ (d fu : Nat) (x : Int32) (w : z_R), d ≤ 100 → d < fu → ((x = -1 ∧ ∀ b, d ≤ b → b < 100 → q_D N (X.2.2 0) k b ≠ 0) ∨ ∃ b, d ≤ b ∧ b < 100 ∧ x = nI b ∧ q_D N (X.2.2 0) k b = 0 ∧ ∀ u, d ≤ u → u < b → q_D N (X.2.2 0) k u ≠ 0) → ∃ X' w', lL_would_255 N (nI k) fu x (nI d - 1) (X, v, w) = some (1, (X', v, w')) ∧ QG (B + 5000) c X' v := by
  obtain ⟨m, P, T, J, hm, hrs, hT⟩ := h.rs
  obtain ⟨-, h6, q, he, hn, hj⟩ := id h
  intro d
  induction d with
  | zero =>
    intro fu x w hd hfu hx
    obtain ⟨fu, rfl⟩ : ∃ q, fu = q + 1 := ⟨fu - 1, by omega⟩
    obtain ⟨r, X', a1, a2, a3⟩ := q_lb6 (N := N) h hN hN2 hk
    have e : r = x := by
      rcases a3 with ⟨e1, p1⟩ | ⟨b1, p1, p2, p3, p4⟩ <;> rcases hx with ⟨e2, q1⟩ | ⟨b2, -, q2, q3, q4, q5⟩
      · rw [e1, e2]
      · exact absurd q4 (p1 b2 q2)
      · exact absurd p3 (q1 b1 (Nat.zero_le _) p1)
      · have : b1 = b2 := by
          rcases Nat.lt_trichotomy b1 b2 with d | d | d
          · exact absurd p3 (q5 b1 (Nat.zero_le _) d)
          · exact d
          · exact absurd q4 (p4 b2 d)
        rw [p2, q3, this]
    refine ⟨X', w, ?_, a2⟩
    rw [lL_would_255.eq_2, if_pos (by decide)]
    (try dsimp +instances only)
    rw [a1, m_b2, m_lt, if_pos e]
  | succ d ih =>
    intro fu x w hd hfu hx
    obtain ⟨fu, rfl⟩ : ∃ q, fu = q + 1 := ⟨fu - 1, by omega⟩
    have hd99 : d ≤ 99 := by omega
    obtain ⟨g', sum, a1, a2, -⟩ := q_Dv (N := N) hrs (by omega) hk hd99
    have part : RS m_Al 6 P T J (z_u2 (X.2.2 0) 5 k (nI d)) (upd (m 1) (12 + 9 * k + 5) (nI d)) := by
      refine hrs.part hk (by decide) (by decide) ?_ (fun e => by omega)
      refine ⟨?_, ?_, ?_, fun _ => ⟨d, hd99, rfl⟩, ?_⟩ <;> intro e <;> omega
    have qW : QO (z_u2 (X.2.2 0) 5 k (nI d)) (z_u2 (q_c2 v w) 1 (9 * k + 4) (nI d)) := (q_c2O (w := w) q).set (o := k) (w := 4) (nI d) hk (by decide)
    obtain ⟨w2, b1, b2, -⟩ := q_lay (N := N) part ⟨trivial, trivial, trivial, trivial, trivial⟩ (fun _ => trivial) (by omega) qW a1
    have dl : w2 1 (9 * k + 6) = q_D N (X.2.2 0) k d := by rw [a2]; exact b2.or 6 hk (by decide)
    have e1 : nI (d + 1) - 1 = nI d := nI_pred d
    have e2 : nI d + (-1) = nI d - 1 := (Int32.sub_eq_add_neg (nI d) 1).symm
    have step : lL_would_255 N (nI k) (fu + 1) x (nI (d + 1) - 1) (X, v, w) = (if q_D N (X.2.2 0) k d = 0 then lL_would_255 N (nI k) fu (nI d) (nI d - 1) (X, v, w2) else lL_would_255 N (nI k) fu x (nI d - 1) (X, v, w2)) := by
      rw [lL_would_255.eq_2, e1, if_neg (m_neg (by omega))]
      (try dsimp +instances only)
      rw [q_cp (show 12 < N by omega) hN2, m_bind, m_lt]
      (try dsimp +instances only)
      rw [q_cp (show 54 < N by omega) hN2, m_bind, m_lt]
      (try dsimp +instances only)
      rw [q_i4, q_i6, m_in (show 9 * k + 4 < 54 by omega) (by decide), m_ckt, m_clamp (show 9 * k + 4 < 2 ^ 31 by omega), m_lt]
      (try dsimp +instances only)
      have eW : z_u2 (z_uR (z_uR w 0 (m_up (v 0) (w 0) 12)) 1 (m_up (v 1) (z_uR w 0 (m_up (v 0) (w 0) 12) 1) 54)) 1 (9 * k + 4) (nI d) = z_u2 (q_c2 v w) 1 (9 * k + 4) (nI d) := rfl
      rw [eW, b1, m_b2, m_lt]
      (try dsimp +instances only)
      rw [m_in (show 9 * k + 6 < 54 by omega) (by decide), m_ckt, m_clamp (show 9 * k + 6 < 2 ^ 31 by omega), dl, e2]
    rw [step]
    by_cases c0 : q_D N (X.2.2 0) k d = 0
    · rw [if_pos c0]
      exact ih fu (nI d) w2 (by omega) (by omega) (Or.inr ⟨d, Nat.le_refl d, by omega, rfl, c0, fun u u1 u2 => by omega⟩)
    · rw [if_neg c0]
      refine ih fu x w2 (by omega) (by omega) ?_
      rcases hx with ⟨e, q1⟩ | ⟨b, q1, q2, q3, q4, q5⟩
      · refine Or.inl ⟨e, fun b x1 x2 => ?_⟩
        by_cases eb : b = d
        · subst eb; exact c0
        · exact q1 b (by omega) x2
      · refine Or.inr ⟨b, by omega, q2, q3, q4, fun u x1 x2 => ?_⟩
        by_cases eb : u = d
        · subst eb; exact c0
        · exact q5 u (by omega) x2
/-- all that would be -/
theorem q_would (h : QG B c X v) (hB : B + 5000 < 2 ^ 30) (hN : 13000 ≤ N) (hN2 : N < 2 ^ 31) {k o : Nat} (hk : k < 6) (ho : o < 6) : ∃ X' w', fL_would N (nI k) (nI o) (X, v, w) = some (1, (X', v, w')) ∧ QG (B + 5000) c X' v := by
  obtain ⟨m, P, T, J, hm, h0, hT⟩ := h.rs
  obtain ⟨-, h6, q, he, hn, hj⟩ := id h
  have hP6 := h0.P6
  have hP4 := h0.P40
  -- the run as it is
  obtain ⟨W1, hW1⟩ : ∃ W1, W1 = z_uR (q_c2 v w) 2 (m_up (v 2) (q_c2 v w 2) 64) := ⟨_, rfl⟩
  have q1 : QO (X.2.2 0) W1 := by
    rw [hW1]
    exact (q_c2O (w := w) q).cg (fun z _ => by rw [m_other _ _ (by decide)]) (fun z _ => by rw [m_other _ _ (by decide)])
  have t1 : W1 0 1 = v 0 1 := q1.eT.trans q.eT.symm
  obtain ⟨r1, X1, e1, v1, a1, a2, a3, a4, a5, a6⟩ := q_ticks (N := N) (X := X) (j := 0) (v := W1) h0 (by omega) hN hN2 q1 hn (by decide) ho
  have g1 : QG B c X1 v := h.pr a4 a5 (fun z hz => a6 z (by omega))
  have x10 : X1.2.2 0 = X.2.2 0 := a6 0 (by decide)
  have tm : nX4_time N (nI o) X = some (r1, X1) := by
    unfold nX4_time
    rw [m_hasY h0.gn (by decide) ho, m_bind, if_neg m_1_0, a1, m_b2]
  -- the run behind a laying
  obtain ⟨u, u1, u2⟩ := m_copyC (N := N) h0 (by omega) hN2 (X1.2.2 1)
  have hu := u2 (s'' := m 1) h0 (fun _ _ => rfl)
  obtain ⟨gl, sl, sum, l1, -, l3, l4⟩ := m_layAll (N := N) (m := fun _ _ => 0) hu ⟨trivial, trivial, trivial, trivial, trivial⟩ (fun _ => trivial) (by omega)
  have q2 : QO u (q_c2 v v1) := q_cpy h0 hu (q_c2O (w := v1) q)
  obtain ⟨v2, b1, b2, -⟩ := q_lay (N := N) hu ⟨trivial, trivial, trivial, trivial, trivial⟩ (fun _ => trivial) (by omega) q2 l1
  have nu : QN gl := fun z hz => by rw [l4 3 (by decide) (by decide) (by decide) (by decide) (by decide)]; exact q_cpN h0 hu hn z hz
  obtain ⟨X6, hX6⟩ : ∃ X6 : z_X, X6 = (X1.1, X1.2.1, z_u3 (z_u3 X1.2.2 1 u) 1 gl) := ⟨_, rfl⟩
  have x60 : X6.2.2 0 = X.2.2 0 := by rw [hX6]; (try dsimp +instances only); rw [m_u3n _ _ (by decide), m_u3n _ _ (by decide)]; exact x10
  have x61 : X6.2.2 1 = gl := by
    rw [hX6]
    show z_u3 (z_u3 X1.2.2 1 u) 1 gl 1 = gl
    exact m_u3s _ _ _
  obtain ⟨r7, X7, e7, v7, c1, c2, c3, c4, c5, c6⟩ := q_ticks (N := N) (X := X6) (j := 0) (v := W1) (s := m 1) (by rw [x60]; exact h0) (by omega) hN hN2 (by rw [x60]; exact q1) (by rw [x60]; exact hn) (by decide) ho
  rw [a2] at c2
  obtain ⟨-, ev⟩ := Prod.mk.inj (Option.some.inj c2)
  subst ev
  have er7 : r7 = r1 := c3.trans a3.symm
  subst er7
  have x71 : X7.2.2 1 = gl := (c6 1 (by decide)).trans x61
  obtain ⟨r8, X8, e8, v8, d1, d2, d3, d4, d5, d6⟩ := q_ticks (N := N) (X := X7) (j := 1) (v := v2) (s := sl) (by rw [x71]; exact l3) (by omega) hN hN2 (by rw [x71]; exact b2) (by rw [x71]; exact nu) (by decide) ho
  have t2 : v2 0 1 = v 0 1 := by
    rw [b2.eT, l4 0 (by decide) (by decide) (by decide) (by decide) (by decide), q.eT, hu.gT, h0.gT]
  have sv : nX4_saves N (nI o) X1 = some (r7 - r8, X8) := by
    unfold nX4_saves
    rw [x10, m_hasY h0.gn (by decide) ho, m_bind, if_neg m_1_0, u1, m_bind, m_lt]
    (try dsimp +instances only)
    rw [m_u3s, l1, m_b2, m_lt]
    (try dsimp +instances only)
    rw [← hX6, c1, m_b2, d1, m_b2]
  have g8 : QG B c X8 v := by
    refine g1.pr ?_ ?_ (fun z hz => ?_)
    · rw [d4, c4, hX6]
    · rw [d5, c5, hX6]
    · rw [d6 z (by omega), c6 z (by omega), hX6]
      (try dsimp +instances only)
      rw [m_u3n _ _ (by omega), m_u3n _ _ (by omega)]
  have x80 : X8.2.2 0 = X.2.2 0 := by rw [d6 0 (by decide), c6 0 (by decide), x60]
  -- the best place
  obtain ⟨ub, ub1, ub2⟩ := m_copyC (N := N) h0 (by omega) hN2 (X8.2.2 1)
  have hub := ub2 (s'' := m 1) h0 (fun _ _ => rfl)
  obtain ⟨b, w9, X9, f1, f2, f3, f4, f5⟩ := q_bpL (N := N) h0 hub (by omega) hN hN2 q hn hk ho X8 P 0 N N (-1) 0 0 v8 (X8.1, X8.2.1, z_u3 X8.2.2 1 ub) (by omega) (by omega) (by omega) (Or.inl rfl) (by (try dsimp +instances only); rw [m_u3n _ _ (by decide)]; exact x80) (fun z => by (try dsimp +instances only); rw [m_u3s])
  have bp : nX4_bestPlace N (nI k) (nI o) X8 = some (b, X9) := by
    unfold nX4_bestPlace
    rw [x80, m_hasY h0.gn (by decide) hk, m_bind, if_neg m_1_0, m_hasY h0.gn (by decide) ho, m_bind, if_neg m_1_0, ub1, m_bind, m_lt]
    exact f2
  have g9 : QG B c X9 v := g8.pr f3 f4 (fun z hz => by rw [f5 z hz]; (try dsimp +instances only); rw [m_u3n _ _ (by omega)])
  -- the least bribe
  obtain ⟨X10, w10, k1, k2⟩ := q_lbL (N := N) g9 hN hN2 hk 100 300 (-1) w9 (by omega) (by omega) (Or.inl ⟨rfl, fun z z1 z2 => by omega⟩)
  refine ⟨X10, w10, ?_, k2⟩
  unfold fL_would
  (try dsimp +instances only)
  rw [q_cp (show 12 < N by omega) hN2, m_bind, m_lt]
  (try dsimp +instances only)
  rw [q_cp (show 54 < N by omega) hN2, m_bind, m_lt]
  (try dsimp +instances only)
  rw [q_cp (show 64 < N by omega) hN2, m_bind, m_lt]
  (try dsimp +instances only)
  have eW1 : z_uR (z_uR (z_uR w 0 (m_up (v 0) (w 0) 12)) 1 (m_up (v 1) (z_uR w 0 (m_up (v 0) (w 0) 12) 1) 54)) 2 (m_up (v 2) (z_uR (z_uR w 0 (m_up (v 0) (w 0) 12)) 1 (m_up (v 1) (z_uR w 0 (m_up (v 0) (w 0) 12) 1) 54) 2) 64) = W1 := by rw [hW1]; rfl
  rw [eW1, a2, m_b2, m_lt]
  (try dsimp +instances only)
  rw [tm, m_b2, m_lt, m_t1]
  (try dsimp +instances only)
  rw [if_pos (show r7 = v1 0 1 - v 0 1 by rw [a3, t1]), q_cp (show 12 < N by omega) hN2, m_bind, m_lt]
  (try dsimp +instances only)
  rw [q_cp (show 54 < N by omega) hN2, m_bind, m_lt]
  (try dsimp +instances only)
  have eW2 : z_uR (z_uR v1 0 (m_up (v 0) (v1 0) 12)) 1 (m_up (v 1) (z_uR v1 0 (m_up (v 0) (v1 0) 12) 1) 54) = q_c2 v v1 := rfl
  rw [eW2, b1, m_b2, m_lt]
  (try dsimp +instances only)
  rw [d2, m_b2, m_lt]
  (try dsimp +instances only)
  rw [sv, m_b2, m_lt]
  (try dsimp +instances only)
  rw [if_pos (show r7 - r8 = (v1 0 1 - v 0 1) - (v8 0 1 - v 0 1) by rw [a3, t1, d3, t2])]
  rw [show lL_would_115 N (nI k) (nI o) N (-1) 0 0 (X8, v, v8) = lL_would_115 N (nI k) (nI o) N (-1) 0 (nI 0) (X8, v, v8) from rfl, f1]
  unfold q_tb
  (try dsimp +instances only)
  rw [bp, m_b2, m_lt, if_pos rfl]
  exact k1
end Q9
end
