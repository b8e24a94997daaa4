
/-! constructors -/
def z_fn (l : List Nat) : Nat → Nat := fun k => l.getD k 0
def z_gn (n : Nat) (l : List Nat) (u : Nat → Nat) : Nat → Nat := fun k => if k < n then l.getD k 0 else u k
theorem z_sameC {s : State} {cA cB : ClassId} {t : FieldType} (h1 : va_RA s cA t) (h2 : va_RA s cB t) : cA = cB := by
  cases t with
  | object C =>
    obtain ⟨_, _, _, _, _, e1⟩ := h1
    obtain ⟨_, _, _, _, _, e2⟩ := h2
    exact Option.some.inj (e1.symm.trans e2)
  | _ => exact Option.some.inj (Eq.trans (Eq.symm h1) h2)
abbrev z_Qn (D : va_G) {S : Type} (wf : S → va_W) (ps : S → Prop) (A : Nat → Prop) : Array Value → State → Outcome → State → Prop := va_Qv ps (z_B D wf A) A
abbrev z_PA (D : va_G) (c : Nat → ClassId) (sz : Nat) (V : va_W) (av : List Value) : Array Value → State → Prop := va_Pc av (fun U => (U.heap.size = sz ∧ va_P D vwCl V U.heap ∧ z_K D c U ∧ va_D (fun _ => True) V) ∧ va_AO RX2 U)
theorem z_blA {D : va_G} {c : Nat → ClassId} {sz : Nat} {V : va_W} {av : List Value} : FrameBlind (z_PA D c sz V av) := fun a U g mk q => by
  obtain ⟨q0, ⟨q1, qP, qK, qD⟩, qA⟩ := q
  exact ⟨q0, ⟨q1, qP, z_K.same (u := U) (U := U.calling g mk a) rfl qK, qD⟩, va_AO.moved (u := U) (U := U.calling g mk a) (Vm.Alike.refl U.vm) qA⟩
theorem z_preA {D : va_G} {c : Nat → ClassId} {V : va_W} {av : List Value} {s : State} {H : Heap} {A : Nat → Prop} (hP : va_P D vwCl V H) (hK : z_K D c s) (hD : va_D A V) (hAO : va_AO RX2 s) : ∀ U : State, U.heap = H → s.WarmedH U.vm → z_PA D c H.size V av av.toArray U := fun U hU hW => ⟨rfl, ⟨by rw [hU], by rw [hU]; exact hP, hK.moved hW, hD.weaken (fun _ _ _ _ => trivial)⟩, hAO.moved hW.alike⟩
theorem z_ofA {l : Launch} {y : MethodName} {ws ws' : List Cond} {rm : Room} {D : va_G} {c : Nat → ClassId} {sz : Nat} {V : va_W} {av : List Value} {Qf : (Nat → Prop) → Array Value → State → Outcome → State → Prop} {cc : ByteArray} {maxL mc ms : Nat} {ret : Option FieldType}
    (hy : plainFor y = true) (hw : ws = Cond.code y cc maxL ret :: ws') (hn : (lg_sl av).length ≤ maxL)
    (body : ∀ (p : Program) (e : Env) (s : State) (m : MethodId) (args : Array Value) (below : List Frame) (meth : Method) (co : Code) (A : Nat → Prop) (ls : Array Slot), p.tables.exec = Jvm.exec → co.code = cc → meth.sig.returnType = ret → co.maxLocals = maxL → (∀ w ∈ ws, w.before args s = true) → s.vm.findClass y.cls = some m.cls → meth.locks = false → meth.name = y.name → (∀ q : Nat, s.heap.size ≤ q → A q) → va_P D vwCl V s.heap → z_K D c s → va_D A V → va_AO RX2 s → lv_has ls maxL (lv_args 0 av) → s.heap.size = sz →
      W p l e rm s m args below meth co s.heap [] 0 0 (MQ below (Qf A) args s mc ms A) (F0 m 0 ls [])) :
    Met l y ws rm (z_PA D c sz V av) (Qf (va_A V sz)) mc ms (va_A V sz) := by
  refine z_ofF (cc := cc) (maxL := maxL) (ret := ret) hy hw ?_
  intro p e s m args below meth co s₁ B hml hv
  obtain ⟨rfl, ⟨hsz, hP, hK, hD0⟩, hAO⟩ := hv
  have hts := atoms_spec (ws := ws) B.pre
  have hown : s.vm.findClass y.cls = some m.cls := findClass_of_methodNamed B.named
  have hin : meth.name = y.name := (name_of_methodNamed B.named B.method).1
  have hl := lv_entry av (n := maxL) hn
  rw [lg_entry_eq]
  exact body p e s m _ below meth co (va_A V sz) _ B.exec B.bytes B.returns hml hts hown B.notSynchronized hin (fun q h => Or.inr (by rw [← hsz]; exact h)) hP hK hD0.self hAO hl hsz
theorem z_pmP {D : va_G} {V V' : va_W} {H : Heap} (hp : V.Perm V') (hP : va_P D vwCl V H) : va_P D vwCl V' H := z_subP hP fun q hq => hp.mem_iff.mpr hq
theorem z_pmD {A : Nat → Prop} {V V' : va_W} (hp : V.Perm V') (hD : va_D A V) : va_D A V' := z_Dof ((hp.map Prod.fst).nodup_iff.mp (z_nd hD)) fun q hq => by
  obtain ⟨i, hi⟩ := List.getElem?_of_mem (hp.mem_iff.mpr hq)
  exact hD.2 i q hi
theorem z_pm2 (A R B P : va_W) : ((A ++ R) ++ (B ++ P)).Perm ((A ++ B) ++ (R ++ P)) := by
  rw [List.append_assoc, List.append_assoc]
  refine List.Perm.append_left A ?_
  rw [← List.append_assoc, ← List.append_assoc]
  exact List.Perm.append_right P List.perm_append_comm
section ZC
variable {p : Program} {l : Launch} {e : Env} {R : Room} {s : State} {m : MethodId} {args : Array Value} {below : List Frame} {meth : Method} {co : Code} {H : Heap} {locs : List Loc} {cells slots : Nat} {Q : State → Prop}
variable {cc bytes : ByteArray} {pc nL maxL n index mc ms : Nat} {ls : Array Slot} {own C host : String} {y : MethodName} {ret : Option FieldType} {Ts ws : List Cond} {rm : Room} {As rest st0 : List Value} {b : Nat} {D : va_G} {c : Nat → ClassId} {A0 : Nat → Prop} {H0 : Heap}
/-- behind a constructor: the rest of the world, and what it made -/
theorem z_jnN {V w1 : va_W} {q : Nat} {x : va_E} {H1 : Heap} (hP : va_P D vwCl (V ++ [(q, x)]) H) (hD : va_D A0 (V ++ [(q, x)])) (hF : ∀ a, va_A [(q, x)] H.size a → A0 a) (hk : ∀ a : Nat, a < H.size → ¬ va_A [(q, x)] H.size a → H1[a]? = H[a]?) (hP1 : va_P D vwCl w1 H1) (hD1 : va_D (va_A [(q, x)] H.size) w1) : va_P D vwCl (V ++ w1) H1 ∧ va_D A0 (V ++ w1) := by
  have hPV : va_P D vwCl V H := z_subP hP fun z hz => List.mem_append_left _ hz
  have hnd := z_nd hD
  rw [List.map_append, List.nodup_append] at hnd
  have hnot : ∀ z ∈ V, z.1 < H.size ∧ ¬ va_A [(q, x)] H.size z.1 := by
    intro z hz
    obtain ⟨i, hi⟩ := List.getElem?_of_mem hz
    have hlt := (hPV i z hi).lt
    refine ⟨hlt, fun hA => ?_⟩
    rcases hA with ⟨k2, e2, h2⟩ | h2
    · have h3 := List.mem_of_getElem? h2
      have h4 : (z.1, e2) = (q, x) := by simpa using h3
      have h5 : z.1 = q := congrArg Prod.fst h4
      exact hnd.2.2 z.1 (List.mem_map.mpr ⟨z, hz, rfl⟩) q (by simp) h5
    · exact absurd hlt (Nat.not_lt.mpr h2)
  refine ⟨fun k z hz => ?_, z_Dof ?_ ?_⟩
  · rcases List.mem_append.mp (List.mem_of_getElem? hz) with h | h
    · obtain ⟨i, hi⟩ := List.getElem?_of_mem h
      exact (hPV i z hi).kept (hk z.1 (hnot z h).1 (hnot z h).2)
    · obtain ⟨i, hi⟩ := List.getElem?_of_mem h
      exact hP1 i z hi
  · rw [List.map_append, List.nodup_append]
    refine ⟨hnd.1, z_nd hD1, fun u hu v hv => ?_⟩
    obtain ⟨z, hz, rfl⟩ := List.mem_map.mp hu
    obtain ⟨w, hw, rfl⟩ := List.mem_map.mp hv
    obtain ⟨i, hi⟩ := List.getElem?_of_mem hw
    intro he
    have := hD1.2 i w hi
    rw [← he] at this
    exact (hnot z hz).2 this
  · intro z hz
    rcases List.mem_append.mp hz with h | h
    · obtain ⟨i, hi⟩ := List.getElem?_of_mem (List.mem_append_left [(q, x)] h)
      exact hD.2 i z hi
    · obtain ⟨i, hi⟩ := List.getElem?_of_mem h
      exact hF z.1 (hD1.2 i z hi)
/-- a new cell's constructor, private to a nest mate -/
theorem z_xN {S : Type} {wf : S → va_W} {ps : S → Prop} {Pc : Array Value → State → Prop} {V : va_W} {q : Nat} {x : va_E} (S0 : CallFix p m co cc nL s args Ts own)
    (hM : Met l y ws rm Pc (z_Qn D wf ps (va_A [(q, x)] H.size)) mc ms (va_A [(q, x)] H.size)) (hpre : PreS s H Pc (.ref q :: []))
    (cw : va_CN R s args own index y host bytes maxL none ws rm mc ms 0 ∧ y.name = "<init>" ∧ (Cond.instanceMethod y).before args s = true) (hP : va_P D vwCl (V ++ [(q, x)]) H) (hD : va_D A0 (V ++ [(q, x)])) (hS : va_S A0 H0 H locs) (hA : ∀ q : Nat, H0.size ≤ q → A0 q)
    (hsize : ls.size = nL) (hW : (rest.map fun v => v.category).sum ≤ 8) (hdg : decode cc pc = .ok (.invokespecial index, 3)) (hf : cells + mc ≤ R.cells ∧ slots + ms ≤ R.slots)
    (kk : ∀ (u : S) (H1 : Heap) (locs1 : List Loc), ps u → va_P D vwCl (V ++ wf u) H1 → va_D A0 (V ++ wf u) → va_S A0 H0 H1 locs1 → W p l e R s m args below meth co H1 locs1 (cells + mc) (slots + ms) Q (F0 m (pc + 3) ls rest)) : W p l e R s m args below meth co H locs cells slots Q (F0 m pc ls (.ref q :: rest)) := by
  have hF := z_Fc (Vc := [(q, x)]) hD (fun z hz => List.mem_append_right _ hz) hS hA
  refine va_callv (va_runIN (As := []) (rest := rest) S0 hM cw hpre rfl rfl hsize rfl (lv_room hW) hdg hf) hS (fun q _ h => hF q h) hF (fun u t H1 locs1 ht hvm hw hB hz hk hS1 => ?_)
  obtain ⟨hP1, hD1⟩ := hB
  rw [ht] at hP1
  obtain ⟨h1, h2⟩ := z_jnN hP hD hF hk hP1 hD1
  exact kk u H1 locs1 hw h1 h2 hS1
/-- a new cell's constructor -/
theorem z_xI {S : Type} {wf : S → va_W} {ps : S → Prop} {Pc : Array Value → State → Prop} {V : va_W} {q : Nat} {x : va_E} (S0 : CallFix p m co cc nL s args Ts own)
    (hM : Met l y ws rm Pc (z_Qn D wf ps (va_A [(q, x)] H.size)) mc ms (va_A [(q, x)] H.size)) (hpre : PreS s H Pc (.ref q :: []))
    (cw : CallB R s args own index y bytes maxL none ws rm mc ms 0 ∧ y.name = "<init>" ∧ (Cond.instanceMethod y).before args s = true) (hP : va_P D vwCl (V ++ [(q, x)]) H) (hD : va_D A0 (V ++ [(q, x)])) (hS : va_S A0 H0 H locs) (hA : ∀ q : Nat, H0.size ≤ q → A0 q)
    (hsize : ls.size = nL) (hW : (rest.map fun v => v.category).sum ≤ 8) (hdg : decode cc pc = .ok (.invokespecial index, 3)) (hf : cells + mc ≤ R.cells ∧ slots + ms ≤ R.slots)
    (kk : ∀ (u : S) (H1 : Heap) (locs1 : List Loc), ps u → va_P D vwCl (V ++ wf u) H1 → va_D A0 (V ++ wf u) → va_S A0 H0 H1 locs1 → W p l e R s m args below meth co H1 locs1 (cells + mc) (slots + ms) Q (F0 m (pc + 3) ls rest)) : W p l e R s m args below meth co H locs cells slots Q (F0 m pc ls (.ref q :: rest)) := by
  have hF := z_Fc (Vc := [(q, x)]) hD (fun z hz => List.mem_append_right _ hz) hS hA
  refine va_callv (va_runI (As := []) (rest := rest) S0 hM cw hpre rfl rfl hsize rfl (lv_room hW) hdg hf) hS (fun q _ h => hF q h) hF (fun u t H1 locs1 ht hvm hw hB hz hk hS1 => ?_)
  obtain ⟨hP1, hD1⟩ := hB
  rw [ht] at hP1
  obtain ⟨h1, h2⟩ := z_jnN hP hD hF hk hP1 hD1
  exact kk u H1 locs1 hw h1 h2 hS1
/-- a new row of ints, of booleans, of longs, of states -/
theorem z_newI {V : va_W} (hx : p.tables.exec = Jvm.exec) (hb : co.code = cc) (harr : (Cond.arrayClass .int).before args s = true) (hK : z_K D c s) (hP : va_P D vwCl V H) (hD : va_D A0 V) (hS : va_S A0 H0 H locs) (hA : ∀ q, H0.size ≤ q → A0 q)
    {n : Int32} {N' : Nat} (hn : ¬ n < 0) (hN : n.toNatClampNeg = N') (hbytes : N' * 4 ≤ 536870912) (hcells : cells + 1 ≤ R.cells) (hslots : slots + N' ≤ R.slots) (hdg : decode cc pc = .ok (.newarray .int, 2))
    (kk : ∀ (q : Nat) (H1 : Heap), va_P D vwCl (V ++ [(q, .inl (c 0, N', .inl (fun _ => 0)))]) H1 → va_D A0 (V ++ [(q, .inl (c 0, N', .inl (fun _ => 0)))]) → va_S A0 H0 H1 locs → W p l e R s m args below meth co H1 locs (cells + 1) (slots + N') Q (F0 m (pc + 2) ls (.ref q :: rest))) : W p l e R s m args below meth co H locs cells slots Q (F0 m pc ls (.int n :: rest)) := by
  refine va_newa (atype := .int) (ty := .int) (a0 := (N', .inl (fun _ => 0))) hx hb harr rfl hK.1 hP hD hS hA (fun _ => rfl) hn hN hbytes hcells hslots hdg (fun q cA H1 hK1 hP1 hD1 hS1 => ?_)
  have e : cA = c 0 := z_sameC (hK1.2 4 (cA, .int) rfl).2 (hK.1.2 0 (c 0, .int) rfl).2
  rw [e] at hP1 hD1
  exact kk q H1 hP1 hD1 hS1
theorem z_newZ {V : va_W} (hx : p.tables.exec = Jvm.exec) (hb : co.code = cc) (harr : (Cond.arrayClass .boolean).before args s = true) (hK : z_K D c s) (hP : va_P D vwCl V H) (hD : va_D A0 V) (hS : va_S A0 H0 H locs) (hA : ∀ q, H0.size ≤ q → A0 q)
    {n : Int32} {N' : Nat} (hn : ¬ n < 0) (hN : n.toNatClampNeg = N') (hbytes : N' * 1 ≤ 536870912) (hcells : cells + 1 ≤ R.cells) (hslots : slots + N' ≤ R.slots) (hdg : decode cc pc = .ok (.newarray .boolean, 2))
    (kk : ∀ (q : Nat) (H1 : Heap), va_P D vwCl (V ++ [(q, .inl (c 1, N', .inl (fun _ => 0)))]) H1 → va_D A0 (V ++ [(q, .inl (c 1, N', .inl (fun _ => 0)))]) → va_S A0 H0 H1 locs → W p l e R s m args below meth co H1 locs (cells + 1) (slots + N') Q (F0 m (pc + 2) ls (.ref q :: rest))) : W p l e R s m args below meth co H locs cells slots Q (F0 m pc ls (.int n :: rest)) := by
  refine va_newa (atype := .boolean) (ty := .boolean) (a0 := (N', .inl (fun _ => 0))) hx hb harr rfl hK.1 hP hD hS hA (fun _ => rfl) hn hN hbytes hcells hslots hdg (fun q cA H1 hK1 hP1 hD1 hS1 => ?_)
  have e : cA = c 1 := z_sameC (hK1.2 4 (cA, .boolean) rfl).2 (hK.1.2 1 (c 1, .boolean) rfl).2
  rw [e] at hP1 hD1
  exact kk q H1 hP1 hD1 hS1
theorem z_newq {V : va_W} (hx : p.tables.exec = Jvm.exec) (hb : co.code = cc) (hown : s.vm.findClass own = some m.cls) (hclink : (Cond.classLink own index RX2).before args s = true) (hover : va_AO RX2 s) (hK : z_K D c s) (hP : va_P D vwCl V H) (hD : va_D A0 V) (hS : va_S A0 H0 H locs) (hA : ∀ q, H0.size ≤ q → A0 q)
    {n : Int32} {N' : Nat} (hn : ¬ n < 0) (hN : n.toNatClampNeg = N') (hbytes : N' * 4 ≤ 536870912) (hcells : cells + 1 ≤ R.cells) (hslots : slots + N' ≤ R.slots) (hdg : decode cc pc = .ok (.anewarray index, 3))
    (kk : ∀ (q : Nat) (H1 : Heap), va_P D vwCl (V ++ [(q, .inl (c 2, N', .inr (.inr (.inr (.inr (fun _ => none))))))]) H1 → va_D A0 (V ++ [(q, .inl (c 2, N', .inr (.inr (.inr (.inr (fun _ => none))))))]) → va_S A0 H0 H1 locs → W p l e R s m args below meth co H1 locs (cells + 1) (slots + N') Q (F0 m (pc + 3) ls (.ref q :: rest))) : W p l e R s m args below meth co H locs cells slots Q (F0 m pc ls (.int n :: rest)) := by
  refine va_newq hx hb hown hclink hover hK.1 hP hD hS hA hn hN hbytes hcells hslots hdg (fun q cA H1 hK1 hP1 hD1 hS1 => ?_)
  have e : cA = c 2 := z_sameC (hK1.2 4 (cA, .object RX2) rfl).2 (hK.1.2 2 (c 2, .object RX2) rfl).2
  rw [e] at hP1 hD1
  exact kk q H1 hP1 hD1 hS1
/-- an element put into a row of states -/
theorem z_astq {V : va_W} (hx : p.tables.exec = Jvm.exec) (hb : co.code = cc) (hK : z_K D c s) (hP : va_P D vwCl V H) (hD : va_D A0 V) (hS : va_S A0 H0 H locs) (q0 : Nat) {a n v : Nat} {vs : List Value} {f : Nat → Option Nat} (ha : V[q0]? = some (a, .inl (c 2, n, .inr (.inr (.inr (.inr f)))))) (hv : (v, .inr (2, vs)) ∈ V) {i : Int32} (hin : vp_in i n) (hdg : decode cc pc = .ok (.aastore, 1))
    (kk : ∀ (H1 : Heap) (locs1 : List Loc), va_P D vwCl (V.set q0 (a, .inl (c 2, n, .inr (.inr (.inr (.inr (fun j => if j = i.toNatClampNeg then some v else f j))))))) H1 → va_D A0 (V.set q0 (a, .inl (c 2, n, .inr (.inr (.inr (.inr (fun j => if j = i.toNatClampNeg then some v else f j))))))) → va_S A0 H0 H1 locs1 → W p l e R s m args below meth co H1 locs1 cells slots Q (F0 m (pc + 1) ls rest)) : W p l e R s m args below meth co H locs cells slots Q (F0 m pc ls (.ref v :: .int i :: .ref a :: rest)) := by
  obtain ⟨qk, hqk⟩ := List.getElem?_of_mem hv
  exact va_astq hx hb hK.1 hP hD hS q0 2 qk 2 ha (r := (RX2, TX2, 16)) rfl hqk rfl hin hdg kk
end ZC

abbrev rmX0_init : Room := { frames := 1, cells := 3, slots := 768, locals := 12 }
set_option maxRecDepth 100000 in
set_option maxHeartbeats 8000000 in
theorem kX0_init (l : Launch) (D : va_G) (c : Nat → ClassId) (h sz : Nat) : Met l yX0_init wsX0_init rmX0_init (z_Pc D c sz [(h, .inr (0, [.null, .null, .null, .int 0]))] [.ref h]) (z_Qn D (fun u : Nat → Nat => z_jp c u z_s0) (fun u : Nat → Nat => u 12 = h) (va_A [(h, .inr (0, [.null, .null, .null, .int 0]))] sz)) 3 768 (va_A [(h, .inr (0, [.null, .null, .null, .int 0]))] sz) := by
  refine z_ofM (cc := cX0_init) (maxL := 1) (ret := none) (Qf := fun A => z_Qn D (fun u : Nat → Nat => z_jp c u z_s0) (fun u : Nat → Nat => u 12 = h) A) (plainFor_of_name (by decide)) rfl (Nat.le_of_ble_eq_true rfl) ?_
  intro p e s m args below meth co A ls hx hb hr hml hts hown hlocks hin hA hP hK hD hl hsz
  have hiX0 : ∀ w ∈ wsX00, w ∈ wsX0_init := by decide +kernel
  have hown : s.vm.findClass RX0 = some m.cls := hown
  have hin : meth.name = "<init>" := hin
  have hl : lv_has ls 1 [(0, .ref h)] := hl
  obtain ⟨H, hH⟩ : ∃ H, H = s.heap := ⟨_, rfl⟩
  have hS : va_S A s.heap H [] := by rw [hH]; exact va_S.rf
  rw [← hH] at hP ⊢
  clear hH
  generalize ([] : List Loc) = locs at hS ⊢
  refine lv_aload_n hx hb dX0_init_0 rfl (lv_at hl 0 rfl) ?_
  refine W.objInit hx hb hown (hts (.methodLink RX0 3 objectInit) (by decide +kernel)) (hts (.instanceMethod objectInit) (by decide +kernel)) (hts (.code objectInit ⟨#[0xb1]⟩ 1 none) (by decide +kernel)) rfl (by rw [hml]; exact hl.1) rfl dX0_init_1 (Nat.le_of_ble_eq_true rfl) (Nat.le_of_ble_eq_true rfl) ?_
  refine W.eq (g2 := F0 m 4 ls []) rfl ?_
  refine lv_aload_n hx hb dX0_init_4 rfl (lv_at hl 0 rfl) ?_
  refine lv_sipush (v := (256 : Int32)) hx hb dX0_init_5 (by decide) ?_
  refine z_newI (N' := 256) hx hb (hts (.arrayClass .int) (by decide +kernel)) hK hP hD hS hA (by decide) (by decide) (Nat.le_of_ble_eq_true rfl) (Nat.le_of_ble_eq_true rfl) (Nat.le_of_ble_eq_true rfl) dX0_init_8 (fun q1 H hP hD hS => ?_)
  refine W.widen (k := 1) (n := 256) (by omega) (by omega) ?_
  have hP : va_P D vwCl ([(h, .inr (0, [.null, .null, .null, .int 0])), (q1, .inl (c 0, 256, .inl (fun _ => 0)))]) H := hP
  have hD : va_D A ([(h, .inr (0, [.null, .null, .null, .int 0])), (q1, .inl (c 0, 256, .inl (fun _ => 0)))]) := hD
  refine va_putF (D := D) (ci := 0) (v := .ref q1) (ty := .array .int) (C := RX0) (T := TX0) (N := 4) hx hb hts hiX0 tyX0 tyX0_ok nmX0 hown hK.1 hP hD hS 0 rfl rfl 0 (by decide) (hts (.fieldLink RX0 11 "ProgramDrum$Jumps" "from" "[I") (by decide +kernel)) (fun _ h9 => h9) rfl hin rfl (by decide +kernel) rfl rfl (Nat.le_of_ble_eq_true rfl) dX0_init_10 (fun H locs hP hD hS => ?_)
  have hP : va_P D vwCl ([(h, .inr (0, [.ref q1, .null, .null, .int 0])), (q1, .inl (c 0, 256, .inl (fun _ => 0)))]) H := hP
  have hD : va_D A ([(h, .inr (0, [.ref q1, .null, .null, .int 0])), (q1, .inl (c 0, 256, .inl (fun _ => 0)))]) := hD
  refine lv_aload_n hx hb dX0_init_13 rfl (lv_at hl 0 rfl) ?_
  refine lv_sipush (v := (256 : Int32)) hx hb dX0_init_14 (by decide) ?_
  refine z_newI (N' := 256) hx hb (hts (.arrayClass .int) (by decide +kernel)) hK hP hD hS hA (by decide) (by decide) (Nat.le_of_ble_eq_true rfl) (Nat.le_of_ble_eq_true rfl) (Nat.le_of_ble_eq_true rfl) dX0_init_17 (fun q2 H hP hD hS => ?_)
  refine W.widen (k := 2) (n := 512) (by omega) (by omega) ?_
  have hP : va_P D vwCl ([(h, .inr (0, [.ref q1, .null, .null, .int 0])), (q1, .inl (c 0, 256, .inl (fun _ => 0))), (q2, .inl (c 0, 256, .inl (fun _ => 0)))]) H := hP
  have hD : va_D A ([(h, .inr (0, [.ref q1, .null, .null, .int 0])), (q1, .inl (c 0, 256, .inl (fun _ => 0))), (q2, .inl (c 0, 256, .inl (fun _ => 0)))]) := hD
  refine va_putF (D := D) (ci := 0) (v := .ref q2) (ty := .array .int) (C := RX0) (T := TX0) (N := 4) hx hb hts hiX0 tyX0 tyX0_ok nmX0 hown hK.1 hP hD hS 0 rfl rfl 1 (by decide) (hts (.fieldLink RX0 15 "ProgramDrum$Jumps" "to" "[I") (by decide +kernel)) (fun _ h9 => h9) rfl hin rfl (by decide +kernel) rfl rfl (Nat.le_of_ble_eq_true rfl) dX0_init_19 (fun H locs hP hD hS => ?_)
  have hP : va_P D vwCl ([(h, .inr (0, [.ref q1, .ref q2, .null, .int 0])), (q1, .inl (c 0, 256, .inl (fun _ => 0))), (q2, .inl (c 0, 256, .inl (fun _ => 0)))]) H := hP
  have hD : va_D A ([(h, .inr (0, [.ref q1, .ref q2, .null, .int 0])), (q1, .inl (c 0, 256, .inl (fun _ => 0))), (q2, .inl (c 0, 256, .inl (fun _ => 0)))]) := hD
  refine lv_aload_n hx hb dX0_init_22 rfl (lv_at hl 0 rfl) ?_
  refine lv_sipush (v := (256 : Int32)) hx hb dX0_init_23 (by decide) ?_
  refine z_newI (N' := 256) hx hb (hts (.arrayClass .int) (by decide +kernel)) hK hP hD hS hA (by decide) (by decide) (Nat.le_of_ble_eq_true rfl) (Nat.le_of_ble_eq_true rfl) (Nat.le_of_ble_eq_true rfl) dX0_init_26 (fun q3 H hP hD hS => ?_)
  refine W.widen (k := 3) (n := 768) (by omega) (by omega) ?_
  have hP : va_P D vwCl ([(h, .inr (0, [.ref q1, .ref q2, .null, .int 0])), (q1, .inl (c 0, 256, .inl (fun _ => 0))), (q2, .inl (c 0, 256, .inl (fun _ => 0))), (q3, .inl (c 0, 256, .inl (fun _ => 0)))]) H := hP
  have hD : va_D A ([(h, .inr (0, [.ref q1, .ref q2, .null, .int 0])), (q1, .inl (c 0, 256, .inl (fun _ => 0))), (q2, .inl (c 0, 256, .inl (fun _ => 0))), (q3, .inl (c 0, 256, .inl (fun _ => 0)))]) := hD
  refine va_putF (D := D) (ci := 0) (v := .ref q3) (ty := .array .int) (C := RX0) (T := TX0) (N := 4) hx hb hts hiX0 tyX0 tyX0_ok nmX0 hown hK.1 hP hD hS 0 rfl rfl 2 (by decide) (hts (.fieldLink RX0 18 "ProgramDrum$Jumps" "times" "[I") (by decide +kernel)) (fun _ h9 => h9) rfl hin rfl (by decide +kernel) rfl rfl (Nat.le_of_ble_eq_true rfl) dX0_init_28 (fun H locs hP hD hS => ?_)
  have hP : va_P D vwCl ([(h, .inr (0, [.ref q1, .ref q2, .ref q3, .int 0])), (q1, .inl (c 0, 256, .inl (fun _ => 0))), (q2, .inl (c 0, 256, .inl (fun _ => 0))), (q3, .inl (c 0, 256, .inl (fun _ => 0)))]) H := hP
  have hD : va_D A ([(h, .inr (0, [.ref q1, .ref q2, .ref q3, .int 0])), (q1, .inl (c 0, 256, .inl (fun _ => 0))), (q2, .inl (c 0, 256, .inl (fun _ => 0))), (q3, .inl (c 0, 256, .inl (fun _ => 0)))]) := hD
  have hP9 : va_P D vwCl (z_jp c (z_fn [0, 0, 0, 0, 0, 0, 0, 0, 0, 0, 0, 0, h, q1, q2, q3]) z_s0) H := hP
  have hD9 : va_D A (z_jp c (z_fn [0, 0, 0, 0, 0, 0, 0, 0, 0, 0, 0, 0, h, q1, q2, q3]) z_s0) := hD
  exact W.vret hx hb hr (fun t ht _ => ⟨⟨z_fn [0, 0, 0, 0, 0, 0, 0, 0, 0, 0, 0, 0, h, q1, q2, q3], rfl, rfl, by rw [ht]; exact hP9, hD9⟩, hS.F ht⟩) hS.2.2 dX0_init_31
abbrev rmX3_init : Room := { frames := 1, cells := 1, slots := 160, locals := 12 }
set_option maxRecDepth 100000 in
set_option maxHeartbeats 8000000 in
theorem kX3_init (l : Launch) (D : va_G) (c : Nat → ClassId) (h sz : Nat) : Met l yX3_init wsX3_init rmX3_init (z_Pc D c sz [(h, .inr (3, [.null, .int 0]))] [.ref h]) (z_Qn D (fun u : Nat → Nat => z_tx c u z_0) (fun u : Nat → Nat => u 0 = h) (va_A [(h, .inr (3, [.null, .int 0]))] sz)) 1 160 (va_A [(h, .inr (3, [.null, .int 0]))] sz) := by
  refine z_ofM (cc := cX3_init) (maxL := 1) (ret := none) (Qf := fun A => z_Qn D (fun u : Nat → Nat => z_tx c u z_0) (fun u : Nat → Nat => u 0 = h) A) (plainFor_of_name (by decide)) rfl (Nat.le_of_ble_eq_true rfl) ?_
  intro p e s m args below meth co A ls hx hb hr hml hts hown hlocks hin hA hP hK hD hl hsz
  have hiX3 : ∀ w ∈ wsX30, w ∈ wsX3_init := by decide +kernel
  have hown : s.vm.findClass RX3 = some m.cls := hown
  have hin : meth.name = "<init>" := hin
  have hl : lv_has ls 1 [(0, .ref h)] := hl
  obtain ⟨H, hH⟩ : ∃ H, H = s.heap := ⟨_, rfl⟩
  have hS : va_S A s.heap H [] := by rw [hH]; exact va_S.rf
  rw [← hH] at hP ⊢
  clear hH
  generalize ([] : List Loc) = locs at hS ⊢
  refine lv_aload_n hx hb dX3_init_0 rfl (lv_at hl 0 rfl) ?_
  refine W.objInit hx hb hown (hts (.methodLink RX3 5 objectInit) (by decide +kernel)) (hts (.instanceMethod objectInit) (by decide +kernel)) (hts (.code objectInit ⟨#[0xb1]⟩ 1 none) (by decide +kernel)) rfl (by rw [hml]; exact hl.1) rfl dX3_init_1 (Nat.le_of_ble_eq_true rfl) (Nat.le_of_ble_eq_true rfl) ?_
  refine W.eq (g2 := F0 m 4 ls []) rfl ?_
  refine lv_aload_n hx hb dX3_init_4 rfl (lv_at hl 0 rfl) ?_
  refine lv_sipush (v := (160 : Int32)) hx hb dX3_init_5 (by decide) ?_
  refine z_newI (N' := 160) hx hb (hts (.arrayClass .int) (by decide +kernel)) hK hP hD hS hA (by decide) (by decide) (Nat.le_of_ble_eq_true rfl) (Nat.le_of_ble_eq_true rfl) (Nat.le_of_ble_eq_true rfl) dX3_init_8 (fun q1 H hP hD hS => ?_)
  refine W.widen (k := 1) (n := 160) (by omega) (by omega) ?_
  have hP : va_P D vwCl ([(h, .inr (3, [.null, .int 0])), (q1, .inl (c 0, 160, .inl (fun _ => 0)))]) H := hP
  have hD : va_D A ([(h, .inr (3, [.null, .int 0])), (q1, .inl (c 0, 160, .inl (fun _ => 0)))]) := hD
  refine va_putF (D := D) (ci := 3) (v := .ref q1) (ty := .array .int) (C := RX3) (T := TX3) (N := 2) hx hb hts hiX3 tyX3 tyX3_ok nmX3 hown hK.1 hP hD hS 0 rfl rfl 0 (by decide) (hts (.fieldLink RX3 11 "ProgramDrum$Text" "codes" "[I") (by decide +kernel)) (fun _ h9 => h9) rfl hin rfl (by decide +kernel) rfl rfl (Nat.le_of_ble_eq_true rfl) dX3_init_10 (fun H locs hP hD hS => ?_)
  have hP : va_P D vwCl ([(h, .inr (3, [.ref q1, .int 0])), (q1, .inl (c 0, 160, .inl (fun _ => 0)))]) H := hP
  have hD : va_D A ([(h, .inr (3, [.ref q1, .int 0])), (q1, .inl (c 0, 160, .inl (fun _ => 0)))]) := hD
  have hP9 : va_P D vwCl (z_tx c (z_fn [h, q1]) z_0) H := hP
  have hD9 : va_D A (z_tx c (z_fn [h, q1]) z_0) := hD
  exact W.vret hx hb hr (fun t ht _ => ⟨⟨z_fn [h, q1], rfl, rfl, by rw [ht]; exact hP9, hD9⟩, hS.F ht⟩) hS.2.2 dX3_init_13
abbrev rmX2_init : Room := { frames := 2, cells := 15, slots := 924, locals := 44 }
set_option maxRecDepth 100000 in
set_option maxHeartbeats 8000000 in
theorem kX2_init (l : Launch) (D : va_G) (c : Nat → ClassId) (h sz : Nat) : Met l yX2_init wsX2_init rmX2_init (z_Pc D c sz [(h, .inr (2, [.int 0, .int 0, .int 0, .int 0, .null, .null, .null, .null, .null, .null, .null, .null, .null, .null, .null, .null]))] [.ref h]) (z_Qn D (fun u : Nat → Nat => z_st c u z_s0) (fun u : Nat → Nat => u 0 = h) (va_A [(h, .inr (2, [.int 0, .int 0, .int 0, .int 0, .null, .null, .null, .null, .null, .null, .null, .null, .null, .null, .null, .null]))] sz)) 15 924 (va_A [(h, .inr (2, [.int 0, .int 0, .int 0, .int 0, .null, .null, .null, .null, .null, .null, .null, .null, .null, .null, .null, .null]))] sz) := by
  refine z_ofM (cc := cX2_init) (maxL := 1) (ret := none) (Qf := fun A => z_Qn D (fun u : Nat → Nat => z_st c u z_s0) (fun u : Nat → Nat => u 0 = h) A) (plainFor_of_name (by decide)) rfl (Nat.le_of_ble_eq_true rfl) ?_
  intro p e s m args below meth co A ls hx hb hr hml hts hown hlocks hin hA hP hK hD hl hsz
  have hiX2 : ∀ w ∈ wsX20, w ∈ wsX2_init := by decide +kernel
  have hiX0 : ∀ w ∈ wsX00, w ∈ wsX2_init := by decide +kernel
  have hown : s.vm.findClass RX2 = some m.cls := hown
  have hin : meth.name = "<init>" := hin
  have hl : lv_has ls 1 [(0, .ref h)] := hl
  obtain ⟨H, hH⟩ : ∃ H, H = s.heap := ⟨_, rfl⟩
  have hS : va_S A s.heap H [] := by rw [hH]; exact va_S.rf
  rw [← hH] at hP ⊢
  clear hH
  generalize ([] : List Loc) = locs at hS ⊢
  refine lv_aload_n hx hb dX2_init_0 rfl (lv_at hl 0 rfl) ?_
  refine W.objInit hx hb hown (hts (.methodLink RX2 3 objectInit) (by decide +kernel)) (hts (.instanceMethod objectInit) (by decide +kernel)) (hts (.code objectInit ⟨#[0xb1]⟩ 1 none) (by decide +kernel)) rfl (by rw [hml]; exact hl.1) rfl dX2_init_1 (Nat.le_of_ble_eq_true rfl) (Nat.le_of_ble_eq_true rfl) ?_
  refine W.eq (g2 := F0 m 4 ls []) rfl ?_
  refine lv_aload_n hx hb dX2_init_4 rfl (lv_at hl 0 rfl) ?_
  refine lv_bipush (v := (12 : Int32)) hx hb dX2_init_5 (by decide) ?_
  refine va_put (D := D) (ci := 2) (v := .int 12) (ty := .int) (C := RX2) (T := TX2) (N := 16) hx hb hts hiX2 tyX2 tyX2_ok nmX2 hown hK.1 hP hD hS 0 rfl rfl 0 (by decide) (hts (.fieldLink RX2 9 "ProgramDrum$State" "places" "I") (by decide +kernel)) (fun _ h9 => h9) rfl (by decide +kernel) rfl rfl (Nat.le_of_ble_eq_true rfl) dX2_init_7 (fun H locs hP hD hS => ?_)
  have hP : va_P D vwCl ([(h, .inr (2, [.int 12, .int 0, .int 0, .int 0, .null, .null, .null, .null, .null, .null, .null, .null, .null, .null, .null, .null]))]) H := hP
  have hD : va_D A ([(h, .inr (2, [.int 12, .int 0, .int 0, .int 0, .null, .null, .null, .null, .null, .null, .null, .null, .null, .null, .null, .null]))]) := hD
  refine lv_aload_n hx hb dX2_init_10 rfl (lv_at hl 0 rfl) ?_
  refine lv_iconst (v := (-1 : Int32)) hx hb dX2_init_11 (by decide) ?_
  refine va_put (D := D) (ci := 2) (v := .int (-1)) (ty := .int) (C := RX2) (T := TX2) (N := 16) hx hb hts hiX2 tyX2 tyX2_ok nmX2 hown hK.1 hP hD hS 0 rfl rfl 3 (by decide) (hts (.fieldLink RX2 15 "ProgramDrum$State" "lastEnd" "I") (by decide +kernel)) (fun _ h9 => h9) rfl (by decide +kernel) rfl rfl (Nat.le_of_ble_eq_true rfl) dX2_init_12 (fun H locs hP hD hS => ?_)
  have hP : va_P D vwCl ([(h, .inr (2, [.int 12, .int 0, .int 0, .int (-1), .null, .null, .null, .null, .null, .null, .null, .null, .null, .null, .null, .null]))]) H := hP
  have hD : va_D A ([(h, .inr (2, [.int 12, .int 0, .int 0, .int (-1), .null, .null, .null, .null, .null, .null, .null, .null, .null, .null, .null, .null]))]) := hD
  refine lv_aload_n hx hb dX2_init_15 rfl (lv_at hl 0 rfl) ?_
  refine lv_bipush (v := (16 : Int32)) hx hb dX2_init_16 (by decide) ?_
  refine z_newI (N' := 16) hx hb (hts (.arrayClass .int) (by decide +kernel)) hK hP hD hS hA (by decide) (by decide) (Nat.le_of_ble_eq_true rfl) (Nat.le_of_ble_eq_true rfl) (Nat.le_of_ble_eq_true rfl) dX2_init_18 (fun q1 H hP hD hS => ?_)
  refine W.widen (k := 1) (n := 16) (by omega) (by omega) ?_
  have hP : va_P D vwCl ([(h, .inr (2, [.int 12, .int 0, .int 0, .int (-1), .null, .null, .null, .null, .null, .null, .null, .null, .null, .null, .null, .null])), (q1, .inl (c 0, 16, .inl (fun _ => 0)))]) H := hP
  have hD : va_D A ([(h, .inr (2, [.int 12, .int 0, .int 0, .int (-1), .null, .null, .null, .null, .null, .null, .null, .null, .null, .null, .null, .null])), (q1, .inl (c 0, 16, .inl (fun _ => 0)))]) := hD
  refine va_putF (D := D) (ci := 2) (v := .ref q1) (ty := .array .int) (C := RX2) (T := TX2) (N := 16) hx hb hts hiX2 tyX2 tyX2_ok nmX2 hown hK.1 hP hD hS 0 rfl rfl 4 (by decide) (hts (.fieldLink RX2 18 "ProgramDrum$State" "author" "[I") (by decide +kernel)) (fun _ h9 => h9) rfl hin rfl (by decide +kernel) rfl rfl (Nat.le_of_ble_eq_true rfl) dX2_init_20 (fun H locs hP hD hS => ?_)
  have hP : va_P D vwCl ([(h, .inr (2, [.int 12, .int 0, .int 0, .int (-1), .ref q1, .null, .null, .null, .null, .null, .null, .null, .null, .null, .null, .null])), (q1, .inl (c 0, 16, .inl (fun _ => 0)))]) H := hP
  have hD : va_D A ([(h, .inr (2, [.int 12, .int 0, .int 0, .int (-1), .ref q1, .null, .null, .null, .null, .null, .null, .null, .null, .null, .null, .null])), (q1, .inl (c 0, 16, .inl (fun _ => 0)))]) := hD
  refine lv_aload_n hx hb dX2_init_23 rfl (lv_at hl 0 rfl) ?_
  refine lv_bipush (v := (16 : Int32)) hx hb dX2_init_24 (by decide) ?_
  refine z_newI (N' := 16) hx hb (hts (.arrayClass .int) (by decide +kernel)) hK hP hD hS hA (by decide) (by decide) (Nat.le_of_ble_eq_true rfl) (Nat.le_of_ble_eq_true rfl) (Nat.le_of_ble_eq_true rfl) dX2_init_26 (fun q2 H hP hD hS => ?_)
  refine W.widen (k := 2) (n := 32) (by omega) (by omega) ?_
  have hP : va_P D vwCl ([(h, .inr (2, [.int 12, .int 0, .int 0, .int (-1), .ref q1, .null, .null, .null, .null, .null, .null, .null, .null, .null, .null, .null])), (q1, .inl (c 0, 16, .inl (fun _ => 0))), (q2, .inl (c 0, 16, .inl (fun _ => 0)))]) H := hP
  have hD : va_D A ([(h, .inr (2, [.int 12, .int 0, .int 0, .int (-1), .ref q1, .null, .null, .null, .null, .null, .null, .null, .null, .null, .null, .null])), (q1, .inl (c 0, 16, .inl (fun _ => 0))), (q2, .inl (c 0, 16, .inl (fun _ => 0)))]) := hD
  refine va_putF (D := D) (ci := 2) (v := .ref q2) (ty := .array .int) (C := RX2) (T := TX2) (N := 16) hx hb hts hiX2 tyX2 tyX2_ok nmX2 hown hK.1 hP hD hS 0 rfl rfl 5 (by decide) (hts (.fieldLink RX2 22 "ProgramDrum$State" "work" "[I") (by decide +kernel)) (fun _ h9 => h9) rfl hin rfl (by decide +kernel) rfl rfl (Nat.le_of_ble_eq_true rfl) dX2_init_28 (fun H locs hP hD hS => ?_)
  have hP : va_P D vwCl ([(h, .inr (2, [.int 12, .int 0, .int 0, .int (-1), .ref q1, .ref q2, .null, .null, .null, .null, .null, .null, .null, .null, .null, .null])), (q1, .inl (c 0, 16, .inl (fun _ => 0))), (q2, .inl (c 0, 16, .inl (fun _ => 0)))]) H := hP
  have hD : va_D A ([(h, .inr (2, [.int 12, .int 0, .int 0, .int (-1), .ref q1, .ref q2, .null, .null, .null, .null, .null, .null, .null, .null, .null, .null])), (q1, .inl (c 0, 16, .inl (fun _ => 0))), (q2, .inl (c 0, 16, .inl (fun _ => 0)))]) := hD
  refine lv_aload_n hx hb dX2_init_31 rfl (lv_at hl 0 rfl) ?_
  refine lv_bipush (v := (16 : Int32)) hx hb dX2_init_32 (by decide) ?_
  refine z_newI (N' := 16) hx hb (hts (.arrayClass .int) (by decide +kernel)) hK hP hD hS hA (by decide) (by decide) (Nat.le_of_ble_eq_true rfl) (Nat.le_of_ble_eq_true rfl) (Nat.le_of_ble_eq_true rfl) dX2_init_34 (fun q3 H hP hD hS => ?_)
  refine W.widen (k := 3) (n := 48) (by omega) (by omega) ?_
  have hP : va_P D vwCl ([(h, .inr (2, [.int 12, .int 0, .int 0, .int (-1), .ref q1, .ref q2, .null, .null, .null, .null, .null, .null, .null, .null, .null, .null])), (q1, .inl (c 0, 16, .inl (fun _ => 0))), (q2, .inl (c 0, 16, .inl (fun _ => 0))), (q3, .inl (c 0, 16, .inl (fun _ => 0)))]) H := hP
  have hD : va_D A ([(h, .inr (2, [.int 12, .int 0, .int 0, .int (-1), .ref q1, .ref q2, .null, .null, .null, .null, .null, .null, .null, .null, .null, .null])), (q1, .inl (c 0, 16, .inl (fun _ => 0))), (q2, .inl (c 0, 16, .inl (fun _ => 0))), (q3, .inl (c 0, 16, .inl (fun _ => 0)))]) := hD
  refine va_putF (D := D) (ci := 2) (v := .ref q3) (ty := .array .int) (C := RX2) (T := TX2) (N := 16) hx hb hts hiX2 tyX2 tyX2_ok nmX2 hown hK.1 hP hD hS 0 rfl rfl 6 (by decide) (hts (.fieldLink RX2 25 "ProgramDrum$State" "next" "[I") (by decide +kernel)) (fun _ h9 => h9) rfl hin rfl (by decide +kernel) rfl rfl (Nat.le_of_ble_eq_true rfl) dX2_init_36 (fun H locs hP hD hS => ?_)
  have hP : va_P D vwCl ([(h, .inr (2, [.int 12, .int 0, .int 0, .int (-1), .ref q1, .ref q2, .ref q3, .null, .null, .null, .null, .null, .null, .null, .null, .null])), (q1, .inl (c 0, 16, .inl (fun _ => 0))), (q2, .inl (c 0, 16, .inl (fun _ => 0))), (q3, .inl (c 0, 16, .inl (fun _ => 0)))]) H := hP
  have hD : va_D A ([(h, .inr (2, [.int 12, .int 0, .int 0, .int (-1), .ref q1, .ref q2, .ref q3, .null, .null, .null, .null, .null, .null, .null, .null, .null])), (q1, .inl (c 0, 16, .inl (fun _ => 0))), (q2, .inl (c 0, 16, .inl (fun _ => 0))), (q3, .inl (c 0, 16, .inl (fun _ => 0)))]) := hD
  refine lv_aload_n hx hb dX2_init_39 rfl (lv_at hl 0 rfl) ?_
  refine lv_bipush (v := (16 : Int32)) hx hb dX2_init_40 (by decide) ?_
  refine z_newI (N' := 16) hx hb (hts (.arrayClass .int) (by decide +kernel)) hK hP hD hS hA (by decide) (by decide) (Nat.le_of_ble_eq_true rfl) (Nat.le_of_ble_eq_true rfl) (Nat.le_of_ble_eq_true rfl) dX2_init_42 (fun q4 H hP hD hS => ?_)
  refine W.widen (k := 4) (n := 64) (by omega) (by omega) ?_
  have hP : va_P D vwCl ([(h, .inr (2, [.int 12, .int 0, .int 0, .int (-1), .ref q1, .ref q2, .ref q3, .null, .null, .null, .null, .null, .null, .null, .null, .null])), (q1, .inl (c 0, 16, .inl (fun _ => 0))), (q2, .inl (c 0, 16, .inl (fun _ => 0))), (q3, .inl (c 0, 16, .inl (fun _ => 0))), (q4, .inl (c 0, 16, .inl (fun _ => 0)))]) H := hP
  have hD : va_D A ([(h, .inr (2, [.int 12, .int 0, .int 0, .int (-1), .ref q1, .ref q2, .ref q3, .null, .null, .null, .null, .null, .null, .null, .null, .null])), (q1, .inl (c 0, 16, .inl (fun _ => 0))), (q2, .inl (c 0, 16, .inl (fun _ => 0))), (q3, .inl (c 0, 16, .inl (fun _ => 0))), (q4, .inl (c 0, 16, .inl (fun _ => 0)))]) := hD
  refine va_putF (D := D) (ci := 2) (v := .ref q4) (ty := .array .int) (C := RX2) (T := TX2) (N := 16) hx hb hts hiX2 tyX2 tyX2_ok nmX2 hown hK.1 hP hD hS 0 rfl rfl 7 (by decide) (hts (.fieldLink RX2 28 "ProgramDrum$State" "expects" "[I") (by decide +kernel)) (fun _ h9 => h9) rfl hin rfl (by decide +kernel) rfl rfl (Nat.le_of_ble_eq_true rfl) dX2_init_44 (fun H locs hP hD hS => ?_)
  have hP : va_P D vwCl ([(h, .inr (2, [.int 12, .int 0, .int 0, .int (-1), .ref q1, .ref q2, .ref q3, .ref q4, .null, .null, .null, .null, .null, .null, .null, .null])), (q1, .inl (c 0, 16, .inl (fun _ => 0))), (q2, .inl (c 0, 16, .inl (fun _ => 0))), (q3, .inl (c 0, 16, .inl (fun _ => 0))), (q4, .inl (c 0, 16, .inl (fun _ => 0)))]) H := hP
  have hD : va_D A ([(h, .inr (2, [.int 12, .int 0, .int 0, .int (-1), .ref q1, .ref q2, .ref q3, .ref q4, .null, .null, .null, .null, .null, .null, .null, .null])), (q1, .inl (c 0, 16, .inl (fun _ => 0))), (q2, .inl (c 0, 16, .inl (fun _ => 0))), (q3, .inl (c 0, 16, .inl (fun _ => 0))), (q4, .inl (c 0, 16, .inl (fun _ => 0)))]) := hD
  refine lv_aload_n hx hb dX2_init_47 rfl (lv_at hl 0 rfl) ?_
  refine lv_bipush (v := (16 : Int32)) hx hb dX2_init_48 (by decide) ?_
  refine z_newI (N' := 16) hx hb (hts (.arrayClass .int) (by decide +kernel)) hK hP hD hS hA (by decide) (by decide) (Nat.le_of_ble_eq_true rfl) (Nat.le_of_ble_eq_true rfl) (Nat.le_of_ble_eq_true rfl) dX2_init_50 (fun q5 H hP hD hS => ?_)
  refine W.widen (k := 5) (n := 80) (by omega) (by omega) ?_
  have hP : va_P D vwCl ([(h, .inr (2, [.int 12, .int 0, .int 0, .int (-1), .ref q1, .ref q2, .ref q3, .ref q4, .null, .null, .null, .null, .null, .null, .null, .null])), (q1, .inl (c 0, 16, .inl (fun _ => 0))), (q2, .inl (c 0, 16, .inl (fun _ => 0))), (q3, .inl (c 0, 16, .inl (fun _ => 0))), (q4, .inl (c 0, 16, .inl (fun _ => 0))), (q5, .inl (c 0, 16, .inl (fun _ => 0)))]) H := hP
  have hD : va_D A ([(h, .inr (2, [.int 12, .int 0, .int 0, .int (-1), .ref q1, .ref q2, .ref q3, .ref q4, .null, .null, .null, .null, .null, .null, .null, .null])), (q1, .inl (c 0, 16, .inl (fun _ => 0))), (q2, .inl (c 0, 16, .inl (fun _ => 0))), (q3, .inl (c 0, 16, .inl (fun _ => 0))), (q4, .inl (c 0, 16, .inl (fun _ => 0))), (q5, .inl (c 0, 16, .inl (fun _ => 0)))]) := hD
  refine va_putF (D := D) (ci := 2) (v := .ref q5) (ty := .array .int) (C := RX2) (T := TX2) (N := 16) hx hb hts hiX2 tyX2 tyX2_ok nmX2 hown hK.1 hP hD hS 0 rfl rfl 8 (by decide) (hts (.fieldLink RX2 31 "ProgramDrum$State" "bribe" "[I") (by decide +kernel)) (fun _ h9 => h9) rfl hin rfl (by decide +kernel) rfl rfl (Nat.le_of_ble_eq_true rfl) dX2_init_52 (fun H locs hP hD hS => ?_)
  have hP : va_P D vwCl ([(h, .inr (2, [.int 12, .int 0, .int 0, .int (-1), .ref q1, .ref q2, .ref q3, .ref q4, .ref q5, .null, .null, .null, .null, .null, .null, .null])), (q1, .inl (c 0, 16, .inl (fun _ => 0))), (q2, .inl (c 0, 16, .inl (fun _ => 0))), (q3, .inl (c 0, 16, .inl (fun _ => 0))), (q4, .inl (c 0, 16, .inl (fun _ => 0))), (q5, .inl (c 0, 16, .inl (fun _ => 0)))]) H := hP
  have hD : va_D A ([(h, .inr (2, [.int 12, .int 0, .int 0, .int (-1), .ref q1, .ref q2, .ref q3, .ref q4, .ref q5, .null, .null, .null, .null, .null, .null, .null])), (q1, .inl (c 0, 16, .inl (fun _ => 0))), (q2, .inl (c 0, 16, .inl (fun _ => 0))), (q3, .inl (c 0, 16, .inl (fun _ => 0))), (q4, .inl (c 0, 16, .inl (fun _ => 0))), (q5, .inl (c 0, 16, .inl (fun _ => 0)))]) := hD
  refine lv_aload_n hx hb dX2_init_55 rfl (lv_at hl 0 rfl) ?_
  refine lv_bipush (v := (16 : Int32)) hx hb dX2_init_56 (by decide) ?_
  refine z_newI (N' := 16) hx hb (hts (.arrayClass .int) (by decide +kernel)) hK hP hD hS hA (by decide) (by decide) (Nat.le_of_ble_eq_true rfl) (Nat.le_of_ble_eq_true rfl) (Nat.le_of_ble_eq_true rfl) dX2_init_58 (fun q6 H hP hD hS => ?_)
  refine W.widen (k := 6) (n := 96) (by omega) (by omega) ?_
  have hP : va_P D vwCl ([(h, .inr (2, [.int 12, .int 0, .int 0, .int (-1), .ref q1, .ref q2, .ref q3, .ref q4, .ref q5, .null, .null, .null, .null, .null, .null, .null])), (q1, .inl (c 0, 16, .inl (fun _ => 0))), (q2, .inl (c 0, 16, .inl (fun _ => 0))), (q3, .inl (c 0, 16, .inl (fun _ => 0))), (q4, .inl (c 0, 16, .inl (fun _ => 0))), (q5, .inl (c 0, 16, .inl (fun _ => 0))), (q6, .inl (c 0, 16, .inl (fun _ => 0)))]) H := hP
  have hD : va_D A ([(h, .inr (2, [.int 12, .int 0, .int 0, .int (-1), .ref q1, .ref q2, .ref q3, .ref q4, .ref q5, .null, .null, .null, .null, .null, .null, .null])), (q1, .inl (c 0, 16, .inl (fun _ => 0))), (q2, .inl (c 0, 16, .inl (fun _ => 0))), (q3, .inl (c 0, 16, .inl (fun _ => 0))), (q4, .inl (c 0, 16, .inl (fun _ => 0))), (q5, .inl (c 0, 16, .inl (fun _ => 0))), (q6, .inl (c 0, 16, .inl (fun _ => 0)))]) := hD
  refine va_putF (D := D) (ci := 2) (v := .ref q6) (ty := .array .int) (C := RX2) (T := TX2) (N := 16) hx hb hts hiX2 tyX2 tyX2_ok nmX2 hown hK.1 hP hD hS 0 rfl rfl 9 (by decide) (hts (.fieldLink RX2 34 "ProgramDrum$State" "place" "[I") (by decide +kernel)) (fun _ h9 => h9) rfl hin rfl (by decide +kernel) rfl rfl (Nat.le_of_ble_eq_true rfl) dX2_init_60 (fun H locs hP hD hS => ?_)
  have hP : va_P D vwCl ([(h, .inr (2, [.int 12, .int 0, .int 0, .int (-1), .ref q1, .ref q2, .ref q3, .ref q4, .ref q5, .ref q6, .null, .null, .null, .null, .null, .null])), (q1, .inl (c 0, 16, .inl (fun _ => 0))), (q2, .inl (c 0, 16, .inl (fun _ => 0))), (q3, .inl (c 0, 16, .inl (fun _ => 0))), (q4, .inl (c 0, 16, .inl (fun _ => 0))), (q5, .inl (c 0, 16, .inl (fun _ => 0))), (q6, .inl (c 0, 16, .inl (fun _ => 0)))]) H := hP
  have hD : va_D A ([(h, .inr (2, [.int 12, .int 0, .int 0, .int (-1), .ref q1, .ref q2, .ref q3, .ref q4, .ref q5, .ref q6, .null, .null, .null, .null, .null, .null])), (q1, .inl (c 0, 16, .inl (fun _ => 0))), (q2, .inl (c 0, 16, .inl (fun _ => 0))), (q3, .inl (c 0, 16, .inl (fun _ => 0))), (q4, .inl (c 0, 16, .inl (fun _ => 0))), (q5, .inl (c 0, 16, .inl (fun _ => 0))), (q6, .inl (c 0, 16, .inl (fun _ => 0)))]) := hD
  refine lv_aload_n hx hb dX2_init_63 rfl (lv_at hl 0 rfl) ?_
  refine lv_bipush (v := (16 : Int32)) hx hb dX2_init_64 (by decide) ?_
  refine z_newI (N' := 16) hx hb (hts (.arrayClass .int) (by decide +kernel)) hK hP hD hS hA (by decide) (by decide) (Nat.le_of_ble_eq_true rfl) (Nat.le_of_ble_eq_true rfl) (Nat.le_of_ble_eq_true rfl) dX2_init_66 (fun q7 H hP hD hS => ?_)
  refine W.widen (k := 7) (n := 112) (by omega) (by omega) ?_
  have hP : va_P D vwCl ([(h, .inr (2, [.int 12, .int 0, .int 0, .int (-1), .ref q1, .ref q2, .ref q3, .ref q4, .ref q5, .ref q6, .null, .null, .null, .null, .null, .null])), (q1, .inl (c 0, 16, .inl (fun _ => 0))), (q2, .inl (c 0, 16, .inl (fun _ => 0))), (q3, .inl (c 0, 16, .inl (fun _ => 0))), (q4, .inl (c 0, 16, .inl (fun _ => 0))), (q5, .inl (c 0, 16, .inl (fun _ => 0))), (q6, .inl (c 0, 16, .inl (fun _ => 0))), (q7, .inl (c 0, 16, .inl (fun _ => 0)))]) H := hP
  have hD : va_D A ([(h, .inr (2, [.int 12, .int 0, .int 0, .int (-1), .ref q1, .ref q2, .ref q3, .ref q4, .ref q5, .ref q6, .null, .null, .null, .null, .null, .null])), (q1, .inl (c 0, 16, .inl (fun _ => 0))), (q2, .inl (c 0, 16, .inl (fun _ => 0))), (q3, .inl (c 0, 16, .inl (fun _ => 0))), (q4, .inl (c 0, 16, .inl (fun _ => 0))), (q5, .inl (c 0, 16, .inl (fun _ => 0))), (q6, .inl (c 0, 16, .inl (fun _ => 0))), (q7, .inl (c 0, 16, .inl (fun _ => 0)))]) := hD
  refine va_putF (D := D) (ci := 2) (v := .ref q7) (ty := .array .int) (C := RX2) (T := TX2) (N := 16) hx hb hts hiX2 tyX2 tyX2_ok nmX2 hown hK.1 hP hD hS 0 rfl rfl 10 (by decide) (hts (.fieldLink RX2 37 "ProgramDrum$State" "delay" "[I") (by decide +kernel)) (fun _ h9 => h9) rfl hin rfl (by decide +kernel) rfl rfl (Nat.le_of_ble_eq_true rfl) dX2_init_68 (fun H locs hP hD hS => ?_)
  have hP : va_P D vwCl ([(h, .inr (2, [.int 12, .int 0, .int 0, .int (-1), .ref q1, .ref q2, .ref q3, .ref q4, .ref q5, .ref q6, .ref q7, .null, .null, .null, .null, .null])), (q1, .inl (c 0, 16, .inl (fun _ => 0))), (q2, .inl (c 0, 16, .inl (fun _ => 0))), (q3, .inl (c 0, 16, .inl (fun _ => 0))), (q4, .inl (c 0, 16, .inl (fun _ => 0))), (q5, .inl (c 0, 16, .inl (fun _ => 0))), (q6, .inl (c 0, 16, .inl (fun _ => 0))), (q7, .inl (c 0, 16, .inl (fun _ => 0)))]) H := hP
  have hD : va_D A ([(h, .inr (2, [.int 12, .int 0, .int 0, .int (-1), .ref q1, .ref q2, .ref q3, .ref q4, .ref q5, .ref q6, .ref q7, .null, .null, .null, .null, .null])), (q1, .inl (c 0, 16, .inl (fun _ => 0))), (q2, .inl (c 0, 16, .inl (fun _ => 0))), (q3, .inl (c 0, 16, .inl (fun _ => 0))), (q4, .inl (c 0, 16, .inl (fun _ => 0))), (q5, .inl (c 0, 16, .inl (fun _ => 0))), (q6, .inl (c 0, 16, .inl (fun _ => 0))), (q7, .inl (c 0, 16, .inl (fun _ => 0)))]) := hD
  refine lv_aload_n hx hb dX2_init_71 rfl (lv_at hl 0 rfl) ?_
  refine lv_bipush (v := (16 : Int32)) hx hb dX2_init_72 (by decide) ?_
  refine z_newI (N' := 16) hx hb (hts (.arrayClass .int) (by decide +kernel)) hK hP hD hS hA (by decide) (by decide) (Nat.le_of_ble_eq_true rfl) (Nat.le_of_ble_eq_true rfl) (Nat.le_of_ble_eq_true rfl) dX2_init_74 (fun q8 H hP hD hS => ?_)
  refine W.widen (k := 8) (n := 128) (by omega) (by omega) ?_
  have hP : va_P D vwCl ([(h, .inr (2, [.int 12, .int 0, .int 0, .int (-1), .ref q1, .ref q2, .ref q3, .ref q4, .ref q5, .ref q6, .ref q7, .null, .null, .null, .null, .null])), (q1, .inl (c 0, 16, .inl (fun _ => 0))), (q2, .inl (c 0, 16, .inl (fun _ => 0))), (q3, .inl (c 0, 16, .inl (fun _ => 0))), (q4, .inl (c 0, 16, .inl (fun _ => 0))), (q5, .inl (c 0, 16, .inl (fun _ => 0))), (q6, .inl (c 0, 16, .inl (fun _ => 0))), (q7, .inl (c 0, 16, .inl (fun _ => 0))), (q8, .inl (c 0, 16, .inl (fun _ => 0)))]) H := hP
  have hD : va_D A ([(h, .inr (2, [.int 12, .int 0, .int 0, .int (-1), .ref q1, .ref q2, .ref q3, .ref q4, .ref q5, .ref q6, .ref q7, .null, .null, .null, .null, .null])), (q1, .inl (c 0, 16, .inl (fun _ => 0))), (q2, .inl (c 0, 16, .inl (fun _ => 0))), (q3, .inl (c 0, 16, .inl (fun _ => 0))), (q4, .inl (c 0, 16, .inl (fun _ => 0))), (q5, .inl (c 0, 16, .inl (fun _ => 0))), (q6, .inl (c 0, 16, .inl (fun _ => 0))), (q7, .inl (c 0, 16, .inl (fun _ => 0))), (q8, .inl (c 0, 16, .inl (fun _ => 0)))]) := hD
  refine va_putF (D := D) (ci := 2) (v := .ref q8) (ty := .array .int) (C := RX2) (T := TX2) (N := 16) hx hb hts hiX2 tyX2 tyX2_ok nmX2 hown hK.1 hP hD hS 0 rfl rfl 11 (by decide) (hts (.fieldLink RX2 40 "ProgramDrum$State" "open" "[I") (by decide +kernel)) (fun _ h9 => h9) rfl hin rfl (by decide +kernel) rfl rfl (Nat.le_of_ble_eq_true rfl) dX2_init_76 (fun H locs hP hD hS => ?_)
  have hP : va_P D vwCl ([(h, .inr (2, [.int 12, .int 0, .int 0, .int (-1), .ref q1, .ref q2, .ref q3, .ref q4, .ref q5, .ref q6, .ref q7, .ref q8, .null, .null, .null, .null])), (q1, .inl (c 0, 16, .inl (fun _ => 0))), (q2, .inl (c 0, 16, .inl (fun _ => 0))), (q3, .inl (c 0, 16, .inl (fun _ => 0))), (q4, .inl (c 0, 16, .inl (fun _ => 0))), (q5, .inl (c 0, 16, .inl (fun _ => 0))), (q6, .inl (c 0, 16, .inl (fun _ => 0))), (q7, .inl (c 0, 16, .inl (fun _ => 0))), (q8, .inl (c 0, 16, .inl (fun _ => 0)))]) H := hP
  have hD : va_D A ([(h, .inr (2, [.int 12, .int 0, .int 0, .int (-1), .ref q1, .ref q2, .ref q3, .ref q4, .ref q5, .ref q6, .ref q7, .ref q8, .null, .null, .null, .null])), (q1, .inl (c 0, 16, .inl (fun _ => 0))), (q2, .inl (c 0, 16, .inl (fun _ => 0))), (q3, .inl (c 0, 16, .inl (fun _ => 0))), (q4, .inl (c 0, 16, .inl (fun _ => 0))), (q5, .inl (c 0, 16, .inl (fun _ => 0))), (q6, .inl (c 0, 16, .inl (fun _ => 0))), (q7, .inl (c 0, 16, .inl (fun _ => 0))), (q8, .inl (c 0, 16, .inl (fun _ => 0)))]) := hD
  refine lv_aload_n hx hb dX2_init_79 rfl (lv_at hl 0 rfl) ?_
  refine lv_bipush (v := (16 : Int32)) hx hb dX2_init_80 (by decide) ?_
  refine z_newI (N' := 16) hx hb (hts (.arrayClass .int) (by decide +kernel)) hK hP hD hS hA (by decide) (by decide) (Nat.le_of_ble_eq_true rfl) (Nat.le_of_ble_eq_true rfl) (Nat.le_of_ble_eq_true rfl) dX2_init_82 (fun q9 H hP hD hS => ?_)
  refine W.widen (k := 9) (n := 144) (by omega) (by omega) ?_
  have hP : va_P D vwCl ([(h, .inr (2, [.int 12, .int 0, .int 0, .int (-1), .ref q1, .ref q2, .ref q3, .ref q4, .ref q5, .ref q6, .ref q7, .ref q8, .null, .null, .null, .null])), (q1, .inl (c 0, 16, .inl (fun _ => 0))), (q2, .inl (c 0, 16, .inl (fun _ => 0))), (q3, .inl (c 0, 16, .inl (fun _ => 0))), (q4, .inl (c 0, 16, .inl (fun _ => 0))), (q5, .inl (c 0, 16, .inl (fun _ => 0))), (q6, .inl (c 0, 16, .inl (fun _ => 0))), (q7, .inl (c 0, 16, .inl (fun _ => 0))), (q8, .inl (c 0, 16, .inl (fun _ => 0))), (q9, .inl (c 0, 16, .inl (fun _ => 0)))]) H := hP
  have hD : va_D A ([(h, .inr (2, [.int 12, .int 0, .int 0, .int (-1), .ref q1, .ref q2, .ref q3, .ref q4, .ref q5, .ref q6, .ref q7, .ref q8, .null, .null, .null, .null])), (q1, .inl (c 0, 16, .inl (fun _ => 0))), (q2, .inl (c 0, 16, .inl (fun _ => 0))), (q3, .inl (c 0, 16, .inl (fun _ => 0))), (q4, .inl (c 0, 16, .inl (fun _ => 0))), (q5, .inl (c 0, 16, .inl (fun _ => 0))), (q6, .inl (c 0, 16, .inl (fun _ => 0))), (q7, .inl (c 0, 16, .inl (fun _ => 0))), (q8, .inl (c 0, 16, .inl (fun _ => 0))), (q9, .inl (c 0, 16, .inl (fun _ => 0)))]) := hD
  refine va_putF (D := D) (ci := 2) (v := .ref q9) (ty := .array .int) (C := RX2) (T := TX2) (N := 16) hx hb hts hiX2 tyX2 tyX2_ok nmX2 hown hK.1 hP hD hS 0 rfl rfl 12 (by decide) (hts (.fieldLink RX2 43 "ProgramDrum$State" "lastWait" "[I") (by decide +kernel)) (fun _ h9 => h9) rfl hin rfl (by decide +kernel) rfl rfl (Nat.le_of_ble_eq_true rfl) dX2_init_84 (fun H locs hP hD hS => ?_)
  have hP : va_P D vwCl ([(h, .inr (2, [.int 12, .int 0, .int 0, .int (-1), .ref q1, .ref q2, .ref q3, .ref q4, .ref q5, .ref q6, .ref q7, .ref q8, .ref q9, .null, .null, .null])), (q1, .inl (c 0, 16, .inl (fun _ => 0))), (q2, .inl (c 0, 16, .inl (fun _ => 0))), (q3, .inl (c 0, 16, .inl (fun _ => 0))), (q4, .inl (c 0, 16, .inl (fun _ => 0))), (q5, .inl (c 0, 16, .inl (fun _ => 0))), (q6, .inl (c 0, 16, .inl (fun _ => 0))), (q7, .inl (c 0, 16, .inl (fun _ => 0))), (q8, .inl (c 0, 16, .inl (fun _ => 0))), (q9, .inl (c 0, 16, .inl (fun _ => 0)))]) H := hP
  have hD : va_D A ([(h, .inr (2, [.int 12, .int 0, .int 0, .int (-1), .ref q1, .ref q2, .ref q3, .ref q4, .ref q5, .ref q6, .ref q7, .ref q8, .ref q9, .null, .null, .null])), (q1, .inl (c 0, 16, .inl (fun _ => 0))), (q2, .inl (c 0, 16, .inl (fun _ => 0))), (q3, .inl (c 0, 16, .inl (fun _ => 0))), (q4, .inl (c 0, 16, .inl (fun _ => 0))), (q5, .inl (c 0, 16, .inl (fun _ => 0))), (q6, .inl (c 0, 16, .inl (fun _ => 0))), (q7, .inl (c 0, 16, .inl (fun _ => 0))), (q8, .inl (c 0, 16, .inl (fun _ => 0))), (q9, .inl (c 0, 16, .inl (fun _ => 0)))]) := hD
  refine lv_aload_n hx hb dX2_init_87 rfl (lv_at hl 0 rfl) ?_
  refine lv_iconst (v := (4 : Int32)) hx hb dX2_init_88 (by decide) ?_
  refine z_newI (N' := 4) hx hb (hts (.arrayClass .int) (by decide +kernel)) hK hP hD hS hA (by decide) (by decide) (Nat.le_of_ble_eq_true rfl) (Nat.le_of_ble_eq_true rfl) (Nat.le_of_ble_eq_true rfl) dX2_init_89 (fun q10 H hP hD hS => ?_)
  refine W.widen (k := 10) (n := 148) (by omega) (by omega) ?_
  have hP : va_P D vwCl ([(h, .inr (2, [.int 12, .int 0, .int 0, .int (-1), .ref q1, .ref q2, .ref q3, .ref q4, .ref q5, .ref q6, .ref q7, .ref q8, .ref q9, .null, .null, .null])), (q1, .inl (c 0, 16, .inl (fun _ => 0))), (q2, .inl (c 0, 16, .inl (fun _ => 0))), (q3, .inl (c 0, 16, .inl (fun _ => 0))), (q4, .inl (c 0, 16, .inl (fun _ => 0))), (q5, .inl (c 0, 16, .inl (fun _ => 0))), (q6, .inl (c 0, 16, .inl (fun _ => 0))), (q7, .inl (c 0, 16, .inl (fun _ => 0))), (q8, .inl (c 0, 16, .inl (fun _ => 0))), (q9, .inl (c 0, 16, .inl (fun _ => 0))), (q10, .inl (c 0, 4, .inl (fun _ => 0)))]) H := hP
  have hD : va_D A ([(h, .inr (2, [.int 12, .int 0, .int 0, .int (-1), .ref q1, .ref q2, .ref q3, .ref q4, .ref q5, .ref q6, .ref q7, .ref q8, .ref q9, .null, .null, .null])), (q1, .inl (c 0, 16, .inl (fun _ => 0))), (q2, .inl (c 0, 16, .inl (fun _ => 0))), (q3, .inl (c 0, 16, .inl (fun _ => 0))), (q4, .inl (c 0, 16, .inl (fun _ => 0))), (q5, .inl (c 0, 16, .inl (fun _ => 0))), (q6, .inl (c 0, 16, .inl (fun _ => 0))), (q7, .inl (c 0, 16, .inl (fun _ => 0))), (q8, .inl (c 0, 16, .inl (fun _ => 0))), (q9, .inl (c 0, 16, .inl (fun _ => 0))), (q10, .inl (c 0, 4, .inl (fun _ => 0)))]) := hD
  refine va_putF (D := D) (ci := 2) (v := .ref q10) (ty := .array .int) (C := RX2) (T := TX2) (N := 16) hx hb hts hiX2 tyX2 tyX2_ok nmX2 hown hK.1 hP hD hS 0 rfl rfl 13 (by decide) (hts (.fieldLink RX2 46 "ProgramDrum$State" "paid" "[I") (by decide +kernel)) (fun _ h9 => h9) rfl hin rfl (by decide +kernel) rfl rfl (Nat.le_of_ble_eq_true rfl) dX2_init_91 (fun H locs hP hD hS => ?_)
  have hP : va_P D vwCl ([(h, .inr (2, [.int 12, .int 0, .int 0, .int (-1), .ref q1, .ref q2, .ref q3, .ref q4, .ref q5, .ref q6, .ref q7, .ref q8, .ref q9, .ref q10, .null, .null])), (q1, .inl (c 0, 16, .inl (fun _ => 0))), (q2, .inl (c 0, 16, .inl (fun _ => 0))), (q3, .inl (c 0, 16, .inl (fun _ => 0))), (q4, .inl (c 0, 16, .inl (fun _ => 0))), (q5, .inl (c 0, 16, .inl (fun _ => 0))), (q6, .inl (c 0, 16, .inl (fun _ => 0))), (q7, .inl (c 0, 16, .inl (fun _ => 0))), (q8, .inl (c 0, 16, .inl (fun _ => 0))), (q9, .inl (c 0, 16, .inl (fun _ => 0))), (q10, .inl (c 0, 4, .inl (fun _ => 0)))]) H := hP
  have hD : va_D A ([(h, .inr (2, [.int 12, .int 0, .int 0, .int (-1), .ref q1, .ref q2, .ref q3, .ref q4, .ref q5, .ref q6, .ref q7, .ref q8, .ref q9, .ref q10, .null, .null])), (q1, .inl (c 0, 16, .inl (fun _ => 0))), (q2, .inl (c 0, 16, .inl (fun _ => 0))), (q3, .inl (c 0, 16, .inl (fun _ => 0))), (q4, .inl (c 0, 16, .inl (fun _ => 0))), (q5, .inl (c 0, 16, .inl (fun _ => 0))), (q6, .inl (c 0, 16, .inl (fun _ => 0))), (q7, .inl (c 0, 16, .inl (fun _ => 0))), (q8, .inl (c 0, 16, .inl (fun _ => 0))), (q9, .inl (c 0, 16, .inl (fun _ => 0))), (q10, .inl (c 0, 4, .inl (fun _ => 0)))]) := hD
  refine lv_aload_n hx hb dX2_init_94 rfl (lv_at hl 0 rfl) ?_
  refine lv_iconst (v := (4 : Int32)) hx hb dX2_init_95 (by decide) ?_
  refine z_newI (N' := 4) hx hb (hts (.arrayClass .int) (by decide +kernel)) hK hP hD hS hA (by decide) (by decide) (Nat.le_of_ble_eq_true rfl) (Nat.le_of_ble_eq_true rfl) (Nat.le_of_ble_eq_true rfl) dX2_init_96 (fun q11 H hP hD hS => ?_)
  refine W.widen (k := 11) (n := 152) (by omega) (by omega) ?_
  have hP : va_P D vwCl ([(h, .inr (2, [.int 12, .int 0, .int 0, .int (-1), .ref q1, .ref q2, .ref q3, .ref q4, .ref q5, .ref q6, .ref q7, .ref q8, .ref q9, .ref q10, .null, .null])), (q1, .inl (c 0, 16, .inl (fun _ => 0))), (q2, .inl (c 0, 16, .inl (fun _ => 0))), (q3, .inl (c 0, 16, .inl (fun _ => 0))), (q4, .inl (c 0, 16, .inl (fun _ => 0))), (q5, .inl (c 0, 16, .inl (fun _ => 0))), (q6, .inl (c 0, 16, .inl (fun _ => 0))), (q7, .inl (c 0, 16, .inl (fun _ => 0))), (q8, .inl (c 0, 16, .inl (fun _ => 0))), (q9, .inl (c 0, 16, .inl (fun _ => 0))), (q10, .inl (c 0, 4, .inl (fun _ => 0))), (q11, .inl (c 0, 4, .inl (fun _ => 0)))]) H := hP
  have hD : va_D A ([(h, .inr (2, [.int 12, .int 0, .int 0, .int (-1), .ref q1, .ref q2, .ref q3, .ref q4, .ref q5, .ref q6, .ref q7, .ref q8, .ref q9, .ref q10, .null, .null])), (q1, .inl (c 0, 16, .inl (fun _ => 0))), (q2, .inl (c 0, 16, .inl (fun _ => 0))), (q3, .inl (c 0, 16, .inl (fun _ => 0))), (q4, .inl (c 0, 16, .inl (fun _ => 0))), (q5, .inl (c 0, 16, .inl (fun _ => 0))), (q6, .inl (c 0, 16, .inl (fun _ => 0))), (q7, .inl (c 0, 16, .inl (fun _ => 0))), (q8, .inl (c 0, 16, .inl (fun _ => 0))), (q9, .inl (c 0, 16, .inl (fun _ => 0))), (q10, .inl (c 0, 4, .inl (fun _ => 0))), (q11, .inl (c 0, 4, .inl (fun _ => 0)))]) := hD
  refine va_putF (D := D) (ci := 2) (v := .ref q11) (ty := .array .int) (C := RX2) (T := TX2) (N := 16) hx hb hts hiX2 tyX2 tyX2_ok nmX2 hown hK.1 hP hD hS 0 rfl rfl 14 (by decide) (hts (.fieldLink RX2 49 "ProgramDrum$State" "refunded" "[I") (by decide +kernel)) (fun _ h9 => h9) rfl hin rfl (by decide +kernel) rfl rfl (Nat.le_of_ble_eq_true rfl) dX2_init_98 (fun H locs hP hD hS => ?_)
  have hP : va_P D vwCl ([(h, .inr (2, [.int 12, .int 0, .int 0, .int (-1), .ref q1, .ref q2, .ref q3, .ref q4, .ref q5, .ref q6, .ref q7, .ref q8, .ref q9, .ref q10, .ref q11, .null])), (q1, .inl (c 0, 16, .inl (fun _ => 0))), (q2, .inl (c 0, 16, .inl (fun _ => 0))), (q3, .inl (c 0, 16, .inl (fun _ => 0))), (q4, .inl (c 0, 16, .inl (fun _ => 0))), (q5, .inl (c 0, 16, .inl (fun _ => 0))), (q6, .inl (c 0, 16, .inl (fun _ => 0))), (q7, .inl (c 0, 16, .inl (fun _ => 0))), (q8, .inl (c 0, 16, .inl (fun _ => 0))), (q9, .inl (c 0, 16, .inl (fun _ => 0))), (q10, .inl (c 0, 4, .inl (fun _ => 0))), (q11, .inl (c 0, 4, .inl (fun _ => 0)))]) H := hP
  have hD : va_D A ([(h, .inr (2, [.int 12, .int 0, .int 0, .int (-1), .ref q1, .ref q2, .ref q3, .ref q4, .ref q5, .ref q6, .ref q7, .ref q8, .ref q9, .ref q10, .ref q11, .null])), (q1, .inl (c 0, 16, .inl (fun _ => 0))), (q2, .inl (c 0, 16, .inl (fun _ => 0))), (q3, .inl (c 0, 16, .inl (fun _ => 0))), (q4, .inl (c 0, 16, .inl (fun _ => 0))), (q5, .inl (c 0, 16, .inl (fun _ => 0))), (q6, .inl (c 0, 16, .inl (fun _ => 0))), (q7, .inl (c 0, 16, .inl (fun _ => 0))), (q8, .inl (c 0, 16, .inl (fun _ => 0))), (q9, .inl (c 0, 16, .inl (fun _ => 0))), (q10, .inl (c 0, 4, .inl (fun _ => 0))), (q11, .inl (c 0, 4, .inl (fun _ => 0)))]) := hD
  refine lv_aload_n hx hb dX2_init_101 rfl (lv_at hl 0 rfl) ?_
  refine va_new (D := D) (ci := 0) (fs := [.null, .null, .null, .int 0]) (C := RX0) (T := TX0) (N := 4) hx hb hts hiX0 tyX0 tyX0_ok hown (hts (.classLink RX2 52 RX0) (by decide +kernel)) (hts (.instantiable RX0 4) (by decide +kernel)) (hts (.initialized RX0) (by decide +kernel)) hK.1 hP hD hS hA rfl (by decide +kernel) (Nat.le_of_ble_eq_true rfl) (Nat.le_of_ble_eq_true rfl) dX2_init_102 (fun q12 H hP hD hS => ?_)
  refine W.widen (k := 12) (n := 156) (by omega) (by omega) ?_
  refine lv_dup hx hb dX2_init_105 rfl ?_
  refine z_xN (V := [(h, .inr (2, [.int 12, .int 0, .int 0, .int (-1), .ref q1, .ref q2, .ref q3, .ref q4, .ref q5, .ref q6, .ref q7, .ref q8, .ref q9, .ref q10, .ref q11, .null])), (q1, .inl (c 0, 16, .inl (fun _ => 0))), (q2, .inl (c 0, 16, .inl (fun _ => 0))), (q3, .inl (c 0, 16, .inl (fun _ => 0))), (q4, .inl (c 0, 16, .inl (fun _ => 0))), (q5, .inl (c 0, 16, .inl (fun _ => 0))), (q6, .inl (c 0, 16, .inl (fun _ => 0))), (q7, .inl (c 0, 16, .inl (fun _ => 0))), (q8, .inl (c 0, 16, .inl (fun _ => 0))), (q9, .inl (c 0, 16, .inl (fun _ => 0))), (q10, .inl (c 0, 4, .inl (fun _ => 0))), (q11, .inl (c 0, 4, .inl (fun _ => 0)))]) (x := .inr (0, [.null, .null, .null, .int 0])) (wf := fun u : Nat → Nat => z_jp c u z_s0) ⟨hx, hb, hml, hown, hts⟩ (kX0_init l D c q12 H.size) ⟨z_bl, z_pre (z_subP hP fun _ hz => List.mem_append_right _ hz) hK (z_subD hD (fun _ hz => List.mem_append_right _ hz) (by simp))⟩ ⟨va_cnB 0 hts gX2_init_X0_init_n54 rfl rfl rfl (hK.2.2 _ zM_X2_54) (hts (.initialized RX0) (by decide +kernel)) (by decide +kernel) ⟨Nat.le_of_ble_eq_true rfl, Nat.le_of_ble_eq_true rfl⟩, rfl, (hts (.instanceMethod yX0_init) (by decide +kernel))⟩ hP hD hS hA hl.1 (Nat.le_of_ble_eq_true rfl) dX2_init_106 ⟨Nat.le_of_ble_eq_true rfl, Nat.le_of_ble_eq_true rfl⟩ (fun u H locs hu hP hD hS => ?_)
  refine W.widen (k := 15) (n := 924) (by omega) (by omega) ?_
  refine va_putF (D := D) (ci := 2) (v := .ref q12) (ty := .object "ProgramDrum$Jumps") (C := RX2) (T := TX2) (N := 16) hx hb hts hiX2 tyX2 tyX2_ok nmX2 hown hK.1 hP hD hS 0 rfl rfl 15 (by decide) (hts (.fieldLink RX2 55 "ProgramDrum$State" "jumps" "LProgramDrum$Jumps;") (by decide +kernel)) (fun _ h9 => h9) rfl hin rfl (by decide +kernel) rfl rfl (Nat.le_of_ble_eq_true rfl) dX2_init_109 (fun H locs hP hD hS => ?_)
  have hP : va_P D vwCl ([(h, .inr (2, [.int 12, .int 0, .int 0, .int (-1), .ref q1, .ref q2, .ref q3, .ref q4, .ref q5, .ref q6, .ref q7, .ref q8, .ref q9, .ref q10, .ref q11, .ref q12])), (q1, .inl (c 0, 16, .inl (fun _ => 0))), (q2, .inl (c 0, 16, .inl (fun _ => 0))), (q3, .inl (c 0, 16, .inl (fun _ => 0))), (q4, .inl (c 0, 16, .inl (fun _ => 0))), (q5, .inl (c 0, 16, .inl (fun _ => 0))), (q6, .inl (c 0, 16, .inl (fun _ => 0))), (q7, .inl (c 0, 16, .inl (fun _ => 0))), (q8, .inl (c 0, 16, .inl (fun _ => 0))), (q9, .inl (c 0, 16, .inl (fun _ => 0))), (q10, .inl (c 0, 4, .inl (fun _ => 0))), (q11, .inl (c 0, 4, .inl (fun _ => 0)))] ++ z_jp c u z_s0) H := hP
  have hD : va_D A ([(h, .inr (2, [.int 12, .int 0, .int 0, .int (-1), .ref q1, .ref q2, .ref q3, .ref q4, .ref q5, .ref q6, .ref q7, .ref q8, .ref q9, .ref q10, .ref q11, .ref q12])), (q1, .inl (c 0, 16, .inl (fun _ => 0))), (q2, .inl (c 0, 16, .inl (fun _ => 0))), (q3, .inl (c 0, 16, .inl (fun _ => 0))), (q4, .inl (c 0, 16, .inl (fun _ => 0))), (q5, .inl (c 0, 16, .inl (fun _ => 0))), (q6, .inl (c 0, 16, .inl (fun _ => 0))), (q7, .inl (c 0, 16, .inl (fun _ => 0))), (q8, .inl (c 0, 16, .inl (fun _ => 0))), (q9, .inl (c 0, 16, .inl (fun _ => 0))), (q10, .inl (c 0, 4, .inl (fun _ => 0))), (q11, .inl (c 0, 4, .inl (fun _ => 0)))] ++ z_jp c u z_s0) := hD
  subst hu
  have hP9 : va_P D vwCl (z_st c (z_gn 12 [h, q1, q2, q3, q4, q5, q6, q7, q8, q9, q10, q11] u) z_s0) H := hP
  have hD9 : va_D A (z_st c (z_gn 12 [h, q1, q2, q3, q4, q5, q6, q7, q8, q9, q10, q11] u) z_s0) := hD
  exact W.vret hx hb hr (fun t ht _ => ⟨⟨z_gn 12 [h, q1, q2, q3, q4, q5, q6, q7, q8, q9, q10, q11] u, rfl, rfl, by rw [ht]; exact hP9, hD9⟩, hS.F ht⟩) hS.2.2 dX2_init_112
