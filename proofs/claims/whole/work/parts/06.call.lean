/-! contracts over places: a method's start and end, returned or thrown; calls -/
abbrev AO : Type := Option Value ⊕ String
/-- the heap's cells from the start's size on are h (K of them), the others are the start's -/
def a_W (s0 : State) (D : va_G) (h : AH) (K : Nat) (U : State) : Prop :=
  s0.WarmedH U.vm ∧ U.heap.size = s0.heap.size + K ∧ (∀ q : Nat, q < s0.heap.size → U.heap[q]? = s0.heap[q]?) ∧ ∀ (k : Nat) (x : va_E), h k = some x → va_at D vwCl (s0.heap.size + k, x) U.heap
/-- the thrown object is one of the class Cn -/
def a_thr (Cn : String) (a : Nat) (t : State) : Prop := ∃ (cell : Cell) (k : Class), t.heap[a]? = some cell ∧ cell.vm = .none ∧ t.vm.findClass Cn = some cell.cls ∧ t.vm.classes[cell.cls]? = some k
def XO (s0 : State) (D : va_G) (mc ms : Nat) (Post : AO → AH → Nat → Prop) (s : State) (o : Outcome) (t : State) : Prop :=
  ∃ (h' : AH) (K' : Nat), a_W s0 D h' K' t ∧ (match o with | .returned v => Post (.inl v) h' K' | .threw a => ∃ Cn, Post (.inr Cn) h' K' ∧ a_thr Cn a t) ∧
    ∃ L : List Loc, s.WarmedH t.vm ∧ s.sameButNew ({ t with vm := s.vm } : State) L mc ms ∧ ∀ q ∈ L, s0.heap.size ≤ q.base
def XQ (s0 : State) (D : va_G) (mc ms : Nat) (Post : AO → AH → Nat → Prop) (below : List Frame) (s : State) : State → Prop := fun t => ∃ o, t.status = .running ∧ Ended t below o ∧ XO s0 D mc ms Post s o t
def a_rm (d mc ms : Nat) : Room := { frames := d, cells := mc, slots := ms, locals := 38 * d }
def XM (l : Launch) (s0 : State) (D : va_G) (y : MethodName) (cc : ByteArray) (nL : Nat) (ret : Option FieldType) (d mc ms : Nat) (av : List Value) (h : AH) (K : Nat) (Post : AO → AH → Nat → Prop) : Prop :=
  MetFree l y (headSpec [.code y cc nL ret] (a_rm d mc ms)) (fun a U => a = av.toArray ∧ a_W s0 D h K U) (fun _ _ _ _ _ => True) (fun _ st o t => XO s0 D mc ms Post st o t)
theorem W_mono {p : Program} {l : Launch} {e : Env} {R : Room} {s : State} {m : MethodId} {args : Array Value} {below : List Frame} {meth : Method} {c : Code} {H : Heap} {locs : List Loc} {cells slots : Nat} {Q Q' : State → Prop} {g : JFrame} (h : ∀ t, Q t → Q' t) (k : W p l e R s m args below meth c H locs cells slots Q g) : W p l e R s m args below meth c H locs cells slots Q' g := by
  intro T hT X
  obtain ⟨t, a, b⟩ := k T hT X
  exact ⟨t, a, h t b⟩
theorem x_notab {p : Program} {l : Launch} {y : MethodName} {cc : ByteArray} {nL : Nat} {ret : Option FieldType} {rm : Room} {e : Env} {s : State} {m : MethodId} {args : Array Value} {below : List Frame} {meth : Method} {c : Code} {s₁ : State} (B : BodyLoose p l y (headSpec [.code y cc nL ret] rm) cc nL ret e s m args below meth c s₁) : c.exceptionTable.toList = [] := by
  have h1 := B.noHandlers (atoms_spec (ws := [.code y cc nL ret]) B.pre _ List.mem_cons_self)
  have h2 : c.exceptionTable = #[] := Array.isEmpty_iff.mp h1
  rw [h2]
theorem XM.of {l : Launch} {s0 : State} {D : va_G} {cI cL : ClassId} {y : MethodName} {cc : ByteArray} {nL : Nat} {ret : Option FieldType} {d mc ms : Nat} {av : List Value} {h : AH} {K : Nat} {Post : AO → AH → Nat → Prop} {own : String}
    (hy : plainName y.cls = true) (ho : y.cls = own) (hK : va_K D vwCl [(cI, .int), (cL, .long)] s0) (hav : (lg_sl av).length ≤ nL)
    (body : ∀ (p : Program) (e : Env) (s : State) (m : MethodId) (below : List Frame) (meth : Method) (c : Code), XC s0 D cI cL p s m meth c own cc nL ret [] → meth.name = y.name → XW s0 D p l e (a_rm d mc ms) s m av.toArray below meth c (XQ s0 D mc ms Post below s) 0 (lv_args 0 av) [] h K 0 0) :
    XM l s0 D y cc nL ret d mc ms av h K Post := by
  refine MetFree.of_bodyS (code := cc) (maxLocals := nL) (ret := ret) hy ?_ ?_
  · intro args s m h hn
    obtain ⟨meth, c, h1, h2, h3, h4, h5, h6, -, -⟩ := Cond.code_spec hn (atoms_spec (ws := [.code y cc nL ret]) h _ List.mem_cons_self)
    exact ⟨meth, c, h1, h2, h3, h4, h5, h6⟩
  · intro p e s m args below meth c s₁ B hml hP _
    obtain ⟨ha, hw⟩ := hP
    subst ha
    have hh0 : s₁.heap = s.heap := by rw [B.state]; rfl
    have X := body p e s m below meth c ⟨B.exec, B.bytes, hml, by rw [← ho]; exact findClass_of_methodNamed B.named, hw.1, B.notSynchronized, va_K.moved hw.1.alike hK, B.returns, x_notab B⟩ (name_of_methodNamed B.named B.method).1
    have hl := lv_entry av (n := nL) hav
    have hw2 := X _ s.heap [] ⟨by rw [hml]; exact hl, hw.2.1, hw.2.2.1, hw.2.2.2, fun q hq => by cases hq⟩
    rw [lg_entry_eq]
    obtain ⟨t, a1, o, b1, b2, b3⟩ := hw2 s₁ hh0 (Stand.of_body B)
    exact ⟨t, o, a1, b1, b2, b3⟩
section Rets
variable {a0 : Array Value} {s0 : State} {D : va_G} {cI cL : ClassId} {p : Program} {l : Launch} {e : Env} {R : Room} {s : State} {m : MethodId} {args : Array Value} {below : List Frame} {meth : Method} {c : Code} {tb : List ExceptionTableEntry}
variable {own : String} {cc : ByteArray} {nL : Nat} {ret : Option FieldType} {pc : Nat} {lv : List (Nat × Value)} {h : AH} {K cells slots mc ms : Nat} {Post : AO → AH → Nat → Prop}
theorem x_end {v : Option Value} {H : Heap} {locs : List Loc} {ls : Array Slot} {g : JFrame} (P : XP s0 D c.maxLocals lv h K ls H locs) (hW : s0.WarmedH s.vm) (h1 : cells ≤ mc) (h2 : slots ≤ ms) (hp : Post (.inl v) h K)
    (k : W p l e R s m args below meth c H locs mc ms (MQ below (fun _ _ o t => o = .returned v ∧ t.heap = H ∧ s.WarmedH t.vm) args s mc ms (fun q => s0.heap.size ≤ q)) g) : W p l e R s m args below meth c H locs cells slots (XQ s0 D mc ms Post below s) g := by
  refine W.widen h1 h2 (W_mono ?_ k)
  rintro t ⟨o, r1, r2, ⟨rfl, r3, r4⟩, L, ⟨-, r5, r6⟩, r7⟩
  refine ⟨_, r1, r2, h, K, ⟨State.WarmedH.trans hW r4, by rw [r3]; exact P.2.1, fun q hq => by rw [r3]; exact P.2.2.1 q hq, fun k x hx => by rw [r3]; exact P.2.2.2.1 k x hx⟩, hp, L, r5, r6, r7⟩
theorem x_iret (C : XC s0 D cI cL p s m meth c own cc nL (some .int) tb) {v : Int32} (hd : decode cc pc = .ok (.ireturn, 1)) (h1 : cells ≤ mc) (h2 : slots ≤ ms) (hp : Post (.inl (some (.int v))) h K) : XW s0 D p l e R s m args below meth c (XQ s0 D mc ms Post below s) pc lv [.int v] h K cells slots :=
  fun _ _ _ P => x_end P C.2.2.2.2.1 h1 h2 hp (W.iret C.1 C.2.1 C.2.2.2.2.2.2.2.1 (fun _ ht hw => ⟨rfl, ht, hw⟩) P.2.2.2.2 hd (hlocks := C.2.2.2.2.2.1))
theorem x_zret (C : XC s0 D cI cL p s m meth c own cc nL (some .boolean) tb) {v : Int} (hd : decode cc pc = .ok (.ireturn, 1)) (hv : v = 0 ∨ v = 1) (h1 : cells ≤ mc) (h2 : slots ≤ ms) (hp : Post (.inl (some (.int (zI v)))) h K) : XW s0 D p l e R s m args below meth c (XQ s0 D mc ms Post below s) pc lv [.int (zI v)] h K cells slots :=
  fun _ _ _ P => x_end P C.2.2.2.2.1 h1 h2 hp (W.zret C.1 C.2.1 C.2.2.2.2.2.2.2.1 (by rcases hv with e | e <;> subst e <;> rfl) (fun _ ht hw => ⟨rfl, ht, hw⟩) P.2.2.2.2 hd (hlocks := C.2.2.2.2.2.1))
theorem x_lret (C : XC s0 D cI cL p s m meth c own cc nL (some .long) tb) {v : Int64} (hd : decode cc pc = .ok (.lreturn, 1)) (h1 : cells ≤ mc) (h2 : slots ≤ ms) (hp : Post (.inl (some (.long v))) h K) : XW s0 D p l e R s m args below meth c (XQ s0 D mc ms Post below s) pc lv [.long v] h K cells slots :=
  fun _ _ _ P => x_end P C.2.2.2.2.1 h1 h2 hp (W.lret C.1 C.2.1 C.2.2.2.2.2.2.2.1 (fun _ ht hw => ⟨rfl, ht, hw⟩) P.2.2.2.2 hd (hlocks := C.2.2.2.2.2.1))
theorem x_vret (C : XC s0 D cI cL p s m meth c own cc nL none tb) (hd : decode cc pc = .ok (.return_, 1)) (h1 : cells ≤ mc) (h2 : slots ≤ ms) (hp : Post (.inl none) h K) : XW s0 D p l e R s m args below meth c (XQ s0 D mc ms Post below s) pc lv [] h K cells slots :=
  fun _ _ _ P => x_end P C.2.2.2.2.1 h1 h2 hp (W.vret C.1 C.2.1 C.2.2.2.2.2.2.2.1 (fun _ ht hw => ⟨rfl, ht, hw⟩) P.2.2.2.2 hd (hlocks := C.2.2.2.2.2.1))
end Rets
/-- an instruction that invokes y -/
def XI (p : Program) (l : Launch) (e : Env) (R : Room) (s : State) (m : MethodId) (args : Array Value) (below : List Frame) (meth : Method) (c : Code) (H : Heap) (locs : List Loc) (cells slots : Nat) (y : MethodName) (g : JFrame) (rest : List Value) (a : Array Value) : Prop :=
  ∀ T : State, T.heap = H → Stand p l e R s m args below meth c T locs cells slots → ∃ (vm₁ : Vm) (mk : MethodId), s.WarmedH vm₁ ∧ Stand p l e R s m args below meth c (T.setVm vm₁) locs cells slots ∧ (T.setVm vm₁).methodNamed? y = some mk ∧
    ∀ target, Steps p.tables e below (doInvoke e ((T.setVm vm₁).setTop { g with stack := rest }) [] mk a).1 target → Steps p.tables e below (T.setTop g) target
section Inv
variable {p : Program} {l : Launch} {e : Env} {R : Room} {s : State} {m : MethodId} {args : Array Value} {below : List Frame} {meth : Method} {c : Code} {H : Heap} {locs : List Loc} {cells slots : Nat}
variable {own : String} {index : Nat} {y : MethodName} {bytes : ByteArray} {maxL : Nat} {ret : Option FieldType} {g : JFrame} {argsL rest : List Value}
theorem i_V {Cn : String} (hexec : p.tables.exec = Jvm.exec) (hown : s.vm.findClass own = some m.cls) (hlink : (Cond.methodLink own index y).before args s = true) (hinst : (Cond.instanceMethod y).before args s = true) (hsel : (Cond.selects Cn y y).before args s = true)
    (hcode : (Cond.code y bytes maxL ret).before args s = true) (hy : y.cls ≠ "java/lang/invoke/MethodHandle" ∧ y.cls ≠ "java/lang/invoke/VarHandle") {b : Addr} {cellB : Cell} (hcell : H[b]? = some cellB) (hobj : cellB.vm.isStatics = false) (hcls : s.vm.findClass Cn = some cellB.cls)
    (hg : g.method = m) (hlen : (parseMethodDescriptor y.desc).map (fun d => d.parameters.length) = some argsL.length) (hstack : g.stack = argsL.reverse ++ .ref b :: rest) (hdg : decode c.code g.pc = .ok (.invokevirtual index, 3)) :
    XI p l e R s m args below meth c H locs cells slots y g rest (Value.ref b :: argsL).toArray := by
  intro T hT X
  obtain ⟨mk, methM, hnamed, hmethM, hstM, habM⟩ := Cond.instanceMethod_spec hinst
  obtain ⟨methM', cM, hmethM', -, -, -, -, -, -, hsigM⟩ := Cond.code_spec hnamed hcode
  cases hmethM.symm.trans hmethM'
  obtain ⟨c2, r2, m2, q1, q2, q3, q4, kP, hkP, hkPi⟩ := Cond.selects_spec hsel
  cases hcls.symm.trans q1
  cases (State.methodFound?_of_named hnamed hy).symm.trans q2
  cases hnamed.symm.trans q3
  have hselP : selectMethod e.platform s.vm cellB.cls mk = .method mk := by rw [Launch.admits_selectMethod X.admits]; exact q4
  obtain ⟨vm₁, X₁, hstep₁⟩ := X.invokevirtual hexec hown hlink hnamed hmethM hstM hkP hkPi hy (a := b) (cell := cellB) (by rw [hT]; exact hcell)
    (fun z h => by rw [h] at hobj; cases hobj) hselP hmethM habM hkP hkPi (g := g) hg (argsL := argsL) (rest := rest) (by rw [hsigM] at hlen; exact (Option.some.inj hlen).symm) hstack hdg
  exact ⟨vm₁, mk, X₁.warmed, X₁, X₁.named hnamed, fun target h => hstep₁ _ fun acts => by rw [doInvoke_state]; exact h⟩
theorem i_VN {Cn host : String} (hexec : p.tables.exec = Jvm.exec) (hown : s.vm.findClass own = some m.cls) (hlink : (Cond.methodLinkNest own index y host).before args s = true) (hinst : (Cond.instanceMethod y).before args s = true) (hsel : (Cond.selects Cn y y).before args s = true)
    (hcode : (Cond.code y bytes maxL ret).before args s = true) (hy : y.cls ≠ "java/lang/invoke/MethodHandle" ∧ y.cls ≠ "java/lang/invoke/VarHandle") {b : Addr} {cellB : Cell} (hcell : H[b]? = some cellB) (hobj : cellB.vm.isStatics = false) (hcls : s.vm.findClass Cn = some cellB.cls)
    (hg : g.method = m) (hlen : (parseMethodDescriptor y.desc).map (fun d => d.parameters.length) = some argsL.length) (hstack : g.stack = argsL.reverse ++ .ref b :: rest) (hdg : decode c.code g.pc = .ok (.invokevirtual index, 3)) :
    XI p l e R s m args below meth c H locs cells slots y g rest (Value.ref b :: argsL).toArray := by
  intro T hT X
  obtain ⟨mk, methM, hnamed, hmethM, hstM, habM⟩ := Cond.instanceMethod_spec hinst
  obtain ⟨methM', cM, hmethM', -, -, -, -, -, -, hsigM⟩ := Cond.code_spec hnamed hcode
  cases hmethM.symm.trans hmethM'
  obtain ⟨c2, r2, m2, q1, q2, q3, q4, kP, hkP, hkPi⟩ := Cond.selects_spec hsel
  cases hcls.symm.trans q1
  cases (State.methodFound?_of_named hnamed hy).symm.trans q2
  cases hnamed.symm.trans q3
  have hselP : selectMethod e.platform s.vm cellB.cls mk = .method mk := by rw [Launch.admits_selectMethod X.admits]; exact q4
  obtain ⟨vm₁, X₁, hstep₁⟩ := X.invokevirtualNest hexec hown hlink hnamed hmethM hstM hkP hkPi hy (a := b) (cell := cellB) (by rw [hT]; exact hcell)
    (fun z h => by rw [h] at hobj; cases hobj) hselP hmethM habM hkP hkPi (g := g) hg (argsL := argsL) (rest := rest) (by rw [hsigM] at hlen; exact (Option.some.inj hlen).symm) hstack hdg
  exact ⟨vm₁, mk, X₁.warmed, X₁, X₁.named hnamed, fun target h => hstep₁ _ fun acts => by rw [doInvoke_state]; exact h⟩
theorem i_S (hexec : p.tables.exec = Jvm.exec) (hown : s.vm.findClass own = some m.cls) (hlink : (Cond.methodLink own index y).before args s = true) (hstat : (Cond.static y).before args s = true) (hinit : (Cond.initialized y.cls).before args s = true)
    (hcode : (Cond.code y bytes maxL ret).before args s = true) (hy : y.cls ≠ "java/lang/invoke/MethodHandle" ∧ y.cls ≠ "java/lang/invoke/VarHandle")
    (hg : g.method = m) (hlen : (parseMethodDescriptor y.desc).map (fun d => d.parameters.length) = some argsL.length) (hstack : g.stack = argsL.reverse ++ rest) (hdg : decode c.code g.pc = .ok (.invokestatic index, 3)) :
    XI p l e R s m args below meth c H locs cells slots y g rest argsL.toArray := by
  intro T hT X
  obtain ⟨mk, hnamed⟩ := Cond.code_named hcode
  obtain ⟨methM, cM, hmethM, -, -, -, -, -, -, hsigM⟩ := Cond.code_spec hnamed hcode
  have hstatic : methM.isStatic = true := Cond.static_spec hnamed hmethM hstat
  obtain ⟨kP, hkP, -⟩ := className_of_methodNamed hnamed
  have hinitP : kP.init = .initialized := Cond.initialized_spec (findClass_of_methodNamed hnamed) hkP hinit
  obtain ⟨vm₁, X₁, hstep₁⟩ := X.invokestatic hexec hown hlink hnamed hmethM hstatic hkP hinitP hy (g := g) hg (argsL := argsL) (rest := rest) (by rw [hsigM] at hlen; exact (Option.some.inj hlen).symm) hstack hdg
  exact ⟨vm₁, mk, X₁.warmed, X₁, X₁.named hnamed, fun target h => hstep₁ _ fun acts => by rw [doInvoke_state]; exact h⟩
theorem i_SN {host : String} (hexec : p.tables.exec = Jvm.exec) (hown : s.vm.findClass own = some m.cls) (hlink : (Cond.methodLinkNest own index y host).before args s = true) (hstat : (Cond.static y).before args s = true) (hinit : (Cond.initialized y.cls).before args s = true)
    (hcode : (Cond.code y bytes maxL ret).before args s = true) (hy : y.cls ≠ "java/lang/invoke/MethodHandle" ∧ y.cls ≠ "java/lang/invoke/VarHandle")
    (hg : g.method = m) (hlen : (parseMethodDescriptor y.desc).map (fun d => d.parameters.length) = some argsL.length) (hstack : g.stack = argsL.reverse ++ rest) (hdg : decode c.code g.pc = .ok (.invokestatic index, 3)) :
    XI p l e R s m args below meth c H locs cells slots y g rest argsL.toArray := by
  intro T hT X
  obtain ⟨mk, hnamed⟩ := Cond.code_named hcode
  obtain ⟨methM, cM, hmethM, -, -, -, -, -, -, hsigM⟩ := Cond.code_spec hnamed hcode
  have hstatic : methM.isStatic = true := Cond.static_spec hnamed hmethM hstat
  obtain ⟨kP, hkP, -⟩ := className_of_methodNamed hnamed
  have hinitP : kP.init = .initialized := Cond.initialized_spec (findClass_of_methodNamed hnamed) hkP hinit
  obtain ⟨vm₁, X₁, hstep₁⟩ := X.invokestaticNest hexec hown hlink hnamed hmethM hstatic hkP hinitP hy (g := g) hg (argsL := argsL) (rest := rest) (by rw [hsigM] at hlen; exact (Option.some.inj hlen).symm) hstack hdg
  exact ⟨vm₁, mk, X₁.warmed, X₁, X₁.named hnamed, fun target h => hstep₁ _ fun acts => by rw [doInvoke_state]; exact h⟩
theorem i_I (hexec : p.tables.exec = Jvm.exec) (hown : s.vm.findClass own = some m.cls) (hy1 : y.name = "<init>") (hlink : (Cond.methodLink own index y).before args s = true) (hinst : (Cond.instanceMethod y).before args s = true)
    (hcode : (Cond.code y bytes maxL none).before args s = true) (hy : y.cls ≠ "java/lang/invoke/MethodHandle" ∧ y.cls ≠ "java/lang/invoke/VarHandle") {a : Addr}
    (hg : g.method = m) (hlen : (parseMethodDescriptor y.desc).map (fun d => d.parameters.length) = some argsL.length) (hstack : g.stack = argsL.reverse ++ .ref a :: rest) (hdg : decode c.code g.pc = .ok (.invokespecial index, 3)) :
    XI p l e R s m args below meth c H locs cells slots y g rest (Value.ref a :: argsL).toArray := by
  intro T hT X
  subst hg
  have hpl : e.platform.magicAccessors = ({} : Platform).magicAccessors := by rw [X.admits.platform]
  obtain ⟨mk, methM, cM, kP, vm₁, hnamed, hmethM, hcodeM, -, hlocalsM, -, hkP, -, hW₁, hstep₁⟩ := Steps.initColdArgs (e := e) X.here hexec X.warmed hpl hown hy1 hy hlink hinst hcode (f := g) rfl (argsL := argsL) (fun sig h => by rw [h] at hlen; exact (Option.some.inj hlen).symm) hstack hdg
  have X₁ := X.noted hW₁
  exact ⟨vm₁, mk, X₁.warmed, X₁, X₁.named hnamed, fun target h => hstep₁ _ fun acts => by rw [doInvoke_state]; exact h⟩
theorem i_IN {host : String} (hexec : p.tables.exec = Jvm.exec) (hown : s.vm.findClass own = some m.cls) (hy1 : y.name = "<init>") (hlink : (Cond.methodLinkNest own index y host).before args s = true) (hinst : (Cond.instanceMethod y).before args s = true)
    (hcode : (Cond.code y bytes maxL none).before args s = true) (hy : y.cls ≠ "java/lang/invoke/MethodHandle" ∧ y.cls ≠ "java/lang/invoke/VarHandle") {a : Addr}
    (hg : g.method = m) (hlen : (parseMethodDescriptor y.desc).map (fun d => d.parameters.length) = some argsL.length) (hstack : g.stack = argsL.reverse ++ .ref a :: rest) (hdg : decode c.code g.pc = .ok (.invokespecial index, 3)) :
    XI p l e R s m args below meth c H locs cells slots y g rest (Value.ref a :: argsL).toArray := by
  intro T hT X
  subst hg
  have hpl : e.platform.magicAccessors = ({} : Platform).magicAccessors := by rw [X.admits.platform]
  obtain ⟨mk, methM, cM, kP, vm₁, hnamed, hmethM, hcodeM, -, hlocalsM, -, hkP, -, hW₁, hstep₁⟩ := Steps.initColdArgsNest (e := e) X.here hexec X.warmed hpl hown hy1 hy hlink hinst hcode (f := g) rfl (argsL := argsL) (fun sig h => by rw [h] at hlen; exact (Option.some.inj hlen).symm) hstack hdg
  have X₁ := X.noted hW₁
  exact ⟨vm₁, mk, X₁.warmed, X₁, X₁.named hnamed, fun target h => hstep₁ _ fun acts => by rw [doInvoke_state]; exact h⟩
end Inv
section Back2
variable {a0 : Array Value} {s0 : State} {D : va_G} {p : Program} {l : Launch} {e : Env} {R : Room} {s : State} {m : MethodId} {args : Array Value} {below : List Frame} {meth : Method} {c : Code} {T : State} {locs : List Loc} {cells slots : Nat}
variable {y : MethodName} {cc' : ByteArray} {nL' : Nat} {ret' : Option FieldType} {d mc ms : Nat} {av : List Value} {h : AH} {K : Nat} {Post : AO → AH → Nat → Prop}
/-- the callee comes back, or throws -/
theorem x_back (hM : XM l s0 D y cc' nL' ret' d mc ms av h K Post) (X : Stand p l e R s m args below meth c T locs cells slots) {g : JFrame} (hg : g.method = m) (hsize : g.locals.size = c.maxLocals) {ig : Instr} (hdg : decode c.code g.pc = .ok (ig, 3)) (hW : 2 * g.monitorRoom + (g.stack.map fun v => v.category).sum ≤ 8)
    {mk : MethodId} (hn : T.methodNamed? y = some mk) (hw : a_W s0 D h K T) (hcode : (Cond.code y cc' nL' ret').before av.toArray T = true) (hini : (Cond.initialized y.cls).before av.toArray T = true)
    (hfr : d + 1 ≤ R.frames) (hlo : 8 + (nL' + 11) + 38 * d ≤ R.locals) (hc : cells + mc ≤ R.cells) (hs : slots + ms ≤ R.slots) :
    ∃ (h' : AH) (K' : Nat) (T' : State) (L : List Loc), a_W s0 D h' K' T' ∧ Stand p l e R s m args below meth c T' (locs ++ L) (cells + mc) (slots + ms) ∧ (∀ q ∈ L, s0.heap.size ≤ q.base) ∧
      ((∃ v, Post (.inl v) h' K' ∧ Steps p.tables e below (doInvoke e (T.setTop g) [] mk av.toArray).1 (T'.setTop { g with pc := g.pc + 3, stack := v.toList ++ g.stack })) ∨
       (∃ Cn x, Post (.inr Cn) h' K' ∧ a_thr Cn x T' ∧ Steps p.tables e below (doInvoke e (T.setTop g) [] mk av.toArray).1 ((T'.setTop g).pushFrame (.throwing x)))) := by
  obtain ⟨methY, cY, hmY, hcY, -, hlY, -, -, -, -⟩ := Cond.code_spec hn hcode
  obtain ⟨kY, hkY, -⟩ := className_of_methodNamed hn
  have hinitY : kY.init = .initialized := Cond.initialized_spec (findClass_of_methodNamed hn) hkY hini
  have hA : At T g.method c below := by rw [hg]; exact X.here
  have happ : (headSpec [.code y cc' nL' ret'] (a_rm d mc ms)).appliesLoose y e.platform (T.calling g mk av.toArray) = true :=
    Spec.appliesLoose_calling (g := g) hA hdg hn hkY hinitY
      (X.room_calling (g := g) (R' := a_rm d mc ms) hsize hmY hcY (by show d + 1 ≤ _; exact hfr) (by rw [hlY]; show _ + 38 * d ≤ _; omega) hc hs) (atoms_intro (fun w hw => by rw [List.mem_singleton.mp hw]; exact hcode))
  obtain ⟨mid, hmid⟩ := hA.above
  have hfr2 : (T.setTop g).frames = (.java g :: mid) ++ below := by rw [State.frames_setTop' g hA.top, hmid]; rfl
  obtain ⟨o, s₂, hsteps, hrun, hend, hq⟩ := Steps.callFree hM p X.admits X.cas X.clock (acts := []) hfr2 happ ⟨rfl, hw.1, hw.2.1, hw.2.2.1, hw.2.2.2⟩ trivial
  have hq' : XO s0 D mc ms Post (T.calling g mk av.toArray) o s₂ := hq
  rw [State.frames_setTop' g hA.top] at hend
  obtain ⟨h', K', hw', hpo, L, hW₂, hsame, hL⟩ := hq'
  cases o with
  | threw x =>
    have htl : T.frames.tail = below := X.tail
    rw [htl] at hend
    obtain ⟨T', X', r1, r2, r3⟩ := X.outOfThrown hg hend hW₂ hsame
    obtain ⟨Cn, hp1, hp2⟩ := hpo
    subst r3
    have eh : ((T'.setTop g).pushFrame (.throwing x)).heap = T'.heap := Stand.throwing_heap T' g x
    have ev : ((T'.setTop g).pushFrame (.throwing x)).vm = T'.vm := Stand.throwing_vm T' g x
    refine ⟨h', K', T', L, ?_, X', hL, Or.inr ⟨Cn, x, hp1, ?_, hsteps⟩⟩
    · unfold a_W at hw' ⊢
      rw [eh, ev] at hw'
      exact hw'
    · unfold a_thr at hp2 ⊢
      rw [eh, ev] at hp2
      exact hp2
  | returned v =>
    obtain ⟨e2, q2, q3, q4, q5, q6⟩ := hsame
    have e3 : s₂ = ({ (T.calling g mk av.toArray).setFrames s₂.frames with heap := s₂.heap, slotsUsed := s₂.slotsUsed } : State).setVm s₂.vm := by
      have : s₂ = ({ s₂ with vm := (T.calling g mk av.toArray).vm } : State).setVm s₂.vm := rfl
      rw [e2] at this
      exact this
    obtain ⟨c₂, i₂, len₂, hc₂, hd₂, hf₂⟩ := hend
    have hW' : T.WarmedH s₂.vm := hW₂
    have hcc : c₂ = c := by
      have h1 : s₂.code? g.method = T.code? g.method := by
        rw [State.code?_eq, State.code?_eq, hW'.alike.method?]
      exact Option.some.inj (hc₂.symm.trans (h1.trans hA.code))
    subst hcc
    have hlen : len₂ = 3 := by rw [hdg] at hd₂; cases hd₂; rfl
    subst hlen
    obtain ⟨g₀, hg0⟩ := Option.isSome_iff_exists.mp hA.top
    obtain ⟨r, hr⟩ := State.topJava?_eq_some.mp hg0
    have hs₂ : s₂ = (({ T with heap := s₂.heap, slotsUsed := s₂.slotsUsed } : State).setVm s₂.vm).setTop { g with pc := g.pc + 3, stack := v.toList ++ g.stack } := by
      have hr' : (({ T with heap := s₂.heap, slotsUsed := s₂.slotsUsed } : State).setVm s₂.vm).frames = .java g₀ :: r := hr
      refine e3.trans ?_
      rw [hf₂, State.calling_eq hA.top, State.setFrames_setFrames, State.setTop_of_frames _ hr', hr]
      rfl
    have hsame2 : T.sameButNew ({ T with heap := s₂.heap, slotsUsed := s₂.slotsUsed } : State) L mc ms := by
      refine ⟨?_, q2, q3, q4, q5, q6⟩
      obtain ⟨t, ht, -⟩ := State.frames_cons hr
      show ({ T with heap := s₂.heap, slotsUsed := s₂.slotsUsed } : State) = { T.setFrames T.frames with heap := s₂.heap, slotsUsed := s₂.slotsUsed }
      rw [State.setFrames_self ht]
    subst hg
    refine ⟨h', K', (({ T with heap := s₂.heap, slotsUsed := s₂.slotsUsed } : State).setVm s₂.vm), L, hw',
      ⟨X.admits, X.cas, X.clock, X.frames, X.room, X.hears, X.method, X.code, (X.here.setHeapUsed s₂.heap s₂.slotsUsed).setVm hW'.alike, X.tail, State.WarmedH.trans X.warmed hW', X.limits, X.bytes, X.same.trans (hsame2.setVm s.vm)⟩, hL, Or.inl ⟨v, hpo, ?_⟩⟩
    rw [← hs₂]
    exact hsteps
end Back2
