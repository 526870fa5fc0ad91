/-! handlers: a callee throws, the caller catches -/
section Hnd
variable {e : Env} {f : JFrame} {a : Addr}
/-- a row of the table that covers the place: her class is looked up (and noted); it takes the object, or the search goes on -/
theorem hg_link {Q : Handler → Pre} {E : CtlPost} {d : Bool} {acts : List Action} {s : State} {x : ExceptionTableEntry} {t : List ExceptionTableEntry} {c : ClassId} {cell : Cell} {b : Bool} (hx : covers x f.pc = true) (h0 : x.catchType ≠ 0)
    (hl : s.vm.ClassLinks e.platform f.method.cls x.catchType c) (hcell : s.heap[a]? = some cell) (hobj : ∀ k, cell.vm ≠ .statics k) (hk : ∃ k, s.vm.classes[cell.cls]? = some k) (hb : s.vm.assignable cell.cls c = b) :
    wp (findHandler.go f a (x :: t)) Q E e d acts s ↔ (cond b (Q (.found x.handlerPc) d acts (s.setVm (s.vm.noted f.method.cls x.catchType (.cls c)))) (wp (findHandler.go f a t) Q E e d acts (s.setVm (s.vm.noted f.method.cls x.catchType (.cls c))))) := by
  simp only [covers] at hx
  have hop := (resolveClass_links e.toSetting hl).op (op := VmOp.resolveClass f.method.cls x.catchType) rfl
  have hal : s.vm.Alike (s.vm.noted f.method.cls x.catchType (.cls c)) := (Vm.Alike.refl s.vm).noted _ _ _
  obtain ⟨dk, _, _, kt, hd, _, _, _, _, hkt, _, hopen⟩ := hl.here
  obtain ⟨k1, hk1⟩ := hk
  obtain ⟨k1', hk1', -⟩ := hal.2.2 _ _ hk1
  obtain ⟨k2', hk2', -⟩ := hal.2.2 _ _ hkt
  have hb' : (s.vm.noted f.method.cls x.catchType (.cls c)).assignable cell.cls c = b := by rw [hal.assignable]; exact hb
  cases b <;> simp [findHandler.go, hx, h0, hop.1, hop.2, hcell, hobj, hk1', hk2', hb', VmOp.dirties, VmOp.acts]
/-- the search through a table: rows that are passed, then the one that catches -/
theorem hg_walk {s : State} {wa : Array Value} {own Cn : String} {cell : Cell} (hpl : e.platform.magicAccessors = ({} : Platform).magicAccessors) (hown : s.vm.findClass own = some f.method.cls) (hcn : s.vm.findClass Cn = some cell.cls) (hobj : ∀ k, cell.vm ≠ .statics k) (hk : ∃ k, s.vm.classes[cell.cls]? = some k) (hself : s.vm.assignable cell.cls cell.cls = true)
    {x : ExceptionTableEntry} {rest : List ExceptionTableEntry} (hx : covers x f.pc = true) (h0 : x.catchType ≠ 0) (hlx : (Cond.classLink own x.catchType Cn).before wa s = true) :
    ∀ (pre : List ExceptionTableEntry) (S : State), s.WarmedH S.vm → S.heap[a]? = some cell → (∀ y ∈ pre, covers y f.pc = true ∧ y.catchType ≠ 0 ∧ ∃ N, (Cond.classLink own y.catchType N).before wa s = true ∧ va_Nc Cn N s) →
      ∃ vm', s.WarmedH vm' ∧ ∀ (Q : Handler → Pre) (E : CtlPost) (d : Bool) (acts : List Action), wp (findHandler.go f a (pre ++ x :: rest)) Q E e d acts S ↔ Q (.found x.handlerPc) d acts (S.setVm vm') := by
  intro pre
  induction pre with
  | nil =>
    intro S hW hcell _
    obtain ⟨c', hc', hcl⟩ := Cond.classLink_spec hown hlx e.platform hpl
    cases hcn.symm.trans hc'
    obtain ⟨dk, _, _, kt, hd, _, _, _, _, hkt, _, hopen⟩ := hcl.here
    obtain ⟨k0, hk0⟩ := hk
    obtain ⟨k0', hk0', -⟩ := hW.alike.2.2 _ _ hk0
    refine ⟨_, hW.noted hd hopen (State.rightAt_cls hcl), fun Q E d acts => ?_⟩
    exact hg_link (b := true) hx h0 (hW.classLinks hcl) hcell hobj ⟨k0', hk0'⟩ (by rw [hW.alike.assignable]; exact hself)
  | cons y ys ih =>
    intro S hW hcell hp
    obtain ⟨hy, hy0, N, hly, cN, tN, hN1, hN2, hN3⟩ := hp y List.mem_cons_self
    cases hcn.symm.trans hN1
    obtain ⟨c', hc', hcl⟩ := Cond.classLink_spec hown hly e.platform hpl
    cases hN2.symm.trans hc'
    obtain ⟨dk, _, _, kt, hd, _, _, _, _, hkt, _, hopen⟩ := hcl.here
    obtain ⟨k0, hk0⟩ := hk
    obtain ⟨k0', hk0', -⟩ := hW.alike.2.2 _ _ hk0
    obtain ⟨vm', hW', hq⟩ := ih (S.setVm (S.vm.noted f.method.cls y.catchType (.cls tN))) (hW.noted hd hopen (State.rightAt_cls hcl)) hcell (fun z hz => hp z (List.mem_cons_of_mem _ hz))
    refine ⟨vm', hW', fun Q E d acts => ?_⟩
    refine (hg_link (b := false) hy hy0 (hW.classLinks hcl) hcell hobj ⟨k0', hk0'⟩ (by rw [hW.alike.assignable]; exact hN3)).trans ?_
    exact hq Q E d acts
/-- from the note to the handler -/
theorem hg_caught {tb : Tables} {s target : State} {g : JFrame} {c : Code} {below : List Frame} {meth : Method} (h : At s g.method c below) (hm : s.vm.method? g.method = some meth) (hc : meth.code = some c) {pc : Nat} {vm' : Vm}
    (hf : ∀ (Q : Handler → Pre) (E : CtlPost) (d : Bool) (acts : List Action), wp (findHandler.go g a c.exceptionTable.toList) Q E e d acts ((s.setTop g).pushFrame (.throwing a)) ↔ Q (.found pc) d acts (((s.setTop g).pushFrame (.throwing a)).setVm vm'))
    (hrest : Steps tb e below ((s.setVm vm').setTop { g with pc := pc, stack := [.ref a] }) target) : Steps tb e below ((s.setTop g).pushFrame (.throwing a)) target := by
  have hm' : ((s.setTop g).pushFrame (.throwing a)).vm.method? g.method = some meth := by rw [Stand.throwing_vm]; exact hm
  have hstep : (stepThrowing e ((s.setTop g).pushFrame (.throwing a)) a (.java g :: s.frames.tail)).Is ((((s.setTop g).pushFrame (.throwing a)).setVm vm').setFrames (.java { g with pc := pc, stack := [.ref a] } :: s.frames.tail)) [] := by
    simp only [stepThrowing, searchFrame, vmDo]
    generalize hr : Sem.go _ e false [] _ = res
    obtain ⟨as, rfl, ha⟩ := Sem.eq_ok_of hr (a := Handler.found pc) (s' := ((s.setTop g).pushFrame (.throwing a)).setVm vm') (acts' := []) (by simp [W.findHandler_eq hm' hc, hf])
    exact ⟨rfl, ha⟩
  obtain ⟨hgo, hw⟩ := h.throwing a
  refine Steps.head hgo hw ?_
  rw [stepThread_throwing (frames_entered h.top _), hstep.1]
  obtain ⟨g₀, hg⟩ := Option.isSome_iff_exists.mp h.top
  obtain ⟨r, hr⟩ := State.topJava?_eq_some.mp hg
  have hr' : (s.setVm vm').frames = .java g₀ :: r := hr
  rw [State.setTop_of_frames _ hr'] at hrest
  have e1 : (((s.setTop g).pushFrame (.throwing a)).setVm vm').setFrames (.java { g with pc := pc, stack := [.ref a] } :: s.frames.tail) = (s.setVm vm').setFrames (.java { g with pc := pc, stack := [.ref a] } :: r) := by
    rw [State.pushFrame, State.setTop_of_frames _ hr, State.setFrames_setFrames, hr]
    generalize Frame.throwing a :: (s.setFrames (Frame.java g :: r)).frames = F
    have e2 : (s.setFrames F).setVm vm' = (s.setVm vm').setFrames F := rfl
    rw [e2, State.setFrames_setFrames]
    rfl
  rw [e1]
  exact hrest
end Hnd
/-! methods with handlers -/
def hQ (tb : List ExceptionTableEntry) : List (Nat × Nat × Nat × Nat) := tb.map (fun h => (h.startPc, h.endPc, h.handlerPc, h.catchType))
def XMH (l : Launch) (s0 : State) (D : va_G) (y : MethodName) (cc : ByteArray) (nL : Nat) (ret : Option FieldType) (hs : List (Nat × Nat × Nat × Nat)) (d mc ms : Nat) (av : List Value) (h : AH) (K : Nat) (Post : AO → AH → Nat → Prop) : Prop :=
  MetFree l y (headSpec [.codeWith y cc nL ret hs] (a_rm d mc ms)) (fun a U => a = av.toArray ∧ a_W s0 D h K U) (fun _ _ _ _ _ => True) (fun _ st o t => XO s0 D mc ms Post st o t)
theorem XMH.of {l : Launch} {s0 : State} {D : va_G} {cI cL : ClassId} {y : MethodName} {cc : ByteArray} {nL : Nat} {ret : Option FieldType} {hs : List (Nat × Nat × Nat × Nat)} {d mc ms : Nat} {av : List Value} {h : AH} {K : Nat} {Post : AO → AH → Nat → Prop} {own : String}
    (hy : plainName y.cls = true) (ho : y.cls = own) (hK : va_K D vwCl [(cI, .int), (cL, .long)] s0) (hav : (lg_sl av).length ≤ nL)
    (body : ∀ (p : Program) (e : Env) (s : State) (m : MethodId) (below : List Frame) (meth : Method) (c : Code) (tb : List ExceptionTableEntry), hQ tb = hs → XC s0 D cI cL p s m meth c own cc nL ret tb → XW s0 D p l e (a_rm d mc ms) s m av.toArray below meth c (XQ s0 D mc ms Post below s) 0 (lv_args 0 av) [] h K 0 0) :
    XMH l s0 D y cc nL ret hs d mc ms av h K Post := by
  refine MetFree.of_bodyS (code := cc) (maxLocals := nL) (ret := ret) hy ?_ ?_
  · intro args s m h hn
    obtain ⟨m', meth, c, h0, h1, h2, h3, h4, -, h5, h6, -⟩ := Cond.codeWith_spec (atoms_spec (ws := [.codeWith y cc nL ret hs]) h _ List.mem_cons_self)
    cases hn.symm.trans h0
    exact ⟨meth, c, h1, h2, h3, h4, h5, h6⟩
  · intro p e s m args below meth c s₁ B hml hP _
    obtain ⟨ha, hw⟩ := hP
    subst ha
    have hh0 : s₁.heap = s.heap := by rw [B.state]; rfl
    have htb : hQ c.exceptionTable.toList = hs := by
      obtain ⟨m', meth', c', h0, h1, h2, -, -, h5, -⟩ := Cond.codeWith_spec (atoms_spec (ws := [.codeWith y cc nL ret hs]) B.pre _ List.mem_cons_self)
      cases B.named.symm.trans h0
      cases B.method.symm.trans h1
      cases (Stand.of_body B).code.symm.trans h2
      exact h5
    have X := body p e s m below meth c c.exceptionTable.toList htb ⟨B.exec, B.bytes, hml, by rw [← ho]; exact findClass_of_methodNamed B.named, hw.1, B.notSynchronized, va_K.moved hw.1.alike hK, B.returns, rfl⟩
    have hl := lv_entry av (n := nL) hav
    have hw2 := X _ s.heap [] ⟨by rw [hml]; exact hl, hw.2.1, hw.2.2.1, hw.2.2.2, fun q hq => by cases hq⟩
    rw [lg_entry_eq]
    obtain ⟨t, a1, o, b1, b2, b3⟩ := hw2 s₁ hh0 (Stand.of_body B)
    exact ⟨t, o, a1, b1, b2, b3⟩
section BackH
variable {a0 : Array Value} {s0 : State} {D : va_G} {p : Program} {l : Launch} {e : Env} {R : Room} {s : State} {m : MethodId} {args : Array Value} {below : List Frame} {meth : Method} {c : Code} {T : State} {locs : List Loc} {cells slots : Nat}
variable {y : MethodName} {cc' : ByteArray} {nL' : Nat} {ret' : Option FieldType} {hs : List (Nat × Nat × Nat × Nat)} {d mc ms : Nat} {av : List Value} {h : AH} {K : Nat} {Post : AO → AH → Nat → Prop}
/-- the callee comes back, or throws -/
theorem x_backH (hM : XMH l s0 D y cc' nL' ret' hs d mc ms av h K Post) (X : Stand p l e R s m args below meth c T locs cells slots) {g : JFrame} (hg : g.method = m) (hsize : g.locals.size = c.maxLocals) {ig : Instr} (hdg : decode c.code g.pc = .ok (ig, 3)) (hW : 2 * g.monitorRoom + (g.stack.map fun v => v.category).sum ≤ 8)
    {mk : MethodId} (hn : T.methodNamed? y = some mk) (hw : a_W s0 D h K T) (hcode : (Cond.codeWith y cc' nL' ret' hs).before av.toArray T = true) (hini : (Cond.initialized y.cls).before av.toArray T = true)
    (hfr : d + 1 ≤ R.frames) (hlo : 8 + (nL' + 11) + 38 * d ≤ R.locals) (hc : cells + mc ≤ R.cells) (hsl : slots + ms ≤ R.slots) :
    ∃ (h' : AH) (K' : Nat) (T' : State) (L : List Loc), a_W s0 D h' K' T' ∧ Stand p l e R s m args below meth c T' (locs ++ L) (cells + mc) (slots + ms) ∧ (∀ q ∈ L, s0.heap.size ≤ q.base) ∧
      ((∃ v, Post (.inl v) h' K' ∧ Steps p.tables e below (doInvoke e (T.setTop g) [] mk av.toArray).1 (T'.setTop { g with pc := g.pc + 3, stack := v.toList ++ g.stack })) ∨
       (∃ Cn x, Post (.inr Cn) h' K' ∧ a_thr Cn x T' ∧ Steps p.tables e below (doInvoke e (T.setTop g) [] mk av.toArray).1 ((T'.setTop g).pushFrame (.throwing x)))) := by
  obtain ⟨mY', methY, cY, hmN, hmY, hcY, -, hlY, -⟩ := Cond.codeWith_spec hcode
  cases hn.symm.trans hmN
  obtain ⟨kY, hkY, -⟩ := className_of_methodNamed hn
  have hinitY : kY.init = .initialized := Cond.initialized_spec (findClass_of_methodNamed hn) hkY hini
  have hA : At T g.method c below := by rw [hg]; exact X.here
  have happ : (headSpec [.codeWith y cc' nL' ret' hs] (a_rm d mc ms)).appliesLoose y e.platform (T.calling g mk av.toArray) = true :=
    Spec.appliesLoose_calling (g := g) hA hdg hn hkY hinitY
      (X.room_calling (g := g) (R' := a_rm d mc ms) hsize hmY hcY (by show d + 1 ≤ _; exact hfr) (by rw [hlY]; show _ + 38 * d ≤ _; omega) hc hsl) (atoms_intro (fun w hw => by rw [List.mem_singleton.mp hw]; exact hcode))
  obtain ⟨mid, hmid⟩ := hA.above
  have hfr2 : (T.setTop g).frames = (.java g :: mid) ++ below := by rw [State.frames_setTop' g hA.top, hmid]; rfl
  obtain ⟨o, s₂, hsteps, hrun, hend, hq⟩ := Steps.callFree hM p X.admits X.cas X.clock (acts := []) hfr2 happ ⟨rfl, hw.1, hw.2.1, hw.2.2.1, hw.2.2.2⟩ trivial
  have hq' : XO s0 D mc ms Post (T.calling g mk av.toArray) o s₂ := hq
  rw [State.frames_setTop' g hA.top] at hend
  obtain ⟨h', K', hw', hpo, L, hW₂, hsame, hL⟩ := hq'
  cases o with
  | threw x =>
    have htl : T.frames.tail = below := X.tail
    rw [htl] at hend
    obtain ⟨T', X', r1, r2, r3⟩ := X.outOfThrown hg hend hW₂ hsame
    obtain ⟨Cn, hp1, hp2⟩ := hpo
    subst r3
    have eh : ((T'.setTop g).pushFrame (.throwing x)).heap = T'.heap := Stand.throwing_heap T' g x
    have ev : ((T'.setTop g).pushFrame (.throwing x)).vm = T'.vm := Stand.throwing_vm T' g x
    refine ⟨h', K', T', L, ?_, X', hL, Or.inr ⟨Cn, x, hp1, ?_, hsteps⟩⟩
    · unfold a_W at hw' ⊢
      rw [eh, ev] at hw'
      exact hw'
    · unfold a_thr at hp2 ⊢
      rw [eh, ev] at hp2
      exact hp2
  | returned v =>
    obtain ⟨e2, q2, q3, q4, q5, q6⟩ := hsame
    have e3 : s₂ = ({ (T.calling g mk av.toArray).setFrames s₂.frames with heap := s₂.heap, slotsUsed := s₂.slotsUsed } : State).setVm s₂.vm := by
      have : s₂ = ({ s₂ with vm := (T.calling g mk av.toArray).vm } : State).setVm s₂.vm := rfl
      rw [e2] at this
      exact this
    obtain ⟨c₂, i₂, len₂, hc₂, hd₂, hf₂⟩ := hend
    have hW' : T.WarmedH s₂.vm := hW₂
    have hcc : c₂ = c := by
      have h1 : s₂.code? g.method = T.code? g.method := by
        rw [State.code?_eq, State.code?_eq, hW'.alike.method?]
      exact Option.some.inj (hc₂.symm.trans (h1.trans hA.code))
    subst hcc
    have hlen : len₂ = 3 := by rw [hdg] at hd₂; cases hd₂; rfl
    subst hlen
    obtain ⟨g₀, hg0⟩ := Option.isSome_iff_exists.mp hA.top
    obtain ⟨r, hr⟩ := State.topJava?_eq_some.mp hg0
    have hs₂ : s₂ = (({ T with heap := s₂.heap, slotsUsed := s₂.slotsUsed } : State).setVm s₂.vm).setTop { g with pc := g.pc + 3, stack := v.toList ++ g.stack } := by
      have hr' : (({ T with heap := s₂.heap, slotsUsed := s₂.slotsUsed } : State).setVm s₂.vm).frames = .java g₀ :: r := hr
      refine e3.trans ?_
      rw [hf₂, State.calling_eq hA.top, State.setFrames_setFrames, State.setTop_of_frames _ hr', hr]
      rfl
    have hsame2 : T.sameButNew ({ T with heap := s₂.heap, slotsUsed := s₂.slotsUsed } : State) L mc ms := by
      refine ⟨?_, q2, q3, q4, q5, q6⟩
      obtain ⟨t, ht, -⟩ := State.frames_cons hr
      show ({ T with heap := s₂.heap, slotsUsed := s₂.slotsUsed } : State) = { T.setFrames T.frames with heap := s₂.heap, slotsUsed := s₂.slotsUsed }
      rw [State.setFrames_self ht]
    subst hg
    refine ⟨h', K', (({ T with heap := s₂.heap, slotsUsed := s₂.slotsUsed } : State).setVm s₂.vm), L, hw',
      ⟨X.admits, X.cas, X.clock, X.frames, X.room, X.hears, X.method, X.code, (X.here.setHeapUsed s₂.heap s₂.slotsUsed).setVm hW'.alike, X.tail, State.WarmedH.trans X.warmed hW', X.limits, X.bytes, X.same.trans (hsame2.setVm s.vm)⟩, hL, Or.inl ⟨v, hpo, ?_⟩⟩
    rw [← hs₂]
    exact hsteps
end BackH
section CallRowsH
variable {a0 : Array Value} {s0 : State} {D : va_G} {cI cL : ClassId} {p : Program} {l : Launch} {e : Env} {R : Room} {s : State} {m : MethodId} {args : Array Value} {below : List Frame} {meth : Method} {c : Code} {Q : State → Prop} {tb : List ExceptionTableEntry}
variable {own : String} {cc : ByteArray} {nL : Nat} {ret : Option FieldType} {pc : Nat} {lv : List (Nat × Value)} {st rest : List Value} {h : AH} {K cells slots : Nat}
variable {y : MethodName} {cc' : ByteArray} {nL' : Nat} {ret' : Option FieldType} {hs : List (Nat × Nat × Nat × Nat)} {d mc ms : Nat} {av : List Value} {Post : AO → AH → Nat → Prop}
theorem x_goH (C : XC s0 D cI cL p s m meth c own cc nL ret tb) (hI : ∀ (ls : Array Slot) (H : Heap) (locs : List Loc), XP s0 D c.maxLocals lv h K ls H locs → XI p l e R s m args below meth c H locs cells slots y (F0 m pc ls st) rest av.toArray) {ig : Instr} (hd : decode cc pc = .ok (ig, 3)) (hM : XMH l s0 D y cc' nL' ret' hs d mc ms av h K Post) (wc : (Cond.codeWith y cc' nL' ret' hs).before a0 s0 = true) (wi : (Cond.initialized y.cls).before a0 s0 = true) (hr : (rest.map fun v => v.category).sum ≤ 8) (hf : d + 1 ≤ R.frames) (hl : 8 + (nL' + 11) + 38 * d ≤ R.locals) (hc : cells + mc ≤ R.cells) (hsl : slots + ms ≤ R.slots)
    (kk : ∀ (v : Option Value) (h' : AH) (K' : Nat), Post (.inl v) h' K' → XW s0 D p l e R s m args below meth c Q (pc + 3) lv (v.toList ++ rest) h' K' (cells + mc) (slots + ms))
    (kt : ∀ (Cn : String) (h' : AH) (K' : Nat), Post (.inr Cn) h' K' → ∀ (ls : Array Slot) (locs : List Loc) (x : Nat) (T' : State), ls.size = c.maxLocals → a_W s0 D h' K' T' → a_thr Cn x T' → Stand p l e R s m args below meth c T' locs (cells + mc) (slots + ms) → lv_has ls c.maxLocals lv → (∀ q ∈ locs, s0.heap.size ≤ q.base) → ∃ t, Steps p.tables e below ((T'.setTop (F0 m pc ls rest)).pushFrame (.throwing x)) t ∧ Q t) : XW s0 D p l e R s m args below meth c Q pc lv st h K cells slots := by
  intro ls H locs P T hT X
  obtain ⟨vm₁, mk, hW₁, X₁, hn, hst⟩ := hI ls H locs P T hT X
  have hwarm : s0.WarmedH vm₁ := State.WarmedH.trans C.2.2.2.2.1 hW₁
  have hw : a_W s0 D h K (T.setVm vm₁) := ⟨hwarm, by show T.heap.size = _; rw [hT]; exact P.2.1, fun q hq => by show T.heap[q]? = _; rw [hT]; exact P.2.2.1 q hq, fun k x hx => by show va_at D vwCl _ T.heap; rw [hT]; exact P.2.2.2.1 k x hx⟩
  obtain ⟨h', K', T', L, w', X', hL, r⟩ := x_backH hM X₁ (g := F0 m pc ls rest) rfl P.1.1 (by rw [C.2.1]; exact hd) (by show 2 * 0 + (rest.map fun v => v.category).sum ≤ 8; omega) hn hw (word_at (U := T.setVm vm₁) hwarm (good_of_word rfl) wc) (word_at (U := T.setVm vm₁) hwarm (good_of_word rfl) wi) hf hl hc hsl
  have hL2 : ∀ q ∈ locs ++ L, s0.heap.size ≤ q.base := fun q hq => by
    rcases List.mem_append.mp hq with h1 | h1
    · exact P.2.2.2.2 q h1
    · exact hL q h1
  rcases r with ⟨v, hp, hs2⟩ | ⟨Cn, x, hp, hthr, hs2⟩
  · obtain ⟨t, a1, b1⟩ := kk v h' K' hp ls T'.heap (locs ++ L) ⟨P.1, w'.2.1, w'.2.2.1, w'.2.2.2, hL2⟩ T' rfl X'
    exact ⟨t, hst t (hs2.trans a1), b1⟩
  · obtain ⟨t, a1, b1⟩ := kt Cn h' K' hp ls (locs ++ L) x T' P.1.1 w' hthr X' P.1 hL2
    exact ⟨t, hst t (hs2.trans a1), b1⟩
variable {argsL : List Value} {index : Nat}
theorem x_callSH (C : XC s0 D cI cL p s m meth c own cc nL ret tb)  (w1 : (Cond.methodLink own index y).before a0 s0 = true) (w2 : (Cond.static y).before a0 s0 = true) (wc : (Cond.codeWith y cc' nL' ret' hs).before a0 s0 = true) (wi : (Cond.initialized y.cls).before a0 s0 = true) (hd : decode cc pc = .ok (.invokestatic index, 3)) (hM : XMH l s0 D y cc' nL' ret' hs d mc ms argsL h K Post) (hy : y.cls ≠ "java/lang/invoke/MethodHandle" ∧ y.cls ≠ "java/lang/invoke/VarHandle") (hlen : (parseMethodDescriptor y.desc).map (fun d => d.parameters.length) = some argsL.length) (hst : st = argsL.reverse ++ rest) (hr : (rest.map fun v => v.category).sum ≤ 8) (hf : d + 1 ≤ R.frames) (hl : 8 + (nL' + 11) + 38 * d ≤ R.locals) (hc : cells + mc ≤ R.cells) (hsl : slots + ms ≤ R.slots) (kk : ∀ (v : Option Value) (h' : AH) (K' : Nat), Post (.inl v) h' K' → XW s0 D p l e R s m args below meth c Q (pc + 3) lv (v.toList ++ rest) h' K' (cells + mc) (slots + ms)) (kt : ∀ (Cn : String) (h' : AH) (K' : Nat), Post (.inr Cn) h' K' → False) : XW s0 D p l e R s m args below meth c Q pc lv st h K cells slots := by
  refine x_goH C (fun ls H locs P => ?_) hd hM wc wi hr hf hl hc hsl kk (fun Cn h' K' q => (kt Cn h' K' q).elim)
  intro T hT X
  have hcode := x_w C rfl wc (args := args)
  obtain ⟨mk, methM, cM, hnamed, hmethM, -, -, -, -, -, -, hsigM⟩ := Cond.codeWith_spec hcode
  have hstatic : methM.isStatic = true := Cond.static_spec hnamed hmethM (x_w C rfl w2 (args := args))
  obtain ⟨kP, hkP, -⟩ := className_of_methodNamed hnamed
  have hinitP : kP.init = .initialized := Cond.initialized_spec (findClass_of_methodNamed hnamed) hkP (x_w C rfl wi (args := args))
  obtain ⟨vm₁, X₁, hstep₁⟩ := X.invokestatic C.1 C.2.2.2.1 (x_w C rfl w1 (args := args)) hnamed hmethM hstatic hkP hinitP hy (g := F0 m pc ls st) rfl (argsL := argsL) (rest := rest) (by rw [hsigM] at hlen; exact (Option.some.inj hlen).symm) hst (by rw [C.2.1]; exact hd)
  exact ⟨vm₁, mk, X₁.warmed, X₁, X₁.named hnamed, fun target h => hstep₁ _ fun acts => by rw [doInvoke_state]; exact h⟩
end CallRowsH
theorem hg_self {args : Array Value} {s : State} {C : String} (h : (Cond.castable C C).before args s = true) {c : ClassId} (hc : s.vm.findClass C = some c) : s.vm.assignable c c = true := by
  simp only [Cond.before, Cond.holds, Cond.value, hc] at h
  simpa using h
/-- a call whose throw is caught: at 66 the rows that are passed, the row that catches, and its handler -/
def hP (own : String) (a0 : Array Value) (s0 : State) (Cn : String) (pre : List (Nat × Nat × Nat × Nat)) (pc : Nat) : Prop := ∀ y ∈ pre, y.1 ≤ pc ∧ pc < y.2.1 ∧ y.2.2.2 ≠ 0 ∧ ∃ N, (Cond.classLink own y.2.2.2 N).before a0 s0 = true ∧ va_Nc Cn N s0
section CallC
variable {a0 : Array Value} {s0 : State} {D : va_G} {cI cL : ClassId} {p : Program} {l : Launch} {e : Env} {R : Room} {s : State} {m : MethodId} {args : Array Value} {below : List Frame} {meth : Method} {c : Code} {Q : State → Prop} {tb : List ExceptionTableEntry}
variable {own : String} {cc : ByteArray} {nL : Nat} {ret : Option FieldType} {pc : Nat} {lv : List (Nat × Value)} {st rest : List Value} {h : AH} {K cells slots : Nat}
theorem x_catch (C : XC s0 D cI cL p s m meth c own cc nL ret tb) {Cn : String} {pre post : List (Nat × Nat × Nat × Nat)} {b1 b2 hp ct : Nat} (htb : hQ tb = pre ++ (b1, b2, hp, ct) :: post) (hpre : hP own a0 s0 Cn pre pc) (g1 : b1 ≤ pc) (g2 : pc < b2) (g3 : ct ≠ 0) (wl : (Cond.classLink own ct Cn).before a0 s0 = true) (ws : (Cond.castable Cn Cn).before a0 s0 = true)
    {h' : AH} {K' : Nat} {ls : Array Slot} {locs : List Loc} {x : Nat} {T' : State} (hz : ls.size = c.maxLocals) (w' : a_W s0 D h' K' T') (ht : a_thr Cn x T') (X' : Stand p l e R s m args below meth c T' locs cells slots) (hlv : lv_has ls c.maxLocals lv) (hL : ∀ q ∈ locs, s0.heap.size ≤ q.base)
    (k : XW s0 D p l e R s m args below meth c Q hp lv [.ref x] h' K' cells slots) : ∃ t, Steps p.tables e below ((T'.setTop (F0 m pc ls rest)).pushFrame (.throwing x)) t ∧ Q t := by
  obtain ⟨cell, kc, t1, t2, t3, t4⟩ := ht
  have hal := X'.warmed.alike
  have hpl : e.platform.magicAccessors = ({} : Platform).magicAccessors := by rw [X'.admits.platform]
  have hcn : s.vm.findClass Cn = some cell.cls := by rw [← hal.findClass]; exact t3
  obtain ⟨ks, hks, -⟩ := hal.symm.2.2 _ _ t4
  have hal0 := C.2.2.2.2.1.alike
  have hcn0 : s0.vm.findClass Cn = some cell.cls := by rw [← hal0.findClass]; exact hcn
  have hself : s.vm.assignable cell.cls cell.cls = true := by rw [hal0.assignable]; exact hg_self ws hcn0
  -- the table
  have htb' : c.exceptionTable.toList = tb := C.2.2.2.2.2.2.2.2
  obtain ⟨pre', q', e1, e2, e3⟩ := List.map_eq_append_iff.mp htb
  obtain ⟨x', post', f1, f2, f3⟩ := List.map_eq_cons_iff.mp e3
  have fx1 : x'.startPc = b1 := congrArg (fun z => z.1) f2
  have fx2 : x'.endPc = b2 := congrArg (fun z => z.2.1) f2
  have fx3 : x'.handlerPc = hp := congrArg (fun z => z.2.2.1) f2
  have fx4 : x'.catchType = ct := congrArg (fun z => z.2.2.2) f2
  have hcov : covers x' pc = true := by
    unfold covers
    rw [fx1, fx2]
    simp [g1, g2]
  have hpass : ∀ y ∈ pre', covers y pc = true ∧ y.catchType ≠ 0 ∧ ∃ N, (Cond.classLink own y.catchType N).before args s = true ∧ va_Nc Cn N s := by
    intro y hy
    have hy2 : (y.startPc, y.endPc, y.handlerPc, y.catchType) ∈ pre := by rw [← e2]; exact List.mem_map_of_mem hy
    obtain ⟨r1, r2, r3, N, r4, r5⟩ := hpre _ hy2
    refine ⟨?_, r3, N, x_w C rfl r4, r5.moved C.2.2.2.2.1.alike⟩
    unfold covers
    have r1 : y.startPc ≤ pc := r1
    have r2 : pc < y.endPc := r2
    simp [r1, r2]
  obtain ⟨vm', hW', hq⟩ := hg_walk (e := e) (f := F0 m pc ls rest) (a := x) (s := s) (wa := args) (own := own) (Cn := Cn) (cell := cell) hpl C.2.2.2.1 hcn (fun k hk => by rw [t2] at hk; cases hk) ⟨ks, hks⟩ hself (x := x') (rest := post') hcov (by rw [fx4]; exact g3) (by rw [fx4]; exact x_w C rfl wl) pre' ((T'.setTop (F0 m pc ls rest)).pushFrame (.throwing x)) (by rw [Stand.throwing_vm]; exact X'.warmed) (by rw [Stand.throwing_heap]; exact t1) hpass
  rw [fx3] at hq
  obtain ⟨t, a1, b1'⟩ := k ls T'.heap locs ⟨hlv, w'.2.1, w'.2.2.1, w'.2.2.2, hL⟩ (T'.setVm vm') rfl (X'.noted hW')
  refine ⟨t, ?_, b1'⟩
  refine hg_caught (g := F0 m pc ls rest) X'.here X'.method' X'.code (pc := hp) (vm' := vm') ?_ a1
  intro Q' E' d' acts'
  rw [htb', e1, f1]
  exact hq Q' E' d' acts'
end CallC
