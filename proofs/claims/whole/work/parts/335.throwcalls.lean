/-! methods that may throw: one that returns has made nothing, one that throws has made what it throws -/
def XOT (s0 : State) (D : va_G) (Post : AO → AH → Nat → Prop) (s : State) (o : Outcome) (t : State) : Prop := XO s0 D 1 6 Post s o t ∧ ∀ v, o = .returned v → XO s0 D 0 0 Post s o t
def XQT (s0 : State) (D : va_G) (Post : AO → AH → Nat → Prop) (below : List Frame) (s : State) : State → Prop := fun t => ∃ o, t.status = .running ∧ Ended t below o ∧ XOT s0 D Post s o t
def XMT (l : Launch) (s0 : State) (D : va_G) (y : MethodName) (cc : ByteArray) (nL : Nat) (ret : Option FieldType) (d : Nat) (av : List Value) (h : AH) (K : Nat) (Post : AO → AH → Nat → Prop) : Prop :=
  MetFree l y (headSpec [.code y cc nL ret] (a_rm d 1 6)) (fun a U => a = av.toArray ∧ a_W s0 D h K U) (fun _ _ _ _ _ => True) (fun _ st o t => XOT s0 D Post st o t)
theorem XO.up {s0 : State} {D : va_G} {Post : AO → AH → Nat → Prop} {s : State} {o : Outcome} {t : State} (h : XO s0 D 0 0 Post s o t) : XO s0 D 1 6 Post s o t := by
  obtain ⟨h', K', w, q, L, r1, r2, r3⟩ := h
  exact ⟨h', K', w, q, L, r1, r2.mono (by omega) (by omega), r3⟩
theorem XQ.t {s0 : State} {D : va_G} {Post : AO → AH → Nat → Prop} {below : List Frame} {s t : State} (h : XQ s0 D 0 0 Post below s t) : XQT s0 D Post below s t := by
  obtain ⟨o, r1, r2, r3⟩ := h
  exact ⟨o, r1, r2, r3.up, fun v _ => r3⟩
theorem XMT.of {l : Launch} {s0 : State} {D : va_G} {cI cL : ClassId} {y : MethodName} {cc : ByteArray} {nL : Nat} {ret : Option FieldType} {d : Nat} {av : List Value} {h : AH} {K : Nat} {Post : AO → AH → Nat → Prop} {own : String}
    (hy : plainName y.cls = true) (ho : y.cls = own) (hK : va_K D vwCl [(cI, .int), (cL, .long)] s0) (hav : (lg_sl av).length ≤ nL)
    (body : ∀ (p : Program) (e : Env) (s : State) (m : MethodId) (below : List Frame) (meth : Method) (c : Code), XC s0 D cI cL p s m meth c own cc nL ret [] → meth.name = y.name → a_low s0 s → XW s0 D p l e (a_rm d 1 6) s m av.toArray below meth c (XQT s0 D Post below s) 0 (lv_args 0 av) [] h K 0 0) :
    XMT l s0 D y cc nL ret d av h K Post := by
  refine MetFree.of_bodyS (code := cc) (maxLocals := nL) (ret := ret) hy ?_ ?_
  · intro args s m h hn
    obtain ⟨meth, c, h1, h2, h3, h4, h5, h6, -, -⟩ := Cond.code_spec hn (atoms_spec (ws := [.code y cc nL ret]) h _ List.mem_cons_self)
    exact ⟨meth, c, h1, h2, h3, h4, h5, h6⟩
  · intro p e s m args below meth c s₁ B hml hP _
    obtain ⟨ha, hw⟩ := hP
    subst ha
    have hh0 : s₁.heap = s.heap := by rw [B.state]; rfl
    have X := body p e s m below meth c ⟨B.exec, B.bytes, hml, by rw [← ho]; exact findClass_of_methodNamed B.named, hw.1, B.notSynchronized, va_K.moved hw.1.alike hK, B.returns, x_notab B⟩ (name_of_methodNamed B.named B.method).1 hw.2.2.1
    have hl := lv_entry av (n := nL) hav
    have hw2 := X _ s.heap [] ⟨by rw [hml]; exact hl, hw.2.1, hw.2.2.1, hw.2.2.2, fun q hq => by cases hq⟩
    rw [lg_entry_eq]
    obtain ⟨t, a1, o, b1, b2, b3⟩ := hw2 s₁ hh0 (Stand.of_body B)
    exact ⟨t, o, a1, b1, b2, b3⟩
section RetsT
variable {a0 : Array Value} {s0 : State} {D : va_G} {cI cL : ClassId} {p : Program} {l : Launch} {e : Env} {R : Room} {s : State} {m : MethodId} {args : Array Value} {below : List Frame} {meth : Method} {c : Code} {tb : List ExceptionTableEntry}
variable {own : String} {cc : ByteArray} {nL : Nat} {ret : Option FieldType} {pc : Nat} {lv : List (Nat × Value)} {h : AH} {K : Nat} {Post : AO → AH → Nat → Prop}
theorem x_iretT (C : XC s0 D cI cL p s m meth c own cc nL (some .int) tb) {v : Int32} (hd : decode cc pc = .ok (.ireturn, 1)) (hp : Post (.inl (some (.int v))) h K) : XW s0 D p l e R s m args below meth c (XQT s0 D Post below s) pc lv [.int v] h K 0 0 :=
  fun ls H locs P => W_mono (fun _ => XQ.t) (x_iret (mc := 0) (ms := 0) C hd (Nat.le_refl _) (Nat.le_refl _) hp ls H locs P)
theorem x_vretT (C : XC s0 D cI cL p s m meth c own cc nL none tb) (hd : decode cc pc = .ok (.return_, 1)) (hp : Post (.inl none) h K) : XW s0 D p l e R s m args below meth c (XQT s0 D Post below s) pc lv [] h K 0 0 :=
  fun ls H locs P => W_mono (fun _ => XQ.t) (x_vret (mc := 0) (ms := 0) C hd (Nat.le_refl _) (Nat.le_refl _) hp ls H locs P)
end RetsT
section ThrRowT
variable {a0 : Array Value} {s0 : State} {D : va_G} {cI cL : ClassId} {p : Program} {l : Launch} {e : Env} {R : Room} {s : State} {m : MethodId} {args : Array Value} {below : List Frame} {meth : Method} {c : Code}
variable {own : String} {cc : ByteArray} {nL : Nat} {ret : Option FieldType} {pc : Nat} {lv : List (Nat × Value)} {h : AH} {K : Nat} {Post : AO → AH → Nat → Prop}
set_option maxHeartbeats 2000000 in
theorem x_throwT (C : XC s0 D cI cL p s m meth c own cc nL ret []) (F : a_F l s0) (hlow0 : a_low s0 s) (Z : a_Z a0 s0) {cls tx : String} {idx ixN ixS ixI : Nat} {bytes : ByteArray} (TH : a_th a0 s0 cls idx bytes)
    (wN : (Cond.classLink own ixN cls).before a0 s0 = true) (wS : (Cond.stringRef own ixS tx).before a0 s0 = true) (wI : (Cond.methodLink own ixI (Bundle.initS cls)).before a0 s0 = true)
    (hd0 : decode cc pc = .ok (.new ixN, 3)) (hd3 : decode cc (pc + 3) = .ok (.dup, 1)) (hd4 : decode cc (pc + 4) = .ok (.ldc ixS, 2)) (hd6 : decode cc (pc + 6) = .ok (.invokespecial ixI, 3)) (hd9 : decode cc (pc + 9) = .ok (.athrow, 1))
    (hcells : 0 + 1 ≤ R.cells) (hslots : 0 + 6 ≤ R.slots) (hfr : 6 ≤ R.frames) (hlo : 82 ≤ R.locals) (hp : Post (.inr cls) h (K + 1)) :
    XW s0 D p l e R s m args below meth c (XQT s0 D Post below s) pc lv [] h K 0 0 := by
  intro ls H locs P
  obtain ⟨t1, ⟨t2, t3, t4, t5⟩, t6, t7, t8, t9, t10, t11, t12, t13, t14, t15, t16, t17⟩ := TH
  have hW := C.2.2.2.2.1
  obtain ⟨cX, kX, hfX, hkX, -⟩ := Cond.instantiable_spec (x_w (args := args) C rfl t7)
  refine W.newcK C.1 C.2.1 C.2.2.2.1 (x_w C rfl wN) (x_w C rfl t7) (x_w C rfl t17) rfl hd0 hcells hslots hfX P.2.1 (fun H1 kC hkC e1 z1 o1 => ?_)
  cases Option.some.inj (hkX.symm.trans hkC)
  refine lv_dup C.1 C.2.1 hd3 rfl ?_
  have hf0 : s0.vm.findClass own = some m.cls := by rw [← hW.alike.findClass]; exact C.2.2.2.1
  obtain ⟨k1, cf1, i1, q, -, -, -, -, -, hq⟩ := Cond.stringRef_spec (args := a0) hf0 wS
  have hR : vk_R own ixS tx q s := vk_R.warm hW (vk_R.of wS hq)
  refine va_ldcS C.1 C.2.1 C.2.2.2.1 hR hd4 ?_
  intro T hT X
  have hT2 : T.heap.size = s0.heap.size + K + 1 := by rw [hT, z1]
  have hlow : ∀ q : Nat, q < s0.heap.size → T.heap[q]? = s0.heap[q]? := fun q hq => by rw [hT, o1 q (by omega)]; exact P.2.2.1 q hq
  have htr := Launch.traces_off F.1 X.admits
  have hzU := (F.2.1.kept (H1 := T.heap) (fun a ha _ => hlow a ha)).moved hW.alike
  have hzS := (F.2.2.kept (H1 := T.heap) (fun a ha _ => hlow a ha)).moved hW.alike
  obtain ⟨U, L, st, hrun, hend, hWU, hsame, hL, hsz, hoth, ce, hce, hcls, hvm⟩ := thr_ctor (args := args) X C.1 htr C.2.2.2.2.2.1 (own := own) (cls := cls) (ic := ixI) (idx := idx) (bytes := bytes) C.2.2.2.1 t1 t2 t3 t4 t5 (thr_q1 Z hW hlow0) (thr_q2 Z hW) (t6 _ _ hW) (thr_q4 Z hW)
    (x_w C rfl wI) (x_w C rfl t7) (x_w C rfl t8) (x_w C rfl t9) (x_w C rfl t10) (x_w C rfl t11) (x_w C rfl t12) (x_w C rfl t13) (x_w C rfl t14) (x_w C rfl t15) (x_w C rfl t16) hzU hzS (a := s0.heap.size + K) (by omega) hfX hkX (by rw [hT]; exact e1)
    (msg := .ref q) rfl (g := F0 m (pc + 6) ls [.ref q, .ref (s0.heap.size + K), .ref (s0.heap.size + K)]) rfl P.1.1 rfl rfl (rest := []) rfl (by rw [C.2.1]; exact hd6) (by rw [C.2.1]; exact hd9) (fun x hx => by rw [C.2.2.2.2.2.2.2.2] at hx; cases hx) (by omega) (by show 2 * 0 + (1 + 0) + 81 ≤ _; omega)
  refine ⟨U, st, .threw (s0.heap.size + K), hrun, hend, ⟨h, K + 1, ⟨State.WarmedH.trans hW hWU, by omega, fun q hq => ?_, fun k x hx => ?_⟩, ⟨cls, hp, ?_⟩, locs ++ L, hWU, hsame, ?_⟩, fun v hv => by cases hv⟩
  · rw [hoth q (by omega)]; exact hlow q hq
  · have h1 := P.2.2.2.1 k x hx
    have h2 : s0.heap.size + k < H.size := h1.lt
    have h3 : H.size = s0.heap.size + K := P.2.1
    exact h1.kept (by show U.heap[s0.heap.size + k]? = H[s0.heap.size + k]?; rw [hoth _ (by omega), hT, o1 _ (by omega)])
  · obtain ⟨cU, kU, hfU, hkU, -⟩ := Cond.instantiable_spec (word_at (U := U) (State.WarmedH.trans hW hWU) (good_of_word rfl) t7 : (Cond.instantiable cls 6).before args U = true)
    have e2 : cU = cX := Option.some.inj (hfU.symm.trans ((hWU.alike.findClass _ _).trans hfX))
    subst e2
    exact ⟨ce, kU, hce, hvm, by rw [hcls]; exact hfU, by rw [hcls]; exact hkU⟩
  · intro q hq
    rcases List.mem_append.mp hq with h1 | h1
    · exact P.2.2.2.2 q h1
    · rw [hL q h1]; omega
end ThrRowT
section Back3
variable {a0 : Array Value} {s0 : State} {D : va_G} {p : Program} {l : Launch} {e : Env} {R : Room} {s : State} {m : MethodId} {args : Array Value} {below : List Frame} {meth : Method} {c : Code} {T : State} {locs : List Loc} {cells slots : Nat}
variable {y : MethodName} {cc' : ByteArray} {nL' : Nat} {ret' : Option FieldType} {d : Nat} {av : List Value} {h : AH} {K : Nat} {Post : AO → AH → Nat → Prop}
/-- the callee comes back, or throws -/
theorem x_backT (hM : XMT l s0 D y cc' nL' ret' d av h K Post) (X : Stand p l e R s m args below meth c T locs cells slots) {g : JFrame} (hg : g.method = m) (hsize : g.locals.size = c.maxLocals) {ig : Instr} (hdg : decode c.code g.pc = .ok (ig, 3)) (hW : 2 * g.monitorRoom + (g.stack.map fun v => v.category).sum ≤ 8)
    {mk : MethodId} (hn : T.methodNamed? y = some mk) (hw : a_W s0 D h K T) (hcode : (Cond.code y cc' nL' ret').before av.toArray T = true) (hini : (Cond.initialized y.cls).before av.toArray T = true)
    (hfr : d + 1 ≤ R.frames) (hlo : 8 + (nL' + 11) + 38 * d ≤ R.locals) (hc : cells + 1 ≤ R.cells) (hs : slots + 6 ≤ R.slots) :
    ∃ (h' : AH) (K' : Nat) (T' : State) (L : List Loc), a_W s0 D h' K' T' ∧ (∀ q ∈ L, s0.heap.size ≤ q.base) ∧
      ((∃ v, Post (.inl v) h' K' ∧ Stand p l e R s m args below meth c T' (locs ++ L) cells slots ∧ Steps p.tables e below (doInvoke e (T.setTop g) [] mk av.toArray).1 (T'.setTop { g with pc := g.pc + 3, stack := v.toList ++ g.stack })) ∨
       (∃ Cn x, Post (.inr Cn) h' K' ∧ a_thr Cn x T' ∧ Stand p l e R s m args below meth c T' (locs ++ L) (cells + 1) (slots + 6) ∧ Steps p.tables e below (doInvoke e (T.setTop g) [] mk av.toArray).1 ((T'.setTop g).pushFrame (.throwing x)))) := by
  obtain ⟨methY, cY, hmY, hcY, -, hlY, -, -, -, -⟩ := Cond.code_spec hn hcode
  obtain ⟨kY, hkY, -⟩ := className_of_methodNamed hn
  have hinitY : kY.init = .initialized := Cond.initialized_spec (findClass_of_methodNamed hn) hkY hini
  have hA : At T g.method c below := by rw [hg]; exact X.here
  have happ : (headSpec [.code y cc' nL' ret'] (a_rm d 1 6)).appliesLoose y e.platform (T.calling g mk av.toArray) = true :=
    Spec.appliesLoose_calling (g := g) hA hdg hn hkY hinitY
      (X.room_calling (g := g) (R' := a_rm d 1 6) hsize hmY hcY (by show d + 1 ≤ _; exact hfr) (by rw [hlY]; show _ + 38 * d ≤ _; omega) hc hs) (atoms_intro (fun w hw => by rw [List.mem_singleton.mp hw]; exact hcode))
  obtain ⟨mid, hmid⟩ := hA.above
  have hfr2 : (T.setTop g).frames = (.java g :: mid) ++ below := by rw [State.frames_setTop' g hA.top, hmid]; rfl
  obtain ⟨o, s₂, hsteps, hrun, hend, hq⟩ := Steps.callFree hM p X.admits X.cas X.clock (acts := []) hfr2 happ ⟨rfl, hw.1, hw.2.1, hw.2.2.1, hw.2.2.2⟩ trivial
  have hq' : XOT s0 D Post (T.calling g mk av.toArray) o s₂ := hq
  rw [State.frames_setTop' g hA.top] at hend
  cases o with
  | threw x =>
    obtain ⟨h', K', hw', hpo, L, hW₂, hsame, hL⟩ := hq'.1
    have htl : T.frames.tail = below := X.tail
    rw [htl] at hend
    obtain ⟨T', X', r1, r2, r3⟩ := X.outOfThrown hg hend hW₂ hsame
    obtain ⟨Cn, hp1, hp2⟩ := hpo
    subst r3
    have eh : ((T'.setTop g).pushFrame (.throwing x)).heap = T'.heap := Stand.throwing_heap T' g x
    have ev : ((T'.setTop g).pushFrame (.throwing x)).vm = T'.vm := Stand.throwing_vm T' g x
    refine ⟨h', K', T', L, ?_, hL, Or.inr ⟨Cn, x, hp1, ?_, X', hsteps⟩⟩
    · unfold a_W at hw' ⊢
      rw [eh, ev] at hw'
      exact hw'
    · unfold a_thr at hp2 ⊢
      rw [eh, ev] at hp2
      exact hp2
  | returned v =>
    obtain ⟨h', K', hw', hpo, L, hW₂, hsame, hL⟩ := hq'.2 v rfl
    obtain ⟨e2, q2, q3, q4, q5, q6⟩ := hsame
    have e3 : s₂ = ({ (T.calling g mk av.toArray).setFrames s₂.frames with heap := s₂.heap, slotsUsed := s₂.slotsUsed } : State).setVm s₂.vm := by
      have : s₂ = ({ s₂ with vm := (T.calling g mk av.toArray).vm } : State).setVm s₂.vm := rfl
      rw [e2] at this
      exact this
    obtain ⟨c₂, i₂, len₂, hc₂, hd₂, hf₂⟩ := hend
    have hW' : T.WarmedH s₂.vm := hW₂
    have hcc : c₂ = c := by
      have h1 : s₂.code? g.method = T.code? g.method := by
        rw [State.code?_eq, State.code?_eq, hW'.alike.method?]
      exact Option.some.inj (hc₂.symm.trans (h1.trans hA.code))
    subst hcc
    have hlen : len₂ = 3 := by rw [hdg] at hd₂; cases hd₂; rfl
    subst hlen
    obtain ⟨g₀, hg0⟩ := Option.isSome_iff_exists.mp hA.top
    obtain ⟨r, hr⟩ := State.topJava?_eq_some.mp hg0
    have hs₂ : s₂ = (({ T with heap := s₂.heap, slotsUsed := s₂.slotsUsed } : State).setVm s₂.vm).setTop { g with pc := g.pc + 3, stack := v.toList ++ g.stack } := by
      have hr' : (({ T with heap := s₂.heap, slotsUsed := s₂.slotsUsed } : State).setVm s₂.vm).frames = .java g₀ :: r := hr
      refine e3.trans ?_
      rw [hf₂, State.calling_eq hA.top, State.setFrames_setFrames, State.setTop_of_frames _ hr', hr]
      rfl
    have hsame2 : T.sameButNew ({ T with heap := s₂.heap, slotsUsed := s₂.slotsUsed } : State) L 0 0 := by
      refine ⟨?_, q2, q3, q4, q5, q6⟩
      obtain ⟨t, ht, -⟩ := State.frames_cons hr
      show ({ T with heap := s₂.heap, slotsUsed := s₂.slotsUsed } : State) = { T.setFrames T.frames with heap := s₂.heap, slotsUsed := s₂.slotsUsed }
      rw [State.setFrames_self ht]
    subst hg
    refine ⟨h', K', (({ T with heap := s₂.heap, slotsUsed := s₂.slotsUsed } : State).setVm s₂.vm), L, hw', hL, Or.inl ⟨v, hpo, ⟨X.admits, X.cas, X.clock, X.frames, X.room, X.hears, X.method, X.code, (X.here.setHeapUsed s₂.heap s₂.slotsUsed).setVm hW'.alike, X.tail, State.WarmedH.trans X.warmed hW', X.limits, X.bytes, X.same.trans (hsame2.setVm s.vm)⟩, ?_⟩⟩
    rw [← hs₂]
    exact hsteps
end Back3
section CallRowsT
variable {a0 : Array Value} {s0 : State} {D : va_G} {cI cL : ClassId} {p : Program} {l : Launch} {e : Env} {R : Room} {s : State} {m : MethodId} {args : Array Value} {below : List Frame} {meth : Method} {c : Code} {Q : State → Prop} {tb : List ExceptionTableEntry}
variable {own : String} {cc : ByteArray} {nL : Nat} {ret : Option FieldType} {pc : Nat} {lv : List (Nat × Value)} {st rest : List Value} {h : AH} {K cells slots : Nat}
variable {y : MethodName} {cc' : ByteArray} {nL' : Nat} {ret' : Option FieldType} {d : Nat} {av : List Value} {Post : AO → AH → Nat → Prop}
theorem x_goU (C : XC s0 D cI cL p s m meth c own cc nL ret tb) (hI : ∀ (ls : Array Slot) (H : Heap) (locs : List Loc), XP s0 D c.maxLocals lv h K ls H locs → XI p l e R s m args below meth c H locs cells slots y (F0 m pc ls st) rest av.toArray) {ig : Instr} (hd : decode cc pc = .ok (ig, 3)) (hM : XMT l s0 D y cc' nL' ret' d av h K Post) (wc : (Cond.code y cc' nL' ret').before a0 s0 = true) (wi : (Cond.initialized y.cls).before a0 s0 = true) (hr : (rest.map fun v => v.category).sum ≤ 8) (hf : d + 1 ≤ R.frames) (hl : 8 + (nL' + 11) + 38 * d ≤ R.locals) (hc : cells + 1 ≤ R.cells) (hs : slots + 6 ≤ R.slots)
    (kk : ∀ (v : Option Value) (h' : AH) (K' : Nat), Post (.inl v) h' K' → XW s0 D p l e R s m args below meth c Q (pc + 3) lv (v.toList ++ rest) h' K' cells slots)
    (kt : ∀ (Cn : String) (h' : AH) (K' : Nat), Post (.inr Cn) h' K' → ∀ (ls : Array Slot) (locs : List Loc) (x : Nat) (T' : State), ls.size = c.maxLocals → a_W s0 D h' K' T' → a_thr Cn x T' → Stand p l e R s m args below meth c T' locs (cells + 1) (slots + 6) → lv_has ls c.maxLocals lv → (∀ q ∈ locs, s0.heap.size ≤ q.base) → ∃ t, Steps p.tables e below ((T'.setTop (F0 m pc ls rest)).pushFrame (.throwing x)) t ∧ Q t) : XW s0 D p l e R s m args below meth c Q pc lv st h K cells slots := by
  intro ls H locs P T hT X
  obtain ⟨vm₁, mk, hW₁, X₁, hn, hst⟩ := hI ls H locs P T hT X
  have hwarm : s0.WarmedH vm₁ := State.WarmedH.trans C.2.2.2.2.1 hW₁
  have hw : a_W s0 D h K (T.setVm vm₁) := ⟨hwarm, by show T.heap.size = _; rw [hT]; exact P.2.1, fun q hq => by show T.heap[q]? = _; rw [hT]; exact P.2.2.1 q hq, fun k x hx => by show va_at D vwCl _ T.heap; rw [hT]; exact P.2.2.2.1 k x hx⟩
  obtain ⟨h', K', T', L, w', hL, r⟩ := x_backT hM X₁ (g := F0 m pc ls rest) rfl P.1.1 (by rw [C.2.1]; exact hd) (by show 2 * 0 + (rest.map fun v => v.category).sum ≤ 8; omega) hn hw (word_at (U := T.setVm vm₁) hwarm (good_of_word rfl) wc) (word_at (U := T.setVm vm₁) hwarm (good_of_word rfl) wi) hf hl hc hs
  have hL2 : ∀ q ∈ locs ++ L, s0.heap.size ≤ q.base := fun q hq => by
    rcases List.mem_append.mp hq with h1 | h1
    · exact P.2.2.2.2 q h1
    · exact hL q h1
  rcases r with ⟨v, hp, X', hs2⟩ | ⟨Cn, x, hp, hthr, X', hs2⟩
  · obtain ⟨t, a1, b1⟩ := kk v h' K' hp ls T'.heap (locs ++ L) ⟨P.1, w'.2.1, w'.2.2.1, w'.2.2.2, hL2⟩ T' rfl X'
    exact ⟨t, hst t (hs2.trans a1), b1⟩
  · obtain ⟨t, a1, b1⟩ := kt Cn h' K' hp ls (locs ++ L) x T' P.1.1 w' hthr X' P.1 hL2
    exact ⟨t, hst t (hs2.trans a1), b1⟩
theorem x_goTT {Post' : AO → AH → Nat → Prop} (C : XC s0 D cI cL p s m meth c own cc nL ret []) (hI : ∀ (ls : Array Slot) (H : Heap) (locs : List Loc), XP s0 D c.maxLocals lv h K ls H locs → XI p l e R s m args below meth c H locs 0 0 y (F0 m pc ls st) rest av.toArray) {ig : Instr} (hd : decode cc pc = .ok (ig, 3)) (hM : XMT l s0 D y cc' nL' ret' d av h K Post) (wc : (Cond.code y cc' nL' ret').before a0 s0 = true) (wi : (Cond.initialized y.cls).before a0 s0 = true) (hr : (rest.map fun v => v.category).sum ≤ 8) (hf : d + 1 ≤ R.frames) (hl : 8 + (nL' + 11) + 38 * d ≤ R.locals) (hc : 0 + 1 ≤ R.cells) (hs : 0 + 6 ≤ R.slots) 
    (kk : ∀ (v : Option Value) (h' : AH) (K' : Nat), Post (.inl v) h' K' → XW s0 D p l e R s m args below meth c (XQT s0 D Post' below s) (pc + 3) lv (v.toList ++ rest) h' K' 0 0)
    (kt : ∀ (Cn : String) (h' : AH) (K' : Nat), Post (.inr Cn) h' K' → Post' (.inr Cn) h' K') : XW s0 D p l e R s m args below meth c (XQT s0 D Post' below s) pc lv st h K 0 0 := by
  refine x_goU C hI hd hM wc wi hr hf hl hc hs kk (fun Cn h' K' q ls locs x T' hz w' ht X' hlv hL => ?_)
  obtain ⟨q1, q2, q3, q4, q5⟩ := X'.leaveThrown x (g := F0 m pc ls rest) rfl rfl rfl (fun z hz => by rw [C.2.2.2.2.2.2.2.2] at hz; cases hz) (hlocks := C.2.2.2.2.2.1)
  exact ⟨_, q1, .threw x, q2, q3, ⟨h', K', w', ⟨Cn, kt Cn h' K' q, ht⟩, locs, q4, q5, hL⟩, fun v hv => by cases hv⟩
variable {ci : Nat} {T : u_T} {N : Nat} {ty : Nat → FieldType} {a : Nat} {fs argsL : List Value} {index : Nat}
theorem x_callVTT {Post' : AO → AH → Nat → Prop} (C : XC s0 D cI cL p s m meth c own cc nL ret []) (G : a_cl a0 s0 ci y.cls T N ty) (w1 : (Cond.methodLink own index y).before a0 s0 = true) (w2 : (Cond.instanceMethod y).before a0 s0 = true) (w3 : (Cond.selects y.cls y y).before a0 s0 = true) (wc : (Cond.code y cc' nL' ret').before a0 s0 = true) (wi : (Cond.initialized y.cls).before a0 s0 = true) (hd : decode cc pc = .ok (.invokevirtual index, 3)) (hM : XMT l s0 D y cc' nL' ret' d (.ref (s0.heap.size + a) :: argsL) h K Post) (hy : y.cls ≠ "java/lang/invoke/MethodHandle" ∧ y.cls ≠ "java/lang/invoke/VarHandle") (hlen : (parseMethodDescriptor y.desc).map (fun d => d.parameters.length) = some argsL.length) (hst : st = argsL.reverse ++ .ref (s0.heap.size + a) :: rest) (hh : h a = some (.inr (ci, fs))) (hr : (rest.map fun v => v.category).sum ≤ 8) (hf : d + 1 ≤ R.frames) (hl : 8 + (nL' + 11) + 38 * d ≤ R.locals) (hc : 0 + 1 ≤ R.cells) (hs : 0 + 6 ≤ R.slots)  (kk : ∀ (v : Option Value) (h' : AH) (K' : Nat), Post (.inl v) h' K' → XW s0 D p l e R s m args below meth c (XQT s0 D Post' below s) (pc + 3) lv (v.toList ++ rest) h' K' 0 0) (kt : ∀ (Cn : String) (h' : AH) (K' : Nat), Post (.inr Cn) h' K' → Post' (.inr Cn) h' K') : XW s0 D p l e R s m args below meth c (XQT s0 D Post' below s) pc lv st h K 0 0 := by
  refine x_goTT C (fun ls H locs P => ?_) hd hM wc wi hr hf hl hc hs kk kt
  have hP : va_P D vwCl [(s0.heap.size + a, .inr (ci, fs))] H := by
    intro j q hj
    cases j with
    | zero => cases hj; exact P.2.2.2.1 a _ hh
    | succ j => cases hj
  obtain ⟨cell, g1, g2, g3⟩ := va_recv C.2.2.2.2.2.2.1 hP G.1 (q0 := 0) rfl
  exact i_V C.1 C.2.2.2.1 (x_w C rfl w1) (x_w C rfl w2) (x_w C rfl w3) (x_w C rfl wc) hy g1 g2 g3 rfl hlen hst (by rw [C.2.1]; exact hd)
theorem x_callVNTT {Post' : AO → AH → Nat → Prop} (C : XC s0 D cI cL p s m meth c own cc nL ret []) (G : a_cl a0 s0 ci y.cls T N ty) {host : String} (w1 : (Cond.methodLinkNest own index y host).before a0 s0 = true) (w2 : (Cond.instanceMethod y).before a0 s0 = true) (w3 : (Cond.selects y.cls y y).before a0 s0 = true) (wc : (Cond.code y cc' nL' ret').before a0 s0 = true) (wi : (Cond.initialized y.cls).before a0 s0 = true) (hd : decode cc pc = .ok (.invokevirtual index, 3)) (hM : XMT l s0 D y cc' nL' ret' d (.ref (s0.heap.size + a) :: argsL) h K Post) (hy : y.cls ≠ "java/lang/invoke/MethodHandle" ∧ y.cls ≠ "java/lang/invoke/VarHandle") (hlen : (parseMethodDescriptor y.desc).map (fun d => d.parameters.length) = some argsL.length) (hst : st = argsL.reverse ++ .ref (s0.heap.size + a) :: rest) (hh : h a = some (.inr (ci, fs))) (hr : (rest.map fun v => v.category).sum ≤ 8) (hf : d + 1 ≤ R.frames) (hl : 8 + (nL' + 11) + 38 * d ≤ R.locals) (hc : 0 + 1 ≤ R.cells) (hs : 0 + 6 ≤ R.slots)  (kk : ∀ (v : Option Value) (h' : AH) (K' : Nat), Post (.inl v) h' K' → XW s0 D p l e R s m args below meth c (XQT s0 D Post' below s) (pc + 3) lv (v.toList ++ rest) h' K' 0 0) (kt : ∀ (Cn : String) (h' : AH) (K' : Nat), Post (.inr Cn) h' K' → Post' (.inr Cn) h' K') : XW s0 D p l e R s m args below meth c (XQT s0 D Post' below s) pc lv st h K 0 0 := by
  refine x_goTT C (fun ls H locs P => ?_) hd hM wc wi hr hf hl hc hs kk kt
  have hP : va_P D vwCl [(s0.heap.size + a, .inr (ci, fs))] H := by
    intro j q hj
    cases j with
    | zero => cases hj; exact P.2.2.2.1 a _ hh
    | succ j => cases hj
  obtain ⟨cell, g1, g2, g3⟩ := va_recv C.2.2.2.2.2.2.1 hP G.1 (q0 := 0) rfl
  exact i_VN C.1 C.2.2.2.1 (va_Nw.use rfl (va_Nw.warmM C.2.2.2.2.1 (va_Nw.of rfl w1))) (x_w C rfl w2) (x_w C rfl w3) (x_w C rfl wc) hy g1 g2 g3 rfl hlen hst (by rw [C.2.1]; exact hd)
end CallRowsT
section CallRowsE
variable {a0 : Array Value} {s0 : State} {D : va_G} {cI cL : ClassId} {p : Program} {l : Launch} {e : Env} {R : Room} {s : State} {m : MethodId} {args : Array Value} {below : List Frame} {meth : Method} {c : Code} {Q : State → Prop} {tb : List ExceptionTableEntry}
variable {own : String} {cc : ByteArray} {nL : Nat} {ret : Option FieldType} {pc : Nat} {lv : List (Nat × Value)} {st rest : List Value} {h : AH} {K cells slots : Nat}
variable {y : MethodName} {cc' : ByteArray} {nL' : Nat} {ret' : Option FieldType} {d mc ms : Nat} {av : List Value} {Post : AO → AH → Nat → Prop}
variable {ci : Nat} {T : u_T} {N : Nat} {ty : Nat → FieldType} {a : Nat} {fs argsL : List Value} {index : Nat}
theorem x_callVE (C : XC s0 D cI cL p s m meth c own cc nL ret tb) (G : a_cl a0 s0 ci y.cls T N ty) (w1 : (Cond.methodLink own index y).before a0 s0 = true) (w2 : (Cond.instanceMethod y).before a0 s0 = true) (w3 : (Cond.selects y.cls y y).before a0 s0 = true) (wc : (Cond.code y cc' nL' ret').before a0 s0 = true) (wi : (Cond.initialized y.cls).before a0 s0 = true) (hd : decode cc pc = .ok (.invokevirtual index, 3)) (hM : XM l s0 D y cc' nL' ret' d mc ms (.ref (s0.heap.size + a) :: argsL) h K Post) (hy : y.cls ≠ "java/lang/invoke/MethodHandle" ∧ y.cls ≠ "java/lang/invoke/VarHandle") (hlen : (parseMethodDescriptor y.desc).map (fun d => d.parameters.length) = some argsL.length) (hst : st = argsL.reverse ++ .ref (s0.heap.size + a) :: rest) (hh : h a = some (.inr (ci, fs))) (hr : (rest.map fun v => v.category).sum ≤ 8) (hf : d + 1 ≤ R.frames) (hl : 8 + (nL' + 11) + 38 * d ≤ R.locals) (hc : cells + mc ≤ R.cells) (hs : slots + ms ≤ R.slots)  (kk : ∀ (v : Option Value) (h' : AH) (K' : Nat), Post (.inl v) h' K' → XW s0 D p l e R s m args below meth c Q (pc + 3) lv (v.toList ++ rest) h' K' (cells + mc) (slots + ms)) (kt : ∀ (Cn : String) (h' : AH) (K' : Nat), Post (.inr Cn) h' K' → False) : XW s0 D p l e R s m args below meth c Q pc lv st h K cells slots := by
  refine x_go C (fun ls H locs P => ?_) hd hM wc wi hr hf hl hc hs kk (fun Cn h' K' q => (kt Cn h' K' q).elim)
  have hP : va_P D vwCl [(s0.heap.size + a, .inr (ci, fs))] H := by
    intro j q hj
    cases j with
    | zero => cases hj; exact P.2.2.2.1 a _ hh
    | succ j => cases hj
  obtain ⟨cell, g1, g2, g3⟩ := va_recv C.2.2.2.2.2.2.1 hP G.1 (q0 := 0) rfl
  exact i_V C.1 C.2.2.2.1 (x_w C rfl w1) (x_w C rfl w2) (x_w C rfl w3) (x_w C rfl wc) hy g1 g2 g3 rfl hlen hst (by rw [C.2.1]; exact hd)
theorem x_callVNE (C : XC s0 D cI cL p s m meth c own cc nL ret tb) (G : a_cl a0 s0 ci y.cls T N ty) {host : String} (w1 : (Cond.methodLinkNest own index y host).before a0 s0 = true) (w2 : (Cond.instanceMethod y).before a0 s0 = true) (w3 : (Cond.selects y.cls y y).before a0 s0 = true) (wc : (Cond.code y cc' nL' ret').before a0 s0 = true) (wi : (Cond.initialized y.cls).before a0 s0 = true) (hd : decode cc pc = .ok (.invokevirtual index, 3)) (hM : XM l s0 D y cc' nL' ret' d mc ms (.ref (s0.heap.size + a) :: argsL) h K Post) (hy : y.cls ≠ "java/lang/invoke/MethodHandle" ∧ y.cls ≠ "java/lang/invoke/VarHandle") (hlen : (parseMethodDescriptor y.desc).map (fun d => d.parameters.length) = some argsL.length) (hst : st = argsL.reverse ++ .ref (s0.heap.size + a) :: rest) (hh : h a = some (.inr (ci, fs))) (hr : (rest.map fun v => v.category).sum ≤ 8) (hf : d + 1 ≤ R.frames) (hl : 8 + (nL' + 11) + 38 * d ≤ R.locals) (hc : cells + mc ≤ R.cells) (hs : slots + ms ≤ R.slots)  (kk : ∀ (v : Option Value) (h' : AH) (K' : Nat), Post (.inl v) h' K' → XW s0 D p l e R s m args below meth c Q (pc + 3) lv (v.toList ++ rest) h' K' (cells + mc) (slots + ms)) (kt : ∀ (Cn : String) (h' : AH) (K' : Nat), Post (.inr Cn) h' K' → False) : XW s0 D p l e R s m args below meth c Q pc lv st h K cells slots := by
  refine x_go C (fun ls H locs P => ?_) hd hM wc wi hr hf hl hc hs kk (fun Cn h' K' q => (kt Cn h' K' q).elim)
  have hP : va_P D vwCl [(s0.heap.size + a, .inr (ci, fs))] H := by
    intro j q hj
    cases j with
    | zero => cases hj; exact P.2.2.2.1 a _ hh
    | succ j => cases hj
  obtain ⟨cell, g1, g2, g3⟩ := va_recv C.2.2.2.2.2.2.1 hP G.1 (q0 := 0) rfl
  exact i_VN C.1 C.2.2.2.1 (va_Nw.use rfl (va_Nw.warmM C.2.2.2.2.1 (va_Nw.of rfl w1))) (x_w C rfl w2) (x_w C rfl w3) (x_w C rfl wc) hy g1 g2 g3 rfl hlen hst (by rw [C.2.1]; exact hd)
end CallRowsE
