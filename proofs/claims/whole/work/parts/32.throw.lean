/-! an exception is made and thrown: new, dup, ldc, its constructor, athrow -/
section Thr
variable {p : Program} {l : Launch} {e : Env} {R : Room} {s : State} {m₀ : MethodId} {args : Array Value} {below : List Frame} {meth : Method} {c : Code} {W : State} {locs : List Loc} {cells slots : Nat}
set_option maxHeartbeats 2000000 in
theorem thr_ctor (X : Stand p l e R s m₀ args below meth c W locs cells slots) (hexec : p.tables.exec = Jvm.exec) (htr : e.platform.stackTraces = false) (hlocks : meth.locks = false) {own cls : String} {ic idx : Nat} {bytes : ByteArray}
    (hown : s.vm.findClass own = some m₀.cls) (hcls : Bundle.fit cls = true)
    (hd0 : decode bytes 0 = .ok (.aload_n 0, 1)) (hd1 : decode bytes 1 = .ok (.aload_n 1, 1)) (hd2 : decode bytes 2 = .ok (.invokespecial idx, 3)) (hd5 : decode bytes 5 = .ok (.return_, 1))
    (q1 : ∀ a ∈ Bundle.throwableAtoms, a.before args s = true) (q2 : ∀ a ∈ Bundle.throwableSAtoms, a.before args s = true) (q3 : ∀ a ∈ Bundle.passSAtoms cls "java/lang/RuntimeException" idx bytes, a.before args s = true) (q4 : ∀ a ∈ Bundle.chainSAtoms "java/lang/RuntimeException" ["java/lang/Exception"], a.before args s = true)
    (w1 : (Cond.methodLink own ic (Bundle.initS cls)).before args s = true) (w2 : (Cond.instantiable cls 6).before args s = true) (w3 : (Cond.selects cls Bundle.tFill0 Bundle.tFill0).before args s = true) (w4 : (Cond.selects cls Bundle.tFill Bundle.tFill).before args s = true)
    (w5 : (Cond.lays cls Bundle.tN "cause" "Ljava/lang/Throwable;").before args s = true) (w6 : (Cond.lays cls Bundle.tN "stackTrace" Bundle.steD).before args s = true) (w7 : (Cond.lays cls Bundle.tN "suppressedExceptions" Bundle.listD).before args s = true) (w8 : (Cond.lays cls Bundle.tN "detailMessage" "Ljava/lang/String;").before args s = true)
    (w9 : (Cond.fieldLink Bundle.tN 198 Bundle.tN "backtrace" "Ljava/lang/Object;").before args s = true) (w10 : (Cond.lays Bundle.tN Bundle.tN "backtrace" "Ljava/lang/Object;").before args s = true) (w11 : (Cond.lays cls Bundle.tN "backtrace" "Ljava/lang/Object;").before args s = true)
    {A : Nat → Prop} {a : Addr} (zU : va_Zq Bundle.tN "UNASSIGNED_STACK" Bundle.steD A s W.heap) (zS : va_Zq Bundle.tN "SUPPRESSED_SENTINEL" Bundle.listD A s W.heap) (hA : A a)
    {cX : ClassId} {kX : Class} (hfoundX : s.vm.findClass cls = some cX) (hkX : s.vm.classes[cX]? = some kX) (hcell : W.heap[a]? = some (freshCell cX kX))
    {msg : Value} (hmsg : msg.isRef = true)
    {g : JFrame} (hg : g.method = m₀) (hsize : g.locals.size = c.maxLocals) (hlocked : g.locked = none) (hentered : g.entered = []) {rest : List Value} (hstack : g.stack = msg :: .ref a :: .ref a :: rest)
    (hd6 : decode c.code g.pc = .ok (.invokespecial ic, 3)) (hd9 : decode c.code (g.pc + 3) = .ok (.athrow, 1)) (hout : ∀ x ∈ c.exceptionTable.toList, covers x (g.pc + 3) = false)
    (hRframes : 5 < R.frames) (hRlocals : 2 * g.monitorRoom + ((Value.ref a :: rest).map fun v => v.category).sum + 81 ≤ R.locals) :
    ∃ (U : State) (L : List Loc), Steps p.tables e below (W.setTop g) U ∧ U.status = .running ∧ Ended U below (.threw a) ∧ s.WarmedH U.vm ∧ s.sameButNew ({ U with vm := s.vm } : State) (locs ++ L) cells slots ∧ (∀ y ∈ L, y.base = a) ∧ U.heap.size = W.heap.size ∧ (∀ q : Nat, q ≠ a → U.heap[q]? = W.heap[q]?) ∧
      ∃ ce, U.heap[a]? = some ce ∧ ce.cls = cX ∧ ce.vm = .none := by
  have howns : e.platform.frameOwnsMonitors = true := by rw [X.admits.platform]
  have hfin : e.platform.finalization = false := by rw [X.admits.platform]
  have hpl : e.platform.magicAccessors = ({} : Platform).magicAccessors := by rw [X.admits.platform]
  obtain ⟨T, Z0, L, -, Y⟩ := ThrowableC.of_atoms (args := args) howns hfin hpl q1
  obtain ⟨Z, M, LZ, LM, hnZ⟩ := Init0T.ofS_atoms (args := args) hpl L Y q2
  obtain ⟨P1, L1, hP1m, hP1s⟩ := PassC.ofS_atoms (args := args) hpl (X := cls) (Y := "java/lang/RuntimeException") (index := idx) (bytes := bytes) (Bundle.fit_spec hcls).1 (by decide) hd0 hd1 hd2 hd5 q3
  obtain ⟨P2, Ps, hlen, L2, hL, hP2m, hlink2, hlink⟩ := Bundle.chainS (args := args) hpl hnZ ["java/lang/Exception"] "java/lang/RuntimeException" (by decide) (by decide) q4
  have hP12 : P1.sup = P2.m := Option.some.inj (hP1s.symm.trans hP2m)
  have hfound : s.vm.findClass cls = some P1.m.cls := findClass_of_methodNamed hP1m
  cases Option.some.inj (hfoundX.symm.trans hfound)
  obtain ⟨c1, kX', hc1, hk, hord, -, -, hn6⟩ := Cond.instantiable_spec w2
  cases Option.some.inj (hc1.symm.trans hfound)
  cases Option.some.inj (hkX.symm.trans hk)
  have hsel0 : selectMethod e.platform s.vm P1.m.cls T.fill0 = .method T.fill0 := by
    obtain ⟨c2, r2, m2, r1, r2', r3, r4, -⟩ := Cond.selects_spec w3
    cases Option.some.inj (r1.symm.trans hfound)
    cases Option.some.inj (r2'.symm.trans (State.methodFound?_of_named Y.fill0 (by decide)))
    cases Option.some.inj (r3.symm.trans Y.fill0)
    rw [Launch.admits_selectMethod X.admits]; exact r4
  have hselF : selectMethod e.platform s.vm P1.m.cls T.fill = .method T.fill := by
    obtain ⟨c2, r2, m2, r1, r2', r3, r4, -⟩ := Cond.selects_spec w4
    cases Option.some.inj (r1.symm.trans hfound)
    cases Option.some.inj (r2'.symm.trans (State.methodFound?_of_named Y.fill (by decide)))
    cases Option.some.inj (r3.symm.trans Y.fill)
    rw [Launch.admits_selectMethod X.admits]; exact r4
  obtain ⟨u0, cellS, hcS, hiss, hu0, hnS⟩ : ∃ (u : RefV) (cell : Cell), W.heap[T.aS]? = some cell ∧ cell.vm.isStatics = true ∧ cell.slots[T.fUnassigned.slot]? = some u.v ∧ ¬ A T.aS := by
    rcases zU with h | ⟨t, h⟩
    · obtain ⟨cf, kf, fi, f, aa, cell, r1, r2, r3, r4, r5, r6, r7, r8⟩ := h
      cases r1.symm.trans Y.unassigned
      cases r4.symm.trans L.statics
      exact ⟨⟨.null, rfl⟩, cell, r5, r6, r7, r8⟩
    · obtain ⟨cf, kf, fi, f, aa, cell, r1, r2, r3, r4, r5, r6, r7, r8⟩ := h
      cases r1.symm.trans Y.unassigned
      cases r4.symm.trans L.statics
      exact ⟨⟨.ref t, rfl⟩, cell, r5, r6, r7, r8⟩
  obtain ⟨sen, hsen⟩ : ∃ u : RefV, cellS.slots[T.fSentinel.slot]? = some u.v := by
    rcases zS with h | ⟨t, h⟩
    · obtain ⟨cf, kf, fi, f, aa, cell, r1, r2, r3, r4, r5, r6, r7, r8⟩ := h
      cases r1.symm.trans Y.sentinel
      cases r4.symm.trans L.statics
      cases r5.symm.trans hcS
      exact ⟨⟨.null, rfl⟩, r7⟩
    · obtain ⟨cf, kf, fi, f, aa, cell, r1, r2, r3, r4, r5, r6, r7, r8⟩ := h
      cases r1.symm.trans Y.sentinel
      cases r4.symm.trans L.statics
      cases r5.symm.trans hcS
      exact ⟨⟨.ref t, rfl⟩, r7⟩
  obtain ⟨ci198, i198, fB, hk198, hg198, ha198, hsB, -, hnB, htB, hffB⟩ := Cond.ownField (t := .object "java/lang/Object") Y.found L.cls (by decide +kernel) w9 w10 e.platform hpl
  have hknownS : cellS.vm ≠ .unknown := by
    intro hu
    rw [hu] at hiss
    cases hiss
  have hneS : T.aS ≠ a := fun h => hnS (by rw [h]; exact hA)
  obtain ⟨iM, hffM⟩ := Y.msg
  obtain ⟨tyC, dC, hdC, hdnC⟩ := Cond.laysAt hfound hk Y.cause w5
  obtain ⟨tyS, dS, hdS, hdnS⟩ := Cond.laysAt hfound hk Y.stack w6
  obtain ⟨tyP, dP, hdP, hdnP⟩ := Cond.laysAt hfound hk Y.supp w7
  obtain ⟨tyM, dM, hdM, hdnM⟩ := Cond.laysAt hfound hk hffM w8
  obtain ⟨tyB, dB, hdB, hdnB⟩ := Cond.laysAt hfound hk hffB w11
  have bC := Cond.laysApart hdB hdC hdnB hdnC (by rw [hnB, Y.causeName]; decide)
  have bS := Cond.laysApart hdB hdS hdnB hdnS (by rw [hnB, Y.stackName]; decide)
  have bP := Cond.laysApart hdB hdP hdnB hdnP (by rw [hnB, Y.suppName]; decide)
  have hskip : SkipFacts T e.platform s (fun u => u) u0 ((preparedCellV T.toThrowableT (freshCell P1.m.cls kX) a u0 sen).withEntry W.cur) :=
    ⟨{ ci198 := ci198, i198 := i198, fBack := fB }, ⟨hk198, hg198, ha198, hsB⟩, by
      have := fresh_default (c := P1.m.cls) tyB
      rw [htB] at this
      simpa [preparedCellV, Cell.setSlot, Cell.withEntry, Array.getElem?_setIfInBounds, bC, bS, bP, bC.symm, bS.symm, bP.symm, defaultValue] using this, fun _ _ => rfl⟩
  obtain ⟨tm, methC, cdC, kC, vm₁, hnC, -, -, -, -, -, -, -, hW₁, st1⟩ := Steps.initColdS (tb := p.tables) (e := e) (below := below) (s := s) (U := W) X.here hexec X.warmed hpl hown (t := Bundle.initS cls) rfl rfl (Bundle.fit_spec hcls).2
    w1 (q3 (.instanceMethod (Bundle.initS cls)) (by simp [Bundle.passSAtoms])) (bytes := bytes) (maxL := 2) (q3 (.code (Bundle.initS cls) bytes 2 none) (by simp [Bundle.passSAtoms]))
    (f := g) hg (a := a) (msg := msg) (rest := .ref a :: rest) hstack hd6
  cases Option.some.inj (hnC.symm.trans hP1m)
  have X₁ := X.noted hW₁
  obtain ⟨vm₂, X₂, st2⟩ := X₁.ctorMessageOffV hexec (g := { g with stack := .ref a :: rest }) hg hsize T L Z LZ M LM (P1 :: P2 :: Ps)
    (fun P hP => by
      rcases List.mem_cons.mp hP with rfl | hP
      · exact L1
      · rcases List.mem_cons.mp hP with rfl | hP
        · exact L2
        · exact hL P hP) ⟨hP12, hlink2, hlink⟩ (u0 := u0) (sen := sen) (self := a) hmsg (cell := freshCell P1.m.cls kX) (cellS := cellS)
    hcell (fun _ => by simp) (by simp) rfl rfl hsel0 hselF hcS hneS hknownS hu0 hsen
    (Takes.of_laid hk hord tyC (by rw [Y.causeType]; rfl)) (Takes.of_laid hk hord tyS (by rw [Y.stackType]; exact fits_refV_array _ u0)) (Takes.of_laid hk hord tyP (by rw [Y.suppType]; exact fits_refV_object _ sen))
    (Takes.of_laid hk hord tyM (by rw [Y.msgType]; exact fits_refV_object _ ⟨msg, hmsg⟩)) Y.objLocals hskip htr [] hd6
    (by simp only [List.length_cons, hlen]; show 1 + 1 + 1 + 2 < _; omega) (by simp only [List.length_cons, hlen]; show _ + (13 * (1 + 1 + 1) + 42) ≤ _; omega)
  obtain ⟨hwalk, hrun, hended, hWU, hsame⟩ := X₂.athrowLeaves hexec (g := { g with stack := .ref a :: rest, pc := g.pc + 3 }) hg hlocked hentered hout (a := a) (rest := rest) rfl hd9 (hlocks := hlocks)
  have hlt : a < ((W.setVm vm₁).setVm vm₂).heap.size := (Array.getElem?_eq_some_iff.mp hcell).1
  have hU := heapAt_setCell_self (s := (W.setVm vm₁).setVm vm₂) (plainBareV T.toThrowableT (freshCell P1.m.cls kX) a u0 sen msg) hlt
  refine ⟨_, _, st1 _ (fun acts => ?_), hrun, hended, hWU, hsame, ?_, ?_, ?_, _, hU, rfl, rfl⟩
  · rw [doInvoke_state]
    exact st2 _ hwalk
  · intro y hy
    simp only [List.mem_cons, List.not_mem_nil, or_false] at hy
    rcases hy with rfl | rfl | rfl | rfl | rfl <;> rfl
  · exact size_setCell ((W.setVm vm₁).setVm vm₂) a _
  · intro q hq
    exact heapAt_setCell_ne (s := (W.setVm vm₁).setVm vm₂) _ (Ne.symm hq)
end Thr
