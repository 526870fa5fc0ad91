/-! an exception is thrown: the row of it -/
/-- what else is known at the start: no stack traces are filled in, and Throwable's statics hold references -/
def a_F (l : Launch) (s0 : State) : Prop := l.flags = pinnedFlags ++ [noTraceFlag] ∧ va_Zq Bundle.tN "UNASSIGNED_STACK" Bundle.steD (fun q => s0.heap.size ≤ q) s0 s0.heap ∧ va_Zq Bundle.tN "SUPPRESSED_SENTINEL" Bundle.listD (fun q => s0.heap.size ≤ q) s0 s0.heap
section ThrQ
variable {a0 args : Array Value} {s0 s : State}
def a_low (s0 s : State) : Prop := ∀ q : Nat, q < s0.heap.size → s.heap[q]? = s0.heap[q]?
theorem thr_ls {C n d : String} (hW : s0.WarmedH s.vm) (hlow : a_low s0 s) (h : (Cond.laysStatic C n d).before a0 s0 = true) : (Cond.laysStatic C n d).before args s = true := by
  obtain ⟨c, k, i, f, a, cell, hc, hi, hst, ha, hcell, hs, hcls, hlt, hty⟩ := Cond.laysStatic_spec (Cond.laysStatic_setVm hW.alike h)
  have hf : s.fieldFound? C n d = (s0.setVm s.vm).fieldFound? C n d := rfl
  have hcell2 : s.heap[a]? = some cell := by
    have h1 : s0.heap[a]? = some cell := hcell
    rw [hlow a (Array.getElem?_eq_some_iff.mp h1).1]
    exact h1
  exact Cond.laysStatic_of hc (hf.trans hi) hst ha hcell2 hs hcls hlt hty
theorem thr_q1 (Z : a_Z a0 s0) (hW : s0.WarmedH s.vm) (hlow : a_low s0 s) : ∀ a ∈ Bundle.throwableAtoms, a.before args s = true :=
  List.forall_mem_cons.mpr ⟨word_at hW (good_of_word rfl) (u_15 Z), List.forall_mem_cons.mpr ⟨word_at hW (good_of_word rfl) (Z _ (List.mem_append_right _ (List.mem_of_getElem? (i := 546) (by decide +kernel)))), List.forall_mem_cons.mpr ⟨word_at hW (good_of_word rfl) (u_555 Z), List.forall_mem_cons.mpr ⟨word_at hW (good_of_word rfl) (u_560 Z), List.forall_mem_cons.mpr ⟨word_at hW (good_of_word rfl) (u_563 Z), List.forall_mem_cons.mpr ⟨word_at hW (good_of_word rfl) (u_565 Z), List.forall_mem_cons.mpr ⟨word_at hW (good_of_word rfl) (u_547 Z), List.forall_mem_cons.mpr ⟨word_at hW (good_of_word rfl) (u_548 Z), List.forall_mem_cons.mpr ⟨word_at hW (good_of_word rfl) (u_29 Z), List.forall_mem_cons.mpr ⟨word_at hW (good_of_word rfl) (u_30 Z), List.forall_mem_cons.mpr ⟨word_at hW (good_of_word rfl) (u_549 Z), List.forall_mem_cons.mpr ⟨word_at hW (good_of_word rfl) (u_554 Z), List.forall_mem_cons.mpr ⟨word_at hW (good_of_word rfl) (u_561 Z), List.forall_mem_cons.mpr ⟨word_at hW (good_of_word rfl) (u_581 Z), List.forall_mem_cons.mpr ⟨word_at hW (good_of_word rfl) (u_536 Z), List.forall_mem_cons.mpr ⟨word_at hW (good_of_word rfl) (u_582 Z), List.forall_mem_cons.mpr ⟨word_at hW (good_of_word rfl) (u_538 Z), List.forall_mem_cons.mpr ⟨word_at hW (good_of_word rfl) (u_583 Z), List.forall_mem_cons.mpr ⟨word_at hW (good_of_word rfl) (u_540 Z), List.forall_mem_cons.mpr ⟨word_at hW (good_of_word rfl) (u_550 Z), List.forall_mem_cons.mpr ⟨thr_ls hW hlow (u_551 Z), List.forall_mem_cons.mpr ⟨word_at hW (good_of_word rfl) (u_552 Z), List.forall_mem_cons.mpr ⟨thr_ls hW hlow (u_553 Z), List.forall_mem_cons.mpr ⟨word_at hW (good_of_word rfl) (u_542 Z), fun _ h => absurd h List.not_mem_nil⟩⟩⟩⟩⟩⟩⟩⟩⟩⟩⟩⟩⟩⟩⟩⟩⟩⟩⟩⟩⟩⟩⟩⟩
theorem thr_q2 (Z : a_Z a0 s0) (hW : s0.WarmedH s.vm) : ∀ a ∈ Bundle.throwableSAtoms, a.before args s = true :=
  List.forall_mem_cons.mpr ⟨word_at hW (good_of_word rfl) (u_577 Z), List.forall_mem_cons.mpr ⟨word_at hW (good_of_word rfl) (u_578 Z), List.forall_mem_cons.mpr ⟨word_at hW (good_of_word rfl) (u_580 Z), List.forall_mem_cons.mpr ⟨word_at hW (good_of_word rfl) (u_542 Z), fun _ h => absurd h List.not_mem_nil⟩⟩⟩⟩
theorem thr_q4 (Z : a_Z a0 s0) (hW : s0.WarmedH s.vm) : ∀ a ∈ Bundle.chainSAtoms "java/lang/RuntimeException" ["java/lang/Exception"], a.before args s = true :=
  List.forall_mem_cons.mpr ⟨word_at hW (good_of_word rfl) (u_571 Z), List.forall_mem_cons.mpr ⟨word_at hW (good_of_word rfl) (u_572 Z), List.forall_mem_cons.mpr ⟨word_at hW (good_of_word rfl) (u_573 Z), List.forall_mem_cons.mpr ⟨word_at hW (good_of_word rfl) (u_574 Z), List.forall_mem_cons.mpr ⟨va_Nw.use rfl (va_Nw.warmD hW (va_Nw.of rfl (u_530 Z))), List.forall_mem_cons.mpr ⟨word_at hW (good_of_word rfl) (u_574 Z), List.forall_mem_cons.mpr ⟨word_at hW (good_of_word rfl) (u_575 Z), List.forall_mem_cons.mpr ⟨word_at hW (good_of_word rfl) (u_576 Z), List.forall_mem_cons.mpr ⟨word_at hW (good_of_word rfl) (u_577 Z), List.forall_mem_cons.mpr ⟨va_Nw.use rfl (va_Nw.warmD hW (va_Nw.of rfl (u_532 Z))), fun _ h => absurd h List.not_mem_nil⟩⟩⟩⟩⟩⟩⟩⟩⟩⟩
/-- what is known of an exception's class -/
def a_th (a0 : Array Value) (s0 : State) (cls : String) (idx : Nat) (bytes : ByteArray) : Prop :=
  Bundle.fit cls = true ∧ (decode bytes 0 = .ok (.aload_n 0, 1) ∧ decode bytes 1 = .ok (.aload_n 1, 1) ∧ decode bytes 2 = .ok (.invokespecial idx, 3) ∧ decode bytes 5 = .ok (.return_, 1)) ∧
  (∀ (args : Array Value) (s : State), s0.WarmedH s.vm → ∀ a ∈ Bundle.passSAtoms cls "java/lang/RuntimeException" idx bytes, a.before args s = true) ∧
  (Cond.instantiable cls 6).before a0 s0 = true ∧ (Cond.selects cls Bundle.tFill0 Bundle.tFill0).before a0 s0 = true ∧ (Cond.selects cls Bundle.tFill Bundle.tFill).before a0 s0 = true ∧
  (Cond.lays cls Bundle.tN "cause" "Ljava/lang/Throwable;").before a0 s0 = true ∧ (Cond.lays cls Bundle.tN "stackTrace" Bundle.steD).before a0 s0 = true ∧ (Cond.lays cls Bundle.tN "suppressedExceptions" Bundle.listD).before a0 s0 = true ∧ (Cond.lays cls Bundle.tN "detailMessage" "Ljava/lang/String;").before a0 s0 = true ∧
  (Cond.fieldLink Bundle.tN 198 Bundle.tN "backtrace" "Ljava/lang/Object;").before a0 s0 = true ∧ (Cond.lays Bundle.tN Bundle.tN "backtrace" "Ljava/lang/Object;").before a0 s0 = true ∧ (Cond.lays cls Bundle.tN "backtrace" "Ljava/lang/Object;").before a0 s0 = true ∧ (Cond.initialized cls).before a0 s0 = true
theorem th_IS (Z : a_Z a0 s0) : a_th a0 s0 "java/lang/IllegalStateException" 7 prog_16_method_2_code := by
  refine ⟨by decide, ⟨by decide +kernel, by decide +kernel, by decide +kernel, by decide +kernel⟩, ?_, u_525 Z, u_533 Z, u_534 Z, u_535 Z, u_537 Z, u_539 Z, u_541 Z, u_545 Z, u_544 Z, u_543 Z, u_18 Z⟩
  intro args s hW
  exact List.forall_mem_cons.mpr ⟨word_at hW (good_of_word rfl) (u_568 Z), List.forall_mem_cons.mpr ⟨word_at hW (good_of_word rfl) (u_569 Z), List.forall_mem_cons.mpr ⟨word_at hW (good_of_word rfl) (u_570 Z), List.forall_mem_cons.mpr ⟨word_at hW (good_of_word rfl) (u_571 Z), List.forall_mem_cons.mpr ⟨va_Nw.use rfl (va_Nw.warmD hW (va_Nw.of rfl (u_528 Z))), fun _ h => absurd h List.not_mem_nil⟩⟩⟩⟩⟩
theorem th_IA (Z : a_Z a0 s0) : a_th a0 s0 "java/lang/IllegalArgumentException" 7 prog_15_method_2_code := by
  refine ⟨by decide, ⟨by decide +kernel, by decide +kernel, by decide +kernel, by decide +kernel⟩, ?_, u_633 Z, u_635 Z, u_557 Z, u_636 Z, u_637 Z, u_638 Z, u_639 Z, u_545 Z, u_544 Z, u_640 Z, u_21 Z⟩
  intro args s hW
  exact List.forall_mem_cons.mpr ⟨word_at hW (good_of_word rfl) (u_643 Z), List.forall_mem_cons.mpr ⟨word_at hW (good_of_word rfl) (u_644 Z), List.forall_mem_cons.mpr ⟨word_at hW (good_of_word rfl) (u_645 Z), List.forall_mem_cons.mpr ⟨word_at hW (good_of_word rfl) (u_571 Z), List.forall_mem_cons.mpr ⟨va_Nw.use rfl (va_Nw.warmD hW (va_Nw.of rfl (u_528 Z))), fun _ h => absurd h List.not_mem_nil⟩⟩⟩⟩⟩
theorem th_IO (Z : a_Z a0 s0) : a_th a0 s0 "java/lang/IndexOutOfBoundsException" 7 prog_17_method_2_code := by
  refine ⟨by decide, ⟨by decide +kernel, by decide +kernel, by decide +kernel, by decide +kernel⟩, ?_, u_616 Z, u_618 Z, u_558 Z, u_619 Z, u_620 Z, u_621 Z, u_622 Z, u_545 Z, u_544 Z, u_623 Z, u_20 Z⟩
  intro args s hW
  exact List.forall_mem_cons.mpr ⟨word_at hW (good_of_word rfl) (u_626 Z), List.forall_mem_cons.mpr ⟨word_at hW (good_of_word rfl) (u_627 Z), List.forall_mem_cons.mpr ⟨word_at hW (good_of_word rfl) (u_628 Z), List.forall_mem_cons.mpr ⟨word_at hW (good_of_word rfl) (u_571 Z), List.forall_mem_cons.mpr ⟨va_Nw.use rfl (va_Nw.warmD hW (va_Nw.of rfl (u_528 Z))), fun _ h => absurd h List.not_mem_nil⟩⟩⟩⟩⟩
theorem th_NS (Z : a_Z a0 s0) : a_th a0 s0 "java/util/NoSuchElementException" 13 prog_24_method_4_code := by
  refine ⟨by decide, ⟨by decide +kernel, by decide +kernel, by decide +kernel, by decide +kernel⟩, ?_, u_677 Z, u_679 Z, u_559 Z, u_680 Z, u_681 Z, u_682 Z, u_683 Z, u_545 Z, u_544 Z, u_684 Z, u_22 Z⟩
  intro args s hW
  exact List.forall_mem_cons.mpr ⟨word_at hW (good_of_word rfl) (u_687 Z), List.forall_mem_cons.mpr ⟨word_at hW (good_of_word rfl) (u_688 Z), List.forall_mem_cons.mpr ⟨word_at hW (good_of_word rfl) (u_689 Z), List.forall_mem_cons.mpr ⟨word_at hW (good_of_word rfl) (u_571 Z), List.forall_mem_cons.mpr ⟨va_Nw.use rfl (va_Nw.warmD hW (va_Nw.of rfl (u_528 Z))), fun _ h => absurd h List.not_mem_nil⟩⟩⟩⟩⟩
end ThrQ
theorem XM.ofT {l : Launch} {s0 : State} {D : va_G} {cI cL : ClassId} {y : MethodName} {cc : ByteArray} {nL : Nat} {ret : Option FieldType} {d mc ms : Nat} {av : List Value} {h : AH} {K : Nat} {Post : AO → AH → Nat → Prop} {own : String}
    (hy : plainName y.cls = true) (ho : y.cls = own) (hK : va_K D vwCl [(cI, .int), (cL, .long)] s0) (hav : (lg_sl av).length ≤ nL)
    (body : ∀ (p : Program) (e : Env) (s : State) (m : MethodId) (below : List Frame) (meth : Method) (c : Code), XC s0 D cI cL p s m meth c own cc nL ret [] → meth.name = y.name → a_low s0 s → XW s0 D p l e (a_rm d mc ms) s m av.toArray below meth c (XQ s0 D mc ms Post below s) 0 (lv_args 0 av) [] h K 0 0) :
    XM l s0 D y cc nL ret d mc ms av h K Post := by
  refine MetFree.of_bodyS (code := cc) (maxLocals := nL) (ret := ret) hy ?_ ?_
  · intro args s m h hn
    obtain ⟨meth, c, h1, h2, h3, h4, h5, h6, -, -⟩ := Cond.code_spec hn (atoms_spec (ws := [.code y cc nL ret]) h _ List.mem_cons_self)
    exact ⟨meth, c, h1, h2, h3, h4, h5, h6⟩
  · intro p e s m args below meth c s₁ B hml hP _
    obtain ⟨ha, hw⟩ := hP
    subst ha
    have hh0 : s₁.heap = s.heap := by rw [B.state]; rfl
    have X := body p e s m below meth c ⟨B.exec, B.bytes, hml, by rw [← ho]; exact findClass_of_methodNamed B.named, hw.1, B.notSynchronized, va_K.moved hw.1.alike hK, B.returns, x_notab B⟩ (name_of_methodNamed B.named B.method).1 hw.2.2.1
    have hl := lv_entry av (n := nL) hav
    have hw2 := X _ s.heap [] ⟨by rw [hml]; exact hl, hw.2.1, hw.2.2.1, hw.2.2.2, fun q hq => by cases hq⟩
    rw [lg_entry_eq]
    obtain ⟨t, a1, o, b1, b2, b3⟩ := hw2 s₁ hh0 (Stand.of_body B)
    exact ⟨t, o, a1, b1, b2, b3⟩
section ThrRow
variable {a0 : Array Value} {s0 : State} {D : va_G} {cI cL : ClassId} {p : Program} {l : Launch} {e : Env} {R : Room} {s : State} {m : MethodId} {args : Array Value} {below : List Frame} {meth : Method} {c : Code}
variable {own : String} {cc : ByteArray} {nL : Nat} {ret : Option FieldType} {pc : Nat} {lv : List (Nat × Value)} {h : AH} {K cells slots mc ms : Nat} {Post : AO → AH → Nat → Prop}
set_option maxHeartbeats 2000000 in
theorem x_throw (C : XC s0 D cI cL p s m meth c own cc nL ret []) (F : a_F l s0) (hlow0 : a_low s0 s) (Z : a_Z a0 s0) {cls tx : String} {idx ixN ixS ixI : Nat} {bytes : ByteArray} (TH : a_th a0 s0 cls idx bytes)
    (wN : (Cond.classLink own ixN cls).before a0 s0 = true) (wS : (Cond.stringRef own ixS tx).before a0 s0 = true) (wI : (Cond.methodLink own ixI (Bundle.initS cls)).before a0 s0 = true)
    (hd0 : decode cc pc = .ok (.new ixN, 3)) (hd3 : decode cc (pc + 3) = .ok (.dup, 1)) (hd4 : decode cc (pc + 4) = .ok (.ldc ixS, 2)) (hd6 : decode cc (pc + 6) = .ok (.invokespecial ixI, 3)) (hd9 : decode cc (pc + 9) = .ok (.athrow, 1))
    (hcells : cells + 1 ≤ R.cells) (hslots : slots + 6 ≤ R.slots) (hc2 : cells + 1 ≤ mc) (hs2 : slots + 6 ≤ ms) (hfr : 6 ≤ R.frames) (hlo : 82 ≤ R.locals) (hp : Post (.inr cls) h (K + 1)) :
    XW s0 D p l e R s m args below meth c (XQ s0 D mc ms Post below s) pc lv [] h K cells slots := by
  intro ls H locs P
  obtain ⟨t1, ⟨t2, t3, t4, t5⟩, t6, t7, t8, t9, t10, t11, t12, t13, t14, t15, t16, t17⟩ := TH
  have hW := C.2.2.2.2.1
  obtain ⟨cX, kX, hfX, hkX, -⟩ := Cond.instantiable_spec (x_w (args := args) C rfl t7)
  refine W.newcK C.1 C.2.1 C.2.2.2.1 (x_w C rfl wN) (x_w C rfl t7) (x_w C rfl t17) rfl hd0 hcells hslots hfX P.2.1 (fun H1 kC hkC e1 z1 o1 => ?_)
  cases Option.some.inj (hkX.symm.trans hkC)
  refine lv_dup C.1 C.2.1 hd3 rfl ?_
  have hf0 : s0.vm.findClass own = some m.cls := by rw [← hW.alike.findClass]; exact C.2.2.2.1
  obtain ⟨k1, cf1, i1, q, -, -, -, -, -, hq⟩ := Cond.stringRef_spec (args := a0) hf0 wS
  have hR : vk_R own ixS tx q s := vk_R.warm hW (vk_R.of wS hq)
  refine va_ldcS C.1 C.2.1 C.2.2.2.1 hR hd4 ?_
  intro T hT X
  have hT2 : T.heap.size = s0.heap.size + K + 1 := by rw [hT, z1]
  have hlow : ∀ q : Nat, q < s0.heap.size → T.heap[q]? = s0.heap[q]? := fun q hq => by rw [hT, o1 q (by omega)]; exact P.2.2.1 q hq
  have htr := Launch.traces_off F.1 X.admits
  have hzU := (F.2.1.kept (H1 := T.heap) (fun a ha _ => hlow a ha)).moved hW.alike
  have hzS := (F.2.2.kept (H1 := T.heap) (fun a ha _ => hlow a ha)).moved hW.alike
  obtain ⟨U, L, st, hrun, hend, hWU, hsame, hL, hsz, hoth, ce, hce, hcls, hvm⟩ := thr_ctor (args := args) X C.1 htr C.2.2.2.2.2.1 (own := own) (cls := cls) (ic := ixI) (idx := idx) (bytes := bytes) C.2.2.2.1 t1 t2 t3 t4 t5 (thr_q1 Z hW hlow0) (thr_q2 Z hW) (t6 _ _ hW) (thr_q4 Z hW)
    (x_w C rfl wI) (x_w C rfl t7) (x_w C rfl t8) (x_w C rfl t9) (x_w C rfl t10) (x_w C rfl t11) (x_w C rfl t12) (x_w C rfl t13) (x_w C rfl t14) (x_w C rfl t15) (x_w C rfl t16) hzU hzS (a := s0.heap.size + K) (by omega) hfX hkX (by rw [hT]; exact e1)
    (msg := .ref q) rfl (g := F0 m (pc + 6) ls [.ref q, .ref (s0.heap.size + K), .ref (s0.heap.size + K)]) rfl P.1.1 rfl rfl (rest := []) rfl (by rw [C.2.1]; exact hd6) (by rw [C.2.1]; exact hd9) (fun x hx => by rw [C.2.2.2.2.2.2.2.2] at hx; cases hx) (by omega) (by show 2 * 0 + (1 + 0) + 81 ≤ _; omega)
  refine ⟨U, st, .threw (s0.heap.size + K), hrun, hend, h, K + 1, ⟨State.WarmedH.trans hW hWU, by omega, fun q hq => ?_, fun k x hx => ?_⟩, ⟨cls, hp, ?_⟩, locs ++ L, hWU, hsame.mono hc2 hs2, ?_⟩
  · rw [hoth q (by omega)]; exact hlow q hq
  · have h1 := P.2.2.2.1 k x hx
    have h2 : s0.heap.size + k < H.size := h1.lt
    have h3 : H.size = s0.heap.size + K := P.2.1
    exact h1.kept (by show U.heap[s0.heap.size + k]? = H[s0.heap.size + k]?; rw [hoth _ (by omega), hT, o1 _ (by omega)])
  · obtain ⟨cU, kU, hfU, hkU, -⟩ := Cond.instantiable_spec (word_at (U := U) (State.WarmedH.trans hW hWU) (good_of_word rfl) t7 : (Cond.instantiable cls 6).before args U = true)
    have e2 : cU = cX := Option.some.inj (hfU.symm.trans ((hWU.alike.findClass _ _).trans hfX))
    subst e2
    exact ⟨ce, kU, hce, hvm, by rw [hcls]; exact hfU, by rw [hcls]; exact hkU⟩
  · intro q hq
    rcases List.mem_append.mp hq with h1 | h1
    · exact P.2.2.2.2 q h1
    · rw [hL q h1]; omega
end ThrRow
