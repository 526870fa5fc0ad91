/-! the law: its start (the rows up to lw_At began as the skeleton's) -/
def R_law : String := "NarrowingPackerLaw"
def lw_P (b : Addr) (xs : List Int32) (args : Array Value) (s : State) : Prop := args = #[.ref b] ∧ s.IntsAt b xs ∧ xs.length ≤ 1537 ∧ (Jvm.Cond.and given_1 narrow_1).before args s = true
def lw_Q (_ : Array Value) (s : State) (o : Outcome) (t : State) : Prop := o = .returned (some (.int 1)) ∧ Framed s o t [] 601024 7293000
def lw_Z (below : List Frame) (a : Array Value) (s : State) : State → Prop := fun t => ∃ o, t.status = .running ∧ Ended t below o ∧ lw_Q a s o t
/-- the law's own end, with 1 on the stack, nothing written that was there before, its room as the claim has it -/
theorem lw_ret {p : Program} {l : Launch} {e : Env} {s : State} {m : MethodId} {below : List Frame} {meth : Method} {c : Code} {b : Nat} (hx : p.tables.exec = Jvm.exec) (hb : c.code = code) (hr : meth.sig.returnType = ret) (hlocks : meth.locks = false) {pc : Nat} {H : Heap} {ls : Array Slot} (hdg : decode code pc = .ok (.ireturn, 1)) : W p l e room_1 s m #[Value.ref b] below meth c H [] 601024 7293000 (lw_Z below #[Value.ref b] s) (F0 m pc ls [.int 1]) := by
  intro T hT X
  obtain ⟨fs, hret, hrun, hended, hW, hframe⟩ := X.leave (v := some (.int 1)) (hlocks := hlocks) (fun h => by rw [hr] at h; cases h)
  have hmeth' : T.vm.method? m = some meth := X.method'
  refine ⟨T.setFrames fs, ?_, .returned (some (.int 1)), hrun, hended, rfl, ⟨_, rfl⟩, hW, hframe⟩
  jvm_step X.here [X.here.top, hx, hb, hdg, hmeth', hr, ret, narrow_b1]
  (try refine ⟨rfl, ?_⟩); (try refine ⟨rfl, ?_⟩)
  first | (intro acts; rw [hret _ acts rfl rfl rfl]) | rw [hret _ _ rfl rfl rfl]
  exact Steps.refl _
/-- what holds at the law's entry: the machine, the code, the tables' words (any of lw_tbl by 'hts w (by decide +kernel)'), the script of L ints xs at the cell b, what the Statement gives of the start (any of its parts by flat_of_before) -/
def lw_At (p : Program) (s : State) (m : MethodId) (meth : Method) (c : Code) (b L : Nat) (xs : Nat → Int32) : Prop :=
  p.tables.exec = Jvm.exec ∧ c.code = code ∧ meth.sig.returnType = ret ∧ c.maxLocals = 7 ∧ s.vm.findClass R_law = some m.cls ∧ (∀ w ∈ lw_tbl, w.before #[Value.ref b] s = true) ∧ va_X b L xs s s.heap ∧ b < s.heap.size ∧ meth.locks = false ∧ (Jvm.Cond.and given_1 narrow_1).before #[Value.ref b] s = true
section CallIE
variable {a0 : Array Value} {s0 : State} {D : va_G} {cI cL : ClassId} {p : Program} {l : Launch} {e : Env} {R : Room} {s : State} {m : MethodId} {args : Array Value} {below : List Frame} {meth : Method} {c : Code} {Q : State → Prop} {tb : List ExceptionTableEntry}
variable {own : String} {cc : ByteArray} {nL : Nat} {ret : Option FieldType} {pc : Nat} {lv : List (Nat × Value)} {st rest : List Value} {h : AH} {K cells slots : Nat}
variable {y : MethodName} {cc' : ByteArray} {nL' : Nat} {d mc ms : Nat} {Post : AO → AH → Nat → Prop} {a : Nat} {argsL : List Value} {index : Nat}
theorem x_callIE (C : XC s0 D cI cL p s m meth c own cc nL ret tb) (hy1 : y.name = "<init>") (w1 : (Cond.methodLink own index y).before a0 s0 = true) (w2 : (Cond.instanceMethod y).before a0 s0 = true) (wc : (Cond.code y cc' nL' none).before a0 s0 = true) (wi : (Cond.initialized y.cls).before a0 s0 = true) (hd : decode cc pc = .ok (.invokespecial index, 3)) (hM : XM l s0 D y cc' nL' none d mc ms (.ref (s0.heap.size + a) :: argsL) h K Post) (hy : y.cls ≠ "java/lang/invoke/MethodHandle" ∧ y.cls ≠ "java/lang/invoke/VarHandle") (hlen : (parseMethodDescriptor y.desc).map (fun d => d.parameters.length) = some argsL.length) (hst : st = argsL.reverse ++ .ref (s0.heap.size + a) :: rest) (hr : (rest.map fun v => v.category).sum ≤ 8) (hf : d + 1 ≤ R.frames) (hl : 8 + (nL' + 11) + 38 * d ≤ R.locals) (hc : cells + mc ≤ R.cells) (hs : slots + ms ≤ R.slots) (kk : ∀ (v : Option Value) (h' : AH) (K' : Nat), Post (.inl v) h' K' → XW s0 D p l e R s m args below meth c Q (pc + 3) lv (v.toList ++ rest) h' K' (cells + mc) (slots + ms)) (kt : ∀ (Cn : String) (h' : AH) (K' : Nat), Post (.inr Cn) h' K' → False) : XW s0 D p l e R s m args below meth c Q pc lv st h K cells slots := by
  refine x_go C (fun ls H locs P => ?_) hd hM wc wi hr hf hl hc hs kk (fun Cn h' K' q => (kt Cn h' K' q).elim)
  exact i_I C.1 C.2.2.2.1 hy1 (x_w C rfl w1) (x_w C rfl w2) (x_w C rfl wc) hy rfl hlen hst (by rw [C.2.1]; exact hd)
end CallIE
theorem bt0 : bt (fun _ => 0) := fun _ => ⟨by show (0 : Int) ≤ 0; decide, by show (0 : Int) < 256; decide⟩
theorem w4_0 : w4ok (0, 0, 0, 0) := by
  show (0 ≤ (0 : Int) ∧ (0 : Int) ≤ 3) ∧ (0 ≤ (0 : Int) ∧ (0 : Int) ≤ 200) ∧ (0 ≤ (0 : Int) ∧ (0 : Int) ≤ 128) ∧ (0 ≤ (0 : Int) ∧ (0 : Int) ≤ 3)
  omega
set_option maxRecDepth 100000 in
set_option maxHeartbeats 4000000 in
theorem law_start {a0 : Array Value} {s0 : State} {D : va_G} {cI cL : ClassId} (l : Launch) (E : a_E a0 s0 D cI cL) (F : a_F l s0) (NX : a_X s0) {p : Program} {e : Env} {m : MethodId} {args : Array Value} {below : List Frame} {meth : Method} {c : Code} (C : XC s0 D cI cL p s0 m meth c "NarrowingPackerLaw" code 7 (some .boolean) []) {sb L : Nat} {xs : Nat → Int32} (hX : va_X sb L xs s0 s0.heap) (hbl : sb < s0.heap.size) (hL : L ≤ 1537) {Q : State → Prop} (kend : ∀ (lv : List (Nat × Value)) (h : AH) (K cells slots : Nat), cells ≤ 601024 → slots ≤ 7293000 → XW s0 D p l e room_1 s0 m args below meth c Q 565 lv [.int (zI 1)] h K cells slots) : XW s0 D p l e room_1 s0 m args below meth c Q 0 (lv_args 0 [.ref sb]) [] (fun _ => none) 0 0 0 := by
  have hlim : -2147483648 ≤ (if (0 : Int) < (L : Int) then (xs (0 : Int).toNat).toInt else 0) ∧ (if (0 : Int) < (L : Int) then (xs (0 : Int).toNat).toInt else 0) < 2147483648 := by
    split
    · exact sv_b _
    · omega
  refine x_new C (G_Np E.1) (u_23 E.1) (u_24 E.1) (u_1 E.1) d_La_law_0 nf_Np (nle rfl) (nle rfl) ?_
  refine x_dup C d_La_law_3 rfl ?_
  refine x_aload_n C d_La_law_4 rfl ?_
  refine x_iconst C d_La_law_5 ?_
  refine x_callSR C (u_348 E.1) (u_349 E.1) (u_350 E.1) (u_0 E.1) d_La_law_6 (c_La_cell l E hX hbl hL (by decide) (by decide)) nh_La_cell ln_La_cell rfl (nle rfl) (nle rfl) (nle rfl) (nle rfl) (nle rfl) ?_
  refine x_callIE C rfl (u_25 E.1) (u_26 E.1) (u_27 E.1) (u_1 E.1) d_La_law_9 (c_Np_init l E (by rfl) hlim.1 hlim.2) nh_Np_init ln_Np_init rfl (nle rfl) (nle rfl) (nle rfl) (nle rfl) (nle rfl) (fun v9 h9 K9 r9 => ?_) (fun Cn9 h9 K9 r9 => by cases r9.1)
  obtain ⟨q1, q2, hK, hS, hL8, hL12⟩ := r9
  cases q1
  subst q2
  obtain ⟨a1, a2, a3, a4, h21⟩ := hK.2.2.2.2.2.2.2.2.2.2.2.2
  obtain ⟨b1, b2, b3, b4, b5, h16⟩ := hS.2.2.2.2.2
  refine x_astore_n C d_La_law_12 (by decide) ?_
  refine x_new C (G_Mo E.1) (u_758 E.1) (u_759 E.1) (u_13 E.1) d_La_law_13 nf_Mo (nle rfl) (nle rfl) ?_
  refine x_dup C d_La_law_16 rfl ?_
  refine x_aload_n C d_La_law_17 rfl ?_
  refine x_iconst C d_La_law_18 ?_
  refine x_callSR C (u_348 E.1) (u_349 E.1) (u_350 E.1) (u_0 E.1) d_La_law_19 (c_La_cell l E hX hbl hL (by decide) (by decide)) nh_La_cell ln_La_cell rfl (nle rfl) (nle rfl) (nle rfl) (nle rfl) (nle rfl) ?_
  refine x_callIE C rfl (u_760 E.1) (u_761 E.1) (u_762 E.1) (u_13 E.1) d_La_law_22 (c_Mo_init l E (by rfl) hlim.1 hlim.2) nh_Mo_init ln_Mo_init rfl (nle rfl) (nle rfl) (nle rfl) (nle rfl) (nle rfl) (fun v22 h22 K22 r22 => ?_) (fun Cn22 h22 K22 r22 => by cases r22.1)
  obtain ⟨q1, q2, hM, hfr⟩ := r22
  cases q1
  subst q2
  refine x_astore_n C d_La_law_25 (by decide) ?_
  refine x_iconst C d_La_law_26 ?_
  refine x_newaL C (u_1009 E.1) 1 d_La_law_27 rfl (by decide) (nle rfl) (nle rfl) ?_
  refine x_astore_n C d_La_law_29 (by decide) ?_
  refine x_iconst C d_La_law_30 ?_
  refine x_istore C d_La_law_31 (by decide) ?_
  refine XW.loc (lv' := [(0, .ref sb), (1, .ref (s0.heap.size + 0)), (2, .ref (s0.heap.size + 33)), (3, .ref (s0.heap.size + 48)), (4, .int (zI 1))]) ⟨rfl, rfl, rfl, rfl, rfl, trivial⟩ ?_
  exact law_loop l E F NX C hX hbl hL kend 600 1 _ _ _ _ (by decide) (by decide) (by omega) (by decide) (by decide) ⟨8, 12, 0, 0, 0, 0, (fun _ => 0), (fun _ => 0), (fun _ => 0), (fun _ => 0), ((fun _ => 0), (fun _ => 0), (fun _ => 0)), ((fun _ => 0), (fun _ => 0), (fun _ => 0)), 0, 0, b1, b2, b3, b4, b5, a1, a2, a3, a4, ((fun _ => 0), 0, (fun _ => 0), 0), ((fun _ => 0), (fun _ => 0), 0, 0), ((fun _ => 0), 0, 0, 0), (fun _ => 0), 0, 0, 0, (0, 0, (fun _ => 0), 0, 0, (fun _ => 0), 0, 0), (((fun _ => 0), 0, (fun _ => 0), 0), ((fun _ => 0), (fun _ => 0), (fun _ => 0)), 0, (0, 0, 0, 0)), ((fun _ => 0), (fun _ => 0), (fun _ => 0)), (fun _ => 0), ⟨((hfr 0 (by decide)).trans (by exact hK.1)), ((hfr 1 (by decide)).trans (by exact hK.2.1)), ((hfr 2 (by decide)).trans (by exact hK.2.2.1)), ((hfr 3 (by decide)).trans (by exact hK.2.2.2.1)), ((hfr 4 (by decide)).trans (by exact hK.2.2.2.2.1)), ((hfr 5 (by decide)).trans (by exact hK.2.2.2.2.2.1)), ((hfr 6 (by decide)).trans (by exact hK.2.2.2.2.2.2.1)), ((hfr 7 (by decide)).trans (by exact hK.2.2.2.2.2.2.2.1)), ((hfr 8 (by decide)).trans (by exact hL8.1)), ((hfr 9 (by decide)).trans (by exact hL8.2.1)), ((hfr 10 (by decide)).trans (by exact hL8.2.2.1)), ((hfr 11 (by decide)).trans (by exact hL8.2.2.2)), ((hfr 12 (by decide)).trans (by exact hL12.1)), ((hfr 13 (by decide)).trans (by exact hL12.2.1)), ((hfr 14 (by decide)).trans (by exact hL12.2.2.1)), ((hfr 15 (by decide)).trans (by exact hL12.2.2.2)), ((hfr 16 (by decide)).trans (by exact h16)), ((hfr 17 (by decide)).trans (by exact hS.1.1)), ((hfr 18 (by decide)).trans (by exact hS.1.2.1)), ((hfr 19 (by decide)).trans (by exact hS.1.2.2.1)), ((hfr 20 (by decide)).trans (by exact hS.1.2.2.2)), ((hfr 21 (by decide)).trans (by exact h21)), ((hfr 22 (by decide)).trans (by exact hK.2.2.2.2.2.2.2.2.1)), ((hfr 23 (by decide)).trans (by exact hS.2.1.1)), ((hfr 24 (by decide)).trans (by exact hK.2.2.2.2.2.2.2.2.2.1)), ((hfr 25 (by decide)).trans (by exact hS.2.1.2.1)), ((hfr 26 (by decide)).trans (by exact hS.2.1.2.2)), ((hfr 27 (by decide)).trans (by exact hK.2.2.2.2.2.2.2.2.2.2.1)), ((hfr 28 (by decide)).trans (by exact hS.2.2.1.1)), ((hfr 29 (by decide)).trans (by exact hK.2.2.2.2.2.2.2.2.2.2.2.1)), ((hfr 30 (by decide)).trans (by exact hS.2.2.1.2)), ((hfr 31 (by decide)).trans (by exact hS.2.2.2.1)), ((hfr 32 (by decide)).trans (by exact hS.2.2.2.2.1))⟩, ⟨(congrFun hM.1 33).symm, hM.2.1, hM.2.2.1, hM.2.2.2.1, hM.2.2.2.2.1, hM.2.2.2.2.2.1, hM.2.2.2.2.2.2.1, hM.2.2.2.2.2.2.2, (congrFun hM.1 41).symm, (congrFun hM.1 42).symm, (congrFun hM.1 43).symm, (congrFun hM.1 44).symm, (congrFun hM.1 45).symm, (congrFun hM.1 46).symm, (congrFun hM.1 47).symm⟩, rfl, ⟨Or.inl rfl, ⟨by decide, by decide⟩, ⟨by decide, by decide⟩, ⟨by decide, by decide⟩, ⟨by omega, by omega⟩, ⟨by decide, by decide⟩, bt0, bt0, bt0, ⟨by show (0 : Int) ≤ 0; decide, by show (0 : Int) ≤ 120; decide⟩, bt0, ⟨by decide, by decide⟩, bt0, rfl, w4_0, Or.inl ⟨rfl, rfl, rfl, fun i i0 i1 => by have i1 : i < 0 := i1; omega⟩⟩⟩
theorem ws_E {a0 : Array Value} {s0 : State} (Z : a_Z a0 s0) : ∃ (D : va_G) (cI cL : ClassId), a_E a0 s0 D cI cL := by
  obtain ⟨c0, i0, k0⟩ := u_known (ws := lw_tbl) Z (fun w hw => List.mem_append_right _ (uw_By w hw)) (u_32 Z)
  obtain ⟨c1, i1, k1⟩ := u_known (ws := lw_tbl) Z (fun w hw => List.mem_append_right _ (uw_Ch w hw)) (u_178 Z)
  obtain ⟨c2, i2, k2⟩ := u_known (ws := lw_tbl) Z (fun w hw => List.mem_append_right _ (uw_Co w hw)) (u_138 Z)
  obtain ⟨c3, i3, k3⟩ := u_known (ws := lw_tbl) Z (fun w hw => List.mem_append_right _ (uw_Fo w hw)) (u_216 Z)
  obtain ⟨c4, i4, k4⟩ := u_known (ws := lw_tbl) Z (fun w hw => List.mem_append_right _ (uw_Hi w hw)) (u_113 Z)
  obtain ⟨c5, i5, k5⟩ := u_known (ws := lw_tbl) Z (fun w hw => List.mem_append_right _ (uw_Na w hw)) (u_172 Z)
  obtain ⟨c6, i6, k6⟩ := u_known (ws := lw_tbl) Z (fun w hw => List.mem_append_right _ (uw_Pa w hw)) (u_74 Z)
  obtain ⟨c7, i7, k7⟩ := u_known (ws := lw_tbl) Z (fun w hw => List.mem_append_right _ (uw_Pl w hw)) (u_54 Z)
  obtain ⟨c8, i8, k8⟩ := u_known (ws := lw_tbl) Z (fun w hw => List.mem_append_right _ (uw_Re w hw)) (u_210 Z)
  obtain ⟨c9, i9, k9⟩ := u_known (ws := lw_tbl) Z (fun w hw => List.mem_append_right _ (uw_Wr w hw)) (u_166 Z)
  obtain ⟨c10, i10, k10⟩ := u_known (ws := lw_tbl) Z (fun w hw => List.mem_append_right _ (uw_Np w hw)) (u_24 Z)
  obtain ⟨c11, i11, k11⟩ := u_known (ws := lw_tbl) Z (fun w hw => List.mem_append_right _ (uw_Mo w hw)) (u_759 Z)
  obtain ⟨cI, kI, pI, hI1, hI2, hI3⟩ := Cond.arrayClass_spec (u_52 Z)
  obtain ⟨cL, kL, pL, hL1, hL2, hL3⟩ := Cond.arrayClass_spec (u_1009 Z)
  refine ⟨(fun j => ([c0, c1, c2, c3, c4, c5, c6, c7, c8, c9, c10, c11] : List ClassId).getD j 0, fun j => ([i0, i1, i2, i3, i4, i5, i6, i7, i8, i9, i10, i11] : List (Nat → Nat)).getD j (fun _ => 0)), cI, cL, Z, ?_, ?_⟩
  · intro c q hq
    have hc : c < 12 := (List.getElem?_eq_some_iff.mp hq).1
    have hc : c = 0 ∨ c = 1 ∨ c = 2 ∨ c = 3 ∨ c = 4 ∨ c = 5 ∨ c = 6 ∨ c = 7 ∨ c = 8 ∨ c = 9 ∨ c = 10 ∨ c = 11 := by omega
    rcases hc with rfl | rfl | rfl | rfl | rfl | rfl | rfl | rfl | rfl | rfl | rfl | rfl
    · have e := Option.some.inj hq; subst e; exact k0
    · have e := Option.some.inj hq; subst e; exact k1
    · have e := Option.some.inj hq; subst e; exact k2
    · have e := Option.some.inj hq; subst e; exact k3
    · have e := Option.some.inj hq; subst e; exact k4
    · have e := Option.some.inj hq; subst e; exact k5
    · have e := Option.some.inj hq; subst e; exact k6
    · have e := Option.some.inj hq; subst e; exact k7
    · have e := Option.some.inj hq; subst e; exact k8
    · have e := Option.some.inj hq; subst e; exact k9
    · have e := Option.some.inj hq; subst e; exact k10
    · have e := Option.some.inj hq; subst e; exact k11
  · intro k q hq
    have hk : k < 2 := (List.getElem?_eq_some_iff.mp hq).1
    have hk : k = 0 ∨ k = 1 := by omega
    rcases hk with rfl | rfl
    · have e := Option.some.inj hq; subst e; exact ⟨fun N z => ⟨(fun k h => by cases h), kI, hI2, pI, hI3⟩, hI1⟩
    · have e := Option.some.inj hq; subst e; exact ⟨fun N z => ⟨(fun k h => by cases h), kL, hL2, pL, hL3⟩, hL1⟩
theorem ws_F {l : Launch} {b : Nat} {s : State} (hfl : l.flags = pinnedFlags ++ [noTraceFlag]) (Z : a_Z #[Value.ref b] s) (hgv : (Jvm.Cond.and given_1 narrow_1).before #[Value.ref b] s = true) : a_F l s := by
  have hs := flat_of_before _ hgv
  have h1 : (Cond.isRef (.static "java/lang/Throwable" "UNASSIGNED_STACK" "[Ljava/lang/StackTraceElement;")).before #[Value.ref b] s = true := hs _ (by decide +kernel)
  have h2 : (Cond.isRef (.static "java/lang/Throwable" "SUPPRESSED_SENTINEL" "Ljava/util/List;")).before #[Value.ref b] s = true := hs _ (by decide +kernel)
  exact ⟨hfl, va_Zqof (u_551 Z) (u_15 Z) h1 (fun a ha => by show ¬ s.heap.size ≤ a; omega), va_Zqof (u_553 Z) (u_15 Z) h2 (fun a ha => by show ¬ s.heap.size ≤ a; omega)⟩
theorem ws_X {b : Nat} {s : State} (hgv : (Jvm.Cond.and given_1 narrow_1).before #[Value.ref b] s = true) : a_X s := by
  have hs := flat_of_before _ hgv
  have h0 : (Cond.not (.castable "java/lang/IllegalArgumentException" "java/lang/IndexOutOfBoundsException")).before #[Value.ref b] s = true := hs _ (by decide +kernel)
  have h1 : (Cond.not (.castable "java/lang/IllegalArgumentException" "java/util/NoSuchElementException")).before #[Value.ref b] s = true := hs _ (by decide +kernel)
  have h2 : (Cond.not (.castable "java/lang/IndexOutOfBoundsException" "java/util/NoSuchElementException")).before #[Value.ref b] s = true := hs _ (by decide +kernel)
  have h3 : (Cond.not (.castable "java/lang/IndexOutOfBoundsException" "java/lang/IllegalArgumentException")).before #[Value.ref b] s = true := hs _ (by decide +kernel)
  have h4 : (Cond.not (.castable "java/lang/IllegalStateException" "java/util/NoSuchElementException")).before #[Value.ref b] s = true := hs _ (by decide +kernel)
  have h5 : (Cond.not (.castable "java/lang/IllegalStateException" "java/lang/IllegalArgumentException")).before #[Value.ref b] s = true := hs _ (by decide +kernel)
  have h6 : (Cond.not (.castable "java/lang/IllegalStateException" "java/lang/IndexOutOfBoundsException")).before #[Value.ref b] s = true := hs _ (by decide +kernel)
  exact ⟨va_Nc.of h0, va_Nc.of h1, va_Nc.of h2, va_Nc.of h3, va_Nc.of h4, va_Nc.of h5, va_Nc.of h6⟩
theorem whole_start {p : Program} {e : Env} {s : State} {m : MethodId} {below : List Frame} {meth : Method} {c : Code} (l : Launch) (hfl : l.flags = pinnedFlags ++ [noTraceFlag]) {b L : Nat} {xs : Nat → Int32} (hL : L ≤ 1537) (C0 : lw_At p s m meth c b L xs) (htb : c.exceptionTable.toList = []) : W p l e room_1 s m #[Value.ref b] below meth c s.heap [] 0 0 (lw_Z below #[Value.ref b] s) (entryFrame m ([Value.ref b] : List Value).toArray 7) := by
  obtain ⟨hx, hb, hr, hml, hown, hts, hX, hbl, hlocks, hgv⟩ := C0
  have Z : a_Z #[Value.ref b] s := hts
  obtain ⟨D, cI, cL, E⟩ := ws_E Z
  have C : XC s D cI cL p s m meth c "NarrowingPackerLaw" code 7 (some .boolean) [] := ⟨hx, hb, hml, hown, State.WarmedH.refl s, hlocks, E.2, hr, htb⟩
  have kend : ∀ (lv : List (Nat × Value)) (h : AH) (K cells slots : Nat), cells ≤ 601024 → slots ≤ 7293000 → XW s D p l e room_1 s m #[Value.ref b] below meth c (lw_Z below #[Value.ref b] s) 565 lv [.int (zI 1)] h K cells slots := by
    intro lv h K cells slots h1 h2 ls H locs P
    exact va_forget P.2.2.2.2 (W.widen h1 h2 (lw_ret hx hb hr hlocks d_La_law_565))
  have X := law_start l E (ws_F hfl Z hgv) (ws_X hgv) C (e := e) (args := #[Value.ref b]) (below := below) (Q := lw_Z below #[Value.ref b] s) hX hbl hL kend
  rw [lg_entry_eq]
  have hl := lv_entry [Value.ref b] (n := 7) (nle rfl)
  exact X _ s.heap [] ⟨by rw [hml]; exact hl, rfl, fun q _ => rfl, fun k x hx => (by cases hx), fun q hq => (by cases hq)⟩
