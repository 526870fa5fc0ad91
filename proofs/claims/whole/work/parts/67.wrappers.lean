/-! the law's small methods -/
section CallV
variable {a0 : Array Value} {s0 : State} {D : va_G} {cI cL : ClassId} {p : Program} {l : Launch} {e : Env} {R : Room} {s : State} {m : MethodId} {args : Array Value} {below : List Frame} {meth : Method} {c : Code} {Q : State → Prop} {tb : List ExceptionTableEntry}
variable {own : String} {cc : ByteArray} {nL : Nat} {ret : Option FieldType} {pc : Nat} {lv : List (Nat × Value)} {st rest : List Value} {h : AH} {K cells slots : Nat}
variable {y : MethodName} {cc' : ByteArray} {nL' : Nat} {ret' : Option FieldType} {d : Nat} {av : List Value} {Post : AO → AH → Nat → Prop}
variable {ci : Nat} {T : u_T} {N : Nat} {ty : Nat → FieldType} {a : Nat} {fs argsL : List Value} {index : Nat}
theorem x_callVC (C : XC s0 D cI cL p s m meth c own cc nL ret tb) (G : a_cl a0 s0 ci y.cls T N ty) (w1 : (Cond.methodLink own index y).before a0 s0 = true) (w2 : (Cond.instanceMethod y).before a0 s0 = true) (w3 : (Cond.selects y.cls y y).before a0 s0 = true) (wc : (Cond.code y cc' nL' ret').before a0 s0 = true) (wi : (Cond.initialized y.cls).before a0 s0 = true) (hd : decode cc pc = .ok (.invokevirtual index, 3)) (hM : XMT l s0 D y cc' nL' ret' d (.ref (s0.heap.size + a) :: argsL) h K Post) (hy : y.cls ≠ "java/lang/invoke/MethodHandle" ∧ y.cls ≠ "java/lang/invoke/VarHandle") (hlen : (parseMethodDescriptor y.desc).map (fun d => d.parameters.length) = some argsL.length) (hst : st = argsL.reverse ++ .ref (s0.heap.size + a) :: rest) (hh : h a = some (.inr (ci, fs))) (hr : (rest.map fun v => v.category).sum ≤ 8) (hf : d + 1 ≤ R.frames) (hl : 8 + (nL' + 11) + 38 * d ≤ R.locals) (hc : cells + 1 ≤ R.cells) (hs : slots + 6 ≤ R.slots) (kk : ∀ (v : Option Value) (h' : AH) (K' : Nat), Post (.inl v) h' K' → XW s0 D p l e R s m args below meth c Q (pc + 3) lv (v.toList ++ rest) h' K' cells slots)
    (kt : ∀ (Cn : String) (h' : AH) (K' : Nat), Post (.inr Cn) h' K' → ∃ (pre post : List (Nat × Nat × Nat × Nat)) (b1 b2 hp ct : Nat), hQ tb = pre ++ (b1, b2, hp, ct) :: post ∧ hP own a0 s0 Cn pre pc ∧ b1 ≤ pc ∧ pc < b2 ∧ ct ≠ 0 ∧ (Cond.classLink own ct Cn).before a0 s0 = true ∧ (Cond.castable Cn Cn).before a0 s0 = true ∧ ∀ x : Nat, XW s0 D p l e R s m args below meth c Q hp lv [.ref x] h' K' (cells + 1) (slots + 6)) : XW s0 D p l e R s m args below meth c Q pc lv st h K cells slots := by
  refine x_goU C (fun ls H locs P => ?_) hd hM wc wi hr hf hl hc hs kk (fun Cn h' K' q ls locs x T' hz w' ht X' hlv hL => ?_)
  · have hP : va_P D vwCl [(s0.heap.size + a, .inr (ci, fs))] H := by
      intro j q hj
      cases j with
      | zero => cases hj; exact P.2.2.2.1 a _ hh
      | succ j => cases hj
    obtain ⟨cell, g1, g2, g3⟩ := va_recv C.2.2.2.2.2.2.1 hP G.1 (q0 := 0) rfl
    exact i_V C.1 C.2.2.2.1 (x_w C rfl w1) (x_w C rfl w2) (x_w C rfl w3) (x_w C rfl wc) hy g1 g2 g3 rfl hlen hst (by rw [C.2.1]; exact hd)
  · obtain ⟨pre, post, b1, b2, hp, ct, k1, k2, k3, k4, k5, k6, k7, k8⟩ := kt Cn h' K' q
    exact x_catch C k1 k2 k3 k4 k5 k6 k7 hz w' ht X' hlv hL (k8 x)
end CallV
/-- no exception of the four is one of another -/
def a_X (s0 : State) : Prop := va_Nc "java/lang/IllegalArgumentException" "java/lang/IndexOutOfBoundsException" s0 ∧ va_Nc "java/lang/IllegalArgumentException" "java/util/NoSuchElementException" s0 ∧ va_Nc "java/lang/IndexOutOfBoundsException" "java/util/NoSuchElementException" s0 ∧ va_Nc "java/lang/IndexOutOfBoundsException" "java/lang/IllegalArgumentException" s0 ∧ va_Nc "java/lang/IllegalStateException" "java/util/NoSuchElementException" s0 ∧ va_Nc "java/lang/IllegalStateException" "java/lang/IllegalArgumentException" s0 ∧ va_Nc "java/lang/IllegalStateException" "java/lang/IndexOutOfBoundsException" s0

set_option maxRecDepth 100000 in
set_option maxHeartbeats 4000000 in
theorem c_La_pack {a0 : Array Value} {s0 : State} {D : va_G} {cI cL : ClassId} (l : Launch) (E : a_E a0 s0 D cI cL) (NX : a_X s0) {h : AH} {K : Nat} {PP : AO → AH → Nat → Prop} {fs : List Value} {f : Int → Int}  (h0 : h 0 = some (.inr (10, fs))) (hM : XMT l s0 D y_Np_pack prog_1_method_4_code 1 (some .int) 7 [.ref (s0.heap.size + 0)] h K PP) (hret : ∀ v h' K', PP (.inl v) h' K' → ∃ n, v = some (.int (zI n)) ∧ -2147483648 ≤ n ∧ n < 2147483648 ∧ h' 48 = some (lA cL 1 f)) (hthr : ∀ Cn h' K', PP (.inr Cn) h' K' → Cn = "java/lang/IllegalStateException") : XMH l s0 D y_La_pack method_3_code 3 (some .int) [(0, 8, 11, 13)] 8 1 6 [.ref (s0.heap.size + 0), .ref (s0.heap.size + 48)] h K (fun o h' K' => (∃ n g1, (-2147483648 ≤ n ∧ n < 2147483648) ∧ PP (.inl (some (.int (zI n)))) g1 K' ∧ o = .inl (some (.int (zI 0))) ∧ h' = a_up g1 48 (lA cL 1 (zup f 0 n))) ∨ (PP (.inr "java/lang/IllegalStateException") h' K' ∧ o = .inl (some (.int (zI 1))))) := by
  refine XMH.of (cI := cI) (cL := cL) (own := "NarrowingPackerLaw") (by decide) rfl E.2 (nle rfl) ?_
  intro p e s m below meth c tb htb C
  refine x_aload_n C d_La_pack_0 rfl ?_
  refine x_iconst C d_La_pack_1 ?_
  refine x_aload_n C d_La_pack_2 rfl ?_
  refine x_callVC C (G_Np E.1) (u_355 E.1) (u_356 E.1) (u_357 E.1) (u_358 E.1) (u_1 E.1) d_La_pack_3 hM nh_Np_pack ln_Np_pack rfl h0 (nle rfl) (nle rfl) (nle rfl) (nle rfl) (nle rfl) (fun v h' K' q => ?_) (fun Cn h' K' q => ?_)
  · obtain ⟨n, e1, n1, n2, e48⟩ := hret v h' K' q
    subst e1
    refine x_i2l C d_La_pack_6 (by omega) (by omega) ?_
    refine x_last C d_La_pack_7 e48 (by omega) (by omega) (by omega) ?_
    refine x_goto C (tgt := 14) d_La_pack_8 (by decide) ?_
    refine x_iconst C d_La_pack_14 ?_
    exact x_iret C d_La_pack_15 (nle rfl) (nle rfl) (Or.inl ⟨n, h', ⟨n1, n2⟩, q, rfl, rfl⟩)
  · have ht := hthr Cn h' K' q
    subst ht
    refine ⟨[], [], 0, 8, 11, 13, htb, ?_, by decide, by decide, by decide, u_354 E.1, u_526 E.1, fun xa => ?_⟩
    · intro y hy
      cases hy
    · refine x_astore_n C d_La_pack_11 (by decide) ?_
      refine x_iconst C d_La_pack_12 ?_
      exact x_iret C d_La_pack_13 (nle rfl) (nle rfl) (Or.inr ⟨q, rfl⟩)
set_option maxRecDepth 100000 in
set_option maxHeartbeats 4000000 in
theorem c_La_put {a0 : Array Value} {s0 : State} {D : va_G} {cI cL : ClassId} (l : Launch) (E : a_E a0 s0 D cI cL) (NX : a_X s0) {h : AH} {K : Nat} {PP : AO → AH → Nat → Prop} {fs : List Value} {f : Int → Int} {i b : Int} (h0 : h 0 = some (.inr (10, fs))) (hM : XMT l s0 D y_Np_put prog_1_method_11_code 4 (some .int) 6 [.ref (s0.heap.size + 0), .int (zI i), .int (zI b)] h K PP) (hret : ∀ v h' K', PP (.inl v) h' K' → ∃ n, v = some (.int (zI n)) ∧ -2147483648 ≤ n ∧ n < 2147483648 ∧ h' 48 = some (lA cL 1 f)) (hthr : ∀ Cn h' K', PP (.inr Cn) h' K' → Cn = "java/lang/IndexOutOfBoundsException" ∨ Cn = "java/lang/IllegalArgumentException") : XMH l s0 D y_La_put method_4_code 5 (some .int) [(0, 10, 13, 19), (0, 10, 17, 21)] 7 1 6 [.ref (s0.heap.size + 0), .int (zI i), .int (zI b), .ref (s0.heap.size + 48)] h K (fun o h' K' => (∃ n g1, (-2147483648 ≤ n ∧ n < 2147483648) ∧ PP (.inl (some (.int (zI n)))) g1 K' ∧ o = .inl (some (.int (zI 0))) ∧ h' = a_up g1 48 (lA cL 1 (zup f 0 n))) ∨ (PP (.inr "java/lang/IndexOutOfBoundsException") h' K' ∧ o = .inl (some (.int (zI 1)))) ∨ (PP (.inr "java/lang/IllegalArgumentException") h' K' ∧ o = .inl (some (.int (zI 2))))) := by
  refine XMH.of (cI := cI) (cL := cL) (own := "NarrowingPackerLaw") (by decide) rfl E.2 (nle rfl) ?_
  intro p e s m below meth c tb htb C
  refine x_aload_n C d_La_put_0 rfl ?_
  refine x_iconst C d_La_put_1 ?_
  refine x_aload_n C d_La_put_2 rfl ?_
  refine x_iload_n C d_La_put_3 rfl ?_
  refine x_iload_n C d_La_put_4 rfl ?_
  refine x_callVC C (G_Np E.1) (u_610 E.1) (u_611 E.1) (u_612 E.1) (u_613 E.1) (u_1 E.1) d_La_put_5 hM nh_Np_put ln_Np_put rfl h0 (nle rfl) (nle rfl) (nle rfl) (nle rfl) (nle rfl) (fun v h' K' q => ?_) (fun Cn h' K' q => ?_)
  · obtain ⟨n, e1, n1, n2, e48⟩ := hret v h' K' q
    subst e1
    refine x_i2l C d_La_put_8 (by omega) (by omega) ?_
    refine x_last C d_La_put_9 e48 (by omega) (by omega) (by omega) ?_
    refine x_goto C (tgt := 21) d_La_put_10 (by decide) ?_
    refine x_iconst C d_La_put_21 ?_
    exact x_iret C d_La_put_22 (nle rfl) (nle rfl) (Or.inl ⟨n, h', ⟨n1, n2⟩, q, rfl, rfl⟩)
  · have ht := hthr Cn h' K' q
    rcases ht with rfl | rfl
    · skip
      refine ⟨[], [(0, 10, 17, 21)], 0, 10, 13, 19, htb, ?_, by decide, by decide, by decide, u_608 E.1, u_617 E.1, fun xa => ?_⟩
      · intro y hy
        cases hy
      · refine x_astore C d_La_put_13 (by decide) ?_
        refine x_iconst C d_La_put_15 ?_
        exact x_iret C d_La_put_16 (nle rfl) (nle rfl) (Or.inr (Or.inl ⟨q, rfl⟩))
    · skip
      refine ⟨[(0, 10, 13, 19)], [], 0, 10, 17, 21, htb, ?_, by decide, by decide, by decide, u_609 E.1, u_634 E.1, fun xa => ?_⟩
      · intro y hy
        rcases List.mem_cons.mp hy with hy | hy
        · subst hy; exact ⟨by decide, by decide, by decide, "java/lang/IndexOutOfBoundsException", u_608 E.1, NX.1⟩
        · cases hy
      · refine x_astore C d_La_put_17 (by decide) ?_
        refine x_iconst C d_La_put_19 ?_
        exact x_iret C d_La_put_20 (nle rfl) (nle rfl) (Or.inr (Or.inr ⟨q, rfl⟩))
set_option maxRecDepth 100000 in
set_option maxHeartbeats 4000000 in
theorem c_La_cut {a0 : Array Value} {s0 : State} {D : va_G} {cI cL : ClassId} (l : Launch) (E : a_E a0 s0 D cI cL) (NX : a_X s0) {h : AH} {K : Nat} {PP : AO → AH → Nat → Prop} {fs : List Value} {f : Int → Int} {i : Int} (h0 : h 0 = some (.inr (10, fs))) (hM : XMT l s0 D y_Np_cut prog_1_method_12_code 2 (some .int) 6 [.ref (s0.heap.size + 0), .int (zI i)] h K PP) (hret : ∀ v h' K', PP (.inl v) h' K' → ∃ n, v = some (.int (zI n)) ∧ -2147483648 ≤ n ∧ n < 2147483648 ∧ h' 48 = some (lA cL 1 f)) (hthr : ∀ Cn h' K', PP (.inr Cn) h' K' → Cn = "java/lang/IllegalArgumentException") : XMH l s0 D y_La_cut method_5_code 4 (some .int) [(0, 9, 12, 21)] 7 1 6 [.ref (s0.heap.size + 0), .int (zI i), .ref (s0.heap.size + 48)] h K (fun o h' K' => (∃ n g1, (-2147483648 ≤ n ∧ n < 2147483648) ∧ PP (.inl (some (.int (zI n)))) g1 K' ∧ o = .inl (some (.int (zI 0))) ∧ h' = a_up g1 48 (lA cL 1 (zup f 0 n))) ∨ (PP (.inr "java/lang/IllegalArgumentException") h' K' ∧ o = .inl (some (.int (zI 1))))) := by
  refine XMH.of (cI := cI) (cL := cL) (own := "NarrowingPackerLaw") (by decide) rfl E.2 (nle rfl) ?_
  intro p e s m below meth c tb htb C
  refine x_aload_n C d_La_cut_0 rfl ?_
  refine x_iconst C d_La_cut_1 ?_
  refine x_aload_n C d_La_cut_2 rfl ?_
  refine x_iload_n C d_La_cut_3 rfl ?_
  refine x_callVC C (G_Np E.1) (u_651 E.1) (u_652 E.1) (u_653 E.1) (u_654 E.1) (u_1 E.1) d_La_cut_4 hM nh_Np_cut ln_Np_cut rfl h0 (nle rfl) (nle rfl) (nle rfl) (nle rfl) (nle rfl) (fun v h' K' q => ?_) (fun Cn h' K' q => ?_)
  · obtain ⟨n, e1, n1, n2, e48⟩ := hret v h' K' q
    subst e1
    refine x_i2l C d_La_cut_7 (by omega) (by omega) ?_
    refine x_last C d_La_cut_8 e48 (by omega) (by omega) (by omega) ?_
    refine x_goto C (tgt := 15) d_La_cut_9 (by decide) ?_
    refine x_iconst C d_La_cut_15 ?_
    exact x_iret C d_La_cut_16 (nle rfl) (nle rfl) (Or.inl ⟨n, h', ⟨n1, n2⟩, q, rfl, rfl⟩)
  · have ht := hthr Cn h' K' q
    subst ht
    refine ⟨[], [], 0, 9, 12, 21, htb, ?_, by decide, by decide, by decide, u_609 E.1, u_634 E.1, fun xa => ?_⟩
    · intro y hy
      cases hy
    · refine x_astore_n C d_La_cut_12 (by decide) ?_
      refine x_iconst C d_La_cut_13 ?_
      exact x_iret C d_La_cut_14 (nle rfl) (nle rfl) (Or.inr ⟨q, rfl⟩)
set_option maxRecDepth 100000 in
set_option maxHeartbeats 4000000 in
theorem c_La_unpack {a0 : Array Value} {s0 : State} {D : va_G} {cI cL : ClassId} (l : Launch) (E : a_E a0 s0 D cI cL) (NX : a_X s0) {h : AH} {K : Nat} {PP : AO → AH → Nat → Prop} {fs : List Value} {f : Int → Int}  (h0 : h 0 = some (.inr (10, fs))) (hM : XMT l s0 D y_Np_unpack prog_1_method_13_code 2 (some .int) 12 [.ref (s0.heap.size + 0)] h K PP) (hret : ∀ v h' K', PP (.inl v) h' K' → ∃ n, v = some (.int (zI n)) ∧ -2147483648 ≤ n ∧ n < 2147483648 ∧ h' 48 = some (lA cL 1 f)) (hthr : ∀ Cn h' K', PP (.inr Cn) h' K' → Cn = "java/util/NoSuchElementException" ∨ Cn = "java/lang/IllegalArgumentException" ∨ Cn = "java/lang/IndexOutOfBoundsException" ∨ Cn = "java/lang/IllegalStateException") : XMH l s0 D y_La_unpack method_6_code 3 (some .int) [(0, 8, 11, 30), (0, 8, 14, 21), (0, 8, 17, 19), (0, 8, 20, 13)] 13 1 6 [.ref (s0.heap.size + 0), .ref (s0.heap.size + 48)] h K (fun o h' K' => (∃ n g1, (-2147483648 ≤ n ∧ n < 2147483648) ∧ PP (.inl (some (.int (zI n)))) g1 K' ∧ o = .inl (some (.int (zI 0))) ∧ h' = a_up g1 48 (lA cL 1 (zup f 0 n))) ∨ (PP (.inr "java/util/NoSuchElementException") h' K' ∧ o = .inl (some (.int (zI 1)))) ∨ (PP (.inr "java/lang/IllegalArgumentException") h' K' ∧ o = .inl (some (.int (zI 2)))) ∨ (PP (.inr "java/lang/IndexOutOfBoundsException") h' K' ∧ o = .inl (some (.int (zI 3)))) ∨ (PP (.inr "java/lang/IllegalStateException") h' K' ∧ o = .inl (some (.int (zI 4))))) := by
  refine XMH.of (cI := cI) (cL := cL) (own := "NarrowingPackerLaw") (by decide) rfl E.2 (nle rfl) ?_
  intro p e s m below meth c tb htb C
  refine x_aload_n C d_La_unpack_0 rfl ?_
  refine x_iconst C d_La_unpack_1 ?_
  refine x_aload_n C d_La_unpack_2 rfl ?_
  refine x_callVC C (G_Np E.1) (u_660 E.1) (u_661 E.1) (u_662 E.1) (u_663 E.1) (u_1 E.1) d_La_unpack_3 hM nh_Np_unpack ln_Np_unpack rfl h0 (nle rfl) (nle rfl) (nle rfl) (nle rfl) (nle rfl) (fun v h' K' q => ?_) (fun Cn h' K' q => ?_)
  · obtain ⟨n, e1, n1, n2, e48⟩ := hret v h' K' q
    subst e1
    refine x_i2l C d_La_unpack_6 (by omega) (by omega) ?_
    refine x_last C d_La_unpack_7 e48 (by omega) (by omega) (by omega) ?_
    refine x_goto C (tgt := 23) d_La_unpack_8 (by decide) ?_
    refine x_iconst C d_La_unpack_23 ?_
    exact x_iret C d_La_unpack_24 (nle rfl) (nle rfl) (Or.inl ⟨n, h', ⟨n1, n2⟩, q, rfl, rfl⟩)
  · have ht := hthr Cn h' K' q
    rcases ht with rfl | rfl | rfl | rfl
    · skip
      refine ⟨[], [(0, 8, 14, 21), (0, 8, 17, 19), (0, 8, 20, 13)], 0, 8, 11, 30, htb, ?_, by decide, by decide, by decide, u_659 E.1, u_678 E.1, fun xa => ?_⟩
      · intro y hy
        cases hy
      · refine x_astore_n C d_La_unpack_11 (by decide) ?_
        refine x_iconst C d_La_unpack_12 ?_
        exact x_iret C d_La_unpack_13 (nle rfl) (nle rfl) (Or.inr (Or.inl ⟨q, rfl⟩))
    · skip
      refine ⟨[(0, 8, 11, 30)], [(0, 8, 17, 19), (0, 8, 20, 13)], 0, 8, 14, 21, htb, ?_, by decide, by decide, by decide, u_609 E.1, u_634 E.1, fun xa => ?_⟩
      · intro y hy
        rcases List.mem_cons.mp hy with hy | hy
        · subst hy; exact ⟨by decide, by decide, by decide, "java/util/NoSuchElementException", u_659 E.1, NX.2.1⟩
        · cases hy
      · refine x_astore_n C d_La_unpack_14 (by decide) ?_
        refine x_iconst C d_La_unpack_15 ?_
        exact x_iret C d_La_unpack_16 (nle rfl) (nle rfl) (Or.inr (Or.inr (Or.inl ⟨q, rfl⟩)))
    · skip
      refine ⟨[(0, 8, 11, 30), (0, 8, 14, 21)], [(0, 8, 20, 13)], 0, 8, 17, 19, htb, ?_, by decide, by decide, by decide, u_608 E.1, u_617 E.1, fun xa => ?_⟩
      · intro y hy
        rcases List.mem_cons.mp hy with hy | hy
        · subst hy; exact ⟨by decide, by decide, by decide, "java/util/NoSuchElementException", u_659 E.1, NX.2.2.1⟩
        · skip
          rcases List.mem_cons.mp hy with hy | hy
          · subst hy; exact ⟨by decide, by decide, by decide, "java/lang/IllegalArgumentException", u_609 E.1, NX.2.2.2.1⟩
          · cases hy
      · refine x_astore_n C d_La_unpack_17 (by decide) ?_
        refine x_iconst C d_La_unpack_18 ?_
        exact x_iret C d_La_unpack_19 (nle rfl) (nle rfl) (Or.inr (Or.inr (Or.inr (Or.inl ⟨q, rfl⟩))))
    · skip
      refine ⟨[(0, 8, 11, 30), (0, 8, 14, 21), (0, 8, 17, 19)], [], 0, 8, 20, 13, htb, ?_, by decide, by decide, by decide, u_354 E.1, u_526 E.1, fun xa => ?_⟩
      · intro y hy
        rcases List.mem_cons.mp hy with hy | hy
        · subst hy; exact ⟨by decide, by decide, by decide, "java/util/NoSuchElementException", u_659 E.1, NX.2.2.2.2.1⟩
        · skip
          rcases List.mem_cons.mp hy with hy | hy
          · subst hy; exact ⟨by decide, by decide, by decide, "java/lang/IllegalArgumentException", u_609 E.1, NX.2.2.2.2.2.1⟩
          · skip
            rcases List.mem_cons.mp hy with hy | hy
            · subst hy; exact ⟨by decide, by decide, by decide, "java/lang/IndexOutOfBoundsException", u_608 E.1, NX.2.2.2.2.2.2⟩
            · cases hy
      · refine x_astore_n C d_La_unpack_20 (by decide) ?_
        refine x_iconst C d_La_unpack_21 ?_
        exact x_iret C d_La_unpack_22 (nle rfl) (nle rfl) (Or.inr (Or.inr (Or.inr (Or.inr ⟨q, rfl⟩))))
