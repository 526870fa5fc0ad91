/-! chances, and the writer of bits -/
theorem iA_at {D : va_G} {cI : ClassId} {n q : Nat} {f g : Int → Int} {H : Heap} (e : ∀ j : Int, 0 ≤ j → j < (n : Int) → f j = g j) (h : va_at D vwCl (q, iA cI n f) H) : va_at D vwCl (q, iA cI n g) H := by
  have h1 : H[q]? = some (vp_cell cI (n, .inl (fun j : Nat => zI (f (j : Int))))) := h
  show H[q]? = some (vp_cell cI (n, .inl (fun j : Nat => zI (g (j : Int)))))
  rw [h1, vp_cell_i, vp_cell_i]
  congr 1
  unfold arrV
  congr 2
  funext j
  show Value.int (zI (f ((j.val : Nat) : Int))) = Value.int (zI (g ((j.val : Nat) : Int)))
  rw [e _ (by omega) (by have := j.isLt; omega)]
theorem XW.arr {s0 : State} {D : va_G} {p : Program} {l : Launch} {e : Env} {R : Room} {s : State} {m : MethodId} {args : Array Value} {below : List Frame} {meth : Method} {c : Code} {Q : State → Prop} {pc : Nat} {lv : List (Nat × Value)} {st : List Value} {h : AH} {K cells slots r n : Nat} {cI : ClassId} {f g : Int → Int} (ef : ∀ j : Int, 0 ≤ j → j < (n : Int) → f j = g j)
    (k : XW s0 D p l e R s m args below meth c Q pc lv st (a_up h r (iA cI n g)) K cells slots) : XW s0 D p l e R s m args below meth c Q pc lv st (a_up h r (iA cI n f)) K cells slots := by
  intro ls H locs P
  refine k ls H locs ⟨P.1, P.2.1, P.2.2.1, fun i x hx => ?_, P.2.2.2.2⟩
  by_cases ei : i = r
  · subst ei
    rw [a_up_s] at hx
    cases hx
    exact iA_at ef (P.2.2.2.1 i _ (a_up_s _ _ _))
  · rw [a_up_n ei] at hx
    exact P.2.2.2.1 i x (by rw [a_up_n ei]; exact hx)
def fillZ (f : Int → Int) (v i : Int) : Int → Int := fun j => if 0 ≤ j ∧ j < i then v else f j
theorem fillZ_up (f : Int → Int) (v : Int) {i : Int} (h : 0 ≤ i) : zup (fillZ f v i) i v = fillZ f v (i + 1) := by
  funext j
  unfold zup fillZ
  by_cases e : j = i
  · rw [if_pos e, if_pos (by omega)]
  · rw [if_neg e]
    by_cases e2 : 0 ≤ j ∧ j < i
    · rw [if_pos e2, if_pos (by omega)]
    · rw [if_neg e2, if_neg (by omega)]
set_option maxRecDepth 100000 in
set_option maxHeartbeats 4000000 in
theorem lp_Ar_fill {a0 : Array Value} {s0 : State} {D : va_G} {cI cL : ClassId} (l : Launch) (E : a_E a0 s0 D cI cL) {p : Program} {e : Env} {R : Room} {s : State} {m : MethodId} {args : Array Value} {below : List Frame} {meth : Method} {c : Code} (C : XC s0 D cI cL p s m meth c "java/util/Arrays" prog_23_method_103_code 4 none []) {h : AH} {K r N : Nat} {f : Int → Int} (hN : (N : Int) < 100000) (v : Int) : ∀ (t : Nat) (i : Int), (N : Int) - i = (t : Int) → 0 ≤ i → XW s0 D p l e R s m args below meth c (XQ s0 D 0 0 (PR none (a_up h r (iA cI N (fun _ => v))) K) below s) 5 [(0, .ref (s0.heap.size + r)), (1, .int (zI v)), (2, .int (zI i)), (3, .int (zI (N : Int)))] [] (a_up h r (iA cI N (fillZ f v i))) K 0 0 := by
  intro t
  induction t with
  | zero =>
    intro i hi h0
    refine x_iload_n C d_Ar_fill_5 rfl ?_
    refine x_iload_n C d_Ar_fill_6 rfl ?_
    refine x_icmp_ge C (tgt := 20) d_Ar_fill_7 (by decide) (by omega) (by omega) (by omega) (by omega) (fun c7 => ?_) (fun c7 => ?_)
    · refine XW.arr (g := fun _ => v) (fun j j1 j2 => if_pos ⟨j1, by omega⟩) ?_
      exact x_vret C d_Ar_fill_20 (nle rfl) (nle rfl) ⟨rfl, rfl, rfl⟩
    · exfalso; omega
  | succ t ih =>
    intro i hi h0
    refine x_iload_n C d_Ar_fill_5 rfl ?_
    refine x_iload_n C d_Ar_fill_6 rfl ?_
    refine x_icmp_ge C (tgt := 20) d_Ar_fill_7 (by decide) (by omega) (by omega) (by omega) (by omega) (fun c7 => ?_) (fun c7 => ?_)
    · exfalso; omega
    · refine x_aload_n C d_Ar_fill_10 rfl ?_
      refine x_iload_n C d_Ar_fill_11 rfl ?_
      refine x_iload_n C d_Ar_fill_12 rfl ?_
      refine x_iast C d_Ar_fill_13 (a_up_s _ _ _) (by omega) (by omega) (by omega) ?_
      refine x_iinc C d_Ar_fill_14 (by decide) rfl ?_
      refine x_goto C (tgt := 5) d_Ar_fill_17 (by decide) ?_
      rw [a_up_up, fillZ_up f v h0]
      refine XW.loc (lv' := [(0, .ref (s0.heap.size + r)), (1, .int (zI v)), (2, .int (zI (i + 1))), (3, .int (zI (N : Int)))]) ⟨rfl, rfl, rfl, rfl, trivial⟩ ?_
      exact ih (i + 1) (by omega) (by omega)
set_option maxRecDepth 100000 in
set_option maxHeartbeats 4000000 in
theorem c_Ar_fill {a0 : Array Value} {s0 : State} {D : va_G} {cI cL : ClassId} (l : Launch) (E : a_E a0 s0 D cI cL) {h : AH} {K r N : Nat} {f : Int → Int} (hr : h r = some (iA cI N f)) (hN : (N : Int) < 100000) {v : Int} : XM l s0 D y_Ar_fill prog_23_method_103_code 4 none 0 0 0 [.ref (s0.heap.size + r), .int (zI v)] (h) (K) (PR none (a_up h r (iA cI N (fun _ => v))) K) := by
  refine XM.of (cI := cI) (cL := cL) (own := "java/util/Arrays") (by decide) rfl E.2 (nle rfl) ?_
  intro p e s m below meth c C hn
  refine x_iconst C d_Ar_fill_0 ?_
  refine x_istore_n C d_Ar_fill_1 (by decide) ?_
  refine x_aload_n C d_Ar_fill_2 rfl ?_
  refine x_alen C d_Ar_fill_3 hr ?_
  refine x_istore_n C d_Ar_fill_4 (by decide) ?_
  have e0 : fillZ f v 0 = f := by funext j; unfold fillZ; rw [if_neg (by omega)]
  refine XW.heq (h' := a_up h r (iA cI N (fillZ f v 0))) (by rw [e0]; exact (a_up_id hr).symm) ?_
  refine XW.loc (lv' := [(0, .ref (s0.heap.size + r)), (1, .int (zI v)), (2, .int (zI 0)), (3, .int (zI (N : Int)))]) ⟨rfl, rfl, rfl, rfl, trivial⟩ ?_
  exact lp_Ar_fill l E C hN v N 0 (by omega) (by omega)

abbrev oCh (b r : Nat) : va_E := .inr (1, [.ref (b + r)])
set_option maxRecDepth 100000 in
set_option maxHeartbeats 4000000 in
theorem c_Ch_forget {a0 : Array Value} {s0 : State} {D : va_G} {cI cL : ClassId} (l : Launch) (E : a_E a0 s0 D cI cL) {h : AH} {K a r : Nat} {f : Int → Int} (ha : h a = some (oCh s0.heap.size r)) (hr : h r = some (iA cI 3820 f)) : XM l s0 D y_Ch_forget prog_3_method_2_code 1 none 1 0 0 [.ref (s0.heap.size + a)] (h) (K) (PR none (a_up h r (iA cI 3820 (fun _ => 1024))) K) := by
  refine XM.of (cI := cI) (cL := cL) (own := "NarrowingPacker$Chances") (by decide) rfl E.2 (nle rfl) ?_
  intro p e s m below meth c C hn
  refine x_aload_n C d_Ch_forget_0 rfl ?_
  refine x_get C (G_Ch E.1) 0 (u_183 E.1) d_Ch_forget_1 (by decide) ha rfl ?_
  refine x_sipush C d_Ch_forget_4 (by decide) ?_
  refine x_callSR C (u_379 E.1) (u_365 E.1) (u_366 E.1) (u_14 E.1) d_Ch_forget_7 (c_Ar_fill l E hr (by decide)) nh_Ar_fill ln_Ar_fill rfl (nle rfl) (nle rfl) (nle rfl) (nle rfl) (nle rfl) ?_
  exact x_vret C d_Ch_forget_10 (nle rfl) (nle rfl) ⟨rfl, rfl, rfl⟩

set_option maxRecDepth 100000 in
set_option maxHeartbeats 4000000 in
theorem c_Ch_boundIn {a0 : Array Value} {s0 : State} {D : va_G} {cI cL : ClassId} (l : Launch) (E : a_E a0 s0 D cI cL) {h : AH} {K a r : Nat} {f : Int → Int} (ha : h a = some (oCh s0.heap.size r)) (hr : h r = some (iA cI 3820 f)) {pl : Int} (p1 : 0 ≤ pl) (p2 : pl < 3820) (fb : 0 ≤ f pl ∧ f pl ≤ 2048) {rg : Int} (g1 : 0 ≤ rg) (g2 : rg < 4294967296) : XM l s0 D y_Ch_boundIn prog_3_method_3_code 4 (some .long) 0 0 0 [.ref (s0.heap.size + a), .long (zL rg), .int (zI pl)] (h) (K) (PR (some (.long (zL (rg / 2048 * f pl)))) h K) := by
  refine XM.of (cI := cI) (cL := cL) (own := "NarrowingPacker$Chances") (by decide) rfl E.2 (nle rfl) ?_
  intro p e s m below meth c C hn
  refine x_lload_n C d_Ch_boundIn_0 rfl ?_
  refine x_bipush C d_Ch_boundIn_1 (by decide) ?_
  refine x_lshr C (q := 2048) 11 d_Ch_boundIn_3 rfl rfl (by decide) (by omega) (by omega) ?_
  refine x_aload_n C d_Ch_boundIn_4 rfl ?_
  refine x_get C (G_Ch E.1) 0 (u_183 E.1) d_Ch_boundIn_5 (by decide) ha rfl ?_
  refine x_iload_n C d_Ch_boundIn_8 rfl ?_
  refine x_iald C d_Ch_boundIn_9 hr (by omega) (by omega) (by omega) ?_
  refine x_i2l C d_Ch_boundIn_10 (by omega) (by omega) ?_
  refine x_lmul C d_Ch_boundIn_11 ?_
  exact x_lret C d_Ch_boundIn_12 (nle rfl) (nle rfl) ⟨rfl, rfl, rfl⟩

set_option maxRecDepth 100000 in
set_option maxHeartbeats 4000000 in
theorem c_Ch_learn {a0 : Array Value} {s0 : State} {D : va_G} {cI cL : ClassId} (l : Launch) (E : a_E a0 s0 D cI cL) {h : AH} {K a r : Nat} {f : Int → Int} (ha : h a = some (oCh s0.heap.size r)) (hr : h r = some (iA cI 3820 f)) {pl : Int} (p1 : 0 ≤ pl) (p2 : pl < 3820) (fb : 0 ≤ f pl ∧ f pl ≤ 2048) {bit : Int} (bb : bit = 0 ∨ bit = 1) : XM l s0 D y_Ch_learn prog_3_method_4_code 4 none 0 0 0 [.ref (s0.heap.size + a), .int (zI pl), .int (zI bit)] (h) (K) (PR none (a_up h r (iA cI 3820 (zup f pl (learnZ (f pl) bit)))) K) := by
  refine XM.of (cI := cI) (cL := cL) (own := "NarrowingPacker$Chances") (by decide) rfl E.2 (nle rfl) ?_
  intro p e s m below meth c C hn
  refine x_aload_n C d_Ch_learn_0 rfl ?_
  refine x_get C (G_Ch E.1) 0 (u_183 E.1) d_Ch_learn_1 (by decide) ha rfl ?_
  refine x_iload_n C d_Ch_learn_4 rfl ?_
  refine x_iald C d_Ch_learn_5 hr (by omega) (by omega) (by omega) ?_
  refine x_istore_n C d_Ch_learn_6 (by decide) ?_
  refine x_aload_n C d_Ch_learn_7 rfl ?_
  refine x_get C (G_Ch E.1) 0 (u_183 E.1) d_Ch_learn_8 (by decide) ha rfl ?_
  refine x_iload_n C d_Ch_learn_11 rfl ?_
  refine x_iload_n C d_Ch_learn_12 rfl ?_
  refine x_if_ne C (tgt := 28) d_Ch_learn_13 (by decide) (by omega) (by omega) (fun c13 => ?_) (fun c13 => ?_)
  · refine x_iload_n C d_Ch_learn_28 rfl ?_
    refine x_iload_n C d_Ch_learn_29 rfl ?_
    refine x_iconst C d_Ch_learn_30 ?_
    refine x_ishr C (q := 32) 5 d_Ch_learn_31 rfl rfl (by decide) (by omega) (by omega) ?_
    refine x_isub C d_Ch_learn_32 ?_
    refine x_iast C d_Ch_learn_33 hr (by omega) (by omega) (by omega) ?_
    exact x_vret C d_Ch_learn_34 (nle rfl) (nle rfl) ⟨rfl, by unfold learnZ; split <;> first | rfl | (exfalso; omega), rfl⟩
  · refine x_iload_n C d_Ch_learn_16 rfl ?_
    refine x_sipush C d_Ch_learn_17 (by decide) ?_
    refine x_iload_n C d_Ch_learn_20 rfl ?_
    refine x_isub C d_Ch_learn_21 ?_
    refine x_iconst C d_Ch_learn_22 ?_
    refine x_ishr C (q := 32) 5 d_Ch_learn_23 rfl rfl (by decide) (by omega) (by omega) ?_
    refine x_iadd C d_Ch_learn_24 ?_
    refine x_goto C (tgt := 33) d_Ch_learn_25 (by decide) ?_
    refine x_iast C d_Ch_learn_33 hr (by omega) (by omega) (by omega) ?_
    exact x_vret C d_Ch_learn_34 (nle rfl) (nle rfl) ⟨rfl, by unfold learnZ; split <;> first | rfl | (exfalso; omega), rfl⟩

