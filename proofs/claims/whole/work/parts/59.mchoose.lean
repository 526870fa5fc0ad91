/-! the reference: beginning, choosing -/
theorem beg_4 (bk : Int → Int) (j : Int) (j1 : 0 ≤ j) (j2 : j < ((4 : Nat) : Int)) : zup (zup (zup (zup bk 0 1) 1 1) 2 1) 3 1 j = (fun _ => 1) j := by
  unfold zup
  show (if j = 3 then 1 else if j = 2 then 1 else if j = 1 then 1 else if j = 0 then 1 else bk j) = 1
  repeat' split
  all_goals omega
theorem beg_h {b : Nat} {cI : ClassId} {h h1 : AH} {κ : Kp} {w : Mw} {B : Int → Int} (e1 : h1 33 = some (oMo b κ w.1 w.2.1.2.1 w.2.1.2.2.2 w.2.2.2.1 w.2.2.2.2)) (e2 : h1 41 = some (iA cI 3948 (fun j => w.1.2.2.1 (inv j)))) (e3 : h1 42 = some (iA cI 1600 w.1.2.2.2.2.2.1)) (e4 : h1 43 = some (iA cI 120 w.2.1.1)) (e5 : h1 44 = some (iA cI 4 B)) (e6 : h1 45 = some (iA cI 121 w.2.2.1.1)) (e7 : h1 46 = some (iA cI 121 w.2.2.1.2.1)) (e8 : h1 47 = some (iA cI 121 w.2.2.1.2.2))
    (o : ∀ q, q ≠ 33 → q ≠ 41 → q ≠ 42 → q ≠ 43 → q ≠ 44 → q ≠ 45 → q ≠ 46 → q ≠ 47 → h1 q = h q) : h1 = a_up (sM b cI h κ w) 44 (iA cI 4 B) := by
  funext q
  by_cases q5 : q = 44
  · subst q5; exact e5
  rw [a_up_n q5]
  have h2 : a_up h1 44 (iA cI 4 w.2.1.2.2.1) = sM b cI h κ w := sM_eq (by rw [a_up_n (by decide)]; exact e1) (by rw [a_up_n (by decide)]; exact e2) (by rw [a_up_n (by decide)]; exact e3) (by rw [a_up_n (by decide)]; exact e4) (a_up_s _ _ _) (by rw [a_up_n (by decide)]; exact e6) (by rw [a_up_n (by decide)]; exact e7) (by rw [a_up_n (by decide)]; exact e8) (fun q q1 q2 q3 q4 q5 q6 q7 q8 => by rw [a_up_n q5]; exact o q q1 q2 q3 q4 q5 q6 q7 q8)
  rw [← h2, a_up_n q5]
set_option maxRecDepth 100000 in
set_option maxHeartbeats 4000000 in
theorem t34_Mo_begin {a0 : Array Value} {s0 : State} {D : va_G} {cI cL : ClassId} (l : Launch) (E : a_E a0 s0 D cI cL) {p : Program} {e : Env} {R : Room} {s : State} {m : MethodId} {args : Array Value} {below : List Frame} {meth : Method} {c : Code} (C : XC s0 D cI cL p s m meth c "NarrowingPackerModel" prog_13_method_6_code 3 none []) {h : AH} {K : Nat} {κ : Kp} {pa rg pl cd nx n st cnt : Int} {G b bk : Int → Int} {r : T3 × Cn4} : XW s0 D p l e R s m args below meth c (XQ s0 D 0 0 (PR none (sM s0.heap.size cI h κ (((pa, 0, fun _ => 1024, 4294967295, 4, (zup (zup (zup (zup G 0 0) 1 0) 2 0) 3 0), 0, 0) : Cd), ((b, 0, fun _ => 1, 0), r.1, 0, r.2))) K) below s) 34 [(0, .ref (s0.heap.size + 33))] [] (sM s0.heap.size cI h κ (((pa, 0, fun _ => 1024, rg, pl, G, cd, nx) : Cd), ((b, n, bk, st), r.1, cnt, r.2))) K 0 0 := by
  refine x_aload_n C d_Mo_begin_34 rfl ?_
  refine x_ldc2 C (v := 4294967295) (u_890 E.1) d_Mo_begin_35 ?_
  refine x_put C (G_Mo E.1) 17 (u_781 E.1) d_Mo_begin_38 (by decide) rfl (by rfl) rfl rfl (nle rfl) ?_
  refine x_aload_n C d_Mo_begin_41 rfl ?_
  refine x_iconst C d_Mo_begin_42 ?_
  refine x_put C (G_Mo E.1) 22 (u_786 E.1) d_Mo_begin_43 (by decide) rfl (by rfl) rfl rfl (nle rfl) ?_
  refine x_aload_n C d_Mo_begin_46 rfl ?_
  refine x_iconst C d_Mo_begin_47 ?_
  refine x_put C (G_Mo E.1) 23 (u_787 E.1) d_Mo_begin_48 (by decide) rfl (by rfl) rfl rfl (nle rfl) ?_
  refine x_aload_n C d_Mo_begin_51 rfl ?_
  refine x_iconst C d_Mo_begin_52 ?_
  refine x_put C (G_Mo E.1) 26 (u_790 E.1) d_Mo_begin_53 (by decide) rfl (by rfl) rfl rfl (nle rfl) ?_
  refine x_iconst C d_Mo_begin_56 ?_
  refine x_istore_n C d_Mo_begin_57 (by decide) ?_
  refine XW.loc (lv' := [(0, .ref (s0.heap.size + 33)), (2, .int (zI 0))]) ⟨rfl, rfl, trivial⟩ ?_
  refine x_iload_n C d_Mo_begin_58 rfl ?_
  refine x_iconst C d_Mo_begin_59 ?_
  refine x_icmp_ge C (tgt := 83) d_Mo_begin_60 (by decide) (by omega) (by omega) (by omega) (by omega) (fun c60 => ?_) (fun c60 => ?_)
  · exfalso; omega
  · refine x_aload_n C d_Mo_begin_63 rfl ?_
    refine x_get C (G_Mo E.1) 25 (u_789 E.1) d_Mo_begin_64 (by decide) (by rfl) rfl ?_
    refine x_iload_n C d_Mo_begin_67 rfl ?_
    refine x_iconst C d_Mo_begin_68 ?_
    refine x_iast C d_Mo_begin_69 (show _ = some (iA cI 4 bk) from rfl) (by omega) (by omega) (by omega) ?_
    refine x_aload_n C d_Mo_begin_70 rfl ?_
    refine x_get C (G_Mo E.1) 19 (u_783 E.1) d_Mo_begin_71 (by decide) (by rfl) rfl ?_
    refine x_iload_n C d_Mo_begin_74 rfl ?_
    refine x_iconst C d_Mo_begin_75 ?_
    refine x_iast C d_Mo_begin_76 (show _ = some (iA cI 1600 G) from rfl) (by omega) (by omega) (by omega) ?_
    refine x_iinc C d_Mo_begin_77 (by decide) rfl ?_
    refine x_goto C (tgt := 58) d_Mo_begin_80 (by decide) ?_
    refine XW.loc (lv' := [(0, .ref (s0.heap.size + 33)), (2, .int (zI 1))]) ⟨rfl, rfl, trivial⟩ ?_
    refine x_iload_n C d_Mo_begin_58 rfl ?_
    refine x_iconst C d_Mo_begin_59 ?_
    refine x_icmp_ge C (tgt := 83) d_Mo_begin_60 (by decide) (by omega) (by omega) (by omega) (by omega) (fun c60 => ?_) (fun c60 => ?_)
    · exfalso; omega
    · refine x_aload_n C d_Mo_begin_63 rfl ?_
      refine x_get C (G_Mo E.1) 25 (u_789 E.1) d_Mo_begin_64 (by decide) (by rfl) rfl ?_
      refine x_iload_n C d_Mo_begin_67 rfl ?_
      refine x_iconst C d_Mo_begin_68 ?_
      refine x_iast C d_Mo_begin_69 (show _ = some (iA cI 4 (zup bk 0 1)) from rfl) (by omega) (by omega) (by omega) ?_
      refine x_aload_n C d_Mo_begin_70 rfl ?_
      refine x_get C (G_Mo E.1) 19 (u_783 E.1) d_Mo_begin_71 (by decide) (by rfl) rfl ?_
      refine x_iload_n C d_Mo_begin_74 rfl ?_
      refine x_iconst C d_Mo_begin_75 ?_
      refine x_iast C d_Mo_begin_76 (show _ = some (iA cI 1600 (zup G 0 0)) from rfl) (by omega) (by omega) (by omega) ?_
      refine x_iinc C d_Mo_begin_77 (by decide) rfl ?_
      refine x_goto C (tgt := 58) d_Mo_begin_80 (by decide) ?_
      refine XW.loc (lv' := [(0, .ref (s0.heap.size + 33)), (2, .int (zI 2))]) ⟨rfl, rfl, trivial⟩ ?_
      refine x_iload_n C d_Mo_begin_58 rfl ?_
      refine x_iconst C d_Mo_begin_59 ?_
      refine x_icmp_ge C (tgt := 83) d_Mo_begin_60 (by decide) (by omega) (by omega) (by omega) (by omega) (fun c60 => ?_) (fun c60 => ?_)
      · exfalso; omega
      · refine x_aload_n C d_Mo_begin_63 rfl ?_
        refine x_get C (G_Mo E.1) 25 (u_789 E.1) d_Mo_begin_64 (by decide) (by rfl) rfl ?_
        refine x_iload_n C d_Mo_begin_67 rfl ?_
        refine x_iconst C d_Mo_begin_68 ?_
        refine x_iast C d_Mo_begin_69 (show _ = some (iA cI 4 (zup (zup bk 0 1) 1 1)) from rfl) (by omega) (by omega) (by omega) ?_
        refine x_aload_n C d_Mo_begin_70 rfl ?_
        refine x_get C (G_Mo E.1) 19 (u_783 E.1) d_Mo_begin_71 (by decide) (by rfl) rfl ?_
        refine x_iload_n C d_Mo_begin_74 rfl ?_
        refine x_iconst C d_Mo_begin_75 ?_
        refine x_iast C d_Mo_begin_76 (show _ = some (iA cI 1600 (zup (zup G 0 0) 1 0)) from rfl) (by omega) (by omega) (by omega) ?_
        refine x_iinc C d_Mo_begin_77 (by decide) rfl ?_
        refine x_goto C (tgt := 58) d_Mo_begin_80 (by decide) ?_
        refine XW.loc (lv' := [(0, .ref (s0.heap.size + 33)), (2, .int (zI 3))]) ⟨rfl, rfl, trivial⟩ ?_
        refine x_iload_n C d_Mo_begin_58 rfl ?_
        refine x_iconst C d_Mo_begin_59 ?_
        refine x_icmp_ge C (tgt := 83) d_Mo_begin_60 (by decide) (by omega) (by omega) (by omega) (by omega) (fun c60 => ?_) (fun c60 => ?_)
        · exfalso; omega
        · refine x_aload_n C d_Mo_begin_63 rfl ?_
          refine x_get C (G_Mo E.1) 25 (u_789 E.1) d_Mo_begin_64 (by decide) (by rfl) rfl ?_
          refine x_iload_n C d_Mo_begin_67 rfl ?_
          refine x_iconst C d_Mo_begin_68 ?_
          refine x_iast C d_Mo_begin_69 (show _ = some (iA cI 4 (zup (zup (zup bk 0 1) 1 1) 2 1)) from rfl) (by omega) (by omega) (by omega) ?_
          refine x_aload_n C d_Mo_begin_70 rfl ?_
          refine x_get C (G_Mo E.1) 19 (u_783 E.1) d_Mo_begin_71 (by decide) (by rfl) rfl ?_
          refine x_iload_n C d_Mo_begin_74 rfl ?_
          refine x_iconst C d_Mo_begin_75 ?_
          refine x_iast C d_Mo_begin_76 (show _ = some (iA cI 1600 (zup (zup (zup G 0 0) 1 0) 2 0)) from rfl) (by omega) (by omega) (by omega) ?_
          refine x_iinc C d_Mo_begin_77 (by decide) rfl ?_
          refine x_goto C (tgt := 58) d_Mo_begin_80 (by decide) ?_
          refine XW.loc (lv' := [(0, .ref (s0.heap.size + 33)), (2, .int (zI 4))]) ⟨rfl, rfl, trivial⟩ ?_
          refine x_iload_n C d_Mo_begin_58 rfl ?_
          refine x_iconst C d_Mo_begin_59 ?_
          refine x_icmp_ge C (tgt := 83) d_Mo_begin_60 (by decide) (by omega) (by omega) (by omega) (by omega) (fun c60 => ?_) (fun c60 => ?_)
          · refine XW.heq (h' := a_up (sM s0.heap.size cI h κ (((pa, 0, fun _ => 1024, 4294967295, pl, (zup (zup (zup (zup G 0 0) 1 0) 2 0) 3 0), cd, nx) : Cd), ((b, 0, fun _ => 1, 0), r.1, 0, r.2))) 44 (iA cI 4 (zup (zup (zup (zup bk 0 1) 1 1) 2 1) 3 1))) (beg_h rfl rfl rfl rfl rfl rfl rfl rfl (fun q q1 q2 q3 q4 q5 q6 q7 q8 => by simp only [sM, a_up, beq_f q1, beq_f q2, beq_f q3, beq_f q4, beq_f q5, beq_f q6, beq_f q7, beq_f q8, cond_false])) ?_
            refine XW.arr (g := fun _ => 1) (fun j j1 j2 => beg_4 bk j j1 j2) ?_
            refine x_aload_n C d_Mo_begin_83 rfl ?_
            refine x_iconst C d_Mo_begin_84 ?_
            refine x_put C (G_Mo E.1) 18 (u_782 E.1) d_Mo_begin_85 (by decide) rfl (by rfl) rfl rfl (nle rfl) ?_
            refine x_aload_n C d_Mo_begin_88 rfl ?_
            refine x_lconst C d_Mo_begin_89 rfl ?_
            refine x_put C (G_Mo E.1) 20 (u_784 E.1) d_Mo_begin_90 (by decide) rfl (by rfl) rfl rfl (nle rfl) ?_
            refine x_aload_n C d_Mo_begin_93 rfl ?_
            refine x_iconst C d_Mo_begin_94 ?_
            refine x_put C (G_Mo E.1) 21 (u_785 E.1) d_Mo_begin_95 (by decide) rfl (by rfl) rfl rfl (nle rfl) ?_
            exact x_vret C d_Mo_begin_98 (nle rfl) (nle rfl) ⟨rfl, (sM_eq rfl rfl rfl rfl rfl rfl rfl rfl (fun q q1 q2 q3 q4 q5 q6 q7 q8 => by simp only [sM, a_up, beq_f q1, beq_f q2, beq_f q3, beq_f q4, beq_f q5, beq_f q6, beq_f q7, beq_f q8, cond_false])), rfl⟩
          · exfalso; omega
set_option maxRecDepth 100000 in
set_option maxHeartbeats 4000000 in
theorem l12_Mo_begin {a0 : Array Value} {s0 : State} {D : va_G} {cI cL : ClassId} (l : Launch) (E : a_E a0 s0 D cI cL) {p : Program} {e : Env} {R : Room} {s : State} {m : MethodId} {args : Array Value} {below : List Frame} {meth : Method} {c : Code} (C : XC s0 D cI cL p s m meth c "NarrowingPackerModel" prog_13_method_6_code 3 none []) {h : AH} {K : Nat} {κ : Kp} {pa rg pl cd nx n st cnt : Int} {G b bk : Int → Int} {r : T3 × Cn4} {X f : Int → Int} : ∀ (t : Nat) (i : Int), i + t = 3948 → 0 ≤ i → XW s0 D p l e R s m args below meth c (XQ s0 D 0 0 (PR none (sM s0.heap.size cI h κ (((pa, 0, fun _ => 1024, 4294967295, 4, (zup (zup (zup (zup G 0 0) 1 0) 2 0) 3 0), 0, 0) : Cd), ((b, 0, fun _ => 1, 0), r.1, 0, r.2))) K) below s) 12 [(0, .ref (s0.heap.size + 33)), (2, .int (zI i))] [] (a_up (sM s0.heap.size cI h κ (((pa, 0, X, rg, pl, G, cd, nx) : Cd), ((b, n, bk, st), r.1, cnt, r.2))) 41 (iA cI 3948 (fillZ f 1024 i))) K 0 0 := by
  intro t
  induction t with
  | zero =>
    intro i hi h0
    refine x_iload_n C d_Mo_begin_12 rfl ?_
    refine x_sipush C d_Mo_begin_13 (by decide) ?_
    refine x_icmp_ge C (tgt := 34) d_Mo_begin_16 (by decide) (by omega) (by omega) (by omega) (by omega) (fun c16 => ?_) (fun c16 => ?_)
    · refine XW.loc (lv' := [(0, .ref (s0.heap.size + 33))]) ⟨rfl, trivial⟩ ?_
      refine XW.arr (g := fun _ => 1024) (fun j j1 j2 => if_pos ⟨j1, by omega⟩) ?_
      refine XW.heq (h' := sM s0.heap.size cI h κ (((pa, 0, fun _ => 1024, rg, pl, G, cd, nx) : Cd), ((b, n, bk, st), r.1, cnt, r.2))) (sM_eq rfl rfl rfl rfl rfl rfl rfl rfl (fun q q1 q2 q3 q4 q5 q6 q7 q8 => by simp only [sM, a_up, beq_f q1, beq_f q2, beq_f q3, beq_f q4, beq_f q5, beq_f q6, beq_f q7, beq_f q8, cond_false])) ?_
      exact t34_Mo_begin l E C
    · exfalso; omega
  | succ t ih =>
    intro i hi h0
    refine x_iload_n C d_Mo_begin_12 rfl ?_
    refine x_sipush C d_Mo_begin_13 (by decide) ?_
    refine x_icmp_ge C (tgt := 34) d_Mo_begin_16 (by decide) (by omega) (by omega) (by omega) (by omega) (fun c16 => ?_) (fun c16 => ?_)
    · exfalso; omega
    · refine x_aload_n C d_Mo_begin_19 rfl ?_
      refine x_get C (G_Mo E.1) 16 (u_780 E.1) d_Mo_begin_20 (by decide) (by rfl) rfl ?_
      refine x_iload_n C d_Mo_begin_23 rfl ?_
      refine x_sipush C d_Mo_begin_24 (by decide) ?_
      refine x_iast C d_Mo_begin_27 (a_up_s _ _ _) (by omega) (by omega) (by omega) ?_
      refine x_iinc C d_Mo_begin_28 (by decide) rfl ?_
      refine x_goto C (tgt := 12) d_Mo_begin_31 (by decide) ?_
      rw [a_up_up, fillZ_up f 1024 h0]
      refine XW.loc (lv' := [(0, .ref (s0.heap.size + 33)), (2, .int (zI (i + 1)))]) ⟨rfl, rfl, trivial⟩ ?_
      exact ih (i + 1) (by omega) (by omega)
set_option maxRecDepth 100000 in
set_option maxHeartbeats 4000000 in
theorem c_Mo_begin {a0 : Array Value} {s0 : State} {D : va_G} {cI cL : ClassId} (l : Launch) (E : a_E a0 s0 D cI cL) {h : AH} {K : Nat} {κ : Kp} {pa rg pl cd nx n st cnt : Int} {G b bk : Int → Int} {r : T3 × Cn4} {X : Int → Int} {p0 bd : Int} (hpa : pa = 0 ∨ pa = 1) : XM l s0 D y_Mo_begin prog_13_method_6_code 3 none 0 0 0 [.ref (s0.heap.size + 33), .int (zI pa)] (sM s0.heap.size cI h κ (((p0, bd, X, rg, pl, G, cd, nx) : Cd), ((b, n, bk, st), r.1, cnt, r.2))) (K) (PR none (sM s0.heap.size cI h κ (((pa, 0, fun _ => 1024, 4294967295, 4, (zup (zup (zup (zup G 0 0) 1 0) 2 0) 3 0), 0, 0) : Cd), ((b, 0, fun _ => 1, 0), r.1, 0, r.2))) K) := by
  refine XM.of (cI := cI) (cL := cL) (own := "NarrowingPackerModel") (by decide) rfl E.2 (nle rfl) ?_
  intro p e s m below meth c C hn
  refine x_aload_n C d_Mo_begin_0 rfl ?_
  refine x_iload_n C d_Mo_begin_1 rfl ?_
  refine x_put C (G_Mo E.1) 14 (u_778 E.1) d_Mo_begin_2 (by decide) rfl (by rfl) (by rcases hpa with e | e <;> rw [e] <;> rfl) (by rcases hpa with e | e <;> rw [e] <;> rfl) (nle rfl) ?_
  refine x_aload_n C d_Mo_begin_5 rfl ?_
  refine x_iconst C d_Mo_begin_6 ?_
  refine x_put C (G_Mo E.1) 15 (u_779 E.1) d_Mo_begin_7 (by decide) rfl (by rfl) rfl rfl (nle rfl) ?_
  refine x_iconst C d_Mo_begin_10 ?_
  refine x_istore_n C d_Mo_begin_11 (by decide) ?_
  have e0 : fillZ (fun j => X (inv j)) 1024 0 = (fun j => X (inv j)) := by funext j; unfold fillZ; rw [if_neg (by omega)]
  refine XW.heq (h' := a_up (sM s0.heap.size cI h κ (((pa, 0, X, rg, pl, G, cd, nx) : Cd), ((b, n, bk, st), r.1, cnt, r.2))) 41 (iA cI 3948 (fillZ (fun j => X (inv j)) 1024 0))) (by
    rw [e0, a_up_id (show sM s0.heap.size cI h κ (((pa, 0, X, rg, pl, G, cd, nx) : Cd), ((b, n, bk, st), r.1, cnt, r.2)) 41 = some (iA cI 3948 (fun j => X (inv j))) from rfl)]
    exact (sM_eq rfl rfl rfl rfl rfl rfl rfl rfl (fun q q1 q2 q3 q4 q5 q6 q7 q8 => by simp only [sM, a_up, beq_f q1, beq_f q2, beq_f q3, beq_f q4, beq_f q5, beq_f q6, beq_f q7, beq_f q8, cond_false]))) ?_
  refine XW.loc (lv' := [(0, .ref (s0.heap.size + 33)), (2, .int (zI 0))]) ⟨rfl, rfl, trivial⟩ ?_
  exact l12_Mo_begin l E C 3948 0 (by decide) (by decide)

set_option maxRecDepth 100000 in
set_option maxHeartbeats 4000000 in
theorem lp_Mo_agree {a0 : Array Value} {s0 : State} {D : va_G} {cI cL : ClassId} (l : Launch) (E : a_E a0 s0 D cI cL) {p : Program} {e : Env} {R : Room} {s : State} {m : MethodId} {args : Array Value} {below : List Frame} {meth : Method} {c : Code} (C : XC s0 D cI cL p s m meth c "NarrowingPackerModel" prog_13_method_23_code 4 (some .int) []) {h : AH} {K : Nat} {κ : Kp} {v : Hs × T3 × Int × Cn4} {c0 : Cd} {src : Int → Int} (h34 : h 34 = some (iA cI 120 src)) (hs : ∀ q, 0 ≤ src q ∧ src q < 256) {i : Int} (i1 : 0 ≤ i) (i2 : i ≤ κ.2.2.1) (n2 : κ.2.2.1 ≤ 120) {j X : Int} (j1 : 0 ≤ j) (j2 : j < i) : ∀ (r : Nat) (k : Int), 0 ≤ k → κ.2.2.1 - i - k = (r : Int) → agreeZ src κ.2.2.1 j i r k = X → XW s0 D p l e R s m args below meth c (XQ s0 D 0 0 (PR (some (.int (zI X))) (sM s0.heap.size cI h κ (c0, v)) K) below s) 2 [(0, .ref (s0.heap.size + 33)), (1, .int (zI j)), (2, .int (zI i)), (3, .int (zI k))] [] (sM s0.heap.size cI h κ (c0, v)) K 0 0 := by
  intro r
  induction r with
  | zero =>
    intro k k0 hk hX
    have hX : k = X := hX
    subst hX
    refine x_iload_n C d_Mo_agree_2 rfl ?_
    refine x_iload_n C d_Mo_agree_3 rfl ?_
    refine x_iadd C d_Mo_agree_4 ?_
    refine x_aload_n C d_Mo_agree_5 rfl ?_
    refine x_get C (G_Mo E.1) 2 (u_766 E.1) d_Mo_agree_6 (by decide) (by rfl) (show _ = some (.int (zI κ.2.2.1)) from rfl) ?_
    refine x_icmp_ge C (tgt := 37) d_Mo_agree_9 (by decide) (by omega) (by omega) (by omega) (by omega) (fun c9 => ?_) (fun c9 => ?_)
    · refine x_iload_n C d_Mo_agree_37 rfl ?_
      exact x_iret C d_Mo_agree_38 (nle rfl) (nle rfl) ⟨rfl, rfl, rfl⟩
    · exfalso; omega
  | succ r ih =>
    intro k k0 hk hX
    have s1 := hs (j + k)
    have s2 := hs (i + k)
    unfold agreeZ at hX
    refine x_iload_n C d_Mo_agree_2 rfl ?_
    refine x_iload_n C d_Mo_agree_3 rfl ?_
    refine x_iadd C d_Mo_agree_4 ?_
    refine x_aload_n C d_Mo_agree_5 rfl ?_
    refine x_get C (G_Mo E.1) 2 (u_766 E.1) d_Mo_agree_6 (by decide) (by rfl) (show _ = some (.int (zI κ.2.2.1)) from rfl) ?_
    refine x_icmp_ge C (tgt := 37) d_Mo_agree_9 (by decide) (by omega) (by omega) (by omega) (by omega) (fun c9 => ?_) (fun c9 => ?_)
    · first
        | (exfalso; omega)
        | (rw [if_neg (fun z => c28 z.2)] at hX; subst hX; exact (x_iload_n C d_Mo_agree_37 rfl (x_iret C d_Mo_agree_38 (nle rfl) (nle rfl) ⟨rfl, rfl, rfl⟩)))
    · refine x_aload_n C d_Mo_agree_12 rfl ?_
      refine x_get C (G_Mo E.1) 3 (u_767 E.1) d_Mo_agree_13 (by decide) (by rfl) rfl ?_
      refine x_iload_n C d_Mo_agree_16 rfl ?_
      refine x_iload_n C d_Mo_agree_17 rfl ?_
      refine x_iadd C d_Mo_agree_18 ?_
      refine x_iald C d_Mo_agree_19 (by exact h34) (by omega) (by omega) (by omega) ?_
      refine x_aload_n C d_Mo_agree_20 rfl ?_
      refine x_get C (G_Mo E.1) 3 (u_767 E.1) d_Mo_agree_21 (by decide) (by rfl) rfl ?_
      refine x_iload_n C d_Mo_agree_24 rfl ?_
      refine x_iload_n C d_Mo_agree_25 rfl ?_
      refine x_iadd C d_Mo_agree_26 ?_
      refine x_iald C d_Mo_agree_27 (by exact h34) (by omega) (by omega) (by omega) ?_
      refine x_icmp_ne C (tgt := 37) d_Mo_agree_28 (by decide) (by omega) (by omega) (by omega) (by omega) (fun c28 => ?_) (fun c28 => ?_)
      · first
          | (exfalso; omega)
          | (rw [if_neg (fun z => c28 z.2)] at hX; subst hX; exact (x_iload_n C d_Mo_agree_37 rfl (x_iret C d_Mo_agree_38 (nle rfl) (nle rfl) ⟨rfl, rfl, rfl⟩)))
      · refine x_iinc C d_Mo_agree_31 (by decide) rfl ?_
        refine x_goto C (tgt := 2) d_Mo_agree_34 (by decide) ?_
        rw [if_pos ⟨by omega, c28⟩] at hX
        refine XW.loc (lv' := [(0, .ref (s0.heap.size + 33)), (1, .int (zI j)), (2, .int (zI i)), (3, .int (zI (k + 1)))]) ⟨rfl, rfl, rfl, rfl, trivial⟩ ?_
        exact ih _ (by omega) (by omega) hX
set_option maxRecDepth 100000 in
set_option maxHeartbeats 4000000 in
theorem c_Mo_agree {a0 : Array Value} {s0 : State} {D : va_G} {cI cL : ClassId} (l : Launch) (E : a_E a0 s0 D cI cL) {h : AH} {K : Nat} {κ : Kp} {v : Hs × T3 × Int × Cn4} {c0 : Cd} {src : Int → Int} (h34 : h 34 = some (iA cI 120 src)) (hs : ∀ q, 0 ≤ src q ∧ src q < 256) {i : Int} (i1 : 0 ≤ i) (i2 : i ≤ κ.2.2.1) (n2 : κ.2.2.1 ≤ 120) {j : Int} (j1 : 0 ≤ j) (j2 : j < i) : XM l s0 D y_Mo_agree prog_13_method_23_code 4 (some .int) 0 0 0 [.ref (s0.heap.size + 33), .int (zI j), .int (zI i)] (sM s0.heap.size cI h κ (c0, v)) (K) (PR (some (.int (zI (agZ src κ.2.2.1 j i)))) (sM s0.heap.size cI h κ (c0, v)) K) := by
  refine XM.of (cI := cI) (cL := cL) (own := "NarrowingPackerModel") (by decide) rfl E.2 (nle rfl) ?_
  intro p e s m below meth c C hn
  refine x_iconst C d_Mo_agree_0 ?_
  refine x_istore_n C d_Mo_agree_1 (by decide) ?_
  refine XW.loc (lv' := [(0, .ref (s0.heap.size + 33)), (1, .int (zI j)), (2, .int (zI i)), (3, .int (zI 0))]) ⟨rfl, rfl, rfl, rfl, trivial⟩ ?_
  exact lp_Mo_agree l E C h34 hs i1 i2 n2 j1 j2 (κ.2.2.1 - i).toNat 0 (by omega) (by omega) (by unfold agZ; rw [if_neg (by omega)])

/-- what the reference chooses -/
def chW (c : Int) (src : Int → Int) (n : Int) (t : Hs) : Cn4 :=
  if 2 ≤ (echoZ src n t.2.1 t.2.2.1 4 0 (0, 0)).1 ∧ (matchZ src n t.2.1 c t.2.1.toNat (0, 0, 0)).1 ≤ (echoZ src n t.2.1 t.2.2.1 4 0 (0, 0)).1 then (2, (echoZ src n t.2.1 t.2.2.1 4 0 (0, 0)).1, t.2.2.1 (echoZ src n t.2.1 t.2.2.1 4 0 (0, 0)).2, (echoZ src n t.2.1 t.2.2.1 4 0 (0, 0)).2)
  else if 0 < (matchZ src n t.2.1 c t.2.1.toNat (0, 0, 0)).1 then (1, (matchZ src n t.2.1 c t.2.1.toNat (0, 0, 0)).1, (matchZ src n t.2.1 c t.2.1.toNat (0, 0, 0)).2, (echoZ src n t.2.1 t.2.2.1 4 0 (0, 0)).2)
  else if t.2.2.1 0 ≤ t.2.1 ∧ src (t.2.1 - t.2.2.1 0) = src t.2.1 then (3, 1, t.2.2.1 0, (echoZ src n t.2.1 t.2.2.1 4 0 (0, 0)).2)
  else (0, 1, src t.2.1, (echoZ src n t.2.1 t.2.2.1 4 0 (0, 0)).2)
set_option maxRecDepth 100000 in
set_option maxHeartbeats 4000000 in
theorem t193_Mo_choose {a0 : Array Value} {s0 : State} {D : va_G} {cI cL : ClassId} (l : Launch) (E : a_E a0 s0 D cI cL) {p : Program} {e : Env} {R : Room} {s : State} {m : MethodId} {args : Array Value} {below : List Frame} {meth : Method} {c : Code} (C : XC s0 D cI cL p s m meth c "NarrowingPackerModel" prog_13_method_24_code 8 none []) {h : AH} {K : Nat} {κ : Kp} {c0 : Cd} {t : Hs} {T : T3} {cnt y1 y2 y3 : Int} {src : Int → Int} (h34 : h 34 = some (iA cI 120 src)) (hs : ∀ q, 0 ≤ src q ∧ src q < 256) (hk : hOk t) (i2 : t.2.1 < κ.2.2.1) (n2 : κ.2.2.1 ≤ 120) (c1 : 1 ≤ κ.2.1) (c2 : κ.2.1 ≤ 16) : XW s0 D p l e R s m args below meth c (XQ s0 D 0 0 (PR none (sM s0.heap.size cI h κ (c0, (t, T, cnt, (chW κ.2.1 src κ.2.2.1 t)))) K) below s) 193 [(0, .ref (s0.heap.size + 33)), (1, .int (zI t.2.1)), (2, .int (zI (matchZ src κ.2.2.1 t.2.1 κ.2.1 t.2.1.toNat (0, 0, 0)).1)), (3, .int (zI (matchZ src κ.2.2.1 t.2.1 κ.2.1 t.2.1.toNat (0, 0, 0)).2)), (5, .int (zI (echoZ src κ.2.2.1 t.2.1 t.2.2.1 4 0 (0, 0)).1))] [] (sM s0.heap.size cI h κ (c0, (t, T, cnt, (y1, y2, y3, (echoZ src κ.2.2.1 t.2.1 t.2.2.1 4 0 (0, 0)).2)))) K 0 0 := by
  have hn := hk.2.1
  have hmb := match_b (src := src) (n := κ.2.2.1) (i := t.2.1) (c := κ.2.1) (by omega) t.2.1.toNat 0 0 0 (by omega) (Or.inl rfl)
  have heb := echo_b (src := src) (bk := t.2.2.1) (n := κ.2.2.1) (i := t.2.1) (by omega) 4 0 0 0 (by omega) (by omega) (Or.inl ⟨rfl, rfl⟩)
  have hb0 := hk.2.2.1 0
  have hs1 := hs t.2.1
  have hs2 := hs (t.2.1 - t.2.2.1 0)
  have hb2 := hk.2.2.1 (echoZ src κ.2.2.1 t.2.1 t.2.2.1 4 0 (0, 0)).2
  refine x_iload C d_Mo_choose_193 rfl ?_
  refine x_iconst C d_Mo_choose_195 ?_
  refine x_icmp_lt C (tgt := 232) d_Mo_choose_196 (by decide) (by omega) (by omega) (by omega) (by omega) (fun c196 => ?_) (fun c196 => ?_)
  · refine x_iload_n C d_Mo_choose_232 rfl ?_
    refine x_if_le C (tgt := 254) d_Mo_choose_233 (by decide) (by omega) (by omega) (fun c233 => ?_) (fun c233 => ?_)
    · refine x_aload_n C d_Mo_choose_254 rfl ?_
      refine x_get C (G_Mo E.1) 25 (u_789 E.1) d_Mo_choose_255 (by decide) (by rfl) rfl ?_
      refine x_iconst C d_Mo_choose_258 ?_
      refine x_iald C d_Mo_choose_259 (show _ = some (iA cI 4 t.2.2.1) from rfl) (by omega) (by omega) (by omega) ?_
      refine x_iload_n C d_Mo_choose_260 rfl ?_
      refine x_icmp_gt C (tgt := 309) d_Mo_choose_261 (by decide) (by omega) (by omega) (by omega) (by omega) (fun c261 => ?_) (fun c261 => ?_)
      · refine x_aload_n C d_Mo_choose_309 rfl ?_
        refine x_iconst C d_Mo_choose_310 ?_
        refine x_put C (G_Mo E.1) 30 (u_794 E.1) d_Mo_choose_311 (by decide) rfl (by rfl) rfl rfl (nle rfl) ?_
        refine x_aload_n C d_Mo_choose_314 rfl ?_
        refine x_iconst C d_Mo_choose_315 ?_
        refine x_put C (G_Mo E.1) 31 (u_795 E.1) d_Mo_choose_316 (by decide) rfl (by rfl) rfl rfl (nle rfl) ?_
        refine x_aload_n C d_Mo_choose_319 rfl ?_
        refine x_aload_n C d_Mo_choose_320 rfl ?_
        refine x_get C (G_Mo E.1) 3 (u_767 E.1) d_Mo_choose_321 (by decide) (by rfl) rfl ?_
        refine x_iload_n C d_Mo_choose_324 rfl ?_
        refine x_iald C d_Mo_choose_325 (by exact h34) (by omega) (by omega) (by omega) ?_
        refine x_put C (G_Mo E.1) 32 (u_796 E.1) d_Mo_choose_326 (by decide) rfl (by rfl) rfl rfl (nle rfl) ?_
        first
          | (exfalso; omega)
          | exact x_vret C d_Mo_choose_329 (nle rfl) (nle rfl) ⟨rfl, by rw [show (chW κ.2.1 src κ.2.2.1 t) = _ from (by unfold chW; rw [if_pos (by omega)])]; exact (sM_eq rfl rfl rfl rfl rfl rfl rfl rfl (fun q q1 q2 q3 q4 q5 q6 q7 q8 => by simp only [sM, a_up, beq_f q1, beq_f q2, beq_f q3, beq_f q4, beq_f q5, beq_f q6, beq_f q7, beq_f q8, cond_false])), rfl⟩
          | exact x_vret C d_Mo_choose_329 (nle rfl) (nle rfl) ⟨rfl, by rw [show (chW κ.2.1 src κ.2.2.1 t) = _ from (by unfold chW; rw [if_neg (by omega), if_pos (by omega)])]; exact (sM_eq rfl rfl rfl rfl rfl rfl rfl rfl (fun q q1 q2 q3 q4 q5 q6 q7 q8 => by simp only [sM, a_up, beq_f q1, beq_f q2, beq_f q3, beq_f q4, beq_f q5, beq_f q6, beq_f q7, beq_f q8, cond_false])), rfl⟩
          | exact x_vret C d_Mo_choose_329 (nle rfl) (nle rfl) ⟨rfl, by rw [show (chW κ.2.1 src κ.2.2.1 t) = _ from (by unfold chW; rw [if_neg (by omega), if_neg (by omega), if_pos (by omega)])]; exact (sM_eq rfl rfl rfl rfl rfl rfl rfl rfl (fun q q1 q2 q3 q4 q5 q6 q7 q8 => by simp only [sM, a_up, beq_f q1, beq_f q2, beq_f q3, beq_f q4, beq_f q5, beq_f q6, beq_f q7, beq_f q8, cond_false])), rfl⟩
          | exact x_vret C d_Mo_choose_329 (nle rfl) (nle rfl) ⟨rfl, by rw [show (chW κ.2.1 src κ.2.2.1 t) = _ from (by unfold chW; rw [if_neg (by omega), if_neg (by omega), if_neg (by omega)])]; exact (sM_eq rfl rfl rfl rfl rfl rfl rfl rfl (fun q q1 q2 q3 q4 q5 q6 q7 q8 => by simp only [sM, a_up, beq_f q1, beq_f q2, beq_f q3, beq_f q4, beq_f q5, beq_f q6, beq_f q7, beq_f q8, cond_false])), rfl⟩
      · refine x_aload_n C d_Mo_choose_264 rfl ?_
        refine x_get C (G_Mo E.1) 3 (u_767 E.1) d_Mo_choose_265 (by decide) (by rfl) rfl ?_
        refine x_iload_n C d_Mo_choose_268 rfl ?_
        refine x_aload_n C d_Mo_choose_269 rfl ?_
        refine x_get C (G_Mo E.1) 25 (u_789 E.1) d_Mo_choose_270 (by decide) (by rfl) rfl ?_
        refine x_iconst C d_Mo_choose_273 ?_
        refine x_iald C d_Mo_choose_274 (show _ = some (iA cI 4 t.2.2.1) from rfl) (by omega) (by omega) (by omega) ?_
        refine x_isub C d_Mo_choose_275 ?_
        refine x_iald C d_Mo_choose_276 (by exact h34) (by omega) (by omega) (by omega) ?_
        refine x_aload_n C d_Mo_choose_277 rfl ?_
        refine x_get C (G_Mo E.1) 3 (u_767 E.1) d_Mo_choose_278 (by decide) (by rfl) rfl ?_
        refine x_iload_n C d_Mo_choose_281 rfl ?_
        refine x_iald C d_Mo_choose_282 (by exact h34) (by omega) (by omega) (by omega) ?_
        refine x_icmp_ne C (tgt := 309) d_Mo_choose_283 (by decide) (by omega) (by omega) (by omega) (by omega) (fun c283 => ?_) (fun c283 => ?_)
        · refine x_aload_n C d_Mo_choose_309 rfl ?_
          refine x_iconst C d_Mo_choose_310 ?_
          refine x_put C (G_Mo E.1) 30 (u_794 E.1) d_Mo_choose_311 (by decide) rfl (by rfl) rfl rfl (nle rfl) ?_
          refine x_aload_n C d_Mo_choose_314 rfl ?_
          refine x_iconst C d_Mo_choose_315 ?_
          refine x_put C (G_Mo E.1) 31 (u_795 E.1) d_Mo_choose_316 (by decide) rfl (by rfl) rfl rfl (nle rfl) ?_
          refine x_aload_n C d_Mo_choose_319 rfl ?_
          refine x_aload_n C d_Mo_choose_320 rfl ?_
          refine x_get C (G_Mo E.1) 3 (u_767 E.1) d_Mo_choose_321 (by decide) (by rfl) rfl ?_
          refine x_iload_n C d_Mo_choose_324 rfl ?_
          refine x_iald C d_Mo_choose_325 (by exact h34) (by omega) (by omega) (by omega) ?_
          refine x_put C (G_Mo E.1) 32 (u_796 E.1) d_Mo_choose_326 (by decide) rfl (by rfl) rfl rfl (nle rfl) ?_
          first
            | (exfalso; omega)
            | exact x_vret C d_Mo_choose_329 (nle rfl) (nle rfl) ⟨rfl, by rw [show (chW κ.2.1 src κ.2.2.1 t) = _ from (by unfold chW; rw [if_pos (by omega)])]; exact (sM_eq rfl rfl rfl rfl rfl rfl rfl rfl (fun q q1 q2 q3 q4 q5 q6 q7 q8 => by simp only [sM, a_up, beq_f q1, beq_f q2, beq_f q3, beq_f q4, beq_f q5, beq_f q6, beq_f q7, beq_f q8, cond_false])), rfl⟩
            | exact x_vret C d_Mo_choose_329 (nle rfl) (nle rfl) ⟨rfl, by rw [show (chW κ.2.1 src κ.2.2.1 t) = _ from (by unfold chW; rw [if_neg (by omega), if_pos (by omega)])]; exact (sM_eq rfl rfl rfl rfl rfl rfl rfl rfl (fun q q1 q2 q3 q4 q5 q6 q7 q8 => by simp only [sM, a_up, beq_f q1, beq_f q2, beq_f q3, beq_f q4, beq_f q5, beq_f q6, beq_f q7, beq_f q8, cond_false])), rfl⟩
            | exact x_vret C d_Mo_choose_329 (nle rfl) (nle rfl) ⟨rfl, by rw [show (chW κ.2.1 src κ.2.2.1 t) = _ from (by unfold chW; rw [if_neg (by omega), if_neg (by omega), if_pos (by omega)])]; exact (sM_eq rfl rfl rfl rfl rfl rfl rfl rfl (fun q q1 q2 q3 q4 q5 q6 q7 q8 => by simp only [sM, a_up, beq_f q1, beq_f q2, beq_f q3, beq_f q4, beq_f q5, beq_f q6, beq_f q7, beq_f q8, cond_false])), rfl⟩
            | exact x_vret C d_Mo_choose_329 (nle rfl) (nle rfl) ⟨rfl, by rw [show (chW κ.2.1 src κ.2.2.1 t) = _ from (by unfold chW; rw [if_neg (by omega), if_neg (by omega), if_neg (by omega)])]; exact (sM_eq rfl rfl rfl rfl rfl rfl rfl rfl (fun q q1 q2 q3 q4 q5 q6 q7 q8 => by simp only [sM, a_up, beq_f q1, beq_f q2, beq_f q3, beq_f q4, beq_f q5, beq_f q6, beq_f q7, beq_f q8, cond_false])), rfl⟩
        · refine x_aload_n C d_Mo_choose_286 rfl ?_
          refine x_iconst C d_Mo_choose_287 ?_
          refine x_put C (G_Mo E.1) 30 (u_794 E.1) d_Mo_choose_288 (by decide) rfl (by rfl) rfl rfl (nle rfl) ?_
          refine x_aload_n C d_Mo_choose_291 rfl ?_
          refine x_iconst C d_Mo_choose_292 ?_
          refine x_put C (G_Mo E.1) 31 (u_795 E.1) d_Mo_choose_293 (by decide) rfl (by rfl) rfl rfl (nle rfl) ?_
          refine x_aload_n C d_Mo_choose_296 rfl ?_
          refine x_aload_n C d_Mo_choose_297 rfl ?_
          refine x_get C (G_Mo E.1) 25 (u_789 E.1) d_Mo_choose_298 (by decide) (by rfl) rfl ?_
          refine x_iconst C d_Mo_choose_301 ?_
          refine x_iald C d_Mo_choose_302 (show _ = some (iA cI 4 t.2.2.1) from rfl) (by omega) (by omega) (by omega) ?_
          refine x_put C (G_Mo E.1) 32 (u_796 E.1) d_Mo_choose_303 (by decide) rfl (by rfl) rfl rfl (nle rfl) ?_
          refine x_goto C (tgt := 329) d_Mo_choose_306 (by decide) ?_
          first
            | (exfalso; omega)
            | exact x_vret C d_Mo_choose_329 (nle rfl) (nle rfl) ⟨rfl, by rw [show (chW κ.2.1 src κ.2.2.1 t) = _ from (by unfold chW; rw [if_pos (by omega)])]; exact (sM_eq rfl rfl rfl rfl rfl rfl rfl rfl (fun q q1 q2 q3 q4 q5 q6 q7 q8 => by simp only [sM, a_up, beq_f q1, beq_f q2, beq_f q3, beq_f q4, beq_f q5, beq_f q6, beq_f q7, beq_f q8, cond_false])), rfl⟩
            | exact x_vret C d_Mo_choose_329 (nle rfl) (nle rfl) ⟨rfl, by rw [show (chW κ.2.1 src κ.2.2.1 t) = _ from (by unfold chW; rw [if_neg (by omega), if_pos (by omega)])]; exact (sM_eq rfl rfl rfl rfl rfl rfl rfl rfl (fun q q1 q2 q3 q4 q5 q6 q7 q8 => by simp only [sM, a_up, beq_f q1, beq_f q2, beq_f q3, beq_f q4, beq_f q5, beq_f q6, beq_f q7, beq_f q8, cond_false])), rfl⟩
            | exact x_vret C d_Mo_choose_329 (nle rfl) (nle rfl) ⟨rfl, by rw [show (chW κ.2.1 src κ.2.2.1 t) = _ from (by unfold chW; rw [if_neg (by omega), if_neg (by omega), if_pos (by omega)])]; exact (sM_eq rfl rfl rfl rfl rfl rfl rfl rfl (fun q q1 q2 q3 q4 q5 q6 q7 q8 => by simp only [sM, a_up, beq_f q1, beq_f q2, beq_f q3, beq_f q4, beq_f q5, beq_f q6, beq_f q7, beq_f q8, cond_false])), rfl⟩
            | exact x_vret C d_Mo_choose_329 (nle rfl) (nle rfl) ⟨rfl, by rw [show (chW κ.2.1 src κ.2.2.1 t) = _ from (by unfold chW; rw [if_neg (by omega), if_neg (by omega), if_neg (by omega)])]; exact (sM_eq rfl rfl rfl rfl rfl rfl rfl rfl (fun q q1 q2 q3 q4 q5 q6 q7 q8 => by simp only [sM, a_up, beq_f q1, beq_f q2, beq_f q3, beq_f q4, beq_f q5, beq_f q6, beq_f q7, beq_f q8, cond_false])), rfl⟩
    · refine x_aload_n C d_Mo_choose_236 rfl ?_
      refine x_iconst C d_Mo_choose_237 ?_
      refine x_put C (G_Mo E.1) 30 (u_794 E.1) d_Mo_choose_238 (by decide) rfl (by rfl) rfl rfl (nle rfl) ?_
      refine x_aload_n C d_Mo_choose_241 rfl ?_
      refine x_iload_n C d_Mo_choose_242 rfl ?_
      refine x_put C (G_Mo E.1) 31 (u_795 E.1) d_Mo_choose_243 (by decide) rfl (by rfl) rfl rfl (nle rfl) ?_
      refine x_aload_n C d_Mo_choose_246 rfl ?_
      refine x_iload_n C d_Mo_choose_247 rfl ?_
      refine x_put C (G_Mo E.1) 32 (u_796 E.1) d_Mo_choose_248 (by decide) rfl (by rfl) rfl rfl (nle rfl) ?_
      refine x_goto C (tgt := 329) d_Mo_choose_251 (by decide) ?_
      first
        | (exfalso; omega)
        | exact x_vret C d_Mo_choose_329 (nle rfl) (nle rfl) ⟨rfl, by rw [show (chW κ.2.1 src κ.2.2.1 t) = _ from (by unfold chW; rw [if_pos (by omega)])]; exact (sM_eq rfl rfl rfl rfl rfl rfl rfl rfl (fun q q1 q2 q3 q4 q5 q6 q7 q8 => by simp only [sM, a_up, beq_f q1, beq_f q2, beq_f q3, beq_f q4, beq_f q5, beq_f q6, beq_f q7, beq_f q8, cond_false])), rfl⟩
        | exact x_vret C d_Mo_choose_329 (nle rfl) (nle rfl) ⟨rfl, by rw [show (chW κ.2.1 src κ.2.2.1 t) = _ from (by unfold chW; rw [if_neg (by omega), if_pos (by omega)])]; exact (sM_eq rfl rfl rfl rfl rfl rfl rfl rfl (fun q q1 q2 q3 q4 q5 q6 q7 q8 => by simp only [sM, a_up, beq_f q1, beq_f q2, beq_f q3, beq_f q4, beq_f q5, beq_f q6, beq_f q7, beq_f q8, cond_false])), rfl⟩
        | exact x_vret C d_Mo_choose_329 (nle rfl) (nle rfl) ⟨rfl, by rw [show (chW κ.2.1 src κ.2.2.1 t) = _ from (by unfold chW; rw [if_neg (by omega), if_neg (by omega), if_pos (by omega)])]; exact (sM_eq rfl rfl rfl rfl rfl rfl rfl rfl (fun q q1 q2 q3 q4 q5 q6 q7 q8 => by simp only [sM, a_up, beq_f q1, beq_f q2, beq_f q3, beq_f q4, beq_f q5, beq_f q6, beq_f q7, beq_f q8, cond_false])), rfl⟩
        | exact x_vret C d_Mo_choose_329 (nle rfl) (nle rfl) ⟨rfl, by rw [show (chW κ.2.1 src κ.2.2.1 t) = _ from (by unfold chW; rw [if_neg (by omega), if_neg (by omega), if_neg (by omega)])]; exact (sM_eq rfl rfl rfl rfl rfl rfl rfl rfl (fun q q1 q2 q3 q4 q5 q6 q7 q8 => by simp only [sM, a_up, beq_f q1, beq_f q2, beq_f q3, beq_f q4, beq_f q5, beq_f q6, beq_f q7, beq_f q8, cond_false])), rfl⟩
  · refine x_iload C d_Mo_choose_199 rfl ?_
    refine x_iload_n C d_Mo_choose_201 rfl ?_
    refine x_icmp_lt C (tgt := 232) d_Mo_choose_202 (by decide) (by omega) (by omega) (by omega) (by omega) (fun c202 => ?_) (fun c202 => ?_)
    · refine x_iload_n C d_Mo_choose_232 rfl ?_
      refine x_if_le C (tgt := 254) d_Mo_choose_233 (by decide) (by omega) (by omega) (fun c233 => ?_) (fun c233 => ?_)
      · refine x_aload_n C d_Mo_choose_254 rfl ?_
        refine x_get C (G_Mo E.1) 25 (u_789 E.1) d_Mo_choose_255 (by decide) (by rfl) rfl ?_
        refine x_iconst C d_Mo_choose_258 ?_
        refine x_iald C d_Mo_choose_259 (show _ = some (iA cI 4 t.2.2.1) from rfl) (by omega) (by omega) (by omega) ?_
        refine x_iload_n C d_Mo_choose_260 rfl ?_
        refine x_icmp_gt C (tgt := 309) d_Mo_choose_261 (by decide) (by omega) (by omega) (by omega) (by omega) (fun c261 => ?_) (fun c261 => ?_)
        · refine x_aload_n C d_Mo_choose_309 rfl ?_
          refine x_iconst C d_Mo_choose_310 ?_
          refine x_put C (G_Mo E.1) 30 (u_794 E.1) d_Mo_choose_311 (by decide) rfl (by rfl) rfl rfl (nle rfl) ?_
          refine x_aload_n C d_Mo_choose_314 rfl ?_
          refine x_iconst C d_Mo_choose_315 ?_
          refine x_put C (G_Mo E.1) 31 (u_795 E.1) d_Mo_choose_316 (by decide) rfl (by rfl) rfl rfl (nle rfl) ?_
          refine x_aload_n C d_Mo_choose_319 rfl ?_
          refine x_aload_n C d_Mo_choose_320 rfl ?_
          refine x_get C (G_Mo E.1) 3 (u_767 E.1) d_Mo_choose_321 (by decide) (by rfl) rfl ?_
          refine x_iload_n C d_Mo_choose_324 rfl ?_
          refine x_iald C d_Mo_choose_325 (by exact h34) (by omega) (by omega) (by omega) ?_
          refine x_put C (G_Mo E.1) 32 (u_796 E.1) d_Mo_choose_326 (by decide) rfl (by rfl) rfl rfl (nle rfl) ?_
          first
            | (exfalso; omega)
            | exact x_vret C d_Mo_choose_329 (nle rfl) (nle rfl) ⟨rfl, by rw [show (chW κ.2.1 src κ.2.2.1 t) = _ from (by unfold chW; rw [if_pos (by omega)])]; exact (sM_eq rfl rfl rfl rfl rfl rfl rfl rfl (fun q q1 q2 q3 q4 q5 q6 q7 q8 => by simp only [sM, a_up, beq_f q1, beq_f q2, beq_f q3, beq_f q4, beq_f q5, beq_f q6, beq_f q7, beq_f q8, cond_false])), rfl⟩
            | exact x_vret C d_Mo_choose_329 (nle rfl) (nle rfl) ⟨rfl, by rw [show (chW κ.2.1 src κ.2.2.1 t) = _ from (by unfold chW; rw [if_neg (by omega), if_pos (by omega)])]; exact (sM_eq rfl rfl rfl rfl rfl rfl rfl rfl (fun q q1 q2 q3 q4 q5 q6 q7 q8 => by simp only [sM, a_up, beq_f q1, beq_f q2, beq_f q3, beq_f q4, beq_f q5, beq_f q6, beq_f q7, beq_f q8, cond_false])), rfl⟩
            | exact x_vret C d_Mo_choose_329 (nle rfl) (nle rfl) ⟨rfl, by rw [show (chW κ.2.1 src κ.2.2.1 t) = _ from (by unfold chW; rw [if_neg (by omega), if_neg (by omega), if_pos (by omega)])]; exact (sM_eq rfl rfl rfl rfl rfl rfl rfl rfl (fun q q1 q2 q3 q4 q5 q6 q7 q8 => by simp only [sM, a_up, beq_f q1, beq_f q2, beq_f q3, beq_f q4, beq_f q5, beq_f q6, beq_f q7, beq_f q8, cond_false])), rfl⟩
            | exact x_vret C d_Mo_choose_329 (nle rfl) (nle rfl) ⟨rfl, by rw [show (chW κ.2.1 src κ.2.2.1 t) = _ from (by unfold chW; rw [if_neg (by omega), if_neg (by omega), if_neg (by omega)])]; exact (sM_eq rfl rfl rfl rfl rfl rfl rfl rfl (fun q q1 q2 q3 q4 q5 q6 q7 q8 => by simp only [sM, a_up, beq_f q1, beq_f q2, beq_f q3, beq_f q4, beq_f q5, beq_f q6, beq_f q7, beq_f q8, cond_false])), rfl⟩
        · refine x_aload_n C d_Mo_choose_264 rfl ?_
          refine x_get C (G_Mo E.1) 3 (u_767 E.1) d_Mo_choose_265 (by decide) (by rfl) rfl ?_
          refine x_iload_n C d_Mo_choose_268 rfl ?_
          refine x_aload_n C d_Mo_choose_269 rfl ?_
          refine x_get C (G_Mo E.1) 25 (u_789 E.1) d_Mo_choose_270 (by decide) (by rfl) rfl ?_
          refine x_iconst C d_Mo_choose_273 ?_
          refine x_iald C d_Mo_choose_274 (show _ = some (iA cI 4 t.2.2.1) from rfl) (by omega) (by omega) (by omega) ?_
          refine x_isub C d_Mo_choose_275 ?_
          refine x_iald C d_Mo_choose_276 (by exact h34) (by omega) (by omega) (by omega) ?_
          refine x_aload_n C d_Mo_choose_277 rfl ?_
          refine x_get C (G_Mo E.1) 3 (u_767 E.1) d_Mo_choose_278 (by decide) (by rfl) rfl ?_
          refine x_iload_n C d_Mo_choose_281 rfl ?_
          refine x_iald C d_Mo_choose_282 (by exact h34) (by omega) (by omega) (by omega) ?_
          refine x_icmp_ne C (tgt := 309) d_Mo_choose_283 (by decide) (by omega) (by omega) (by omega) (by omega) (fun c283 => ?_) (fun c283 => ?_)
          · refine x_aload_n C d_Mo_choose_309 rfl ?_
            refine x_iconst C d_Mo_choose_310 ?_
            refine x_put C (G_Mo E.1) 30 (u_794 E.1) d_Mo_choose_311 (by decide) rfl (by rfl) rfl rfl (nle rfl) ?_
            refine x_aload_n C d_Mo_choose_314 rfl ?_
            refine x_iconst C d_Mo_choose_315 ?_
            refine x_put C (G_Mo E.1) 31 (u_795 E.1) d_Mo_choose_316 (by decide) rfl (by rfl) rfl rfl (nle rfl) ?_
            refine x_aload_n C d_Mo_choose_319 rfl ?_
            refine x_aload_n C d_Mo_choose_320 rfl ?_
            refine x_get C (G_Mo E.1) 3 (u_767 E.1) d_Mo_choose_321 (by decide) (by rfl) rfl ?_
            refine x_iload_n C d_Mo_choose_324 rfl ?_
            refine x_iald C d_Mo_choose_325 (by exact h34) (by omega) (by omega) (by omega) ?_
            refine x_put C (G_Mo E.1) 32 (u_796 E.1) d_Mo_choose_326 (by decide) rfl (by rfl) rfl rfl (nle rfl) ?_
            first
              | (exfalso; omega)
              | exact x_vret C d_Mo_choose_329 (nle rfl) (nle rfl) ⟨rfl, by rw [show (chW κ.2.1 src κ.2.2.1 t) = _ from (by unfold chW; rw [if_pos (by omega)])]; exact (sM_eq rfl rfl rfl rfl rfl rfl rfl rfl (fun q q1 q2 q3 q4 q5 q6 q7 q8 => by simp only [sM, a_up, beq_f q1, beq_f q2, beq_f q3, beq_f q4, beq_f q5, beq_f q6, beq_f q7, beq_f q8, cond_false])), rfl⟩
              | exact x_vret C d_Mo_choose_329 (nle rfl) (nle rfl) ⟨rfl, by rw [show (chW κ.2.1 src κ.2.2.1 t) = _ from (by unfold chW; rw [if_neg (by omega), if_pos (by omega)])]; exact (sM_eq rfl rfl rfl rfl rfl rfl rfl rfl (fun q q1 q2 q3 q4 q5 q6 q7 q8 => by simp only [sM, a_up, beq_f q1, beq_f q2, beq_f q3, beq_f q4, beq_f q5, beq_f q6, beq_f q7, beq_f q8, cond_false])), rfl⟩
              | exact x_vret C d_Mo_choose_329 (nle rfl) (nle rfl) ⟨rfl, by rw [show (chW κ.2.1 src κ.2.2.1 t) = _ from (by unfold chW; rw [if_neg (by omega), if_neg (by omega), if_pos (by omega)])]; exact (sM_eq rfl rfl rfl rfl rfl rfl rfl rfl (fun q q1 q2 q3 q4 q5 q6 q7 q8 => by simp only [sM, a_up, beq_f q1, beq_f q2, beq_f q3, beq_f q4, beq_f q5, beq_f q6, beq_f q7, beq_f q8, cond_false])), rfl⟩
              | exact x_vret C d_Mo_choose_329 (nle rfl) (nle rfl) ⟨rfl, by rw [show (chW κ.2.1 src κ.2.2.1 t) = _ from (by unfold chW; rw [if_neg (by omega), if_neg (by omega), if_neg (by omega)])]; exact (sM_eq rfl rfl rfl rfl rfl rfl rfl rfl (fun q q1 q2 q3 q4 q5 q6 q7 q8 => by simp only [sM, a_up, beq_f q1, beq_f q2, beq_f q3, beq_f q4, beq_f q5, beq_f q6, beq_f q7, beq_f q8, cond_false])), rfl⟩
          · refine x_aload_n C d_Mo_choose_286 rfl ?_
            refine x_iconst C d_Mo_choose_287 ?_
            refine x_put C (G_Mo E.1) 30 (u_794 E.1) d_Mo_choose_288 (by decide) rfl (by rfl) rfl rfl (nle rfl) ?_
            refine x_aload_n C d_Mo_choose_291 rfl ?_
            refine x_iconst C d_Mo_choose_292 ?_
            refine x_put C (G_Mo E.1) 31 (u_795 E.1) d_Mo_choose_293 (by decide) rfl (by rfl) rfl rfl (nle rfl) ?_
            refine x_aload_n C d_Mo_choose_296 rfl ?_
            refine x_aload_n C d_Mo_choose_297 rfl ?_
            refine x_get C (G_Mo E.1) 25 (u_789 E.1) d_Mo_choose_298 (by decide) (by rfl) rfl ?_
            refine x_iconst C d_Mo_choose_301 ?_
            refine x_iald C d_Mo_choose_302 (show _ = some (iA cI 4 t.2.2.1) from rfl) (by omega) (by omega) (by omega) ?_
            refine x_put C (G_Mo E.1) 32 (u_796 E.1) d_Mo_choose_303 (by decide) rfl (by rfl) rfl rfl (nle rfl) ?_
            refine x_goto C (tgt := 329) d_Mo_choose_306 (by decide) ?_
            first
              | (exfalso; omega)
              | exact x_vret C d_Mo_choose_329 (nle rfl) (nle rfl) ⟨rfl, by rw [show (chW κ.2.1 src κ.2.2.1 t) = _ from (by unfold chW; rw [if_pos (by omega)])]; exact (sM_eq rfl rfl rfl rfl rfl rfl rfl rfl (fun q q1 q2 q3 q4 q5 q6 q7 q8 => by simp only [sM, a_up, beq_f q1, beq_f q2, beq_f q3, beq_f q4, beq_f q5, beq_f q6, beq_f q7, beq_f q8, cond_false])), rfl⟩
              | exact x_vret C d_Mo_choose_329 (nle rfl) (nle rfl) ⟨rfl, by rw [show (chW κ.2.1 src κ.2.2.1 t) = _ from (by unfold chW; rw [if_neg (by omega), if_pos (by omega)])]; exact (sM_eq rfl rfl rfl rfl rfl rfl rfl rfl (fun q q1 q2 q3 q4 q5 q6 q7 q8 => by simp only [sM, a_up, beq_f q1, beq_f q2, beq_f q3, beq_f q4, beq_f q5, beq_f q6, beq_f q7, beq_f q8, cond_false])), rfl⟩
              | exact x_vret C d_Mo_choose_329 (nle rfl) (nle rfl) ⟨rfl, by rw [show (chW κ.2.1 src κ.2.2.1 t) = _ from (by unfold chW; rw [if_neg (by omega), if_neg (by omega), if_pos (by omega)])]; exact (sM_eq rfl rfl rfl rfl rfl rfl rfl rfl (fun q q1 q2 q3 q4 q5 q6 q7 q8 => by simp only [sM, a_up, beq_f q1, beq_f q2, beq_f q3, beq_f q4, beq_f q5, beq_f q6, beq_f q7, beq_f q8, cond_false])), rfl⟩
              | exact x_vret C d_Mo_choose_329 (nle rfl) (nle rfl) ⟨rfl, by rw [show (chW κ.2.1 src κ.2.2.1 t) = _ from (by unfold chW; rw [if_neg (by omega), if_neg (by omega), if_neg (by omega)])]; exact (sM_eq rfl rfl rfl rfl rfl rfl rfl rfl (fun q q1 q2 q3 q4 q5 q6 q7 q8 => by simp only [sM, a_up, beq_f q1, beq_f q2, beq_f q3, beq_f q4, beq_f q5, beq_f q6, beq_f q7, beq_f q8, cond_false])), rfl⟩
      · refine x_aload_n C d_Mo_choose_236 rfl ?_
        refine x_iconst C d_Mo_choose_237 ?_
        refine x_put C (G_Mo E.1) 30 (u_794 E.1) d_Mo_choose_238 (by decide) rfl (by rfl) rfl rfl (nle rfl) ?_
        refine x_aload_n C d_Mo_choose_241 rfl ?_
        refine x_iload_n C d_Mo_choose_242 rfl ?_
        refine x_put C (G_Mo E.1) 31 (u_795 E.1) d_Mo_choose_243 (by decide) rfl (by rfl) rfl rfl (nle rfl) ?_
        refine x_aload_n C d_Mo_choose_246 rfl ?_
        refine x_iload_n C d_Mo_choose_247 rfl ?_
        refine x_put C (G_Mo E.1) 32 (u_796 E.1) d_Mo_choose_248 (by decide) rfl (by rfl) rfl rfl (nle rfl) ?_
        refine x_goto C (tgt := 329) d_Mo_choose_251 (by decide) ?_
        first
          | (exfalso; omega)
          | exact x_vret C d_Mo_choose_329 (nle rfl) (nle rfl) ⟨rfl, by rw [show (chW κ.2.1 src κ.2.2.1 t) = _ from (by unfold chW; rw [if_pos (by omega)])]; exact (sM_eq rfl rfl rfl rfl rfl rfl rfl rfl (fun q q1 q2 q3 q4 q5 q6 q7 q8 => by simp only [sM, a_up, beq_f q1, beq_f q2, beq_f q3, beq_f q4, beq_f q5, beq_f q6, beq_f q7, beq_f q8, cond_false])), rfl⟩
          | exact x_vret C d_Mo_choose_329 (nle rfl) (nle rfl) ⟨rfl, by rw [show (chW κ.2.1 src κ.2.2.1 t) = _ from (by unfold chW; rw [if_neg (by omega), if_pos (by omega)])]; exact (sM_eq rfl rfl rfl rfl rfl rfl rfl rfl (fun q q1 q2 q3 q4 q5 q6 q7 q8 => by simp only [sM, a_up, beq_f q1, beq_f q2, beq_f q3, beq_f q4, beq_f q5, beq_f q6, beq_f q7, beq_f q8, cond_false])), rfl⟩
          | exact x_vret C d_Mo_choose_329 (nle rfl) (nle rfl) ⟨rfl, by rw [show (chW κ.2.1 src κ.2.2.1 t) = _ from (by unfold chW; rw [if_neg (by omega), if_neg (by omega), if_pos (by omega)])]; exact (sM_eq rfl rfl rfl rfl rfl rfl rfl rfl (fun q q1 q2 q3 q4 q5 q6 q7 q8 => by simp only [sM, a_up, beq_f q1, beq_f q2, beq_f q3, beq_f q4, beq_f q5, beq_f q6, beq_f q7, beq_f q8, cond_false])), rfl⟩
          | exact x_vret C d_Mo_choose_329 (nle rfl) (nle rfl) ⟨rfl, by rw [show (chW κ.2.1 src κ.2.2.1 t) = _ from (by unfold chW; rw [if_neg (by omega), if_neg (by omega), if_neg (by omega)])]; exact (sM_eq rfl rfl rfl rfl rfl rfl rfl rfl (fun q q1 q2 q3 q4 q5 q6 q7 q8 => by simp only [sM, a_up, beq_f q1, beq_f q2, beq_f q3, beq_f q4, beq_f q5, beq_f q6, beq_f q7, beq_f q8, cond_false])), rfl⟩
    · refine x_aload_n C d_Mo_choose_205 rfl ?_
      refine x_iconst C d_Mo_choose_206 ?_
      refine x_put C (G_Mo E.1) 30 (u_794 E.1) d_Mo_choose_207 (by decide) rfl (by rfl) rfl rfl (nle rfl) ?_
      refine x_aload_n C d_Mo_choose_210 rfl ?_
      refine x_iload C d_Mo_choose_211 rfl ?_
      refine x_put C (G_Mo E.1) 31 (u_795 E.1) d_Mo_choose_213 (by decide) rfl (by rfl) rfl rfl (nle rfl) ?_
      refine x_aload_n C d_Mo_choose_216 rfl ?_
      refine x_aload_n C d_Mo_choose_217 rfl ?_
      refine x_get C (G_Mo E.1) 25 (u_789 E.1) d_Mo_choose_218 (by decide) (by rfl) rfl ?_
      refine x_aload_n C d_Mo_choose_221 rfl ?_
      refine x_get C (G_Mo E.1) 33 (u_797 E.1) d_Mo_choose_222 (by decide) (by rfl) (show _ = some (.int (zI ((echoZ src κ.2.2.1 t.2.1 t.2.2.1 4 0 (0, 0)).2))) from rfl) ?_
      refine x_iald C d_Mo_choose_225 (show _ = some (iA cI 4 t.2.2.1) from rfl) (by omega) (by omega) (by omega) ?_
      refine x_put C (G_Mo E.1) 32 (u_796 E.1) d_Mo_choose_226 (by decide) rfl (by rfl) rfl rfl (nle rfl) ?_
      refine x_goto C (tgt := 329) d_Mo_choose_229 (by decide) ?_
      first
        | (exfalso; omega)
        | exact x_vret C d_Mo_choose_329 (nle rfl) (nle rfl) ⟨rfl, by rw [show (chW κ.2.1 src κ.2.2.1 t) = _ from (by unfold chW; rw [if_pos (by omega)])]; exact (sM_eq rfl rfl rfl rfl rfl rfl rfl rfl (fun q q1 q2 q3 q4 q5 q6 q7 q8 => by simp only [sM, a_up, beq_f q1, beq_f q2, beq_f q3, beq_f q4, beq_f q5, beq_f q6, beq_f q7, beq_f q8, cond_false])), rfl⟩
        | exact x_vret C d_Mo_choose_329 (nle rfl) (nle rfl) ⟨rfl, by rw [show (chW κ.2.1 src κ.2.2.1 t) = _ from (by unfold chW; rw [if_neg (by omega), if_pos (by omega)])]; exact (sM_eq rfl rfl rfl rfl rfl rfl rfl rfl (fun q q1 q2 q3 q4 q5 q6 q7 q8 => by simp only [sM, a_up, beq_f q1, beq_f q2, beq_f q3, beq_f q4, beq_f q5, beq_f q6, beq_f q7, beq_f q8, cond_false])), rfl⟩
        | exact x_vret C d_Mo_choose_329 (nle rfl) (nle rfl) ⟨rfl, by rw [show (chW κ.2.1 src κ.2.2.1 t) = _ from (by unfold chW; rw [if_neg (by omega), if_neg (by omega), if_pos (by omega)])]; exact (sM_eq rfl rfl rfl rfl rfl rfl rfl rfl (fun q q1 q2 q3 q4 q5 q6 q7 q8 => by simp only [sM, a_up, beq_f q1, beq_f q2, beq_f q3, beq_f q4, beq_f q5, beq_f q6, beq_f q7, beq_f q8, cond_false])), rfl⟩
        | exact x_vret C d_Mo_choose_329 (nle rfl) (nle rfl) ⟨rfl, by rw [show (chW κ.2.1 src κ.2.2.1 t) = _ from (by unfold chW; rw [if_neg (by omega), if_neg (by omega), if_neg (by omega)])]; exact (sM_eq rfl rfl rfl rfl rfl rfl rfl rfl (fun q q1 q2 q3 q4 q5 q6 q7 q8 => by simp only [sM, a_up, beq_f q1, beq_f q2, beq_f q3, beq_f q4, beq_f q5, beq_f q6, beq_f q7, beq_f q8, cond_false])), rfl⟩
set_option maxRecDepth 100000 in
set_option maxHeartbeats 4000000 in
theorem l114_Mo_choose {a0 : Array Value} {s0 : State} {D : va_G} {cI cL : ClassId} (l : Launch) (E : a_E a0 s0 D cI cL) {p : Program} {e : Env} {R : Room} {s : State} {m : MethodId} {args : Array Value} {below : List Frame} {meth : Method} {c : Code} (C : XC s0 D cI cL p s m meth c "NarrowingPackerModel" prog_13_method_24_code 8 none []) (hR : R = a_rm 1 0 0) {h : AH} {K : Nat} {κ : Kp} {c0 : Cd} {t : Hs} {T : T3} {cnt y1 y2 y3 : Int} {src : Int → Int} (h34 : h 34 = some (iA cI 120 src)) (hs : ∀ q, 0 ≤ src q ∧ src q < 256) (hk : hOk t) (i2 : t.2.1 < κ.2.2.1) (n2 : κ.2.2.1 ≤ 120) (c1 : 1 ≤ κ.2.1) (c2 : κ.2.1 ≤ 16) : ∀ (r : Nat) (k ln ec : Int), 0 ≤ k → (r : Int) + k = 4 → 0 ≤ ln → ln ≤ 120 → echoZ src κ.2.2.1 t.2.1 t.2.2.1 r k (ln, ec) = (echoZ src κ.2.2.1 t.2.1 t.2.2.1 4 0 (0, 0)) → XW s0 D p l e R s m args below meth c (XQ s0 D 0 0 (PR none (sM s0.heap.size cI h κ (c0, (t, T, cnt, (chW κ.2.1 src κ.2.2.1 t)))) K) below s) 114 [(0, .ref (s0.heap.size + 33)), (1, .int (zI t.2.1)), (2, .int (zI (matchZ src κ.2.2.1 t.2.1 κ.2.1 t.2.1.toNat (0, 0, 0)).1)), (3, .int (zI (matchZ src κ.2.2.1 t.2.1 κ.2.1 t.2.1.toNat (0, 0, 0)).2)), (5, .int (zI ln)), (6, .int (zI k))] [] (sM s0.heap.size cI h κ (c0, (t, T, cnt, (y1, y2, y3, ec)))) K 0 0 := by
  subst hR
  intro r
  have hn := hk.2.1
  induction r with
  | zero =>
    intro k ln ec k0 hk4 l1 l2 hX
    have hX : (ln, ec) = (echoZ src κ.2.2.1 t.2.1 t.2.2.1 4 0 (0, 0)) := hX
    refine x_iload C d_Mo_choose_114 rfl ?_
    refine x_iconst C d_Mo_choose_116 ?_
    refine x_icmp_ge C (tgt := 193) d_Mo_choose_117 (by decide) (by omega) (by omega) (by omega) (by omega) (fun c117 => ?_) (fun c117 => ?_)
    · refine XW.loc (lv' := [(0, .ref (s0.heap.size + 33)), (1, .int (zI t.2.1)), (2, .int (zI (matchZ src κ.2.2.1 t.2.1 κ.2.1 t.2.1.toNat (0, 0, 0)).1)), (3, .int (zI (matchZ src κ.2.2.1 t.2.1 κ.2.1 t.2.1.toNat (0, 0, 0)).2)), (5, .int (zI (echoZ src κ.2.2.1 t.2.1 t.2.2.1 4 0 (0, 0)).1))]) ⟨rfl, rfl, rfl, rfl, by rw [← hX]; rfl, trivial⟩ ?_
      refine XW.heq (h' := sM s0.heap.size cI h κ (c0, (t, T, cnt, (y1, y2, y3, (echoZ src κ.2.2.1 t.2.1 t.2.2.1 4 0 (0, 0)).2)))) (by rw [← hX]) ?_
      exact t193_Mo_choose l E C h34 hs hk i2 n2 c1 c2
    · exfalso; omega
  | succ r ih =>
    intro k ln ec k0 hk4 l1 l2 hX
    have hbk := hk.2.2.1 k
    have ha := ag_b (src := src) (n := κ.2.2.1) (j := t.2.1 - t.2.2.1 k) (i := t.2.1) (by omega)
    simp only [echoZ] at hX
    refine x_iload C d_Mo_choose_114 rfl ?_
    refine x_iconst C d_Mo_choose_116 ?_
    refine x_icmp_ge C (tgt := 193) d_Mo_choose_117 (by decide) (by omega) (by omega) (by omega) (by omega) (fun c117 => ?_) (fun c117 => ?_)
    · exfalso; omega
    · refine x_aload_n C d_Mo_choose_120 rfl ?_
      refine x_get C (G_Mo E.1) 25 (u_789 E.1) d_Mo_choose_121 (by decide) (by rfl) rfl ?_
      refine x_iload C d_Mo_choose_124 rfl ?_
      refine x_iald C d_Mo_choose_126 (show _ = some (iA cI 4 t.2.2.1) from rfl) (by omega) (by omega) (by omega) ?_
      refine x_iload_n C d_Mo_choose_127 rfl ?_
      refine x_icmp_gt C (tgt := 148) d_Mo_choose_128 (by decide) (by omega) (by omega) (by omega) (by omega) (fun c128 => ?_) (fun c128 => ?_)
      · have ha0 : (agZ src κ.2.2.1 (t.2.1 - t.2.2.1 k) t.2.1) = 0 := if_pos (Or.inl (by omega))
        refine x_iconst C d_Mo_choose_148 ?_
        refine x_istore C d_Mo_choose_149 (by decide) ?_
        refine x_aload_n C d_Mo_choose_151 rfl ?_
        refine x_iload C d_Mo_choose_152 rfl ?_
        refine x_iload C d_Mo_choose_154 rfl ?_
        refine x_icmp_le C (tgt := 164) d_Mo_choose_156 (by decide) (by omega) (by omega) (by omega) (by omega) (fun c156 => ?_) (fun c156 => ?_)
        · refine x_aload_n C d_Mo_choose_164 rfl ?_
          refine x_get C (G_Mo E.1) 33 (u_797 E.1) d_Mo_choose_165 (by decide) (by rfl) (show _ = some (.int (zI ec)) from rfl) ?_
          refine x_put C (G_Mo E.1) 33 (u_797 E.1) d_Mo_choose_168 (by decide) rfl (by rfl) rfl rfl (nle rfl) ?_
          refine x_iload C d_Mo_choose_171 rfl ?_
          refine x_iload C d_Mo_choose_173 rfl ?_
          refine x_icmp_le C (tgt := 183) d_Mo_choose_175 (by decide) (by omega) (by omega) (by omega) (by omega) (fun c175 => ?_) (fun c175 => ?_)
          · refine x_iload C d_Mo_choose_183 rfl ?_
            refine x_istore C d_Mo_choose_185 (by decide) ?_
            refine x_iinc C d_Mo_choose_187 (by decide) rfl ?_
            refine x_goto C (tgt := 114) d_Mo_choose_190 (by decide) ?_
            first
              | (exfalso; omega)
              | (rw [if_neg (by omega)] at hX
                 refine XW.heq (h' := sM s0.heap.size cI h κ (c0, (t, T, cnt, (y1, y2, y3, ec)))) (sM_eq rfl rfl rfl rfl rfl rfl rfl rfl (fun q q1 q2 q3 q4 q5 q6 q7 q8 => by simp only [sM, a_up, beq_f q1, beq_f q2, beq_f q3, beq_f q4, beq_f q5, beq_f q6, beq_f q7, beq_f q8, cond_false])) ?_
                 refine XW.loc (lv' := [(0, .ref (s0.heap.size + 33)), (1, .int (zI t.2.1)), (2, .int (zI (matchZ src κ.2.2.1 t.2.1 κ.2.1 t.2.1.toNat (0, 0, 0)).1)), (3, .int (zI (matchZ src κ.2.2.1 t.2.1 κ.2.1 t.2.1.toNat (0, 0, 0)).2)), (5, .int (zI ln)), (6, .int (zI (k + 1)))]) ⟨rfl, rfl, rfl, rfl, rfl, rfl, trivial⟩ ?_
                 exact ih _ _ _ (by omega) (by omega) l1 l2 hX)
              | (rw [if_pos (by omega)] at hX
                 refine XW.heq (h' := sM s0.heap.size cI h κ (c0, (t, T, cnt, (y1, y2, y3, k)))) (sM_eq rfl rfl rfl rfl rfl rfl rfl rfl (fun q q1 q2 q3 q4 q5 q6 q7 q8 => by simp only [sM, a_up, beq_f q1, beq_f q2, beq_f q3, beq_f q4, beq_f q5, beq_f q6, beq_f q7, beq_f q8, cond_false])) ?_
                 refine XW.loc (lv' := [(0, .ref (s0.heap.size + 33)), (1, .int (zI t.2.1)), (2, .int (zI (matchZ src κ.2.2.1 t.2.1 κ.2.1 t.2.1.toNat (0, 0, 0)).1)), (3, .int (zI (matchZ src κ.2.2.1 t.2.1 κ.2.1 t.2.1.toNat (0, 0, 0)).2)), (5, .int (zI (agZ src κ.2.2.1 (t.2.1 - t.2.2.1 k) t.2.1))), (6, .int (zI (k + 1)))]) ⟨rfl, rfl, rfl, rfl, rfl, rfl, trivial⟩ ?_
                 exact ih _ _ _ (by omega) (by omega) (by omega) (by omega) hX)
          · refine x_iload C d_Mo_choose_178 rfl ?_
            refine x_goto C (tgt := 185) d_Mo_choose_180 (by decide) ?_
            refine x_istore C d_Mo_choose_185 (by decide) ?_
            refine x_iinc C d_Mo_choose_187 (by decide) rfl ?_
            refine x_goto C (tgt := 114) d_Mo_choose_190 (by decide) ?_
            first
              | (exfalso; omega)
              | (rw [if_neg (by omega)] at hX
                 refine XW.heq (h' := sM s0.heap.size cI h κ (c0, (t, T, cnt, (y1, y2, y3, ec)))) (sM_eq rfl rfl rfl rfl rfl rfl rfl rfl (fun q q1 q2 q3 q4 q5 q6 q7 q8 => by simp only [sM, a_up, beq_f q1, beq_f q2, beq_f q3, beq_f q4, beq_f q5, beq_f q6, beq_f q7, beq_f q8, cond_false])) ?_
                 refine XW.loc (lv' := [(0, .ref (s0.heap.size + 33)), (1, .int (zI t.2.1)), (2, .int (zI (matchZ src κ.2.2.1 t.2.1 κ.2.1 t.2.1.toNat (0, 0, 0)).1)), (3, .int (zI (matchZ src κ.2.2.1 t.2.1 κ.2.1 t.2.1.toNat (0, 0, 0)).2)), (5, .int (zI ln)), (6, .int (zI (k + 1)))]) ⟨rfl, rfl, rfl, rfl, rfl, rfl, trivial⟩ ?_
                 exact ih _ _ _ (by omega) (by omega) l1 l2 hX)
              | (rw [if_pos (by omega)] at hX
                 refine XW.heq (h' := sM s0.heap.size cI h κ (c0, (t, T, cnt, (y1, y2, y3, k)))) (sM_eq rfl rfl rfl rfl rfl rfl rfl rfl (fun q q1 q2 q3 q4 q5 q6 q7 q8 => by simp only [sM, a_up, beq_f q1, beq_f q2, beq_f q3, beq_f q4, beq_f q5, beq_f q6, beq_f q7, beq_f q8, cond_false])) ?_
                 refine XW.loc (lv' := [(0, .ref (s0.heap.size + 33)), (1, .int (zI t.2.1)), (2, .int (zI (matchZ src κ.2.2.1 t.2.1 κ.2.1 t.2.1.toNat (0, 0, 0)).1)), (3, .int (zI (matchZ src κ.2.2.1 t.2.1 κ.2.1 t.2.1.toNat (0, 0, 0)).2)), (5, .int (zI (agZ src κ.2.2.1 (t.2.1 - t.2.2.1 k) t.2.1))), (6, .int (zI (k + 1)))]) ⟨rfl, rfl, rfl, rfl, rfl, rfl, trivial⟩ ?_
                 exact ih _ _ _ (by omega) (by omega) (by omega) (by omega) hX)
        · refine x_iload C d_Mo_choose_159 rfl ?_
          refine x_goto C (tgt := 168) d_Mo_choose_161 (by decide) ?_
          refine x_put C (G_Mo E.1) 33 (u_797 E.1) d_Mo_choose_168 (by decide) rfl (by rfl) rfl rfl (nle rfl) ?_
          refine x_iload C d_Mo_choose_171 rfl ?_
          refine x_iload C d_Mo_choose_173 rfl ?_
          refine x_icmp_le C (tgt := 183) d_Mo_choose_175 (by decide) (by omega) (by omega) (by omega) (by omega) (fun c175 => ?_) (fun c175 => ?_)
          · refine x_iload C d_Mo_choose_183 rfl ?_
            refine x_istore C d_Mo_choose_185 (by decide) ?_
            refine x_iinc C d_Mo_choose_187 (by decide) rfl ?_
            refine x_goto C (tgt := 114) d_Mo_choose_190 (by decide) ?_
            first
              | (exfalso; omega)
              | (rw [if_neg (by omega)] at hX
                 refine XW.heq (h' := sM s0.heap.size cI h κ (c0, (t, T, cnt, (y1, y2, y3, ec)))) (sM_eq rfl rfl rfl rfl rfl rfl rfl rfl (fun q q1 q2 q3 q4 q5 q6 q7 q8 => by simp only [sM, a_up, beq_f q1, beq_f q2, beq_f q3, beq_f q4, beq_f q5, beq_f q6, beq_f q7, beq_f q8, cond_false])) ?_
                 refine XW.loc (lv' := [(0, .ref (s0.heap.size + 33)), (1, .int (zI t.2.1)), (2, .int (zI (matchZ src κ.2.2.1 t.2.1 κ.2.1 t.2.1.toNat (0, 0, 0)).1)), (3, .int (zI (matchZ src κ.2.2.1 t.2.1 κ.2.1 t.2.1.toNat (0, 0, 0)).2)), (5, .int (zI ln)), (6, .int (zI (k + 1)))]) ⟨rfl, rfl, rfl, rfl, rfl, rfl, trivial⟩ ?_
                 exact ih _ _ _ (by omega) (by omega) l1 l2 hX)
              | (rw [if_pos (by omega)] at hX
                 refine XW.heq (h' := sM s0.heap.size cI h κ (c0, (t, T, cnt, (y1, y2, y3, k)))) (sM_eq rfl rfl rfl rfl rfl rfl rfl rfl (fun q q1 q2 q3 q4 q5 q6 q7 q8 => by simp only [sM, a_up, beq_f q1, beq_f q2, beq_f q3, beq_f q4, beq_f q5, beq_f q6, beq_f q7, beq_f q8, cond_false])) ?_
                 refine XW.loc (lv' := [(0, .ref (s0.heap.size + 33)), (1, .int (zI t.2.1)), (2, .int (zI (matchZ src κ.2.2.1 t.2.1 κ.2.1 t.2.1.toNat (0, 0, 0)).1)), (3, .int (zI (matchZ src κ.2.2.1 t.2.1 κ.2.1 t.2.1.toNat (0, 0, 0)).2)), (5, .int (zI (agZ src κ.2.2.1 (t.2.1 - t.2.2.1 k) t.2.1))), (6, .int (zI (k + 1)))]) ⟨rfl, rfl, rfl, rfl, rfl, rfl, trivial⟩ ?_
                 exact ih _ _ _ (by omega) (by omega) (by omega) (by omega) hX)
          · refine x_iload C d_Mo_choose_178 rfl ?_
            refine x_goto C (tgt := 185) d_Mo_choose_180 (by decide) ?_
            refine x_istore C d_Mo_choose_185 (by decide) ?_
            refine x_iinc C d_Mo_choose_187 (by decide) rfl ?_
            refine x_goto C (tgt := 114) d_Mo_choose_190 (by decide) ?_
            first
              | (exfalso; omega)
              | (rw [if_neg (by omega)] at hX
                 refine XW.heq (h' := sM s0.heap.size cI h κ (c0, (t, T, cnt, (y1, y2, y3, ec)))) (sM_eq rfl rfl rfl rfl rfl rfl rfl rfl (fun q q1 q2 q3 q4 q5 q6 q7 q8 => by simp only [sM, a_up, beq_f q1, beq_f q2, beq_f q3, beq_f q4, beq_f q5, beq_f q6, beq_f q7, beq_f q8, cond_false])) ?_
                 refine XW.loc (lv' := [(0, .ref (s0.heap.size + 33)), (1, .int (zI t.2.1)), (2, .int (zI (matchZ src κ.2.2.1 t.2.1 κ.2.1 t.2.1.toNat (0, 0, 0)).1)), (3, .int (zI (matchZ src κ.2.2.1 t.2.1 κ.2.1 t.2.1.toNat (0, 0, 0)).2)), (5, .int (zI ln)), (6, .int (zI (k + 1)))]) ⟨rfl, rfl, rfl, rfl, rfl, rfl, trivial⟩ ?_
                 exact ih _ _ _ (by omega) (by omega) l1 l2 hX)
              | (rw [if_pos (by omega)] at hX
                 refine XW.heq (h' := sM s0.heap.size cI h κ (c0, (t, T, cnt, (y1, y2, y3, k)))) (sM_eq rfl rfl rfl rfl rfl rfl rfl rfl (fun q q1 q2 q3 q4 q5 q6 q7 q8 => by simp only [sM, a_up, beq_f q1, beq_f q2, beq_f q3, beq_f q4, beq_f q5, beq_f q6, beq_f q7, beq_f q8, cond_false])) ?_
                 refine XW.loc (lv' := [(0, .ref (s0.heap.size + 33)), (1, .int (zI t.2.1)), (2, .int (zI (matchZ src κ.2.2.1 t.2.1 κ.2.1 t.2.1.toNat (0, 0, 0)).1)), (3, .int (zI (matchZ src κ.2.2.1 t.2.1 κ.2.1 t.2.1.toNat (0, 0, 0)).2)), (5, .int (zI (agZ src κ.2.2.1 (t.2.1 - t.2.2.1 k) t.2.1))), (6, .int (zI (k + 1)))]) ⟨rfl, rfl, rfl, rfl, rfl, rfl, trivial⟩ ?_
                 exact ih _ _ _ (by omega) (by omega) (by omega) (by omega) hX)
      · refine x_aload_n C d_Mo_choose_131 rfl ?_
        refine x_iload_n C d_Mo_choose_132 rfl ?_
        refine x_aload_n C d_Mo_choose_133 rfl ?_
        refine x_get C (G_Mo E.1) 25 (u_789 E.1) d_Mo_choose_134 (by decide) (by rfl) rfl ?_
        refine x_iload C d_Mo_choose_137 rfl ?_
        refine x_iald C d_Mo_choose_139 (show _ = some (iA cI 4 t.2.2.1) from rfl) (by omega) (by omega) (by omega) ?_
        refine x_isub C d_Mo_choose_140 ?_
        refine x_iload_n C d_Mo_choose_141 rfl ?_
        refine x_callVR C (G_Mo E.1) (u_895 E.1) (u_897 E.1) (us_25 E.1) (u_898 E.1) (u_13 E.1) d_Mo_choose_142 (c_Mo_agree l E h34 hs hn.1 (by omega) n2 (by omega) (by omega)) nh_Mo_agree ln_Mo_agree rfl rfl (nle rfl) (nle rfl) (nle rfl) (nle rfl) (nle rfl) ?_
        refine x_goto C (tgt := 149) d_Mo_choose_145 (by decide) ?_
        refine x_istore C d_Mo_choose_149 (by decide) ?_
        refine x_aload_n C d_Mo_choose_151 rfl ?_
        refine x_iload C d_Mo_choose_152 rfl ?_
        refine x_iload C d_Mo_choose_154 rfl ?_
        refine x_icmp_le C (tgt := 164) d_Mo_choose_156 (by decide) (by omega) (by omega) (by omega) (by omega) (fun c156 => ?_) (fun c156 => ?_)
        · refine x_aload_n C d_Mo_choose_164 rfl ?_
          refine x_get C (G_Mo E.1) 33 (u_797 E.1) d_Mo_choose_165 (by decide) (by rfl) (show _ = some (.int (zI ec)) from rfl) ?_
          refine x_put C (G_Mo E.1) 33 (u_797 E.1) d_Mo_choose_168 (by decide) rfl (by rfl) rfl rfl (nle rfl) ?_
          refine x_iload C d_Mo_choose_171 rfl ?_
          refine x_iload C d_Mo_choose_173 rfl ?_
          refine x_icmp_le C (tgt := 183) d_Mo_choose_175 (by decide) (by omega) (by omega) (by omega) (by omega) (fun c175 => ?_) (fun c175 => ?_)
          · refine x_iload C d_Mo_choose_183 rfl ?_
            refine x_istore C d_Mo_choose_185 (by decide) ?_
            refine x_iinc C d_Mo_choose_187 (by decide) rfl ?_
            refine x_goto C (tgt := 114) d_Mo_choose_190 (by decide) ?_
            first
              | (exfalso; omega)
              | (rw [if_neg (by omega)] at hX
                 refine XW.heq (h' := sM s0.heap.size cI h κ (c0, (t, T, cnt, (y1, y2, y3, ec)))) (sM_eq rfl rfl rfl rfl rfl rfl rfl rfl (fun q q1 q2 q3 q4 q5 q6 q7 q8 => by simp only [sM, a_up, beq_f q1, beq_f q2, beq_f q3, beq_f q4, beq_f q5, beq_f q6, beq_f q7, beq_f q8, cond_false])) ?_
                 refine XW.loc (lv' := [(0, .ref (s0.heap.size + 33)), (1, .int (zI t.2.1)), (2, .int (zI (matchZ src κ.2.2.1 t.2.1 κ.2.1 t.2.1.toNat (0, 0, 0)).1)), (3, .int (zI (matchZ src κ.2.2.1 t.2.1 κ.2.1 t.2.1.toNat (0, 0, 0)).2)), (5, .int (zI ln)), (6, .int (zI (k + 1)))]) ⟨rfl, rfl, rfl, rfl, rfl, rfl, trivial⟩ ?_
                 exact ih _ _ _ (by omega) (by omega) l1 l2 hX)
              | (rw [if_pos (by omega)] at hX
                 refine XW.heq (h' := sM s0.heap.size cI h κ (c0, (t, T, cnt, (y1, y2, y3, k)))) (sM_eq rfl rfl rfl rfl rfl rfl rfl rfl (fun q q1 q2 q3 q4 q5 q6 q7 q8 => by simp only [sM, a_up, beq_f q1, beq_f q2, beq_f q3, beq_f q4, beq_f q5, beq_f q6, beq_f q7, beq_f q8, cond_false])) ?_
                 refine XW.loc (lv' := [(0, .ref (s0.heap.size + 33)), (1, .int (zI t.2.1)), (2, .int (zI (matchZ src κ.2.2.1 t.2.1 κ.2.1 t.2.1.toNat (0, 0, 0)).1)), (3, .int (zI (matchZ src κ.2.2.1 t.2.1 κ.2.1 t.2.1.toNat (0, 0, 0)).2)), (5, .int (zI (agZ src κ.2.2.1 (t.2.1 - t.2.2.1 k) t.2.1))), (6, .int (zI (k + 1)))]) ⟨rfl, rfl, rfl, rfl, rfl, rfl, trivial⟩ ?_
                 exact ih _ _ _ (by omega) (by omega) (by omega) (by omega) hX)
          · refine x_iload C d_Mo_choose_178 rfl ?_
            refine x_goto C (tgt := 185) d_Mo_choose_180 (by decide) ?_
            refine x_istore C d_Mo_choose_185 (by decide) ?_
            refine x_iinc C d_Mo_choose_187 (by decide) rfl ?_
            refine x_goto C (tgt := 114) d_Mo_choose_190 (by decide) ?_
            first
              | (exfalso; omega)
              | (rw [if_neg (by omega)] at hX
                 refine XW.heq (h' := sM s0.heap.size cI h κ (c0, (t, T, cnt, (y1, y2, y3, ec)))) (sM_eq rfl rfl rfl rfl rfl rfl rfl rfl (fun q q1 q2 q3 q4 q5 q6 q7 q8 => by simp only [sM, a_up, beq_f q1, beq_f q2, beq_f q3, beq_f q4, beq_f q5, beq_f q6, beq_f q7, beq_f q8, cond_false])) ?_
                 refine XW.loc (lv' := [(0, .ref (s0.heap.size + 33)), (1, .int (zI t.2.1)), (2, .int (zI (matchZ src κ.2.2.1 t.2.1 κ.2.1 t.2.1.toNat (0, 0, 0)).1)), (3, .int (zI (matchZ src κ.2.2.1 t.2.1 κ.2.1 t.2.1.toNat (0, 0, 0)).2)), (5, .int (zI ln)), (6, .int (zI (k + 1)))]) ⟨rfl, rfl, rfl, rfl, rfl, rfl, trivial⟩ ?_
                 exact ih _ _ _ (by omega) (by omega) l1 l2 hX)
              | (rw [if_pos (by omega)] at hX
                 refine XW.heq (h' := sM s0.heap.size cI h κ (c0, (t, T, cnt, (y1, y2, y3, k)))) (sM_eq rfl rfl rfl rfl rfl rfl rfl rfl (fun q q1 q2 q3 q4 q5 q6 q7 q8 => by simp only [sM, a_up, beq_f q1, beq_f q2, beq_f q3, beq_f q4, beq_f q5, beq_f q6, beq_f q7, beq_f q8, cond_false])) ?_
                 refine XW.loc (lv' := [(0, .ref (s0.heap.size + 33)), (1, .int (zI t.2.1)), (2, .int (zI (matchZ src κ.2.2.1 t.2.1 κ.2.1 t.2.1.toNat (0, 0, 0)).1)), (3, .int (zI (matchZ src κ.2.2.1 t.2.1 κ.2.1 t.2.1.toNat (0, 0, 0)).2)), (5, .int (zI (agZ src κ.2.2.1 (t.2.1 - t.2.2.1 k) t.2.1))), (6, .int (zI (k + 1)))]) ⟨rfl, rfl, rfl, rfl, rfl, rfl, trivial⟩ ?_
                 exact ih _ _ _ (by omega) (by omega) (by omega) (by omega) hX)
        · refine x_iload C d_Mo_choose_159 rfl ?_
          refine x_goto C (tgt := 168) d_Mo_choose_161 (by decide) ?_
          refine x_put C (G_Mo E.1) 33 (u_797 E.1) d_Mo_choose_168 (by decide) rfl (by rfl) rfl rfl (nle rfl) ?_
          refine x_iload C d_Mo_choose_171 rfl ?_
          refine x_iload C d_Mo_choose_173 rfl ?_
          refine x_icmp_le C (tgt := 183) d_Mo_choose_175 (by decide) (by omega) (by omega) (by omega) (by omega) (fun c175 => ?_) (fun c175 => ?_)
          · refine x_iload C d_Mo_choose_183 rfl ?_
            refine x_istore C d_Mo_choose_185 (by decide) ?_
            refine x_iinc C d_Mo_choose_187 (by decide) rfl ?_
            refine x_goto C (tgt := 114) d_Mo_choose_190 (by decide) ?_
            first
              | (exfalso; omega)
              | (rw [if_neg (by omega)] at hX
                 refine XW.heq (h' := sM s0.heap.size cI h κ (c0, (t, T, cnt, (y1, y2, y3, ec)))) (sM_eq rfl rfl rfl rfl rfl rfl rfl rfl (fun q q1 q2 q3 q4 q5 q6 q7 q8 => by simp only [sM, a_up, beq_f q1, beq_f q2, beq_f q3, beq_f q4, beq_f q5, beq_f q6, beq_f q7, beq_f q8, cond_false])) ?_
                 refine XW.loc (lv' := [(0, .ref (s0.heap.size + 33)), (1, .int (zI t.2.1)), (2, .int (zI (matchZ src κ.2.2.1 t.2.1 κ.2.1 t.2.1.toNat (0, 0, 0)).1)), (3, .int (zI (matchZ src κ.2.2.1 t.2.1 κ.2.1 t.2.1.toNat (0, 0, 0)).2)), (5, .int (zI ln)), (6, .int (zI (k + 1)))]) ⟨rfl, rfl, rfl, rfl, rfl, rfl, trivial⟩ ?_
                 exact ih _ _ _ (by omega) (by omega) l1 l2 hX)
              | (rw [if_pos (by omega)] at hX
                 refine XW.heq (h' := sM s0.heap.size cI h κ (c0, (t, T, cnt, (y1, y2, y3, k)))) (sM_eq rfl rfl rfl rfl rfl rfl rfl rfl (fun q q1 q2 q3 q4 q5 q6 q7 q8 => by simp only [sM, a_up, beq_f q1, beq_f q2, beq_f q3, beq_f q4, beq_f q5, beq_f q6, beq_f q7, beq_f q8, cond_false])) ?_
                 refine XW.loc (lv' := [(0, .ref (s0.heap.size + 33)), (1, .int (zI t.2.1)), (2, .int (zI (matchZ src κ.2.2.1 t.2.1 κ.2.1 t.2.1.toNat (0, 0, 0)).1)), (3, .int (zI (matchZ src κ.2.2.1 t.2.1 κ.2.1 t.2.1.toNat (0, 0, 0)).2)), (5, .int (zI (agZ src κ.2.2.1 (t.2.1 - t.2.2.1 k) t.2.1))), (6, .int (zI (k + 1)))]) ⟨rfl, rfl, rfl, rfl, rfl, rfl, trivial⟩ ?_
                 exact ih _ _ _ (by omega) (by omega) (by omega) (by omega) hX)
          · refine x_iload C d_Mo_choose_178 rfl ?_
            refine x_goto C (tgt := 185) d_Mo_choose_180 (by decide) ?_
            refine x_istore C d_Mo_choose_185 (by decide) ?_
            refine x_iinc C d_Mo_choose_187 (by decide) rfl ?_
            refine x_goto C (tgt := 114) d_Mo_choose_190 (by decide) ?_
            first
              | (exfalso; omega)
              | (rw [if_neg (by omega)] at hX
                 refine XW.heq (h' := sM s0.heap.size cI h κ (c0, (t, T, cnt, (y1, y2, y3, ec)))) (sM_eq rfl rfl rfl rfl rfl rfl rfl rfl (fun q q1 q2 q3 q4 q5 q6 q7 q8 => by simp only [sM, a_up, beq_f q1, beq_f q2, beq_f q3, beq_f q4, beq_f q5, beq_f q6, beq_f q7, beq_f q8, cond_false])) ?_
                 refine XW.loc (lv' := [(0, .ref (s0.heap.size + 33)), (1, .int (zI t.2.1)), (2, .int (zI (matchZ src κ.2.2.1 t.2.1 κ.2.1 t.2.1.toNat (0, 0, 0)).1)), (3, .int (zI (matchZ src κ.2.2.1 t.2.1 κ.2.1 t.2.1.toNat (0, 0, 0)).2)), (5, .int (zI ln)), (6, .int (zI (k + 1)))]) ⟨rfl, rfl, rfl, rfl, rfl, rfl, trivial⟩ ?_
                 exact ih _ _ _ (by omega) (by omega) l1 l2 hX)
              | (rw [if_pos (by omega)] at hX
                 refine XW.heq (h' := sM s0.heap.size cI h κ (c0, (t, T, cnt, (y1, y2, y3, k)))) (sM_eq rfl rfl rfl rfl rfl rfl rfl rfl (fun q q1 q2 q3 q4 q5 q6 q7 q8 => by simp only [sM, a_up, beq_f q1, beq_f q2, beq_f q3, beq_f q4, beq_f q5, beq_f q6, beq_f q7, beq_f q8, cond_false])) ?_
                 refine XW.loc (lv' := [(0, .ref (s0.heap.size + 33)), (1, .int (zI t.2.1)), (2, .int (zI (matchZ src κ.2.2.1 t.2.1 κ.2.1 t.2.1.toNat (0, 0, 0)).1)), (3, .int (zI (matchZ src κ.2.2.1 t.2.1 κ.2.1 t.2.1.toNat (0, 0, 0)).2)), (5, .int (zI (agZ src κ.2.2.1 (t.2.1 - t.2.2.1 k) t.2.1))), (6, .int (zI (k + 1)))]) ⟨rfl, rfl, rfl, rfl, rfl, rfl, trivial⟩ ?_
                 exact ih _ _ _ (by omega) (by omega) (by omega) (by omega) hX)
set_option maxRecDepth 100000 in
set_option maxHeartbeats 4000000 in
theorem l17_Mo_choose {a0 : Array Value} {s0 : State} {D : va_G} {cI cL : ClassId} (l : Launch) (E : a_E a0 s0 D cI cL) {p : Program} {e : Env} {R : Room} {s : State} {m : MethodId} {args : Array Value} {below : List Frame} {meth : Method} {c : Code} (C : XC s0 D cI cL p s m meth c "NarrowingPackerModel" prog_13_method_24_code 8 none []) (hR : R = a_rm 1 0 0) {h : AH} {K : Nat} {κ : Kp} {c0 : Cd} {t : Hs} {T : T3} {cnt y1 y2 y3 : Int} {y4 : Int} {src : Int → Int} (h34 : h 34 = some (iA cI 120 src)) (hs : ∀ q, 0 ≤ src q ∧ src q < 256) (hk : hOk t) (i2 : t.2.1 < κ.2.2.1) (n2 : κ.2.2.1 ≤ 120) (c1 : 1 ≤ κ.2.1) (c2 : κ.2.1 ≤ 16) : ∀ (j : Nat) (tr ln ds : Int), (j : Int) ≤ t.2.1 → 0 ≤ tr → tr ≤ 16 → 0 ≤ ln → ln ≤ 120 → matchZ src κ.2.2.1 t.2.1 κ.2.1 j (tr, ln, ds) = (matchZ src κ.2.2.1 t.2.1 κ.2.1 t.2.1.toNat (0, 0, 0)) → XW s0 D p l e R s m args below meth c (XQ s0 D 0 0 (PR none (sM s0.heap.size cI h κ (c0, (t, T, cnt, (chW κ.2.1 src κ.2.2.1 t)))) K) below s) 17 [(0, .ref (s0.heap.size + 33)), (1, .int (zI t.2.1)), (2, .int (zI ln)), (3, .int (zI ds)), (4, .int (zI tr)), (5, .int (zI ((j : Nat) - 1 : Int)))] [] (sM s0.heap.size cI h κ (c0, (t, T, cnt, (y1, y2, y3, y4)))) K 0 0 := by
  have hl := fun (ln ds : Int) => l114_Mo_choose l E C hR (h := h) (K := K) (κ := κ) (c0 := c0) (t := t) (T := T) (cnt := cnt) (y1 := y1) (y2 := y2) (y3 := y3) h34 hs hk i2 n2 c1 c2 4 0 0 0 (by decide) (by decide) (by decide) (by decide) rfl (e := e) (args := args) (below := below)
  subst hR
  intro j
  have hn := hk.2.1
  induction j with
  | zero =>
    intro tr ln ds hj t1 t2 l1 l2 hX
    have hX : (ln, ds) = (matchZ src κ.2.2.1 t.2.1 κ.2.1 t.2.1.toNat (0, 0, 0)) := hX
    refine x_iload C d_Mo_choose_17 rfl ?_
    refine x_if_lt C (tgt := 103) d_Mo_choose_19 (by decide) (by omega) (by omega) (fun c19 => ?_) (fun c19 => ?_)
    · refine x_iconst C d_Mo_choose_103 ?_
      refine x_istore C d_Mo_choose_104 (by decide) ?_
      refine x_aload_n C d_Mo_choose_106 rfl ?_
      refine x_iconst C d_Mo_choose_107 ?_
      refine x_put C (G_Mo E.1) 33 (u_797 E.1) d_Mo_choose_108 (by decide) rfl (by rfl) rfl rfl (nle rfl) ?_
      refine x_iconst C d_Mo_choose_111 ?_
      refine x_istore C d_Mo_choose_112 (by decide) ?_
      refine XW.heq (h' := sM s0.heap.size cI h κ (c0, (t, T, cnt, (y1, y2, y3, 0)))) (sM_eq rfl rfl rfl rfl rfl rfl rfl rfl (fun q q1 q2 q3 q4 q5 q6 q7 q8 => by simp only [sM, a_up, beq_f q1, beq_f q2, beq_f q3, beq_f q4, beq_f q5, beq_f q6, beq_f q7, beq_f q8, cond_false])) ?_
      refine XW.loc (lv' := [(0, .ref (s0.heap.size + 33)), (1, .int (zI t.2.1)), (2, .int (zI (matchZ src κ.2.2.1 t.2.1 κ.2.1 t.2.1.toNat (0, 0, 0)).1)), (3, .int (zI (matchZ src κ.2.2.1 t.2.1 κ.2.1 t.2.1.toNat (0, 0, 0)).2)), (5, .int (zI 0)), (6, .int (zI 0))]) ⟨rfl, rfl, by rw [← hX]; rfl, by rw [← hX]; rfl, rfl, rfl, trivial⟩ ?_
      exact hl 0 0
    · exfalso; omega
  | succ j ih =>
    intro tr ln ds hj t1 t2 l1 l2 hX
    rw [show (((j + 1 : Nat) : Int) - 1) = (j : Int) by omega]
    have ha := ag_b (src := src) (n := κ.2.2.1) (j := (j : Int)) (i := t.2.1) (by omega)
    simp only [matchZ] at hX
    refine x_iload C d_Mo_choose_17 rfl ?_
    refine x_if_lt C (tgt := 103) d_Mo_choose_19 (by decide) (by omega) (by omega) (fun c19 => ?_) (fun c19 => ?_)
    · first
        | (exfalso; omega)
        | (rw [if_neg (by omega)] at hX
           refine x_iconst C d_Mo_choose_103 ?_
           refine x_istore C d_Mo_choose_104 (by decide) ?_
           refine x_aload_n C d_Mo_choose_106 rfl ?_
           refine x_iconst C d_Mo_choose_107 ?_
           refine x_put C (G_Mo E.1) 33 (u_797 E.1) d_Mo_choose_108 (by decide) rfl (by rfl) rfl rfl (nle rfl) ?_
           refine x_iconst C d_Mo_choose_111 ?_
           refine x_istore C d_Mo_choose_112 (by decide) ?_
           refine XW.heq (h' := sM s0.heap.size cI h κ (c0, (t, T, cnt, (y1, y2, y3, 0)))) (sM_eq rfl rfl rfl rfl rfl rfl rfl rfl (fun q q1 q2 q3 q4 q5 q6 q7 q8 => by simp only [sM, a_up, beq_f q1, beq_f q2, beq_f q3, beq_f q4, beq_f q5, beq_f q6, beq_f q7, beq_f q8, cond_false])) ?_
           refine XW.loc (lv' := [(0, .ref (s0.heap.size + 33)), (1, .int (zI t.2.1)), (2, .int (zI (matchZ src κ.2.2.1 t.2.1 κ.2.1 t.2.1.toNat (0, 0, 0)).1)), (3, .int (zI (matchZ src κ.2.2.1 t.2.1 κ.2.1 t.2.1.toNat (0, 0, 0)).2)), (5, .int (zI 0)), (6, .int (zI 0))]) ⟨rfl, rfl, by rw [← hX]; rfl, by rw [← hX]; rfl, rfl, rfl, trivial⟩ ?_
           exact hl 0 0)
    · refine x_iload C d_Mo_choose_22 rfl ?_
      refine x_aload_n C d_Mo_choose_24 rfl ?_
      refine x_get C (G_Mo E.1) 1 (u_765 E.1) d_Mo_choose_25 (by decide) (by rfl) (show _ = some (.int (zI κ.2.1)) from rfl) ?_
      refine x_icmp_ge C (tgt := 103) d_Mo_choose_28 (by decide) (by omega) (by omega) (by omega) (by omega) (fun c28 => ?_) (fun c28 => ?_)
      · first
          | (exfalso; omega)
          | (rw [if_neg (by omega)] at hX
             refine x_iconst C d_Mo_choose_103 ?_
             refine x_istore C d_Mo_choose_104 (by decide) ?_
             refine x_aload_n C d_Mo_choose_106 rfl ?_
             refine x_iconst C d_Mo_choose_107 ?_
             refine x_put C (G_Mo E.1) 33 (u_797 E.1) d_Mo_choose_108 (by decide) rfl (by rfl) rfl rfl (nle rfl) ?_
             refine x_iconst C d_Mo_choose_111 ?_
             refine x_istore C d_Mo_choose_112 (by decide) ?_
             refine XW.heq (h' := sM s0.heap.size cI h κ (c0, (t, T, cnt, (y1, y2, y3, 0)))) (sM_eq rfl rfl rfl rfl rfl rfl rfl rfl (fun q q1 q2 q3 q4 q5 q6 q7 q8 => by simp only [sM, a_up, beq_f q1, beq_f q2, beq_f q3, beq_f q4, beq_f q5, beq_f q6, beq_f q7, beq_f q8, cond_false])) ?_
             refine XW.loc (lv' := [(0, .ref (s0.heap.size + 33)), (1, .int (zI t.2.1)), (2, .int (zI (matchZ src κ.2.2.1 t.2.1 κ.2.1 t.2.1.toNat (0, 0, 0)).1)), (3, .int (zI (matchZ src κ.2.2.1 t.2.1 κ.2.1 t.2.1.toNat (0, 0, 0)).2)), (5, .int (zI 0)), (6, .int (zI 0))]) ⟨rfl, rfl, by rw [← hX]; rfl, by rw [← hX]; rfl, rfl, rfl, trivial⟩ ?_
             exact hl 0 0)
      · refine x_aload_n C d_Mo_choose_31 rfl ?_
        refine x_iload C d_Mo_choose_32 rfl ?_
        refine x_iload_n C d_Mo_choose_34 rfl ?_
        refine x_callVR C (G_Mo E.1) (u_895 E.1) (u_897 E.1) (us_25 E.1) (u_898 E.1) (u_13 E.1) d_Mo_choose_35 (c_Mo_agree l E h34 hs hn.1 (by omega) n2 (by omega) (by omega)) nh_Mo_agree ln_Mo_agree rfl rfl (nle rfl) (nle rfl) (nle rfl) (nle rfl) (nle rfl) ?_
        refine x_istore C d_Mo_choose_38 (by decide) ?_
        refine x_iload C d_Mo_choose_40 rfl ?_
        refine x_iconst C d_Mo_choose_42 ?_
        refine x_icmp_lt C (tgt := 53) d_Mo_choose_43 (by decide) (by omega) (by omega) (by omega) (by omega) (fun c43 => ?_) (fun c43 => ?_)
        · refine x_iload C d_Mo_choose_53 rfl ?_
          refine x_istore C d_Mo_choose_55 (by decide) ?_
          refine x_iload C d_Mo_choose_57 rfl ?_
          refine x_iconst C d_Mo_choose_59 ?_
          refine x_icmp_lt C (tgt := 76) d_Mo_choose_60 (by decide) (by omega) (by omega) (by omega) (by omega) (fun c60 => ?_) (fun c60 => ?_)
          · refine x_iload_n C d_Mo_choose_76 rfl ?_
            refine x_istore_n C d_Mo_choose_77 (by decide) ?_
            refine x_iload C d_Mo_choose_78 rfl ?_
            refine x_iconst C d_Mo_choose_80 ?_
            refine x_icmp_lt C (tgt := 95) d_Mo_choose_81 (by decide) (by omega) (by omega) (by omega) (by omega) (fun c81 => ?_) (fun c81 => ?_)
            · refine x_iload_n C d_Mo_choose_95 rfl ?_
              refine x_istore_n C d_Mo_choose_96 (by decide) ?_
              refine x_iinc C d_Mo_choose_97 (by decide) rfl ?_
              refine x_goto C (tgt := 17) d_Mo_choose_100 (by decide) ?_
              first
                | (exfalso; omega)
                | (rw [if_pos (by omega), if_neg (by omega)] at hX
                   refine XW.loc (lv' := [(0, .ref (s0.heap.size + 33)), (1, .int (zI t.2.1)), (2, .int (zI ln)), (3, .int (zI ds)), (4, .int (zI tr)), (5, .int (zI ((j : Nat) - 1 : Int)))]) ⟨rfl, rfl, rfl, rfl, rfl, by rw [show ((j : Nat) - 1 : Int) = (j : Int) + -1 by omega]; rfl, trivial⟩ ?_
                   exact ih _ _ _ (by omega) (by omega) (by omega) l1 l2 hX)
                | (rw [if_pos (by omega), if_pos (by omega), if_neg (by omega)] at hX
                   refine XW.loc (lv' := [(0, .ref (s0.heap.size + 33)), (1, .int (zI t.2.1)), (2, .int (zI ln)), (3, .int (zI ds)), (4, .int (zI (tr + 1))), (5, .int (zI ((j : Nat) - 1 : Int)))]) ⟨rfl, rfl, rfl, rfl, rfl, by rw [show ((j : Nat) - 1 : Int) = (j : Int) + -1 by omega]; rfl, trivial⟩ ?_
                   exact ih _ _ _ (by omega) (by omega) (by omega) l1 l2 hX)
                | (rw [if_pos (by omega), if_pos (by omega), if_pos (by omega)] at hX
                   refine XW.loc (lv' := [(0, .ref (s0.heap.size + 33)), (1, .int (zI t.2.1)), (2, .int (zI (agZ src κ.2.2.1 (j : Int) t.2.1))), (3, .int (zI (t.2.1 - j))), (4, .int (zI (tr + 1))), (5, .int (zI ((j : Nat) - 1 : Int)))]) ⟨rfl, rfl, rfl, rfl, rfl, by rw [show ((j : Nat) - 1 : Int) = (j : Int) + -1 by omega]; rfl, trivial⟩ ?_
                   exact ih _ _ _ (by omega) (by omega) (by omega) (by omega) (by omega) hX)
            · refine x_iload C d_Mo_choose_84 rfl ?_
              refine x_iload_n C d_Mo_choose_86 rfl ?_
              refine x_icmp_le C (tgt := 95) d_Mo_choose_87 (by decide) (by omega) (by omega) (by omega) (by omega) (fun c87 => ?_) (fun c87 => ?_)
              · refine x_iload_n C d_Mo_choose_95 rfl ?_
                refine x_istore_n C d_Mo_choose_96 (by decide) ?_
                refine x_iinc C d_Mo_choose_97 (by decide) rfl ?_
                refine x_goto C (tgt := 17) d_Mo_choose_100 (by decide) ?_
                first
                  | (exfalso; omega)
                  | (rw [if_pos (by omega), if_neg (by omega)] at hX
                     refine XW.loc (lv' := [(0, .ref (s0.heap.size + 33)), (1, .int (zI t.2.1)), (2, .int (zI ln)), (3, .int (zI ds)), (4, .int (zI tr)), (5, .int (zI ((j : Nat) - 1 : Int)))]) ⟨rfl, rfl, rfl, rfl, rfl, by rw [show ((j : Nat) - 1 : Int) = (j : Int) + -1 by omega]; rfl, trivial⟩ ?_
                     exact ih _ _ _ (by omega) (by omega) (by omega) l1 l2 hX)
                  | (rw [if_pos (by omega), if_pos (by omega), if_neg (by omega)] at hX
                     refine XW.loc (lv' := [(0, .ref (s0.heap.size + 33)), (1, .int (zI t.2.1)), (2, .int (zI ln)), (3, .int (zI ds)), (4, .int (zI (tr + 1))), (5, .int (zI ((j : Nat) - 1 : Int)))]) ⟨rfl, rfl, rfl, rfl, rfl, by rw [show ((j : Nat) - 1 : Int) = (j : Int) + -1 by omega]; rfl, trivial⟩ ?_
                     exact ih _ _ _ (by omega) (by omega) (by omega) l1 l2 hX)
                  | (rw [if_pos (by omega), if_pos (by omega), if_pos (by omega)] at hX
                     refine XW.loc (lv' := [(0, .ref (s0.heap.size + 33)), (1, .int (zI t.2.1)), (2, .int (zI (agZ src κ.2.2.1 (j : Int) t.2.1))), (3, .int (zI (t.2.1 - j))), (4, .int (zI (tr + 1))), (5, .int (zI ((j : Nat) - 1 : Int)))]) ⟨rfl, rfl, rfl, rfl, rfl, by rw [show ((j : Nat) - 1 : Int) = (j : Int) + -1 by omega]; rfl, trivial⟩ ?_
                     exact ih _ _ _ (by omega) (by omega) (by omega) (by omega) (by omega) hX)
              · refine x_iload C d_Mo_choose_90 rfl ?_
                refine x_goto C (tgt := 96) d_Mo_choose_92 (by decide) ?_
                refine x_istore_n C d_Mo_choose_96 (by decide) ?_
                refine x_iinc C d_Mo_choose_97 (by decide) rfl ?_
                refine x_goto C (tgt := 17) d_Mo_choose_100 (by decide) ?_
                first
                  | (exfalso; omega)
                  | (rw [if_pos (by omega), if_neg (by omega)] at hX
                     refine XW.loc (lv' := [(0, .ref (s0.heap.size + 33)), (1, .int (zI t.2.1)), (2, .int (zI ln)), (3, .int (zI ds)), (4, .int (zI tr)), (5, .int (zI ((j : Nat) - 1 : Int)))]) ⟨rfl, rfl, rfl, rfl, rfl, by rw [show ((j : Nat) - 1 : Int) = (j : Int) + -1 by omega]; rfl, trivial⟩ ?_
                     exact ih _ _ _ (by omega) (by omega) (by omega) l1 l2 hX)
                  | (rw [if_pos (by omega), if_pos (by omega), if_neg (by omega)] at hX
                     refine XW.loc (lv' := [(0, .ref (s0.heap.size + 33)), (1, .int (zI t.2.1)), (2, .int (zI ln)), (3, .int (zI ds)), (4, .int (zI (tr + 1))), (5, .int (zI ((j : Nat) - 1 : Int)))]) ⟨rfl, rfl, rfl, rfl, rfl, by rw [show ((j : Nat) - 1 : Int) = (j : Int) + -1 by omega]; rfl, trivial⟩ ?_
                     exact ih _ _ _ (by omega) (by omega) (by omega) l1 l2 hX)
                  | (rw [if_pos (by omega), if_pos (by omega), if_pos (by omega)] at hX
                     refine XW.loc (lv' := [(0, .ref (s0.heap.size + 33)), (1, .int (zI t.2.1)), (2, .int (zI (agZ src κ.2.2.1 (j : Int) t.2.1))), (3, .int (zI (t.2.1 - j))), (4, .int (zI (tr + 1))), (5, .int (zI ((j : Nat) - 1 : Int)))]) ⟨rfl, rfl, rfl, rfl, rfl, by rw [show ((j : Nat) - 1 : Int) = (j : Int) + -1 by omega]; rfl, trivial⟩ ?_
                     exact ih _ _ _ (by omega) (by omega) (by omega) (by omega) (by omega) hX)
          · refine x_iload C d_Mo_choose_63 rfl ?_
            refine x_iload_n C d_Mo_choose_65 rfl ?_
            refine x_icmp_le C (tgt := 76) d_Mo_choose_66 (by decide) (by omega) (by omega) (by omega) (by omega) (fun c66 => ?_) (fun c66 => ?_)
            · refine x_iload_n C d_Mo_choose_76 rfl ?_
              refine x_istore_n C d_Mo_choose_77 (by decide) ?_
              refine x_iload C d_Mo_choose_78 rfl ?_
              refine x_iconst C d_Mo_choose_80 ?_
              refine x_icmp_lt C (tgt := 95) d_Mo_choose_81 (by decide) (by omega) (by omega) (by omega) (by omega) (fun c81 => ?_) (fun c81 => ?_)
              · refine x_iload_n C d_Mo_choose_95 rfl ?_
                refine x_istore_n C d_Mo_choose_96 (by decide) ?_
                refine x_iinc C d_Mo_choose_97 (by decide) rfl ?_
                refine x_goto C (tgt := 17) d_Mo_choose_100 (by decide) ?_
                first
                  | (exfalso; omega)
                  | (rw [if_pos (by omega), if_neg (by omega)] at hX
                     refine XW.loc (lv' := [(0, .ref (s0.heap.size + 33)), (1, .int (zI t.2.1)), (2, .int (zI ln)), (3, .int (zI ds)), (4, .int (zI tr)), (5, .int (zI ((j : Nat) - 1 : Int)))]) ⟨rfl, rfl, rfl, rfl, rfl, by rw [show ((j : Nat) - 1 : Int) = (j : Int) + -1 by omega]; rfl, trivial⟩ ?_
                     exact ih _ _ _ (by omega) (by omega) (by omega) l1 l2 hX)
                  | (rw [if_pos (by omega), if_pos (by omega), if_neg (by omega)] at hX
                     refine XW.loc (lv' := [(0, .ref (s0.heap.size + 33)), (1, .int (zI t.2.1)), (2, .int (zI ln)), (3, .int (zI ds)), (4, .int (zI (tr + 1))), (5, .int (zI ((j : Nat) - 1 : Int)))]) ⟨rfl, rfl, rfl, rfl, rfl, by rw [show ((j : Nat) - 1 : Int) = (j : Int) + -1 by omega]; rfl, trivial⟩ ?_
                     exact ih _ _ _ (by omega) (by omega) (by omega) l1 l2 hX)
                  | (rw [if_pos (by omega), if_pos (by omega), if_pos (by omega)] at hX
                     refine XW.loc (lv' := [(0, .ref (s0.heap.size + 33)), (1, .int (zI t.2.1)), (2, .int (zI (agZ src κ.2.2.1 (j : Int) t.2.1))), (3, .int (zI (t.2.1 - j))), (4, .int (zI (tr + 1))), (5, .int (zI ((j : Nat) - 1 : Int)))]) ⟨rfl, rfl, rfl, rfl, rfl, by rw [show ((j : Nat) - 1 : Int) = (j : Int) + -1 by omega]; rfl, trivial⟩ ?_
                     exact ih _ _ _ (by omega) (by omega) (by omega) (by omega) (by omega) hX)
              · refine x_iload C d_Mo_choose_84 rfl ?_
                refine x_iload_n C d_Mo_choose_86 rfl ?_
                refine x_icmp_le C (tgt := 95) d_Mo_choose_87 (by decide) (by omega) (by omega) (by omega) (by omega) (fun c87 => ?_) (fun c87 => ?_)
                · refine x_iload_n C d_Mo_choose_95 rfl ?_
                  refine x_istore_n C d_Mo_choose_96 (by decide) ?_
                  refine x_iinc C d_Mo_choose_97 (by decide) rfl ?_
                  refine x_goto C (tgt := 17) d_Mo_choose_100 (by decide) ?_
                  first
                    | (exfalso; omega)
                    | (rw [if_pos (by omega), if_neg (by omega)] at hX
                       refine XW.loc (lv' := [(0, .ref (s0.heap.size + 33)), (1, .int (zI t.2.1)), (2, .int (zI ln)), (3, .int (zI ds)), (4, .int (zI tr)), (5, .int (zI ((j : Nat) - 1 : Int)))]) ⟨rfl, rfl, rfl, rfl, rfl, by rw [show ((j : Nat) - 1 : Int) = (j : Int) + -1 by omega]; rfl, trivial⟩ ?_
                       exact ih _ _ _ (by omega) (by omega) (by omega) l1 l2 hX)
                    | (rw [if_pos (by omega), if_pos (by omega), if_neg (by omega)] at hX
                       refine XW.loc (lv' := [(0, .ref (s0.heap.size + 33)), (1, .int (zI t.2.1)), (2, .int (zI ln)), (3, .int (zI ds)), (4, .int (zI (tr + 1))), (5, .int (zI ((j : Nat) - 1 : Int)))]) ⟨rfl, rfl, rfl, rfl, rfl, by rw [show ((j : Nat) - 1 : Int) = (j : Int) + -1 by omega]; rfl, trivial⟩ ?_
                       exact ih _ _ _ (by omega) (by omega) (by omega) l1 l2 hX)
                    | (rw [if_pos (by omega), if_pos (by omega), if_pos (by omega)] at hX
                       refine XW.loc (lv' := [(0, .ref (s0.heap.size + 33)), (1, .int (zI t.2.1)), (2, .int (zI (agZ src κ.2.2.1 (j : Int) t.2.1))), (3, .int (zI (t.2.1 - j))), (4, .int (zI (tr + 1))), (5, .int (zI ((j : Nat) - 1 : Int)))]) ⟨rfl, rfl, rfl, rfl, rfl, by rw [show ((j : Nat) - 1 : Int) = (j : Int) + -1 by omega]; rfl, trivial⟩ ?_
                       exact ih _ _ _ (by omega) (by omega) (by omega) (by omega) (by omega) hX)
                · refine x_iload C d_Mo_choose_90 rfl ?_
                  refine x_goto C (tgt := 96) d_Mo_choose_92 (by decide) ?_
                  refine x_istore_n C d_Mo_choose_96 (by decide) ?_
                  refine x_iinc C d_Mo_choose_97 (by decide) rfl ?_
                  refine x_goto C (tgt := 17) d_Mo_choose_100 (by decide) ?_
                  first
                    | (exfalso; omega)
                    | (rw [if_pos (by omega), if_neg (by omega)] at hX
                       refine XW.loc (lv' := [(0, .ref (s0.heap.size + 33)), (1, .int (zI t.2.1)), (2, .int (zI ln)), (3, .int (zI ds)), (4, .int (zI tr)), (5, .int (zI ((j : Nat) - 1 : Int)))]) ⟨rfl, rfl, rfl, rfl, rfl, by rw [show ((j : Nat) - 1 : Int) = (j : Int) + -1 by omega]; rfl, trivial⟩ ?_
                       exact ih _ _ _ (by omega) (by omega) (by omega) l1 l2 hX)
                    | (rw [if_pos (by omega), if_pos (by omega), if_neg (by omega)] at hX
                       refine XW.loc (lv' := [(0, .ref (s0.heap.size + 33)), (1, .int (zI t.2.1)), (2, .int (zI ln)), (3, .int (zI ds)), (4, .int (zI (tr + 1))), (5, .int (zI ((j : Nat) - 1 : Int)))]) ⟨rfl, rfl, rfl, rfl, rfl, by rw [show ((j : Nat) - 1 : Int) = (j : Int) + -1 by omega]; rfl, trivial⟩ ?_
                       exact ih _ _ _ (by omega) (by omega) (by omega) l1 l2 hX)
                    | (rw [if_pos (by omega), if_pos (by omega), if_pos (by omega)] at hX
                       refine XW.loc (lv' := [(0, .ref (s0.heap.size + 33)), (1, .int (zI t.2.1)), (2, .int (zI (agZ src κ.2.2.1 (j : Int) t.2.1))), (3, .int (zI (t.2.1 - j))), (4, .int (zI (tr + 1))), (5, .int (zI ((j : Nat) - 1 : Int)))]) ⟨rfl, rfl, rfl, rfl, rfl, by rw [show ((j : Nat) - 1 : Int) = (j : Int) + -1 by omega]; rfl, trivial⟩ ?_
                       exact ih _ _ _ (by omega) (by omega) (by omega) (by omega) (by omega) hX)
            · refine x_iload_n C d_Mo_choose_69 rfl ?_
              refine x_iload C d_Mo_choose_70 rfl ?_
              refine x_isub C d_Mo_choose_72 ?_
              refine x_goto C (tgt := 77) d_Mo_choose_73 (by decide) ?_
              refine x_istore_n C d_Mo_choose_77 (by decide) ?_
              refine x_iload C d_Mo_choose_78 rfl ?_
              refine x_iconst C d_Mo_choose_80 ?_
              refine x_icmp_lt C (tgt := 95) d_Mo_choose_81 (by decide) (by omega) (by omega) (by omega) (by omega) (fun c81 => ?_) (fun c81 => ?_)
              · refine x_iload_n C d_Mo_choose_95 rfl ?_
                refine x_istore_n C d_Mo_choose_96 (by decide) ?_
                refine x_iinc C d_Mo_choose_97 (by decide) rfl ?_
                refine x_goto C (tgt := 17) d_Mo_choose_100 (by decide) ?_
                first
                  | (exfalso; omega)
                  | (rw [if_pos (by omega), if_neg (by omega)] at hX
                     refine XW.loc (lv' := [(0, .ref (s0.heap.size + 33)), (1, .int (zI t.2.1)), (2, .int (zI ln)), (3, .int (zI ds)), (4, .int (zI tr)), (5, .int (zI ((j : Nat) - 1 : Int)))]) ⟨rfl, rfl, rfl, rfl, rfl, by rw [show ((j : Nat) - 1 : Int) = (j : Int) + -1 by omega]; rfl, trivial⟩ ?_
                     exact ih _ _ _ (by omega) (by omega) (by omega) l1 l2 hX)
                  | (rw [if_pos (by omega), if_pos (by omega), if_neg (by omega)] at hX
                     refine XW.loc (lv' := [(0, .ref (s0.heap.size + 33)), (1, .int (zI t.2.1)), (2, .int (zI ln)), (3, .int (zI ds)), (4, .int (zI (tr + 1))), (5, .int (zI ((j : Nat) - 1 : Int)))]) ⟨rfl, rfl, rfl, rfl, rfl, by rw [show ((j : Nat) - 1 : Int) = (j : Int) + -1 by omega]; rfl, trivial⟩ ?_
                     exact ih _ _ _ (by omega) (by omega) (by omega) l1 l2 hX)
                  | (rw [if_pos (by omega), if_pos (by omega), if_pos (by omega)] at hX
                     refine XW.loc (lv' := [(0, .ref (s0.heap.size + 33)), (1, .int (zI t.2.1)), (2, .int (zI (agZ src κ.2.2.1 (j : Int) t.2.1))), (3, .int (zI (t.2.1 - j))), (4, .int (zI (tr + 1))), (5, .int (zI ((j : Nat) - 1 : Int)))]) ⟨rfl, rfl, rfl, rfl, rfl, by rw [show ((j : Nat) - 1 : Int) = (j : Int) + -1 by omega]; rfl, trivial⟩ ?_
                     exact ih _ _ _ (by omega) (by omega) (by omega) (by omega) (by omega) hX)
              · refine x_iload C d_Mo_choose_84 rfl ?_
                refine x_iload_n C d_Mo_choose_86 rfl ?_
                refine x_icmp_le C (tgt := 95) d_Mo_choose_87 (by decide) (by omega) (by omega) (by omega) (by omega) (fun c87 => ?_) (fun c87 => ?_)
                · refine x_iload_n C d_Mo_choose_95 rfl ?_
                  refine x_istore_n C d_Mo_choose_96 (by decide) ?_
                  refine x_iinc C d_Mo_choose_97 (by decide) rfl ?_
                  refine x_goto C (tgt := 17) d_Mo_choose_100 (by decide) ?_
                  first
                    | (exfalso; omega)
                    | (rw [if_pos (by omega), if_neg (by omega)] at hX
                       refine XW.loc (lv' := [(0, .ref (s0.heap.size + 33)), (1, .int (zI t.2.1)), (2, .int (zI ln)), (3, .int (zI ds)), (4, .int (zI tr)), (5, .int (zI ((j : Nat) - 1 : Int)))]) ⟨rfl, rfl, rfl, rfl, rfl, by rw [show ((j : Nat) - 1 : Int) = (j : Int) + -1 by omega]; rfl, trivial⟩ ?_
                       exact ih _ _ _ (by omega) (by omega) (by omega) l1 l2 hX)
                    | (rw [if_pos (by omega), if_pos (by omega), if_neg (by omega)] at hX
                       refine XW.loc (lv' := [(0, .ref (s0.heap.size + 33)), (1, .int (zI t.2.1)), (2, .int (zI ln)), (3, .int (zI ds)), (4, .int (zI (tr + 1))), (5, .int (zI ((j : Nat) - 1 : Int)))]) ⟨rfl, rfl, rfl, rfl, rfl, by rw [show ((j : Nat) - 1 : Int) = (j : Int) + -1 by omega]; rfl, trivial⟩ ?_
                       exact ih _ _ _ (by omega) (by omega) (by omega) l1 l2 hX)
                    | (rw [if_pos (by omega), if_pos (by omega), if_pos (by omega)] at hX
                       refine XW.loc (lv' := [(0, .ref (s0.heap.size + 33)), (1, .int (zI t.2.1)), (2, .int (zI (agZ src κ.2.2.1 (j : Int) t.2.1))), (3, .int (zI (t.2.1 - j))), (4, .int (zI (tr + 1))), (5, .int (zI ((j : Nat) - 1 : Int)))]) ⟨rfl, rfl, rfl, rfl, rfl, by rw [show ((j : Nat) - 1 : Int) = (j : Int) + -1 by omega]; rfl, trivial⟩ ?_
                       exact ih _ _ _ (by omega) (by omega) (by omega) (by omega) (by omega) hX)
                · refine x_iload C d_Mo_choose_90 rfl ?_
                  refine x_goto C (tgt := 96) d_Mo_choose_92 (by decide) ?_
                  refine x_istore_n C d_Mo_choose_96 (by decide) ?_
                  refine x_iinc C d_Mo_choose_97 (by decide) rfl ?_
                  refine x_goto C (tgt := 17) d_Mo_choose_100 (by decide) ?_
                  first
                    | (exfalso; omega)
                    | (rw [if_pos (by omega), if_neg (by omega)] at hX
                       refine XW.loc (lv' := [(0, .ref (s0.heap.size + 33)), (1, .int (zI t.2.1)), (2, .int (zI ln)), (3, .int (zI ds)), (4, .int (zI tr)), (5, .int (zI ((j : Nat) - 1 : Int)))]) ⟨rfl, rfl, rfl, rfl, rfl, by rw [show ((j : Nat) - 1 : Int) = (j : Int) + -1 by omega]; rfl, trivial⟩ ?_
                       exact ih _ _ _ (by omega) (by omega) (by omega) l1 l2 hX)
                    | (rw [if_pos (by omega), if_pos (by omega), if_neg (by omega)] at hX
                       refine XW.loc (lv' := [(0, .ref (s0.heap.size + 33)), (1, .int (zI t.2.1)), (2, .int (zI ln)), (3, .int (zI ds)), (4, .int (zI (tr + 1))), (5, .int (zI ((j : Nat) - 1 : Int)))]) ⟨rfl, rfl, rfl, rfl, rfl, by rw [show ((j : Nat) - 1 : Int) = (j : Int) + -1 by omega]; rfl, trivial⟩ ?_
                       exact ih _ _ _ (by omega) (by omega) (by omega) l1 l2 hX)
                    | (rw [if_pos (by omega), if_pos (by omega), if_pos (by omega)] at hX
                       refine XW.loc (lv' := [(0, .ref (s0.heap.size + 33)), (1, .int (zI t.2.1)), (2, .int (zI (agZ src κ.2.2.1 (j : Int) t.2.1))), (3, .int (zI (t.2.1 - j))), (4, .int (zI (tr + 1))), (5, .int (zI ((j : Nat) - 1 : Int)))]) ⟨rfl, rfl, rfl, rfl, rfl, by rw [show ((j : Nat) - 1 : Int) = (j : Int) + -1 by omega]; rfl, trivial⟩ ?_
                       exact ih _ _ _ (by omega) (by omega) (by omega) (by omega) (by omega) hX)
        · refine x_iload C d_Mo_choose_46 rfl ?_
          refine x_iconst C d_Mo_choose_48 ?_
          refine x_iadd C d_Mo_choose_49 ?_
          refine x_goto C (tgt := 55) d_Mo_choose_50 (by decide) ?_
          refine x_istore C d_Mo_choose_55 (by decide) ?_
          refine x_iload C d_Mo_choose_57 rfl ?_
          refine x_iconst C d_Mo_choose_59 ?_
          refine x_icmp_lt C (tgt := 76) d_Mo_choose_60 (by decide) (by omega) (by omega) (by omega) (by omega) (fun c60 => ?_) (fun c60 => ?_)
          · refine x_iload_n C d_Mo_choose_76 rfl ?_
            refine x_istore_n C d_Mo_choose_77 (by decide) ?_
            refine x_iload C d_Mo_choose_78 rfl ?_
            refine x_iconst C d_Mo_choose_80 ?_
            refine x_icmp_lt C (tgt := 95) d_Mo_choose_81 (by decide) (by omega) (by omega) (by omega) (by omega) (fun c81 => ?_) (fun c81 => ?_)
            · refine x_iload_n C d_Mo_choose_95 rfl ?_
              refine x_istore_n C d_Mo_choose_96 (by decide) ?_
              refine x_iinc C d_Mo_choose_97 (by decide) rfl ?_
              refine x_goto C (tgt := 17) d_Mo_choose_100 (by decide) ?_
              first
                | (exfalso; omega)
                | (rw [if_pos (by omega), if_neg (by omega)] at hX
                   refine XW.loc (lv' := [(0, .ref (s0.heap.size + 33)), (1, .int (zI t.2.1)), (2, .int (zI ln)), (3, .int (zI ds)), (4, .int (zI tr)), (5, .int (zI ((j : Nat) - 1 : Int)))]) ⟨rfl, rfl, rfl, rfl, rfl, by rw [show ((j : Nat) - 1 : Int) = (j : Int) + -1 by omega]; rfl, trivial⟩ ?_
                   exact ih _ _ _ (by omega) (by omega) (by omega) l1 l2 hX)
                | (rw [if_pos (by omega), if_pos (by omega), if_neg (by omega)] at hX
                   refine XW.loc (lv' := [(0, .ref (s0.heap.size + 33)), (1, .int (zI t.2.1)), (2, .int (zI ln)), (3, .int (zI ds)), (4, .int (zI (tr + 1))), (5, .int (zI ((j : Nat) - 1 : Int)))]) ⟨rfl, rfl, rfl, rfl, rfl, by rw [show ((j : Nat) - 1 : Int) = (j : Int) + -1 by omega]; rfl, trivial⟩ ?_
                   exact ih _ _ _ (by omega) (by omega) (by omega) l1 l2 hX)
                | (rw [if_pos (by omega), if_pos (by omega), if_pos (by omega)] at hX
                   refine XW.loc (lv' := [(0, .ref (s0.heap.size + 33)), (1, .int (zI t.2.1)), (2, .int (zI (agZ src κ.2.2.1 (j : Int) t.2.1))), (3, .int (zI (t.2.1 - j))), (4, .int (zI (tr + 1))), (5, .int (zI ((j : Nat) - 1 : Int)))]) ⟨rfl, rfl, rfl, rfl, rfl, by rw [show ((j : Nat) - 1 : Int) = (j : Int) + -1 by omega]; rfl, trivial⟩ ?_
                   exact ih _ _ _ (by omega) (by omega) (by omega) (by omega) (by omega) hX)
            · refine x_iload C d_Mo_choose_84 rfl ?_
              refine x_iload_n C d_Mo_choose_86 rfl ?_
              refine x_icmp_le C (tgt := 95) d_Mo_choose_87 (by decide) (by omega) (by omega) (by omega) (by omega) (fun c87 => ?_) (fun c87 => ?_)
              · refine x_iload_n C d_Mo_choose_95 rfl ?_
                refine x_istore_n C d_Mo_choose_96 (by decide) ?_
                refine x_iinc C d_Mo_choose_97 (by decide) rfl ?_
                refine x_goto C (tgt := 17) d_Mo_choose_100 (by decide) ?_
                first
                  | (exfalso; omega)
                  | (rw [if_pos (by omega), if_neg (by omega)] at hX
                     refine XW.loc (lv' := [(0, .ref (s0.heap.size + 33)), (1, .int (zI t.2.1)), (2, .int (zI ln)), (3, .int (zI ds)), (4, .int (zI tr)), (5, .int (zI ((j : Nat) - 1 : Int)))]) ⟨rfl, rfl, rfl, rfl, rfl, by rw [show ((j : Nat) - 1 : Int) = (j : Int) + -1 by omega]; rfl, trivial⟩ ?_
                     exact ih _ _ _ (by omega) (by omega) (by omega) l1 l2 hX)
                  | (rw [if_pos (by omega), if_pos (by omega), if_neg (by omega)] at hX
                     refine XW.loc (lv' := [(0, .ref (s0.heap.size + 33)), (1, .int (zI t.2.1)), (2, .int (zI ln)), (3, .int (zI ds)), (4, .int (zI (tr + 1))), (5, .int (zI ((j : Nat) - 1 : Int)))]) ⟨rfl, rfl, rfl, rfl, rfl, by rw [show ((j : Nat) - 1 : Int) = (j : Int) + -1 by omega]; rfl, trivial⟩ ?_
                     exact ih _ _ _ (by omega) (by omega) (by omega) l1 l2 hX)
                  | (rw [if_pos (by omega), if_pos (by omega), if_pos (by omega)] at hX
                     refine XW.loc (lv' := [(0, .ref (s0.heap.size + 33)), (1, .int (zI t.2.1)), (2, .int (zI (agZ src κ.2.2.1 (j : Int) t.2.1))), (3, .int (zI (t.2.1 - j))), (4, .int (zI (tr + 1))), (5, .int (zI ((j : Nat) - 1 : Int)))]) ⟨rfl, rfl, rfl, rfl, rfl, by rw [show ((j : Nat) - 1 : Int) = (j : Int) + -1 by omega]; rfl, trivial⟩ ?_
                     exact ih _ _ _ (by omega) (by omega) (by omega) (by omega) (by omega) hX)
              · refine x_iload C d_Mo_choose_90 rfl ?_
                refine x_goto C (tgt := 96) d_Mo_choose_92 (by decide) ?_
                refine x_istore_n C d_Mo_choose_96 (by decide) ?_
                refine x_iinc C d_Mo_choose_97 (by decide) rfl ?_
                refine x_goto C (tgt := 17) d_Mo_choose_100 (by decide) ?_
                first
                  | (exfalso; omega)
                  | (rw [if_pos (by omega), if_neg (by omega)] at hX
                     refine XW.loc (lv' := [(0, .ref (s0.heap.size + 33)), (1, .int (zI t.2.1)), (2, .int (zI ln)), (3, .int (zI ds)), (4, .int (zI tr)), (5, .int (zI ((j : Nat) - 1 : Int)))]) ⟨rfl, rfl, rfl, rfl, rfl, by rw [show ((j : Nat) - 1 : Int) = (j : Int) + -1 by omega]; rfl, trivial⟩ ?_
                     exact ih _ _ _ (by omega) (by omega) (by omega) l1 l2 hX)
                  | (rw [if_pos (by omega), if_pos (by omega), if_neg (by omega)] at hX
                     refine XW.loc (lv' := [(0, .ref (s0.heap.size + 33)), (1, .int (zI t.2.1)), (2, .int (zI ln)), (3, .int (zI ds)), (4, .int (zI (tr + 1))), (5, .int (zI ((j : Nat) - 1 : Int)))]) ⟨rfl, rfl, rfl, rfl, rfl, by rw [show ((j : Nat) - 1 : Int) = (j : Int) + -1 by omega]; rfl, trivial⟩ ?_
                     exact ih _ _ _ (by omega) (by omega) (by omega) l1 l2 hX)
                  | (rw [if_pos (by omega), if_pos (by omega), if_pos (by omega)] at hX
                     refine XW.loc (lv' := [(0, .ref (s0.heap.size + 33)), (1, .int (zI t.2.1)), (2, .int (zI (agZ src κ.2.2.1 (j : Int) t.2.1))), (3, .int (zI (t.2.1 - j))), (4, .int (zI (tr + 1))), (5, .int (zI ((j : Nat) - 1 : Int)))]) ⟨rfl, rfl, rfl, rfl, rfl, by rw [show ((j : Nat) - 1 : Int) = (j : Int) + -1 by omega]; rfl, trivial⟩ ?_
                     exact ih _ _ _ (by omega) (by omega) (by omega) (by omega) (by omega) hX)
          · refine x_iload C d_Mo_choose_63 rfl ?_
            refine x_iload_n C d_Mo_choose_65 rfl ?_
            refine x_icmp_le C (tgt := 76) d_Mo_choose_66 (by decide) (by omega) (by omega) (by omega) (by omega) (fun c66 => ?_) (fun c66 => ?_)
            · refine x_iload_n C d_Mo_choose_76 rfl ?_
              refine x_istore_n C d_Mo_choose_77 (by decide) ?_
              refine x_iload C d_Mo_choose_78 rfl ?_
              refine x_iconst C d_Mo_choose_80 ?_
              refine x_icmp_lt C (tgt := 95) d_Mo_choose_81 (by decide) (by omega) (by omega) (by omega) (by omega) (fun c81 => ?_) (fun c81 => ?_)
              · refine x_iload_n C d_Mo_choose_95 rfl ?_
                refine x_istore_n C d_Mo_choose_96 (by decide) ?_
                refine x_iinc C d_Mo_choose_97 (by decide) rfl ?_
                refine x_goto C (tgt := 17) d_Mo_choose_100 (by decide) ?_
                first
                  | (exfalso; omega)
                  | (rw [if_pos (by omega), if_neg (by omega)] at hX
                     refine XW.loc (lv' := [(0, .ref (s0.heap.size + 33)), (1, .int (zI t.2.1)), (2, .int (zI ln)), (3, .int (zI ds)), (4, .int (zI tr)), (5, .int (zI ((j : Nat) - 1 : Int)))]) ⟨rfl, rfl, rfl, rfl, rfl, by rw [show ((j : Nat) - 1 : Int) = (j : Int) + -1 by omega]; rfl, trivial⟩ ?_
                     exact ih _ _ _ (by omega) (by omega) (by omega) l1 l2 hX)
                  | (rw [if_pos (by omega), if_pos (by omega), if_neg (by omega)] at hX
                     refine XW.loc (lv' := [(0, .ref (s0.heap.size + 33)), (1, .int (zI t.2.1)), (2, .int (zI ln)), (3, .int (zI ds)), (4, .int (zI (tr + 1))), (5, .int (zI ((j : Nat) - 1 : Int)))]) ⟨rfl, rfl, rfl, rfl, rfl, by rw [show ((j : Nat) - 1 : Int) = (j : Int) + -1 by omega]; rfl, trivial⟩ ?_
                     exact ih _ _ _ (by omega) (by omega) (by omega) l1 l2 hX)
                  | (rw [if_pos (by omega), if_pos (by omega), if_pos (by omega)] at hX
                     refine XW.loc (lv' := [(0, .ref (s0.heap.size + 33)), (1, .int (zI t.2.1)), (2, .int (zI (agZ src κ.2.2.1 (j : Int) t.2.1))), (3, .int (zI (t.2.1 - j))), (4, .int (zI (tr + 1))), (5, .int (zI ((j : Nat) - 1 : Int)))]) ⟨rfl, rfl, rfl, rfl, rfl, by rw [show ((j : Nat) - 1 : Int) = (j : Int) + -1 by omega]; rfl, trivial⟩ ?_
                     exact ih _ _ _ (by omega) (by omega) (by omega) (by omega) (by omega) hX)
              · refine x_iload C d_Mo_choose_84 rfl ?_
                refine x_iload_n C d_Mo_choose_86 rfl ?_
                refine x_icmp_le C (tgt := 95) d_Mo_choose_87 (by decide) (by omega) (by omega) (by omega) (by omega) (fun c87 => ?_) (fun c87 => ?_)
                · refine x_iload_n C d_Mo_choose_95 rfl ?_
                  refine x_istore_n C d_Mo_choose_96 (by decide) ?_
                  refine x_iinc C d_Mo_choose_97 (by decide) rfl ?_
                  refine x_goto C (tgt := 17) d_Mo_choose_100 (by decide) ?_
                  first
                    | (exfalso; omega)
                    | (rw [if_pos (by omega), if_neg (by omega)] at hX
                       refine XW.loc (lv' := [(0, .ref (s0.heap.size + 33)), (1, .int (zI t.2.1)), (2, .int (zI ln)), (3, .int (zI ds)), (4, .int (zI tr)), (5, .int (zI ((j : Nat) - 1 : Int)))]) ⟨rfl, rfl, rfl, rfl, rfl, by rw [show ((j : Nat) - 1 : Int) = (j : Int) + -1 by omega]; rfl, trivial⟩ ?_
                       exact ih _ _ _ (by omega) (by omega) (by omega) l1 l2 hX)
                    | (rw [if_pos (by omega), if_pos (by omega), if_neg (by omega)] at hX
                       refine XW.loc (lv' := [(0, .ref (s0.heap.size + 33)), (1, .int (zI t.2.1)), (2, .int (zI ln)), (3, .int (zI ds)), (4, .int (zI (tr + 1))), (5, .int (zI ((j : Nat) - 1 : Int)))]) ⟨rfl, rfl, rfl, rfl, rfl, by rw [show ((j : Nat) - 1 : Int) = (j : Int) + -1 by omega]; rfl, trivial⟩ ?_
                       exact ih _ _ _ (by omega) (by omega) (by omega) l1 l2 hX)
                    | (rw [if_pos (by omega), if_pos (by omega), if_pos (by omega)] at hX
                       refine XW.loc (lv' := [(0, .ref (s0.heap.size + 33)), (1, .int (zI t.2.1)), (2, .int (zI (agZ src κ.2.2.1 (j : Int) t.2.1))), (3, .int (zI (t.2.1 - j))), (4, .int (zI (tr + 1))), (5, .int (zI ((j : Nat) - 1 : Int)))]) ⟨rfl, rfl, rfl, rfl, rfl, by rw [show ((j : Nat) - 1 : Int) = (j : Int) + -1 by omega]; rfl, trivial⟩ ?_
                       exact ih _ _ _ (by omega) (by omega) (by omega) (by omega) (by omega) hX)
                · refine x_iload C d_Mo_choose_90 rfl ?_
                  refine x_goto C (tgt := 96) d_Mo_choose_92 (by decide) ?_
                  refine x_istore_n C d_Mo_choose_96 (by decide) ?_
                  refine x_iinc C d_Mo_choose_97 (by decide) rfl ?_
                  refine x_goto C (tgt := 17) d_Mo_choose_100 (by decide) ?_
                  first
                    | (exfalso; omega)
                    | (rw [if_pos (by omega), if_neg (by omega)] at hX
                       refine XW.loc (lv' := [(0, .ref (s0.heap.size + 33)), (1, .int (zI t.2.1)), (2, .int (zI ln)), (3, .int (zI ds)), (4, .int (zI tr)), (5, .int (zI ((j : Nat) - 1 : Int)))]) ⟨rfl, rfl, rfl, rfl, rfl, by rw [show ((j : Nat) - 1 : Int) = (j : Int) + -1 by omega]; rfl, trivial⟩ ?_
                       exact ih _ _ _ (by omega) (by omega) (by omega) l1 l2 hX)
                    | (rw [if_pos (by omega), if_pos (by omega), if_neg (by omega)] at hX
                       refine XW.loc (lv' := [(0, .ref (s0.heap.size + 33)), (1, .int (zI t.2.1)), (2, .int (zI ln)), (3, .int (zI ds)), (4, .int (zI (tr + 1))), (5, .int (zI ((j : Nat) - 1 : Int)))]) ⟨rfl, rfl, rfl, rfl, rfl, by rw [show ((j : Nat) - 1 : Int) = (j : Int) + -1 by omega]; rfl, trivial⟩ ?_
                       exact ih _ _ _ (by omega) (by omega) (by omega) l1 l2 hX)
                    | (rw [if_pos (by omega), if_pos (by omega), if_pos (by omega)] at hX
                       refine XW.loc (lv' := [(0, .ref (s0.heap.size + 33)), (1, .int (zI t.2.1)), (2, .int (zI (agZ src κ.2.2.1 (j : Int) t.2.1))), (3, .int (zI (t.2.1 - j))), (4, .int (zI (tr + 1))), (5, .int (zI ((j : Nat) - 1 : Int)))]) ⟨rfl, rfl, rfl, rfl, rfl, by rw [show ((j : Nat) - 1 : Int) = (j : Int) + -1 by omega]; rfl, trivial⟩ ?_
                       exact ih _ _ _ (by omega) (by omega) (by omega) (by omega) (by omega) hX)
            · refine x_iload_n C d_Mo_choose_69 rfl ?_
              refine x_iload C d_Mo_choose_70 rfl ?_
              refine x_isub C d_Mo_choose_72 ?_
              refine x_goto C (tgt := 77) d_Mo_choose_73 (by decide) ?_
              refine x_istore_n C d_Mo_choose_77 (by decide) ?_
              refine x_iload C d_Mo_choose_78 rfl ?_
              refine x_iconst C d_Mo_choose_80 ?_
              refine x_icmp_lt C (tgt := 95) d_Mo_choose_81 (by decide) (by omega) (by omega) (by omega) (by omega) (fun c81 => ?_) (fun c81 => ?_)
              · refine x_iload_n C d_Mo_choose_95 rfl ?_
                refine x_istore_n C d_Mo_choose_96 (by decide) ?_
                refine x_iinc C d_Mo_choose_97 (by decide) rfl ?_
                refine x_goto C (tgt := 17) d_Mo_choose_100 (by decide) ?_
                first
                  | (exfalso; omega)
                  | (rw [if_pos (by omega), if_neg (by omega)] at hX
                     refine XW.loc (lv' := [(0, .ref (s0.heap.size + 33)), (1, .int (zI t.2.1)), (2, .int (zI ln)), (3, .int (zI ds)), (4, .int (zI tr)), (5, .int (zI ((j : Nat) - 1 : Int)))]) ⟨rfl, rfl, rfl, rfl, rfl, by rw [show ((j : Nat) - 1 : Int) = (j : Int) + -1 by omega]; rfl, trivial⟩ ?_
                     exact ih _ _ _ (by omega) (by omega) (by omega) l1 l2 hX)
                  | (rw [if_pos (by omega), if_pos (by omega), if_neg (by omega)] at hX
                     refine XW.loc (lv' := [(0, .ref (s0.heap.size + 33)), (1, .int (zI t.2.1)), (2, .int (zI ln)), (3, .int (zI ds)), (4, .int (zI (tr + 1))), (5, .int (zI ((j : Nat) - 1 : Int)))]) ⟨rfl, rfl, rfl, rfl, rfl, by rw [show ((j : Nat) - 1 : Int) = (j : Int) + -1 by omega]; rfl, trivial⟩ ?_
                     exact ih _ _ _ (by omega) (by omega) (by omega) l1 l2 hX)
                  | (rw [if_pos (by omega), if_pos (by omega), if_pos (by omega)] at hX
                     refine XW.loc (lv' := [(0, .ref (s0.heap.size + 33)), (1, .int (zI t.2.1)), (2, .int (zI (agZ src κ.2.2.1 (j : Int) t.2.1))), (3, .int (zI (t.2.1 - j))), (4, .int (zI (tr + 1))), (5, .int (zI ((j : Nat) - 1 : Int)))]) ⟨rfl, rfl, rfl, rfl, rfl, by rw [show ((j : Nat) - 1 : Int) = (j : Int) + -1 by omega]; rfl, trivial⟩ ?_
                     exact ih _ _ _ (by omega) (by omega) (by omega) (by omega) (by omega) hX)
              · refine x_iload C d_Mo_choose_84 rfl ?_
                refine x_iload_n C d_Mo_choose_86 rfl ?_
                refine x_icmp_le C (tgt := 95) d_Mo_choose_87 (by decide) (by omega) (by omega) (by omega) (by omega) (fun c87 => ?_) (fun c87 => ?_)
                · refine x_iload_n C d_Mo_choose_95 rfl ?_
                  refine x_istore_n C d_Mo_choose_96 (by decide) ?_
                  refine x_iinc C d_Mo_choose_97 (by decide) rfl ?_
                  refine x_goto C (tgt := 17) d_Mo_choose_100 (by decide) ?_
                  first
                    | (exfalso; omega)
                    | (rw [if_pos (by omega), if_neg (by omega)] at hX
                       refine XW.loc (lv' := [(0, .ref (s0.heap.size + 33)), (1, .int (zI t.2.1)), (2, .int (zI ln)), (3, .int (zI ds)), (4, .int (zI tr)), (5, .int (zI ((j : Nat) - 1 : Int)))]) ⟨rfl, rfl, rfl, rfl, rfl, by rw [show ((j : Nat) - 1 : Int) = (j : Int) + -1 by omega]; rfl, trivial⟩ ?_
                       exact ih _ _ _ (by omega) (by omega) (by omega) l1 l2 hX)
                    | (rw [if_pos (by omega), if_pos (by omega), if_neg (by omega)] at hX
                       refine XW.loc (lv' := [(0, .ref (s0.heap.size + 33)), (1, .int (zI t.2.1)), (2, .int (zI ln)), (3, .int (zI ds)), (4, .int (zI (tr + 1))), (5, .int (zI ((j : Nat) - 1 : Int)))]) ⟨rfl, rfl, rfl, rfl, rfl, by rw [show ((j : Nat) - 1 : Int) = (j : Int) + -1 by omega]; rfl, trivial⟩ ?_
                       exact ih _ _ _ (by omega) (by omega) (by omega) l1 l2 hX)
                    | (rw [if_pos (by omega), if_pos (by omega), if_pos (by omega)] at hX
                       refine XW.loc (lv' := [(0, .ref (s0.heap.size + 33)), (1, .int (zI t.2.1)), (2, .int (zI (agZ src κ.2.2.1 (j : Int) t.2.1))), (3, .int (zI (t.2.1 - j))), (4, .int (zI (tr + 1))), (5, .int (zI ((j : Nat) - 1 : Int)))]) ⟨rfl, rfl, rfl, rfl, rfl, by rw [show ((j : Nat) - 1 : Int) = (j : Int) + -1 by omega]; rfl, trivial⟩ ?_
                       exact ih _ _ _ (by omega) (by omega) (by omega) (by omega) (by omega) hX)
                · refine x_iload C d_Mo_choose_90 rfl ?_
                  refine x_goto C (tgt := 96) d_Mo_choose_92 (by decide) ?_
                  refine x_istore_n C d_Mo_choose_96 (by decide) ?_
                  refine x_iinc C d_Mo_choose_97 (by decide) rfl ?_
                  refine x_goto C (tgt := 17) d_Mo_choose_100 (by decide) ?_
                  first
                    | (exfalso; omega)
                    | (rw [if_pos (by omega), if_neg (by omega)] at hX
                       refine XW.loc (lv' := [(0, .ref (s0.heap.size + 33)), (1, .int (zI t.2.1)), (2, .int (zI ln)), (3, .int (zI ds)), (4, .int (zI tr)), (5, .int (zI ((j : Nat) - 1 : Int)))]) ⟨rfl, rfl, rfl, rfl, rfl, by rw [show ((j : Nat) - 1 : Int) = (j : Int) + -1 by omega]; rfl, trivial⟩ ?_
                       exact ih _ _ _ (by omega) (by omega) (by omega) l1 l2 hX)
                    | (rw [if_pos (by omega), if_pos (by omega), if_neg (by omega)] at hX
                       refine XW.loc (lv' := [(0, .ref (s0.heap.size + 33)), (1, .int (zI t.2.1)), (2, .int (zI ln)), (3, .int (zI ds)), (4, .int (zI (tr + 1))), (5, .int (zI ((j : Nat) - 1 : Int)))]) ⟨rfl, rfl, rfl, rfl, rfl, by rw [show ((j : Nat) - 1 : Int) = (j : Int) + -1 by omega]; rfl, trivial⟩ ?_
                       exact ih _ _ _ (by omega) (by omega) (by omega) l1 l2 hX)
                    | (rw [if_pos (by omega), if_pos (by omega), if_pos (by omega)] at hX
                       refine XW.loc (lv' := [(0, .ref (s0.heap.size + 33)), (1, .int (zI t.2.1)), (2, .int (zI (agZ src κ.2.2.1 (j : Int) t.2.1))), (3, .int (zI (t.2.1 - j))), (4, .int (zI (tr + 1))), (5, .int (zI ((j : Nat) - 1 : Int)))]) ⟨rfl, rfl, rfl, rfl, rfl, by rw [show ((j : Nat) - 1 : Int) = (j : Int) + -1 by omega]; rfl, trivial⟩ ?_
                       exact ih _ _ _ (by omega) (by omega) (by omega) (by omega) (by omega) hX)
set_option maxRecDepth 100000 in
set_option maxHeartbeats 4000000 in
theorem c_Mo_choose {a0 : Array Value} {s0 : State} {D : va_G} {cI cL : ClassId} (l : Launch) (E : a_E a0 s0 D cI cL) {h : AH} {K : Nat} {κ : Kp} {v : Hs × T3 × Int × Cn4} {c0 : Cd} {src : Int → Int} (h34 : h 34 = some (iA cI 120 src)) (hs : ∀ q, 0 ≤ src q ∧ src q < 256) (hk : hOk v.1) (i2 : v.1.2.1 < κ.2.2.1) (n2 : κ.2.2.1 ≤ 120) (c1 : 1 ≤ κ.2.1) (c2 : κ.2.1 ≤ 16) : XM l s0 D y_Mo_choose prog_13_method_24_code 8 none 1 0 0 [.ref (s0.heap.size + 33)] (sM s0.heap.size cI h κ (c0, v)) (K) (PR none (sM s0.heap.size cI h κ (c0, (v.1, v.2.1, v.2.2.1, chW κ.2.1 src κ.2.2.1 v.1))) K) := by
  refine XM.of (cI := cI) (cL := cL) (own := "NarrowingPackerModel") (by decide) rfl E.2 (nle rfl) ?_
  intro p e s m below meth c C hn
  have hn := hk.2.1
  refine x_aload_n C d_Mo_choose_0 rfl ?_
  refine x_get C (G_Mo E.1) 22 (u_786 E.1) d_Mo_choose_1 (by decide) (by rfl) (show _ = some (.int (zI v.1.2.1)) from rfl) ?_
  refine x_istore_n C d_Mo_choose_4 (by decide) ?_
  refine x_iconst C d_Mo_choose_5 ?_
  refine x_istore_n C d_Mo_choose_6 (by decide) ?_
  refine x_iconst C d_Mo_choose_7 ?_
  refine x_istore_n C d_Mo_choose_8 (by decide) ?_
  refine x_iconst C d_Mo_choose_9 ?_
  refine x_istore C d_Mo_choose_10 (by decide) ?_
  refine x_iload_n C d_Mo_choose_12 rfl ?_
  refine x_iconst C d_Mo_choose_13 ?_
  refine x_isub C d_Mo_choose_14 ?_
  refine x_istore C d_Mo_choose_15 (by decide) ?_
  refine XW.loc (lv' := [(0, .ref (s0.heap.size + 33)), (1, .int (zI v.1.2.1)), (2, .int (zI 0)), (3, .int (zI 0)), (4, .int (zI 0)), (5, .int (zI ((v.1.2.1.toNat : Nat) - 1 : Int)))]) ⟨rfl, rfl, rfl, rfl, rfl, by rw [show ((v.1.2.1.toNat : Nat) : Int) = v.1.2.1 by omega]; rfl, trivial⟩ ?_
  exact l17_Mo_choose l E C rfl (t := v.1) (T := v.2.1) (cnt := v.2.2.1) (y1 := v.2.2.2.1) (y2 := v.2.2.2.2.1) (y3 := v.2.2.2.2.2.1) (y4 := v.2.2.2.2.2.2) h34 hs hk i2 n2 c1 c2 v.1.2.1.toNat 0 0 0 (by omega) (by omega) (by omega) (by omega) (by omega) rfl

