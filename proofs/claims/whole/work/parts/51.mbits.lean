/-! the reference: digits, bits, trees, rows -/
set_option maxRecDepth 100000 in
set_option maxHeartbeats 4000000 in
theorem lp_Mo_grow {a0 : Array Value} {s0 : State} {D : va_G} {cI cL : ClassId} (l : Launch) (E : a_E a0 s0 D cI cL) {p : Program} {e : Env} {R : Room} {s : State} {m : MethodId} {args : Array Value} {below : List Frame} {meth : Method} {c : Code} (C : XC s0 D cI cL p s m meth c "NarrowingPackerModel" prog_13_method_7_code 6 none []) {h : AH} {K : Nat} {κ : Kp} {v : Hs × T3 × Int × Cn4} {pa bd rg pl cd nx : Int} {X : Int → Int} {G : Int → Int} : ∀ (k : Nat) (cy : Int) (g : Int → Int), k ≤ 1600 → 0 ≤ cy → cy < 8589934592 → (∀ j, 0 ≤ g j ∧ g j < 256) → raiseZ k cy g = G → XW s0 D p l e R s m args below meth c (XQ s0 D 0 0 (PR none (sM s0.heap.size cI h κ (((pa, bd, X, rg, pl, G, cd, nx) : Cd), v)) K) below s) 10 [(0, .ref (s0.heap.size + 33)), (3, .long (zL cy)), (5, .int (zI ((k : Nat) - 1 : Int)))] [] (sM s0.heap.size cI h κ (((pa, bd, X, rg, pl, g, cd, nx) : Cd), v)) K 0 0 := by
  intro k
  induction k with
  | zero =>
    intro cy g hk c1 c2 hg hG
    have hG : g = G := hG
    subst hG
    refine x_iload C d_Mo_grow_10 rfl ?_
    refine x_if_lt C (tgt := 57) d_Mo_grow_12 (by decide) (by omega) (by omega) (fun c12 => ?_) (fun c12 => ?_)
    · exact x_vret C d_Mo_grow_57 (nle rfl) (nle rfl) ⟨rfl, rfl, rfl⟩
    · exfalso; omega
  | succ k ih =>
    intro cy g hk c1 c2 hg hG
    rw [show (((k + 1 : Nat) : Int) - 1) = (k : Int) by omega]
    have hgk := hg (k : Int)
    unfold raiseZ at hG
    refine x_iload C d_Mo_grow_10 rfl ?_
    refine x_if_lt C (tgt := 57) d_Mo_grow_12 (by decide) (by omega) (by omega) (fun c12 => ?_) (fun c12 => ?_)
    · first
        | (exfalso; omega)
        | (rw [if_neg (by omega)] at hG; subst hG; exact x_vret C d_Mo_grow_57 (nle rfl) (nle rfl) ⟨rfl, rfl, rfl⟩)
    · refine x_lload_n C d_Mo_grow_15 rfl ?_
      refine x_lconst C d_Mo_grow_16 rfl ?_
      refine x_lcmp C d_Mo_grow_17 ?_
      refine x_lif_le C (tgt := 57) d_Mo_grow_18 (by decide) (by omega) (by omega) (by omega) (by omega) (fun c18 => ?_) (fun c18 => ?_)
      · first
          | (exfalso; omega)
          | (rw [if_neg (by omega)] at hG; subst hG; exact x_vret C d_Mo_grow_57 (nle rfl) (nle rfl) ⟨rfl, rfl, rfl⟩)
      · refine x_lload_n C d_Mo_grow_21 rfl ?_
        refine x_aload_n C d_Mo_grow_22 rfl ?_
        refine x_get C (G_Mo E.1) 19 (u_783 E.1) d_Mo_grow_23 (by decide) (by rfl) rfl ?_
        refine x_iload C d_Mo_grow_26 rfl ?_
        refine x_iald C d_Mo_grow_28 (show _ = some (iA cI 1600 g) from rfl) (by omega) (by omega) (by omega) ?_
        refine x_i2l C d_Mo_grow_29 (by omega) (by omega) ?_
        refine x_ladd C d_Mo_grow_30 ?_
        refine x_lstore_n C d_Mo_grow_31 (by decide) ?_
        refine x_aload_n C d_Mo_grow_32 rfl ?_
        refine x_get C (G_Mo E.1) 19 (u_783 E.1) d_Mo_grow_33 (by decide) (by rfl) rfl ?_
        refine x_iload C d_Mo_grow_36 rfl ?_
        refine x_lload_n C d_Mo_grow_38 rfl ?_
        refine x_ldc2 C (v := 256) (u_912 E.1) d_Mo_grow_39 ?_
        refine x_lrem C d_Mo_grow_42 (by omega) (by omega) (by omega) (by omega) ?_
        refine x_l2i C d_Mo_grow_43 ?_
        refine x_iast C d_Mo_grow_44 (show _ = some (iA cI 1600 g) from rfl) (by omega) (by omega) (by omega) ?_
        refine x_lload_n C d_Mo_grow_45 rfl ?_
        refine x_ldc2 C (v := 256) (u_912 E.1) d_Mo_grow_46 ?_
        refine x_ldiv C d_Mo_grow_49 (by omega) (by omega) (by omega) (by omega) ?_
        refine x_lstore_n C d_Mo_grow_50 (by decide) ?_
        refine x_iinc C d_Mo_grow_51 (by decide) rfl ?_
        refine x_goto C (tgt := 10) d_Mo_grow_54 (by decide) ?_
        rw [if_pos (by omega)] at hG
        refine XW.heq (h' := sM s0.heap.size cI h κ (((pa, bd, X, rg, pl, (zup g k ((cy + g k) % 256)), cd, nx) : Cd), v)) (sM_eq rfl rfl rfl rfl rfl rfl rfl rfl (fun q q1 q2 q3 q4 q5 q6 q7 q8 => by simp only [sM, a_up, beq_f q1, beq_f q2, beq_f q3, beq_f q4, beq_f q5, beq_f q6, beq_f q7, beq_f q8, cond_false])) ?_
        refine XW.loc (lv' := [(0, .ref (s0.heap.size + 33)), (3, .long (zL ((cy + g k) / 256))), (5, .int (zI ((k : Nat) - 1 : Int)))]) ⟨rfl, rfl, by rw [show ((k : Nat) - 1 : Int) = (k : Int) + -1 by omega]; rfl, trivial⟩ ?_
        exact ih _ _ (by omega) (by omega) (by omega) (zup_all (Q := fun z => 0 ≤ z ∧ z < 256) hg (by omega)) hG
set_option maxRecDepth 100000 in
set_option maxHeartbeats 4000000 in
theorem c_Mo_grow {a0 : Array Value} {s0 : State} {D : va_G} {cI cL : ClassId} (l : Launch) (E : a_E a0 s0 D cI cL) {h : AH} {K : Nat} {κ : Kp} {v : Hs × T3 × Int × Cn4} {pa bd rg pl cd nx : Int} {X G : Int → Int} (hg : ∀ j, 0 ≤ G j ∧ G j < 256) (l1 : 0 ≤ pl) (l2 : pl ≤ 1600) {b : Int} (b1 : 0 ≤ b) (b2 : b < 8589934592) : XM l s0 D y_Mo_grow prog_13_method_7_code 6 none 0 0 0 [.ref (s0.heap.size + 33), .long (zL b)] (sM s0.heap.size cI h κ (((pa, bd, X, rg, pl, G, cd, nx) : Cd), v)) (K) (PR none (sM s0.heap.size cI h κ (((pa, bd, X, rg, pl, raiseZ pl.toNat b G, cd, nx) : Cd), v)) K) := by
  refine XM.of (cI := cI) (cL := cL) (own := "NarrowingPackerModel") (by decide) rfl E.2 (nle rfl) ?_
  intro p e s m below meth c C hn
  refine x_lload_n C d_Mo_grow_0 rfl ?_
  refine x_lstore_n C d_Mo_grow_1 (by decide) ?_
  refine x_aload_n C d_Mo_grow_2 rfl ?_
  refine x_get C (G_Mo E.1) 18 (u_782 E.1) d_Mo_grow_3 (by decide) (by rfl) (show _ = some (.int (zI pl)) from rfl) ?_
  refine x_iconst C d_Mo_grow_6 ?_
  refine x_isub C d_Mo_grow_7 ?_
  refine x_istore C d_Mo_grow_8 (by decide) ?_
  have el : (pl.toNat : Int) = pl := by omega
  refine XW.loc (lv' := [(0, .ref (s0.heap.size + 33)), (3, .long (zL b)), (5, .int (zI ((pl.toNat : Nat) - 1 : Int)))]) ⟨rfl, rfl, by rw [el]; rfl, trivial⟩ ?_
  exact lp_Mo_grow l E C _ _ _ (by omega) b1 b2 hg rfl

set_option maxRecDepth 100000 in
set_option maxHeartbeats 4000000 in
theorem c_Mo_read {a0 : Array Value} {s0 : State} {D : va_G} {cI cL : ClassId} (l : Launch) (E : a_E a0 s0 D cI cL) {h : AH} {K : Nat} {κ : Kp} {v : Hs × T3 × Int × Cn4} {P pk : Int → Int} (h35 : h 35 = some (iA cI 200 P)) (hP : ∀ j, 0 ≤ j → j < κ.2.2.2.1 → P j = pk j) (hp : ∀ j, 0 ≤ pk j ∧ pk j < 256) (z1 : 0 ≤ κ.2.2.2.1) (z2 : κ.2.2.2.1 ≤ 200) {pa bd rg pl cd nx : Int} {X G : Int → Int} (n1 : 0 ≤ nx) (n2 : nx ≤ κ.2.2.2.1) : XM l s0 D y_Mo_read prog_13_method_8_code 1 none 0 0 0 [.ref (s0.heap.size + 33)] (sM s0.heap.size cI h κ (((pa, bd, X, rg, pl, G, cd, nx) : Cd), v)) (K) (PR none (sM s0.heap.size cI h κ (mRead pk κ.2.2.2.1 ((pa, bd, X, rg, pl, G, cd, nx) : Cd), v)) K) := by
  refine XM.of (cI := cI) (cL := cL) (own := "NarrowingPackerModel") (by decide) rfl E.2 (nle rfl) ?_
  intro p e s m below meth c C hn
  refine x_aload_n C d_Mo_read_0 rfl ?_
  refine x_get C (G_Mo E.1) 21 (u_785 E.1) d_Mo_read_1 (by decide) (by rfl) (show _ = some (.int (zI nx)) from rfl) ?_
  refine x_aload_n C d_Mo_read_4 rfl ?_
  refine x_get C (G_Mo E.1) 4 (u_768 E.1) d_Mo_read_5 (by decide) (by rfl) (show _ = some (.int (zI κ.2.2.2.1)) from rfl) ?_
  refine x_icmp_ne C (tgt := 17) d_Mo_read_8 (by decide) (by omega) (by omega) (by omega) (by omega) (fun c8 => ?_) (fun c8 => ?_)
  · refine x_aload_n C d_Mo_read_17 rfl ?_
    refine x_ldc2 C (v := 256) (u_912 E.1) d_Mo_read_18 ?_
    refine x_aload_n C d_Mo_read_21 rfl ?_
    refine x_get C (G_Mo E.1) 20 (u_784 E.1) d_Mo_read_22 (by decide) (by rfl) (show _ = some (.long (zL cd)) from rfl) ?_
    refine x_lmul C d_Mo_read_25 ?_
    refine x_aload_n C d_Mo_read_26 rfl ?_
    refine x_get C (G_Mo E.1) 5 (u_769 E.1) d_Mo_read_27 (by decide) (by rfl) rfl ?_
    refine x_aload_n C d_Mo_read_30 rfl ?_
    refine x_get C (G_Mo E.1) 21 (u_785 E.1) d_Mo_read_31 (by decide) (by rfl) (show _ = some (.int (zI nx)) from rfl) ?_
    have hq := hp nx
    have hPn := hP nx n1 (by omega)
    refine x_iald C d_Mo_read_34 (by exact h35) (by omega) (by omega) (by omega) ?_
    rw [hPn]
    refine x_i2l C d_Mo_read_35 (by omega) (by omega) ?_
    refine x_ladd C d_Mo_read_36 ?_
    refine x_put C (G_Mo E.1) 20 (u_784 E.1) d_Mo_read_37 (by decide) rfl (by rfl) rfl rfl (nle rfl) ?_
    refine x_aload_n C d_Mo_read_40 rfl ?_
    refine x_dup C d_Mo_read_41 rfl ?_
    refine x_get C (G_Mo E.1) 21 (u_785 E.1) d_Mo_read_42 (by decide) (by rfl) (show _ = some (.int (zI nx)) from rfl) ?_
    refine x_iconst C d_Mo_read_45 ?_
    refine x_iadd C d_Mo_read_46 ?_
    refine x_put C (G_Mo E.1) 21 (u_785 E.1) d_Mo_read_47 (by decide) rfl (by rfl) rfl rfl (nle rfl) ?_
    exact x_vret C d_Mo_read_50 (nle rfl) (nle rfl) ⟨rfl, by
  rw [show mRead pk κ.2.2.2.1 ((pa, bd, X, rg, pl, G, cd, nx) : Cd) = (pa, bd, X, rg, pl, G, 256 * cd + pk nx, nx + 1) from if_neg (by show ¬ nx = κ.2.2.2.1; omega)]
  exact (sM_eq rfl rfl rfl rfl rfl rfl rfl rfl (fun q q1 q2 q3 q4 q5 q6 q7 q8 => by simp only [sM, a_up, beq_f q1, beq_f q2, beq_f q3, beq_f q4, beq_f q5, beq_f q6, beq_f q7, beq_f q8, cond_false])), rfl⟩
  · refine x_aload_n C d_Mo_read_11 rfl ?_
    refine x_iconst C d_Mo_read_12 ?_
    refine x_put C (G_Mo E.1) 15 (u_779 E.1) d_Mo_read_13 (by decide) rfl (by rfl) rfl rfl (nle rfl) ?_
    exact x_vret C d_Mo_read_16 (nle rfl) (nle rfl) ⟨rfl, by
  rw [show mRead pk κ.2.2.2.1 ((pa, bd, X, rg, pl, G, cd, nx) : Cd) = (pa, 1, X, rg, pl, G, cd, nx) from if_pos (by show nx = κ.2.2.2.1; omega)]
  exact (sM_eq rfl rfl rfl rfl rfl rfl rfl rfl (fun q q1 q2 q3 q4 q5 q6 q7 q8 => by simp only [sM, a_up, beq_f q1, beq_f q2, beq_f q3, beq_f q4, beq_f q5, beq_f q6, beq_f q7, beq_f q8, cond_false])), rfl⟩

set_option maxRecDepth 100000 in
set_option maxHeartbeats 4000000 in
theorem c_Mo_widen {a0 : Array Value} {s0 : State} {D : va_G} {cI cL : ClassId} (l : Launch) (E : a_E a0 s0 D cI cL) {h : AH} {K : Nat} {κ : Kp} {v : Hs × T3 × Int × Cn4} {P pk : Int → Int} (h35 : h 35 = some (iA cI 200 P)) (hP : ∀ j, 0 ≤ j → j < κ.2.2.2.1 → P j = pk j) (hp : ∀ j, 0 ≤ pk j ∧ pk j < 256) (z1 : 0 ≤ κ.2.2.2.1) (z2 : κ.2.2.2.1 ≤ 200) {pa bd rg pl cd nx : Int} {X G : Int → Int} (r1 : 0 ≤ rg) (r2 : rg < 4294967296) (a1 : pa = 0 ∨ pa = 1) (l1 : pa = 1 → 0 ≤ pl ∧ pl < 1600) (n1 : pa = 0 → 0 ≤ nx ∧ nx ≤ κ.2.2.2.1) : XM l s0 D y_Mo_widen prog_13_method_9_code 1 none 1 0 0 [.ref (s0.heap.size + 33)] (sM s0.heap.size cI h κ (((pa, bd, X, rg, pl, G, cd, nx) : Cd), v)) (K) (PR none (sM s0.heap.size cI h κ (mWide pk κ.2.2.2.1 ((pa, bd, X, rg, pl, G, cd, nx) : Cd), v)) K) := by
  refine XM.of (cI := cI) (cL := cL) (own := "NarrowingPackerModel") (by decide) rfl E.2 (nle rfl) ?_
  intro p e s m below meth c C hn
  refine x_aload_n C d_Mo_widen_0 rfl ?_
  refine x_get C (G_Mo E.1) 17 (u_781 E.1) d_Mo_widen_1 (by decide) (by rfl) (show _ = some (.long (zL rg)) from rfl) ?_
  refine x_ldc2 C (v := 16777216) (u_917 E.1) d_Mo_widen_4 ?_
  refine x_lcmp C d_Mo_widen_7 ?_
  refine x_lif_lt C (tgt := 12) d_Mo_widen_8 (by decide) (by omega) (by omega) (by omega) (by omega) (fun c8 => ?_) (fun c8 => ?_)
  · refine x_aload_n C d_Mo_widen_12 rfl ?_
    refine x_ldc2 C (v := 256) (u_912 E.1) d_Mo_widen_13 ?_
    refine x_aload_n C d_Mo_widen_16 rfl ?_
    refine x_get C (G_Mo E.1) 17 (u_781 E.1) d_Mo_widen_17 (by decide) (by rfl) (show _ = some (.long (zL rg)) from rfl) ?_
    refine x_lmul C d_Mo_widen_20 ?_
    refine x_put C (G_Mo E.1) 17 (u_781 E.1) d_Mo_widen_21 (by decide) rfl (by rfl) rfl rfl (nle rfl) ?_
    refine x_aload_n C d_Mo_widen_24 rfl ?_
    refine x_get C (G_Mo E.1) 14 (u_778 E.1) d_Mo_widen_25 (by decide) (by rfl) (show _ = some (.int (zI pa)) from rfl) ?_
    refine x_if_eq C (tgt := 54) d_Mo_widen_28 (by decide) (by omega) (by omega) (fun c28 => ?_) (fun c28 => ?_)
    · have n1 := n1 (by omega)
      refine XW.heq (h' := sM s0.heap.size cI h κ (((pa, bd, X, 256 * rg, pl, G, cd, nx) : Cd), v)) (sM_eq rfl rfl rfl rfl rfl rfl rfl rfl (fun q q1 q2 q3 q4 q5 q6 q7 q8 => by simp only [sM, a_up, beq_f q1, beq_f q2, beq_f q3, beq_f q4, beq_f q5, beq_f q6, beq_f q7, beq_f q8, cond_false])) ?_
      refine x_aload_n C d_Mo_widen_54 rfl ?_
      refine x_callVR C (G_Mo E.1) (u_918 E.1) (u_920 E.1) (us_30 E.1) (u_921 E.1) (u_13 E.1) d_Mo_widen_55 (c_Mo_read l E h35 hP hp z1 z2 n1.1 n1.2) nh_Mo_read ln_Mo_read rfl rfl (nle rfl) (nle rfl) (nle rfl) (nle rfl) (nle rfl) ?_
      exact x_vret C d_Mo_widen_58 (nle rfl) (nle rfl) ⟨rfl, by
  first
    | (rw [show mWide pk κ.2.2.2.1 ((pa, bd, X, rg, pl, G, cd, nx) : Cd) = (pa, bd, X, 256 * rg, pl + 1, zup G pl 0, cd, nx) from (if_pos (by show rg < 16777216; omega)).trans (if_pos (by show pa = 1; omega))]
       exact (sM_eq rfl rfl rfl rfl rfl rfl rfl rfl (fun q q1 q2 q3 q4 q5 q6 q7 q8 => by simp only [sM, a_up, beq_f q1, beq_f q2, beq_f q3, beq_f q4, beq_f q5, beq_f q6, beq_f q7, beq_f q8, cond_false])))
    | (rw [show mWide pk κ.2.2.2.1 ((pa, bd, X, rg, pl, G, cd, nx) : Cd) = mRead pk κ.2.2.2.1 (pa, bd, X, 256 * rg, pl, G, cd, nx) from (if_pos (by show rg < 16777216; omega)).trans (if_neg (by show ¬ pa = 1; omega))]), rfl⟩
    · have l1 := l1 (by omega)
      refine x_aload_n C d_Mo_widen_31 rfl ?_
      refine x_get C (G_Mo E.1) 19 (u_783 E.1) d_Mo_widen_32 (by decide) (by rfl) rfl ?_
      refine x_aload_n C d_Mo_widen_35 rfl ?_
      refine x_get C (G_Mo E.1) 18 (u_782 E.1) d_Mo_widen_36 (by decide) (by rfl) (show _ = some (.int (zI pl)) from rfl) ?_
      refine x_iconst C d_Mo_widen_39 ?_
      refine x_iast C d_Mo_widen_40 (show _ = some (iA cI 1600 G) from rfl) (by omega) (by omega) (by omega) ?_
      refine x_aload_n C d_Mo_widen_41 rfl ?_
      refine x_dup C d_Mo_widen_42 rfl ?_
      refine x_get C (G_Mo E.1) 18 (u_782 E.1) d_Mo_widen_43 (by decide) (by rfl) (show _ = some (.int (zI pl)) from rfl) ?_
      refine x_iconst C d_Mo_widen_46 ?_
      refine x_iadd C d_Mo_widen_47 ?_
      refine x_put C (G_Mo E.1) 18 (u_782 E.1) d_Mo_widen_48 (by decide) rfl (by rfl) rfl rfl (nle rfl) ?_
      refine x_goto C (tgt := 58) d_Mo_widen_51 (by decide) ?_
      exact x_vret C d_Mo_widen_58 (nle rfl) (nle rfl) ⟨rfl, by
  first
    | (rw [show mWide pk κ.2.2.2.1 ((pa, bd, X, rg, pl, G, cd, nx) : Cd) = (pa, bd, X, 256 * rg, pl + 1, zup G pl 0, cd, nx) from (if_pos (by show rg < 16777216; omega)).trans (if_pos (by show pa = 1; omega))]
       exact (sM_eq rfl rfl rfl rfl rfl rfl rfl rfl (fun q q1 q2 q3 q4 q5 q6 q7 q8 => by simp only [sM, a_up, beq_f q1, beq_f q2, beq_f q3, beq_f q4, beq_f q5, beq_f q6, beq_f q7, beq_f q8, cond_false])))
    | (rw [show mWide pk κ.2.2.2.1 ((pa, bd, X, rg, pl, G, cd, nx) : Cd) = mRead pk κ.2.2.2.1 (pa, bd, X, 256 * rg, pl, G, cd, nx) from (if_pos (by show rg < 16777216; omega)).trans (if_neg (by show ¬ pa = 1; omega))]), rfl⟩
  · exact x_vret C d_Mo_widen_11 (nle rfl) (nle rfl) ⟨rfl, by
  rw [show mWide pk κ.2.2.2.1 ((pa, bd, X, rg, pl, G, cd, nx) : Cd) = ((pa, bd, X, rg, pl, G, cd, nx) : Cd) from if_neg (by show ¬ rg < 16777216; omega)], rfl⟩

