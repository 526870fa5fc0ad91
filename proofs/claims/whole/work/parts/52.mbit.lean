/-! the reference: a bit, a tree, a row -/
section MB
variable {pk : Int → Int} {sz bd rg pl cd nx a g : Int} {X G : Int → Int}
theorem mBit_p0 (hb : ¬ 0 < bd) : mBit pk sz (1, bd, X, rg, pl, G, cd, nx) a 0 = (0, mWide pk sz (1, bd, zup X a (X a + (2048 - X a) / 32), rg / 2048 * X a, pl, G, cd, nx)) := by
  unfold mBit
  rw [if_neg hb]
  rfl
theorem mBit_p1 (hb : ¬ 0 < bd) : mBit pk sz (1, bd, X, rg, pl, G, cd, nx) a 1 = (1, mWide pk sz (1, bd, zup X a (X a - X a / 32), rg - rg / 2048 * X a, pl, raiseZ pl.toNat (rg / 2048 * X a) G, cd, nx)) := by
  unfold mBit
  rw [if_neg hb]
  rfl
theorem mBit_r0 (hb : ¬ 0 < bd) (hc : cd < rg / 2048 * X a) : mBit pk sz (0, bd, X, rg, pl, G, cd, nx) a g = (0, mWide pk sz (0, bd, zup X a (X a + (2048 - X a) / 32), rg / 2048 * X a, pl, G, cd, nx)) := by
  have hv : mVal (0, bd, X, rg, pl, G, cd, nx) a g = 0 := (if_neg (show ¬ (0 : Int) = 1 by decide)).trans (if_pos hc)
  unfold mBit
  rw [if_neg hb, hv]
  rfl
theorem mBit_r1 (hb : ¬ 0 < bd) (hc : ¬ cd < rg / 2048 * X a) : mBit pk sz (0, bd, X, rg, pl, G, cd, nx) a g = (1, mWide pk sz (0, bd, zup X a (X a - X a / 32), rg - rg / 2048 * X a, pl, G, cd - rg / 2048 * X a, nx)) := by
  have hv : mVal (0, bd, X, rg, pl, G, cd, nx) a g = 1 := (if_neg (show ¬ (0 : Int) = 1 by decide)).trans (if_neg hc)
  unfold mBit
  rw [if_neg hb, hv]
  rfl
end MB
set_option maxRecDepth 100000 in
set_option maxHeartbeats 4000000 in
theorem c_Mo_bit {a0 : Array Value} {s0 : State} {D : va_G} {cI cL : ClassId} (l : Launch) (E : a_E a0 s0 D cI cL) {h : AH} {K : Nat} {κ : Kp} {v : Hs × T3 × Int × Cn4} {P pk : Int → Int} (h35 : h 35 = some (iA cI 200 P)) (hP : ∀ j, 0 ≤ j → j < κ.2.2.2.1 → P j = pk j) (hp : ∀ j, 0 ≤ pk j ∧ pk j < 256) (z1 : 0 ≤ κ.2.2.2.1) (z2 : κ.2.2.2.1 ≤ 200) {c0 : Cd} (ok : cOk κ.2.2.2.1 1 c0) {fr a g : Int} (hf : 0 < c0.2.1 ∨ (0 ≤ fr ∧ fr < 3948 ∧ inv fr = a)) (hg : g = 0 ∨ g = 1) : XM l s0 D y_Mo_bit prog_13_method_10_code 7 (some .int) 2 0 0 [.ref (s0.heap.size + 33), .int (zI fr), .int (zI g)] (sM s0.heap.size cI h κ (c0, v)) (K) (PR (some (.int (zI (mBit pk κ.2.2.2.1 c0 a g).1))) (sM s0.heap.size cI h κ ((mBit pk κ.2.2.2.1 c0 a g).2, v)) K) := by
  refine XM.of (cI := cI) (cL := cL) (own := "NarrowingPackerModel") (by decide) rfl E.2 (nle rfl) ?_
  intro p e s m below meth c C hn
  obtain ⟨pa, bd, X, rg, pl, G, cd, nx⟩ := c0
  obtain ⟨k1, k2, k3, k4⟩ := ok
  have k1 : ∀ i, 0 ≤ G i ∧ G i < 256 := k1
  have k2 : pa = 0 ∨ pa = 1 := k2
  have k3 : 0 ≤ bd ∧ bd ≤ 4 := k3
  by_cases hb : 0 < bd
  · refine x_aload_n C d_Mo_bit_0 rfl ?_
    refine x_get C (G_Mo E.1) 15 (u_779 E.1) d_Mo_bit_1 (by decide) (by rfl) (show _ = some (.int (zI bd)) from rfl) ?_
    refine x_if_le C (tgt := 9) d_Mo_bit_4 (by decide) (by omega) (by omega) (fun c4 => ?_) (fun c4 => ?_)
    · exfalso; omega
    · refine x_iconst C d_Mo_bit_7 ?_
      exact x_iret C d_Mo_bit_8 (nle rfl) (nle rfl) ⟨by unfold mBit; rw [if_pos hb], by unfold mBit; rw [if_pos hb], rfl⟩
  · have hf : 0 ≤ fr ∧ fr < 3948 ∧ inv fr = a := by
      rcases hf with hf | hf
      · exact absurd hf hb
      · exact hf
    obtain ⟨f1, f2, ha⟩ := hf
    subst ha
    have h4 : (∀ a, 0 ≤ X a ∧ X a ≤ 2048) ∧ 0 ≤ rg ∧ rg < 4294967296 ∧ (pa = 1 → 4 ≤ pl ∧ pl + 1 ≤ 1600) ∧ (pa = 0 → 0 ≤ cd ∧ cd < rg ∧ 0 ≤ nx ∧ nx ≤ κ.2.2.2.1) := by
      rcases k4 with k4 | k4
      · exact absurd k4 hb
      · exact k4
    obtain ⟨x1, r1, r2, q1, q0⟩ := h4
    have fp := x1 (inv fr)
    have hbd := bd_le (r := rg) (p := X (inv fr)) r1 fp.1 fp.2
    rcases k2 with rfl | rfl
    · have q0 := q0 rfl
      refine x_aload_n C d_Mo_bit_0 rfl ?_
      refine x_get C (G_Mo E.1) 15 (u_779 E.1) d_Mo_bit_1 (by decide) (by rfl) (show _ = some (.int (zI bd)) from rfl) ?_
      refine x_if_le C (tgt := 9) d_Mo_bit_4 (by decide) (by omega) (by omega) (fun c4 => ?_) (fun c4 => ?_)
      · refine x_aload_n C d_Mo_bit_9 rfl ?_
        refine x_get C (G_Mo E.1) 16 (u_780 E.1) d_Mo_bit_10 (by decide) (by rfl) rfl ?_
        refine x_iload_n C d_Mo_bit_13 rfl ?_
        refine x_iald C d_Mo_bit_14 (show _ = some (iA cI 3948 (fun j => X (inv j))) from rfl) (by omega) (by omega) (by omega) ?_
        refine x_istore_n C d_Mo_bit_15 (by decide) ?_
        refine x_aload_n C d_Mo_bit_16 rfl ?_
        refine x_get C (G_Mo E.1) 17 (u_781 E.1) d_Mo_bit_17 (by decide) (by rfl) (show _ = some (.long (zL rg)) from rfl) ?_
        refine x_ldc2 C (v := 2048) (u_907 E.1) d_Mo_bit_20 ?_
        refine x_ldiv C d_Mo_bit_23 (by omega) (by omega) (by omega) (by omega) ?_
        refine x_iload_n C d_Mo_bit_24 rfl ?_
        refine x_i2l C d_Mo_bit_25 (by omega) (by omega) ?_
        refine x_lmul C d_Mo_bit_26 ?_
        refine x_lstore C d_Mo_bit_27 (by decide) ?_
        refine x_aload_n C d_Mo_bit_29 rfl ?_
        refine x_get C (G_Mo E.1) 14 (u_778 E.1) d_Mo_bit_30 (by decide) (by rfl) (show _ = some (.int (zI 0)) from rfl) ?_
        refine x_if_eq C (tgt := 40) d_Mo_bit_33 (by decide) (by omega) (by omega) (fun c33 => ?_) (fun c33 => ?_)
        · refine x_aload_n C d_Mo_bit_40 rfl ?_
          refine x_get C (G_Mo E.1) 20 (u_784 E.1) d_Mo_bit_41 (by decide) (by rfl) (show _ = some (.long (zL cd)) from rfl) ?_
          refine x_lload C d_Mo_bit_44 rfl ?_
          refine x_lcmp C d_Mo_bit_46 ?_
          refine x_lif_ge C (tgt := 54) d_Mo_bit_47 (by decide) (by omega) (by omega) (by omega) (by omega) (fun c47 => ?_) (fun c47 => ?_)
          · refine x_iconst C d_Mo_bit_54 ?_
            refine x_istore C d_Mo_bit_55 (by decide) ?_
            refine x_iload C d_Mo_bit_57 rfl ?_
            refine x_if_ne C (tgt := 87) d_Mo_bit_59 (by decide) (by omega) (by omega) (fun c59 => ?_) (fun c59 => ?_)
            · refine x_aload_n C d_Mo_bit_87 rfl ?_
              refine x_get C (G_Mo E.1) 14 (u_778 E.1) d_Mo_bit_88 (by decide) (by rfl) (show _ = some (.int (zI 0)) from rfl) ?_
              refine x_if_eq C (tgt := 103) d_Mo_bit_91 (by decide) (by omega) (by omega) (fun c91 => ?_) (fun c91 => ?_)
              · refine x_aload_n C d_Mo_bit_103 rfl ?_
                refine x_aload_n C d_Mo_bit_104 rfl ?_
                refine x_get C (G_Mo E.1) 20 (u_784 E.1) d_Mo_bit_105 (by decide) (by rfl) (show _ = some (.long (zL cd)) from rfl) ?_
                refine x_lload C d_Mo_bit_108 rfl ?_
                refine x_lsub C d_Mo_bit_110 ?_
                refine x_put C (G_Mo E.1) 20 (u_784 E.1) d_Mo_bit_111 (by decide) rfl (by rfl) rfl rfl (nle rfl) ?_
                refine x_aload_n C d_Mo_bit_114 rfl ?_
                refine x_aload_n C d_Mo_bit_115 rfl ?_
                refine x_get C (G_Mo E.1) 17 (u_781 E.1) d_Mo_bit_116 (by decide) (by rfl) (show _ = some (.long (zL rg)) from rfl) ?_
                refine x_lload C d_Mo_bit_119 rfl ?_
                refine x_lsub C d_Mo_bit_121 ?_
                refine x_put C (G_Mo E.1) 17 (u_781 E.1) d_Mo_bit_122 (by decide) rfl (by rfl) rfl rfl (nle rfl) ?_
                refine x_aload_n C d_Mo_bit_125 rfl ?_
                refine x_get C (G_Mo E.1) 16 (u_780 E.1) d_Mo_bit_126 (by decide) (by rfl) rfl ?_
                refine x_iload_n C d_Mo_bit_129 rfl ?_
                refine x_iload_n C d_Mo_bit_130 rfl ?_
                refine x_iload_n C d_Mo_bit_131 rfl ?_
                refine x_bipush C d_Mo_bit_132 (by decide) ?_
                refine x_idiv C d_Mo_bit_134 (by omega) (by omega) (by omega) (by omega) ?_
                refine x_isub C d_Mo_bit_135 ?_
                refine x_iast C d_Mo_bit_136 (show _ = some (iA cI 3948 (fun j => X (inv j))) from rfl) (by omega) (by omega) (by omega) ?_
                rw [zup_inv]
                refine x_aload_n C d_Mo_bit_137 rfl ?_
                refine XW.heq (h' := sM s0.heap.size cI h κ (((0, bd, zup X (inv fr) (X (inv fr) - X (inv fr) / 32), rg - rg / 2048 * X (inv fr), pl, G, cd - rg / 2048 * X (inv fr), nx) : Cd), v)) (sM_eq rfl rfl rfl rfl rfl rfl rfl rfl (fun q q1 q2 q3 q4 q5 q6 q7 q8 => by simp only [sM, a_up, beq_f q1, beq_f q2, beq_f q3, beq_f q4, beq_f q5, beq_f q6, beq_f q7, beq_f q8, cond_false])) ?_
                refine x_callVR C (G_Mo E.1) (u_913 E.1) (u_915 E.1) (us_29 E.1) (u_916 E.1) (u_13 E.1) d_Mo_bit_138 (c_Mo_widen l E h35 hP hp z1 z2 (by omega) (by omega) (by decide) (fun e => by omega) (fun e => by omega)) nh_Mo_widen ln_Mo_widen rfl rfl (nle rfl) (nle rfl) (nle rfl) (nle rfl) (nle rfl) ?_
                refine x_iload C d_Mo_bit_141 rfl ?_
                exact x_iret C d_Mo_bit_143 (nle rfl) (nle rfl) ⟨by rw [mBit_r1 hb (by omega)], by rw [mBit_r1 hb (by omega)], rfl⟩
              · exfalso; omega
            · exfalso; omega
          · refine x_iconst C d_Mo_bit_50 ?_
            refine x_goto C (tgt := 55) d_Mo_bit_51 (by decide) ?_
            refine x_istore C d_Mo_bit_55 (by decide) ?_
            refine x_iload C d_Mo_bit_57 rfl ?_
            refine x_if_ne C (tgt := 87) d_Mo_bit_59 (by decide) (by omega) (by omega) (fun c59 => ?_) (fun c59 => ?_)
            · exfalso; omega
            · refine x_aload_n C d_Mo_bit_62 rfl ?_
              refine x_lload C d_Mo_bit_63 rfl ?_
              refine x_put C (G_Mo E.1) 17 (u_781 E.1) d_Mo_bit_65 (by decide) rfl (by rfl) rfl rfl (nle rfl) ?_
              refine x_aload_n C d_Mo_bit_68 rfl ?_
              refine x_get C (G_Mo E.1) 16 (u_780 E.1) d_Mo_bit_69 (by decide) (by rfl) rfl ?_
              refine x_iload_n C d_Mo_bit_72 rfl ?_
              refine x_iload_n C d_Mo_bit_73 rfl ?_
              refine x_sipush C d_Mo_bit_74 (by decide) ?_
              refine x_iload_n C d_Mo_bit_77 rfl ?_
              refine x_isub C d_Mo_bit_78 ?_
              refine x_bipush C d_Mo_bit_79 (by decide) ?_
              refine x_idiv C d_Mo_bit_81 (by omega) (by omega) (by omega) (by omega) ?_
              refine x_iadd C d_Mo_bit_82 ?_
              refine x_iast C d_Mo_bit_83 (show _ = some (iA cI 3948 (fun j => X (inv j))) from rfl) (by omega) (by omega) (by omega) ?_
              rw [zup_inv]
              refine x_goto C (tgt := 137) d_Mo_bit_84 (by decide) ?_
              refine x_aload_n C d_Mo_bit_137 rfl ?_
              refine XW.heq (h' := sM s0.heap.size cI h κ (((0, bd, zup X (inv fr) (X (inv fr) + (2048 - X (inv fr)) / 32), rg / 2048 * X (inv fr), pl, G, cd, nx) : Cd), v)) (sM_eq rfl rfl rfl rfl rfl rfl rfl rfl (fun q q1 q2 q3 q4 q5 q6 q7 q8 => by simp only [sM, a_up, beq_f q1, beq_f q2, beq_f q3, beq_f q4, beq_f q5, beq_f q6, beq_f q7, beq_f q8, cond_false])) ?_
              refine x_callVR C (G_Mo E.1) (u_913 E.1) (u_915 E.1) (us_29 E.1) (u_916 E.1) (u_13 E.1) d_Mo_bit_138 (c_Mo_widen l E h35 hP hp z1 z2 (by omega) (by omega) (by decide) (fun e => by omega) (fun e => by omega)) nh_Mo_widen ln_Mo_widen rfl rfl (nle rfl) (nle rfl) (nle rfl) (nle rfl) (nle rfl) ?_
              refine x_iload C d_Mo_bit_141 rfl ?_
              exact x_iret C d_Mo_bit_143 (nle rfl) (nle rfl) ⟨by rw [mBit_r0 hb c47], by rw [mBit_r0 hb c47], rfl⟩
        · exfalso; omega
      · exfalso; omega
    · have q1 := q1 rfl
      rcases hg with rfl | rfl
      · refine x_aload_n C d_Mo_bit_0 rfl ?_
        refine x_get C (G_Mo E.1) 15 (u_779 E.1) d_Mo_bit_1 (by decide) (by rfl) (show _ = some (.int (zI bd)) from rfl) ?_
        refine x_if_le C (tgt := 9) d_Mo_bit_4 (by decide) (by omega) (by omega) (fun c4 => ?_) (fun c4 => ?_)
        · refine x_aload_n C d_Mo_bit_9 rfl ?_
          refine x_get C (G_Mo E.1) 16 (u_780 E.1) d_Mo_bit_10 (by decide) (by rfl) rfl ?_
          refine x_iload_n C d_Mo_bit_13 rfl ?_
          refine x_iald C d_Mo_bit_14 (show _ = some (iA cI 3948 (fun j => X (inv j))) from rfl) (by omega) (by omega) (by omega) ?_
          refine x_istore_n C d_Mo_bit_15 (by decide) ?_
          refine x_aload_n C d_Mo_bit_16 rfl ?_
          refine x_get C (G_Mo E.1) 17 (u_781 E.1) d_Mo_bit_17 (by decide) (by rfl) (show _ = some (.long (zL rg)) from rfl) ?_
          refine x_ldc2 C (v := 2048) (u_907 E.1) d_Mo_bit_20 ?_
          refine x_ldiv C d_Mo_bit_23 (by omega) (by omega) (by omega) (by omega) ?_
          refine x_iload_n C d_Mo_bit_24 rfl ?_
          refine x_i2l C d_Mo_bit_25 (by omega) (by omega) ?_
          refine x_lmul C d_Mo_bit_26 ?_
          refine x_lstore C d_Mo_bit_27 (by decide) ?_
          refine x_aload_n C d_Mo_bit_29 rfl ?_
          refine x_get C (G_Mo E.1) 14 (u_778 E.1) d_Mo_bit_30 (by decide) (by rfl) (show _ = some (.int (zI 1)) from rfl) ?_
          refine x_if_eq C (tgt := 40) d_Mo_bit_33 (by decide) (by omega) (by omega) (fun c33 => ?_) (fun c33 => ?_)
          · exfalso; omega
          · refine x_iload_n C d_Mo_bit_36 rfl ?_
            refine x_goto C (tgt := 55) d_Mo_bit_37 (by decide) ?_
            refine x_istore C d_Mo_bit_55 (by decide) ?_
            refine x_iload C d_Mo_bit_57 rfl ?_
            refine x_if_ne C (tgt := 87) d_Mo_bit_59 (by decide) (by omega) (by omega) (fun c59 => ?_) (fun c59 => ?_)
            · exfalso; omega
            · refine x_aload_n C d_Mo_bit_62 rfl ?_
              refine x_lload C d_Mo_bit_63 rfl ?_
              refine x_put C (G_Mo E.1) 17 (u_781 E.1) d_Mo_bit_65 (by decide) rfl (by rfl) rfl rfl (nle rfl) ?_
              refine x_aload_n C d_Mo_bit_68 rfl ?_
              refine x_get C (G_Mo E.1) 16 (u_780 E.1) d_Mo_bit_69 (by decide) (by rfl) rfl ?_
              refine x_iload_n C d_Mo_bit_72 rfl ?_
              refine x_iload_n C d_Mo_bit_73 rfl ?_
              refine x_sipush C d_Mo_bit_74 (by decide) ?_
              refine x_iload_n C d_Mo_bit_77 rfl ?_
              refine x_isub C d_Mo_bit_78 ?_
              refine x_bipush C d_Mo_bit_79 (by decide) ?_
              refine x_idiv C d_Mo_bit_81 (by omega) (by omega) (by omega) (by omega) ?_
              refine x_iadd C d_Mo_bit_82 ?_
              refine x_iast C d_Mo_bit_83 (show _ = some (iA cI 3948 (fun j => X (inv j))) from rfl) (by omega) (by omega) (by omega) ?_
              rw [zup_inv]
              refine x_goto C (tgt := 137) d_Mo_bit_84 (by decide) ?_
              refine x_aload_n C d_Mo_bit_137 rfl ?_
              refine XW.heq (h' := sM s0.heap.size cI h κ (((1, bd, zup X (inv fr) (X (inv fr) + (2048 - X (inv fr)) / 32), rg / 2048 * X (inv fr), pl, G, cd, nx) : Cd), v)) (sM_eq rfl rfl rfl rfl rfl rfl rfl rfl (fun q q1 q2 q3 q4 q5 q6 q7 q8 => by simp only [sM, a_up, beq_f q1, beq_f q2, beq_f q3, beq_f q4, beq_f q5, beq_f q6, beq_f q7, beq_f q8, cond_false])) ?_
              refine x_callVR C (G_Mo E.1) (u_913 E.1) (u_915 E.1) (us_29 E.1) (u_916 E.1) (u_13 E.1) d_Mo_bit_138 (c_Mo_widen l E h35 hP hp z1 z2 (by omega) (by omega) (by decide) (fun e => by omega) (fun e => by omega)) nh_Mo_widen ln_Mo_widen rfl rfl (nle rfl) (nle rfl) (nle rfl) (nle rfl) (nle rfl) ?_
              refine x_iload C d_Mo_bit_141 rfl ?_
              exact x_iret C d_Mo_bit_143 (nle rfl) (nle rfl) ⟨by rw [mBit_p0 hb], by rw [mBit_p0 hb], rfl⟩
        · exfalso; omega
      · refine x_aload_n C d_Mo_bit_0 rfl ?_
        refine x_get C (G_Mo E.1) 15 (u_779 E.1) d_Mo_bit_1 (by decide) (by rfl) (show _ = some (.int (zI bd)) from rfl) ?_
        refine x_if_le C (tgt := 9) d_Mo_bit_4 (by decide) (by omega) (by omega) (fun c4 => ?_) (fun c4 => ?_)
        · refine x_aload_n C d_Mo_bit_9 rfl ?_
          refine x_get C (G_Mo E.1) 16 (u_780 E.1) d_Mo_bit_10 (by decide) (by rfl) rfl ?_
          refine x_iload_n C d_Mo_bit_13 rfl ?_
          refine x_iald C d_Mo_bit_14 (show _ = some (iA cI 3948 (fun j => X (inv j))) from rfl) (by omega) (by omega) (by omega) ?_
          refine x_istore_n C d_Mo_bit_15 (by decide) ?_
          refine x_aload_n C d_Mo_bit_16 rfl ?_
          refine x_get C (G_Mo E.1) 17 (u_781 E.1) d_Mo_bit_17 (by decide) (by rfl) (show _ = some (.long (zL rg)) from rfl) ?_
          refine x_ldc2 C (v := 2048) (u_907 E.1) d_Mo_bit_20 ?_
          refine x_ldiv C d_Mo_bit_23 (by omega) (by omega) (by omega) (by omega) ?_
          refine x_iload_n C d_Mo_bit_24 rfl ?_
          refine x_i2l C d_Mo_bit_25 (by omega) (by omega) ?_
          refine x_lmul C d_Mo_bit_26 ?_
          refine x_lstore C d_Mo_bit_27 (by decide) ?_
          refine x_aload_n C d_Mo_bit_29 rfl ?_
          refine x_get C (G_Mo E.1) 14 (u_778 E.1) d_Mo_bit_30 (by decide) (by rfl) (show _ = some (.int (zI 1)) from rfl) ?_
          refine x_if_eq C (tgt := 40) d_Mo_bit_33 (by decide) (by omega) (by omega) (fun c33 => ?_) (fun c33 => ?_)
          · exfalso; omega
          · refine x_iload_n C d_Mo_bit_36 rfl ?_
            refine x_goto C (tgt := 55) d_Mo_bit_37 (by decide) ?_
            refine x_istore C d_Mo_bit_55 (by decide) ?_
            refine x_iload C d_Mo_bit_57 rfl ?_
            refine x_if_ne C (tgt := 87) d_Mo_bit_59 (by decide) (by omega) (by omega) (fun c59 => ?_) (fun c59 => ?_)
            · refine x_aload_n C d_Mo_bit_87 rfl ?_
              refine x_get C (G_Mo E.1) 14 (u_778 E.1) d_Mo_bit_88 (by decide) (by rfl) (show _ = some (.int (zI 1)) from rfl) ?_
              refine x_if_eq C (tgt := 103) d_Mo_bit_91 (by decide) (by omega) (by omega) (fun c91 => ?_) (fun c91 => ?_)
              · exfalso; omega
              · refine x_aload_n C d_Mo_bit_94 rfl ?_
                refine x_lload C d_Mo_bit_95 rfl ?_
                refine x_callVR C (G_Mo E.1) (u_908 E.1) (u_910 E.1) (us_28 E.1) (u_911 E.1) (u_13 E.1) d_Mo_bit_97 (c_Mo_grow l E k1 (by omega) (by omega) (by omega) (by omega)) nh_Mo_grow ln_Mo_grow rfl rfl (nle rfl) (nle rfl) (nle rfl) (nle rfl) (nle rfl) ?_
                refine x_goto C (tgt := 114) d_Mo_bit_100 (by decide) ?_
                refine x_aload_n C d_Mo_bit_114 rfl ?_
                refine x_aload_n C d_Mo_bit_115 rfl ?_
                refine x_get C (G_Mo E.1) 17 (u_781 E.1) d_Mo_bit_116 (by decide) (by rfl) (show _ = some (.long (zL rg)) from rfl) ?_
                refine x_lload C d_Mo_bit_119 rfl ?_
                refine x_lsub C d_Mo_bit_121 ?_
                refine x_put C (G_Mo E.1) 17 (u_781 E.1) d_Mo_bit_122 (by decide) rfl (by rfl) rfl rfl (nle rfl) ?_
                refine x_aload_n C d_Mo_bit_125 rfl ?_
                refine x_get C (G_Mo E.1) 16 (u_780 E.1) d_Mo_bit_126 (by decide) (by rfl) rfl ?_
                refine x_iload_n C d_Mo_bit_129 rfl ?_
                refine x_iload_n C d_Mo_bit_130 rfl ?_
                refine x_iload_n C d_Mo_bit_131 rfl ?_
                refine x_bipush C d_Mo_bit_132 (by decide) ?_
                refine x_idiv C d_Mo_bit_134 (by omega) (by omega) (by omega) (by omega) ?_
                refine x_isub C d_Mo_bit_135 ?_
                refine x_iast C d_Mo_bit_136 (show _ = some (iA cI 3948 (fun j => X (inv j))) from rfl) (by omega) (by omega) (by omega) ?_
                rw [zup_inv]
                refine x_aload_n C d_Mo_bit_137 rfl ?_
                refine XW.heq (h' := sM s0.heap.size cI h κ (((1, bd, zup X (inv fr) (X (inv fr) - X (inv fr) / 32), rg - rg / 2048 * X (inv fr), pl, (raiseZ pl.toNat (rg / 2048 * X (inv fr)) G), cd, nx) : Cd), v)) (sM_eq rfl rfl rfl rfl rfl rfl rfl rfl (fun q q1 q2 q3 q4 q5 q6 q7 q8 => by simp only [sM, a_up, beq_f q1, beq_f q2, beq_f q3, beq_f q4, beq_f q5, beq_f q6, beq_f q7, beq_f q8, cond_false])) ?_
                refine x_callVR C (G_Mo E.1) (u_913 E.1) (u_915 E.1) (us_29 E.1) (u_916 E.1) (u_13 E.1) d_Mo_bit_138 (c_Mo_widen l E h35 hP hp z1 z2 (by omega) (by omega) (by decide) (fun e => by omega) (fun e => by omega)) nh_Mo_widen ln_Mo_widen rfl rfl (nle rfl) (nle rfl) (nle rfl) (nle rfl) (nle rfl) ?_
                refine x_iload C d_Mo_bit_141 rfl ?_
                exact x_iret C d_Mo_bit_143 (nle rfl) (nle rfl) ⟨by rw [mBit_p1 hb], by rw [mBit_p1 hb], rfl⟩
            · exfalso; omega
        · exfalso; omega

