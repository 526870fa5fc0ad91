/-! the reference: literals, lengths, distances, echoes: the methods -/
theorem rg_lit0 {q : Int} (q1 : 0 ≤ q) (q2 : q ≤ 3) : rg (72 + 768 * q) (748 + q * 768) 256 := by
  intro j j1 j2
  have h := rg_lit q1 q2 0 (by decide) (by decide) j j1 j2
  rw [show 72 + 768 * q + j = 72 + 768 * q + 0 * 256 + j by omega, show 748 + q * 768 + j = 748 + q * 768 + 0 * 256 + j by omega]
  exact h
set_option maxRecDepth 100000 in
set_option maxHeartbeats 4000000 in
theorem lp_Mo_lit {a0 : Array Value} {s0 : State} {D : va_G} {cI cL : ClassId} (l : Launch) (E : a_E a0 s0 D cI cL) {p : Program} {e : Env} {R : Room} {s : State} {m : MethodId} {args : Array Value} {below : List Frame} {meth : Method} {c : Code} (C : XC s0 D cI cL p s m meth c "NarrowingPackerModel" prog_13_method_13_code 10 (some .int) []) (hR : R = a_rm 4 0 0) {h : AH} {K : Nat} {κ : Kp} {v : Hs × T3 × Int × Cn4} {P pk : Int → Int} (h35 : h 35 = some (iA cI 200 P)) (hP : ∀ j, 0 ≤ j → j < κ.2.2.2.1 → P j = pk j) (hp : ∀ j, 0 ≤ pk j ∧ pk j < 256) (z1 : 0 ≤ κ.2.2.2.1) (z2 : κ.2.2.2.1 ≤ 200) {g q ly : Int} (g1 : -2147483648 ≤ g) (g2 : g < 2147483648) (q1 : 0 ≤ q) (q2 : q ≤ 3) (y1 : 0 ≤ ly) (y2 : ly < 256) {Y : Int × Cd} : ∀ (k : Nat) (mm as : Int) (c0 : Cd), k ≤ 8 → 0 ≤ mm → (mm + 1) * 2 ^ k ≤ 512 → (as = 0 ∨ as = 1) → cOk κ.2.2.2.1 k c0 → mLit pk κ.2.2.2.1 k (748 + q * 768) ly g mm as c0 = Y → XW s0 D p l e R s m args below meth c (XQ s0 D 0 0 (PR (some (.int (zI (Y.1 - 256)))) (sM s0.heap.size cI h κ (Y.2, v)) K) below s) 81 [(0, .ref (s0.heap.size + 33)), (1, .int (zI g)), (3, .int (zI (72 + 768 * q))), (4, .int (zI ly)), (5, .int (zI as)), (6, .int (zI mm)), (7, .int (zI ((k : Nat) - 1 : Int)))] [] (sM s0.heap.size cI h κ (c0, v)) K 0 0 := by
  subst hR
  intro k
  induction k with
  | zero =>
    intro mm as c0 hk m0 mB ha ok hY
    subst hY
    refine x_iload C d_Mo_literal_81 rfl ?_
    refine x_if_lt C (tgt := 166) d_Mo_literal_83 (by decide) (by omega) (by omega) (fun c83 => ?_) (fun c83 => ?_)
    · refine x_iload C d_Mo_literal_166 rfl ?_
      refine x_sipush C d_Mo_literal_168 (by decide) ?_
      refine x_isub C d_Mo_literal_171 ?_
      exact x_iret C d_Mo_literal_172 (nle rfl) (nle rfl) ⟨rfl, rfl, rfl⟩
    · exfalso; omega
  | succ k ih =>
    intro mm as c0 hk m0 mB ha ok hY
    rw [show (((k + 1 : Nat) : Int) - 1) = (k : Int) by omega]
    have hpa := pow_a m0 mB
    have hy := bitZ_01 ly k
    rcases ha with rfl | rfl
    · have hb := mBit_01 (pk := pk) (sz := κ.2.2.2.1) (c := c0) (a := 748 + q * 768 + 0 * 256 + mm) (bitZ_01 g k)
      have hY : mLit pk κ.2.2.2.1 k (748 + q * 768) ly g (2 * mm + (mBit pk κ.2.2.2.1 c0 (748 + q * 768 + 0 * 256 + mm) (bitZ g k)).1) (sameZ 0 (mBit pk κ.2.2.2.1 c0 (748 + q * 768 + 0 * 256 + mm) (bitZ g k)).1 (bitZ ly k)) (mBit pk κ.2.2.2.1 c0 (748 + q * 768 + 0 * 256 + mm) (bitZ g k)).2 = Y := hY
      have hf1 : 0 ≤ 72 + 768 * q + mm ∧ 72 + 768 * q + mm < 3948 ∧ inv (72 + 768 * q + mm) = 748 + q * 768 + 0 * 256 + mm := by
        have h := rg_lit q1 q2 0 (by omega) (by omega) mm m0 (by omega)
        rw [show 72 + 768 * q + mm = 72 + 768 * q + 0 * 256 + mm by omega]
        exact h
      refine x_iload C d_Mo_literal_81 rfl ?_
      refine x_if_lt C (tgt := 166) d_Mo_literal_83 (by decide) (by omega) (by omega) (fun c83 => ?_) (fun c83 => ?_)
      · exfalso; omega
      · refine x_iload C d_Mo_literal_86 rfl ?_
        refine x_iload C d_Mo_literal_88 rfl ?_
        refine x_ishr C (q := 2 ^ k) k d_Mo_literal_90 rfl rfl (by omega) (by omega) (by omega) ?_
        refine x_iconst C d_Mo_literal_91 ?_
        refine x_iand C d_Mo_literal_92 (zI_and1 _) ?_
        refine XW.steq (st' := .int (zI (bitZ ly k)) :: []) rfl ?_
        refine x_istore C d_Mo_literal_93 (by decide) ?_
        refine x_aload_n C d_Mo_literal_95 rfl ?_
        refine x_iload C d_Mo_literal_96 rfl ?_
        refine x_if_eq C (tgt := 117) d_Mo_literal_98 (by decide) (by omega) (by omega) (fun c98 => ?_) (fun c98 => ?_)
        · refine x_iload_n C d_Mo_literal_117 rfl ?_
          refine x_iload C d_Mo_literal_118 rfl ?_
          refine x_iadd C d_Mo_literal_120 ?_
          refine x_iload_n C d_Mo_literal_121 rfl ?_
          refine x_iload C d_Mo_literal_122 rfl ?_
          refine x_ishr C (q := 2 ^ k) k d_Mo_literal_124 rfl rfl (by omega) (by omega) (by omega) ?_
          refine x_iconst C d_Mo_literal_125 ?_
          refine x_iand C d_Mo_literal_126 (zI_and1 _) ?_
          refine XW.steq (st' := .int (zI (bitZ g k)) :: .int (zI (72 + 768 * q + mm)) :: .ref (s0.heap.size + 33) :: []) rfl ?_
          refine x_callVR C (G_Mo E.1) (u_903 E.1) (u_905 E.1) (us_27 E.1) (u_906 E.1) (u_13 E.1) d_Mo_literal_127 (c_Mo_bit l E h35 hP hp z1 z2 (ok.le (by omega)) (fr := 72 + 768 * q + mm) (a := 748 + q * 768 + 0 * 256 + mm) (Or.inr hf1) (bitZ_01 g k)) nh_Mo_bit ln_Mo_bit rfl rfl (nle rfl) (nle rfl) (nle rfl) (nle rfl) (nle rfl) ?_
          refine x_istore C d_Mo_literal_130 (by decide) ?_
          refine x_iload C d_Mo_literal_132 rfl ?_
          refine x_if_eq C (tgt := 148) d_Mo_literal_134 (by decide) (by omega) (by omega) (fun c134 => ?_) (fun c134 => ?_)
          · refine x_iconst C d_Mo_literal_148 ?_
            refine x_istore C d_Mo_literal_149 (by decide) ?_
            refine x_iconst C d_Mo_literal_151 ?_
            refine x_iload C d_Mo_literal_152 rfl ?_
            refine x_imul C d_Mo_literal_154 ?_
            refine x_iload C d_Mo_literal_155 rfl ?_
            refine x_iadd C d_Mo_literal_157 ?_
            refine x_istore C d_Mo_literal_158 (by decide) ?_
            refine x_iinc C d_Mo_literal_160 (by decide) rfl ?_
            refine x_goto C (tgt := 81) d_Mo_literal_163 (by decide) ?_
            refine XW.loc (lv' := [(0, .ref (s0.heap.size + 33)), (1, .int (zI g)), (3, .int (zI (72 + 768 * q))), (4, .int (zI ly)), (5, .int (zI 0)), (6, .int (zI (2 * mm + (mBit pk κ.2.2.2.1 c0 (748 + q * 768 + 0 * 256 + mm) (bitZ g k)).1))), (7, .int (zI ((k : Nat) - 1 : Int)))]) ⟨rfl, rfl, rfl, rfl, rfl, rfl, by rw [show ((k : Nat) - 1 : Int) = (k : Int) + -1 by omega]; rfl, trivial⟩ ?_
            exact ih _ 0 _ (by omega) (by omega) (pow_b hb mB) (by decide) (mBit_ok hp _ (bitZ_01 g k) (by exact ok.le (by omega))) hY
          · exfalso; omega
        · exfalso; omega
    · have hb := mBit_01 (pk := pk) (sz := κ.2.2.2.1) (c := c0) (a := 748 + q * 768 + (1 + bitZ ly k) * 256 + mm) (bitZ_01 g k)
      have hY : mLit pk κ.2.2.2.1 k (748 + q * 768) ly g (2 * mm + (mBit pk κ.2.2.2.1 c0 (748 + q * 768 + (1 + bitZ ly k) * 256 + mm) (bitZ g k)).1) (sameZ 1 (mBit pk κ.2.2.2.1 c0 (748 + q * 768 + (1 + bitZ ly k) * 256 + mm) (bitZ g k)).1 (bitZ ly k)) (mBit pk κ.2.2.2.1 c0 (748 + q * 768 + (1 + bitZ ly k) * 256 + mm) (bitZ g k)).2 = Y := hY
      have hf1 : 0 ≤ 72 + 768 * q + 256 * (1 + bitZ ly k) + mm ∧ 72 + 768 * q + 256 * (1 + bitZ ly k) + mm < 3948 ∧ inv (72 + 768 * q + 256 * (1 + bitZ ly k) + mm) = 748 + q * 768 + (1 + bitZ ly k) * 256 + mm := by
        have h := rg_lit q1 q2 (1 + bitZ ly k) (by omega) (by omega) mm m0 (by omega)
        rw [show 72 + 768 * q + 256 * (1 + bitZ ly k) + mm = 72 + 768 * q + (1 + bitZ ly k) * 256 + mm by omega]
        exact h
      refine x_iload C d_Mo_literal_81 rfl ?_
      refine x_if_lt C (tgt := 166) d_Mo_literal_83 (by decide) (by omega) (by omega) (fun c83 => ?_) (fun c83 => ?_)
      · exfalso; omega
      · refine x_iload C d_Mo_literal_86 rfl ?_
        refine x_iload C d_Mo_literal_88 rfl ?_
        refine x_ishr C (q := 2 ^ k) k d_Mo_literal_90 rfl rfl (by omega) (by omega) (by omega) ?_
        refine x_iconst C d_Mo_literal_91 ?_
        refine x_iand C d_Mo_literal_92 (zI_and1 _) ?_
        refine XW.steq (st' := .int (zI (bitZ ly k)) :: []) rfl ?_
        refine x_istore C d_Mo_literal_93 (by decide) ?_
        refine x_aload_n C d_Mo_literal_95 rfl ?_
        refine x_iload C d_Mo_literal_96 rfl ?_
        refine x_if_eq C (tgt := 117) d_Mo_literal_98 (by decide) (by omega) (by omega) (fun c98 => ?_) (fun c98 => ?_)
        · exfalso; omega
        · refine x_iload_n C d_Mo_literal_101 rfl ?_
          refine x_sipush C d_Mo_literal_102 (by decide) ?_
          refine x_iconst C d_Mo_literal_105 ?_
          refine x_iload C d_Mo_literal_106 rfl ?_
          refine x_iadd C d_Mo_literal_108 ?_
          refine x_imul C d_Mo_literal_109 ?_
          refine x_iadd C d_Mo_literal_110 ?_
          refine x_iload C d_Mo_literal_111 rfl ?_
          refine x_iadd C d_Mo_literal_113 ?_
          refine x_goto C (tgt := 121) d_Mo_literal_114 (by decide) ?_
          refine x_iload_n C d_Mo_literal_121 rfl ?_
          refine x_iload C d_Mo_literal_122 rfl ?_
          refine x_ishr C (q := 2 ^ k) k d_Mo_literal_124 rfl rfl (by omega) (by omega) (by omega) ?_
          refine x_iconst C d_Mo_literal_125 ?_
          refine x_iand C d_Mo_literal_126 (zI_and1 _) ?_
          refine XW.steq (st' := .int (zI (bitZ g k)) :: .int (zI (72 + 768 * q + 256 * (1 + bitZ ly k) + mm)) :: .ref (s0.heap.size + 33) :: []) rfl ?_
          refine x_callVR C (G_Mo E.1) (u_903 E.1) (u_905 E.1) (us_27 E.1) (u_906 E.1) (u_13 E.1) d_Mo_literal_127 (c_Mo_bit l E h35 hP hp z1 z2 (ok.le (by omega)) (fr := 72 + 768 * q + 256 * (1 + bitZ ly k) + mm) (a := 748 + q * 768 + (1 + bitZ ly k) * 256 + mm) (Or.inr hf1) (bitZ_01 g k)) nh_Mo_bit ln_Mo_bit rfl rfl (nle rfl) (nle rfl) (nle rfl) (nle rfl) (nle rfl) ?_
          refine x_istore C d_Mo_literal_130 (by decide) ?_
          refine x_iload C d_Mo_literal_132 rfl ?_
          refine x_if_eq C (tgt := 148) d_Mo_literal_134 (by decide) (by omega) (by omega) (fun c134 => ?_) (fun c134 => ?_)
          · exfalso; omega
          · refine x_iload C d_Mo_literal_137 rfl ?_
            refine x_iload C d_Mo_literal_139 rfl ?_
            refine x_icmp_ne C (tgt := 148) d_Mo_literal_141 (by decide) (by omega) (by omega) (by omega) (by omega) (fun c141 => ?_) (fun c141 => ?_)
            · refine x_iconst C d_Mo_literal_148 ?_
              refine x_istore C d_Mo_literal_149 (by decide) ?_
              refine x_iconst C d_Mo_literal_151 ?_
              refine x_iload C d_Mo_literal_152 rfl ?_
              refine x_imul C d_Mo_literal_154 ?_
              refine x_iload C d_Mo_literal_155 rfl ?_
              refine x_iadd C d_Mo_literal_157 ?_
              refine x_istore C d_Mo_literal_158 (by decide) ?_
              refine x_iinc C d_Mo_literal_160 (by decide) rfl ?_
              refine x_goto C (tgt := 81) d_Mo_literal_163 (by decide) ?_
              first
                | (have hs : sameZ 1 (mBit pk κ.2.2.2.1 c0 (748 + q * 768 + (1 + bitZ ly k) * 256 + mm) (bitZ g k)).1 (bitZ ly k) = 0 := by unfold sameZ; rw [if_neg (by decide), if_neg (by omega)]
                   rw [hs] at hY
                   refine XW.loc (lv' := [(0, .ref (s0.heap.size + 33)), (1, .int (zI g)), (3, .int (zI (72 + 768 * q))), (4, .int (zI ly)), (5, .int (zI 0)), (6, .int (zI (2 * mm + (mBit pk κ.2.2.2.1 c0 (748 + q * 768 + (1 + bitZ ly k) * 256 + mm) (bitZ g k)).1))), (7, .int (zI ((k : Nat) - 1 : Int)))]) ⟨rfl, rfl, rfl, rfl, rfl, rfl, by rw [show ((k : Nat) - 1 : Int) = (k : Int) + -1 by omega]; rfl, trivial⟩ ?_
                   exact ih _ 0 _ (by omega) (by omega) (pow_b hb mB) (by decide) (mBit_ok hp _ (bitZ_01 g k) (by exact ok.le (by omega))) hY)
                | (have hs : sameZ 1 (mBit pk κ.2.2.2.1 c0 (748 + q * 768 + (1 + bitZ ly k) * 256 + mm) (bitZ g k)).1 (bitZ ly k) = 1 := by unfold sameZ; rw [if_neg (by decide), if_pos (by omega)]
                   rw [hs] at hY
                   refine XW.loc (lv' := [(0, .ref (s0.heap.size + 33)), (1, .int (zI g)), (3, .int (zI (72 + 768 * q))), (4, .int (zI ly)), (5, .int (zI 1)), (6, .int (zI (2 * mm + (mBit pk κ.2.2.2.1 c0 (748 + q * 768 + (1 + bitZ ly k) * 256 + mm) (bitZ g k)).1))), (7, .int (zI ((k : Nat) - 1 : Int)))]) ⟨rfl, rfl, rfl, rfl, rfl, rfl, by rw [show ((k : Nat) - 1 : Int) = (k : Int) + -1 by omega]; rfl, trivial⟩ ?_
                   exact ih _ 1 _ (by omega) (by omega) (pow_b hb mB) (by decide) (mBit_ok hp _ (bitZ_01 g k) (by exact ok.le (by omega))) hY)
            · refine x_iconst C d_Mo_literal_144 ?_
              refine x_goto C (tgt := 149) d_Mo_literal_145 (by decide) ?_
              refine x_istore C d_Mo_literal_149 (by decide) ?_
              refine x_iconst C d_Mo_literal_151 ?_
              refine x_iload C d_Mo_literal_152 rfl ?_
              refine x_imul C d_Mo_literal_154 ?_
              refine x_iload C d_Mo_literal_155 rfl ?_
              refine x_iadd C d_Mo_literal_157 ?_
              refine x_istore C d_Mo_literal_158 (by decide) ?_
              refine x_iinc C d_Mo_literal_160 (by decide) rfl ?_
              refine x_goto C (tgt := 81) d_Mo_literal_163 (by decide) ?_
              first
                | (have hs : sameZ 1 (mBit pk κ.2.2.2.1 c0 (748 + q * 768 + (1 + bitZ ly k) * 256 + mm) (bitZ g k)).1 (bitZ ly k) = 0 := by unfold sameZ; rw [if_neg (by decide), if_neg (by omega)]
                   rw [hs] at hY
                   refine XW.loc (lv' := [(0, .ref (s0.heap.size + 33)), (1, .int (zI g)), (3, .int (zI (72 + 768 * q))), (4, .int (zI ly)), (5, .int (zI 0)), (6, .int (zI (2 * mm + (mBit pk κ.2.2.2.1 c0 (748 + q * 768 + (1 + bitZ ly k) * 256 + mm) (bitZ g k)).1))), (7, .int (zI ((k : Nat) - 1 : Int)))]) ⟨rfl, rfl, rfl, rfl, rfl, rfl, by rw [show ((k : Nat) - 1 : Int) = (k : Int) + -1 by omega]; rfl, trivial⟩ ?_
                   exact ih _ 0 _ (by omega) (by omega) (pow_b hb mB) (by decide) (mBit_ok hp _ (bitZ_01 g k) (by exact ok.le (by omega))) hY)
                | (have hs : sameZ 1 (mBit pk κ.2.2.2.1 c0 (748 + q * 768 + (1 + bitZ ly k) * 256 + mm) (bitZ g k)).1 (bitZ ly k) = 1 := by unfold sameZ; rw [if_neg (by decide), if_pos (by omega)]
                   rw [hs] at hY
                   refine XW.loc (lv' := [(0, .ref (s0.heap.size + 33)), (1, .int (zI g)), (3, .int (zI (72 + 768 * q))), (4, .int (zI ly)), (5, .int (zI 1)), (6, .int (zI (2 * mm + (mBit pk κ.2.2.2.1 c0 (748 + q * 768 + (1 + bitZ ly k) * 256 + mm) (bitZ g k)).1))), (7, .int (zI ((k : Nat) - 1 : Int)))]) ⟨rfl, rfl, rfl, rfl, rfl, rfl, by rw [show ((k : Nat) - 1 : Int) = (k : Int) + -1 by omega]; rfl, trivial⟩ ?_
                   exact ih _ 1 _ (by omega) (by omega) (pow_b hb mB) (by decide) (mBit_ok hp _ (bitZ_01 g k) (by exact ok.le (by omega))) hY)
set_option maxRecDepth 100000 in
set_option maxHeartbeats 4000000 in
theorem ex_Mo_lit {a0 : Array Value} {s0 : State} {D : va_G} {cI cL : ClassId} (l : Launch) (E : a_E a0 s0 D cI cL) {p : Program} {e : Env} {R : Room} {s : State} {m : MethodId} {args : Array Value} {below : List Frame} {meth : Method} {c : Code} (C : XC s0 D cI cL p s m meth c "NarrowingPackerModel" prog_13_method_13_code 10 (some .int) []) (hR : R = a_rm 4 0 0) {h : AH} {K : Nat} {κ : Kp} {v : Hs × T3 × Int × Cn4} {P pk : Int → Int} (h35 : h 35 = some (iA cI 200 P)) (hP : ∀ j, 0 ≤ j → j < κ.2.2.2.1 → P j = pk j) (hp : ∀ j, 0 ≤ pk j ∧ pk j < 256) (z1 : 0 ≤ κ.2.2.2.1) (z2 : κ.2.2.2.1 ≤ 200) (hk : hOk v.1) {g : Int} (g1 : -2147483648 ≤ g) (g2 : g < 2147483648) {c0 : Cd} (ok : cOk κ.2.2.2.1 8 c0) : XW s0 D p l e R s m args below meth c (XQ s0 D 0 0 (PR (some (.int (zI (mLt pk κ.2.2.2.1 v.1 g c0).1))) (sM s0.heap.size cI h κ ((mLt pk κ.2.2.2.1 v.1 g c0).2, v)) K) below s) 25 [(0, .ref (s0.heap.size + 33)), (1, .int (zI g))] [.int (zI (hBefore v.1 1 / 64))] (sM s0.heap.size cI h κ (c0, v)) K 0 0 := by
  subst hR
  have hb1 := hBefore_b hk 1
  have hst := hk.2.2.2.1
  have hpl : hPlace v.1 = 748 + hBefore v.1 1 / 64 * 768 := rfl
  have hbk := hk.2.2.1 0
  have hn := hk.2.1
  refine x_istore_n C d_Mo_literal_25 (by decide) ?_
  refine x_bipush C d_Mo_literal_26 (by decide) ?_
  refine x_sipush C d_Mo_literal_28 (by decide) ?_
  refine x_iload_n C d_Mo_literal_31 rfl ?_
  refine x_imul C d_Mo_literal_32 ?_
  refine x_iadd C d_Mo_literal_33 ?_
  refine x_istore_n C d_Mo_literal_34 (by decide) ?_
  refine x_aload_n C d_Mo_literal_35 rfl ?_
  refine x_get C (G_Mo E.1) 23 (u_787 E.1) d_Mo_literal_36 (by decide) (by rfl) (show _ = some (.int (zI v.1.2.2.2)) from rfl) ?_
  refine x_bipush C d_Mo_literal_39 (by decide) ?_
  refine x_icmp_ge C (tgt := 53) d_Mo_literal_41 (by decide) (by omega) (by omega) (by omega) (by omega) (fun c41 => ?_) (fun c41 => ?_)
  · refine x_aload_n C d_Mo_literal_53 rfl ?_
    refine x_get C (G_Mo E.1) 24 (u_788 E.1) d_Mo_literal_54 (by decide) (by rfl) rfl ?_
    refine x_aload_n C d_Mo_literal_57 rfl ?_
    refine x_get C (G_Mo E.1) 22 (u_786 E.1) d_Mo_literal_58 (by decide) (by rfl) (show _ = some (.int (zI v.1.2.1)) from rfl) ?_
    refine x_aload_n C d_Mo_literal_61 rfl ?_
    refine x_get C (G_Mo E.1) 25 (u_789 E.1) d_Mo_literal_62 (by decide) (by rfl) rfl ?_
    refine x_iconst C d_Mo_literal_65 ?_
    refine x_iald C d_Mo_literal_66 (show _ = some (iA cI 4 v.1.2.2.1) from rfl) (by omega) (by omega) (by omega) ?_
    refine x_isub C d_Mo_literal_67 ?_
    have h7 := hk.2.2.2.2 (by omega)
    refine x_iald C d_Mo_literal_68 (show _ = some (iA cI 120 v.1.1) from rfl) (by omega) (by omega) (by omega) ?_
    refine x_istore C d_Mo_literal_69 (by decide) ?_
    refine x_iconst C d_Mo_literal_71 ?_
    refine x_istore C d_Mo_literal_72 (by decide) ?_
    refine x_iconst C d_Mo_literal_74 ?_
    refine x_istore C d_Mo_literal_75 (by decide) ?_
    refine x_bipush C d_Mo_literal_77 (by decide) ?_
    refine x_istore C d_Mo_literal_79 (by decide) ?_
    have ho : hBefore v.1 (v.1.2.2.1 0) = v.1.1 (v.1.2.1 - v.1.2.2.1 0) := if_pos (by omega)
    have hly := hBefore_b hk (v.1.2.2.1 0)
    have has : hAs v.1 = 1 := if_neg (by omega)
    refine XW.loc (lv' := [(0, .ref (s0.heap.size + 33)), (1, .int (zI g)), (3, .int (zI (72 + 768 * (hBefore v.1 1 / 64)))), (4, .int (zI (hBefore v.1 (v.1.2.2.1 0)))), (5, .int (zI 1)), (6, .int (zI 1)), (7, .int (zI ((8 : Nat) - 1 : Int)))]) ⟨rfl, rfl, rfl, by rw [ho]; rfl, rfl, rfl, rfl, trivial⟩ ?_
    exact lp_Mo_lit l E C rfl h35 hP hp z1 z2 g1 g2 (by omega) (by omega) hly.1 hly.2 8 1 1 c0 (by decide) (by decide) (by decide) (by decide) ok (by rw [has, hpl])
  · refine x_aload_n C d_Mo_literal_44 rfl ?_
    refine x_iload_n C d_Mo_literal_45 rfl ?_
    refine x_bipush C d_Mo_literal_46 (by decide) ?_
    refine x_iload_n C d_Mo_literal_48 rfl ?_
    have has : hAs v.1 = 0 := if_pos (by omega)
    refine x_callVR C (G_Mo E.1) (u_926 E.1) (u_928 E.1) (us_32 E.1) (u_929 E.1) (u_13 E.1) d_Mo_literal_49 (c_Mo_tree l E h35 hP hp z1 z2 (fr := 72 + 768 * (hBefore v.1 1 / 64)) (a := hPlace v.1) 8 (by decide) g1 g2 ok (Or.inr (by rw [hpl]; exact rg_lit0 (by omega) (by omega)))) nh_Mo_tree ln_Mo_tree rfl rfl (nle rfl) (nle rfl) (nle rfl) (nle rfl) (nle rfl) ?_
    exact x_iret C d_Mo_literal_52 (nle rfl) (nle rfl) ⟨by unfold mLt; rw [has, mLit_0]; rfl, by unfold mLt; rw [has, mLit_0], rfl⟩
set_option maxRecDepth 100000 in
set_option maxHeartbeats 4000000 in
theorem c_Mo_literal {a0 : Array Value} {s0 : State} {D : va_G} {cI cL : ClassId} (l : Launch) (E : a_E a0 s0 D cI cL) {h : AH} {K : Nat} {κ : Kp} {v : Hs × T3 × Int × Cn4} {P pk : Int → Int} (h35 : h 35 = some (iA cI 200 P)) (hP : ∀ j, 0 ≤ j → j < κ.2.2.2.1 → P j = pk j) (hp : ∀ j, 0 ≤ pk j ∧ pk j < 256) (z1 : 0 ≤ κ.2.2.2.1) (z2 : κ.2.2.2.1 ≤ 200) (hk : hOk v.1) {c0 : Cd} {g : Int} (g1 : -2147483648 ≤ g) (g2 : g < 2147483648) (ok : cOk κ.2.2.2.1 8 c0) : XM l s0 D y_Mo_literal prog_13_method_13_code 10 (some .int) 4 0 0 [.ref (s0.heap.size + 33), .int (zI g)] (sM s0.heap.size cI h κ (c0, v)) (K) (PR (some (.int (zI (mLt pk κ.2.2.2.1 v.1 g c0).1))) (sM s0.heap.size cI h κ ((mLt pk κ.2.2.2.1 v.1 g c0).2, v)) K) := by
  refine XM.of (cI := cI) (cL := cL) (own := "NarrowingPackerModel") (by decide) rfl E.2 (nle rfl) ?_
  intro p e s m below meth c C hn
  have hn := hk.2.1
  refine x_aload_n C d_Mo_literal_0 rfl ?_
  refine x_get C (G_Mo E.1) 22 (u_786 E.1) d_Mo_literal_1 (by decide) (by rfl) (show _ = some (.int (zI v.1.2.1)) from rfl) ?_
  refine x_if_ne C (tgt := 11) d_Mo_literal_4 (by decide) (by omega) (by omega) (fun c4 => ?_) (fun c4 => ?_)
  · refine x_aload_n C d_Mo_literal_11 rfl ?_
    refine x_get C (G_Mo E.1) 24 (u_788 E.1) d_Mo_literal_12 (by decide) (by rfl) rfl ?_
    refine x_aload_n C d_Mo_literal_15 rfl ?_
    refine x_get C (G_Mo E.1) 22 (u_786 E.1) d_Mo_literal_16 (by decide) (by rfl) (show _ = some (.int (zI v.1.2.1)) from rfl) ?_
    refine x_iconst C d_Mo_literal_19 ?_
    refine x_isub C d_Mo_literal_20 ?_
    refine x_iald C d_Mo_literal_21 (show _ = some (iA cI 120 v.1.1) from rfl) (by omega) (by omega) (by omega) ?_
    have hbb := hk.1 (v.1.2.1 - 1)
    refine x_bipush C d_Mo_literal_22 (by decide) ?_
    refine x_ishr C (q := 64) 6 d_Mo_literal_24 rfl rfl (by decide) (by omega) (by omega) ?_
    first
      | (refine XW.steq (st' := [.int (zI (hBefore v.1 1 / 64))]) (by rw [show hBefore v.1 1 = v.1.1 (v.1.2.1 - 1) from if_pos (by omega)]) ?_
         refine XW.loc (lv' := [(0, .ref (s0.heap.size + 33)), (1, .int (zI g))]) ⟨rfl, rfl, trivial⟩ ?_
         exact ex_Mo_lit l E C rfl h35 hP hp z1 z2 hk g1 g2 ok)
      | (refine XW.steq (st' := [.int (zI (hBefore v.1 1 / 64))]) (by rw [show hBefore v.1 1 = 0 from if_neg (by omega)]; rfl) ?_
         refine XW.loc (lv' := [(0, .ref (s0.heap.size + 33)), (1, .int (zI g))]) ⟨rfl, rfl, trivial⟩ ?_
         exact ex_Mo_lit l E C rfl h35 hP hp z1 z2 hk g1 g2 ok)
  · refine x_iconst C d_Mo_literal_7 ?_
    refine x_goto C (tgt := 25) d_Mo_literal_8 (by decide) ?_
    first
      | (refine XW.steq (st' := [.int (zI (hBefore v.1 1 / 64))]) (by rw [show hBefore v.1 1 = v.1.1 (v.1.2.1 - 1) from if_pos (by omega)]) ?_
         refine XW.loc (lv' := [(0, .ref (s0.heap.size + 33)), (1, .int (zI g))]) ⟨rfl, rfl, trivial⟩ ?_
         exact ex_Mo_lit l E C rfl h35 hP hp z1 z2 hk g1 g2 ok)
      | (refine XW.steq (st' := [.int (zI (hBefore v.1 1 / 64))]) (by rw [show hBefore v.1 1 = 0 from if_neg (by omega)]; rfl) ?_
         refine XW.loc (lv' := [(0, .ref (s0.heap.size + 33)), (1, .int (zI g))]) ⟨rfl, rfl, trivial⟩ ?_
         exact ex_Mo_lit l E C rfl h35 hP hp z1 z2 hk g1 g2 ok)

set_option maxRecDepth 100000 in
set_option maxHeartbeats 4000000 in
theorem e2_Mo_len {a0 : Array Value} {s0 : State} {D : va_G} {cI cL : ClassId} (l : Launch) (E : a_E a0 s0 D cI cL) {p : Program} {e : Env} {R : Room} {s : State} {m : MethodId} {args : Array Value} {below : List Frame} {meth : Method} {c : Code} (C : XC s0 D cI cL p s m meth c "NarrowingPackerModel" prog_13_method_14_code 4 (some .int) []) (hR : R = a_rm 4 0 0) {h : AH} {K : Nat} {κ : Kp} {v : Hs × T3 × Int × Cn4} {P pk : Int → Int} (h35 : h 35 = some (iA cI 200 P)) (hP : ∀ j, 0 ≤ j → j < κ.2.2.2.1 → P j = pk j) (hp : ∀ j, 0 ≤ pk j ∧ pk j < 256) (z1 : 0 ≤ κ.2.2.2.1) (z2 : κ.2.2.2.1 ≤ 200) {c0 : Cd} {y g : Int} (y1 : 0 ≤ y) (y2 : y ≤ 1) (g1 : -2000 ≤ g) (g2 : g < 2000000) (ok : cOk κ.2.2.2.1 9 c0) (c26 : (mBit pk κ.2.2.2.1 c0 (72 + 146 * y) (lt8 g)).1 ≠ 0) : XW s0 D p l e R s m args below meth c (XQ s0 D 0 0 (PR (some (.int (zI (mLen pk κ.2.2.2.1 (72 + 146 * y) g c0).1))) (sM s0.heap.size cI h κ ((mLen pk κ.2.2.2.1 (72 + 146 * y) g c0).2, v)) K) below s) 54 [(0, .ref (s0.heap.size + 33)), (2, .int (zI g)), (3, .int (zI (3144 + 146 * y)))] [.int (zI (lt16 g)), .int (zI (3144 + 146 * y + 1)), .ref (s0.heap.size + 33)] (sM s0.heap.size cI h κ ((mBit pk κ.2.2.2.1 c0 (72 + 146 * y) (lt8 g)).2, v)) K 0 0 := by
  subst hR
  have hf1 := (rg_len y1 y2 (x := 1) (by decide) (by decide)).one (by decide)
  have ok1 : cOk κ.2.2.2.1 8 (mBit pk κ.2.2.2.1 c0 (72 + 146 * y) (lt8 g)).2 := mBit_ok hp _ (lt8_b g) ok
  have ok2 : cOk κ.2.2.2.1 7 (mBit pk κ.2.2.2.1 (mBit pk κ.2.2.2.1 c0 (72 + 146 * y) (lt8 g)).2 (72 + 146 * y + 1) (lt16 g)).2 := mBit_ok hp _ (lt16_b g) ok1
  refine x_callVR C (G_Mo E.1) (u_903 E.1) (u_905 E.1) (us_27 E.1) (u_906 E.1) (u_13 E.1) d_Mo_length_54 (c_Mo_bit l E h35 hP hp z1 z2 (ok1.le (by omega)) (fr := 3144 + 146 * y + 1) (a := (72 + 146 * y) + 1) (Or.inr hf1) (lt16_b g)) nh_Mo_bit ln_Mo_bit rfl rfl (nle rfl) (nle rfl) (nle rfl) (nle rfl) (nle rfl) ?_
  have hb54 := mBit_01 (pk := pk) (sz := κ.2.2.2.1) (c := (mBit pk κ.2.2.2.1 c0 (72 + 146 * y) (lt8 g)).2) (a := (72 + 146 * y) + 1) (lt16_b g)
  refine x_if_ne C (tgt := 77) d_Mo_length_57 (by decide) (by omega) (by omega) (fun c57 => ?_) (fun c57 => ?_)
  · refine x_bipush C d_Mo_length_77 (by decide) ?_
    refine x_aload_n C d_Mo_length_79 rfl ?_
    refine x_iload_n C d_Mo_length_80 rfl ?_
    refine x_bipush C d_Mo_length_81 (by decide) ?_
    refine x_iadd C d_Mo_length_83 ?_
    refine x_bipush C d_Mo_length_84 (by decide) ?_
    refine x_iload_n C d_Mo_length_86 rfl ?_
    refine x_bipush C d_Mo_length_87 (by decide) ?_
    refine x_isub C d_Mo_length_89 ?_
    refine x_callVR C (G_Mo E.1) (u_926 E.1) (u_928 E.1) (us_32 E.1) (u_929 E.1) (u_13 E.1) d_Mo_length_90 (c_Mo_tree l E h35 hP hp z1 z2 (fr := 3144 + 146 * y + 18) (a := (72 + 146 * y) + 18) 7 (by decide) (by omega) (by omega) (ok2.le (by omega)) (Or.inr ((rg_len y1 y2 (x := 18) (by decide) (by decide)).le (by decide)))) nh_Mo_tree ln_Mo_tree rfl rfl (nle rfl) (nle rfl) (nle rfl) (nle rfl) (nle rfl) ?_
    refine x_iadd C d_Mo_length_93 ?_
    exact x_iret C d_Mo_length_94 (nle rfl) (nle rfl) ⟨by unfold mLen; rw [if_neg c26, if_neg c57]; rfl, by unfold mLen; rw [if_neg c26, if_neg c57], rfl⟩
  · refine x_bipush C d_Mo_length_60 (by decide) ?_
    refine x_aload_n C d_Mo_length_62 rfl ?_
    refine x_iload_n C d_Mo_length_63 rfl ?_
    refine x_bipush C d_Mo_length_64 (by decide) ?_
    refine x_iadd C d_Mo_length_66 ?_
    refine x_iconst C d_Mo_length_67 ?_
    refine x_iload_n C d_Mo_length_68 rfl ?_
    refine x_bipush C d_Mo_length_69 (by decide) ?_
    refine x_isub C d_Mo_length_71 ?_
    refine x_callVR C (G_Mo E.1) (u_926 E.1) (u_928 E.1) (us_32 E.1) (u_929 E.1) (u_13 E.1) d_Mo_length_72 (c_Mo_tree l E h35 hP hp z1 z2 (fr := 3144 + 146 * y + 10) (a := (72 + 146 * y) + 10) 3 (by decide) (by omega) (by omega) (ok2.le (by omega)) (Or.inr ((rg_len y1 y2 (x := 10) (by decide) (by decide)).le (by decide)))) nh_Mo_tree ln_Mo_tree rfl rfl (nle rfl) (nle rfl) (nle rfl) (nle rfl) (nle rfl) ?_
    refine x_iadd C d_Mo_length_75 ?_
    exact x_iret C d_Mo_length_76 (nle rfl) (nle rfl) ⟨by unfold mLen; rw [if_neg c26, if_pos c57]; rfl, by unfold mLen; rw [if_neg c26, if_pos c57], rfl⟩
set_option maxRecDepth 100000 in
set_option maxHeartbeats 4000000 in
theorem e1_Mo_len {a0 : Array Value} {s0 : State} {D : va_G} {cI cL : ClassId} (l : Launch) (E : a_E a0 s0 D cI cL) {p : Program} {e : Env} {R : Room} {s : State} {m : MethodId} {args : Array Value} {below : List Frame} {meth : Method} {c : Code} (C : XC s0 D cI cL p s m meth c "NarrowingPackerModel" prog_13_method_14_code 4 (some .int) []) (hR : R = a_rm 4 0 0) {h : AH} {K : Nat} {κ : Kp} {v : Hs × T3 × Int × Cn4} {P pk : Int → Int} (h35 : h 35 = some (iA cI 200 P)) (hP : ∀ j, 0 ≤ j → j < κ.2.2.2.1 → P j = pk j) (hp : ∀ j, 0 ≤ pk j ∧ pk j < 256) (z1 : 0 ≤ κ.2.2.2.1) (z2 : κ.2.2.2.1 ≤ 200) {c0 : Cd} {y g : Int} (y1 : 0 ≤ y) (y2 : y ≤ 1) (g1 : -2000 ≤ g) (g2 : g < 2000000) (ok : cOk κ.2.2.2.1 9 c0) : XW s0 D p l e R s m args below meth c (XQ s0 D 0 0 (PR (some (.int (zI (mLen pk κ.2.2.2.1 (72 + 146 * y) g c0).1))) (sM s0.heap.size cI h κ ((mLen pk κ.2.2.2.1 (72 + 146 * y) g c0).2, v)) K) below s) 23 [(0, .ref (s0.heap.size + 33)), (2, .int (zI g)), (3, .int (zI (3144 + 146 * y)))] [.int (zI (lt8 g)), .int (zI (3144 + 146 * y)), .ref (s0.heap.size + 33)] (sM s0.heap.size cI h κ (c0, v)) K 0 0 := by
  have he2 := fun c26 => e2_Mo_len l E C hR h35 hP hp z1 z2 y1 y2 g1 g2 ok (e := e) (args := args) (below := below) (K := K) (v := v) c26
  subst hR
  have hf0 : 0 ≤ 3144 + 146 * y ∧ 3144 + 146 * y < 3948 ∧ inv (3144 + 146 * y) = 72 + 146 * y := by
    have h := (rg_len y1 y2 (x := 0) (by decide) (by decide)).one (by decide)
    rw [Int.add_zero, Int.add_zero] at h
    exact h
  have ok1 : cOk κ.2.2.2.1 8 (mBit pk κ.2.2.2.1 c0 (72 + 146 * y) (lt8 g)).2 := mBit_ok hp _ (lt8_b g) ok
  refine x_callVR C (G_Mo E.1) (u_903 E.1) (u_905 E.1) (us_27 E.1) (u_906 E.1) (u_13 E.1) d_Mo_length_23 (c_Mo_bit l E h35 hP hp z1 z2 (ok.le (by omega)) (fr := 3144 + 146 * y) (a := (72 + 146 * y)) (Or.inr hf0) (lt8_b g)) nh_Mo_bit ln_Mo_bit rfl rfl (nle rfl) (nle rfl) (nle rfl) (nle rfl) (nle rfl) ?_
  have hb23 := mBit_01 (pk := pk) (sz := κ.2.2.2.1) (c := c0) (a := (72 + 146 * y)) (lt8_b g)
  refine x_if_ne C (tgt := 39) d_Mo_length_26 (by decide) (by omega) (by omega) (fun c26 => ?_) (fun c26 => ?_)
  · refine x_aload_n C d_Mo_length_39 rfl ?_
    refine x_iload_n C d_Mo_length_40 rfl ?_
    refine x_iconst C d_Mo_length_41 ?_
    refine x_iadd C d_Mo_length_42 ?_
    refine x_iload_n C d_Mo_length_43 rfl ?_
    refine x_bipush C d_Mo_length_44 (by decide) ?_
    refine x_icmp_ge C (tgt := 53) d_Mo_length_46 (by decide) (by omega) (by omega) (by omega) (by omega) (fun c46 => ?_) (fun c46 => ?_)
    · refine x_iconst C d_Mo_length_53 ?_
      first
        | (refine XW.steq (st' := [.int (zI (lt16 g)), .int (zI (3144 + 146 * y + 1)), .ref (s0.heap.size + 33)]) (by rw [show lt16 g = 0 from if_pos (by omega)]; rfl) ?_
           exact he2 c26)
        | (refine XW.steq (st' := [.int (zI (lt16 g)), .int (zI (3144 + 146 * y + 1)), .ref (s0.heap.size + 33)]) (by rw [show lt16 g = 1 from if_neg (by omega)]; rfl) ?_
           exact he2 c26)
    · refine x_iconst C d_Mo_length_49 ?_
      refine x_goto C (tgt := 54) d_Mo_length_50 (by decide) ?_
      first
        | (refine XW.steq (st' := [.int (zI (lt16 g)), .int (zI (3144 + 146 * y + 1)), .ref (s0.heap.size + 33)]) (by rw [show lt16 g = 0 from if_pos (by omega)]; rfl) ?_
           exact he2 c26)
        | (refine XW.steq (st' := [.int (zI (lt16 g)), .int (zI (3144 + 146 * y + 1)), .ref (s0.heap.size + 33)]) (by rw [show lt16 g = 1 from if_neg (by omega)]; rfl) ?_
           exact he2 c26)
  · refine x_aload_n C d_Mo_length_29 rfl ?_
    refine x_iload_n C d_Mo_length_30 rfl ?_
    refine x_iconst C d_Mo_length_31 ?_
    refine x_iadd C d_Mo_length_32 ?_
    refine x_iconst C d_Mo_length_33 ?_
    refine x_iload_n C d_Mo_length_34 rfl ?_
    refine x_callVR C (G_Mo E.1) (u_926 E.1) (u_928 E.1) (us_32 E.1) (u_929 E.1) (u_13 E.1) d_Mo_length_35 (c_Mo_tree l E h35 hP hp z1 z2 (fr := 3144 + 146 * y + 2) (a := (72 + 146 * y) + 2) 3 (by decide) (by omega) (by omega) (ok1.le (by omega)) (Or.inr ((rg_len y1 y2 (x := 2) (by decide) (by decide)).le (by decide)))) nh_Mo_tree ln_Mo_tree rfl rfl (nle rfl) (nle rfl) (nle rfl) (nle rfl) (nle rfl) ?_
    exact x_iret C d_Mo_length_38 (nle rfl) (nle rfl) ⟨by unfold mLen; rw [if_pos c26]; rfl, by unfold mLen; rw [if_pos c26], rfl⟩
set_option maxRecDepth 100000 in
set_option maxHeartbeats 4000000 in
theorem c_Mo_length {a0 : Array Value} {s0 : State} {D : va_G} {cI cL : ClassId} (l : Launch) (E : a_E a0 s0 D cI cL) {h : AH} {K : Nat} {κ : Kp} {v : Hs × T3 × Int × Cn4} {P pk : Int → Int} (h35 : h 35 = some (iA cI 200 P)) (hP : ∀ j, 0 ≤ j → j < κ.2.2.2.1 → P j = pk j) (hp : ∀ j, 0 ≤ pk j ∧ pk j < 256) (z1 : 0 ≤ κ.2.2.2.1) (z2 : κ.2.2.2.1 ≤ 200) {c0 : Cd} {y g : Int} (y1 : 0 ≤ y) (y2 : y ≤ 1) (g1 : -2000 ≤ g) (g2 : g < 2000000) (ok : cOk κ.2.2.2.1 9 c0) : XM l s0 D y_Mo_length prog_13_method_14_code 4 (some .int) 4 0 0 [.ref (s0.heap.size + 33), .int (zI y), .int (zI g)] (sM s0.heap.size cI h κ (c0, v)) (K) (PR (some (.int (zI (mLen pk κ.2.2.2.1 (72 + 146 * y) g c0).1))) (sM s0.heap.size cI h κ ((mLen pk κ.2.2.2.1 (72 + 146 * y) g c0).2, v)) K) := by
  refine XM.of (cI := cI) (cL := cL) (own := "NarrowingPackerModel") (by decide) rfl E.2 (nle rfl) ?_
  intro p e s m below meth c C hn
  refine x_sipush C d_Mo_length_0 (by decide) ?_
  refine x_sipush C d_Mo_length_3 (by decide) ?_
  refine x_iload_n C d_Mo_length_6 rfl ?_
  refine x_imul C d_Mo_length_7 ?_
  refine x_iadd C d_Mo_length_8 ?_
  refine x_istore_n C d_Mo_length_9 (by decide) ?_
  refine x_aload_n C d_Mo_length_10 rfl ?_
  refine x_iload_n C d_Mo_length_11 rfl ?_
  refine x_iload_n C d_Mo_length_12 rfl ?_
  refine x_bipush C d_Mo_length_13 (by decide) ?_
  refine x_icmp_ge C (tgt := 22) d_Mo_length_15 (by decide) (by omega) (by omega) (by omega) (by omega) (fun c15 => ?_) (fun c15 => ?_)
  · refine x_iconst C d_Mo_length_22 ?_
    first
      | (refine XW.steq (st' := [.int (zI (lt8 g)), .int (zI (3144 + 146 * y)), .ref (s0.heap.size + 33)]) (by rw [show lt8 g = 0 from if_pos (by omega)]) ?_
         refine XW.loc (lv' := [(0, .ref (s0.heap.size + 33)), (2, .int (zI g)), (3, .int (zI (3144 + 146 * y)))]) ⟨rfl, rfl, rfl, trivial⟩ ?_
         exact e1_Mo_len l E C rfl h35 hP hp z1 z2 y1 y2 g1 g2 ok)
      | (refine XW.steq (st' := [.int (zI (lt8 g)), .int (zI (3144 + 146 * y)), .ref (s0.heap.size + 33)]) (by rw [show lt8 g = 1 from if_neg (by omega)]) ?_
         refine XW.loc (lv' := [(0, .ref (s0.heap.size + 33)), (2, .int (zI g)), (3, .int (zI (3144 + 146 * y)))]) ⟨rfl, rfl, rfl, trivial⟩ ?_
         exact e1_Mo_len l E C rfl h35 hP hp z1 z2 y1 y2 g1 g2 ok)
  · refine x_iconst C d_Mo_length_18 ?_
    refine x_goto C (tgt := 23) d_Mo_length_19 (by decide) ?_
    first
      | (refine XW.steq (st' := [.int (zI (lt8 g)), .int (zI (3144 + 146 * y)), .ref (s0.heap.size + 33)]) (by rw [show lt8 g = 0 from if_pos (by omega)]) ?_
         refine XW.loc (lv' := [(0, .ref (s0.heap.size + 33)), (2, .int (zI g)), (3, .int (zI (3144 + 146 * y)))]) ⟨rfl, rfl, rfl, trivial⟩ ?_
         exact e1_Mo_len l E C rfl h35 hP hp z1 z2 y1 y2 g1 g2 ok)
      | (refine XW.steq (st' := [.int (zI (lt8 g)), .int (zI (3144 + 146 * y)), .ref (s0.heap.size + 33)]) (by rw [show lt8 g = 1 from if_neg (by omega)]) ?_
         refine XW.loc (lv' := [(0, .ref (s0.heap.size + 33)), (2, .int (zI g)), (3, .int (zI (3144 + 146 * y)))]) ⟨rfl, rfl, rfl, trivial⟩ ?_
         exact e1_Mo_len l E C rfl h35 hP hp z1 z2 y1 y2 g1 g2 ok)

