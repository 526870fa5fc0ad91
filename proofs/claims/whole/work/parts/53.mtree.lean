/-! the reference: trees and rows -/
theorem mBit_bad {pk : Int → Int} {sz a g : Int} {c : Cd} (h : 0 < c.2.1) : mBit pk sz c a g = (0, c) := if_pos h
/-- the places from fr on are those from a on -/
def rg (fr a B : Int) : Prop := ∀ j, 0 ≤ j → j < B → 0 ≤ fr + j ∧ fr + j < 3948 ∧ inv (fr + j) = a + j
theorem rg_or {pk : Int → Int} {sz a g fr b B : Int} {c : Cd} (h : 0 < c.2.1 ∨ rg fr b B) : 0 < (mBit pk sz c a g).2.2.1 ∨ rg fr b B := by
  rcases h with h | h
  · left; rw [mBit_bad h]; exact h
  · exact Or.inr h
set_option maxRecDepth 100000 in
set_option maxHeartbeats 4000000 in
theorem lp_Mo_tree {a0 : Array Value} {s0 : State} {D : va_G} {cI cL : ClassId} (l : Launch) (E : a_E a0 s0 D cI cL) {p : Program} {e : Env} {R : Room} {s : State} {m : MethodId} {args : Array Value} {below : List Frame} {meth : Method} {c : Code} (C : XC s0 D cI cL p s m meth c "NarrowingPackerModel" prog_13_method_11_code 6 (some .int) []) (hR : R = a_rm 3 0 0) {h : AH} {K : Nat} {κ : Kp} {v : Hs × T3 × Int × Cn4} {P pk : Int → Int} (h35 : h 35 = some (iA cI 200 P)) (hP : ∀ j, 0 ≤ j → j < κ.2.2.2.1 → P j = pk j) (hp : ∀ j, 0 ≤ pk j ∧ pk j < 256) (z1 : 0 ≤ κ.2.2.2.1) (z2 : κ.2.2.2.1 ≤ 200) {fr a g B : Int} {N : Nat} (hN : N ≤ 8) (g1 : -2147483648 ≤ g) (g2 : g < 2147483648) {Y : Int × Cd} : ∀ (k : Nat) (mm : Int) (c0 : Cd), k ≤ N → 0 ≤ mm → (mm + 1) * 2 ^ k ≤ 2 * B → cOk κ.2.2.2.1 k c0 → (0 < c0.2.1 ∨ rg fr a B) → mTree pk κ.2.2.2.1 k a g mm c0 = Y → XW s0 D p l e R s m args below meth c (XQ s0 D 0 0 (PR (some (.int (zI (Y.1 - 2 ^ N)))) (sM s0.heap.size cI h κ (Y.2, v)) K) below s) 8 [(0, .ref (s0.heap.size + 33)), (1, .int (zI fr)), (2, .int (zI (N : Int))), (3, .int (zI g)), (4, .int (zI mm)), (5, .int (zI ((k : Nat) - 1 : Int)))] [] (sM s0.heap.size cI h κ (c0, v)) K 0 0 := by
  subst hR
  intro k
  induction k with
  | zero =>
    intro mm c0 hk m0 mB ok hf hY
    subst hY
    refine x_iload C d_Mo_tree_8 rfl ?_
    refine x_if_lt C (tgt := 40) d_Mo_tree_10 (by decide) (by omega) (by omega) (fun c10 => ?_) (fun c10 => ?_)
    · refine x_iload C d_Mo_tree_40 rfl ?_
      refine x_iconst C d_Mo_tree_42 ?_
      refine x_iload_n C d_Mo_tree_43 rfl ?_
      refine x_ishl C (q := 2 ^ N) N d_Mo_tree_44 rfl rfl (by omega) ?_
      refine x_isub C d_Mo_tree_45 ?_
      exact x_iret C d_Mo_tree_46 (nle rfl) (nle rfl) ⟨by show _ = Sum.inl (some (Value.int (zI (mm - 2 ^ N)))); rw [Int.one_mul], rfl, rfl⟩
    · exfalso; omega
  | succ k ih =>
    intro mm c0 hk m0 mB ok hf hY
    rw [show (((k + 1 : Nat) : Int) - 1) = (k : Int) by omega]
    have hpa := pow_a m0 mB
    have hb := mBit_01 (pk := pk) (sz := κ.2.2.2.1) (c := c0) (a := a + mm) (bitZ_01 g k)
    have hY : mTree pk κ.2.2.2.1 k a g (2 * mm + (mBit pk κ.2.2.2.1 c0 (a + mm) (bitZ g k)).1) (mBit pk κ.2.2.2.1 c0 (a + mm) (bitZ g k)).2 = Y := hY
    have hf1 : 0 < c0.2.1 ∨ (0 ≤ fr + mm ∧ fr + mm < 3948 ∧ inv (fr + mm) = a + mm) := by
      rcases hf with hf | hf
      · exact Or.inl hf
      · exact Or.inr (hf mm m0 (by omega))
    refine x_iload C d_Mo_tree_8 rfl ?_
    refine x_if_lt C (tgt := 40) d_Mo_tree_10 (by decide) (by omega) (by omega) (fun c10 => ?_) (fun c10 => ?_)
    · exfalso; omega
    · refine x_iconst C d_Mo_tree_13 ?_
      refine x_iload C d_Mo_tree_14 rfl ?_
      refine x_imul C d_Mo_tree_16 ?_
      refine x_aload_n C d_Mo_tree_17 rfl ?_
      refine x_iload_n C d_Mo_tree_18 rfl ?_
      refine x_iload C d_Mo_tree_19 rfl ?_
      refine x_iadd C d_Mo_tree_21 ?_
      refine x_iload_n C d_Mo_tree_22 rfl ?_
      refine x_iload C d_Mo_tree_23 rfl ?_
      refine x_ishr C (q := 2 ^ k) k d_Mo_tree_25 rfl rfl (by omega) (by omega) (by omega) ?_
      refine x_iconst C d_Mo_tree_26 ?_
      refine x_iand C d_Mo_tree_27 (zI_and1 _) ?_
      refine XW.steq (st' := .int (zI (bitZ g k)) :: .int (zI (fr + mm)) :: .ref (s0.heap.size + 33) :: .int (zI (2 * mm)) :: []) rfl ?_
      refine x_callVR C (G_Mo E.1) (u_903 E.1) (u_905 E.1) (us_27 E.1) (u_906 E.1) (u_13 E.1) d_Mo_tree_28 (c_Mo_bit l E h35 hP hp z1 z2 (ok.le (by omega)) (fr := fr + mm) (a := a + mm) hf1 (bitZ_01 g k)) nh_Mo_bit ln_Mo_bit rfl rfl (nle rfl) (nle rfl) (nle rfl) (nle rfl) (nle rfl) ?_
      refine x_iadd C d_Mo_tree_31 ?_
      refine x_istore C d_Mo_tree_32 (by decide) ?_
      refine x_iinc C d_Mo_tree_34 (by decide) rfl ?_
      refine x_goto C (tgt := 8) d_Mo_tree_37 (by decide) ?_
      refine XW.loc (lv' := [(0, .ref (s0.heap.size + 33)), (1, .int (zI fr)), (2, .int (zI (N : Int))), (3, .int (zI g)), (4, .int (zI (2 * mm + (mBit pk κ.2.2.2.1 c0 (a + mm) (bitZ g k)).1))), (5, .int (zI ((k : Nat) - 1 : Int)))]) ⟨rfl, rfl, rfl, rfl, rfl, by rw [show ((k : Nat) - 1 : Int) = (k : Int) + -1 by omega]; rfl, trivial⟩ ?_
      exact ih _ _ (by omega) (by omega) (pow_b hb mB) (mBit_ok hp _ (bitZ_01 g k) (by exact ok.le (by omega))) (rg_or hf) hY
set_option maxRecDepth 100000 in
set_option maxHeartbeats 4000000 in
theorem c_Mo_tree {a0 : Array Value} {s0 : State} {D : va_G} {cI cL : ClassId} (l : Launch) (E : a_E a0 s0 D cI cL) {h : AH} {K : Nat} {κ : Kp} {v : Hs × T3 × Int × Cn4} {P pk : Int → Int} (h35 : h 35 = some (iA cI 200 P)) (hP : ∀ j, 0 ≤ j → j < κ.2.2.2.1 → P j = pk j) (hp : ∀ j, 0 ≤ pk j ∧ pk j < 256) (z1 : 0 ≤ κ.2.2.2.1) (z2 : κ.2.2.2.1 ≤ 200) {c0 : Cd} {fr a g : Int} (n : Nat) (n8 : n ≤ 8) (g1 : -2147483648 ≤ g) (g2 : g < 2147483648) (ok : cOk κ.2.2.2.1 n c0) (hf : 0 < c0.2.1 ∨ rg fr a (2 ^ n)) : XM l s0 D y_Mo_tree prog_13_method_11_code 6 (some .int) 3 0 0 [.ref (s0.heap.size + 33), .int (zI fr), .int (zI (n : Int)), .int (zI g)] (sM s0.heap.size cI h κ (c0, v)) (K) (PR (some (.int (zI ((mTree pk κ.2.2.2.1 n a g 1 c0).1 - 2 ^ n)))) (sM s0.heap.size cI h κ ((mTree pk κ.2.2.2.1 n a g 1 c0).2, v)) K) := by
  refine XM.of (cI := cI) (cL := cL) (own := "NarrowingPackerModel") (by decide) rfl E.2 (nle rfl) ?_
  intro p e s m below meth c C hn
  refine x_iconst C d_Mo_tree_0 ?_
  refine x_istore C d_Mo_tree_1 (by decide) ?_
  refine x_iload_n C d_Mo_tree_3 rfl ?_
  refine x_iconst C d_Mo_tree_4 ?_
  refine x_isub C d_Mo_tree_5 ?_
  refine x_istore C d_Mo_tree_6 (by decide) ?_
  refine XW.loc (lv' := [(0, .ref (s0.heap.size + 33)), (1, .int (zI fr)), (2, .int (zI (n : Int))), (3, .int (zI g)), (4, .int (zI 1)), (5, .int (zI ((n : Nat) - 1 : Int)))]) ⟨rfl, rfl, rfl, rfl, rfl, rfl, trivial⟩ ?_
  exact lp_Mo_tree l E C rfl h35 hP hp z1 z2 n8 g1 g2 n 1 c0 (Nat.le_refl _) (by omega) (by omega) ok hf rfl

set_option maxRecDepth 100000 in
set_option maxHeartbeats 4000000 in
theorem lp_Mo_row {a0 : Array Value} {s0 : State} {D : va_G} {cI cL : ClassId} (l : Launch) (E : a_E a0 s0 D cI cL) {p : Program} {e : Env} {R : Room} {s : State} {m : MethodId} {args : Array Value} {below : List Frame} {meth : Method} {c : Code} (C : XC s0 D cI cL p s m meth c "NarrowingPackerModel" prog_13_method_12_code 8 (some .int) []) (hR : R = a_rm 3 0 0) {h : AH} {K : Nat} {κ : Kp} {v : Hs × T3 × Int × Cn4} {P pk : Int → Int} (h35 : h 35 = some (iA cI 200 P)) (hP : ∀ j, 0 ≤ j → j < κ.2.2.2.1 → P j = pk j) (hp : ∀ j, 0 ≤ pk j ∧ pk j < 256) (z1 : 0 ≤ κ.2.2.2.1) (z2 : κ.2.2.2.1 ≤ 200) {fr a g B : Int} {N : Nat} (hN : N ≤ 8) (g1 : -2147483648 ≤ g) (g2 : g < 2147483648) {Y : Int × Cd} : ∀ (r k : Nat) (mm vv : Int) (c0 : Cd), r + k = N → 0 ≤ mm → (mm + 1) * 2 ^ r ≤ 2 * B → cOk κ.2.2.2.1 r c0 → (0 < c0.2.1 ∨ rg fr a B) → mRow pk κ.2.2.2.1 r k a g mm vv c0 = Y → XW s0 D p l e R s m args below meth c (XQ s0 D 0 0 (PR (some (.int (zI Y.1))) (sM s0.heap.size cI h κ (Y.2, v)) K) below s) 9 [(0, .ref (s0.heap.size + 33)), (1, .int (zI fr)), (2, .int (zI (N : Int))), (3, .int (zI g)), (4, .int (zI mm)), (5, .int (zI vv)), (6, .int (zI ((k : Nat) : Int)))] [] (sM s0.heap.size cI h κ (c0, v)) K 0 0 := by
  subst hR
  intro r
  induction r with
  | zero =>
    intro k mm vv c0 hk m0 mB ok hf hY
    subst hY
    refine x_iload C d_Mo_row_9 rfl ?_
    refine x_iload_n C d_Mo_row_11 rfl ?_
    refine x_icmp_ge C (tgt := 56) d_Mo_row_12 (by decide) (by omega) (by omega) (by omega) (by omega) (fun c12 => ?_) (fun c12 => ?_)
    · refine x_iload C d_Mo_row_56 rfl ?_
      exact x_iret C d_Mo_row_58 (nle rfl) (nle rfl) ⟨rfl, rfl, rfl⟩
    · exfalso; omega
  | succ r ih =>
    intro k mm vv c0 hk m0 mB ok hf hY
    have hpa := pow_a m0 mB
    have hb := mBit_01 (pk := pk) (sz := κ.2.2.2.1) (c := c0) (a := a + mm) (bitZ_01 g k)
    have hY : mRow pk κ.2.2.2.1 r (k + 1) a g (2 * mm + (mBit pk κ.2.2.2.1 c0 (a + mm) (bitZ g k)).1) (vv + (mBit pk κ.2.2.2.1 c0 (a + mm) (bitZ g k)).1 * 2 ^ k) (mBit pk κ.2.2.2.1 c0 (a + mm) (bitZ g k)).2 = Y := hY
    have hf1 : 0 < c0.2.1 ∨ (0 ≤ fr + mm ∧ fr + mm < 3948 ∧ inv (fr + mm) = a + mm) := by
      rcases hf with hf | hf
      · exact Or.inl hf
      · exact Or.inr (hf mm m0 (by omega))
    refine x_iload C d_Mo_row_9 rfl ?_
    refine x_iload_n C d_Mo_row_11 rfl ?_
    refine x_icmp_ge C (tgt := 56) d_Mo_row_12 (by decide) (by omega) (by omega) (by omega) (by omega) (fun c12 => ?_) (fun c12 => ?_)
    · exfalso; omega
    · refine x_aload_n C d_Mo_row_15 rfl ?_
      refine x_iload_n C d_Mo_row_16 rfl ?_
      refine x_iload C d_Mo_row_17 rfl ?_
      refine x_iadd C d_Mo_row_19 ?_
      refine x_iload_n C d_Mo_row_20 rfl ?_
      refine x_iload C d_Mo_row_21 rfl ?_
      refine x_ishr C (q := 2 ^ k) k d_Mo_row_23 rfl rfl (by omega) (by omega) (by omega) ?_
      refine x_iconst C d_Mo_row_24 ?_
      refine x_iand C d_Mo_row_25 (zI_and1 _) ?_
      refine XW.steq (st' := .int (zI (bitZ g k)) :: .int (zI (fr + mm)) :: .ref (s0.heap.size + 33) :: []) rfl ?_
      refine x_callVR C (G_Mo E.1) (u_903 E.1) (u_905 E.1) (us_27 E.1) (u_906 E.1) (u_13 E.1) d_Mo_row_26 (c_Mo_bit l E h35 hP hp z1 z2 (ok.le (by omega)) (fr := fr + mm) (a := a + mm) hf1 (bitZ_01 g k)) nh_Mo_bit ln_Mo_bit rfl rfl (nle rfl) (nle rfl) (nle rfl) (nle rfl) (nle rfl) ?_
      refine x_istore C d_Mo_row_29 (by decide) ?_
      refine x_iconst C d_Mo_row_31 ?_
      refine x_iload C d_Mo_row_32 rfl ?_
      refine x_imul C d_Mo_row_34 ?_
      refine x_iload C d_Mo_row_35 rfl ?_
      refine x_iadd C d_Mo_row_37 ?_
      refine x_istore C d_Mo_row_38 (by decide) ?_
      refine x_iload C d_Mo_row_40 rfl ?_
      refine x_iload C d_Mo_row_42 rfl ?_
      refine x_iload C d_Mo_row_44 rfl ?_
      refine x_ishl C (q := 2 ^ k) k d_Mo_row_46 rfl rfl (by omega) ?_
      refine x_iadd C d_Mo_row_47 ?_
      refine x_istore C d_Mo_row_48 (by decide) ?_
      refine x_iinc C d_Mo_row_50 (by decide) rfl ?_
      refine x_goto C (tgt := 9) d_Mo_row_53 (by decide) ?_
      refine XW.loc (lv' := [(0, .ref (s0.heap.size + 33)), (1, .int (zI fr)), (2, .int (zI (N : Int))), (3, .int (zI g)), (4, .int (zI (2 * mm + (mBit pk κ.2.2.2.1 c0 (a + mm) (bitZ g k)).1))), (5, .int (zI (vv + (mBit pk κ.2.2.2.1 c0 (a + mm) (bitZ g k)).1 * 2 ^ k))), (6, .int (zI ((k + 1 : Nat) : Int)))]) ⟨rfl, rfl, rfl, rfl, rfl, rfl, by rw [show ((k + 1 : Nat) : Int) = (k : Int) + 1 by omega]; rfl, trivial⟩ ?_
      exact ih _ _ _ _ (by omega) (by omega) (pow_b hb mB) (mBit_ok hp _ (bitZ_01 g k) (by exact ok.le (by omega))) (rg_or hf) hY
set_option maxRecDepth 100000 in
set_option maxHeartbeats 4000000 in
theorem c_Mo_row {a0 : Array Value} {s0 : State} {D : va_G} {cI cL : ClassId} (l : Launch) (E : a_E a0 s0 D cI cL) {h : AH} {K : Nat} {κ : Kp} {v : Hs × T3 × Int × Cn4} {P pk : Int → Int} (h35 : h 35 = some (iA cI 200 P)) (hP : ∀ j, 0 ≤ j → j < κ.2.2.2.1 → P j = pk j) (hp : ∀ j, 0 ≤ pk j ∧ pk j < 256) (z1 : 0 ≤ κ.2.2.2.1) (z2 : κ.2.2.2.1 ≤ 200) {c0 : Cd} {fr a g : Int} (n : Nat) (n8 : n ≤ 8) (g1 : -2147483648 ≤ g) (g2 : g < 2147483648) (ok : cOk κ.2.2.2.1 n c0) (hf : 0 < c0.2.1 ∨ rg fr a (2 ^ n)) : XM l s0 D y_Mo_row prog_13_method_12_code 8 (some .int) 3 0 0 [.ref (s0.heap.size + 33), .int (zI fr), .int (zI (n : Int)), .int (zI g)] (sM s0.heap.size cI h κ (c0, v)) (K) (PR (some (.int (zI (mRow pk κ.2.2.2.1 n 0 a g 1 0 c0).1))) (sM s0.heap.size cI h κ ((mRow pk κ.2.2.2.1 n 0 a g 1 0 c0).2, v)) K) := by
  refine XM.of (cI := cI) (cL := cL) (own := "NarrowingPackerModel") (by decide) rfl E.2 (nle rfl) ?_
  intro p e s m below meth c C hn
  refine x_iconst C d_Mo_row_0 ?_
  refine x_istore C d_Mo_row_1 (by decide) ?_
  refine x_iconst C d_Mo_row_3 ?_
  refine x_istore C d_Mo_row_4 (by decide) ?_
  refine x_iconst C d_Mo_row_6 ?_
  refine x_istore C d_Mo_row_7 (by decide) ?_
  refine XW.loc (lv' := [(0, .ref (s0.heap.size + 33)), (1, .int (zI fr)), (2, .int (zI (n : Int))), (3, .int (zI g)), (4, .int (zI 1)), (5, .int (zI 0)), (6, .int (zI ((0 : Nat) : Int)))]) ⟨rfl, rfl, rfl, rfl, rfl, rfl, rfl, trivial⟩ ?_
  exact lp_Mo_row l E C rfl h35 hP hp z1 z2 n8 g1 g2 n 0 1 0 c0 (by omega) (by omega) (by omega) ok hf rfl

