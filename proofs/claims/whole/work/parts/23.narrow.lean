/-! the writer of bits: its object at 23, its chances at 24 and 25, its digits at 26 -/
abbrev oNa (b : Nat) (len rg : Int) : va_E := .inr (5, [.ref (b + 24), .ref (b + 26), .int (zI len), .long (zL rg)])
def sN (b : Nat) (cI : ClassId) (h : AH) (x : En) : AH := a_up (a_up (a_up h 25 (iA cI 3820 x.1)) 26 (iA cI 200 x.2.1)) 23 (oNa b x.2.2.1 x.2.2.2)
theorem moreZ_1 {r : Int} (h : r < 16777216) : moreZ r = 1 := if_pos h
theorem moreZ_0 {r : Int} (h : 16777216 ≤ r) : moreZ r = 0 := if_neg (by omega)
theorem shiftZ_1 {r : Int} (h : r < 16777216) : shiftZ r = r * 256 := if_pos h
theorem shiftZ_0 {r : Int} (h : 16777216 ≤ r) : shiftZ r = r := if_neg (by omega)
theorem eBit0 (x : En) (a : Int) : eBit x a 0 = (zup x.1 a (learnZ (x.1 a) 0), x.2.1, x.2.2.1 + moreZ (x.2.2.2 / 2048 * x.1 a), shiftZ (x.2.2.2 / 2048 * x.1 a)) := by
  unfold eBit
  rw [if_pos rfl, if_pos rfl]
theorem eBit1 (x : En) (a : Int) (hl : x.2.2.1 ≤ 200) : eBit x a 1 = (zup x.1 a (learnZ (x.1 a) 1), raiseZ x.2.2.1.toNat (x.2.2.2 / 2048 * x.1 a) x.2.1, x.2.2.1 + moreZ (x.2.2.2 - x.2.2.2 / 2048 * x.1 a), shiftZ (x.2.2.2 - x.2.2.2 / 2048 * x.1 a)) := by
  simp only [eBit, if_neg (show ¬ (1 : Int) = 0 by decide), if_neg (show ¬ 200 < x.2.2.1 by omega)]
theorem eBit1' (x : En) (a : Int) (hl : 200 < x.2.2.1) : eBit x a 1 = (zup x.1 a (learnZ (x.1 a) 1), x.2.1, x.2.2.1 + moreZ (x.2.2.2 - x.2.2.2 / 2048 * x.1 a), shiftZ (x.2.2.2 - x.2.2.2 / 2048 * x.1 a)) := by
  simp only [eBit, if_neg (show ¬ (1 : Int) = 0 by decide), if_pos hl]
theorem sN_eq {b : Nat} {cI : ClassId} {h h1 : AH} {x : En} (e1 : h1 25 = some (iA cI 3820 x.1)) (e2 : h1 26 = some (iA cI 200 x.2.1)) (e3 : h1 23 = some (oNa b x.2.2.1 x.2.2.2)) (o : ∀ q, q ≠ 25 → q ≠ 26 → q ≠ 23 → h1 q = h q) : h1 = sN b cI h x :=
  a_eq3 25 26 23 e1 e2 e3 (fun q q1 q2 q3 => by rw [o q q1 q2 q3]; unfold sN; rw [a_up_n q3, a_up_n q2, a_up_n q1])
theorem sN_sN (b : Nat) (cI : ClassId) (h : AH) (x y : En) : sN b cI (sN b cI h x) y = sN b cI h y :=
  sN_eq rfl rfl rfl (fun q q1 q2 q3 => by unfold sN; rw [a_up_n q3, a_up_n q2, a_up_n q1, a_up_n q3, a_up_n q2, a_up_n q1])
set_option maxRecDepth 100000 in
set_option maxHeartbeats 4000000 in
theorem lp_Na_raiseLow {a0 : Array Value} {s0 : State} {D : va_G} {cI cL : ClassId} (l : Launch) (E : a_E a0 s0 D cI cL) {p : Program} {e : Env} {R : Room} {s : State} {m : MethodId} {args : Array Value} {below : List Frame} {meth : Method} {c : Code} (C : XC s0 D cI cL p s m meth c "NarrowingPacker$Narrower" prog_7_method_7_code 6 none []) {h : AH} {K : Nat} {len rg : Int} (h23 : h 23 = some (oNa s0.heap.size len rg)) {G : Int → Int} : ∀ (k : Nat) (cy : Int) (g : Int → Int), k ≤ 200 → 0 ≤ cy → cy < 8589934592 → (∀ j, 0 ≤ g j ∧ g j < 256) → raiseZ k cy g = G → XW s0 D p l e R s m args below meth c (XQ s0 D 0 0 (PR none (a_up h 26 (iA cI 200 G)) K) below s) 21 [(0, .ref (s0.heap.size + 23)), (3, .long (zL cy)), (5, .int (zI ((k : Nat) - 1 : Int)))] [] (a_up h 26 (iA cI 200 g)) K 0 0 := by
  intro k
  induction k with
  | zero =>
    intro cy g hk c1 c2 hg hG
    have hG : g = G := hG
    subst hG
    refine x_iload C d_Na_raiseLow_21 rfl ?_
    refine x_if_lt C (tgt := 67) d_Na_raiseLow_23 (by decide) (by omega) (by omega) (fun c23 => ?_) (fun c23 => ?_)
    · exact x_vret C d_Na_raiseLow_67 (nle rfl) (nle rfl) ⟨rfl, rfl, rfl⟩
    · exfalso; omega
  | succ k ih =>
    intro cy g hk c1 c2 hg hG
    rw [show (((k + 1 : Nat) : Int) - 1) = (k : Int) by omega]
    have hgk := hg (k : Int)
    unfold raiseZ at hG
    refine x_iload C d_Na_raiseLow_21 rfl ?_
    refine x_if_lt C (tgt := 67) d_Na_raiseLow_23 (by decide) (by omega) (by omega) (fun c23 => ?_) (fun c23 => ?_)
    · first
        | (exfalso; omega)
        | (rw [if_neg (by omega)] at hG; subst hG; exact x_vret C d_Na_raiseLow_67 (nle rfl) (nle rfl) ⟨rfl, rfl, rfl⟩)
    · refine x_lload_n C d_Na_raiseLow_26 rfl ?_
      refine x_lconst C d_Na_raiseLow_27 rfl ?_
      refine x_lcmp C d_Na_raiseLow_28 ?_
      refine x_lif_le C (tgt := 67) d_Na_raiseLow_29 (by decide) (by omega) (by omega) (by omega) (by omega) (fun c29 => ?_) (fun c29 => ?_)
      · first
          | (exfalso; omega)
          | (rw [if_neg (by omega)] at hG; subst hG; exact x_vret C d_Na_raiseLow_67 (nle rfl) (nle rfl) ⟨rfl, rfl, rfl⟩)
      · refine x_lload_n C d_Na_raiseLow_32 rfl ?_
        refine x_aload_n C d_Na_raiseLow_33 rfl ?_
        refine x_get C (G_Na E.1) 1 (u_190 E.1) d_Na_raiseLow_34 (by decide) (by rw [a_up_n (by decide)]; exact h23) rfl ?_
        refine x_iload C d_Na_raiseLow_37 rfl ?_
        refine x_iald C d_Na_raiseLow_39 (a_up_s _ _ _) (by omega) (by omega) (by omega) ?_
        refine x_i2l C d_Na_raiseLow_40 (by omega) (by omega) ?_
        refine x_ladd C d_Na_raiseLow_41 ?_
        refine x_lstore_n C d_Na_raiseLow_42 (by decide) ?_
        refine x_aload_n C d_Na_raiseLow_43 rfl ?_
        refine x_get C (G_Na E.1) 1 (u_190 E.1) d_Na_raiseLow_44 (by decide) (by rw [a_up_n (by decide)]; exact h23) rfl ?_
        refine x_iload C d_Na_raiseLow_47 rfl ?_
        refine x_lload_n C d_Na_raiseLow_49 rfl ?_
        refine x_ldc2 C (v := 255) (u_438 E.1) d_Na_raiseLow_50 ?_
        refine x_land255 C d_Na_raiseLow_53 ?_
        refine x_l2i C d_Na_raiseLow_54 ?_
        refine x_iast C d_Na_raiseLow_55 (a_up_s _ _ _) (by omega) (by omega) (by omega) ?_
        refine x_lload_n C d_Na_raiseLow_56 rfl ?_
        refine x_bipush C d_Na_raiseLow_57 (by decide) ?_
        refine x_lshr C (q := 256) 8 d_Na_raiseLow_59 rfl rfl (by decide) (by omega) (by omega) ?_
        refine x_lstore_n C d_Na_raiseLow_60 (by decide) ?_
        refine x_iinc C d_Na_raiseLow_61 (by decide) rfl ?_
        refine x_goto C (tgt := 21) d_Na_raiseLow_64 (by decide) ?_
        rw [if_pos (by omega)] at hG
        rw [a_up_up]
        refine XW.loc (lv' := [(0, .ref (s0.heap.size + 23)), (3, .long (zL ((cy + g k) / 256))), (5, .int (zI ((k : Nat) - 1 : Int)))]) ⟨rfl, rfl, by rw [show ((k : Nat) - 1 : Int) = (k : Int) + -1 by omega]; rfl, trivial⟩ ?_
        exact ih _ _ (by omega) (by omega) (by omega) (zup_all (Q := fun z => 0 ≤ z ∧ z < 256) hg (by omega)) hG
set_option maxRecDepth 100000 in
set_option maxHeartbeats 4000000 in
theorem c_Na_raiseLow {a0 : Array Value} {s0 : State} {D : va_G} {cI cL : ClassId} (l : Launch) (E : a_E a0 s0 D cI cL) {h : AH} {K : Nat} {len rg : Int} (h23 : h 23 = some (oNa s0.heap.size len rg)) {g : Int → Int} (h26 : h 26 = some (iA cI 200 g)) (hg : ∀ j, 0 ≤ g j ∧ g j < 256) {bd : Int} (b1 : 0 ≤ bd) (b2 : bd < 8589934592) (l1 : 4 ≤ len) (l2 : len ≤ 200) : XM l s0 D y_Na_raiseLow prog_7_method_7_code 6 none 0 0 0 [.ref (s0.heap.size + 23), .long (zL bd)] (h) (K) (PR none (a_up h 26 (iA cI 200 (raiseZ len.toNat bd g))) K) := by
  refine XM.of (cI := cI) (cL := cL) (own := "NarrowingPacker$Narrower") (by decide) rfl E.2 (nle rfl) ?_
  intro p e s m below meth c C hn
  refine x_aload_n C d_Na_raiseLow_0 rfl ?_
  refine x_get C (G_Na E.1) 2 (u_192 E.1) d_Na_raiseLow_1 (by decide) h23 rfl ?_
  refine x_sipush C d_Na_raiseLow_4 (by decide) ?_
  refine x_icmp_le C (tgt := 11) d_Na_raiseLow_7 (by decide) (by omega) (by omega) (by omega) (by omega) (fun c7 => ?_) (fun c7 => ?_)
  · refine x_lload_n C d_Na_raiseLow_11 rfl ?_
    refine x_lstore_n C d_Na_raiseLow_12 (by decide) ?_
    refine x_aload_n C d_Na_raiseLow_13 rfl ?_
    refine x_get C (G_Na E.1) 2 (u_192 E.1) d_Na_raiseLow_14 (by decide) h23 rfl ?_
    refine x_iconst C d_Na_raiseLow_17 ?_
    refine x_isub C d_Na_raiseLow_18 ?_
    refine x_istore C d_Na_raiseLow_19 (by decide) ?_
    refine XW.heq (h' := a_up h 26 (iA cI 200 g)) (a_up_id h26).symm ?_
    have el : (len.toNat : Int) = len := by omega
    refine XW.loc (lv' := [(0, .ref (s0.heap.size + 23)), (3, .long (zL bd)), (5, .int (zI ((len.toNat : Nat) - 1 : Int)))]) ⟨rfl, rfl, by rw [el]; rfl, trivial⟩ ?_
    exact lp_Na_raiseLow l E C h23 _ _ _ (by omega) b1 b2 hg rfl
  · exfalso; omega

set_option maxRecDepth 100000 in
set_option maxHeartbeats 4000000 in
theorem c_Na_raiseLow0 {a0 : Array Value} {s0 : State} {D : va_G} {cI cL : ClassId} (l : Launch) (E : a_E a0 s0 D cI cL) {h : AH} {K : Nat} {len rg : Int} (h23 : h 23 = some (oNa s0.heap.size len rg)) {bd : Int} (l2 : 200 < len) (l3 : len < 100000) : XM l s0 D y_Na_raiseLow prog_7_method_7_code 6 none 0 0 0 [.ref (s0.heap.size + 23), .long (zL bd)] (h) (K) (PR none h K) := by
  refine XM.of (cI := cI) (cL := cL) (own := "NarrowingPacker$Narrower") (by decide) rfl E.2 (nle rfl) ?_
  intro p e s m below meth c C hn
  refine x_aload_n C d_Na_raiseLow_0 rfl ?_
  refine x_get C (G_Na E.1) 2 (u_192 E.1) d_Na_raiseLow_1 (by decide) h23 rfl ?_
  refine x_sipush C d_Na_raiseLow_4 (by decide) ?_
  refine x_icmp_le C (tgt := 11) d_Na_raiseLow_7 (by decide) (by omega) (by omega) (by omega) (by omega) (fun c7 => ?_) (fun c7 => ?_)
  · exfalso; omega
  · exact x_vret C d_Na_raiseLow_10 (nle rfl) (nle rfl) ⟨rfl, rfl, rfl⟩

