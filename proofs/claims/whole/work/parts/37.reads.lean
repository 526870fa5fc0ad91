/-! reading trees, rows, lengths, packets: the methods -/
set_option maxRecDepth 100000 in
set_option maxHeartbeats 4000000 in
theorem lp_Fo_readTree {a0 : Array Value} {s0 : State} {D : va_G} {cI cL : ClassId} (l : Launch) (E : a_E a0 s0 D cI cL) (F : a_F l s0) {p : Program} {e : Env} {R : Room} {s : State} {m : MethodId} {args : Array Value} {below : List Frame} {meth : Method} {c : Code} (C : XC s0 D cI cL p s m meth c "NarrowingPacker$Follower" prog_5_method_4_code 5 (some .int) []) (hR : R = a_rm 8 1 6) {h : AH} {K : Nat} {pk : Int → Int} {sz : Int} (h31 : h 31 = some (oBy s0.heap.size 32 sz)) (h32 : h 32 = some (iA cI 200 pk)) (hp : ∀ j, 0 ≤ pk j ∧ pk j < 256) (z1 : 0 ≤ sz) (z2 : sz ≤ 200) (h29 : h 29 = some (oCh s0.heap.size 30)) {pl B : Int} {N : Nat} (p1 : 0 ≤ pl) (hB : B ≤ 2 * (3820 - pl)) (hN : N ≤ 8) {X : Int × Rs} : ∀ (r k : Nat) (mm : Int) (d : De), r + k = N → 0 ≤ mm → (mm + 1) * 2 ^ r ≤ B → dOk sz d → rTree pk sz r pl mm (.inr d) = X → XW s0 D p l e R s m args below meth c (XQT s0 D (PRs (X.1 - 2 ^ N, X.2) (sF s0.heap.size cI h) K) below s) 5 [(0, .ref (s0.heap.size + 28)), (1, .int (zI pl)), (2, .int (zI (N : Int))), (3, .int (zI mm)), (4, .int (zI ((k : Nat) : Int)))] [] (sF s0.heap.size cI h d) K 0 0 := by
  subst hR
  intro r
  induction r with
  | zero =>
    intro k mm d hk m0 mB ok hX
    subst hX
    refine x_iload C d_Fo_readTree_5 rfl ?_
    refine x_iload_n C d_Fo_readTree_7 rfl ?_
    refine x_icmp_ge C (tgt := 29) d_Fo_readTree_8 (by decide) (by omega) (by omega) (by omega) (by omega) (fun c8 => ?_) (fun c8 => ?_)
    · refine x_iload_n C d_Fo_readTree_29 rfl ?_
      refine x_iconst C d_Fo_readTree_30 ?_
      refine x_iload_n C d_Fo_readTree_31 rfl ?_
      refine x_ishl C (q := 2 ^ N) N d_Fo_readTree_32 rfl rfl (by omega) ?_
      refine x_isub C d_Fo_readTree_33 ?_
      exact x_iretT C d_Fo_readTree_34 (Or.inl ⟨d, rfl, by show _ = Sum.inl (some (Value.int (zI (mm - 2 ^ N)))); rw [Int.one_mul], rfl, rfl⟩)
    · exfalso; omega
  | succ r ih =>
    intro k mm d hk m0 mB ok hX
    have ha := pow_a m0 mB
    have hb := rBit_01 pk sz (pl + mm) (.inr d)
    have hX : rTree pk sz r pl (2 * mm + (rBit pk sz (pl + mm) (.inr d)).1) (rBit pk sz (pl + mm) (.inr d)).2 = X := hX
    refine x_iload C d_Fo_readTree_5 rfl ?_
    refine x_iload_n C d_Fo_readTree_7 rfl ?_
    refine x_icmp_ge C (tgt := 29) d_Fo_readTree_8 (by decide) (by omega) (by omega) (by omega) (by omega) (fun c8 => ?_) (fun c8 => ?_)
    · exfalso; omega
    · refine x_iconst C d_Fo_readTree_11 ?_
      refine x_iload_n C d_Fo_readTree_12 rfl ?_
      refine x_imul C d_Fo_readTree_13 ?_
      refine x_aload_n C d_Fo_readTree_14 rfl ?_
      refine x_iload_n C d_Fo_readTree_15 rfl ?_
      refine x_iload_n C d_Fo_readTree_16 rfl ?_
      refine x_iadd C d_Fo_readTree_17 ?_
      refine x_callVTT C (G_Fo E.1) (u_726 E.1) (u_700 E.1) (u_701 E.1) (u_702 E.1) (u_12 E.1) d_Fo_readTree_18 (c_Fo_readBit l E F h31 h32 hp z1 z2 h29 ok (pl := pl + mm) (by omega) (by omega)) nh_Fo_readBit ln_Fo_readBit rfl (by rfl) (nle rfl) (nle rfl) (nle rfl) (nle rfl) (nle rfl) (fun v18 h18 K18 r18 => ?_) (fun Cn18 h18 K18 r18 => ?_)
      · obtain ⟨d18, e18, rfl, rfl, rfl⟩ := r18.ret
        have ok18 : dOk sz d18 := ok_of (xOk_bit hp (x := .inr d) ok _) e18
        refine x_iadd C d_Fo_readTree_21 ?_
        refine x_istore_n C d_Fo_readTree_22 (by decide) ?_
        refine x_iinc C d_Fo_readTree_23 (by decide) rfl ?_
        refine x_goto C (tgt := 5) d_Fo_readTree_26 (by decide) ?_
        refine XW.loc (lv' := [(0, .ref (s0.heap.size + 28)), (1, .int (zI pl)), (2, .int (zI (N : Int))), (3, .int (zI (2 * mm + (rBit pk sz (pl + mm) (.inr d)).1))), (4, .int (zI ((k + 1 : Nat) : Int)))]) ⟨rfl, rfl, rfl, rfl, by rw [show ((k + 1 : Nat) : Int) = (k : Int) + 1 by omega]; rfl, trivial⟩ ?_
        exact ih _ _ _ (by omega) (by omega) (pow_b hb mB) ok18 (by rw [← e18]; exact hX)
      · obtain ⟨b18, e18, rfl, rfl, d18, rfl⟩ := r18.thr
        exact Or.inr ⟨b18, by rw [← hX]; exact rTree_bad2 e18 _ _ _, rfl, rfl, d18, rfl⟩
set_option maxRecDepth 100000 in
set_option maxHeartbeats 4000000 in
theorem c_Fo_readTree {a0 : Array Value} {s0 : State} {D : va_G} {cI cL : ClassId} (l : Launch) (E : a_E a0 s0 D cI cL) (F : a_F l s0) {h : AH} {K : Nat} {pk : Int → Int} {sz : Int} (h31 : h 31 = some (oBy s0.heap.size 32 sz)) (h32 : h 32 = some (iA cI 200 pk)) (hp : ∀ j, 0 ≤ pk j ∧ pk j < 256) (z1 : 0 ≤ sz) (z2 : sz ≤ 200) (h29 : h 29 = some (oCh s0.heap.size 30)) {d : De} (ok : dOk sz d) {pl : Int} (n : Nat) (n8 : n ≤ 8) (p1 : 0 ≤ pl) (hB : 2 * 2 ^ n ≤ 2 * (3820 - pl)) : XMT l s0 D y_Fo_readTree prog_5_method_4_code 5 (some .int) 8 [.ref (s0.heap.size + 28), .int (zI pl), .int (zI (n : Int))] (sF s0.heap.size cI h d) (K) (PRs ((rTree pk sz n pl 1 (.inr d)).1 - 2 ^ n, (rTree pk sz n pl 1 (.inr d)).2) (sF s0.heap.size cI h) K) := by
  refine XMT.of (cI := cI) (cL := cL) (own := "NarrowingPacker$Follower") (by decide) rfl E.2 (nle rfl) ?_
  intro p e s m below meth c C hn hlow
  refine x_iconst C d_Fo_readTree_0 ?_
  refine x_istore_n C d_Fo_readTree_1 (by decide) ?_
  refine x_iconst C d_Fo_readTree_2 ?_
  refine x_istore C d_Fo_readTree_3 (by decide) ?_
  refine XW.loc (lv' := [(0, .ref (s0.heap.size + 28)), (1, .int (zI pl)), (2, .int (zI (n : Int))), (3, .int (zI 1)), (4, .int (zI ((0 : Nat) : Int)))]) ⟨rfl, rfl, rfl, rfl, rfl, trivial⟩ ?_
  exact lp_Fo_readTree l E F C rfl h31 h32 hp z1 z2 h29 p1 hB n8 n 0 1 d rfl (by omega) (by omega) ok rfl

set_option maxRecDepth 100000 in
set_option maxHeartbeats 4000000 in
theorem lp_Fo_readRow {a0 : Array Value} {s0 : State} {D : va_G} {cI cL : ClassId} (l : Launch) (E : a_E a0 s0 D cI cL) (F : a_F l s0) {p : Program} {e : Env} {R : Room} {s : State} {m : MethodId} {args : Array Value} {below : List Frame} {meth : Method} {c : Code} (C : XC s0 D cI cL p s m meth c "NarrowingPacker$Follower" prog_5_method_5_code 7 (some .int) []) (hR : R = a_rm 8 1 6) {h : AH} {K : Nat} {pk : Int → Int} {sz : Int} (h31 : h 31 = some (oBy s0.heap.size 32 sz)) (h32 : h 32 = some (iA cI 200 pk)) (hp : ∀ j, 0 ≤ pk j ∧ pk j < 256) (z1 : 0 ≤ sz) (z2 : sz ≤ 200) (h29 : h 29 = some (oCh s0.heap.size 30)) {pl B : Int} {N : Nat} (p1 : 0 ≤ pl) (hB : B ≤ 2 * (3820 - pl)) (hN : N ≤ 8) {X : Int × Rs} : ∀ (r k : Nat) (mm v : Int) (d : De), r + k = N → 0 ≤ mm → (mm + 1) * 2 ^ r ≤ B → dOk sz d → rRow pk sz r k pl mm v (.inr d) = X → XW s0 D p l e R s m args below meth c (XQT s0 D (PRs X (sF s0.heap.size cI h) K) below s) 8 [(0, .ref (s0.heap.size + 28)), (1, .int (zI pl)), (2, .int (zI (N : Int))), (3, .int (zI mm)), (4, .int (zI v)), (5, .int (zI ((k : Nat) : Int)))] [] (sF s0.heap.size cI h d) K 0 0 := by
  subst hR
  intro r
  induction r with
  | zero =>
    intro k mm v d hk m0 mB ok hX
    subst hX
    refine x_iload C d_Fo_readRow_8 rfl ?_
    refine x_iload_n C d_Fo_readRow_10 rfl ?_
    refine x_icmp_ge C (tgt := 46) d_Fo_readRow_11 (by decide) (by omega) (by omega) (by omega) (by omega) (fun c11 => ?_) (fun c11 => ?_)
    · refine x_iload C d_Fo_readRow_46 rfl ?_
      exact x_iretT C d_Fo_readRow_48 (Or.inl ⟨d, rfl, rfl, rfl, rfl⟩)
    · exfalso; omega
  | succ r ih =>
    intro k mm v d hk m0 mB ok hX
    have ha := pow_a m0 mB
    have hb := rBit_01 pk sz (pl + mm) (.inr d)
    have hX : rRow pk sz r (k + 1) pl (2 * mm + (rBit pk sz (pl + mm) (.inr d)).1) (v + (rBit pk sz (pl + mm) (.inr d)).1 * 2 ^ k) (rBit pk sz (pl + mm) (.inr d)).2 = X := hX
    refine x_iload C d_Fo_readRow_8 rfl ?_
    refine x_iload_n C d_Fo_readRow_10 rfl ?_
    refine x_icmp_ge C (tgt := 46) d_Fo_readRow_11 (by decide) (by omega) (by omega) (by omega) (by omega) (fun c11 => ?_) (fun c11 => ?_)
    · exfalso; omega
    · refine x_aload_n C d_Fo_readRow_14 rfl ?_
      refine x_iload_n C d_Fo_readRow_15 rfl ?_
      refine x_iload_n C d_Fo_readRow_16 rfl ?_
      refine x_iadd C d_Fo_readRow_17 ?_
      refine x_callVTT C (G_Fo E.1) (u_726 E.1) (u_700 E.1) (u_701 E.1) (u_702 E.1) (u_12 E.1) d_Fo_readRow_18 (c_Fo_readBit l E F h31 h32 hp z1 z2 h29 ok (pl := pl + mm) (by omega) (by omega)) nh_Fo_readBit ln_Fo_readBit rfl (by rfl) (nle rfl) (nle rfl) (nle rfl) (nle rfl) (nle rfl) (fun v18 h18 K18 r18 => ?_) (fun Cn18 h18 K18 r18 => ?_)
      · obtain ⟨d18, e18, rfl, rfl, rfl⟩ := r18.ret
        have ok18 : dOk sz d18 := ok_of (xOk_bit hp (x := .inr d) ok _) e18
        refine x_istore C d_Fo_readRow_21 (by decide) ?_
        refine x_iconst C d_Fo_readRow_23 ?_
        refine x_iload_n C d_Fo_readRow_24 rfl ?_
        refine x_imul C d_Fo_readRow_25 ?_
        refine x_iload C d_Fo_readRow_26 rfl ?_
        refine x_iadd C d_Fo_readRow_28 ?_
        refine x_istore_n C d_Fo_readRow_29 (by decide) ?_
        refine x_iload C d_Fo_readRow_30 rfl ?_
        refine x_iload C d_Fo_readRow_32 rfl ?_
        refine x_iload C d_Fo_readRow_34 rfl ?_
        refine x_ishl C (q := 2 ^ k) k d_Fo_readRow_36 rfl rfl (by omega) ?_
        refine x_iadd C d_Fo_readRow_37 ?_
        refine x_istore C d_Fo_readRow_38 (by decide) ?_
        refine x_iinc C d_Fo_readRow_40 (by decide) rfl ?_
        refine x_goto C (tgt := 8) d_Fo_readRow_43 (by decide) ?_
        refine XW.loc (lv' := [(0, .ref (s0.heap.size + 28)), (1, .int (zI pl)), (2, .int (zI (N : Int))), (3, .int (zI (2 * mm + (rBit pk sz (pl + mm) (.inr d)).1))), (4, .int (zI (v + (rBit pk sz (pl + mm) (.inr d)).1 * 2 ^ k))), (5, .int (zI ((k + 1 : Nat) : Int)))]) ⟨rfl, rfl, rfl, rfl, rfl, by rw [show ((k + 1 : Nat) : Int) = (k : Int) + 1 by omega]; rfl, trivial⟩ ?_
        exact ih _ _ _ _ (by omega) (by omega) (pow_b hb mB) ok18 (by rw [← e18]; exact hX)
      · obtain ⟨b18, e18, rfl, rfl, d18, rfl⟩ := r18.thr
        exact Or.inr ⟨b18, by rw [← hX]; exact rRow_bad2 e18 _ _ _ _ _, rfl, rfl, d18, rfl⟩
set_option maxRecDepth 100000 in
set_option maxHeartbeats 4000000 in
theorem c_Fo_readRow {a0 : Array Value} {s0 : State} {D : va_G} {cI cL : ClassId} (l : Launch) (E : a_E a0 s0 D cI cL) (F : a_F l s0) {h : AH} {K : Nat} {pk : Int → Int} {sz : Int} (h31 : h 31 = some (oBy s0.heap.size 32 sz)) (h32 : h 32 = some (iA cI 200 pk)) (hp : ∀ j, 0 ≤ pk j ∧ pk j < 256) (z1 : 0 ≤ sz) (z2 : sz ≤ 200) (h29 : h 29 = some (oCh s0.heap.size 30)) {d : De} (ok : dOk sz d) {pl : Int} (n : Nat) (n8 : n ≤ 8) (p1 : 0 ≤ pl) (hB : 2 * 2 ^ n ≤ 2 * (3820 - pl)) : XMT l s0 D y_Fo_readRow prog_5_method_5_code 7 (some .int) 8 [.ref (s0.heap.size + 28), .int (zI pl), .int (zI (n : Int))] (sF s0.heap.size cI h d) (K) (PRs (rRow pk sz n 0 pl 1 0 (.inr d)) (sF s0.heap.size cI h) K) := by
  refine XMT.of (cI := cI) (cL := cL) (own := "NarrowingPacker$Follower") (by decide) rfl E.2 (nle rfl) ?_
  intro p e s m below meth c C hn hlow
  refine x_iconst C d_Fo_readRow_0 ?_
  refine x_istore_n C d_Fo_readRow_1 (by decide) ?_
  refine x_iconst C d_Fo_readRow_2 ?_
  refine x_istore C d_Fo_readRow_3 (by decide) ?_
  refine x_iconst C d_Fo_readRow_5 ?_
  refine x_istore C d_Fo_readRow_6 (by decide) ?_
  refine XW.loc (lv' := [(0, .ref (s0.heap.size + 28)), (1, .int (zI pl)), (2, .int (zI (n : Int))), (3, .int (zI 1)), (4, .int (zI 0)), (5, .int (zI ((0 : Nat) : Int)))]) ⟨rfl, rfl, rfl, rfl, rfl, rfl, trivial⟩ ?_
  exact lp_Fo_readRow l E F C rfl h31 h32 hp z1 z2 h29 p1 hB n8 n 0 1 0 d rfl (by omega) (by omega) ok rfl

abbrev oRe (b : Nat) : va_E := .inr (8, [.ref (b + 28)])
set_option maxRecDepth 100000 in
set_option maxHeartbeats 4000000 in
theorem c_Re_readLength {a0 : Array Value} {s0 : State} {D : va_G} {cI cL : ClassId} (l : Launch) (E : a_E a0 s0 D cI cL) (F : a_F l s0) {h : AH} {K : Nat} {pk : Int → Int} {sz : Int} (h31 : h 31 = some (oBy s0.heap.size 32 sz)) (h32 : h 32 = some (iA cI 200 pk)) (hp : ∀ j, 0 ≤ pk j ∧ pk j < 256) (z1 : 0 ≤ sz) (z2 : sz ≤ 200) (h29 : h 29 = some (oCh s0.heap.size 30)) (h27 : h 27 = some (oRe s0.heap.size)) {d : De} (ok : dOk sz d) {pl : Int} (p1 : 0 ≤ pl) (p2 : pl ≤ 300) : XMT l s0 D y_Re_readLength prog_10_method_7_code 2 (some .int) 9 [.ref (s0.heap.size + 27), .int (zI pl)] (sF s0.heap.size cI h d) (K) (PRs (rLen pk sz pl (.inr d)) (sF s0.heap.size cI h) K) := by
  refine XMT.of (cI := cI) (cL := cL) (own := "NarrowingPacker$PacketReader") (by decide) rfl E.2 (nle rfl) ?_
  intro p e s m below meth c C hn hlow
  refine x_aload_n C d_Re_readLength_0 rfl ?_
  refine x_get C (G_Re E.1) 0 (u_241 E.1) d_Re_readLength_1 (by decide) (by exact h27) rfl ?_
  refine x_iload_n C d_Re_readLength_4 rfl ?_
  refine x_callVTT C (G_Fo E.1) (u_699 E.1) (u_700 E.1) (u_701 E.1) (u_702 E.1) (u_12 E.1) d_Re_readLength_5 (c_Fo_readBit l E F h31 h32 hp z1 z2 h29 ok (pl := pl) (by omega) (by omega)) nh_Fo_readBit ln_Fo_readBit rfl (by rfl) (nle rfl) (nle rfl) (nle rfl) (nle rfl) (nle rfl) (fun v5 h5 K5 r5 => ?_) (fun Cn5 h5 K5 r5 => ?_)
  have hb5 := rBit_01 pk sz pl (.inr d)
  · obtain ⟨d5, e5, rfl, rfl, rfl⟩ := r5.ret
    have ok5 : dOk sz d5 := ok_of (xOk_bit hp (x := .inr d) ok _) e5
    refine x_if_ne C (tgt := 23) d_Re_readLength_8 (by decide) (by omega) (by omega) (fun c8 => ?_) (fun c8 => ?_)
    · refine x_aload_n C d_Re_readLength_23 rfl ?_
      refine x_get C (G_Re E.1) 0 (u_241 E.1) d_Re_readLength_24 (by decide) (by exact h27) rfl ?_
      refine x_iload_n C d_Re_readLength_27 rfl ?_
      refine x_iconst C d_Re_readLength_28 ?_
      refine x_iadd C d_Re_readLength_29 ?_
      refine x_callVTT C (G_Fo E.1) (u_699 E.1) (u_700 E.1) (u_701 E.1) (u_702 E.1) (u_12 E.1) d_Re_readLength_30 (c_Fo_readBit l E F h31 h32 hp z1 z2 h29 ok5 (pl := pl + 1) (by omega) (by omega)) nh_Fo_readBit ln_Fo_readBit rfl (by rfl) (nle rfl) (nle rfl) (nle rfl) (nle rfl) (nle rfl) (fun v30 h30 K30 r30 => ?_) (fun Cn30 h30 K30 r30 => ?_)
      have hb30 := rBit_01 pk sz (pl + 1) (.inr d5)
      · obtain ⟨d30, e30, rfl, rfl, rfl⟩ := r30.ret
        have ok30 : dOk sz d30 := ok_of (xOk_bit hp (x := .inr d5) ok5 _) e30
        refine x_if_ne C (tgt := 52) d_Re_readLength_33 (by decide) (by omega) (by omega) (fun c33 => ?_) (fun c33 => ?_)
        · refine x_bipush C d_Re_readLength_52 (by decide) ?_
          refine x_aload_n C d_Re_readLength_54 rfl ?_
          refine x_get C (G_Re E.1) 0 (u_241 E.1) d_Re_readLength_55 (by decide) (by exact h27) rfl ?_
          refine x_iload_n C d_Re_readLength_58 rfl ?_
          refine x_bipush C d_Re_readLength_59 (by decide) ?_
          refine x_iadd C d_Re_readLength_61 ?_
          refine x_bipush C d_Re_readLength_62 (by decide) ?_
          refine x_callVTT C (G_Fo E.1) (u_722 E.1) (u_723 E.1) (u_724 E.1) (u_725 E.1) (u_12 E.1) d_Re_readLength_64 (c_Fo_readTree l E F h31 h32 hp z1 z2 h29 ok30 (pl := pl + 18) 7 (by decide) (by omega) (by omega)) nh_Fo_readTree ln_Fo_readTree rfl (by rfl) (nle rfl) (nle rfl) (nle rfl) (nle rfl) (nle rfl) (fun v64 h64 K64 r64 => ?_) (fun Cn64 h64 K64 r64 => ?_)
          · obtain ⟨d64, e64, rfl, rfl, rfl⟩ := r64.ret
            have ok64 : dOk sz d64 := ok_of (xOk_tree hp 7 (pl + 18) 1 (x := .inr d30) ok30) e64
            refine x_iadd C d_Re_readLength_67 ?_
            exact x_iretT C d_Re_readLength_68 (Or.inl ⟨d64, by unfold rLen; rw [if_neg c8, e5, if_neg c33, e30]; exact e64, by unfold rLen; rw [if_neg c8, e5, if_neg c33, e30]; rfl, rfl, rfl⟩)
          · obtain ⟨b64, e64, rfl, rfl, d64, rfl⟩ := r64.thr
            exact Or.inr ⟨b64, by unfold rLen; rw [if_neg c8, e5, if_neg c33, e30]; exact e64, rfl, rfl, d64, rfl⟩
        · refine x_bipush C d_Re_readLength_36 (by decide) ?_
          refine x_aload_n C d_Re_readLength_38 rfl ?_
          refine x_get C (G_Re E.1) 0 (u_241 E.1) d_Re_readLength_39 (by decide) (by exact h27) rfl ?_
          refine x_iload_n C d_Re_readLength_42 rfl ?_
          refine x_bipush C d_Re_readLength_43 (by decide) ?_
          refine x_iadd C d_Re_readLength_45 ?_
          refine x_iconst C d_Re_readLength_46 ?_
          refine x_callVTT C (G_Fo E.1) (u_722 E.1) (u_723 E.1) (u_724 E.1) (u_725 E.1) (u_12 E.1) d_Re_readLength_47 (c_Fo_readTree l E F h31 h32 hp z1 z2 h29 ok30 (pl := pl + 10) 3 (by decide) (by omega) (by omega)) nh_Fo_readTree ln_Fo_readTree rfl (by rfl) (nle rfl) (nle rfl) (nle rfl) (nle rfl) (nle rfl) (fun v47 h47 K47 r47 => ?_) (fun Cn47 h47 K47 r47 => ?_)
          · obtain ⟨d47, e47, rfl, rfl, rfl⟩ := r47.ret
            have ok47 : dOk sz d47 := ok_of (xOk_tree hp 3 (pl + 10) 1 (x := .inr d30) ok30) e47
            refine x_iadd C d_Re_readLength_50 ?_
            exact x_iretT C d_Re_readLength_51 (Or.inl ⟨d47, by unfold rLen; rw [if_neg c8, e5, if_pos c33, e30]; exact e47, by unfold rLen; rw [if_neg c8, e5, if_pos c33, e30]; rfl, rfl, rfl⟩)
          · obtain ⟨b47, e47, rfl, rfl, d47, rfl⟩ := r47.thr
            exact Or.inr ⟨b47, by unfold rLen; rw [if_neg c8, e5, if_pos c33, e30]; exact e47, rfl, rfl, d47, rfl⟩
      · obtain ⟨b30, e30, rfl, rfl, d30, rfl⟩ := r30.thr
        exact Or.inr ⟨b30, by unfold rLen; rw [if_neg c8, e5]; split <;> exact rTree_bad2 e30 _ _ _, rfl, rfl, d30, rfl⟩
    · refine x_aload_n C d_Re_readLength_11 rfl ?_
      refine x_get C (G_Re E.1) 0 (u_241 E.1) d_Re_readLength_12 (by decide) (by exact h27) rfl ?_
      refine x_iload_n C d_Re_readLength_15 rfl ?_
      refine x_iconst C d_Re_readLength_16 ?_
      refine x_iadd C d_Re_readLength_17 ?_
      refine x_iconst C d_Re_readLength_18 ?_
      refine x_callVTT C (G_Fo E.1) (u_722 E.1) (u_723 E.1) (u_724 E.1) (u_725 E.1) (u_12 E.1) d_Re_readLength_19 (c_Fo_readTree l E F h31 h32 hp z1 z2 h29 ok5 (pl := pl + 2) 3 (by decide) (by omega) (by omega)) nh_Fo_readTree ln_Fo_readTree rfl (by rfl) (nle rfl) (nle rfl) (nle rfl) (nle rfl) (nle rfl) (fun v19 h19 K19 r19 => ?_) (fun Cn19 h19 K19 r19 => ?_)
      · obtain ⟨d19, e19, rfl, rfl, rfl⟩ := r19.ret
        have ok19 : dOk sz d19 := ok_of (xOk_tree hp 3 (pl + 2) 1 (x := .inr d5) ok5) e19
        exact x_iretT C d_Re_readLength_22 (Or.inl ⟨d19, by unfold rLen; rw [if_pos c8, e5]; exact e19, by unfold rLen; rw [if_pos c8, e5]; rfl, rfl, rfl⟩)
      · obtain ⟨b19, e19, rfl, rfl, d19, rfl⟩ := r19.thr
        exact Or.inr ⟨b19, by unfold rLen; rw [if_pos c8, e5]; exact e19, rfl, rfl, d19, rfl⟩
  · obtain ⟨b5, e5, rfl, rfl, d5, rfl⟩ := r5.thr
    exact Or.inr ⟨b5, rLen_in e5, rfl, rfl, d5, rfl⟩

set_option maxRecDepth 100000 in
set_option maxHeartbeats 4000000 in
theorem lp_Re_lit {a0 : Array Value} {s0 : State} {D : va_G} {cI cL : ClassId} (l : Launch) (E : a_E a0 s0 D cI cL) (F : a_F l s0) {p : Program} {e : Env} {R : Room} {s : State} {m : MethodId} {args : Array Value} {below : List Frame} {meth : Method} {c : Code} (C : XC s0 D cI cL p s m meth c "NarrowingPacker$PacketReader" prog_10_method_3_code 10 (some .int) []) (hR : R = a_rm 9 1 6) {h : AH} {K : Nat} {pk : Int → Int} {sz : Int} (h31 : h 31 = some (oBy s0.heap.size 32 sz)) (h32 : h 32 = some (iA cI 200 pk)) (hp : ∀ j, 0 ≤ pk j ∧ pk j < 256) (z1 : 0 ≤ sz) (z2 : sz ≤ 200) (h29 : h 29 = some (oCh s0.heap.size 30)) (h27 : h 27 = some (oRe s0.heap.size)) {pl ly : Int} (p1 : 0 ≤ pl) (p2 : pl ≤ 3052) (y1 : 0 ≤ ly) (y2 : ly < 256) {X : Int × Rs} : ∀ (k : Nat) (mm as : Int) (d : De), k ≤ 8 → 0 ≤ mm → (mm + 1) * 2 ^ k ≤ 512 → (as = 0 ∨ as = 1) → dOk sz d → rLit pk sz k pl ly mm as (.inr d) = X → XW s0 D p l e R s m args below meth c (XQT s0 D (PRs (X.1 - 256, X.2) (sF s0.heap.size cI h) K) below s) 29 [(0, .ref (s0.heap.size + 27)), (2, .int (zI pl)), (3, .int (zI ly)), (4, .int (zI as)), (5, .int (zI mm)), (6, .int (zI ((k : Nat) - 1 : Int)))] [] (sF s0.heap.size cI h d) K 0 0 := by
  subst hR
  intro k
  induction k with
  | zero =>
    intro mm as d hk m0 mB ha ok hX
    subst hX
    refine x_iload C d_Re_readLiteral_29 rfl ?_
    refine x_if_lt C (tgt := 111) d_Re_readLiteral_31 (by decide) (by omega) (by omega) (fun c31 => ?_) (fun c31 => ?_)
    · refine x_iload C d_Re_readLiteral_111 rfl ?_
      refine x_sipush C d_Re_readLiteral_113 (by decide) ?_
      refine x_isub C d_Re_readLiteral_116 ?_
      exact x_iretT C d_Re_readLiteral_117 (Or.inl ⟨d, rfl, rfl, rfl, rfl⟩)
    · exfalso; omega
  | succ k ih =>
    intro mm as d hk m0 mB ha ok hX
    rw [show (((k + 1 : Nat) : Int) - 1) = (k : Int) by omega]
    have hpa := pow_a m0 mB
    have hy := bitZ_01 ly k
    rcases ha with rfl | rfl
    · have hb := rBit_01 pk sz (pl + 0 * 256 + mm) (.inr d)
      have hX : rLit pk sz k pl ly (2 * mm + (rBit pk sz (pl + 0 * 256 + mm) (.inr d)).1) (sameZ 0 (rBit pk sz (pl + 0 * 256 + mm) (.inr d)).1 (bitZ ly k)) (rBit pk sz (pl + 0 * 256 + mm) (.inr d)).2 = X := hX
      refine x_iload C d_Re_readLiteral_29 rfl ?_
      refine x_if_lt C (tgt := 111) d_Re_readLiteral_31 (by decide) (by omega) (by omega) (fun c31 => ?_) (fun c31 => ?_)
      · exfalso; omega
      · refine x_iload_n C d_Re_readLiteral_34 rfl ?_
        refine x_iload C d_Re_readLiteral_35 rfl ?_
        refine x_ishr C (q := 2 ^ k) k d_Re_readLiteral_37 rfl rfl (by omega) (by omega) (by omega) ?_
        refine x_iconst C d_Re_readLiteral_38 ?_
        refine x_iand C d_Re_readLiteral_39 (zI_and1 _) ?_
        show XW s0 D p l e (a_rm 9 1 6) s m args below meth c _ 40 _ (.int (zI (bitZ ly k)) :: []) _ _ _ _
        refine x_istore C d_Re_readLiteral_40 (by decide) ?_
        refine x_iload C d_Re_readLiteral_42 rfl ?_
        refine x_if_eq C (tgt := 54) d_Re_readLiteral_44 (by decide) (by omega) (by omega) (fun c44 => ?_) (fun c44 => ?_)
        · refine x_iconst C d_Re_readLiteral_54 ?_
          refine x_istore C d_Re_readLiteral_55 (by decide) ?_
          refine x_aload_n C d_Re_readLiteral_57 rfl ?_
          refine x_get C (G_Re E.1) 0 (u_241 E.1) d_Re_readLiteral_58 (by decide) (by exact h27) rfl ?_
          refine x_iload_n C d_Re_readLiteral_61 rfl ?_
          refine x_iload C d_Re_readLiteral_62 rfl ?_
          refine x_sipush C d_Re_readLiteral_64 (by decide) ?_
          refine x_imul C d_Re_readLiteral_67 ?_
          refine x_iadd C d_Re_readLiteral_68 ?_
          refine x_iload C d_Re_readLiteral_69 rfl ?_
          refine x_iadd C d_Re_readLiteral_71 ?_
          refine x_callVTT C (G_Fo E.1) (u_699 E.1) (u_700 E.1) (u_701 E.1) (u_702 E.1) (u_12 E.1) d_Re_readLiteral_72 (c_Fo_readBit l E F h31 h32 hp z1 z2 h29 ok (pl := pl + 0 * 256 + mm) (by omega) (by omega)) nh_Fo_readBit ln_Fo_readBit rfl (by rfl) (nle rfl) (nle rfl) (nle rfl) (nle rfl) (nle rfl) (fun v72 h72 K72 r72 => ?_) (fun Cn72 h72 K72 r72 => ?_)
          · obtain ⟨d72, e72, rfl, rfl, rfl⟩ := r72.ret
            have ok72 : dOk sz d72 := ok_of (xOk_bit hp (x := .inr d) ok _) e72
            refine x_istore C d_Re_readLiteral_75 (by decide) ?_
            refine x_iload C d_Re_readLiteral_77 rfl ?_
            refine x_if_eq C (tgt := 93) d_Re_readLiteral_79 (by decide) (by omega) (by omega) (fun c79 => ?_) (fun c79 => ?_)
            · refine x_iconst C d_Re_readLiteral_93 ?_
              refine x_istore C d_Re_readLiteral_94 (by decide) ?_
              refine x_iconst C d_Re_readLiteral_96 ?_
              refine x_iload C d_Re_readLiteral_97 rfl ?_
              refine x_imul C d_Re_readLiteral_99 ?_
              refine x_iload C d_Re_readLiteral_100 rfl ?_
              refine x_iadd C d_Re_readLiteral_102 ?_
              refine x_istore C d_Re_readLiteral_103 (by decide) ?_
              refine x_iinc C d_Re_readLiteral_105 (by decide) rfl ?_
              refine x_goto C (tgt := 29) d_Re_readLiteral_108 (by decide) ?_
              refine XW.loc (lv' := [(0, .ref (s0.heap.size + 27)), (2, .int (zI pl)), (3, .int (zI ly)), (4, .int (zI 0)), (5, .int (zI (2 * mm + (rBit pk sz (pl + 0 * 256 + mm) (.inr d)).1))), (6, .int (zI ((k : Nat) - 1 : Int)))]) ⟨rfl, rfl, rfl, rfl, rfl, by rw [show ((k : Nat) - 1 : Int) = (k : Int) + -1 by omega]; rfl, trivial⟩ ?_
              exact ih _ 0 _ (by omega) (by omega) (pow_b hb mB) (by decide) ok72 (by rw [← e72]; exact hX)
            · exfalso; omega
          · obtain ⟨b72, e72, rfl, rfl, d72, rfl⟩ := r72.thr
            exact Or.inr ⟨b72, by rw [← hX]; exact rLit_bad2 e72 _ _ _ _ _, rfl, rfl, d72, rfl⟩
        · exfalso; omega
    · have hb := rBit_01 pk sz (pl + (1 + bitZ ly k) * 256 + mm) (.inr d)
      have hX : rLit pk sz k pl ly (2 * mm + (rBit pk sz (pl + (1 + bitZ ly k) * 256 + mm) (.inr d)).1) (sameZ 1 (rBit pk sz (pl + (1 + bitZ ly k) * 256 + mm) (.inr d)).1 (bitZ ly k)) (rBit pk sz (pl + (1 + bitZ ly k) * 256 + mm) (.inr d)).2 = X := hX
      refine x_iload C d_Re_readLiteral_29 rfl ?_
      refine x_if_lt C (tgt := 111) d_Re_readLiteral_31 (by decide) (by omega) (by omega) (fun c31 => ?_) (fun c31 => ?_)
      · exfalso; omega
      · refine x_iload_n C d_Re_readLiteral_34 rfl ?_
        refine x_iload C d_Re_readLiteral_35 rfl ?_
        refine x_ishr C (q := 2 ^ k) k d_Re_readLiteral_37 rfl rfl (by omega) (by omega) (by omega) ?_
        refine x_iconst C d_Re_readLiteral_38 ?_
        refine x_iand C d_Re_readLiteral_39 (zI_and1 _) ?_
        show XW s0 D p l e (a_rm 9 1 6) s m args below meth c _ 40 _ (.int (zI (bitZ ly k)) :: []) _ _ _ _
        refine x_istore C d_Re_readLiteral_40 (by decide) ?_
        refine x_iload C d_Re_readLiteral_42 rfl ?_
        refine x_if_eq C (tgt := 54) d_Re_readLiteral_44 (by decide) (by omega) (by omega) (fun c44 => ?_) (fun c44 => ?_)
        · exfalso; omega
        · refine x_iconst C d_Re_readLiteral_47 ?_
          refine x_iload C d_Re_readLiteral_48 rfl ?_
          refine x_iadd C d_Re_readLiteral_50 ?_
          refine x_goto C (tgt := 55) d_Re_readLiteral_51 (by decide) ?_
          refine x_istore C d_Re_readLiteral_55 (by decide) ?_
          refine x_aload_n C d_Re_readLiteral_57 rfl ?_
          refine x_get C (G_Re E.1) 0 (u_241 E.1) d_Re_readLiteral_58 (by decide) (by exact h27) rfl ?_
          refine x_iload_n C d_Re_readLiteral_61 rfl ?_
          refine x_iload C d_Re_readLiteral_62 rfl ?_
          refine x_sipush C d_Re_readLiteral_64 (by decide) ?_
          refine x_imul C d_Re_readLiteral_67 ?_
          refine x_iadd C d_Re_readLiteral_68 ?_
          refine x_iload C d_Re_readLiteral_69 rfl ?_
          refine x_iadd C d_Re_readLiteral_71 ?_
          refine x_callVTT C (G_Fo E.1) (u_699 E.1) (u_700 E.1) (u_701 E.1) (u_702 E.1) (u_12 E.1) d_Re_readLiteral_72 (c_Fo_readBit l E F h31 h32 hp z1 z2 h29 ok (pl := pl + (1 + bitZ ly k) * 256 + mm) (by omega) (by omega)) nh_Fo_readBit ln_Fo_readBit rfl (by rfl) (nle rfl) (nle rfl) (nle rfl) (nle rfl) (nle rfl) (fun v72 h72 K72 r72 => ?_) (fun Cn72 h72 K72 r72 => ?_)
          · obtain ⟨d72, e72, rfl, rfl, rfl⟩ := r72.ret
            have ok72 : dOk sz d72 := ok_of (xOk_bit hp (x := .inr d) ok _) e72
            refine x_istore C d_Re_readLiteral_75 (by decide) ?_
            refine x_iload C d_Re_readLiteral_77 rfl ?_
            refine x_if_eq C (tgt := 93) d_Re_readLiteral_79 (by decide) (by omega) (by omega) (fun c79 => ?_) (fun c79 => ?_)
            · exfalso; omega
            · refine x_iload C d_Re_readLiteral_82 rfl ?_
              refine x_iload C d_Re_readLiteral_84 rfl ?_
              refine x_icmp_ne C (tgt := 93) d_Re_readLiteral_86 (by decide) (by omega) (by omega) (by omega) (by omega) (fun c86 => ?_) (fun c86 => ?_)
              · refine x_iconst C d_Re_readLiteral_93 ?_
                refine x_istore C d_Re_readLiteral_94 (by decide) ?_
                refine x_iconst C d_Re_readLiteral_96 ?_
                refine x_iload C d_Re_readLiteral_97 rfl ?_
                refine x_imul C d_Re_readLiteral_99 ?_
                refine x_iload C d_Re_readLiteral_100 rfl ?_
                refine x_iadd C d_Re_readLiteral_102 ?_
                refine x_istore C d_Re_readLiteral_103 (by decide) ?_
                refine x_iinc C d_Re_readLiteral_105 (by decide) rfl ?_
                refine x_goto C (tgt := 29) d_Re_readLiteral_108 (by decide) ?_
                first
                  | (have hs : sameZ 1 (rBit pk sz (pl + (1 + bitZ ly k) * 256 + mm) (.inr d)).1 (bitZ ly k) = 0 := by unfold sameZ; rw [if_neg (by decide), if_neg (by omega)]
                     rw [hs] at hX
                     refine XW.loc (lv' := [(0, .ref (s0.heap.size + 27)), (2, .int (zI pl)), (3, .int (zI ly)), (4, .int (zI 0)), (5, .int (zI (2 * mm + (rBit pk sz (pl + (1 + bitZ ly k) * 256 + mm) (.inr d)).1))), (6, .int (zI ((k : Nat) - 1 : Int)))]) ⟨rfl, rfl, rfl, rfl, rfl, by rw [show ((k : Nat) - 1 : Int) = (k : Int) + -1 by omega]; rfl, trivial⟩ ?_
                     exact ih _ 0 _ (by omega) (by omega) (pow_b hb mB) (by decide) ok72 (by rw [← e72]; exact hX))
                  | (have hs : sameZ 1 (rBit pk sz (pl + (1 + bitZ ly k) * 256 + mm) (.inr d)).1 (bitZ ly k) = 1 := by unfold sameZ; rw [if_neg (by decide), if_pos (by omega)]
                     rw [hs] at hX
                     refine XW.loc (lv' := [(0, .ref (s0.heap.size + 27)), (2, .int (zI pl)), (3, .int (zI ly)), (4, .int (zI 1)), (5, .int (zI (2 * mm + (rBit pk sz (pl + (1 + bitZ ly k) * 256 + mm) (.inr d)).1))), (6, .int (zI ((k : Nat) - 1 : Int)))]) ⟨rfl, rfl, rfl, rfl, rfl, by rw [show ((k : Nat) - 1 : Int) = (k : Int) + -1 by omega]; rfl, trivial⟩ ?_
                     exact ih _ 1 _ (by omega) (by omega) (pow_b hb mB) (by decide) ok72 (by rw [← e72]; exact hX))
              · refine x_iconst C d_Re_readLiteral_89 ?_
                refine x_goto C (tgt := 94) d_Re_readLiteral_90 (by decide) ?_
                refine x_istore C d_Re_readLiteral_94 (by decide) ?_
                refine x_iconst C d_Re_readLiteral_96 ?_
                refine x_iload C d_Re_readLiteral_97 rfl ?_
                refine x_imul C d_Re_readLiteral_99 ?_
                refine x_iload C d_Re_readLiteral_100 rfl ?_
                refine x_iadd C d_Re_readLiteral_102 ?_
                refine x_istore C d_Re_readLiteral_103 (by decide) ?_
                refine x_iinc C d_Re_readLiteral_105 (by decide) rfl ?_
                refine x_goto C (tgt := 29) d_Re_readLiteral_108 (by decide) ?_
                first
                  | (have hs : sameZ 1 (rBit pk sz (pl + (1 + bitZ ly k) * 256 + mm) (.inr d)).1 (bitZ ly k) = 0 := by unfold sameZ; rw [if_neg (by decide), if_neg (by omega)]
                     rw [hs] at hX
                     refine XW.loc (lv' := [(0, .ref (s0.heap.size + 27)), (2, .int (zI pl)), (3, .int (zI ly)), (4, .int (zI 0)), (5, .int (zI (2 * mm + (rBit pk sz (pl + (1 + bitZ ly k) * 256 + mm) (.inr d)).1))), (6, .int (zI ((k : Nat) - 1 : Int)))]) ⟨rfl, rfl, rfl, rfl, rfl, by rw [show ((k : Nat) - 1 : Int) = (k : Int) + -1 by omega]; rfl, trivial⟩ ?_
                     exact ih _ 0 _ (by omega) (by omega) (pow_b hb mB) (by decide) ok72 (by rw [← e72]; exact hX))
                  | (have hs : sameZ 1 (rBit pk sz (pl + (1 + bitZ ly k) * 256 + mm) (.inr d)).1 (bitZ ly k) = 1 := by unfold sameZ; rw [if_neg (by decide), if_pos (by omega)]
                     rw [hs] at hX
                     refine XW.loc (lv' := [(0, .ref (s0.heap.size + 27)), (2, .int (zI pl)), (3, .int (zI ly)), (4, .int (zI 1)), (5, .int (zI (2 * mm + (rBit pk sz (pl + (1 + bitZ ly k) * 256 + mm) (.inr d)).1))), (6, .int (zI ((k : Nat) - 1 : Int)))]) ⟨rfl, rfl, rfl, rfl, rfl, by rw [show ((k : Nat) - 1 : Int) = (k : Int) + -1 by omega]; rfl, trivial⟩ ?_
                     exact ih _ 1 _ (by omega) (by omega) (pow_b hb mB) (by decide) ok72 (by rw [← e72]; exact hX))
          · obtain ⟨b72, e72, rfl, rfl, d72, rfl⟩ := r72.thr
            exact Or.inr ⟨b72, by rw [← hX]; exact rLit_bad2 e72 _ _ _ _ _, rfl, rfl, d72, rfl⟩
set_option maxRecDepth 100000 in
set_option maxHeartbeats 4000000 in
theorem c_Re_readLiteral {a0 : Array Value} {s0 : State} {D : va_G} {cI cL : ClassId} (l : Launch) (E : a_E a0 s0 D cI cL) (F : a_F l s0) {h : AH} {K : Nat} {pk : Int → Int} {sz : Int} (h31 : h 31 = some (oBy s0.heap.size 32 sz)) (h32 : h 32 = some (iA cI 200 pk)) (hp : ∀ j, 0 ≤ pk j ∧ pk j < 256) (z1 : 0 ≤ sz) (z2 : sz ≤ 200) (h29 : h 29 = some (oCh s0.heap.size 30)) (h27 : h 27 = some (oRe s0.heap.size)) {d : De} (ok : dOk sz d) {t : Hs} (H : isH s0.heap.size cI h t) (hk : hOk t) : XMT l s0 D y_Re_readLiteral prog_10_method_3_code 10 (some .int) 9 [.ref (s0.heap.size + 27), .ref (s0.heap.size + 17)] (sF s0.heap.size cI h d) (K) (PRs (rLt pk sz t (.inr d)) (sF s0.heap.size cI h) K) := by
  refine XMT.of (cI := cI) (cL := cL) (own := "NarrowingPacker$PacketReader") (by decide) rfl E.2 (nle rfl) ?_
  intro p e s m below meth c C hn hlow
  refine x_aload_n C d_Re_readLiteral_0 rfl ?_
  refine x_callVR C (G_Hi E.1) (u_710 E.1) (u_449 E.1) (u_450 E.1) (u_451 E.1) (u_5 E.1) d_Re_readLiteral_1 (c_Hi_placeOfLiterals l E (t := t) (by exact H) hk) nh_Hi_placeOfLiterals ln_Hi_placeOfLiterals rfl (by exact H.1) (nle rfl) (nle rfl) (nle rfl) (nle rfl) (nle rfl) ?_
  refine x_istore_n C d_Re_readLiteral_4 (by decide) ?_
  refine x_aload_n C d_Re_readLiteral_5 rfl ?_
  refine x_aload_n C d_Re_readLiteral_6 rfl ?_
  refine x_getN C (G_Hi E.1) 1 (u_125 E.1) d_Re_readLiteral_7 (by decide) (by exact H.1) rfl ?_
  refine x_iconst C d_Re_readLiteral_10 ?_
  refine x_iald C d_Re_readLiteral_11 (by exact H.2.2.2) (by omega) (by omega) (by omega) ?_
  have hb0 := hk.2.2.1 0
  refine x_callVR C (G_Hi E.1) (u_711 E.1) (u_453 E.1) (u_454 E.1) (u_455 E.1) (u_5 E.1) d_Re_readLiteral_12 (c_Hi_byteBefore l E (t := t) (by exact H) hk (by omega) (by omega)) nh_Hi_byteBefore ln_Hi_byteBefore rfl (by exact H.1) (nle rfl) (nle rfl) (nle rfl) (nle rfl) (nle rfl) ?_
  refine x_istore_n C d_Re_readLiteral_15 (by decide) ?_
  refine x_aload_n C d_Re_readLiteral_16 rfl ?_
  refine x_callVR C (G_Hi E.1) (u_712 E.1) (u_458 E.1) (u_459 E.1) (u_460 E.1) (u_5 E.1) d_Re_readLiteral_17 (c_Hi_isBehindACopy l E (t := t) (by exact H) hk) nh_Hi_isBehindACopy ln_Hi_isBehindACopy rfl (by exact H.1) (nle rfl) (nle rfl) (nle rfl) (nle rfl) (nle rfl) ?_
  refine x_istore C d_Re_readLiteral_20 (by decide) ?_
  refine x_iconst C d_Re_readLiteral_22 ?_
  refine x_istore C d_Re_readLiteral_23 (by decide) ?_
  refine x_bipush C d_Re_readLiteral_25 (by decide) ?_
  refine x_istore C d_Re_readLiteral_27 (by decide) ?_
  have hpl := hPlace_b hk
  have hly := hBefore_b hk (t.2.2.1 0)
  refine XW.loc (lv' := [(0, .ref (s0.heap.size + 27)), (2, .int (zI (hPlace t))), (3, .int (zI (hBefore t (t.2.2.1 0)))), (4, .int (zI (hAs t))), (5, .int (zI 1)), (6, .int (zI ((8 : Nat) - 1 : Int)))]) ⟨rfl, rfl, rfl, rfl, rfl, rfl, trivial⟩ ?_
  exact lp_Re_lit l E F C rfl h31 h32 hp z1 z2 h29 h27 hpl.1 hpl.2 hly.1 hly.2 8 1 (hAs t) d (by decide) (by decide) (by decide) (hAs_01 t) ok rfl

theorem pow_s {n : Nat} (h : n ≤ 5) : (1 : Int) ≤ 2 ^ n ∧ (2 : Int) ^ n ≤ 32 := by
  have : n = 0 ∨ n = 1 ∨ n = 2 ∨ n = 3 ∨ n = 4 ∨ n = 5 := by omega
  rcases this with e | e | e | e | e | e <;> rw [e] <;> decide
set_option maxRecDepth 100000 in
set_option maxHeartbeats 4000000 in
theorem c_Re_readDistance {a0 : Array Value} {s0 : State} {D : va_G} {cI cL : ClassId} (l : Launch) (E : a_E a0 s0 D cI cL) (F : a_F l s0) {h : AH} {K : Nat} {pk : Int → Int} {sz : Int} (h31 : h 31 = some (oBy s0.heap.size 32 sz)) (h32 : h 32 = some (iA cI 200 pk)) (hp : ∀ j, 0 ≤ pk j ∧ pk j < 256) (z1 : 0 ≤ sz) (z2 : sz ≤ 200) (h29 : h 29 = some (oCh s0.heap.size 30)) (h27 : h 27 = some (oRe s0.heap.size)) {d : De} (ok : dOk sz d) {sl : Int} (s1 : 0 ≤ sl) (s2 : sl ≤ 13) : XMT l s0 D y_Re_readDistance prog_10_method_5_code 5 (some .int) 9 [.ref (s0.heap.size + 27), .int (zI sl)] (sF s0.heap.size cI h d) (K) (PRs (rDist pk sz sl (.inr d)) (sF s0.heap.size cI h) K) := by
  refine XMT.of (cI := cI) (cL := cL) (own := "NarrowingPacker$PacketReader") (by decide) rfl E.2 (nle rfl) ?_
  intro p e s m below meth c C hn hlow
  refine x_iload_n C d_Re_readDistance_0 rfl ?_
  refine x_iconst C d_Re_readDistance_1 ?_
  refine x_icmp_ge C (tgt := 9) d_Re_readDistance_2 (by decide) (by omega) (by omega) (by omega) (by omega) (fun c2 => ?_) (fun c2 => ?_)
  · have h5 := pow_s (n := (sl / 2 - 1).toNat) (by omega)
    have hN : ((sl / 2 - 1).toNat : Int) = sl / 2 - 1 := by omega
    refine x_iload_n C d_Re_readDistance_9 rfl ?_
    refine x_iconst C d_Re_readDistance_10 ?_
    refine x_idiv C d_Re_readDistance_11 (by omega) (by omega) (by omega) (by omega) ?_
    refine x_iconst C d_Re_readDistance_12 ?_
    refine x_isub C d_Re_readDistance_13 ?_
    refine x_istore_n C d_Re_readDistance_14 (by decide) ?_
    refine x_sipush C d_Re_readDistance_15 (by decide) ?_
    refine x_iload_n C d_Re_readDistance_18 rfl ?_
    refine x_iconst C d_Re_readDistance_19 ?_
    refine x_isub C d_Re_readDistance_20 ?_
    refine x_bipush C d_Re_readDistance_21 (by decide) ?_
    refine x_imul C d_Re_readDistance_23 ?_
    refine x_iadd C d_Re_readDistance_24 ?_
    refine x_istore_n C d_Re_readDistance_25 (by decide) ?_
    refine x_iconst C d_Re_readDistance_26 ?_
    refine x_iload_n C d_Re_readDistance_27 rfl ?_
    refine x_iconst C d_Re_readDistance_28 ?_
    refine x_irem C d_Re_readDistance_29 (by omega) (by omega) (by omega) (by omega) ?_
    refine x_iadd C d_Re_readDistance_30 ?_
    refine x_iload_n C d_Re_readDistance_31 rfl ?_
    refine x_ishl C (q := 2 ^ (sl / 2 - 1).toNat) (sl / 2 - 1).toNat d_Re_readDistance_32 (by omega) rfl (by omega) ?_
    refine x_istore C d_Re_readDistance_33 (by decide) ?_
    refine x_iload C d_Re_readDistance_35 rfl ?_
    refine x_aload_n C d_Re_readDistance_37 rfl ?_
    refine x_get C (G_Re E.1) 0 (u_241 E.1) d_Re_readDistance_38 (by decide) (by exact h27) rfl ?_
    refine x_iload_n C d_Re_readDistance_41 rfl ?_
    refine x_iload_n C d_Re_readDistance_42 rfl ?_
    refine XW.steq (st' := .int (zI ((sl / 2 - 1).toNat : Int)) :: .int (zI (428 + (sl - 4) * 32)) :: .ref (s0.heap.size + 28) :: .int (zI ((2 + sl % 2) * 2 ^ (sl / 2 - 1).toNat)) :: []) (by rw [hN]) ?_
    refine x_callVTT C (G_Fo E.1) (u_736 E.1) (u_737 E.1) (u_738 E.1) (u_739 E.1) (u_12 E.1) d_Re_readDistance_43 (c_Fo_readRow l E F h31 h32 hp z1 z2 h29 ok (pl := 428 + (sl - 4) * 32) (sl / 2 - 1).toNat (by omega) (by omega) (by omega)) nh_Fo_readRow ln_Fo_readRow rfl (by rfl) (nle rfl) (nle rfl) (nle rfl) (nle rfl) (nle rfl) (fun v43 h43 K43 r43 => ?_) (fun Cn43 h43 K43 r43 => ?_)
    · obtain ⟨d43, e43, rfl, rfl, rfl⟩ := r43.ret
      have ok43 : dOk sz d43 := ok_of (xOk_row hp (sl / 2 - 1).toNat 0 (428 + (sl - 4) * 32) 1 0 (x := .inr d) ok) e43
      refine x_iadd C d_Re_readDistance_46 ?_
      refine x_iconst C d_Re_readDistance_47 ?_
      refine x_iadd C d_Re_readDistance_48 ?_
      exact x_iretT C d_Re_readDistance_49 (Or.inl ⟨d43, by unfold rDist; rw [if_neg (by omega)]; exact e43, by unfold rDist; rw [if_neg (by omega)], rfl, rfl⟩)
    · obtain ⟨b43, e43, rfl, rfl, d43, rfl⟩ := r43.thr
      exact Or.inr ⟨b43, by unfold rDist; rw [if_neg (by omega)]; exact e43, rfl, rfl, d43, rfl⟩
  · refine x_iload_n C d_Re_readDistance_5 rfl ?_
    refine x_iconst C d_Re_readDistance_6 ?_
    refine x_iadd C d_Re_readDistance_7 ?_
    exact x_iretT C d_Re_readDistance_8 (Or.inl ⟨d, by unfold rDist; rw [if_pos c2], by unfold rDist; rw [if_pos c2], rfl, rfl⟩)

def PRp (b : Nat) (cI : ClassId) (h : AH) (ec li : Int) (r : Pk × Rs) (K : Nat) : AO → AH → Nat → Prop := fun o h' K' =>
  (∃ d', r.2 = .inr d' ∧ o = .inl none ∧ h' = a_up (sF b cI h d') 16 (pkSt r.1 ec li) ∧ K' = K) ∨ (∃ bd, r.2 = .inl bd ∧ o = .inr (exn bd) ∧ K' = K + 1 ∧ ∃ d', h' = sF b cI h d')
theorem PRp.ret {b : Nat} {cI : ClassId} {h : AH} {ec li : Int} {r : Pk × Rs} {K : Nat} {v : Option Value} {h' : AH} {K' : Nat} (q : PRp b cI h ec li r K (.inl v) h' K') : ∃ d', r.2 = .inr d' ∧ v = none ∧ h' = a_up (sF b cI h d') 16 (pkSt r.1 ec li) ∧ K' = K := by
  rcases q with ⟨d', q1, q2, q3, q4⟩ | ⟨b, q1, q2, q3⟩
  · cases q2; exact ⟨d', q1, rfl, q3, q4⟩
  · cases q2
theorem PRp.thr {b : Nat} {cI : ClassId} {h : AH} {ec li : Int} {r : Pk × Rs} {K : Nat} {Cn : String} {h' : AH} {K' : Nat} (q : PRp b cI h ec li r K (.inr Cn) h' K') : ∃ bd, r.2 = .inl bd ∧ Cn = exn bd ∧ K' = K + 1 ∧ ∃ d', h' = sF b cI h d' := by
  rcases q with ⟨d', q1, q2, q3, q4⟩ | ⟨b, q1, q2, q3⟩
  · cases q2
  · cases q2; exact ⟨b, q1, rfl, q3⟩
set_option maxRecDepth 100000 in
set_option maxHeartbeats 4000000 in
theorem c_Re_readMatchOrEnd {a0 : Array Value} {s0 : State} {D : va_G} {cI cL : ClassId} (l : Launch) (E : a_E a0 s0 D cI cL) (F : a_F l s0) {h : AH} {K : Nat} {pk : Int → Int} {sz : Int} (h31 : h 31 = some (oBy s0.heap.size 32 sz)) (h32 : h 32 = some (iA cI 200 pk)) (hp : ∀ j, 0 ≤ pk j ∧ pk j < 256) (z1 : 0 ≤ sz) (z2 : sz ≤ 200) (h29 : h 29 = some (oCh s0.heap.size 30)) (h27 : h 27 = some (oRe s0.heap.size)) {d : De} (ok : dOk sz d) {k ln ds ec li : Int} (h16 : h 16 = some (oPa k ln ds ec li)) : XMT l s0 D y_Re_readMatchOrEnd prog_10_method_4_code 4 none 10 [.ref (s0.heap.size + 27), .ref (s0.heap.size + 16)] (sF s0.heap.size cI h d) (K) (PRp s0.heap.size cI h ec li (rMatch pk sz (.inr d)) K) := by
  refine XMT.of (cI := cI) (cL := cL) (own := "NarrowingPacker$PacketReader") (by decide) rfl E.2 (nle rfl) ?_
  intro p e s m below meth c C hn hlow
  refine x_aload_n C d_Re_readMatchOrEnd_0 rfl ?_
  refine x_bipush C d_Re_readMatchOrEnd_1 (by decide) ?_
  refine x_callVTT C (G_Re E.1) (u_718 E.1) (u_720 E.1) (us_19 E.1) (u_721 E.1) (u_11 E.1) d_Re_readMatchOrEnd_3 (c_Re_readLength l E F h31 h32 hp z1 z2 h29 h27 ok (pl := 72) (by decide) (by decide)) nh_Re_readLength ln_Re_readLength rfl (by exact h27) (nle rfl) (nle rfl) (nle rfl) (nle rfl) (nle rfl) (fun v3 h3 K3 r3 => ?_) (fun Cn3 h3 K3 r3 => ?_)
  have hl := rLen_b pk sz 72 (.inr d)
  · obtain ⟨d3, e3, rfl, rfl, rfl⟩ := r3.ret
    have ok3 : dOk sz d3 := ok_of (xOk_len hp 72 (x := .inr d) ok) e3
    refine x_istore_n C d_Re_readMatchOrEnd_6 (by decide) ?_
    refine x_aload_n C d_Re_readMatchOrEnd_7 rfl ?_
    refine x_get C (G_Re E.1) 0 (u_241 E.1) d_Re_readMatchOrEnd_8 (by decide) (by exact h27) rfl ?_
    refine x_sipush C d_Re_readMatchOrEnd_11 (by decide) ?_
    refine x_iload_n C d_Re_readMatchOrEnd_14 rfl ?_
    refine x_iconst C d_Re_readMatchOrEnd_15 ?_
    refine x_min C (u_727 E.1) (u_140 E.1) (u_7 E.1) (u_141 E.1) d_Re_readMatchOrEnd_16 (nle rfl) (nle rfl) (nle rfl) (nle rfl) (by omega) (by omega) (by omega) (by omega) ?_
    refine x_bipush C d_Re_readMatchOrEnd_19 (by decide) ?_
    refine x_imul C d_Re_readMatchOrEnd_21 ?_
    refine x_iadd C d_Re_readMatchOrEnd_22 ?_
    refine x_iconst C d_Re_readMatchOrEnd_23 ?_
    refine x_callVTT C (G_Fo E.1) (u_722 E.1) (u_723 E.1) (u_724 E.1) (u_725 E.1) (u_12 E.1) d_Re_readMatchOrEnd_24 (c_Fo_readTree l E F h31 h32 hp z1 z2 h29 ok3 (pl := (364 + min (rLen pk sz 72 (.inr d)).1 3 * 16)) 4 (by decide) (by omega) (by omega)) nh_Fo_readTree ln_Fo_readTree rfl (by rfl) (nle rfl) (nle rfl) (nle rfl) (nle rfl) (nle rfl) (fun v24 h24 K24 r24 => ?_) (fun Cn24 h24 K24 r24 => ?_)
    have hes : (rSlot pk sz (.inr d)) = rTree pk sz 4 (364 + min (rLen pk sz 72 (.inr d)).1 3 * 16) 1 (.inr d3) := by unfold rSlot; rw [e3]
    have hb := rTree_b pk sz 4 (364 + min (rLen pk sz 72 (.inr d)).1 3 * 16) 1 (.inr d3)
    · obtain ⟨d24, e24, rfl, rfl, rfl⟩ := r24.ret
      have ok24 : dOk sz d24 := ok_of (by have := xOk_slot hp (x := .inr d) ok; unfold rSlot at this; rw [e3] at this; exact this) e24
      refine x_istore_n C d_Re_readMatchOrEnd_27 (by decide) ?_
      refine x_iload_n C d_Re_readMatchOrEnd_28 rfl ?_
      refine x_bipush C d_Re_readMatchOrEnd_29 (by decide) ?_
      refine x_icmp_ne C (tgt := 39) d_Re_readMatchOrEnd_31 (by decide) (by omega) (by omega) (by omega) (by omega) (fun c31 => ?_) (fun c31 => ?_)
      · refine x_iload_n C d_Re_readMatchOrEnd_39 rfl ?_
        refine x_bipush C d_Re_readMatchOrEnd_40 (by decide) ?_
        refine x_icmp_ne C (tgt := 55) d_Re_readMatchOrEnd_42 (by decide) (by omega) (by omega) (by omega) (by omega) (fun c42 => ?_) (fun c42 => ?_)
        · refine x_aload_n C d_Re_readMatchOrEnd_55 rfl ?_
          refine x_iload_n C d_Re_readMatchOrEnd_56 rfl ?_
          refine x_iconst C d_Re_readMatchOrEnd_57 ?_
          refine x_iadd C d_Re_readMatchOrEnd_58 ?_
          refine x_aload_n C d_Re_readMatchOrEnd_59 rfl ?_
          refine x_iload_n C d_Re_readMatchOrEnd_60 rfl ?_
          refine x_callVTT C (G_Re E.1) (u_732 E.1) (u_734 E.1) (us_20 E.1) (u_735 E.1) (u_11 E.1) d_Re_readMatchOrEnd_61 (c_Re_readDistance l E F h31 h32 hp z1 z2 h29 h27 ok24 (sl := (rTree pk sz 4 (364 + min (rLen pk sz 72 (.inr d)).1 3 * 16) 1 (.inr d3)).1 - 2 ^ 4) (by omega) (by omega)) nh_Re_readDistance ln_Re_readDistance rfl (by exact h27) (nle rfl) (nle rfl) (nle rfl) (nle rfl) (nle rfl) (fun v61 h61 K61 r61 => ?_) (fun Cn61 h61 K61 r61 => ?_)
          · obtain ⟨d61, e61, rfl, rfl, rfl⟩ := r61.ret
            have ok61 : dOk sz d61 := ok_of (xOk_dist hp (x := .inr d24) ok24 _) e61
            refine x_callVR C (G_Pa E.1) (u_740 E.1) (u_410 E.1) (u_411 E.1) (u_412 E.1) (u_4 E.1) d_Re_readMatchOrEnd_64 (c_Pa_becomeMatch l E (by exact h16)) nh_Pa_becomeMatch ln_Pa_becomeMatch rfl (by exact h16) (nle rfl) (nle rfl) (nle rfl) (nle rfl) (nle rfl) ?_
            exact x_vretT C d_Re_readMatchOrEnd_67 (Or.inl ⟨d61, by unfold rMatch; rw [hes, if_neg (by omega), if_neg (by omega)]; show (rDist _ _ _ (rTree _ _ _ _ _ _).2).2 = _; rw [show (rTree pk sz 4 (364 + min (rLen pk sz 72 (.inr d)).1 3 * 16) 1 (.inr d3)).2 = .inr d24 from e24]; exact e61, rfl, by unfold rMatch; rw [hes, if_neg (by omega), if_neg (by omega), show (rTree pk sz 4 (364 + min (rLen pk sz 72 (.inr d)).1 3 * 16) 1 (.inr d3)).2 = .inr d24 from e24]; rfl, rfl⟩)
          · obtain ⟨b61, e61, rfl, rfl, d61, rfl⟩ := r61.thr
            exact Or.inr ⟨b61, by unfold rMatch; rw [hes, if_neg (by omega), if_neg (by omega)]; show (rDist _ _ _ (rTree _ _ _ _ _ _).2).2 = _; rw [show (rTree pk sz 4 (364 + min (rLen pk sz 72 (.inr d)).1 3 * 16) 1 (.inr d3)).2 = .inr d24 from e24]; exact e61, rfl, rfl, d61, rfl⟩
        · exact x_throwT C F hlow E.1 (th_IO E.1) (u_729 E.1) (u_730 E.1) (u_731 E.1) d_Re_readMatchOrEnd_45 d_Re_readMatchOrEnd_48 d_Re_readMatchOrEnd_49 d_Re_readMatchOrEnd_51 d_Re_readMatchOrEnd_54 (nle rfl) (nle rfl) (nle rfl) (nle rfl) (Or.inr ⟨3, by unfold rMatch; rw [hes, if_neg (by omega), if_pos (by omega)]; show rFar (rTree _ _ _ _ _ _).2 = _; rw [show (rTree pk sz 4 (364 + min (rLen pk sz 72 (.inr d)).1 3 * 16) 1 (.inr d3)).2 = .inr d24 from e24]; rfl, rfl, rfl, d24, rfl⟩)
      · refine x_aload_n C d_Re_readMatchOrEnd_34 rfl ?_
        refine x_callVR C (G_Pa E.1) (u_728 E.1) (u_517 E.1) (u_518 E.1) (u_519 E.1) (u_4 E.1) d_Re_readMatchOrEnd_35 (c_Pa_becomeEnd l E (by exact h16)) nh_Pa_becomeEnd ln_Pa_becomeEnd rfl (by exact h16) (nle rfl) (nle rfl) (nle rfl) (nle rfl) (nle rfl) ?_
        exact x_vretT C d_Re_readMatchOrEnd_38 (Or.inl ⟨d24, by unfold rMatch; rw [hes, if_pos (by omega)]; exact e24, rfl, by unfold rMatch; rw [hes, if_pos (by omega)]; rfl, rfl⟩)
    · obtain ⟨b24, e24, rfl, rfl, d24, rfl⟩ := r24.thr
      exact Or.inr ⟨b24, rMatch_in (by unfold rSlot; rw [e3]; exact e24), rfl, rfl, d24, rfl⟩
  · obtain ⟨b3, e3, rfl, rfl, d3, rfl⟩ := r3.thr
    exact Or.inr ⟨b3, rMatch_in (rSlot_in e3), rfl, rfl, d3, rfl⟩

set_option maxRecDepth 100000 in
set_option maxHeartbeats 4000000 in
theorem c_Re_readRepeat {a0 : Array Value} {s0 : State} {D : va_G} {cI cL : ClassId} (l : Launch) (E : a_E a0 s0 D cI cL) (F : a_F l s0) {h : AH} {K : Nat} {pk : Int → Int} {sz : Int} (h31 : h 31 = some (oBy s0.heap.size 32 sz)) (h32 : h 32 = some (iA cI 200 pk)) (hp : ∀ j, 0 ≤ pk j ∧ pk j < 256) (z1 : 0 ≤ sz) (z2 : sz ≤ 200) (h29 : h 29 = some (oCh s0.heap.size 30)) (h27 : h 27 = some (oRe s0.heap.size)) {d : De} (ok : dOk sz d) {k ln ds ec li : Int} (h16 : h 16 = some (oPa k ln ds ec li)) {bk : Int → Int} (h20 : h 20 = some (iA cI 4 bk)) {st : Int} (t1 : 0 ≤ st) (t2 : st ≤ 11) : XMT l s0 D y_Re_readRepeat prog_10_method_6_code 6 none 10 [.ref (s0.heap.size + 27), .ref (s0.heap.size + 16), .int (zI st), .ref (s0.heap.size + 20)] (sF s0.heap.size cI h d) (K) (PRp s0.heap.size cI h ec li (rRep pk sz bk st (.inr d)) K) := by
  refine XMT.of (cI := cI) (cL := cL) (own := "NarrowingPacker$PacketReader") (by decide) rfl E.2 (nle rfl) ?_
  intro p e s m below meth c C hn hlow
  refine x_iconst C d_Re_readRepeat_0 ?_
  refine x_istore C d_Re_readRepeat_1 (by decide) ?_
  refine x_aload_n C d_Re_readRepeat_3 rfl ?_
  refine x_get C (G_Re E.1) 0 (u_241 E.1) d_Re_readRepeat_4 (by decide) (by exact h27) rfl ?_
  refine x_bipush C d_Re_readRepeat_7 (by decide) ?_
  refine x_iload_n C d_Re_readRepeat_9 rfl ?_
  refine x_iadd C d_Re_readRepeat_10 ?_
  refine x_callVTT C (G_Fo E.1) (u_699 E.1) (u_700 E.1) (u_701 E.1) (u_702 E.1) (u_12 E.1) d_Re_readRepeat_11 (c_Fo_readBit l E F h31 h32 hp z1 z2 h29 ok (pl := 24 + st) (by omega) (by omega)) nh_Fo_readBit ln_Fo_readBit rfl (by rfl) (nle rfl) (nle rfl) (nle rfl) (nle rfl) (nle rfl) (fun v11 h11 K11 r11 => ?_) (fun Cn11 h11 K11 r11 => ?_)
  have hb11 := rBit_01 pk sz (24 + st) (.inr d)
  · obtain ⟨d11, e11, rfl, rfl, rfl⟩ := r11.ret
    have ok11 : dOk sz d11 := ok_of (xOk_bit hp (x := .inr d) ok _) e11
    refine x_if_ne C (tgt := 39) d_Re_readRepeat_14 (by decide) (by omega) (by omega) (fun c14 => ?_) (fun c14 => ?_)
    · refine x_aload_n C d_Re_readRepeat_39 rfl ?_
      refine x_get C (G_Re E.1) 0 (u_241 E.1) d_Re_readRepeat_40 (by decide) (by exact h27) rfl ?_
      refine x_bipush C d_Re_readRepeat_43 (by decide) ?_
      refine x_iload_n C d_Re_readRepeat_45 rfl ?_
      refine x_iadd C d_Re_readRepeat_46 ?_
      refine x_callVTT C (G_Fo E.1) (u_699 E.1) (u_700 E.1) (u_701 E.1) (u_702 E.1) (u_12 E.1) d_Re_readRepeat_47 (c_Fo_readBit l E F h31 h32 hp z1 z2 h29 ok11 (pl := 48 + st) (by omega) (by omega)) nh_Fo_readBit ln_Fo_readBit rfl (by rfl) (nle rfl) (nle rfl) (nle rfl) (nle rfl) (nle rfl) (fun v47 h47 K47 r47 => ?_) (fun Cn47 h47 K47 r47 => ?_)
      have hb47 := rBit_01 pk sz (48 + st) (.inr d11)
      · obtain ⟨d47, e47, rfl, rfl, rfl⟩ := r47.ret
        have ok47 : dOk sz d47 := ok_of (xOk_bit hp (x := .inr d11) ok11 _) e47
        refine x_if_ne C (tgt := 59) d_Re_readRepeat_50 (by decide) (by omega) (by omega) (fun c50 => ?_) (fun c50 => ?_)
        · refine x_iconst C d_Re_readRepeat_59 ?_
          refine x_aload_n C d_Re_readRepeat_60 rfl ?_
          refine x_get C (G_Re E.1) 0 (u_241 E.1) d_Re_readRepeat_61 (by decide) (by exact h27) rfl ?_
          refine x_bipush C d_Re_readRepeat_64 (by decide) ?_
          refine x_iload_n C d_Re_readRepeat_66 rfl ?_
          refine x_iadd C d_Re_readRepeat_67 ?_
          refine x_callVTT C (G_Fo E.1) (u_699 E.1) (u_700 E.1) (u_701 E.1) (u_702 E.1) (u_12 E.1) d_Re_readRepeat_68 (c_Fo_readBit l E F h31 h32 hp z1 z2 h29 ok47 (pl := 60 + st) (by omega) (by omega)) nh_Fo_readBit ln_Fo_readBit rfl (by rfl) (nle rfl) (nle rfl) (nle rfl) (nle rfl) (nle rfl) (fun v68 h68 K68 r68 => ?_) (fun Cn68 h68 K68 r68 => ?_)
          have hb68 := rBit_01 pk sz (60 + st) (.inr d47)
          · obtain ⟨d68, e68, rfl, rfl, rfl⟩ := r68.ret
            have ok68 : dOk sz d68 := ok_of (xOk_bit hp (x := .inr d47) ok47 _) e68
            refine x_iadd C d_Re_readRepeat_71 ?_
            refine x_istore C d_Re_readRepeat_72 (by decide) ?_
            refine x_aload_n C d_Re_readRepeat_74 rfl ?_
            refine x_sipush C d_Re_readRepeat_75 (by decide) ?_
            refine x_callVTT C (G_Re E.1) (u_718 E.1) (u_720 E.1) (us_19 E.1) (u_721 E.1) (u_11 E.1) d_Re_readRepeat_78 (c_Re_readLength l E F h31 h32 hp z1 z2 h29 h27 ok68 (pl := 218) (by decide) (by decide)) nh_Re_readLength ln_Re_readLength rfl (by exact h27) (nle rfl) (nle rfl) (nle rfl) (nle rfl) (nle rfl) (fun v78 h78 K78 r78 => ?_) (fun Cn78 h78 K78 r78 => ?_)
            · obtain ⟨d78, e78, rfl, rfl, rfl⟩ := r78.ret
              have ok78 : dOk sz d78 := ok_of (xOk_len hp 218 (x := .inr d68) ok68) e78
              refine x_istore C d_Re_readRepeat_81 (by decide) ?_
              refine x_aload_n C d_Re_readRepeat_83 rfl ?_
              refine x_iload C d_Re_readRepeat_84 rfl ?_
              refine x_iload C d_Re_readRepeat_86 rfl ?_
              refine x_iconst C d_Re_readRepeat_88 ?_
              refine x_iadd C d_Re_readRepeat_89 ?_
              refine x_aload_n C d_Re_readRepeat_90 rfl ?_
              refine x_iload C d_Re_readRepeat_91 rfl ?_
              refine x_iald C d_Re_readRepeat_93 (by exact h20) (by omega) (by omega) (by omega) ?_
              refine x_callVR C (G_Pa E.1) (u_746 E.1) (u_402 E.1) (u_403 E.1) (u_404 E.1) (u_4 E.1) d_Re_readRepeat_94 (c_Pa_becomeEcho l E (by exact h16)) nh_Pa_becomeEcho ln_Pa_becomeEcho rfl (by exact h16) (nle rfl) (nle rfl) (nle rfl) (nle rfl) (nle rfl) ?_
              exact x_vretT C d_Re_readRepeat_97 (Or.inl ⟨d78, by unfold rRep; rw [if_neg c14, e11, if_neg c50, e47, e68]; exact e78, rfl, by unfold rRep; rw [if_neg c14, e11, if_neg c50, e47, e68]; rfl, rfl⟩)
            · obtain ⟨b78, e78, rfl, rfl, d78, rfl⟩ := r78.thr
              exact Or.inr ⟨b78, by unfold rRep; rw [if_neg c14, e11, if_neg c50, e47, e68]; exact e78, rfl, rfl, d78, rfl⟩
          · obtain ⟨b68, e68, rfl, rfl, d68, rfl⟩ := r68.thr
            exact Or.inr ⟨b68, by unfold rRep; rw [if_neg c14, e11, if_neg c50, e47]; exact rEc_bad2 e68, rfl, rfl, d68, rfl⟩
        · refine x_iconst C d_Re_readRepeat_53 ?_
          refine x_istore C d_Re_readRepeat_54 (by decide) ?_
          refine x_goto C (tgt := 74) d_Re_readRepeat_56 (by decide) ?_
          refine x_aload_n C d_Re_readRepeat_74 rfl ?_
          refine x_sipush C d_Re_readRepeat_75 (by decide) ?_
          refine x_callVTT C (G_Re E.1) (u_718 E.1) (u_720 E.1) (us_19 E.1) (u_721 E.1) (u_11 E.1) d_Re_readRepeat_78 (c_Re_readLength l E F h31 h32 hp z1 z2 h29 h27 ok47 (pl := 218) (by decide) (by decide)) nh_Re_readLength ln_Re_readLength rfl (by exact h27) (nle rfl) (nle rfl) (nle rfl) (nle rfl) (nle rfl) (fun v78 h78 K78 r78 => ?_) (fun Cn78 h78 K78 r78 => ?_)
          · obtain ⟨d78, e78, rfl, rfl, rfl⟩ := r78.ret
            have ok78 : dOk sz d78 := ok_of (xOk_len hp 218 (x := .inr d47) ok47) e78
            refine x_istore C d_Re_readRepeat_81 (by decide) ?_
            refine x_aload_n C d_Re_readRepeat_83 rfl ?_
            refine x_iload C d_Re_readRepeat_84 rfl ?_
            refine x_iload C d_Re_readRepeat_86 rfl ?_
            refine x_iconst C d_Re_readRepeat_88 ?_
            refine x_iadd C d_Re_readRepeat_89 ?_
            refine x_aload_n C d_Re_readRepeat_90 rfl ?_
            refine x_iload C d_Re_readRepeat_91 rfl ?_
            refine x_iald C d_Re_readRepeat_93 (by exact h20) (by omega) (by omega) (by omega) ?_
            refine x_callVR C (G_Pa E.1) (u_746 E.1) (u_402 E.1) (u_403 E.1) (u_404 E.1) (u_4 E.1) d_Re_readRepeat_94 (c_Pa_becomeEcho l E (by exact h16)) nh_Pa_becomeEcho ln_Pa_becomeEcho rfl (by exact h16) (nle rfl) (nle rfl) (nle rfl) (nle rfl) (nle rfl) ?_
            exact x_vretT C d_Re_readRepeat_97 (Or.inl ⟨d78, by unfold rRep; rw [if_neg c14, e11, if_pos c50, e47]; exact e78, rfl, by unfold rRep; rw [if_neg c14, e11, if_pos c50, e47]; rfl, rfl⟩)
          · obtain ⟨b78, e78, rfl, rfl, d78, rfl⟩ := r78.thr
            exact Or.inr ⟨b78, by unfold rRep; rw [if_neg c14, e11, if_pos c50, e47]; exact e78, rfl, rfl, d78, rfl⟩
      · obtain ⟨b47, e47, rfl, rfl, d47, rfl⟩ := r47.thr
        refine Or.inr ⟨b47, ?_, rfl, rfl, d47, rfl⟩
        unfold rRep
        rw [if_neg c14, e11]
        split
        · exact rEc_bad2 e47
        · exact rEc_bad2 (rBit_bad2 e47)
    · refine x_aload_n C d_Re_readRepeat_17 rfl ?_
      refine x_get C (G_Re E.1) 0 (u_241 E.1) d_Re_readRepeat_18 (by decide) (by exact h27) rfl ?_
      refine x_bipush C d_Re_readRepeat_21 (by decide) ?_
      refine x_iload_n C d_Re_readRepeat_23 rfl ?_
      refine x_iadd C d_Re_readRepeat_24 ?_
      refine x_callVTT C (G_Fo E.1) (u_699 E.1) (u_700 E.1) (u_701 E.1) (u_702 E.1) (u_12 E.1) d_Re_readRepeat_25 (c_Fo_readBit l E F h31 h32 hp z1 z2 h29 ok11 (pl := 36 + st) (by omega) (by omega)) nh_Fo_readBit ln_Fo_readBit rfl (by rfl) (nle rfl) (nle rfl) (nle rfl) (nle rfl) (nle rfl) (fun v25 h25 K25 r25 => ?_) (fun Cn25 h25 K25 r25 => ?_)
      have hb25 := rBit_01 pk sz (36 + st) (.inr d11)
      · obtain ⟨d25, e25, rfl, rfl, rfl⟩ := r25.ret
        have ok25 : dOk sz d25 := ok_of (xOk_bit hp (x := .inr d11) ok11 _) e25
        refine x_if_ne C (tgt := 74) d_Re_readRepeat_28 (by decide) (by omega) (by omega) (fun c28 => ?_) (fun c28 => ?_)
        · refine x_aload_n C d_Re_readRepeat_74 rfl ?_
          refine x_sipush C d_Re_readRepeat_75 (by decide) ?_
          refine x_callVTT C (G_Re E.1) (u_718 E.1) (u_720 E.1) (us_19 E.1) (u_721 E.1) (u_11 E.1) d_Re_readRepeat_78 (c_Re_readLength l E F h31 h32 hp z1 z2 h29 h27 ok25 (pl := 218) (by decide) (by decide)) nh_Re_readLength ln_Re_readLength rfl (by exact h27) (nle rfl) (nle rfl) (nle rfl) (nle rfl) (nle rfl) (fun v78 h78 K78 r78 => ?_) (fun Cn78 h78 K78 r78 => ?_)
          · obtain ⟨d78, e78, rfl, rfl, rfl⟩ := r78.ret
            have ok78 : dOk sz d78 := ok_of (xOk_len hp 218 (x := .inr d25) ok25) e78
            refine x_istore C d_Re_readRepeat_81 (by decide) ?_
            refine x_aload_n C d_Re_readRepeat_83 rfl ?_
            refine x_iload C d_Re_readRepeat_84 rfl ?_
            refine x_iload C d_Re_readRepeat_86 rfl ?_
            refine x_iconst C d_Re_readRepeat_88 ?_
            refine x_iadd C d_Re_readRepeat_89 ?_
            refine x_aload_n C d_Re_readRepeat_90 rfl ?_
            refine x_iload C d_Re_readRepeat_91 rfl ?_
            refine x_iald C d_Re_readRepeat_93 (by exact h20) (by omega) (by omega) (by omega) ?_
            refine x_callVR C (G_Pa E.1) (u_746 E.1) (u_402 E.1) (u_403 E.1) (u_404 E.1) (u_4 E.1) d_Re_readRepeat_94 (c_Pa_becomeEcho l E (by exact h16)) nh_Pa_becomeEcho ln_Pa_becomeEcho rfl (by exact h16) (nle rfl) (nle rfl) (nle rfl) (nle rfl) (nle rfl) ?_
            exact x_vretT C d_Re_readRepeat_97 (Or.inl ⟨d78, by unfold rRep; rw [if_pos c14, e11, if_neg c28, e25]; exact e78, rfl, by unfold rRep; rw [if_pos c14, e11, if_neg c28, e25]; rfl, rfl⟩)
          · obtain ⟨b78, e78, rfl, rfl, d78, rfl⟩ := r78.thr
            exact Or.inr ⟨b78, by unfold rRep; rw [if_pos c14, e11, if_neg c28, e25]; exact e78, rfl, rfl, d78, rfl⟩
        · refine x_aload_n C d_Re_readRepeat_31 rfl ?_
          refine x_aload_n C d_Re_readRepeat_32 rfl ?_
          refine x_iconst C d_Re_readRepeat_33 ?_
          refine x_iald C d_Re_readRepeat_34 (by exact h20) (by omega) (by omega) (by omega) ?_
          refine x_callVR C (G_Pa E.1) (u_745 E.1) (u_414 E.1) (u_415 E.1) (u_416 E.1) (u_4 E.1) d_Re_readRepeat_35 (c_Pa_becomeShort l E (by exact h16)) nh_Pa_becomeShort ln_Pa_becomeShort rfl (by exact h16) (nle rfl) (nle rfl) (nle rfl) (nle rfl) (nle rfl) ?_
          exact x_vretT C d_Re_readRepeat_38 (Or.inl ⟨d25, by unfold rRep; rw [if_pos c14, e11, if_pos c28]; exact e25, rfl, by unfold rRep; rw [if_pos c14, e11, if_pos c28]; rfl, rfl⟩)
      · obtain ⟨b25, e25, rfl, rfl, d25, rfl⟩ := r25.thr
        refine Or.inr ⟨b25, ?_, rfl, rfl, d25, rfl⟩
        unfold rRep
        rw [if_pos c14, e11]
        split
        · exact e25
        · exact rEc_bad2 e25
  · obtain ⟨b11, e11, rfl, rfl, d11, rfl⟩ := r11.thr
    exact Or.inr ⟨b11, rRep_in e11, rfl, rfl, d11, rfl⟩

set_option maxRecDepth 100000 in
set_option maxHeartbeats 4000000 in
theorem c_Re_readPacket {a0 : Array Value} {s0 : State} {D : va_G} {cI cL : ClassId} (l : Launch) (E : a_E a0 s0 D cI cL) (F : a_F l s0) {h : AH} {K : Nat} {pk : Int → Int} {sz : Int} (h31 : h 31 = some (oBy s0.heap.size 32 sz)) (h32 : h 32 = some (iA cI 200 pk)) (hp : ∀ j, 0 ≤ pk j ∧ pk j < 256) (z1 : 0 ≤ sz) (z2 : sz ≤ 200) (h29 : h 29 = some (oCh s0.heap.size 30)) (h27 : h 27 = some (oRe s0.heap.size)) {d : De} (ok : dOk sz d) {k ln ds ec li : Int} (h16 : h 16 = some (oPa k ln ds ec li)) {t : Hs} (H : isH s0.heap.size cI h t) (hk : hOk t) : XMT l s0 D y_Re_readPacket prog_10_method_2_code 4 none 11 [.ref (s0.heap.size + 27), .ref (s0.heap.size + 16), .ref (s0.heap.size + 17)] (sF s0.heap.size cI h d) (K) (PRp s0.heap.size cI h ec li (rPkt pk sz t (.inr d)) K) := by
  refine XMT.of (cI := cI) (cL := cL) (own := "NarrowingPacker$PacketReader") (by decide) rfl E.2 (nle rfl) ?_
  intro p e s m below meth c C hn hlow
  have hst := hk.2.2.2.1
  refine x_aload_n C d_Re_readPacket_0 rfl ?_
  refine x_getN C (G_Hi E.1) 2 (u_128 E.1) d_Re_readPacket_1 (by decide) (by exact H.1) rfl ?_
  refine x_istore_n C d_Re_readPacket_4 (by decide) ?_
  refine x_aload_n C d_Re_readPacket_5 rfl ?_
  refine x_get C (G_Re E.1) 0 (u_241 E.1) d_Re_readPacket_6 (by decide) (by exact h27) rfl ?_
  refine x_iconst C d_Re_readPacket_9 ?_
  refine x_iload_n C d_Re_readPacket_10 rfl ?_
  refine x_iadd C d_Re_readPacket_11 ?_
  refine XW.steq (st' := .int (zI t.2.2.2) :: .ref (s0.heap.size + 28) :: []) (by rw [Int.zero_add]) ?_
  refine x_callVTT C (G_Fo E.1) (u_699 E.1) (u_700 E.1) (u_701 E.1) (u_702 E.1) (u_12 E.1) d_Re_readPacket_12 (c_Fo_readBit l E F h31 h32 hp z1 z2 h29 ok (pl := t.2.2.2) (by omega) (by omega)) nh_Fo_readBit ln_Fo_readBit rfl (by rfl) (nle rfl) (nle rfl) (nle rfl) (nle rfl) (nle rfl) (fun v12 h12 K12 r12 => ?_) (fun Cn12 h12 K12 r12 => ?_)
  have hb12 := rBit_01 pk sz t.2.2.2 (.inr d)
  · obtain ⟨d12, e12, rfl, rfl, rfl⟩ := r12.ret
    have ok12 : dOk sz d12 := ok_of (xOk_bit hp (x := .inr d) ok _) e12
    refine x_if_ne C (tgt := 30) d_Re_readPacket_15 (by decide) (by omega) (by omega) (fun c15 => ?_) (fun c15 => ?_)
    · refine x_aload_n C d_Re_readPacket_30 rfl ?_
      refine x_get C (G_Re E.1) 0 (u_241 E.1) d_Re_readPacket_31 (by decide) (by exact h27) rfl ?_
      refine x_bipush C d_Re_readPacket_34 (by decide) ?_
      refine x_iload_n C d_Re_readPacket_36 rfl ?_
      refine x_iadd C d_Re_readPacket_37 ?_
      refine x_callVTT C (G_Fo E.1) (u_699 E.1) (u_700 E.1) (u_701 E.1) (u_702 E.1) (u_12 E.1) d_Re_readPacket_38 (c_Fo_readBit l E F h31 h32 hp z1 z2 h29 ok12 (pl := 12 + t.2.2.2) (by omega) (by omega)) nh_Fo_readBit ln_Fo_readBit rfl (by rfl) (nle rfl) (nle rfl) (nle rfl) (nle rfl) (nle rfl) (fun v38 h38 K38 r38 => ?_) (fun Cn38 h38 K38 r38 => ?_)
      have hb38 := rBit_01 pk sz (12 + t.2.2.2) (.inr d12)
      · obtain ⟨d38, e38, rfl, rfl, rfl⟩ := r38.ret
        have ok38 : dOk sz d38 := ok_of (xOk_bit hp (x := .inr d12) ok12 _) e38
        refine x_if_ne C (tgt := 52) d_Re_readPacket_41 (by decide) (by omega) (by omega) (fun c41 => ?_) (fun c41 => ?_)
        · refine x_aload_n C d_Re_readPacket_52 rfl ?_
          refine x_aload_n C d_Re_readPacket_53 rfl ?_
          refine x_iload_n C d_Re_readPacket_54 rfl ?_
          refine x_aload_n C d_Re_readPacket_55 rfl ?_
          refine x_getN C (G_Hi E.1) 1 (u_125 E.1) d_Re_readPacket_56 (by decide) (by exact H.1) rfl ?_
          refine x_callVTT C (G_Re E.1) (u_741 E.1) (u_743 E.1) (us_21 E.1) (u_744 E.1) (u_11 E.1) d_Re_readPacket_59 (c_Re_readRepeat l E F h31 h32 hp z1 z2 h29 h27 ok38 (by exact h16) (by exact H.2.2.2) hk.2.2.2.1.1 hk.2.2.2.1.2) nh_Re_readRepeat ln_Re_readRepeat rfl (by exact h27) (nle rfl) (nle rfl) (nle rfl) (nle rfl) (nle rfl) (fun v59 h59 K59 r59 => ?_) (fun Cn59 h59 K59 r59 => ?_)
          · obtain ⟨d59, e59, rfl, rfl, rfl⟩ := r59.ret
            exact x_vretT C d_Re_readPacket_62 (by
  first
    | exact Or.inl ⟨d21, by unfold rPkt; rw [if_pos c15, e12]; exact e21, rfl, by unfold rPkt; rw [if_pos c15, e12]; rfl, rfl⟩
    | exact Or.inl ⟨d46, by unfold rPkt; rw [if_neg c15, e12, if_pos c41, e38]; exact e46, rfl, by unfold rPkt; rw [if_neg c15, e12, if_pos c41, e38], rfl⟩
    | exact Or.inl ⟨d59, by unfold rPkt; rw [if_neg c15, e12, if_neg c41, e38]; exact e59, rfl, by unfold rPkt; rw [if_neg c15, e12, if_neg c41, e38], rfl⟩)
          · obtain ⟨b59, e59, rfl, rfl, d59, rfl⟩ := r59.thr
            exact Or.inr ⟨b59, by unfold rPkt; rw [if_neg c15, e12, if_neg c41, e38]; exact e59, rfl, rfl, d59, rfl⟩
        · refine x_aload_n C d_Re_readPacket_44 rfl ?_
          refine x_aload_n C d_Re_readPacket_45 rfl ?_
          refine x_callVTT C (G_Re E.1) (u_714 E.1) (u_716 E.1) (us_18 E.1) (u_717 E.1) (u_11 E.1) d_Re_readPacket_46 (c_Re_readMatchOrEnd l E F h31 h32 hp z1 z2 h29 h27 ok38 (by exact h16)) nh_Re_readMatchOrEnd ln_Re_readMatchOrEnd rfl (by exact h27) (nle rfl) (nle rfl) (nle rfl) (nle rfl) (nle rfl) (fun v46 h46 K46 r46 => ?_) (fun Cn46 h46 K46 r46 => ?_)
          · obtain ⟨d46, e46, rfl, rfl, rfl⟩ := r46.ret
            refine x_goto C (tgt := 62) d_Re_readPacket_49 (by decide) ?_
            exact x_vretT C d_Re_readPacket_62 (by
  first
    | exact Or.inl ⟨d21, by unfold rPkt; rw [if_pos c15, e12]; exact e21, rfl, by unfold rPkt; rw [if_pos c15, e12]; rfl, rfl⟩
    | exact Or.inl ⟨d46, by unfold rPkt; rw [if_neg c15, e12, if_pos c41, e38]; exact e46, rfl, by unfold rPkt; rw [if_neg c15, e12, if_pos c41, e38], rfl⟩
    | exact Or.inl ⟨d59, by unfold rPkt; rw [if_neg c15, e12, if_neg c41, e38]; exact e59, rfl, by unfold rPkt; rw [if_neg c15, e12, if_neg c41, e38], rfl⟩)
          · obtain ⟨b46, e46, rfl, rfl, d46, rfl⟩ := r46.thr
            exact Or.inr ⟨b46, by unfold rPkt; rw [if_neg c15, e12, if_pos c41, e38]; exact e46, rfl, rfl, d46, rfl⟩
      · obtain ⟨b38, e38, rfl, rfl, d38, rfl⟩ := r38.thr
        exact Or.inr ⟨b38, by unfold rPkt; rw [if_neg c15, e12]; split <;> first | exact rMatch_bad2 e38 | exact rRep_bad2 e38, rfl, rfl, d38, rfl⟩
    · refine x_aload_n C d_Re_readPacket_18 rfl ?_
      refine x_aload_n C d_Re_readPacket_19 rfl ?_
      refine x_aload_n C d_Re_readPacket_20 rfl ?_
      refine x_callVTT C (G_Re E.1) (u_706 E.1) (u_708 E.1) (us_17 E.1) (u_709 E.1) (u_11 E.1) d_Re_readPacket_21 (c_Re_readLiteral l E F h31 h32 hp z1 z2 h29 h27 ok12 (t := t) H hk) nh_Re_readLiteral ln_Re_readLiteral rfl (by exact h27) (nle rfl) (nle rfl) (nle rfl) (nle rfl) (nle rfl) (fun v21 h21 K21 r21 => ?_) (fun Cn21 h21 K21 r21 => ?_)
      · obtain ⟨d21, e21, rfl, rfl, rfl⟩ := r21.ret
        have ok21 : dOk sz d21 := ok_of (xOk_lit hp 8 (hPlace t) (hBefore t (t.2.2.1 0)) 1 (hAs t) (x := .inr d12) ok12) e21
        refine x_callVR C (G_Pa E.1) (u_713 E.1) (u_419 E.1) (u_420 E.1) (u_421 E.1) (u_4 E.1) d_Re_readPacket_24 (c_Pa_becomeLiteral l E (by exact h16)) nh_Pa_becomeLiteral ln_Pa_becomeLiteral rfl (by exact h16) (nle rfl) (nle rfl) (nle rfl) (nle rfl) (nle rfl) ?_
        refine x_goto C (tgt := 62) d_Re_readPacket_27 (by decide) ?_
        exact x_vretT C d_Re_readPacket_62 (by
  first
    | exact Or.inl ⟨d21, by unfold rPkt; rw [if_pos c15, e12]; exact e21, rfl, by unfold rPkt; rw [if_pos c15, e12]; rfl, rfl⟩
    | exact Or.inl ⟨d46, by unfold rPkt; rw [if_neg c15, e12, if_pos c41, e38]; exact e46, rfl, by unfold rPkt; rw [if_neg c15, e12, if_pos c41, e38], rfl⟩
    | exact Or.inl ⟨d59, by unfold rPkt; rw [if_neg c15, e12, if_neg c41, e38]; exact e59, rfl, by unfold rPkt; rw [if_neg c15, e12, if_neg c41, e38], rfl⟩)
      · obtain ⟨b21, e21, rfl, rfl, d21, rfl⟩ := r21.thr
        exact Or.inr ⟨b21, by unfold rPkt; rw [if_pos c15, e12]; exact e21, rfl, rfl, d21, rfl⟩
  · obtain ⟨b12, e12, rfl, rfl, d12, rfl⟩ := r12.thr
    exact Or.inr ⟨b12, rPkt_in e12, rfl, rfl, d12, rfl⟩

