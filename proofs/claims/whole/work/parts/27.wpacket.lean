/-! packets into bits: literals; the whole packet -/
set_option maxRecDepth 100000 in
set_option maxHeartbeats 4000000 in
theorem lp_Wr_lit {a0 : Array Value} {s0 : State} {D : va_G} {cI cL : ClassId} (l : Launch) (E : a_E a0 s0 D cI cL) {p : Program} {e : Env} {R : Room} {s : State} {m : MethodId} {args : Array Value} {below : List Frame} {meth : Method} {c : Code} (C : XC s0 D cI cL p s m meth c "NarrowingPacker$PacketWriter" prog_11_method_3_code 11 none []) (hR : R = a_rm 2 0 0) {h : AH} {K : Nat} {pl ly b : Int} (h22 : h 22 = some (oWr s0.heap.size)) (h24 : h 24 = some (oCh s0.heap.size 25)) (p1 : 0 ≤ pl) (p2 : pl ≤ 3052) (y1 : 0 ≤ ly) (y2 : ly < 256) (b1 : 0 ≤ b) (b2 : b < 256) {X : En} : ∀ (k : Nat) (mm as : Int) (x : En), k ≤ 8 → 0 ≤ mm → (mm + 1) * 2 ^ k ≤ 512 → (as = 0 ∨ as = 1) → eOk x → x.2.2.1 + k < 100000 → eLit k pl ly b mm as x = X → XW s0 D p l e R s m args below meth c (XQ s0 D 0 0 (PR none (sN s0.heap.size cI h X) K) below s) 30 [(0, .ref (s0.heap.size + 22)), (1, .int (zI b)), (3, .int (zI pl)), (4, .int (zI ly)), (5, .int (zI as)), (6, .int (zI mm)), (7, .int (zI ((k : Nat) - 1 : Int)))] [] (sN s0.heap.size cI h x) K 0 0 := by
  subst hR
  intro k
  induction k with
  | zero =>
    intro mm as x hk m0 mB ha ok lx hX
    have hX : x = X := hX
    subst hX
    refine x_iload C d_Wr_writeLiteral_30 rfl ?_
    refine x_if_lt C (tgt := 121) d_Wr_writeLiteral_32 (by decide) (by omega) (by omega) (fun c32 => ?_) (fun c32 => ?_)
    · exact x_vret C d_Wr_writeLiteral_121 (nle rfl) (nle rfl) ⟨rfl, rfl, rfl⟩
    · exfalso; omega
  | succ k ih =>
    intro mm as x hk m0 mB ha ok lx hX
    rw [show (((k + 1 : Nat) : Int) - 1) = (k : Int) by omega]
    have hpa := pow_a m0 mB
    have hb := bitZ_01 b k
    have hy := bitZ_01 ly k
    unfold eLit at hX
    rcases ha with rfl | rfl
    · refine x_iload C d_Wr_writeLiteral_30 rfl ?_
      refine x_if_lt C (tgt := 121) d_Wr_writeLiteral_32 (by decide) (by omega) (by omega) (fun c32 => ?_) (fun c32 => ?_)
      · exfalso; omega
      · refine x_iload_n C d_Wr_writeLiteral_35 rfl ?_
        refine x_iload C d_Wr_writeLiteral_36 rfl ?_
        refine x_ishr C (q := 2 ^ k) k d_Wr_writeLiteral_38 rfl rfl (by omega) (by omega) (by omega) ?_
        refine x_iconst C d_Wr_writeLiteral_39 ?_
        refine x_iand C d_Wr_writeLiteral_40 (zI_and1 _) ?_
        show XW s0 D p l e (a_rm 2 0 0) s m args below meth c _ 41 _ (.int (zI (bitZ b k)) :: []) _ _ _ _
        refine x_istore C d_Wr_writeLiteral_41 (by decide) ?_
        refine x_iload C d_Wr_writeLiteral_43 rfl ?_
        refine x_iload C d_Wr_writeLiteral_45 rfl ?_
        refine x_ishr C (q := 2 ^ k) k d_Wr_writeLiteral_47 rfl rfl (by omega) (by omega) (by omega) ?_
        refine x_iconst C d_Wr_writeLiteral_48 ?_
        refine x_iand C d_Wr_writeLiteral_49 (zI_and1 _) ?_
        show XW s0 D p l e (a_rm 2 0 0) s m args below meth c _ 50 _ (.int (zI (bitZ ly k)) :: []) _ _ _ _
        refine x_istore C d_Wr_writeLiteral_50 (by decide) ?_
        refine x_iload C d_Wr_writeLiteral_52 rfl ?_
        refine x_if_eq C (tgt := 64) d_Wr_writeLiteral_54 (by decide) (by omega) (by omega) (fun c54 => ?_) (fun c54 => ?_)
        · refine x_iconst C d_Wr_writeLiteral_64 ?_
          refine x_istore C d_Wr_writeLiteral_65 (by decide) ?_
          refine x_aload_n C d_Wr_writeLiteral_67 rfl ?_
          refine x_get C (G_Wr E.1) 0 (u_204 E.1) d_Wr_writeLiteral_68 (by decide) (by exact h22) rfl ?_
          refine x_iload_n C d_Wr_writeLiteral_71 rfl ?_
          refine x_iload C d_Wr_writeLiteral_72 rfl ?_
          refine x_sipush C d_Wr_writeLiteral_74 (by decide) ?_
          refine x_imul C d_Wr_writeLiteral_77 ?_
          refine x_iadd C d_Wr_writeLiteral_78 ?_
          refine x_iload C d_Wr_writeLiteral_79 rfl ?_
          refine x_iadd C d_Wr_writeLiteral_81 ?_
          refine x_iload C d_Wr_writeLiteral_82 rfl ?_
          refine x_callVR C (G_Na E.1) (u_426 E.1) (u_427 E.1) (u_428 E.1) (u_429 E.1) (u_9 E.1) d_Wr_writeLiteral_84 (c_Na_writeBit l E h24 ok (by omega) (by omega) (by omega) hb) nh_Na_writeBit ln_Na_writeBit rfl rfl (nle rfl) (nle rfl) (nle rfl) (nle rfl) (nle rfl) ?_
          refine x_iload C d_Wr_writeLiteral_87 rfl ?_
          refine x_if_eq C (tgt := 103) d_Wr_writeLiteral_89 (by decide) (by omega) (by omega) (fun c89 => ?_) (fun c89 => ?_)
          · refine x_iconst C d_Wr_writeLiteral_103 ?_
            refine x_istore C d_Wr_writeLiteral_104 (by decide) ?_
            refine x_iconst C d_Wr_writeLiteral_106 ?_
            refine x_iload C d_Wr_writeLiteral_107 rfl ?_
            refine x_imul C d_Wr_writeLiteral_109 ?_
            refine x_iload C d_Wr_writeLiteral_110 rfl ?_
            refine x_iadd C d_Wr_writeLiteral_112 ?_
            refine x_istore C d_Wr_writeLiteral_113 (by decide) ?_
            refine x_iinc C d_Wr_writeLiteral_115 (by decide) rfl ?_
            refine x_goto C (tgt := 30) d_Wr_writeLiteral_118 (by decide) ?_
            refine XW.loc (lv' := [(0, .ref (s0.heap.size + 22)), (1, .int (zI b)), (3, .int (zI pl)), (4, .int (zI ly)), (5, .int (zI 0)), (6, .int (zI (2 * mm + bitZ b k))), (7, .int (zI ((k : Nat) - 1 : Int)))]) ⟨rfl, rfl, rfl, rfl, rfl, rfl, by rw [show ((k : Nat) - 1 : Int) = (k : Int) + -1 by omega]; rfl, trivial⟩ ?_
            exact ih _ 0 _ (by omega) (by omega) (pow_b hb mB) (by decide) (eOk_bit ok _ _) (by have := len_bit x (pl + 0 * 256 + mm) (bitZ b k); omega) hX
          · exfalso; omega
        · exfalso; omega
    · refine x_iload C d_Wr_writeLiteral_30 rfl ?_
      refine x_if_lt C (tgt := 121) d_Wr_writeLiteral_32 (by decide) (by omega) (by omega) (fun c32 => ?_) (fun c32 => ?_)
      · exfalso; omega
      · refine x_iload_n C d_Wr_writeLiteral_35 rfl ?_
        refine x_iload C d_Wr_writeLiteral_36 rfl ?_
        refine x_ishr C (q := 2 ^ k) k d_Wr_writeLiteral_38 rfl rfl (by omega) (by omega) (by omega) ?_
        refine x_iconst C d_Wr_writeLiteral_39 ?_
        refine x_iand C d_Wr_writeLiteral_40 (zI_and1 _) ?_
        show XW s0 D p l e (a_rm 2 0 0) s m args below meth c _ 41 _ (.int (zI (bitZ b k)) :: []) _ _ _ _
        refine x_istore C d_Wr_writeLiteral_41 (by decide) ?_
        refine x_iload C d_Wr_writeLiteral_43 rfl ?_
        refine x_iload C d_Wr_writeLiteral_45 rfl ?_
        refine x_ishr C (q := 2 ^ k) k d_Wr_writeLiteral_47 rfl rfl (by omega) (by omega) (by omega) ?_
        refine x_iconst C d_Wr_writeLiteral_48 ?_
        refine x_iand C d_Wr_writeLiteral_49 (zI_and1 _) ?_
        show XW s0 D p l e (a_rm 2 0 0) s m args below meth c _ 50 _ (.int (zI (bitZ ly k)) :: []) _ _ _ _
        refine x_istore C d_Wr_writeLiteral_50 (by decide) ?_
        refine x_iload C d_Wr_writeLiteral_52 rfl ?_
        refine x_if_eq C (tgt := 64) d_Wr_writeLiteral_54 (by decide) (by omega) (by omega) (fun c54 => ?_) (fun c54 => ?_)
        · exfalso; omega
        · refine x_iconst C d_Wr_writeLiteral_57 ?_
          refine x_iload C d_Wr_writeLiteral_58 rfl ?_
          refine x_iadd C d_Wr_writeLiteral_60 ?_
          refine x_goto C (tgt := 65) d_Wr_writeLiteral_61 (by decide) ?_
          refine x_istore C d_Wr_writeLiteral_65 (by decide) ?_
          refine x_aload_n C d_Wr_writeLiteral_67 rfl ?_
          refine x_get C (G_Wr E.1) 0 (u_204 E.1) d_Wr_writeLiteral_68 (by decide) (by exact h22) rfl ?_
          refine x_iload_n C d_Wr_writeLiteral_71 rfl ?_
          refine x_iload C d_Wr_writeLiteral_72 rfl ?_
          refine x_sipush C d_Wr_writeLiteral_74 (by decide) ?_
          refine x_imul C d_Wr_writeLiteral_77 ?_
          refine x_iadd C d_Wr_writeLiteral_78 ?_
          refine x_iload C d_Wr_writeLiteral_79 rfl ?_
          refine x_iadd C d_Wr_writeLiteral_81 ?_
          refine x_iload C d_Wr_writeLiteral_82 rfl ?_
          refine x_callVR C (G_Na E.1) (u_426 E.1) (u_427 E.1) (u_428 E.1) (u_429 E.1) (u_9 E.1) d_Wr_writeLiteral_84 (c_Na_writeBit l E h24 ok (by omega) (by omega) (by omega) hb) nh_Na_writeBit ln_Na_writeBit rfl rfl (nle rfl) (nle rfl) (nle rfl) (nle rfl) (nle rfl) ?_
          refine x_iload C d_Wr_writeLiteral_87 rfl ?_
          refine x_if_eq C (tgt := 103) d_Wr_writeLiteral_89 (by decide) (by omega) (by omega) (fun c89 => ?_) (fun c89 => ?_)
          · exfalso; omega
          · refine x_iload C d_Wr_writeLiteral_92 rfl ?_
            refine x_iload C d_Wr_writeLiteral_94 rfl ?_
            refine x_icmp_ne C (tgt := 103) d_Wr_writeLiteral_96 (by decide) (by omega) (by omega) (by omega) (by omega) (fun c96 => ?_) (fun c96 => ?_)
            · refine x_iconst C d_Wr_writeLiteral_103 ?_
              refine x_istore C d_Wr_writeLiteral_104 (by decide) ?_
              refine x_iconst C d_Wr_writeLiteral_106 ?_
              refine x_iload C d_Wr_writeLiteral_107 rfl ?_
              refine x_imul C d_Wr_writeLiteral_109 ?_
              refine x_iload C d_Wr_writeLiteral_110 rfl ?_
              refine x_iadd C d_Wr_writeLiteral_112 ?_
              refine x_istore C d_Wr_writeLiteral_113 (by decide) ?_
              refine x_iinc C d_Wr_writeLiteral_115 (by decide) rfl ?_
              refine x_goto C (tgt := 30) d_Wr_writeLiteral_118 (by decide) ?_
              first
                | (have hs : sameZ 1 (bitZ b k) (bitZ ly k) = 0 := by unfold sameZ; rw [if_neg (by decide), if_neg (by omega)]
                   rw [hs] at hX
                   refine XW.loc (lv' := [(0, .ref (s0.heap.size + 22)), (1, .int (zI b)), (3, .int (zI pl)), (4, .int (zI ly)), (5, .int (zI 0)), (6, .int (zI (2 * mm + bitZ b k))), (7, .int (zI ((k : Nat) - 1 : Int)))]) ⟨rfl, rfl, rfl, rfl, rfl, rfl, by rw [show ((k : Nat) - 1 : Int) = (k : Int) + -1 by omega]; rfl, trivial⟩ ?_
                   exact ih _ 0 _ (by omega) (by omega) (pow_b hb mB) (by decide) (eOk_bit ok _ _) (by have := len_bit x (pl + (1 + bitZ ly k) * 256 + mm) (bitZ b k); omega) hX)
                | (have hs : sameZ 1 (bitZ b k) (bitZ ly k) = 1 := by unfold sameZ; rw [if_neg (by decide), if_pos (by omega)]
                   rw [hs] at hX
                   refine XW.loc (lv' := [(0, .ref (s0.heap.size + 22)), (1, .int (zI b)), (3, .int (zI pl)), (4, .int (zI ly)), (5, .int (zI 1)), (6, .int (zI (2 * mm + bitZ b k))), (7, .int (zI ((k : Nat) - 1 : Int)))]) ⟨rfl, rfl, rfl, rfl, rfl, rfl, by rw [show ((k : Nat) - 1 : Int) = (k : Int) + -1 by omega]; rfl, trivial⟩ ?_
                   exact ih _ 1 _ (by omega) (by omega) (pow_b hb mB) (by decide) (eOk_bit ok _ _) (by have := len_bit x (pl + (1 + bitZ ly k) * 256 + mm) (bitZ b k); omega) hX)
            · refine x_iconst C d_Wr_writeLiteral_99 ?_
              refine x_goto C (tgt := 104) d_Wr_writeLiteral_100 (by decide) ?_
              refine x_istore C d_Wr_writeLiteral_104 (by decide) ?_
              refine x_iconst C d_Wr_writeLiteral_106 ?_
              refine x_iload C d_Wr_writeLiteral_107 rfl ?_
              refine x_imul C d_Wr_writeLiteral_109 ?_
              refine x_iload C d_Wr_writeLiteral_110 rfl ?_
              refine x_iadd C d_Wr_writeLiteral_112 ?_
              refine x_istore C d_Wr_writeLiteral_113 (by decide) ?_
              refine x_iinc C d_Wr_writeLiteral_115 (by decide) rfl ?_
              refine x_goto C (tgt := 30) d_Wr_writeLiteral_118 (by decide) ?_
              first
                | (have hs : sameZ 1 (bitZ b k) (bitZ ly k) = 0 := by unfold sameZ; rw [if_neg (by decide), if_neg (by omega)]
                   rw [hs] at hX
                   refine XW.loc (lv' := [(0, .ref (s0.heap.size + 22)), (1, .int (zI b)), (3, .int (zI pl)), (4, .int (zI ly)), (5, .int (zI 0)), (6, .int (zI (2 * mm + bitZ b k))), (7, .int (zI ((k : Nat) - 1 : Int)))]) ⟨rfl, rfl, rfl, rfl, rfl, rfl, by rw [show ((k : Nat) - 1 : Int) = (k : Int) + -1 by omega]; rfl, trivial⟩ ?_
                   exact ih _ 0 _ (by omega) (by omega) (pow_b hb mB) (by decide) (eOk_bit ok _ _) (by have := len_bit x (pl + (1 + bitZ ly k) * 256 + mm) (bitZ b k); omega) hX)
                | (have hs : sameZ 1 (bitZ b k) (bitZ ly k) = 1 := by unfold sameZ; rw [if_neg (by decide), if_pos (by omega)]
                   rw [hs] at hX
                   refine XW.loc (lv' := [(0, .ref (s0.heap.size + 22)), (1, .int (zI b)), (3, .int (zI pl)), (4, .int (zI ly)), (5, .int (zI 1)), (6, .int (zI (2 * mm + bitZ b k))), (7, .int (zI ((k : Nat) - 1 : Int)))]) ⟨rfl, rfl, rfl, rfl, rfl, rfl, by rw [show ((k : Nat) - 1 : Int) = (k : Int) + -1 by omega]; rfl, trivial⟩ ?_
                   exact ih _ 1 _ (by omega) (by omega) (pow_b hb mB) (by decide) (eOk_bit ok _ _) (by have := len_bit x (pl + (1 + bitZ ly k) * 256 + mm) (bitZ b k); omega) hX)
theorem hPlace_b {t : Hs} (hk : hOk t) : 0 ≤ hPlace t ∧ hPlace t ≤ 3052 := by
  have := hBefore_b hk 1
  unfold hPlace
  omega
set_option maxRecDepth 100000 in
set_option maxHeartbeats 4000000 in
theorem c_Wr_writeLiteral {a0 : Array Value} {s0 : State} {D : va_G} {cI cL : ClassId} (l : Launch) (E : a_E a0 s0 D cI cL) {h : AH} {K : Nat} {x : En} (h22 : h 22 = some (oWr s0.heap.size)) (h24 : h 24 = some (oCh s0.heap.size 25)) (ok : eOk x) (lx : x.2.2.1 < 96500) {t : Hs} (H : isH s0.heap.size cI h t) (hk : hOk t) {b : Int} (b1 : 0 ≤ b) (b2 : b < 256) : XM l s0 D y_Wr_writeLiteral prog_11_method_3_code 11 none 2 0 0 [.ref (s0.heap.size + 22), .int (zI b), .ref (s0.heap.size + 17)] (sN s0.heap.size cI h x) (K) (PR none (sN s0.heap.size cI h (eLit 8 (hPlace t) (hBefore t (t.2.2.1 0)) b 1 (hAs t) x)) K) := by
  refine XM.of (cI := cI) (cL := cL) (own := "NarrowingPacker$PacketWriter") (by decide) rfl E.2 (nle rfl) ?_
  intro p e s m below meth c C hn
  refine x_aload_n C d_Wr_writeLiteral_0 rfl ?_
  refine x_callVR C (G_Hi E.1) (u_448 E.1) (u_449 E.1) (u_450 E.1) (u_451 E.1) (u_5 E.1) d_Wr_writeLiteral_1 (c_Hi_placeOfLiterals l E (t := t) (by exact H) hk) nh_Hi_placeOfLiterals ln_Hi_placeOfLiterals rfl (by exact H.1) (nle rfl) (nle rfl) (nle rfl) (nle rfl) (nle rfl) ?_
  refine x_istore_n C d_Wr_writeLiteral_4 (by decide) ?_
  refine x_aload_n C d_Wr_writeLiteral_5 rfl ?_
  refine x_aload_n C d_Wr_writeLiteral_6 rfl ?_
  refine x_getN C (G_Hi E.1) 1 (u_126 E.1) d_Wr_writeLiteral_7 (by decide) (by exact H.1) rfl ?_
  refine x_iconst C d_Wr_writeLiteral_10 ?_
  refine x_iald C d_Wr_writeLiteral_11 (by exact H.2.2.2) (by omega) (by omega) (by omega) ?_
  have hb0 := hk.2.2.1 0
  refine x_callVR C (G_Hi E.1) (u_456 E.1) (u_453 E.1) (u_454 E.1) (u_455 E.1) (u_5 E.1) d_Wr_writeLiteral_12 (c_Hi_byteBefore l E (t := t) (by exact H) hk (by omega) (by omega)) nh_Hi_byteBefore ln_Hi_byteBefore rfl (by exact H.1) (nle rfl) (nle rfl) (nle rfl) (nle rfl) (nle rfl) ?_
  refine x_istore C d_Wr_writeLiteral_15 (by decide) ?_
  refine x_aload_n C d_Wr_writeLiteral_17 rfl ?_
  refine x_callVR C (G_Hi E.1) (u_457 E.1) (u_458 E.1) (u_459 E.1) (u_460 E.1) (u_5 E.1) d_Wr_writeLiteral_18 (c_Hi_isBehindACopy l E (t := t) (by exact H) hk) nh_Hi_isBehindACopy ln_Hi_isBehindACopy rfl (by exact H.1) (nle rfl) (nle rfl) (nle rfl) (nle rfl) (nle rfl) ?_
  refine x_istore C d_Wr_writeLiteral_21 (by decide) ?_
  refine x_iconst C d_Wr_writeLiteral_23 ?_
  refine x_istore C d_Wr_writeLiteral_24 (by decide) ?_
  refine x_bipush C d_Wr_writeLiteral_26 (by decide) ?_
  refine x_istore C d_Wr_writeLiteral_28 (by decide) ?_
  have hp := hPlace_b hk
  have hy := hBefore_b hk (t.2.2.1 0)
  refine XW.loc (lv' := [(0, .ref (s0.heap.size + 22)), (1, .int (zI b)), (3, .int (zI (hPlace t))), (4, .int (zI (hBefore t (t.2.2.1 0)))), (5, .int (zI (hAs t))), (6, .int (zI 1)), (7, .int (zI ((8 : Nat) - 1 : Int)))]) ⟨rfl, rfl, rfl, rfl, rfl, rfl, rfl, trivial⟩ ?_
  exact lp_Wr_lit l E C rfl h22 h24 hp.1 hp.2 hy.1 hy.2 b1 b2 8 1 (hAs t) x (by decide) (by decide) (by decide) (hAs_01 t) ok (by omega) rfl

set_option maxRecDepth 100000 in
set_option maxHeartbeats 4000000 in
theorem c_Wr_packet0 {a0 : Array Value} {s0 : State} {D : va_G} {cI cL : ClassId} (l : Launch) (E : a_E a0 s0 D cI cL) {h : AH} {K : Nat} {x : En} (h22 : h 22 = some (oWr s0.heap.size)) (h24 : h 24 = some (oCh s0.heap.size 25)) (ok : eOk x) (lx : x.2.2.1 < 96000) {t : Hs} (H : isH s0.heap.size cI h t) (hk : hOk t) {ln ds ec li : Int} (h16 : h 16 = some (oPa 0 ln ds ec li)) (b1 : 0 ≤ li) (b2 : li < 256) : XM l s0 D y_Wr_writePacket prog_11_method_2_code 5 none 5 0 0 [.ref (s0.heap.size + 22), .ref (s0.heap.size + 16), .ref (s0.heap.size + 17)] (sN s0.heap.size cI h x) (K) (PR none (sN s0.heap.size cI h (ePkt t (0, ln, ds, ec, li) x)) K) := by
  refine XM.of (cI := cI) (cL := cL) (own := "NarrowingPacker$PacketWriter") (by decide) rfl E.2 (nle rfl) ?_
  intro p e s m below meth c C hn
  have hst := hk.2.2.2.1
  refine x_aload_n C d_Wr_writePacket_0 rfl ?_
  refine x_getN C (G_Hi E.1) 2 (u_127 E.1) d_Wr_writePacket_1 (by decide) (by exact H.1) rfl ?_
  refine x_istore_n C d_Wr_writePacket_4 (by decide) ?_
  refine x_aload_n C d_Wr_writePacket_5 rfl ?_
  refine x_get C (G_Wr E.1) 0 (u_204 E.1) d_Wr_writePacket_6 (by decide) (by exact h22) rfl ?_
  refine x_iconst C d_Wr_writePacket_9 ?_
  refine x_iload_n C d_Wr_writePacket_10 rfl ?_
  refine x_iadd C d_Wr_writePacket_11 ?_
  refine x_aload_n C d_Wr_writePacket_12 rfl ?_
  refine x_getN C (G_Pa E.1) 0 (u_79 E.1) d_Wr_writePacket_13 (by decide) (by exact h16) rfl ?_
  refine x_if_ne C (tgt := 23) d_Wr_writePacket_16 (by decide) (by omega) (by omega) (fun c16 => ?_) (fun c16 => ?_)
  · exfalso; omega
  · refine x_iconst C d_Wr_writePacket_19 ?_
    refine x_goto C (tgt := 24) d_Wr_writePacket_20 (by decide) ?_
    refine x_callVR C (G_Na E.1) (u_426 E.1) (u_427 E.1) (u_428 E.1) (u_429 E.1) (u_9 E.1) d_Wr_writePacket_24 (c_Na_writeBit l E h24 ok (by omega) (by omega) (by omega) (by omega)) nh_Na_writeBit ln_Na_writeBit rfl rfl (nle rfl) (nle rfl) (nle rfl) (nle rfl) (nle rfl) ?_
    refine x_aload_n C d_Wr_writePacket_27 rfl ?_
    refine x_getN C (G_Pa E.1) 0 (u_79 E.1) d_Wr_writePacket_28 (by decide) (by exact h16) rfl ?_
    refine x_if_ne C (tgt := 44) d_Wr_writePacket_31 (by decide) (by omega) (by omega) (fun c31 => ?_) (fun c31 => ?_)
    · exfalso; omega
    · refine x_aload_n C d_Wr_writePacket_34 rfl ?_
      refine x_aload_n C d_Wr_writePacket_35 rfl ?_
      refine x_getN C (G_Pa E.1) 4 (u_98 E.1) d_Wr_writePacket_36 (by decide) (by exact h16) rfl ?_
      refine x_aload_n C d_Wr_writePacket_39 rfl ?_
      refine x_callVR C (G_Wr E.1) (u_444 E.1) (u_446 E.1) (us_5 E.1) (u_447 E.1) (u_8 E.1) d_Wr_writePacket_40 (c_Wr_writeLiteral l E h22 h24 (eOk_bit ok _ _) (by have := len_bit x (0 + t.2.2.2) 0; omega) H hk b1 b2) nh_Wr_writeLiteral ln_Wr_writeLiteral rfl (by exact h22) (nle rfl) (nle rfl) (nle rfl) (nle rfl) (nle rfl) ?_
      exact x_vret C d_Wr_writePacket_43 (nle rfl) (nle rfl) ⟨rfl, by
  show _ = sN s0.heap.size cI h (ePkt t (0, ln, ds, ec, li) x)
  have ez : (0 : Int) + t.2.2.2 = t.2.2.2 := by omega
  rw [ez]
  rfl, rfl⟩

set_option maxRecDepth 100000 in
set_option maxHeartbeats 4000000 in
theorem c_Wr_packet1 {a0 : Array Value} {s0 : State} {D : va_G} {cI cL : ClassId} (l : Launch) (E : a_E a0 s0 D cI cL) {h : AH} {K : Nat} {x : En} (h22 : h 22 = some (oWr s0.heap.size)) (h24 : h 24 = some (oCh s0.heap.size 25)) (ok : eOk x) (lx : x.2.2.1 < 96000) {t : Hs} (H : isH s0.heap.size cI h t) (hk : hOk t) {ln ds ec li : Int} (h16 : h 16 = some (oPa 1 ln ds ec li)) (n1 : 2 ≤ ln) (n2 : ln ≤ 120) (d1 : 1 ≤ ds) (d2 : ds ≤ 120) : XM l s0 D y_Wr_writePacket prog_11_method_2_code 5 none 5 0 0 [.ref (s0.heap.size + 22), .ref (s0.heap.size + 16), .ref (s0.heap.size + 17)] (sN s0.heap.size cI h x) (K) (PR none (sN s0.heap.size cI h (ePkt t (1, ln, ds, ec, li) x)) K) := by
  refine XM.of (cI := cI) (cL := cL) (own := "NarrowingPacker$PacketWriter") (by decide) rfl E.2 (nle rfl) ?_
  intro p e s m below meth c C hn
  have hst := hk.2.2.2.1
  refine x_aload_n C d_Wr_writePacket_0 rfl ?_
  refine x_getN C (G_Hi E.1) 2 (u_127 E.1) d_Wr_writePacket_1 (by decide) (by exact H.1) rfl ?_
  refine x_istore_n C d_Wr_writePacket_4 (by decide) ?_
  refine x_aload_n C d_Wr_writePacket_5 rfl ?_
  refine x_get C (G_Wr E.1) 0 (u_204 E.1) d_Wr_writePacket_6 (by decide) (by exact h22) rfl ?_
  refine x_iconst C d_Wr_writePacket_9 ?_
  refine x_iload_n C d_Wr_writePacket_10 rfl ?_
  refine x_iadd C d_Wr_writePacket_11 ?_
  refine x_aload_n C d_Wr_writePacket_12 rfl ?_
  refine x_getN C (G_Pa E.1) 0 (u_79 E.1) d_Wr_writePacket_13 (by decide) (by exact h16) rfl ?_
  refine x_if_ne C (tgt := 23) d_Wr_writePacket_16 (by decide) (by omega) (by omega) (fun c16 => ?_) (fun c16 => ?_)
  · refine x_iconst C d_Wr_writePacket_23 ?_
    refine x_callVR C (G_Na E.1) (u_426 E.1) (u_427 E.1) (u_428 E.1) (u_429 E.1) (u_9 E.1) d_Wr_writePacket_24 (c_Na_writeBit l E h24 ok (by omega) (by omega) (by omega) (by omega)) nh_Na_writeBit ln_Na_writeBit rfl rfl (nle rfl) (nle rfl) (nle rfl) (nle rfl) (nle rfl) ?_
    refine x_aload_n C d_Wr_writePacket_27 rfl ?_
    refine x_getN C (G_Pa E.1) 0 (u_79 E.1) d_Wr_writePacket_28 (by decide) (by exact h16) rfl ?_
    refine x_if_ne C (tgt := 44) d_Wr_writePacket_31 (by decide) (by omega) (by omega) (fun c31 => ?_) (fun c31 => ?_)
    · refine x_aload_n C d_Wr_writePacket_44 rfl ?_
      refine x_getN C (G_Pa E.1) 0 (u_79 E.1) d_Wr_writePacket_45 (by decide) (by exact h16) rfl ?_
      refine x_iconst C d_Wr_writePacket_48 ?_
      refine x_icmp_eq C (tgt := 60) d_Wr_writePacket_49 (by decide) (by omega) (by omega) (by omega) (by omega) (fun c49 => ?_) (fun c49 => ?_)
      · exfalso; omega
      · refine x_aload_n C d_Wr_writePacket_52 rfl ?_
        refine x_getN C (G_Pa E.1) 0 (u_79 E.1) d_Wr_writePacket_53 (by decide) (by exact h16) rfl ?_
        refine x_iconst C d_Wr_writePacket_56 ?_
        refine x_icmp_ne C (tgt := 64) d_Wr_writePacket_57 (by decide) (by omega) (by omega) (by omega) (by omega) (fun c57 => ?_) (fun c57 => ?_)
        · refine x_iconst C d_Wr_writePacket_64 ?_
          refine x_istore C d_Wr_writePacket_65 (by decide) ?_
          refine x_aload_n C d_Wr_writePacket_67 rfl ?_
          refine x_get C (G_Wr E.1) 0 (u_204 E.1) d_Wr_writePacket_68 (by decide) (by exact h22) rfl ?_
          refine x_bipush C d_Wr_writePacket_71 (by decide) ?_
          refine x_iload_n C d_Wr_writePacket_73 rfl ?_
          refine x_iadd C d_Wr_writePacket_74 ?_
          refine x_iload C d_Wr_writePacket_75 rfl ?_
          refine x_if_eq C (tgt := 84) d_Wr_writePacket_77 (by decide) (by omega) (by omega) (fun c77 => ?_) (fun c77 => ?_)
          · refine x_iconst C d_Wr_writePacket_84 ?_
            refine x_callVR C (G_Na E.1) (u_426 E.1) (u_427 E.1) (u_428 E.1) (u_429 E.1) (u_9 E.1) d_Wr_writePacket_85 (c_Na_writeBit l E h24 (eOk_bit ok _ _) (by have := len_bit x (0 + t.2.2.2) 1; omega) (by omega) (by omega) (by omega)) nh_Na_writeBit ln_Na_writeBit rfl rfl (nle rfl) (nle rfl) (nle rfl) (nle rfl) (nle rfl) ?_
            refine x_aload_n C d_Wr_writePacket_88 rfl ?_
            refine x_getN C (G_Pa E.1) 0 (u_79 E.1) d_Wr_writePacket_89 (by decide) (by exact h16) rfl ?_
            refine x_iconst C d_Wr_writePacket_92 ?_
            refine x_icmp_ne C (tgt := 104) d_Wr_writePacket_93 (by decide) (by omega) (by omega) (by omega) (by omega) (fun c93 => ?_) (fun c93 => ?_)
            · exfalso; omega
            · refine x_aload_n C d_Wr_writePacket_96 rfl ?_
              refine x_aload_n C d_Wr_writePacket_97 rfl ?_
              refine x_callVR C (G_Wr E.1) (u_461 E.1) (u_463 E.1) (us_6 E.1) (u_464 E.1) (u_8 E.1) d_Wr_writePacket_98 (c_Wr_writeMatch l E h22 h24 (eOk_bit (eOk_bit ok _ _) _ _) (by have := len_bit x (0 + t.2.2.2) 1; have := len_bit (eBit x (0 + t.2.2.2) 1) (12 + t.2.2.2) 0; omega) (by exact h16) n1 n2 d1 d2) nh_Wr_writeMatch ln_Wr_writeMatch rfl (by exact h22) (nle rfl) (nle rfl) (nle rfl) (nle rfl) (nle rfl) ?_
              refine x_goto C (tgt := 125) d_Wr_writePacket_101 (by decide) ?_
              exact x_vret C d_Wr_writePacket_125 (nle rfl) (nle rfl) ⟨rfl, by
  show _ = sN s0.heap.size cI h (ePkt t (1, ln, ds, ec, li) x)
  have ez : (0 : Int) + t.2.2.2 = t.2.2.2 := by omega
  rw [ez]
  rfl, rfl⟩
          · exfalso; omega
        · exfalso; omega
    · exfalso; omega
  · exfalso; omega

set_option maxRecDepth 100000 in
set_option maxHeartbeats 4000000 in
theorem c_Wr_packet4 {a0 : Array Value} {s0 : State} {D : va_G} {cI cL : ClassId} (l : Launch) (E : a_E a0 s0 D cI cL) {h : AH} {K : Nat} {x : En} (h22 : h 22 = some (oWr s0.heap.size)) (h24 : h 24 = some (oCh s0.heap.size 25)) (ok : eOk x) (lx : x.2.2.1 < 96000) {t : Hs} (H : isH s0.heap.size cI h t) (hk : hOk t) {ln ds ec li : Int} (h16 : h 16 = some (oPa 4 ln ds ec li)) : XM l s0 D y_Wr_writePacket prog_11_method_2_code 5 none 5 0 0 [.ref (s0.heap.size + 22), .ref (s0.heap.size + 16), .ref (s0.heap.size + 17)] (sN s0.heap.size cI h x) (K) (PR none (sN s0.heap.size cI h (ePkt t (4, ln, ds, ec, li) x)) K) := by
  refine XM.of (cI := cI) (cL := cL) (own := "NarrowingPacker$PacketWriter") (by decide) rfl E.2 (nle rfl) ?_
  intro p e s m below meth c C hn
  have hst := hk.2.2.2.1
  refine x_aload_n C d_Wr_writePacket_0 rfl ?_
  refine x_getN C (G_Hi E.1) 2 (u_127 E.1) d_Wr_writePacket_1 (by decide) (by exact H.1) rfl ?_
  refine x_istore_n C d_Wr_writePacket_4 (by decide) ?_
  refine x_aload_n C d_Wr_writePacket_5 rfl ?_
  refine x_get C (G_Wr E.1) 0 (u_204 E.1) d_Wr_writePacket_6 (by decide) (by exact h22) rfl ?_
  refine x_iconst C d_Wr_writePacket_9 ?_
  refine x_iload_n C d_Wr_writePacket_10 rfl ?_
  refine x_iadd C d_Wr_writePacket_11 ?_
  refine x_aload_n C d_Wr_writePacket_12 rfl ?_
  refine x_getN C (G_Pa E.1) 0 (u_79 E.1) d_Wr_writePacket_13 (by decide) (by exact h16) rfl ?_
  refine x_if_ne C (tgt := 23) d_Wr_writePacket_16 (by decide) (by omega) (by omega) (fun c16 => ?_) (fun c16 => ?_)
  · refine x_iconst C d_Wr_writePacket_23 ?_
    refine x_callVR C (G_Na E.1) (u_426 E.1) (u_427 E.1) (u_428 E.1) (u_429 E.1) (u_9 E.1) d_Wr_writePacket_24 (c_Na_writeBit l E h24 ok (by omega) (by omega) (by omega) (by omega)) nh_Na_writeBit ln_Na_writeBit rfl rfl (nle rfl) (nle rfl) (nle rfl) (nle rfl) (nle rfl) ?_
    refine x_aload_n C d_Wr_writePacket_27 rfl ?_
    refine x_getN C (G_Pa E.1) 0 (u_79 E.1) d_Wr_writePacket_28 (by decide) (by exact h16) rfl ?_
    refine x_if_ne C (tgt := 44) d_Wr_writePacket_31 (by decide) (by omega) (by omega) (fun c31 => ?_) (fun c31 => ?_)
    · refine x_aload_n C d_Wr_writePacket_44 rfl ?_
      refine x_getN C (G_Pa E.1) 0 (u_79 E.1) d_Wr_writePacket_45 (by decide) (by exact h16) rfl ?_
      refine x_iconst C d_Wr_writePacket_48 ?_
      refine x_icmp_eq C (tgt := 60) d_Wr_writePacket_49 (by decide) (by omega) (by omega) (by omega) (by omega) (fun c49 => ?_) (fun c49 => ?_)
      · exfalso; omega
      · refine x_aload_n C d_Wr_writePacket_52 rfl ?_
        refine x_getN C (G_Pa E.1) 0 (u_79 E.1) d_Wr_writePacket_53 (by decide) (by exact h16) rfl ?_
        refine x_iconst C d_Wr_writePacket_56 ?_
        refine x_icmp_ne C (tgt := 64) d_Wr_writePacket_57 (by decide) (by omega) (by omega) (by omega) (by omega) (fun c57 => ?_) (fun c57 => ?_)
        · refine x_iconst C d_Wr_writePacket_64 ?_
          refine x_istore C d_Wr_writePacket_65 (by decide) ?_
          refine x_aload_n C d_Wr_writePacket_67 rfl ?_
          refine x_get C (G_Wr E.1) 0 (u_204 E.1) d_Wr_writePacket_68 (by decide) (by exact h22) rfl ?_
          refine x_bipush C d_Wr_writePacket_71 (by decide) ?_
          refine x_iload_n C d_Wr_writePacket_73 rfl ?_
          refine x_iadd C d_Wr_writePacket_74 ?_
          refine x_iload C d_Wr_writePacket_75 rfl ?_
          refine x_if_eq C (tgt := 84) d_Wr_writePacket_77 (by decide) (by omega) (by omega) (fun c77 => ?_) (fun c77 => ?_)
          · refine x_iconst C d_Wr_writePacket_84 ?_
            refine x_callVR C (G_Na E.1) (u_426 E.1) (u_427 E.1) (u_428 E.1) (u_429 E.1) (u_9 E.1) d_Wr_writePacket_85 (c_Na_writeBit l E h24 (eOk_bit ok _ _) (by have := len_bit x (0 + t.2.2.2) 1; omega) (by omega) (by omega) (by omega)) nh_Na_writeBit ln_Na_writeBit rfl rfl (nle rfl) (nle rfl) (nle rfl) (nle rfl) (nle rfl) ?_
            refine x_aload_n C d_Wr_writePacket_88 rfl ?_
            refine x_getN C (G_Pa E.1) 0 (u_79 E.1) d_Wr_writePacket_89 (by decide) (by exact h16) rfl ?_
            refine x_iconst C d_Wr_writePacket_92 ?_
            refine x_icmp_ne C (tgt := 104) d_Wr_writePacket_93 (by decide) (by omega) (by omega) (by omega) (by omega) (fun c93 => ?_) (fun c93 => ?_)
            · refine x_aload_n C d_Wr_writePacket_104 rfl ?_
              refine x_getN C (G_Pa E.1) 0 (u_79 E.1) d_Wr_writePacket_105 (by decide) (by exact h16) rfl ?_
              refine x_iconst C d_Wr_writePacket_108 ?_
              refine x_icmp_ne C (tgt := 119) d_Wr_writePacket_109 (by decide) (by omega) (by omega) (by omega) (by omega) (fun c109 => ?_) (fun c109 => ?_)
              · exfalso; omega
              · refine x_aload_n C d_Wr_writePacket_112 rfl ?_
                refine x_callVR C (G_Wr E.1) (u_482 E.1) (u_484 E.1) (us_8 E.1) (u_485 E.1) (u_8 E.1) d_Wr_writePacket_113 (c_Wr_writeEnd l E h22 h24 (eOk_bit (eOk_bit ok _ _) _ _) (by have := len_bit x (0 + t.2.2.2) 1; have := len_bit (eBit x (0 + t.2.2.2) 1) (12 + t.2.2.2) 0; omega)) nh_Wr_writeEnd ln_Wr_writeEnd rfl (by exact h22) (nle rfl) (nle rfl) (nle rfl) (nle rfl) (nle rfl) ?_
                refine x_goto C (tgt := 125) d_Wr_writePacket_116 (by decide) ?_
                exact x_vret C d_Wr_writePacket_125 (nle rfl) (nle rfl) ⟨rfl, by
  show _ = sN s0.heap.size cI h (ePkt t (4, ln, ds, ec, li) x)
  have ez : (0 : Int) + t.2.2.2 = t.2.2.2 := by omega
  rw [ez]
  rfl, rfl⟩
            · exfalso; omega
          · exfalso; omega
        · exfalso; omega
    · exfalso; omega
  · exfalso; omega

set_option maxRecDepth 100000 in
set_option maxHeartbeats 4000000 in
theorem c_Wr_packet2 {a0 : Array Value} {s0 : State} {D : va_G} {cI cL : ClassId} (l : Launch) (E : a_E a0 s0 D cI cL) {h : AH} {K : Nat} {x : En} (h22 : h 22 = some (oWr s0.heap.size)) (h24 : h 24 = some (oCh s0.heap.size 25)) (ok : eOk x) (lx : x.2.2.1 < 96000) {t : Hs} (H : isH s0.heap.size cI h t) (hk : hOk t) {ln ds ec li : Int} (h16 : h 16 = some (oPa 2 ln ds ec li)) (e1 : 0 ≤ ec) (e2 : ec ≤ 3) (n1 : 2 ≤ ln) (n2 : ln ≤ 120) : XM l s0 D y_Wr_writePacket prog_11_method_2_code 5 none 5 0 0 [.ref (s0.heap.size + 22), .ref (s0.heap.size + 16), .ref (s0.heap.size + 17)] (sN s0.heap.size cI h x) (K) (PR none (sN s0.heap.size cI h (ePkt t (2, ln, ds, ec, li) x)) K) := by
  refine XM.of (cI := cI) (cL := cL) (own := "NarrowingPacker$PacketWriter") (by decide) rfl E.2 (nle rfl) ?_
  intro p e s m below meth c C hn
  have hst := hk.2.2.2.1
  refine x_aload_n C d_Wr_writePacket_0 rfl ?_
  refine x_getN C (G_Hi E.1) 2 (u_127 E.1) d_Wr_writePacket_1 (by decide) (by exact H.1) rfl ?_
  refine x_istore_n C d_Wr_writePacket_4 (by decide) ?_
  refine x_aload_n C d_Wr_writePacket_5 rfl ?_
  refine x_get C (G_Wr E.1) 0 (u_204 E.1) d_Wr_writePacket_6 (by decide) (by exact h22) rfl ?_
  refine x_iconst C d_Wr_writePacket_9 ?_
  refine x_iload_n C d_Wr_writePacket_10 rfl ?_
  refine x_iadd C d_Wr_writePacket_11 ?_
  refine x_aload_n C d_Wr_writePacket_12 rfl ?_
  refine x_getN C (G_Pa E.1) 0 (u_79 E.1) d_Wr_writePacket_13 (by decide) (by exact h16) rfl ?_
  refine x_if_ne C (tgt := 23) d_Wr_writePacket_16 (by decide) (by omega) (by omega) (fun c16 => ?_) (fun c16 => ?_)
  · refine x_iconst C d_Wr_writePacket_23 ?_
    refine x_callVR C (G_Na E.1) (u_426 E.1) (u_427 E.1) (u_428 E.1) (u_429 E.1) (u_9 E.1) d_Wr_writePacket_24 (c_Na_writeBit l E h24 ok (by omega) (by omega) (by omega) (by omega)) nh_Na_writeBit ln_Na_writeBit rfl rfl (nle rfl) (nle rfl) (nle rfl) (nle rfl) (nle rfl) ?_
    refine x_aload_n C d_Wr_writePacket_27 rfl ?_
    refine x_getN C (G_Pa E.1) 0 (u_79 E.1) d_Wr_writePacket_28 (by decide) (by exact h16) rfl ?_
    refine x_if_ne C (tgt := 44) d_Wr_writePacket_31 (by decide) (by omega) (by omega) (fun c31 => ?_) (fun c31 => ?_)
    · refine x_aload_n C d_Wr_writePacket_44 rfl ?_
      refine x_getN C (G_Pa E.1) 0 (u_79 E.1) d_Wr_writePacket_45 (by decide) (by exact h16) rfl ?_
      refine x_iconst C d_Wr_writePacket_48 ?_
      refine x_icmp_eq C (tgt := 60) d_Wr_writePacket_49 (by decide) (by omega) (by omega) (by omega) (by omega) (fun c49 => ?_) (fun c49 => ?_)
      · refine x_iconst C d_Wr_writePacket_60 ?_
        refine x_goto C (tgt := 65) d_Wr_writePacket_61 (by decide) ?_
        refine x_istore C d_Wr_writePacket_65 (by decide) ?_
        refine x_aload_n C d_Wr_writePacket_67 rfl ?_
        refine x_get C (G_Wr E.1) 0 (u_204 E.1) d_Wr_writePacket_68 (by decide) (by exact h22) rfl ?_
        refine x_bipush C d_Wr_writePacket_71 (by decide) ?_
        refine x_iload_n C d_Wr_writePacket_73 rfl ?_
        refine x_iadd C d_Wr_writePacket_74 ?_
        refine x_iload C d_Wr_writePacket_75 rfl ?_
        refine x_if_eq C (tgt := 84) d_Wr_writePacket_77 (by decide) (by omega) (by omega) (fun c77 => ?_) (fun c77 => ?_)
        · exfalso; omega
        · refine x_iconst C d_Wr_writePacket_80 ?_
          refine x_goto C (tgt := 85) d_Wr_writePacket_81 (by decide) ?_
          refine x_callVR C (G_Na E.1) (u_426 E.1) (u_427 E.1) (u_428 E.1) (u_429 E.1) (u_9 E.1) d_Wr_writePacket_85 (c_Na_writeBit l E h24 (eOk_bit ok _ _) (by have := len_bit x (0 + t.2.2.2) 1; omega) (by omega) (by omega) (by omega)) nh_Na_writeBit ln_Na_writeBit rfl rfl (nle rfl) (nle rfl) (nle rfl) (nle rfl) (nle rfl) ?_
          refine x_aload_n C d_Wr_writePacket_88 rfl ?_
          refine x_getN C (G_Pa E.1) 0 (u_79 E.1) d_Wr_writePacket_89 (by decide) (by exact h16) rfl ?_
          refine x_iconst C d_Wr_writePacket_92 ?_
          refine x_icmp_ne C (tgt := 104) d_Wr_writePacket_93 (by decide) (by omega) (by omega) (by omega) (by omega) (fun c93 => ?_) (fun c93 => ?_)
          · refine x_aload_n C d_Wr_writePacket_104 rfl ?_
            refine x_getN C (G_Pa E.1) 0 (u_79 E.1) d_Wr_writePacket_105 (by decide) (by exact h16) rfl ?_
            refine x_iconst C d_Wr_writePacket_108 ?_
            refine x_icmp_ne C (tgt := 119) d_Wr_writePacket_109 (by decide) (by omega) (by omega) (by omega) (by omega) (fun c109 => ?_) (fun c109 => ?_)
            · refine x_aload_n C d_Wr_writePacket_119 rfl ?_
              refine x_aload_n C d_Wr_writePacket_120 rfl ?_
              refine x_iload_n C d_Wr_writePacket_121 rfl ?_
              refine x_callVR C (G_Wr E.1) (u_486 E.1) (u_488 E.1) (us_9 E.1) (u_489 E.1) (u_8 E.1) d_Wr_writePacket_122 (c_Wr_repeat2 l E h22 h24 (eOk_bit (eOk_bit ok _ _) _ _) (by have := len_bit x (0 + t.2.2.2) 1; have := len_bit (eBit x (0 + t.2.2.2) 1) (12 + t.2.2.2) 1; omega) hst.1 hst.2 (by exact h16) e1 e2 n1 n2) nh_Wr_writeRepeat ln_Wr_writeRepeat rfl (by exact h22) (nle rfl) (nle rfl) (nle rfl) (nle rfl) (nle rfl) ?_
              exact x_vret C d_Wr_writePacket_125 (nle rfl) (nle rfl) ⟨rfl, by
  show _ = sN s0.heap.size cI h (ePkt t (2, ln, ds, ec, li) x)
  have ez : (0 : Int) + t.2.2.2 = t.2.2.2 := by omega
  rw [ez]
  rfl, rfl⟩
            · exfalso; omega
          · exfalso; omega
      · exfalso; omega
    · exfalso; omega
  · exfalso; omega

set_option maxRecDepth 100000 in
set_option maxHeartbeats 4000000 in
theorem c_Wr_packet3 {a0 : Array Value} {s0 : State} {D : va_G} {cI cL : ClassId} (l : Launch) (E : a_E a0 s0 D cI cL) {h : AH} {K : Nat} {x : En} (h22 : h 22 = some (oWr s0.heap.size)) (h24 : h 24 = some (oCh s0.heap.size 25)) (ok : eOk x) (lx : x.2.2.1 < 96000) {t : Hs} (H : isH s0.heap.size cI h t) (hk : hOk t) {ln ds ec li : Int} (h16 : h 16 = some (oPa 3 ln ds ec li)) : XM l s0 D y_Wr_writePacket prog_11_method_2_code 5 none 5 0 0 [.ref (s0.heap.size + 22), .ref (s0.heap.size + 16), .ref (s0.heap.size + 17)] (sN s0.heap.size cI h x) (K) (PR none (sN s0.heap.size cI h (ePkt t (3, ln, ds, ec, li) x)) K) := by
  refine XM.of (cI := cI) (cL := cL) (own := "NarrowingPacker$PacketWriter") (by decide) rfl E.2 (nle rfl) ?_
  intro p e s m below meth c C hn
  have hst := hk.2.2.2.1
  refine x_aload_n C d_Wr_writePacket_0 rfl ?_
  refine x_getN C (G_Hi E.1) 2 (u_127 E.1) d_Wr_writePacket_1 (by decide) (by exact H.1) rfl ?_
  refine x_istore_n C d_Wr_writePacket_4 (by decide) ?_
  refine x_aload_n C d_Wr_writePacket_5 rfl ?_
  refine x_get C (G_Wr E.1) 0 (u_204 E.1) d_Wr_writePacket_6 (by decide) (by exact h22) rfl ?_
  refine x_iconst C d_Wr_writePacket_9 ?_
  refine x_iload_n C d_Wr_writePacket_10 rfl ?_
  refine x_iadd C d_Wr_writePacket_11 ?_
  refine x_aload_n C d_Wr_writePacket_12 rfl ?_
  refine x_getN C (G_Pa E.1) 0 (u_79 E.1) d_Wr_writePacket_13 (by decide) (by exact h16) rfl ?_
  refine x_if_ne C (tgt := 23) d_Wr_writePacket_16 (by decide) (by omega) (by omega) (fun c16 => ?_) (fun c16 => ?_)
  · refine x_iconst C d_Wr_writePacket_23 ?_
    refine x_callVR C (G_Na E.1) (u_426 E.1) (u_427 E.1) (u_428 E.1) (u_429 E.1) (u_9 E.1) d_Wr_writePacket_24 (c_Na_writeBit l E h24 ok (by omega) (by omega) (by omega) (by omega)) nh_Na_writeBit ln_Na_writeBit rfl rfl (nle rfl) (nle rfl) (nle rfl) (nle rfl) (nle rfl) ?_
    refine x_aload_n C d_Wr_writePacket_27 rfl ?_
    refine x_getN C (G_Pa E.1) 0 (u_79 E.1) d_Wr_writePacket_28 (by decide) (by exact h16) rfl ?_
    refine x_if_ne C (tgt := 44) d_Wr_writePacket_31 (by decide) (by omega) (by omega) (fun c31 => ?_) (fun c31 => ?_)
    · refine x_aload_n C d_Wr_writePacket_44 rfl ?_
      refine x_getN C (G_Pa E.1) 0 (u_79 E.1) d_Wr_writePacket_45 (by decide) (by exact h16) rfl ?_
      refine x_iconst C d_Wr_writePacket_48 ?_
      refine x_icmp_eq C (tgt := 60) d_Wr_writePacket_49 (by decide) (by omega) (by omega) (by omega) (by omega) (fun c49 => ?_) (fun c49 => ?_)
      · exfalso; omega
      · refine x_aload_n C d_Wr_writePacket_52 rfl ?_
        refine x_getN C (G_Pa E.1) 0 (u_79 E.1) d_Wr_writePacket_53 (by decide) (by exact h16) rfl ?_
        refine x_iconst C d_Wr_writePacket_56 ?_
        refine x_icmp_ne C (tgt := 64) d_Wr_writePacket_57 (by decide) (by omega) (by omega) (by omega) (by omega) (fun c57 => ?_) (fun c57 => ?_)
        · exfalso; omega
        · refine x_iconst C d_Wr_writePacket_60 ?_
          refine x_goto C (tgt := 65) d_Wr_writePacket_61 (by decide) ?_
          refine x_istore C d_Wr_writePacket_65 (by decide) ?_
          refine x_aload_n C d_Wr_writePacket_67 rfl ?_
          refine x_get C (G_Wr E.1) 0 (u_204 E.1) d_Wr_writePacket_68 (by decide) (by exact h22) rfl ?_
          refine x_bipush C d_Wr_writePacket_71 (by decide) ?_
          refine x_iload_n C d_Wr_writePacket_73 rfl ?_
          refine x_iadd C d_Wr_writePacket_74 ?_
          refine x_iload C d_Wr_writePacket_75 rfl ?_
          refine x_if_eq C (tgt := 84) d_Wr_writePacket_77 (by decide) (by omega) (by omega) (fun c77 => ?_) (fun c77 => ?_)
          · exfalso; omega
          · refine x_iconst C d_Wr_writePacket_80 ?_
            refine x_goto C (tgt := 85) d_Wr_writePacket_81 (by decide) ?_
            refine x_callVR C (G_Na E.1) (u_426 E.1) (u_427 E.1) (u_428 E.1) (u_429 E.1) (u_9 E.1) d_Wr_writePacket_85 (c_Na_writeBit l E h24 (eOk_bit ok _ _) (by have := len_bit x (0 + t.2.2.2) 1; omega) (by omega) (by omega) (by omega)) nh_Na_writeBit ln_Na_writeBit rfl rfl (nle rfl) (nle rfl) (nle rfl) (nle rfl) (nle rfl) ?_
            refine x_aload_n C d_Wr_writePacket_88 rfl ?_
            refine x_getN C (G_Pa E.1) 0 (u_79 E.1) d_Wr_writePacket_89 (by decide) (by exact h16) rfl ?_
            refine x_iconst C d_Wr_writePacket_92 ?_
            refine x_icmp_ne C (tgt := 104) d_Wr_writePacket_93 (by decide) (by omega) (by omega) (by omega) (by omega) (fun c93 => ?_) (fun c93 => ?_)
            · refine x_aload_n C d_Wr_writePacket_104 rfl ?_
              refine x_getN C (G_Pa E.1) 0 (u_79 E.1) d_Wr_writePacket_105 (by decide) (by exact h16) rfl ?_
              refine x_iconst C d_Wr_writePacket_108 ?_
              refine x_icmp_ne C (tgt := 119) d_Wr_writePacket_109 (by decide) (by omega) (by omega) (by omega) (by omega) (fun c109 => ?_) (fun c109 => ?_)
              · refine x_aload_n C d_Wr_writePacket_119 rfl ?_
                refine x_aload_n C d_Wr_writePacket_120 rfl ?_
                refine x_iload_n C d_Wr_writePacket_121 rfl ?_
                refine x_callVR C (G_Wr E.1) (u_486 E.1) (u_488 E.1) (us_9 E.1) (u_489 E.1) (u_8 E.1) d_Wr_writePacket_122 (c_Wr_repeat3 l E h22 h24 (eOk_bit (eOk_bit ok _ _) _ _) (by have := len_bit x (0 + t.2.2.2) 1; have := len_bit (eBit x (0 + t.2.2.2) 1) (12 + t.2.2.2) 1; omega) hst.1 hst.2 (by exact h16)) nh_Wr_writeRepeat ln_Wr_writeRepeat rfl (by exact h22) (nle rfl) (nle rfl) (nle rfl) (nle rfl) (nle rfl) ?_
                exact x_vret C d_Wr_writePacket_125 (nle rfl) (nle rfl) ⟨rfl, by
  show _ = sN s0.heap.size cI h (ePkt t (3, ln, ds, ec, li) x)
  have ez : (0 : Int) + t.2.2.2 = t.2.2.2 := by omega
  rw [ez]
  rfl, rfl⟩
              · exfalso; omega
            · exfalso; omega
    · exfalso; omega
  · exfalso; omega

