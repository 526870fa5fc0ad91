set_option maxRecDepth 100000 in
set_option maxHeartbeats 4000000 in
theorem ex_Np_source8 {a0 : Array Value} {s0 : State} {D : va_G} {cI cL : ClassId} (l : Launch) (E : a_E a0 s0 D cI cL) {p : Program} {e : Env} {R : Room} {s : State} {m : MethodId} {args : Array Value} {below : List Frame} {meth : Method} {c : Code} (C : XC s0 D cI cL p s m meth c "NarrowingPacker" prog_1_method_17_code 2 none []) (hR : R = a_rm 6 0 0) {h : AH} {K kp : Nat} {has : Int} (h0 : h 0 = some (oNp s0.heap.size kp 8 has)) {src : Int → Int} {n cc : Int} (h1 : h 1 = some (oBy s0.heap.size 2 n)) (h2 : h 2 = some (iA cI 120 src)) (h22 : h 22 = some (oWr s0.heap.size)) (h24 : h 24 = some (oCh s0.heap.size 25)) {W : Pw} (ok : eOk W.1) (hk : hOk W.2.1) (lx : W.1.2.2.1 < 90000) {a1 a2 a3 a4 k ln ds ec li : Int} : XW s0 D p l e R s m args below meth c (XQ s0 D 0 0 (PE (fun h' => ∃ b1 b2 b3 b4 b5 b6, h' = sP s0.heap.size cI 8 h (ePkt W.2.1 (4, 0, 0, 0, 0) W.1, W.2) (oCo cc b1 b2 b3 b4) (oPa 4 0 0 b5 b6)) K) below s) 90 [(0, .ref (s0.heap.size + 0))] [] (sP s0.heap.size cI 8 h W (oCo cc a1 a2 a3 a4) (oPa k ln ds ec li)) K 0 0 := by
  subst hR
  refine x_aload_n C d_Np_writeSource_90 rfl ?_
  refine x_get C (G_Np E.1) 7 (u_253 E.1) d_Np_writeSource_91 (by decide) (by exact h0) rfl ?_
  refine x_callVR C (G_Pa E.1) (u_516 E.1) (u_517 E.1) (u_518 E.1) (u_519 E.1) (u_4 E.1) d_Np_writeSource_94 (c_Pa_becomeEnd l E (by rfl)) nh_Pa_becomeEnd ln_Pa_becomeEnd rfl rfl (nle rfl) (nle rfl) (nle rfl) (nle rfl) (nle rfl) ?_
  refine XW.heq (h' := sN s0.heap.size cI (sP s0.heap.size cI 8 h W (oCo cc a1 a2 a3 a4) (oPa 4 0 0 ec li)) W.1) (by rw [sP_A, sP_N8]) ?_
  refine x_aload_n C d_Np_writeSource_97 rfl ?_
  refine x_get C (G_Np E.1) 10 (u_256 E.1) d_Np_writeSource_98 (by decide) (by exact h0) rfl ?_
  refine x_aload_n C d_Np_writeSource_101 rfl ?_
  refine x_get C (G_Np E.1) 7 (u_253 E.1) d_Np_writeSource_102 (by decide) (by exact h0) rfl ?_
  refine x_aload_n C d_Np_writeSource_105 rfl ?_
  refine x_get C (G_Np E.1) 8 (u_254 E.1) d_Np_writeSource_106 (by decide) (by exact h0) rfl ?_
  refine x_callVR C (G_Wr E.1) (u_422 E.1) (u_423 E.1) (u_424 E.1) (u_425 E.1) (u_8 E.1) d_Np_writeSource_109 (c_Wr_packet4 l E (by exact h22) (by exact h24) ok (by omega) (t := W.2.1) (by exact ⟨rfl, rfl, rfl, rfl⟩) hk (by rfl)) nh_Wr_writePacket ln_Wr_writePacket rfl (by exact h22) (nle rfl) (nle rfl) (nle rfl) (nle rfl) (nle rfl) ?_
  exact x_vret C d_Np_writeSource_112 (nle rfl) (nle rfl) ⟨rfl, rfl, a1, a2, a3, a4, ec, li, by rw [sP_N8]; rfl⟩
set_option maxRecDepth 100000 in
set_option maxHeartbeats 8000000 in
theorem lp_Np_source8 {a0 : Array Value} {s0 : State} {D : va_G} {cI cL : ClassId} (l : Launch) (E : a_E a0 s0 D cI cL) {p : Program} {e : Env} {R : Room} {s : State} {m : MethodId} {args : Array Value} {below : List Frame} {meth : Method} {c : Code} (C : XC s0 D cI cL p s m meth c "NarrowingPacker" prog_1_method_17_code 2 none []) (hR : R = a_rm 6 0 0) {h : AH} {K kp : Nat} {has : Int} (h0 : h 0 = some (oNp s0.heap.size kp 8 has)) {src : Int → Int} {n cc : Int} (h1 : h 1 = some (oBy s0.heap.size 2 n)) (h2 : h 2 = some (iA cI 120 src)) (h22 : h 22 = some (oWr s0.heap.size)) (h24 : h 24 = some (oCh s0.heap.size 25)) (hs : ∀ q, 0 ≤ src q ∧ src q < 256) (n2 : n ≤ 120) (c1 : 1 ≤ cc) (c2 : cc ≤ 16) {W : Pw} : ∀ (r : Nat) (w : Pw) (a1 a2 a3 a4 k ln ds ec li : Int), eOk w.1 → hOk w.2.1 → w.2.1.2.1 ≤ n → 0 ≤ w.2.2.2 → w.2.2.2 ≤ w.2.1.2.1 → w.1.2.2.1 ≤ 4 + 30 * w.2.2.2 → n - w.2.1.2.1 ≤ (r : Int) → packLoop cc src n r w = W → XW s0 D p l e R s m args below meth c (XQ s0 D 0 0 (PE (fun h' => ∃ b1 b2 b3 b4 b5 b6, h' = sP s0.heap.size cI 8 h (ePkt W.2.1 (4, 0, 0, 0, 0) W.1, W.2) (oCo cc b1 b2 b3 b4) (oPa 4 0 0 b5 b6)) K) below s) 2 [(0, .ref (s0.heap.size + 0)), (1, .int (zI w.2.2.2))] [] (sP s0.heap.size cI 8 h w (oCo cc a1 a2 a3 a4) (oPa k ln ds ec li)) K 0 0 := by
  intro r
  induction r with
  | zero =>
    intro w a1 a2 a3 a4 k ln ds ec li ok hk i1 i3 i4 i5 i6 hW
    have hW : w = W := hW
    subst hW
    have hn := hk.2.1
    have hex := ex_Np_source8 l E C hR h0 h1 h2 h22 h24 ok hk (by omega) (e := e) (args := args) (below := below) (K := K) (cc := cc) (a1 := a1) (a2 := a2) (a3 := a3) (a4 := a4) (k := k) (ln := ln) (ds := ds) (ec := ec) (li := li)
    subst hR
    refine x_iload_n C d_Np_writeSource_2 rfl ?_
    refine x_bipush C d_Np_writeSource_3 (by decide) ?_
    refine x_icmp_ge C (tgt := 90) d_Np_writeSource_5 (by decide) (by omega) (by omega) (by omega) (by omega) (fun c5 => ?_) (fun c5 => ?_)
    · exact XW.loc (lv' := [(0, .ref (s0.heap.size + 0))]) ⟨rfl, trivial⟩ hex
    · refine x_aload_n C d_Np_writeSource_8 rfl ?_
      refine x_get C (G_Np E.1) 8 (u_254 E.1) d_Np_writeSource_9 (by decide) (by exact h0) rfl ?_
      refine x_getN C (G_Hi E.1) 0 (u_122 E.1) d_Np_writeSource_12 (by decide) (by rfl) rfl ?_
      refine x_getN C (G_By E.1) 1 (u_46 E.1) d_Np_writeSource_15 (by decide) (by rfl) rfl ?_
      refine x_aload_n C d_Np_writeSource_18 rfl ?_
      refine x_get C (G_Np E.1) 0 (u_246 E.1) d_Np_writeSource_19 (by decide) (by exact h0) rfl ?_
      refine x_getN C (G_By E.1) 1 (u_46 E.1) d_Np_writeSource_22 (by decide) (by exact h1) rfl ?_
      refine x_icmp_ge C (tgt := 90) d_Np_writeSource_25 (by decide) (by omega) (by omega) (by omega) (by omega) (fun c25 => ?_) (fun c25 => ?_)
      · exact XW.loc (lv' := [(0, .ref (s0.heap.size + 0))]) ⟨rfl, trivial⟩ hex
      · exfalso; omega
  | succ r ih =>
    intro w a1 a2 a3 a4 k ln ds ec li ok hk i1 i3 i4 i5 i6 hW
    have hn := hk.2.1
    simp only [packLoop] at hW
    by_cases hlt : w.2.1.2.1 < n
    · rw [if_pos hlt] at hW
      have hch := choose_ok (c := cc) hs hk hlt
      have hq : packStep cc src n w = packStep cc src n w := rfl
      subst hR
      refine x_iload_n C d_Np_writeSource_2 rfl ?_
      refine x_bipush C d_Np_writeSource_3 (by decide) ?_
      refine x_icmp_ge C (tgt := 90) d_Np_writeSource_5 (by decide) (by omega) (by omega) (by omega) (by omega) (fun c5 => ?_) (fun c5 => ?_)
      · exfalso; omega
      · refine x_aload_n C d_Np_writeSource_8 rfl ?_
        refine x_get C (G_Np E.1) 8 (u_254 E.1) d_Np_writeSource_9 (by decide) (by exact h0) rfl ?_
        refine x_getN C (G_Hi E.1) 0 (u_122 E.1) d_Np_writeSource_12 (by decide) (by rfl) rfl ?_
        refine x_getN C (G_By E.1) 1 (u_46 E.1) d_Np_writeSource_15 (by decide) (by rfl) rfl ?_
        refine x_aload_n C d_Np_writeSource_18 rfl ?_
        refine x_get C (G_Np E.1) 0 (u_246 E.1) d_Np_writeSource_19 (by decide) (by exact h0) rfl ?_
        refine x_getN C (G_By E.1) 1 (u_46 E.1) d_Np_writeSource_22 (by decide) (by exact h1) rfl ?_
        refine x_icmp_ge C (tgt := 90) d_Np_writeSource_25 (by decide) (by omega) (by omega) (by omega) (by omega) (fun c25 => ?_) (fun c25 => ?_)
        · exfalso; omega
        · refine x_aload_n C d_Np_writeSource_28 rfl ?_
          refine x_get C (G_Np E.1) 9 (u_255 E.1) d_Np_writeSource_29 (by decide) (by exact h0) rfl ?_
          refine x_aload_n C d_Np_writeSource_32 rfl ?_
          refine x_get C (G_Np E.1) 7 (u_253 E.1) d_Np_writeSource_33 (by decide) (by exact h0) rfl ?_
          refine x_aload_n C d_Np_writeSource_36 rfl ?_
          refine x_get C (G_Np E.1) 0 (u_246 E.1) d_Np_writeSource_37 (by decide) (by exact h0) rfl ?_
          refine x_aload_n C d_Np_writeSource_40 rfl ?_
          refine x_get C (G_Np E.1) 8 (u_254 E.1) d_Np_writeSource_41 (by decide) (by exact h0) rfl ?_
          refine x_callVR C (G_Co E.1) (u_386 E.1) (u_387 E.1) (u_388 E.1) (u_389 E.1) (u_6 E.1) d_Np_writeSource_44 (c_Co_choose l E (t := w.2.1) (by rfl) (by rfl) (by exact h1) (by exact h2) hs (by exact ⟨rfl, rfl, rfl, rfl⟩) hk hlt n2 c1 c2) nh_Co_choose ln_Co_choose rfl rfl (nle rfl) (nle rfl) (nle rfl) (nle rfl) (nle rfl) ?_
          refine XW.heq (h' := sP s0.heap.size cI 8 h w (oCo cc (matchZ src n w.2.1.2.1 cc w.2.1.2.1.toNat (0, 0, 0)).1 (matchZ src n w.2.1.2.1 cc w.2.1.2.1.toNat (0, 0, 0)).2 (echoZ src n w.2.1.2.1 w.2.1.2.2.1 4 0 (0, 0)).1 (echoZ src n w.2.1.2.1 w.2.1.2.2.1 4 0 (0, 0)).2) (pkSt (chooseZ cc src n w.2.1) ec li)) (sP_C _ _ _ _ _ _ _ _ _) ?_
          rcases hch with ⟨ln2, ds2, ec2, hq2, q1, q2, q3, q4, q5, q6⟩ | ⟨ln2, ds2, hq2, q1, q2, q3, q4⟩ | ⟨ds2, hq2, q1, q2, q3⟩ | ⟨li2, hq2, q1, q2⟩
          · have hst : packStep cc src n w = (ePkt w.2.1 (2, ln2, ds2, ec2, li) w.1, hTell w.2.1 (2, ln2, ds2, ec2, li), (zup w.2.2.1.1 w.2.2.2 2, zup w.2.2.1.2.1 w.2.2.2 ln2, zup w.2.2.1.2.2 w.2.2.2 (pkVal (2, ln2, ds2, ec2, li))), w.2.2.2 + 1) := by rw [packStep_eq, hq2, ePk2 _ _ _ _ ec2 li, hTe2 _ _ _ ec2 li, pkV2 _ _ ec2 li]
            rw [hst] at hW
            refine XW.heq (h' := sN s0.heap.size cI (sP s0.heap.size cI 8 h w (oCo cc (matchZ src n w.2.1.2.1 cc w.2.1.2.1.toNat (0, 0, 0)).1 (matchZ src n w.2.1.2.1 cc w.2.1.2.1.toNat (0, 0, 0)).2 (echoZ src n w.2.1.2.1 w.2.1.2.2.1 4 0 (0, 0)).1 (echoZ src n w.2.1.2.1 w.2.1.2.2.1 4 0 (0, 0)).2) (oPa 2 ln2 ds2 ec2 li)) w.1) (by rw [hq2, sP_N8]; rfl) ?_
            refine x_aload_n C d_Np_writeSource_47 rfl ?_
            refine x_get C (G_Np E.1) 10 (u_256 E.1) d_Np_writeSource_48 (by decide) (by exact h0) rfl ?_
            refine x_aload_n C d_Np_writeSource_51 rfl ?_
            refine x_get C (G_Np E.1) 7 (u_253 E.1) d_Np_writeSource_52 (by decide) (by exact h0) rfl ?_
            refine x_aload_n C d_Np_writeSource_55 rfl ?_
            refine x_get C (G_Np E.1) 8 (u_254 E.1) d_Np_writeSource_56 (by decide) (by exact h0) rfl ?_
            refine x_callVR C (G_Wr E.1) (u_422 E.1) (u_423 E.1) (u_424 E.1) (u_425 E.1) (u_8 E.1) d_Np_writeSource_59 (c_Wr_packet2 l E (by exact h22) (by exact h24) ok (by omega) (t := w.2.1) (by exact ⟨rfl, rfl, rfl, rfl⟩) hk (by rfl) q3 q4 q1 (by omega)) nh_Wr_writePacket ln_Wr_writePacket rfl (by exact h22) (nle rfl) (nle rfl) (nle rfl) (nle rfl) (nle rfl) ?_
            refine XW.heq (h' := sH s0.heap.size cI (sP s0.heap.size cI 8 h (ePkt w.2.1 (2, ln2, ds2, ec2, li) w.1, w.2) (oCo cc (matchZ src n w.2.1.2.1 cc w.2.1.2.1.toNat (0, 0, 0)).1 (matchZ src n w.2.1.2.1 cc w.2.1.2.1.toNat (0, 0, 0)).2 (echoZ src n w.2.1.2.1 w.2.1.2.2.1 4 0 (0, 0)).1 (echoZ src n w.2.1.2.1 w.2.1.2.2.1 4 0 (0, 0)).2) (oPa 2 ln2 ds2 ec2 li)) w.2.1) (by rw [sP_N8, sP_H8]) ?_
            refine x_aload_n C d_Np_writeSource_62 rfl ?_
            refine x_get C (G_Np E.1) 8 (u_254 E.1) d_Np_writeSource_63 (by decide) (by exact h0) rfl ?_
            refine x_aload_n C d_Np_writeSource_66 rfl ?_
            refine x_get C (G_Np E.1) 7 (u_253 E.1) d_Np_writeSource_67 (by decide) (by exact h0) rfl ?_
            refine x_callVR C (G_Hi E.1) (u_490 E.1) (u_491 E.1) (u_492 E.1) (u_493 E.1) (u_5 E.1) d_Np_writeSource_70 (c_Hi_tell2 l E hk (by rfl) q3 q4 (by omega) (by omega) q5 q6) nh_Hi_tell ln_Hi_tell rfl rfl (nle rfl) (nle rfl) (nle rfl) (nle rfl) (nle rfl) ?_
            refine XW.heq (h' := sL s0.heap.size cI 8 (sP s0.heap.size cI 8 h (ePkt w.2.1 (2, ln2, ds2, ec2, li) w.1, hTell w.2.1 (2, ln2, ds2, ec2, li), w.2.2) (oCo cc (matchZ src n w.2.1.2.1 cc w.2.1.2.1.toNat (0, 0, 0)).1 (matchZ src n w.2.1.2.1 cc w.2.1.2.1.toNat (0, 0, 0)).2 (echoZ src n w.2.1.2.1 w.2.1.2.2.1 4 0 (0, 0)).1 (echoZ src n w.2.1.2.1 w.2.1.2.2.1 4 0 (0, 0)).2) (oPa 2 ln2 ds2 ec2 li)) w.2.2.1 w.2.2.2) (by rw [sP_H8, sP_L8]) ?_
            refine x_aload_n C d_Np_writeSource_73 rfl ?_
            refine x_get C (G_Np E.1) 6 (u_252 E.1) d_Np_writeSource_74 (by decide) (by exact h0) rfl ?_
            refine x_aload_n C d_Np_writeSource_77 rfl ?_
            refine x_get C (G_Np E.1) 7 (u_253 E.1) d_Np_writeSource_78 (by decide) (by exact h0) rfl ?_
            refine x_callVR C (G_Pl E.1) (u_512 E.1) (u_513 E.1) (u_514 E.1) (u_515 E.1) (u_3 E.1) d_Np_writeSource_81 (c_Pl_append8 l E (by rfl) i3 (by omega) (by decide) (by decide)) nh_Pl_append ln_Pl_append rfl rfl (nle rfl) (nle rfl) (nle rfl) (nle rfl) (nle rfl) ?_
            refine x_iinc C d_Np_writeSource_84 (by decide) rfl ?_
            refine x_goto C (tgt := 2) d_Np_writeSource_87 (by decide) ?_
            refine XW.heq (h' := sP s0.heap.size cI 8 h (ePkt w.2.1 (2, ln2, ds2, ec2, li) w.1, hTell w.2.1 (2, ln2, ds2, ec2, li), (zup w.2.2.1.1 w.2.2.2 2, zup w.2.2.1.2.1 w.2.2.2 ln2, zup w.2.2.1.2.2 w.2.2.2 (pkVal (2, ln2, ds2, ec2, li))), w.2.2.2 + 1) (oCo cc (matchZ src n w.2.1.2.1 cc w.2.1.2.1.toNat (0, 0, 0)).1 (matchZ src n w.2.1.2.1 cc w.2.1.2.1.toNat (0, 0, 0)).2 (echoZ src n w.2.1.2.1 w.2.1.2.2.1 4 0 (0, 0)).1 (echoZ src n w.2.1.2.1 w.2.1.2.2.1 4 0 (0, 0)).2) (oPa 2 ln2 ds2 ec2 li)) (by rw [sP_L8]) ?_
            refine XW.loc (lv' := [(0, .ref (s0.heap.size + 0)), (1, .int (zI (w.2.2.2 + 1)))]) ⟨rfl, rfl, trivial⟩ ?_
            have hp := eOk_pkt ok w.2.1 (2, ln2, ds2, ec2, li)
            have ht : hOk (hTell w.2.1 (2, ln2, ds2, ec2, li)) := hOk_tellC hk (by omega) (by omega) (by omega) (by omega) q5 q6
            have hn2 : (hTell w.2.1 (2, ln2, ds2, ec2, li)).2.1 = w.2.1.2.1 + ln2 := rfl
            exact ih _ _ _ _ _ _ _ _ _ _ hp.1 ht (by rw [hn2]; omega) (by show 0 ≤ w.2.2.2 + 1; omega) (by rw [hn2]; show w.2.2.2 + 1 ≤ _; omega) (by have := hp.2; show (ePkt w.2.1 (2, ln2, ds2, ec2, li) w.1).2.2.1 ≤ 4 + 30 * (w.2.2.2 + 1); omega) (by rw [hn2]; omega) hW
          · have hst : packStep cc src n w = (ePkt w.2.1 (1, ln2, ds2, ec, li) w.1, hTell w.2.1 (1, ln2, ds2, ec, li), (zup w.2.2.1.1 w.2.2.2 1, zup w.2.2.1.2.1 w.2.2.2 ln2, zup w.2.2.1.2.2 w.2.2.2 (pkVal (1, ln2, ds2, ec, li))), w.2.2.2 + 1) := by rw [packStep_eq, hq2, ePk1 _ _ _ _ ec li, hTe1 _ _ _ ec li, pkV1 _ _ ec li]
            rw [hst] at hW
            refine XW.heq (h' := sN s0.heap.size cI (sP s0.heap.size cI 8 h w (oCo cc (matchZ src n w.2.1.2.1 cc w.2.1.2.1.toNat (0, 0, 0)).1 (matchZ src n w.2.1.2.1 cc w.2.1.2.1.toNat (0, 0, 0)).2 (echoZ src n w.2.1.2.1 w.2.1.2.2.1 4 0 (0, 0)).1 (echoZ src n w.2.1.2.1 w.2.1.2.2.1 4 0 (0, 0)).2) (oPa 1 ln2 ds2 ec li)) w.1) (by rw [hq2, sP_N8]; rfl) ?_
            refine x_aload_n C d_Np_writeSource_47 rfl ?_
            refine x_get C (G_Np E.1) 10 (u_256 E.1) d_Np_writeSource_48 (by decide) (by exact h0) rfl ?_
            refine x_aload_n C d_Np_writeSource_51 rfl ?_
            refine x_get C (G_Np E.1) 7 (u_253 E.1) d_Np_writeSource_52 (by decide) (by exact h0) rfl ?_
            refine x_aload_n C d_Np_writeSource_55 rfl ?_
            refine x_get C (G_Np E.1) 8 (u_254 E.1) d_Np_writeSource_56 (by decide) (by exact h0) rfl ?_
            refine x_callVR C (G_Wr E.1) (u_422 E.1) (u_423 E.1) (u_424 E.1) (u_425 E.1) (u_8 E.1) d_Np_writeSource_59 (c_Wr_packet1 l E (by exact h22) (by exact h24) ok (by omega) (t := w.2.1) (by exact ⟨rfl, rfl, rfl, rfl⟩) hk (by rfl) q1 (by omega) q3 (by omega)) nh_Wr_writePacket ln_Wr_writePacket rfl (by exact h22) (nle rfl) (nle rfl) (nle rfl) (nle rfl) (nle rfl) ?_
            refine XW.heq (h' := sH s0.heap.size cI (sP s0.heap.size cI 8 h (ePkt w.2.1 (1, ln2, ds2, ec, li) w.1, w.2) (oCo cc (matchZ src n w.2.1.2.1 cc w.2.1.2.1.toNat (0, 0, 0)).1 (matchZ src n w.2.1.2.1 cc w.2.1.2.1.toNat (0, 0, 0)).2 (echoZ src n w.2.1.2.1 w.2.1.2.2.1 4 0 (0, 0)).1 (echoZ src n w.2.1.2.1 w.2.1.2.2.1 4 0 (0, 0)).2) (oPa 1 ln2 ds2 ec li)) w.2.1) (by rw [sP_N8, sP_H8]) ?_
            refine x_aload_n C d_Np_writeSource_62 rfl ?_
            refine x_get C (G_Np E.1) 8 (u_254 E.1) d_Np_writeSource_63 (by decide) (by exact h0) rfl ?_
            refine x_aload_n C d_Np_writeSource_66 rfl ?_
            refine x_get C (G_Np E.1) 7 (u_253 E.1) d_Np_writeSource_67 (by decide) (by exact h0) rfl ?_
            refine x_callVR C (G_Hi E.1) (u_490 E.1) (u_491 E.1) (u_492 E.1) (u_493 E.1) (u_5 E.1) d_Np_writeSource_70 (c_Hi_tell1 l E hk (by rfl) (by omega) (by omega) q3 q4) nh_Hi_tell ln_Hi_tell rfl rfl (nle rfl) (nle rfl) (nle rfl) (nle rfl) (nle rfl) ?_
            refine XW.heq (h' := sL s0.heap.size cI 8 (sP s0.heap.size cI 8 h (ePkt w.2.1 (1, ln2, ds2, ec, li) w.1, hTell w.2.1 (1, ln2, ds2, ec, li), w.2.2) (oCo cc (matchZ src n w.2.1.2.1 cc w.2.1.2.1.toNat (0, 0, 0)).1 (matchZ src n w.2.1.2.1 cc w.2.1.2.1.toNat (0, 0, 0)).2 (echoZ src n w.2.1.2.1 w.2.1.2.2.1 4 0 (0, 0)).1 (echoZ src n w.2.1.2.1 w.2.1.2.2.1 4 0 (0, 0)).2) (oPa 1 ln2 ds2 ec li)) w.2.2.1 w.2.2.2) (by rw [sP_H8, sP_L8]) ?_
            refine x_aload_n C d_Np_writeSource_73 rfl ?_
            refine x_get C (G_Np E.1) 6 (u_252 E.1) d_Np_writeSource_74 (by decide) (by exact h0) rfl ?_
            refine x_aload_n C d_Np_writeSource_77 rfl ?_
            refine x_get C (G_Np E.1) 7 (u_253 E.1) d_Np_writeSource_78 (by decide) (by exact h0) rfl ?_
            refine x_callVR C (G_Pl E.1) (u_512 E.1) (u_513 E.1) (u_514 E.1) (u_515 E.1) (u_3 E.1) d_Np_writeSource_81 (c_Pl_append8 l E (by rfl) i3 (by omega) (by decide) (by decide)) nh_Pl_append ln_Pl_append rfl rfl (nle rfl) (nle rfl) (nle rfl) (nle rfl) (nle rfl) ?_
            refine x_iinc C d_Np_writeSource_84 (by decide) rfl ?_
            refine x_goto C (tgt := 2) d_Np_writeSource_87 (by decide) ?_
            refine XW.heq (h' := sP s0.heap.size cI 8 h (ePkt w.2.1 (1, ln2, ds2, ec, li) w.1, hTell w.2.1 (1, ln2, ds2, ec, li), (zup w.2.2.1.1 w.2.2.2 1, zup w.2.2.1.2.1 w.2.2.2 ln2, zup w.2.2.1.2.2 w.2.2.2 (pkVal (1, ln2, ds2, ec, li))), w.2.2.2 + 1) (oCo cc (matchZ src n w.2.1.2.1 cc w.2.1.2.1.toNat (0, 0, 0)).1 (matchZ src n w.2.1.2.1 cc w.2.1.2.1.toNat (0, 0, 0)).2 (echoZ src n w.2.1.2.1 w.2.1.2.2.1 4 0 (0, 0)).1 (echoZ src n w.2.1.2.1 w.2.1.2.2.1 4 0 (0, 0)).2) (oPa 1 ln2 ds2 ec li)) (by rw [sP_L8]) ?_
            refine XW.loc (lv' := [(0, .ref (s0.heap.size + 0)), (1, .int (zI (w.2.2.2 + 1)))]) ⟨rfl, rfl, trivial⟩ ?_
            have hp := eOk_pkt ok w.2.1 (1, ln2, ds2, ec, li)
            have ht : hOk (hTell w.2.1 (1, ln2, ds2, ec, li)) := hOk_tellC hk (by omega) (by omega) (by omega) (by omega) q3 q4
            have hn2 : (hTell w.2.1 (1, ln2, ds2, ec, li)).2.1 = w.2.1.2.1 + ln2 := rfl
            exact ih _ _ _ _ _ _ _ _ _ _ hp.1 ht (by rw [hn2]; omega) (by show 0 ≤ w.2.2.2 + 1; omega) (by rw [hn2]; show w.2.2.2 + 1 ≤ _; omega) (by have := hp.2; show (ePkt w.2.1 (1, ln2, ds2, ec, li) w.1).2.2.1 ≤ 4 + 30 * (w.2.2.2 + 1); omega) (by rw [hn2]; omega) hW
          · have hst : packStep cc src n w = (ePkt w.2.1 (3, 1, ds2, ec, li) w.1, hTell w.2.1 (3, 1, ds2, ec, li), (zup w.2.2.1.1 w.2.2.2 3, zup w.2.2.1.2.1 w.2.2.2 1, zup w.2.2.1.2.2 w.2.2.2 (pkVal (3, 1, ds2, ec, li))), w.2.2.2 + 1) := by rw [packStep_eq, hq2, ePk3 _ _ _ _ ec li, hTe3 _ _ _ ec li, pkV3 _ _ ec li]
            rw [hst] at hW
            refine XW.heq (h' := sN s0.heap.size cI (sP s0.heap.size cI 8 h w (oCo cc (matchZ src n w.2.1.2.1 cc w.2.1.2.1.toNat (0, 0, 0)).1 (matchZ src n w.2.1.2.1 cc w.2.1.2.1.toNat (0, 0, 0)).2 (echoZ src n w.2.1.2.1 w.2.1.2.2.1 4 0 (0, 0)).1 (echoZ src n w.2.1.2.1 w.2.1.2.2.1 4 0 (0, 0)).2) (oPa 3 1 ds2 ec li)) w.1) (by rw [hq2, sP_N8]; rfl) ?_
            refine x_aload_n C d_Np_writeSource_47 rfl ?_
            refine x_get C (G_Np E.1) 10 (u_256 E.1) d_Np_writeSource_48 (by decide) (by exact h0) rfl ?_
            refine x_aload_n C d_Np_writeSource_51 rfl ?_
            refine x_get C (G_Np E.1) 7 (u_253 E.1) d_Np_writeSource_52 (by decide) (by exact h0) rfl ?_
            refine x_aload_n C d_Np_writeSource_55 rfl ?_
            refine x_get C (G_Np E.1) 8 (u_254 E.1) d_Np_writeSource_56 (by decide) (by exact h0) rfl ?_
            refine x_callVR C (G_Wr E.1) (u_422 E.1) (u_423 E.1) (u_424 E.1) (u_425 E.1) (u_8 E.1) d_Np_writeSource_59 (c_Wr_packet3 l E (by exact h22) (by exact h24) ok (by omega) (t := w.2.1) (by exact ⟨rfl, rfl, rfl, rfl⟩) hk (by rfl) ) nh_Wr_writePacket ln_Wr_writePacket rfl (by exact h22) (nle rfl) (nle rfl) (nle rfl) (nle rfl) (nle rfl) ?_
            refine XW.heq (h' := sH s0.heap.size cI (sP s0.heap.size cI 8 h (ePkt w.2.1 (3, 1, ds2, ec, li) w.1, w.2) (oCo cc (matchZ src n w.2.1.2.1 cc w.2.1.2.1.toNat (0, 0, 0)).1 (matchZ src n w.2.1.2.1 cc w.2.1.2.1.toNat (0, 0, 0)).2 (echoZ src n w.2.1.2.1 w.2.1.2.2.1 4 0 (0, 0)).1 (echoZ src n w.2.1.2.1 w.2.1.2.2.1 4 0 (0, 0)).2) (oPa 3 1 ds2 ec li)) w.2.1) (by rw [sP_N8, sP_H8]) ?_
            refine x_aload_n C d_Np_writeSource_62 rfl ?_
            refine x_get C (G_Np E.1) 8 (u_254 E.1) d_Np_writeSource_63 (by decide) (by exact h0) rfl ?_
            refine x_aload_n C d_Np_writeSource_66 rfl ?_
            refine x_get C (G_Np E.1) 7 (u_253 E.1) d_Np_writeSource_67 (by decide) (by exact h0) rfl ?_
            refine x_callVR C (G_Hi E.1) (u_490 E.1) (u_491 E.1) (u_492 E.1) (u_493 E.1) (u_5 E.1) d_Np_writeSource_70 (c_Hi_tell3 l E hk (by rfl) (by omega) (by omega) q2 q3) nh_Hi_tell ln_Hi_tell rfl rfl (nle rfl) (nle rfl) (nle rfl) (nle rfl) (nle rfl) ?_
            refine XW.heq (h' := sL s0.heap.size cI 8 (sP s0.heap.size cI 8 h (ePkt w.2.1 (3, 1, ds2, ec, li) w.1, hTell w.2.1 (3, 1, ds2, ec, li), w.2.2) (oCo cc (matchZ src n w.2.1.2.1 cc w.2.1.2.1.toNat (0, 0, 0)).1 (matchZ src n w.2.1.2.1 cc w.2.1.2.1.toNat (0, 0, 0)).2 (echoZ src n w.2.1.2.1 w.2.1.2.2.1 4 0 (0, 0)).1 (echoZ src n w.2.1.2.1 w.2.1.2.2.1 4 0 (0, 0)).2) (oPa 3 1 ds2 ec li)) w.2.2.1 w.2.2.2) (by rw [sP_H8, sP_L8]) ?_
            refine x_aload_n C d_Np_writeSource_73 rfl ?_
            refine x_get C (G_Np E.1) 6 (u_252 E.1) d_Np_writeSource_74 (by decide) (by exact h0) rfl ?_
            refine x_aload_n C d_Np_writeSource_77 rfl ?_
            refine x_get C (G_Np E.1) 7 (u_253 E.1) d_Np_writeSource_78 (by decide) (by exact h0) rfl ?_
            refine x_callVR C (G_Pl E.1) (u_512 E.1) (u_513 E.1) (u_514 E.1) (u_515 E.1) (u_3 E.1) d_Np_writeSource_81 (c_Pl_append8 l E (by rfl) i3 (by omega) (by decide) (by decide)) nh_Pl_append ln_Pl_append rfl rfl (nle rfl) (nle rfl) (nle rfl) (nle rfl) (nle rfl) ?_
            refine x_iinc C d_Np_writeSource_84 (by decide) rfl ?_
            refine x_goto C (tgt := 2) d_Np_writeSource_87 (by decide) ?_
            refine XW.heq (h' := sP s0.heap.size cI 8 h (ePkt w.2.1 (3, 1, ds2, ec, li) w.1, hTell w.2.1 (3, 1, ds2, ec, li), (zup w.2.2.1.1 w.2.2.2 3, zup w.2.2.1.2.1 w.2.2.2 1, zup w.2.2.1.2.2 w.2.2.2 (pkVal (3, 1, ds2, ec, li))), w.2.2.2 + 1) (oCo cc (matchZ src n w.2.1.2.1 cc w.2.1.2.1.toNat (0, 0, 0)).1 (matchZ src n w.2.1.2.1 cc w.2.1.2.1.toNat (0, 0, 0)).2 (echoZ src n w.2.1.2.1 w.2.1.2.2.1 4 0 (0, 0)).1 (echoZ src n w.2.1.2.1 w.2.1.2.2.1 4 0 (0, 0)).2) (oPa 3 1 ds2 ec li)) (by rw [sP_L8]) ?_
            refine XW.loc (lv' := [(0, .ref (s0.heap.size + 0)), (1, .int (zI (w.2.2.2 + 1)))]) ⟨rfl, rfl, trivial⟩ ?_
            have hp := eOk_pkt ok w.2.1 (3, 1, ds2, ec, li)
            have ht : hOk (hTell w.2.1 (3, 1, ds2, ec, li)) := hOk_tellC hk (by omega) (fun _ => q1) (by omega) (by omega) q2 q3
            have hn2 : (hTell w.2.1 (3, 1, ds2, ec, li)).2.1 = w.2.1.2.1 + 1 := rfl
            exact ih _ _ _ _ _ _ _ _ _ _ hp.1 ht (by rw [hn2]; omega) (by show 0 ≤ w.2.2.2 + 1; omega) (by rw [hn2]; show w.2.2.2 + 1 ≤ _; omega) (by have := hp.2; show (ePkt w.2.1 (3, 1, ds2, ec, li) w.1).2.2.1 ≤ 4 + 30 * (w.2.2.2 + 1); omega) (by rw [hn2]; omega) hW
          · have hst : packStep cc src n w = (ePkt w.2.1 (0, 1, 0, ec, li2) w.1, hTell w.2.1 (0, 1, 0, ec, li2), (zup w.2.2.1.1 w.2.2.2 0, zup w.2.2.1.2.1 w.2.2.2 1, zup w.2.2.1.2.2 w.2.2.2 (pkVal (0, 1, 0, ec, li2))), w.2.2.2 + 1) := by rw [packStep_eq, hq2, ePk0 _ _ _ _ ec li2, hTe0 _ _ _ ec li2, pkV0 _ _ ec li2]
            rw [hst] at hW
            refine XW.heq (h' := sN s0.heap.size cI (sP s0.heap.size cI 8 h w (oCo cc (matchZ src n w.2.1.2.1 cc w.2.1.2.1.toNat (0, 0, 0)).1 (matchZ src n w.2.1.2.1 cc w.2.1.2.1.toNat (0, 0, 0)).2 (echoZ src n w.2.1.2.1 w.2.1.2.2.1 4 0 (0, 0)).1 (echoZ src n w.2.1.2.1 w.2.1.2.2.1 4 0 (0, 0)).2) (oPa 0 1 0 ec li2)) w.1) (by rw [hq2, sP_N8]; rfl) ?_
            refine x_aload_n C d_Np_writeSource_47 rfl ?_
            refine x_get C (G_Np E.1) 10 (u_256 E.1) d_Np_writeSource_48 (by decide) (by exact h0) rfl ?_
            refine x_aload_n C d_Np_writeSource_51 rfl ?_
            refine x_get C (G_Np E.1) 7 (u_253 E.1) d_Np_writeSource_52 (by decide) (by exact h0) rfl ?_
            refine x_aload_n C d_Np_writeSource_55 rfl ?_
            refine x_get C (G_Np E.1) 8 (u_254 E.1) d_Np_writeSource_56 (by decide) (by exact h0) rfl ?_
            refine x_callVR C (G_Wr E.1) (u_422 E.1) (u_423 E.1) (u_424 E.1) (u_425 E.1) (u_8 E.1) d_Np_writeSource_59 (c_Wr_packet0 l E (by exact h22) (by exact h24) ok (by omega) (t := w.2.1) (by exact ⟨rfl, rfl, rfl, rfl⟩) hk (by rfl) q1 q2) nh_Wr_writePacket ln_Wr_writePacket rfl (by exact h22) (nle rfl) (nle rfl) (nle rfl) (nle rfl) (nle rfl) ?_
            refine XW.heq (h' := sH s0.heap.size cI (sP s0.heap.size cI 8 h (ePkt w.2.1 (0, 1, 0, ec, li2) w.1, w.2) (oCo cc (matchZ src n w.2.1.2.1 cc w.2.1.2.1.toNat (0, 0, 0)).1 (matchZ src n w.2.1.2.1 cc w.2.1.2.1.toNat (0, 0, 0)).2 (echoZ src n w.2.1.2.1 w.2.1.2.2.1 4 0 (0, 0)).1 (echoZ src n w.2.1.2.1 w.2.1.2.2.1 4 0 (0, 0)).2) (oPa 0 1 0 ec li2)) w.2.1) (by rw [sP_N8, sP_H8]) ?_
            refine x_aload_n C d_Np_writeSource_62 rfl ?_
            refine x_get C (G_Np E.1) 8 (u_254 E.1) d_Np_writeSource_63 (by decide) (by exact h0) rfl ?_
            refine x_aload_n C d_Np_writeSource_66 rfl ?_
            refine x_get C (G_Np E.1) 7 (u_253 E.1) d_Np_writeSource_67 (by decide) (by exact h0) rfl ?_
            refine x_callVR C (G_Hi E.1) (u_490 E.1) (u_491 E.1) (u_492 E.1) (u_493 E.1) (u_5 E.1) d_Np_writeSource_70 (c_Hi_tell0 l E hk (by rfl) q1 q2 (by omega)) nh_Hi_tell ln_Hi_tell rfl rfl (nle rfl) (nle rfl) (nle rfl) (nle rfl) (nle rfl) ?_
            refine XW.heq (h' := sL s0.heap.size cI 8 (sP s0.heap.size cI 8 h (ePkt w.2.1 (0, 1, 0, ec, li2) w.1, hTell w.2.1 (0, 1, 0, ec, li2), w.2.2) (oCo cc (matchZ src n w.2.1.2.1 cc w.2.1.2.1.toNat (0, 0, 0)).1 (matchZ src n w.2.1.2.1 cc w.2.1.2.1.toNat (0, 0, 0)).2 (echoZ src n w.2.1.2.1 w.2.1.2.2.1 4 0 (0, 0)).1 (echoZ src n w.2.1.2.1 w.2.1.2.2.1 4 0 (0, 0)).2) (oPa 0 1 0 ec li2)) w.2.2.1 w.2.2.2) (by rw [sP_H8, sP_L8]) ?_
            refine x_aload_n C d_Np_writeSource_73 rfl ?_
            refine x_get C (G_Np E.1) 6 (u_252 E.1) d_Np_writeSource_74 (by decide) (by exact h0) rfl ?_
            refine x_aload_n C d_Np_writeSource_77 rfl ?_
            refine x_get C (G_Np E.1) 7 (u_253 E.1) d_Np_writeSource_78 (by decide) (by exact h0) rfl ?_
            refine x_callVR C (G_Pl E.1) (u_512 E.1) (u_513 E.1) (u_514 E.1) (u_515 E.1) (u_3 E.1) d_Np_writeSource_81 (c_Pl_append8 l E (by rfl) i3 (by omega) (by decide) (by decide)) nh_Pl_append ln_Pl_append rfl rfl (nle rfl) (nle rfl) (nle rfl) (nle rfl) (nle rfl) ?_
            refine x_iinc C d_Np_writeSource_84 (by decide) rfl ?_
            refine x_goto C (tgt := 2) d_Np_writeSource_87 (by decide) ?_
            refine XW.heq (h' := sP s0.heap.size cI 8 h (ePkt w.2.1 (0, 1, 0, ec, li2) w.1, hTell w.2.1 (0, 1, 0, ec, li2), (zup w.2.2.1.1 w.2.2.2 0, zup w.2.2.1.2.1 w.2.2.2 1, zup w.2.2.1.2.2 w.2.2.2 (pkVal (0, 1, 0, ec, li2))), w.2.2.2 + 1) (oCo cc (matchZ src n w.2.1.2.1 cc w.2.1.2.1.toNat (0, 0, 0)).1 (matchZ src n w.2.1.2.1 cc w.2.1.2.1.toNat (0, 0, 0)).2 (echoZ src n w.2.1.2.1 w.2.1.2.2.1 4 0 (0, 0)).1 (echoZ src n w.2.1.2.1 w.2.1.2.2.1 4 0 (0, 0)).2) (oPa 0 1 0 ec li2)) (by rw [sP_L8]) ?_
            refine XW.loc (lv' := [(0, .ref (s0.heap.size + 0)), (1, .int (zI (w.2.2.2 + 1)))]) ⟨rfl, rfl, trivial⟩ ?_
            have hp := eOk_pkt ok w.2.1 (0, 1, 0, ec, li2)
            have ht : hOk (hTell w.2.1 (0, 1, 0, ec, li2)) := hOk_tell0 hk q1 q2 (by omega)
            have hn2 : (hTell w.2.1 (0, 1, 0, ec, li2)).2.1 = w.2.1.2.1 + 1 := rfl
            exact ih _ _ _ _ _ _ _ _ _ _ hp.1 ht (by rw [hn2]; omega) (by show 0 ≤ w.2.2.2 + 1; omega) (by rw [hn2]; show w.2.2.2 + 1 ≤ _; omega) (by have := hp.2; show (ePkt w.2.1 (0, 1, 0, ec, li2) w.1).2.2.1 ≤ 4 + 30 * (w.2.2.2 + 1); omega) (by rw [hn2]; omega) hW
    · rw [if_neg hlt] at hW
      subst hW
      have hex := ex_Np_source8 l E C hR h0 h1 h2 h22 h24 ok hk (by omega) (e := e) (args := args) (below := below) (K := K) (cc := cc) (a1 := a1) (a2 := a2) (a3 := a3) (a4 := a4) (k := k) (ln := ln) (ds := ds) (ec := ec) (li := li)
      subst hR
      refine x_iload_n C d_Np_writeSource_2 rfl ?_
      refine x_bipush C d_Np_writeSource_3 (by decide) ?_
      refine x_icmp_ge C (tgt := 90) d_Np_writeSource_5 (by decide) (by omega) (by omega) (by omega) (by omega) (fun c5 => ?_) (fun c5 => ?_)
      · exact XW.loc (lv' := [(0, .ref (s0.heap.size + 0))]) ⟨rfl, trivial⟩ hex
      · refine x_aload_n C d_Np_writeSource_8 rfl ?_
        refine x_get C (G_Np E.1) 8 (u_254 E.1) d_Np_writeSource_9 (by decide) (by exact h0) rfl ?_
        refine x_getN C (G_Hi E.1) 0 (u_122 E.1) d_Np_writeSource_12 (by decide) (by rfl) rfl ?_
        refine x_getN C (G_By E.1) 1 (u_46 E.1) d_Np_writeSource_15 (by decide) (by rfl) rfl ?_
        refine x_aload_n C d_Np_writeSource_18 rfl ?_
        refine x_get C (G_Np E.1) 0 (u_246 E.1) d_Np_writeSource_19 (by decide) (by exact h0) rfl ?_
        refine x_getN C (G_By E.1) 1 (u_46 E.1) d_Np_writeSource_22 (by decide) (by exact h1) rfl ?_
        refine x_icmp_ge C (tgt := 90) d_Np_writeSource_25 (by decide) (by omega) (by omega) (by omega) (by omega) (fun c25 => ?_) (fun c25 => ?_)
        · exact XW.loc (lv' := [(0, .ref (s0.heap.size + 0))]) ⟨rfl, trivial⟩ hex
        · exfalso; omega
set_option maxRecDepth 100000 in
set_option maxHeartbeats 4000000 in
theorem c_Np_writeSource8 {a0 : Array Value} {s0 : State} {D : va_G} {cI cL : ClassId} (l : Launch) (E : a_E a0 s0 D cI cL) {h : AH} {K kp : Nat} {has : Int} (h0 : h 0 = some (oNp s0.heap.size kp 8 has)) {src : Int → Int} {n cc : Int} (h1 : h 1 = some (oBy s0.heap.size 2 n)) (h2 : h 2 = some (iA cI 120 src)) (h22 : h 22 = some (oWr s0.heap.size)) (h24 : h 24 = some (oCh s0.heap.size 25)) (hs : ∀ q, 0 ≤ src q ∧ src q < 256) (n1 : 0 ≤ n) (n2 : n ≤ 120) (c1 : 1 ≤ cc) (c2 : cc ≤ 16) {l0 : T3} {b0 : Int → Int} (hb0 : ∀ j, 0 ≤ b0 j ∧ b0 j < 256) {a1 a2 a3 a4 k ln ds ec li : Int} {W : Pw} (hW : packLoop cc src n 120 (en0, (b0, 0, fun _ => 1, 0), l0, 0) = W) : XM l s0 D y_Np_writeSource prog_1_method_17_code 2 none 6 0 0 [.ref (s0.heap.size + 0)] (sP s0.heap.size cI 8 h (en0, (b0, 0, fun _ => 1, 0), l0, 0) (oCo cc a1 a2 a3 a4) (oPa k ln ds ec li)) (K) (PE (fun h' => ∃ b1 b2 b3 b4 b5 b6, h' = sP s0.heap.size cI 8 h (ePkt W.2.1 (4, 0, 0, 0, 0) W.1, W.2) (oCo cc b1 b2 b3 b4) (oPa 4 0 0 b5 b6)) K) := by
  refine XM.of (cI := cI) (cL := cL) (own := "NarrowingPacker") (by decide) rfl E.2 (nle rfl) ?_
  intro p e s m below meth c C hn
  refine x_iconst C d_Np_writeSource_0 ?_
  refine x_istore_n C d_Np_writeSource_1 (by decide) ?_
  refine XW.loc (lv' := [(0, .ref (s0.heap.size + 0)), (1, .int (zI 0))]) ⟨rfl, rfl, trivial⟩ ?_
  exact lp_Np_source8 l E C rfl h0 h1 h2 h22 h24 hs n2 c1 c2 120 _ _ _ _ _ _ _ _ _ _ en0_ok ⟨hb0, by show (0 : Int) ≤ 0 ∧ (0 : Int) ≤ 120; omega, fun _ => by show (1 : Int) ≤ 1 ∧ (1 : Int) ≤ 120; omega, by show (0 : Int) ≤ 0 ∧ (0 : Int) ≤ 11; omega, fun h7 => by exfalso; have h8 : (7 : Int) ≤ 0 := h7; omega⟩ n1 (by show (0 : Int) ≤ 0; omega) (by show (0 : Int) ≤ 0; omega) (by show (4 : Int) ≤ 4 + 30 * 0; omega) (by show n - 0 ≤ 120; omega) hW

set_option maxRecDepth 100000 in
set_option maxHeartbeats 4000000 in
theorem ex_Np_source12 {a0 : Array Value} {s0 : State} {D : va_G} {cI cL : ClassId} (l : Launch) (E : a_E a0 s0 D cI cL) {p : Program} {e : Env} {R : Room} {s : State} {m : MethodId} {args : Array Value} {below : List Frame} {meth : Method} {c : Code} (C : XC s0 D cI cL p s m meth c "NarrowingPacker" prog_1_method_17_code 2 none []) (hR : R = a_rm 6 0 0) {h : AH} {K kp : Nat} {has : Int} (h0 : h 0 = some (oNp s0.heap.size kp 12 has)) {src : Int → Int} {n cc : Int} (h1 : h 1 = some (oBy s0.heap.size 2 n)) (h2 : h 2 = some (iA cI 120 src)) (h22 : h 22 = some (oWr s0.heap.size)) (h24 : h 24 = some (oCh s0.heap.size 25)) {W : Pw} (ok : eOk W.1) (hk : hOk W.2.1) (lx : W.1.2.2.1 < 90000) {a1 a2 a3 a4 k ln ds ec li : Int} : XW s0 D p l e R s m args below meth c (XQ s0 D 0 0 (PE (fun h' => ∃ b1 b2 b3 b4 b5 b6, h' = sP s0.heap.size cI 12 h (ePkt W.2.1 (4, 0, 0, 0, 0) W.1, W.2) (oCo cc b1 b2 b3 b4) (oPa 4 0 0 b5 b6)) K) below s) 90 [(0, .ref (s0.heap.size + 0))] [] (sP s0.heap.size cI 12 h W (oCo cc a1 a2 a3 a4) (oPa k ln ds ec li)) K 0 0 := by
  subst hR
  refine x_aload_n C d_Np_writeSource_90 rfl ?_
  refine x_get C (G_Np E.1) 7 (u_253 E.1) d_Np_writeSource_91 (by decide) (by exact h0) rfl ?_
  refine x_callVR C (G_Pa E.1) (u_516 E.1) (u_517 E.1) (u_518 E.1) (u_519 E.1) (u_4 E.1) d_Np_writeSource_94 (c_Pa_becomeEnd l E (by rfl)) nh_Pa_becomeEnd ln_Pa_becomeEnd rfl rfl (nle rfl) (nle rfl) (nle rfl) (nle rfl) (nle rfl) ?_
  refine XW.heq (h' := sN s0.heap.size cI (sP s0.heap.size cI 12 h W (oCo cc a1 a2 a3 a4) (oPa 4 0 0 ec li)) W.1) (by rw [sP_A, sP_N12]) ?_
  refine x_aload_n C d_Np_writeSource_97 rfl ?_
  refine x_get C (G_Np E.1) 10 (u_256 E.1) d_Np_writeSource_98 (by decide) (by exact h0) rfl ?_
  refine x_aload_n C d_Np_writeSource_101 rfl ?_
  refine x_get C (G_Np E.1) 7 (u_253 E.1) d_Np_writeSource_102 (by decide) (by exact h0) rfl ?_
  refine x_aload_n C d_Np_writeSource_105 rfl ?_
  refine x_get C (G_Np E.1) 8 (u_254 E.1) d_Np_writeSource_106 (by decide) (by exact h0) rfl ?_
  refine x_callVR C (G_Wr E.1) (u_422 E.1) (u_423 E.1) (u_424 E.1) (u_425 E.1) (u_8 E.1) d_Np_writeSource_109 (c_Wr_packet4 l E (by exact h22) (by exact h24) ok (by omega) (t := W.2.1) (by exact ⟨rfl, rfl, rfl, rfl⟩) hk (by rfl)) nh_Wr_writePacket ln_Wr_writePacket rfl (by exact h22) (nle rfl) (nle rfl) (nle rfl) (nle rfl) (nle rfl) ?_
  exact x_vret C d_Np_writeSource_112 (nle rfl) (nle rfl) ⟨rfl, rfl, a1, a2, a3, a4, ec, li, by rw [sP_N12]; rfl⟩
set_option maxRecDepth 100000 in
set_option maxHeartbeats 8000000 in
theorem lp_Np_source12 {a0 : Array Value} {s0 : State} {D : va_G} {cI cL : ClassId} (l : Launch) (E : a_E a0 s0 D cI cL) {p : Program} {e : Env} {R : Room} {s : State} {m : MethodId} {args : Array Value} {below : List Frame} {meth : Method} {c : Code} (C : XC s0 D cI cL p s m meth c "NarrowingPacker" prog_1_method_17_code 2 none []) (hR : R = a_rm 6 0 0) {h : AH} {K kp : Nat} {has : Int} (h0 : h 0 = some (oNp s0.heap.size kp 12 has)) {src : Int → Int} {n cc : Int} (h1 : h 1 = some (oBy s0.heap.size 2 n)) (h2 : h 2 = some (iA cI 120 src)) (h22 : h 22 = some (oWr s0.heap.size)) (h24 : h 24 = some (oCh s0.heap.size 25)) (hs : ∀ q, 0 ≤ src q ∧ src q < 256) (n2 : n ≤ 120) (c1 : 1 ≤ cc) (c2 : cc ≤ 16) {W : Pw} : ∀ (r : Nat) (w : Pw) (a1 a2 a3 a4 k ln ds ec li : Int), eOk w.1 → hOk w.2.1 → w.2.1.2.1 ≤ n → 0 ≤ w.2.2.2 → w.2.2.2 ≤ w.2.1.2.1 → w.1.2.2.1 ≤ 4 + 30 * w.2.2.2 → n - w.2.1.2.1 ≤ (r : Int) → packLoop cc src n r w = W → XW s0 D p l e R s m args below meth c (XQ s0 D 0 0 (PE (fun h' => ∃ b1 b2 b3 b4 b5 b6, h' = sP s0.heap.size cI 12 h (ePkt W.2.1 (4, 0, 0, 0, 0) W.1, W.2) (oCo cc b1 b2 b3 b4) (oPa 4 0 0 b5 b6)) K) below s) 2 [(0, .ref (s0.heap.size + 0)), (1, .int (zI w.2.2.2))] [] (sP s0.heap.size cI 12 h w (oCo cc a1 a2 a3 a4) (oPa k ln ds ec li)) K 0 0 := by
  intro r
  induction r with
  | zero =>
    intro w a1 a2 a3 a4 k ln ds ec li ok hk i1 i3 i4 i5 i6 hW
    have hW : w = W := hW
    subst hW
    have hn := hk.2.1
    have hex := ex_Np_source12 l E C hR h0 h1 h2 h22 h24 ok hk (by omega) (e := e) (args := args) (below := below) (K := K) (cc := cc) (a1 := a1) (a2 := a2) (a3 := a3) (a4 := a4) (k := k) (ln := ln) (ds := ds) (ec := ec) (li := li)
    subst hR
    refine x_iload_n C d_Np_writeSource_2 rfl ?_
    refine x_bipush C d_Np_writeSource_3 (by decide) ?_
    refine x_icmp_ge C (tgt := 90) d_Np_writeSource_5 (by decide) (by omega) (by omega) (by omega) (by omega) (fun c5 => ?_) (fun c5 => ?_)
    · exact XW.loc (lv' := [(0, .ref (s0.heap.size + 0))]) ⟨rfl, trivial⟩ hex
    · refine x_aload_n C d_Np_writeSource_8 rfl ?_
      refine x_get C (G_Np E.1) 8 (u_254 E.1) d_Np_writeSource_9 (by decide) (by exact h0) rfl ?_
      refine x_getN C (G_Hi E.1) 0 (u_122 E.1) d_Np_writeSource_12 (by decide) (by rfl) rfl ?_
      refine x_getN C (G_By E.1) 1 (u_46 E.1) d_Np_writeSource_15 (by decide) (by rfl) rfl ?_
      refine x_aload_n C d_Np_writeSource_18 rfl ?_
      refine x_get C (G_Np E.1) 0 (u_246 E.1) d_Np_writeSource_19 (by decide) (by exact h0) rfl ?_
      refine x_getN C (G_By E.1) 1 (u_46 E.1) d_Np_writeSource_22 (by decide) (by exact h1) rfl ?_
      refine x_icmp_ge C (tgt := 90) d_Np_writeSource_25 (by decide) (by omega) (by omega) (by omega) (by omega) (fun c25 => ?_) (fun c25 => ?_)
      · exact XW.loc (lv' := [(0, .ref (s0.heap.size + 0))]) ⟨rfl, trivial⟩ hex
      · exfalso; omega
  | succ r ih =>
    intro w a1 a2 a3 a4 k ln ds ec li ok hk i1 i3 i4 i5 i6 hW
    have hn := hk.2.1
    simp only [packLoop] at hW
    by_cases hlt : w.2.1.2.1 < n
    · rw [if_pos hlt] at hW
      have hch := choose_ok (c := cc) hs hk hlt
      have hq : packStep cc src n w = packStep cc src n w := rfl
      subst hR
      refine x_iload_n C d_Np_writeSource_2 rfl ?_
      refine x_bipush C d_Np_writeSource_3 (by decide) ?_
      refine x_icmp_ge C (tgt := 90) d_Np_writeSource_5 (by decide) (by omega) (by omega) (by omega) (by omega) (fun c5 => ?_) (fun c5 => ?_)
      · exfalso; omega
      · refine x_aload_n C d_Np_writeSource_8 rfl ?_
        refine x_get C (G_Np E.1) 8 (u_254 E.1) d_Np_writeSource_9 (by decide) (by exact h0) rfl ?_
        refine x_getN C (G_Hi E.1) 0 (u_122 E.1) d_Np_writeSource_12 (by decide) (by rfl) rfl ?_
        refine x_getN C (G_By E.1) 1 (u_46 E.1) d_Np_writeSource_15 (by decide) (by rfl) rfl ?_
        refine x_aload_n C d_Np_writeSource_18 rfl ?_
        refine x_get C (G_Np E.1) 0 (u_246 E.1) d_Np_writeSource_19 (by decide) (by exact h0) rfl ?_
        refine x_getN C (G_By E.1) 1 (u_46 E.1) d_Np_writeSource_22 (by decide) (by exact h1) rfl ?_
        refine x_icmp_ge C (tgt := 90) d_Np_writeSource_25 (by decide) (by omega) (by omega) (by omega) (by omega) (fun c25 => ?_) (fun c25 => ?_)
        · exfalso; omega
        · refine x_aload_n C d_Np_writeSource_28 rfl ?_
          refine x_get C (G_Np E.1) 9 (u_255 E.1) d_Np_writeSource_29 (by decide) (by exact h0) rfl ?_
          refine x_aload_n C d_Np_writeSource_32 rfl ?_
          refine x_get C (G_Np E.1) 7 (u_253 E.1) d_Np_writeSource_33 (by decide) (by exact h0) rfl ?_
          refine x_aload_n C d_Np_writeSource_36 rfl ?_
          refine x_get C (G_Np E.1) 0 (u_246 E.1) d_Np_writeSource_37 (by decide) (by exact h0) rfl ?_
          refine x_aload_n C d_Np_writeSource_40 rfl ?_
          refine x_get C (G_Np E.1) 8 (u_254 E.1) d_Np_writeSource_41 (by decide) (by exact h0) rfl ?_
          refine x_callVR C (G_Co E.1) (u_386 E.1) (u_387 E.1) (u_388 E.1) (u_389 E.1) (u_6 E.1) d_Np_writeSource_44 (c_Co_choose l E (t := w.2.1) (by rfl) (by rfl) (by exact h1) (by exact h2) hs (by exact ⟨rfl, rfl, rfl, rfl⟩) hk hlt n2 c1 c2) nh_Co_choose ln_Co_choose rfl rfl (nle rfl) (nle rfl) (nle rfl) (nle rfl) (nle rfl) ?_
          refine XW.heq (h' := sP s0.heap.size cI 12 h w (oCo cc (matchZ src n w.2.1.2.1 cc w.2.1.2.1.toNat (0, 0, 0)).1 (matchZ src n w.2.1.2.1 cc w.2.1.2.1.toNat (0, 0, 0)).2 (echoZ src n w.2.1.2.1 w.2.1.2.2.1 4 0 (0, 0)).1 (echoZ src n w.2.1.2.1 w.2.1.2.2.1 4 0 (0, 0)).2) (pkSt (chooseZ cc src n w.2.1) ec li)) (sP_C _ _ _ _ _ _ _ _ _) ?_
          rcases hch with ⟨ln2, ds2, ec2, hq2, q1, q2, q3, q4, q5, q6⟩ | ⟨ln2, ds2, hq2, q1, q2, q3, q4⟩ | ⟨ds2, hq2, q1, q2, q3⟩ | ⟨li2, hq2, q1, q2⟩
          · have hst : packStep cc src n w = (ePkt w.2.1 (2, ln2, ds2, ec2, li) w.1, hTell w.2.1 (2, ln2, ds2, ec2, li), (zup w.2.2.1.1 w.2.2.2 2, zup w.2.2.1.2.1 w.2.2.2 ln2, zup w.2.2.1.2.2 w.2.2.2 (pkVal (2, ln2, ds2, ec2, li))), w.2.2.2 + 1) := by rw [packStep_eq, hq2, ePk2 _ _ _ _ ec2 li, hTe2 _ _ _ ec2 li, pkV2 _ _ ec2 li]
            rw [hst] at hW
            refine XW.heq (h' := sN s0.heap.size cI (sP s0.heap.size cI 12 h w (oCo cc (matchZ src n w.2.1.2.1 cc w.2.1.2.1.toNat (0, 0, 0)).1 (matchZ src n w.2.1.2.1 cc w.2.1.2.1.toNat (0, 0, 0)).2 (echoZ src n w.2.1.2.1 w.2.1.2.2.1 4 0 (0, 0)).1 (echoZ src n w.2.1.2.1 w.2.1.2.2.1 4 0 (0, 0)).2) (oPa 2 ln2 ds2 ec2 li)) w.1) (by rw [hq2, sP_N12]; rfl) ?_
            refine x_aload_n C d_Np_writeSource_47 rfl ?_
            refine x_get C (G_Np E.1) 10 (u_256 E.1) d_Np_writeSource_48 (by decide) (by exact h0) rfl ?_
            refine x_aload_n C d_Np_writeSource_51 rfl ?_
            refine x_get C (G_Np E.1) 7 (u_253 E.1) d_Np_writeSource_52 (by decide) (by exact h0) rfl ?_
            refine x_aload_n C d_Np_writeSource_55 rfl ?_
            refine x_get C (G_Np E.1) 8 (u_254 E.1) d_Np_writeSource_56 (by decide) (by exact h0) rfl ?_
            refine x_callVR C (G_Wr E.1) (u_422 E.1) (u_423 E.1) (u_424 E.1) (u_425 E.1) (u_8 E.1) d_Np_writeSource_59 (c_Wr_packet2 l E (by exact h22) (by exact h24) ok (by omega) (t := w.2.1) (by exact ⟨rfl, rfl, rfl, rfl⟩) hk (by rfl) q3 q4 q1 (by omega)) nh_Wr_writePacket ln_Wr_writePacket rfl (by exact h22) (nle rfl) (nle rfl) (nle rfl) (nle rfl) (nle rfl) ?_
            refine XW.heq (h' := sH s0.heap.size cI (sP s0.heap.size cI 12 h (ePkt w.2.1 (2, ln2, ds2, ec2, li) w.1, w.2) (oCo cc (matchZ src n w.2.1.2.1 cc w.2.1.2.1.toNat (0, 0, 0)).1 (matchZ src n w.2.1.2.1 cc w.2.1.2.1.toNat (0, 0, 0)).2 (echoZ src n w.2.1.2.1 w.2.1.2.2.1 4 0 (0, 0)).1 (echoZ src n w.2.1.2.1 w.2.1.2.2.1 4 0 (0, 0)).2) (oPa 2 ln2 ds2 ec2 li)) w.2.1) (by rw [sP_N12, sP_H12]) ?_
            refine x_aload_n C d_Np_writeSource_62 rfl ?_
            refine x_get C (G_Np E.1) 8 (u_254 E.1) d_Np_writeSource_63 (by decide) (by exact h0) rfl ?_
            refine x_aload_n C d_Np_writeSource_66 rfl ?_
            refine x_get C (G_Np E.1) 7 (u_253 E.1) d_Np_writeSource_67 (by decide) (by exact h0) rfl ?_
            refine x_callVR C (G_Hi E.1) (u_490 E.1) (u_491 E.1) (u_492 E.1) (u_493 E.1) (u_5 E.1) d_Np_writeSource_70 (c_Hi_tell2 l E hk (by rfl) q3 q4 (by omega) (by omega) q5 q6) nh_Hi_tell ln_Hi_tell rfl rfl (nle rfl) (nle rfl) (nle rfl) (nle rfl) (nle rfl) ?_
            refine XW.heq (h' := sL s0.heap.size cI 12 (sP s0.heap.size cI 12 h (ePkt w.2.1 (2, ln2, ds2, ec2, li) w.1, hTell w.2.1 (2, ln2, ds2, ec2, li), w.2.2) (oCo cc (matchZ src n w.2.1.2.1 cc w.2.1.2.1.toNat (0, 0, 0)).1 (matchZ src n w.2.1.2.1 cc w.2.1.2.1.toNat (0, 0, 0)).2 (echoZ src n w.2.1.2.1 w.2.1.2.2.1 4 0 (0, 0)).1 (echoZ src n w.2.1.2.1 w.2.1.2.2.1 4 0 (0, 0)).2) (oPa 2 ln2 ds2 ec2 li)) w.2.2.1 w.2.2.2) (by rw [sP_H12, sP_L12]) ?_
            refine x_aload_n C d_Np_writeSource_73 rfl ?_
            refine x_get C (G_Np E.1) 6 (u_252 E.1) d_Np_writeSource_74 (by decide) (by exact h0) rfl ?_
            refine x_aload_n C d_Np_writeSource_77 rfl ?_
            refine x_get C (G_Np E.1) 7 (u_253 E.1) d_Np_writeSource_78 (by decide) (by exact h0) rfl ?_
            refine x_callVR C (G_Pl E.1) (u_512 E.1) (u_513 E.1) (u_514 E.1) (u_515 E.1) (u_3 E.1) d_Np_writeSource_81 (c_Pl_append12 l E (by rfl) i3 (by omega) (by decide) (by decide)) nh_Pl_append ln_Pl_append rfl rfl (nle rfl) (nle rfl) (nle rfl) (nle rfl) (nle rfl) ?_
            refine x_iinc C d_Np_writeSource_84 (by decide) rfl ?_
            refine x_goto C (tgt := 2) d_Np_writeSource_87 (by decide) ?_
            refine XW.heq (h' := sP s0.heap.size cI 12 h (ePkt w.2.1 (2, ln2, ds2, ec2, li) w.1, hTell w.2.1 (2, ln2, ds2, ec2, li), (zup w.2.2.1.1 w.2.2.2 2, zup w.2.2.1.2.1 w.2.2.2 ln2, zup w.2.2.1.2.2 w.2.2.2 (pkVal (2, ln2, ds2, ec2, li))), w.2.2.2 + 1) (oCo cc (matchZ src n w.2.1.2.1 cc w.2.1.2.1.toNat (0, 0, 0)).1 (matchZ src n w.2.1.2.1 cc w.2.1.2.1.toNat (0, 0, 0)).2 (echoZ src n w.2.1.2.1 w.2.1.2.2.1 4 0 (0, 0)).1 (echoZ src n w.2.1.2.1 w.2.1.2.2.1 4 0 (0, 0)).2) (oPa 2 ln2 ds2 ec2 li)) (by rw [sP_L12]) ?_
            refine XW.loc (lv' := [(0, .ref (s0.heap.size + 0)), (1, .int (zI (w.2.2.2 + 1)))]) ⟨rfl, rfl, trivial⟩ ?_
            have hp := eOk_pkt ok w.2.1 (2, ln2, ds2, ec2, li)
            have ht : hOk (hTell w.2.1 (2, ln2, ds2, ec2, li)) := hOk_tellC hk (by omega) (by omega) (by omega) (by omega) q5 q6
            have hn2 : (hTell w.2.1 (2, ln2, ds2, ec2, li)).2.1 = w.2.1.2.1 + ln2 := rfl
            exact ih _ _ _ _ _ _ _ _ _ _ hp.1 ht (by rw [hn2]; omega) (by show 0 ≤ w.2.2.2 + 1; omega) (by rw [hn2]; show w.2.2.2 + 1 ≤ _; omega) (by have := hp.2; show (ePkt w.2.1 (2, ln2, ds2, ec2, li) w.1).2.2.1 ≤ 4 + 30 * (w.2.2.2 + 1); omega) (by rw [hn2]; omega) hW
          · have hst : packStep cc src n w = (ePkt w.2.1 (1, ln2, ds2, ec, li) w.1, hTell w.2.1 (1, ln2, ds2, ec, li), (zup w.2.2.1.1 w.2.2.2 1, zup w.2.2.1.2.1 w.2.2.2 ln2, zup w.2.2.1.2.2 w.2.2.2 (pkVal (1, ln2, ds2, ec, li))), w.2.2.2 + 1) := by rw [packStep_eq, hq2, ePk1 _ _ _ _ ec li, hTe1 _ _ _ ec li, pkV1 _ _ ec li]
            rw [hst] at hW
            refine XW.heq (h' := sN s0.heap.size cI (sP s0.heap.size cI 12 h w (oCo cc (matchZ src n w.2.1.2.1 cc w.2.1.2.1.toNat (0, 0, 0)).1 (matchZ src n w.2.1.2.1 cc w.2.1.2.1.toNat (0, 0, 0)).2 (echoZ src n w.2.1.2.1 w.2.1.2.2.1 4 0 (0, 0)).1 (echoZ src n w.2.1.2.1 w.2.1.2.2.1 4 0 (0, 0)).2) (oPa 1 ln2 ds2 ec li)) w.1) (by rw [hq2, sP_N12]; rfl) ?_
            refine x_aload_n C d_Np_writeSource_47 rfl ?_
            refine x_get C (G_Np E.1) 10 (u_256 E.1) d_Np_writeSource_48 (by decide) (by exact h0) rfl ?_
            refine x_aload_n C d_Np_writeSource_51 rfl ?_
            refine x_get C (G_Np E.1) 7 (u_253 E.1) d_Np_writeSource_52 (by decide) (by exact h0) rfl ?_
            refine x_aload_n C d_Np_writeSource_55 rfl ?_
            refine x_get C (G_Np E.1) 8 (u_254 E.1) d_Np_writeSource_56 (by decide) (by exact h0) rfl ?_
            refine x_callVR C (G_Wr E.1) (u_422 E.1) (u_423 E.1) (u_424 E.1) (u_425 E.1) (u_8 E.1) d_Np_writeSource_59 (c_Wr_packet1 l E (by exact h22) (by exact h24) ok (by omega) (t := w.2.1) (by exact ⟨rfl, rfl, rfl, rfl⟩) hk (by rfl) q1 (by omega) q3 (by omega)) nh_Wr_writePacket ln_Wr_writePacket rfl (by exact h22) (nle rfl) (nle rfl) (nle rfl) (nle rfl) (nle rfl) ?_
            refine XW.heq (h' := sH s0.heap.size cI (sP s0.heap.size cI 12 h (ePkt w.2.1 (1, ln2, ds2, ec, li) w.1, w.2) (oCo cc (matchZ src n w.2.1.2.1 cc w.2.1.2.1.toNat (0, 0, 0)).1 (matchZ src n w.2.1.2.1 cc w.2.1.2.1.toNat (0, 0, 0)).2 (echoZ src n w.2.1.2.1 w.2.1.2.2.1 4 0 (0, 0)).1 (echoZ src n w.2.1.2.1 w.2.1.2.2.1 4 0 (0, 0)).2) (oPa 1 ln2 ds2 ec li)) w.2.1) (by rw [sP_N12, sP_H12]) ?_
            refine x_aload_n C d_Np_writeSource_62 rfl ?_
            refine x_get C (G_Np E.1) 8 (u_254 E.1) d_Np_writeSource_63 (by decide) (by exact h0) rfl ?_
            refine x_aload_n C d_Np_writeSource_66 rfl ?_
            refine x_get C (G_Np E.1) 7 (u_253 E.1) d_Np_writeSource_67 (by decide) (by exact h0) rfl ?_
            refine x_callVR C (G_Hi E.1) (u_490 E.1) (u_491 E.1) (u_492 E.1) (u_493 E.1) (u_5 E.1) d_Np_writeSource_70 (c_Hi_tell1 l E hk (by rfl) (by omega) (by omega) q3 q4) nh_Hi_tell ln_Hi_tell rfl rfl (nle rfl) (nle rfl) (nle rfl) (nle rfl) (nle rfl) ?_
            refine XW.heq (h' := sL s0.heap.size cI 12 (sP s0.heap.size cI 12 h (ePkt w.2.1 (1, ln2, ds2, ec, li) w.1, hTell w.2.1 (1, ln2, ds2, ec, li), w.2.2) (oCo cc (matchZ src n w.2.1.2.1 cc w.2.1.2.1.toNat (0, 0, 0)).1 (matchZ src n w.2.1.2.1 cc w.2.1.2.1.toNat (0, 0, 0)).2 (echoZ src n w.2.1.2.1 w.2.1.2.2.1 4 0 (0, 0)).1 (echoZ src n w.2.1.2.1 w.2.1.2.2.1 4 0 (0, 0)).2) (oPa 1 ln2 ds2 ec li)) w.2.2.1 w.2.2.2) (by rw [sP_H12, sP_L12]) ?_
            refine x_aload_n C d_Np_writeSource_73 rfl ?_
            refine x_get C (G_Np E.1) 6 (u_252 E.1) d_Np_writeSource_74 (by decide) (by exact h0) rfl ?_
            refine x_aload_n C d_Np_writeSource_77 rfl ?_
            refine x_get C (G_Np E.1) 7 (u_253 E.1) d_Np_writeSource_78 (by decide) (by exact h0) rfl ?_
            refine x_callVR C (G_Pl E.1) (u_512 E.1) (u_513 E.1) (u_514 E.1) (u_515 E.1) (u_3 E.1) d_Np_writeSource_81 (c_Pl_append12 l E (by rfl) i3 (by omega) (by decide) (by decide)) nh_Pl_append ln_Pl_append rfl rfl (nle rfl) (nle rfl) (nle rfl) (nle rfl) (nle rfl) ?_
            refine x_iinc C d_Np_writeSource_84 (by decide) rfl ?_
            refine x_goto C (tgt := 2) d_Np_writeSource_87 (by decide) ?_
            refine XW.heq (h' := sP s0.heap.size cI 12 h (ePkt w.2.1 (1, ln2, ds2, ec, li) w.1, hTell w.2.1 (1, ln2, ds2, ec, li), (zup w.2.2.1.1 w.2.2.2 1, zup w.2.2.1.2.1 w.2.2.2 ln2, zup w.2.2.1.2.2 w.2.2.2 (pkVal (1, ln2, ds2, ec, li))), w.2.2.2 + 1) (oCo cc (matchZ src n w.2.1.2.1 cc w.2.1.2.1.toNat (0, 0, 0)).1 (matchZ src n w.2.1.2.1 cc w.2.1.2.1.toNat (0, 0, 0)).2 (echoZ src n w.2.1.2.1 w.2.1.2.2.1 4 0 (0, 0)).1 (echoZ src n w.2.1.2.1 w.2.1.2.2.1 4 0 (0, 0)).2) (oPa 1 ln2 ds2 ec li)) (by rw [sP_L12]) ?_
            refine XW.loc (lv' := [(0, .ref (s0.heap.size + 0)), (1, .int (zI (w.2.2.2 + 1)))]) ⟨rfl, rfl, trivial⟩ ?_
            have hp := eOk_pkt ok w.2.1 (1, ln2, ds2, ec, li)
            have ht : hOk (hTell w.2.1 (1, ln2, ds2, ec, li)) := hOk_tellC hk (by omega) (by omega) (by omega) (by omega) q3 q4
            have hn2 : (hTell w.2.1 (1, ln2, ds2, ec, li)).2.1 = w.2.1.2.1 + ln2 := rfl
            exact ih _ _ _ _ _ _ _ _ _ _ hp.1 ht (by rw [hn2]; omega) (by show 0 ≤ w.2.2.2 + 1; omega) (by rw [hn2]; show w.2.2.2 + 1 ≤ _; omega) (by have := hp.2; show (ePkt w.2.1 (1, ln2, ds2, ec, li) w.1).2.2.1 ≤ 4 + 30 * (w.2.2.2 + 1); omega) (by rw [hn2]; omega) hW
          · have hst : packStep cc src n w = (ePkt w.2.1 (3, 1, ds2, ec, li) w.1, hTell w.2.1 (3, 1, ds2, ec, li), (zup w.2.2.1.1 w.2.2.2 3, zup w.2.2.1.2.1 w.2.2.2 1, zup w.2.2.1.2.2 w.2.2.2 (pkVal (3, 1, ds2, ec, li))), w.2.2.2 + 1) := by rw [packStep_eq, hq2, ePk3 _ _ _ _ ec li, hTe3 _ _ _ ec li, pkV3 _ _ ec li]
            rw [hst] at hW
            refine XW.heq (h' := sN s0.heap.size cI (sP s0.heap.size cI 12 h w (oCo cc (matchZ src n w.2.1.2.1 cc w.2.1.2.1.toNat (0, 0, 0)).1 (matchZ src n w.2.1.2.1 cc w.2.1.2.1.toNat (0, 0, 0)).2 (echoZ src n w.2.1.2.1 w.2.1.2.2.1 4 0 (0, 0)).1 (echoZ src n w.2.1.2.1 w.2.1.2.2.1 4 0 (0, 0)).2) (oPa 3 1 ds2 ec li)) w.1) (by rw [hq2, sP_N12]; rfl) ?_
            refine x_aload_n C d_Np_writeSource_47 rfl ?_
            refine x_get C (G_Np E.1) 10 (u_256 E.1) d_Np_writeSource_48 (by decide) (by exact h0) rfl ?_
            refine x_aload_n C d_Np_writeSource_51 rfl ?_
            refine x_get C (G_Np E.1) 7 (u_253 E.1) d_Np_writeSource_52 (by decide) (by exact h0) rfl ?_
            refine x_aload_n C d_Np_writeSource_55 rfl ?_
            refine x_get C (G_Np E.1) 8 (u_254 E.1) d_Np_writeSource_56 (by decide) (by exact h0) rfl ?_
            refine x_callVR C (G_Wr E.1) (u_422 E.1) (u_423 E.1) (u_424 E.1) (u_425 E.1) (u_8 E.1) d_Np_writeSource_59 (c_Wr_packet3 l E (by exact h22) (by exact h24) ok (by omega) (t := w.2.1) (by exact ⟨rfl, rfl, rfl, rfl⟩) hk (by rfl) ) nh_Wr_writePacket ln_Wr_writePacket rfl (by exact h22) (nle rfl) (nle rfl) (nle rfl) (nle rfl) (nle rfl) ?_
            refine XW.heq (h' := sH s0.heap.size cI (sP s0.heap.size cI 12 h (ePkt w.2.1 (3, 1, ds2, ec, li) w.1, w.2) (oCo cc (matchZ src n w.2.1.2.1 cc w.2.1.2.1.toNat (0, 0, 0)).1 (matchZ src n w.2.1.2.1 cc w.2.1.2.1.toNat (0, 0, 0)).2 (echoZ src n w.2.1.2.1 w.2.1.2.2.1 4 0 (0, 0)).1 (echoZ src n w.2.1.2.1 w.2.1.2.2.1 4 0 (0, 0)).2) (oPa 3 1 ds2 ec li)) w.2.1) (by rw [sP_N12, sP_H12]) ?_
            refine x_aload_n C d_Np_writeSource_62 rfl ?_
            refine x_get C (G_Np E.1) 8 (u_254 E.1) d_Np_writeSource_63 (by decide) (by exact h0) rfl ?_
            refine x_aload_n C d_Np_writeSource_66 rfl ?_
            refine x_get C (G_Np E.1) 7 (u_253 E.1) d_Np_writeSource_67 (by decide) (by exact h0) rfl ?_
            refine x_callVR C (G_Hi E.1) (u_490 E.1) (u_491 E.1) (u_492 E.1) (u_493 E.1) (u_5 E.1) d_Np_writeSource_70 (c_Hi_tell3 l E hk (by rfl) (by omega) (by omega) q2 q3) nh_Hi_tell ln_Hi_tell rfl rfl (nle rfl) (nle rfl) (nle rfl) (nle rfl) (nle rfl) ?_
            refine XW.heq (h' := sL s0.heap.size cI 12 (sP s0.heap.size cI 12 h (ePkt w.2.1 (3, 1, ds2, ec, li) w.1, hTell w.2.1 (3, 1, ds2, ec, li), w.2.2) (oCo cc (matchZ src n w.2.1.2.1 cc w.2.1.2.1.toNat (0, 0, 0)).1 (matchZ src n w.2.1.2.1 cc w.2.1.2.1.toNat (0, 0, 0)).2 (echoZ src n w.2.1.2.1 w.2.1.2.2.1 4 0 (0, 0)).1 (echoZ src n w.2.1.2.1 w.2.1.2.2.1 4 0 (0, 0)).2) (oPa 3 1 ds2 ec li)) w.2.2.1 w.2.2.2) (by rw [sP_H12, sP_L12]) ?_
            refine x_aload_n C d_Np_writeSource_73 rfl ?_
            refine x_get C (G_Np E.1) 6 (u_252 E.1) d_Np_writeSource_74 (by decide) (by exact h0) rfl ?_
            refine x_aload_n C d_Np_writeSource_77 rfl ?_
            refine x_get C (G_Np E.1) 7 (u_253 E.1) d_Np_writeSource_78 (by decide) (by exact h0) rfl ?_
            refine x_callVR C (G_Pl E.1) (u_512 E.1) (u_513 E.1) (u_514 E.1) (u_515 E.1) (u_3 E.1) d_Np_writeSource_81 (c_Pl_append12 l E (by rfl) i3 (by omega) (by decide) (by decide)) nh_Pl_append ln_Pl_append rfl rfl (nle rfl) (nle rfl) (nle rfl) (nle rfl) (nle rfl) ?_
            refine x_iinc C d_Np_writeSource_84 (by decide) rfl ?_
            refine x_goto C (tgt := 2) d_Np_writeSource_87 (by decide) ?_
            refine XW.heq (h' := sP s0.heap.size cI 12 h (ePkt w.2.1 (3, 1, ds2, ec, li) w.1, hTell w.2.1 (3, 1, ds2, ec, li), (zup w.2.2.1.1 w.2.2.2 3, zup w.2.2.1.2.1 w.2.2.2 1, zup w.2.2.1.2.2 w.2.2.2 (pkVal (3, 1, ds2, ec, li))), w.2.2.2 + 1) (oCo cc (matchZ src n w.2.1.2.1 cc w.2.1.2.1.toNat (0, 0, 0)).1 (matchZ src n w.2.1.2.1 cc w.2.1.2.1.toNat (0, 0, 0)).2 (echoZ src n w.2.1.2.1 w.2.1.2.2.1 4 0 (0, 0)).1 (echoZ src n w.2.1.2.1 w.2.1.2.2.1 4 0 (0, 0)).2) (oPa 3 1 ds2 ec li)) (by rw [sP_L12]) ?_
            refine XW.loc (lv' := [(0, .ref (s0.heap.size + 0)), (1, .int (zI (w.2.2.2 + 1)))]) ⟨rfl, rfl, trivial⟩ ?_
            have hp := eOk_pkt ok w.2.1 (3, 1, ds2, ec, li)
            have ht : hOk (hTell w.2.1 (3, 1, ds2, ec, li)) := hOk_tellC hk (by omega) (fun _ => q1) (by omega) (by omega) q2 q3
            have hn2 : (hTell w.2.1 (3, 1, ds2, ec, li)).2.1 = w.2.1.2.1 + 1 := rfl
            exact ih _ _ _ _ _ _ _ _ _ _ hp.1 ht (by rw [hn2]; omega) (by show 0 ≤ w.2.2.2 + 1; omega) (by rw [hn2]; show w.2.2.2 + 1 ≤ _; omega) (by have := hp.2; show (ePkt w.2.1 (3, 1, ds2, ec, li) w.1).2.2.1 ≤ 4 + 30 * (w.2.2.2 + 1); omega) (by rw [hn2]; omega) hW
          · have hst : packStep cc src n w = (ePkt w.2.1 (0, 1, 0, ec, li2) w.1, hTell w.2.1 (0, 1, 0, ec, li2), (zup w.2.2.1.1 w.2.2.2 0, zup w.2.2.1.2.1 w.2.2.2 1, zup w.2.2.1.2.2 w.2.2.2 (pkVal (0, 1, 0, ec, li2))), w.2.2.2 + 1) := by rw [packStep_eq, hq2, ePk0 _ _ _ _ ec li2, hTe0 _ _ _ ec li2, pkV0 _ _ ec li2]
            rw [hst] at hW
            refine XW.heq (h' := sN s0.heap.size cI (sP s0.heap.size cI 12 h w (oCo cc (matchZ src n w.2.1.2.1 cc w.2.1.2.1.toNat (0, 0, 0)).1 (matchZ src n w.2.1.2.1 cc w.2.1.2.1.toNat (0, 0, 0)).2 (echoZ src n w.2.1.2.1 w.2.1.2.2.1 4 0 (0, 0)).1 (echoZ src n w.2.1.2.1 w.2.1.2.2.1 4 0 (0, 0)).2) (oPa 0 1 0 ec li2)) w.1) (by rw [hq2, sP_N12]; rfl) ?_
            refine x_aload_n C d_Np_writeSource_47 rfl ?_
            refine x_get C (G_Np E.1) 10 (u_256 E.1) d_Np_writeSource_48 (by decide) (by exact h0) rfl ?_
            refine x_aload_n C d_Np_writeSource_51 rfl ?_
            refine x_get C (G_Np E.1) 7 (u_253 E.1) d_Np_writeSource_52 (by decide) (by exact h0) rfl ?_
            refine x_aload_n C d_Np_writeSource_55 rfl ?_
            refine x_get C (G_Np E.1) 8 (u_254 E.1) d_Np_writeSource_56 (by decide) (by exact h0) rfl ?_
            refine x_callVR C (G_Wr E.1) (u_422 E.1) (u_423 E.1) (u_424 E.1) (u_425 E.1) (u_8 E.1) d_Np_writeSource_59 (c_Wr_packet0 l E (by exact h22) (by exact h24) ok (by omega) (t := w.2.1) (by exact ⟨rfl, rfl, rfl, rfl⟩) hk (by rfl) q1 q2) nh_Wr_writePacket ln_Wr_writePacket rfl (by exact h22) (nle rfl) (nle rfl) (nle rfl) (nle rfl) (nle rfl) ?_
            refine XW.heq (h' := sH s0.heap.size cI (sP s0.heap.size cI 12 h (ePkt w.2.1 (0, 1, 0, ec, li2) w.1, w.2) (oCo cc (matchZ src n w.2.1.2.1 cc w.2.1.2.1.toNat (0, 0, 0)).1 (matchZ src n w.2.1.2.1 cc w.2.1.2.1.toNat (0, 0, 0)).2 (echoZ src n w.2.1.2.1 w.2.1.2.2.1 4 0 (0, 0)).1 (echoZ src n w.2.1.2.1 w.2.1.2.2.1 4 0 (0, 0)).2) (oPa 0 1 0 ec li2)) w.2.1) (by rw [sP_N12, sP_H12]) ?_
            refine x_aload_n C d_Np_writeSource_62 rfl ?_
            refine x_get C (G_Np E.1) 8 (u_254 E.1) d_Np_writeSource_63 (by decide) (by exact h0) rfl ?_
            refine x_aload_n C d_Np_writeSource_66 rfl ?_
            refine x_get C (G_Np E.1) 7 (u_253 E.1) d_Np_writeSource_67 (by decide) (by exact h0) rfl ?_
            refine x_callVR C (G_Hi E.1) (u_490 E.1) (u_491 E.1) (u_492 E.1) (u_493 E.1) (u_5 E.1) d_Np_writeSource_70 (c_Hi_tell0 l E hk (by rfl) q1 q2 (by omega)) nh_Hi_tell ln_Hi_tell rfl rfl (nle rfl) (nle rfl) (nle rfl) (nle rfl) (nle rfl) ?_
            refine XW.heq (h' := sL s0.heap.size cI 12 (sP s0.heap.size cI 12 h (ePkt w.2.1 (0, 1, 0, ec, li2) w.1, hTell w.2.1 (0, 1, 0, ec, li2), w.2.2) (oCo cc (matchZ src n w.2.1.2.1 cc w.2.1.2.1.toNat (0, 0, 0)).1 (matchZ src n w.2.1.2.1 cc w.2.1.2.1.toNat (0, 0, 0)).2 (echoZ src n w.2.1.2.1 w.2.1.2.2.1 4 0 (0, 0)).1 (echoZ src n w.2.1.2.1 w.2.1.2.2.1 4 0 (0, 0)).2) (oPa 0 1 0 ec li2)) w.2.2.1 w.2.2.2) (by rw [sP_H12, sP_L12]) ?_
            refine x_aload_n C d_Np_writeSource_73 rfl ?_
            refine x_get C (G_Np E.1) 6 (u_252 E.1) d_Np_writeSource_74 (by decide) (by exact h0) rfl ?_
            refine x_aload_n C d_Np_writeSource_77 rfl ?_
            refine x_get C (G_Np E.1) 7 (u_253 E.1) d_Np_writeSource_78 (by decide) (by exact h0) rfl ?_
            refine x_callVR C (G_Pl E.1) (u_512 E.1) (u_513 E.1) (u_514 E.1) (u_515 E.1) (u_3 E.1) d_Np_writeSource_81 (c_Pl_append12 l E (by rfl) i3 (by omega) (by decide) (by decide)) nh_Pl_append ln_Pl_append rfl rfl (nle rfl) (nle rfl) (nle rfl) (nle rfl) (nle rfl) ?_
            refine x_iinc C d_Np_writeSource_84 (by decide) rfl ?_
            refine x_goto C (tgt := 2) d_Np_writeSource_87 (by decide) ?_
            refine XW.heq (h' := sP s0.heap.size cI 12 h (ePkt w.2.1 (0, 1, 0, ec, li2) w.1, hTell w.2.1 (0, 1, 0, ec, li2), (zup w.2.2.1.1 w.2.2.2 0, zup w.2.2.1.2.1 w.2.2.2 1, zup w.2.2.1.2.2 w.2.2.2 (pkVal (0, 1, 0, ec, li2))), w.2.2.2 + 1) (oCo cc (matchZ src n w.2.1.2.1 cc w.2.1.2.1.toNat (0, 0, 0)).1 (matchZ src n w.2.1.2.1 cc w.2.1.2.1.toNat (0, 0, 0)).2 (echoZ src n w.2.1.2.1 w.2.1.2.2.1 4 0 (0, 0)).1 (echoZ src n w.2.1.2.1 w.2.1.2.2.1 4 0 (0, 0)).2) (oPa 0 1 0 ec li2)) (by rw [sP_L12]) ?_
            refine XW.loc (lv' := [(0, .ref (s0.heap.size + 0)), (1, .int (zI (w.2.2.2 + 1)))]) ⟨rfl, rfl, trivial⟩ ?_
            have hp := eOk_pkt ok w.2.1 (0, 1, 0, ec, li2)
            have ht : hOk (hTell w.2.1 (0, 1, 0, ec, li2)) := hOk_tell0 hk q1 q2 (by omega)
            have hn2 : (hTell w.2.1 (0, 1, 0, ec, li2)).2.1 = w.2.1.2.1 + 1 := rfl
            exact ih _ _ _ _ _ _ _ _ _ _ hp.1 ht (by rw [hn2]; omega) (by show 0 ≤ w.2.2.2 + 1; omega) (by rw [hn2]; show w.2.2.2 + 1 ≤ _; omega) (by have := hp.2; show (ePkt w.2.1 (0, 1, 0, ec, li2) w.1).2.2.1 ≤ 4 + 30 * (w.2.2.2 + 1); omega) (by rw [hn2]; omega) hW
    · rw [if_neg hlt] at hW
      subst hW
      have hex := ex_Np_source12 l E C hR h0 h1 h2 h22 h24 ok hk (by omega) (e := e) (args := args) (below := below) (K := K) (cc := cc) (a1 := a1) (a2 := a2) (a3 := a3) (a4 := a4) (k := k) (ln := ln) (ds := ds) (ec := ec) (li := li)
      subst hR
      refine x_iload_n C d_Np_writeSource_2 rfl ?_
      refine x_bipush C d_Np_writeSource_3 (by decide) ?_
      refine x_icmp_ge C (tgt := 90) d_Np_writeSource_5 (by decide) (by omega) (by omega) (by omega) (by omega) (fun c5 => ?_) (fun c5 => ?_)
      · exact XW.loc (lv' := [(0, .ref (s0.heap.size + 0))]) ⟨rfl, trivial⟩ hex
      · refine x_aload_n C d_Np_writeSource_8 rfl ?_
        refine x_get C (G_Np E.1) 8 (u_254 E.1) d_Np_writeSource_9 (by decide) (by exact h0) rfl ?_
        refine x_getN C (G_Hi E.1) 0 (u_122 E.1) d_Np_writeSource_12 (by decide) (by rfl) rfl ?_
        refine x_getN C (G_By E.1) 1 (u_46 E.1) d_Np_writeSource_15 (by decide) (by rfl) rfl ?_
        refine x_aload_n C d_Np_writeSource_18 rfl ?_
        refine x_get C (G_Np E.1) 0 (u_246 E.1) d_Np_writeSource_19 (by decide) (by exact h0) rfl ?_
        refine x_getN C (G_By E.1) 1 (u_46 E.1) d_Np_writeSource_22 (by decide) (by exact h1) rfl ?_
        refine x_icmp_ge C (tgt := 90) d_Np_writeSource_25 (by decide) (by omega) (by omega) (by omega) (by omega) (fun c25 => ?_) (fun c25 => ?_)
        · exact XW.loc (lv' := [(0, .ref (s0.heap.size + 0))]) ⟨rfl, trivial⟩ hex
        · exfalso; omega
set_option maxRecDepth 100000 in
set_option maxHeartbeats 4000000 in
theorem c_Np_writeSource12 {a0 : Array Value} {s0 : State} {D : va_G} {cI cL : ClassId} (l : Launch) (E : a_E a0 s0 D cI cL) {h : AH} {K kp : Nat} {has : Int} (h0 : h 0 = some (oNp s0.heap.size kp 12 has)) {src : Int → Int} {n cc : Int} (h1 : h 1 = some (oBy s0.heap.size 2 n)) (h2 : h 2 = some (iA cI 120 src)) (h22 : h 22 = some (oWr s0.heap.size)) (h24 : h 24 = some (oCh s0.heap.size 25)) (hs : ∀ q, 0 ≤ src q ∧ src q < 256) (n1 : 0 ≤ n) (n2 : n ≤ 120) (c1 : 1 ≤ cc) (c2 : cc ≤ 16) {l0 : T3} {b0 : Int → Int} (hb0 : ∀ j, 0 ≤ b0 j ∧ b0 j < 256) {a1 a2 a3 a4 k ln ds ec li : Int} {W : Pw} (hW : packLoop cc src n 120 (en0, (b0, 0, fun _ => 1, 0), l0, 0) = W) : XM l s0 D y_Np_writeSource prog_1_method_17_code 2 none 6 0 0 [.ref (s0.heap.size + 0)] (sP s0.heap.size cI 12 h (en0, (b0, 0, fun _ => 1, 0), l0, 0) (oCo cc a1 a2 a3 a4) (oPa k ln ds ec li)) (K) (PE (fun h' => ∃ b1 b2 b3 b4 b5 b6, h' = sP s0.heap.size cI 12 h (ePkt W.2.1 (4, 0, 0, 0, 0) W.1, W.2) (oCo cc b1 b2 b3 b4) (oPa 4 0 0 b5 b6)) K) := by
  refine XM.of (cI := cI) (cL := cL) (own := "NarrowingPacker") (by decide) rfl E.2 (nle rfl) ?_
  intro p e s m below meth c C hn
  refine x_iconst C d_Np_writeSource_0 ?_
  refine x_istore_n C d_Np_writeSource_1 (by decide) ?_
  refine XW.loc (lv' := [(0, .ref (s0.heap.size + 0)), (1, .int (zI 0))]) ⟨rfl, rfl, trivial⟩ ?_
  exact lp_Np_source12 l E C rfl h0 h1 h2 h22 h24 hs n2 c1 c2 120 _ _ _ _ _ _ _ _ _ _ en0_ok ⟨hb0, by show (0 : Int) ≤ 0 ∧ (0 : Int) ≤ 120; omega, fun _ => by show (1 : Int) ≤ 1 ∧ (1 : Int) ≤ 120; omega, by show (0 : Int) ≤ 0 ∧ (0 : Int) ≤ 11; omega, fun h7 => by exfalso; have h8 : (7 : Int) ≤ 0 := h7; omega⟩ n1 (by show (0 : Int) ≤ 0; omega) (by show (0 : Int) ≤ 0; omega) (by show (4 : Int) ≤ 4 + 30 * 0; omega) (by show n - 0 ≤ 120; omega) hW

