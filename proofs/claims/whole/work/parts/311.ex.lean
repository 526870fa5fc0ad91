set_option maxRecDepth 100000 in
set_option maxHeartbeats 4000000 in
theorem ex_Np_source8 {a0 : Array Value} {s0 : State} {D : va_G} {cI cL : ClassId} (l : Launch) (E : a_E a0 s0 D cI cL) {p : Program} {e : Env} {R : Room} {s : State} {m : MethodId} {args : Array Value} {below : List Frame} {meth : Method} {c : Code} (C : XC s0 D cI cL p s m meth c "NarrowingPacker" prog_1_method_17_code 2 none []) (hR : R = a_rm 6 0 0) {h : AH} {K kp : Nat} {has : Int} (h0 : h 0 = some (oNp s0.heap.size kp 8 has)) {src : Int → Int} {n cc : Int} (h1 : h 1 = some (oBy s0.heap.size 2 n)) (h2 : h 2 = some (iA cI 120 src)) (h22 : h 22 = some (oWr s0.heap.size)) (h24 : h 24 = some (oCh s0.heap.size 25)) {W : Pw} (ok : eOk W.1) (hk : hOk W.2.1) (lx : W.1.2.2.1 < 90000) {a1 a2 a3 a4 k ln ds ec li : Int} : XW s0 D p l e R s m args below meth c (XQ s0 D 0 0 (PE (fun h' => ∃ b1 b2 b3 b4 b5 b6, h' = sP s0.heap.size cI 8 h (ePkt W.2.1 (4, 0, 0, 0, 0) W.1, W.2) (oCo cc b1 b2 b3 b4) (oPa 4 0 0 b5 b6)) K) below s) 90 [(0, .ref (s0.heap.size + 0))] [] (sP s0.heap.size cI 8 h W (oCo cc a1 a2 a3 a4) (oPa k ln ds ec li)) K 0 0 := by
  subst hR
  refine x_aload_n C d_Np_writeSource_90 rfl ?_
  refine x_get C (G_Np E.1) 7 (u_253 E.1) d_Np_writeSource_91 (by decide) (by exact h0) rfl ?_
  refine x_callVR C (G_Pa E.1) (u_516 E.1) (u_517 E.1) (u_518 E.1) (u_519 E.1) (u_4 E.1) d_Np_writeSource_94 (c_Pa_becomeEnd l E (by rfl)) nh_Pa_becomeEnd ln_Pa_becomeEnd rfl rfl (nle rfl) (nle rfl) (nle rfl) (nle rfl) (nle rfl) ?_
  refine XW.heq (h' := sN s0.heap.size cI (sP s0.heap.size cI 8 h W (oCo cc a1 a2 a3 a4) (oPa 4 0 0 ec li)) W.1) (by rw [sP_A, sP_N8]) ?_
  refine x_aload_n C d_Np_writeSource_97 rfl ?_
  refine x_get C (G_Np E.1) 10 (u_256 E.1) d_Np_writeSource_98 (by decide) (by exact h0) rfl ?_
  refine x_aload_n C d_Np_writeSource_101 rfl ?_
  refine x_get C (G_Np E.1) 7 (u_253 E.1) d_Np_writeSource_102 (by decide) (by exact h0) rfl ?_
  refine x_aload_n C d_Np_writeSource_105 rfl ?_
  refine x_get C (G_Np E.1) 8 (u_254 E.1) d_Np_writeSource_106 (by decide) (by exact h0) rfl ?_
  refine x_callVR C (G_Wr E.1) (u_422 E.1) (u_423 E.1) (u_424 E.1) (u_425 E.1) (u_8 E.1) d_Np_writeSource_109 (c_Wr_packet4 l E (by exact h22) (by exact h24) ok (by omega) (t := W.2.1) (by exact ⟨rfl, rfl, rfl, rfl⟩) hk (by rfl)) nh_Wr_writePacket ln_Wr_writePacket rfl (by exact h22) (nle rfl) (nle rfl) (nle rfl) (nle rfl) (nle rfl) ?_
  exact x_vret C d_Np_writeSource_112 (nle rfl) (nle rfl) ⟨rfl, rfl, a1, a2, a3, a4, ec, li, by rw [sP_N8]; rfl⟩
