theorem bOk_start {pk : Int → Int} {sz : Int} : bOk (rStart pk sz) := by
  intro b hb
  unfold rStart at hb
  split at hb
  · cases hb; decide
  · split at hb
    · cases hb; decide
    · cases hb
set_option maxRecDepth 100000 in
set_option maxHeartbeats 4000000 in
theorem c_Np_unpack {a0 : Array Value} {s0 : State} {D : va_G} {cI cL : ClassId} (l : Launch) (E : a_E a0 s0 D cI cL) (F : a_F l s0) {h : AH} {K kp np : Nat} {has : Int} (h0 : h 0 = some (oNp s0.heap.size kp np has)) {pk P q0 res : Int → Int} {sz nr m0 : Int} (h3 : h 3 = some (oBy s0.heap.size 4 sz)) (h4 : h 4 = some (iA cI 200 P)) (h5 : h 5 = some (oBy s0.heap.size 6 nr)) (h6 : h 6 = some (iA cI 120 res)) (r1 : 0 ≤ nr) (r2 : nr ≤ 120) (h27 : h 27 = some (oRe s0.heap.size)) (h29 : h 29 = some (oCh s0.heap.size 30)) (h31 : h 31 = some (oBy s0.heap.size 32 m0)) (h32 : h 32 = some (iA cI 200 q0)) (y1 : 0 ≤ m0) (y2 : m0 ≤ 200) (z1 : 0 ≤ sz) (z2 : sz ≤ 200) (hpk : zcpy P q0 0 0 sz = pk) (hp : ∀ j, 0 ≤ pk j ∧ pk j < 256) {t : Hs} (hb0 : ∀ j, 0 ≤ t.1 j ∧ t.1 j < 256) (t1 : 0 ≤ t.2.1) (t2 : t.2.1 ≤ 120) {d : De} {k ln ds ec li : Int} : XMT l s0 D y_Np_unpack prog_1_method_13_code 2 (some .int) 12 [.ref (s0.heap.size + 0)] (sU s0.heap.size cI h t d (oPa k ln ds ec li)) (K) (PU s0.heap.size cI (sB s0.heap.size cI h sz pk) res (rUnpack pk sz t.1) K) := by
  refine XMT.of (cI := cI) (cL := cL) (own := "NarrowingPacker") (by decide) rfl E.2 (nle rfl) ?_
  intro p e s m below meth c C hn hlow
  refine x_aload_n C d_Np_unpack_0 rfl ?_
  refine x_get C (G_Np E.1) 8 (u_254 E.1) d_Np_unpack_1 (by decide) (by exact h0) rfl ?_
  refine XW.heq (h' := sH s0.heap.size cI (sU s0.heap.size cI h t d (oPa k ln ds ec li)) t) (by rw [sU_H]) ?_
  refine x_callVR C (G_Hi E.1) (u_359 E.1) (u_360 E.1) (u_361 E.1) (u_362 E.1) (u_5 E.1) d_Np_unpack_4 (c_Hi_restart l E t1 t2) nh_Hi_restart ln_Hi_restart rfl rfl (nle rfl) (nle rfl) (nle rfl) (nle rfl) (nle rfl) ?_
  refine XW.heq (h' := sU s0.heap.size cI h (t.1, 0, fun _ => 1, 0) d (oPa k ln ds ec li)) (by rw [sU_H]) ?_
  refine x_aload_n C d_Np_unpack_7 rfl ?_
  refine x_get C (G_Np E.1) 11 (u_257 E.1) d_Np_unpack_8 (by decide) (by exact h0) rfl ?_
  refine x_getN C (G_Re E.1) 0 (u_242 E.1) d_Np_unpack_11 (by decide) (by exact h27) rfl ?_
  refine x_aload_n C d_Np_unpack_14 rfl ?_
  refine x_get C (G_Np E.1) 1 (u_247 E.1) d_Np_unpack_15 (by decide) (by exact h0) rfl ?_
  refine x_callVTT C (G_Fo E.1) (u_664 E.1) (u_665 E.1) (u_666 E.1) (u_667 E.1) (u_12 E.1) d_Np_unpack_18 (c_Fo_restart l E F (h := a_up (sH s0.heap.size cI h (t.1, 0, fun _ => 1, 0)) 16 (oPa k ln ds ec li)) (by exact h3) (by exact h4) (by exact h31) (by exact h32) y1 y2 hpk hp z1 z2 (by exact h29)) nh_Fo_restart ln_Fo_restart rfl (by rfl) (nle rfl) (nle rfl) (nle rfl) (nle rfl) (nle rfl) (fun v18 h18 K18 r18 => ?_) (fun Cn18 h18 K18 r18 => ?_)
  · obtain ⟨d18, e18, rfl, rfl, rfl⟩ := r18.ret
    have ok18 : dOk sz d18 := ok_of (xOk_start hp) e18
    rw [rUnpack_go e18]
    refine x_iconst C d_Np_unpack_21 ?_
    refine x_istore_n C d_Np_unpack_22 (by decide) ?_
    refine XW.heq (h' := sU s0.heap.size cI (sB s0.heap.size cI h sz pk) (t.1, 0, fun _ => 1, 0) d18 (oPa k ln ds ec li)) (sU_B _ _ _ _ _ _ _ _) ?_
    refine XW.loc (lv' := [(0, .ref (s0.heap.size + 0)), (1, .int (zI (121 - (121 : Nat) : Int)))]) ⟨rfl, rfl, trivial⟩ ?_
    exact lp_Np_unpack l E F C rfl (h := sB s0.heap.size cI h sz pk) (by exact h0) (by exact h5) (by exact h6) r1 r2 (by exact h27) (by exact h29) z1 z2 hp rfl rfl 121 _ _ _ _ _ _ _ (by decide) (by show 121 - ((121 : Nat) : Int) ≤ 0; decide) (hOk0 hb0) ok18 rfl
  · obtain ⟨b18, e18, rfl, rfl, d18, rfl⟩ := r18.thr
    rw [rUnpack_bad e18]
    exact Or.inr ⟨b18, d18, k, ln, ds, ec, li, rfl, bOk_start b18 e18, rfl, rfl, sU_B _ _ _ _ _ _ _ _⟩

