/-! a packet, the packets of a packing -/
abbrev oPa (k ln ds ec li : Int) : va_E := .inr (6, [.int (zI k), .int (zI ln), .int (zI ds), .int (zI ec), .int (zI li)])
abbrev oPl (b r1 r2 r3 : Nat) (n : Int) : va_E := .inr (7, [.ref (b + r1), .ref (b + r2), .ref (b + r3), .int (zI n)])
set_option maxRecDepth 100000 in
set_option maxHeartbeats 4000000 in
theorem c_Pa_become {a0 : Array Value} {s0 : State} {D : va_G} {cI cL : ClassId} (l : Launch) (E : a_E a0 s0 D cI cL) {h : AH} {K a : Nat} {k ln ds ec li : Int} (ha : h a = some (oPa k ln ds ec li)) {x y z : Int} : XM l s0 D y_Pa_become prog_8_method_7_code 4 none 0 0 0 [.ref (s0.heap.size + a), .int (zI x), .int (zI y), .int (zI z)] (h) (K) (PR none (a_up h a (oPa x y z ec li)) K) := by
  refine XM.of (cI := cI) (cL := cL) (own := "NarrowingPacker$Packet") (by decide) rfl E.2 (nle rfl) ?_
  intro p e s m below meth c C hn
  refine x_aload_n C d_Pa_become_0 rfl ?_
  refine x_iload_n C d_Pa_become_1 rfl ?_
  refine x_put C (G_Pa E.1) 0 (u_82 E.1) d_Pa_become_2 (by decide) rfl ha rfl rfl (nle rfl) ?_
  refine x_aload_n C d_Pa_become_5 rfl ?_
  refine x_iload_n C d_Pa_become_6 rfl ?_
  refine x_put C (G_Pa E.1) 1 (u_87 E.1) d_Pa_become_7 (by decide) rfl (a_up_s _ _ _) rfl rfl (nle rfl) ?_
  refine x_aload_n C d_Pa_become_10 rfl ?_
  refine x_iload_n C d_Pa_become_11 rfl ?_
  refine x_put C (G_Pa E.1) 2 (u_92 E.1) d_Pa_become_12 (by decide) rfl (a_up_s _ _ _) rfl rfl (nle rfl) ?_
  exact x_vret C d_Pa_become_15 (nle rfl) (nle rfl) ⟨rfl, by first | rfl | (simp only [a_up_up]; done) | (simp only [a_up_up]; rfl), rfl⟩

set_option maxRecDepth 100000 in
set_option maxHeartbeats 4000000 in
theorem c_Pa_becomeLiteral {a0 : Array Value} {s0 : State} {D : va_G} {cI cL : ClassId} (l : Launch) (E : a_E a0 s0 D cI cL) {h : AH} {K a : Nat} {k ln ds ec li : Int} (ha : h a = some (oPa k ln ds ec li)) {b : Int} : XM l s0 D y_Pa_becomeLiteral prog_8_method_2_code 2 none 1 0 0 [.ref (s0.heap.size + a), .int (zI b)] (h) (K) (PR none (a_up h a (oPa 0 1 0 ec b)) K) := by
  refine XM.of (cI := cI) (cL := cL) (own := "NarrowingPacker$Packet") (by decide) rfl E.2 (nle rfl) ?_
  intro p e s m below meth c C hn
  refine x_aload_n C d_Pa_becomeLiteral_0 rfl ?_
  refine x_iconst C d_Pa_becomeLiteral_1 ?_
  refine x_iconst C d_Pa_becomeLiteral_2 ?_
  refine x_iconst C d_Pa_becomeLiteral_3 ?_
  refine x_callVR C (G_Pa E.1) (u_405 E.1) (u_407 E.1) (us_3 E.1) (u_408 E.1) (u_4 E.1) d_Pa_becomeLiteral_4 (c_Pa_become l E ha) nh_Pa_become ln_Pa_become rfl ha (nle rfl) (nle rfl) (nle rfl) (nle rfl) (nle rfl) ?_
  refine x_aload_n C d_Pa_becomeLiteral_7 rfl ?_
  refine x_iload_n C d_Pa_becomeLiteral_8 rfl ?_
  refine x_put C (G_Pa E.1) 4 (u_97 E.1) d_Pa_becomeLiteral_9 (by decide) rfl (a_up_s _ _ _) rfl rfl (nle rfl) ?_
  exact x_vret C d_Pa_becomeLiteral_12 (nle rfl) (nle rfl) ⟨rfl, by first | rfl | (simp only [a_up_up]; done) | (simp only [a_up_up]; rfl), rfl⟩

set_option maxRecDepth 100000 in
set_option maxHeartbeats 4000000 in
theorem c_Pa_becomeMatch {a0 : Array Value} {s0 : State} {D : va_G} {cI cL : ClassId} (l : Launch) (E : a_E a0 s0 D cI cL) {h : AH} {K a : Nat} {k ln ds ec li : Int} (ha : h a = some (oPa k ln ds ec li)) {y z : Int} : XM l s0 D y_Pa_becomeMatch prog_8_method_3_code 3 none 1 0 0 [.ref (s0.heap.size + a), .int (zI y), .int (zI z)] (h) (K) (PR none (a_up h a (oPa 1 y z ec li)) K) := by
  refine XM.of (cI := cI) (cL := cL) (own := "NarrowingPacker$Packet") (by decide) rfl E.2 (nle rfl) ?_
  intro p e s m below meth c C hn
  refine x_aload_n C d_Pa_becomeMatch_0 rfl ?_
  refine x_iconst C d_Pa_becomeMatch_1 ?_
  refine x_iload_n C d_Pa_becomeMatch_2 rfl ?_
  refine x_iload_n C d_Pa_becomeMatch_3 rfl ?_
  refine x_callVR C (G_Pa E.1) (u_405 E.1) (u_407 E.1) (us_3 E.1) (u_408 E.1) (u_4 E.1) d_Pa_becomeMatch_4 (c_Pa_become l E ha) nh_Pa_become ln_Pa_become rfl ha (nle rfl) (nle rfl) (nle rfl) (nle rfl) (nle rfl) ?_
  exact x_vret C d_Pa_becomeMatch_7 (nle rfl) (nle rfl) ⟨rfl, by first | rfl | (simp only [a_up_up]; done) | (simp only [a_up_up]; rfl), rfl⟩

set_option maxRecDepth 100000 in
set_option maxHeartbeats 4000000 in
theorem c_Pa_becomeEcho {a0 : Array Value} {s0 : State} {D : va_G} {cI cL : ClassId} (l : Launch) (E : a_E a0 s0 D cI cL) {h : AH} {K a : Nat} {k ln ds ec li : Int} (ha : h a = some (oPa k ln ds ec li)) {x y z : Int} : XM l s0 D y_Pa_becomeEcho prog_8_method_4_code 4 none 1 0 0 [.ref (s0.heap.size + a), .int (zI x), .int (zI y), .int (zI z)] (h) (K) (PR none (a_up h a (oPa 2 y z x li)) K) := by
  refine XM.of (cI := cI) (cL := cL) (own := "NarrowingPacker$Packet") (by decide) rfl E.2 (nle rfl) ?_
  intro p e s m below meth c C hn
  refine x_aload_n C d_Pa_becomeEcho_0 rfl ?_
  refine x_iconst C d_Pa_becomeEcho_1 ?_
  refine x_iload_n C d_Pa_becomeEcho_2 rfl ?_
  refine x_iload_n C d_Pa_becomeEcho_3 rfl ?_
  refine x_callVR C (G_Pa E.1) (u_405 E.1) (u_407 E.1) (us_3 E.1) (u_408 E.1) (u_4 E.1) d_Pa_becomeEcho_4 (c_Pa_become l E ha) nh_Pa_become ln_Pa_become rfl ha (nle rfl) (nle rfl) (nle rfl) (nle rfl) (nle rfl) ?_
  refine x_aload_n C d_Pa_becomeEcho_7 rfl ?_
  refine x_iload_n C d_Pa_becomeEcho_8 rfl ?_
  refine x_put C (G_Pa E.1) 3 (u_95 E.1) d_Pa_becomeEcho_9 (by decide) rfl (a_up_s _ _ _) rfl rfl (nle rfl) ?_
  exact x_vret C d_Pa_becomeEcho_12 (nle rfl) (nle rfl) ⟨rfl, by first | rfl | (simp only [a_up_up]; done) | (simp only [a_up_up]; rfl), rfl⟩

set_option maxRecDepth 100000 in
set_option maxHeartbeats 4000000 in
theorem c_Pa_becomeShort {a0 : Array Value} {s0 : State} {D : va_G} {cI cL : ClassId} (l : Launch) (E : a_E a0 s0 D cI cL) {h : AH} {K a : Nat} {k ln ds ec li : Int} (ha : h a = some (oPa k ln ds ec li)) {z : Int} : XM l s0 D y_Pa_becomeShort prog_8_method_5_code 2 none 1 0 0 [.ref (s0.heap.size + a), .int (zI z)] (h) (K) (PR none (a_up h a (oPa 3 1 z ec li)) K) := by
  refine XM.of (cI := cI) (cL := cL) (own := "NarrowingPacker$Packet") (by decide) rfl E.2 (nle rfl) ?_
  intro p e s m below meth c C hn
  refine x_aload_n C d_Pa_becomeShort_0 rfl ?_
  refine x_iconst C d_Pa_becomeShort_1 ?_
  refine x_iconst C d_Pa_becomeShort_2 ?_
  refine x_iload_n C d_Pa_becomeShort_3 rfl ?_
  refine x_callVR C (G_Pa E.1) (u_405 E.1) (u_407 E.1) (us_3 E.1) (u_408 E.1) (u_4 E.1) d_Pa_becomeShort_4 (c_Pa_become l E ha) nh_Pa_become ln_Pa_become rfl ha (nle rfl) (nle rfl) (nle rfl) (nle rfl) (nle rfl) ?_
  exact x_vret C d_Pa_becomeShort_7 (nle rfl) (nle rfl) ⟨rfl, by first | rfl | (simp only [a_up_up]; done) | (simp only [a_up_up]; rfl), rfl⟩

set_option maxRecDepth 100000 in
set_option maxHeartbeats 4000000 in
theorem c_Pa_becomeEnd {a0 : Array Value} {s0 : State} {D : va_G} {cI cL : ClassId} (l : Launch) (E : a_E a0 s0 D cI cL) {h : AH} {K a : Nat} {k ln ds ec li : Int} (ha : h a = some (oPa k ln ds ec li)) : XM l s0 D y_Pa_becomeEnd prog_8_method_6_code 1 none 1 0 0 [.ref (s0.heap.size + a)] (h) (K) (PR none (a_up h a (oPa 4 0 0 ec li)) K) := by
  refine XM.of (cI := cI) (cL := cL) (own := "NarrowingPacker$Packet") (by decide) rfl E.2 (nle rfl) ?_
  intro p e s m below meth c C hn
  refine x_aload_n C d_Pa_becomeEnd_0 rfl ?_
  refine x_iconst C d_Pa_becomeEnd_1 ?_
  refine x_iconst C d_Pa_becomeEnd_2 ?_
  refine x_iconst C d_Pa_becomeEnd_3 ?_
  refine x_callVR C (G_Pa E.1) (u_405 E.1) (u_407 E.1) (us_3 E.1) (u_408 E.1) (u_4 E.1) d_Pa_becomeEnd_4 (c_Pa_become l E ha) nh_Pa_become ln_Pa_become rfl ha (nle rfl) (nle rfl) (nle rfl) (nle rfl) (nle rfl) ?_
  exact x_vret C d_Pa_becomeEnd_7 (nle rfl) (nle rfl) ⟨rfl, by first | rfl | (simp only [a_up_up]; done) | (simp only [a_up_up]; rfl), rfl⟩

set_option maxRecDepth 100000 in
set_option maxHeartbeats 4000000 in
theorem c_Pa_init {a0 : Array Value} {s0 : State} {D : va_G} {cI cL : ClassId} (l : Launch) (E : a_E a0 s0 D cI cL) {h : AH} {K a : Nat} : XM l s0 D y_Pa_init prog_8_method_1_code 1 none 1 0 0 [.ref (s0.heap.size + a)] (h) (K) (PR none h K) := by
  refine XM.of (cI := cI) (cL := cL) (own := "NarrowingPacker$Packet") (by decide) rfl E.2 (nle rfl) ?_
  intro p e s m below meth c C hn
  refine x_aload_n C d_Pa_init_0 rfl ?_
  refine x_objInit C (u_78 E.1) (u_29 E.1) (u_30 E.1) d_Pa_init_1 (nle rfl) (nle rfl) ?_
  exact x_vret C d_Pa_init_4 (nle rfl) (nle rfl) ⟨rfl, rfl, rfl⟩

