/-! the class's constructors -/
set_option maxRecDepth 100000 in
set_option maxHeartbeats 4000000 in
theorem c_Ch_init {a0 : Array Value} {s0 : State} {D : va_G} {cI cL : ClassId} (l : Launch) (E : a_E a0 s0 D cI cL) {h : AH} {K a : Nat} (ne : a ≠ K) (ha : h a = some (.inr (1, [.null]))) : XM l s0 D y_Ch_init prog_3_method_1_code 1 none 1 1 3820 [.ref (s0.heap.size + a)] (h) (K) (PR none (a_up (a_up h K (iA cI 3820 (fun _ => 0))) a (oCh s0.heap.size K)) (K + 1)) := by
  refine XM.of (cI := cI) (cL := cL) (own := "NarrowingPacker$Chances") (by decide) rfl E.2 (nle rfl) ?_
  intro p e s m below meth c C hn
  refine x_aload_n C d_Ch_init_0 rfl ?_
  refine x_objInit C (u_182 E.1) (u_29 E.1) (u_30 E.1) d_Ch_init_1 (nle rfl) (nle rfl) ?_
  refine x_aload_n C d_Ch_init_4 rfl ?_
  refine x_sipush C d_Ch_init_5 (by decide) ?_
  refine x_newa C (u_52 E.1) 3820 d_Ch_init_8 rfl (by decide) (nle rfl) (nle rfl) ?_
  refine x_putF C hn (G_Ch E.1) 0 (u_183 E.1) d_Ch_init_10 (by decide) rfl rfl (by rw [a_up_n ne]; exact ha) rfl rfl (nle rfl) ?_
  exact x_vret C d_Ch_init_13 (nle rfl) (nle rfl) ⟨rfl, rfl, rfl⟩

set_option maxRecDepth 100000 in
set_option maxHeartbeats 4000000 in
theorem c_Pl_init8 {a0 : Array Value} {s0 : State} {D : va_G} {cI cL : ClassId} (l : Launch) (E : a_E a0 s0 D cI cL) {h : AH} (ha : h 8 = some (.inr (7, [.null, .null, .null, .int (zI 0)]))) : XM l s0 D y_Pl_init prog_9_method_1_code 1 none 1 3 360 [.ref (s0.heap.size + 8)] (h) (9) (PR none (sL s0.heap.size cI 8 h (fun _ => 0, fun _ => 0, fun _ => 0) 0) 12) := by
  refine XM.of (cI := cI) (cL := cL) (own := "NarrowingPacker$PacketList") (by decide) rfl E.2 (nle rfl) ?_
  intro p e s m below meth c C hn
  refine x_aload_n C d_Pl_init_0 rfl ?_
  refine x_objInit C (u_58 E.1) (u_29 E.1) (u_30 E.1) d_Pl_init_1 (nle rfl) (nle rfl) ?_
  refine x_aload_n C d_Pl_init_4 rfl ?_
  refine x_bipush C d_Pl_init_5 (by decide) ?_
  refine x_newa C (u_52 E.1) 120 d_Pl_init_7 rfl (by decide) (nle rfl) (nle rfl) ?_
  refine x_putF C hn (G_Pl E.1) 0 (u_59 E.1) d_Pl_init_9 (by decide) rfl rfl (by exact ha) rfl rfl (nle rfl) ?_
  refine x_aload_n C d_Pl_init_12 rfl ?_
  refine x_bipush C d_Pl_init_13 (by decide) ?_
  refine x_newa C (u_52 E.1) 120 d_Pl_init_15 rfl (by decide) (nle rfl) (nle rfl) ?_
  refine x_putF C hn (G_Pl E.1) 1 (u_60 E.1) d_Pl_init_17 (by decide) rfl rfl (by rfl) rfl rfl (nle rfl) ?_
  refine x_aload_n C d_Pl_init_20 rfl ?_
  refine x_bipush C d_Pl_init_21 (by decide) ?_
  refine x_newa C (u_52 E.1) 120 d_Pl_init_23 rfl (by decide) (nle rfl) (nle rfl) ?_
  refine x_putF C hn (G_Pl E.1) 2 (u_61 E.1) d_Pl_init_25 (by decide) rfl rfl (by rfl) rfl rfl (nle rfl) ?_
  exact x_vret C d_Pl_init_28 (nle rfl) (nle rfl) ⟨rfl, by
  funext q
  by_cases q0 : q = 8
  · subst q0; rfl
  · skip
    by_cases q1 : q = 9
    · subst q1; rfl
    · skip
      by_cases q2 : q = 10
      · subst q2; rfl
      · skip
        by_cases q3 : q = 11
        · subst q3; rfl
        · skip
          simp only [sL, a_up, beq_f q0, beq_f q1, beq_f q2, beq_f q3, cond_false], rfl⟩

set_option maxRecDepth 100000 in
set_option maxHeartbeats 4000000 in
theorem c_Pl_init12 {a0 : Array Value} {s0 : State} {D : va_G} {cI cL : ClassId} (l : Launch) (E : a_E a0 s0 D cI cL) {h : AH} (ha : h 12 = some (.inr (7, [.null, .null, .null, .int (zI 0)]))) : XM l s0 D y_Pl_init prog_9_method_1_code 1 none 1 3 360 [.ref (s0.heap.size + 12)] (h) (13) (PR none (sL s0.heap.size cI 12 h (fun _ => 0, fun _ => 0, fun _ => 0) 0) 16) := by
  refine XM.of (cI := cI) (cL := cL) (own := "NarrowingPacker$PacketList") (by decide) rfl E.2 (nle rfl) ?_
  intro p e s m below meth c C hn
  refine x_aload_n C d_Pl_init_0 rfl ?_
  refine x_objInit C (u_58 E.1) (u_29 E.1) (u_30 E.1) d_Pl_init_1 (nle rfl) (nle rfl) ?_
  refine x_aload_n C d_Pl_init_4 rfl ?_
  refine x_bipush C d_Pl_init_5 (by decide) ?_
  refine x_newa C (u_52 E.1) 120 d_Pl_init_7 rfl (by decide) (nle rfl) (nle rfl) ?_
  refine x_putF C hn (G_Pl E.1) 0 (u_59 E.1) d_Pl_init_9 (by decide) rfl rfl (by exact ha) rfl rfl (nle rfl) ?_
  refine x_aload_n C d_Pl_init_12 rfl ?_
  refine x_bipush C d_Pl_init_13 (by decide) ?_
  refine x_newa C (u_52 E.1) 120 d_Pl_init_15 rfl (by decide) (nle rfl) (nle rfl) ?_
  refine x_putF C hn (G_Pl E.1) 1 (u_60 E.1) d_Pl_init_17 (by decide) rfl rfl (by rfl) rfl rfl (nle rfl) ?_
  refine x_aload_n C d_Pl_init_20 rfl ?_
  refine x_bipush C d_Pl_init_21 (by decide) ?_
  refine x_newa C (u_52 E.1) 120 d_Pl_init_23 rfl (by decide) (nle rfl) (nle rfl) ?_
  refine x_putF C hn (G_Pl E.1) 2 (u_61 E.1) d_Pl_init_25 (by decide) rfl rfl (by rfl) rfl rfl (nle rfl) ?_
  exact x_vret C d_Pl_init_28 (nle rfl) (nle rfl) ⟨rfl, by
  funext q
  by_cases q0 : q = 12
  · subst q0; rfl
  · skip
    by_cases q1 : q = 13
    · subst q1; rfl
    · skip
      by_cases q2 : q = 14
      · subst q2; rfl
      · skip
        by_cases q3 : q = 15
        · subst q3; rfl
        · skip
          simp only [sL, a_up, beq_f q0, beq_f q1, beq_f q2, beq_f q3, cond_false], rfl⟩

set_option maxRecDepth 100000 in
set_option maxHeartbeats 4000000 in
theorem c_Hi_init {a0 : Array Value} {s0 : State} {D : va_G} {cI cL : ClassId} (l : Launch) (E : a_E a0 s0 D cI cL) {h : AH} (ha : h 17 = some (.inr (4, [.null, .null, .int (zI 0)]))) : XM l s0 D y_Hi_init prog_6_method_1_code 1 none 2 3 126 [.ref (s0.heap.size + 17)] (h) (18) (PR none (sH s0.heap.size cI h (fun _ => 0, 0, fun _ => 0, 0)) 21) := by
  refine XM.of (cI := cI) (cL := cL) (own := "NarrowingPacker$History") (by decide) rfl E.2 (nle rfl) ?_
  intro p e s m below meth c C hn
  refine x_aload_n C d_Hi_init_0 rfl ?_
  refine x_objInit C (u_117 E.1) (u_29 E.1) (u_30 E.1) d_Hi_init_1 (nle rfl) (nle rfl) ?_
  refine x_aload_n C d_Hi_init_4 rfl ?_
  refine x_new C (G_By E.1) (u_118 E.1) (u_32 E.1) (u_2 E.1) d_Hi_init_5 nf_By (nle rfl) (nle rfl) ?_
  refine x_dup C d_Hi_init_8 rfl ?_
  refine x_bipush C d_Hi_init_9 (by decide) ?_
  refine x_callIR C rfl (u_119 E.1) (u_34 E.1) (u_35 E.1) (u_2 E.1) d_Hi_init_11 (c_By_init l E (by decide) 120 (by decide) (by rfl)) nh_By_init ln_By_init rfl (nle rfl) (nle rfl) (nle rfl) (nle rfl) (nle rfl) ?_
  refine x_putF C hn (G_Hi E.1) 0 (u_120 E.1) d_Hi_init_14 (by decide) rfl rfl (by exact ha) rfl rfl (nle rfl) ?_
  refine x_aload_n C d_Hi_init_17 rfl ?_
  refine x_iconst C d_Hi_init_18 ?_
  refine x_newa C (u_52 E.1) 4 d_Hi_init_19 rfl (by decide) (nle rfl) (nle rfl) ?_
  refine x_putF C hn (G_Hi E.1) 1 (u_123 E.1) d_Hi_init_21 (by decide) rfl rfl (by rfl) rfl rfl (nle rfl) ?_
  exact x_vret C d_Hi_init_24 (nle rfl) (nle rfl) ⟨rfl, by
  funext q
  by_cases q0 : q = 17
  · subst q0; rfl
  · skip
    by_cases q1 : q = 18
    · subst q1; rfl
    · skip
      by_cases q2 : q = 19
      · subst q2; rfl
      · skip
        by_cases q3 : q = 20
        · subst q3; rfl
        · skip
          simp only [sH, a_up, beq_f q0, beq_f q1, beq_f q2, beq_f q3, cond_false], rfl⟩

set_option maxRecDepth 100000 in
set_option maxHeartbeats 4000000 in
theorem c_Co_init {a0 : Array Value} {s0 : State} {D : va_G} {cI cL : ClassId} (l : Launch) (E : a_E a0 s0 D cI cL) {h : AH} (ha : h 21 = some (.inr (2, [.int (zI 0), .int (zI 0), .int (zI 0), .int (zI 0), .int (zI 0)]))) {c1 : Int} : XM l s0 D y_Co_init prog_4_method_1_code 2 none 1 0 0 [.ref (s0.heap.size + 21), .int (zI c1)] (h) (22) (PR none (a_up h 21 (oCo c1 0 0 0 0)) 22) := by
  refine XM.of (cI := cI) (cL := cL) (own := "NarrowingPacker$Chooser") (by decide) rfl E.2 (nle rfl) ?_
  intro p e s m below meth c C hn
  refine x_aload_n C d_Co_init_0 rfl ?_
  refine x_objInit C (u_148 E.1) (u_29 E.1) (u_30 E.1) d_Co_init_1 (nle rfl) (nle rfl) ?_
  refine x_aload_n C d_Co_init_4 rfl ?_
  refine x_iload_n C d_Co_init_5 rfl ?_
  refine x_putF C hn (G_Co E.1) 0 (u_149 E.1) d_Co_init_6 (by decide) rfl rfl (by exact ha) rfl rfl (nle rfl) ?_
  exact x_vret C d_Co_init_9 (nle rfl) (nle rfl) ⟨rfl, by
  funext q
  by_cases q0 : q = 21
  · subst q0; rfl
  · skip
    simp only [sH, a_up, beq_f q0, cond_false], rfl⟩

set_option maxRecDepth 100000 in
set_option maxHeartbeats 4000000 in
theorem c_Na_init {a0 : Array Value} {s0 : State} {D : va_G} {cI cL : ClassId} (l : Launch) (E : a_E a0 s0 D cI cL) {h : AH} (ha : h 23 = some (.inr (5, [.null, .null, .int (zI 0), .long (zL 0)]))) : XM l s0 D y_Na_init prog_7_method_1_code 1 none 2 3 4021 [.ref (s0.heap.size + 23)] (h) (24) (PR none (a_up (sN s0.heap.size cI h (fun _ => 0, fun _ => 0, 0, 0)) 24 (oCh s0.heap.size 25)) 27) := by
  refine XM.of (cI := cI) (cL := cL) (own := "NarrowingPacker$Narrower") (by decide) rfl E.2 (nle rfl) ?_
  intro p e s m below meth c C hn
  refine x_aload_n C d_Na_init_0 rfl ?_
  refine x_objInit C (u_176 E.1) (u_29 E.1) (u_30 E.1) d_Na_init_1 (nle rfl) (nle rfl) ?_
  refine x_aload_n C d_Na_init_4 rfl ?_
  refine x_new C (G_Ch E.1) (u_177 E.1) (u_178 E.1) (u_10 E.1) d_Na_init_5 nf_Ch (nle rfl) (nle rfl) ?_
  refine x_dup C d_Na_init_8 rfl ?_
  refine x_callINR C rfl (u_179 E.1) (u_180 E.1) (u_181 E.1) (u_10 E.1) d_Na_init_9 (c_Ch_init l E (by decide) (by rfl)) nh_Ch_init ln_Ch_init rfl (nle rfl) (nle rfl) (nle rfl) (nle rfl) (nle rfl) ?_
  refine x_putF C hn (G_Na E.1) 0 (u_188 E.1) d_Na_init_12 (by decide) rfl rfl (by exact ha) rfl rfl (nle rfl) ?_
  refine x_aload_n C d_Na_init_15 rfl ?_
  refine x_sipush C d_Na_init_16 (by decide) ?_
  refine x_newa C (u_52 E.1) 200 d_Na_init_19 rfl (by decide) (nle rfl) (nle rfl) ?_
  refine x_putF C hn (G_Na E.1) 1 (u_190 E.1) d_Na_init_21 (by decide) rfl rfl (by rfl) rfl rfl (nle rfl) ?_
  exact x_vret C d_Na_init_24 (nle rfl) (nle rfl) ⟨rfl, by
  funext q
  by_cases q0 : q = 23
  · subst q0; rfl
  · skip
    by_cases q1 : q = 24
    · subst q1; rfl
    · skip
      by_cases q2 : q = 25
      · subst q2; rfl
      · skip
        by_cases q3 : q = 26
        · subst q3; rfl
        · skip
          simp only [sN, a_up, beq_f q0, beq_f q1, beq_f q2, beq_f q3, cond_false], rfl⟩

set_option maxRecDepth 100000 in
set_option maxHeartbeats 4000000 in
theorem c_Wr_init {a0 : Array Value} {s0 : State} {D : va_G} {cI cL : ClassId} (l : Launch) (E : a_E a0 s0 D cI cL) {h : AH} (ha : h 22 = some (.inr (9, [.null]))) : XM l s0 D y_Wr_init prog_11_method_1_code 1 none 3 4 4025 [.ref (s0.heap.size + 22)] (h) (23) (PR none (a_up (a_up (sN s0.heap.size cI h (fun _ => 0, fun _ => 0, 0, 0)) 24 (oCh s0.heap.size 25)) 22 (oWr s0.heap.size)) 27) := by
  refine XM.of (cI := cI) (cL := cL) (own := "NarrowingPacker$PacketWriter") (by decide) rfl E.2 (nle rfl) ?_
  intro p e s m below meth c C hn
  refine x_aload_n C d_Wr_init_0 rfl ?_
  refine x_objInit C (u_170 E.1) (u_29 E.1) (u_30 E.1) d_Wr_init_1 (nle rfl) (nle rfl) ?_
  refine x_aload_n C d_Wr_init_4 rfl ?_
  refine x_new C (G_Na E.1) (u_171 E.1) (u_172 E.1) (u_9 E.1) d_Wr_init_5 nf_Na (nle rfl) (nle rfl) ?_
  refine x_dup C d_Wr_init_8 rfl ?_
  refine x_callINR C rfl (u_173 E.1) (u_174 E.1) (u_175 E.1) (u_9 E.1) d_Wr_init_9 (c_Na_init l E (by rfl)) nh_Na_init ln_Na_init rfl (nle rfl) (nle rfl) (nle rfl) (nle rfl) (nle rfl) ?_
  refine x_putF C hn (G_Wr E.1) 0 (u_204 E.1) d_Wr_init_12 (by decide) rfl rfl (by exact ha) rfl rfl (nle rfl) ?_
  exact x_vret C d_Wr_init_15 (nle rfl) (nle rfl) ⟨rfl, by
  funext q
  by_cases q0 : q = 22
  · subst q0; rfl
  · skip
    by_cases q1 : q = 23
    · subst q1; rfl
    · skip
      by_cases q2 : q = 24
      · subst q2; rfl
      · skip
        by_cases q3 : q = 25
        · subst q3; rfl
        · skip
          by_cases q4 : q = 26
          · subst q4; rfl
          · skip
            simp only [sN, a_up, beq_f q0, beq_f q1, beq_f q2, beq_f q3, beq_f q4, cond_false], rfl⟩

set_option maxRecDepth 100000 in
set_option maxHeartbeats 4000000 in
theorem c_Fo_init {a0 : Array Value} {s0 : State} {D : va_G} {cI cL : ClassId} (l : Launch) (E : a_E a0 s0 D cI cL) {h : AH} (ha : h 28 = some (.inr (3, [.null, .null, .int (zI 0), .long (zL 0), .long (zL 0)]))) : XM l s0 D y_Fo_init prog_5_method_1_code 1 none 2 4 4023 [.ref (s0.heap.size + 28)] (h) (29) (PR none (a_up (sB s0.heap.size cI (sF s0.heap.size cI h (fun _ => 0, 0, 0, 0)) 0 (fun _ => 0)) 29 (oCh s0.heap.size 30)) 33) := by
  refine XM.of (cI := cI) (cL := cL) (own := "NarrowingPacker$Follower") (by decide) rfl E.2 (nle rfl) ?_
  intro p e s m below meth c C hn
  refine x_aload_n C d_Fo_init_0 rfl ?_
  refine x_objInit C (u_220 E.1) (u_29 E.1) (u_30 E.1) d_Fo_init_1 (nle rfl) (nle rfl) ?_
  refine x_aload_n C d_Fo_init_4 rfl ?_
  refine x_new C (G_Ch E.1) (u_221 E.1) (u_178 E.1) (u_10 E.1) d_Fo_init_5 nf_Ch (nle rfl) (nle rfl) ?_
  refine x_dup C d_Fo_init_8 rfl ?_
  refine x_callINR C rfl (u_222 E.1) (u_180 E.1) (u_181 E.1) (u_10 E.1) d_Fo_init_9 (c_Ch_init l E (by decide) (by rfl)) nh_Ch_init ln_Ch_init rfl (nle rfl) (nle rfl) (nle rfl) (nle rfl) (nle rfl) ?_
  refine x_putF C hn (G_Fo E.1) 0 (u_225 E.1) d_Fo_init_12 (by decide) rfl rfl (by exact ha) rfl rfl (nle rfl) ?_
  refine x_aload_n C d_Fo_init_15 rfl ?_
  refine x_new C (G_By E.1) (u_223 E.1) (u_32 E.1) (u_2 E.1) d_Fo_init_16 nf_By (nle rfl) (nle rfl) ?_
  refine x_dup C d_Fo_init_19 rfl ?_
  refine x_sipush C d_Fo_init_20 (by decide) ?_
  refine x_callIR C rfl (u_224 E.1) (u_34 E.1) (u_35 E.1) (u_2 E.1) d_Fo_init_23 (c_By_init l E (by decide) 200 (by decide) (by rfl)) nh_By_init ln_By_init rfl (nle rfl) (nle rfl) (nle rfl) (nle rfl) (nle rfl) ?_
  refine x_putF C hn (G_Fo E.1) 1 (u_226 E.1) d_Fo_init_26 (by decide) rfl rfl (by rfl) rfl rfl (nle rfl) ?_
  exact x_vret C d_Fo_init_29 (nle rfl) (nle rfl) ⟨rfl, by
  funext q
  by_cases q0 : q = 28
  · subst q0; rfl
  · skip
    by_cases q1 : q = 29
    · subst q1; rfl
    · skip
      by_cases q2 : q = 30
      · subst q2; rfl
      · skip
        by_cases q3 : q = 31
        · subst q3; rfl
        · skip
          by_cases q4 : q = 32
          · subst q4; rfl
          · skip
            simp only [sF, sB, a_up, beq_f q0, beq_f q1, beq_f q2, beq_f q3, beq_f q4, cond_false], rfl⟩

set_option maxRecDepth 100000 in
set_option maxHeartbeats 4000000 in
theorem c_Re_init {a0 : Array Value} {s0 : State} {D : va_G} {cI cL : ClassId} (l : Launch) (E : a_E a0 s0 D cI cL) {h : AH} (ha : h 27 = some (.inr (8, [.null]))) : XM l s0 D y_Re_init prog_10_method_1_code 1 none 3 5 4028 [.ref (s0.heap.size + 27)] (h) (28) (PR none (a_up (a_up (sB s0.heap.size cI (sF s0.heap.size cI h (fun _ => 0, 0, 0, 0)) 0 (fun _ => 0)) 29 (oCh s0.heap.size 30)) 27 (oRe s0.heap.size)) 33) := by
  refine XM.of (cI := cI) (cL := cL) (own := "NarrowingPacker$PacketReader") (by decide) rfl E.2 (nle rfl) ?_
  intro p e s m below meth c C hn
  refine x_aload_n C d_Re_init_0 rfl ?_
  refine x_objInit C (u_214 E.1) (u_29 E.1) (u_30 E.1) d_Re_init_1 (nle rfl) (nle rfl) ?_
  refine x_aload_n C d_Re_init_4 rfl ?_
  refine x_new C (G_Fo E.1) (u_215 E.1) (u_216 E.1) (u_12 E.1) d_Re_init_5 nf_Fo (nle rfl) (nle rfl) ?_
  refine x_dup C d_Re_init_8 rfl ?_
  refine x_callINR C rfl (u_217 E.1) (u_218 E.1) (u_219 E.1) (u_12 E.1) d_Re_init_9 (c_Fo_init l E (by rfl)) nh_Fo_init ln_Fo_init rfl (nle rfl) (nle rfl) (nle rfl) (nle rfl) (nle rfl) ?_
  refine x_putF C hn (G_Re E.1) 0 (u_241 E.1) d_Re_init_12 (by decide) rfl rfl (by exact ha) rfl rfl (nle rfl) ?_
  exact x_vret C d_Re_init_15 (nle rfl) (nle rfl) ⟨rfl, by
  funext q
  by_cases q0 : q = 27
  · subst q0; rfl
  · skip
    by_cases q1 : q = 28
    · subst q1; rfl
    · skip
      by_cases q2 : q = 29
      · subst q2; rfl
      · skip
        by_cases q3 : q = 30
        · subst q3; rfl
        · skip
          by_cases q4 : q = 31
          · subst q4; rfl
          · skip
            by_cases q5 : q = 32
            · subst q5; rfl
            · skip
              simp only [sF, sB, a_up, beq_f q0, beq_f q1, beq_f q2, beq_f q3, beq_f q4, beq_f q5, cond_false], rfl⟩

def isN (b : Nat) (cI : ClassId) (g : AH) (x : En) : Prop := g 23 = some (oNa b x.2.2.1 x.2.2.2) ∧ g 25 = some (iA cI 3820 x.1) ∧ g 26 = some (iA cI 200 x.2.1)
def isF (b : Nat) (cI : ClassId) (g : AH) (d : De) : Prop := g 28 = some (oFo b d.2.2.2 d.2.2.1 d.2.1) ∧ g 30 = some (iA cI 3820 d.1)
/-- the class's own heap: what is kept -/
def isK (b : Nat) (cI : ClassId) (g : AH) (kp np : Nat) (has ns sz nr cc : Int) (src P res kc : Int → Int) : Prop :=
  g 0 = some (oNp b kp np has) ∧ g 1 = some (oBy b 2 ns) ∧ g 2 = some (iA cI 120 src) ∧ g 3 = some (oBy b 4 sz) ∧ g 4 = some (iA cI 200 P) ∧ g 5 = some (oBy b 6 nr) ∧ g 6 = some (iA cI 120 res) ∧ g 7 = some (iA cI 72 kc) ∧
  g 22 = some (oWr b) ∧ g 24 = some (oCh b 25) ∧ g 27 = some (oRe b) ∧ g 29 = some (oCh b 30) ∧ ∃ a1 a2 a3 a4, g 21 = some (oCo cc a1 a2 a3 a4)
/-- and what is worked on -/
def isS (b : Nat) (cI : ClassId) (g : AH) (t : Hs) (x : En) (d : De) (q0 : Int → Int) (m0 : Int) : Prop :=
  isH b cI g t ∧ isN b cI g x ∧ isF b cI g d ∧ g 31 = some (oBy b 32 m0) ∧ g 32 = some (iA cI 200 q0) ∧ ∃ a1 a2 a3 a4 a5, g 16 = some (oPa a1 a2 a3 a4 a5)
set_option maxRecDepth 100000 in
set_option maxHeartbeats 4000000 in
theorem c_Np_init {a0 : Array Value} {s0 : State} {D : va_G} {cI cL : ClassId} (l : Launch) (E : a_E a0 s0 D cI cL) {h : AH} (ha : h 0 = some (.inr (10, [.null, .null, .null, .null, .null, .int (zI 0), .null, .null, .null, .null, .null, .null]))) {lim : Int} (l1 : -2147483648 ≤ lim) (l2 : lim < 2147483648) : XM l s0 D y_Np_init prog_1_method_1_code 2 none 4 32 9440 [.ref (s0.heap.size + 0), .int (zI lim)] (h) (1) (fun o h' K' => o = .inl none ∧ K' = 33 ∧ isK s0.heap.size cI h' 8 12 0 0 0 0 (max 1 (min 16 lim)) (fun _ => 0) (fun _ => 0) (fun _ => 0) (fun _ => 0) ∧ isS s0.heap.size cI h' (fun _ => 0, 0, fun _ => 0, 0) (fun _ => 0, fun _ => 0, 0, 0) (fun _ => 0, 0, 0, 0) (fun _ => 0) 0 ∧ isL s0.heap.size cI 8 h' (fun _ => 0, fun _ => 0, fun _ => 0) 0 ∧ isL s0.heap.size cI 12 h' (fun _ => 0, fun _ => 0, fun _ => 0) 0) := by
  refine XM.of (cI := cI) (cL := cL) (own := "NarrowingPacker") (by decide) rfl E.2 (nle rfl) ?_
  intro p e s m below meth c C hn
  refine x_aload_n C d_Np_init_0 rfl ?_
  refine x_objInit C (u_28 E.1) (u_29 E.1) (u_30 E.1) d_Np_init_1 (nle rfl) (nle rfl) ?_
  refine x_aload_n C d_Np_init_4 rfl ?_
  refine x_new C (G_By E.1) (u_31 E.1) (u_32 E.1) (u_2 E.1) d_Np_init_5 nf_By (nle rfl) (nle rfl) ?_
  refine x_dup C d_Np_init_8 rfl ?_
  refine x_bipush C d_Np_init_9 (by decide) ?_
  refine x_callIR C rfl (u_33 E.1) (u_34 E.1) (u_35 E.1) (u_2 E.1) d_Np_init_11 (c_By_init l E (by decide) 120 (by decide) (by rfl)) nh_By_init ln_By_init rfl (nle rfl) (nle rfl) (nle rfl) (nle rfl) (nle rfl) ?_
  refine x_putF C hn (G_Np E.1) 0 (u_246 E.1) d_Np_init_14 (by decide) rfl rfl (by exact ha) rfl rfl (nle rfl) ?_
  refine x_aload_n C d_Np_init_17 rfl ?_
  refine x_new C (G_By E.1) (u_31 E.1) (u_32 E.1) (u_2 E.1) d_Np_init_18 nf_By (nle rfl) (nle rfl) ?_
  refine x_dup C d_Np_init_21 rfl ?_
  refine x_sipush C d_Np_init_22 (by decide) ?_
  refine x_callIR C rfl (u_33 E.1) (u_34 E.1) (u_35 E.1) (u_2 E.1) d_Np_init_25 (c_By_init l E (by decide) 200 (by decide) (by rfl)) nh_By_init ln_By_init rfl (nle rfl) (nle rfl) (nle rfl) (nle rfl) (nle rfl) ?_
  refine x_putF C hn (G_Np E.1) 1 (u_247 E.1) d_Np_init_28 (by decide) rfl rfl (by rfl) rfl rfl (nle rfl) ?_
  refine x_aload_n C d_Np_init_31 rfl ?_
  refine x_new C (G_By E.1) (u_31 E.1) (u_32 E.1) (u_2 E.1) d_Np_init_32 nf_By (nle rfl) (nle rfl) ?_
  refine x_dup C d_Np_init_35 rfl ?_
  refine x_bipush C d_Np_init_36 (by decide) ?_
  refine x_callIR C rfl (u_33 E.1) (u_34 E.1) (u_35 E.1) (u_2 E.1) d_Np_init_38 (c_By_init l E (by decide) 120 (by decide) (by rfl)) nh_By_init ln_By_init rfl (nle rfl) (nle rfl) (nle rfl) (nle rfl) (nle rfl) ?_
  refine x_putF C hn (G_Np E.1) 2 (u_248 E.1) d_Np_init_41 (by decide) rfl rfl (by rfl) rfl rfl (nle rfl) ?_
  refine x_aload_n C d_Np_init_44 rfl ?_
  refine x_bipush C d_Np_init_45 (by decide) ?_
  refine x_newa C (u_52 E.1) 72 d_Np_init_47 rfl (by decide) (nle rfl) (nle rfl) ?_
  refine x_putF C hn (G_Np E.1) 3 (u_249 E.1) d_Np_init_49 (by decide) rfl rfl (by rfl) rfl rfl (nle rfl) ?_
  refine x_aload_n C d_Np_init_52 rfl ?_
  refine x_new C (G_Pl E.1) (u_53 E.1) (u_54 E.1) (u_3 E.1) d_Np_init_53 nf_Pl (nle rfl) (nle rfl) ?_
  refine x_dup C d_Np_init_56 rfl ?_
  refine x_callINR C rfl (u_55 E.1) (u_56 E.1) (u_57 E.1) (u_3 E.1) d_Np_init_57 (c_Pl_init8 l E (by rfl)) nh_Pl_init ln_Pl_init rfl (nle rfl) (nle rfl) (nle rfl) (nle rfl) (nle rfl) ?_
  refine x_put C (G_Np E.1) 4 (u_250 E.1) d_Np_init_60 (by decide) rfl (by rfl) rfl rfl (nle rfl) ?_
  refine x_aload_n C d_Np_init_63 rfl ?_
  refine x_new C (G_Pl E.1) (u_53 E.1) (u_54 E.1) (u_3 E.1) d_Np_init_64 nf_Pl (nle rfl) (nle rfl) ?_
  refine x_dup C d_Np_init_67 rfl ?_
  refine x_callINR C rfl (u_55 E.1) (u_56 E.1) (u_57 E.1) (u_3 E.1) d_Np_init_68 (c_Pl_init12 l E (by rfl)) nh_Pl_init ln_Pl_init rfl (nle rfl) (nle rfl) (nle rfl) (nle rfl) (nle rfl) ?_
  refine x_put C (G_Np E.1) 6 (u_252 E.1) d_Np_init_71 (by decide) rfl (by rfl) rfl rfl (nle rfl) ?_
  refine x_aload_n C d_Np_init_74 rfl ?_
  refine x_new C (G_Pa E.1) (u_73 E.1) (u_74 E.1) (u_4 E.1) d_Np_init_75 nf_Pa (nle rfl) (nle rfl) ?_
  refine x_dup C d_Np_init_78 rfl ?_
  refine x_callINR C rfl (u_75 E.1) (u_76 E.1) (u_77 E.1) (u_4 E.1) d_Np_init_79 (c_Pa_init l E (a := 16)) nh_Pa_init ln_Pa_init rfl (nle rfl) (nle rfl) (nle rfl) (nle rfl) (nle rfl) ?_
  refine x_putF C hn (G_Np E.1) 7 (u_253 E.1) d_Np_init_82 (by decide) rfl rfl (by rfl) rfl rfl (nle rfl) ?_
  refine x_aload_n C d_Np_init_85 rfl ?_
  refine x_new C (G_Hi E.1) (u_112 E.1) (u_113 E.1) (u_5 E.1) d_Np_init_86 nf_Hi (nle rfl) (nle rfl) ?_
  refine x_dup C d_Np_init_89 rfl ?_
  refine x_callINR C rfl (u_114 E.1) (u_115 E.1) (u_116 E.1) (u_5 E.1) d_Np_init_90 (c_Hi_init l E (by rfl)) nh_Hi_init ln_Hi_init rfl (nle rfl) (nle rfl) (nle rfl) (nle rfl) (nle rfl) ?_
  refine x_putF C hn (G_Np E.1) 8 (u_254 E.1) d_Np_init_93 (by decide) rfl rfl (by rfl) rfl rfl (nle rfl) ?_
  refine x_aload_n C d_Np_init_96 rfl ?_
  refine x_new C (G_Co E.1) (u_137 E.1) (u_138 E.1) (u_6 E.1) d_Np_init_97 nf_Co (nle rfl) (nle rfl) ?_
  refine x_dup C d_Np_init_100 rfl ?_
  refine x_iconst C d_Np_init_101 ?_
  refine x_bipush C d_Np_init_102 (by decide) ?_
  refine x_iload_n C d_Np_init_104 rfl ?_
  refine x_min C (u_139 E.1) (u_140 E.1) (u_7 E.1) (u_141 E.1) d_Np_init_105 (nle rfl) (nle rfl) (nle rfl) (nle rfl) (by omega) (by omega) (by omega) (by omega) ?_
  refine x_max C (u_142 E.1) (u_143 E.1) (u_7 E.1) (u_144 E.1) d_Np_init_108 (nle rfl) (nle rfl) (nle rfl) (nle rfl) (by omega) (by omega) (by omega) (by omega) ?_
  refine x_callIR C rfl (u_145 E.1) (u_146 E.1) (u_147 E.1) (u_6 E.1) d_Np_init_111 (c_Co_init l E (by rfl)) nh_Co_init ln_Co_init rfl (nle rfl) (nle rfl) (nle rfl) (nle rfl) (nle rfl) ?_
  refine x_putF C hn (G_Np E.1) 9 (u_255 E.1) d_Np_init_114 (by decide) rfl rfl (by rfl) rfl rfl (nle rfl) ?_
  refine x_aload_n C d_Np_init_117 rfl ?_
  refine x_new C (G_Wr E.1) (u_165 E.1) (u_166 E.1) (u_8 E.1) d_Np_init_118 nf_Wr (nle rfl) (nle rfl) ?_
  refine x_dup C d_Np_init_121 rfl ?_
  refine x_callINR C rfl (u_167 E.1) (u_168 E.1) (u_169 E.1) (u_8 E.1) d_Np_init_122 (c_Wr_init l E (by rfl)) nh_Wr_init ln_Wr_init rfl (nle rfl) (nle rfl) (nle rfl) (nle rfl) (nle rfl) ?_
  refine x_putF C hn (G_Np E.1) 10 (u_256 E.1) d_Np_init_125 (by decide) rfl rfl (by rfl) rfl rfl (nle rfl) ?_
  refine x_aload_n C d_Np_init_128 rfl ?_
  refine x_new C (G_Re E.1) (u_209 E.1) (u_210 E.1) (u_11 E.1) d_Np_init_129 nf_Re (nle rfl) (nle rfl) ?_
  refine x_dup C d_Np_init_132 rfl ?_
  refine x_callINR C rfl (u_211 E.1) (u_212 E.1) (u_213 E.1) (u_11 E.1) d_Np_init_133 (c_Re_init l E (by rfl)) nh_Re_init ln_Re_init rfl (nle rfl) (nle rfl) (nle rfl) (nle rfl) (nle rfl) ?_
  refine x_putF C hn (G_Np E.1) 11 (u_257 E.1) d_Np_init_136 (by decide) rfl rfl (by rfl) rfl rfl (nle rfl) ?_
  exact x_vret C d_Np_init_139 (nle rfl) (nle rfl) ⟨rfl, rfl, ⟨rfl, rfl, rfl, rfl, rfl, rfl, rfl, rfl, rfl, rfl, rfl, rfl, 0, 0, 0, 0, rfl⟩, ⟨⟨rfl, rfl, rfl, rfl⟩, ⟨rfl, rfl, rfl⟩, ⟨rfl, rfl⟩, rfl, rfl, 0, 0, 0, 0, 0, rfl⟩, ⟨rfl, rfl, rfl, rfl⟩, ⟨rfl, rfl, rfl, rfl⟩⟩

