/-! the reference: the small methods, the constructor -/
set_option maxRecDepth 100000 in
set_option maxHeartbeats 4000000 in
theorem c_Mo_isByte {a0 : Array Value} {s0 : State} {D : va_G} {cI cL : ClassId} (l : Launch) (E : a_E a0 s0 D cI cL) {h : AH} {K : Nat} {b : Int} (b1 : -2147483648 ≤ b) (b2 : b < 2147483648) : XM l s0 D y_Mo_isByte prog_13_method_3_code 1 (some .boolean) 0 0 0 [.int (zI b)] (h) (K) (PR (some (.int (zI (isB b)))) h K) := by
  refine XM.of (cI := cI) (cL := cL) (own := "NarrowingPackerModel") (by decide) rfl E.2 (nle rfl) ?_
  intro p e s m below meth c C hn
  refine x_iload_n C d_Mo_isByte_0 rfl ?_
  refine x_if_lt C (tgt := 15) d_Mo_isByte_1 (by decide) (by omega) (by omega) (fun c1 => ?_) (fun c1 => ?_)
  · refine x_iconst C d_Mo_isByte_15 ?_
    exact x_zret C d_Mo_isByte_16 (by omega) (nle rfl) (nle rfl) ⟨by unfold isB; split <;> first | rfl | (exfalso; omega), rfl, rfl⟩
  · refine x_iload_n C d_Mo_isByte_4 rfl ?_
    refine x_sipush C d_Mo_isByte_5 (by decide) ?_
    refine x_icmp_gt C (tgt := 15) d_Mo_isByte_8 (by decide) (by omega) (by omega) (by omega) (by omega) (fun c8 => ?_) (fun c8 => ?_)
    · refine x_iconst C d_Mo_isByte_15 ?_
      exact x_zret C d_Mo_isByte_16 (by omega) (nle rfl) (nle rfl) ⟨by unfold isB; split <;> first | rfl | (exfalso; omega), rfl, rfl⟩
    · refine x_iconst C d_Mo_isByte_11 ?_
      refine x_goto C (tgt := 16) d_Mo_isByte_12 (by decide) ?_
      exact x_zret C d_Mo_isByte_16 (by omega) (nle rfl) (nle rfl) ⟨by unfold isB; split <;> first | rfl | (exfalso; omega), rfl, rfl⟩

set_option maxRecDepth 100000 in
set_option maxHeartbeats 4000000 in
theorem c_Mo_thrown {a0 : Array Value} {s0 : State} {D : va_G} {cI cL : ClassId} (l : Launch) (E : a_E a0 s0 D cI cL) {h : AH} {K : Nat} {κ : Kp} {v : Hs × T3 × Int × Cn4} {c0 : Cd}  : XM l s0 D y_Mo_thrown prog_13_method_2_code 1 (some .int) 0 0 0 [.ref (s0.heap.size + 33)] (sM s0.heap.size cI h κ (c0, v)) (K) (PR (some (.int (zI (κ.1)))) (sM s0.heap.size cI h κ (c0, v)) K) := by
  refine XM.of (cI := cI) (cL := cL) (own := "NarrowingPackerModel") (by decide) rfl E.2 (nle rfl) ?_
  intro p e s m below meth c C hn
  refine x_aload_n C d_Mo_thrown_0 rfl ?_
  refine x_get C (G_Mo E.1) 0 (u_764 E.1) d_Mo_thrown_1 (by decide) (by rfl) (show _ = some (.int (zI κ.1)) from rfl) ?_
  exact x_iret C d_Mo_thrown_4 (nle rfl) (nle rfl) ⟨rfl, rfl, rfl⟩

set_option maxRecDepth 100000 in
set_option maxHeartbeats 4000000 in
theorem c_Mo_wipe {a0 : Array Value} {s0 : State} {D : va_G} {cI cL : ClassId} (l : Launch) (E : a_E a0 s0 D cI cL) {h : AH} {K : Nat} {κ : Kp} {v : Hs × T3 × Int × Cn4} {c0 : Cd}  : XM l s0 D y_Mo_wipe prog_13_method_5_code 2 (some .int) 0 0 0 [.ref (s0.heap.size + 33)] (sM s0.heap.size cI h κ (c0, v)) (K) (PR (some (.int (zI (κ.2.2.1)))) (sM s0.heap.size cI h ((0, κ.2.1, 0, κ.2.2.2) : Kp) (c0, v)) K) := by
  refine XM.of (cI := cI) (cL := cL) (own := "NarrowingPackerModel") (by decide) rfl E.2 (nle rfl) ?_
  intro p e s m below meth c C hn
  refine x_aload_n C d_Mo_wipe_0 rfl ?_
  refine x_iconst C d_Mo_wipe_1 ?_
  refine x_put C (G_Mo E.1) 0 (u_764 E.1) d_Mo_wipe_2 (by decide) rfl (by rfl) rfl rfl (nle rfl) ?_
  refine x_aload_n C d_Mo_wipe_5 rfl ?_
  refine x_get C (G_Mo E.1) 2 (u_766 E.1) d_Mo_wipe_6 (by decide) (by rfl) (show _ = some (.int (zI κ.2.2.1)) from rfl) ?_
  refine x_istore_n C d_Mo_wipe_9 (by decide) ?_
  refine x_aload_n C d_Mo_wipe_10 rfl ?_
  refine x_iconst C d_Mo_wipe_11 ?_
  refine x_put C (G_Mo E.1) 2 (u_766 E.1) d_Mo_wipe_12 (by decide) rfl (by rfl) rfl rfl (nle rfl) ?_
  refine x_iload_n C d_Mo_wipe_15 rfl ?_
  exact x_iret C d_Mo_wipe_16 (nle rfl) (nle rfl) ⟨rfl, (sM_eq rfl rfl rfl rfl rfl rfl rfl rfl (fun q q1 q2 q3 q4 q5 q6 q7 q8 => by simp only [sM, a_up, beq_f q1, beq_f q2, beq_f q3, beq_f q4, beq_f q5, beq_f q6, beq_f q7, beq_f q8, cond_false])), rfl⟩

set_option maxRecDepth 100000 in
set_option maxHeartbeats 4000000 in
theorem c_Mo_packets {a0 : Array Value} {s0 : State} {D : va_G} {cI cL : ClassId} (l : Launch) (E : a_E a0 s0 D cI cL) {h : AH} {K : Nat} {κ : Kp} {v : Hs × T3 × Int × Cn4} {c0 : Cd}  : XM l s0 D y_Mo_packets prog_13_method_27_code 1 (some .int) 0 0 0 [.ref (s0.heap.size + 33)] (sM s0.heap.size cI h κ (c0, v)) (K) (PR (some (.int (zI (κ.2.2.2.2.2.2)))) (sM s0.heap.size cI h ((0, κ.2) : Kp) (c0, v)) K) := by
  refine XM.of (cI := cI) (cL := cL) (own := "NarrowingPackerModel") (by decide) rfl E.2 (nle rfl) ?_
  intro p e s m below meth c C hn
  refine x_aload_n C d_Mo_packets_0 rfl ?_
  refine x_iconst C d_Mo_packets_1 ?_
  refine x_put C (G_Mo E.1) 0 (u_764 E.1) d_Mo_packets_2 (by decide) rfl (by rfl) rfl rfl (nle rfl) ?_
  refine x_aload_n C d_Mo_packets_5 rfl ?_
  refine x_get C (G_Mo E.1) 9 (u_773 E.1) d_Mo_packets_6 (by decide) (by rfl) (show _ = some (.int (zI κ.2.2.2.2.2.2)) from rfl) ?_
  exact x_iret C d_Mo_packets_9 (nle rfl) (nle rfl) ⟨rfl, (sM_eq rfl rfl rfl rfl rfl rfl rfl rfl (fun q q1 q2 q3 q4 q5 q6 q7 q8 => by simp only [sM, a_up, beq_f q1, beq_f q2, beq_f q3, beq_f q4, beq_f q5, beq_f q6, beq_f q7, beq_f q8, cond_false])), rfl⟩

set_option maxRecDepth 100000 in
set_option maxHeartbeats 4000000 in
theorem c_Mo_size {a0 : Array Value} {s0 : State} {D : va_G} {cI cL : ClassId} (l : Launch) (E : a_E a0 s0 D cI cL) {h : AH} {K : Nat} {κ : Kp} {v : Hs × T3 × Int × Cn4} {c0 : Cd}  : XM l s0 D y_Mo_size prog_13_method_30_code 1 (some .int) 0 0 0 [.ref (s0.heap.size + 33)] (sM s0.heap.size cI h κ (c0, v)) (K) (PR (some (.int (zI (κ.2.2.2.1)))) (sM s0.heap.size cI h ((0, κ.2) : Kp) (c0, v)) K) := by
  refine XM.of (cI := cI) (cL := cL) (own := "NarrowingPackerModel") (by decide) rfl E.2 (nle rfl) ?_
  intro p e s m below meth c C hn
  refine x_aload_n C d_Mo_size_0 rfl ?_
  refine x_iconst C d_Mo_size_1 ?_
  refine x_put C (G_Mo E.1) 0 (u_764 E.1) d_Mo_size_2 (by decide) rfl (by rfl) rfl rfl (nle rfl) ?_
  refine x_aload_n C d_Mo_size_5 rfl ?_
  refine x_get C (G_Mo E.1) 4 (u_768 E.1) d_Mo_size_6 (by decide) (by rfl) (show _ = some (.int (zI κ.2.2.2.1)) from rfl) ?_
  exact x_iret C d_Mo_size_9 (nle rfl) (nle rfl) ⟨rfl, (sM_eq rfl rfl rfl rfl rfl rfl rfl rfl (fun q q1 q2 q3 q4 q5 q6 q7 q8 => by simp only [sM, a_up, beq_f q1, beq_f q2, beq_f q3, beq_f q4, beq_f q5, beq_f q6, beq_f q7, beq_f q8, cond_false])), rfl⟩

set_option maxRecDepth 100000 in
set_option maxHeartbeats 4000000 in
theorem c_Mo_told {a0 : Array Value} {s0 : State} {D : va_G} {cI cL : ClassId} (l : Launch) (E : a_E a0 s0 D cI cL) {h : AH} {K : Nat} {κ : Kp} {v : Hs × T3 × Int × Cn4} {c0 : Cd}  : XM l s0 D y_Mo_told prog_13_method_35_code 1 (some .int) 0 0 0 [.ref (s0.heap.size + 33)] (sM s0.heap.size cI h κ (c0, v)) (K) (PR (some (.int (zI (κ.2.2.2.2.1)))) (sM s0.heap.size cI h ((0, κ.2) : Kp) (c0, v)) K) := by
  refine XM.of (cI := cI) (cL := cL) (own := "NarrowingPackerModel") (by decide) rfl E.2 (nle rfl) ?_
  intro p e s m below meth c C hn
  refine x_aload_n C d_Mo_told_0 rfl ?_
  refine x_iconst C d_Mo_told_1 ?_
  refine x_put C (G_Mo E.1) 0 (u_764 E.1) d_Mo_told_2 (by decide) rfl (by rfl) rfl rfl (nle rfl) ?_
  refine x_aload_n C d_Mo_told_5 rfl ?_
  refine x_get C (G_Mo E.1) 6 (u_770 E.1) d_Mo_told_6 (by decide) (by rfl) (show _ = some (.int (zI κ.2.2.2.2.1)) from rfl) ?_
  exact x_iret C d_Mo_told_9 (nle rfl) (nle rfl) ⟨rfl, (sM_eq rfl rfl rfl rfl rfl rfl rfl rfl (fun q q1 q2 q3 q4 q5 q6 q7 q8 => by simp only [sM, a_up, beq_f q1, beq_f q2, beq_f q3, beq_f q4, beq_f q5, beq_f q6, beq_f q7, beq_f q8, cond_false])), rfl⟩

set_option maxRecDepth 100000 in
set_option maxHeartbeats 4000000 in
theorem c_Mo_at {a0 : Array Value} {s0 : State} {D : va_G} {cI cL : ClassId} (l : Launch) (E : a_E a0 s0 D cI cL) {h : AH} {K : Nat} {κ : Kp} {v : Hs × T3 × Int × Cn4} {c0 : Cd} {P : Int → Int} (h35 : h 35 = some (iA cI 200 P)) (n1 : 0 ≤ κ.2.2.2.1) (n2 : κ.2.2.2.1 ≤ 200) {i : Int} (i1 : -2147483648 ≤ i) (i2 : i < 2147483648) : XM l s0 D y_Mo_at prog_13_method_31_code 2 (some .int) 0 0 0 [.ref (s0.heap.size + 33), .int (zI i)] (sM s0.heap.size cI h κ (c0, v)) (K) (PR (some (.int (zI (getZ P i κ.2.2.2.1)))) (sM s0.heap.size cI h ((0, κ.2) : Kp) (c0, v)) K) := by
  refine XM.of (cI := cI) (cL := cL) (own := "NarrowingPackerModel") (by decide) rfl E.2 (nle rfl) ?_
  intro p e s m below meth c C hn
  refine x_aload_n C d_Mo_at_0 rfl ?_
  refine x_iconst C d_Mo_at_1 ?_
  refine x_put C (G_Mo E.1) 0 (u_764 E.1) d_Mo_at_2 (by decide) rfl (by rfl) rfl rfl (nle rfl) ?_
  refine x_iload_n C d_Mo_at_5 rfl ?_
  refine x_if_lt C (tgt := 17) d_Mo_at_6 (by decide) (by omega) (by omega) (fun c6 => ?_) (fun c6 => ?_)
  · refine x_iconst C d_Mo_at_17 ?_
    refine x_goto C (tgt := 27) d_Mo_at_18 (by decide) ?_
    exact x_iret C d_Mo_at_27 (nle rfl) (nle rfl) ⟨by unfold getZ; split <;> first | rfl | (exfalso; omega), (sM_eq rfl rfl rfl rfl rfl rfl rfl rfl (fun q q1 q2 q3 q4 q5 q6 q7 q8 => by simp only [sM, a_up, beq_f q1, beq_f q2, beq_f q3, beq_f q4, beq_f q5, beq_f q6, beq_f q7, beq_f q8, cond_false])), rfl⟩
  · refine x_iload_n C d_Mo_at_9 rfl ?_
    refine x_aload_n C d_Mo_at_10 rfl ?_
    refine x_get C (G_Mo E.1) 4 (u_768 E.1) d_Mo_at_11 (by decide) (by rfl) (show _ = some (.int (zI κ.2.2.2.1)) from rfl) ?_
    refine x_icmp_lt C (tgt := 21) d_Mo_at_14 (by decide) (by omega) (by omega) (by omega) (by omega) (fun c14 => ?_) (fun c14 => ?_)
    · refine x_aload_n C d_Mo_at_21 rfl ?_
      refine x_get C (G_Mo E.1) 5 (u_769 E.1) d_Mo_at_22 (by decide) (by rfl) rfl ?_
      refine x_iload_n C d_Mo_at_25 rfl ?_
      refine x_iald C d_Mo_at_26 (by exact h35) (by omega) (by omega) (by omega) ?_
      exact x_iret C d_Mo_at_27 (nle rfl) (nle rfl) ⟨by unfold getZ; split <;> first | rfl | (exfalso; omega), (sM_eq rfl rfl rfl rfl rfl rfl rfl rfl (fun q q1 q2 q3 q4 q5 q6 q7 q8 => by simp only [sM, a_up, beq_f q1, beq_f q2, beq_f q3, beq_f q4, beq_f q5, beq_f q6, beq_f q7, beq_f q8, cond_false])), rfl⟩
    · refine x_iconst C d_Mo_at_17 ?_
      refine x_goto C (tgt := 27) d_Mo_at_18 (by decide) ?_
      exact x_iret C d_Mo_at_27 (nle rfl) (nle rfl) ⟨by unfold getZ; split <;> first | rfl | (exfalso; omega), (sM_eq rfl rfl rfl rfl rfl rfl rfl rfl (fun q q1 q2 q3 q4 q5 q6 q7 q8 => by simp only [sM, a_up, beq_f q1, beq_f q2, beq_f q3, beq_f q4, beq_f q5, beq_f q6, beq_f q7, beq_f q8, cond_false])), rfl⟩

set_option maxRecDepth 100000 in
set_option maxHeartbeats 4000000 in
theorem c_Mo_byteAt {a0 : Array Value} {s0 : State} {D : va_G} {cI cL : ClassId} (l : Launch) (E : a_E a0 s0 D cI cL) {h : AH} {K : Nat} {κ : Kp} {v : Hs × T3 × Int × Cn4} {c0 : Cd} {res : Int → Int} (h36 : h 36 = some (iA cI 120 res)) (n1 : 0 ≤ κ.2.2.2.2.1) (n2 : κ.2.2.2.2.1 ≤ 120) {i : Int} (i1 : -2147483648 ≤ i) (i2 : i < 2147483648) : XM l s0 D y_Mo_byteAt prog_13_method_36_code 2 (some .int) 0 0 0 [.ref (s0.heap.size + 33), .int (zI i)] (sM s0.heap.size cI h κ (c0, v)) (K) (PR (some (.int (zI (getZ res i κ.2.2.2.2.1)))) (sM s0.heap.size cI h ((0, κ.2) : Kp) (c0, v)) K) := by
  refine XM.of (cI := cI) (cL := cL) (own := "NarrowingPackerModel") (by decide) rfl E.2 (nle rfl) ?_
  intro p e s m below meth c C hn
  refine x_aload_n C d_Mo_byteAt_0 rfl ?_
  refine x_iconst C d_Mo_byteAt_1 ?_
  refine x_put C (G_Mo E.1) 0 (u_764 E.1) d_Mo_byteAt_2 (by decide) rfl (by rfl) rfl rfl (nle rfl) ?_
  refine x_iload_n C d_Mo_byteAt_5 rfl ?_
  refine x_if_lt C (tgt := 17) d_Mo_byteAt_6 (by decide) (by omega) (by omega) (fun c6 => ?_) (fun c6 => ?_)
  · refine x_iconst C d_Mo_byteAt_17 ?_
    refine x_goto C (tgt := 27) d_Mo_byteAt_18 (by decide) ?_
    exact x_iret C d_Mo_byteAt_27 (nle rfl) (nle rfl) ⟨by unfold getZ; split <;> first | rfl | (exfalso; omega), (sM_eq rfl rfl rfl rfl rfl rfl rfl rfl (fun q q1 q2 q3 q4 q5 q6 q7 q8 => by simp only [sM, a_up, beq_f q1, beq_f q2, beq_f q3, beq_f q4, beq_f q5, beq_f q6, beq_f q7, beq_f q8, cond_false])), rfl⟩
  · refine x_iload_n C d_Mo_byteAt_9 rfl ?_
    refine x_aload_n C d_Mo_byteAt_10 rfl ?_
    refine x_get C (G_Mo E.1) 6 (u_770 E.1) d_Mo_byteAt_11 (by decide) (by rfl) (show _ = some (.int (zI κ.2.2.2.2.1)) from rfl) ?_
    refine x_icmp_lt C (tgt := 21) d_Mo_byteAt_14 (by decide) (by omega) (by omega) (by omega) (by omega) (fun c14 => ?_) (fun c14 => ?_)
    · refine x_aload_n C d_Mo_byteAt_21 rfl ?_
      refine x_get C (G_Mo E.1) 7 (u_771 E.1) d_Mo_byteAt_22 (by decide) (by rfl) rfl ?_
      refine x_iload_n C d_Mo_byteAt_25 rfl ?_
      refine x_iald C d_Mo_byteAt_26 (by exact h36) (by omega) (by omega) (by omega) ?_
      exact x_iret C d_Mo_byteAt_27 (nle rfl) (nle rfl) ⟨by unfold getZ; split <;> first | rfl | (exfalso; omega), (sM_eq rfl rfl rfl rfl rfl rfl rfl rfl (fun q q1 q2 q3 q4 q5 q6 q7 q8 => by simp only [sM, a_up, beq_f q1, beq_f q2, beq_f q3, beq_f q4, beq_f q5, beq_f q6, beq_f q7, beq_f q8, cond_false])), rfl⟩
    · refine x_iconst C d_Mo_byteAt_17 ?_
      refine x_goto C (tgt := 27) d_Mo_byteAt_18 (by decide) ?_
      exact x_iret C d_Mo_byteAt_27 (nle rfl) (nle rfl) ⟨by unfold getZ; split <;> first | rfl | (exfalso; omega), (sM_eq rfl rfl rfl rfl rfl rfl rfl rfl (fun q q1 q2 q3 q4 q5 q6 q7 q8 => by simp only [sM, a_up, beq_f q1, beq_f q2, beq_f q3, beq_f q4, beq_f q5, beq_f q6, beq_f q7, beq_f q8, cond_false])), rfl⟩

set_option maxRecDepth 100000 in
set_option maxHeartbeats 4000000 in
theorem c_Mo_chance {a0 : Array Value} {s0 : State} {D : va_G} {cI cL : ClassId} (l : Launch) (E : a_E a0 s0 D cI cL) {h : AH} {K : Nat} {κ : Kp} {v : Hs × T3 × Int × Cn4} {c0 : Cd} {kc : Int → Int} (h40 : h 40 = some (iA cI 72 kc)) (hh : κ.2.2.2.2.2.1 = 0 ∨ κ.2.2.2.2.2.1 = 1) {nm st : Int} (a1 : -2147483648 ≤ nm) (a2 : nm < 2147483648) (b1 : -2147483648 ≤ st) (b2 : st < 2147483648) : XM l s0 D y_Mo_chance prog_13_method_29_code 3 (some .int) 0 0 0 [.ref (s0.heap.size + 33), .int (zI nm), .int (zI st)] (sM s0.heap.size cI h κ (c0, v)) (K) (PR (some (.int (zI (chanceZ κ.2.2.2.2.2.1 kc nm st)))) (sM s0.heap.size cI h ((0, κ.2) : Kp) (c0, v)) K) := by
  refine XM.of (cI := cI) (cL := cL) (own := "NarrowingPackerModel") (by decide) rfl E.2 (nle rfl) ?_
  intro p e s m below meth c C hn
  refine x_aload_n C d_Mo_chance_0 rfl ?_
  refine x_iconst C d_Mo_chance_1 ?_
  refine x_put C (G_Mo E.1) 0 (u_764 E.1) d_Mo_chance_2 (by decide) rfl (by rfl) rfl rfl (nle rfl) ?_
  refine x_aload_n C d_Mo_chance_5 rfl ?_
  refine x_get C (G_Mo E.1) 8 (u_772 E.1) d_Mo_chance_6 (by decide) (by rfl) (show _ = some (.int (zI κ.2.2.2.2.2.1)) from rfl) ?_
  refine x_if_eq C (tgt := 31) d_Mo_chance_9 (by decide) (by omega) (by omega) (fun c9 => ?_) (fun c9 => ?_)
  · refine x_iconst C d_Mo_chance_31 ?_
    refine x_goto C (tgt := 46) d_Mo_chance_32 (by decide) ?_
    exact x_iret C d_Mo_chance_46 (nle rfl) (nle rfl) ⟨by unfold chanceZ; first | (rw [if_pos (by omega)]; done) | (rw [if_neg (by omega), show nm * 12 + st = 12 * nm + st by omega]; first | done | rfl), (sM_eq rfl rfl rfl rfl rfl rfl rfl rfl (fun q q1 q2 q3 q4 q5 q6 q7 q8 => by simp only [sM, a_up, beq_f q1, beq_f q2, beq_f q3, beq_f q4, beq_f q5, beq_f q6, beq_f q7, beq_f q8, cond_false])), rfl⟩
  · refine x_iload_n C d_Mo_chance_12 rfl ?_
    refine x_if_lt C (tgt := 31) d_Mo_chance_13 (by decide) (by omega) (by omega) (fun c13 => ?_) (fun c13 => ?_)
    · refine x_iconst C d_Mo_chance_31 ?_
      refine x_goto C (tgt := 46) d_Mo_chance_32 (by decide) ?_
      exact x_iret C d_Mo_chance_46 (nle rfl) (nle rfl) ⟨by unfold chanceZ; first | (rw [if_pos (by omega)]; done) | (rw [if_neg (by omega), show nm * 12 + st = 12 * nm + st by omega]; first | done | rfl), (sM_eq rfl rfl rfl rfl rfl rfl rfl rfl (fun q q1 q2 q3 q4 q5 q6 q7 q8 => by simp only [sM, a_up, beq_f q1, beq_f q2, beq_f q3, beq_f q4, beq_f q5, beq_f q6, beq_f q7, beq_f q8, cond_false])), rfl⟩
    · refine x_iload_n C d_Mo_chance_16 rfl ?_
      refine x_iconst C d_Mo_chance_17 ?_
      refine x_icmp_gt C (tgt := 31) d_Mo_chance_18 (by decide) (by omega) (by omega) (by omega) (by omega) (fun c18 => ?_) (fun c18 => ?_)
      · refine x_iconst C d_Mo_chance_31 ?_
        refine x_goto C (tgt := 46) d_Mo_chance_32 (by decide) ?_
        exact x_iret C d_Mo_chance_46 (nle rfl) (nle rfl) ⟨by unfold chanceZ; first | (rw [if_pos (by omega)]; done) | (rw [if_neg (by omega), show nm * 12 + st = 12 * nm + st by omega]; first | done | rfl), (sM_eq rfl rfl rfl rfl rfl rfl rfl rfl (fun q q1 q2 q3 q4 q5 q6 q7 q8 => by simp only [sM, a_up, beq_f q1, beq_f q2, beq_f q3, beq_f q4, beq_f q5, beq_f q6, beq_f q7, beq_f q8, cond_false])), rfl⟩
      · refine x_iload_n C d_Mo_chance_21 rfl ?_
        refine x_if_lt C (tgt := 31) d_Mo_chance_22 (by decide) (by omega) (by omega) (fun c22 => ?_) (fun c22 => ?_)
        · refine x_iconst C d_Mo_chance_31 ?_
          refine x_goto C (tgt := 46) d_Mo_chance_32 (by decide) ?_
          exact x_iret C d_Mo_chance_46 (nle rfl) (nle rfl) ⟨by unfold chanceZ; first | (rw [if_pos (by omega)]; done) | (rw [if_neg (by omega), show nm * 12 + st = 12 * nm + st by omega]; first | done | rfl), (sM_eq rfl rfl rfl rfl rfl rfl rfl rfl (fun q q1 q2 q3 q4 q5 q6 q7 q8 => by simp only [sM, a_up, beq_f q1, beq_f q2, beq_f q3, beq_f q4, beq_f q5, beq_f q6, beq_f q7, beq_f q8, cond_false])), rfl⟩
        · refine x_iload_n C d_Mo_chance_25 rfl ?_
          refine x_bipush C d_Mo_chance_26 (by decide) ?_
          refine x_icmp_le C (tgt := 35) d_Mo_chance_28 (by decide) (by omega) (by omega) (by omega) (by omega) (fun c28 => ?_) (fun c28 => ?_)
          · refine x_aload_n C d_Mo_chance_35 rfl ?_
            refine x_get C (G_Mo E.1) 13 (u_777 E.1) d_Mo_chance_36 (by decide) (by rfl) rfl ?_
            refine x_bipush C d_Mo_chance_39 (by decide) ?_
            refine x_iload_n C d_Mo_chance_41 rfl ?_
            refine x_imul C d_Mo_chance_42 ?_
            refine x_iload_n C d_Mo_chance_43 rfl ?_
            refine x_iadd C d_Mo_chance_44 ?_
            refine x_iald C d_Mo_chance_45 (by exact h40) (by omega) (by omega) (by omega) ?_
            exact x_iret C d_Mo_chance_46 (nle rfl) (nle rfl) ⟨by unfold chanceZ; first | (rw [if_pos (by omega)]; done) | (rw [if_neg (by omega), show nm * 12 + st = 12 * nm + st by omega]; first | done | rfl), (sM_eq rfl rfl rfl rfl rfl rfl rfl rfl (fun q q1 q2 q3 q4 q5 q6 q7 q8 => by simp only [sM, a_up, beq_f q1, beq_f q2, beq_f q3, beq_f q4, beq_f q5, beq_f q6, beq_f q7, beq_f q8, cond_false])), rfl⟩
          · refine x_iconst C d_Mo_chance_31 ?_
            refine x_goto C (tgt := 46) d_Mo_chance_32 (by decide) ?_
            exact x_iret C d_Mo_chance_46 (nle rfl) (nle rfl) ⟨by unfold chanceZ; first | (rw [if_pos (by omega)]; done) | (rw [if_neg (by omega), show nm * 12 + st = 12 * nm + st by omega]; first | done | rfl), (sM_eq rfl rfl rfl rfl rfl rfl rfl rfl (fun q q1 q2 q3 q4 q5 q6 q7 q8 => by simp only [sM, a_up, beq_f q1, beq_f q2, beq_f q3, beq_f q4, beq_f q5, beq_f q6, beq_f q7, beq_f q8, cond_false])), rfl⟩

set_option maxRecDepth 100000 in
set_option maxHeartbeats 4000000 in
theorem c_Mo_packet2 {a0 : Array Value} {s0 : State} {D : va_G} {cI cL : ClassId} (l : Launch) (E : a_E a0 s0 D cI cL) {h : AH} {K : Nat} {κ : Kp} {v : Hs × T3 × Int × Cn4} {c0 : Cd} {L : T3} (h37 : h 37 = some (iA cI 121 L.1)) (h38 : h 38 = some (iA cI 121 L.2.1)) (h39 : h 39 = some (iA cI 121 L.2.2)) (n1 : 0 ≤ κ.2.2.2.2.2.2) (n2 : κ.2.2.2.2.2.2 ≤ 120) {i wh : Int} (i1 : -2147483648 ≤ i) (i2 : i < 2147483648) (w1 : -2147483648 ≤ wh) (w2 : wh < 2147483648) : XM l s0 D y_Mo_packet2 prog_13_method_28_code 3 (some .int) 0 0 0 [.ref (s0.heap.size + 33), .int (zI i), .int (zI wh)] (sM s0.heap.size cI h κ (c0, v)) (K) (PR (some (.int (zI (tellZ L κ.2.2.2.2.2.2 i wh)))) (sM s0.heap.size cI h ((0, κ.2) : Kp) (c0, v)) K) := by
  refine XM.of (cI := cI) (cL := cL) (own := "NarrowingPackerModel") (by decide) rfl E.2 (nle rfl) ?_
  intro p e s m below meth c C hn
  refine x_aload_n C d_Mo_packet2_0 rfl ?_
  refine x_iconst C d_Mo_packet2_1 ?_
  refine x_put C (G_Mo E.1) 0 (u_764 E.1) d_Mo_packet2_2 (by decide) rfl (by rfl) rfl rfl (nle rfl) ?_
  refine x_iload_n C d_Mo_packet2_5 rfl ?_
  refine x_if_lt C (tgt := 26) d_Mo_packet2_6 (by decide) (by omega) (by omega) (fun c6 => ?_) (fun c6 => ?_)
  · refine x_iconst C d_Mo_packet2_26 ?_
    exact x_iret C d_Mo_packet2_27 (nle rfl) (nle rfl) ⟨by
  first
    | (exfalso; omega)
    | (unfold tellZ; rw [if_neg (by omega)]; done)
    | (unfold tellZ; rw [if_pos (by omega), if_pos (by omega)]; first | done | rfl)
    | (unfold tellZ; rw [if_pos (by omega), if_neg (by omega), if_pos (by omega)]; first | done | rfl)
    | (unfold tellZ; rw [if_pos (by omega), if_neg (by omega), if_neg (by omega), if_pos (by omega)]; first | done | rfl)
    | (unfold tellZ; rw [if_pos (by omega), if_neg (by omega), if_neg (by omega), if_neg (by omega)]; first | done | rfl), (sM_eq rfl rfl rfl rfl rfl rfl rfl rfl (fun q q1 q2 q3 q4 q5 q6 q7 q8 => by simp only [sM, a_up, beq_f q1, beq_f q2, beq_f q3, beq_f q4, beq_f q5, beq_f q6, beq_f q7, beq_f q8, cond_false])), rfl⟩
  · refine x_iload_n C d_Mo_packet2_9 rfl ?_
    refine x_aload_n C d_Mo_packet2_10 rfl ?_
    refine x_get C (G_Mo E.1) 9 (u_773 E.1) d_Mo_packet2_11 (by decide) (by rfl) (show _ = some (.int (zI κ.2.2.2.2.2.2)) from rfl) ?_
    refine x_icmp_ge C (tgt := 26) d_Mo_packet2_14 (by decide) (by omega) (by omega) (by omega) (by omega) (fun c14 => ?_) (fun c14 => ?_)
    · refine x_iconst C d_Mo_packet2_26 ?_
      exact x_iret C d_Mo_packet2_27 (nle rfl) (nle rfl) ⟨by
  first
    | (exfalso; omega)
    | (unfold tellZ; rw [if_neg (by omega)]; done)
    | (unfold tellZ; rw [if_pos (by omega), if_pos (by omega)]; first | done | rfl)
    | (unfold tellZ; rw [if_pos (by omega), if_neg (by omega), if_pos (by omega)]; first | done | rfl)
    | (unfold tellZ; rw [if_pos (by omega), if_neg (by omega), if_neg (by omega), if_pos (by omega)]; first | done | rfl)
    | (unfold tellZ; rw [if_pos (by omega), if_neg (by omega), if_neg (by omega), if_neg (by omega)]; first | done | rfl), (sM_eq rfl rfl rfl rfl rfl rfl rfl rfl (fun q q1 q2 q3 q4 q5 q6 q7 q8 => by simp only [sM, a_up, beq_f q1, beq_f q2, beq_f q3, beq_f q4, beq_f q5, beq_f q6, beq_f q7, beq_f q8, cond_false])), rfl⟩
    · refine x_iload_n C d_Mo_packet2_17 rfl ?_
      refine x_if_lt C (tgt := 26) d_Mo_packet2_18 (by decide) (by omega) (by omega) (fun c18 => ?_) (fun c18 => ?_)
      · refine x_iconst C d_Mo_packet2_26 ?_
        exact x_iret C d_Mo_packet2_27 (nle rfl) (nle rfl) ⟨by
  first
    | (exfalso; omega)
    | (unfold tellZ; rw [if_neg (by omega)]; done)
    | (unfold tellZ; rw [if_pos (by omega), if_pos (by omega)]; first | done | rfl)
    | (unfold tellZ; rw [if_pos (by omega), if_neg (by omega), if_pos (by omega)]; first | done | rfl)
    | (unfold tellZ; rw [if_pos (by omega), if_neg (by omega), if_neg (by omega), if_pos (by omega)]; first | done | rfl)
    | (unfold tellZ; rw [if_pos (by omega), if_neg (by omega), if_neg (by omega), if_neg (by omega)]; first | done | rfl), (sM_eq rfl rfl rfl rfl rfl rfl rfl rfl (fun q q1 q2 q3 q4 q5 q6 q7 q8 => by simp only [sM, a_up, beq_f q1, beq_f q2, beq_f q3, beq_f q4, beq_f q5, beq_f q6, beq_f q7, beq_f q8, cond_false])), rfl⟩
      · refine x_iload_n C d_Mo_packet2_21 rfl ?_
        refine x_iconst C d_Mo_packet2_22 ?_
        refine x_icmp_le C (tgt := 28) d_Mo_packet2_23 (by decide) (by omega) (by omega) (by omega) (by omega) (fun c23 => ?_) (fun c23 => ?_)
        · refine x_iload_n C d_Mo_packet2_28 rfl ?_
          refine x_if_ne C (tgt := 41) d_Mo_packet2_29 (by decide) (by omega) (by omega) (fun c29 => ?_) (fun c29 => ?_)
          · refine x_iload_n C d_Mo_packet2_41 rfl ?_
            refine x_iconst C d_Mo_packet2_42 ?_
            refine x_icmp_ne C (tgt := 55) d_Mo_packet2_43 (by decide) (by omega) (by omega) (by omega) (by omega) (fun c43 => ?_) (fun c43 => ?_)
            · refine x_aload_n C d_Mo_packet2_55 rfl ?_
              refine x_get C (G_Mo E.1) 12 (u_776 E.1) d_Mo_packet2_56 (by decide) (by rfl) rfl ?_
              refine x_iload_n C d_Mo_packet2_59 rfl ?_
              refine x_iald C d_Mo_packet2_60 (by exact h39) (by omega) (by omega) (by omega) ?_
              exact x_iret C d_Mo_packet2_61 (nle rfl) (nle rfl) ⟨by
  first
    | (exfalso; omega)
    | (unfold tellZ; rw [if_neg (by omega)]; done)
    | (unfold tellZ; rw [if_pos (by omega), if_pos (by omega)]; first | done | rfl)
    | (unfold tellZ; rw [if_pos (by omega), if_neg (by omega), if_pos (by omega)]; first | done | rfl)
    | (unfold tellZ; rw [if_pos (by omega), if_neg (by omega), if_neg (by omega), if_pos (by omega)]; first | done | rfl)
    | (unfold tellZ; rw [if_pos (by omega), if_neg (by omega), if_neg (by omega), if_neg (by omega)]; first | done | rfl), (sM_eq rfl rfl rfl rfl rfl rfl rfl rfl (fun q q1 q2 q3 q4 q5 q6 q7 q8 => by simp only [sM, a_up, beq_f q1, beq_f q2, beq_f q3, beq_f q4, beq_f q5, beq_f q6, beq_f q7, beq_f q8, cond_false])), rfl⟩
            · refine x_aload_n C d_Mo_packet2_46 rfl ?_
              refine x_get C (G_Mo E.1) 11 (u_775 E.1) d_Mo_packet2_47 (by decide) (by rfl) rfl ?_
              refine x_iload_n C d_Mo_packet2_50 rfl ?_
              refine x_iald C d_Mo_packet2_51 (by exact h38) (by omega) (by omega) (by omega) ?_
              refine x_goto C (tgt := 61) d_Mo_packet2_52 (by decide) ?_
              exact x_iret C d_Mo_packet2_61 (nle rfl) (nle rfl) ⟨by
  first
    | (exfalso; omega)
    | (unfold tellZ; rw [if_neg (by omega)]; done)
    | (unfold tellZ; rw [if_pos (by omega), if_pos (by omega)]; first | done | rfl)
    | (unfold tellZ; rw [if_pos (by omega), if_neg (by omega), if_pos (by omega)]; first | done | rfl)
    | (unfold tellZ; rw [if_pos (by omega), if_neg (by omega), if_neg (by omega), if_pos (by omega)]; first | done | rfl)
    | (unfold tellZ; rw [if_pos (by omega), if_neg (by omega), if_neg (by omega), if_neg (by omega)]; first | done | rfl), (sM_eq rfl rfl rfl rfl rfl rfl rfl rfl (fun q q1 q2 q3 q4 q5 q6 q7 q8 => by simp only [sM, a_up, beq_f q1, beq_f q2, beq_f q3, beq_f q4, beq_f q5, beq_f q6, beq_f q7, beq_f q8, cond_false])), rfl⟩
          · refine x_aload_n C d_Mo_packet2_32 rfl ?_
            refine x_get C (G_Mo E.1) 10 (u_774 E.1) d_Mo_packet2_33 (by decide) (by rfl) rfl ?_
            refine x_iload_n C d_Mo_packet2_36 rfl ?_
            refine x_iald C d_Mo_packet2_37 (by exact h37) (by omega) (by omega) (by omega) ?_
            refine x_goto C (tgt := 61) d_Mo_packet2_38 (by decide) ?_
            exact x_iret C d_Mo_packet2_61 (nle rfl) (nle rfl) ⟨by
  first
    | (exfalso; omega)
    | (unfold tellZ; rw [if_neg (by omega)]; done)
    | (unfold tellZ; rw [if_pos (by omega), if_pos (by omega)]; first | done | rfl)
    | (unfold tellZ; rw [if_pos (by omega), if_neg (by omega), if_pos (by omega)]; first | done | rfl)
    | (unfold tellZ; rw [if_pos (by omega), if_neg (by omega), if_neg (by omega), if_pos (by omega)]; first | done | rfl)
    | (unfold tellZ; rw [if_pos (by omega), if_neg (by omega), if_neg (by omega), if_neg (by omega)]; first | done | rfl), (sM_eq rfl rfl rfl rfl rfl rfl rfl rfl (fun q q1 q2 q3 q4 q5 q6 q7 q8 => by simp only [sM, a_up, beq_f q1, beq_f q2, beq_f q3, beq_f q4, beq_f q5, beq_f q6, beq_f q7, beq_f q8, cond_false])), rfl⟩
        · refine x_iconst C d_Mo_packet2_26 ?_
          exact x_iret C d_Mo_packet2_27 (nle rfl) (nle rfl) ⟨by
  first
    | (exfalso; omega)
    | (unfold tellZ; rw [if_neg (by omega)]; done)
    | (unfold tellZ; rw [if_pos (by omega), if_pos (by omega)]; first | done | rfl)
    | (unfold tellZ; rw [if_pos (by omega), if_neg (by omega), if_pos (by omega)]; first | done | rfl)
    | (unfold tellZ; rw [if_pos (by omega), if_neg (by omega), if_neg (by omega), if_pos (by omega)]; first | done | rfl)
    | (unfold tellZ; rw [if_pos (by omega), if_neg (by omega), if_neg (by omega), if_neg (by omega)]; first | done | rfl), (sM_eq rfl rfl rfl rfl rfl rfl rfl rfl (fun q q1 q2 q3 q4 q5 q6 q7 q8 => by simp only [sM, a_up, beq_f q1, beq_f q2, beq_f q3, beq_f q4, beq_f q5, beq_f q6, beq_f q7, beq_f q8, cond_false])), rfl⟩

set_option maxRecDepth 100000 in
set_option maxHeartbeats 4000000 in
theorem c_Mo_type1 {a0 : Array Value} {s0 : State} {D : va_G} {cI cL : ClassId} (l : Launch) (E : a_E a0 s0 D cI cL) {h : AH} {K : Nat} {κ : Kp} {v : Hs × T3 × Int × Cn4} {c0 : Cd} {src : Int → Int} (h34 : h 34 = some (iA cI 120 src)) (n1 : 0 ≤ κ.2.2.1) (n2 : κ.2.2.1 ≤ 120) {b : Int} (bb : 0 ≤ b ∧ b ≤ 255) (nn : κ.2.2.1 < 120) (b1 : -2147483648 ≤ b) (b2 : b < 2147483648) : XM l s0 D y_Mo_type prog_13_method_4_code 2 (some .boolean) 1 0 0 [.ref (s0.heap.size + 33), .int (zI b)] (sM s0.heap.size cI h κ (c0, v)) (K) (PR (some (.int (zI (1)))) (sM s0.heap.size cI (a_up h 34 (iA cI 120 (zup src κ.2.2.1 b))) ((0, κ.2.1, κ.2.2.1 + 1, κ.2.2.2) : Kp) (c0, v)) K) := by
  refine XM.of (cI := cI) (cL := cL) (own := "NarrowingPackerModel") (by decide) rfl E.2 (nle rfl) ?_
  intro p e s m below meth c C hn
  refine x_aload_n C d_Mo_type_0 rfl ?_
  refine x_iconst C d_Mo_type_1 ?_
  refine x_put C (G_Mo E.1) 0 (u_764 E.1) d_Mo_type_2 (by decide) rfl (by rfl) rfl rfl (nle rfl) ?_
  refine x_iload_n C d_Mo_type_5 rfl ?_
  refine x_callSR C (u_875 E.1) (u_876 E.1) (u_877 E.1) (u_13 E.1) d_Mo_type_6 (c_Mo_isByte l E b1 b2) nh_Mo_isByte ln_Mo_isByte rfl (nle rfl) (nle rfl) (nle rfl) (nle rfl) (nle rfl) ?_
  have hz := isB_01 b
  refine x_if_eq C (tgt := 21) d_Mo_type_9 (by decide) (by omega) (by omega) (fun c9 => ?_) (fun c9 => ?_)
  · exfalso; omega
  · refine x_aload_n C d_Mo_type_12 rfl ?_
    refine x_get C (G_Mo E.1) 2 (u_766 E.1) d_Mo_type_13 (by decide) (by rfl) (show _ = some (.int (zI κ.2.2.1)) from rfl) ?_
    refine x_bipush C d_Mo_type_16 (by decide) ?_
    refine x_icmp_ne C (tgt := 23) d_Mo_type_18 (by decide) (by omega) (by omega) (by omega) (by omega) (fun c18 => ?_) (fun c18 => ?_)
    · refine x_aload_n C d_Mo_type_23 rfl ?_
      refine x_get C (G_Mo E.1) 3 (u_767 E.1) d_Mo_type_24 (by decide) (by rfl) rfl ?_
      refine x_aload_n C d_Mo_type_27 rfl ?_
      refine x_get C (G_Mo E.1) 2 (u_766 E.1) d_Mo_type_28 (by decide) (by rfl) (show _ = some (.int (zI κ.2.2.1)) from rfl) ?_
      refine x_iload_n C d_Mo_type_31 rfl ?_
      refine x_iast C d_Mo_type_32 (by exact h34) (by omega) (by omega) (by omega) ?_
      refine x_aload_n C d_Mo_type_33 rfl ?_
      refine x_dup C d_Mo_type_34 rfl ?_
      refine x_get C (G_Mo E.1) 2 (u_766 E.1) d_Mo_type_35 (by decide) (by rfl) (show _ = some (.int (zI κ.2.2.1)) from rfl) ?_
      refine x_iconst C d_Mo_type_38 ?_
      refine x_iadd C d_Mo_type_39 ?_
      refine x_put C (G_Mo E.1) 2 (u_766 E.1) d_Mo_type_40 (by decide) rfl (by rfl) rfl rfl (nle rfl) ?_
      refine x_iconst C d_Mo_type_43 ?_
      exact x_zret C d_Mo_type_44 (by omega) (nle rfl) (nle rfl) ⟨rfl, (sM_eq rfl rfl rfl rfl rfl rfl rfl rfl (fun q q1 q2 q3 q4 q5 q6 q7 q8 => by simp only [sM, a_up, beq_f q1, beq_f q2, beq_f q3, beq_f q4, beq_f q5, beq_f q6, beq_f q7, beq_f q8, cond_false])), rfl⟩
    · exfalso; omega

set_option maxRecDepth 100000 in
set_option maxHeartbeats 4000000 in
theorem c_Mo_type0 {a0 : Array Value} {s0 : State} {D : va_G} {cI cL : ClassId} (l : Launch) (E : a_E a0 s0 D cI cL) {h : AH} {K : Nat} {κ : Kp} {v : Hs × T3 × Int × Cn4} {c0 : Cd} {src : Int → Int} (h34 : h 34 = some (iA cI 120 src)) (n1 : 0 ≤ κ.2.2.1) (n2 : κ.2.2.1 ≤ 120) {b : Int} (bb : ¬ (0 ≤ b ∧ b ≤ 255) ∨ κ.2.2.1 = 120) (b1 : -2147483648 ≤ b) (b2 : b < 2147483648) : XM l s0 D y_Mo_type prog_13_method_4_code 2 (some .boolean) 1 0 0 [.ref (s0.heap.size + 33), .int (zI b)] (sM s0.heap.size cI h κ (c0, v)) (K) (PR (some (.int (zI (0)))) (sM s0.heap.size cI h ((0, κ.2) : Kp) (c0, v)) K) := by
  refine XM.of (cI := cI) (cL := cL) (own := "NarrowingPackerModel") (by decide) rfl E.2 (nle rfl) ?_
  intro p e s m below meth c C hn
  refine x_aload_n C d_Mo_type_0 rfl ?_
  refine x_iconst C d_Mo_type_1 ?_
  refine x_put C (G_Mo E.1) 0 (u_764 E.1) d_Mo_type_2 (by decide) rfl (by rfl) rfl rfl (nle rfl) ?_
  refine x_iload_n C d_Mo_type_5 rfl ?_
  refine x_callSR C (u_875 E.1) (u_876 E.1) (u_877 E.1) (u_13 E.1) d_Mo_type_6 (c_Mo_isByte l E b1 b2) nh_Mo_isByte ln_Mo_isByte rfl (nle rfl) (nle rfl) (nle rfl) (nle rfl) (nle rfl) ?_
  have hz := isB_01 b
  refine x_if_eq C (tgt := 21) d_Mo_type_9 (by decide) (by omega) (by omega) (fun c9 => ?_) (fun c9 => ?_)
  · refine x_iconst C d_Mo_type_21 ?_
    exact x_zret C d_Mo_type_22 (by omega) (nle rfl) (nle rfl) ⟨rfl, (sM_eq rfl rfl rfl rfl rfl rfl rfl rfl (fun q q1 q2 q3 q4 q5 q6 q7 q8 => by simp only [sM, a_up, beq_f q1, beq_f q2, beq_f q3, beq_f q4, beq_f q5, beq_f q6, beq_f q7, beq_f q8, cond_false])), rfl⟩
  · refine x_aload_n C d_Mo_type_12 rfl ?_
    refine x_get C (G_Mo E.1) 2 (u_766 E.1) d_Mo_type_13 (by decide) (by rfl) (show _ = some (.int (zI κ.2.2.1)) from rfl) ?_
    refine x_bipush C d_Mo_type_16 (by decide) ?_
    refine x_icmp_ne C (tgt := 23) d_Mo_type_18 (by decide) (by omega) (by omega) (by omega) (by omega) (fun c18 => ?_) (fun c18 => ?_)
    · exfalso; omega
    · refine x_iconst C d_Mo_type_21 ?_
      exact x_zret C d_Mo_type_22 (by omega) (nle rfl) (nle rfl) ⟨rfl, (sM_eq rfl rfl rfl rfl rfl rfl rfl rfl (fun q q1 q2 q3 q4 q5 q6 q7 q8 => by simp only [sM, a_up, beq_f q1, beq_f q2, beq_f q3, beq_f q4, beq_f q5, beq_f q6, beq_f q7, beq_f q8, cond_false])), rfl⟩

set_option maxRecDepth 100000 in
set_option maxHeartbeats 4000000 in
theorem c_Mo_add1 {a0 : Array Value} {s0 : State} {D : va_G} {cI cL : ClassId} (l : Launch) (E : a_E a0 s0 D cI cL) {h : AH} {K : Nat} {κ : Kp} {v : Hs × T3 × Int × Cn4} {c0 : Cd} {P : Int → Int} (h35 : h 35 = some (iA cI 200 P)) (n1 : 0 ≤ κ.2.2.2.1) (n2 : κ.2.2.2.1 ≤ 200) {b : Int} (bb : 0 ≤ b ∧ b ≤ 255) (nn : κ.2.2.2.1 < 200) (b1 : -2147483648 ≤ b) (b2 : b < 2147483648) : XM l s0 D y_Mo_add prog_13_method_32_code 2 (some .boolean) 1 0 0 [.ref (s0.heap.size + 33), .int (zI b)] (sM s0.heap.size cI h κ (c0, v)) (K) (PR (some (.int (zI (1)))) (sM s0.heap.size cI (a_up h 35 (iA cI 200 (zup P κ.2.2.2.1 b))) ((0, κ.2.1, κ.2.2.1, κ.2.2.2.1 + 1, κ.2.2.2.2) : Kp) (c0, v)) K) := by
  refine XM.of (cI := cI) (cL := cL) (own := "NarrowingPackerModel") (by decide) rfl E.2 (nle rfl) ?_
  intro p e s m below meth c C hn
  refine x_aload_n C d_Mo_add_0 rfl ?_
  refine x_iconst C d_Mo_add_1 ?_
  refine x_put C (G_Mo E.1) 0 (u_764 E.1) d_Mo_add_2 (by decide) rfl (by rfl) rfl rfl (nle rfl) ?_
  refine x_iload_n C d_Mo_add_5 rfl ?_
  refine x_callSR C (u_875 E.1) (u_876 E.1) (u_877 E.1) (u_13 E.1) d_Mo_add_6 (c_Mo_isByte l E b1 b2) nh_Mo_isByte ln_Mo_isByte rfl (nle rfl) (nle rfl) (nle rfl) (nle rfl) (nle rfl) ?_
  have hz := isB_01 b
  refine x_if_eq C (tgt := 22) d_Mo_add_9 (by decide) (by omega) (by omega) (fun c9 => ?_) (fun c9 => ?_)
  · exfalso; omega
  · refine x_aload_n C d_Mo_add_12 rfl ?_
    refine x_get C (G_Mo E.1) 4 (u_768 E.1) d_Mo_add_13 (by decide) (by rfl) (show _ = some (.int (zI κ.2.2.2.1)) from rfl) ?_
    refine x_sipush C d_Mo_add_16 (by decide) ?_
    refine x_icmp_ne C (tgt := 24) d_Mo_add_19 (by decide) (by omega) (by omega) (by omega) (by omega) (fun c19 => ?_) (fun c19 => ?_)
    · refine x_aload_n C d_Mo_add_24 rfl ?_
      refine x_get C (G_Mo E.1) 5 (u_769 E.1) d_Mo_add_25 (by decide) (by rfl) rfl ?_
      refine x_aload_n C d_Mo_add_28 rfl ?_
      refine x_get C (G_Mo E.1) 4 (u_768 E.1) d_Mo_add_29 (by decide) (by rfl) (show _ = some (.int (zI κ.2.2.2.1)) from rfl) ?_
      refine x_iload_n C d_Mo_add_32 rfl ?_
      refine x_iast C d_Mo_add_33 (by exact h35) (by omega) (by omega) (by omega) ?_
      refine x_aload_n C d_Mo_add_34 rfl ?_
      refine x_dup C d_Mo_add_35 rfl ?_
      refine x_get C (G_Mo E.1) 4 (u_768 E.1) d_Mo_add_36 (by decide) (by rfl) (show _ = some (.int (zI κ.2.2.2.1)) from rfl) ?_
      refine x_iconst C d_Mo_add_39 ?_
      refine x_iadd C d_Mo_add_40 ?_
      refine x_put C (G_Mo E.1) 4 (u_768 E.1) d_Mo_add_41 (by decide) rfl (by rfl) rfl rfl (nle rfl) ?_
      refine x_iconst C d_Mo_add_44 ?_
      exact x_zret C d_Mo_add_45 (by omega) (nle rfl) (nle rfl) ⟨rfl, (sM_eq rfl rfl rfl rfl rfl rfl rfl rfl (fun q q1 q2 q3 q4 q5 q6 q7 q8 => by simp only [sM, a_up, beq_f q1, beq_f q2, beq_f q3, beq_f q4, beq_f q5, beq_f q6, beq_f q7, beq_f q8, cond_false])), rfl⟩
    · exfalso; omega

set_option maxRecDepth 100000 in
set_option maxHeartbeats 4000000 in
theorem c_Mo_add0 {a0 : Array Value} {s0 : State} {D : va_G} {cI cL : ClassId} (l : Launch) (E : a_E a0 s0 D cI cL) {h : AH} {K : Nat} {κ : Kp} {v : Hs × T3 × Int × Cn4} {c0 : Cd} {P : Int → Int} (h35 : h 35 = some (iA cI 200 P)) (n1 : 0 ≤ κ.2.2.2.1) (n2 : κ.2.2.2.1 ≤ 200) {b : Int} (bb : ¬ (0 ≤ b ∧ b ≤ 255) ∨ κ.2.2.2.1 = 200) (b1 : -2147483648 ≤ b) (b2 : b < 2147483648) : XM l s0 D y_Mo_add prog_13_method_32_code 2 (some .boolean) 1 0 0 [.ref (s0.heap.size + 33), .int (zI b)] (sM s0.heap.size cI h κ (c0, v)) (K) (PR (some (.int (zI (0)))) (sM s0.heap.size cI h ((0, κ.2) : Kp) (c0, v)) K) := by
  refine XM.of (cI := cI) (cL := cL) (own := "NarrowingPackerModel") (by decide) rfl E.2 (nle rfl) ?_
  intro p e s m below meth c C hn
  refine x_aload_n C d_Mo_add_0 rfl ?_
  refine x_iconst C d_Mo_add_1 ?_
  refine x_put C (G_Mo E.1) 0 (u_764 E.1) d_Mo_add_2 (by decide) rfl (by rfl) rfl rfl (nle rfl) ?_
  refine x_iload_n C d_Mo_add_5 rfl ?_
  refine x_callSR C (u_875 E.1) (u_876 E.1) (u_877 E.1) (u_13 E.1) d_Mo_add_6 (c_Mo_isByte l E b1 b2) nh_Mo_isByte ln_Mo_isByte rfl (nle rfl) (nle rfl) (nle rfl) (nle rfl) (nle rfl) ?_
  have hz := isB_01 b
  refine x_if_eq C (tgt := 22) d_Mo_add_9 (by decide) (by omega) (by omega) (fun c9 => ?_) (fun c9 => ?_)
  · refine x_iconst C d_Mo_add_22 ?_
    exact x_zret C d_Mo_add_23 (by omega) (nle rfl) (nle rfl) ⟨rfl, (sM_eq rfl rfl rfl rfl rfl rfl rfl rfl (fun q q1 q2 q3 q4 q5 q6 q7 q8 => by simp only [sM, a_up, beq_f q1, beq_f q2, beq_f q3, beq_f q4, beq_f q5, beq_f q6, beq_f q7, beq_f q8, cond_false])), rfl⟩
  · refine x_aload_n C d_Mo_add_12 rfl ?_
    refine x_get C (G_Mo E.1) 4 (u_768 E.1) d_Mo_add_13 (by decide) (by rfl) (show _ = some (.int (zI κ.2.2.2.1)) from rfl) ?_
    refine x_sipush C d_Mo_add_16 (by decide) ?_
    refine x_icmp_ne C (tgt := 24) d_Mo_add_19 (by decide) (by omega) (by omega) (by omega) (by omega) (fun c19 => ?_) (fun c19 => ?_)
    · exfalso; omega
    · refine x_iconst C d_Mo_add_22 ?_
      exact x_zret C d_Mo_add_23 (by omega) (nle rfl) (nle rfl) ⟨rfl, (sM_eq rfl rfl rfl rfl rfl rfl rfl rfl (fun q q1 q2 q3 q4 q5 q6 q7 q8 => by simp only [sM, a_up, beq_f q1, beq_f q2, beq_f q3, beq_f q4, beq_f q5, beq_f q6, beq_f q7, beq_f q8, cond_false])), rfl⟩

set_option maxRecDepth 100000 in
set_option maxHeartbeats 4000000 in
theorem c_Mo_put0 {a0 : Array Value} {s0 : State} {D : va_G} {cI cL : ClassId} (l : Launch) (E : a_E a0 s0 D cI cL) {h : AH} {K : Nat} {κ : Kp} {v : Hs × T3 × Int × Cn4} {c0 : Cd} {P : Int → Int} (h35 : h 35 = some (iA cI 200 P)) (n1 : 0 ≤ κ.2.2.2.1) (n2 : κ.2.2.2.1 ≤ 200) {i b : Int} (i1 : -2147483648 ≤ i) (i2 : i < 2147483648) (b1 : -2147483648 ≤ b) (b2 : b < 2147483648) (hi : 0 ≤ i ∧ i < κ.2.2.2.1) (hb : 0 ≤ b ∧ b ≤ 255) : XM l s0 D y_Mo_put prog_13_method_33_code 4 (some .int) 1 0 0 [.ref (s0.heap.size + 33), .int (zI i), .int (zI b)] (sM s0.heap.size cI h κ (c0, v)) (K) (PR (some (.int (zI (P i)))) (sM s0.heap.size cI (a_up h 35 (iA cI 200 (zup P i b))) ((0, κ.2) : Kp) (c0, v)) K) := by
  refine XM.of (cI := cI) (cL := cL) (own := "NarrowingPackerModel") (by decide) rfl E.2 (nle rfl) ?_
  intro p e s m below meth c C hn
  refine x_aload_n C d_Mo_put_0 rfl ?_
  refine x_iload_n C d_Mo_put_1 rfl ?_
  refine x_if_lt C (tgt := 13) d_Mo_put_2 (by decide) (by omega) (by omega) (fun c2 => ?_) (fun c2 => ?_)
  · exfalso; omega
  · refine x_iload_n C d_Mo_put_5 rfl ?_
    refine x_aload_n C d_Mo_put_6 rfl ?_
    refine x_get C (G_Mo E.1) 4 (u_768 E.1) d_Mo_put_7 (by decide) (by rfl) (show _ = some (.int (zI κ.2.2.2.1)) from rfl) ?_
    refine x_icmp_lt C (tgt := 17) d_Mo_put_10 (by decide) (by omega) (by omega) (by omega) (by omega) (fun c10 => ?_) (fun c10 => ?_)
    · refine x_iload_n C d_Mo_put_17 rfl ?_
      refine x_callSR C (u_875 E.1) (u_876 E.1) (u_877 E.1) (u_13 E.1) d_Mo_put_18 (c_Mo_isByte l E b1 b2) nh_Mo_isByte ln_Mo_isByte rfl (nle rfl) (nle rfl) (nle rfl) (nle rfl) (nle rfl) ?_
      have hz := isB_01 b
      refine x_if_eq C (tgt := 28) d_Mo_put_21 (by decide) (by omega) (by omega) (fun c21 => ?_) (fun c21 => ?_)
      · exfalso; omega
      · refine x_iconst C d_Mo_put_24 ?_
        refine x_goto C (tgt := 29) d_Mo_put_25 (by decide) ?_
        refine x_put C (G_Mo E.1) 0 (u_764 E.1) d_Mo_put_29 (by decide) rfl (by rfl) rfl rfl (nle rfl) ?_
        refine x_aload_n C d_Mo_put_32 rfl ?_
        refine x_get C (G_Mo E.1) 0 (u_764 E.1) d_Mo_put_33 (by decide) (by rfl) (show _ = some (.int (zI 0)) from rfl) ?_
        refine x_if_le C (tgt := 41) d_Mo_put_36 (by decide) (by omega) (by omega) (fun c36 => ?_) (fun c36 => ?_)
        · refine x_aload_n C d_Mo_put_41 rfl ?_
          refine x_get C (G_Mo E.1) 5 (u_769 E.1) d_Mo_put_42 (by decide) (by rfl) rfl ?_
          refine x_iload_n C d_Mo_put_45 rfl ?_
          refine x_iald C d_Mo_put_46 (by exact h35) (by omega) (by omega) (by omega) ?_
          refine x_istore_n C d_Mo_put_47 (by decide) ?_
          refine x_aload_n C d_Mo_put_48 rfl ?_
          refine x_get C (G_Mo E.1) 5 (u_769 E.1) d_Mo_put_49 (by decide) (by rfl) rfl ?_
          refine x_iload_n C d_Mo_put_52 rfl ?_
          refine x_iload_n C d_Mo_put_53 rfl ?_
          refine x_iast C d_Mo_put_54 (by exact h35) (by omega) (by omega) (by omega) ?_
          refine x_iload_n C d_Mo_put_55 rfl ?_
          exact x_iret C d_Mo_put_56 (nle rfl) (nle rfl) ⟨rfl, (sM_eq rfl rfl rfl rfl rfl rfl rfl rfl (fun q q1 q2 q3 q4 q5 q6 q7 q8 => by simp only [sM, a_up, beq_f q1, beq_f q2, beq_f q3, beq_f q4, beq_f q5, beq_f q6, beq_f q7, beq_f q8, cond_false])), rfl⟩
        · exfalso; omega
    · exfalso; omega

set_option maxRecDepth 100000 in
set_option maxHeartbeats 4000000 in
theorem c_Mo_put1 {a0 : Array Value} {s0 : State} {D : va_G} {cI cL : ClassId} (l : Launch) (E : a_E a0 s0 D cI cL) {h : AH} {K : Nat} {κ : Kp} {v : Hs × T3 × Int × Cn4} {c0 : Cd} {P : Int → Int} (h35 : h 35 = some (iA cI 200 P)) (n1 : 0 ≤ κ.2.2.2.1) (n2 : κ.2.2.2.1 ≤ 200) {i b : Int} (i1 : -2147483648 ≤ i) (i2 : i < 2147483648) (b1 : -2147483648 ≤ b) (b2 : b < 2147483648) (hi : ¬ (0 ≤ i ∧ i < κ.2.2.2.1)) : XM l s0 D y_Mo_put prog_13_method_33_code 4 (some .int) 1 0 0 [.ref (s0.heap.size + 33), .int (zI i), .int (zI b)] (sM s0.heap.size cI h κ (c0, v)) (K) (PR (some (.int (zI (0)))) (sM s0.heap.size cI h ((1, κ.2) : Kp) (c0, v)) K) := by
  refine XM.of (cI := cI) (cL := cL) (own := "NarrowingPackerModel") (by decide) rfl E.2 (nle rfl) ?_
  intro p e s m below meth c C hn
  refine x_aload_n C d_Mo_put_0 rfl ?_
  refine x_iload_n C d_Mo_put_1 rfl ?_
  refine x_if_lt C (tgt := 13) d_Mo_put_2 (by decide) (by omega) (by omega) (fun c2 => ?_) (fun c2 => ?_)
  · refine x_iconst C d_Mo_put_13 ?_
    refine x_goto C (tgt := 29) d_Mo_put_14 (by decide) ?_
    refine x_put C (G_Mo E.1) 0 (u_764 E.1) d_Mo_put_29 (by decide) rfl (by rfl) rfl rfl (nle rfl) ?_
    refine x_aload_n C d_Mo_put_32 rfl ?_
    refine x_get C (G_Mo E.1) 0 (u_764 E.1) d_Mo_put_33 (by decide) (by rfl) (show _ = some (.int (zI 1)) from rfl) ?_
    refine x_if_le C (tgt := 41) d_Mo_put_36 (by decide) (by omega) (by omega) (fun c36 => ?_) (fun c36 => ?_)
    · exfalso; omega
    · refine x_iconst C d_Mo_put_39 ?_
      exact x_iret C d_Mo_put_40 (nle rfl) (nle rfl) ⟨rfl, (sM_eq rfl rfl rfl rfl rfl rfl rfl rfl (fun q q1 q2 q3 q4 q5 q6 q7 q8 => by simp only [sM, a_up, beq_f q1, beq_f q2, beq_f q3, beq_f q4, beq_f q5, beq_f q6, beq_f q7, beq_f q8, cond_false])), rfl⟩
  · refine x_iload_n C d_Mo_put_5 rfl ?_
    refine x_aload_n C d_Mo_put_6 rfl ?_
    refine x_get C (G_Mo E.1) 4 (u_768 E.1) d_Mo_put_7 (by decide) (by rfl) (show _ = some (.int (zI κ.2.2.2.1)) from rfl) ?_
    refine x_icmp_lt C (tgt := 17) d_Mo_put_10 (by decide) (by omega) (by omega) (by omega) (by omega) (fun c10 => ?_) (fun c10 => ?_)
    · exfalso; omega
    · refine x_iconst C d_Mo_put_13 ?_
      refine x_goto C (tgt := 29) d_Mo_put_14 (by decide) ?_
      refine x_put C (G_Mo E.1) 0 (u_764 E.1) d_Mo_put_29 (by decide) rfl (by rfl) rfl rfl (nle rfl) ?_
      refine x_aload_n C d_Mo_put_32 rfl ?_
      refine x_get C (G_Mo E.1) 0 (u_764 E.1) d_Mo_put_33 (by decide) (by rfl) (show _ = some (.int (zI 1)) from rfl) ?_
      refine x_if_le C (tgt := 41) d_Mo_put_36 (by decide) (by omega) (by omega) (fun c36 => ?_) (fun c36 => ?_)
      · exfalso; omega
      · refine x_iconst C d_Mo_put_39 ?_
        exact x_iret C d_Mo_put_40 (nle rfl) (nle rfl) ⟨rfl, (sM_eq rfl rfl rfl rfl rfl rfl rfl rfl (fun q q1 q2 q3 q4 q5 q6 q7 q8 => by simp only [sM, a_up, beq_f q1, beq_f q2, beq_f q3, beq_f q4, beq_f q5, beq_f q6, beq_f q7, beq_f q8, cond_false])), rfl⟩

set_option maxRecDepth 100000 in
set_option maxHeartbeats 4000000 in
theorem c_Mo_put2 {a0 : Array Value} {s0 : State} {D : va_G} {cI cL : ClassId} (l : Launch) (E : a_E a0 s0 D cI cL) {h : AH} {K : Nat} {κ : Kp} {v : Hs × T3 × Int × Cn4} {c0 : Cd} {P : Int → Int} (h35 : h 35 = some (iA cI 200 P)) (n1 : 0 ≤ κ.2.2.2.1) (n2 : κ.2.2.2.1 ≤ 200) {i b : Int} (i1 : -2147483648 ≤ i) (i2 : i < 2147483648) (b1 : -2147483648 ≤ b) (b2 : b < 2147483648) (hi : 0 ≤ i ∧ i < κ.2.2.2.1) (hb : ¬ (0 ≤ b ∧ b ≤ 255)) : XM l s0 D y_Mo_put prog_13_method_33_code 4 (some .int) 1 0 0 [.ref (s0.heap.size + 33), .int (zI i), .int (zI b)] (sM s0.heap.size cI h κ (c0, v)) (K) (PR (some (.int (zI (0)))) (sM s0.heap.size cI h ((2, κ.2) : Kp) (c0, v)) K) := by
  refine XM.of (cI := cI) (cL := cL) (own := "NarrowingPackerModel") (by decide) rfl E.2 (nle rfl) ?_
  intro p e s m below meth c C hn
  refine x_aload_n C d_Mo_put_0 rfl ?_
  refine x_iload_n C d_Mo_put_1 rfl ?_
  refine x_if_lt C (tgt := 13) d_Mo_put_2 (by decide) (by omega) (by omega) (fun c2 => ?_) (fun c2 => ?_)
  · exfalso; omega
  · refine x_iload_n C d_Mo_put_5 rfl ?_
    refine x_aload_n C d_Mo_put_6 rfl ?_
    refine x_get C (G_Mo E.1) 4 (u_768 E.1) d_Mo_put_7 (by decide) (by rfl) (show _ = some (.int (zI κ.2.2.2.1)) from rfl) ?_
    refine x_icmp_lt C (tgt := 17) d_Mo_put_10 (by decide) (by omega) (by omega) (by omega) (by omega) (fun c10 => ?_) (fun c10 => ?_)
    · refine x_iload_n C d_Mo_put_17 rfl ?_
      refine x_callSR C (u_875 E.1) (u_876 E.1) (u_877 E.1) (u_13 E.1) d_Mo_put_18 (c_Mo_isByte l E b1 b2) nh_Mo_isByte ln_Mo_isByte rfl (nle rfl) (nle rfl) (nle rfl) (nle rfl) (nle rfl) ?_
      have hz := isB_01 b
      refine x_if_eq C (tgt := 28) d_Mo_put_21 (by decide) (by omega) (by omega) (fun c21 => ?_) (fun c21 => ?_)
      · refine x_iconst C d_Mo_put_28 ?_
        refine x_put C (G_Mo E.1) 0 (u_764 E.1) d_Mo_put_29 (by decide) rfl (by rfl) rfl rfl (nle rfl) ?_
        refine x_aload_n C d_Mo_put_32 rfl ?_
        refine x_get C (G_Mo E.1) 0 (u_764 E.1) d_Mo_put_33 (by decide) (by rfl) (show _ = some (.int (zI 2)) from rfl) ?_
        refine x_if_le C (tgt := 41) d_Mo_put_36 (by decide) (by omega) (by omega) (fun c36 => ?_) (fun c36 => ?_)
        · exfalso; omega
        · refine x_iconst C d_Mo_put_39 ?_
          exact x_iret C d_Mo_put_40 (nle rfl) (nle rfl) ⟨rfl, (sM_eq rfl rfl rfl rfl rfl rfl rfl rfl (fun q q1 q2 q3 q4 q5 q6 q7 q8 => by simp only [sM, a_up, beq_f q1, beq_f q2, beq_f q3, beq_f q4, beq_f q5, beq_f q6, beq_f q7, beq_f q8, cond_false])), rfl⟩
      · exfalso; omega
    · exfalso; omega

set_option maxRecDepth 100000 in
set_option maxHeartbeats 4000000 in
theorem c_Mo_cut0 {a0 : Array Value} {s0 : State} {D : va_G} {cI cL : ClassId} (l : Launch) (E : a_E a0 s0 D cI cL) {h : AH} {K : Nat} {κ : Kp} {v : Hs × T3 × Int × Cn4} {c0 : Cd} (n1 : 0 ≤ κ.2.2.2.1) (n2 : κ.2.2.2.1 ≤ 200) {i : Int} (i1 : -2147483648 ≤ i) (i2 : i < 2147483648) (hi : 0 ≤ i) : XM l s0 D y_Mo_cut prog_13_method_34_code 3 (some .int) 0 0 0 [.ref (s0.heap.size + 33), .int (zI i)] (sM s0.heap.size cI h κ (c0, v)) (K) (PR (some (.int (zI (κ.2.2.2.1 - max 0 (min i κ.2.2.2.1))))) (sM s0.heap.size cI h ((0, κ.2.1, κ.2.2.1, max 0 (min i κ.2.2.2.1), κ.2.2.2.2) : Kp) (c0, v)) K) := by
  refine XM.of (cI := cI) (cL := cL) (own := "NarrowingPackerModel") (by decide) rfl E.2 (nle rfl) ?_
  intro p e s m below meth c C hn
  refine x_aload_n C d_Mo_cut_0 rfl ?_
  refine x_iload_n C d_Mo_cut_1 rfl ?_
  refine x_if_ge C (tgt := 9) d_Mo_cut_2 (by decide) (by omega) (by omega) (fun c2 => ?_) (fun c2 => ?_)
  · refine x_iconst C d_Mo_cut_9 ?_
    refine x_put C (G_Mo E.1) 0 (u_764 E.1) d_Mo_cut_10 (by decide) rfl (by rfl) rfl rfl (nle rfl) ?_
    refine x_aload_n C d_Mo_cut_13 rfl ?_
    refine x_get C (G_Mo E.1) 0 (u_764 E.1) d_Mo_cut_14 (by decide) (by rfl) (show _ = some (.int (zI 0)) from rfl) ?_
    refine x_if_gt C (tgt := 28) d_Mo_cut_17 (by decide) (by omega) (by omega) (fun c17 => ?_) (fun c17 => ?_)
    · exfalso; omega
    · refine x_iload_n C d_Mo_cut_20 rfl ?_
      refine x_aload_n C d_Mo_cut_21 rfl ?_
      refine x_get C (G_Mo E.1) 4 (u_768 E.1) d_Mo_cut_22 (by decide) (by rfl) (show _ = some (.int (zI κ.2.2.2.1)) from rfl) ?_
      refine x_icmp_lt C (tgt := 30) d_Mo_cut_25 (by decide) (by omega) (by omega) (by omega) (by omega) (fun c25 => ?_) (fun c25 => ?_)
      · refine x_aload_n C d_Mo_cut_30 rfl ?_
        refine x_get C (G_Mo E.1) 4 (u_768 E.1) d_Mo_cut_31 (by decide) (by rfl) (show _ = some (.int (zI κ.2.2.2.1)) from rfl) ?_
        refine x_iload_n C d_Mo_cut_34 rfl ?_
        refine x_isub C d_Mo_cut_35 ?_
        refine x_istore_n C d_Mo_cut_36 (by decide) ?_
        refine x_aload_n C d_Mo_cut_37 rfl ?_
        refine x_iload_n C d_Mo_cut_38 rfl ?_
        refine x_put C (G_Mo E.1) 4 (u_768 E.1) d_Mo_cut_39 (by decide) rfl (by rfl) rfl rfl (nle rfl) ?_
        refine x_iload_n C d_Mo_cut_42 rfl ?_
        exact x_iret C d_Mo_cut_43 (nle rfl) (nle rfl) ⟨by rw [show max 0 (min i κ.2.2.2.1) = i by omega]; first | done | rfl, by rw [show max 0 (min i κ.2.2.2.1) = i by omega]; exact (sM_eq rfl rfl rfl rfl rfl rfl rfl rfl (fun q q1 q2 q3 q4 q5 q6 q7 q8 => by simp only [sM, a_up, beq_f q1, beq_f q2, beq_f q3, beq_f q4, beq_f q5, beq_f q6, beq_f q7, beq_f q8, cond_false])), rfl⟩
      · refine x_iconst C d_Mo_cut_28 ?_
        exact x_iret C d_Mo_cut_29 (nle rfl) (nle rfl) ⟨by rw [show max 0 (min i κ.2.2.2.1) = κ.2.2.2.1 by omega, Int.sub_self], by rw [show max 0 (min i κ.2.2.2.1) = κ.2.2.2.1 by omega]; exact (sM_eq rfl rfl rfl rfl rfl rfl rfl rfl (fun q q1 q2 q3 q4 q5 q6 q7 q8 => by simp only [sM, a_up, beq_f q1, beq_f q2, beq_f q3, beq_f q4, beq_f q5, beq_f q6, beq_f q7, beq_f q8, cond_false])), rfl⟩
  · exfalso; omega

set_option maxRecDepth 100000 in
set_option maxHeartbeats 4000000 in
theorem c_Mo_cut1 {a0 : Array Value} {s0 : State} {D : va_G} {cI cL : ClassId} (l : Launch) (E : a_E a0 s0 D cI cL) {h : AH} {K : Nat} {κ : Kp} {v : Hs × T3 × Int × Cn4} {c0 : Cd} (n1 : 0 ≤ κ.2.2.2.1) (n2 : κ.2.2.2.1 ≤ 200) {i : Int} (i1 : -2147483648 ≤ i) (i2 : i < 2147483648) (hi : i < 0) : XM l s0 D y_Mo_cut prog_13_method_34_code 3 (some .int) 0 0 0 [.ref (s0.heap.size + 33), .int (zI i)] (sM s0.heap.size cI h κ (c0, v)) (K) (PR (some (.int (zI (0)))) (sM s0.heap.size cI h ((1, κ.2) : Kp) (c0, v)) K) := by
  refine XM.of (cI := cI) (cL := cL) (own := "NarrowingPackerModel") (by decide) rfl E.2 (nle rfl) ?_
  intro p e s m below meth c C hn
  refine x_aload_n C d_Mo_cut_0 rfl ?_
  refine x_iload_n C d_Mo_cut_1 rfl ?_
  refine x_if_ge C (tgt := 9) d_Mo_cut_2 (by decide) (by omega) (by omega) (fun c2 => ?_) (fun c2 => ?_)
  · exfalso; omega
  · refine x_iconst C d_Mo_cut_5 ?_
    refine x_goto C (tgt := 10) d_Mo_cut_6 (by decide) ?_
    refine x_put C (G_Mo E.1) 0 (u_764 E.1) d_Mo_cut_10 (by decide) rfl (by rfl) rfl rfl (nle rfl) ?_
    refine x_aload_n C d_Mo_cut_13 rfl ?_
    refine x_get C (G_Mo E.1) 0 (u_764 E.1) d_Mo_cut_14 (by decide) (by rfl) (show _ = some (.int (zI 1)) from rfl) ?_
    refine x_if_gt C (tgt := 28) d_Mo_cut_17 (by decide) (by omega) (by omega) (fun c17 => ?_) (fun c17 => ?_)
    · refine x_iconst C d_Mo_cut_28 ?_
      exact x_iret C d_Mo_cut_29 (nle rfl) (nle rfl) ⟨rfl, (sM_eq rfl rfl rfl rfl rfl rfl rfl rfl (fun q q1 q2 q3 q4 q5 q6 q7 q8 => by simp only [sM, a_up, beq_f q1, beq_f q2, beq_f q3, beq_f q4, beq_f q5, beq_f q6, beq_f q7, beq_f q8, cond_false])), rfl⟩
    · exfalso; omega

/-- the reference's heap -/
def isM (b : Nat) (cI : ClassId) (g : AH) (κ : Kp) (c : Cd) (v : Vw) (src P res : Int → Int) (L : T3) (kc : Int → Int) : Prop :=
  sM b cI g κ (c, v) = g ∧ g 34 = some (iA cI 120 src) ∧ g 35 = some (iA cI 200 P) ∧ g 36 = some (iA cI 120 res) ∧ g 37 = some (iA cI 121 L.1) ∧ g 38 = some (iA cI 121 L.2.1) ∧ g 39 = some (iA cI 121 L.2.2) ∧ g 40 = some (iA cI 72 kc)
set_option maxRecDepth 100000 in
set_option maxHeartbeats 4000000 in
theorem c_Mo_init {a0 : Array Value} {s0 : State} {D : va_G} {cI cL : ClassId} (l : Launch) (E : a_E a0 s0 D cI cL) {h : AH} (ha : h 33 = some (.inr (11, [.int (zI 0), .int (zI 0), .int (zI 0), .null, .int (zI 0), .null, .int (zI 0), .null, .int (zI 0), .int (zI 0), .null, .null, .null, .null, .int (zI 0), .int (zI 0), .null, .long (zL 0), .int (zI 0), .null, .long (zL 0), .int (zI 0), .int (zI 0), .int (zI 0), .null, .null, .int (zI 0), .null, .null, .null, .int (zI 0), .int (zI 0), .int (zI 0), .int (zI 0)]))) {lim : Int} (l1 : -2147483648 ≤ lim) (l2 : lim < 2147483648) : XM l s0 D y_Mo_init prog_13_method_1_code 2 none 1 14 6910 [.ref (s0.heap.size + 33), .int (zI lim)] (h) (34) (fun o h' K' => o = .inl none ∧ K' = 48 ∧ isM s0.heap.size cI h' (0, max 1 (min 16 lim), 0, 0, 0, 0, 0) (0, 0, fun _ => 0, 0, 0, fun _ => 0, 0, 0) ((fun _ => 0, 0, fun _ => 0, 0), (fun _ => 0, fun _ => 0, fun _ => 0), 0, (0, 0, 0, 0)) (fun _ => 0) (fun _ => 0) (fun _ => 0) (fun _ => 0, fun _ => 0, fun _ => 0) (fun _ => 0) ∧ (∀ q, q < 33 → h' q = h q)) := by
  refine XM.of (cI := cI) (cL := cL) (own := "NarrowingPackerModel") (by decide) rfl E.2 (nle rfl) ?_
  intro p e s m below meth c C hn
  refine x_aload_n C d_Mo_init_0 rfl ?_
  refine x_objInit C (u_763 E.1) (u_29 E.1) (u_30 E.1) d_Mo_init_1 (nle rfl) (nle rfl) ?_
  refine x_aload_n C d_Mo_init_4 rfl ?_
  refine x_bipush C d_Mo_init_5 (by decide) ?_
  refine x_newa C (u_52 E.1) 120 d_Mo_init_7 rfl (by decide) (nle rfl) (nle rfl) ?_
  refine x_putF C hn (G_Mo E.1) 3 (u_767 E.1) d_Mo_init_9 (by decide) rfl rfl (by exact ha) rfl rfl (nle rfl) ?_
  refine x_aload_n C d_Mo_init_12 rfl ?_
  refine x_sipush C d_Mo_init_13 (by decide) ?_
  refine x_newa C (u_52 E.1) 200 d_Mo_init_16 rfl (by decide) (nle rfl) (nle rfl) ?_
  refine x_putF C hn (G_Mo E.1) 5 (u_769 E.1) d_Mo_init_18 (by decide) rfl rfl (by rfl) rfl rfl (nle rfl) ?_
  refine x_aload_n C d_Mo_init_21 rfl ?_
  refine x_bipush C d_Mo_init_22 (by decide) ?_
  refine x_newa C (u_52 E.1) 120 d_Mo_init_24 rfl (by decide) (nle rfl) (nle rfl) ?_
  refine x_putF C hn (G_Mo E.1) 7 (u_771 E.1) d_Mo_init_26 (by decide) rfl rfl (by rfl) rfl rfl (nle rfl) ?_
  refine x_aload_n C d_Mo_init_29 rfl ?_
  refine x_bipush C d_Mo_init_30 (by decide) ?_
  refine x_newa C (u_52 E.1) 121 d_Mo_init_32 rfl (by decide) (nle rfl) (nle rfl) ?_
  refine x_putF C hn (G_Mo E.1) 10 (u_774 E.1) d_Mo_init_34 (by decide) rfl rfl (by rfl) rfl rfl (nle rfl) ?_
  refine x_aload_n C d_Mo_init_37 rfl ?_
  refine x_bipush C d_Mo_init_38 (by decide) ?_
  refine x_newa C (u_52 E.1) 121 d_Mo_init_40 rfl (by decide) (nle rfl) (nle rfl) ?_
  refine x_putF C hn (G_Mo E.1) 11 (u_775 E.1) d_Mo_init_42 (by decide) rfl rfl (by rfl) rfl rfl (nle rfl) ?_
  refine x_aload_n C d_Mo_init_45 rfl ?_
  refine x_bipush C d_Mo_init_46 (by decide) ?_
  refine x_newa C (u_52 E.1) 121 d_Mo_init_48 rfl (by decide) (nle rfl) (nle rfl) ?_
  refine x_putF C hn (G_Mo E.1) 12 (u_776 E.1) d_Mo_init_50 (by decide) rfl rfl (by rfl) rfl rfl (nle rfl) ?_
  refine x_aload_n C d_Mo_init_53 rfl ?_
  refine x_bipush C d_Mo_init_54 (by decide) ?_
  refine x_newa C (u_52 E.1) 72 d_Mo_init_56 rfl (by decide) (nle rfl) (nle rfl) ?_
  refine x_putF C hn (G_Mo E.1) 13 (u_777 E.1) d_Mo_init_58 (by decide) rfl rfl (by rfl) rfl rfl (nle rfl) ?_
  refine x_aload_n C d_Mo_init_61 rfl ?_
  refine x_sipush C d_Mo_init_62 (by decide) ?_
  refine x_newa C (u_52 E.1) 3948 d_Mo_init_65 rfl (by decide) (nle rfl) (nle rfl) ?_
  refine x_putF C hn (G_Mo E.1) 16 (u_780 E.1) d_Mo_init_67 (by decide) rfl rfl (by rfl) rfl rfl (nle rfl) ?_
  refine x_aload_n C d_Mo_init_70 rfl ?_
  refine x_sipush C d_Mo_init_71 (by decide) ?_
  refine x_newa C (u_52 E.1) 1600 d_Mo_init_74 rfl (by decide) (nle rfl) (nle rfl) ?_
  refine x_putF C hn (G_Mo E.1) 19 (u_783 E.1) d_Mo_init_76 (by decide) rfl rfl (by rfl) rfl rfl (nle rfl) ?_
  refine x_aload_n C d_Mo_init_79 rfl ?_
  refine x_bipush C d_Mo_init_80 (by decide) ?_
  refine x_newa C (u_52 E.1) 120 d_Mo_init_82 rfl (by decide) (nle rfl) (nle rfl) ?_
  refine x_putF C hn (G_Mo E.1) 24 (u_788 E.1) d_Mo_init_84 (by decide) rfl rfl (by rfl) rfl rfl (nle rfl) ?_
  refine x_aload_n C d_Mo_init_87 rfl ?_
  refine x_iconst C d_Mo_init_88 ?_
  refine x_newa C (u_52 E.1) 4 d_Mo_init_89 rfl (by decide) (nle rfl) (nle rfl) ?_
  refine x_putF C hn (G_Mo E.1) 25 (u_789 E.1) d_Mo_init_91 (by decide) rfl rfl (by rfl) rfl rfl (nle rfl) ?_
  refine x_aload_n C d_Mo_init_94 rfl ?_
  refine x_bipush C d_Mo_init_95 (by decide) ?_
  refine x_newa C (u_52 E.1) 121 d_Mo_init_97 rfl (by decide) (nle rfl) (nle rfl) ?_
  refine x_putF C hn (G_Mo E.1) 27 (u_791 E.1) d_Mo_init_99 (by decide) rfl rfl (by rfl) rfl rfl (nle rfl) ?_
  refine x_aload_n C d_Mo_init_102 rfl ?_
  refine x_bipush C d_Mo_init_103 (by decide) ?_
  refine x_newa C (u_52 E.1) 121 d_Mo_init_105 rfl (by decide) (nle rfl) (nle rfl) ?_
  refine x_putF C hn (G_Mo E.1) 28 (u_792 E.1) d_Mo_init_107 (by decide) rfl rfl (by rfl) rfl rfl (nle rfl) ?_
  refine x_aload_n C d_Mo_init_110 rfl ?_
  refine x_bipush C d_Mo_init_111 (by decide) ?_
  refine x_newa C (u_52 E.1) 121 d_Mo_init_113 rfl (by decide) (nle rfl) (nle rfl) ?_
  refine x_putF C hn (G_Mo E.1) 29 (u_793 E.1) d_Mo_init_115 (by decide) rfl rfl (by rfl) rfl rfl (nle rfl) ?_
  refine x_aload_n C d_Mo_init_118 rfl ?_
  refine x_iload_n C d_Mo_init_119 rfl ?_
  refine x_iconst C d_Mo_init_120 ?_
  refine x_icmp_ge C (tgt := 128) d_Mo_init_121 (by decide) (by omega) (by omega) (by omega) (by omega) (fun c121 => ?_) (fun c121 => ?_)
  · refine x_iload_n C d_Mo_init_128 rfl ?_
    refine x_bipush C d_Mo_init_129 (by decide) ?_
    refine x_icmp_le C (tgt := 139) d_Mo_init_131 (by decide) (by omega) (by omega) (by omega) (by omega) (fun c131 => ?_) (fun c131 => ?_)
    · refine x_iload_n C d_Mo_init_139 rfl ?_
      refine XW.steq (st' := .int (zI (max 1 (min 16 lim))) :: .ref (s0.heap.size + 33) :: []) (by first | (rw [show max 1 (min 16 lim) = 1 by omega]; first | done | rfl) | (rw [show max 1 (min 16 lim) = 16 by omega]; first | done | rfl) | (rw [show max 1 (min 16 lim) = lim by omega]; first | done | rfl)) ?_
      refine x_putF C hn (G_Mo E.1) 1 (u_765 E.1) d_Mo_init_140 (by decide) rfl rfl (by rfl) rfl rfl (nle rfl) ?_
      exact x_vret C d_Mo_init_143 (nle rfl) (nle rfl) ⟨rfl, rfl, ⟨(sM_eq rfl rfl rfl rfl rfl rfl rfl rfl (fun q _ _ _ _ _ _ _ _ => rfl)).symm, rfl, rfl, rfl, rfl, rfl, rfl, rfl⟩, fun q hq => by
  simp only [a_up, beq_f (show q ≠ 33 by omega), beq_f (show q ≠ 34 by omega), beq_f (show q ≠ 35 by omega), beq_f (show q ≠ 36 by omega), beq_f (show q ≠ 37 by omega), beq_f (show q ≠ 38 by omega), beq_f (show q ≠ 39 by omega), beq_f (show q ≠ 40 by omega), beq_f (show q ≠ 41 by omega), beq_f (show q ≠ 42 by omega), beq_f (show q ≠ 43 by omega), beq_f (show q ≠ 44 by omega), beq_f (show q ≠ 45 by omega), beq_f (show q ≠ 46 by omega), beq_f (show q ≠ 47 by omega), cond_false]⟩
    · refine x_bipush C d_Mo_init_134 (by decide) ?_
      refine x_goto C (tgt := 140) d_Mo_init_136 (by decide) ?_
      refine XW.steq (st' := .int (zI (max 1 (min 16 lim))) :: .ref (s0.heap.size + 33) :: []) (by first | (rw [show max 1 (min 16 lim) = 1 by omega]; first | done | rfl) | (rw [show max 1 (min 16 lim) = 16 by omega]; first | done | rfl) | (rw [show max 1 (min 16 lim) = lim by omega]; first | done | rfl)) ?_
      refine x_putF C hn (G_Mo E.1) 1 (u_765 E.1) d_Mo_init_140 (by decide) rfl rfl (by rfl) rfl rfl (nle rfl) ?_
      exact x_vret C d_Mo_init_143 (nle rfl) (nle rfl) ⟨rfl, rfl, ⟨(sM_eq rfl rfl rfl rfl rfl rfl rfl rfl (fun q _ _ _ _ _ _ _ _ => rfl)).symm, rfl, rfl, rfl, rfl, rfl, rfl, rfl⟩, fun q hq => by
  simp only [a_up, beq_f (show q ≠ 33 by omega), beq_f (show q ≠ 34 by omega), beq_f (show q ≠ 35 by omega), beq_f (show q ≠ 36 by omega), beq_f (show q ≠ 37 by omega), beq_f (show q ≠ 38 by omega), beq_f (show q ≠ 39 by omega), beq_f (show q ≠ 40 by omega), beq_f (show q ≠ 41 by omega), beq_f (show q ≠ 42 by omega), beq_f (show q ≠ 43 by omega), beq_f (show q ≠ 44 by omega), beq_f (show q ≠ 45 by omega), beq_f (show q ≠ 46 by omega), beq_f (show q ≠ 47 by omega), cond_false]⟩
  · refine x_iconst C d_Mo_init_124 ?_
    refine x_goto C (tgt := 140) d_Mo_init_125 (by decide) ?_
    refine XW.steq (st' := .int (zI (max 1 (min 16 lim))) :: .ref (s0.heap.size + 33) :: []) (by first | (rw [show max 1 (min 16 lim) = 1 by omega]; first | done | rfl) | (rw [show max 1 (min 16 lim) = 16 by omega]; first | done | rfl) | (rw [show max 1 (min 16 lim) = lim by omega]; first | done | rfl)) ?_
    refine x_putF C hn (G_Mo E.1) 1 (u_765 E.1) d_Mo_init_140 (by decide) rfl rfl (by rfl) rfl rfl (nle rfl) ?_
    exact x_vret C d_Mo_init_143 (nle rfl) (nle rfl) ⟨rfl, rfl, ⟨(sM_eq rfl rfl rfl rfl rfl rfl rfl rfl (fun q _ _ _ _ _ _ _ _ => rfl)).symm, rfl, rfl, rfl, rfl, rfl, rfl, rfl⟩, fun q hq => by
  simp only [a_up, beq_f (show q ≠ 33 by omega), beq_f (show q ≠ 34 by omega), beq_f (show q ≠ 35 by omega), beq_f (show q ≠ 36 by omega), beq_f (show q ≠ 37 by omega), beq_f (show q ≠ 38 by omega), beq_f (show q ≠ 39 by omega), beq_f (show q ≠ 40 by omega), beq_f (show q ≠ 41 by omega), beq_f (show q ≠ 42 by omega), beq_f (show q ≠ 43 by omega), beq_f (show q ≠ 44 by omega), beq_f (show q ≠ 45 by omega), beq_f (show q ≠ 46 by omega), beq_f (show q ≠ 47 by omega), cond_false]⟩

