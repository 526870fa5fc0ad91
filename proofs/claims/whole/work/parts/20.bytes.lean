/-! bytes: a row of them with a count -/
abbrev oBy (b r : Nat) (n : Int) : va_E := .inr (0, [.ref (b + r), .int (zI n)])
def isB (b : Int) : Int := if 0 ≤ b ∧ b ≤ 255 then 1 else 0
def hasZ (i n : Int) : Int := if 0 ≤ i ∧ i < n then 1 else 0
def getZ (f : Int → Int) (i n : Int) : Int := if 0 ≤ i ∧ i < n then f i else -1
theorem isB_1 {b : Int} (h : 0 ≤ b ∧ b ≤ 255) : isB b = 1 := if_pos h
theorem isB_0 {b : Int} (h : ¬ (0 ≤ b ∧ b ≤ 255)) : isB b = 0 := if_neg h
theorem isB_01 (b : Int) : (isB b = 0 ∧ ¬ (0 ≤ b ∧ b ≤ 255)) ∨ (isB b = 1 ∧ 0 ≤ b ∧ b ≤ 255) := by unfold isB; split <;> omega
theorem hasZ_01 (i n : Int) : (hasZ i n = 0 ∧ ¬ (0 ≤ i ∧ i < n)) ∨ (hasZ i n = 1 ∧ 0 ≤ i ∧ i < n) := by unfold hasZ; split <;> omega
set_option maxRecDepth 100000 in
set_option maxHeartbeats 4000000 in
theorem c_Np_isByte {a0 : Array Value} {s0 : State} {D : va_G} {cI cL : ClassId} (l : Launch) (E : a_E a0 s0 D cI cL) {h : AH} {K : Nat} {b : Int} (b1 : -2147483648 ≤ b) (b2 : b < 2147483648) : XM l s0 D y_Np_isByte prog_1_method_16_code 1 (some .boolean) 0 0 0 [.int (zI b)] (h) (K) (PR (some (.int (zI (isB b)))) h K) := by
  refine XM.of (cI := cI) (cL := cL) (own := "NarrowingPacker") (by decide) rfl E.2 (nle rfl) ?_
  intro p e s m below meth c C hn
  refine x_iload_n C d_Np_isByte_0 rfl ?_
  refine x_if_lt C (tgt := 15) d_Np_isByte_1 (by decide) (by omega) (by omega) (fun c1 => ?_) (fun c1 => ?_)
  · refine x_iconst C d_Np_isByte_15 ?_
    exact x_zret C d_Np_isByte_16 (by omega) (nle rfl) (nle rfl) ⟨by unfold isB; split <;> first | rfl | (exfalso; omega), rfl, rfl⟩
  · refine x_iload_n C d_Np_isByte_4 rfl ?_
    refine x_sipush C d_Np_isByte_5 (by decide) ?_
    refine x_icmp_gt C (tgt := 15) d_Np_isByte_8 (by decide) (by omega) (by omega) (by omega) (by omega) (fun c8 => ?_) (fun c8 => ?_)
    · refine x_iconst C d_Np_isByte_15 ?_
      exact x_zret C d_Np_isByte_16 (by omega) (nle rfl) (nle rfl) ⟨by unfold isB; split <;> first | rfl | (exfalso; omega), rfl, rfl⟩
    · refine x_iconst C d_Np_isByte_11 ?_
      refine x_goto C (tgt := 16) d_Np_isByte_12 (by decide) ?_
      exact x_zret C d_Np_isByte_16 (by omega) (nle rfl) (nle rfl) ⟨by unfold isB; split <;> first | rfl | (exfalso; omega), rfl, rfl⟩

set_option maxRecDepth 100000 in
set_option maxHeartbeats 4000000 in
theorem c_By_has {a0 : Array Value} {s0 : State} {D : va_G} {cI cL : ClassId} (l : Launch) (E : a_E a0 s0 D cI cL) {h : AH} {K a r : Nat} {n : Int} (ha : h a = some (oBy s0.heap.size r n)) (n1 : 0 ≤ n) (n2 : n < 100000) {i : Int} (i1 : -2147483648 ≤ i) (i2 : i < 2147483648) : XM l s0 D y_By_has prog_2_method_2_code 2 (some .boolean) 0 0 0 [.ref (s0.heap.size + a), .int (zI i)] (h) (K) (PR (some (.int (zI (hasZ i n)))) h K) := by
  refine XM.of (cI := cI) (cL := cL) (own := "NarrowingPacker$Bytes") (by decide) rfl E.2 (nle rfl) ?_
  intro p e s m below meth c C hn
  refine x_iload_n C d_By_has_0 rfl ?_
  refine x_if_lt C (tgt := 16) d_By_has_1 (by decide) (by omega) (by omega) (fun c1 => ?_) (fun c1 => ?_)
  · refine x_iconst C d_By_has_16 ?_
    exact x_zret C d_By_has_17 (by omega) (nle rfl) (nle rfl) ⟨by unfold hasZ; split <;> first | rfl | (exfalso; omega), rfl, rfl⟩
  · refine x_iload_n C d_By_has_4 rfl ?_
    refine x_aload_n C d_By_has_5 rfl ?_
    refine x_get C (G_By E.1) 1 (u_43 E.1) d_By_has_6 (by decide) ha rfl ?_
    refine x_icmp_ge C (tgt := 16) d_By_has_9 (by decide) (by omega) (by omega) (by omega) (by omega) (fun c9 => ?_) (fun c9 => ?_)
    · refine x_iconst C d_By_has_16 ?_
      exact x_zret C d_By_has_17 (by omega) (nle rfl) (nle rfl) ⟨by unfold hasZ; split <;> first | rfl | (exfalso; omega), rfl, rfl⟩
    · refine x_iconst C d_By_has_12 ?_
      refine x_goto C (tgt := 17) d_By_has_13 (by decide) ?_
      exact x_zret C d_By_has_17 (by omega) (nle rfl) (nle rfl) ⟨by unfold hasZ; split <;> first | rfl | (exfalso; omega), rfl, rfl⟩

set_option maxRecDepth 100000 in
set_option maxHeartbeats 4000000 in
theorem c_By_get {a0 : Array Value} {s0 : State} {D : va_G} {cI cL : ClassId} (l : Launch) (E : a_E a0 s0 D cI cL) {h : AH} {K a r N : Nat} {n : Int} {f : Int → Int} (ha : h a = some (oBy s0.heap.size r n)) (hr : h r = some (iA cI N f)) (hN : (N : Int) < 100000) (n1 : 0 ≤ n) (n2 : n ≤ (N : Int)) {i : Int} (i1 : -2147483648 ≤ i) (i2 : i < 2147483648) : XM l s0 D y_By_get prog_2_method_3_code 2 (some .int) 1 0 0 [.ref (s0.heap.size + a), .int (zI i)] (h) (K) (PR (some (.int (zI (getZ f i n)))) h K) := by
  refine XM.of (cI := cI) (cL := cL) (own := "NarrowingPacker$Bytes") (by decide) rfl E.2 (nle rfl) ?_
  intro p e s m below meth c C hn
  refine x_aload_n C d_By_get_0 rfl ?_
  refine x_iload_n C d_By_get_1 rfl ?_
  refine x_callVR C (G_By E.1) (u_332 E.1) (u_333 E.1) (u_334 E.1) (u_335 E.1) (u_2 E.1) d_By_get_2 (c_By_has l E ha n1 (by omega) i1 i2) nh_By_has ln_By_has rfl ha (nle rfl) (nle rfl) (nle rfl) (nle rfl) (nle rfl) ?_
  have hz := hasZ_01 i n
  refine x_if_eq C (tgt := 17) d_By_get_5 (by decide) (by omega) (by omega) (fun c5 => ?_) (fun c5 => ?_)
  · refine x_iconst C d_By_get_17 ?_
    exact x_iret C d_By_get_18 (nle rfl) (nle rfl) ⟨by unfold getZ; split <;> first | rfl | (exfalso; omega), rfl, rfl⟩
  · refine x_aload_n C d_By_get_8 rfl ?_
    refine x_get C (G_By E.1) 0 (u_37 E.1) d_By_get_9 (by decide) ha rfl ?_
    refine x_iload_n C d_By_get_12 rfl ?_
    refine x_iald C d_By_get_13 hr (by omega) (by omega) (by omega) ?_
    refine x_goto C (tgt := 18) d_By_get_14 (by decide) ?_
    exact x_iret C d_By_get_18 (nle rfl) (nle rfl) ⟨by unfold getZ; split <;> first | rfl | (exfalso; omega), rfl, rfl⟩

set_option maxRecDepth 100000 in
set_option maxHeartbeats 4000000 in
theorem c_By_append {a0 : Array Value} {s0 : State} {D : va_G} {cI cL : ClassId} (l : Launch) (E : a_E a0 s0 D cI cL) {h : AH} {K a r N : Nat} {n : Int} {f : Int → Int} (ha : h a = some (oBy s0.heap.size r n)) (hr : h r = some (iA cI N f)) (hN : (N : Int) < 100000) (n1 : 0 ≤ n) (n2 : n ≤ (N : Int)) (ne : a ≠ r) {b : Int} (bb : 0 ≤ b ∧ b ≤ 255) (nn : n < (N : Int)) (b1 : -2147483648 ≤ b) (b2 : b < 2147483648) : XM l s0 D y_By_append prog_2_method_4_code 2 (some .boolean) 1 0 0 [.ref (s0.heap.size + a), .int (zI b)] (h) (K) (PR (some (.int (zI 1))) (a_up (a_up h r (iA cI N (zup f n b))) a (oBy s0.heap.size r (n + 1))) K) := by
  refine XM.of (cI := cI) (cL := cL) (own := "NarrowingPacker$Bytes") (by decide) rfl E.2 (nle rfl) ?_
  intro p e s m below meth c C hn
  refine x_iload_n C d_By_append_0 rfl ?_
  refine x_callSNR C (u_291 E.1) (u_292 E.1) (u_293 E.1) (u_1 E.1) d_By_append_1 (c_Np_isByte l E b1 b2) nh_Np_isByte ln_Np_isByte rfl (nle rfl) (nle rfl) (nle rfl) (nle rfl) (nle rfl) ?_
  have hz := isB_01 b
  refine x_if_eq C (tgt := 19) d_By_append_4 (by decide) (by omega) (by omega) (fun c4 => ?_) (fun c4 => ?_)
  · exfalso; omega
  · refine x_aload_n C d_By_append_7 rfl ?_
    refine x_get C (G_By E.1) 1 (u_43 E.1) d_By_append_8 (by decide) ha rfl ?_
    refine x_aload_n C d_By_append_11 rfl ?_
    refine x_get C (G_By E.1) 0 (u_37 E.1) d_By_append_12 (by decide) ha rfl ?_
    refine x_alen C d_By_append_15 hr ?_
    refine x_icmp_lt C (tgt := 21) d_By_append_16 (by decide) (by omega) (by omega) (by omega) (by omega) (fun c16 => ?_) (fun c16 => ?_)
    · refine x_aload_n C d_By_append_21 rfl ?_
      refine x_get C (G_By E.1) 0 (u_37 E.1) d_By_append_22 (by decide) ha rfl ?_
      refine x_aload_n C d_By_append_25 rfl ?_
      refine x_get C (G_By E.1) 1 (u_43 E.1) d_By_append_26 (by decide) ha rfl ?_
      refine x_iload_n C d_By_append_29 rfl ?_
      refine x_iast C d_By_append_30 hr (by omega) (by omega) (by omega) ?_
      refine x_aload_n C d_By_append_31 rfl ?_
      refine x_dup C d_By_append_32 rfl ?_
      refine x_get C (G_By E.1) 1 (u_43 E.1) d_By_append_33 (by decide) (by rw [a_up_n ne]; exact ha) rfl ?_
      refine x_iconst C d_By_append_36 ?_
      refine x_iadd C d_By_append_37 ?_
      refine x_put C (G_By E.1) 1 (u_43 E.1) d_By_append_38 (by decide) rfl (by rw [a_up_n ne]; exact ha) rfl rfl (nle rfl) ?_
      refine x_iconst C d_By_append_41 ?_
      exact x_zret C d_By_append_42 (by omega) (nle rfl) (nle rfl) ⟨rfl, rfl, rfl⟩
    · exfalso; omega

set_option maxRecDepth 100000 in
set_option maxHeartbeats 4000000 in
theorem c_By_append0 {a0 : Array Value} {s0 : State} {D : va_G} {cI cL : ClassId} (l : Launch) (E : a_E a0 s0 D cI cL) {h : AH} {K a r N : Nat} {n : Int} {f : Int → Int} (ha : h a = some (oBy s0.heap.size r n)) (hr : h r = some (iA cI N f)) (hN : (N : Int) < 100000) (n1 : 0 ≤ n) (n2 : n ≤ (N : Int)) {b : Int} (bb : ¬ (0 ≤ b ∧ b ≤ 255) ∨ n = (N : Int)) (b1 : -2147483648 ≤ b) (b2 : b < 2147483648) : XM l s0 D y_By_append prog_2_method_4_code 2 (some .boolean) 1 0 0 [.ref (s0.heap.size + a), .int (zI b)] (h) (K) (PR (some (.int (zI 0))) h K) := by
  refine XM.of (cI := cI) (cL := cL) (own := "NarrowingPacker$Bytes") (by decide) rfl E.2 (nle rfl) ?_
  intro p e s m below meth c C hn
  refine x_iload_n C d_By_append_0 rfl ?_
  refine x_callSNR C (u_291 E.1) (u_292 E.1) (u_293 E.1) (u_1 E.1) d_By_append_1 (c_Np_isByte l E b1 b2) nh_Np_isByte ln_Np_isByte rfl (nle rfl) (nle rfl) (nle rfl) (nle rfl) (nle rfl) ?_
  have hz := isB_01 b
  refine x_if_eq C (tgt := 19) d_By_append_4 (by decide) (by omega) (by omega) (fun c4 => ?_) (fun c4 => ?_)
  · refine x_iconst C d_By_append_19 ?_
    exact x_zret C d_By_append_20 (by omega) (nle rfl) (nle rfl) ⟨rfl, rfl, rfl⟩
  · refine x_aload_n C d_By_append_7 rfl ?_
    refine x_get C (G_By E.1) 1 (u_43 E.1) d_By_append_8 (by decide) ha rfl ?_
    refine x_aload_n C d_By_append_11 rfl ?_
    refine x_get C (G_By E.1) 0 (u_37 E.1) d_By_append_12 (by decide) ha rfl ?_
    refine x_alen C d_By_append_15 hr ?_
    refine x_icmp_lt C (tgt := 21) d_By_append_16 (by decide) (by omega) (by omega) (by omega) (by omega) (fun c16 => ?_) (fun c16 => ?_)
    · exfalso; omega
    · refine x_iconst C d_By_append_19 ?_
      exact x_zret C d_By_append_20 (by omega) (nle rfl) (nle rfl) ⟨rfl, rfl, rfl⟩

set_option maxRecDepth 100000 in
set_option maxHeartbeats 4000000 in
theorem c_By_shorten {a0 : Array Value} {s0 : State} {D : va_G} {cI cL : ClassId} (l : Launch) (E : a_E a0 s0 D cI cL) {h : AH} {K a r : Nat} {n : Int} (ha : h a = some (oBy s0.heap.size r n)) (n1 : 0 ≤ n) (n2 : n < 100000) {i : Int} (i1 : -2147483648 ≤ i) (i2 : i < 2147483648) : XM l s0 D y_By_shorten prog_2_method_5_code 3 (some .int) 1 0 0 [.ref (s0.heap.size + a), .int (zI i)] (h) (K) (PR (some (.int (zI (n - max 0 (min i n))))) (a_up h a (oBy s0.heap.size r (max 0 (min i n)))) K) := by
  refine XM.of (cI := cI) (cL := cL) (own := "NarrowingPacker$Bytes") (by decide) rfl E.2 (nle rfl) ?_
  intro p e s m below meth c C hn
  refine x_aload_n C d_By_shorten_0 rfl ?_
  refine x_get C (G_By E.1) 1 (u_43 E.1) d_By_shorten_1 (by decide) ha rfl ?_
  refine x_istore_n C d_By_shorten_4 (by decide) ?_
  refine x_aload_n C d_By_shorten_5 rfl ?_
  refine x_iconst C d_By_shorten_6 ?_
  refine x_iload_n C d_By_shorten_7 rfl ?_
  refine x_iload_n C d_By_shorten_8 rfl ?_
  refine x_min C (u_302 E.1) (u_140 E.1) (u_7 E.1) (u_141 E.1) d_By_shorten_9 (nle rfl) (nle rfl) (nle rfl) (nle rfl) (by omega) (by omega) (by omega) (by omega) ?_
  refine x_max C (u_303 E.1) (u_143 E.1) (u_7 E.1) (u_144 E.1) d_By_shorten_12 (nle rfl) (nle rfl) (nle rfl) (nle rfl) (by omega) (by omega) (by omega) (by omega) ?_
  refine x_put C (G_By E.1) 1 (u_43 E.1) d_By_shorten_15 (by decide) rfl ha rfl rfl (nle rfl) ?_
  refine x_iload_n C d_By_shorten_18 rfl ?_
  refine x_aload_n C d_By_shorten_19 rfl ?_
  refine x_get C (G_By E.1) 1 (u_43 E.1) d_By_shorten_20 (by decide) (a_up_s _ _ _) rfl ?_
  refine x_isub C d_By_shorten_23 ?_
  exact x_iret C d_By_shorten_24 (nle rfl) (nle rfl) ⟨rfl, rfl, rfl⟩

set_option maxRecDepth 100000 in
set_option maxHeartbeats 4000000 in
theorem c_By_copy {a0 : Array Value} {s0 : State} {D : va_G} {cI cL : ClassId} (l : Launch) (E : a_E a0 s0 D cI cL) {h : AH} {K a r N : Nat} {n : Int} {f : Int → Int} (ha : h a = some (oBy s0.heap.size r n)) (hr : h r = some (iA cI N f)) (hN : (N : Int) < 100000) (n1 : 0 ≤ n) (n2 : n ≤ (N : Int)) {r2 M : Nat} {g : Int → Int} (ne : r ≠ a) (ne2 : r2 ≠ a) (h2 : h r2 = some (iA cI M g)) (hM : (M : Int) < 100000) {i : Int} (i1 : 0 ≤ i) (i2 : i ≤ (M : Int)) (i3 : i ≤ (N : Int)) : XM l s0 D y_By_copy prog_2_method_6_code 3 none 2 0 0 [.ref (s0.heap.size + a), .ref (s0.heap.size + r2), .int (zI i)] (h) (K) (PR none (a_up (a_up h a (oBy s0.heap.size r i)) r (iA cI N (zcpy g f 0 0 i))) K) := by
  refine XM.of (cI := cI) (cL := cL) (own := "NarrowingPacker$Bytes") (by decide) rfl E.2 (nle rfl) ?_
  intro p e s m below meth c C hn
  refine x_aload_n C d_By_copy_0 rfl ?_
  refine x_iconst C d_By_copy_1 ?_
  refine x_iload_n C d_By_copy_2 rfl ?_
  refine x_aload_n C d_By_copy_3 rfl ?_
  refine x_alen C d_By_copy_4 h2 ?_
  refine x_aload_n C d_By_copy_5 rfl ?_
  refine x_get C (G_By E.1) 0 (u_37 E.1) d_By_copy_6 (by decide) ha rfl ?_
  refine x_alen C d_By_copy_9 hr ?_
  refine x_min C (u_302 E.1) (u_140 E.1) (u_7 E.1) (u_141 E.1) d_By_copy_10 (nle rfl) (nle rfl) (nle rfl) (nle rfl) (by omega) (by omega) (by omega) (by omega) ?_
  refine x_min C (u_302 E.1) (u_140 E.1) (u_7 E.1) (u_141 E.1) d_By_copy_13 (nle rfl) (nle rfl) (nle rfl) (nle rfl) (by omega) (by omega) (by omega) (by omega) ?_
  refine x_max C (u_303 E.1) (u_143 E.1) (u_7 E.1) (u_144 E.1) d_By_copy_16 (nle rfl) (nle rfl) (nle rfl) (nle rfl) (by omega) (by omega) (by omega) (by omega) ?_
  refine x_put C (G_By E.1) 1 (u_43 E.1) d_By_copy_19 (by decide) rfl ha rfl rfl (nle rfl) ?_
  rw [show max 0 (min i (min (M : Int) (N : Int))) = i by omega]
  refine x_aload_n C d_By_copy_22 rfl ?_
  refine x_iconst C d_By_copy_23 ?_
  refine x_aload_n C d_By_copy_24 rfl ?_
  refine x_get C (G_By E.1) 0 (u_37 E.1) d_By_copy_25 (by decide) (a_up_s _ _ _) rfl ?_
  refine x_iconst C d_By_copy_28 ?_
  refine x_aload_n C d_By_copy_29 rfl ?_
  refine x_get C (G_By E.1) 1 (u_43 E.1) d_By_copy_30 (by decide) (a_up_s _ _ _) rfl ?_
  refine x_copy C (u_601 E.1) (u_603 E.1) (u_602 E.1) (u_19 E.1) d_By_copy_33 (by rw [a_up_n ne2]; exact h2) (by rw [a_up_n ne]; exact hr) (by omega) (by omega) (by omega) (by omega) (by omega) (by omega) (by omega) (nle rfl) (nle rfl) ?_
  exact x_vret C d_By_copy_36 (nle rfl) (nle rfl) ⟨rfl, rfl, rfl⟩

set_option maxRecDepth 100000 in
set_option maxHeartbeats 4000000 in
theorem c_By_init {a0 : Array Value} {s0 : State} {D : va_G} {cI cL : ClassId} (l : Launch) (E : a_E a0 s0 D cI cL) {h : AH} {K a : Nat} (ne : a ≠ K) (N : Nat) (hN : N < 100000) (ha : h a = some (.inr (0, [.null, .int (zI 0)]))) : XM l s0 D y_By_init prog_2_method_1_code 2 none 1 1 N [.ref (s0.heap.size + a), .int (zI (N : Int))] (h) (K) (PR none (a_up (a_up h K (iA cI N (fun _ => 0))) a (oBy s0.heap.size K 0)) (K + 1)) := by
  refine XM.of (cI := cI) (cL := cL) (own := "NarrowingPacker$Bytes") (by decide) rfl E.2 (nle rfl) ?_
  intro p e s m below meth c C hn
  refine x_aload_n C d_By_init_0 rfl ?_
  refine x_objInit C (u_36 E.1) (u_29 E.1) (u_30 E.1) d_By_init_1 (nle rfl) (nle rfl) ?_
  refine x_aload_n C d_By_init_4 rfl ?_
  refine x_iload_n C d_By_init_5 rfl ?_
  refine x_newa C (u_52 E.1) N d_By_init_6 rfl hN (nle rfl) (by show 0 + N ≤ N; omega) ?_
  refine x_putF C hn (G_By E.1) 0 (u_37 E.1) d_By_init_8 (by decide) rfl rfl (by rw [a_up_n ne]; exact ha) rfl rfl (nle rfl) ?_
  exact x_vret C d_By_init_11 (nle rfl) (by show 0 + N ≤ N; omega) ⟨rfl, rfl, rfl⟩

