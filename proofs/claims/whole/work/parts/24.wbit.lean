/-! the writer of bits: a bit, a tree, a row -/
set_option maxRecDepth 100000 in
set_option maxHeartbeats 4000000 in
theorem c_Na_writeBit {a0 : Array Value} {s0 : State} {D : va_G} {cI cL : ClassId} (l : Launch) (E : a_E a0 s0 D cI cL) {h : AH} {K : Nat} {x : En} (h24 : h 24 = some (oCh s0.heap.size 25)) (ok : eOk x) (lx : x.2.2.1 < 100000) {pl bit : Int} (p1 : 0 ≤ pl) (p2 : pl < 3820) (bb : bit = 0 ∨ bit = 1) : XM l s0 D y_Na_writeBit prog_7_method_4_code 5 none 1 0 0 [.ref (s0.heap.size + 23), .int (zI pl), .int (zI bit)] (sN s0.heap.size cI h x) (K) (PR none (sN s0.heap.size cI h (eBit x pl bit)) K) := by
  refine XM.of (cI := cI) (cL := cL) (own := "NarrowingPacker$Narrower") (by decide) rfl E.2 (nle rfl) ?_
  intro p e s m below meth c C hn
  obtain ⟨k1, k2, k3, k4, k5, k6⟩ := ok
  have fp := k1 pl
  have hbd := bd_le k5 fp.1 fp.2
  rcases bb with rfl | rfl
  · refine x_aload_n C d_Na_writeBit_0 rfl ?_
    refine x_get C (G_Na E.1) 0 (u_188 E.1) d_Na_writeBit_1 (by decide) rfl rfl ?_
    refine x_aload_n C d_Na_writeBit_4 rfl ?_
    refine x_get C (G_Na E.1) 3 (u_194 E.1) d_Na_writeBit_5 (by decide) rfl rfl ?_
    refine x_iload_n C d_Na_writeBit_8 rfl ?_
    refine x_callVR C (G_Ch E.1) (u_430 E.1) (u_431 E.1) (u_432 E.1) (u_433 E.1) (u_10 E.1) d_Na_writeBit_9 (c_Ch_boundIn l E (by exact h24) (by rfl) p1 p2 (by exact fp) k5 k6) nh_Ch_boundIn ln_Ch_boundIn rfl (by exact h24) (nle rfl) (nle rfl) (nle rfl) (nle rfl) (nle rfl) ?_
    refine x_lstore_n C d_Na_writeBit_12 (by decide) ?_
    refine x_iload_n C d_Na_writeBit_13 rfl ?_
    refine x_if_ne C (tgt := 25) d_Na_writeBit_14 (by decide) (by omega) (by omega) (fun c14 => ?_) (fun c14 => ?_)
    · exfalso; omega
    · refine x_aload_n C d_Na_writeBit_17 rfl ?_
      refine x_lload_n C d_Na_writeBit_18 rfl ?_
      refine x_put C (G_Na E.1) 3 (u_194 E.1) d_Na_writeBit_19 (by decide) rfl rfl rfl rfl (nle rfl) ?_
      refine x_goto C (tgt := 40) d_Na_writeBit_22 (by decide) ?_
      refine x_aload_n C d_Na_writeBit_40 rfl ?_
      refine x_get C (G_Na E.1) 0 (u_188 E.1) d_Na_writeBit_41 (by decide) rfl rfl ?_
      refine x_iload_n C d_Na_writeBit_44 rfl ?_
      refine x_iload_n C d_Na_writeBit_45 rfl ?_
      refine x_callVR C (G_Ch E.1) (u_439 E.1) (u_440 E.1) (u_441 E.1) (u_442 E.1) (u_10 E.1) d_Na_writeBit_46 (c_Ch_learn l E (by exact h24) (by rfl) p1 p2 (by exact fp) (by omega)) nh_Ch_learn ln_Ch_learn rfl (by exact h24) (nle rfl) (nle rfl) (nle rfl) (nle rfl) (nle rfl) ?_
      refine x_aload_n C d_Na_writeBit_49 rfl ?_
      refine x_get C (G_Na E.1) 3 (u_194 E.1) d_Na_writeBit_50 (by decide) rfl rfl ?_
      refine x_ldc2 C (v := 16777216) (u_443 E.1) d_Na_writeBit_53 ?_
      refine x_lcmp C d_Na_writeBit_56 ?_
      refine x_lif_ge C (tgt := 81) d_Na_writeBit_57 (by decide) (by omega) (by omega) (by omega) (by omega) (fun c57 => ?_) (fun c57 => ?_)
      · exact x_vret C d_Na_writeBit_81 (nle rfl) (nle rfl) ⟨rfl, by
          rw [eBit0]
          refine sN_eq rfl rfl ?_ (fun q q1 q2 q3 => by simp only [sN, a_up_n q1, a_up_n q2, a_up_n q3])
          first
            | (rw [moreZ_1 c57, shiftZ_1 c57]; rfl)
            | (rw [moreZ_0 c57, shiftZ_0 c57, Int.add_zero]; rfl), rfl⟩
      · refine x_aload_n C d_Na_writeBit_60 rfl ?_
        refine x_dup C d_Na_writeBit_61 rfl ?_
        refine x_get C (G_Na E.1) 3 (u_194 E.1) d_Na_writeBit_62 (by decide) rfl rfl ?_
        refine x_bipush C d_Na_writeBit_65 (by decide) ?_
        refine x_lshl C (q := 256) 8 d_Na_writeBit_67 rfl rfl (by decide) ?_
        refine x_put C (G_Na E.1) 3 (u_194 E.1) d_Na_writeBit_68 (by decide) rfl rfl rfl rfl (nle rfl) ?_
        refine x_aload_n C d_Na_writeBit_71 rfl ?_
        refine x_dup C d_Na_writeBit_72 rfl ?_
        refine x_get C (G_Na E.1) 2 (u_192 E.1) d_Na_writeBit_73 (by decide) rfl rfl ?_
        refine x_iconst C d_Na_writeBit_76 ?_
        refine x_iadd C d_Na_writeBit_77 ?_
        refine x_put C (G_Na E.1) 2 (u_192 E.1) d_Na_writeBit_78 (by decide) rfl rfl rfl rfl (nle rfl) ?_
        exact x_vret C d_Na_writeBit_81 (nle rfl) (nle rfl) ⟨rfl, by
          rw [eBit0]
          refine sN_eq rfl rfl ?_ (fun q q1 q2 q3 => by simp only [sN, a_up_n q1, a_up_n q2, a_up_n q3])
          first
            | (rw [moreZ_1 c57, shiftZ_1 c57]; rfl)
            | (rw [moreZ_0 c57, shiftZ_0 c57, Int.add_zero]; rfl), rfl⟩
  · by_cases hl : x.2.2.1 ≤ 200
    · refine x_aload_n C d_Na_writeBit_0 rfl ?_
      refine x_get C (G_Na E.1) 0 (u_188 E.1) d_Na_writeBit_1 (by decide) rfl rfl ?_
      refine x_aload_n C d_Na_writeBit_4 rfl ?_
      refine x_get C (G_Na E.1) 3 (u_194 E.1) d_Na_writeBit_5 (by decide) rfl rfl ?_
      refine x_iload_n C d_Na_writeBit_8 rfl ?_
      refine x_callVR C (G_Ch E.1) (u_430 E.1) (u_431 E.1) (u_432 E.1) (u_433 E.1) (u_10 E.1) d_Na_writeBit_9 (c_Ch_boundIn l E (by exact h24) (by rfl) p1 p2 (by exact fp) k5 k6) nh_Ch_boundIn ln_Ch_boundIn rfl (by exact h24) (nle rfl) (nle rfl) (nle rfl) (nle rfl) (nle rfl) ?_
      refine x_lstore_n C d_Na_writeBit_12 (by decide) ?_
      refine x_iload_n C d_Na_writeBit_13 rfl ?_
      refine x_if_ne C (tgt := 25) d_Na_writeBit_14 (by decide) (by omega) (by omega) (fun c14 => ?_) (fun c14 => ?_)
      · refine x_aload_n C d_Na_writeBit_25 rfl ?_
        refine x_lload_n C d_Na_writeBit_26 rfl ?_
        refine x_callVR C (G_Na E.1) (u_434 E.1) (u_436 E.1) (us_4 E.1) (u_437 E.1) (u_9 E.1) d_Na_writeBit_27 (c_Na_raiseLow l E (by rfl) (by rfl) (by exact k2) (by omega) (by omega) (by omega) (by omega)) nh_Na_raiseLow ln_Na_raiseLow rfl rfl (nle rfl) (nle rfl) (nle rfl) (nle rfl) (nle rfl) ?_
        refine x_aload_n C d_Na_writeBit_30 rfl ?_
        refine x_dup C d_Na_writeBit_31 rfl ?_
        refine x_get C (G_Na E.1) 3 (u_194 E.1) d_Na_writeBit_32 (by decide) rfl rfl ?_
        refine x_lload_n C d_Na_writeBit_35 rfl ?_
        refine x_lsub C d_Na_writeBit_36 ?_
        refine x_put C (G_Na E.1) 3 (u_194 E.1) d_Na_writeBit_37 (by decide) rfl rfl rfl rfl (nle rfl) ?_
        refine x_aload_n C d_Na_writeBit_40 rfl ?_
        refine x_get C (G_Na E.1) 0 (u_188 E.1) d_Na_writeBit_41 (by decide) rfl rfl ?_
        refine x_iload_n C d_Na_writeBit_44 rfl ?_
        refine x_iload_n C d_Na_writeBit_45 rfl ?_
        refine x_callVR C (G_Ch E.1) (u_439 E.1) (u_440 E.1) (u_441 E.1) (u_442 E.1) (u_10 E.1) d_Na_writeBit_46 (c_Ch_learn l E (by exact h24) (by rfl) p1 p2 (by exact fp) (by omega)) nh_Ch_learn ln_Ch_learn rfl (by exact h24) (nle rfl) (nle rfl) (nle rfl) (nle rfl) (nle rfl) ?_
        refine x_aload_n C d_Na_writeBit_49 rfl ?_
        refine x_get C (G_Na E.1) 3 (u_194 E.1) d_Na_writeBit_50 (by decide) rfl rfl ?_
        refine x_ldc2 C (v := 16777216) (u_443 E.1) d_Na_writeBit_53 ?_
        refine x_lcmp C d_Na_writeBit_56 ?_
        refine x_lif_ge C (tgt := 81) d_Na_writeBit_57 (by decide) (by omega) (by omega) (by omega) (by omega) (fun c57 => ?_) (fun c57 => ?_)
        · exact x_vret C d_Na_writeBit_81 (nle rfl) (nle rfl) ⟨rfl, by
            rw [eBit1 _ _ hl]
            refine sN_eq rfl rfl ?_ (fun q q1 q2 q3 => by simp only [sN, a_up_n q1, a_up_n q2, a_up_n q3])
            first
              | (rw [moreZ_1 c57, shiftZ_1 c57]; rfl)
              | (rw [moreZ_0 c57, shiftZ_0 c57, Int.add_zero]; rfl), rfl⟩
        · refine x_aload_n C d_Na_writeBit_60 rfl ?_
          refine x_dup C d_Na_writeBit_61 rfl ?_
          refine x_get C (G_Na E.1) 3 (u_194 E.1) d_Na_writeBit_62 (by decide) rfl rfl ?_
          refine x_bipush C d_Na_writeBit_65 (by decide) ?_
          refine x_lshl C (q := 256) 8 d_Na_writeBit_67 rfl rfl (by decide) ?_
          refine x_put C (G_Na E.1) 3 (u_194 E.1) d_Na_writeBit_68 (by decide) rfl rfl rfl rfl (nle rfl) ?_
          refine x_aload_n C d_Na_writeBit_71 rfl ?_
          refine x_dup C d_Na_writeBit_72 rfl ?_
          refine x_get C (G_Na E.1) 2 (u_192 E.1) d_Na_writeBit_73 (by decide) rfl rfl ?_
          refine x_iconst C d_Na_writeBit_76 ?_
          refine x_iadd C d_Na_writeBit_77 ?_
          refine x_put C (G_Na E.1) 2 (u_192 E.1) d_Na_writeBit_78 (by decide) rfl rfl rfl rfl (nle rfl) ?_
          exact x_vret C d_Na_writeBit_81 (nle rfl) (nle rfl) ⟨rfl, by
            rw [eBit1 _ _ hl]
            refine sN_eq rfl rfl ?_ (fun q q1 q2 q3 => by simp only [sN, a_up_n q1, a_up_n q2, a_up_n q3])
            first
              | (rw [moreZ_1 c57, shiftZ_1 c57]; rfl)
              | (rw [moreZ_0 c57, shiftZ_0 c57, Int.add_zero]; rfl), rfl⟩
      · exfalso; omega
    · refine x_aload_n C d_Na_writeBit_0 rfl ?_
      refine x_get C (G_Na E.1) 0 (u_188 E.1) d_Na_writeBit_1 (by decide) rfl rfl ?_
      refine x_aload_n C d_Na_writeBit_4 rfl ?_
      refine x_get C (G_Na E.1) 3 (u_194 E.1) d_Na_writeBit_5 (by decide) rfl rfl ?_
      refine x_iload_n C d_Na_writeBit_8 rfl ?_
      refine x_callVR C (G_Ch E.1) (u_430 E.1) (u_431 E.1) (u_432 E.1) (u_433 E.1) (u_10 E.1) d_Na_writeBit_9 (c_Ch_boundIn l E (by exact h24) (by rfl) p1 p2 (by exact fp) k5 k6) nh_Ch_boundIn ln_Ch_boundIn rfl (by exact h24) (nle rfl) (nle rfl) (nle rfl) (nle rfl) (nle rfl) ?_
      refine x_lstore_n C d_Na_writeBit_12 (by decide) ?_
      refine x_iload_n C d_Na_writeBit_13 rfl ?_
      refine x_if_ne C (tgt := 25) d_Na_writeBit_14 (by decide) (by omega) (by omega) (fun c14 => ?_) (fun c14 => ?_)
      · refine x_aload_n C d_Na_writeBit_25 rfl ?_
        refine x_lload_n C d_Na_writeBit_26 rfl ?_
        refine x_callVR C (G_Na E.1) (u_434 E.1) (u_436 E.1) (us_4 E.1) (u_437 E.1) (u_9 E.1) d_Na_writeBit_27 (c_Na_raiseLow0 l E (by rfl) (by omega) (by omega)) nh_Na_raiseLow ln_Na_raiseLow rfl rfl (nle rfl) (nle rfl) (nle rfl) (nle rfl) (nle rfl) ?_
        refine x_aload_n C d_Na_writeBit_30 rfl ?_
        refine x_dup C d_Na_writeBit_31 rfl ?_
        refine x_get C (G_Na E.1) 3 (u_194 E.1) d_Na_writeBit_32 (by decide) rfl rfl ?_
        refine x_lload_n C d_Na_writeBit_35 rfl ?_
        refine x_lsub C d_Na_writeBit_36 ?_
        refine x_put C (G_Na E.1) 3 (u_194 E.1) d_Na_writeBit_37 (by decide) rfl rfl rfl rfl (nle rfl) ?_
        refine x_aload_n C d_Na_writeBit_40 rfl ?_
        refine x_get C (G_Na E.1) 0 (u_188 E.1) d_Na_writeBit_41 (by decide) rfl rfl ?_
        refine x_iload_n C d_Na_writeBit_44 rfl ?_
        refine x_iload_n C d_Na_writeBit_45 rfl ?_
        refine x_callVR C (G_Ch E.1) (u_439 E.1) (u_440 E.1) (u_441 E.1) (u_442 E.1) (u_10 E.1) d_Na_writeBit_46 (c_Ch_learn l E (by exact h24) (by rfl) p1 p2 (by exact fp) (by omega)) nh_Ch_learn ln_Ch_learn rfl (by exact h24) (nle rfl) (nle rfl) (nle rfl) (nle rfl) (nle rfl) ?_
        refine x_aload_n C d_Na_writeBit_49 rfl ?_
        refine x_get C (G_Na E.1) 3 (u_194 E.1) d_Na_writeBit_50 (by decide) rfl rfl ?_
        refine x_ldc2 C (v := 16777216) (u_443 E.1) d_Na_writeBit_53 ?_
        refine x_lcmp C d_Na_writeBit_56 ?_
        refine x_lif_ge C (tgt := 81) d_Na_writeBit_57 (by decide) (by omega) (by omega) (by omega) (by omega) (fun c57 => ?_) (fun c57 => ?_)
        · exact x_vret C d_Na_writeBit_81 (nle rfl) (nle rfl) ⟨rfl, by
            rw [eBit1' _ _ (by omega)]
            refine sN_eq rfl rfl ?_ (fun q q1 q2 q3 => by simp only [sN, a_up_n q1, a_up_n q2, a_up_n q3])
            first
              | (rw [moreZ_1 c57, shiftZ_1 c57]; rfl)
              | (rw [moreZ_0 c57, shiftZ_0 c57, Int.add_zero]; rfl), rfl⟩
        · refine x_aload_n C d_Na_writeBit_60 rfl ?_
          refine x_dup C d_Na_writeBit_61 rfl ?_
          refine x_get C (G_Na E.1) 3 (u_194 E.1) d_Na_writeBit_62 (by decide) rfl rfl ?_
          refine x_bipush C d_Na_writeBit_65 (by decide) ?_
          refine x_lshl C (q := 256) 8 d_Na_writeBit_67 rfl rfl (by decide) ?_
          refine x_put C (G_Na E.1) 3 (u_194 E.1) d_Na_writeBit_68 (by decide) rfl rfl rfl rfl (nle rfl) ?_
          refine x_aload_n C d_Na_writeBit_71 rfl ?_
          refine x_dup C d_Na_writeBit_72 rfl ?_
          refine x_get C (G_Na E.1) 2 (u_192 E.1) d_Na_writeBit_73 (by decide) rfl rfl ?_
          refine x_iconst C d_Na_writeBit_76 ?_
          refine x_iadd C d_Na_writeBit_77 ?_
          refine x_put C (G_Na E.1) 2 (u_192 E.1) d_Na_writeBit_78 (by decide) rfl rfl rfl rfl (nle rfl) ?_
          exact x_vret C d_Na_writeBit_81 (nle rfl) (nle rfl) ⟨rfl, by
            rw [eBit1' _ _ (by omega)]
            refine sN_eq rfl rfl ?_ (fun q q1 q2 q3 => by simp only [sN, a_up_n q1, a_up_n q2, a_up_n q3])
            first
              | (rw [moreZ_1 c57, shiftZ_1 c57]; rfl)
              | (rw [moreZ_0 c57, shiftZ_0 c57, Int.add_zero]; rfl), rfl⟩
      · exfalso; omega

theorem pow_a {k : Nat} {m B : Int} (h0 : 0 ≤ m) (h : (m + 1) * 2 ^ (k + 1) ≤ B) : 2 * (m + 1) ≤ B := by
  have h1 : (1 : Int) ≤ 2 ^ k := by
    have : (0 : Int) < 2 ^ k := Int.pow_pos (by decide)
    omega
  have h2 := Int.mul_le_mul_of_nonneg_left h1 (show 0 ≤ (m + 1) * 2 by omega)
  have e : (m + 1) * 2 ^ (k + 1) = (m + 1) * 2 * 2 ^ k := by rw [Int.pow_succ, Int.mul_comm (2 ^ k) 2, ← Int.mul_assoc]
  omega
theorem pow_b {k : Nat} {m b B : Int} (hb : b = 0 ∨ b = 1) (h : (m + 1) * 2 ^ (k + 1) ≤ B) : (2 * m + b + 1) * 2 ^ k ≤ B := by
  have h1 : (0 : Int) ≤ 2 ^ k := Int.le_of_lt (Int.pow_pos (by decide))
  have h2 := Int.mul_le_mul_of_nonneg_right (show 2 * m + b + 1 ≤ (m + 1) * 2 by omega) h1
  have e : (m + 1) * 2 ^ (k + 1) = (m + 1) * 2 * 2 ^ k := by rw [Int.pow_succ, Int.mul_comm (2 ^ k) 2, ← Int.mul_assoc]
  omega
set_option maxRecDepth 100000 in
set_option maxHeartbeats 4000000 in
theorem lp_Na_writeTree {a0 : Array Value} {s0 : State} {D : va_G} {cI cL : ClassId} (l : Launch) (E : a_E a0 s0 D cI cL) {p : Program} {e : Env} {R : Room} {s : State} {m : MethodId} {args : Array Value} {below : List Frame} {meth : Method} {c : Code} (C : XC s0 D cI cL p s m meth c "NarrowingPacker$Narrower" prog_7_method_5_code 7 none []) (hR : R = a_rm 2 0 0) {h : AH} {K : Nat} {pl v B : Int} (p1 : 0 ≤ pl) (hB : B ≤ 2 * (3820 - pl)) (v1 : 0 ≤ v) (v2 : v < 2147483648) (h24 : h 24 = some (oCh s0.heap.size 25)) {X : En} : ∀ (k : Nat) (mm : Int) (x : En), k ≤ 30 → 0 ≤ mm → (mm + 1) * 2 ^ k ≤ B → eOk x → x.2.2.1 + k < 100000 → eTree k pl v mm x = X → XW s0 D p l e R s m args below meth c (XQ s0 D 0 0 (PR none (sN s0.heap.size cI h X) K) below s) 8 [(0, .ref (s0.heap.size + 23)), (1, .int (zI pl)), (3, .int (zI v)), (4, .int (zI mm)), (5, .int (zI ((k : Nat) - 1 : Int)))] [] (sN s0.heap.size cI h x) K 0 0 := by
  subst hR
  intro k
  induction k with
  | zero =>
    intro mm x hk m0 mB ok lx hX
    have hX : x = X := hX
    subst hX
    refine x_iload C d_Na_writeTree_8 rfl ?_
    refine x_if_lt C (tgt := 46) d_Na_writeTree_10 (by decide) (by omega) (by omega) (fun c10 => ?_) (fun c10 => ?_)
    · exact x_vret C d_Na_writeTree_46 (nle rfl) (nle rfl) ⟨rfl, rfl, rfl⟩
    · exfalso; omega
  | succ k ih =>
    intro mm x hk m0 mB ok lx hX
    rw [show (((k + 1 : Nat) : Int) - 1) = (k : Int) by omega]
    have ha := pow_a m0 mB
    have hb := bitZ_01 v k
    refine x_iload C d_Na_writeTree_8 rfl ?_
    refine x_if_lt C (tgt := 46) d_Na_writeTree_10 (by decide) (by omega) (by omega) (fun c10 => ?_) (fun c10 => ?_)
    · exfalso; omega
    · refine x_iload_n C d_Na_writeTree_13 rfl ?_
      refine x_iload C d_Na_writeTree_14 rfl ?_
      refine x_ishr C (q := 2 ^ k) k d_Na_writeTree_16 rfl rfl (by omega) (by omega) (by omega) ?_
      refine x_iconst C d_Na_writeTree_17 ?_
      refine x_iand C d_Na_writeTree_18 (zI_and1 _) ?_
      show XW s0 D p l e (a_rm 2 0 0) s m args below meth c _ 19 _ (.int (zI (bitZ v k)) :: []) _ _ _ _
      refine x_istore C d_Na_writeTree_19 (by decide) ?_
      refine x_aload_n C d_Na_writeTree_21 rfl ?_
      refine x_iload_n C d_Na_writeTree_22 rfl ?_
      refine x_iload C d_Na_writeTree_23 rfl ?_
      refine x_iadd C d_Na_writeTree_25 ?_
      refine x_iload C d_Na_writeTree_26 rfl ?_
      refine x_callVR C (G_Na E.1) (u_476 E.1) (u_427 E.1) (u_428 E.1) (u_429 E.1) (u_9 E.1) d_Na_writeTree_28 (c_Na_writeBit l E h24 ok (by omega) (by omega) (by omega) hb) nh_Na_writeBit ln_Na_writeBit rfl rfl (nle rfl) (nle rfl) (nle rfl) (nle rfl) (nle rfl) ?_
      refine x_iconst C d_Na_writeTree_31 ?_
      refine x_iload C d_Na_writeTree_32 rfl ?_
      refine x_imul C d_Na_writeTree_34 ?_
      refine x_iload C d_Na_writeTree_35 rfl ?_
      refine x_iadd C d_Na_writeTree_37 ?_
      refine x_istore C d_Na_writeTree_38 (by decide) ?_
      refine x_iinc C d_Na_writeTree_40 (by decide) rfl ?_
      refine x_goto C (tgt := 8) d_Na_writeTree_43 (by decide) ?_
      refine XW.loc (lv' := [(0, .ref (s0.heap.size + 23)), (1, .int (zI pl)), (3, .int (zI v)), (4, .int (zI (2 * mm + bitZ v k))), (5, .int (zI ((k : Nat) - 1 : Int)))]) ⟨rfl, rfl, rfl, rfl, by rw [show ((k : Nat) - 1 : Int) = (k : Int) + -1 by omega]; rfl, trivial⟩ ?_
      exact ih _ _ (by omega) (by omega) (pow_b hb mB) (eOk_bit ok _ _) (by have := len_bit x (pl + mm) (bitZ v k); omega) hX
set_option maxRecDepth 100000 in
set_option maxHeartbeats 4000000 in
theorem c_Na_writeTree {a0 : Array Value} {s0 : State} {D : va_G} {cI cL : ClassId} (l : Launch) (E : a_E a0 s0 D cI cL) {h : AH} {K : Nat} {x : En} (h24 : h 24 = some (oCh s0.heap.size 25)) (ok : eOk x) (lx : x.2.2.1 < 99000) {pl v : Int} (n : Nat) (n30 : n ≤ 30) (p1 : 0 ≤ pl) (hB : 2 * 2 ^ n ≤ 2 * (3820 - pl)) (v1 : 0 ≤ v) (v2 : v < 2147483648) : XM l s0 D y_Na_writeTree prog_7_method_5_code 7 none 2 0 0 [.ref (s0.heap.size + 23), .int (zI pl), .int (zI (n : Int)), .int (zI v)] (sN s0.heap.size cI h x) (K) (PR none (sN s0.heap.size cI h (eTree n pl v 1 x)) K) := by
  refine XM.of (cI := cI) (cL := cL) (own := "NarrowingPacker$Narrower") (by decide) rfl E.2 (nle rfl) ?_
  intro p e s m below meth c C hn
  refine x_iconst C d_Na_writeTree_0 ?_
  refine x_istore C d_Na_writeTree_1 (by decide) ?_
  refine x_iload_n C d_Na_writeTree_3 rfl ?_
  refine x_iconst C d_Na_writeTree_4 ?_
  refine x_isub C d_Na_writeTree_5 ?_
  refine x_istore C d_Na_writeTree_6 (by decide) ?_
  refine XW.loc (lv' := [(0, .ref (s0.heap.size + 23)), (1, .int (zI pl)), (3, .int (zI v)), (4, .int (zI 1)), (5, .int (zI ((n : Nat) - 1 : Int)))]) ⟨rfl, rfl, rfl, rfl, rfl, trivial⟩ ?_
  exact lp_Na_writeTree l E C rfl p1 hB v1 v2 h24 n 1 x n30 (by omega) (by omega) ok (by omega) rfl

set_option maxRecDepth 100000 in
set_option maxHeartbeats 4000000 in
theorem lp_Na_writeRow {a0 : Array Value} {s0 : State} {D : va_G} {cI cL : ClassId} (l : Launch) (E : a_E a0 s0 D cI cL) {p : Program} {e : Env} {R : Room} {s : State} {m : MethodId} {args : Array Value} {below : List Frame} {meth : Method} {c : Code} (C : XC s0 D cI cL p s m meth c "NarrowingPacker$Narrower" prog_7_method_6_code 7 none []) (hR : R = a_rm 2 0 0) {h : AH} {K : Nat} {pl v B : Int} (p1 : 0 ≤ pl) (hB : B ≤ 2 * (3820 - pl)) (v1 : 0 ≤ v) (v2 : v < 2147483648) (h24 : h 24 = some (oCh s0.heap.size 25)) {X : En} : ∀ (r k : Nat) (mm : Int) (x : En), r + k ≤ 30 → 0 ≤ mm → (mm + 1) * 2 ^ r ≤ B → eOk x → x.2.2.1 + r < 100000 → eRow r k pl v mm x = X → XW s0 D p l e R s m args below meth c (XQ s0 D 0 0 (PR none (sN s0.heap.size cI h X) K) below s) 6 [(0, .ref (s0.heap.size + 23)), (1, .int (zI pl)), (2, .int (zI ((r : Int) + (k : Nat)))), (3, .int (zI v)), (4, .int (zI mm)), (5, .int (zI ((k : Nat) : Int)))] [] (sN s0.heap.size cI h x) K 0 0 := by
  subst hR
  intro r
  induction r with
  | zero =>
    intro k mm x hk m0 mB ok lx hX
    have hX : x = X := hX
    subst hX
    refine x_iload C d_Na_writeRow_6 rfl ?_
    refine x_iload_n C d_Na_writeRow_8 rfl ?_
    refine x_icmp_ge C (tgt := 45) d_Na_writeRow_9 (by decide) (by omega) (by omega) (by omega) (by omega) (fun c9 => ?_) (fun c9 => ?_)
    · exact x_vret C d_Na_writeRow_45 (nle rfl) (nle rfl) ⟨rfl, rfl, rfl⟩
    · exfalso; omega
  | succ r ih =>
    intro k mm x hk m0 mB ok lx hX
    have ha := pow_a m0 mB
    have hb := bitZ_01 v k
    refine x_iload C d_Na_writeRow_6 rfl ?_
    refine x_iload_n C d_Na_writeRow_8 rfl ?_
    refine x_icmp_ge C (tgt := 45) d_Na_writeRow_9 (by decide) (by omega) (by omega) (by omega) (by omega) (fun c9 => ?_) (fun c9 => ?_)
    · exfalso; omega
    · refine x_iload_n C d_Na_writeRow_12 rfl ?_
      refine x_iload C d_Na_writeRow_13 rfl ?_
      refine x_ishr C (q := 2 ^ k) k d_Na_writeRow_15 rfl rfl (by omega) (by omega) (by omega) ?_
      refine x_iconst C d_Na_writeRow_16 ?_
      refine x_iand C d_Na_writeRow_17 (zI_and1 _) ?_
      show XW s0 D p l e (a_rm 2 0 0) s m args below meth c _ 18 _ (.int (zI (bitZ v k)) :: []) _ _ _ _
      refine x_istore C d_Na_writeRow_18 (by decide) ?_
      refine x_aload_n C d_Na_writeRow_20 rfl ?_
      refine x_iload_n C d_Na_writeRow_21 rfl ?_
      refine x_iload C d_Na_writeRow_22 rfl ?_
      refine x_iadd C d_Na_writeRow_24 ?_
      refine x_iload C d_Na_writeRow_25 rfl ?_
      refine x_callVR C (G_Na E.1) (u_476 E.1) (u_427 E.1) (u_428 E.1) (u_429 E.1) (u_9 E.1) d_Na_writeRow_27 (c_Na_writeBit l E h24 ok (by omega) (by omega) (by omega) hb) nh_Na_writeBit ln_Na_writeBit rfl rfl (nle rfl) (nle rfl) (nle rfl) (nle rfl) (nle rfl) ?_
      refine x_iconst C d_Na_writeRow_30 ?_
      refine x_iload C d_Na_writeRow_31 rfl ?_
      refine x_imul C d_Na_writeRow_33 ?_
      refine x_iload C d_Na_writeRow_34 rfl ?_
      refine x_iadd C d_Na_writeRow_36 ?_
      refine x_istore C d_Na_writeRow_37 (by decide) ?_
      refine x_iinc C d_Na_writeRow_39 (by decide) rfl ?_
      refine x_goto C (tgt := 6) d_Na_writeRow_42 (by decide) ?_
      refine XW.loc (lv' := [(0, .ref (s0.heap.size + 23)), (1, .int (zI pl)), (2, .int (zI ((r : Int) + (k + 1 : Nat)))), (3, .int (zI v)), (4, .int (zI (2 * mm + bitZ v k))), (5, .int (zI ((k + 1 : Nat) : Int)))]) ⟨rfl, rfl, by rw [show (r : Int) + ((k + 1 : Nat) : Int) = ((r + 1 : Nat) : Int) + ((k : Nat) : Int) by omega]; rfl, rfl, rfl, by rw [show ((k + 1 : Nat) : Int) = (k : Int) + 1 by omega]; rfl, trivial⟩ ?_
      exact ih _ _ _ (by omega) (by omega) (pow_b hb mB) (eOk_bit ok _ _) (by have := len_bit x (pl + mm) (bitZ v k); omega) hX
set_option maxRecDepth 100000 in
set_option maxHeartbeats 4000000 in
theorem c_Na_writeRow {a0 : Array Value} {s0 : State} {D : va_G} {cI cL : ClassId} (l : Launch) (E : a_E a0 s0 D cI cL) {h : AH} {K : Nat} {x : En} (h24 : h 24 = some (oCh s0.heap.size 25)) (ok : eOk x) (lx : x.2.2.1 < 99000) {pl v : Int} (n : Nat) (n30 : n ≤ 30) (p1 : 0 ≤ pl) (hB : 2 * 2 ^ n ≤ 2 * (3820 - pl)) (v1 : 0 ≤ v) (v2 : v < 2147483648) : XM l s0 D y_Na_writeRow prog_7_method_6_code 7 none 2 0 0 [.ref (s0.heap.size + 23), .int (zI pl), .int (zI (n : Int)), .int (zI v)] (sN s0.heap.size cI h x) (K) (PR none (sN s0.heap.size cI h (eRow n 0 pl v 1 x)) K) := by
  refine XM.of (cI := cI) (cL := cL) (own := "NarrowingPacker$Narrower") (by decide) rfl E.2 (nle rfl) ?_
  intro p e s m below meth c C hn
  refine x_iconst C d_Na_writeRow_0 ?_
  refine x_istore C d_Na_writeRow_1 (by decide) ?_
  refine x_iconst C d_Na_writeRow_3 ?_
  refine x_istore C d_Na_writeRow_4 (by decide) ?_
  refine XW.loc (lv' := [(0, .ref (s0.heap.size + 23)), (1, .int (zI pl)), (2, .int (zI ((n : Int) + (0 : Nat)))), (3, .int (zI v)), (4, .int (zI 1)), (5, .int (zI ((0 : Nat) : Int)))]) ⟨rfl, rfl, by rw [show (n : Int) + ((0 : Nat) : Int) = (n : Int) by omega]; rfl, rfl, rfl, rfl, trivial⟩ ?_
  exact lp_Na_writeRow l E C rfl p1 hB v1 v2 h24 n 0 1 x (by omega) (by omega) (by omega) ok (by omega) rfl

