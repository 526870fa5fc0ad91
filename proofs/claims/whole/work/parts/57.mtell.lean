/-! the reference: echoes, telling -/
set_option maxRecDepth 100000 in
set_option maxHeartbeats 4000000 in
theorem e52_Mo_echo {a0 : Array Value} {s0 : State} {D : va_G} {cI cL : ClassId} (l : Launch) (E : a_E a0 s0 D cI cL) {p : Program} {e : Env} {R : Room} {s : State} {m : MethodId} {args : Array Value} {below : List Frame} {meth : Method} {c : Code} (C : XC s0 D cI cL p s m meth c "NarrowingPackerModel" prog_13_method_17_code 2 (some .int) []) (hR : R = a_rm 3 0 0) {h : AH} {K : Nat} {κ : Kp} {v : Hs × T3 × Int × Cn4} {P pk : Int → Int} (h35 : h 35 = some (iA cI 200 P)) (hP : ∀ j, 0 ≤ j → j < κ.2.2.2.1 → P j = pk j) (hp : ∀ j, 0 ≤ pk j ∧ pk j < 256) (z1 : 0 ≤ κ.2.2.2.1) (z2 : κ.2.2.2.1 ≤ 200) {c0 : Cd} {g : Int} (g1 : -2147483648 ≤ g) (g2 : g < 2147483648) (s1 : 0 ≤ v.1.2.2.2) (s2 : v.1.2.2.2 ≤ 11) (ok : cOk κ.2.2.2.1 3 c0) (c20 : (mBit pk κ.2.2.2.1 c0 (24 + v.1.2.2.2) (gt0 g)).1 ≠ 0) : XW s0 D p l e R s m args below meth c (XQ s0 D 0 0 (PR (some (.int (zI (mEcho pk κ.2.2.2.1 v.1.2.2.2 g c0).1))) (sM s0.heap.size cI h κ ((mEcho pk κ.2.2.2.1 v.1.2.2.2 g c0).2, v)) K) below s) 52 [(0, .ref (s0.heap.size + 33)), (1, .int (zI g))] [] (sM s0.heap.size cI h κ ((mBit pk κ.2.2.2.1 c0 (24 + v.1.2.2.2) (gt0 g)).2, v)) K 0 0 := by
  subst hR
  have ok1 : cOk κ.2.2.2.1 2 (mBit pk κ.2.2.2.1 c0 (24 + v.1.2.2.2) (gt0 g)).2 := mBit_ok hp _ (gt0_b g) ok
  have ok2 : cOk κ.2.2.2.1 1 (mBit pk κ.2.2.2.1 (mBit pk κ.2.2.2.1 c0 (24 + v.1.2.2.2) (gt0 g)).2 (48 + v.1.2.2.2) (gt1 g)).2 := mBit_ok hp _ (gt1_b g) ok1
  refine x_aload_n C d_Mo_echo_52 rfl ?_
  refine x_bipush C d_Mo_echo_53 (by decide) ?_
  refine x_aload_n C d_Mo_echo_55 rfl ?_
  refine x_get C (G_Mo E.1) 23 (u_787 E.1) d_Mo_echo_56 (by decide) (by rfl) (show _ = some (.int (zI v.1.2.2.2)) from rfl) ?_
  refine x_iadd C d_Mo_echo_59 ?_
  refine x_iload_n C d_Mo_echo_60 rfl ?_
  refine x_iconst C d_Mo_echo_61 ?_
  refine x_icmp_le C (tgt := 69) d_Mo_echo_62 (by decide) (by omega) (by omega) (by omega) (by omega) (fun c62 => ?_) (fun c62 => ?_)
  · refine x_iconst C d_Mo_echo_69 ?_
    refine XW.steq (st' := .int (zI (gt1 g)) :: .int (zI (48 + v.1.2.2.2)) :: .ref (s0.heap.size + 33) :: []) (by first | (rw [show gt1 g = 0 by unfold gt1; split <;> omega]; first | done | rfl) | (rw [show gt1 g = 1 by unfold gt1; split <;> omega]; first | done | rfl)) ?_
    refine x_callVR C (G_Mo E.1) (u_903 E.1) (u_905 E.1) (us_27 E.1) (u_906 E.1) (u_13 E.1) d_Mo_echo_70 (c_Mo_bit l E h35 hP hp z1 z2 (ok1.le (by omega)) (fr := 48 + v.1.2.2.2) (a := 48 + v.1.2.2.2) (Or.inr (rg_st (B := 0) (by omega) (by omega))) (gt1_b g)) nh_Mo_bit ln_Mo_bit rfl rfl (nle rfl) (nle rfl) (nle rfl) (nle rfl) (nle rfl) ?_
    have hb48 := mBit_01 (pk := pk) (sz := κ.2.2.2.1) (c := (mBit pk κ.2.2.2.1 c0 (24 + v.1.2.2.2) (gt0 g)).2) (a := 48 + v.1.2.2.2) (gt1_b g)
    refine x_if_ne C (tgt := 78) d_Mo_echo_73 (by decide) (by omega) (by omega) (fun c73 => ?_) (fun c73 => ?_)
    · refine x_iconst C d_Mo_echo_78 ?_
      refine x_aload_n C d_Mo_echo_79 rfl ?_
      refine x_bipush C d_Mo_echo_80 (by decide) ?_
      refine x_aload_n C d_Mo_echo_82 rfl ?_
      refine x_get C (G_Mo E.1) 23 (u_787 E.1) d_Mo_echo_83 (by decide) (by rfl) (show _ = some (.int (zI v.1.2.2.2)) from rfl) ?_
      refine x_iadd C d_Mo_echo_86 ?_
      refine x_iload_n C d_Mo_echo_87 rfl ?_
      refine x_iconst C d_Mo_echo_88 ?_
      refine x_icmp_le C (tgt := 96) d_Mo_echo_89 (by decide) (by omega) (by omega) (by omega) (by omega) (fun c89 => ?_) (fun c89 => ?_)
      · refine x_iconst C d_Mo_echo_96 ?_
        refine XW.steq (st' := .int (zI (gt2 g)) :: .int (zI (60 + v.1.2.2.2)) :: .ref (s0.heap.size + 33) :: .int (zI 2) :: []) (by first | (rw [show gt2 g = 0 by unfold gt2; split <;> omega]; first | done | rfl) | (rw [show gt2 g = 1 by unfold gt2; split <;> omega]; first | done | rfl)) ?_
        refine x_callVR C (G_Mo E.1) (u_903 E.1) (u_905 E.1) (us_27 E.1) (u_906 E.1) (u_13 E.1) d_Mo_echo_97 (c_Mo_bit l E h35 hP hp z1 z2 (ok2.le (by omega)) (fr := 60 + v.1.2.2.2) (a := 60 + v.1.2.2.2) (Or.inr (rg_st (B := 0) (by omega) (by omega))) (gt2_b g)) nh_Mo_bit ln_Mo_bit rfl rfl (nle rfl) (nle rfl) (nle rfl) (nle rfl) (nle rfl) ?_
        have hb60 := mBit_01 (pk := pk) (sz := κ.2.2.2.1) (c := (mBit pk κ.2.2.2.1 (mBit pk κ.2.2.2.1 c0 (24 + v.1.2.2.2) (gt0 g)).2 (48 + v.1.2.2.2) (gt1 g)).2) (a := 60 + v.1.2.2.2) (gt2_b g)
        refine x_iadd C d_Mo_echo_100 ?_
        exact x_iret C d_Mo_echo_101 (nle rfl) (nle rfl) ⟨by unfold mEcho; rw [if_neg c20, if_neg c73]; first | done | rfl, by unfold mEcho; rw [if_neg c20, if_neg c73]; first | done | rfl, rfl⟩
      · refine x_iconst C d_Mo_echo_92 ?_
        refine x_goto C (tgt := 97) d_Mo_echo_93 (by decide) ?_
        refine XW.steq (st' := .int (zI (gt2 g)) :: .int (zI (60 + v.1.2.2.2)) :: .ref (s0.heap.size + 33) :: .int (zI 2) :: []) (by first | (rw [show gt2 g = 0 by unfold gt2; split <;> omega]; first | done | rfl) | (rw [show gt2 g = 1 by unfold gt2; split <;> omega]; first | done | rfl)) ?_
        refine x_callVR C (G_Mo E.1) (u_903 E.1) (u_905 E.1) (us_27 E.1) (u_906 E.1) (u_13 E.1) d_Mo_echo_97 (c_Mo_bit l E h35 hP hp z1 z2 (ok2.le (by omega)) (fr := 60 + v.1.2.2.2) (a := 60 + v.1.2.2.2) (Or.inr (rg_st (B := 0) (by omega) (by omega))) (gt2_b g)) nh_Mo_bit ln_Mo_bit rfl rfl (nle rfl) (nle rfl) (nle rfl) (nle rfl) (nle rfl) ?_
        have hb60 := mBit_01 (pk := pk) (sz := κ.2.2.2.1) (c := (mBit pk κ.2.2.2.1 (mBit pk κ.2.2.2.1 c0 (24 + v.1.2.2.2) (gt0 g)).2 (48 + v.1.2.2.2) (gt1 g)).2) (a := 60 + v.1.2.2.2) (gt2_b g)
        refine x_iadd C d_Mo_echo_100 ?_
        exact x_iret C d_Mo_echo_101 (nle rfl) (nle rfl) ⟨by unfold mEcho; rw [if_neg c20, if_neg c73]; first | done | rfl, by unfold mEcho; rw [if_neg c20, if_neg c73]; first | done | rfl, rfl⟩
    · refine x_iconst C d_Mo_echo_76 ?_
      exact x_iret C d_Mo_echo_77 (nle rfl) (nle rfl) ⟨by unfold mEcho; rw [if_neg c20, if_pos c73]; first | done | rfl, by unfold mEcho; rw [if_neg c20, if_pos c73]; first | done | rfl, rfl⟩
  · refine x_iconst C d_Mo_echo_65 ?_
    refine x_goto C (tgt := 70) d_Mo_echo_66 (by decide) ?_
    refine XW.steq (st' := .int (zI (gt1 g)) :: .int (zI (48 + v.1.2.2.2)) :: .ref (s0.heap.size + 33) :: []) (by first | (rw [show gt1 g = 0 by unfold gt1; split <;> omega]; first | done | rfl) | (rw [show gt1 g = 1 by unfold gt1; split <;> omega]; first | done | rfl)) ?_
    refine x_callVR C (G_Mo E.1) (u_903 E.1) (u_905 E.1) (us_27 E.1) (u_906 E.1) (u_13 E.1) d_Mo_echo_70 (c_Mo_bit l E h35 hP hp z1 z2 (ok1.le (by omega)) (fr := 48 + v.1.2.2.2) (a := 48 + v.1.2.2.2) (Or.inr (rg_st (B := 0) (by omega) (by omega))) (gt1_b g)) nh_Mo_bit ln_Mo_bit rfl rfl (nle rfl) (nle rfl) (nle rfl) (nle rfl) (nle rfl) ?_
    have hb48 := mBit_01 (pk := pk) (sz := κ.2.2.2.1) (c := (mBit pk κ.2.2.2.1 c0 (24 + v.1.2.2.2) (gt0 g)).2) (a := 48 + v.1.2.2.2) (gt1_b g)
    refine x_if_ne C (tgt := 78) d_Mo_echo_73 (by decide) (by omega) (by omega) (fun c73 => ?_) (fun c73 => ?_)
    · refine x_iconst C d_Mo_echo_78 ?_
      refine x_aload_n C d_Mo_echo_79 rfl ?_
      refine x_bipush C d_Mo_echo_80 (by decide) ?_
      refine x_aload_n C d_Mo_echo_82 rfl ?_
      refine x_get C (G_Mo E.1) 23 (u_787 E.1) d_Mo_echo_83 (by decide) (by rfl) (show _ = some (.int (zI v.1.2.2.2)) from rfl) ?_
      refine x_iadd C d_Mo_echo_86 ?_
      refine x_iload_n C d_Mo_echo_87 rfl ?_
      refine x_iconst C d_Mo_echo_88 ?_
      refine x_icmp_le C (tgt := 96) d_Mo_echo_89 (by decide) (by omega) (by omega) (by omega) (by omega) (fun c89 => ?_) (fun c89 => ?_)
      · refine x_iconst C d_Mo_echo_96 ?_
        refine XW.steq (st' := .int (zI (gt2 g)) :: .int (zI (60 + v.1.2.2.2)) :: .ref (s0.heap.size + 33) :: .int (zI 2) :: []) (by first | (rw [show gt2 g = 0 by unfold gt2; split <;> omega]; first | done | rfl) | (rw [show gt2 g = 1 by unfold gt2; split <;> omega]; first | done | rfl)) ?_
        refine x_callVR C (G_Mo E.1) (u_903 E.1) (u_905 E.1) (us_27 E.1) (u_906 E.1) (u_13 E.1) d_Mo_echo_97 (c_Mo_bit l E h35 hP hp z1 z2 (ok2.le (by omega)) (fr := 60 + v.1.2.2.2) (a := 60 + v.1.2.2.2) (Or.inr (rg_st (B := 0) (by omega) (by omega))) (gt2_b g)) nh_Mo_bit ln_Mo_bit rfl rfl (nle rfl) (nle rfl) (nle rfl) (nle rfl) (nle rfl) ?_
        have hb60 := mBit_01 (pk := pk) (sz := κ.2.2.2.1) (c := (mBit pk κ.2.2.2.1 (mBit pk κ.2.2.2.1 c0 (24 + v.1.2.2.2) (gt0 g)).2 (48 + v.1.2.2.2) (gt1 g)).2) (a := 60 + v.1.2.2.2) (gt2_b g)
        refine x_iadd C d_Mo_echo_100 ?_
        exact x_iret C d_Mo_echo_101 (nle rfl) (nle rfl) ⟨by unfold mEcho; rw [if_neg c20, if_neg c73]; first | done | rfl, by unfold mEcho; rw [if_neg c20, if_neg c73]; first | done | rfl, rfl⟩
      · refine x_iconst C d_Mo_echo_92 ?_
        refine x_goto C (tgt := 97) d_Mo_echo_93 (by decide) ?_
        refine XW.steq (st' := .int (zI (gt2 g)) :: .int (zI (60 + v.1.2.2.2)) :: .ref (s0.heap.size + 33) :: .int (zI 2) :: []) (by first | (rw [show gt2 g = 0 by unfold gt2; split <;> omega]; first | done | rfl) | (rw [show gt2 g = 1 by unfold gt2; split <;> omega]; first | done | rfl)) ?_
        refine x_callVR C (G_Mo E.1) (u_903 E.1) (u_905 E.1) (us_27 E.1) (u_906 E.1) (u_13 E.1) d_Mo_echo_97 (c_Mo_bit l E h35 hP hp z1 z2 (ok2.le (by omega)) (fr := 60 + v.1.2.2.2) (a := 60 + v.1.2.2.2) (Or.inr (rg_st (B := 0) (by omega) (by omega))) (gt2_b g)) nh_Mo_bit ln_Mo_bit rfl rfl (nle rfl) (nle rfl) (nle rfl) (nle rfl) (nle rfl) ?_
        have hb60 := mBit_01 (pk := pk) (sz := κ.2.2.2.1) (c := (mBit pk κ.2.2.2.1 (mBit pk κ.2.2.2.1 c0 (24 + v.1.2.2.2) (gt0 g)).2 (48 + v.1.2.2.2) (gt1 g)).2) (a := 60 + v.1.2.2.2) (gt2_b g)
        refine x_iadd C d_Mo_echo_100 ?_
        exact x_iret C d_Mo_echo_101 (nle rfl) (nle rfl) ⟨by unfold mEcho; rw [if_neg c20, if_neg c73]; first | done | rfl, by unfold mEcho; rw [if_neg c20, if_neg c73]; first | done | rfl, rfl⟩
    · refine x_iconst C d_Mo_echo_76 ?_
      exact x_iret C d_Mo_echo_77 (nle rfl) (nle rfl) ⟨by unfold mEcho; rw [if_neg c20, if_pos c73]; first | done | rfl, by unfold mEcho; rw [if_neg c20, if_pos c73]; first | done | rfl, rfl⟩
set_option maxRecDepth 100000 in
set_option maxHeartbeats 4000000 in
theorem e23_Mo_echo {a0 : Array Value} {s0 : State} {D : va_G} {cI cL : ClassId} (l : Launch) (E : a_E a0 s0 D cI cL) {p : Program} {e : Env} {R : Room} {s : State} {m : MethodId} {args : Array Value} {below : List Frame} {meth : Method} {c : Code} (C : XC s0 D cI cL p s m meth c "NarrowingPackerModel" prog_13_method_17_code 2 (some .int) []) (hR : R = a_rm 3 0 0) {h : AH} {K : Nat} {κ : Kp} {v : Hs × T3 × Int × Cn4} {P pk : Int → Int} (h35 : h 35 = some (iA cI 200 P)) (hP : ∀ j, 0 ≤ j → j < κ.2.2.2.1 → P j = pk j) (hp : ∀ j, 0 ≤ pk j ∧ pk j < 256) (z1 : 0 ≤ κ.2.2.2.1) (z2 : κ.2.2.2.1 ≤ 200) {c0 : Cd} {g : Int} (g1 : -2147483648 ≤ g) (g2 : g < 2147483648) (s1 : 0 ≤ v.1.2.2.2) (s2 : v.1.2.2.2 ≤ 11) (ok : cOk κ.2.2.2.1 3 c0) (c20 : (mBit pk κ.2.2.2.1 c0 (24 + v.1.2.2.2) (gt0 g)).1 = 0) : XW s0 D p l e R s m args below meth c (XQ s0 D 0 0 (PR (some (.int (zI (mEcho pk κ.2.2.2.1 v.1.2.2.2 g c0).1))) (sM s0.heap.size cI h κ ((mEcho pk κ.2.2.2.1 v.1.2.2.2 g c0).2, v)) K) below s) 23 [(0, .ref (s0.heap.size + 33)), (1, .int (zI g))] [] (sM s0.heap.size cI h κ ((mBit pk κ.2.2.2.1 c0 (24 + v.1.2.2.2) (gt0 g)).2, v)) K 0 0 := by
  subst hR
  have ok1 : cOk κ.2.2.2.1 2 (mBit pk κ.2.2.2.1 c0 (24 + v.1.2.2.2) (gt0 g)).2 := mBit_ok hp _ (gt0_b g) ok
  have ok2 : cOk κ.2.2.2.1 1 (mBit pk κ.2.2.2.1 (mBit pk κ.2.2.2.1 c0 (24 + v.1.2.2.2) (gt0 g)).2 (48 + v.1.2.2.2) (gt1 g)).2 := mBit_ok hp _ (gt1_b g) ok1
  refine x_aload_n C d_Mo_echo_23 rfl ?_
  refine x_bipush C d_Mo_echo_24 (by decide) ?_
  refine x_aload_n C d_Mo_echo_26 rfl ?_
  refine x_get C (G_Mo E.1) 23 (u_787 E.1) d_Mo_echo_27 (by decide) (by rfl) (show _ = some (.int (zI v.1.2.2.2)) from rfl) ?_
  refine x_iadd C d_Mo_echo_30 ?_
  refine x_iload_n C d_Mo_echo_31 rfl ?_
  refine x_if_ge C (tgt := 39) d_Mo_echo_32 (by decide) (by omega) (by omega) (fun c32 => ?_) (fun c32 => ?_)
  · refine x_iconst C d_Mo_echo_39 ?_
    refine XW.steq (st' := .int (zI (ge0 g)) :: .int (zI (36 + v.1.2.2.2)) :: .ref (s0.heap.size + 33) :: []) (by first | (rw [show ge0 g = 0 by unfold ge0; split <;> omega]; first | done | rfl) | (rw [show ge0 g = 1 by unfold ge0; split <;> omega]; first | done | rfl)) ?_
    refine x_callVR C (G_Mo E.1) (u_903 E.1) (u_905 E.1) (us_27 E.1) (u_906 E.1) (u_13 E.1) d_Mo_echo_40 (c_Mo_bit l E h35 hP hp z1 z2 (ok1.le (by omega)) (fr := 36 + v.1.2.2.2) (a := 36 + v.1.2.2.2) (Or.inr (rg_st (B := 0) (by omega) (by omega))) (ge0_b g)) nh_Mo_bit ln_Mo_bit rfl rfl (nle rfl) (nle rfl) (nle rfl) (nle rfl) (nle rfl) ?_
    have hb36 := mBit_01 (pk := pk) (sz := κ.2.2.2.1) (c := (mBit pk κ.2.2.2.1 c0 (24 + v.1.2.2.2) (gt0 g)).2) (a := 36 + v.1.2.2.2) (ge0_b g)
    refine x_if_ne C (tgt := 50) d_Mo_echo_43 (by decide) (by omega) (by omega) (fun c43 => ?_) (fun c43 => ?_)
    · refine x_iconst C d_Mo_echo_50 ?_
      exact x_iret C d_Mo_echo_51 (nle rfl) (nle rfl) ⟨by unfold mEcho; rw [if_pos c20]; first | (rw [if_pos c43]; done) | (rw [if_neg c43]; done), by unfold mEcho; rw [if_pos c20]; first | done | rfl, rfl⟩
    · refine x_iconst C d_Mo_echo_46 ?_
      refine x_goto C (tgt := 51) d_Mo_echo_47 (by decide) ?_
      exact x_iret C d_Mo_echo_51 (nle rfl) (nle rfl) ⟨by unfold mEcho; rw [if_pos c20]; first | (rw [if_pos c43]; done) | (rw [if_neg c43]; done), by unfold mEcho; rw [if_pos c20]; first | done | rfl, rfl⟩
  · refine x_iconst C d_Mo_echo_35 ?_
    refine x_goto C (tgt := 40) d_Mo_echo_36 (by decide) ?_
    refine XW.steq (st' := .int (zI (ge0 g)) :: .int (zI (36 + v.1.2.2.2)) :: .ref (s0.heap.size + 33) :: []) (by first | (rw [show ge0 g = 0 by unfold ge0; split <;> omega]; first | done | rfl) | (rw [show ge0 g = 1 by unfold ge0; split <;> omega]; first | done | rfl)) ?_
    refine x_callVR C (G_Mo E.1) (u_903 E.1) (u_905 E.1) (us_27 E.1) (u_906 E.1) (u_13 E.1) d_Mo_echo_40 (c_Mo_bit l E h35 hP hp z1 z2 (ok1.le (by omega)) (fr := 36 + v.1.2.2.2) (a := 36 + v.1.2.2.2) (Or.inr (rg_st (B := 0) (by omega) (by omega))) (ge0_b g)) nh_Mo_bit ln_Mo_bit rfl rfl (nle rfl) (nle rfl) (nle rfl) (nle rfl) (nle rfl) ?_
    have hb36 := mBit_01 (pk := pk) (sz := κ.2.2.2.1) (c := (mBit pk κ.2.2.2.1 c0 (24 + v.1.2.2.2) (gt0 g)).2) (a := 36 + v.1.2.2.2) (ge0_b g)
    refine x_if_ne C (tgt := 50) d_Mo_echo_43 (by decide) (by omega) (by omega) (fun c43 => ?_) (fun c43 => ?_)
    · refine x_iconst C d_Mo_echo_50 ?_
      exact x_iret C d_Mo_echo_51 (nle rfl) (nle rfl) ⟨by unfold mEcho; rw [if_pos c20]; first | (rw [if_pos c43]; done) | (rw [if_neg c43]; done), by unfold mEcho; rw [if_pos c20]; first | done | rfl, rfl⟩
    · refine x_iconst C d_Mo_echo_46 ?_
      refine x_goto C (tgt := 51) d_Mo_echo_47 (by decide) ?_
      exact x_iret C d_Mo_echo_51 (nle rfl) (nle rfl) ⟨by unfold mEcho; rw [if_pos c20]; first | (rw [if_pos c43]; done) | (rw [if_neg c43]; done), by unfold mEcho; rw [if_pos c20]; first | done | rfl, rfl⟩
set_option maxRecDepth 100000 in
set_option maxHeartbeats 4000000 in
theorem c_Mo_echo {a0 : Array Value} {s0 : State} {D : va_G} {cI cL : ClassId} (l : Launch) (E : a_E a0 s0 D cI cL) {h : AH} {K : Nat} {κ : Kp} {v : Hs × T3 × Int × Cn4} {P pk : Int → Int} (h35 : h 35 = some (iA cI 200 P)) (hP : ∀ j, 0 ≤ j → j < κ.2.2.2.1 → P j = pk j) (hp : ∀ j, 0 ≤ pk j ∧ pk j < 256) (z1 : 0 ≤ κ.2.2.2.1) (z2 : κ.2.2.2.1 ≤ 200) {c0 : Cd} {g : Int} (g1 : -2147483648 ≤ g) (g2 : g < 2147483648) (s1 : 0 ≤ v.1.2.2.2) (s2 : v.1.2.2.2 ≤ 11) (ok : cOk κ.2.2.2.1 3 c0) : XM l s0 D y_Mo_echo prog_13_method_17_code 2 (some .int) 3 0 0 [.ref (s0.heap.size + 33), .int (zI g)] (sM s0.heap.size cI h κ (c0, v)) (K) (PR (some (.int (zI (mEcho pk κ.2.2.2.1 v.1.2.2.2 g c0).1))) (sM s0.heap.size cI h κ ((mEcho pk κ.2.2.2.1 v.1.2.2.2 g c0).2, v)) K) := by
  refine XM.of (cI := cI) (cL := cL) (own := "NarrowingPackerModel") (by decide) rfl E.2 (nle rfl) ?_
  intro p e s m below meth c C hn
  refine x_aload_n C d_Mo_echo_0 rfl ?_
  refine x_bipush C d_Mo_echo_1 (by decide) ?_
  refine x_aload_n C d_Mo_echo_3 rfl ?_
  refine x_get C (G_Mo E.1) 23 (u_787 E.1) d_Mo_echo_4 (by decide) (by rfl) (show _ = some (.int (zI v.1.2.2.2)) from rfl) ?_
  refine x_iadd C d_Mo_echo_7 ?_
  refine x_iload_n C d_Mo_echo_8 rfl ?_
  refine x_if_le C (tgt := 16) d_Mo_echo_9 (by decide) (by omega) (by omega) (fun c9 => ?_) (fun c9 => ?_)
  · refine x_iconst C d_Mo_echo_16 ?_
    refine XW.steq (st' := .int (zI (gt0 g)) :: .int (zI (24 + v.1.2.2.2)) :: .ref (s0.heap.size + 33) :: []) (by first | (rw [show gt0 g = 0 by unfold gt0; split <;> omega]; first | done | rfl) | (rw [show gt0 g = 1 by unfold gt0; split <;> omega]; first | done | rfl)) ?_
    refine x_callVR C (G_Mo E.1) (u_903 E.1) (u_905 E.1) (us_27 E.1) (u_906 E.1) (u_13 E.1) d_Mo_echo_17 (c_Mo_bit l E h35 hP hp z1 z2 (ok.le (by omega)) (fr := 24 + v.1.2.2.2) (a := 24 + v.1.2.2.2) (Or.inr (rg_st (B := 0) (by omega) (by omega))) (gt0_b g)) nh_Mo_bit ln_Mo_bit rfl rfl (nle rfl) (nle rfl) (nle rfl) (nle rfl) (nle rfl) ?_
    have hb24 := mBit_01 (pk := pk) (sz := κ.2.2.2.1) (c := c0) (a := 24 + v.1.2.2.2) (gt0_b g)
    refine x_if_ne C (tgt := 52) d_Mo_echo_20 (by decide) (by omega) (by omega) (fun c20 => ?_) (fun c20 => ?_)
    · exact e52_Mo_echo l E C rfl h35 hP hp z1 z2 g1 g2 s1 s2 ok c20
    · exact e23_Mo_echo l E C rfl h35 hP hp z1 z2 g1 g2 s1 s2 ok c20
  · refine x_iconst C d_Mo_echo_12 ?_
    refine x_goto C (tgt := 17) d_Mo_echo_13 (by decide) ?_
    refine XW.steq (st' := .int (zI (gt0 g)) :: .int (zI (24 + v.1.2.2.2)) :: .ref (s0.heap.size + 33) :: []) (by first | (rw [show gt0 g = 0 by unfold gt0; split <;> omega]; first | done | rfl) | (rw [show gt0 g = 1 by unfold gt0; split <;> omega]; first | done | rfl)) ?_
    refine x_callVR C (G_Mo E.1) (u_903 E.1) (u_905 E.1) (us_27 E.1) (u_906 E.1) (u_13 E.1) d_Mo_echo_17 (c_Mo_bit l E h35 hP hp z1 z2 (ok.le (by omega)) (fr := 24 + v.1.2.2.2) (a := 24 + v.1.2.2.2) (Or.inr (rg_st (B := 0) (by omega) (by omega))) (gt0_b g)) nh_Mo_bit ln_Mo_bit rfl rfl (nle rfl) (nle rfl) (nle rfl) (nle rfl) (nle rfl) ?_
    have hb24 := mBit_01 (pk := pk) (sz := κ.2.2.2.1) (c := c0) (a := 24 + v.1.2.2.2) (gt0_b g)
    refine x_if_ne C (tgt := 52) d_Mo_echo_20 (by decide) (by omega) (by omega) (fun c20 => ?_) (fun c20 => ?_)
    · exact e52_Mo_echo l E C rfl h35 hP hp z1 z2 g1 g2 s1 s2 ok c20
    · exact e23_Mo_echo l E C rfl h35 hP hp z1 z2 g1 g2 s1 s2 ok c20

set_option maxRecDepth 100000 in
set_option maxHeartbeats 4000000 in
theorem c_Mo_tell {a0 : Array Value} {s0 : State} {D : va_G} {cI cL : ClassId} (l : Launch) (E : a_E a0 s0 D cI cL) {h : AH} {K : Nat} {κ : Kp} {v : Hs × T3 × Int × Cn4} {c0 : Cd} {b : Int} (n1 : 0 ≤ v.1.2.1) (n2 : v.1.2.1 < 120) : XM l s0 D y_Mo_tell prog_13_method_18_code 2 none 0 0 0 [.ref (s0.heap.size + 33), .int (zI b)] (sM s0.heap.size cI h κ (c0, v)) (K) (PR none (sM s0.heap.size cI h κ (c0, ((zup v.1.1 v.1.2.1 b, v.1.2.1 + 1, v.1.2.2.1, v.1.2.2.2), v.2))) K) := by
  refine XM.of (cI := cI) (cL := cL) (own := "NarrowingPackerModel") (by decide) rfl E.2 (nle rfl) ?_
  intro p e s m below meth c C hn
  refine x_aload_n C d_Mo_tell_0 rfl ?_
  refine x_get C (G_Mo E.1) 24 (u_788 E.1) d_Mo_tell_1 (by decide) (by rfl) rfl ?_
  refine x_aload_n C d_Mo_tell_4 rfl ?_
  refine x_get C (G_Mo E.1) 22 (u_786 E.1) d_Mo_tell_5 (by decide) (by rfl) (show _ = some (.int (zI v.1.2.1)) from rfl) ?_
  refine x_iload_n C d_Mo_tell_8 rfl ?_
  refine x_iast C d_Mo_tell_9 (show _ = some (iA cI 120 v.1.1) from rfl) (by omega) (by omega) (by omega) ?_
  refine x_aload_n C d_Mo_tell_10 rfl ?_
  refine x_dup C d_Mo_tell_11 rfl ?_
  refine x_get C (G_Mo E.1) 22 (u_786 E.1) d_Mo_tell_12 (by decide) (by rfl) (show _ = some (.int (zI v.1.2.1)) from rfl) ?_
  refine x_iconst C d_Mo_tell_15 ?_
  refine x_iadd C d_Mo_tell_16 ?_
  refine x_put C (G_Mo E.1) 22 (u_786 E.1) d_Mo_tell_17 (by decide) rfl (by rfl) rfl rfl (nle rfl) ?_
  exact x_vret C d_Mo_tell_20 (nle rfl) (nle rfl) ⟨rfl, (sM_eq rfl rfl rfl rfl rfl rfl rfl rfl (fun q q1 q2 q3 q4 q5 q6 q7 q8 => by simp only [sM, a_up, beq_f q1, beq_f q2, beq_f q3, beq_f q4, beq_f q5, beq_f q6, beq_f q7, beq_f q8, cond_false])), rfl⟩

set_option maxRecDepth 100000 in
set_option maxHeartbeats 4000000 in
theorem c_Mo_note {a0 : Array Value} {s0 : State} {D : va_G} {cI cL : ClassId} (l : Launch) (E : a_E a0 s0 D cI cL) {h : AH} {K : Nat} {κ : Kp} {v : Hs × T3 × Int × Cn4} {c0 : Cd} {kd mn ab : Int} (n1 : 0 ≤ v.2.2.1) (n2 : v.2.2.1 < 121) : XM l s0 D y_Mo_note prog_13_method_19_code 4 none 0 0 0 [.ref (s0.heap.size + 33), .int (zI kd), .int (zI mn), .int (zI ab)] (sM s0.heap.size cI h κ (c0, v)) (K) (PR none (sM s0.heap.size cI h κ (c0, (v.1, (zup v.2.1.1 v.2.2.1 kd, zup v.2.1.2.1 v.2.2.1 mn, zup v.2.1.2.2 v.2.2.1 ab), v.2.2.1 + 1, v.2.2.2))) K) := by
  refine XM.of (cI := cI) (cL := cL) (own := "NarrowingPackerModel") (by decide) rfl E.2 (nle rfl) ?_
  intro p e s m below meth c C hn
  refine x_aload_n C d_Mo_note_0 rfl ?_
  refine x_get C (G_Mo E.1) 27 (u_791 E.1) d_Mo_note_1 (by decide) (by rfl) rfl ?_
  refine x_aload_n C d_Mo_note_4 rfl ?_
  refine x_get C (G_Mo E.1) 26 (u_790 E.1) d_Mo_note_5 (by decide) (by rfl) (show _ = some (.int (zI v.2.2.1)) from rfl) ?_
  refine x_iload_n C d_Mo_note_8 rfl ?_
  refine x_iast C d_Mo_note_9 (show _ = some (iA cI 121 v.2.1.1) from rfl) (by omega) (by omega) (by omega) ?_
  refine x_aload_n C d_Mo_note_10 rfl ?_
  refine x_get C (G_Mo E.1) 28 (u_792 E.1) d_Mo_note_11 (by decide) (by rfl) rfl ?_
  refine x_aload_n C d_Mo_note_14 rfl ?_
  refine x_get C (G_Mo E.1) 26 (u_790 E.1) d_Mo_note_15 (by decide) (by rfl) (show _ = some (.int (zI v.2.2.1)) from rfl) ?_
  refine x_iload_n C d_Mo_note_18 rfl ?_
  refine x_iast C d_Mo_note_19 (show _ = some (iA cI 121 v.2.1.2.1) from rfl) (by omega) (by omega) (by omega) ?_
  refine x_aload_n C d_Mo_note_20 rfl ?_
  refine x_get C (G_Mo E.1) 29 (u_793 E.1) d_Mo_note_21 (by decide) (by rfl) rfl ?_
  refine x_aload_n C d_Mo_note_24 rfl ?_
  refine x_get C (G_Mo E.1) 26 (u_790 E.1) d_Mo_note_25 (by decide) (by rfl) (show _ = some (.int (zI v.2.2.1)) from rfl) ?_
  refine x_iload_n C d_Mo_note_28 rfl ?_
  refine x_iast C d_Mo_note_29 (show _ = some (iA cI 121 v.2.1.2.2) from rfl) (by omega) (by omega) (by omega) ?_
  refine x_aload_n C d_Mo_note_30 rfl ?_
  refine x_dup C d_Mo_note_31 rfl ?_
  refine x_get C (G_Mo E.1) 26 (u_790 E.1) d_Mo_note_32 (by decide) (by rfl) (show _ = some (.int (zI v.2.2.1)) from rfl) ?_
  refine x_iconst C d_Mo_note_35 ?_
  refine x_iadd C d_Mo_note_36 ?_
  refine x_put C (G_Mo E.1) 26 (u_790 E.1) d_Mo_note_37 (by decide) rfl (by rfl) rfl rfl (nle rfl) ?_
  exact x_vret C d_Mo_note_40 (nle rfl) (nle rfl) ⟨rfl, (sM_eq rfl rfl rfl rfl rfl rfl rfl rfl (fun q q1 q2 q3 q4 q5 q6 q7 q8 => by simp only [sM, a_up, beq_f q1, beq_f q2, beq_f q3, beq_f q4, beq_f q5, beq_f q6, beq_f q7, beq_f q8, cond_false])), rfl⟩

def mSet (c : Cd) (b : Int) : Cd := (c.1, b, c.2.2)
abbrev Vw : Type := Hs × T3 × Int × Cn4
def vNote (v : Vw) (t : Hs) (kd mn ab : Int) : Vw := (t, (zup v.2.1.1 v.2.2.1 kd, zup v.2.1.2.1 v.2.2.1 mn, zup v.2.1.2.2 v.2.2.1 ab), v.2.2.1 + 1, v.2.2.2)
def mTL3 (w : Mw) (b : Int) : Mw := if 0 < w.1.2.1 then w else (w.1, vNote w.2 (hTell w.2.1 (0, 1, 0, 0, b)) 0 1 b)
def mTL (w : Mw) (b : Int) : Mw := if w.1.2.1 = 0 ∧ w.2.1.2.1 = 120 then (mSet w.1 4, w.2) else mTL3 w b
def mTF3 (kd mn d : Int) (k : Nat) (w : Mw) : Mw := if 0 < w.1.2.1 then w else (w.1, vNote w.2 (hRep mn.toNat d w.2.1.1 w.2.1.2.1, w.2.1.2.1 + mn, zup (hFront k w.2.1.2.2.1) 0 d, stCopy kd w.2.1.2.2.2) kd mn d)
def mTF2 (kd mn d : Int) (k : Nat) (w : Mw) : Mw := mTF3 kd mn d k (if w.1.2.1 = 0 ∧ 120 < w.2.1.2.1 + mn then (mSet w.1 4, w.2) else w)
def mTF (kd mn d : Int) (k : Nat) (w : Mw) : Mw := mTF2 kd mn d k (if w.1.2.1 = 0 ∧ w.2.1.2.1 < d then (mSet w.1 3, w.2) else w)
set_option maxRecDepth 100000 in
set_option maxHeartbeats 4000000 in
theorem t21_Mo_tellLit {a0 : Array Value} {s0 : State} {D : va_G} {cI cL : ClassId} (l : Launch) (E : a_E a0 s0 D cI cL) {p : Program} {e : Env} {R : Room} {s : State} {m : MethodId} {args : Array Value} {below : List Frame} {meth : Method} {c : Code} (C : XC s0 D cI cL p s m meth c "NarrowingPackerModel" prog_13_method_20_code 2 none []) (hR : R = a_rm 1 0 0) {h : AH} {K : Nat} {κ : Kp} {v : Hs × T3 × Int × Cn4} {c0 : Cd} {b : Int} (b1 : 0 ≤ c0.2.1) (b2 : c0.2.1 ≤ 4) (hk : hOk v.1) (m1 : 0 ≤ v.2.2.1) (m2 : v.2.2.1 ≤ 120) (nb : 0 < c0.2.1 ∨ v.1.2.1 < 120) : XW s0 D p l e R s m args below meth c (XQ s0 D 0 0 (PR none (sM s0.heap.size cI h κ (mTL3 (c0, v) b)) K) below s) 21 [(0, .ref (s0.heap.size + 33)), (1, .int (zI b))] [] (sM s0.heap.size cI h κ (c0, v)) K 0 0 := by
  subst hR
  have hn := hk.2.1
  have hst := hk.2.2.2.1
  refine x_aload_n C d_Mo_tellLiteral_21 rfl ?_
  refine x_get C (G_Mo E.1) 15 (u_779 E.1) d_Mo_tellLiteral_22 (by decide) (by rfl) (show _ = some (.int (zI c0.2.1)) from rfl) ?_
  refine x_if_le C (tgt := 29) d_Mo_tellLiteral_25 (by decide) (by omega) (by omega) (fun c25 => ?_) (fun c25 => ?_)
  · refine x_aload_n C d_Mo_tellLiteral_29 rfl ?_
    refine x_iconst C d_Mo_tellLiteral_30 ?_
    refine x_iconst C d_Mo_tellLiteral_31 ?_
    refine x_iload_n C d_Mo_tellLiteral_32 rfl ?_
    refine x_callVR C (G_Mo E.1) (u_934 E.1) (u_936 E.1) (us_34 E.1) (u_937 E.1) (u_13 E.1) d_Mo_tellLiteral_33 (c_Mo_note l E (by omega) (by omega)) nh_Mo_note ln_Mo_note rfl rfl (nle rfl) (nle rfl) (nle rfl) (nle rfl) (nle rfl) ?_
    refine XW.heq (h' := sM s0.heap.size cI h κ (c0, (v.1, (zup v.2.1.1 v.2.2.1 0, zup v.2.1.2.1 v.2.2.1 1, zup v.2.1.2.2 v.2.2.1 b), v.2.2.1 + 1, v.2.2.2))) rfl ?_
    refine x_aload_n C d_Mo_tellLiteral_36 rfl ?_
    refine x_iload_n C d_Mo_tellLiteral_37 rfl ?_
    refine x_callVR C (G_Mo E.1) (u_938 E.1) (u_940 E.1) (us_35 E.1) (u_941 E.1) (u_13 E.1) d_Mo_tellLiteral_38 (c_Mo_tell l E (v := (v.1, (zup v.2.1.1 v.2.2.1 0, zup v.2.1.2.1 v.2.2.1 1, zup v.2.1.2.2 v.2.2.1 b), v.2.2.1 + 1, v.2.2.2)) (by exact hn.1) (by show v.1.2.1 < 120; omega)) nh_Mo_tell ln_Mo_tell rfl rfl (nle rfl) (nle rfl) (nle rfl) (nle rfl) (nle rfl) ?_
    refine XW.heq (h' := sM s0.heap.size cI h κ (c0, (vNote v (zup v.1.1 v.1.2.1 b, v.1.2.1 + 1, v.1.2.2.1, v.1.2.2.2) 0 1 b))) rfl ?_
    refine x_aload_n C d_Mo_tellLiteral_41 rfl ?_
    refine x_aload_n C d_Mo_tellLiteral_42 rfl ?_
    refine x_get C (G_Mo E.1) 23 (u_787 E.1) d_Mo_tellLiteral_43 (by decide) (by rfl) (show _ = some (.int (zI v.1.2.2.2)) from rfl) ?_
    refine x_iconst C d_Mo_tellLiteral_46 ?_
    refine x_icmp_ge C (tgt := 54) d_Mo_tellLiteral_47 (by decide) (by omega) (by omega) (by omega) (by omega) (fun c47 => ?_) (fun c47 => ?_)
    · refine x_aload_n C d_Mo_tellLiteral_54 rfl ?_
      refine x_get C (G_Mo E.1) 23 (u_787 E.1) d_Mo_tellLiteral_55 (by decide) (by rfl) (show _ = some (.int (zI v.1.2.2.2)) from rfl) ?_
      refine x_bipush C d_Mo_tellLiteral_58 (by decide) ?_
      refine x_icmp_ge C (tgt := 72) d_Mo_tellLiteral_60 (by decide) (by omega) (by omega) (by omega) (by omega) (fun c60 => ?_) (fun c60 => ?_)
      · refine x_aload_n C d_Mo_tellLiteral_72 rfl ?_
        refine x_get C (G_Mo E.1) 23 (u_787 E.1) d_Mo_tellLiteral_73 (by decide) (by rfl) (show _ = some (.int (zI v.1.2.2.2)) from rfl) ?_
        refine x_bipush C d_Mo_tellLiteral_76 (by decide) ?_
        refine x_isub C d_Mo_tellLiteral_78 ?_
        refine XW.steq (st' := .int (zI (stLit v.1.2.2.2)) :: .ref (s0.heap.size + 33) :: []) (by first | (rw [show stLit v.1.2.2.2 = 0 from if_pos (by omega)]; first | done | rfl) | (rw [show stLit v.1.2.2.2 = v.1.2.2.2 - 3 from (if_neg (by omega)).trans (if_pos (by omega))]; first | done | rfl) | (rw [show stLit v.1.2.2.2 = v.1.2.2.2 - 6 from (if_neg (by omega)).trans (if_neg (by omega))]; first | done | rfl)) ?_
        refine x_put C (G_Mo E.1) 23 (u_787 E.1) d_Mo_tellLiteral_79 (by decide) rfl (by rfl) rfl rfl (nle rfl) ?_
        exact x_vret C d_Mo_tellLiteral_82 (nle rfl) (nle rfl) ⟨rfl, by unfold mTL3; rw [if_neg (show ¬ 0 < c0.2.1 by omega)]; exact (sM_eq rfl rfl rfl rfl rfl rfl rfl rfl (fun q q1 q2 q3 q4 q5 q6 q7 q8 => by simp only [sM, a_up, beq_f q1, beq_f q2, beq_f q3, beq_f q4, beq_f q5, beq_f q6, beq_f q7, beq_f q8, cond_false])), rfl⟩
      · refine x_aload_n C d_Mo_tellLiteral_63 rfl ?_
        refine x_get C (G_Mo E.1) 23 (u_787 E.1) d_Mo_tellLiteral_64 (by decide) (by rfl) (show _ = some (.int (zI v.1.2.2.2)) from rfl) ?_
        refine x_iconst C d_Mo_tellLiteral_67 ?_
        refine x_isub C d_Mo_tellLiteral_68 ?_
        refine x_goto C (tgt := 79) d_Mo_tellLiteral_69 (by decide) ?_
        refine XW.steq (st' := .int (zI (stLit v.1.2.2.2)) :: .ref (s0.heap.size + 33) :: []) (by first | (rw [show stLit v.1.2.2.2 = 0 from if_pos (by omega)]; first | done | rfl) | (rw [show stLit v.1.2.2.2 = v.1.2.2.2 - 3 from (if_neg (by omega)).trans (if_pos (by omega))]; first | done | rfl) | (rw [show stLit v.1.2.2.2 = v.1.2.2.2 - 6 from (if_neg (by omega)).trans (if_neg (by omega))]; first | done | rfl)) ?_
        refine x_put C (G_Mo E.1) 23 (u_787 E.1) d_Mo_tellLiteral_79 (by decide) rfl (by rfl) rfl rfl (nle rfl) ?_
        exact x_vret C d_Mo_tellLiteral_82 (nle rfl) (nle rfl) ⟨rfl, by unfold mTL3; rw [if_neg (show ¬ 0 < c0.2.1 by omega)]; exact (sM_eq rfl rfl rfl rfl rfl rfl rfl rfl (fun q q1 q2 q3 q4 q5 q6 q7 q8 => by simp only [sM, a_up, beq_f q1, beq_f q2, beq_f q3, beq_f q4, beq_f q5, beq_f q6, beq_f q7, beq_f q8, cond_false])), rfl⟩
    · refine x_iconst C d_Mo_tellLiteral_50 ?_
      refine x_goto C (tgt := 79) d_Mo_tellLiteral_51 (by decide) ?_
      refine XW.steq (st' := .int (zI (stLit v.1.2.2.2)) :: .ref (s0.heap.size + 33) :: []) (by first | (rw [show stLit v.1.2.2.2 = 0 from if_pos (by omega)]; first | done | rfl) | (rw [show stLit v.1.2.2.2 = v.1.2.2.2 - 3 from (if_neg (by omega)).trans (if_pos (by omega))]; first | done | rfl) | (rw [show stLit v.1.2.2.2 = v.1.2.2.2 - 6 from (if_neg (by omega)).trans (if_neg (by omega))]; first | done | rfl)) ?_
      refine x_put C (G_Mo E.1) 23 (u_787 E.1) d_Mo_tellLiteral_79 (by decide) rfl (by rfl) rfl rfl (nle rfl) ?_
      exact x_vret C d_Mo_tellLiteral_82 (nle rfl) (nle rfl) ⟨rfl, by unfold mTL3; rw [if_neg (show ¬ 0 < c0.2.1 by omega)]; exact (sM_eq rfl rfl rfl rfl rfl rfl rfl rfl (fun q q1 q2 q3 q4 q5 q6 q7 q8 => by simp only [sM, a_up, beq_f q1, beq_f q2, beq_f q3, beq_f q4, beq_f q5, beq_f q6, beq_f q7, beq_f q8, cond_false])), rfl⟩
  · exact x_vret C d_Mo_tellLiteral_28 (nle rfl) (nle rfl) ⟨rfl, by unfold mTL3; rw [if_pos c25]; first | done | rfl, rfl⟩
set_option maxRecDepth 100000 in
set_option maxHeartbeats 4000000 in
theorem c_Mo_tellLiteral {a0 : Array Value} {s0 : State} {D : va_G} {cI cL : ClassId} (l : Launch) (E : a_E a0 s0 D cI cL) {h : AH} {K : Nat} {κ : Kp} {v : Hs × T3 × Int × Cn4} {c0 : Cd} {b : Int} (b1 : 0 ≤ c0.2.1) (b2 : c0.2.1 ≤ 4) (hk : hOk v.1) (m1 : 0 ≤ v.2.2.1) (m2 : v.2.2.1 ≤ 120) : XM l s0 D y_Mo_tellLiteral prog_13_method_20_code 2 none 1 0 0 [.ref (s0.heap.size + 33), .int (zI b)] (sM s0.heap.size cI h κ (c0, v)) (K) (PR none (sM s0.heap.size cI h κ (mTL (c0, v) b)) K) := by
  refine XM.of (cI := cI) (cL := cL) (own := "NarrowingPackerModel") (by decide) rfl E.2 (nle rfl) ?_
  intro p e s m below meth c C hn
  have hn := hk.2.1
  refine x_aload_n C d_Mo_tellLiteral_0 rfl ?_
  refine x_get C (G_Mo E.1) 15 (u_779 E.1) d_Mo_tellLiteral_1 (by decide) (by rfl) (show _ = some (.int (zI c0.2.1)) from rfl) ?_
  refine x_if_ne C (tgt := 21) d_Mo_tellLiteral_4 (by decide) (by omega) (by omega) (fun c4 => ?_) (fun c4 => ?_)
  · first
      | (refine XW.heq (h' := sM s0.heap.size cI h κ (mSet c0 4, v)) (sM_eq rfl rfl rfl rfl rfl rfl rfl rfl (fun q q1 q2 q3 q4 q5 q6 q7 q8 => by simp only [sM, a_up, beq_f q1, beq_f q2, beq_f q3, beq_f q4, beq_f q5, beq_f q6, beq_f q7, beq_f q8, cond_false])) ?_
         have e : mTL (c0, v) b = mTL3 (mSet c0 4, v) b := by
           unfold mTL mTL3
           rw [if_pos (show (c0, v).1.2.1 = 0 ∧ (c0, v).2.1.2.1 = 120 from ⟨by show c0.2.1 = 0; omega, by show v.1.2.1 = 120; omega⟩), if_pos (show 0 < (mSet c0 4, v).1.2.1 from (by decide : (0 : Int) < 4))]
         rw [e]
         exact t21_Mo_tellLit l E C rfl (c0 := mSet c0 4) (by show (0 : Int) ≤ 4; decide) (by show (4 : Int) ≤ 4; decide) hk m1 m2 (Or.inl (by show (0 : Int) < 4; decide)))
      | (have e : mTL (c0, v) b = mTL3 (c0, v) b := if_neg (fun h => by have h1 : c0.2.1 = 0 := h.1; have h2 : v.1.2.1 = 120 := h.2; omega)
         rw [e]
         exact t21_Mo_tellLit l E C rfl b1 b2 hk m1 m2 (by omega))
  · refine x_aload_n C d_Mo_tellLiteral_7 rfl ?_
    refine x_get C (G_Mo E.1) 22 (u_786 E.1) d_Mo_tellLiteral_8 (by decide) (by rfl) (show _ = some (.int (zI v.1.2.1)) from rfl) ?_
    refine x_bipush C d_Mo_tellLiteral_11 (by decide) ?_
    refine x_icmp_ne C (tgt := 21) d_Mo_tellLiteral_13 (by decide) (by omega) (by omega) (by omega) (by omega) (fun c13 => ?_) (fun c13 => ?_)
    · first
        | (refine XW.heq (h' := sM s0.heap.size cI h κ (mSet c0 4, v)) (sM_eq rfl rfl rfl rfl rfl rfl rfl rfl (fun q q1 q2 q3 q4 q5 q6 q7 q8 => by simp only [sM, a_up, beq_f q1, beq_f q2, beq_f q3, beq_f q4, beq_f q5, beq_f q6, beq_f q7, beq_f q8, cond_false])) ?_
           have e : mTL (c0, v) b = mTL3 (mSet c0 4, v) b := by
             unfold mTL mTL3
             rw [if_pos (show (c0, v).1.2.1 = 0 ∧ (c0, v).2.1.2.1 = 120 from ⟨by show c0.2.1 = 0; omega, by show v.1.2.1 = 120; omega⟩), if_pos (show 0 < (mSet c0 4, v).1.2.1 from (by decide : (0 : Int) < 4))]
           rw [e]
           exact t21_Mo_tellLit l E C rfl (c0 := mSet c0 4) (by show (0 : Int) ≤ 4; decide) (by show (4 : Int) ≤ 4; decide) hk m1 m2 (Or.inl (by show (0 : Int) < 4; decide)))
        | (have e : mTL (c0, v) b = mTL3 (c0, v) b := if_neg (fun h => by have h1 : c0.2.1 = 0 := h.1; have h2 : v.1.2.1 = 120 := h.2; omega)
           rw [e]
           exact t21_Mo_tellLit l E C rfl b1 b2 hk m1 m2 (by omega))
    · refine x_aload_n C d_Mo_tellLiteral_16 rfl ?_
      refine x_iconst C d_Mo_tellLiteral_17 ?_
      refine x_put C (G_Mo E.1) 15 (u_779 E.1) d_Mo_tellLiteral_18 (by decide) rfl (by rfl) rfl rfl (nle rfl) ?_
      first
        | (refine XW.heq (h' := sM s0.heap.size cI h κ (mSet c0 4, v)) (sM_eq rfl rfl rfl rfl rfl rfl rfl rfl (fun q q1 q2 q3 q4 q5 q6 q7 q8 => by simp only [sM, a_up, beq_f q1, beq_f q2, beq_f q3, beq_f q4, beq_f q5, beq_f q6, beq_f q7, beq_f q8, cond_false])) ?_
           have e : mTL (c0, v) b = mTL3 (mSet c0 4, v) b := by
             unfold mTL mTL3
             rw [if_pos (show (c0, v).1.2.1 = 0 ∧ (c0, v).2.1.2.1 = 120 from ⟨by show c0.2.1 = 0; omega, by show v.1.2.1 = 120; omega⟩), if_pos (show 0 < (mSet c0 4, v).1.2.1 from (by decide : (0 : Int) < 4))]
           rw [e]
           exact t21_Mo_tellLit l E C rfl (c0 := mSet c0 4) (by show (0 : Int) ≤ 4; decide) (by show (4 : Int) ≤ 4; decide) hk m1 m2 (Or.inl (by show (0 : Int) < 4; decide)))
        | (have e : mTL (c0, v) b = mTL3 (c0, v) b := if_neg (fun h => by have h1 : c0.2.1 = 0 := h.1; have h2 : v.1.2.1 = 120 := h.2; omega)
           rw [e]
           exact t21_Mo_tellLit l E C rfl b1 b2 hk m1 m2 (by omega))

set_option maxRecDepth 100000 in
set_option maxHeartbeats 4000000 in
theorem t119_Mo_tellFar {a0 : Array Value} {s0 : State} {D : va_G} {cI cL : ClassId} (l : Launch) (E : a_E a0 s0 D cI cL) {p : Program} {e : Env} {R : Room} {s : State} {m : MethodId} {args : Array Value} {below : List Frame} {meth : Method} {c : Code} (C : XC s0 D cI cL p s m meth c "NarrowingPackerModel" prog_13_method_21_code 7 none []) {h : AH} {K : Nat} {κ : Kp} {v : Hs × T3 × Int × Cn4} {c0 : Cd} {kd d : Int} (hkd : kd = 1 ∨ kd = 2 ∨ kd = 3) (s1 : 0 ≤ v.1.2.2.2) (s2 : v.1.2.2.2 ≤ 11) : XW s0 D p l e R s m args below meth c (XQ s0 D 0 0 (PR none (sM s0.heap.size cI h κ (c0, ((v.1.1, v.1.2.1, zup v.1.2.2.1 0 d, stCopy kd v.1.2.2.2), v.2))) K) below s) 119 [(0, .ref (s0.heap.size + 33)), (1, .int (zI kd)), (3, .int (zI d))] [] (sM s0.heap.size cI h κ (c0, v)) K 0 0 := by
  rcases hkd with rfl | rfl | rfl
  · refine x_aload_n C d_Mo_tellFar_119 rfl ?_
    refine x_get C (G_Mo E.1) 25 (u_789 E.1) d_Mo_tellFar_120 (by decide) (by rfl) rfl ?_
    refine x_iconst C d_Mo_tellFar_123 ?_
    refine x_iload_n C d_Mo_tellFar_124 rfl ?_
    refine x_iast C d_Mo_tellFar_125 (show _ = some (iA cI 4 v.1.2.2.1) from rfl) (by omega) (by omega) (by omega) ?_
    refine x_iload_n C d_Mo_tellFar_126 rfl ?_
    refine x_iconst C d_Mo_tellFar_127 ?_
    refine x_icmp_ne C (tgt := 136) d_Mo_tellFar_128 (by decide) (by omega) (by omega) (by omega) (by omega) (fun c128 => ?_) (fun c128 => ?_)
    · exfalso; omega
    · refine x_bipush C d_Mo_tellFar_131 (by decide) ?_
      refine x_goto C (tgt := 148) d_Mo_tellFar_133 (by decide) ?_
      refine x_istore C d_Mo_tellFar_148 (by decide) ?_
      refine x_iload_n C d_Mo_tellFar_150 rfl ?_
      refine x_iconst C d_Mo_tellFar_151 ?_
      refine x_icmp_ne C (tgt := 160) d_Mo_tellFar_152 (by decide) (by omega) (by omega) (by omega) (by omega) (fun c152 => ?_) (fun c152 => ?_)
      · exfalso; omega
      · refine x_bipush C d_Mo_tellFar_155 (by decide) ?_
        refine x_goto C (tgt := 162) d_Mo_tellFar_157 (by decide) ?_
        refine x_istore C d_Mo_tellFar_162 (by decide) ?_
        refine x_aload_n C d_Mo_tellFar_164 rfl ?_
        refine x_aload_n C d_Mo_tellFar_165 rfl ?_
        refine x_get C (G_Mo E.1) 23 (u_787 E.1) d_Mo_tellFar_166 (by decide) (by rfl) (show _ = some (.int (zI v.1.2.2.2)) from rfl) ?_
        refine x_bipush C d_Mo_tellFar_169 (by decide) ?_
        refine x_icmp_ge C (tgt := 179) d_Mo_tellFar_171 (by decide) (by omega) (by omega) (by omega) (by omega) (fun c171 => ?_) (fun c171 => ?_)
        · refine x_iload C d_Mo_tellFar_179 rfl ?_
          refine XW.steq (st' := .int (zI (stCopy 1 v.1.2.2.2)) :: .ref (s0.heap.size + 33) :: []) (by first | (rw [show stCopy 1 v.1.2.2.2 = 7 by unfold stCopy; simp only [Int.reduceEq, if_true, if_false, reduceIte]; split <;> omega]; first | done | rfl) | (rw [show stCopy 1 v.1.2.2.2 = 10 by unfold stCopy; simp only [Int.reduceEq, if_true, if_false, reduceIte]; split <;> omega]; first | done | rfl)) ?_
          refine x_put C (G_Mo E.1) 23 (u_787 E.1) d_Mo_tellFar_181 (by decide) rfl (by rfl) rfl rfl (nle rfl) ?_
          exact x_vret C d_Mo_tellFar_184 (nle rfl) (nle rfl) ⟨rfl, (sM_eq rfl rfl rfl rfl rfl rfl rfl rfl (fun q q1 q2 q3 q4 q5 q6 q7 q8 => by simp only [sM, a_up, beq_f q1, beq_f q2, beq_f q3, beq_f q4, beq_f q5, beq_f q6, beq_f q7, beq_f q8, cond_false])), rfl⟩
        · refine x_iload C d_Mo_tellFar_174 rfl ?_
          refine x_goto C (tgt := 181) d_Mo_tellFar_176 (by decide) ?_
          refine XW.steq (st' := .int (zI (stCopy 1 v.1.2.2.2)) :: .ref (s0.heap.size + 33) :: []) (by first | (rw [show stCopy 1 v.1.2.2.2 = 7 by unfold stCopy; simp only [Int.reduceEq, if_true, if_false, reduceIte]; split <;> omega]; first | done | rfl) | (rw [show stCopy 1 v.1.2.2.2 = 10 by unfold stCopy; simp only [Int.reduceEq, if_true, if_false, reduceIte]; split <;> omega]; first | done | rfl)) ?_
          refine x_put C (G_Mo E.1) 23 (u_787 E.1) d_Mo_tellFar_181 (by decide) rfl (by rfl) rfl rfl (nle rfl) ?_
          exact x_vret C d_Mo_tellFar_184 (nle rfl) (nle rfl) ⟨rfl, (sM_eq rfl rfl rfl rfl rfl rfl rfl rfl (fun q q1 q2 q3 q4 q5 q6 q7 q8 => by simp only [sM, a_up, beq_f q1, beq_f q2, beq_f q3, beq_f q4, beq_f q5, beq_f q6, beq_f q7, beq_f q8, cond_false])), rfl⟩
  · refine x_aload_n C d_Mo_tellFar_119 rfl ?_
    refine x_get C (G_Mo E.1) 25 (u_789 E.1) d_Mo_tellFar_120 (by decide) (by rfl) rfl ?_
    refine x_iconst C d_Mo_tellFar_123 ?_
    refine x_iload_n C d_Mo_tellFar_124 rfl ?_
    refine x_iast C d_Mo_tellFar_125 (show _ = some (iA cI 4 v.1.2.2.1) from rfl) (by omega) (by omega) (by omega) ?_
    refine x_iload_n C d_Mo_tellFar_126 rfl ?_
    refine x_iconst C d_Mo_tellFar_127 ?_
    refine x_icmp_ne C (tgt := 136) d_Mo_tellFar_128 (by decide) (by omega) (by omega) (by omega) (by omega) (fun c128 => ?_) (fun c128 => ?_)
    · refine x_iload_n C d_Mo_tellFar_136 rfl ?_
      refine x_iconst C d_Mo_tellFar_137 ?_
      refine x_icmp_ne C (tgt := 146) d_Mo_tellFar_138 (by decide) (by omega) (by omega) (by omega) (by omega) (fun c138 => ?_) (fun c138 => ?_)
      · exfalso; omega
      · refine x_bipush C d_Mo_tellFar_141 (by decide) ?_
        refine x_goto C (tgt := 148) d_Mo_tellFar_143 (by decide) ?_
        refine x_istore C d_Mo_tellFar_148 (by decide) ?_
        refine x_iload_n C d_Mo_tellFar_150 rfl ?_
        refine x_iconst C d_Mo_tellFar_151 ?_
        refine x_icmp_ne C (tgt := 160) d_Mo_tellFar_152 (by decide) (by omega) (by omega) (by omega) (by omega) (fun c152 => ?_) (fun c152 => ?_)
        · refine x_bipush C d_Mo_tellFar_160 (by decide) ?_
          refine x_istore C d_Mo_tellFar_162 (by decide) ?_
          refine x_aload_n C d_Mo_tellFar_164 rfl ?_
          refine x_aload_n C d_Mo_tellFar_165 rfl ?_
          refine x_get C (G_Mo E.1) 23 (u_787 E.1) d_Mo_tellFar_166 (by decide) (by rfl) (show _ = some (.int (zI v.1.2.2.2)) from rfl) ?_
          refine x_bipush C d_Mo_tellFar_169 (by decide) ?_
          refine x_icmp_ge C (tgt := 179) d_Mo_tellFar_171 (by decide) (by omega) (by omega) (by omega) (by omega) (fun c171 => ?_) (fun c171 => ?_)
          · refine x_iload C d_Mo_tellFar_179 rfl ?_
            refine XW.steq (st' := .int (zI (stCopy 2 v.1.2.2.2)) :: .ref (s0.heap.size + 33) :: []) (by first | (rw [show stCopy 2 v.1.2.2.2 = 8 by unfold stCopy; simp only [Int.reduceEq, if_true, if_false, reduceIte]; split <;> omega]; first | done | rfl) | (rw [show stCopy 2 v.1.2.2.2 = 11 by unfold stCopy; simp only [Int.reduceEq, if_true, if_false, reduceIte]; split <;> omega]; first | done | rfl)) ?_
            refine x_put C (G_Mo E.1) 23 (u_787 E.1) d_Mo_tellFar_181 (by decide) rfl (by rfl) rfl rfl (nle rfl) ?_
            exact x_vret C d_Mo_tellFar_184 (nle rfl) (nle rfl) ⟨rfl, (sM_eq rfl rfl rfl rfl rfl rfl rfl rfl (fun q q1 q2 q3 q4 q5 q6 q7 q8 => by simp only [sM, a_up, beq_f q1, beq_f q2, beq_f q3, beq_f q4, beq_f q5, beq_f q6, beq_f q7, beq_f q8, cond_false])), rfl⟩
          · refine x_iload C d_Mo_tellFar_174 rfl ?_
            refine x_goto C (tgt := 181) d_Mo_tellFar_176 (by decide) ?_
            refine XW.steq (st' := .int (zI (stCopy 2 v.1.2.2.2)) :: .ref (s0.heap.size + 33) :: []) (by first | (rw [show stCopy 2 v.1.2.2.2 = 8 by unfold stCopy; simp only [Int.reduceEq, if_true, if_false, reduceIte]; split <;> omega]; first | done | rfl) | (rw [show stCopy 2 v.1.2.2.2 = 11 by unfold stCopy; simp only [Int.reduceEq, if_true, if_false, reduceIte]; split <;> omega]; first | done | rfl)) ?_
            refine x_put C (G_Mo E.1) 23 (u_787 E.1) d_Mo_tellFar_181 (by decide) rfl (by rfl) rfl rfl (nle rfl) ?_
            exact x_vret C d_Mo_tellFar_184 (nle rfl) (nle rfl) ⟨rfl, (sM_eq rfl rfl rfl rfl rfl rfl rfl rfl (fun q q1 q2 q3 q4 q5 q6 q7 q8 => by simp only [sM, a_up, beq_f q1, beq_f q2, beq_f q3, beq_f q4, beq_f q5, beq_f q6, beq_f q7, beq_f q8, cond_false])), rfl⟩
        · exfalso; omega
    · exfalso; omega
  · refine x_aload_n C d_Mo_tellFar_119 rfl ?_
    refine x_get C (G_Mo E.1) 25 (u_789 E.1) d_Mo_tellFar_120 (by decide) (by rfl) rfl ?_
    refine x_iconst C d_Mo_tellFar_123 ?_
    refine x_iload_n C d_Mo_tellFar_124 rfl ?_
    refine x_iast C d_Mo_tellFar_125 (show _ = some (iA cI 4 v.1.2.2.1) from rfl) (by omega) (by omega) (by omega) ?_
    refine x_iload_n C d_Mo_tellFar_126 rfl ?_
    refine x_iconst C d_Mo_tellFar_127 ?_
    refine x_icmp_ne C (tgt := 136) d_Mo_tellFar_128 (by decide) (by omega) (by omega) (by omega) (by omega) (fun c128 => ?_) (fun c128 => ?_)
    · refine x_iload_n C d_Mo_tellFar_136 rfl ?_
      refine x_iconst C d_Mo_tellFar_137 ?_
      refine x_icmp_ne C (tgt := 146) d_Mo_tellFar_138 (by decide) (by omega) (by omega) (by omega) (by omega) (fun c138 => ?_) (fun c138 => ?_)
      · refine x_bipush C d_Mo_tellFar_146 (by decide) ?_
        refine x_istore C d_Mo_tellFar_148 (by decide) ?_
        refine x_iload_n C d_Mo_tellFar_150 rfl ?_
        refine x_iconst C d_Mo_tellFar_151 ?_
        refine x_icmp_ne C (tgt := 160) d_Mo_tellFar_152 (by decide) (by omega) (by omega) (by omega) (by omega) (fun c152 => ?_) (fun c152 => ?_)
        · refine x_bipush C d_Mo_tellFar_160 (by decide) ?_
          refine x_istore C d_Mo_tellFar_162 (by decide) ?_
          refine x_aload_n C d_Mo_tellFar_164 rfl ?_
          refine x_aload_n C d_Mo_tellFar_165 rfl ?_
          refine x_get C (G_Mo E.1) 23 (u_787 E.1) d_Mo_tellFar_166 (by decide) (by rfl) (show _ = some (.int (zI v.1.2.2.2)) from rfl) ?_
          refine x_bipush C d_Mo_tellFar_169 (by decide) ?_
          refine x_icmp_ge C (tgt := 179) d_Mo_tellFar_171 (by decide) (by omega) (by omega) (by omega) (by omega) (fun c171 => ?_) (fun c171 => ?_)
          · refine x_iload C d_Mo_tellFar_179 rfl ?_
            refine XW.steq (st' := .int (zI (stCopy 3 v.1.2.2.2)) :: .ref (s0.heap.size + 33) :: []) (by first | (rw [show stCopy 3 v.1.2.2.2 = 9 by unfold stCopy; simp only [Int.reduceEq, if_true, if_false, reduceIte]; split <;> omega]; first | done | rfl) | (rw [show stCopy 3 v.1.2.2.2 = 11 by unfold stCopy; simp only [Int.reduceEq, if_true, if_false, reduceIte]; split <;> omega]; first | done | rfl)) ?_
            refine x_put C (G_Mo E.1) 23 (u_787 E.1) d_Mo_tellFar_181 (by decide) rfl (by rfl) rfl rfl (nle rfl) ?_
            exact x_vret C d_Mo_tellFar_184 (nle rfl) (nle rfl) ⟨rfl, (sM_eq rfl rfl rfl rfl rfl rfl rfl rfl (fun q q1 q2 q3 q4 q5 q6 q7 q8 => by simp only [sM, a_up, beq_f q1, beq_f q2, beq_f q3, beq_f q4, beq_f q5, beq_f q6, beq_f q7, beq_f q8, cond_false])), rfl⟩
          · refine x_iload C d_Mo_tellFar_174 rfl ?_
            refine x_goto C (tgt := 181) d_Mo_tellFar_176 (by decide) ?_
            refine XW.steq (st' := .int (zI (stCopy 3 v.1.2.2.2)) :: .ref (s0.heap.size + 33) :: []) (by first | (rw [show stCopy 3 v.1.2.2.2 = 9 by unfold stCopy; simp only [Int.reduceEq, if_true, if_false, reduceIte]; split <;> omega]; first | done | rfl) | (rw [show stCopy 3 v.1.2.2.2 = 11 by unfold stCopy; simp only [Int.reduceEq, if_true, if_false, reduceIte]; split <;> omega]; first | done | rfl)) ?_
            refine x_put C (G_Mo E.1) 23 (u_787 E.1) d_Mo_tellFar_181 (by decide) rfl (by rfl) rfl rfl (nle rfl) ?_
            exact x_vret C d_Mo_tellFar_184 (nle rfl) (nle rfl) ⟨rfl, (sM_eq rfl rfl rfl rfl rfl rfl rfl rfl (fun q q1 q2 q3 q4 q5 q6 q7 q8 => by simp only [sM, a_up, beq_f q1, beq_f q2, beq_f q3, beq_f q4, beq_f q5, beq_f q6, beq_f q7, beq_f q8, cond_false])), rfl⟩
        · exfalso; omega
      · exfalso; omega
    · exfalso; omega
set_option maxRecDepth 100000 in
set_option maxHeartbeats 4000000 in
theorem l92_Mo_tellFar {a0 : Array Value} {s0 : State} {D : va_G} {cI cL : ClassId} (l : Launch) (E : a_E a0 s0 D cI cL) {p : Program} {e : Env} {R : Room} {s : State} {m : MethodId} {args : Array Value} {below : List Frame} {meth : Method} {c : Code} (C : XC s0 D cI cL p s m meth c "NarrowingPackerModel" prog_13_method_21_code 7 none []) {h : AH} {K : Nat} {κ : Kp} {c0 : Cd} {r : T3 × Int × Cn4} {b G : Int → Int} {n st : Int} {kd d : Int} (hkd : kd = 1 ∨ kd = 2 ∨ kd = 3) (s1 : 0 ≤ st) (s2 : st ≤ 11) : ∀ (k : Nat) (bk : Int → Int), k ≤ 3 → hFront k bk = G → XW s0 D p l e R s m args below meth c (XQ s0 D 0 0 (PR none (sM s0.heap.size cI h κ (c0, ((b, n, zup G 0 d, stCopy kd st), r))) K) below s) 92 [(0, .ref (s0.heap.size + 33)), (1, .int (zI kd)), (3, .int (zI d)), (5, .int (zI (k : Int)))] [] (sM s0.heap.size cI h κ (c0, ((b, n, bk, st), r))) K 0 0 := by
  intro k
  induction k with
  | zero =>
    intro bk hk hG
    subst hG
    refine x_iload C d_Mo_tellFar_92 rfl ?_
    refine x_if_le C (tgt := 119) d_Mo_tellFar_94 (by decide) (by omega) (by omega) (fun c94 => ?_) (fun c94 => ?_)
    · refine XW.loc (lv' := [(0, .ref (s0.heap.size + 33)), (1, .int (zI kd)), (3, .int (zI d))]) ⟨rfl, rfl, rfl, trivial⟩ ?_
      exact t119_Mo_tellFar l E C (v := ((b, n, bk, st), r)) hkd s1 s2
    · exfalso; omega
  | succ k ih =>
    intro bk hk hG
    refine x_iload C d_Mo_tellFar_92 rfl ?_
    refine x_if_le C (tgt := 119) d_Mo_tellFar_94 (by decide) (by omega) (by omega) (fun c94 => ?_) (fun c94 => ?_)
    · exfalso; omega
    · refine x_aload_n C d_Mo_tellFar_97 rfl ?_
      refine x_get C (G_Mo E.1) 25 (u_789 E.1) d_Mo_tellFar_98 (by decide) (by rfl) rfl ?_
      refine x_iload C d_Mo_tellFar_101 rfl ?_
      refine x_aload_n C d_Mo_tellFar_103 rfl ?_
      refine x_get C (G_Mo E.1) 25 (u_789 E.1) d_Mo_tellFar_104 (by decide) (by rfl) rfl ?_
      refine x_iload C d_Mo_tellFar_107 rfl ?_
      refine x_iconst C d_Mo_tellFar_109 ?_
      refine x_isub C d_Mo_tellFar_110 ?_
      refine x_iald C d_Mo_tellFar_111 (show _ = some (iA cI 4 bk) from rfl) (by omega) (by omega) (by omega) ?_
      refine x_iast C d_Mo_tellFar_112 (show _ = some (iA cI 4 bk) from rfl) (by omega) (by omega) (by omega) ?_
      refine x_iinc C d_Mo_tellFar_113 (by decide) rfl ?_
      refine x_goto C (tgt := 92) d_Mo_tellFar_116 (by decide) ?_
      refine XW.loc (lv' := [(0, .ref (s0.heap.size + 33)), (1, .int (zI kd)), (3, .int (zI d)), (5, .int (zI (k : Int)))]) ⟨rfl, rfl, rfl, by rw [show ((k : Nat) : Int) = ((k + 1 : Nat) : Int) + -1 by omega]; rfl, trivial⟩ ?_
      refine XW.heq (h' := sM s0.heap.size cI h κ (c0, ((b, n, zup bk ((k : Int) + 1) (bk k), st), r))) (by rw [show ((k : Int) + 1) = ((k + 1 : Nat) : Int) by omega, show (k : Int) = ((k + 1 : Nat) : Int) - 1 by omega]; exact (sM_eq rfl rfl rfl rfl rfl rfl rfl rfl (fun q q1 q2 q3 q4 q5 q6 q7 q8 => by simp only [sM, a_up, beq_f q1, beq_f q2, beq_f q3, beq_f q4, beq_f q5, beq_f q6, beq_f q7, beq_f q8, cond_false]))) ?_
      exact ih _ (by omega) hG
set_option maxRecDepth 100000 in
set_option maxHeartbeats 4000000 in
theorem l61_Mo_tellFar {a0 : Array Value} {s0 : State} {D : va_G} {cI cL : ClassId} (l : Launch) (E : a_E a0 s0 D cI cL) {p : Program} {e : Env} {R : Room} {s : State} {m : MethodId} {args : Array Value} {below : List Frame} {meth : Method} {c : Code} (C : XC s0 D cI cL p s m meth c "NarrowingPackerModel" prog_13_method_21_code 7 none []) (hR : R = a_rm 1 0 0) {h : AH} {K : Nat} {κ : Kp} {c0 : Cd} {w : T3 × Int × Cn4} {B bk : Int → Int} {N st : Int} {kd mn d : Int} (k : Nat) (k3 : k ≤ 3) (hkd : kd = 1 ∨ kd = 2 ∨ kd = 3) (d1 : 1 ≤ d) (mn1 : 0 ≤ mn) (mn2 : mn ≤ 2000) (s1 : 0 ≤ st) (s2 : st ≤ 11) : ∀ (r : Nat) (b : Int → Int) (n : Int), (r : Int) ≤ mn → n + r = N → N ≤ 120 → d ≤ n → hRep r d b n = B → XW s0 D p l e R s m args below meth c (XQ s0 D 0 0 (PR none (sM s0.heap.size cI h κ (c0, ((B, N, zup (hFront k bk) 0 d, stCopy kd st), w))) K) below s) 61 [(0, .ref (s0.heap.size + 33)), (1, .int (zI kd)), (2, .int (zI mn)), (3, .int (zI d)), (4, .int (zI (k : Int))), (5, .int (zI (mn - (r : Int))))] [] (sM s0.heap.size cI h κ (c0, ((b, n, bk, st), w))) K 0 0 := by
  subst hR
  intro r
  induction r with
  | zero =>
    intro b n hr hN n2 dn hB
    subst hB
    have hN : n = N := by omega
    subst hN
    refine x_iload C d_Mo_tellFar_61 rfl ?_
    refine x_iload_n C d_Mo_tellFar_63 rfl ?_
    refine x_icmp_ge C (tgt := 88) d_Mo_tellFar_64 (by decide) (by omega) (by omega) (by omega) (by omega) (fun c64 => ?_) (fun c64 => ?_)
    · refine x_iload C d_Mo_tellFar_88 rfl ?_
      refine x_istore C d_Mo_tellFar_90 (by decide) ?_
      refine XW.loc (lv' := [(0, .ref (s0.heap.size + 33)), (1, .int (zI kd)), (3, .int (zI d)), (5, .int (zI (k : Int)))]) ⟨rfl, rfl, rfl, rfl, trivial⟩ ?_
      exact l92_Mo_tellFar l E C hkd s1 s2 k bk k3 rfl
    · exfalso; omega
  | succ r ih =>
    intro b n hr hN n2 dn hB
    refine x_iload C d_Mo_tellFar_61 rfl ?_
    refine x_iload_n C d_Mo_tellFar_63 rfl ?_
    refine x_icmp_ge C (tgt := 88) d_Mo_tellFar_64 (by decide) (by omega) (by omega) (by omega) (by omega) (fun c64 => ?_) (fun c64 => ?_)
    · exfalso; omega
    · refine x_aload_n C d_Mo_tellFar_67 rfl ?_
      refine x_aload_n C d_Mo_tellFar_68 rfl ?_
      refine x_get C (G_Mo E.1) 24 (u_788 E.1) d_Mo_tellFar_69 (by decide) (by rfl) rfl ?_
      refine x_aload_n C d_Mo_tellFar_72 rfl ?_
      refine x_get C (G_Mo E.1) 22 (u_786 E.1) d_Mo_tellFar_73 (by decide) (by rfl) (show _ = some (.int (zI n)) from rfl) ?_
      refine x_iload_n C d_Mo_tellFar_76 rfl ?_
      refine x_isub C d_Mo_tellFar_77 ?_
      refine x_iald C d_Mo_tellFar_78 (show _ = some (iA cI 120 b) from rfl) (by omega) (by omega) (by omega) ?_
      refine x_callVR C (G_Mo E.1) (u_938 E.1) (u_940 E.1) (us_35 E.1) (u_941 E.1) (u_13 E.1) d_Mo_tellFar_79 (c_Mo_tell l E (v := ((b, n, bk, st), w)) (by show 0 ≤ n; omega) (by show n < 120; omega)) nh_Mo_tell ln_Mo_tell rfl rfl (nle rfl) (nle rfl) (nle rfl) (nle rfl) (nle rfl) ?_
      refine XW.heq (h' := sM s0.heap.size cI h κ (c0, ((zup b n (b (n - d)), n + 1, bk, st), w))) rfl ?_
      refine x_iinc C d_Mo_tellFar_82 (by decide) rfl ?_
      refine x_goto C (tgt := 61) d_Mo_tellFar_85 (by decide) ?_
      refine XW.loc (lv' := [(0, .ref (s0.heap.size + 33)), (1, .int (zI kd)), (2, .int (zI mn)), (3, .int (zI d)), (4, .int (zI (k : Int))), (5, .int (zI (mn - (r : Int))))]) ⟨rfl, rfl, rfl, rfl, rfl, by rw [show mn - (r : Int) = mn - ((r + 1 : Nat) : Int) + 1 by omega]; rfl, trivial⟩ ?_
      exact ih _ _ (by omega) (by omega) n2 (by omega) hB
set_option maxRecDepth 100000 in
set_option maxHeartbeats 4000000 in
theorem t43_Mo_tellFar {a0 : Array Value} {s0 : State} {D : va_G} {cI cL : ClassId} (l : Launch) (E : a_E a0 s0 D cI cL) {p : Program} {e : Env} {R : Room} {s : State} {m : MethodId} {args : Array Value} {below : List Frame} {meth : Method} {c : Code} (C : XC s0 D cI cL p s m meth c "NarrowingPackerModel" prog_13_method_21_code 7 none []) (hR : R = a_rm 1 0 0) {h : AH} {K : Nat} {κ : Kp} {v : Hs × T3 × Int × Cn4} {c0 : Cd} {kd mn d : Int} (k : Nat) (k3 : k ≤ 3) (hkd : kd = 1 ∨ kd = 2 ∨ kd = 3) (d1 : 1 ≤ d) (d2 : d ≤ 2000) (mn1 : 1 ≤ mn) (mn2 : mn ≤ 2000) (b1 : 0 ≤ c0.2.1) (b2 : c0.2.1 ≤ 4) (hk : hOk v.1) (m1 : 0 ≤ v.2.2.1) (m2 : v.2.2.1 ≤ 120) (nb : 0 < c0.2.1 ∨ (d ≤ v.1.2.1 ∧ v.1.2.1 + mn ≤ 120)) : XW s0 D p l e R s m args below meth c (XQ s0 D 0 0 (PR none (sM s0.heap.size cI h κ (mTF3 kd mn d k (c0, v))) K) below s) 43 [(0, .ref (s0.heap.size + 33)), (1, .int (zI kd)), (2, .int (zI mn)), (3, .int (zI d)), (4, .int (zI (k : Int)))] [] (sM s0.heap.size cI h κ (c0, v)) K 0 0 := by
  have hl := fun (hR : R = a_rm 1 0 0) => l61_Mo_tellFar l E C hR (h := h) (K := K) (κ := κ) (c0 := c0) (w := (v.1, (zup v.2.1.1 v.2.2.1 kd, zup v.2.1.2.1 v.2.2.1 mn, zup v.2.1.2.2 v.2.2.1 d), v.2.2.1 + 1, v.2.2.2).2) (bk := v.1.2.2.1) (st := v.1.2.2.2) (N := v.1.2.1 + mn) (B := hRep mn.toNat d v.1.1 v.1.2.1) k k3 hkd d1 (by omega) mn2 hk.2.2.2.1.1 hk.2.2.2.1.2 mn.toNat v.1.1 v.1.2.1 (by omega) (by omega) (e := e) (args := args) (below := below)
  have hl := hl hR
  subst hR
  have hn := hk.2.1
  refine x_aload_n C d_Mo_tellFar_43 rfl ?_
  refine x_get C (G_Mo E.1) 15 (u_779 E.1) d_Mo_tellFar_44 (by decide) (by rfl) (show _ = some (.int (zI c0.2.1)) from rfl) ?_
  refine x_if_le C (tgt := 51) d_Mo_tellFar_47 (by decide) (by omega) (by omega) (fun c47 => ?_) (fun c47 => ?_)
  · refine x_aload_n C d_Mo_tellFar_51 rfl ?_
    refine x_iload_n C d_Mo_tellFar_52 rfl ?_
    refine x_iload_n C d_Mo_tellFar_53 rfl ?_
    refine x_iload_n C d_Mo_tellFar_54 rfl ?_
    refine x_callVR C (G_Mo E.1) (u_934 E.1) (u_936 E.1) (us_34 E.1) (u_937 E.1) (u_13 E.1) d_Mo_tellFar_55 (c_Mo_note l E (by omega) (by omega)) nh_Mo_note ln_Mo_note rfl rfl (nle rfl) (nle rfl) (nle rfl) (nle rfl) (nle rfl) ?_
    refine XW.heq (h' := sM s0.heap.size cI h κ (c0, (v.1, (zup v.2.1.1 v.2.2.1 kd, zup v.2.1.2.1 v.2.2.1 mn, zup v.2.1.2.2 v.2.2.1 d), v.2.2.1 + 1, v.2.2.2))) rfl ?_
    refine x_iconst C d_Mo_tellFar_58 ?_
    refine x_istore C d_Mo_tellFar_59 (by decide) ?_
    have e : mTF3 kd mn d k (c0, v) = (c0, vNote v (hRep mn.toNat d v.1.1 v.1.2.1, v.1.2.1 + mn, zup (hFront k v.1.2.2.1) 0 d, stCopy kd v.1.2.2.2) kd mn d) := if_neg (by show ¬ 0 < c0.2.1; omega)
    rw [e]
    refine XW.loc (lv' := [(0, .ref (s0.heap.size + 33)), (1, .int (zI kd)), (2, .int (zI mn)), (3, .int (zI d)), (4, .int (zI (k : Int))), (5, .int (zI (mn - (mn.toNat : Int))))]) ⟨rfl, rfl, rfl, rfl, rfl, by rw [show mn - (mn.toNat : Int) = 0 by omega]; rfl, trivial⟩ ?_
    exact hl (by omega) (by omega) rfl
  · exact x_vret C d_Mo_tellFar_50 (nle rfl) (nle rfl) ⟨rfl, by unfold mTF3; rw [if_pos c47]; first | done | rfl, rfl⟩
set_option maxRecDepth 100000 in
set_option maxHeartbeats 4000000 in
theorem t20_Mo_tellFar {a0 : Array Value} {s0 : State} {D : va_G} {cI cL : ClassId} (l : Launch) (E : a_E a0 s0 D cI cL) {p : Program} {e : Env} {R : Room} {s : State} {m : MethodId} {args : Array Value} {below : List Frame} {meth : Method} {c : Code} (C : XC s0 D cI cL p s m meth c "NarrowingPackerModel" prog_13_method_21_code 7 none []) (hR : R = a_rm 1 0 0) {h : AH} {K : Nat} {κ : Kp} {v : Hs × T3 × Int × Cn4} {c0 : Cd} {kd mn d : Int} (k : Nat) (k3 : k ≤ 3) (hkd : kd = 1 ∨ kd = 2 ∨ kd = 3) (d1 : 1 ≤ d) (d2 : d ≤ 2000) (mn1 : 1 ≤ mn) (mn2 : mn ≤ 2000) (b1 : 0 ≤ c0.2.1) (b2 : c0.2.1 ≤ 4) (hk : hOk v.1) (m1 : 0 ≤ v.2.2.1) (m2 : v.2.2.1 ≤ 120) (nb : 0 < c0.2.1 ∨ d ≤ v.1.2.1) : XW s0 D p l e R s m args below meth c (XQ s0 D 0 0 (PR none (sM s0.heap.size cI h κ (mTF2 kd mn d k (c0, v))) K) below s) 20 [(0, .ref (s0.heap.size + 33)), (1, .int (zI kd)), (2, .int (zI mn)), (3, .int (zI d)), (4, .int (zI (k : Int)))] [] (sM s0.heap.size cI h κ (c0, v)) K 0 0 := by
  subst hR
  have hn := hk.2.1
  refine x_aload_n C d_Mo_tellFar_20 rfl ?_
  refine x_get C (G_Mo E.1) 15 (u_779 E.1) d_Mo_tellFar_21 (by decide) (by rfl) (show _ = some (.int (zI c0.2.1)) from rfl) ?_
  refine x_if_ne C (tgt := 43) d_Mo_tellFar_24 (by decide) (by omega) (by omega) (fun c24 => ?_) (fun c24 => ?_)
  · first
      | (refine XW.heq (h' := sM s0.heap.size cI h κ (mSet c0 4, v)) (sM_eq rfl rfl rfl rfl rfl rfl rfl rfl (fun q q1 q2 q3 q4 q5 q6 q7 q8 => by simp only [sM, a_up, beq_f q1, beq_f q2, beq_f q3, beq_f q4, beq_f q5, beq_f q6, beq_f q7, beq_f q8, cond_false])) ?_
         have e : mTF2 kd mn d k (c0, v) = mTF3 kd mn d k (mSet c0 4, v) := by
           show mTF3 kd mn d k (if c0.2.1 = 0 ∧ 120 < v.1.2.1 + mn then (mSet c0 4, v) else (c0, v)) = _
           rw [if_pos (by omega)]
         rw [e]
         exact t43_Mo_tellFar l E C rfl (c0 := mSet c0 4) k k3 hkd d1 d2 mn1 mn2 (by show (0 : Int) ≤ 4; decide) (by show (4 : Int) ≤ 4; decide) hk m1 m2 (Or.inl (by show (0 : Int) < 4; decide)))
      | (have e : mTF2 kd mn d k (c0, v) = mTF3 kd mn d k (c0, v) := by
           show mTF3 kd mn d k (if c0.2.1 = 0 ∧ 120 < v.1.2.1 + mn then (mSet c0 4, v) else (c0, v)) = _
           rw [if_neg (by omega)]
         rw [e]
         exact t43_Mo_tellFar l E C rfl k k3 hkd d1 d2 mn1 mn2 b1 b2 hk m1 m2 (by omega))
  · refine x_aload_n C d_Mo_tellFar_27 rfl ?_
    refine x_get C (G_Mo E.1) 22 (u_786 E.1) d_Mo_tellFar_28 (by decide) (by rfl) (show _ = some (.int (zI v.1.2.1)) from rfl) ?_
    refine x_iload_n C d_Mo_tellFar_31 rfl ?_
    refine x_iadd C d_Mo_tellFar_32 ?_
    refine x_bipush C d_Mo_tellFar_33 (by decide) ?_
    refine x_icmp_le C (tgt := 43) d_Mo_tellFar_35 (by decide) (by omega) (by omega) (by omega) (by omega) (fun c35 => ?_) (fun c35 => ?_)
    · first
        | (refine XW.heq (h' := sM s0.heap.size cI h κ (mSet c0 4, v)) (sM_eq rfl rfl rfl rfl rfl rfl rfl rfl (fun q q1 q2 q3 q4 q5 q6 q7 q8 => by simp only [sM, a_up, beq_f q1, beq_f q2, beq_f q3, beq_f q4, beq_f q5, beq_f q6, beq_f q7, beq_f q8, cond_false])) ?_
           have e : mTF2 kd mn d k (c0, v) = mTF3 kd mn d k (mSet c0 4, v) := by
             show mTF3 kd mn d k (if c0.2.1 = 0 ∧ 120 < v.1.2.1 + mn then (mSet c0 4, v) else (c0, v)) = _
             rw [if_pos (by omega)]
           rw [e]
           exact t43_Mo_tellFar l E C rfl (c0 := mSet c0 4) k k3 hkd d1 d2 mn1 mn2 (by show (0 : Int) ≤ 4; decide) (by show (4 : Int) ≤ 4; decide) hk m1 m2 (Or.inl (by show (0 : Int) < 4; decide)))
        | (have e : mTF2 kd mn d k (c0, v) = mTF3 kd mn d k (c0, v) := by
             show mTF3 kd mn d k (if c0.2.1 = 0 ∧ 120 < v.1.2.1 + mn then (mSet c0 4, v) else (c0, v)) = _
             rw [if_neg (by omega)]
           rw [e]
           exact t43_Mo_tellFar l E C rfl k k3 hkd d1 d2 mn1 mn2 b1 b2 hk m1 m2 (by omega))
    · refine x_aload_n C d_Mo_tellFar_38 rfl ?_
      refine x_iconst C d_Mo_tellFar_39 ?_
      refine x_put C (G_Mo E.1) 15 (u_779 E.1) d_Mo_tellFar_40 (by decide) rfl (by rfl) rfl rfl (nle rfl) ?_
      first
        | (refine XW.heq (h' := sM s0.heap.size cI h κ (mSet c0 4, v)) (sM_eq rfl rfl rfl rfl rfl rfl rfl rfl (fun q q1 q2 q3 q4 q5 q6 q7 q8 => by simp only [sM, a_up, beq_f q1, beq_f q2, beq_f q3, beq_f q4, beq_f q5, beq_f q6, beq_f q7, beq_f q8, cond_false])) ?_
           have e : mTF2 kd mn d k (c0, v) = mTF3 kd mn d k (mSet c0 4, v) := by
             show mTF3 kd mn d k (if c0.2.1 = 0 ∧ 120 < v.1.2.1 + mn then (mSet c0 4, v) else (c0, v)) = _
             rw [if_pos (by omega)]
           rw [e]
           exact t43_Mo_tellFar l E C rfl (c0 := mSet c0 4) k k3 hkd d1 d2 mn1 mn2 (by show (0 : Int) ≤ 4; decide) (by show (4 : Int) ≤ 4; decide) hk m1 m2 (Or.inl (by show (0 : Int) < 4; decide)))
        | (have e : mTF2 kd mn d k (c0, v) = mTF3 kd mn d k (c0, v) := by
             show mTF3 kd mn d k (if c0.2.1 = 0 ∧ 120 < v.1.2.1 + mn then (mSet c0 4, v) else (c0, v)) = _
             rw [if_neg (by omega)]
           rw [e]
           exact t43_Mo_tellFar l E C rfl k k3 hkd d1 d2 mn1 mn2 b1 b2 hk m1 m2 (by omega))
set_option maxRecDepth 100000 in
set_option maxHeartbeats 4000000 in
theorem c_Mo_tellFar {a0 : Array Value} {s0 : State} {D : va_G} {cI cL : ClassId} (l : Launch) (E : a_E a0 s0 D cI cL) {h : AH} {K : Nat} {κ : Kp} {v : Hs × T3 × Int × Cn4} {c0 : Cd} {kd mn d : Int} (k : Nat) (k3 : k ≤ 3) (hkd : kd = 1 ∨ kd = 2 ∨ kd = 3) (d1 : 1 ≤ d) (d2 : d ≤ 2000) (mn1 : 1 ≤ mn) (mn2 : mn ≤ 2000) (b1 : 0 ≤ c0.2.1) (b2 : c0.2.1 ≤ 4) (hk : hOk v.1) (m1 : 0 ≤ v.2.2.1) (m2 : v.2.2.1 ≤ 120) : XM l s0 D y_Mo_tellFar prog_13_method_21_code 7 none 1 0 0 [.ref (s0.heap.size + 33), .int (zI kd), .int (zI mn), .int (zI d), .int (zI (k : Int))] (sM s0.heap.size cI h κ (c0, v)) (K) (PR none (sM s0.heap.size cI h κ (mTF kd mn d k (c0, v))) K) := by
  refine XM.of (cI := cI) (cL := cL) (own := "NarrowingPackerModel") (by decide) rfl E.2 (nle rfl) ?_
  intro p e s m below meth c C hn
  have hn := hk.2.1
  refine x_aload_n C d_Mo_tellFar_0 rfl ?_
  refine x_get C (G_Mo E.1) 15 (u_779 E.1) d_Mo_tellFar_1 (by decide) (by rfl) (show _ = some (.int (zI c0.2.1)) from rfl) ?_
  refine x_if_ne C (tgt := 20) d_Mo_tellFar_4 (by decide) (by omega) (by omega) (fun c4 => ?_) (fun c4 => ?_)
  · first
      | (refine XW.heq (h' := sM s0.heap.size cI h κ (mSet c0 3, v)) (sM_eq rfl rfl rfl rfl rfl rfl rfl rfl (fun q q1 q2 q3 q4 q5 q6 q7 q8 => by simp only [sM, a_up, beq_f q1, beq_f q2, beq_f q3, beq_f q4, beq_f q5, beq_f q6, beq_f q7, beq_f q8, cond_false])) ?_
         have e : mTF kd mn d k (c0, v) = mTF2 kd mn d k (mSet c0 3, v) := by
           show mTF2 kd mn d k (if c0.2.1 = 0 ∧ v.1.2.1 < d then (mSet c0 3, v) else (c0, v)) = _
           rw [if_pos (by omega)]
         rw [e]
         exact t20_Mo_tellFar l E C rfl (c0 := mSet c0 3) k k3 hkd d1 d2 mn1 mn2 (by show (0 : Int) ≤ 3; decide) (by show (3 : Int) ≤ 4; decide) hk m1 m2 (Or.inl (by show (0 : Int) < 3; decide)))
      | (have e : mTF kd mn d k (c0, v) = mTF2 kd mn d k (c0, v) := by
           show mTF2 kd mn d k (if c0.2.1 = 0 ∧ v.1.2.1 < d then (mSet c0 3, v) else (c0, v)) = _
           rw [if_neg (by omega)]
         rw [e]
         exact t20_Mo_tellFar l E C rfl k k3 hkd d1 d2 mn1 mn2 b1 b2 hk m1 m2 (by omega))
  · refine x_iload_n C d_Mo_tellFar_7 rfl ?_
    refine x_aload_n C d_Mo_tellFar_8 rfl ?_
    refine x_get C (G_Mo E.1) 22 (u_786 E.1) d_Mo_tellFar_9 (by decide) (by rfl) (show _ = some (.int (zI v.1.2.1)) from rfl) ?_
    refine x_icmp_le C (tgt := 20) d_Mo_tellFar_12 (by decide) (by omega) (by omega) (by omega) (by omega) (fun c12 => ?_) (fun c12 => ?_)
    · first
        | (refine XW.heq (h' := sM s0.heap.size cI h κ (mSet c0 3, v)) (sM_eq rfl rfl rfl rfl rfl rfl rfl rfl (fun q q1 q2 q3 q4 q5 q6 q7 q8 => by simp only [sM, a_up, beq_f q1, beq_f q2, beq_f q3, beq_f q4, beq_f q5, beq_f q6, beq_f q7, beq_f q8, cond_false])) ?_
           have e : mTF kd mn d k (c0, v) = mTF2 kd mn d k (mSet c0 3, v) := by
             show mTF2 kd mn d k (if c0.2.1 = 0 ∧ v.1.2.1 < d then (mSet c0 3, v) else (c0, v)) = _
             rw [if_pos (by omega)]
           rw [e]
           exact t20_Mo_tellFar l E C rfl (c0 := mSet c0 3) k k3 hkd d1 d2 mn1 mn2 (by show (0 : Int) ≤ 3; decide) (by show (3 : Int) ≤ 4; decide) hk m1 m2 (Or.inl (by show (0 : Int) < 3; decide)))
        | (have e : mTF kd mn d k (c0, v) = mTF2 kd mn d k (c0, v) := by
             show mTF2 kd mn d k (if c0.2.1 = 0 ∧ v.1.2.1 < d then (mSet c0 3, v) else (c0, v)) = _
             rw [if_neg (by omega)]
           rw [e]
           exact t20_Mo_tellFar l E C rfl k k3 hkd d1 d2 mn1 mn2 b1 b2 hk m1 m2 (by omega))
    · refine x_aload_n C d_Mo_tellFar_15 rfl ?_
      refine x_iconst C d_Mo_tellFar_16 ?_
      refine x_put C (G_Mo E.1) 15 (u_779 E.1) d_Mo_tellFar_17 (by decide) rfl (by rfl) rfl rfl (nle rfl) ?_
      first
        | (refine XW.heq (h' := sM s0.heap.size cI h κ (mSet c0 3, v)) (sM_eq rfl rfl rfl rfl rfl rfl rfl rfl (fun q q1 q2 q3 q4 q5 q6 q7 q8 => by simp only [sM, a_up, beq_f q1, beq_f q2, beq_f q3, beq_f q4, beq_f q5, beq_f q6, beq_f q7, beq_f q8, cond_false])) ?_
           have e : mTF kd mn d k (c0, v) = mTF2 kd mn d k (mSet c0 3, v) := by
             show mTF2 kd mn d k (if c0.2.1 = 0 ∧ v.1.2.1 < d then (mSet c0 3, v) else (c0, v)) = _
             rw [if_pos (by omega)]
           rw [e]
           exact t20_Mo_tellFar l E C rfl (c0 := mSet c0 3) k k3 hkd d1 d2 mn1 mn2 (by show (0 : Int) ≤ 3; decide) (by show (3 : Int) ≤ 4; decide) hk m1 m2 (Or.inl (by show (0 : Int) < 3; decide)))
        | (have e : mTF kd mn d k (c0, v) = mTF2 kd mn d k (c0, v) := by
             show mTF2 kd mn d k (if c0.2.1 = 0 ∧ v.1.2.1 < d then (mSet c0 3, v) else (c0, v)) = _
             rw [if_neg (by omega)]
           rw [e]
           exact t20_Mo_tellFar l E C rfl k k3 hkd d1 d2 mn1 mn2 b1 b2 hk m1 m2 (by omega))

