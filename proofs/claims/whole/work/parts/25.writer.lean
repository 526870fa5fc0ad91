/-! packets into bits: lengths, matches, echoes, END; the writer's object at 22 -/
abbrev oWr (b : Nat) : va_E := .inr (9, [.ref (b + 23)])
def hbL : Nat → Nat → Int → Int → Int
  | 0, _, _, q => q
  | r + 1, k, d, q => hbL r (k + 1) d (if 0 < d / 2 ^ k then (k : Int) else q)
theorem hbL_all : ∀ d : Fin 256, hbL 7 1 (d.val : Int) 0 = (hbZ (d.val : Int) : Int) := by decide +kernel
theorem hbL_eq {d : Int} (d1 : 0 ≤ d) (d2 : d < 256) : hbL 7 1 d 0 = (hbZ d : Int) := by
  have h1 := hbL_all ⟨d.toNat, by omega⟩
  have e : ((d.toNat : Nat) : Int) = d := by omega
  simp only [e] at h1
  exact h1
set_option maxRecDepth 100000 in
set_option maxHeartbeats 4000000 in
theorem lp_Wr_bits {a0 : Array Value} {s0 : State} {D : va_G} {cI cL : ClassId} (l : Launch) (E : a_E a0 s0 D cI cL) {p : Program} {e : Env} {R : Room} {s : State} {m : MethodId} {args : Array Value} {below : List Frame} {meth : Method} {c : Code} (C : XC s0 D cI cL p s m meth c "NarrowingPacker$PacketWriter" prog_11_method_8_code 3 (some .int) []) {h : AH} {K : Nat} {d X : Int} (d1 : 0 ≤ d) (d2 : d < 256) : ∀ (r k : Nat) (q : Int), r + k = 8 → hbL r k d q = X → XW s0 D p l e R s m args below meth c (XQ s0 D 0 0 (PR (some (.int (zI X))) h K) below s) 4 [(0, .int (zI d)), (1, .int (zI q)), (2, .int (zI ((k : Nat) : Int)))] [] h K 0 0 := by
  intro r
  induction r with
  | zero =>
    intro k q hk hX
    have hX : q = X := hX
    subst hX
    refine x_iload_n C d_Wr_bitsBelowHighest_4 rfl ?_
    refine x_bipush C d_Wr_bitsBelowHighest_5 (by decide) ?_
    refine x_icmp_ge C (tgt := 24) d_Wr_bitsBelowHighest_7 (by decide) (by omega) (by omega) (by omega) (by omega) (fun c7 => ?_) (fun c7 => ?_)
    · refine x_iload_n C d_Wr_bitsBelowHighest_24 rfl ?_
      exact x_iret C d_Wr_bitsBelowHighest_25 (nle rfl) (nle rfl) ⟨rfl, rfl, rfl⟩
    · exfalso; omega
  | succ r ih =>
    intro k q hk hX
    unfold hbL at hX
    have hdk : 0 ≤ d / 2 ^ k := Int.ediv_nonneg d1 (Int.le_of_lt (Int.pow_pos (by decide)))
    have hdl : d / 2 ^ k ≤ d := Int.ediv_le_self _ d1
    refine x_iload_n C d_Wr_bitsBelowHighest_4 rfl ?_
    refine x_bipush C d_Wr_bitsBelowHighest_5 (by decide) ?_
    refine x_icmp_ge C (tgt := 24) d_Wr_bitsBelowHighest_7 (by decide) (by omega) (by omega) (by omega) (by omega) (fun c7 => ?_) (fun c7 => ?_)
    · exfalso; omega
    · refine x_iload_n C d_Wr_bitsBelowHighest_10 rfl ?_
      refine x_iload_n C d_Wr_bitsBelowHighest_11 rfl ?_
      refine x_ishr C (q := 2 ^ k) k d_Wr_bitsBelowHighest_12 rfl rfl (by omega) (by omega) (by omega) ?_
      refine x_if_le C (tgt := 18) d_Wr_bitsBelowHighest_13 (by decide) (by omega) (by omega) (fun c13 => ?_) (fun c13 => ?_)
      · refine x_iinc C d_Wr_bitsBelowHighest_18 (by decide) rfl ?_
        refine x_goto C (tgt := 4) d_Wr_bitsBelowHighest_21 (by decide) ?_
        first
          | (rw [if_pos c13] at hX
             refine XW.loc (lv' := [(0, .int (zI d)), (1, .int (zI (k : Int))), (2, .int (zI ((k + 1 : Nat) : Int)))]) ⟨rfl, rfl, by rw [show ((k + 1 : Nat) : Int) = (k : Int) + 1 by omega]; rfl, trivial⟩ ?_
             exact ih _ _ (by omega) hX)
          | (rw [if_neg (by omega)] at hX
             refine XW.loc (lv' := [(0, .int (zI d)), (1, .int (zI q)), (2, .int (zI ((k + 1 : Nat) : Int)))]) ⟨rfl, rfl, by rw [show ((k + 1 : Nat) : Int) = (k : Int) + 1 by omega]; rfl, trivial⟩ ?_
             exact ih _ _ (by omega) hX)
      · refine x_iload_n C d_Wr_bitsBelowHighest_16 rfl ?_
        refine x_istore_n C d_Wr_bitsBelowHighest_17 (by decide) ?_
        refine x_iinc C d_Wr_bitsBelowHighest_18 (by decide) rfl ?_
        refine x_goto C (tgt := 4) d_Wr_bitsBelowHighest_21 (by decide) ?_
        first
          | (rw [if_pos c13] at hX
             refine XW.loc (lv' := [(0, .int (zI d)), (1, .int (zI (k : Int))), (2, .int (zI ((k + 1 : Nat) : Int)))]) ⟨rfl, rfl, by rw [show ((k + 1 : Nat) : Int) = (k : Int) + 1 by omega]; rfl, trivial⟩ ?_
             exact ih _ _ (by omega) hX)
          | (rw [if_neg (by omega)] at hX
             refine XW.loc (lv' := [(0, .int (zI d)), (1, .int (zI q)), (2, .int (zI ((k + 1 : Nat) : Int)))]) ⟨rfl, rfl, by rw [show ((k + 1 : Nat) : Int) = (k : Int) + 1 by omega]; rfl, trivial⟩ ?_
             exact ih _ _ (by omega) hX)
set_option maxRecDepth 100000 in
set_option maxHeartbeats 4000000 in
theorem c_Wr_bitsBelowHighest {a0 : Array Value} {s0 : State} {D : va_G} {cI cL : ClassId} (l : Launch) (E : a_E a0 s0 D cI cL) {h : AH} {K : Nat} {d : Int} (d1 : 0 ≤ d) (d2 : d < 256) : XM l s0 D y_Wr_bitsBelowHighest prog_11_method_8_code 3 (some .int) 0 0 0 [.int (zI d)] (h) (K) (PR (some (.int (zI (hbZ d : Int)))) h K) := by
  refine XM.of (cI := cI) (cL := cL) (own := "NarrowingPacker$PacketWriter") (by decide) rfl E.2 (nle rfl) ?_
  intro p e s m below meth c C hn
  refine x_iconst C d_Wr_bitsBelowHighest_0 ?_
  refine x_istore_n C d_Wr_bitsBelowHighest_1 (by decide) ?_
  refine x_iconst C d_Wr_bitsBelowHighest_2 ?_
  refine x_istore_n C d_Wr_bitsBelowHighest_3 (by decide) ?_
  refine XW.loc (lv' := [(0, .int (zI d)), (1, .int (zI 0)), (2, .int (zI ((1 : Nat) : Int)))]) ⟨rfl, rfl, rfl, trivial⟩ ?_
  exact lp_Wr_bits l E C d1 d2 7 1 0 rfl (hbL_eq d1 d2)

set_option maxRecDepth 100000 in
set_option maxHeartbeats 4000000 in
theorem c_Wr_writeLength {a0 : Array Value} {s0 : State} {D : va_G} {cI cL : ClassId} (l : Launch) (E : a_E a0 s0 D cI cL) {h : AH} {K : Nat} {x : En} (h22 : h 22 = some (oWr s0.heap.size)) (h24 : h 24 = some (oCh s0.heap.size 25)) (ok : eOk x) (lx : x.2.2.1 < 98000) {pl v : Int} (p1 : 0 ≤ pl) (p2 : pl + 146 ≤ 3820) (v1 : 0 ≤ v) (v2 : v < 144) : XM l s0 D y_Wr_writeLength prog_11_method_7_code 3 none 3 0 0 [.ref (s0.heap.size + 22), .int (zI pl), .int (zI v)] (sN s0.heap.size cI h x) (K) (PR none (sN s0.heap.size cI h (eLen pl v x)) K) := by
  refine XM.of (cI := cI) (cL := cL) (own := "NarrowingPacker$PacketWriter") (by decide) rfl E.2 (nle rfl) ?_
  intro p e s m below meth c C hn
  refine x_aload_n C d_Wr_writeLength_0 rfl ?_
  refine x_get C (G_Wr E.1) 0 (u_204 E.1) d_Wr_writeLength_1 (by decide) (by exact h22) rfl ?_
  refine x_iload_n C d_Wr_writeLength_4 rfl ?_
  refine x_iload_n C d_Wr_writeLength_5 rfl ?_
  refine x_bipush C d_Wr_writeLength_6 (by decide) ?_
  refine x_icmp_ge C (tgt := 15) d_Wr_writeLength_8 (by decide) (by omega) (by omega) (by omega) (by omega) (fun c8 => ?_) (fun c8 => ?_)
  · refine x_iconst C d_Wr_writeLength_15 ?_
    refine x_callVR C (G_Na E.1) (u_426 E.1) (u_427 E.1) (u_428 E.1) (u_429 E.1) (u_9 E.1) d_Wr_writeLength_16 (c_Na_writeBit l E h24 ok (by omega) (by omega) (by omega) (by omega)) nh_Na_writeBit ln_Na_writeBit rfl rfl (nle rfl) (nle rfl) (nle rfl) (nle rfl) (nle rfl) ?_
    refine x_iload_n C d_Wr_writeLength_19 rfl ?_
    refine x_bipush C d_Wr_writeLength_20 (by decide) ?_
    refine x_icmp_ge C (tgt := 38) d_Wr_writeLength_22 (by decide) (by omega) (by omega) (by omega) (by omega) (fun c22 => ?_) (fun c22 => ?_)
    · refine x_aload_n C d_Wr_writeLength_38 rfl ?_
      refine x_get C (G_Wr E.1) 0 (u_204 E.1) d_Wr_writeLength_39 (by decide) (by exact h22) rfl ?_
      refine x_iload_n C d_Wr_writeLength_42 rfl ?_
      refine x_iconst C d_Wr_writeLength_43 ?_
      refine x_iadd C d_Wr_writeLength_44 ?_
      refine x_iload_n C d_Wr_writeLength_45 rfl ?_
      refine x_bipush C d_Wr_writeLength_46 (by decide) ?_
      refine x_icmp_ge C (tgt := 55) d_Wr_writeLength_48 (by decide) (by omega) (by omega) (by omega) (by omega) (fun c48 => ?_) (fun c48 => ?_)
      · refine x_iconst C d_Wr_writeLength_55 ?_
        refine x_callVR C (G_Na E.1) (u_426 E.1) (u_427 E.1) (u_428 E.1) (u_429 E.1) (u_9 E.1) d_Wr_writeLength_56 (c_Na_writeBit l E h24 (eOk_bit ok _ _) (by have := len_bit x pl 1; omega) (by omega) (by omega) (by omega)) nh_Na_writeBit ln_Na_writeBit rfl rfl (nle rfl) (nle rfl) (nle rfl) (nle rfl) (nle rfl) ?_
        refine x_iload_n C d_Wr_writeLength_59 rfl ?_
        refine x_bipush C d_Wr_writeLength_60 (by decide) ?_
        refine x_icmp_ge C (tgt := 84) d_Wr_writeLength_62 (by decide) (by omega) (by omega) (by omega) (by omega) (fun c62 => ?_) (fun c62 => ?_)
        · refine x_aload_n C d_Wr_writeLength_84 rfl ?_
          refine x_get C (G_Wr E.1) 0 (u_204 E.1) d_Wr_writeLength_85 (by decide) (by exact h22) rfl ?_
          refine x_iload_n C d_Wr_writeLength_88 rfl ?_
          refine x_bipush C d_Wr_writeLength_89 (by decide) ?_
          refine x_iadd C d_Wr_writeLength_91 ?_
          refine x_bipush C d_Wr_writeLength_92 (by decide) ?_
          refine x_iload_n C d_Wr_writeLength_94 rfl ?_
          refine x_bipush C d_Wr_writeLength_95 (by decide) ?_
          refine x_isub C d_Wr_writeLength_97 ?_
          refine x_callVR C (G_Na E.1) (u_472 E.1) (u_473 E.1) (u_474 E.1) (u_475 E.1) (u_9 E.1) d_Wr_writeLength_98 (c_Na_writeTree l E h24 (eOk_bit (eOk_bit ok _ _) _ _) (by have := len_bit x pl 1; have := len_bit (eBit x pl 1) (pl + 1) 1; omega) 7 (by omega) (by omega) (by omega) (by omega) (by omega)) nh_Na_writeTree ln_Na_writeTree rfl rfl (nle rfl) (nle rfl) (nle rfl) (nle rfl) (nle rfl) ?_
          exact x_vret C d_Wr_writeLength_101 (nle rfl) (nle rfl) ⟨rfl, by
  first
    | (exfalso; omega)
    | (unfold eLen; rw [if_pos (by omega)]; done)
    | (unfold eLen; rw [if_neg (by omega), if_pos (by omega)]; done)
    | (unfold eLen; rw [if_neg (by omega), if_neg (by omega)]; done), rfl⟩
        · refine x_aload_n C d_Wr_writeLength_65 rfl ?_
          refine x_get C (G_Wr E.1) 0 (u_204 E.1) d_Wr_writeLength_66 (by decide) (by exact h22) rfl ?_
          refine x_iload_n C d_Wr_writeLength_69 rfl ?_
          refine x_bipush C d_Wr_writeLength_70 (by decide) ?_
          refine x_iadd C d_Wr_writeLength_72 ?_
          refine x_iconst C d_Wr_writeLength_73 ?_
          refine x_iload_n C d_Wr_writeLength_74 rfl ?_
          refine x_bipush C d_Wr_writeLength_75 (by decide) ?_
          refine x_isub C d_Wr_writeLength_77 ?_
          refine x_callVR C (G_Na E.1) (u_472 E.1) (u_473 E.1) (u_474 E.1) (u_475 E.1) (u_9 E.1) d_Wr_writeLength_78 (c_Na_writeTree l E h24 (eOk_bit (eOk_bit ok _ _) _ _) (by have := len_bit x pl 1; have := len_bit (eBit x pl 1) (pl + 1) 0; omega) 3 (by omega) (by omega) (by omega) (by omega) (by omega)) nh_Na_writeTree ln_Na_writeTree rfl rfl (nle rfl) (nle rfl) (nle rfl) (nle rfl) (nle rfl) ?_
          refine x_goto C (tgt := 101) d_Wr_writeLength_81 (by decide) ?_
          exact x_vret C d_Wr_writeLength_101 (nle rfl) (nle rfl) ⟨rfl, by
  first
    | (exfalso; omega)
    | (unfold eLen; rw [if_pos (by omega)]; done)
    | (unfold eLen; rw [if_neg (by omega), if_pos (by omega)]; done)
    | (unfold eLen; rw [if_neg (by omega), if_neg (by omega)]; done), rfl⟩
      · refine x_iconst C d_Wr_writeLength_51 ?_
        refine x_goto C (tgt := 56) d_Wr_writeLength_52 (by decide) ?_
        refine x_callVR C (G_Na E.1) (u_426 E.1) (u_427 E.1) (u_428 E.1) (u_429 E.1) (u_9 E.1) d_Wr_writeLength_56 (c_Na_writeBit l E h24 (eOk_bit ok _ _) (by have := len_bit x pl 1; omega) (by omega) (by omega) (by omega)) nh_Na_writeBit ln_Na_writeBit rfl rfl (nle rfl) (nle rfl) (nle rfl) (nle rfl) (nle rfl) ?_
        refine x_iload_n C d_Wr_writeLength_59 rfl ?_
        refine x_bipush C d_Wr_writeLength_60 (by decide) ?_
        refine x_icmp_ge C (tgt := 84) d_Wr_writeLength_62 (by decide) (by omega) (by omega) (by omega) (by omega) (fun c62 => ?_) (fun c62 => ?_)
        · refine x_aload_n C d_Wr_writeLength_84 rfl ?_
          refine x_get C (G_Wr E.1) 0 (u_204 E.1) d_Wr_writeLength_85 (by decide) (by exact h22) rfl ?_
          refine x_iload_n C d_Wr_writeLength_88 rfl ?_
          refine x_bipush C d_Wr_writeLength_89 (by decide) ?_
          refine x_iadd C d_Wr_writeLength_91 ?_
          refine x_bipush C d_Wr_writeLength_92 (by decide) ?_
          refine x_iload_n C d_Wr_writeLength_94 rfl ?_
          refine x_bipush C d_Wr_writeLength_95 (by decide) ?_
          refine x_isub C d_Wr_writeLength_97 ?_
          refine x_callVR C (G_Na E.1) (u_472 E.1) (u_473 E.1) (u_474 E.1) (u_475 E.1) (u_9 E.1) d_Wr_writeLength_98 (c_Na_writeTree l E h24 (eOk_bit (eOk_bit ok _ _) _ _) (by have := len_bit x pl 1; have := len_bit (eBit x pl 1) (pl + 1) 1; omega) 7 (by omega) (by omega) (by omega) (by omega) (by omega)) nh_Na_writeTree ln_Na_writeTree rfl rfl (nle rfl) (nle rfl) (nle rfl) (nle rfl) (nle rfl) ?_
          exact x_vret C d_Wr_writeLength_101 (nle rfl) (nle rfl) ⟨rfl, by
  first
    | (exfalso; omega)
    | (unfold eLen; rw [if_pos (by omega)]; done)
    | (unfold eLen; rw [if_neg (by omega), if_pos (by omega)]; done)
    | (unfold eLen; rw [if_neg (by omega), if_neg (by omega)]; done), rfl⟩
        · refine x_aload_n C d_Wr_writeLength_65 rfl ?_
          refine x_get C (G_Wr E.1) 0 (u_204 E.1) d_Wr_writeLength_66 (by decide) (by exact h22) rfl ?_
          refine x_iload_n C d_Wr_writeLength_69 rfl ?_
          refine x_bipush C d_Wr_writeLength_70 (by decide) ?_
          refine x_iadd C d_Wr_writeLength_72 ?_
          refine x_iconst C d_Wr_writeLength_73 ?_
          refine x_iload_n C d_Wr_writeLength_74 rfl ?_
          refine x_bipush C d_Wr_writeLength_75 (by decide) ?_
          refine x_isub C d_Wr_writeLength_77 ?_
          refine x_callVR C (G_Na E.1) (u_472 E.1) (u_473 E.1) (u_474 E.1) (u_475 E.1) (u_9 E.1) d_Wr_writeLength_78 (c_Na_writeTree l E h24 (eOk_bit (eOk_bit ok _ _) _ _) (by have := len_bit x pl 1; have := len_bit (eBit x pl 1) (pl + 1) 0; omega) 3 (by omega) (by omega) (by omega) (by omega) (by omega)) nh_Na_writeTree ln_Na_writeTree rfl rfl (nle rfl) (nle rfl) (nle rfl) (nle rfl) (nle rfl) ?_
          refine x_goto C (tgt := 101) d_Wr_writeLength_81 (by decide) ?_
          exact x_vret C d_Wr_writeLength_101 (nle rfl) (nle rfl) ⟨rfl, by
  first
    | (exfalso; omega)
    | (unfold eLen; rw [if_pos (by omega)]; done)
    | (unfold eLen; rw [if_neg (by omega), if_pos (by omega)]; done)
    | (unfold eLen; rw [if_neg (by omega), if_neg (by omega)]; done), rfl⟩
    · refine x_aload_n C d_Wr_writeLength_25 rfl ?_
      refine x_get C (G_Wr E.1) 0 (u_204 E.1) d_Wr_writeLength_26 (by decide) (by exact h22) rfl ?_
      refine x_iload_n C d_Wr_writeLength_29 rfl ?_
      refine x_iconst C d_Wr_writeLength_30 ?_
      refine x_iadd C d_Wr_writeLength_31 ?_
      refine x_iconst C d_Wr_writeLength_32 ?_
      refine x_iload_n C d_Wr_writeLength_33 rfl ?_
      refine x_callVR C (G_Na E.1) (u_472 E.1) (u_473 E.1) (u_474 E.1) (u_475 E.1) (u_9 E.1) d_Wr_writeLength_34 (c_Na_writeTree l E h24 (eOk_bit ok _ _) (by have := len_bit x pl 0; omega) 3 (by omega) (by omega) (by omega) (by omega) (by omega)) nh_Na_writeTree ln_Na_writeTree rfl rfl (nle rfl) (nle rfl) (nle rfl) (nle rfl) (nle rfl) ?_
      exact x_vret C d_Wr_writeLength_37 (nle rfl) (nle rfl) ⟨rfl, by
  first
    | (exfalso; omega)
    | (unfold eLen; rw [if_pos (by omega)]; done)
    | (unfold eLen; rw [if_neg (by omega), if_pos (by omega)]; done)
    | (unfold eLen; rw [if_neg (by omega), if_neg (by omega)]; done), rfl⟩
  · refine x_iconst C d_Wr_writeLength_11 ?_
    refine x_goto C (tgt := 16) d_Wr_writeLength_12 (by decide) ?_
    refine x_callVR C (G_Na E.1) (u_426 E.1) (u_427 E.1) (u_428 E.1) (u_429 E.1) (u_9 E.1) d_Wr_writeLength_16 (c_Na_writeBit l E h24 ok (by omega) (by omega) (by omega) (by omega)) nh_Na_writeBit ln_Na_writeBit rfl rfl (nle rfl) (nle rfl) (nle rfl) (nle rfl) (nle rfl) ?_
    refine x_iload_n C d_Wr_writeLength_19 rfl ?_
    refine x_bipush C d_Wr_writeLength_20 (by decide) ?_
    refine x_icmp_ge C (tgt := 38) d_Wr_writeLength_22 (by decide) (by omega) (by omega) (by omega) (by omega) (fun c22 => ?_) (fun c22 => ?_)
    · refine x_aload_n C d_Wr_writeLength_38 rfl ?_
      refine x_get C (G_Wr E.1) 0 (u_204 E.1) d_Wr_writeLength_39 (by decide) (by exact h22) rfl ?_
      refine x_iload_n C d_Wr_writeLength_42 rfl ?_
      refine x_iconst C d_Wr_writeLength_43 ?_
      refine x_iadd C d_Wr_writeLength_44 ?_
      refine x_iload_n C d_Wr_writeLength_45 rfl ?_
      refine x_bipush C d_Wr_writeLength_46 (by decide) ?_
      refine x_icmp_ge C (tgt := 55) d_Wr_writeLength_48 (by decide) (by omega) (by omega) (by omega) (by omega) (fun c48 => ?_) (fun c48 => ?_)
      · refine x_iconst C d_Wr_writeLength_55 ?_
        refine x_callVR C (G_Na E.1) (u_426 E.1) (u_427 E.1) (u_428 E.1) (u_429 E.1) (u_9 E.1) d_Wr_writeLength_56 (c_Na_writeBit l E h24 (eOk_bit ok _ _) (by have := len_bit x pl 1; omega) (by omega) (by omega) (by omega)) nh_Na_writeBit ln_Na_writeBit rfl rfl (nle rfl) (nle rfl) (nle rfl) (nle rfl) (nle rfl) ?_
        refine x_iload_n C d_Wr_writeLength_59 rfl ?_
        refine x_bipush C d_Wr_writeLength_60 (by decide) ?_
        refine x_icmp_ge C (tgt := 84) d_Wr_writeLength_62 (by decide) (by omega) (by omega) (by omega) (by omega) (fun c62 => ?_) (fun c62 => ?_)
        · refine x_aload_n C d_Wr_writeLength_84 rfl ?_
          refine x_get C (G_Wr E.1) 0 (u_204 E.1) d_Wr_writeLength_85 (by decide) (by exact h22) rfl ?_
          refine x_iload_n C d_Wr_writeLength_88 rfl ?_
          refine x_bipush C d_Wr_writeLength_89 (by decide) ?_
          refine x_iadd C d_Wr_writeLength_91 ?_
          refine x_bipush C d_Wr_writeLength_92 (by decide) ?_
          refine x_iload_n C d_Wr_writeLength_94 rfl ?_
          refine x_bipush C d_Wr_writeLength_95 (by decide) ?_
          refine x_isub C d_Wr_writeLength_97 ?_
          refine x_callVR C (G_Na E.1) (u_472 E.1) (u_473 E.1) (u_474 E.1) (u_475 E.1) (u_9 E.1) d_Wr_writeLength_98 (c_Na_writeTree l E h24 (eOk_bit (eOk_bit ok _ _) _ _) (by have := len_bit x pl 1; have := len_bit (eBit x pl 1) (pl + 1) 1; omega) 7 (by omega) (by omega) (by omega) (by omega) (by omega)) nh_Na_writeTree ln_Na_writeTree rfl rfl (nle rfl) (nle rfl) (nle rfl) (nle rfl) (nle rfl) ?_
          exact x_vret C d_Wr_writeLength_101 (nle rfl) (nle rfl) ⟨rfl, by
  first
    | (exfalso; omega)
    | (unfold eLen; rw [if_pos (by omega)]; done)
    | (unfold eLen; rw [if_neg (by omega), if_pos (by omega)]; done)
    | (unfold eLen; rw [if_neg (by omega), if_neg (by omega)]; done), rfl⟩
        · refine x_aload_n C d_Wr_writeLength_65 rfl ?_
          refine x_get C (G_Wr E.1) 0 (u_204 E.1) d_Wr_writeLength_66 (by decide) (by exact h22) rfl ?_
          refine x_iload_n C d_Wr_writeLength_69 rfl ?_
          refine x_bipush C d_Wr_writeLength_70 (by decide) ?_
          refine x_iadd C d_Wr_writeLength_72 ?_
          refine x_iconst C d_Wr_writeLength_73 ?_
          refine x_iload_n C d_Wr_writeLength_74 rfl ?_
          refine x_bipush C d_Wr_writeLength_75 (by decide) ?_
          refine x_isub C d_Wr_writeLength_77 ?_
          refine x_callVR C (G_Na E.1) (u_472 E.1) (u_473 E.1) (u_474 E.1) (u_475 E.1) (u_9 E.1) d_Wr_writeLength_78 (c_Na_writeTree l E h24 (eOk_bit (eOk_bit ok _ _) _ _) (by have := len_bit x pl 1; have := len_bit (eBit x pl 1) (pl + 1) 0; omega) 3 (by omega) (by omega) (by omega) (by omega) (by omega)) nh_Na_writeTree ln_Na_writeTree rfl rfl (nle rfl) (nle rfl) (nle rfl) (nle rfl) (nle rfl) ?_
          refine x_goto C (tgt := 101) d_Wr_writeLength_81 (by decide) ?_
          exact x_vret C d_Wr_writeLength_101 (nle rfl) (nle rfl) ⟨rfl, by
  first
    | (exfalso; omega)
    | (unfold eLen; rw [if_pos (by omega)]; done)
    | (unfold eLen; rw [if_neg (by omega), if_pos (by omega)]; done)
    | (unfold eLen; rw [if_neg (by omega), if_neg (by omega)]; done), rfl⟩
      · refine x_iconst C d_Wr_writeLength_51 ?_
        refine x_goto C (tgt := 56) d_Wr_writeLength_52 (by decide) ?_
        refine x_callVR C (G_Na E.1) (u_426 E.1) (u_427 E.1) (u_428 E.1) (u_429 E.1) (u_9 E.1) d_Wr_writeLength_56 (c_Na_writeBit l E h24 (eOk_bit ok _ _) (by have := len_bit x pl 1; omega) (by omega) (by omega) (by omega)) nh_Na_writeBit ln_Na_writeBit rfl rfl (nle rfl) (nle rfl) (nle rfl) (nle rfl) (nle rfl) ?_
        refine x_iload_n C d_Wr_writeLength_59 rfl ?_
        refine x_bipush C d_Wr_writeLength_60 (by decide) ?_
        refine x_icmp_ge C (tgt := 84) d_Wr_writeLength_62 (by decide) (by omega) (by omega) (by omega) (by omega) (fun c62 => ?_) (fun c62 => ?_)
        · refine x_aload_n C d_Wr_writeLength_84 rfl ?_
          refine x_get C (G_Wr E.1) 0 (u_204 E.1) d_Wr_writeLength_85 (by decide) (by exact h22) rfl ?_
          refine x_iload_n C d_Wr_writeLength_88 rfl ?_
          refine x_bipush C d_Wr_writeLength_89 (by decide) ?_
          refine x_iadd C d_Wr_writeLength_91 ?_
          refine x_bipush C d_Wr_writeLength_92 (by decide) ?_
          refine x_iload_n C d_Wr_writeLength_94 rfl ?_
          refine x_bipush C d_Wr_writeLength_95 (by decide) ?_
          refine x_isub C d_Wr_writeLength_97 ?_
          refine x_callVR C (G_Na E.1) (u_472 E.1) (u_473 E.1) (u_474 E.1) (u_475 E.1) (u_9 E.1) d_Wr_writeLength_98 (c_Na_writeTree l E h24 (eOk_bit (eOk_bit ok _ _) _ _) (by have := len_bit x pl 1; have := len_bit (eBit x pl 1) (pl + 1) 1; omega) 7 (by omega) (by omega) (by omega) (by omega) (by omega)) nh_Na_writeTree ln_Na_writeTree rfl rfl (nle rfl) (nle rfl) (nle rfl) (nle rfl) (nle rfl) ?_
          exact x_vret C d_Wr_writeLength_101 (nle rfl) (nle rfl) ⟨rfl, by
  first
    | (exfalso; omega)
    | (unfold eLen; rw [if_pos (by omega)]; done)
    | (unfold eLen; rw [if_neg (by omega), if_pos (by omega)]; done)
    | (unfold eLen; rw [if_neg (by omega), if_neg (by omega)]; done), rfl⟩
        · refine x_aload_n C d_Wr_writeLength_65 rfl ?_
          refine x_get C (G_Wr E.1) 0 (u_204 E.1) d_Wr_writeLength_66 (by decide) (by exact h22) rfl ?_
          refine x_iload_n C d_Wr_writeLength_69 rfl ?_
          refine x_bipush C d_Wr_writeLength_70 (by decide) ?_
          refine x_iadd C d_Wr_writeLength_72 ?_
          refine x_iconst C d_Wr_writeLength_73 ?_
          refine x_iload_n C d_Wr_writeLength_74 rfl ?_
          refine x_bipush C d_Wr_writeLength_75 (by decide) ?_
          refine x_isub C d_Wr_writeLength_77 ?_
          refine x_callVR C (G_Na E.1) (u_472 E.1) (u_473 E.1) (u_474 E.1) (u_475 E.1) (u_9 E.1) d_Wr_writeLength_78 (c_Na_writeTree l E h24 (eOk_bit (eOk_bit ok _ _) _ _) (by have := len_bit x pl 1; have := len_bit (eBit x pl 1) (pl + 1) 0; omega) 3 (by omega) (by omega) (by omega) (by omega) (by omega)) nh_Na_writeTree ln_Na_writeTree rfl rfl (nle rfl) (nle rfl) (nle rfl) (nle rfl) (nle rfl) ?_
          refine x_goto C (tgt := 101) d_Wr_writeLength_81 (by decide) ?_
          exact x_vret C d_Wr_writeLength_101 (nle rfl) (nle rfl) ⟨rfl, by
  first
    | (exfalso; omega)
    | (unfold eLen; rw [if_pos (by omega)]; done)
    | (unfold eLen; rw [if_neg (by omega), if_pos (by omega)]; done)
    | (unfold eLen; rw [if_neg (by omega), if_neg (by omega)]; done), rfl⟩
    · refine x_aload_n C d_Wr_writeLength_25 rfl ?_
      refine x_get C (G_Wr E.1) 0 (u_204 E.1) d_Wr_writeLength_26 (by decide) (by exact h22) rfl ?_
      refine x_iload_n C d_Wr_writeLength_29 rfl ?_
      refine x_iconst C d_Wr_writeLength_30 ?_
      refine x_iadd C d_Wr_writeLength_31 ?_
      refine x_iconst C d_Wr_writeLength_32 ?_
      refine x_iload_n C d_Wr_writeLength_33 rfl ?_
      refine x_callVR C (G_Na E.1) (u_472 E.1) (u_473 E.1) (u_474 E.1) (u_475 E.1) (u_9 E.1) d_Wr_writeLength_34 (c_Na_writeTree l E h24 (eOk_bit ok _ _) (by have := len_bit x pl 0; omega) 3 (by omega) (by omega) (by omega) (by omega) (by omega)) nh_Na_writeTree ln_Na_writeTree rfl rfl (nle rfl) (nle rfl) (nle rfl) (nle rfl) (nle rfl) ?_
      exact x_vret C d_Wr_writeLength_37 (nle rfl) (nle rfl) ⟨rfl, by
  first
    | (exfalso; omega)
    | (unfold eLen; rw [if_pos (by omega)]; done)
    | (unfold eLen; rw [if_neg (by omega), if_pos (by omega)]; done)
    | (unfold eLen; rw [if_neg (by omega), if_neg (by omega)]; done), rfl⟩

theorem eOk_len {x : En} (ok : eOk x) (pl v : Int) : eOk (eLen pl v x) ∧ (eLen pl v x).2.2.1 ≤ x.2.2.1 + 9 := by
  unfold eLen
  have e1 := eOk_bit ok pl 0
  have e2 := eOk_bit ok pl 1
  have n1 := len_bit x pl 0
  have n2 := len_bit x pl 1
  split
  · have h1 := eOk_tree 3 (pl + 2) v 1 _ e1
    exact ⟨h1.1, by have := h1.2; omega⟩
  · split
    · have n3 := len_bit (eBit x pl 1) (pl + 1) 0
      have h1 := eOk_tree 3 (pl + 10) (v - 8) 1 _ (eOk_bit e2 (pl + 1) 0)
      exact ⟨h1.1, by have := h1.2; omega⟩
    · have n3 := len_bit (eBit x pl 1) (pl + 1) 1
      have h1 := eOk_tree 7 (pl + 18) (v - 16) 1 _ (eOk_bit e2 (pl + 1) 1)
      exact ⟨h1.1, by have := h1.2; omega⟩
theorem hb_le (d : Int) : hbZ d ≤ 7 := by unfold hbZ; repeat' split <;> try omega
theorem hb_ge {d : Int} (h : 4 ≤ d) : 2 ≤ hbZ d := by unfold hbZ; repeat' split <;> try omega
theorem hb_pow {d : Int} (h : d < 128) : (2 : Int) ^ (hbZ d - 1) ≤ 32 := by
  have : hbZ d - 1 ≤ 5 := by unfold hbZ; repeat' split <;> try omega
  generalize hbZ d - 1 = k at this
  match k, this with
  | 0, _ => decide
  | 1, _ => decide
  | 2, _ => decide
  | 3, _ => decide
  | 4, _ => decide
  | 5, _ => decide
theorem slot_b {d : Int} (h0 : 0 ≤ d) (h : d < 128) : 0 ≤ slotZ d ∧ slotZ d ≤ 13 ∧ (4 ≤ slotZ d → 4 ≤ d) := by
  have : d < 128 → hbZ d ≤ 6 := fun _ => by unfold hbZ; repeat' split <;> try omega
  have h1 := this h
  unfold slotZ bitZ
  split <;> omega
set_option maxRecDepth 100000 in
set_option maxHeartbeats 4000000 in
theorem c_Wr_writeEnd {a0 : Array Value} {s0 : State} {D : va_G} {cI cL : ClassId} (l : Launch) (E : a_E a0 s0 D cI cL) {h : AH} {K : Nat} {x : En} (h22 : h 22 = some (oWr s0.heap.size)) (h24 : h 24 = some (oCh s0.heap.size 25)) (ok : eOk x) (lx : x.2.2.1 < 97000) : XM l s0 D y_Wr_writeEnd prog_11_method_5_code 1 none 4 0 0 [.ref (s0.heap.size + 22)] (sN s0.heap.size cI h x) (K) (PR none (sN s0.heap.size cI h (eEnd x)) K) := by
  refine XM.of (cI := cI) (cL := cL) (own := "NarrowingPacker$PacketWriter") (by decide) rfl E.2 (nle rfl) ?_
  intro p e s m below meth c C hn
  refine x_aload_n C d_Wr_writeEnd_0 rfl ?_
  refine x_bipush C d_Wr_writeEnd_1 (by decide) ?_
  refine x_iconst C d_Wr_writeEnd_3 ?_
  refine x_callVR C (G_Wr E.1) (u_468 E.1) (u_470 E.1) (us_7 E.1) (u_471 E.1) (u_8 E.1) d_Wr_writeEnd_4 (c_Wr_writeLength l E h22 h24 ok (by omega) (by omega) (by omega) (by omega) (by omega)) nh_Wr_writeLength ln_Wr_writeLength rfl (by exact h22) (nle rfl) (nle rfl) (nle rfl) (nle rfl) (nle rfl) ?_
  refine x_aload_n C d_Wr_writeEnd_7 rfl ?_
  refine x_get C (G_Wr E.1) 0 (u_204 E.1) d_Wr_writeEnd_8 (by decide) (by exact h22) rfl ?_
  refine x_sipush C d_Wr_writeEnd_11 (by decide) ?_
  refine x_iconst C d_Wr_writeEnd_14 ?_
  refine x_bipush C d_Wr_writeEnd_15 (by decide) ?_
  refine x_callVR C (G_Na E.1) (u_472 E.1) (u_473 E.1) (u_474 E.1) (u_475 E.1) (u_9 E.1) d_Wr_writeEnd_17 (c_Na_writeTree l E h24 (eOk_len ok _ _).1 (by have := (eOk_len ok 72 0).2; omega) 4 (by omega) (by omega) (by omega) (by omega) (by omega)) nh_Na_writeTree ln_Na_writeTree rfl rfl (nle rfl) (nle rfl) (nle rfl) (nle rfl) (nle rfl) ?_
  exact x_vret C d_Wr_writeEnd_20 (nle rfl) (nle rfl) ⟨rfl, rfl, rfl⟩

set_option maxRecDepth 100000 in
set_option maxHeartbeats 4000000 in
theorem c_Wr_writeMatch {a0 : Array Value} {s0 : State} {D : va_G} {cI cL : ClassId} (l : Launch) (E : a_E a0 s0 D cI cL) {h : AH} {K : Nat} {x : En} (h22 : h 22 = some (oWr s0.heap.size)) (h24 : h 24 = some (oCh s0.heap.size 25)) (ok : eOk x) (lx : x.2.2.1 < 97000) {k ln ds ec li : Int} (h16 : h 16 = some (oPa k ln ds ec li)) (n1 : 2 ≤ ln) (n2 : ln ≤ 120) (d1 : 1 ≤ ds) (d2 : ds ≤ 120) : XM l s0 D y_Wr_writeMatch prog_11_method_4_code 7 none 4 0 0 [.ref (s0.heap.size + 22), .ref (s0.heap.size + 16)] (sN s0.heap.size cI h x) (K) (PR none (sN s0.heap.size cI h (eMatch ln ds x)) K) := by
  refine XM.of (cI := cI) (cL := cL) (own := "NarrowingPacker$PacketWriter") (by decide) rfl E.2 (nle rfl) ?_
  intro p e s m below meth c C hn
  refine x_aload_n C d_Wr_writeMatch_0 rfl ?_
  refine x_getN C (G_Pa E.1) 1 (u_86 E.1) d_Wr_writeMatch_1 (by decide) (by exact h16) rfl ?_
  refine x_iconst C d_Wr_writeMatch_4 ?_
  refine x_isub C d_Wr_writeMatch_5 ?_
  refine x_istore_n C d_Wr_writeMatch_6 (by decide) ?_
  refine x_aload_n C d_Wr_writeMatch_7 rfl ?_
  refine x_getN C (G_Pa E.1) 2 (u_91 E.1) d_Wr_writeMatch_8 (by decide) (by exact h16) rfl ?_
  refine x_iconst C d_Wr_writeMatch_11 ?_
  refine x_isub C d_Wr_writeMatch_12 ?_
  refine x_istore_n C d_Wr_writeMatch_13 (by decide) ?_
  refine x_iload_n C d_Wr_writeMatch_14 rfl ?_
  refine x_callSR C (u_465 E.1) (u_466 E.1) (u_467 E.1) (u_8 E.1) d_Wr_writeMatch_15 (c_Wr_bitsBelowHighest l E (by omega) (by omega)) nh_Wr_bitsBelowHighest ln_Wr_bitsBelowHighest rfl (nle rfl) (nle rfl) (nle rfl) (nle rfl) (nle rfl) ?_
  refine x_istore C d_Wr_writeMatch_18 (by decide) ?_
  refine x_iload_n C d_Wr_writeMatch_20 rfl ?_
  refine x_iconst C d_Wr_writeMatch_21 ?_
  refine x_icmp_ge C (tgt := 29) d_Wr_writeMatch_22 (by decide) (by omega) (by omega) (by omega) (by omega) (fun c22 => ?_) (fun c22 => ?_)
  · refine x_iconst C d_Wr_writeMatch_29 ?_
    refine x_iload C d_Wr_writeMatch_30 rfl ?_
    refine x_imul C d_Wr_writeMatch_32 ?_
    refine x_iload_n C d_Wr_writeMatch_33 rfl ?_
    refine x_iload C d_Wr_writeMatch_34 rfl ?_
    refine x_iconst C d_Wr_writeMatch_36 ?_
    refine x_isub C d_Wr_writeMatch_37 ?_
    refine x_ishr C (q := 2 ^ (hbZ (ds - 1) - 1)) (hbZ (ds - 1) - 1) d_Wr_writeMatch_38 (by have := hb_ge (d := ds - 1) (by omega); omega) rfl (by have := hb_le (ds - 1); omega) (by omega) (by omega) ?_
    refine x_iconst C d_Wr_writeMatch_39 ?_
    refine x_iand C d_Wr_writeMatch_40 (zI_and1 _) ?_
    refine x_iadd C d_Wr_writeMatch_41 ?_
    refine XW.steq (st' := [.int (zI (slotZ (ds - 1)))]) (by unfold slotZ bitZ; first | (rw [if_pos (by omega)]; rfl) | (rw [if_neg (by omega)]; rfl)) ?_
    have sb := slot_b (d := ds - 1) (by omega) (by omega)
    refine x_istore C d_Wr_writeMatch_42 (by decide) ?_
    refine x_aload_n C d_Wr_writeMatch_44 rfl ?_
    refine x_bipush C d_Wr_writeMatch_45 (by decide) ?_
    refine x_iload_n C d_Wr_writeMatch_47 rfl ?_
    refine x_callVR C (G_Wr E.1) (u_468 E.1) (u_470 E.1) (us_7 E.1) (u_471 E.1) (u_8 E.1) d_Wr_writeMatch_48 (c_Wr_writeLength l E h22 h24 ok (by omega) (by omega) (by omega) (by omega) (by omega)) nh_Wr_writeLength ln_Wr_writeLength rfl (by exact h22) (nle rfl) (nle rfl) (nle rfl) (nle rfl) (nle rfl) ?_
    refine x_aload_n C d_Wr_writeMatch_51 rfl ?_
    refine x_get C (G_Wr E.1) 0 (u_204 E.1) d_Wr_writeMatch_52 (by decide) (by exact h22) rfl ?_
    refine x_sipush C d_Wr_writeMatch_55 (by decide) ?_
    refine x_iload_n C d_Wr_writeMatch_58 rfl ?_
    refine x_iconst C d_Wr_writeMatch_59 ?_
    refine x_min C (u_477 E.1) (u_140 E.1) (u_7 E.1) (u_141 E.1) d_Wr_writeMatch_60 (nle rfl) (nle rfl) (nle rfl) (nle rfl) (by omega) (by omega) (by omega) (by omega) ?_
    refine x_bipush C d_Wr_writeMatch_63 (by decide) ?_
    refine x_imul C d_Wr_writeMatch_65 ?_
    refine x_iadd C d_Wr_writeMatch_66 ?_
    refine x_iconst C d_Wr_writeMatch_67 ?_
    refine x_iload C d_Wr_writeMatch_68 rfl ?_
    refine x_callVR C (G_Na E.1) (u_472 E.1) (u_473 E.1) (u_474 E.1) (u_475 E.1) (u_9 E.1) d_Wr_writeMatch_70 (c_Na_writeTree l E h24 (eOk_len ok _ _).1 (by have := (eOk_len ok 72 (ln - 2)).2; omega) 4 (by omega) (by omega) (by omega) (by omega) (by omega)) nh_Na_writeTree ln_Na_writeTree rfl rfl (nle rfl) (nle rfl) (nle rfl) (nle rfl) (nle rfl) ?_
    refine x_iload C d_Wr_writeMatch_73 rfl ?_
    refine x_iconst C d_Wr_writeMatch_75 ?_
    refine x_icmp_lt C (tgt := 106) d_Wr_writeMatch_76 (by decide) (by omega) (by omega) (by omega) (by omega) (fun c76 => ?_) (fun c76 => ?_)
    · exact x_vret C d_Wr_writeMatch_106 (nle rfl) (nle rfl) ⟨rfl, by
  first
    | (exfalso; omega)
    | (unfold eMatch; rw [if_pos (by omega)]; done)
    | (unfold eMatch; rw [if_neg (by omega)]; done), rfl⟩
    · refine x_sipush C d_Wr_writeMatch_79 (by decide) ?_
      refine x_iload C d_Wr_writeMatch_82 rfl ?_
      refine x_iconst C d_Wr_writeMatch_84 ?_
      refine x_isub C d_Wr_writeMatch_85 ?_
      refine x_bipush C d_Wr_writeMatch_86 (by decide) ?_
      refine x_imul C d_Wr_writeMatch_88 ?_
      refine x_iadd C d_Wr_writeMatch_89 ?_
      refine x_istore C d_Wr_writeMatch_90 (by decide) ?_
      refine x_aload_n C d_Wr_writeMatch_92 rfl ?_
      refine x_get C (G_Wr E.1) 0 (u_204 E.1) d_Wr_writeMatch_93 (by decide) (by exact h22) rfl ?_
      refine x_iload C d_Wr_writeMatch_96 rfl ?_
      refine x_iload C d_Wr_writeMatch_98 rfl ?_
      refine x_iconst C d_Wr_writeMatch_100 ?_
      refine x_isub C d_Wr_writeMatch_101 ?_
      have hg := hb_ge (d := ds - 1) (by omega)
      have hp := hb_pow (d := ds - 1) (by omega)
      rw [show ((hbZ (ds - 1) : Nat) : Int) - 1 = ((hbZ (ds - 1) - 1 : Nat) : Int) by omega]
      refine x_iload_n C d_Wr_writeMatch_102 rfl ?_
      refine x_callVR C (G_Na E.1) (u_478 E.1) (u_479 E.1) (u_480 E.1) (u_481 E.1) (u_9 E.1) d_Wr_writeMatch_103 (c_Na_writeRow l E h24 (eOk_tree 4 _ _ _ _ (eOk_len ok _ _).1).1 (by have := (eOk_len ok 72 (ln - 2)).2; have := (eOk_tree 4 (364 + min (ln - 2) 3 * 16) (slotZ (ds - 1)) 1 _ (eOk_len ok 72 (ln - 2)).1).2; omega) (hbZ (ds - 1) - 1) (by have := hb_le (ds - 1); omega) (by omega) (by omega) (by omega) (by omega)) nh_Na_writeRow ln_Na_writeRow rfl rfl (nle rfl) (nle rfl) (nle rfl) (nle rfl) (nle rfl) ?_
      exact x_vret C d_Wr_writeMatch_106 (nle rfl) (nle rfl) ⟨rfl, by
  first
    | (exfalso; omega)
    | (unfold eMatch; rw [if_pos (by omega)]; done)
    | (unfold eMatch; rw [if_neg (by omega)]; done), rfl⟩
  · refine x_iload_n C d_Wr_writeMatch_25 rfl ?_
    refine x_goto C (tgt := 42) d_Wr_writeMatch_26 (by decide) ?_
    refine XW.steq (st' := [.int (zI (slotZ (ds - 1)))]) (by unfold slotZ bitZ; first | (rw [if_pos (by omega)]; rfl) | (rw [if_neg (by omega)]; rfl)) ?_
    have sb := slot_b (d := ds - 1) (by omega) (by omega)
    refine x_istore C d_Wr_writeMatch_42 (by decide) ?_
    refine x_aload_n C d_Wr_writeMatch_44 rfl ?_
    refine x_bipush C d_Wr_writeMatch_45 (by decide) ?_
    refine x_iload_n C d_Wr_writeMatch_47 rfl ?_
    refine x_callVR C (G_Wr E.1) (u_468 E.1) (u_470 E.1) (us_7 E.1) (u_471 E.1) (u_8 E.1) d_Wr_writeMatch_48 (c_Wr_writeLength l E h22 h24 ok (by omega) (by omega) (by omega) (by omega) (by omega)) nh_Wr_writeLength ln_Wr_writeLength rfl (by exact h22) (nle rfl) (nle rfl) (nle rfl) (nle rfl) (nle rfl) ?_
    refine x_aload_n C d_Wr_writeMatch_51 rfl ?_
    refine x_get C (G_Wr E.1) 0 (u_204 E.1) d_Wr_writeMatch_52 (by decide) (by exact h22) rfl ?_
    refine x_sipush C d_Wr_writeMatch_55 (by decide) ?_
    refine x_iload_n C d_Wr_writeMatch_58 rfl ?_
    refine x_iconst C d_Wr_writeMatch_59 ?_
    refine x_min C (u_477 E.1) (u_140 E.1) (u_7 E.1) (u_141 E.1) d_Wr_writeMatch_60 (nle rfl) (nle rfl) (nle rfl) (nle rfl) (by omega) (by omega) (by omega) (by omega) ?_
    refine x_bipush C d_Wr_writeMatch_63 (by decide) ?_
    refine x_imul C d_Wr_writeMatch_65 ?_
    refine x_iadd C d_Wr_writeMatch_66 ?_
    refine x_iconst C d_Wr_writeMatch_67 ?_
    refine x_iload C d_Wr_writeMatch_68 rfl ?_
    refine x_callVR C (G_Na E.1) (u_472 E.1) (u_473 E.1) (u_474 E.1) (u_475 E.1) (u_9 E.1) d_Wr_writeMatch_70 (c_Na_writeTree l E h24 (eOk_len ok _ _).1 (by have := (eOk_len ok 72 (ln - 2)).2; omega) 4 (by omega) (by omega) (by omega) (by omega) (by omega)) nh_Na_writeTree ln_Na_writeTree rfl rfl (nle rfl) (nle rfl) (nle rfl) (nle rfl) (nle rfl) ?_
    refine x_iload C d_Wr_writeMatch_73 rfl ?_
    refine x_iconst C d_Wr_writeMatch_75 ?_
    refine x_icmp_lt C (tgt := 106) d_Wr_writeMatch_76 (by decide) (by omega) (by omega) (by omega) (by omega) (fun c76 => ?_) (fun c76 => ?_)
    · exact x_vret C d_Wr_writeMatch_106 (nle rfl) (nle rfl) ⟨rfl, by
  first
    | (exfalso; omega)
    | (unfold eMatch; rw [if_pos (by omega)]; done)
    | (unfold eMatch; rw [if_neg (by omega)]; done), rfl⟩
    · refine x_sipush C d_Wr_writeMatch_79 (by decide) ?_
      refine x_iload C d_Wr_writeMatch_82 rfl ?_
      refine x_iconst C d_Wr_writeMatch_84 ?_
      refine x_isub C d_Wr_writeMatch_85 ?_
      refine x_bipush C d_Wr_writeMatch_86 (by decide) ?_
      refine x_imul C d_Wr_writeMatch_88 ?_
      refine x_iadd C d_Wr_writeMatch_89 ?_
      refine x_istore C d_Wr_writeMatch_90 (by decide) ?_
      refine x_aload_n C d_Wr_writeMatch_92 rfl ?_
      refine x_get C (G_Wr E.1) 0 (u_204 E.1) d_Wr_writeMatch_93 (by decide) (by exact h22) rfl ?_
      refine x_iload C d_Wr_writeMatch_96 rfl ?_
      refine x_iload C d_Wr_writeMatch_98 rfl ?_
      refine x_iconst C d_Wr_writeMatch_100 ?_
      refine x_isub C d_Wr_writeMatch_101 ?_
      have hg := hb_ge (d := ds - 1) (by omega)
      have hp := hb_pow (d := ds - 1) (by omega)
      rw [show ((hbZ (ds - 1) : Nat) : Int) - 1 = ((hbZ (ds - 1) - 1 : Nat) : Int) by omega]
      refine x_iload_n C d_Wr_writeMatch_102 rfl ?_
      refine x_callVR C (G_Na E.1) (u_478 E.1) (u_479 E.1) (u_480 E.1) (u_481 E.1) (u_9 E.1) d_Wr_writeMatch_103 (c_Na_writeRow l E h24 (eOk_tree 4 _ _ _ _ (eOk_len ok _ _).1).1 (by have := (eOk_len ok 72 (ln - 2)).2; have := (eOk_tree 4 (364 + min (ln - 2) 3 * 16) (slotZ (ds - 1)) 1 _ (eOk_len ok 72 (ln - 2)).1).2; omega) (hbZ (ds - 1) - 1) (by have := hb_le (ds - 1); omega) (by omega) (by omega) (by omega) (by omega)) nh_Na_writeRow ln_Na_writeRow rfl rfl (nle rfl) (nle rfl) (nle rfl) (nle rfl) (nle rfl) ?_
      exact x_vret C d_Wr_writeMatch_106 (nle rfl) (nle rfl) ⟨rfl, by
  first
    | (exfalso; omega)
    | (unfold eMatch; rw [if_pos (by omega)]; done)
    | (unfold eMatch; rw [if_neg (by omega)]; done), rfl⟩

set_option maxRecDepth 100000 in
set_option maxHeartbeats 4000000 in
theorem c_Wr_repeat3 {a0 : Array Value} {s0 : State} {D : va_G} {cI cL : ClassId} (l : Launch) (E : a_E a0 s0 D cI cL) {h : AH} {K : Nat} {x : En} (h22 : h 22 = some (oWr s0.heap.size)) (h24 : h 24 = some (oCh s0.heap.size 25)) (ok : eOk x) (lx : x.2.2.1 < 97000) {ln ds ec li st : Int} (s1 : 0 ≤ st) (s2 : st ≤ 11) (h16 : h 16 = some (oPa 3 ln ds ec li)) : XM l s0 D y_Wr_writeRepeat prog_11_method_6_code 3 none 4 0 0 [.ref (s0.heap.size + 22), .ref (s0.heap.size + 16), .int (zI st)] (sN s0.heap.size cI h x) (K) (PR none (sN s0.heap.size cI h (eEcho st (-1) x)) K) := by
  refine XM.of (cI := cI) (cL := cL) (own := "NarrowingPacker$PacketWriter") (by decide) rfl E.2 (nle rfl) ?_
  intro p e s m below meth c C hn
  refine x_aload_n C d_Wr_writeRepeat_0 rfl ?_
  refine x_getN C (G_Pa E.1) 0 (u_79 E.1) d_Wr_writeRepeat_1 (by decide) (by exact h16) rfl ?_
  refine x_iconst C d_Wr_writeRepeat_4 ?_
  refine x_icmp_eq C (tgt := 15) d_Wr_writeRepeat_5 (by decide) (by omega) (by omega) (by omega) (by omega) (fun c5 => ?_) (fun c5 => ?_)
  · refine x_aload_n C d_Wr_writeRepeat_15 rfl ?_
    refine x_get C (G_Wr E.1) 0 (u_204 E.1) d_Wr_writeRepeat_16 (by decide) (by exact h22) rfl ?_
    refine x_bipush C d_Wr_writeRepeat_19 (by decide) ?_
    refine x_iload_n C d_Wr_writeRepeat_21 rfl ?_
    refine x_iadd C d_Wr_writeRepeat_22 ?_
    refine x_iconst C d_Wr_writeRepeat_23 ?_
    refine x_callVR C (G_Na E.1) (u_426 E.1) (u_427 E.1) (u_428 E.1) (u_429 E.1) (u_9 E.1) d_Wr_writeRepeat_24 (c_Na_writeBit l E h24 ok (by omega) (by omega) (by omega) (by omega)) nh_Na_writeBit ln_Na_writeBit rfl rfl (nle rfl) (nle rfl) (nle rfl) (nle rfl) (nle rfl) ?_
    refine x_aload_n C d_Wr_writeRepeat_27 rfl ?_
    refine x_get C (G_Wr E.1) 0 (u_204 E.1) d_Wr_writeRepeat_28 (by decide) (by exact h22) rfl ?_
    refine x_bipush C d_Wr_writeRepeat_31 (by decide) ?_
    refine x_iload_n C d_Wr_writeRepeat_33 rfl ?_
    refine x_iadd C d_Wr_writeRepeat_34 ?_
    refine x_aload_n C d_Wr_writeRepeat_35 rfl ?_
    refine x_getN C (G_Pa E.1) 0 (u_79 E.1) d_Wr_writeRepeat_36 (by decide) (by exact h16) rfl ?_
    refine x_iconst C d_Wr_writeRepeat_39 ?_
    refine x_icmp_ne C (tgt := 47) d_Wr_writeRepeat_40 (by decide) (by omega) (by omega) (by omega) (by omega) (fun c40 => ?_) (fun c40 => ?_)
    · exfalso; omega
    · refine x_iconst C d_Wr_writeRepeat_43 ?_
      refine x_goto C (tgt := 48) d_Wr_writeRepeat_44 (by decide) ?_
      refine x_callVR C (G_Na E.1) (u_426 E.1) (u_427 E.1) (u_428 E.1) (u_429 E.1) (u_9 E.1) d_Wr_writeRepeat_48 (c_Na_writeBit l E h24 (eOk_bit ok _ _) (by have := len_bit x (24 + st) 0; omega) (by omega) (by omega) (by omega)) nh_Na_writeBit ln_Na_writeBit rfl rfl (nle rfl) (nle rfl) (nle rfl) (nle rfl) (nle rfl) ?_
      refine x_goto C (tgt := 122) d_Wr_writeRepeat_51 (by decide) ?_
      refine x_aload_n C d_Wr_writeRepeat_122 rfl ?_
      refine x_getN C (G_Pa E.1) 0 (u_79 E.1) d_Wr_writeRepeat_123 (by decide) (by exact h16) rfl ?_
      refine x_iconst C d_Wr_writeRepeat_126 ?_
      refine x_icmp_ne C (tgt := 143) d_Wr_writeRepeat_127 (by decide) (by omega) (by omega) (by omega) (by omega) (fun c127 => ?_) (fun c127 => ?_)
      · exact x_vret C d_Wr_writeRepeat_143 (nle rfl) (nle rfl) ⟨rfl, by
  first
    | (exfalso; omega)
    | (unfold eEcho; rw [if_pos rfl]; done), rfl⟩
      · exfalso; omega
  · exfalso; omega

theorem eOk_echo {x : En} (ok : eOk x) (st k : Int) : eOk (eEcho st k x) ∧ (eEcho st k x).2.2.1 ≤ x.2.2.1 + 3 := by
  have a0 := len_bit x (24 + st) 0
  have a1 := len_bit x (24 + st) 1
  unfold eEcho
  split
  · have b := len_bit (eBit x (24 + st) 0) (36 + st) 0
    exact ⟨eOk_bit (eOk_bit ok _ _) _ _, by omega⟩
  · split
    · have b := len_bit (eBit x (24 + st) 0) (36 + st) 1
      exact ⟨eOk_bit (eOk_bit ok _ _) _ _, by omega⟩
    · split
      · have b := len_bit (eBit x (24 + st) 1) (48 + st) 0
        exact ⟨eOk_bit (eOk_bit ok _ _) _ _, by omega⟩
      · have b := len_bit (eBit x (24 + st) 1) (48 + st) 1
        have c := len_bit (eBit (eBit x (24 + st) 1) (48 + st) 1) (60 + st) (k - 2)
        exact ⟨eOk_bit (eOk_bit (eOk_bit ok _ _) _ _) _ _, by omega⟩
set_option maxRecDepth 100000 in
set_option maxHeartbeats 4000000 in
theorem c_Wr_repeat2 {a0 : Array Value} {s0 : State} {D : va_G} {cI cL : ClassId} (l : Launch) (E : a_E a0 s0 D cI cL) {h : AH} {K : Nat} {x : En} (h22 : h 22 = some (oWr s0.heap.size)) (h24 : h 24 = some (oCh s0.heap.size 25)) (ok : eOk x) (lx : x.2.2.1 < 97000) {ln ds ec li st : Int} (s1 : 0 ≤ st) (s2 : st ≤ 11) (h16 : h 16 = some (oPa 2 ln ds ec li)) (e1 : 0 ≤ ec) (e2 : ec ≤ 3) (n1 : 2 ≤ ln) (n2 : ln ≤ 120) : XM l s0 D y_Wr_writeRepeat prog_11_method_6_code 3 none 4 0 0 [.ref (s0.heap.size + 22), .ref (s0.heap.size + 16), .int (zI st)] (sN s0.heap.size cI h x) (K) (PR none (sN s0.heap.size cI h (eLen 218 (ln - 2) (eEcho st ec x))) K) := by
  refine XM.of (cI := cI) (cL := cL) (own := "NarrowingPacker$PacketWriter") (by decide) rfl E.2 (nle rfl) ?_
  intro p e s m below meth c C hn
  refine x_aload_n C d_Wr_writeRepeat_0 rfl ?_
  refine x_getN C (G_Pa E.1) 0 (u_79 E.1) d_Wr_writeRepeat_1 (by decide) (by exact h16) rfl ?_
  refine x_iconst C d_Wr_writeRepeat_4 ?_
  refine x_icmp_eq C (tgt := 15) d_Wr_writeRepeat_5 (by decide) (by omega) (by omega) (by omega) (by omega) (fun c5 => ?_) (fun c5 => ?_)
  · refine x_aload_n C d_Wr_writeRepeat_15 rfl ?_
    refine x_get C (G_Wr E.1) 0 (u_204 E.1) d_Wr_writeRepeat_16 (by decide) (by exact h22) rfl ?_
    refine x_bipush C d_Wr_writeRepeat_19 (by decide) ?_
    refine x_iload_n C d_Wr_writeRepeat_21 rfl ?_
    refine x_iadd C d_Wr_writeRepeat_22 ?_
    refine x_iconst C d_Wr_writeRepeat_23 ?_
    refine x_callVR C (G_Na E.1) (u_426 E.1) (u_427 E.1) (u_428 E.1) (u_429 E.1) (u_9 E.1) d_Wr_writeRepeat_24 (c_Na_writeBit l E h24 ok (by omega) (by omega) (by omega) (by omega)) nh_Na_writeBit ln_Na_writeBit rfl rfl (nle rfl) (nle rfl) (nle rfl) (nle rfl) (nle rfl) ?_
    refine x_aload_n C d_Wr_writeRepeat_27 rfl ?_
    refine x_get C (G_Wr E.1) 0 (u_204 E.1) d_Wr_writeRepeat_28 (by decide) (by exact h22) rfl ?_
    refine x_bipush C d_Wr_writeRepeat_31 (by decide) ?_
    refine x_iload_n C d_Wr_writeRepeat_33 rfl ?_
    refine x_iadd C d_Wr_writeRepeat_34 ?_
    refine x_aload_n C d_Wr_writeRepeat_35 rfl ?_
    refine x_getN C (G_Pa E.1) 0 (u_79 E.1) d_Wr_writeRepeat_36 (by decide) (by exact h16) rfl ?_
    refine x_iconst C d_Wr_writeRepeat_39 ?_
    refine x_icmp_ne C (tgt := 47) d_Wr_writeRepeat_40 (by decide) (by omega) (by omega) (by omega) (by omega) (fun c40 => ?_) (fun c40 => ?_)
    · refine x_iconst C d_Wr_writeRepeat_47 ?_
      refine x_callVR C (G_Na E.1) (u_426 E.1) (u_427 E.1) (u_428 E.1) (u_429 E.1) (u_9 E.1) d_Wr_writeRepeat_48 (c_Na_writeBit l E h24 (eOk_bit ok _ _) (by have := len_bit x (24 + st) 0; omega) (by omega) (by omega) (by omega)) nh_Na_writeBit ln_Na_writeBit rfl rfl (nle rfl) (nle rfl) (nle rfl) (nle rfl) (nle rfl) ?_
      refine x_goto C (tgt := 122) d_Wr_writeRepeat_51 (by decide) ?_
      refine XW.heq (h' := sN s0.heap.size cI h (eEcho st ec x)) (by
        unfold eEcho
        first
          | (exfalso; omega)
          | (rw [if_neg (by omega), if_pos (by omega)]; done)
          | (rw [if_neg (by omega), if_neg (by omega), if_pos (by omega)]; done)
          | (rw [if_neg (by omega), if_neg (by omega), if_neg (by omega), show ec - 2 = 0 by omega]; done)
          | (rw [if_neg (by omega), if_neg (by omega), if_neg (by omega), show ec - 2 = 1 by omega]; done)) ?_
      refine x_aload_n C d_Wr_writeRepeat_122 rfl ?_
      refine x_getN C (G_Pa E.1) 0 (u_79 E.1) d_Wr_writeRepeat_123 (by decide) (by exact h16) rfl ?_
      refine x_iconst C d_Wr_writeRepeat_126 ?_
      refine x_icmp_ne C (tgt := 143) d_Wr_writeRepeat_127 (by decide) (by omega) (by omega) (by omega) (by omega) (fun c127 => ?_) (fun c127 => ?_)
      · first
          | (exfalso; omega)
          | exact x_vret C d_Wr_writeRepeat_143 (nle rfl) (nle rfl) ⟨rfl, rfl, rfl⟩
      · refine x_aload_n C d_Wr_writeRepeat_130 rfl ?_
        refine x_sipush C d_Wr_writeRepeat_131 (by decide) ?_
        refine x_aload_n C d_Wr_writeRepeat_134 rfl ?_
        refine x_getN C (G_Pa E.1) 1 (u_86 E.1) d_Wr_writeRepeat_135 (by decide) (by exact h16) rfl ?_
        refine x_iconst C d_Wr_writeRepeat_138 ?_
        refine x_isub C d_Wr_writeRepeat_139 ?_
        refine x_callVR C (G_Wr E.1) (u_468 E.1) (u_470 E.1) (us_7 E.1) (u_471 E.1) (u_8 E.1) d_Wr_writeRepeat_140 (c_Wr_writeLength l E h22 h24 (eOk_echo ok _ _).1 (by have := (eOk_echo ok st ec).2; omega) (by omega) (by omega) (by omega) (by omega)) nh_Wr_writeLength ln_Wr_writeLength rfl (by exact h22) (nle rfl) (nle rfl) (nle rfl) (nle rfl) (nle rfl) ?_
        first
          | (exfalso; omega)
          | exact x_vret C d_Wr_writeRepeat_143 (nle rfl) (nle rfl) ⟨rfl, rfl, rfl⟩
    · refine x_iconst C d_Wr_writeRepeat_43 ?_
      refine x_goto C (tgt := 48) d_Wr_writeRepeat_44 (by decide) ?_
      refine x_callVR C (G_Na E.1) (u_426 E.1) (u_427 E.1) (u_428 E.1) (u_429 E.1) (u_9 E.1) d_Wr_writeRepeat_48 (c_Na_writeBit l E h24 (eOk_bit ok _ _) (by have := len_bit x (24 + st) 0; omega) (by omega) (by omega) (by omega)) nh_Na_writeBit ln_Na_writeBit rfl rfl (nle rfl) (nle rfl) (nle rfl) (nle rfl) (nle rfl) ?_
      refine x_goto C (tgt := 122) d_Wr_writeRepeat_51 (by decide) ?_
      refine XW.heq (h' := sN s0.heap.size cI h (eEcho st ec x)) (by
        unfold eEcho
        first
          | (exfalso; omega)
          | (rw [if_neg (by omega), if_pos (by omega)]; done)
          | (rw [if_neg (by omega), if_neg (by omega), if_pos (by omega)]; done)
          | (rw [if_neg (by omega), if_neg (by omega), if_neg (by omega), show ec - 2 = 0 by omega]; done)
          | (rw [if_neg (by omega), if_neg (by omega), if_neg (by omega), show ec - 2 = 1 by omega]; done)) ?_
      refine x_aload_n C d_Wr_writeRepeat_122 rfl ?_
      refine x_getN C (G_Pa E.1) 0 (u_79 E.1) d_Wr_writeRepeat_123 (by decide) (by exact h16) rfl ?_
      refine x_iconst C d_Wr_writeRepeat_126 ?_
      refine x_icmp_ne C (tgt := 143) d_Wr_writeRepeat_127 (by decide) (by omega) (by omega) (by omega) (by omega) (fun c127 => ?_) (fun c127 => ?_)
      · first
          | (exfalso; omega)
          | exact x_vret C d_Wr_writeRepeat_143 (nle rfl) (nle rfl) ⟨rfl, rfl, rfl⟩
      · refine x_aload_n C d_Wr_writeRepeat_130 rfl ?_
        refine x_sipush C d_Wr_writeRepeat_131 (by decide) ?_
        refine x_aload_n C d_Wr_writeRepeat_134 rfl ?_
        refine x_getN C (G_Pa E.1) 1 (u_86 E.1) d_Wr_writeRepeat_135 (by decide) (by exact h16) rfl ?_
        refine x_iconst C d_Wr_writeRepeat_138 ?_
        refine x_isub C d_Wr_writeRepeat_139 ?_
        refine x_callVR C (G_Wr E.1) (u_468 E.1) (u_470 E.1) (us_7 E.1) (u_471 E.1) (u_8 E.1) d_Wr_writeRepeat_140 (c_Wr_writeLength l E h22 h24 (eOk_echo ok _ _).1 (by have := (eOk_echo ok st ec).2; omega) (by omega) (by omega) (by omega) (by omega)) nh_Wr_writeLength ln_Wr_writeLength rfl (by exact h22) (nle rfl) (nle rfl) (nle rfl) (nle rfl) (nle rfl) ?_
        first
          | (exfalso; omega)
          | exact x_vret C d_Wr_writeRepeat_143 (nle rfl) (nle rfl) ⟨rfl, rfl, rfl⟩
  · refine x_aload_n C d_Wr_writeRepeat_8 rfl ?_
    refine x_getN C (G_Pa E.1) 3 (u_96 E.1) d_Wr_writeRepeat_9 (by decide) (by exact h16) rfl ?_
    refine x_if_ne C (tgt := 54) d_Wr_writeRepeat_12 (by decide) (by omega) (by omega) (fun c12 => ?_) (fun c12 => ?_)
    · refine x_aload_n C d_Wr_writeRepeat_54 rfl ?_
      refine x_get C (G_Wr E.1) 0 (u_204 E.1) d_Wr_writeRepeat_55 (by decide) (by exact h22) rfl ?_
      refine x_bipush C d_Wr_writeRepeat_58 (by decide) ?_
      refine x_iload_n C d_Wr_writeRepeat_60 rfl ?_
      refine x_iadd C d_Wr_writeRepeat_61 ?_
      refine x_iconst C d_Wr_writeRepeat_62 ?_
      refine x_callVR C (G_Na E.1) (u_426 E.1) (u_427 E.1) (u_428 E.1) (u_429 E.1) (u_9 E.1) d_Wr_writeRepeat_63 (c_Na_writeBit l E h24 ok (by omega) (by omega) (by omega) (by omega)) nh_Na_writeBit ln_Na_writeBit rfl rfl (nle rfl) (nle rfl) (nle rfl) (nle rfl) (nle rfl) ?_
      refine x_aload_n C d_Wr_writeRepeat_66 rfl ?_
      refine x_get C (G_Wr E.1) 0 (u_204 E.1) d_Wr_writeRepeat_67 (by decide) (by exact h22) rfl ?_
      refine x_bipush C d_Wr_writeRepeat_70 (by decide) ?_
      refine x_iload_n C d_Wr_writeRepeat_72 rfl ?_
      refine x_iadd C d_Wr_writeRepeat_73 ?_
      refine x_aload_n C d_Wr_writeRepeat_74 rfl ?_
      refine x_getN C (G_Pa E.1) 3 (u_96 E.1) d_Wr_writeRepeat_75 (by decide) (by exact h16) rfl ?_
      refine x_iconst C d_Wr_writeRepeat_78 ?_
      refine x_icmp_ne C (tgt := 86) d_Wr_writeRepeat_79 (by decide) (by omega) (by omega) (by omega) (by omega) (fun c79 => ?_) (fun c79 => ?_)
      · refine x_iconst C d_Wr_writeRepeat_86 ?_
        refine x_callVR C (G_Na E.1) (u_426 E.1) (u_427 E.1) (u_428 E.1) (u_429 E.1) (u_9 E.1) d_Wr_writeRepeat_87 (c_Na_writeBit l E h24 (eOk_bit ok _ _) (by have := len_bit x (24 + st) 1; omega) (by omega) (by omega) (by omega)) nh_Na_writeBit ln_Na_writeBit rfl rfl (nle rfl) (nle rfl) (nle rfl) (nle rfl) (nle rfl) ?_
        refine x_aload_n C d_Wr_writeRepeat_90 rfl ?_
        refine x_getN C (G_Pa E.1) 3 (u_96 E.1) d_Wr_writeRepeat_91 (by decide) (by exact h16) rfl ?_
        refine x_iconst C d_Wr_writeRepeat_94 ?_
        refine x_icmp_le C (tgt := 122) d_Wr_writeRepeat_95 (by decide) (by omega) (by omega) (by omega) (by omega) (fun c95 => ?_) (fun c95 => ?_)
        · refine XW.heq (h' := sN s0.heap.size cI h (eEcho st ec x)) (by
            unfold eEcho
            first
              | (exfalso; omega)
              | (rw [if_neg (by omega), if_pos (by omega)]; done)
              | (rw [if_neg (by omega), if_neg (by omega), if_pos (by omega)]; done)
              | (rw [if_neg (by omega), if_neg (by omega), if_neg (by omega), show ec - 2 = 0 by omega]; done)
              | (rw [if_neg (by omega), if_neg (by omega), if_neg (by omega), show ec - 2 = 1 by omega]; done)) ?_
          refine x_aload_n C d_Wr_writeRepeat_122 rfl ?_
          refine x_getN C (G_Pa E.1) 0 (u_79 E.1) d_Wr_writeRepeat_123 (by decide) (by exact h16) rfl ?_
          refine x_iconst C d_Wr_writeRepeat_126 ?_
          refine x_icmp_ne C (tgt := 143) d_Wr_writeRepeat_127 (by decide) (by omega) (by omega) (by omega) (by omega) (fun c127 => ?_) (fun c127 => ?_)
          · first
              | (exfalso; omega)
              | exact x_vret C d_Wr_writeRepeat_143 (nle rfl) (nle rfl) ⟨rfl, rfl, rfl⟩
          · refine x_aload_n C d_Wr_writeRepeat_130 rfl ?_
            refine x_sipush C d_Wr_writeRepeat_131 (by decide) ?_
            refine x_aload_n C d_Wr_writeRepeat_134 rfl ?_
            refine x_getN C (G_Pa E.1) 1 (u_86 E.1) d_Wr_writeRepeat_135 (by decide) (by exact h16) rfl ?_
            refine x_iconst C d_Wr_writeRepeat_138 ?_
            refine x_isub C d_Wr_writeRepeat_139 ?_
            refine x_callVR C (G_Wr E.1) (u_468 E.1) (u_470 E.1) (us_7 E.1) (u_471 E.1) (u_8 E.1) d_Wr_writeRepeat_140 (c_Wr_writeLength l E h22 h24 (eOk_echo ok _ _).1 (by have := (eOk_echo ok st ec).2; omega) (by omega) (by omega) (by omega) (by omega)) nh_Wr_writeLength ln_Wr_writeLength rfl (by exact h22) (nle rfl) (nle rfl) (nle rfl) (nle rfl) (nle rfl) ?_
            first
              | (exfalso; omega)
              | exact x_vret C d_Wr_writeRepeat_143 (nle rfl) (nle rfl) ⟨rfl, rfl, rfl⟩
        · refine x_aload_n C d_Wr_writeRepeat_98 rfl ?_
          refine x_get C (G_Wr E.1) 0 (u_204 E.1) d_Wr_writeRepeat_99 (by decide) (by exact h22) rfl ?_
          refine x_bipush C d_Wr_writeRepeat_102 (by decide) ?_
          refine x_iload_n C d_Wr_writeRepeat_104 rfl ?_
          refine x_iadd C d_Wr_writeRepeat_105 ?_
          refine x_aload_n C d_Wr_writeRepeat_106 rfl ?_
          refine x_getN C (G_Pa E.1) 3 (u_96 E.1) d_Wr_writeRepeat_107 (by decide) (by exact h16) rfl ?_
          refine x_iconst C d_Wr_writeRepeat_110 ?_
          refine x_icmp_ne C (tgt := 118) d_Wr_writeRepeat_111 (by decide) (by omega) (by omega) (by omega) (by omega) (fun c111 => ?_) (fun c111 => ?_)
          · refine x_iconst C d_Wr_writeRepeat_118 ?_
            refine x_callVR C (G_Na E.1) (u_426 E.1) (u_427 E.1) (u_428 E.1) (u_429 E.1) (u_9 E.1) d_Wr_writeRepeat_119 (c_Na_writeBit l E h24 (eOk_bit (eOk_bit ok _ _) _ _) (by have := len_bit x (24 + st) 1; have := len_bit (eBit x (24 + st) 1) (48 + st) 1; omega) (by omega) (by omega) (by omega)) nh_Na_writeBit ln_Na_writeBit rfl rfl (nle rfl) (nle rfl) (nle rfl) (nle rfl) (nle rfl) ?_
            refine XW.heq (h' := sN s0.heap.size cI h (eEcho st ec x)) (by
              unfold eEcho
              first
                | (exfalso; omega)
                | (rw [if_neg (by omega), if_pos (by omega)]; done)
                | (rw [if_neg (by omega), if_neg (by omega), if_pos (by omega)]; done)
                | (rw [if_neg (by omega), if_neg (by omega), if_neg (by omega), show ec - 2 = 0 by omega]; done)
                | (rw [if_neg (by omega), if_neg (by omega), if_neg (by omega), show ec - 2 = 1 by omega]; done)) ?_
            refine x_aload_n C d_Wr_writeRepeat_122 rfl ?_
            refine x_getN C (G_Pa E.1) 0 (u_79 E.1) d_Wr_writeRepeat_123 (by decide) (by exact h16) rfl ?_
            refine x_iconst C d_Wr_writeRepeat_126 ?_
            refine x_icmp_ne C (tgt := 143) d_Wr_writeRepeat_127 (by decide) (by omega) (by omega) (by omega) (by omega) (fun c127 => ?_) (fun c127 => ?_)
            · first
                | (exfalso; omega)
                | exact x_vret C d_Wr_writeRepeat_143 (nle rfl) (nle rfl) ⟨rfl, rfl, rfl⟩
            · refine x_aload_n C d_Wr_writeRepeat_130 rfl ?_
              refine x_sipush C d_Wr_writeRepeat_131 (by decide) ?_
              refine x_aload_n C d_Wr_writeRepeat_134 rfl ?_
              refine x_getN C (G_Pa E.1) 1 (u_86 E.1) d_Wr_writeRepeat_135 (by decide) (by exact h16) rfl ?_
              refine x_iconst C d_Wr_writeRepeat_138 ?_
              refine x_isub C d_Wr_writeRepeat_139 ?_
              refine x_callVR C (G_Wr E.1) (u_468 E.1) (u_470 E.1) (us_7 E.1) (u_471 E.1) (u_8 E.1) d_Wr_writeRepeat_140 (c_Wr_writeLength l E h22 h24 (eOk_echo ok _ _).1 (by have := (eOk_echo ok st ec).2; omega) (by omega) (by omega) (by omega) (by omega)) nh_Wr_writeLength ln_Wr_writeLength rfl (by exact h22) (nle rfl) (nle rfl) (nle rfl) (nle rfl) (nle rfl) ?_
              first
                | (exfalso; omega)
                | exact x_vret C d_Wr_writeRepeat_143 (nle rfl) (nle rfl) ⟨rfl, rfl, rfl⟩
          · refine x_iconst C d_Wr_writeRepeat_114 ?_
            refine x_goto C (tgt := 119) d_Wr_writeRepeat_115 (by decide) ?_
            refine x_callVR C (G_Na E.1) (u_426 E.1) (u_427 E.1) (u_428 E.1) (u_429 E.1) (u_9 E.1) d_Wr_writeRepeat_119 (c_Na_writeBit l E h24 (eOk_bit (eOk_bit ok _ _) _ _) (by have := len_bit x (24 + st) 1; have := len_bit (eBit x (24 + st) 1) (48 + st) 1; omega) (by omega) (by omega) (by omega)) nh_Na_writeBit ln_Na_writeBit rfl rfl (nle rfl) (nle rfl) (nle rfl) (nle rfl) (nle rfl) ?_
            refine XW.heq (h' := sN s0.heap.size cI h (eEcho st ec x)) (by
              unfold eEcho
              first
                | (exfalso; omega)
                | (rw [if_neg (by omega), if_pos (by omega)]; done)
                | (rw [if_neg (by omega), if_neg (by omega), if_pos (by omega)]; done)
                | (rw [if_neg (by omega), if_neg (by omega), if_neg (by omega), show ec - 2 = 0 by omega]; done)
                | (rw [if_neg (by omega), if_neg (by omega), if_neg (by omega), show ec - 2 = 1 by omega]; done)) ?_
            refine x_aload_n C d_Wr_writeRepeat_122 rfl ?_
            refine x_getN C (G_Pa E.1) 0 (u_79 E.1) d_Wr_writeRepeat_123 (by decide) (by exact h16) rfl ?_
            refine x_iconst C d_Wr_writeRepeat_126 ?_
            refine x_icmp_ne C (tgt := 143) d_Wr_writeRepeat_127 (by decide) (by omega) (by omega) (by omega) (by omega) (fun c127 => ?_) (fun c127 => ?_)
            · first
                | (exfalso; omega)
                | exact x_vret C d_Wr_writeRepeat_143 (nle rfl) (nle rfl) ⟨rfl, rfl, rfl⟩
            · refine x_aload_n C d_Wr_writeRepeat_130 rfl ?_
              refine x_sipush C d_Wr_writeRepeat_131 (by decide) ?_
              refine x_aload_n C d_Wr_writeRepeat_134 rfl ?_
              refine x_getN C (G_Pa E.1) 1 (u_86 E.1) d_Wr_writeRepeat_135 (by decide) (by exact h16) rfl ?_
              refine x_iconst C d_Wr_writeRepeat_138 ?_
              refine x_isub C d_Wr_writeRepeat_139 ?_
              refine x_callVR C (G_Wr E.1) (u_468 E.1) (u_470 E.1) (us_7 E.1) (u_471 E.1) (u_8 E.1) d_Wr_writeRepeat_140 (c_Wr_writeLength l E h22 h24 (eOk_echo ok _ _).1 (by have := (eOk_echo ok st ec).2; omega) (by omega) (by omega) (by omega) (by omega)) nh_Wr_writeLength ln_Wr_writeLength rfl (by exact h22) (nle rfl) (nle rfl) (nle rfl) (nle rfl) (nle rfl) ?_
              first
                | (exfalso; omega)
                | exact x_vret C d_Wr_writeRepeat_143 (nle rfl) (nle rfl) ⟨rfl, rfl, rfl⟩
      · refine x_iconst C d_Wr_writeRepeat_82 ?_
        refine x_goto C (tgt := 87) d_Wr_writeRepeat_83 (by decide) ?_
        refine x_callVR C (G_Na E.1) (u_426 E.1) (u_427 E.1) (u_428 E.1) (u_429 E.1) (u_9 E.1) d_Wr_writeRepeat_87 (c_Na_writeBit l E h24 (eOk_bit ok _ _) (by have := len_bit x (24 + st) 1; omega) (by omega) (by omega) (by omega)) nh_Na_writeBit ln_Na_writeBit rfl rfl (nle rfl) (nle rfl) (nle rfl) (nle rfl) (nle rfl) ?_
        refine x_aload_n C d_Wr_writeRepeat_90 rfl ?_
        refine x_getN C (G_Pa E.1) 3 (u_96 E.1) d_Wr_writeRepeat_91 (by decide) (by exact h16) rfl ?_
        refine x_iconst C d_Wr_writeRepeat_94 ?_
        refine x_icmp_le C (tgt := 122) d_Wr_writeRepeat_95 (by decide) (by omega) (by omega) (by omega) (by omega) (fun c95 => ?_) (fun c95 => ?_)
        · refine XW.heq (h' := sN s0.heap.size cI h (eEcho st ec x)) (by
            unfold eEcho
            first
              | (exfalso; omega)
              | (rw [if_neg (by omega), if_pos (by omega)]; done)
              | (rw [if_neg (by omega), if_neg (by omega), if_pos (by omega)]; done)
              | (rw [if_neg (by omega), if_neg (by omega), if_neg (by omega), show ec - 2 = 0 by omega]; done)
              | (rw [if_neg (by omega), if_neg (by omega), if_neg (by omega), show ec - 2 = 1 by omega]; done)) ?_
          refine x_aload_n C d_Wr_writeRepeat_122 rfl ?_
          refine x_getN C (G_Pa E.1) 0 (u_79 E.1) d_Wr_writeRepeat_123 (by decide) (by exact h16) rfl ?_
          refine x_iconst C d_Wr_writeRepeat_126 ?_
          refine x_icmp_ne C (tgt := 143) d_Wr_writeRepeat_127 (by decide) (by omega) (by omega) (by omega) (by omega) (fun c127 => ?_) (fun c127 => ?_)
          · first
              | (exfalso; omega)
              | exact x_vret C d_Wr_writeRepeat_143 (nle rfl) (nle rfl) ⟨rfl, rfl, rfl⟩
          · refine x_aload_n C d_Wr_writeRepeat_130 rfl ?_
            refine x_sipush C d_Wr_writeRepeat_131 (by decide) ?_
            refine x_aload_n C d_Wr_writeRepeat_134 rfl ?_
            refine x_getN C (G_Pa E.1) 1 (u_86 E.1) d_Wr_writeRepeat_135 (by decide) (by exact h16) rfl ?_
            refine x_iconst C d_Wr_writeRepeat_138 ?_
            refine x_isub C d_Wr_writeRepeat_139 ?_
            refine x_callVR C (G_Wr E.1) (u_468 E.1) (u_470 E.1) (us_7 E.1) (u_471 E.1) (u_8 E.1) d_Wr_writeRepeat_140 (c_Wr_writeLength l E h22 h24 (eOk_echo ok _ _).1 (by have := (eOk_echo ok st ec).2; omega) (by omega) (by omega) (by omega) (by omega)) nh_Wr_writeLength ln_Wr_writeLength rfl (by exact h22) (nle rfl) (nle rfl) (nle rfl) (nle rfl) (nle rfl) ?_
            first
              | (exfalso; omega)
              | exact x_vret C d_Wr_writeRepeat_143 (nle rfl) (nle rfl) ⟨rfl, rfl, rfl⟩
        · refine x_aload_n C d_Wr_writeRepeat_98 rfl ?_
          refine x_get C (G_Wr E.1) 0 (u_204 E.1) d_Wr_writeRepeat_99 (by decide) (by exact h22) rfl ?_
          refine x_bipush C d_Wr_writeRepeat_102 (by decide) ?_
          refine x_iload_n C d_Wr_writeRepeat_104 rfl ?_
          refine x_iadd C d_Wr_writeRepeat_105 ?_
          refine x_aload_n C d_Wr_writeRepeat_106 rfl ?_
          refine x_getN C (G_Pa E.1) 3 (u_96 E.1) d_Wr_writeRepeat_107 (by decide) (by exact h16) rfl ?_
          refine x_iconst C d_Wr_writeRepeat_110 ?_
          refine x_icmp_ne C (tgt := 118) d_Wr_writeRepeat_111 (by decide) (by omega) (by omega) (by omega) (by omega) (fun c111 => ?_) (fun c111 => ?_)
          · refine x_iconst C d_Wr_writeRepeat_118 ?_
            refine x_callVR C (G_Na E.1) (u_426 E.1) (u_427 E.1) (u_428 E.1) (u_429 E.1) (u_9 E.1) d_Wr_writeRepeat_119 (c_Na_writeBit l E h24 (eOk_bit (eOk_bit ok _ _) _ _) (by have := len_bit x (24 + st) 1; have := len_bit (eBit x (24 + st) 1) (48 + st) 1; omega) (by omega) (by omega) (by omega)) nh_Na_writeBit ln_Na_writeBit rfl rfl (nle rfl) (nle rfl) (nle rfl) (nle rfl) (nle rfl) ?_
            refine XW.heq (h' := sN s0.heap.size cI h (eEcho st ec x)) (by
              unfold eEcho
              first
                | (exfalso; omega)
                | (rw [if_neg (by omega), if_pos (by omega)]; done)
                | (rw [if_neg (by omega), if_neg (by omega), if_pos (by omega)]; done)
                | (rw [if_neg (by omega), if_neg (by omega), if_neg (by omega), show ec - 2 = 0 by omega]; done)
                | (rw [if_neg (by omega), if_neg (by omega), if_neg (by omega), show ec - 2 = 1 by omega]; done)) ?_
            refine x_aload_n C d_Wr_writeRepeat_122 rfl ?_
            refine x_getN C (G_Pa E.1) 0 (u_79 E.1) d_Wr_writeRepeat_123 (by decide) (by exact h16) rfl ?_
            refine x_iconst C d_Wr_writeRepeat_126 ?_
            refine x_icmp_ne C (tgt := 143) d_Wr_writeRepeat_127 (by decide) (by omega) (by omega) (by omega) (by omega) (fun c127 => ?_) (fun c127 => ?_)
            · first
                | (exfalso; omega)
                | exact x_vret C d_Wr_writeRepeat_143 (nle rfl) (nle rfl) ⟨rfl, rfl, rfl⟩
            · refine x_aload_n C d_Wr_writeRepeat_130 rfl ?_
              refine x_sipush C d_Wr_writeRepeat_131 (by decide) ?_
              refine x_aload_n C d_Wr_writeRepeat_134 rfl ?_
              refine x_getN C (G_Pa E.1) 1 (u_86 E.1) d_Wr_writeRepeat_135 (by decide) (by exact h16) rfl ?_
              refine x_iconst C d_Wr_writeRepeat_138 ?_
              refine x_isub C d_Wr_writeRepeat_139 ?_
              refine x_callVR C (G_Wr E.1) (u_468 E.1) (u_470 E.1) (us_7 E.1) (u_471 E.1) (u_8 E.1) d_Wr_writeRepeat_140 (c_Wr_writeLength l E h22 h24 (eOk_echo ok _ _).1 (by have := (eOk_echo ok st ec).2; omega) (by omega) (by omega) (by omega) (by omega)) nh_Wr_writeLength ln_Wr_writeLength rfl (by exact h22) (nle rfl) (nle rfl) (nle rfl) (nle rfl) (nle rfl) ?_
              first
                | (exfalso; omega)
                | exact x_vret C d_Wr_writeRepeat_143 (nle rfl) (nle rfl) ⟨rfl, rfl, rfl⟩
          · refine x_iconst C d_Wr_writeRepeat_114 ?_
            refine x_goto C (tgt := 119) d_Wr_writeRepeat_115 (by decide) ?_
            refine x_callVR C (G_Na E.1) (u_426 E.1) (u_427 E.1) (u_428 E.1) (u_429 E.1) (u_9 E.1) d_Wr_writeRepeat_119 (c_Na_writeBit l E h24 (eOk_bit (eOk_bit ok _ _) _ _) (by have := len_bit x (24 + st) 1; have := len_bit (eBit x (24 + st) 1) (48 + st) 1; omega) (by omega) (by omega) (by omega)) nh_Na_writeBit ln_Na_writeBit rfl rfl (nle rfl) (nle rfl) (nle rfl) (nle rfl) (nle rfl) ?_
            refine XW.heq (h' := sN s0.heap.size cI h (eEcho st ec x)) (by
              unfold eEcho
              first
                | (exfalso; omega)
                | (rw [if_neg (by omega), if_pos (by omega)]; done)
                | (rw [if_neg (by omega), if_neg (by omega), if_pos (by omega)]; done)
                | (rw [if_neg (by omega), if_neg (by omega), if_neg (by omega), show ec - 2 = 0 by omega]; done)
                | (rw [if_neg (by omega), if_neg (by omega), if_neg (by omega), show ec - 2 = 1 by omega]; done)) ?_
            refine x_aload_n C d_Wr_writeRepeat_122 rfl ?_
            refine x_getN C (G_Pa E.1) 0 (u_79 E.1) d_Wr_writeRepeat_123 (by decide) (by exact h16) rfl ?_
            refine x_iconst C d_Wr_writeRepeat_126 ?_
            refine x_icmp_ne C (tgt := 143) d_Wr_writeRepeat_127 (by decide) (by omega) (by omega) (by omega) (by omega) (fun c127 => ?_) (fun c127 => ?_)
            · first
                | (exfalso; omega)
                | exact x_vret C d_Wr_writeRepeat_143 (nle rfl) (nle rfl) ⟨rfl, rfl, rfl⟩
            · refine x_aload_n C d_Wr_writeRepeat_130 rfl ?_
              refine x_sipush C d_Wr_writeRepeat_131 (by decide) ?_
              refine x_aload_n C d_Wr_writeRepeat_134 rfl ?_
              refine x_getN C (G_Pa E.1) 1 (u_86 E.1) d_Wr_writeRepeat_135 (by decide) (by exact h16) rfl ?_
              refine x_iconst C d_Wr_writeRepeat_138 ?_
              refine x_isub C d_Wr_writeRepeat_139 ?_
              refine x_callVR C (G_Wr E.1) (u_468 E.1) (u_470 E.1) (us_7 E.1) (u_471 E.1) (u_8 E.1) d_Wr_writeRepeat_140 (c_Wr_writeLength l E h22 h24 (eOk_echo ok _ _).1 (by have := (eOk_echo ok st ec).2; omega) (by omega) (by omega) (by omega) (by omega)) nh_Wr_writeLength ln_Wr_writeLength rfl (by exact h22) (nle rfl) (nle rfl) (nle rfl) (nle rfl) (nle rfl) ?_
              first
                | (exfalso; omega)
                | exact x_vret C d_Wr_writeRepeat_143 (nle rfl) (nle rfl) ⟨rfl, rfl, rfl⟩
    · refine x_aload_n C d_Wr_writeRepeat_15 rfl ?_
      refine x_get C (G_Wr E.1) 0 (u_204 E.1) d_Wr_writeRepeat_16 (by decide) (by exact h22) rfl ?_
      refine x_bipush C d_Wr_writeRepeat_19 (by decide) ?_
      refine x_iload_n C d_Wr_writeRepeat_21 rfl ?_
      refine x_iadd C d_Wr_writeRepeat_22 ?_
      refine x_iconst C d_Wr_writeRepeat_23 ?_
      refine x_callVR C (G_Na E.1) (u_426 E.1) (u_427 E.1) (u_428 E.1) (u_429 E.1) (u_9 E.1) d_Wr_writeRepeat_24 (c_Na_writeBit l E h24 ok (by omega) (by omega) (by omega) (by omega)) nh_Na_writeBit ln_Na_writeBit rfl rfl (nle rfl) (nle rfl) (nle rfl) (nle rfl) (nle rfl) ?_
      refine x_aload_n C d_Wr_writeRepeat_27 rfl ?_
      refine x_get C (G_Wr E.1) 0 (u_204 E.1) d_Wr_writeRepeat_28 (by decide) (by exact h22) rfl ?_
      refine x_bipush C d_Wr_writeRepeat_31 (by decide) ?_
      refine x_iload_n C d_Wr_writeRepeat_33 rfl ?_
      refine x_iadd C d_Wr_writeRepeat_34 ?_
      refine x_aload_n C d_Wr_writeRepeat_35 rfl ?_
      refine x_getN C (G_Pa E.1) 0 (u_79 E.1) d_Wr_writeRepeat_36 (by decide) (by exact h16) rfl ?_
      refine x_iconst C d_Wr_writeRepeat_39 ?_
      refine x_icmp_ne C (tgt := 47) d_Wr_writeRepeat_40 (by decide) (by omega) (by omega) (by omega) (by omega) (fun c40 => ?_) (fun c40 => ?_)
      · refine x_iconst C d_Wr_writeRepeat_47 ?_
        refine x_callVR C (G_Na E.1) (u_426 E.1) (u_427 E.1) (u_428 E.1) (u_429 E.1) (u_9 E.1) d_Wr_writeRepeat_48 (c_Na_writeBit l E h24 (eOk_bit ok _ _) (by have := len_bit x (24 + st) 0; omega) (by omega) (by omega) (by omega)) nh_Na_writeBit ln_Na_writeBit rfl rfl (nle rfl) (nle rfl) (nle rfl) (nle rfl) (nle rfl) ?_
        refine x_goto C (tgt := 122) d_Wr_writeRepeat_51 (by decide) ?_
        refine XW.heq (h' := sN s0.heap.size cI h (eEcho st ec x)) (by
          unfold eEcho
          first
            | (exfalso; omega)
            | (rw [if_neg (by omega), if_pos (by omega)]; done)
            | (rw [if_neg (by omega), if_neg (by omega), if_pos (by omega)]; done)
            | (rw [if_neg (by omega), if_neg (by omega), if_neg (by omega), show ec - 2 = 0 by omega]; done)
            | (rw [if_neg (by omega), if_neg (by omega), if_neg (by omega), show ec - 2 = 1 by omega]; done)) ?_
        refine x_aload_n C d_Wr_writeRepeat_122 rfl ?_
        refine x_getN C (G_Pa E.1) 0 (u_79 E.1) d_Wr_writeRepeat_123 (by decide) (by exact h16) rfl ?_
        refine x_iconst C d_Wr_writeRepeat_126 ?_
        refine x_icmp_ne C (tgt := 143) d_Wr_writeRepeat_127 (by decide) (by omega) (by omega) (by omega) (by omega) (fun c127 => ?_) (fun c127 => ?_)
        · first
            | (exfalso; omega)
            | exact x_vret C d_Wr_writeRepeat_143 (nle rfl) (nle rfl) ⟨rfl, rfl, rfl⟩
        · refine x_aload_n C d_Wr_writeRepeat_130 rfl ?_
          refine x_sipush C d_Wr_writeRepeat_131 (by decide) ?_
          refine x_aload_n C d_Wr_writeRepeat_134 rfl ?_
          refine x_getN C (G_Pa E.1) 1 (u_86 E.1) d_Wr_writeRepeat_135 (by decide) (by exact h16) rfl ?_
          refine x_iconst C d_Wr_writeRepeat_138 ?_
          refine x_isub C d_Wr_writeRepeat_139 ?_
          refine x_callVR C (G_Wr E.1) (u_468 E.1) (u_470 E.1) (us_7 E.1) (u_471 E.1) (u_8 E.1) d_Wr_writeRepeat_140 (c_Wr_writeLength l E h22 h24 (eOk_echo ok _ _).1 (by have := (eOk_echo ok st ec).2; omega) (by omega) (by omega) (by omega) (by omega)) nh_Wr_writeLength ln_Wr_writeLength rfl (by exact h22) (nle rfl) (nle rfl) (nle rfl) (nle rfl) (nle rfl) ?_
          first
            | (exfalso; omega)
            | exact x_vret C d_Wr_writeRepeat_143 (nle rfl) (nle rfl) ⟨rfl, rfl, rfl⟩
      · refine x_iconst C d_Wr_writeRepeat_43 ?_
        refine x_goto C (tgt := 48) d_Wr_writeRepeat_44 (by decide) ?_
        refine x_callVR C (G_Na E.1) (u_426 E.1) (u_427 E.1) (u_428 E.1) (u_429 E.1) (u_9 E.1) d_Wr_writeRepeat_48 (c_Na_writeBit l E h24 (eOk_bit ok _ _) (by have := len_bit x (24 + st) 0; omega) (by omega) (by omega) (by omega)) nh_Na_writeBit ln_Na_writeBit rfl rfl (nle rfl) (nle rfl) (nle rfl) (nle rfl) (nle rfl) ?_
        refine x_goto C (tgt := 122) d_Wr_writeRepeat_51 (by decide) ?_
        refine XW.heq (h' := sN s0.heap.size cI h (eEcho st ec x)) (by
          unfold eEcho
          first
            | (exfalso; omega)
            | (rw [if_neg (by omega), if_pos (by omega)]; done)
            | (rw [if_neg (by omega), if_neg (by omega), if_pos (by omega)]; done)
            | (rw [if_neg (by omega), if_neg (by omega), if_neg (by omega), show ec - 2 = 0 by omega]; done)
            | (rw [if_neg (by omega), if_neg (by omega), if_neg (by omega), show ec - 2 = 1 by omega]; done)) ?_
        refine x_aload_n C d_Wr_writeRepeat_122 rfl ?_
        refine x_getN C (G_Pa E.1) 0 (u_79 E.1) d_Wr_writeRepeat_123 (by decide) (by exact h16) rfl ?_
        refine x_iconst C d_Wr_writeRepeat_126 ?_
        refine x_icmp_ne C (tgt := 143) d_Wr_writeRepeat_127 (by decide) (by omega) (by omega) (by omega) (by omega) (fun c127 => ?_) (fun c127 => ?_)
        · first
            | (exfalso; omega)
            | exact x_vret C d_Wr_writeRepeat_143 (nle rfl) (nle rfl) ⟨rfl, rfl, rfl⟩
        · refine x_aload_n C d_Wr_writeRepeat_130 rfl ?_
          refine x_sipush C d_Wr_writeRepeat_131 (by decide) ?_
          refine x_aload_n C d_Wr_writeRepeat_134 rfl ?_
          refine x_getN C (G_Pa E.1) 1 (u_86 E.1) d_Wr_writeRepeat_135 (by decide) (by exact h16) rfl ?_
          refine x_iconst C d_Wr_writeRepeat_138 ?_
          refine x_isub C d_Wr_writeRepeat_139 ?_
          refine x_callVR C (G_Wr E.1) (u_468 E.1) (u_470 E.1) (us_7 E.1) (u_471 E.1) (u_8 E.1) d_Wr_writeRepeat_140 (c_Wr_writeLength l E h22 h24 (eOk_echo ok _ _).1 (by have := (eOk_echo ok st ec).2; omega) (by omega) (by omega) (by omega) (by omega)) nh_Wr_writeLength ln_Wr_writeLength rfl (by exact h22) (nle rfl) (nle rfl) (nle rfl) (nle rfl) (nle rfl) ?_
          first
            | (exfalso; omega)
            | exact x_vret C d_Wr_writeRepeat_143 (nle rfl) (nle rfl) ⟨rfl, rfl, rfl⟩

