/-! packets into bits: lengths, matches, echoes, END; the writer's object at 22 -/
abbrev oWr (b : Nat) : va_E := .inr (9, [.ref (b + 23)])
def hbL : Nat → Nat → Int → Int → Int
  | 0, _, _, q => q
  | r + 1, k, d, q => hbL r (k + 1) d (if 0 < d / 2 ^ k then (k : Int) else q)
theorem hbL_all : ∀ d : Fin 256, hbL 7 1 (d.val : Int) 0 = (hbZ (d.val : Int) : Int) := by decide +kernel
theorem hbL_eq {d : Int} (d1 : 0 ≤ d) (d2 : d < 256) : hbL 7 1 d 0 = (hbZ d : Int) := by
  have h1 := hbL_all ⟨d.toNat, by omega⟩
  have e : ((d.toNat : Nat) : Int) = d := by omega
  simp only [e] at h1
  exact h1
set_option maxRecDepth 100000 in
set_option maxHeartbeats 4000000 in
theorem lp_Wr_bits {a0 : Array Value} {s0 : State} {D : va_G} {cI cL : ClassId} (l : Launch) (E : a_E a0 s0 D cI cL) {p : Program} {e : Env} {R : Room} {s : State} {m : MethodId} {args : Array Value} {below : List Frame} {meth : Method} {c : Code} (C : XC s0 D cI cL p s m meth c "NarrowingPacker$PacketWriter" prog_11_method_8_code 3 (some .int) []) {h : AH} {K : Nat} {d X : Int} (d1 : 0 ≤ d) (d2 : d < 256) : ∀ (r k : Nat) (q : Int), r + k = 8 → hbL r k d q = X → XW s0 D p l e R s m args below meth c (XQ s0 D 0 0 (PR (some (.int (zI X))) h K) below s) 4 [(0, .int (zI d)), (1, .int (zI q)), (2, .int (zI ((k : Nat) : Int)))] [] h K 0 0 := by
  intro r
  induction r with
  | zero =>
    intro k q hk hX
    have hX : q = X := hX
    subst hX
    refine x_iload_n C d_Wr_bitsBelowHighest_4 rfl ?_
    refine x_bipush C d_Wr_bitsBelowHighest_5 (by decide) ?_
    refine x_icmp_ge C (tgt := 24) d_Wr_bitsBelowHighest_7 (by decide) (by omega) (by omega) (by omega) (by omega) (fun c7 => ?_) (fun c7 => ?_)
    · refine x_iload_n C d_Wr_bitsBelowHighest_24 rfl ?_
      exact x_iret C d_Wr_bitsBelowHighest_25 (nle rfl) (nle rfl) ⟨rfl, rfl, rfl⟩
    · exfalso; omega
  | succ r ih =>
    intro k q hk hX
    unfold hbL at hX
    have hdk : 0 ≤ d / 2 ^ k := Int.ediv_nonneg d1 (Int.le_of_lt (Int.pow_pos (by decide)))
    have hdl : d / 2 ^ k ≤ d := Int.ediv_le_self _ d1
    refine x_iload_n C d_Wr_bitsBelowHighest_4 rfl ?_
    refine x_bipush C d_Wr_bitsBelowHighest_5 (by decide) ?_
    refine x_icmp_ge C (tgt := 24) d_Wr_bitsBelowHighest_7 (by decide) (by omega) (by omega) (by omega) (by omega) (fun c7 => ?_) (fun c7 => ?_)
    · exfalso; omega
    · refine x_iload_n C d_Wr_bitsBelowHighest_10 rfl ?_
      refine x_iload_n C d_Wr_bitsBelowHighest_11 rfl ?_
      refine x_ishr C (q := 2 ^ k) k d_Wr_bitsBelowHighest_12 rfl rfl (by omega) (by omega) (by omega) ?_
      refine x_if_le C (tgt := 18) d_Wr_bitsBelowHighest_13 (by decide) (by omega) (by omega) (fun c13 => ?_) (fun c13 => ?_)
      · refine x_iinc C d_Wr_bitsBelowHighest_18 (by decide) rfl ?_
        refine x_goto C (tgt := 4) d_Wr_bitsBelowHighest_21 (by decide) ?_
        first
          | (rw [if_pos c13] at hX
             refine XW.loc (lv' := [(0, .int (zI d)), (1, .int (zI (k : Int))), (2, .int (zI ((k + 1 : Nat) : Int)))]) ⟨rfl, rfl, by rw [show ((k + 1 : Nat) : Int) = (k : Int) + 1 by omega]; rfl, trivial⟩ ?_
             exact ih _ _ (by omega) hX)
          | (rw [if_neg (by omega)] at hX
             refine XW.loc (lv' := [(0, .int (zI d)), (1, .int (zI q)), (2, .int (zI ((k + 1 : Nat) : Int)))]) ⟨rfl, rfl, by rw [show ((k + 1 : Nat) : Int) = (k : Int) + 1 by omega]; rfl, trivial⟩ ?_
             exact ih _ _ (by omega) hX)
      · refine x_iload_n C d_Wr_bitsBelowHighest_16 rfl ?_
        refine x_istore_n C d_Wr_bitsBelowHighest_17 (by decide) ?_
        refine x_iinc C d_Wr_bitsBelowHighest_18 (by decide) rfl ?_
        refine x_goto C (tgt := 4) d_Wr_bitsBelowHighest_21 (by decide) ?_
        first
          | (rw [if_pos c13] at hX
             refine XW.loc (lv' := [(0, .int (zI d)), (1, .int (zI (k : Int))), (2, .int (zI ((k + 1 : Nat) : Int)))]) ⟨rfl, rfl, by rw [show ((k + 1 : Nat) : Int) = (k : Int) + 1 by omega]; rfl, trivial⟩ ?_
             exact ih _ _ (by omega) hX)
          | (rw [if_neg (by omega)] at hX
             refine XW.loc (lv' := [(0, .int (zI d)), (1, .int (zI q)), (2, .int (zI ((k + 1 : Nat) : Int)))]) ⟨rfl, rfl, by rw [show ((k + 1 : Nat) : Int) = (k : Int) + 1 by omega]; rfl, trivial⟩ ?_
             exact ih _ _ (by omega) hX)
set_option maxRecDepth 100000 in
set_option maxHeartbeats 4000000 in
theorem c_Wr_bitsBelowHighest {a0 : Array Value} {s0 : State} {D : va_G} {cI cL : ClassId} (l : Launch) (E : a_E a0 s0 D cI cL) {h : AH} {K : Nat} {d : Int} (d1 : 0 ≤ d) (d2 : d < 256) : XM l s0 D y_Wr_bitsBelowHighest prog_11_method_8_code 3 (some .int) 0 0 0 [.int (zI d)] (h) (K) (PR (some (.int (zI (hbZ d : Int)))) h K) := by
  refine XM.of (cI := cI) (cL := cL) (own := "NarrowingPacker$PacketWriter") (by decide) rfl E.2 (nle rfl) ?_
  intro p e s m below meth c C hn
  refine x_iconst C d_Wr_bitsBelowHighest_0 ?_
  refine x_istore_n C d_Wr_bitsBelowHighest_1 (by decide) ?_
  refine x_iconst C d_Wr_bitsBelowHighest_2 ?_
  refine x_istore_n C d_Wr_bitsBelowHighest_3 (by decide) ?_
  refine XW.loc (lv' := [(0, .int (zI d)), (1, .int (zI 0)), (2, .int (zI ((1 : Nat) : Int)))]) ⟨rfl, rfl, rfl, trivial⟩ ?_
  exact lp_Wr_bits l E C d1 d2 7 1 0 rfl (hbL_eq d1 d2)


