/-! choosing: its object at 21, the source at 1 and 2 -/
abbrev oCo (c ml md el ec : Int) : va_E := .inr (2, [.int (zI c), .int (zI ml), .int (zI md), .int (zI el), .int (zI ec)])
theorem agree_b {src : Int → Int} {n j i : Int} : ∀ (r : Nat) (k : Int), k ≤ agreeZ src n j i r k ∧ agreeZ src n j i r k ≤ k + r := by
  intro r
  induction r with
  | zero => intro k; exact ⟨Int.le_refl _, by show k ≤ k + ((0 : Nat) : Int); omega⟩
  | succ r ih =>
    intro k
    unfold agreeZ
    split
    · have := ih (k + 1); omega
    · omega
theorem ag_b {src : Int → Int} {n j i : Int} (hi : i ≤ n) : 0 ≤ agZ src n j i ∧ agZ src n j i ≤ n - i := by
  unfold agZ
  split
  · omega
  · have := agree_b (src := src) (n := n) (j := j) (i := i) (n - i).toNat 0
    omega
set_option maxRecDepth 100000 in
set_option maxHeartbeats 4000000 in
theorem lp_Co_agree {a0 : Array Value} {s0 : State} {D : va_G} {cI cL : ClassId} (l : Launch) (E : a_E a0 s0 D cI cL) {p : Program} {e : Env} {R : Room} {s : State} {m : MethodId} {args : Array Value} {below : List Frame} {meth : Method} {c : Code} (C : XC s0 D cI cL p s m meth c "NarrowingPacker$Chooser" prog_4_method_5_code 4 (some .int) []) {h : AH} {K : Nat} {src : Int → Int} {n i j X : Int} (h1 : h 1 = some (oBy s0.heap.size 2 n)) (h2 : h 2 = some (iA cI 120 src)) (hs : ∀ q, 0 ≤ src q ∧ src q < 256) (i1 : 0 ≤ i) (i2 : i ≤ n) (n2 : n ≤ 120) (j1 : 0 ≤ j) (j2 : j < i) : ∀ (r : Nat) (k : Int), 0 ≤ k → n - i - k = (r : Int) → agreeZ src n j i r k = X → XW s0 D p l e R s m args below meth c (XQ s0 D 0 0 (PR (some (.int (zI X))) h K) below s) 13 [(0, .ref (s0.heap.size + 1)), (1, .int (zI j)), (2, .int (zI i)), (3, .int (zI k))] [] h K 0 0 := by
  intro r
  induction r with
  | zero =>
    intro k k0 hk hX
    have hX : k = X := hX
    subst hX
    refine x_iload_n C d_Co_agreeing_13 rfl ?_
    refine x_iload_n C d_Co_agreeing_14 rfl ?_
    refine x_iadd C d_Co_agreeing_15 ?_
    refine x_aload_n C d_Co_agreeing_16 rfl ?_
    refine x_getN C (G_By E.1) 1 (u_42 E.1) d_Co_agreeing_17 (by decide) (by exact h1) rfl ?_
    refine x_icmp_ge C (tgt := 48) d_Co_agreeing_20 (by decide) (by omega) (by omega) (by omega) (by omega) (fun c20 => ?_) (fun c20 => ?_)
    · refine x_iload_n C d_Co_agreeing_48 rfl ?_
      exact x_iret C d_Co_agreeing_49 (nle rfl) (nle rfl) ⟨rfl, rfl, rfl⟩
    · exfalso; omega
  | succ r ih =>
    intro k k0 hk hX
    have s1 := hs (j + k)
    have s2 := hs (i + k)
    unfold agreeZ at hX
    refine x_iload_n C d_Co_agreeing_13 rfl ?_
    refine x_iload_n C d_Co_agreeing_14 rfl ?_
    refine x_iadd C d_Co_agreeing_15 ?_
    refine x_aload_n C d_Co_agreeing_16 rfl ?_
    refine x_getN C (G_By E.1) 1 (u_42 E.1) d_Co_agreeing_17 (by decide) (by exact h1) rfl ?_
    refine x_icmp_ge C (tgt := 48) d_Co_agreeing_20 (by decide) (by omega) (by omega) (by omega) (by omega) (fun c20 => ?_) (fun c20 => ?_)
    · first
        | (exfalso; omega)
        | (rw [if_neg (fun z => c39 z.2)] at hX; subst hX; exact (x_iload_n C d_Co_agreeing_48 rfl (x_iret C d_Co_agreeing_49 (nle rfl) (nle rfl) ⟨rfl, rfl, rfl⟩)))
    · refine x_aload_n C d_Co_agreeing_23 rfl ?_
      refine x_getN C (G_By E.1) 0 (u_40 E.1) d_Co_agreeing_24 (by decide) (by exact h1) rfl ?_
      refine x_iload_n C d_Co_agreeing_27 rfl ?_
      refine x_iload_n C d_Co_agreeing_28 rfl ?_
      refine x_iadd C d_Co_agreeing_29 ?_
      refine x_iald C d_Co_agreeing_30 (by exact h2) (by omega) (by omega) (by omega) ?_
      refine x_aload_n C d_Co_agreeing_31 rfl ?_
      refine x_getN C (G_By E.1) 0 (u_40 E.1) d_Co_agreeing_32 (by decide) (by exact h1) rfl ?_
      refine x_iload_n C d_Co_agreeing_35 rfl ?_
      refine x_iload_n C d_Co_agreeing_36 rfl ?_
      refine x_iadd C d_Co_agreeing_37 ?_
      refine x_iald C d_Co_agreeing_38 (by exact h2) (by omega) (by omega) (by omega) ?_
      refine x_icmp_ne C (tgt := 48) d_Co_agreeing_39 (by decide) (by omega) (by omega) (by omega) (by omega) (fun c39 => ?_) (fun c39 => ?_)
      · first
          | (exfalso; omega)
          | (rw [if_neg (fun z => c39 z.2)] at hX; subst hX; exact (x_iload_n C d_Co_agreeing_48 rfl (x_iret C d_Co_agreeing_49 (nle rfl) (nle rfl) ⟨rfl, rfl, rfl⟩)))
      · refine x_iinc C d_Co_agreeing_42 (by decide) rfl ?_
        refine x_goto C (tgt := 13) d_Co_agreeing_45 (by decide) ?_
        rw [if_pos ⟨by omega, c39⟩] at hX
        refine XW.loc (lv' := [(0, .ref (s0.heap.size + 1)), (1, .int (zI j)), (2, .int (zI i)), (3, .int (zI (k + 1)))]) ⟨rfl, rfl, rfl, rfl, trivial⟩ ?_
        exact ih _ (by omega) (by omega) hX
set_option maxRecDepth 100000 in
set_option maxHeartbeats 4000000 in
theorem c_Co_agreeing {a0 : Array Value} {s0 : State} {D : va_G} {cI cL : ClassId} (l : Launch) (E : a_E a0 s0 D cI cL) {h : AH} {K : Nat} {src : Int → Int} {n i j : Int} (h1 : h 1 = some (oBy s0.heap.size 2 n)) (h2 : h 2 = some (iA cI 120 src)) (hs : ∀ q, 0 ≤ src q ∧ src q < 256) (i1 : 0 ≤ i) (i2 : i ≤ n) (n2 : n ≤ 120) (j1 : -200 ≤ j) (j2 : j ≤ 200) : XM l s0 D y_Co_agreeing prog_4_method_5_code 4 (some .int) 0 0 0 [.ref (s0.heap.size + 1), .int (zI j), .int (zI i)] (h) (K) (PR (some (.int (zI (agZ src n j i)))) h K) := by
  refine XM.of (cI := cI) (cL := cL) (own := "NarrowingPacker$Chooser") (by decide) rfl E.2 (nle rfl) ?_
  intro p e s m below meth c C hn
  refine x_iload_n C d_Co_agreeing_0 rfl ?_
  refine x_if_lt C (tgt := 9) d_Co_agreeing_1 (by decide) (by omega) (by omega) (fun c1 => ?_) (fun c1 => ?_)
  · refine x_iconst C d_Co_agreeing_9 ?_
    exact x_iret C d_Co_agreeing_10 (nle rfl) (nle rfl) ⟨by unfold agZ; rw [if_pos (by omega)], rfl, rfl⟩
  · refine x_iload_n C d_Co_agreeing_4 rfl ?_
    refine x_iload_n C d_Co_agreeing_5 rfl ?_
    refine x_icmp_lt C (tgt := 11) d_Co_agreeing_6 (by decide) (by omega) (by omega) (by omega) (by omega) (fun c6 => ?_) (fun c6 => ?_)
    · refine x_iconst C d_Co_agreeing_11 ?_
      refine x_istore_n C d_Co_agreeing_12 (by decide) ?_
      refine XW.loc (lv' := [(0, .ref (s0.heap.size + 1)), (1, .int (zI j)), (2, .int (zI i)), (3, .int (zI 0))]) ⟨rfl, rfl, rfl, rfl, trivial⟩ ?_
      exact lp_Co_agree l E C h1 h2 hs i1 i2 n2 (by omega) (by omega) (n - i).toNat 0 (by omega) (by omega) (by unfold agZ; rw [if_neg (by omega)])
    · refine x_iconst C d_Co_agreeing_9 ?_
      exact x_iret C d_Co_agreeing_10 (nle rfl) (nle rfl) ⟨by unfold agZ; rw [if_pos (by omega)], rfl, rfl⟩

set_option maxRecDepth 100000 in
set_option maxHeartbeats 4000000 in
theorem lp_Co_match {a0 : Array Value} {s0 : State} {D : va_G} {cI cL : ClassId} (l : Launch) (E : a_E a0 s0 D cI cL) {p : Program} {e : Env} {R : Room} {s : State} {m : MethodId} {args : Array Value} {below : List Frame} {meth : Method} {c : Code} (C : XC s0 D cI cL p s m meth c "NarrowingPacker$Chooser" prog_4_method_3_code 6 none []) (hR : R = a_rm 1 0 0) {h : AH} {K : Nat} {src : Int → Int} {n i cc el ec : Int} {X : Int × Int} (h1 : h 1 = some (oBy s0.heap.size 2 n)) (h2 : h 2 = some (iA cI 120 src)) (hs : ∀ q, 0 ≤ src q ∧ src q < 256) (i1 : 0 ≤ i) (i2 : i ≤ n) (n2 : n ≤ 120) (c1 : 1 ≤ cc) (c2 : cc ≤ 16) : ∀ (j : Nat) (tr ln ds : Int), (j : Int) ≤ i → 0 ≤ tr → tr ≤ 16 → 0 ≤ ln → ln ≤ 120 → matchZ src n i cc j (tr, ln, ds) = X → XW s0 D p l e R s m args below meth c (XQ s0 D 0 0 (PR none (a_up h 21 (oCo cc X.1 X.2 el ec)) K) below s) 17 [(0, .ref (s0.heap.size + 21)), (1, .ref (s0.heap.size + 1)), (2, .int (zI i)), (3, .int (zI tr)), (4, .int (zI ((j : Nat) - 1 : Int)))] [] (a_up h 21 (oCo cc ln ds el ec)) K 0 0 := by
  subst hR
  intro j
  induction j with
  | zero =>
    intro tr ln ds hj t1 t2 l1 l2 hX
    have hX : (ln, ds) = X := hX
    subst hX
    refine x_iload C d_Co_findMatch_17 rfl ?_
    refine x_if_lt C (tgt := 77) d_Co_findMatch_19 (by decide) (by omega) (by omega) (fun c19 => ?_) (fun c19 => ?_)
    · exact x_vret C d_Co_findMatch_77 (nle rfl) (nle rfl) ⟨rfl, rfl, rfl⟩
    · exfalso; omega
  | succ j ih =>
    intro tr ln ds hj t1 t2 l1 l2 hX
    rw [show (((j + 1 : Nat) : Int) - 1) = (j : Int) by omega]
    have ha := ag_b (src := src) (n := n) (j := (j : Int)) (i := i) i2
    simp only [matchZ] at hX
    refine x_iload C d_Co_findMatch_17 rfl ?_
    refine x_if_lt C (tgt := 77) d_Co_findMatch_19 (by decide) (by omega) (by omega) (fun c19 => ?_) (fun c19 => ?_)
    · first
        | (exfalso; omega)
        | (rw [if_neg (by omega)] at hX; subst hX; exact x_vret C d_Co_findMatch_77 (nle rfl) (nle rfl) ⟨rfl, rfl, rfl⟩)
    · refine x_iload_n C d_Co_findMatch_22 rfl ?_
      refine x_aload_n C d_Co_findMatch_23 rfl ?_
      refine x_get C (G_Co E.1) 0 (u_149 E.1) d_Co_findMatch_24 (by decide) rfl rfl ?_
      refine x_icmp_ge C (tgt := 77) d_Co_findMatch_27 (by decide) (by omega) (by omega) (by omega) (by omega) (fun c27 => ?_) (fun c27 => ?_)
      · first
          | (exfalso; omega)
          | (rw [if_neg (by omega)] at hX; subst hX; exact x_vret C d_Co_findMatch_77 (nle rfl) (nle rfl) ⟨rfl, rfl, rfl⟩)
      · have c27' : tr < cc := by omega
        refine x_aload_n C d_Co_findMatch_30 rfl ?_
        refine x_iload C d_Co_findMatch_31 rfl ?_
        refine x_iload_n C d_Co_findMatch_33 rfl ?_
        refine x_callSR C (u_394 E.1) (u_395 E.1) (u_396 E.1) (u_6 E.1) d_Co_findMatch_34 (c_Co_agreeing l E (by exact h1) (by exact h2) hs i1 i2 n2 (by omega) (by omega)) nh_Co_agreeing ln_Co_agreeing rfl (nle rfl) (nle rfl) (nle rfl) (nle rfl) (nle rfl) ?_
        refine x_istore C d_Co_findMatch_37 (by decide) ?_
        refine x_iload C d_Co_findMatch_39 rfl ?_
        refine x_iconst C d_Co_findMatch_41 ?_
        refine x_icmp_lt C (tgt := 71) d_Co_findMatch_42 (by decide) (by omega) (by omega) (by omega) (by omega) (fun c42 => ?_) (fun c42 => ?_)
        · refine x_iinc C d_Co_findMatch_71 (by decide) rfl ?_
          refine x_goto C (tgt := 17) d_Co_findMatch_74 (by decide) ?_
          first
            | (rw [if_pos c27', if_neg (by omega)] at hX
               refine XW.loc (lv' := [(0, .ref (s0.heap.size + 21)), (1, .ref (s0.heap.size + 1)), (2, .int (zI i)), (3, .int (zI tr)), (4, .int (zI ((j : Nat) - 1 : Int)))]) ⟨rfl, rfl, rfl, rfl, by rw [show ((j : Nat) - 1 : Int) = (j : Int) + -1 by omega]; rfl, trivial⟩ ?_
               exact ih _ _ _ (by omega) (by omega) (by omega) l1 l2 hX)
            | (rw [if_pos c27', if_pos (by omega), if_neg (by omega)] at hX
               refine XW.loc (lv' := [(0, .ref (s0.heap.size + 21)), (1, .ref (s0.heap.size + 1)), (2, .int (zI i)), (3, .int (zI (tr + 1))), (4, .int (zI ((j : Nat) - 1 : Int)))]) ⟨rfl, rfl, rfl, rfl, by rw [show ((j : Nat) - 1 : Int) = (j : Int) + -1 by omega]; rfl, trivial⟩ ?_
               exact ih _ _ _ (by omega) (by omega) (by omega) l1 l2 hX)
            | (rw [if_pos c27', if_pos (by omega), if_pos (by omega)] at hX
               refine XW.heq (h' := a_up h 21 (oCo cc (agZ src n j i) (i - j) el ec)) (by simp only [a_up_up]; rfl) ?_
               refine XW.loc (lv' := [(0, .ref (s0.heap.size + 21)), (1, .ref (s0.heap.size + 1)), (2, .int (zI i)), (3, .int (zI (tr + 1))), (4, .int (zI ((j : Nat) - 1 : Int)))]) ⟨rfl, rfl, rfl, rfl, by rw [show ((j : Nat) - 1 : Int) = (j : Int) + -1 by omega]; rfl, trivial⟩ ?_
               exact ih _ _ _ (by omega) (by omega) (by omega) (by omega) (by omega) hX)
        · refine x_iinc C d_Co_findMatch_45 (by decide) rfl ?_
          refine x_iload C d_Co_findMatch_48 rfl ?_
          refine x_aload_n C d_Co_findMatch_50 rfl ?_
          refine x_get C (G_Co E.1) 1 (u_150 E.1) d_Co_findMatch_51 (by decide) rfl rfl ?_
          refine x_icmp_le C (tgt := 71) d_Co_findMatch_54 (by decide) (by omega) (by omega) (by omega) (by omega) (fun c54 => ?_) (fun c54 => ?_)
          · refine x_iinc C d_Co_findMatch_71 (by decide) rfl ?_
            refine x_goto C (tgt := 17) d_Co_findMatch_74 (by decide) ?_
            first
              | (rw [if_pos c27', if_neg (by omega)] at hX
                 refine XW.loc (lv' := [(0, .ref (s0.heap.size + 21)), (1, .ref (s0.heap.size + 1)), (2, .int (zI i)), (3, .int (zI tr)), (4, .int (zI ((j : Nat) - 1 : Int)))]) ⟨rfl, rfl, rfl, rfl, by rw [show ((j : Nat) - 1 : Int) = (j : Int) + -1 by omega]; rfl, trivial⟩ ?_
                 exact ih _ _ _ (by omega) (by omega) (by omega) l1 l2 hX)
              | (rw [if_pos c27', if_pos (by omega), if_neg (by omega)] at hX
                 refine XW.loc (lv' := [(0, .ref (s0.heap.size + 21)), (1, .ref (s0.heap.size + 1)), (2, .int (zI i)), (3, .int (zI (tr + 1))), (4, .int (zI ((j : Nat) - 1 : Int)))]) ⟨rfl, rfl, rfl, rfl, by rw [show ((j : Nat) - 1 : Int) = (j : Int) + -1 by omega]; rfl, trivial⟩ ?_
                 exact ih _ _ _ (by omega) (by omega) (by omega) l1 l2 hX)
              | (rw [if_pos c27', if_pos (by omega), if_pos (by omega)] at hX
                 refine XW.heq (h' := a_up h 21 (oCo cc (agZ src n j i) (i - j) el ec)) (by simp only [a_up_up]; rfl) ?_
                 refine XW.loc (lv' := [(0, .ref (s0.heap.size + 21)), (1, .ref (s0.heap.size + 1)), (2, .int (zI i)), (3, .int (zI (tr + 1))), (4, .int (zI ((j : Nat) - 1 : Int)))]) ⟨rfl, rfl, rfl, rfl, by rw [show ((j : Nat) - 1 : Int) = (j : Int) + -1 by omega]; rfl, trivial⟩ ?_
                 exact ih _ _ _ (by omega) (by omega) (by omega) (by omega) (by omega) hX)
          · refine x_aload_n C d_Co_findMatch_57 rfl ?_
            refine x_iload C d_Co_findMatch_58 rfl ?_
            refine x_put C (G_Co E.1) 1 (u_150 E.1) d_Co_findMatch_60 (by decide) rfl rfl rfl rfl (nle rfl) ?_
            refine x_aload_n C d_Co_findMatch_63 rfl ?_
            refine x_iload_n C d_Co_findMatch_64 rfl ?_
            refine x_iload C d_Co_findMatch_65 rfl ?_
            refine x_isub C d_Co_findMatch_67 ?_
            refine x_put C (G_Co E.1) 2 (u_151 E.1) d_Co_findMatch_68 (by decide) rfl rfl rfl rfl (nle rfl) ?_
            refine x_iinc C d_Co_findMatch_71 (by decide) rfl ?_
            refine x_goto C (tgt := 17) d_Co_findMatch_74 (by decide) ?_
            first
              | (rw [if_pos c27', if_neg (by omega)] at hX
                 refine XW.loc (lv' := [(0, .ref (s0.heap.size + 21)), (1, .ref (s0.heap.size + 1)), (2, .int (zI i)), (3, .int (zI tr)), (4, .int (zI ((j : Nat) - 1 : Int)))]) ⟨rfl, rfl, rfl, rfl, by rw [show ((j : Nat) - 1 : Int) = (j : Int) + -1 by omega]; rfl, trivial⟩ ?_
                 exact ih _ _ _ (by omega) (by omega) (by omega) l1 l2 hX)
              | (rw [if_pos c27', if_pos (by omega), if_neg (by omega)] at hX
                 refine XW.loc (lv' := [(0, .ref (s0.heap.size + 21)), (1, .ref (s0.heap.size + 1)), (2, .int (zI i)), (3, .int (zI (tr + 1))), (4, .int (zI ((j : Nat) - 1 : Int)))]) ⟨rfl, rfl, rfl, rfl, by rw [show ((j : Nat) - 1 : Int) = (j : Int) + -1 by omega]; rfl, trivial⟩ ?_
                 exact ih _ _ _ (by omega) (by omega) (by omega) l1 l2 hX)
              | (rw [if_pos c27', if_pos (by omega), if_pos (by omega)] at hX
                 refine XW.heq (h' := a_up h 21 (oCo cc (agZ src n j i) (i - j) el ec)) (by simp only [a_up_up]; rfl) ?_
                 refine XW.loc (lv' := [(0, .ref (s0.heap.size + 21)), (1, .ref (s0.heap.size + 1)), (2, .int (zI i)), (3, .int (zI (tr + 1))), (4, .int (zI ((j : Nat) - 1 : Int)))]) ⟨rfl, rfl, rfl, rfl, by rw [show ((j : Nat) - 1 : Int) = (j : Int) + -1 by omega]; rfl, trivial⟩ ?_
                 exact ih _ _ _ (by omega) (by omega) (by omega) (by omega) (by omega) hX)
set_option maxRecDepth 100000 in
set_option maxHeartbeats 4000000 in
theorem c_Co_findMatch {a0 : Array Value} {s0 : State} {D : va_G} {cI cL : ClassId} (l : Launch) (E : a_E a0 s0 D cI cL) {h : AH} {K : Nat} {src : Int → Int} {n i cc ml md el ec : Int} (h21 : h 21 = some (oCo cc ml md el ec)) (h1 : h 1 = some (oBy s0.heap.size 2 n)) (h2 : h 2 = some (iA cI 120 src)) (hs : ∀ q, 0 ≤ src q ∧ src q < 256) (i1 : 0 ≤ i) (i2 : i ≤ n) (n2 : n ≤ 120) (c1 : 1 ≤ cc) (c2 : cc ≤ 16) : XM l s0 D y_Co_findMatch prog_4_method_3_code 6 none 1 0 0 [.ref (s0.heap.size + 21), .ref (s0.heap.size + 1), .int (zI i)] (h) (K) (PR none (a_up h 21 (oCo cc (matchZ src n i cc i.toNat (0, 0, 0)).1 (matchZ src n i cc i.toNat (0, 0, 0)).2 el ec)) K) := by
  refine XM.of (cI := cI) (cL := cL) (own := "NarrowingPacker$Chooser") (by decide) rfl E.2 (nle rfl) ?_
  intro p e s m below meth c C hn
  refine x_aload_n C d_Co_findMatch_0 rfl ?_
  refine x_iconst C d_Co_findMatch_1 ?_
  refine x_put C (G_Co E.1) 1 (u_150 E.1) d_Co_findMatch_2 (by decide) rfl h21 rfl rfl (nle rfl) ?_
  refine x_aload_n C d_Co_findMatch_5 rfl ?_
  refine x_iconst C d_Co_findMatch_6 ?_
  refine x_put C (G_Co E.1) 2 (u_151 E.1) d_Co_findMatch_7 (by decide) rfl (a_up_s _ _ _) rfl rfl (nle rfl) ?_
  refine x_iconst C d_Co_findMatch_10 ?_
  refine x_istore_n C d_Co_findMatch_11 (by decide) ?_
  refine x_iload_n C d_Co_findMatch_12 rfl ?_
  refine x_iconst C d_Co_findMatch_13 ?_
  refine x_isub C d_Co_findMatch_14 ?_
  refine x_istore C d_Co_findMatch_15 (by decide) ?_
  refine XW.heq (h' := a_up h 21 (oCo cc 0 0 el ec)) (by simp only [a_up_up]; rfl) ?_
  refine XW.loc (lv' := [(0, .ref (s0.heap.size + 21)), (1, .ref (s0.heap.size + 1)), (2, .int (zI i)), (3, .int (zI 0)), (4, .int (zI ((i.toNat : Nat) - 1 : Int)))]) ⟨rfl, rfl, rfl, rfl, by rw [show ((i.toNat : Nat) : Int) = i by omega]; rfl, trivial⟩ ?_
  exact lp_Co_match l E C rfl h1 h2 hs i1 i2 n2 c1 c2 i.toNat 0 0 0 (by omega) (by omega) (by omega) (by omega) (by omega) rfl

set_option maxRecDepth 100000 in
set_option maxHeartbeats 4000000 in
theorem lp_Co_echo {a0 : Array Value} {s0 : State} {D : va_G} {cI cL : ClassId} (l : Launch) (E : a_E a0 s0 D cI cL) {p : Program} {e : Env} {R : Room} {s : State} {m : MethodId} {args : Array Value} {below : List Frame} {meth : Method} {c : Code} (C : XC s0 D cI cL p s m meth c "NarrowingPacker$Chooser" prog_4_method_4_code 6 none []) (hR : R = a_rm 1 0 0) {h : AH} {K : Nat} {src bk : Int → Int} {n i cc ml md : Int} {X : Int × Int} (h1 : h 1 = some (oBy s0.heap.size 2 n)) (h2 : h 2 = some (iA cI 120 src)) (hs : ∀ q, 0 ≤ src q ∧ src q < 256) (i1 : 0 ≤ i) (i2 : i ≤ n) (n2 : n ≤ 120) (h20 : h 20 = some (iA cI 4 bk)) (hb : ∀ q, 1 ≤ bk q ∧ bk q ≤ 120) : ∀ (r : Nat) (k ln ec : Int), 0 ≤ k → (r : Int) + k = 4 → 0 ≤ ln → ln ≤ 120 → echoZ src n i bk r k (ln, ec) = X → XW s0 D p l e R s m args below meth c (XQ s0 D 0 0 (PR none (a_up h 21 (oCo cc ml md X.1 X.2)) K) below s) 13 [(0, .ref (s0.heap.size + 21)), (1, .ref (s0.heap.size + 1)), (2, .int (zI i)), (3, .ref (s0.heap.size + 20)), (4, .int (zI k))] [] (a_up h 21 (oCo cc ml md ln ec)) K 0 0 := by
  subst hR
  intro r
  induction r with
  | zero =>
    intro k ln ec k0 hk l1 l2 hX
    have hX : (ln, ec) = X := hX
    subst hX
    refine x_iload C d_Co_findEcho_13 rfl ?_
    refine x_iconst C d_Co_findEcho_15 ?_
    refine x_icmp_ge C (tgt := 59) d_Co_findEcho_16 (by decide) (by omega) (by omega) (by omega) (by omega) (fun c16 => ?_) (fun c16 => ?_)
    · exact x_vret C d_Co_findEcho_59 (nle rfl) (nle rfl) ⟨rfl, rfl, rfl⟩
    · exfalso; omega
  | succ r ih =>
    intro k ln ec k0 hk l1 l2 hX
    have hbk := hb k
    have ha := ag_b (src := src) (n := n) (j := i - bk k) (i := i) i2
    simp only [echoZ] at hX
    refine x_iload C d_Co_findEcho_13 rfl ?_
    refine x_iconst C d_Co_findEcho_15 ?_
    refine x_icmp_ge C (tgt := 59) d_Co_findEcho_16 (by decide) (by omega) (by omega) (by omega) (by omega) (fun c16 => ?_) (fun c16 => ?_)
    · exfalso; omega
    · refine x_aload_n C d_Co_findEcho_19 rfl ?_
      refine x_iload_n C d_Co_findEcho_20 rfl ?_
      refine x_aload_n C d_Co_findEcho_21 rfl ?_
      refine x_iload C d_Co_findEcho_22 rfl ?_
      refine x_iald C d_Co_findEcho_24 (by exact h20) (by omega) (by omega) (by omega) ?_
      refine x_isub C d_Co_findEcho_25 ?_
      refine x_iload_n C d_Co_findEcho_26 rfl ?_
      refine x_callSR C (u_394 E.1) (u_395 E.1) (u_396 E.1) (u_6 E.1) d_Co_findEcho_27 (c_Co_agreeing l E (by exact h1) (by exact h2) hs i1 i2 n2 (by omega) (by omega)) nh_Co_agreeing ln_Co_agreeing rfl (nle rfl) (nle rfl) (nle rfl) (nle rfl) (nle rfl) ?_
      refine x_istore C d_Co_findEcho_30 (by decide) ?_
      refine x_iload C d_Co_findEcho_32 rfl ?_
      refine x_aload_n C d_Co_findEcho_34 rfl ?_
      refine x_get C (G_Co E.1) 3 (u_152 E.1) d_Co_findEcho_35 (by decide) rfl rfl ?_
      refine x_icmp_le C (tgt := 53) d_Co_findEcho_38 (by decide) (by omega) (by omega) (by omega) (by omega) (fun c38 => ?_) (fun c38 => ?_)
      · refine x_iinc C d_Co_findEcho_53 (by decide) rfl ?_
        refine x_goto C (tgt := 13) d_Co_findEcho_56 (by decide) ?_
        first
          | (rw [if_neg (by omega)] at hX
             refine XW.loc (lv' := [(0, .ref (s0.heap.size + 21)), (1, .ref (s0.heap.size + 1)), (2, .int (zI i)), (3, .ref (s0.heap.size + 20)), (4, .int (zI (k + 1)))]) ⟨rfl, rfl, rfl, rfl, rfl, trivial⟩ ?_
             exact ih _ _ _ (by omega) (by omega) l1 l2 hX)
          | (rw [if_pos (by omega)] at hX
             refine XW.heq (h' := a_up h 21 (oCo cc ml md (agZ src n (i - bk k) i) k)) (by simp only [a_up_up]; rfl) ?_
             refine XW.loc (lv' := [(0, .ref (s0.heap.size + 21)), (1, .ref (s0.heap.size + 1)), (2, .int (zI i)), (3, .ref (s0.heap.size + 20)), (4, .int (zI (k + 1)))]) ⟨rfl, rfl, rfl, rfl, rfl, trivial⟩ ?_
             exact ih _ _ _ (by omega) (by omega) (by omega) (by omega) hX)
      · refine x_aload_n C d_Co_findEcho_41 rfl ?_
        refine x_iload C d_Co_findEcho_42 rfl ?_
        refine x_put C (G_Co E.1) 3 (u_152 E.1) d_Co_findEcho_44 (by decide) rfl rfl rfl rfl (nle rfl) ?_
        refine x_aload_n C d_Co_findEcho_47 rfl ?_
        refine x_iload C d_Co_findEcho_48 rfl ?_
        refine x_put C (G_Co E.1) 4 (u_153 E.1) d_Co_findEcho_50 (by decide) rfl rfl rfl rfl (nle rfl) ?_
        refine x_iinc C d_Co_findEcho_53 (by decide) rfl ?_
        refine x_goto C (tgt := 13) d_Co_findEcho_56 (by decide) ?_
        first
          | (rw [if_neg (by omega)] at hX
             refine XW.loc (lv' := [(0, .ref (s0.heap.size + 21)), (1, .ref (s0.heap.size + 1)), (2, .int (zI i)), (3, .ref (s0.heap.size + 20)), (4, .int (zI (k + 1)))]) ⟨rfl, rfl, rfl, rfl, rfl, trivial⟩ ?_
             exact ih _ _ _ (by omega) (by omega) l1 l2 hX)
          | (rw [if_pos (by omega)] at hX
             refine XW.heq (h' := a_up h 21 (oCo cc ml md (agZ src n (i - bk k) i) k)) (by simp only [a_up_up]; rfl) ?_
             refine XW.loc (lv' := [(0, .ref (s0.heap.size + 21)), (1, .ref (s0.heap.size + 1)), (2, .int (zI i)), (3, .ref (s0.heap.size + 20)), (4, .int (zI (k + 1)))]) ⟨rfl, rfl, rfl, rfl, rfl, trivial⟩ ?_
             exact ih _ _ _ (by omega) (by omega) (by omega) (by omega) hX)
set_option maxRecDepth 100000 in
set_option maxHeartbeats 4000000 in
theorem c_Co_findEcho {a0 : Array Value} {s0 : State} {D : va_G} {cI cL : ClassId} (l : Launch) (E : a_E a0 s0 D cI cL) {h : AH} {K : Nat} {src bk : Int → Int} {n i cc ml md el ec : Int} (h21 : h 21 = some (oCo cc ml md el ec)) (h1 : h 1 = some (oBy s0.heap.size 2 n)) (h2 : h 2 = some (iA cI 120 src)) (hs : ∀ q, 0 ≤ src q ∧ src q < 256) (i1 : 0 ≤ i) (i2 : i ≤ n) (n2 : n ≤ 120) (h20 : h 20 = some (iA cI 4 bk)) (hb : ∀ q, 1 ≤ bk q ∧ bk q ≤ 120) : XM l s0 D y_Co_findEcho prog_4_method_4_code 6 none 1 0 0 [.ref (s0.heap.size + 21), .ref (s0.heap.size + 1), .int (zI i), .ref (s0.heap.size + 20)] (h) (K) (PR none (a_up h 21 (oCo cc ml md (echoZ src n i bk 4 0 (0, 0)).1 (echoZ src n i bk 4 0 (0, 0)).2)) K) := by
  refine XM.of (cI := cI) (cL := cL) (own := "NarrowingPacker$Chooser") (by decide) rfl E.2 (nle rfl) ?_
  intro p e s m below meth c C hn
  refine x_aload_n C d_Co_findEcho_0 rfl ?_
  refine x_iconst C d_Co_findEcho_1 ?_
  refine x_put C (G_Co E.1) 3 (u_152 E.1) d_Co_findEcho_2 (by decide) rfl h21 rfl rfl (nle rfl) ?_
  refine x_aload_n C d_Co_findEcho_5 rfl ?_
  refine x_iconst C d_Co_findEcho_6 ?_
  refine x_put C (G_Co E.1) 4 (u_153 E.1) d_Co_findEcho_7 (by decide) rfl (a_up_s _ _ _) rfl rfl (nle rfl) ?_
  refine x_iconst C d_Co_findEcho_10 ?_
  refine x_istore C d_Co_findEcho_11 (by decide) ?_
  refine XW.heq (h' := a_up h 21 (oCo cc ml md 0 0)) (by simp only [a_up_up]; rfl) ?_
  refine XW.loc (lv' := [(0, .ref (s0.heap.size + 21)), (1, .ref (s0.heap.size + 1)), (2, .int (zI i)), (3, .ref (s0.heap.size + 20)), (4, .int (zI 0))]) ⟨rfl, rfl, rfl, rfl, rfl, trivial⟩ ?_
  exact lp_Co_echo l E C rfl h1 h2 hs i1 i2 n2 h20 hb 4 0 0 0 (by omega) (by omega) (by omega) (by omega) rfl

theorem match_b {src : Int → Int} {n i c : Int} (i2 : i ≤ n) : ∀ (j : Nat) (tr ln ds : Int), (j : Int) ≤ i → (ln = 0 ∨ (2 ≤ ln ∧ ln ≤ n - i ∧ 1 ≤ ds ∧ ds ≤ i)) → ((matchZ src n i c j (tr, ln, ds)).1 = 0 ∨ (2 ≤ (matchZ src n i c j (tr, ln, ds)).1 ∧ (matchZ src n i c j (tr, ln, ds)).1 ≤ n - i ∧ 1 ≤ (matchZ src n i c j (tr, ln, ds)).2 ∧ (matchZ src n i c j (tr, ln, ds)).2 ≤ i)) := by
  intro j
  induction j with
  | zero => intro tr ln ds _ h; exact h
  | succ j ih =>
    intro tr ln ds hj h
    have ha := ag_b (src := src) (n := n) (j := (j : Int)) (i := i) i2
    simp only [matchZ]
    split
    · split
      · split
        · exact ih _ _ _ (by omega) (Or.inr (by omega))
        · exact ih _ _ _ (by omega) h
      · exact ih _ _ _ (by omega) h
    · exact h
theorem echo_b {src bk : Int → Int} {n i : Int} (i2 : i ≤ n) : ∀ (r : Nat) (k ln ec : Int), 0 ≤ k → (r : Int) + k = 4 → (ln = 0 ∧ ec = 0 ∨ (1 ≤ ln ∧ ln ≤ n - i ∧ 0 ≤ ec ∧ ec ≤ 3 ∧ bk ec ≤ i)) → ((echoZ src n i bk r k (ln, ec)).1 = 0 ∧ (echoZ src n i bk r k (ln, ec)).2 = 0 ∨ (1 ≤ (echoZ src n i bk r k (ln, ec)).1 ∧ (echoZ src n i bk r k (ln, ec)).1 ≤ n - i ∧ 0 ≤ (echoZ src n i bk r k (ln, ec)).2 ∧ (echoZ src n i bk r k (ln, ec)).2 ≤ 3 ∧ bk (echoZ src n i bk r k (ln, ec)).2 ≤ i)) := by
  intro r
  induction r with
  | zero => intro k ln ec _ _ h; exact h
  | succ r ih =>
    intro k ln ec k0 hk h
    have ha := ag_b (src := src) (n := n) (j := i - bk k) (i := i) i2
    simp only [echoZ]
    split
    · rename_i hlt
      refine ih _ _ _ (by omega) (by omega) (Or.inr ⟨by omega, by omega, k0, by omega, ?_⟩)
      have h0 : 0 < agZ src n (i - bk k) i := by omega
      unfold agZ at h0
      split at h0
      · omega
      · omega
    · exact ih _ _ _ (by omega) (by omega) h
/-- the packet's cell, what it was where the choice says nothing -/
def pkSt (q : Pk) (ec li : Int) : va_E := oPa q.1 q.2.1 q.2.2.1 (if q.1 = 2 then q.2.2.2.1 else ec) (if q.1 = 0 then q.2.2.2.2 else li)
set_option maxRecDepth 100000 in
set_option maxHeartbeats 4000000 in
theorem c_Co_choose {a0 : Array Value} {s0 : State} {D : va_G} {cI cL : ClassId} (l : Launch) (E : a_E a0 s0 D cI cL) {h : AH} {K : Nat} {src : Int → Int} {n cc ml md el ec0 k0 ln ds ec li : Int} {t : Hs} (h21 : h 21 = some (oCo cc ml md el ec0)) (h16 : h 16 = some (oPa k0 ln ds ec li)) (h1 : h 1 = some (oBy s0.heap.size 2 n)) (h2 : h 2 = some (iA cI 120 src)) (hs : ∀ q, 0 ≤ src q ∧ src q < 256) (H : isH s0.heap.size cI h t) (hk : hOk t) (i2 : t.2.1 < n) (n2 : n ≤ 120) (c1 : 1 ≤ cc) (c2 : cc ≤ 16) : XM l s0 D y_Co_choose prog_4_method_2_code 6 none 2 0 0 [.ref (s0.heap.size + 21), .ref (s0.heap.size + 16), .ref (s0.heap.size + 1), .ref (s0.heap.size + 17)] (h) (K) (PR none (a_up (a_up h 21 (oCo cc (matchZ src n t.2.1 cc t.2.1.toNat (0, 0, 0)).1 (matchZ src n t.2.1 cc t.2.1.toNat (0, 0, 0)).2 (echoZ src n t.2.1 t.2.2.1 4 0 (0, 0)).1 (echoZ src n t.2.1 t.2.2.1 4 0 (0, 0)).2)) 16 (pkSt (chooseZ cc src n t) ec li)) K) := by
  refine XM.of (cI := cI) (cL := cL) (own := "NarrowingPacker$Chooser") (by decide) rfl E.2 (nle rfl) ?_
  intro p e s m below meth c C hn
  have hn := hk.2.1
  have hb0 := hk.2.2.1 0
  have hm := match_b (src := src) (n := n) (i := t.2.1) (c := cc) (by omega) t.2.1.toNat 0 0 0 (by omega) (Or.inl rfl)
  have he := echo_b (src := src) (bk := t.2.2.1) (n := n) (i := t.2.1) (by omega) 4 0 0 0 (by omega) (by omega) (Or.inl ⟨rfl, rfl⟩)
  refine x_aload_n C d_Co_choose_0 rfl ?_
  refine x_getN C (G_Hi E.1) 0 (u_121 E.1) d_Co_choose_1 (by decide) (by exact H.1) rfl ?_
  refine x_getN C (G_By E.1) 1 (u_42 E.1) d_Co_choose_4 (by decide) (by exact H.2.1) rfl ?_
  refine x_istore C d_Co_choose_7 (by decide) ?_
  refine x_aload_n C d_Co_choose_9 rfl ?_
  refine x_getN C (G_Hi E.1) 1 (u_124 E.1) d_Co_choose_10 (by decide) (by exact H.1) rfl ?_
  refine x_astore C d_Co_choose_13 (by decide) ?_
  refine x_aload_n C d_Co_choose_15 rfl ?_
  refine x_aload_n C d_Co_choose_16 rfl ?_
  refine x_iload C d_Co_choose_17 rfl ?_
  refine x_callVR C (G_Co E.1) (u_390 E.1) (u_392 E.1) (us_1 E.1) (u_393 E.1) (u_6 E.1) d_Co_choose_19 (c_Co_findMatch l E h21 h1 h2 hs (by omega) (by omega) n2 c1 c2) nh_Co_findMatch ln_Co_findMatch rfl h21 (nle rfl) (nle rfl) (nle rfl) (nle rfl) (nle rfl) ?_
  refine x_aload_n C d_Co_choose_22 rfl ?_
  refine x_aload_n C d_Co_choose_23 rfl ?_
  refine x_iload C d_Co_choose_24 rfl ?_
  refine x_aload C d_Co_choose_26 rfl ?_
  refine x_callVR C (G_Co E.1) (u_397 E.1) (u_399 E.1) (us_2 E.1) (u_400 E.1) (u_6 E.1) d_Co_choose_28 (c_Co_findEcho l E (bk := t.2.2.1) (by rfl) (by exact h1) (by exact h2) hs (by omega) (by omega) n2 (by exact H.2.2.2) hk.2.2.1) nh_Co_findEcho ln_Co_findEcho rfl rfl (nle rfl) (nle rfl) (nle rfl) (nle rfl) (nle rfl) ?_
  refine x_aload_n C d_Co_choose_31 rfl ?_
  refine x_get C (G_Co E.1) 3 (u_152 E.1) d_Co_choose_32 (by decide) rfl rfl ?_
  refine x_iconst C d_Co_choose_35 ?_
  refine x_icmp_lt C (tgt := 72) d_Co_choose_36 (by decide) (by omega) (by omega) (by omega) (by omega) (fun c36 => ?_) (fun c36 => ?_)
  · refine x_aload_n C d_Co_choose_72 rfl ?_
    refine x_get C (G_Co E.1) 1 (u_150 E.1) d_Co_choose_73 (by decide) rfl rfl ?_
    refine x_iconst C d_Co_choose_76 ?_
    refine x_icmp_lt C (tgt := 95) d_Co_choose_77 (by decide) (by omega) (by omega) (by omega) (by omega) (fun c77 => ?_) (fun c77 => ?_)
    · refine x_aload_n C d_Co_choose_95 rfl ?_
      refine x_iload C d_Co_choose_96 rfl ?_
      refine x_aload C d_Co_choose_98 rfl ?_
      refine x_iconst C d_Co_choose_100 ?_
      refine x_iald C d_Co_choose_101 (by exact H.2.2.2) (by omega) (by omega) (by omega) ?_
      refine x_isub C d_Co_choose_102 ?_
      refine x_iload C d_Co_choose_103 rfl ?_
      refine x_callSR C (u_394 E.1) (u_395 E.1) (u_396 E.1) (u_6 E.1) d_Co_choose_105 (c_Co_agreeing l E (by exact h1) (by exact h2) hs (by omega) (by omega) n2 (by omega) (by omega)) nh_Co_agreeing ln_Co_agreeing rfl (nle rfl) (nle rfl) (nle rfl) (nle rfl) (nle rfl) ?_
      have ha := ag_b (src := src) (n := n) (j := t.2.1 - t.2.2.1 0) (i := t.2.1) (by omega)
      refine x_if_le C (tgt := 122) d_Co_choose_108 (by decide) (by omega) (by omega) (fun c108 => ?_) (fun c108 => ?_)
      · refine x_aload_n C d_Co_choose_122 rfl ?_
        refine x_aload_n C d_Co_choose_123 rfl ?_
        refine x_iload C d_Co_choose_124 rfl ?_
        refine x_callVR C (G_By E.1) (u_417 E.1) (u_329 E.1) (u_330 E.1) (u_331 E.1) (u_2 E.1) d_Co_choose_126 (c_By_get l E (by exact h1) (by exact h2) (by decide) (by omega) (by exact n2) (by omega) (by omega)) nh_By_get ln_By_get rfl (by exact h1) (nle rfl) (nle rfl) (nle rfl) (nle rfl) (nle rfl) ?_
        have hg : getZ src t.2.1 n = src t.2.1 := if_pos (by omega)
        rw [hg]
        refine x_callVR C (G_Pa E.1) (u_418 E.1) (u_419 E.1) (u_420 E.1) (u_421 E.1) (u_4 E.1) d_Co_choose_129 (c_Pa_becomeLiteral l E (by exact h16)) nh_Pa_becomeLiteral ln_Pa_becomeLiteral rfl (by exact h16) (nle rfl) (nle rfl) (nle rfl) (nle rfl) (nle rfl) ?_
        exact x_vret C d_Co_choose_132 (nle rfl) (nle rfl) ⟨rfl, by
  rw [a_up_up]
  simp only [chooseZ]
  first
    | (rw [if_pos (by omega)]; rfl)
    | (rw [if_neg (by omega), if_pos (by omega)]; rfl)
    | (rw [if_neg (by omega), if_neg (by omega), if_pos (by omega)]; rfl)
    | (rw [if_neg (by omega), if_neg (by omega), if_neg (by omega)]; rfl), rfl⟩
      · refine x_aload_n C d_Co_choose_111 rfl ?_
        refine x_aload C d_Co_choose_112 rfl ?_
        refine x_iconst C d_Co_choose_114 ?_
        refine x_iald C d_Co_choose_115 (by exact H.2.2.2) (by omega) (by omega) (by omega) ?_
        refine x_callVR C (G_Pa E.1) (u_413 E.1) (u_414 E.1) (u_415 E.1) (u_416 E.1) (u_4 E.1) d_Co_choose_116 (c_Pa_becomeShort l E (by exact h16)) nh_Pa_becomeShort ln_Pa_becomeShort rfl (by exact h16) (nle rfl) (nle rfl) (nle rfl) (nle rfl) (nle rfl) ?_
        refine x_goto C (tgt := 132) d_Co_choose_119 (by decide) ?_
        exact x_vret C d_Co_choose_132 (nle rfl) (nle rfl) ⟨rfl, by
  rw [a_up_up]
  simp only [chooseZ]
  first
    | (rw [if_pos (by omega)]; rfl)
    | (rw [if_neg (by omega), if_pos (by omega)]; rfl)
    | (rw [if_neg (by omega), if_neg (by omega), if_pos (by omega)]; rfl)
    | (rw [if_neg (by omega), if_neg (by omega), if_neg (by omega)]; rfl), rfl⟩
    · refine x_aload_n C d_Co_choose_80 rfl ?_
      refine x_aload_n C d_Co_choose_81 rfl ?_
      refine x_get C (G_Co E.1) 1 (u_150 E.1) d_Co_choose_82 (by decide) rfl rfl ?_
      refine x_aload_n C d_Co_choose_85 rfl ?_
      refine x_get C (G_Co E.1) 2 (u_151 E.1) d_Co_choose_86 (by decide) rfl rfl ?_
      refine x_callVR C (G_Pa E.1) (u_409 E.1) (u_410 E.1) (u_411 E.1) (u_412 E.1) (u_4 E.1) d_Co_choose_89 (c_Pa_becomeMatch l E (by exact h16)) nh_Pa_becomeMatch ln_Pa_becomeMatch rfl (by exact h16) (nle rfl) (nle rfl) (nle rfl) (nle rfl) (nle rfl) ?_
      refine x_goto C (tgt := 132) d_Co_choose_92 (by decide) ?_
      exact x_vret C d_Co_choose_132 (nle rfl) (nle rfl) ⟨rfl, by
  rw [a_up_up]
  simp only [chooseZ]
  first
    | (rw [if_pos (by omega)]; rfl)
    | (rw [if_neg (by omega), if_pos (by omega)]; rfl)
    | (rw [if_neg (by omega), if_neg (by omega), if_pos (by omega)]; rfl)
    | (rw [if_neg (by omega), if_neg (by omega), if_neg (by omega)]; rfl), rfl⟩
  · refine x_aload_n C d_Co_choose_39 rfl ?_
    refine x_get C (G_Co E.1) 3 (u_152 E.1) d_Co_choose_40 (by decide) rfl rfl ?_
    refine x_aload_n C d_Co_choose_43 rfl ?_
    refine x_get C (G_Co E.1) 1 (u_150 E.1) d_Co_choose_44 (by decide) rfl rfl ?_
    refine x_icmp_lt C (tgt := 72) d_Co_choose_47 (by decide) (by omega) (by omega) (by omega) (by omega) (fun c47 => ?_) (fun c47 => ?_)
    · refine x_aload_n C d_Co_choose_72 rfl ?_
      refine x_get C (G_Co E.1) 1 (u_150 E.1) d_Co_choose_73 (by decide) rfl rfl ?_
      refine x_iconst C d_Co_choose_76 ?_
      refine x_icmp_lt C (tgt := 95) d_Co_choose_77 (by decide) (by omega) (by omega) (by omega) (by omega) (fun c77 => ?_) (fun c77 => ?_)
      · refine x_aload_n C d_Co_choose_95 rfl ?_
        refine x_iload C d_Co_choose_96 rfl ?_
        refine x_aload C d_Co_choose_98 rfl ?_
        refine x_iconst C d_Co_choose_100 ?_
        refine x_iald C d_Co_choose_101 (by exact H.2.2.2) (by omega) (by omega) (by omega) ?_
        refine x_isub C d_Co_choose_102 ?_
        refine x_iload C d_Co_choose_103 rfl ?_
        refine x_callSR C (u_394 E.1) (u_395 E.1) (u_396 E.1) (u_6 E.1) d_Co_choose_105 (c_Co_agreeing l E (by exact h1) (by exact h2) hs (by omega) (by omega) n2 (by omega) (by omega)) nh_Co_agreeing ln_Co_agreeing rfl (nle rfl) (nle rfl) (nle rfl) (nle rfl) (nle rfl) ?_
        have ha := ag_b (src := src) (n := n) (j := t.2.1 - t.2.2.1 0) (i := t.2.1) (by omega)
        refine x_if_le C (tgt := 122) d_Co_choose_108 (by decide) (by omega) (by omega) (fun c108 => ?_) (fun c108 => ?_)
        · refine x_aload_n C d_Co_choose_122 rfl ?_
          refine x_aload_n C d_Co_choose_123 rfl ?_
          refine x_iload C d_Co_choose_124 rfl ?_
          refine x_callVR C (G_By E.1) (u_417 E.1) (u_329 E.1) (u_330 E.1) (u_331 E.1) (u_2 E.1) d_Co_choose_126 (c_By_get l E (by exact h1) (by exact h2) (by decide) (by omega) (by exact n2) (by omega) (by omega)) nh_By_get ln_By_get rfl (by exact h1) (nle rfl) (nle rfl) (nle rfl) (nle rfl) (nle rfl) ?_
          have hg : getZ src t.2.1 n = src t.2.1 := if_pos (by omega)
          rw [hg]
          refine x_callVR C (G_Pa E.1) (u_418 E.1) (u_419 E.1) (u_420 E.1) (u_421 E.1) (u_4 E.1) d_Co_choose_129 (c_Pa_becomeLiteral l E (by exact h16)) nh_Pa_becomeLiteral ln_Pa_becomeLiteral rfl (by exact h16) (nle rfl) (nle rfl) (nle rfl) (nle rfl) (nle rfl) ?_
          exact x_vret C d_Co_choose_132 (nle rfl) (nle rfl) ⟨rfl, by
  rw [a_up_up]
  simp only [chooseZ]
  first
    | (rw [if_pos (by omega)]; rfl)
    | (rw [if_neg (by omega), if_pos (by omega)]; rfl)
    | (rw [if_neg (by omega), if_neg (by omega), if_pos (by omega)]; rfl)
    | (rw [if_neg (by omega), if_neg (by omega), if_neg (by omega)]; rfl), rfl⟩
        · refine x_aload_n C d_Co_choose_111 rfl ?_
          refine x_aload C d_Co_choose_112 rfl ?_
          refine x_iconst C d_Co_choose_114 ?_
          refine x_iald C d_Co_choose_115 (by exact H.2.2.2) (by omega) (by omega) (by omega) ?_
          refine x_callVR C (G_Pa E.1) (u_413 E.1) (u_414 E.1) (u_415 E.1) (u_416 E.1) (u_4 E.1) d_Co_choose_116 (c_Pa_becomeShort l E (by exact h16)) nh_Pa_becomeShort ln_Pa_becomeShort rfl (by exact h16) (nle rfl) (nle rfl) (nle rfl) (nle rfl) (nle rfl) ?_
          refine x_goto C (tgt := 132) d_Co_choose_119 (by decide) ?_
          exact x_vret C d_Co_choose_132 (nle rfl) (nle rfl) ⟨rfl, by
  rw [a_up_up]
  simp only [chooseZ]
  first
    | (rw [if_pos (by omega)]; rfl)
    | (rw [if_neg (by omega), if_pos (by omega)]; rfl)
    | (rw [if_neg (by omega), if_neg (by omega), if_pos (by omega)]; rfl)
    | (rw [if_neg (by omega), if_neg (by omega), if_neg (by omega)]; rfl), rfl⟩
      · refine x_aload_n C d_Co_choose_80 rfl ?_
        refine x_aload_n C d_Co_choose_81 rfl ?_
        refine x_get C (G_Co E.1) 1 (u_150 E.1) d_Co_choose_82 (by decide) rfl rfl ?_
        refine x_aload_n C d_Co_choose_85 rfl ?_
        refine x_get C (G_Co E.1) 2 (u_151 E.1) d_Co_choose_86 (by decide) rfl rfl ?_
        refine x_callVR C (G_Pa E.1) (u_409 E.1) (u_410 E.1) (u_411 E.1) (u_412 E.1) (u_4 E.1) d_Co_choose_89 (c_Pa_becomeMatch l E (by exact h16)) nh_Pa_becomeMatch ln_Pa_becomeMatch rfl (by exact h16) (nle rfl) (nle rfl) (nle rfl) (nle rfl) (nle rfl) ?_
        refine x_goto C (tgt := 132) d_Co_choose_92 (by decide) ?_
        exact x_vret C d_Co_choose_132 (nle rfl) (nle rfl) ⟨rfl, by
  rw [a_up_up]
  simp only [chooseZ]
  first
    | (rw [if_pos (by omega)]; rfl)
    | (rw [if_neg (by omega), if_pos (by omega)]; rfl)
    | (rw [if_neg (by omega), if_neg (by omega), if_pos (by omega)]; rfl)
    | (rw [if_neg (by omega), if_neg (by omega), if_neg (by omega)]; rfl), rfl⟩
    · refine x_aload_n C d_Co_choose_50 rfl ?_
      refine x_aload_n C d_Co_choose_51 rfl ?_
      refine x_get C (G_Co E.1) 4 (u_153 E.1) d_Co_choose_52 (by decide) rfl rfl ?_
      refine x_aload_n C d_Co_choose_55 rfl ?_
      refine x_get C (G_Co E.1) 3 (u_152 E.1) d_Co_choose_56 (by decide) rfl rfl ?_
      refine x_aload C d_Co_choose_59 rfl ?_
      refine x_aload_n C d_Co_choose_61 rfl ?_
      refine x_get C (G_Co E.1) 4 (u_153 E.1) d_Co_choose_62 (by decide) rfl rfl ?_
      refine x_iald C d_Co_choose_65 (by exact H.2.2.2) (by omega) (by omega) (by omega) ?_
      refine x_callVR C (G_Pa E.1) (u_401 E.1) (u_402 E.1) (u_403 E.1) (u_404 E.1) (u_4 E.1) d_Co_choose_66 (c_Pa_becomeEcho l E (by exact h16)) nh_Pa_becomeEcho ln_Pa_becomeEcho rfl (by exact h16) (nle rfl) (nle rfl) (nle rfl) (nle rfl) (nle rfl) ?_
      refine x_goto C (tgt := 132) d_Co_choose_69 (by decide) ?_
      exact x_vret C d_Co_choose_132 (nle rfl) (nle rfl) ⟨rfl, by
  rw [a_up_up]
  simp only [chooseZ]
  first
    | (rw [if_pos (by omega)]; rfl)
    | (rw [if_neg (by omega), if_pos (by omega)]; rfl)
    | (rw [if_neg (by omega), if_neg (by omega), if_pos (by omega)]; rfl)
    | (rw [if_neg (by omega), if_neg (by omega), if_neg (by omega)]; rfl), rfl⟩

