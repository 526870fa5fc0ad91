/-! the packets of a packing (their object at 8 or 12, the rows behind it); the face's short calls -/
abbrev T3 : Type := (Int → Int) × (Int → Int) × (Int → Int)
def sL (b : Nat) (cI : ClassId) (a : Nat) (h : AH) (w : T3) (n : Int) : AH := a_up (a_up (a_up (a_up h (a + 1) (iA cI 120 w.1)) (a + 2) (iA cI 120 w.2.1)) (a + 3) (iA cI 120 w.2.2)) a (oPl b (a + 1) (a + 2) (a + 3) n)
def isL (b : Nat) (cI : ClassId) (a : Nat) (g : AH) (w : T3) (n : Int) : Prop := g a = some (oPl b (a + 1) (a + 2) (a + 3) n) ∧ g (a + 1) = some (iA cI 120 w.1) ∧ g (a + 2) = some (iA cI 120 w.2.1) ∧ g (a + 3) = some (iA cI 120 w.2.2)
theorem sL_eq {b : Nat} {cI : ClassId} {a : Nat} {h h1 : AH} {w : T3} {n : Int} (e1 : h1 a = some (oPl b (a + 1) (a + 2) (a + 3) n)) (e2 : h1 (a + 1) = some (iA cI 120 w.1)) (e3 : h1 (a + 2) = some (iA cI 120 w.2.1)) (e4 : h1 (a + 3) = some (iA cI 120 w.2.2)) (o : ∀ q, q ≠ a → q ≠ a + 1 → q ≠ a + 2 → q ≠ a + 3 → h1 q = h q) : h1 = sL b cI a h w n := by
  funext q
  by_cases q1 : q = a
  · subst q1; rw [e1]; unfold sL; rw [a_up_s]
  · by_cases q2 : q = a + 1
    · subst q2; rw [e2]; unfold sL; rw [a_up_n q1, a_up_n (by omega), a_up_n (by omega), a_up_s]
    · by_cases q3 : q = a + 2
      · subst q3; rw [e3]; unfold sL; rw [a_up_n q1, a_up_n (by omega), a_up_s]
      · by_cases q4 : q = a + 3
        · subst q4; rw [e4]; unfold sL; rw [a_up_n q1, a_up_s]
        · rw [o q q1 q2 q3 q4]; unfold sL; rw [a_up_n q1, a_up_n q4, a_up_n q3, a_up_n q2]
def tellZ (w : T3) (n i wh : Int) : Int := if 0 ≤ i ∧ i < n then (if wh = 0 then w.1 i else if wh = 1 then w.2.1 i else if wh = 2 then w.2.2 i else -1) else -1
set_option maxRecDepth 100000 in
set_option maxHeartbeats 4000000 in
theorem c_Pl_clear8 {a0 : Array Value} {s0 : State} {D : va_G} {cI cL : ClassId} (l : Launch) (E : a_E a0 s0 D cI cL) {h : AH} {K : Nat} {w : T3} {n : Int} : XM l s0 D y_Pl_clear prog_9_method_2_code 1 none 0 0 0 [.ref (s0.heap.size + 8)] (sL s0.heap.size cI 8 h w n) (K) (PR none (sL s0.heap.size cI 8 h w 0) K) := by
  refine XM.of (cI := cI) (cL := cL) (own := "NarrowingPacker$PacketList") (by decide) rfl E.2 (nle rfl) ?_
  intro p e s m below meth c C hn
  refine x_aload_n C d_Pl_clear_0 rfl ?_
  refine x_iconst C d_Pl_clear_1 ?_
  refine x_put C (G_Pl E.1) 3 (u_62 E.1) d_Pl_clear_2 (by decide) rfl rfl rfl rfl (nle rfl) ?_
  exact x_vret C d_Pl_clear_5 (nle rfl) (nle rfl) ⟨rfl, by unfold sL; rw [a_up_up]; rfl, rfl⟩

set_option maxRecDepth 100000 in
set_option maxHeartbeats 4000000 in
theorem c_Pl_append8 {a0 : Array Value} {s0 : State} {D : va_G} {cI cL : ClassId} (l : Launch) (E : a_E a0 s0 D cI cL) {h : AH} {K : Nat} {w : T3} {n k ln ds ec li : Int} (h16 : h 16 = some (oPa k ln ds ec li)) (n1 : 0 ≤ n) (n2 : n < 120) (k1 : 0 ≤ k) (k2 : k ≤ 4) : XM l s0 D y_Pl_append prog_9_method_3_code 2 none 0 0 0 [.ref (s0.heap.size + 8), .ref (s0.heap.size + 16)] (sL s0.heap.size cI 8 h w n) (K) (PR none (sL s0.heap.size cI 8 h (zup w.1 n k, zup w.2.1 n ln, zup w.2.2 n (pkVal (k, ln, ds, ec, li))) (n + 1)) K) := by
  refine XM.of (cI := cI) (cL := cL) (own := "NarrowingPacker$PacketList") (by decide) rfl E.2 (nle rfl) ?_
  intro p e s m below meth c C hn
  refine x_aload_n C d_Pl_append_0 rfl ?_
  refine x_get C (G_Pl E.1) 3 (u_62 E.1) d_Pl_append_1 (by decide) rfl rfl ?_
  refine x_bipush C d_Pl_append_4 (by decide) ?_
  refine x_icmp_ge C (tgt := 72) d_Pl_append_6 (by decide) (by omega) (by omega) (by omega) (by omega) (fun c6 => ?_) (fun c6 => ?_)
  · exfalso; omega
  · refine x_aload_n C d_Pl_append_9 rfl ?_
    refine x_get C (G_Pl E.1) 0 (u_59 E.1) d_Pl_append_10 (by decide) rfl rfl ?_
    refine x_aload_n C d_Pl_append_13 rfl ?_
    refine x_get C (G_Pl E.1) 3 (u_62 E.1) d_Pl_append_14 (by decide) rfl rfl ?_
    refine x_aload_n C d_Pl_append_17 rfl ?_
    refine x_getN C (G_Pa E.1) 0 (u_81 E.1) d_Pl_append_18 (by decide) (by exact h16) rfl ?_
    refine x_iast C d_Pl_append_21 rfl (by omega) (by omega) (by omega) ?_
    refine x_aload_n C d_Pl_append_22 rfl ?_
    refine x_get C (G_Pl E.1) 1 (u_60 E.1) d_Pl_append_23 (by decide) rfl rfl ?_
    refine x_aload_n C d_Pl_append_26 rfl ?_
    refine x_get C (G_Pl E.1) 3 (u_62 E.1) d_Pl_append_27 (by decide) rfl rfl ?_
    refine x_aload_n C d_Pl_append_30 rfl ?_
    refine x_getN C (G_Pa E.1) 1 (u_85 E.1) d_Pl_append_31 (by decide) (by exact h16) rfl ?_
    refine x_iast C d_Pl_append_34 rfl (by omega) (by omega) (by omega) ?_
    refine x_aload_n C d_Pl_append_35 rfl ?_
    refine x_get C (G_Pl E.1) 2 (u_61 E.1) d_Pl_append_36 (by decide) rfl rfl ?_
    refine x_aload_n C d_Pl_append_39 rfl ?_
    refine x_get C (G_Pl E.1) 3 (u_62 E.1) d_Pl_append_40 (by decide) rfl rfl ?_
    refine x_aload_n C d_Pl_append_43 rfl ?_
    refine x_getN C (G_Pa E.1) 0 (u_81 E.1) d_Pl_append_44 (by decide) (by exact h16) rfl ?_
    refine x_if_ne C (tgt := 57) d_Pl_append_47 (by decide) (by omega) (by omega) (fun c47 => ?_) (fun c47 => ?_)
    · refine x_aload_n C d_Pl_append_57 rfl ?_
      refine x_getN C (G_Pa E.1) 2 (u_90 E.1) d_Pl_append_58 (by decide) (by exact h16) rfl ?_
      refine x_iast C d_Pl_append_61 rfl (by omega) (by omega) (by omega) ?_
      refine x_aload_n C d_Pl_append_62 rfl ?_
      refine x_dup C d_Pl_append_63 rfl ?_
      refine x_get C (G_Pl E.1) 3 (u_62 E.1) d_Pl_append_64 (by decide) rfl rfl ?_
      refine x_iconst C d_Pl_append_67 ?_
      refine x_iadd C d_Pl_append_68 ?_
      refine x_put C (G_Pl E.1) 3 (u_62 E.1) d_Pl_append_69 (by decide) rfl rfl rfl rfl (nle rfl) ?_
      exact x_vret C d_Pl_append_72 (nle rfl) (nle rfl) ⟨rfl, by
        have hv : pkVal (k, ln, ds, ec, li) = (if k = 0 then li else ds) := rfl
        rw [hv]
        first
          | (rw [if_pos c47]; exact sL_eq rfl rfl rfl rfl (fun q q1 q2 q3 q4 => by simp only [sL, a_up_n q1, a_up_n q2, a_up_n q3, a_up_n q4, Nat.reduceAdd]))
          | (rw [if_neg c47]; exact sL_eq rfl rfl rfl rfl (fun q q1 q2 q3 q4 => by simp only [sL, a_up_n q1, a_up_n q2, a_up_n q3, a_up_n q4, Nat.reduceAdd])), rfl⟩
    · refine x_aload_n C d_Pl_append_50 rfl ?_
      refine x_getN C (G_Pa E.1) 4 (u_100 E.1) d_Pl_append_51 (by decide) (by exact h16) rfl ?_
      refine x_goto C (tgt := 61) d_Pl_append_54 (by decide) ?_
      refine x_iast C d_Pl_append_61 rfl (by omega) (by omega) (by omega) ?_
      refine x_aload_n C d_Pl_append_62 rfl ?_
      refine x_dup C d_Pl_append_63 rfl ?_
      refine x_get C (G_Pl E.1) 3 (u_62 E.1) d_Pl_append_64 (by decide) rfl rfl ?_
      refine x_iconst C d_Pl_append_67 ?_
      refine x_iadd C d_Pl_append_68 ?_
      refine x_put C (G_Pl E.1) 3 (u_62 E.1) d_Pl_append_69 (by decide) rfl rfl rfl rfl (nle rfl) ?_
      exact x_vret C d_Pl_append_72 (nle rfl) (nle rfl) ⟨rfl, by
        have hv : pkVal (k, ln, ds, ec, li) = (if k = 0 then li else ds) := rfl
        rw [hv]
        first
          | (rw [if_pos c47]; exact sL_eq rfl rfl rfl rfl (fun q q1 q2 q3 q4 => by simp only [sL, a_up_n q1, a_up_n q2, a_up_n q3, a_up_n q4, Nat.reduceAdd]))
          | (rw [if_neg c47]; exact sL_eq rfl rfl rfl rfl (fun q q1 q2 q3 q4 => by simp only [sL, a_up_n q1, a_up_n q2, a_up_n q3, a_up_n q4, Nat.reduceAdd])), rfl⟩

set_option maxRecDepth 100000 in
set_option maxHeartbeats 4000000 in
theorem c_Pl_tellOf8 {a0 : Array Value} {s0 : State} {D : va_G} {cI cL : ClassId} (l : Launch) (E : a_E a0 s0 D cI cL) {h : AH} {K : Nat} {w : T3} {n : Int} (HL : isL s0.heap.size cI 8 h w n) (n1 : 0 ≤ n) (n2 : n ≤ 120) {i wh : Int} (i1 : -2147483648 ≤ i) (i2 : i < 2147483648) (w1 : -2147483648 ≤ wh) (w2 : wh < 2147483648) : XM l s0 D y_Pl_tellOf prog_9_method_4_code 3 (some .int) 0 0 0 [.ref (s0.heap.size + 8), .int (zI i), .int (zI wh)] (h) (K) (PR (some (.int (zI (tellZ w n i wh)))) h K) := by
  refine XM.of (cI := cI) (cL := cL) (own := "NarrowingPacker$PacketList") (by decide) rfl E.2 (nle rfl) ?_
  intro p e s m below meth c C hn
  rcases (by omega : wh = 0 ∨ wh = 1 ∨ wh = 2 ∨ (wh < 0 ∨ 2 < wh)) with rfl | rfl | rfl | hw
  · refine x_iload_n C d_Pl_tellOf_0 rfl ?_
    refine x_if_lt C (tgt := 12) d_Pl_tellOf_1 (by decide) (by omega) (by omega) (fun c1 => ?_) (fun c1 => ?_)
    · refine x_iconst C d_Pl_tellOf_12 ?_
      exact x_iret C d_Pl_tellOf_13 (nle rfl) (nle rfl) ⟨by
  first
    | (exfalso; omega)
    | (unfold tellZ; rw [if_neg (by omega)]; done)
    | (unfold tellZ; rw [if_pos (by omega)]; rfl)
    | (unfold tellZ; rw [if_pos (by omega), if_neg (by omega), if_neg (by omega), if_neg (by omega)]; done), rfl, rfl⟩
    · refine x_iload_n C d_Pl_tellOf_4 rfl ?_
      refine x_aload_n C d_Pl_tellOf_5 rfl ?_
      refine x_get C (G_Pl E.1) 3 (u_62 E.1) d_Pl_tellOf_6 (by decide) HL.1 rfl ?_
      refine x_icmp_lt C (tgt := 14) d_Pl_tellOf_9 (by decide) (by omega) (by omega) (by omega) (by omega) (fun c9 => ?_) (fun c9 => ?_)
      · refine x_iload_n C d_Pl_tellOf_14 rfl ?_
        refine x_tabIn C (off := 25) (tgt := 40) d_Pl_tellOf_15 (by decide) (by decide) (by decide) (by decide) rfl (by decide) ?_
        refine x_aload_n C d_Pl_tellOf_40 rfl ?_
        refine x_get C (G_Pl E.1) 0 (u_59 E.1) d_Pl_tellOf_41 (by decide) HL.1 rfl ?_
        refine x_iload_n C d_Pl_tellOf_44 rfl ?_
        refine x_iald C d_Pl_tellOf_45 HL.2.1 (by omega) (by omega) (by omega) ?_
        exact x_iret C d_Pl_tellOf_46 (nle rfl) (nle rfl) ⟨by
  first
    | (exfalso; omega)
    | (unfold tellZ; rw [if_neg (by omega)]; done)
    | (unfold tellZ; rw [if_pos (by omega)]; rfl)
    | (unfold tellZ; rw [if_pos (by omega), if_neg (by omega), if_neg (by omega), if_neg (by omega)]; done), rfl, rfl⟩
      · refine x_iconst C d_Pl_tellOf_12 ?_
        exact x_iret C d_Pl_tellOf_13 (nle rfl) (nle rfl) ⟨by
  first
    | (exfalso; omega)
    | (unfold tellZ; rw [if_neg (by omega)]; done)
    | (unfold tellZ; rw [if_pos (by omega)]; rfl)
    | (unfold tellZ; rw [if_pos (by omega), if_neg (by omega), if_neg (by omega), if_neg (by omega)]; done), rfl, rfl⟩
  · refine x_iload_n C d_Pl_tellOf_0 rfl ?_
    refine x_if_lt C (tgt := 12) d_Pl_tellOf_1 (by decide) (by omega) (by omega) (fun c1 => ?_) (fun c1 => ?_)
    · refine x_iconst C d_Pl_tellOf_12 ?_
      exact x_iret C d_Pl_tellOf_13 (nle rfl) (nle rfl) ⟨by
  first
    | (exfalso; omega)
    | (unfold tellZ; rw [if_neg (by omega)]; done)
    | (unfold tellZ; rw [if_pos (by omega)]; rfl)
    | (unfold tellZ; rw [if_pos (by omega), if_neg (by omega), if_neg (by omega), if_neg (by omega)]; done), rfl, rfl⟩
    · refine x_iload_n C d_Pl_tellOf_4 rfl ?_
      refine x_aload_n C d_Pl_tellOf_5 rfl ?_
      refine x_get C (G_Pl E.1) 3 (u_62 E.1) d_Pl_tellOf_6 (by decide) HL.1 rfl ?_
      refine x_icmp_lt C (tgt := 14) d_Pl_tellOf_9 (by decide) (by omega) (by omega) (by omega) (by omega) (fun c9 => ?_) (fun c9 => ?_)
      · refine x_iload_n C d_Pl_tellOf_14 rfl ?_
        refine x_tabIn C (off := 32) (tgt := 47) d_Pl_tellOf_15 (by decide) (by decide) (by decide) (by decide) rfl (by decide) ?_
        refine x_aload_n C d_Pl_tellOf_47 rfl ?_
        refine x_get C (G_Pl E.1) 1 (u_60 E.1) d_Pl_tellOf_48 (by decide) HL.1 rfl ?_
        refine x_iload_n C d_Pl_tellOf_51 rfl ?_
        refine x_iald C d_Pl_tellOf_52 HL.2.2.1 (by omega) (by omega) (by omega) ?_
        exact x_iret C d_Pl_tellOf_53 (nle rfl) (nle rfl) ⟨by
  first
    | (exfalso; omega)
    | (unfold tellZ; rw [if_neg (by omega)]; done)
    | (unfold tellZ; rw [if_pos (by omega)]; rfl)
    | (unfold tellZ; rw [if_pos (by omega), if_neg (by omega), if_neg (by omega), if_neg (by omega)]; done), rfl, rfl⟩
      · refine x_iconst C d_Pl_tellOf_12 ?_
        exact x_iret C d_Pl_tellOf_13 (nle rfl) (nle rfl) ⟨by
  first
    | (exfalso; omega)
    | (unfold tellZ; rw [if_neg (by omega)]; done)
    | (unfold tellZ; rw [if_pos (by omega)]; rfl)
    | (unfold tellZ; rw [if_pos (by omega), if_neg (by omega), if_neg (by omega), if_neg (by omega)]; done), rfl, rfl⟩
  · refine x_iload_n C d_Pl_tellOf_0 rfl ?_
    refine x_if_lt C (tgt := 12) d_Pl_tellOf_1 (by decide) (by omega) (by omega) (fun c1 => ?_) (fun c1 => ?_)
    · refine x_iconst C d_Pl_tellOf_12 ?_
      exact x_iret C d_Pl_tellOf_13 (nle rfl) (nle rfl) ⟨by
  first
    | (exfalso; omega)
    | (unfold tellZ; rw [if_neg (by omega)]; done)
    | (unfold tellZ; rw [if_pos (by omega)]; rfl)
    | (unfold tellZ; rw [if_pos (by omega), if_neg (by omega), if_neg (by omega), if_neg (by omega)]; done), rfl, rfl⟩
    · refine x_iload_n C d_Pl_tellOf_4 rfl ?_
      refine x_aload_n C d_Pl_tellOf_5 rfl ?_
      refine x_get C (G_Pl E.1) 3 (u_62 E.1) d_Pl_tellOf_6 (by decide) HL.1 rfl ?_
      refine x_icmp_lt C (tgt := 14) d_Pl_tellOf_9 (by decide) (by omega) (by omega) (by omega) (by omega) (fun c9 => ?_) (fun c9 => ?_)
      · refine x_iload_n C d_Pl_tellOf_14 rfl ?_
        refine x_tabIn C (off := 39) (tgt := 54) d_Pl_tellOf_15 (by decide) (by decide) (by decide) (by decide) rfl (by decide) ?_
        refine x_aload_n C d_Pl_tellOf_54 rfl ?_
        refine x_get C (G_Pl E.1) 2 (u_61 E.1) d_Pl_tellOf_55 (by decide) HL.1 rfl ?_
        refine x_iload_n C d_Pl_tellOf_58 rfl ?_
        refine x_iald C d_Pl_tellOf_59 HL.2.2.2 (by omega) (by omega) (by omega) ?_
        exact x_iret C d_Pl_tellOf_60 (nle rfl) (nle rfl) ⟨by
  first
    | (exfalso; omega)
    | (unfold tellZ; rw [if_neg (by omega)]; done)
    | (unfold tellZ; rw [if_pos (by omega)]; rfl)
    | (unfold tellZ; rw [if_pos (by omega), if_neg (by omega), if_neg (by omega), if_neg (by omega)]; done), rfl, rfl⟩
      · refine x_iconst C d_Pl_tellOf_12 ?_
        exact x_iret C d_Pl_tellOf_13 (nle rfl) (nle rfl) ⟨by
  first
    | (exfalso; omega)
    | (unfold tellZ; rw [if_neg (by omega)]; done)
    | (unfold tellZ; rw [if_pos (by omega)]; rfl)
    | (unfold tellZ; rw [if_pos (by omega), if_neg (by omega), if_neg (by omega), if_neg (by omega)]; done), rfl, rfl⟩
  · refine x_iload_n C d_Pl_tellOf_0 rfl ?_
    refine x_if_lt C (tgt := 12) d_Pl_tellOf_1 (by decide) (by omega) (by omega) (fun c1 => ?_) (fun c1 => ?_)
    · refine x_iconst C d_Pl_tellOf_12 ?_
      exact x_iret C d_Pl_tellOf_13 (nle rfl) (nle rfl) ⟨by
  first
    | (exfalso; omega)
    | (unfold tellZ; rw [if_neg (by omega)]; done)
    | (unfold tellZ; rw [if_pos (by omega)]; rfl)
    | (unfold tellZ; rw [if_pos (by omega), if_neg (by omega), if_neg (by omega), if_neg (by omega)]; done), rfl, rfl⟩
    · refine x_iload_n C d_Pl_tellOf_4 rfl ?_
      refine x_aload_n C d_Pl_tellOf_5 rfl ?_
      refine x_get C (G_Pl E.1) 3 (u_62 E.1) d_Pl_tellOf_6 (by decide) HL.1 rfl ?_
      refine x_icmp_lt C (tgt := 14) d_Pl_tellOf_9 (by decide) (by omega) (by omega) (by omega) (by omega) (fun c9 => ?_) (fun c9 => ?_)
      · refine x_iload_n C d_Pl_tellOf_14 rfl ?_
        refine x_tabOut C (tgt := 61) d_Pl_tellOf_15 (by omega) (by omega) (by omega) (by decide) ?_
        refine x_iconst C d_Pl_tellOf_61 ?_
        exact x_iret C d_Pl_tellOf_62 (nle rfl) (nle rfl) ⟨by
  first
    | (exfalso; omega)
    | (unfold tellZ; rw [if_neg (by omega)]; done)
    | (unfold tellZ; rw [if_pos (by omega)]; rfl)
    | (unfold tellZ; rw [if_pos (by omega), if_neg (by omega), if_neg (by omega), if_neg (by omega)]; done), rfl, rfl⟩
      · refine x_iconst C d_Pl_tellOf_12 ?_
        exact x_iret C d_Pl_tellOf_13 (nle rfl) (nle rfl) ⟨by
  first
    | (exfalso; omega)
    | (unfold tellZ; rw [if_neg (by omega)]; done)
    | (unfold tellZ; rw [if_pos (by omega)]; rfl)
    | (unfold tellZ; rw [if_pos (by omega), if_neg (by omega), if_neg (by omega), if_neg (by omega)]; done), rfl, rfl⟩

set_option maxRecDepth 100000 in
set_option maxHeartbeats 4000000 in
theorem c_Pl_clear12 {a0 : Array Value} {s0 : State} {D : va_G} {cI cL : ClassId} (l : Launch) (E : a_E a0 s0 D cI cL) {h : AH} {K : Nat} {w : T3} {n : Int} : XM l s0 D y_Pl_clear prog_9_method_2_code 1 none 0 0 0 [.ref (s0.heap.size + 12)] (sL s0.heap.size cI 12 h w n) (K) (PR none (sL s0.heap.size cI 12 h w 0) K) := by
  refine XM.of (cI := cI) (cL := cL) (own := "NarrowingPacker$PacketList") (by decide) rfl E.2 (nle rfl) ?_
  intro p e s m below meth c C hn
  refine x_aload_n C d_Pl_clear_0 rfl ?_
  refine x_iconst C d_Pl_clear_1 ?_
  refine x_put C (G_Pl E.1) 3 (u_62 E.1) d_Pl_clear_2 (by decide) rfl rfl rfl rfl (nle rfl) ?_
  exact x_vret C d_Pl_clear_5 (nle rfl) (nle rfl) ⟨rfl, by unfold sL; rw [a_up_up]; rfl, rfl⟩

set_option maxRecDepth 100000 in
set_option maxHeartbeats 4000000 in
theorem c_Pl_append12 {a0 : Array Value} {s0 : State} {D : va_G} {cI cL : ClassId} (l : Launch) (E : a_E a0 s0 D cI cL) {h : AH} {K : Nat} {w : T3} {n k ln ds ec li : Int} (h16 : h 16 = some (oPa k ln ds ec li)) (n1 : 0 ≤ n) (n2 : n < 120) (k1 : 0 ≤ k) (k2 : k ≤ 4) : XM l s0 D y_Pl_append prog_9_method_3_code 2 none 0 0 0 [.ref (s0.heap.size + 12), .ref (s0.heap.size + 16)] (sL s0.heap.size cI 12 h w n) (K) (PR none (sL s0.heap.size cI 12 h (zup w.1 n k, zup w.2.1 n ln, zup w.2.2 n (pkVal (k, ln, ds, ec, li))) (n + 1)) K) := by
  refine XM.of (cI := cI) (cL := cL) (own := "NarrowingPacker$PacketList") (by decide) rfl E.2 (nle rfl) ?_
  intro p e s m below meth c C hn
  refine x_aload_n C d_Pl_append_0 rfl ?_
  refine x_get C (G_Pl E.1) 3 (u_62 E.1) d_Pl_append_1 (by decide) rfl rfl ?_
  refine x_bipush C d_Pl_append_4 (by decide) ?_
  refine x_icmp_ge C (tgt := 72) d_Pl_append_6 (by decide) (by omega) (by omega) (by omega) (by omega) (fun c6 => ?_) (fun c6 => ?_)
  · exfalso; omega
  · refine x_aload_n C d_Pl_append_9 rfl ?_
    refine x_get C (G_Pl E.1) 0 (u_59 E.1) d_Pl_append_10 (by decide) rfl rfl ?_
    refine x_aload_n C d_Pl_append_13 rfl ?_
    refine x_get C (G_Pl E.1) 3 (u_62 E.1) d_Pl_append_14 (by decide) rfl rfl ?_
    refine x_aload_n C d_Pl_append_17 rfl ?_
    refine x_getN C (G_Pa E.1) 0 (u_81 E.1) d_Pl_append_18 (by decide) (by exact h16) rfl ?_
    refine x_iast C d_Pl_append_21 rfl (by omega) (by omega) (by omega) ?_
    refine x_aload_n C d_Pl_append_22 rfl ?_
    refine x_get C (G_Pl E.1) 1 (u_60 E.1) d_Pl_append_23 (by decide) rfl rfl ?_
    refine x_aload_n C d_Pl_append_26 rfl ?_
    refine x_get C (G_Pl E.1) 3 (u_62 E.1) d_Pl_append_27 (by decide) rfl rfl ?_
    refine x_aload_n C d_Pl_append_30 rfl ?_
    refine x_getN C (G_Pa E.1) 1 (u_85 E.1) d_Pl_append_31 (by decide) (by exact h16) rfl ?_
    refine x_iast C d_Pl_append_34 rfl (by omega) (by omega) (by omega) ?_
    refine x_aload_n C d_Pl_append_35 rfl ?_
    refine x_get C (G_Pl E.1) 2 (u_61 E.1) d_Pl_append_36 (by decide) rfl rfl ?_
    refine x_aload_n C d_Pl_append_39 rfl ?_
    refine x_get C (G_Pl E.1) 3 (u_62 E.1) d_Pl_append_40 (by decide) rfl rfl ?_
    refine x_aload_n C d_Pl_append_43 rfl ?_
    refine x_getN C (G_Pa E.1) 0 (u_81 E.1) d_Pl_append_44 (by decide) (by exact h16) rfl ?_
    refine x_if_ne C (tgt := 57) d_Pl_append_47 (by decide) (by omega) (by omega) (fun c47 => ?_) (fun c47 => ?_)
    · refine x_aload_n C d_Pl_append_57 rfl ?_
      refine x_getN C (G_Pa E.1) 2 (u_90 E.1) d_Pl_append_58 (by decide) (by exact h16) rfl ?_
      refine x_iast C d_Pl_append_61 rfl (by omega) (by omega) (by omega) ?_
      refine x_aload_n C d_Pl_append_62 rfl ?_
      refine x_dup C d_Pl_append_63 rfl ?_
      refine x_get C (G_Pl E.1) 3 (u_62 E.1) d_Pl_append_64 (by decide) rfl rfl ?_
      refine x_iconst C d_Pl_append_67 ?_
      refine x_iadd C d_Pl_append_68 ?_
      refine x_put C (G_Pl E.1) 3 (u_62 E.1) d_Pl_append_69 (by decide) rfl rfl rfl rfl (nle rfl) ?_
      exact x_vret C d_Pl_append_72 (nle rfl) (nle rfl) ⟨rfl, by
        have hv : pkVal (k, ln, ds, ec, li) = (if k = 0 then li else ds) := rfl
        rw [hv]
        first
          | (rw [if_pos c47]; exact sL_eq rfl rfl rfl rfl (fun q q1 q2 q3 q4 => by simp only [sL, a_up_n q1, a_up_n q2, a_up_n q3, a_up_n q4, Nat.reduceAdd]))
          | (rw [if_neg c47]; exact sL_eq rfl rfl rfl rfl (fun q q1 q2 q3 q4 => by simp only [sL, a_up_n q1, a_up_n q2, a_up_n q3, a_up_n q4, Nat.reduceAdd])), rfl⟩
    · refine x_aload_n C d_Pl_append_50 rfl ?_
      refine x_getN C (G_Pa E.1) 4 (u_100 E.1) d_Pl_append_51 (by decide) (by exact h16) rfl ?_
      refine x_goto C (tgt := 61) d_Pl_append_54 (by decide) ?_
      refine x_iast C d_Pl_append_61 rfl (by omega) (by omega) (by omega) ?_
      refine x_aload_n C d_Pl_append_62 rfl ?_
      refine x_dup C d_Pl_append_63 rfl ?_
      refine x_get C (G_Pl E.1) 3 (u_62 E.1) d_Pl_append_64 (by decide) rfl rfl ?_
      refine x_iconst C d_Pl_append_67 ?_
      refine x_iadd C d_Pl_append_68 ?_
      refine x_put C (G_Pl E.1) 3 (u_62 E.1) d_Pl_append_69 (by decide) rfl rfl rfl rfl (nle rfl) ?_
      exact x_vret C d_Pl_append_72 (nle rfl) (nle rfl) ⟨rfl, by
        have hv : pkVal (k, ln, ds, ec, li) = (if k = 0 then li else ds) := rfl
        rw [hv]
        first
          | (rw [if_pos c47]; exact sL_eq rfl rfl rfl rfl (fun q q1 q2 q3 q4 => by simp only [sL, a_up_n q1, a_up_n q2, a_up_n q3, a_up_n q4, Nat.reduceAdd]))
          | (rw [if_neg c47]; exact sL_eq rfl rfl rfl rfl (fun q q1 q2 q3 q4 => by simp only [sL, a_up_n q1, a_up_n q2, a_up_n q3, a_up_n q4, Nat.reduceAdd])), rfl⟩

set_option maxRecDepth 100000 in
set_option maxHeartbeats 4000000 in
theorem c_Pl_tellOf12 {a0 : Array Value} {s0 : State} {D : va_G} {cI cL : ClassId} (l : Launch) (E : a_E a0 s0 D cI cL) {h : AH} {K : Nat} {w : T3} {n : Int} (HL : isL s0.heap.size cI 12 h w n) (n1 : 0 ≤ n) (n2 : n ≤ 120) {i wh : Int} (i1 : -2147483648 ≤ i) (i2 : i < 2147483648) (w1 : -2147483648 ≤ wh) (w2 : wh < 2147483648) : XM l s0 D y_Pl_tellOf prog_9_method_4_code 3 (some .int) 0 0 0 [.ref (s0.heap.size + 12), .int (zI i), .int (zI wh)] (h) (K) (PR (some (.int (zI (tellZ w n i wh)))) h K) := by
  refine XM.of (cI := cI) (cL := cL) (own := "NarrowingPacker$PacketList") (by decide) rfl E.2 (nle rfl) ?_
  intro p e s m below meth c C hn
  rcases (by omega : wh = 0 ∨ wh = 1 ∨ wh = 2 ∨ (wh < 0 ∨ 2 < wh)) with rfl | rfl | rfl | hw
  · refine x_iload_n C d_Pl_tellOf_0 rfl ?_
    refine x_if_lt C (tgt := 12) d_Pl_tellOf_1 (by decide) (by omega) (by omega) (fun c1 => ?_) (fun c1 => ?_)
    · refine x_iconst C d_Pl_tellOf_12 ?_
      exact x_iret C d_Pl_tellOf_13 (nle rfl) (nle rfl) ⟨by
  first
    | (exfalso; omega)
    | (unfold tellZ; rw [if_neg (by omega)]; done)
    | (unfold tellZ; rw [if_pos (by omega)]; rfl)
    | (unfold tellZ; rw [if_pos (by omega), if_neg (by omega), if_neg (by omega), if_neg (by omega)]; done), rfl, rfl⟩
    · refine x_iload_n C d_Pl_tellOf_4 rfl ?_
      refine x_aload_n C d_Pl_tellOf_5 rfl ?_
      refine x_get C (G_Pl E.1) 3 (u_62 E.1) d_Pl_tellOf_6 (by decide) HL.1 rfl ?_
      refine x_icmp_lt C (tgt := 14) d_Pl_tellOf_9 (by decide) (by omega) (by omega) (by omega) (by omega) (fun c9 => ?_) (fun c9 => ?_)
      · refine x_iload_n C d_Pl_tellOf_14 rfl ?_
        refine x_tabIn C (off := 25) (tgt := 40) d_Pl_tellOf_15 (by decide) (by decide) (by decide) (by decide) rfl (by decide) ?_
        refine x_aload_n C d_Pl_tellOf_40 rfl ?_
        refine x_get C (G_Pl E.1) 0 (u_59 E.1) d_Pl_tellOf_41 (by decide) HL.1 rfl ?_
        refine x_iload_n C d_Pl_tellOf_44 rfl ?_
        refine x_iald C d_Pl_tellOf_45 HL.2.1 (by omega) (by omega) (by omega) ?_
        exact x_iret C d_Pl_tellOf_46 (nle rfl) (nle rfl) ⟨by
  first
    | (exfalso; omega)
    | (unfold tellZ; rw [if_neg (by omega)]; done)
    | (unfold tellZ; rw [if_pos (by omega)]; rfl)
    | (unfold tellZ; rw [if_pos (by omega), if_neg (by omega), if_neg (by omega), if_neg (by omega)]; done), rfl, rfl⟩
      · refine x_iconst C d_Pl_tellOf_12 ?_
        exact x_iret C d_Pl_tellOf_13 (nle rfl) (nle rfl) ⟨by
  first
    | (exfalso; omega)
    | (unfold tellZ; rw [if_neg (by omega)]; done)
    | (unfold tellZ; rw [if_pos (by omega)]; rfl)
    | (unfold tellZ; rw [if_pos (by omega), if_neg (by omega), if_neg (by omega), if_neg (by omega)]; done), rfl, rfl⟩
  · refine x_iload_n C d_Pl_tellOf_0 rfl ?_
    refine x_if_lt C (tgt := 12) d_Pl_tellOf_1 (by decide) (by omega) (by omega) (fun c1 => ?_) (fun c1 => ?_)
    · refine x_iconst C d_Pl_tellOf_12 ?_
      exact x_iret C d_Pl_tellOf_13 (nle rfl) (nle rfl) ⟨by
  first
    | (exfalso; omega)
    | (unfold tellZ; rw [if_neg (by omega)]; done)
    | (unfold tellZ; rw [if_pos (by omega)]; rfl)
    | (unfold tellZ; rw [if_pos (by omega), if_neg (by omega), if_neg (by omega), if_neg (by omega)]; done), rfl, rfl⟩
    · refine x_iload_n C d_Pl_tellOf_4 rfl ?_
      refine x_aload_n C d_Pl_tellOf_5 rfl ?_
      refine x_get C (G_Pl E.1) 3 (u_62 E.1) d_Pl_tellOf_6 (by decide) HL.1 rfl ?_
      refine x_icmp_lt C (tgt := 14) d_Pl_tellOf_9 (by decide) (by omega) (by omega) (by omega) (by omega) (fun c9 => ?_) (fun c9 => ?_)
      · refine x_iload_n C d_Pl_tellOf_14 rfl ?_
        refine x_tabIn C (off := 32) (tgt := 47) d_Pl_tellOf_15 (by decide) (by decide) (by decide) (by decide) rfl (by decide) ?_
        refine x_aload_n C d_Pl_tellOf_47 rfl ?_
        refine x_get C (G_Pl E.1) 1 (u_60 E.1) d_Pl_tellOf_48 (by decide) HL.1 rfl ?_
        refine x_iload_n C d_Pl_tellOf_51 rfl ?_
        refine x_iald C d_Pl_tellOf_52 HL.2.2.1 (by omega) (by omega) (by omega) ?_
        exact x_iret C d_Pl_tellOf_53 (nle rfl) (nle rfl) ⟨by
  first
    | (exfalso; omega)
    | (unfold tellZ; rw [if_neg (by omega)]; done)
    | (unfold tellZ; rw [if_pos (by omega)]; rfl)
    | (unfold tellZ; rw [if_pos (by omega), if_neg (by omega), if_neg (by omega), if_neg (by omega)]; done), rfl, rfl⟩
      · refine x_iconst C d_Pl_tellOf_12 ?_
        exact x_iret C d_Pl_tellOf_13 (nle rfl) (nle rfl) ⟨by
  first
    | (exfalso; omega)
    | (unfold tellZ; rw [if_neg (by omega)]; done)
    | (unfold tellZ; rw [if_pos (by omega)]; rfl)
    | (unfold tellZ; rw [if_pos (by omega), if_neg (by omega), if_neg (by omega), if_neg (by omega)]; done), rfl, rfl⟩
  · refine x_iload_n C d_Pl_tellOf_0 rfl ?_
    refine x_if_lt C (tgt := 12) d_Pl_tellOf_1 (by decide) (by omega) (by omega) (fun c1 => ?_) (fun c1 => ?_)
    · refine x_iconst C d_Pl_tellOf_12 ?_
      exact x_iret C d_Pl_tellOf_13 (nle rfl) (nle rfl) ⟨by
  first
    | (exfalso; omega)
    | (unfold tellZ; rw [if_neg (by omega)]; done)
    | (unfold tellZ; rw [if_pos (by omega)]; rfl)
    | (unfold tellZ; rw [if_pos (by omega), if_neg (by omega), if_neg (by omega), if_neg (by omega)]; done), rfl, rfl⟩
    · refine x_iload_n C d_Pl_tellOf_4 rfl ?_
      refine x_aload_n C d_Pl_tellOf_5 rfl ?_
      refine x_get C (G_Pl E.1) 3 (u_62 E.1) d_Pl_tellOf_6 (by decide) HL.1 rfl ?_
      refine x_icmp_lt C (tgt := 14) d_Pl_tellOf_9 (by decide) (by omega) (by omega) (by omega) (by omega) (fun c9 => ?_) (fun c9 => ?_)
      · refine x_iload_n C d_Pl_tellOf_14 rfl ?_
        refine x_tabIn C (off := 39) (tgt := 54) d_Pl_tellOf_15 (by decide) (by decide) (by decide) (by decide) rfl (by decide) ?_
        refine x_aload_n C d_Pl_tellOf_54 rfl ?_
        refine x_get C (G_Pl E.1) 2 (u_61 E.1) d_Pl_tellOf_55 (by decide) HL.1 rfl ?_
        refine x_iload_n C d_Pl_tellOf_58 rfl ?_
        refine x_iald C d_Pl_tellOf_59 HL.2.2.2 (by omega) (by omega) (by omega) ?_
        exact x_iret C d_Pl_tellOf_60 (nle rfl) (nle rfl) ⟨by
  first
    | (exfalso; omega)
    | (unfold tellZ; rw [if_neg (by omega)]; done)
    | (unfold tellZ; rw [if_pos (by omega)]; rfl)
    | (unfold tellZ; rw [if_pos (by omega), if_neg (by omega), if_neg (by omega), if_neg (by omega)]; done), rfl, rfl⟩
      · refine x_iconst C d_Pl_tellOf_12 ?_
        exact x_iret C d_Pl_tellOf_13 (nle rfl) (nle rfl) ⟨by
  first
    | (exfalso; omega)
    | (unfold tellZ; rw [if_neg (by omega)]; done)
    | (unfold tellZ; rw [if_pos (by omega)]; rfl)
    | (unfold tellZ; rw [if_pos (by omega), if_neg (by omega), if_neg (by omega), if_neg (by omega)]; done), rfl, rfl⟩
  · refine x_iload_n C d_Pl_tellOf_0 rfl ?_
    refine x_if_lt C (tgt := 12) d_Pl_tellOf_1 (by decide) (by omega) (by omega) (fun c1 => ?_) (fun c1 => ?_)
    · refine x_iconst C d_Pl_tellOf_12 ?_
      exact x_iret C d_Pl_tellOf_13 (nle rfl) (nle rfl) ⟨by
  first
    | (exfalso; omega)
    | (unfold tellZ; rw [if_neg (by omega)]; done)
    | (unfold tellZ; rw [if_pos (by omega)]; rfl)
    | (unfold tellZ; rw [if_pos (by omega), if_neg (by omega), if_neg (by omega), if_neg (by omega)]; done), rfl, rfl⟩
    · refine x_iload_n C d_Pl_tellOf_4 rfl ?_
      refine x_aload_n C d_Pl_tellOf_5 rfl ?_
      refine x_get C (G_Pl E.1) 3 (u_62 E.1) d_Pl_tellOf_6 (by decide) HL.1 rfl ?_
      refine x_icmp_lt C (tgt := 14) d_Pl_tellOf_9 (by decide) (by omega) (by omega) (by omega) (by omega) (fun c9 => ?_) (fun c9 => ?_)
      · refine x_iload_n C d_Pl_tellOf_14 rfl ?_
        refine x_tabOut C (tgt := 61) d_Pl_tellOf_15 (by omega) (by omega) (by omega) (by decide) ?_
        refine x_iconst C d_Pl_tellOf_61 ?_
        exact x_iret C d_Pl_tellOf_62 (nle rfl) (nle rfl) ⟨by
  first
    | (exfalso; omega)
    | (unfold tellZ; rw [if_neg (by omega)]; done)
    | (unfold tellZ; rw [if_pos (by omega)]; rfl)
    | (unfold tellZ; rw [if_pos (by omega), if_neg (by omega), if_neg (by omega), if_neg (by omega)]; done), rfl, rfl⟩
      · refine x_iconst C d_Pl_tellOf_12 ?_
        exact x_iret C d_Pl_tellOf_13 (nle rfl) (nle rfl) ⟨by
  first
    | (exfalso; omega)
    | (unfold tellZ; rw [if_neg (by omega)]; done)
    | (unfold tellZ; rw [if_pos (by omega)]; rfl)
    | (unfold tellZ; rw [if_pos (by omega), if_neg (by omega), if_neg (by omega), if_neg (by omega)]; done), rfl, rfl⟩

abbrev oNp (b kp np : Nat) (has : Int) : va_E := .inr (10, [.ref (b + 1), .ref (b + 3), .ref (b + 5), .ref (b + 7), .ref (b + kp), .int (zI has), .ref (b + np), .ref (b + 16), .ref (b + 17), .ref (b + 21), .ref (b + 22), .ref (b + 27)])
def chanceZ (has : Int) (f : Int → Int) (nm st : Int) : Int := if has = 0 ∨ nm < 0 ∨ 6 ≤ nm ∨ st < 0 ∨ 12 ≤ st then -1 else f (nm * 12 + st)
set_option maxRecDepth 100000 in
set_option maxHeartbeats 4000000 in
theorem c_Np_type1 {a0 : Array Value} {s0 : State} {D : va_G} {cI cL : ClassId} (l : Launch) (E : a_E a0 s0 D cI cL) {h : AH} {K kp np : Nat} {has : Int} (h0 : h 0 = some (oNp s0.heap.size kp np has)) {f : Int → Int} {n : Int} (ha : h 1 = some (oBy s0.heap.size 2 n)) (hr : h 2 = some (iA cI 120 f)) (n1 : 0 ≤ n) (n2 : n ≤ 120) {b : Int} (bb : 0 ≤ b ∧ b ≤ 255) (nn : n < 120) : XM l s0 D y_Np_type prog_1_method_2_code 2 (some .boolean) 2 0 0 [.ref (s0.heap.size + 0), .int (zI b)] (h) (K) (PR (some (.int (zI 1))) (a_up (a_up h 2 (iA cI 120 (zup f n b))) 1 (oBy s0.heap.size 2 (n + 1))) K) := by
  refine XM.of (cI := cI) (cL := cL) (own := "NarrowingPacker") (by decide) rfl E.2 (nle rfl) ?_
  intro p e s m below meth c C hn
  refine x_aload_n C d_Np_type_0 rfl ?_
  refine x_get C (G_Np E.1) 0 (u_246 E.1) d_Np_type_1 (by decide) (by exact h0) rfl ?_
  refine x_iload_n C d_Np_type_4 rfl ?_
  refine x_callVR C (G_By E.1) (u_287 E.1) (u_288 E.1) (u_289 E.1) (u_290 E.1) (u_2 E.1) d_Np_type_5 (c_By_append l E ha hr (by decide) n1 n2 (by decide) bb nn (by omega) (by omega)) nh_By_append ln_By_append rfl ha (nle rfl) (nle rfl) (nle rfl) (nle rfl) (nle rfl) ?_
  exact x_zret C d_Np_type_8 (by omega) (nle rfl) (nle rfl) ⟨rfl, rfl, rfl⟩

set_option maxRecDepth 100000 in
set_option maxHeartbeats 4000000 in
theorem c_Np_type0 {a0 : Array Value} {s0 : State} {D : va_G} {cI cL : ClassId} (l : Launch) (E : a_E a0 s0 D cI cL) {h : AH} {K kp np : Nat} {has : Int} (h0 : h 0 = some (oNp s0.heap.size kp np has)) {f : Int → Int} {n : Int} (ha : h 1 = some (oBy s0.heap.size 2 n)) (hr : h 2 = some (iA cI 120 f)) (n1 : 0 ≤ n) (n2 : n ≤ 120) {b : Int} (bb : ¬ (0 ≤ b ∧ b ≤ 255) ∨ n = 120) (b1 : -2147483648 ≤ b) (b2 : b < 2147483648) : XM l s0 D y_Np_type prog_1_method_2_code 2 (some .boolean) 2 0 0 [.ref (s0.heap.size + 0), .int (zI b)] (h) (K) (PR (some (.int (zI 0))) h K) := by
  refine XM.of (cI := cI) (cL := cL) (own := "NarrowingPacker") (by decide) rfl E.2 (nle rfl) ?_
  intro p e s m below meth c C hn
  refine x_aload_n C d_Np_type_0 rfl ?_
  refine x_get C (G_Np E.1) 0 (u_246 E.1) d_Np_type_1 (by decide) (by exact h0) rfl ?_
  refine x_iload_n C d_Np_type_4 rfl ?_
  refine x_callVR C (G_By E.1) (u_287 E.1) (u_288 E.1) (u_289 E.1) (u_290 E.1) (u_2 E.1) d_Np_type_5 (c_By_append0 l E ha hr (by decide) n1 n2 bb (by omega) (by omega)) nh_By_append ln_By_append rfl ha (nle rfl) (nle rfl) (nle rfl) (nle rfl) (nle rfl) ?_
  exact x_zret C d_Np_type_8 (by omega) (nle rfl) (nle rfl) ⟨rfl, rfl, rfl⟩

set_option maxRecDepth 100000 in
set_option maxHeartbeats 4000000 in
theorem c_Np_add1 {a0 : Array Value} {s0 : State} {D : va_G} {cI cL : ClassId} (l : Launch) (E : a_E a0 s0 D cI cL) {h : AH} {K kp np : Nat} {has : Int} (h0 : h 0 = some (oNp s0.heap.size kp np has)) {f : Int → Int} {n : Int} (ha : h 3 = some (oBy s0.heap.size 4 n)) (hr : h 4 = some (iA cI 200 f)) (n1 : 0 ≤ n) (n2 : n ≤ 200) {b : Int} (bb : 0 ≤ b ∧ b ≤ 255) (nn : n < 200) : XM l s0 D y_Np_add prog_1_method_10_code 2 (some .boolean) 2 0 0 [.ref (s0.heap.size + 0), .int (zI b)] (h) (K) (PR (some (.int (zI 1))) (a_up (a_up h 4 (iA cI 200 (zup f n b))) 3 (oBy s0.heap.size 4 (n + 1))) K) := by
  refine XM.of (cI := cI) (cL := cL) (own := "NarrowingPacker") (by decide) rfl E.2 (nle rfl) ?_
  intro p e s m below meth c C hn
  refine x_aload_n C d_Np_add_0 rfl ?_
  refine x_get C (G_Np E.1) 1 (u_247 E.1) d_Np_add_1 (by decide) (by exact h0) rfl ?_
  refine x_iload_n C d_Np_add_4 rfl ?_
  refine x_callVR C (G_By E.1) (u_287 E.1) (u_288 E.1) (u_289 E.1) (u_290 E.1) (u_2 E.1) d_Np_add_5 (c_By_append l E ha hr (by decide) n1 n2 (by decide) bb nn (by omega) (by omega)) nh_By_append ln_By_append rfl ha (nle rfl) (nle rfl) (nle rfl) (nle rfl) (nle rfl) ?_
  exact x_zret C d_Np_add_8 (by omega) (nle rfl) (nle rfl) ⟨rfl, rfl, rfl⟩

set_option maxRecDepth 100000 in
set_option maxHeartbeats 4000000 in
theorem c_Np_add0 {a0 : Array Value} {s0 : State} {D : va_G} {cI cL : ClassId} (l : Launch) (E : a_E a0 s0 D cI cL) {h : AH} {K kp np : Nat} {has : Int} (h0 : h 0 = some (oNp s0.heap.size kp np has)) {f : Int → Int} {n : Int} (ha : h 3 = some (oBy s0.heap.size 4 n)) (hr : h 4 = some (iA cI 200 f)) (n1 : 0 ≤ n) (n2 : n ≤ 200) {b : Int} (bb : ¬ (0 ≤ b ∧ b ≤ 255) ∨ n = 200) (b1 : -2147483648 ≤ b) (b2 : b < 2147483648) : XM l s0 D y_Np_add prog_1_method_10_code 2 (some .boolean) 2 0 0 [.ref (s0.heap.size + 0), .int (zI b)] (h) (K) (PR (some (.int (zI 0))) h K) := by
  refine XM.of (cI := cI) (cL := cL) (own := "NarrowingPacker") (by decide) rfl E.2 (nle rfl) ?_
  intro p e s m below meth c C hn
  refine x_aload_n C d_Np_add_0 rfl ?_
  refine x_get C (G_Np E.1) 1 (u_247 E.1) d_Np_add_1 (by decide) (by exact h0) rfl ?_
  refine x_iload_n C d_Np_add_4 rfl ?_
  refine x_callVR C (G_By E.1) (u_287 E.1) (u_288 E.1) (u_289 E.1) (u_290 E.1) (u_2 E.1) d_Np_add_5 (c_By_append0 l E ha hr (by decide) n1 n2 bb (by omega) (by omega)) nh_By_append ln_By_append rfl ha (nle rfl) (nle rfl) (nle rfl) (nle rfl) (nle rfl) ?_
  exact x_zret C d_Np_add_8 (by omega) (nle rfl) (nle rfl) ⟨rfl, rfl, rfl⟩

set_option maxRecDepth 100000 in
set_option maxHeartbeats 4000000 in
theorem c_Np_wipe {a0 : Array Value} {s0 : State} {D : va_G} {cI cL : ClassId} (l : Launch) (E : a_E a0 s0 D cI cL) {h : AH} {K kp np : Nat} {has : Int} (h0 : h 0 = some (oNp s0.heap.size kp np has)) {f : Int → Int} {n : Int} (ha : h 1 = some (oBy s0.heap.size 2 n)) (hr : h 2 = some (iA cI 120 f)) (n1 : 0 ≤ n) (n2 : n ≤ 120) : XM l s0 D y_Np_wipe prog_1_method_3_code 1 (some .int) 2 0 0 [.ref (s0.heap.size + 0)] (h) (K) (PR (some (.int (zI n))) (a_up h 1 (oBy s0.heap.size 2 0)) K) := by
  refine XM.of (cI := cI) (cL := cL) (own := "NarrowingPacker") (by decide) rfl E.2 (nle rfl) ?_
  intro p e s m below meth c C hn
  refine x_aload_n C d_Np_wipe_0 rfl ?_
  refine x_get C (G_Np E.1) 0 (u_246 E.1) d_Np_wipe_1 (by decide) (by exact h0) rfl ?_
  refine x_iconst C d_Np_wipe_4 ?_
  refine x_callVR C (G_By E.1) (u_298 E.1) (u_299 E.1) (u_300 E.1) (u_301 E.1) (u_2 E.1) d_Np_wipe_5 (c_By_shorten l E ha n1 (by omega) (by omega) (by omega)) nh_By_shorten ln_By_shorten rfl ha (nle rfl) (nle rfl) (nle rfl) (nle rfl) (nle rfl) ?_
  rw [show max 0 (min 0 n) = 0 by omega, show n - 0 = n by omega]
  exact x_iret C d_Np_wipe_8 (nle rfl) (nle rfl) ⟨rfl, rfl, rfl⟩

set_option maxRecDepth 100000 in
set_option maxHeartbeats 4000000 in
theorem c_Np_packets {a0 : Array Value} {s0 : State} {D : va_G} {cI cL : ClassId} (l : Launch) (E : a_E a0 s0 D cI cL) {h : AH} {K kp np : Nat} {has : Int} (h0 : h 0 = some (oNp s0.heap.size kp np has)) {r1 r2 r3 : Nat} {n : Int} (hl : h kp = some (oPl s0.heap.size r1 r2 r3 n)) : XM l s0 D y_Np_packets prog_1_method_5_code 1 (some .int) 0 0 0 [.ref (s0.heap.size + 0)] (h) (K) (PR (some (.int (zI n))) h K) := by
  refine XM.of (cI := cI) (cL := cL) (own := "NarrowingPacker") (by decide) rfl E.2 (nle rfl) ?_
  intro p e s m below meth c C hn
  refine x_aload_n C d_Np_packets_0 rfl ?_
  refine x_get C (G_Np E.1) 4 (u_250 E.1) d_Np_packets_1 (by decide) (by exact h0) rfl ?_
  refine x_getN C (G_Pl E.1) 3 (u_63 E.1) d_Np_packets_4 (by decide) hl rfl ?_
  exact x_iret C d_Np_packets_7 (nle rfl) (nle rfl) ⟨rfl, rfl, rfl⟩

set_option maxRecDepth 100000 in
set_option maxHeartbeats 4000000 in
theorem c_Np_packet8 {a0 : Array Value} {s0 : State} {D : va_G} {cI cL : ClassId} (l : Launch) (E : a_E a0 s0 D cI cL) {h : AH} {K np : Nat} {has : Int} (h0 : h 0 = some (oNp s0.heap.size 8 np has)) {w : T3} {n : Int} (HL : isL s0.heap.size cI 8 h w n) (n1 : 0 ≤ n) (n2 : n ≤ 120) {i wh : Int} (i1 : -2147483648 ≤ i) (i2 : i < 2147483648) (w1 : -2147483648 ≤ wh) (w2 : wh < 2147483648) : XM l s0 D y_Np_packet prog_1_method_6_code 3 (some .int) 1 0 0 [.ref (s0.heap.size + 0), .int (zI i), .int (zI wh)] (h) (K) (PR (some (.int (zI (tellZ w n i wh)))) h K) := by
  refine XM.of (cI := cI) (cL := cL) (own := "NarrowingPacker") (by decide) rfl E.2 (nle rfl) ?_
  intro p e s m below meth c C hn
  refine x_aload_n C d_Np_packet_0 rfl ?_
  refine x_get C (G_Np E.1) 4 (u_250 E.1) d_Np_packet_1 (by decide) (by exact h0) rfl ?_
  refine x_iload_n C d_Np_packet_4 rfl ?_
  refine x_iload_n C d_Np_packet_5 rfl ?_
  refine x_callVR C (G_Pl E.1) (u_312 E.1) (u_313 E.1) (u_314 E.1) (u_315 E.1) (u_3 E.1) d_Np_packet_6 (c_Pl_tellOf8 l E HL n1 n2 i1 i2 w1 w2) nh_Pl_tellOf ln_Pl_tellOf rfl HL.1 (nle rfl) (nle rfl) (nle rfl) (nle rfl) (nle rfl) ?_
  exact x_iret C d_Np_packet_9 (nle rfl) (nle rfl) ⟨rfl, rfl, rfl⟩

set_option maxRecDepth 100000 in
set_option maxHeartbeats 4000000 in
theorem c_Np_packet12 {a0 : Array Value} {s0 : State} {D : va_G} {cI cL : ClassId} (l : Launch) (E : a_E a0 s0 D cI cL) {h : AH} {K np : Nat} {has : Int} (h0 : h 0 = some (oNp s0.heap.size 12 np has)) {w : T3} {n : Int} (HL : isL s0.heap.size cI 12 h w n) (n1 : 0 ≤ n) (n2 : n ≤ 120) {i wh : Int} (i1 : -2147483648 ≤ i) (i2 : i < 2147483648) (w1 : -2147483648 ≤ wh) (w2 : wh < 2147483648) : XM l s0 D y_Np_packet prog_1_method_6_code 3 (some .int) 1 0 0 [.ref (s0.heap.size + 0), .int (zI i), .int (zI wh)] (h) (K) (PR (some (.int (zI (tellZ w n i wh)))) h K) := by
  refine XM.of (cI := cI) (cL := cL) (own := "NarrowingPacker") (by decide) rfl E.2 (nle rfl) ?_
  intro p e s m below meth c C hn
  refine x_aload_n C d_Np_packet_0 rfl ?_
  refine x_get C (G_Np E.1) 4 (u_250 E.1) d_Np_packet_1 (by decide) (by exact h0) rfl ?_
  refine x_iload_n C d_Np_packet_4 rfl ?_
  refine x_iload_n C d_Np_packet_5 rfl ?_
  refine x_callVR C (G_Pl E.1) (u_312 E.1) (u_313 E.1) (u_314 E.1) (u_315 E.1) (u_3 E.1) d_Np_packet_6 (c_Pl_tellOf12 l E HL n1 n2 i1 i2 w1 w2) nh_Pl_tellOf ln_Pl_tellOf rfl HL.1 (nle rfl) (nle rfl) (nle rfl) (nle rfl) (nle rfl) ?_
  exact x_iret C d_Np_packet_9 (nle rfl) (nle rfl) ⟨rfl, rfl, rfl⟩

set_option maxRecDepth 100000 in
set_option maxHeartbeats 4000000 in
theorem c_Np_chance {a0 : Array Value} {s0 : State} {D : va_G} {cI cL : ClassId} (l : Launch) (E : a_E a0 s0 D cI cL) {h : AH} {K kp np : Nat} {has : Int} (h0 : h 0 = some (oNp s0.heap.size kp np has)) (hh : has = 0 ∨ has = 1) {f : Int → Int} (h7 : h 7 = some (iA cI 72 f)) {nm st : Int} (a1 : -2147483648 ≤ nm) (a2 : nm < 2147483648) (b1 : -2147483648 ≤ st) (b2 : st < 2147483648) : XM l s0 D y_Np_chance prog_1_method_7_code 3 (some .int) 0 0 0 [.ref (s0.heap.size + 0), .int (zI nm), .int (zI st)] (h) (K) (PR (some (.int (zI (chanceZ has f nm st)))) h K) := by
  refine XM.of (cI := cI) (cL := cL) (own := "NarrowingPacker") (by decide) rfl E.2 (nle rfl) ?_
  intro p e s m below meth c C hn
  refine x_aload_n C d_Np_chance_0 rfl ?_
  refine x_get C (G_Np E.1) 5 (u_251 E.1) d_Np_chance_1 (by decide) (by exact h0) rfl ?_
  refine x_if_eq C (tgt := 17) d_Np_chance_4 (by decide) (by omega) (by omega) (fun c4 => ?_) (fun c4 => ?_)
  · refine x_iconst C d_Np_chance_17 ?_
    exact x_iret C d_Np_chance_18 (nle rfl) (nle rfl) ⟨by
  first
    | (unfold chanceZ; rw [if_pos (by omega)]; done)
    | (unfold chanceZ; rw [if_neg (by omega)]; done), rfl, rfl⟩
  · refine x_iload_n C d_Np_chance_7 rfl ?_
    refine x_if_lt C (tgt := 17) d_Np_chance_8 (by decide) (by omega) (by omega) (fun c8 => ?_) (fun c8 => ?_)
    · refine x_iconst C d_Np_chance_17 ?_
      exact x_iret C d_Np_chance_18 (nle rfl) (nle rfl) ⟨by
  first
    | (unfold chanceZ; rw [if_pos (by omega)]; done)
    | (unfold chanceZ; rw [if_neg (by omega)]; done), rfl, rfl⟩
    · refine x_iload_n C d_Np_chance_11 rfl ?_
      refine x_bipush C d_Np_chance_12 (by decide) ?_
      refine x_icmp_lt C (tgt := 19) d_Np_chance_14 (by decide) (by omega) (by omega) (by omega) (by omega) (fun c14 => ?_) (fun c14 => ?_)
      · refine x_iload_n C d_Np_chance_19 rfl ?_
        refine x_if_lt C (tgt := 29) d_Np_chance_20 (by decide) (by omega) (by omega) (fun c20 => ?_) (fun c20 => ?_)
        · refine x_iconst C d_Np_chance_29 ?_
          exact x_iret C d_Np_chance_30 (nle rfl) (nle rfl) ⟨by
  first
    | (unfold chanceZ; rw [if_pos (by omega)]; done)
    | (unfold chanceZ; rw [if_neg (by omega)]; done), rfl, rfl⟩
        · refine x_iload_n C d_Np_chance_23 rfl ?_
          refine x_bipush C d_Np_chance_24 (by decide) ?_
          refine x_icmp_lt C (tgt := 31) d_Np_chance_26 (by decide) (by omega) (by omega) (by omega) (by omega) (fun c26 => ?_) (fun c26 => ?_)
          · refine x_aload_n C d_Np_chance_31 rfl ?_
            refine x_get C (G_Np E.1) 3 (u_249 E.1) d_Np_chance_32 (by decide) (by exact h0) rfl ?_
            refine x_iload_n C d_Np_chance_35 rfl ?_
            refine x_bipush C d_Np_chance_36 (by decide) ?_
            refine x_imul C d_Np_chance_38 ?_
            refine x_iload_n C d_Np_chance_39 rfl ?_
            refine x_iadd C d_Np_chance_40 ?_
            refine x_iald C d_Np_chance_41 h7 (by omega) (by omega) (by omega) ?_
            exact x_iret C d_Np_chance_42 (nle rfl) (nle rfl) ⟨by
  first
    | (unfold chanceZ; rw [if_pos (by omega)]; done)
    | (unfold chanceZ; rw [if_neg (by omega)]; done), rfl, rfl⟩
          · refine x_iconst C d_Np_chance_29 ?_
            exact x_iret C d_Np_chance_30 (nle rfl) (nle rfl) ⟨by
  first
    | (unfold chanceZ; rw [if_pos (by omega)]; done)
    | (unfold chanceZ; rw [if_neg (by omega)]; done), rfl, rfl⟩
      · refine x_iconst C d_Np_chance_17 ?_
        exact x_iret C d_Np_chance_18 (nle rfl) (nle rfl) ⟨by
  first
    | (unfold chanceZ; rw [if_pos (by omega)]; done)
    | (unfold chanceZ; rw [if_neg (by omega)]; done), rfl, rfl⟩

set_option maxRecDepth 100000 in
set_option maxHeartbeats 4000000 in
theorem c_Np_size {a0 : Array Value} {s0 : State} {D : va_G} {cI cL : ClassId} (l : Launch) (E : a_E a0 s0 D cI cL) {h : AH} {K kp np : Nat} {has : Int} (h0 : h 0 = some (oNp s0.heap.size kp np has)) {f : Int → Int} {n : Int} (ha : h 3 = some (oBy s0.heap.size 4 n)) (hr : h 4 = some (iA cI 200 f)) (n1 : 0 ≤ n) (n2 : n ≤ 200) : XM l s0 D y_Np_size prog_1_method_8_code 1 (some .int) 0 0 0 [.ref (s0.heap.size + 0)] (h) (K) (PR (some (.int (zI n))) h K) := by
  refine XM.of (cI := cI) (cL := cL) (own := "NarrowingPacker") (by decide) rfl E.2 (nle rfl) ?_
  intro p e s m below meth c C hn
  refine x_aload_n C d_Np_size_0 rfl ?_
  refine x_get C (G_Np E.1) 1 (u_247 E.1) d_Np_size_1 (by decide) (by exact h0) rfl ?_
  refine x_getN C (G_By E.1) 1 (u_46 E.1) d_Np_size_4 (by decide) ha rfl ?_
  exact x_iret C d_Np_size_7 (nle rfl) (nle rfl) ⟨rfl, rfl, rfl⟩

set_option maxRecDepth 100000 in
set_option maxHeartbeats 4000000 in
theorem c_Np_told {a0 : Array Value} {s0 : State} {D : va_G} {cI cL : ClassId} (l : Launch) (E : a_E a0 s0 D cI cL) {h : AH} {K kp np : Nat} {has : Int} (h0 : h 0 = some (oNp s0.heap.size kp np has)) {f : Int → Int} {n : Int} (ha : h 5 = some (oBy s0.heap.size 6 n)) (hr : h 6 = some (iA cI 120 f)) (n1 : 0 ≤ n) (n2 : n ≤ 120) : XM l s0 D y_Np_told prog_1_method_14_code 1 (some .int) 0 0 0 [.ref (s0.heap.size + 0)] (h) (K) (PR (some (.int (zI n))) h K) := by
  refine XM.of (cI := cI) (cL := cL) (own := "NarrowingPacker") (by decide) rfl E.2 (nle rfl) ?_
  intro p e s m below meth c C hn
  refine x_aload_n C d_Np_told_0 rfl ?_
  refine x_get C (G_Np E.1) 2 (u_248 E.1) d_Np_told_1 (by decide) (by exact h0) rfl ?_
  refine x_getN C (G_By E.1) 1 (u_46 E.1) d_Np_told_4 (by decide) ha rfl ?_
  exact x_iret C d_Np_told_7 (nle rfl) (nle rfl) ⟨rfl, rfl, rfl⟩

set_option maxRecDepth 100000 in
set_option maxHeartbeats 4000000 in
theorem c_Np_at {a0 : Array Value} {s0 : State} {D : va_G} {cI cL : ClassId} (l : Launch) (E : a_E a0 s0 D cI cL) {h : AH} {K kp np : Nat} {has : Int} (h0 : h 0 = some (oNp s0.heap.size kp np has)) {f : Int → Int} {n : Int} (ha : h 3 = some (oBy s0.heap.size 4 n)) (hr : h 4 = some (iA cI 200 f)) (n1 : 0 ≤ n) (n2 : n ≤ 200) {i : Int} (i1 : -2147483648 ≤ i) (i2 : i < 2147483648) : XM l s0 D y_Np_at prog_1_method_9_code 2 (some .int) 2 0 0 [.ref (s0.heap.size + 0), .int (zI i)] (h) (K) (PR (some (.int (zI (getZ f i n)))) h K) := by
  refine XM.of (cI := cI) (cL := cL) (own := "NarrowingPacker") (by decide) rfl E.2 (nle rfl) ?_
  intro p e s m below meth c C hn
  refine x_aload_n C d_Np_at_0 rfl ?_
  refine x_get C (G_Np E.1) 1 (u_247 E.1) d_Np_at_1 (by decide) (by exact h0) rfl ?_
  refine x_iload_n C d_Np_at_4 rfl ?_
  refine x_callVR C (G_By E.1) (u_328 E.1) (u_329 E.1) (u_330 E.1) (u_331 E.1) (u_2 E.1) d_Np_at_5 (c_By_get l E ha hr (by decide) n1 n2 i1 i2) nh_By_get ln_By_get rfl ha (nle rfl) (nle rfl) (nle rfl) (nle rfl) (nle rfl) ?_
  exact x_iret C d_Np_at_8 (nle rfl) (nle rfl) ⟨rfl, rfl, rfl⟩

set_option maxRecDepth 100000 in
set_option maxHeartbeats 4000000 in
theorem c_Np_byteAt {a0 : Array Value} {s0 : State} {D : va_G} {cI cL : ClassId} (l : Launch) (E : a_E a0 s0 D cI cL) {h : AH} {K kp np : Nat} {has : Int} (h0 : h 0 = some (oNp s0.heap.size kp np has)) {f : Int → Int} {n : Int} (ha : h 5 = some (oBy s0.heap.size 6 n)) (hr : h 6 = some (iA cI 120 f)) (n1 : 0 ≤ n) (n2 : n ≤ 120) {i : Int} (i1 : -2147483648 ≤ i) (i2 : i < 2147483648) : XM l s0 D y_Np_byteAt prog_1_method_15_code 2 (some .int) 2 0 0 [.ref (s0.heap.size + 0), .int (zI i)] (h) (K) (PR (some (.int (zI (getZ f i n)))) h K) := by
  refine XM.of (cI := cI) (cL := cL) (own := "NarrowingPacker") (by decide) rfl E.2 (nle rfl) ?_
  intro p e s m below meth c C hn
  refine x_aload_n C d_Np_byteAt_0 rfl ?_
  refine x_get C (G_Np E.1) 2 (u_248 E.1) d_Np_byteAt_1 (by decide) (by exact h0) rfl ?_
  refine x_iload_n C d_Np_byteAt_4 rfl ?_
  refine x_callVR C (G_By E.1) (u_328 E.1) (u_329 E.1) (u_330 E.1) (u_331 E.1) (u_2 E.1) d_Np_byteAt_5 (c_By_get l E ha hr (by decide) n1 n2 i1 i2) nh_By_get ln_By_get rfl ha (nle rfl) (nle rfl) (nle rfl) (nle rfl) (nle rfl) ?_
  exact x_iret C d_Np_byteAt_8 (nle rfl) (nle rfl) ⟨rfl, rfl, rfl⟩

