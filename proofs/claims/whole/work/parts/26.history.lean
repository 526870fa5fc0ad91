/-! what has been told: its object at 17, the bytes at 18 and 19, the last distances at 20 -/
section Tab
variable {a0 : Array Value} {s0 : State} {D : va_G} {cI cL : ClassId} {p : Program} {l : Launch} {e : Env} {R : Room} {s : State} {m : MethodId} {args : Array Value} {below : List Frame} {meth : Method} {c : Code} {Q : State → Prop} {tb : List ExceptionTableEntry}
variable {own : String} {cc : ByteArray} {nL : Nat} {ret : Option FieldType} {pc : Nat} {lv : List (Nat × Value)} {st : List Value} {h : AH} {K cells slots : Nat}
theorem x_tabIn (C : XC s0 D cI cL p s m meth c own cc nL ret tb) {dflt lo hi off x : Int} {offs : Array Int} {len tgt : Nat} (hd : decode cc pc = .ok (.tableswitch dflt lo hi offs, len)) (h1 : lo ≤ x) (h2 : x ≤ hi) (x1 : -2147483648 ≤ x) (x2 : x < 2147483648) (ho : offs[(x - lo).toNat]? = some off) (ht : (pc : Int) + off = (tgt : Int)) (k : XW s0 D p l e R s m args below meth c Q tgt lv st h K cells slots) : XW s0 D p l e R s m args below meth c Q pc lv (.int (zI x) :: st) h K cells slots :=
  fun ls H locs P => lv_tableIn C.1 C.2.1 hd (by rw [zI_t x1 x2]; omega) (by rw [zI_t x1 x2]; omega) (by rw [zI_t x1 x2]; exact ho) ht (k ls H locs P)
theorem x_tabOut (C : XC s0 D cI cL p s m meth c own cc nL ret tb) {dflt lo hi x : Int} {offs : Array Int} {len tgt : Nat} (hd : decode cc pc = .ok (.tableswitch dflt lo hi offs, len)) (h1 : x < lo ∨ hi < x) (x1 : -2147483648 ≤ x) (x2 : x < 2147483648) (ht : (pc : Int) + dflt = (tgt : Int)) (k : XW s0 D p l e R s m args below meth c Q tgt lv st h K cells slots) : XW s0 D p l e R s m args below meth c Q pc lv (.int (zI x) :: st) h K cells slots :=
  fun ls H locs P => lv_tableOut C.1 C.2.1 hd (by rw [zI_t x1 x2]; exact h1) ht (k ls H locs P)
end Tab
abbrev oHi (b : Nat) (st : Int) : va_E := .inr (4, [.ref (b + 18), .ref (b + 20), .int (zI st)])
def isH (b : Nat) (cI : ClassId) (g : AH) (t : Hs) : Prop := g 17 = some (oHi b t.2.2.2) ∧ g 18 = some (oBy b 19 t.2.1) ∧ g 19 = some (iA cI 120 t.1) ∧ g 20 = some (iA cI 4 t.2.2.1)
def sH (b : Nat) (cI : ClassId) (h : AH) (t : Hs) : AH := a_up (a_up (a_up (a_up h 19 (iA cI 120 t.1)) 18 (oBy b 19 t.2.1)) 20 (iA cI 4 t.2.2.1)) 17 (oHi b t.2.2.2)
theorem isH_sH (b : Nat) (cI : ClassId) (h : AH) (t : Hs) : isH b cI (sH b cI h t) t := ⟨rfl, rfl, rfl, rfl⟩
theorem sH_eq {b : Nat} {cI : ClassId} {h h1 : AH} {t : Hs} (e1 : h1 17 = some (oHi b t.2.2.2)) (e2 : h1 18 = some (oBy b 19 t.2.1)) (e3 : h1 19 = some (iA cI 120 t.1)) (e4 : h1 20 = some (iA cI 4 t.2.2.1)) (o : ∀ q, q ≠ 17 → q ≠ 18 → q ≠ 19 → q ≠ 20 → h1 q = h q) : h1 = sH b cI h t := by
  funext q
  by_cases q1 : q = 17
  · subst q1; exact e1
  · by_cases q2 : q = 18
    · subst q2; exact e2
    · by_cases q3 : q = 19
      · subst q3; exact e3
      · by_cases q4 : q = 20
        · subst q4; exact e4
        · rw [o q q1 q2 q3 q4]; unfold sH; rw [a_up_n q1, a_up_n q4, a_up_n q2, a_up_n q3]
def hOk (t : Hs) : Prop := (∀ j, 0 ≤ t.1 j ∧ t.1 j < 256) ∧ (0 ≤ t.2.1 ∧ t.2.1 ≤ 120) ∧ (∀ j, 1 ≤ t.2.2.1 j ∧ t.2.2.1 j ≤ 120) ∧ (0 ≤ t.2.2.2 ∧ t.2.2.2 ≤ 11) ∧ (7 ≤ t.2.2.2 → t.2.2.1 0 ≤ t.2.1)
theorem hBefore_b {t : Hs} (hk : hOk t) (d : Int) : 0 ≤ hBefore t d ∧ hBefore t d < 256 := by
  unfold hBefore
  split
  · exact hk.1 _
  · omega
theorem hAs_01 (t : Hs) : hAs t = 0 ∨ hAs t = 1 := by unfold hAs; split <;> omega
set_option maxRecDepth 100000 in
set_option maxHeartbeats 4000000 in
theorem c_Hi_byteBefore {a0 : Array Value} {s0 : State} {D : va_G} {cI cL : ClassId} (l : Launch) (E : a_E a0 s0 D cI cL) {h : AH} {K : Nat} {t : Hs} (H : isH s0.heap.size cI h t) (hk : hOk t) {d : Int} (d1 : -2147483648 ≤ d) (d2 : d < 2147483648) : XM l s0 D y_Hi_byteBefore prog_6_method_4_code 3 (some .int) 0 0 0 [.ref (s0.heap.size + 17), .int (zI d)] (h) (K) (PR (some (.int (zI (hBefore t d)))) h K) := by
  refine XM.of (cI := cI) (cL := cL) (own := "NarrowingPacker$History") (by decide) rfl E.2 (nle rfl) ?_
  intro p e s m below meth c C hn
  obtain ⟨k1, k2, k3, k4, k5⟩ := hk
  refine x_iload_n C d_Hi_byteBefore_0 rfl ?_
  refine x_iconst C d_Hi_byteBefore_1 ?_
  refine x_icmp_lt C (tgt := 20) d_Hi_byteBefore_2 (by decide) (by omega) (by omega) (by omega) (by omega) (fun c2 => ?_) (fun c2 => ?_)
  · refine x_iconst C d_Hi_byteBefore_20 ?_
    refine x_istore_n C d_Hi_byteBefore_21 (by decide) ?_
    refine x_iload_n C d_Hi_byteBefore_22 rfl ?_
    refine x_if_eq C (tgt := 46) d_Hi_byteBefore_23 (by decide) (by omega) (by omega) (fun c23 => ?_) (fun c23 => ?_)
    · refine x_iconst C d_Hi_byteBefore_46 ?_
      exact x_iret C d_Hi_byteBefore_47 (nle rfl) (nle rfl) ⟨by
  first
    | (exfalso; omega)
    | (unfold hBefore; rw [if_pos (by omega)]; done)
    | (unfold hBefore; rw [if_neg (by omega)]; done), rfl, rfl⟩
    · refine x_aload_n C d_Hi_byteBefore_26 rfl ?_
      refine x_get C (G_Hi E.1) 0 (u_120 E.1) d_Hi_byteBefore_27 (by decide) H.1 rfl ?_
      refine x_getN C (G_By E.1) 0 (u_39 E.1) d_Hi_byteBefore_30 (by decide) H.2.1 rfl ?_
      refine x_aload_n C d_Hi_byteBefore_33 rfl ?_
      refine x_get C (G_Hi E.1) 0 (u_120 E.1) d_Hi_byteBefore_34 (by decide) H.1 rfl ?_
      refine x_getN C (G_By E.1) 1 (u_45 E.1) d_Hi_byteBefore_37 (by decide) H.2.1 rfl ?_
      refine x_iload_n C d_Hi_byteBefore_40 rfl ?_
      refine x_isub C d_Hi_byteBefore_41 ?_
      refine x_iald C d_Hi_byteBefore_42 H.2.2.1 (by omega) (by omega) (by omega) ?_
      refine x_goto C (tgt := 47) d_Hi_byteBefore_43 (by decide) ?_
      exact x_iret C d_Hi_byteBefore_47 (nle rfl) (nle rfl) ⟨by
  first
    | (exfalso; omega)
    | (unfold hBefore; rw [if_pos (by omega)]; done)
    | (unfold hBefore; rw [if_neg (by omega)]; done), rfl, rfl⟩
  · refine x_iload_n C d_Hi_byteBefore_5 rfl ?_
    refine x_aload_n C d_Hi_byteBefore_6 rfl ?_
    refine x_get C (G_Hi E.1) 0 (u_120 E.1) d_Hi_byteBefore_7 (by decide) H.1 rfl ?_
    refine x_getN C (G_By E.1) 1 (u_45 E.1) d_Hi_byteBefore_10 (by decide) H.2.1 rfl ?_
    refine x_icmp_gt C (tgt := 20) d_Hi_byteBefore_13 (by decide) (by omega) (by omega) (by omega) (by omega) (fun c13 => ?_) (fun c13 => ?_)
    · refine x_iconst C d_Hi_byteBefore_20 ?_
      refine x_istore_n C d_Hi_byteBefore_21 (by decide) ?_
      refine x_iload_n C d_Hi_byteBefore_22 rfl ?_
      refine x_if_eq C (tgt := 46) d_Hi_byteBefore_23 (by decide) (by omega) (by omega) (fun c23 => ?_) (fun c23 => ?_)
      · refine x_iconst C d_Hi_byteBefore_46 ?_
        exact x_iret C d_Hi_byteBefore_47 (nle rfl) (nle rfl) ⟨by
  first
    | (exfalso; omega)
    | (unfold hBefore; rw [if_pos (by omega)]; done)
    | (unfold hBefore; rw [if_neg (by omega)]; done), rfl, rfl⟩
      · refine x_aload_n C d_Hi_byteBefore_26 rfl ?_
        refine x_get C (G_Hi E.1) 0 (u_120 E.1) d_Hi_byteBefore_27 (by decide) H.1 rfl ?_
        refine x_getN C (G_By E.1) 0 (u_39 E.1) d_Hi_byteBefore_30 (by decide) H.2.1 rfl ?_
        refine x_aload_n C d_Hi_byteBefore_33 rfl ?_
        refine x_get C (G_Hi E.1) 0 (u_120 E.1) d_Hi_byteBefore_34 (by decide) H.1 rfl ?_
        refine x_getN C (G_By E.1) 1 (u_45 E.1) d_Hi_byteBefore_37 (by decide) H.2.1 rfl ?_
        refine x_iload_n C d_Hi_byteBefore_40 rfl ?_
        refine x_isub C d_Hi_byteBefore_41 ?_
        refine x_iald C d_Hi_byteBefore_42 H.2.2.1 (by omega) (by omega) (by omega) ?_
        refine x_goto C (tgt := 47) d_Hi_byteBefore_43 (by decide) ?_
        exact x_iret C d_Hi_byteBefore_47 (nle rfl) (nle rfl) ⟨by
  first
    | (exfalso; omega)
    | (unfold hBefore; rw [if_pos (by omega)]; done)
    | (unfold hBefore; rw [if_neg (by omega)]; done), rfl, rfl⟩
    · refine x_iconst C d_Hi_byteBefore_16 ?_
      refine x_goto C (tgt := 21) d_Hi_byteBefore_17 (by decide) ?_
      refine x_istore_n C d_Hi_byteBefore_21 (by decide) ?_
      refine x_iload_n C d_Hi_byteBefore_22 rfl ?_
      refine x_if_eq C (tgt := 46) d_Hi_byteBefore_23 (by decide) (by omega) (by omega) (fun c23 => ?_) (fun c23 => ?_)
      · refine x_iconst C d_Hi_byteBefore_46 ?_
        exact x_iret C d_Hi_byteBefore_47 (nle rfl) (nle rfl) ⟨by
  first
    | (exfalso; omega)
    | (unfold hBefore; rw [if_pos (by omega)]; done)
    | (unfold hBefore; rw [if_neg (by omega)]; done), rfl, rfl⟩
      · refine x_aload_n C d_Hi_byteBefore_26 rfl ?_
        refine x_get C (G_Hi E.1) 0 (u_120 E.1) d_Hi_byteBefore_27 (by decide) H.1 rfl ?_
        refine x_getN C (G_By E.1) 0 (u_39 E.1) d_Hi_byteBefore_30 (by decide) H.2.1 rfl ?_
        refine x_aload_n C d_Hi_byteBefore_33 rfl ?_
        refine x_get C (G_Hi E.1) 0 (u_120 E.1) d_Hi_byteBefore_34 (by decide) H.1 rfl ?_
        refine x_getN C (G_By E.1) 1 (u_45 E.1) d_Hi_byteBefore_37 (by decide) H.2.1 rfl ?_
        refine x_iload_n C d_Hi_byteBefore_40 rfl ?_
        refine x_isub C d_Hi_byteBefore_41 ?_
        refine x_iald C d_Hi_byteBefore_42 H.2.2.1 (by omega) (by omega) (by omega) ?_
        refine x_goto C (tgt := 47) d_Hi_byteBefore_43 (by decide) ?_
        exact x_iret C d_Hi_byteBefore_47 (nle rfl) (nle rfl) ⟨by
  first
    | (exfalso; omega)
    | (unfold hBefore; rw [if_pos (by omega)]; done)
    | (unfold hBefore; rw [if_neg (by omega)]; done), rfl, rfl⟩

set_option maxRecDepth 100000 in
set_option maxHeartbeats 4000000 in
theorem c_Hi_isBehindACopy {a0 : Array Value} {s0 : State} {D : va_G} {cI cL : ClassId} (l : Launch) (E : a_E a0 s0 D cI cL) {h : AH} {K : Nat} {t : Hs} (H : isH s0.heap.size cI h t) (hk : hOk t) : XM l s0 D y_Hi_isBehindACopy prog_6_method_5_code 1 (some .boolean) 0 0 0 [.ref (s0.heap.size + 17)] (h) (K) (PR (some (.int (zI (hAs t)))) h K) := by
  refine XM.of (cI := cI) (cL := cL) (own := "NarrowingPacker$History") (by decide) rfl E.2 (nle rfl) ?_
  intro p e s m below meth c C hn
  obtain ⟨k1, k2, k3, k4, k5⟩ := hk
  refine x_aload_n C d_Hi_isBehindACopy_0 rfl ?_
  refine x_get C (G_Hi E.1) 2 (u_129 E.1) d_Hi_isBehindACopy_1 (by decide) H.1 rfl ?_
  refine x_bipush C d_Hi_isBehindACopy_4 (by decide) ?_
  refine x_icmp_lt C (tgt := 13) d_Hi_isBehindACopy_6 (by decide) (by omega) (by omega) (by omega) (by omega) (fun c6 => ?_) (fun c6 => ?_)
  · refine x_iconst C d_Hi_isBehindACopy_13 ?_
    exact x_zret C d_Hi_isBehindACopy_14 (by omega) (nle rfl) (nle rfl) ⟨by
  first
    | (exfalso; omega)
    | (unfold hAs; rw [if_pos (by omega)]; done)
    | (unfold hAs; rw [if_neg (by omega)]; done), rfl, rfl⟩
  · refine x_iconst C d_Hi_isBehindACopy_9 ?_
    refine x_goto C (tgt := 14) d_Hi_isBehindACopy_10 (by decide) ?_
    exact x_zret C d_Hi_isBehindACopy_14 (by omega) (nle rfl) (nle rfl) ⟨by
  first
    | (exfalso; omega)
    | (unfold hAs; rw [if_pos (by omega)]; done)
    | (unfold hAs; rw [if_neg (by omega)]; done), rfl, rfl⟩

set_option maxRecDepth 100000 in
set_option maxHeartbeats 4000000 in
theorem c_Hi_placeOfLiterals {a0 : Array Value} {s0 : State} {D : va_G} {cI cL : ClassId} (l : Launch) (E : a_E a0 s0 D cI cL) {h : AH} {K : Nat} {t : Hs} (H : isH s0.heap.size cI h t) (hk : hOk t) : XM l s0 D y_Hi_placeOfLiterals prog_6_method_6_code 2 (some .int) 1 0 0 [.ref (s0.heap.size + 17)] (h) (K) (PR (some (.int (zI (hPlace t)))) h K) := by
  refine XM.of (cI := cI) (cL := cL) (own := "NarrowingPacker$History") (by decide) rfl E.2 (nle rfl) ?_
  intro p e s m below meth c C hn
  refine x_aload_n C d_Hi_placeOfLiterals_0 rfl ?_
  refine x_iconst C d_Hi_placeOfLiterals_1 ?_
  refine x_callVR C (G_Hi E.1) (u_452 E.1) (u_453 E.1) (u_454 E.1) (u_455 E.1) (u_5 E.1) d_Hi_placeOfLiterals_2 (c_Hi_byteBefore l E H hk (by omega) (by omega)) nh_Hi_byteBefore ln_Hi_byteBefore rfl H.1 (nle rfl) (nle rfl) (nle rfl) (nle rfl) (nle rfl) ?_
  have hb := hBefore_b hk 1
  refine x_bipush C d_Hi_placeOfLiterals_5 (by decide) ?_
  refine x_ishr C (q := 64) 6 d_Hi_placeOfLiterals_7 rfl rfl (by decide) (by omega) (by omega) ?_
  refine x_istore_n C d_Hi_placeOfLiterals_8 (by decide) ?_
  refine x_sipush C d_Hi_placeOfLiterals_9 (by decide) ?_
  refine x_iload_n C d_Hi_placeOfLiterals_12 rfl ?_
  refine x_iconst C d_Hi_placeOfLiterals_13 ?_
  refine x_imul C d_Hi_placeOfLiterals_14 ?_
  refine x_sipush C d_Hi_placeOfLiterals_15 (by decide) ?_
  refine x_imul C d_Hi_placeOfLiterals_18 ?_
  refine x_iadd C d_Hi_placeOfLiterals_19 ?_
  exact x_iret C d_Hi_placeOfLiterals_20 (nle rfl) (nle rfl) ⟨by rw [show 748 + hBefore t 1 / 64 * 3 * 256 = hPlace t by unfold hPlace; omega], rfl, rfl⟩

set_option maxRecDepth 100000 in
set_option maxHeartbeats 4000000 in
theorem c_Hi_stateBehindLiteral {a0 : Array Value} {s0 : State} {D : va_G} {cI cL : ClassId} (l : Launch) (E : a_E a0 s0 D cI cL) {h : AH} {K : Nat} {t : Hs} (H : isH s0.heap.size cI h t) (hk : hOk t) : XM l s0 D y_Hi_stateBehindLiteral prog_6_method_10_code 1 (some .int) 0 0 0 [.ref (s0.heap.size + 17)] (h) (K) (PR (some (.int (zI (stLit t.2.2.2)))) h K) := by
  refine XM.of (cI := cI) (cL := cL) (own := "NarrowingPacker$History") (by decide) rfl E.2 (nle rfl) ?_
  intro p e s m below meth c C hn
  obtain ⟨k1, k2, k3, k4, k5⟩ := hk
  refine x_aload_n C d_Hi_stateBehindLiteral_0 rfl ?_
  refine x_get C (G_Hi E.1) 2 (u_129 E.1) d_Hi_stateBehindLiteral_1 (by decide) H.1 rfl ?_
  refine x_iconst C d_Hi_stateBehindLiteral_4 ?_
  refine x_icmp_ge C (tgt := 10) d_Hi_stateBehindLiteral_5 (by decide) (by omega) (by omega) (by omega) (by omega) (fun c5 => ?_) (fun c5 => ?_)
  · refine x_aload_n C d_Hi_stateBehindLiteral_10 rfl ?_
    refine x_get C (G_Hi E.1) 2 (u_129 E.1) d_Hi_stateBehindLiteral_11 (by decide) H.1 rfl ?_
    refine x_bipush C d_Hi_stateBehindLiteral_14 (by decide) ?_
    refine x_icmp_ge C (tgt := 28) d_Hi_stateBehindLiteral_16 (by decide) (by omega) (by omega) (by omega) (by omega) (fun c16 => ?_) (fun c16 => ?_)
    · refine x_aload_n C d_Hi_stateBehindLiteral_28 rfl ?_
      refine x_get C (G_Hi E.1) 2 (u_129 E.1) d_Hi_stateBehindLiteral_29 (by decide) H.1 rfl ?_
      refine x_bipush C d_Hi_stateBehindLiteral_32 (by decide) ?_
      refine x_isub C d_Hi_stateBehindLiteral_34 ?_
      exact x_iret C d_Hi_stateBehindLiteral_35 (nle rfl) (nle rfl) ⟨by
  first
    | (exfalso; omega)
    | (unfold stLit; rw [if_pos (by omega)]; done)
    | (unfold stLit; rw [if_neg (by omega), if_pos (by omega)]; done)
    | (unfold stLit; rw [if_neg (by omega), if_neg (by omega)]; done), rfl, rfl⟩
    · refine x_aload_n C d_Hi_stateBehindLiteral_19 rfl ?_
      refine x_get C (G_Hi E.1) 2 (u_129 E.1) d_Hi_stateBehindLiteral_20 (by decide) H.1 rfl ?_
      refine x_iconst C d_Hi_stateBehindLiteral_23 ?_
      refine x_isub C d_Hi_stateBehindLiteral_24 ?_
      refine x_goto C (tgt := 35) d_Hi_stateBehindLiteral_25 (by decide) ?_
      exact x_iret C d_Hi_stateBehindLiteral_35 (nle rfl) (nle rfl) ⟨by
  first
    | (exfalso; omega)
    | (unfold stLit; rw [if_pos (by omega)]; done)
    | (unfold stLit; rw [if_neg (by omega), if_pos (by omega)]; done)
    | (unfold stLit; rw [if_neg (by omega), if_neg (by omega)]; done), rfl, rfl⟩
  · refine x_iconst C d_Hi_stateBehindLiteral_8 ?_
    exact x_iret C d_Hi_stateBehindLiteral_9 (nle rfl) (nle rfl) ⟨by
  first
    | (exfalso; omega)
    | (unfold stLit; rw [if_pos (by omega)]; done)
    | (unfold stLit; rw [if_neg (by omega), if_pos (by omega)]; done)
    | (unfold stLit; rw [if_neg (by omega), if_neg (by omega)]; done), rfl, rfl⟩

def stAll (k s : Int) : Int := if k = 0 then stLit s else stCopy k s
set_option maxRecDepth 100000 in
set_option maxHeartbeats 4000000 in
theorem c_Hi_stateBehind {a0 : Array Value} {s0 : State} {D : va_G} {cI cL : ClassId} (l : Launch) (E : a_E a0 s0 D cI cL) {h : AH} {K : Nat} {t : Hs} (H : isH s0.heap.size cI h t) (hk : hOk t) {v : Int} (hv : v = 0 ∨ v = 1 ∨ v = 2 ∨ v = 3) : XM l s0 D y_Hi_stateBehind prog_6_method_9_code 2 (some .int) 1 0 0 [.ref (s0.heap.size + 17), .int (zI v)] (h) (K) (PR (some (.int (zI (stAll v t.2.2.2)))) h K) := by
  refine XM.of (cI := cI) (cL := cL) (own := "NarrowingPacker$History") (by decide) rfl E.2 (nle rfl) ?_
  intro p e s m below meth c C hn
  rcases hv with rfl | rfl | rfl | rfl
  · refine x_iload_n C d_Hi_stateBehind_0 rfl ?_
    refine x_tabIn C (off := 27) (tgt := 28) d_Hi_stateBehind_1 (by decide) (by decide) (by decide) (by decide) rfl (by decide) ?_
    refine x_aload_n C d_Hi_stateBehind_28 rfl ?_
    refine x_callVR C (G_Hi E.1) (u_507 E.1) (u_509 E.1) (us_13 E.1) (u_510 E.1) (u_5 E.1) d_Hi_stateBehind_29 (c_Hi_stateBehindLiteral l E H hk) nh_Hi_stateBehindLiteral ln_Hi_stateBehindLiteral rfl H.1 (nle rfl) (nle rfl) (nle rfl) (nle rfl) (nle rfl) ?_
    exact x_iret C d_Hi_stateBehind_32 (nle rfl) (nle rfl) ⟨by
  first
    | (exfalso; omega)
    | rfl
    | (simp only [stAll, stCopy, if_pos (show t.2.2.2 < 7 by omega)]; rfl)
    | (simp only [stAll, stCopy, if_neg (show ¬ t.2.2.2 < 7 by omega)]; rfl), rfl, rfl⟩
  · refine x_iload_n C d_Hi_stateBehind_0 rfl ?_
    refine x_tabIn C (off := 32) (tgt := 33) d_Hi_stateBehind_1 (by decide) (by decide) (by decide) (by decide) rfl (by decide) ?_
    refine x_aload_n C d_Hi_stateBehind_33 rfl ?_
    refine x_callVR C (G_Hi E.1) (u_511 E.1) (u_458 E.1) (u_459 E.1) (u_460 E.1) (u_5 E.1) d_Hi_stateBehind_34 (c_Hi_isBehindACopy l E H hk) nh_Hi_isBehindACopy ln_Hi_isBehindACopy rfl H.1 (nle rfl) (nle rfl) (nle rfl) (nle rfl) (nle rfl) ?_
    have ha := hAs_01 t
    have hb : hAs t = 0 → t.2.2.2 < 7 := by unfold hAs; split <;> omega
    have hd : hAs t = 1 → 7 ≤ t.2.2.2 := by unfold hAs; split <;> omega
    refine x_if_eq C (tgt := 45) d_Hi_stateBehind_37 (by decide) (by omega) (by omega) (fun c37 => ?_) (fun c37 => ?_)
    · refine x_bipush C d_Hi_stateBehind_45 (by decide) ?_
      exact x_iret C d_Hi_stateBehind_47 (nle rfl) (nle rfl) ⟨by
  first
    | (exfalso; omega)
    | rfl
    | (simp only [stAll, stCopy, if_pos (show t.2.2.2 < 7 by omega)]; rfl)
    | (simp only [stAll, stCopy, if_neg (show ¬ t.2.2.2 < 7 by omega)]; rfl), rfl, rfl⟩
    · refine x_bipush C d_Hi_stateBehind_40 (by decide) ?_
      refine x_goto C (tgt := 47) d_Hi_stateBehind_42 (by decide) ?_
      exact x_iret C d_Hi_stateBehind_47 (nle rfl) (nle rfl) ⟨by
  first
    | (exfalso; omega)
    | rfl
    | (simp only [stAll, stCopy, if_pos (show t.2.2.2 < 7 by omega)]; rfl)
    | (simp only [stAll, stCopy, if_neg (show ¬ t.2.2.2 < 7 by omega)]; rfl), rfl, rfl⟩
  · refine x_iload_n C d_Hi_stateBehind_0 rfl ?_
    refine x_tabIn C (off := 47) (tgt := 48) d_Hi_stateBehind_1 (by decide) (by decide) (by decide) (by decide) rfl (by decide) ?_
    refine x_aload_n C d_Hi_stateBehind_48 rfl ?_
    refine x_callVR C (G_Hi E.1) (u_511 E.1) (u_458 E.1) (u_459 E.1) (u_460 E.1) (u_5 E.1) d_Hi_stateBehind_49 (c_Hi_isBehindACopy l E H hk) nh_Hi_isBehindACopy ln_Hi_isBehindACopy rfl H.1 (nle rfl) (nle rfl) (nle rfl) (nle rfl) (nle rfl) ?_
    have ha := hAs_01 t
    have hb : hAs t = 0 → t.2.2.2 < 7 := by unfold hAs; split <;> omega
    have hd : hAs t = 1 → 7 ≤ t.2.2.2 := by unfold hAs; split <;> omega
    refine x_if_eq C (tgt := 60) d_Hi_stateBehind_52 (by decide) (by omega) (by omega) (fun c52 => ?_) (fun c52 => ?_)
    · refine x_bipush C d_Hi_stateBehind_60 (by decide) ?_
      exact x_iret C d_Hi_stateBehind_62 (nle rfl) (nle rfl) ⟨by
  first
    | (exfalso; omega)
    | rfl
    | (simp only [stAll, stCopy, if_pos (show t.2.2.2 < 7 by omega)]; rfl)
    | (simp only [stAll, stCopy, if_neg (show ¬ t.2.2.2 < 7 by omega)]; rfl), rfl, rfl⟩
    · refine x_bipush C d_Hi_stateBehind_55 (by decide) ?_
      refine x_goto C (tgt := 62) d_Hi_stateBehind_57 (by decide) ?_
      exact x_iret C d_Hi_stateBehind_62 (nle rfl) (nle rfl) ⟨by
  first
    | (exfalso; omega)
    | rfl
    | (simp only [stAll, stCopy, if_pos (show t.2.2.2 < 7 by omega)]; rfl)
    | (simp only [stAll, stCopy, if_neg (show ¬ t.2.2.2 < 7 by omega)]; rfl), rfl, rfl⟩
  · refine x_iload_n C d_Hi_stateBehind_0 rfl ?_
    refine x_tabOut C (tgt := 63) d_Hi_stateBehind_1 (Or.inr (by decide)) (by decide) (by decide) (by decide) ?_
    refine x_aload_n C d_Hi_stateBehind_63 rfl ?_
    refine x_callVR C (G_Hi E.1) (u_511 E.1) (u_458 E.1) (u_459 E.1) (u_460 E.1) (u_5 E.1) d_Hi_stateBehind_64 (c_Hi_isBehindACopy l E H hk) nh_Hi_isBehindACopy ln_Hi_isBehindACopy rfl H.1 (nle rfl) (nle rfl) (nle rfl) (nle rfl) (nle rfl) ?_
    have ha := hAs_01 t
    have hb : hAs t = 0 → t.2.2.2 < 7 := by unfold hAs; split <;> omega
    have hd : hAs t = 1 → 7 ≤ t.2.2.2 := by unfold hAs; split <;> omega
    refine x_if_eq C (tgt := 75) d_Hi_stateBehind_67 (by decide) (by omega) (by omega) (fun c67 => ?_) (fun c67 => ?_)
    · refine x_bipush C d_Hi_stateBehind_75 (by decide) ?_
      exact x_iret C d_Hi_stateBehind_77 (nle rfl) (nle rfl) ⟨by
  first
    | (exfalso; omega)
    | rfl
    | (simp only [stAll, stCopy, if_pos (show t.2.2.2 < 7 by omega)]; rfl)
    | (simp only [stAll, stCopy, if_neg (show ¬ t.2.2.2 < 7 by omega)]; rfl), rfl, rfl⟩
    · refine x_bipush C d_Hi_stateBehind_70 (by decide) ?_
      refine x_goto C (tgt := 77) d_Hi_stateBehind_72 (by decide) ?_
      exact x_iret C d_Hi_stateBehind_77 (nle rfl) (nle rfl) ⟨by
  first
    | (exfalso; omega)
    | rfl
    | (simp only [stAll, stCopy, if_pos (show t.2.2.2 < 7 by omega)]; rfl)
    | (simp only [stAll, stCopy, if_neg (show ¬ t.2.2.2 < 7 by omega)]; rfl), rfl, rfl⟩

set_option maxRecDepth 100000 in
set_option maxHeartbeats 4000000 in
theorem lp_Hi_repeat {a0 : Array Value} {s0 : State} {D : va_G} {cI cL : ClassId} (l : Launch) (E : a_E a0 s0 D cI cL) {p : Program} {e : Env} {R : Room} {s : State} {m : MethodId} {args : Array Value} {below : List Frame} {meth : Method} {c : Code} (C : XC s0 D cI cL p s m meth c "NarrowingPacker$History" prog_6_method_7_code 4 none []) (hR : R = a_rm 2 0 0) {h : AH} {K : Nat} {ln ds : Int} (l1 : 0 ≤ ln) (l2 : ln ≤ 120) (d1 : 1 ≤ ds) {B bk : Int → Int} {N st : Int} : ∀ (r : Nat) (b : Int → Int) (n : Int), (r : Int) ≤ ln → n + r = N → N ≤ 120 → ds ≤ n → (∀ j, 0 ≤ b j ∧ b j < 256) → hRep r ds b n = B → hOk (b, n, bk, st) → XW s0 D p l e R s m args below meth c (XQ s0 D 0 0 (PR none (sH s0.heap.size cI h (B, N, bk, st)) K) below s) 2 [(0, .ref (s0.heap.size + 17)), (1, .int (zI ln)), (2, .int (zI ds)), (3, .int (zI (ln - (r : Nat))))] [] (sH s0.heap.size cI h (b, n, bk, st)) K 0 0 := by
  subst hR
  intro r
  induction r with
  | zero =>
    intro b n hr hn hN hd hb hB hk
    have hB : b = B := hB
    subst hB
    have hn : n = N := by omega
    subst hn
    refine x_iload_n C d_Hi_repeat_2 rfl ?_
    refine x_iload_n C d_Hi_repeat_3 rfl ?_
    refine x_icmp_ge C (tgt := 26) d_Hi_repeat_4 (by decide) (by omega) (by omega) (by omega) (by omega) (fun c4 => ?_) (fun c4 => ?_)
    · exact x_vret C d_Hi_repeat_26 (nle rfl) (nle rfl) ⟨rfl, rfl, rfl⟩
    · exfalso; omega
  | succ r ih =>
    intro b n hr hn hN hd hb hB hk
    have hbb := hBefore_b hk ds
    have hbe : hBefore (b, n, bk, st) ds = b (n - ds) := by unfold hBefore; exact if_pos ⟨d1, hd⟩
    refine x_iload_n C d_Hi_repeat_2 rfl ?_
    refine x_iload_n C d_Hi_repeat_3 rfl ?_
    refine x_icmp_ge C (tgt := 26) d_Hi_repeat_4 (by decide) (by omega) (by omega) (by omega) (by omega) (fun c4 => ?_) (fun c4 => ?_)
    · exfalso; omega
    · refine x_aload_n C d_Hi_repeat_7 rfl ?_
      refine x_get C (G_Hi E.1) 0 (u_120 E.1) d_Hi_repeat_8 (by decide) rfl rfl ?_
      refine x_aload_n C d_Hi_repeat_11 rfl ?_
      refine x_iload_n C d_Hi_repeat_12 rfl ?_
      refine x_callVR C (G_Hi E.1) (u_452 E.1) (u_453 E.1) (u_454 E.1) (u_455 E.1) (u_5 E.1) d_Hi_repeat_13 (c_Hi_byteBefore l E (isH_sH _ _ _ _) hk (by omega) (by omega)) nh_Hi_byteBefore ln_Hi_byteBefore rfl rfl (nle rfl) (nle rfl) (nle rfl) (nle rfl) (nle rfl) ?_
      refine x_callVR C (G_By E.1) (u_494 E.1) (u_288 E.1) (u_289 E.1) (u_290 E.1) (u_2 E.1) d_Hi_repeat_16 (c_By_append l E (by rfl) (by rfl) (by decide) (by show 0 ≤ n; omega) (by show n ≤ 120; omega) (by decide) (by omega) (by show n < 120; omega) (by omega) (by omega)) nh_By_append ln_By_append rfl rfl (nle rfl) (nle rfl) (nle rfl) (nle rfl) (nle rfl) ?_
      refine x_pop C d_Hi_repeat_19 rfl ?_
      refine x_iinc C d_Hi_repeat_20 (by decide) rfl ?_
      refine x_goto C (tgt := 2) d_Hi_repeat_23 (by decide) ?_
      rw [hbe]
      refine XW.heq (h' := sH s0.heap.size cI h (zup b n (b (n - ds)), n + 1, bk, st)) (sH_eq rfl rfl rfl rfl (fun q q1 q2 q3 q4 => by simp only [sH, a_up_n q1, a_up_n q2, a_up_n q3, a_up_n q4])) ?_
      refine XW.loc (lv' := [(0, .ref (s0.heap.size + 17)), (1, .int (zI ln)), (2, .int (zI ds)), (3, .int (zI (ln - (r : Nat))))]) ⟨rfl, rfl, rfl, by rw [show ln - ((r : Nat) : Int) = ln - ((r + 1 : Nat) : Int) + 1 by omega]; rfl, trivial⟩ ?_
      have hz : ∀ j, 0 ≤ zup b n (b (n - ds)) j ∧ zup b n (b (n - ds)) j < 256 := zup_all (Q := fun z => 0 ≤ z ∧ z < 256) hb (hb _)
      exact ih _ _ (by omega) (by omega) hN (by omega) hz hB ⟨hz, by show 0 ≤ n + 1 ∧ n + 1 ≤ 120; omega, hk.2.2.1, hk.2.2.2.1, fun h7 => by have := hk.2.2.2.2 h7; show bk 0 ≤ n + 1; have h8 : bk 0 ≤ n := this; omega⟩
set_option maxRecDepth 100000 in
set_option maxHeartbeats 4000000 in
theorem c_Hi_repeat {a0 : Array Value} {s0 : State} {D : va_G} {cI cL : ClassId} (l : Launch) (E : a_E a0 s0 D cI cL) {h : AH} {K : Nat} {t : Hs} (hk : hOk t) {ln ds : Int} (l1 : 0 ≤ ln) (l2 : t.2.1 + ln ≤ 120) (d1 : 1 ≤ ds) (d2 : ds ≤ t.2.1) : XM l s0 D y_Hi_repeat prog_6_method_7_code 4 none 2 0 0 [.ref (s0.heap.size + 17), .int (zI ln), .int (zI ds)] (sH s0.heap.size cI h t) (K) (PR none (sH s0.heap.size cI h (hRep ln.toNat ds t.1 t.2.1, t.2.1 + ln, t.2.2.1, t.2.2.2)) K) := by
  refine XM.of (cI := cI) (cL := cL) (own := "NarrowingPacker$History") (by decide) rfl E.2 (nle rfl) ?_
  intro p e s m below meth c C hn
  refine x_iconst C d_Hi_repeat_0 ?_
  refine x_istore_n C d_Hi_repeat_1 (by decide) ?_
  have hn := hk.2.1
  refine XW.loc (lv' := [(0, .ref (s0.heap.size + 17)), (1, .int (zI ln)), (2, .int (zI ds)), (3, .int (zI (ln - (ln.toNat : Nat))))]) ⟨rfl, rfl, rfl, by rw [show ln - ((ln.toNat : Nat) : Int) = 0 by omega]; rfl, trivial⟩ ?_
  exact lp_Hi_repeat l E C rfl l1 (by omega) d1 ln.toNat t.1 t.2.1 (by omega) (by omega) l2 d2 hk.1 rfl hk

set_option maxRecDepth 100000 in
set_option maxHeartbeats 4000000 in
theorem lp_Hi_front {a0 : Array Value} {s0 : State} {D : va_G} {cI cL : ClassId} (l : Launch) (E : a_E a0 s0 D cI cL) {p : Program} {e : Env} {R : Room} {s : State} {m : MethodId} {args : Array Value} {below : List Frame} {meth : Method} {c : Code} (C : XC s0 D cI cL p s m meth c "NarrowingPacker$History" prog_6_method_8_code 4 none []) {h : AH} {K : Nat} {ds n st : Int} {b G : Int → Int} : ∀ (k : Nat) (bk : Int → Int), k ≤ 3 → hFront k bk = G → XW s0 D p l e R s m args below meth c (XQ s0 D 0 0 (PR none (sH s0.heap.size cI h (b, n, zup G 0 ds, st)) K) below s) 2 [(0, .ref (s0.heap.size + 17)), (2, .int (zI ds)), (3, .int (zI ((k : Nat) : Int)))] [] (sH s0.heap.size cI h (b, n, bk, st)) K 0 0 := by
  intro k
  induction k with
  | zero =>
    intro bk hk hG
    have hG : bk = G := hG
    subst hG
    refine x_iload_n C d_Hi_bringToFront_2 rfl ?_
    refine x_if_le C (tgt := 26) d_Hi_bringToFront_3 (by decide) (by omega) (by omega) (fun c3 => ?_) (fun c3 => ?_)
    · refine x_aload_n C d_Hi_bringToFront_26 rfl ?_
      refine x_get C (G_Hi E.1) 1 (u_123 E.1) d_Hi_bringToFront_27 (by decide) rfl rfl ?_
      refine x_iconst C d_Hi_bringToFront_30 ?_
      refine x_iload_n C d_Hi_bringToFront_31 rfl ?_
      refine x_iast C d_Hi_bringToFront_32 rfl (by omega) (by omega) (by omega) ?_
      exact x_vret C d_Hi_bringToFront_33 (nle rfl) (nle rfl) ⟨rfl, sH_eq rfl rfl rfl rfl (fun q q1 q2 q3 q4 => by simp only [sH, a_up_n q1, a_up_n q2, a_up_n q3, a_up_n q4]), rfl⟩
    · exfalso; omega
  | succ k ih =>
    intro bk hk hG
    unfold hFront at hG
    refine x_iload_n C d_Hi_bringToFront_2 rfl ?_
    refine x_if_le C (tgt := 26) d_Hi_bringToFront_3 (by decide) (by omega) (by omega) (fun c3 => ?_) (fun c3 => ?_)
    · exfalso; omega
    · refine x_aload_n C d_Hi_bringToFront_6 rfl ?_
      refine x_get C (G_Hi E.1) 1 (u_123 E.1) d_Hi_bringToFront_7 (by decide) rfl rfl ?_
      refine x_iload_n C d_Hi_bringToFront_10 rfl ?_
      refine x_aload_n C d_Hi_bringToFront_11 rfl ?_
      refine x_get C (G_Hi E.1) 1 (u_123 E.1) d_Hi_bringToFront_12 (by decide) rfl rfl ?_
      refine x_iload_n C d_Hi_bringToFront_15 rfl ?_
      refine x_iconst C d_Hi_bringToFront_16 ?_
      refine x_isub C d_Hi_bringToFront_17 ?_
      refine x_iald C d_Hi_bringToFront_18 rfl (by omega) (by omega) (by omega) ?_
      refine x_iast C d_Hi_bringToFront_19 rfl (by omega) (by omega) (by omega) ?_
      refine x_iinc C d_Hi_bringToFront_20 (by decide) rfl ?_
      refine x_goto C (tgt := 2) d_Hi_bringToFront_23 (by decide) ?_
      rw [show ((k + 1 : Nat) : Int) - 1 = (k : Int) by omega]
      refine XW.heq (h' := sH s0.heap.size cI h (b, n, zup bk (k + 1) (bk k), st)) (sH_eq rfl rfl rfl rfl (fun q q1 q2 q3 q4 => by simp only [sH, a_up_n q1, a_up_n q2, a_up_n q3, a_up_n q4])) ?_
      refine XW.loc (lv' := [(0, .ref (s0.heap.size + 17)), (2, .int (zI ds)), (3, .int (zI ((k : Nat) : Int)))]) ⟨rfl, rfl, by rw [show ((k : Nat) : Int) = ((k + 1 : Nat) : Int) + -1 by omega]; rfl, trivial⟩ ?_
      exact ih _ (by omega) hG
set_option maxRecDepth 100000 in
set_option maxHeartbeats 4000000 in
theorem c_Hi_bringToFront {a0 : Array Value} {s0 : State} {D : va_G} {cI cL : ClassId} (l : Launch) (E : a_E a0 s0 D cI cL) {h : AH} {K : Nat} {t : Hs} (n : Nat) (n3 : n ≤ 3) {ds : Int} : XM l s0 D y_Hi_bringToFront prog_6_method_8_code 4 none 0 0 0 [.ref (s0.heap.size + 17), .int (zI (n : Int)), .int (zI ds)] (sH s0.heap.size cI h t) (K) (PR none (sH s0.heap.size cI h (t.1, t.2.1, zup (hFront n t.2.2.1) 0 ds, t.2.2.2)) K) := by
  refine XM.of (cI := cI) (cL := cL) (own := "NarrowingPacker$History") (by decide) rfl E.2 (nle rfl) ?_
  intro p e s m below meth c C hn
  refine x_iload_n C d_Hi_bringToFront_0 rfl ?_
  refine x_istore_n C d_Hi_bringToFront_1 (by decide) ?_
  refine XW.loc (lv' := [(0, .ref (s0.heap.size + 17)), (2, .int (zI ds)), (3, .int (zI ((n : Nat) : Int)))]) ⟨rfl, rfl, rfl, trivial⟩ ?_
  exact lp_Hi_front l E C n t.2.2.1 n3 rfl

set_option maxRecDepth 100000 in
set_option maxHeartbeats 4000000 in
theorem c_Hi_restart {a0 : Array Value} {s0 : State} {D : va_G} {cI cL : ClassId} (l : Launch) (E : a_E a0 s0 D cI cL) {h : AH} {K : Nat} {t : Hs} (n1 : 0 ≤ t.2.1) (n2 : t.2.1 ≤ 120) : XM l s0 D y_Hi_restart prog_6_method_2_code 1 none 2 0 0 [.ref (s0.heap.size + 17)] (sH s0.heap.size cI h t) (K) (PR none (sH s0.heap.size cI h (t.1, 0, fun _ => 1, 0)) K) := by
  refine XM.of (cI := cI) (cL := cL) (own := "NarrowingPacker$History") (by decide) rfl E.2 (nle rfl) ?_
  intro p e s m below meth c C hn
  refine x_aload_n C d_Hi_restart_0 rfl ?_
  refine x_get C (G_Hi E.1) 0 (u_120 E.1) d_Hi_restart_1 (by decide) rfl rfl ?_
  refine x_iconst C d_Hi_restart_4 ?_
  refine x_callVR C (G_By E.1) (u_363 E.1) (u_299 E.1) (u_300 E.1) (u_301 E.1) (u_2 E.1) d_Hi_restart_5 (c_By_shorten l E (by rfl) n1 (by omega) (by omega) (by omega)) nh_By_shorten ln_By_shorten rfl rfl (nle rfl) (nle rfl) (nle rfl) (nle rfl) (nle rfl) ?_
  refine x_pop C d_Hi_restart_8 rfl ?_
  refine x_aload_n C d_Hi_restart_9 rfl ?_
  refine x_get C (G_Hi E.1) 1 (u_123 E.1) d_Hi_restart_10 (by decide) rfl rfl ?_
  refine x_iconst C d_Hi_restart_13 ?_
  refine x_callSR C (u_364 E.1) (u_365 E.1) (u_366 E.1) (u_14 E.1) d_Hi_restart_14 (c_Ar_fill l E (by rfl) (by decide)) nh_Ar_fill ln_Ar_fill rfl (nle rfl) (nle rfl) (nle rfl) (nle rfl) (nle rfl) ?_
  refine x_aload_n C d_Hi_restart_17 rfl ?_
  refine x_iconst C d_Hi_restart_18 ?_
  refine x_put C (G_Hi E.1) 2 (u_129 E.1) d_Hi_restart_19 (by decide) rfl rfl rfl rfl (nle rfl) ?_
  exact x_vret C d_Hi_restart_22 (nle rfl) (nle rfl) ⟨rfl, sH_eq rfl (by show some (oBy _ 19 (max 0 (min 0 t.2.1))) = _; rw [show max 0 (min 0 t.2.1) = 0 by omega]) rfl rfl (fun q q1 q2 q3 q4 => by simp only [sH, a_up_n q1, a_up_n q2, a_up_n q3, a_up_n q4]), rfl⟩

theorem hOk_lit {t : Hs} (hk : hOk t) {b : Int} (b1 : 0 ≤ b) (b2 : b < 256) (n2 : t.2.1 < 120) : hOk (zup t.1 t.2.1 b, t.2.1 + 1, t.2.2.1, t.2.2.2) :=
  ⟨zup_all (Q := fun z => 0 ≤ z ∧ z < 256) hk.1 ⟨b1, b2⟩, by have := hk.2.1; show 0 ≤ t.2.1 + 1 ∧ t.2.1 + 1 ≤ 120; omega, hk.2.2.1, hk.2.2.2.1, fun h7 => by have h8 := hk.2.2.2.2 h7; show t.2.2.1 0 ≤ t.2.1 + 1; omega⟩
theorem rep_ok : ∀ (r : Nat) (d : Int) (b : Int → Int) (n : Int), (∀ j, 0 ≤ b j ∧ b j < 256) → ∀ j, 0 ≤ hRep r d b n j ∧ hRep r d b n j < 256 := by
  intro r
  induction r with
  | zero => intro d b n h; exact h
  | succ r ih => intro d b n h; exact ih _ _ _ (zup_all (Q := fun z => 0 ≤ z ∧ z < 256) h (h _))
theorem front_ok : ∀ (k : Nat) (b : Int → Int), (∀ j, 1 ≤ b j ∧ b j ≤ 120) → ∀ j, 1 ≤ hFront k b j ∧ hFront k b j ≤ 120 := by
  intro k
  induction k with
  | zero => intro b h; exact h
  | succ k ih => intro b h; exact ih _ (zup_all (Q := fun z => 1 ≤ z ∧ z ≤ 120) h (h _))
theorem hOk_rep {t : Hs} (hk : hOk t) {ln ds : Int} (l1 : 0 ≤ ln) (l2 : t.2.1 + ln ≤ 120) : hOk (hRep ln.toNat ds t.1 t.2.1, t.2.1 + ln, t.2.2.1, t.2.2.2) :=
  ⟨rep_ok _ _ _ _ hk.1, by have := hk.2.1; show 0 ≤ t.2.1 + ln ∧ t.2.1 + ln ≤ 120; omega, hk.2.2.1, hk.2.2.2.1, fun h7 => by have h8 := hk.2.2.2.2 h7; show t.2.2.1 0 ≤ t.2.1 + ln; omega⟩
theorem hOk_front {b bk : Int → Int} {n st ds : Int} (hk : hOk (b, n, bk, st)) (k : Nat) (d1 : 1 ≤ ds) (d2 : ds ≤ n) : hOk (b, n, zup (hFront k bk) 0 ds, st) :=
  ⟨hk.1, hk.2.1, zup_all (Q := fun z => 1 ≤ z ∧ z ≤ 120) (front_ok k bk hk.2.2.1) ⟨d1, by have h9 : 0 ≤ n ∧ n ≤ 120 := hk.2.1; omega⟩, hk.2.2.2.1, fun _ => by show zup (hFront k bk) 0 ds 0 ≤ n; rw [zup_s]; exact d2⟩
set_option maxRecDepth 100000 in
set_option maxHeartbeats 4000000 in
theorem c_Hi_tell0 {a0 : Array Value} {s0 : State} {D : va_G} {cI cL : ClassId} (l : Launch) (E : a_E a0 s0 D cI cL) {h : AH} {K : Nat} {t : Hs} (hk : hOk t) {ln ds ec li : Int} (h16 : h 16 = some (oPa 0 ln ds ec li)) (b1 : 0 ≤ li) (b2 : li < 256) (n2 : t.2.1 < 120) : XM l s0 D y_Hi_tell prog_6_method_3_code 2 none 3 0 0 [.ref (s0.heap.size + 17), .ref (s0.heap.size + 16)] (sH s0.heap.size cI h t) (K) (PR none (sH s0.heap.size cI h (hTell t (0, ln, ds, ec, li))) K) := by
  refine XM.of (cI := cI) (cL := cL) (own := "NarrowingPacker$History") (by decide) rfl E.2 (nle rfl) ?_
  intro p e s m below meth c C hn
  refine x_aload_n C d_Hi_tell_0 rfl ?_
  refine x_getN C (G_Pa E.1) 0 (u_80 E.1) d_Hi_tell_1 (by decide) (by exact h16) rfl ?_
  refine x_if_ne C (tgt := 22) d_Hi_tell_4 (by decide) (by omega) (by omega) (fun c4 => ?_) (fun c4 => ?_)
  · exfalso; omega
  · refine x_aload_n C d_Hi_tell_7 rfl ?_
    refine x_get C (G_Hi E.1) 0 (u_120 E.1) d_Hi_tell_8 (by decide) rfl rfl ?_
    refine x_aload_n C d_Hi_tell_11 rfl ?_
    refine x_getN C (G_Pa E.1) 4 (u_99 E.1) d_Hi_tell_12 (by decide) (by exact h16) rfl ?_
    refine x_callVR C (G_By E.1) (u_494 E.1) (u_288 E.1) (u_289 E.1) (u_290 E.1) (u_2 E.1) d_Hi_tell_15 (c_By_append l E (by rfl) (by rfl) (by decide) (by exact hk.2.1.1) (by exact hk.2.1.2) (by decide) (by omega) (by exact n2) (by omega) (by omega)) nh_By_append ln_By_append rfl rfl (nle rfl) (nle rfl) (nle rfl) (nle rfl) (nle rfl) ?_
    refine x_pop C d_Hi_tell_18 rfl ?_
    refine x_goto C (tgt := 34) d_Hi_tell_19 (by decide) ?_
    refine x_aload_n C d_Hi_tell_34 rfl ?_
    refine x_getN C (G_Pa E.1) 0 (u_80 E.1) d_Hi_tell_35 (by decide) (by exact h16) rfl ?_
    refine x_iconst C d_Hi_tell_38 ?_
    refine x_icmp_ne C (tgt := 54) d_Hi_tell_39 (by decide) (by omega) (by omega) (by omega) (by omega) (fun c39 => ?_) (fun c39 => ?_)
    · refine x_aload_n C d_Hi_tell_54 rfl ?_
      refine x_getN C (G_Pa E.1) 0 (u_80 E.1) d_Hi_tell_55 (by decide) (by exact h16) rfl ?_
      refine x_iconst C d_Hi_tell_58 ?_
      refine x_icmp_ne C (tgt := 74) d_Hi_tell_59 (by decide) (by omega) (by omega) (by omega) (by omega) (fun c59 => ?_) (fun c59 => ?_)
      · refine x_aload_n C d_Hi_tell_74 rfl ?_
        refine x_aload_n C d_Hi_tell_75 rfl ?_
        refine x_aload_n C d_Hi_tell_76 rfl ?_
        refine x_getN C (G_Pa E.1) 0 (u_80 E.1) d_Hi_tell_77 (by decide) (by exact h16) rfl ?_
        refine x_callVR C (G_Hi E.1) (u_503 E.1) (u_505 E.1) (us_12 E.1) (u_506 E.1) (u_5 E.1) d_Hi_tell_80 (c_Hi_stateBehind l E (by exact ⟨rfl, rfl, rfl, rfl⟩) (hOk_lit hk b1 b2 n2) (by decide)) nh_Hi_stateBehind ln_Hi_stateBehind rfl rfl (nle rfl) (nle rfl) (nle rfl) (nle rfl) (nle rfl) ?_
        refine x_put C (G_Hi E.1) 2 (u_129 E.1) d_Hi_tell_83 (by decide) rfl rfl rfl rfl (nle rfl) ?_
        exact x_vret C d_Hi_tell_86 (nle rfl) (nle rfl) ⟨rfl, by
  refine sH_eq ?_ ?_ ?_ ?_ (fun q q1 q2 q3 q4 => by simp only [sH, a_up_n q1, a_up_n q2, a_up_n q3, a_up_n q4]) <;> rfl, rfl⟩
      · exfalso; omega
    · exfalso; omega

set_option maxRecDepth 100000 in
set_option maxHeartbeats 4000000 in
theorem c_Hi_tell1 {a0 : Array Value} {s0 : State} {D : va_G} {cI cL : ClassId} (l : Launch) (E : a_E a0 s0 D cI cL) {h : AH} {K : Nat} {t : Hs} (hk : hOk t) {ln ds ec li : Int} (h16 : h 16 = some (oPa 1 ln ds ec li)) (l1 : 1 ≤ ln) (l2 : t.2.1 + ln ≤ 120) (d1 : 1 ≤ ds) (d2 : ds ≤ t.2.1) : XM l s0 D y_Hi_tell prog_6_method_3_code 2 none 3 0 0 [.ref (s0.heap.size + 17), .ref (s0.heap.size + 16)] (sH s0.heap.size cI h t) (K) (PR none (sH s0.heap.size cI h (hTell t (1, ln, ds, ec, li))) K) := by
  refine XM.of (cI := cI) (cL := cL) (own := "NarrowingPacker$History") (by decide) rfl E.2 (nle rfl) ?_
  intro p e s m below meth c C hn
  refine x_aload_n C d_Hi_tell_0 rfl ?_
  refine x_getN C (G_Pa E.1) 0 (u_80 E.1) d_Hi_tell_1 (by decide) (by exact h16) rfl ?_
  refine x_if_ne C (tgt := 22) d_Hi_tell_4 (by decide) (by omega) (by omega) (fun c4 => ?_) (fun c4 => ?_)
  · refine x_aload_n C d_Hi_tell_22 rfl ?_
    refine x_aload_n C d_Hi_tell_23 rfl ?_
    refine x_getN C (G_Pa E.1) 1 (u_84 E.1) d_Hi_tell_24 (by decide) (by exact h16) rfl ?_
    refine x_aload_n C d_Hi_tell_27 rfl ?_
    refine x_getN C (G_Pa E.1) 2 (u_89 E.1) d_Hi_tell_28 (by decide) (by exact h16) rfl ?_
    refine x_callVR C (G_Hi E.1) (u_495 E.1) (u_497 E.1) (us_10 E.1) (u_498 E.1) (u_5 E.1) d_Hi_tell_31 (c_Hi_repeat l E hk (by omega) l2 d1 d2) nh_Hi_repeat ln_Hi_repeat rfl rfl (nle rfl) (nle rfl) (nle rfl) (nle rfl) (nle rfl) ?_
    refine x_aload_n C d_Hi_tell_34 rfl ?_
    refine x_getN C (G_Pa E.1) 0 (u_80 E.1) d_Hi_tell_35 (by decide) (by exact h16) rfl ?_
    refine x_iconst C d_Hi_tell_38 ?_
    refine x_icmp_ne C (tgt := 54) d_Hi_tell_39 (by decide) (by omega) (by omega) (by omega) (by omega) (fun c39 => ?_) (fun c39 => ?_)
    · exfalso; omega
    · refine x_aload_n C d_Hi_tell_42 rfl ?_
      refine x_iconst C d_Hi_tell_43 ?_
      refine x_aload_n C d_Hi_tell_44 rfl ?_
      refine x_getN C (G_Pa E.1) 2 (u_89 E.1) d_Hi_tell_45 (by decide) (by exact h16) rfl ?_
      refine x_callVR C (G_Hi E.1) (u_499 E.1) (u_501 E.1) (us_11 E.1) (u_502 E.1) (u_5 E.1) d_Hi_tell_48 (c_Hi_bringToFront l E 3 (by decide)) nh_Hi_bringToFront ln_Hi_bringToFront rfl rfl (nle rfl) (nle rfl) (nle rfl) (nle rfl) (nle rfl) ?_
      refine x_goto C (tgt := 74) d_Hi_tell_51 (by decide) ?_
      refine x_aload_n C d_Hi_tell_74 rfl ?_
      refine x_aload_n C d_Hi_tell_75 rfl ?_
      refine x_aload_n C d_Hi_tell_76 rfl ?_
      refine x_getN C (G_Pa E.1) 0 (u_80 E.1) d_Hi_tell_77 (by decide) (by exact h16) rfl ?_
      refine x_callVR C (G_Hi E.1) (u_503 E.1) (u_505 E.1) (us_12 E.1) (u_506 E.1) (u_5 E.1) d_Hi_tell_80 (c_Hi_stateBehind l E (by exact ⟨rfl, rfl, rfl, rfl⟩) (hOk_front (hOk_rep hk (by omega) l2) 3 d1 (by omega)) (by decide)) nh_Hi_stateBehind ln_Hi_stateBehind rfl rfl (nle rfl) (nle rfl) (nle rfl) (nle rfl) (nle rfl) ?_
      refine x_put C (G_Hi E.1) 2 (u_129 E.1) d_Hi_tell_83 (by decide) rfl rfl rfl rfl (nle rfl) ?_
      exact x_vret C d_Hi_tell_86 (nle rfl) (nle rfl) ⟨rfl, by
  refine sH_eq ?_ ?_ ?_ ?_ (fun q q1 q2 q3 q4 => by simp only [sH, a_up_n q1, a_up_n q2, a_up_n q3, a_up_n q4]) <;> rfl, rfl⟩
  · exfalso; omega

set_option maxRecDepth 100000 in
set_option maxHeartbeats 4000000 in
theorem c_Hi_tell2 {a0 : Array Value} {s0 : State} {D : va_G} {cI cL : ClassId} (l : Launch) (E : a_E a0 s0 D cI cL) {h : AH} {K : Nat} {t : Hs} (hk : hOk t) {ln ds ec li : Int} (h16 : h 16 = some (oPa 2 ln ds ec li)) (e1 : 0 ≤ ec) (e2 : ec ≤ 3) (l1 : 1 ≤ ln) (l2 : t.2.1 + ln ≤ 120) (d1 : 1 ≤ ds) (d2 : ds ≤ t.2.1) : XM l s0 D y_Hi_tell prog_6_method_3_code 2 none 3 0 0 [.ref (s0.heap.size + 17), .ref (s0.heap.size + 16)] (sH s0.heap.size cI h t) (K) (PR none (sH s0.heap.size cI h (hTell t (2, ln, ds, ec, li))) K) := by
  refine XM.of (cI := cI) (cL := cL) (own := "NarrowingPacker$History") (by decide) rfl E.2 (nle rfl) ?_
  intro p e s m below meth c C hn
  obtain ⟨k, rfl⟩ : ∃ k : Nat, ec = (k : Int) := ⟨ec.toNat, by omega⟩
  refine x_aload_n C d_Hi_tell_0 rfl ?_
  refine x_getN C (G_Pa E.1) 0 (u_80 E.1) d_Hi_tell_1 (by decide) (by exact h16) rfl ?_
  refine x_if_ne C (tgt := 22) d_Hi_tell_4 (by decide) (by omega) (by omega) (fun c4 => ?_) (fun c4 => ?_)
  · refine x_aload_n C d_Hi_tell_22 rfl ?_
    refine x_aload_n C d_Hi_tell_23 rfl ?_
    refine x_getN C (G_Pa E.1) 1 (u_84 E.1) d_Hi_tell_24 (by decide) (by exact h16) rfl ?_
    refine x_aload_n C d_Hi_tell_27 rfl ?_
    refine x_getN C (G_Pa E.1) 2 (u_89 E.1) d_Hi_tell_28 (by decide) (by exact h16) rfl ?_
    refine x_callVR C (G_Hi E.1) (u_495 E.1) (u_497 E.1) (us_10 E.1) (u_498 E.1) (u_5 E.1) d_Hi_tell_31 (c_Hi_repeat l E hk (by omega) l2 d1 d2) nh_Hi_repeat ln_Hi_repeat rfl rfl (nle rfl) (nle rfl) (nle rfl) (nle rfl) (nle rfl) ?_
    refine x_aload_n C d_Hi_tell_34 rfl ?_
    refine x_getN C (G_Pa E.1) 0 (u_80 E.1) d_Hi_tell_35 (by decide) (by exact h16) rfl ?_
    refine x_iconst C d_Hi_tell_38 ?_
    refine x_icmp_ne C (tgt := 54) d_Hi_tell_39 (by decide) (by omega) (by omega) (by omega) (by omega) (fun c39 => ?_) (fun c39 => ?_)
    · refine x_aload_n C d_Hi_tell_54 rfl ?_
      refine x_getN C (G_Pa E.1) 0 (u_80 E.1) d_Hi_tell_55 (by decide) (by exact h16) rfl ?_
      refine x_iconst C d_Hi_tell_58 ?_
      refine x_icmp_ne C (tgt := 74) d_Hi_tell_59 (by decide) (by omega) (by omega) (by omega) (by omega) (fun c59 => ?_) (fun c59 => ?_)
      · exfalso; omega
      · refine x_aload_n C d_Hi_tell_62 rfl ?_
        refine x_aload_n C d_Hi_tell_63 rfl ?_
        refine x_getN C (G_Pa E.1) 3 (u_94 E.1) d_Hi_tell_64 (by decide) (by exact h16) rfl ?_
        refine x_aload_n C d_Hi_tell_67 rfl ?_
        refine x_getN C (G_Pa E.1) 2 (u_89 E.1) d_Hi_tell_68 (by decide) (by exact h16) rfl ?_
        refine x_callVR C (G_Hi E.1) (u_499 E.1) (u_501 E.1) (us_11 E.1) (u_502 E.1) (u_5 E.1) d_Hi_tell_71 (c_Hi_bringToFront l E k (by omega)) nh_Hi_bringToFront ln_Hi_bringToFront rfl rfl (nle rfl) (nle rfl) (nle rfl) (nle rfl) (nle rfl) ?_
        refine x_aload_n C d_Hi_tell_74 rfl ?_
        refine x_aload_n C d_Hi_tell_75 rfl ?_
        refine x_aload_n C d_Hi_tell_76 rfl ?_
        refine x_getN C (G_Pa E.1) 0 (u_80 E.1) d_Hi_tell_77 (by decide) (by exact h16) rfl ?_
        refine x_callVR C (G_Hi E.1) (u_503 E.1) (u_505 E.1) (us_12 E.1) (u_506 E.1) (u_5 E.1) d_Hi_tell_80 (c_Hi_stateBehind l E (by exact ⟨rfl, rfl, rfl, rfl⟩) (hOk_front (hOk_rep hk (by omega) l2) k d1 (by omega)) (by decide)) nh_Hi_stateBehind ln_Hi_stateBehind rfl rfl (nle rfl) (nle rfl) (nle rfl) (nle rfl) (nle rfl) ?_
        refine x_put C (G_Hi E.1) 2 (u_129 E.1) d_Hi_tell_83 (by decide) rfl rfl rfl rfl (nle rfl) ?_
        exact x_vret C d_Hi_tell_86 (nle rfl) (nle rfl) ⟨rfl, by
  refine sH_eq ?_ ?_ ?_ ?_ (fun q q1 q2 q3 q4 => by simp only [sH, a_up_n q1, a_up_n q2, a_up_n q3, a_up_n q4]) <;> rfl, rfl⟩
    · exfalso; omega
  · exfalso; omega

set_option maxRecDepth 100000 in
set_option maxHeartbeats 4000000 in
theorem c_Hi_tell3 {a0 : Array Value} {s0 : State} {D : va_G} {cI cL : ClassId} (l : Launch) (E : a_E a0 s0 D cI cL) {h : AH} {K : Nat} {t : Hs} (hk : hOk t) {ln ds ec li : Int} (h16 : h 16 = some (oPa 3 ln ds ec li)) (l1 : 1 ≤ ln) (l2 : t.2.1 + ln ≤ 120) (d1 : 1 ≤ ds) (d2 : ds ≤ t.2.1) : XM l s0 D y_Hi_tell prog_6_method_3_code 2 none 3 0 0 [.ref (s0.heap.size + 17), .ref (s0.heap.size + 16)] (sH s0.heap.size cI h t) (K) (PR none (sH s0.heap.size cI h (hTell t (3, ln, ds, ec, li))) K) := by
  refine XM.of (cI := cI) (cL := cL) (own := "NarrowingPacker$History") (by decide) rfl E.2 (nle rfl) ?_
  intro p e s m below meth c C hn
  refine x_aload_n C d_Hi_tell_0 rfl ?_
  refine x_getN C (G_Pa E.1) 0 (u_80 E.1) d_Hi_tell_1 (by decide) (by exact h16) rfl ?_
  refine x_if_ne C (tgt := 22) d_Hi_tell_4 (by decide) (by omega) (by omega) (fun c4 => ?_) (fun c4 => ?_)
  · refine x_aload_n C d_Hi_tell_22 rfl ?_
    refine x_aload_n C d_Hi_tell_23 rfl ?_
    refine x_getN C (G_Pa E.1) 1 (u_84 E.1) d_Hi_tell_24 (by decide) (by exact h16) rfl ?_
    refine x_aload_n C d_Hi_tell_27 rfl ?_
    refine x_getN C (G_Pa E.1) 2 (u_89 E.1) d_Hi_tell_28 (by decide) (by exact h16) rfl ?_
    refine x_callVR C (G_Hi E.1) (u_495 E.1) (u_497 E.1) (us_10 E.1) (u_498 E.1) (u_5 E.1) d_Hi_tell_31 (c_Hi_repeat l E hk (by omega) l2 d1 d2) nh_Hi_repeat ln_Hi_repeat rfl rfl (nle rfl) (nle rfl) (nle rfl) (nle rfl) (nle rfl) ?_
    refine x_aload_n C d_Hi_tell_34 rfl ?_
    refine x_getN C (G_Pa E.1) 0 (u_80 E.1) d_Hi_tell_35 (by decide) (by exact h16) rfl ?_
    refine x_iconst C d_Hi_tell_38 ?_
    refine x_icmp_ne C (tgt := 54) d_Hi_tell_39 (by decide) (by omega) (by omega) (by omega) (by omega) (fun c39 => ?_) (fun c39 => ?_)
    · refine x_aload_n C d_Hi_tell_54 rfl ?_
      refine x_getN C (G_Pa E.1) 0 (u_80 E.1) d_Hi_tell_55 (by decide) (by exact h16) rfl ?_
      refine x_iconst C d_Hi_tell_58 ?_
      refine x_icmp_ne C (tgt := 74) d_Hi_tell_59 (by decide) (by omega) (by omega) (by omega) (by omega) (fun c59 => ?_) (fun c59 => ?_)
      · refine x_aload_n C d_Hi_tell_74 rfl ?_
        refine x_aload_n C d_Hi_tell_75 rfl ?_
        refine x_aload_n C d_Hi_tell_76 rfl ?_
        refine x_getN C (G_Pa E.1) 0 (u_80 E.1) d_Hi_tell_77 (by decide) (by exact h16) rfl ?_
        refine x_callVR C (G_Hi E.1) (u_503 E.1) (u_505 E.1) (us_12 E.1) (u_506 E.1) (u_5 E.1) d_Hi_tell_80 (c_Hi_stateBehind l E (by exact ⟨rfl, rfl, rfl, rfl⟩) (hOk_rep hk (by omega) l2) (by decide)) nh_Hi_stateBehind ln_Hi_stateBehind rfl rfl (nle rfl) (nle rfl) (nle rfl) (nle rfl) (nle rfl) ?_
        refine x_put C (G_Hi E.1) 2 (u_129 E.1) d_Hi_tell_83 (by decide) rfl rfl rfl rfl (nle rfl) ?_
        exact x_vret C d_Hi_tell_86 (nle rfl) (nle rfl) ⟨rfl, by
  refine sH_eq ?_ ?_ ?_ ?_ (fun q q1 q2 q3 q4 => by simp only [sH, a_up_n q1, a_up_n q2, a_up_n q3, a_up_n q4]) <;> rfl, rfl⟩
      · exfalso; omega
    · exfalso; omega
  · exfalso; omega

