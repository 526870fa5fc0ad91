/-! the reference unpacks -/
def rEd (sz : Int) : Rs → Rs
  | .inl b => .inl b
  | .inr d => rEnd sz d
/-- what unpacking leaves of the reference -/
def PMu (s : Nat) (cI : ClassId) (h : AH) (κ : Kp) (res : Int → Int) (w4 : Cn4) (t : Hs) (y : Rs) (K : Nat) : AO → AH → Nat → Prop := fun o h' K' => K' = K ∧ ∃ (c' : Cd) (T' : T3) (n' : Int), (∀ i, 0 ≤ c'.2.2.2.2.2.1 i ∧ c'.2.2.2.2.2.1 i < 256) ∧
  ((∃ d, y = .inr d ∧ o = .inl (some (.int (zI t.2.1))) ∧ h' = sM s cI (a_up h 36 (iA cI 120 (zcpy t.1 res 0 0 t.2.1))) (0, κ.2.1, κ.2.2.1, κ.2.2.2.1, t.2.1, κ.2.2.2.2.2) (c', (t, T', n', w4))) ∨ (∃ b, y = .inl b ∧ o = .inl (some (.int (zI 0))) ∧ h' = sM s cI h (b, κ.2) (c', (t, T', n', w4))))
set_option maxRecDepth 100000 in
set_option maxHeartbeats 4000000 in
theorem l143_Mo_unpack {a0 : Array Value} {s0 : State} {D : va_G} {cI cL : ClassId} (l : Launch) (E : a_E a0 s0 D cI cL) {p : Program} {e : Env} {R : Room} {s : State} {m : MethodId} {args : Array Value} {below : List Frame} {meth : Method} {c : Code} (C : XC s0 D cI cL p s m meth c "NarrowingPackerModel" prog_13_method_26_code 3 (some .int) []) {h : AH} {K : Nat} {κ : Kp} {t : Hs} {T : T3} {cnt : Int} {w4 : Cn4} {c0 : Cd} {Q : State → Prop} {res : Int → Int} (n1 : 0 ≤ t.2.1) (n2 : t.2.1 ≤ 120) (kk : XW s0 D p l e R s m args below meth c Q 169 [(0, .ref (s0.heap.size + 33))] [] (sM s0.heap.size cI (a_up h 36 (iA cI 120 (zcpy t.1 res 0 0 t.2.1))) κ (c0, (t, T, cnt, w4))) K 0 0) : ∀ (r : Nat) (i : Int), i + r = t.2.1 → 0 ≤ i → XW s0 D p l e R s m args below meth c Q 143 [(0, .ref (s0.heap.size + 33)), (2, .int (zI i))] [] (sM s0.heap.size cI (a_up h 36 (iA cI 120 (zcpy t.1 res 0 0 i))) κ (c0, (t, T, cnt, w4))) K 0 0 := by
  intro r
  induction r with
  | zero =>
    intro i hi h0
    have hi : i = t.2.1 := by omega
    refine x_iload_n C d_Mo_unpack_143 rfl ?_
    refine x_aload_n C d_Mo_unpack_144 rfl ?_
    refine x_get C (G_Mo E.1) 22 (u_786 E.1) d_Mo_unpack_145 (by decide) (by rfl) (show _ = some (.int (zI t.2.1)) from rfl) ?_
    refine x_icmp_ge C (tgt := 169) d_Mo_unpack_148 (by decide) (by omega) (by omega) (by omega) (by omega) (fun c148 => ?_) (fun c148 => ?_)
    · refine XW.loc (lv' := [(0, .ref (s0.heap.size + 33))]) ⟨rfl, trivial⟩ ?_
      rw [hi]
      exact kk
    · exfalso; omega
  | succ r ih =>
    intro i hi h0
    refine x_iload_n C d_Mo_unpack_143 rfl ?_
    refine x_aload_n C d_Mo_unpack_144 rfl ?_
    refine x_get C (G_Mo E.1) 22 (u_786 E.1) d_Mo_unpack_145 (by decide) (by rfl) (show _ = some (.int (zI t.2.1)) from rfl) ?_
    refine x_icmp_ge C (tgt := 169) d_Mo_unpack_148 (by decide) (by omega) (by omega) (by omega) (by omega) (fun c148 => ?_) (fun c148 => ?_)
    · exfalso; omega
    · refine x_aload_n C d_Mo_unpack_151 rfl ?_
      refine x_get C (G_Mo E.1) 7 (u_771 E.1) d_Mo_unpack_152 (by decide) (by rfl) rfl ?_
      refine x_iload_n C d_Mo_unpack_155 rfl ?_
      refine x_aload_n C d_Mo_unpack_156 rfl ?_
      refine x_get C (G_Mo E.1) 24 (u_788 E.1) d_Mo_unpack_157 (by decide) (by rfl) rfl ?_
      refine x_iload_n C d_Mo_unpack_160 rfl ?_
      refine x_iald C d_Mo_unpack_161 (show _ = some (iA cI 120 t.1) from rfl) (by omega) (by omega) (by omega) ?_
      refine x_iast C d_Mo_unpack_162 (show _ = some (iA cI 120 (zcpy t.1 res 0 0 i)) from rfl) (by omega) (by omega) (by omega) ?_
      refine x_iinc C d_Mo_unpack_163 (by decide) rfl ?_
      refine x_goto C (tgt := 143) d_Mo_unpack_166 (by decide) ?_
      refine XW.heq (h' := sM s0.heap.size cI (a_up h 36 (iA cI 120 (zcpy t.1 res 0 0 (i + 1)))) κ (c0, (t, T, cnt, w4))) (by rw [← zcpy_up t.1 res h0]; exact (sM_eq rfl rfl rfl rfl rfl rfl rfl rfl (fun q q1 q2 q3 q4 q5 q6 q7 q8 => by simp only [sM, a_up, beq_f q1, beq_f q2, beq_f q3, beq_f q4, beq_f q5, beq_f q6, beq_f q7, beq_f q8, cond_false]; cases Nat.beq q 36 <;> rfl))) ?_
      refine XW.loc (lv' := [(0, .ref (s0.heap.size + 33)), (2, .int (zI (i + 1)))]) ⟨rfl, rfl, trivial⟩ ?_
      exact ih (i + 1) (by omega) (by omega)
set_option maxRecDepth 100000 in
set_option maxHeartbeats 4000000 in
theorem b116_Mo_unpack {a0 : Array Value} {s0 : State} {D : va_G} {cI cL : ClassId} (l : Launch) (E : a_E a0 s0 D cI cL) {p : Program} {e : Env} {R : Room} {s : State} {m : MethodId} {args : Array Value} {below : List Frame} {meth : Method} {c : Code} (C : XC s0 D cI cL p s m meth c "NarrowingPackerModel" prog_13_method_26_code 3 (some .int) []) {h : AH} {K : Nat} {κ : Kp} {t : Hs} {T : T3} {cnt : Int} {w4 : Cn4} {pa rg pl cd nx : Int} {X G : Int → Int} {res : Int → Int} {b : Int} (b1 : 1 ≤ b) (b2 : b ≤ 4) (hG : ∀ i, 0 ≤ G i ∧ G i < 256) : XW s0 D p l e R s m args below meth c (XQ s0 D 0 0 (PMu s0.heap.size cI h κ res w4 t (.inl b) K) below s) 116 [(0, .ref (s0.heap.size + 33))] [] (sM s0.heap.size cI h κ (((pa, b, X, rg, pl, G, cd, nx) : Cd), (t, T, cnt, w4))) K 0 0 := by
  refine x_aload_n C d_Mo_unpack_116 rfl ?_
  refine x_aload_n C d_Mo_unpack_117 rfl ?_
  refine x_get C (G_Mo E.1) 15 (u_779 E.1) d_Mo_unpack_118 (by decide) (by rfl) (show _ = some (.int (zI b)) from rfl) ?_
  refine x_put C (G_Mo E.1) 0 (u_764 E.1) d_Mo_unpack_121 (by decide) rfl (by rfl) rfl rfl (nle rfl) ?_
  refine x_aload_n C d_Mo_unpack_124 rfl ?_
  refine x_get C (G_Mo E.1) 0 (u_764 E.1) d_Mo_unpack_125 (by decide) (by rfl) (show _ = some (.int (zI b)) from rfl) ?_
  refine x_if_le C (tgt := 133) d_Mo_unpack_128 (by decide) (by omega) (by omega) (fun c128 => ?_) (fun c128 => ?_)
  · exfalso; omega
  · refine x_iconst C d_Mo_unpack_131 ?_
    exact x_iret C d_Mo_unpack_132 (nle rfl) (nle rfl) ⟨rfl, ((pa, b, X, rg, pl, G, cd, nx) : Cd), T, cnt, hG, Or.inr ⟨b, rfl, rfl, (sM_eq rfl rfl rfl rfl rfl rfl rfl rfl (fun q q1 q2 q3 q4 q5 q6 q7 q8 => by simp only [sM, a_up, beq_f q1, beq_f q2, beq_f q3, beq_f q4, beq_f q5, beq_f q6, beq_f q7, beq_f q8, cond_false]))⟩⟩
set_option maxRecDepth 100000 in
set_option maxHeartbeats 4000000 in
theorem g116_Mo_unpack {a0 : Array Value} {s0 : State} {D : va_G} {cI cL : ClassId} (l : Launch) (E : a_E a0 s0 D cI cL) {p : Program} {e : Env} {R : Room} {s : State} {m : MethodId} {args : Array Value} {below : List Frame} {meth : Method} {c : Code} (C : XC s0 D cI cL p s m meth c "NarrowingPackerModel" prog_13_method_26_code 3 (some .int) []) {h : AH} {K : Nat} {κ : Kp} {t : Hs} {T : T3} {cnt : Int} {w4 : Cn4} {pa rg pl cd nx : Int} {X G : Int → Int} {res : Int → Int} (h36 : h 36 = some (iA cI 120 res)) {d : De} (n1 : 0 ≤ t.2.1) (n2 : t.2.1 ≤ 120) (hG : ∀ i, 0 ≤ G i ∧ G i < 256) : XW s0 D p l e R s m args below meth c (XQ s0 D 0 0 (PMu s0.heap.size cI h κ res w4 t (.inr d) K) below s) 116 [(0, .ref (s0.heap.size + 33))] [] (sM s0.heap.size cI h κ (((pa, 0, X, rg, pl, G, cd, nx) : Cd), (t, T, cnt, w4))) K 0 0 := by
  refine x_aload_n C d_Mo_unpack_116 rfl ?_
  refine x_aload_n C d_Mo_unpack_117 rfl ?_
  refine x_get C (G_Mo E.1) 15 (u_779 E.1) d_Mo_unpack_118 (by decide) (by rfl) (show _ = some (.int (zI 0)) from rfl) ?_
  refine x_put C (G_Mo E.1) 0 (u_764 E.1) d_Mo_unpack_121 (by decide) rfl (by rfl) rfl rfl (nle rfl) ?_
  refine x_aload_n C d_Mo_unpack_124 rfl ?_
  refine x_get C (G_Mo E.1) 0 (u_764 E.1) d_Mo_unpack_125 (by decide) (by rfl) (show _ = some (.int (zI 0)) from rfl) ?_
  refine x_if_le C (tgt := 133) d_Mo_unpack_128 (by decide) (by omega) (by omega) (fun c128 => ?_) (fun c128 => ?_)
  · refine x_aload_n C d_Mo_unpack_133 rfl ?_
    refine x_aload_n C d_Mo_unpack_134 rfl ?_
    refine x_get C (G_Mo E.1) 22 (u_786 E.1) d_Mo_unpack_135 (by decide) (by rfl) (show _ = some (.int (zI t.2.1)) from rfl) ?_
    refine x_put C (G_Mo E.1) 6 (u_770 E.1) d_Mo_unpack_138 (by decide) rfl (by rfl) rfl rfl (nle rfl) ?_
    refine x_iconst C d_Mo_unpack_141 ?_
    refine x_istore_n C d_Mo_unpack_142 (by decide) ?_
    refine XW.heq (h' := sM s0.heap.size cI (a_up h 36 (iA cI 120 (zcpy t.1 res 0 0 0))) ((0, κ.2.1, κ.2.2.1, κ.2.2.2.1, t.2.1, κ.2.2.2.2.2) : Kp) (((pa, 0, X, rg, pl, G, cd, nx) : Cd), (t, T, cnt, w4))) (by
      rw [zcpy_0, a_up_id h36]
      exact (sM_eq rfl rfl rfl rfl rfl rfl rfl rfl (fun q q1 q2 q3 q4 q5 q6 q7 q8 => by simp only [sM, a_up, beq_f q1, beq_f q2, beq_f q3, beq_f q4, beq_f q5, beq_f q6, beq_f q7, beq_f q8, cond_false]))) ?_
    refine XW.loc (lv' := [(0, .ref (s0.heap.size + 33)), (2, .int (zI 0))]) ⟨rfl, rfl, trivial⟩ ?_
    refine l143_Mo_unpack l E C n1 n2 ?_ t.2.1.toNat 0 (by omega) (by decide)
    refine x_aload_n C d_Mo_unpack_169 rfl ?_
    refine x_get C (G_Mo E.1) 6 (u_770 E.1) d_Mo_unpack_170 (by decide) (by rfl) (show _ = some (.int (zI t.2.1)) from rfl) ?_
    exact x_iret C d_Mo_unpack_173 (nle rfl) (nle rfl) ⟨rfl, ((pa, 0, X, rg, pl, G, cd, nx) : Cd), T, cnt, hG, Or.inl ⟨d, rfl, rfl, rfl⟩⟩
  · exfalso; omega
set_option maxRecDepth 100000 in
set_option maxHeartbeats 4000000 in
theorem t84_Mo_unpack {a0 : Array Value} {s0 : State} {D : va_G} {cI cL : ClassId} (l : Launch) (E : a_E a0 s0 D cI cL) {p : Program} {e : Env} {R : Room} {s : State} {m : MethodId} {args : Array Value} {below : List Frame} {meth : Method} {c : Code} (C : XC s0 D cI cL p s m meth c "NarrowingPackerModel" prog_13_method_26_code 3 (some .int) []) {h : AH} {K : Nat} {κ : Kp} {t : Hs} {T : T3} {cnt : Int} {w4 : Cn4} {res : Int → Int} (h36 : h 36 = some (iA cI 120 res)) (z1 : 0 ≤ κ.2.2.2.1) (z2 : κ.2.2.2.1 ≤ 200) (n1 : 0 ≤ t.2.1) (n2 : t.2.1 ≤ 120) {c0 : Cd} {x : Rs} (ht : tieR κ.2.2.2.1 x c0) : XW s0 D p l e R s m args below meth c (XQ s0 D 0 0 (PMu s0.heap.size cI h κ res w4 t (rEd κ.2.2.2.1 x) K) below s) 84 [(0, .ref (s0.heap.size + 33))] [] (sM s0.heap.size cI h κ (c0, (t, T, cnt, w4))) K 0 0 := by
  obtain ⟨pa, bd, X, rg, pl, G, cd, nx⟩ := c0
  have hG : ∀ i, 0 ≤ G i ∧ G i < 256 := ht.2.1
  cases x with
  | inl b =>
    have h4 : bd = b ∧ 1 ≤ b ∧ b ≤ 4 := ht.2.2.2
    obtain ⟨h4, b1, b2⟩ := h4
    subst h4
    refine x_aload_n C d_Mo_unpack_84 rfl ?_
    refine x_get C (G_Mo E.1) 15 (u_779 E.1) d_Mo_unpack_85 (by decide) (by rfl) (show _ = some (.int (zI bd)) from rfl) ?_
    refine x_if_ne C (tgt := 116) d_Mo_unpack_88 (by decide) (by omega) (by omega) (fun c88 => ?_) (fun c88 => ?_)
    · exact b116_Mo_unpack l E C b1 b2 hG
    · exfalso; omega
  | inr d =>
    have h4 : bd = 0 ∧ X = d.1 ∧ rg = d.2.1 ∧ cd = d.2.2.1 ∧ nx = d.2.2.2 := ht.2.2.2
    obtain ⟨e0, e1, e2, e3, e4⟩ := h4
    subst e0
    have hd : dOk κ.2.2.2.1 d := ht.2.2.1
    obtain ⟨_, d1, d2, d3, d4, d5⟩ := hd
    by_cases hl : d.2.2.2 < κ.2.2.2.1 ∨ d.2.2.1 ≠ 0
    · refine x_aload_n C d_Mo_unpack_84 rfl ?_
      refine x_get C (G_Mo E.1) 15 (u_779 E.1) d_Mo_unpack_85 (by decide) (by rfl) (show _ = some (.int (zI 0)) from rfl) ?_
      refine x_if_ne C (tgt := 116) d_Mo_unpack_88 (by decide) (by omega) (by omega) (fun c88 => ?_) (fun c88 => ?_)
      · exfalso; omega
      · refine x_aload_n C d_Mo_unpack_91 rfl ?_
        refine x_get C (G_Mo E.1) 21 (u_785 E.1) d_Mo_unpack_92 (by decide) (by rfl) (show _ = some (.int (zI nx)) from rfl) ?_
        refine x_aload_n C d_Mo_unpack_95 rfl ?_
        refine x_get C (G_Mo E.1) 4 (u_768 E.1) d_Mo_unpack_96 (by decide) (by rfl) (show _ = some (.int (zI κ.2.2.2.1)) from rfl) ?_
        refine x_icmp_lt C (tgt := 111) d_Mo_unpack_99 (by decide) (by omega) (by omega) (by omega) (by omega) (fun c99 => ?_) (fun c99 => ?_)
        · refine x_aload_n C d_Mo_unpack_111 rfl ?_
          refine x_iconst C d_Mo_unpack_112 ?_
          refine x_put C (G_Mo E.1) 15 (u_779 E.1) d_Mo_unpack_113 (by decide) rfl (by rfl) rfl rfl (nle rfl) ?_
          first
            | (exfalso; omega)
            | (refine XW.heq (h' := sM s0.heap.size cI h κ (((pa, 2, X, rg, pl, G, cd, nx) : Cd), (t, T, cnt, w4))) (sM_eq rfl rfl rfl rfl rfl rfl rfl rfl (fun q q1 q2 q3 q4 q5 q6 q7 q8 => by simp only [sM, a_up, beq_f q1, beq_f q2, beq_f q3, beq_f q4, beq_f q5, beq_f q6, beq_f q7, beq_f q8, cond_false])) ?_
               rw [show rEd κ.2.2.2.1 (.inr d) = .inl 2 from if_pos hl]
               exact b116_Mo_unpack l E C (by decide) (by decide) hG)
        · refine x_aload_n C d_Mo_unpack_102 rfl ?_
          refine x_get C (G_Mo E.1) 20 (u_784 E.1) d_Mo_unpack_103 (by decide) (by rfl) (show _ = some (.long (zL cd)) from rfl) ?_
          refine x_lconst C d_Mo_unpack_106 rfl ?_
          refine x_lcmp C d_Mo_unpack_107 ?_
          refine x_lif_eq C (tgt := 116) d_Mo_unpack_108 (by decide) (by omega) (by omega) (by omega) (by omega) (fun c108 => ?_) (fun c108 => ?_)
          · first
              | (exfalso; omega)
              | (refine XW.heq (h' := sM s0.heap.size cI h κ (((pa, 2, X, rg, pl, G, cd, nx) : Cd), (t, T, cnt, w4))) (sM_eq rfl rfl rfl rfl rfl rfl rfl rfl (fun q q1 q2 q3 q4 q5 q6 q7 q8 => by simp only [sM, a_up, beq_f q1, beq_f q2, beq_f q3, beq_f q4, beq_f q5, beq_f q6, beq_f q7, beq_f q8, cond_false])) ?_
                 rw [show rEd κ.2.2.2.1 (.inr d) = .inl 2 from if_pos hl]
                 exact b116_Mo_unpack l E C (by decide) (by decide) hG)
          · refine x_aload_n C d_Mo_unpack_111 rfl ?_
            refine x_iconst C d_Mo_unpack_112 ?_
            refine x_put C (G_Mo E.1) 15 (u_779 E.1) d_Mo_unpack_113 (by decide) rfl (by rfl) rfl rfl (nle rfl) ?_
            first
              | (exfalso; omega)
              | (refine XW.heq (h' := sM s0.heap.size cI h κ (((pa, 2, X, rg, pl, G, cd, nx) : Cd), (t, T, cnt, w4))) (sM_eq rfl rfl rfl rfl rfl rfl rfl rfl (fun q q1 q2 q3 q4 q5 q6 q7 q8 => by simp only [sM, a_up, beq_f q1, beq_f q2, beq_f q3, beq_f q4, beq_f q5, beq_f q6, beq_f q7, beq_f q8, cond_false])) ?_
                 rw [show rEd κ.2.2.2.1 (.inr d) = .inl 2 from if_pos hl]
                 exact b116_Mo_unpack l E C (by decide) (by decide) hG)
    · refine x_aload_n C d_Mo_unpack_84 rfl ?_
      refine x_get C (G_Mo E.1) 15 (u_779 E.1) d_Mo_unpack_85 (by decide) (by rfl) (show _ = some (.int (zI 0)) from rfl) ?_
      refine x_if_ne C (tgt := 116) d_Mo_unpack_88 (by decide) (by omega) (by omega) (fun c88 => ?_) (fun c88 => ?_)
      · exfalso; omega
      · refine x_aload_n C d_Mo_unpack_91 rfl ?_
        refine x_get C (G_Mo E.1) 21 (u_785 E.1) d_Mo_unpack_92 (by decide) (by rfl) (show _ = some (.int (zI nx)) from rfl) ?_
        refine x_aload_n C d_Mo_unpack_95 rfl ?_
        refine x_get C (G_Mo E.1) 4 (u_768 E.1) d_Mo_unpack_96 (by decide) (by rfl) (show _ = some (.int (zI κ.2.2.2.1)) from rfl) ?_
        refine x_icmp_lt C (tgt := 111) d_Mo_unpack_99 (by decide) (by omega) (by omega) (by omega) (by omega) (fun c99 => ?_) (fun c99 => ?_)
        · exfalso; omega
        · refine x_aload_n C d_Mo_unpack_102 rfl ?_
          refine x_get C (G_Mo E.1) 20 (u_784 E.1) d_Mo_unpack_103 (by decide) (by rfl) (show _ = some (.long (zL cd)) from rfl) ?_
          refine x_lconst C d_Mo_unpack_106 rfl ?_
          refine x_lcmp C d_Mo_unpack_107 ?_
          refine x_lif_eq C (tgt := 116) d_Mo_unpack_108 (by decide) (by omega) (by omega) (by omega) (by omega) (fun c108 => ?_) (fun c108 => ?_)
          · rw [show rEd κ.2.2.2.1 (.inr d) = .inr d from if_neg hl]
            exact g116_Mo_unpack l E C h36 n1 n2 hG
          · exfalso; omega
set_option maxRecDepth 100000 in
set_option maxHeartbeats 4000000 in
theorem l72_Mo_unpack {a0 : Array Value} {s0 : State} {D : va_G} {cI cL : ClassId} (l : Launch) (E : a_E a0 s0 D cI cL) {p : Program} {e : Env} {R : Room} {s : State} {m : MethodId} {args : Array Value} {below : List Frame} {meth : Method} {c : Code} (C : XC s0 D cI cL p s m meth c "NarrowingPackerModel" prog_13_method_26_code 3 (some .int) []) (hR : R = a_rm 6 0 0) {h : AH} {K : Nat} {κ : Kp} {P pk res : Int → Int} {w4 : Cn4} (h35 : h 35 = some (iA cI 200 P)) (hP : ∀ j, 0 ≤ j → j < κ.2.2.2.1 → P j = pk j) (hp : ∀ j, 0 ≤ pk j ∧ pk j < 256) (z1 : 0 ≤ κ.2.2.2.1) (z2 : κ.2.2.2.1 ≤ 200) (h36 : h 36 = some (iA cI 120 res)) (ch1 : 0 ≤ w4.1) (ch2 : w4.1 ≤ 3) (lo1 : 0 ≤ w4.2.1) (lo2 : w4.2.1 ≤ 200) (fa1 : 0 ≤ w4.2.2.1) (fa2 : w4.2.2.1 ≤ 128) (wh1 : 0 ≤ w4.2.2.2) (wh2 : w4.2.2.2 ≤ 3) {Y : Hs × Rs} : ∀ (r : Nat) (t : Hs) (T : T3) (cnt : Int) (c0 : Cd) (d : De), hOk t → 0 ≤ cnt → cnt ≤ t.2.1 → 120 - t.2.1 < (r : Int) → tieR κ.2.2.2.1 (.inr d) c0 → rLoop pk κ.2.2.2.1 r t d = Y → XW s0 D p l e R s m args below meth c (XQ s0 D 0 0 (PMu s0.heap.size cI h κ res w4 Y.1 (rEd κ.2.2.2.1 Y.2) K) below s) 72 [(0, .ref (s0.heap.size + 33)), (1, .int (zI 1))] [] (sM s0.heap.size cI h κ (c0, (t, T, cnt, w4))) K 0 0 := by
  subst hR
  intro r
  induction r with
  | zero =>
    intro t T cnt c0 d hk m1 m2 hr ht hY
    have hn := hk.2.1
    exfalso; omega
  | succ r ih =>
    intro t T cnt c0 d hk m1 m2 hr ht hY
    have hn := hk.2.1
    have ho := tR_pkt hp (v := (t, T, cnt, w4)) (by exact hn.2) ht
    refine x_iload_n C d_Mo_unpack_72 rfl ?_
    refine x_if_eq C (tgt := 84) d_Mo_unpack_73 (by decide) (by omega) (by omega) (fun c73 => ?_) (fun c73 => ?_)
    · exfalso; omega
    · refine x_aload_n C d_Mo_unpack_76 rfl ?_
      refine x_callVR C (G_Mo E.1) (u_899 E.1) (u_901 E.1) (us_26 E.1) (u_902 E.1) (u_13 E.1) d_Mo_unpack_77 (c_Mo_packet0 l E (v := (t, T, cnt, w4)) h35 hP hp z1 z2 hk m1 (by show cnt ≤ 120; omega) ch1 ch2 lo1 lo2 fa1 (by show w4.2.2.1 ≤ 255; omega) wh1 wh2 (fun _ => fa2) ht.ok) nh_Mo_packet0 ln_Mo_packet0 rfl rfl (nle rfl) (nle rfl) (nle rfl) (nle rfl) (nle rfl) ?_
      generalize hr' : (mPkt pk κ.2.2.2.1 (t, T, cnt, w4) c0) = r' at ho
      rcases ho with ⟨b, q1, q3, q4, q5⟩ | ⟨d', q1, q2, q3, q4, q5⟩ | ⟨d', q1, q2, qt, q3, q4, q5⟩ | ⟨d', q1, q2, qt, q3, q4, q5⟩
      · refine XW.heq (h' := sM s0.heap.size cI h κ (r'.2.1, (t, T, cnt, w4))) (by rw [← q4]) ?_
        refine x_istore_n C d_Mo_unpack_80 (by decide) ?_
        refine x_goto C (tgt := 72) d_Mo_unpack_81 (by decide) ?_
        refine XW.loc (lv' := [(0, .ref (s0.heap.size + 33)), (1, .int (zI 0))]) ⟨rfl, by rw [← q3]; rfl, trivial⟩ ?_
        refine x_iload_n C d_Mo_unpack_72 rfl ?_
        refine x_if_eq C (tgt := 84) d_Mo_unpack_73 (by decide) (by omega) (by omega) (fun c73 => ?_) (fun c73 => ?_)
        · (rw [← hY, rLoop_bad q1]; refine XW.loc (lv' := [(0, .ref (s0.heap.size + 33))]) ⟨rfl, trivial⟩ ?_; exact t84_Mo_unpack l E C h36 z1 z2 (by exact hn.1) (by exact hn.2) q5)
        · exfalso; omega
      · refine XW.heq (h' := sM s0.heap.size cI h κ (r'.2.1, (t, T, cnt, w4))) (by rw [← q4]) ?_
        refine x_istore_n C d_Mo_unpack_80 (by decide) ?_
        refine x_goto C (tgt := 72) d_Mo_unpack_81 (by decide) ?_
        refine XW.loc (lv' := [(0, .ref (s0.heap.size + 33)), (1, .int (zI 0))]) ⟨rfl, by rw [← q3]; rfl, trivial⟩ ?_
        refine x_iload_n C d_Mo_unpack_72 rfl ?_
        refine x_if_eq C (tgt := 84) d_Mo_unpack_73 (by decide) (by omega) (by omega) (fun c73 => ?_) (fun c73 => ?_)
        · (rw [← hY, rLoop_go q1, if_pos q2]; refine XW.loc (lv' := [(0, .ref (s0.heap.size + 33))]) ⟨rfl, trivial⟩ ?_; exact t84_Mo_unpack l E C h36 z1 z2 (by exact hn.1) (by exact hn.2) q5)
        · exfalso; omega
      · refine XW.heq (h' := sM s0.heap.size cI h κ (r'.2.1, (t, T, cnt, w4))) (by rw [← q4]) ?_
        refine x_istore_n C d_Mo_unpack_80 (by decide) ?_
        refine x_goto C (tgt := 72) d_Mo_unpack_81 (by decide) ?_
        refine XW.loc (lv' := [(0, .ref (s0.heap.size + 33)), (1, .int (zI 0))]) ⟨rfl, by rw [← q3]; rfl, trivial⟩ ?_
        refine x_iload_n C d_Mo_unpack_72 rfl ?_
        refine x_if_eq C (tgt := 84) d_Mo_unpack_73 (by decide) (by omega) (by omega) (fun c73 => ?_) (fun c73 => ?_)
        · (rw [← hY, rLoop_go q1, if_neg q2, if_pos qt]; refine XW.loc (lv' := [(0, .ref (s0.heap.size + 33))]) ⟨rfl, trivial⟩ ?_; exact t84_Mo_unpack l E C h36 z1 z2 (by exact hn.1) (by exact hn.2) q5)
        · exfalso; omega
      · have hg := hOk_read hk (rPkt_ok pk κ.2.2.2.1 t (.inr d)) q2 qt
        refine XW.heq (h' := sM s0.heap.size cI h κ (r'.2.1, vNote (t, T, cnt, w4) (hTell t (rPkt pk κ.2.2.2.1 t (.inr d)).1) (rPkt pk κ.2.2.2.1 t (.inr d)).1.1 (rPkt pk κ.2.2.2.1 t (.inr d)).1.2.1 (pkVal (rPkt pk κ.2.2.2.1 t (.inr d)).1))) (by rw [← q4]) ?_
        refine x_istore_n C d_Mo_unpack_80 (by decide) ?_
        refine x_goto C (tgt := 72) d_Mo_unpack_81 (by decide) ?_
        refine XW.loc (lv' := [(0, .ref (s0.heap.size + 33)), (1, .int (zI 1))]) ⟨rfl, by rw [← q3]; rfl, trivial⟩ ?_
        exact ih (hTell t (rPkt pk κ.2.2.2.1 t (.inr d)).1) _ (cnt + 1) r'.2.1 d' hg.1 (by omega) (by omega) (by omega) q5 (by rw [← hY, rLoop_go q1, if_neg q2, if_neg (by rw [qt]; decide)])
theorem zup4_ok {G : Int → Int} (hG : ∀ i, 0 ≤ G i ∧ G i < 256) : ∀ i, 0 ≤ zup (zup (zup (zup G 0 0) 1 0) 2 0) 3 0 i ∧ zup (zup (zup (zup G 0 0) 1 0) 2 0) 3 0 i < 256 :=
  zup_all (Q := fun z => 0 ≤ z ∧ z < 256) (zup_all (Q := fun z => 0 ≤ z ∧ z < 256) (zup_all (Q := fun z => 0 ≤ z ∧ z < 256) (zup_all (Q := fun z => 0 ≤ z ∧ z < 256) hG (by omega)) (by omega)) (by omega)) (by omega)
set_option maxRecDepth 100000 in
set_option maxHeartbeats 4000000 in
theorem b29_Mo_unpack {a0 : Array Value} {s0 : State} {D : va_G} {cI cL : ClassId} (l : Launch) (E : a_E a0 s0 D cI cL) {p : Program} {e : Env} {R : Room} {s : State} {m : MethodId} {args : Array Value} {below : List Frame} {meth : Method} {c : Code} (C : XC s0 D cI cL p s m meth c "NarrowingPackerModel" prog_13_method_26_code 3 (some .int) []) {h : AH} {K : Nat} {κ : Kp} {P pk res : Int → Int} {v : Vw} {c0 : Cd} (h35 : h 35 = some (iA cI 200 P)) (hP : ∀ j, 0 ≤ j → j < κ.2.2.2.1 → P j = pk j) (hp : ∀ j, 0 ≤ pk j ∧ pk j < 256) (z1 : 0 ≤ κ.2.2.2.1) (z2 : κ.2.2.2.1 ≤ 200) (h36 : h 36 = some (iA cI 120 res)) (ch1 : 0 ≤ v.2.2.2.1) (ch2 : v.2.2.2.1 ≤ 3) (lo1 : 0 ≤ v.2.2.2.2.1) (lo2 : v.2.2.2.2.1 ≤ 200) (fa1 : 0 ≤ v.2.2.2.2.2.1) (fa2 : v.2.2.2.2.2.1 ≤ 128) (wh1 : 0 ≤ v.2.2.2.2.2.2) (wh2 : v.2.2.2.2.2.2 ≤ 3) (hG : ∀ i, 0 ≤ c0.2.2.2.2.2.1 i ∧ c0.2.2.2.2.2.1 i < 256) (hb0 : ∀ i, 0 ≤ v.1.1 i ∧ v.1.1 i < 256) (z4 : κ.2.2.2.1 < 4) (cd nx : Int) : XW s0 D p l e R s m args below meth c (XQ s0 D 0 0 (PMu s0.heap.size cI h κ res v.2.2.2 (rUnpack pk κ.2.2.2.1 v.1.1).1 (rUnpack pk κ.2.2.2.1 v.1.1).2 K) below s) 29 [(0, .ref (s0.heap.size + 33))] [] (sM s0.heap.size cI h κ (((0, 1, fun _ => 1024, 4294967295, 4, (zup (zup (zup (zup c0.2.2.2.2.2.1 0 0) 1 0) 2 0) 3 0), cd, nx) : Cd), ((v.1.1, 0, fun _ => 1, 0), v.2.1, 0, v.2.2.2))) K 0 0 := by
  have e0 : rStart pk κ.2.2.2.1 = .inl 1 := if_pos z4
  have hU := rUnpack_bad (b0 := v.1.1) e0
  have tk : tieR κ.2.2.2.1 (.inl 1) ((0, 1, fun _ => 1024, 4294967295, 4, (zup (zup (zup (zup c0.2.2.2.2.2.1 0 0) 1 0) 2 0) 3 0), cd, nx) : Cd) := ⟨rfl, zup4_ok hG, trivial, rfl, by decide, by decide⟩
  refine x_aload_n C d_Mo_unpack_29 rfl ?_
  refine x_aload_n C d_Mo_unpack_30 rfl ?_
  refine x_get C (G_Mo E.1) 15 (u_779 E.1) d_Mo_unpack_31 (by decide) (by rfl) (show _ = some (.int (zI 1)) from rfl) ?_
  refine x_if_ne C (tgt := 52) d_Mo_unpack_34 (by decide) (by omega) (by omega) (fun c34 => ?_) (fun c34 => ?_)
  · refine x_aload_n C d_Mo_unpack_52 rfl ?_
    refine x_get C (G_Mo E.1) 15 (u_779 E.1) d_Mo_unpack_53 (by decide) (by rfl) (show _ = some (.int (zI 1)) from rfl) ?_
    refine x_put C (G_Mo E.1) 15 (u_779 E.1) d_Mo_unpack_56 (by decide) rfl (by rfl) rfl rfl (nle rfl) ?_
    refine x_aload_n C d_Mo_unpack_59 rfl ?_
    refine x_get C (G_Mo E.1) 15 (u_779 E.1) d_Mo_unpack_60 (by decide) (by rfl) (show _ = some (.int (zI 1)) from rfl) ?_
    refine x_if_ne C (tgt := 70) d_Mo_unpack_63 (by decide) (by omega) (by omega) (fun c63 => ?_) (fun c63 => ?_)
    · refine x_iconst C d_Mo_unpack_70 ?_
      refine x_istore_n C d_Mo_unpack_71 (by decide) ?_
      refine x_iload_n C d_Mo_unpack_72 rfl ?_
      refine x_if_eq C (tgt := 84) d_Mo_unpack_73 (by decide) (by omega) (by omega) (fun c73 => ?_) (fun c73 => ?_)
      · rw [hU]
        refine XW.loc (lv' := [(0, .ref (s0.heap.size + 33))]) ⟨rfl, trivial⟩ ?_
        refine XW.heq (h' := sM s0.heap.size cI h κ (((0, 1, fun _ => 1024, 4294967295, 4, (zup (zup (zup (zup c0.2.2.2.2.2.1 0 0) 1 0) 2 0) 3 0), cd, nx) : Cd), ((v.1.1, 0, fun _ => 1, 0), v.2.1, 0, v.2.2.2))) (sM_eq rfl rfl rfl rfl rfl rfl rfl rfl (fun q q1 q2 q3 q4 q5 q6 q7 q8 => by simp only [sM, a_up, beq_f q1, beq_f q2, beq_f q3, beq_f q4, beq_f q5, beq_f q6, beq_f q7, beq_f q8, cond_false])) ?_
        exact t84_Mo_unpack l E C h36 z1 z2 (t := (v.1.1, 0, fun _ => 1, 0)) (by show (0 : Int) ≤ 0; decide) (by show (0 : Int) ≤ 120; decide) tk
      · exfalso; omega
    · exfalso; omega
  · exfalso; omega
set_option maxRecDepth 100000 in
set_option maxHeartbeats 4000000 in
theorem g29_Mo_unpack {a0 : Array Value} {s0 : State} {D : va_G} {cI cL : ClassId} (l : Launch) (E : a_E a0 s0 D cI cL) {p : Program} {e : Env} {R : Room} {s : State} {m : MethodId} {args : Array Value} {below : List Frame} {meth : Method} {c : Code} (C : XC s0 D cI cL p s m meth c "NarrowingPackerModel" prog_13_method_26_code 3 (some .int) []) (hR : R = a_rm 6 0 0) {h : AH} {K : Nat} {κ : Kp} {P pk res : Int → Int} {v : Vw} {c0 : Cd} (h35 : h 35 = some (iA cI 200 P)) (hP : ∀ j, 0 ≤ j → j < κ.2.2.2.1 → P j = pk j) (hp : ∀ j, 0 ≤ pk j ∧ pk j < 256) (z1 : 0 ≤ κ.2.2.2.1) (z2 : κ.2.2.2.1 ≤ 200) (h36 : h 36 = some (iA cI 120 res)) (ch1 : 0 ≤ v.2.2.2.1) (ch2 : v.2.2.2.1 ≤ 3) (lo1 : 0 ≤ v.2.2.2.2.1) (lo2 : v.2.2.2.2.1 ≤ 200) (fa1 : 0 ≤ v.2.2.2.2.2.1) (fa2 : v.2.2.2.2.2.1 ≤ 128) (wh1 : 0 ≤ v.2.2.2.2.2.2) (wh2 : v.2.2.2.2.2.2 ≤ 3) (hG : ∀ i, 0 ≤ c0.2.2.2.2.2.1 i ∧ c0.2.2.2.2.2.1 i < 256) (hb0 : ∀ i, 0 ≤ v.1.1 i ∧ v.1.1 i < 256) (z4 : 4 ≤ κ.2.2.2.1) : XW s0 D p l e R s m args below meth c (XQ s0 D 0 0 (PMu s0.heap.size cI h κ res v.2.2.2 (rUnpack pk κ.2.2.2.1 v.1.1).1 (rUnpack pk κ.2.2.2.1 v.1.1).2 K) below s) 29 [(0, .ref (s0.heap.size + 33))] [] (sM s0.heap.size cI h κ (((0, 0, fun _ => 1024, 4294967295, 4, (zup (zup (zup (zup c0.2.2.2.2.2.1 0 0) 1 0) 2 0) 3 0), (256 * (256 * (256 * (256 * 0 + pk 0) + pk 1) + pk 2) + pk 3), 4) : Cd), ((v.1.1, 0, fun _ => 1, 0), v.2.1, 0, v.2.2.2))) K 0 0 := by
  have hc := cd4_b hp
  have e4 : (256 * (256 * (256 * (256 * 0 + pk 0) + pk 1) + pk 2) + pk 3) = cd4 pk := by unfold cd4; omega
  rw [e4]
  have hl72 := fun (d : De) (ht : tieR κ.2.2.2.1 (.inr d) ((0, 0, fun _ => 1024, 4294967295, 4, (zup (zup (zup (zup c0.2.2.2.2.2.1 0 0) 1 0) 2 0) 3 0), cd4 pk, 4) : Cd)) => l72_Mo_unpack l E C hR h35 hP hp z1 z2 h36 (w4 := v.2.2.2) ch1 ch2 lo1 lo2 fa1 fa2 wh1 wh2 121 (v.1.1, 0, fun _ => 1, 0) v.2.1 0 _ d (hOk0 hb0) (by decide) (by show (0 : Int) ≤ 0; decide) (by show (120 : Int) - 0 < ((121 : Nat) : Int); decide) ht rfl (e := e) (args := args) (below := below) (K := K) (h := h) (κ := κ) (res := res)
  subst hR
  by_cases hb : 4294967295 ≤ cd4 pk
  · have e0 : rStart pk κ.2.2.2.1 = .inl 2 := (if_neg (by omega)).trans (if_pos hb)
    have hU := rUnpack_bad (b0 := v.1.1) e0
    have tk : tieR κ.2.2.2.1 (.inl 2) ((0, 2, fun _ => 1024, 4294967295, 4, (zup (zup (zup (zup c0.2.2.2.2.2.1 0 0) 1 0) 2 0) 3 0), cd4 pk, 4) : Cd) := ⟨rfl, zup4_ok hG, trivial, rfl, by decide, by decide⟩
    refine x_aload_n C d_Mo_unpack_29 rfl ?_
    refine x_aload_n C d_Mo_unpack_30 rfl ?_
    refine x_get C (G_Mo E.1) 15 (u_779 E.1) d_Mo_unpack_31 (by decide) (by rfl) (show _ = some (.int (zI 0)) from rfl) ?_
    refine x_if_ne C (tgt := 52) d_Mo_unpack_34 (by decide) (by omega) (by omega) (fun c34 => ?_) (fun c34 => ?_)
    · exfalso; omega
    · refine x_aload_n C d_Mo_unpack_37 rfl ?_
      refine x_get C (G_Mo E.1) 20 (u_784 E.1) d_Mo_unpack_38 (by decide) (by rfl) (show _ = some (.long (zL (cd4 pk))) from rfl) ?_
      refine x_ldc2 C (v := 4294967295) (u_890 E.1) d_Mo_unpack_41 ?_
      refine x_lcmp C d_Mo_unpack_44 ?_
      refine x_lif_ne C (tgt := 52) d_Mo_unpack_45 (by decide) (by omega) (by omega) (by omega) (by omega) (fun c45 => ?_) (fun c45 => ?_)
      · exfalso; omega
      · refine x_iconst C d_Mo_unpack_48 ?_
        refine x_goto C (tgt := 56) d_Mo_unpack_49 (by decide) ?_
        refine x_put C (G_Mo E.1) 15 (u_779 E.1) d_Mo_unpack_56 (by decide) rfl (by rfl) rfl rfl (nle rfl) ?_
        refine x_aload_n C d_Mo_unpack_59 rfl ?_
        refine x_get C (G_Mo E.1) 15 (u_779 E.1) d_Mo_unpack_60 (by decide) (by rfl) (show _ = some (.int (zI 2)) from rfl) ?_
        refine x_if_ne C (tgt := 70) d_Mo_unpack_63 (by decide) (by omega) (by omega) (fun c63 => ?_) (fun c63 => ?_)
        · refine x_iconst C d_Mo_unpack_70 ?_
          refine x_istore_n C d_Mo_unpack_71 (by decide) ?_
          refine x_iload_n C d_Mo_unpack_72 rfl ?_
          refine x_if_eq C (tgt := 84) d_Mo_unpack_73 (by decide) (by omega) (by omega) (fun c73 => ?_) (fun c73 => ?_)
          · rw [hU]
            refine XW.loc (lv' := [(0, .ref (s0.heap.size + 33))]) ⟨rfl, trivial⟩ ?_
            refine XW.heq (h' := sM s0.heap.size cI h κ (((0, 2, fun _ => 1024, 4294967295, 4, (zup (zup (zup (zup c0.2.2.2.2.2.1 0 0) 1 0) 2 0) 3 0), cd4 pk, 4) : Cd), ((v.1.1, 0, fun _ => 1, 0), v.2.1, 0, v.2.2.2))) (sM_eq rfl rfl rfl rfl rfl rfl rfl rfl (fun q q1 q2 q3 q4 q5 q6 q7 q8 => by simp only [sM, a_up, beq_f q1, beq_f q2, beq_f q3, beq_f q4, beq_f q5, beq_f q6, beq_f q7, beq_f q8, cond_false])) ?_
            exact t84_Mo_unpack l E C h36 z1 z2 (t := (v.1.1, 0, fun _ => 1, 0)) (by show (0 : Int) ≤ 0; decide) (by show (0 : Int) ≤ 120; decide) tk
          · exfalso; omega
        · exfalso; omega
  · have e0 : rStart pk κ.2.2.2.1 = .inr (fun _ => 1024, 4294967295, cd4 pk, 4) := (if_neg (by omega)).trans (if_neg hb)
    have hU := rUnpack_go (b0 := v.1.1) e0
    have tk : tieR κ.2.2.2.1 (.inr (fun _ => 1024, 4294967295, cd4 pk, 4)) ((0, 0, fun _ => 1024, 4294967295, 4, (zup (zup (zup (zup c0.2.2.2.2.2.1 0 0) 1 0) 2 0) 3 0), cd4 pk, 4) : Cd) := ⟨rfl, zup4_ok hG, by have h9 := xOk_start (sz := κ.2.2.2.1) hp; rw [e0] at h9; exact h9, rfl, rfl, rfl, rfl, rfl⟩
    have hF : ∀ (Y : Hs × Rs), (rFin κ.2.2.2.1 Y).1 = Y.1 ∧ (rFin κ.2.2.2.1 Y).2 = rEd κ.2.2.2.1 Y.2 := by
      intro Y
      obtain ⟨Y1, Y2⟩ := Y
      cases Y2 with
      | inl b => exact ⟨rfl, rfl⟩
      | inr d => exact ⟨rfl, rfl⟩
    refine x_aload_n C d_Mo_unpack_29 rfl ?_
    refine x_aload_n C d_Mo_unpack_30 rfl ?_
    refine x_get C (G_Mo E.1) 15 (u_779 E.1) d_Mo_unpack_31 (by decide) (by rfl) (show _ = some (.int (zI 0)) from rfl) ?_
    refine x_if_ne C (tgt := 52) d_Mo_unpack_34 (by decide) (by omega) (by omega) (fun c34 => ?_) (fun c34 => ?_)
    · exfalso; omega
    · refine x_aload_n C d_Mo_unpack_37 rfl ?_
      refine x_get C (G_Mo E.1) 20 (u_784 E.1) d_Mo_unpack_38 (by decide) (by rfl) (show _ = some (.long (zL (cd4 pk))) from rfl) ?_
      refine x_ldc2 C (v := 4294967295) (u_890 E.1) d_Mo_unpack_41 ?_
      refine x_lcmp C d_Mo_unpack_44 ?_
      refine x_lif_ne C (tgt := 52) d_Mo_unpack_45 (by decide) (by omega) (by omega) (by omega) (by omega) (fun c45 => ?_) (fun c45 => ?_)
      · refine x_aload_n C d_Mo_unpack_52 rfl ?_
        refine x_get C (G_Mo E.1) 15 (u_779 E.1) d_Mo_unpack_53 (by decide) (by rfl) (show _ = some (.int (zI 0)) from rfl) ?_
        refine x_put C (G_Mo E.1) 15 (u_779 E.1) d_Mo_unpack_56 (by decide) rfl (by rfl) rfl rfl (nle rfl) ?_
        refine x_aload_n C d_Mo_unpack_59 rfl ?_
        refine x_get C (G_Mo E.1) 15 (u_779 E.1) d_Mo_unpack_60 (by decide) (by rfl) (show _ = some (.int (zI 0)) from rfl) ?_
        refine x_if_ne C (tgt := 70) d_Mo_unpack_63 (by decide) (by omega) (by omega) (fun c63 => ?_) (fun c63 => ?_)
        · exfalso; omega
        · refine x_iconst C d_Mo_unpack_66 ?_
          refine x_goto C (tgt := 71) d_Mo_unpack_67 (by decide) ?_
          refine x_istore_n C d_Mo_unpack_71 (by decide) ?_
          rw [hU, (hF _).1, (hF _).2]
          refine XW.loc (lv' := [(0, .ref (s0.heap.size + 33)), (1, .int (zI 1))]) ⟨rfl, rfl, trivial⟩ ?_
          refine XW.heq (h' := sM s0.heap.size cI h κ (((0, 0, fun _ => 1024, 4294967295, 4, (zup (zup (zup (zup c0.2.2.2.2.2.1 0 0) 1 0) 2 0) 3 0), cd4 pk, 4) : Cd), ((v.1.1, 0, fun _ => 1, 0), v.2.1, 0, v.2.2.2))) (sM_eq rfl rfl rfl rfl rfl rfl rfl rfl (fun q q1 q2 q3 q4 q5 q6 q7 q8 => by simp only [sM, a_up, beq_f q1, beq_f q2, beq_f q3, beq_f q4, beq_f q5, beq_f q6, beq_f q7, beq_f q8, cond_false])) ?_
          exact hl72 _ tk
      · exfalso; omega
set_option maxRecDepth 100000 in
set_option maxHeartbeats 4000000 in
theorem r7_Mo_unpack {a0 : Array Value} {s0 : State} {D : va_G} {cI cL : ClassId} (l : Launch) (E : a_E a0 s0 D cI cL) {p : Program} {e : Env} {R : Room} {s : State} {m : MethodId} {args : Array Value} {below : List Frame} {meth : Method} {c : Code} (C : XC s0 D cI cL p s m meth c "NarrowingPackerModel" prog_13_method_26_code 3 (some .int) []) (hR : R = a_rm 6 0 0) {h : AH} {K : Nat} {κ : Kp} {P pk res : Int → Int} {v : Vw} {c0 : Cd} (h35 : h 35 = some (iA cI 200 P)) (hP : ∀ j, 0 ≤ j → j < κ.2.2.2.1 → P j = pk j) (hp : ∀ j, 0 ≤ pk j ∧ pk j < 256) (z1 : 0 ≤ κ.2.2.2.1) (z2 : κ.2.2.2.1 ≤ 200) (h36 : h 36 = some (iA cI 120 res)) (ch1 : 0 ≤ v.2.2.2.1) (ch2 : v.2.2.2.1 ≤ 3) (lo1 : 0 ≤ v.2.2.2.2.1) (lo2 : v.2.2.2.2.1 ≤ 200) (fa1 : 0 ≤ v.2.2.2.2.2.1) (fa2 : v.2.2.2.2.2.1 ≤ 128) (wh1 : 0 ≤ v.2.2.2.2.2.2) (wh2 : v.2.2.2.2.2.2 ≤ 3) (hG : ∀ i, 0 ≤ c0.2.2.2.2.2.1 i ∧ c0.2.2.2.2.2.1 i < 256) (hb0 : ∀ i, 0 ≤ v.1.1 i ∧ v.1.1 i < 256) : XW s0 D p l e R s m args below meth c (XQ s0 D 0 0 (PMu s0.heap.size cI h κ res v.2.2.2 (rUnpack pk κ.2.2.2.1 v.1.1).1 (rUnpack pk κ.2.2.2.1 v.1.1).2 K) below s) 7 [(0, .ref (s0.heap.size + 33)), (1, .int (zI 0))] [] (sM s0.heap.size cI h κ (((0, 0, fun _ => 1024, 4294967295, 4, (zup (zup (zup (zup c0.2.2.2.2.2.1 0 0) 1 0) 2 0) 3 0), 0, 0) : Cd), ((v.1.1, 0, fun _ => 1, 0), v.2.1, 0, v.2.2.2))) K 0 0 := by
  have hbad := fun (z4 : κ.2.2.2.1 < 4) (cd nx : Int) => b29_Mo_unpack l E C h35 hP hp z1 z2 h36 ch1 ch2 lo1 lo2 fa1 fa2 wh1 wh2 hG hb0 z4 cd nx (e := e) (args := args) (below := below) (R := R) (K := K)
  have hgood := fun (z4 : 4 ≤ κ.2.2.2.1) => g29_Mo_unpack l E C hR h35 hP hp z1 z2 h36 ch1 ch2 lo1 lo2 fa1 fa2 wh1 wh2 hG hb0 z4 (e := e) (args := args) (below := below) (K := K)
  subst hR
  refine x_iload_n C d_Mo_unpack_7 rfl ?_
  refine x_iconst C d_Mo_unpack_8 ?_
  refine x_icmp_ge C (tgt := 29) d_Mo_unpack_9 (by decide) (by omega) (by omega) (by omega) (by omega) (fun c9 => ?_) (fun c9 => ?_)
  · exfalso; omega
  · refine x_aload_n C d_Mo_unpack_12 rfl ?_
    refine x_get C (G_Mo E.1) 15 (u_779 E.1) d_Mo_unpack_13 (by decide) (by rfl) (show _ = some (.int (zI 0)) from rfl) ?_
    refine x_if_ne C (tgt := 29) d_Mo_unpack_16 (by decide) (by omega) (by omega) (fun c16 => ?_) (fun c16 => ?_)
    · exfalso; omega
    · refine x_aload_n C d_Mo_unpack_19 rfl ?_
      refine x_callVR C (G_Mo E.1) (u_918 E.1) (u_920 E.1) (us_30 E.1) (u_921 E.1) (u_13 E.1) d_Mo_unpack_20 (c_Mo_read l E h35 hP hp z1 z2 (pa := 0) (bd := 0) (rg := 4294967295) (pl := 4) (cd := 0) (nx := 0) (X := fun _ => 1024) (G := (zup (zup (zup (zup c0.2.2.2.2.2.1 0 0) 1 0) 2 0) 3 0)) (by decide) (by omega)) nh_Mo_read ln_Mo_read rfl rfl (nle rfl) (nle rfl) (nle rfl) (nle rfl) (nle rfl) ?_
      by_cases hz0 : κ.2.2.2.1 = 0
      · refine XW.heq (h' := sM s0.heap.size cI h κ (((0, 1, fun _ => 1024, 4294967295, 4, (zup (zup (zup (zup c0.2.2.2.2.2.1 0 0) 1 0) 2 0) 3 0), 0, 0) : Cd), ((v.1.1, 0, fun _ => 1, 0), v.2.1, 0, v.2.2.2))) (by rw [show mRead pk κ.2.2.2.1 ((0, 0, fun _ => 1024, 4294967295, 4, (zup (zup (zup (zup c0.2.2.2.2.2.1 0 0) 1 0) 2 0) 3 0), 0, 0) : Cd) = ((0, 1, fun _ => 1024, 4294967295, 4, (zup (zup (zup (zup c0.2.2.2.2.2.1 0 0) 1 0) 2 0) 3 0), 0, 0) : Cd) from if_pos hz0.symm]) ?_
        refine x_iinc C d_Mo_unpack_23 (by decide) rfl ?_
        refine x_goto C (tgt := 7) d_Mo_unpack_26 (by decide) ?_
        refine XW.loc (lv' := [(0, .ref (s0.heap.size + 33)), (1, .int (zI 1))]) ⟨rfl, rfl, trivial⟩ ?_
        refine x_iload_n C d_Mo_unpack_7 rfl ?_
        refine x_iconst C d_Mo_unpack_8 ?_
        refine x_icmp_ge C (tgt := 29) d_Mo_unpack_9 (by decide) (by omega) (by omega) (by omega) (by omega) (fun c9 => ?_) (fun c9 => ?_)
        · exfalso; omega
        · refine x_aload_n C d_Mo_unpack_12 rfl ?_
          refine x_get C (G_Mo E.1) 15 (u_779 E.1) d_Mo_unpack_13 (by decide) (by rfl) (show _ = some (.int (zI 1)) from rfl) ?_
          refine x_if_ne C (tgt := 29) d_Mo_unpack_16 (by decide) (by omega) (by omega) (fun c16 => ?_) (fun c16 => ?_)
          · refine XW.loc (lv' := [(0, .ref (s0.heap.size + 33))]) ⟨rfl, trivial⟩ ?_
            exact hbad (by omega) _ _
          · exfalso; omega
      · refine XW.heq (h' := sM s0.heap.size cI h κ (((0, 0, fun _ => 1024, 4294967295, 4, (zup (zup (zup (zup c0.2.2.2.2.2.1 0 0) 1 0) 2 0) 3 0), (256 * 0 + pk 0), 1) : Cd), ((v.1.1, 0, fun _ => 1, 0), v.2.1, 0, v.2.2.2))) (by rw [show mRead pk κ.2.2.2.1 ((0, 0, fun _ => 1024, 4294967295, 4, (zup (zup (zup (zup c0.2.2.2.2.2.1 0 0) 1 0) 2 0) 3 0), 0, 0) : Cd) = ((0, 0, fun _ => 1024, 4294967295, 4, (zup (zup (zup (zup c0.2.2.2.2.2.1 0 0) 1 0) 2 0) 3 0), (256 * 0 + pk 0), 1) : Cd) from if_neg (fun e => hz0 (show κ.2.2.2.1 = 0 from (show (0 : Int) = κ.2.2.2.1 from e).symm))]) ?_
        refine x_iinc C d_Mo_unpack_23 (by decide) rfl ?_
        refine x_goto C (tgt := 7) d_Mo_unpack_26 (by decide) ?_
        refine XW.loc (lv' := [(0, .ref (s0.heap.size + 33)), (1, .int (zI 1))]) ⟨rfl, rfl, trivial⟩ ?_
        refine x_iload_n C d_Mo_unpack_7 rfl ?_
        refine x_iconst C d_Mo_unpack_8 ?_
        refine x_icmp_ge C (tgt := 29) d_Mo_unpack_9 (by decide) (by omega) (by omega) (by omega) (by omega) (fun c9 => ?_) (fun c9 => ?_)
        · exfalso; omega
        · refine x_aload_n C d_Mo_unpack_12 rfl ?_
          refine x_get C (G_Mo E.1) 15 (u_779 E.1) d_Mo_unpack_13 (by decide) (by rfl) (show _ = some (.int (zI 0)) from rfl) ?_
          refine x_if_ne C (tgt := 29) d_Mo_unpack_16 (by decide) (by omega) (by omega) (fun c16 => ?_) (fun c16 => ?_)
          · exfalso; omega
          · refine x_aload_n C d_Mo_unpack_19 rfl ?_
            refine x_callVR C (G_Mo E.1) (u_918 E.1) (u_920 E.1) (us_30 E.1) (u_921 E.1) (u_13 E.1) d_Mo_unpack_20 (c_Mo_read l E h35 hP hp z1 z2 (pa := 0) (bd := 0) (rg := 4294967295) (pl := 4) (cd := (256 * 0 + pk 0)) (nx := 1) (X := fun _ => 1024) (G := (zup (zup (zup (zup c0.2.2.2.2.2.1 0 0) 1 0) 2 0) 3 0)) (by decide) (by omega)) nh_Mo_read ln_Mo_read rfl rfl (nle rfl) (nle rfl) (nle rfl) (nle rfl) (nle rfl) ?_
            by_cases hz1 : κ.2.2.2.1 = 1
            · refine XW.heq (h' := sM s0.heap.size cI h κ (((0, 1, fun _ => 1024, 4294967295, 4, (zup (zup (zup (zup c0.2.2.2.2.2.1 0 0) 1 0) 2 0) 3 0), (256 * 0 + pk 0), 1) : Cd), ((v.1.1, 0, fun _ => 1, 0), v.2.1, 0, v.2.2.2))) (by rw [show mRead pk κ.2.2.2.1 ((0, 0, fun _ => 1024, 4294967295, 4, (zup (zup (zup (zup c0.2.2.2.2.2.1 0 0) 1 0) 2 0) 3 0), (256 * 0 + pk 0), 1) : Cd) = ((0, 1, fun _ => 1024, 4294967295, 4, (zup (zup (zup (zup c0.2.2.2.2.2.1 0 0) 1 0) 2 0) 3 0), (256 * 0 + pk 0), 1) : Cd) from if_pos hz1.symm]) ?_
              refine x_iinc C d_Mo_unpack_23 (by decide) rfl ?_
              refine x_goto C (tgt := 7) d_Mo_unpack_26 (by decide) ?_
              refine XW.loc (lv' := [(0, .ref (s0.heap.size + 33)), (1, .int (zI 2))]) ⟨rfl, rfl, trivial⟩ ?_
              refine x_iload_n C d_Mo_unpack_7 rfl ?_
              refine x_iconst C d_Mo_unpack_8 ?_
              refine x_icmp_ge C (tgt := 29) d_Mo_unpack_9 (by decide) (by omega) (by omega) (by omega) (by omega) (fun c9 => ?_) (fun c9 => ?_)
              · exfalso; omega
              · refine x_aload_n C d_Mo_unpack_12 rfl ?_
                refine x_get C (G_Mo E.1) 15 (u_779 E.1) d_Mo_unpack_13 (by decide) (by rfl) (show _ = some (.int (zI 1)) from rfl) ?_
                refine x_if_ne C (tgt := 29) d_Mo_unpack_16 (by decide) (by omega) (by omega) (fun c16 => ?_) (fun c16 => ?_)
                · refine XW.loc (lv' := [(0, .ref (s0.heap.size + 33))]) ⟨rfl, trivial⟩ ?_
                  exact hbad (by omega) _ _
                · exfalso; omega
            · refine XW.heq (h' := sM s0.heap.size cI h κ (((0, 0, fun _ => 1024, 4294967295, 4, (zup (zup (zup (zup c0.2.2.2.2.2.1 0 0) 1 0) 2 0) 3 0), (256 * (256 * 0 + pk 0) + pk 1), 2) : Cd), ((v.1.1, 0, fun _ => 1, 0), v.2.1, 0, v.2.2.2))) (by rw [show mRead pk κ.2.2.2.1 ((0, 0, fun _ => 1024, 4294967295, 4, (zup (zup (zup (zup c0.2.2.2.2.2.1 0 0) 1 0) 2 0) 3 0), (256 * 0 + pk 0), 1) : Cd) = ((0, 0, fun _ => 1024, 4294967295, 4, (zup (zup (zup (zup c0.2.2.2.2.2.1 0 0) 1 0) 2 0) 3 0), (256 * (256 * 0 + pk 0) + pk 1), 2) : Cd) from if_neg (fun e => hz1 (show κ.2.2.2.1 = 1 from (show (1 : Int) = κ.2.2.2.1 from e).symm))]) ?_
              refine x_iinc C d_Mo_unpack_23 (by decide) rfl ?_
              refine x_goto C (tgt := 7) d_Mo_unpack_26 (by decide) ?_
              refine XW.loc (lv' := [(0, .ref (s0.heap.size + 33)), (1, .int (zI 2))]) ⟨rfl, rfl, trivial⟩ ?_
              refine x_iload_n C d_Mo_unpack_7 rfl ?_
              refine x_iconst C d_Mo_unpack_8 ?_
              refine x_icmp_ge C (tgt := 29) d_Mo_unpack_9 (by decide) (by omega) (by omega) (by omega) (by omega) (fun c9 => ?_) (fun c9 => ?_)
              · exfalso; omega
              · refine x_aload_n C d_Mo_unpack_12 rfl ?_
                refine x_get C (G_Mo E.1) 15 (u_779 E.1) d_Mo_unpack_13 (by decide) (by rfl) (show _ = some (.int (zI 0)) from rfl) ?_
                refine x_if_ne C (tgt := 29) d_Mo_unpack_16 (by decide) (by omega) (by omega) (fun c16 => ?_) (fun c16 => ?_)
                · exfalso; omega
                · refine x_aload_n C d_Mo_unpack_19 rfl ?_
                  refine x_callVR C (G_Mo E.1) (u_918 E.1) (u_920 E.1) (us_30 E.1) (u_921 E.1) (u_13 E.1) d_Mo_unpack_20 (c_Mo_read l E h35 hP hp z1 z2 (pa := 0) (bd := 0) (rg := 4294967295) (pl := 4) (cd := (256 * (256 * 0 + pk 0) + pk 1)) (nx := 2) (X := fun _ => 1024) (G := (zup (zup (zup (zup c0.2.2.2.2.2.1 0 0) 1 0) 2 0) 3 0)) (by decide) (by omega)) nh_Mo_read ln_Mo_read rfl rfl (nle rfl) (nle rfl) (nle rfl) (nle rfl) (nle rfl) ?_
                  by_cases hz2 : κ.2.2.2.1 = 2
                  · refine XW.heq (h' := sM s0.heap.size cI h κ (((0, 1, fun _ => 1024, 4294967295, 4, (zup (zup (zup (zup c0.2.2.2.2.2.1 0 0) 1 0) 2 0) 3 0), (256 * (256 * 0 + pk 0) + pk 1), 2) : Cd), ((v.1.1, 0, fun _ => 1, 0), v.2.1, 0, v.2.2.2))) (by rw [show mRead pk κ.2.2.2.1 ((0, 0, fun _ => 1024, 4294967295, 4, (zup (zup (zup (zup c0.2.2.2.2.2.1 0 0) 1 0) 2 0) 3 0), (256 * (256 * 0 + pk 0) + pk 1), 2) : Cd) = ((0, 1, fun _ => 1024, 4294967295, 4, (zup (zup (zup (zup c0.2.2.2.2.2.1 0 0) 1 0) 2 0) 3 0), (256 * (256 * 0 + pk 0) + pk 1), 2) : Cd) from if_pos hz2.symm]) ?_
                    refine x_iinc C d_Mo_unpack_23 (by decide) rfl ?_
                    refine x_goto C (tgt := 7) d_Mo_unpack_26 (by decide) ?_
                    refine XW.loc (lv' := [(0, .ref (s0.heap.size + 33)), (1, .int (zI 3))]) ⟨rfl, rfl, trivial⟩ ?_
                    refine x_iload_n C d_Mo_unpack_7 rfl ?_
                    refine x_iconst C d_Mo_unpack_8 ?_
                    refine x_icmp_ge C (tgt := 29) d_Mo_unpack_9 (by decide) (by omega) (by omega) (by omega) (by omega) (fun c9 => ?_) (fun c9 => ?_)
                    · exfalso; omega
                    · refine x_aload_n C d_Mo_unpack_12 rfl ?_
                      refine x_get C (G_Mo E.1) 15 (u_779 E.1) d_Mo_unpack_13 (by decide) (by rfl) (show _ = some (.int (zI 1)) from rfl) ?_
                      refine x_if_ne C (tgt := 29) d_Mo_unpack_16 (by decide) (by omega) (by omega) (fun c16 => ?_) (fun c16 => ?_)
                      · refine XW.loc (lv' := [(0, .ref (s0.heap.size + 33))]) ⟨rfl, trivial⟩ ?_
                        exact hbad (by omega) _ _
                      · exfalso; omega
                  · refine XW.heq (h' := sM s0.heap.size cI h κ (((0, 0, fun _ => 1024, 4294967295, 4, (zup (zup (zup (zup c0.2.2.2.2.2.1 0 0) 1 0) 2 0) 3 0), (256 * (256 * (256 * 0 + pk 0) + pk 1) + pk 2), 3) : Cd), ((v.1.1, 0, fun _ => 1, 0), v.2.1, 0, v.2.2.2))) (by rw [show mRead pk κ.2.2.2.1 ((0, 0, fun _ => 1024, 4294967295, 4, (zup (zup (zup (zup c0.2.2.2.2.2.1 0 0) 1 0) 2 0) 3 0), (256 * (256 * 0 + pk 0) + pk 1), 2) : Cd) = ((0, 0, fun _ => 1024, 4294967295, 4, (zup (zup (zup (zup c0.2.2.2.2.2.1 0 0) 1 0) 2 0) 3 0), (256 * (256 * (256 * 0 + pk 0) + pk 1) + pk 2), 3) : Cd) from if_neg (fun e => hz2 (show κ.2.2.2.1 = 2 from (show (2 : Int) = κ.2.2.2.1 from e).symm))]) ?_
                    refine x_iinc C d_Mo_unpack_23 (by decide) rfl ?_
                    refine x_goto C (tgt := 7) d_Mo_unpack_26 (by decide) ?_
                    refine XW.loc (lv' := [(0, .ref (s0.heap.size + 33)), (1, .int (zI 3))]) ⟨rfl, rfl, trivial⟩ ?_
                    refine x_iload_n C d_Mo_unpack_7 rfl ?_
                    refine x_iconst C d_Mo_unpack_8 ?_
                    refine x_icmp_ge C (tgt := 29) d_Mo_unpack_9 (by decide) (by omega) (by omega) (by omega) (by omega) (fun c9 => ?_) (fun c9 => ?_)
                    · exfalso; omega
                    · refine x_aload_n C d_Mo_unpack_12 rfl ?_
                      refine x_get C (G_Mo E.1) 15 (u_779 E.1) d_Mo_unpack_13 (by decide) (by rfl) (show _ = some (.int (zI 0)) from rfl) ?_
                      refine x_if_ne C (tgt := 29) d_Mo_unpack_16 (by decide) (by omega) (by omega) (fun c16 => ?_) (fun c16 => ?_)
                      · exfalso; omega
                      · refine x_aload_n C d_Mo_unpack_19 rfl ?_
                        refine x_callVR C (G_Mo E.1) (u_918 E.1) (u_920 E.1) (us_30 E.1) (u_921 E.1) (u_13 E.1) d_Mo_unpack_20 (c_Mo_read l E h35 hP hp z1 z2 (pa := 0) (bd := 0) (rg := 4294967295) (pl := 4) (cd := (256 * (256 * (256 * 0 + pk 0) + pk 1) + pk 2)) (nx := 3) (X := fun _ => 1024) (G := (zup (zup (zup (zup c0.2.2.2.2.2.1 0 0) 1 0) 2 0) 3 0)) (by decide) (by omega)) nh_Mo_read ln_Mo_read rfl rfl (nle rfl) (nle rfl) (nle rfl) (nle rfl) (nle rfl) ?_
                        by_cases hz3 : κ.2.2.2.1 = 3
                        · refine XW.heq (h' := sM s0.heap.size cI h κ (((0, 1, fun _ => 1024, 4294967295, 4, (zup (zup (zup (zup c0.2.2.2.2.2.1 0 0) 1 0) 2 0) 3 0), (256 * (256 * (256 * 0 + pk 0) + pk 1) + pk 2), 3) : Cd), ((v.1.1, 0, fun _ => 1, 0), v.2.1, 0, v.2.2.2))) (by rw [show mRead pk κ.2.2.2.1 ((0, 0, fun _ => 1024, 4294967295, 4, (zup (zup (zup (zup c0.2.2.2.2.2.1 0 0) 1 0) 2 0) 3 0), (256 * (256 * (256 * 0 + pk 0) + pk 1) + pk 2), 3) : Cd) = ((0, 1, fun _ => 1024, 4294967295, 4, (zup (zup (zup (zup c0.2.2.2.2.2.1 0 0) 1 0) 2 0) 3 0), (256 * (256 * (256 * 0 + pk 0) + pk 1) + pk 2), 3) : Cd) from if_pos hz3.symm]) ?_
                          refine x_iinc C d_Mo_unpack_23 (by decide) rfl ?_
                          refine x_goto C (tgt := 7) d_Mo_unpack_26 (by decide) ?_
                          refine XW.loc (lv' := [(0, .ref (s0.heap.size + 33)), (1, .int (zI 4))]) ⟨rfl, rfl, trivial⟩ ?_
                          refine x_iload_n C d_Mo_unpack_7 rfl ?_
                          refine x_iconst C d_Mo_unpack_8 ?_
                          refine x_icmp_ge C (tgt := 29) d_Mo_unpack_9 (by decide) (by omega) (by omega) (by omega) (by omega) (fun c9 => ?_) (fun c9 => ?_)
                          · refine XW.loc (lv' := [(0, .ref (s0.heap.size + 33))]) ⟨rfl, trivial⟩ ?_
                            exact hbad (by omega) _ _
                          · exfalso; omega
                        · refine XW.heq (h' := sM s0.heap.size cI h κ (((0, 0, fun _ => 1024, 4294967295, 4, (zup (zup (zup (zup c0.2.2.2.2.2.1 0 0) 1 0) 2 0) 3 0), (256 * (256 * (256 * (256 * 0 + pk 0) + pk 1) + pk 2) + pk 3), 4) : Cd), ((v.1.1, 0, fun _ => 1, 0), v.2.1, 0, v.2.2.2))) (by rw [show mRead pk κ.2.2.2.1 ((0, 0, fun _ => 1024, 4294967295, 4, (zup (zup (zup (zup c0.2.2.2.2.2.1 0 0) 1 0) 2 0) 3 0), (256 * (256 * (256 * 0 + pk 0) + pk 1) + pk 2), 3) : Cd) = ((0, 0, fun _ => 1024, 4294967295, 4, (zup (zup (zup (zup c0.2.2.2.2.2.1 0 0) 1 0) 2 0) 3 0), (256 * (256 * (256 * (256 * 0 + pk 0) + pk 1) + pk 2) + pk 3), 4) : Cd) from if_neg (fun e => hz3 (show κ.2.2.2.1 = 3 from (show (3 : Int) = κ.2.2.2.1 from e).symm))]) ?_
                          refine x_iinc C d_Mo_unpack_23 (by decide) rfl ?_
                          refine x_goto C (tgt := 7) d_Mo_unpack_26 (by decide) ?_
                          refine XW.loc (lv' := [(0, .ref (s0.heap.size + 33)), (1, .int (zI 4))]) ⟨rfl, rfl, trivial⟩ ?_
                          refine x_iload_n C d_Mo_unpack_7 rfl ?_
                          refine x_iconst C d_Mo_unpack_8 ?_
                          refine x_icmp_ge C (tgt := 29) d_Mo_unpack_9 (by decide) (by omega) (by omega) (by omega) (by omega) (fun c9 => ?_) (fun c9 => ?_)
                          · refine XW.loc (lv' := [(0, .ref (s0.heap.size + 33))]) ⟨rfl, trivial⟩ ?_
                            exact hgood (by omega)
                          · exfalso; omega
set_option maxRecDepth 100000 in
set_option maxHeartbeats 4000000 in
theorem c_Mo_unpack {a0 : Array Value} {s0 : State} {D : va_G} {cI cL : ClassId} (l : Launch) (E : a_E a0 s0 D cI cL) {h : AH} {K : Nat} {κ : Kp} {P pk res : Int → Int} {v : Vw} {c0 : Cd} (h35 : h 35 = some (iA cI 200 P)) (hP : ∀ j, 0 ≤ j → j < κ.2.2.2.1 → P j = pk j) (hp : ∀ j, 0 ≤ pk j ∧ pk j < 256) (z1 : 0 ≤ κ.2.2.2.1) (z2 : κ.2.2.2.1 ≤ 200) (h36 : h 36 = some (iA cI 120 res)) (ch1 : 0 ≤ v.2.2.2.1) (ch2 : v.2.2.2.1 ≤ 3) (lo1 : 0 ≤ v.2.2.2.2.1) (lo2 : v.2.2.2.2.1 ≤ 200) (fa1 : 0 ≤ v.2.2.2.2.2.1) (fa2 : v.2.2.2.2.2.1 ≤ 128) (wh1 : 0 ≤ v.2.2.2.2.2.2) (wh2 : v.2.2.2.2.2.2 ≤ 3) (hG : ∀ i, 0 ≤ c0.2.2.2.2.2.1 i ∧ c0.2.2.2.2.2.1 i < 256) (hb0 : ∀ i, 0 ≤ v.1.1 i ∧ v.1.1 i < 256) : XM l s0 D y_Mo_unpack prog_13_method_26_code 3 (some .int) 6 0 0 [.ref (s0.heap.size + 33)] (sM s0.heap.size cI h κ (c0, v)) (K) (PMu s0.heap.size cI h κ res v.2.2.2 (rUnpack pk κ.2.2.2.1 v.1.1).1 (rUnpack pk κ.2.2.2.1 v.1.1).2 K) := by
  refine XM.of (cI := cI) (cL := cL) (own := "NarrowingPackerModel") (by decide) rfl E.2 (nle rfl) ?_
  intro p e s m below meth c C hn
  refine x_aload_n C d_Mo_unpack_0 rfl ?_
  refine x_iconst C d_Mo_unpack_1 ?_
  refine XW.heq (h' := sM s0.heap.size cI h κ (((c0.1, c0.2.1, c0.2.2.1, c0.2.2.2.1, c0.2.2.2.2.1, c0.2.2.2.2.2.1, c0.2.2.2.2.2.2.1, c0.2.2.2.2.2.2.2) : Cd), ((v.1.1, v.1.2.1, v.1.2.2.1, v.1.2.2.2), v.2.1, v.2.2.1, v.2.2.2))) rfl ?_
  refine x_callVR C (G_Mo E.1) (u_886 E.1) (u_888 E.1) (us_23 E.1) (u_889 E.1) (u_13 E.1) d_Mo_unpack_2 (c_Mo_begin l E (r := (v.2.1, v.2.2.2)) (Or.inl rfl)) nh_Mo_begin ln_Mo_begin rfl rfl (nle rfl) (nle rfl) (nle rfl) (nle rfl) (nle rfl) ?_
  refine x_iconst C d_Mo_unpack_5 ?_
  refine x_istore_n C d_Mo_unpack_6 (by decide) ?_
  refine XW.heq (h' := sM s0.heap.size cI h κ (((0, 0, fun _ => 1024, 4294967295, 4, (zup (zup (zup (zup c0.2.2.2.2.2.1 0 0) 1 0) 2 0) 3 0), 0, 0) : Cd), ((v.1.1, 0, fun _ => 1, 0), v.2.1, 0, v.2.2.2))) rfl ?_
  refine XW.loc (lv' := [(0, .ref (s0.heap.size + 33)), (1, .int (zI 0))]) ⟨rfl, rfl, trivial⟩ ?_
  exact r7_Mo_unpack l E C rfl h35 hP hp z1 z2 h36 ch1 ch2 lo1 lo2 fa1 fa2 wh1 wh2 hG hb0

