/-! the reference packs -/
theorem zcpy_up (f g : Int → Int) {k : Int} (h : 0 ≤ k) : zup (zcpy f g 0 0 k) k (f k) = zcpy f g 0 0 (k + 1) := by
  funext j
  unfold zup zcpy
  by_cases e : j = k
  · rw [if_pos e, if_pos (by omega), e]; congr 1; omega
  · rw [if_neg e]
    by_cases e2 : 0 ≤ j ∧ j < 0 + k
    · rw [if_pos e2, if_pos (by omega)]
    · rw [if_neg e2, if_neg (by omega)]
theorem zcpy_0 (f g : Int → Int) : zcpy f g 0 0 0 = g := by
  funext j
  unfold zcpy
  rw [if_neg (by omega)]
theorem zcpy_ag {f f' : Int → Int} (g : Int → Int) {n : Int} (h : ∀ i, 0 ≤ i → i < n → f i = f' i) : zcpy f g 0 0 n = zcpy f' g 0 0 n := by
  funext j
  unfold zcpy
  by_cases e2 : 0 ≤ j ∧ j < 0 + n
  · rw [if_pos e2, if_pos e2]; exact h _ (by omega) (by omega)
  · rw [if_neg e2, if_neg e2]
theorem XQ.mono {s0 : State} {D : va_G} {mc ms : Nat} {Post Post' : AO → AH → Nat → Prop} {below : List Frame} {s t : State} (f : ∀ o h' K', Post o h' K' → Post' o h' K') (h : XQ s0 D mc ms Post below s t) : XQ s0 D mc ms Post' below s t := by
  obtain ⟨o, r1, r2, h', K', w, q, r3⟩ := h
  refine ⟨o, r1, r2, h', K', w, ?_, r3⟩
  cases o with
  | returned v => exact f _ _ _ q
  | threw a => obtain ⟨Cn, q1, q2⟩ := q; exact ⟨Cn, f _ _ _ q1, q2⟩
theorem XW.mono {s0 : State} {D : va_G} {p : Program} {l : Launch} {e : Env} {R : Room} {s : State} {m : MethodId} {args : Array Value} {below : List Frame} {meth : Method} {c : Code} {Q Q' : State → Prop} {pc : Nat} {lv : List (Nat × Value)} {st : List Value} {h : AH} {K cells slots : Nat} (f : ∀ t, Q t → Q' t) (k : XW s0 D p l e R s m args below meth c Q pc lv st h K cells slots) : XW s0 D p l e R s m args below meth c Q' pc lv st h K cells slots :=
  fun ls H locs P => W_mono f (k ls H locs P)
theorem ch_grow {cc : Int} {src : Int → Int} (hs : ∀ q, 0 ≤ src q ∧ src q < 256) {n : Int} {t : Hs} (hk : hOk t) (i2 : t.2.1 < n) (n2 : n ≤ 120) : t.2.1 + 1 ≤ (hTell t (chooseZ cc src n t)).2.1 := by
  rcases ch_tie (cc := cc) hs hk i2 n2 with ⟨ln, k, e1, e2, q1, q2, q3, q4, q5⟩ | ⟨ln, ds, w, e1, e2, q1, q2, q3, q4, q5⟩ | ⟨w, e1, e2, q1, q5⟩ | ⟨w, e1, e2, q5⟩
  · rw [e1]; show t.2.1 + 1 ≤ t.2.1 + ln; omega
  · rw [e1]; show t.2.1 + 1 ≤ t.2.1 + ln; omega
  · rw [e1]; show t.2.1 + 1 ≤ t.2.1 + 1; omega
  · rw [e1]; show t.2.1 + 1 ≤ t.2.1 + 1; omega
theorem inv_low {j : Int} (h2 : j < 72) : inv j = j := by
  unfold inv
  rw [if_neg (by omega), if_neg (by omega), if_neg (by omega), if_neg (by omega)]
set_option maxRecDepth 100000 in
set_option maxHeartbeats 4000000 in
theorem l91_Mo_pack {a0 : Array Value} {s0 : State} {D : va_G} {cI cL : ClassId} (l : Launch) (E : a_E a0 s0 D cI cL) {p : Program} {e : Env} {R : Room} {s : State} {m : MethodId} {args : Array Value} {below : List Frame} {meth : Method} {c : Code} (C : XC s0 D cI cL p s m meth c "NarrowingPackerModel" prog_13_method_25_code 2 (some .int) []) {h : AH} {K : Nat} {κ : Kp} {v : Hs × T3 × Int × Cn4} {c0 : Cd} {Q : State → Prop} {P : Int → Int} (z1 : 0 ≤ κ.2.2.2.1) (z2 : κ.2.2.2.1 ≤ 200) (kk : XW s0 D p l e R s m args below meth c Q 117 [(0, .ref (s0.heap.size + 33))] [] (sM s0.heap.size cI (a_up h 35 (iA cI 200 (zcpy c0.2.2.2.2.2.1 P 0 0 κ.2.2.2.1))) κ (c0, v)) K 0 0) : ∀ (r : Nat) (i : Int), i + r = κ.2.2.2.1 → 0 ≤ i → XW s0 D p l e R s m args below meth c Q 91 [(0, .ref (s0.heap.size + 33)), (1, .int (zI i))] [] (sM s0.heap.size cI (a_up h 35 (iA cI 200 (zcpy c0.2.2.2.2.2.1 P 0 0 i))) κ (c0, v)) K 0 0 := by
  intro r
  induction r with
  | zero =>
    intro i hi h0
    have hi : i = κ.2.2.2.1 := by omega
    refine x_iload_n C d_Mo_pack_91 rfl ?_
    refine x_aload_n C d_Mo_pack_92 rfl ?_
    refine x_get C (G_Mo E.1) 4 (u_768 E.1) d_Mo_pack_93 (by decide) (by rfl) (show _ = some (.int (zI κ.2.2.2.1)) from rfl) ?_
    refine x_icmp_ge C (tgt := 117) d_Mo_pack_96 (by decide) (by omega) (by omega) (by omega) (by omega) (fun c96 => ?_) (fun c96 => ?_)
    · refine XW.loc (lv' := [(0, .ref (s0.heap.size + 33))]) ⟨rfl, trivial⟩ ?_
      rw [hi]
      exact kk
    · exfalso; omega
  | succ r ih =>
    intro i hi h0
    refine x_iload_n C d_Mo_pack_91 rfl ?_
    refine x_aload_n C d_Mo_pack_92 rfl ?_
    refine x_get C (G_Mo E.1) 4 (u_768 E.1) d_Mo_pack_93 (by decide) (by rfl) (show _ = some (.int (zI κ.2.2.2.1)) from rfl) ?_
    refine x_icmp_ge C (tgt := 117) d_Mo_pack_96 (by decide) (by omega) (by omega) (by omega) (by omega) (fun c96 => ?_) (fun c96 => ?_)
    · exfalso; omega
    · refine x_aload_n C d_Mo_pack_99 rfl ?_
      refine x_get C (G_Mo E.1) 5 (u_769 E.1) d_Mo_pack_100 (by decide) (by rfl) rfl ?_
      refine x_iload_n C d_Mo_pack_103 rfl ?_
      refine x_aload_n C d_Mo_pack_104 rfl ?_
      refine x_get C (G_Mo E.1) 19 (u_783 E.1) d_Mo_pack_105 (by decide) (by rfl) rfl ?_
      refine x_iload_n C d_Mo_pack_108 rfl ?_
      refine x_iald C d_Mo_pack_109 (show _ = some (iA cI 1600 c0.2.2.2.2.2.1) from rfl) (by omega) (by omega) (by omega) ?_
      refine x_iast C d_Mo_pack_110 (show _ = some (iA cI 200 (zcpy c0.2.2.2.2.2.1 P 0 0 i)) from rfl) (by omega) (by omega) (by omega) ?_
      refine x_iinc C d_Mo_pack_111 (by decide) rfl ?_
      refine x_goto C (tgt := 91) d_Mo_pack_114 (by decide) ?_
      refine XW.heq (h' := sM s0.heap.size cI (a_up h 35 (iA cI 200 (zcpy c0.2.2.2.2.2.1 P 0 0 (i + 1)))) κ (c0, v)) (by rw [← zcpy_up c0.2.2.2.2.2.1 P h0]; exact (sM_eq rfl rfl rfl rfl rfl rfl rfl rfl (fun q q1 q2 q3 q4 q5 q6 q7 q8 => by simp only [sM, a_up, beq_f q1, beq_f q2, beq_f q3, beq_f q4, beq_f q5, beq_f q6, beq_f q7, beq_f q8, cond_false]; cases Nat.beq q 35 <;> rfl))) ?_
      refine XW.loc (lv' := [(0, .ref (s0.heap.size + 33)), (1, .int (zI (i + 1)))]) ⟨rfl, rfl, trivial⟩ ?_
      exact ih (i + 1) (by omega) (by omega)
set_option maxRecDepth 100000 in
set_option maxHeartbeats 4000000 in
theorem l127_Mo_pack {a0 : Array Value} {s0 : State} {D : va_G} {cI cL : ClassId} (l : Launch) (E : a_E a0 s0 D cI cL) {p : Program} {e : Env} {R : Room} {s : State} {m : MethodId} {args : Array Value} {below : List Frame} {meth : Method} {c : Code} (C : XC s0 D cI cL p s m meth c "NarrowingPackerModel" prog_13_method_25_code 2 (some .int) []) {h : AH} {K : Nat} {κ : Kp} {v : Hs × T3 × Int × Cn4} {c0 : Cd} {Q : State → Prop} {L : T3} (m1 : 0 ≤ v.2.2.1) (m2 : v.2.2.1 ≤ 120) (kk : XW s0 D p l e R s m args below meth c Q 177 [(0, .ref (s0.heap.size + 33))] [] (sM s0.heap.size cI (a_up (a_up (a_up h 37 (iA cI 121 (zcpy v.2.1.1 L.1 0 0 v.2.2.1))) 38 (iA cI 121 (zcpy v.2.1.2.1 L.2.1 0 0 v.2.2.1))) 39 (iA cI 121 (zcpy v.2.1.2.2 L.2.2 0 0 v.2.2.1))) κ (c0, v)) K 0 0) : ∀ (r : Nat) (i : Int), i + r = v.2.2.1 → 0 ≤ i → XW s0 D p l e R s m args below meth c Q 127 [(0, .ref (s0.heap.size + 33)), (1, .int (zI i))] [] (sM s0.heap.size cI (a_up (a_up (a_up h 37 (iA cI 121 (zcpy v.2.1.1 L.1 0 0 i))) 38 (iA cI 121 (zcpy v.2.1.2.1 L.2.1 0 0 i))) 39 (iA cI 121 (zcpy v.2.1.2.2 L.2.2 0 0 i))) κ (c0, v)) K 0 0 := by
  intro r
  induction r with
  | zero =>
    intro i hi h0
    have hi : i = v.2.2.1 := by omega
    refine x_iload_n C d_Mo_pack_127 rfl ?_
    refine x_aload_n C d_Mo_pack_128 rfl ?_
    refine x_get C (G_Mo E.1) 26 (u_790 E.1) d_Mo_pack_129 (by decide) (by rfl) (show _ = some (.int (zI v.2.2.1)) from rfl) ?_
    refine x_icmp_ge C (tgt := 177) d_Mo_pack_132 (by decide) (by omega) (by omega) (by omega) (by omega) (fun c132 => ?_) (fun c132 => ?_)
    · refine XW.loc (lv' := [(0, .ref (s0.heap.size + 33))]) ⟨rfl, trivial⟩ ?_
      rw [hi]
      exact kk
    · exfalso; omega
  | succ r ih =>
    intro i hi h0
    refine x_iload_n C d_Mo_pack_127 rfl ?_
    refine x_aload_n C d_Mo_pack_128 rfl ?_
    refine x_get C (G_Mo E.1) 26 (u_790 E.1) d_Mo_pack_129 (by decide) (by rfl) (show _ = some (.int (zI v.2.2.1)) from rfl) ?_
    refine x_icmp_ge C (tgt := 177) d_Mo_pack_132 (by decide) (by omega) (by omega) (by omega) (by omega) (fun c132 => ?_) (fun c132 => ?_)
    · exfalso; omega
    · refine x_aload_n C d_Mo_pack_135 rfl ?_
      refine x_get C (G_Mo E.1) 10 (u_774 E.1) d_Mo_pack_136 (by decide) (by rfl) rfl ?_
      refine x_iload_n C d_Mo_pack_139 rfl ?_
      refine x_aload_n C d_Mo_pack_140 rfl ?_
      refine x_get C (G_Mo E.1) 27 (u_791 E.1) d_Mo_pack_141 (by decide) (by rfl) rfl ?_
      refine x_iload_n C d_Mo_pack_144 rfl ?_
      refine x_iald C d_Mo_pack_145 (show _ = some (iA cI 121 v.2.1.1) from rfl) (by omega) (by omega) (by omega) ?_
      refine x_iast C d_Mo_pack_146 (show _ = some (iA cI 121 (zcpy v.2.1.1 L.1 0 0 i)) from rfl) (by omega) (by omega) (by omega) ?_
      refine x_aload_n C d_Mo_pack_147 rfl ?_
      refine x_get C (G_Mo E.1) 11 (u_775 E.1) d_Mo_pack_148 (by decide) (by rfl) rfl ?_
      refine x_iload_n C d_Mo_pack_151 rfl ?_
      refine x_aload_n C d_Mo_pack_152 rfl ?_
      refine x_get C (G_Mo E.1) 28 (u_792 E.1) d_Mo_pack_153 (by decide) (by rfl) rfl ?_
      refine x_iload_n C d_Mo_pack_156 rfl ?_
      refine x_iald C d_Mo_pack_157 (show _ = some (iA cI 121 v.2.1.2.1) from rfl) (by omega) (by omega) (by omega) ?_
      refine x_iast C d_Mo_pack_158 (show _ = some (iA cI 121 (zcpy v.2.1.2.1 L.2.1 0 0 i)) from rfl) (by omega) (by omega) (by omega) ?_
      refine x_aload_n C d_Mo_pack_159 rfl ?_
      refine x_get C (G_Mo E.1) 12 (u_776 E.1) d_Mo_pack_160 (by decide) (by rfl) rfl ?_
      refine x_iload_n C d_Mo_pack_163 rfl ?_
      refine x_aload_n C d_Mo_pack_164 rfl ?_
      refine x_get C (G_Mo E.1) 29 (u_793 E.1) d_Mo_pack_165 (by decide) (by rfl) rfl ?_
      refine x_iload_n C d_Mo_pack_168 rfl ?_
      refine x_iald C d_Mo_pack_169 (show _ = some (iA cI 121 v.2.1.2.2) from rfl) (by omega) (by omega) (by omega) ?_
      refine x_iast C d_Mo_pack_170 (show _ = some (iA cI 121 (zcpy v.2.1.2.2 L.2.2 0 0 i)) from rfl) (by omega) (by omega) (by omega) ?_
      refine x_iinc C d_Mo_pack_171 (by decide) rfl ?_
      refine x_goto C (tgt := 127) d_Mo_pack_174 (by decide) ?_
      refine XW.heq (h' := sM s0.heap.size cI (a_up (a_up (a_up h 37 (iA cI 121 (zcpy v.2.1.1 L.1 0 0 (i + 1)))) 38 (iA cI 121 (zcpy v.2.1.2.1 L.2.1 0 0 (i + 1)))) 39 (iA cI 121 (zcpy v.2.1.2.2 L.2.2 0 0 (i + 1)))) κ (c0, v)) (by rw [← zcpy_up v.2.1.1 L.1 h0, ← zcpy_up v.2.1.2.1 L.2.1 h0, ← zcpy_up v.2.1.2.2 L.2.2 h0]; exact (sM_eq rfl rfl rfl rfl rfl rfl rfl rfl (fun q q1 q2 q3 q4 q5 q6 q7 q8 => by simp only [sM, a_up, beq_f q1, beq_f q2, beq_f q3, beq_f q4, beq_f q5, beq_f q6, beq_f q7, beq_f q8, cond_false]; cases Nat.beq q 37 <;> cases Nat.beq q 38 <;> cases Nat.beq q 39 <;> rfl))) ?_
      refine XW.loc (lv' := [(0, .ref (s0.heap.size + 33)), (1, .int (zI (i + 1)))]) ⟨rfl, rfl, trivial⟩ ?_
      exact ih (i + 1) (by omega) (by omega)
set_option maxRecDepth 100000 in
set_option maxHeartbeats 4000000 in
theorem l179_Mo_pack {a0 : Array Value} {s0 : State} {D : va_G} {cI cL : ClassId} (l : Launch) (E : a_E a0 s0 D cI cL) {p : Program} {e : Env} {R : Room} {s : State} {m : MethodId} {args : Array Value} {below : List Frame} {meth : Method} {c : Code} (C : XC s0 D cI cL p s m meth c "NarrowingPackerModel" prog_13_method_25_code 2 (some .int) []) {h : AH} {K : Nat} {κ : Kp} {v : Hs × T3 × Int × Cn4} {c0 : Cd} {Q : State → Prop} {kc : Int → Int} (kk : XW s0 D p l e R s m args below meth c Q 203 [(0, .ref (s0.heap.size + 33))] [] (sM s0.heap.size cI (a_up h 40 (iA cI 72 (zcpy (fun j => c0.2.2.1 (inv j)) kc 0 0 72))) κ (c0, v)) K 0 0) : ∀ (r : Nat) (i : Int), i + r = 72 → 0 ≤ i → XW s0 D p l e R s m args below meth c Q 179 [(0, .ref (s0.heap.size + 33)), (1, .int (zI i))] [] (sM s0.heap.size cI (a_up h 40 (iA cI 72 (zcpy (fun j => c0.2.2.1 (inv j)) kc 0 0 i))) κ (c0, v)) K 0 0 := by
  intro r
  induction r with
  | zero =>
    intro i hi h0
    have hi : i = 72 := by omega
    refine x_iload_n C d_Mo_pack_179 rfl ?_
    refine x_bipush C d_Mo_pack_180 (by decide) ?_
    refine x_icmp_ge C (tgt := 203) d_Mo_pack_182 (by decide) (by omega) (by omega) (by omega) (by omega) (fun c182 => ?_) (fun c182 => ?_)
    · refine XW.loc (lv' := [(0, .ref (s0.heap.size + 33))]) ⟨rfl, trivial⟩ ?_
      rw [hi]
      exact kk
    · exfalso; omega
  | succ r ih =>
    intro i hi h0
    refine x_iload_n C d_Mo_pack_179 rfl ?_
    refine x_bipush C d_Mo_pack_180 (by decide) ?_
    refine x_icmp_ge C (tgt := 203) d_Mo_pack_182 (by decide) (by omega) (by omega) (by omega) (by omega) (fun c182 => ?_) (fun c182 => ?_)
    · exfalso; omega
    · refine x_aload_n C d_Mo_pack_185 rfl ?_
      refine x_get C (G_Mo E.1) 13 (u_777 E.1) d_Mo_pack_186 (by decide) (by rfl) rfl ?_
      refine x_iload_n C d_Mo_pack_189 rfl ?_
      refine x_aload_n C d_Mo_pack_190 rfl ?_
      refine x_get C (G_Mo E.1) 16 (u_780 E.1) d_Mo_pack_191 (by decide) (by rfl) rfl ?_
      refine x_iload_n C d_Mo_pack_194 rfl ?_
      refine x_iald C d_Mo_pack_195 (show _ = some (iA cI 3948 (fun j => c0.2.2.1 (inv j))) from rfl) (by omega) (by omega) (by omega) ?_
      refine x_iast C d_Mo_pack_196 (show _ = some (iA cI 72 (zcpy (fun j => c0.2.2.1 (inv j)) kc 0 0 i)) from rfl) (by omega) (by omega) (by omega) ?_
      refine x_iinc C d_Mo_pack_197 (by decide) rfl ?_
      refine x_goto C (tgt := 179) d_Mo_pack_200 (by decide) ?_
      refine XW.heq (h' := sM s0.heap.size cI (a_up h 40 (iA cI 72 (zcpy (fun j => c0.2.2.1 (inv j)) kc 0 0 (i + 1)))) κ (c0, v)) (by rw [← zcpy_up (fun j => c0.2.2.1 (inv j)) kc h0]; exact (sM_eq rfl rfl rfl rfl rfl rfl rfl rfl (fun q q1 q2 q3 q4 q5 q6 q7 q8 => by simp only [sM, a_up, beq_f q1, beq_f q2, beq_f q3, beq_f q4, beq_f q5, beq_f q6, beq_f q7, beq_f q8, cond_false]; cases Nat.beq q 40 <;> rfl))) ?_
      refine XW.loc (lv' := [(0, .ref (s0.heap.size + 33)), (1, .int (zI (i + 1)))]) ⟨rfl, rfl, trivial⟩ ?_
      exact ih (i + 1) (by omega) (by omega)
set_option maxRecDepth 100000 in
set_option maxHeartbeats 4000000 in
theorem t177_Mo_pack {a0 : Array Value} {s0 : State} {D : va_G} {cI cL : ClassId} (l : Launch) (E : a_E a0 s0 D cI cL) {p : Program} {e : Env} {R : Room} {s : State} {m : MethodId} {args : Array Value} {below : List Frame} {meth : Method} {c : Code} (C : XC s0 D cI cL p s m meth c "NarrowingPackerModel" prog_13_method_25_code 2 (some .int) []) {h : AH} {K : Nat} {κ : Kp} {v : Hs × T3 × Int × Cn4} {c0 : Cd} {Q : State → Prop} {kc : Int → Int} (h40 : h 40 = some (iA cI 72 kc)) (kk : XW s0 D p l e R s m args below meth c Q 203 [(0, .ref (s0.heap.size + 33))] [] (sM s0.heap.size cI (a_up h 40 (iA cI 72 (zcpy (fun j => c0.2.2.1 (inv j)) kc 0 0 72))) κ (c0, v)) K 0 0) : XW s0 D p l e R s m args below meth c Q 177 [(0, .ref (s0.heap.size + 33))] [] (sM s0.heap.size cI h κ (c0, v)) K 0 0 := by
  refine x_iconst C d_Mo_pack_177 ?_
  refine x_istore_n C d_Mo_pack_178 (by decide) ?_
  refine XW.heq (h' := sM s0.heap.size cI (a_up h 40 (iA cI 72 (zcpy (fun j => c0.2.2.1 (inv j)) kc 0 0 0))) κ (c0, v)) (by rw [zcpy_0, a_up_id h40]) ?_
  refine XW.loc (lv' := [(0, .ref (s0.heap.size + 33)), (1, .int (zI 0))]) ⟨rfl, rfl, trivial⟩ ?_
  exact l179_Mo_pack l E C kk 72 0 (by decide) (by decide)
set_option maxRecDepth 100000 in
set_option maxHeartbeats 4000000 in
theorem t117_Mo_pack {a0 : Array Value} {s0 : State} {D : va_G} {cI cL : ClassId} (l : Launch) (E : a_E a0 s0 D cI cL) {p : Program} {e : Env} {R : Room} {s : State} {m : MethodId} {args : Array Value} {below : List Frame} {meth : Method} {c : Code} (C : XC s0 D cI cL p s m meth c "NarrowingPackerModel" prog_13_method_25_code 2 (some .int) []) {h : AH} {K : Nat} {κ : Kp} {v : Hs × T3 × Int × Cn4} {c0 : Cd} {Q : State → Prop} {L : T3} (h37 : h 37 = some (iA cI 121 L.1)) (h38 : h 38 = some (iA cI 121 L.2.1)) (h39 : h 39 = some (iA cI 121 L.2.2)) (m1 : 0 ≤ v.2.2.1) (m2 : v.2.2.1 ≤ 120) (kk : XW s0 D p l e R s m args below meth c Q 177 [(0, .ref (s0.heap.size + 33))] [] (sM s0.heap.size cI (a_up (a_up (a_up h 37 (iA cI 121 (zcpy v.2.1.1 L.1 0 0 v.2.2.1))) 38 (iA cI 121 (zcpy v.2.1.2.1 L.2.1 0 0 v.2.2.1))) 39 (iA cI 121 (zcpy v.2.1.2.2 L.2.2 0 0 v.2.2.1))) ((κ.1, κ.2.1, κ.2.2.1, κ.2.2.2.1, κ.2.2.2.2.1, κ.2.2.2.2.2.1, v.2.2.1) : Kp) (c0, v)) K 0 0) : XW s0 D p l e R s m args below meth c Q 117 [(0, .ref (s0.heap.size + 33))] [] (sM s0.heap.size cI h κ (c0, v)) K 0 0 := by
  refine x_aload_n C d_Mo_pack_117 rfl ?_
  refine x_aload_n C d_Mo_pack_118 rfl ?_
  refine x_get C (G_Mo E.1) 26 (u_790 E.1) d_Mo_pack_119 (by decide) (by rfl) (show _ = some (.int (zI v.2.2.1)) from rfl) ?_
  refine x_put C (G_Mo E.1) 9 (u_773 E.1) d_Mo_pack_122 (by decide) rfl (by rfl) rfl rfl (nle rfl) ?_
  refine x_iconst C d_Mo_pack_125 ?_
  refine x_istore_n C d_Mo_pack_126 (by decide) ?_
  refine XW.heq (h' := sM s0.heap.size cI (a_up (a_up (a_up h 37 (iA cI 121 (zcpy v.2.1.1 L.1 0 0 0))) 38 (iA cI 121 (zcpy v.2.1.2.1 L.2.1 0 0 0))) 39 (iA cI 121 (zcpy v.2.1.2.2 L.2.2 0 0 0))) ((κ.1, κ.2.1, κ.2.2.1, κ.2.2.2.1, κ.2.2.2.2.1, κ.2.2.2.2.2.1, v.2.2.1) : Kp) (c0, v)) (by
    rw [zcpy_0, zcpy_0, zcpy_0, a_up_id h37, a_up_id h38, a_up_id h39]
    exact (sM_eq rfl rfl rfl rfl rfl rfl rfl rfl (fun q q1 q2 q3 q4 q5 q6 q7 q8 => by simp only [sM, a_up, beq_f q1, beq_f q2, beq_f q3, beq_f q4, beq_f q5, beq_f q6, beq_f q7, beq_f q8, cond_false]))) ?_
  refine XW.loc (lv' := [(0, .ref (s0.heap.size + 33)), (1, .int (zI 0))]) ⟨rfl, rfl, trivial⟩ ?_
  exact l127_Mo_pack l E C m1 m2 kk v.2.2.1.toNat 0 (by omega) (by decide)
set_option maxRecDepth 100000 in
set_option maxHeartbeats 4000000 in
theorem t76_Mo_pack {a0 : Array Value} {s0 : State} {D : va_G} {cI cL : ClassId} (l : Launch) (E : a_E a0 s0 D cI cL) {p : Program} {e : Env} {R : Room} {s : State} {m : MethodId} {args : Array Value} {below : List Frame} {meth : Method} {c : Code} (C : XC s0 D cI cL p s m meth c "NarrowingPackerModel" prog_13_method_25_code 2 (some .int) []) {h : AH} {K : Nat} {κ : Kp} {v : Hs × T3 × Int × Cn4} {c0 : Cd} {Q : State → Prop} {P : Int → Int} (h35 : h 35 = some (iA cI 200 P)) (z1 : 0 ≤ c0.2.2.2.2.1) (z2 : c0.2.2.2.2.1 ≤ 200) (kk : XW s0 D p l e R s m args below meth c Q 117 [(0, .ref (s0.heap.size + 33))] [] (sM s0.heap.size cI (a_up h 35 (iA cI 200 (zcpy c0.2.2.2.2.2.1 P 0 0 c0.2.2.2.2.1))) ((κ.1, κ.2.1, κ.2.2.1, c0.2.2.2.2.1, κ.2.2.2.2.1, 1, κ.2.2.2.2.2.2) : Kp) (c0, v)) K 0 0) : XW s0 D p l e R s m args below meth c Q 76 [(0, .ref (s0.heap.size + 33))] [] (sM s0.heap.size cI h κ (c0, v)) K 0 0 := by
  refine x_aload_n C d_Mo_pack_76 rfl ?_
  refine x_iconst C d_Mo_pack_77 ?_
  refine x_put C (G_Mo E.1) 8 (u_772 E.1) d_Mo_pack_78 (by decide) rfl (by rfl) rfl rfl (nle rfl) ?_
  refine x_aload_n C d_Mo_pack_81 rfl ?_
  refine x_aload_n C d_Mo_pack_82 rfl ?_
  refine x_get C (G_Mo E.1) 18 (u_782 E.1) d_Mo_pack_83 (by decide) (by rfl) (show _ = some (.int (zI c0.2.2.2.2.1)) from rfl) ?_
  refine x_put C (G_Mo E.1) 4 (u_768 E.1) d_Mo_pack_86 (by decide) rfl (by rfl) rfl rfl (nle rfl) ?_
  refine x_iconst C d_Mo_pack_89 ?_
  refine x_istore_n C d_Mo_pack_90 (by decide) ?_
  refine XW.heq (h' := sM s0.heap.size cI (a_up h 35 (iA cI 200 (zcpy c0.2.2.2.2.2.1 P 0 0 0))) ((κ.1, κ.2.1, κ.2.2.1, c0.2.2.2.2.1, κ.2.2.2.2.1, 1, κ.2.2.2.2.2.2) : Kp) (c0, v)) (by
    rw [zcpy_0, a_up_id h35]
    exact (sM_eq rfl rfl rfl rfl rfl rfl rfl rfl (fun q q1 q2 q3 q4 q5 q6 q7 q8 => by simp only [sM, a_up, beq_f q1, beq_f q2, beq_f q3, beq_f q4, beq_f q5, beq_f q6, beq_f q7, beq_f q8, cond_false]))) ?_
  refine XW.loc (lv' := [(0, .ref (s0.heap.size + 33)), (1, .int (zI 0))]) ⟨rfl, rfl, trivial⟩ ?_
  exact l91_Mo_pack l E C (κ := ((κ.1, κ.2.1, κ.2.2.1, c0.2.2.2.2.1, κ.2.2.2.2.1, 1, κ.2.2.2.2.2.2) : Kp)) z1 z2 kk c0.2.2.2.2.1.toNat 0 (by show (0 : Int) + (c0.2.2.2.2.1.toNat : Nat) = c0.2.2.2.2.1; omega) (by decide)
set_option maxRecDepth 100000 in
set_option maxHeartbeats 4000000 in
theorem t48_Mo_pack {a0 : Array Value} {s0 : State} {D : va_G} {cI cL : ClassId} (l : Launch) (E : a_E a0 s0 D cI cL) {p : Program} {e : Env} {R : Room} {s : State} {m : MethodId} {args : Array Value} {below : List Frame} {meth : Method} {c : Code} (C : XC s0 D cI cL p s m meth c "NarrowingPackerModel" prog_13_method_25_code 2 (some .int) []) (hR : R = a_rm 6 0 0) {h : AH} {K : Nat} {κ : Kp} {v : Hs × T3 × Int × Cn4} {c0 : Cd} {P kc : Int → Int} {L : T3} (h35 : h 35 = some (iA cI 200 P)) (h37 : h 37 = some (iA cI 121 L.1)) (h38 : h 38 = some (iA cI 121 L.2.1)) (h39 : h 39 = some (iA cI 121 L.2.2)) (h40 : h 40 = some (iA cI 72 kc)) (l1 : 0 ≤ c0.2.2.2.2.1) (l2 : c0.2.2.2.2.1 ≤ 1600) (m1 : 0 ≤ v.2.2.1) (m2 : v.2.2.1 ≤ 120) : XW s0 D p l e R s m args below meth c (XQ s0 D 0 0 (fun o h' K' => K' = K ∧ ((c0.2.2.2.2.1 ≤ 200 ∧ o = .inl (some (.int (zI c0.2.2.2.2.1))) ∧ h' = sM s0.heap.size cI (a_up (a_up (a_up (a_up (a_up h 35 (iA cI 200 (zcpy c0.2.2.2.2.2.1 P 0 0 c0.2.2.2.2.1))) 37 (iA cI 121 (zcpy v.2.1.1 L.1 0 0 v.2.2.1))) 38 (iA cI 121 (zcpy v.2.1.2.1 L.2.1 0 0 v.2.2.1))) 39 (iA cI 121 (zcpy v.2.1.2.2 L.2.2 0 0 v.2.2.1))) 40 (iA cI 72 (zcpy (fun j => c0.2.2.1 (inv j)) kc 0 0 72))) ((0, κ.2.1, κ.2.2.1, c0.2.2.2.2.1, κ.2.2.2.2.1, 1, v.2.2.1) : Kp) (c0, v)) ∨ (200 < c0.2.2.2.2.1 ∧ o = .inl (some (.int (zI 0))) ∧ h' = sM s0.heap.size cI h ((1, κ.2) : Kp) (c0, v)))) below s) 48 [(0, .ref (s0.heap.size + 33))] [] (sM s0.heap.size cI h κ (c0, v)) K 0 0 := by
  subst hR
  by_cases hl : c0.2.2.2.2.1 ≤ 200
  · refine x_aload_n C d_Mo_pack_48 rfl ?_
    refine x_aload_n C d_Mo_pack_49 rfl ?_
    refine x_get C (G_Mo E.1) 18 (u_782 E.1) d_Mo_pack_50 (by decide) (by rfl) (show _ = some (.int (zI c0.2.2.2.2.1)) from rfl) ?_
    refine x_sipush C d_Mo_pack_53 (by decide) ?_
    refine x_icmp_le C (tgt := 63) d_Mo_pack_56 (by decide) (by omega) (by omega) (by omega) (by omega) (fun c56 => ?_) (fun c56 => ?_)
    · refine x_iconst C d_Mo_pack_63 ?_
      refine x_put C (G_Mo E.1) 0 (u_764 E.1) d_Mo_pack_64 (by decide) rfl (by rfl) rfl rfl (nle rfl) ?_
      refine x_aload_n C d_Mo_pack_67 rfl ?_
      refine x_get C (G_Mo E.1) 0 (u_764 E.1) d_Mo_pack_68 (by decide) (by rfl) (show _ = some (.int (zI 0)) from rfl) ?_
      refine x_if_le C (tgt := 76) d_Mo_pack_71 (by decide) (by omega) (by omega) (fun c71 => ?_) (fun c71 => ?_)
      · refine XW.heq (h' := sM s0.heap.size cI h ((0, κ.2) : Kp) (c0, v)) (sM_eq rfl rfl rfl rfl rfl rfl rfl rfl (fun q q1 q2 q3 q4 q5 q6 q7 q8 => by simp only [sM, a_up, beq_f q1, beq_f q2, beq_f q3, beq_f q4, beq_f q5, beq_f q6, beq_f q7, beq_f q8, cond_false])) ?_
        refine t76_Mo_pack l E C h35 l1 hl ?_
        refine t117_Mo_pack l E C (L := L) (by exact h37) (by exact h38) (by exact h39) m1 m2 ?_
        refine t177_Mo_pack l E C (kc := kc) (by exact h40) ?_
        refine x_aload_n C d_Mo_pack_203 rfl ?_
        refine x_get C (G_Mo E.1) 4 (u_768 E.1) d_Mo_pack_204 (by decide) (by rfl) (show _ = some (.int (zI c0.2.2.2.2.1)) from rfl) ?_
        exact x_iret C d_Mo_pack_207 (nle rfl) (nle rfl) ⟨rfl, Or.inl ⟨hl, rfl, rfl⟩⟩
      · exfalso; omega
    · exfalso; omega
  · refine x_aload_n C d_Mo_pack_48 rfl ?_
    refine x_aload_n C d_Mo_pack_49 rfl ?_
    refine x_get C (G_Mo E.1) 18 (u_782 E.1) d_Mo_pack_50 (by decide) (by rfl) (show _ = some (.int (zI c0.2.2.2.2.1)) from rfl) ?_
    refine x_sipush C d_Mo_pack_53 (by decide) ?_
    refine x_icmp_le C (tgt := 63) d_Mo_pack_56 (by decide) (by omega) (by omega) (by omega) (by omega) (fun c56 => ?_) (fun c56 => ?_)
    · exfalso; omega
    · refine x_iconst C d_Mo_pack_59 ?_
      refine x_goto C (tgt := 64) d_Mo_pack_60 (by decide) ?_
      refine x_put C (G_Mo E.1) 0 (u_764 E.1) d_Mo_pack_64 (by decide) rfl (by rfl) rfl rfl (nle rfl) ?_
      refine x_aload_n C d_Mo_pack_67 rfl ?_
      refine x_get C (G_Mo E.1) 0 (u_764 E.1) d_Mo_pack_68 (by decide) (by rfl) (show _ = some (.int (zI 1)) from rfl) ?_
      refine x_if_le C (tgt := 76) d_Mo_pack_71 (by decide) (by omega) (by omega) (fun c71 => ?_) (fun c71 => ?_)
      · exfalso; omega
      · refine x_iconst C d_Mo_pack_74 ?_
        exact x_iret C d_Mo_pack_75 (nle rfl) (nle rfl) ⟨rfl, Or.inr ⟨by omega, rfl, (sM_eq rfl rfl rfl rfl rfl rfl rfl rfl (fun q q1 q2 q3 q4 q5 q6 q7 q8 => by simp only [sM, a_up, beq_f q1, beq_f q2, beq_f q3, beq_f q4, beq_f q5, beq_f q6, beq_f q7, beq_f q8, cond_false]))⟩⟩
def tag (T T' : T3) (n : Int) : Prop := ∀ i, 0 ≤ i → i < n → T.1 i = T'.1 i ∧ T.2.1 i = T'.2.1 i ∧ T.2.2 i = T'.2.2 i
theorem tag_up {T T' : T3} {n : Int} (h : tag T T' n) (a b c : Int) : tag (zup T.1 n a, zup T.2.1 n b, zup T.2.2 n c) (zup T'.1 n a, zup T'.2.1 n b, zup T'.2.2 n c) (n + 1) := by
  intro i i0 i1
  show zup T.1 n a i = zup T'.1 n a i ∧ zup T.2.1 n b i = zup T'.2.1 n b i ∧ zup T.2.2 n c i = zup T'.2.2 n c i
  unfold zup
  by_cases e : i = n
  · rw [if_pos e, if_pos e, if_pos e, if_pos e, if_pos e, if_pos e]; exact ⟨rfl, rfl, rfl⟩
  · rw [if_neg e, if_neg e, if_neg e, if_neg e, if_neg e, if_neg e]; exact h i i0 (by omega)
set_option maxRecDepth 100000 in
set_option maxHeartbeats 4000000 in
theorem l5_Mo_pack {a0 : Array Value} {s0 : State} {D : va_G} {cI cL : ClassId} (l : Launch) (E : a_E a0 s0 D cI cL) {p : Program} {e : Env} {R : Room} {s : State} {m : MethodId} {args : Array Value} {below : List Frame} {meth : Method} {c : Code} (C : XC s0 D cI cL p s m meth c "NarrowingPackerModel" prog_13_method_25_code 2 (some .int) []) (hR : R = a_rm 6 0 0) {h : AH} {K : Nat} {κ : Kp} {P : Int → Int} (h35 : h 35 = some (iA cI 200 P)) (hp : ∀ j, 0 ≤ P j ∧ P j < 256) (z1 : 0 ≤ κ.2.2.2.1) (z2 : κ.2.2.2.1 ≤ 200) {src : Int → Int} (h34 : h 34 = some (iA cI 120 src)) (hs : ∀ q, 0 ≤ src q ∧ src q < 256) (n1 : 0 ≤ κ.2.2.1) (n2 : κ.2.2.1 ≤ 120) (c1 : 1 ≤ κ.2.1) (c2 : κ.2.1 ≤ 16) {Q : State → Prop} {W : Pw} (kk : ∀ (c' : Cd) (T' : T3) (w' : Cn4), tieP W.1 c' → tag T' W.2.2.1 W.2.2.2 → 0 ≤ w'.2.2.2 → w'.2.2.2 ≤ 3 → XW s0 D p l e R s m args below meth c Q 28 [(0, .ref (s0.heap.size + 33))] [] (sM s0.heap.size cI h κ (c', (W.2.1, T', W.2.2.2, w'))) K 0 0) : ∀ (r : Nat) (w : Pw) (c0 : Cd) (T : T3) (w4 : Cn4), wOk κ.2.2.1 w → κ.2.2.1 ≤ w.2.1.2.1 + r → tieP w.1 c0 → tag T w.2.2.1 w.2.2.2 → 0 ≤ w4.2.2.2 → w4.2.2.2 ≤ 3 → packLoop κ.2.1 src κ.2.2.1 r w = W → XW s0 D p l e R s m args below meth c Q 5 [(0, .ref (s0.heap.size + 33))] [] (sM s0.heap.size cI h κ (c0, (w.2.1, T, w.2.2.2, w4))) K 0 0 := by
  subst hR
  intro r
  induction r with
  | zero =>
    intro w c0 T w4 wk hr ht hT y1 y2 hW
    have hn := wk.2.1.2.1
    have hW : w = W := hW
    refine x_aload_n C d_Mo_pack_5 rfl ?_
    refine x_get C (G_Mo E.1) 22 (u_786 E.1) d_Mo_pack_6 (by decide) (by rfl) (show _ = some (.int (zI w.2.1.2.1)) from rfl) ?_
    refine x_aload_n C d_Mo_pack_9 rfl ?_
    refine x_get C (G_Mo E.1) 2 (u_766 E.1) d_Mo_pack_10 (by decide) (by rfl) (show _ = some (.int (zI κ.2.2.1)) from rfl) ?_
    refine x_icmp_ge C (tgt := 28) d_Mo_pack_13 (by decide) (by omega) (by omega) (by omega) (by omega) (fun c13 => ?_) (fun c13 => ?_)
    · subst hW
      exact kk c0 T w4 ht hT y1 y2
    · exfalso; omega
  | succ r ih =>
    intro w c0 T w4 wk hr ht hT y1 y2 hW
    have hn := wk.2.1.2.1
    unfold packLoop at hW
    refine x_aload_n C d_Mo_pack_5 rfl ?_
    refine x_get C (G_Mo E.1) 22 (u_786 E.1) d_Mo_pack_6 (by decide) (by rfl) (show _ = some (.int (zI w.2.1.2.1)) from rfl) ?_
    refine x_aload_n C d_Mo_pack_9 rfl ?_
    refine x_get C (G_Mo E.1) 2 (u_766 E.1) d_Mo_pack_10 (by decide) (by rfl) (show _ = some (.int (zI κ.2.2.1)) from rfl) ?_
    refine x_icmp_ge C (tgt := 28) d_Mo_pack_13 (by decide) (by omega) (by omega) (by omega) (by omega) (fun c13 => ?_) (fun c13 => ?_)
    · rw [if_neg (by omega)] at hW
      subst hW
      exact kk c0 T w4 ht hT y1 y2
    · rw [if_pos (by omega)] at hW
      have hlt : w.2.1.2.1 < κ.2.2.1 := by omega
      have hcb := ch_b (cc := κ.2.1) hs wk.2.1 hlt n2
      obtain ⟨c2', e2, t2⟩ := tP_pkt (pk := P) (sz := κ.2.2.2.1) ht (cc := κ.2.1) hs wk.2.1 hlt n2 (T := T) (cnt := w.2.2.2)
      have hbt := tP_bit (pk := P) (sz := κ.2.2.2.1) ht w.2.1.2.2.2 (ne0_b (chW κ.2.1 src κ.2.2.1 w.2.1).1)
      have wk2 := packStep_ok (cc := κ.2.1) hs n2 wk hlt
      have hgr : w.2.1.2.1 + 1 ≤ (packStep κ.2.1 src κ.2.2.1 w).2.1.2.1 := ch_grow hs wk.2.1 hlt n2
      refine x_aload_n C d_Mo_pack_16 rfl ?_
      refine x_callVR C (G_Mo E.1) (u_891 E.1) (u_893 E.1) (us_24 E.1) (u_894 E.1) (u_13 E.1) d_Mo_pack_17 (c_Mo_choose l E (v := (w.2.1, T, w.2.2.2, w4)) h34 hs wk.2.1 hlt n2 c1 c2) nh_Mo_choose ln_Mo_choose rfl rfl (nle rfl) (nle rfl) (nle rfl) (nle rfl) (nle rfl) ?_
      refine XW.heq (h' := sM s0.heap.size cI h κ (c0, (w.2.1, T, w.2.2.2, (chW κ.2.1 src κ.2.2.1 w.2.1)))) rfl ?_
      refine x_aload_n C d_Mo_pack_20 rfl ?_
      refine x_callVR C (G_Mo E.1) (u_899 E.1) (u_901 E.1) (us_26 E.1) (u_902 E.1) (u_13 E.1) d_Mo_pack_21 (c_Mo_packet0 l E (v := (w.2.1, T, w.2.2.2, (chW κ.2.1 src κ.2.2.1 w.2.1))) h35 (fun _ _ _ => rfl) hp z1 z2 wk.2.1 (by exact wk.2.2.2.1) (by have := wk.2.2.2.2.1; show w.2.2.2 ≤ 120; omega) hcb.1.1 hcb.1.2 hcb.2.1.1 hcb.2.1.2 hcb.2.2.1.1 hcb.2.2.1.2 hcb.2.2.2.1.1 hcb.2.2.2.1.2 (fun hne => by rcases hcb.2.2.2.2 with e0 | e0; exact absurd (hbt.1.trans (if_pos e0)) hne; exact e0) (ht.ok (by have := wk.2.2.2.2.2; omega))) nh_Mo_packet0 ln_Mo_packet0 rfl rfl (nle rfl) (nle rfl) (nle rfl) (nle rfl) (nle rfl) ?_
      refine x_pop C d_Mo_pack_24 rfl ?_
      refine x_goto C (tgt := 5) d_Mo_pack_25 (by decide) ?_
      refine XW.loc (lv' := [(0, .ref (s0.heap.size + 33))]) ⟨rfl, trivial⟩ ?_
      refine XW.heq (h' := sM s0.heap.size cI h κ (c2', ((packStep κ.2.1 src κ.2.2.1 w).2.1, (zup T.1 w.2.2.2 (chooseZ κ.2.1 src κ.2.2.1 w.2.1).1, zup T.2.1 w.2.2.2 (chooseZ κ.2.1 src κ.2.2.1 w.2.1).2.1, zup T.2.2 w.2.2.2 (pkVal (chooseZ κ.2.1 src κ.2.2.1 w.2.1))), (packStep κ.2.1 src κ.2.2.1 w).2.2.2, (chW κ.2.1 src κ.2.2.1 w.2.1)))) (by rw [e2]; rfl) ?_
      exact ih (packStep κ.2.1 src κ.2.2.1 w) _ _ _ wk2 (by omega) t2 (tag_up hT _ _ _) hcb.2.2.2.1.1 hcb.2.2.2.1.2 hW
theorem t4_ok {G : Int → Int} (hG : ∀ i, 0 ≤ G i ∧ G i < 256) {cd nx : Int} : tieP en0 ((1, 0, fun _ => 1024, 4294967295, 4, zup (zup (zup (zup G 0 0) 1 0) 2 0) 3 0, cd, nx) : Cd) := by
  refine ⟨en0_ok, rfl, rfl, rfl, rfl, rfl, ?_, ?_⟩
  · exact zup_all (Q := fun z => 0 ≤ z ∧ z < 256) (zup_all (Q := fun z => 0 ≤ z ∧ z < 256) (zup_all (Q := fun z => 0 ≤ z ∧ z < 256) (zup_all (Q := fun z => 0 ≤ z ∧ z < 256) hG (by omega)) (by omega)) (by omega)) (by omega)
  · intro _ i i0 i1
    have i1 : i < 4 := i1
    show zup (zup (zup (zup G 0 0) 1 0) 2 0) 3 0 i = 0
    unfold zup
    show (if i = 3 then 0 else if i = 2 then 0 else if i = 1 then 0 else if i = 0 then 0 else G i) = 0
    repeat' split
    all_goals omega
set_option maxRecDepth 100000 in
set_option maxHeartbeats 4000000 in
theorem t28_Mo_pack {a0 : Array Value} {s0 : State} {D : va_G} {cI cL : ClassId} (l : Launch) (E : a_E a0 s0 D cI cL) {p : Program} {e : Env} {R : Room} {s : State} {m : MethodId} {args : Array Value} {below : List Frame} {meth : Method} {c : Code} (C : XC s0 D cI cL p s m meth c "NarrowingPackerModel" prog_13_method_25_code 2 (some .int) []) (hR : R = a_rm 6 0 0) {h : AH} {K : Nat} {κ : Kp} {P : Int → Int} (h35 : h 35 = some (iA cI 200 P)) (hp : ∀ j, 0 ≤ P j ∧ P j < 256) (z1 : 0 ≤ κ.2.2.2.1) (z2 : κ.2.2.2.1 ≤ 200) {src : Int → Int} (h34 : h 34 = some (iA cI 120 src)) (hs : ∀ q, 0 ≤ src q ∧ src q < 256) (n1 : 0 ≤ κ.2.2.1) (n2 : κ.2.2.1 ≤ 120) (c1 : 1 ≤ κ.2.1) (c2 : κ.2.1 ≤ 16) {kc : Int → Int} {L : T3} (h37 : h 37 = some (iA cI 121 L.1)) (h38 : h 38 = some (iA cI 121 L.2.1)) (h39 : h 39 = some (iA cI 121 L.2.2)) (h40 : h 40 = some (iA cI 72 kc)) {W : Pw} (wk : wOk κ.2.2.1 W) {X : En} (hX : ePkt W.2.1 (4, 0, 0, 0, 0) W.1 = X) (c1' : Cd) (T1 : T3) (w1 : Cn4) (ht1 : tieP W.1 c1') (hT1 : tag T1 W.2.2.1 W.2.2.2) (x1 : 0 ≤ w1.2.2.2) (x2 : w1.2.2.2 ≤ 3) : XW s0 D p l e R s m args below meth c (XQ s0 D 0 0 (fun o h' K' => K' = K ∧ ∃ (c' : Cd) (T' : T3) (wh : Int), (∀ i, 0 ≤ c'.2.2.2.2.2.1 i ∧ c'.2.2.2.2.2.1 i < 256) ∧ 0 ≤ wh ∧ wh ≤ 3 ∧ ((X.2.2.1 ≤ 200 ∧ o = .inl (some (.int (zI X.2.2.1))) ∧ ∃ L', tag L' W.2.2.1 W.2.2.2 ∧ h' = sM s0.heap.size cI (a_up (a_up (a_up (a_up (a_up h 35 (iA cI 200 (zcpy X.2.1 P 0 0 X.2.2.1))) 37 (iA cI 121 L'.1)) 38 (iA cI 121 L'.2.1)) 39 (iA cI 121 L'.2.2)) 40 (iA cI 72 (zcpy X.1 kc 0 0 72))) ((0, κ.2.1, κ.2.2.1, X.2.2.1, κ.2.2.2.2.1, 1, W.2.2.2) : Kp) (c', (W.2.1, T', W.2.2.2, (1, 2, 0, wh)))) ∨ (200 < X.2.2.1 ∧ o = .inl (some (.int (zI 0))) ∧ h' = sM s0.heap.size cI (h) ((1, κ.2) : Kp) (c', (W.2.1, T', W.2.2.2, (1, 2, 0, wh)))))) below s) 28 [(0, .ref (s0.heap.size + 33))] [] (sM s0.heap.size cI h κ (c1', (W.2.1, T1, W.2.2.2, w1))) K 0 0 := by
  have hn := wk.2.1.2.1
  obtain ⟨c2', e2, t2⟩ := tP_p4 (pk := P) (sz := κ.2.2.2.1) ht1 (t := W.2.1) (T := T1) (cnt := W.2.2.2) (w := w1.2.2.2)
  rw [hX] at t2
  have hw4 := wk.2.2.2.2
  have hlen : 4 ≤ X.2.2.1 := t2.1.2.2.2.1
  have hlen2 : X.2.2.1 ≤ 1600 := by
    have := (eOk_pkt ht1.1 W.2.1 (4, 0, 0, 0, 0)).2
    rw [hX] at this
    omega
  have e5 := t2.2.2.2.2.2.1
  have t48 := t48_Mo_pack l E C hR (h := h) (K := K) (κ := κ) (v := (W.2.1, T1, W.2.2.2, (1, 2, 0, w1.2.2.2))) (c0 := c2') h35 h37 h38 h39 h40 (by omega) (by omega) (by exact wk.2.2.2.1) (by show W.2.2.2 ≤ 120; omega) (e := e) (args := args) (below := below)
  subst hR
  refine x_aload_n C d_Mo_pack_28 rfl ?_
  refine x_iconst C d_Mo_pack_29 ?_
  refine x_put C (G_Mo E.1) 30 (u_794 E.1) d_Mo_pack_30 (by decide) rfl (by rfl) rfl rfl (nle rfl) ?_
  refine x_aload_n C d_Mo_pack_33 rfl ?_
  refine x_iconst C d_Mo_pack_34 ?_
  refine x_put C (G_Mo E.1) 31 (u_795 E.1) d_Mo_pack_35 (by decide) rfl (by rfl) rfl rfl (nle rfl) ?_
  refine x_aload_n C d_Mo_pack_38 rfl ?_
  refine x_iconst C d_Mo_pack_39 ?_
  refine x_put C (G_Mo E.1) 32 (u_796 E.1) d_Mo_pack_40 (by decide) rfl (by rfl) rfl rfl (nle rfl) ?_
  refine x_aload_n C d_Mo_pack_43 rfl ?_
  refine XW.heq (h' := sM s0.heap.size cI h κ (c1', (W.2.1, T1, W.2.2.2, (1, 2, 0, w1.2.2.2)))) (sM_eq rfl rfl rfl rfl rfl rfl rfl rfl (fun q q1 q2 q3 q4 q5 q6 q7 q8 => by simp only [sM, a_up, beq_f q1, beq_f q2, beq_f q3, beq_f q4, beq_f q5, beq_f q6, beq_f q7, beq_f q8, cond_false])) ?_
  refine x_callVR C (G_Mo E.1) (u_899 E.1) (u_901 E.1) (us_26 E.1) (u_902 E.1) (u_13 E.1) d_Mo_pack_44 (c_Mo_packet0 l E (v := (W.2.1, T1, W.2.2.2, (1, 2, 0, w1.2.2.2))) h35 (fun _ _ _ => rfl) hp z1 z2 wk.2.1 (by exact wk.2.2.2.1) (by have := wk.2.2.2.2.1; show W.2.2.2 ≤ 120; omega) (by show (0 : Int) ≤ 1; decide) (by show (1 : Int) ≤ 3; decide) (by show (0 : Int) ≤ 2; decide) (by show (2 : Int) ≤ 200; decide) (by show (0 : Int) ≤ 0; decide) (by show (0 : Int) ≤ 255; decide) x1 x2 (fun _ => by show (0 : Int) ≤ 128; decide) (ht1.ok (by have := wk.2.2.2.2.2; omega))) nh_Mo_packet0 ln_Mo_packet0 rfl rfl (nle rfl) (nle rfl) (nle rfl) (nle rfl) (nle rfl) ?_
  refine XW.heq (h' := sM s0.heap.size cI h κ (c2', (W.2.1, T1, W.2.2.2, (1, 2, 0, w1.2.2.2)))) (by rw [e2]) ?_
  refine x_pop C d_Mo_pack_47 rfl ?_
  refine XW.mono ?_ t48
  intro t hq
  refine XQ.mono ?_ hq
  intro o h' K' q
  obtain ⟨qK, q⟩ := q
  rw [e5] at q
  refine ⟨qK, c2', T1, w1.2.2.2, t2.2.2.2.2.2.2.1, x1, x2, ?_⟩
  rcases q with ⟨qa, qb, qc⟩ | ⟨qa, qb, qc⟩
  · refine Or.inl ⟨qa, qb, (zcpy T1.1 L.1 0 0 W.2.2.2, zcpy T1.2.1 L.2.1 0 0 W.2.2.2, zcpy T1.2.2 L.2.2 0 0 W.2.2.2), ?_, ?_⟩
    · intro i i0 i1
      have := hT1 i i0 i1
      show zcpy T1.1 L.1 0 0 W.2.2.2 i = _ ∧ zcpy T1.2.1 L.2.1 0 0 W.2.2.2 i = _ ∧ zcpy T1.2.2 L.2.2 0 0 W.2.2.2 i = _
      unfold zcpy
      rw [if_pos (by omega), if_pos (by omega), if_pos (by omega), show 0 + (i - 0) = i by omega]
      exact this
    · rw [qc]
      have ea : zcpy c2'.2.2.2.2.2.1 P 0 0 X.2.2.1 = zcpy X.2.1 P 0 0 X.2.2.1 := zcpy_ag P (t2.2.2.2.2.2.2.2 qa)
      have eb : zcpy (fun j => c2'.2.2.1 (inv j)) kc 0 0 72 = zcpy X.1 kc 0 0 72 := zcpy_ag kc (fun i i0 i1 => by show c2'.2.2.1 (inv i) = X.1 i; rw [inv_low i1, t2.2.2.2.1])
      rw [ea, eb]
  · exact Or.inr ⟨qa, qb, qc⟩
set_option maxRecDepth 100000 in
set_option maxHeartbeats 4000000 in
theorem c_Mo_pack {a0 : Array Value} {s0 : State} {D : va_G} {cI cL : ClassId} (l : Launch) (E : a_E a0 s0 D cI cL) {h : AH} {K : Nat} {κ : Kp} {P : Int → Int} (h35 : h 35 = some (iA cI 200 P)) (hp : ∀ j, 0 ≤ P j ∧ P j < 256) (z1 : 0 ≤ κ.2.2.2.1) (z2 : κ.2.2.2.1 ≤ 200) {src : Int → Int} (h34 : h 34 = some (iA cI 120 src)) (hs : ∀ q, 0 ≤ src q ∧ src q < 256) (n1 : 0 ≤ κ.2.2.1) (n2 : κ.2.2.1 ≤ 120) (c1 : 1 ≤ κ.2.1) (c2 : κ.2.1 ≤ 16) {v : Hs × T3 × Int × Cn4} {c0 : Cd} {kc : Int → Int} {L : T3} (h37 : h 37 = some (iA cI 121 L.1)) (h38 : h 38 = some (iA cI 121 L.2.1)) (h39 : h 39 = some (iA cI 121 L.2.2)) (h40 : h 40 = some (iA cI 72 kc)) (hG : ∀ i, 0 ≤ c0.2.2.2.2.2.1 i ∧ c0.2.2.2.2.2.1 i < 256) (hb0 : ∀ i, 0 ≤ v.1.1 i ∧ v.1.1 i < 256) (y1 : 0 ≤ v.2.2.2.2.2.2) (y2 : v.2.2.2.2.2.2 ≤ 3) {l0 : T3} {W : Pw} (hW : packLoop κ.2.1 src κ.2.2.1 120 (w0 v.1.1 l0) = W) {X : En} (hX : ePkt W.2.1 (4, 0, 0, 0, 0) W.1 = X) : XM l s0 D y_Mo_pack prog_13_method_25_code 2 (some .int) 6 0 0 [.ref (s0.heap.size + 33)] (sM s0.heap.size cI h κ (c0, v)) (K) (fun o h' K' => K' = K ∧ ∃ (c' : Cd) (T' : T3) (wh : Int), (∀ i, 0 ≤ c'.2.2.2.2.2.1 i ∧ c'.2.2.2.2.2.1 i < 256) ∧ 0 ≤ wh ∧ wh ≤ 3 ∧ ((X.2.2.1 ≤ 200 ∧ o = .inl (some (.int (zI X.2.2.1))) ∧ ∃ L', tag L' W.2.2.1 W.2.2.2 ∧ h' = sM s0.heap.size cI (a_up (a_up (a_up (a_up (a_up h 35 (iA cI 200 (zcpy X.2.1 P 0 0 X.2.2.1))) 37 (iA cI 121 L'.1)) 38 (iA cI 121 L'.2.1)) 39 (iA cI 121 L'.2.2)) 40 (iA cI 72 (zcpy X.1 kc 0 0 72))) ((0, κ.2.1, κ.2.2.1, X.2.2.1, κ.2.2.2.2.1, 1, W.2.2.2) : Kp) (c', (W.2.1, T', W.2.2.2, (1, 2, 0, wh)))) ∨ (200 < X.2.2.1 ∧ o = .inl (some (.int (zI 0))) ∧ h' = sM s0.heap.size cI (h) ((1, κ.2) : Kp) (c', (W.2.1, T', W.2.2.2, (1, 2, 0, wh)))))) := by
  refine XM.of (cI := cI) (cL := cL) (own := "NarrowingPackerModel") (by decide) rfl E.2 (nle rfl) ?_
  intro p e s m below meth c C hn
  refine x_aload_n C d_Mo_pack_0 rfl ?_
  refine x_iconst C d_Mo_pack_1 ?_
  refine XW.heq (h' := sM s0.heap.size cI h κ (((c0.1, c0.2.1, c0.2.2.1, c0.2.2.2.1, c0.2.2.2.2.1, c0.2.2.2.2.2.1, c0.2.2.2.2.2.2.1, c0.2.2.2.2.2.2.2) : Cd), ((v.1.1, v.1.2.1, v.1.2.2.1, v.1.2.2.2), v.2.1, v.2.2.1, v.2.2.2))) rfl ?_
  refine x_callVR C (G_Mo E.1) (u_886 E.1) (u_888 E.1) (us_23 E.1) (u_889 E.1) (u_13 E.1) d_Mo_pack_2 (c_Mo_begin l E (r := (v.2.1, v.2.2.2)) (Or.inr rfl)) nh_Mo_begin ln_Mo_begin rfl rfl (nle rfl) (nle rfl) (nle rfl) (nle rfl) (nle rfl) ?_
  refine XW.heq (h' := sM s0.heap.size cI h κ (((1, 0, fun _ => 1024, 4294967295, 4, (zup (zup (zup (zup c0.2.2.2.2.2.1 0 0) 1 0) 2 0) 3 0), 0, 0) : Cd), ((v.1.1, 0, fun _ => 1, 0), v.2.1, 0, v.2.2.2))) rfl ?_
  have wk : wOk κ.2.2.1 (w0 v.1.1 l0) := w0_ok hb0 n1
  have wkW : wOk κ.2.2.1 W := by rw [← hW]; exact packLoop_ok hs n2 120 _ wk
  exact l5_Mo_pack l E C rfl h35 hp z1 z2 h34 hs n1 n2 c1 c2 (fun c' T' w' a1 a2 a3 a4 => t28_Mo_pack l E C rfl h35 hp z1 z2 h34 hs n1 n2 c1 c2 h37 h38 h39 h40 wkW hX c' T' w' a1 a2 a3 a4) 120 (w0 v.1.1 l0) _ v.2.1 v.2.2.2 wk (by show κ.2.2.1 ≤ 0 + ((120 : Nat) : Int); omega) (t4_ok hG) (fun i i0 i1 => by have i1 : i < 0 := i1; omega) y1 y2 hW

