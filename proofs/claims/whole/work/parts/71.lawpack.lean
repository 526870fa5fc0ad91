/-! the law: pack -/
theorem sP_self8 {b : Nat} {cI : ClassId} {g : AH} {x : En} {t : Hs} {w : T3} {n : Int} {co pa : va_E} (h0 : g 8 = some (oPl b 9 10 11 n)) (h1 : g 9 = some (iA cI 120 w.1)) (h2 : g 10 = some (iA cI 120 w.2.1)) (h3 : g 11 = some (iA cI 120 w.2.2)) (f16 : g 16 = some pa) (f17 : g 17 = some (oHi b t.2.2.2)) (f18 : g 18 = some (oBy b 19 t.2.1)) (f19 : g 19 = some (iA cI 120 t.1)) (f20 : g 20 = some (iA cI 4 t.2.2.1)) (f21 : g 21 = some co) (f23 : g 23 = some (oNa b x.2.2.1 x.2.2.2)) (f25 : g 25 = some (iA cI 3820 x.1)) (f26 : g 26 = some (iA cI 200 x.2.1)) : g = sP b cI 8 g (x, t, w, n) co pa := by
  simp only [sP, sL, sN, sH, Nat.reduceAdd, a_up_id h0, a_up_id h1, a_up_id h2, a_up_id h3, a_up_id f16, a_up_id f17, a_up_id f18, a_up_id f19, a_up_id f20, a_up_id f21, a_up_id f23, a_up_id f25, a_up_id f26]
theorem sP_self12 {b : Nat} {cI : ClassId} {g : AH} {x : En} {t : Hs} {w : T3} {n : Int} {co pa : va_E} (h0 : g 12 = some (oPl b 13 14 15 n)) (h1 : g 13 = some (iA cI 120 w.1)) (h2 : g 14 = some (iA cI 120 w.2.1)) (h3 : g 15 = some (iA cI 120 w.2.2)) (f16 : g 16 = some pa) (f17 : g 17 = some (oHi b t.2.2.2)) (f18 : g 18 = some (oBy b 19 t.2.1)) (f19 : g 19 = some (iA cI 120 t.1)) (f20 : g 20 = some (iA cI 4 t.2.2.1)) (f21 : g 21 = some co) (f23 : g 23 = some (oNa b x.2.2.1 x.2.2.2)) (f25 : g 25 = some (iA cI 3820 x.1)) (f26 : g 26 = some (iA cI 200 x.2.1)) : g = sP b cI 12 g (x, t, w, n) co pa := by
  simp only [sP, sL, sN, sH, Nat.reduceAdd, a_up_id h0, a_up_id h1, a_up_id h2, a_up_id h3, a_up_id f16, a_up_id f17, a_up_id f18, a_up_id f19, a_up_id f20, a_up_id f21, a_up_id f23, a_up_id f25, a_up_id f26]
theorem w4_e {wh : Int} (h1 : 0 ≤ wh) (h2 : wh ≤ 3) : w4ok (1, 2, 0, wh) := by
  show (0 ≤ (1 : Int) ∧ (1 : Int) ≤ 3) ∧ (0 ≤ (2 : Int) ∧ (2 : Int) ≤ 200) ∧ (0 ≤ (0 : Int) ∧ (0 : Int) ≤ 128) ∧ (0 ≤ wh ∧ wh ≤ 3)
  omega
theorem zcpy_bt {f g : Int → Int} (hf : bt f) (hg : bt g) (n : Int) : bt (zcpy f g 0 0 n) := by
  intro j
  unfold zcpy
  split
  · exact hf _
  · exact hg _
set_option maxRecDepth 100000 in
set_option maxHeartbeats 4000000 in
theorem op_pack {a0 : Array Value} {s0 : State} {D : va_G} {cI cL : ClassId} (l : Launch) (E : a_E a0 s0 D cI cL) (F : a_F l s0) (NX : a_X s0) {p : Program} {e : Env} {m : MethodId} {args : Array Value} {below : List Frame} {meth : Method} {c : Code} (C : XC s0 D cI cL p s0 m meth c "NarrowingPackerLaw" code 7 (some .boolean) []) {sb L : Nat} {xs : Nat → Int32} (hX : va_X sb L xs s0 s0.heap) (hbl : sb < s0.heap.size) (hL : L ≤ 1537) {Q : State → Prop} {cc i : Int} {K cells slots : Nat} {g : AH} (i1 : 1 ≤ i) (i2 : i + 3 ≤ (L : Int)) (hce : cells + 1 ≤ 601024) (hsl : slots + 6 ≤ 7293000) {kp : Nat} {np : Nat} {has : Int} {ns : Int} {sz : Int} {nr : Int} {src : Int → Int} {P : Int → Int} {res : Int → Int} {kc : Int → Int} {w8 : T3} {w12 : T3} {n8 : Int} {n12 : Int} {p1 : Int} {p2 : Int} {p3 : Int} {p4 : Int} {p5 : Int} {a1 : Int} {a2 : Int} {a3 : Int} {a4 : Int} {t : Hs} {x : En} {d : De} {q0 : Int → Int} {m0 : Int} {ft : Int} {nk : Int} {c0 : Cd} {v : Vw} {Lr : T3} {f : Int → Int} (H1 : LC s0.heap.size cI cc g kp np has ns sz nr src P res kc w8 w12 n8 n12 p1 p2 p3 p4 p5 a1 a2 a3 a4 t x d q0 m0 ft nk c0 v Lr f) (H2 : LM s0.heap.size cI cc g kp np has ns sz nr src P res kc w8 w12 n8 n12 p1 p2 p3 p4 p5 a1 a2 a3 a4 t x d q0 m0 ft nk c0 v Lr f) (o48 : g 48 = some (lA cL 1 f)) (H3 : LPu cc kp np has ns sz nr src P res kc w8 w12 n8 n12 p1 p2 p3 p4 p5 a1 a2 a3 a4 t x d q0 m0 ft nk c0 v Lr f) (kk : ∀ g' K', LV s0.heap.size cI cL cc g' → XW s0 D p l e room_1 s0 m args below meth c Q 558 [(0, .ref sb), (1, .ref (s0.heap.size + 0)), (2, .ref (s0.heap.size + 33)), (3, .ref (s0.heap.size + 48)), (4, .int (zI i))] [] g' K' (cells + 1) (slots + 6))  : XW s0 D p l e room_1 s0 m args below meth c Q 158 [(0, .ref sb), (1, .ref (s0.heap.size + 0)), (2, .ref (s0.heap.size + 33)), (3, .ref (s0.heap.size + 48)), (4, .int (zI i))] [] g K cells slots := by
  have f0 := H1.1
  have f1 := H1.2.1
  have f2 := H1.2.2.1
  have f3 := H1.2.2.2.1
  have f4 := H1.2.2.2.2.1
  have f5 := H1.2.2.2.2.2.1
  have f6 := H1.2.2.2.2.2.2.1
  have f7 := H1.2.2.2.2.2.2.2.1
  have f8 := H1.2.2.2.2.2.2.2.2.1
  have f9 := H1.2.2.2.2.2.2.2.2.2.1
  have f10 := H1.2.2.2.2.2.2.2.2.2.2.1
  have f11 := H1.2.2.2.2.2.2.2.2.2.2.2.1
  have f12 := H1.2.2.2.2.2.2.2.2.2.2.2.2.1
  have f13 := H1.2.2.2.2.2.2.2.2.2.2.2.2.2.1
  have f14 := H1.2.2.2.2.2.2.2.2.2.2.2.2.2.2.1
  have f15 := H1.2.2.2.2.2.2.2.2.2.2.2.2.2.2.2.1
  have f16 := H1.2.2.2.2.2.2.2.2.2.2.2.2.2.2.2.2.1
  have f17 := H1.2.2.2.2.2.2.2.2.2.2.2.2.2.2.2.2.2.1
  have f18 := H1.2.2.2.2.2.2.2.2.2.2.2.2.2.2.2.2.2.2.1
  have f19 := H1.2.2.2.2.2.2.2.2.2.2.2.2.2.2.2.2.2.2.2.1
  have f20 := H1.2.2.2.2.2.2.2.2.2.2.2.2.2.2.2.2.2.2.2.2.1
  have f21 := H1.2.2.2.2.2.2.2.2.2.2.2.2.2.2.2.2.2.2.2.2.2.1
  have f22 := H1.2.2.2.2.2.2.2.2.2.2.2.2.2.2.2.2.2.2.2.2.2.2.1
  have f23 := H1.2.2.2.2.2.2.2.2.2.2.2.2.2.2.2.2.2.2.2.2.2.2.2.1
  have f24 := H1.2.2.2.2.2.2.2.2.2.2.2.2.2.2.2.2.2.2.2.2.2.2.2.2.1
  have f25 := H1.2.2.2.2.2.2.2.2.2.2.2.2.2.2.2.2.2.2.2.2.2.2.2.2.2.1
  have f26 := H1.2.2.2.2.2.2.2.2.2.2.2.2.2.2.2.2.2.2.2.2.2.2.2.2.2.2.1
  have f27 := H1.2.2.2.2.2.2.2.2.2.2.2.2.2.2.2.2.2.2.2.2.2.2.2.2.2.2.2.1
  have f28 := H1.2.2.2.2.2.2.2.2.2.2.2.2.2.2.2.2.2.2.2.2.2.2.2.2.2.2.2.2.1
  have f29 := H1.2.2.2.2.2.2.2.2.2.2.2.2.2.2.2.2.2.2.2.2.2.2.2.2.2.2.2.2.2.1
  have f30 := H1.2.2.2.2.2.2.2.2.2.2.2.2.2.2.2.2.2.2.2.2.2.2.2.2.2.2.2.2.2.2.1
  have f31 := H1.2.2.2.2.2.2.2.2.2.2.2.2.2.2.2.2.2.2.2.2.2.2.2.2.2.2.2.2.2.2.2.1
  have f32 := H1.2.2.2.2.2.2.2.2.2.2.2.2.2.2.2.2.2.2.2.2.2.2.2.2.2.2.2.2.2.2.2.2
  have m33 := H2.1
  have m34 := H2.2.1
  have m35 := H2.2.2.1
  have m36 := H2.2.2.2.1
  have m37 := H2.2.2.2.2.1
  have m38 := H2.2.2.2.2.2.1
  have m39 := H2.2.2.2.2.2.2.1
  have m40 := H2.2.2.2.2.2.2.2.1
  have m41 := H2.2.2.2.2.2.2.2.2.1
  have m42 := H2.2.2.2.2.2.2.2.2.2.1
  have m43 := H2.2.2.2.2.2.2.2.2.2.2.1
  have m44 := H2.2.2.2.2.2.2.2.2.2.2.2.1
  have m45 := H2.2.2.2.2.2.2.2.2.2.2.2.2.1
  have m46 := H2.2.2.2.2.2.2.2.2.2.2.2.2.2.1
  have m47 := H2.2.2.2.2.2.2.2.2.2.2.2.2.2.2
  have hhas := H3.1
  have hns := H3.2.1
  have hsz := H3.2.2.1
  have hnr := H3.2.2.2.1
  have hcc := H3.2.2.2.2.1
  have hnk := H3.2.2.2.2.2.1
  have hsrc := H3.2.2.2.2.2.2.1
  have hPb := H3.2.2.2.2.2.2.2.1
  have htb := H3.2.2.2.2.2.2.2.2.1
  have htn := H3.2.2.2.2.2.2.2.2.2.1
  have hq0 := H3.2.2.2.2.2.2.2.2.2.2.1
  have hm0 := H3.2.2.2.2.2.2.2.2.2.2.2.1
  have hG := H3.2.2.2.2.2.2.2.2.2.2.2.2.1
  have hvt := H3.2.2.2.2.2.2.2.2.2.2.2.2.2.1
  have hw4 := H3.2.2.2.2.2.2.2.2.2.2.2.2.2.2.1
  have hkp := H3.2.2.2.2.2.2.2.2.2.2.2.2.2.2.2
  have sv1 := sv_b (xs (i + 1).toNat)
  have sv2 := sv_b (xs (i + 2).toNat)
  rcases hkp with ⟨rfl, rfl, e1, e2⟩ | ⟨rfl, rfl, e1, e2⟩
  · generalize hW : packLoop cc src ns 120 (w0 t.1 w12) = W
    generalize hX : ePkt W.2.1 (4, 0, 0, 0, 0) W.1 = X
    have wk : wOk ns W := by rw [← hW]; exact packLoop_ok hsrc hns.2 120 _ (w0_ok htb hns.1)
    have okX : eOk X := by rw [← hX]; exact (eOk_pkt wk.1 W.2.1 (4, 0, 0, 0, 0)).1
    have hl4 : 4 ≤ X.2.2.1 := okX.2.2.2.1
    have hcnt := wk.2.2.2
    have hWn := wk.2.1.2.1
    have hW2 : packLoop cc src ns 120 (w0 v.1.1 w12) = W := by rw [hvt]; exact hW
    refine XW.heq (h' := sP s0.heap.size cI 12 g (x, t, w12, n12) (oCo cc a1 a2 a3 a4) (oPa p1 p2 p3 p4 p5)) (sP_self12 f12 f13 f14 f15 f16 f17 f18 f19 f20 f21 f23 f25 f26) ?_
    by_cases hlen : X.2.2.1 ≤ 200
    · refine x_aload_n C d_La_law_158 rfl ?_
      refine x_aload_n C d_La_law_159 rfl ?_
      refine x_callSH C (u_351 E.1) (u_352 E.1) (u_353 E.1) (u_0 E.1) d_La_law_160 (c_La_pack l E NX (f := f) (h0 := by exact f0) (hM := c_Np_pack12 l E F f0 f1 f2 f22 f24 hsrc hns.1 hns.2 hcc.1 hcc.2 htb htn.1 htn.2 hW hX f3 f4 hsz.1 hsz.2 f7 hlen) (hret := (fun v h' K' q => by obtain ⟨q1, q2, b1, b2, b3, b4, b5, b6, q3⟩ := q; cases q1; subst q3; exact ⟨_, rfl, by omega, by omega, by exact o48⟩)) (hthr := (fun Cn h' K' q => by cases q.1))) nh_La_pack ln_La_pack rfl (nle rfl) (nle rfl) (nle rfl) (by show _ ≤ 601024; omega) (by show _ ≤ 7293000; omega) (fun v1 h1 K1 r1 => ?_) (fun Cn h1 K1 r1 => ?_)
      · rcases r1 with ⟨n, g1, ⟨y1, y2⟩, q, e3, e4⟩ | ⟨q, e3⟩
        · obtain ⟨q1, q2, b1, b2, b3, b4, b5, b6, q3⟩ := q
          have q4 : zI n = zI X.2.2.1 := by injection q1 with q1; injection q1 with q1; injection q1
          have q5 := zI_inj y1 y2 (by omega) (by omega) q4
          subst q5 q2 q3 e4
          cases e3
          refine x_istore C d_La_law_163 (by decide) ?_
          refine x_aload_n C d_La_law_165 rfl ?_
          refine XW.heq (h' := sM s0.heap.size cI (a_up (sK s0.heap.size cI 8 12 (sP s0.heap.size cI 12 g (X, W.2) (oCo cc b1 b2 b3 b4) (oPa 4 0 0 b5 b6)) P kc X) 48 (lA cL 1 (zup f 0 X.2.2.1))) (ft, cc, ns, sz, nr, has, nk) (c0, v)) (sM_eq (by exact m33) (by exact m41) (by exact m42) (by exact m43) (by exact m44) (by exact m45) (by exact m46) (by exact m47) (fun q _ _ _ _ _ _ _ _ => rfl)) ?_
          refine x_callVE C (G_Mo E.1) (u_882 E.1) (u_883 E.1) (u_884 E.1) (u_885 E.1) (u_13 E.1) d_La_law_166 (c_Mo_pack l E (by exact m35) hPb hsz.1 hsz.2 (by exact m34) hsrc hns.1 hns.2 hcc.1 hcc.2 (by exact m37) (by exact m38) (by exact m39) (by exact m40) hG (by rw [hvt]; exact htb) hw4.2.2.2.1 hw4.2.2.2.2 (l0 := w12) hW2 hX) nh_Mo_pack ln_Mo_pack rfl (by rfl) (nle rfl) (nle rfl) (nle rfl) (by show _ ≤ 601024; omega) (by show _ ≤ 7293000; omega) (fun v2 h2 K2 r2 => ?_) (fun Cn h2 K2 r2 => by obtain ⟨_, _, _, _, _, _, _, r2⟩ := r2; rcases r2 with ⟨_, r2, _⟩ | ⟨_, r2, _⟩ <;> cases r2)
          obtain ⟨rK, c', T', wh, hG', wh1, wh2, r3⟩ := r2
          subst rK
          rcases r3 with ⟨_, z1, L', z2, z3⟩ | ⟨z0, _⟩
          · cases z1
            subst z3
            refine x_istore C d_La_law_169 (by decide) ?_
            refine x_aload_n C d_La_law_171 rfl ?_
            refine x_callVR C (G_Mo E.1) (u_867 E.1) (u_868 E.1) (u_869 E.1) (u_870 E.1) (u_13 E.1) d_La_law_172 (c_Mo_thrown l E) nh_Mo_thrown ln_Mo_thrown rfl (by rfl) (nle rfl) (nle rfl) (nle rfl) (by show _ ≤ 601024; omega) (by show _ ≤ 7293000; omega) ?_
            refine x_iload C d_La_law_175 rfl ?_
            refine x_same C (tgt := 182) d_La_law_177 (by decide) ?_
            refine x_iload C d_La_law_182 rfl ?_
            refine x_if_ne C (tgt := 199) d_La_law_184 (by decide) (by omega) (by omega) (fun c184 => ?_) (fun c184 => ?_)
            · exfalso; omega
            · refine x_aload_n C d_La_law_187 rfl ?_
              refine x_iconst C d_La_law_188 ?_
              refine x_lald C d_La_law_189 (show _ = some (lA cL 1 (zup f 0 (X.2.2.1))) from rfl) (by omega) (by omega) (by omega) ?_
              refine XW.steq (st' := [.long (zL (X.2.2.1))]) rfl ?_
              refine x_iload C d_La_law_190 rfl ?_
              refine x_i2l C d_La_law_192 (by omega) (by omega) ?_
              refine x_lcmp C d_La_law_193 ?_
              refine x_lif_eq C (tgt := 199) d_La_law_194 (by decide) (by omega) (by omega) (by omega) (by omega) (fun c194 => ?_) (fun c194 => ?_)
              · refine x_goto C (tgt := 558) d_La_law_199 (by decide) ?_
                refine XW.loc (lv' := [(0, .ref sb), (1, .ref (s0.heap.size + 0)), (2, .ref (s0.heap.size + 33)), (3, .ref (s0.heap.size + 48)), (4, .int (zI i))]) ⟨rfl, rfl, rfl, rfl, rfl, trivial⟩ ?_
                exact XW.widen (by omega) (by omega) (kk _ _ ⟨12, 8, 1, ns, X.2.2.1, nr, src, (zcpy X.2.1 P 0 0 X.2.2.1), res, (zcpy X.1 kc 0 0 72), w8, W.2.2.1, n8, W.2.2.2, 4, 0, 0, b5, b6, b1, b2, b3, b4, W.2.1, X, d, q0, m0, 0, W.2.2.2, c', (W.2.1, T', W.2.2.2, (1, 2, 0, wh)), L', (zup f 0 X.2.2.1), ⟨rfl, (by exact f1), (by exact f2), rfl, rfl, (by exact f5), (by exact f6), rfl, (by exact f8), (by exact f9), (by exact f10), (by exact f11), rfl, rfl, rfl, rfl, rfl, rfl, rfl, rfl, rfl, rfl, (by exact f22), rfl, (by exact f24), rfl, rfl, (by exact f27), (by exact f28), (by exact f29), (by exact f30), (by exact f31), (by exact f32)⟩, ⟨rfl, (by exact m34), rfl, (by exact m36), rfl, rfl, rfl, rfl, rfl, rfl, rfl, rfl, rfl, rfl, rfl⟩, rfl, ⟨Or.inr rfl, hns, ⟨by omega, hlen⟩, hnr, hcc, ⟨hcnt.1, by omega⟩, hsrc, (zcpy_bt okX.2.1 hPb _), wk.2.1.1, wk.2.1.2.1, hq0, hm0, hG', rfl, w4_e wh1 wh2, (Or.inr ⟨rfl, rfl, rfl, z2⟩)⟩⟩)
              · exfalso; omega
          · exfalso; omega
        · exfalso; cases q.1
      · rcases r1 with ⟨_, _, _, _, r1, _⟩ | ⟨_, r1⟩ <;> cases r1
    · refine x_aload_n C d_La_law_158 rfl ?_
      refine x_aload_n C d_La_law_159 rfl ?_
      refine x_callSH C (u_351 E.1) (u_352 E.1) (u_353 E.1) (u_0 E.1) d_La_law_160 (c_La_pack l E NX (f := f) (h0 := by exact f0) (hM := c_Np_packT12 l E F f0 f1 f2 f22 f24 hsrc hns.1 hns.2 hcc.1 hcc.2 htb htn.1 htn.2 hW hX (by omega)) (hret := (fun v h' K' q => by cases q.1)) (hthr := (fun Cn h' K' q => Sum.inr.inj q.1))) nh_La_pack ln_La_pack rfl (nle rfl) (nle rfl) (nle rfl) (by show _ ≤ 601024; omega) (by show _ ≤ 7293000; omega) (fun v1 h1 K1 r1 => ?_) (fun Cn h1 K1 r1 => ?_)
      · rcases r1 with ⟨n, g1, ⟨y1, y2⟩, q, e3, e4⟩ | ⟨q, e3⟩
        · exfalso; cases q.1
        · obtain ⟨q1, q2, b1, b2, b3, b4, b5, b6, q3⟩ := q
          subst q2 q3
          cases e3
          refine x_istore C d_La_law_163 (by decide) ?_
          refine x_aload_n C d_La_law_165 rfl ?_
          refine XW.heq (h' := sM s0.heap.size cI (sP s0.heap.size cI 12 g (X, W.2) (oCo cc b1 b2 b3 b4) (oPa 4 0 0 b5 b6)) (ft, cc, ns, sz, nr, has, nk) (c0, v)) (sM_eq (by exact m33) (by exact m41) (by exact m42) (by exact m43) (by exact m44) (by exact m45) (by exact m46) (by exact m47) (fun q _ _ _ _ _ _ _ _ => rfl)) ?_
          refine x_callVE C (G_Mo E.1) (u_882 E.1) (u_883 E.1) (u_884 E.1) (u_885 E.1) (u_13 E.1) d_La_law_166 (c_Mo_pack l E (by exact m35) hPb hsz.1 hsz.2 (by exact m34) hsrc hns.1 hns.2 hcc.1 hcc.2 (by exact m37) (by exact m38) (by exact m39) (by exact m40) hG (by rw [hvt]; exact htb) hw4.2.2.2.1 hw4.2.2.2.2 (l0 := w12) hW2 hX) nh_Mo_pack ln_Mo_pack rfl (by rfl) (nle rfl) (nle rfl) (nle rfl) (by show _ ≤ 601024; omega) (by show _ ≤ 7293000; omega) (fun v2 h2 K2 r2 => ?_) (fun Cn h2 K2 r2 => by obtain ⟨_, _, _, _, _, _, _, r2⟩ := r2; rcases r2 with ⟨_, r2, _⟩ | ⟨_, r2, _⟩ <;> cases r2)
          obtain ⟨rK, c', T', wh, hG', wh1, wh2, r3⟩ := r2
          subst rK
          rcases r3 with ⟨z0, _⟩ | ⟨_, z1, z3⟩
          · exfalso; omega
          · cases z1
            subst z3
            refine x_istore C d_La_law_169 (by decide) ?_
            refine x_aload_n C d_La_law_171 rfl ?_
            refine x_callVR C (G_Mo E.1) (u_867 E.1) (u_868 E.1) (u_869 E.1) (u_870 E.1) (u_13 E.1) d_La_law_172 (c_Mo_thrown l E) nh_Mo_thrown ln_Mo_thrown rfl (by rfl) (nle rfl) (nle rfl) (nle rfl) (by show _ ≤ 601024; omega) (by show _ ≤ 7293000; omega) ?_
            refine x_iload C d_La_law_175 rfl ?_
            refine x_same C (tgt := 182) d_La_law_177 (by decide) ?_
            refine x_iload C d_La_law_182 rfl ?_
            refine x_if_ne C (tgt := 199) d_La_law_184 (by decide) (by omega) (by omega) (fun c184 => ?_) (fun c184 => ?_)
            · refine x_goto C (tgt := 558) d_La_law_199 (by decide) ?_
              refine XW.loc (lv' := [(0, .ref sb), (1, .ref (s0.heap.size + 0)), (2, .ref (s0.heap.size + 33)), (3, .ref (s0.heap.size + 48)), (4, .int (zI i))]) ⟨rfl, rfl, rfl, rfl, rfl, trivial⟩ ?_
              exact XW.widen (by omega) (by omega) (kk _ _ ⟨8, 12, has, ns, sz, nr, src, P, res, kc, w8, W.2.2.1, n8, W.2.2.2, 4, 0, 0, b5, b6, b1, b2, b3, b4, W.2.1, X, d, q0, m0, 1, nk, c', (W.2.1, T', W.2.2.2, (1, 2, 0, wh)), Lr, f, ⟨(by exact f0), (by exact f1), (by exact f2), (by exact f3), (by exact f4), (by exact f5), (by exact f6), (by exact f7), (by exact f8), (by exact f9), (by exact f10), (by exact f11), rfl, rfl, rfl, rfl, rfl, rfl, rfl, rfl, rfl, rfl, (by exact f22), rfl, (by exact f24), rfl, rfl, (by exact f27), (by exact f28), (by exact f29), (by exact f30), (by exact f31), (by exact f32)⟩, ⟨rfl, (by exact m34), (by exact m35), (by exact m36), (by exact m37), (by exact m38), (by exact m39), (by exact m40), rfl, rfl, rfl, rfl, rfl, rfl, rfl⟩, (by exact o48), ⟨hhas, hns, hsz, hnr, hcc, hnk, hsrc, hPb, wk.2.1.1, wk.2.1.2.1, hq0, hm0, hG', rfl, w4_e wh1 wh2, (Or.inl ⟨rfl, rfl, e1, e2⟩)⟩⟩)
            · exfalso; omega
      · rcases r1 with ⟨_, _, _, _, r1, _⟩ | ⟨_, r1⟩ <;> cases r1
  · generalize hW : packLoop cc src ns 120 (w0 t.1 w8) = W
    generalize hX : ePkt W.2.1 (4, 0, 0, 0, 0) W.1 = X
    have wk : wOk ns W := by rw [← hW]; exact packLoop_ok hsrc hns.2 120 _ (w0_ok htb hns.1)
    have okX : eOk X := by rw [← hX]; exact (eOk_pkt wk.1 W.2.1 (4, 0, 0, 0, 0)).1
    have hl4 : 4 ≤ X.2.2.1 := okX.2.2.2.1
    have hcnt := wk.2.2.2
    have hWn := wk.2.1.2.1
    have hW2 : packLoop cc src ns 120 (w0 v.1.1 w8) = W := by rw [hvt]; exact hW
    refine XW.heq (h' := sP s0.heap.size cI 8 g (x, t, w8, n8) (oCo cc a1 a2 a3 a4) (oPa p1 p2 p3 p4 p5)) (sP_self8 f8 f9 f10 f11 f16 f17 f18 f19 f20 f21 f23 f25 f26) ?_
    by_cases hlen : X.2.2.1 ≤ 200
    · refine x_aload_n C d_La_law_158 rfl ?_
      refine x_aload_n C d_La_law_159 rfl ?_
      refine x_callSH C (u_351 E.1) (u_352 E.1) (u_353 E.1) (u_0 E.1) d_La_law_160 (c_La_pack l E NX (f := f) (h0 := by exact f0) (hM := c_Np_pack8 l E F f0 f1 f2 f22 f24 hsrc hns.1 hns.2 hcc.1 hcc.2 htb htn.1 htn.2 hW hX f3 f4 hsz.1 hsz.2 f7 hlen) (hret := (fun v h' K' q => by obtain ⟨q1, q2, b1, b2, b3, b4, b5, b6, q3⟩ := q; cases q1; subst q3; exact ⟨_, rfl, by omega, by omega, by exact o48⟩)) (hthr := (fun Cn h' K' q => by cases q.1))) nh_La_pack ln_La_pack rfl (nle rfl) (nle rfl) (nle rfl) (by show _ ≤ 601024; omega) (by show _ ≤ 7293000; omega) (fun v1 h1 K1 r1 => ?_) (fun Cn h1 K1 r1 => ?_)
      · rcases r1 with ⟨n, g1, ⟨y1, y2⟩, q, e3, e4⟩ | ⟨q, e3⟩
        · obtain ⟨q1, q2, b1, b2, b3, b4, b5, b6, q3⟩ := q
          have q4 : zI n = zI X.2.2.1 := by injection q1 with q1; injection q1 with q1; injection q1
          have q5 := zI_inj y1 y2 (by omega) (by omega) q4
          subst q5 q2 q3 e4
          cases e3
          refine x_istore C d_La_law_163 (by decide) ?_
          refine x_aload_n C d_La_law_165 rfl ?_
          refine XW.heq (h' := sM s0.heap.size cI (a_up (sK s0.heap.size cI 12 8 (sP s0.heap.size cI 8 g (X, W.2) (oCo cc b1 b2 b3 b4) (oPa 4 0 0 b5 b6)) P kc X) 48 (lA cL 1 (zup f 0 X.2.2.1))) (ft, cc, ns, sz, nr, has, nk) (c0, v)) (sM_eq (by exact m33) (by exact m41) (by exact m42) (by exact m43) (by exact m44) (by exact m45) (by exact m46) (by exact m47) (fun q _ _ _ _ _ _ _ _ => rfl)) ?_
          refine x_callVE C (G_Mo E.1) (u_882 E.1) (u_883 E.1) (u_884 E.1) (u_885 E.1) (u_13 E.1) d_La_law_166 (c_Mo_pack l E (by exact m35) hPb hsz.1 hsz.2 (by exact m34) hsrc hns.1 hns.2 hcc.1 hcc.2 (by exact m37) (by exact m38) (by exact m39) (by exact m40) hG (by rw [hvt]; exact htb) hw4.2.2.2.1 hw4.2.2.2.2 (l0 := w8) hW2 hX) nh_Mo_pack ln_Mo_pack rfl (by rfl) (nle rfl) (nle rfl) (nle rfl) (by show _ ≤ 601024; omega) (by show _ ≤ 7293000; omega) (fun v2 h2 K2 r2 => ?_) (fun Cn h2 K2 r2 => by obtain ⟨_, _, _, _, _, _, _, r2⟩ := r2; rcases r2 with ⟨_, r2, _⟩ | ⟨_, r2, _⟩ <;> cases r2)
          obtain ⟨rK, c', T', wh, hG', wh1, wh2, r3⟩ := r2
          subst rK
          rcases r3 with ⟨_, z1, L', z2, z3⟩ | ⟨z0, _⟩
          · cases z1
            subst z3
            refine x_istore C d_La_law_169 (by decide) ?_
            refine x_aload_n C d_La_law_171 rfl ?_
            refine x_callVR C (G_Mo E.1) (u_867 E.1) (u_868 E.1) (u_869 E.1) (u_870 E.1) (u_13 E.1) d_La_law_172 (c_Mo_thrown l E) nh_Mo_thrown ln_Mo_thrown rfl (by rfl) (nle rfl) (nle rfl) (nle rfl) (by show _ ≤ 601024; omega) (by show _ ≤ 7293000; omega) ?_
            refine x_iload C d_La_law_175 rfl ?_
            refine x_same C (tgt := 182) d_La_law_177 (by decide) ?_
            refine x_iload C d_La_law_182 rfl ?_
            refine x_if_ne C (tgt := 199) d_La_law_184 (by decide) (by omega) (by omega) (fun c184 => ?_) (fun c184 => ?_)
            · exfalso; omega
            · refine x_aload_n C d_La_law_187 rfl ?_
              refine x_iconst C d_La_law_188 ?_
              refine x_lald C d_La_law_189 (show _ = some (lA cL 1 (zup f 0 (X.2.2.1))) from rfl) (by omega) (by omega) (by omega) ?_
              refine XW.steq (st' := [.long (zL (X.2.2.1))]) rfl ?_
              refine x_iload C d_La_law_190 rfl ?_
              refine x_i2l C d_La_law_192 (by omega) (by omega) ?_
              refine x_lcmp C d_La_law_193 ?_
              refine x_lif_eq C (tgt := 199) d_La_law_194 (by decide) (by omega) (by omega) (by omega) (by omega) (fun c194 => ?_) (fun c194 => ?_)
              · refine x_goto C (tgt := 558) d_La_law_199 (by decide) ?_
                refine XW.loc (lv' := [(0, .ref sb), (1, .ref (s0.heap.size + 0)), (2, .ref (s0.heap.size + 33)), (3, .ref (s0.heap.size + 48)), (4, .int (zI i))]) ⟨rfl, rfl, rfl, rfl, rfl, trivial⟩ ?_
                exact XW.widen (by omega) (by omega) (kk _ _ ⟨8, 12, 1, ns, X.2.2.1, nr, src, (zcpy X.2.1 P 0 0 X.2.2.1), res, (zcpy X.1 kc 0 0 72), W.2.2.1, w12, W.2.2.2, n12, 4, 0, 0, b5, b6, b1, b2, b3, b4, W.2.1, X, d, q0, m0, 0, W.2.2.2, c', (W.2.1, T', W.2.2.2, (1, 2, 0, wh)), L', (zup f 0 X.2.2.1), ⟨rfl, (by exact f1), (by exact f2), rfl, rfl, (by exact f5), (by exact f6), rfl, rfl, rfl, rfl, rfl, (by exact f12), (by exact f13), (by exact f14), (by exact f15), rfl, rfl, rfl, rfl, rfl, rfl, (by exact f22), rfl, (by exact f24), rfl, rfl, (by exact f27), (by exact f28), (by exact f29), (by exact f30), (by exact f31), (by exact f32)⟩, ⟨rfl, (by exact m34), rfl, (by exact m36), rfl, rfl, rfl, rfl, rfl, rfl, rfl, rfl, rfl, rfl, rfl⟩, rfl, ⟨Or.inr rfl, hns, ⟨by omega, hlen⟩, hnr, hcc, ⟨hcnt.1, by omega⟩, hsrc, (zcpy_bt okX.2.1 hPb _), wk.2.1.1, wk.2.1.2.1, hq0, hm0, hG', rfl, w4_e wh1 wh2, (Or.inl ⟨rfl, rfl, rfl, z2⟩)⟩⟩)
              · exfalso; omega
          · exfalso; omega
        · exfalso; cases q.1
      · rcases r1 with ⟨_, _, _, _, r1, _⟩ | ⟨_, r1⟩ <;> cases r1
    · refine x_aload_n C d_La_law_158 rfl ?_
      refine x_aload_n C d_La_law_159 rfl ?_
      refine x_callSH C (u_351 E.1) (u_352 E.1) (u_353 E.1) (u_0 E.1) d_La_law_160 (c_La_pack l E NX (f := f) (h0 := by exact f0) (hM := c_Np_packT8 l E F f0 f1 f2 f22 f24 hsrc hns.1 hns.2 hcc.1 hcc.2 htb htn.1 htn.2 hW hX (by omega)) (hret := (fun v h' K' q => by cases q.1)) (hthr := (fun Cn h' K' q => Sum.inr.inj q.1))) nh_La_pack ln_La_pack rfl (nle rfl) (nle rfl) (nle rfl) (by show _ ≤ 601024; omega) (by show _ ≤ 7293000; omega) (fun v1 h1 K1 r1 => ?_) (fun Cn h1 K1 r1 => ?_)
      · rcases r1 with ⟨n, g1, ⟨y1, y2⟩, q, e3, e4⟩ | ⟨q, e3⟩
        · exfalso; cases q.1
        · obtain ⟨q1, q2, b1, b2, b3, b4, b5, b6, q3⟩ := q
          subst q2 q3
          cases e3
          refine x_istore C d_La_law_163 (by decide) ?_
          refine x_aload_n C d_La_law_165 rfl ?_
          refine XW.heq (h' := sM s0.heap.size cI (sP s0.heap.size cI 8 g (X, W.2) (oCo cc b1 b2 b3 b4) (oPa 4 0 0 b5 b6)) (ft, cc, ns, sz, nr, has, nk) (c0, v)) (sM_eq (by exact m33) (by exact m41) (by exact m42) (by exact m43) (by exact m44) (by exact m45) (by exact m46) (by exact m47) (fun q _ _ _ _ _ _ _ _ => rfl)) ?_
          refine x_callVE C (G_Mo E.1) (u_882 E.1) (u_883 E.1) (u_884 E.1) (u_885 E.1) (u_13 E.1) d_La_law_166 (c_Mo_pack l E (by exact m35) hPb hsz.1 hsz.2 (by exact m34) hsrc hns.1 hns.2 hcc.1 hcc.2 (by exact m37) (by exact m38) (by exact m39) (by exact m40) hG (by rw [hvt]; exact htb) hw4.2.2.2.1 hw4.2.2.2.2 (l0 := w8) hW2 hX) nh_Mo_pack ln_Mo_pack rfl (by rfl) (nle rfl) (nle rfl) (nle rfl) (by show _ ≤ 601024; omega) (by show _ ≤ 7293000; omega) (fun v2 h2 K2 r2 => ?_) (fun Cn h2 K2 r2 => by obtain ⟨_, _, _, _, _, _, _, r2⟩ := r2; rcases r2 with ⟨_, r2, _⟩ | ⟨_, r2, _⟩ <;> cases r2)
          obtain ⟨rK, c', T', wh, hG', wh1, wh2, r3⟩ := r2
          subst rK
          rcases r3 with ⟨z0, _⟩ | ⟨_, z1, z3⟩
          · exfalso; omega
          · cases z1
            subst z3
            refine x_istore C d_La_law_169 (by decide) ?_
            refine x_aload_n C d_La_law_171 rfl ?_
            refine x_callVR C (G_Mo E.1) (u_867 E.1) (u_868 E.1) (u_869 E.1) (u_870 E.1) (u_13 E.1) d_La_law_172 (c_Mo_thrown l E) nh_Mo_thrown ln_Mo_thrown rfl (by rfl) (nle rfl) (nle rfl) (nle rfl) (by show _ ≤ 601024; omega) (by show _ ≤ 7293000; omega) ?_
            refine x_iload C d_La_law_175 rfl ?_
            refine x_same C (tgt := 182) d_La_law_177 (by decide) ?_
            refine x_iload C d_La_law_182 rfl ?_
            refine x_if_ne C (tgt := 199) d_La_law_184 (by decide) (by omega) (by omega) (fun c184 => ?_) (fun c184 => ?_)
            · refine x_goto C (tgt := 558) d_La_law_199 (by decide) ?_
              refine XW.loc (lv' := [(0, .ref sb), (1, .ref (s0.heap.size + 0)), (2, .ref (s0.heap.size + 33)), (3, .ref (s0.heap.size + 48)), (4, .int (zI i))]) ⟨rfl, rfl, rfl, rfl, rfl, trivial⟩ ?_
              exact XW.widen (by omega) (by omega) (kk _ _ ⟨12, 8, has, ns, sz, nr, src, P, res, kc, W.2.2.1, w12, W.2.2.2, n12, 4, 0, 0, b5, b6, b1, b2, b3, b4, W.2.1, X, d, q0, m0, 1, nk, c', (W.2.1, T', W.2.2.2, (1, 2, 0, wh)), Lr, f, ⟨(by exact f0), (by exact f1), (by exact f2), (by exact f3), (by exact f4), (by exact f5), (by exact f6), (by exact f7), rfl, rfl, rfl, rfl, (by exact f12), (by exact f13), (by exact f14), (by exact f15), rfl, rfl, rfl, rfl, rfl, rfl, (by exact f22), rfl, (by exact f24), rfl, rfl, (by exact f27), (by exact f28), (by exact f29), (by exact f30), (by exact f31), (by exact f32)⟩, ⟨rfl, (by exact m34), (by exact m35), (by exact m36), (by exact m37), (by exact m38), (by exact m39), (by exact m40), rfl, rfl, rfl, rfl, rfl, rfl, rfl⟩, (by exact o48), ⟨hhas, hns, hsz, hnr, hcc, hnk, hsrc, hPb, wk.2.1.1, wk.2.1.2.1, hq0, hm0, hG', rfl, w4_e wh1 wh2, (Or.inr ⟨rfl, rfl, e1, e2⟩)⟩⟩)
            · exfalso; omega
      · rcases r1 with ⟨_, _, _, _, r1, _⟩ | ⟨_, r1⟩ <;> cases r1
