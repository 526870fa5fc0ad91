/-! the law: the calls that cannot throw -/
set_option maxRecDepth 100000 in
set_option maxHeartbeats 4000000 in
theorem op_type {a0 : Array Value} {s0 : State} {D : va_G} {cI cL : ClassId} (l : Launch) (E : a_E a0 s0 D cI cL) (F : a_F l s0) (NX : a_X s0) {p : Program} {e : Env} {m : MethodId} {args : Array Value} {below : List Frame} {meth : Method} {c : Code} (C : XC s0 D cI cL p s0 m meth c "NarrowingPackerLaw" code 7 (some .boolean) []) {sb L : Nat} {xs : Nat → Int32} (hX : va_X sb L xs s0 s0.heap) (hbl : sb < s0.heap.size) (hL : L ≤ 1537) {Q : State → Prop} {cc i : Int} {K cells slots : Nat} {g : AH} (i1 : 1 ≤ i) (i2 : i + 3 ≤ (L : Int)) (hce : cells + 1 ≤ 601024) (hsl : slots + 6 ≤ 7293000) {kp : Nat} {np : Nat} {has : Int} {ns : Int} {sz : Int} {nr : Int} {src : Int → Int} {P : Int → Int} {res : Int → Int} {kc : Int → Int} {w8 : T3} {w12 : T3} {n8 : Int} {n12 : Int} {p1 : Int} {p2 : Int} {p3 : Int} {p4 : Int} {p5 : Int} {a1 : Int} {a2 : Int} {a3 : Int} {a4 : Int} {t : Hs} {x : En} {d : De} {q0 : Int → Int} {m0 : Int} {ft : Int} {nk : Int} {c0 : Cd} {v : Vw} {Lr : T3} {f : Int → Int} (H1 : LC s0.heap.size cI cc g kp np has ns sz nr src P res kc w8 w12 n8 n12 p1 p2 p3 p4 p5 a1 a2 a3 a4 t x d q0 m0 ft nk c0 v Lr f) (H2 : LM s0.heap.size cI cc g kp np has ns sz nr src P res kc w8 w12 n8 n12 p1 p2 p3 p4 p5 a1 a2 a3 a4 t x d q0 m0 ft nk c0 v Lr f) (o48 : g 48 = some (lA cL 1 f)) (H3 : LPu cc kp np has ns sz nr src P res kc w8 w12 n8 n12 p1 p2 p3 p4 p5 a1 a2 a3 a4 t x d q0 m0 ft nk c0 v Lr f) (kk : ∀ g' K', LV s0.heap.size cI cL cc g' → XW s0 D p l e room_1 s0 m args below meth c Q 558 [(0, .ref sb), (1, .ref (s0.heap.size + 0)), (2, .ref (s0.heap.size + 33)), (3, .ref (s0.heap.size + 48)), (4, .int (zI i))] [] g' K' (cells + 1) (slots + 6)) : XW s0 D p l e room_1 s0 m args below meth c Q 120 [(0, .ref sb), (1, .ref (s0.heap.size + 0)), (2, .ref (s0.heap.size + 33)), (3, .ref (s0.heap.size + 48)), (4, .int (zI i))] [] g K cells slots := by
  have f0 := H1.1
  have f1 := H1.2.1
  have f2 := H1.2.2.1
  have f3 := H1.2.2.2.1
  have f4 := H1.2.2.2.2.1
  have f5 := H1.2.2.2.2.2.1
  have f6 := H1.2.2.2.2.2.2.1
  have f7 := H1.2.2.2.2.2.2.2.1
  have f8 := H1.2.2.2.2.2.2.2.2.1
  have f9 := H1.2.2.2.2.2.2.2.2.2.1
  have f10 := H1.2.2.2.2.2.2.2.2.2.2.1
  have f11 := H1.2.2.2.2.2.2.2.2.2.2.2.1
  have f12 := H1.2.2.2.2.2.2.2.2.2.2.2.2.1
  have f13 := H1.2.2.2.2.2.2.2.2.2.2.2.2.2.1
  have f14 := H1.2.2.2.2.2.2.2.2.2.2.2.2.2.2.1
  have f15 := H1.2.2.2.2.2.2.2.2.2.2.2.2.2.2.2.1
  have f16 := H1.2.2.2.2.2.2.2.2.2.2.2.2.2.2.2.2.1
  have f17 := H1.2.2.2.2.2.2.2.2.2.2.2.2.2.2.2.2.2.1
  have f18 := H1.2.2.2.2.2.2.2.2.2.2.2.2.2.2.2.2.2.2.1
  have f19 := H1.2.2.2.2.2.2.2.2.2.2.2.2.2.2.2.2.2.2.2.1
  have f20 := H1.2.2.2.2.2.2.2.2.2.2.2.2.2.2.2.2.2.2.2.2.1
  have f21 := H1.2.2.2.2.2.2.2.2.2.2.2.2.2.2.2.2.2.2.2.2.2.1
  have f22 := H1.2.2.2.2.2.2.2.2.2.2.2.2.2.2.2.2.2.2.2.2.2.2.1
  have f23 := H1.2.2.2.2.2.2.2.2.2.2.2.2.2.2.2.2.2.2.2.2.2.2.2.1
  have f24 := H1.2.2.2.2.2.2.2.2.2.2.2.2.2.2.2.2.2.2.2.2.2.2.2.2.1
  have f25 := H1.2.2.2.2.2.2.2.2.2.2.2.2.2.2.2.2.2.2.2.2.2.2.2.2.2.1
  have f26 := H1.2.2.2.2.2.2.2.2.2.2.2.2.2.2.2.2.2.2.2.2.2.2.2.2.2.2.1
  have f27 := H1.2.2.2.2.2.2.2.2.2.2.2.2.2.2.2.2.2.2.2.2.2.2.2.2.2.2.2.1
  have f28 := H1.2.2.2.2.2.2.2.2.2.2.2.2.2.2.2.2.2.2.2.2.2.2.2.2.2.2.2.2.1
  have f29 := H1.2.2.2.2.2.2.2.2.2.2.2.2.2.2.2.2.2.2.2.2.2.2.2.2.2.2.2.2.2.1
  have f30 := H1.2.2.2.2.2.2.2.2.2.2.2.2.2.2.2.2.2.2.2.2.2.2.2.2.2.2.2.2.2.2.1
  have f31 := H1.2.2.2.2.2.2.2.2.2.2.2.2.2.2.2.2.2.2.2.2.2.2.2.2.2.2.2.2.2.2.2.1
  have f32 := H1.2.2.2.2.2.2.2.2.2.2.2.2.2.2.2.2.2.2.2.2.2.2.2.2.2.2.2.2.2.2.2.2
  have m33 := H2.1
  have m34 := H2.2.1
  have m35 := H2.2.2.1
  have m36 := H2.2.2.2.1
  have m37 := H2.2.2.2.2.1
  have m38 := H2.2.2.2.2.2.1
  have m39 := H2.2.2.2.2.2.2.1
  have m40 := H2.2.2.2.2.2.2.2.1
  have m41 := H2.2.2.2.2.2.2.2.2.1
  have m42 := H2.2.2.2.2.2.2.2.2.2.1
  have m43 := H2.2.2.2.2.2.2.2.2.2.2.1
  have m44 := H2.2.2.2.2.2.2.2.2.2.2.2.1
  have m45 := H2.2.2.2.2.2.2.2.2.2.2.2.2.1
  have m46 := H2.2.2.2.2.2.2.2.2.2.2.2.2.2.1
  have m47 := H2.2.2.2.2.2.2.2.2.2.2.2.2.2.2
  have hhas := H3.1
  have hns := H3.2.1
  have hsz := H3.2.2.1
  have hnr := H3.2.2.2.1
  have hcc := H3.2.2.2.2.1
  have hnk := H3.2.2.2.2.2.1
  have hsrc := H3.2.2.2.2.2.2.1
  have hPb := H3.2.2.2.2.2.2.2.1
  have htb := H3.2.2.2.2.2.2.2.2.1
  have htn := H3.2.2.2.2.2.2.2.2.2.1
  have hq0 := H3.2.2.2.2.2.2.2.2.2.2.1
  have hm0 := H3.2.2.2.2.2.2.2.2.2.2.2.1
  have hG := H3.2.2.2.2.2.2.2.2.2.2.2.2.1
  have hvt := H3.2.2.2.2.2.2.2.2.2.2.2.2.2.1
  have hw4 := H3.2.2.2.2.2.2.2.2.2.2.2.2.2.2.1
  have hkp := H3.2.2.2.2.2.2.2.2.2.2.2.2.2.2.2
  have sv1 := sv_b (xs (i + 1).toNat)
  have sv2 := sv_b (xs (i + 2).toNat)
  by_cases hb : (0 ≤ (xs (i + 1).toNat).toInt ∧ (xs (i + 1).toNat).toInt ≤ 255) ∧ ns < 120
  · refine x_aload_n C d_La_law_120 rfl ?_
    refine x_aload_n C d_La_law_121 rfl ?_
    refine x_iload C d_La_law_122 rfl ?_
    refine x_iconst C d_La_law_124 ?_
    refine x_iadd C d_La_law_125 ?_
    refine x_sld C hX hbl d_La_law_126 (by omega) (by omega) (by omega) ?_
    refine x_callVR C (G_Np E.1) (u_283 E.1) (u_284 E.1) (u_285 E.1) (u_286 E.1) (u_1 E.1) d_La_law_127 (c_Np_type1 l E f0 f1 f2 hns.1 hns.2 hb.1 hb.2) nh_Np_type ln_Np_type rfl f0 (nle rfl) (nle rfl) (nle rfl) (by show _ ≤ 601024; omega) (by show _ ≤ 7293000; omega) ?_
    refine x_aload_n C d_La_law_130 rfl ?_
    refine x_aload_n C d_La_law_131 rfl ?_
    refine x_iload C d_La_law_132 rfl ?_
    refine x_iconst C d_La_law_134 ?_
    refine x_iadd C d_La_law_135 ?_
    refine x_sld C hX hbl d_La_law_136 (by omega) (by omega) (by omega) ?_
    refine XW.heq (h' := sM s0.heap.size cI (a_up (a_up g 2 (iA cI 120 (zup src ns (xs (i + 1).toNat).toInt))) 1 (oBy s0.heap.size 2 (ns + 1))) (ft, cc, ns, sz, nr, has, nk) (c0, v)) (sM_eq (by exact m33) (by exact m41) (by exact m42) (by exact m43) (by exact m44) (by exact m45) (by exact m46) (by exact m47) (fun q _ _ _ _ _ _ _ _ => rfl)) ?_
    refine x_callVR C (G_Mo E.1) (u_871 E.1) (u_872 E.1) (u_873 E.1) (u_874 E.1) (u_13 E.1) d_La_law_137 (c_Mo_type1 l E (by exact m34) hns.1 hns.2 hb.1 hb.2 sv1.1 sv1.2) nh_Mo_type ln_Mo_type rfl (by rfl) (nle rfl) (nle rfl) (nle rfl) (by show _ ≤ 601024; omega) (by show _ ≤ 7293000; omega) ?_
    refine x_same C (tgt := 558) d_La_law_140 (by decide) ?_
    exact XW.widen (by omega) (by omega) (kk _ _ ⟨kp, np, has, (ns + 1), sz, nr, (zup src ns (xs (i + 1).toNat).toInt), P, res, kc, w8, w12, n8, n12, p1, p2, p3, p4, p5, a1, a2, a3, a4, t, x, d, q0, m0, 0, nk, c0, v, Lr, f, ⟨(by exact f0), rfl, rfl, (by exact f3), (by exact f4), (by exact f5), (by exact f6), (by exact f7), (by exact f8), (by exact f9), (by exact f10), (by exact f11), (by exact f12), (by exact f13), (by exact f14), (by exact f15), (by exact f16), (by exact f17), (by exact f18), (by exact f19), (by exact f20), (by exact f21), (by exact f22), (by exact f23), (by exact f24), (by exact f25), (by exact f26), (by exact f27), (by exact f28), (by exact f29), (by exact f30), (by exact f31), (by exact f32)⟩, ⟨rfl, rfl, (by exact m35), (by exact m36), (by exact m37), (by exact m38), (by exact m39), (by exact m40), rfl, rfl, rfl, rfl, rfl, rfl, rfl⟩, (by exact o48), ⟨hhas, ⟨by omega, by omega⟩, hsz, hnr, hcc, hnk, (zup_all (Q := fun z => 0 ≤ z ∧ z < 256) hsrc (by omega)), hPb, htb, htn, hq0, hm0, hG, hvt, hw4, hkp⟩⟩)
  · refine x_aload_n C d_La_law_120 rfl ?_
    refine x_aload_n C d_La_law_121 rfl ?_
    refine x_iload C d_La_law_122 rfl ?_
    refine x_iconst C d_La_law_124 ?_
    refine x_iadd C d_La_law_125 ?_
    refine x_sld C hX hbl d_La_law_126 (by omega) (by omega) (by omega) ?_
    refine x_callVR C (G_Np E.1) (u_283 E.1) (u_284 E.1) (u_285 E.1) (u_286 E.1) (u_1 E.1) d_La_law_127 (c_Np_type0 l E f0 f1 f2 hns.1 hns.2 (by omega) sv1.1 sv1.2) nh_Np_type ln_Np_type rfl f0 (nle rfl) (nle rfl) (nle rfl) (by show _ ≤ 601024; omega) (by show _ ≤ 7293000; omega) ?_
    refine x_aload_n C d_La_law_130 rfl ?_
    refine x_aload_n C d_La_law_131 rfl ?_
    refine x_iload C d_La_law_132 rfl ?_
    refine x_iconst C d_La_law_134 ?_
    refine x_iadd C d_La_law_135 ?_
    refine x_sld C hX hbl d_La_law_136 (by omega) (by omega) (by omega) ?_
    refine XW.heq (h' := sM s0.heap.size cI (g) (ft, cc, ns, sz, nr, has, nk) (c0, v)) (sM_eq (by exact m33) (by exact m41) (by exact m42) (by exact m43) (by exact m44) (by exact m45) (by exact m46) (by exact m47) (fun q _ _ _ _ _ _ _ _ => rfl)) ?_
    refine x_callVR C (G_Mo E.1) (u_871 E.1) (u_872 E.1) (u_873 E.1) (u_874 E.1) (u_13 E.1) d_La_law_137 (c_Mo_type0 l E (by exact m34) hns.1 hns.2 (by show ¬ (0 ≤ (xs (i + 1).toNat).toInt ∧ (xs (i + 1).toNat).toInt ≤ 255) ∨ ns = 120; omega) sv1.1 sv1.2) nh_Mo_type ln_Mo_type rfl (by rfl) (nle rfl) (nle rfl) (nle rfl) (by show _ ≤ 601024; omega) (by show _ ≤ 7293000; omega) ?_
    refine x_same C (tgt := 558) d_La_law_140 (by decide) ?_
    exact XW.widen (by omega) (by omega) (kk _ _ ⟨kp, np, has, ns, sz, nr, src, P, res, kc, w8, w12, n8, n12, p1, p2, p3, p4, p5, a1, a2, a3, a4, t, x, d, q0, m0, 0, nk, c0, v, Lr, f, ⟨(by exact f0), (by exact f1), (by exact f2), (by exact f3), (by exact f4), (by exact f5), (by exact f6), (by exact f7), (by exact f8), (by exact f9), (by exact f10), (by exact f11), (by exact f12), (by exact f13), (by exact f14), (by exact f15), (by exact f16), (by exact f17), (by exact f18), (by exact f19), (by exact f20), (by exact f21), (by exact f22), (by exact f23), (by exact f24), (by exact f25), (by exact f26), (by exact f27), (by exact f28), (by exact f29), (by exact f30), (by exact f31), (by exact f32)⟩, ⟨rfl, (by exact m34), (by exact m35), (by exact m36), (by exact m37), (by exact m38), (by exact m39), (by exact m40), rfl, rfl, rfl, rfl, rfl, rfl, rfl⟩, (by exact o48), ⟨hhas, hns, hsz, hnr, hcc, hnk, hsrc, hPb, htb, htn, hq0, hm0, hG, hvt, hw4, hkp⟩⟩)
set_option maxRecDepth 100000 in
set_option maxHeartbeats 4000000 in
theorem op_wipe {a0 : Array Value} {s0 : State} {D : va_G} {cI cL : ClassId} (l : Launch) (E : a_E a0 s0 D cI cL) (F : a_F l s0) (NX : a_X s0) {p : Program} {e : Env} {m : MethodId} {args : Array Value} {below : List Frame} {meth : Method} {c : Code} (C : XC s0 D cI cL p s0 m meth c "NarrowingPackerLaw" code 7 (some .boolean) []) {sb L : Nat} {xs : Nat → Int32} (hX : va_X sb L xs s0 s0.heap) (hbl : sb < s0.heap.size) (hL : L ≤ 1537) {Q : State → Prop} {cc i : Int} {K cells slots : Nat} {g : AH} (i1 : 1 ≤ i) (i2 : i + 3 ≤ (L : Int)) (hce : cells + 1 ≤ 601024) (hsl : slots + 6 ≤ 7293000) {kp : Nat} {np : Nat} {has : Int} {ns : Int} {sz : Int} {nr : Int} {src : Int → Int} {P : Int → Int} {res : Int → Int} {kc : Int → Int} {w8 : T3} {w12 : T3} {n8 : Int} {n12 : Int} {p1 : Int} {p2 : Int} {p3 : Int} {p4 : Int} {p5 : Int} {a1 : Int} {a2 : Int} {a3 : Int} {a4 : Int} {t : Hs} {x : En} {d : De} {q0 : Int → Int} {m0 : Int} {ft : Int} {nk : Int} {c0 : Cd} {v : Vw} {Lr : T3} {f : Int → Int} (H1 : LC s0.heap.size cI cc g kp np has ns sz nr src P res kc w8 w12 n8 n12 p1 p2 p3 p4 p5 a1 a2 a3 a4 t x d q0 m0 ft nk c0 v Lr f) (H2 : LM s0.heap.size cI cc g kp np has ns sz nr src P res kc w8 w12 n8 n12 p1 p2 p3 p4 p5 a1 a2 a3 a4 t x d q0 m0 ft nk c0 v Lr f) (o48 : g 48 = some (lA cL 1 f)) (H3 : LPu cc kp np has ns sz nr src P res kc w8 w12 n8 n12 p1 p2 p3 p4 p5 a1 a2 a3 a4 t x d q0 m0 ft nk c0 v Lr f) (kk : ∀ g' K', LV s0.heap.size cI cL cc g' → XW s0 D p l e room_1 s0 m args below meth c Q 558 [(0, .ref sb), (1, .ref (s0.heap.size + 0)), (2, .ref (s0.heap.size + 33)), (3, .ref (s0.heap.size + 48)), (4, .int (zI i))] [] g' K' (cells + 1) (slots + 6)) : XW s0 D p l e room_1 s0 m args below meth c Q 145 [(0, .ref sb), (1, .ref (s0.heap.size + 0)), (2, .ref (s0.heap.size + 33)), (3, .ref (s0.heap.size + 48)), (4, .int (zI i))] [] g K cells slots := by
  have f0 := H1.1
  have f1 := H1.2.1
  have f2 := H1.2.2.1
  have f3 := H1.2.2.2.1
  have f4 := H1.2.2.2.2.1
  have f5 := H1.2.2.2.2.2.1
  have f6 := H1.2.2.2.2.2.2.1
  have f7 := H1.2.2.2.2.2.2.2.1
  have f8 := H1.2.2.2.2.2.2.2.2.1
  have f9 := H1.2.2.2.2.2.2.2.2.2.1
  have f10 := H1.2.2.2.2.2.2.2.2.2.2.1
  have f11 := H1.2.2.2.2.2.2.2.2.2.2.2.1
  have f12 := H1.2.2.2.2.2.2.2.2.2.2.2.2.1
  have f13 := H1.2.2.2.2.2.2.2.2.2.2.2.2.2.1
  have f14 := H1.2.2.2.2.2.2.2.2.2.2.2.2.2.2.1
  have f15 := H1.2.2.2.2.2.2.2.2.2.2.2.2.2.2.2.1
  have f16 := H1.2.2.2.2.2.2.2.2.2.2.2.2.2.2.2.2.1
  have f17 := H1.2.2.2.2.2.2.2.2.2.2.2.2.2.2.2.2.2.1
  have f18 := H1.2.2.2.2.2.2.2.2.2.2.2.2.2.2.2.2.2.2.1
  have f19 := H1.2.2.2.2.2.2.2.2.2.2.2.2.2.2.2.2.2.2.2.1
  have f20 := H1.2.2.2.2.2.2.2.2.2.2.2.2.2.2.2.2.2.2.2.2.1
  have f21 := H1.2.2.2.2.2.2.2.2.2.2.2.2.2.2.2.2.2.2.2.2.2.1
  have f22 := H1.2.2.2.2.2.2.2.2.2.2.2.2.2.2.2.2.2.2.2.2.2.2.1
  have f23 := H1.2.2.2.2.2.2.2.2.2.2.2.2.2.2.2.2.2.2.2.2.2.2.2.1
  have f24 := H1.2.2.2.2.2.2.2.2.2.2.2.2.2.2.2.2.2.2.2.2.2.2.2.2.1
  have f25 := H1.2.2.2.2.2.2.2.2.2.2.2.2.2.2.2.2.2.2.2.2.2.2.2.2.2.1
  have f26 := H1.2.2.2.2.2.2.2.2.2.2.2.2.2.2.2.2.2.2.2.2.2.2.2.2.2.2.1
  have f27 := H1.2.2.2.2.2.2.2.2.2.2.2.2.2.2.2.2.2.2.2.2.2.2.2.2.2.2.2.1
  have f28 := H1.2.2.2.2.2.2.2.2.2.2.2.2.2.2.2.2.2.2.2.2.2.2.2.2.2.2.2.2.1
  have f29 := H1.2.2.2.2.2.2.2.2.2.2.2.2.2.2.2.2.2.2.2.2.2.2.2.2.2.2.2.2.2.1
  have f30 := H1.2.2.2.2.2.2.2.2.2.2.2.2.2.2.2.2.2.2.2.2.2.2.2.2.2.2.2.2.2.2.1
  have f31 := H1.2.2.2.2.2.2.2.2.2.2.2.2.2.2.2.2.2.2.2.2.2.2.2.2.2.2.2.2.2.2.2.1
  have f32 := H1.2.2.2.2.2.2.2.2.2.2.2.2.2.2.2.2.2.2.2.2.2.2.2.2.2.2.2.2.2.2.2.2
  have m33 := H2.1
  have m34 := H2.2.1
  have m35 := H2.2.2.1
  have m36 := H2.2.2.2.1
  have m37 := H2.2.2.2.2.1
  have m38 := H2.2.2.2.2.2.1
  have m39 := H2.2.2.2.2.2.2.1
  have m40 := H2.2.2.2.2.2.2.2.1
  have m41 := H2.2.2.2.2.2.2.2.2.1
  have m42 := H2.2.2.2.2.2.2.2.2.2.1
  have m43 := H2.2.2.2.2.2.2.2.2.2.2.1
  have m44 := H2.2.2.2.2.2.2.2.2.2.2.2.1
  have m45 := H2.2.2.2.2.2.2.2.2.2.2.2.2.1
  have m46 := H2.2.2.2.2.2.2.2.2.2.2.2.2.2.1
  have m47 := H2.2.2.2.2.2.2.2.2.2.2.2.2.2.2
  have hhas := H3.1
  have hns := H3.2.1
  have hsz := H3.2.2.1
  have hnr := H3.2.2.2.1
  have hcc := H3.2.2.2.2.1
  have hnk := H3.2.2.2.2.2.1
  have hsrc := H3.2.2.2.2.2.2.1
  have hPb := H3.2.2.2.2.2.2.2.1
  have htb := H3.2.2.2.2.2.2.2.2.1
  have htn := H3.2.2.2.2.2.2.2.2.2.1
  have hq0 := H3.2.2.2.2.2.2.2.2.2.2.1
  have hm0 := H3.2.2.2.2.2.2.2.2.2.2.2.1
  have hG := H3.2.2.2.2.2.2.2.2.2.2.2.2.1
  have hvt := H3.2.2.2.2.2.2.2.2.2.2.2.2.2.1
  have hw4 := H3.2.2.2.2.2.2.2.2.2.2.2.2.2.2.1
  have hkp := H3.2.2.2.2.2.2.2.2.2.2.2.2.2.2.2
  have sv1 := sv_b (xs (i + 1).toNat)
  have sv2 := sv_b (xs (i + 2).toNat)
  refine x_aload_n C d_La_law_145 rfl ?_
  refine x_callVR C (G_Np E.1) (u_294 E.1) (u_295 E.1) (u_296 E.1) (u_297 E.1) (u_1 E.1) d_La_law_146 (c_Np_wipe l E f0 f1 f2 hns.1 hns.2) nh_Np_wipe ln_Np_wipe rfl f0 (nle rfl) (nle rfl) (nle rfl) (by show _ ≤ 601024; omega) (by show _ ≤ 7293000; omega) ?_
  refine x_aload_n C d_La_law_149 rfl ?_
  refine XW.heq (h' := sM s0.heap.size cI (a_up g 1 (oBy s0.heap.size 2 0)) (ft, cc, ns, sz, nr, has, nk) (c0, v)) (sM_eq (by exact m33) (by exact m41) (by exact m42) (by exact m43) (by exact m44) (by exact m45) (by exact m46) (by exact m47) (fun q _ _ _ _ _ _ _ _ => rfl)) ?_
  refine x_callVR C (G_Mo E.1) (u_878 E.1) (u_879 E.1) (u_880 E.1) (u_881 E.1) (u_13 E.1) d_La_law_150 (c_Mo_wipe l E) nh_Mo_wipe ln_Mo_wipe rfl (by rfl) (nle rfl) (nle rfl) (nle rfl) (by show _ ≤ 601024; omega) (by show _ ≤ 7293000; omega) ?_
  refine x_same C (tgt := 558) d_La_law_153 (by decide) ?_
  exact XW.widen (by omega) (by omega) (kk _ _ ⟨kp, np, has, 0, sz, nr, src, P, res, kc, w8, w12, n8, n12, p1, p2, p3, p4, p5, a1, a2, a3, a4, t, x, d, q0, m0, 0, nk, c0, v, Lr, f, ⟨(by exact f0), rfl, (by exact f2), (by exact f3), (by exact f4), (by exact f5), (by exact f6), (by exact f7), (by exact f8), (by exact f9), (by exact f10), (by exact f11), (by exact f12), (by exact f13), (by exact f14), (by exact f15), (by exact f16), (by exact f17), (by exact f18), (by exact f19), (by exact f20), (by exact f21), (by exact f22), (by exact f23), (by exact f24), (by exact f25), (by exact f26), (by exact f27), (by exact f28), (by exact f29), (by exact f30), (by exact f31), (by exact f32)⟩, ⟨rfl, (by exact m34), (by exact m35), (by exact m36), (by exact m37), (by exact m38), (by exact m39), (by exact m40), rfl, rfl, rfl, rfl, rfl, rfl, rfl⟩, (by exact o48), ⟨hhas, ⟨by omega, by omega⟩, hsz, hnr, hcc, hnk, hsrc, hPb, htb, htn, hq0, hm0, hG, hvt, hw4, hkp⟩⟩)
set_option maxRecDepth 100000 in
set_option maxHeartbeats 4000000 in
theorem op_packets {a0 : Array Value} {s0 : State} {D : va_G} {cI cL : ClassId} (l : Launch) (E : a_E a0 s0 D cI cL) (F : a_F l s0) (NX : a_X s0) {p : Program} {e : Env} {m : MethodId} {args : Array Value} {below : List Frame} {meth : Method} {c : Code} (C : XC s0 D cI cL p s0 m meth c "NarrowingPackerLaw" code 7 (some .boolean) []) {sb L : Nat} {xs : Nat → Int32} (hX : va_X sb L xs s0 s0.heap) (hbl : sb < s0.heap.size) (hL : L ≤ 1537) {Q : State → Prop} {cc i : Int} {K cells slots : Nat} {g : AH} (i1 : 1 ≤ i) (i2 : i + 3 ≤ (L : Int)) (hce : cells + 1 ≤ 601024) (hsl : slots + 6 ≤ 7293000) {kp : Nat} {np : Nat} {has : Int} {ns : Int} {sz : Int} {nr : Int} {src : Int → Int} {P : Int → Int} {res : Int → Int} {kc : Int → Int} {w8 : T3} {w12 : T3} {n8 : Int} {n12 : Int} {p1 : Int} {p2 : Int} {p3 : Int} {p4 : Int} {p5 : Int} {a1 : Int} {a2 : Int} {a3 : Int} {a4 : Int} {t : Hs} {x : En} {d : De} {q0 : Int → Int} {m0 : Int} {ft : Int} {nk : Int} {c0 : Cd} {v : Vw} {Lr : T3} {f : Int → Int} (H1 : LC s0.heap.size cI cc g kp np has ns sz nr src P res kc w8 w12 n8 n12 p1 p2 p3 p4 p5 a1 a2 a3 a4 t x d q0 m0 ft nk c0 v Lr f) (H2 : LM s0.heap.size cI cc g kp np has ns sz nr src P res kc w8 w12 n8 n12 p1 p2 p3 p4 p5 a1 a2 a3 a4 t x d q0 m0 ft nk c0 v Lr f) (o48 : g 48 = some (lA cL 1 f)) (H3 : LPu cc kp np has ns sz nr src P res kc w8 w12 n8 n12 p1 p2 p3 p4 p5 a1 a2 a3 a4 t x d q0 m0 ft nk c0 v Lr f) (kk : ∀ g' K', LV s0.heap.size cI cL cc g' → XW s0 D p l e room_1 s0 m args below meth c Q 558 [(0, .ref sb), (1, .ref (s0.heap.size + 0)), (2, .ref (s0.heap.size + 33)), (3, .ref (s0.heap.size + 48)), (4, .int (zI i))] [] g' K' (cells + 1) (slots + 6)) : XW s0 D p l e room_1 s0 m args below meth c Q 202 [(0, .ref sb), (1, .ref (s0.heap.size + 0)), (2, .ref (s0.heap.size + 33)), (3, .ref (s0.heap.size + 48)), (4, .int (zI i))] [] g K cells slots := by
  have f0 := H1.1
  have f1 := H1.2.1
  have f2 := H1.2.2.1
  have f3 := H1.2.2.2.1
  have f4 := H1.2.2.2.2.1
  have f5 := H1.2.2.2.2.2.1
  have f6 := H1.2.2.2.2.2.2.1
  have f7 := H1.2.2.2.2.2.2.2.1
  have f8 := H1.2.2.2.2.2.2.2.2.1
  have f9 := H1.2.2.2.2.2.2.2.2.2.1
  have f10 := H1.2.2.2.2.2.2.2.2.2.2.1
  have f11 := H1.2.2.2.2.2.2.2.2.2.2.2.1
  have f12 := H1.2.2.2.2.2.2.2.2.2.2.2.2.1
  have f13 := H1.2.2.2.2.2.2.2.2.2.2.2.2.2.1
  have f14 := H1.2.2.2.2.2.2.2.2.2.2.2.2.2.2.1
  have f15 := H1.2.2.2.2.2.2.2.2.2.2.2.2.2.2.2.1
  have f16 := H1.2.2.2.2.2.2.2.2.2.2.2.2.2.2.2.2.1
  have f17 := H1.2.2.2.2.2.2.2.2.2.2.2.2.2.2.2.2.2.1
  have f18 := H1.2.2.2.2.2.2.2.2.2.2.2.2.2.2.2.2.2.2.1
  have f19 := H1.2.2.2.2.2.2.2.2.2.2.2.2.2.2.2.2.2.2.2.1
  have f20 := H1.2.2.2.2.2.2.2.2.2.2.2.2.2.2.2.2.2.2.2.2.1
  have f21 := H1.2.2.2.2.2.2.2.2.2.2.2.2.2.2.2.2.2.2.2.2.2.1
  have f22 := H1.2.2.2.2.2.2.2.2.2.2.2.2.2.2.2.2.2.2.2.2.2.2.1
  have f23 := H1.2.2.2.2.2.2.2.2.2.2.2.2.2.2.2.2.2.2.2.2.2.2.2.1
  have f24 := H1.2.2.2.2.2.2.2.2.2.2.2.2.2.2.2.2.2.2.2.2.2.2.2.2.1
  have f25 := H1.2.2.2.2.2.2.2.2.2.2.2.2.2.2.2.2.2.2.2.2.2.2.2.2.2.1
  have f26 := H1.2.2.2.2.2.2.2.2.2.2.2.2.2.2.2.2.2.2.2.2.2.2.2.2.2.2.1
  have f27 := H1.2.2.2.2.2.2.2.2.2.2.2.2.2.2.2.2.2.2.2.2.2.2.2.2.2.2.2.1
  have f28 := H1.2.2.2.2.2.2.2.2.2.2.2.2.2.2.2.2.2.2.2.2.2.2.2.2.2.2.2.2.1
  have f29 := H1.2.2.2.2.2.2.2.2.2.2.2.2.2.2.2.2.2.2.2.2.2.2.2.2.2.2.2.2.2.1
  have f30 := H1.2.2.2.2.2.2.2.2.2.2.2.2.2.2.2.2.2.2.2.2.2.2.2.2.2.2.2.2.2.2.1
  have f31 := H1.2.2.2.2.2.2.2.2.2.2.2.2.2.2.2.2.2.2.2.2.2.2.2.2.2.2.2.2.2.2.2.1
  have f32 := H1.2.2.2.2.2.2.2.2.2.2.2.2.2.2.2.2.2.2.2.2.2.2.2.2.2.2.2.2.2.2.2.2
  have m33 := H2.1
  have m34 := H2.2.1
  have m35 := H2.2.2.1
  have m36 := H2.2.2.2.1
  have m37 := H2.2.2.2.2.1
  have m38 := H2.2.2.2.2.2.1
  have m39 := H2.2.2.2.2.2.2.1
  have m40 := H2.2.2.2.2.2.2.2.1
  have m41 := H2.2.2.2.2.2.2.2.2.1
  have m42 := H2.2.2.2.2.2.2.2.2.2.1
  have m43 := H2.2.2.2.2.2.2.2.2.2.2.1
  have m44 := H2.2.2.2.2.2.2.2.2.2.2.2.1
  have m45 := H2.2.2.2.2.2.2.2.2.2.2.2.2.1
  have m46 := H2.2.2.2.2.2.2.2.2.2.2.2.2.2.1
  have m47 := H2.2.2.2.2.2.2.2.2.2.2.2.2.2.2
  have hhas := H3.1
  have hns := H3.2.1
  have hsz := H3.2.2.1
  have hnr := H3.2.2.2.1
  have hcc := H3.2.2.2.2.1
  have hnk := H3.2.2.2.2.2.1
  have hsrc := H3.2.2.2.2.2.2.1
  have hPb := H3.2.2.2.2.2.2.2.1
  have htb := H3.2.2.2.2.2.2.2.2.1
  have htn := H3.2.2.2.2.2.2.2.2.2.1
  have hq0 := H3.2.2.2.2.2.2.2.2.2.2.1
  have hm0 := H3.2.2.2.2.2.2.2.2.2.2.2.1
  have hG := H3.2.2.2.2.2.2.2.2.2.2.2.2.1
  have hvt := H3.2.2.2.2.2.2.2.2.2.2.2.2.2.1
  have hw4 := H3.2.2.2.2.2.2.2.2.2.2.2.2.2.2.1
  have hkp := H3.2.2.2.2.2.2.2.2.2.2.2.2.2.2.2
  have sv1 := sv_b (xs (i + 1).toNat)
  have sv2 := sv_b (xs (i + 2).toNat)
  rcases hkp with ⟨rfl, rfl, e1, e2⟩ | ⟨rfl, rfl, e1, e2⟩
  · refine x_aload_n C d_La_law_202 rfl ?_
    refine x_callVR C (G_Np E.1) (u_304 E.1) (u_305 E.1) (u_306 E.1) (u_307 E.1) (u_1 E.1) d_La_law_203 (c_Np_packets l E f0 f8) nh_Np_packets ln_Np_packets rfl f0 (nle rfl) (nle rfl) (nle rfl) (by show _ ≤ 601024; omega) (by show _ ≤ 7293000; omega) ?_
    refine x_aload_n C d_La_law_206 rfl ?_
    refine XW.heq (h' := sM s0.heap.size cI (g) (ft, cc, ns, sz, nr, has, nk) (c0, v)) (sM_eq (by exact m33) (by exact m41) (by exact m42) (by exact m43) (by exact m44) (by exact m45) (by exact m46) (by exact m47) (fun q _ _ _ _ _ _ _ _ => rfl)) ?_
    refine x_callVR C (G_Mo E.1) (u_969 E.1) (u_970 E.1) (u_971 E.1) (u_972 E.1) (u_13 E.1) d_La_law_207 (c_Mo_packets l E) nh_Mo_packets ln_Mo_packets rfl (by rfl) (nle rfl) (nle rfl) (nle rfl) (by show _ ≤ 601024; omega) (by show _ ≤ 7293000; omega) ?_
    refine XW.steq (st' := [.int (zI nk), .int (zI nk)]) (by rw [e1]; first | done | rfl) ?_
    refine x_same C (tgt := 558) d_La_law_210 (by decide) ?_
    exact XW.widen (by omega) (by omega) (kk _ _ ⟨8, 12, has, ns, sz, nr, src, P, res, kc, w8, w12, n8, n12, p1, p2, p3, p4, p5, a1, a2, a3, a4, t, x, d, q0, m0, 0, nk, c0, v, Lr, f, ⟨(by exact f0), (by exact f1), (by exact f2), (by exact f3), (by exact f4), (by exact f5), (by exact f6), (by exact f7), (by exact f8), (by exact f9), (by exact f10), (by exact f11), (by exact f12), (by exact f13), (by exact f14), (by exact f15), (by exact f16), (by exact f17), (by exact f18), (by exact f19), (by exact f20), (by exact f21), (by exact f22), (by exact f23), (by exact f24), (by exact f25), (by exact f26), (by exact f27), (by exact f28), (by exact f29), (by exact f30), (by exact f31), (by exact f32)⟩, ⟨rfl, (by exact m34), (by exact m35), (by exact m36), (by exact m37), (by exact m38), (by exact m39), (by exact m40), rfl, rfl, rfl, rfl, rfl, rfl, rfl⟩, (by exact o48), ⟨hhas, hns, hsz, hnr, hcc, hnk, hsrc, hPb, htb, htn, hq0, hm0, hG, hvt, hw4, (Or.inl ⟨rfl, rfl, e1, e2⟩)⟩⟩)
  · refine x_aload_n C d_La_law_202 rfl ?_
    refine x_callVR C (G_Np E.1) (u_304 E.1) (u_305 E.1) (u_306 E.1) (u_307 E.1) (u_1 E.1) d_La_law_203 (c_Np_packets l E f0 f12) nh_Np_packets ln_Np_packets rfl f0 (nle rfl) (nle rfl) (nle rfl) (by show _ ≤ 601024; omega) (by show _ ≤ 7293000; omega) ?_
    refine x_aload_n C d_La_law_206 rfl ?_
    refine XW.heq (h' := sM s0.heap.size cI (g) (ft, cc, ns, sz, nr, has, nk) (c0, v)) (sM_eq (by exact m33) (by exact m41) (by exact m42) (by exact m43) (by exact m44) (by exact m45) (by exact m46) (by exact m47) (fun q _ _ _ _ _ _ _ _ => rfl)) ?_
    refine x_callVR C (G_Mo E.1) (u_969 E.1) (u_970 E.1) (u_971 E.1) (u_972 E.1) (u_13 E.1) d_La_law_207 (c_Mo_packets l E) nh_Mo_packets ln_Mo_packets rfl (by rfl) (nle rfl) (nle rfl) (nle rfl) (by show _ ≤ 601024; omega) (by show _ ≤ 7293000; omega) ?_
    refine XW.steq (st' := [.int (zI nk), .int (zI nk)]) (by rw [e1]; first | done | rfl) ?_
    refine x_same C (tgt := 558) d_La_law_210 (by decide) ?_
    exact XW.widen (by omega) (by omega) (kk _ _ ⟨12, 8, has, ns, sz, nr, src, P, res, kc, w8, w12, n8, n12, p1, p2, p3, p4, p5, a1, a2, a3, a4, t, x, d, q0, m0, 0, nk, c0, v, Lr, f, ⟨(by exact f0), (by exact f1), (by exact f2), (by exact f3), (by exact f4), (by exact f5), (by exact f6), (by exact f7), (by exact f8), (by exact f9), (by exact f10), (by exact f11), (by exact f12), (by exact f13), (by exact f14), (by exact f15), (by exact f16), (by exact f17), (by exact f18), (by exact f19), (by exact f20), (by exact f21), (by exact f22), (by exact f23), (by exact f24), (by exact f25), (by exact f26), (by exact f27), (by exact f28), (by exact f29), (by exact f30), (by exact f31), (by exact f32)⟩, ⟨rfl, (by exact m34), (by exact m35), (by exact m36), (by exact m37), (by exact m38), (by exact m39), (by exact m40), rfl, rfl, rfl, rfl, rfl, rfl, rfl⟩, (by exact o48), ⟨hhas, hns, hsz, hnr, hcc, hnk, hsrc, hPb, htb, htn, hq0, hm0, hG, hvt, hw4, (Or.inr ⟨rfl, rfl, e1, e2⟩)⟩⟩)
theorem tell_ag {T T' : T3} {n : Int} (h : tag T T' n) (i wh : Int) : tellZ T n i wh = tellZ T' n i wh := by
  unfold tellZ
  by_cases c : 0 ≤ i ∧ i < n
  · rw [if_pos c, if_pos c]
    obtain ⟨q1, q2, q3⟩ := h i c.1 c.2
    rw [q1, q2, q3]
  · rw [if_neg c, if_neg c]
set_option maxRecDepth 100000 in
set_option maxHeartbeats 4000000 in
theorem op_packet {a0 : Array Value} {s0 : State} {D : va_G} {cI cL : ClassId} (l : Launch) (E : a_E a0 s0 D cI cL) (F : a_F l s0) (NX : a_X s0) {p : Program} {e : Env} {m : MethodId} {args : Array Value} {below : List Frame} {meth : Method} {c : Code} (C : XC s0 D cI cL p s0 m meth c "NarrowingPackerLaw" code 7 (some .boolean) []) {sb L : Nat} {xs : Nat → Int32} (hX : va_X sb L xs s0 s0.heap) (hbl : sb < s0.heap.size) (hL : L ≤ 1537) {Q : State → Prop} {cc i : Int} {K cells slots : Nat} {g : AH} (i1 : 1 ≤ i) (i2 : i + 3 ≤ (L : Int)) (hce : cells + 1 ≤ 601024) (hsl : slots + 6 ≤ 7293000) {kp : Nat} {np : Nat} {has : Int} {ns : Int} {sz : Int} {nr : Int} {src : Int → Int} {P : Int → Int} {res : Int → Int} {kc : Int → Int} {w8 : T3} {w12 : T3} {n8 : Int} {n12 : Int} {p1 : Int} {p2 : Int} {p3 : Int} {p4 : Int} {p5 : Int} {a1 : Int} {a2 : Int} {a3 : Int} {a4 : Int} {t : Hs} {x : En} {d : De} {q0 : Int → Int} {m0 : Int} {ft : Int} {nk : Int} {c0 : Cd} {v : Vw} {Lr : T3} {f : Int → Int} (H1 : LC s0.heap.size cI cc g kp np has ns sz nr src P res kc w8 w12 n8 n12 p1 p2 p3 p4 p5 a1 a2 a3 a4 t x d q0 m0 ft nk c0 v Lr f) (H2 : LM s0.heap.size cI cc g kp np has ns sz nr src P res kc w8 w12 n8 n12 p1 p2 p3 p4 p5 a1 a2 a3 a4 t x d q0 m0 ft nk c0 v Lr f) (o48 : g 48 = some (lA cL 1 f)) (H3 : LPu cc kp np has ns sz nr src P res kc w8 w12 n8 n12 p1 p2 p3 p4 p5 a1 a2 a3 a4 t x d q0 m0 ft nk c0 v Lr f) (kk : ∀ g' K', LV s0.heap.size cI cL cc g' → XW s0 D p l e room_1 s0 m args below meth c Q 558 [(0, .ref sb), (1, .ref (s0.heap.size + 0)), (2, .ref (s0.heap.size + 33)), (3, .ref (s0.heap.size + 48)), (4, .int (zI i))] [] g' K' (cells + 1) (slots + 6)) : XW s0 D p l e room_1 s0 m args below meth c Q 215 [(0, .ref sb), (1, .ref (s0.heap.size + 0)), (2, .ref (s0.heap.size + 33)), (3, .ref (s0.heap.size + 48)), (4, .int (zI i))] [] g K cells slots := by
  have f0 := H1.1
  have f1 := H1.2.1
  have f2 := H1.2.2.1
  have f3 := H1.2.2.2.1
  have f4 := H1.2.2.2.2.1
  have f5 := H1.2.2.2.2.2.1
  have f6 := H1.2.2.2.2.2.2.1
  have f7 := H1.2.2.2.2.2.2.2.1
  have f8 := H1.2.2.2.2.2.2.2.2.1
  have f9 := H1.2.2.2.2.2.2.2.2.2.1
  have f10 := H1.2.2.2.2.2.2.2.2.2.2.1
  have f11 := H1.2.2.2.2.2.2.2.2.2.2.2.1
  have f12 := H1.2.2.2.2.2.2.2.2.2.2.2.2.1
  have f13 := H1.2.2.2.2.2.2.2.2.2.2.2.2.2.1
  have f14 := H1.2.2.2.2.2.2.2.2.2.2.2.2.2.2.1
  have f15 := H1.2.2.2.2.2.2.2.2.2.2.2.2.2.2.2.1
  have f16 := H1.2.2.2.2.2.2.2.2.2.2.2.2.2.2.2.2.1
  have f17 := H1.2.2.2.2.2.2.2.2.2.2.2.2.2.2.2.2.2.1
  have f18 := H1.2.2.2.2.2.2.2.2.2.2.2.2.2.2.2.2.2.2.1
  have f19 := H1.2.2.2.2.2.2.2.2.2.2.2.2.2.2.2.2.2.2.2.1
  have f20 := H1.2.2.2.2.2.2.2.2.2.2.2.2.2.2.2.2.2.2.2.2.1
  have f21 := H1.2.2.2.2.2.2.2.2.2.2.2.2.2.2.2.2.2.2.2.2.2.1
  have f22 := H1.2.2.2.2.2.2.2.2.2.2.2.2.2.2.2.2.2.2.2.2.2.2.1
  have f23 := H1.2.2.2.2.2.2.2.2.2.2.2.2.2.2.2.2.2.2.2.2.2.2.2.1
  have f24 := H1.2.2.2.2.2.2.2.2.2.2.2.2.2.2.2.2.2.2.2.2.2.2.2.2.1
  have f25 := H1.2.2.2.2.2.2.2.2.2.2.2.2.2.2.2.2.2.2.2.2.2.2.2.2.2.1
  have f26 := H1.2.2.2.2.2.2.2.2.2.2.2.2.2.2.2.2.2.2.2.2.2.2.2.2.2.2.1
  have f27 := H1.2.2.2.2.2.2.2.2.2.2.2.2.2.2.2.2.2.2.2.2.2.2.2.2.2.2.2.1
  have f28 := H1.2.2.2.2.2.2.2.2.2.2.2.2.2.2.2.2.2.2.2.2.2.2.2.2.2.2.2.2.1
  have f29 := H1.2.2.2.2.2.2.2.2.2.2.2.2.2.2.2.2.2.2.2.2.2.2.2.2.2.2.2.2.2.1
  have f30 := H1.2.2.2.2.2.2.2.2.2.2.2.2.2.2.2.2.2.2.2.2.2.2.2.2.2.2.2.2.2.2.1
  have f31 := H1.2.2.2.2.2.2.2.2.2.2.2.2.2.2.2.2.2.2.2.2.2.2.2.2.2.2.2.2.2.2.2.1
  have f32 := H1.2.2.2.2.2.2.2.2.2.2.2.2.2.2.2.2.2.2.2.2.2.2.2.2.2.2.2.2.2.2.2.2
  have m33 := H2.1
  have m34 := H2.2.1
  have m35 := H2.2.2.1
  have m36 := H2.2.2.2.1
  have m37 := H2.2.2.2.2.1
  have m38 := H2.2.2.2.2.2.1
  have m39 := H2.2.2.2.2.2.2.1
  have m40 := H2.2.2.2.2.2.2.2.1
  have m41 := H2.2.2.2.2.2.2.2.2.1
  have m42 := H2.2.2.2.2.2.2.2.2.2.1
  have m43 := H2.2.2.2.2.2.2.2.2.2.2.1
  have m44 := H2.2.2.2.2.2.2.2.2.2.2.2.1
  have m45 := H2.2.2.2.2.2.2.2.2.2.2.2.2.1
  have m46 := H2.2.2.2.2.2.2.2.2.2.2.2.2.2.1
  have m47 := H2.2.2.2.2.2.2.2.2.2.2.2.2.2.2
  have hhas := H3.1
  have hns := H3.2.1
  have hsz := H3.2.2.1
  have hnr := H3.2.2.2.1
  have hcc := H3.2.2.2.2.1
  have hnk := H3.2.2.2.2.2.1
  have hsrc := H3.2.2.2.2.2.2.1
  have hPb := H3.2.2.2.2.2.2.2.1
  have htb := H3.2.2.2.2.2.2.2.2.1
  have htn := H3.2.2.2.2.2.2.2.2.2.1
  have hq0 := H3.2.2.2.2.2.2.2.2.2.2.1
  have hm0 := H3.2.2.2.2.2.2.2.2.2.2.2.1
  have hG := H3.2.2.2.2.2.2.2.2.2.2.2.2.1
  have hvt := H3.2.2.2.2.2.2.2.2.2.2.2.2.2.1
  have hw4 := H3.2.2.2.2.2.2.2.2.2.2.2.2.2.2.1
  have hkp := H3.2.2.2.2.2.2.2.2.2.2.2.2.2.2.2
  have sv1 := sv_b (xs (i + 1).toNat)
  have sv2 := sv_b (xs (i + 2).toNat)
  rcases hkp with ⟨rfl, rfl, e1, e2⟩ | ⟨rfl, rfl, e1, e2⟩
  · refine x_aload_n C d_La_law_215 rfl ?_
    refine x_aload_n C d_La_law_216 rfl ?_
    refine x_iload C d_La_law_217 rfl ?_
    refine x_iconst C d_La_law_219 ?_
    refine x_iadd C d_La_law_220 ?_
    refine x_sld C hX hbl d_La_law_221 (by omega) (by omega) (by omega) ?_
    refine x_aload_n C d_La_law_222 rfl ?_
    refine x_iload C d_La_law_223 rfl ?_
    refine x_iconst C d_La_law_225 ?_
    refine x_iadd C d_La_law_226 ?_
    refine x_sld C hX hbl d_La_law_227 (by omega) (by omega) (by omega) ?_
    refine x_callVR C (G_Np E.1) (u_308 E.1) (u_309 E.1) (u_310 E.1) (u_311 E.1) (u_1 E.1) d_La_law_228 (c_Np_packet8 l E f0 (w := w8) (n := n8) ⟨f8, f9, f10, f11⟩ (by omega) (by omega) sv1.1 sv1.2 sv2.1 sv2.2) nh_Np_packet ln_Np_packet rfl f0 (nle rfl) (nle rfl) (nle rfl) (by show _ ≤ 601024; omega) (by show _ ≤ 7293000; omega) ?_
    refine x_aload_n C d_La_law_231 rfl ?_
    refine x_aload_n C d_La_law_232 rfl ?_
    refine x_iload C d_La_law_233 rfl ?_
    refine x_iconst C d_La_law_235 ?_
    refine x_iadd C d_La_law_236 ?_
    refine x_sld C hX hbl d_La_law_237 (by omega) (by omega) (by omega) ?_
    refine x_aload_n C d_La_law_238 rfl ?_
    refine x_iload C d_La_law_239 rfl ?_
    refine x_iconst C d_La_law_241 ?_
    refine x_iadd C d_La_law_242 ?_
    refine x_sld C hX hbl d_La_law_243 (by omega) (by omega) (by omega) ?_
    refine XW.heq (h' := sM s0.heap.size cI (g) (ft, cc, ns, sz, nr, has, nk) (c0, v)) (sM_eq (by exact m33) (by exact m41) (by exact m42) (by exact m43) (by exact m44) (by exact m45) (by exact m46) (by exact m47) (fun q _ _ _ _ _ _ _ _ => rfl)) ?_
    refine x_callVR C (G_Mo E.1) (u_973 E.1) (u_974 E.1) (u_975 E.1) (u_976 E.1) (u_13 E.1) d_La_law_244 (c_Mo_packet2 l E (L := Lr) (by exact m37) (by exact m38) (by exact m39) (by exact hnk.1) (by exact hnk.2) sv1.1 sv1.2 sv2.1 sv2.2) nh_Mo_packet2 ln_Mo_packet2 rfl (by rfl) (nle rfl) (nle rfl) (nle rfl) (by show _ ≤ 601024; omega) (by show _ ≤ 7293000; omega) ?_
    refine XW.steq (st' := [.int (zI (tellZ w8 n8 (xs (i + 1).toNat).toInt (xs (i + 2).toNat).toInt)), .int (zI (tellZ w8 n8 (xs (i + 1).toNat).toInt (xs (i + 2).toNat).toInt))]) (by rw [← e1, ← tell_ag e2]; first | done | rfl) ?_
    refine x_same C (tgt := 558) d_La_law_247 (by decide) ?_
    exact XW.widen (by omega) (by omega) (kk _ _ ⟨8, 12, has, ns, sz, nr, src, P, res, kc, w8, w12, n8, n12, p1, p2, p3, p4, p5, a1, a2, a3, a4, t, x, d, q0, m0, 0, nk, c0, v, Lr, f, ⟨(by exact f0), (by exact f1), (by exact f2), (by exact f3), (by exact f4), (by exact f5), (by exact f6), (by exact f7), (by exact f8), (by exact f9), (by exact f10), (by exact f11), (by exact f12), (by exact f13), (by exact f14), (by exact f15), (by exact f16), (by exact f17), (by exact f18), (by exact f19), (by exact f20), (by exact f21), (by exact f22), (by exact f23), (by exact f24), (by exact f25), (by exact f26), (by exact f27), (by exact f28), (by exact f29), (by exact f30), (by exact f31), (by exact f32)⟩, ⟨rfl, (by exact m34), (by exact m35), (by exact m36), (by exact m37), (by exact m38), (by exact m39), (by exact m40), rfl, rfl, rfl, rfl, rfl, rfl, rfl⟩, (by exact o48), ⟨hhas, hns, hsz, hnr, hcc, hnk, hsrc, hPb, htb, htn, hq0, hm0, hG, hvt, hw4, (Or.inl ⟨rfl, rfl, e1, e2⟩)⟩⟩)
  · refine x_aload_n C d_La_law_215 rfl ?_
    refine x_aload_n C d_La_law_216 rfl ?_
    refine x_iload C d_La_law_217 rfl ?_
    refine x_iconst C d_La_law_219 ?_
    refine x_iadd C d_La_law_220 ?_
    refine x_sld C hX hbl d_La_law_221 (by omega) (by omega) (by omega) ?_
    refine x_aload_n C d_La_law_222 rfl ?_
    refine x_iload C d_La_law_223 rfl ?_
    refine x_iconst C d_La_law_225 ?_
    refine x_iadd C d_La_law_226 ?_
    refine x_sld C hX hbl d_La_law_227 (by omega) (by omega) (by omega) ?_
    refine x_callVR C (G_Np E.1) (u_308 E.1) (u_309 E.1) (u_310 E.1) (u_311 E.1) (u_1 E.1) d_La_law_228 (c_Np_packet12 l E f0 (w := w12) (n := n12) ⟨f12, f13, f14, f15⟩ (by omega) (by omega) sv1.1 sv1.2 sv2.1 sv2.2) nh_Np_packet ln_Np_packet rfl f0 (nle rfl) (nle rfl) (nle rfl) (by show _ ≤ 601024; omega) (by show _ ≤ 7293000; omega) ?_
    refine x_aload_n C d_La_law_231 rfl ?_
    refine x_aload_n C d_La_law_232 rfl ?_
    refine x_iload C d_La_law_233 rfl ?_
    refine x_iconst C d_La_law_235 ?_
    refine x_iadd C d_La_law_236 ?_
    refine x_sld C hX hbl d_La_law_237 (by omega) (by omega) (by omega) ?_
    refine x_aload_n C d_La_law_238 rfl ?_
    refine x_iload C d_La_law_239 rfl ?_
    refine x_iconst C d_La_law_241 ?_
    refine x_iadd C d_La_law_242 ?_
    refine x_sld C hX hbl d_La_law_243 (by omega) (by omega) (by omega) ?_
    refine XW.heq (h' := sM s0.heap.size cI (g) (ft, cc, ns, sz, nr, has, nk) (c0, v)) (sM_eq (by exact m33) (by exact m41) (by exact m42) (by exact m43) (by exact m44) (by exact m45) (by exact m46) (by exact m47) (fun q _ _ _ _ _ _ _ _ => rfl)) ?_
    refine x_callVR C (G_Mo E.1) (u_973 E.1) (u_974 E.1) (u_975 E.1) (u_976 E.1) (u_13 E.1) d_La_law_244 (c_Mo_packet2 l E (L := Lr) (by exact m37) (by exact m38) (by exact m39) (by exact hnk.1) (by exact hnk.2) sv1.1 sv1.2 sv2.1 sv2.2) nh_Mo_packet2 ln_Mo_packet2 rfl (by rfl) (nle rfl) (nle rfl) (nle rfl) (by show _ ≤ 601024; omega) (by show _ ≤ 7293000; omega) ?_
    refine XW.steq (st' := [.int (zI (tellZ w12 n12 (xs (i + 1).toNat).toInt (xs (i + 2).toNat).toInt)), .int (zI (tellZ w12 n12 (xs (i + 1).toNat).toInt (xs (i + 2).toNat).toInt))]) (by rw [← e1, ← tell_ag e2]; first | done | rfl) ?_
    refine x_same C (tgt := 558) d_La_law_247 (by decide) ?_
    exact XW.widen (by omega) (by omega) (kk _ _ ⟨12, 8, has, ns, sz, nr, src, P, res, kc, w8, w12, n8, n12, p1, p2, p3, p4, p5, a1, a2, a3, a4, t, x, d, q0, m0, 0, nk, c0, v, Lr, f, ⟨(by exact f0), (by exact f1), (by exact f2), (by exact f3), (by exact f4), (by exact f5), (by exact f6), (by exact f7), (by exact f8), (by exact f9), (by exact f10), (by exact f11), (by exact f12), (by exact f13), (by exact f14), (by exact f15), (by exact f16), (by exact f17), (by exact f18), (by exact f19), (by exact f20), (by exact f21), (by exact f22), (by exact f23), (by exact f24), (by exact f25), (by exact f26), (by exact f27), (by exact f28), (by exact f29), (by exact f30), (by exact f31), (by exact f32)⟩, ⟨rfl, (by exact m34), (by exact m35), (by exact m36), (by exact m37), (by exact m38), (by exact m39), (by exact m40), rfl, rfl, rfl, rfl, rfl, rfl, rfl⟩, (by exact o48), ⟨hhas, hns, hsz, hnr, hcc, hnk, hsrc, hPb, htb, htn, hq0, hm0, hG, hvt, hw4, (Or.inr ⟨rfl, rfl, e1, e2⟩)⟩⟩)
set_option maxRecDepth 100000 in
set_option maxHeartbeats 4000000 in
theorem op_chance {a0 : Array Value} {s0 : State} {D : va_G} {cI cL : ClassId} (l : Launch) (E : a_E a0 s0 D cI cL) (F : a_F l s0) (NX : a_X s0) {p : Program} {e : Env} {m : MethodId} {args : Array Value} {below : List Frame} {meth : Method} {c : Code} (C : XC s0 D cI cL p s0 m meth c "NarrowingPackerLaw" code 7 (some .boolean) []) {sb L : Nat} {xs : Nat → Int32} (hX : va_X sb L xs s0 s0.heap) (hbl : sb < s0.heap.size) (hL : L ≤ 1537) {Q : State → Prop} {cc i : Int} {K cells slots : Nat} {g : AH} (i1 : 1 ≤ i) (i2 : i + 3 ≤ (L : Int)) (hce : cells + 1 ≤ 601024) (hsl : slots + 6 ≤ 7293000) {kp : Nat} {np : Nat} {has : Int} {ns : Int} {sz : Int} {nr : Int} {src : Int → Int} {P : Int → Int} {res : Int → Int} {kc : Int → Int} {w8 : T3} {w12 : T3} {n8 : Int} {n12 : Int} {p1 : Int} {p2 : Int} {p3 : Int} {p4 : Int} {p5 : Int} {a1 : Int} {a2 : Int} {a3 : Int} {a4 : Int} {t : Hs} {x : En} {d : De} {q0 : Int → Int} {m0 : Int} {ft : Int} {nk : Int} {c0 : Cd} {v : Vw} {Lr : T3} {f : Int → Int} (H1 : LC s0.heap.size cI cc g kp np has ns sz nr src P res kc w8 w12 n8 n12 p1 p2 p3 p4 p5 a1 a2 a3 a4 t x d q0 m0 ft nk c0 v Lr f) (H2 : LM s0.heap.size cI cc g kp np has ns sz nr src P res kc w8 w12 n8 n12 p1 p2 p3 p4 p5 a1 a2 a3 a4 t x d q0 m0 ft nk c0 v Lr f) (o48 : g 48 = some (lA cL 1 f)) (H3 : LPu cc kp np has ns sz nr src P res kc w8 w12 n8 n12 p1 p2 p3 p4 p5 a1 a2 a3 a4 t x d q0 m0 ft nk c0 v Lr f) (kk : ∀ g' K', LV s0.heap.size cI cL cc g' → XW s0 D p l e room_1 s0 m args below meth c Q 558 [(0, .ref sb), (1, .ref (s0.heap.size + 0)), (2, .ref (s0.heap.size + 33)), (3, .ref (s0.heap.size + 48)), (4, .int (zI i))] [] g' K' (cells + 1) (slots + 6)) : XW s0 D p l e room_1 s0 m args below meth c Q 252 [(0, .ref sb), (1, .ref (s0.heap.size + 0)), (2, .ref (s0.heap.size + 33)), (3, .ref (s0.heap.size + 48)), (4, .int (zI i))] [] g K cells slots := by
  have f0 := H1.1
  have f1 := H1.2.1
  have f2 := H1.2.2.1
  have f3 := H1.2.2.2.1
  have f4 := H1.2.2.2.2.1
  have f5 := H1.2.2.2.2.2.1
  have f6 := H1.2.2.2.2.2.2.1
  have f7 := H1.2.2.2.2.2.2.2.1
  have f8 := H1.2.2.2.2.2.2.2.2.1
  have f9 := H1.2.2.2.2.2.2.2.2.2.1
  have f10 := H1.2.2.2.2.2.2.2.2.2.2.1
  have f11 := H1.2.2.2.2.2.2.2.2.2.2.2.1
  have f12 := H1.2.2.2.2.2.2.2.2.2.2.2.2.1
  have f13 := H1.2.2.2.2.2.2.2.2.2.2.2.2.2.1
  have f14 := H1.2.2.2.2.2.2.2.2.2.2.2.2.2.2.1
  have f15 := H1.2.2.2.2.2.2.2.2.2.2.2.2.2.2.2.1
  have f16 := H1.2.2.2.2.2.2.2.2.2.2.2.2.2.2.2.2.1
  have f17 := H1.2.2.2.2.2.2.2.2.2.2.2.2.2.2.2.2.2.1
  have f18 := H1.2.2.2.2.2.2.2.2.2.2.2.2.2.2.2.2.2.2.1
  have f19 := H1.2.2.2.2.2.2.2.2.2.2.2.2.2.2.2.2.2.2.2.1
  have f20 := H1.2.2.2.2.2.2.2.2.2.2.2.2.2.2.2.2.2.2.2.2.1
  have f21 := H1.2.2.2.2.2.2.2.2.2.2.2.2.2.2.2.2.2.2.2.2.2.1
  have f22 := H1.2.2.2.2.2.2.2.2.2.2.2.2.2.2.2.2.2.2.2.2.2.2.1
  have f23 := H1.2.2.2.2.2.2.2.2.2.2.2.2.2.2.2.2.2.2.2.2.2.2.2.1
  have f24 := H1.2.2.2.2.2.2.2.2.2.2.2.2.2.2.2.2.2.2.2.2.2.2.2.2.1
  have f25 := H1.2.2.2.2.2.2.2.2.2.2.2.2.2.2.2.2.2.2.2.2.2.2.2.2.2.1
  have f26 := H1.2.2.2.2.2.2.2.2.2.2.2.2.2.2.2.2.2.2.2.2.2.2.2.2.2.2.1
  have f27 := H1.2.2.2.2.2.2.2.2.2.2.2.2.2.2.2.2.2.2.2.2.2.2.2.2.2.2.2.1
  have f28 := H1.2.2.2.2.2.2.2.2.2.2.2.2.2.2.2.2.2.2.2.2.2.2.2.2.2.2.2.2.1
  have f29 := H1.2.2.2.2.2.2.2.2.2.2.2.2.2.2.2.2.2.2.2.2.2.2.2.2.2.2.2.2.2.1
  have f30 := H1.2.2.2.2.2.2.2.2.2.2.2.2.2.2.2.2.2.2.2.2.2.2.2.2.2.2.2.2.2.2.1
  have f31 := H1.2.2.2.2.2.2.2.2.2.2.2.2.2.2.2.2.2.2.2.2.2.2.2.2.2.2.2.2.2.2.2.1
  have f32 := H1.2.2.2.2.2.2.2.2.2.2.2.2.2.2.2.2.2.2.2.2.2.2.2.2.2.2.2.2.2.2.2.2
  have m33 := H2.1
  have m34 := H2.2.1
  have m35 := H2.2.2.1
  have m36 := H2.2.2.2.1
  have m37 := H2.2.2.2.2.1
  have m38 := H2.2.2.2.2.2.1
  have m39 := H2.2.2.2.2.2.2.1
  have m40 := H2.2.2.2.2.2.2.2.1
  have m41 := H2.2.2.2.2.2.2.2.2.1
  have m42 := H2.2.2.2.2.2.2.2.2.2.1
  have m43 := H2.2.2.2.2.2.2.2.2.2.2.1
  have m44 := H2.2.2.2.2.2.2.2.2.2.2.2.1
  have m45 := H2.2.2.2.2.2.2.2.2.2.2.2.2.1
  have m46 := H2.2.2.2.2.2.2.2.2.2.2.2.2.2.1
  have m47 := H2.2.2.2.2.2.2.2.2.2.2.2.2.2.2
  have hhas := H3.1
  have hns := H3.2.1
  have hsz := H3.2.2.1
  have hnr := H3.2.2.2.1
  have hcc := H3.2.2.2.2.1
  have hnk := H3.2.2.2.2.2.1
  have hsrc := H3.2.2.2.2.2.2.1
  have hPb := H3.2.2.2.2.2.2.2.1
  have htb := H3.2.2.2.2.2.2.2.2.1
  have htn := H3.2.2.2.2.2.2.2.2.2.1
  have hq0 := H3.2.2.2.2.2.2.2.2.2.2.1
  have hm0 := H3.2.2.2.2.2.2.2.2.2.2.2.1
  have hG := H3.2.2.2.2.2.2.2.2.2.2.2.2.1
  have hvt := H3.2.2.2.2.2.2.2.2.2.2.2.2.2.1
  have hw4 := H3.2.2.2.2.2.2.2.2.2.2.2.2.2.2.1
  have hkp := H3.2.2.2.2.2.2.2.2.2.2.2.2.2.2.2
  have sv1 := sv_b (xs (i + 1).toNat)
  have sv2 := sv_b (xs (i + 2).toNat)
  refine x_aload_n C d_La_law_252 rfl ?_
  refine x_aload_n C d_La_law_253 rfl ?_
  refine x_iload C d_La_law_254 rfl ?_
  refine x_iconst C d_La_law_256 ?_
  refine x_iadd C d_La_law_257 ?_
  refine x_sld C hX hbl d_La_law_258 (by omega) (by omega) (by omega) ?_
  refine x_aload_n C d_La_law_259 rfl ?_
  refine x_iload C d_La_law_260 rfl ?_
  refine x_iconst C d_La_law_262 ?_
  refine x_iadd C d_La_law_263 ?_
  refine x_sld C hX hbl d_La_law_264 (by omega) (by omega) (by omega) ?_
  refine x_callVR C (G_Np E.1) (u_316 E.1) (u_317 E.1) (u_318 E.1) (u_319 E.1) (u_1 E.1) d_La_law_265 (c_Np_chance l E f0 hhas f7 sv1.1 sv1.2 sv2.1 sv2.2) nh_Np_chance ln_Np_chance rfl f0 (nle rfl) (nle rfl) (nle rfl) (by show _ ≤ 601024; omega) (by show _ ≤ 7293000; omega) ?_
  refine x_aload_n C d_La_law_268 rfl ?_
  refine x_aload_n C d_La_law_269 rfl ?_
  refine x_iload C d_La_law_270 rfl ?_
  refine x_iconst C d_La_law_272 ?_
  refine x_iadd C d_La_law_273 ?_
  refine x_sld C hX hbl d_La_law_274 (by omega) (by omega) (by omega) ?_
  refine x_aload_n C d_La_law_275 rfl ?_
  refine x_iload C d_La_law_276 rfl ?_
  refine x_iconst C d_La_law_278 ?_
  refine x_iadd C d_La_law_279 ?_
  refine x_sld C hX hbl d_La_law_280 (by omega) (by omega) (by omega) ?_
  refine XW.heq (h' := sM s0.heap.size cI (g) (ft, cc, ns, sz, nr, has, nk) (c0, v)) (sM_eq (by exact m33) (by exact m41) (by exact m42) (by exact m43) (by exact m44) (by exact m45) (by exact m46) (by exact m47) (fun q _ _ _ _ _ _ _ _ => rfl)) ?_
  refine x_callVR C (G_Mo E.1) (u_977 E.1) (u_978 E.1) (u_979 E.1) (u_980 E.1) (u_13 E.1) d_La_law_281 (c_Mo_chance l E (by exact m40) hhas sv1.1 sv1.2 sv2.1 sv2.2) nh_Mo_chance ln_Mo_chance rfl (by rfl) (nle rfl) (nle rfl) (nle rfl) (by show _ ≤ 601024; omega) (by show _ ≤ 7293000; omega) ?_
  refine x_same C (tgt := 558) d_La_law_284 (by decide) ?_
  exact XW.widen (by omega) (by omega) (kk _ _ ⟨kp, np, has, ns, sz, nr, src, P, res, kc, w8, w12, n8, n12, p1, p2, p3, p4, p5, a1, a2, a3, a4, t, x, d, q0, m0, 0, nk, c0, v, Lr, f, ⟨(by exact f0), (by exact f1), (by exact f2), (by exact f3), (by exact f4), (by exact f5), (by exact f6), (by exact f7), (by exact f8), (by exact f9), (by exact f10), (by exact f11), (by exact f12), (by exact f13), (by exact f14), (by exact f15), (by exact f16), (by exact f17), (by exact f18), (by exact f19), (by exact f20), (by exact f21), (by exact f22), (by exact f23), (by exact f24), (by exact f25), (by exact f26), (by exact f27), (by exact f28), (by exact f29), (by exact f30), (by exact f31), (by exact f32)⟩, ⟨rfl, (by exact m34), (by exact m35), (by exact m36), (by exact m37), (by exact m38), (by exact m39), (by exact m40), rfl, rfl, rfl, rfl, rfl, rfl, rfl⟩, (by exact o48), ⟨hhas, hns, hsz, hnr, hcc, hnk, hsrc, hPb, htb, htn, hq0, hm0, hG, hvt, hw4, hkp⟩⟩)
set_option maxRecDepth 100000 in
set_option maxHeartbeats 4000000 in
theorem op_size {a0 : Array Value} {s0 : State} {D : va_G} {cI cL : ClassId} (l : Launch) (E : a_E a0 s0 D cI cL) (F : a_F l s0) (NX : a_X s0) {p : Program} {e : Env} {m : MethodId} {args : Array Value} {below : List Frame} {meth : Method} {c : Code} (C : XC s0 D cI cL p s0 m meth c "NarrowingPackerLaw" code 7 (some .boolean) []) {sb L : Nat} {xs : Nat → Int32} (hX : va_X sb L xs s0 s0.heap) (hbl : sb < s0.heap.size) (hL : L ≤ 1537) {Q : State → Prop} {cc i : Int} {K cells slots : Nat} {g : AH} (i1 : 1 ≤ i) (i2 : i + 3 ≤ (L : Int)) (hce : cells + 1 ≤ 601024) (hsl : slots + 6 ≤ 7293000) {kp : Nat} {np : Nat} {has : Int} {ns : Int} {sz : Int} {nr : Int} {src : Int → Int} {P : Int → Int} {res : Int → Int} {kc : Int → Int} {w8 : T3} {w12 : T3} {n8 : Int} {n12 : Int} {p1 : Int} {p2 : Int} {p3 : Int} {p4 : Int} {p5 : Int} {a1 : Int} {a2 : Int} {a3 : Int} {a4 : Int} {t : Hs} {x : En} {d : De} {q0 : Int → Int} {m0 : Int} {ft : Int} {nk : Int} {c0 : Cd} {v : Vw} {Lr : T3} {f : Int → Int} (H1 : LC s0.heap.size cI cc g kp np has ns sz nr src P res kc w8 w12 n8 n12 p1 p2 p3 p4 p5 a1 a2 a3 a4 t x d q0 m0 ft nk c0 v Lr f) (H2 : LM s0.heap.size cI cc g kp np has ns sz nr src P res kc w8 w12 n8 n12 p1 p2 p3 p4 p5 a1 a2 a3 a4 t x d q0 m0 ft nk c0 v Lr f) (o48 : g 48 = some (lA cL 1 f)) (H3 : LPu cc kp np has ns sz nr src P res kc w8 w12 n8 n12 p1 p2 p3 p4 p5 a1 a2 a3 a4 t x d q0 m0 ft nk c0 v Lr f) (kk : ∀ g' K', LV s0.heap.size cI cL cc g' → XW s0 D p l e room_1 s0 m args below meth c Q 558 [(0, .ref sb), (1, .ref (s0.heap.size + 0)), (2, .ref (s0.heap.size + 33)), (3, .ref (s0.heap.size + 48)), (4, .int (zI i))] [] g' K' (cells + 1) (slots + 6)) : XW s0 D p l e room_1 s0 m args below meth c Q 289 [(0, .ref sb), (1, .ref (s0.heap.size + 0)), (2, .ref (s0.heap.size + 33)), (3, .ref (s0.heap.size + 48)), (4, .int (zI i))] [] g K cells slots := by
  have f0 := H1.1
  have f1 := H1.2.1
  have f2 := H1.2.2.1
  have f3 := H1.2.2.2.1
  have f4 := H1.2.2.2.2.1
  have f5 := H1.2.2.2.2.2.1
  have f6 := H1.2.2.2.2.2.2.1
  have f7 := H1.2.2.2.2.2.2.2.1
  have f8 := H1.2.2.2.2.2.2.2.2.1
  have f9 := H1.2.2.2.2.2.2.2.2.2.1
  have f10 := H1.2.2.2.2.2.2.2.2.2.2.1
  have f11 := H1.2.2.2.2.2.2.2.2.2.2.2.1
  have f12 := H1.2.2.2.2.2.2.2.2.2.2.2.2.1
  have f13 := H1.2.2.2.2.2.2.2.2.2.2.2.2.2.1
  have f14 := H1.2.2.2.2.2.2.2.2.2.2.2.2.2.2.1
  have f15 := H1.2.2.2.2.2.2.2.2.2.2.2.2.2.2.2.1
  have f16 := H1.2.2.2.2.2.2.2.2.2.2.2.2.2.2.2.2.1
  have f17 := H1.2.2.2.2.2.2.2.2.2.2.2.2.2.2.2.2.2.1
  have f18 := H1.2.2.2.2.2.2.2.2.2.2.2.2.2.2.2.2.2.2.1
  have f19 := H1.2.2.2.2.2.2.2.2.2.2.2.2.2.2.2.2.2.2.2.1
  have f20 := H1.2.2.2.2.2.2.2.2.2.2.2.2.2.2.2.2.2.2.2.2.1
  have f21 := H1.2.2.2.2.2.2.2.2.2.2.2.2.2.2.2.2.2.2.2.2.2.1
  have f22 := H1.2.2.2.2.2.2.2.2.2.2.2.2.2.2.2.2.2.2.2.2.2.2.1
  have f23 := H1.2.2.2.2.2.2.2.2.2.2.2.2.2.2.2.2.2.2.2.2.2.2.2.1
  have f24 := H1.2.2.2.2.2.2.2.2.2.2.2.2.2.2.2.2.2.2.2.2.2.2.2.2.1
  have f25 := H1.2.2.2.2.2.2.2.2.2.2.2.2.2.2.2.2.2.2.2.2.2.2.2.2.2.1
  have f26 := H1.2.2.2.2.2.2.2.2.2.2.2.2.2.2.2.2.2.2.2.2.2.2.2.2.2.2.1
  have f27 := H1.2.2.2.2.2.2.2.2.2.2.2.2.2.2.2.2.2.2.2.2.2.2.2.2.2.2.2.1
  have f28 := H1.2.2.2.2.2.2.2.2.2.2.2.2.2.2.2.2.2.2.2.2.2.2.2.2.2.2.2.2.1
  have f29 := H1.2.2.2.2.2.2.2.2.2.2.2.2.2.2.2.2.2.2.2.2.2.2.2.2.2.2.2.2.2.1
  have f30 := H1.2.2.2.2.2.2.2.2.2.2.2.2.2.2.2.2.2.2.2.2.2.2.2.2.2.2.2.2.2.2.1
  have f31 := H1.2.2.2.2.2.2.2.2.2.2.2.2.2.2.2.2.2.2.2.2.2.2.2.2.2.2.2.2.2.2.2.1
  have f32 := H1.2.2.2.2.2.2.2.2.2.2.2.2.2.2.2.2.2.2.2.2.2.2.2.2.2.2.2.2.2.2.2.2
  have m33 := H2.1
  have m34 := H2.2.1
  have m35 := H2.2.2.1
  have m36 := H2.2.2.2.1
  have m37 := H2.2.2.2.2.1
  have m38 := H2.2.2.2.2.2.1
  have m39 := H2.2.2.2.2.2.2.1
  have m40 := H2.2.2.2.2.2.2.2.1
  have m41 := H2.2.2.2.2.2.2.2.2.1
  have m42 := H2.2.2.2.2.2.2.2.2.2.1
  have m43 := H2.2.2.2.2.2.2.2.2.2.2.1
  have m44 := H2.2.2.2.2.2.2.2.2.2.2.2.1
  have m45 := H2.2.2.2.2.2.2.2.2.2.2.2.2.1
  have m46 := H2.2.2.2.2.2.2.2.2.2.2.2.2.2.1
  have m47 := H2.2.2.2.2.2.2.2.2.2.2.2.2.2.2
  have hhas := H3.1
  have hns := H3.2.1
  have hsz := H3.2.2.1
  have hnr := H3.2.2.2.1
  have hcc := H3.2.2.2.2.1
  have hnk := H3.2.2.2.2.2.1
  have hsrc := H3.2.2.2.2.2.2.1
  have hPb := H3.2.2.2.2.2.2.2.1
  have htb := H3.2.2.2.2.2.2.2.2.1
  have htn := H3.2.2.2.2.2.2.2.2.2.1
  have hq0 := H3.2.2.2.2.2.2.2.2.2.2.1
  have hm0 := H3.2.2.2.2.2.2.2.2.2.2.2.1
  have hG := H3.2.2.2.2.2.2.2.2.2.2.2.2.1
  have hvt := H3.2.2.2.2.2.2.2.2.2.2.2.2.2.1
  have hw4 := H3.2.2.2.2.2.2.2.2.2.2.2.2.2.2.1
  have hkp := H3.2.2.2.2.2.2.2.2.2.2.2.2.2.2.2
  have sv1 := sv_b (xs (i + 1).toNat)
  have sv2 := sv_b (xs (i + 2).toNat)
  refine x_aload_n C d_La_law_289 rfl ?_
  refine x_callVR C (G_Np E.1) (u_320 E.1) (u_321 E.1) (u_322 E.1) (u_323 E.1) (u_1 E.1) d_La_law_290 (c_Np_size l E f0 f3 f4 hsz.1 hsz.2) nh_Np_size ln_Np_size rfl f0 (nle rfl) (nle rfl) (nle rfl) (by show _ ≤ 601024; omega) (by show _ ≤ 7293000; omega) ?_
  refine x_aload_n C d_La_law_293 rfl ?_
  refine XW.heq (h' := sM s0.heap.size cI (g) (ft, cc, ns, sz, nr, has, nk) (c0, v)) (sM_eq (by exact m33) (by exact m41) (by exact m42) (by exact m43) (by exact m44) (by exact m45) (by exact m46) (by exact m47) (fun q _ _ _ _ _ _ _ _ => rfl)) ?_
  refine x_callVR C (G_Mo E.1) (u_981 E.1) (u_982 E.1) (u_983 E.1) (u_984 E.1) (u_13 E.1) d_La_law_294 (c_Mo_size l E) nh_Mo_size ln_Mo_size rfl (by rfl) (nle rfl) (nle rfl) (nle rfl) (by show _ ≤ 601024; omega) (by show _ ≤ 7293000; omega) ?_
  refine x_same C (tgt := 558) d_La_law_297 (by decide) ?_
  exact XW.widen (by omega) (by omega) (kk _ _ ⟨kp, np, has, ns, sz, nr, src, P, res, kc, w8, w12, n8, n12, p1, p2, p3, p4, p5, a1, a2, a3, a4, t, x, d, q0, m0, 0, nk, c0, v, Lr, f, ⟨(by exact f0), (by exact f1), (by exact f2), (by exact f3), (by exact f4), (by exact f5), (by exact f6), (by exact f7), (by exact f8), (by exact f9), (by exact f10), (by exact f11), (by exact f12), (by exact f13), (by exact f14), (by exact f15), (by exact f16), (by exact f17), (by exact f18), (by exact f19), (by exact f20), (by exact f21), (by exact f22), (by exact f23), (by exact f24), (by exact f25), (by exact f26), (by exact f27), (by exact f28), (by exact f29), (by exact f30), (by exact f31), (by exact f32)⟩, ⟨rfl, (by exact m34), (by exact m35), (by exact m36), (by exact m37), (by exact m38), (by exact m39), (by exact m40), rfl, rfl, rfl, rfl, rfl, rfl, rfl⟩, (by exact o48), ⟨hhas, hns, hsz, hnr, hcc, hnk, hsrc, hPb, htb, htn, hq0, hm0, hG, hvt, hw4, hkp⟩⟩)
set_option maxRecDepth 100000 in
set_option maxHeartbeats 4000000 in
theorem op_at {a0 : Array Value} {s0 : State} {D : va_G} {cI cL : ClassId} (l : Launch) (E : a_E a0 s0 D cI cL) (F : a_F l s0) (NX : a_X s0) {p : Program} {e : Env} {m : MethodId} {args : Array Value} {below : List Frame} {meth : Method} {c : Code} (C : XC s0 D cI cL p s0 m meth c "NarrowingPackerLaw" code 7 (some .boolean) []) {sb L : Nat} {xs : Nat → Int32} (hX : va_X sb L xs s0 s0.heap) (hbl : sb < s0.heap.size) (hL : L ≤ 1537) {Q : State → Prop} {cc i : Int} {K cells slots : Nat} {g : AH} (i1 : 1 ≤ i) (i2 : i + 3 ≤ (L : Int)) (hce : cells + 1 ≤ 601024) (hsl : slots + 6 ≤ 7293000) {kp : Nat} {np : Nat} {has : Int} {ns : Int} {sz : Int} {nr : Int} {src : Int → Int} {P : Int → Int} {res : Int → Int} {kc : Int → Int} {w8 : T3} {w12 : T3} {n8 : Int} {n12 : Int} {p1 : Int} {p2 : Int} {p3 : Int} {p4 : Int} {p5 : Int} {a1 : Int} {a2 : Int} {a3 : Int} {a4 : Int} {t : Hs} {x : En} {d : De} {q0 : Int → Int} {m0 : Int} {ft : Int} {nk : Int} {c0 : Cd} {v : Vw} {Lr : T3} {f : Int → Int} (H1 : LC s0.heap.size cI cc g kp np has ns sz nr src P res kc w8 w12 n8 n12 p1 p2 p3 p4 p5 a1 a2 a3 a4 t x d q0 m0 ft nk c0 v Lr f) (H2 : LM s0.heap.size cI cc g kp np has ns sz nr src P res kc w8 w12 n8 n12 p1 p2 p3 p4 p5 a1 a2 a3 a4 t x d q0 m0 ft nk c0 v Lr f) (o48 : g 48 = some (lA cL 1 f)) (H3 : LPu cc kp np has ns sz nr src P res kc w8 w12 n8 n12 p1 p2 p3 p4 p5 a1 a2 a3 a4 t x d q0 m0 ft nk c0 v Lr f) (kk : ∀ g' K', LV s0.heap.size cI cL cc g' → XW s0 D p l e room_1 s0 m args below meth c Q 558 [(0, .ref sb), (1, .ref (s0.heap.size + 0)), (2, .ref (s0.heap.size + 33)), (3, .ref (s0.heap.size + 48)), (4, .int (zI i))] [] g' K' (cells + 1) (slots + 6)) : XW s0 D p l e room_1 s0 m args below meth c Q 302 [(0, .ref sb), (1, .ref (s0.heap.size + 0)), (2, .ref (s0.heap.size + 33)), (3, .ref (s0.heap.size + 48)), (4, .int (zI i))] [] g K cells slots := by
  have f0 := H1.1
  have f1 := H1.2.1
  have f2 := H1.2.2.1
  have f3 := H1.2.2.2.1
  have f4 := H1.2.2.2.2.1
  have f5 := H1.2.2.2.2.2.1
  have f6 := H1.2.2.2.2.2.2.1
  have f7 := H1.2.2.2.2.2.2.2.1
  have f8 := H1.2.2.2.2.2.2.2.2.1
  have f9 := H1.2.2.2.2.2.2.2.2.2.1
  have f10 := H1.2.2.2.2.2.2.2.2.2.2.1
  have f11 := H1.2.2.2.2.2.2.2.2.2.2.2.1
  have f12 := H1.2.2.2.2.2.2.2.2.2.2.2.2.1
  have f13 := H1.2.2.2.2.2.2.2.2.2.2.2.2.2.1
  have f14 := H1.2.2.2.2.2.2.2.2.2.2.2.2.2.2.1
  have f15 := H1.2.2.2.2.2.2.2.2.2.2.2.2.2.2.2.1
  have f16 := H1.2.2.2.2.2.2.2.2.2.2.2.2.2.2.2.2.1
  have f17 := H1.2.2.2.2.2.2.2.2.2.2.2.2.2.2.2.2.2.1
  have f18 := H1.2.2.2.2.2.2.2.2.2.2.2.2.2.2.2.2.2.2.1
  have f19 := H1.2.2.2.2.2.2.2.2.2.2.2.2.2.2.2.2.2.2.2.1
  have f20 := H1.2.2.2.2.2.2.2.2.2.2.2.2.2.2.2.2.2.2.2.2.1
  have f21 := H1.2.2.2.2.2.2.2.2.2.2.2.2.2.2.2.2.2.2.2.2.2.1
  have f22 := H1.2.2.2.2.2.2.2.2.2.2.2.2.2.2.2.2.2.2.2.2.2.2.1
  have f23 := H1.2.2.2.2.2.2.2.2.2.2.2.2.2.2.2.2.2.2.2.2.2.2.2.1
  have f24 := H1.2.2.2.2.2.2.2.2.2.2.2.2.2.2.2.2.2.2.2.2.2.2.2.2.1
  have f25 := H1.2.2.2.2.2.2.2.2.2.2.2.2.2.2.2.2.2.2.2.2.2.2.2.2.2.1
  have f26 := H1.2.2.2.2.2.2.2.2.2.2.2.2.2.2.2.2.2.2.2.2.2.2.2.2.2.2.1
  have f27 := H1.2.2.2.2.2.2.2.2.2.2.2.2.2.2.2.2.2.2.2.2.2.2.2.2.2.2.2.1
  have f28 := H1.2.2.2.2.2.2.2.2.2.2.2.2.2.2.2.2.2.2.2.2.2.2.2.2.2.2.2.2.1
  have f29 := H1.2.2.2.2.2.2.2.2.2.2.2.2.2.2.2.2.2.2.2.2.2.2.2.2.2.2.2.2.2.1
  have f30 := H1.2.2.2.2.2.2.2.2.2.2.2.2.2.2.2.2.2.2.2.2.2.2.2.2.2.2.2.2.2.2.1
  have f31 := H1.2.2.2.2.2.2.2.2.2.2.2.2.2.2.2.2.2.2.2.2.2.2.2.2.2.2.2.2.2.2.2.1
  have f32 := H1.2.2.2.2.2.2.2.2.2.2.2.2.2.2.2.2.2.2.2.2.2.2.2.2.2.2.2.2.2.2.2.2
  have m33 := H2.1
  have m34 := H2.2.1
  have m35 := H2.2.2.1
  have m36 := H2.2.2.2.1
  have m37 := H2.2.2.2.2.1
  have m38 := H2.2.2.2.2.2.1
  have m39 := H2.2.2.2.2.2.2.1
  have m40 := H2.2.2.2.2.2.2.2.1
  have m41 := H2.2.2.2.2.2.2.2.2.1
  have m42 := H2.2.2.2.2.2.2.2.2.2.1
  have m43 := H2.2.2.2.2.2.2.2.2.2.2.1
  have m44 := H2.2.2.2.2.2.2.2.2.2.2.2.1
  have m45 := H2.2.2.2.2.2.2.2.2.2.2.2.2.1
  have m46 := H2.2.2.2.2.2.2.2.2.2.2.2.2.2.1
  have m47 := H2.2.2.2.2.2.2.2.2.2.2.2.2.2.2
  have hhas := H3.1
  have hns := H3.2.1
  have hsz := H3.2.2.1
  have hnr := H3.2.2.2.1
  have hcc := H3.2.2.2.2.1
  have hnk := H3.2.2.2.2.2.1
  have hsrc := H3.2.2.2.2.2.2.1
  have hPb := H3.2.2.2.2.2.2.2.1
  have htb := H3.2.2.2.2.2.2.2.2.1
  have htn := H3.2.2.2.2.2.2.2.2.2.1
  have hq0 := H3.2.2.2.2.2.2.2.2.2.2.1
  have hm0 := H3.2.2.2.2.2.2.2.2.2.2.2.1
  have hG := H3.2.2.2.2.2.2.2.2.2.2.2.2.1
  have hvt := H3.2.2.2.2.2.2.2.2.2.2.2.2.2.1
  have hw4 := H3.2.2.2.2.2.2.2.2.2.2.2.2.2.2.1
  have hkp := H3.2.2.2.2.2.2.2.2.2.2.2.2.2.2.2
  have sv1 := sv_b (xs (i + 1).toNat)
  have sv2 := sv_b (xs (i + 2).toNat)
  refine x_aload_n C d_La_law_302 rfl ?_
  refine x_aload_n C d_La_law_303 rfl ?_
  refine x_iload C d_La_law_304 rfl ?_
  refine x_iconst C d_La_law_306 ?_
  refine x_iadd C d_La_law_307 ?_
  refine x_sld C hX hbl d_La_law_308 (by omega) (by omega) (by omega) ?_
  refine x_callVR C (G_Np E.1) (u_324 E.1) (u_325 E.1) (u_326 E.1) (u_327 E.1) (u_1 E.1) d_La_law_309 (c_Np_at l E f0 f3 f4 hsz.1 hsz.2 sv1.1 sv1.2) nh_Np_at ln_Np_at rfl f0 (nle rfl) (nle rfl) (nle rfl) (by show _ ≤ 601024; omega) (by show _ ≤ 7293000; omega) ?_
  refine x_aload_n C d_La_law_312 rfl ?_
  refine x_aload_n C d_La_law_313 rfl ?_
  refine x_iload C d_La_law_314 rfl ?_
  refine x_iconst C d_La_law_316 ?_
  refine x_iadd C d_La_law_317 ?_
  refine x_sld C hX hbl d_La_law_318 (by omega) (by omega) (by omega) ?_
  refine XW.heq (h' := sM s0.heap.size cI (g) (ft, cc, ns, sz, nr, has, nk) (c0, v)) (sM_eq (by exact m33) (by exact m41) (by exact m42) (by exact m43) (by exact m44) (by exact m45) (by exact m46) (by exact m47) (fun q _ _ _ _ _ _ _ _ => rfl)) ?_
  refine x_callVR C (G_Mo E.1) (u_985 E.1) (u_986 E.1) (u_987 E.1) (u_988 E.1) (u_13 E.1) d_La_law_319 (c_Mo_at l E (by exact m35) hsz.1 hsz.2 sv1.1 sv1.2) nh_Mo_at ln_Mo_at rfl (by rfl) (nle rfl) (nle rfl) (nle rfl) (by show _ ≤ 601024; omega) (by show _ ≤ 7293000; omega) ?_
  refine x_same C (tgt := 558) d_La_law_322 (by decide) ?_
  exact XW.widen (by omega) (by omega) (kk _ _ ⟨kp, np, has, ns, sz, nr, src, P, res, kc, w8, w12, n8, n12, p1, p2, p3, p4, p5, a1, a2, a3, a4, t, x, d, q0, m0, 0, nk, c0, v, Lr, f, ⟨(by exact f0), (by exact f1), (by exact f2), (by exact f3), (by exact f4), (by exact f5), (by exact f6), (by exact f7), (by exact f8), (by exact f9), (by exact f10), (by exact f11), (by exact f12), (by exact f13), (by exact f14), (by exact f15), (by exact f16), (by exact f17), (by exact f18), (by exact f19), (by exact f20), (by exact f21), (by exact f22), (by exact f23), (by exact f24), (by exact f25), (by exact f26), (by exact f27), (by exact f28), (by exact f29), (by exact f30), (by exact f31), (by exact f32)⟩, ⟨rfl, (by exact m34), (by exact m35), (by exact m36), (by exact m37), (by exact m38), (by exact m39), (by exact m40), rfl, rfl, rfl, rfl, rfl, rfl, rfl⟩, (by exact o48), ⟨hhas, hns, hsz, hnr, hcc, hnk, hsrc, hPb, htb, htn, hq0, hm0, hG, hvt, hw4, hkp⟩⟩)
set_option maxRecDepth 100000 in
set_option maxHeartbeats 4000000 in
theorem op_add {a0 : Array Value} {s0 : State} {D : va_G} {cI cL : ClassId} (l : Launch) (E : a_E a0 s0 D cI cL) (F : a_F l s0) (NX : a_X s0) {p : Program} {e : Env} {m : MethodId} {args : Array Value} {below : List Frame} {meth : Method} {c : Code} (C : XC s0 D cI cL p s0 m meth c "NarrowingPackerLaw" code 7 (some .boolean) []) {sb L : Nat} {xs : Nat → Int32} (hX : va_X sb L xs s0 s0.heap) (hbl : sb < s0.heap.size) (hL : L ≤ 1537) {Q : State → Prop} {cc i : Int} {K cells slots : Nat} {g : AH} (i1 : 1 ≤ i) (i2 : i + 3 ≤ (L : Int)) (hce : cells + 1 ≤ 601024) (hsl : slots + 6 ≤ 7293000) {kp : Nat} {np : Nat} {has : Int} {ns : Int} {sz : Int} {nr : Int} {src : Int → Int} {P : Int → Int} {res : Int → Int} {kc : Int → Int} {w8 : T3} {w12 : T3} {n8 : Int} {n12 : Int} {p1 : Int} {p2 : Int} {p3 : Int} {p4 : Int} {p5 : Int} {a1 : Int} {a2 : Int} {a3 : Int} {a4 : Int} {t : Hs} {x : En} {d : De} {q0 : Int → Int} {m0 : Int} {ft : Int} {nk : Int} {c0 : Cd} {v : Vw} {Lr : T3} {f : Int → Int} (H1 : LC s0.heap.size cI cc g kp np has ns sz nr src P res kc w8 w12 n8 n12 p1 p2 p3 p4 p5 a1 a2 a3 a4 t x d q0 m0 ft nk c0 v Lr f) (H2 : LM s0.heap.size cI cc g kp np has ns sz nr src P res kc w8 w12 n8 n12 p1 p2 p3 p4 p5 a1 a2 a3 a4 t x d q0 m0 ft nk c0 v Lr f) (o48 : g 48 = some (lA cL 1 f)) (H3 : LPu cc kp np has ns sz nr src P res kc w8 w12 n8 n12 p1 p2 p3 p4 p5 a1 a2 a3 a4 t x d q0 m0 ft nk c0 v Lr f) (kk : ∀ g' K', LV s0.heap.size cI cL cc g' → XW s0 D p l e room_1 s0 m args below meth c Q 558 [(0, .ref sb), (1, .ref (s0.heap.size + 0)), (2, .ref (s0.heap.size + 33)), (3, .ref (s0.heap.size + 48)), (4, .int (zI i))] [] g' K' (cells + 1) (slots + 6)) : XW s0 D p l e room_1 s0 m args below meth c Q 327 [(0, .ref sb), (1, .ref (s0.heap.size + 0)), (2, .ref (s0.heap.size + 33)), (3, .ref (s0.heap.size + 48)), (4, .int (zI i))] [] g K cells slots := by
  have f0 := H1.1
  have f1 := H1.2.1
  have f2 := H1.2.2.1
  have f3 := H1.2.2.2.1
  have f4 := H1.2.2.2.2.1
  have f5 := H1.2.2.2.2.2.1
  have f6 := H1.2.2.2.2.2.2.1
  have f7 := H1.2.2.2.2.2.2.2.1
  have f8 := H1.2.2.2.2.2.2.2.2.1
  have f9 := H1.2.2.2.2.2.2.2.2.2.1
  have f10 := H1.2.2.2.2.2.2.2.2.2.2.1
  have f11 := H1.2.2.2.2.2.2.2.2.2.2.2.1
  have f12 := H1.2.2.2.2.2.2.2.2.2.2.2.2.1
  have f13 := H1.2.2.2.2.2.2.2.2.2.2.2.2.2.1
  have f14 := H1.2.2.2.2.2.2.2.2.2.2.2.2.2.2.1
  have f15 := H1.2.2.2.2.2.2.2.2.2.2.2.2.2.2.2.1
  have f16 := H1.2.2.2.2.2.2.2.2.2.2.2.2.2.2.2.2.1
  have f17 := H1.2.2.2.2.2.2.2.2.2.2.2.2.2.2.2.2.2.1
  have f18 := H1.2.2.2.2.2.2.2.2.2.2.2.2.2.2.2.2.2.2.1
  have f19 := H1.2.2.2.2.2.2.2.2.2.2.2.2.2.2.2.2.2.2.2.1
  have f20 := H1.2.2.2.2.2.2.2.2.2.2.2.2.2.2.2.2.2.2.2.2.1
  have f21 := H1.2.2.2.2.2.2.2.2.2.2.2.2.2.2.2.2.2.2.2.2.2.1
  have f22 := H1.2.2.2.2.2.2.2.2.2.2.2.2.2.2.2.2.2.2.2.2.2.2.1
  have f23 := H1.2.2.2.2.2.2.2.2.2.2.2.2.2.2.2.2.2.2.2.2.2.2.2.1
  have f24 := H1.2.2.2.2.2.2.2.2.2.2.2.2.2.2.2.2.2.2.2.2.2.2.2.2.1
  have f25 := H1.2.2.2.2.2.2.2.2.2.2.2.2.2.2.2.2.2.2.2.2.2.2.2.2.2.1
  have f26 := H1.2.2.2.2.2.2.2.2.2.2.2.2.2.2.2.2.2.2.2.2.2.2.2.2.2.2.1
  have f27 := H1.2.2.2.2.2.2.2.2.2.2.2.2.2.2.2.2.2.2.2.2.2.2.2.2.2.2.2.1
  have f28 := H1.2.2.2.2.2.2.2.2.2.2.2.2.2.2.2.2.2.2.2.2.2.2.2.2.2.2.2.2.1
  have f29 := H1.2.2.2.2.2.2.2.2.2.2.2.2.2.2.2.2.2.2.2.2.2.2.2.2.2.2.2.2.2.1
  have f30 := H1.2.2.2.2.2.2.2.2.2.2.2.2.2.2.2.2.2.2.2.2.2.2.2.2.2.2.2.2.2.2.1
  have f31 := H1.2.2.2.2.2.2.2.2.2.2.2.2.2.2.2.2.2.2.2.2.2.2.2.2.2.2.2.2.2.2.2.1
  have f32 := H1.2.2.2.2.2.2.2.2.2.2.2.2.2.2.2.2.2.2.2.2.2.2.2.2.2.2.2.2.2.2.2.2
  have m33 := H2.1
  have m34 := H2.2.1
  have m35 := H2.2.2.1
  have m36 := H2.2.2.2.1
  have m37 := H2.2.2.2.2.1
  have m38 := H2.2.2.2.2.2.1
  have m39 := H2.2.2.2.2.2.2.1
  have m40 := H2.2.2.2.2.2.2.2.1
  have m41 := H2.2.2.2.2.2.2.2.2.1
  have m42 := H2.2.2.2.2.2.2.2.2.2.1
  have m43 := H2.2.2.2.2.2.2.2.2.2.2.1
  have m44 := H2.2.2.2.2.2.2.2.2.2.2.2.1
  have m45 := H2.2.2.2.2.2.2.2.2.2.2.2.2.1
  have m46 := H2.2.2.2.2.2.2.2.2.2.2.2.2.2.1
  have m47 := H2.2.2.2.2.2.2.2.2.2.2.2.2.2.2
  have hhas := H3.1
  have hns := H3.2.1
  have hsz := H3.2.2.1
  have hnr := H3.2.2.2.1
  have hcc := H3.2.2.2.2.1
  have hnk := H3.2.2.2.2.2.1
  have hsrc := H3.2.2.2.2.2.2.1
  have hPb := H3.2.2.2.2.2.2.2.1
  have htb := H3.2.2.2.2.2.2.2.2.1
  have htn := H3.2.2.2.2.2.2.2.2.2.1
  have hq0 := H3.2.2.2.2.2.2.2.2.2.2.1
  have hm0 := H3.2.2.2.2.2.2.2.2.2.2.2.1
  have hG := H3.2.2.2.2.2.2.2.2.2.2.2.2.1
  have hvt := H3.2.2.2.2.2.2.2.2.2.2.2.2.2.1
  have hw4 := H3.2.2.2.2.2.2.2.2.2.2.2.2.2.2.1
  have hkp := H3.2.2.2.2.2.2.2.2.2.2.2.2.2.2.2
  have sv1 := sv_b (xs (i + 1).toNat)
  have sv2 := sv_b (xs (i + 2).toNat)
  by_cases hb : (0 ≤ (xs (i + 1).toNat).toInt ∧ (xs (i + 1).toNat).toInt ≤ 255) ∧ sz < 200
  · refine x_aload_n C d_La_law_327 rfl ?_
    refine x_aload_n C d_La_law_328 rfl ?_
    refine x_iload C d_La_law_329 rfl ?_
    refine x_iconst C d_La_law_331 ?_
    refine x_iadd C d_La_law_332 ?_
    refine x_sld C hX hbl d_La_law_333 (by omega) (by omega) (by omega) ?_
    refine x_callVR C (G_Np E.1) (u_336 E.1) (u_337 E.1) (u_338 E.1) (u_339 E.1) (u_1 E.1) d_La_law_334 (c_Np_add1 l E f0 f3 f4 hsz.1 hsz.2 hb.1 hb.2) nh_Np_add ln_Np_add rfl f0 (nle rfl) (nle rfl) (nle rfl) (by show _ ≤ 601024; omega) (by show _ ≤ 7293000; omega) ?_
    refine x_aload_n C d_La_law_337 rfl ?_
    refine x_aload_n C d_La_law_338 rfl ?_
    refine x_iload C d_La_law_339 rfl ?_
    refine x_iconst C d_La_law_341 ?_
    refine x_iadd C d_La_law_342 ?_
    refine x_sld C hX hbl d_La_law_343 (by omega) (by omega) (by omega) ?_
    refine XW.heq (h' := sM s0.heap.size cI (a_up (a_up g 4 (iA cI 200 (zup P sz (xs (i + 1).toNat).toInt))) 3 (oBy s0.heap.size 4 (sz + 1))) (ft, cc, ns, sz, nr, has, nk) (c0, v)) (sM_eq (by exact m33) (by exact m41) (by exact m42) (by exact m43) (by exact m44) (by exact m45) (by exact m46) (by exact m47) (fun q _ _ _ _ _ _ _ _ => rfl)) ?_
    refine x_callVR C (G_Mo E.1) (u_989 E.1) (u_990 E.1) (u_991 E.1) (u_992 E.1) (u_13 E.1) d_La_law_344 (c_Mo_add1 l E (by exact m35) hsz.1 hsz.2 hb.1 hb.2 sv1.1 sv1.2) nh_Mo_add ln_Mo_add rfl (by rfl) (nle rfl) (nle rfl) (nle rfl) (by show _ ≤ 601024; omega) (by show _ ≤ 7293000; omega) ?_
    refine x_same C (tgt := 558) d_La_law_347 (by decide) ?_
    exact XW.widen (by omega) (by omega) (kk _ _ ⟨kp, np, has, ns, (sz + 1), nr, src, (zup P sz (xs (i + 1).toNat).toInt), res, kc, w8, w12, n8, n12, p1, p2, p3, p4, p5, a1, a2, a3, a4, t, x, d, q0, m0, 0, nk, c0, v, Lr, f, ⟨(by exact f0), (by exact f1), (by exact f2), rfl, rfl, (by exact f5), (by exact f6), (by exact f7), (by exact f8), (by exact f9), (by exact f10), (by exact f11), (by exact f12), (by exact f13), (by exact f14), (by exact f15), (by exact f16), (by exact f17), (by exact f18), (by exact f19), (by exact f20), (by exact f21), (by exact f22), (by exact f23), (by exact f24), (by exact f25), (by exact f26), (by exact f27), (by exact f28), (by exact f29), (by exact f30), (by exact f31), (by exact f32)⟩, ⟨rfl, (by exact m34), rfl, (by exact m36), (by exact m37), (by exact m38), (by exact m39), (by exact m40), rfl, rfl, rfl, rfl, rfl, rfl, rfl⟩, (by exact o48), ⟨hhas, hns, ⟨by omega, by omega⟩, hnr, hcc, hnk, hsrc, (zup_all (Q := fun z => 0 ≤ z ∧ z < 256) hPb (by omega)), htb, htn, hq0, hm0, hG, hvt, hw4, hkp⟩⟩)
  · refine x_aload_n C d_La_law_327 rfl ?_
    refine x_aload_n C d_La_law_328 rfl ?_
    refine x_iload C d_La_law_329 rfl ?_
    refine x_iconst C d_La_law_331 ?_
    refine x_iadd C d_La_law_332 ?_
    refine x_sld C hX hbl d_La_law_333 (by omega) (by omega) (by omega) ?_
    refine x_callVR C (G_Np E.1) (u_336 E.1) (u_337 E.1) (u_338 E.1) (u_339 E.1) (u_1 E.1) d_La_law_334 (c_Np_add0 l E f0 f3 f4 hsz.1 hsz.2 (by omega) sv1.1 sv1.2) nh_Np_add ln_Np_add rfl f0 (nle rfl) (nle rfl) (nle rfl) (by show _ ≤ 601024; omega) (by show _ ≤ 7293000; omega) ?_
    refine x_aload_n C d_La_law_337 rfl ?_
    refine x_aload_n C d_La_law_338 rfl ?_
    refine x_iload C d_La_law_339 rfl ?_
    refine x_iconst C d_La_law_341 ?_
    refine x_iadd C d_La_law_342 ?_
    refine x_sld C hX hbl d_La_law_343 (by omega) (by omega) (by omega) ?_
    refine XW.heq (h' := sM s0.heap.size cI (g) (ft, cc, ns, sz, nr, has, nk) (c0, v)) (sM_eq (by exact m33) (by exact m41) (by exact m42) (by exact m43) (by exact m44) (by exact m45) (by exact m46) (by exact m47) (fun q _ _ _ _ _ _ _ _ => rfl)) ?_
    refine x_callVR C (G_Mo E.1) (u_989 E.1) (u_990 E.1) (u_991 E.1) (u_992 E.1) (u_13 E.1) d_La_law_344 (c_Mo_add0 l E (by exact m35) hsz.1 hsz.2 (by show ¬ (0 ≤ (xs (i + 1).toNat).toInt ∧ (xs (i + 1).toNat).toInt ≤ 255) ∨ sz = 200; omega) sv1.1 sv1.2) nh_Mo_add ln_Mo_add rfl (by rfl) (nle rfl) (nle rfl) (nle rfl) (by show _ ≤ 601024; omega) (by show _ ≤ 7293000; omega) ?_
    refine x_same C (tgt := 558) d_La_law_347 (by decide) ?_
    exact XW.widen (by omega) (by omega) (kk _ _ ⟨kp, np, has, ns, sz, nr, src, P, res, kc, w8, w12, n8, n12, p1, p2, p3, p4, p5, a1, a2, a3, a4, t, x, d, q0, m0, 0, nk, c0, v, Lr, f, ⟨(by exact f0), (by exact f1), (by exact f2), (by exact f3), (by exact f4), (by exact f5), (by exact f6), (by exact f7), (by exact f8), (by exact f9), (by exact f10), (by exact f11), (by exact f12), (by exact f13), (by exact f14), (by exact f15), (by exact f16), (by exact f17), (by exact f18), (by exact f19), (by exact f20), (by exact f21), (by exact f22), (by exact f23), (by exact f24), (by exact f25), (by exact f26), (by exact f27), (by exact f28), (by exact f29), (by exact f30), (by exact f31), (by exact f32)⟩, ⟨rfl, (by exact m34), (by exact m35), (by exact m36), (by exact m37), (by exact m38), (by exact m39), (by exact m40), rfl, rfl, rfl, rfl, rfl, rfl, rfl⟩, (by exact o48), ⟨hhas, hns, hsz, hnr, hcc, hnk, hsrc, hPb, htb, htn, hq0, hm0, hG, hvt, hw4, hkp⟩⟩)
set_option maxRecDepth 100000 in
set_option maxHeartbeats 4000000 in
theorem op_told {a0 : Array Value} {s0 : State} {D : va_G} {cI cL : ClassId} (l : Launch) (E : a_E a0 s0 D cI cL) (F : a_F l s0) (NX : a_X s0) {p : Program} {e : Env} {m : MethodId} {args : Array Value} {below : List Frame} {meth : Method} {c : Code} (C : XC s0 D cI cL p s0 m meth c "NarrowingPackerLaw" code 7 (some .boolean) []) {sb L : Nat} {xs : Nat → Int32} (hX : va_X sb L xs s0 s0.heap) (hbl : sb < s0.heap.size) (hL : L ≤ 1537) {Q : State → Prop} {cc i : Int} {K cells slots : Nat} {g : AH} (i1 : 1 ≤ i) (i2 : i + 3 ≤ (L : Int)) (hce : cells + 1 ≤ 601024) (hsl : slots + 6 ≤ 7293000) {kp : Nat} {np : Nat} {has : Int} {ns : Int} {sz : Int} {nr : Int} {src : Int → Int} {P : Int → Int} {res : Int → Int} {kc : Int → Int} {w8 : T3} {w12 : T3} {n8 : Int} {n12 : Int} {p1 : Int} {p2 : Int} {p3 : Int} {p4 : Int} {p5 : Int} {a1 : Int} {a2 : Int} {a3 : Int} {a4 : Int} {t : Hs} {x : En} {d : De} {q0 : Int → Int} {m0 : Int} {ft : Int} {nk : Int} {c0 : Cd} {v : Vw} {Lr : T3} {f : Int → Int} (H1 : LC s0.heap.size cI cc g kp np has ns sz nr src P res kc w8 w12 n8 n12 p1 p2 p3 p4 p5 a1 a2 a3 a4 t x d q0 m0 ft nk c0 v Lr f) (H2 : LM s0.heap.size cI cc g kp np has ns sz nr src P res kc w8 w12 n8 n12 p1 p2 p3 p4 p5 a1 a2 a3 a4 t x d q0 m0 ft nk c0 v Lr f) (o48 : g 48 = some (lA cL 1 f)) (H3 : LPu cc kp np has ns sz nr src P res kc w8 w12 n8 n12 p1 p2 p3 p4 p5 a1 a2 a3 a4 t x d q0 m0 ft nk c0 v Lr f) (kk : ∀ g' K', LV s0.heap.size cI cL cc g' → XW s0 D p l e room_1 s0 m args below meth c Q 558 [(0, .ref sb), (1, .ref (s0.heap.size + 0)), (2, .ref (s0.heap.size + 33)), (3, .ref (s0.heap.size + 48)), (4, .int (zI i))] [] g' K' (cells + 1) (slots + 6)) : XW s0 D p l e room_1 s0 m args below meth c Q 520 [(0, .ref sb), (1, .ref (s0.heap.size + 0)), (2, .ref (s0.heap.size + 33)), (3, .ref (s0.heap.size + 48)), (4, .int (zI i))] [] g K cells slots := by
  have f0 := H1.1
  have f1 := H1.2.1
  have f2 := H1.2.2.1
  have f3 := H1.2.2.2.1
  have f4 := H1.2.2.2.2.1
  have f5 := H1.2.2.2.2.2.1
  have f6 := H1.2.2.2.2.2.2.1
  have f7 := H1.2.2.2.2.2.2.2.1
  have f8 := H1.2.2.2.2.2.2.2.2.1
  have f9 := H1.2.2.2.2.2.2.2.2.2.1
  have f10 := H1.2.2.2.2.2.2.2.2.2.2.1
  have f11 := H1.2.2.2.2.2.2.2.2.2.2.2.1
  have f12 := H1.2.2.2.2.2.2.2.2.2.2.2.2.1
  have f13 := H1.2.2.2.2.2.2.2.2.2.2.2.2.2.1
  have f14 := H1.2.2.2.2.2.2.2.2.2.2.2.2.2.2.1
  have f15 := H1.2.2.2.2.2.2.2.2.2.2.2.2.2.2.2.1
  have f16 := H1.2.2.2.2.2.2.2.2.2.2.2.2.2.2.2.2.1
  have f17 := H1.2.2.2.2.2.2.2.2.2.2.2.2.2.2.2.2.2.1
  have f18 := H1.2.2.2.2.2.2.2.2.2.2.2.2.2.2.2.2.2.2.1
  have f19 := H1.2.2.2.2.2.2.2.2.2.2.2.2.2.2.2.2.2.2.2.1
  have f20 := H1.2.2.2.2.2.2.2.2.2.2.2.2.2.2.2.2.2.2.2.2.1
  have f21 := H1.2.2.2.2.2.2.2.2.2.2.2.2.2.2.2.2.2.2.2.2.2.1
  have f22 := H1.2.2.2.2.2.2.2.2.2.2.2.2.2.2.2.2.2.2.2.2.2.2.1
  have f23 := H1.2.2.2.2.2.2.2.2.2.2.2.2.2.2.2.2.2.2.2.2.2.2.2.1
  have f24 := H1.2.2.2.2.2.2.2.2.2.2.2.2.2.2.2.2.2.2.2.2.2.2.2.2.1
  have f25 := H1.2.2.2.2.2.2.2.2.2.2.2.2.2.2.2.2.2.2.2.2.2.2.2.2.2.1
  have f26 := H1.2.2.2.2.2.2.2.2.2.2.2.2.2.2.2.2.2.2.2.2.2.2.2.2.2.2.1
  have f27 := H1.2.2.2.2.2.2.2.2.2.2.2.2.2.2.2.2.2.2.2.2.2.2.2.2.2.2.2.1
  have f28 := H1.2.2.2.2.2.2.2.2.2.2.2.2.2.2.2.2.2.2.2.2.2.2.2.2.2.2.2.2.1
  have f29 := H1.2.2.2.2.2.2.2.2.2.2.2.2.2.2.2.2.2.2.2.2.2.2.2.2.2.2.2.2.2.1
  have f30 := H1.2.2.2.2.2.2.2.2.2.2.2.2.2.2.2.2.2.2.2.2.2.2.2.2.2.2.2.2.2.2.1
  have f31 := H1.2.2.2.2.2.2.2.2.2.2.2.2.2.2.2.2.2.2.2.2.2.2.2.2.2.2.2.2.2.2.2.1
  have f32 := H1.2.2.2.2.2.2.2.2.2.2.2.2.2.2.2.2.2.2.2.2.2.2.2.2.2.2.2.2.2.2.2.2
  have m33 := H2.1
  have m34 := H2.2.1
  have m35 := H2.2.2.1
  have m36 := H2.2.2.2.1
  have m37 := H2.2.2.2.2.1
  have m38 := H2.2.2.2.2.2.1
  have m39 := H2.2.2.2.2.2.2.1
  have m40 := H2.2.2.2.2.2.2.2.1
  have m41 := H2.2.2.2.2.2.2.2.2.1
  have m42 := H2.2.2.2.2.2.2.2.2.2.1
  have m43 := H2.2.2.2.2.2.2.2.2.2.2.1
  have m44 := H2.2.2.2.2.2.2.2.2.2.2.2.1
  have m45 := H2.2.2.2.2.2.2.2.2.2.2.2.2.1
  have m46 := H2.2.2.2.2.2.2.2.2.2.2.2.2.2.1
  have m47 := H2.2.2.2.2.2.2.2.2.2.2.2.2.2.2
  have hhas := H3.1
  have hns := H3.2.1
  have hsz := H3.2.2.1
  have hnr := H3.2.2.2.1
  have hcc := H3.2.2.2.2.1
  have hnk := H3.2.2.2.2.2.1
  have hsrc := H3.2.2.2.2.2.2.1
  have hPb := H3.2.2.2.2.2.2.2.1
  have htb := H3.2.2.2.2.2.2.2.2.1
  have htn := H3.2.2.2.2.2.2.2.2.2.1
  have hq0 := H3.2.2.2.2.2.2.2.2.2.2.1
  have hm0 := H3.2.2.2.2.2.2.2.2.2.2.2.1
  have hG := H3.2.2.2.2.2.2.2.2.2.2.2.2.1
  have hvt := H3.2.2.2.2.2.2.2.2.2.2.2.2.2.1
  have hw4 := H3.2.2.2.2.2.2.2.2.2.2.2.2.2.2.1
  have hkp := H3.2.2.2.2.2.2.2.2.2.2.2.2.2.2.2
  have sv1 := sv_b (xs (i + 1).toNat)
  have sv2 := sv_b (xs (i + 2).toNat)
  refine x_aload_n C d_La_law_520 rfl ?_
  refine x_callVR C (G_Np E.1) (u_340 E.1) (u_341 E.1) (u_342 E.1) (u_343 E.1) (u_1 E.1) d_La_law_521 (c_Np_told l E f0 f5 f6 hnr.1 hnr.2) nh_Np_told ln_Np_told rfl f0 (nle rfl) (nle rfl) (nle rfl) (by show _ ≤ 601024; omega) (by show _ ≤ 7293000; omega) ?_
  refine x_aload_n C d_La_law_524 rfl ?_
  refine XW.heq (h' := sM s0.heap.size cI (g) (ft, cc, ns, sz, nr, has, nk) (c0, v)) (sM_eq (by exact m33) (by exact m41) (by exact m42) (by exact m43) (by exact m44) (by exact m45) (by exact m46) (by exact m47) (fun q _ _ _ _ _ _ _ _ => rfl)) ?_
  refine x_callVR C (G_Mo E.1) (u_1001 E.1) (u_1002 E.1) (u_1003 E.1) (u_1004 E.1) (u_13 E.1) d_La_law_525 (c_Mo_told l E) nh_Mo_told ln_Mo_told rfl (by rfl) (nle rfl) (nle rfl) (nle rfl) (by show _ ≤ 601024; omega) (by show _ ≤ 7293000; omega) ?_
  refine x_same C (tgt := 558) d_La_law_528 (by decide) ?_
  exact XW.widen (by omega) (by omega) (kk _ _ ⟨kp, np, has, ns, sz, nr, src, P, res, kc, w8, w12, n8, n12, p1, p2, p3, p4, p5, a1, a2, a3, a4, t, x, d, q0, m0, 0, nk, c0, v, Lr, f, ⟨(by exact f0), (by exact f1), (by exact f2), (by exact f3), (by exact f4), (by exact f5), (by exact f6), (by exact f7), (by exact f8), (by exact f9), (by exact f10), (by exact f11), (by exact f12), (by exact f13), (by exact f14), (by exact f15), (by exact f16), (by exact f17), (by exact f18), (by exact f19), (by exact f20), (by exact f21), (by exact f22), (by exact f23), (by exact f24), (by exact f25), (by exact f26), (by exact f27), (by exact f28), (by exact f29), (by exact f30), (by exact f31), (by exact f32)⟩, ⟨rfl, (by exact m34), (by exact m35), (by exact m36), (by exact m37), (by exact m38), (by exact m39), (by exact m40), rfl, rfl, rfl, rfl, rfl, rfl, rfl⟩, (by exact o48), ⟨hhas, hns, hsz, hnr, hcc, hnk, hsrc, hPb, htb, htn, hq0, hm0, hG, hvt, hw4, hkp⟩⟩)
set_option maxRecDepth 100000 in
set_option maxHeartbeats 4000000 in
theorem op_byteAt {a0 : Array Value} {s0 : State} {D : va_G} {cI cL : ClassId} (l : Launch) (E : a_E a0 s0 D cI cL) (F : a_F l s0) (NX : a_X s0) {p : Program} {e : Env} {m : MethodId} {args : Array Value} {below : List Frame} {meth : Method} {c : Code} (C : XC s0 D cI cL p s0 m meth c "NarrowingPackerLaw" code 7 (some .boolean) []) {sb L : Nat} {xs : Nat → Int32} (hX : va_X sb L xs s0 s0.heap) (hbl : sb < s0.heap.size) (hL : L ≤ 1537) {Q : State → Prop} {cc i : Int} {K cells slots : Nat} {g : AH} (i1 : 1 ≤ i) (i2 : i + 3 ≤ (L : Int)) (hce : cells + 1 ≤ 601024) (hsl : slots + 6 ≤ 7293000) {kp : Nat} {np : Nat} {has : Int} {ns : Int} {sz : Int} {nr : Int} {src : Int → Int} {P : Int → Int} {res : Int → Int} {kc : Int → Int} {w8 : T3} {w12 : T3} {n8 : Int} {n12 : Int} {p1 : Int} {p2 : Int} {p3 : Int} {p4 : Int} {p5 : Int} {a1 : Int} {a2 : Int} {a3 : Int} {a4 : Int} {t : Hs} {x : En} {d : De} {q0 : Int → Int} {m0 : Int} {ft : Int} {nk : Int} {c0 : Cd} {v : Vw} {Lr : T3} {f : Int → Int} (H1 : LC s0.heap.size cI cc g kp np has ns sz nr src P res kc w8 w12 n8 n12 p1 p2 p3 p4 p5 a1 a2 a3 a4 t x d q0 m0 ft nk c0 v Lr f) (H2 : LM s0.heap.size cI cc g kp np has ns sz nr src P res kc w8 w12 n8 n12 p1 p2 p3 p4 p5 a1 a2 a3 a4 t x d q0 m0 ft nk c0 v Lr f) (o48 : g 48 = some (lA cL 1 f)) (H3 : LPu cc kp np has ns sz nr src P res kc w8 w12 n8 n12 p1 p2 p3 p4 p5 a1 a2 a3 a4 t x d q0 m0 ft nk c0 v Lr f) (kk : ∀ g' K', LV s0.heap.size cI cL cc g' → XW s0 D p l e room_1 s0 m args below meth c Q 558 [(0, .ref sb), (1, .ref (s0.heap.size + 0)), (2, .ref (s0.heap.size + 33)), (3, .ref (s0.heap.size + 48)), (4, .int (zI i))] [] g' K' (cells + 1) (slots + 6)) : XW s0 D p l e room_1 s0 m args below meth c Q 533 [(0, .ref sb), (1, .ref (s0.heap.size + 0)), (2, .ref (s0.heap.size + 33)), (3, .ref (s0.heap.size + 48)), (4, .int (zI i))] [] g K cells slots := by
  have f0 := H1.1
  have f1 := H1.2.1
  have f2 := H1.2.2.1
  have f3 := H1.2.2.2.1
  have f4 := H1.2.2.2.2.1
  have f5 := H1.2.2.2.2.2.1
  have f6 := H1.2.2.2.2.2.2.1
  have f7 := H1.2.2.2.2.2.2.2.1
  have f8 := H1.2.2.2.2.2.2.2.2.1
  have f9 := H1.2.2.2.2.2.2.2.2.2.1
  have f10 := H1.2.2.2.2.2.2.2.2.2.2.1
  have f11 := H1.2.2.2.2.2.2.2.2.2.2.2.1
  have f12 := H1.2.2.2.2.2.2.2.2.2.2.2.2.1
  have f13 := H1.2.2.2.2.2.2.2.2.2.2.2.2.2.1
  have f14 := H1.2.2.2.2.2.2.2.2.2.2.2.2.2.2.1
  have f15 := H1.2.2.2.2.2.2.2.2.2.2.2.2.2.2.2.1
  have f16 := H1.2.2.2.2.2.2.2.2.2.2.2.2.2.2.2.2.1
  have f17 := H1.2.2.2.2.2.2.2.2.2.2.2.2.2.2.2.2.2.1
  have f18 := H1.2.2.2.2.2.2.2.2.2.2.2.2.2.2.2.2.2.2.1
  have f19 := H1.2.2.2.2.2.2.2.2.2.2.2.2.2.2.2.2.2.2.2.1
  have f20 := H1.2.2.2.2.2.2.2.2.2.2.2.2.2.2.2.2.2.2.2.2.1
  have f21 := H1.2.2.2.2.2.2.2.2.2.2.2.2.2.2.2.2.2.2.2.2.2.1
  have f22 := H1.2.2.2.2.2.2.2.2.2.2.2.2.2.2.2.2.2.2.2.2.2.2.1
  have f23 := H1.2.2.2.2.2.2.2.2.2.2.2.2.2.2.2.2.2.2.2.2.2.2.2.1
  have f24 := H1.2.2.2.2.2.2.2.2.2.2.2.2.2.2.2.2.2.2.2.2.2.2.2.2.1
  have f25 := H1.2.2.2.2.2.2.2.2.2.2.2.2.2.2.2.2.2.2.2.2.2.2.2.2.2.1
  have f26 := H1.2.2.2.2.2.2.2.2.2.2.2.2.2.2.2.2.2.2.2.2.2.2.2.2.2.2.1
  have f27 := H1.2.2.2.2.2.2.2.2.2.2.2.2.2.2.2.2.2.2.2.2.2.2.2.2.2.2.2.1
  have f28 := H1.2.2.2.2.2.2.2.2.2.2.2.2.2.2.2.2.2.2.2.2.2.2.2.2.2.2.2.2.1
  have f29 := H1.2.2.2.2.2.2.2.2.2.2.2.2.2.2.2.2.2.2.2.2.2.2.2.2.2.2.2.2.2.1
  have f30 := H1.2.2.2.2.2.2.2.2.2.2.2.2.2.2.2.2.2.2.2.2.2.2.2.2.2.2.2.2.2.2.1
  have f31 := H1.2.2.2.2.2.2.2.2.2.2.2.2.2.2.2.2.2.2.2.2.2.2.2.2.2.2.2.2.2.2.2.1
  have f32 := H1.2.2.2.2.2.2.2.2.2.2.2.2.2.2.2.2.2.2.2.2.2.2.2.2.2.2.2.2.2.2.2.2
  have m33 := H2.1
  have m34 := H2.2.1
  have m35 := H2.2.2.1
  have m36 := H2.2.2.2.1
  have m37 := H2.2.2.2.2.1
  have m38 := H2.2.2.2.2.2.1
  have m39 := H2.2.2.2.2.2.2.1
  have m40 := H2.2.2.2.2.2.2.2.1
  have m41 := H2.2.2.2.2.2.2.2.2.1
  have m42 := H2.2.2.2.2.2.2.2.2.2.1
  have m43 := H2.2.2.2.2.2.2.2.2.2.2.1
  have m44 := H2.2.2.2.2.2.2.2.2.2.2.2.1
  have m45 := H2.2.2.2.2.2.2.2.2.2.2.2.2.1
  have m46 := H2.2.2.2.2.2.2.2.2.2.2.2.2.2.1
  have m47 := H2.2.2.2.2.2.2.2.2.2.2.2.2.2.2
  have hhas := H3.1
  have hns := H3.2.1
  have hsz := H3.2.2.1
  have hnr := H3.2.2.2.1
  have hcc := H3.2.2.2.2.1
  have hnk := H3.2.2.2.2.2.1
  have hsrc := H3.2.2.2.2.2.2.1
  have hPb := H3.2.2.2.2.2.2.2.1
  have htb := H3.2.2.2.2.2.2.2.2.1
  have htn := H3.2.2.2.2.2.2.2.2.2.1
  have hq0 := H3.2.2.2.2.2.2.2.2.2.2.1
  have hm0 := H3.2.2.2.2.2.2.2.2.2.2.2.1
  have hG := H3.2.2.2.2.2.2.2.2.2.2.2.2.1
  have hvt := H3.2.2.2.2.2.2.2.2.2.2.2.2.2.1
  have hw4 := H3.2.2.2.2.2.2.2.2.2.2.2.2.2.2.1
  have hkp := H3.2.2.2.2.2.2.2.2.2.2.2.2.2.2.2
  have sv1 := sv_b (xs (i + 1).toNat)
  have sv2 := sv_b (xs (i + 2).toNat)
  refine x_aload_n C d_La_law_533 rfl ?_
  refine x_aload_n C d_La_law_534 rfl ?_
  refine x_iload C d_La_law_535 rfl ?_
  refine x_iconst C d_La_law_537 ?_
  refine x_iadd C d_La_law_538 ?_
  refine x_sld C hX hbl d_La_law_539 (by omega) (by omega) (by omega) ?_
  refine x_callVR C (G_Np E.1) (u_344 E.1) (u_345 E.1) (u_346 E.1) (u_347 E.1) (u_1 E.1) d_La_law_540 (c_Np_byteAt l E f0 f5 f6 hnr.1 hnr.2 sv1.1 sv1.2) nh_Np_byteAt ln_Np_byteAt rfl f0 (nle rfl) (nle rfl) (nle rfl) (by show _ ≤ 601024; omega) (by show _ ≤ 7293000; omega) ?_
  refine x_aload_n C d_La_law_543 rfl ?_
  refine x_aload_n C d_La_law_544 rfl ?_
  refine x_iload C d_La_law_545 rfl ?_
  refine x_iconst C d_La_law_547 ?_
  refine x_iadd C d_La_law_548 ?_
  refine x_sld C hX hbl d_La_law_549 (by omega) (by omega) (by omega) ?_
  refine XW.heq (h' := sM s0.heap.size cI (g) (ft, cc, ns, sz, nr, has, nk) (c0, v)) (sM_eq (by exact m33) (by exact m41) (by exact m42) (by exact m43) (by exact m44) (by exact m45) (by exact m46) (by exact m47) (fun q _ _ _ _ _ _ _ _ => rfl)) ?_
  refine x_callVR C (G_Mo E.1) (u_1005 E.1) (u_1006 E.1) (u_1007 E.1) (u_1008 E.1) (u_13 E.1) d_La_law_550 (c_Mo_byteAt l E (by exact m36) hnr.1 hnr.2 sv1.1 sv1.2) nh_Mo_byteAt ln_Mo_byteAt rfl (by rfl) (nle rfl) (nle rfl) (nle rfl) (by show _ ≤ 601024; omega) (by show _ ≤ 7293000; omega) ?_
  refine x_same C (tgt := 558) d_La_law_553 (by decide) ?_
  exact XW.widen (by omega) (by omega) (kk _ _ ⟨kp, np, has, ns, sz, nr, src, P, res, kc, w8, w12, n8, n12, p1, p2, p3, p4, p5, a1, a2, a3, a4, t, x, d, q0, m0, 0, nk, c0, v, Lr, f, ⟨(by exact f0), (by exact f1), (by exact f2), (by exact f3), (by exact f4), (by exact f5), (by exact f6), (by exact f7), (by exact f8), (by exact f9), (by exact f10), (by exact f11), (by exact f12), (by exact f13), (by exact f14), (by exact f15), (by exact f16), (by exact f17), (by exact f18), (by exact f19), (by exact f20), (by exact f21), (by exact f22), (by exact f23), (by exact f24), (by exact f25), (by exact f26), (by exact f27), (by exact f28), (by exact f29), (by exact f30), (by exact f31), (by exact f32)⟩, ⟨rfl, (by exact m34), (by exact m35), (by exact m36), (by exact m37), (by exact m38), (by exact m39), (by exact m40), rfl, rfl, rfl, rfl, rfl, rfl, rfl⟩, (by exact o48), ⟨hhas, hns, hsz, hnr, hcc, hnk, hsrc, hPb, htb, htn, hq0, hm0, hG, hvt, hw4, hkp⟩⟩)
