/-! the law: put and cut -/
theorem zI_inj {x y : Int} (x1 : -2147483648 ≤ x) (x2 : x < 2147483648) (y1 : -2147483648 ≤ y) (y2 : y < 2147483648) (h : zI x = zI y) : x = y := (zI_eq x1 x2 y1 y2).mp h
set_option maxRecDepth 100000 in
set_option maxHeartbeats 4000000 in
theorem op_put {a0 : Array Value} {s0 : State} {D : va_G} {cI cL : ClassId} (l : Launch) (E : a_E a0 s0 D cI cL) (F : a_F l s0) (NX : a_X s0) {p : Program} {e : Env} {m : MethodId} {args : Array Value} {below : List Frame} {meth : Method} {c : Code} (C : XC s0 D cI cL p s0 m meth c "NarrowingPackerLaw" code 7 (some .boolean) []) {sb L : Nat} {xs : Nat → Int32} (hX : va_X sb L xs s0 s0.heap) (hbl : sb < s0.heap.size) (hL : L ≤ 1537) {Q : State → Prop} {cc i : Int} {K cells slots : Nat} {g : AH} (i1 : 1 ≤ i) (i2 : i + 3 ≤ (L : Int)) (hce : cells + 1 ≤ 601024) (hsl : slots + 6 ≤ 7293000) {kp : Nat} {np : Nat} {has : Int} {ns : Int} {sz : Int} {nr : Int} {src : Int → Int} {P : Int → Int} {res : Int → Int} {kc : Int → Int} {w8 : T3} {w12 : T3} {n8 : Int} {n12 : Int} {p1 : Int} {p2 : Int} {p3 : Int} {p4 : Int} {p5 : Int} {a1 : Int} {a2 : Int} {a3 : Int} {a4 : Int} {t : Hs} {x : En} {d : De} {q0 : Int → Int} {m0 : Int} {ft : Int} {nk : Int} {c0 : Cd} {v : Vw} {Lr : T3} {f : Int → Int} (H1 : LC s0.heap.size cI cc g kp np has ns sz nr src P res kc w8 w12 n8 n12 p1 p2 p3 p4 p5 a1 a2 a3 a4 t x d q0 m0 ft nk c0 v Lr f) (H2 : LM s0.heap.size cI cc g kp np has ns sz nr src P res kc w8 w12 n8 n12 p1 p2 p3 p4 p5 a1 a2 a3 a4 t x d q0 m0 ft nk c0 v Lr f) (o48 : g 48 = some (lA cL 1 f)) (H3 : LPu cc kp np has ns sz nr src P res kc w8 w12 n8 n12 p1 p2 p3 p4 p5 a1 a2 a3 a4 t x d q0 m0 ft nk c0 v Lr f) (kk : ∀ g' K', LV s0.heap.size cI cL cc g' → XW s0 D p l e room_1 s0 m args below meth c Q 558 [(0, .ref sb), (1, .ref (s0.heap.size + 0)), (2, .ref (s0.heap.size + 33)), (3, .ref (s0.heap.size + 48)), (4, .int (zI i))] [] g' K' (cells + 1) (slots + 6))  : XW s0 D p l e room_1 s0 m args below meth c Q 352 [(0, .ref sb), (1, .ref (s0.heap.size + 0)), (2, .ref (s0.heap.size + 33)), (3, .ref (s0.heap.size + 48)), (4, .int (zI i))] [] g K cells slots := by
  have f0 := H1.1
  have f1 := H1.2.1
  have f2 := H1.2.2.1
  have f3 := H1.2.2.2.1
  have f4 := H1.2.2.2.2.1
  have f5 := H1.2.2.2.2.2.1
  have f6 := H1.2.2.2.2.2.2.1
  have f7 := H1.2.2.2.2.2.2.2.1
  have f8 := H1.2.2.2.2.2.2.2.2.1
  have f9 := H1.2.2.2.2.2.2.2.2.2.1
  have f10 := H1.2.2.2.2.2.2.2.2.2.2.1
  have f11 := H1.2.2.2.2.2.2.2.2.2.2.2.1
  have f12 := H1.2.2.2.2.2.2.2.2.2.2.2.2.1
  have f13 := H1.2.2.2.2.2.2.2.2.2.2.2.2.2.1
  have f14 := H1.2.2.2.2.2.2.2.2.2.2.2.2.2.2.1
  have f15 := H1.2.2.2.2.2.2.2.2.2.2.2.2.2.2.2.1
  have f16 := H1.2.2.2.2.2.2.2.2.2.2.2.2.2.2.2.2.1
  have f17 := H1.2.2.2.2.2.2.2.2.2.2.2.2.2.2.2.2.2.1
  have f18 := H1.2.2.2.2.2.2.2.2.2.2.2.2.2.2.2.2.2.2.1
  have f19 := H1.2.2.2.2.2.2.2.2.2.2.2.2.2.2.2.2.2.2.2.1
  have f20 := H1.2.2.2.2.2.2.2.2.2.2.2.2.2.2.2.2.2.2.2.2.1
  have f21 := H1.2.2.2.2.2.2.2.2.2.2.2.2.2.2.2.2.2.2.2.2.2.1
  have f22 := H1.2.2.2.2.2.2.2.2.2.2.2.2.2.2.2.2.2.2.2.2.2.2.1
  have f23 := H1.2.2.2.2.2.2.2.2.2.2.2.2.2.2.2.2.2.2.2.2.2.2.2.1
  have f24 := H1.2.2.2.2.2.2.2.2.2.2.2.2.2.2.2.2.2.2.2.2.2.2.2.2.1
  have f25 := H1.2.2.2.2.2.2.2.2.2.2.2.2.2.2.2.2.2.2.2.2.2.2.2.2.2.1
  have f26 := H1.2.2.2.2.2.2.2.2.2.2.2.2.2.2.2.2.2.2.2.2.2.2.2.2.2.2.1
  have f27 := H1.2.2.2.2.2.2.2.2.2.2.2.2.2.2.2.2.2.2.2.2.2.2.2.2.2.2.2.1
  have f28 := H1.2.2.2.2.2.2.2.2.2.2.2.2.2.2.2.2.2.2.2.2.2.2.2.2.2.2.2.2.1
  have f29 := H1.2.2.2.2.2.2.2.2.2.2.2.2.2.2.2.2.2.2.2.2.2.2.2.2.2.2.2.2.2.1
  have f30 := H1.2.2.2.2.2.2.2.2.2.2.2.2.2.2.2.2.2.2.2.2.2.2.2.2.2.2.2.2.2.2.1
  have f31 := H1.2.2.2.2.2.2.2.2.2.2.2.2.2.2.2.2.2.2.2.2.2.2.2.2.2.2.2.2.2.2.2.1
  have f32 := H1.2.2.2.2.2.2.2.2.2.2.2.2.2.2.2.2.2.2.2.2.2.2.2.2.2.2.2.2.2.2.2.2
  have m33 := H2.1
  have m34 := H2.2.1
  have m35 := H2.2.2.1
  have m36 := H2.2.2.2.1
  have m37 := H2.2.2.2.2.1
  have m38 := H2.2.2.2.2.2.1
  have m39 := H2.2.2.2.2.2.2.1
  have m40 := H2.2.2.2.2.2.2.2.1
  have m41 := H2.2.2.2.2.2.2.2.2.1
  have m42 := H2.2.2.2.2.2.2.2.2.2.1
  have m43 := H2.2.2.2.2.2.2.2.2.2.2.1
  have m44 := H2.2.2.2.2.2.2.2.2.2.2.2.1
  have m45 := H2.2.2.2.2.2.2.2.2.2.2.2.2.1
  have m46 := H2.2.2.2.2.2.2.2.2.2.2.2.2.2.1
  have m47 := H2.2.2.2.2.2.2.2.2.2.2.2.2.2.2
  have hhas := H3.1
  have hns := H3.2.1
  have hsz := H3.2.2.1
  have hnr := H3.2.2.2.1
  have hcc := H3.2.2.2.2.1
  have hnk := H3.2.2.2.2.2.1
  have hsrc := H3.2.2.2.2.2.2.1
  have hPb := H3.2.2.2.2.2.2.2.1
  have htb := H3.2.2.2.2.2.2.2.2.1
  have htn := H3.2.2.2.2.2.2.2.2.2.1
  have hq0 := H3.2.2.2.2.2.2.2.2.2.2.1
  have hm0 := H3.2.2.2.2.2.2.2.2.2.2.2.1
  have hG := H3.2.2.2.2.2.2.2.2.2.2.2.2.1
  have hvt := H3.2.2.2.2.2.2.2.2.2.2.2.2.2.1
  have hw4 := H3.2.2.2.2.2.2.2.2.2.2.2.2.2.2.1
  have hkp := H3.2.2.2.2.2.2.2.2.2.2.2.2.2.2.2
  have sv1 := sv_b (xs (i + 1).toNat)
  have sv2 := sv_b (xs (i + 2).toNat)
  by_cases hi : 0 ≤ (xs (i + 1).toNat).toInt ∧ (xs (i + 1).toNat).toInt < sz
  · have hPi := hPb (xs (i + 1).toNat).toInt
    by_cases hb : 0 ≤ (xs (i + 2).toNat).toInt ∧ (xs (i + 2).toNat).toInt ≤ 255
    · refine x_aload_n C d_La_law_352 rfl ?_
      refine x_aload_n C d_La_law_353 rfl ?_
      refine x_iload C d_La_law_354 rfl ?_
      refine x_iconst C d_La_law_356 ?_
      refine x_iadd C d_La_law_357 ?_
      refine x_sld C hX hbl d_La_law_358 (by omega) (by omega) (by omega) ?_
      refine x_aload_n C d_La_law_359 rfl ?_
      refine x_iload C d_La_law_360 rfl ?_
      refine x_iconst C d_La_law_362 ?_
      refine x_iadd C d_La_law_363 ?_
      refine x_sld C hX hbl d_La_law_364 (by omega) (by omega) (by omega) ?_
      refine x_aload_n C d_La_law_365 rfl ?_
      refine x_callSH C (u_605 E.1) (u_606 E.1) (u_607 E.1) (u_0 E.1) d_La_law_366 (c_La_put l E NX (f := f) (h0 := f0) (hM := c_Np_put0 l E F f0 f3 f4 hsz.1 hsz.2 sv1.1 sv1.2 sv2.1 sv2.2 hi hb) (hret := (fun v h' K' q => by obtain ⟨q1, q2, q3⟩ := q; cases q1; subst q2; exact ⟨_, rfl, by omega, by omega, by exact o48⟩)) (hthr := (fun Cn h' K' q => by cases q.1))) nh_La_put ln_La_put rfl (nle rfl) (nle rfl) (nle rfl) (by show _ ≤ 601024; omega) (by show _ ≤ 7293000; omega) (fun v1 h1 K1 r1 => ?_) (fun Cn h1 K1 r1 => ?_)
      · rcases r1 with ⟨n, g1, ⟨y1, y2⟩, q, e1, e2⟩ | ⟨q, e1⟩ | ⟨q, e1⟩
        · obtain ⟨q1, q2, q3⟩ := q
          have q4 : zI n = zI (P (xs (i + 1).toNat).toInt) := by injection q1 with q1; injection q1 with q1; injection q1
          have q5 := zI_inj y1 y2 (by omega) (by omega) q4
          subst q5 q2 q3 e2
          cases e1
          refine x_istore C d_La_law_369 (by decide) ?_
          refine x_aload_n C d_La_law_371 rfl ?_
          refine x_aload_n C d_La_law_372 rfl ?_
          refine x_iload C d_La_law_373 rfl ?_
          refine x_iconst C d_La_law_375 ?_
          refine x_iadd C d_La_law_376 ?_
          refine x_sld C hX hbl d_La_law_377 (by omega) (by omega) (by omega) ?_
          refine x_aload_n C d_La_law_378 rfl ?_
          refine x_iload C d_La_law_379 rfl ?_
          refine x_iconst C d_La_law_381 ?_
          refine x_iadd C d_La_law_382 ?_
          refine x_sld C hX hbl d_La_law_383 (by omega) (by omega) (by omega) ?_
          refine XW.heq (h' := sM s0.heap.size cI (a_up (a_up g 4 (iA cI 200 (zup P (xs (i + 1).toNat).toInt (xs (i + 2).toNat).toInt))) 48 (lA cL 1 (zup f 0 (P (xs (i + 1).toNat).toInt)))) (ft, cc, ns, sz, nr, has, nk) (c0, v)) (sM_eq (by exact m33) (by exact m41) (by exact m42) (by exact m43) (by exact m44) (by exact m45) (by exact m46) (by exact m47) (fun q _ _ _ _ _ _ _ _ => rfl)) ?_
          refine x_callVR C (G_Mo E.1) (u_993 E.1) (u_994 E.1) (u_995 E.1) (u_996 E.1) (u_13 E.1) d_La_law_384 (c_Mo_put0 l E (by exact m35) hsz.1 hsz.2 sv1.1 sv1.2 sv2.1 sv2.2 hi hb) nh_Mo_put ln_Mo_put rfl (by rfl) (nle rfl) (nle rfl) (nle rfl) (by show _ ≤ 601024; omega) (by show _ ≤ 7293000; omega) ?_
          refine XW.steq (st' := [.int (zI (P (xs (i + 1).toNat).toInt))]) rfl ?_
          refine x_istore C d_La_law_387 (by decide) ?_
          refine x_aload_n C d_La_law_389 rfl ?_
          refine x_callVR C (G_Mo E.1) (u_867 E.1) (u_868 E.1) (u_869 E.1) (u_870 E.1) (u_13 E.1) d_La_law_390 (c_Mo_thrown l E) nh_Mo_thrown ln_Mo_thrown rfl (by rfl) (nle rfl) (nle rfl) (nle rfl) (by show _ ≤ 601024; omega) (by show _ ≤ 7293000; omega) ?_
          refine x_iload C d_La_law_393 rfl ?_
          refine x_same C (tgt := 400) d_La_law_395 (by decide) ?_
          refine x_iload C d_La_law_400 rfl ?_
          refine x_if_ne C (tgt := 417) d_La_law_402 (by decide) (by omega) (by omega) (fun c402 => ?_) (fun c402 => ?_)
          · exfalso; omega
          · refine x_aload_n C d_La_law_405 rfl ?_
            refine x_iconst C d_La_law_406 ?_
            refine x_lald C d_La_law_407 (show _ = some (lA cL 1 (zup f 0 (P (xs (i + 1).toNat).toInt))) from rfl) (by omega) (by omega) (by omega) ?_
            refine XW.steq (st' := [.long (zL (P (xs (i + 1).toNat).toInt))]) rfl ?_
            refine x_iload C d_La_law_408 rfl ?_
            refine x_i2l C d_La_law_410 (by omega) (by omega) ?_
            refine x_lcmp C d_La_law_411 ?_
            refine x_lif_eq C (tgt := 417) d_La_law_412 (by decide) (by omega) (by omega) (by omega) (by omega) (fun c412 => ?_) (fun c412 => ?_)
            · refine x_goto C (tgt := 558) d_La_law_417 (by decide) ?_
              refine XW.loc (lv' := [(0, .ref sb), (1, .ref (s0.heap.size + 0)), (2, .ref (s0.heap.size + 33)), (3, .ref (s0.heap.size + 48)), (4, .int (zI i))]) ⟨rfl, rfl, rfl, rfl, rfl, trivial⟩ ?_
              exact XW.widen (by omega) (by omega) (kk _ _ ⟨kp, np, has, ns, sz, nr, src, (zup P (xs (i + 1).toNat).toInt (xs (i + 2).toNat).toInt), res, kc, w8, w12, n8, n12, p1, p2, p3, p4, p5, a1, a2, a3, a4, t, x, d, q0, m0, 0, nk, c0, v, Lr, (zup f 0 (P (xs (i + 1).toNat).toInt)), ⟨(by exact f0), (by exact f1), (by exact f2), (by exact f3), rfl, (by exact f5), (by exact f6), (by exact f7), (by exact f8), (by exact f9), (by exact f10), (by exact f11), (by exact f12), (by exact f13), (by exact f14), (by exact f15), (by exact f16), (by exact f17), (by exact f18), (by exact f19), (by exact f20), (by exact f21), (by exact f22), (by exact f23), (by exact f24), (by exact f25), (by exact f26), (by exact f27), (by exact f28), (by exact f29), (by exact f30), (by exact f31), (by exact f32)⟩, ⟨rfl, (by exact m34), rfl, (by exact m36), (by exact m37), (by exact m38), (by exact m39), (by exact m40), rfl, rfl, rfl, rfl, rfl, rfl, rfl⟩, rfl, ⟨hhas, hns, hsz, hnr, hcc, hnk, hsrc, (zup_all (Q := fun z => 0 ≤ z ∧ z < 256) hPb (by omega)), htb, htn, hq0, hm0, hG, hvt, hw4, hkp⟩⟩)
            · exfalso; omega
        · exfalso; have e := q.1; first | (cases e; done) | exact absurd (Sum.inr.inj e) (by decide)
        · exfalso; have e := q.1; first | (cases e; done) | exact absurd (Sum.inr.inj e) (by decide)
      · rcases r1 with ⟨_, _, _, _, r1, _⟩ | ⟨_, r1⟩ | ⟨_, r1⟩ <;> cases r1
    · refine x_aload_n C d_La_law_352 rfl ?_
      refine x_aload_n C d_La_law_353 rfl ?_
      refine x_iload C d_La_law_354 rfl ?_
      refine x_iconst C d_La_law_356 ?_
      refine x_iadd C d_La_law_357 ?_
      refine x_sld C hX hbl d_La_law_358 (by omega) (by omega) (by omega) ?_
      refine x_aload_n C d_La_law_359 rfl ?_
      refine x_iload C d_La_law_360 rfl ?_
      refine x_iconst C d_La_law_362 ?_
      refine x_iadd C d_La_law_363 ?_
      refine x_sld C hX hbl d_La_law_364 (by omega) (by omega) (by omega) ?_
      refine x_aload_n C d_La_law_365 rfl ?_
      refine x_callSH C (u_605 E.1) (u_606 E.1) (u_607 E.1) (u_0 E.1) d_La_law_366 (c_La_put l E NX (f := f) (h0 := f0) (hM := c_Np_put2 l E F f0 f3 f4 hsz.1 hsz.2 sv1.1 sv1.2 sv2.1 sv2.2 hi hb) (hret := (fun v h' K' q => by cases q.1)) (hthr := (fun Cn h' K' q => by have e := q.1; cases e; first | rfl | exact Or.inl rfl | exact Or.inr rfl))) nh_La_put ln_La_put rfl (nle rfl) (nle rfl) (nle rfl) (by show _ ≤ 601024; omega) (by show _ ≤ 7293000; omega) (fun v1 h1 K1 r1 => ?_) (fun Cn h1 K1 r1 => ?_)
      · rcases r1 with ⟨n, g1, ⟨y1, y2⟩, q, e1, e2⟩ | ⟨q, e1⟩ | ⟨q, e1⟩
        · exfalso; have e := q.1; first | (cases e; done) | exact absurd (Sum.inr.inj e) (by decide)
        · exfalso; have e := q.1; first | (cases e; done) | exact absurd (Sum.inr.inj e) (by decide)
        · obtain ⟨q1, q2, q3⟩ := q
          have q2 := q2.symm
          subst q2 q3
          cases e1
          refine x_istore C d_La_law_369 (by decide) ?_
          refine x_aload_n C d_La_law_371 rfl ?_
          refine x_aload_n C d_La_law_372 rfl ?_
          refine x_iload C d_La_law_373 rfl ?_
          refine x_iconst C d_La_law_375 ?_
          refine x_iadd C d_La_law_376 ?_
          refine x_sld C hX hbl d_La_law_377 (by omega) (by omega) (by omega) ?_
          refine x_aload_n C d_La_law_378 rfl ?_
          refine x_iload C d_La_law_379 rfl ?_
          refine x_iconst C d_La_law_381 ?_
          refine x_iadd C d_La_law_382 ?_
          refine x_sld C hX hbl d_La_law_383 (by omega) (by omega) (by omega) ?_
          refine XW.heq (h' := sM s0.heap.size cI (g) (ft, cc, ns, sz, nr, has, nk) (c0, v)) (sM_eq (by exact m33) (by exact m41) (by exact m42) (by exact m43) (by exact m44) (by exact m45) (by exact m46) (by exact m47) (fun q _ _ _ _ _ _ _ _ => rfl)) ?_
          refine x_callVR C (G_Mo E.1) (u_993 E.1) (u_994 E.1) (u_995 E.1) (u_996 E.1) (u_13 E.1) d_La_law_384 (c_Mo_put2 l E (by exact m35) hsz.1 hsz.2 sv1.1 sv1.2 sv2.1 sv2.2 hi hb) nh_Mo_put ln_Mo_put rfl (by rfl) (nle rfl) (nle rfl) (nle rfl) (by show _ ≤ 601024; omega) (by show _ ≤ 7293000; omega) ?_
          refine XW.steq (st' := [.int (zI (0))]) rfl ?_
          refine x_istore C d_La_law_387 (by decide) ?_
          refine x_aload_n C d_La_law_389 rfl ?_
          refine x_callVR C (G_Mo E.1) (u_867 E.1) (u_868 E.1) (u_869 E.1) (u_870 E.1) (u_13 E.1) d_La_law_390 (c_Mo_thrown l E) nh_Mo_thrown ln_Mo_thrown rfl (by rfl) (nle rfl) (nle rfl) (nle rfl) (by show _ ≤ 601024; omega) (by show _ ≤ 7293000; omega) ?_
          refine x_iload C d_La_law_393 rfl ?_
          refine x_same C (tgt := 400) d_La_law_395 (by decide) ?_
          refine x_iload C d_La_law_400 rfl ?_
          refine x_if_ne C (tgt := 417) d_La_law_402 (by decide) (by omega) (by omega) (fun c402 => ?_) (fun c402 => ?_)
          · refine x_goto C (tgt := 558) d_La_law_417 (by decide) ?_
            refine XW.loc (lv' := [(0, .ref sb), (1, .ref (s0.heap.size + 0)), (2, .ref (s0.heap.size + 33)), (3, .ref (s0.heap.size + 48)), (4, .int (zI i))]) ⟨rfl, rfl, rfl, rfl, rfl, trivial⟩ ?_
            exact XW.widen (by omega) (by omega) (kk _ _ ⟨kp, np, has, ns, sz, nr, src, P, res, kc, w8, w12, n8, n12, p1, p2, p3, p4, p5, a1, a2, a3, a4, t, x, d, q0, m0, 2, nk, c0, v, Lr, f, ⟨(by exact f0), (by exact f1), (by exact f2), (by exact f3), (by exact f4), (by exact f5), (by exact f6), (by exact f7), (by exact f8), (by exact f9), (by exact f10), (by exact f11), (by exact f12), (by exact f13), (by exact f14), (by exact f15), (by exact f16), (by exact f17), (by exact f18), (by exact f19), (by exact f20), (by exact f21), (by exact f22), (by exact f23), (by exact f24), (by exact f25), (by exact f26), (by exact f27), (by exact f28), (by exact f29), (by exact f30), (by exact f31), (by exact f32)⟩, ⟨rfl, (by exact m34), (by exact m35), (by exact m36), (by exact m37), (by exact m38), (by exact m39), (by exact m40), rfl, rfl, rfl, rfl, rfl, rfl, rfl⟩, (by exact o48), ⟨hhas, hns, hsz, hnr, hcc, hnk, hsrc, hPb, htb, htn, hq0, hm0, hG, hvt, hw4, hkp⟩⟩)
          · exfalso; omega
      · rcases r1 with ⟨_, _, _, _, r1, _⟩ | ⟨_, r1⟩ | ⟨_, r1⟩ <;> cases r1
  · refine x_aload_n C d_La_law_352 rfl ?_
    refine x_aload_n C d_La_law_353 rfl ?_
    refine x_iload C d_La_law_354 rfl ?_
    refine x_iconst C d_La_law_356 ?_
    refine x_iadd C d_La_law_357 ?_
    refine x_sld C hX hbl d_La_law_358 (by omega) (by omega) (by omega) ?_
    refine x_aload_n C d_La_law_359 rfl ?_
    refine x_iload C d_La_law_360 rfl ?_
    refine x_iconst C d_La_law_362 ?_
    refine x_iadd C d_La_law_363 ?_
    refine x_sld C hX hbl d_La_law_364 (by omega) (by omega) (by omega) ?_
    refine x_aload_n C d_La_law_365 rfl ?_
    refine x_callSH C (u_605 E.1) (u_606 E.1) (u_607 E.1) (u_0 E.1) d_La_law_366 (c_La_put l E NX (f := f) (h0 := f0) (hM := c_Np_put1 l E F f0 f3 f4 hsz.1 hsz.2 sv1.1 sv1.2 sv2.1 sv2.2 hi) (hret := (fun v h' K' q => by cases q.1)) (hthr := (fun Cn h' K' q => by have e := q.1; cases e; first | rfl | exact Or.inl rfl | exact Or.inr rfl))) nh_La_put ln_La_put rfl (nle rfl) (nle rfl) (nle rfl) (by show _ ≤ 601024; omega) (by show _ ≤ 7293000; omega) (fun v1 h1 K1 r1 => ?_) (fun Cn h1 K1 r1 => ?_)
    · rcases r1 with ⟨n, g1, ⟨y1, y2⟩, q, e1, e2⟩ | ⟨q, e1⟩ | ⟨q, e1⟩
      · exfalso; have e := q.1; first | (cases e; done) | exact absurd (Sum.inr.inj e) (by decide)
      · obtain ⟨q1, q2, q3⟩ := q
        have q2 := q2.symm
        subst q2 q3
        cases e1
        refine x_istore C d_La_law_369 (by decide) ?_
        refine x_aload_n C d_La_law_371 rfl ?_
        refine x_aload_n C d_La_law_372 rfl ?_
        refine x_iload C d_La_law_373 rfl ?_
        refine x_iconst C d_La_law_375 ?_
        refine x_iadd C d_La_law_376 ?_
        refine x_sld C hX hbl d_La_law_377 (by omega) (by omega) (by omega) ?_
        refine x_aload_n C d_La_law_378 rfl ?_
        refine x_iload C d_La_law_379 rfl ?_
        refine x_iconst C d_La_law_381 ?_
        refine x_iadd C d_La_law_382 ?_
        refine x_sld C hX hbl d_La_law_383 (by omega) (by omega) (by omega) ?_
        refine XW.heq (h' := sM s0.heap.size cI (g) (ft, cc, ns, sz, nr, has, nk) (c0, v)) (sM_eq (by exact m33) (by exact m41) (by exact m42) (by exact m43) (by exact m44) (by exact m45) (by exact m46) (by exact m47) (fun q _ _ _ _ _ _ _ _ => rfl)) ?_
        refine x_callVR C (G_Mo E.1) (u_993 E.1) (u_994 E.1) (u_995 E.1) (u_996 E.1) (u_13 E.1) d_La_law_384 (c_Mo_put1 l E (by exact m35) hsz.1 hsz.2 sv1.1 sv1.2 sv2.1 sv2.2 hi) nh_Mo_put ln_Mo_put rfl (by rfl) (nle rfl) (nle rfl) (nle rfl) (by show _ ≤ 601024; omega) (by show _ ≤ 7293000; omega) ?_
        refine XW.steq (st' := [.int (zI (0))]) rfl ?_
        refine x_istore C d_La_law_387 (by decide) ?_
        refine x_aload_n C d_La_law_389 rfl ?_
        refine x_callVR C (G_Mo E.1) (u_867 E.1) (u_868 E.1) (u_869 E.1) (u_870 E.1) (u_13 E.1) d_La_law_390 (c_Mo_thrown l E) nh_Mo_thrown ln_Mo_thrown rfl (by rfl) (nle rfl) (nle rfl) (nle rfl) (by show _ ≤ 601024; omega) (by show _ ≤ 7293000; omega) ?_
        refine x_iload C d_La_law_393 rfl ?_
        refine x_same C (tgt := 400) d_La_law_395 (by decide) ?_
        refine x_iload C d_La_law_400 rfl ?_
        refine x_if_ne C (tgt := 417) d_La_law_402 (by decide) (by omega) (by omega) (fun c402 => ?_) (fun c402 => ?_)
        · refine x_goto C (tgt := 558) d_La_law_417 (by decide) ?_
          refine XW.loc (lv' := [(0, .ref sb), (1, .ref (s0.heap.size + 0)), (2, .ref (s0.heap.size + 33)), (3, .ref (s0.heap.size + 48)), (4, .int (zI i))]) ⟨rfl, rfl, rfl, rfl, rfl, trivial⟩ ?_
          exact XW.widen (by omega) (by omega) (kk _ _ ⟨kp, np, has, ns, sz, nr, src, P, res, kc, w8, w12, n8, n12, p1, p2, p3, p4, p5, a1, a2, a3, a4, t, x, d, q0, m0, 1, nk, c0, v, Lr, f, ⟨(by exact f0), (by exact f1), (by exact f2), (by exact f3), (by exact f4), (by exact f5), (by exact f6), (by exact f7), (by exact f8), (by exact f9), (by exact f10), (by exact f11), (by exact f12), (by exact f13), (by exact f14), (by exact f15), (by exact f16), (by exact f17), (by exact f18), (by exact f19), (by exact f20), (by exact f21), (by exact f22), (by exact f23), (by exact f24), (by exact f25), (by exact f26), (by exact f27), (by exact f28), (by exact f29), (by exact f30), (by exact f31), (by exact f32)⟩, ⟨rfl, (by exact m34), (by exact m35), (by exact m36), (by exact m37), (by exact m38), (by exact m39), (by exact m40), rfl, rfl, rfl, rfl, rfl, rfl, rfl⟩, (by exact o48), ⟨hhas, hns, hsz, hnr, hcc, hnk, hsrc, hPb, htb, htn, hq0, hm0, hG, hvt, hw4, hkp⟩⟩)
        · exfalso; omega
      · exfalso; have e := q.1; first | (cases e; done) | exact absurd (Sum.inr.inj e) (by decide)
    · rcases r1 with ⟨_, _, _, _, r1, _⟩ | ⟨_, r1⟩ | ⟨_, r1⟩ <;> cases r1
set_option maxRecDepth 100000 in
set_option maxHeartbeats 4000000 in
theorem op_cut {a0 : Array Value} {s0 : State} {D : va_G} {cI cL : ClassId} (l : Launch) (E : a_E a0 s0 D cI cL) (F : a_F l s0) (NX : a_X s0) {p : Program} {e : Env} {m : MethodId} {args : Array Value} {below : List Frame} {meth : Method} {c : Code} (C : XC s0 D cI cL p s0 m meth c "NarrowingPackerLaw" code 7 (some .boolean) []) {sb L : Nat} {xs : Nat → Int32} (hX : va_X sb L xs s0 s0.heap) (hbl : sb < s0.heap.size) (hL : L ≤ 1537) {Q : State → Prop} {cc i : Int} {K cells slots : Nat} {g : AH} (i1 : 1 ≤ i) (i2 : i + 3 ≤ (L : Int)) (hce : cells + 1 ≤ 601024) (hsl : slots + 6 ≤ 7293000) {kp : Nat} {np : Nat} {has : Int} {ns : Int} {sz : Int} {nr : Int} {src : Int → Int} {P : Int → Int} {res : Int → Int} {kc : Int → Int} {w8 : T3} {w12 : T3} {n8 : Int} {n12 : Int} {p1 : Int} {p2 : Int} {p3 : Int} {p4 : Int} {p5 : Int} {a1 : Int} {a2 : Int} {a3 : Int} {a4 : Int} {t : Hs} {x : En} {d : De} {q0 : Int → Int} {m0 : Int} {ft : Int} {nk : Int} {c0 : Cd} {v : Vw} {Lr : T3} {f : Int → Int} (H1 : LC s0.heap.size cI cc g kp np has ns sz nr src P res kc w8 w12 n8 n12 p1 p2 p3 p4 p5 a1 a2 a3 a4 t x d q0 m0 ft nk c0 v Lr f) (H2 : LM s0.heap.size cI cc g kp np has ns sz nr src P res kc w8 w12 n8 n12 p1 p2 p3 p4 p5 a1 a2 a3 a4 t x d q0 m0 ft nk c0 v Lr f) (o48 : g 48 = some (lA cL 1 f)) (H3 : LPu cc kp np has ns sz nr src P res kc w8 w12 n8 n12 p1 p2 p3 p4 p5 a1 a2 a3 a4 t x d q0 m0 ft nk c0 v Lr f) (kk : ∀ g' K', LV s0.heap.size cI cL cc g' → XW s0 D p l e room_1 s0 m args below meth c Q 558 [(0, .ref sb), (1, .ref (s0.heap.size + 0)), (2, .ref (s0.heap.size + 33)), (3, .ref (s0.heap.size + 48)), (4, .int (zI i))] [] g' K' (cells + 1) (slots + 6))  : XW s0 D p l e room_1 s0 m args below meth c Q 420 [(0, .ref sb), (1, .ref (s0.heap.size + 0)), (2, .ref (s0.heap.size + 33)), (3, .ref (s0.heap.size + 48)), (4, .int (zI i))] [] g K cells slots := by
  have f0 := H1.1
  have f1 := H1.2.1
  have f2 := H1.2.2.1
  have f3 := H1.2.2.2.1
  have f4 := H1.2.2.2.2.1
  have f5 := H1.2.2.2.2.2.1
  have f6 := H1.2.2.2.2.2.2.1
  have f7 := H1.2.2.2.2.2.2.2.1
  have f8 := H1.2.2.2.2.2.2.2.2.1
  have f9 := H1.2.2.2.2.2.2.2.2.2.1
  have f10 := H1.2.2.2.2.2.2.2.2.2.2.1
  have f11 := H1.2.2.2.2.2.2.2.2.2.2.2.1
  have f12 := H1.2.2.2.2.2.2.2.2.2.2.2.2.1
  have f13 := H1.2.2.2.2.2.2.2.2.2.2.2.2.2.1
  have f14 := H1.2.2.2.2.2.2.2.2.2.2.2.2.2.2.1
  have f15 := H1.2.2.2.2.2.2.2.2.2.2.2.2.2.2.2.1
  have f16 := H1.2.2.2.2.2.2.2.2.2.2.2.2.2.2.2.2.1
  have f17 := H1.2.2.2.2.2.2.2.2.2.2.2.2.2.2.2.2.2.1
  have f18 := H1.2.2.2.2.2.2.2.2.2.2.2.2.2.2.2.2.2.2.1
  have f19 := H1.2.2.2.2.2.2.2.2.2.2.2.2.2.2.2.2.2.2.2.1
  have f20 := H1.2.2.2.2.2.2.2.2.2.2.2.2.2.2.2.2.2.2.2.2.1
  have f21 := H1.2.2.2.2.2.2.2.2.2.2.2.2.2.2.2.2.2.2.2.2.2.1
  have f22 := H1.2.2.2.2.2.2.2.2.2.2.2.2.2.2.2.2.2.2.2.2.2.2.1
  have f23 := H1.2.2.2.2.2.2.2.2.2.2.2.2.2.2.2.2.2.2.2.2.2.2.2.1
  have f24 := H1.2.2.2.2.2.2.2.2.2.2.2.2.2.2.2.2.2.2.2.2.2.2.2.2.1
  have f25 := H1.2.2.2.2.2.2.2.2.2.2.2.2.2.2.2.2.2.2.2.2.2.2.2.2.2.1
  have f26 := H1.2.2.2.2.2.2.2.2.2.2.2.2.2.2.2.2.2.2.2.2.2.2.2.2.2.2.1
  have f27 := H1.2.2.2.2.2.2.2.2.2.2.2.2.2.2.2.2.2.2.2.2.2.2.2.2.2.2.2.1
  have f28 := H1.2.2.2.2.2.2.2.2.2.2.2.2.2.2.2.2.2.2.2.2.2.2.2.2.2.2.2.2.1
  have f29 := H1.2.2.2.2.2.2.2.2.2.2.2.2.2.2.2.2.2.2.2.2.2.2.2.2.2.2.2.2.2.1
  have f30 := H1.2.2.2.2.2.2.2.2.2.2.2.2.2.2.2.2.2.2.2.2.2.2.2.2.2.2.2.2.2.2.1
  have f31 := H1.2.2.2.2.2.2.2.2.2.2.2.2.2.2.2.2.2.2.2.2.2.2.2.2.2.2.2.2.2.2.2.1
  have f32 := H1.2.2.2.2.2.2.2.2.2.2.2.2.2.2.2.2.2.2.2.2.2.2.2.2.2.2.2.2.2.2.2.2
  have m33 := H2.1
  have m34 := H2.2.1
  have m35 := H2.2.2.1
  have m36 := H2.2.2.2.1
  have m37 := H2.2.2.2.2.1
  have m38 := H2.2.2.2.2.2.1
  have m39 := H2.2.2.2.2.2.2.1
  have m40 := H2.2.2.2.2.2.2.2.1
  have m41 := H2.2.2.2.2.2.2.2.2.1
  have m42 := H2.2.2.2.2.2.2.2.2.2.1
  have m43 := H2.2.2.2.2.2.2.2.2.2.2.1
  have m44 := H2.2.2.2.2.2.2.2.2.2.2.2.1
  have m45 := H2.2.2.2.2.2.2.2.2.2.2.2.2.1
  have m46 := H2.2.2.2.2.2.2.2.2.2.2.2.2.2.1
  have m47 := H2.2.2.2.2.2.2.2.2.2.2.2.2.2.2
  have hhas := H3.1
  have hns := H3.2.1
  have hsz := H3.2.2.1
  have hnr := H3.2.2.2.1
  have hcc := H3.2.2.2.2.1
  have hnk := H3.2.2.2.2.2.1
  have hsrc := H3.2.2.2.2.2.2.1
  have hPb := H3.2.2.2.2.2.2.2.1
  have htb := H3.2.2.2.2.2.2.2.2.1
  have htn := H3.2.2.2.2.2.2.2.2.2.1
  have hq0 := H3.2.2.2.2.2.2.2.2.2.2.1
  have hm0 := H3.2.2.2.2.2.2.2.2.2.2.2.1
  have hG := H3.2.2.2.2.2.2.2.2.2.2.2.2.1
  have hvt := H3.2.2.2.2.2.2.2.2.2.2.2.2.2.1
  have hw4 := H3.2.2.2.2.2.2.2.2.2.2.2.2.2.2.1
  have hkp := H3.2.2.2.2.2.2.2.2.2.2.2.2.2.2.2
  have sv1 := sv_b (xs (i + 1).toNat)
  have sv2 := sv_b (xs (i + 2).toNat)
  by_cases hi : 0 ≤ (xs (i + 1).toNat).toInt
  · refine x_aload_n C d_La_law_420 rfl ?_
    refine x_aload_n C d_La_law_421 rfl ?_
    refine x_iload C d_La_law_422 rfl ?_
    refine x_iconst C d_La_law_424 ?_
    refine x_iadd C d_La_law_425 ?_
    refine x_sld C hX hbl d_La_law_426 (by omega) (by omega) (by omega) ?_
    refine x_aload_n C d_La_law_427 rfl ?_
    refine x_callSH C (u_648 E.1) (u_649 E.1) (u_650 E.1) (u_0 E.1) d_La_law_428 (c_La_cut l E NX (f := f) (h0 := f0) (hM := c_Np_cut0 l E F f0 f3 f4 hsz.1 hsz.2 sv1.1 sv1.2 hi) (hret := (fun v h' K' q => by obtain ⟨q1, q2, q3⟩ := q; cases q1; subst q2; exact ⟨_, rfl, by omega, by omega, by exact o48⟩)) (hthr := (fun Cn h' K' q => by cases q.1))) nh_La_cut ln_La_cut rfl (nle rfl) (nle rfl) (nle rfl) (by show _ ≤ 601024; omega) (by show _ ≤ 7293000; omega) (fun v1 h1 K1 r1 => ?_) (fun Cn h1 K1 r1 => ?_)
    · rcases r1 with ⟨n, g1, ⟨y1, y2⟩, q, e1, e2⟩ | ⟨q, e1⟩
      · obtain ⟨q1, q2, q3⟩ := q
        have q4 : zI n = zI (sz - (max 0 (min (xs (i + 1).toNat).toInt sz))) := by injection q1 with q1; injection q1 with q1; injection q1
        have q5 := zI_inj y1 y2 (by omega) (by omega) q4
        subst q5 q2 q3 e2
        cases e1
        refine x_istore C d_La_law_431 (by decide) ?_
        refine x_aload_n C d_La_law_433 rfl ?_
        refine x_aload_n C d_La_law_434 rfl ?_
        refine x_iload C d_La_law_435 rfl ?_
        refine x_iconst C d_La_law_437 ?_
        refine x_iadd C d_La_law_438 ?_
        refine x_sld C hX hbl d_La_law_439 (by omega) (by omega) (by omega) ?_
        refine XW.heq (h' := sM s0.heap.size cI (a_up (a_up g 3 (oBy s0.heap.size 4 (max 0 (min (xs (i + 1).toNat).toInt sz)))) 48 (lA cL 1 (zup f 0 (sz - (max 0 (min (xs (i + 1).toNat).toInt sz)))))) (ft, cc, ns, sz, nr, has, nk) (c0, v)) (sM_eq (by exact m33) (by exact m41) (by exact m42) (by exact m43) (by exact m44) (by exact m45) (by exact m46) (by exact m47) (fun q _ _ _ _ _ _ _ _ => rfl)) ?_
        refine x_callVR C (G_Mo E.1) (u_997 E.1) (u_998 E.1) (u_999 E.1) (u_1000 E.1) (u_13 E.1) d_La_law_440 (c_Mo_cut0 l E hsz.1 hsz.2 sv1.1 sv1.2 hi) nh_Mo_cut ln_Mo_cut rfl (by rfl) (nle rfl) (nle rfl) (nle rfl) (by show _ ≤ 601024; omega) (by show _ ≤ 7293000; omega) ?_
        refine XW.steq (st' := [.int (zI (sz - (max 0 (min (xs (i + 1).toNat).toInt sz))))]) rfl ?_
        refine x_istore C d_La_law_443 (by decide) ?_
        refine x_aload_n C d_La_law_445 rfl ?_
        refine x_callVR C (G_Mo E.1) (u_867 E.1) (u_868 E.1) (u_869 E.1) (u_870 E.1) (u_13 E.1) d_La_law_446 (c_Mo_thrown l E) nh_Mo_thrown ln_Mo_thrown rfl (by rfl) (nle rfl) (nle rfl) (nle rfl) (by show _ ≤ 601024; omega) (by show _ ≤ 7293000; omega) ?_
        refine x_iload C d_La_law_449 rfl ?_
        refine x_same C (tgt := 456) d_La_law_451 (by decide) ?_
        refine x_iload C d_La_law_456 rfl ?_
        refine x_if_ne C (tgt := 473) d_La_law_458 (by decide) (by omega) (by omega) (fun c458 => ?_) (fun c458 => ?_)
        · exfalso; omega
        · refine x_aload_n C d_La_law_461 rfl ?_
          refine x_iconst C d_La_law_462 ?_
          refine x_lald C d_La_law_463 (show _ = some (lA cL 1 (zup f 0 (sz - (max 0 (min (xs (i + 1).toNat).toInt sz))))) from rfl) (by omega) (by omega) (by omega) ?_
          refine XW.steq (st' := [.long (zL (sz - (max 0 (min (xs (i + 1).toNat).toInt sz))))]) rfl ?_
          refine x_iload C d_La_law_464 rfl ?_
          refine x_i2l C d_La_law_466 (by omega) (by omega) ?_
          refine x_lcmp C d_La_law_467 ?_
          refine x_lif_eq C (tgt := 473) d_La_law_468 (by decide) (by omega) (by omega) (by omega) (by omega) (fun c468 => ?_) (fun c468 => ?_)
          · refine x_goto C (tgt := 558) d_La_law_473 (by decide) ?_
            refine XW.loc (lv' := [(0, .ref sb), (1, .ref (s0.heap.size + 0)), (2, .ref (s0.heap.size + 33)), (3, .ref (s0.heap.size + 48)), (4, .int (zI i))]) ⟨rfl, rfl, rfl, rfl, rfl, trivial⟩ ?_
            exact XW.widen (by omega) (by omega) (kk _ _ ⟨kp, np, has, ns, (max 0 (min (xs (i + 1).toNat).toInt sz)), nr, src, P, res, kc, w8, w12, n8, n12, p1, p2, p3, p4, p5, a1, a2, a3, a4, t, x, d, q0, m0, 0, nk, c0, v, Lr, (zup f 0 (sz - (max 0 (min (xs (i + 1).toNat).toInt sz)))), ⟨(by exact f0), (by exact f1), (by exact f2), rfl, (by exact f4), (by exact f5), (by exact f6), (by exact f7), (by exact f8), (by exact f9), (by exact f10), (by exact f11), (by exact f12), (by exact f13), (by exact f14), (by exact f15), (by exact f16), (by exact f17), (by exact f18), (by exact f19), (by exact f20), (by exact f21), (by exact f22), (by exact f23), (by exact f24), (by exact f25), (by exact f26), (by exact f27), (by exact f28), (by exact f29), (by exact f30), (by exact f31), (by exact f32)⟩, ⟨rfl, (by exact m34), (by exact m35), (by exact m36), (by exact m37), (by exact m38), (by exact m39), (by exact m40), rfl, rfl, rfl, rfl, rfl, rfl, rfl⟩, rfl, ⟨hhas, hns, ⟨by omega, by omega⟩, hnr, hcc, hnk, hsrc, hPb, htb, htn, hq0, hm0, hG, hvt, hw4, hkp⟩⟩)
          · exfalso; omega
      · exfalso; have e := q.1; first | (cases e; done) | exact absurd (Sum.inr.inj e) (by decide)
    · rcases r1 with ⟨_, _, _, _, r1, _⟩ | ⟨_, r1⟩ <;> cases r1
  · refine x_aload_n C d_La_law_420 rfl ?_
    refine x_aload_n C d_La_law_421 rfl ?_
    refine x_iload C d_La_law_422 rfl ?_
    refine x_iconst C d_La_law_424 ?_
    refine x_iadd C d_La_law_425 ?_
    refine x_sld C hX hbl d_La_law_426 (by omega) (by omega) (by omega) ?_
    refine x_aload_n C d_La_law_427 rfl ?_
    refine x_callSH C (u_648 E.1) (u_649 E.1) (u_650 E.1) (u_0 E.1) d_La_law_428 (c_La_cut l E NX (f := f) (h0 := f0) (hM := c_Np_cut1 l E F f0 f3 f4 hsz.1 hsz.2 sv1.1 sv1.2 (by omega)) (hret := (fun v h' K' q => by cases q.1)) (hthr := (fun Cn h' K' q => by have e := q.1; cases e; first | rfl | exact Or.inl rfl | exact Or.inr rfl))) nh_La_cut ln_La_cut rfl (nle rfl) (nle rfl) (nle rfl) (by show _ ≤ 601024; omega) (by show _ ≤ 7293000; omega) (fun v1 h1 K1 r1 => ?_) (fun Cn h1 K1 r1 => ?_)
    · rcases r1 with ⟨n, g1, ⟨y1, y2⟩, q, e1, e2⟩ | ⟨q, e1⟩
      · exfalso; have e := q.1; first | (cases e; done) | exact absurd (Sum.inr.inj e) (by decide)
      · obtain ⟨q1, q2, q3⟩ := q
        have q2 := q2.symm
        subst q2 q3
        cases e1
        refine x_istore C d_La_law_431 (by decide) ?_
        refine x_aload_n C d_La_law_433 rfl ?_
        refine x_aload_n C d_La_law_434 rfl ?_
        refine x_iload C d_La_law_435 rfl ?_
        refine x_iconst C d_La_law_437 ?_
        refine x_iadd C d_La_law_438 ?_
        refine x_sld C hX hbl d_La_law_439 (by omega) (by omega) (by omega) ?_
        refine XW.heq (h' := sM s0.heap.size cI (g) (ft, cc, ns, sz, nr, has, nk) (c0, v)) (sM_eq (by exact m33) (by exact m41) (by exact m42) (by exact m43) (by exact m44) (by exact m45) (by exact m46) (by exact m47) (fun q _ _ _ _ _ _ _ _ => rfl)) ?_
        refine x_callVR C (G_Mo E.1) (u_997 E.1) (u_998 E.1) (u_999 E.1) (u_1000 E.1) (u_13 E.1) d_La_law_440 (c_Mo_cut1 l E hsz.1 hsz.2 sv1.1 sv1.2 (by omega)) nh_Mo_cut ln_Mo_cut rfl (by rfl) (nle rfl) (nle rfl) (nle rfl) (by show _ ≤ 601024; omega) (by show _ ≤ 7293000; omega) ?_
        refine XW.steq (st' := [.int (zI (0))]) rfl ?_
        refine x_istore C d_La_law_443 (by decide) ?_
        refine x_aload_n C d_La_law_445 rfl ?_
        refine x_callVR C (G_Mo E.1) (u_867 E.1) (u_868 E.1) (u_869 E.1) (u_870 E.1) (u_13 E.1) d_La_law_446 (c_Mo_thrown l E) nh_Mo_thrown ln_Mo_thrown rfl (by rfl) (nle rfl) (nle rfl) (nle rfl) (by show _ ≤ 601024; omega) (by show _ ≤ 7293000; omega) ?_
        refine x_iload C d_La_law_449 rfl ?_
        refine x_same C (tgt := 456) d_La_law_451 (by decide) ?_
        refine x_iload C d_La_law_456 rfl ?_
        refine x_if_ne C (tgt := 473) d_La_law_458 (by decide) (by omega) (by omega) (fun c458 => ?_) (fun c458 => ?_)
        · refine x_goto C (tgt := 558) d_La_law_473 (by decide) ?_
          refine XW.loc (lv' := [(0, .ref sb), (1, .ref (s0.heap.size + 0)), (2, .ref (s0.heap.size + 33)), (3, .ref (s0.heap.size + 48)), (4, .int (zI i))]) ⟨rfl, rfl, rfl, rfl, rfl, trivial⟩ ?_
          exact XW.widen (by omega) (by omega) (kk _ _ ⟨kp, np, has, ns, sz, nr, src, P, res, kc, w8, w12, n8, n12, p1, p2, p3, p4, p5, a1, a2, a3, a4, t, x, d, q0, m0, 1, nk, c0, v, Lr, f, ⟨(by exact f0), (by exact f1), (by exact f2), (by exact f3), (by exact f4), (by exact f5), (by exact f6), (by exact f7), (by exact f8), (by exact f9), (by exact f10), (by exact f11), (by exact f12), (by exact f13), (by exact f14), (by exact f15), (by exact f16), (by exact f17), (by exact f18), (by exact f19), (by exact f20), (by exact f21), (by exact f22), (by exact f23), (by exact f24), (by exact f25), (by exact f26), (by exact f27), (by exact f28), (by exact f29), (by exact f30), (by exact f31), (by exact f32)⟩, ⟨rfl, (by exact m34), (by exact m35), (by exact m36), (by exact m37), (by exact m38), (by exact m39), (by exact m40), rfl, rfl, rfl, rfl, rfl, rfl, rfl⟩, (by exact o48), ⟨hhas, hns, hsz, hnr, hcc, hnk, hsrc, hPb, htb, htn, hq0, hm0, hG, hvt, hw4, hkp⟩⟩)
        · exfalso; omega
    · rcases r1 with ⟨_, _, _, _, r1, _⟩ | ⟨_, r1⟩ <;> cases r1
