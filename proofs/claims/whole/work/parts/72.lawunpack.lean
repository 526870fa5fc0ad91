/-! the law: unpack -/
theorem sU_self {b : Nat} {cI : ClassId} {g : AH} {t : Hs} {d : De} {pa : va_E} (f16 : g 16 = some pa) (f17 : g 17 = some (oHi b t.2.2.2)) (f18 : g 18 = some (oBy b 19 t.2.1)) (f19 : g 19 = some (iA cI 120 t.1)) (f20 : g 20 = some (iA cI 4 t.2.2.1)) (f28 : g 28 = some (oFo b d.2.2.2 d.2.2.1 d.2.1)) (f30 : g 30 = some (iA cI 3820 d.1)) : g = sU b cI g t d pa := by
  simp only [sU, sF, sH, a_up_id f16, a_up_id f17, a_up_id f18, a_up_id f19, a_up_id f20, a_up_id f28, a_up_id f30]
theorem PMu_eq {s : Nat} {cI : ClassId} {h : AH} {κ : Kp} {res : Int → Int} {w4 : Cn4} {V U : Hs × Rs} {K : Nat} {o : AO} {h' : AH} {K' : Nat} (e : V = U) (r : PMu s cI h κ res w4 V.1 V.2 K o h' K') : PMu s cI h κ res w4 U.1 U.2 K o h' K' := by subst e; exact r
theorem exn_4 {b : Int} (h1 : 1 ≤ b) (h2 : b ≤ 4) : (b = 1 ∧ exn b = "java/util/NoSuchElementException") ∨ (b = 2 ∧ exn b = "java/lang/IllegalArgumentException") ∨ (b = 3 ∧ exn b = "java/lang/IndexOutOfBoundsException") ∨ (b = 4 ∧ exn b = "java/lang/IllegalStateException") := by
  have : b = 1 ∨ b = 2 ∨ b = 3 ∨ b = 4 := by omega
  rcases this with rfl | rfl | rfl | rfl
  · exact Or.inl ⟨rfl, rfl⟩
  · exact Or.inr (Or.inl ⟨rfl, rfl⟩)
  · exact Or.inr (Or.inr (Or.inl ⟨rfl, rfl⟩))
  · exact Or.inr (Or.inr (Or.inr ⟨rfl, rfl⟩))
theorem exn_is1 {b : Int} (h1 : 1 ≤ b) (h2 : b ≤ 4) (h : "java/util/NoSuchElementException" = exn b) : b = 1 := by
  rcases exn_4 h1 h2 with ⟨e1, e2⟩ | ⟨e1, e2⟩ | ⟨e1, e2⟩ | ⟨e1, e2⟩ <;> first | exact e1 | (rw [e2] at h; exact absurd h (by decide))
theorem exn_is2 {b : Int} (h1 : 1 ≤ b) (h2 : b ≤ 4) (h : "java/lang/IllegalArgumentException" = exn b) : b = 2 := by
  rcases exn_4 h1 h2 with ⟨e1, e2⟩ | ⟨e1, e2⟩ | ⟨e1, e2⟩ | ⟨e1, e2⟩ <;> first | exact e1 | (rw [e2] at h; exact absurd h (by decide))
theorem exn_is3 {b : Int} (h1 : 1 ≤ b) (h2 : b ≤ 4) (h : "java/lang/IndexOutOfBoundsException" = exn b) : b = 3 := by
  rcases exn_4 h1 h2 with ⟨e1, e2⟩ | ⟨e1, e2⟩ | ⟨e1, e2⟩ | ⟨e1, e2⟩ <;> first | exact e1 | (rw [e2] at h; exact absurd h (by decide))
theorem exn_is4 {b : Int} (h1 : 1 ≤ b) (h2 : b ≤ 4) (h : "java/lang/IllegalStateException" = exn b) : b = 4 := by
  rcases exn_4 h1 h2 with ⟨e1, e2⟩ | ⟨e1, e2⟩ | ⟨e1, e2⟩ | ⟨e1, e2⟩ <;> first | exact e1 | (rw [e2] at h; exact absurd h (by decide))
set_option maxRecDepth 100000 in
set_option maxHeartbeats 4000000 in
theorem op_unpack {a0 : Array Value} {s0 : State} {D : va_G} {cI cL : ClassId} (l : Launch) (E : a_E a0 s0 D cI cL) (F : a_F l s0) (NX : a_X s0) {p : Program} {e : Env} {m : MethodId} {args : Array Value} {below : List Frame} {meth : Method} {c : Code} (C : XC s0 D cI cL p s0 m meth c "NarrowingPackerLaw" code 7 (some .boolean) []) {sb L : Nat} {xs : Nat → Int32} (hX : va_X sb L xs s0 s0.heap) (hbl : sb < s0.heap.size) (hL : L ≤ 1537) {Q : State → Prop} {cc i : Int} {K cells slots : Nat} {g : AH} (i1 : 1 ≤ i) (i2 : i + 3 ≤ (L : Int)) (hce : cells + 1 ≤ 601024) (hsl : slots + 6 ≤ 7293000) {kp : Nat} {np : Nat} {has : Int} {ns : Int} {sz : Int} {nr : Int} {src : Int → Int} {P : Int → Int} {res : Int → Int} {kc : Int → Int} {w8 : T3} {w12 : T3} {n8 : Int} {n12 : Int} {p1 : Int} {p2 : Int} {p3 : Int} {p4 : Int} {p5 : Int} {a1 : Int} {a2 : Int} {a3 : Int} {a4 : Int} {t : Hs} {x : En} {d : De} {q0 : Int → Int} {m0 : Int} {ft : Int} {nk : Int} {c0 : Cd} {v : Vw} {Lr : T3} {f : Int → Int} (H1 : LC s0.heap.size cI cc g kp np has ns sz nr src P res kc w8 w12 n8 n12 p1 p2 p3 p4 p5 a1 a2 a3 a4 t x d q0 m0 ft nk c0 v Lr f) (H2 : LM s0.heap.size cI cc g kp np has ns sz nr src P res kc w8 w12 n8 n12 p1 p2 p3 p4 p5 a1 a2 a3 a4 t x d q0 m0 ft nk c0 v Lr f) (o48 : g 48 = some (lA cL 1 f)) (H3 : LPu cc kp np has ns sz nr src P res kc w8 w12 n8 n12 p1 p2 p3 p4 p5 a1 a2 a3 a4 t x d q0 m0 ft nk c0 v Lr f) (kk : ∀ g' K', LV s0.heap.size cI cL cc g' → XW s0 D p l e room_1 s0 m args below meth c Q 558 [(0, .ref sb), (1, .ref (s0.heap.size + 0)), (2, .ref (s0.heap.size + 33)), (3, .ref (s0.heap.size + 48)), (4, .int (zI i))] [] g' K' (cells + 1) (slots + 6))  : XW s0 D p l e room_1 s0 m args below meth c Q 476 [(0, .ref sb), (1, .ref (s0.heap.size + 0)), (2, .ref (s0.heap.size + 33)), (3, .ref (s0.heap.size + 48)), (4, .int (zI i))] [] g K cells slots := by
  have f0 := H1.1
  have f1 := H1.2.1
  have f2 := H1.2.2.1
  have f3 := H1.2.2.2.1
  have f4 := H1.2.2.2.2.1
  have f5 := H1.2.2.2.2.2.1
  have f6 := H1.2.2.2.2.2.2.1
  have f7 := H1.2.2.2.2.2.2.2.1
  have f8 := H1.2.2.2.2.2.2.2.2.1
  have f9 := H1.2.2.2.2.2.2.2.2.2.1
  have f10 := H1.2.2.2.2.2.2.2.2.2.2.1
  have f11 := H1.2.2.2.2.2.2.2.2.2.2.2.1
  have f12 := H1.2.2.2.2.2.2.2.2.2.2.2.2.1
  have f13 := H1.2.2.2.2.2.2.2.2.2.2.2.2.2.1
  have f14 := H1.2.2.2.2.2.2.2.2.2.2.2.2.2.2.1
  have f15 := H1.2.2.2.2.2.2.2.2.2.2.2.2.2.2.2.1
  have f16 := H1.2.2.2.2.2.2.2.2.2.2.2.2.2.2.2.2.1
  have f17 := H1.2.2.2.2.2.2.2.2.2.2.2.2.2.2.2.2.2.1
  have f18 := H1.2.2.2.2.2.2.2.2.2.2.2.2.2.2.2.2.2.2.1
  have f19 := H1.2.2.2.2.2.2.2.2.2.2.2.2.2.2.2.2.2.2.2.1
  have f20 := H1.2.2.2.2.2.2.2.2.2.2.2.2.2.2.2.2.2.2.2.2.1
  have f21 := H1.2.2.2.2.2.2.2.2.2.2.2.2.2.2.2.2.2.2.2.2.2.1
  have f22 := H1.2.2.2.2.2.2.2.2.2.2.2.2.2.2.2.2.2.2.2.2.2.2.1
  have f23 := H1.2.2.2.2.2.2.2.2.2.2.2.2.2.2.2.2.2.2.2.2.2.2.2.1
  have f24 := H1.2.2.2.2.2.2.2.2.2.2.2.2.2.2.2.2.2.2.2.2.2.2.2.2.1
  have f25 := H1.2.2.2.2.2.2.2.2.2.2.2.2.2.2.2.2.2.2.2.2.2.2.2.2.2.1
  have f26 := H1.2.2.2.2.2.2.2.2.2.2.2.2.2.2.2.2.2.2.2.2.2.2.2.2.2.2.1
  have f27 := H1.2.2.2.2.2.2.2.2.2.2.2.2.2.2.2.2.2.2.2.2.2.2.2.2.2.2.2.1
  have f28 := H1.2.2.2.2.2.2.2.2.2.2.2.2.2.2.2.2.2.2.2.2.2.2.2.2.2.2.2.2.1
  have f29 := H1.2.2.2.2.2.2.2.2.2.2.2.2.2.2.2.2.2.2.2.2.2.2.2.2.2.2.2.2.2.1
  have f30 := H1.2.2.2.2.2.2.2.2.2.2.2.2.2.2.2.2.2.2.2.2.2.2.2.2.2.2.2.2.2.2.1
  have f31 := H1.2.2.2.2.2.2.2.2.2.2.2.2.2.2.2.2.2.2.2.2.2.2.2.2.2.2.2.2.2.2.2.1
  have f32 := H1.2.2.2.2.2.2.2.2.2.2.2.2.2.2.2.2.2.2.2.2.2.2.2.2.2.2.2.2.2.2.2.2
  have m33 := H2.1
  have m34 := H2.2.1
  have m35 := H2.2.2.1
  have m36 := H2.2.2.2.1
  have m37 := H2.2.2.2.2.1
  have m38 := H2.2.2.2.2.2.1
  have m39 := H2.2.2.2.2.2.2.1
  have m40 := H2.2.2.2.2.2.2.2.1
  have m41 := H2.2.2.2.2.2.2.2.2.1
  have m42 := H2.2.2.2.2.2.2.2.2.2.1
  have m43 := H2.2.2.2.2.2.2.2.2.2.2.1
  have m44 := H2.2.2.2.2.2.2.2.2.2.2.2.1
  have m45 := H2.2.2.2.2.2.2.2.2.2.2.2.2.1
  have m46 := H2.2.2.2.2.2.2.2.2.2.2.2.2.2.1
  have m47 := H2.2.2.2.2.2.2.2.2.2.2.2.2.2.2
  have hhas := H3.1
  have hns := H3.2.1
  have hsz := H3.2.2.1
  have hnr := H3.2.2.2.1
  have hcc := H3.2.2.2.2.1
  have hnk := H3.2.2.2.2.2.1
  have hsrc := H3.2.2.2.2.2.2.1
  have hPb := H3.2.2.2.2.2.2.2.1
  have htb := H3.2.2.2.2.2.2.2.2.1
  have htn := H3.2.2.2.2.2.2.2.2.2.1
  have hq0 := H3.2.2.2.2.2.2.2.2.2.2.1
  have hm0 := H3.2.2.2.2.2.2.2.2.2.2.2.1
  have hG := H3.2.2.2.2.2.2.2.2.2.2.2.2.1
  have hvt := H3.2.2.2.2.2.2.2.2.2.2.2.2.2.1
  have hw4 := H3.2.2.2.2.2.2.2.2.2.2.2.2.2.2.1
  have hkp := H3.2.2.2.2.2.2.2.2.2.2.2.2.2.2.2
  have sv1 := sv_b (xs (i + 1).toNat)
  have sv2 := sv_b (xs (i + 2).toNat)
  have hpk := zcpy_bt hPb hq0 sz
  generalize hU : rUnpack (zcpy P q0 0 0 sz) sz t.1 = U
  have hU2 : rUnpack (zcpy P q0 0 0 sz) sz v.1.1 = U := by rw [hvt]; exact hU
  have hkU : hOk U.1 := by rw [← hU]; exact hOk_unpack htb
  have hUn := hkU.2.1
  refine XW.heq (h' := sU s0.heap.size cI g t d (oPa p1 p2 p3 p4 p5)) (sU_self f16 f17 f18 f19 f20 f28 f30) ?_
  refine x_aload_n C d_La_law_476 rfl ?_
  refine x_aload_n C d_La_law_477 rfl ?_
  have hM0 : XMT l s0 D y_Np_unpack prog_1_method_13_code 2 (some .int) 12 [.ref (s0.heap.size + 0)] (sU s0.heap.size cI g t d (oPa p1 p2 p3 p4 p5)) K (PU s0.heap.size cI (sB s0.heap.size cI g sz (zcpy P q0 0 0 sz)) res U K) := by
    rw [← hU]
    exact c_Np_unpack l E F (by exact f0) (by exact f3) (by exact f4) (by exact f5) (by exact f6) hnr.1 hnr.2 (by exact f27) (by exact f29) (by exact f31) (by exact f32) hm0.1 hm0.2 hsz.1 hsz.2 rfl hpk htb htn.1 htn.2
  refine x_callSH C (u_656 E.1) (u_657 E.1) (u_658 E.1) (u_0 E.1) d_La_law_478 (c_La_unpack l E NX (f := f) (h0 := by exact f0) (hM := hM0) (hret := (fun v h' K' q => by
      rcases q with ⟨d', x1, x2, x3, x4, x5, x6, u1, u2, u3, u4⟩ | ⟨bd, d', x1, x2, x3, x4, x5, u1, ub, u2, u3, u4⟩
      · cases u2; subst u4; exact ⟨_, rfl, by omega, by omega, by exact o48⟩
      · cases u2)) (hthr := (fun Cn h' K' q => by
      rcases q with ⟨d', x1, x2, x3, x4, x5, x6, u1, u2, u3, u4⟩ | ⟨bd, d', x1, x2, x3, x4, x5, u1, ub, u2, u3, u4⟩
      · cases u2
      · have e := Sum.inr.inj u2; subst e; rcases exn_4 ub.1 ub.2 with ⟨_, e⟩ | ⟨_, e⟩ | ⟨_, e⟩ | ⟨_, e⟩ <;> rw [e] <;> simp))) nh_La_unpack ln_La_unpack rfl (nle rfl) (nle rfl) (nle rfl) (by show _ ≤ 601024; omega) (by show _ ≤ 7293000; omega) (fun v1 h1 K1 r1 => ?_) (fun Cn h1 K1 r1 => ?_)
  · rcases r1 with ⟨n, g1, ⟨y1, y2⟩, q, e3, e4⟩ | ⟨q, e3⟩ | ⟨q, e3⟩ | ⟨q, e3⟩ | ⟨q, e3⟩
    · rcases q with ⟨d', x1, x2, x3, x4, x5, x6, u1, u2, u3, u4⟩ | ⟨bd, d', x1, x2, x3, x4, x5, u1, ub, u2, u3, u4⟩
      · have q4 : zI n = zI U.1.2.1 := by injection u2 with u2; injection u2 with u2; injection u2
        have q5 := zI_inj y1 y2 (by omega) (by omega) q4
        subst q5 u3 u4 e4
        cases e3
        refine x_istore C d_La_law_481 (by decide) ?_
        refine x_aload_n C d_La_law_483 rfl ?_
        refine XW.heq (h' := sM s0.heap.size cI (a_up (sR s0.heap.size cI (sU s0.heap.size cI (sB s0.heap.size cI g sz (zcpy P q0 0 0 sz)) U.1 d' (oPa x1 x2 x3 x4 x5)) res U.1) 48 (lA cL 1 (zup f 0 U.1.2.1))) (ft, cc, ns, sz, nr, has, nk) (c0, v)) (sM_eq (by exact m33) (by exact m41) (by exact m42) (by exact m43) (by exact m44) (by exact m45) (by exact m46) (by exact m47) (fun q _ _ _ _ _ _ _ _ => rfl)) ?_
        refine x_callVE C (G_Mo E.1) (u_965 E.1) (u_966 E.1) (u_967 E.1) (u_968 E.1) (u_13 E.1) d_La_law_484 (c_Mo_unpack l E (pk := (zcpy P q0 0 0 sz)) (res := res) (by exact m35) (fun j j0 j1 => by have j1 : j < sz := j1; unfold zcpy; rw [if_pos (by omega)]; congr 1; omega) hpk hsz.1 hsz.2 (by exact m36) hw4.1.1 hw4.1.2 hw4.2.1.1 hw4.2.1.2 hw4.2.2.1.1 hw4.2.2.1.2 hw4.2.2.2.1 hw4.2.2.2.2 hG (by rw [hvt]; exact htb)) nh_Mo_unpack ln_Mo_unpack rfl (by rfl) (nle rfl) (nle rfl) (nle rfl) (by show _ ≤ 601024; omega) (by show _ ≤ 7293000; omega) (fun v2 h2 K2 r2 => ?_) (fun Cn h2 K2 r2 => by obtain ⟨_, _, _, _, _, r2⟩ := r2; rcases r2 with ⟨_, _, r2, _⟩ | ⟨_, _, r2, _⟩ <;> cases r2)
        have r3 : PMu s0.heap.size cI (a_up (sR s0.heap.size cI (sU s0.heap.size cI (sB s0.heap.size cI g sz (zcpy P q0 0 0 sz)) U.1 d' (oPa x1 x2 x3 x4 x5)) res U.1) 48 (lA cL 1 (zup f 0 U.1.2.1))) (ft, cc, ns, sz, nr, has, nk) res v.2.2.2 U.1 U.2 K1 (.inl v2) h2 K2 := PMu_eq hU2 r2
        obtain ⟨rK, c', T', n', hG', r3⟩ := r3
        subst rK
        rcases r3 with ⟨dd, z0, z1, z3⟩ | ⟨bb, z0, z1, z3⟩
        · cases z1
          subst z3
          refine x_istore C d_La_law_487 (by decide) ?_
          refine x_aload_n C d_La_law_489 rfl ?_
          refine x_callVR C (G_Mo E.1) (u_867 E.1) (u_868 E.1) (u_869 E.1) (u_870 E.1) (u_13 E.1) d_La_law_490 (c_Mo_thrown l E) nh_Mo_thrown ln_Mo_thrown rfl (by rfl) (nle rfl) (nle rfl) (nle rfl) (by show _ ≤ 601024; omega) (by show _ ≤ 7293000; omega) ?_
          refine x_iload C d_La_law_493 rfl ?_
          refine x_same C (tgt := 500) d_La_law_495 (by decide) ?_
          refine x_iload C d_La_law_500 rfl ?_
          refine x_if_ne C (tgt := 517) d_La_law_502 (by decide) (by omega) (by omega) (fun c502 => ?_) (fun c502 => ?_)
          · exfalso; omega
          · refine x_aload_n C d_La_law_505 rfl ?_
            refine x_iconst C d_La_law_506 ?_
            refine x_lald C d_La_law_507 (show _ = some (lA cL 1 (zup f 0 (U.1.2.1))) from rfl) (by omega) (by omega) (by omega) ?_
            refine XW.steq (st' := [.long (zL (U.1.2.1))]) rfl ?_
            refine x_iload C d_La_law_508 rfl ?_
            refine x_i2l C d_La_law_510 (by omega) (by omega) ?_
            refine x_lcmp C d_La_law_511 ?_
            refine x_lif_eq C (tgt := 517) d_La_law_512 (by decide) (by omega) (by omega) (by omega) (by omega) (fun c512 => ?_) (fun c512 => ?_)
            · refine x_goto C (tgt := 558) d_La_law_517 (by decide) ?_
              refine XW.loc (lv' := [(0, .ref sb), (1, .ref (s0.heap.size + 0)), (2, .ref (s0.heap.size + 33)), (3, .ref (s0.heap.size + 48)), (4, .int (zI i))]) ⟨rfl, rfl, rfl, rfl, rfl, trivial⟩ ?_
              exact XW.widen (by omega) (by omega) (kk _ _ ⟨kp, np, has, ns, sz, U.1.2.1, src, P, (zcpy U.1.1 res 0 0 U.1.2.1), kc, w8, w12, n8, n12, x1, x2, x3, x4, x5, a1, a2, a3, a4, U.1, x, d', (zcpy P q0 0 0 sz), sz, 0, nk, c', (U.1, T', n', v.2.2.2), Lr, (zup f 0 U.1.2.1), ⟨(by exact f0), (by exact f1), (by exact f2), (by exact f3), (by exact f4), rfl, rfl, (by exact f7), (by exact f8), (by exact f9), (by exact f10), (by exact f11), (by exact f12), (by exact f13), (by exact f14), (by exact f15), rfl, rfl, rfl, rfl, rfl, (by exact f21), (by exact f22), (by exact f23), (by exact f24), (by exact f25), (by exact f26), (by exact f27), rfl, (by exact f29), rfl, rfl, rfl⟩, ⟨rfl, (by exact m34), (by exact m35), rfl, (by exact m37), (by exact m38), (by exact m39), (by exact m40), rfl, rfl, rfl, rfl, rfl, rfl, rfl⟩, rfl, ⟨hhas, hns, hsz, hUn, hcc, hnk, hsrc, hPb, hkU.1, hUn, hpk, hsz, hG', rfl, hw4, hkp⟩⟩)
            · exfalso; omega
        · exfalso; rw [u1] at z0; cases z0
      · exfalso; cases u2
    · rcases q with ⟨d', x1, x2, x3, x4, x5, x6, u1, u2, u3, u4⟩ | ⟨bd, d', x1, x2, x3, x4, x5, u1, ub, u2, u3, u4⟩
      · exfalso; cases u2
      · have hbd := exn_is1 ub.1 ub.2 (Sum.inr.inj u2)
        subst hbd u3 u4
        cases e3
        refine x_istore C d_La_law_481 (by decide) ?_
        refine x_aload_n C d_La_law_483 rfl ?_
        refine XW.heq (h' := sM s0.heap.size cI (sU s0.heap.size cI (sB s0.heap.size cI g sz (zcpy P q0 0 0 sz)) U.1 d' (oPa x1 x2 x3 x4 x5)) (ft, cc, ns, sz, nr, has, nk) (c0, v)) (sM_eq (by exact m33) (by exact m41) (by exact m42) (by exact m43) (by exact m44) (by exact m45) (by exact m46) (by exact m47) (fun q _ _ _ _ _ _ _ _ => rfl)) ?_
        refine x_callVE C (G_Mo E.1) (u_965 E.1) (u_966 E.1) (u_967 E.1) (u_968 E.1) (u_13 E.1) d_La_law_484 (c_Mo_unpack l E (pk := (zcpy P q0 0 0 sz)) (res := res) (by exact m35) (fun j j0 j1 => by have j1 : j < sz := j1; unfold zcpy; rw [if_pos (by omega)]; congr 1; omega) hpk hsz.1 hsz.2 (by exact m36) hw4.1.1 hw4.1.2 hw4.2.1.1 hw4.2.1.2 hw4.2.2.1.1 hw4.2.2.1.2 hw4.2.2.2.1 hw4.2.2.2.2 hG (by rw [hvt]; exact htb)) nh_Mo_unpack ln_Mo_unpack rfl (by rfl) (nle rfl) (nle rfl) (nle rfl) (by show _ ≤ 601024; omega) (by show _ ≤ 7293000; omega) (fun v2 h2 K2 r2 => ?_) (fun Cn h2 K2 r2 => by obtain ⟨_, _, _, _, _, r2⟩ := r2; rcases r2 with ⟨_, _, r2, _⟩ | ⟨_, _, r2, _⟩ <;> cases r2)
        have r3 : PMu s0.heap.size cI (sU s0.heap.size cI (sB s0.heap.size cI g sz (zcpy P q0 0 0 sz)) U.1 d' (oPa x1 x2 x3 x4 x5)) (ft, cc, ns, sz, nr, has, nk) res v.2.2.2 U.1 U.2 (K + 1) (.inl v2) h2 K2 := PMu_eq hU2 r2
        obtain ⟨rK, c', T', n', hG', r3⟩ := r3
        subst rK
        rcases r3 with ⟨dd, z0, z1, z3⟩ | ⟨bb, z0, z1, z3⟩
        · exfalso; rw [u1] at z0; cases z0
        · have eb : bb = 1 := by rw [u1] at z0; exact (Sum.inl.inj z0).symm
          subst eb
          cases z1
          subst z3
          refine x_istore C d_La_law_487 (by decide) ?_
          refine x_aload_n C d_La_law_489 rfl ?_
          refine x_callVR C (G_Mo E.1) (u_867 E.1) (u_868 E.1) (u_869 E.1) (u_870 E.1) (u_13 E.1) d_La_law_490 (c_Mo_thrown l E) nh_Mo_thrown ln_Mo_thrown rfl (by rfl) (nle rfl) (nle rfl) (nle rfl) (by show _ ≤ 601024; omega) (by show _ ≤ 7293000; omega) ?_
          refine x_iload C d_La_law_493 rfl ?_
          refine x_same C (tgt := 500) d_La_law_495 (by decide) ?_
          refine x_iload C d_La_law_500 rfl ?_
          refine x_if_ne C (tgt := 517) d_La_law_502 (by decide) (by omega) (by omega) (fun c502 => ?_) (fun c502 => ?_)
          · refine x_goto C (tgt := 558) d_La_law_517 (by decide) ?_
            refine XW.loc (lv' := [(0, .ref sb), (1, .ref (s0.heap.size + 0)), (2, .ref (s0.heap.size + 33)), (3, .ref (s0.heap.size + 48)), (4, .int (zI i))]) ⟨rfl, rfl, rfl, rfl, rfl, trivial⟩ ?_
            exact XW.widen (by omega) (by omega) (kk _ _ ⟨kp, np, has, ns, sz, nr, src, P, res, kc, w8, w12, n8, n12, x1, x2, x3, x4, x5, a1, a2, a3, a4, U.1, x, d', (zcpy P q0 0 0 sz), sz, 1, nk, c', (U.1, T', n', v.2.2.2), Lr, f, ⟨(by exact f0), (by exact f1), (by exact f2), (by exact f3), (by exact f4), (by exact f5), (by exact f6), (by exact f7), (by exact f8), (by exact f9), (by exact f10), (by exact f11), (by exact f12), (by exact f13), (by exact f14), (by exact f15), rfl, rfl, rfl, rfl, rfl, (by exact f21), (by exact f22), (by exact f23), (by exact f24), (by exact f25), (by exact f26), (by exact f27), rfl, (by exact f29), rfl, rfl, rfl⟩, ⟨rfl, (by exact m34), (by exact m35), (by exact m36), (by exact m37), (by exact m38), (by exact m39), (by exact m40), rfl, rfl, rfl, rfl, rfl, rfl, rfl⟩, (by exact o48), ⟨hhas, hns, hsz, hnr, hcc, hnk, hsrc, hPb, hkU.1, hUn, hpk, hsz, hG', rfl, hw4, hkp⟩⟩)
          · exfalso; omega
    · rcases q with ⟨d', x1, x2, x3, x4, x5, x6, u1, u2, u3, u4⟩ | ⟨bd, d', x1, x2, x3, x4, x5, u1, ub, u2, u3, u4⟩
      · exfalso; cases u2
      · have hbd := exn_is2 ub.1 ub.2 (Sum.inr.inj u2)
        subst hbd u3 u4
        cases e3
        refine x_istore C d_La_law_481 (by decide) ?_
        refine x_aload_n C d_La_law_483 rfl ?_
        refine XW.heq (h' := sM s0.heap.size cI (sU s0.heap.size cI (sB s0.heap.size cI g sz (zcpy P q0 0 0 sz)) U.1 d' (oPa x1 x2 x3 x4 x5)) (ft, cc, ns, sz, nr, has, nk) (c0, v)) (sM_eq (by exact m33) (by exact m41) (by exact m42) (by exact m43) (by exact m44) (by exact m45) (by exact m46) (by exact m47) (fun q _ _ _ _ _ _ _ _ => rfl)) ?_
        refine x_callVE C (G_Mo E.1) (u_965 E.1) (u_966 E.1) (u_967 E.1) (u_968 E.1) (u_13 E.1) d_La_law_484 (c_Mo_unpack l E (pk := (zcpy P q0 0 0 sz)) (res := res) (by exact m35) (fun j j0 j1 => by have j1 : j < sz := j1; unfold zcpy; rw [if_pos (by omega)]; congr 1; omega) hpk hsz.1 hsz.2 (by exact m36) hw4.1.1 hw4.1.2 hw4.2.1.1 hw4.2.1.2 hw4.2.2.1.1 hw4.2.2.1.2 hw4.2.2.2.1 hw4.2.2.2.2 hG (by rw [hvt]; exact htb)) nh_Mo_unpack ln_Mo_unpack rfl (by rfl) (nle rfl) (nle rfl) (nle rfl) (by show _ ≤ 601024; omega) (by show _ ≤ 7293000; omega) (fun v2 h2 K2 r2 => ?_) (fun Cn h2 K2 r2 => by obtain ⟨_, _, _, _, _, r2⟩ := r2; rcases r2 with ⟨_, _, r2, _⟩ | ⟨_, _, r2, _⟩ <;> cases r2)
        have r3 : PMu s0.heap.size cI (sU s0.heap.size cI (sB s0.heap.size cI g sz (zcpy P q0 0 0 sz)) U.1 d' (oPa x1 x2 x3 x4 x5)) (ft, cc, ns, sz, nr, has, nk) res v.2.2.2 U.1 U.2 (K + 1) (.inl v2) h2 K2 := PMu_eq hU2 r2
        obtain ⟨rK, c', T', n', hG', r3⟩ := r3
        subst rK
        rcases r3 with ⟨dd, z0, z1, z3⟩ | ⟨bb, z0, z1, z3⟩
        · exfalso; rw [u1] at z0; cases z0
        · have eb : bb = 2 := by rw [u1] at z0; exact (Sum.inl.inj z0).symm
          subst eb
          cases z1
          subst z3
          refine x_istore C d_La_law_487 (by decide) ?_
          refine x_aload_n C d_La_law_489 rfl ?_
          refine x_callVR C (G_Mo E.1) (u_867 E.1) (u_868 E.1) (u_869 E.1) (u_870 E.1) (u_13 E.1) d_La_law_490 (c_Mo_thrown l E) nh_Mo_thrown ln_Mo_thrown rfl (by rfl) (nle rfl) (nle rfl) (nle rfl) (by show _ ≤ 601024; omega) (by show _ ≤ 7293000; omega) ?_
          refine x_iload C d_La_law_493 rfl ?_
          refine x_same C (tgt := 500) d_La_law_495 (by decide) ?_
          refine x_iload C d_La_law_500 rfl ?_
          refine x_if_ne C (tgt := 517) d_La_law_502 (by decide) (by omega) (by omega) (fun c502 => ?_) (fun c502 => ?_)
          · refine x_goto C (tgt := 558) d_La_law_517 (by decide) ?_
            refine XW.loc (lv' := [(0, .ref sb), (1, .ref (s0.heap.size + 0)), (2, .ref (s0.heap.size + 33)), (3, .ref (s0.heap.size + 48)), (4, .int (zI i))]) ⟨rfl, rfl, rfl, rfl, rfl, trivial⟩ ?_
            exact XW.widen (by omega) (by omega) (kk _ _ ⟨kp, np, has, ns, sz, nr, src, P, res, kc, w8, w12, n8, n12, x1, x2, x3, x4, x5, a1, a2, a3, a4, U.1, x, d', (zcpy P q0 0 0 sz), sz, 2, nk, c', (U.1, T', n', v.2.2.2), Lr, f, ⟨(by exact f0), (by exact f1), (by exact f2), (by exact f3), (by exact f4), (by exact f5), (by exact f6), (by exact f7), (by exact f8), (by exact f9), (by exact f10), (by exact f11), (by exact f12), (by exact f13), (by exact f14), (by exact f15), rfl, rfl, rfl, rfl, rfl, (by exact f21), (by exact f22), (by exact f23), (by exact f24), (by exact f25), (by exact f26), (by exact f27), rfl, (by exact f29), rfl, rfl, rfl⟩, ⟨rfl, (by exact m34), (by exact m35), (by exact m36), (by exact m37), (by exact m38), (by exact m39), (by exact m40), rfl, rfl, rfl, rfl, rfl, rfl, rfl⟩, (by exact o48), ⟨hhas, hns, hsz, hnr, hcc, hnk, hsrc, hPb, hkU.1, hUn, hpk, hsz, hG', rfl, hw4, hkp⟩⟩)
          · exfalso; omega
    · rcases q with ⟨d', x1, x2, x3, x4, x5, x6, u1, u2, u3, u4⟩ | ⟨bd, d', x1, x2, x3, x4, x5, u1, ub, u2, u3, u4⟩
      · exfalso; cases u2
      · have hbd := exn_is3 ub.1 ub.2 (Sum.inr.inj u2)
        subst hbd u3 u4
        cases e3
        refine x_istore C d_La_law_481 (by decide) ?_
        refine x_aload_n C d_La_law_483 rfl ?_
        refine XW.heq (h' := sM s0.heap.size cI (sU s0.heap.size cI (sB s0.heap.size cI g sz (zcpy P q0 0 0 sz)) U.1 d' (oPa x1 x2 x3 x4 x5)) (ft, cc, ns, sz, nr, has, nk) (c0, v)) (sM_eq (by exact m33) (by exact m41) (by exact m42) (by exact m43) (by exact m44) (by exact m45) (by exact m46) (by exact m47) (fun q _ _ _ _ _ _ _ _ => rfl)) ?_
        refine x_callVE C (G_Mo E.1) (u_965 E.1) (u_966 E.1) (u_967 E.1) (u_968 E.1) (u_13 E.1) d_La_law_484 (c_Mo_unpack l E (pk := (zcpy P q0 0 0 sz)) (res := res) (by exact m35) (fun j j0 j1 => by have j1 : j < sz := j1; unfold zcpy; rw [if_pos (by omega)]; congr 1; omega) hpk hsz.1 hsz.2 (by exact m36) hw4.1.1 hw4.1.2 hw4.2.1.1 hw4.2.1.2 hw4.2.2.1.1 hw4.2.2.1.2 hw4.2.2.2.1 hw4.2.2.2.2 hG (by rw [hvt]; exact htb)) nh_Mo_unpack ln_Mo_unpack rfl (by rfl) (nle rfl) (nle rfl) (nle rfl) (by show _ ≤ 601024; omega) (by show _ ≤ 7293000; omega) (fun v2 h2 K2 r2 => ?_) (fun Cn h2 K2 r2 => by obtain ⟨_, _, _, _, _, r2⟩ := r2; rcases r2 with ⟨_, _, r2, _⟩ | ⟨_, _, r2, _⟩ <;> cases r2)
        have r3 : PMu s0.heap.size cI (sU s0.heap.size cI (sB s0.heap.size cI g sz (zcpy P q0 0 0 sz)) U.1 d' (oPa x1 x2 x3 x4 x5)) (ft, cc, ns, sz, nr, has, nk) res v.2.2.2 U.1 U.2 (K + 1) (.inl v2) h2 K2 := PMu_eq hU2 r2
        obtain ⟨rK, c', T', n', hG', r3⟩ := r3
        subst rK
        rcases r3 with ⟨dd, z0, z1, z3⟩ | ⟨bb, z0, z1, z3⟩
        · exfalso; rw [u1] at z0; cases z0
        · have eb : bb = 3 := by rw [u1] at z0; exact (Sum.inl.inj z0).symm
          subst eb
          cases z1
          subst z3
          refine x_istore C d_La_law_487 (by decide) ?_
          refine x_aload_n C d_La_law_489 rfl ?_
          refine x_callVR C (G_Mo E.1) (u_867 E.1) (u_868 E.1) (u_869 E.1) (u_870 E.1) (u_13 E.1) d_La_law_490 (c_Mo_thrown l E) nh_Mo_thrown ln_Mo_thrown rfl (by rfl) (nle rfl) (nle rfl) (nle rfl) (by show _ ≤ 601024; omega) (by show _ ≤ 7293000; omega) ?_
          refine x_iload C d_La_law_493 rfl ?_
          refine x_same C (tgt := 500) d_La_law_495 (by decide) ?_
          refine x_iload C d_La_law_500 rfl ?_
          refine x_if_ne C (tgt := 517) d_La_law_502 (by decide) (by omega) (by omega) (fun c502 => ?_) (fun c502 => ?_)
          · refine x_goto C (tgt := 558) d_La_law_517 (by decide) ?_
            refine XW.loc (lv' := [(0, .ref sb), (1, .ref (s0.heap.size + 0)), (2, .ref (s0.heap.size + 33)), (3, .ref (s0.heap.size + 48)), (4, .int (zI i))]) ⟨rfl, rfl, rfl, rfl, rfl, trivial⟩ ?_
            exact XW.widen (by omega) (by omega) (kk _ _ ⟨kp, np, has, ns, sz, nr, src, P, res, kc, w8, w12, n8, n12, x1, x2, x3, x4, x5, a1, a2, a3, a4, U.1, x, d', (zcpy P q0 0 0 sz), sz, 3, nk, c', (U.1, T', n', v.2.2.2), Lr, f, ⟨(by exact f0), (by exact f1), (by exact f2), (by exact f3), (by exact f4), (by exact f5), (by exact f6), (by exact f7), (by exact f8), (by exact f9), (by exact f10), (by exact f11), (by exact f12), (by exact f13), (by exact f14), (by exact f15), rfl, rfl, rfl, rfl, rfl, (by exact f21), (by exact f22), (by exact f23), (by exact f24), (by exact f25), (by exact f26), (by exact f27), rfl, (by exact f29), rfl, rfl, rfl⟩, ⟨rfl, (by exact m34), (by exact m35), (by exact m36), (by exact m37), (by exact m38), (by exact m39), (by exact m40), rfl, rfl, rfl, rfl, rfl, rfl, rfl⟩, (by exact o48), ⟨hhas, hns, hsz, hnr, hcc, hnk, hsrc, hPb, hkU.1, hUn, hpk, hsz, hG', rfl, hw4, hkp⟩⟩)
          · exfalso; omega
    · rcases q with ⟨d', x1, x2, x3, x4, x5, x6, u1, u2, u3, u4⟩ | ⟨bd, d', x1, x2, x3, x4, x5, u1, ub, u2, u3, u4⟩
      · exfalso; cases u2
      · have hbd := exn_is4 ub.1 ub.2 (Sum.inr.inj u2)
        subst hbd u3 u4
        cases e3
        refine x_istore C d_La_law_481 (by decide) ?_
        refine x_aload_n C d_La_law_483 rfl ?_
        refine XW.heq (h' := sM s0.heap.size cI (sU s0.heap.size cI (sB s0.heap.size cI g sz (zcpy P q0 0 0 sz)) U.1 d' (oPa x1 x2 x3 x4 x5)) (ft, cc, ns, sz, nr, has, nk) (c0, v)) (sM_eq (by exact m33) (by exact m41) (by exact m42) (by exact m43) (by exact m44) (by exact m45) (by exact m46) (by exact m47) (fun q _ _ _ _ _ _ _ _ => rfl)) ?_
        refine x_callVE C (G_Mo E.1) (u_965 E.1) (u_966 E.1) (u_967 E.1) (u_968 E.1) (u_13 E.1) d_La_law_484 (c_Mo_unpack l E (pk := (zcpy P q0 0 0 sz)) (res := res) (by exact m35) (fun j j0 j1 => by have j1 : j < sz := j1; unfold zcpy; rw [if_pos (by omega)]; congr 1; omega) hpk hsz.1 hsz.2 (by exact m36) hw4.1.1 hw4.1.2 hw4.2.1.1 hw4.2.1.2 hw4.2.2.1.1 hw4.2.2.1.2 hw4.2.2.2.1 hw4.2.2.2.2 hG (by rw [hvt]; exact htb)) nh_Mo_unpack ln_Mo_unpack rfl (by rfl) (nle rfl) (nle rfl) (nle rfl) (by show _ ≤ 601024; omega) (by show _ ≤ 7293000; omega) (fun v2 h2 K2 r2 => ?_) (fun Cn h2 K2 r2 => by obtain ⟨_, _, _, _, _, r2⟩ := r2; rcases r2 with ⟨_, _, r2, _⟩ | ⟨_, _, r2, _⟩ <;> cases r2)
        have r3 : PMu s0.heap.size cI (sU s0.heap.size cI (sB s0.heap.size cI g sz (zcpy P q0 0 0 sz)) U.1 d' (oPa x1 x2 x3 x4 x5)) (ft, cc, ns, sz, nr, has, nk) res v.2.2.2 U.1 U.2 (K + 1) (.inl v2) h2 K2 := PMu_eq hU2 r2
        obtain ⟨rK, c', T', n', hG', r3⟩ := r3
        subst rK
        rcases r3 with ⟨dd, z0, z1, z3⟩ | ⟨bb, z0, z1, z3⟩
        · exfalso; rw [u1] at z0; cases z0
        · have eb : bb = 4 := by rw [u1] at z0; exact (Sum.inl.inj z0).symm
          subst eb
          cases z1
          subst z3
          refine x_istore C d_La_law_487 (by decide) ?_
          refine x_aload_n C d_La_law_489 rfl ?_
          refine x_callVR C (G_Mo E.1) (u_867 E.1) (u_868 E.1) (u_869 E.1) (u_870 E.1) (u_13 E.1) d_La_law_490 (c_Mo_thrown l E) nh_Mo_thrown ln_Mo_thrown rfl (by rfl) (nle rfl) (nle rfl) (nle rfl) (by show _ ≤ 601024; omega) (by show _ ≤ 7293000; omega) ?_
          refine x_iload C d_La_law_493 rfl ?_
          refine x_same C (tgt := 500) d_La_law_495 (by decide) ?_
          refine x_iload C d_La_law_500 rfl ?_
          refine x_if_ne C (tgt := 517) d_La_law_502 (by decide) (by omega) (by omega) (fun c502 => ?_) (fun c502 => ?_)
          · refine x_goto C (tgt := 558) d_La_law_517 (by decide) ?_
            refine XW.loc (lv' := [(0, .ref sb), (1, .ref (s0.heap.size + 0)), (2, .ref (s0.heap.size + 33)), (3, .ref (s0.heap.size + 48)), (4, .int (zI i))]) ⟨rfl, rfl, rfl, rfl, rfl, trivial⟩ ?_
            exact XW.widen (by omega) (by omega) (kk _ _ ⟨kp, np, has, ns, sz, nr, src, P, res, kc, w8, w12, n8, n12, x1, x2, x3, x4, x5, a1, a2, a3, a4, U.1, x, d', (zcpy P q0 0 0 sz), sz, 4, nk, c', (U.1, T', n', v.2.2.2), Lr, f, ⟨(by exact f0), (by exact f1), (by exact f2), (by exact f3), (by exact f4), (by exact f5), (by exact f6), (by exact f7), (by exact f8), (by exact f9), (by exact f10), (by exact f11), (by exact f12), (by exact f13), (by exact f14), (by exact f15), rfl, rfl, rfl, rfl, rfl, (by exact f21), (by exact f22), (by exact f23), (by exact f24), (by exact f25), (by exact f26), (by exact f27), rfl, (by exact f29), rfl, rfl, rfl⟩, ⟨rfl, (by exact m34), (by exact m35), (by exact m36), (by exact m37), (by exact m38), (by exact m39), (by exact m40), rfl, rfl, rfl, rfl, rfl, rfl, rfl⟩, (by exact o48), ⟨hhas, hns, hsz, hnr, hcc, hnk, hsrc, hPb, hkU.1, hUn, hpk, hsz, hG', rfl, hw4, hkp⟩⟩)
          · exfalso; omega
  · rcases r1 with ⟨_, _, _, _, r1, _⟩ | ⟨_, r1⟩ | ⟨_, r1⟩ | ⟨_, r1⟩ | ⟨_, r1⟩ <;> cases r1
