/-! unpack -/
def sR (b : Nat) (cI : ClassId) (h : AH) (res : Int → Int) (t : Hs) : AH := a_up (a_up h 5 (oBy b 6 t.2.1)) 6 (iA cI 120 (zcpy t.1 res 0 0 t.2.1))
def PU (b : Nat) (cI : ClassId) (h : AH) (res : Int → Int) (U : Hs × Rs) (K : Nat) : AO → AH → Nat → Prop := fun o h' K' =>
  (∃ d' x1 x2 x3 x4 x5 x6, U.2 = .inr x6 ∧ o = .inl (some (.int (zI U.1.2.1))) ∧ K' = K ∧ h' = sR b cI (sU b cI h U.1 d' (oPa x1 x2 x3 x4 x5)) res U.1) ∨
  (∃ bd d' x1 x2 x3 x4 x5, U.2 = .inl bd ∧ (1 ≤ bd ∧ bd ≤ 4) ∧ o = .inr (exn bd) ∧ K' = K + 1 ∧ h' = sU b cI h U.1 d' (oPa x1 x2 x3 x4 x5))
/-- what may be met -/
def bOk (x : Rs) : Prop := ∀ b, x = .inl b → 1 ≤ b ∧ b ≤ 4
theorem bOk_bit {pk : Int → Int} {sz a : Int} {x : Rs} (h : bOk x) : bOk (rBit pk sz a x).2 := by
  cases x with
  | inl b => exact h
  | inr d => intro b hb; have : b = 1 := rNext_bad hb; omega
theorem bOk_tree {pk : Int → Int} {sz : Int} : ∀ (k : Nat) (a m : Int) {x : Rs}, bOk x → bOk (rTree pk sz k a m x).2 := by
  intro k
  induction k with
  | zero => intro a m x h; exact h
  | succ k ih => intro a m x h; exact ih a _ (bOk_bit h)
theorem bOk_row {pk : Int → Int} {sz : Int} : ∀ (r k : Nat) (a m v : Int) {x : Rs}, bOk x → bOk (rRow pk sz r k a m v x).2 := by
  intro r
  induction r with
  | zero => intro k a m v x h; exact h
  | succ r ih => intro k a m v x h; exact ih _ a _ _ (bOk_bit h)
theorem bOk_lit {pk : Int → Int} {sz : Int} : ∀ (k : Nat) (pl ly m as : Int) {x : Rs}, bOk x → bOk (rLit pk sz k pl ly m as x).2 := by
  intro k
  induction k with
  | zero => intro pl ly m as x h; exact h
  | succ k ih => intro pl ly m as x h; exact ih pl ly _ _ (bOk_bit h)
theorem bOk_len {pk : Int → Int} {sz : Int} (pl : Int) {x : Rs} (h : bOk x) : bOk (rLen pk sz pl x).2 := by
  unfold rLen
  split
  · exact bOk_tree 3 _ _ (bOk_bit h)
  · split
    · exact bOk_tree 3 _ _ (bOk_bit (bOk_bit h))
    · exact bOk_tree 7 _ _ (bOk_bit (bOk_bit h))
theorem bOk_far {x : Rs} (h : bOk x) : bOk (rFar x) := by
  cases x with
  | inl b => exact h
  | inr d => intro b hb; cases hb; decide
theorem bOk_dist {pk : Int → Int} {sz : Int} (slot : Int) {x : Rs} (h : bOk x) : bOk (rDist pk sz slot x).2 := by
  unfold rDist
  split
  · exact h
  · exact bOk_row _ _ _ _ _ h
theorem bOk_match {pk : Int → Int} {sz : Int} {x : Rs} (h : bOk x) : bOk (rMatch pk sz x).2 := by
  have h1 : bOk (rSlot pk sz x).2 := bOk_tree _ _ _ (bOk_len _ h)
  unfold rMatch
  split
  · exact h1
  · split
    · exact bOk_far h1
    · exact bOk_dist _ h1
theorem bOk_rep {pk : Int → Int} {sz : Int} {bk : Int → Int} {s : Int} {x : Rs} (h : bOk x) : bOk (rRep pk sz bk s x).2 := by
  unfold rRep
  split
  · split
    · exact bOk_bit (bOk_bit h)
    · exact bOk_len _ (bOk_bit (bOk_bit h))
  · split
    · exact bOk_len _ (bOk_bit (bOk_bit h))
    · exact bOk_len _ (bOk_bit (bOk_bit (bOk_bit h)))
theorem bOk_pkt {pk : Int → Int} {sz : Int} {t : Hs} {x : Rs} (h : bOk x) : bOk (rPkt pk sz t x).2 := by
  unfold rPkt
  split
  · exact bOk_lit _ _ _ _ _ (bOk_bit h)
  · split
    · exact bOk_match (bOk_bit (bOk_bit h))
    · exact bOk_rep (bOk_bit (bOk_bit h))
theorem bOk_r (d : De) : bOk (.inr d) := fun b hb => by cases hb
theorem rTold_b (n : Int) (q : Pk) : rTold n q = 0 ∨ rTold n q = 3 ∨ rTold n q = 4 := by
  unfold rTold
  split
  · omega
  · split <;> omega
set_option maxRecDepth 100000 in
set_option maxHeartbeats 4000000 in
theorem ex_Np_unpack {a0 : Array Value} {s0 : State} {D : va_G} {cI cL : ClassId} (l : Launch) (E : a_E a0 s0 D cI cL) (F : a_F l s0) {p : Program} {e : Env} {R : Room} {s : State} {m : MethodId} {args : Array Value} {below : List Frame} {meth : Method} {c : Code} (C : XC s0 D cI cL p s m meth c "NarrowingPacker" prog_1_method_13_code 2 (some .int) []) (hR : R = a_rm 12 1 6) {h : AH} {K kp np : Nat} {has : Int} (h0 : h 0 = some (oNp s0.heap.size kp np has)) {pk res : Int → Int} {sz nr : Int} (h5 : h 5 = some (oBy s0.heap.size 6 nr)) (h6 : h 6 = some (iA cI 120 res)) (r1 : 0 ≤ nr) (r2 : nr ≤ 120) (h27 : h 27 = some (oRe s0.heap.size)) (h29 : h 29 = some (oCh s0.heap.size 30)) (z1 : 0 ≤ sz) (z2 : sz ≤ 200) (hp : ∀ j, 0 ≤ pk j ∧ pk j < 256) (h31 : h 31 = some (oBy s0.heap.size 32 sz)) (h32 : h 32 = some (iA cI 200 pk)) {t : Hs} (hk : hOk t) {d : De} (ok : dOk sz d) {k ln ds ec li : Int} {U : Hs × Rs} (hU : rFin sz (t, .inr d) = U) : XW s0 D p l e R s m args below meth c (XQT s0 D (PU s0.heap.size cI h res U K) below s) 79 [(0, .ref (s0.heap.size + 0))] [] (sU s0.heap.size cI h t d (oPa k ln ds ec li)) K 0 0 := by
  subst hR
  have hU : (t, rEnd sz d) = U := hU
  subst hU
  have hn := hk.2.1
  refine x_aload_n C d_Np_unpack_79 rfl ?_
  refine x_get C (G_Np E.1) 11 (u_257 E.1) d_Np_unpack_80 (by decide) (by exact h0) rfl ?_
  refine x_getN C (G_Re E.1) 0 (u_242 E.1) d_Np_unpack_83 (by decide) (by exact h27) rfl ?_
  refine x_callVTT C (G_Fo E.1) (u_753 E.1) (u_754 E.1) (u_755 E.1) (u_756 E.1) (u_12 E.1) d_Np_unpack_86 (c_Fo_refuseWhatIsLeft l E F (h := a_up (sH s0.heap.size cI h t) 16 (oPa k ln ds ec li)) (by exact h31) (by exact h32) hp z1 z2 (by exact h29) ok) nh_Fo_refuseWhatIsLeft ln_Fo_refuseWhatIsLeft rfl (by rfl) (nle rfl) (nle rfl) (nle rfl) (nle rfl) (nle rfl) (fun v86 h86 K86 r86 => ?_) (fun Cn86 h86 K86 r86 => ?_)
  · obtain ⟨d86, e86, rfl, rfl, rfl⟩ := r86.ret
    refine x_aload_n C d_Np_unpack_89 rfl ?_
    refine x_get C (G_Np E.1) 2 (u_248 E.1) d_Np_unpack_90 (by decide) (by exact h0) rfl ?_
    refine x_aload_n C d_Np_unpack_93 rfl ?_
    refine x_get C (G_Np E.1) 8 (u_254 E.1) d_Np_unpack_94 (by decide) (by exact h0) rfl ?_
    refine x_getN C (G_Hi E.1) 0 (u_122 E.1) d_Np_unpack_97 (by decide) (by rfl) rfl ?_
    refine x_getN C (G_By E.1) 0 (u_41 E.1) d_Np_unpack_100 (by decide) (by rfl) rfl ?_
    refine x_aload_n C d_Np_unpack_103 rfl ?_
    refine x_get C (G_Np E.1) 8 (u_254 E.1) d_Np_unpack_104 (by decide) (by exact h0) rfl ?_
    refine x_getN C (G_Hi E.1) 0 (u_122 E.1) d_Np_unpack_107 (by decide) (by rfl) rfl ?_
    refine x_getN C (G_By E.1) 1 (u_46 E.1) d_Np_unpack_110 (by decide) (by rfl) rfl ?_
    refine x_callVR C (G_By E.1) (u_597 E.1) (u_598 E.1) (u_599 E.1) (u_600 E.1) (u_2 E.1) d_Np_unpack_113 (c_By_copy l E (r := 6) (N := 120) (by exact h5) (by exact h6) (by omega) r1 r2 (r2 := 19) (M := 120) (g := t.1) (by decide) (by decide) (by rfl) (by omega) hn.1 (by omega) (by omega)) nh_By_copy ln_By_copy rfl (by exact h5) (nle rfl) (nle rfl) (nle rfl) (nle rfl) (nle rfl) ?_
    refine x_aload_n C d_Np_unpack_116 rfl ?_
    refine x_get C (G_Np E.1) 2 (u_248 E.1) d_Np_unpack_117 (by decide) (by exact h0) rfl ?_
    refine x_getN C (G_By E.1) 1 (u_46 E.1) d_Np_unpack_120 (by decide) (by rfl) rfl ?_
    exact x_iretT C d_Np_unpack_123 (Or.inl ⟨d86, k, ln, ds, ec, li, d86, e86, rfl, rfl, rfl⟩)
  · obtain ⟨b86, e86, rfl, rfl, d86, rfl⟩ := r86.thr
    exact Or.inr ⟨b86, d86, k, ln, ds, ec, li, e86, by unfold rEnd at e86; split at e86 <;> cases e86; decide, rfl, rfl, rfl⟩
set_option maxRecDepth 100000 in
set_option maxHeartbeats 8000000 in
theorem lp_Np_unpack {a0 : Array Value} {s0 : State} {D : va_G} {cI cL : ClassId} (l : Launch) (E : a_E a0 s0 D cI cL) (F : a_F l s0) {p : Program} {e : Env} {R : Room} {s : State} {m : MethodId} {args : Array Value} {below : List Frame} {meth : Method} {c : Code} (C : XC s0 D cI cL p s m meth c "NarrowingPacker" prog_1_method_13_code 2 (some .int) []) (hR : R = a_rm 12 1 6) {h : AH} {K kp np : Nat} {has : Int} (h0 : h 0 = some (oNp s0.heap.size kp np has)) {pk res : Int → Int} {sz nr : Int} (h5 : h 5 = some (oBy s0.heap.size 6 nr)) (h6 : h 6 = some (iA cI 120 res)) (r1 : 0 ≤ nr) (r2 : nr ≤ 120) (h27 : h 27 = some (oRe s0.heap.size)) (h29 : h 29 = some (oCh s0.heap.size 30)) (z1 : 0 ≤ sz) (z2 : sz ≤ 200) (hp : ∀ j, 0 ≤ pk j ∧ pk j < 256) (h31 : h 31 = some (oBy s0.heap.size 32 sz)) (h32 : h 32 = some (iA cI 200 pk)) {U : Hs × Rs} : ∀ (r : Nat) (t : Hs) (d : De) (k ln ds ec li : Int), r ≤ 121 → 121 - (r : Int) ≤ t.2.1 → hOk t → dOk sz d → rFin sz (rLoop pk sz r t d) = U → XW s0 D p l e R s m args below meth c (XQT s0 D (PU s0.heap.size cI h res U K) below s) 23 [(0, .ref (s0.heap.size + 0)), (1, .int (zI (121 - (r : Nat) : Int)))] [] (sU s0.heap.size cI h t d (oPa k ln ds ec li)) K 0 0 := by
  intro r
  induction r with
  | zero =>
    intro t d k ln ds ec li hr hn hk ok hU
    exfalso
    have := hk.2.1
    omega
  | succ r ih =>
    intro t d k ln ds ec li hr hn hk ok hU
    have hn2 := hk.2.1
    have hex := fun (d1 : De) (ok1 : dOk sz d1) (k ln ds ec li : Int) (hU : rFin sz (t, .inr d1) = U) => ex_Np_unpack l E F C hR h0 h5 h6 r1 r2 h27 h29 z1 z2 hp h31 h32 hk ok1 (e := e) (args := args) (below := below) (K := K) (k := k) (ln := ln) (ds := ds) (ec := ec) (li := li) hU
    subst hR
    refine x_iload_n C d_Np_unpack_23 rfl ?_
    refine x_bipush C d_Np_unpack_24 (by decide) ?_
    refine x_icmp_gt C (tgt := 79) d_Np_unpack_26 (by decide) (by omega) (by omega) (by omega) (by omega) (fun c26 => ?_) (fun c26 => ?_)
    · exfalso; omega
    · refine x_aload_n C d_Np_unpack_29 rfl ?_
      refine x_get C (G_Np E.1) 11 (u_257 E.1) d_Np_unpack_30 (by decide) (by exact h0) rfl ?_
      refine x_aload_n C d_Np_unpack_33 rfl ?_
      refine x_get C (G_Np E.1) 7 (u_253 E.1) d_Np_unpack_34 (by decide) (by exact h0) rfl ?_
      refine x_aload_n C d_Np_unpack_37 rfl ?_
      refine x_get C (G_Np E.1) 8 (u_254 E.1) d_Np_unpack_38 (by decide) (by exact h0) rfl ?_
      refine x_callVTT C (G_Re E.1) (u_695 E.1) (u_696 E.1) (u_697 E.1) (u_698 E.1) (u_11 E.1) d_Np_unpack_41 (c_Re_readPacket l E F (h := a_up (sH s0.heap.size cI h t) 16 (oPa k ln ds ec li)) (by exact h31) (by exact h32) hp z1 z2 (by exact h29) (by exact h27) ok (by rfl) (t := t) (by exact ⟨rfl, rfl, rfl, rfl⟩) hk) nh_Re_readPacket ln_Re_readPacket rfl (by exact h27) (nle rfl) (nle rfl) (nle rfl) (nle rfl) (nle rfl) (fun v41 h41 K41 r41 => ?_) (fun Cn41 h41 K41 r41 => ?_)
      · obtain ⟨d41, e41, rfl, rfl, rfl⟩ := r41.ret
        have ok41 : dOk sz d41 := ok_of (xOk_pkt hp (x := .inr d) ok) e41
        have hq := rPkt_ok pk sz t (.inr d)
        rw [rLoop_go e41] at hU
        refine XW.heq (h' := sU s0.heap.size cI h t d41 (pkSt (rPkt pk sz t (.inr d)).1 ec li)) (sU_P _ _ _ _ _ _ _) ?_
        generalize (rPkt pk sz t (.inr d)).1 = q at hq hU ⊢
        rcases hq with ⟨li2, rfl, b1, b2⟩ | rfl | ⟨ln2, ds2, rfl, l1, l2, d1, d2⟩ | ⟨ln2, ec2, rfl, l1, l2, e1, e2⟩ | rfl
        · refine XW.heq (h' := sU s0.heap.size cI h t d41 (oPa 0 1 0 ec li2)) rfl ?_
          have hbk := hk.2.2.1 0
          rw [if_neg (show ¬ ((0, 1, 0, 0, li2) : Pk).1 = 4 from fun h => absurd (show (0 : Int) = 4 from h) (by decide))] at hU
          refine x_aload_n C d_Np_unpack_44 rfl ?_
          refine x_get C (G_Np E.1) 7 (u_253 E.1) d_Np_unpack_45 (by decide) (by exact h0) rfl ?_
          refine x_getN C (G_Pa E.1) 0 (u_83 E.1) d_Np_unpack_48 (by decide) (by rfl) rfl ?_
          refine x_iconst C d_Np_unpack_51 ?_
          refine x_icmp_ne C (tgt := 58) d_Np_unpack_52 (by decide) (by omega) (by omega) (by omega) (by omega) (fun c52 => ?_) (fun c52 => ?_)
          · refine x_aload_n C d_Np_unpack_58 rfl ?_
            refine x_callVTT C (G_Np E.1) (u_747 E.1) (u_749 E.1) (us_22 E.1) (u_750 E.1) (u_1 E.1) d_Np_unpack_59 (c_Np_refuseWhatCannotBeTold l E F (h := sU s0.heap.size cI h t d41 (oPa 0 1 0 ec li2)) (k := 0) (ln := 1) (ds := 0) (ec := ec) (li := li2) (n := t.2.1) (st := t.2.2.2) (by exact h0) (by rfl) (by rfl) (by rfl) hn2.1 hn2.2 (by omega) (by omega) (by omega) (by omega) (by omega) (by omega)) nh_Np_refuseWhatCannotBeTold ln_Np_refuseWhatCannotBeTold rfl (by exact h0) (nle rfl) (nle rfl) (nle rfl) (nle rfl) (nle rfl) (fun v59 h59 K59 r59 => ?_) (fun Cn59 h59 K59 r59 => ?_)
            · obtain ⟨rfl, hz0⟩ := r59
              have hz : rTold t.2.1 (0, 1, 0, ec, li2) = 0 ∧ v59 = none ∧ K59 = K41 := by
                rcases hz0 with ⟨z1, z2, z3⟩ | ⟨z1, z2, z3⟩
                · cases z2; exact ⟨z1, rfl, z3⟩
                · cases z2
              obtain ⟨hz9, rfl, rfl⟩ := hz
              have hz : rTold t.2.1 (0, 1, 0, 0, li2) = 0 := hz9
              rw [if_neg (fun h => h hz)] at hU
              have hst := hOk_read hk (q := (0, 1, 0, 0, li2)) (Or.inl ⟨li2, rfl, b1, b2⟩) (fun h => absurd (show (0 : Int) = 4 from h) (by decide)) hz
              unfold rTold at hz
              have hz2 : t.2.1 < 120 := by
                split at hz
                · cases hz
                · split at hz
                  · cases hz
                  · rename_i g1 g2; have g2 : ¬ 120 - t.2.1 < 1 := g2; omega
              refine XW.heq (h' := sH s0.heap.size cI (sU s0.heap.size cI h t d41 (oPa 0 1 0 ec li2)) t) (by rw [sU_H]) ?_
              refine x_aload_n C d_Np_unpack_62 rfl ?_
              refine x_get C (G_Np E.1) 8 (u_254 E.1) d_Np_unpack_63 (by decide) (by exact h0) rfl ?_
              refine x_aload_n C d_Np_unpack_66 rfl ?_
              refine x_get C (G_Np E.1) 7 (u_253 E.1) d_Np_unpack_67 (by decide) (by exact h0) rfl ?_
              refine x_callVR C (G_Hi E.1) (u_490 E.1) (u_491 E.1) (u_492 E.1) (u_493 E.1) (u_5 E.1) d_Np_unpack_70 (c_Hi_tell0 l E hk (by rfl) b1 b2 (by omega)) nh_Hi_tell ln_Hi_tell rfl rfl (nle rfl) (nle rfl) (nle rfl) (nle rfl) (nle rfl) ?_
              refine x_iinc C d_Np_unpack_73 (by decide) rfl ?_
              refine x_goto C (tgt := 23) d_Np_unpack_76 (by decide) ?_
              refine XW.heq (h' := sU s0.heap.size cI h (hTell t (0, 1, 0, 0, li2)) d41 (oPa 0 1 0 ec li2)) (by rw [sU_H]; rfl) ?_
              refine XW.loc (lv' := [(0, .ref (s0.heap.size + 0)), (1, .int (zI (121 - (r : Nat) : Int)))]) ⟨rfl, by rw [show (121 - (r : Nat) : Int) = 121 - ((r + 1 : Nat) : Int) + 1 by omega]; rfl, trivial⟩ ?_
              exact ih _ _ _ _ _ _ _ (by omega) (by have := hst.2; omega) hst.1 ok41 hU
            · obtain ⟨rfl, hz⟩ := r59
              rcases hz with ⟨z1, z2, z3⟩ | ⟨z1, z2, z3⟩
              · cases z2
              · cases z2
                subst z3
                have z1 : rTold t.2.1 (0, 1, 0, 0, li2) ≠ 0 := z1
                rw [if_pos z1] at hU
                subst hU
                exact Or.inr ⟨rTold t.2.1 (0, 1, 0, 0, li2), d41, _, _, _, _, _, rfl, by have := rTold_b t.2.1 (0, 1, 0, 0, li2); omega, rfl, rfl, rfl⟩
          · refine x_goto C (tgt := 79) d_Np_unpack_55 (by decide) ?_
            exfalso; omega
        · refine XW.heq (h' := sU s0.heap.size cI h t d41 (oPa 4 0 0 ec li)) rfl ?_
          refine x_aload_n C d_Np_unpack_44 rfl ?_
          refine x_get C (G_Np E.1) 7 (u_253 E.1) d_Np_unpack_45 (by decide) (by exact h0) rfl ?_
          refine x_getN C (G_Pa E.1) 0 (u_83 E.1) d_Np_unpack_48 (by decide) (by rfl) rfl ?_
          refine x_iconst C d_Np_unpack_51 ?_
          refine x_icmp_ne C (tgt := 58) d_Np_unpack_52 (by decide) (by omega) (by omega) (by omega) (by omega) (fun c52 => ?_) (fun c52 => ?_)
          · exfalso; omega
          · refine x_goto C (tgt := 79) d_Np_unpack_55 (by decide) ?_
            refine XW.loc (lv' := [(0, .ref (s0.heap.size + 0))]) ⟨rfl, trivial⟩ ?_
            exact hex d41 ok41 _ _ _ _ _ (by rw [← hU]; rfl)
        · refine XW.heq (h' := sU s0.heap.size cI h t d41 (oPa 1 ln2 ds2 ec li)) rfl ?_
          have hbk := hk.2.2.1 0
          rw [if_neg (show ¬ ((1, ln2, ds2, 0, 0) : Pk).1 = 4 from fun h => absurd (show (1 : Int) = 4 from h) (by decide))] at hU
          refine x_aload_n C d_Np_unpack_44 rfl ?_
          refine x_get C (G_Np E.1) 7 (u_253 E.1) d_Np_unpack_45 (by decide) (by exact h0) rfl ?_
          refine x_getN C (G_Pa E.1) 0 (u_83 E.1) d_Np_unpack_48 (by decide) (by rfl) rfl ?_
          refine x_iconst C d_Np_unpack_51 ?_
          refine x_icmp_ne C (tgt := 58) d_Np_unpack_52 (by decide) (by omega) (by omega) (by omega) (by omega) (fun c52 => ?_) (fun c52 => ?_)
          · refine x_aload_n C d_Np_unpack_58 rfl ?_
            refine x_callVTT C (G_Np E.1) (u_747 E.1) (u_749 E.1) (us_22 E.1) (u_750 E.1) (u_1 E.1) d_Np_unpack_59 (c_Np_refuseWhatCannotBeTold l E F (h := sU s0.heap.size cI h t d41 (oPa 1 ln2 ds2 ec li)) (k := 1) (ln := ln2) (ds := ds2) (ec := ec) (li := li) (n := t.2.1) (st := t.2.2.2) (by exact h0) (by rfl) (by rfl) (by rfl) hn2.1 hn2.2 (by omega) (by omega) (by omega) (by omega) (by omega) (by omega)) nh_Np_refuseWhatCannotBeTold ln_Np_refuseWhatCannotBeTold rfl (by exact h0) (nle rfl) (nle rfl) (nle rfl) (nle rfl) (nle rfl) (fun v59 h59 K59 r59 => ?_) (fun Cn59 h59 K59 r59 => ?_)
            · obtain ⟨rfl, hz0⟩ := r59
              have hz : rTold t.2.1 (1, ln2, ds2, ec, li) = 0 ∧ v59 = none ∧ K59 = K41 := by
                rcases hz0 with ⟨z1, z2, z3⟩ | ⟨z1, z2, z3⟩
                · cases z2; exact ⟨z1, rfl, z3⟩
                · cases z2
              obtain ⟨hz9, rfl, rfl⟩ := hz
              have hz : rTold t.2.1 (1, ln2, ds2, 0, 0) = 0 := hz9
              rw [if_neg (fun h => h hz)] at hU
              have hst := hOk_read hk (q := (1, ln2, ds2, 0, 0)) (Or.inr (Or.inr (Or.inl ⟨ln2, ds2, rfl, l1, l2, d1, d2⟩))) (fun h => absurd (show (1 : Int) = 4 from h) (by decide)) hz
              unfold rTold at hz
              have hz2 : ds2 ≤ t.2.1 ∧ t.2.1 + ln2 ≤ 120 := by
                split at hz
                · cases hz
                · split at hz
                  · cases hz
                  · rename_i g1 g2; have g1 : ¬ ((1 : Int) ≠ 0 ∧ t.2.1 < ds2) := g1; have g2 : ¬ 120 - t.2.1 < ln2 := g2; omega
              refine XW.heq (h' := sH s0.heap.size cI (sU s0.heap.size cI h t d41 (oPa 1 ln2 ds2 ec li)) t) (by rw [sU_H]) ?_
              refine x_aload_n C d_Np_unpack_62 rfl ?_
              refine x_get C (G_Np E.1) 8 (u_254 E.1) d_Np_unpack_63 (by decide) (by exact h0) rfl ?_
              refine x_aload_n C d_Np_unpack_66 rfl ?_
              refine x_get C (G_Np E.1) 7 (u_253 E.1) d_Np_unpack_67 (by decide) (by exact h0) rfl ?_
              refine x_callVR C (G_Hi E.1) (u_490 E.1) (u_491 E.1) (u_492 E.1) (u_493 E.1) (u_5 E.1) d_Np_unpack_70 (c_Hi_tell1 l E hk (by rfl) (by omega) (by omega) d1 (by omega)) nh_Hi_tell ln_Hi_tell rfl rfl (nle rfl) (nle rfl) (nle rfl) (nle rfl) (nle rfl) ?_
              refine x_iinc C d_Np_unpack_73 (by decide) rfl ?_
              refine x_goto C (tgt := 23) d_Np_unpack_76 (by decide) ?_
              refine XW.heq (h' := sU s0.heap.size cI h (hTell t (1, ln2, ds2, 0, 0)) d41 (oPa 1 ln2 ds2 ec li)) (by rw [sU_H]; rfl) ?_
              refine XW.loc (lv' := [(0, .ref (s0.heap.size + 0)), (1, .int (zI (121 - (r : Nat) : Int)))]) ⟨rfl, by rw [show (121 - (r : Nat) : Int) = 121 - ((r + 1 : Nat) : Int) + 1 by omega]; rfl, trivial⟩ ?_
              exact ih _ _ _ _ _ _ _ (by omega) (by have := hst.2; omega) hst.1 ok41 hU
            · obtain ⟨rfl, hz⟩ := r59
              rcases hz with ⟨z1, z2, z3⟩ | ⟨z1, z2, z3⟩
              · cases z2
              · cases z2
                subst z3
                have z1 : rTold t.2.1 (1, ln2, ds2, 0, 0) ≠ 0 := z1
                rw [if_pos z1] at hU
                subst hU
                exact Or.inr ⟨rTold t.2.1 (1, ln2, ds2, 0, 0), d41, _, _, _, _, _, rfl, by have := rTold_b t.2.1 (1, ln2, ds2, 0, 0); omega, rfl, rfl, rfl⟩
          · refine x_goto C (tgt := 79) d_Np_unpack_55 (by decide) ?_
            exfalso; omega
        · refine XW.heq (h' := sU s0.heap.size cI h t d41 (oPa 2 ln2 (t.2.2.1 ec2) ec2 li)) rfl ?_
          have hbk := hk.2.2.1 ec2
          rw [if_neg (show ¬ ((2, ln2, t.2.2.1 ec2, ec2, 0) : Pk).1 = 4 from fun h => absurd (show (2 : Int) = 4 from h) (by decide))] at hU
          refine x_aload_n C d_Np_unpack_44 rfl ?_
          refine x_get C (G_Np E.1) 7 (u_253 E.1) d_Np_unpack_45 (by decide) (by exact h0) rfl ?_
          refine x_getN C (G_Pa E.1) 0 (u_83 E.1) d_Np_unpack_48 (by decide) (by rfl) rfl ?_
          refine x_iconst C d_Np_unpack_51 ?_
          refine x_icmp_ne C (tgt := 58) d_Np_unpack_52 (by decide) (by omega) (by omega) (by omega) (by omega) (fun c52 => ?_) (fun c52 => ?_)
          · refine x_aload_n C d_Np_unpack_58 rfl ?_
            refine x_callVTT C (G_Np E.1) (u_747 E.1) (u_749 E.1) (us_22 E.1) (u_750 E.1) (u_1 E.1) d_Np_unpack_59 (c_Np_refuseWhatCannotBeTold l E F (h := sU s0.heap.size cI h t d41 (oPa 2 ln2 (t.2.2.1 ec2) ec2 li)) (k := 2) (ln := ln2) (ds := (t.2.2.1 ec2)) (ec := ec2) (li := li) (n := t.2.1) (st := t.2.2.2) (by exact h0) (by rfl) (by rfl) (by rfl) hn2.1 hn2.2 (by omega) (by omega) (by omega) (by omega) (by omega) (by omega)) nh_Np_refuseWhatCannotBeTold ln_Np_refuseWhatCannotBeTold rfl (by exact h0) (nle rfl) (nle rfl) (nle rfl) (nle rfl) (nle rfl) (fun v59 h59 K59 r59 => ?_) (fun Cn59 h59 K59 r59 => ?_)
            · obtain ⟨rfl, hz0⟩ := r59
              have hz : rTold t.2.1 (2, ln2, (t.2.2.1 ec2), ec2, li) = 0 ∧ v59 = none ∧ K59 = K41 := by
                rcases hz0 with ⟨z1, z2, z3⟩ | ⟨z1, z2, z3⟩
                · cases z2; exact ⟨z1, rfl, z3⟩
                · cases z2
              obtain ⟨hz9, rfl, rfl⟩ := hz
              have hz : rTold t.2.1 (2, ln2, t.2.2.1 ec2, ec2, 0) = 0 := hz9
              rw [if_neg (fun h => h hz)] at hU
              have hst := hOk_read hk (q := (2, ln2, t.2.2.1 ec2, ec2, 0)) (Or.inr (Or.inr (Or.inr (Or.inl ⟨ln2, ec2, rfl, l1, l2, e1, e2⟩)))) (fun h => absurd (show (2 : Int) = 4 from h) (by decide)) hz
              unfold rTold at hz
              have hz2 : t.2.2.1 ec2 ≤ t.2.1 ∧ t.2.1 + ln2 ≤ 120 := by
                split at hz
                · cases hz
                · split at hz
                  · cases hz
                  · rename_i g1 g2; have g1 : ¬ ((2 : Int) ≠ 0 ∧ t.2.1 < t.2.2.1 ec2) := g1; have g2 : ¬ 120 - t.2.1 < ln2 := g2; omega
              refine XW.heq (h' := sH s0.heap.size cI (sU s0.heap.size cI h t d41 (oPa 2 ln2 (t.2.2.1 ec2) ec2 li)) t) (by rw [sU_H]) ?_
              refine x_aload_n C d_Np_unpack_62 rfl ?_
              refine x_get C (G_Np E.1) 8 (u_254 E.1) d_Np_unpack_63 (by decide) (by exact h0) rfl ?_
              refine x_aload_n C d_Np_unpack_66 rfl ?_
              refine x_get C (G_Np E.1) 7 (u_253 E.1) d_Np_unpack_67 (by decide) (by exact h0) rfl ?_
              refine x_callVR C (G_Hi E.1) (u_490 E.1) (u_491 E.1) (u_492 E.1) (u_493 E.1) (u_5 E.1) d_Np_unpack_70 (c_Hi_tell2 l E hk (by rfl) e1 e2 (by omega) (by omega) (by omega) (by omega)) nh_Hi_tell ln_Hi_tell rfl rfl (nle rfl) (nle rfl) (nle rfl) (nle rfl) (nle rfl) ?_
              refine x_iinc C d_Np_unpack_73 (by decide) rfl ?_
              refine x_goto C (tgt := 23) d_Np_unpack_76 (by decide) ?_
              refine XW.heq (h' := sU s0.heap.size cI h (hTell t (2, ln2, t.2.2.1 ec2, ec2, 0)) d41 (oPa 2 ln2 (t.2.2.1 ec2) ec2 li)) (by rw [sU_H]; rfl) ?_
              refine XW.loc (lv' := [(0, .ref (s0.heap.size + 0)), (1, .int (zI (121 - (r : Nat) : Int)))]) ⟨rfl, by rw [show (121 - (r : Nat) : Int) = 121 - ((r + 1 : Nat) : Int) + 1 by omega]; rfl, trivial⟩ ?_
              exact ih _ _ _ _ _ _ _ (by omega) (by have := hst.2; omega) hst.1 ok41 hU
            · obtain ⟨rfl, hz⟩ := r59
              rcases hz with ⟨z1, z2, z3⟩ | ⟨z1, z2, z3⟩
              · cases z2
              · cases z2
                subst z3
                have z1 : rTold t.2.1 (2, ln2, t.2.2.1 ec2, ec2, 0) ≠ 0 := z1
                rw [if_pos z1] at hU
                subst hU
                exact Or.inr ⟨rTold t.2.1 (2, ln2, t.2.2.1 ec2, ec2, 0), d41, _, _, _, _, _, rfl, by have := rTold_b t.2.1 (2, ln2, t.2.2.1 ec2, ec2, 0); omega, rfl, rfl, rfl⟩
          · refine x_goto C (tgt := 79) d_Np_unpack_55 (by decide) ?_
            exfalso; omega
        · refine XW.heq (h' := sU s0.heap.size cI h t d41 (oPa 3 1 (t.2.2.1 0) ec li)) rfl ?_
          have hbk := hk.2.2.1 0
          rw [if_neg (show ¬ ((3, 1, t.2.2.1 0, 0, 0) : Pk).1 = 4 from fun h => absurd (show (3 : Int) = 4 from h) (by decide))] at hU
          refine x_aload_n C d_Np_unpack_44 rfl ?_
          refine x_get C (G_Np E.1) 7 (u_253 E.1) d_Np_unpack_45 (by decide) (by exact h0) rfl ?_
          refine x_getN C (G_Pa E.1) 0 (u_83 E.1) d_Np_unpack_48 (by decide) (by rfl) rfl ?_
          refine x_iconst C d_Np_unpack_51 ?_
          refine x_icmp_ne C (tgt := 58) d_Np_unpack_52 (by decide) (by omega) (by omega) (by omega) (by omega) (fun c52 => ?_) (fun c52 => ?_)
          · refine x_aload_n C d_Np_unpack_58 rfl ?_
            refine x_callVTT C (G_Np E.1) (u_747 E.1) (u_749 E.1) (us_22 E.1) (u_750 E.1) (u_1 E.1) d_Np_unpack_59 (c_Np_refuseWhatCannotBeTold l E F (h := sU s0.heap.size cI h t d41 (oPa 3 1 (t.2.2.1 0) ec li)) (k := 3) (ln := 1) (ds := (t.2.2.1 0)) (ec := ec) (li := li) (n := t.2.1) (st := t.2.2.2) (by exact h0) (by rfl) (by rfl) (by rfl) hn2.1 hn2.2 (by omega) (by omega) (by omega) (by omega) (by omega) (by omega)) nh_Np_refuseWhatCannotBeTold ln_Np_refuseWhatCannotBeTold rfl (by exact h0) (nle rfl) (nle rfl) (nle rfl) (nle rfl) (nle rfl) (fun v59 h59 K59 r59 => ?_) (fun Cn59 h59 K59 r59 => ?_)
            · obtain ⟨rfl, hz0⟩ := r59
              have hz : rTold t.2.1 (3, 1, (t.2.2.1 0), ec, li) = 0 ∧ v59 = none ∧ K59 = K41 := by
                rcases hz0 with ⟨z1, z2, z3⟩ | ⟨z1, z2, z3⟩
                · cases z2; exact ⟨z1, rfl, z3⟩
                · cases z2
              obtain ⟨hz9, rfl, rfl⟩ := hz
              have hz : rTold t.2.1 (3, 1, t.2.2.1 0, 0, 0) = 0 := hz9
              rw [if_neg (fun h => h hz)] at hU
              have hst := hOk_read hk (q := (3, 1, t.2.2.1 0, 0, 0)) (Or.inr (Or.inr (Or.inr (Or.inr rfl)))) (fun h => absurd (show (3 : Int) = 4 from h) (by decide)) hz
              unfold rTold at hz
              have hz2 : t.2.2.1 0 ≤ t.2.1 ∧ t.2.1 + 1 ≤ 120 := by
                split at hz
                · cases hz
                · split at hz
                  · cases hz
                  · rename_i g1 g2; have g1 : ¬ ((3 : Int) ≠ 0 ∧ t.2.1 < t.2.2.1 0) := g1; have g2 : ¬ 120 - t.2.1 < 1 := g2; omega
              refine XW.heq (h' := sH s0.heap.size cI (sU s0.heap.size cI h t d41 (oPa 3 1 (t.2.2.1 0) ec li)) t) (by rw [sU_H]) ?_
              refine x_aload_n C d_Np_unpack_62 rfl ?_
              refine x_get C (G_Np E.1) 8 (u_254 E.1) d_Np_unpack_63 (by decide) (by exact h0) rfl ?_
              refine x_aload_n C d_Np_unpack_66 rfl ?_
              refine x_get C (G_Np E.1) 7 (u_253 E.1) d_Np_unpack_67 (by decide) (by exact h0) rfl ?_
              refine x_callVR C (G_Hi E.1) (u_490 E.1) (u_491 E.1) (u_492 E.1) (u_493 E.1) (u_5 E.1) d_Np_unpack_70 (c_Hi_tell3 l E hk (by rfl) (by omega) (by omega) (by omega) (by omega)) nh_Hi_tell ln_Hi_tell rfl rfl (nle rfl) (nle rfl) (nle rfl) (nle rfl) (nle rfl) ?_
              refine x_iinc C d_Np_unpack_73 (by decide) rfl ?_
              refine x_goto C (tgt := 23) d_Np_unpack_76 (by decide) ?_
              refine XW.heq (h' := sU s0.heap.size cI h (hTell t (3, 1, t.2.2.1 0, 0, 0)) d41 (oPa 3 1 (t.2.2.1 0) ec li)) (by rw [sU_H]; rfl) ?_
              refine XW.loc (lv' := [(0, .ref (s0.heap.size + 0)), (1, .int (zI (121 - (r : Nat) : Int)))]) ⟨rfl, by rw [show (121 - (r : Nat) : Int) = 121 - ((r + 1 : Nat) : Int) + 1 by omega]; rfl, trivial⟩ ?_
              exact ih _ _ _ _ _ _ _ (by omega) (by have := hst.2; omega) hst.1 ok41 hU
            · obtain ⟨rfl, hz⟩ := r59
              rcases hz with ⟨z1, z2, z3⟩ | ⟨z1, z2, z3⟩
              · cases z2
              · cases z2
                subst z3
                have z1 : rTold t.2.1 (3, 1, t.2.2.1 0, 0, 0) ≠ 0 := z1
                rw [if_pos z1] at hU
                subst hU
                exact Or.inr ⟨rTold t.2.1 (3, 1, t.2.2.1 0, 0, 0), d41, _, _, _, _, _, rfl, by have := rTold_b t.2.1 (3, 1, t.2.2.1 0, 0, 0); omega, rfl, rfl, rfl⟩
          · refine x_goto C (tgt := 79) d_Np_unpack_55 (by decide) ?_
            exfalso; omega
      · obtain ⟨b41, e41, rfl, rfl, d41, rfl⟩ := r41.thr
        rw [rLoop_bad e41] at hU
        subst hU
        exact Or.inr ⟨b41, d41, k, ln, ds, ec, li, rfl, bOk_pkt (bOk_r d) b41 e41, rfl, rfl, rfl⟩
