/-! the law: its loop -/
set_option maxRecDepth 100000 in
set_option maxHeartbeats 4000000 in
theorem law_loop {a0 : Array Value} {s0 : State} {D : va_G} {cI cL : ClassId} (l : Launch) (E : a_E a0 s0 D cI cL) (F : a_F l s0) (NX : a_X s0) {p : Program} {e : Env} {m : MethodId} {args : Array Value} {below : List Frame} {meth : Method} {c : Code} (C : XC s0 D cI cL p s0 m meth c "NarrowingPackerLaw" code 7 (some .boolean) []) {sb L : Nat} {xs : Nat → Int32} (hX : va_X sb L xs s0 s0.heap) (hbl : sb < s0.heap.size) (hL : L ≤ 1537) {Q : State → Prop} {cc : Int} (kend : ∀ (lv : List (Nat × Value)) (h : AH) (K cells slots : Nat), cells ≤ 601024 → slots ≤ 7293000 → XW s0 D p l e room_1 s0 m args below meth c Q 565 lv [.int (zI 1)] h K cells slots) : ∀ (n : Nat) (i : Int) (g : AH) (K cells slots : Nat), 1 ≤ i → i ≤ 2000 → (L : Int) - i < 3 * (n : Int) → cells + n ≤ 601024 → slots + 6 * n ≤ 7293000 → LV s0.heap.size cI cL cc g → XW s0 D p l e room_1 s0 m args below meth c Q 33 [(0, .ref sb), (1, .ref (s0.heap.size + 0)), (2, .ref (s0.heap.size + 33)), (3, .ref (s0.heap.size + 48)), (4, .int (zI i))] [] g K cells slots := by
  intro n
  induction n with
  | zero =>
    intro i g K cells slots i1 i2 hn hc hs H
    refine x_iload C d_La_law_33 rfl ?_
    refine x_aload_n C d_La_law_35 rfl ?_
    refine x_slen C hX hbl d_La_law_36 ?_
    refine x_iconst C d_La_law_37 ?_
    refine x_isub C d_La_law_38 ?_
    refine x_icmp_gt C (tgt := 564) d_La_law_39 (by decide) (by omega) (by omega) (by omega) (by omega) (fun c39 => ?_) (fun c39 => ?_)
    · refine x_iconst C d_La_law_564 ?_
      exact kend _ _ _ _ _ (by omega) (by omega)
    · exfalso; omega
  | succ n ih =>
    intro i g K cells slots i1 i2 hn hc hs H
    have kk : ∀ g' K', LV s0.heap.size cI cL cc g' → XW s0 D p l e room_1 s0 m args below meth c Q 558 [(0, .ref sb), (1, .ref (s0.heap.size + 0)), (2, .ref (s0.heap.size + 33)), (3, .ref (s0.heap.size + 48)), (4, .int (zI i))] [] g' K' (cells + 1) (slots + 6) := by
      intro g' K' H'
      refine x_iinc C d_La_law_558 (by decide) rfl ?_
      refine x_goto C (tgt := 33) d_La_law_561 (by decide) ?_
      by_cases hi : i ≤ 1997
      · refine XW.loc (lv' := [(0, .ref sb), (1, .ref (s0.heap.size + 0)), (2, .ref (s0.heap.size + 33)), (3, .ref (s0.heap.size + 48)), (4, .int (zI (i + 3)))]) ⟨rfl, rfl, rfl, rfl, rfl, trivial⟩ ?_
        exact ih (i + 3) g' K' (cells + 1) (slots + 6) (by omega) (by omega) (by omega) (by omega) (by omega) H'
      · refine XW.loc (lv' := [(0, .ref sb), (1, .ref (s0.heap.size + 0)), (2, .ref (s0.heap.size + 33)), (3, .ref (s0.heap.size + 48)), (4, .int (zI (i + 3)))]) ⟨rfl, rfl, rfl, rfl, rfl, trivial⟩ ?_
        refine x_iload C d_La_law_33 rfl ?_
        refine x_aload_n C d_La_law_35 rfl ?_
        refine x_slen C hX hbl d_La_law_36 ?_
        refine x_iconst C d_La_law_37 ?_
        refine x_isub C d_La_law_38 ?_
        refine x_icmp_gt C (tgt := 564) d_La_law_39 (by decide) (by omega) (by omega) (by omega) (by omega) (fun c39 => ?_) (fun c39 => ?_)
        · refine x_iconst C d_La_law_564 ?_
          exact kend _ _ _ _ _ (by omega) (by omega)
        · exfalso; omega
    have hH := H
    obtain ⟨kp, np, has, ns, sz, nr, src, P, res, kc, w8, w12, n8, n12, p1, p2, p3, p4, p5, a1, a2, a3, a4, t, x, d, q0, m0, ft, nk, c0, v, Lr, f, H1, H2, o48, H3⟩ := H
    refine x_iload C d_La_law_33 rfl ?_
    refine x_aload_n C d_La_law_35 rfl ?_
    refine x_slen C hX hbl d_La_law_36 ?_
    refine x_iconst C d_La_law_37 ?_
    refine x_isub C d_La_law_38 ?_
    refine x_icmp_gt C (tgt := 564) d_La_law_39 (by decide) (by omega) (by omega) (by omega) (by omega) (fun c39 => ?_) (fun c39 => ?_)
    · refine x_iconst C d_La_law_564 ?_
      exact kend _ _ _ _ _ (by omega) (by omega)
    · refine x_aload_n C d_La_law_42 rfl ?_
      refine x_iload C d_La_law_43 rfl ?_
      refine x_sld C hX hbl d_La_law_45 (by omega) (by omega) (by omega) ?_
      refine x_bipush C d_La_law_46 (by decide) ?_
      refine x_iand C d_La_law_48 (show zI (xs i.toNat).toInt &&& zI 15 = zI ((xs i.toNat).toInt % 16) from zI_mask4 _) ?_
      have hu : (xs i.toNat).toInt % 16 = 0 ∨ (xs i.toNat).toInt % 16 = 1 ∨ (xs i.toNat).toInt % 16 = 2 ∨ (xs i.toNat).toInt % 16 = 3 ∨ (xs i.toNat).toInt % 16 = 4 ∨ (xs i.toNat).toInt % 16 = 5 ∨ (xs i.toNat).toInt % 16 = 6 ∨ (xs i.toNat).toInt % 16 = 7 ∨ (xs i.toNat).toInt % 16 = 8 ∨ (xs i.toNat).toInt % 16 = 9 ∨ (xs i.toNat).toInt % 16 = 10 ∨ (xs i.toNat).toInt % 16 = 11 ∨ (xs i.toNat).toInt % 16 = 12 ∨ (xs i.toNat).toInt % 16 = 13 ∨ (xs i.toNat).toInt % 16 = 14 ∨ (xs i.toNat).toInt % 16 = 15 := by omega
      rcases hu with hu | hu | hu | hu | hu | hu | hu | hu | hu | hu | hu | hu | hu | hu | hu | hu
      · refine XW.steq (st' := [.int (zI 0)]) (by rw [hu]) ?_
        refine x_tabIn C (off := 71) (tgt := 120) d_La_law_49 (by decide) (by decide) (by decide) (by decide) rfl (by decide) ?_
        exact op_type l E F NX C hX hbl hL i1 (by omega) (by omega) (by omega) H1 H2 o48 H3 kk
      · refine XW.steq (st' := [.int (zI 1)]) (by rw [hu]) ?_
        refine x_tabIn C (off := 96) (tgt := 145) d_La_law_49 (by decide) (by decide) (by decide) (by decide) rfl (by decide) ?_
        exact op_wipe l E F NX C hX hbl hL i1 (by omega) (by omega) (by omega) H1 H2 o48 H3 kk
      · refine XW.steq (st' := [.int (zI 2)]) (by rw [hu]) ?_
        refine x_tabIn C (off := 109) (tgt := 158) d_La_law_49 (by decide) (by decide) (by decide) (by decide) rfl (by decide) ?_
        exact op_pack l E F NX C hX hbl hL i1 (by omega) (by omega) (by omega) H1 H2 o48 H3 kk
      · refine XW.steq (st' := [.int (zI 3)]) (by rw [hu]) ?_
        refine x_tabIn C (off := 153) (tgt := 202) d_La_law_49 (by decide) (by decide) (by decide) (by decide) rfl (by decide) ?_
        exact op_packets l E F NX C hX hbl hL i1 (by omega) (by omega) (by omega) H1 H2 o48 H3 kk
      · refine XW.steq (st' := [.int (zI 4)]) (by rw [hu]) ?_
        refine x_tabIn C (off := 166) (tgt := 215) d_La_law_49 (by decide) (by decide) (by decide) (by decide) rfl (by decide) ?_
        exact op_packet l E F NX C hX hbl hL i1 (by omega) (by omega) (by omega) H1 H2 o48 H3 kk
      · refine XW.steq (st' := [.int (zI 5)]) (by rw [hu]) ?_
        refine x_tabIn C (off := 203) (tgt := 252) d_La_law_49 (by decide) (by decide) (by decide) (by decide) rfl (by decide) ?_
        exact op_chance l E F NX C hX hbl hL i1 (by omega) (by omega) (by omega) H1 H2 o48 H3 kk
      · refine XW.steq (st' := [.int (zI 6)]) (by rw [hu]) ?_
        refine x_tabIn C (off := 240) (tgt := 289) d_La_law_49 (by decide) (by decide) (by decide) (by decide) rfl (by decide) ?_
        exact op_size l E F NX C hX hbl hL i1 (by omega) (by omega) (by omega) H1 H2 o48 H3 kk
      · refine XW.steq (st' := [.int (zI 7)]) (by rw [hu]) ?_
        refine x_tabIn C (off := 253) (tgt := 302) d_La_law_49 (by decide) (by decide) (by decide) (by decide) rfl (by decide) ?_
        exact op_at l E F NX C hX hbl hL i1 (by omega) (by omega) (by omega) H1 H2 o48 H3 kk
      · refine XW.steq (st' := [.int (zI 8)]) (by rw [hu]) ?_
        refine x_tabIn C (off := 278) (tgt := 327) d_La_law_49 (by decide) (by decide) (by decide) (by decide) rfl (by decide) ?_
        exact op_add l E F NX C hX hbl hL i1 (by omega) (by omega) (by omega) H1 H2 o48 H3 kk
      · refine XW.steq (st' := [.int (zI 9)]) (by rw [hu]) ?_
        refine x_tabIn C (off := 303) (tgt := 352) d_La_law_49 (by decide) (by decide) (by decide) (by decide) rfl (by decide) ?_
        exact op_put l E F NX C hX hbl hL i1 (by omega) (by omega) (by omega) H1 H2 o48 H3 kk
      · refine XW.steq (st' := [.int (zI 10)]) (by rw [hu]) ?_
        refine x_tabIn C (off := 371) (tgt := 420) d_La_law_49 (by decide) (by decide) (by decide) (by decide) rfl (by decide) ?_
        exact op_cut l E F NX C hX hbl hL i1 (by omega) (by omega) (by omega) H1 H2 o48 H3 kk
      · refine XW.steq (st' := [.int (zI 11)]) (by rw [hu]) ?_
        refine x_tabIn C (off := 427) (tgt := 476) d_La_law_49 (by decide) (by decide) (by decide) (by decide) rfl (by decide) ?_
        exact op_unpack l E F NX C hX hbl hL i1 (by omega) (by omega) (by omega) H1 H2 o48 H3 kk
      · refine XW.steq (st' := [.int (zI 12)]) (by rw [hu]) ?_
        refine x_tabIn C (off := 471) (tgt := 520) d_La_law_49 (by decide) (by decide) (by decide) (by decide) rfl (by decide) ?_
        exact op_told l E F NX C hX hbl hL i1 (by omega) (by omega) (by omega) H1 H2 o48 H3 kk
      · refine XW.steq (st' := [.int (zI 13)]) (by rw [hu]) ?_
        refine x_tabIn C (off := 484) (tgt := 533) d_La_law_49 (by decide) (by decide) (by decide) (by decide) rfl (by decide) ?_
        exact op_byteAt l E F NX C hX hbl hL i1 (by omega) (by omega) (by omega) H1 H2 o48 H3 kk
      · refine XW.steq (st' := [.int (zI 14)]) (by rw [hu]) ?_
        refine x_tabOut C (tgt := 558) d_La_law_49 (Or.inr (by decide)) (by decide) (by decide) (by decide) ?_
        exact XW.widen (by omega) (by omega) (kk _ _ hH)
      · refine XW.steq (st' := [.int (zI 15)]) (by rw [hu]) ?_
        refine x_tabOut C (tgt := 558) d_La_law_49 (Or.inr (by decide)) (by decide) (by decide) (by decide) ?_
        exact XW.widen (by omega) (by omega) (kk _ _ hH)
