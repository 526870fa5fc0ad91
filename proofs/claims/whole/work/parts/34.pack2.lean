/-! pack, put, cut -/
abbrev PX (Cn : String) (h1 : AH) (K1 : Nat) : AO → AH → Nat → Prop := fun o h' K' => o = .inr Cn ∧ h' = h1 ∧ K' = K1
theorem eOk_pktL {x : En} (ok : eOk x) (t : Hs) (q : Pk) (hq : (q.1 = 0 ∨ q.1 = 3) ∧ 1 ≤ q.2.1 ∨ (q.1 = 1 ∨ q.1 = 2) ∧ 2 ≤ q.2.1) : (ePkt t q x).2.2.1 ≤ x.2.2.1 + 11 * q.2.1 := by
  have a0 := len_bit x t.2.2.2 0
  have a1 := len_bit x t.2.2.2 1
  have b0 := len_bit (eBit x t.2.2.2 1) (12 + t.2.2.2) 0
  have b1 := len_bit (eBit x t.2.2.2 1) (12 + t.2.2.2) 1
  have k0 := eOk_bit (eOk_bit ok t.2.2.2 1) (12 + t.2.2.2) 0
  have k1 := eOk_bit (eOk_bit ok t.2.2.2 1) (12 + t.2.2.2) 1
  unfold ePkt
  split
  · have h1 := eOk_lit 8 (hPlace t) (hBefore t (t.2.2.1 0)) q.2.2.2.2 1 (hAs t) _ (eOk_bit ok t.2.2.2 0)
    have := h1.2; omega
  · split
    · have h1 := eOk_match k0 q.2.1 q.2.2.1
      have := h1.2; omega
    · split
      · have h1 := eOk_echo k1 t.2.2.2 q.2.2.2.1
        have h2 := eOk_len h1.1 218 (q.2.1 - 2)
        have := h1.2; have := h2.2; omega
      · split
        · have h1 := eOk_echo k1 t.2.2.2 (-1)
          have := h1.2; omega
        · omega
def wOk (n : Int) (w : Pw) : Prop := eOk w.1 ∧ hOk w.2.1 ∧ w.2.1.2.1 ≤ n ∧ 0 ≤ w.2.2.2 ∧ w.2.2.2 ≤ w.2.1.2.1 ∧ w.1.2.2.1 ≤ 4 + 11 * w.2.1.2.1
theorem packStep_ok {cc n : Int} {src : Int → Int} (hs : ∀ q, 0 ≤ src q ∧ src q < 256) (n2 : n ≤ 120) {w : Pw} (h : wOk n w) (hlt : w.2.1.2.1 < n) : wOk n (packStep cc src n w) := by
  obtain ⟨ok, hk, i1, i3, i4, i5⟩ := h
  have hn := hk.2.1
  rw [packStep_eq]
  rcases choose_ok (c := cc) hs hk hlt with ⟨ln2, ds2, ec2, hq2, q1, q2, q3, q4, q5, q6⟩ | ⟨ln2, ds2, hq2, q1, q2, q3, q4⟩ | ⟨ds2, hq2, q1, q2, q3⟩ | ⟨li2, hq2, q1, q2⟩
  · rw [hq2]
    have hp := eOk_pkt ok w.2.1 (2, ln2, ds2, ec2, 0)
    have hl := eOk_pktL ok w.2.1 (2, ln2, ds2, ec2, 0) (Or.inr ⟨Or.inr rfl, q1⟩)
    have hn2 : (hTell w.2.1 (2, ln2, ds2, ec2, 0)).2.1 = w.2.1.2.1 + ln2 := rfl
    have ht : hOk (hTell w.2.1 (2, ln2, ds2, ec2, 0)) := hOk_tellC hk (by omega) (by omega) (by omega) (by omega) q5 q6
    exact ⟨hp.1, ht, by rw [hn2]; omega, by show 0 ≤ w.2.2.2 + 1; omega, by rw [hn2]; show w.2.2.2 + 1 ≤ _; omega, by rw [hn2]; show (ePkt _ _ _).2.2.1 ≤ _; have : (ePkt w.2.1 (2, ln2, ds2, ec2, 0) w.1).2.2.1 ≤ w.1.2.2.1 + 11 * ln2 := hl; omega⟩
  · rw [hq2]
    have hp := eOk_pkt ok w.2.1 (1, ln2, ds2, 0, 0)
    have hl := eOk_pktL ok w.2.1 (1, ln2, ds2, 0, 0) (Or.inr ⟨Or.inl rfl, q1⟩)
    have hn2 : (hTell w.2.1 (1, ln2, ds2, 0, 0)).2.1 = w.2.1.2.1 + ln2 := rfl
    have ht : hOk (hTell w.2.1 (1, ln2, ds2, 0, 0)) := hOk_tellC hk (by omega) (by omega) (by omega) (by omega) q3 q4
    exact ⟨hp.1, ht, by rw [hn2]; omega, by show 0 ≤ w.2.2.2 + 1; omega, by rw [hn2]; show w.2.2.2 + 1 ≤ _; omega, by rw [hn2]; show (ePkt _ _ _).2.2.1 ≤ _; have : (ePkt w.2.1 (1, ln2, ds2, 0, 0) w.1).2.2.1 ≤ w.1.2.2.1 + 11 * ln2 := hl; omega⟩
  · rw [hq2]
    have hp := eOk_pkt ok w.2.1 (3, 1, ds2, 0, 0)
    have hl := eOk_pktL ok w.2.1 (3, 1, ds2, 0, 0) (Or.inl ⟨Or.inr rfl, by show (1 : Int) ≤ 1; decide⟩)
    have hn2 : (hTell w.2.1 (3, 1, ds2, 0, 0)).2.1 = w.2.1.2.1 + 1 := rfl
    have ht : hOk (hTell w.2.1 (3, 1, ds2, 0, 0)) := hOk_tellC hk (by omega) (fun _ => q1) (by omega) (by omega) q2 q3
    exact ⟨hp.1, ht, by rw [hn2]; omega, by show 0 ≤ w.2.2.2 + 1; omega, by rw [hn2]; show w.2.2.2 + 1 ≤ _; omega, by rw [hn2]; show (ePkt _ _ _).2.2.1 ≤ _; have : (ePkt w.2.1 (3, 1, ds2, 0, 0) w.1).2.2.1 ≤ w.1.2.2.1 + 11 * 1 := hl; omega⟩
  · rw [hq2]
    have hp := eOk_pkt ok w.2.1 (0, 1, 0, 0, li2)
    have hl := eOk_pktL ok w.2.1 (0, 1, 0, 0, li2) (Or.inl ⟨Or.inl rfl, by show (1 : Int) ≤ 1; decide⟩)
    have hn2 : (hTell w.2.1 (0, 1, 0, 0, li2)).2.1 = w.2.1.2.1 + 1 := rfl
    have ht : hOk (hTell w.2.1 (0, 1, 0, 0, li2)) := hOk_tell0 hk q1 q2 (by omega)
    exact ⟨hp.1, ht, by rw [hn2]; omega, by show 0 ≤ w.2.2.2 + 1; omega, by rw [hn2]; show w.2.2.2 + 1 ≤ _; omega, by rw [hn2]; show (ePkt _ _ _).2.2.1 ≤ _; have : (ePkt w.2.1 (0, 1, 0, 0, li2) w.1).2.2.1 ≤ w.1.2.2.1 + 11 * 1 := hl; omega⟩
theorem packLoop_ok {cc n : Int} {src : Int → Int} (hs : ∀ q, 0 ≤ src q ∧ src q < 256) (n2 : n ≤ 120) : ∀ (r : Nat) (w : Pw), wOk n w → wOk n (packLoop cc src n r w) := by
  intro r
  induction r with
  | zero => intro w h; exact h
  | succ r ih =>
    intro w h
    simp only [packLoop]
    split
    · rename_i hlt
      exact ih _ (packStep_ok hs n2 h hlt)
    · exact h
def w0 (b0 : Int → Int) (l0 : T3) : Pw := (en0, (b0, 0, fun _ => 1, 0), l0, 0)
theorem hOk0 {b0 : Int → Int} (hb0 : ∀ j, 0 ≤ b0 j ∧ b0 j < 256) : hOk (b0, 0, fun _ => 1, 0) := ⟨hb0, by show (0 : Int) ≤ 0 ∧ (0 : Int) ≤ 120; omega, fun _ => by show (1 : Int) ≤ 1 ∧ (1 : Int) ≤ 120; omega, by show (0 : Int) ≤ 0 ∧ (0 : Int) ≤ 11; omega, fun h7 => by exfalso; have h8 : (7 : Int) ≤ 0 := h7; omega⟩
theorem w0_ok {b0 : Int → Int} {l0 : T3} {n : Int} (hb0 : ∀ j, 0 ≤ b0 j ∧ b0 j < 256) (n1 : 0 ≤ n) : wOk n (w0 b0 l0) :=
  ⟨en0_ok, hOk0 hb0, n1, by show (0 : Int) ≤ 0; omega, by show (0 : Int) ≤ 0; omega, by show (4 : Int) ≤ 4 + 11 * 0; omega⟩
set_option maxRecDepth 100000 in
set_option maxHeartbeats 4000000 in
theorem c_Np_put0 {a0 : Array Value} {s0 : State} {D : va_G} {cI cL : ClassId} (l : Launch) (E : a_E a0 s0 D cI cL) (F : a_F l s0) {h : AH} {K kp np : Nat} {has : Int} (h0 : h 0 = some (oNp s0.heap.size kp np has)) {f : Int → Int} {n : Int} (ha : h 3 = some (oBy s0.heap.size 4 n)) (hr : h 4 = some (iA cI 200 f)) (n1 : 0 ≤ n) (n2 : n ≤ 200) {i b : Int} (i1 : -2147483648 ≤ i) (i2 : i < 2147483648) (b1 : -2147483648 ≤ b) (b2 : b < 2147483648) (hi : 0 ≤ i ∧ i < n) (hb : 0 ≤ b ∧ b ≤ 255) : XMT l s0 D y_Np_put prog_1_method_11_code 4 (some .int) 6 [.ref (s0.heap.size + 0), .int (zI i), .int (zI b)] (h) (K) (PR (some (.int (zI (f i)))) (a_up h 4 (iA cI 200 (zup f i b))) K) := by
  refine XMT.of (cI := cI) (cL := cL) (own := "NarrowingPacker") (by decide) rfl E.2 (nle rfl) ?_
  intro p e s m below meth c C hn hlow
  refine x_aload_n C d_Np_put_0 rfl ?_
  refine x_get C (G_Np E.1) 1 (u_247 E.1) d_Np_put_1 (by decide) (by exact h0) rfl ?_
  refine x_iload_n C d_Np_put_4 rfl ?_
  refine x_callVR C (G_By E.1) (u_614 E.1) (u_333 E.1) (u_334 E.1) (u_335 E.1) (u_2 E.1) d_Np_put_5 (c_By_has l E (by exact ha) (by omega) (by omega) i1 i2) nh_By_has ln_By_has rfl (by exact ha) (nle rfl) (nle rfl) (nle rfl) (nle rfl) (nle rfl) ?_
  have hz : hasZ i n = 1 := if_pos hi
  refine x_if_ne C (tgt := 21) d_Np_put_8 (by decide) (by omega) (by omega) (fun c8 => ?_) (fun c8 => ?_)
  · refine x_iload_n C d_Np_put_21 rfl ?_
    refine x_callSR C (u_631 E.1) (u_292 E.1) (u_293 E.1) (u_1 E.1) d_Np_put_22 (c_Np_isByte l E b1 b2) nh_Np_isByte ln_Np_isByte rfl (nle rfl) (nle rfl) (nle rfl) (nle rfl) (nle rfl) ?_
    have hy : isB b = 1 := if_pos hb
    refine x_if_ne C (tgt := 38) d_Np_put_25 (by decide) (by omega) (by omega) (fun c25 => ?_) (fun c25 => ?_)
    · refine x_aload_n C d_Np_put_38 rfl ?_
      refine x_get C (G_Np E.1) 1 (u_247 E.1) d_Np_put_39 (by decide) (by exact h0) rfl ?_
      refine x_getN C (G_By E.1) 0 (u_41 E.1) d_Np_put_42 (by decide) (by exact ha) rfl ?_
      refine x_iload_n C d_Np_put_45 rfl ?_
      refine x_iald C d_Np_put_46 (by exact hr) (by omega) (by omega) (by omega) ?_
      refine x_istore_n C d_Np_put_47 (by decide) ?_
      refine x_aload_n C d_Np_put_48 rfl ?_
      refine x_get C (G_Np E.1) 1 (u_247 E.1) d_Np_put_49 (by decide) (by exact h0) rfl ?_
      refine x_getN C (G_By E.1) 0 (u_41 E.1) d_Np_put_52 (by decide) (by exact ha) rfl ?_
      refine x_iload_n C d_Np_put_55 rfl ?_
      refine x_iload_n C d_Np_put_56 rfl ?_
      refine x_iast C d_Np_put_57 (by exact hr) (by omega) (by omega) (by omega) ?_
      refine x_iload_n C d_Np_put_58 rfl ?_
      exact x_iretT C d_Np_put_59 ⟨rfl, rfl, rfl⟩
    · exfalso; omega
  · exfalso; omega

set_option maxRecDepth 100000 in
set_option maxHeartbeats 4000000 in
theorem c_Np_put1 {a0 : Array Value} {s0 : State} {D : va_G} {cI cL : ClassId} (l : Launch) (E : a_E a0 s0 D cI cL) (F : a_F l s0) {h : AH} {K kp np : Nat} {has : Int} (h0 : h 0 = some (oNp s0.heap.size kp np has)) {f : Int → Int} {n : Int} (ha : h 3 = some (oBy s0.heap.size 4 n)) (hr : h 4 = some (iA cI 200 f)) (n1 : 0 ≤ n) (n2 : n ≤ 200) {i b : Int} (i1 : -2147483648 ≤ i) (i2 : i < 2147483648) (b1 : -2147483648 ≤ b) (b2 : b < 2147483648) (hi : ¬ (0 ≤ i ∧ i < n)) : XMT l s0 D y_Np_put prog_1_method_11_code 4 (some .int) 6 [.ref (s0.heap.size + 0), .int (zI i), .int (zI b)] (h) (K) (PX "java/lang/IndexOutOfBoundsException" h (K + 1)) := by
  refine XMT.of (cI := cI) (cL := cL) (own := "NarrowingPacker") (by decide) rfl E.2 (nle rfl) ?_
  intro p e s m below meth c C hn hlow
  refine x_aload_n C d_Np_put_0 rfl ?_
  refine x_get C (G_Np E.1) 1 (u_247 E.1) d_Np_put_1 (by decide) (by exact h0) rfl ?_
  refine x_iload_n C d_Np_put_4 rfl ?_
  refine x_callVR C (G_By E.1) (u_614 E.1) (u_333 E.1) (u_334 E.1) (u_335 E.1) (u_2 E.1) d_Np_put_5 (c_By_has l E (by exact ha) (by omega) (by omega) i1 i2) nh_By_has ln_By_has rfl (by exact ha) (nle rfl) (nle rfl) (nle rfl) (nle rfl) (nle rfl) ?_
  have hz : hasZ i n = 0 := if_neg hi
  refine x_if_ne C (tgt := 21) d_Np_put_8 (by decide) (by omega) (by omega) (fun c8 => ?_) (fun c8 => ?_)
  · exfalso; omega
  · exact x_throwT C F hlow E.1 (th_IO E.1) (u_615 E.1) (u_624 E.1) (u_625 E.1) d_Np_put_11 d_Np_put_14 d_Np_put_15 d_Np_put_17 d_Np_put_20 (nle rfl) (nle rfl) (nle rfl) (nle rfl) ⟨rfl, rfl, rfl⟩

set_option maxRecDepth 100000 in
set_option maxHeartbeats 4000000 in
theorem c_Np_put2 {a0 : Array Value} {s0 : State} {D : va_G} {cI cL : ClassId} (l : Launch) (E : a_E a0 s0 D cI cL) (F : a_F l s0) {h : AH} {K kp np : Nat} {has : Int} (h0 : h 0 = some (oNp s0.heap.size kp np has)) {f : Int → Int} {n : Int} (ha : h 3 = some (oBy s0.heap.size 4 n)) (hr : h 4 = some (iA cI 200 f)) (n1 : 0 ≤ n) (n2 : n ≤ 200) {i b : Int} (i1 : -2147483648 ≤ i) (i2 : i < 2147483648) (b1 : -2147483648 ≤ b) (b2 : b < 2147483648) (hi : 0 ≤ i ∧ i < n) (hb : ¬ (0 ≤ b ∧ b ≤ 255)) : XMT l s0 D y_Np_put prog_1_method_11_code 4 (some .int) 6 [.ref (s0.heap.size + 0), .int (zI i), .int (zI b)] (h) (K) (PX "java/lang/IllegalArgumentException" h (K + 1)) := by
  refine XMT.of (cI := cI) (cL := cL) (own := "NarrowingPacker") (by decide) rfl E.2 (nle rfl) ?_
  intro p e s m below meth c C hn hlow
  refine x_aload_n C d_Np_put_0 rfl ?_
  refine x_get C (G_Np E.1) 1 (u_247 E.1) d_Np_put_1 (by decide) (by exact h0) rfl ?_
  refine x_iload_n C d_Np_put_4 rfl ?_
  refine x_callVR C (G_By E.1) (u_614 E.1) (u_333 E.1) (u_334 E.1) (u_335 E.1) (u_2 E.1) d_Np_put_5 (c_By_has l E (by exact ha) (by omega) (by omega) i1 i2) nh_By_has ln_By_has rfl (by exact ha) (nle rfl) (nle rfl) (nle rfl) (nle rfl) (nle rfl) ?_
  have hz : hasZ i n = 1 := if_pos hi
  refine x_if_ne C (tgt := 21) d_Np_put_8 (by decide) (by omega) (by omega) (fun c8 => ?_) (fun c8 => ?_)
  · refine x_iload_n C d_Np_put_21 rfl ?_
    refine x_callSR C (u_631 E.1) (u_292 E.1) (u_293 E.1) (u_1 E.1) d_Np_put_22 (c_Np_isByte l E b1 b2) nh_Np_isByte ln_Np_isByte rfl (nle rfl) (nle rfl) (nle rfl) (nle rfl) (nle rfl) ?_
    have hy : isB b = 0 := if_neg hb
    refine x_if_ne C (tgt := 38) d_Np_put_25 (by decide) (by omega) (by omega) (fun c25 => ?_) (fun c25 => ?_)
    · exfalso; omega
    · exact x_throwT C F hlow E.1 (th_IA E.1) (u_632 E.1) (u_641 E.1) (u_642 E.1) d_Np_put_28 d_Np_put_31 d_Np_put_32 d_Np_put_34 d_Np_put_37 (nle rfl) (nle rfl) (nle rfl) (nle rfl) ⟨rfl, rfl, rfl⟩
  · exfalso; omega

set_option maxRecDepth 100000 in
set_option maxHeartbeats 4000000 in
theorem c_Np_cut0 {a0 : Array Value} {s0 : State} {D : va_G} {cI cL : ClassId} (l : Launch) (E : a_E a0 s0 D cI cL) (F : a_F l s0) {h : AH} {K kp np : Nat} {has : Int} (h0 : h 0 = some (oNp s0.heap.size kp np has)) {f : Int → Int} {n : Int} (ha : h 3 = some (oBy s0.heap.size 4 n)) (hr : h 4 = some (iA cI 200 f)) (n1 : 0 ≤ n) (n2 : n ≤ 200) {i : Int} (i1 : -2147483648 ≤ i) (i2 : i < 2147483648) (hi : 0 ≤ i) : XMT l s0 D y_Np_cut prog_1_method_12_code 2 (some .int) 6 [.ref (s0.heap.size + 0), .int (zI i)] (h) (K) (PR (some (.int (zI (n - max 0 (min i n))))) (a_up h 3 (oBy s0.heap.size 4 (max 0 (min i n)))) K) := by
  refine XMT.of (cI := cI) (cL := cL) (own := "NarrowingPacker") (by decide) rfl E.2 (nle rfl) ?_
  intro p e s m below meth c C hn hlow
  refine x_iload_n C d_Np_cut_0 rfl ?_
  refine x_if_ge C (tgt := 14) d_Np_cut_1 (by decide) (by omega) (by omega) (fun c1 => ?_) (fun c1 => ?_)
  · refine x_aload_n C d_Np_cut_14 rfl ?_
    refine x_get C (G_Np E.1) 1 (u_247 E.1) d_Np_cut_15 (by decide) (by exact h0) rfl ?_
    refine x_iload_n C d_Np_cut_18 rfl ?_
    refine x_callVR C (G_By E.1) (u_298 E.1) (u_299 E.1) (u_300 E.1) (u_301 E.1) (u_2 E.1) d_Np_cut_19 (c_By_shorten l E (by exact ha) (by omega) (by omega) i1 i2) nh_By_shorten ln_By_shorten rfl (by exact ha) (nle rfl) (nle rfl) (nle rfl) (nle rfl) (nle rfl) ?_
    exact x_iretT C d_Np_cut_22 ⟨rfl, rfl, rfl⟩
  · exfalso; omega

set_option maxRecDepth 100000 in
set_option maxHeartbeats 4000000 in
theorem c_Np_cut1 {a0 : Array Value} {s0 : State} {D : va_G} {cI cL : ClassId} (l : Launch) (E : a_E a0 s0 D cI cL) (F : a_F l s0) {h : AH} {K kp np : Nat} {has : Int} (h0 : h 0 = some (oNp s0.heap.size kp np has)) {f : Int → Int} {n : Int} (ha : h 3 = some (oBy s0.heap.size 4 n)) (hr : h 4 = some (iA cI 200 f)) (n1 : 0 ≤ n) (n2 : n ≤ 200) {i : Int} (i1 : -2147483648 ≤ i) (i2 : i < 2147483648) (hi : i < 0) : XMT l s0 D y_Np_cut prog_1_method_12_code 2 (some .int) 6 [.ref (s0.heap.size + 0), .int (zI i)] (h) (K) (PX "java/lang/IllegalArgumentException" h (K + 1)) := by
  refine XMT.of (cI := cI) (cL := cL) (own := "NarrowingPacker") (by decide) rfl E.2 (nle rfl) ?_
  intro p e s m below meth c C hn hlow
  refine x_iload_n C d_Np_cut_0 rfl ?_
  refine x_if_ge C (tgt := 14) d_Np_cut_1 (by decide) (by omega) (by omega) (fun c1 => ?_) (fun c1 => ?_)
  · exfalso; omega
  · exact x_throwT C F hlow E.1 (th_IA E.1) (u_632 E.1) (u_655 E.1) (u_642 E.1) d_Np_cut_4 d_Np_cut_7 d_Np_cut_8 d_Np_cut_10 d_Np_cut_13 (nle rfl) (nle rfl) (nle rfl) (nle rfl) ⟨rfl, rfl, rfl⟩

def sK (b : Nat) (cI : ClassId) (kp np : Nat) (h : AH) (f kc : Int → Int) (x : En) : AH := a_up (a_up (a_up (a_up h 3 (oBy b 4 x.2.2.1)) 4 (iA cI 200 (zcpy x.2.1 f 0 0 x.2.2.1))) 7 (iA cI 72 (zcpy x.1 kc 0 0 72))) 0 (oNp b np kp 1)
set_option maxRecDepth 100000 in
set_option maxHeartbeats 4000000 in
theorem c_Np_keepPacking {a0 : Array Value} {s0 : State} {D : va_G} {cI cL : ClassId} (l : Launch) (E : a_E a0 s0 D cI cL) {h : AH} {K kp np : Nat} {has : Int} (h0 : h 0 = some (oNp s0.heap.size kp np has)) {kc C g f : Int → Int} {len rg n : Int} (ha : h 3 = some (oBy s0.heap.size 4 n)) (hr : h 4 = some (iA cI 200 f)) (n1 : 0 ≤ n) (n2 : n ≤ 200) (h7 : h 7 = some (iA cI 72 kc)) (h23 : h 23 = some (oNa s0.heap.size len rg)) (h24 : h 24 = some (oCh s0.heap.size 25)) (h25 : h 25 = some (iA cI 3820 C)) (h26 : h 26 = some (iA cI 200 g)) (l1 : 0 ≤ len) (l2 : len ≤ 200) : XM l s0 D y_Np_keepPacking prog_1_method_18_code 3 none 3 0 0 [.ref (s0.heap.size + 0), .ref (s0.heap.size + 23)] (h) (K) (PR none (sK s0.heap.size cI kp np h f kc (C, g, len, rg)) K) := by
  refine XM.of (cI := cI) (cL := cL) (own := "NarrowingPacker") (by decide) rfl E.2 (nle rfl) ?_
  intro p e s m below meth c C hn
  refine x_aload_n C d_Np_keepPacking_0 rfl ?_
  refine x_get C (G_Np E.1) 1 (u_247 E.1) d_Np_keepPacking_1 (by decide) (by exact h0) rfl ?_
  refine x_aload_n C d_Np_keepPacking_4 rfl ?_
  refine x_getN C (G_Na E.1) 1 (u_191 E.1) d_Np_keepPacking_5 (by decide) (by exact h23) rfl ?_
  refine x_aload_n C d_Np_keepPacking_8 rfl ?_
  refine x_getN C (G_Na E.1) 2 (u_193 E.1) d_Np_keepPacking_9 (by decide) (by exact h23) rfl ?_
  refine x_callVR C (G_By E.1) (u_597 E.1) (u_598 E.1) (u_599 E.1) (u_600 E.1) (u_2 E.1) d_Np_keepPacking_12 (c_By_copy l E (by exact ha) (by exact hr) (by omega) n1 (by omega) (by decide) (by decide) (by exact h26) (by omega) l1 (by omega) (by omega)) nh_By_copy ln_By_copy rfl (by exact ha) (nle rfl) (nle rfl) (nle rfl) (nle rfl) (nle rfl) ?_
  refine x_aload_n C d_Np_keepPacking_15 rfl ?_
  refine x_getN C (G_Na E.1) 0 (u_189 E.1) d_Np_keepPacking_16 (by decide) (by exact h23) rfl ?_
  refine x_getN C (G_Ch E.1) 0 (u_184 E.1) d_Np_keepPacking_19 (by decide) (by exact h24) rfl ?_
  refine x_iconst C d_Np_keepPacking_22 ?_
  refine x_aload_n C d_Np_keepPacking_23 rfl ?_
  refine x_get C (G_Np E.1) 3 (u_249 E.1) d_Np_keepPacking_24 (by decide) (by exact h0) rfl ?_
  refine x_iconst C d_Np_keepPacking_27 ?_
  refine x_bipush C d_Np_keepPacking_28 (by decide) ?_
  refine x_copy C (u_604 E.1) (u_603 E.1) (u_602 E.1) (u_19 E.1) d_Np_keepPacking_30 (by exact h25) (by exact h7) (by omega) (by omega) (by omega) (by omega) (by omega) (by omega) (by omega) (nle rfl) (nle rfl) ?_
  refine x_aload_n C d_Np_keepPacking_33 rfl ?_
  refine x_get C (G_Np E.1) 4 (u_250 E.1) d_Np_keepPacking_34 (by decide) (by exact h0) rfl ?_
  refine x_astore_n C d_Np_keepPacking_37 (by decide) ?_
  refine x_aload_n C d_Np_keepPacking_38 rfl ?_
  refine x_aload_n C d_Np_keepPacking_39 rfl ?_
  refine x_get C (G_Np E.1) 6 (u_252 E.1) d_Np_keepPacking_40 (by decide) (by exact h0) rfl ?_
  refine x_put C (G_Np E.1) 4 (u_250 E.1) d_Np_keepPacking_43 (by decide) rfl (by exact h0) rfl rfl (nle rfl) ?_
  refine x_aload_n C d_Np_keepPacking_46 rfl ?_
  refine x_aload_n C d_Np_keepPacking_47 rfl ?_
  refine x_put C (G_Np E.1) 6 (u_252 E.1) d_Np_keepPacking_48 (by decide) rfl (by rfl) rfl rfl (nle rfl) ?_
  refine x_aload_n C d_Np_keepPacking_51 rfl ?_
  refine x_iconst C d_Np_keepPacking_52 ?_
  refine x_put C (G_Np E.1) 5 (u_251 E.1) d_Np_keepPacking_53 (by decide) rfl (by rfl) rfl rfl (nle rfl) ?_
  exact x_vret C d_Np_keepPacking_56 (nle rfl) (nle rfl) ⟨rfl, by rw [a_up_up, a_up_up]; rfl, rfl⟩

set_option maxRecDepth 100000 in
set_option maxHeartbeats 4000000 in
theorem c_Np_pack8 {a0 : Array Value} {s0 : State} {D : va_G} {cI cL : ClassId} (l : Launch) (E : a_E a0 s0 D cI cL) (F : a_F l s0) {h : AH} {K : Nat} {has : Int} (h0 : h 0 = some (oNp s0.heap.size 12 8 has)) {src : Int → Int} {n cc : Int} (h1 : h 1 = some (oBy s0.heap.size 2 n)) (h2 : h 2 = some (iA cI 120 src)) (h22 : h 22 = some (oWr s0.heap.size)) (h24 : h 24 = some (oCh s0.heap.size 25)) (hs : ∀ q, 0 ≤ src q ∧ src q < 256) (n1 : 0 ≤ n) (n2 : n ≤ 120) (c1 : 1 ≤ cc) (c2 : cc ≤ 16) {l0 : T3} {m0 : Int} {x : En} {t : Hs} (hb0 : ∀ j, 0 ≤ t.1 j ∧ t.1 j < 256) (t1 : 0 ≤ t.2.1) (t2 : t.2.1 ≤ 120) {a1 a2 a3 a4 k ln ds ec li : Int} {W : Pw} (hW : packLoop cc src n 120 (w0 t.1 l0) = W) {X : En} (hX : ePkt W.2.1 (4, 0, 0, 0, 0) W.1 = X) {f kc : Int → Int} {sz : Int} (h3 : h 3 = some (oBy s0.heap.size 4 sz)) (h4 : h 4 = some (iA cI 200 f)) (m1 : 0 ≤ sz) (m2 : sz ≤ 200) (h7 : h 7 = some (iA cI 72 kc)) (hlen : X.2.2.1 ≤ 200) : XMT l s0 D y_Np_pack prog_1_method_4_code 1 (some .int) 7 [.ref (s0.heap.size + 0)] (sP s0.heap.size cI 8 h (x, t, l0, m0) (oCo cc a1 a2 a3 a4) (oPa k ln ds ec li)) (K) (fun o h' K' => o = .inl (some (.int (zI X.2.2.1))) ∧ K' = K ∧ ∃ b1 b2 b3 b4 b5 b6, h' = sK s0.heap.size cI 12 8 (sP s0.heap.size cI 8 h (X, W.2) (oCo cc b1 b2 b3 b4) (oPa 4 0 0 b5 b6)) f kc X) := by
  refine XMT.of (cI := cI) (cL := cL) (own := "NarrowingPacker") (by decide) rfl E.2 (nle rfl) ?_
  intro p e s m below meth c C hn hlow
  have hw : wOk n W := by rw [← hW]; exact packLoop_ok hs n2 120 _ (w0_ok hb0 n1)
  have hx := eOk_pkt hw.1 W.2.1 (4, 0, 0, 0, 0)
  rw [hX] at hx
  have hl : X.2.2.1 ≤ 1354 := by have := hw.2.2.2.2.2; have := hw.2.2.1; omega
  have hx4 := hx.1.2.2.2.1
  refine XW.heq (h' := sH s0.heap.size cI (sP s0.heap.size cI 8 h (x, t, l0, m0) (oCo cc a1 a2 a3 a4) (oPa k ln ds ec li)) t) (by rw [sP_H8]) ?_
  refine x_aload_n C d_Np_pack_0 rfl ?_
  refine x_get C (G_Np E.1) 8 (u_254 E.1) d_Np_pack_1 (by decide) (by exact h0) rfl ?_
  refine x_callVR C (G_Hi E.1) (u_359 E.1) (u_360 E.1) (u_361 E.1) (u_362 E.1) (u_5 E.1) d_Np_pack_4 (c_Hi_restart l E t1 t2) nh_Hi_restart ln_Hi_restart rfl rfl (nle rfl) (nle rfl) (nle rfl) (nle rfl) (nle rfl) ?_
  refine XW.heq (h' := sL s0.heap.size cI 8 (sP s0.heap.size cI 8 h (x, (t.1, 0, fun _ => 1, 0), l0, m0) (oCo cc a1 a2 a3 a4) (oPa k ln ds ec li)) l0 m0) (by rw [sP_H8, sP_L8]) ?_
  refine x_aload_n C d_Np_pack_7 rfl ?_
  refine x_get C (G_Np E.1) 6 (u_252 E.1) d_Np_pack_8 (by decide) (by exact h0) rfl ?_
  refine x_callVR C (G_Pl E.1) (u_367 E.1) (u_368 E.1) (u_369 E.1) (u_370 E.1) (u_3 E.1) d_Np_pack_11 (c_Pl_clear8 l E) nh_Pl_clear ln_Pl_clear rfl rfl (nle rfl) (nle rfl) (nle rfl) (nle rfl) (nle rfl) ?_
  refine XW.heq (h' := sN s0.heap.size cI (sP s0.heap.size cI 8 h (x, (t.1, 0, fun _ => 1, 0), l0, 0) (oCo cc a1 a2 a3 a4) (oPa k ln ds ec li)) x) (by rw [sP_L8, sP_N8]) ?_
  refine x_aload_n C d_Np_pack_14 rfl ?_
  refine x_get C (G_Np E.1) 10 (u_256 E.1) d_Np_pack_15 (by decide) (by exact h0) rfl ?_
  refine x_getN C (G_Wr E.1) 0 (u_205 E.1) d_Np_pack_18 (by decide) (by exact h22) rfl ?_
  refine x_callVR C (G_Na E.1) (u_371 E.1) (u_372 E.1) (u_373 E.1) (u_374 E.1) (u_9 E.1) d_Np_pack_21 (c_Na_restart l E (by exact h24)) nh_Na_restart ln_Na_restart rfl rfl (nle rfl) (nle rfl) (nle rfl) (nle rfl) (nle rfl) ?_
  refine XW.heq (h' := sP s0.heap.size cI 8 h (w0 t.1 l0) (oCo cc a1 a2 a3 a4) (oPa k ln ds ec li)) (by rw [sP_N8]; rfl) ?_
  refine x_aload_n C d_Np_pack_24 rfl ?_
  refine x_callVE C (G_Np E.1) (u_382 E.1) (u_384 E.1) (us_0 E.1) (u_385 E.1) (u_1 E.1) d_Np_pack_25 (c_Np_writeSource8 l E (by exact h0) (by exact h1) (by exact h2) (by exact h22) (by exact h24) hs n1 n2 c1 c2 hb0 hW) nh_Np_writeSource ln_Np_writeSource rfl (by exact h0) (nle rfl) (nle rfl) (nle rfl) (nle rfl) (nle rfl) (fun v25 h25 K25 r25 => ?_) (fun Cn25 h25 K25 r25 => by cases r25.1)
  obtain ⟨e1, e2, b1, b2, b3, b4, b5, b6, e3⟩ := r25
  cases e1
  subst e2
  subst e3
  rw [hX]
  refine x_aload_n C d_Np_pack_28 rfl ?_
  refine x_get C (G_Np E.1) 10 (u_256 E.1) d_Np_pack_29 (by decide) (by exact h0) rfl ?_
  refine x_getN C (G_Wr E.1) 0 (u_205 E.1) d_Np_pack_32 (by decide) (by exact h22) rfl ?_
  refine x_callVR C (G_Na E.1) (u_520 E.1) (u_521 E.1) (u_522 E.1) (u_523 E.1) (u_9 E.1) d_Np_pack_35 (c_Na_fits l E (len := X.2.2.1) (rg := X.2.2.2) (by rfl) (by omega) (by omega)) nh_Na_fits ln_Na_fits rfl rfl (nle rfl) (nle rfl) (nle rfl) (nle rfl) (nle rfl) ?_
  have hf : fitsZ X.2.2.1 = 1 := if_pos hlen
  refine x_if_ne C (tgt := 51) d_Np_pack_38 (by decide) (by omega) (by omega) (fun c38 => ?_) (fun c38 => ?_)
  · refine x_aload_n C d_Np_pack_51 rfl ?_
    refine x_aload_n C d_Np_pack_52 rfl ?_
    refine x_get C (G_Np E.1) 10 (u_256 E.1) d_Np_pack_53 (by decide) (by exact h0) rfl ?_
    refine x_getN C (G_Wr E.1) 0 (u_205 E.1) d_Np_pack_56 (by decide) (by exact h22) rfl ?_
    refine x_callVR C (G_Np E.1) (u_593 E.1) (u_595 E.1) (us_15 E.1) (u_596 E.1) (u_1 E.1) d_Np_pack_59 (c_Np_keepPacking l E (C := X.1) (g := X.2.1) (len := X.2.2.1) (rg := X.2.2.2) (by exact h0) (by exact h3) (by exact h4) m1 m2 (by exact h7) (by rfl) (by exact h24) (by rfl) (by rfl) (by omega) (by omega)) nh_Np_keepPacking ln_Np_keepPacking rfl (by exact h0) (nle rfl) (nle rfl) (nle rfl) (nle rfl) (nle rfl) ?_
    refine x_aload_n C d_Np_pack_62 rfl ?_
    refine x_get C (G_Np E.1) 1 (u_247 E.1) d_Np_pack_63 (by decide) (by rfl) rfl ?_
    refine x_getN C (G_By E.1) 1 (u_46 E.1) d_Np_pack_66 (by decide) (by rfl) rfl ?_
    exact x_iretT C d_Np_pack_69 ⟨rfl, rfl, b1, b2, b3, b4, b5, b6, rfl⟩
  · exfalso; omega

set_option maxRecDepth 100000 in
set_option maxHeartbeats 4000000 in
theorem c_Np_packT8 {a0 : Array Value} {s0 : State} {D : va_G} {cI cL : ClassId} (l : Launch) (E : a_E a0 s0 D cI cL) (F : a_F l s0) {h : AH} {K : Nat} {has : Int} (h0 : h 0 = some (oNp s0.heap.size 12 8 has)) {src : Int → Int} {n cc : Int} (h1 : h 1 = some (oBy s0.heap.size 2 n)) (h2 : h 2 = some (iA cI 120 src)) (h22 : h 22 = some (oWr s0.heap.size)) (h24 : h 24 = some (oCh s0.heap.size 25)) (hs : ∀ q, 0 ≤ src q ∧ src q < 256) (n1 : 0 ≤ n) (n2 : n ≤ 120) (c1 : 1 ≤ cc) (c2 : cc ≤ 16) {l0 : T3} {m0 : Int} {x : En} {t : Hs} (hb0 : ∀ j, 0 ≤ t.1 j ∧ t.1 j < 256) (t1 : 0 ≤ t.2.1) (t2 : t.2.1 ≤ 120) {a1 a2 a3 a4 k ln ds ec li : Int} {W : Pw} (hW : packLoop cc src n 120 (w0 t.1 l0) = W) {X : En} (hX : ePkt W.2.1 (4, 0, 0, 0, 0) W.1 = X) (hlen : 200 < X.2.2.1) : XMT l s0 D y_Np_pack prog_1_method_4_code 1 (some .int) 7 [.ref (s0.heap.size + 0)] (sP s0.heap.size cI 8 h (x, t, l0, m0) (oCo cc a1 a2 a3 a4) (oPa k ln ds ec li)) (K) (fun o h' K' => o = .inr "java/lang/IllegalStateException" ∧ K' = K + 1 ∧ ∃ b1 b2 b3 b4 b5 b6, h' = sP s0.heap.size cI 8 h (X, W.2) (oCo cc b1 b2 b3 b4) (oPa 4 0 0 b5 b6)) := by
  refine XMT.of (cI := cI) (cL := cL) (own := "NarrowingPacker") (by decide) rfl E.2 (nle rfl) ?_
  intro p e s m below meth c C hn hlow
  have hw : wOk n W := by rw [← hW]; exact packLoop_ok hs n2 120 _ (w0_ok hb0 n1)
  have hx := eOk_pkt hw.1 W.2.1 (4, 0, 0, 0, 0)
  rw [hX] at hx
  have hl : X.2.2.1 ≤ 1354 := by have := hw.2.2.2.2.2; have := hw.2.2.1; omega
  have hx4 := hx.1.2.2.2.1
  refine XW.heq (h' := sH s0.heap.size cI (sP s0.heap.size cI 8 h (x, t, l0, m0) (oCo cc a1 a2 a3 a4) (oPa k ln ds ec li)) t) (by rw [sP_H8]) ?_
  refine x_aload_n C d_Np_pack_0 rfl ?_
  refine x_get C (G_Np E.1) 8 (u_254 E.1) d_Np_pack_1 (by decide) (by exact h0) rfl ?_
  refine x_callVR C (G_Hi E.1) (u_359 E.1) (u_360 E.1) (u_361 E.1) (u_362 E.1) (u_5 E.1) d_Np_pack_4 (c_Hi_restart l E t1 t2) nh_Hi_restart ln_Hi_restart rfl rfl (nle rfl) (nle rfl) (nle rfl) (nle rfl) (nle rfl) ?_
  refine XW.heq (h' := sL s0.heap.size cI 8 (sP s0.heap.size cI 8 h (x, (t.1, 0, fun _ => 1, 0), l0, m0) (oCo cc a1 a2 a3 a4) (oPa k ln ds ec li)) l0 m0) (by rw [sP_H8, sP_L8]) ?_
  refine x_aload_n C d_Np_pack_7 rfl ?_
  refine x_get C (G_Np E.1) 6 (u_252 E.1) d_Np_pack_8 (by decide) (by exact h0) rfl ?_
  refine x_callVR C (G_Pl E.1) (u_367 E.1) (u_368 E.1) (u_369 E.1) (u_370 E.1) (u_3 E.1) d_Np_pack_11 (c_Pl_clear8 l E) nh_Pl_clear ln_Pl_clear rfl rfl (nle rfl) (nle rfl) (nle rfl) (nle rfl) (nle rfl) ?_
  refine XW.heq (h' := sN s0.heap.size cI (sP s0.heap.size cI 8 h (x, (t.1, 0, fun _ => 1, 0), l0, 0) (oCo cc a1 a2 a3 a4) (oPa k ln ds ec li)) x) (by rw [sP_L8, sP_N8]) ?_
  refine x_aload_n C d_Np_pack_14 rfl ?_
  refine x_get C (G_Np E.1) 10 (u_256 E.1) d_Np_pack_15 (by decide) (by exact h0) rfl ?_
  refine x_getN C (G_Wr E.1) 0 (u_205 E.1) d_Np_pack_18 (by decide) (by exact h22) rfl ?_
  refine x_callVR C (G_Na E.1) (u_371 E.1) (u_372 E.1) (u_373 E.1) (u_374 E.1) (u_9 E.1) d_Np_pack_21 (c_Na_restart l E (by exact h24)) nh_Na_restart ln_Na_restart rfl rfl (nle rfl) (nle rfl) (nle rfl) (nle rfl) (nle rfl) ?_
  refine XW.heq (h' := sP s0.heap.size cI 8 h (w0 t.1 l0) (oCo cc a1 a2 a3 a4) (oPa k ln ds ec li)) (by rw [sP_N8]; rfl) ?_
  refine x_aload_n C d_Np_pack_24 rfl ?_
  refine x_callVE C (G_Np E.1) (u_382 E.1) (u_384 E.1) (us_0 E.1) (u_385 E.1) (u_1 E.1) d_Np_pack_25 (c_Np_writeSource8 l E (by exact h0) (by exact h1) (by exact h2) (by exact h22) (by exact h24) hs n1 n2 c1 c2 hb0 hW) nh_Np_writeSource ln_Np_writeSource rfl (by exact h0) (nle rfl) (nle rfl) (nle rfl) (nle rfl) (nle rfl) (fun v25 h25 K25 r25 => ?_) (fun Cn25 h25 K25 r25 => by cases r25.1)
  obtain ⟨e1, e2, b1, b2, b3, b4, b5, b6, e3⟩ := r25
  cases e1
  subst e2
  subst e3
  rw [hX]
  refine x_aload_n C d_Np_pack_28 rfl ?_
  refine x_get C (G_Np E.1) 10 (u_256 E.1) d_Np_pack_29 (by decide) (by exact h0) rfl ?_
  refine x_getN C (G_Wr E.1) 0 (u_205 E.1) d_Np_pack_32 (by decide) (by exact h22) rfl ?_
  refine x_callVR C (G_Na E.1) (u_520 E.1) (u_521 E.1) (u_522 E.1) (u_523 E.1) (u_9 E.1) d_Np_pack_35 (c_Na_fits l E (len := X.2.2.1) (rg := X.2.2.2) (by rfl) (by omega) (by omega)) nh_Na_fits ln_Na_fits rfl rfl (nle rfl) (nle rfl) (nle rfl) (nle rfl) (nle rfl) ?_
  have hf : fitsZ X.2.2.1 = 0 := if_neg (by omega)
  refine x_if_ne C (tgt := 51) d_Np_pack_38 (by decide) (by omega) (by omega) (fun c38 => ?_) (fun c38 => ?_)
  · exfalso; omega
  · exact x_throwT C F hlow E.1 (th_IS E.1) (u_524 E.1) (u_566 E.1) (u_567 E.1) d_Np_pack_41 d_Np_pack_44 d_Np_pack_45 d_Np_pack_47 d_Np_pack_50 (nle rfl) (nle rfl) (nle rfl) (nle rfl) ⟨rfl, rfl, b1, b2, b3, b4, b5, b6, rfl⟩

set_option maxRecDepth 100000 in
set_option maxHeartbeats 4000000 in
theorem c_Np_pack12 {a0 : Array Value} {s0 : State} {D : va_G} {cI cL : ClassId} (l : Launch) (E : a_E a0 s0 D cI cL) (F : a_F l s0) {h : AH} {K : Nat} {has : Int} (h0 : h 0 = some (oNp s0.heap.size 8 12 has)) {src : Int → Int} {n cc : Int} (h1 : h 1 = some (oBy s0.heap.size 2 n)) (h2 : h 2 = some (iA cI 120 src)) (h22 : h 22 = some (oWr s0.heap.size)) (h24 : h 24 = some (oCh s0.heap.size 25)) (hs : ∀ q, 0 ≤ src q ∧ src q < 256) (n1 : 0 ≤ n) (n2 : n ≤ 120) (c1 : 1 ≤ cc) (c2 : cc ≤ 16) {l0 : T3} {m0 : Int} {x : En} {t : Hs} (hb0 : ∀ j, 0 ≤ t.1 j ∧ t.1 j < 256) (t1 : 0 ≤ t.2.1) (t2 : t.2.1 ≤ 120) {a1 a2 a3 a4 k ln ds ec li : Int} {W : Pw} (hW : packLoop cc src n 120 (w0 t.1 l0) = W) {X : En} (hX : ePkt W.2.1 (4, 0, 0, 0, 0) W.1 = X) {f kc : Int → Int} {sz : Int} (h3 : h 3 = some (oBy s0.heap.size 4 sz)) (h4 : h 4 = some (iA cI 200 f)) (m1 : 0 ≤ sz) (m2 : sz ≤ 200) (h7 : h 7 = some (iA cI 72 kc)) (hlen : X.2.2.1 ≤ 200) : XMT l s0 D y_Np_pack prog_1_method_4_code 1 (some .int) 7 [.ref (s0.heap.size + 0)] (sP s0.heap.size cI 12 h (x, t, l0, m0) (oCo cc a1 a2 a3 a4) (oPa k ln ds ec li)) (K) (fun o h' K' => o = .inl (some (.int (zI X.2.2.1))) ∧ K' = K ∧ ∃ b1 b2 b3 b4 b5 b6, h' = sK s0.heap.size cI 8 12 (sP s0.heap.size cI 12 h (X, W.2) (oCo cc b1 b2 b3 b4) (oPa 4 0 0 b5 b6)) f kc X) := by
  refine XMT.of (cI := cI) (cL := cL) (own := "NarrowingPacker") (by decide) rfl E.2 (nle rfl) ?_
  intro p e s m below meth c C hn hlow
  have hw : wOk n W := by rw [← hW]; exact packLoop_ok hs n2 120 _ (w0_ok hb0 n1)
  have hx := eOk_pkt hw.1 W.2.1 (4, 0, 0, 0, 0)
  rw [hX] at hx
  have hl : X.2.2.1 ≤ 1354 := by have := hw.2.2.2.2.2; have := hw.2.2.1; omega
  have hx4 := hx.1.2.2.2.1
  refine XW.heq (h' := sH s0.heap.size cI (sP s0.heap.size cI 12 h (x, t, l0, m0) (oCo cc a1 a2 a3 a4) (oPa k ln ds ec li)) t) (by rw [sP_H12]) ?_
  refine x_aload_n C d_Np_pack_0 rfl ?_
  refine x_get C (G_Np E.1) 8 (u_254 E.1) d_Np_pack_1 (by decide) (by exact h0) rfl ?_
  refine x_callVR C (G_Hi E.1) (u_359 E.1) (u_360 E.1) (u_361 E.1) (u_362 E.1) (u_5 E.1) d_Np_pack_4 (c_Hi_restart l E t1 t2) nh_Hi_restart ln_Hi_restart rfl rfl (nle rfl) (nle rfl) (nle rfl) (nle rfl) (nle rfl) ?_
  refine XW.heq (h' := sL s0.heap.size cI 12 (sP s0.heap.size cI 12 h (x, (t.1, 0, fun _ => 1, 0), l0, m0) (oCo cc a1 a2 a3 a4) (oPa k ln ds ec li)) l0 m0) (by rw [sP_H12, sP_L12]) ?_
  refine x_aload_n C d_Np_pack_7 rfl ?_
  refine x_get C (G_Np E.1) 6 (u_252 E.1) d_Np_pack_8 (by decide) (by exact h0) rfl ?_
  refine x_callVR C (G_Pl E.1) (u_367 E.1) (u_368 E.1) (u_369 E.1) (u_370 E.1) (u_3 E.1) d_Np_pack_11 (c_Pl_clear12 l E) nh_Pl_clear ln_Pl_clear rfl rfl (nle rfl) (nle rfl) (nle rfl) (nle rfl) (nle rfl) ?_
  refine XW.heq (h' := sN s0.heap.size cI (sP s0.heap.size cI 12 h (x, (t.1, 0, fun _ => 1, 0), l0, 0) (oCo cc a1 a2 a3 a4) (oPa k ln ds ec li)) x) (by rw [sP_L12, sP_N12]) ?_
  refine x_aload_n C d_Np_pack_14 rfl ?_
  refine x_get C (G_Np E.1) 10 (u_256 E.1) d_Np_pack_15 (by decide) (by exact h0) rfl ?_
  refine x_getN C (G_Wr E.1) 0 (u_205 E.1) d_Np_pack_18 (by decide) (by exact h22) rfl ?_
  refine x_callVR C (G_Na E.1) (u_371 E.1) (u_372 E.1) (u_373 E.1) (u_374 E.1) (u_9 E.1) d_Np_pack_21 (c_Na_restart l E (by exact h24)) nh_Na_restart ln_Na_restart rfl rfl (nle rfl) (nle rfl) (nle rfl) (nle rfl) (nle rfl) ?_
  refine XW.heq (h' := sP s0.heap.size cI 12 h (w0 t.1 l0) (oCo cc a1 a2 a3 a4) (oPa k ln ds ec li)) (by rw [sP_N12]; rfl) ?_
  refine x_aload_n C d_Np_pack_24 rfl ?_
  refine x_callVE C (G_Np E.1) (u_382 E.1) (u_384 E.1) (us_0 E.1) (u_385 E.1) (u_1 E.1) d_Np_pack_25 (c_Np_writeSource12 l E (by exact h0) (by exact h1) (by exact h2) (by exact h22) (by exact h24) hs n1 n2 c1 c2 hb0 hW) nh_Np_writeSource ln_Np_writeSource rfl (by exact h0) (nle rfl) (nle rfl) (nle rfl) (nle rfl) (nle rfl) (fun v25 h25 K25 r25 => ?_) (fun Cn25 h25 K25 r25 => by cases r25.1)
  obtain ⟨e1, e2, b1, b2, b3, b4, b5, b6, e3⟩ := r25
  cases e1
  subst e2
  subst e3
  rw [hX]
  refine x_aload_n C d_Np_pack_28 rfl ?_
  refine x_get C (G_Np E.1) 10 (u_256 E.1) d_Np_pack_29 (by decide) (by exact h0) rfl ?_
  refine x_getN C (G_Wr E.1) 0 (u_205 E.1) d_Np_pack_32 (by decide) (by exact h22) rfl ?_
  refine x_callVR C (G_Na E.1) (u_520 E.1) (u_521 E.1) (u_522 E.1) (u_523 E.1) (u_9 E.1) d_Np_pack_35 (c_Na_fits l E (len := X.2.2.1) (rg := X.2.2.2) (by rfl) (by omega) (by omega)) nh_Na_fits ln_Na_fits rfl rfl (nle rfl) (nle rfl) (nle rfl) (nle rfl) (nle rfl) ?_
  have hf : fitsZ X.2.2.1 = 1 := if_pos hlen
  refine x_if_ne C (tgt := 51) d_Np_pack_38 (by decide) (by omega) (by omega) (fun c38 => ?_) (fun c38 => ?_)
  · refine x_aload_n C d_Np_pack_51 rfl ?_
    refine x_aload_n C d_Np_pack_52 rfl ?_
    refine x_get C (G_Np E.1) 10 (u_256 E.1) d_Np_pack_53 (by decide) (by exact h0) rfl ?_
    refine x_getN C (G_Wr E.1) 0 (u_205 E.1) d_Np_pack_56 (by decide) (by exact h22) rfl ?_
    refine x_callVR C (G_Np E.1) (u_593 E.1) (u_595 E.1) (us_15 E.1) (u_596 E.1) (u_1 E.1) d_Np_pack_59 (c_Np_keepPacking l E (C := X.1) (g := X.2.1) (len := X.2.2.1) (rg := X.2.2.2) (by exact h0) (by exact h3) (by exact h4) m1 m2 (by exact h7) (by rfl) (by exact h24) (by rfl) (by rfl) (by omega) (by omega)) nh_Np_keepPacking ln_Np_keepPacking rfl (by exact h0) (nle rfl) (nle rfl) (nle rfl) (nle rfl) (nle rfl) ?_
    refine x_aload_n C d_Np_pack_62 rfl ?_
    refine x_get C (G_Np E.1) 1 (u_247 E.1) d_Np_pack_63 (by decide) (by rfl) rfl ?_
    refine x_getN C (G_By E.1) 1 (u_46 E.1) d_Np_pack_66 (by decide) (by rfl) rfl ?_
    exact x_iretT C d_Np_pack_69 ⟨rfl, rfl, b1, b2, b3, b4, b5, b6, rfl⟩
  · exfalso; omega

set_option maxRecDepth 100000 in
set_option maxHeartbeats 4000000 in
theorem c_Np_packT12 {a0 : Array Value} {s0 : State} {D : va_G} {cI cL : ClassId} (l : Launch) (E : a_E a0 s0 D cI cL) (F : a_F l s0) {h : AH} {K : Nat} {has : Int} (h0 : h 0 = some (oNp s0.heap.size 8 12 has)) {src : Int → Int} {n cc : Int} (h1 : h 1 = some (oBy s0.heap.size 2 n)) (h2 : h 2 = some (iA cI 120 src)) (h22 : h 22 = some (oWr s0.heap.size)) (h24 : h 24 = some (oCh s0.heap.size 25)) (hs : ∀ q, 0 ≤ src q ∧ src q < 256) (n1 : 0 ≤ n) (n2 : n ≤ 120) (c1 : 1 ≤ cc) (c2 : cc ≤ 16) {l0 : T3} {m0 : Int} {x : En} {t : Hs} (hb0 : ∀ j, 0 ≤ t.1 j ∧ t.1 j < 256) (t1 : 0 ≤ t.2.1) (t2 : t.2.1 ≤ 120) {a1 a2 a3 a4 k ln ds ec li : Int} {W : Pw} (hW : packLoop cc src n 120 (w0 t.1 l0) = W) {X : En} (hX : ePkt W.2.1 (4, 0, 0, 0, 0) W.1 = X) (hlen : 200 < X.2.2.1) : XMT l s0 D y_Np_pack prog_1_method_4_code 1 (some .int) 7 [.ref (s0.heap.size + 0)] (sP s0.heap.size cI 12 h (x, t, l0, m0) (oCo cc a1 a2 a3 a4) (oPa k ln ds ec li)) (K) (fun o h' K' => o = .inr "java/lang/IllegalStateException" ∧ K' = K + 1 ∧ ∃ b1 b2 b3 b4 b5 b6, h' = sP s0.heap.size cI 12 h (X, W.2) (oCo cc b1 b2 b3 b4) (oPa 4 0 0 b5 b6)) := by
  refine XMT.of (cI := cI) (cL := cL) (own := "NarrowingPacker") (by decide) rfl E.2 (nle rfl) ?_
  intro p e s m below meth c C hn hlow
  have hw : wOk n W := by rw [← hW]; exact packLoop_ok hs n2 120 _ (w0_ok hb0 n1)
  have hx := eOk_pkt hw.1 W.2.1 (4, 0, 0, 0, 0)
  rw [hX] at hx
  have hl : X.2.2.1 ≤ 1354 := by have := hw.2.2.2.2.2; have := hw.2.2.1; omega
  have hx4 := hx.1.2.2.2.1
  refine XW.heq (h' := sH s0.heap.size cI (sP s0.heap.size cI 12 h (x, t, l0, m0) (oCo cc a1 a2 a3 a4) (oPa k ln ds ec li)) t) (by rw [sP_H12]) ?_
  refine x_aload_n C d_Np_pack_0 rfl ?_
  refine x_get C (G_Np E.1) 8 (u_254 E.1) d_Np_pack_1 (by decide) (by exact h0) rfl ?_
  refine x_callVR C (G_Hi E.1) (u_359 E.1) (u_360 E.1) (u_361 E.1) (u_362 E.1) (u_5 E.1) d_Np_pack_4 (c_Hi_restart l E t1 t2) nh_Hi_restart ln_Hi_restart rfl rfl (nle rfl) (nle rfl) (nle rfl) (nle rfl) (nle rfl) ?_
  refine XW.heq (h' := sL s0.heap.size cI 12 (sP s0.heap.size cI 12 h (x, (t.1, 0, fun _ => 1, 0), l0, m0) (oCo cc a1 a2 a3 a4) (oPa k ln ds ec li)) l0 m0) (by rw [sP_H12, sP_L12]) ?_
  refine x_aload_n C d_Np_pack_7 rfl ?_
  refine x_get C (G_Np E.1) 6 (u_252 E.1) d_Np_pack_8 (by decide) (by exact h0) rfl ?_
  refine x_callVR C (G_Pl E.1) (u_367 E.1) (u_368 E.1) (u_369 E.1) (u_370 E.1) (u_3 E.1) d_Np_pack_11 (c_Pl_clear12 l E) nh_Pl_clear ln_Pl_clear rfl rfl (nle rfl) (nle rfl) (nle rfl) (nle rfl) (nle rfl) ?_
  refine XW.heq (h' := sN s0.heap.size cI (sP s0.heap.size cI 12 h (x, (t.1, 0, fun _ => 1, 0), l0, 0) (oCo cc a1 a2 a3 a4) (oPa k ln ds ec li)) x) (by rw [sP_L12, sP_N12]) ?_
  refine x_aload_n C d_Np_pack_14 rfl ?_
  refine x_get C (G_Np E.1) 10 (u_256 E.1) d_Np_pack_15 (by decide) (by exact h0) rfl ?_
  refine x_getN C (G_Wr E.1) 0 (u_205 E.1) d_Np_pack_18 (by decide) (by exact h22) rfl ?_
  refine x_callVR C (G_Na E.1) (u_371 E.1) (u_372 E.1) (u_373 E.1) (u_374 E.1) (u_9 E.1) d_Np_pack_21 (c_Na_restart l E (by exact h24)) nh_Na_restart ln_Na_restart rfl rfl (nle rfl) (nle rfl) (nle rfl) (nle rfl) (nle rfl) ?_
  refine XW.heq (h' := sP s0.heap.size cI 12 h (w0 t.1 l0) (oCo cc a1 a2 a3 a4) (oPa k ln ds ec li)) (by rw [sP_N12]; rfl) ?_
  refine x_aload_n C d_Np_pack_24 rfl ?_
  refine x_callVE C (G_Np E.1) (u_382 E.1) (u_384 E.1) (us_0 E.1) (u_385 E.1) (u_1 E.1) d_Np_pack_25 (c_Np_writeSource12 l E (by exact h0) (by exact h1) (by exact h2) (by exact h22) (by exact h24) hs n1 n2 c1 c2 hb0 hW) nh_Np_writeSource ln_Np_writeSource rfl (by exact h0) (nle rfl) (nle rfl) (nle rfl) (nle rfl) (nle rfl) (fun v25 h25 K25 r25 => ?_) (fun Cn25 h25 K25 r25 => by cases r25.1)
  obtain ⟨e1, e2, b1, b2, b3, b4, b5, b6, e3⟩ := r25
  cases e1
  subst e2
  subst e3
  rw [hX]
  refine x_aload_n C d_Np_pack_28 rfl ?_
  refine x_get C (G_Np E.1) 10 (u_256 E.1) d_Np_pack_29 (by decide) (by exact h0) rfl ?_
  refine x_getN C (G_Wr E.1) 0 (u_205 E.1) d_Np_pack_32 (by decide) (by exact h22) rfl ?_
  refine x_callVR C (G_Na E.1) (u_520 E.1) (u_521 E.1) (u_522 E.1) (u_523 E.1) (u_9 E.1) d_Np_pack_35 (c_Na_fits l E (len := X.2.2.1) (rg := X.2.2.2) (by rfl) (by omega) (by omega)) nh_Na_fits ln_Na_fits rfl rfl (nle rfl) (nle rfl) (nle rfl) (nle rfl) (nle rfl) ?_
  have hf : fitsZ X.2.2.1 = 0 := if_neg (by omega)
  refine x_if_ne C (tgt := 51) d_Np_pack_38 (by decide) (by omega) (by omega) (fun c38 => ?_) (fun c38 => ?_)
  · exfalso; omega
  · exact x_throwT C F hlow E.1 (th_IS E.1) (u_524 E.1) (u_566 E.1) (u_567 E.1) d_Np_pack_41 d_Np_pack_44 d_Np_pack_45 d_Np_pack_47 d_Np_pack_50 (nle rfl) (nle rfl) (nle rfl) (nle rfl) ⟨rfl, rfl, b1, b2, b3, b4, b5, b6, rfl⟩

