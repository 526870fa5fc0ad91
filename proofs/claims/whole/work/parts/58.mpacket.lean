/-! the reference: a packet -/
def ne0 (g : Int) : Int := if g = 0 then 0 else 1
theorem ne0_b (g : Int) : ne0 g = 0 ∨ ne0 g = 1 := by unfold ne0; split <;> omega
def okB (w : Mw) : Int := if w.1.2.1 = 0 then 1 else 0
def ecG (v : Vw) : Int := if v.2.2.2.1 = 3 then -1 else v.2.2.2.2.2.2
def mPL (pk : Int → Int) (sz : Int) (v : Vw) (c : Cd) : Int × Mw :=
  (okB (mTL ((mLt pk sz v.1 v.2.2.2.2.2.1 c).2, v) (mLt pk sz v.1 v.2.2.2.2.2.1 c).1), mTL ((mLt pk sz v.1 v.2.2.2.2.2.1 c).2, v) (mLt pk sz v.1 v.2.2.2.2.2.1 c).1)
def mPM2 (pk : Int → Int) (sz : Int) (v : Vw) (ln : Int) (z : Int × Cd) : Int × Mw :=
  if z.1 < 0 then (0, (z.2, v)) else (okB (mTF 1 (ln + 2) (z.1 + 1) 3 (z.2, v)), mTF 1 (ln + 2) (z.1 + 1) 3 (z.2, v))
def mPM (pk : Int → Int) (sz : Int) (v : Vw) (c : Cd) : Int × Mw :=
  mPM2 pk sz v (mLen pk sz (72 + 146 * 0) (v.2.2.2.2.1 - 2) c).1 (mDist pk sz (mLen pk sz (72 + 146 * 0) (v.2.2.2.2.1 - 2) c).1 (v.2.2.2.2.2.1 - 1) (mLen pk sz (72 + 146 * 0) (v.2.2.2.2.1 - 2) c).2)
def mPE2 (pk : Int → Int) (sz : Int) (v : Vw) (q : Int × Cd) : Mw :=
  if q.1 < 0 then mTF 3 1 (v.1.2.2.1 0) 0 (q.2, v)
  else mTF 2 (2 + (mLen pk sz (72 + 146 * 1) (v.2.2.2.2.1 - 2) q.2).1) (v.1.2.2.1 q.1) q.1.toNat ((mLen pk sz (72 + 146 * 1) (v.2.2.2.2.1 - 2) q.2).2, v)
def mPE (pk : Int → Int) (sz : Int) (v : Vw) (c : Cd) : Int × Mw :=
  (okB (mPE2 pk sz v (mEcho pk sz v.1.2.2.2 (ecG v) c)), mPE2 pk sz v (mEcho pk sz v.1.2.2.2 (ecG v) c))
def mPkt (pk : Int → Int) (sz : Int) (v : Vw) (c : Cd) : Int × Mw :=
  if (mBit pk sz c v.1.2.2.2 (ne0 v.2.2.2.1)).1 = 0 then mPL pk sz v (mBit pk sz c v.1.2.2.2 (ne0 v.2.2.2.1)).2
  else if (mBit pk sz (mBit pk sz c v.1.2.2.2 (ne0 v.2.2.2.1)).2 (12 + v.1.2.2.2) (gt1 v.2.2.2.1)).1 = 0 then mPM pk sz v (mBit pk sz (mBit pk sz c v.1.2.2.2 (ne0 v.2.2.2.1)).2 (12 + v.1.2.2.2) (gt1 v.2.2.2.1)).2
  else mPE pk sz v (mBit pk sz (mBit pk sz c v.1.2.2.2 (ne0 v.2.2.2.1)).2 (12 + v.1.2.2.2) (gt1 v.2.2.2.1)).2
theorem mTL_bd {w : Mw} (h1 : 0 ≤ w.1.2.1) (h2 : w.1.2.1 ≤ 4) (b : Int) : 0 ≤ (mTL w b).1.2.1 ∧ (mTL w b).1.2.1 ≤ 4 := by
  unfold mTL mTL3
  split
  · show (0 : Int) ≤ 4 ∧ (4 : Int) ≤ 4; omega
  · split
    · exact ⟨h1, h2⟩
    · exact ⟨h1, h2⟩
theorem mTF3_bd {w : Mw} (h1 : 0 ≤ w.1.2.1) (h2 : w.1.2.1 ≤ 4) (kd mn d : Int) (k : Nat) : 0 ≤ (mTF3 kd mn d k w).1.2.1 ∧ (mTF3 kd mn d k w).1.2.1 ≤ 4 := by
  unfold mTF3
  split
  · exact ⟨h1, h2⟩
  · exact ⟨h1, h2⟩
theorem mTF2_bd {w : Mw} (h1 : 0 ≤ w.1.2.1) (h2 : w.1.2.1 ≤ 4) (kd mn d : Int) (k : Nat) : 0 ≤ (mTF2 kd mn d k w).1.2.1 ∧ (mTF2 kd mn d k w).1.2.1 ≤ 4 := by
  unfold mTF2
  split
  · exact mTF3_bd (by show (0 : Int) ≤ 4; decide) (by show (4 : Int) ≤ 4; decide) kd mn d k
  · exact mTF3_bd h1 h2 kd mn d k
theorem mTF_bd {w : Mw} (h1 : 0 ≤ w.1.2.1) (h2 : w.1.2.1 ≤ 4) (kd mn d : Int) (k : Nat) : 0 ≤ (mTF kd mn d k w).1.2.1 ∧ (mTF kd mn d k w).1.2.1 ≤ 4 := by
  unfold mTF
  split
  · exact mTF2_bd (by show (0 : Int) ≤ 3; decide) (by show (3 : Int) ≤ 4; decide) kd mn d k
  · exact mTF2_bd h1 h2 kd mn d k
theorem mDst_b (pk : Int → Int) (sz g : Int) {sl : Int} (s1 : 0 ≤ sl) (s2 : sl ≤ 14) (c : Cd) : 0 ≤ (mDst pk sz g sl c).1 ∧ (mDst pk sz g sl c).1 ≤ 300 := by
  unfold mDst
  split
  · show 0 ≤ sl ∧ sl ≤ 300; omega
  · generalize hn : (sl / 2 - 1).toNat = n
    have hn6 : n ≤ 6 := by omega
    have h := mRow_b pk sz n 0 (428 + (sl - 4) * 32) (g % 2 ^ n) 1 0 c
    have hp := pow_s6 hn6
    rw [Nat.add_zero] at h
    generalize (2 : Int) ^ n = q at h hp ⊢
    generalize (mRow pk sz n 0 (428 + (sl - 4) * 32) (g % q) 1 0 c).1 = r at h ⊢
    have e : (2 + sl % 2) * q = 2 * q ∨ (2 + sl % 2) * q = 3 * q := by
      have : sl % 2 = 0 ∨ sl % 2 = 1 := by omega
      rcases this with e | e <;> rw [e]
      · left; rfl
      · right; rfl
    show 0 ≤ (2 + sl % 2) * q + r ∧ (2 + sl % 2) * q + r ≤ 300
    rw [Int.pow_zero] at h
    omega
theorem mDist_b (pk : Int → Int) (sz v g : Int) {c : Cd} : -1 ≤ (mDist pk sz v g c).1 ∧ (mDist pk sz v g c).1 ≤ 300 := by
  have hs := mSlot_b pk sz v g c
  unfold mDist
  split
  · show (-1 : Int) ≤ -1 ∧ (-1 : Int) ≤ 300; omega
  · have := mDst_b pk sz g (sl := (mSlot pk sz v g c).1 - 16) (by omega) (by omega) (mFar (mSlot pk sz v g c).2 ((mSlot pk sz v g c).1 - 16))
    omega
set_option maxRecDepth 100000 in
set_option maxHeartbeats 4000000 in
theorem e23_Mo_packet {a0 : Array Value} {s0 : State} {D : va_G} {cI cL : ClassId} (l : Launch) (E : a_E a0 s0 D cI cL) {p : Program} {e : Env} {R : Room} {s : State} {m : MethodId} {args : Array Value} {below : List Frame} {meth : Method} {c : Code} (C : XC s0 D cI cL p s m meth c "NarrowingPackerModel" prog_13_method_22_code 3 (some .boolean) []) (hR : R = a_rm 5 0 0) {h : AH} {K : Nat} {κ : Kp} {v : Hs × T3 × Int × Cn4} {P pk : Int → Int} (h35 : h 35 = some (iA cI 200 P)) (hP : ∀ j, 0 ≤ j → j < κ.2.2.2.1 → P j = pk j) (hp : ∀ j, 0 ≤ pk j ∧ pk j < 256) (z1 : 0 ≤ κ.2.2.2.1) (z2 : κ.2.2.2.1 ≤ 200) (hk : hOk v.1) (m1 : 0 ≤ v.2.2.1) (m2 : v.2.2.1 ≤ 120) (ch1 : 0 ≤ v.2.2.2.1) (ch2 : v.2.2.2.1 ≤ 3) (lo1 : 0 ≤ v.2.2.2.2.1) (lo2 : v.2.2.2.2.1 ≤ 200) (fa1 : 0 ≤ v.2.2.2.2.2.1) (fa2 : v.2.2.2.2.2.1 ≤ 255) (wh1 : 0 ≤ v.2.2.2.2.2.2) (wh2 : v.2.2.2.2.2.2 ≤ 3) {c0 : Cd} (ok : cOk κ.2.2.2.1 8 c0) : XW s0 D p l e R s m args below meth c (XQ s0 D 0 0 (PR (some (.int (zI (mPL pk κ.2.2.2.1 v c0).1))) (sM s0.heap.size cI h κ ((mPL pk κ.2.2.2.1 v c0).2)) K) below s) 23 [(0, .ref (s0.heap.size + 33))] [] (sM s0.heap.size cI h κ (c0, v)) K 0 0 := by
  subst hR
  have hn := hk.2.1
  have hst := hk.2.2.2.1
  have ok1 : cOk κ.2.2.2.1 0 (mLt pk κ.2.2.2.1 v.1 v.2.2.2.2.2.1 c0).2 := mLit_ok hp 8 _ _ _ _ _ 0 _ (by exact ok)
  have hbd := mTL_bd (w := ((mLt pk κ.2.2.2.1 v.1 v.2.2.2.2.2.1 c0).2, v)) ok1.2.2.1.1 ok1.2.2.1.2 (mLt pk κ.2.2.2.1 v.1 v.2.2.2.2.2.1 c0).1
  refine x_aload_n C d_Mo_packet0_23 rfl ?_
  refine x_aload_n C d_Mo_packet0_24 rfl ?_
  refine x_aload_n C d_Mo_packet0_25 rfl ?_
  refine x_get C (G_Mo E.1) 32 (u_796 E.1) d_Mo_packet0_26 (by decide) (by rfl) (show _ = some (.int (zI v.2.2.2.2.2.1)) from rfl) ?_
  refine x_callVR C (G_Mo E.1) (u_922 E.1) (u_924 E.1) (us_31 E.1) (u_925 E.1) (u_13 E.1) d_Mo_packet0_29 (c_Mo_literal l E h35 hP hp z1 z2 hk (by omega) (by omega) ok) nh_Mo_literal ln_Mo_literal rfl rfl (nle rfl) (nle rfl) (nle rfl) (nle rfl) (nle rfl) ?_
  refine x_callVR C (G_Mo E.1) (u_930 E.1) (u_932 E.1) (us_33 E.1) (u_933 E.1) (u_13 E.1) d_Mo_packet0_32 (c_Mo_tellLiteral l E ok1.2.2.1.1 ok1.2.2.1.2 hk m1 m2) nh_Mo_tellLiteral ln_Mo_tellLiteral rfl rfl (nle rfl) (nle rfl) (nle rfl) (nle rfl) (nle rfl) ?_
  refine XW.heq (h' := sM s0.heap.size cI h κ ((mTL ((mLt pk κ.2.2.2.1 v.1 v.2.2.2.2.2.1 c0).2, v) (mLt pk κ.2.2.2.1 v.1 v.2.2.2.2.2.1 c0).1))) rfl ?_
  refine x_aload_n C d_Mo_packet0_35 rfl ?_
  refine x_get C (G_Mo E.1) 15 (u_779 E.1) d_Mo_packet0_36 (by decide) (by rfl) (show _ = some (.int (zI ((mTL ((mLt pk κ.2.2.2.1 v.1 v.2.2.2.2.2.1 c0).2, v) (mLt pk κ.2.2.2.1 v.1 v.2.2.2.2.2.1 c0).1).1.2.1))) from rfl) ?_
  refine x_if_ne C (tgt := 46) d_Mo_packet0_39 (by decide) (by omega) (by omega) (fun c39 => ?_) (fun c39 => ?_)
  · refine x_iconst C d_Mo_packet0_46 ?_
    exact x_zret C d_Mo_packet0_47 (by omega) (nle rfl) (nle rfl) ⟨by show _ = Sum.inl (some (Value.int (zI (okB (mTL ((mLt pk κ.2.2.2.1 v.1 v.2.2.2.2.2.1 c0).2, v) (mLt pk κ.2.2.2.1 v.1 v.2.2.2.2.2.1 c0).1))))); unfold okB; first | (rw [if_pos c39]; done) | (rw [if_neg c39]; done), rfl, rfl⟩
  · refine x_iconst C d_Mo_packet0_42 ?_
    refine x_goto C (tgt := 47) d_Mo_packet0_43 (by decide) ?_
    exact x_zret C d_Mo_packet0_47 (by omega) (nle rfl) (nle rfl) ⟨by show _ = Sum.inl (some (Value.int (zI (okB (mTL ((mLt pk κ.2.2.2.1 v.1 v.2.2.2.2.2.1 c0).2, v) (mLt pk κ.2.2.2.1 v.1 v.2.2.2.2.2.1 c0).1))))); unfold okB; first | (rw [if_pos c39]; done) | (rw [if_neg c39]; done), rfl, rfl⟩
set_option maxRecDepth 100000 in
set_option maxHeartbeats 4000000 in
theorem e75_Mo_packet {a0 : Array Value} {s0 : State} {D : va_G} {cI cL : ClassId} (l : Launch) (E : a_E a0 s0 D cI cL) {p : Program} {e : Env} {R : Room} {s : State} {m : MethodId} {args : Array Value} {below : List Frame} {meth : Method} {c : Code} (C : XC s0 D cI cL p s m meth c "NarrowingPackerModel" prog_13_method_22_code 3 (some .boolean) []) (hR : R = a_rm 5 0 0) {h : AH} {K : Nat} {κ : Kp} {v : Hs × T3 × Int × Cn4} {P pk : Int → Int} (h35 : h 35 = some (iA cI 200 P)) (hP : ∀ j, 0 ≤ j → j < κ.2.2.2.1 → P j = pk j) (hp : ∀ j, 0 ≤ pk j ∧ pk j < 256) (z1 : 0 ≤ κ.2.2.2.1) (z2 : κ.2.2.2.1 ≤ 200) (hk : hOk v.1) (m1 : 0 ≤ v.2.2.1) (m2 : v.2.2.1 ≤ 120) (ch1 : 0 ≤ v.2.2.2.1) (ch2 : v.2.2.2.1 ≤ 3) (lo1 : 0 ≤ v.2.2.2.2.1) (lo2 : v.2.2.2.2.1 ≤ 200) (fa1 : 0 ≤ v.2.2.2.2.2.1) (fa2 : v.2.2.2.2.2.1 ≤ 255) (wh1 : 0 ≤ v.2.2.2.2.2.2) (wh2 : v.2.2.2.2.2.2 ≤ 3) {c0 : Cd} (far : v.2.2.2.2.2.1 ≤ 128) (ok : cOk κ.2.2.2.1 19 c0) : XW s0 D p l e R s m args below meth c (XQ s0 D 0 0 (PR (some (.int (zI (mPM pk κ.2.2.2.1 v c0).1))) (sM s0.heap.size cI h κ ((mPM pk κ.2.2.2.1 v c0).2)) K) below s) 75 [(0, .ref (s0.heap.size + 33))] [] (sM s0.heap.size cI h κ (c0, v)) K 0 0 := by
  subst hR
  have hn := hk.2.1
  have hst := hk.2.2.2.1
  have ok1 : cOk κ.2.2.2.1 10 (mLen pk κ.2.2.2.1 (72 + 146 * 0) (v.2.2.2.2.1 - 2) c0).2 := mLen_ok hp _ _ (by exact ok)
  have ok2 : cOk κ.2.2.2.1 0 (mDist pk κ.2.2.2.1 (mLen pk κ.2.2.2.1 (72 + 146 * 0) (v.2.2.2.2.1 - 2) c0).1 (v.2.2.2.2.2.1 - 1) (mLen pk κ.2.2.2.1 (72 + 146 * 0) (v.2.2.2.2.1 - 2) c0).2).2 := mDist_ok hp _ _ (by exact ok1)
  have hbd := mTF_bd (w := ((mDist pk κ.2.2.2.1 (mLen pk κ.2.2.2.1 (72 + 146 * 0) (v.2.2.2.2.1 - 2) c0).1 (v.2.2.2.2.2.1 - 1) (mLen pk κ.2.2.2.1 (72 + 146 * 0) (v.2.2.2.2.1 - 2) c0).2).2, v)) ok2.2.2.1.1 ok2.2.2.1.2 1 ((mLen pk κ.2.2.2.1 (72 + 146 * 0) (v.2.2.2.2.1 - 2) c0).1 + 2) ((mDist pk κ.2.2.2.1 (mLen pk κ.2.2.2.1 (72 + 146 * 0) (v.2.2.2.2.1 - 2) c0).1 (v.2.2.2.2.2.1 - 1) (mLen pk κ.2.2.2.1 (72 + 146 * 0) (v.2.2.2.2.1 - 2) c0).2).1 + 1) 3
  refine x_aload_n C d_Mo_packet0_75 rfl ?_
  refine x_iconst C d_Mo_packet0_76 ?_
  refine x_aload_n C d_Mo_packet0_77 rfl ?_
  refine x_get C (G_Mo E.1) 31 (u_795 E.1) d_Mo_packet0_78 (by decide) (by rfl) (show _ = some (.int (zI v.2.2.2.2.1)) from rfl) ?_
  refine x_iconst C d_Mo_packet0_81 ?_
  refine x_isub C d_Mo_packet0_82 ?_
  refine x_callVR C (G_Mo E.1) (u_942 E.1) (u_944 E.1) (us_36 E.1) (u_945 E.1) (u_13 E.1) d_Mo_packet0_83 (c_Mo_length l E h35 hP hp z1 z2 (y := 0) (by decide) (by decide) (by omega) (by omega) (by exact ok.le (by omega))) nh_Mo_length ln_Mo_length rfl rfl (nle rfl) (nle rfl) (nle rfl) (nle rfl) (nle rfl) ?_
  have hle := mLen_b pk κ.2.2.2.1 (72 + 146 * 0) (v.2.2.2.2.1 - 2) c0
  refine x_istore_n C d_Mo_packet0_86 (by decide) ?_
  refine x_aload_n C d_Mo_packet0_87 rfl ?_
  refine x_iload_n C d_Mo_packet0_88 rfl ?_
  refine x_aload_n C d_Mo_packet0_89 rfl ?_
  refine x_get C (G_Mo E.1) 32 (u_796 E.1) d_Mo_packet0_90 (by decide) (by rfl) (show _ = some (.int (zI v.2.2.2.2.2.1)) from rfl) ?_
  refine x_iconst C d_Mo_packet0_93 ?_
  refine x_isub C d_Mo_packet0_94 ?_
  refine x_callVR C (G_Mo E.1) (u_946 E.1) (u_948 E.1) (us_37 E.1) (u_949 E.1) (u_13 E.1) d_Mo_packet0_95 (c_Mo_distance l E h35 hP hp z1 z2 (by omega) (by omega) (by omega) (by omega) ok1) nh_Mo_distance ln_Mo_distance rfl rfl (nle rfl) (nle rfl) (nle rfl) (nle rfl) (nle rfl) ?_
  have hdi := mDist_b pk κ.2.2.2.1 (mLen pk κ.2.2.2.1 (72 + 146 * 0) (v.2.2.2.2.1 - 2) c0).1 (v.2.2.2.2.2.1 - 1) (c := (mLen pk κ.2.2.2.1 (72 + 146 * 0) (v.2.2.2.2.1 - 2) c0).2)
  by_cases hlt : (mDist pk κ.2.2.2.1 (mLen pk κ.2.2.2.1 (72 + 146 * 0) (v.2.2.2.2.1 - 2) c0).1 (v.2.2.2.2.2.1 - 1) (mLen pk κ.2.2.2.1 (72 + 146 * 0) (v.2.2.2.2.1 - 2) c0).2).1 < 0
  · refine x_istore_n C d_Mo_packet0_98 (by decide) ?_
    refine x_iload_n C d_Mo_packet0_99 rfl ?_
    refine x_if_lt C (tgt := 115) d_Mo_packet0_100 (by decide) (by omega) (by omega) (fun c100 => ?_) (fun c100 => ?_)
    · refine x_iload_n C d_Mo_packet0_115 rfl ?_
      refine x_if_lt C (tgt := 130) d_Mo_packet0_116 (by decide) (by omega) (by omega) (fun c116 => ?_) (fun c116 => ?_)
      · refine x_iconst C d_Mo_packet0_130 ?_
        exact x_zret C d_Mo_packet0_131 (by omega) (nle rfl) (nle rfl) ⟨by show _ = Sum.inl (some (Value.int (zI (mPM2 pk κ.2.2.2.1 v (mLen pk κ.2.2.2.1 (72 + 146 * 0) (v.2.2.2.2.1 - 2) c0).1 (mDist pk κ.2.2.2.1 (mLen pk κ.2.2.2.1 (72 + 146 * 0) (v.2.2.2.2.1 - 2) c0).1 (v.2.2.2.2.2.1 - 1) (mLen pk κ.2.2.2.1 (72 + 146 * 0) (v.2.2.2.2.1 - 2) c0).2)).1))); unfold mPM2; rw [if_pos hlt]; first | done | rfl, by show _ = sM s0.heap.size cI h κ (mPM2 pk κ.2.2.2.1 v (mLen pk κ.2.2.2.1 (72 + 146 * 0) (v.2.2.2.2.1 - 2) c0).1 (mDist pk κ.2.2.2.1 (mLen pk κ.2.2.2.1 (72 + 146 * 0) (v.2.2.2.2.1 - 2) c0).1 (v.2.2.2.2.2.1 - 1) (mLen pk κ.2.2.2.1 (72 + 146 * 0) (v.2.2.2.2.1 - 2) c0).2)).2; unfold mPM2; rw [if_pos hlt]; first | done | rfl, rfl⟩
      · exfalso; omega
    · exfalso; omega
  · refine x_istore_n C d_Mo_packet0_98 (by decide) ?_
    refine x_iload_n C d_Mo_packet0_99 rfl ?_
    refine x_if_lt C (tgt := 115) d_Mo_packet0_100 (by decide) (by omega) (by omega) (fun c100 => ?_) (fun c100 => ?_)
    · exfalso; omega
    · refine x_aload_n C d_Mo_packet0_103 rfl ?_
      refine x_iconst C d_Mo_packet0_104 ?_
      refine x_iload_n C d_Mo_packet0_105 rfl ?_
      refine x_iconst C d_Mo_packet0_106 ?_
      refine x_iadd C d_Mo_packet0_107 ?_
      refine x_iload_n C d_Mo_packet0_108 rfl ?_
      refine x_iconst C d_Mo_packet0_109 ?_
      refine x_iadd C d_Mo_packet0_110 ?_
      refine x_iconst C d_Mo_packet0_111 ?_
      refine XW.steq (st' := .int (zI ((3 : Nat) : Int)) :: .int (zI ((mDist pk κ.2.2.2.1 (mLen pk κ.2.2.2.1 (72 + 146 * 0) (v.2.2.2.2.1 - 2) c0).1 (v.2.2.2.2.2.1 - 1) (mLen pk κ.2.2.2.1 (72 + 146 * 0) (v.2.2.2.2.1 - 2) c0).2).1 + 1)) :: .int (zI ((mLen pk κ.2.2.2.1 (72 + 146 * 0) (v.2.2.2.2.1 - 2) c0).1 + 2)) :: .int (zI 1) :: .ref (s0.heap.size + 33) :: []) rfl ?_
      refine x_callVR C (G_Mo E.1) (u_957 E.1) (u_959 E.1) (us_39 E.1) (u_960 E.1) (u_13 E.1) d_Mo_packet0_112 (c_Mo_tellFar l E 3 (by decide) (Or.inl rfl) (by omega) (by omega) (by omega) (by omega) ok2.2.2.1.1 ok2.2.2.1.2 hk m1 m2) nh_Mo_tellFar ln_Mo_tellFar rfl rfl (nle rfl) (nle rfl) (nle rfl) (nle rfl) (nle rfl) ?_
      refine XW.heq (h' := sM s0.heap.size cI h κ ((mTF 1 ((mLen pk κ.2.2.2.1 (72 + 146 * 0) (v.2.2.2.2.1 - 2) c0).1 + 2) ((mDist pk κ.2.2.2.1 (mLen pk κ.2.2.2.1 (72 + 146 * 0) (v.2.2.2.2.1 - 2) c0).1 (v.2.2.2.2.2.1 - 1) (mLen pk κ.2.2.2.1 (72 + 146 * 0) (v.2.2.2.2.1 - 2) c0).2).1 + 1) 3 ((mDist pk κ.2.2.2.1 (mLen pk κ.2.2.2.1 (72 + 146 * 0) (v.2.2.2.2.1 - 2) c0).1 (v.2.2.2.2.2.1 - 1) (mLen pk κ.2.2.2.1 (72 + 146 * 0) (v.2.2.2.2.1 - 2) c0).2).2, v)))) rfl ?_
      refine x_iload_n C d_Mo_packet0_115 rfl ?_
      refine x_if_lt C (tgt := 130) d_Mo_packet0_116 (by decide) (by omega) (by omega) (fun c116 => ?_) (fun c116 => ?_)
      · exfalso; omega
      · refine x_aload_n C d_Mo_packet0_119 rfl ?_
        refine x_get C (G_Mo E.1) 15 (u_779 E.1) d_Mo_packet0_120 (by decide) (by rfl) (show _ = some (.int (zI ((mTF 1 ((mLen pk κ.2.2.2.1 (72 + 146 * 0) (v.2.2.2.2.1 - 2) c0).1 + 2) ((mDist pk κ.2.2.2.1 (mLen pk κ.2.2.2.1 (72 + 146 * 0) (v.2.2.2.2.1 - 2) c0).1 (v.2.2.2.2.2.1 - 1) (mLen pk κ.2.2.2.1 (72 + 146 * 0) (v.2.2.2.2.1 - 2) c0).2).1 + 1) 3 ((mDist pk κ.2.2.2.1 (mLen pk κ.2.2.2.1 (72 + 146 * 0) (v.2.2.2.2.1 - 2) c0).1 (v.2.2.2.2.2.1 - 1) (mLen pk κ.2.2.2.1 (72 + 146 * 0) (v.2.2.2.2.1 - 2) c0).2).2, v)).1.2.1))) from rfl) ?_
        refine x_if_ne C (tgt := 130) d_Mo_packet0_123 (by decide) (by omega) (by omega) (fun c123 => ?_) (fun c123 => ?_)
        · refine x_iconst C d_Mo_packet0_130 ?_
          exact x_zret C d_Mo_packet0_131 (by omega) (nle rfl) (nle rfl) ⟨by show _ = Sum.inl (some (Value.int (zI (mPM2 pk κ.2.2.2.1 v (mLen pk κ.2.2.2.1 (72 + 146 * 0) (v.2.2.2.2.1 - 2) c0).1 (mDist pk κ.2.2.2.1 (mLen pk κ.2.2.2.1 (72 + 146 * 0) (v.2.2.2.2.1 - 2) c0).1 (v.2.2.2.2.2.1 - 1) (mLen pk κ.2.2.2.1 (72 + 146 * 0) (v.2.2.2.2.1 - 2) c0).2)).1))); unfold mPM2; rw [if_neg hlt]; show _ = Sum.inl (some (Value.int (zI (okB (mTF 1 ((mLen pk κ.2.2.2.1 (72 + 146 * 0) (v.2.2.2.2.1 - 2) c0).1 + 2) ((mDist pk κ.2.2.2.1 (mLen pk κ.2.2.2.1 (72 + 146 * 0) (v.2.2.2.2.1 - 2) c0).1 (v.2.2.2.2.2.1 - 1) (mLen pk κ.2.2.2.1 (72 + 146 * 0) (v.2.2.2.2.1 - 2) c0).2).1 + 1) 3 ((mDist pk κ.2.2.2.1 (mLen pk κ.2.2.2.1 (72 + 146 * 0) (v.2.2.2.2.1 - 2) c0).1 (v.2.2.2.2.2.1 - 1) (mLen pk κ.2.2.2.1 (72 + 146 * 0) (v.2.2.2.2.1 - 2) c0).2).2, v)))))); unfold okB; first | (rw [if_pos c123]; done) | (rw [if_neg c123]; done), by show _ = sM s0.heap.size cI h κ (mPM2 pk κ.2.2.2.1 v (mLen pk κ.2.2.2.1 (72 + 146 * 0) (v.2.2.2.2.1 - 2) c0).1 (mDist pk κ.2.2.2.1 (mLen pk κ.2.2.2.1 (72 + 146 * 0) (v.2.2.2.2.1 - 2) c0).1 (v.2.2.2.2.2.1 - 1) (mLen pk κ.2.2.2.1 (72 + 146 * 0) (v.2.2.2.2.1 - 2) c0).2)).2; unfold mPM2; rw [if_neg hlt]; first | done | rfl, rfl⟩
        · refine x_iconst C d_Mo_packet0_126 ?_
          refine x_goto C (tgt := 131) d_Mo_packet0_127 (by decide) ?_
          exact x_zret C d_Mo_packet0_131 (by omega) (nle rfl) (nle rfl) ⟨by show _ = Sum.inl (some (Value.int (zI (mPM2 pk κ.2.2.2.1 v (mLen pk κ.2.2.2.1 (72 + 146 * 0) (v.2.2.2.2.1 - 2) c0).1 (mDist pk κ.2.2.2.1 (mLen pk κ.2.2.2.1 (72 + 146 * 0) (v.2.2.2.2.1 - 2) c0).1 (v.2.2.2.2.2.1 - 1) (mLen pk κ.2.2.2.1 (72 + 146 * 0) (v.2.2.2.2.1 - 2) c0).2)).1))); unfold mPM2; rw [if_neg hlt]; show _ = Sum.inl (some (Value.int (zI (okB (mTF 1 ((mLen pk κ.2.2.2.1 (72 + 146 * 0) (v.2.2.2.2.1 - 2) c0).1 + 2) ((mDist pk κ.2.2.2.1 (mLen pk κ.2.2.2.1 (72 + 146 * 0) (v.2.2.2.2.1 - 2) c0).1 (v.2.2.2.2.2.1 - 1) (mLen pk κ.2.2.2.1 (72 + 146 * 0) (v.2.2.2.2.1 - 2) c0).2).1 + 1) 3 ((mDist pk κ.2.2.2.1 (mLen pk κ.2.2.2.1 (72 + 146 * 0) (v.2.2.2.2.1 - 2) c0).1 (v.2.2.2.2.2.1 - 1) (mLen pk κ.2.2.2.1 (72 + 146 * 0) (v.2.2.2.2.1 - 2) c0).2).2, v)))))); unfold okB; first | (rw [if_pos c123]; done) | (rw [if_neg c123]; done), by show _ = sM s0.heap.size cI h κ (mPM2 pk κ.2.2.2.1 v (mLen pk κ.2.2.2.1 (72 + 146 * 0) (v.2.2.2.2.1 - 2) c0).1 (mDist pk κ.2.2.2.1 (mLen pk κ.2.2.2.1 (72 + 146 * 0) (v.2.2.2.2.1 - 2) c0).1 (v.2.2.2.2.2.1 - 1) (mLen pk κ.2.2.2.1 (72 + 146 * 0) (v.2.2.2.2.1 - 2) c0).2)).2; unfold mPM2; rw [if_neg hlt]; first | done | rfl, rfl⟩
set_option maxRecDepth 100000 in
set_option maxHeartbeats 4000000 in
theorem e152_Mo_packet {a0 : Array Value} {s0 : State} {D : va_G} {cI cL : ClassId} (l : Launch) (E : a_E a0 s0 D cI cL) {p : Program} {e : Env} {R : Room} {s : State} {m : MethodId} {args : Array Value} {below : List Frame} {meth : Method} {c : Code} (C : XC s0 D cI cL p s m meth c "NarrowingPackerModel" prog_13_method_22_code 3 (some .boolean) []) (hR : R = a_rm 5 0 0) {h : AH} {K : Nat} {κ : Kp} {v : Hs × T3 × Int × Cn4} {P pk : Int → Int} (h35 : h 35 = some (iA cI 200 P)) (hP : ∀ j, 0 ≤ j → j < κ.2.2.2.1 → P j = pk j) (hp : ∀ j, 0 ≤ pk j ∧ pk j < 256) (z1 : 0 ≤ κ.2.2.2.1) (z2 : κ.2.2.2.1 ≤ 200) (hk : hOk v.1) (m1 : 0 ≤ v.2.2.1) (m2 : v.2.2.1 ≤ 120) (ch1 : 0 ≤ v.2.2.2.1) (ch2 : v.2.2.2.1 ≤ 3) (lo1 : 0 ≤ v.2.2.2.2.1) (lo2 : v.2.2.2.2.1 ≤ 200) (fa1 : 0 ≤ v.2.2.2.2.2.1) (fa2 : v.2.2.2.2.2.1 ≤ 255) (wh1 : 0 ≤ v.2.2.2.2.2.2) (wh2 : v.2.2.2.2.2.2 ≤ 3) {c0 : Cd} (ok : cOk κ.2.2.2.1 12 c0) : XW s0 D p l e R s m args below meth c (XQ s0 D 0 0 (PR (some (.int (zI (mPE pk κ.2.2.2.1 v c0).1))) (sM s0.heap.size cI h κ ((mPE pk κ.2.2.2.1 v c0).2)) K) below s) 152 [(0, .ref (s0.heap.size + 33))] [.int (zI (mEcho pk κ.2.2.2.1 v.1.2.2.2 (ecG v) c0).1)] (sM s0.heap.size cI h κ ((mEcho pk κ.2.2.2.1 v.1.2.2.2 (ecG v) c0).2, v)) K 0 0 := by
  subst hR
  have hn := hk.2.1
  have hst := hk.2.2.2.1
  have heG : -1 ≤ ecG v ∧ ecG v ≤ 3 := by unfold ecG; split <;> omega
  have ok1 : cOk κ.2.2.2.1 9 (mEcho pk κ.2.2.2.1 v.1.2.2.2 (ecG v) c0).2 := mEcho_ok hp _ _ (by exact ok)
  have ok2 : cOk κ.2.2.2.1 0 (mLen pk κ.2.2.2.1 (72 + 146 * 1) (v.2.2.2.2.1 - 2) (mEcho pk κ.2.2.2.1 v.1.2.2.2 (ecG v) c0).2).2 := mLen_ok hp _ _ (by exact ok1)
  have hec := mEcho_b pk κ.2.2.2.1 v.1.2.2.2 (ecG v) c0
  have hb0 := hk.2.2.1 0
  have hbe := hk.2.2.1 (mEcho pk κ.2.2.2.1 v.1.2.2.2 (ecG v) c0).1
  by_cases hlt : (mEcho pk κ.2.2.2.1 v.1.2.2.2 (ecG v) c0).1 < 0
  · refine x_istore_n C d_Mo_packet0_152 (by decide) ?_
    refine x_iload_n C d_Mo_packet0_153 rfl ?_
    refine x_if_ge C (tgt := 161) d_Mo_packet0_154 (by decide) (by omega) (by omega) (fun c154 => ?_) (fun c154 => ?_)
    · exfalso; omega
    · refine x_iconst C d_Mo_packet0_157 ?_
      refine x_goto C (tgt := 174) d_Mo_packet0_158 (by decide) ?_
      refine x_istore_n C d_Mo_packet0_174 (by decide) ?_
      refine x_aload_n C d_Mo_packet0_175 rfl ?_
      refine x_iload_n C d_Mo_packet0_176 rfl ?_
      refine x_if_ge C (tgt := 184) d_Mo_packet0_177 (by decide) (by omega) (by omega) (fun c177 => ?_) (fun c177 => ?_)
      · exfalso; omega
      · refine x_iconst C d_Mo_packet0_180 ?_
        refine x_goto C (tgt := 185) d_Mo_packet0_181 (by decide) ?_
        refine x_iload_n C d_Mo_packet0_185 rfl ?_
        refine x_aload_n C d_Mo_packet0_186 rfl ?_
        refine x_get C (G_Mo E.1) 25 (u_789 E.1) d_Mo_packet0_187 (by decide) (by rfl) rfl ?_
        refine x_iload_n C d_Mo_packet0_190 rfl ?_
        refine x_if_ge C (tgt := 198) d_Mo_packet0_191 (by decide) (by omega) (by omega) (fun c191 => ?_) (fun c191 => ?_)
        · exfalso; omega
        · refine x_iconst C d_Mo_packet0_194 ?_
          refine x_goto C (tgt := 199) d_Mo_packet0_195 (by decide) ?_
          refine x_iald C d_Mo_packet0_199 (show _ = some (iA cI 4 v.1.2.2.1) from rfl) (by omega) (by omega) (by omega) ?_
          refine x_iload_n C d_Mo_packet0_200 rfl ?_
          refine x_if_ge C (tgt := 208) d_Mo_packet0_201 (by decide) (by omega) (by omega) (fun c201 => ?_) (fun c201 => ?_)
          · exfalso; omega
          · refine x_iconst C d_Mo_packet0_204 ?_
            refine x_goto C (tgt := 209) d_Mo_packet0_205 (by decide) ?_
            refine XW.steq (st' := .int (zI ((0 : Nat) : Int)) :: .int (zI (v.1.2.2.1 0)) :: .int (zI 1) :: .int (zI 3) :: .ref (s0.heap.size + 33) :: []) rfl ?_
            have hbd := mTF_bd (w := ((mEcho pk κ.2.2.2.1 v.1.2.2.2 (ecG v) c0).2, v)) ok1.2.2.1.1 ok1.2.2.1.2 3 1 (v.1.2.2.1 0) 0
            refine x_callVR C (G_Mo E.1) (u_957 E.1) (u_959 E.1) (us_39 E.1) (u_960 E.1) (u_13 E.1) d_Mo_packet0_209 (c_Mo_tellFar l E 0 (by decide) (Or.inr (Or.inr rfl)) (by omega) (by omega) (by omega) (by omega) ok1.2.2.1.1 ok1.2.2.1.2 hk m1 m2) nh_Mo_tellFar ln_Mo_tellFar rfl rfl (nle rfl) (nle rfl) (nle rfl) (nle rfl) (nle rfl) ?_
            refine XW.heq (h' := sM s0.heap.size cI h κ ((mTF 3 1 (v.1.2.2.1 0) 0 ((mEcho pk κ.2.2.2.1 v.1.2.2.2 (ecG v) c0).2, v)))) rfl ?_
            refine x_aload_n C d_Mo_packet0_212 rfl ?_
            refine x_get C (G_Mo E.1) 15 (u_779 E.1) d_Mo_packet0_213 (by decide) (by rfl) (show _ = some (.int (zI ((mTF 3 1 (v.1.2.2.1 0) 0 ((mEcho pk κ.2.2.2.1 v.1.2.2.2 (ecG v) c0).2, v)).1.2.1))) from rfl) ?_
            refine x_if_ne C (tgt := 223) d_Mo_packet0_216 (by decide) (by omega) (by omega) (fun c216 => ?_) (fun c216 => ?_)
            · refine x_iconst C d_Mo_packet0_223 ?_
              exact x_zret C d_Mo_packet0_224 (by omega) (nle rfl) (nle rfl) ⟨by show _ = Sum.inl (some (Value.int (zI (okB (mPE2 pk κ.2.2.2.1 v (mEcho pk κ.2.2.2.1 v.1.2.2.2 (ecG v) c0)))))); unfold mPE2; rw [if_pos hlt]; unfold okB; first | (rw [if_pos c216]; done) | (rw [if_neg c216]; done), by show _ = sM s0.heap.size cI h κ (mPE2 pk κ.2.2.2.1 v (mEcho pk κ.2.2.2.1 v.1.2.2.2 (ecG v) c0)); unfold mPE2; rw [if_pos hlt]; first | done | rfl, rfl⟩
            · refine x_iconst C d_Mo_packet0_219 ?_
              refine x_goto C (tgt := 224) d_Mo_packet0_220 (by decide) ?_
              exact x_zret C d_Mo_packet0_224 (by omega) (nle rfl) (nle rfl) ⟨by show _ = Sum.inl (some (Value.int (zI (okB (mPE2 pk κ.2.2.2.1 v (mEcho pk κ.2.2.2.1 v.1.2.2.2 (ecG v) c0)))))); unfold mPE2; rw [if_pos hlt]; unfold okB; first | (rw [if_pos c216]; done) | (rw [if_neg c216]; done), by show _ = sM s0.heap.size cI h κ (mPE2 pk κ.2.2.2.1 v (mEcho pk κ.2.2.2.1 v.1.2.2.2 (ecG v) c0)); unfold mPE2; rw [if_pos hlt]; first | done | rfl, rfl⟩
  · refine x_istore_n C d_Mo_packet0_152 (by decide) ?_
    refine x_iload_n C d_Mo_packet0_153 rfl ?_
    refine x_if_ge C (tgt := 161) d_Mo_packet0_154 (by decide) (by omega) (by omega) (fun c154 => ?_) (fun c154 => ?_)
    · refine x_iconst C d_Mo_packet0_161 ?_
      refine x_aload_n C d_Mo_packet0_162 rfl ?_
      refine x_iconst C d_Mo_packet0_163 ?_
      refine x_aload_n C d_Mo_packet0_164 rfl ?_
      refine x_get C (G_Mo E.1) 31 (u_795 E.1) d_Mo_packet0_165 (by decide) (by rfl) (show _ = some (.int (zI v.2.2.2.2.1)) from rfl) ?_
      refine x_iconst C d_Mo_packet0_168 ?_
      refine x_isub C d_Mo_packet0_169 ?_
      refine x_callVR C (G_Mo E.1) (u_942 E.1) (u_944 E.1) (us_36 E.1) (u_945 E.1) (u_13 E.1) d_Mo_packet0_170 (c_Mo_length l E h35 hP hp z1 z2 (y := 1) (by decide) (by decide) (by omega) (by omega) (by exact ok1)) nh_Mo_length ln_Mo_length rfl rfl (nle rfl) (nle rfl) (nle rfl) (nle rfl) (nle rfl) ?_
      have hle := mLen_b pk κ.2.2.2.1 (72 + 146 * 1) (v.2.2.2.2.1 - 2) (mEcho pk κ.2.2.2.1 v.1.2.2.2 (ecG v) c0).2
      refine x_iadd C d_Mo_packet0_173 ?_
      refine x_istore_n C d_Mo_packet0_174 (by decide) ?_
      refine x_aload_n C d_Mo_packet0_175 rfl ?_
      refine x_iload_n C d_Mo_packet0_176 rfl ?_
      refine x_if_ge C (tgt := 184) d_Mo_packet0_177 (by decide) (by omega) (by omega) (fun c177 => ?_) (fun c177 => ?_)
      · refine x_iconst C d_Mo_packet0_184 ?_
        refine x_iload_n C d_Mo_packet0_185 rfl ?_
        refine x_aload_n C d_Mo_packet0_186 rfl ?_
        refine x_get C (G_Mo E.1) 25 (u_789 E.1) d_Mo_packet0_187 (by decide) (by rfl) rfl ?_
        refine x_iload_n C d_Mo_packet0_190 rfl ?_
        refine x_if_ge C (tgt := 198) d_Mo_packet0_191 (by decide) (by omega) (by omega) (fun c191 => ?_) (fun c191 => ?_)
        · refine x_iload_n C d_Mo_packet0_198 rfl ?_
          refine x_iald C d_Mo_packet0_199 (show _ = some (iA cI 4 v.1.2.2.1) from rfl) (by omega) (by omega) (by omega) ?_
          refine x_iload_n C d_Mo_packet0_200 rfl ?_
          refine x_if_ge C (tgt := 208) d_Mo_packet0_201 (by decide) (by omega) (by omega) (fun c201 => ?_) (fun c201 => ?_)
          · refine x_iload_n C d_Mo_packet0_208 rfl ?_
            refine XW.steq (st' := .int (zI (((mEcho pk κ.2.2.2.1 v.1.2.2.2 (ecG v) c0).1.toNat : Nat) : Int)) :: .int (zI (v.1.2.2.1 (mEcho pk κ.2.2.2.1 v.1.2.2.2 (ecG v) c0).1)) :: .int (zI (2 + (mLen pk κ.2.2.2.1 (72 + 146 * 1) (v.2.2.2.2.1 - 2) (mEcho pk κ.2.2.2.1 v.1.2.2.2 (ecG v) c0).2).1)) :: .int (zI 2) :: .ref (s0.heap.size + 33) :: []) (by rw [show (((mEcho pk κ.2.2.2.1 v.1.2.2.2 (ecG v) c0).1.toNat : Nat) : Int) = (mEcho pk κ.2.2.2.1 v.1.2.2.2 (ecG v) c0).1 by omega]; first | done | rfl) ?_
            have hbd := mTF_bd (w := ((mLen pk κ.2.2.2.1 (72 + 146 * 1) (v.2.2.2.2.1 - 2) (mEcho pk κ.2.2.2.1 v.1.2.2.2 (ecG v) c0).2).2, v)) ok2.2.2.1.1 ok2.2.2.1.2 2 (2 + (mLen pk κ.2.2.2.1 (72 + 146 * 1) (v.2.2.2.2.1 - 2) (mEcho pk κ.2.2.2.1 v.1.2.2.2 (ecG v) c0).2).1) (v.1.2.2.1 (mEcho pk κ.2.2.2.1 v.1.2.2.2 (ecG v) c0).1) (mEcho pk κ.2.2.2.1 v.1.2.2.2 (ecG v) c0).1.toNat
            refine x_callVR C (G_Mo E.1) (u_957 E.1) (u_959 E.1) (us_39 E.1) (u_960 E.1) (u_13 E.1) d_Mo_packet0_209 (c_Mo_tellFar l E (mEcho pk κ.2.2.2.1 v.1.2.2.2 (ecG v) c0).1.toNat (by omega) (Or.inr (Or.inl rfl)) (by omega) (by omega) (by omega) (by omega) ok2.2.2.1.1 ok2.2.2.1.2 hk m1 m2) nh_Mo_tellFar ln_Mo_tellFar rfl rfl (nle rfl) (nle rfl) (nle rfl) (nle rfl) (nle rfl) ?_
            refine XW.heq (h' := sM s0.heap.size cI h κ ((mTF 2 (2 + (mLen pk κ.2.2.2.1 (72 + 146 * 1) (v.2.2.2.2.1 - 2) (mEcho pk κ.2.2.2.1 v.1.2.2.2 (ecG v) c0).2).1) (v.1.2.2.1 (mEcho pk κ.2.2.2.1 v.1.2.2.2 (ecG v) c0).1) (mEcho pk κ.2.2.2.1 v.1.2.2.2 (ecG v) c0).1.toNat ((mLen pk κ.2.2.2.1 (72 + 146 * 1) (v.2.2.2.2.1 - 2) (mEcho pk κ.2.2.2.1 v.1.2.2.2 (ecG v) c0).2).2, v)))) rfl ?_
            refine x_aload_n C d_Mo_packet0_212 rfl ?_
            refine x_get C (G_Mo E.1) 15 (u_779 E.1) d_Mo_packet0_213 (by decide) (by rfl) (show _ = some (.int (zI ((mTF 2 (2 + (mLen pk κ.2.2.2.1 (72 + 146 * 1) (v.2.2.2.2.1 - 2) (mEcho pk κ.2.2.2.1 v.1.2.2.2 (ecG v) c0).2).1) (v.1.2.2.1 (mEcho pk κ.2.2.2.1 v.1.2.2.2 (ecG v) c0).1) (mEcho pk κ.2.2.2.1 v.1.2.2.2 (ecG v) c0).1.toNat ((mLen pk κ.2.2.2.1 (72 + 146 * 1) (v.2.2.2.2.1 - 2) (mEcho pk κ.2.2.2.1 v.1.2.2.2 (ecG v) c0).2).2, v)).1.2.1))) from rfl) ?_
            refine x_if_ne C (tgt := 223) d_Mo_packet0_216 (by decide) (by omega) (by omega) (fun c216 => ?_) (fun c216 => ?_)
            · refine x_iconst C d_Mo_packet0_223 ?_
              exact x_zret C d_Mo_packet0_224 (by omega) (nle rfl) (nle rfl) ⟨by show _ = Sum.inl (some (Value.int (zI (okB (mPE2 pk κ.2.2.2.1 v (mEcho pk κ.2.2.2.1 v.1.2.2.2 (ecG v) c0)))))); unfold mPE2; rw [if_neg hlt]; unfold okB; first | (rw [if_pos c216]; done) | (rw [if_neg c216]; done), by show _ = sM s0.heap.size cI h κ (mPE2 pk κ.2.2.2.1 v (mEcho pk κ.2.2.2.1 v.1.2.2.2 (ecG v) c0)); unfold mPE2; rw [if_neg hlt]; first | done | rfl, rfl⟩
            · refine x_iconst C d_Mo_packet0_219 ?_
              refine x_goto C (tgt := 224) d_Mo_packet0_220 (by decide) ?_
              exact x_zret C d_Mo_packet0_224 (by omega) (nle rfl) (nle rfl) ⟨by show _ = Sum.inl (some (Value.int (zI (okB (mPE2 pk κ.2.2.2.1 v (mEcho pk κ.2.2.2.1 v.1.2.2.2 (ecG v) c0)))))); unfold mPE2; rw [if_neg hlt]; unfold okB; first | (rw [if_pos c216]; done) | (rw [if_neg c216]; done), by show _ = sM s0.heap.size cI h κ (mPE2 pk κ.2.2.2.1 v (mEcho pk κ.2.2.2.1 v.1.2.2.2 (ecG v) c0)); unfold mPE2; rw [if_neg hlt]; first | done | rfl, rfl⟩
          · exfalso; omega
        · exfalso; omega
      · exfalso; omega
    · exfalso; omega
set_option maxRecDepth 100000 in
set_option maxHeartbeats 4000000 in
theorem e132_Mo_packet {a0 : Array Value} {s0 : State} {D : va_G} {cI cL : ClassId} (l : Launch) (E : a_E a0 s0 D cI cL) {p : Program} {e : Env} {R : Room} {s : State} {m : MethodId} {args : Array Value} {below : List Frame} {meth : Method} {c : Code} (C : XC s0 D cI cL p s m meth c "NarrowingPackerModel" prog_13_method_22_code 3 (some .boolean) []) (hR : R = a_rm 5 0 0) {h : AH} {K : Nat} {κ : Kp} {v : Hs × T3 × Int × Cn4} {P pk : Int → Int} (h35 : h 35 = some (iA cI 200 P)) (hP : ∀ j, 0 ≤ j → j < κ.2.2.2.1 → P j = pk j) (hp : ∀ j, 0 ≤ pk j ∧ pk j < 256) (z1 : 0 ≤ κ.2.2.2.1) (z2 : κ.2.2.2.1 ≤ 200) (hk : hOk v.1) (m1 : 0 ≤ v.2.2.1) (m2 : v.2.2.1 ≤ 120) (ch1 : 0 ≤ v.2.2.2.1) (ch2 : v.2.2.2.1 ≤ 3) (lo1 : 0 ≤ v.2.2.2.2.1) (lo2 : v.2.2.2.2.1 ≤ 200) (fa1 : 0 ≤ v.2.2.2.2.2.1) (fa2 : v.2.2.2.2.2.1 ≤ 255) (wh1 : 0 ≤ v.2.2.2.2.2.2) (wh2 : v.2.2.2.2.2.2 ≤ 3) {c0 : Cd} (ok : cOk κ.2.2.2.1 12 c0) : XW s0 D p l e R s m args below meth c (XQ s0 D 0 0 (PR (some (.int (zI (mPE pk κ.2.2.2.1 v c0).1))) (sM s0.heap.size cI h κ ((mPE pk κ.2.2.2.1 v c0).2)) K) below s) 132 [(0, .ref (s0.heap.size + 33))] [] (sM s0.heap.size cI h κ (c0, v)) K 0 0 := by
  have he := e152_Mo_packet l E C hR h35 hP hp z1 z2 hk m1 m2 ch1 ch2 lo1 lo2 fa1 fa2 wh1 wh2 ok (e := e) (args := args) (below := below) (K := K)
  subst hR
  have hn := hk.2.1
  have hst := hk.2.2.2.1
  have heG : -1 ≤ ecG v ∧ ecG v ≤ 3 := by unfold ecG; split <;> omega
  refine x_aload_n C d_Mo_packet0_132 rfl ?_
  refine x_aload_n C d_Mo_packet0_133 rfl ?_
  refine x_get C (G_Mo E.1) 30 (u_794 E.1) d_Mo_packet0_134 (by decide) (by rfl) (show _ = some (.int (zI v.2.2.2.1)) from rfl) ?_
  refine x_iconst C d_Mo_packet0_137 ?_
  refine x_icmp_ne C (tgt := 145) d_Mo_packet0_138 (by decide) (by omega) (by omega) (by omega) (by omega) (fun c138 => ?_) (fun c138 => ?_)
  · refine x_aload_n C d_Mo_packet0_145 rfl ?_
    refine x_get C (G_Mo E.1) 33 (u_797 E.1) d_Mo_packet0_146 (by decide) (by rfl) (show _ = some (.int (zI v.2.2.2.2.2.2)) from rfl) ?_
    refine XW.steq (st' := .int (zI (ecG v)) :: .ref (s0.heap.size + 33) :: []) (by first | (rw [show ecG v = -1 from if_pos (by omega)]; first | done | rfl) | (rw [show ecG v = v.2.2.2.2.2.2 from if_neg (by omega)]; first | done | rfl)) ?_
    refine x_callVR C (G_Mo E.1) (u_961 E.1) (u_963 E.1) (us_40 E.1) (u_964 E.1) (u_13 E.1) d_Mo_packet0_149 (c_Mo_echo l E h35 hP hp z1 z2 (by omega) (by omega) hst.1 hst.2 (ok.le (by omega))) nh_Mo_echo ln_Mo_echo rfl rfl (nle rfl) (nle rfl) (nle rfl) (nle rfl) (nle rfl) ?_
    exact he
  · refine x_iconst C d_Mo_packet0_141 ?_
    refine x_goto C (tgt := 149) d_Mo_packet0_142 (by decide) ?_
    refine XW.steq (st' := .int (zI (ecG v)) :: .ref (s0.heap.size + 33) :: []) (by first | (rw [show ecG v = -1 from if_pos (by omega)]; first | done | rfl) | (rw [show ecG v = v.2.2.2.2.2.2 from if_neg (by omega)]; first | done | rfl)) ?_
    refine x_callVR C (G_Mo E.1) (u_961 E.1) (u_963 E.1) (us_40 E.1) (u_964 E.1) (u_13 E.1) d_Mo_packet0_149 (c_Mo_echo l E h35 hP hp z1 z2 (by omega) (by omega) hst.1 hst.2 (ok.le (by omega))) nh_Mo_echo ln_Mo_echo rfl rfl (nle rfl) (nle rfl) (nle rfl) (nle rfl) (nle rfl) ?_
    exact he
set_option maxRecDepth 100000 in
set_option maxHeartbeats 4000000 in
theorem c_Mo_packet0 {a0 : Array Value} {s0 : State} {D : va_G} {cI cL : ClassId} (l : Launch) (E : a_E a0 s0 D cI cL) {h : AH} {K : Nat} {κ : Kp} {v : Hs × T3 × Int × Cn4} {P pk : Int → Int} (h35 : h 35 = some (iA cI 200 P)) (hP : ∀ j, 0 ≤ j → j < κ.2.2.2.1 → P j = pk j) (hp : ∀ j, 0 ≤ pk j ∧ pk j < 256) (z1 : 0 ≤ κ.2.2.2.1) (z2 : κ.2.2.2.1 ≤ 200) (hk : hOk v.1) (m1 : 0 ≤ v.2.2.1) (m2 : v.2.2.1 ≤ 120) (ch1 : 0 ≤ v.2.2.2.1) (ch2 : v.2.2.2.1 ≤ 3) (lo1 : 0 ≤ v.2.2.2.2.1) (lo2 : v.2.2.2.2.1 ≤ 200) (fa1 : 0 ≤ v.2.2.2.2.2.1) (fa2 : v.2.2.2.2.2.1 ≤ 255) (wh1 : 0 ≤ v.2.2.2.2.2.2) (wh2 : v.2.2.2.2.2.2 ≤ 3) {c0 : Cd} (far : (mBit pk κ.2.2.2.1 c0 v.1.2.2.2 (ne0 v.2.2.2.1)).1 ≠ 0 → v.2.2.2.2.2.1 ≤ 128) (ok : cOk κ.2.2.2.1 21 c0) : XM l s0 D y_Mo_packet0 prog_13_method_22_code 3 (some .boolean) 5 0 0 [.ref (s0.heap.size + 33)] (sM s0.heap.size cI h κ (c0, v)) (K) (PR (some (.int (zI (mPkt pk κ.2.2.2.1 v c0).1))) (sM s0.heap.size cI h κ ((mPkt pk κ.2.2.2.1 v c0).2)) K) := by
  refine XM.of (cI := cI) (cL := cL) (own := "NarrowingPackerModel") (by decide) rfl E.2 (nle rfl) ?_
  intro p e s m below meth c C hn
  have hn := hk.2.1
  have hst := hk.2.2.2.1
  have ok1 : cOk κ.2.2.2.1 20 (mBit pk κ.2.2.2.1 c0 v.1.2.2.2 (ne0 v.2.2.2.1)).2 := mBit_ok hp _ (ne0_b _) ok
  have ok2 : cOk κ.2.2.2.1 19 (mBit pk κ.2.2.2.1 (mBit pk κ.2.2.2.1 c0 v.1.2.2.2 (ne0 v.2.2.2.1)).2 (12 + v.1.2.2.2) (gt1 v.2.2.2.1)).2 := mBit_ok hp _ (gt1_b _) ok1
  refine x_aload_n C d_Mo_packet0_0 rfl ?_
  refine x_aload_n C d_Mo_packet0_1 rfl ?_
  refine x_get C (G_Mo E.1) 23 (u_787 E.1) d_Mo_packet0_2 (by decide) (by rfl) (show _ = some (.int (zI v.1.2.2.2)) from rfl) ?_
  refine x_aload_n C d_Mo_packet0_5 rfl ?_
  refine x_get C (G_Mo E.1) 30 (u_794 E.1) d_Mo_packet0_6 (by decide) (by rfl) (show _ = some (.int (zI v.2.2.2.1)) from rfl) ?_
  refine x_if_ne C (tgt := 16) d_Mo_packet0_9 (by decide) (by omega) (by omega) (fun c9 => ?_) (fun c9 => ?_)
  · refine x_iconst C d_Mo_packet0_16 ?_
    refine XW.steq (st' := .int (zI (ne0 v.2.2.2.1)) :: .int (zI (v.1.2.2.2)) :: .ref (s0.heap.size + 33) :: []) (by first | (rw [show ne0 v.2.2.2.1 = 0 by unfold ne0; split <;> omega]; first | done | rfl) | (rw [show ne0 v.2.2.2.1 = 1 by unfold ne0; split <;> omega]; first | done | rfl)) ?_
    refine x_callVR C (G_Mo E.1) (u_903 E.1) (u_905 E.1) (us_27 E.1) (u_906 E.1) (u_13 E.1) d_Mo_packet0_17 (c_Mo_bit l E h35 hP hp z1 z2 (ok.le (by omega)) (fr := v.1.2.2.2) (a := v.1.2.2.2) (Or.inr (rg_st (B := 0) (by omega) (by omega))) (ne0_b v.2.2.2.1)) nh_Mo_bit ln_Mo_bit rfl rfl (nle rfl) (nle rfl) (nle rfl) (nle rfl) (nle rfl) ?_
    have hb0 := mBit_01 (pk := pk) (sz := κ.2.2.2.1) (c := c0) (a := v.1.2.2.2) (ne0_b v.2.2.2.1)
    refine x_if_ne C (tgt := 48) d_Mo_packet0_20 (by decide) (by omega) (by omega) (fun c20 => ?_) (fun c20 => ?_)
    · refine x_aload_n C d_Mo_packet0_48 rfl ?_
      refine x_bipush C d_Mo_packet0_49 (by decide) ?_
      refine x_aload_n C d_Mo_packet0_51 rfl ?_
      refine x_get C (G_Mo E.1) 23 (u_787 E.1) d_Mo_packet0_52 (by decide) (by rfl) (show _ = some (.int (zI v.1.2.2.2)) from rfl) ?_
      refine x_iadd C d_Mo_packet0_55 ?_
      refine x_aload_n C d_Mo_packet0_56 rfl ?_
      refine x_get C (G_Mo E.1) 30 (u_794 E.1) d_Mo_packet0_57 (by decide) (by rfl) (show _ = some (.int (zI v.2.2.2.1)) from rfl) ?_
      refine x_iconst C d_Mo_packet0_60 ?_
      refine x_icmp_le C (tgt := 68) d_Mo_packet0_61 (by decide) (by omega) (by omega) (by omega) (by omega) (fun c61 => ?_) (fun c61 => ?_)
      · refine x_iconst C d_Mo_packet0_68 ?_
        refine XW.steq (st' := .int (zI (gt1 v.2.2.2.1)) :: .int (zI (12 + v.1.2.2.2)) :: .ref (s0.heap.size + 33) :: []) (by first | (rw [show gt1 v.2.2.2.1 = 0 by unfold gt1; split <;> omega]; first | done | rfl) | (rw [show gt1 v.2.2.2.1 = 1 by unfold gt1; split <;> omega]; first | done | rfl)) ?_
        refine x_callVR C (G_Mo E.1) (u_903 E.1) (u_905 E.1) (us_27 E.1) (u_906 E.1) (u_13 E.1) d_Mo_packet0_69 (c_Mo_bit l E h35 hP hp z1 z2 (ok1.le (by omega)) (fr := 12 + v.1.2.2.2) (a := 12 + v.1.2.2.2) (Or.inr (rg_st (B := 0) (by omega) (by omega))) (gt1_b v.2.2.2.1)) nh_Mo_bit ln_Mo_bit rfl rfl (nle rfl) (nle rfl) (nle rfl) (nle rfl) (nle rfl) ?_
        have hb12 := mBit_01 (pk := pk) (sz := κ.2.2.2.1) (c := (mBit pk κ.2.2.2.1 c0 v.1.2.2.2 (ne0 v.2.2.2.1)).2) (a := 12 + v.1.2.2.2) (gt1_b v.2.2.2.1)
        refine x_if_ne C (tgt := 132) d_Mo_packet0_72 (by decide) (by omega) (by omega) (fun c72 => ?_) (fun c72 => ?_)
        · rw [show mPkt pk κ.2.2.2.1 v c0 = mPE pk κ.2.2.2.1 v (mBit pk κ.2.2.2.1 (mBit pk κ.2.2.2.1 c0 v.1.2.2.2 (ne0 v.2.2.2.1)).2 (12 + v.1.2.2.2) (gt1 v.2.2.2.1)).2 by unfold mPkt; rw [if_neg c20, if_neg c72]]
          exact e132_Mo_packet l E C rfl h35 hP hp z1 z2 hk m1 m2 ch1 ch2 lo1 lo2 fa1 fa2 wh1 wh2 (ok2.le (by omega))
        · rw [show mPkt pk κ.2.2.2.1 v c0 = mPM pk κ.2.2.2.1 v (mBit pk κ.2.2.2.1 (mBit pk κ.2.2.2.1 c0 v.1.2.2.2 (ne0 v.2.2.2.1)).2 (12 + v.1.2.2.2) (gt1 v.2.2.2.1)).2 by unfold mPkt; rw [if_neg c20, if_pos c72]]
          exact e75_Mo_packet l E C rfl h35 hP hp z1 z2 hk m1 m2 ch1 ch2 lo1 lo2 fa1 fa2 wh1 wh2 (far c20) (ok2.le (by omega))
      · refine x_iconst C d_Mo_packet0_64 ?_
        refine x_goto C (tgt := 69) d_Mo_packet0_65 (by decide) ?_
        refine XW.steq (st' := .int (zI (gt1 v.2.2.2.1)) :: .int (zI (12 + v.1.2.2.2)) :: .ref (s0.heap.size + 33) :: []) (by first | (rw [show gt1 v.2.2.2.1 = 0 by unfold gt1; split <;> omega]; first | done | rfl) | (rw [show gt1 v.2.2.2.1 = 1 by unfold gt1; split <;> omega]; first | done | rfl)) ?_
        refine x_callVR C (G_Mo E.1) (u_903 E.1) (u_905 E.1) (us_27 E.1) (u_906 E.1) (u_13 E.1) d_Mo_packet0_69 (c_Mo_bit l E h35 hP hp z1 z2 (ok1.le (by omega)) (fr := 12 + v.1.2.2.2) (a := 12 + v.1.2.2.2) (Or.inr (rg_st (B := 0) (by omega) (by omega))) (gt1_b v.2.2.2.1)) nh_Mo_bit ln_Mo_bit rfl rfl (nle rfl) (nle rfl) (nle rfl) (nle rfl) (nle rfl) ?_
        have hb12 := mBit_01 (pk := pk) (sz := κ.2.2.2.1) (c := (mBit pk κ.2.2.2.1 c0 v.1.2.2.2 (ne0 v.2.2.2.1)).2) (a := 12 + v.1.2.2.2) (gt1_b v.2.2.2.1)
        refine x_if_ne C (tgt := 132) d_Mo_packet0_72 (by decide) (by omega) (by omega) (fun c72 => ?_) (fun c72 => ?_)
        · rw [show mPkt pk κ.2.2.2.1 v c0 = mPE pk κ.2.2.2.1 v (mBit pk κ.2.2.2.1 (mBit pk κ.2.2.2.1 c0 v.1.2.2.2 (ne0 v.2.2.2.1)).2 (12 + v.1.2.2.2) (gt1 v.2.2.2.1)).2 by unfold mPkt; rw [if_neg c20, if_neg c72]]
          exact e132_Mo_packet l E C rfl h35 hP hp z1 z2 hk m1 m2 ch1 ch2 lo1 lo2 fa1 fa2 wh1 wh2 (ok2.le (by omega))
        · rw [show mPkt pk κ.2.2.2.1 v c0 = mPM pk κ.2.2.2.1 v (mBit pk κ.2.2.2.1 (mBit pk κ.2.2.2.1 c0 v.1.2.2.2 (ne0 v.2.2.2.1)).2 (12 + v.1.2.2.2) (gt1 v.2.2.2.1)).2 by unfold mPkt; rw [if_neg c20, if_pos c72]]
          exact e75_Mo_packet l E C rfl h35 hP hp z1 z2 hk m1 m2 ch1 ch2 lo1 lo2 fa1 fa2 wh1 wh2 (far c20) (ok2.le (by omega))
    · rw [show mPkt pk κ.2.2.2.1 v c0 = mPL pk κ.2.2.2.1 v (mBit pk κ.2.2.2.1 c0 v.1.2.2.2 (ne0 v.2.2.2.1)).2 by unfold mPkt; rw [if_pos c20]]
      exact e23_Mo_packet l E C rfl h35 hP hp z1 z2 hk m1 m2 ch1 ch2 lo1 lo2 fa1 fa2 wh1 wh2 (ok1.le (by omega))
  · refine x_iconst C d_Mo_packet0_12 ?_
    refine x_goto C (tgt := 17) d_Mo_packet0_13 (by decide) ?_
    refine XW.steq (st' := .int (zI (ne0 v.2.2.2.1)) :: .int (zI (v.1.2.2.2)) :: .ref (s0.heap.size + 33) :: []) (by first | (rw [show ne0 v.2.2.2.1 = 0 by unfold ne0; split <;> omega]; first | done | rfl) | (rw [show ne0 v.2.2.2.1 = 1 by unfold ne0; split <;> omega]; first | done | rfl)) ?_
    refine x_callVR C (G_Mo E.1) (u_903 E.1) (u_905 E.1) (us_27 E.1) (u_906 E.1) (u_13 E.1) d_Mo_packet0_17 (c_Mo_bit l E h35 hP hp z1 z2 (ok.le (by omega)) (fr := v.1.2.2.2) (a := v.1.2.2.2) (Or.inr (rg_st (B := 0) (by omega) (by omega))) (ne0_b v.2.2.2.1)) nh_Mo_bit ln_Mo_bit rfl rfl (nle rfl) (nle rfl) (nle rfl) (nle rfl) (nle rfl) ?_
    have hb0 := mBit_01 (pk := pk) (sz := κ.2.2.2.1) (c := c0) (a := v.1.2.2.2) (ne0_b v.2.2.2.1)
    refine x_if_ne C (tgt := 48) d_Mo_packet0_20 (by decide) (by omega) (by omega) (fun c20 => ?_) (fun c20 => ?_)
    · refine x_aload_n C d_Mo_packet0_48 rfl ?_
      refine x_bipush C d_Mo_packet0_49 (by decide) ?_
      refine x_aload_n C d_Mo_packet0_51 rfl ?_
      refine x_get C (G_Mo E.1) 23 (u_787 E.1) d_Mo_packet0_52 (by decide) (by rfl) (show _ = some (.int (zI v.1.2.2.2)) from rfl) ?_
      refine x_iadd C d_Mo_packet0_55 ?_
      refine x_aload_n C d_Mo_packet0_56 rfl ?_
      refine x_get C (G_Mo E.1) 30 (u_794 E.1) d_Mo_packet0_57 (by decide) (by rfl) (show _ = some (.int (zI v.2.2.2.1)) from rfl) ?_
      refine x_iconst C d_Mo_packet0_60 ?_
      refine x_icmp_le C (tgt := 68) d_Mo_packet0_61 (by decide) (by omega) (by omega) (by omega) (by omega) (fun c61 => ?_) (fun c61 => ?_)
      · refine x_iconst C d_Mo_packet0_68 ?_
        refine XW.steq (st' := .int (zI (gt1 v.2.2.2.1)) :: .int (zI (12 + v.1.2.2.2)) :: .ref (s0.heap.size + 33) :: []) (by first | (rw [show gt1 v.2.2.2.1 = 0 by unfold gt1; split <;> omega]; first | done | rfl) | (rw [show gt1 v.2.2.2.1 = 1 by unfold gt1; split <;> omega]; first | done | rfl)) ?_
        refine x_callVR C (G_Mo E.1) (u_903 E.1) (u_905 E.1) (us_27 E.1) (u_906 E.1) (u_13 E.1) d_Mo_packet0_69 (c_Mo_bit l E h35 hP hp z1 z2 (ok1.le (by omega)) (fr := 12 + v.1.2.2.2) (a := 12 + v.1.2.2.2) (Or.inr (rg_st (B := 0) (by omega) (by omega))) (gt1_b v.2.2.2.1)) nh_Mo_bit ln_Mo_bit rfl rfl (nle rfl) (nle rfl) (nle rfl) (nle rfl) (nle rfl) ?_
        have hb12 := mBit_01 (pk := pk) (sz := κ.2.2.2.1) (c := (mBit pk κ.2.2.2.1 c0 v.1.2.2.2 (ne0 v.2.2.2.1)).2) (a := 12 + v.1.2.2.2) (gt1_b v.2.2.2.1)
        refine x_if_ne C (tgt := 132) d_Mo_packet0_72 (by decide) (by omega) (by omega) (fun c72 => ?_) (fun c72 => ?_)
        · rw [show mPkt pk κ.2.2.2.1 v c0 = mPE pk κ.2.2.2.1 v (mBit pk κ.2.2.2.1 (mBit pk κ.2.2.2.1 c0 v.1.2.2.2 (ne0 v.2.2.2.1)).2 (12 + v.1.2.2.2) (gt1 v.2.2.2.1)).2 by unfold mPkt; rw [if_neg c20, if_neg c72]]
          exact e132_Mo_packet l E C rfl h35 hP hp z1 z2 hk m1 m2 ch1 ch2 lo1 lo2 fa1 fa2 wh1 wh2 (ok2.le (by omega))
        · rw [show mPkt pk κ.2.2.2.1 v c0 = mPM pk κ.2.2.2.1 v (mBit pk κ.2.2.2.1 (mBit pk κ.2.2.2.1 c0 v.1.2.2.2 (ne0 v.2.2.2.1)).2 (12 + v.1.2.2.2) (gt1 v.2.2.2.1)).2 by unfold mPkt; rw [if_neg c20, if_pos c72]]
          exact e75_Mo_packet l E C rfl h35 hP hp z1 z2 hk m1 m2 ch1 ch2 lo1 lo2 fa1 fa2 wh1 wh2 (far c20) (ok2.le (by omega))
      · refine x_iconst C d_Mo_packet0_64 ?_
        refine x_goto C (tgt := 69) d_Mo_packet0_65 (by decide) ?_
        refine XW.steq (st' := .int (zI (gt1 v.2.2.2.1)) :: .int (zI (12 + v.1.2.2.2)) :: .ref (s0.heap.size + 33) :: []) (by first | (rw [show gt1 v.2.2.2.1 = 0 by unfold gt1; split <;> omega]; first | done | rfl) | (rw [show gt1 v.2.2.2.1 = 1 by unfold gt1; split <;> omega]; first | done | rfl)) ?_
        refine x_callVR C (G_Mo E.1) (u_903 E.1) (u_905 E.1) (us_27 E.1) (u_906 E.1) (u_13 E.1) d_Mo_packet0_69 (c_Mo_bit l E h35 hP hp z1 z2 (ok1.le (by omega)) (fr := 12 + v.1.2.2.2) (a := 12 + v.1.2.2.2) (Or.inr (rg_st (B := 0) (by omega) (by omega))) (gt1_b v.2.2.2.1)) nh_Mo_bit ln_Mo_bit rfl rfl (nle rfl) (nle rfl) (nle rfl) (nle rfl) (nle rfl) ?_
        have hb12 := mBit_01 (pk := pk) (sz := κ.2.2.2.1) (c := (mBit pk κ.2.2.2.1 c0 v.1.2.2.2 (ne0 v.2.2.2.1)).2) (a := 12 + v.1.2.2.2) (gt1_b v.2.2.2.1)
        refine x_if_ne C (tgt := 132) d_Mo_packet0_72 (by decide) (by omega) (by omega) (fun c72 => ?_) (fun c72 => ?_)
        · rw [show mPkt pk κ.2.2.2.1 v c0 = mPE pk κ.2.2.2.1 v (mBit pk κ.2.2.2.1 (mBit pk κ.2.2.2.1 c0 v.1.2.2.2 (ne0 v.2.2.2.1)).2 (12 + v.1.2.2.2) (gt1 v.2.2.2.1)).2 by unfold mPkt; rw [if_neg c20, if_neg c72]]
          exact e132_Mo_packet l E C rfl h35 hP hp z1 z2 hk m1 m2 ch1 ch2 lo1 lo2 fa1 fa2 wh1 wh2 (ok2.le (by omega))
        · rw [show mPkt pk κ.2.2.2.1 v c0 = mPM pk κ.2.2.2.1 v (mBit pk κ.2.2.2.1 (mBit pk κ.2.2.2.1 c0 v.1.2.2.2 (ne0 v.2.2.2.1)).2 (12 + v.1.2.2.2) (gt1 v.2.2.2.1)).2 by unfold mPkt; rw [if_neg c20, if_pos c72]]
          exact e75_Mo_packet l E C rfl h35 hP hp z1 z2 hk m1 m2 ch1 ch2 lo1 lo2 fa1 fa2 wh1 wh2 (far c20) (ok2.le (by omega))
    · rw [show mPkt pk κ.2.2.2.1 v c0 = mPL pk κ.2.2.2.1 v (mBit pk κ.2.2.2.1 c0 v.1.2.2.2 (ne0 v.2.2.2.1)).2 by unfold mPkt; rw [if_pos c20]]
      exact e23_Mo_packet l E C rfl h35 hP hp z1 z2 hk m1 m2 ch1 ch2 lo1 lo2 fa1 fa2 wh1 wh2 (ok1.le (by omega))

