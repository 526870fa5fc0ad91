/-! unpacking -/
def PRn (x : Rs) (f : De → AH) (K : Nat) : AO → AH → Nat → Prop := fun o h' K' =>
  (∃ d', x = .inr d' ∧ o = .inl none ∧ h' = f d' ∧ K' = K) ∨ (∃ b, x = .inl b ∧ o = .inr (exn b) ∧ K' = K + 1 ∧ ∃ d', h' = f d')
theorem PRn.ret {x : Rs} {f : De → AH} {K : Nat} {v : Option Value} {h' : AH} {K' : Nat} (q : PRn x f K (.inl v) h' K') : ∃ d', x = .inr d' ∧ v = none ∧ h' = f d' ∧ K' = K := by
  rcases q with ⟨d', q1, q2, q3, q4⟩ | ⟨b, q1, q2, q3⟩
  · cases q2; exact ⟨d', q1, rfl, q3, q4⟩
  · cases q2
theorem PRn.thr {x : Rs} {f : De → AH} {K : Nat} {Cn : String} {h' : AH} {K' : Nat} (q : PRn x f K (.inr Cn) h' K') : ∃ b, x = .inl b ∧ Cn = exn b ∧ K' = K + 1 ∧ ∃ d', h' = f d' := by
  rcases q with ⟨d', q1, q2, q3, q4⟩ | ⟨b, q1, q2, q3⟩
  · cases q2
  · cases q2; exact ⟨b, q1, rfl, q3⟩
def cd4 (pk : Int → Int) : Int := (((0 * 256 + pk 0) * 256 + pk 1) * 256 + pk 2) * 256 + pk 3
def rStart (pk : Int → Int) (sz : Int) : Rs := if sz < 4 then .inl 1 else if 4294967295 ≤ cd4 pk then .inl 2 else .inr (fun _ => 1024, 4294967295, cd4 pk, 4)
theorem cd4_b {pk : Int → Int} (hp : ∀ j, 0 ≤ pk j ∧ pk j < 256) : 0 ≤ cd4 pk ∧ cd4 pk < 4294967296 := by
  have h0 := hp 0
  have h1 := hp 1
  have h2 := hp 2
  have h3 := hp 3
  unfold cd4
  omega
theorem xOk_start {pk : Int → Int} {sz : Int} (hp : ∀ j, 0 ≤ pk j ∧ pk j < 256) : xOk sz (rStart pk sz) := by
  have := cd4_b hp
  unfold rStart
  split
  · trivial
  · split
    · trivial
    · exact ⟨fun _ => by show (0 : Int) ≤ 1024 ∧ (1024 : Int) ≤ 2048; omega, by show 0 ≤ cd4 pk; omega, by show cd4 pk < 4294967295; omega, by show (4294967295 : Int) < 4294967296; omega, by show (0 : Int) ≤ 4; omega, by show 4 ≤ sz; omega⟩
def rEnd (sz : Int) (d : De) : Rs := if d.2.2.2 < sz ∨ d.2.2.1 ≠ 0 then .inl 2 else .inr d
def rTold (n : Int) (q : Pk) : Int := if q.1 ≠ 0 ∧ n < q.2.2.1 then 3 else if 120 - n < q.2.1 then 4 else 0
def rLoop (pk : Int → Int) (sz : Int) : Nat → Hs → De → Hs × Rs
  | 0, t, d => (t, .inr d)
  | r + 1, t, d =>
    match (rPkt pk sz t (.inr d)).2 with
    | .inl b => (t, .inl b)
    | .inr d' => if (rPkt pk sz t (.inr d)).1.1 = 4 then (t, .inr d') else if rTold t.2.1 (rPkt pk sz t (.inr d)).1 ≠ 0 then (t, .inl (rTold t.2.1 (rPkt pk sz t (.inr d)).1)) else rLoop pk sz r (hTell t (rPkt pk sz t (.inr d)).1) d'
theorem rLoop_bad {pk : Int → Int} {sz b : Int} {r : Nat} {t : Hs} {d : De} (h : (rPkt pk sz t (.inr d)).2 = .inl b) : rLoop pk sz (r + 1) t d = (t, .inl b) := by
  simp only [rLoop, h]
theorem rLoop_go {pk : Int → Int} {sz : Int} {r : Nat} {t : Hs} {d d' : De} (h : (rPkt pk sz t (.inr d)).2 = .inr d') : rLoop pk sz (r + 1) t d = if (rPkt pk sz t (.inr d)).1.1 = 4 then (t, .inr d') else if rTold t.2.1 (rPkt pk sz t (.inr d)).1 ≠ 0 then (t, .inl (rTold t.2.1 (rPkt pk sz t (.inr d)).1)) else rLoop pk sz r (hTell t (rPkt pk sz t (.inr d)).1) d' := by
  simp only [rLoop, h]
def rFin (sz : Int) : Hs × Rs → Hs × Rs
  | (t, .inl b) => (t, .inl b)
  | (t, .inr d) => (t, rEnd sz d)
def rUnpack (pk : Int → Int) (sz : Int) (b0 : Int → Int) : Hs × Rs :=
  match rStart pk sz with
  | .inl b => ((b0, 0, fun _ => 1, 0), .inl b)
  | .inr d => rFin sz (rLoop pk sz 121 (b0, 0, fun _ => 1, 0) d)
theorem rUnpack_bad {pk : Int → Int} {sz b : Int} {b0 : Int → Int} (h : rStart pk sz = .inl b) : rUnpack pk sz b0 = ((b0, 0, fun _ => 1, 0), .inl b) := by simp only [rUnpack, h]
theorem rUnpack_go {pk : Int → Int} {sz : Int} {b0 : Int → Int} {d : De} (h : rStart pk sz = .inr d) : rUnpack pk sz b0 = rFin sz (rLoop pk sz 121 (b0, 0, fun _ => 1, 0) d) := by simp only [rUnpack, h]
/-- what is read is a packet -/
def pkOk (bk : Int → Int) (q : Pk) : Prop :=
  (∃ li, q = (0, 1, 0, 0, li) ∧ 0 ≤ li ∧ li < 256) ∨ q = (4, 0, 0, 0, 0) ∨ (∃ ln ds, q = (1, ln, ds, 0, 0) ∧ 2 ≤ ln ∧ ln ≤ 145 ∧ 1 ≤ ds ∧ ds ≤ 1000) ∨ (∃ ln ec, q = (2, ln, bk ec, ec, 0) ∧ 2 ≤ ln ∧ ln ≤ 145 ∧ 0 ≤ ec ∧ ec ≤ 3) ∨ q = (3, 1, bk 0, 0, 0)
theorem rLit_b (pk : Int → Int) (sz : Int) : ∀ (k : Nat) (pl ly m as : Int) (x : Rs), m * 2 ^ k ≤ (rLit pk sz k pl ly m as x).1 ∧ (rLit pk sz k pl ly m as x).1 < (m + 1) * 2 ^ k := by
  intro k
  induction k with
  | zero => intro pl ly m as x; show m * 2 ^ 0 ≤ m ∧ m < (m + 1) * 2 ^ 0; omega
  | succ k ih =>
    intro pl ly m as x
    generalize hA : pl + treeZ as (bitZ ly k) * 256 + m = A
    have h1 := ih pl ly (2 * m + (rBit pk sz A x).1) (sameZ as (rBit pk sz A x).1 (bitZ ly k)) (rBit pk sz A x).2
    have hb := rBit_01 pk sz A x
    have h2 : (0 : Int) ≤ 2 ^ k := Int.le_of_lt (Int.pow_pos (by decide))
    have e1 : m * 2 ^ (k + 1) = (2 * m) * 2 ^ k := by rw [Int.pow_succ, Int.mul_comm (2 ^ k) 2, ← Int.mul_assoc, Int.mul_comm m 2]
    have e2 : (m + 1) * 2 ^ (k + 1) = (2 * (m + 1)) * 2 ^ k := by rw [Int.pow_succ, Int.mul_comm (2 ^ k) 2, ← Int.mul_assoc, Int.mul_comm (m + 1) 2]
    have e3 := Int.mul_le_mul_of_nonneg_right (show 2 * m ≤ 2 * m + (rBit pk sz A x).1 by omega) h2
    have e4 := Int.mul_le_mul_of_nonneg_right (show 2 * m + (rBit pk sz A x).1 + 1 ≤ 2 * (m + 1) by omega) h2
    unfold rLit
    rw [hA]
    omega
theorem rMatch_ok (pk : Int → Int) (sz : Int) (bk : Int → Int) (x : Rs) : pkOk bk (rMatch pk sz x).1 := by
  unfold rMatch
  split
  · exact Or.inr (Or.inl rfl)
  · split
    · exact Or.inr (Or.inl rfl)
    · rename_i h1 h2
      have hs := rTree_b pk sz 4 (364 + min (rLen pk sz 72 x).1 3 * 16) 1 (rLen pk sz 72 x).2
      have hl := rLen_b pk sz 72 x
      have hs2 : 16 ≤ (rSlot pk sz x).1 ∧ (rSlot pk sz x).1 < 32 := by
        have : 1 * 2 ^ 4 ≤ (rSlot pk sz x).1 ∧ (rSlot pk sz x).1 < (1 + 1) * 2 ^ 4 := hs
        omega
      have hd := rDist_b pk sz (slot := (rSlot pk sz x).1 - 16) (by omega) (by omega) (rSlot pk sz x).2
      exact Or.inr (Or.inr (Or.inl ⟨_, _, rfl, by omega, by omega, hd.1, hd.2⟩))
theorem rEc_ok (pk : Int → Int) (sz : Int) (bk : Int → Int) {k : Int} (k1 : 0 ≤ k) (k2 : k ≤ 3) (x : Rs) : pkOk bk (rEc pk sz bk k x).1 := by
  have hl := rLen_b pk sz 218 x
  exact Or.inr (Or.inr (Or.inr (Or.inl ⟨_, _, rfl, by omega, by omega, k1, k2⟩)))
theorem rPkt_ok (pk : Int → Int) (sz : Int) (t : Hs) (x : Rs) : pkOk t.2.2.1 (rPkt pk sz t x).1 := by
  unfold rPkt
  split
  · have h1 := rLit_b pk sz 8 (hPlace t) (hBefore t (t.2.2.1 0)) 1 (hAs t) (rBit pk sz t.2.2.2 x).2
    refine Or.inl ⟨_, rfl, ?_, ?_⟩
    · show 0 ≤ (rLit _ _ _ _ _ _ _ _).1 - 256; omega
    · show (rLit _ _ _ _ _ _ _ _).1 - 256 < 256; omega
  · split
    · exact rMatch_ok pk sz _ _
    · unfold rRep
      split
      · split
        · exact Or.inr (Or.inr (Or.inr (Or.inr rfl)))
        · exact rEc_ok pk sz _ (by decide) (by decide) _
      · split
        · exact rEc_ok pk sz _ (by decide) (by decide) _
        · have := rBit_01 pk sz (60 + t.2.2.2) (rBit pk sz (48 + t.2.2.2) (rBit pk sz (24 + t.2.2.2) (rBit pk sz (12 + t.2.2.2) (rBit pk sz t.2.2.2 x).2).2).2).2
          exact rEc_ok pk sz _ (by omega) (by omega) _
/-- what may be told can be told -/
theorem hOk_read {t : Hs} (hk : hOk t) {q : Pk} (h : pkOk t.2.2.1 q) (h4 : q.1 ≠ 4) (ht : rTold t.2.1 q = 0) : hOk (hTell t q) ∧ t.2.1 + 1 ≤ (hTell t q).2.1 := by
  have hn := hk.2.1
  unfold rTold at ht
  split at ht
  · cases ht
  · rename_i g1
    split at ht
    · cases ht
    · rename_i g2
      rcases h with ⟨li, rfl, b1, b2⟩ | rfl | ⟨ln, ds, rfl, l1, l2, d1, d2⟩ | ⟨ln, ec, rfl, l1, l2, e1, e2⟩ | rfl
      · have g2 : ¬ 120 - t.2.1 < 1 := g2
        exact ⟨hOk_tell0 hk b1 b2 (by omega), by show t.2.1 + 1 ≤ t.2.1 + 1; omega⟩
      · exact absurd rfl h4
      · have g1 : ¬ ((1 : Int) ≠ 0 ∧ t.2.1 < ds) := g1
        have g2 : ¬ 120 - t.2.1 < ln := g2
        exact ⟨hOk_tellC hk (k := 1) (by omega) (by omega) (by omega) (by omega) d1 (by omega), by show t.2.1 + 1 ≤ t.2.1 + ln; omega⟩
      · have g1 : ¬ ((2 : Int) ≠ 0 ∧ t.2.1 < t.2.2.1 ec) := g1
        have g2 : ¬ 120 - t.2.1 < ln := g2
        have := hk.2.2.1 ec
        exact ⟨hOk_tellC hk (k := 2) (by omega) (by omega) (by omega) (by omega) (by omega) (by omega), by show t.2.1 + 1 ≤ t.2.1 + ln; omega⟩
      · have g1 : ¬ ((3 : Int) ≠ 0 ∧ t.2.1 < t.2.2.1 0) := g1
        have g2 : ¬ 120 - t.2.1 < 1 := g2
        have := hk.2.2.1 0
        exact ⟨hOk_tellC hk (k := 3) (by omega) (fun _ => rfl) (by omega) (by omega) (by omega) (by omega), by show t.2.1 + 1 ≤ t.2.1 + 1; omega⟩
theorem hOk_loop {pk : Int → Int} {sz : Int} : ∀ (r : Nat) (t : Hs) (d : De), hOk t → hOk (rLoop pk sz r t d).1 := by
  intro r
  induction r with
  | zero => intro t d h; exact h
  | succ r ih =>
    intro t d h
    cases hx : (rPkt pk sz t (.inr d)).2 with
    | inl b => rw [rLoop_bad hx]; exact h
    | inr d' =>
      rw [rLoop_go hx]
      split
      · exact h
      · split
        · exact h
        · rename_i g1 g2
          exact ih _ _ (hOk_read h (rPkt_ok pk sz t _) g1 (by omega)).1
theorem rFin_1 (sz : Int) (x : Hs × Rs) : (rFin sz x).1 = x.1 := by
  obtain ⟨t, y⟩ := x
  cases y <;> rfl
theorem hOk_unpack {pk : Int → Int} {sz : Int} {b0 : Int → Int} (hb : ∀ j, 0 ≤ b0 j ∧ b0 j < 256) : hOk (rUnpack pk sz b0).1 := by
  cases hx : rStart pk sz with
  | inl b => rw [rUnpack_bad hx]; exact hOk0 hb
  | inr d => rw [rUnpack_go hx, rFin_1]; exact hOk_loop _ _ _ (hOk0 hb)
def sU (b : Nat) (cI : ClassId) (h : AH) (t : Hs) (d : De) (pa : va_E) : AH := sF b cI (a_up (sH b cI h t) 16 pa) d
def sB (b : Nat) (cI : ClassId) (h : AH) (sz : Int) (pk : Int → Int) : AH := a_up (a_up h 31 (oBy b 32 sz)) 32 (iA cI 200 pk)
theorem sU_B (b : Nat) (cI : ClassId) (h : AH) (t : Hs) (d : De) (pa : va_E) (sz : Int) (pk : Int → Int) : sF b cI (sB b cI (a_up (sH b cI h t) 16 pa) sz pk) d = sU b cI (sB b cI h sz pk) t d pa := by
  funext q
  by_cases q1 : q = 31
  · subst q1; rfl
  · by_cases q2 : q = 32
    · subst q2; rfl
    · simp only [sU, sF, sH, sB, a_up, beq_f q1, beq_f q2, cond_false]
theorem sU_H (b : Nat) (cI : ClassId) (h : AH) (t t' : Hs) (d : De) (pa : va_E) : sH b cI (sU b cI h t d pa) t' = sU b cI h t' d pa :=
  (sH_eq rfl rfl rfl rfl (fun q q1 q2 q3 q4 => by simp only [sU, sF, sH, a_up, beq_f q1, beq_f q2, beq_f q3, beq_f q4, cond_false])).symm
theorem sU_P (b : Nat) (cI : ClassId) (h : AH) (t : Hs) (d : De) (pa pa' : va_E) : a_up (sU b cI h t d pa) 16 pa' = sU b cI h t d pa' := by
  funext q
  by_cases q1 : q = 16
  · subst q1; rfl
  · simp only [sU, sF, sH, a_up, beq_f q1, cond_false]
set_option maxRecDepth 100000 in
set_option maxHeartbeats 4000000 in
theorem c_Fo_restart {a0 : Array Value} {s0 : State} {D : va_G} {cI cL : ClassId} (l : Launch) (E : a_E a0 s0 D cI cL) (F : a_F l s0) {h : AH} {K : Nat} {pk P q0 : Int → Int} {sz m0 : Int} (h3 : h 3 = some (oBy s0.heap.size 4 sz)) (h4 : h 4 = some (iA cI 200 P)) (h31 : h 31 = some (oBy s0.heap.size 32 m0)) (h32 : h 32 = some (iA cI 200 q0)) (y1 : 0 ≤ m0) (y2 : m0 ≤ 200) (hpk : zcpy P q0 0 0 sz = pk) (hp : ∀ j, 0 ≤ pk j ∧ pk j < 256) (z1 : 0 ≤ sz) (z2 : sz ≤ 200) (h29 : h 29 = some (oCh s0.heap.size 30)) {d : De} : XMT l s0 D y_Fo_restart prog_5_method_2_code 3 none 7 [.ref (s0.heap.size + 28), .ref (s0.heap.size + 3)] (sF s0.heap.size cI h d) (K) (PRn (rStart pk sz) (sF s0.heap.size cI (sB s0.heap.size cI h sz pk)) K) := by
  refine XMT.of (cI := cI) (cL := cL) (own := "NarrowingPacker$Follower") (by decide) rfl E.2 (nle rfl) ?_
  intro p e s m below meth c C hn hlow
  have hcd := cd4_b hp
  unfold cd4 at hcd
  refine x_aload_n C d_Fo_restart_0 rfl ?_
  refine x_get C (G_Fo E.1) 0 (u_225 E.1) d_Fo_restart_1 (by decide) (by rfl) rfl ?_
  refine x_callVR C (G_Ch E.1) (u_668 E.1) (u_376 E.1) (u_377 E.1) (u_378 E.1) (u_10 E.1) d_Fo_restart_4 (c_Ch_forget l E (r := 30) (by exact h29) (by rfl)) nh_Ch_forget ln_Ch_forget rfl (by exact h29) (nle rfl) (nle rfl) (nle rfl) (nle rfl) (nle rfl) ?_
  refine x_aload_n C d_Fo_restart_7 rfl ?_
  refine x_get C (G_Fo E.1) 1 (u_226 E.1) d_Fo_restart_8 (by decide) (by rfl) rfl ?_
  refine x_aload_n C d_Fo_restart_11 rfl ?_
  refine x_getN C (G_By E.1) 0 (u_38 E.1) d_Fo_restart_12 (by decide) (by exact h3) rfl ?_
  refine x_aload_n C d_Fo_restart_15 rfl ?_
  refine x_getN C (G_By E.1) 1 (u_44 E.1) d_Fo_restart_16 (by decide) (by exact h3) rfl ?_
  refine x_callVR C (G_By E.1) (u_669 E.1) (u_598 E.1) (u_599 E.1) (u_600 E.1) (u_2 E.1) d_Fo_restart_19 (c_By_copy l E (r := 32) (N := 200) (by exact h31) (by exact h32) (by omega) y1 y2 (r2 := 4) (M := 200) (by decide) (by decide) (by exact h4) (by omega) z1 (by omega) (by omega)) nh_By_copy ln_By_copy rfl (by exact h31) (nle rfl) (nle rfl) (nle rfl) (nle rfl) (nle rfl) ?_
  rw [hpk]
  refine x_aload_n C d_Fo_restart_22 rfl ?_
  refine x_iconst C d_Fo_restart_23 ?_
  refine x_put C (G_Fo E.1) 2 (u_227 E.1) d_Fo_restart_24 (by decide) rfl (by rfl) rfl rfl (nle rfl) ?_
  refine x_aload_n C d_Fo_restart_27 rfl ?_
  refine x_lconst C d_Fo_restart_28 rfl ?_
  refine x_put C (G_Fo E.1) 3 (u_228 E.1) d_Fo_restart_29 (by decide) rfl (by rfl) rfl rfl (nle rfl) ?_
  refine x_aload_n C d_Fo_restart_32 rfl ?_
  refine x_ldc2 C (v := 4294967295) (u_670 E.1) d_Fo_restart_33 ?_
  refine x_put C (G_Fo E.1) 4 (u_229 E.1) d_Fo_restart_36 (by decide) rfl (by rfl) rfl rfl (nle rfl) ?_
  refine x_iconst C d_Fo_restart_39 ?_
  refine x_istore_n C d_Fo_restart_40 (by decide) ?_
  refine XW.heq (h' := sF s0.heap.size cI (sB s0.heap.size cI h sz pk) ((fun _ => 1024, 4294967295, 0, 0) : De)) (sF_eq rfl rfl (fun q q1 q2 => by simp only [sF, sB, a_up, beq_f q1, beq_f q2, cond_false])) ?_
  refine XW.loc (lv' := [(0, .ref (s0.heap.size + 28)), (2, .int (zI 0))]) ⟨rfl, rfl, trivial⟩ ?_
  by_cases hs0 : 0 < sz
  · refine x_iload_n C d_Fo_restart_41 rfl ?_
    refine x_iconst C d_Fo_restart_42 ?_
    refine x_icmp_ge C (tgt := 56) d_Fo_restart_43 (by decide) (by omega) (by omega) (by omega) (by omega) (fun c43 => ?_) (fun c43 => ?_)
    · exfalso; omega
    · refine x_aload_n C d_Fo_restart_46 rfl ?_
      refine x_callVTT C (G_Fo E.1) (u_671 E.1) (u_673 E.1) (us_16 E.1) (u_674 E.1) (u_12 E.1) d_Fo_restart_47 (c_Fo_take l E F (nx := 0) (cd := 0) (rg := 4294967295) (h := sF s0.heap.size cI (sB s0.heap.size cI h sz pk) ((fun _ => 1024, 4294967295, 0, 0) : De)) (pk := pk) (sz := sz) (by rfl) (by rfl) hp z1 z2 (by rfl) (by omega) (by omega) hs0) nh_Fo_takeByte ln_Fo_takeByte rfl (by rfl) (nle rfl) (nle rfl) (nle rfl) (nle rfl) (nle rfl) (fun v47 h47 K47 r47 => ?_) (fun Cn47 h47 K47 r47 => ?_)
      · obtain ⟨q1, q2, q3⟩ := r47
        cases q1
        subst q2
        subst q3
        refine x_iinc C d_Fo_restart_50 (by decide) rfl ?_
        refine x_goto C (tgt := 41) d_Fo_restart_53 (by decide) ?_
        refine XW.heq (h' := sF s0.heap.size cI (sB s0.heap.size cI h sz pk) ((fun _ => 1024, 4294967295, 0 * 256 + pk 0, 1) : De)) (sF_eq rfl rfl (fun q q1 q2 => by simp only [sF, sB, a_up, beq_f q1, beq_f q2, cond_false])) ?_
        refine XW.loc (lv' := [(0, .ref (s0.heap.size + 28)), (2, .int (zI 1))]) ⟨rfl, rfl, trivial⟩ ?_
        by_cases hs1 : 1 < sz
        · refine x_iload_n C d_Fo_restart_41 rfl ?_
          refine x_iconst C d_Fo_restart_42 ?_
          refine x_icmp_ge C (tgt := 56) d_Fo_restart_43 (by decide) (by omega) (by omega) (by omega) (by omega) (fun c43 => ?_) (fun c43 => ?_)
          · exfalso; omega
          · refine x_aload_n C d_Fo_restart_46 rfl ?_
            refine x_callVTT C (G_Fo E.1) (u_671 E.1) (u_673 E.1) (us_16 E.1) (u_674 E.1) (u_12 E.1) d_Fo_restart_47 (c_Fo_take l E F (nx := 1) (cd := 0 * 256 + pk 0) (rg := 4294967295) (h := sF s0.heap.size cI (sB s0.heap.size cI h sz pk) ((fun _ => 1024, 4294967295, 0 * 256 + pk 0, 1) : De)) (pk := pk) (sz := sz) (by rfl) (by rfl) hp z1 z2 (by rfl) (by omega) (by omega) hs1) nh_Fo_takeByte ln_Fo_takeByte rfl (by rfl) (nle rfl) (nle rfl) (nle rfl) (nle rfl) (nle rfl) (fun v47 h47 K47 r47 => ?_) (fun Cn47 h47 K47 r47 => ?_)
            · obtain ⟨q1, q2, q3⟩ := r47
              cases q1
              subst q2
              subst q3
              refine x_iinc C d_Fo_restart_50 (by decide) rfl ?_
              refine x_goto C (tgt := 41) d_Fo_restart_53 (by decide) ?_
              refine XW.heq (h' := sF s0.heap.size cI (sB s0.heap.size cI h sz pk) ((fun _ => 1024, 4294967295, (0 * 256 + pk 0) * 256 + pk 1, 2) : De)) (sF_eq rfl rfl (fun q q1 q2 => by simp only [sF, sB, a_up, beq_f q1, beq_f q2, cond_false])) ?_
              refine XW.loc (lv' := [(0, .ref (s0.heap.size + 28)), (2, .int (zI 2))]) ⟨rfl, rfl, trivial⟩ ?_
              by_cases hs2 : 2 < sz
              · refine x_iload_n C d_Fo_restart_41 rfl ?_
                refine x_iconst C d_Fo_restart_42 ?_
                refine x_icmp_ge C (tgt := 56) d_Fo_restart_43 (by decide) (by omega) (by omega) (by omega) (by omega) (fun c43 => ?_) (fun c43 => ?_)
                · exfalso; omega
                · refine x_aload_n C d_Fo_restart_46 rfl ?_
                  refine x_callVTT C (G_Fo E.1) (u_671 E.1) (u_673 E.1) (us_16 E.1) (u_674 E.1) (u_12 E.1) d_Fo_restart_47 (c_Fo_take l E F (nx := 2) (cd := (0 * 256 + pk 0) * 256 + pk 1) (rg := 4294967295) (h := sF s0.heap.size cI (sB s0.heap.size cI h sz pk) ((fun _ => 1024, 4294967295, (0 * 256 + pk 0) * 256 + pk 1, 2) : De)) (pk := pk) (sz := sz) (by rfl) (by rfl) hp z1 z2 (by rfl) (by omega) (by omega) hs2) nh_Fo_takeByte ln_Fo_takeByte rfl (by rfl) (nle rfl) (nle rfl) (nle rfl) (nle rfl) (nle rfl) (fun v47 h47 K47 r47 => ?_) (fun Cn47 h47 K47 r47 => ?_)
                  · obtain ⟨q1, q2, q3⟩ := r47
                    cases q1
                    subst q2
                    subst q3
                    refine x_iinc C d_Fo_restart_50 (by decide) rfl ?_
                    refine x_goto C (tgt := 41) d_Fo_restart_53 (by decide) ?_
                    refine XW.heq (h' := sF s0.heap.size cI (sB s0.heap.size cI h sz pk) ((fun _ => 1024, 4294967295, ((0 * 256 + pk 0) * 256 + pk 1) * 256 + pk 2, 3) : De)) (sF_eq rfl rfl (fun q q1 q2 => by simp only [sF, sB, a_up, beq_f q1, beq_f q2, cond_false])) ?_
                    refine XW.loc (lv' := [(0, .ref (s0.heap.size + 28)), (2, .int (zI 3))]) ⟨rfl, rfl, trivial⟩ ?_
                    by_cases hs3 : 3 < sz
                    · refine x_iload_n C d_Fo_restart_41 rfl ?_
                      refine x_iconst C d_Fo_restart_42 ?_
                      refine x_icmp_ge C (tgt := 56) d_Fo_restart_43 (by decide) (by omega) (by omega) (by omega) (by omega) (fun c43 => ?_) (fun c43 => ?_)
                      · exfalso; omega
                      · refine x_aload_n C d_Fo_restart_46 rfl ?_
                        refine x_callVTT C (G_Fo E.1) (u_671 E.1) (u_673 E.1) (us_16 E.1) (u_674 E.1) (u_12 E.1) d_Fo_restart_47 (c_Fo_take l E F (nx := 3) (cd := ((0 * 256 + pk 0) * 256 + pk 1) * 256 + pk 2) (rg := 4294967295) (h := sF s0.heap.size cI (sB s0.heap.size cI h sz pk) ((fun _ => 1024, 4294967295, ((0 * 256 + pk 0) * 256 + pk 1) * 256 + pk 2, 3) : De)) (pk := pk) (sz := sz) (by rfl) (by rfl) hp z1 z2 (by rfl) (by omega) (by omega) hs3) nh_Fo_takeByte ln_Fo_takeByte rfl (by rfl) (nle rfl) (nle rfl) (nle rfl) (nle rfl) (nle rfl) (fun v47 h47 K47 r47 => ?_) (fun Cn47 h47 K47 r47 => ?_)
                        · obtain ⟨q1, q2, q3⟩ := r47
                          cases q1
                          subst q2
                          subst q3
                          refine x_iinc C d_Fo_restart_50 (by decide) rfl ?_
                          refine x_goto C (tgt := 41) d_Fo_restart_53 (by decide) ?_
                          refine XW.heq (h' := sF s0.heap.size cI (sB s0.heap.size cI h sz pk) ((fun _ => 1024, 4294967295, (((0 * 256 + pk 0) * 256 + pk 1) * 256 + pk 2) * 256 + pk 3, 4) : De)) (sF_eq rfl rfl (fun q q1 q2 => by simp only [sF, sB, a_up, beq_f q1, beq_f q2, cond_false])) ?_
                          refine XW.loc (lv' := [(0, .ref (s0.heap.size + 28)), (2, .int (zI 4))]) ⟨rfl, rfl, trivial⟩ ?_
                          refine x_iload_n C d_Fo_restart_41 rfl ?_
                          refine x_iconst C d_Fo_restart_42 ?_
                          refine x_icmp_ge C (tgt := 56) d_Fo_restart_43 (by decide) (by omega) (by omega) (by omega) (by omega) (fun c43 => ?_) (fun c43 => ?_)
                          · refine x_aload_n C d_Fo_restart_56 rfl ?_
                            refine x_get C (G_Fo E.1) 3 (u_228 E.1) d_Fo_restart_57 (by decide) (by rfl) rfl ?_
                            refine x_aload_n C d_Fo_restart_60 rfl ?_
                            refine x_get C (G_Fo E.1) 4 (u_229 E.1) d_Fo_restart_61 (by decide) (by rfl) rfl ?_
                            refine XW.steq (st' := .long (zL 4294967295) :: .long (zL ((((0 * 256 + pk 0) * 256 + pk 1) * 256 + pk 2) * 256 + pk 3)) :: []) rfl ?_
                            refine x_lcmp C d_Fo_restart_64 ?_
                            refine x_lif_lt C (tgt := 78) d_Fo_restart_65 (by decide) (by omega) (by omega) (by omega) (by omega) (fun c65 => ?_) (fun c65 => ?_)
                            · exact x_vretT C d_Fo_restart_78 (Or.inl ⟨((fun _ => 1024, 4294967295, (((0 * 256 + pk 0) * 256 + pk 1) * 256 + pk 2) * 256 + pk 3, 4) : De), by unfold rStart; rw [if_neg (by omega), if_neg (by show ¬ 4294967295 ≤ (((0 * 256 + pk 0) * 256 + pk 1) * 256 + pk 2) * 256 + pk 3; omega)]; rfl, rfl, rfl, rfl⟩)
                            · exact x_throwT C F hlow E.1 (th_IA E.1) (u_692 E.1) (u_693 E.1) (u_694 E.1) d_Fo_restart_68 d_Fo_restart_71 d_Fo_restart_72 d_Fo_restart_74 d_Fo_restart_77 (nle rfl) (nle rfl) (nle rfl) (nle rfl) (Or.inr ⟨2, by unfold rStart; rw [if_neg (by omega), if_pos (by show 4294967295 ≤ (((0 * 256 + pk 0) * 256 + pk 1) * 256 + pk 2) * 256 + pk 3; omega)], rfl, rfl, _, rfl⟩)
                          · exfalso; omega
                        · cases r47.1
                    · refine x_iload_n C d_Fo_restart_41 rfl ?_
                      refine x_iconst C d_Fo_restart_42 ?_
                      refine x_icmp_ge C (tgt := 56) d_Fo_restart_43 (by decide) (by omega) (by omega) (by omega) (by omega) (fun c43 => ?_) (fun c43 => ?_)
                      · exfalso; omega
                      · refine x_aload_n C d_Fo_restart_46 rfl ?_
                        refine x_callVTT C (G_Fo E.1) (u_671 E.1) (u_673 E.1) (us_16 E.1) (u_674 E.1) (u_12 E.1) d_Fo_restart_47 (c_Fo_takeT l E F (nx := 3) (cd := ((0 * 256 + pk 0) * 256 + pk 1) * 256 + pk 2) (rg := 4294967295) (h := sF s0.heap.size cI (sB s0.heap.size cI h sz pk) ((fun _ => 1024, 4294967295, ((0 * 256 + pk 0) * 256 + pk 1) * 256 + pk 2, 3) : De)) (pk := pk) (sz := sz) (by rfl) (by rfl) hp z1 z2 (by rfl) (by omega) (by omega) (by omega)) nh_Fo_takeByte ln_Fo_takeByte rfl (by rfl) (nle rfl) (nle rfl) (nle rfl) (nle rfl) (nle rfl) (fun v47 h47 K47 r47 => ?_) (fun Cn47 h47 K47 r47 => ?_)
                        · cases r47.1
                        · obtain ⟨q1, q2, q3⟩ := r47
                          cases q1
                          subst q2
                          subst q3
                          exact Or.inr ⟨1, by unfold rStart; rw [if_pos (by omega)], rfl, rfl, _, rfl⟩
                  · cases r47.1
              · refine x_iload_n C d_Fo_restart_41 rfl ?_
                refine x_iconst C d_Fo_restart_42 ?_
                refine x_icmp_ge C (tgt := 56) d_Fo_restart_43 (by decide) (by omega) (by omega) (by omega) (by omega) (fun c43 => ?_) (fun c43 => ?_)
                · exfalso; omega
                · refine x_aload_n C d_Fo_restart_46 rfl ?_
                  refine x_callVTT C (G_Fo E.1) (u_671 E.1) (u_673 E.1) (us_16 E.1) (u_674 E.1) (u_12 E.1) d_Fo_restart_47 (c_Fo_takeT l E F (nx := 2) (cd := (0 * 256 + pk 0) * 256 + pk 1) (rg := 4294967295) (h := sF s0.heap.size cI (sB s0.heap.size cI h sz pk) ((fun _ => 1024, 4294967295, (0 * 256 + pk 0) * 256 + pk 1, 2) : De)) (pk := pk) (sz := sz) (by rfl) (by rfl) hp z1 z2 (by rfl) (by omega) (by omega) (by omega)) nh_Fo_takeByte ln_Fo_takeByte rfl (by rfl) (nle rfl) (nle rfl) (nle rfl) (nle rfl) (nle rfl) (fun v47 h47 K47 r47 => ?_) (fun Cn47 h47 K47 r47 => ?_)
                  · cases r47.1
                  · obtain ⟨q1, q2, q3⟩ := r47
                    cases q1
                    subst q2
                    subst q3
                    exact Or.inr ⟨1, by unfold rStart; rw [if_pos (by omega)], rfl, rfl, _, rfl⟩
            · cases r47.1
        · refine x_iload_n C d_Fo_restart_41 rfl ?_
          refine x_iconst C d_Fo_restart_42 ?_
          refine x_icmp_ge C (tgt := 56) d_Fo_restart_43 (by decide) (by omega) (by omega) (by omega) (by omega) (fun c43 => ?_) (fun c43 => ?_)
          · exfalso; omega
          · refine x_aload_n C d_Fo_restart_46 rfl ?_
            refine x_callVTT C (G_Fo E.1) (u_671 E.1) (u_673 E.1) (us_16 E.1) (u_674 E.1) (u_12 E.1) d_Fo_restart_47 (c_Fo_takeT l E F (nx := 1) (cd := 0 * 256 + pk 0) (rg := 4294967295) (h := sF s0.heap.size cI (sB s0.heap.size cI h sz pk) ((fun _ => 1024, 4294967295, 0 * 256 + pk 0, 1) : De)) (pk := pk) (sz := sz) (by rfl) (by rfl) hp z1 z2 (by rfl) (by omega) (by omega) (by omega)) nh_Fo_takeByte ln_Fo_takeByte rfl (by rfl) (nle rfl) (nle rfl) (nle rfl) (nle rfl) (nle rfl) (fun v47 h47 K47 r47 => ?_) (fun Cn47 h47 K47 r47 => ?_)
            · cases r47.1
            · obtain ⟨q1, q2, q3⟩ := r47
              cases q1
              subst q2
              subst q3
              exact Or.inr ⟨1, by unfold rStart; rw [if_pos (by omega)], rfl, rfl, _, rfl⟩
      · cases r47.1
  · refine x_iload_n C d_Fo_restart_41 rfl ?_
    refine x_iconst C d_Fo_restart_42 ?_
    refine x_icmp_ge C (tgt := 56) d_Fo_restart_43 (by decide) (by omega) (by omega) (by omega) (by omega) (fun c43 => ?_) (fun c43 => ?_)
    · exfalso; omega
    · refine x_aload_n C d_Fo_restart_46 rfl ?_
      refine x_callVTT C (G_Fo E.1) (u_671 E.1) (u_673 E.1) (us_16 E.1) (u_674 E.1) (u_12 E.1) d_Fo_restart_47 (c_Fo_takeT l E F (nx := 0) (cd := 0) (rg := 4294967295) (h := sF s0.heap.size cI (sB s0.heap.size cI h sz pk) ((fun _ => 1024, 4294967295, 0, 0) : De)) (pk := pk) (sz := sz) (by rfl) (by rfl) hp z1 z2 (by rfl) (by omega) (by omega) (by omega)) nh_Fo_takeByte ln_Fo_takeByte rfl (by rfl) (nle rfl) (nle rfl) (nle rfl) (nle rfl) (nle rfl) (fun v47 h47 K47 r47 => ?_) (fun Cn47 h47 K47 r47 => ?_)
      · cases r47.1
      · obtain ⟨q1, q2, q3⟩ := r47
        cases q1
        subst q2
        subst q3
        exact Or.inr ⟨1, by unfold rStart; rw [if_pos (by omega)], rfl, rfl, _, rfl⟩

set_option maxRecDepth 100000 in
set_option maxHeartbeats 4000000 in
theorem c_Fo_refuseWhatIsLeft {a0 : Array Value} {s0 : State} {D : va_G} {cI cL : ClassId} (l : Launch) (E : a_E a0 s0 D cI cL) (F : a_F l s0) {h : AH} {K : Nat} {pk : Int → Int} {sz : Int} (h31 : h 31 = some (oBy s0.heap.size 32 sz)) (h32 : h 32 = some (iA cI 200 pk)) (hp : ∀ j, 0 ≤ pk j ∧ pk j < 256) (z1 : 0 ≤ sz) (z2 : sz ≤ 200) (h29 : h 29 = some (oCh s0.heap.size 30)) {d : De} (ok : dOk sz d) : XMT l s0 D y_Fo_refuseWhatIsLeft prog_5_method_6_code 1 none 6 [.ref (s0.heap.size + 28)] (sF s0.heap.size cI h d) (K) (PRn (rEnd sz d) (sF s0.heap.size cI h) K) := by
  refine XMT.of (cI := cI) (cL := cL) (own := "NarrowingPacker$Follower") (by decide) rfl E.2 (nle rfl) ?_
  intro p e s m below meth c C hn hlow
  obtain ⟨k1, k2, k3, k4, k5, k6⟩ := ok
  refine x_aload_n C d_Fo_refuseWhatIsLeft_0 rfl ?_
  refine x_get C (G_Fo E.1) 2 (u_227 E.1) d_Fo_refuseWhatIsLeft_1 (by decide) (by rfl) rfl ?_
  refine x_aload_n C d_Fo_refuseWhatIsLeft_4 rfl ?_
  refine x_get C (G_Fo E.1) 1 (u_226 E.1) d_Fo_refuseWhatIsLeft_5 (by decide) (by rfl) rfl ?_
  refine x_getN C (G_By E.1) 1 (u_44 E.1) d_Fo_refuseWhatIsLeft_8 (by decide) (by exact h31) rfl ?_
  refine x_icmp_lt C (tgt := 23) d_Fo_refuseWhatIsLeft_11 (by decide) (by omega) (by omega) (by omega) (by omega) (fun c11 => ?_) (fun c11 => ?_)
  · exact x_throwT C F hlow E.1 (th_IA E.1) (u_692 E.1) (u_757 E.1) (u_694 E.1) d_Fo_refuseWhatIsLeft_23 d_Fo_refuseWhatIsLeft_26 d_Fo_refuseWhatIsLeft_27 d_Fo_refuseWhatIsLeft_29 d_Fo_refuseWhatIsLeft_32 (nle rfl) (nle rfl) (nle rfl) (nle rfl) (Or.inr ⟨2, if_pos (by omega), rfl, rfl, d, rfl⟩)
  · refine x_aload_n C d_Fo_refuseWhatIsLeft_14 rfl ?_
    refine x_get C (G_Fo E.1) 3 (u_228 E.1) d_Fo_refuseWhatIsLeft_15 (by decide) (by rfl) rfl ?_
    refine x_lconst C d_Fo_refuseWhatIsLeft_18 rfl ?_
    refine x_lcmp C d_Fo_refuseWhatIsLeft_19 ?_
    refine x_lif_eq C (tgt := 33) d_Fo_refuseWhatIsLeft_20 (by decide) (by omega) (by omega) (by omega) (by omega) (fun c20 => ?_) (fun c20 => ?_)
    · exact x_vretT C d_Fo_refuseWhatIsLeft_33 (Or.inl ⟨d, if_neg (by omega), rfl, rfl, rfl⟩)
    · exact x_throwT C F hlow E.1 (th_IA E.1) (u_692 E.1) (u_757 E.1) (u_694 E.1) d_Fo_refuseWhatIsLeft_23 d_Fo_refuseWhatIsLeft_26 d_Fo_refuseWhatIsLeft_27 d_Fo_refuseWhatIsLeft_29 d_Fo_refuseWhatIsLeft_32 (nle rfl) (nle rfl) (nle rfl) (nle rfl) (Or.inr ⟨2, if_pos (by omega), rfl, rfl, d, rfl⟩)

set_option maxRecDepth 100000 in
set_option maxHeartbeats 4000000 in
theorem c_Np_refuseWhatCannotBeTold {a0 : Array Value} {s0 : State} {D : va_G} {cI cL : ClassId} (l : Launch) (E : a_E a0 s0 D cI cL) (F : a_F l s0) {h : AH} {K kp np : Nat} {has : Int} (h0 : h 0 = some (oNp s0.heap.size kp np has)) {k ln ds ec li : Int} (h16 : h 16 = some (oPa k ln ds ec li)) {st n : Int} (h17 : h 17 = some (oHi s0.heap.size st)) (h18 : h 18 = some (oBy s0.heap.size 19 n)) (n1 : 0 ≤ n) (n2 : n ≤ 120) (k1 : 0 ≤ k) (k2 : k ≤ 4) (l1 : 0 ≤ ln) (l2 : ln ≤ 1000) (d1 : 0 ≤ ds) (d2 : ds ≤ 1000) : XMT l s0 D y_Np_refuseWhatCannotBeTold prog_1_method_19_code 1 none 6 [.ref (s0.heap.size + 0)] (h) (K) (fun o h' K' => h' = h ∧ ((rTold n (k, ln, ds, ec, li) = 0 ∧ o = .inl none ∧ K' = K) ∨ (rTold n (k, ln, ds, ec, li) ≠ 0 ∧ o = .inr (exn (rTold n (k, ln, ds, ec, li))) ∧ K' = K + 1))) := by
  refine XMT.of (cI := cI) (cL := cL) (own := "NarrowingPacker") (by decide) rfl E.2 (nle rfl) ?_
  intro p e s m below meth c C hn hlow
  refine x_aload_n C d_Np_refuseWhatCannotBeTold_0 rfl ?_
  refine x_get C (G_Np E.1) 7 (u_253 E.1) d_Np_refuseWhatCannotBeTold_1 (by decide) (by exact h0) rfl ?_
  refine x_getN C (G_Pa E.1) 0 (u_83 E.1) d_Np_refuseWhatCannotBeTold_4 (by decide) (by exact h16) rfl ?_
  refine x_if_eq C (tgt := 40) d_Np_refuseWhatCannotBeTold_7 (by decide) (by omega) (by omega) (fun c7 => ?_) (fun c7 => ?_)
  · refine x_aload_n C d_Np_refuseWhatCannotBeTold_40 rfl ?_
    refine x_get C (G_Np E.1) 7 (u_253 E.1) d_Np_refuseWhatCannotBeTold_41 (by decide) (by exact h0) rfl ?_
    refine x_getN C (G_Pa E.1) 1 (u_88 E.1) d_Np_refuseWhatCannotBeTold_44 (by decide) (by exact h16) rfl ?_
    refine x_bipush C d_Np_refuseWhatCannotBeTold_47 (by decide) ?_
    refine x_aload_n C d_Np_refuseWhatCannotBeTold_49 rfl ?_
    refine x_get C (G_Np E.1) 8 (u_254 E.1) d_Np_refuseWhatCannotBeTold_50 (by decide) (by exact h0) rfl ?_
    refine x_getN C (G_Hi E.1) 0 (u_122 E.1) d_Np_refuseWhatCannotBeTold_53 (by decide) (by exact h17) rfl ?_
    refine x_getN C (G_By E.1) 1 (u_46 E.1) d_Np_refuseWhatCannotBeTold_56 (by decide) (by exact h18) rfl ?_
    refine x_isub C d_Np_refuseWhatCannotBeTold_59 ?_
    refine x_icmp_le C (tgt := 73) d_Np_refuseWhatCannotBeTold_60 (by decide) (by omega) (by omega) (by omega) (by omega) (fun c60 => ?_) (fun c60 => ?_)
    · exact x_vretT C d_Np_refuseWhatCannotBeTold_73 ⟨rfl, Or.inl ⟨(if_neg (by show ¬ (k ≠ 0 ∧ n < ds); omega)).trans (if_neg (by show ¬ 120 - n < ln; omega)), rfl, rfl⟩⟩
    · exact x_throwT C F hlow E.1 (th_IS E.1) (u_524 E.1) (u_752 E.1) (u_567 E.1) d_Np_refuseWhatCannotBeTold_63 d_Np_refuseWhatCannotBeTold_66 d_Np_refuseWhatCannotBeTold_67 d_Np_refuseWhatCannotBeTold_69 d_Np_refuseWhatCannotBeTold_72 (nle rfl) (nle rfl) (nle rfl) (nle rfl) ⟨rfl, Or.inr (by rw [show rTold n (k, ln, ds, ec, li) = 4 from (if_neg (by show ¬ (k ≠ 0 ∧ n < ds); omega)).trans (if_pos (by show 120 - n < ln; omega))]; exact ⟨by decide, rfl, rfl⟩)⟩
  · refine x_aload_n C d_Np_refuseWhatCannotBeTold_10 rfl ?_
    refine x_get C (G_Np E.1) 7 (u_253 E.1) d_Np_refuseWhatCannotBeTold_11 (by decide) (by exact h0) rfl ?_
    refine x_getN C (G_Pa E.1) 2 (u_93 E.1) d_Np_refuseWhatCannotBeTold_14 (by decide) (by exact h16) rfl ?_
    refine x_aload_n C d_Np_refuseWhatCannotBeTold_17 rfl ?_
    refine x_get C (G_Np E.1) 8 (u_254 E.1) d_Np_refuseWhatCannotBeTold_18 (by decide) (by exact h0) rfl ?_
    refine x_getN C (G_Hi E.1) 0 (u_122 E.1) d_Np_refuseWhatCannotBeTold_21 (by decide) (by exact h17) rfl ?_
    refine x_getN C (G_By E.1) 1 (u_46 E.1) d_Np_refuseWhatCannotBeTold_24 (by decide) (by exact h18) rfl ?_
    refine x_icmp_le C (tgt := 40) d_Np_refuseWhatCannotBeTold_27 (by decide) (by omega) (by omega) (by omega) (by omega) (fun c27 => ?_) (fun c27 => ?_)
    · refine x_aload_n C d_Np_refuseWhatCannotBeTold_40 rfl ?_
      refine x_get C (G_Np E.1) 7 (u_253 E.1) d_Np_refuseWhatCannotBeTold_41 (by decide) (by exact h0) rfl ?_
      refine x_getN C (G_Pa E.1) 1 (u_88 E.1) d_Np_refuseWhatCannotBeTold_44 (by decide) (by exact h16) rfl ?_
      refine x_bipush C d_Np_refuseWhatCannotBeTold_47 (by decide) ?_
      refine x_aload_n C d_Np_refuseWhatCannotBeTold_49 rfl ?_
      refine x_get C (G_Np E.1) 8 (u_254 E.1) d_Np_refuseWhatCannotBeTold_50 (by decide) (by exact h0) rfl ?_
      refine x_getN C (G_Hi E.1) 0 (u_122 E.1) d_Np_refuseWhatCannotBeTold_53 (by decide) (by exact h17) rfl ?_
      refine x_getN C (G_By E.1) 1 (u_46 E.1) d_Np_refuseWhatCannotBeTold_56 (by decide) (by exact h18) rfl ?_
      refine x_isub C d_Np_refuseWhatCannotBeTold_59 ?_
      refine x_icmp_le C (tgt := 73) d_Np_refuseWhatCannotBeTold_60 (by decide) (by omega) (by omega) (by omega) (by omega) (fun c60 => ?_) (fun c60 => ?_)
      · exact x_vretT C d_Np_refuseWhatCannotBeTold_73 ⟨rfl, Or.inl ⟨(if_neg (by show ¬ (k ≠ 0 ∧ n < ds); omega)).trans (if_neg (by show ¬ 120 - n < ln; omega)), rfl, rfl⟩⟩
      · exact x_throwT C F hlow E.1 (th_IS E.1) (u_524 E.1) (u_752 E.1) (u_567 E.1) d_Np_refuseWhatCannotBeTold_63 d_Np_refuseWhatCannotBeTold_66 d_Np_refuseWhatCannotBeTold_67 d_Np_refuseWhatCannotBeTold_69 d_Np_refuseWhatCannotBeTold_72 (nle rfl) (nle rfl) (nle rfl) (nle rfl) ⟨rfl, Or.inr (by rw [show rTold n (k, ln, ds, ec, li) = 4 from (if_neg (by show ¬ (k ≠ 0 ∧ n < ds); omega)).trans (if_pos (by show 120 - n < ln; omega))]; exact ⟨by decide, rfl, rfl⟩)⟩
    · exact x_throwT C F hlow E.1 (th_IO E.1) (u_615 E.1) (u_751 E.1) (u_625 E.1) d_Np_refuseWhatCannotBeTold_30 d_Np_refuseWhatCannotBeTold_33 d_Np_refuseWhatCannotBeTold_34 d_Np_refuseWhatCannotBeTold_36 d_Np_refuseWhatCannotBeTold_39 (nle rfl) (nle rfl) (nle rfl) (nle rfl) ⟨rfl, Or.inr (by rw [show rTold n (k, ln, ds, ec, li) = 3 from if_pos ⟨c7, by show n < ds; omega⟩]; exact ⟨by decide, rfl, rfl⟩)⟩

