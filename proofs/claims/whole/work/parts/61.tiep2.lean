/-! what the reference packs: packets -/
theorem zup_id (f : Int → Int) (i : Int) : zup f i (f i) = f := by
  funext j
  unfold zup
  split
  · rename_i h; rw [h]
  · rfl
theorem mTF_go {c : Cd} {v : Vw} {kd mn d : Int} {k : Nat} (b0 : c.2.1 = 0) (d1 : d ≤ v.1.2.1) (m1 : v.1.2.1 + mn ≤ 120) : mTF kd mn d k (c, v) = (c, vNote v (hRep mn.toNat d v.1.1 v.1.2.1, v.1.2.1 + mn, zup (hFront k v.1.2.2.1) 0 d, stCopy kd v.1.2.2.2) kd mn d) := by
  have e1 : (if (c, v).1.2.1 = 0 ∧ (c, v).2.1.2.1 < d then (mSet (c, v).1 3, (c, v).2) else (c, v)) = (c, v) := if_neg (fun h => by have h2 : v.1.2.1 < d := h.2; omega)
  have e2 : (if (c, v).1.2.1 = 0 ∧ 120 < (c, v).2.1.2.1 + mn then (mSet (c, v).1 4, (c, v).2) else (c, v)) = (c, v) := if_neg (fun h => by have h2 : 120 < v.1.2.1 + mn := h.2; omega)
  unfold mTF
  rw [e1]
  unfold mTF2
  rw [e2]
  exact if_neg (fun h => by have h2 : 0 < c.2.1 := h; omega)
theorem mTL_go {c : Cd} {v : Vw} {b : Int} (b0 : c.2.1 = 0) (n1 : v.1.2.1 < 120) : mTL (c, v) b = (c, vNote v (hTell v.1 (0, 1, 0, 0, b)) 0 1 b) := by
  unfold mTL mTL3
  rw [if_neg (fun h => by have h2 : v.1.2.1 = 120 := h.2; omega), if_neg (fun h => by have h2 : 0 < c.2.1 := h; omega)]
theorem okB_1 {c : Cd} {v : Vw} (b0 : c.2.1 = 0) : okB (c, v) = 1 := if_pos b0
theorem tP_p0 {pk : Int → Int} {sz : Int} {e : En} {c : Cd} (h : tieP e c) {t : Hs} {T : T3} {cnt l0 b w : Int} (b1 : 0 ≤ b) (b2 : b < 256) (n1 : t.2.1 < 120) : ∃ c', mPkt pk sz (t, T, cnt, 0, l0, b, w) c = (1, (c', vNote (t, T, cnt, 0, l0, b, w) (hTell t (0, 1, 0, 0, b)) 0 1 b)) ∧ tieP (ePkt t (0, 1, 0, 0, b) e) c' := by
  have h0 := tP_bit (pk := pk) (sz := sz) h t.2.2.2 (g := 0) (by decide)
  have h1 := tP_lit (pk := pk) (sz := sz) 8 (hPlace t) (hBefore t (t.2.2.1 0)) b 1 (hAs t) h0.2
  refine ⟨(mLit pk sz 8 (hPlace t) (hBefore t (t.2.2.1 0)) b 1 (hAs t) (mBit pk sz c t.2.2.2 0).2).2, ?_, h1.2⟩
  have e1 : mPkt pk sz (t, T, cnt, 0, l0, b, w) c = mPL pk sz (t, T, cnt, 0, l0, b, w) (mBit pk sz c t.2.2.2 0).2 := if_pos h0.1
  have e2 : mLt pk sz t b (mBit pk sz c t.2.2.2 0).2 = (b, (mLit pk sz 8 (hPlace t) (hBefore t (t.2.2.1 0)) b 1 (hAs t) (mBit pk sz c t.2.2.2 0).2).2) := by
    unfold mLt
    rw [h1.1, show 1 * 2 ^ 8 + b % 2 ^ 8 - 256 = b by omega]
  rw [e1]
  show (okB (mTL ((mLt pk sz t b (mBit pk sz c t.2.2.2 0).2).2, (t, T, cnt, 0, l0, b, w)) (mLt pk sz t b (mBit pk sz c t.2.2.2 0).2).1), mTL ((mLt pk sz t b (mBit pk sz c t.2.2.2 0).2).2, (t, T, cnt, 0, l0, b, w)) (mLt pk sz t b (mBit pk sz c t.2.2.2 0).2).1) = _
  rw [e2]
  have hb := h1.2.2.2.1
  generalize (mLit pk sz 8 (hPlace t) (hBefore t (t.2.2.1 0)) b 1 (hAs t) (mBit pk sz c t.2.2.2 0).2).2 = c2 at hb
  show (okB (mTL (c2, (t, T, cnt, 0, l0, b, w)) b), mTL (c2, (t, T, cnt, 0, l0, b, w)) b) = _
  rw [mTL_go hb n1, okB_1 hb]
theorem tP_far {pk : Int → Int} {sz : Int} {e : En} {c : Cd} (h : tieP e c) (s : Int) {ch : Int} (h1 : 1 ≤ ch) : (mBit pk sz c s (ne0 ch)).1 = 1 ∧ tieP (eBit e s 1) (mBit pk sz c s (ne0 ch)).2 := by
  rw [show ne0 ch = 1 from if_neg (by omega)]
  exact tP_bit h s (by decide)
theorem tP_p1 {pk : Int → Int} {sz : Int} {e : En} {c : Cd} (h : tieP e c) {t : Hs} {T : T3} {cnt ln ds w : Int} (l1 : 2 ≤ ln) (l2 : t.2.1 + ln ≤ 120) (d1 : 1 ≤ ds) (d2 : ds ≤ t.2.1) : ∃ c', mPkt pk sz (t, T, cnt, 1, ln, ds, w) c = (1, (c', vNote (t, T, cnt, 1, ln, ds, w) (hTell t (1, ln, ds, 0, 0)) 1 ln ds)) ∧ tieP (ePkt t (1, ln, ds, 0, 0) e) c' := by
  have h0 := tP_bit (pk := pk) (sz := sz) h t.2.2.2 (g := 1) (by decide)
  have h1 := tP_bit (pk := pk) (sz := sz) h0.2 (12 + t.2.2.2) (g := 0) (by decide)
  have h2 := tP_len (pk := pk) (sz := sz) 72 (g := ln - 2) (by omega) (by omega) h1.2
  have h3 := tP_dist (pk := pk) (sz := sz) (ln - 2) (g := ds - 1) (by omega) (by omega) h2.2
  have e1 : mPkt pk sz (t, T, cnt, 1, ln, ds, w) c = mPM pk sz (t, T, cnt, 1, ln, ds, w) (mBit pk sz (mBit pk sz c t.2.2.2 1).2 (12 + t.2.2.2) 0).2 :=
    (if_neg (fun hh => by have h9 : (mBit pk sz c t.2.2.2 1).1 = 0 := hh; rw [h0.1] at h9; cases h9)).trans (if_pos h1.1)
  generalize (mBit pk sz (mBit pk sz c t.2.2.2 1).2 (12 + t.2.2.2) 0).2 = c1 at e1 h2 h3
  have hb := h3.2.2.2.1
  refine ⟨(mDist pk sz (ln - 2) (ds - 1) (mLen pk sz 72 (ln - 2) c1).2).2, ?_, ?_⟩
  · rw [e1]
    have e2 : mPM pk sz (t, T, cnt, 1, ln, ds, w) c1 = mPM2 pk sz (t, T, cnt, 1, ln, ds, w) (mLen pk sz 72 (ln - 2) c1).1 (mDist pk sz (mLen pk sz 72 (ln - 2) c1).1 (ds - 1) (mLen pk sz 72 (ln - 2) c1).2) := rfl
    rw [e2, h2.1]
    unfold mPM2
    rw [h3.1, if_neg (by omega), show ln - 2 + 2 = ln by omega, show ds - 1 + 1 = ds by omega, mTF_go hb d2 l2, okB_1 hb]
    rfl
  · rw [ePv1]
    exact h3.2
theorem tP_p2 {pk : Int → Int} {sz : Int} {e : En} {c : Cd} (h : tieP e c) {t : Hs} {T : T3} {cnt ln fa k : Int} (l1 : 2 ≤ ln) (l2 : t.2.1 + ln ≤ 120) (k1 : 0 ≤ k) (k2 : k ≤ 3) (d1 : 1 ≤ t.2.2.1 k) (d2 : t.2.2.1 k ≤ t.2.1) : ∃ c', mPkt pk sz (t, T, cnt, 2, ln, fa, k) c = (1, (c', vNote (t, T, cnt, 2, ln, fa, k) (hTell t (2, ln, t.2.2.1 k, k, 0)) 2 ln (t.2.2.1 k))) ∧ tieP (ePkt t (2, ln, t.2.2.1 k, k, 0) e) c' := by
  have h0 := tP_bit (pk := pk) (sz := sz) h t.2.2.2 (g := 1) (by decide)
  have h1 := tP_bit (pk := pk) (sz := sz) h0.2 (12 + t.2.2.2) (g := 1) (by decide)
  have h2 := tP_echo (pk := pk) (sz := sz) t.2.2.2 (g := k) (by omega) k2 h1.2
  have h3 := tP_len (pk := pk) (sz := sz) 218 (g := ln - 2) (by omega) (by omega) h2.2
  have e1 : mPkt pk sz (t, T, cnt, 2, ln, fa, k) c = mPE pk sz (t, T, cnt, 2, ln, fa, k) (mBit pk sz (mBit pk sz c t.2.2.2 1).2 (12 + t.2.2.2) 1).2 :=
    (if_neg (fun hh => by have h9 : (mBit pk sz c t.2.2.2 1).1 = 0 := hh; rw [h0.1] at h9; cases h9)).trans (if_neg (fun hh => by have h9 : (mBit pk sz (mBit pk sz c t.2.2.2 1).2 (12 + t.2.2.2) 1).1 = 0 := hh; rw [h1.1] at h9; cases h9))
  generalize (mBit pk sz (mBit pk sz c t.2.2.2 1).2 (12 + t.2.2.2) 1).2 = c1 at e1 h2 h3
  have hb := h3.2.2.2.1
  refine ⟨(mLen pk sz 218 (ln - 2) (mEcho pk sz t.2.2.2 k c1).2).2, ?_, ?_⟩
  · rw [e1]
    have e2 : mPE2 pk sz (t, T, cnt, 2, ln, fa, k) (mEcho pk sz t.2.2.2 k c1) = ((mLen pk sz 218 (ln - 2) (mEcho pk sz t.2.2.2 k c1).2).2, vNote (t, T, cnt, 2, ln, fa, k) (hTell t (2, ln, t.2.2.1 k, k, 0)) 2 ln (t.2.2.1 k)) := by
      unfold mPE2
      rw [h2.1, if_neg (by omega)]
      show mTF 2 (2 + (mLen pk sz 218 (ln - 2) (mEcho pk sz t.2.2.2 k c1).2).1) (t.2.2.1 k) k.toNat ((mLen pk sz 218 (ln - 2) (mEcho pk sz t.2.2.2 k c1).2).2, (t, T, cnt, 2, ln, fa, k)) = _
      rw [h3.1, show 2 + (ln - 2) = ln by omega, mTF_go hb d2 l2]
      rfl
    show (okB (mPE2 pk sz (t, T, cnt, 2, ln, fa, k) (mEcho pk sz t.2.2.2 k c1)), mPE2 pk sz (t, T, cnt, 2, ln, fa, k) (mEcho pk sz t.2.2.2 k c1)) = _
    rw [e2, okB_1 hb]
  · rw [ePv2]
    exact h3.2
theorem tP_p3 {pk : Int → Int} {sz : Int} {e : En} {c : Cd} (h : tieP e c) {t : Hs} {T : T3} {cnt l0 fa w : Int} (n1 : t.2.1 < 120) (d1 : 1 ≤ t.2.2.1 0) (d2 : t.2.2.1 0 ≤ t.2.1) : ∃ c', mPkt pk sz (t, T, cnt, 3, l0, fa, w) c = (1, (c', vNote (t, T, cnt, 3, l0, fa, w) (hTell t (3, 1, t.2.2.1 0, 0, 0)) 3 1 (t.2.2.1 0))) ∧ tieP (ePkt t (3, 1, t.2.2.1 0, 0, 0) e) c' := by
  have h0 := tP_bit (pk := pk) (sz := sz) h t.2.2.2 (g := 1) (by decide)
  have h1 := tP_bit (pk := pk) (sz := sz) h0.2 (12 + t.2.2.2) (g := 1) (by decide)
  have h2 := tP_echo (pk := pk) (sz := sz) t.2.2.2 (g := -1) (by omega) (by omega) h1.2
  have e1 : mPkt pk sz (t, T, cnt, 3, l0, fa, w) c = mPE pk sz (t, T, cnt, 3, l0, fa, w) (mBit pk sz (mBit pk sz c t.2.2.2 1).2 (12 + t.2.2.2) 1).2 :=
    (if_neg (fun hh => by have h9 : (mBit pk sz c t.2.2.2 1).1 = 0 := hh; rw [h0.1] at h9; cases h9)).trans (if_neg (fun hh => by have h9 : (mBit pk sz (mBit pk sz c t.2.2.2 1).2 (12 + t.2.2.2) 1).1 = 0 := hh; rw [h1.1] at h9; cases h9))
  generalize (mBit pk sz (mBit pk sz c t.2.2.2 1).2 (12 + t.2.2.2) 1).2 = c1 at e1 h2
  have hb := h2.2.2.2.1
  refine ⟨(mEcho pk sz t.2.2.2 (-1) c1).2, ?_, ?_⟩
  · rw [e1]
    have e2 : mPE2 pk sz (t, T, cnt, 3, l0, fa, w) (mEcho pk sz t.2.2.2 (-1) c1) = ((mEcho pk sz t.2.2.2 (-1) c1).2, vNote (t, T, cnt, 3, l0, fa, w) (hTell t (3, 1, t.2.2.1 0, 0, 0)) 3 1 (t.2.2.1 0)) := by
      unfold mPE2
      rw [h2.1, if_pos (by omega)]
      show mTF 3 1 (t.2.2.1 0) 0 ((mEcho pk sz t.2.2.2 (-1) c1).2, (t, T, cnt, 3, l0, fa, w)) = _
      rw [mTF_go hb d2 (by show t.2.1 + 1 ≤ 120; omega)]
      show ((mEcho pk sz t.2.2.2 (-1) c1).2, vNote (t, T, cnt, 3, l0, fa, w) (hRep (1 : Int).toNat (t.2.2.1 0) t.1 t.2.1, t.2.1 + 1, zup t.2.2.1 0 (t.2.2.1 0), stCopy 3 t.2.2.2) 3 1 (t.2.2.1 0)) = _
      rw [zup_id]
      rfl
    show (okB (mPE2 pk sz (t, T, cnt, 3, l0, fa, w) (mEcho pk sz t.2.2.2 (-1) c1)), mPE2 pk sz (t, T, cnt, 3, l0, fa, w) (mEcho pk sz t.2.2.2 (-1) c1)) = _
    rw [e2, okB_1 hb]
  · rw [ePv3]
    exact h2.2
theorem tP_p4 {pk : Int → Int} {sz : Int} {e : En} {c : Cd} (h : tieP e c) {t : Hs} {T : T3} {cnt w : Int} : ∃ c', mPkt pk sz (t, T, cnt, 1, 2, 0, w) c = (0, (c', (t, T, cnt, 1, 2, 0, w))) ∧ tieP (ePkt t (4, 0, 0, 0, 0) e) c' := by
  have h0 := tP_bit (pk := pk) (sz := sz) h t.2.2.2 (g := 1) (by decide)
  have h1 := tP_bit (pk := pk) (sz := sz) h0.2 (12 + t.2.2.2) (g := 0) (by decide)
  have h2 := tP_len (pk := pk) (sz := sz) 72 (g := 0) (by omega) (by omega) h1.2
  have h3 := tP_end (pk := pk) (sz := sz) h2.2
  have e1 : mPkt pk sz (t, T, cnt, 1, 2, 0, w) c = mPM pk sz (t, T, cnt, 1, 2, 0, w) (mBit pk sz (mBit pk sz c t.2.2.2 1).2 (12 + t.2.2.2) 0).2 :=
    (if_neg (fun hh => by have h9 : (mBit pk sz c t.2.2.2 1).1 = 0 := hh; rw [h0.1] at h9; cases h9)).trans (if_pos h1.1)
  generalize (mBit pk sz (mBit pk sz c t.2.2.2 1).2 (12 + t.2.2.2) 0).2 = c1 at e1 h2 h3
  refine ⟨(mDist pk sz 0 (-1) (mLen pk sz 72 0 c1).2).2, ?_, h3.2⟩
  rw [e1]
  have e2 : mPM pk sz (t, T, cnt, 1, 2, 0, w) c1 = mPM2 pk sz (t, T, cnt, 1, 2, 0, w) (mLen pk sz 72 0 c1).1 (mDist pk sz (mLen pk sz 72 0 c1).1 (-1) (mLen pk sz 72 0 c1).2) := rfl
  rw [e2, h2.1]
  unfold mPM2
  rw [h3.1, if_pos (by decide)]
/-- what the reference chooses is what the class chooses -/
theorem ch_tie {cc : Int} {src : Int → Int} (hs : ∀ q, 0 ≤ src q ∧ src q < 256) {n : Int} {t : Hs} (hk : hOk t) (i2 : t.2.1 < n) (n2 : n ≤ 120) :
    (∃ ln k, chooseZ cc src n t = (2, ln, t.2.2.1 k, k, 0) ∧ chW cc src n t = (2, ln, t.2.2.1 k, k) ∧ 2 ≤ ln ∧ ln ≤ n - t.2.1 ∧ 0 ≤ k ∧ k ≤ 3 ∧ t.2.2.1 k ≤ t.2.1) ∨
    (∃ ln ds w, chooseZ cc src n t = (1, ln, ds, 0, 0) ∧ chW cc src n t = (1, ln, ds, w) ∧ 2 ≤ ln ∧ ln ≤ n - t.2.1 ∧ 1 ≤ ds ∧ ds ≤ t.2.1 ∧ 0 ≤ w ∧ w ≤ 3) ∨
    (∃ w, chooseZ cc src n t = (3, 1, t.2.2.1 0, 0, 0) ∧ chW cc src n t = (3, 1, t.2.2.1 0, w) ∧ t.2.2.1 0 ≤ t.2.1 ∧ 0 ≤ w ∧ w ≤ 3) ∨
    (∃ w, chooseZ cc src n t = (0, 1, 0, 0, src t.2.1) ∧ chW cc src n t = (0, 1, src t.2.1, w) ∧ 0 ≤ w ∧ w ≤ 3) := by
  have hn := hk.2.1
  have hmb := match_b (src := src) (n := n) (i := t.2.1) (c := cc) (by omega) t.2.1.toNat 0 0 0 (by omega) (Or.inl rfl)
  have heb := echo_b (src := src) (bk := t.2.2.1) (n := n) (i := t.2.1) (by omega) 4 0 0 0 (by omega) (by omega) (Or.inl ⟨rfl, rfl⟩)
  have hb0 := hk.2.2.1 0
  have hag : 0 < agZ src n (t.2.1 - t.2.2.1 0) t.2.1 ↔ (t.2.2.1 0 ≤ t.2.1 ∧ src (t.2.1 - t.2.2.1 0) = src t.2.1) := by
    unfold agZ
    by_cases c1 : t.2.2.1 0 ≤ t.2.1
    · rw [if_neg (by omega)]
      obtain ⟨r, hr⟩ : ∃ r : Nat, (n - t.2.1).toNat = r + 1 := ⟨(n - t.2.1).toNat - 1, by omega⟩
      rw [hr]
      unfold agreeZ
      rw [Int.add_zero, Int.add_zero]
      by_cases c2 : src (t.2.1 - t.2.2.1 0) = src t.2.1
      · rw [if_pos ⟨i2, c2⟩]
        have := agree_b (src := src) (n := n) (j := t.2.1 - t.2.2.1 0) (i := t.2.1) r (0 + 1)
        constructor
        · intro _; exact ⟨c1, c2⟩
        · intro _; omega
      · rw [if_neg (fun hh => c2 hh.2)]
        constructor
        · intro hh; omega
        · intro hh; exact absurd hh.2 c2
    · rw [if_pos (by omega)]
      constructor
      · intro hh; omega
      · intro hh; omega
  unfold chW
  simp only [chooseZ]
  generalize matchZ src n t.2.1 cc t.2.1.toNat (0, 0, 0) = mt at hmb ⊢
  generalize echoZ src n t.2.1 t.2.2.1 4 0 (0, 0) = ec at heb ⊢
  by_cases c1 : 2 ≤ ec.1 ∧ mt.1 ≤ ec.1
  · rw [if_pos c1, if_pos c1]
    exact Or.inl ⟨ec.1, ec.2, rfl, rfl, c1.1, by omega, by omega, by omega, by omega⟩
  · rw [if_neg c1, if_neg c1]
    by_cases c2 : 2 ≤ mt.1
    · rw [if_pos c2, if_pos (by omega)]
      exact Or.inr (Or.inl ⟨mt.1, mt.2, ec.2, rfl, rfl, c2, by omega, by omega, by omega, by omega, by omega⟩)
    · rw [if_neg c2, if_neg (show ¬ 0 < mt.1 by omega)]
      by_cases c3 : 0 < agZ src n (t.2.1 - t.2.2.1 0) t.2.1
      · rw [if_pos c3, if_pos (hag.mp c3)]
        exact Or.inr (Or.inr (Or.inl ⟨ec.2, rfl, rfl, (hag.mp c3).1, by omega, by omega⟩))
      · rw [if_neg c3, if_neg (fun hh => c3 (hag.mpr hh))]
        exact Or.inr (Or.inr (Or.inr ⟨ec.2, rfl, rfl, by omega, by omega⟩))
/-- one packet of the reference is one step of the class -/
theorem tP_pkt {pk : Int → Int} {sz : Int} {e : En} {c : Cd} (h : tieP e c) {cc : Int} {src : Int → Int} (hs : ∀ q, 0 ≤ src q ∧ src q < 256) {n : Int} {t : Hs} (hk : hOk t) (i2 : t.2.1 < n) (n2 : n ≤ 120) {T : T3} {cnt : Int} :
    ∃ c', mPkt pk sz (t, T, cnt, chW cc src n t) c = (1, (c', vNote (t, T, cnt, chW cc src n t) (hTell t (chooseZ cc src n t)) (chooseZ cc src n t).1 (chooseZ cc src n t).2.1 (pkVal (chooseZ cc src n t)))) ∧ tieP (ePkt t (chooseZ cc src n t) e) c' := by
  have hsi := hs t.2.1
  rcases ch_tie (cc := cc) hs hk i2 n2 with ⟨ln, k, e1, e2, q1, q2, q3, q4, q5⟩ | ⟨ln, ds, w, e1, e2, q1, q2, q3, q4, _⟩ | ⟨w, e1, e2, q1, _⟩ | ⟨w, e1, e2, _⟩
  · rw [e1, e2]
    exact tP_p2 h q1 (by omega) q3 q4 (hk.2.2.1 k).1 q5
  · rw [e1, e2]
    exact tP_p1 h q1 (by omega) q3 q4
  · rw [e1, e2]
    exact tP_p3 h (by omega) (hk.2.2.1 0).1 q1
  · rw [e1, e2]
    exact tP_p0 h hsi.1 hsi.2 (by omega)
/-- what it has chosen is within bounds -/
theorem ch_b {cc : Int} {src : Int → Int} (hs : ∀ q, 0 ≤ src q ∧ src q < 256) {n : Int} {t : Hs} (hk : hOk t) (i2 : t.2.1 < n) (n2 : n ≤ 120) :
    (0 ≤ (chW cc src n t).1 ∧ (chW cc src n t).1 ≤ 3) ∧ (0 ≤ (chW cc src n t).2.1 ∧ (chW cc src n t).2.1 ≤ 200) ∧ (0 ≤ (chW cc src n t).2.2.1 ∧ (chW cc src n t).2.2.1 ≤ 255) ∧ (0 ≤ (chW cc src n t).2.2.2 ∧ (chW cc src n t).2.2.2 ≤ 3) ∧ ((chW cc src n t).1 = 0 ∨ (chW cc src n t).2.2.1 ≤ 128) := by
  have hsi := hs t.2.1
  have hn := hk.2.1
  rcases ch_tie (cc := cc) hs hk i2 n2 with ⟨ln, k, e1, e2, q1, q2, q3, q4, q5⟩ | ⟨ln, ds, w, e1, e2, q1, q2, q3, q4, q5⟩ | ⟨w, e1, e2, q1, q5⟩ | ⟨w, e1, e2, q5⟩
  · have hb := hk.2.2.1 k
    rw [e2]
    show (0 ≤ (2 : Int) ∧ (2 : Int) ≤ 3) ∧ (0 ≤ ln ∧ ln ≤ 200) ∧ (0 ≤ t.2.2.1 k ∧ t.2.2.1 k ≤ 255) ∧ (0 ≤ k ∧ k ≤ 3) ∧ ((2 : Int) = 0 ∨ t.2.2.1 k ≤ 128)
    omega
  · rw [e2]
    show (0 ≤ (1 : Int) ∧ (1 : Int) ≤ 3) ∧ (0 ≤ ln ∧ ln ≤ 200) ∧ (0 ≤ ds ∧ ds ≤ 255) ∧ (0 ≤ w ∧ w ≤ 3) ∧ ((1 : Int) = 0 ∨ ds ≤ 128)
    omega
  · have hb := hk.2.2.1 0
    rw [e2]
    show (0 ≤ (3 : Int) ∧ (3 : Int) ≤ 3) ∧ (0 ≤ (1 : Int) ∧ (1 : Int) ≤ 200) ∧ (0 ≤ t.2.2.1 0 ∧ t.2.2.1 0 ≤ 255) ∧ (0 ≤ w ∧ w ≤ 3) ∧ ((3 : Int) = 0 ∨ t.2.2.1 0 ≤ 128)
    omega
  · rw [e2]
    show (0 ≤ (0 : Int) ∧ (0 : Int) ≤ 3) ∧ (0 ≤ (1 : Int) ∧ (1 : Int) ≤ 200) ∧ (0 ≤ src t.2.1 ∧ src t.2.1 ≤ 255) ∧ (0 ≤ w ∧ w ≤ 3) ∧ ((0 : Int) = 0 ∨ src t.2.1 ≤ 128)
    omega
