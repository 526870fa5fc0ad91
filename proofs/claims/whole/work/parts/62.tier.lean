/-! what the reference reads is what the class reads -/
def tR : Rs → Cd → Prop
  | .inl b, c => c.2.1 = b ∧ 1 ≤ b ∧ b ≤ 4
  | .inr d, c => c.2.1 = 0 ∧ c.2.2.1 = d.1 ∧ c.2.2.2.1 = d.2.1 ∧ c.2.2.2.2.2.2.1 = d.2.2.1 ∧ c.2.2.2.2.2.2.2 = d.2.2.2
def tieR (sz : Int) (x : Rs) (c : Cd) : Prop := c.1 = 0 ∧ (∀ i, 0 ≤ c.2.2.2.2.2.1 i ∧ c.2.2.2.2.2.1 i < 256) ∧ xOk sz x ∧ tR x c
theorem tieR.ok {sz n : Int} {x : Rs} {c : Cd} (h : tieR sz x c) : cOk sz n c := by
  obtain ⟨h1, h2, h3, h4⟩ := h
  cases x with
  | inl b =>
    have h4 : c.2.1 = b ∧ 1 ≤ b ∧ b ≤ 4 := h4
    exact ⟨h2, Or.inl h1, by omega, Or.inl (by omega)⟩
  | inr d =>
    obtain ⟨k1, k2, k3, k4, k5⟩ : c.2.1 = 0 ∧ c.2.2.1 = d.1 ∧ c.2.2.2.1 = d.2.1 ∧ c.2.2.2.2.2.2.1 = d.2.2.1 ∧ c.2.2.2.2.2.2.2 = d.2.2.2 := h4
    obtain ⟨q1, q2, q3, q4, q5, q6⟩ : dOk sz d := h3
    exact ⟨h2, Or.inl h1, by omega, Or.inr ⟨by rw [k2]; exact q1, by omega, by omega, fun e => by omega, fun _ => by omega⟩⟩
theorem tR_wide {pk : Int → Int} {sz : Int} {X G : Int → Int} {r pl cd nx : Int} (hG : ∀ i, 0 ≤ G i ∧ G i < 256) (n2 : nx ≤ sz) {y : Rs} (hy : (if r < 16777216 then (if nx < sz then .inr (X, r * 256, cd * 256 + pk nx, nx + 1) else .inl 1) else .inr (X, r, cd, nx) : Rs) = y) (ok : xOk sz y) : tieR sz y (mWide pk sz (0, 0, X, r, pl, G, cd, nx)) := by
  by_cases hr : r < 16777216
  · rw [if_pos hr] at hy
    have e1 : mWide pk sz (0, 0, X, r, pl, G, cd, nx) = mRead pk sz (0, 0, X, 256 * r, pl, G, cd, nx) := (if_pos hr).trans (if_neg (fun h => absurd (show (0 : Int) = 1 from h) (by decide)))
    rw [e1]
    by_cases hn : nx < sz
    · rw [if_pos hn] at hy
      have e2 : mRead pk sz (0, 0, X, 256 * r, pl, G, cd, nx) = (0, 0, X, 256 * r, pl, G, 256 * cd + pk nx, nx + 1) := if_neg (fun h => by have h9 : nx = sz := h; omega)
      rw [e2]
      subst hy
      exact ⟨rfl, hG, ok, rfl, rfl, by show 256 * r = r * 256; omega, by show 256 * cd + pk nx = cd * 256 + pk nx; omega, rfl⟩
    · rw [if_neg hn] at hy
      have e2 : mRead pk sz (0, 0, X, 256 * r, pl, G, cd, nx) = (0, 1, X, 256 * r, pl, G, cd, nx) := if_pos (show nx = sz by omega)
      rw [e2]
      subst hy
      exact ⟨rfl, hG, ok, rfl, by decide, by decide⟩
  · rw [if_neg hr] at hy
    have e1 : mWide pk sz (0, 0, X, r, pl, G, cd, nx) = (0, 0, X, r, pl, G, cd, nx) := if_neg hr
    rw [e1]
    subst hy
    exact ⟨rfl, hG, ok, rfl, rfl, rfl, rfl, rfl⟩
theorem tR_bit {pk : Int → Int} {sz : Int} (hp : ∀ j, 0 ≤ pk j ∧ pk j < 256) {x : Rs} {c : Cd} (h : tieR sz x c) (a g : Int) : (mBit pk sz c a g).1 = (rBit pk sz a x).1 ∧ tieR sz (rBit pk sz a x).2 (mBit pk sz c a g).2 := by
  have okb := xOk_bit hp h.2.2.1 a
  cases x with
  | inl b =>
    have h4 : c.2.1 = b ∧ 1 ≤ b ∧ b ≤ 4 := h.2.2.2
    rw [mBit_bad (by omega)]
    exact ⟨rfl, h⟩
  | inr d =>
    obtain ⟨C, r, cd, nx⟩ := d
    obtain ⟨pa, bd, X, rg, pl, G, cd', nx'⟩ := c
    obtain ⟨h1, h2, h3, k1, k2, k3, k4, k5⟩ := h
    have h1 : pa = 0 := h1
    have k1 : bd = 0 := k1
    have k2 : X = C := k2
    have k3 : rg = r := k3
    have k4 : cd' = cd := k4
    have k5 : nx' = nx := k5
    subst h1 k1 k2 k3 k4 k5
    have n2 : nx' ≤ sz := h3.2.2.2.2.2
    have e0 : mBit pk sz (0, 0, X, rg, pl, G, cd', nx') a g = (mVal (0, 0, X, rg, pl, G, cd', nx') a g, mWide pk sz (mStep (0, 0, X, rg, pl, G, cd', nx') a (mVal (0, 0, X, rg, pl, G, cd', nx') a g))) := rfl
    rw [e0]
    have e1 : mVal (0, 0, X, rg, pl, G, cd', nx') a g = rbZ (X, rg, cd', nx') a := rfl
    rw [e1]
    refine ⟨rfl, ?_⟩
    by_cases hlt : cd' < bdZ (X, rg, cd', nx') a
    · have e2 : rbZ (X, rg, cd', nx') a = 0 := if_pos hlt
      have e3 : rrZ (X, rg, cd', nx') a = bdZ (X, rg, cd', nx') a := if_pos hlt
      have e4 : rcZ (X, rg, cd', nx') a = cd' := if_pos hlt
      rw [e2]
      refine tR_wide (X := zup X a (learnZ (X a) 0)) (G := G) (r := bdZ (X, rg, cd', nx') a) (pl := pl) (cd := cd') (nx := nx') h2 n2 ?_ okb
      show _ = rNext pk sz (X, rg, cd', nx') a
      unfold rNext
      rw [e2, e3, e4]
    · have e2 : rbZ (X, rg, cd', nx') a = 1 := if_neg hlt
      have e3 : rrZ (X, rg, cd', nx') a = rg - bdZ (X, rg, cd', nx') a := if_neg hlt
      have e4 : rcZ (X, rg, cd', nx') a = cd' - bdZ (X, rg, cd', nx') a := if_neg hlt
      rw [e2]
      refine tR_wide (X := zup X a (learnZ (X a) 1)) (G := G) (r := rg - bdZ (X, rg, cd', nx') a) (pl := pl) (cd := cd' - bdZ (X, rg, cd', nx') a) (nx := nx') h2 n2 ?_ okb
      show _ = rNext pk sz (X, rg, cd', nx') a
      unfold rNext
      rw [e2, e3, e4]
theorem tR_tree {pk : Int → Int} {sz : Int} (hp : ∀ j, 0 ≤ pk j ∧ pk j < 256) : ∀ (k : Nat) (a g m : Int) {x : Rs} {c : Cd}, tieR sz x c → (mTree pk sz k a g m c).1 = (rTree pk sz k a m x).1 ∧ tieR sz (rTree pk sz k a m x).2 (mTree pk sz k a g m c).2 := by
  intro k
  induction k with
  | zero => intro a g m x c h; exact ⟨rfl, h⟩
  | succ k ih =>
    intro a g m x c h
    have hb := tR_bit hp h (a + m) (bitZ g k)
    have h1 := ih a g (2 * m + (mBit pk sz c (a + m) (bitZ g k)).1) hb.2
    rw [hb.1] at h1
    show (mTree pk sz k a g (2 * m + (mBit pk sz c (a + m) (bitZ g k)).1) (mBit pk sz c (a + m) (bitZ g k)).2).1 = _ ∧ tieR sz _ (mTree pk sz k a g (2 * m + (mBit pk sz c (a + m) (bitZ g k)).1) (mBit pk sz c (a + m) (bitZ g k)).2).2
    rw [hb.1]
    exact h1
theorem tR_row {pk : Int → Int} {sz : Int} (hp : ∀ j, 0 ≤ pk j ∧ pk j < 256) : ∀ (r k : Nat) (a g m v : Int) {x : Rs} {c : Cd}, tieR sz x c → (mRow pk sz r k a g m v c).1 = (rRow pk sz r k a m v x).1 ∧ tieR sz (rRow pk sz r k a m v x).2 (mRow pk sz r k a g m v c).2 := by
  intro r
  induction r with
  | zero => intro k a g m v x c h; exact ⟨rfl, h⟩
  | succ r ih =>
    intro k a g m v x c h
    have hb := tR_bit hp h (a + m) (bitZ g k)
    have h1 := ih (k + 1) a g (2 * m + (mBit pk sz c (a + m) (bitZ g k)).1) (v + (mBit pk sz c (a + m) (bitZ g k)).1 * 2 ^ k) hb.2
    rw [hb.1] at h1
    show (mRow pk sz r (k + 1) a g (2 * m + (mBit pk sz c (a + m) (bitZ g k)).1) (v + (mBit pk sz c (a + m) (bitZ g k)).1 * 2 ^ k) (mBit pk sz c (a + m) (bitZ g k)).2).1 = _ ∧ tieR sz _ (mRow pk sz r (k + 1) a g (2 * m + (mBit pk sz c (a + m) (bitZ g k)).1) (v + (mBit pk sz c (a + m) (bitZ g k)).1 * 2 ^ k) (mBit pk sz c (a + m) (bitZ g k)).2).2
    rw [hb.1]
    exact h1
theorem tR_lit {pk : Int → Int} {sz : Int} (hp : ∀ j, 0 ≤ pk j ∧ pk j < 256) : ∀ (k : Nat) (pl ly g m as : Int) {x : Rs} {c : Cd}, tieR sz x c → (mLit pk sz k pl ly g m as c).1 = (rLit pk sz k pl ly m as x).1 ∧ tieR sz (rLit pk sz k pl ly m as x).2 (mLit pk sz k pl ly g m as c).2 := by
  intro k
  induction k with
  | zero => intro pl ly g m as x c h; exact ⟨rfl, h⟩
  | succ k ih =>
    intro pl ly g m as x c h
    have hb := tR_bit hp h (pl + treeZ as (bitZ ly k) * 256 + m) (bitZ g k)
    have h1 := ih pl ly g (2 * m + (mBit pk sz c (pl + treeZ as (bitZ ly k) * 256 + m) (bitZ g k)).1) (sameZ as (mBit pk sz c (pl + treeZ as (bitZ ly k) * 256 + m) (bitZ g k)).1 (bitZ ly k)) hb.2
    rw [hb.1] at h1
    show (mLit pk sz k pl ly g (2 * m + (mBit pk sz c (pl + treeZ as (bitZ ly k) * 256 + m) (bitZ g k)).1) (sameZ as (mBit pk sz c (pl + treeZ as (bitZ ly k) * 256 + m) (bitZ g k)).1 (bitZ ly k)) (mBit pk sz c (pl + treeZ as (bitZ ly k) * 256 + m) (bitZ g k)).2).1 = _ ∧ tieR sz _ (mLit pk sz k pl ly g (2 * m + (mBit pk sz c (pl + treeZ as (bitZ ly k) * 256 + m) (bitZ g k)).1) (sameZ as (mBit pk sz c (pl + treeZ as (bitZ ly k) * 256 + m) (bitZ g k)).1 (bitZ ly k)) (mBit pk sz c (pl + treeZ as (bitZ ly k) * 256 + m) (bitZ g k)).2).2
    rw [hb.1]
    exact h1
theorem tR_len {pk : Int → Int} {sz : Int} (hp : ∀ j, 0 ≤ pk j ∧ pk j < 256) (pl g : Int) {x : Rs} {c : Cd} (h : tieR sz x c) : (mLen pk sz pl g c).1 = (rLen pk sz pl x).1 ∧ tieR sz (rLen pk sz pl x).2 (mLen pk sz pl g c).2 := by
  have h0 := tR_bit hp h pl (lt8 g)
  have h1 := tR_bit hp h0.2 (pl + 1) (lt16 g)
  unfold mLen rLen
  rw [h0.1, h1.1]
  split
  · have h2 := tR_tree hp 3 (pl + 2) g 1 h0.2
    exact ⟨by show _ - 8 = _ - 8; rw [h2.1], h2.2⟩
  · split
    · have h2 := tR_tree hp 3 (pl + 10) (g - 8) 1 h1.2
      exact ⟨by show 8 + (_ - 8) = 8 + (_ - 8); rw [h2.1], h2.2⟩
    · have h2 := tR_tree hp 7 (pl + 18) (g - 16) 1 h1.2
      exact ⟨by show 16 + (_ - 128) = 16 + (_ - 128); rw [h2.1], h2.2⟩
theorem mTF_bad {c : Cd} {v : Vw} {kd mn d : Int} {k : Nat} (b0 : 0 < c.2.1) : mTF kd mn d k (c, v) = (c, v) := by
  have e1 : (if (c, v).1.2.1 = 0 ∧ (c, v).2.1.2.1 < d then (mSet (c, v).1 3, (c, v).2) else (c, v)) = (c, v) := if_neg (fun h => by have h2 : c.2.1 = 0 := h.1; omega)
  have e2 : (if (c, v).1.2.1 = 0 ∧ 120 < (c, v).2.1.2.1 + mn then (mSet (c, v).1 4, (c, v).2) else (c, v)) = (c, v) := if_neg (fun h => by have h2 : c.2.1 = 0 := h.1; omega)
  unfold mTF
  rw [e1]
  unfold mTF2
  rw [e2]
  exact if_pos b0
theorem mTF_3 {c : Cd} {v : Vw} {kd mn d : Int} {k : Nat} (b0 : c.2.1 = 0) (d1 : v.1.2.1 < d) : mTF kd mn d k (c, v) = (mSet c 3, v) := by
  have e1 : (if (c, v).1.2.1 = 0 ∧ (c, v).2.1.2.1 < d then (mSet (c, v).1 3, (c, v).2) else (c, v)) = (mSet c 3, v) := if_pos ⟨b0, d1⟩
  have e2 : (if (mSet c 3, v).1.2.1 = 0 ∧ 120 < (mSet c 3, v).2.1.2.1 + mn then (mSet (mSet c 3, v).1 4, (mSet c 3, v).2) else (mSet c 3, v)) = (mSet c 3, v) := if_neg (fun h => absurd (show (3 : Int) = 0 from h.1) (by decide))
  unfold mTF
  rw [e1]
  unfold mTF2
  rw [e2]
  exact if_pos (show (0 : Int) < 3 by decide)
theorem mTF_4 {c : Cd} {v : Vw} {kd mn d : Int} {k : Nat} (b0 : c.2.1 = 0) (d1 : ¬ v.1.2.1 < d) (m1 : 120 < v.1.2.1 + mn) : mTF kd mn d k (c, v) = (mSet c 4, v) := by
  have e1 : (if (c, v).1.2.1 = 0 ∧ (c, v).2.1.2.1 < d then (mSet (c, v).1 3, (c, v).2) else (c, v)) = (c, v) := if_neg (fun h => d1 h.2)
  have e2 : (if (c, v).1.2.1 = 0 ∧ 120 < (c, v).2.1.2.1 + mn then (mSet (c, v).1 4, (c, v).2) else (c, v)) = (mSet c 4, v) := if_pos ⟨b0, m1⟩
  unfold mTF
  rw [e1]
  unfold mTF2
  rw [e2]
  exact if_pos (show (0 : Int) < 4 by decide)
theorem tieR_set {sz b : Int} {d : De} {c : Cd} (h : tieR sz (.inr d) c) (b1 : 1 ≤ b) (b2 : b ≤ 4) : tieR sz (.inl b) (mSet c b) := ⟨h.1, h.2.1, trivial, rfl, b1, b2⟩
/-- what a packet that was read leaves -/
def tRo (sz : Int) (v : Vw) (q : Pk × Rs) (r : Int × Mw) : Prop :=
  (∃ b, q.2 = .inl b ∧ r.1 = 0 ∧ r.2.2 = v ∧ tieR sz (.inl b) r.2.1) ∨
  (∃ d', q.2 = .inr d' ∧ q.1.1 = 4 ∧ r.1 = 0 ∧ r.2.2 = v ∧ tieR sz (.inr d') r.2.1) ∨
  (∃ d', q.2 = .inr d' ∧ q.1.1 ≠ 4 ∧ rTold v.1.2.1 q.1 ≠ 0 ∧ r.1 = 0 ∧ r.2.2 = v ∧ tieR sz (.inl (rTold v.1.2.1 q.1)) r.2.1) ∨
  (∃ d', q.2 = .inr d' ∧ q.1.1 ≠ 4 ∧ rTold v.1.2.1 q.1 = 0 ∧ r.1 = 1 ∧ r.2.2 = vNote v (hTell v.1 q.1) q.1.1 q.1.2.1 (pkVal q.1) ∧ tieR sz (.inr d') r.2.1)
theorem tRo_bad {sz b : Int} {v : Vw} {q : Pk} {c : Cd} (h : tieR sz (.inl b) c) : tRo sz v (q, .inl b) (okB (c, v), (c, v)) := by
  have h4 : c.2.1 = b ∧ 1 ≤ b ∧ b ≤ 4 := h.2.2.2
  exact Or.inl ⟨b, rfl, if_neg (fun e => by have e9 : c.2.1 = 0 := e; omega), rfl, h⟩
theorem tRo_far {sz : Int} {v : Vw} {kd mn d ec : Int} {k : Nat} {y : Rs} {c : Cd} (h : tieR sz y c) (hkd : kd = 1 ∨ kd = 2 ∨ kd = 3) (hT : hTell v.1 (kd, mn, d, ec, 0) = (hRep mn.toNat d v.1.1 v.1.2.1, v.1.2.1 + mn, zup (hFront k v.1.2.2.1) 0 d, stCopy kd v.1.2.2.2)) :
    tRo sz v ((kd, mn, d, ec, 0), y) (okB (mTF kd mn d k (c, v)), mTF kd mn d k (c, v)) := by
  cases y with
  | inl b =>
    have h4 : c.2.1 = b ∧ 1 ≤ b ∧ b ≤ 4 := h.2.2.2
    rw [mTF_bad (by omega)]
    exact tRo_bad h
  | inr d' =>
    have h0 : c.2.1 = 0 := h.2.2.2.1
    have n4 : kd ≠ 4 := by omega
    have n0 : kd ≠ 0 := by omega
    by_cases c1 : v.1.2.1 < d
    · have e1 : rTold v.1.2.1 (kd, mn, d, ec, 0) = 3 := if_pos ⟨n0, c1⟩
      rw [mTF_3 h0 c1]
      exact Or.inr (Or.inr (Or.inl ⟨d', rfl, n4, by rw [e1]; decide, rfl, rfl, by rw [e1]; exact tieR_set h (by decide) (by decide)⟩))
    · by_cases c2 : 120 < v.1.2.1 + mn
      · have e1 : rTold v.1.2.1 (kd, mn, d, ec, 0) = 4 := (if_neg (fun e => c1 e.2)).trans (if_pos (show 120 - v.1.2.1 < mn by omega))
        rw [mTF_4 h0 c1 c2]
        exact Or.inr (Or.inr (Or.inl ⟨d', rfl, n4, by rw [e1]; decide, rfl, rfl, by rw [e1]; exact tieR_set h (by decide) (by decide)⟩))
      · have e1 : rTold v.1.2.1 (kd, mn, d, ec, 0) = 0 := (if_neg (fun e => c1 e.2)).trans (if_neg (show ¬ 120 - v.1.2.1 < mn by omega))
        rw [mTF_go h0 (by omega) (by omega)]
        exact Or.inr (Or.inr (Or.inr ⟨d', rfl, n4, e1, if_pos h0, by rw [hT]; show vNote v _ kd mn d = vNote v _ kd mn (pkVal (kd, mn, d, ec, 0)); rw [show pkVal (kd, mn, d, ec, 0) = d from if_neg n0], h⟩))
theorem tRo_lit {sz : Int} {v : Vw} {b : Int} {y : Rs} {c : Cd} (h : tieR sz y c) (n2 : v.1.2.1 ≤ 120) : tRo sz v ((0, 1, 0, 0, b), y) (okB (mTL (c, v) b), mTL (c, v) b) := by
  cases y with
  | inl b' =>
    have h4 : c.2.1 = b' ∧ 1 ≤ b' ∧ b' ≤ 4 := h.2.2.2
    have e : mTL (c, v) b = (c, v) := by
      unfold mTL mTL3
      rw [if_neg (fun e => by have e9 : c.2.1 = 0 := e.1; omega), if_pos (by show 0 < c.2.1; omega)]
    rw [e]
    exact tRo_bad h
  | inr d' =>
    have h0 : c.2.1 = 0 := h.2.2.2.1
    by_cases c1 : v.1.2.1 = 120
    · have e1 : rTold v.1.2.1 (0, 1, 0, 0, b) = 4 := (if_neg (fun e => e.1 rfl)).trans (if_pos (show 120 - v.1.2.1 < 1 by omega))
      have e : mTL (c, v) b = (mSet c 4, v) := if_pos ⟨h0, c1⟩
      rw [e]
      exact Or.inr (Or.inr (Or.inl ⟨d', rfl, (show (0 : Int) ≠ 4 by decide), by rw [e1]; decide, rfl, rfl, by rw [e1]; exact tieR_set h (by decide) (by decide)⟩))
    · have e1 : rTold v.1.2.1 (0, 1, 0, 0, b) = 0 := (if_neg (fun e => e.1 rfl)).trans (if_neg (show ¬ 120 - v.1.2.1 < 1 by omega))
      rw [mTL_go h0 (by omega)]
      exact Or.inr (Or.inr (Or.inr ⟨d', rfl, (show (0 : Int) ≠ 4 by decide), e1, if_pos h0, rfl, h⟩))
theorem tR_ec {pk : Int → Int} {sz : Int} (hp : ∀ j, 0 ≤ pk j ∧ pk j < 256) {v : Vw} {k : Int} (k1 : 0 ≤ k) {y : Rs} {c : Cd} (h : tieR sz y c) : tRo sz v (rEc pk sz v.1.2.2.1 k y) (okB (mPE2 pk sz v (k, c)), mPE2 pk sz v (k, c)) := by
  have h1 := tR_len hp 218 (v.2.2.2.2.1 - 2) h
  have e : mPE2 pk sz v (k, c) = mTF 2 ((rLen pk sz 218 y).1 + 2) (v.1.2.2.1 k) k.toNat ((mLen pk sz 218 (v.2.2.2.2.1 - 2) c).2, v) := by
    unfold mPE2
    rw [if_neg (show ¬ (k, c).1 < 0 by show ¬ k < 0; omega)]
    show mTF 2 (2 + (mLen pk sz 218 (v.2.2.2.2.1 - 2) c).1) (v.1.2.2.1 k) k.toNat _ = _
    rw [h1.1, Int.add_comm 2]
    rfl
  rw [e]
  exact tRo_far h1.2 (Or.inr (Or.inl rfl)) rfl
theorem tR_rep {pk : Int → Int} {sz : Int} (hp : ∀ j, 0 ≤ pk j ∧ pk j < 256) {v : Vw} {x : Rs} {c : Cd} (h : tieR sz x c) : tRo sz v (rRep pk sz v.1.2.2.1 v.1.2.2.2 x) (mPE pk sz v c) := by
  have h0 := tR_bit hp h (24 + v.1.2.2.2) (gt0 (ecG v))
  unfold mPE mEcho rRep
  rw [h0.1]
  split
  · have h1 := tR_bit hp h0.2 (36 + v.1.2.2.2) (ge0 (ecG v))
    rw [h1.1]
    split
    · generalize (mBit pk sz (mBit pk sz c (24 + v.1.2.2.2) (gt0 (ecG v))).2 (36 + v.1.2.2.2) (ge0 (ecG v))).2 = c2 at h1
      have e : mPE2 pk sz v (-1, c2) = mTF 3 1 (v.1.2.2.1 0) 0 (c2, v) := if_pos (show (-1 : Int) < 0 by decide)
      rw [e]
      refine tRo_far h1.2 (Or.inr (Or.inr rfl)) ?_
      show (hRep (1 : Int).toNat (v.1.2.2.1 0) v.1.1 v.1.2.1, v.1.2.1 + 1, v.1.2.2.1, stCopy 3 v.1.2.2.2) = (hRep (1 : Int).toNat (v.1.2.2.1 0) v.1.1 v.1.2.1, v.1.2.1 + 1, zup v.1.2.2.1 0 (v.1.2.2.1 0), stCopy 3 v.1.2.2.2)
      rw [zup_id]
    · exact tR_ec hp (by decide) h1.2
  · have h1 := tR_bit hp h0.2 (48 + v.1.2.2.2) (gt1 (ecG v))
    rw [h1.1]
    split
    · exact tR_ec hp (by decide) h1.2
    · have h2 := tR_bit hp h1.2 (60 + v.1.2.2.2) (gt2 (ecG v))
      rw [h2.1]
      have hb := rBit_01 pk sz (60 + v.1.2.2.2) (rBit pk sz (48 + v.1.2.2.2) (rBit pk sz (24 + v.1.2.2.2) x).2).2
      exact tR_ec hp (by omega) h2.2
theorem tR_far {sz s : Int} {y : Rs} {c : Cd} (h : tieR sz y c) (hs : s = 14) : ∃ b, rFar y = .inl b ∧ tieR sz (.inl b) (mFar c s) := by
  cases y with
  | inl b =>
    have h4 : c.2.1 = b ∧ 1 ≤ b ∧ b ≤ 4 := h.2.2.2
    refine ⟨b, rfl, ?_⟩
    rw [show mFar c s = c from if_neg (fun e => by omega)]
    exact h
  | inr d =>
    refine ⟨3, rfl, ?_⟩
    rw [show mFar c s = mSet c 3 from if_pos ⟨hs, h.2.2.2.1⟩]
    exact tieR_set h (by decide) (by decide)
theorem tR_dst {pk : Int → Int} {sz : Int} (hp : ∀ j, 0 ≤ pk j ∧ pk j < 256) (g s : Int) {y : Rs} {c : Cd} (h : tieR sz y c) : (mDst pk sz g s c).1 + 1 = (rDist pk sz s y).1 ∧ tieR sz (rDist pk sz s y).2 (mDst pk sz g s c).2 := by
  unfold mDst rDist
  split
  · exact ⟨rfl, h⟩
  · have h1 := tR_row hp (s / 2 - 1).toNat 0 (428 + (s - 4) * 32) (g % 2 ^ (s / 2 - 1).toNat) 1 0 h
    exact ⟨by show _ + _ + 1 = _ + _ + 1; rw [h1.1], h1.2⟩
theorem tR_match {pk : Int → Int} {sz : Int} (hp : ∀ j, 0 ≤ pk j ∧ pk j < 256) {v : Vw} {x : Rs} {c : Cd} (h : tieR sz x c) : tRo sz v (rMatch pk sz x) (mPM pk sz v c) := by
  have h0 := tR_len hp 72 (v.2.2.2.2.1 - 2) h
  have e0 : mPM pk sz v c = mPM2 pk sz v (rLen pk sz 72 x).1 (mDist pk sz (rLen pk sz 72 x).1 (v.2.2.2.2.2.1 - 1) (mLen pk sz 72 (v.2.2.2.2.1 - 2) c).2) := by
    rw [← h0.1]; rfl
  rw [e0]
  generalize (mLen pk sz 72 (v.2.2.2.2.1 - 2) c).2 = c1 at h0
  generalize v.2.2.2.2.2.1 - 1 = g
  have h1 : (mSlot pk sz (rLen pk sz 72 x).1 g c1).1 = (rSlot pk sz x).1 ∧ tieR sz (rSlot pk sz x).2 (mSlot pk sz (rLen pk sz 72 x).1 g c1).2 := tR_tree hp 4 (364 + min (rLen pk sz 72 x).1 3 * 16) (mDue g) 1 h0.2
  have hs := mSlot_b pk sz (rLen pk sz 72 x).1 g c1
  unfold mDist rMatch
  rw [h1.1] at hs ⊢
  generalize mSlot pk sz (rLen pk sz 72 x).1 g c1 = z at h1
  generalize rSlot pk sz x = y at h1 hs
  by_cases c31 : y.1 = 31
  · rw [if_pos c31, if_pos c31]
    have e1 : mPM2 pk sz v (rLen pk sz 72 x).1 (-1, z.2) = (0, (z.2, v)) := if_pos (show (-1 : Int) < 0 by decide)
    rw [e1]
    have h2 := h1.2
    obtain ⟨y1, y2⟩ := y
    cases y2 with
    | inl b => exact Or.inl ⟨b, rfl, rfl, rfl, h2⟩
    | inr d' => exact Or.inr (Or.inl ⟨d', rfl, rfl, rfl, rfl, h2⟩)
  · rw [if_neg c31, if_neg c31]
    by_cases c30 : y.1 = 30
    · rw [if_pos c30]
      obtain ⟨b, hb, ht⟩ := tR_far (s := y.1 - 16) h1.2 (by omega)
      have h2 := tR_dst hp g (y.1 - 16) ht
      have hv := mDst_b pk sz g (sl := y.1 - 16) (by omega) (by omega) (mFar z.2 (y.1 - 16))
      rw [rDist_bad2 rfl] at h2
      rw [hb]
      generalize mDst pk sz g (y.1 - 16) (mFar z.2 (y.1 - 16)) = w at h2 hv
      have h4 : w.2.2.1 = b ∧ 1 ≤ b ∧ b ≤ 4 := h2.2.2.2.2
      unfold mPM2
      rw [if_neg (by omega), mTF_bad (by omega)]
      exact tRo_bad h2.2
    · rw [if_neg c30]
      have ef : mFar z.2 (y.1 - 16) = z.2 := if_neg (fun e => by omega)
      rw [ef]
      have h2 := tR_dst hp g (y.1 - 16) h1.2
      have hv := mDst_b pk sz g (sl := y.1 - 16) (by omega) (by omega) z.2
      generalize mDst pk sz g (y.1 - 16) z.2 = w at h2 hv
      unfold mPM2
      rw [if_neg (by omega), h2.1]
      exact tRo_far h2.2 (Or.inl rfl) rfl
theorem tR_pkt {pk : Int → Int} {sz : Int} (hp : ∀ j, 0 ≤ pk j ∧ pk j < 256) {v : Vw} (n2 : v.1.2.1 ≤ 120) {x : Rs} {c : Cd} (h : tieR sz x c) : tRo sz v (rPkt pk sz v.1 x) (mPkt pk sz v c) := by
  have h0 := tR_bit hp h v.1.2.2.2 (ne0 v.2.2.2.1)
  have h1 := tR_bit hp h0.2 (12 + v.1.2.2.2) (gt1 v.2.2.2.1)
  unfold mPkt rPkt
  rw [h0.1, h1.1]
  split
  · have h2 := tR_lit hp 8 (hPlace v.1) (hBefore v.1 (v.1.2.2.1 0)) v.2.2.2.2.2.1 1 (hAs v.1) h0.2
    have e : (mLt pk sz v.1 v.2.2.2.2.2.1 (mBit pk sz c v.1.2.2.2 (ne0 v.2.2.2.1)).2).1 = (rLt pk sz v.1 (rBit pk sz v.1.2.2.2 x).2).1 := by
      show _ - 256 = _ - 256
      rw [h2.1]
    unfold mPL
    rw [e]
    exact tRo_lit h2.2 n2
  · split
    · exact tR_match hp h1.2
    · exact tR_rep hp h1.2
