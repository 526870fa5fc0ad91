/-! reading trees, rows, lengths -/
theorem xOk_bit {pk : Int → Int} {sz : Int} (hp : ∀ j, 0 ≤ pk j ∧ pk j < 256) {x : Rs} (h : xOk sz x) (a : Int) : xOk sz (rBit pk sz a x).2 := by
  cases x with
  | inl b => exact h
  | inr d => exact dOk_next hp h a
theorem xOk_tree {pk : Int → Int} {sz : Int} (hp : ∀ j, 0 ≤ pk j ∧ pk j < 256) : ∀ (k : Nat) (a m : Int) {x : Rs}, xOk sz x → xOk sz (rTree pk sz k a m x).2 := by
  intro k
  induction k with
  | zero => intro a m x h; exact h
  | succ k ih => intro a m x h; exact ih a _ (xOk_bit hp h _)
theorem xOk_row {pk : Int → Int} {sz : Int} (hp : ∀ j, 0 ≤ pk j ∧ pk j < 256) : ∀ (r k : Nat) (a m v : Int) {x : Rs}, xOk sz x → xOk sz (rRow pk sz r k a m v x).2 := by
  intro r
  induction r with
  | zero => intro k a m v x h; exact h
  | succ r ih => intro k a m v x h; exact ih _ a _ _ (xOk_bit hp h _)
theorem xOk_lit {pk : Int → Int} {sz : Int} (hp : ∀ j, 0 ≤ pk j ∧ pk j < 256) : ∀ (k : Nat) (pl ly m as : Int) {x : Rs}, xOk sz x → xOk sz (rLit pk sz k pl ly m as x).2 := by
  intro k
  induction k with
  | zero => intro pl ly m as x h; exact h
  | succ k ih => intro pl ly m as x h; exact ih pl ly _ _ (xOk_bit hp h _)
theorem xOk_len {pk : Int → Int} {sz : Int} (hp : ∀ j, 0 ≤ pk j ∧ pk j < 256) (pl : Int) {x : Rs} (h : xOk sz x) : xOk sz (rLen pk sz pl x).2 := by
  unfold rLen
  split
  · exact xOk_tree hp 3 _ _ (xOk_bit hp h _)
  · split
    · exact xOk_tree hp 3 _ _ (xOk_bit hp (xOk_bit hp h _) _)
    · exact xOk_tree hp 7 _ _ (xOk_bit hp (xOk_bit hp h _) _)
theorem rTree_b (pk : Int → Int) (sz : Int) : ∀ (k : Nat) (a m : Int) (x : Rs), m * 2 ^ k ≤ (rTree pk sz k a m x).1 ∧ (rTree pk sz k a m x).1 < (m + 1) * 2 ^ k := by
  intro k
  induction k with
  | zero => intro a m x; show m * 2 ^ 0 ≤ m ∧ m < (m + 1) * 2 ^ 0; omega
  | succ k ih =>
    intro a m x
    have h1 := ih a (2 * m + (rBit pk sz (a + m) x).1) (rBit pk sz (a + m) x).2
    have hb := rBit_01 pk sz (a + m) x
    have h2 : (0 : Int) ≤ 2 ^ k := Int.le_of_lt (Int.pow_pos (by decide))
    have e1 : m * 2 ^ (k + 1) = (2 * m) * 2 ^ k := by rw [Int.pow_succ, Int.mul_comm (2 ^ k) 2, ← Int.mul_assoc, Int.mul_comm m 2]
    have e2 : (m + 1) * 2 ^ (k + 1) = (2 * (m + 1)) * 2 ^ k := by rw [Int.pow_succ, Int.mul_comm (2 ^ k) 2, ← Int.mul_assoc, Int.mul_comm (m + 1) 2]
    have e3 := Int.mul_le_mul_of_nonneg_right (show 2 * m ≤ 2 * m + (rBit pk sz (a + m) x).1 by omega) h2
    have e4 := Int.mul_le_mul_of_nonneg_right (show 2 * m + (rBit pk sz (a + m) x).1 + 1 ≤ 2 * (m + 1) by omega) h2
    show m * 2 ^ (k + 1) ≤ (rTree pk sz k a _ _).1 ∧ (rTree pk sz k a _ _).1 < (m + 1) * 2 ^ (k + 1)
    omega
theorem rRow_b (pk : Int → Int) (sz : Int) : ∀ (r k : Nat) (a m v : Int) (x : Rs), v ≤ (rRow pk sz r k a m v x).1 ∧ (rRow pk sz r k a m v x).1 ≤ v + 2 ^ (r + k) - 2 ^ k := by
  intro r
  induction r with
  | zero =>
    intro k a m v x
    show v ≤ v ∧ v ≤ v + 2 ^ (0 + k) - 2 ^ k
    rw [Nat.zero_add]; omega
  | succ r ih =>
    intro k a m v x
    have h1 := ih (k + 1) a (2 * m + (rBit pk sz (a + m) x).1) (v + (rBit pk sz (a + m) x).1 * 2 ^ k) (rBit pk sz (a + m) x).2
    have hb := rBit_01 pk sz (a + m) x
    have h2 : (0 : Int) ≤ 2 ^ k := Int.le_of_lt (Int.pow_pos (by decide))
    have e1 : (2 : Int) ^ (k + 1) = 2 * 2 ^ k := by rw [Int.pow_succ, Int.mul_comm]
    have e2 : r + 1 + k = r + (k + 1) := by omega
    rw [e2]
    show v ≤ (rRow pk sz r (k + 1) a _ _ _).1 ∧ (rRow pk sz r (k + 1) a _ _ _).1 ≤ _
    rcases hb with hb | hb
    · rw [hb] at h1 ⊢; omega
    · rw [hb] at h1 ⊢; omega
theorem rLen_b (pk : Int → Int) (sz pl : Int) (x : Rs) : 0 ≤ (rLen pk sz pl x).1 ∧ (rLen pk sz pl x).1 ≤ 143 := by
  unfold rLen
  split
  · have h := rTree_b pk sz 3 (pl + 2) 1 (rBit pk sz pl x).2
    show 0 ≤ (rTree pk sz 3 (pl + 2) 1 (rBit pk sz pl x).2).1 - 8 ∧ (rTree pk sz 3 (pl + 2) 1 (rBit pk sz pl x).2).1 - 8 ≤ 143
    omega
  · split
    · have h := rTree_b pk sz 3 (pl + 10) 1 (rBit pk sz (pl + 1) (rBit pk sz pl x).2).2
      show 0 ≤ 8 + ((rTree pk sz 3 (pl + 10) 1 (rBit pk sz (pl + 1) (rBit pk sz pl x).2).2).1 - 8) ∧ 8 + ((rTree pk sz 3 (pl + 10) 1 (rBit pk sz (pl + 1) (rBit pk sz pl x).2).2).1 - 8) ≤ 143
      omega
    · have h := rTree_b pk sz 7 (pl + 18) 1 (rBit pk sz (pl + 1) (rBit pk sz pl x).2).2
      show 0 ≤ 16 + ((rTree pk sz 7 (pl + 18) 1 (rBit pk sz (pl + 1) (rBit pk sz pl x).2).2).1 - 128) ∧ 16 + ((rTree pk sz 7 (pl + 18) 1 (rBit pk sz (pl + 1) (rBit pk sz pl x).2).2).1 - 128) ≤ 143
      omega
theorem rBit_bad2 {pk : Int → Int} {sz a b : Int} {x : Rs} (h : x = .inl b) : (rBit pk sz a x).2 = .inl b := by subst h; rfl
theorem rTree_bad2 {pk : Int → Int} {sz b : Int} {x : Rs} (h : x = .inl b) (k : Nat) (a m : Int) : (rTree pk sz k a m x).2 = .inl b := by subst h; exact rTree_bad pk sz b k a m
theorem rRow_bad2 {pk : Int → Int} {sz b : Int} {x : Rs} (h : x = .inl b) (r k : Nat) (a m v : Int) : (rRow pk sz r k a m v x).2 = .inl b := by subst h; exact rRow_bad pk sz b r k a m v
theorem rLit_bad2 {pk : Int → Int} {sz b : Int} {x : Rs} (h : x = .inl b) (k : Nat) (pl ly m as : Int) : (rLit pk sz k pl ly m as x).2 = .inl b := by subst h; exact rLit_bad pk sz b k pl ly m as
theorem rLen_bad2 {pk : Int → Int} {sz b : Int} {x : Rs} (h : x = .inl b) (pl : Int) : (rLen pk sz pl x).2 = .inl b := by subst h; exact rLen_bad pk sz b pl
theorem rLen_in {pk : Int → Int} {sz b pl : Int} {x : Rs} (h : (rBit pk sz pl x).2 = .inl b) : (rLen pk sz pl x).2 = .inl b := by
  unfold rLen
  split
  · exact rTree_bad2 h _ _ _
  · split
    · exact rTree_bad2 (rBit_bad2 h) _ _ _
    · exact rTree_bad2 (rBit_bad2 h) _ _ _
theorem ok_of {sz : Int} {x : Rs} {d : De} (h : xOk sz x) (e : x = .inr d) : dOk sz d := by subst e; exact h
def rFar : Rs → Rs
  | .inl b => .inl b
  | .inr _ => .inl 3
def rDist (pk : Int → Int) (sz slot : Int) (x : Rs) : Int × Rs :=
  if slot < 4 then (slot + 1, x)
  else ((2 + slot % 2) * 2 ^ (slot / 2 - 1).toNat + (rRow pk sz (slot / 2 - 1).toNat 0 (428 + (slot - 4) * 32) 1 0 x).1 + 1, (rRow pk sz (slot / 2 - 1).toNat 0 (428 + (slot - 4) * 32) 1 0 x).2)
def rSlot (pk : Int → Int) (sz : Int) (x : Rs) : Int × Rs := rTree pk sz 4 (364 + min (rLen pk sz 72 x).1 3 * 16) 1 (rLen pk sz 72 x).2
def rMatch (pk : Int → Int) (sz : Int) (x : Rs) : Pk × Rs :=
  if (rSlot pk sz x).1 = 31 then ((4, 0, 0, 0, 0), (rSlot pk sz x).2)
  else if (rSlot pk sz x).1 = 30 then ((4, 0, 0, 0, 0), rFar (rSlot pk sz x).2)
  else ((1, (rLen pk sz 72 x).1 + 2, (rDist pk sz ((rSlot pk sz x).1 - 16) (rSlot pk sz x).2).1, 0, 0), (rDist pk sz ((rSlot pk sz x).1 - 16) (rSlot pk sz x).2).2)
def rEc (pk : Int → Int) (sz : Int) (bk : Int → Int) (k : Int) (x : Rs) : Pk × Rs := ((2, (rLen pk sz 218 x).1 + 2, bk k, k, 0), (rLen pk sz 218 x).2)
def rRep (pk : Int → Int) (sz : Int) (bk : Int → Int) (s : Int) (x : Rs) : Pk × Rs :=
  if (rBit pk sz (24 + s) x).1 = 0 then
    (if (rBit pk sz (36 + s) (rBit pk sz (24 + s) x).2).1 = 0 then ((3, 1, bk 0, 0, 0), (rBit pk sz (36 + s) (rBit pk sz (24 + s) x).2).2)
     else rEc pk sz bk 0 (rBit pk sz (36 + s) (rBit pk sz (24 + s) x).2).2)
  else if (rBit pk sz (48 + s) (rBit pk sz (24 + s) x).2).1 = 0 then rEc pk sz bk 1 (rBit pk sz (48 + s) (rBit pk sz (24 + s) x).2).2
  else rEc pk sz bk (2 + (rBit pk sz (60 + s) (rBit pk sz (48 + s) (rBit pk sz (24 + s) x).2).2).1) (rBit pk sz (60 + s) (rBit pk sz (48 + s) (rBit pk sz (24 + s) x).2).2).2
def rLt (pk : Int → Int) (sz : Int) (t : Hs) (x : Rs) : Int × Rs := ((rLit pk sz 8 (hPlace t) (hBefore t (t.2.2.1 0)) 1 (hAs t) x).1 - 256, (rLit pk sz 8 (hPlace t) (hBefore t (t.2.2.1 0)) 1 (hAs t) x).2)
def rPkt (pk : Int → Int) (sz : Int) (t : Hs) (x : Rs) : Pk × Rs :=
  if (rBit pk sz t.2.2.2 x).1 = 0 then ((0, 1, 0, 0, (rLt pk sz t (rBit pk sz t.2.2.2 x).2).1), (rLt pk sz t (rBit pk sz t.2.2.2 x).2).2)
  else if (rBit pk sz (12 + t.2.2.2) (rBit pk sz t.2.2.2 x).2).1 = 0 then rMatch pk sz (rBit pk sz (12 + t.2.2.2) (rBit pk sz t.2.2.2 x).2).2
  else rRep pk sz t.2.2.1 t.2.2.2 (rBit pk sz (12 + t.2.2.2) (rBit pk sz t.2.2.2 x).2).2
theorem rDist_bad2 {pk : Int → Int} {sz b : Int} {x : Rs} (h : x = .inl b) (slot : Int) : (rDist pk sz slot x).2 = .inl b := by
  unfold rDist
  split
  · exact h
  · exact rRow_bad2 h _ _ _ _ _
theorem rSlot_in {pk : Int → Int} {sz b : Int} {x : Rs} (h : (rLen pk sz 72 x).2 = .inl b) : (rSlot pk sz x).2 = .inl b := rTree_bad2 h _ _ _
theorem rMatch_in {pk : Int → Int} {sz b : Int} {x : Rs} (h : (rSlot pk sz x).2 = .inl b) : (rMatch pk sz x).2 = .inl b := by
  unfold rMatch
  split
  · exact h
  · split
    · show rFar (rSlot pk sz x).2 = _; rw [h]; rfl
    · exact rDist_bad2 h _
theorem rMatch_bad2 {pk : Int → Int} {sz b : Int} {x : Rs} (h : x = .inl b) : (rMatch pk sz x).2 = .inl b := rMatch_in (rSlot_in (rLen_bad2 h _))
theorem rEc_bad2 {pk : Int → Int} {sz b : Int} {bk : Int → Int} {k : Int} {x : Rs} (h : x = .inl b) : (rEc pk sz bk k x).2 = .inl b := rLen_bad2 h _
theorem rRep_in {pk : Int → Int} {sz b s : Int} {bk : Int → Int} {x : Rs} (h : (rBit pk sz (24 + s) x).2 = .inl b) : (rRep pk sz bk s x).2 = .inl b := by
  unfold rRep
  split
  · split
    · exact rBit_bad2 h
    · exact rEc_bad2 (rBit_bad2 h)
  · split
    · exact rEc_bad2 (rBit_bad2 h)
    · exact rEc_bad2 (rBit_bad2 (rBit_bad2 h))
theorem rRep_bad2 {pk : Int → Int} {sz b s : Int} {bk : Int → Int} {x : Rs} (h : x = .inl b) : (rRep pk sz bk s x).2 = .inl b := rRep_in (rBit_bad2 h)
theorem rPkt_in {pk : Int → Int} {sz b : Int} {t : Hs} {x : Rs} (h : (rBit pk sz t.2.2.2 x).2 = .inl b) : (rPkt pk sz t x).2 = .inl b := by
  unfold rPkt
  split
  · exact rLit_bad2 h _ _ _ _ _
  · split
    · exact rMatch_bad2 (rBit_bad2 h)
    · exact rRep_bad2 (rBit_bad2 h)
theorem xOk_dist {pk : Int → Int} {sz : Int} (hp : ∀ j, 0 ≤ pk j ∧ pk j < 256) {x : Rs} (h : xOk sz x) (slot : Int) : xOk sz (rDist pk sz slot x).2 := by
  unfold rDist
  split
  · exact h
  · exact xOk_row hp _ _ _ _ _ h
theorem xOk_slot {pk : Int → Int} {sz : Int} (hp : ∀ j, 0 ≤ pk j ∧ pk j < 256) {x : Rs} (h : xOk sz x) : xOk sz (rSlot pk sz x).2 := xOk_tree hp _ _ _ (xOk_len hp _ h)
theorem xOk_match {pk : Int → Int} {sz : Int} (hp : ∀ j, 0 ≤ pk j ∧ pk j < 256) {x : Rs} (h : xOk sz x) : xOk sz (rMatch pk sz x).2 := by
  have h1 := xOk_slot hp h
  unfold rMatch
  split
  · exact h1
  · split
    · show xOk sz (rFar _)
      generalize (rSlot pk sz x).2 = y
      cases y <;> trivial
    · exact xOk_dist hp h1 _
theorem xOk_ec {pk : Int → Int} {sz : Int} (hp : ∀ j, 0 ≤ pk j ∧ pk j < 256) {bk : Int → Int} {k : Int} {x : Rs} (h : xOk sz x) : xOk sz (rEc pk sz bk k x).2 := xOk_len hp _ h
theorem xOk_rep {pk : Int → Int} {sz : Int} (hp : ∀ j, 0 ≤ pk j ∧ pk j < 256) {bk : Int → Int} {s : Int} {x : Rs} (h : xOk sz x) : xOk sz (rRep pk sz bk s x).2 := by
  unfold rRep
  split
  · split
    · exact xOk_bit hp (xOk_bit hp h _) _
    · exact xOk_ec hp (xOk_bit hp (xOk_bit hp h _) _)
  · split
    · exact xOk_ec hp (xOk_bit hp (xOk_bit hp h _) _)
    · exact xOk_ec hp (xOk_bit hp (xOk_bit hp (xOk_bit hp h _) _) _)
theorem xOk_pkt {pk : Int → Int} {sz : Int} (hp : ∀ j, 0 ≤ pk j ∧ pk j < 256) {t : Hs} {x : Rs} (h : xOk sz x) : xOk sz (rPkt pk sz t x).2 := by
  unfold rPkt
  split
  · exact xOk_lit hp _ _ _ _ _ (xOk_bit hp h _)
  · split
    · exact xOk_match hp (xOk_bit hp (xOk_bit hp h _) _)
    · exact xOk_rep hp (xOk_bit hp (xOk_bit hp h _) _)
theorem rDist_b (pk : Int → Int) (sz : Int) {slot : Int} (s1 : 0 ≤ slot) (s2 : slot ≤ 13) (x : Rs) : 1 ≤ (rDist pk sz slot x).1 ∧ (rDist pk sz slot x).1 ≤ 1000 := by
  unfold rDist
  split
  · show 1 ≤ slot + 1 ∧ slot + 1 ≤ 1000; omega
  · have h1 := rRow_b pk sz (slot / 2 - 1).toNat 0 (428 + (slot - 4) * 32) 1 0 x
    have h2 : (slot / 2 - 1).toNat ≤ 5 := by omega
    have h3 : (1 : Int) ≤ 2 ^ (slot / 2 - 1).toNat ∧ (2 : Int) ^ (slot / 2 - 1).toNat ≤ 32 := by
      have : (slot / 2 - 1).toNat = 0 ∨ (slot / 2 - 1).toNat = 1 ∨ (slot / 2 - 1).toNat = 2 ∨ (slot / 2 - 1).toNat = 3 ∨ (slot / 2 - 1).toNat = 4 ∨ (slot / 2 - 1).toNat = 5 := by omega
      rcases this with e | e | e | e | e | e <;> rw [e] <;> decide
    have h4 := Int.mul_le_mul_of_nonneg_left h3.2 (show 0 ≤ 2 + slot % 2 by omega)
    have h5 := Int.mul_nonneg (show 0 ≤ 2 + slot % 2 by omega) (show (0 : Int) ≤ 2 ^ (slot / 2 - 1).toNat by omega)
    rw [Nat.add_zero] at h1
    show 1 ≤ (2 + slot % 2) * 2 ^ (slot / 2 - 1).toNat + _ + 1 ∧ (2 + slot % 2) * 2 ^ (slot / 2 - 1).toNat + _ + 1 ≤ 1000
    omega
