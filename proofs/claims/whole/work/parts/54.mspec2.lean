/-! the reference: literals, lengths, distances, echoes -/
theorem zI_mask1 (z : Int) : zI z &&& zI (1 * 2 ^ 1 - 1) = zI (z % 2 ^ 1) := by
  apply Int32.toBitVec_inj.mp
  apply BitVec.eq_of_toNat_eq
  have hm : (zI (1 * 2 ^ 1 - 1)).toBitVec.toNat = 2 ^ 1 - 1 := by decide
  rw [Int32.toBitVec_and, BitVec.toNat_and, hm, Nat.and_two_pow_sub_one_eq_mod]
  show (BitVec.ofInt 32 z).toNat % 2 ^ 1 = (BitVec.ofInt 32 (z % 2 ^ 1)).toNat
  rw [BitVec.toNat_ofInt, BitVec.toNat_ofInt]
  omega
theorem zI_mask2 (z : Int) : zI z &&& zI (1 * 2 ^ 2 - 1) = zI (z % 2 ^ 2) := by
  apply Int32.toBitVec_inj.mp
  apply BitVec.eq_of_toNat_eq
  have hm : (zI (1 * 2 ^ 2 - 1)).toBitVec.toNat = 2 ^ 2 - 1 := by decide
  rw [Int32.toBitVec_and, BitVec.toNat_and, hm, Nat.and_two_pow_sub_one_eq_mod]
  show (BitVec.ofInt 32 z).toNat % 2 ^ 2 = (BitVec.ofInt 32 (z % 2 ^ 2)).toNat
  rw [BitVec.toNat_ofInt, BitVec.toNat_ofInt]
  omega
theorem zI_mask3 (z : Int) : zI z &&& zI (1 * 2 ^ 3 - 1) = zI (z % 2 ^ 3) := by
  apply Int32.toBitVec_inj.mp
  apply BitVec.eq_of_toNat_eq
  have hm : (zI (1 * 2 ^ 3 - 1)).toBitVec.toNat = 2 ^ 3 - 1 := by decide
  rw [Int32.toBitVec_and, BitVec.toNat_and, hm, Nat.and_two_pow_sub_one_eq_mod]
  show (BitVec.ofInt 32 z).toNat % 2 ^ 3 = (BitVec.ofInt 32 (z % 2 ^ 3)).toNat
  rw [BitVec.toNat_ofInt, BitVec.toNat_ofInt]
  omega
theorem zI_mask4 (z : Int) : zI z &&& zI (1 * 2 ^ 4 - 1) = zI (z % 2 ^ 4) := by
  apply Int32.toBitVec_inj.mp
  apply BitVec.eq_of_toNat_eq
  have hm : (zI (1 * 2 ^ 4 - 1)).toBitVec.toNat = 2 ^ 4 - 1 := by decide
  rw [Int32.toBitVec_and, BitVec.toNat_and, hm, Nat.and_two_pow_sub_one_eq_mod]
  show (BitVec.ofInt 32 z).toNat % 2 ^ 4 = (BitVec.ofInt 32 (z % 2 ^ 4)).toNat
  rw [BitVec.toNat_ofInt, BitVec.toNat_ofInt]
  omega
theorem zI_mask5 (z : Int) : zI z &&& zI (1 * 2 ^ 5 - 1) = zI (z % 2 ^ 5) := by
  apply Int32.toBitVec_inj.mp
  apply BitVec.eq_of_toNat_eq
  have hm : (zI (1 * 2 ^ 5 - 1)).toBitVec.toNat = 2 ^ 5 - 1 := by decide
  rw [Int32.toBitVec_and, BitVec.toNat_and, hm, Nat.and_two_pow_sub_one_eq_mod]
  show (BitVec.ofInt 32 z).toNat % 2 ^ 5 = (BitVec.ofInt 32 (z % 2 ^ 5)).toNat
  rw [BitVec.toNat_ofInt, BitVec.toNat_ofInt]
  omega
theorem zI_mask6 (z : Int) : zI z &&& zI (1 * 2 ^ 6 - 1) = zI (z % 2 ^ 6) := by
  apply Int32.toBitVec_inj.mp
  apply BitVec.eq_of_toNat_eq
  have hm : (zI (1 * 2 ^ 6 - 1)).toBitVec.toNat = 2 ^ 6 - 1 := by decide
  rw [Int32.toBitVec_and, BitVec.toNat_and, hm, Nat.and_two_pow_sub_one_eq_mod]
  show (BitVec.ofInt 32 z).toNat % 2 ^ 6 = (BitVec.ofInt 32 (z % 2 ^ 6)).toNat
  rw [BitVec.toNat_ofInt, BitVec.toNat_ofInt]
  omega
theorem zI_mask {n : Nat} (h1 : 1 ≤ n) (h2 : n ≤ 6) (z : Int) : zI z &&& zI (1 * 2 ^ n - 1) = zI (z % 2 ^ n) := by
  have : n = 1 ∨ n = 2 ∨ n = 3 ∨ n = 4 ∨ n = 5 ∨ n = 6 := by omega
  rcases this with rfl | rfl | rfl | rfl | rfl | rfl
  · exact zI_mask1 z
  · exact zI_mask2 z
  · exact zI_mask3 z
  · exact zI_mask4 z
  · exact zI_mask5 z
  · exact zI_mask6 z
def lt8 (g : Int) : Int := if g < 8 then 0 else 1
def lt16 (g : Int) : Int := if g < 16 then 0 else 1
def gt0 (g : Int) : Int := if 0 < g then 1 else 0
def gt1 (g : Int) : Int := if 1 < g then 1 else 0
def gt2 (g : Int) : Int := if 2 < g then 1 else 0
def ge0 (g : Int) : Int := if g < 0 then 0 else 1
theorem lt8_b (g : Int) : lt8 g = 0 ∨ lt8 g = 1 := by unfold lt8; split <;> omega
theorem lt16_b (g : Int) : lt16 g = 0 ∨ lt16 g = 1 := by unfold lt16; split <;> omega
theorem gt0_b (g : Int) : gt0 g = 0 ∨ gt0 g = 1 := by unfold gt0; split <;> omega
theorem gt1_b (g : Int) : gt1 g = 0 ∨ gt1 g = 1 := by unfold gt1; split <;> omega
theorem gt2_b (g : Int) : gt2 g = 0 ∨ gt2 g = 1 := by unfold gt2; split <;> omega
theorem ge0_b (g : Int) : ge0 g = 0 ∨ ge0 g = 1 := by unfold ge0; split <;> omega
def mLen (pk : Int → Int) (sz pl g : Int) (c : Cd) : Int × Cd :=
  if (mBit pk sz c pl (lt8 g)).1 = 0 then ((mTree pk sz 3 (pl + 2) g 1 (mBit pk sz c pl (lt8 g)).2).1 - 8, (mTree pk sz 3 (pl + 2) g 1 (mBit pk sz c pl (lt8 g)).2).2)
  else if (mBit pk sz (mBit pk sz c pl (lt8 g)).2 (pl + 1) (lt16 g)).1 = 0 then
    (8 + ((mTree pk sz 3 (pl + 10) (g - 8) 1 (mBit pk sz (mBit pk sz c pl (lt8 g)).2 (pl + 1) (lt16 g)).2).1 - 8), (mTree pk sz 3 (pl + 10) (g - 8) 1 (mBit pk sz (mBit pk sz c pl (lt8 g)).2 (pl + 1) (lt16 g)).2).2)
  else (16 + ((mTree pk sz 7 (pl + 18) (g - 16) 1 (mBit pk sz (mBit pk sz c pl (lt8 g)).2 (pl + 1) (lt16 g)).2).1 - 128), (mTree pk sz 7 (pl + 18) (g - 16) 1 (mBit pk sz (mBit pk sz c pl (lt8 g)).2 (pl + 1) (lt16 g)).2).2)
def mLt (pk : Int → Int) (sz : Int) (t : Hs) (g : Int) (c : Cd) : Int × Cd := ((mLit pk sz 8 (hPlace t) (hBefore t (t.2.2.1 0)) g 1 (hAs t) c).1 - 256, (mLit pk sz 8 (hPlace t) (hBefore t (t.2.2.1 0)) g 1 (hAs t) c).2)
theorem mLit_0 (pk : Int → Int) (sz : Int) : ∀ (k : Nat) (pl ly g m : Int) (c : Cd), mLit pk sz k pl ly g m 0 c = mTree pk sz k pl g m c := by
  intro k
  induction k with
  | zero => intro pl ly g m c; rfl
  | succ k ih =>
    intro pl ly g m c
    have e : pl + treeZ 0 (bitZ ly k) * 256 + m = pl + m := by show pl + 0 * 256 + m = pl + m; omega
    unfold mLit mTree
    rw [e]
    exact ih pl ly g _ _
def mDue (g : Int) : Int := if g < 0 then 15 else slotZ g
def mFar (c : Cd) (slot : Int) : Cd := if slot = 14 ∧ c.2.1 = 0 then (c.1, 3, c.2.2) else c
def mSlot (pk : Int → Int) (sz v g : Int) (c : Cd) : Int × Cd := mTree pk sz 4 (364 + min v 3 * 16) (mDue g) 1 c
def mDst (pk : Int → Int) (sz g slot : Int) (c : Cd) : Int × Cd :=
  if slot < 4 then (slot, c)
  else ((2 + slot % 2) * 2 ^ (slot / 2 - 1).toNat + (mRow pk sz (slot / 2 - 1).toNat 0 (428 + (slot - 4) * 32) (g % 2 ^ (slot / 2 - 1).toNat) 1 0 c).1, (mRow pk sz (slot / 2 - 1).toNat 0 (428 + (slot - 4) * 32) (g % 2 ^ (slot / 2 - 1).toNat) 1 0 c).2)
def mDist (pk : Int → Int) (sz v g : Int) (c : Cd) : Int × Cd :=
  if (mSlot pk sz v g c).1 = 31 then (-1, (mSlot pk sz v g c).2)
  else mDst pk sz g ((mSlot pk sz v g c).1 - 16) (mFar (mSlot pk sz v g c).2 ((mSlot pk sz v g c).1 - 16))
def mEcho (pk : Int → Int) (sz s g : Int) (c : Cd) : Int × Cd :=
  if (mBit pk sz c (24 + s) (gt0 g)).1 = 0 then
    ((if (mBit pk sz (mBit pk sz c (24 + s) (gt0 g)).2 (36 + s) (ge0 g)).1 = 0 then -1 else 0), (mBit pk sz (mBit pk sz c (24 + s) (gt0 g)).2 (36 + s) (ge0 g)).2)
  else if (mBit pk sz (mBit pk sz c (24 + s) (gt0 g)).2 (48 + s) (gt1 g)).1 = 0 then (1, (mBit pk sz (mBit pk sz c (24 + s) (gt0 g)).2 (48 + s) (gt1 g)).2)
  else (2 + (mBit pk sz (mBit pk sz (mBit pk sz c (24 + s) (gt0 g)).2 (48 + s) (gt1 g)).2 (60 + s) (gt2 g)).1, (mBit pk sz (mBit pk sz (mBit pk sz c (24 + s) (gt0 g)).2 (48 + s) (gt1 g)).2 (60 + s) (gt2 g)).2)
theorem mLen_ok {pk : Int → Int} {sz n : Int} (hp : ∀ j, 0 ≤ pk j ∧ pk j < 256) (pl g : Int) {c : Cd} (h : cOk sz (n + 9) c) : cOk sz n (mLen pk sz pl g c).2 := by
  have h1 : cOk sz (n + 8) _ := mBit_ok hp pl (lt8_b g) (h.le (by omega))
  have h2 : cOk sz (n + 7) _ := mBit_ok hp (pl + 1) (lt16_b g) (h1.le (by omega))
  unfold mLen
  split
  · exact mTree_ok hp 3 _ _ _ n _ (h1.le (by omega))
  · split
    · exact mTree_ok hp 3 _ _ _ n _ (h2.le (by omega))
    · exact mTree_ok hp 7 _ _ _ n _ h2
theorem mLen_b (pk : Int → Int) (sz pl g : Int) (c : Cd) : 0 ≤ (mLen pk sz pl g c).1 ∧ (mLen pk sz pl g c).1 ≤ 143 := by
  unfold mLen
  split
  · have h := mTree_b pk sz 3 (pl + 2) g 1 (mBit pk sz c pl (lt8 g)).2
    show 0 ≤ (mTree pk sz 3 (pl + 2) g 1 (mBit pk sz c pl (lt8 g)).2).1 - 8 ∧ (mTree pk sz 3 (pl + 2) g 1 (mBit pk sz c pl (lt8 g)).2).1 - 8 ≤ 143
    omega
  · generalize (mBit pk sz c pl (lt8 g)).2 = c1
    split
    · have h := mTree_b pk sz 3 (pl + 10) (g - 8) 1 (mBit pk sz c1 (pl + 1) (lt16 g)).2
      show 0 ≤ 8 + ((mTree pk sz 3 (pl + 10) (g - 8) 1 (mBit pk sz c1 (pl + 1) (lt16 g)).2).1 - 8) ∧ 8 + ((mTree pk sz 3 (pl + 10) (g - 8) 1 (mBit pk sz c1 (pl + 1) (lt16 g)).2).1 - 8) ≤ 143
      omega
    · have h := mTree_b pk sz 7 (pl + 18) (g - 16) 1 (mBit pk sz c1 (pl + 1) (lt16 g)).2
      show 0 ≤ 16 + ((mTree pk sz 7 (pl + 18) (g - 16) 1 (mBit pk sz c1 (pl + 1) (lt16 g)).2).1 - 128) ∧ 16 + ((mTree pk sz 7 (pl + 18) (g - 16) 1 (mBit pk sz c1 (pl + 1) (lt16 g)).2).1 - 128) ≤ 143
      omega
theorem mFar_ok {sz n : Int} {c : Cd} (h : cOk sz n c) (s : Int) : cOk sz n (mFar c s) := by
  unfold mFar
  split
  · exact ⟨h.1, h.2.1, by show (0 : Int) ≤ 3 ∧ (3 : Int) ≤ 4; omega, Or.inl (by show (0 : Int) < 3; decide)⟩
  · exact h
theorem mDst_ok {pk : Int → Int} {sz n : Int} (hp : ∀ j, 0 ≤ pk j ∧ pk j < 256) (g : Int) {s : Int} (s2 : s ≤ 15) {c : Cd} (h : cOk sz (n + 6) c) : cOk sz n (mDst pk sz g s c).2 := by
  unfold mDst
  split
  · exact h.le (by omega)
  · exact mRow_ok hp _ _ _ _ _ _ n _ (h.le (by omega))
theorem mSlot_b (pk : Int → Int) (sz v g : Int) (c : Cd) : 16 ≤ (mSlot pk sz v g c).1 ∧ (mSlot pk sz v g c).1 ≤ 31 := by
  have h := mTree_b pk sz 4 (364 + min v 3 * 16) (mDue g) 1 c
  unfold mSlot
  omega
theorem mDist_ok {pk : Int → Int} {sz n : Int} (hp : ∀ j, 0 ≤ pk j ∧ pk j < 256) (v g : Int) {c : Cd} (h : cOk sz (n + 10) c) : cOk sz n (mDist pk sz v g c).2 := by
  have h1 : cOk sz (n + 6) (mSlot pk sz v g c).2 := mTree_ok hp 4 _ _ _ _ _ (h.le (by omega))
  have hs := mSlot_b pk sz v g c
  unfold mDist
  split
  · exact h1.le (by omega)
  · exact mDst_ok hp g (by omega) (mFar_ok h1 _)
theorem mEcho_ok {pk : Int → Int} {sz n : Int} (hp : ∀ j, 0 ≤ pk j ∧ pk j < 256) (s g : Int) {c : Cd} (h : cOk sz (n + 3) c) : cOk sz n (mEcho pk sz s g c).2 := by
  have h1 : cOk sz (n + 2) _ := mBit_ok hp (24 + s) (gt0_b g) (h.le (by omega))
  unfold mEcho
  split
  · exact mBit_ok hp _ (ge0_b g) (h1.le (by omega))
  · have h2 : cOk sz (n + 1) _ := mBit_ok hp (48 + s) (gt1_b g) (h1.le (by omega))
    split
    · exact h2.le (by omega)
    · exact mBit_ok hp _ (gt2_b g) h2
theorem mEcho_b (pk : Int → Int) (sz s g : Int) (c : Cd) : -1 ≤ (mEcho pk sz s g c).1 ∧ (mEcho pk sz s g c).1 ≤ 3 := by
  unfold mEcho
  split
  · generalize (mBit pk sz c (24 + s) (gt0 g)).2 = c1
    show -1 ≤ (if (mBit pk sz c1 (36 + s) (ge0 g)).1 = 0 then -1 else 0 : Int) ∧ (if (mBit pk sz c1 (36 + s) (ge0 g)).1 = 0 then -1 else 0 : Int) ≤ 3
    split <;> omega
  · split
    · show -1 ≤ (1 : Int) ∧ (1 : Int) ≤ 3; omega
    · generalize (mBit pk sz (mBit pk sz c (24 + s) (gt0 g)).2 (48 + s) (gt1 g)).2 = c2
      have := mBit_01 (pk := pk) (sz := sz) (c := c2) (a := 60 + s) (gt2_b g)
      show -1 ≤ 2 + (mBit pk sz c2 (60 + s) (gt2 g)).1 ∧ 2 + (mBit pk sz c2 (60 + s) (gt2 g)).1 ≤ 3
      omega
theorem rg_st {s B : Int} (s1 : 0 ≤ s) (s2 : s < 72) : 0 ≤ s ∧ s < 3948 ∧ inv s = s := by
  refine ⟨s1, by omega, ?_⟩
  unfold inv
  repeat' split
  all_goals omega
theorem rg_lit {q : Int} (q1 : 0 ≤ q) (q2 : q ≤ 3) (x : Int) (x1 : 0 ≤ x) (x2 : x ≤ 2) : rg (72 + 768 * q + x * 256) (748 + q * 768 + x * 256) 256 := by
  intro j j1 j2
  refine ⟨by omega, by omega, ?_⟩
  unfold inv
  repeat' split
  all_goals omega
theorem rg_len {y x : Int} (y1 : 0 ≤ y) (y2 : y ≤ 1) (x1 : 0 ≤ x) (x2 : x ≤ 18) : rg (3144 + 146 * y + x) (72 + 146 * y + x) 128 := by
  intro j j1 j2
  refine ⟨by omega, by omega, ?_⟩
  unfold inv
  repeat' split
  all_goals omega
theorem rg_slot {x : Int} (x1 : 0 ≤ x) (x2 : x ≤ 3) : rg (3436 + 16 * x) (364 + x * 16) 16 := by
  intro j j1 j2
  refine ⟨by omega, by omega, ?_⟩
  unfold inv
  repeat' split
  all_goals omega
theorem rg_row {x : Int} (x1 : 4 ≤ x) (x2 : x ≤ 13) : rg (3500 + 32 * x) (428 + (x - 4) * 32) 32 := by
  intro j j1 j2
  refine ⟨by omega, by omega, ?_⟩
  unfold inv
  repeat' split
  all_goals omega
theorem rg.le {fr a B B' : Int} (h : rg fr a B) (hb : B' ≤ B) : rg fr a B' := fun j j1 j2 => h j j1 (by omega)
theorem rg.one {fr a B : Int} (h : rg fr a B) (hb : 0 < B) : 0 ≤ fr ∧ fr < 3948 ∧ inv fr = a := by have := h 0 (by omega) hb; rw [Int.add_zero, Int.add_zero] at this; exact this
