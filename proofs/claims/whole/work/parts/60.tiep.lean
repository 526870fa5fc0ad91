/-! what the reference packs is what the class packs -/
theorem raise_ag {N : Int} : ∀ (n : Nat) (c : Int) (g g' : Int → Int), (n : Int) ≤ N → (∀ i, 0 ≤ i → i < N → g i = g' i) → ∀ i, 0 ≤ i → i < N → raiseZ n c g i = raiseZ n c g' i := by
  intro n
  induction n with
  | zero => intro c g g' _ h; exact h
  | succ n ih =>
    intro c g g' hn h i i0 iN
    have e : g (n : Int) = g' (n : Int) := h _ (by omega) (by omega)
    unfold raiseZ
    split
    · rw [e]
      refine ih _ _ _ (by omega) ?_ i i0 iN
      intro j j0 jN
      unfold zup
      split
      · rfl
      · exact h j j0 jN
    · exact h i i0 iN
def tieP (e : En) (c : Cd) : Prop := eOk e ∧ c.1 = 1 ∧ c.2.1 = 0 ∧ c.2.2.1 = e.1 ∧ c.2.2.2.1 = e.2.2.2 ∧ c.2.2.2.2.1 = e.2.2.1 ∧ (∀ i, 0 ≤ c.2.2.2.2.2.1 i ∧ c.2.2.2.2.2.1 i < 256) ∧ (e.2.2.1 ≤ 200 → ∀ i, 0 ≤ i → i < e.2.2.1 → c.2.2.2.2.2.1 i = e.2.1 i)
theorem tieP.ok {e : En} {c : Cd} (h : tieP e c) {sz n : Int} (hn : e.2.2.1 + n ≤ 1600) : cOk sz n c := by
  obtain ⟨ok, h1, h2, h3, h4, h5, h6, h7⟩ := h
  refine ⟨h6, Or.inr h1, by omega, Or.inr ⟨?_, ?_, ?_, fun _ => ?_, fun h0 => ?_⟩⟩
  · rw [h3]; exact ok.1
  · rw [h4]; exact ok.2.2.2.2.1
  · rw [h4]; exact ok.2.2.2.2.2
  · rw [h5]; have := ok.2.2.2.1; omega
  · omega
theorem tP_wide {pk : Int → Int} {sz : Int} {X D G : Int → Int} {len r cd nx : Int} (ok : eOk (X, D, len + moreZ r, shiftZ r)) (hG : ∀ i, 0 ≤ G i ∧ G i < 256) (hz : ∀ i, len ≤ i → D i = 0) (ag : len ≤ 200 → ∀ i, 0 ≤ i → i < len → G i = D i) : tieP (X, D, len + moreZ r, shiftZ r) (mWide pk sz (1, 0, X, r, len, G, cd, nx)) := by
  by_cases hr : r < 16777216
  · have e1 : moreZ r = 1 := if_pos hr
    have e2 : shiftZ r = r * 256 := if_pos hr
    have e3 : mWide pk sz (1, 0, X, r, len, G, cd, nx) = (1, 0, X, 256 * r, len + 1, zup G len 0, cd, nx) := by
      unfold mWide
      exact (if_pos hr).trans (if_pos rfl)
    rw [e3]
    refine ⟨ok, rfl, rfl, rfl, ?_, ?_, zup_all (Q := fun z => 0 ≤ z ∧ z < 256) hG (by omega), ?_⟩
    · show 256 * r = shiftZ r; omega
    · show len + 1 = len + moreZ r; omega
    · intro hl i i0 i1
      have hl : len + moreZ r ≤ 200 := hl
      have i1 : i < len + moreZ r := i1
      show zup G len 0 i = D i
      unfold zup
      split
      · rename_i he; exact (hz i (by omega)).symm
      · exact ag (by omega) i i0 (by omega)
  · have e1 : moreZ r = 0 := if_neg hr
    have e2 : shiftZ r = r := if_neg hr
    have e3 : mWide pk sz (1, 0, X, r, len, G, cd, nx) = (1, 0, X, r, len, G, cd, nx) := if_neg hr
    rw [e3]
    refine ⟨ok, rfl, rfl, rfl, ?_, ?_, hG, ?_⟩
    · show r = shiftZ r; omega
    · show len = len + moreZ r; omega
    · intro hl i i0 i1
      have hl : len + moreZ r ≤ 200 := hl
      have i1 : i < len + moreZ r := i1
      exact ag (by omega) i i0 (by omega)
theorem tP_bit {pk : Int → Int} {sz : Int} {e : En} {c : Cd} (h : tieP e c) (a : Int) {g : Int} (hg : g = 0 ∨ g = 1) : (mBit pk sz c a g).1 = g ∧ tieP (eBit e a g) (mBit pk sz c a g).2 := by
  have okb := eOk_bit h.1 a g
  obtain ⟨C, D, len, r⟩ := e
  obtain ⟨pa, bd, X, rg, pl, G, cd, nx⟩ := c
  obtain ⟨ok, h1, h2, h3, h4, h5, h6, h7⟩ := h
  have h1 : pa = 1 := h1
  have h2 : bd = 0 := h2
  have h3 : X = C := h3
  have h4 : rg = r := h4
  have h5 : pl = len := h5
  subst h1 h2 h3 h4 h5
  have h6 : ∀ i, 0 ≤ G i ∧ G i < 256 := h6
  have h7 : pl ≤ 200 → ∀ i, 0 ≤ i → i < pl → G i = D i := h7
  have h8 : ∀ i, pl ≤ i → D i = 0 := ok.2.2.1
  have h9 : 4 ≤ pl := ok.2.2.2.1
  have e0 : mBit pk sz (1, 0, X, rg, pl, G, cd, nx) a g = (g, mWide pk sz (mStep (1, 0, X, rg, pl, G, cd, nx) a g)) := rfl
  rw [e0]
  refine ⟨rfl, ?_⟩
  rcases hg with hg | hg
  · subst hg
    have e1 : mStep (1, 0, X, rg, pl, G, cd, nx) a 0 = (1, 0, zup X a (learnZ (X a) 0), rg / 2048 * X a, pl, G, cd, nx) := rfl
    have e2 : eBit (X, D, pl, rg) a 0 = (zup X a (learnZ (X a) 0), D, pl + moreZ (rg / 2048 * X a), shiftZ (rg / 2048 * X a)) := rfl
    rw [e2] at okb
    rw [e1, e2]
    exact tP_wide okb h6 h8 h7
  · subst hg
    have e1 : mStep (1, 0, X, rg, pl, G, cd, nx) a 1 = (1, 0, zup X a (learnZ (X a) 1), rg - rg / 2048 * X a, pl, raiseZ pl.toNat (rg / 2048 * X a) G, cd, nx) := rfl
    have e2 : eBit (X, D, pl, rg) a 1 = (zup X a (learnZ (X a) 1), (if 200 < pl then D else raiseZ pl.toNat (rg / 2048 * X a) D), pl + moreZ (rg - rg / 2048 * X a), shiftZ (rg - rg / 2048 * X a)) := rfl
    rw [e2] at okb
    rw [e1, e2]
    refine tP_wide okb (raise_ok _ _ _ h6) ?_ ?_
    · intro i hi
      split
      · exact h8 i hi
      · rw [raise_hi _ _ _ _ (by omega)]; exact h8 i hi
    · intro hl i i0 i1
      rw [if_neg (by omega)]
      exact raise_ag _ _ _ _ (by omega) (h7 hl) i i0 i1
theorem mod_succ (g : Int) (k : Nat) : g % 2 ^ (k + 1) = bitZ g k * 2 ^ k + g % 2 ^ k := by
  have h2 : (0 : Int) < 2 ^ k := Int.pow_pos (by decide)
  rw [Int.pow_succ]
  unfold bitZ
  generalize (2 : Int) ^ k = q at h2 ⊢
  have e1 := Int.mul_ediv_add_emod g q
  have e2 := Int.emod_nonneg g (show q ≠ 0 by omega)
  have e3 := Int.emod_lt_of_pos g h2
  have e4 : g / q = 2 * (g / q / 2) + g / q % 2 := by omega
  have e5 : g = (g / q % 2 * q + g % q) + (q * 2) * (g / q / 2) := by
    have : q * (g / q) = (q * 2) * (g / q / 2) + g / q % 2 * q := by
      conv => lhs; rw [e4]
      rw [Int.mul_add, ← Int.mul_assoc, Int.mul_comm q (g / q % 2)]
    omega
  have e6 : 0 ≤ g / q % 2 * q + g % q ∧ g / q % 2 * q + g % q < q * 2 := by
    have : g / q % 2 = 0 ∨ g / q % 2 = 1 := by omega
    rcases this with e | e <;> rw [e] <;> omega
  generalize g / q % 2 * q + g % q = z at e5 e6 ⊢
  rw [e5, Int.add_mul_emod_self_left]
  exact Int.emod_eq_of_lt e6.1 e6.2
theorem tP_tree {pk : Int → Int} {sz : Int} : ∀ (k : Nat) (a g m : Int) {e : En} {c : Cd}, tieP e c → (mTree pk sz k a g m c).1 = m * 2 ^ k + g % 2 ^ k ∧ tieP (eTree k a g m e) (mTree pk sz k a g m c).2 := by
  intro k
  induction k with
  | zero =>
    intro a g m e c h
    refine ⟨?_, h⟩
    show m = m * 2 ^ 0 + g % 2 ^ 0
    rw [Int.pow_zero]
    omega
  | succ k ih =>
    intro a g m e c h
    have hb := tP_bit (pk := pk) (sz := sz) h (a + m) (bitZ_01 g k)
    have h1 := ih a g (2 * m + bitZ g k) hb.2
    have e1 : mTree pk sz (k + 1) a g m c = mTree pk sz k a g (2 * m + bitZ g k) (mBit pk sz c (a + m) (bitZ g k)).2 := by
      show mTree pk sz k a g (2 * m + (mBit pk sz c (a + m) (bitZ g k)).1) _ = _
      rw [hb.1]
    rw [e1]
    refine ⟨?_, h1.2⟩
    rw [h1.1, mod_succ, Int.pow_succ, Int.add_mul, Int.mul_comm (2 ^ k) 2, ← Int.mul_assoc, Int.mul_comm m 2, Int.add_assoc]
theorem tP_lit {pk : Int → Int} {sz : Int} : ∀ (k : Nat) (pl ly g m as : Int) {e : En} {c : Cd}, tieP e c → (mLit pk sz k pl ly g m as c).1 = m * 2 ^ k + g % 2 ^ k ∧ tieP (eLit k pl ly g m as e) (mLit pk sz k pl ly g m as c).2 := by
  intro k
  induction k with
  | zero =>
    intro pl ly g m as e c h
    refine ⟨?_, h⟩
    show m = m * 2 ^ 0 + g % 2 ^ 0
    rw [Int.pow_zero]
    omega
  | succ k ih =>
    intro pl ly g m as e c h
    have hb := tP_bit (pk := pk) (sz := sz) h (pl + treeZ as (bitZ ly k) * 256 + m) (bitZ_01 g k)
    have h1 := ih pl ly g (2 * m + bitZ g k) (sameZ as (bitZ g k) (bitZ ly k)) hb.2
    have e1 : mLit pk sz (k + 1) pl ly g m as c = mLit pk sz k pl ly g (2 * m + bitZ g k) (sameZ as (bitZ g k) (bitZ ly k)) (mBit pk sz c (pl + treeZ as (bitZ ly k) * 256 + m) (bitZ g k)).2 := by
      show mLit pk sz k pl ly g (2 * m + (mBit pk sz c (pl + treeZ as (bitZ ly k) * 256 + m) (bitZ g k)).1) (sameZ as (mBit pk sz c (pl + treeZ as (bitZ ly k) * 256 + m) (bitZ g k)).1 (bitZ ly k)) _ = _
      rw [hb.1]
    rw [e1]
    refine ⟨?_, h1.2⟩
    rw [h1.1, mod_succ, Int.pow_succ, Int.add_mul, Int.mul_comm (2 ^ k) 2, ← Int.mul_assoc, Int.mul_comm m 2, Int.add_assoc]
theorem mod_low (x : Int) (r : Nat) : x % 2 ^ (r + 1) = x % 2 + 2 * (x / 2 % 2 ^ r) := by
  have h2 : (0 : Int) < 2 ^ r := Int.pow_pos (by decide)
  rw [Int.pow_succ]
  generalize (2 : Int) ^ r = q at h2 ⊢
  have e1 := Int.mul_ediv_add_emod (x / 2) q
  have e2 := Int.emod_nonneg (x / 2) (show q ≠ 0 by omega)
  have e3 := Int.emod_lt_of_pos (x / 2) h2
  have e5 : x = (x % 2 + 2 * (x / 2 % q)) + (q * 2) * (x / 2 / q) := by
    have : (q * 2) * (x / 2 / q) = 2 * (q * (x / 2 / q)) := by rw [Int.mul_comm q 2, Int.mul_assoc]
    omega
  have e6 : 0 ≤ x % 2 + 2 * (x / 2 % q) ∧ x % 2 + 2 * (x / 2 % q) < q * 2 := by omega
  generalize x % 2 + 2 * (x / 2 % q) = z at e5 e6 ⊢
  generalize x / 2 / q = y at e5
  rw [e5, Int.add_mul_emod_self_left]
  exact Int.emod_eq_of_lt e6.1 e6.2
theorem tP_row {pk : Int → Int} {sz g' : Int} : ∀ (r k : Nat) (a g m v : Int) {e : En} {c : Cd}, (∀ j : Nat, k ≤ j → j < k + r → bitZ g j = bitZ g' j) → tieP e c → (mRow pk sz r k a g m v c).1 = v + g / 2 ^ k % 2 ^ r * 2 ^ k ∧ tieP (eRow r k a g' m e) (mRow pk sz r k a g m v c).2 := by
  intro r
  induction r with
  | zero =>
    intro k a g m v e c _ h
    refine ⟨?_, h⟩
    show v = v + g / 2 ^ k % 2 ^ 0 * 2 ^ k
    rw [Int.pow_zero, show g / 2 ^ k % 1 = 0 by omega, Int.zero_mul, Int.add_zero]
  | succ r ih =>
    intro k a g m v e c hj h
    have hb := tP_bit (pk := pk) (sz := sz) h (a + m) (bitZ_01 g k)
    have h1 := ih (k + 1) a g (2 * m + bitZ g k) (v + bitZ g k * 2 ^ k) (fun j j1 j2 => hj j (by omega) (by omega)) hb.2
    have e1 : mRow pk sz (r + 1) k a g m v c = mRow pk sz r (k + 1) a g (2 * m + bitZ g k) (v + bitZ g k * 2 ^ k) (mBit pk sz c (a + m) (bitZ g k)).2 := by
      show mRow pk sz r (k + 1) a g (2 * m + (mBit pk sz c (a + m) (bitZ g k)).1) (v + (mBit pk sz c (a + m) (bitZ g k)).1 * 2 ^ k) _ = _
      rw [hb.1]
    rw [e1]
    have e2 : eRow (r + 1) k a g' m e = eRow r (k + 1) a g' (2 * m + bitZ g k) (eBit e (a + m) (bitZ g k)) := by
      rw [hj k (by omega) (by omega)]; rfl
    rw [e2]
    refine ⟨?_, h1.2⟩
    rw [h1.1, mod_low]
    have e3 : g / 2 ^ (k + 1) = g / 2 ^ k / 2 := by rw [Int.pow_succ, Int.ediv_ediv_of_nonneg (Int.le_of_lt (Int.pow_pos (by decide)))]
    rw [e3]
    unfold bitZ
    generalize g / 2 ^ k = x
    generalize x / 2 % 2 ^ r = y
    rw [Int.pow_succ]
    generalize (2 : Int) ^ k = q
    rw [Int.add_mul, Int.add_assoc, Int.mul_comm q 2, ← Int.mul_assoc, Int.mul_comm y 2]
theorem tP_len {pk : Int → Int} {sz : Int} (pl : Int) {g : Int} (g1 : 0 ≤ g) (g2 : g ≤ 143) {e : En} {c : Cd} (h : tieP e c) : (mLen pk sz pl g c).1 = g ∧ tieP (eLen pl g e) (mLen pk sz pl g c).2 := by
  have h0 := tP_bit (pk := pk) (sz := sz) h pl (lt8_b g)
  unfold mLen eLen
  by_cases c8 : g < 8
  · have e8 : lt8 g = 0 := if_pos c8
    rw [e8] at h0 ⊢
    rw [if_pos h0.1, if_pos c8]
    have h1 := tP_tree (pk := pk) (sz := sz) 3 (pl + 2) g 1 h0.2
    refine ⟨?_, h1.2⟩
    show (mTree pk sz 3 (pl + 2) g 1 (mBit pk sz c pl 0).2).1 - 8 = g
    rw [h1.1]
    omega
  · have e8 : lt8 g = 1 := if_neg c8
    rw [e8] at h0 ⊢
    have h1 := tP_bit (pk := pk) (sz := sz) h0.2 (pl + 1) (lt16_b g)
    rw [if_neg (by rw [h0.1]; decide), if_neg c8]
    by_cases c16 : g < 16
    · have e16 : lt16 g = 0 := if_pos c16
      rw [e16] at h1 ⊢
      rw [if_pos h1.1, if_pos c16]
      have h2 := tP_tree (pk := pk) (sz := sz) 3 (pl + 10) (g - 8) 1 h1.2
      refine ⟨?_, h2.2⟩
      show 8 + ((mTree pk sz 3 (pl + 10) (g - 8) 1 (mBit pk sz (mBit pk sz c pl 1).2 (pl + 1) 0).2).1 - 8) = g
      rw [h2.1]
      omega
    · have e16 : lt16 g = 1 := if_neg c16
      rw [e16] at h1 ⊢
      rw [if_neg (by rw [h1.1]; decide), if_neg c16]
      have h2 := tP_tree (pk := pk) (sz := sz) 7 (pl + 18) (g - 16) 1 h1.2
      refine ⟨?_, h2.2⟩
      show 16 + ((mTree pk sz 7 (pl + 18) (g - 16) 1 (mBit pk sz (mBit pk sz c pl 1).2 (pl + 1) 1).2).1 - 128) = g
      rw [h2.1]
      omega
theorem bit_low {n j : Nat} (n6 : n ≤ 6) (hj : j < n) (g : Int) : bitZ (g % 2 ^ n) j = bitZ g j := by
  unfold bitZ
  have hn : n = 1 ∨ n = 2 ∨ n = 3 ∨ n = 4 ∨ n = 5 ∨ n = 6 := by omega
  have hj6 : j = 0 ∨ j = 1 ∨ j = 2 ∨ j = 3 ∨ j = 4 ∨ j = 5 := by omega
  rcases hn with rfl | rfl | rfl | rfl | rfl | rfl <;> rcases hj6 with rfl | rfl | rfl | rfl | rfl | rfl <;> simp only [Int.reducePow] <;> omega
theorem slot_p {g : Int} (g1 : 4 ≤ g) (g2 : g < 128) : 4 ≤ slotZ g ∧ slotZ g ≤ 13 ∧ (slotZ g / 2 - 1).toNat = hbZ g - 1 ∧ hbZ g - 1 ≤ 6 ∧ (2 + slotZ g % 2) * 2 ^ (hbZ g - 1) + g % 2 ^ (hbZ g - 1) = g := by
  have e0 : slotZ g = 2 * (hbZ g : Int) + bitZ g (hbZ g - 1) := if_neg (by omega)
  have hr : (4 ≤ g ∧ g < 8) ∨ (8 ≤ g ∧ g < 16) ∨ (16 ≤ g ∧ g < 32) ∨ (32 ≤ g ∧ g < 64) ∨ (64 ≤ g ∧ g < 128) := by omega
  rcases hr with hr | hr | hr | hr | hr
  · have hk : hbZ g = 2 := by unfold hbZ; rw [if_neg (by omega), if_neg (by omega), if_pos (by omega)]
    rw [hk] at e0 ⊢
    have e1 : bitZ g (2 - 1) = g / 2 % 2 := rfl
    rw [e0, e1]
    simp only [Nat.reduceSub, Int.reducePow]
    omega
  · have hk : hbZ g = 3 := by unfold hbZ; rw [if_neg (by omega), if_neg (by omega), if_neg (by omega), if_pos (by omega)]
    rw [hk] at e0 ⊢
    have e1 : bitZ g (3 - 1) = g / 4 % 2 := rfl
    rw [e0, e1]
    simp only [Nat.reduceSub, Int.reducePow]
    omega
  · have hk : hbZ g = 4 := by unfold hbZ; rw [if_neg (by omega), if_neg (by omega), if_neg (by omega), if_neg (by omega), if_pos (by omega)]
    rw [hk] at e0 ⊢
    have e1 : bitZ g (4 - 1) = g / 8 % 2 := rfl
    rw [e0, e1]
    simp only [Nat.reduceSub, Int.reducePow]
    omega
  · have hk : hbZ g = 5 := by unfold hbZ; rw [if_neg (by omega), if_neg (by omega), if_neg (by omega), if_neg (by omega), if_neg (by omega), if_pos (by omega)]
    rw [hk] at e0 ⊢
    have e1 : bitZ g (5 - 1) = g / 16 % 2 := rfl
    rw [e0, e1]
    simp only [Nat.reduceSub, Int.reducePow]
    omega
  · have hk : hbZ g = 6 := by unfold hbZ; rw [if_neg (by omega), if_neg (by omega), if_neg (by omega), if_neg (by omega), if_neg (by omega), if_neg (by omega), if_pos (by omega)]
    rw [hk] at e0 ⊢
    have e1 : bitZ g (6 - 1) = g / 32 % 2 := rfl
    rw [e0, e1]
    simp only [Nat.reduceSub, Int.reducePow]
    omega
/-- a distance -/
theorem tP_dist {pk : Int → Int} {sz : Int} (v : Int) {g : Int} (g1 : 0 ≤ g) (g2 : g < 128) {e : En} {c : Cd} (h : tieP e c) : (mDist pk sz v g c).1 = g ∧ tieP (if slotZ g < 4 then eTree 4 (364 + min v 3 * 16) (slotZ g) 1 e else eRow (hbZ g - 1) 0 (428 + (slotZ g - 4) * 32) g 1 (eTree 4 (364 + min v 3 * 16) (slotZ g) 1 e)) (mDist pk sz v g c).2 := by
  have hd : mDue g = slotZ g := if_neg (by omega)
  have hs := tP_tree (pk := pk) (sz := sz) 4 (364 + min v 3 * 16) (slotZ g) 1 h
  have hs0 : 0 ≤ slotZ g ∧ slotZ g ≤ 13 := by
    by_cases c4 : g < 4
    · rw [show slotZ g = g from if_pos c4]; omega
    · have := slot_p (g := g) (by omega) g2; omega
  have hv : (mSlot pk sz v g c).1 = 16 + slotZ g := by unfold mSlot; rw [hd, hs.1]; omega
  have ht : tieP (eTree 4 (364 + min v 3 * 16) (slotZ g) 1 e) (mSlot pk sz v g c).2 := by unfold mSlot; rw [hd]; exact hs.2
  unfold mDist
  rw [if_neg (by omega)]
  have hf : mFar (mSlot pk sz v g c).2 ((mSlot pk sz v g c).1 - 16) = (mSlot pk sz v g c).2 := if_neg (by omega)
  rw [hf, hv, show 16 + slotZ g - 16 = slotZ g by omega]
  unfold mDst
  by_cases c4 : g < 4
  · have e4 : slotZ g = g := if_pos c4
    rw [if_pos (by omega), if_pos (by omega)]
    exact ⟨e4, ht⟩
  · have hp := slot_p (g := g) (by omega) g2
    rw [if_neg (by omega), if_neg (by omega), hp.2.2.1]
    have hr := tP_row (pk := pk) (sz := sz) (g' := g) (hbZ g - 1) 0 (428 + (slotZ g - 4) * 32) (g % 2 ^ (hbZ g - 1)) 1 0 (fun j _ j2 => bit_low hp.2.2.2.1 (by omega) g) ht
    refine ⟨?_, hr.2⟩
    show (2 + slotZ g % 2) * 2 ^ (hbZ g - 1) + (mRow pk sz (hbZ g - 1) 0 (428 + (slotZ g - 4) * 32) (g % 2 ^ (hbZ g - 1)) 1 0 (mSlot pk sz v g c).2).1 = g
    rw [hr.1, Int.pow_zero, Int.ediv_one, Int.mul_one, Int.zero_add, Int.emod_emod]
    exact hp.2.2.2.2
theorem tP_end {pk : Int → Int} {sz : Int} {e : En} {c : Cd} (h : tieP e c) : (mDist pk sz 0 (-1) c).1 = -1 ∧ tieP (eTree 4 364 15 1 e) (mDist pk sz 0 (-1) c).2 := by
  have hs := tP_tree (pk := pk) (sz := sz) 4 364 15 1 h
  have e0 : mSlot pk sz 0 (-1) c = mTree pk sz 4 364 15 1 c := rfl
  unfold mDist
  rw [e0, if_pos (by rw [hs.1]; decide)]
  exact ⟨rfl, hs.2⟩
theorem tP_echo {pk : Int → Int} {sz : Int} (s : Int) {g : Int} (g1 : -1 ≤ g) (g2 : g ≤ 3) {e : En} {c : Cd} (h : tieP e c) : (mEcho pk sz s g c).1 = g ∧ tieP (eEcho s g e) (mEcho pk sz s g c).2 := by
  have hg : g = -1 ∨ g = 0 ∨ g = 1 ∨ g = 2 ∨ g = 3 := by omega
  unfold mEcho eEcho
  rcases hg with rfl | rfl | rfl | rfl | rfl
  · have h0 := tP_bit (pk := pk) (sz := sz) h (24 + s) (g := 0) (by decide)
    have h1 := tP_bit (pk := pk) (sz := sz) h0.2 (36 + s) (g := 0) (by decide)
    rw [show gt0 (-1) = 0 from rfl, show ge0 (-1) = 0 from rfl, if_pos h0.1, if_pos h1.1, if_pos rfl]
    exact ⟨rfl, h1.2⟩
  · have h0 := tP_bit (pk := pk) (sz := sz) h (24 + s) (g := 0) (by decide)
    have h1 := tP_bit (pk := pk) (sz := sz) h0.2 (36 + s) (g := 1) (by decide)
    rw [show gt0 0 = 0 from rfl, show ge0 0 = 1 from rfl, if_pos h0.1, if_neg (by rw [h1.1]; decide), if_neg (by decide), if_pos rfl]
    exact ⟨rfl, h1.2⟩
  · have h0 := tP_bit (pk := pk) (sz := sz) h (24 + s) (g := 1) (by decide)
    have h1 := tP_bit (pk := pk) (sz := sz) h0.2 (48 + s) (g := 0) (by decide)
    rw [show gt0 1 = 1 from rfl, show gt1 1 = 0 from rfl, if_neg (by rw [h0.1]; decide), if_pos h1.1, if_neg (by decide), if_neg (by decide), if_pos rfl]
    exact ⟨rfl, h1.2⟩
  · have h0 := tP_bit (pk := pk) (sz := sz) h (24 + s) (g := 1) (by decide)
    have h1 := tP_bit (pk := pk) (sz := sz) h0.2 (48 + s) (g := 1) (by decide)
    have h2 := tP_bit (pk := pk) (sz := sz) h1.2 (60 + s) (g := 0) (by decide)
    rw [show gt0 2 = 1 from rfl, show gt1 2 = 1 from rfl, show gt2 2 = 0 from rfl, if_neg (by rw [h0.1]; decide), if_neg (by rw [h1.1]; decide), if_neg (by decide), if_neg (by decide), if_neg (by decide)]
    exact ⟨by show 2 + (mBit pk sz _ (60 + s) 0).1 = 2; rw [h2.1]; rfl, h2.2⟩
  · have h0 := tP_bit (pk := pk) (sz := sz) h (24 + s) (g := 1) (by decide)
    have h1 := tP_bit (pk := pk) (sz := sz) h0.2 (48 + s) (g := 1) (by decide)
    have h2 := tP_bit (pk := pk) (sz := sz) h1.2 (60 + s) (g := 1) (by decide)
    rw [show gt0 3 = 1 from rfl, show gt1 3 = 1 from rfl, show gt2 3 = 1 from rfl, if_neg (by rw [h0.1]; decide), if_neg (by rw [h1.1]; decide), if_neg (by decide), if_neg (by decide), if_neg (by decide)]
    exact ⟨by show 2 + (mBit pk sz _ (60 + s) 1).1 = 3; rw [h2.1]; rfl, h2.2⟩
