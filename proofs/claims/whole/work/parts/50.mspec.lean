/-! the reference: its state, where its chances stand, its bits -/
/-- where a chance of the reference stands in the class's row -/
def inv (j : Int) : Int := if 72 ≤ j ∧ j < 3144 then j + 676 else if 3144 ≤ j ∧ j < 3500 then j - 3072 else if 3500 ≤ j ∧ j < 3628 then j + 320 else if 3628 ≤ j ∧ j < 3948 then j - 3200 else j
theorem inv_inj {i j : Int} (h : inv i = inv j) : i = j := by
  unfold inv at h
  repeat' split at h
  all_goals omega
theorem zup_inv (C : Int → Int) (i v : Int) : zup (fun j => C (inv j)) i v = fun j => zup C (inv i) v (inv j) := by
  funext j
  unfold zup
  by_cases h : j = i
  · subst h; rw [if_pos rfl, if_pos rfl]
  · rw [if_neg h, if_neg (fun e => h (inv_inj e))]
/-- packing?, bad, chances, range, places, digits, code, next -/
abbrev Cd : Type := Int × Int × (Int → Int) × Int × Int × (Int → Int) × Int × Int
def mBd (c : Cd) (a : Int) : Int := c.2.2.2.1 / 2048 * c.2.2.1 a
def mVal (c : Cd) (a g : Int) : Int := if c.1 = 1 then g else if c.2.2.2.2.2.2.1 < mBd c a then 0 else 1
def mStep (c : Cd) (a v : Int) : Cd :=
  if v = 0 then (c.1, c.2.1, zup c.2.2.1 a (learnZ (c.2.2.1 a) 0), mBd c a, c.2.2.2.2)
  else (c.1, c.2.1, zup c.2.2.1 a (learnZ (c.2.2.1 a) 1), c.2.2.2.1 - mBd c a, c.2.2.2.2.1, (if c.1 = 1 then raiseZ c.2.2.2.2.1.toNat (mBd c a) c.2.2.2.2.2.1 else c.2.2.2.2.2.1), (if c.1 = 1 then c.2.2.2.2.2.2.1 else c.2.2.2.2.2.2.1 - mBd c a), c.2.2.2.2.2.2.2)
def mRead (pk : Int → Int) (sz : Int) (c : Cd) : Cd :=
  if c.2.2.2.2.2.2.2 = sz then (c.1, 1, c.2.2) else (c.1, c.2.1, c.2.2.1, c.2.2.2.1, c.2.2.2.2.1, c.2.2.2.2.2.1, 256 * c.2.2.2.2.2.2.1 + pk c.2.2.2.2.2.2.2, c.2.2.2.2.2.2.2 + 1)
def mWide (pk : Int → Int) (sz : Int) (c : Cd) : Cd :=
  if c.2.2.2.1 < 16777216 then
    (if c.1 = 1 then (c.1, c.2.1, c.2.2.1, 256 * c.2.2.2.1, c.2.2.2.2.1 + 1, zup c.2.2.2.2.2.1 c.2.2.2.2.1 0, c.2.2.2.2.2.2.1, c.2.2.2.2.2.2.2)
     else mRead pk sz (c.1, c.2.1, c.2.2.1, 256 * c.2.2.2.1, c.2.2.2.2))
  else c
def mBit (pk : Int → Int) (sz : Int) (c : Cd) (a g : Int) : Int × Cd := if 0 < c.2.1 then (0, c) else (mVal c a g, mWide pk sz (mStep c a (mVal c a g)))
def cOk (sz n : Int) (c : Cd) : Prop := (∀ i, 0 ≤ c.2.2.2.2.2.1 i ∧ c.2.2.2.2.2.1 i < 256) ∧ (c.1 = 0 ∨ c.1 = 1) ∧ (0 ≤ c.2.1 ∧ c.2.1 ≤ 4) ∧
  (0 < c.2.1 ∨ ((∀ a, 0 ≤ c.2.2.1 a ∧ c.2.2.1 a ≤ 2048) ∧ 0 ≤ c.2.2.2.1 ∧ c.2.2.2.1 < 4294967296 ∧ (c.1 = 1 → 4 ≤ c.2.2.2.2.1 ∧ c.2.2.2.2.1 + n ≤ 1600) ∧ (c.1 = 0 → 0 ≤ c.2.2.2.2.2.2.1 ∧ c.2.2.2.2.2.2.1 < c.2.2.2.1 ∧ 0 ≤ c.2.2.2.2.2.2.2 ∧ c.2.2.2.2.2.2.2 ≤ sz)))
theorem cOk.le {sz n n' : Int} {c : Cd} (h : cOk sz n c) (hn : n' ≤ n) : cOk sz n' c := by
  obtain ⟨h1, h2, h3, h4⟩ := h
  refine ⟨h1, h2, h3, ?_⟩
  rcases h4 with h4 | ⟨k1, k2, k3, k4, k5⟩
  · exact Or.inl h4
  · exact Or.inr ⟨k1, k2, k3, fun e => by have := k4 e; omega, k5⟩
theorem mVal_01 {c : Cd} {a g : Int} (hg : g = 0 ∨ g = 1) : mVal c a g = 0 ∨ mVal c a g = 1 := by
  unfold mVal
  split
  · exact hg
  · split <;> omega
theorem mBit_01 {pk : Int → Int} {sz : Int} {c : Cd} {a g : Int} (hg : g = 0 ∨ g = 1) : (mBit pk sz c a g).1 = 0 ∨ (mBit pk sz c a g).1 = 1 := by
  unfold mBit
  split
  · exact Or.inl rfl
  · exact mVal_01 hg
theorem mBit_ok {pk : Int → Int} {sz n : Int} (hp : ∀ j, 0 ≤ pk j ∧ pk j < 256) {c : Cd} (a : Int) {g : Int} (hg : g = 0 ∨ g = 1) (h : cOk sz (n + 1) c) : cOk sz n (mBit pk sz c a g).2 := by
  unfold mBit
  split
  · exact h.le (by omega)
  · rename_i hb
    have hv := mVal_01 (c := c) (a := a) hg
    obtain ⟨pa, bd, C, rg, pl, G, cd, nx⟩ := c
    obtain ⟨h1, h2, h3, h4⟩ := h
    have hb : ¬ 0 < bd := hb
    have h1 : ∀ i, 0 ≤ G i ∧ G i < 256 := h1
    have h2 : pa = 0 ∨ pa = 1 := h2
    have h3 : 0 ≤ bd ∧ bd ≤ 4 := h3
    rcases h4 with h4 | ⟨k1, k2, k3, k4, k5⟩
    · exact absurd h4 hb
    have k1 : ∀ a, 0 ≤ C a ∧ C a ≤ 2048 := k1
    have k2 : 0 ≤ rg := k2
    have k3 : rg < 4294967296 := k3
    have k4 : pa = 1 → 4 ≤ pl ∧ pl + (n + 1) ≤ 1600 := k4
    have k5 : pa = 0 → 0 ≤ cd ∧ cd < rg ∧ 0 ≤ nx ∧ nx ≤ sz := k5
    have hbd : 0 ≤ rg / 2048 * C a ∧ rg / 2048 * C a ≤ rg := bd_le k2 (k1 a).1 (k1 a).2
    have hl0 := zup_all (Q := fun z => 0 ≤ z ∧ z ≤ 2048) (i := a) k1 (learn_ok (b := 0) (k1 a).1 (k1 a).2)
    have hl1 := zup_all (Q := fun z => 0 ≤ z ∧ z ≤ 2048) (i := a) k1 (learn_ok (b := 1) (k1 a).1 (k1 a).2)
    show cOk sz n (mWide pk sz (mStep (pa, bd, C, rg, pl, G, cd, nx) a (mVal (pa, bd, C, rg, pl, G, cd, nx) a g)))
    have key : ∃ C' rg' G' cd', mStep (pa, bd, C, rg, pl, G, cd, nx) a (mVal (pa, bd, C, rg, pl, G, cd, nx) a g) = (pa, bd, C', rg', pl, G', cd', nx) ∧ (∀ a, 0 ≤ C' a ∧ C' a ≤ 2048) ∧ (∀ i, 0 ≤ G' i ∧ G' i < 256) ∧ 0 ≤ rg' ∧ rg' < 4294967296 ∧ (pa = 0 → 0 ≤ cd' ∧ cd' < rg') := by
      rcases hv with hv | hv
      · refine ⟨_, _, _, _, by rw [hv]; exact if_pos rfl, hl0, h1, hbd.1, by show rg / 2048 * C a < _; omega, fun e => ?_⟩
        unfold mVal at hv
        rw [if_neg (show ¬ pa = 1 by omega)] at hv
        split at hv
        · rename_i hlt
          have hlt : cd < rg / 2048 * C a := hlt
          exact ⟨(k5 e).1, hlt⟩
        · cases hv
      · refine ⟨_, _, _, _, by rw [hv]; exact if_neg (by decide), hl1, ?_, by show 0 ≤ rg - rg / 2048 * C a; omega, by show rg - rg / 2048 * C a < _; omega, fun e => ?_⟩
        · show ∀ i, 0 ≤ (if pa = 1 then raiseZ pl.toNat (rg / 2048 * C a) G else G) i ∧ (if pa = 1 then raiseZ pl.toNat (rg / 2048 * C a) G else G) i < 256
          split
          · exact raise_ok _ _ _ h1
          · exact h1
        · unfold mVal at hv
          rw [if_neg (show ¬ pa = 1 by omega)] at hv
          have h6 := k5 e
          show 0 ≤ (if pa = 1 then cd else cd - rg / 2048 * C a) ∧ (if pa = 1 then cd else cd - rg / 2048 * C a) < rg - rg / 2048 * C a
          rw [if_neg (show ¬ pa = 1 by omega)]
          split at hv
          · cases hv
          · rename_i hlt
            have hlt : ¬ cd < rg / 2048 * C a := hlt
            omega
    obtain ⟨C', rg', G', cd', e, q1, q2, q3, q4, q5⟩ := key
    rw [e]
    unfold mWide
    split
    · rename_i hr
      have hr : rg' < 16777216 := hr
      split
      · rename_i hpa
        have hpa : pa = 1 := hpa
        refine ⟨zup_all (Q := fun z => 0 ≤ z ∧ z < 256) q2 (by omega), h2, h3, Or.inr ⟨q1, by show 0 ≤ 256 * rg'; omega, by show 256 * rg' < _; omega, fun _ => ?_, fun e0 => ?_⟩⟩
        · have := k4 hpa
          show 4 ≤ pl + 1 ∧ pl + 1 + n ≤ 1600
          omega
        · have e0 : pa = 0 := e0
          omega
      · rename_i hpa
        have hpa : ¬ pa = 1 := hpa
        have h6 := k5 (by omega)
        have h7 := q5 (by omega)
        have h8 := hp nx
        unfold mRead
        split
        · exact ⟨q2, h2, by show (0 : Int) ≤ 1 ∧ (1 : Int) ≤ 4; omega, Or.inl (by show (0 : Int) < 1; decide)⟩
        · rename_i hnx
          have hnx : ¬ nx = sz := hnx
          refine ⟨q2, h2, h3, Or.inr ⟨q1, by show 0 ≤ 256 * rg'; omega, by show 256 * rg' < _; omega, fun e1 => absurd e1 hpa, fun _ => ?_⟩⟩
          show 0 ≤ 256 * cd' + pk nx ∧ 256 * cd' + pk nx < 256 * rg' ∧ 0 ≤ nx + 1 ∧ nx + 1 ≤ sz
          omega
    · refine ⟨q2, h2, h3, Or.inr ⟨q1, q3, q4, fun e1 => ?_, fun e0 => ?_⟩⟩
      · have := k4 e1
        show 4 ≤ pl ∧ pl + n ≤ 1600
        omega
      · have h6 := k5 e0
        have h7 := q5 e0
        exact ⟨h7.1, h7.2, h6.2.2.1, h6.2.2.2⟩
def mTree (pk : Int → Int) (sz : Int) : Nat → Int → Int → Int → Cd → Int × Cd
  | 0, _, _, m, c => (m, c)
  | k + 1, a, g, m, c => mTree pk sz k a g (2 * m + (mBit pk sz c (a + m) (bitZ g k)).1) (mBit pk sz c (a + m) (bitZ g k)).2
def mRow (pk : Int → Int) (sz : Int) : Nat → Nat → Int → Int → Int → Int → Cd → Int × Cd
  | 0, _, _, _, _, v, c => (v, c)
  | r + 1, k, a, g, m, v, c => mRow pk sz r (k + 1) a g (2 * m + (mBit pk sz c (a + m) (bitZ g k)).1) (v + (mBit pk sz c (a + m) (bitZ g k)).1 * 2 ^ k) (mBit pk sz c (a + m) (bitZ g k)).2
def mLit (pk : Int → Int) (sz : Int) : Nat → Int → Int → Int → Int → Int → Cd → Int × Cd
  | 0, _, _, _, m, _, c => (m, c)
  | k + 1, pl, ly, g, m, as, c =>
    mLit pk sz k pl ly g (2 * m + (mBit pk sz c (pl + treeZ as (bitZ ly k) * 256 + m) (bitZ g k)).1) (sameZ as (mBit pk sz c (pl + treeZ as (bitZ ly k) * 256 + m) (bitZ g k)).1 (bitZ ly k)) (mBit pk sz c (pl + treeZ as (bitZ ly k) * 256 + m) (bitZ g k)).2
theorem mTree_ok {pk : Int → Int} {sz : Int} (hp : ∀ j, 0 ≤ pk j ∧ pk j < 256) : ∀ (k : Nat) (a g m n : Int) (c : Cd), cOk sz (n + k) c → cOk sz n (mTree pk sz k a g m c).2 := by
  intro k
  induction k with
  | zero => intro a g m n c h; exact h.le (by omega)
  | succ k ih => intro a g m n c h; exact ih a g _ n _ (mBit_ok hp _ (bitZ_01 g k) (h.le (by omega)))
theorem mRow_ok {pk : Int → Int} {sz : Int} (hp : ∀ j, 0 ≤ pk j ∧ pk j < 256) : ∀ (r k : Nat) (a g m v n : Int) (c : Cd), cOk sz (n + r) c → cOk sz n (mRow pk sz r k a g m v c).2 := by
  intro r
  induction r with
  | zero => intro k a g m v n c h; exact h.le (by omega)
  | succ r ih => intro k a g m v n c h; exact ih _ a g _ _ n _ (mBit_ok hp _ (bitZ_01 g k) (h.le (by omega)))
theorem mLit_ok {pk : Int → Int} {sz : Int} (hp : ∀ j, 0 ≤ pk j ∧ pk j < 256) : ∀ (k : Nat) (pl ly g m as n : Int) (c : Cd), cOk sz (n + k) c → cOk sz n (mLit pk sz k pl ly g m as c).2 := by
  intro k
  induction k with
  | zero => intro pl ly g m as n c h; exact h.le (by omega)
  | succ k ih => intro pl ly g m as n c h; exact ih pl ly g _ _ n _ (mBit_ok hp _ (bitZ_01 g k) (h.le (by omega)))
theorem mTree_b (pk : Int → Int) (sz : Int) : ∀ (k : Nat) (a g m : Int) (c : Cd), m * 2 ^ k ≤ (mTree pk sz k a g m c).1 ∧ (mTree pk sz k a g m c).1 < (m + 1) * 2 ^ k := by
  intro k
  induction k with
  | zero => intro a g m c; show m * 2 ^ 0 ≤ m ∧ m < (m + 1) * 2 ^ 0; omega
  | succ k ih =>
    intro a g m c
    have h1 := ih a g (2 * m + (mBit pk sz c (a + m) (bitZ g k)).1) (mBit pk sz c (a + m) (bitZ g k)).2
    have hb := mBit_01 (pk := pk) (sz := sz) (c := c) (a := a + m) (bitZ_01 g k)
    have h2 : (0 : Int) ≤ 2 ^ k := Int.le_of_lt (Int.pow_pos (by decide))
    have e1 : m * 2 ^ (k + 1) = (2 * m) * 2 ^ k := by rw [Int.pow_succ, Int.mul_comm (2 ^ k) 2, ← Int.mul_assoc, Int.mul_comm m 2]
    have e2 : (m + 1) * 2 ^ (k + 1) = (2 * (m + 1)) * 2 ^ k := by rw [Int.pow_succ, Int.mul_comm (2 ^ k) 2, ← Int.mul_assoc, Int.mul_comm (m + 1) 2]
    have e3 := Int.mul_le_mul_of_nonneg_right (show 2 * m ≤ 2 * m + (mBit pk sz c (a + m) (bitZ g k)).1 by omega) h2
    have e4 := Int.mul_le_mul_of_nonneg_right (show 2 * m + (mBit pk sz c (a + m) (bitZ g k)).1 + 1 ≤ 2 * (m + 1) by omega) h2
    show m * 2 ^ (k + 1) ≤ (mTree pk sz k a g _ _).1 ∧ (mTree pk sz k a g _ _).1 < (m + 1) * 2 ^ (k + 1)
    omega
theorem mRow_b (pk : Int → Int) (sz : Int) : ∀ (r k : Nat) (a g m v : Int) (c : Cd), v ≤ (mRow pk sz r k a g m v c).1 ∧ (mRow pk sz r k a g m v c).1 ≤ v + 2 ^ (r + k) - 2 ^ k := by
  intro r
  induction r with
  | zero =>
    intro k a g m v c
    show v ≤ v ∧ v ≤ v + 2 ^ (0 + k) - 2 ^ k
    rw [Nat.zero_add]; omega
  | succ r ih =>
    intro k a g m v c
    have h1 := ih (k + 1) a g (2 * m + (mBit pk sz c (a + m) (bitZ g k)).1) (v + (mBit pk sz c (a + m) (bitZ g k)).1 * 2 ^ k) (mBit pk sz c (a + m) (bitZ g k)).2
    have hb := mBit_01 (pk := pk) (sz := sz) (c := c) (a := a + m) (bitZ_01 g k)
    have h2 : (0 : Int) ≤ 2 ^ k := Int.le_of_lt (Int.pow_pos (by decide))
    have e1 : (2 : Int) ^ (k + 1) = 2 * 2 ^ k := by rw [Int.pow_succ, Int.mul_comm]
    have e2 : r + 1 + k = r + (k + 1) := by omega
    rw [e2]
    show v ≤ (mRow pk sz r (k + 1) a g _ _ _).1 ∧ (mRow pk sz r (k + 1) a g _ _ _).1 ≤ _
    rcases hb with hb | hb
    · rw [hb] at h1 ⊢; omega
    · rw [hb] at h1 ⊢; omega
/-- what is kept of the reference: fault, limit, typed, size, told, has, packets -/
abbrev Kp : Type := Int × Int × Int × Int × Int × Int × Int
/-- chosen, long0, far, which -/
abbrev Cn4 : Type := Int × Int × Int × Int
abbrev oMo (b : Nat) (κ : Kp) (c : Cd) (n st cnt : Int) (w : Cn4) : va_E := .inr (11, [.int (zI κ.1), .int (zI κ.2.1), .int (zI κ.2.2.1), .ref (b + 34), .int (zI κ.2.2.2.1), .ref (b + 35), .int (zI κ.2.2.2.2.1), .ref (b + 36), .int (zI κ.2.2.2.2.2.1), .int (zI κ.2.2.2.2.2.2), .ref (b + 37), .ref (b + 38), .ref (b + 39), .ref (b + 40),
  .int (zI c.1), .int (zI c.2.1), .ref (b + 41), .long (zL c.2.2.2.1), .int (zI c.2.2.2.2.1), .ref (b + 42), .long (zL c.2.2.2.2.2.2.1), .int (zI c.2.2.2.2.2.2.2), .int (zI n), .int (zI st), .ref (b + 43), .ref (b + 44), .int (zI cnt), .ref (b + 45), .ref (b + 46), .ref (b + 47), .int (zI w.1), .int (zI w.2.1), .int (zI w.2.2.1), .int (zI w.2.2.2)])
/-- what the reference works on -/
abbrev Mw : Type := Cd × Hs × T3 × Int × Cn4
def sM (b : Nat) (cI : ClassId) (h : AH) (κ : Kp) (w : Mw) : AH :=
  a_up (a_up (a_up (a_up (a_up (a_up (a_up (a_up h 41 (iA cI 3948 (fun j => w.1.2.2.1 (inv j)))) 42 (iA cI 1600 w.1.2.2.2.2.2.1)) 43 (iA cI 120 w.2.1.1)) 44 (iA cI 4 w.2.1.2.2.1)) 45 (iA cI 121 w.2.2.1.1)) 46 (iA cI 121 w.2.2.1.2.1)) 47 (iA cI 121 w.2.2.1.2.2)) 33 (oMo b κ w.1 w.2.1.2.1 w.2.1.2.2.2 w.2.2.2.1 w.2.2.2.2)
theorem sM_eq {b : Nat} {cI : ClassId} {h h1 : AH} {κ : Kp} {w : Mw} (e1 : h1 33 = some (oMo b κ w.1 w.2.1.2.1 w.2.1.2.2.2 w.2.2.2.1 w.2.2.2.2)) (e2 : h1 41 = some (iA cI 3948 (fun j => w.1.2.2.1 (inv j)))) (e3 : h1 42 = some (iA cI 1600 w.1.2.2.2.2.2.1)) (e4 : h1 43 = some (iA cI 120 w.2.1.1)) (e5 : h1 44 = some (iA cI 4 w.2.1.2.2.1)) (e6 : h1 45 = some (iA cI 121 w.2.2.1.1)) (e7 : h1 46 = some (iA cI 121 w.2.2.1.2.1)) (e8 : h1 47 = some (iA cI 121 w.2.2.1.2.2))
    (o : ∀ q, q ≠ 33 → q ≠ 41 → q ≠ 42 → q ≠ 43 → q ≠ 44 → q ≠ 45 → q ≠ 46 → q ≠ 47 → h1 q = h q) : h1 = sM b cI h κ w := by
  funext q
  by_cases q1 : q = 33
  · subst q1; exact e1
  · by_cases q2 : q = 41
    · subst q2; exact e2
    · by_cases q3 : q = 42
      · subst q3; exact e3
      · by_cases q4 : q = 43
        · subst q4; exact e4
        · by_cases q5 : q = 44
          · subst q5; exact e5
          · by_cases q6 : q = 45
            · subst q6; exact e6
            · by_cases q7 : q = 46
              · subst q7; exact e7
              · by_cases q8 : q = 47
                · subst q8; exact e8
                · rw [o q q1 q2 q3 q4 q5 q6 q7 q8]; unfold sM; rw [a_up_n q1, a_up_n q8, a_up_n q7, a_up_n q6, a_up_n q5, a_up_n q4, a_up_n q3, a_up_n q2]
