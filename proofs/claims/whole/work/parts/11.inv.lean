/-! what stays true while bits are written -/
def eOk (e : En) : Prop := (∀ a, 0 ≤ e.1 a ∧ e.1 a ≤ 2048) ∧ (∀ i, 0 ≤ e.2.1 i ∧ e.2.1 i < 256) ∧ (∀ i, e.2.2.1 ≤ i → e.2.1 i = 0) ∧ 4 ≤ e.2.2.1 ∧ 0 ≤ e.2.2.2 ∧ e.2.2.2 < 4294967296
theorem bd_le {r p : Int} (r1 : 0 ≤ r) (p1 : 0 ≤ p) (p2 : p ≤ 2048) : 0 ≤ r / 2048 * p ∧ r / 2048 * p ≤ r := by
  have h1 : 0 ≤ r / 2048 := by omega
  have h2 := Int.mul_nonneg h1 p1
  have h3 := Int.mul_le_mul_of_nonneg_left p2 h1
  omega
theorem zup_all {Q : Int → Prop} {f : Int → Int} {i x : Int} (h : ∀ j, Q (f j)) (hx : Q x) : ∀ j, Q (zup f i x j) := by
  intro j
  unfold zup
  split
  · exact hx
  · exact h j
theorem raise_ok : ∀ (n : Nat) (c : Int) (g : Int → Int), (∀ i, 0 ≤ g i ∧ g i < 256) → ∀ i, 0 ≤ raiseZ n c g i ∧ raiseZ n c g i < 256 := by
  intro n
  induction n with
  | zero => intro c g h; exact h
  | succ n ih =>
    intro c g h
    unfold raiseZ
    split
    · exact ih _ _ (zup_all (Q := fun z => 0 ≤ z ∧ z < 256) h (by omega))
    · exact h
theorem raise_hi : ∀ (n : Nat) (c : Int) (g : Int → Int) (i : Int), (n : Int) ≤ i → raiseZ n c g i = g i := by
  intro n
  induction n with
  | zero => intro c g i _; rfl
  | succ n ih =>
    intro c g i h
    unfold raiseZ
    split
    · rw [ih _ _ _ (by omega), zup_n (by omega)]
    · rfl
theorem learn_ok {p b : Int} (p1 : 0 ≤ p) (p2 : p ≤ 2048) : 0 ≤ learnZ p b ∧ learnZ p b ≤ 2048 := by
  unfold learnZ
  split <;> omega
theorem eOk_bit {e : En} (h : eOk e) (a bit : Int) : eOk (eBit e a bit) := by
  obtain ⟨h1, h2, h3, h4, h5, h6⟩ := h
  obtain ⟨p1, p2⟩ := h1 a
  have hb := bd_le h5 p1 p2
  refine ⟨zup_all (Q := fun z => 0 ≤ z ∧ z ≤ 2048) h1 (learn_ok p1 p2), ?_, ?_, ?_, ?_, ?_⟩
  · intro i
    show 0 ≤ (if bit = 0 then e.2.1 else if 200 < e.2.2.1 then e.2.1 else raiseZ e.2.2.1.toNat (e.2.2.2 / 2048 * e.1 a) e.2.1) i ∧ (if bit = 0 then e.2.1 else if 200 < e.2.2.1 then e.2.1 else raiseZ e.2.2.1.toNat (e.2.2.2 / 2048 * e.1 a) e.2.1) i < 256
    split
    · exact h2 i
    · split
      · exact h2 i
      · exact raise_ok _ _ _ h2 i
  · intro i hi
    have hi2 : e.2.2.1 ≤ i := by
      have : e.2.2.1 + moreZ (if bit = 0 then e.2.2.2 / 2048 * e.1 a else e.2.2.2 - e.2.2.2 / 2048 * e.1 a) ≤ i := hi
      unfold moreZ at this
      split at this <;> split at this <;> omega
    show (if bit = 0 then e.2.1 else if 200 < e.2.2.1 then e.2.1 else raiseZ e.2.2.1.toNat (e.2.2.2 / 2048 * e.1 a) e.2.1) i = 0
    split
    · exact h3 i hi2
    · split
      · exact h3 i hi2
      · rw [raise_hi _ _ _ _ (by omega)]; exact h3 i hi2
  · show 4 ≤ e.2.2.1 + moreZ _
    unfold moreZ
    split <;> omega
  · show 0 ≤ shiftZ _
    unfold shiftZ
    split <;> split <;> omega
  · show shiftZ _ < 4294967296
    unfold shiftZ
    split <;> split <;> omega
theorem len_bit (e : En) (a bit : Int) : e.2.2.1 ≤ (eBit e a bit).2.2.1 ∧ (eBit e a bit).2.2.1 ≤ e.2.2.1 + 1 := by
  show e.2.2.1 ≤ e.2.2.1 + moreZ _ ∧ e.2.2.1 + moreZ _ ≤ e.2.2.1 + 1
  unfold moreZ
  split <;> split <;> omega
theorem bitZ_01 (v : Int) (k : Nat) : bitZ v k = 0 ∨ bitZ v k = 1 := by unfold bitZ; omega
theorem eOk_tree : ∀ (k : Nat) (a v m : Int) (e : En), eOk e → eOk (eTree k a v m e) ∧ (eTree k a v m e).2.2.1 ≤ e.2.2.1 + k := by
  intro k
  induction k with
  | zero => intro a v m e h; exact ⟨h, by show e.2.2.1 ≤ e.2.2.1 + ((0 : Nat) : Int); omega⟩
  | succ k ih =>
    intro a v m e h
    have h1 := ih a v (2 * m + bitZ v k) _ (eOk_bit h (a + m) (bitZ v k))
    have h2 := len_bit e (a + m) (bitZ v k)
    exact ⟨h1.1, by have := h1.2; show (eTree k a v _ _).2.2.1 ≤ _; omega⟩
theorem eOk_row : ∀ (r k : Nat) (a v m : Int) (e : En), eOk e → eOk (eRow r k a v m e) ∧ (eRow r k a v m e).2.2.1 ≤ e.2.2.1 + r := by
  intro r
  induction r with
  | zero => intro k a v m e h; exact ⟨h, by show e.2.2.1 ≤ e.2.2.1 + ((0 : Nat) : Int); omega⟩
  | succ r ih =>
    intro k a v m e h
    have h1 := ih (k + 1) a v (2 * m + bitZ v k) _ (eOk_bit h (a + m) (bitZ v k))
    have h2 := len_bit e (a + m) (bitZ v k)
    exact ⟨h1.1, by have := h1.2; show (eRow r (k + 1) a v _ _).2.2.1 ≤ _; omega⟩
theorem eOk_lit : ∀ (k : Nat) (pl ly b m as : Int) (e : En), eOk e → eOk (eLit k pl ly b m as e) ∧ (eLit k pl ly b m as e).2.2.1 ≤ e.2.2.1 + k := by
  intro k
  induction k with
  | zero => intro pl ly b m as e h; exact ⟨h, by show e.2.2.1 ≤ e.2.2.1 + ((0 : Nat) : Int); omega⟩
  | succ k ih =>
    intro pl ly b m as e h
    have h1 := ih pl ly b (2 * m + bitZ b k) (sameZ as (bitZ b k) (bitZ ly k)) _ (eOk_bit h (pl + treeZ as (bitZ ly k) * 256 + m) (bitZ b k))
    have h2 := len_bit e (pl + treeZ as (bitZ ly k) * 256 + m) (bitZ b k)
    exact ⟨h1.1, by have := h1.2; show (eLit k pl ly b _ _ _).2.2.1 ≤ _; omega⟩
