/-! numbers: ints and longs by the integer behind them -/
def zI (z : Int) : Int32 := Int32.ofInt z
def zL (z : Int) : Int64 := Int64.ofInt z
theorem zI_t {z : Int} (h1 : -2147483648 ≤ z) (h2 : z < 2147483648) : (zI z).toInt = z := by
  have e : (2 : Int) ^ 31 = 2147483648 := by decide
  exact Int32.toInt_ofInt_of_le (by omega) (by omega)
theorem zL_t {z : Int} (h1 : -9223372036854775808 ≤ z) (h2 : z < 9223372036854775808) : (zL z).toInt = z := by
  have e : (2 : Int) ^ 63 = 9223372036854775808 := by decide
  exact Int64.toInt_ofInt_of_le (by omega) (by omega)
theorem zI_of (x : Int32) : ∃ z : Int, (-2147483648 ≤ z ∧ z < 2147483648) ∧ x = zI z := by
  refine ⟨x.toInt, ⟨?_, ?_⟩, (Int32.ofInt_toInt x).symm⟩
  · have := Int32.le_toInt x; omega
  · have := Int32.toInt_lt x; omega
theorem zI_lt {a b : Int} (a1 : -2147483648 ≤ a) (a2 : a < 2147483648) (b1 : -2147483648 ≤ b) (b2 : b < 2147483648) : zI a < zI b ↔ a < b := by
  rw [Int32.lt_iff_toInt_lt, zI_t a1 a2, zI_t b1 b2]
theorem zI_le {a b : Int} (a1 : -2147483648 ≤ a) (a2 : a < 2147483648) (b1 : -2147483648 ≤ b) (b2 : b < 2147483648) : zI a ≤ zI b ↔ a ≤ b := by
  rw [Int32.le_iff_toInt_le, zI_t a1 a2, zI_t b1 b2]
theorem zI_eq {a b : Int} (a1 : -2147483648 ≤ a) (a2 : a < 2147483648) (b1 : -2147483648 ≤ b) (b2 : b < 2147483648) : zI a = zI b ↔ a = b := by
  rw [← Int32.toInt_inj, zI_t a1 a2, zI_t b1 b2]
theorem zL_lt {a b : Int} (a1 : -9223372036854775808 ≤ a) (a2 : a < 9223372036854775808) (b1 : -9223372036854775808 ≤ b) (b2 : b < 9223372036854775808) : zL a < zL b ↔ a < b := by
  rw [Int64.lt_iff_toInt_lt, zL_t a1 a2, zL_t b1 b2]
theorem zL_le {a b : Int} (a1 : -9223372036854775808 ≤ a) (a2 : a < 9223372036854775808) (b1 : -9223372036854775808 ≤ b) (b2 : b < 9223372036854775808) : zL a ≤ zL b ↔ a ≤ b := by
  rw [Int64.le_iff_toInt_le, zL_t a1 a2, zL_t b1 b2]
theorem zL_eq {a b : Int} (a1 : -9223372036854775808 ≤ a) (a2 : a < 9223372036854775808) (b1 : -9223372036854775808 ≤ b) (b2 : b < 9223372036854775808) : zL a = zL b ↔ a = b := by
  rw [← Int64.toInt_inj, zL_t a1 a2, zL_t b1 b2]
theorem zI_0 : zI 0 = 0 := rfl
theorem zI_add (a b : Int) : zI a + zI b = zI (a + b) := (Int32.ofInt_add a b).symm
theorem zI_sub (a b : Int) : zI a - zI b = zI (a - b) := (Int32.ofInt_sub a b).symm
theorem zI_mul (a b : Int) : zI a * zI b = zI (a * b) := (Int32.ofInt_mul a b).symm
theorem zL_add (a b : Int) : zL a + zL b = zL (a + b) := (Int64.ofInt_add a b).symm
theorem zL_sub (a b : Int) : zL a - zL b = zL (a - b) := (Int64.ofInt_sub a b).symm
theorem zL_mul (a b : Int) : zL a * zL b = zL (a * b) := (Int64.ofInt_mul a b).symm
theorem zI_cl {z : Int} (h1 : 0 ≤ z) (h2 : z < 2147483648) : (zI z).toNatClampNeg = z.toNat := by
  show (zI z).toInt.toNat = _
  rw [zI_t (by omega) h2]
theorem zI_in {z : Int} {n : Nat} (h1 : 0 ≤ z) (h2 : z < (n : Int)) (hn : (n : Int) < 2147483648) : vp_in (zI z) n := by
  rw [vp_in_iff, zI_t (by omega) (by omega)]
  exact ⟨h1, h2⟩
theorem zI_l {z : Int} (h1 : -2147483648 ≤ z) (h2 : z < 2147483648) : (zI z).toInt64 = zL z := by
  apply Int64.toInt_inj.mp
  rw [zL_t (by omega) (by omega), Int32.toInt_toInt64, zI_t h1 h2]
theorem zL_i (z : Int) : (zL z).toInt32 = zI z := Int64.toInt32_ofInt
theorem zI_sm : ∀ n : Fin 32, ((zI (n.val : Int) &&& 31).toBitVec.smod 32).toNat = n.val := by decide
theorem zL_sm : ∀ n : Fin 64, (((zI (n.val : Int)).toInt64 &&& 63).toBitVec.smod 64).toNat = n.val := by decide
theorem zI_shr {z : Int} (k : Nat) (hk : k < 32) (h1 : -2147483648 ≤ z) (h2 : z < 2147483648) : zI z >>> (zI (k : Int) &&& 31) = zI (z / 2 ^ k) := by
  apply Int32.toInt_inj.mp
  have hp : (0 : Int) < 2 ^ k := Int.pow_pos (by decide)
  have e1 : z / 2 ^ k < 2147483648 := by
    by_cases hz : 0 ≤ z
    · have := Int.ediv_le_self (2 ^ k) hz; omega
    · have := Int.ediv_neg_of_neg_of_pos (by omega : z < 0) hp; omega
  have e2 : -2147483648 ≤ z / 2 ^ k := by
    have : -2147483648 * 2 ^ k ≤ z := by
      have h5 : (1 : Int) ≤ 2 ^ k := by omega
      have : -2147483648 * (2 ^ k : Int) ≤ -2147483648 * 1 := by
        have := Int.mul_le_mul_of_nonneg_left h5 (by decide : (0 : Int) ≤ 2147483648)
        omega
      omega
    exact (Int.le_ediv_iff_mul_le hp).mpr this
  rw [pk_shr _ _ k (zI_sm ⟨k, hk⟩), zI_t h1 h2, zI_t e2 e1, Int.shiftRight_eq_div_pow]
  norm_cast
theorem zI_and1 (z : Int) : zI z &&& 1 = zI (z % 2) := by
  rw [pk_and (zI z) 1 (by decide)]
  apply Int32.toInt_inj.mp
  have e : ((zI z).toBitVec.toNat : Int) % 2 = z % 2 := by
    show ((BitVec.ofInt 32 z).toNat : Int) % 2 = _
    rw [BitVec.toNat_ofInt]
    omega
  rw [nI_toInt (by omega), zI_t (by omega) (by omega)]
  omega
theorem zL_and255 (z : Int) : zL z &&& 255 = zL (z % 256) := by
  apply Int64.toBitVec_inj.mp
  apply BitVec.eq_of_toNat_eq
  have hm : (255 : Int64).toBitVec.toNat = 2 ^ 8 - 1 := by decide
  rw [Int64.toBitVec_and, BitVec.toNat_and, hm, Nat.and_two_pow_sub_one_eq_mod]
  show (BitVec.ofInt 64 z).toNat % 2 ^ 8 = (BitVec.ofInt 64 (z % 256)).toNat
  rw [BitVec.toNat_ofInt, BitVec.toNat_ofInt]
  omega
theorem zL_shr {z : Int} (k : Nat) (hk : k < 64) (h1 : 0 ≤ z) (h2 : z < 9223372036854775808) : zL z >>> ((zI (k : Int)).toInt64 &&& 63) = zL (z / 2 ^ k) := by
  apply Int64.toInt_inj.mp
  have hp : (0 : Int) < 2 ^ k := Int.pow_pos (by decide)
  have e0 := Int.ediv_le_self (2 ^ k) h1
  have e1 := Int.ediv_nonneg h1 (Int.le_of_lt hp)
  have e : (zL z >>> ((zI (k : Int)).toInt64 &&& 63)).toInt = (zL z).toInt >>> k := by
    show ((zL z).toBitVec.sshiftRight (((zI (k : Int)).toInt64 &&& 63).toBitVec.smod 64).toNat).toInt = _
    rw [zL_sm ⟨k, hk⟩, BitVec.toInt_sshiftRight]
    rfl
  rw [e, zL_t (by omega) h2, zL_t (by omega) (by omega), Int.shiftRight_eq_div_pow]
  norm_cast
theorem zL_shl (z : Int) (k : Nat) (hk : k < 64) : zL z <<< ((zI (k : Int)).toInt64 &&& 63) = zL (z * 2 ^ k) := by
  apply Int64.toBitVec_inj.mp
  show (zL z).toBitVec <<< (((zI (k : Int)).toInt64 &&& 63).toBitVec.smod 64).toNat = BitVec.ofInt 64 (z * 2 ^ k)
  rw [zL_sm ⟨k, hk⟩]
  show BitVec.ofInt 64 z <<< k = _
  rw [BitVec.shiftLeft_eq_mul_twoPow]
  rw [BitVec.ofInt_mul]
  congr 1
  apply BitVec.eq_of_toNat_eq
  rw [BitVec.toNat_twoPow, BitVec.toNat_ofInt]
  have : ((2 : Int) ^ k) % (2 ^ 64 : Nat) = ((2 ^ k % 2 ^ 64 : Nat) : Int) := by norm_cast
  rw [this]
  rfl
theorem zI_shl (z : Int) (k : Nat) (hk : k < 32) : zI z <<< (zI (k : Int) &&& 31) = zI (z * 2 ^ k) := by
  apply Int32.toBitVec_inj.mp
  show (zI z).toBitVec <<< ((zI (k : Int) &&& 31).toBitVec.smod 32).toNat = BitVec.ofInt 32 (z * 2 ^ k)
  rw [zI_sm ⟨k, hk⟩]
  show BitVec.ofInt 32 z <<< k = _
  rw [BitVec.shiftLeft_eq_mul_twoPow]
  rw [BitVec.ofInt_mul]
  congr 1
  apply BitVec.eq_of_toNat_eq
  rw [BitVec.toNat_twoPow, BitVec.toNat_ofInt]
  have : ((2 : Int) ^ k) % (2 ^ 32 : Nat) = ((2 ^ k % 2 ^ 32 : Nat) : Int) := by norm_cast
  rw [this]
  rfl
theorem zI_div {a b : Int} (a1 : 0 ≤ a) (a2 : a < 2147483648) (b1 : 0 < b) (b2 : b < 2147483648) : zI a / zI b = zI (a / b) := by
  apply Int32.toInt_inj.mp
  have h1 := Int.ediv_le_self b a1
  have h2 := Int.ediv_nonneg a1 (Int.le_of_lt b1)
  rw [lg_idiv_nonneg (by rw [zI_t (by omega) a2]; exact a1) (by rw [zI_t (by omega) b2]; omega), zI_t (by omega) a2, zI_t (by omega) b2, zI_t (by omega) (by omega)]
theorem zL_div {a b : Int} (a1 : 0 ≤ a) (a2 : a < 9223372036854775808) (b1 : 0 < b) (b2 : b < 9223372036854775808) : zL a / zL b = zL (a / b) := by
  apply Int64.toInt_inj.mp
  have h1 := Int.ediv_le_self b a1
  have h2 := Int.ediv_nonneg a1 (Int.le_of_lt b1)
  rw [lg_ldiv_nonneg (by rw [zL_t (by omega) a2]; exact a1) (by rw [zL_t (by omega) b2]; omega), zL_t (by omega) a2, zL_t (by omega) b2, zL_t (by omega) (by omega)]
theorem zI_rem {a b : Int} (a1 : 0 ≤ a) (a2 : a < 2147483648) (b1 : 0 < b) (b2 : b < 2147483648) : zI a - zI a / zI b * zI b = zI (a % b) := by
  rw [zI_div a1 a2 b1 b2, zI_mul, zI_sub]
  congr 1
  have := Int.mul_ediv_add_emod a b
  rw [Int.mul_comm] at this
  omega
theorem zL_rem {a b : Int} (a1 : 0 ≤ a) (a2 : a < 9223372036854775808) (b1 : 0 < b) (b2 : b < 9223372036854775808) : zL a - zL a / zL b * zL b = zL (a % b) := by
  rw [zL_div a1 a2 b1 b2, zL_mul, zL_sub]
  congr 1
  have := Int.mul_ediv_add_emod a b
  rw [Int.mul_comm] at this
  omega
/-- a row of numbers, one of them changed -/
def zup (f : Int → Int) (i x : Int) : Int → Int := fun j => if j = i then x else f j
theorem zup_s (f : Int → Int) (i x : Int) : zup f i x i = x := if_pos rfl
theorem zup_n {f : Int → Int} {i x j : Int} (h : j ≠ i) : zup f i x j = f j := if_neg h
/-- n numbers from place p of f on, laid to place q of g on -/
def zcpy (f g : Int → Int) (p q n : Int) : Int → Int := fun j => if q ≤ j ∧ j < q + n then f (p + (j - q)) else g j
theorem upd_z (f : Int → Int) {i : Int} (x : Int) (h : 0 ≤ i) : upd (fun j => zI (f (j : Int))) i.toNat (zI x) = fun j : Nat => zI (zup f i x (j : Int)) := by
  funext j
  unfold upd zup
  by_cases e : j = i.toNat
  · rw [if_pos e, if_pos (by omega)]
  · rw [if_neg e, if_neg (by omega)]
theorem updL_z (f : Int → Int) {i : Int} (x : Int) (h : 0 ≤ i) : vp_updL (fun j => zL (f (j : Int))) i.toNat (zL x) = fun j : Nat => zL (zup f i x (j : Int)) := by
  funext j
  unfold vp_updL zup
  by_cases e : j = i.toNat
  · rw [if_pos e, if_pos (by omega)]
  · rw [if_neg e, if_neg (by omega)]
theorem cpy_z (f g : Int → Int) {p q n : Int} (h1 : 0 ≤ p) (h2 : 0 ≤ q) (h3 : 0 ≤ n) : va_cpy (fun j => zI (f (j : Int))) (fun j => zI (g (j : Int))) p.toNat q.toNat n.toNat = fun j : Nat => zI (zcpy f g p q n (j : Int)) := by
  funext j
  unfold va_cpy zcpy
  by_cases e : q.toNat ≤ j ∧ j < q.toNat + n.toNat
  · rw [if_pos e, if_pos (by omega)]
    have e2 : ((p.toNat + (j - q.toNat) : Nat) : Int) = p + ((j : Int) - q) := by omega
    show zI (f ((p.toNat + (j - q.toNat) : Nat) : Int)) = _
    rw [e2]
  · rw [if_neg e, if_neg (by omega)]
