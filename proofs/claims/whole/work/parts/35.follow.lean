/-! reading bits: the follower at 28, its chances at 29 and 30, its bytes at 31 and 32 -/
def exn (b : Int) : String := if b = 1 then "java/util/NoSuchElementException" else if b = 2 then "java/lang/IllegalArgumentException" else if b = 3 then "java/lang/IndexOutOfBoundsException" else "java/lang/IllegalStateException"
def dOk (sz : Int) (d : De) : Prop := (∀ a, 0 ≤ d.1 a ∧ d.1 a ≤ 2048) ∧ 0 ≤ d.2.2.1 ∧ d.2.2.1 < d.2.1 ∧ d.2.1 < 4294967296 ∧ 0 ≤ d.2.2.2 ∧ d.2.2.2 ≤ sz
def xOk (sz : Int) : Rs → Prop
  | .inl _ => True
  | .inr d => dOk sz d
theorem dOk_next {pk : Int → Int} {sz : Int} (hp : ∀ j, 0 ≤ pk j ∧ pk j < 256) {d : De} (h : dOk sz d) (a : Int) : xOk sz (rNext pk sz d a) := by
  obtain ⟨h1, h2, h3, h4, h5, h6⟩ := h
  obtain ⟨p1, p2⟩ := h1 a
  have hb := bd_le (r := d.2.1) (p := d.1 a) (by omega) p1 p2
  have hl := zup_all (Q := fun z => 0 ≤ z ∧ z ≤ 2048) (i := a) h1 (learn_ok (b := rbZ d a) p1 p2)
  have hb1 : 0 ≤ bdZ d a ∧ bdZ d a ≤ d.2.1 := hb
  have e1 : 0 ≤ rcZ d a ∧ rcZ d a < rrZ d a ∧ rrZ d a ≤ d.2.1 := by
    unfold rcZ rrZ
    split <;> omega
  have hq := hp d.2.2.2
  unfold rNext
  split
  · split
    · refine ⟨hl, ?_, ?_, ?_, ?_, ?_⟩
      · show 0 ≤ rcZ d a * 256 + pk d.2.2.2; omega
      · show rcZ d a * 256 + pk d.2.2.2 < rrZ d a * 256; omega
      · show rrZ d a * 256 < 4294967296; omega
      · show 0 ≤ d.2.2.2 + 1; omega
      · show d.2.2.2 + 1 ≤ sz; omega
    · trivial
  · refine ⟨hl, ?_, ?_, ?_, h5, h6⟩
    · exact e1.1
    · exact e1.2.1
    · show rrZ d a < 4294967296; omega
theorem rb_01 (d : De) (a : Int) : rbZ d a = 0 ∨ rbZ d a = 1 := by unfold rbZ; split <;> omega
theorem rBit_01 (pk : Int → Int) (sz a : Int) (x : Rs) : (rBit pk sz a x).1 = 0 ∨ (rBit pk sz a x).1 = 1 := by
  cases x with
  | inl b => exact Or.inl rfl
  | inr d => exact rb_01 d a
theorem rNext_bad {pk : Int → Int} {sz : Int} {d : De} {a b : Int} (h : rNext pk sz d a = .inl b) : b = 1 := by
  unfold rNext at h
  split at h
  · split at h
    · cases h
    · cases h; rfl
  · cases h
theorem rTree_bad (pk : Int → Int) (sz b : Int) : ∀ (k : Nat) (a m : Int), (rTree pk sz k a m (.inl b)).2 = .inl b := by
  intro k
  induction k with
  | zero => intro a m; rfl
  | succ k ih => intro a m; exact ih a _
theorem rRow_bad (pk : Int → Int) (sz b : Int) : ∀ (r k : Nat) (a m v : Int), (rRow pk sz r k a m v (.inl b)).2 = .inl b := by
  intro r
  induction r with
  | zero => intro k a m v; rfl
  | succ r ih => intro k a m v; exact ih _ a _ _
theorem rLit_bad (pk : Int → Int) (sz b : Int) : ∀ (k : Nat) (pl ly m as : Int), (rLit pk sz k pl ly m as (.inl b)).2 = .inl b := by
  intro k
  induction k with
  | zero => intro pl ly m as; rfl
  | succ k ih => intro pl ly m as; exact ih pl ly _ _
theorem rLen_bad (pk : Int → Int) (sz b pl : Int) : (rLen pk sz pl (.inl b)).2 = .inl b := by
  unfold rLen
  split
  · exact rTree_bad pk sz b 3 (pl + 2) 1
  · split
    · exact rTree_bad pk sz b 3 (pl + 10) 1
    · exact rTree_bad pk sz b 7 (pl + 18) 1
/-- what a reading method does: it gives its number, or what was met is thrown -/
def PRs (r : Int × Rs) (f : De → AH) (K : Nat) : AO → AH → Nat → Prop := fun o h' K' =>
  (∃ d', r.2 = .inr d' ∧ o = .inl (some (.int (zI r.1))) ∧ h' = f d' ∧ K' = K) ∨ (∃ b, r.2 = .inl b ∧ o = .inr (exn b) ∧ K' = K + 1 ∧ ∃ d', h' = f d')
theorem PRs.ret {r : Int × Rs} {f : De → AH} {K : Nat} {v : Option Value} {h' : AH} {K' : Nat} (q : PRs r f K (.inl v) h' K') : ∃ d', r.2 = .inr d' ∧ v = some (.int (zI r.1)) ∧ h' = f d' ∧ K' = K := by
  rcases q with ⟨d', q1, q2, q3, q4⟩ | ⟨b, q1, q2, q3⟩
  · cases q2; exact ⟨d', q1, rfl, q3, q4⟩
  · cases q2
theorem PRs.thr {r : Int × Rs} {f : De → AH} {K : Nat} {Cn : String} {h' : AH} {K' : Nat} (q : PRs r f K (.inr Cn) h' K') : ∃ b, r.2 = .inl b ∧ Cn = exn b ∧ K' = K + 1 ∧ ∃ d', h' = f d' := by
  rcases q with ⟨d', q1, q2, q3, q4⟩ | ⟨b, q1, q2, q3⟩
  · cases q2
  · cases q2; exact ⟨b, q1, rfl, q3⟩
abbrev oFo (b : Nat) (nx cd rg : Int) : va_E := .inr (3, [.ref (b + 29), .ref (b + 31), .int (zI nx), .long (zL cd), .long (zL rg)])
def sF (b : Nat) (cI : ClassId) (h : AH) (d : De) : AH := a_up (a_up h 30 (iA cI 3820 d.1)) 28 (oFo b d.2.2.2 d.2.2.1 d.2.1)
theorem sF_eq {b : Nat} {cI : ClassId} {h h1 : AH} {d : De} (e1 : h1 28 = some (oFo b d.2.2.2 d.2.2.1 d.2.1)) (e2 : h1 30 = some (iA cI 3820 d.1)) (o : ∀ q, q ≠ 28 → q ≠ 30 → h1 q = h q) : h1 = sF b cI h d := by
  funext q
  by_cases q1 : q = 28
  · subst q1; exact e1
  · by_cases q2 : q = 30
    · subst q2; exact e2
    · rw [o q q1 q2]; unfold sF; rw [a_up_n q1, a_up_n q2]
set_option maxRecDepth 100000 in
set_option maxHeartbeats 4000000 in
theorem c_Fo_take {a0 : Array Value} {s0 : State} {D : va_G} {cI cL : ClassId} (l : Launch) (E : a_E a0 s0 D cI cL) (F : a_F l s0) {h : AH} {K : Nat} {pk : Int → Int} {sz : Int} (h31 : h 31 = some (oBy s0.heap.size 32 sz)) (h32 : h 32 = some (iA cI 200 pk)) (hp : ∀ j, 0 ≤ pk j ∧ pk j < 256) (z1 : 0 ≤ sz) (z2 : sz ≤ 200) {nx cd rg : Int} (h28 : h 28 = some (oFo s0.heap.size nx cd rg)) (x1 : 0 ≤ nx) (x2 : nx ≤ sz) (nx2 : nx < sz) : XMT l s0 D y_Fo_takeByte prog_5_method_7_code 1 none 6 [.ref (s0.heap.size + 28)] (h) (K) (PR none (a_up h 28 (oFo s0.heap.size (nx + 1) (cd * 256 + pk nx) rg)) K) := by
  refine XMT.of (cI := cI) (cL := cL) (own := "NarrowingPacker$Follower") (by decide) rfl E.2 (nle rfl) ?_
  intro p e s m below meth c C hn hlow
  refine x_aload_n C d_Fo_takeByte_0 rfl ?_
  refine x_get C (G_Fo E.1) 1 (u_226 E.1) d_Fo_takeByte_1 (by decide) (by exact h28) rfl ?_
  refine x_aload_n C d_Fo_takeByte_4 rfl ?_
  refine x_get C (G_Fo E.1) 2 (u_227 E.1) d_Fo_takeByte_5 (by decide) (by exact h28) rfl ?_
  refine x_callVR C (G_By E.1) (u_675 E.1) (u_333 E.1) (u_334 E.1) (u_335 E.1) (u_2 E.1) d_Fo_takeByte_8 (c_By_has l E (by exact h31) (by omega) (by omega) (by omega) (by omega)) nh_By_has ln_By_has rfl (by exact h31) (nle rfl) (nle rfl) (nle rfl) (nle rfl) (nle rfl) ?_
  have hz : hasZ nx sz = 1 := if_pos ⟨x1, nx2⟩
  refine x_if_ne C (tgt := 24) d_Fo_takeByte_11 (by decide) (by omega) (by omega) (fun c11 => ?_) (fun c11 => ?_)
  · have hq := hp nx
    refine x_aload_n C d_Fo_takeByte_24 rfl ?_
    refine x_aload_n C d_Fo_takeByte_25 rfl ?_
    refine x_get C (G_Fo E.1) 3 (u_228 E.1) d_Fo_takeByte_26 (by decide) (by exact h28) rfl ?_
    refine x_bipush C d_Fo_takeByte_29 (by decide) ?_
    refine x_lshl C (q := 256) 8 d_Fo_takeByte_31 rfl rfl (by decide) ?_
    refine x_aload_n C d_Fo_takeByte_32 rfl ?_
    refine x_get C (G_Fo E.1) 1 (u_226 E.1) d_Fo_takeByte_33 (by decide) (by exact h28) rfl ?_
    refine x_getN C (G_By E.1) 0 (u_38 E.1) d_Fo_takeByte_36 (by decide) (by exact h31) rfl ?_
    refine x_aload_n C d_Fo_takeByte_39 rfl ?_
    refine x_get C (G_Fo E.1) 2 (u_227 E.1) d_Fo_takeByte_40 (by decide) (by exact h28) rfl ?_
    refine x_iald C d_Fo_takeByte_43 (by exact h32) (by omega) (by omega) (by omega) ?_
    refine x_i2l C d_Fo_takeByte_44 (by omega) (by omega) ?_
    refine x_ladd C d_Fo_takeByte_45 ?_
    refine x_put C (G_Fo E.1) 3 (u_228 E.1) d_Fo_takeByte_46 (by decide) rfl (by exact h28) rfl rfl (nle rfl) ?_
    refine x_aload_n C d_Fo_takeByte_49 rfl ?_
    refine x_dup C d_Fo_takeByte_50 rfl ?_
    refine x_get C (G_Fo E.1) 2 (u_227 E.1) d_Fo_takeByte_51 (by decide) (by rfl) rfl ?_
    refine x_iconst C d_Fo_takeByte_54 ?_
    refine x_iadd C d_Fo_takeByte_55 ?_
    refine x_put C (G_Fo E.1) 2 (u_227 E.1) d_Fo_takeByte_56 (by decide) rfl (by rfl) rfl rfl (nle rfl) ?_
    exact x_vretT C d_Fo_takeByte_59 ⟨rfl, by rw [a_up_up]; rfl, rfl⟩
  · exfalso; omega

set_option maxRecDepth 100000 in
set_option maxHeartbeats 4000000 in
theorem c_Fo_takeT {a0 : Array Value} {s0 : State} {D : va_G} {cI cL : ClassId} (l : Launch) (E : a_E a0 s0 D cI cL) (F : a_F l s0) {h : AH} {K : Nat} {pk : Int → Int} {sz : Int} (h31 : h 31 = some (oBy s0.heap.size 32 sz)) (h32 : h 32 = some (iA cI 200 pk)) (hp : ∀ j, 0 ≤ pk j ∧ pk j < 256) (z1 : 0 ≤ sz) (z2 : sz ≤ 200) {nx cd rg : Int} (h28 : h 28 = some (oFo s0.heap.size nx cd rg)) (x1 : 0 ≤ nx) (x2 : nx ≤ sz) (nx2 : nx = sz) : XMT l s0 D y_Fo_takeByte prog_5_method_7_code 1 none 6 [.ref (s0.heap.size + 28)] (h) (K) (PX "java/util/NoSuchElementException" h (K + 1)) := by
  refine XMT.of (cI := cI) (cL := cL) (own := "NarrowingPacker$Follower") (by decide) rfl E.2 (nle rfl) ?_
  intro p e s m below meth c C hn hlow
  refine x_aload_n C d_Fo_takeByte_0 rfl ?_
  refine x_get C (G_Fo E.1) 1 (u_226 E.1) d_Fo_takeByte_1 (by decide) (by exact h28) rfl ?_
  refine x_aload_n C d_Fo_takeByte_4 rfl ?_
  refine x_get C (G_Fo E.1) 2 (u_227 E.1) d_Fo_takeByte_5 (by decide) (by exact h28) rfl ?_
  refine x_callVR C (G_By E.1) (u_675 E.1) (u_333 E.1) (u_334 E.1) (u_335 E.1) (u_2 E.1) d_Fo_takeByte_8 (c_By_has l E (by exact h31) (by omega) (by omega) (by omega) (by omega)) nh_By_has ln_By_has rfl (by exact h31) (nle rfl) (nle rfl) (nle rfl) (nle rfl) (nle rfl) ?_
  have hz : hasZ nx sz = 0 := if_neg (by omega)
  refine x_if_ne C (tgt := 24) d_Fo_takeByte_11 (by decide) (by omega) (by omega) (fun c11 => ?_) (fun c11 => ?_)
  · exfalso; omega
  · exact x_throwT C F hlow E.1 (th_NS E.1) (u_676 E.1) (u_685 E.1) (u_686 E.1) d_Fo_takeByte_14 d_Fo_takeByte_17 d_Fo_takeByte_18 d_Fo_takeByte_20 d_Fo_takeByte_23 (nle rfl) (nle rfl) (nle rfl) (nle rfl) ⟨rfl, rfl, rfl⟩

set_option maxRecDepth 100000 in
set_option maxHeartbeats 4000000 in
theorem c_Fo_readBit {a0 : Array Value} {s0 : State} {D : va_G} {cI cL : ClassId} (l : Launch) (E : a_E a0 s0 D cI cL) (F : a_F l s0) {h : AH} {K : Nat} {pk : Int → Int} {sz : Int} (h31 : h 31 = some (oBy s0.heap.size 32 sz)) (h32 : h 32 = some (iA cI 200 pk)) (hp : ∀ j, 0 ≤ pk j ∧ pk j < 256) (z1 : 0 ≤ sz) (z2 : sz ≤ 200) (h29 : h 29 = some (oCh s0.heap.size 30)) {d : De} (ok : dOk sz d) {pl : Int} (p1 : 0 ≤ pl) (p2 : pl < 3820) : XMT l s0 D y_Fo_readBit prog_5_method_3_code 5 (some .int) 7 [.ref (s0.heap.size + 28), .int (zI pl)] (sF s0.heap.size cI h d) (K) (PRs (rBit pk sz pl (.inr d)) (sF s0.heap.size cI h) K) := by
  refine XMT.of (cI := cI) (cL := cL) (own := "NarrowingPacker$Follower") (by decide) rfl E.2 (nle rfl) ?_
  intro p e s m below meth c C hn hlow
  have ok0 := ok
  obtain ⟨k1, k2, k3, k4, k5, k6⟩ := ok
  have fp := k1 pl
  have hbd := bd_le (r := d.2.1) (p := d.1 pl) (by omega) fp.1 fp.2
  refine x_aload_n C d_Fo_readBit_0 rfl ?_
  refine x_get C (G_Fo E.1) 0 (u_225 E.1) d_Fo_readBit_1 (by decide) (by rfl) rfl ?_
  refine x_aload_n C d_Fo_readBit_4 rfl ?_
  refine x_get C (G_Fo E.1) 4 (u_229 E.1) d_Fo_readBit_5 (by decide) (by rfl) rfl ?_
  refine x_iload_n C d_Fo_readBit_8 rfl ?_
  refine x_callVR C (G_Ch E.1) (u_703 E.1) (u_431 E.1) (u_432 E.1) (u_433 E.1) (u_10 E.1) d_Fo_readBit_9 (c_Ch_boundIn l E (r := 30) (by exact h29) (by rfl) p1 p2 (by exact fp) (by omega) k4) nh_Ch_boundIn ln_Ch_boundIn rfl (by exact h29) (nle rfl) (nle rfl) (nle rfl) (nle rfl) (nle rfl) ?_
  refine x_lstore_n C d_Fo_readBit_12 (by decide) ?_
  refine x_aload_n C d_Fo_readBit_13 rfl ?_
  refine x_get C (G_Fo E.1) 3 (u_228 E.1) d_Fo_readBit_14 (by decide) (by rfl) rfl ?_
  refine x_lload_n C d_Fo_readBit_17 rfl ?_
  refine x_lcmp C d_Fo_readBit_18 ?_
  refine x_lif_ge C (tgt := 26) d_Fo_readBit_19 (by decide) (by omega) (by omega) (by omega) (by omega) (fun c19 => ?_) (fun c19 => ?_)
  · have hlast : rbZ d pl = 1 := if_neg (by show ¬ d.2.2.1 < d.2.1 / 2048 * d.1 pl; omega)
    have hrr : rrZ d pl = d.2.1 - d.2.1 / 2048 * d.1 pl := if_neg (by show ¬ d.2.2.1 < d.2.1 / 2048 * d.1 pl; omega)
    have hrc : rcZ d pl = d.2.2.1 - d.2.1 / 2048 * d.1 pl := if_neg (by show ¬ d.2.2.1 < d.2.1 / 2048 * d.1 pl; omega)
    refine x_iconst C d_Fo_readBit_26 ?_
    refine x_istore C d_Fo_readBit_27 (by decide) ?_
    refine x_iload C d_Fo_readBit_29 rfl ?_
    refine x_if_ne C (tgt := 42) d_Fo_readBit_31 (by decide) (by omega) (by omega) (fun c31 => ?_) (fun c31 => ?_)
    · refine x_aload_n C d_Fo_readBit_42 rfl ?_
      refine x_dup C d_Fo_readBit_43 rfl ?_
      refine x_get C (G_Fo E.1) 3 (u_228 E.1) d_Fo_readBit_44 (by decide) (by rfl) rfl ?_
      refine x_lload_n C d_Fo_readBit_47 rfl ?_
      refine x_lsub C d_Fo_readBit_48 ?_
      refine x_put C (G_Fo E.1) 3 (u_228 E.1) d_Fo_readBit_49 (by decide) rfl (by rfl) rfl rfl (nle rfl) ?_
      refine x_aload_n C d_Fo_readBit_52 rfl ?_
      refine x_dup C d_Fo_readBit_53 rfl ?_
      refine x_get C (G_Fo E.1) 4 (u_229 E.1) d_Fo_readBit_54 (by decide) (by rfl) rfl ?_
      refine x_lload_n C d_Fo_readBit_57 rfl ?_
      refine x_lsub C d_Fo_readBit_58 ?_
      refine x_put C (G_Fo E.1) 4 (u_229 E.1) d_Fo_readBit_59 (by decide) rfl (by rfl) rfl rfl (nle rfl) ?_
      refine x_aload_n C d_Fo_readBit_62 rfl ?_
      refine x_get C (G_Fo E.1) 0 (u_225 E.1) d_Fo_readBit_63 (by decide) (by rfl) rfl ?_
      refine x_iload_n C d_Fo_readBit_66 rfl ?_
      refine x_iload C d_Fo_readBit_67 rfl ?_
      refine x_callVR C (G_Ch E.1) (u_704 E.1) (u_440 E.1) (u_441 E.1) (u_442 E.1) (u_10 E.1) d_Fo_readBit_69 (c_Ch_learn l E (r := 30) (by exact h29) (by rfl) p1 p2 (by exact fp) (by omega)) nh_Ch_learn ln_Ch_learn rfl (by exact h29) (nle rfl) (nle rfl) (nle rfl) (nle rfl) (nle rfl) ?_
      refine x_aload_n C d_Fo_readBit_72 rfl ?_
      refine x_get C (G_Fo E.1) 4 (u_229 E.1) d_Fo_readBit_73 (by decide) (by rfl) rfl ?_
      refine x_ldc2 C (v := 16777216) (u_705 E.1) d_Fo_readBit_76 ?_
      refine x_lcmp C d_Fo_readBit_79 ?_
      refine x_lif_ge C (tgt := 98) d_Fo_readBit_80 (by decide) (by omega) (by omega) (by omega) (by omega) (fun c80 => ?_) (fun c80 => ?_)
      · refine x_iload C d_Fo_readBit_98 rfl ?_
        exact x_iretT C d_Fo_readBit_100 (Or.inl ⟨(zup d.1 pl (learnZ (d.1 pl) 1), d.2.1 - d.2.1 / 2048 * d.1 pl, d.2.2.1 - d.2.1 / 2048 * d.1 pl, d.2.2.2), by show rNext pk sz d pl = _; unfold rNext; rw [if_neg (by rw [hrr]; omega), hlast, hrr, hrc], by show _ = Sum.inl (some (Value.int (zI (rbZ d pl)))); rw [hlast], sF_eq (d := (zup d.1 pl (learnZ (d.1 pl) 1), d.2.1 - d.2.1 / 2048 * d.1 pl, d.2.2.1 - d.2.1 / 2048 * d.1 pl, d.2.2.2)) rfl rfl (fun q q1 q2 => by simp only [sF, a_up, beq_f q1, beq_f q2, cond_false]), rfl⟩)
      · refine x_aload_n C d_Fo_readBit_83 rfl ?_
        refine x_dup C d_Fo_readBit_84 rfl ?_
        refine x_get C (G_Fo E.1) 4 (u_229 E.1) d_Fo_readBit_85 (by decide) (by rfl) rfl ?_
        refine x_bipush C d_Fo_readBit_88 (by decide) ?_
        refine x_lshl C (q := 256) 8 d_Fo_readBit_90 rfl rfl (by decide) ?_
        refine x_put C (G_Fo E.1) 4 (u_229 E.1) d_Fo_readBit_91 (by decide) rfl (by rfl) rfl rfl (nle rfl) ?_
        by_cases hnx : d.2.2.2 < sz
        · refine x_aload_n C d_Fo_readBit_94 rfl ?_
          refine x_callVTT C (G_Fo E.1) (u_671 E.1) (u_673 E.1) (us_16 E.1) (u_674 E.1) (u_12 E.1) d_Fo_readBit_95 (c_Fo_take l E F (nx := d.2.2.2) (cd := d.2.2.1 - d.2.1 / 2048 * d.1 pl) (rg := (d.2.1 - d.2.1 / 2048 * d.1 pl) * 256) (by exact h31) (by exact h32) hp z1 z2 (by rfl) k5 k6 hnx) nh_Fo_takeByte ln_Fo_takeByte rfl (by rfl) (nle rfl) (nle rfl) (nle rfl) (nle rfl) (nle rfl) (fun v95 h95 K95 r95 => ?_) (fun Cn95 h95 K95 r95 => ?_)
          · obtain ⟨q1, q2, q3⟩ := r95
            cases q1
            subst q2
            subst q3
            refine x_iload C d_Fo_readBit_98 rfl ?_
            exact x_iretT C d_Fo_readBit_100 (Or.inl ⟨(zup d.1 pl (learnZ (d.1 pl) 1), (d.2.1 - d.2.1 / 2048 * d.1 pl) * 256, (d.2.2.1 - d.2.1 / 2048 * d.1 pl) * 256 + pk d.2.2.2, d.2.2.2 + 1), by show rNext pk sz d pl = _; unfold rNext; rw [if_pos (by rw [hrr]; omega), if_pos hnx, hlast, hrr, hrc], by show _ = Sum.inl (some (Value.int (zI (rbZ d pl)))); rw [hlast], sF_eq (d := (zup d.1 pl (learnZ (d.1 pl) 1), (d.2.1 - d.2.1 / 2048 * d.1 pl) * 256, (d.2.2.1 - d.2.1 / 2048 * d.1 pl) * 256 + pk d.2.2.2, d.2.2.2 + 1)) rfl rfl (fun q q1 q2 => by simp only [sF, a_up, beq_f q1, beq_f q2, cond_false]), rfl⟩)
          · cases r95.1
        · refine x_aload_n C d_Fo_readBit_94 rfl ?_
          refine x_callVTT C (G_Fo E.1) (u_671 E.1) (u_673 E.1) (us_16 E.1) (u_674 E.1) (u_12 E.1) d_Fo_readBit_95 (c_Fo_takeT l E F (nx := d.2.2.2) (cd := d.2.2.1 - d.2.1 / 2048 * d.1 pl) (rg := (d.2.1 - d.2.1 / 2048 * d.1 pl) * 256) (by exact h31) (by exact h32) hp z1 z2 (by rfl) k5 k6 (by omega)) nh_Fo_takeByte ln_Fo_takeByte rfl (by rfl) (nle rfl) (nle rfl) (nle rfl) (nle rfl) (nle rfl) (fun v95 h95 K95 r95 => ?_) (fun Cn95 h95 K95 r95 => ?_)
          · cases r95.1
          · obtain ⟨q1, q2, q3⟩ := r95
            cases q1
            subst q2
            subst q3
            exact (Or.inr ⟨1, by show rNext pk sz d pl = _; unfold rNext; rw [if_pos (by rw [hrr]; omega), if_neg hnx], rfl, rfl, (zup d.1 pl (learnZ (d.1 pl) 1), (d.2.1 - d.2.1 / 2048 * d.1 pl) * 256, d.2.2.1 - d.2.1 / 2048 * d.1 pl, d.2.2.2), sF_eq (d := (zup d.1 pl (learnZ (d.1 pl) 1), (d.2.1 - d.2.1 / 2048 * d.1 pl) * 256, d.2.2.1 - d.2.1 / 2048 * d.1 pl, d.2.2.2)) rfl rfl (fun q q1 q2 => by simp only [sF, a_up, beq_f q1, beq_f q2, cond_false])⟩)
    · exfalso; omega
  · have hlast : rbZ d pl = 0 := if_pos c19
    have hrr : rrZ d pl = d.2.1 / 2048 * d.1 pl := if_pos c19
    have hrc : rcZ d pl = d.2.2.1 := if_pos c19
    refine x_iconst C d_Fo_readBit_22 ?_
    refine x_goto C (tgt := 27) d_Fo_readBit_23 (by decide) ?_
    refine x_istore C d_Fo_readBit_27 (by decide) ?_
    refine x_iload C d_Fo_readBit_29 rfl ?_
    refine x_if_ne C (tgt := 42) d_Fo_readBit_31 (by decide) (by omega) (by omega) (fun c31 => ?_) (fun c31 => ?_)
    · exfalso; omega
    · refine x_aload_n C d_Fo_readBit_34 rfl ?_
      refine x_lload_n C d_Fo_readBit_35 rfl ?_
      refine x_put C (G_Fo E.1) 4 (u_229 E.1) d_Fo_readBit_36 (by decide) rfl (by rfl) rfl rfl (nle rfl) ?_
      refine x_goto C (tgt := 62) d_Fo_readBit_39 (by decide) ?_
      refine x_aload_n C d_Fo_readBit_62 rfl ?_
      refine x_get C (G_Fo E.1) 0 (u_225 E.1) d_Fo_readBit_63 (by decide) (by rfl) rfl ?_
      refine x_iload_n C d_Fo_readBit_66 rfl ?_
      refine x_iload C d_Fo_readBit_67 rfl ?_
      refine x_callVR C (G_Ch E.1) (u_704 E.1) (u_440 E.1) (u_441 E.1) (u_442 E.1) (u_10 E.1) d_Fo_readBit_69 (c_Ch_learn l E (r := 30) (by exact h29) (by rfl) p1 p2 (by exact fp) (by omega)) nh_Ch_learn ln_Ch_learn rfl (by exact h29) (nle rfl) (nle rfl) (nle rfl) (nle rfl) (nle rfl) ?_
      refine x_aload_n C d_Fo_readBit_72 rfl ?_
      refine x_get C (G_Fo E.1) 4 (u_229 E.1) d_Fo_readBit_73 (by decide) (by rfl) rfl ?_
      refine x_ldc2 C (v := 16777216) (u_705 E.1) d_Fo_readBit_76 ?_
      refine x_lcmp C d_Fo_readBit_79 ?_
      refine x_lif_ge C (tgt := 98) d_Fo_readBit_80 (by decide) (by omega) (by omega) (by omega) (by omega) (fun c80 => ?_) (fun c80 => ?_)
      · refine x_iload C d_Fo_readBit_98 rfl ?_
        exact x_iretT C d_Fo_readBit_100 (Or.inl ⟨(zup d.1 pl (learnZ (d.1 pl) 0), d.2.1 / 2048 * d.1 pl, d.2.2.1, d.2.2.2), by show rNext pk sz d pl = _; unfold rNext; rw [if_neg (by rw [hrr]; omega), hlast, hrr, hrc], by show _ = Sum.inl (some (Value.int (zI (rbZ d pl)))); rw [hlast], sF_eq (d := (zup d.1 pl (learnZ (d.1 pl) 0), d.2.1 / 2048 * d.1 pl, d.2.2.1, d.2.2.2)) rfl rfl (fun q q1 q2 => by simp only [sF, a_up, beq_f q1, beq_f q2, cond_false]), rfl⟩)
      · refine x_aload_n C d_Fo_readBit_83 rfl ?_
        refine x_dup C d_Fo_readBit_84 rfl ?_
        refine x_get C (G_Fo E.1) 4 (u_229 E.1) d_Fo_readBit_85 (by decide) (by rfl) rfl ?_
        refine x_bipush C d_Fo_readBit_88 (by decide) ?_
        refine x_lshl C (q := 256) 8 d_Fo_readBit_90 rfl rfl (by decide) ?_
        refine x_put C (G_Fo E.1) 4 (u_229 E.1) d_Fo_readBit_91 (by decide) rfl (by rfl) rfl rfl (nle rfl) ?_
        by_cases hnx : d.2.2.2 < sz
        · refine x_aload_n C d_Fo_readBit_94 rfl ?_
          refine x_callVTT C (G_Fo E.1) (u_671 E.1) (u_673 E.1) (us_16 E.1) (u_674 E.1) (u_12 E.1) d_Fo_readBit_95 (c_Fo_take l E F (nx := d.2.2.2) (cd := d.2.2.1) (rg := (d.2.1 / 2048 * d.1 pl) * 256) (by exact h31) (by exact h32) hp z1 z2 (by rfl) k5 k6 hnx) nh_Fo_takeByte ln_Fo_takeByte rfl (by rfl) (nle rfl) (nle rfl) (nle rfl) (nle rfl) (nle rfl) (fun v95 h95 K95 r95 => ?_) (fun Cn95 h95 K95 r95 => ?_)
          · obtain ⟨q1, q2, q3⟩ := r95
            cases q1
            subst q2
            subst q3
            refine x_iload C d_Fo_readBit_98 rfl ?_
            exact x_iretT C d_Fo_readBit_100 (Or.inl ⟨(zup d.1 pl (learnZ (d.1 pl) 0), (d.2.1 / 2048 * d.1 pl) * 256, (d.2.2.1) * 256 + pk d.2.2.2, d.2.2.2 + 1), by show rNext pk sz d pl = _; unfold rNext; rw [if_pos (by rw [hrr]; omega), if_pos hnx, hlast, hrr, hrc], by show _ = Sum.inl (some (Value.int (zI (rbZ d pl)))); rw [hlast], sF_eq (d := (zup d.1 pl (learnZ (d.1 pl) 0), (d.2.1 / 2048 * d.1 pl) * 256, (d.2.2.1) * 256 + pk d.2.2.2, d.2.2.2 + 1)) rfl rfl (fun q q1 q2 => by simp only [sF, a_up, beq_f q1, beq_f q2, cond_false]), rfl⟩)
          · cases r95.1
        · refine x_aload_n C d_Fo_readBit_94 rfl ?_
          refine x_callVTT C (G_Fo E.1) (u_671 E.1) (u_673 E.1) (us_16 E.1) (u_674 E.1) (u_12 E.1) d_Fo_readBit_95 (c_Fo_takeT l E F (nx := d.2.2.2) (cd := d.2.2.1) (rg := (d.2.1 / 2048 * d.1 pl) * 256) (by exact h31) (by exact h32) hp z1 z2 (by rfl) k5 k6 (by omega)) nh_Fo_takeByte ln_Fo_takeByte rfl (by rfl) (nle rfl) (nle rfl) (nle rfl) (nle rfl) (nle rfl) (fun v95 h95 K95 r95 => ?_) (fun Cn95 h95 K95 r95 => ?_)
          · cases r95.1
          · obtain ⟨q1, q2, q3⟩ := r95
            cases q1
            subst q2
            subst q3
            exact (Or.inr ⟨1, by show rNext pk sz d pl = _; unfold rNext; rw [if_pos (by rw [hrr]; omega), if_neg hnx], rfl, rfl, (zup d.1 pl (learnZ (d.1 pl) 0), (d.2.1 / 2048 * d.1 pl) * 256, d.2.2.1, d.2.2.2), sF_eq (d := (zup d.1 pl (learnZ (d.1 pl) 0), (d.2.1 / 2048 * d.1 pl) * 256, d.2.2.1, d.2.2.2)) rfl rfl (fun q q1 q2 => by simp only [sF, a_up, beq_f q1, beq_f q2, cond_false])⟩)

