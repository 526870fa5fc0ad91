/-! the source is written -/
theorem beq_f {q k : Nat} (h : q ≠ k) : Nat.beq q k = false := by
  cases hb : Nat.beq q k with
  | false => rfl
  | true => exact absurd (Nat.eq_of_beq_eq_true hb) h
def sP (b : Nat) (cI : ClassId) (np : Nat) (h : AH) (w : Pw) (co pa : va_E) : AH := a_up (a_up (sL b cI np (sN b cI (sH b cI h w.2.1) w.1) w.2.2.1 w.2.2.2) 21 co) 16 pa
def PE (Q : AH → Prop) (K : Nat) : AO → AH → Nat → Prop := fun o h' K' => o = .inl none ∧ K' = K ∧ Q h'
theorem sP_C (b : Nat) (cI : ClassId) (np : Nat) (h : AH) (w : Pw) (co pa co' pa' : va_E) : a_up (a_up (sP b cI np h w co pa) 21 co') 16 pa' = sP b cI np h w co' pa' := by
  unfold sP
  rw [a_up_cm (k := 16) (j := 21) _ _ _ (by decide), a_up_up, a_up_up]
theorem sP_A (b : Nat) (cI : ClassId) (np : Nat) (h : AH) (w : Pw) (co pa pa' : va_E) : a_up (sP b cI np h w co pa) 16 pa' = sP b cI np h w co pa' := by
  unfold sP
  rw [a_up_up]
theorem sP_N8 (b : Nat) (cI : ClassId) (h : AH) (w : Pw) (co pa : va_E) (x : En) : sN b cI (sP b cI 8 h w co pa) x = sP b cI 8 h (x, w.2) co pa :=
  (sN_eq rfl rfl rfl (fun q q1 q2 q3 => by simp only [sP, sL, sN, sH, a_up, beq_f q1, beq_f q2, beq_f q3, cond_false])).symm
theorem sP_H8 (b : Nat) (cI : ClassId) (h : AH) (w : Pw) (co pa : va_E) (t : Hs) : sH b cI (sP b cI 8 h w co pa) t = sP b cI 8 h (w.1, t, w.2.2) co pa :=
  (sH_eq rfl rfl rfl rfl (fun q q1 q2 q3 q4 => by simp only [sP, sL, sN, sH, a_up, beq_f q1, beq_f q2, beq_f q3, beq_f q4, cond_false])).symm
theorem sP_L8 (b : Nat) (cI : ClassId) (h : AH) (w : Pw) (co pa : va_E) (l : T3) (n : Int) : sL b cI 8 (sP b cI 8 h w co pa) l n = sP b cI 8 h (w.1, w.2.1, l, n) co pa :=
  (sL_eq rfl rfl rfl rfl (fun q q1 q2 q3 q4 => by simp only [sP, sL, sN, sH, a_up, beq_f q1, beq_f q2, beq_f q3, beq_f q4, cond_false])).symm
theorem sP_N12 (b : Nat) (cI : ClassId) (h : AH) (w : Pw) (co pa : va_E) (x : En) : sN b cI (sP b cI 12 h w co pa) x = sP b cI 12 h (x, w.2) co pa :=
  (sN_eq rfl rfl rfl (fun q q1 q2 q3 => by simp only [sP, sL, sN, sH, a_up, beq_f q1, beq_f q2, beq_f q3, cond_false])).symm
theorem sP_H12 (b : Nat) (cI : ClassId) (h : AH) (w : Pw) (co pa : va_E) (t : Hs) : sH b cI (sP b cI 12 h w co pa) t = sP b cI 12 h (w.1, t, w.2.2) co pa :=
  (sH_eq rfl rfl rfl rfl (fun q q1 q2 q3 q4 => by simp only [sP, sL, sN, sH, a_up, beq_f q1, beq_f q2, beq_f q3, beq_f q4, cond_false])).symm
theorem sP_L12 (b : Nat) (cI : ClassId) (h : AH) (w : Pw) (co pa : va_E) (l : T3) (n : Int) : sL b cI 12 (sP b cI 12 h w co pa) l n = sP b cI 12 h (w.1, w.2.1, l, n) co pa :=
  (sL_eq rfl rfl rfl rfl (fun q q1 q2 q3 q4 => by simp only [sP, sL, sN, sH, a_up, beq_f q1, beq_f q2, beq_f q3, beq_f q4, cond_false])).symm
theorem ePv1 (t : Hs) (x : En) (ln ds ec li : Int) : ePkt t (1, ln, ds, ec, li) x = eMatch ln ds (eBit (eBit x t.2.2.2 1) (12 + t.2.2.2) 0) := by
  unfold ePkt
  rw [if_neg (fun h : (1 : Int) = 0 => absurd h (by decide)), if_pos rfl]
theorem ePk1 (t : Hs) (x : En) (ln ds ec li : Int) : ePkt t (1, ln, ds, 0, 0) x = ePkt t (1, ln, ds, ec, li) x := by rw [ePv1, ePv1]
theorem hTe1 (t : Hs) (ln ds ec li : Int) : hTell t (1, ln, ds, 0, 0) = hTell t (1, ln, ds, ec, li) := rfl
theorem pkV1 (ln ds ec li : Int) : pkVal (1, ln, ds, 0, 0) = pkVal (1, ln, ds, ec, li) := rfl
theorem ePv2 (t : Hs) (x : En) (ln ds ec li : Int) : ePkt t (2, ln, ds, ec, li) x = eLen 218 (ln - 2) (eEcho t.2.2.2 ec (eBit (eBit x t.2.2.2 1) (12 + t.2.2.2) 1)) := by
  unfold ePkt
  rw [if_neg (fun h : (2 : Int) = 0 => absurd h (by decide)), if_neg (fun h : (2 : Int) = 1 => absurd h (by decide)), if_pos rfl]
theorem ePk2 (t : Hs) (x : En) (ln ds ec li : Int) : ePkt t (2, ln, ds, ec, 0) x = ePkt t (2, ln, ds, ec, li) x := by rw [ePv2, ePv2]
theorem hTe2 (t : Hs) (ln ds ec li : Int) : hTell t (2, ln, ds, ec, 0) = hTell t (2, ln, ds, ec, li) := rfl
theorem pkV2 (ln ds ec li : Int) : pkVal (2, ln, ds, ec, 0) = pkVal (2, ln, ds, ec, li) := rfl
theorem ePv3 (t : Hs) (x : En) (ln ds ec li : Int) : ePkt t (3, ln, ds, ec, li) x = eEcho t.2.2.2 (-1) (eBit (eBit x t.2.2.2 1) (12 + t.2.2.2) 1) := by
  unfold ePkt
  rw [if_neg (fun h : (3 : Int) = 0 => absurd h (by decide)), if_neg (fun h : (3 : Int) = 1 => absurd h (by decide)), if_neg (fun h : (3 : Int) = 2 => absurd h (by decide)), if_pos rfl]
theorem ePk3 (t : Hs) (x : En) (ln ds ec li : Int) : ePkt t (3, ln, ds, 0, 0) x = ePkt t (3, ln, ds, ec, li) x := by rw [ePv3, ePv3]
theorem hTe3 (t : Hs) (ln ds ec li : Int) : hTell t (3, ln, ds, 0, 0) = hTell t (3, ln, ds, ec, li) := rfl
theorem pkV3 (ln ds ec li : Int) : pkVal (3, ln, ds, 0, 0) = pkVal (3, ln, ds, ec, li) := rfl
theorem ePk0 (t : Hs) (x : En) (ln ds ec li : Int) : ePkt t (0, ln, ds, 0, li) x = ePkt t (0, ln, ds, ec, li) x := by
  unfold ePkt
  rw [if_pos rfl, if_pos rfl]
theorem hTe0 (t : Hs) (ln ds ec li : Int) : hTell t (0, ln, ds, 0, li) = hTell t (0, ln, ds, ec, li) := rfl
theorem pkV0 (ln ds ec li : Int) : pkVal (0, ln, ds, 0, li) = pkVal (0, ln, ds, ec, li) := rfl
theorem packStep_eq (c : Int) (src : Int → Int) (n : Int) (w : Pw) : packStep c src n w = (ePkt w.2.1 (chooseZ c src n w.2.1) w.1, hTell w.2.1 (chooseZ c src n w.2.1), (zup w.2.2.1.1 w.2.2.2 (chooseZ c src n w.2.1).1, zup w.2.2.1.2.1 w.2.2.2 (chooseZ c src n w.2.1).2.1, zup w.2.2.1.2.2 w.2.2.2 (pkVal (chooseZ c src n w.2.1))), w.2.2.2 + 1) := rfl
