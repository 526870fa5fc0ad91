/-! the source is written -/
theorem beq_f {q k : Nat} (h : q ≠ k) : Nat.beq q k = false := by
  cases hb : Nat.beq q k with
  | false => rfl
  | true => exact absurd (Nat.eq_of_beq_eq_true hb) h
def sP (b : Nat) (cI : ClassId) (np : Nat) (h : AH) (w : Pw) (co pa : va_E) : AH := a_up (a_up (sL b cI np (sN b cI (sH b cI h w.2.1) w.1) w.2.2.1 w.2.2.2) 21 co) 16 pa
def PE (Q : AH → Prop) (K : Nat) : AO → AH → Nat → Prop := fun o h' K' => o = .inl none ∧ K' = K ∧ Q h'
theorem sP_C (b : Nat) (cI : ClassId) (np : Nat) (h : AH) (w : Pw) (co pa co' pa' : va_E) : a_up (a_up (sP b cI np h w co pa) 21 co') 16 pa' = sP b cI np h w co' pa' := by
  unfold sP
  rw [a_up_cm (k := 16) (j := 21) _ _ _ (by decide), a_up_up, a_up_up]
theorem sP_A (b : Nat) (cI : ClassId) (np : Nat) (h : AH) (w : Pw) (co pa pa' : va_E) : a_up (sP b cI np h w co pa) 16 pa' = sP b cI np h w co pa' := by
  unfold sP
  rw [a_up_up]
theorem sP_N8 (b : Nat) (cI : ClassId) (h : AH) (w : Pw) (co pa : va_E) (x : En) : sN b cI (sP b cI 8 h w co pa) x = sP b cI 8 h (x, w.2) co pa :=
  (sN_eq rfl rfl rfl (fun q q1 q2 q3 => by simp only [sP, sL, sN, sH, a_up, beq_f q1, beq_f q2, beq_f q3, cond_false])).symm
theorem sP_H8 (b : Nat) (cI : ClassId) (h : AH) (w : Pw) (co pa : va_E) (t : Hs) : sH b cI (sP b cI 8 h w co pa) t = sP b cI 8 h (w.1, t, w.2.2) co pa :=
  (sH_eq rfl rfl rfl rfl (fun q q1 q2 q3 q4 => by simp only [sP, sL, sN, sH, a_up, beq_f q1, beq_f q2, beq_f q3, beq_f q4, cond_false])).symm
theorem sP_L8 (b : Nat) (cI : ClassId) (h : AH) (w : Pw) (co pa : va_E) (l : T3) (n : Int) : sL b cI 8 (sP b cI 8 h w co pa) l n = sP b cI 8 h (w.1, w.2.1, l, n) co pa :=
  (sL_eq rfl rfl rfl rfl (fun q q1 q2 q3 q4 => by simp only [sP, sL, sN, sH, a_up, beq_f q1, beq_f q2, beq_f q3, beq_f q4, cond_false])).symm
theorem sP_N12 (b : Nat) (cI : ClassId) (h : AH) (w : Pw) (co pa : va_E) (x : En) : sN b cI (sP b cI 12 h w co pa) x = sP b cI 12 h (x, w.2) co pa :=
  (sN_eq rfl rfl rfl (fun q q1 q2 q3 => by simp only [sP, sL, sN, sH, a_up, beq_f q1, beq_f q2, beq_f q3, cond_false])).symm
theorem sP_H12 (b : Nat) (cI : ClassId) (h : AH) (w : Pw) (co pa : va_E) (t : Hs) : sH b cI (sP b cI 12 h w co pa) t = sP b cI 12 h (w.1, t, w.2.2) co pa :=
  (sH_eq rfl rfl rfl rfl (fun q q1 q2 q3 q4 => by simp only [sP, sL, sN, sH, a_up, beq_f q1, beq_f q2, beq_f q3, beq_f q4, cond_false])).symm
theorem sP_L12 (b : Nat) (cI : ClassId) (h : AH) (w : Pw) (co pa : va_E) (l : T3) (n : Int) : sL b cI 12 (sP b cI 12 h w co pa) l n = sP b cI 12 h (w.1, w.2.1, l, n) co pa :=
  (sL_eq rfl rfl rfl rfl (fun q q1 q2 q3 q4 => by simp only [sP, sL, sN, sH, a_up, beq_f q1, beq_f q2, beq_f q3, beq_f q4, cond_false])).symm
