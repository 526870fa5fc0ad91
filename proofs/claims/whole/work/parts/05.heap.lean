/-! fields, rows, new cells -/
def a_cl (a0 : Array Value) (s0 : State) (ci : Nat) (Cn : String) (T : u_T) (N : Nat) (ty : Nat → FieldType) : Prop :=
  vwCl[ci]? = some (Cn, T, N) ∧ (∀ w ∈ u_ws Cn T N, w.before a0 s0 = true) ∧ (∀ k, k < N → parseFieldDescriptor (T k).2.2.1 = some (ty k)) ∧ (∀ a, a < N → ∀ b, b < N → a ≠ b → (T a).2.1 ≠ (T b).2.1)
theorem u_ws_good {Cn : String} {T : u_T} {N : Nat} (w : Cond) (hw : w ∈ u_ws Cn T N) : goodWord w = true := by
  obtain ⟨k, -, e⟩ := List.mem_map.mp hw
  subst e
  unfold u_lay
  split <;> rfl
theorem XP.put {s0 : State} {D : va_G} {nL : Nat} {lv : List (Nat × Value)} {h : AH} {K : Nat} {ls : Array Slot} {H H' : Heap} {locs : List Loc} (P : XP s0 D nL lv h K ls H locs) {a k0 : Nat} {x : va_E} (z : H'.size = H.size) (oq : ∀ q : Nat, q ≠ s0.heap.size + a → H'[q]? = H[q]?) (hx : va_at D vwCl (s0.heap.size + a, x) H') : XP s0 D nL lv (a_up h a x) K ls H' (locs ++ [⟨s0.heap.size + a, k0⟩]) := by
  refine ⟨P.1, by rw [z]; exact P.2.1, fun q hq => ?_, fun k y hy => ?_, fun q hq => ?_⟩
  · rw [oq q (by omega)]; exact P.2.2.1 q hq
  · by_cases e : k = a
    · subst e
      rw [a_up_s] at hy
      cases hy
      exact hx
    · rw [a_up_n e] at hy
      exact (P.2.2.2.1 k y hy).kept (oq _ (by show s0.heap.size + k ≠ _; omega))
  · rcases List.mem_append.mp hq with h1 | h1
    · exact P.2.2.2.2 q h1
    · rw [List.mem_singleton.mp h1]; exact Nat.le_add_right _ _
theorem XP.push {s0 : State} {D : va_G} {nL : Nat} {lv : List (Nat × Value)} {h : AH} {K : Nat} {ls : Array Slot} {H H' : Heap} {locs : List Loc} (P : XP s0 D nL lv h K ls H locs) {x : va_E} (z : H'.size = H.size + 1) (oq : ∀ q : Nat, q < H.size → H'[q]? = H[q]?) (hx : va_at D vwCl (s0.heap.size + K, x) H') : XP s0 D nL lv (a_up h K x) (K + 1) ls H' locs := by
  have hz := P.2.1
  refine ⟨P.1, by omega, fun q hq => ?_, fun k y hy => ?_, P.2.2.2.2⟩
  · rw [oq q (by omega)]; exact P.2.2.1 q hq
  · by_cases e : k = K
    · subst e
      rw [a_up_s] at hy
      cases hy
      exact hx
    · rw [a_up_n e] at hy
      have h1 := P.2.2.2.1 k y hy
      exact h1.kept (oq _ h1.lt)
section HeapRows
variable {a0 : Array Value} {s0 : State} {D : va_G} {cI cL : ClassId} {p : Program} {l : Launch} {e : Env} {R : Room} {s : State} {m : MethodId} {args : Array Value} {below : List Frame} {meth : Method} {c : Code} {Q : State → Prop} {tb : List ExceptionTableEntry}
variable {own : String} {cc : ByteArray} {nL : Nat} {ret : Option FieldType} {pc : Nat} {lv : List (Nat × Value)} {st : List Value} {h : AH} {K cells slots : Nat}
variable {ci : Nat} {Cn : String} {T : u_T} {N : Nat} {ty : Nat → FieldType} {a : Nat} {fs : List Value} {index : Nat}
theorem x_get (C : XC s0 D cI cL p s m meth c own cc nL ret tb) (G : a_cl a0 s0 ci Cn T N ty) (k : Nat) (hw : (Cond.fieldLink own index (T k).1 (T k).2.1 (T k).2.2.1).before a0 s0 = true) (hd : decode cc pc = .ok (.getfield index, 3)) (hk : k < N) (hh : h a = some (.inr (ci, fs))) {v : Value} (hv : fs[k]? = some v)
    (kk : XW s0 D p l e R s m args below meth c Q (pc + 3) lv (v :: st) h K cells slots) : XW s0 D p l e R s m args below meth c Q pc lv (.ref (s0.heap.size + a) :: st) h K cells slots := by
  intro ls H locs P
  have hP : va_P D vwCl [(s0.heap.size + a, .inr (ci, fs))] H := by
    intro j q hj
    cases j with
    | zero => cases hj; exact P.2.2.2.1 a _ hh
    | succ j => cases hj
  exact va_get C.1 C.2.1 (fun w hw => x_w C (u_ws_good w hw) (G.2.1 w hw)) (fun _ h => h) C.2.2.2.1 C.2.2.2.2.2.2.1 hP 0 rfl G.1 k hk (x_w C rfl hw) (fun _ h => h) hv hd (kk ls H locs P)
theorem x_getN (C : XC s0 D cI cL p s m meth c own cc nL ret tb) (G : a_cl a0 s0 ci Cn T N ty) (k : Nat) {host : String} (hw : (Cond.fieldLinkNest own index (T k).1 (T k).2.1 (T k).2.2.1 host).before a0 s0 = true) (hd : decode cc pc = .ok (.getfield index, 3)) (hk : k < N) (hh : h a = some (.inr (ci, fs))) {v : Value} (hv : fs[k]? = some v)
    (kk : XW s0 D p l e R s m args below meth c Q (pc + 3) lv (v :: st) h K cells slots) : XW s0 D p l e R s m args below meth c Q pc lv (.ref (s0.heap.size + a) :: st) h K cells slots := by
  intro ls H locs P
  have hP : va_P D vwCl [(s0.heap.size + a, .inr (ci, fs))] H := by
    intro j q hj
    cases j with
    | zero => cases hj; exact P.2.2.2.1 a _ hh
    | succ j => cases hj
  exact va_getN C.1 C.2.1 (fun w hw => x_w C (u_ws_good w hw) (G.2.1 w hw)) (fun _ h => h) C.2.2.2.1 C.2.2.2.2.2.2.1 hP 0 rfl G.1 k hk (va_Nw.use rfl (va_Nw.warmF C.2.2.2.2.1 (va_Nw.of rfl hw))) (fun _ h => h) hv hd (kk ls H locs P)
theorem x_put (C : XC s0 D cI cL p s m meth c own cc nL ret tb) (G : a_cl a0 s0 ci Cn T N ty) (k : Nat) (hw : (Cond.fieldLink own index (T k).1 (T k).2.1 (T k).2.2.1).before a0 s0 = true) (hd : decode cc pc = .ok (.putfield index, 3)) (hk : k < N) (hfin : (T k).2.2.2 = false) (hh : h a = some (.inr (ci, fs))) {v : Value} (hn : narrow (ty k) v = v) (hfit : fits (ty k) v = true) (hl : k < fs.length)
    (kk : XW s0 D p l e R s m args below meth c Q (pc + 3) lv st (a_up h a (.inr (ci, fs.set k v))) K cells slots) : XW s0 D p l e R s m args below meth c Q pc lv (v :: .ref (s0.heap.size + a) :: st) h K cells slots := by
  intro ls H locs P
  have hts : ∀ w ∈ u_ws Cn T N, w.before args s = true := fun w hw => x_w C (u_ws_good w hw) (G.2.1 w hw)
  have hin : ∀ w ∈ u_ws Cn T N, w ∈ u_ws Cn T N := fun _ h => h
  have hK := C.2.2.2.2.2.2.1
  have hap := va_apart (own := own) hts hin ty G.2.2.1 G.2.2.2 hK G.1
  obtain ⟨r, h1, cell, q1, q2, q3, q4⟩ := P.2.2.2.1 a _ hh
  have hr : r = (Cn, T, N) := Option.some.inj (h1.symm.trans G.1)
  subst hr
  obtain ⟨hS, hfc, kC, hkC, hkind⟩ := hK.1 ci _ G.1
  obtain ⟨cf, kf, fi, f, hi, hsl⟩ := hS k hk
  have hlay := hts _ (hin _ (u_in_lay hk))
  unfold u_lay at hlay
  rw [if_neg (by rw [hfin]; decide)] at hlay
  have hst := (u_facts hfc hkC (u_lays hts hin hk) hi).1
  have h6 := u_store hfc hkC hkind hlay hi (G.2.2.1 k hk) hn hfit
  refine W.putK C.1 C.2.1 (f := f) ⟨C.2.2.2.1, x_w C rfl hw, ⟨_, _, _, hi⟩, hst⟩ (by rw [q2]; exact h6) q1 q3 (by rw [hsl]; exact k2_hasslot (q4 k hk)) rfl rfl hd fun H' e1 e2 e3 => ?_
  rw [hsl] at e1 ⊢
  exact kk ls H' _ (P.put e2 e3 ⟨_, G.1, t_OB.to (V := updV (vp_V fs) k v) ⟨_, e1, q2, q3, t_set q4 hap hk v⟩ (fun j _ => vp_updV_set hl v j)⟩)
theorem x_putN (C : XC s0 D cI cL p s m meth c own cc nL ret tb) (G : a_cl a0 s0 ci Cn T N ty) (k : Nat) {host : String} (hw : (Cond.fieldLinkNest own index (T k).1 (T k).2.1 (T k).2.2.1 host).before a0 s0 = true) (hd : decode cc pc = .ok (.putfield index, 3)) (hk : k < N) (hfin : (T k).2.2.2 = false) (hh : h a = some (.inr (ci, fs))) {v : Value} (hn : narrow (ty k) v = v) (hfit : fits (ty k) v = true) (hl : k < fs.length)
    (kk : XW s0 D p l e R s m args below meth c Q (pc + 3) lv st (a_up h a (.inr (ci, fs.set k v))) K cells slots) : XW s0 D p l e R s m args below meth c Q pc lv (v :: .ref (s0.heap.size + a) :: st) h K cells slots := by
  intro ls H locs P
  have hts : ∀ w ∈ u_ws Cn T N, w.before args s = true := fun w hw => x_w C (u_ws_good w hw) (G.2.1 w hw)
  have hin : ∀ w ∈ u_ws Cn T N, w ∈ u_ws Cn T N := fun _ h => h
  have hK := C.2.2.2.2.2.2.1
  have hap := va_apart (own := own) hts hin ty G.2.2.1 G.2.2.2 hK G.1
  obtain ⟨r, h1, cell, q1, q2, q3, q4⟩ := P.2.2.2.1 a _ hh
  have hr : r = (Cn, T, N) := Option.some.inj (h1.symm.trans G.1)
  subst hr
  obtain ⟨hS, hfc, kC, hkC, hkind⟩ := hK.1 ci _ G.1
  obtain ⟨cf, kf, fi, f, hi, hsl⟩ := hS k hk
  have hlay := hts _ (hin _ (u_in_lay hk))
  unfold u_lay at hlay
  rw [if_neg (by rw [hfin]; decide)] at hlay
  have hst := (u_facts hfc hkC (u_lays hts hin hk) hi).1
  have h6 := u_store hfc hkC hkind hlay hi (G.2.2.1 k hk) hn hfit
  refine va_WputK C.1 C.2.1 (f := f) C.2.2.2.1 (va_Nw.use rfl (va_Nw.warmF C.2.2.2.2.1 (va_Nw.of rfl hw))) hi hst (by rw [q2]; exact h6) q1 q3 (by rw [hsl]; exact k2_hasslot (q4 k hk)) rfl rfl hd fun H' e1 e2 e3 => ?_
  rw [hsl] at e1 ⊢
  exact kk ls H' _ (P.put e2 e3 ⟨_, G.1, t_OB.to (V := updV (vp_V fs) k v) ⟨_, e1, q2, q3, t_set q4 hap hk v⟩ (fun j _ => vp_updV_set hl v j)⟩)
theorem x_putF (C : XC s0 D cI cL p s m meth c own cc nL ret tb) (hin2 : meth.name = "<init>") (G : a_cl a0 s0 ci Cn T N ty) (k : Nat) (hw : (Cond.fieldLink own index (T k).1 (T k).2.1 (T k).2.2.1).before a0 s0 = true) (hd : decode cc pc = .ok (.putfield index, 3)) (hk : k < N) (hfin : (T k).2.2.2 = true) (hdecl : (T k).1 = own) (hh : h a = some (.inr (ci, fs))) {v : Value} (hn : narrow (ty k) v = v) (hfit : fits (ty k) v = true) (hl : k < fs.length)
    (kk : XW s0 D p l e R s m args below meth c Q (pc + 3) lv st (a_up h a (.inr (ci, fs.set k v))) K cells slots) : XW s0 D p l e R s m args below meth c Q pc lv (v :: .ref (s0.heap.size + a) :: st) h K cells slots := by
  intro ls H locs P
  have hts : ∀ w ∈ u_ws Cn T N, w.before args s = true := fun w hw => x_w C (u_ws_good w hw) (G.2.1 w hw)
  have hin : ∀ w ∈ u_ws Cn T N, w ∈ u_ws Cn T N := fun _ h => h
  have hK := C.2.2.2.2.2.2.1
  have hap := va_apart (own := own) hts hin ty G.2.2.1 G.2.2.2 hK G.1
  obtain ⟨r, h1, cell, q1, q2, q3, q4⟩ := P.2.2.2.1 a _ hh
  have hr : r = (Cn, T, N) := Option.some.inj (h1.symm.trans G.1)
  subst hr
  obtain ⟨hS, hfc, kC, hkC, hkind⟩ := hK.1 ci _ G.1
  obtain ⟨cf, kf, fi, f, hi, hsl⟩ := hS k hk
  have hlay := hts _ (hin _ (u_in_lay hk))
  unfold u_lay at hlay
  rw [if_pos hfin] at hlay
  have hst := (u_facts hfc hkC (u_lays hts hin hk) hi).1
  have hcf : m.cls = cf := by
    obtain ⟨_, _, c', _, _, _, -, -, hf', -, -, -, hown2, -⟩ := Cond.laysFinal_spec hlay
    have e1 : c' = cf := by have := hi.symm.trans hf'; simp at this; exact this.1.symm
    rw [hdecl] at hown2
    rw [← e1]; exact Option.some.inj (C.2.2.2.1.symm.trans hown2)
  have h6 := u_fits hfc hkC hkind (Or.inr hlay) hi (G.2.2.1 k hk) hn hfit
  refine W.putFinK C.1 C.2.1 C.2.2.2.1 (x_w C rfl hw) hi hst hcf hin2 (by rw [q2]; exact h6) q1 q3 (by rw [hsl]; exact k2_hasslot (q4 k hk)) rfl rfl hd fun H' e1 e2 e3 => ?_
  rw [hsl] at e1 ⊢
  exact kk ls H' _ (P.put e2 e3 ⟨_, G.1, t_OB.to (V := updV (vp_V fs) k v) ⟨_, e1, q2, q3, t_set q4 hap hk v⟩ (fun j _ => vp_updV_set hl v j)⟩)
theorem x_iald (C : XC s0 D cI cL p s m meth c own cc nL ret tb) {n : Nat} {f : Int → Int} {i : Int} (hd : decode cc pc = .ok (.iaload, 1)) (hh : h a = some (iA cI n f)) (i1 : 0 ≤ i) (i2 : i < (n : Int)) (hn : (n : Int) < 2147483648)
    (kk : XW s0 D p l e R s m args below meth c Q (pc + 1) lv (.int (zI (f i)) :: st) h K cells slots) : XW s0 D p l e R s m args below meth c Q pc lv (.int (zI i) :: .ref (s0.heap.size + a) :: st) h K cells slots := by
  intro ls H locs P
  have hP : va_P D vwCl [(s0.heap.size + a, .inl (cI, n, .inl (fun j => zI (f (j : Int)))))] H := by
    intro j q hj
    cases j with
    | zero => cases hj; exact P.2.2.2.1 a _ hh
    | succ j => cases hj
  refine va_iald C.1 C.2.1 C.2.2.2.2.2.2.1 hP 0 0 rfl rfl (zI_in i1 i2 hn) hd ?_
  rw [zI_cl i1 (by omega), show ((i.toNat : Nat) : Int) = i by omega]
  exact kk ls H locs P
theorem x_lald (C : XC s0 D cI cL p s m meth c own cc nL ret tb) {n : Nat} {f : Int → Int} {i : Int} (hd : decode cc pc = .ok (.laload, 1)) (hh : h a = some (lA cL n f)) (i1 : 0 ≤ i) (i2 : i < (n : Int)) (hn : (n : Int) < 2147483648)
    (kk : XW s0 D p l e R s m args below meth c Q (pc + 1) lv (.long (zL (f i)) :: st) h K cells slots) : XW s0 D p l e R s m args below meth c Q pc lv (.int (zI i) :: .ref (s0.heap.size + a) :: st) h K cells slots := by
  intro ls H locs P
  have hP : va_P D vwCl [(s0.heap.size + a, .inl (cL, n, .inr (.inl (fun j => zL (f (j : Int))))))] H := by
    intro j q hj
    cases j with
    | zero => cases hj; exact P.2.2.2.1 a _ hh
    | succ j => cases hj
  refine va_lald C.1 C.2.1 C.2.2.2.2.2.2.1 hP 0 1 rfl rfl (zI_in i1 i2 hn) hd ?_
  rw [zI_cl i1 (by omega), show ((i.toNat : Nat) : Int) = i by omega]
  exact kk ls H locs P
theorem x_alen (C : XC s0 D cI cL p s m meth c own cc nL ret tb) {n : Nat} {f : Int → Int} (hd : decode cc pc = .ok (.arraylength, 1)) (hh : h a = some (iA cI n f))
    (kk : XW s0 D p l e R s m args below meth c Q (pc + 1) lv (.int (zI (n : Int)) :: st) h K cells slots) : XW s0 D p l e R s m args below meth c Q pc lv (.ref (s0.heap.size + a) :: st) h K cells slots := by
  intro ls H locs P
  have hP : va_P D vwCl [(s0.heap.size + a, .inl (cI, n, .inl (fun j => zI (f (j : Int)))))] H := by
    intro j q hj
    cases j with
    | zero => cases hj; exact P.2.2.2.1 a _ hh
    | succ j => cases hj
  exact va_alen C.1 C.2.1 C.2.2.2.2.2.2.1 hP 0 0 rfl rfl (Int32.ofInt_eq_ofNat (n := n)).symm hd (kk ls H locs P)
theorem x_iast (C : XC s0 D cI cL p s m meth c own cc nL ret tb) {n : Nat} {f : Int → Int} {i x : Int} (hd : decode cc pc = .ok (.iastore, 1)) (hh : h a = some (iA cI n f)) (i1 : 0 ≤ i) (i2 : i < (n : Int)) (hn : (n : Int) < 2147483648)
    (kk : XW s0 D p l e R s m args below meth c Q (pc + 1) lv st (a_up h a (iA cI n (zup f i x))) K cells slots) : XW s0 D p l e R s m args below meth c Q pc lv (.int (zI x) :: .int (zI i) :: .ref (s0.heap.size + a) :: st) h K cells slots := by
  intro ls H locs P
  have hc : H[s0.heap.size + a]? = some (vp_cell cI (n, .inl (fun j => zI (f (j : Int))))) := P.2.2.2.1 a _ hh
  refine W.iast C.1 C.2.1 hc ((C.2.2.2.2.2.2.1.2 0 _ rfl).1 n (fun j => .int (zI (f (j : Int))))) (fun q => by cases q) (by show ¬ (_ < 0 ∨ (arrV _ _ _).slots.size ≤ _); rw [arrV_size]; exact zI_in i1 i2 hn) rfl rfl hd fun H1 e1 z oq => ?_
  refine kk ls H1 _ (P.put z oq ?_)
  show H1[s0.heap.size + a]? = some (vp_cell cI (n, .inl (fun j => zI (zup f i x (j : Int)))))
  rw [e1, ← upd_z f x i1, zI_cl i1 (by omega)]
  rw [vp_cell_i, vp_cell_i, arrV_store]
  congr 2
  funext q
  by_cases hq : q = i.toNat
  · subst hq
    simp [updV, upd]
  · simp [updV, upd, hq]
theorem x_last (C : XC s0 D cI cL p s m meth c own cc nL ret tb) {n : Nat} {f : Int → Int} {i x : Int} (hd : decode cc pc = .ok (.lastore, 1)) (hh : h a = some (lA cL n f)) (i1 : 0 ≤ i) (i2 : i < (n : Int)) (hn : (n : Int) < 2147483648)
    (kk : XW s0 D p l e R s m args below meth c Q (pc + 1) lv st (a_up h a (lA cL n (zup f i x))) K cells slots) : XW s0 D p l e R s m args below meth c Q pc lv (.long (zL x) :: .int (zI i) :: .ref (s0.heap.size + a) :: st) h K cells slots := by
  intro ls H locs P
  have hc : H[s0.heap.size + a]? = some (vp_cell cL (n, .inr (.inl (fun j => zL (f (j : Int)))))) := P.2.2.2.1 a _ hh
  refine W.last C.1 C.2.1 hc ((C.2.2.2.2.2.2.1.2 1 _ rfl).1 n (fun j => .long (zL (f (j : Int))))) (fun q => by cases q) (by show ¬ (_ < 0 ∨ (arrV _ _ _).slots.size ≤ _); rw [arrV_size]; exact zI_in i1 i2 hn) rfl rfl hd fun H1 e1 z oq => ?_
  refine kk ls H1 _ (P.put z oq ?_)
  show H1[s0.heap.size + a]? = some (vp_cell cL (n, .inr (.inl (fun j => zL (zup f i x (j : Int))))))
  rw [e1, ← updL_z f x i1, zI_cl i1 (by omega)]
  rw [vp_cell_l, vp_cell_l, arrV_store]
  congr 2
  funext q
  by_cases hq : q = i.toNat
  · subst hq
    simp [updV, vp_updL]
  · simp [updV, vp_updL, hq]
theorem x_new (C : XC s0 D cI cL p s m meth c own cc nL ret tb) (G : a_cl a0 s0 ci Cn T N ty) (w1 : (Cond.classLink own index Cn).before a0 s0 = true) (w2 : (Cond.instantiable Cn N).before a0 s0 = true) (w3 : (Cond.initialized Cn).before a0 s0 = true) (hd : decode cc pc = .ok (.new index, 3)) (hfs : ∀ j, j < N → defaultValue (ty j) = vp_V fs j) (h1 : cells + 1 ≤ R.cells) (h2 : slots + N ≤ R.slots)
    (kk : XW s0 D p l e R s m args below meth c Q (pc + 3) lv (.ref (s0.heap.size + K) :: st) (a_up h K (.inr (ci, fs))) (K + 1) (cells + 1) (slots + N)) : XW s0 D p l e R s m args below meth c Q pc lv st h K cells slots := by
  intro ls H locs P
  have hts : ∀ w ∈ u_ws Cn T N, w.before args s = true := fun w hw => x_w C (u_ws_good w hw) (G.2.1 w hw)
  have hKn := C.2.2.2.2.2.2.1.1 ci _ G.1
  refine W.newcK C.1 C.2.1 C.2.2.2.1 (x_w C rfl w1) (x_w C rfl w2) (x_w C rfl w3) rfl hd h1 h2 hKn.2.1 P.2.1 fun H1 kC hkC e1 z1 o1 => ?_
  refine kk ls H1 locs (P.push (by rw [z1, P.2.1]) (fun q hq => o1 q (by rw [← P.2.1]; exact hq)) ?_)
  exact ⟨_, G.1, (u_born ty hts (fun _ h => h) hKn hkC e1 G.2.2.1).to hfs⟩
theorem x_newa (C : XC s0 D cI cL p s m meth c own cc nL ret tb) (w1 : (Cond.arrayClass .int).before a0 s0 = true) {n : Int} (N : Nat) (hd : decode cc pc = .ok (.newarray .int, 2)) (hn : n = (N : Int)) (hN : N < 100000) (h1 : cells + 1 ≤ R.cells) (h2 : slots + N ≤ R.slots)
    (kk : XW s0 D p l e R s m args below meth c Q (pc + 2) lv (.ref (s0.heap.size + K) :: st) (a_up h K (iA cI N (fun _ => 0))) (K + 1) (cells + 1) (slots + N)) : XW s0 D p l e R s m args below meth c Q pc lv (.int (zI n) :: st) h K cells slots := by
  subst hn
  intro ls H locs P
  have w1' : (Cond.arrayClass (newarray.typeOf .int)).before args s = true := x_w C rfl w1
  have hneg : ¬ zI (N : Int) < 0 := fun q => by
    rw [← zI_0, zI_lt (by omega) (by omega) (by omega) (by omega)] at q
    omega
  have hcl : (zI (N : Int)).toNatClampNeg = N := by
    rw [zI_cl (by omega) (by omega)]
    exact Int.toNat_natCast N
  have hby : N * componentBytes (newarray.typeOf .int) ≤ 536870912 := by
    have e4 : componentBytes (newarray.typeOf .int) = 4 := rfl
    rw [e4]
    omega
  refine va_newaK C.1 C.2.1 w1' rfl hd rfl hneg hcl hby h1 h2 P.2.1 fun H1 cA e1 z1 o1 hAr hNm => ?_
  have hcA : cA = cI := by
    have h5 := (C.2.2.2.2.2.2.1.2 0 _ rfl).2
    exact Option.some.inj (hNm.symm.trans h5)
  subst hcA
  refine kk ls H1 locs (P.push (by rw [z1, P.2.1]) (fun q hq => o1 q (by rw [← P.2.1]; exact hq)) ?_)
  show H1[s0.heap.size + K]? = some (vp_cell cA (N, .inl (fun j => zI 0)))
  rw [e1, vp_cell_i]
  simp only [zI_0]
  rfl
theorem x_newaL (C : XC s0 D cI cL p s m meth c own cc nL ret tb) (w1 : (Cond.arrayClass .long).before a0 s0 = true) {n : Int} (N : Nat) (hd : decode cc pc = .ok (.newarray .long, 2)) (hn : n = (N : Int)) (hN : N < 100000) (h1 : cells + 1 ≤ R.cells) (h2 : slots + N ≤ R.slots)
    (kk : XW s0 D p l e R s m args below meth c Q (pc + 2) lv (.ref (s0.heap.size + K) :: st) (a_up h K (lA cL N (fun _ => 0))) (K + 1) (cells + 1) (slots + N)) : XW s0 D p l e R s m args below meth c Q pc lv (.int (zI n) :: st) h K cells slots := by
  subst hn
  intro ls H locs P
  have w1' : (Cond.arrayClass (newarray.typeOf .long)).before args s = true := x_w C rfl w1
  have hneg : ¬ zI (N : Int) < 0 := fun q => by
    rw [← zI_0, zI_lt (by omega) (by omega) (by omega) (by omega)] at q
    omega
  have hcl : (zI (N : Int)).toNatClampNeg = N := by
    rw [zI_cl (by omega) (by omega)]
    exact Int.toNat_natCast N
  have hby : N * componentBytes (newarray.typeOf .long) ≤ 536870912 := by
    have e4 : componentBytes (newarray.typeOf .long) = 8 := rfl
    rw [e4]
    omega
  refine va_newaK C.1 C.2.1 w1' rfl hd rfl hneg hcl hby h1 h2 P.2.1 fun H1 cA e1 z1 o1 hAr hNm => ?_
  have hcA : cA = cL := by
    have h5 := (C.2.2.2.2.2.2.1.2 1 _ rfl).2
    exact Option.some.inj (hNm.symm.trans h5)
  subst hcA
  refine kk ls H1 locs (P.push (by rw [z1, P.2.1]) (fun q hq => o1 q (by rw [← P.2.1]; exact hq)) ?_)
  show H1[s0.heap.size + K]? = some (vp_cell cA (N, .inr (.inl (fun j => zL 0))))
  rw [e1, vp_cell_l]
  simp only [show zL 0 = 0 from rfl]
  rfl
theorem x_objInit (C : XC s0 D cI cL p s m meth c own cc nL ret tb) (w1 : (Cond.methodLink own index Lib.objectInit).before a0 s0 = true) (w2 : (Cond.instanceMethod Lib.objectInit).before a0 s0 = true) (w3 : (Cond.code Lib.objectInit ⟨#[0xb1]⟩ 1 none).before a0 s0 = true) (hd : decode cc pc = .ok (.invokespecial index, 3)) (h1 : 1 ≤ R.frames) (h2 : (st.map fun v => v.category).sum + 12 ≤ R.locals)
    (kk : XW s0 D p l e R s m args below meth c Q (pc + 3) lv st h K cells slots) : XW s0 D p l e R s m args below meth c Q pc lv (.ref a :: st) h K cells slots := by
  intro ls H locs P
  exact W.objInit C.1 C.2.1 C.2.2.2.1 (x_w C rfl w1) (x_w C rfl w2) (x_w C rfl w3) rfl P.1.1 rfl hd h1 (by show 2 * 0 + _ + 12 ≤ _; omega) (kk ls H locs P)
theorem x_max (C : XC s0 D cI cL p s m meth c own cc nL ret tb) (w1 : (Cond.methodLink own index Lib.Math.max.name).before a0 s0 = true) (w2 : (Cond.static Lib.Math.max.name).before a0 s0 = true) (w3 : (Cond.initialized "java/lang/Math").before a0 s0 = true) (w4 : (Cond.code Lib.Math.max.name Lib.Math.max.code 2 (some .int)).before a0 s0 = true) {x y : Int} (hd : decode cc pc = .ok (.invokestatic index, 3)) (h1 : 1 ≤ R.frames) (h2 : (st.map fun v => v.category).sum + 13 ≤ R.locals) (h3 : cells ≤ R.cells) (h4 : slots ≤ R.slots) (x1 : -2147483648 ≤ x) (x2 : x < 2147483648) (y1 : -2147483648 ≤ y) (y2 : y < 2147483648)
    (kk : XW s0 D p l e R s m args below meth c Q (pc + 3) lv (.int (zI (max x y)) :: st) h K cells slots) : XW s0 D p l e R s m args below meth c Q pc lv (.int (zI y) :: .int (zI x) :: st) h K cells slots := by
  intro ls H locs P
  refine va_mmax C.1 C.2.1 P.1.1.symm C.2.2.2.1 (x_w C rfl w1) (x_w C rfl w2) (x_w C rfl w3) (x_w C rfl w4) h1 h2 h3 h4 hd ?_
  have e1 : (if zI x < zI y then zI y else zI x) = zI (max x y) := by
    by_cases q : x < y
    · rw [if_pos ((zI_lt x1 x2 y1 y2).mpr q), show max x y = y by omega]
    · rw [if_neg (fun z => q ((zI_lt x1 x2 y1 y2).mp z)), show max x y = x by omega]
  rw [e1]
  exact kk ls H locs P
theorem x_min (C : XC s0 D cI cL p s m meth c own cc nL ret tb) (w1 : (Cond.methodLink own index Lib.Math.min.name).before a0 s0 = true) (w2 : (Cond.static Lib.Math.min.name).before a0 s0 = true) (w3 : (Cond.initialized "java/lang/Math").before a0 s0 = true) (w4 : (Cond.code Lib.Math.min.name Lib.Math.min.code 2 (some .int)).before a0 s0 = true) {x y : Int} (hd : decode cc pc = .ok (.invokestatic index, 3)) (h1 : 1 ≤ R.frames) (h2 : (st.map fun v => v.category).sum + 13 ≤ R.locals) (h3 : cells ≤ R.cells) (h4 : slots ≤ R.slots) (x1 : -2147483648 ≤ x) (x2 : x < 2147483648) (y1 : -2147483648 ≤ y) (y2 : y < 2147483648)
    (kk : XW s0 D p l e R s m args below meth c Q (pc + 3) lv (.int (zI (min x y)) :: st) h K cells slots) : XW s0 D p l e R s m args below meth c Q pc lv (.int (zI y) :: .int (zI x) :: st) h K cells slots := by
  intro ls H locs P
  refine va_mmin C.1 C.2.1 P.1.1.symm C.2.2.2.1 (x_w C rfl w1) (x_w C rfl w2) (x_w C rfl w3) (x_w C rfl w4) h1 h2 h3 h4 hd ?_
  have e1 : (if zI y < zI x then zI y else zI x) = zI (min x y) := by
    by_cases q : y < x
    · rw [if_pos ((zI_lt y1 y2 x1 x2).mpr q), show min x y = y by omega]
    · rw [if_neg (fun z => q ((zI_lt y1 y2 x1 x2).mp z)), show min x y = x by omega]
  rw [e1]
  exact kk ls H locs P
end HeapRows
