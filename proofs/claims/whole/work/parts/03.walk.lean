/-! the walk: a method's frame over a heap whose cells from the start's size on are known by their places -/
abbrev AH : Type := Nat → Option va_E
def a_up (h : AH) (k : Nat) (x : va_E) : AH := fun j => bif Nat.beq j k then some x else h j
theorem a_up_s (h : AH) (k : Nat) (x : va_E) : a_up h k x k = some x := by unfold a_up; rw [Nat.beq_refl]; rfl
theorem a_up_n {h : AH} {k j : Nat} {x : va_E} (e : j ≠ k) : a_up h k x j = h j := by
  unfold a_up
  cases hb : Nat.beq j k with
  | false => rfl
  | true => exact absurd (Nat.eq_of_beq_eq_true hb) e
theorem a_up_up (h : AH) (k : Nat) (x y : va_E) : a_up (a_up h k x) k y = a_up h k y := by
  funext j
  by_cases e : j = k
  · subst e; rw [a_up_s, a_up_s]
  · rw [a_up_n e, a_up_n e, a_up_n e]
theorem a_up_cm (h : AH) {k j : Nat} (x y : va_E) (e : k ≠ j) : a_up (a_up h k x) j y = a_up (a_up h j y) k x := by
  funext i
  by_cases e1 : i = k
  · subst e1; rw [a_up_s, a_up_n e, a_up_s]
  · by_cases e2 : i = j
    · subst e2; rw [a_up_s, a_up_n e1, a_up_s]
    · rw [a_up_n e2, a_up_n e1, a_up_n e1, a_up_n e2]
theorem a_up_id {h : AH} {k : Nat} {x : va_E} (e : h k = some x) : a_up h k x = h := by
  funext j
  by_cases e1 : j = k
  · subst e1; rw [a_up_s, e]
  · rw [a_up_n e1]
def iA (cI : ClassId) (n : Nat) (f : Int → Int) : va_E := .inl (cI, n, .inl (fun j => zI (f (j : Int))))
def lA (cL : ClassId) (n : Nat) (f : Int → Int) : va_E := .inl (cL, n, .inr (.inl (fun j => zL (f (j : Int)))))
/-- what is known of the locals -/
def a_lk : List (Nat × Value) → Nat → Option Value
  | [], _ => none
  | (j, v) :: r, i => bif Nat.beq j i then some v else a_lk r i
theorem a_lk_mem {lv : List (Nat × Value)} {i : Nat} {v : Value} (h : a_lk lv i = some v) : (i, v) ∈ lv := by
  induction lv with
  | nil => cases h
  | cons q r ih =>
    obtain ⟨j, w⟩ := q
    unfold a_lk at h
    cases e : Nat.beq j i with
    | true =>
      rw [e] at h
      have e1 : j = i := Nat.eq_of_beq_eq_true e
      have e2 : w = v := Option.some.inj h
      subst e1; subst e2
      exact List.mem_cons_self
    | false =>
      rw [e] at h
      exact List.mem_cons_of_mem _ (ih h)
abbrev a_s1 (lv : List (Nat × Value)) (i : Nat) (v : Value) : List (Nat × Value) := (i, v) :: lv.filter (fun q => !(q.1 == i) && !(q.1 + 1 == i && q.2.category == 2))
abbrev a_s2 (lv : List (Nat × Value)) (i : Nat) (v : Value) : List (Nat × Value) := (i, v) :: lv.filter (fun q => !(q.1 == i) && (!(q.1 == i + 1) && !(q.1 + 1 == i && q.2.category == 2)))
def a_sub (lv : List (Nat × Value)) : List (Nat × Value) → Prop
  | [] => True
  | (i, v) :: r => a_lk lv i = some v ∧ a_sub lv r
theorem a_sub_has {ls : Array Slot} {nL : Nat} {lv lv' : List (Nat × Value)} (h : lv_has ls nL lv) (hs : a_sub lv lv') : lv_has ls nL lv' := by
  refine ⟨h.1, h.2.1, ?_⟩
  induction lv' with
  | nil => intro q hq; cases hq
  | cons x r ih =>
    obtain ⟨i, v⟩ := x
    intro q hq
    rcases List.mem_cons.mp hq with e | e
    · subst e; exact h.2.2 _ (a_lk_mem hs.1)
    · exact ih hs.2 q e
/-- the state: locals, heap -/
def XP (s0 : State) (D : va_G) (nL : Nat) (lv : List (Nat × Value)) (h : AH) (K : Nat) (ls : Array Slot) (H : Heap) (locs : List Loc) : Prop :=
  lv_has ls nL lv ∧ H.size = s0.heap.size + K ∧ (∀ q : Nat, q < s0.heap.size → H[q]? = s0.heap[q]?) ∧ (∀ (k : Nat) (x : va_E), h k = some x → va_at D vwCl (s0.heap.size + k, x) H) ∧ ∀ q ∈ locs, s0.heap.size ≤ q.base
def XW (s0 : State) (D : va_G) (p : Program) (l : Launch) (e : Env) (R : Room) (s : State) (m : MethodId) (args : Array Value) (below : List Frame) (meth : Method) (c : Code) (Q : State → Prop) (pc : Nat) (lv : List (Nat × Value)) (st : List Value) (h : AH) (K cells slots : Nat) : Prop :=
  ∀ (ls : Array Slot) (H : Heap) (locs : List Loc), XP s0 D c.maxLocals lv h K ls H locs → W p l e R s m args below meth c H locs cells slots Q (F0 m pc ls st)
/-- what stays the same through a method -/
def XC (s0 : State) (D : va_G) (cI cL : ClassId) (p : Program) (s : State) (m : MethodId) (meth : Method) (c : Code) (own : String) (cc : ByteArray) (nL : Nat) (ret : Option FieldType) (tb : List ExceptionTableEntry) : Prop :=
  p.tables.exec = Jvm.exec ∧ c.code = cc ∧ c.maxLocals = nL ∧ s.vm.findClass own = some m.cls ∧ s0.WarmedH s.vm ∧ meth.locks = false ∧ va_K D vwCl [(cI, .int), (cL, .long)] s ∧ meth.sig.returnType = ret ∧ c.exceptionTable.toList = tb
section Walk
variable {a0 : Array Value} {s0 : State} {D : va_G} {cI cL : ClassId} {p : Program} {l : Launch} {e : Env} {R : Room} {s : State} {m : MethodId} {args : Array Value} {below : List Frame} {meth : Method} {c : Code} {Q : State → Prop} {tb : List ExceptionTableEntry}
variable {own : String} {cc : ByteArray} {nL : Nat} {ret : Option FieldType} {pc : Nat} {lv : List (Nat × Value)} {st : List Value} {h : AH} {K cells slots : Nat}
theorem x_w (C : XC s0 D cI cL p s m meth c own cc nL ret tb) {w : Cond} (hg : goodWord w = true) (hw : w.before a0 s0 = true) : w.before args s = true := word_at C.2.2.2.2.1 (good_of_word hg) hw
theorem XW.loc {lv' : List (Nat × Value)} (hs : a_sub lv lv') (k : XW s0 D p l e R s m args below meth c Q pc lv' st h K cells slots) : XW s0 D p l e R s m args below meth c Q pc lv st h K cells slots :=
  fun ls H locs P => k ls H locs ⟨a_sub_has P.1 hs, P.2⟩
theorem XW.heap {h' : AH} (hs : ∀ (k : Nat) (x : va_E), h' k = some x → h k = some x) (k : XW s0 D p l e R s m args below meth c Q pc lv st h' K cells slots) : XW s0 D p l e R s m args below meth c Q pc lv st h K cells slots :=
  fun ls H locs P => k ls H locs ⟨P.1, P.2.1, P.2.2.1, fun i x hx => P.2.2.2.1 i x (hs i x hx), P.2.2.2.2⟩
theorem XW.heq {h' : AH} (hs : h = h') (k : XW s0 D p l e R s m args below meth c Q pc lv st h' K cells slots) : XW s0 D p l e R s m args below meth c Q pc lv st h K cells slots := by subst hs; exact k
theorem XW.steq {st' : List Value} (hs : st = st') (k : XW s0 D p l e R s m args below meth c Q pc lv st' h K cells slots) : XW s0 D p l e R s m args below meth c Q pc lv st h K cells slots := by subst hs; exact k
theorem XW.widen {cells' slots' : Nat} (h1 : cells ≤ cells') (h2 : slots ≤ slots') (k : XW s0 D p l e R s m args below meth c Q pc lv st h K cells' slots') : XW s0 D p l e R s m args below meth c Q pc lv st h K cells slots :=
  fun ls H locs P => W.widen h1 h2 (k ls H locs P)
theorem x_iconst (C : XC s0 D cI cL p s m meth c own cc nL ret tb) {n : Int} (hd : decode cc pc = .ok (.iconst n, 1)) (k : XW s0 D p l e R s m args below meth c Q (pc + 1) lv (.int (zI n) :: st) h K cells slots) : XW s0 D p l e R s m args below meth c Q pc lv st h K cells slots :=
  fun ls H locs P => lv_iconst C.1 C.2.1 hd rfl (k ls H locs P)
theorem x_bipush (C : XC s0 D cI cL p s m meth c own cc nL ret tb) {n : Int} (hd : decode cc pc = .ok (.bipush n, 2)) (hv : (Int8.ofInt n).toInt32 = zI n) (k : XW s0 D p l e R s m args below meth c Q (pc + 2) lv (.int (zI n) :: st) h K cells slots) : XW s0 D p l e R s m args below meth c Q pc lv st h K cells slots :=
  fun ls H locs P => lv_bipush C.1 C.2.1 hd hv (k ls H locs P)
theorem x_sipush (C : XC s0 D cI cL p s m meth c own cc nL ret tb) {n : Int} (hd : decode cc pc = .ok (.sipush n, 3)) (hv : (Int16.ofInt n).toInt32 = zI n) (k : XW s0 D p l e R s m args below meth c Q (pc + 3) lv (.int (zI n) :: st) h K cells slots) : XW s0 D p l e R s m args below meth c Q pc lv st h K cells slots :=
  fun ls H locs P => lv_sipush C.1 C.2.1 hd hv (k ls H locs P)
theorem x_lconst (C : XC s0 D cI cL p s m meth c own cc nL ret tb) {n : Fin 2} (hd : decode cc pc = .ok (.lconst n, 1)) (hv : Int64.ofNat (n : Nat) = zL (n : Nat)) (k : XW s0 D p l e R s m args below meth c Q (pc + 1) lv (.long (zL (n : Nat)) :: st) h K cells slots) : XW s0 D p l e R s m args below meth c Q pc lv st h K cells slots :=
  fun ls H locs P => lv_lconst C.1 C.2.1 hd hv (k ls H locs P)
theorem x_ldc (C : XC s0 D cI cL p s m meth c own cc nL ret tb) {index : Nat} {v : Int} (hw : (Cond.constant own index (zI v)).before a0 s0 = true) (hd : decode cc pc = .ok (.ldc index, 2)) (k : XW s0 D p l e R s m args below meth c Q (pc + 2) lv (.int (zI v) :: st) h K cells slots) : XW s0 D p l e R s m args below meth c Q pc lv st h K cells slots :=
  fun ls H locs P => lv_ldc C.1 C.2.1 C.2.2.2.1 (x_w C rfl hw) hd (k ls H locs P)
theorem x_ldc2 (C : XC s0 D cI cL p s m meth c own cc nL ret tb) {index : Nat} {v : Int} (hw : (Cond.constantLong own index (zL v)).before a0 s0 = true) (hd : decode cc pc = .ok (.ldc2_w index, 3)) (k : XW s0 D p l e R s m args below meth c Q (pc + 3) lv (.long (zL v) :: st) h K cells slots) : XW s0 D p l e R s m args below meth c Q pc lv st h K cells slots :=
  fun ls H locs P => lv_ldc2 C.1 C.2.1 C.2.2.2.1 (x_w C rfl hw) hd (k ls H locs P)
theorem x_iload_n (C : XC s0 D cI cL p s m meth c own cc nL ret tb) {i : Fin 4} {x : Int32} (hd : decode cc pc = .ok (.iload_n i, 1)) (hl : a_lk lv i.val = some (.int x)) (k : XW s0 D p l e R s m args below meth c Q (pc + 1) lv (.int x :: st) h K cells slots) : XW s0 D p l e R s m args below meth c Q pc lv st h K cells slots :=
  fun ls H locs P => lv_iload_n C.1 C.2.1 hd rfl (P.1.2.2 _ (a_lk_mem hl)) (k ls H locs P)
theorem x_iload (C : XC s0 D cI cL p s m meth c own cc nL ret tb) {i : Nat} {x : Int32} (hd : decode cc pc = .ok (.iload i, 2)) (hl : a_lk lv i = some (.int x)) (k : XW s0 D p l e R s m args below meth c Q (pc + 2) lv (.int x :: st) h K cells slots) : XW s0 D p l e R s m args below meth c Q pc lv st h K cells slots :=
  fun ls H locs P => lv_iload C.1 C.2.1 hd (P.1.2.2 _ (a_lk_mem hl)) (k ls H locs P)
theorem x_lload_n (C : XC s0 D cI cL p s m meth c own cc nL ret tb) {i : Fin 4} {x : Int64} (hd : decode cc pc = .ok (.lload_n i, 1)) (hl : a_lk lv i.val = some (.long x)) (k : XW s0 D p l e R s m args below meth c Q (pc + 1) lv (.long x :: st) h K cells slots) : XW s0 D p l e R s m args below meth c Q pc lv st h K cells slots :=
  fun ls H locs P => lv_lload_n C.1 C.2.1 hd rfl (P.1.2.2 _ (a_lk_mem hl)) (k ls H locs P)
theorem x_lload (C : XC s0 D cI cL p s m meth c own cc nL ret tb) {i : Nat} {x : Int64} (hd : decode cc pc = .ok (.lload i, 2)) (hl : a_lk lv i = some (.long x)) (k : XW s0 D p l e R s m args below meth c Q (pc + 2) lv (.long x :: st) h K cells slots) : XW s0 D p l e R s m args below meth c Q pc lv st h K cells slots :=
  fun ls H locs P => lv_lload C.1 C.2.1 hd (P.1.2.2 _ (a_lk_mem hl)) (k ls H locs P)
theorem x_aload_n (C : XC s0 D cI cL p s m meth c own cc nL ret tb) {i : Fin 4} {x : Nat} (hd : decode cc pc = .ok (.aload_n i, 1)) (hl : a_lk lv i.val = some (.ref x)) (k : XW s0 D p l e R s m args below meth c Q (pc + 1) lv (.ref x :: st) h K cells slots) : XW s0 D p l e R s m args below meth c Q pc lv st h K cells slots :=
  fun ls H locs P => lv_aload_n C.1 C.2.1 hd rfl (P.1.2.2 _ (a_lk_mem hl)) (k ls H locs P)
theorem x_aload (C : XC s0 D cI cL p s m meth c own cc nL ret tb) {i : Nat} {x : Nat} (hd : decode cc pc = .ok (.aload i, 2)) (hl : a_lk lv i = some (.ref x)) (k : XW s0 D p l e R s m args below meth c Q (pc + 2) lv (.ref x :: st) h K cells slots) : XW s0 D p l e R s m args below meth c Q pc lv st h K cells slots :=
  fun ls H locs P => lv_aload C.1 C.2.1 hd (P.1.2.2 _ (a_lk_mem hl)) (k ls H locs P)
theorem x_istore_n (C : XC s0 D cI cL p s m meth c own cc nL ret tb) {i : Fin 4} {x : Int32} (hd : decode cc pc = .ok (.istore_n i, 1)) (hn : i.val < nL) (k : XW s0 D p l e R s m args below meth c Q (pc + 1) (a_s1 lv i.val (.int x)) st h K cells slots) : XW s0 D p l e R s m args below meth c Q pc lv (.int x :: st) h K cells slots :=
  fun _ H locs P => lv_istore_n C.1 C.2.1 hd rfl P.1 (by rw [C.2.2.1]; exact hn) rfl (fun ls' hl' => k ls' H locs ⟨hl', P.2⟩)
theorem x_istore (C : XC s0 D cI cL p s m meth c own cc nL ret tb) {i : Nat} {x : Int32} (hd : decode cc pc = .ok (.istore i, 2)) (hn : i < nL) (k : XW s0 D p l e R s m args below meth c Q (pc + 2) (a_s1 lv i (.int x)) st h K cells slots) : XW s0 D p l e R s m args below meth c Q pc lv (.int x :: st) h K cells slots :=
  fun _ H locs P => lv_istore C.1 C.2.1 hd P.1 (by rw [C.2.2.1]; exact hn) rfl (fun ls' hl' => k ls' H locs ⟨hl', P.2⟩)
theorem x_astore_n (C : XC s0 D cI cL p s m meth c own cc nL ret tb) {i : Fin 4} {x : Nat} (hd : decode cc pc = .ok (.astore_n i, 1)) (hn : i.val < nL) (k : XW s0 D p l e R s m args below meth c Q (pc + 1) (a_s1 lv i.val (.ref x)) st h K cells slots) : XW s0 D p l e R s m args below meth c Q pc lv (.ref x :: st) h K cells slots :=
  fun _ H locs P => lv_astore_n C.1 C.2.1 hd rfl P.1 (by rw [C.2.2.1]; exact hn) rfl (fun ls' hl' => k ls' H locs ⟨hl', P.2⟩)
theorem x_astore (C : XC s0 D cI cL p s m meth c own cc nL ret tb) {i : Nat} {x : Nat} (hd : decode cc pc = .ok (.astore i, 2)) (hn : i < nL) (k : XW s0 D p l e R s m args below meth c Q (pc + 2) (a_s1 lv i (.ref x)) st h K cells slots) : XW s0 D p l e R s m args below meth c Q pc lv (.ref x :: st) h K cells slots :=
  fun _ H locs P => lv_astore C.1 C.2.1 hd P.1 (by rw [C.2.2.1]; exact hn) rfl (fun ls' hl' => k ls' H locs ⟨hl', P.2⟩)
theorem x_lstore_n (C : XC s0 D cI cL p s m meth c own cc nL ret tb) {i : Fin 4} {x : Int64} (hd : decode cc pc = .ok (.lstore_n i, 1)) (hn : i.val + 1 < nL) (k : XW s0 D p l e R s m args below meth c Q (pc + 1) (a_s2 lv i.val (.long x)) st h K cells slots) : XW s0 D p l e R s m args below meth c Q pc lv (.long x :: st) h K cells slots :=
  fun _ H locs P => lv_lstore_n C.1 C.2.1 hd rfl P.1 (by rw [C.2.2.1]; exact hn) rfl (fun ls' hl' => k ls' H locs ⟨hl', P.2⟩)
theorem x_lstore (C : XC s0 D cI cL p s m meth c own cc nL ret tb) {i : Nat} {x : Int64} (hd : decode cc pc = .ok (.lstore i, 2)) (hn : i + 1 < nL) (k : XW s0 D p l e R s m args below meth c Q (pc + 2) (a_s2 lv i (.long x)) st h K cells slots) : XW s0 D p l e R s m args below meth c Q pc lv (.long x :: st) h K cells slots :=
  fun _ H locs P => lv_lstore C.1 C.2.1 hd P.1 (by rw [C.2.2.1]; exact hn) rfl (fun ls' hl' => k ls' H locs ⟨hl', P.2⟩)
theorem x_iinc (C : XC s0 D cI cL p s m meth c own cc nL ret tb) {i : Nat} {n z : Int} (hd : decode cc pc = .ok (.iinc i n, 3)) (hn : i < nL) (hl : a_lk lv i = some (.int (zI z))) (k : XW s0 D p l e R s m args below meth c Q (pc + 3) (a_s1 lv i (.int (zI (z + n)))) st h K cells slots) : XW s0 D p l e R s m args below meth c Q pc lv st h K cells slots := by
  intro ls H locs P
  obtain ⟨j, hj⟩ := List.getElem?_of_mem (a_lk_mem hl)
  exact lv_iinc C.1 C.2.1 hd P.1 hj (zI_add z n) (by rw [C.2.2.1]; exact hn) rfl (fun ls' hl' => k ls' H locs ⟨hl', P.2⟩)
theorem x_iadd (C : XC s0 D cI cL p s m meth c own cc nL ret tb) {x y : Int} (hd : decode cc pc = .ok (.iadd, 1)) (k : XW s0 D p l e R s m args below meth c Q (pc + 1) lv (.int (zI (x + y)) :: st) h K cells slots) : XW s0 D p l e R s m args below meth c Q pc lv (.int (zI y) :: .int (zI x) :: st) h K cells slots :=
  fun ls H locs P => lv_iadd C.1 C.2.1 hd (by rw [zI_add]; exact k ls H locs P)
theorem x_isub (C : XC s0 D cI cL p s m meth c own cc nL ret tb) {x y : Int} (hd : decode cc pc = .ok (.isub, 1)) (k : XW s0 D p l e R s m args below meth c Q (pc + 1) lv (.int (zI (x - y)) :: st) h K cells slots) : XW s0 D p l e R s m args below meth c Q pc lv (.int (zI y) :: .int (zI x) :: st) h K cells slots :=
  fun ls H locs P => lv_isub C.1 C.2.1 hd (by rw [zI_sub]; exact k ls H locs P)
theorem x_imul (C : XC s0 D cI cL p s m meth c own cc nL ret tb) {x y : Int} (hd : decode cc pc = .ok (.imul, 1)) (k : XW s0 D p l e R s m args below meth c Q (pc + 1) lv (.int (zI (x * y)) :: st) h K cells slots) : XW s0 D p l e R s m args below meth c Q pc lv (.int (zI y) :: .int (zI x) :: st) h K cells slots :=
  fun ls H locs P => lv_imul C.1 C.2.1 hd (by rw [zI_mul]; exact k ls H locs P)
theorem x_idiv (C : XC s0 D cI cL p s m meth c own cc nL ret tb) {x y : Int} (hd : decode cc pc = .ok (.idiv, 1)) (x1 : 0 ≤ x) (x2 : x < 2147483648) (y1 : 0 < y) (y2 : y < 2147483648) (k : XW s0 D p l e R s m args below meth c Q (pc + 1) lv (.int (zI (x / y)) :: st) h K cells slots) : XW s0 D p l e R s m args below meth c Q pc lv (.int (zI y) :: .int (zI x) :: st) h K cells slots :=
  fun ls H locs P => lv_idiv C.1 C.2.1 hd (fun q => by rw [← zI_0, zI_eq (by omega) y2 (by omega) (by omega)] at q; omega) (by rw [zI_div x1 x2 y1 y2]; exact k ls H locs P)
theorem x_irem (C : XC s0 D cI cL p s m meth c own cc nL ret tb) {x y : Int} (hd : decode cc pc = .ok (.irem, 1)) (x1 : 0 ≤ x) (x2 : x < 2147483648) (y1 : 0 < y) (y2 : y < 2147483648) (k : XW s0 D p l e R s m args below meth c Q (pc + 1) lv (.int (zI (x % y)) :: st) h K cells slots) : XW s0 D p l e R s m args below meth c Q pc lv (.int (zI y) :: .int (zI x) :: st) h K cells slots :=
  fun ls H locs P => lv_irem C.1 C.2.1 hd (fun q => by rw [← zI_0, zI_eq (by omega) y2 (by omega) (by omega)] at q; omega) (by rw [zI_rem x1 x2 y1 y2]; exact k ls H locs P)
theorem x_ishr (C : XC s0 D cI cL p s m meth c own cc nL ret tb) {x y q : Int} (n : Nat) (hd : decode cc pc = .ok (.ishr, 1)) (hy : y = (n : Int)) (hq : 2 ^ n = q) (hn : n < 32) (x1 : -2147483648 ≤ x) (x2 : x < 2147483648) (k : XW s0 D p l e R s m args below meth c Q (pc + 1) lv (.int (zI (x / q)) :: st) h K cells slots) : XW s0 D p l e R s m args below meth c Q pc lv (.int (zI y) :: .int (zI x) :: st) h K cells slots := by
  subst hy
  subst hq
  exact fun ls H locs P => lv_ishr C.1 C.2.1 hd (by rw [zI_shr n hn x1 x2]; exact k ls H locs P)
theorem x_ishl (C : XC s0 D cI cL p s m meth c own cc nL ret tb) {x y q : Int} (n : Nat) (hd : decode cc pc = .ok (.ishl, 1)) (hy : y = (n : Int)) (hq : 2 ^ n = q) (hn : n < 32) (k : XW s0 D p l e R s m args below meth c Q (pc + 1) lv (.int (zI (x * q)) :: st) h K cells slots) : XW s0 D p l e R s m args below meth c Q pc lv (.int (zI y) :: .int (zI x) :: st) h K cells slots := by
  subst hy
  subst hq
  exact fun ls H locs P => lv_ishl C.1 C.2.1 hd (by rw [zI_shl x n hn]; exact k ls H locs P)
theorem x_iand (C : XC s0 D cI cL p s m meth c own cc nL ret tb) {x y z : Int} (hd : decode cc pc = .ok (.iand, 1)) (he : zI x &&& zI y = zI z) (k : XW s0 D p l e R s m args below meth c Q (pc + 1) lv (.int (zI z) :: st) h K cells slots) : XW s0 D p l e R s m args below meth c Q pc lv (.int (zI y) :: .int (zI x) :: st) h K cells slots :=
  fun ls H locs P => lv_iand C.1 C.2.1 hd (by rw [he]; exact k ls H locs P)
theorem x_ladd (C : XC s0 D cI cL p s m meth c own cc nL ret tb) {x y : Int} (hd : decode cc pc = .ok (.ladd, 1)) (k : XW s0 D p l e R s m args below meth c Q (pc + 1) lv (.long (zL (x + y)) :: st) h K cells slots) : XW s0 D p l e R s m args below meth c Q pc lv (.long (zL y) :: .long (zL x) :: st) h K cells slots :=
  fun ls H locs P => lv_ladd C.1 C.2.1 hd (by rw [zL_add]; exact k ls H locs P)
theorem x_lsub (C : XC s0 D cI cL p s m meth c own cc nL ret tb) {x y : Int} (hd : decode cc pc = .ok (.lsub, 1)) (k : XW s0 D p l e R s m args below meth c Q (pc + 1) lv (.long (zL (x - y)) :: st) h K cells slots) : XW s0 D p l e R s m args below meth c Q pc lv (.long (zL y) :: .long (zL x) :: st) h K cells slots :=
  fun ls H locs P => lv_lsub C.1 C.2.1 hd (by rw [zL_sub]; exact k ls H locs P)
theorem x_lmul (C : XC s0 D cI cL p s m meth c own cc nL ret tb) {x y : Int} (hd : decode cc pc = .ok (.lmul, 1)) (k : XW s0 D p l e R s m args below meth c Q (pc + 1) lv (.long (zL (x * y)) :: st) h K cells slots) : XW s0 D p l e R s m args below meth c Q pc lv (.long (zL y) :: .long (zL x) :: st) h K cells slots :=
  fun ls H locs P => lv_lmul C.1 C.2.1 hd (by rw [zL_mul]; exact k ls H locs P)
theorem x_ldiv (C : XC s0 D cI cL p s m meth c own cc nL ret tb) {x y : Int} (hd : decode cc pc = .ok (.ldiv, 1)) (x1 : 0 ≤ x) (x2 : x < 9223372036854775808) (y1 : 0 < y) (y2 : y < 9223372036854775808) (k : XW s0 D p l e R s m args below meth c Q (pc + 1) lv (.long (zL (x / y)) :: st) h K cells slots) : XW s0 D p l e R s m args below meth c Q pc lv (.long (zL y) :: .long (zL x) :: st) h K cells slots :=
  fun ls H locs P => lv_ldiv C.1 C.2.1 hd (fun q => by rw [show (0 : Int64) = zL 0 from rfl, zL_eq (by omega) y2 (by omega) (by omega)] at q; omega) (by rw [zL_div x1 x2 y1 y2]; exact k ls H locs P)
theorem x_lrem (C : XC s0 D cI cL p s m meth c own cc nL ret tb) {x y : Int} (hd : decode cc pc = .ok (.lrem, 1)) (x1 : 0 ≤ x) (x2 : x < 9223372036854775808) (y1 : 0 < y) (y2 : y < 9223372036854775808) (k : XW s0 D p l e R s m args below meth c Q (pc + 1) lv (.long (zL (x % y)) :: st) h K cells slots) : XW s0 D p l e R s m args below meth c Q pc lv (.long (zL y) :: .long (zL x) :: st) h K cells slots :=
  fun ls H locs P => lv_lrem C.1 C.2.1 hd (fun q => by rw [show (0 : Int64) = zL 0 from rfl, zL_eq (by omega) y2 (by omega) (by omega)] at q; omega) (by rw [zL_rem x1 x2 y1 y2]; exact k ls H locs P)
theorem x_land255 (C : XC s0 D cI cL p s m meth c own cc nL ret tb) {x : Int} (hd : decode cc pc = .ok (.land, 1)) (k : XW s0 D p l e R s m args below meth c Q (pc + 1) lv (.long (zL (x % 256)) :: st) h K cells slots) : XW s0 D p l e R s m args below meth c Q pc lv (.long (zL 255) :: .long (zL x) :: st) h K cells slots :=
  fun ls H locs P => lv_land C.1 C.2.1 hd (by rw [show zL 255 = 255 from rfl, zL_and255]; exact k ls H locs P)
theorem x_lshr (C : XC s0 D cI cL p s m meth c own cc nL ret tb) {x y q : Int} (n : Nat) (hd : decode cc pc = .ok (.lshr, 1)) (hy : y = (n : Int)) (hq : 2 ^ n = q) (hn : n < 64) (x1 : 0 ≤ x) (x2 : x < 9223372036854775808) (k : XW s0 D p l e R s m args below meth c Q (pc + 1) lv (.long (zL (x / q)) :: st) h K cells slots) : XW s0 D p l e R s m args below meth c Q pc lv (.int (zI y) :: .long (zL x) :: st) h K cells slots := by
  subst hy
  subst hq
  exact fun ls H locs P => lv_lshr C.1 C.2.1 hd (zL_shr n hn x1 x2) (k ls H locs P)
theorem x_lshl (C : XC s0 D cI cL p s m meth c own cc nL ret tb) {x y q : Int} (n : Nat) (hd : decode cc pc = .ok (.lshl, 1)) (hy : y = (n : Int)) (hq : 2 ^ n = q) (hn : n < 64) (k : XW s0 D p l e R s m args below meth c Q (pc + 1) lv (.long (zL (x * q)) :: st) h K cells slots) : XW s0 D p l e R s m args below meth c Q pc lv (.int (zI y) :: .long (zL x) :: st) h K cells slots := by
  subst hy
  subst hq
  exact fun ls H locs P => lv_lshl C.1 C.2.1 hd (zL_shl x n hn) (k ls H locs P)
theorem x_i2l (C : XC s0 D cI cL p s m meth c own cc nL ret tb) {x : Int} (hd : decode cc pc = .ok (.i2l, 1)) (x1 : -2147483648 ≤ x) (x2 : x < 2147483648) (k : XW s0 D p l e R s m args below meth c Q (pc + 1) lv (.long (zL x) :: st) h K cells slots) : XW s0 D p l e R s m args below meth c Q pc lv (.int (zI x) :: st) h K cells slots :=
  fun ls H locs P => lv_i2l C.1 C.2.1 hd (zI_l x1 x2) (k ls H locs P)
theorem x_l2i (C : XC s0 D cI cL p s m meth c own cc nL ret tb) {x : Int} (hd : decode cc pc = .ok (.l2i, 1)) (k : XW s0 D p l e R s m args below meth c Q (pc + 1) lv (.int (zI x) :: st) h K cells slots) : XW s0 D p l e R s m args below meth c Q pc lv (.long (zL x) :: st) h K cells slots :=
  fun ls H locs P => lv_l2i C.1 C.2.1 hd (zL_i x) (k ls H locs P)
theorem x_dup (C : XC s0 D cI cL p s m meth c own cc nL ret tb) {v : Value} (hd : decode cc pc = .ok (.dup, 1)) (hv : v.category = 1) (k : XW s0 D p l e R s m args below meth c Q (pc + 1) lv (v :: v :: st) h K cells slots) : XW s0 D p l e R s m args below meth c Q pc lv (v :: st) h K cells slots :=
  fun ls H locs P => lv_dup C.1 C.2.1 hd hv (k ls H locs P)
theorem x_pop (C : XC s0 D cI cL p s m meth c own cc nL ret tb) {v : Value} (hd : decode cc pc = .ok (.pop, 1)) (hv : v.category = 1) (k : XW s0 D p l e R s m args below meth c Q (pc + 1) lv st h K cells slots) : XW s0 D p l e R s m args below meth c Q pc lv (v :: st) h K cells slots :=
  fun ls H locs P => lv_pop C.1 C.2.1 hd hv (k ls H locs P)
theorem x_dup_x1 (C : XC s0 D cI cL p s m meth c own cc nL ret tb) {v w : Value} (hd : decode cc pc = .ok (.dup_x1, 1)) (hv : v.category = 1) (hw : w.category = 1) (k : XW s0 D p l e R s m args below meth c Q (pc + 1) lv (v :: w :: v :: st) h K cells slots) : XW s0 D p l e R s m args below meth c Q pc lv (v :: w :: st) h K cells slots :=
  fun ls H locs P => lv_dup_x1 C.1 C.2.1 hd hv hw (k ls H locs P)
theorem x_dup2 (C : XC s0 D cI cL p s m meth c own cc nL ret tb) {v w : Value} (hd : decode cc pc = .ok (.dup2, 1)) (hv : v.category = 1) (hw : w.category = 1) (k : XW s0 D p l e R s m args below meth c Q (pc + 1) lv (v :: w :: v :: w :: st) h K cells slots) : XW s0 D p l e R s m args below meth c Q pc lv (v :: w :: st) h K cells slots :=
  fun ls H locs P => lv_dup2_11 C.1 C.2.1 hd hv hw (k ls H locs P)
theorem x_goto (C : XC s0 D cI cL p s m meth c own cc nL ret tb) {off : Int} {tgt : Nat} (hd : decode cc pc = .ok (.goto off, 3)) (ht : (pc : Int) + off = (tgt : Int)) (k : XW s0 D p l e R s m args below meth c Q tgt lv st h K cells slots) : XW s0 D p l e R s m args below meth c Q pc lv st h K cells slots :=
  fun ls H locs P => lv_goto C.1 C.2.1 hd ht (k ls H locs P)
end Walk
/-! two heaps are one: place by place -/
theorem a_eq1 {h1 h2 : AH} (i : Nat) (e1 : h1 i = h2 i) (o : ∀ q, q ≠ i → h1 q = h2 q) : h1 = h2 := by
  funext q
  by_cases a : q = i
  · subst a; exact e1
  · exact o q a
theorem a_eq2 {h1 h2 : AH} (i j : Nat) (e1 : h1 i = h2 i) (e2 : h1 j = h2 j) (o : ∀ q, q ≠ i → q ≠ j → h1 q = h2 q) : h1 = h2 := by
  funext q
  by_cases a : q = i
  · subst a; exact e1
  · by_cases b : q = j
    · subst b; exact e2
    · exact o q a b
theorem a_eq3 {h1 h2 : AH} (i j k : Nat) (e1 : h1 i = h2 i) (e2 : h1 j = h2 j) (e3 : h1 k = h2 k) (o : ∀ q, q ≠ i → q ≠ j → q ≠ k → h1 q = h2 q) : h1 = h2 := by
  funext q
  by_cases a : q = i
  · subst a; exact e1
  · by_cases b : q = j
    · subst b; exact e2
    · by_cases c : q = k
      · subst c; exact e3
      · exact o q a b c
