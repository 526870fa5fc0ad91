/-! the law: the script, and what holds between its calls -/
section Scr
variable {a0 : Array Value} {s0 : State} {D : va_G} {cI cL : ClassId} {p : Program} {l : Launch} {e : Env} {R : Room} {s : State} {m : MethodId} {args : Array Value} {below : List Frame} {meth : Method} {c : Code} {Q : State → Prop} {tb : List ExceptionTableEntry}
variable {own : String} {cc : ByteArray} {nL : Nat} {ret : Option FieldType} {pc : Nat} {lv : List (Nat × Value)} {st : List Value} {h : AH} {K cells slots : Nat}
theorem zI_self (x : Int32) : zI x.toInt = x := Int32.ofInt_toInt x
theorem x_sld (C : XC s0 D cI cL p s m meth c own cc nL ret tb) {b L : Nat} {xs : Nat → Int32} (hX : va_X b L xs s0 s0.heap) (hbl : b < s0.heap.size) {i : Int} (hd : decode cc pc = .ok (.iaload, 1)) (i1 : 0 ≤ i) (i2 : i < (L : Int)) (hn : (L : Int) < 2147483648)
    (kk : XW s0 D p l e R s m args below meth c Q (pc + 1) lv (.int (zI (xs i.toNat).toInt) :: st) h K cells slots) : XW s0 D p l e R s m args below meth c Q pc lv (.int (zI i) :: .ref b :: st) h K cells slots := by
  intro ls H locs P
  refine va_sld C.1 C.2.1 (hX.moved C.2.2.2.2.1.alike) hbl (A := fun q => s0.heap.size ≤ q) (by omega) ⟨by rw [P.2.1]; omega, fun q hq _ => P.2.2.1 q hq, P.2.2.2.2⟩ (zI_in i1 i2 hn) hd ?_
  rw [zI_cl i1 (by omega)]
  have k2 := kk ls H locs P
  rw [zI_self] at k2
  exact k2
theorem x_slen (C : XC s0 D cI cL p s m meth c own cc nL ret tb) {b L : Nat} {xs : Nat → Int32} (hX : va_X b L xs s0 s0.heap) (hbl : b < s0.heap.size) (hd : decode cc pc = .ok (.arraylength, 1))
    (kk : XW s0 D p l e R s m args below meth c Q (pc + 1) lv (.int (zI (L : Int)) :: st) h K cells slots) : XW s0 D p l e R s m args below meth c Q pc lv (.ref b :: st) h K cells slots := by
  intro ls H locs P
  refine va_slen C.1 C.2.1 (hX.moved C.2.2.2.2.1.alike) hbl (A := fun q => s0.heap.size ≤ q) (by omega) ⟨by rw [P.2.1]; omega, fun q hq _ => P.2.2.1 q hq, P.2.2.2.2⟩ hd ?_
  exact kk ls H locs P
theorem x_same (C : XC s0 D cI cL p s m meth c own cc nL ret tb) {n : Int32} {off : Int} {tgt : Nat} (hd : decode cc pc = .ok (.if_icmp .eq off, 3)) (ht : (pc : Int) + off = (tgt : Int)) (kt : XW s0 D p l e R s m args below meth c Q tgt lv st h K cells slots) : XW s0 D p l e R s m args below meth c Q pc lv (.int n :: .int n :: st) h K cells slots := by
  intro ls H locs P
  exact lv_icmp_eq C.1 C.2.1 hd ht (fun _ => kt ls H locs P) (fun q => absurd rfl q)
end Scr
theorem sv_b (x : Int32) : -2147483648 ≤ x.toInt ∧ x.toInt < 2147483648 := ⟨Int32.le_toInt x, Int32.toInt_lt x⟩
set_option maxRecDepth 100000 in
set_option maxHeartbeats 4000000 in
theorem c_La_cell {a0 : Array Value} {s0 : State} {D : va_G} {cI cL : ClassId} (l : Launch) (E : a_E a0 s0 D cI cL) {h : AH} {K : Nat} {b L : Nat} {xs : Nat → Int32} (hX : va_X b L xs s0 s0.heap) (hbl : b < s0.heap.size) (hL : L ≤ 1537) {k : Int} (k0 : 0 ≤ k) (k1 : k < 100000) : XM l s0 D y_La_cell method_2_code 2 (some .int) 0 0 0 [.ref b, .int (zI k)] (h) (K) (PR (some (.int (zI (if k < (L : Int) then (xs k.toNat).toInt else 0)))) h K) := by
  refine XM.of (cI := cI) (cL := cL) (own := "NarrowingPackerLaw") (by decide) rfl E.2 (nle rfl) ?_
  intro p e s m below meth c C hn
  refine x_iload_n C d_La_cell_0 rfl ?_
  refine x_aload_n C d_La_cell_1 rfl ?_
  refine x_slen C hX hbl d_La_cell_2 ?_
  refine x_icmp_ge C (tgt := 12) d_La_cell_3 (by decide) (by omega) (by omega) (by omega) (by omega) (fun c3 => ?_) (fun c3 => ?_)
  · refine x_iconst C d_La_cell_12 ?_
    exact x_iret C d_La_cell_13 (nle rfl) (nle rfl) ⟨by first | (rw [if_pos (by omega)]; done) | (rw [if_neg (by omega)]; done), rfl, rfl⟩
  · refine x_aload_n C d_La_cell_6 rfl ?_
    refine x_iload_n C d_La_cell_7 rfl ?_
    refine x_sld C hX hbl d_La_cell_8 (by omega) (by omega) (by omega) ?_
    refine x_goto C (tgt := 13) d_La_cell_9 (by decide) ?_
    exact x_iret C d_La_cell_13 (nle rfl) (nle rfl) ⟨by first | (rw [if_pos (by omega)]; done) | (rw [if_neg (by omega)]; done), rfl, rfl⟩

def bt (f : Int → Int) : Prop := ∀ j, 0 ≤ f j ∧ f j < 256
def w4ok (w : Cn4) : Prop := (0 ≤ w.1 ∧ w.1 ≤ 3) ∧ (0 ≤ w.2.1 ∧ w.2.1 ≤ 200) ∧ (0 ≤ w.2.2.1 ∧ w.2.2.1 ≤ 128) ∧ (0 ≤ w.2.2.2 ∧ w.2.2.2 ≤ 3)
def LC (b : Nat) (cI : ClassId) (cc : Int) (g : AH) (kp : Nat) (np : Nat) (has : Int) (ns : Int) (sz : Int) (nr : Int) (src : Int → Int) (P : Int → Int) (res : Int → Int) (kc : Int → Int) (w8 : T3) (w12 : T3) (n8 : Int) (n12 : Int) (p1 : Int) (p2 : Int) (p3 : Int) (p4 : Int) (p5 : Int) (a1 : Int) (a2 : Int) (a3 : Int) (a4 : Int) (t : Hs) (x : En) (d : De) (q0 : Int → Int) (m0 : Int) (ft : Int) (nk : Int) (c0 : Cd) (v : Vw) (Lr : T3) (f : Int → Int) : Prop :=
  g 0 = some (oNp b kp np has) ∧ g 1 = some (oBy b 2 ns) ∧ g 2 = some (iA cI 120 src) ∧ g 3 = some (oBy b 4 sz) ∧ g 4 = some (iA cI 200 P) ∧ g 5 = some (oBy b 6 nr) ∧ g 6 = some (iA cI 120 res) ∧ g 7 = some (iA cI 72 kc) ∧ g 8 = some (oPl b 9 10 11 n8) ∧ g 9 = some (iA cI 120 w8.1) ∧ g 10 = some (iA cI 120 w8.2.1) ∧ g 11 = some (iA cI 120 w8.2.2) ∧ g 12 = some (oPl b 13 14 15 n12) ∧ g 13 = some (iA cI 120 w12.1) ∧ g 14 = some (iA cI 120 w12.2.1) ∧ g 15 = some (iA cI 120 w12.2.2) ∧ g 16 = some (oPa p1 p2 p3 p4 p5) ∧ g 17 = some (oHi b t.2.2.2) ∧ g 18 = some (oBy b 19 t.2.1) ∧ g 19 = some (iA cI 120 t.1) ∧ g 20 = some (iA cI 4 t.2.2.1) ∧ g 21 = some (oCo cc a1 a2 a3 a4) ∧ g 22 = some (oWr b) ∧ g 23 = some (oNa b x.2.2.1 x.2.2.2) ∧ g 24 = some (oCh b 25) ∧ g 25 = some (iA cI 3820 x.1) ∧ g 26 = some (iA cI 200 x.2.1) ∧ g 27 = some (oRe b) ∧ g 28 = some (oFo b d.2.2.2 d.2.2.1 d.2.1) ∧ g 29 = some (oCh b 30) ∧ g 30 = some (iA cI 3820 d.1) ∧ g 31 = some (oBy b 32 m0) ∧ g 32 = some (iA cI 200 q0)
def LM (b : Nat) (cI : ClassId) (cc : Int) (g : AH) (kp : Nat) (np : Nat) (has : Int) (ns : Int) (sz : Int) (nr : Int) (src : Int → Int) (P : Int → Int) (res : Int → Int) (kc : Int → Int) (w8 : T3) (w12 : T3) (n8 : Int) (n12 : Int) (p1 : Int) (p2 : Int) (p3 : Int) (p4 : Int) (p5 : Int) (a1 : Int) (a2 : Int) (a3 : Int) (a4 : Int) (t : Hs) (x : En) (d : De) (q0 : Int → Int) (m0 : Int) (ft : Int) (nk : Int) (c0 : Cd) (v : Vw) (Lr : T3) (f : Int → Int) : Prop :=
  g 33 = some (oMo b (ft, cc, ns, sz, nr, has, nk) c0 v.1.2.1 v.1.2.2.2 v.2.2.1 v.2.2.2) ∧ g 34 = some (iA cI 120 src) ∧ g 35 = some (iA cI 200 P) ∧ g 36 = some (iA cI 120 res) ∧ g 37 = some (iA cI 121 Lr.1) ∧ g 38 = some (iA cI 121 Lr.2.1) ∧ g 39 = some (iA cI 121 Lr.2.2) ∧ g 40 = some (iA cI 72 kc) ∧ g 41 = some (iA cI 3948 (fun j => c0.2.2.1 (inv j))) ∧ g 42 = some (iA cI 1600 c0.2.2.2.2.2.1) ∧ g 43 = some (iA cI 120 v.1.1) ∧ g 44 = some (iA cI 4 v.1.2.2.1) ∧ g 45 = some (iA cI 121 v.2.1.1) ∧ g 46 = some (iA cI 121 v.2.1.2.1) ∧ g 47 = some (iA cI 121 v.2.1.2.2)
def LPu (cc : Int) (kp : Nat) (np : Nat) (has : Int) (ns : Int) (sz : Int) (nr : Int) (src : Int → Int) (P : Int → Int) (res : Int → Int) (kc : Int → Int) (w8 : T3) (w12 : T3) (n8 : Int) (n12 : Int) (p1 : Int) (p2 : Int) (p3 : Int) (p4 : Int) (p5 : Int) (a1 : Int) (a2 : Int) (a3 : Int) (a4 : Int) (t : Hs) (x : En) (d : De) (q0 : Int → Int) (m0 : Int) (ft : Int) (nk : Int) (c0 : Cd) (v : Vw) (Lr : T3) (f : Int → Int) : Prop :=
  (has = 0 ∨ has = 1) ∧ (0 ≤ ns ∧ ns ≤ 120) ∧ (0 ≤ sz ∧ sz ≤ 200) ∧ (0 ≤ nr ∧ nr ≤ 120) ∧ (1 ≤ cc ∧ cc ≤ 16) ∧ (0 ≤ nk ∧ nk ≤ 120) ∧ bt src ∧ bt P ∧ bt t.1 ∧ (0 ≤ t.2.1 ∧ t.2.1 ≤ 120) ∧ bt q0 ∧ (0 ≤ m0 ∧ m0 ≤ 200) ∧ bt c0.2.2.2.2.2.1 ∧ v.1.1 = t.1 ∧ w4ok v.2.2.2 ∧ ((kp = 8 ∧ np = 12 ∧ nk = n8 ∧ tag Lr w8 nk) ∨ (kp = 12 ∧ np = 8 ∧ nk = n12 ∧ tag Lr w12 nk))
/-- what holds between the calls: the class's heap, the reference's, the row for answers, and that they say the same -/
def LV (b : Nat) (cI cL : ClassId) (cc : Int) (g : AH) : Prop :=
  ∃ (kp : Nat) (np : Nat) (has : Int) (ns : Int) (sz : Int) (nr : Int) (src : Int → Int) (P : Int → Int) (res : Int → Int) (kc : Int → Int) (w8 : T3) (w12 : T3) (n8 : Int) (n12 : Int) (p1 : Int) (p2 : Int) (p3 : Int) (p4 : Int) (p5 : Int) (a1 : Int) (a2 : Int) (a3 : Int) (a4 : Int) (t : Hs) (x : En) (d : De) (q0 : Int → Int) (m0 : Int) (ft : Int) (nk : Int) (c0 : Cd) (v : Vw) (Lr : T3) (f : Int → Int), LC b cI cc g kp np has ns sz nr src P res kc w8 w12 n8 n12 p1 p2 p3 p4 p5 a1 a2 a3 a4 t x d q0 m0 ft nk c0 v Lr f ∧ LM b cI cc g kp np has ns sz nr src P res kc w8 w12 n8 n12 p1 p2 p3 p4 p5 a1 a2 a3 a4 t x d q0 m0 ft nk c0 v Lr f ∧ g 48 = some (lA cL 1 f) ∧ LPu cc kp np has ns sz nr src P res kc w8 w12 n8 n12 p1 p2 p3 p4 p5 a1 a2 a3 a4 t x d q0 m0 ft nk c0 v Lr f
