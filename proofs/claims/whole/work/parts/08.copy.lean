/-! System.arraycopy between two rows of ints -/
section CopyRow
variable {a0 : Array Value} {s0 : State} {D : va_G} {cI cL : ClassId} {p : Program} {l : Launch} {e : Env} {R : Room} {s : State} {m : MethodId} {args : Array Value} {below : List Frame} {meth : Method} {c : Code} {Q : State → Prop} {tb : List ExceptionTableEntry}
variable {own : String} {cc : ByteArray} {nL : Nat} {ret : Option FieldType} {pc : Nat} {lv : List (Nat × Value)} {st : List Value} {h : AH} {K cells slots : Nat} {index : Nat}
theorem x_copy (C : XC s0 D cI cL p s m meth c own cc nL ret tb) (w1 : (Cond.methodLink own index arraycopyName).before a0 s0 = true) (w2 : (Cond.native arraycopyName).before a0 s0 = true) (w3 : (Cond.static arraycopyName).before a0 s0 = true) (w4 : (Cond.initialized "java/lang/System").before a0 s0 = true)
    {a0 a1 n0 n1 : Nat} {f g : Int → Int} {sp dp n : Int} (hd : decode cc pc = .ok (.invokestatic index, 3)) (ha0 : h a0 = some (iA cI n0 f)) (ha1 : h a1 = some (iA cI n1 g)) (h1 : 0 ≤ sp) (h2 : 0 ≤ dp) (h3 : 0 ≤ n) (h4 : sp + n ≤ (n0 : Int)) (h5 : dp + n ≤ (n1 : Int)) (hn0 : (n0 : Int) < 2147483648) (hn1 : (n1 : Int) < 2147483648)
    (hf : 1 ≤ R.frames) (hl : (st.map fun v => v.category).sum + (nativeFrameWords "java/lang/System" "arraycopy" 5 + 11) ≤ R.locals)
    (kk : XW s0 D p l e R s m args below meth c Q (pc + 3) lv st (a_up h a1 (iA cI n1 (zcpy f g sp dp n))) K cells slots) : XW s0 D p l e R s m args below meth c Q pc lv (.int (zI n) :: .int (zI dp) :: .ref (s0.heap.size + a1) :: .int (zI sp) :: .ref (s0.heap.size + a0) :: st) h K cells slots := by
  intro ls H locs P T hT X
  have hc0 : H[s0.heap.size + a0]? = some (vp_cell cI (n0, .inl (fun j => zI (f (j : Int))))) := P.2.2.2.1 a0 _ ha0
  have hc1 : H[s0.heap.size + a1]? = some (vp_cell cI (n1, .inl (fun j => zI (g (j : Int))))) := P.2.2.2.1 a1 _ ha1
  obtain ⟨-, k0, hk0, cm0, hkk0⟩ := (C.2.2.2.2.2.2.1.2 0 _ rfl).1 n0 (fun j => .int (zI (f (j : Int))))
  have hnn : ∀ z : Int, 0 ≤ z → z < 2147483648 → ¬ zI z < 0 := fun z z1 z2 q => by rw [← zI_0, zI_lt (by omega) z2 (by omega) (by omega)] at q; omega
  have es : (zI sp).toNatClampNeg = sp.toNat := zI_cl h1 (by omega)
  have ed : (zI dp).toNatClampNeg = dp.toNat := zI_cl h2 (by omega)
  have en : (zI n).toNatClampNeg = n.toNat := zI_cl h3 (by omega)
  obtain ⟨vm', X', step⟩ := X.arraycopy C.1 C.2.2.2.1 (x_w C rfl w1) (x_w C rfl w2) (x_w C rfl w3) (x_w C rfl w4) (src := s0.heap.size + a0) (dst := s0.heap.size + a1) (cs := vp_cell cI (n0, .inl (fun j => zI (f (j : Int))))) (cd := vp_cell cI (n1, .inl (fun j => zI (g (j : Int))))) (srcPos := zI sp) (destPos := zI dp) (n := zI n) (by rw [hT]; exact hc0) (by rw [hT]; exact hc1)
    (fun _ h => by cases h) (fun _ h => by cases h) (fun h => by cases h) (fun h => by cases h) hk0 hk0 hkk0 hkk0 (by simp [refKind]) (hnn sp h1 (by omega)) (hnn dp h2 (by omega)) (hnn n h3 (by omega))
    (by rw [zI_t (by omega) (by omega), zI_t (by omega) (by omega)]; show ¬ _ > ((arrV cI n0 (fun j => .int (zI (f (j : Int))))).slots.size : Int); rw [arrV_size]; omega)
    (by rw [zI_t (by omega) (by omega), zI_t (by omega) (by omega)]; show ¬ _ > ((arrV cI n1 (fun j => .int (zI (g (j : Int))))).slots.size : Int); rw [arrV_size]; omega)
    (fun vm₁ _ i hi => by
      have e : (vp_cell cI (n0, .inl (fun j => zI (f (j : Int))))).slots.getD ((zI sp).toNatClampNeg + i) .null = .int (zI (f (((zI sp).toNatClampNeg + i : Nat) : Int))) := by
        show (arrV cI n0 (fun j => .int (zI (f (j : Int))))).slots.getD _ _ = _
        rw [Array.getD_eq_getD_getElem?, arrV_read _ _ (by rw [es]; rw [en] at hi; omega)]
        rfl
      refine ⟨?_, ?_⟩
      · rw [e]
        rfl
      · rw [e]
        exact trivial)
    (g := F0 m pc ls (.int (zI n) :: .int (zI dp) :: .ref (s0.heap.size + a1) :: .int (zI sp) :: .ref (s0.heap.size + a0) :: st)) rfl P.1.1 (rest := st) rfl (by rw [C.2.1]; exact hd) hf (by show 2 * 0 + _ + _ ≤ _; omega)
  have e1 : copied (vp_cell cI (n0, .inl (fun j => zI (f (j : Int))))) (vp_cell cI (n1, .inl (fun j => zI (g (j : Int))))) (zI sp) (zI dp) (zI n) = vp_cell cI (n1, .inl (fun j => zI (zcpy f g sp dp n (j : Int)))) := by
    have h9 := va_copied (fun z => Value.int z) cI cI (n0 := n0) (n1 := n1) (sp := (zI sp).toNatClampNeg) (dp := (zI dp).toNatClampNeg) (n := (zI n).toNatClampNeg) (fun j => zI (f (j : Int))) (fun j => zI (g (j : Int))) (by rw [es, en]; omega)
    rw [es, ed, en, cpy_z f g h1 h2 h3] at h9
    rw [← es, ← ed, ← en] at h9
    exact h9
  rw [e1] at X' step
  have hlt : s0.heap.size + a1 < H.size := (Array.getElem?_eq_some_iff.mp hc1).1
  have hheap : ((T.setVm vm').setCell (s0.heap.size + a1) (vp_cell cI (n1, .inl (fun j => zI (zcpy f g sp dp n (j : Int)))))).heap = H.setIfInBounds (s0.heap.size + a1) (vp_cell cI (n1, .inl (fun j => zI (zcpy f g sp dp n (j : Int))))) := by rw [← hT]; rfl
  have P2 := P.put (a := a1) (k0 := 0) (x := iA cI n1 (zcpy f g sp dp n)) (H' := H.setIfInBounds (s0.heap.size + a1) (vp_cell cI (n1, .inl (fun j => zI (zcpy f g sp dp n (j : Int)))))) (by simp) (fun q hq => by simp [Array.getElem?_setIfInBounds, Ne.symm hq]) (show (H.setIfInBounds (s0.heap.size + a1) _)[s0.heap.size + a1]? = some _ by simp [Array.getElem?_setIfInBounds, hlt])
  obtain ⟨t, a1', b1⟩ := kk ls _ _ ⟨P2.1, P2.2.1, P2.2.2.1, P2.2.2.2.1, fun q hq => by
      rcases List.mem_append.mp hq with h | h
      · exact P.2.2.2.2 q h
      · obtain ⟨z, -, hz⟩ := List.mem_map.mp h
        rw [← hz]
        exact Nat.le_add_right _ _⟩ _ hheap X'
  exact ⟨t, step t a1', b1⟩
end CopyRow
