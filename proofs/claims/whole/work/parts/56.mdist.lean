/-! the reference: distances, echoes -/
set_option maxRecDepth 100000 in
set_option maxHeartbeats 4000000 in
theorem c_Mo_below {a0 : Array Value} {s0 : State} {D : va_G} {cI cL : ClassId} (l : Launch) (E : a_E a0 s0 D cI cL) {h : AH} {K : Nat} {x : Int} (x1 : 4 ≤ x) (x2 : x < 128) : XM l s0 D y_Mo_below prog_13_method_15_code 2 (some .int) 0 0 0 [.int (zI x)] (h) (K) (PR (some (.int (zI (hbZ x : Int)))) h K) := by
  refine XM.of (cI := cI) (cL := cL) (own := "NarrowingPackerModel") (by decide) rfl E.2 (nle rfl) ?_
  intro p e s m below meth c C hn
  have hr : (4 ≤ x ∧ x < 8) ∨ (8 ≤ x ∧ x < 16) ∨ (16 ≤ x ∧ x < 32) ∨ (32 ≤ x ∧ x < 64) ∨ (64 ≤ x ∧ x < 128) := by omega
  rcases hr with hr | hr | hr | hr | hr
  · refine x_iconst C d_Mo_below_0 ?_
    refine x_istore_n C d_Mo_below_1 (by decide) ?_
    refine XW.loc (lv' := [(0, .int (zI x)), (1, .int (zI 0))]) ⟨rfl, rfl, trivial⟩ ?_
    refine x_iload_n C d_Mo_below_2 rfl ?_
    refine x_iload_n C d_Mo_below_3 rfl ?_
    refine x_iconst C d_Mo_below_4 ?_
    refine x_iadd C d_Mo_below_5 ?_
    refine x_ishr C (q := 2) 1 d_Mo_below_6 rfl rfl (by decide) (by omega) (by omega) ?_
    refine x_if_le C (tgt := 16) d_Mo_below_7 (by decide) (by omega) (by omega) (fun c7 => ?_) (fun c7 => ?_)
    · exfalso; omega
    · refine x_iinc C d_Mo_below_10 (by decide) rfl ?_
      refine x_goto C (tgt := 2) d_Mo_below_13 (by decide) ?_
      refine XW.loc (lv' := [(0, .int (zI x)), (1, .int (zI 1))]) ⟨rfl, rfl, trivial⟩ ?_
      refine x_iload_n C d_Mo_below_2 rfl ?_
      refine x_iload_n C d_Mo_below_3 rfl ?_
      refine x_iconst C d_Mo_below_4 ?_
      refine x_iadd C d_Mo_below_5 ?_
      refine x_ishr C (q := 4) 2 d_Mo_below_6 rfl rfl (by decide) (by omega) (by omega) ?_
      refine x_if_le C (tgt := 16) d_Mo_below_7 (by decide) (by omega) (by omega) (fun c7 => ?_) (fun c7 => ?_)
      · exfalso; omega
      · refine x_iinc C d_Mo_below_10 (by decide) rfl ?_
        refine x_goto C (tgt := 2) d_Mo_below_13 (by decide) ?_
        refine XW.loc (lv' := [(0, .int (zI x)), (1, .int (zI 2))]) ⟨rfl, rfl, trivial⟩ ?_
        refine x_iload_n C d_Mo_below_2 rfl ?_
        refine x_iload_n C d_Mo_below_3 rfl ?_
        refine x_iconst C d_Mo_below_4 ?_
        refine x_iadd C d_Mo_below_5 ?_
        refine x_ishr C (q := 8) 3 d_Mo_below_6 rfl rfl (by decide) (by omega) (by omega) ?_
        refine x_if_le C (tgt := 16) d_Mo_below_7 (by decide) (by omega) (by omega) (fun c7 => ?_) (fun c7 => ?_)
        · refine x_iload_n C d_Mo_below_16 rfl ?_
          exact x_iret C d_Mo_below_17 (nle rfl) (nle rfl) ⟨by rw [show hbZ x = 2 from (by unfold hbZ; rw [if_neg (by omega), if_neg (by omega), if_pos (by omega)])]; rfl, rfl, rfl⟩
        · exfalso; omega
  · refine x_iconst C d_Mo_below_0 ?_
    refine x_istore_n C d_Mo_below_1 (by decide) ?_
    refine XW.loc (lv' := [(0, .int (zI x)), (1, .int (zI 0))]) ⟨rfl, rfl, trivial⟩ ?_
    refine x_iload_n C d_Mo_below_2 rfl ?_
    refine x_iload_n C d_Mo_below_3 rfl ?_
    refine x_iconst C d_Mo_below_4 ?_
    refine x_iadd C d_Mo_below_5 ?_
    refine x_ishr C (q := 2) 1 d_Mo_below_6 rfl rfl (by decide) (by omega) (by omega) ?_
    refine x_if_le C (tgt := 16) d_Mo_below_7 (by decide) (by omega) (by omega) (fun c7 => ?_) (fun c7 => ?_)
    · exfalso; omega
    · refine x_iinc C d_Mo_below_10 (by decide) rfl ?_
      refine x_goto C (tgt := 2) d_Mo_below_13 (by decide) ?_
      refine XW.loc (lv' := [(0, .int (zI x)), (1, .int (zI 1))]) ⟨rfl, rfl, trivial⟩ ?_
      refine x_iload_n C d_Mo_below_2 rfl ?_
      refine x_iload_n C d_Mo_below_3 rfl ?_
      refine x_iconst C d_Mo_below_4 ?_
      refine x_iadd C d_Mo_below_5 ?_
      refine x_ishr C (q := 4) 2 d_Mo_below_6 rfl rfl (by decide) (by omega) (by omega) ?_
      refine x_if_le C (tgt := 16) d_Mo_below_7 (by decide) (by omega) (by omega) (fun c7 => ?_) (fun c7 => ?_)
      · exfalso; omega
      · refine x_iinc C d_Mo_below_10 (by decide) rfl ?_
        refine x_goto C (tgt := 2) d_Mo_below_13 (by decide) ?_
        refine XW.loc (lv' := [(0, .int (zI x)), (1, .int (zI 2))]) ⟨rfl, rfl, trivial⟩ ?_
        refine x_iload_n C d_Mo_below_2 rfl ?_
        refine x_iload_n C d_Mo_below_3 rfl ?_
        refine x_iconst C d_Mo_below_4 ?_
        refine x_iadd C d_Mo_below_5 ?_
        refine x_ishr C (q := 8) 3 d_Mo_below_6 rfl rfl (by decide) (by omega) (by omega) ?_
        refine x_if_le C (tgt := 16) d_Mo_below_7 (by decide) (by omega) (by omega) (fun c7 => ?_) (fun c7 => ?_)
        · exfalso; omega
        · refine x_iinc C d_Mo_below_10 (by decide) rfl ?_
          refine x_goto C (tgt := 2) d_Mo_below_13 (by decide) ?_
          refine XW.loc (lv' := [(0, .int (zI x)), (1, .int (zI 3))]) ⟨rfl, rfl, trivial⟩ ?_
          refine x_iload_n C d_Mo_below_2 rfl ?_
          refine x_iload_n C d_Mo_below_3 rfl ?_
          refine x_iconst C d_Mo_below_4 ?_
          refine x_iadd C d_Mo_below_5 ?_
          refine x_ishr C (q := 16) 4 d_Mo_below_6 rfl rfl (by decide) (by omega) (by omega) ?_
          refine x_if_le C (tgt := 16) d_Mo_below_7 (by decide) (by omega) (by omega) (fun c7 => ?_) (fun c7 => ?_)
          · refine x_iload_n C d_Mo_below_16 rfl ?_
            exact x_iret C d_Mo_below_17 (nle rfl) (nle rfl) ⟨by rw [show hbZ x = 3 from (by unfold hbZ; rw [if_neg (by omega), if_neg (by omega), if_neg (by omega), if_pos (by omega)])]; rfl, rfl, rfl⟩
          · exfalso; omega
  · refine x_iconst C d_Mo_below_0 ?_
    refine x_istore_n C d_Mo_below_1 (by decide) ?_
    refine XW.loc (lv' := [(0, .int (zI x)), (1, .int (zI 0))]) ⟨rfl, rfl, trivial⟩ ?_
    refine x_iload_n C d_Mo_below_2 rfl ?_
    refine x_iload_n C d_Mo_below_3 rfl ?_
    refine x_iconst C d_Mo_below_4 ?_
    refine x_iadd C d_Mo_below_5 ?_
    refine x_ishr C (q := 2) 1 d_Mo_below_6 rfl rfl (by decide) (by omega) (by omega) ?_
    refine x_if_le C (tgt := 16) d_Mo_below_7 (by decide) (by omega) (by omega) (fun c7 => ?_) (fun c7 => ?_)
    · exfalso; omega
    · refine x_iinc C d_Mo_below_10 (by decide) rfl ?_
      refine x_goto C (tgt := 2) d_Mo_below_13 (by decide) ?_
      refine XW.loc (lv' := [(0, .int (zI x)), (1, .int (zI 1))]) ⟨rfl, rfl, trivial⟩ ?_
      refine x_iload_n C d_Mo_below_2 rfl ?_
      refine x_iload_n C d_Mo_below_3 rfl ?_
      refine x_iconst C d_Mo_below_4 ?_
      refine x_iadd C d_Mo_below_5 ?_
      refine x_ishr C (q := 4) 2 d_Mo_below_6 rfl rfl (by decide) (by omega) (by omega) ?_
      refine x_if_le C (tgt := 16) d_Mo_below_7 (by decide) (by omega) (by omega) (fun c7 => ?_) (fun c7 => ?_)
      · exfalso; omega
      · refine x_iinc C d_Mo_below_10 (by decide) rfl ?_
        refine x_goto C (tgt := 2) d_Mo_below_13 (by decide) ?_
        refine XW.loc (lv' := [(0, .int (zI x)), (1, .int (zI 2))]) ⟨rfl, rfl, trivial⟩ ?_
        refine x_iload_n C d_Mo_below_2 rfl ?_
        refine x_iload_n C d_Mo_below_3 rfl ?_
        refine x_iconst C d_Mo_below_4 ?_
        refine x_iadd C d_Mo_below_5 ?_
        refine x_ishr C (q := 8) 3 d_Mo_below_6 rfl rfl (by decide) (by omega) (by omega) ?_
        refine x_if_le C (tgt := 16) d_Mo_below_7 (by decide) (by omega) (by omega) (fun c7 => ?_) (fun c7 => ?_)
        · exfalso; omega
        · refine x_iinc C d_Mo_below_10 (by decide) rfl ?_
          refine x_goto C (tgt := 2) d_Mo_below_13 (by decide) ?_
          refine XW.loc (lv' := [(0, .int (zI x)), (1, .int (zI 3))]) ⟨rfl, rfl, trivial⟩ ?_
          refine x_iload_n C d_Mo_below_2 rfl ?_
          refine x_iload_n C d_Mo_below_3 rfl ?_
          refine x_iconst C d_Mo_below_4 ?_
          refine x_iadd C d_Mo_below_5 ?_
          refine x_ishr C (q := 16) 4 d_Mo_below_6 rfl rfl (by decide) (by omega) (by omega) ?_
          refine x_if_le C (tgt := 16) d_Mo_below_7 (by decide) (by omega) (by omega) (fun c7 => ?_) (fun c7 => ?_)
          · exfalso; omega
          · refine x_iinc C d_Mo_below_10 (by decide) rfl ?_
            refine x_goto C (tgt := 2) d_Mo_below_13 (by decide) ?_
            refine XW.loc (lv' := [(0, .int (zI x)), (1, .int (zI 4))]) ⟨rfl, rfl, trivial⟩ ?_
            refine x_iload_n C d_Mo_below_2 rfl ?_
            refine x_iload_n C d_Mo_below_3 rfl ?_
            refine x_iconst C d_Mo_below_4 ?_
            refine x_iadd C d_Mo_below_5 ?_
            refine x_ishr C (q := 32) 5 d_Mo_below_6 rfl rfl (by decide) (by omega) (by omega) ?_
            refine x_if_le C (tgt := 16) d_Mo_below_7 (by decide) (by omega) (by omega) (fun c7 => ?_) (fun c7 => ?_)
            · refine x_iload_n C d_Mo_below_16 rfl ?_
              exact x_iret C d_Mo_below_17 (nle rfl) (nle rfl) ⟨by rw [show hbZ x = 4 from (by unfold hbZ; rw [if_neg (by omega), if_neg (by omega), if_neg (by omega), if_neg (by omega), if_pos (by omega)])]; rfl, rfl, rfl⟩
            · exfalso; omega
  · refine x_iconst C d_Mo_below_0 ?_
    refine x_istore_n C d_Mo_below_1 (by decide) ?_
    refine XW.loc (lv' := [(0, .int (zI x)), (1, .int (zI 0))]) ⟨rfl, rfl, trivial⟩ ?_
    refine x_iload_n C d_Mo_below_2 rfl ?_
    refine x_iload_n C d_Mo_below_3 rfl ?_
    refine x_iconst C d_Mo_below_4 ?_
    refine x_iadd C d_Mo_below_5 ?_
    refine x_ishr C (q := 2) 1 d_Mo_below_6 rfl rfl (by decide) (by omega) (by omega) ?_
    refine x_if_le C (tgt := 16) d_Mo_below_7 (by decide) (by omega) (by omega) (fun c7 => ?_) (fun c7 => ?_)
    · exfalso; omega
    · refine x_iinc C d_Mo_below_10 (by decide) rfl ?_
      refine x_goto C (tgt := 2) d_Mo_below_13 (by decide) ?_
      refine XW.loc (lv' := [(0, .int (zI x)), (1, .int (zI 1))]) ⟨rfl, rfl, trivial⟩ ?_
      refine x_iload_n C d_Mo_below_2 rfl ?_
      refine x_iload_n C d_Mo_below_3 rfl ?_
      refine x_iconst C d_Mo_below_4 ?_
      refine x_iadd C d_Mo_below_5 ?_
      refine x_ishr C (q := 4) 2 d_Mo_below_6 rfl rfl (by decide) (by omega) (by omega) ?_
      refine x_if_le C (tgt := 16) d_Mo_below_7 (by decide) (by omega) (by omega) (fun c7 => ?_) (fun c7 => ?_)
      · exfalso; omega
      · refine x_iinc C d_Mo_below_10 (by decide) rfl ?_
        refine x_goto C (tgt := 2) d_Mo_below_13 (by decide) ?_
        refine XW.loc (lv' := [(0, .int (zI x)), (1, .int (zI 2))]) ⟨rfl, rfl, trivial⟩ ?_
        refine x_iload_n C d_Mo_below_2 rfl ?_
        refine x_iload_n C d_Mo_below_3 rfl ?_
        refine x_iconst C d_Mo_below_4 ?_
        refine x_iadd C d_Mo_below_5 ?_
        refine x_ishr C (q := 8) 3 d_Mo_below_6 rfl rfl (by decide) (by omega) (by omega) ?_
        refine x_if_le C (tgt := 16) d_Mo_below_7 (by decide) (by omega) (by omega) (fun c7 => ?_) (fun c7 => ?_)
        · exfalso; omega
        · refine x_iinc C d_Mo_below_10 (by decide) rfl ?_
          refine x_goto C (tgt := 2) d_Mo_below_13 (by decide) ?_
          refine XW.loc (lv' := [(0, .int (zI x)), (1, .int (zI 3))]) ⟨rfl, rfl, trivial⟩ ?_
          refine x_iload_n C d_Mo_below_2 rfl ?_
          refine x_iload_n C d_Mo_below_3 rfl ?_
          refine x_iconst C d_Mo_below_4 ?_
          refine x_iadd C d_Mo_below_5 ?_
          refine x_ishr C (q := 16) 4 d_Mo_below_6 rfl rfl (by decide) (by omega) (by omega) ?_
          refine x_if_le C (tgt := 16) d_Mo_below_7 (by decide) (by omega) (by omega) (fun c7 => ?_) (fun c7 => ?_)
          · exfalso; omega
          · refine x_iinc C d_Mo_below_10 (by decide) rfl ?_
            refine x_goto C (tgt := 2) d_Mo_below_13 (by decide) ?_
            refine XW.loc (lv' := [(0, .int (zI x)), (1, .int (zI 4))]) ⟨rfl, rfl, trivial⟩ ?_
            refine x_iload_n C d_Mo_below_2 rfl ?_
            refine x_iload_n C d_Mo_below_3 rfl ?_
            refine x_iconst C d_Mo_below_4 ?_
            refine x_iadd C d_Mo_below_5 ?_
            refine x_ishr C (q := 32) 5 d_Mo_below_6 rfl rfl (by decide) (by omega) (by omega) ?_
            refine x_if_le C (tgt := 16) d_Mo_below_7 (by decide) (by omega) (by omega) (fun c7 => ?_) (fun c7 => ?_)
            · exfalso; omega
            · refine x_iinc C d_Mo_below_10 (by decide) rfl ?_
              refine x_goto C (tgt := 2) d_Mo_below_13 (by decide) ?_
              refine XW.loc (lv' := [(0, .int (zI x)), (1, .int (zI 5))]) ⟨rfl, rfl, trivial⟩ ?_
              refine x_iload_n C d_Mo_below_2 rfl ?_
              refine x_iload_n C d_Mo_below_3 rfl ?_
              refine x_iconst C d_Mo_below_4 ?_
              refine x_iadd C d_Mo_below_5 ?_
              refine x_ishr C (q := 64) 6 d_Mo_below_6 rfl rfl (by decide) (by omega) (by omega) ?_
              refine x_if_le C (tgt := 16) d_Mo_below_7 (by decide) (by omega) (by omega) (fun c7 => ?_) (fun c7 => ?_)
              · refine x_iload_n C d_Mo_below_16 rfl ?_
                exact x_iret C d_Mo_below_17 (nle rfl) (nle rfl) ⟨by rw [show hbZ x = 5 from (by unfold hbZ; rw [if_neg (by omega), if_neg (by omega), if_neg (by omega), if_neg (by omega), if_neg (by omega), if_pos (by omega)])]; rfl, rfl, rfl⟩
              · exfalso; omega
  · refine x_iconst C d_Mo_below_0 ?_
    refine x_istore_n C d_Mo_below_1 (by decide) ?_
    refine XW.loc (lv' := [(0, .int (zI x)), (1, .int (zI 0))]) ⟨rfl, rfl, trivial⟩ ?_
    refine x_iload_n C d_Mo_below_2 rfl ?_
    refine x_iload_n C d_Mo_below_3 rfl ?_
    refine x_iconst C d_Mo_below_4 ?_
    refine x_iadd C d_Mo_below_5 ?_
    refine x_ishr C (q := 2) 1 d_Mo_below_6 rfl rfl (by decide) (by omega) (by omega) ?_
    refine x_if_le C (tgt := 16) d_Mo_below_7 (by decide) (by omega) (by omega) (fun c7 => ?_) (fun c7 => ?_)
    · exfalso; omega
    · refine x_iinc C d_Mo_below_10 (by decide) rfl ?_
      refine x_goto C (tgt := 2) d_Mo_below_13 (by decide) ?_
      refine XW.loc (lv' := [(0, .int (zI x)), (1, .int (zI 1))]) ⟨rfl, rfl, trivial⟩ ?_
      refine x_iload_n C d_Mo_below_2 rfl ?_
      refine x_iload_n C d_Mo_below_3 rfl ?_
      refine x_iconst C d_Mo_below_4 ?_
      refine x_iadd C d_Mo_below_5 ?_
      refine x_ishr C (q := 4) 2 d_Mo_below_6 rfl rfl (by decide) (by omega) (by omega) ?_
      refine x_if_le C (tgt := 16) d_Mo_below_7 (by decide) (by omega) (by omega) (fun c7 => ?_) (fun c7 => ?_)
      · exfalso; omega
      · refine x_iinc C d_Mo_below_10 (by decide) rfl ?_
        refine x_goto C (tgt := 2) d_Mo_below_13 (by decide) ?_
        refine XW.loc (lv' := [(0, .int (zI x)), (1, .int (zI 2))]) ⟨rfl, rfl, trivial⟩ ?_
        refine x_iload_n C d_Mo_below_2 rfl ?_
        refine x_iload_n C d_Mo_below_3 rfl ?_
        refine x_iconst C d_Mo_below_4 ?_
        refine x_iadd C d_Mo_below_5 ?_
        refine x_ishr C (q := 8) 3 d_Mo_below_6 rfl rfl (by decide) (by omega) (by omega) ?_
        refine x_if_le C (tgt := 16) d_Mo_below_7 (by decide) (by omega) (by omega) (fun c7 => ?_) (fun c7 => ?_)
        · exfalso; omega
        · refine x_iinc C d_Mo_below_10 (by decide) rfl ?_
          refine x_goto C (tgt := 2) d_Mo_below_13 (by decide) ?_
          refine XW.loc (lv' := [(0, .int (zI x)), (1, .int (zI 3))]) ⟨rfl, rfl, trivial⟩ ?_
          refine x_iload_n C d_Mo_below_2 rfl ?_
          refine x_iload_n C d_Mo_below_3 rfl ?_
          refine x_iconst C d_Mo_below_4 ?_
          refine x_iadd C d_Mo_below_5 ?_
          refine x_ishr C (q := 16) 4 d_Mo_below_6 rfl rfl (by decide) (by omega) (by omega) ?_
          refine x_if_le C (tgt := 16) d_Mo_below_7 (by decide) (by omega) (by omega) (fun c7 => ?_) (fun c7 => ?_)
          · exfalso; omega
          · refine x_iinc C d_Mo_below_10 (by decide) rfl ?_
            refine x_goto C (tgt := 2) d_Mo_below_13 (by decide) ?_
            refine XW.loc (lv' := [(0, .int (zI x)), (1, .int (zI 4))]) ⟨rfl, rfl, trivial⟩ ?_
            refine x_iload_n C d_Mo_below_2 rfl ?_
            refine x_iload_n C d_Mo_below_3 rfl ?_
            refine x_iconst C d_Mo_below_4 ?_
            refine x_iadd C d_Mo_below_5 ?_
            refine x_ishr C (q := 32) 5 d_Mo_below_6 rfl rfl (by decide) (by omega) (by omega) ?_
            refine x_if_le C (tgt := 16) d_Mo_below_7 (by decide) (by omega) (by omega) (fun c7 => ?_) (fun c7 => ?_)
            · exfalso; omega
            · refine x_iinc C d_Mo_below_10 (by decide) rfl ?_
              refine x_goto C (tgt := 2) d_Mo_below_13 (by decide) ?_
              refine XW.loc (lv' := [(0, .int (zI x)), (1, .int (zI 5))]) ⟨rfl, rfl, trivial⟩ ?_
              refine x_iload_n C d_Mo_below_2 rfl ?_
              refine x_iload_n C d_Mo_below_3 rfl ?_
              refine x_iconst C d_Mo_below_4 ?_
              refine x_iadd C d_Mo_below_5 ?_
              refine x_ishr C (q := 64) 6 d_Mo_below_6 rfl rfl (by decide) (by omega) (by omega) ?_
              refine x_if_le C (tgt := 16) d_Mo_below_7 (by decide) (by omega) (by omega) (fun c7 => ?_) (fun c7 => ?_)
              · exfalso; omega
              · refine x_iinc C d_Mo_below_10 (by decide) rfl ?_
                refine x_goto C (tgt := 2) d_Mo_below_13 (by decide) ?_
                refine XW.loc (lv' := [(0, .int (zI x)), (1, .int (zI 6))]) ⟨rfl, rfl, trivial⟩ ?_
                refine x_iload_n C d_Mo_below_2 rfl ?_
                refine x_iload_n C d_Mo_below_3 rfl ?_
                refine x_iconst C d_Mo_below_4 ?_
                refine x_iadd C d_Mo_below_5 ?_
                refine x_ishr C (q := 128) 7 d_Mo_below_6 rfl rfl (by decide) (by omega) (by omega) ?_
                refine x_if_le C (tgt := 16) d_Mo_below_7 (by decide) (by omega) (by omega) (fun c7 => ?_) (fun c7 => ?_)
                · refine x_iload_n C d_Mo_below_16 rfl ?_
                  exact x_iret C d_Mo_below_17 (nle rfl) (nle rfl) ⟨by rw [show hbZ x = 6 from (by unfold hbZ; rw [if_neg (by omega), if_neg (by omega), if_neg (by omega), if_neg (by omega), if_neg (by omega), if_neg (by omega), if_pos (by omega)])]; rfl, rfl, rfl⟩
                · exfalso; omega

theorem hb_b {g : Int} (h1 : 4 ≤ g) (h2 : g < 128) : 2 ≤ hbZ g ∧ hbZ g ≤ 6 := by
  unfold hbZ
  repeat' split
  all_goals omega
theorem pow_s6 {n : Nat} (h : n ≤ 6) : (1 : Int) ≤ 2 ^ n ∧ (2 : Int) ^ n ≤ 64 := by
  have : n = 0 ∨ n = 1 ∨ n = 2 ∨ n = 3 ∨ n = 4 ∨ n = 5 ∨ n = 6 := by omega
  rcases this with e | e | e | e | e | e | e <;> rw [e] <;> decide
set_option maxRecDepth 100000 in
set_option maxHeartbeats 4000000 in
theorem e3_Mo_dist {a0 : Array Value} {s0 : State} {D : va_G} {cI cL : ClassId} (l : Launch) (E : a_E a0 s0 D cI cL) {p : Program} {e : Env} {R : Room} {s : State} {m : MethodId} {args : Array Value} {below : List Frame} {meth : Method} {c : Code} (C : XC s0 D cI cL p s m meth c "NarrowingPackerModel" prog_13_method_16_code 8 (some .int) []) (hR : R = a_rm 4 0 0) {h : AH} {K : Nat} {κ : Kp} {v : Hs × T3 × Int × Cn4} {P pk : Int → Int} (h35 : h 35 = some (iA cI 200 P)) (hP : ∀ j, 0 ≤ j → j < κ.2.2.2.1 → P j = pk j) (hp : ∀ j, 0 ≤ pk j ∧ pk j < 256) (z1 : 0 ≤ κ.2.2.2.1) (z2 : κ.2.2.2.1 ≤ 200) {g sl : Int} (g1 : -1 ≤ g) (g2 : g < 128) (s1 : 0 ≤ sl) (s2 : sl ≤ 14) {c1 : Cd} (ok : cOk κ.2.2.2.1 6 c1) (hb : sl = 14 → 0 < c1.2.1) : XW s0 D p l e R s m args below meth c (XQ s0 D 0 0 (PR (some (.int (zI (mDst pk κ.2.2.2.1 g sl c1).1))) (sM s0.heap.size cI h κ ((mDst pk κ.2.2.2.1 g sl c1).2, v)) K) below s) 99 [(0, .ref (s0.heap.size + 33)), (2, .int (zI g)), (5, .int (zI sl))] [] (sM s0.heap.size cI h κ (c1, v)) K 0 0 := by
  subst hR
  refine x_iload C d_Mo_distance_99 rfl ?_
  refine x_iconst C d_Mo_distance_101 ?_
  refine x_icmp_ge C (tgt := 108) d_Mo_distance_102 (by decide) (by omega) (by omega) (by omega) (by omega) (fun c102 => ?_) (fun c102 => ?_)
  · have h5 := pow_s6 (n := (sl / 2 - 1).toNat) (by omega)
    have hN : ((sl / 2 - 1).toNat : Int) = sl / 2 - 1 := by omega
    have hf : 0 < c1.2.1 ∨ rg (3500 + 32 * sl) (428 + (sl - 4) * 32) (2 ^ (sl / 2 - 1).toNat) := by
      by_cases e14 : sl = 14
      · exact Or.inl (hb e14)
      · exact Or.inr ((rg_row (by omega) (by omega)).le (pow_s (by omega)).2)
    refine x_iload C d_Mo_distance_108 rfl ?_
    refine x_iconst C d_Mo_distance_110 ?_
    refine x_idiv C d_Mo_distance_111 (by omega) (by omega) (by omega) (by omega) ?_
    refine x_iconst C d_Mo_distance_112 ?_
    refine x_isub C d_Mo_distance_113 ?_
    refine x_istore C d_Mo_distance_114 (by decide) ?_
    refine x_iconst C d_Mo_distance_116 ?_
    refine x_iload C d_Mo_distance_117 rfl ?_
    refine x_iconst C d_Mo_distance_119 ?_
    refine x_irem C d_Mo_distance_120 (by omega) (by omega) (by omega) (by omega) ?_
    refine x_iadd C d_Mo_distance_121 ?_
    refine x_iload C d_Mo_distance_122 rfl ?_
    refine x_ishl C (q := 2 ^ (sl / 2 - 1).toNat) (sl / 2 - 1).toNat d_Mo_distance_124 (by omega) rfl (by omega) ?_
    refine x_istore C d_Mo_distance_125 (by decide) ?_
    refine x_iload C d_Mo_distance_127 rfl ?_
    refine x_aload_n C d_Mo_distance_129 rfl ?_
    refine x_sipush C d_Mo_distance_130 (by decide) ?_
    refine x_bipush C d_Mo_distance_133 (by decide) ?_
    refine x_iload C d_Mo_distance_135 rfl ?_
    refine x_imul C d_Mo_distance_137 ?_
    refine x_iadd C d_Mo_distance_138 ?_
    refine x_iload C d_Mo_distance_139 rfl ?_
    refine x_iload_n C d_Mo_distance_141 rfl ?_
    refine x_iconst C d_Mo_distance_142 ?_
    refine x_iload C d_Mo_distance_143 rfl ?_
    refine x_ishl C (q := 2 ^ (sl / 2 - 1).toNat) (sl / 2 - 1).toNat d_Mo_distance_145 (by omega) rfl (by omega) ?_
    refine x_iconst C d_Mo_distance_146 ?_
    refine x_isub C d_Mo_distance_147 ?_
    refine x_iand C d_Mo_distance_148 (zI_mask (by omega) (by omega) g) ?_
    refine XW.steq (st' := .int (zI (g % 2 ^ (sl / 2 - 1).toNat)) :: .int (zI ((sl / 2 - 1).toNat : Int)) :: .int (zI (3500 + 32 * sl)) :: .ref (s0.heap.size + 33) :: .int (zI ((2 + sl % 2) * 2 ^ (sl / 2 - 1).toNat)) :: []) (by rw [hN]) ?_
    have hgm := Int.emod_nonneg g (show (2 : Int) ^ (sl / 2 - 1).toNat ≠ 0 by omega)
    have hgl := Int.emod_lt_of_pos g (show (0 : Int) < 2 ^ (sl / 2 - 1).toNat by omega)
    refine x_callVR C (G_Mo E.1) (u_953 E.1) (u_955 E.1) (us_38 E.1) (u_956 E.1) (u_13 E.1) d_Mo_distance_149 (c_Mo_row l E h35 hP hp z1 z2 (fr := 3500 + 32 * sl) (a := 428 + (sl - 4) * 32) (sl / 2 - 1).toNat (by omega) (by omega) (by omega) (ok.le (by omega)) hf) nh_Mo_row ln_Mo_row rfl rfl (nle rfl) (nle rfl) (nle rfl) (nle rfl) (nle rfl) ?_
    refine x_iadd C d_Mo_distance_152 ?_
    exact x_iret C d_Mo_distance_153 (nle rfl) (nle rfl) ⟨by unfold mDst; rw [if_neg (by omega)], by unfold mDst; rw [if_neg (by omega)], rfl⟩
  · refine x_iload C d_Mo_distance_105 rfl ?_
    exact x_iret C d_Mo_distance_107 (nle rfl) (nle rfl) ⟨by unfold mDst; rw [if_pos c102], by unfold mDst; rw [if_pos c102], rfl⟩
set_option maxRecDepth 100000 in
set_option maxHeartbeats 4000000 in
theorem e2_Mo_dist {a0 : Array Value} {s0 : State} {D : va_G} {cI cL : ClassId} (l : Launch) (E : a_E a0 s0 D cI cL) {p : Program} {e : Env} {R : Room} {s : State} {m : MethodId} {args : Array Value} {below : List Frame} {meth : Method} {c : Code} (C : XC s0 D cI cL p s m meth c "NarrowingPackerModel" prog_13_method_16_code 8 (some .int) []) (hR : R = a_rm 4 0 0) {h : AH} {K : Nat} {κ : Kp} {v : Hs × T3 × Int × Cn4} {P pk : Int → Int} (h35 : h 35 = some (iA cI 200 P)) (hP : ∀ j, 0 ≤ j → j < κ.2.2.2.1 → P j = pk j) (hp : ∀ j, 0 ≤ pk j ∧ pk j < 256) (z1 : 0 ≤ κ.2.2.2.1) (z2 : κ.2.2.2.1 ≤ 200) {c0 : Cd} {vv g : Int} (v1 : 0 ≤ vv) (v2 : vv ≤ 200) (g1 : -1 ≤ g) (g2 : g < 128) (ok : cOk κ.2.2.2.1 10 c0) : XW s0 D p l e R s m args below meth c (XQ s0 D 0 0 (PR (some (.int (zI (mDist pk κ.2.2.2.1 vv g c0).1))) (sM s0.heap.size cI h κ ((mDist pk κ.2.2.2.1 vv g c0).2, v)) K) below s) 61 [(0, .ref (s0.heap.size + 33)), (1, .int (zI vv)), (2, .int (zI g)), (4, .int (zI (mDue g)))] [.int (zI (min vv 3)), .int (zI 16), .int (zI 3436), .ref (s0.heap.size + 33)] (sM s0.heap.size cI h κ (c0, v)) K 0 0 := by
  have he3 := fun (c1 : Cd) (sl : Int) (s1 : 0 ≤ sl) (s2 : sl ≤ 14) (ok : cOk κ.2.2.2.1 6 c1) (hb : sl = 14 → 0 < c1.2.1) => e3_Mo_dist l E C hR h35 hP hp z1 z2 g1 g2 s1 s2 ok hb (e := e) (args := args) (below := below) (K := K) (v := v)
  subst hR
  have hdu : 0 ≤ mDue g ∧ mDue g ≤ 100 := by
    unfold mDue slotZ hbZ
    have h1 := bitZ_01 g 1
    have h2 := bitZ_01 g 2
    have h3 := bitZ_01 g 3
    have h4 := bitZ_01 g 4
    have h5 := bitZ_01 g 5
    have h6 := bitZ_01 g 6
    have h0 := bitZ_01 g 0
    repeat' split
    all_goals first | omega | (simp only [Nat.reduceSub]; omega)
  have hs := mSlot_b pk κ.2.2.2.1 vv g c0
  have ok1 : cOk κ.2.2.2.1 6 (mSlot pk κ.2.2.2.1 vv g c0).2 := mTree_ok hp 4 _ _ _ 6 _ (by exact ok.le (by omega))
  refine x_imul C d_Mo_distance_61 ?_
  refine x_iadd C d_Mo_distance_62 ?_
  refine x_iconst C d_Mo_distance_63 ?_
  refine x_iload C d_Mo_distance_64 rfl ?_
  refine x_callVR C (G_Mo E.1) (u_926 E.1) (u_928 E.1) (us_32 E.1) (u_929 E.1) (u_13 E.1) d_Mo_distance_66 (c_Mo_tree l E h35 hP hp z1 z2 (fr := 3436 + 16 * min vv 3) (a := 364 + min vv 3 * 16) 4 (by decide) (by omega) (by omega) (ok.le (by omega)) (Or.inr ((rg_slot (by omega) (by omega)).le (by decide)))) nh_Mo_tree ln_Mo_tree rfl rfl (nle rfl) (nle rfl) (nle rfl) (nle rfl) (nle rfl) ?_
  refine XW.steq (st' := [.int (zI ((mSlot pk κ.2.2.2.1 vv g c0).1 - 16))]) rfl ?_
  refine XW.heq (h' := sM s0.heap.size cI h κ ((mSlot pk κ.2.2.2.1 vv g c0).2, v)) rfl ?_
  refine x_istore C d_Mo_distance_69 (by decide) ?_
  refine x_iload C d_Mo_distance_71 rfl ?_
  refine x_bipush C d_Mo_distance_73 (by decide) ?_
  refine x_icmp_ne C (tgt := 80) d_Mo_distance_75 (by decide) (by omega) (by omega) (by omega) (by omega) (fun c75 => ?_) (fun c75 => ?_)
  · refine x_iload C d_Mo_distance_80 rfl ?_
    refine x_bipush C d_Mo_distance_82 (by decide) ?_
    refine x_icmp_ne C (tgt := 99) d_Mo_distance_84 (by decide) (by omega) (by omega) (by omega) (by omega) (fun c84 => ?_) (fun c84 => ?_)
    · first
        | (have hfar : mFar (mSlot pk κ.2.2.2.1 vv g c0).2 ((mSlot pk κ.2.2.2.1 vv g c0).1 - 16) = ((mSlot pk κ.2.2.2.1 vv g c0).2.1, 3, (mSlot pk κ.2.2.2.1 vv g c0).2.2.2) := if_pos (by omega)
           have hdd : mDist pk κ.2.2.2.1 vv g c0 = mDst pk κ.2.2.2.1 g ((mSlot pk κ.2.2.2.1 vv g c0).1 - 16) (mFar (mSlot pk κ.2.2.2.1 vv g c0).2 ((mSlot pk κ.2.2.2.1 vv g c0).1 - 16)) := by unfold mDist; rw [if_neg (by omega)]
           have hb14 : ((mSlot pk κ.2.2.2.1 vv g c0).1 - 16) = 14 → 0 < (mFar (mSlot pk κ.2.2.2.1 vv g c0).2 ((mSlot pk κ.2.2.2.1 vv g c0).1 - 16)).2.1 := by
             intro e14
             have hbd := ok1.2.2.1
             unfold mFar
             split
             · show (0 : Int) < 3; decide
             · omega
           refine XW.heq (h' := sM s0.heap.size cI h κ ((mFar (mSlot pk κ.2.2.2.1 vv g c0).2 ((mSlot pk κ.2.2.2.1 vv g c0).1 - 16)), v)) (by rw [hfar]; exact (sM_eq rfl rfl rfl rfl rfl rfl rfl rfl (fun q q1 q2 q3 q4 q5 q6 q7 q8 => by simp only [sM, a_up, beq_f q1, beq_f q2, beq_f q3, beq_f q4, beq_f q5, beq_f q6, beq_f q7, beq_f q8, cond_false]))) ?_
           refine XW.loc (lv' := [(0, .ref (s0.heap.size + 33)), (2, .int (zI g)), (5, .int (zI ((mSlot pk κ.2.2.2.1 vv g c0).1 - 16)))]) ⟨rfl, rfl, rfl, trivial⟩ ?_
           rw [hdd]
           exact he3 _ _ (by omega) (by omega) (mFar_ok ok1 _) hb14)
        | (have hfar : mFar (mSlot pk κ.2.2.2.1 vv g c0).2 ((mSlot pk κ.2.2.2.1 vv g c0).1 - 16) = (mSlot pk κ.2.2.2.1 vv g c0).2 := if_neg (by omega)
           have hdd : mDist pk κ.2.2.2.1 vv g c0 = mDst pk κ.2.2.2.1 g ((mSlot pk κ.2.2.2.1 vv g c0).1 - 16) (mFar (mSlot pk κ.2.2.2.1 vv g c0).2 ((mSlot pk κ.2.2.2.1 vv g c0).1 - 16)) := by unfold mDist; rw [if_neg (by omega)]
           have hb14 : ((mSlot pk κ.2.2.2.1 vv g c0).1 - 16) = 14 → 0 < (mFar (mSlot pk κ.2.2.2.1 vv g c0).2 ((mSlot pk κ.2.2.2.1 vv g c0).1 - 16)).2.1 := by
             intro e14
             have hbd := ok1.2.2.1
             unfold mFar
             split
             · show (0 : Int) < 3; decide
             · omega
           refine XW.heq (h' := sM s0.heap.size cI h κ ((mFar (mSlot pk κ.2.2.2.1 vv g c0).2 ((mSlot pk κ.2.2.2.1 vv g c0).1 - 16)), v)) (by rw [hfar]) ?_
           refine XW.loc (lv' := [(0, .ref (s0.heap.size + 33)), (2, .int (zI g)), (5, .int (zI ((mSlot pk κ.2.2.2.1 vv g c0).1 - 16)))]) ⟨rfl, rfl, rfl, trivial⟩ ?_
           rw [hdd]
           exact he3 _ _ (by omega) (by omega) (mFar_ok ok1 _) hb14)
    · refine x_aload_n C d_Mo_distance_87 rfl ?_
      refine x_get C (G_Mo E.1) 15 (u_779 E.1) d_Mo_distance_88 (by decide) (by rfl) (show _ = some (.int (zI ((mSlot pk κ.2.2.2.1 vv g c0).2.2.1))) from rfl) ?_
      have hbd := ok1.2.2.1
      refine x_if_ne C (tgt := 99) d_Mo_distance_91 (by decide) (by omega) (by omega) (fun c91 => ?_) (fun c91 => ?_)
      · first
          | (have hfar : mFar (mSlot pk κ.2.2.2.1 vv g c0).2 ((mSlot pk κ.2.2.2.1 vv g c0).1 - 16) = ((mSlot pk κ.2.2.2.1 vv g c0).2.1, 3, (mSlot pk κ.2.2.2.1 vv g c0).2.2.2) := if_pos (by omega)
             have hdd : mDist pk κ.2.2.2.1 vv g c0 = mDst pk κ.2.2.2.1 g ((mSlot pk κ.2.2.2.1 vv g c0).1 - 16) (mFar (mSlot pk κ.2.2.2.1 vv g c0).2 ((mSlot pk κ.2.2.2.1 vv g c0).1 - 16)) := by unfold mDist; rw [if_neg (by omega)]
             have hb14 : ((mSlot pk κ.2.2.2.1 vv g c0).1 - 16) = 14 → 0 < (mFar (mSlot pk κ.2.2.2.1 vv g c0).2 ((mSlot pk κ.2.2.2.1 vv g c0).1 - 16)).2.1 := by
               intro e14
               have hbd := ok1.2.2.1
               unfold mFar
               split
               · show (0 : Int) < 3; decide
               · omega
             refine XW.heq (h' := sM s0.heap.size cI h κ ((mFar (mSlot pk κ.2.2.2.1 vv g c0).2 ((mSlot pk κ.2.2.2.1 vv g c0).1 - 16)), v)) (by rw [hfar]; exact (sM_eq rfl rfl rfl rfl rfl rfl rfl rfl (fun q q1 q2 q3 q4 q5 q6 q7 q8 => by simp only [sM, a_up, beq_f q1, beq_f q2, beq_f q3, beq_f q4, beq_f q5, beq_f q6, beq_f q7, beq_f q8, cond_false]))) ?_
             refine XW.loc (lv' := [(0, .ref (s0.heap.size + 33)), (2, .int (zI g)), (5, .int (zI ((mSlot pk κ.2.2.2.1 vv g c0).1 - 16)))]) ⟨rfl, rfl, rfl, trivial⟩ ?_
             rw [hdd]
             exact he3 _ _ (by omega) (by omega) (mFar_ok ok1 _) hb14)
          | (have hfar : mFar (mSlot pk κ.2.2.2.1 vv g c0).2 ((mSlot pk κ.2.2.2.1 vv g c0).1 - 16) = (mSlot pk κ.2.2.2.1 vv g c0).2 := if_neg (by omega)
             have hdd : mDist pk κ.2.2.2.1 vv g c0 = mDst pk κ.2.2.2.1 g ((mSlot pk κ.2.2.2.1 vv g c0).1 - 16) (mFar (mSlot pk κ.2.2.2.1 vv g c0).2 ((mSlot pk κ.2.2.2.1 vv g c0).1 - 16)) := by unfold mDist; rw [if_neg (by omega)]
             have hb14 : ((mSlot pk κ.2.2.2.1 vv g c0).1 - 16) = 14 → 0 < (mFar (mSlot pk κ.2.2.2.1 vv g c0).2 ((mSlot pk κ.2.2.2.1 vv g c0).1 - 16)).2.1 := by
               intro e14
               have hbd := ok1.2.2.1
               unfold mFar
               split
               · show (0 : Int) < 3; decide
               · omega
             refine XW.heq (h' := sM s0.heap.size cI h κ ((mFar (mSlot pk κ.2.2.2.1 vv g c0).2 ((mSlot pk κ.2.2.2.1 vv g c0).1 - 16)), v)) (by rw [hfar]) ?_
             refine XW.loc (lv' := [(0, .ref (s0.heap.size + 33)), (2, .int (zI g)), (5, .int (zI ((mSlot pk κ.2.2.2.1 vv g c0).1 - 16)))]) ⟨rfl, rfl, rfl, trivial⟩ ?_
             rw [hdd]
             exact he3 _ _ (by omega) (by omega) (mFar_ok ok1 _) hb14)
      · refine x_aload_n C d_Mo_distance_94 rfl ?_
        refine x_iconst C d_Mo_distance_95 ?_
        refine x_put C (G_Mo E.1) 15 (u_779 E.1) d_Mo_distance_96 (by decide) rfl (by rfl) rfl rfl (nle rfl) ?_
        first
          | (have hfar : mFar (mSlot pk κ.2.2.2.1 vv g c0).2 ((mSlot pk κ.2.2.2.1 vv g c0).1 - 16) = ((mSlot pk κ.2.2.2.1 vv g c0).2.1, 3, (mSlot pk κ.2.2.2.1 vv g c0).2.2.2) := if_pos (by omega)
             have hdd : mDist pk κ.2.2.2.1 vv g c0 = mDst pk κ.2.2.2.1 g ((mSlot pk κ.2.2.2.1 vv g c0).1 - 16) (mFar (mSlot pk κ.2.2.2.1 vv g c0).2 ((mSlot pk κ.2.2.2.1 vv g c0).1 - 16)) := by unfold mDist; rw [if_neg (by omega)]
             have hb14 : ((mSlot pk κ.2.2.2.1 vv g c0).1 - 16) = 14 → 0 < (mFar (mSlot pk κ.2.2.2.1 vv g c0).2 ((mSlot pk κ.2.2.2.1 vv g c0).1 - 16)).2.1 := by
               intro e14
               have hbd := ok1.2.2.1
               unfold mFar
               split
               · show (0 : Int) < 3; decide
               · omega
             refine XW.heq (h' := sM s0.heap.size cI h κ ((mFar (mSlot pk κ.2.2.2.1 vv g c0).2 ((mSlot pk κ.2.2.2.1 vv g c0).1 - 16)), v)) (by rw [hfar]; exact (sM_eq rfl rfl rfl rfl rfl rfl rfl rfl (fun q q1 q2 q3 q4 q5 q6 q7 q8 => by simp only [sM, a_up, beq_f q1, beq_f q2, beq_f q3, beq_f q4, beq_f q5, beq_f q6, beq_f q7, beq_f q8, cond_false]))) ?_
             refine XW.loc (lv' := [(0, .ref (s0.heap.size + 33)), (2, .int (zI g)), (5, .int (zI ((mSlot pk κ.2.2.2.1 vv g c0).1 - 16)))]) ⟨rfl, rfl, rfl, trivial⟩ ?_
             rw [hdd]
             exact he3 _ _ (by omega) (by omega) (mFar_ok ok1 _) hb14)
          | (have hfar : mFar (mSlot pk κ.2.2.2.1 vv g c0).2 ((mSlot pk κ.2.2.2.1 vv g c0).1 - 16) = (mSlot pk κ.2.2.2.1 vv g c0).2 := if_neg (by omega)
             have hdd : mDist pk κ.2.2.2.1 vv g c0 = mDst pk κ.2.2.2.1 g ((mSlot pk κ.2.2.2.1 vv g c0).1 - 16) (mFar (mSlot pk κ.2.2.2.1 vv g c0).2 ((mSlot pk κ.2.2.2.1 vv g c0).1 - 16)) := by unfold mDist; rw [if_neg (by omega)]
             have hb14 : ((mSlot pk κ.2.2.2.1 vv g c0).1 - 16) = 14 → 0 < (mFar (mSlot pk κ.2.2.2.1 vv g c0).2 ((mSlot pk κ.2.2.2.1 vv g c0).1 - 16)).2.1 := by
               intro e14
               have hbd := ok1.2.2.1
               unfold mFar
               split
               · show (0 : Int) < 3; decide
               · omega
             refine XW.heq (h' := sM s0.heap.size cI h κ ((mFar (mSlot pk κ.2.2.2.1 vv g c0).2 ((mSlot pk κ.2.2.2.1 vv g c0).1 - 16)), v)) (by rw [hfar]) ?_
             refine XW.loc (lv' := [(0, .ref (s0.heap.size + 33)), (2, .int (zI g)), (5, .int (zI ((mSlot pk κ.2.2.2.1 vv g c0).1 - 16)))]) ⟨rfl, rfl, rfl, trivial⟩ ?_
             rw [hdd]
             exact he3 _ _ (by omega) (by omega) (mFar_ok ok1 _) hb14)
  · refine x_iconst C d_Mo_distance_78 ?_
    exact x_iret C d_Mo_distance_79 (nle rfl) (nle rfl) ⟨by unfold mDist; rw [if_pos (by omega)], by unfold mDist; rw [if_pos (by omega)], rfl⟩
set_option maxRecDepth 100000 in
set_option maxHeartbeats 4000000 in
theorem c_Mo_distance {a0 : Array Value} {s0 : State} {D : va_G} {cI cL : ClassId} (l : Launch) (E : a_E a0 s0 D cI cL) {h : AH} {K : Nat} {κ : Kp} {v : Hs × T3 × Int × Cn4} {P pk : Int → Int} (h35 : h 35 = some (iA cI 200 P)) (hP : ∀ j, 0 ≤ j → j < κ.2.2.2.1 → P j = pk j) (hp : ∀ j, 0 ≤ pk j ∧ pk j < 256) (z1 : 0 ≤ κ.2.2.2.1) (z2 : κ.2.2.2.1 ≤ 200) {c0 : Cd} {vv g : Int} (v1 : 0 ≤ vv) (v2 : vv ≤ 200) (g1 : -1 ≤ g) (g2 : g < 128) (ok : cOk κ.2.2.2.1 10 c0) : XM l s0 D y_Mo_distance prog_13_method_16_code 8 (some .int) 4 0 0 [.ref (s0.heap.size + 33), .int (zI vv), .int (zI g)] (sM s0.heap.size cI h κ (c0, v)) (K) (PR (some (.int (zI (mDist pk κ.2.2.2.1 vv g c0).1))) (sM s0.heap.size cI h κ ((mDist pk κ.2.2.2.1 vv g c0).2, v)) K) := by
  refine XM.of (cI := cI) (cL := cL) (own := "NarrowingPackerModel") (by decide) rfl E.2 (nle rfl) ?_
  intro p e s m below meth c C hn
  refine x_iload_n C d_Mo_distance_0 rfl ?_
  refine x_iconst C d_Mo_distance_1 ?_
  refine x_icmp_ge C (tgt := 9) d_Mo_distance_2 (by decide) (by omega) (by omega) (by omega) (by omega) (fun c2 => ?_) (fun c2 => ?_)
  · refine x_iload_n C d_Mo_distance_9 rfl ?_
    refine x_callSR C (u_950 E.1) (u_951 E.1) (u_952 E.1) (u_13 E.1) d_Mo_distance_10 (c_Mo_below l E (by omega) (by omega)) nh_Mo_below ln_Mo_below rfl (nle rfl) (nle rfl) (nle rfl) (nle rfl) (nle rfl) ?_
    have hh1 := hb_b c2 g2
    refine x_istore_n C d_Mo_distance_13 (by decide) ?_
    refine x_iload_n C d_Mo_distance_14 rfl ?_
    refine x_if_ge C (tgt := 23) d_Mo_distance_15 (by decide) (by omega) (by omega) (fun c15 => ?_) (fun c15 => ?_)
    · refine x_iload_n C d_Mo_distance_23 rfl ?_
      refine x_iconst C d_Mo_distance_24 ?_
      refine x_icmp_ge C (tgt := 32) d_Mo_distance_25 (by decide) (by omega) (by omega) (by omega) (by omega) (fun c25 => ?_) (fun c25 => ?_)
      · refine x_iconst C d_Mo_distance_32 ?_
        refine x_iload_n C d_Mo_distance_33 rfl ?_
        refine x_imul C d_Mo_distance_34 ?_
        refine x_iload_n C d_Mo_distance_35 rfl ?_
        refine x_iload_n C d_Mo_distance_36 rfl ?_
        refine x_iconst C d_Mo_distance_37 ?_
        refine x_isub C d_Mo_distance_38 ?_
        refine x_ishr C (q := 2 ^ (hbZ g - 1)) (hbZ g - 1) d_Mo_distance_39 (by omega) rfl (by omega) (by omega) (by omega) ?_
        refine x_iconst C d_Mo_distance_40 ?_
        refine x_iand C d_Mo_distance_41 (zI_and1 _) ?_
        refine x_iadd C d_Mo_distance_42 ?_
        refine x_istore C d_Mo_distance_43 (by decide) ?_
        refine x_aload_n C d_Mo_distance_45 rfl ?_
        refine x_sipush C d_Mo_distance_46 (by decide) ?_
        refine x_bipush C d_Mo_distance_49 (by decide) ?_
        refine x_iload_n C d_Mo_distance_51 rfl ?_
        refine x_iconst C d_Mo_distance_52 ?_
        refine x_icmp_ge C (tgt := 60) d_Mo_distance_53 (by decide) (by omega) (by omega) (by omega) (by omega) (fun c53 => ?_) (fun c53 => ?_)
        · refine x_iconst C d_Mo_distance_60 ?_
          first
            | (exfalso; omega)
            | (refine XW.steq (st' := [.int (zI (min vv 3)), .int (zI 16), .int (zI 3436), .ref (s0.heap.size + 33)]) (by first | (rw [show min vv 3 = vv by omega]; first | done | rfl) | (rw [show min vv 3 = 3 by omega]; first | done | rfl)) ?_
               refine XW.loc (lv' := [(0, .ref (s0.heap.size + 33)), (1, .int (zI vv)), (2, .int (zI g)), (4, .int (zI (mDue g)))]) ⟨rfl, rfl, rfl, by first | (rw [show mDue g = 15 from if_pos (by omega)]; first | done | rfl) | (rw [show mDue g = g from (if_neg (by omega)).trans (if_pos (by omega))]; first | done | rfl) | (rw [show mDue g = 2 * (hbZ g : Int) + bitZ g (hbZ g - 1) from (if_neg (by omega)).trans (if_neg (by omega))]; first | done | rfl), trivial⟩ ?_
               exact e2_Mo_dist l E C rfl h35 hP hp z1 z2 v1 v2 g1 g2 ok)
        · refine x_iload_n C d_Mo_distance_56 rfl ?_
          refine x_goto C (tgt := 61) d_Mo_distance_57 (by decide) ?_
          first
            | (exfalso; omega)
            | (refine XW.steq (st' := [.int (zI (min vv 3)), .int (zI 16), .int (zI 3436), .ref (s0.heap.size + 33)]) (by first | (rw [show min vv 3 = vv by omega]; first | done | rfl) | (rw [show min vv 3 = 3 by omega]; first | done | rfl)) ?_
               refine XW.loc (lv' := [(0, .ref (s0.heap.size + 33)), (1, .int (zI vv)), (2, .int (zI g)), (4, .int (zI (mDue g)))]) ⟨rfl, rfl, rfl, by first | (rw [show mDue g = 15 from if_pos (by omega)]; first | done | rfl) | (rw [show mDue g = g from (if_neg (by omega)).trans (if_pos (by omega))]; first | done | rfl) | (rw [show mDue g = 2 * (hbZ g : Int) + bitZ g (hbZ g - 1) from (if_neg (by omega)).trans (if_neg (by omega))]; first | done | rfl), trivial⟩ ?_
               exact e2_Mo_dist l E C rfl h35 hP hp z1 z2 v1 v2 g1 g2 ok)
      · refine x_iload_n C d_Mo_distance_28 rfl ?_
        refine x_goto C (tgt := 43) d_Mo_distance_29 (by decide) ?_
        refine x_istore C d_Mo_distance_43 (by decide) ?_
        refine x_aload_n C d_Mo_distance_45 rfl ?_
        refine x_sipush C d_Mo_distance_46 (by decide) ?_
        refine x_bipush C d_Mo_distance_49 (by decide) ?_
        refine x_iload_n C d_Mo_distance_51 rfl ?_
        refine x_iconst C d_Mo_distance_52 ?_
        refine x_icmp_ge C (tgt := 60) d_Mo_distance_53 (by decide) (by omega) (by omega) (by omega) (by omega) (fun c53 => ?_) (fun c53 => ?_)
        · refine x_iconst C d_Mo_distance_60 ?_
          first
            | (exfalso; omega)
            | (refine XW.steq (st' := [.int (zI (min vv 3)), .int (zI 16), .int (zI 3436), .ref (s0.heap.size + 33)]) (by first | (rw [show min vv 3 = vv by omega]; first | done | rfl) | (rw [show min vv 3 = 3 by omega]; first | done | rfl)) ?_
               refine XW.loc (lv' := [(0, .ref (s0.heap.size + 33)), (1, .int (zI vv)), (2, .int (zI g)), (4, .int (zI (mDue g)))]) ⟨rfl, rfl, rfl, by first | (rw [show mDue g = 15 from if_pos (by omega)]; first | done | rfl) | (rw [show mDue g = g from (if_neg (by omega)).trans (if_pos (by omega))]; first | done | rfl) | (rw [show mDue g = 2 * (hbZ g : Int) + bitZ g (hbZ g - 1) from (if_neg (by omega)).trans (if_neg (by omega))]; first | done | rfl), trivial⟩ ?_
               exact e2_Mo_dist l E C rfl h35 hP hp z1 z2 v1 v2 g1 g2 ok)
        · refine x_iload_n C d_Mo_distance_56 rfl ?_
          refine x_goto C (tgt := 61) d_Mo_distance_57 (by decide) ?_
          first
            | (exfalso; omega)
            | (refine XW.steq (st' := [.int (zI (min vv 3)), .int (zI 16), .int (zI 3436), .ref (s0.heap.size + 33)]) (by first | (rw [show min vv 3 = vv by omega]; first | done | rfl) | (rw [show min vv 3 = 3 by omega]; first | done | rfl)) ?_
               refine XW.loc (lv' := [(0, .ref (s0.heap.size + 33)), (1, .int (zI vv)), (2, .int (zI g)), (4, .int (zI (mDue g)))]) ⟨rfl, rfl, rfl, by first | (rw [show mDue g = 15 from if_pos (by omega)]; first | done | rfl) | (rw [show mDue g = g from (if_neg (by omega)).trans (if_pos (by omega))]; first | done | rfl) | (rw [show mDue g = 2 * (hbZ g : Int) + bitZ g (hbZ g - 1) from (if_neg (by omega)).trans (if_neg (by omega))]; first | done | rfl), trivial⟩ ?_
               exact e2_Mo_dist l E C rfl h35 hP hp z1 z2 v1 v2 g1 g2 ok)
    · refine x_bipush C d_Mo_distance_18 (by decide) ?_
      refine x_goto C (tgt := 43) d_Mo_distance_20 (by decide) ?_
      refine x_istore C d_Mo_distance_43 (by decide) ?_
      refine x_aload_n C d_Mo_distance_45 rfl ?_
      refine x_sipush C d_Mo_distance_46 (by decide) ?_
      refine x_bipush C d_Mo_distance_49 (by decide) ?_
      refine x_iload_n C d_Mo_distance_51 rfl ?_
      refine x_iconst C d_Mo_distance_52 ?_
      refine x_icmp_ge C (tgt := 60) d_Mo_distance_53 (by decide) (by omega) (by omega) (by omega) (by omega) (fun c53 => ?_) (fun c53 => ?_)
      · refine x_iconst C d_Mo_distance_60 ?_
        first
          | (exfalso; omega)
          | (refine XW.steq (st' := [.int (zI (min vv 3)), .int (zI 16), .int (zI 3436), .ref (s0.heap.size + 33)]) (by first | (rw [show min vv 3 = vv by omega]; first | done | rfl) | (rw [show min vv 3 = 3 by omega]; first | done | rfl)) ?_
             refine XW.loc (lv' := [(0, .ref (s0.heap.size + 33)), (1, .int (zI vv)), (2, .int (zI g)), (4, .int (zI (mDue g)))]) ⟨rfl, rfl, rfl, by first | (rw [show mDue g = 15 from if_pos (by omega)]; first | done | rfl) | (rw [show mDue g = g from (if_neg (by omega)).trans (if_pos (by omega))]; first | done | rfl) | (rw [show mDue g = 2 * (hbZ g : Int) + bitZ g (hbZ g - 1) from (if_neg (by omega)).trans (if_neg (by omega))]; first | done | rfl), trivial⟩ ?_
             exact e2_Mo_dist l E C rfl h35 hP hp z1 z2 v1 v2 g1 g2 ok)
      · refine x_iload_n C d_Mo_distance_56 rfl ?_
        refine x_goto C (tgt := 61) d_Mo_distance_57 (by decide) ?_
        first
          | (exfalso; omega)
          | (refine XW.steq (st' := [.int (zI (min vv 3)), .int (zI 16), .int (zI 3436), .ref (s0.heap.size + 33)]) (by first | (rw [show min vv 3 = vv by omega]; first | done | rfl) | (rw [show min vv 3 = 3 by omega]; first | done | rfl)) ?_
             refine XW.loc (lv' := [(0, .ref (s0.heap.size + 33)), (1, .int (zI vv)), (2, .int (zI g)), (4, .int (zI (mDue g)))]) ⟨rfl, rfl, rfl, by first | (rw [show mDue g = 15 from if_pos (by omega)]; first | done | rfl) | (rw [show mDue g = g from (if_neg (by omega)).trans (if_pos (by omega))]; first | done | rfl) | (rw [show mDue g = 2 * (hbZ g : Int) + bitZ g (hbZ g - 1) from (if_neg (by omega)).trans (if_neg (by omega))]; first | done | rfl), trivial⟩ ?_
             exact e2_Mo_dist l E C rfl h35 hP hp z1 z2 v1 v2 g1 g2 ok)
  · refine x_iconst C d_Mo_distance_5 ?_
    refine x_goto C (tgt := 13) d_Mo_distance_6 (by decide) ?_
    refine x_istore_n C d_Mo_distance_13 (by decide) ?_
    refine x_iload_n C d_Mo_distance_14 rfl ?_
    refine x_if_ge C (tgt := 23) d_Mo_distance_15 (by decide) (by omega) (by omega) (fun c15 => ?_) (fun c15 => ?_)
    · refine x_iload_n C d_Mo_distance_23 rfl ?_
      refine x_iconst C d_Mo_distance_24 ?_
      refine x_icmp_ge C (tgt := 32) d_Mo_distance_25 (by decide) (by omega) (by omega) (by omega) (by omega) (fun c25 => ?_) (fun c25 => ?_)
      · refine x_iconst C d_Mo_distance_32 ?_
        refine x_iload_n C d_Mo_distance_33 rfl ?_
        refine x_imul C d_Mo_distance_34 ?_
        refine x_iload_n C d_Mo_distance_35 rfl ?_
        refine x_iload_n C d_Mo_distance_36 rfl ?_
        refine x_iconst C d_Mo_distance_37 ?_
        refine x_isub C d_Mo_distance_38 ?_
        refine x_ishr C (q := 2 ^ (hbZ g - 1)) (hbZ g - 1) d_Mo_distance_39 (by omega) rfl (by omega) (by omega) (by omega) ?_
        refine x_iconst C d_Mo_distance_40 ?_
        refine x_iand C d_Mo_distance_41 (zI_and1 _) ?_
        refine x_iadd C d_Mo_distance_42 ?_
        refine x_istore C d_Mo_distance_43 (by decide) ?_
        refine x_aload_n C d_Mo_distance_45 rfl ?_
        refine x_sipush C d_Mo_distance_46 (by decide) ?_
        refine x_bipush C d_Mo_distance_49 (by decide) ?_
        refine x_iload_n C d_Mo_distance_51 rfl ?_
        refine x_iconst C d_Mo_distance_52 ?_
        refine x_icmp_ge C (tgt := 60) d_Mo_distance_53 (by decide) (by omega) (by omega) (by omega) (by omega) (fun c53 => ?_) (fun c53 => ?_)
        · refine x_iconst C d_Mo_distance_60 ?_
          first
            | (exfalso; omega)
            | (refine XW.steq (st' := [.int (zI (min vv 3)), .int (zI 16), .int (zI 3436), .ref (s0.heap.size + 33)]) (by first | (rw [show min vv 3 = vv by omega]; first | done | rfl) | (rw [show min vv 3 = 3 by omega]; first | done | rfl)) ?_
               refine XW.loc (lv' := [(0, .ref (s0.heap.size + 33)), (1, .int (zI vv)), (2, .int (zI g)), (4, .int (zI (mDue g)))]) ⟨rfl, rfl, rfl, by first | (rw [show mDue g = 15 from if_pos (by omega)]; first | done | rfl) | (rw [show mDue g = g from (if_neg (by omega)).trans (if_pos (by omega))]; first | done | rfl) | (rw [show mDue g = 2 * (hbZ g : Int) + bitZ g (hbZ g - 1) from (if_neg (by omega)).trans (if_neg (by omega))]; first | done | rfl), trivial⟩ ?_
               exact e2_Mo_dist l E C rfl h35 hP hp z1 z2 v1 v2 g1 g2 ok)
        · refine x_iload_n C d_Mo_distance_56 rfl ?_
          refine x_goto C (tgt := 61) d_Mo_distance_57 (by decide) ?_
          first
            | (exfalso; omega)
            | (refine XW.steq (st' := [.int (zI (min vv 3)), .int (zI 16), .int (zI 3436), .ref (s0.heap.size + 33)]) (by first | (rw [show min vv 3 = vv by omega]; first | done | rfl) | (rw [show min vv 3 = 3 by omega]; first | done | rfl)) ?_
               refine XW.loc (lv' := [(0, .ref (s0.heap.size + 33)), (1, .int (zI vv)), (2, .int (zI g)), (4, .int (zI (mDue g)))]) ⟨rfl, rfl, rfl, by first | (rw [show mDue g = 15 from if_pos (by omega)]; first | done | rfl) | (rw [show mDue g = g from (if_neg (by omega)).trans (if_pos (by omega))]; first | done | rfl) | (rw [show mDue g = 2 * (hbZ g : Int) + bitZ g (hbZ g - 1) from (if_neg (by omega)).trans (if_neg (by omega))]; first | done | rfl), trivial⟩ ?_
               exact e2_Mo_dist l E C rfl h35 hP hp z1 z2 v1 v2 g1 g2 ok)
      · refine x_iload_n C d_Mo_distance_28 rfl ?_
        refine x_goto C (tgt := 43) d_Mo_distance_29 (by decide) ?_
        refine x_istore C d_Mo_distance_43 (by decide) ?_
        refine x_aload_n C d_Mo_distance_45 rfl ?_
        refine x_sipush C d_Mo_distance_46 (by decide) ?_
        refine x_bipush C d_Mo_distance_49 (by decide) ?_
        refine x_iload_n C d_Mo_distance_51 rfl ?_
        refine x_iconst C d_Mo_distance_52 ?_
        refine x_icmp_ge C (tgt := 60) d_Mo_distance_53 (by decide) (by omega) (by omega) (by omega) (by omega) (fun c53 => ?_) (fun c53 => ?_)
        · refine x_iconst C d_Mo_distance_60 ?_
          first
            | (exfalso; omega)
            | (refine XW.steq (st' := [.int (zI (min vv 3)), .int (zI 16), .int (zI 3436), .ref (s0.heap.size + 33)]) (by first | (rw [show min vv 3 = vv by omega]; first | done | rfl) | (rw [show min vv 3 = 3 by omega]; first | done | rfl)) ?_
               refine XW.loc (lv' := [(0, .ref (s0.heap.size + 33)), (1, .int (zI vv)), (2, .int (zI g)), (4, .int (zI (mDue g)))]) ⟨rfl, rfl, rfl, by first | (rw [show mDue g = 15 from if_pos (by omega)]; first | done | rfl) | (rw [show mDue g = g from (if_neg (by omega)).trans (if_pos (by omega))]; first | done | rfl) | (rw [show mDue g = 2 * (hbZ g : Int) + bitZ g (hbZ g - 1) from (if_neg (by omega)).trans (if_neg (by omega))]; first | done | rfl), trivial⟩ ?_
               exact e2_Mo_dist l E C rfl h35 hP hp z1 z2 v1 v2 g1 g2 ok)
        · refine x_iload_n C d_Mo_distance_56 rfl ?_
          refine x_goto C (tgt := 61) d_Mo_distance_57 (by decide) ?_
          first
            | (exfalso; omega)
            | (refine XW.steq (st' := [.int (zI (min vv 3)), .int (zI 16), .int (zI 3436), .ref (s0.heap.size + 33)]) (by first | (rw [show min vv 3 = vv by omega]; first | done | rfl) | (rw [show min vv 3 = 3 by omega]; first | done | rfl)) ?_
               refine XW.loc (lv' := [(0, .ref (s0.heap.size + 33)), (1, .int (zI vv)), (2, .int (zI g)), (4, .int (zI (mDue g)))]) ⟨rfl, rfl, rfl, by first | (rw [show mDue g = 15 from if_pos (by omega)]; first | done | rfl) | (rw [show mDue g = g from (if_neg (by omega)).trans (if_pos (by omega))]; first | done | rfl) | (rw [show mDue g = 2 * (hbZ g : Int) + bitZ g (hbZ g - 1) from (if_neg (by omega)).trans (if_neg (by omega))]; first | done | rfl), trivial⟩ ?_
               exact e2_Mo_dist l E C rfl h35 hP hp z1 z2 v1 v2 g1 g2 ok)
    · refine x_bipush C d_Mo_distance_18 (by decide) ?_
      refine x_goto C (tgt := 43) d_Mo_distance_20 (by decide) ?_
      refine x_istore C d_Mo_distance_43 (by decide) ?_
      refine x_aload_n C d_Mo_distance_45 rfl ?_
      refine x_sipush C d_Mo_distance_46 (by decide) ?_
      refine x_bipush C d_Mo_distance_49 (by decide) ?_
      refine x_iload_n C d_Mo_distance_51 rfl ?_
      refine x_iconst C d_Mo_distance_52 ?_
      refine x_icmp_ge C (tgt := 60) d_Mo_distance_53 (by decide) (by omega) (by omega) (by omega) (by omega) (fun c53 => ?_) (fun c53 => ?_)
      · refine x_iconst C d_Mo_distance_60 ?_
        first
          | (exfalso; omega)
          | (refine XW.steq (st' := [.int (zI (min vv 3)), .int (zI 16), .int (zI 3436), .ref (s0.heap.size + 33)]) (by first | (rw [show min vv 3 = vv by omega]; first | done | rfl) | (rw [show min vv 3 = 3 by omega]; first | done | rfl)) ?_
             refine XW.loc (lv' := [(0, .ref (s0.heap.size + 33)), (1, .int (zI vv)), (2, .int (zI g)), (4, .int (zI (mDue g)))]) ⟨rfl, rfl, rfl, by first | (rw [show mDue g = 15 from if_pos (by omega)]; first | done | rfl) | (rw [show mDue g = g from (if_neg (by omega)).trans (if_pos (by omega))]; first | done | rfl) | (rw [show mDue g = 2 * (hbZ g : Int) + bitZ g (hbZ g - 1) from (if_neg (by omega)).trans (if_neg (by omega))]; first | done | rfl), trivial⟩ ?_
             exact e2_Mo_dist l E C rfl h35 hP hp z1 z2 v1 v2 g1 g2 ok)
      · refine x_iload_n C d_Mo_distance_56 rfl ?_
        refine x_goto C (tgt := 61) d_Mo_distance_57 (by decide) ?_
        first
          | (exfalso; omega)
          | (refine XW.steq (st' := [.int (zI (min vv 3)), .int (zI 16), .int (zI 3436), .ref (s0.heap.size + 33)]) (by first | (rw [show min vv 3 = vv by omega]; first | done | rfl) | (rw [show min vv 3 = 3 by omega]; first | done | rfl)) ?_
             refine XW.loc (lv' := [(0, .ref (s0.heap.size + 33)), (1, .int (zI vv)), (2, .int (zI g)), (4, .int (zI (mDue g)))]) ⟨rfl, rfl, rfl, by first | (rw [show mDue g = 15 from if_pos (by omega)]; first | done | rfl) | (rw [show mDue g = g from (if_neg (by omega)).trans (if_pos (by omega))]; first | done | rfl) | (rw [show mDue g = 2 * (hbZ g : Int) + bitZ g (hbZ g - 1) from (if_neg (by omega)).trans (if_neg (by omega))]; first | done | rfl), trivial⟩ ?_
             exact e2_Mo_dist l E C rfl h35 hP hp z1 z2 v1 v2 g1 g2 ok)

