/-! a packing: begun, gone through, kept -/
def en0 : En := (fun _ => 1024, fun _ => 0, 4, 4294967295)
theorem en0_ok : eOk en0 := ⟨fun _ => by show (0 : Int) ≤ 1024 ∧ (1024 : Int) ≤ 2048; omega, fun _ => by show (0 : Int) ≤ 0 ∧ (0 : Int) < 256; omega, fun _ _ => rfl, by decide, by decide, by decide⟩
set_option maxRecDepth 100000 in
set_option maxHeartbeats 4000000 in
theorem c_Na_restart {a0 : Array Value} {s0 : State} {D : va_G} {cI cL : ClassId} (l : Launch) (E : a_E a0 s0 D cI cL) {h : AH} {K : Nat} {x : En} (h24 : h 24 = some (oCh s0.heap.size 25)) : XM l s0 D y_Na_restart prog_7_method_2_code 1 none 2 0 0 [.ref (s0.heap.size + 23)] (sN s0.heap.size cI h x) (K) (PR none (sN s0.heap.size cI h en0) K) := by
  refine XM.of (cI := cI) (cL := cL) (own := "NarrowingPacker$Narrower") (by decide) rfl E.2 (nle rfl) ?_
  intro p e s m below meth c C hn
  refine x_aload_n C d_Na_restart_0 rfl ?_
  refine x_get C (G_Na E.1) 0 (u_188 E.1) d_Na_restart_1 (by decide) rfl rfl ?_
  refine x_callVR C (G_Ch E.1) (u_375 E.1) (u_376 E.1) (u_377 E.1) (u_378 E.1) (u_10 E.1) d_Na_restart_4 (c_Ch_forget l E (by exact h24) (by rfl)) nh_Ch_forget ln_Ch_forget rfl (by exact h24) (nle rfl) (nle rfl) (nle rfl) (nle rfl) (nle rfl) ?_
  refine x_aload_n C d_Na_restart_7 rfl ?_
  refine x_get C (G_Na E.1) 1 (u_190 E.1) d_Na_restart_8 (by decide) rfl rfl ?_
  refine x_iconst C d_Na_restart_11 ?_
  refine x_callSR C (u_380 E.1) (u_365 E.1) (u_366 E.1) (u_14 E.1) d_Na_restart_12 (c_Ar_fill l E (by rfl) (by decide)) nh_Ar_fill ln_Ar_fill rfl (nle rfl) (nle rfl) (nle rfl) (nle rfl) (nle rfl) ?_
  refine x_aload_n C d_Na_restart_15 rfl ?_
  refine x_iconst C d_Na_restart_16 ?_
  refine x_put C (G_Na E.1) 2 (u_192 E.1) d_Na_restart_17 (by decide) rfl rfl rfl rfl (nle rfl) ?_
  refine x_aload_n C d_Na_restart_20 rfl ?_
  refine x_ldc2 C (v := 4294967295) (u_381 E.1) d_Na_restart_21 ?_
  refine x_put C (G_Na E.1) 3 (u_194 E.1) d_Na_restart_24 (by decide) rfl rfl rfl rfl (nle rfl) ?_
  exact x_vret C d_Na_restart_27 (nle rfl) (nle rfl) ⟨rfl, sN_eq rfl rfl rfl (fun q q1 q2 q3 => by simp only [sN, a_up_n q1, a_up_n q2, a_up_n q3]), rfl⟩

def fitsZ (len : Int) : Int := if len ≤ 200 then 1 else 0
set_option maxRecDepth 100000 in
set_option maxHeartbeats 4000000 in
theorem c_Na_fits {a0 : Array Value} {s0 : State} {D : va_G} {cI cL : ClassId} (l : Launch) (E : a_E a0 s0 D cI cL) {h : AH} {K : Nat} {len rg : Int} (h23 : h 23 = some (oNa s0.heap.size len rg)) (l1 : 0 ≤ len) (l2 : len < 100000) : XM l s0 D y_Na_fits prog_7_method_3_code 1 (some .boolean) 0 0 0 [.ref (s0.heap.size + 23)] (h) (K) (PR (some (.int (zI (fitsZ len)))) h K) := by
  refine XM.of (cI := cI) (cL := cL) (own := "NarrowingPacker$Narrower") (by decide) rfl E.2 (nle rfl) ?_
  intro p e s m below meth c C hn
  refine x_aload_n C d_Na_fits_0 rfl ?_
  refine x_get C (G_Na E.1) 2 (u_192 E.1) d_Na_fits_1 (by decide) h23 rfl ?_
  refine x_sipush C d_Na_fits_4 (by decide) ?_
  refine x_icmp_gt C (tgt := 14) d_Na_fits_7 (by decide) (by omega) (by omega) (by omega) (by omega) (fun c7 => ?_) (fun c7 => ?_)
  · refine x_iconst C d_Na_fits_14 ?_
    exact x_zret C d_Na_fits_15 (by omega) (nle rfl) (nle rfl) ⟨by unfold fitsZ; split <;> first | rfl | (exfalso; omega), rfl, rfl⟩
  · refine x_iconst C d_Na_fits_10 ?_
    refine x_goto C (tgt := 15) d_Na_fits_11 (by decide) ?_
    exact x_zret C d_Na_fits_15 (by omega) (nle rfl) (nle rfl) ⟨by unfold fitsZ; split <;> first | rfl | (exfalso; omega), rfl, rfl⟩

theorem eOk_match {x : En} (ok : eOk x) (ln ds : Int) : eOk (eMatch ln ds x) ∧ (eMatch ln ds x).2.2.1 ≤ x.2.2.1 + 20 := by
  have h1 := eOk_len ok 72 (ln - 2)
  have h2 := eOk_tree 4 (364 + min (ln - 2) 3 * 16) (slotZ (ds - 1)) 1 _ h1.1
  have h4 := hb_le (ds - 1)
  unfold eMatch
  split
  · exact ⟨h2.1, by have := h1.2; have := h2.2; omega⟩
  · have h3 := eOk_row (hbZ (ds - 1) - 1) 0 (428 + (slotZ (ds - 1) - 4) * 32) (ds - 1) 1 _ h2.1
    exact ⟨h3.1, by have := h1.2; have := h2.2; have := h3.2; omega⟩
theorem eOk_pkt {x : En} (ok : eOk x) (t : Hs) (q : Pk) : eOk (ePkt t q x) ∧ (ePkt t q x).2.2.1 ≤ x.2.2.1 + 30 := by
  have a0 := len_bit x t.2.2.2 0
  have a1 := len_bit x t.2.2.2 1
  have b0 := len_bit (eBit x t.2.2.2 1) (12 + t.2.2.2) 0
  have b1 := len_bit (eBit x t.2.2.2 1) (12 + t.2.2.2) 1
  have k0 := eOk_bit (eOk_bit ok t.2.2.2 1) (12 + t.2.2.2) 0
  have k1 := eOk_bit (eOk_bit ok t.2.2.2 1) (12 + t.2.2.2) 1
  unfold ePkt
  split
  · have h1 := eOk_lit 8 (hPlace t) (hBefore t (t.2.2.1 0)) q.2.2.2.2 1 (hAs t) _ (eOk_bit ok t.2.2.2 0)
    exact ⟨h1.1, by have := h1.2; omega⟩
  · split
    · have h1 := eOk_match k0 q.2.1 q.2.2.1
      exact ⟨h1.1, by have := h1.2; omega⟩
    · split
      · have h1 := eOk_echo k1 t.2.2.2 q.2.2.2.1
        have h2 := eOk_len h1.1 218 (q.2.1 - 2)
        exact ⟨h2.1, by have := h1.2; have := h2.2; omega⟩
      · split
        · have h1 := eOk_echo k1 t.2.2.2 (-1)
          exact ⟨h1.1, by have := h1.2; omega⟩
        · have h1 := eOk_len k0 72 0
          have h2 := eOk_tree 4 364 15 1 _ h1.1
          exact ⟨h2.1, by have := h1.2; have := h2.2; show (eTree 4 364 15 1 (eLen 72 0 _)).2.2.1 ≤ _; omega⟩
theorem st_ok {k s : Int} (h : 0 ≤ s ∧ s ≤ 11) : (0 ≤ stLit s ∧ stLit s ≤ 11 ∧ stLit s < 7 ∨ stLit s ≤ s) ∧ (0 ≤ stLit s ∧ stLit s ≤ 11) ∧ (0 ≤ stCopy k s ∧ stCopy k s ≤ 11) := by
  unfold stLit stCopy
  repeat' split
  all_goals omega
theorem hOk_tell0 {t : Hs} (hk : hOk t) {ln ds ec li : Int} (b1 : 0 ≤ li) (b2 : li < 256) (n2 : t.2.1 < 120) : hOk (hTell t (0, ln, ds, ec, li)) := by
  have h1 := hOk_lit hk b1 b2 n2
  refine ⟨h1.1, h1.2.1, h1.2.2.1, (st_ok (k := 0) hk.2.2.2.1).2.1, fun h7 => ?_⟩
  have h8 : 7 ≤ stLit t.2.2.2 := h7
  have h9 : 7 ≤ t.2.2.2 := by unfold stLit at h8; split at h8 <;> (try split at h8) <;> omega
  have := hk.2.2.2.2 h9
  show t.2.2.1 0 ≤ t.2.1 + 1
  omega
theorem hOk_tellC {t : Hs} (hk : hOk t) {k ln ds ec li : Int} (kk : k = 1 ∨ k = 2 ∨ k = 3) (hz : k = 3 → ds = t.2.2.1 0) (l1 : 1 ≤ ln) (l2 : t.2.1 + ln ≤ 120) (d1 : 1 ≤ ds) (d2 : ds ≤ t.2.1) : hOk (hTell t (k, ln, ds, ec, li)) := by
  have h1 := hOk_rep hk (ln := ln) (ds := ds) (by omega) l2
  have h3 := (st_ok (k := k) hk.2.2.2.1).2.2
  unfold hTell
  rw [if_neg (show ¬ (k, ln, ds, ec, li).1 = 0 by show ¬ k = 0; omega)]
  rcases kk with rfl | rfl | rfl
  · have h2 := hOk_front h1 3 d1 (by omega)
    exact ⟨h2.1, h2.2.1, h2.2.2.1, h3, fun _ => by show zup (hFront 3 t.2.2.1) 0 ds 0 ≤ t.2.1 + ln; rw [zup_s]; omega⟩
  · have h2 := hOk_front h1 ec.toNat d1 (by omega)
    exact ⟨h2.1, h2.2.1, h2.2.2.1, h3, fun _ => by show zup (hFront ec.toNat t.2.2.1) 0 ds 0 ≤ t.2.1 + ln; rw [zup_s]; omega⟩
  · exact ⟨h1.1, h1.2.1, h1.2.2.1, h3, fun _ => by show t.2.2.1 0 ≤ t.2.1 + ln; have := hz rfl; omega⟩
/-- what is chosen can be told -/
theorem choose_ok {c n : Int} {src : Int → Int} {t : Hs} (hs : ∀ q, 0 ≤ src q ∧ src q < 256) (hk : hOk t) (i2 : t.2.1 < n) :
    (∃ ln ds ec, chooseZ c src n t = (2, ln, ds, ec, 0) ∧ 2 ≤ ln ∧ ln ≤ n - t.2.1 ∧ 0 ≤ ec ∧ ec ≤ 3 ∧ 1 ≤ ds ∧ ds ≤ t.2.1) ∨ (∃ ln ds, chooseZ c src n t = (1, ln, ds, 0, 0) ∧ 2 ≤ ln ∧ ln ≤ n - t.2.1 ∧ 1 ≤ ds ∧ ds ≤ t.2.1) ∨
    (∃ ds, chooseZ c src n t = (3, 1, ds, 0, 0) ∧ ds = t.2.2.1 0 ∧ 1 ≤ ds ∧ ds ≤ t.2.1) ∨ (∃ li, chooseZ c src n t = (0, 1, 0, 0, li) ∧ 0 ≤ li ∧ li < 256) := by
  have hn := hk.2.1
  have hm := match_b (src := src) (n := n) (i := t.2.1) (c := c) (by omega) t.2.1.toNat 0 0 0 (by omega) (Or.inl rfl)
  have he := echo_b (src := src) (bk := t.2.2.1) (n := n) (i := t.2.1) (by omega) 4 0 0 0 (by omega) (by omega) (Or.inl ⟨rfl, rfl⟩)
  simp only [chooseZ]
  split
  · rename_i h1
    have h2 := hk.2.2.1 (echoZ src n t.2.1 t.2.2.1 4 0 (0, 0)).2
    exact Or.inl ⟨_, _, _, rfl, by omega, by omega, by omega, by omega, by omega, by omega⟩
  · split
    · exact Or.inr (Or.inl ⟨_, _, rfl, by omega, by omega, by omega, by omega⟩)
    · split
      · rename_i h1
        have h2 := hk.2.2.1 0
        refine Or.inr (Or.inr (Or.inl ⟨_, rfl, rfl, by omega, ?_⟩))
        unfold agZ at h1
        split at h1
        · omega
        · omega
      · exact Or.inr (Or.inr (Or.inr ⟨_, rfl, hs _⟩))
