/-! PURE. The sheet of an invoice. -/
theorem rb_b {μ : Mm} (hW : Wf (μ.1 1)) {i : Nat} (hi : i < 60) (l : Int32) : -9989001 ≤ (f_X12_rebuiltOf μ (nI i) l).toInt ∧ (f_X12_rebuiltOf μ (nI i) l).toInt ≤ 9989001 := by
  obtain ⟨w0, w1, w2, -⟩ := hW.2.2.2.2.2.2.2.2.2.2.2.1 i hi
  obtain ⟨x1, x2, x3⟩ := cl_of w0
  obtain ⟨v1, v2, v3⟩ := cl_of w2
  have o0 : f_X12_ofInvoice μ (nI i) (0 : Int32) = μ.1 1 (617 + 10 * i) := ofInv_eq (k := 0) (by omega) (by decide)
  have o2 : f_X12_ofInvoice μ (nI i) (2 : Int32) = μ.1 1 (617 + 10 * i + 2) := ofInv_eq (k := 2) (by omega) (by decide)
  unfold f_X12_rebuiltOf
  rw [o0, o2]
  split
  · split
    · unfold f_X12_layOf
      rw [show f_X12_ofVersion μ (μ.1 1 (617 + 10 * i + 2)) (11 : Int32) = μ.1 1 (22 + 12 * cl (μ.1 1 (617 + 10 * i + 2)) + 11) from rfl]
      have b := lay_b hW (v := cl (μ.1 1 (617 + 10 * i + 2))) (by omega) (f_X12_ofInvoice μ (nI i) (5 : Int32) &&& (f_X12_contestedSet μ (μ.1 1 (617 + 10 * i)) ^^^ (-1 : Int32)))
      omega
    · exact callLine_b hW v1 (by omega) (by omega)
  · exact ⟨by decide, by decide⟩
theorem lw_of (ν μ : Mm) {l : Nat} (hl : l < 4) : ∃ w, g_X8_lineWord ν (nI l) = some w ∧ g_X12_nameOf μ (nI l) = some w ∧ slen w ≤ 7 := by
  match l, hl with
  | 0, _ => exact ⟨139374982500, rfl, rfl, by decide⟩
  | 1, _ => exact ⟨9118749779191154, rfl, rfl, by decide⟩
  | 2, _ => exact ⟨35620117504375, rfl, rfl, by decide⟩
  | 3, _ => exact ⟨544825708, rfl, rfl, by decide⟩
  | l + 4, g => exact absurd g (by omega)
theorem has_dis {p u : Int32} (h : p &&& u = 0) {d : Nat} (hd : d < 32) (hp : f_X12_has p (nI d) = true) : f_X12_has u (nI d) = false := by
  have h1 : (p &&& u).toBitVec.getLsbD d = false := by rw [h, z_lsb]
  rw [and_lsb] at h1
  rw [has_bit _ hd] at hp ⊢
  rw [hp, Bool.true_and] at h1
  exact h1
section IS
variable {ν0 μ0 : Mm} {N i : Nat}
theorem dy_loop (hR : RelP N ν0 μ0) (hi : i < cl (μ0.1 1 2)) {νa μa : Mm} : ∀ (d k : Nat), k + d = 30 → ∀ n m, d + 1 ≤ n → d + 1 ≤ m → ∀ {ν μ : Mm} {len : Nat}, OuS ν0 μ0 ν μ len → len + 5 * d ≤ 1400 → Wrs ν0 μ0 len (5 * d) (g_X8_invoiceDays_L24 νa (7 + (62 + 2 * i)) n ν (7 + (22 + cl (μ0.1 1 (617 + 10 * i)))) (nI k)) (g_X12_writeDays_L16 μa (nI i) m μ (μ0.1 1 (617 + 10 * i)) (nI k)) := by
  obtain ⟨hLd, -⟩ := id hR
  obtain ⟨hL0, hW0, hP0⟩ := id hLd
  obtain ⟨h60, -, -, -, hc1, hc2, -⟩ := inv_at hL0 hW0 hi
  have hca : 0 ≤ (μ0.1 1 (617 + 10 * i)).toInt ∧ (μ0.1 1 (617 + 10 * i)).toInt < (μ0.1 1 1).toInt := ⟨hc2, hc1⟩
  obtain ⟨cx1, cx2, cx3⟩ := cl_of (x := μ0.1 1 (617 + 10 * i)) (hi := (μ0.1 1 (617 + 10 * i)).toInt) ⟨hc2, Int.le_refl _⟩
  obtain ⟨n1a, n1b, n1c⟩ := cl_of hW0.1.2.1
  have hc : cl (μ0.1 1 (617 + 10 * i)) < cl (μ0.1 1 1) := by omega
  obtain ⟨c, ec⟩ : ∃ c, c = cl (μ0.1 1 (617 + 10 * i)) := ⟨_, rfl⟩
  rw [← ec] at hc cx1 ⊢
  have dis := (hW0.2.2.2.2.2.2.2.2.2.1 c (by omega)).2.2.2.2.2.2.2
  intro d
  induction d with
  | zero =>
    intro k hk n m hn hm ν μ len h hl
    obtain ⟨n, rfl, -⟩ := succ_n hn
    obtain ⟨m, rfl, -⟩ := succ_n hm
    refine ⟨ν, μ, len, ?_, ?_, by omega, h⟩
    · unfold g_X8_invoiceDays_L24
      rw [if_pos (by rw [le32, nI_toInt (by omega)]; show (30 : Int) ≤ (k : Int); omega)]
    · unfold g_X12_writeDays_L16
      rw [if_pos (by rw [lt32, nI_toInt (by omega)]; show (29 : Int) < (k : Int); omega)]
  | succ d ih =>
    intro k hk n m hn hm ν μ len h hl
    obtain ⟨n, rfl, hn2⟩ := succ_n hn
    obtain ⟨m, rfl, hm2⟩ := succ_n hm
    obtain ⟨hL, hW, hP⟩ := h.cls hLd
    have r6 : ν.1 (7 + (62 + 2 * i)) 6 = μ0.1 1 (617 + 10 * i + 5) := (inv_at hL hW0 hi).2.2.1 5 (by decide)
    have O : ∀ (m : Mm), m.1 1 = μ0.1 1 → f_X12_ofInvoice m (nI i) (5 : Int32) = μ0.1 1 (617 + 10 * i + 5) := fun m e => by rw [show f_X12_ofInvoice m (nI i) (5 : Int32) = m.1 1 (617 + 10 * i + 5) from ofInv_eq (k := 5) (by omega) (by decide), e]
    have C : ∀ (m : Mm) (j : Nat), j < 7 → m.1 1 = μ0.1 1 → f_X12_ofCall m (μ0.1 1 (617 + 10 * i)) (nI j) = μ0.1 1 (330 + 7 * c + j) := fun m j hj e => by
      rw [cx1, show f_X12_ofCall m (nI c) (nI j) = m.1 1 (330 + 7 * c + j) from ofCall_eq (by omega) (by omega), e]
    have x41 : vp_in (μ0.1 1 (617 + 10 * i)) 41 := by rw [cx1]; exact vp_in_nI (by omega) (by decide)
    have g1 : ¬ (30 : Int32) ≤ nI k := by rw [le32, nI_toInt (by omega)]; show ¬ (30 : Int) ≤ (k : Int); omega
    have g2 : ¬ (29 : Int32) < nI k := by rw [lt32, nI_toInt (by omega)]; show ¬ (29 : Int) < (k : Int); omega
    cases hd : f_X12_has (μ0.1 1 (617 + 10 * i + 5)) (nI k) with
    | false =>
      obtain ⟨ν', μ', l', f1, f2, f3, f4⟩ := ih (k + 1) (by omega) n m hn2 hm2 h (by omega)
      refine ⟨ν', μ', l', ?_, ?_, by omega, f4⟩
      · unfold g_X8_invoiceDays_L24
        rw [if_neg g1, r6, contains_eq, bnd_s, hd, if_neg (by decide), nI1]
        exact f1
      · unfold g_X12_writeDays_L16
        rw [if_neg g2, asr_pos (vp_in_nI h60 (by decide)), bnd_s, O μ h.e1, bnd_s, hd, if_neg (by decide), nI1]
        exact f2
    | true =>
      have kl : (nI k).toInt64.toInt = (k : Int) := by rw [ti_l, nI_toInt (by omega)]
      have s32 : slen 32 = 1 := by decide
      obtain ⟨ν1, μ1, l1, x1, x2, x3, x4⟩ := wr_told (c := 32) h (D := 2) (by decide) (by decide) (v := (nI k).toInt64) (by rw [kl]; show -100 < (k : Int) ∧ (k : Int) < 100; omega) (by rw [s32]; omega)
      rw [s32] at x3
      obtain ⟨hL1, hW1, hP1⟩ := x4.cls hLd
      have r5 : ν1.1 (7 + (22 + c)) 5 = μ0.1 1 (330 + 7 * c + 5) := hL1.2.2.1 c hc 5 (by decide)
      have r6' : ν1.1 (7 + (22 + c)) 6 = μ0.1 1 (330 + 7 * c + 6) := hL1.2.2.1 c hc 6 (by decide)
      cases hp : f_X12_has (μ0.1 1 (330 + 7 * c + 5)) (nI k) with
      | true =>
        have hu := has_dis dis (d := k) (by omega) hp
        obtain ⟨ν2, μ2, l2, y1, y2, y3, y4⟩ := wr_put x4 (by omega) (x := (63 : Int32)) (y := (63 : Int32)) rfl
        obtain ⟨ν', μ', l', f1, f2, f3, f4⟩ := ih (k + 1) (by omega) n m hn2 hm2 y4 (by omega)
        refine ⟨ν', μ', l', ?_, ?_, by omega, f4⟩
        · unfold g_X8_invoiceDays_L24
          rw [if_neg g1, r6, contains_eq, bnd_s, hd, if_pos rfl, x1, bnd_s, r5, contains_eq, bnd_s, hp, if_pos rfl, y1, bnd_s, nI1]
          exact f1
        · unfold g_X12_writeDays_L16
          rw [if_neg g2, asr_pos (vp_in_nI h60 (by decide)), bnd_s, O μ h.e1, bnd_s, hd, if_pos rfl, x2, bnd_s, asr_pos x41, bnd_s, bnd_s, show f_X12_ofCall μ1 (μ0.1 1 (617 + 10 * i)) (5 : Int32) = μ0.1 1 (330 + 7 * c + 5) from C μ1 5 (by decide) x4.e1, hp, if_pos rfl, y2, bnd_s, bnd_s, bnd_s, show f_X12_ofCall μ2 (μ0.1 1 (617 + 10 * i)) (6 : Int32) = μ0.1 1 (330 + 7 * c + 6) from C μ2 6 (by decide) y4.e1, hu, if_neg (by decide), nI1]
          exact f2
      | false =>
        cases hu : f_X12_has (μ0.1 1 (330 + 7 * c + 6)) (nI k) with
        | true =>
          obtain ⟨ν2, μ2, l2, y1, y2, y3, y4⟩ := wr_put x4 (by omega) (x := (45 : Int32)) (y := (45 : Int32)) rfl
          obtain ⟨ν', μ', l', f1, f2, f3, f4⟩ := ih (k + 1) (by omega) n m hn2 hm2 y4 (by omega)
          refine ⟨ν', μ', l', ?_, ?_, by omega, f4⟩
          · unfold g_X8_invoiceDays_L24
            rw [if_neg g1, r6, contains_eq, bnd_s, hd, if_pos rfl, x1, bnd_s, r5, contains_eq, bnd_s, hp, if_neg (by decide), r6', contains_eq, bnd_s, hu, if_pos rfl, y1, bnd_s, nI1]
            exact f1
          · unfold g_X12_writeDays_L16
            rw [if_neg g2, asr_pos (vp_in_nI h60 (by decide)), bnd_s, O μ h.e1, bnd_s, hd, if_pos rfl, x2, bnd_s, asr_pos x41, bnd_s, bnd_s, show f_X12_ofCall μ1 (μ0.1 1 (617 + 10 * i)) (5 : Int32) = μ0.1 1 (330 + 7 * c + 5) from C μ1 5 (by decide) x4.e1, hp, if_neg (by decide), bnd_s, bnd_s, show f_X12_ofCall μ1 (μ0.1 1 (617 + 10 * i)) (6 : Int32) = μ0.1 1 (330 + 7 * c + 6) from C μ1 6 (by decide) x4.e1, hu, if_pos rfl, y2, bnd_s, nI1]
            exact f2
        | false =>
          obtain ⟨ν', μ', l', f1, f2, f3, f4⟩ := ih (k + 1) (by omega) n m hn2 hm2 x4 (by omega)
          refine ⟨ν', μ', l', ?_, ?_, by omega, f4⟩
          · unfold g_X8_invoiceDays_L24
            rw [if_neg g1, r6, contains_eq, bnd_s, hd, if_pos rfl, x1, bnd_s, r5, contains_eq, bnd_s, hp, if_neg (by decide), r6', contains_eq, bnd_s, hu, if_neg (by decide), nI1]
            exact f1
          · unfold g_X12_writeDays_L16
            rw [if_neg g2, asr_pos (vp_in_nI h60 (by decide)), bnd_s, O μ h.e1, bnd_s, hd, if_pos rfl, x2, bnd_s, asr_pos x41, bnd_s, bnd_s, show f_X12_ofCall μ1 (μ0.1 1 (617 + 10 * i)) (5 : Int32) = μ0.1 1 (330 + 7 * c + 5) from C μ1 5 (by decide) x4.e1, hp, if_neg (by decide), bnd_s, bnd_s, show f_X12_ofCall μ1 (μ0.1 1 (617 + 10 * i)) (6 : Int32) = μ0.1 1 (330 + 7 * c + 6) from C μ1 6 (by decide) x4.e1, hu, if_neg (by decide), nI1]
            exact f2
theorem wr_days (hR : RelP N ν0 μ0) (hi : i < cl (μ0.1 1 2)) {ν μ : Mm} {len : Nat} (h : OuS ν0 μ0 ν μ len) (hl : len + 155 ≤ 1400) : Wrs ν0 μ0 len 155 (g_X8_invoiceDays ν (7 + (62 + 2 * i))) (g_X12_writeDays μ (nI i)) := by
  obtain ⟨hLd, -⟩ := id hR
  obtain ⟨hL0, hW0, hP0⟩ := id hLd
  obtain ⟨hL, hW, hP⟩ := h.cls hLd
  obtain ⟨h60, io, hr, -, hc1, hc2, -⟩ := inv_at hL hW0 hi
  have t : slen 495957664800 = 5 := by decide
  have r0 : ν.1 (7 + (62 + 2 * i)) 1 = μ0.1 1 (617 + 10 * i) := hr 0 (by decide)
  obtain ⟨ν1, μ1, l1, x1, x2, x3, x4⟩ := wr_txt (c := 495957664800) h (by rw [t]; omega)
  rw [t] at x3
  obtain ⟨ν', μ', l', f1, f2, f3, f4⟩ := dy_loop (νa := ν) (μa := μ) hR hi 30 0 (by omega) 10000 10000 (by omega) (by omega) x4 (by omega)
  refine ⟨ν', μ', l', ?_, ?_, by omega, f4⟩
  · unfold g_X8_invoiceDays
    rw [asr_pos io, r0, asr_pos (call_at hL hW0 ⟨hc2, hc1⟩).1, x1, bnd_s]
    exact f1
  · unfold g_X12_writeDays
    rw [asr_pos (vp_in_nI h60 (by decide)), bnd_s, x2, bnd_s, show f_X12_ofInvoice μ (nI i) (0 : Int32) = μ0.1 1 (617 + 10 * i) from by rw [show f_X12_ofInvoice μ (nI i) (0 : Int32) = μ.1 1 (617 + 10 * i) from ofInv_eq (k := 0) (by omega) (by decide), h.e1]]
    exact f2
theorem wr_tail (hR : RelP N ν0 μ0) (hi : i < cl (μ0.1 1 2)) {l : Nat} (hl4 : l < 4) (hb : f_X12_has (μ0.1 1 (617 + 10 * i + 3)) (nI l) = true) {νa μa ν μ : Mm} {len : Nat} (h : OuS ν0 μ0 ν μ len) (hl : len + 20 ≤ 1400) : Wrs ν0 μ0 len 20 (g_X8_invoiceLine_J25 νa (7 + (62 + 2 * i)) (nI l) ν) (g_X12_writeLine_J25 μa (nI i) (nI l) μ) := by
  obtain ⟨hLd, -⟩ := id hR
  obtain ⟨hL0, hW0, hP0⟩ := id hLd
  obtain ⟨hL, hW, hP⟩ := h.cls hLd
  obtain ⟨h60, io, hr, hm, hc1, hc2, -⟩ := inv_at hL hW0 hi
  have hll : 0 ≤ (nI l).toInt ∧ (nI l).toInt ≤ 3 := by rw [nI_toInt (by omega)]; omega
  have rb := rebuilt_of (μ := μ0) hL hW0 hi hll
  have st := stands_of (μ := μ0) hL hW0 hi (nI l)
  have o3 : f_X12_ofInvoice μ0 (nI i) (3 : Int32) = μ0.1 1 (617 + 10 * i + 3) := ofInv_eq (k := 3) (by omega) (by decide)
  have o4 : f_X12_ofInvoice μ0 (nI i) (4 : Int32) = μ0.1 1 (617 + 10 * i + 4) := ofInv_eq (k := 4) (by omega) (by decide)
  have es : f_X12_has (f_X12_livingLines μ0 (nI i)) (nI l) = !f_X12_has (μ0.1 1 (617 + 10 * i + 4)) (nI l) := by
    unfold f_X12_livingLines
    rw [o3, o4, has_andn _ _ (by omega), hb, Bool.true_and]
  rw [es] at st
  have hLm : LdR ν 7 (μ.1 1) (μ0.2.1 3) := by rw [h.e1]; exact hL
  have hWm : Wf (μ.1 1) := by rw [h.e1]; exact hW0
  have mr : f_X12_rebuiltOf μ (nI i) (nI l) = f_X12_rebuiltOf μ0 (nI i) (nI l) := Option.some.inj ((rebuilt_of hLm hWm (by rw [h.e1]; exact hi) hll).symm.trans rb)
  have ml : f_X12_lineIn μ (nI i) (nI l) = μ0.1 1 (617 + 10 * i + (6 + l)) := by
    unfold f_X12_lineIn
    rw [show (6 : Int32) = nI 6 from rfl, nI_add, show f_X12_ofInvoice μ (nI i) (nI (6 + l)) = μ.1 1 (617 + 10 * i + (6 + l)) from ofInv_eq (by omega) (by omega), h.e1]
  have m4 : f_X12_ofInvoice μ (nI i) (4 : Int32) = μ0.1 1 (617 + 10 * i + 4) := by rw [show f_X12_ofInvoice μ (nI i) (4 : Int32) = μ.1 1 (617 + 10 * i + 4) from ofInv_eq (k := 4) (by omega) (by decide), h.e1]
  unfold g_X8_invoiceLine_J25 g_X12_writeLine_J25
  rw [rb, bnd_s, st, bnd_s, asr_pos (vp_in_nI h60 (by decide)), bnd_s, m4, bnd_s]
  cases hcr : f_X12_has (μ0.1 1 (617 + 10 * i + 4)) (nI l) with
  | true =>
    have t : slen 1851984991346003960608 = 9 := by decide
    obtain ⟨ν1, μ1, l1, x1, x2, x3, x4⟩ := wr_txt (c := 1851984991346003960608) h (by rw [t]; omega)
    rw [t] at x3
    obtain ⟨ν2, μ2, l2, y1, y2, y3, y4⟩ := wr_put x4 (by omega) (x := (10 : Int32)) (y := (10 : Int32)) rfl
    rw [if_neg (by decide), if_pos rfl, x1, bnd_s, y1, bnd_s, x2, bnd_s, y2, bnd_s]
    exact ⟨ν2, μ2, l2, rfl, rfl, by omega, y4⟩
  | false =>
    rw [if_pos (by decide), asr_pos (vp_in_nI hl4 (by decide)), cl_nI (by omega), hm l hl4, if_neg (show ¬ false = true by decide), asr_pos (okR_of hWm), bnd_s, asr_pos (vp_in_nI hl4 (by decide)), bnd_s, mr, ml]
    by_cases q : f_X12_rebuiltOf μ0 (nI i) (nI l) = μ0.1 1 (617 + 10 * i + (6 + l))
    · obtain ⟨ν2, μ2, l2, y1, y2, y3, y4⟩ := wr_put h (by omega) (x := (10 : Int32)) (y := (10 : Int32)) rfl
      rw [if_pos q, if_pos q, y1, bnd_s, y2, bnd_s]
      exact ⟨ν2, μ2, l2, rfl, rfl, by omega, y4⟩
    · have t : slen 139442744864 = 5 := by decide
      have bb := rb_b hW0 h60 (nI l)
      obtain ⟨ν1, μ1, l1, x1, x2, x3, x4⟩ := wr_told (c := 139442744864) h (D := 8) (by decide) (by decide) (v := (f_X12_rebuiltOf μ0 (nI i) (nI l)).toInt64) (by rw [ti_l]; show -100000000 < _ ∧ _ < (100000000 : Int); omega) (by rw [t]; omega)
      rw [t] at x3
      obtain ⟨ν2, μ2, l2, y1, y2, y3, y4⟩ := wr_put x4 (by omega) (x := (10 : Int32)) (y := (10 : Int32)) rfl
      rw [if_neg q, if_neg q, x1, bnd_s, y1, bnd_s, bnd_s, x2, bnd_s, y2, bnd_s]
      exact ⟨ν2, μ2, l2, rfl, rfl, by omega, y4⟩
theorem wr_line (hR : RelP N ν0 μ0) (hi : i < cl (μ0.1 1 2)) {l : Nat} (hl4 : l < 4) (hb : f_X12_has (μ0.1 1 (617 + 10 * i + 3)) (nI l) = true) {ν μ : Mm} {len : Nat} (h : OuS ν0 μ0 ν μ len) (hl : len + 200 ≤ 1400) : Wrs ν0 μ0 len 200 (g_X8_invoiceLine ν (7 + (62 + 2 * i)) (nI l)) (g_X12_writeLine μ (nI i) (nI l)) := by
  obtain ⟨hLd, -⟩ := id hR
  obtain ⟨hL0, hW0, hP0⟩ := id hLd
  obtain ⟨hL, hW, hP⟩ := h.cls hLd
  obtain ⟨h60, io, hr, hm, hc1, hc2, -⟩ := inv_at hL hW0 hi
  obtain ⟨w, w1, w2, w3⟩ := lw_of ν μ hl4
  have ml : f_X12_lineIn μ (nI i) (nI l) = μ0.1 1 (617 + 10 * i + (6 + l)) := by
    unfold f_X12_lineIn
    rw [show (6 : Int32) = nI 6 from rfl, nI_add, show f_X12_ofInvoice μ (nI i) (nI (6 + l)) = μ.1 1 (617 + 10 * i + (6 + l)) from ofInv_eq (by omega) (by omega), h.e1]
  have wl := (hW0.2.2.2.2.2.2.2.2.2.2.2.1 i h60).2.2.2.2.2.2.1 l hl4
  obtain ⟨wl1, wl2⟩ := wl
  obtain ⟨ν1, μ1, l1, x1, x2, x3, x4⟩ := wr_told (c := w) h (D := 8) (by decide) (by decide) (v := (μ0.1 1 (617 + 10 * i + (6 + l))).toInt64) (by rw [ti_l]; show -100000000 < _ ∧ _ < (100000000 : Int); omega) (by omega)
  unfold g_X8_invoiceLine g_X12_writeLine
  rw [asr_pos io, w1, bnd_s, asr_pos (vp_in_nI hl4 (by decide)), cl_nI (by omega), hm l hl4, x1, bnd_s, w2, bnd_s, asr_pos (vp_in_nI h60 (by decide)), asr_pos (vp_in_nI hl4 (by decide)), bnd_s, ml, x2, bnd_s]
  by_cases q : nI l = (3 : Int32)
  · rw [if_pos q, if_pos q]
    obtain ⟨ν2, μ2, l2, y1, y2, y3, y4⟩ := wr_days hR hi x4 (by omega)
    obtain ⟨ν3, μ3, l3, z1, z2, z3, z4⟩ := wr_tail (νa := ν) (μa := μ) hR hi hl4 hb y4 (by omega)
    rw [y1, bnd_s, y2, bnd_s]
    exact ⟨ν3, μ3, l3, z1, z2, by omega, z4⟩
  · rw [if_neg q, if_neg q]
    obtain ⟨ν3, μ3, l3, z1, z2, z3, z4⟩ := wr_tail (νa := ν) (μa := μ) hR hi hl4 hb x4 (by omega)
    exact ⟨ν3, μ3, l3, z1, z2, by omega, z4⟩
theorem iv_loop (hR : RelP N ν0 μ0) (hN : N ≤ 512) (hi : i < cl (μ0.1 1 2)) {νa μa : Mm} : ∀ (d k : Nat), k + d = 4 → ∀ n m, d + 1 ≤ n → d + 1 ≤ m → ∀ {ν μ : Mm} {len : Nat}, OuS ν0 μ0 ν μ len → len + 200 * d + 40 ≤ 1400 → ∃ νf μf lf, g_X8_invoiceSheet_L88 νa (nI i) n ν (7 + (62 + 2 * i)) (nI k) = some νf ∧ g_X12_writeInvoice_L80 μa (nI i) m μ (nI k) = some (nI lf, μf) ∧ OuS ν0 μ0 νf μf lf ∧ lf ≤ 1400 := by
  obtain ⟨hLd, -⟩ := id hR
  obtain ⟨hL0, hW0, hP0⟩ := id hLd
  intro d
  induction d with
  | zero =>
    intro k hk n m hn hm ν μ len h hl
    obtain ⟨n, rfl, -⟩ := succ_n hn
    obtain ⟨m, rfl, -⟩ := succ_n hm
    obtain ⟨hL, hW, hP⟩ := h.cls hLd
    obtain ⟨h60, -⟩ := inv_at hL hW0 hi
    have g : (4 : Int32) ≤ nI k := by rw [le32, nI_toInt (by omega)]; show (4 : Int) ≤ (k : Int); omega
    have hWm : Wf (μ.1 1) := by rw [h.e1]; exact hW0
    have cn := net_of (μ := μ0) hL hW0 hi
    have mn : f_X12_netOf μ (nI i) = f_X12_netOf μ0 (nI i) := Option.some.inj ((net_of (μ := μ) (p := μ0.2.1 3) (by rw [h.e1]; exact hL) hWm (by rw [h.e1]; exact hi)).symm.trans cn)
    have nb := net_b (μ := μ0) hW0 h60
    have t1 : slen 544499054 = 4 := by decide
    have t2 : slen 35658520358688 = 6 := by decide
    obtain ⟨ν1, μ1, l1, x1, x2, x3, x4⟩ := wr_told (c := 544499054) h (D := 8) (by decide) (by decide) (v := (f_X12_netOf μ0 (nI i)).toInt64) (by rw [ti_l]; show -100000000 < _ ∧ _ < (100000000 : Int); omega) (by rw [t1]; omega)
    rw [t1] at x3
    obtain ⟨hL1, hW1, hP1⟩ := x4.cls hLd
    have co := open_of (μ := μ0) hL1 hW0 hP0 hN hi
    have ob := open_b (μ := μ0) hL1 hW0 hP0 hN hi
    have mo : f_X12_openOf μ1 (nI i) = f_X12_openOf μ0 (nI i) := Option.some.inj ((open_of (μ := μ1) (N := N) (by rw [x4.e1, x4.e3]; exact hL1) (by rw [x4.e1]; exact hW0) (by rw [x4.e3]; exact hP0) hN (by rw [x4.e1]; exact hi)).symm.trans co)
    obtain ⟨ν2, μ2, l2, y1, y2, y3, y4⟩ := wr_told (c := 35658520358688) x4 (D := 8) (by decide) (by decide) (v := (f_X12_openOf μ0 (nI i)).toInt64) (by rw [ti_l]; show -100000000 < _ ∧ _ < (100000000 : Int); omega) (by rw [t2]; omega)
    rw [t2] at y3
    obtain ⟨ν3, μ3, l3, z1, z2, z3, z4⟩ := wr_put y4 (by omega) (x := (10 : Int32)) (y := (10 : Int32)) rfl
    refine ⟨ν3, μ3, l3, ?_, ?_, z4, by omega⟩
    · unfold g_X8_invoiceSheet_L88
      rw [if_pos g, cn, bnd_s, x1, bnd_s, co, bnd_s, y1, bnd_s, z1, bnd_s]
    · unfold g_X12_writeInvoice_L80
      rw [if_pos g, asr_pos (okR_of hWm), asr_pos (vp_in_nI h60 (by decide)), bnd_s, mn, x2, bnd_s, asr_pos (show OkR (μ1.1 1) by rw [x4.e1]; exact okR_of hW0), bnd_s, mo, y2, bnd_s, z2, bnd_s, z4.m]
  | succ d ih =>
    intro k hk n m hn hm ν μ len h hl
    obtain ⟨n, rfl, hn2⟩ := succ_n hn
    obtain ⟨m, rfl, hm2⟩ := succ_n hm
    obtain ⟨hL, hW, hP⟩ := h.cls hLd
    obtain ⟨h60, io, hr, -⟩ := inv_at hL hW0 hi
    have g : ¬ (4 : Int32) ≤ nI k := by rw [le32, nI_toInt (by omega)]; show ¬ (4 : Int) ≤ (k : Int); omega
    have m3 : f_X12_ofInvoice μ (nI i) (3 : Int32) = μ0.1 1 (617 + 10 * i + 3) := by rw [show f_X12_ofInvoice μ (nI i) (3 : Int32) = μ.1 1 (617 + 10 * i + 3) from ofInv_eq (k := 3) (by omega) (by decide), h.e1]
    have U : g_X8_invoiceSheet_L88 νa (nI i) (n + 1) ν (7 + (62 + 2 * i)) (nI k) = if f_X12_has (μ0.1 1 (617 + 10 * i + 3)) (nI k) = true then bnd (g_X8_invoiceLine ν (7 + (62 + 2 * i)) (nI k)) (fun q52 => g_X8_invoiceSheet_L88 νa (nI i) n q52 (7 + (62 + 2 * i)) (nI (k + 1))) else g_X8_invoiceSheet_L88 νa (nI i) n ν (7 + (62 + 2 * i)) (nI (k + 1)) := by
      conv => lhs; unfold g_X8_invoiceSheet_L88
      rw [if_neg g, hr 3 (by decide), contains_eq, bnd_s, nI1]
    have V : g_X12_writeInvoice_L80 μa (nI i) (m + 1) μ (nI k) = if f_X12_has (μ0.1 1 (617 + 10 * i + 3)) (nI k) = true then bnd (g_X12_writeLine μ (nI i) (nI k)) (fun q69 => g_X12_writeInvoice_L80 μa (nI i) m q69 (nI (k + 1))) else g_X12_writeInvoice_L80 μa (nI i) m μ (nI (k + 1)) := by
      conv => lhs; unfold g_X12_writeInvoice_L80
      rw [if_neg g, asr_pos (vp_in_nI h60 (by decide)), bnd_s, bnd_s, m3, nI1]
    rw [U, V]
    cases hb : f_X12_has (μ0.1 1 (617 + 10 * i + 3)) (nI k) with
    | true =>
      obtain ⟨ν1, μ1, l1, x1, x2, x3, x4⟩ := wr_line hR hi (l := k) (by omega) hb h (by omega)
      rw [if_pos rfl, if_pos rfl, x1, bnd_s, x2, bnd_s]
      exact ih (k + 1) (by omega) n m hn2 hm2 x4 (by omega)
    | false =>
      rw [if_neg (by decide), if_neg (by decide)]
      exact ih (k + 1) (by omega) n m hn2 hm2 h (by omega)
end IS
theorem s60 : Sm_60 RelP := by
  intro n ν μ hn hR a1
  obtain ⟨hLd, -⟩ := id hR
  obtain ⟨hL, hW, hP⟩ := id hLd
  have e0 := (sh_c hL).2.2.1
  by_cases h : 0 ≤ a1.toInt ∧ a1.toInt < (μ.1 1 2).toInt
  · obtain ⟨i1, i2, i3, i4, i5⟩ := ix_of (hi := 60) h hW.1.2.2.1 (by decide)
    obtain ⟨i, ei⟩ : ∃ i, i = cl a1 := ⟨_, rfl⟩
    rw [← ei] at i1 i2 i4
    have hR0 := hR.th0 0
    have hLd0 : LdW n ν 7 ((uI μ 0 0 0).1 1) ((uI μ 0 0 0).2.1 3) := hLd
    have s0 := OuS.ini ν (uI μ 0 0 0)
    obtain ⟨h60, io, hr, -, hc1, hc2, -⟩ := inv_at hL hW i1
    obtain ⟨w0, w1, -⟩ := hW.2.2.2.2.2.2.2.2.2.2.2.1 i h60
    obtain ⟨w00, w01⟩ := w0
    obtain ⟨w10, w11⟩ := w1
    have t1 : slen 2334381286354218601 = 8 := by decide
    have t2 : slen 35667176878880 = 6 := by decide
    have t3 : slen 35650046878496 = 6 := by decide
    have t4 : slen 35620116325408 = 6 := by decide
    have kl : a1.toInt64.toInt = (i : Int) := by rw [ti_l, i4, nI_toInt (by omega)]
    obtain ⟨ν1, μ1, l1, x1, x2, x3, x4⟩ := wr_told (c := 2334381286354218601) s0 (D := 2) (by decide) (by decide) (v := a1.toInt64) (by rw [kl]; show -100 < (i : Int) ∧ (i : Int) < 100; omega) (by rw [t1]; omega)
    rw [t1] at x3
    obtain ⟨ν2, μ2, l2, y1, y2, y3, y4⟩ := wr_txt (c := 35667176878880) x4 (by rw [t2]; omega)
    rw [t2] at y3
    obtain ⟨hL2, hW2, hP2⟩ := y4.cls hLd0
    have so := shipOf_of (μ := uI μ 0 0 0) hL2 hW i1
    have sb := ship_b (μ := uI μ 0 0 0) hL2 hW i1
    obtain ⟨s1, s2, s3, s4, s5⟩ := ix_of (hi := 8) sb hW.1.1 (by decide)
    have mso : f_X12_shipOf μ2 (nI i) = f_X12_shipOf (uI μ 0 0 0) (nI i) := Option.some.inj ((shipOf_of (μ := μ2) (p := μ.2.1 3) (by rw [y4.e1]; exact hL2) (by rw [y4.e1]; exact hW) (by rw [y4.e1]; exact i1)).symm.trans so)
    have hN := (hL.2.1 _ s1).2.2
    obtain ⟨ν3, μ3, l3, z1, z2, z3, z4⟩ := wr_nm y4 (mk_Ship led7 s2) s2 hN (by omega)
    obtain ⟨hL3, hW3, hP3⟩ := z4.cls hLd0
    have r0 : ν3.1 (7 + (62 + 2 * i)) 1 = μ.1 1 (617 + 10 * i) := (inv_at hL3 hW i1).2.2.1 0 (by decide)
    have m0 : f_X12_ofInvoice μ3 (nI i) (0 : Int32) = μ.1 1 (617 + 10 * i) := by
      rw [show f_X12_ofInvoice μ3 (nI i) (0 : Int32) = μ3.1 1 (617 + 10 * i) from ofInv_eq (k := 0) (by omega) (by decide), z4.e1]
      rfl
    obtain ⟨ν4, μ4, l4, u1, u2, u3, u4⟩ := wr_told (c := 35650046878496) z4 (D := 2) (by decide) (by decide) (v := (μ.1 1 (617 + 10 * i)).toInt64) (by rw [ti_l]; show -100 < _ ∧ _ < (100 : Int); omega) (by rw [t3]; omega)
    rw [t3] at u3
    obtain ⟨hL4, hW4, hP4⟩ := u4.cls hLd0
    have r1 : ν4.1 (7 + (62 + 2 * i)) 2 = μ.1 1 (617 + 10 * i + 1) := (inv_at hL4 hW i1).2.2.1 1 (by decide)
    have m1 : f_X12_ofInvoice μ4 (nI i) (1 : Int32) = μ.1 1 (617 + 10 * i + 1) := by
      rw [show f_X12_ofInvoice μ4 (nI i) (1 : Int32) = μ4.1 1 (617 + 10 * i + 1) from ofInv_eq (k := 1) (by omega) (by decide), u4.e1]
      rfl
    obtain ⟨ν5, μ5, l5, v1, v2, v3, v4⟩ := wr_told (c := 35620116325408) u4 (D := 5) (by decide) (by decide) (v := (μ.1 1 (617 + 10 * i + 1)).toInt64) (by rw [ti_l]; show -100000 < _ ∧ _ < (100000 : Int); omega) (by rw [t4]; omega)
    rw [t4] at v3
    obtain ⟨ν6, μ6, l6, o1, o2, o3, o4⟩ := wr_put v4 (by omega) (x := (10 : Int32)) (y := (10 : Int32)) rfl
    obtain ⟨νf, μf, lf, f1, f2, f3, f4⟩ := iv_loop (νa := ν) (μa := μ) hR0 (by omega) i1 4 0 (by omega) 10000 10000 (by omega) (by omega) o4 (by omega)
    refine wo_ok (v := nI lf) ((f3.rel hR0 f4).mono (Nat.le_succ n)) ?_ ?_ ?_
    · rw [f3.2.2.1 0 (by decide)]
      rfl
    · unfold g_X11_writeInvoice
      rw [rqV, e0, if_pos h, bnd_s, bnx_ok]
      unfold g_X8_invoiceSheet
      rw [asr_pos i3, bnd_s, x1, bnd_s, y1, bnd_s, ← ei, show g_X0_shipOf ν2 a1 = some (f_X12_shipOf (uI μ 0 0 0) (nI i)) from by rw [i4]; exact so, bnd_s, asr_pos s3, z1, bnd_s, r0, u1, bnd_s, r1, v1, bnd_s, o1, bnd_s, show g_X8_invoiceSheet_L88 ν a1 10000 ν6 (7 + (62 + 2 * i)) (0 : Int32) = some νf from by rw [i4]; exact f1, bnd_s, f3.l]
    · unfold g_X12_writeInvoice
      rw [bnd_s, bnd_s, isInv_eq hW, decide_eq_true h, show f_X12_passes μ true = (true, uI μ 0 0 0) from rfl, if_pos rfl, bnd_s]
      rw [show g_X12_writeTold (uI (true, uI μ 0 0 0).2 0 21 0) 2334381286354218601 a1.toInt64 = some μ1 from x2, bnd_s, y2, bnd_s, asr_pos (show OkR (μ2.1 1) by rw [y4.e1]; exact okR_of hW), asr_pos i3, bnd_s, show f_X12_shipOf μ2 a1 = nI (cl (f_X12_shipOf (uI μ 0 0 0) (nI i))) from by rw [i4, mso]; exact s4, z2, bnd_s, bnd_s, show f_X12_ofInvoice μ3 a1 (0 : Int32) = μ.1 1 (617 + 10 * i) from by rw [i4]; exact m0, u2, bnd_s, bnd_s, show f_X12_ofInvoice μ4 a1 (1 : Int32) = μ.1 1 (617 + 10 * i + 1) from by rw [i4]; exact m1, v2, bnd_s, o2, bnd_s, i4]
      exact f2
  · refine wo_er 1 1 hR ?_ ?_ rfl rfl (by decide)
    · unfold g_X11_writeInvoice
      rw [rqV, e0, if_neg h]
      rfl
    · unfold g_X12_writeInvoice
      rw [bnd_s, bnd_s, isInv_eq hW, pz1, decide_eq_false h]
      rfl
