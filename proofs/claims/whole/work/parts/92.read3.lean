/-! PURE. Readers of the tariff and of ranks. -/
theorem s10 : Sm_10 RelP := by
  intro n ν μ hn hR a1
  obtain ⟨⟨hL, hW, hP⟩, -⟩ := id hR
  obtain ⟨pe, pt, pT, pv⟩ := present_of hL hW led7
  obtain ⟨v1, v2, v3⟩ := cl_of hW.1.2.2.2.2.1
  by_cases h : 0 ≤ a1.toInt ∧ a1.toInt ≤ 9999
  · refine ro_ok (v := f_X12_bandWith (uI μ 0 0 0) a1) hR ?_ ?_
    · unfold g_X11_bandOf
      rw [rqR]
      show bnd (some (if 0 ≤ a1.toInt ∧ a1.toInt ≤ 9999 then _ else _)) _ = _
      rw [if_pos h]
      show bnd (g_X5_present ν 7) _ = _
      rw [pe]
      show asr _ _ = _
      rw [asr_pos pt]
      show bnd (g_X10_bandWith ν _ a1) _ = _
      rw [band_of (μ := uI μ 0 0 0) hW pT pt h]
      rfl
    · unfold f_X12_bandOf
      rw [isTons_eq, pz1, decide_eq_true h]
      rfl
  · refine ro_er 2 1 hR ?_ ?_ rfl rfl (by decide)
    · unfold g_X11_bandOf
      rw [rqR]
      show bnd (some (if 0 ≤ a1.toInt ∧ a1.toInt ≤ 9999 then _ else _)) _ = _
      rw [if_neg h]
      rfl
    · unfold f_X12_bandOf
      rw [isTons_eq, pz1, decide_eq_false h]
      rfl
theorem s11 : Sm_11 RelP := by
  intro n ν μ hn hR a1
  obtain ⟨⟨hL, hW, hP⟩, -⟩ := id hR
  obtain ⟨pe, pt, pT, pv⟩ := present_of hL hW led7
  obtain ⟨v1, v2, v3⟩ := cl_of hW.1.2.2.2.2.1
  by_cases h : 0 ≤ a1.toInt ∧ a1.toInt ≤ 9999
  · refine ro_ok (v := f_X12_duesOf (uI μ 0 0 0) a1 (f_X12_version (uI μ 0 0 0))) hR ?_ ?_
    · unfold g_X11_dues
      rw [rqR]
      show bnd (some (if 0 ≤ a1.toInt ∧ a1.toInt ≤ 9999 then _ else _)) _ = _
      rw [if_pos h]
      show bnd (g_X5_present ν 7) _ = _
      rw [pe]
      show asr _ _ = _
      rw [asr_pos pt]
      show bnd (g_X10_duesFor ν _ a1) _ = _
      rw [dues_of (μ := uI μ 0 0 0) hW pT pt v1 (by omega) h]
      rfl
    · unfold f_X12_dues
      rw [isTons_eq, pz1, decide_eq_true h]
      rfl
  · refine ro_er 2 1 hR ?_ ?_ rfl rfl (by decide)
    · unfold g_X11_dues
      rw [rqR]
      show bnd (some (if 0 ≤ a1.toInt ∧ a1.toInt ≤ 9999 then _ else _)) _ = _
      rw [if_neg h]
      rfl
    · unfold f_X12_dues
      rw [isTons_eq, pz1, decide_eq_false h]
      rfl
theorem s13 : Sm_13 RelP := by
  intro n ν μ hn hR a1
  obtain ⟨⟨hL, hW, hP⟩, -⟩ := id hR
  obtain ⟨pe, pt, pT, pv⟩ := present_of hL hW led7
  obtain ⟨v1, v2, v3⟩ := cl_of hW.1.2.2.2.2.1
  by_cases h : 0 ≤ a1.toInt ∧ a1.toInt ≤ 999
  · refine ro_ok (v := f_X12_feeOf (uI μ 0 0 0) a1) hR ?_ ?_
    · unfold g_X11_wasteFee
      rw [rqR]
      show bnd (some (if 0 ≤ a1.toInt ∧ a1.toInt ≤ 999 then _ else _)) _ = _
      rw [if_pos h]
      show bnd (g_X5_present ν 7) _ = _
      rw [pe]
      show asr _ _ = _
      rw [asr_pos pt]
      show bnd (g_X10_wasteFeeFor ν _ a1) _ = _
      rw [fee_of (μ := uI μ 0 0 0) pT pt a1]
      rfl
    · unfold f_X12_wasteFee
      rw [isWaste_eq, pz1, decide_eq_true h]
      rfl
  · refine ro_er 2 1 hR ?_ ?_ rfl rfl (by decide)
    · unfold g_X11_wasteFee
      rw [rqR]
      show bnd (some (if 0 ≤ a1.toInt ∧ a1.toInt ≤ 999 then _ else _)) _ = _
      rw [if_neg h]
      rfl
    · unfold f_X12_wasteFee
      rw [isWaste_eq, pz1, decide_eq_false h]
      rfl
theorem s7 : Sm_7 RelP := by
  intro n ν μ hn hR a1
  obtain ⟨⟨hL, hW, hP⟩, -⟩ := id hR
  obtain ⟨pe, pt, pT, pv⟩ := present_of hL hW led7
  obtain ⟨v1, v2, v3⟩ := cl_of hW.1.2.2.2.2.1
  by_cases h : 0 ≤ a1.toInt ∧ a1.toInt ≤ 5
  · refine ro_ok (v := if (4 : Int32) ≤ a1 then f_X12_ofVersion (uI μ 0 0 0) (f_X12_version (uI μ 0 0 0)) (((10 : Int32) + a1) - (4 : Int32)) else μ.1 1 (8 + cl a1)) hR ?_ ?_
    · unfold g_X11_tariff
      rw [rqR]
      show bnd (some (if 0 ≤ a1.toInt ∧ a1.toInt ≤ 5 then _ else _)) _ = _
      rw [if_pos h]
      show bnd (g_X5_present ν 7) _ = _
      rw [pe]
      show asr _ _ = _
      rw [asr_pos pt]
      obtain ⟨j, hj, ej, cj⟩ := sm_of (hi := 5) h (by decide)
      obtain ⟨-, -, t6, t7, t8, t9, t10, t11⟩ := pT.1
      have h8 := hW.1.2.2.2.2.2.2.2.2.1
      rw [cj, ej]
      have eV : ∀ w : Nat, w < 100 → f_X12_ofVersion (uI μ 0 0 0) (f_X12_version (uI μ 0 0 0)) (nI w) = μ.1 1 (22 + 12 * cl (μ.1 1 4) + w) := fun w hw => ofV_eq (μ := uI μ 0 0 0) v1 (by omega) rfl (by omega)
      match j, hj with
      | 0, _ =>
        rw [if_neg (show ¬ (4 : Int32) ≤ nI 0 by decide)]
        show (if (ν.1 _ 6) = 0 then _ else _) = _
        rw [t6]
        by_cases q : μ.1 1 8 = 0
        · rw [if_pos q]
          exact congrArg (fun x => some (Except.ok x)) q.symm
        · rw [if_neg q]
          refine congrArg (fun x => some (Except.ok x)) ?_
          rw [eq32] at q ⊢
          have := h8.1
          have := h8.2
          have e0 : ((0 : Int32)).toInt = 0 := rfl
          have e1 : ((1 : Int32)).toInt = 1 := rfl
          show (1 : Int32).toInt = (μ.1 1 8).toInt
          omega
      | 1, _ => rw [if_neg (show ¬ (4 : Int32) ≤ nI 1 by decide)]; exact congrArg (fun x => some (Except.ok x)) t7
      | 2, _ => rw [if_neg (show ¬ (4 : Int32) ≤ nI 2 by decide)]; exact congrArg (fun x => some (Except.ok x)) t8
      | 3, _ => rw [if_neg (show ¬ (4 : Int32) ≤ nI 3 by decide)]; exact congrArg (fun x => some (Except.ok x)) t9
      | 4, _ => rw [if_pos (show (4 : Int32) ≤ nI 4 by decide)]; exact congrArg (fun x => some (Except.ok x)) (t10.trans (eV 10 (by decide)).symm)
      | 5, _ => rw [if_pos (show (4 : Int32) ≤ nI 5 by decide)]; exact congrArg (fun x => some (Except.ok x)) (t11.trans (eV 11 (by decide)).symm)
      | j + 6, g => exact absurd g (by omega)
    · unfold f_X12_tariff
      rw [(show f_X12_in a1.toInt64 (0 : Int64) (5 : Int64) = decide (0 ≤ a1.toInt ∧ a1.toInt ≤ 5) from inX_eq), pz1, decide_eq_true h]
      split
      · rename_i q
        simp only [if_true] at *
        split
        · rfl
        · rfl
      · rename_i q
        exact absurd rfl q
  · refine ro_er 2 1 hR ?_ ?_ rfl rfl (by decide)
    · unfold g_X11_tariff
      rw [rqR]
      show bnd (some (if 0 ≤ a1.toInt ∧ a1.toInt ≤ 5 then _ else _)) _ = _
      rw [if_neg h]
      rfl
    · unfold f_X12_tariff
      rw [(show f_X12_in a1.toInt64 (0 : Int64) (5 : Int64) = decide (0 ≤ a1.toInt ∧ a1.toInt ≤ 5) from inX_eq), pz1, decide_eq_false h]
      rfl
theorem s15 : Sm_15 RelP := by
  intro n ν μ hn hR a1 a2
  obtain ⟨⟨hL, hW, hP⟩, -⟩ := id hR
  obtain ⟨pe, pt, pT, pv⟩ := present_of hL hW led7
  obtain ⟨v1, v2, v3⟩ := cl_of hW.1.2.2.2.2.1
  have e0 : ν.1 7 5 = μ.1 1 0 := by first | exact (sh_c hL).1 | exact (sh_c hL).2.1 | exact (sh_c hL).2.2.1 | exact pT.1.1 | exact pT.1.2.1
  by_cases h : 0 ≤ a1.toInt ∧ a1.toInt < (μ.1 1 0).toInt
  · obtain ⟨i1, i2, i3, i4, i5⟩ := ix_of (hi := 8) h hW.1.1 (by decide)
    by_cases h2 : 0 ≤ a2.toInt ∧ a2.toInt ≤ 9
    · refine ro_ok (v := f_X12_callsIn (uI μ 0 0 0) a1 a2) hR ?_ ?_
      · unfold g_X11_calls
        rw [rqS, e0, if_pos h]
        show bnd (g_X11_requireRange ν a2 (0 : Int32) (9 : Int32)) _ = _
        rw [rqR]
        show bnd (some (if 0 ≤ a2.toInt ∧ a2.toInt ≤ 9 then _ else _)) _ = _
        rw [if_pos h2]
        show bnd (g_X5_callsInYear ν 7 a1 a2) _ = _
        rw [callsIn_of (μ := uI μ 0 0 0) hL hW h2.1 (by have := h2.2; omega)]
        rfl
      · unfold f_X12_calls
        rw [isShip_eq hW, isYear_eq, pz2, decide_eq_true h, decide_eq_true h2]
        rfl
    · refine ro_er 2 2 hR ?_ ?_ (by simp) rfl (by decide)
      · unfold g_X11_calls
        rw [rqS, e0, if_pos h]
        show bnd (g_X11_requireRange ν a2 (0 : Int32) (9 : Int32)) _ = _
        rw [rqR]
        show bnd (some (if 0 ≤ a2.toInt ∧ a2.toInt ≤ 9 then _ else _)) _ = _
        rw [if_neg h2]
        rfl
      · unfold f_X12_calls
        rw [isShip_eq hW, isYear_eq, pz2, decide_eq_true h, decide_eq_false h2]
        rfl
  · refine ro_er 1 1 hR ?_ ?_ (by simp) rfl (by decide)
    · unfold g_X11_calls
      rw [rqS, e0, if_neg h]
      rfl
    · unfold f_X12_calls
      rw [isShip_eq hW, pz2, decide_eq_false h]
      rfl
theorem s8 : Sm_8 RelP := by
  intro n ν μ hn hR a1 a2
  obtain ⟨⟨hL, hW, hP⟩, -⟩ := id hR
  obtain ⟨pe, pt, pT, pv⟩ := present_of hL hW led7
  obtain ⟨v1, v2, v3⟩ := cl_of hW.1.2.2.2.2.1
  have e0 : ν.1 _ 4 = μ.1 1 6 := pT.1.1
  by_cases h : 0 ≤ a1.toInt ∧ a1.toInt < (μ.1 1 6).toInt
  · obtain ⟨i1, i2, i3, i4, i5⟩ := ix_of (hi := 6) h hW.1.2.2.2.2.2.2.1 (by decide)
    by_cases h2 : 0 ≤ a2.toInt ∧ a2.toInt ≤ 1
    · refine ro_ok (v := if a2 = 0 then μ.1 1 (12 + cl a1) else f_X12_ofVersion (uI μ 0 0 0) (f_X12_version (uI μ 0 0 0)) ((0 : Int32) + a1)) hR ?_ ?_
      · unfold g_X11_band
        rw [pe]
        show asr _ _ = _
        rw [asr_pos pt]
        show bnd (g_X11_requireIndex ν a1 _) _ = _
        rw [rqI, e0, if_pos h]
        show bnd (g_X11_requireRange ν a2 (0 : Int32) (1 : Int32)) _ = _
        rw [rqR]
        show bnd (some (if 0 ≤ a2.toInt ∧ a2.toInt ≤ 1 then _ else _)) _ = _
        rw [if_pos h2]
        obtain ⟨j, hj, ej, cj⟩ := sm_of (hi := 1) h2 (by decide)
        have hB := pT.2.1 (cl a1) i1
        have eV : f_X12_ofVersion (uI μ 0 0 0) (f_X12_version (uI μ 0 0 0)) ((0 : Int32) + a1) = μ.1 1 (22 + 12 * cl (μ.1 1 4) + (0 + cl a1)) := ofV_eq (μ := uI μ 0 0 0) v1 (by omega) (by rw [i4, show (0 : Int32) = nI 0 from rfl, nI_add, cl_nI (by omega)]) (by omega)
        try rw [Nat.zero_add] at eV
        rw [ej]
        match j, hj with
        | 0, _ => rw [if_pos (show nI 0 = 0 from rfl)]; show asr _ _ = _; rw [asr_pos i3]; exact congrArg (fun x => some (Except.ok x)) hB.1
        | 1, _ => rw [if_neg (show ¬ nI 1 = 0 by decide)]; show asr _ _ = _; rw [asr_pos i3]; exact congrArg (fun x => some (Except.ok x)) (hB.2.trans eV.symm)
        | j + 2, g => exact absurd g (by omega)
      · unfold f_X12_band
        rw [isBand_eq hW, (show f_X12_in a2.toInt64 (0 : Int64) (1 : Int64) = decide (0 ≤ a2.toInt ∧ a2.toInt ≤ 1) from inX_eq), pz2, decide_eq_true h, decide_eq_true h2]
        show (if a2 = 0 then _ else _) = _
        split
        · rfl
        · rfl
    · refine ro_er 2 2 hR ?_ ?_ (by simp) rfl (by decide)
      · unfold g_X11_band
        rw [pe]
        show asr _ _ = _
        rw [asr_pos pt]
        show bnd (g_X11_requireIndex ν a1 _) _ = _
        rw [rqI, e0, if_pos h]
        show bnd (g_X11_requireRange ν a2 (0 : Int32) (1 : Int32)) _ = _
        rw [rqR]
        show bnd (some (if 0 ≤ a2.toInt ∧ a2.toInt ≤ 1 then _ else _)) _ = _
        rw [if_neg h2]
        rfl
      · unfold f_X12_band
        rw [isBand_eq hW, (show f_X12_in a2.toInt64 (0 : Int64) (1 : Int64) = decide (0 ≤ a2.toInt ∧ a2.toInt ≤ 1) from inX_eq), pz2, decide_eq_true h, decide_eq_false h2]
        rfl
  · refine ro_er 1 1 hR ?_ ?_ (by simp) rfl (by decide)
    · unfold g_X11_band
      rw [pe]
      show asr _ _ = _
      rw [asr_pos pt]
      show bnd (g_X11_requireIndex ν a1 _) _ = _
      rw [rqI, e0, if_neg h]
      rfl
    · unfold f_X12_band
      rw [isBand_eq hW, pz2, decide_eq_false h]
      rfl
theorem s9 : Sm_9 RelP := by
  intro n ν μ hn hR a1 a2
  obtain ⟨⟨hL, hW, hP⟩, -⟩ := id hR
  obtain ⟨pe, pt, pT, pv⟩ := present_of hL hW led7
  obtain ⟨v1, v2, v3⟩ := cl_of hW.1.2.2.2.2.1
  have e0 : ν.1 _ 5 = μ.1 1 7 := pT.1.2.1
  by_cases h : 0 ≤ a1.toInt ∧ a1.toInt < (μ.1 1 7).toInt
  · obtain ⟨i1, i2, i3, i4, i5⟩ := ix_of (hi := 4) h hW.1.2.2.2.2.2.2.2.1 (by decide)
    by_cases h2 : 0 ≤ a2.toInt ∧ a2.toInt ≤ 1
    · refine ro_ok (v := if a2 = 0 then μ.1 1 (18 + cl a1) else f_X12_ofVersion (uI μ 0 0 0) (f_X12_version (uI μ 0 0 0)) ((6 : Int32) + a1)) hR ?_ ?_
      · unfold g_X11_rebate
        rw [pe]
        show asr _ _ = _
        rw [asr_pos pt]
        show bnd (g_X11_requireIndex ν a1 _) _ = _
        rw [rqI, e0, if_pos h]
        show bnd (g_X11_requireRange ν a2 (0 : Int32) (1 : Int32)) _ = _
        rw [rqR]
        show bnd (some (if 0 ≤ a2.toInt ∧ a2.toInt ≤ 1 then _ else _)) _ = _
        rw [if_pos h2]
        obtain ⟨j, hj, ej, cj⟩ := sm_of (hi := 1) h2 (by decide)
        have hB := pT.2.2 (cl a1) i1
        have eV : f_X12_ofVersion (uI μ 0 0 0) (f_X12_version (uI μ 0 0 0)) ((6 : Int32) + a1) = μ.1 1 (22 + 12 * cl (μ.1 1 4) + (6 + cl a1)) := ofV_eq (μ := uI μ 0 0 0) v1 (by omega) (by rw [i4, show (6 : Int32) = nI 6 from rfl, nI_add, cl_nI (by omega)]) (by omega)
        try rw [Nat.zero_add] at eV
        rw [ej]
        match j, hj with
        | 0, _ => rw [if_pos (show nI 0 = 0 from rfl)]; show asr _ _ = _; rw [asr_pos i3]; exact congrArg (fun x => some (Except.ok x)) hB.1
        | 1, _ => rw [if_neg (show ¬ nI 1 = 0 by decide)]; show asr _ _ = _; rw [asr_pos i3]; exact congrArg (fun x => some (Except.ok x)) (hB.2.trans eV.symm)
        | j + 2, g => exact absurd g (by omega)
      · unfold f_X12_rebate
        rw [isReb_eq hW, (show f_X12_in a2.toInt64 (0 : Int64) (1 : Int64) = decide (0 ≤ a2.toInt ∧ a2.toInt ≤ 1) from inX_eq), pz2, decide_eq_true h, decide_eq_true h2]
        show (if a2 = 0 then _ else _) = _
        split
        · rfl
        · rfl
    · refine ro_er 2 2 hR ?_ ?_ (by simp) rfl (by decide)
      · unfold g_X11_rebate
        rw [pe]
        show asr _ _ = _
        rw [asr_pos pt]
        show bnd (g_X11_requireIndex ν a1 _) _ = _
        rw [rqI, e0, if_pos h]
        show bnd (g_X11_requireRange ν a2 (0 : Int32) (1 : Int32)) _ = _
        rw [rqR]
        show bnd (some (if 0 ≤ a2.toInt ∧ a2.toInt ≤ 1 then _ else _)) _ = _
        rw [if_neg h2]
        rfl
      · unfold f_X12_rebate
        rw [isReb_eq hW, (show f_X12_in a2.toInt64 (0 : Int64) (1 : Int64) = decide (0 ≤ a2.toInt ∧ a2.toInt ≤ 1) from inX_eq), pz2, decide_eq_true h, decide_eq_false h2]
        rfl
  · refine ro_er 1 1 hR ?_ ?_ (by simp) rfl (by decide)
    · unfold g_X11_rebate
      rw [pe]
      show asr _ _ = _
      rw [asr_pos pt]
      show bnd (g_X11_requireIndex ν a1 _) _ = _
      rw [rqI, e0, if_neg h]
      rfl
    · unfold f_X12_rebate
      rw [isReb_eq hW, pz2, decide_eq_false h]
      rfl
theorem s12 : Sm_12 RelP := by
  intro n ν μ hn hR a1 a2
  obtain ⟨⟨hL, hW, hP⟩, -⟩ := id hR
  obtain ⟨pe, pt, pT, pv⟩ := present_of hL hW led7
  obtain ⟨v1, v2, v3⟩ := cl_of hW.1.2.2.2.2.1
  have e0 : ν.1 _ 4 = μ.1 1 6 := pT.1.1
  by_cases h : 0 ≤ a2.toInt ∧ a2.toInt < (μ.1 1 6).toInt
  · obtain ⟨i1, i2, i3, i4, i5⟩ := ix_of (hi := 6) h hW.1.2.2.2.2.2.2.1 (by decide)
    by_cases h2 : 0 ≤ a1.toInt ∧ a1.toInt ≤ 9999
    · refine ro_ok (v := f_X12_inBand (uI μ 0 0 0) a1 a2) hR ?_ ?_
      · unfold g_X11_tonsIn
        rw [pe]
        show asr _ _ = _
        rw [asr_pos pt]
        show bnd (g_X11_requireIndex ν a2 _) _ = _
        rw [rqI, e0, if_pos h]
        show bnd (g_X11_requireRange ν a1 (0 : Int32) (9999 : Int32)) _ = _
        rw [rqR]
        show bnd (some (if 0 ≤ a1.toInt ∧ a1.toInt ≤ 9999 then _ else _)) _ = _
        rw [if_pos h2]
        show asr _ _ = _
        rw [asr_pos pt]
        show bnd (g_X10_tonsWithin ν _ a1 a2) _ = _
        have := tonsIn_of (μ := uI μ 0 0 0) (t := a1) hW pT pt i1
        rw [← i4] at this
        rw [this]
        rfl
      · unfold f_X12_tonsIn
        rw [isBand_eq hW, isTons_eq, pz2, decide_eq_true h, decide_eq_true h2]
        rfl
    · refine ro_er 2 2 hR ?_ ?_ (by simp) rfl (by decide)
      · unfold g_X11_tonsIn
        rw [pe]
        show asr _ _ = _
        rw [asr_pos pt]
        show bnd (g_X11_requireIndex ν a2 _) _ = _
        rw [rqI, e0, if_pos h]
        show bnd (g_X11_requireRange ν a1 (0 : Int32) (9999 : Int32)) _ = _
        rw [rqR]
        show bnd (some (if 0 ≤ a1.toInt ∧ a1.toInt ≤ 9999 then _ else _)) _ = _
        rw [if_neg h2]
        rfl
      · unfold f_X12_tonsIn
        rw [isBand_eq hW, isTons_eq, pz2, decide_eq_true h, decide_eq_false h2]
        rfl
  · refine ro_er 1 1 hR ?_ ?_ (by simp) rfl (by decide)
    · unfold g_X11_tonsIn
      rw [pe]
      show asr _ _ = _
      rw [asr_pos pt]
      show bnd (g_X11_requireIndex ν a2 _) _ = _
      rw [rqI, e0, if_neg h]
      rfl
    · unfold f_X12_tonsIn
      rw [isBand_eq hW, pz2, decide_eq_false h]
      rfl
