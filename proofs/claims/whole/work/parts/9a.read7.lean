/-! PURE. What a call tells. -/
theorem s16 : Sm_16 RelP := by
  intro n ν μ hn hR a1 a2
  obtain ⟨⟨hL, hW, hP⟩, -⟩ := id hR
  obtain ⟨pe, pt, pT, pv⟩ := present_of hL hW led7
  obtain ⟨v1, v2, v3⟩ := cl_of hW.1.2.2.2.2.1
  have e0 := (sh_c hL).2.1
  by_cases h : 0 ≤ a1.toInt ∧ a1.toInt < (μ.1 1 1).toInt
  · obtain ⟨c1, c2, c3, c4, c5, c6⟩ := call_at hL hW h
    have w4 := (hW.2.2.2.2.2.2.2.2.2.1 (cl a1) (by omega)).2.2.2.2.1
    by_cases h2 : 0 ≤ a2.toInt ∧ a2.toInt ≤ 7
    · refine ro_ok (v := if a2 = 5 then f_X12_rankOf (uI μ 0 0 0) a1 else if a2 = 6 then f_X12_percentOf (uI μ 0 0 0) (f_X12_rankOf (uI μ 0 0 0) a1) (f_X12_version (uI μ 0 0 0)) else if a2 = 7 then f_X12_billedSet (uI μ 0 0 0) a1 else μ.1 1 (330 + 7 * cl a1 + cl a2)) hR ?_ ?_
      · unfold g_X11_call
        rw [rqC, e0, if_pos h]
        show bnd (g_X11_requireRange ν a2 (0 : Int32) (7 : Int32)) _ = _
        rw [rqR]
        show bnd (some (if 0 ≤ a2.toInt ∧ a2.toInt ≤ 7 then _ else _)) _ = _
        rw [if_pos h2]
        show asr _ _ = _
        rw [asr_pos c1]
        obtain ⟨j, hj, ej, cj⟩ := sm_of (hi := 7) h2 (by decide)
        rw [cj, ej]
        match j, hj with
        | 0, _ => exact congrArg (fun x => some (Except.ok x)) (c4 0 (by decide))
        | 1, _ => exact congrArg (fun x => some (Except.ok x)) (c4 1 (by decide))
        | 2, _ => exact congrArg (fun x => some (Except.ok x)) (c4 2 (by decide))
        | 3, _ => exact congrArg (fun x => some (Except.ok x)) (c4 3 (by decide))
        | 4, _ =>
          show (if ν.1 (7 + (22 + cl a1)) 4 = 0 then _ else _) = _
          rw [c4 4 (by decide)]
          by_cases q : μ.1 1 (330 + 7 * cl a1 + 4) = 0
          · rw [if_pos q]
            exact congrArg (fun x => some (Except.ok x)) q.symm
          · rw [if_neg q]
            refine congrArg (fun x => some (Except.ok x)) ?_
            show (1 : Int32) = μ.1 1 (330 + 7 * cl a1 + 4)
            rw [eq32] at q ⊢
            have := w4.1
            have := w4.2
            have z0 : ((0 : Int32)).toInt = 0 := rfl
            have z1 : ((1 : Int32)).toInt = 1 := rfl
            omega
        | 5, _ =>
          show bnd (g_X5_rankOf ν 7 a1) _ = _
          rw [rankOf_of (μ := uI μ 0 0 0) hL hW h]
          rfl
        | 6, _ =>
          show bnd (g_X5_present ν 7) _ = _
          rw [pe]
          show asr _ _ = _
          rw [asr_pos pt, rankOf_of (μ := uI μ 0 0 0) hL hW h]
          show bnd (g_X10_percentAt ν _ _) _ = _
          rw [percent_of (μ := uI μ 0 0 0) (a4 := f_X12_version (uI μ 0 0 0)) hW pT pt v1 (by omega)]
          rfl
        | 7, _ =>
          show bnd (g_X0_billedLinesOf ν a1) _ = _
          rw [billed_of (μ := uI μ 0 0 0) hL hW]
          rfl
        | j + 8, g => exact absurd g (by omega)
      · unfold f_X12_call
        rw [isCall_eq hW, (show f_X12_in a2.toInt64 (0 : Int64) (7 : Int64) = decide (0 ≤ a2.toInt ∧ a2.toInt ≤ 7) from inX_eq), pz2, decide_eq_true h, decide_eq_true h2]
        show (if a2 = 5 then _ else if a2 = 6 then _ else if a2 = 7 then _ else _) = _
        split
        · rfl
        · split
          · rfl
          · split
            · rfl
            · rfl
    · refine ro_er 2 2 hR ?_ ?_ (by simp) rfl (by decide)
      · unfold g_X11_call
        rw [rqC, e0, if_pos h]
        show bnd (g_X11_requireRange ν a2 (0 : Int32) (7 : Int32)) _ = _
        rw [rqR]
        show bnd (some (if 0 ≤ a2.toInt ∧ a2.toInt ≤ 7 then _ else _)) _ = _
        rw [if_neg h2]
        rfl
      · unfold f_X12_call
        rw [isCall_eq hW, (show f_X12_in a2.toInt64 (0 : Int64) (7 : Int64) = decide (0 ≤ a2.toInt ∧ a2.toInt ≤ 7) from inX_eq), pz2, decide_eq_true h, decide_eq_false h2]
        rfl
  · refine ro_er 1 1 hR ?_ ?_ (by simp) rfl (by decide)
    · unfold g_X11_call
      rw [rqC, e0, if_neg h]
      rfl
    · unfold f_X12_call
      rw [isCall_eq hW, pz2, decide_eq_false h]
      rfl
