/-! PURE. billedDays, billable. -/
theorem s20 : Sm_20 RelP := by
  intro n ν μ hn hR a1
  obtain ⟨⟨hL, hW, hP⟩, -⟩ := id hR
  have e0 := (sh_c hL).2.1
  by_cases h : 0 ≤ a1.toInt ∧ a1.toInt < (μ.1 1 1).toInt
  · refine ro_ok (v := f_X12_billedDaySet (uI μ 0 0 0) a1) hR ?_ ?_
    · unfold g_X11_billedDays
      rw [rqC, e0, if_pos h]
      show bnd (g_X0_billedDaysOf ν a1) _ = _
      rw [bdays_of (μ := uI μ 0 0 0) hL hW]
      rfl
    · unfold f_X12_billedDays
      rw [isCall_eq hW, pz1, decide_eq_true h]
      rfl
  · refine ro_er 1 1 hR ?_ ?_ rfl rfl (by decide)
    · unfold g_X11_billedDays
      rw [rqC, e0, if_neg h]
      rfl
    · unfold f_X12_billedDays
      rw [isCall_eq hW, pz1, decide_eq_false h]
      rfl
theorem s21 : Sm_21 RelP := by
  intro n ν μ hn hR a1
  obtain ⟨⟨hL, hW, hP⟩, -⟩ := id hR
  have e0 := (sh_c hL).2.1
  by_cases h : 0 ≤ a1.toInt ∧ a1.toInt < (μ.1 1 1).toInt
  · refine ro_ok (v := f_X12_billableSet (uI μ 0 0 0) a1) hR ?_ ?_
    · unfold g_X11_billable
      rw [rqC, e0, if_pos h]
      show bnd (g_X0_billableDaysOf ν a1) _ = _
      rw [billable_of (μ := uI μ 0 0 0) hL hW h]
      rfl
    · unfold f_X12_billable
      rw [isCall_eq hW, pz1, decide_eq_true h]
      rfl
  · refine ro_er 1 1 hR ?_ ?_ rfl rfl (by decide)
    · unfold g_X11_billable
      rw [rqC, e0, if_neg h]
      rfl
    · unfold f_X12_billable
      rw [isCall_eq hW, pz1, decide_eq_false h]
      rfl
