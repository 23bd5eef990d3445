/-! PURE. rebuilt. -/
theorem s28 : Sm_28 RelP := by
  intro n ν μ hn hR a1 a2
  obtain ⟨⟨hL, hW, hP⟩, -⟩ := id hR
  have e0 := (sh_c hL).2.2.1
  by_cases h : 0 ≤ a1.toInt ∧ a1.toInt < (μ.1 1 2).toInt
  · obtain ⟨i1, i2, i3, i4, i5⟩ := ix_of (hi := 60) h hW.1.2.2.1 (by decide)
    by_cases h2 : 0 ≤ a2.toInt ∧ a2.toInt ≤ 3
    · have rb := rebuilt_of (μ := uI μ 0 0 0) hL hW i1 h2
      rw [← i4] at rb
      refine ro_ok (v := f_X12_rebuiltOf (uI μ 0 0 0) a1 a2) hR ?_ ?_
      · unfold g_X11_rebuilt
        rw [rqV, e0, if_pos h]
        show bnd (g_X11_requireLine ν a2) _ = _
        rw [rqL, if_pos h2]
        show asr _ _ = _
        rw [asr_pos i3, rb]
        rfl
      · unfold f_X12_rebuilt
        rw [isInv_eq hW, isLine_eq, pz2, decide_eq_true h, decide_eq_true h2]
        rfl
    · refine ro_er 2 2 hR ?_ ?_ (by simp) rfl (by decide)
      · unfold g_X11_rebuilt
        rw [rqV, e0, if_pos h]
        show bnd (g_X11_requireLine ν a2) _ = _
        rw [rqL, if_neg h2]
        rfl
      · unfold f_X12_rebuilt
        rw [isInv_eq hW, isLine_eq, pz2, decide_eq_true h, decide_eq_false h2]
        rfl
  · refine ro_er 1 1 hR ?_ ?_ (by simp) rfl (by decide)
    · unfold g_X11_rebuilt
      rw [rqV, e0, if_neg h]
      rfl
    · unfold f_X12_rebuilt
      rw [isInv_eq hW, pz2, decide_eq_false h]
      rfl
