/-! PURE. contested. -/
theorem s31 : Sm_31 RelP := by
  intro n ν μ hn hR a1
  obtain ⟨⟨hL, hW, hP⟩, -⟩ := id hR
  have e0 := (sh_c hL).2.2.1
  by_cases h : 0 ≤ a1.toInt ∧ a1.toInt < (μ.1 1 2).toInt
  · obtain ⟨i1, i2, i3, i4, i5⟩ := ix_of (hi := 60) h hW.1.2.2.1 (by decide)
    obtain ⟨h60, h1, h2, -, h3, h4, -⟩ := inv_at hL hW i1
    have hc : 0 ≤ (μ.1 1 (617 + 10 * cl a1)).toInt ∧ (μ.1 1 (617 + 10 * cl a1)).toInt < (μ.1 1 1).toInt := ⟨h4, h3⟩
    have st := stands_of (μ := uI μ 0 0 0) hL hW i1 (3 : Int32)
    rw [← i4] at st
    refine ro_ok (v := if f_X12_has (f_X12_livingLines (uI μ 0 0 0) a1) (3 : Int32) = true then f_X12_bits (μ.1 1 (617 + 10 * cl a1 + 5) &&& f_X12_contestedSet (uI μ 0 0 0) (μ.1 1 (617 + 10 * cl a1))) else 0) hR ?_ ?_
    · unfold g_X11_contested
      rw [rqV, e0, if_pos h]
      show asr _ _ = _
      rw [asr_pos i3, st, bnd_s]
      split
      · rw [show ν.1 (7 + (62 + 2 * cl a1)) 1 = μ.1 1 (617 + 10 * cl a1) from h2 0 (by decide), asr_pos (call_at hL hW hc).1, cont_of (μ := uI μ 0 0 0) hL hW hc, bnd_s, bitCount_eq, h2 5 (by decide)]
        rfl
      · rfl
    · unfold f_X12_contested
      rw [isInv_eq hW, pz1, decide_eq_true h]
      show (if f_X12_has (f_X12_livingLines (uI μ 0 0 0) a1) (3 : Int32) = true then _ else _) = _
      split
      · rfl
      · rfl
  · refine ro_er 1 1 hR ?_ ?_ rfl rfl (by decide)
    · unfold g_X11_contested
      rw [rqV, e0, if_neg h]
      rfl
    · unfold f_X12_contested
      rw [isInv_eq hW, pz1, decide_eq_false h]
      rfl
