/-! PURE. outputByte. -/
theorem s63 : Sm_63 RelP := by
  intro n ν μ hn hR a1
  obtain ⟨len, l1, l2, l3, l4⟩ := hR.2.2.2.1
  have e2 : (μ.1 0 21).toInt = (len : Int) := by rw [l3, nI_toInt (by omega)]
  have z1 : ((1 : Int32)).toInt = 1 := rfl
  have e1 : f_X12_in a1.toInt64 (0 : Int64) (((μ.1 0 21) - (1 : Int32)).toInt64) = decide (0 ≤ a1.toInt ∧ a1.toInt < (μ.1 0 21).toInt) := by
    rw [inX_eq, ti_l, ti_sub (by rw [e2, z1]; omega) (by rw [e2, z1]; omega), z1]
    show decide (0 ≤ a1.toInt ∧ a1.toInt ≤ (μ.1 0 21).toInt - 1) = _
    congr 1
    exact propext ⟨fun h => by omega, fun h => by omega⟩
  by_cases h : 0 ≤ a1.toInt ∧ a1.toInt < (μ.1 0 21).toInt
  · obtain ⟨c1, c2, c3⟩ := cl_of (x := a1) (hi := (len : Int)) ⟨h.1, by omega⟩
    refine ⟨.ok (μ.1 7 (cl a1)), (μ.1 7 (cl a1), uI μ 0 0 0), ?_, fun k h => (by cases h), ?_, rfl, fun _ _ => rfl, hR.thr 0⟩
    · unfold g_X11_outputByte
      rw [rqI, l2, ← l3, if_pos h]
      show bnd (g_X1_byteAt ν 4 a1) _ = _
      unfold g_X1_byteAt
      rw [asr_pos (show isByt 4 from Or.inr rfl), l2, if_neg (by rw [lt32]; show ¬ a1.toInt < 0; omega), if_neg (by rw [le32, nI_toInt (by omega)]; omega), asr_pos (show vp_in a1 (szB 4) from vp_of h.1 (by show a1.toInt < ((1400 : Nat) : Int); omega) (by decide))]
      exact congrArg (fun x => some (Except.ok x)) (l4 (cl a1) (by omega))
    · unfold g_X12_outputByte
      rw [e1, decide_eq_true h, bnd_s, pz1, bnd_s]
      show asr _ _ = _
      rw [asr_pos (vp_of h.1 (by omega) (by decide))]
      rfl
  · refine ⟨.error 1, (0, uI μ 0 0 1), ?_, fun k h => (by cases h; rfl), ?_, rfl, fun _ g => absurd g (by decide), hR.thr 1⟩
    · unfold g_X11_outputByte
      rw [rqI, l2, ← l3, if_neg h]
      rfl
    · unfold g_X12_outputByte
      rw [e1, decide_eq_false h, bnd_s, pz1]
      rfl
