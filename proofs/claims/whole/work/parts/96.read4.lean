/-! PURE. Readers of calls. -/
section RC
variable {ν μ : Mm} {p : Nat → Int64} {a : Int32}
theorem amount_of (hW : Wf (μ.1 1)) {l : Int32} : lineV μ (cl (μ.1 1 4)) a l (f_X12_rankOf μ a) = f_X12_amountOf μ a l := by
  obtain ⟨v1, v2, v3⟩ := cl_of hW.1.2.2.2.2.1
  unfold lineV f_X12_amountOf
  by_cases q : l = 3
  · rw [if_pos q, if_pos q]
    unfold f_X12_layOf
    rw [show f_X12_ofVersion μ (f_X12_version μ) (11 : Int32) = μ.1 1 (22 + 12 * cl (μ.1 1 4) + 11) from rfl, laySet_v hW]
  · rw [if_neg q, if_neg q]
    unfold f_X12_callLine
    rw [← v1]
    rfl
theorem tot_of (hL : LdR ν 7 (μ.1 1) p) (hW : Wf (μ.1 1)) (ha : 0 ≤ a.toInt ∧ a.toInt < (μ.1 1 1).toInt) (r : Int32) : g_X5_totalAtRank ν 7 a r = some (((lineV μ (cl (μ.1 1 4)) a 0 r + lineV μ (cl (μ.1 1 4)) a 1 r) + lineV μ (cl (μ.1 1 4)) a 2 r) + lineV μ (cl (μ.1 1 4)) a 3 r) := by
  obtain ⟨pe, pt, pT, pv⟩ := present_of hL hW led7
  have step : ∀ (n : Nat) (x : Int32) (j : Nat), j < 4 → g_X5_totalAtRank_L5 ν 7 a r (n + 1) x (nI j) = g_X5_totalAtRank_L5 ν 7 a r n (x + lineV μ (cl (μ.1 1 4)) a (nI j) r) (nI (j + 1)) := by
    intro n x j hj
    have hl : 0 ≤ (nI j).toInt ∧ (nI j).toInt ≤ 3 := by rw [nI_toInt (by omega)]; omega
    conv => lhs; unfold g_X5_totalAtRank_L5
    rw [if_neg (by rw [le32, nI_toInt (by omega)]; show ¬ (4 : Int) ≤ j; omega), pe]
    show asr _ _ = _
    rw [asr_pos pt, line_of hL hW ha pT pt pv hl, nI1]
    rfl
  unfold g_X5_totalAtRank
  rw [asr_pos led7]
  show g_X5_totalAtRank_L5 ν 7 a r (9995 + 1 + 1 + 1 + 1 + 1) 0 (nI 0) = _
  rw [step _ _ 0 (by decide), step _ _ 1 (by decide), step _ _ 2 (by decide), step _ _ 3 (by decide)]
  unfold g_X5_totalAtRank_L5
  rw [if_pos (by decide), Int32.zero_add]
  rfl
theorem total_of (hL : LdR ν 7 (μ.1 1) p) (hW : Wf (μ.1 1)) (ha : 0 ≤ a.toInt ∧ a.toInt < (μ.1 1 1).toInt) : g_X5_totalAtRank ν 7 a (f_X12_rankOf μ a) = some (((f_X12_amountOf μ a 0 + f_X12_amountOf μ a 1) + f_X12_amountOf μ a 2) + f_X12_amountOf μ a 3) := by
  rw [tot_of hL hW ha, amount_of hW, amount_of hW, amount_of hW, amount_of hW]
end RC
theorem s17 : Sm_17 RelP := by
  intro n ν μ hn hR a1
  obtain ⟨⟨hL, hW, hP⟩, -⟩ := id hR
  have e0 := (sh_c hL).2.1
  by_cases h : 0 ≤ a1.toInt ∧ a1.toInt < (μ.1 1 1).toInt
  · refine ro_ok (v := f_X12_laySet (uI μ 0 0 0) a1) hR ?_ ?_
    · unfold g_X11_layDays
      rw [rqC, e0, if_pos h]
      show bnd (g_X5_layDaysOf ν 7 a1) _ = _
      rw [layDays_of (μ := uI μ 0 0 0) hL hW h]
      rfl
    · unfold f_X12_layDays
      rw [isCall_eq hW, pz1, decide_eq_true h]
      rfl
  · refine ro_er 1 1 hR ?_ ?_ rfl rfl (by decide)
    · unfold g_X11_layDays
      rw [rqC, e0, if_neg h]
      rfl
    · unfold f_X12_layDays
      rw [isCall_eq hW, pz1, decide_eq_false h]
      rfl
theorem s23 : Sm_23 RelP := by
  intro n ν μ hn hR a1
  obtain ⟨⟨hL, hW, hP⟩, -⟩ := id hR
  have e0 := (sh_c hL).2.1
  by_cases h : 0 ≤ a1.toInt ∧ a1.toInt < (μ.1 1 1).toInt
  · obtain ⟨c1, c2, c3, c4, c5, c6⟩ := call_at hL hW h
    refine ro_ok (v := f_X12_totalOf (uI μ 0 0 0) a1) hR ?_ ?_
    · unfold g_X11_callTotal
      rw [rqC, e0, if_pos h]
      show asr _ _ = _
      have w4 := (hW.2.2.2.2.2.2.2.2.2.1 (cl a1) (by omega)).2.2.2.2.1
      rw [asr_pos c1, c4 4 (by decide)]
      unfold f_X12_totalOf
      have o4 : f_X12_ofCall (uI μ 0 0 0) a1 (4 : Int32) = μ.1 1 (330 + 7 * cl a1 + 4) := rfl
      rw [o4]
      by_cases q : μ.1 1 (330 + 7 * cl a1 + 4) = 0
      · rw [if_pos q, if_neg (by rw [q]; decide), rankOf_of (μ := uI μ 0 0 0) hL hW h]
        show bnd (g_X5_totalAtRank ν 7 a1 _) _ = _
        rw [total_of (μ := uI μ 0 0 0) hL hW h]
        rfl
      · have q1 : μ.1 1 (330 + 7 * cl a1 + 4) = 1 := by
          rw [eq32] at q ⊢
          have := w4.1
          have := w4.2
          have e0 : ((0 : Int32)).toInt = 0 := rfl
          have e1 : ((1 : Int32)).toInt = 1 := rfl
          omega
        rw [if_neg q, if_pos q1]
    · unfold f_X12_callTotal
      rw [isCall_eq hW, pz1, decide_eq_true h]
      rfl
  · refine ro_er 1 1 hR ?_ ?_ rfl rfl (by decide)
    · unfold g_X11_callTotal
      rw [rqC, e0, if_neg h]
      rfl
    · unfold f_X12_callTotal
      rw [isCall_eq hW, pz1, decide_eq_false h]
      rfl
theorem s22 : Sm_22 RelP := by
  intro n ν μ hn hR a1 a2
  obtain ⟨⟨hL, hW, hP⟩, -⟩ := id hR
  obtain ⟨pe, pt, pT, pv⟩ := present_of hL hW led7
  have e0 := (sh_c hL).2.1
  by_cases h : 0 ≤ a1.toInt ∧ a1.toInt < (μ.1 1 1).toInt
  · by_cases h2 : 0 ≤ a2.toInt ∧ a2.toInt ≤ 3
    · refine ro_ok (v := f_X12_amountOf (uI μ 0 0 0) a1 a2) hR ?_ ?_
      · unfold g_X11_amount
        rw [rqC, e0, if_pos h]
        show bnd (g_X11_requireLine ν a2) _ = _
        rw [rqL, if_pos h2]
        show bnd (g_X5_present ν 7) _ = _
        rw [pe]
        show asr _ _ = _
        rw [asr_pos pt, rankOf_of (μ := uI μ 0 0 0) hL hW h]
        show bnd (g_X5_lineAtRank ν 7 _ a1 a2 _) _ = _
        rw [line_of (μ := uI μ 0 0 0) hL hW h pT pt pv h2]
        exact congrArg (fun x => some (Except.ok x)) (amount_of (μ := uI μ 0 0 0) hW)
      · unfold f_X12_amount
        rw [isCall_eq hW, isLine_eq, pz2, decide_eq_true h, decide_eq_true h2]
        rfl
    · refine ro_er 2 2 hR ?_ ?_ (by simp) rfl (by decide)
      · unfold g_X11_amount
        rw [rqC, e0, if_pos h]
        show bnd (g_X11_requireLine ν a2) _ = _
        rw [rqL, if_neg h2]
        rfl
      · unfold f_X12_amount
        rw [isCall_eq hW, isLine_eq, pz2, decide_eq_true h, decide_eq_false h2]
        rfl
  · refine ro_er 1 1 hR ?_ ?_ (by simp) rfl (by decide)
    · unfold g_X11_amount
      rw [rqC, e0, if_neg h]
      rfl
    · unfold f_X12_amount
      rw [isCall_eq hW, pz2, decide_eq_false h]
      rfl
