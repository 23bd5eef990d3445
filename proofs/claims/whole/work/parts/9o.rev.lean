/-! PURE. revenue, rebates, quote. -/
section RV
variable {ν μ : Mm} {p : Nat → Int64}
theorem rev_loop (hL : LdR ν 7 (μ.1 1) p) (hW : Wf (μ.1 1)) {a1 : Int32} {l : Nat} (hl : l < 4) : ∀ (d k : Nat), k + d = cl (μ.1 1 2) → ∀ (n m : Nat), d + 1 ≤ n → d + 1 ≤ m → ∀ x : Int64, ∃ y, g_X11_revenue_L16 ν a1 (nI l) n x (nI k) = some (.ok y) ∧ f_X12_revenue_L33 μ a1 (nI l) m x (nI k) = (y, uI μ 0 0 0) := by
  have e : (f_X12_passes μ true).2 = uI μ 0 0 0 := rfl
  obtain ⟨c1, c2, c3⟩ := cl_of hW.1.2.2.1
  have e0 : ν.1 7 7 = μ.1 1 2 := (sh_c hL).2.2.1
  intro d
  induction d with
  | zero =>
    intro k hk n m hn1 hm1 x
    obtain ⟨n, rfl, -⟩ := succ_n hn1
    obtain ⟨m, rfl, -⟩ := succ_n hm1
    have g : (μ.1 1 2) ≤ nI k := by rw [le32, nI_toInt (by omega)]; omega
    refine ⟨x, ?_, ?_⟩
    · unfold g_X11_revenue_L16
      rw [e0, if_pos g]
    · unfold f_X12_revenue_L33
      rw [e]
      exact if_pos g
  | succ d ih =>
    intro k hk n m hn1 hm1 x
    obtain ⟨n, rfl, hn2⟩ := succ_n hn1
    obtain ⟨m, rfl, hm2⟩ := succ_n hm1
    have hlt : k < cl (μ.1 1 2) := by omega
    have g : ¬ (μ.1 1 2) ≤ nI k := by rw [le32, nI_toInt (by omega)]; omega
    obtain ⟨h60, h1, h2, h3, h4, h5, -⟩ := inv_at hL hW hlt
    have hc : 0 ≤ (μ.1 1 (617 + 10 * k)).toInt ∧ (μ.1 1 (617 + 10 * k)).toInt < (μ.1 1 1).toInt := ⟨h5, h4⟩
    obtain ⟨d1, d2, d3, d4, -⟩ := call_at hL hW hc
    have st := stands_of (μ := uI μ 0 0 0) hL hW hlt (nI l)
    have r0 : ν.1 (7 + (62 + 2 * k)) 1 = μ.1 1 (617 + 10 * k) := h2 0 (by decide)
    have o0 : f_X12_ofInvoice (uI μ 0 0 0) (nI k) (0 : Int32) = μ.1 1 (617 + 10 * k) := ofInv_eq (μ := uI μ 0 0 0) (k := 0) (by omega) (by decide)
    have yo : f_X12_yearOf (uI μ 0 0 0) (μ.1 1 (617 + 10 * k)) = μ.1 1 (330 + 7 * cl (μ.1 1 (617 + 10 * k)) + 1) / (360 : Int32) := rfl
    have yc : g_X2_year ν (7 + (22 + cl (μ.1 1 (617 + 10 * k)))) = some (μ.1 1 (330 + 7 * cl (μ.1 1 (617 + 10 * k)) + 1) / (360 : Int32)) := by
      unfold g_X2_year
      rw [asr_pos d3, d4 1 (by decide)]
    have li : f_X12_lineIn (uI μ 0 0 0) (nI k) (nI l) = μ.1 1 (617 + 10 * k + (6 + l)) := by
      unfold f_X12_lineIn
      rw [show (6 : Int32) = nI 6 from rfl, nI_add]
      exact ofInv_eq (μ := uI μ 0 0 0) (by omega) (by omega)
    by_cases q : f_X12_has (f_X12_livingLines (uI μ 0 0 0) (nI k)) (nI l) = true
    · by_cases q2 : μ.1 1 (330 + 7 * cl (μ.1 1 (617 + 10 * k)) + 1) / (360 : Int32) = a1
      · obtain ⟨y, g1, g2⟩ := ih (k + 1) (by omega) n m hn2 hm2 (x + (μ.1 1 (617 + 10 * k + (6 + l))).toInt64)
        refine ⟨y, ?_, ?_⟩
        · unfold g_X11_revenue_L16
          rw [e0, if_neg g, asr_pos (vp_in_nI h60 (by decide)), cl_nI (show k < 2 ^ 31 by omega), st, bnd_s, if_pos q, r0, asr_pos d1, yc, bnd_s, if_pos q2, asr_pos (vp_in_nI hl (by decide)), cl_nI (show l < 2 ^ 31 by omega), h3 l hl, nI1]
          exact g1
        · unfold f_X12_revenue_L33
          rw [e, o0, yo, if_pos q2, if_pos q, li, nI1]
          exact (if_neg g).trans g2
      · obtain ⟨y, g1, g2⟩ := ih (k + 1) (by omega) n m hn2 hm2 x
        refine ⟨y, ?_, ?_⟩
        · unfold g_X11_revenue_L16
          rw [e0, if_neg g, asr_pos (vp_in_nI h60 (by decide)), cl_nI (show k < 2 ^ 31 by omega), st, bnd_s, if_pos q, r0, asr_pos d1, yc, bnd_s, if_neg q2, nI1]
          exact g1
        · unfold f_X12_revenue_L33
          rw [e, o0, yo, if_neg q2, add0L, nI1]
          exact (if_neg g).trans g2
    · obtain ⟨y, g1, g2⟩ := ih (k + 1) (by omega) n m hn2 hm2 x
      refine ⟨y, ?_, ?_⟩
      · unfold g_X11_revenue_L16
        rw [e0, if_neg g, asr_pos (vp_in_nI h60 (by decide)), cl_nI (show k < 2 ^ 31 by omega), st, bnd_s, if_neg q, nI1]
        exact g1
      · unfold f_X12_revenue_L33
        rw [e, o0, yo, if_neg q, add0L, nI1, ite_self]
        exact (if_neg g).trans g2
theorem reb_loop (hL : LdR ν 7 (μ.1 1) p) (hW : Wf (μ.1 1)) {a1 a2 : Int32} (e : (f_X12_passes2 μ (f_X12_isShip μ a1) (f_X12_isYear a2)).2 = uI μ 0 0 0) : ∀ (d k : Nat), k + d = cl (μ.1 1 1) → ∀ (n m : Nat), d + 1 ≤ n → d + 1 ≤ m → ∀ x : Int64, ∃ y, g_X11_rebates_L17 ν a1 a2 n x (nI k) = some (.ok y) ∧ f_X12_rebates_L23 μ a1 a2 m x (nI k) = (y, uI μ 0 0 0) := by
  obtain ⟨pe, pt, pT, pv⟩ := present_of hL hW led7
  obtain ⟨c1, c2, c3⟩ := cl_of hW.1.2.1
  have e0 : ν.1 7 6 = μ.1 1 1 := (sh_c hL).2.1
  intro d
  induction d with
  | zero =>
    intro k hk n m hn1 hm1 x
    obtain ⟨n, rfl, -⟩ := succ_n hn1
    obtain ⟨m, rfl, -⟩ := succ_n hm1
    have g : (μ.1 1 1) ≤ nI k := by rw [le32, nI_toInt (by omega)]; omega
    refine ⟨x, ?_, ?_⟩
    · unfold g_X11_rebates_L17
      rw [e0, if_pos g]
    · unfold f_X12_rebates_L23
      rw [e]
      exact if_pos g
  | succ d ih =>
    intro k hk n m hn1 hm1 x
    obtain ⟨n, rfl, hn2⟩ := succ_n hn1
    obtain ⟨m, rfl, hm2⟩ := succ_n hm1
    have hlt : k < cl (μ.1 1 1) := by omega
    have g : ¬ (μ.1 1 1) ≤ nI k := by rw [le32, nI_toInt (by omega)]; omega
    have hc : 0 ≤ (nI k).toInt ∧ (nI k).toInt < (μ.1 1 1).toInt := by rw [nI_toInt (by omega)]; omega
    obtain ⟨d1, d2, d3, d4, -⟩ := call_at hL hW hc
    have o0 : f_X12_ofCall (uI μ 0 0 0) (nI k) (0 : Int32) = μ.1 1 (330 + 7 * k) := ofCall_eq (μ := uI μ 0 0 0) (k := 0) (by omega) (by decide)
    have yo : f_X12_yearOf (uI μ 0 0 0) (nI k) = μ.1 1 (330 + 7 * k + 1) / (360 : Int32) := by
      unfold f_X12_yearOf
      rw [show f_X12_ofCall (uI μ 0 0 0) (nI k) (1 : Int32) = μ.1 1 (330 + 7 * k + 1) from ofCall_eq (μ := uI μ 0 0 0) (k := 1) (by omega) (by decide)]
    have ec : cl (nI k) = k := cl_nI (by omega)
    have yc : g_X2_year ν (7 + (22 + k)) = some (μ.1 1 (330 + 7 * k + 1) / (360 : Int32)) := by
      unfold g_X2_year
      rw [ec] at d3
      rw [asr_pos d3, call_row hL hlt (k := 1) (by decide)]
    have r0 : ν.1 (7 + (22 + k)) 0 = μ.1 1 (330 + 7 * k) := call_row hL hlt (k := 0) (by decide)
    have ln : g_X5_lineAtRank ν 7 (7 + (222 + 5 * cl (μ.1 1 4))) (nI k) 1 (f_X12_rankOf (uI μ 0 0 0) (nI k)) = some (f_X12_amountOf (uI μ 0 0 0) (nI k) 1) := (line_of (μ := uI μ 0 0 0) (l := 1) (r := f_X12_rankOf (uI μ 0 0 0) (nI k)) hL hW hc pT pt pv (by decide)).trans (congrArg some (amount_of (μ := uI μ 0 0 0) hW))
    by_cases q : μ.1 1 (330 + 7 * k) = a1
    · by_cases q2 : μ.1 1 (330 + 7 * k + 1) / (360 : Int32) = a2
      · obtain ⟨y, g1, g2⟩ := ih (k + 1) (by omega) n m hn2 hm2 (x + (f_X12_amountOf (uI μ 0 0 0) (nI k) 1).toInt64)
        refine ⟨y, ?_, ?_⟩
        · unfold g_X11_rebates_L17
          rw [e0, if_neg g, asr_pos d1, ec, r0, if_pos q, yc, bnd_s, if_pos q2, pe, bnd_s, asr_pos pt, rankOf_of (μ := uI μ 0 0 0) hL hW hc, bnd_s, ln, bnd_s, nI1]
          exact g1
        · unfold f_X12_rebates_L23
          rw [e, o0, yo, if_pos q, if_pos q2, nI1]
          exact (if_neg g).trans g2
      · obtain ⟨y, g1, g2⟩ := ih (k + 1) (by omega) n m hn2 hm2 x
        refine ⟨y, ?_, ?_⟩
        · unfold g_X11_rebates_L17
          rw [e0, if_neg g, asr_pos d1, ec, r0, if_pos q, yc, bnd_s, if_neg q2, nI1]
          exact g1
        · unfold f_X12_rebates_L23
          rw [e, o0, yo, if_pos q, if_neg q2, nI1, add0L]
          exact (if_neg g).trans g2
    · obtain ⟨y, g1, g2⟩ := ih (k + 1) (by omega) n m hn2 hm2 x
      refine ⟨y, ?_, ?_⟩
      · unfold g_X11_rebates_L17
        rw [e0, if_neg g, asr_pos d1, ec, r0, if_neg q, nI1]
        exact g1
      · unfold f_X12_rebates_L23
        rw [e, o0, yo, if_neg q, nI1, add0L]
        exact (if_neg g).trans g2
end RV
theorem s37 : Sm_37 RelP := by
  intro n ν μ hn hR a1 a2
  obtain ⟨⟨hL, hW, hP⟩, -⟩ := id hR
  have c3 := (cl_of hW.1.2.2.1).2.2
  by_cases h : 0 ≤ a1.toInt ∧ a1.toInt ≤ 9
  · by_cases h2 : 0 ≤ a2.toInt ∧ a2.toInt ≤ 3
    · obtain ⟨j, hj, ej, cj⟩ := sm_of (hi := 3) h2 (by decide)
      obtain ⟨y, y1, y2⟩ := rev_loop (a1 := a1) (l := j) hL hW (by omega) (cl (μ.1 1 2)) 0 (by omega) 10000 61 (by omega) (by omega) 0
      rw [← ej] at y1 y2
      refine rl_ok (v := y) hR ?_ ?_
      · unfold g_X11_revenue
        rw [rqR]
        show bnd (some (if 0 ≤ a1.toInt ∧ a1.toInt ≤ 9 then _ else _)) _ = _
        rw [if_pos h, bnd_s, bnx_ok, rqL, if_pos h2, bnd_s, bnx_ok]
        exact y1
      · unfold f_X12_revenue
        rw [isYear_eq, isLine_eq, decide_eq_true h, decide_eq_true h2, if_pos rfl, if_pos rfl]
        exact y2
    · refine rl_er 2 1 hR ?_ ?_ rfl rfl (by decide)
      · unfold g_X11_revenue
        rw [rqR]
        show bnd (some (if 0 ≤ a1.toInt ∧ a1.toInt ≤ 9 then _ else _)) _ = _
        rw [if_pos h, bnd_s, bnx_ok, rqL, if_neg h2]
        rfl
      · unfold f_X12_revenue
        rw [isYear_eq, isLine_eq, decide_eq_true h, decide_eq_false h2]
        rfl
  · refine rl_er 2 1 hR ?_ ?_ rfl rfl (by decide)
    · unfold g_X11_revenue
      rw [rqR]
      show bnd (some (if 0 ≤ a1.toInt ∧ a1.toInt ≤ 9 then _ else _)) _ = _
      rw [if_neg h]
      rfl
    · unfold f_X12_revenue
      rw [isYear_eq, decide_eq_false h]
      rfl
theorem s38 : Sm_38 RelP := by
  intro n ν μ hn hR a1 a2
  obtain ⟨⟨hL, hW, hP⟩, -⟩ := id hR
  have e0 := (sh_c hL).1
  have c3 := (cl_of hW.1.2.1).2.2
  by_cases h : 0 ≤ a1.toInt ∧ a1.toInt < (μ.1 1 0).toInt
  · by_cases h2 : 0 ≤ a2.toInt ∧ a2.toInt ≤ 9
    · have ep : (f_X12_passes2 μ (f_X12_isShip μ a1) (f_X12_isYear a2)) = (true, uI μ 0 0 0) := by rw [isShip_eq hW, isYear_eq, decide_eq_true h, decide_eq_true h2, pz2]; rfl
      obtain ⟨y, y1, y2⟩ := reb_loop (a1 := a1) (a2 := a2) hL hW (by rw [ep]) (cl (μ.1 1 1)) 0 (by omega) 10000 42 (by omega) (by omega) 0
      refine rl_ok (v := y) hR ?_ ?_
      · unfold g_X11_rebates
        rw [rqS, e0, if_pos h, bnd_s, bnx_ok, rqR]
        show bnd (some (if 0 ≤ a2.toInt ∧ a2.toInt ≤ 9 then _ else _)) _ = _
        rw [if_pos h2, bnd_s, bnx_ok]
        exact y1
      · unfold f_X12_rebates
        rw [ep, if_pos rfl]
        exact y2
    · refine rl_er 2 2 hR ?_ ?_ (by simp) rfl (by decide)
      · unfold g_X11_rebates
        rw [rqS, e0, if_pos h, bnd_s, bnx_ok, rqR]
        show bnd (some (if 0 ≤ a2.toInt ∧ a2.toInt ≤ 9 then _ else _)) _ = _
        rw [if_neg h2]
        rfl
      · unfold f_X12_rebates
        rw [isShip_eq hW, isYear_eq, decide_eq_true h, decide_eq_false h2, pz2]
        rfl
  · refine rl_er 1 1 hR ?_ ?_ (by simp) rfl (by decide)
    · unfold g_X11_rebates
      rw [rqS, e0, if_neg h]
      rfl
    · unfold f_X12_rebates
      rw [isShip_eq hW, pz2, decide_eq_false h]
      rfl
/-! a stay -/
def Stay (a2 a3 a4 : Int32) : Prop := (0 ≤ a2.toInt ∧ a2.toInt ≤ 3599) ∧ (a2.toInt ≤ a3.toInt ∧ a3.toInt ≤ a2.toInt + 29) ∧ (0 ≤ a4.toInt ∧ a4.toInt ≤ 999)
theorem rqY (ν : Mm) (a2 a3 a4 : Int32) : (Stay a2 a3 a4 → g_X11_requireStay ν a2 a3 a4 = some (.ok ())) ∧ (¬ Stay a2 a3 a4 → g_X11_requireStay ν a2 a3 a4 = some (.error 2)) := by
  have z1 : ((1 : Int32)).toInt = 1 := rfl
  have z3 : ((30 : Int32)).toInt = 30 := rfl
  unfold g_X11_requireStay Stay
  rw [rqR]
  show (_ → bnd (some (if 0 ≤ a2.toInt ∧ a2.toInt ≤ 3599 then _ else _)) _ = _) ∧ (_ → bnd (some (if 0 ≤ a2.toInt ∧ a2.toInt ≤ 3599 then _ else _)) _ = _)
  by_cases h1 : 0 ≤ a2.toInt ∧ a2.toInt ≤ 3599
  · rw [if_pos h1, bnd_s, bnx_ok, rqR]
    have e1 : ((a2 + (30 : Int32)) - (1 : Int32)).toInt = a2.toInt + 29 := by
      rw [ti_sub (by rw [ti_add (by omega) (by omega)]; omega) (by rw [ti_add (by omega) (by omega)]; omega), ti_add (by omega) (by omega)]
      omega
    rw [e1]
    by_cases h2 : a2.toInt ≤ a3.toInt ∧ a3.toInt ≤ a2.toInt + 29
    · rw [if_pos h2, bnd_s, bnx_ok, rqR]
      show (_ → bnd (some (if 0 ≤ a4.toInt ∧ a4.toInt ≤ 999 then _ else _)) _ = _) ∧ (_ → bnd (some (if 0 ≤ a4.toInt ∧ a4.toInt ≤ 999 then _ else _)) _ = _)
      by_cases h3 : 0 ≤ a4.toInt ∧ a4.toInt ≤ 999
      · rw [if_pos h3]
        exact ⟨fun _ => rfl, fun h => absurd ⟨h1, h2, h3⟩ h⟩
      · rw [if_neg h3]
        exact ⟨fun h => absurd h.2.2 h3, fun _ => rfl⟩
    · rw [if_neg h2]
      exact ⟨fun h => absurd h.2.1 h2, fun _ => rfl⟩
  · rw [if_neg h1]
    exact ⟨fun h => absurd h.1 h1, fun _ => rfl⟩
theorem areDays_eq (a2 a3 : Int32) : f_X12_areDays a2 a3 = decide ((0 ≤ a2.toInt ∧ a2.toInt ≤ 3599) ∧ (a2.toInt ≤ a3.toInt ∧ a3.toInt ≤ a2.toInt + 29)) := by
  have z2 : ((29 : Int32)).toInt = 29 := rfl
  unfold f_X12_areDays
  rw [show f_X12_in a2.toInt64 (0 : Int64) (3599 : Int64) = decide (0 ≤ a2.toInt ∧ a2.toInt ≤ 3599) from inX_eq]
  by_cases h1 : 0 ≤ a2.toInt ∧ a2.toInt ≤ 3599
  · rw [decide_eq_true h1, if_pos rfl, inX_eq, ti_l, ti_l, ti_add (by omega) (by omega), z2]
    by_cases h2 : a2.toInt ≤ a3.toInt ∧ a3.toInt ≤ a2.toInt + 29
    · rw [decide_eq_true h2, decide_eq_true ⟨h1, h2⟩]
      rfl
    · rw [decide_eq_false h2, decide_eq_false (fun h => h2 h.2)]
      rfl
  · rw [decide_eq_false h1, decide_eq_false (fun h => h1 h.1)]
    rfl
/-- the days of a stay -/
theorem stay_days {a2 a3 a4 : Int32} (h : Stay a2 a3 a4) : ∃ k, k ≤ 30 ∧ (a3 - a2) + (1 : Int32) = nI k := by
  obtain ⟨h1, h2, h3⟩ := h
  have z1 : ((1 : Int32)).toInt = 1 := rfl
  have e1 : (a3 - a2).toInt = a3.toInt - a2.toInt := ti_sub (by omega) (by omega)
  have e2 : ((a3 - a2) + (1 : Int32)).toInt = a3.toInt - a2.toInt + 1 := by
    rw [ti_add (by rw [e1, z1]; omega) (by rw [e1, z1]; omega), e1, z1]
  obtain ⟨c1, c2, c3⟩ := cl_of (x := (a3 - a2) + (1 : Int32)) (hi := 30) ⟨by rw [e2]; omega, by rw [e2]; omega⟩
  exact ⟨_, by omega, c1⟩
theorem qt_loop {ν μ : Mm} {a1 a2 a3 a4 r s : Int32} {v : Nat} (hO : OkR (μ.1 1)) (h1 : vp_in a1 8) (hv : μ.1 1 4 = nI v) (hv2 : v < 21) : g_X12_quote_L76 ν a1 a2 a3 a4 10000 μ r s (0 : Int32) = some ((((s + f_X12_lineOf μ (f_X12_ofShip μ a1 0) r a4 0 (nI v)) + f_X12_lineOf μ (f_X12_ofShip μ a1 0) r a4 1 (nI v)) + f_X12_lineOf μ (f_X12_ofShip μ a1 0) r a4 2 (nI v)), μ) := by
  have step : ∀ (n : Nat) (x : Int32) (j : Nat), j < 3 → g_X12_quote_L76 ν a1 a2 a3 a4 (n + 1) μ r x (nI j) = g_X12_quote_L76 ν a1 a2 a3 a4 n μ r (x + f_X12_lineOf μ (f_X12_ofShip μ a1 0) r a4 (nI j) (nI v)) (nI (j + 1)) := by
    intro n x j hj
    conv => lhs; unfold g_X12_quote_L76
    rw [if_neg (by rw [le32, nI_toInt (by omega)]; show ¬ (3 : Int) ≤ j; omega), asr_pos h1, bnd_s, bnd_s, asr_pos hO, show f_X12_version μ = nI v from hv, asr_pos (vp_in_nI hv2 (by decide)), bnd_s, nI1]
  show g_X12_quote_L76 ν a1 a2 a3 a4 (9996 + 1 + 1 + 1 + 1) μ r s (nI 0) = _
  rw [step _ _ 0 (by decide), step _ _ 1 (by decide), step _ _ 2 (by decide)]
  unfold g_X12_quote_L76
  rw [if_pos (by decide)]
  rfl
theorem s39 : Sm_39 RelP := by
  intro n ν μ hn hR a1 a2 a3 a4
  obtain ⟨⟨hL, hW, hP⟩, -⟩ := id hR
  obtain ⟨pe, pt, pT, pv⟩ := present_of hL hW led7
  obtain ⟨v1, v2, v3⟩ := cl_of hW.1.2.2.2.2.1
  have e0 := (sh_c hL).1
  have c3 := (cl_of hW.1.2.1).2.2
  by_cases h : 0 ≤ a1.toInt ∧ a1.toInt < (μ.1 1 0).toInt
  · obtain ⟨i1, i2, i3, i4, i5⟩ := ix_of (hi := 8) h hW.1.1 (by decide)
    by_cases h2 : Stay a2 a3 a4
    · obtain ⟨k, hk, ek⟩ := stay_days h2
      obtain ⟨j, hj, ej⟩ := free_at (v := cl (μ.1 1 4)) hW pv
      obtain ⟨⟨s1, s2⟩, ⟨s3, s4⟩, s5⟩ := id h2
      obtain ⟨y, y1, y2⟩ := rankWith_of (μ := uI μ 0 0 0) (s := a1) (day := a2) (num := (40 : Int32)) hL hW s1 (by omega) (fun c hc e => by
        have hc2 : c < cl (μ.1 1 1) := hc
        have e5 : (nI c).toInt = ((40 : Int32)).toInt := by rw [e]
        rw [nI_toInt (by omega)] at e5
        have e6 : ((40 : Int32)).toInt = 40 := rfl
        omega)
      have hsh := hL.2.1 _ i1
      have ht0 := hW.2.2.2.2.2.2.2.2.1 (cl a1) i2
      have hd := dues_of (μ := uI μ 0 0 0) (a4 := nI (cl (μ.1 1 4))) hW pT pt rfl (by omega) ht0
      have hp := percent_of (μ := uI μ 0 0 0) (a4 := nI (cl (μ.1 1 4))) hW pT pt rfl (by omega) (1 + y)
      have lay := lay_eq (ν := ν) pt (pT.1.2.2.2.2.2.2.1.trans ej) hj ek hk
      refine ⟨.ok (f_X12_layOf (uI μ 0 0 0) (f_X12_daysFrom (nI j) (nI k)) (nI (cl (μ.1 1 4))) + f_X12_lineOf (uI μ 0 0 0) (f_X12_ofShip (uI μ 0 0 0) a1 0) (1 + y) a4 0 (nI (cl (μ.1 1 4))) + f_X12_lineOf (uI μ 0 0 0) (f_X12_ofShip (uI μ 0 0 0) a1 0) (1 + y) a4 1 (nI (cl (μ.1 1 4))) + f_X12_lineOf (uI μ 0 0 0) (f_X12_ofShip (uI μ 0 0 0) a1 0) (1 + y) a4 2 (nI (cl (μ.1 1 4)))), ((f_X12_layOf (uI μ 0 0 0) (f_X12_daysFrom (nI j) (nI k)) (nI (cl (μ.1 1 4))) + f_X12_lineOf (uI μ 0 0 0) (f_X12_ofShip (uI μ 0 0 0) a1 0) (1 + y) a4 0 (nI (cl (μ.1 1 4))) + f_X12_lineOf (uI μ 0 0 0) (f_X12_ofShip (uI μ 0 0 0) a1 0) (1 + y) a4 1 (nI (cl (μ.1 1 4))) + f_X12_lineOf (uI μ 0 0 0) (f_X12_ofShip (uI μ 0 0 0) a1 0) (1 + y) a4 2 (nI (cl (μ.1 1 4)))), uI μ 0 0 0), ?_, fun k h => (by cases h), ?_, rfl, fun _ _ => rfl, hR.thr 0⟩
      · unfold g_X11_quote
        rw [rqS, e0, if_pos h, bnd_s, bnx_ok, (rqY ν a2 a3 a4).1 h2, bnd_s, bnx_ok, pe, bnd_s, asr_pos pt, asr_pos i3, lay, bnd_s, bitCount_eq, bnd_s, y1, bnd_s, hsh.1, hd, bnd_s]
        unfold g_X10_rebateFor
        rw [asr_pos pt, hd, bnd_s, hp, bnd_s, bnd_s, fee_of (μ := uI μ 0 0 0) pT pt a4, bnd_s, pT.1.2.2.2.2.2.2.2]
        refine congrArg (fun x => some (Except.ok x)) ?_
        show _ = (f_X12_bits (f_X12_daysFrom (nI j) (nI k)) * f_X12_ofVersion (uI μ 0 0 0) (nI (cl (μ.1 1 4))) (11 : Int32) + f_X12_duesOf (uI μ 0 0 0) (μ.1 1 (274 + 7 * cl a1)) (nI (cl (μ.1 1 4))) + -(f_X12_duesOf (uI μ 0 0 0) (μ.1 1 (274 + 7 * cl a1)) (nI (cl (μ.1 1 4))) * f_X12_percentOf (uI μ 0 0 0) (1 + y) (nI (cl (μ.1 1 4))) / (100 : Int32)) + f_X12_feeOf (uI μ 0 0 0) a4)
        rw [show f_X12_ofVersion (uI μ 0 0 0) (nI (cl (μ.1 1 4))) (11 : Int32) = μ.1 1 (22 + 12 * cl (μ.1 1 4) + 11) from ofV_eq (μ := uI μ 0 0 0) rfl (by omega) rfl (by decide), Int32.mul_comm (μ.1 1 (22 + 12 * cl (μ.1 1 4) + 11))]
        rw [Int32.add_comm _ (f_X12_bits (f_X12_daysFrom (nI j) (nI k)) * μ.1 1 (22 + 12 * cl (μ.1 1 4) + 11)), ← Int32.add_assoc, ← Int32.add_assoc]
      · unfold g_X12_quote
        rw [bnd_s, bnd_s, areDays_eq, decide_eq_true ⟨h2.1, h2.2.1⟩, if_pos rfl, bnd_s, isWaste_eq, decide_eq_true h2.2.2, if_pos rfl]
        unfold g_X12_quote_J27
        rw [bnd_s, isShip_eq hW, decide_eq_true h, show f_X12_passes2 μ true true = (true, uI μ 0 0 0) from rfl, if_pos rfl]
        dsimp only
        rw [asr_pos (show OkR ((uI μ 0 0 0).1 1) from okR_of hW), bnd_s, bnd_s, show f_X12_version (uI μ 0 0 0) = nI (cl (μ.1 1 4)) from v1, asr_pos (vp_in_nI pv (by decide)), bnd_s, show f_X12_ofVersion (uI μ 0 0 0) (nI (cl (μ.1 1 4))) (10 : Int32) = nI j from (ofV_eq (μ := uI μ 0 0 0) rfl (by omega) rfl (by decide)).trans ej, asr_pos (vp_in_nI (by omega) (by decide)), ek, asr_pos (vp_in_nI (by omega) (by decide)), bnd_s, bnd_s, asr_pos (vp_in_nI pv (by decide)), bnd_s]
        show g_X12_quote_L76 μ a1 a2 a3 a4 10000 (uI μ 0 0 0) (f_X12_rankWith (uI μ 0 0 0) a1 a2 (40 : Int32)) _ (0 : Int32) = _
        rw [y2, qt_loop (μ := uI μ 0 0 0) (v := cl (μ.1 1 4)) (okR_of hW) i3 v1 pv]
    · refine ⟨.error 2, (0, uI μ 0 0 2), ?_, fun k h => (by cases h; exact Or.inr rfl), ?_, rfl, fun _ g => absurd g (by decide), hR.thr 2⟩
      · unfold g_X11_quote
        rw [rqS, e0, if_pos h, bnd_s, bnx_ok, (rqY ν a2 a3 a4).2 h2]
        rfl
      · unfold g_X12_quote
        rw [bnd_s, bnd_s, areDays_eq, isShip_eq hW, decide_eq_true h, isWaste_eq]
        by_cases h3 : (0 ≤ a2.toInt ∧ a2.toInt ≤ 3599) ∧ (a2.toInt ≤ a3.toInt ∧ a3.toInt ≤ a2.toInt + 29)
        · rw [decide_eq_true h3, if_pos rfl, bnd_s, decide_eq_false (fun z => h2 ⟨h3.1, h3.2, z⟩)]
          rfl
        · rw [decide_eq_false h3]
          rfl
  · refine ⟨.error 1, (0, uI μ 0 0 1), ?_, fun k h => (by cases h; exact Or.inl rfl), ?_, rfl, fun _ g => absurd g (by decide), hR.thr 1⟩
    · unfold g_X11_quote
      rw [rqS, e0, if_neg h]
      rfl
    · unfold g_X12_quote
      rw [bnd_s, bnd_s, isShip_eq hW, decide_eq_false h]
      cases f_X12_areDays a2 a3 with
      | true =>
        rw [if_pos rfl, bnd_s]
        cases f_X12_isWaste a4 <;> rfl
      | false => rfl
