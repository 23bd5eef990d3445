/-! PURE. Billed days. -/
section BD
variable {ν μ : Mm} {p : Nat → Int64}
theorem bd_loop (hL : LdR ν 7 (μ.1 1) p) (hW : Wf (μ.1 1)) {a : Int32} : ∀ (d k : Nat), k + d = cl (μ.1 1 2) → ∀ (n m : Nat), d + 1 ≤ n → d + 1 ≤ m → ∀ x : Int32, g_X0_billedDaysOf_L4 ν a n x (nI k) = some (f_X12_billedDaySet_L4 μ a m x (nI k)) := by
  obtain ⟨c1, c2, c3⟩ := cl_of hW.1.2.2.1
  have e0 : ν.1 7 7 = μ.1 1 2 := (sh_c hL).2.2.1
  intro d
  induction d with
  | zero =>
    intro k hk n m hn1 hm1 x
    obtain ⟨n, rfl, -⟩ := succ_n hn1
    obtain ⟨m, rfl, -⟩ := succ_n hm1
    have g : (μ.1 1 2) ≤ nI k := by rw [le32, nI_toInt (by omega)]; omega
    unfold g_X0_billedDaysOf_L4 f_X12_billedDaySet_L4
    rw [e0, if_pos g, if_pos g]
  | succ d ih =>
    intro k hk n m hn1 hm1 x
    obtain ⟨n, rfl, hn2⟩ := succ_n hn1
    obtain ⟨m, rfl, hm2⟩ := succ_n hm1
    have hlt : k < cl (μ.1 1 2) := by omega
    have g : ¬ (μ.1 1 2) ≤ nI k := by rw [le32, nI_toInt (by omega)]; omega
    obtain ⟨h60, h1, h2, -⟩ := inv_at hL hW hlt
    have w := (hW.2.2.2.2.2.2.2.2.2.2.2.1 k h60).2.2.2.2.2.2.2
    have r0 : ν.1 (7 + (62 + 2 * k)) 1 = μ.1 1 (617 + 10 * k) := h2 0 (by decide)
    have r5 : ν.1 (7 + (62 + 2 * k)) 6 = μ.1 1 (617 + 10 * k + 5) := h2 5 (by decide)
    have o0 : f_X12_ofInvoice μ (nI k) (0 : Int32) = μ.1 1 (617 + 10 * k) := ofInv_eq (k := 0) (by omega) (by decide)
    have o3 : f_X12_ofInvoice μ (nI k) (3 : Int32) = μ.1 1 (617 + 10 * k + 3) := ofInv_eq (k := 3) (by omega) (by decide)
    have o4 : f_X12_ofInvoice μ (nI k) (4 : Int32) = μ.1 1 (617 + 10 * k + 4) := ofInv_eq (k := 4) (by omega) (by decide)
    have o5 : f_X12_ofInvoice μ (nI k) (5 : Int32) = μ.1 1 (617 + 10 * k + 5) := ofInv_eq (k := 5) (by omega) (by decide)
    unfold g_X0_billedDaysOf_L4 f_X12_billedDaySet_L4
    rw [e0, if_neg g, if_neg g, asr_pos (vp_in_nI h60 (by decide)), cl_nI (by omega), r0, r5, o0, o4, o5, nI1]
    have I0 := ih (k + 1) (by omega) n m hn2 hm2 x
    have I1 := ih (k + 1) (by omega) n m hn2 hm2 (x ||| μ.1 1 (617 + 10 * k + 5))
    by_cases q : μ.1 1 (617 + 10 * k) = a
    · rw [if_pos q, if_pos q, stands_of hL hW hlt]
      have es : f_X12_has (f_X12_livingLines μ (nI k)) (3 : Int32) = (f_X12_has (μ.1 1 (617 + 10 * k + 3)) (3 : Int32) && !f_X12_has (μ.1 1 (617 + 10 * k + 4)) (3 : Int32)) := by
        unfold f_X12_livingLines
        rw [o3, o4]
        exact has_andn _ _ (j := 3) (by decide)
      rw [es]
      show (if (f_X12_has (μ.1 1 (617 + 10 * k + 3)) (3 : Int32) && !f_X12_has (μ.1 1 (617 + 10 * k + 4)) (3 : Int32)) = true then _ else _) = _
      cases b4 : f_X12_has (μ.1 1 (617 + 10 * k + 4)) (3 : Int32) with
      | true =>
        rw [if_neg (by rw [Bool.not_true, Bool.and_false]; decide), if_pos rfl, or_zero32]
        exact I0
      | false =>
        cases b3 : f_X12_has (μ.1 1 (617 + 10 * k + 3)) (3 : Int32) with
        | true =>
          rw [if_pos (show (true && !false) = true from rfl), if_neg (by decide)]
          exact I1
        | false =>
          have z : μ.1 1 (617 + 10 * k + 5) = 0 := by
            by_cases w0 : μ.1 1 (617 + 10 * k + 5) = 0
            · exact w0
            · exact absurd ((w w0).symm.trans b3) (by decide)
          rw [if_neg (by decide), if_neg (by decide), z, or_zero32]
          exact I0
    · rw [if_neg q, if_neg q, or_zero32]
      exact I0
theorem bdays_of (hL : LdR ν 7 (μ.1 1) p) (hW : Wf (μ.1 1)) (a : Int32) : g_X0_billedDaysOf ν a = some (f_X12_billedDaySet μ a) := by
  have c3 := (cl_of hW.1.2.2.1).2.2
  exact bd_loop hL hW (cl (μ.1 1 2)) 0 (by omega) 10000 61 (by omega) (by omega) 0
theorem billable_of (hL : LdR ν 7 (μ.1 1) p) (hW : Wf (μ.1 1)) {a : Int32} (ha : 0 ≤ a.toInt ∧ a.toInt < (μ.1 1 1).toInt) : g_X0_billableDaysOf ν a = some (f_X12_billableSet μ a) := by
  unfold g_X0_billableDaysOf
  rw [layDays_of hL hW ha, bnd_s, bdays_of hL hW, bnd_s, asr_pos (call_at hL hW ha).1, cont_of hL hW ha]
  rfl
end BD
