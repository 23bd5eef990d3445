/-! PURE. Invoices. -/
/-- what the lines of a set, below j, make -/
def sm4 (f : Nat → Int32) (i : Nat) (s : Int32) : Nat → Int32
  | 0 => 0
  | j + 1 => if f_X12_has s (nI j) = true then sm4 f i s j + f (617 + 10 * i + (6 + j)) else sm4 f i s j
section IV
variable {ν μ : Mm} {p : Nat → Int64}
theorem inv_at (hL : LdR ν 7 (μ.1 1) p) (hW : Wf (μ.1 1)) {i : Nat} (hi : i < cl (μ.1 1 2)) : i < 60 ∧ isInv (7 + (62 + 2 * i)) ∧ (∀ k, k < 6 → ν.1 (7 + (62 + 2 * i)) (k + 1) = μ.1 1 (617 + 10 * i + k)) ∧ (∀ l, l < 4 → ν.1 (7 + (62 + 2 * i) + 1) l = μ.1 1 (617 + 10 * i + (6 + l))) ∧ (μ.1 1 (617 + 10 * i)).toInt < (μ.1 1 1).toInt ∧ 0 ≤ (μ.1 1 (617 + 10 * i)).toInt ∧ (μ.1 1 (617 + 10 * i + 2)).toInt ≤ (μ.1 1 4).toInt := by
  have c3 := (cl_of hW.1.2.2.1).2.2
  have h60 : i < 60 := by omega
  obtain ⟨w1, w2⟩ := hW.2.2.2.2.2.2.2.2.2.2.2.2 i hi
  exact ⟨h60, ⟨7, i, led7, h60, rfl⟩, (hL.2.2.2.1 i hi).1, (hL.2.2.2.1 i hi).2, w1, (hW.2.2.2.2.2.2.2.2.2.2.2.1 i h60).1.1, w2⟩
theorem ofInv_eq {i k : Nat} (hi : i < 2 ^ 31) (hk : k < 2 ^ 31) : f_X12_ofInvoice μ (nI i) (nI k) = μ.1 1 (617 + 10 * i + k) := by
  unfold f_X12_ofInvoice
  rw [cl_nI hi, cl_nI hk]
theorem standing_of (hL : LdR ν 7 (μ.1 1) p) (hW : Wf (μ.1 1)) {i : Nat} (hi : i < cl (μ.1 1 2)) : g_X4_standing ν (7 + (62 + 2 * i)) = some (f_X12_livingLines μ (nI i)) := by
  obtain ⟨h60, h1, h2, -⟩ := inv_at hL hW hi
  unfold g_X4_standing f_X12_livingLines
  rw [asr_pos h1, h2 3 (by decide), h2 4 (by decide), show f_X12_ofInvoice μ (nI i) (3 : Int32) = μ.1 1 (617 + 10 * i + 3) from ofInv_eq (k := 3) (by omega) (by decide), show f_X12_ofInvoice μ (nI i) (4 : Int32) = μ.1 1 (617 + 10 * i + 4) from ofInv_eq (k := 4) (by omega) (by decide)]
theorem stands_of (hL : LdR ν 7 (μ.1 1) p) (hW : Wf (μ.1 1)) {i : Nat} (hi : i < cl (μ.1 1 2)) (l : Int32) : g_X4_stands ν (7 + (62 + 2 * i)) l = some (f_X12_has (f_X12_livingLines μ (nI i)) l) := by
  unfold g_X4_stands
  rw [asr_pos (inv_at hL hW hi).2.1, standing_of hL hW hi]
  show bnd (g_X11_contains _ l) _ = _
  rw [contains_eq]
  rfl
theorem sumOf_of (hL : LdR ν 7 (μ.1 1) p) (hW : Wf (μ.1 1)) {i : Nat} (hi : i < cl (μ.1 1 2)) (s : Int32) : g_X4_sumOf ν (7 + (62 + 2 * i)) s = some (sm4 (μ.1 1) i s 4) := by
  obtain ⟨h60, h1, -, h2, -⟩ := inv_at hL hW hi
  have step : ∀ (n : Nat) (j : Nat), j < 4 → g_X4_sumOf_L4 ν (7 + (62 + 2 * i)) s (n + 1) (sm4 (μ.1 1) i s j) (nI j) = g_X4_sumOf_L4 ν (7 + (62 + 2 * i)) s n (sm4 (μ.1 1) i s (j + 1)) (nI (j + 1)) := by
    intro n j hj
    conv => lhs; unfold g_X4_sumOf_L4
    rw [if_neg (by rw [le32, nI_toInt (by omega)]; show ¬ (4 : Int) ≤ j; omega), contains_eq]
    show (if f_X12_has s (nI j) = true then _ else _) = _
    rw [nI1, cl_nI (by omega), h2 j hj]
    show _ = g_X4_sumOf_L4 ν _ s n (if f_X12_has s (nI j) = true then sm4 (μ.1 1) i s j + μ.1 1 (617 + 10 * i + (6 + j)) else sm4 (μ.1 1) i s j) (nI (j + 1))
    split
    · rw [asr_pos (vp_in_nI (by omega) (by decide))]
    · rfl
  unfold g_X4_sumOf
  rw [asr_pos h1]
  show g_X4_sumOf_L4 ν _ s (9995 + 1 + 1 + 1 + 1 + 1) (sm4 (μ.1 1) i s 0) (nI 0) = _
  rw [step _ 0 (by decide), step _ 1 (by decide), step _ 2 (by decide), step _ 3 (by decide)]
  unfold g_X4_sumOf_L4
  rw [if_pos (by decide)]
theorem netOf_m {i : Nat} (h60 : i < 60) : f_X12_netOf μ (nI i) = sm4 (μ.1 1) i (f_X12_livingLines μ (nI i)) 4 := by
  have step : ∀ (n : Nat) (j : Nat), j < 4 → f_X12_netOf_L4 μ (nI i) (n + 1) (sm4 (μ.1 1) i (f_X12_livingLines μ (nI i)) j) (nI j) = f_X12_netOf_L4 μ (nI i) n (sm4 (μ.1 1) i (f_X12_livingLines μ (nI i)) (j + 1)) (nI (j + 1)) := by
    intro n j hj
    conv => lhs; unfold f_X12_netOf_L4
    rw [if_neg (by rw [le32, nI_toInt (by omega)]; show ¬ (4 : Int) ≤ j; omega), nI1]
    unfold f_X12_lineIn
    rw [show f_X12_ofInvoice μ (nI i) ((6 : Int32) + nI j) = μ.1 1 (617 + 10 * i + (6 + j)) from by
      rw [show (6 : Int32) = nI 6 from rfl, nI_add]
      exact ofInv_eq (by omega) (by omega)]
    show _ = f_X12_netOf_L4 μ (nI i) n (if f_X12_has (f_X12_livingLines μ (nI i)) (nI j) = true then _ else _) (nI (j + 1))
    split
    · rfl
    · rw [Int32.add_zero]
  unfold f_X12_netOf
  show f_X12_netOf_L4 μ (nI i) (0 + 1 + 1 + 1 + 1 + 1) (sm4 (μ.1 1) i (f_X12_livingLines μ (nI i)) 0) (nI 0) = _
  rw [step _ 0 (by decide), step _ 1 (by decide), step _ 2 (by decide), step _ 3 (by decide)]
  unfold f_X12_netOf_L4
  rw [if_pos (by decide)]
theorem net_of (hL : LdR ν 7 (μ.1 1) p) (hW : Wf (μ.1 1)) {i : Nat} (hi : i < cl (μ.1 1 2)) : g_X4_netAmount ν (7 + (62 + 2 * i)) = some (f_X12_netOf μ (nI i)) := by
  obtain ⟨h60, h1, -⟩ := inv_at hL hW hi
  unfold g_X4_netAmount
  rw [asr_pos h1, standing_of hL hW hi]
  show bnd (g_X4_sumOf ν _ _) _ = _
  rw [sumOf_of hL hW hi, netOf_m h60]
  rfl
theorem shipOf_of (hL : LdR ν 7 (μ.1 1) p) (hW : Wf (μ.1 1)) {i : Nat} (hi : i < cl (μ.1 1 2)) : g_X0_shipOf ν (nI i) = some (f_X12_shipOf μ (nI i)) := by
  obtain ⟨h60, h1, h2, -, h3, h4, -⟩ := inv_at hL hW hi
  have ha := call_at (a := μ.1 1 (617 + 10 * i)) hL hW ⟨h4, h3⟩
  unfold g_X0_shipOf f_X12_shipOf
  rw [asr_pos (vp_in_nI h60 (by decide)), cl_nI (by omega), show ν.1 (7 + (62 + 2 * i)) 1 = μ.1 1 (617 + 10 * i) from h2 0 (by decide), asr_pos ha.1, show ν.1 (7 + (22 + cl (μ.1 1 (617 + 10 * i)))) 0 = μ.1 1 (330 + 7 * cl (μ.1 1 (617 + 10 * i))) from ha.2.2.2.1 0 (by decide)]
  rw [show f_X12_ofInvoice μ (nI i) (0 : Int32) = μ.1 1 (617 + 10 * i) from ofInv_eq (k := 0) (by omega) (by decide)]
  rfl
end IV
