/-! PURE. Rebuilt lines. -/
section RB
variable {ν μ : Mm} {p : Nat → Int64}
theorem rebuilt_of (hL : LdR ν 7 (μ.1 1) p) (hW : Wf (μ.1 1)) {i : Nat} (hi : i < cl (μ.1 1 2)) {l : Int32} (hl : 0 ≤ l.toInt ∧ l.toInt ≤ 3) : g_X0_rebuiltLine ν (7 + (62 + 2 * i)) l = some (f_X12_rebuiltOf μ (nI i) l) := by
  obtain ⟨h60, h1, h2, -, h3, h4, h5⟩ := inv_at hL hW hi
  have hc : 0 ≤ (μ.1 1 (617 + 10 * i)).toInt ∧ (μ.1 1 (617 + 10 * i)).toInt < (μ.1 1 1).toInt := ⟨h4, h3⟩
  have w2 := (hW.2.2.2.2.2.2.2.2.2.2.2.1 i h60).2.2.1
  obtain ⟨v1, v2, v3⟩ := cl_of w2
  obtain ⟨n1, n2, n3⟩ := cl_of hW.1.2.2.2.2.1
  have hT := hL.2.2.2.2.2 (cl (μ.1 1 (617 + 10 * i + 2))) (by omega)
  have hv : cl (μ.1 1 (617 + 10 * i + 2)) < 21 := by omega
  have ht : isTar (7 + (222 + 5 * cl (μ.1 1 (617 + 10 * i + 2)))) := ⟨7, _, led7, hv, rfl⟩
  have r0 : ν.1 (7 + (62 + 2 * i)) 1 = μ.1 1 (617 + 10 * i) := h2 0 (by decide)
  have o0 : f_X12_ofInvoice μ (nI i) (0 : Int32) = μ.1 1 (617 + 10 * i) := ofInv_eq (k := 0) (by omega) (by decide)
  have o2 : f_X12_ofInvoice μ (nI i) (2 : Int32) = μ.1 1 (617 + 10 * i + 2) := ofInv_eq (k := 2) (by omega) (by decide)
  have o5 : f_X12_ofInvoice μ (nI i) (5 : Int32) = μ.1 1 (617 + 10 * i + 5) := ofInv_eq (k := 5) (by omega) (by decide)
  unfold g_X0_rebuiltLine f_X12_rebuiltOf
  rw [asr_pos h1, stands_of hL hW hi, bnd_s, o0, o2, o5, r0, h2 2 (by decide), h2 5 (by decide)]
  split
  · rw [asr_pos (vp_of w2.1 (by omega) (by decide))]
    by_cases q : l = 3
    · rw [if_pos q, if_pos q, asr_pos (call_at hL hW hc).1, cont_of hL hW hc, bnd_s, bitCount_eq, bnd_s, hT.1.2.2.2.2.2.2.2, Int32.mul_comm]
      rfl
    · rw [if_neg q, if_neg q, rankOf_of hL hW hc, bnd_s, line_of hL hW hc hT ht hv hl]
      unfold lineV
      rw [if_neg q, ← v1]
      rfl
  · rfl
end RB
