/-! PURE. Readers of invoices. -/
theorem or_and32 (x y z : Int32) : (x ||| y) &&& z = (x &&& z) ||| (y &&& z) := by
  refine Int32.toBitVec_inj.mp ?_
  show (x.toBitVec ||| y.toBitVec) &&& z.toBitVec = (x.toBitVec &&& z.toBitVec) ||| (y.toBitVec &&& z.toBitVec)
  ext i hi
  simp only [BitVec.getElem_and, BitVec.getElem_or]
  cases x.toBitVec[i] <;> cases y.toBitVec[i] <;> cases z.toBitVec[i] <;> rfl
theorem or_zero32 (x : Int32) : x ||| (0 : Int32) = x := by
  refine Int32.toBitVec_inj.mp ?_
  show x.toBitVec ||| 0#32 = x.toBitVec
  exact BitVec.or_zero
theorem s26 : Sm_26 RelP := by
  intro n ν μ hn hR a1
  obtain ⟨⟨hL, hW, hP⟩, -⟩ := id hR
  have e0 := (sh_c hL).2.2.1
  by_cases h : 0 ≤ a1.toInt ∧ a1.toInt < (μ.1 1 2).toInt
  · obtain ⟨i1, i2, i3, i4, i5⟩ := ix_of (hi := 60) h hW.1.2.2.1 (by decide)
    refine ro_ok (v := f_X12_netOf (uI μ 0 0 0) a1) hR ?_ ?_
    · unfold g_X11_net
      rw [rqV, e0, if_pos h]
      show asr _ _ = _
      rw [asr_pos i3, net_of (μ := uI μ 0 0 0) hL hW i1, ← i4]
      rfl
    · unfold f_X12_net
      rw [isInv_eq hW, pz1, decide_eq_true h]
      rfl
  · refine ro_er 1 1 hR ?_ ?_ rfl rfl (by decide)
    · unfold g_X11_net
      rw [rqV, e0, if_neg h]
      rfl
    · unfold f_X12_net
      rw [isInv_eq hW, pz1, decide_eq_false h]
      rfl
section BL
variable {ν μ : Mm} {p : Nat → Int64}
theorem bl_loop (hL : LdR ν 7 (μ.1 1) p) (hW : Wf (μ.1 1)) {a : Int32} : ∀ (d k : Nat), k + d = cl (μ.1 1 2) → ∀ (n m : Nat), d + 1 ≤ n → d + 1 ≤ m → ∀ x : Int32, g_X0_billedLinesOf_L4 ν a n (x &&& (7 : Int32)) (nI k) = some (f_X12_billedSet_L4 μ a m x (nI k)) := by
  obtain ⟨c1, c2, c3⟩ := cl_of hW.1.2.2.1
  have e0 : ν.1 7 7 = μ.1 1 2 := (sh_c hL).2.2.1
  intro d
  induction d with
  | zero =>
    intro k hk n m hn1 hm1 x
    obtain ⟨n, rfl, -⟩ := succ_n hn1
    obtain ⟨m, rfl, -⟩ := succ_n hm1
    have g : (μ.1 1 2) ≤ nI k := by rw [le32, nI_toInt (by omega)]; omega
    unfold g_X0_billedLinesOf_L4 f_X12_billedSet_L4
    rw [e0, if_pos g, if_pos g]
  | succ d ih =>
    intro k hk n m hn1 hm1 x
    obtain ⟨n, rfl, hn2⟩ := succ_n hn1
    obtain ⟨m, rfl, hm2⟩ := succ_n hm1
    have hlt : k < cl (μ.1 1 2) := by omega
    have g : ¬ (μ.1 1 2) ≤ nI k := by rw [le32, nI_toInt (by omega)]; omega
    obtain ⟨h60, h1, h2, -⟩ := inv_at hL hW hlt
    have r0 : ν.1 (7 + (62 + 2 * k)) 1 = μ.1 1 (617 + 10 * k) := h2 0 (by decide)
    have o0 : f_X12_ofInvoice μ (nI k) (0 : Int32) = μ.1 1 (617 + 10 * k) := ofInv_eq (k := 0) (by omega) (by decide)
    unfold g_X0_billedLinesOf_L4 f_X12_billedSet_L4
    rw [e0, if_neg g, if_neg g, asr_pos (vp_in_nI h60 (by decide)), cl_nI (by omega), r0, o0, nI1]
    by_cases q : μ.1 1 (617 + 10 * k) = a
    · rw [if_pos q, if_pos q, standing_of hL hW hlt]
      have hi := ih (k + 1) (by omega) n m hn2 hm2 (x ||| f_X12_livingLines μ (nI k))
      rw [or_and32] at hi
      exact hi
    · rw [if_neg q, if_neg q, or_zero32]
      exact ih (k + 1) (by omega) n m hn2 hm2 x
theorem billed_of (hL : LdR ν 7 (μ.1 1) p) (hW : Wf (μ.1 1)) (a : Int32) : g_X0_billedLinesOf ν a = some (f_X12_billedSet μ a) := by
  have c3 := (cl_of hW.1.2.2.1).2.2
  exact bl_loop hL hW (cl (μ.1 1 2)) 0 (by omega) 10000 61 (by omega) (by omega) 0
end BL
