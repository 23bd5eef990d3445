/-! PURE. Balances. -/
theorem add0L (x : Int64) : x + (0 : Int64) = x := Int64.add_zero x
section BA
variable {ν μ : Mm} {p : Nat → Int64}
theorem ba_loop (hL : LdR ν 7 (μ.1 1) p) (hW : Wf (μ.1 1)) {a : Int32} : ∀ (d k : Nat), k + d = cl (μ.1 1 2) → ∀ (n m : Nat), d + 1 ≤ n → d + 1 ≤ m → ∀ x : Int64, g_X0_balanceOf_L17 ν a n x (nI k) = some (f_X12_balanceOf_L11 μ a m x (nI k)) := by
  obtain ⟨c1, c2, c3⟩ := cl_of hW.1.2.2.1
  have e0 : ν.1 7 7 = μ.1 1 2 := (sh_c hL).2.2.1
  intro d
  induction d with
  | zero =>
    intro k hk n m hn1 hm1 x
    obtain ⟨n, rfl, -⟩ := succ_n hn1
    obtain ⟨m, rfl, -⟩ := succ_n hm1
    have g : (μ.1 1 2) ≤ nI k := by rw [le32, nI_toInt (by omega)]; omega
    unfold g_X0_balanceOf_L17 f_X12_balanceOf_L11
    rw [e0, if_pos g, if_pos g]
  | succ d ih =>
    intro k hk n m hn1 hm1 x
    obtain ⟨n, rfl, hn2⟩ := succ_n hn1
    obtain ⟨m, rfl, hm2⟩ := succ_n hm1
    have hlt : k < cl (μ.1 1 2) := by omega
    have g : ¬ (μ.1 1 2) ≤ nI k := by rw [le32, nI_toInt (by omega)]; omega
    obtain ⟨h60, h1, h2, -⟩ := inv_at hL hW hlt
    unfold g_X0_balanceOf_L17 f_X12_balanceOf_L11
    rw [e0, if_neg g, if_neg g, shipOf_of hL hW hlt]
    show (if f_X12_shipOf μ (nI k) = a then _ else _) = _
    rw [nI1]
    by_cases q : f_X12_shipOf μ (nI k) = a
    · rw [if_pos q, if_pos q, asr_pos (vp_in_nI h60 (by decide)), cl_nI (by omega), net_of hL hW hlt]
      exact ih (k + 1) (by omega) n m hn2 hm2 _
    · rw [if_neg q, if_neg q, add0L]
      exact ih (k + 1) (by omega) n m hn2 hm2 x
theorem balance_of (hL : LdR ν 7 (μ.1 1) (μ.2.1 3)) (hW : Wf (μ.1 1)) {a : Int32} (ha : 0 ≤ a.toInt ∧ a.toInt < (μ.1 1 0).toInt) : g_X0_balanceOf ν a = some (f_X12_balanceOf μ a) := by
  have c3 := (cl_of hW.1.2.2.1).2.2
  obtain ⟨i1, i2, i3, i4, i5⟩ := ix_of (hi := 8) ha hW.1.1 (by decide)
  unfold g_X0_balanceOf f_X12_balanceOf
  rw [asr_pos i3, (hL.2.1 _ i1).2.1]
  exact ba_loop hL hW (cl (μ.1 1 2)) 0 (by omega) 10000 61 (by omega) (by omega) _
end BA
theorem s33 : Sm_33 RelP := by
  intro n ν μ hn hR a1
  obtain ⟨⟨hL, hW, hP⟩, -⟩ := id hR
  have e0 := (sh_c hL).1
  by_cases h : 0 ≤ a1.toInt ∧ a1.toInt < (μ.1 1 0).toInt
  · refine rl_ok (v := f_X12_balanceOf (uI μ 0 0 0) a1) hR ?_ ?_
    · unfold g_X11_balance
      rw [rqS, e0, if_pos h]
      show bnd (g_X0_balanceOf ν a1) _ = _
      rw [balance_of (μ := uI μ 0 0 0) hL hW h]
      rfl
    · unfold f_X12_balance
      rw [isShip_eq hW, pz1, decide_eq_true h]
      rfl
  · refine rl_er 1 1 hR ?_ ?_ rfl rfl (by decide)
    · unfold g_X11_balance
      rw [rqS, e0, if_neg h]
      rfl
    · unfold f_X12_balance
      rw [isShip_eq hW, pz1, decide_eq_false h]
      rfl
