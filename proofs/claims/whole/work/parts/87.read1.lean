/-! PURE. The plain readers. -/
theorem bnd_s {α β : Type} {x : α} {f : α → Option β} : bnd (some x) f = f x := rfl
theorem ro_ok {g : Option (Thr Int32)} {mm : Int32 × Mm} {v : Int32} {n : Nat} {ν μ : Mm} {K : Nat → Prop} {hf : Nat → Int32} (hR : RelP n ν μ) (h1 : g = some (.ok v)) (h2 : mm = (v, uI μ 0 0 0)) :
    ∃ (r : Thr Int32), ∃ (q : Int32 × Mm), (g = some r) ∧ (∀ k, r = .error k → K k) ∧ (mm = q) ∧ (thC hf r = f_X12_thrown q.2) ∧ (∀ oc : Nat → Int64, thC hf r = 0 → (thO (fun q => q.toInt64) oc r) 0 = q.1.toInt64) ∧ RelP (n + 1) (thM (fun _ => ν) ν r) q.2 :=
  ⟨.ok v, _, h1, fun k h => (by cases h), h2, rfl, fun _ _ => rfl, hR.thr 0⟩
theorem ro_er {g : Option (Thr Int32)} {mm : Int32 × Mm} {n : Nat} {ν μ : Mm} {K : Nat → Prop} {hf : Nat → Int32} (k : Nat) (t : Int32) (hR : RelP n ν μ) (h1 : g = some (.error k)) (h2 : mm = (0, uI μ 0 0 t)) (hk : K k) (ht : hf k = t) (h0 : ¬ t = 0) :
    ∃ (r : Thr Int32), ∃ (q : Int32 × Mm), (g = some r) ∧ (∀ k, r = .error k → K k) ∧ (mm = q) ∧ (thC hf r = f_X12_thrown q.2) ∧ (∀ oc : Nat → Int64, thC hf r = 0 → (thO (fun q => q.toInt64) oc r) 0 = q.1.toInt64) ∧ RelP (n + 1) (thM (fun _ => ν) ν r) q.2 :=
  ⟨.error k, _, h1, fun j h => (by cases h; exact hk), h2, ht, fun _ h => absurd (ht.symm.trans h) h0, hR.thr t⟩
theorem rl_ok {g : Option (Thr Int64)} {mm : Int64 × Mm} {v : Int64} {n : Nat} {ν μ : Mm} {K : Nat → Prop} {hf : Nat → Int32} (hR : RelP n ν μ) (h1 : g = some (.ok v)) (h2 : mm = (v, uI μ 0 0 0)) :
    ∃ (r : Thr Int64), ∃ (q : Int64 × Mm), (g = some r) ∧ (∀ k, r = .error k → K k) ∧ (mm = q) ∧ (thC hf r = f_X12_thrown q.2) ∧ (∀ oc : Nat → Int64, thC hf r = 0 → (thO (fun q => q) oc r) 0 = q.1) ∧ RelP (n + 1) (thM (fun _ => ν) ν r) q.2 :=
  ⟨.ok v, _, h1, fun k h => (by cases h), h2, rfl, fun _ _ => rfl, hR.thr 0⟩
theorem rl_er {g : Option (Thr Int64)} {mm : Int64 × Mm} {n : Nat} {ν μ : Mm} {K : Nat → Prop} {hf : Nat → Int32} (k : Nat) (t : Int32) (hR : RelP n ν μ) (h1 : g = some (.error k)) (h2 : mm = (0, uI μ 0 0 t)) (hk : K k) (ht : hf k = t) (h0 : ¬ t = 0) :
    ∃ (r : Thr Int64), ∃ (q : Int64 × Mm), (g = some r) ∧ (∀ k, r = .error k → K k) ∧ (mm = q) ∧ (thC hf r = f_X12_thrown q.2) ∧ (∀ oc : Nat → Int64, thC hf r = 0 → (thO (fun q => q) oc r) 0 = q.1) ∧ RelP (n + 1) (thM (fun _ => ν) ν r) q.2 :=
  ⟨.error k, _, h1, fun j h => (by cases h; exact hk), h2, ht, fun _ h => absurd (ht.symm.trans h) h0, hR.thr t⟩
section PU
variable {ν μ : Mm} {L : Nat} {f : Nat → Int32} {p : Nat → Int64}
theorem present_of (hL : LdR ν L f p) (hW : Wf f) (hl : isLed L) : g_X5_present ν L = some (L + (222 + 5 * cl (f 4))) ∧ isTar (L + (222 + 5 * cl (f 4))) ∧ TaR ν (L + (222 + 5 * cl (f 4))) f (cl (f 4)) ∧ cl (f 4) < 21 := by
  have e9 : ν.1 L 9 = f 4 := hL.1.2.2.2.2.1
  have h4 := hW.1.2.2.2.2.1
  obtain ⟨-, a2, a3⟩ := cl_of h4
  have hlt : cl (f 4) < 21 := by omega
  refine ⟨?_, ⟨L, _, hl, hlt, rfl⟩, hL.2.2.2.2.2 _ (Nat.le_refl _), hlt⟩
  unfold g_X5_present
  rw [asr_pos hl, e9, asr_pos (vp_of h4.1 (by have := h4.2; omega) (by decide))]
theorem sh_c (hL : LdR ν L f p) : ν.1 L 5 = f 0 ∧ ν.1 L 6 = f 1 ∧ ν.1 L 7 = f 2 ∧ ν.1 L 8 = f 3 := ⟨hL.1.1, hL.1.2.1, hL.1.2.2.1, hL.1.2.2.2.1⟩
theorem isShip_eq (hW : Wf (μ.1 1)) (a : Int32) : f_X12_isShip μ a = decide (0 ≤ a.toInt ∧ a.toInt < (μ.1 1 0).toInt) := by
  unfold f_X12_isShip
  exact ct_eq ⟨hW.1.1.1, by have := hW.1.1.2; omega⟩
theorem isCall_eq (hW : Wf (μ.1 1)) (a : Int32) : f_X12_isCall μ a = decide (0 ≤ a.toInt ∧ a.toInt < (μ.1 1 1).toInt) := by
  unfold f_X12_isCall
  exact ct_eq ⟨hW.1.2.1.1, by have := hW.1.2.1.2; omega⟩
theorem isInv_eq (hW : Wf (μ.1 1)) (a : Int32) : f_X12_isInvoice μ a = decide (0 ≤ a.toInt ∧ a.toInt < (μ.1 1 2).toInt) := by
  unfold f_X12_isInvoice
  exact ct_eq ⟨hW.1.2.2.1.1, by have := hW.1.2.2.1.2; omega⟩
theorem isBand_eq (hW : Wf (μ.1 1)) (a : Int32) : f_X12_isBand μ a = decide (0 ≤ a.toInt ∧ a.toInt < (μ.1 1 6).toInt) := by
  unfold f_X12_isBand
  have h := hW.1.2.2.2.2.2.2.1
  exact ct_eq ⟨h.1, by have := h.2; omega⟩
theorem isReb_eq (hW : Wf (μ.1 1)) (a : Int32) : f_X12_isRebate μ a = decide (0 ≤ a.toInt ∧ a.toInt < (μ.1 1 7).toInt) := by
  unfold f_X12_isRebate
  have h := hW.1.2.2.2.2.2.2.2.1
  exact ct_eq ⟨h.1, by have := h.2; omega⟩
/-- a number that names one of a count: its index -/
theorem ix_of {a n : Int32} {hi : Nat} (h : 0 ≤ a.toInt ∧ a.toInt < n.toInt) (hn : rg n 0 hi) (hh : hi < 2 ^ 31) : cl a < cl n ∧ cl a < hi ∧ vp_in a hi ∧ a = nI (cl a) ∧ (cl a : Int) = a.toInt := by
  obtain ⟨b1, b2, b3⟩ := cl_of hn
  obtain ⟨c1, c2, -⟩ := cl_of (x := a) (hi := a.toInt) ⟨h.1, Int.le_refl _⟩
  have := h.2
  refine ⟨by omega, by omega, vp_of h.1 (by omega) hh, c1, c2⟩
end PU
theorem s14 : Sm_14 RelP := by
  intro n ν μ hn hR a1
  obtain ⟨⟨hL, hW, hP⟩, -⟩ := id hR
  have e0 := (sh_c hL).1
  by_cases h : 0 ≤ a1.toInt ∧ a1.toInt < (μ.1 1 0).toInt
  · obtain ⟨i1, i2, i3, i4, i5⟩ := ix_of h hW.1.1 (by decide)
    refine ro_ok (v := μ.1 1 (274 + 7 * cl a1)) hR ?_ ?_
    · unfold g_X11_tons
      rw [rqS, e0, if_pos h]
      show asr _ _ = _
      rw [asr_pos i3, (hL.2.1 _ i1).1]
    · unfold f_X12_tons
      rw [isShip_eq hW, pz1, decide_eq_true h]
      rfl
  · refine ro_er 1 1 hR ?_ ?_ rfl rfl (by decide)
    · unfold g_X11_tons
      rw [rqS, e0, if_neg h]
      rfl
    · unfold f_X12_tons
      rw [isShip_eq hW, pz1, decide_eq_false h]
      rfl
theorem s34 : Sm_34 RelP := by
  intro n ν μ hn hR a1
  obtain ⟨⟨hL, hW, hP⟩, -⟩ := id hR
  have e0 := (sh_c hL).1
  by_cases h : 0 ≤ a1.toInt ∧ a1.toInt < (μ.1 1 0).toInt
  · obtain ⟨i1, i2, i3, i4, i5⟩ := ix_of h hW.1.1 (by decide)
    refine rl_ok (v := μ.2.1 3 (cl a1)) hR ?_ ?_
    · unfold g_X11_paid
      rw [rqS, e0, if_pos h]
      show asr _ _ = _
      rw [asr_pos i3, (hL.2.1 _ i1).2.1]
    · unfold f_X12_paid
      rw [isShip_eq hW, pz1, decide_eq_true h]
      rfl
  · refine rl_er 1 1 hR ?_ ?_ rfl rfl (by decide)
    · unfold g_X11_paid
      rw [rqS, e0, if_neg h]
      rfl
    · unfold f_X12_paid
      rw [isShip_eq hW, pz1, decide_eq_false h]
      rfl
theorem s18 : Sm_18 RelP := by
  intro n ν μ hn hR a1
  obtain ⟨⟨hL, hW, hP⟩, -⟩ := id hR
  have e0 := (sh_c hL).2.1
  by_cases h : 0 ≤ a1.toInt ∧ a1.toInt < (μ.1 1 1).toInt
  · obtain ⟨i1, i2, i3, i4, i5⟩ := ix_of h hW.1.2.1 (by decide)
    refine ro_ok (v := μ.1 1 (330 + 7 * cl a1 + 5)) hR ?_ ?_
    · unfold g_X11_pending
      rw [rqC, e0, if_pos h]
      show asr _ _ = _
      rw [asr_pos i3, hL.2.2.1 _ i1 5 (by decide)]
    · unfold f_X12_pending
      rw [isCall_eq hW, pz1, decide_eq_true h]
      rfl
  · refine ro_er 1 1 hR ?_ ?_ rfl rfl (by decide)
    · unfold g_X11_pending
      rw [rqC, e0, if_neg h]
      rfl
    · unfold f_X12_pending
      rw [isCall_eq hW, pz1, decide_eq_false h]
      rfl
