/-! PURE. Errors, undoCount, outputByte, truncate; a ledger that nobody writes. -/
theorem s3 : Sm_3 RelP := fun n ν μ hn hR => ⟨_, _, rfl, rfl, hR.2.2.2.2.1.1, hR.thr 0⟩
theorem s4 : Sm_4 RelP := fun n ν μ hn hR => ⟨_, _, rfl, rfl, hR.2.2.2.2.1.2, hR.thr 0⟩
theorem s58 : Sm_58 RelP := fun n ν μ hn hR => ⟨_, _, rfl, rfl, by
  obtain ⟨a, b, h1, h2, h3, h4, h5, h6⟩ := hR.2.1
  exact h3.trans h5.symm, hR.thr 0⟩
theorem LdW.congr {n : Nat} {ν ν' : Mm} {L : Nat} {f : Nat → Int32} {p : Nat → Int64} (h : LdW n ν L f p) (e : ∀ off, L ≤ off → off < L + 327 → ν'.1 off = ν.1 off ∧ ν'.2.1 off = ν.2.1 off ∧ ν'.2.2 off = ν.2.2 off) : LdW n ν' L f p := by
  obtain ⟨⟨g0, g1, g2, g3, g4, g5⟩, hW, hP⟩ := h
  have n0 := (cl_of hW.1.1).2.2
  have n1 := (cl_of hW.1.2.1).2.2
  have n2 := (cl_of hW.1.2.2.1).2.2
  have n3 := (cl_of hW.1.2.2.2.1).2.2
  have n4 := (cl_of hW.1.2.2.2.2.1).2.2
  have E : ∀ off, L ≤ off → off < L + 327 → ν'.1 off = ν.1 off := fun off a b => (e off a b).1
  refine ⟨⟨?_, fun s hs => ?_, fun c hc k hk => ?_, fun i hi => ⟨fun k hk => ?_, fun l hl => ?_⟩, fun m hm k hk => ?_, fun v hv => ?_⟩, hW, hP⟩
  · rw [E L (Nat.le_refl _) (by omega)]
    exact g0
  · obtain ⟨e1, e2, e3⟩ := e (L + (6 + 2 * s)) (by omega) (by omega)
    rw [e1, e2, E (L + (6 + 2 * s) + 1) (by omega) (by omega)]
    exact g1 s hs
  · rw [E (L + (22 + c)) (by omega) (by omega)]
    exact g2 c hc k hk
  · rw [E (L + (62 + 2 * i)) (by omega) (by omega)]
    exact (g3 i hi).1 k hk
  · rw [E (L + (62 + 2 * i) + 1) (by omega) (by omega)]
    exact (g3 i hi).2 l hl
  · rw [E (L + (182 + m)) (by omega) (by omega)]
    exact g4 m hm k hk
  · have h5 := g5 v hv
    unfold TaR at h5 ⊢
    rw [E (L + (222 + 5 * v)) (by omega) (by omega), E (L + (222 + 5 * v) + 1) (by omega) (by omega), E (L + (222 + 5 * v) + 2) (by omega) (by omega), E (L + (222 + 5 * v) + 3) (by omega) (by omega), E (L + (222 + 5 * v) + 4) (by omega) (by omega)]
    exact h5
/-- a write outside of all ledgers of the class -/
theorem HiR.congr {n : Nat} {ν ν' μ : Mm} (h : HiR n ν μ) (e : ∀ off, 662 ≤ off → off < 2626 → ν'.1 off = ν.1 off ∧ ν'.2.1 off = ν.2.1 off ∧ ν'.2.2 off = ν.2.2 off) : HiR n ν' μ := by
  obtain ⟨a, b, h1, h2, h3, h4, h5, h6⟩ := h
  have e0 := (e 662 (by decide) (by decide)).1
  refine ⟨a, b, h1, h2, by rw [e0]; exact h3, by rw [e0]; exact h4, h5, fun j hj => (h6 j hj).congr (fun off g1 g2 => e off (by omega) (by omega))⟩
theorem s1 : Sm_1 RelP := by
  intro n ν μ hn hR a1
  obtain ⟨hLd, hHi, ⟨len, l1, l2, l3, l4⟩, hOu, hPa, hRow⟩ := id hR
  have e1 : f_X12_in a1.toInt64 (0 : Int64) ((μ.1 0 6).toInt64) = decide (0 ≤ a1.toInt ∧ a1.toInt ≤ (μ.1 0 6).toInt) := by
    rw [inX_eq, ti_l]
    rfl
  have e2 : (μ.1 0 6).toInt = (len : Int) := by rw [l3, nI_toInt (by omega)]
  by_cases h : 0 ≤ a1.toInt ∧ a1.toInt ≤ (μ.1 0 6).toInt
  · obtain ⟨c1, c2, c3⟩ := cl_of (x := a1) (hi := (len : Int)) ⟨h.1, by omega⟩
    refine ⟨.ok (uI ν 1 2 a1), uI (uI μ 0 0 0) 0 6 a1, ?_, fun k h => (by cases h), ?_, rfl, ?_⟩
    · unfold g_X11_truncate
      rw [rqR, l2, ← l3]
      show bnd (some (if 0 ≤ a1.toInt ∧ a1.toInt ≤ (μ.1 0 6).toInt then _ else _)) _ = _
      rw [if_pos h]
      rfl
    · unfold g_X12_truncate
      rw [e1, decide_eq_true h]
      rw [bnd_s, pz1]
      rfl
    · refine ⟨(hLd.mono (Nat.le_succ n)).congr (fun off g1 g2 => ⟨?_, rfl, rfl⟩), (hHi.mono (Nat.le_succ n)).congr (fun off g1 g2 => ⟨?_, rfl, rfl⟩), ⟨cl a1, by omega, ?_, ?_, fun k hk => l4 k (by omega)⟩, hOu, hPa, hRow⟩
      · exact if_neg (by omega)
      · exact if_neg (by omega)
      · exact c1
      · exact c1
  · refine ⟨.error 2, uI μ 0 0 1, ?_, fun k h => (by cases h; rfl), ?_, rfl, hR.thr 1⟩
    · unfold g_X11_truncate
      rw [rqR, l2, ← l3]
      show bnd (some (if 0 ≤ a1.toInt ∧ a1.toInt ≤ (μ.1 0 6).toInt then _ else _)) _ = _
      rw [if_neg h]
      rfl
    · unfold g_X12_truncate
      rw [e1, decide_eq_false h]
      rw [bnd_s, pz1]
      rfl
