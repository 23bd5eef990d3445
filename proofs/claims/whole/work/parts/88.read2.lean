/-! PURE. Plain readers by template. -/
theorem bnx_ok {α β : Type} {x : α} {f : α → Option (Thr β)} : bnx (.ok x) f = f x := rfl
theorem bnx_er {α β : Type} {k : Nat} {f : α → Option (Thr β)} : bnx (.error k) f = some (.error k) := rfl
theorem isLine_eq (a : Int32) : f_X12_isLine a = decide (0 ≤ a.toInt ∧ a.toInt ≤ 3) := inX_eq
theorem isTons_eq (a : Int32) : f_X12_isTons a = decide (0 ≤ a.toInt ∧ a.toInt ≤ 9999) := inX_eq
theorem isWaste_eq (a : Int32) : f_X12_isWaste a = decide (0 ≤ a.toInt ∧ a.toInt ≤ 999) := inX_eq
theorem isYear_eq (a : Int32) : f_X12_isYear a = decide (0 ≤ a.toInt ∧ a.toInt ≤ 9) := inX_eq
theorem nI_z {j : Nat} (h : j < 2 ^ 31) : nI j = 0 ↔ j = 0 := by
  have := nI_eq (a := j) (b := 0) h (by decide)
  exact this
/-- a small number, by cases -/
theorem sm_of {a : Int32} {hi : Nat} (h : 0 ≤ a.toInt ∧ a.toInt ≤ hi) (hh : hi < 100) : ∃ j, j ≤ hi ∧ a = nI j ∧ cl a = j := by
  obtain ⟨c1, c2, c3⟩ := cl_of (x := a) (hi := (hi : Int)) h
  exact ⟨cl a, by omega, c1, rfl⟩
theorem ty_c (f : Nat → Int32) (n : Nat) {x : Int32} {k : Nat} (h : x = nI k) (hk : k < 2 ^ 31) : f (n + cl x) = f (n + k) := by
  subst h
  rw [cl_nI hk]
theorem s19 : Sm_19 RelP := by
  intro n ν μ hn hR a1
  obtain ⟨⟨hL, hW, hP⟩, -⟩ := id hR
  have e0 := (sh_c hL).2.1
  by_cases h : 0 ≤ a1.toInt ∧ a1.toInt < (μ.1 1 1).toInt
  · obtain ⟨i1, i2, i3, i4, i5⟩ := ix_of h hW.1.2.1 (by decide)
    refine ro_ok (v := μ.1 1 (330 + 7 * cl a1 + 6)) hR ?_ ?_
    · unfold g_X11_upheld
      rw [rqC, e0, if_pos h]
      show asr _ _ = _
      rw [asr_pos i3, hL.2.2.1 _ i1 6 (by decide)]
    · unfold f_X12_upheld
      rw [isCall_eq hW, pz1, decide_eq_true h]
      rfl
  · refine ro_er 1 1 hR ?_ ?_ rfl rfl (by decide)
    · unfold g_X11_upheld
      rw [rqC, e0, if_neg h]
      rfl
    · unfold f_X12_upheld
      rw [isCall_eq hW, pz1, decide_eq_false h]
      rfl
theorem s25 : Sm_25 RelP := by
  intro n ν μ hn hR a1 a2
  obtain ⟨⟨hL, hW, hP⟩, -⟩ := id hR
  have e0 := (sh_c hL).2.2.1
  by_cases h : 0 ≤ a1.toInt ∧ a1.toInt < (μ.1 1 2).toInt
  · obtain ⟨i1, i2, i3, i4, i5⟩ := ix_of h hW.1.2.2.1 (by decide)
    by_cases h2 : 0 ≤ a2.toInt ∧ a2.toInt ≤ 3
    · refine ro_ok (v := μ.1 1 (617 + 10 * cl a1 + (6 + cl a2))) hR ?_ ?_
      · unfold g_X11_line
        rw [rqV, e0, if_pos h]
        show bnd (g_X11_requireLine ν a2) _ = _
        rw [rqL]
        show bnd (some (if 0 ≤ a2.toInt ∧ a2.toInt ≤ 3 then _ else _)) _ = _
        rw [if_pos h2]
        show asr _ _ = _
        rw [asr_pos i3]
        obtain ⟨j, hj, ej, cj⟩ := sm_of (hi := 3) h2 (by decide)
        rw [asr_pos (vp_of h2.1 (by have := h2.2; omega) (by decide)), (hL.2.2.2.1 _ i1).2 (cl a2) (by omega)]
      · unfold f_X12_line
        rw [isInv_eq hW, isLine_eq]
        rw [pz2, decide_eq_true h, decide_eq_true h2]
        obtain ⟨j, hj, ej, cj⟩ := sm_of (hi := 3) h2 (by decide)
        show (f_X12_lineIn (uI μ 0 0 0) a1 a2, uI μ 0 0 0) = _
        unfold f_X12_lineIn f_X12_ofInvoice
        rw [ej, show (6 : Int32) = nI 6 from rfl, nI_add, cl_nI (by omega), cl_nI (by omega)]
        rfl
    · refine ro_er 2 2 hR ?_ ?_ (by simp) rfl (by decide)
      · unfold g_X11_line
        rw [rqV, e0, if_pos h]
        show bnd (g_X11_requireLine ν a2) _ = _
        rw [rqL]
        show bnd (some (if 0 ≤ a2.toInt ∧ a2.toInt ≤ 3 then _ else _)) _ = _
        rw [if_neg h2]
        rfl
      · unfold f_X12_line
        rw [isInv_eq hW, isLine_eq]
        rw [pz2, decide_eq_true h, decide_eq_false h2]
        rfl
  · refine ro_er 1 1 hR ?_ ?_ (by simp) rfl (by decide)
    · unfold g_X11_line
      rw [rqV, e0, if_neg h]
      rfl
    · unfold f_X12_line
      rw [isInv_eq hW, pz2, decide_eq_false h]
      rfl
theorem s24 : Sm_24 RelP := by
  intro n ν μ hn hR a1 a2
  obtain ⟨⟨hL, hW, hP⟩, -⟩ := id hR
  have e0 := (sh_c hL).2.2.1
  by_cases h : 0 ≤ a1.toInt ∧ a1.toInt < (μ.1 1 2).toInt
  · obtain ⟨i1, i2, i3, i4, i5⟩ := ix_of h hW.1.2.2.1 (by decide)
    by_cases h2 : 0 ≤ a2.toInt ∧ a2.toInt ≤ 5
    · refine ro_ok (v := μ.1 1 (617 + 10 * cl a1 + cl a2)) hR ?_ ?_
      · unfold g_X11_invoice
        rw [rqV, e0, if_pos h]
        show bnd (g_X11_requireRange ν a2 (0 : Int32) (5 : Int32)) _ = _
        rw [rqR]
        show bnd (some (if 0 ≤ a2.toInt ∧ a2.toInt ≤ 5 then _ else _)) _ = _
        rw [if_pos h2]
        show asr _ _ = _
        rw [asr_pos i3]
        obtain ⟨j, hj, ej, cj⟩ := sm_of (hi := 5) h2 (by decide)
        have hI := (hL.2.2.2.1 _ i1).1
        rw [cj, ej]
        match j, hj with
        | 0, _ => exact congrArg (fun x => some (Except.ok x)) (hI 0 (by decide))
        | 1, _ => exact congrArg (fun x => some (Except.ok x)) (hI 1 (by decide))
        | 2, _ => exact congrArg (fun x => some (Except.ok x)) (hI 2 (by decide))
        | 3, _ => exact congrArg (fun x => some (Except.ok x)) (hI 3 (by decide))
        | 4, _ => exact congrArg (fun x => some (Except.ok x)) (hI 4 (by decide))
        | 5, _ => exact congrArg (fun x => some (Except.ok x)) (hI 5 (by decide))
        | j + 6, g => exact absurd g (by omega)
      · unfold f_X12_invoice
        rw [isInv_eq hW, (show f_X12_in a2.toInt64 (0 : Int64) (5 : Int64) = decide (0 ≤ a2.toInt ∧ a2.toInt ≤ 5) from inX_eq)]
        rw [pz2, decide_eq_true h, decide_eq_true h2]
        rfl
    · refine ro_er 2 2 hR ?_ ?_ (by simp) rfl (by decide)
      · unfold g_X11_invoice
        rw [rqV, e0, if_pos h]
        show bnd (g_X11_requireRange ν a2 (0 : Int32) (5 : Int32)) _ = _
        rw [rqR]
        show bnd (some (if 0 ≤ a2.toInt ∧ a2.toInt ≤ 5 then _ else _)) _ = _
        rw [if_neg h2]
        rfl
      · unfold f_X12_invoice
        rw [isInv_eq hW, (show f_X12_in a2.toInt64 (0 : Int64) (5 : Int64) = decide (0 ≤ a2.toInt ∧ a2.toInt ≤ 5) from inX_eq)]
        rw [pz2, decide_eq_true h, decide_eq_false h2]
        rfl
  · refine ro_er 1 1 hR ?_ ?_ (by simp) rfl (by decide)
    · unfold g_X11_invoice
      rw [rqV, e0, if_neg h]
      rfl
    · unfold f_X12_invoice
      rw [isInv_eq hW, pz2, decide_eq_false h]
      rfl
theorem s32 : Sm_32 RelP := by
  intro n ν μ hn hR a1 a2
  obtain ⟨⟨hL, hW, hP⟩, -⟩ := id hR
  have e0 := (sh_c hL).2.2.2
  by_cases h : 0 ≤ a1.toInt ∧ a1.toInt < (μ.1 1 3).toInt
  · obtain ⟨i1, i2, i3, i4, i5⟩ := ix_of h hW.1.2.2.2.1 (by decide)
    by_cases h2 : 0 ≤ a2.toInt ∧ a2.toInt ≤ 3
    · refine ro_ok (v := μ.1 1 (1217 + 4 * cl a1 + cl a2)) hR ?_ ?_
      · unfold g_X11_note
        rw [rqI, e0, if_pos h]
        show bnd (g_X11_requireRange ν a2 (0 : Int32) (3 : Int32)) _ = _
        rw [rqR]
        show bnd (some (if 0 ≤ a2.toInt ∧ a2.toInt ≤ 3 then _ else _)) _ = _
        rw [if_pos h2]
        show asr _ _ = _
        rw [asr_pos i3]
        obtain ⟨j, hj, ej, cj⟩ := sm_of (hi := 3) h2 (by decide)
        have hI := hL.2.2.2.2.1 _ i1
        rw [cj, ej]
        match j, hj with
        | 0, _ => exact congrArg (fun x => some (Except.ok x)) (hI 0 (by decide))
        | 1, _ => exact congrArg (fun x => some (Except.ok x)) (hI 1 (by decide))
        | 2, _ => exact congrArg (fun x => some (Except.ok x)) (hI 2 (by decide))
        | 3, _ => exact congrArg (fun x => some (Except.ok x)) (hI 3 (by decide))
        | j + 4, g => exact absurd g (by omega)
      · unfold f_X12_note
        rw [ct_eq ⟨hW.1.2.2.2.1.1, by have := hW.1.2.2.2.1.2; omega⟩, (show f_X12_in a2.toInt64 (0 : Int64) (3 : Int64) = decide (0 ≤ a2.toInt ∧ a2.toInt ≤ 3) from inX_eq)]
        rw [pz2, decide_eq_true h, decide_eq_true h2]
        rfl
    · refine ro_er 2 2 hR ?_ ?_ (by simp) rfl (by decide)
      · unfold g_X11_note
        rw [rqI, e0, if_pos h]
        show bnd (g_X11_requireRange ν a2 (0 : Int32) (3 : Int32)) _ = _
        rw [rqR]
        show bnd (some (if 0 ≤ a2.toInt ∧ a2.toInt ≤ 3 then _ else _)) _ = _
        rw [if_neg h2]
        rfl
      · unfold f_X12_note
        rw [ct_eq ⟨hW.1.2.2.2.1.1, by have := hW.1.2.2.2.1.2; omega⟩, (show f_X12_in a2.toInt64 (0 : Int64) (3 : Int64) = decide (0 ≤ a2.toInt ∧ a2.toInt ≤ 3) from inX_eq)]
        rw [pz2, decide_eq_true h, decide_eq_false h2]
        rfl
  · refine ro_er 1 1 hR ?_ ?_ (by simp) rfl (by decide)
    · unfold g_X11_note
      rw [rqI, e0, if_neg h]
      rfl
    · unfold f_X12_note
      rw [ct_eq ⟨hW.1.2.2.2.1.1, by have := hW.1.2.2.2.1.2; omega⟩, pz2, decide_eq_false h]
      rfl
