/-! PURE. Writers of one cell. -/
theorem RelP.th0 {n : Nat} {ν μ : Mm} (h : RelP n ν μ) (t : Int32) : RelP n ν (uI μ 0 0 t) := by
  obtain ⟨h1, h2, h3, h4, h5, h6⟩ := h
  exact ⟨h1, h2, h3, h4, h5, h6⟩
theorem RelP.mono {n m : Nat} {ν μ : Mm} (h : RelP n ν μ) (hm : n ≤ m) : RelP m ν μ := ⟨h.1.mono hm, h.2.1.mono hm, h.2.2⟩
theorem wo_ok {g : Option (Thr (Int32 × Mm))} {mm : Option (Int32 × Mm)} {v : Int32} {n : Nat} {ν ν2 μ2 : Mm} {K : Nat → Prop} {hf : Nat → Int32} (hR : RelP (n + 1) ν2 μ2) (h0 : μ2.1 0 0 = 0) (h1 : g = some (.ok (v, ν2))) (h2 : mm = some (v, μ2)) :
    ∃ (r : Thr (Int32 × Mm)), ∃ (q : Int32 × Mm), (g = some r) ∧ (∀ k, r = .error k → K k) ∧ (mm = some q) ∧ (thC hf r = f_X12_thrown q.2) ∧ (∀ oc : Nat → Int64, thC hf r = 0 → (thO (fun q => q.1.toInt64) oc r) 0 = q.1.toInt64) ∧ RelP (n + 1) (thM (fun q => q.2) ν r) q.2 :=
  ⟨.ok (v, ν2), (v, μ2), h1, fun k h => (by cases h), h2, h0.symm, fun _ _ => rfl, hR⟩
theorem wo_er {g : Option (Thr (Int32 × Mm))} {mm : Option (Int32 × Mm)} {n : Nat} {ν μ : Mm} {K : Nat → Prop} {hf : Nat → Int32} (k : Nat) (t : Int32) (hR : RelP n ν μ) (h1 : g = some (.error k)) (h2 : mm = some (0, uI μ 0 0 t)) (hk : K k) (ht : hf k = t) (h0 : ¬ t = 0) :
    ∃ (r : Thr (Int32 × Mm)), ∃ (q : Int32 × Mm), (g = some r) ∧ (∀ k, r = .error k → K k) ∧ (mm = some q) ∧ (thC hf r = f_X12_thrown q.2) ∧ (∀ oc : Nat → Int64, thC hf r = 0 → (thO (fun q => q.1.toInt64) oc r) 0 = q.1.toInt64) ∧ RelP (n + 1) (thM (fun q => q.2) ν r) q.2 :=
  ⟨.error k, (0, uI μ 0 0 t), h1, fun j h => (by cases h; exact hk), h2, ht, fun _ h => absurd (ht.symm.trans h) h0, hR.thr t⟩
theorem mkR {n m : Nat} {ν1 ν2 μ1 μ2 : Mm} (h : RelP n ν1 μ1) (hm : n ≤ m) (e : ∀ off, off < 7 ∨ 661 ≤ off → Eq3 ν1 ν2 off) (e1 : ∀ off, off ≠ 1 → off ≠ 2 → off ≠ 3 → Eq3 μ1 μ2 off) (hL : LdR ν2 7 (μ2.1 1) (μ2.2.1 3)) (hW : Wf (μ2.1 1)) (hP : Pb m (μ2.2.1 3)) : RelP m ν2 μ2 :=
  ⟨⟨hL, hW, hP⟩, (Rst.cg h.rst e e1).mono hm⟩
/-- an index of a row of the model -/
theorem ix_m {x : Int32} {c : Nat} (h : x = nI c) (b w k : Nat) : ((nI b) + ((nI w) * x)) + (nI k) = nI (b + w * c + k) := by
  rw [h, nI_mul, nI_add, nI_add]
/-- a cell of a call's row, in both -/
theorem cell_call {n : Nat} {ν μ : Mm} (h : RelP n ν μ) {c : Nat} (hc : c < cl (μ.1 1 1)) {j : Nat} (hj3 : 3 ≤ j) (hj : j < 7) {v : Int32} (h3 : j = 3 → rg v 0 999) (h4 : j = 4 → rg v 0 1) (h5 : j = 5 → rg v 0 1073741823 ∧ v &&& μ.1 1 (330 + 7 * c + 6) = 0) (h6 : j = 6 → rg v 0 1073741823 ∧ μ.1 1 (330 + 7 * c + 5) &&& v = 0) : RelP n (uI ν (7 + (22 + c)) j v) (uI μ 1 (330 + 7 * c + j) v) := by
  obtain ⟨hL, hW, hP⟩ := h.1
  have n1 := (cl_of hW.1.2.1).2.2
  have hc40 : c < 40 := by omega
  obtain ⟨r0, r1, r2, r3, r4, r5, r6, r7⟩ := hW.2.2.2.2.2.2.2.2.2.1 c (by omega)
  have rs := hW.2.2.2.2.2.2.2.2.2.2.1 c hc
  have ef : ∀ k, (uI μ 1 (330 + 7 * c + j) v).1 1 k = if k = 330 + 7 * c + j then v else μ.1 1 k := fun k => by
    rw [uI_at]
    by_cases e : k = 330 + 7 * c + j
    · rw [if_pos ⟨rfl, e⟩, if_pos e]
    · rw [if_neg (fun z => e z.2), if_neg e]
  have F : ∀ k, k < 1377 ∧ k ≠ 1 ∧ (k < 330 + 7 * c ∨ 330 + 7 * c + 7 ≤ k) → (uI μ 1 (330 + 7 * c + j) v).1 1 k = μ.1 1 k := fun k hk => by rw [ef, if_neg (by omega)]
  have f1 : (uI μ 1 (330 + 7 * c + j) v).1 1 1 = μ.1 1 1 := by rw [ef, if_neg (by omega)]
  refine mkR h (Nat.le_refl n) (fun off ho => (Eq3.rf ν off).I (by omega)) (fun off g1 g2 g3 => (Eq3.rf μ off).I g1) ?_ ?_ hP
  · refine hL.callc (x := c) hW hc40 (fun off g1 g2 g3 g4 => (Eq3.rf ν off).I g4) (fun k g1 g2 g3 => by rw [(uI_o (show 7 ≠ 7 + (22 + c) by omega)).1]) ?_ F (fun y hy => Or.inr (by rw [f1] at hy; exact hy)) (fun k hk => ?_)
    · rw [(uI_o (show 7 ≠ 7 + (22 + c) by omega)).1, f1]
      exact hL.1.2.1
    · rw [uI_at, ef]
      by_cases e : k = j
      · rw [if_pos ⟨rfl, e⟩, if_pos (by omega)]
      · rw [if_neg (fun z => e z.2), if_neg (by omega)]
        exact hL.2.2.1 c hc k hk
  · refine hW.callc (x := c) hc40 F (fun y hy => Or.inr (by rw [f1] at hy; exact hy)) (by rw [f1]; exact hW.1.2.1) (by rw [f1]; exact Int.le_refl _) ?_ (by rw [ef, if_neg (by omega)]; exact rs)
    rw [ef (330 + 7 * c), if_neg (by omega), ef (330 + 7 * c + 1), if_neg (by omega), ef (330 + 7 * c + 2), if_neg (by omega), ef (330 + 7 * c + 3), ef (330 + 7 * c + 4), ef (330 + 7 * c + 5), ef (330 + 7 * c + 6)]
    match j, hj3, hj with
    | 0, g, _ => exact absurd g (by omega)
    | 1, g, _ => exact absurd g (by omega)
    | 2, g, _ => exact absurd g (by omega)
    | 3, _, _ =>
      rw [if_pos rfl, if_neg (by omega), if_neg (by omega), if_neg (by omega)]
      exact ⟨r0, r1, r2, h3 rfl, r4, r5, r6, r7⟩
    | 4, _, _ =>
      rw [if_neg (by omega), if_pos rfl, if_neg (by omega), if_neg (by omega)]
      exact ⟨r0, r1, r2, r3, h4 rfl, r5, r6, r7⟩
    | 5, _, _ =>
      rw [if_neg (by omega), if_neg (by omega), if_pos rfl, if_neg (by omega)]
      exact ⟨r0, r1, r2, r3, r4, (h5 rfl).1, r6, (h5 rfl).2⟩
    | 6, _, _ =>
      rw [if_neg (by omega), if_neg (by omega), if_neg (by omega), if_pos rfl]
      exact ⟨r0, r1, r2, r3, r4, r5, (h6 rfl).1, (h6 rfl).2⟩
    | j + 7, _, g => exact absurd g (by omega)
theorem change_of {n : Nat} {ν μ : Mm} {ν1 μ1 : Mm} (hs : g_X12_remember μ = some μ1) {x v : Int32} {k : Nat} (hx : x = nI k) (hk : k < 1377) : g_X12_change μ x v = some (μ1.1 1 k, uI μ1 1 k v) := by
  unfold g_X12_change
  rw [hs, bnd_s, hx, asr_pos (vp_in_nI hk (by decide)), bnd_s, cl_nI (by omega)]
theorem s45 : Sm_45 RelP := by
  intro n ν μ hn hR a1 a2
  obtain ⟨⟨hL, hW, hP⟩, -⟩ := id hR
  have e0 := (sh_c hL).2.1
  by_cases h : 0 ≤ a1.toInt ∧ a1.toInt < (μ.1 1 1).toInt
  · obtain ⟨i1, i2, i3, i4, i5⟩ := ix_of (hi := 40) h hW.1.2.1 (by decide)
    by_cases h2 : 0 ≤ a2.toInt ∧ a2.toInt ≤ 999
    · obtain ⟨ν1, μ1, s1, s2, s3, s4, s5, s6⟩ := save_of (hR.th0 0)
      have ef : μ1.1 1 = μ.1 1 := (s5 1 (by decide) (by decide) (by decide)).1
      have hc1 : cl a1 < cl (μ1.1 1 1) := by rw [ef]; exact i1
      have hr := cell_call s3 hc1 (j := 3) (v := a2) (by decide) (by decide) (fun _ => h2) (fun e => absurd e (by decide)) (fun e => absurd e (by decide)) (fun e => absurd e (by decide))
      refine wo_ok (v := μ1.1 1 (330 + 7 * cl a1 + 3)) (hr.mono (Nat.le_succ n)) ?_ ?_ ?_
      · rw [uI_at, if_neg (fun z => absurd z.1 (by decide)), s6 0 (by decide)]
        rfl
      · unfold g_X11_setWaste
        rw [rqC, e0, if_pos h, bnd_s, bnx_ok, rqR]
        show bnd (some (if 0 ≤ a2.toInt ∧ a2.toInt ≤ 999 then _ else _)) _ = _
        rw [if_pos h2, bnd_s, bnx_ok, s1, bnd_s, asr_pos i3, bnd_s, s3.1.1.2.2.1 (cl a1) hc1 3 (by decide)]
      · unfold g_X12_setWaste
        rw [bnd_s, bnd_s, bnd_s, isCall_eq hW, isWaste_eq, decide_eq_true h, decide_eq_true h2, pz2]
        show bnd (g_X12_change (uI μ 0 0 0) _ a2) _ = _
        rw [change_of (n := n) (ν := ν) (ν1 := ν1) s2 (show ((330 : Int32) + ((7 : Int32) * a1)) + (3 : Int32) = nI (330 + 7 * cl a1 + 3) from ix_m i4 330 7 3) (by omega)]
        rfl
    · refine wo_er 2 2 hR ?_ ?_ (by simp) rfl (by decide)
      · unfold g_X11_setWaste
        rw [rqC, e0, if_pos h, bnd_s, bnx_ok, rqR]
        show bnd (some (if 0 ≤ a2.toInt ∧ a2.toInt ≤ 999 then _ else _)) _ = _
        rw [if_neg h2]
        rfl
      · unfold g_X12_setWaste
        rw [bnd_s, bnd_s, bnd_s, isCall_eq hW, isWaste_eq, decide_eq_true h, decide_eq_false h2, pz2]
        rfl
  · refine wo_er 1 1 hR ?_ ?_ (by simp) rfl (by decide)
    · unfold g_X11_setWaste
      rw [rqC, e0, if_neg h]
      rfl
    · unfold g_X12_setWaste
      rw [bnd_s, bnd_s, bnd_s, isCall_eq hW, pz2, decide_eq_false h]
      rfl
/-- the tonnage of a ship, in both -/
theorem cell_tons {n : Nat} {ν μ : Mm} (h : RelP n ν μ) {s : Nat} (hs : s < cl (μ.1 1 0)) {v : Int32} (hv : rg v 0 9999) : RelP n (uI ν (7 + (6 + 2 * s)) 2 v) (uI μ 1 (274 + 7 * s) v) := by
  obtain ⟨hL, hW, hP⟩ := h.1
  have n0 := (cl_of hW.1.1).2.2
  have hs8 : s < 8 := by omega
  have ef : ∀ k, (uI μ 1 (274 + 7 * s) v).1 1 k = if k = 274 + 7 * s then v else μ.1 1 k := fun k => by
    rw [uI_at]
    by_cases e : k = 274 + 7 * s
    · rw [if_pos ⟨rfl, e⟩, if_pos e]
    · rw [if_neg (fun z => e z.2), if_neg e]
  have F : ∀ k, k < 1377 ∧ k ≠ 0 ∧ (k < 274 + 7 * s ∨ 274 + 7 * s + 7 ≤ k) → (uI μ 1 (274 + 7 * s) v).1 1 k = μ.1 1 k := fun k hk => by rw [ef, if_neg (by omega)]
  have f0 : (uI μ 1 (274 + 7 * s) v).1 1 0 = μ.1 1 0 := by rw [ef, if_neg (by omega)]
  obtain ⟨x1, x2, x3⟩ := hL.2.1 s hs
  refine mkR h (Nat.le_refl n) (fun off ho => (Eq3.rf ν off).I (by omega)) (fun off g1 g2 g3 => (Eq3.rf μ off).I g1) ?_ ?_ hP
  · refine hL.shipc (x := s) hW hs8 (fun off g1 g2 g3 g4 _ => (Eq3.rf ν off).I g4) (fun k g1 g2 g3 => by rw [(uI_o (show 7 ≠ 7 + (6 + 2 * s) by omega)).1]) ?_ F (fun y hy => Or.inr (by rw [f0] at hy; exact hy)) ⟨?_, x2, ?_⟩ (fun _ _ _ => rfl)
    · rw [(uI_o (show 7 ≠ 7 + (6 + 2 * s) by omega)).1, f0]
      exact hL.1.1
    · rw [uI_at, if_pos ⟨rfl, rfl⟩, ef, if_pos rfl]
    · have e1 : (uI ν (7 + (6 + 2 * s)) 2 v).1 (7 + (6 + 2 * s)) 1 = ν.1 (7 + (6 + 2 * s)) 1 := by rw [uI_at, if_neg (fun z => absurd z.2 (by decide))]
      have e2 : (uI ν (7 + (6 + 2 * s)) 2 v).1 (7 + (6 + 2 * s) + 1) = ν.1 (7 + (6 + 2 * s) + 1) := ((Eq3.rf ν _).I (by omega)).1
      rw [e1, e2]
      exact x3.cg (fun k hk => by rw [ef, if_neg (by omega)])
  · exact hW.shipc (x := s) hs8 F (by rw [f0]; exact hW.1.1) (by rw [f0]; exact Int.le_refl _) (by rw [ef, if_pos rfl]; exact hv)
theorem s46 : Sm_46 RelP := by
  intro n ν μ hn hR a1 a2
  obtain ⟨⟨hL, hW, hP⟩, -⟩ := id hR
  have e0 := (sh_c hL).1
  have er : f_X12_in a2.toInt64 (1 : Int64) (9999 : Int64) = decide (1 ≤ a2.toInt ∧ a2.toInt ≤ 9999) := inX_eq
  by_cases h : 0 ≤ a1.toInt ∧ a1.toInt < (μ.1 1 0).toInt
  · obtain ⟨i1, i2, i3, i4, i5⟩ := ix_of (hi := 8) h hW.1.1 (by decide)
    by_cases h2 : 1 ≤ a2.toInt ∧ a2.toInt ≤ 9999
    · obtain ⟨ν1, μ1, s1, s2, s3, s4, s5, s6⟩ := save_of (hR.th0 0)
      have ef : μ1.1 1 = μ.1 1 := (s5 1 (by decide) (by decide) (by decide)).1
      have hc1 : cl a1 < cl (μ1.1 1 0) := by rw [ef]; exact i1
      have hr := cell_tons s3 hc1 (v := a2) ⟨by omega, h2.2⟩
      refine wo_ok (v := μ1.1 1 (274 + 7 * cl a1)) (hr.mono (Nat.le_succ n)) ?_ ?_ ?_
      · rw [uI_at, if_neg (fun z => absurd z.1 (by decide)), s6 0 (by decide)]
        rfl
      · unfold g_X11_setTons
        rw [rqS, e0, if_pos h, bnd_s, bnx_ok, rqR]
        show bnd (some (if 1 ≤ a2.toInt ∧ a2.toInt ≤ 9999 then _ else _)) _ = _
        rw [if_pos h2, bnd_s, bnx_ok, s1, bnd_s, asr_pos i3, bnd_s, (s3.1.1.2.1 (cl a1) hc1).1]
      · unfold g_X12_setTons
        rw [bnd_s, bnd_s, bnd_s, isShip_eq hW, er, decide_eq_true h, decide_eq_true h2, pz2]
        show bnd (g_X12_change (uI μ 0 0 0) _ a2) _ = _
        rw [change_of (n := n) (ν := ν) (ν1 := ν1) s2 (show ((274 : Int32) + ((7 : Int32) * a1)) + (0 : Int32) = nI (274 + 7 * cl a1 + 0) from ix_m i4 274 7 0) (by omega)]
        rfl
    · refine wo_er 2 2 hR ?_ ?_ (by simp) rfl (by decide)
      · unfold g_X11_setTons
        rw [rqS, e0, if_pos h, bnd_s, bnx_ok, rqR]
        show bnd (some (if 1 ≤ a2.toInt ∧ a2.toInt ≤ 9999 then _ else _)) _ = _
        rw [if_neg h2]
        rfl
      · unfold g_X12_setTons
        rw [bnd_s, bnd_s, bnd_s, isShip_eq hW, er, decide_eq_true h, decide_eq_false h2, pz2]
        rfl
  · refine wo_er 1 1 hR ?_ ?_ (by simp) rfl (by decide)
    · unfold g_X11_setTons
      rw [rqS, e0, if_neg h]
      rfl
    · unfold g_X12_setTons
      rw [bnd_s, bnd_s, bnd_s, isShip_eq hW, pz2, decide_eq_false h]
      rfl
theorem s52 : Sm_52 RelP := by
  intro n ν μ hn hR a1 a2
  obtain ⟨⟨hL, hW, hP⟩, -⟩ := id hR
  have e0 := (sh_c hL).1
  have er : f_X12_in a2.toInt64 (1 : Int64) (1000000000 : Int64) = decide (1 ≤ a2.toInt ∧ a2.toInt ≤ 1000000000) := inX_eq
  by_cases h : 0 ≤ a1.toInt ∧ a1.toInt < (μ.1 1 0).toInt
  · obtain ⟨i1, i2, i3, i4, i5⟩ := ix_of (hi := 8) h hW.1.1 (by decide)
    by_cases h2 : 1 ≤ a2.toInt ∧ a2.toInt ≤ 1000000000
    · obtain ⟨ν1, μ1, s1, s2, s3, s4, s5, s6⟩ := save_of (hR.th0 0)
      have ef : μ1.1 1 = μ.1 1 := (s5 1 (by decide) (by decide) (by decide)).1
      have hc1 : cl a1 < cl (μ1.1 1 0) := by rw [ef]; exact i1
      obtain ⟨hL1, hW1, hP1⟩ := s3.1
      obtain ⟨x1, x2, x3⟩ := hL1.2.1 (cl a1) hc1
      obtain ⟨p1, p2⟩ := hP1 (cl a1) i2
      have n0 := (cl_of hW1.1.1).2.2
      have sm : (μ1.2.1 3 (cl a1) + a2.toInt64).toInt = (μ1.2.1 3 (cl a1)).toInt + a2.toInt := by
        rw [tl_add (by rw [ti_l]; omega) (by rw [ti_l]; omega), ti_l]
      have hr : RelP (n + 1) (uP ν1 (7 + (6 + 2 * cl a1)) 3 (μ1.2.1 3 (cl a1) + a2.toInt64)) (uP μ1 3 (cl a1) (μ1.2.1 3 (cl a1) + a2.toInt64)) := by
        refine mkR s3 (Nat.le_succ n) (fun off ho => (Eq3.rf ν1 off).P (by omega)) (fun off g1 g2 g3 => (Eq3.rf μ1 off).P g3) ?_ hW1 (fun s hs => ?_)
        · refine hL1.shipc (x := cl a1) hW1 i2 (fun off g1 g2 g3 g4 _ => (Eq3.rf ν1 off).P g4) (fun k g1 g2 g3 => rfl) hL1.1.1 (fun _ _ => rfl) (fun y hy => Or.inr hy) ⟨x1, ?_, x3⟩ (fun y hy hyn => ?_)
          · rw [uP_at, uP_at, if_pos ⟨rfl, rfl⟩, if_pos ⟨rfl, rfl⟩]
          · rw [uP_at, if_neg (fun z => hyn z.2)]
        · rw [uP_at]
          obtain ⟨q1, q2⟩ := hP1 s hs
          by_cases e : s = cl a1
          · rw [if_pos ⟨rfl, e⟩, sm]
            exact ⟨by omega, by omega⟩
          · rw [if_neg (fun z => e z.2)]
            exact ⟨by omega, by omega⟩
      refine ⟨.ok (μ1.2.1 3 (cl a1) + a2.toInt64, uP ν1 (7 + (6 + 2 * cl a1)) 3 (μ1.2.1 3 (cl a1) + a2.toInt64)), (μ1.2.1 3 (cl a1) + a2.toInt64, uP μ1 3 (cl a1) (μ1.2.1 3 (cl a1) + a2.toInt64)), ?_, fun k h => (by cases h), ?_, ?_, fun _ _ => rfl, hr⟩
      · unfold g_X11_pay
        rw [rqS, e0, if_pos h, bnd_s, bnx_ok, rqR]
        show bnd (some (if 1 ≤ a2.toInt ∧ a2.toInt ≤ 1000000000 then _ else _)) _ = _
        rw [if_pos h2, bnd_s, bnx_ok, s1, bnd_s, asr_pos i3, bnd_s, x2, uP_at, if_pos ⟨rfl, rfl⟩]
      · unfold g_X12_pay
        rw [bnd_s, bnd_s, bnd_s, isShip_eq hW, er, decide_eq_true h, decide_eq_true h2, pz2]
        show bnd (g_X12_remember (uI μ 0 0 0)) _ = _
        rw [s2, bnd_s, asr_pos i3, bnd_s, uP_at, if_pos ⟨rfl, rfl⟩]
      · show (0 : Int32) = μ1.1 0 0
        rw [s6 0 (by decide)]
        rfl
    · refine ⟨.error 2, (0, uI μ 0 0 2), ?_, fun k h => (by cases h; exact Or.inr rfl), ?_, rfl, fun _ g => absurd g (by decide), hR.thr 2⟩
      · unfold g_X11_pay
        rw [rqS, e0, if_pos h, bnd_s, bnx_ok, rqR]
        show bnd (some (if 1 ≤ a2.toInt ∧ a2.toInt ≤ 1000000000 then _ else _)) _ = _
        rw [if_neg h2]
        rfl
      · unfold g_X12_pay
        rw [bnd_s, bnd_s, bnd_s, isShip_eq hW, er, decide_eq_true h, decide_eq_false h2, pz2]
        rfl
  · refine ⟨.error 1, (0, uI μ 0 0 1), ?_, fun k h => (by cases h; exact Or.inl rfl), ?_, rfl, fun _ g => absurd g (by decide), hR.thr 1⟩
    · unfold g_X11_pay
      rw [rqS, e0, if_neg h]
      rfl
    · unfold g_X12_pay
      rw [bnd_s, bnd_s, bnd_s, isShip_eq hW, pz2, decide_eq_false h]
      rfl
theorem s53 : Sm_53 RelP := by
  intro n ν μ hn hR a1
  obtain ⟨⟨hL, hW, hP⟩, -⟩ := id hR
  have e0 : ν.1 7 10 = μ.1 1 5 := hL.1.2.2.2.2.2
  have w5 := hW.1.2.2.2.2.2.1
  have er : f_X12_in a1.toInt64 (1 : Int64) (3600 : Int64) = decide (1 ≤ a1.toInt ∧ a1.toInt ≤ 3600) := inX_eq
  have z9 : ((99999 : Int32)).toInt = 99999 := rfl
  by_cases h : 1 ≤ a1.toInt ∧ a1.toInt ≤ 3600
  · have sm : (μ.1 1 5 + a1).toInt = (μ.1 1 5).toInt + a1.toInt := ti_add (by have := w5.1; omega) (by have := w5.2; omega)
    by_cases h2 : (99999 : Int32) < μ.1 1 5 + a1
    · refine wo_er 3 2 hR ?_ ?_ (by simp) rfl (by decide)
      · unfold g_X11_advance
        rw [rqR]
        show bnd (some (if 1 ≤ a1.toInt ∧ a1.toInt ≤ 3600 then _ else _)) _ = _
        rw [if_pos h, bnd_s, bnx_ok, e0, if_pos h2]
        rfl
      · unfold g_X12_advance
        rw [bnd_s, bnd_s, er, decide_eq_true h, if_pos rfl, if_pos h2]
        unfold g_X12_advance_J40
        rw [bnd_s, pz2]
        rfl
    · obtain ⟨ν1, μ1, s1, s2, s3, s4, s5, s6⟩ := save_of (hR.th0 0)
      have ef : μ1.1 1 = μ.1 1 := (s5 1 (by decide) (by decide) (by decide)).1
      have ef5 : μ1.1 1 5 = μ.1 1 5 := by rw [ef]
      obtain ⟨hL1, hW1, hP1⟩ := s3.1
      have e1 : ν1.1 7 10 = μ.1 1 5 := hL1.1.2.2.2.2.2.trans ef5
      have e2 : ∀ k, (uI μ1 1 5 (μ.1 1 5 + a1)).1 1 k = if k = 5 then (μ.1 1 5 + a1) else μ1.1 1 k := fun k => by
        rw [uI_at]
        by_cases e : k = 5
        · rw [if_pos ⟨rfl, e⟩, if_pos e]
        · rw [if_neg (fun z => e z.2), if_neg e]
      have F : ∀ k, k < 1377 ∧ k ≠ 5 → (uI μ1 1 5 (μ.1 1 5 + a1)).1 1 k = μ1.1 1 k := fun k hk => by rw [e2, if_neg hk.2]
      have hr : RelP (n + 1) (uI ν1 7 10 (μ.1 1 5 + a1)) (uI μ1 1 5 (μ.1 1 5 + a1)) := by
        refine mkR s3 (Nat.le_succ n) (fun off ho => (Eq3.rf ν1 off).I (by omega)) (fun off g1 g2 g3 => (Eq3.rf μ1 off).I g1) ?_ ?_ (hP1.mono (Nat.le_succ n))
        · refine hL1.dayc hW1 (fun off g1 g2 g3 => (Eq3.rf ν1 off).I g3) (fun k g1 g2 g3 => by rw [uI_at, if_neg (fun z => g3 z.2)]) ?_ F
          rw [uI_at, if_pos ⟨rfl, rfl⟩, e2, if_pos rfl]
        · refine hW1.dayc F ?_
          rw [e2, if_pos rfl]
          have h3 : ¬ (99999 : Int) < (μ.1 1 5 + a1).toInt := fun z => h2 (lt32.mpr z)
          have := w5.1
          exact ⟨by omega, by omega⟩
      refine wo_ok (v := μ.1 1 5 + a1) hr ?_ ?_ ?_
      · rw [uI_at, if_neg (fun z => absurd z.1 (by decide)), s6 0 (by decide)]
        rfl
      · unfold g_X11_advance
        rw [rqR]
        show bnd (some (if 1 ≤ a1.toInt ∧ a1.toInt ≤ 3600 then _ else _)) _ = _
        rw [if_pos h, bnd_s, bnx_ok, e0, if_neg h2]
        unfold g_X11_advance_J28 g_X11_requireState
        rw [if_pos rfl, bnd_s, bnx_ok, s1, bnd_s, bnd_s, e1, uI_at, if_pos ⟨rfl, rfl⟩]
      · unfold g_X12_advance
        rw [bnd_s, bnd_s, er, decide_eq_true h, if_pos rfl, if_neg h2]
        unfold g_X12_advance_J35 g_X12_advance_J40
        rw [bnd_s, pz2]
        show bnd (g_X12_remember (uI μ 0 0 0)) _ = _
        rw [s2, bnd_s, bnd_s, ef5, uI_at, if_pos ⟨rfl, rfl⟩]
  · refine wo_er 2 1 hR ?_ ?_ (by simp) rfl (by decide)
    · unfold g_X11_advance
      rw [rqR]
      show bnd (some (if 1 ≤ a1.toInt ∧ a1.toInt ≤ 3600 then _ else _)) _ = _
      rw [if_neg h]
      rfl
    · unfold g_X12_advance
      rw [bnd_s, bnd_s, er, decide_eq_false h]
      unfold g_X12_advance_J35 g_X12_advance_J40
      rw [if_neg (by decide), bnd_s, pz2]
      rfl
