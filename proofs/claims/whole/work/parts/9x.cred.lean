/-! PURE. Credit notes. -/
theorem rg15 {x : Int32} : rg x 0 15 ↔ x.toBitVec.toNat < 2 ^ 4 := by
  have h := ti_bv x
  have hl : x.toBitVec.toNat < 2 ^ 32 := x.toBitVec.isLt
  unfold rg
  rw [h]
  split
  · omega
  · omega
theorem rg15_or {x y : Int32} (hx : rg x 0 15) (hy : rg y 0 15) : rg (x ||| y) 0 15 := by
  rw [rg15] at *
  show (x.toBitVec ||| y.toBitVec).toNat < 2 ^ 4
  rw [BitVec.toNat_or]
  exact Nat.or_lt_two_pow hx hy
theorem rg15_and {x : Int32} (y : Int32) (hx : rg x 0 15) : rg (x &&& y) 0 15 := by
  rw [rg15] at *
  show (x.toBitVec &&& y.toBitVec).toNat < 2 ^ 4
  rw [BitVec.toNat_and]
  exact Nat.lt_of_le_of_lt Nat.and_le_left hx
theorem sumOf_raw {ν : Mm} {o i : Nat} {f : Nat → Int32} (h1 : isInv o) (h2 : ∀ l, l < 4 → ν.1 (o + 1) l = f (617 + 10 * i + (6 + l))) (s : Int32) : g_X4_sumOf ν o s = some (sm4 f i s 4) := by
  have step : ∀ (n : Nat) (j : Nat), j < 4 → g_X4_sumOf_L4 ν o s (n + 1) (sm4 f i s j) (nI j) = g_X4_sumOf_L4 ν o s n (sm4 f i s (j + 1)) (nI (j + 1)) := by
    intro n j hj
    conv => lhs; unfold g_X4_sumOf_L4
    rw [if_neg (by rw [le32, nI_toInt (by omega)]; show ¬ (4 : Int) ≤ j; omega), contains_eq]
    show (if f_X12_has s (nI j) = true then _ else _) = _
    rw [nI1, cl_nI (by omega), h2 j hj]
    show _ = g_X4_sumOf_L4 ν _ s n (if f_X12_has s (nI j) = true then sm4 f i s j + f (617 + 10 * i + (6 + j)) else sm4 f i s j) (nI (j + 1))
    split
    · rw [asr_pos (vp_in_nI (by omega) (by decide))]
    · rfl
  unfold g_X4_sumOf
  rw [asr_pos h1]
  show g_X4_sumOf_L4 ν _ s (9995 + 1 + 1 + 1 + 1 + 1) (sm4 f i s 0) (nI 0) = _
  rw [step _ 0 (by decide), step _ 1 (by decide), step _ 2 (by decide), step _ 3 (by decide)]
  unfold g_X4_sumOf_L4
  rw [if_pos (by decide)]
/-- the class's note -/
theorem nn_cls {ν : Mm} {i m : Nat} {a1 a2 : Int32} {f : Nat → Int32} (ha : a1 = nI i) (hi : i < 60) (hm : m < 40) (e8 : ν.1 7 8 = nI m) (h2 : ∀ l, l < 4 → ν.1 (7 + (62 + 2 * i) + 1) l = f (617 + 10 * i + (6 + l))) : ∃ r, g_X0_newNote ν a1 a2 = some (nI m, r) ∧ (∀ off, off ≠ 7 → off ≠ 7 + (62 + 2 * i) → off ≠ 7 + (182 + m) → Eq3 ν r off) ∧ (∀ k, k ≠ 8 → r.1 7 k = ν.1 7 k) ∧ r.1 7 8 = nI (m + 1) ∧ ((∀ k, k ≠ 5 → r.1 (7 + (62 + 2 * i)) k = ν.1 (7 + (62 + 2 * i)) k) ∧ r.1 (7 + (62 + 2 * i)) 5 = ν.1 (7 + (62 + 2 * i)) 5 ||| a2 ∧ r.2 = ν.2) ∧ r.1 (7 + (182 + m)) 0 = a1 ∧ r.1 (7 + (182 + m)) 1 = a2 ∧ r.1 (7 + (182 + m)) 2 = ν.1 7 10 ∧ r.1 (7 + (182 + m)) 3 = -(sm4 f i a2 4) := by
  have n1 : ¬ 7 = 7 + (62 + 2 * i) := by omega
  have n2 : ¬ 7 = 7 + (182 + m) := by omega
  have n3 : ¬ 7 + (62 + 2 * i) = 7 + (182 + m) := by omega
  have n4 : ¬ 7 + (182 + m) = 7 + (62 + 2 * i) := by omega
  have n5 : ¬ 7 + (182 + m) = 7 := by omega
  have n6 : ¬ 7 + (62 + 2 * i) = 7 := by omega
  have n7 : ¬ 62 + 2 * i = 182 + m := by omega
  have n8 : ¬ 182 + m = 62 + 2 * i := by omega
  have ci : cl a1 = i := by rw [ha]; exact cl_nI (by omega)
  unfold g_X0_newNote
  rw [ci, ha, asr_pos (vp_in_nI hi (by decide)), bnd_s, show (uI ν (7 + (62 + 2 * i)) 5 (ν.1 (7 + (62 + 2 * i)) 5 ||| a2)).1 7 8 = nI m from by rw [uI_at, if_neg (fun z => n1 z.1)]; exact e8, asr_pos (vp_in_nI hm (by decide)), cl_nI (show m < 2 ^ 31 by omega), bnd_s, bnd_s, bnd_s]
  rw [sumOf_raw (i := i) (f := f) ⟨7, i, led7, hi, rfl⟩ (fun l hl => by
    rw [uI_at, if_neg (fun z => absurd z.1 (by omega)), uI_at, if_neg (fun z => absurd z.1 (by omega)), uI_at, if_neg (fun z => absurd z.1 (by omega)), uI_at, if_neg (fun z => absurd z.1 (by omega))]
    exact h2 l hl), bnd_s, bnd_s, bnd_s]
  have e10 : (uI (uI (uI ν (7 + (62 + 2 * i)) 5 (ν.1 (7 + (62 + 2 * i)) 5 ||| a2)) (7 + (182 + m)) 0 (nI i)) (7 + (182 + m)) 1 a2).1 7 10 = ν.1 7 10 := by
    simp [uI_at, n1, n2]
  rw [e10]
  have e88 : (uI (uI (uI (uI (uI ν (7 + (62 + 2 * i)) 5 (ν.1 (7 + (62 + 2 * i)) 5 ||| a2)) (7 + (182 + m)) 0 (nI i)) (7 + (182 + m)) 1 a2) (7 + (182 + m)) 2 (ν.1 7 10)) (7 + (182 + m)) 3 (-(sm4 f i a2 4))).1 7 8 = nI m := by
    simp [uI_at, n1, n2]
    exact e8
  rw [e88, nI1]
  refine ⟨_, rfl, fun off g1 g2 g3 => ((((((Eq3.rf ν off).I g2).I g3).I g3).I g3).I g3).I g1, fun k hk => ?_, ?_, ⟨fun k hk => ?_, ?_⟩, ?_, ?_, ?_, ?_⟩
  · simp [uI_at, n1, n2, hk]
  · rw [uI_at, if_pos ⟨rfl, rfl⟩]
  · simp [uI_at, n3, n6, n7, n8, hk]
  · refine ⟨?_, rfl⟩
    simp [uI_at, n3, n6, n7, n8]
  · simp [uI_at, n4, n5, n7, n8]
  · simp [uI_at, n4, n5, n7, n8]
  · simp [uI_at, n4, n5, n7, n8]
  · simp [uI_at, n4, n5, n7, n8]
/-- the model's note -/
theorem nn_mod {ν0 μ : Mm} {i m : Nat} {a1 a2 : Int32} (ha : a1 = nI i) (hi : i < 60) (hm : m < 40) (e3 : μ.1 1 3 = nI m) : ∃ r, g_X12_credit_L67 ν0 a1 a2 10000 μ (0 : Int32) (0 : Int32) = some (nI m, r) ∧ (∀ off, off ≠ 1 → Eq3 μ r off) ∧ (∀ k, k ≠ 3 → k ≠ 617 + 10 * i + 4 → (k < 1217 + 4 * m ∨ 1217 + 4 * m + 4 ≤ k) → r.1 1 k = μ.1 1 k) ∧ r.1 1 3 = nI (m + 1) ∧ r.1 1 (617 + 10 * i + 4) = μ.1 1 (617 + 10 * i + 4) ||| a2 ∧ r.1 1 (1217 + 4 * m) = a1 ∧ r.1 1 (1217 + 4 * m + 1) = a2 ∧ r.1 1 (1217 + 4 * m + 2) = μ.1 1 5 ∧ r.1 1 (1217 + 4 * m + 3) = -(sm4 (μ.1 1) i a2 4) := by
  have step : ∀ (n : Nat) (j : Nat), j < 4 → g_X12_credit_L67 ν0 a1 a2 (n + 1) μ (sm4 (μ.1 1) i a2 j) (nI j) = g_X12_credit_L67 ν0 a1 a2 n μ (sm4 (μ.1 1) i a2 (j + 1)) (nI (j + 1)) := by
    intro n j hj
    have li : f_X12_lineIn μ a1 (nI j) = μ.1 1 (617 + 10 * i + (6 + j)) := by
      unfold f_X12_lineIn
      rw [ha, show (6 : Int32) = nI 6 from rfl, nI_add]
      exact ofInv_eq (by omega) (by omega)
    conv => lhs; unfold g_X12_credit_L67
    rw [if_neg (by rw [le32, nI_toInt (by omega)]; show ¬ (4 : Int) ≤ j; omega), bnd_s, li, nI1, Int32.add_zero]
    show _ = g_X12_credit_L67 ν0 a1 a2 n μ (if f_X12_has a2 (nI j) = true then sm4 (μ.1 1) i a2 j + μ.1 1 (617 + 10 * i + (6 + j)) else sm4 (μ.1 1) i a2 j) (nI (j + 1))
    split
    · rw [asr_pos (by rw [ha]; exact vp_in_nI hi (by decide)), asr_pos (vp_in_nI (by omega) (by decide)), bnd_s]
    · rfl
  have J0 : ((1217 : Int32) + ((4 : Int32) * nI m)) + (0 : Int32) = nI (1217 + 4 * m + 0) := ix_m rfl 1217 4 0
  have J1 : ((1217 : Int32) + ((4 : Int32) * nI m)) + (1 : Int32) = nI (1217 + 4 * m + 1) := ix_m rfl 1217 4 1
  have J2 : ((1217 : Int32) + ((4 : Int32) * nI m)) + (2 : Int32) = nI (1217 + 4 * m + 2) := ix_m rfl 1217 4 2
  have J3 : ((1217 : Int32) + ((4 : Int32) * nI m)) + (3 : Int32) = nI (1217 + 4 * m + 3) := ix_m rfl 1217 4 3
  have J4 : ((617 : Int32) + ((10 : Int32) * a1)) + (4 : Int32) = nI (617 + 10 * i + 4) := ix_m ha 617 10 4
  show ∃ r, g_X12_credit_L67 ν0 a1 a2 (9995 + 1 + 1 + 1 + 1 + 1) μ (sm4 (μ.1 1) i a2 0) (nI 0) = some (nI m, r) ∧ _
  rw [step _ 0 (by decide), step _ 1 (by decide), step _ 2 (by decide), step _ 3 (by decide)]
  unfold g_X12_credit_L67
  rw [if_pos (by decide), e3, J0, J1, J2, J3, J4, asr_pos (vp_in_nI (by omega) (by decide)), bnd_s, asr_pos (vp_in_nI (by omega) (by decide)), bnd_s, asr_pos (vp_in_nI (by omega) (by decide)), bnd_s, asr_pos (vp_in_nI (by omega) (by decide)), bnd_s, asr_pos (vp_in_nI (by omega) (by decide)), bnd_s, bnd_s, cl_nI (show 1217 + 4 * m + 0 < 2 ^ 31 by omega), cl_nI (show 1217 + 4 * m + 1 < 2 ^ 31 by omega), cl_nI (show 1217 + 4 * m + 2 < 2 ^ 31 by omega), cl_nI (show 1217 + 4 * m + 3 < 2 ^ 31 by omega), cl_nI (show 617 + 10 * i + 4 < 2 ^ 31 by omega)]
  have d5 : (uI (uI μ 1 (1217 + 4 * m + 0) a1) 1 (1217 + 4 * m + 1) a2).1 1 5 = μ.1 1 5 := by
    rw [uI_at, if_neg (fun z => absurd z.2 (by omega)), uI_at, if_neg (fun z => absurd z.2 (by omega))]
  rw [d5]
  have d4 : (uI (uI (uI (uI μ 1 (1217 + 4 * m + 0) a1) 1 (1217 + 4 * m + 1) a2) 1 (1217 + 4 * m + 2) (μ.1 1 5)) 1 (1217 + 4 * m + 3) (-(sm4 (μ.1 1) i a2 (3 + 1)))).1 1 (617 + 10 * i + 4) = μ.1 1 (617 + 10 * i + 4) := by
    rw [uI_at, if_neg (fun z => absurd z.2 (by omega)), uI_at, if_neg (fun z => absurd z.2 (by omega)), uI_at, if_neg (fun z => absurd z.2 (by omega)), uI_at, if_neg (fun z => absurd z.2 (by omega))]
  rw [d4]
  have d3 : (uI (uI (uI (uI (uI μ 1 (1217 + 4 * m + 0) a1) 1 (1217 + 4 * m + 1) a2) 1 (1217 + 4 * m + 2) (μ.1 1 5)) 1 (1217 + 4 * m + 3) (-(sm4 (μ.1 1) i a2 (3 + 1)))) 1 (617 + 10 * i + 4) (μ.1 1 (617 + 10 * i + 4) ||| a2)).1 1 3 = nI m := by
    rw [uI_at, if_neg (fun z => absurd z.2 (by omega)), uI_at, if_neg (fun z => absurd z.2 (by omega)), uI_at, if_neg (fun z => absurd z.2 (by omega)), uI_at, if_neg (fun z => absurd z.2 (by omega)), uI_at, if_neg (fun z => absurd z.2 (by omega))]
    exact e3
  rw [d3, nI1]
  have A : ∀ (x0 x1 x2 x3 x4 x5 : Int32) (k : Nat), (uI (uI (uI (uI (uI (uI μ 1 (1217 + 4 * m + 0) x0) 1 (1217 + 4 * m + 1) x1) 1 (1217 + 4 * m + 2) x2) 1 (1217 + 4 * m + 3) x3) 1 (617 + 10 * i + 4) x4) 1 3 x5).1 1 k = if k = 3 then x5 else if k = 617 + 10 * i + 4 then x4 else if k = 1217 + 4 * m + 3 then x3 else if k = 1217 + 4 * m + 2 then x2 else if k = 1217 + 4 * m + 1 then x1 else if k = 1217 + 4 * m + 0 then x0 else μ.1 1 k := fun x0 x1 x2 x3 x4 x5 k => by
    simp only [uI_at, true_and]
  refine ⟨_, rfl, fun off ho => ((((((Eq3.rf μ off).I ho).I ho).I ho).I ho).I ho).I ho, fun k k1 k2 k3 => ?_, ?_, ?_, ?_, ?_, ?_, ?_⟩
  · rw [A, if_neg k1, if_neg k2, if_neg (by omega), if_neg (by omega), if_neg (by omega), if_neg (by omega)]
  · rw [A, if_pos rfl]
  · rw [A, if_neg (by omega), if_pos rfl]
  · rw [A, if_neg (by omega), if_neg (by omega), if_neg (by omega), if_neg (by omega), if_neg (by omega), if_pos (by omega)]
  · rw [A, if_neg (by omega), if_neg (by omega), if_neg (by omega), if_neg (by omega), if_pos rfl]
  · rw [A, if_neg (by omega), if_neg (by omega), if_neg (by omega), if_pos rfl]
  · rw [A, if_neg (by omega), if_neg (by omega), if_pos rfl]
theorem s49 : Sm_49 RelP := by
  intro n ν μ hn hR a1 a2
  obtain ⟨⟨hL, hW, hP⟩, -⟩ := id hR
  have e0 := (sh_c hL).2.2.1
  have e8 : ν.1 7 8 = μ.1 1 3 := (sh_c hL).2.2.2
  have er : f_X12_in a2.toInt64 (1 : Int64) (15 : Int64) = decide (1 ≤ a2.toInt ∧ a2.toInt ≤ 15) := inX_eq
  have z40 : ((40 : Int32)).toInt = 40 := rfl
  by_cases h : 0 ≤ a1.toInt ∧ a1.toInt < (μ.1 1 2).toInt
  · obtain ⟨i1, i2, i3, i4, i5⟩ := ix_of (hi := 60) h hW.1.2.2.1 (by decide)
    have g0 : ∀ z, bnd (g_X11_requireInvoice ν a1) z = (z (.ok ()) : Option (Thr (Int32 × Mm))) := fun z => by rw [rqV, e0, if_pos h, bnd_s]
    have st := standing_of hL hW i1
    rw [← i4] at st
    by_cases h2 : 1 ≤ a2.toInt ∧ a2.toInt ≤ 15
    · have g1 : ∀ z, bnd (g_X11_requireRange ν a2 (1 : Int32) (15 : Int32)) z = (z (.ok ()) : Option (Thr (Int32 × Mm))) := fun z => by
        rw [rqR]
        show bnd (some (if 1 ≤ a2.toInt ∧ a2.toInt ≤ 15 then _ else _)) _ = _
        rw [if_pos h2, bnd_s]
      by_cases h3 : a2 &&& (f_X12_livingLines μ a1 ^^^ (-1 : Int32)) = 0 ∧ ¬ (40 : Int32) ≤ μ.1 1 3
      · obtain ⟨h3, h4⟩ := h3
        obtain ⟨ν1, μ1, s1, s2, s3, s4, s5, s6⟩ := save_of (hR.th0 0)
        have ef : μ1.1 1 = μ.1 1 := (s5 1 (by decide) (by decide) (by decide)).1
        obtain ⟨hL1, hW1, hP1⟩ := s3.1
        obtain ⟨k1, k2, k3⟩ := cl_of hW1.1.2.2.2.1
        obtain ⟨m, em⟩ : ∃ m, m = cl (μ1.1 1 3) := ⟨_, rfl⟩
        obtain ⟨i, ei⟩ : ∃ i, i = cl a1 := ⟨_, rfl⟩
        have hm : m < 40 := by
          rw [le32, z40] at h4
          rw [em]
          rw [ef] at k2 ⊢
          omega
        rw [← em] at k1 k2
        rw [← ei] at i1 i2 i4
        have i1' : i < cl (μ1.1 1 2) := by rw [ef]; exact i1
        obtain ⟨j60, j1, j2, j3, j4, j5, j6⟩ := inv_at hL1 hW1 i1'
        obtain ⟨w0, w1, w2, w3, w4, w5, w6, w7⟩ := hW1.2.2.2.2.2.2.2.2.2.2.2.1 i (by omega)
        obtain ⟨ν2, q1, q2, q3, q4, ⟨q5, q6, qq⟩, q7, q8, q9, q10⟩ := nn_cls (ν := ν1) (a2 := a2) (f := μ1.1 1) i4 i2 hm ((sh_c hL1).2.2.2.trans k1) j3
        obtain ⟨μ2, m1, m2, m3, m4, m5, m6, m7, m8, m9⟩ := nn_mod (ν0 := μ) (μ := μ1) (a2 := a2) i4 i2 hm k1
        -- the row of the invoice first
        have G : ∀ k, (fun k => if k = 617 + 10 * i + 4 then μ1.1 1 (617 + 10 * i + 4) ||| a2 else μ1.1 1 k) k = if k = 617 + 10 * i + 4 then μ1.1 1 (617 + 10 * i + 4) ||| a2 else μ1.1 1 k := fun k => rfl
        obtain ⟨f1, ef1⟩ : ∃ f1 : Nat → Int32, ∀ k, f1 k = if k = 617 + 10 * i + 4 then μ1.1 1 (617 + 10 * i + 4) ||| a2 else μ1.1 1 k := ⟨_, G⟩
        have F1 : ∀ k, k < 1377 ∧ k ≠ 2 ∧ (k < 617 + 10 * i ∨ 617 + 10 * i + 10 ≤ k) → f1 k = μ1.1 1 k := fun k hk => by rw [ef1, if_neg (by omega)]
        have f12 : f1 2 = μ1.1 1 2 := by rw [ef1, if_neg (by omega)]
        have hLa : LdR (uI ν1 (7 + (62 + 2 * i)) 5 (ν1.1 (7 + (62 + 2 * i)) 5 ||| a2)) 7 f1 (μ2.2.1 3) := by
          rw [(m2 3 (by decide)).2.1]
          refine hL1.invc (x := i) hW1 i2 (fun off g1 g2 g3 g4 g5 => (Eq3.rf ν1 off).I g4) (fun k g1 g2 g3 => by rw [(uI_o (show 7 ≠ 7 + (62 + 2 * i) by omega)).1]) ?_ F1 (fun y hy => Or.inr (by rw [f12] at hy; exact hy)) (fun _ => ⟨fun k hk => ?_, fun l hl => ?_⟩)
          · rw [(uI_o (show 7 ≠ 7 + (62 + 2 * i) by omega)).1, f12]
            exact (sh_c hL1).2.2.1
          · rw [uI_at, ef1]
            by_cases e : k = 4
            · rw [if_pos ⟨rfl, by omega⟩, if_pos (by omega), j2 4 (by decide)]
            · rw [if_neg (fun z => e (by have := z.2; omega)), if_neg (by omega)]
              exact j2 k hk
          · rw [(uI_o (show 7 + (62 + 2 * i) + 1 ≠ 7 + (62 + 2 * i) by omega)).1, ef1, if_neg (by omega)]
            exact j3 l hl
        have hWa : Wf f1 := by
          refine hW1.invc (x := i) i2 F1 (fun y hy => Or.inr (by rw [f12] at hy; exact hy)) (by rw [f12]; exact hW1.1.2.2.1) ?_ (fun _ => ?_)
          · rw [ef1 (617 + 10 * i), if_neg (by omega), ef1 (617 + 10 * i + 1), if_neg (by omega), ef1 (617 + 10 * i + 2), if_neg (by omega), ef1 (617 + 10 * i + 3), if_neg (by omega), ef1 (617 + 10 * i + 4), if_pos rfl, ef1 (617 + 10 * i + 5), if_neg (by omega)]
            exact ⟨w0, w1, w2, w3, rg15_or w4 ⟨by omega, h2.2⟩, w5, fun l hl => by rw [ef1, if_neg (by omega)]; exact w6 l hl, w7⟩
          · rw [ef1 (617 + 10 * i), if_neg (by omega), ef1 (617 + 10 * i + 2), if_neg (by omega)]
            exact ⟨j4, j6⟩
        have F2 : ∀ k, k < 1377 ∧ k ≠ 3 ∧ (k < 1217 + 4 * m ∨ 1217 + 4 * m + 4 ≤ k) → μ2.1 1 k = f1 k := fun k hk => by
          rw [ef1]
          by_cases e : k = 617 + 10 * i + 4
          · rw [if_pos e, e]
            exact m5
          · rw [if_neg e]
            exact m3 k hk.2.1 e hk.2.2
        have cm : cl (f1 3) = m := by rw [ef1, if_neg (by omega), k1]; exact cl_nI (by omega)
        have hcn : ∀ y, y < cl (μ2.1 1 3) → y = m ∨ y < cl (f1 3) := fun y hy => by
          rw [m4, cl_nI (by omega)] at hy
          omega
        have hr : RelP n ν2 μ2 := by
          refine mkR s3 (Nat.le_refl n) (fun off ho => q2 off (by omega) (by omega) (by omega)) (fun off g1 g2 g3 => m2 off g1) ?_ ?_ ?_
          · refine hLa.notec (x := m) hWa hm (fun off g1 g2 g3 g4 => ?_) (fun k g1 g2 g3 => ?_) (q4.trans m4.symm) F2 hcn (fun k hk => ?_)
            · by_cases e : off = 7 + (62 + 2 * i)
              · subst e
                refine ⟨?_, (?_ : ν2.2.1 (7 + (62 + 2 * i)) = _), ?_⟩
                · funext k
                  rw [uI_at]
                  by_cases e5 : k = 5
                  · rw [if_pos ⟨rfl, e5⟩, e5]
                    exact q6
                  · rw [if_neg (fun z => e5 z.2)]
                    exact q5 k e5
                · rw [qq]; rfl
                · rw [qq]; rfl
              · exact ⟨by rw [(uI_o e).1]; exact (q2 off g3 e g4).1, (q2 off g3 e g4).2.1, (q2 off g3 e g4).2.2⟩
            · rw [(uI_o (show 7 ≠ 7 + (62 + 2 * i) by omega)).1]
              exact q3 k g3
            · match k, hk with
              | 0, _ => exact q7.trans m6.symm
              | 1, _ => exact q8.trans m7.symm
              | 2, _ => exact q9.trans ((hL1.1.2.2.2.2.2).trans m8.symm)
              | 3, _ => exact q10.trans m9.symm
              | k + 4, g => exact absurd g (by omega)
          · refine hWa.notec (x := m) hm F2 ?_
            rw [m4]
            exact ⟨by rw [nI_toInt (by omega)]; omega, by rw [nI_toInt (by omega)]; omega⟩
          · rw [(m2 3 (by decide)).2.1]
            exact hP1
        refine wo_ok (v := nI m) (hr.mono (Nat.le_succ n)) ?_ ?_ ?_
        · rw [(m2 0 (by decide)).1, s6 0 (by decide)]
          rfl
        · unfold g_X11_credit
          rw [g0, bnx_ok, g1, bnx_ok, asr_pos i3, ← ei]
          rw [← ei] at st
          rw [st, bnd_s, if_pos h3, e8, if_neg h4]
          unfold g_X11_credit_J48 g_X11_requireState
          rw [if_pos rfl, bnd_s, bnx_ok, s1, bnd_s, q1, bnd_s]
        · unfold g_X12_credit
          rw [bnd_s, bnd_s, isInv_eq hW, decide_eq_true h, if_pos rfl, asr_pos i3, bnd_s, if_pos h3, if_neg h4]
          unfold g_X12_credit_J49
          rw [bnd_s, er, decide_eq_true h2, pz3]
          show bnd (g_X12_remember (uI μ 0 0 0)) _ = _
          rw [s2, bnd_s]
          exact m1
      · refine wo_er 3 3 hR ?_ ?_ (by simp) rfl (by decide)
        · unfold g_X11_credit
          rw [g0, bnx_ok, g1, bnx_ok, asr_pos i3, st, bnd_s, e8]
          by_cases h4 : a2 &&& (f_X12_livingLines μ a1 ^^^ (-1 : Int32)) = 0
          · rw [if_pos h4]
            by_cases h5 : (40 : Int32) ≤ μ.1 1 3
            · rw [if_pos h5]
              rfl
            · exact absurd ⟨h4, h5⟩ h3
          · rw [if_neg h4]
            rfl
        · have J : g_X12_credit_J49 μ a1 a2 μ false true true = some (0, uI μ 0 0 3) := by
            unfold g_X12_credit_J49
            rw [bnd_s, pz3]
            rfl
          unfold g_X12_credit
          rw [bnd_s, bnd_s, isInv_eq hW, decide_eq_true h, if_pos rfl, asr_pos i3, bnd_s, er, decide_eq_true h2]
          by_cases h4 : a2 &&& (f_X12_livingLines μ a1 ^^^ (-1 : Int32)) = 0
          · rw [if_pos h4]
            by_cases h5 : (40 : Int32) ≤ μ.1 1 3
            · rw [if_pos h5]
              exact J
            · exact absurd ⟨h4, h5⟩ h3
          · rw [if_neg h4]
            exact J
    · refine wo_er 2 2 hR ?_ ?_ (by simp) rfl (by decide)
      · unfold g_X11_credit
        rw [g0, bnx_ok, rqR]
        show bnd (some (if 1 ≤ a2.toInt ∧ a2.toInt ≤ 15 then _ else _)) _ = _
        rw [if_neg h2]
        rfl
      · have J : ∀ b, g_X12_credit_J49 μ a1 a2 μ b false true = some (0, uI μ 0 0 2) := fun b => by
          unfold g_X12_credit_J49
          rw [bnd_s, pz3]
          rfl
        unfold g_X12_credit g_X12_credit_J48
        rw [bnd_s, bnd_s, isInv_eq hW, decide_eq_true h, if_pos rfl, asr_pos i3, bnd_s, er, decide_eq_false h2, J, J]
        split
        · split <;> rfl
        · rfl
  · refine wo_er 1 1 hR ?_ ?_ (by simp) rfl (by decide)
    · unfold g_X11_credit
      rw [rqV, e0, if_neg h]
      rfl
    · unfold g_X12_credit g_X12_credit_J48 g_X12_credit_J49
      rw [bnd_s, bnd_s, isInv_eq hW, decide_eq_false h, if_neg (by decide), bnd_s, pz3]
      rfl
