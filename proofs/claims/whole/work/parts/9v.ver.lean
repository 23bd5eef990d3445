/-! PURE. A new version of the tariff. -/
theorem pres_of {ν : Mm} {L v : Nat} (hl : isLed L) (e : ν.1 L 9 = nI v) (hv : v < 21) : g_X5_present ν L = some (L + (222 + 5 * v)) := by
  unfold g_X5_present
  rw [asr_pos hl, e, asr_pos (vp_in_nI hv (by decide)), cl_nI (by omega)]
theorem nv_cls {ν : Mm} {L v : Nat} (hl : isLed L) (e : ν.1 L 9 = nI v) (hv : v < 20) (hz : isZ (ν.1 (L + (222 + 5 * v)) 6)) : ∃ r, g_X5_newVersion ν L = some (L + (222 + 5 * (v + 1)), r) ∧ (∀ off, off ≠ L → (off < L + (222 + 5 * (v + 1)) ∨ L + (222 + 5 * (v + 1)) + 5 ≤ off) → Eq3 ν r off) ∧ (∀ k, k ≠ 9 → r.1 L k = ν.1 L k) ∧ r.1 L 9 = nI (v + 1) ∧ (∀ k, 4 ≤ k → k < 12 → r.1 (L + (222 + 5 * (v + 1))) k = ν.1 (L + (222 + 5 * v)) k) ∧ ∀ j, 1 ≤ j → j < 5 → r.1 (L + (222 + 5 * (v + 1)) + j) = ν.1 (L + (222 + 5 * v) + j) := by
  have t0 : isTar (L + (222 + 5 * v)) := ⟨L, v, hl, by omega, rfl⟩
  have t1 : isTar (L + (222 + 5 * (v + 1))) := ⟨L, v + 1, hl, by omega, rfl⟩
  have e1 : (uI ν L 9 (nI (v + 1))).1 L 9 = nI (v + 1) := by rw [uI_at, if_pos ⟨rfl, rfl⟩]
  obtain ⟨r, r1, r2, r3, r4⟩ := cp10 (ν := uI ν L 9 (nI (v + 1))) (o := L + (222 + 5 * (v + 1))) (a := L + (222 + 5 * v)) t1 t0 (by omega) (by rw [(uI_o (show L + (222 + 5 * v) ≠ L by omega)).1]; exact hz)
  have e2 : r.1 L 9 = nI (v + 1) := by rw [(r2 L (by omega)).1]; exact e1
  refine ⟨r, ?_, fun off h1 h2 => ((Eq3.rf ν off).I h1).tr (r2 off h2), fun k hk => ?_, e2, fun k h1 h2 => ?_, fun j h1 h2 => ?_⟩
  · unfold g_X5_newVersion
    rw [asr_pos hl, pres_of hl e (by omega), bnd_s, asr_pos t0, e, if_neg (by rw [le32, nI_toInt (by omega)]; show ¬ (20 : Int) ≤ v; omega), bnd_s, nI1, pres_of hl e1 (by omega), bnd_s, asr_pos t1, r1, bnd_s, pres_of hl e2 (by omega), bnd_s, asr_pos t1]
  · rw [(r2 L (by omega)).1, uI_at, if_neg (fun z => hk z.2)]
  · rw [r3 k h1 h2, (uI_o (show L + (222 + 5 * v) ≠ L by omega)).1]
  · rw [r4 j h1 h2, (uI_o (show L + (222 + 5 * v) + j ≠ L by omega)).1]
/-- the model's new version, k cells of it -/
def Nv (μ μ' : Mm) (v k : Nat) : Prop := (∀ off, off ≠ 1 → Eq3 μ μ' off) ∧ μ'.2 = μ.2 ∧ (∀ i, i < 22 + 12 * (v + 1) ∨ 22 + 12 * (v + 1) + 12 ≤ i → μ'.1 1 i = μ.1 1 i) ∧ ∀ i, i < k → μ'.1 1 (22 + 12 * (v + 1) + i) = μ.1 1 (22 + 12 * v + i)
theorem nv_loop {ν0 μ : Mm} {v : Nat} (hv : v < 20) (e : μ.1 1 4 = nI v) : ∀ (d k : Nat), k + d = 12 → ∀ n, d + 1 ≤ n → ∀ μ', Nv μ μ' v k → ∃ r, Nv μ r v 12 ∧ g_X12_newVersion_L17 ν0 n μ' (nI (22 + 12 * v)) (nI k) = some (nI (22 + 12 * (v + 1)), uI r 1 4 (nI (v + 1))) := by
  intro d
  induction d with
  | zero =>
    intro k hk n hn μ' h
    obtain ⟨n, rfl, -⟩ := succ_n hn
    have ek : k = 12 := by omega
    refine ⟨μ', ek ▸ h, ?_⟩
    unfold g_X12_newVersion_L17
    rw [if_pos (by rw [le32, nI_toInt (by omega)]; show (12 : Int) ≤ (k : Int); omega), bnd_s, h.2.2.1 4 (by omega), e, nI1, show (12 : Int32) = nI 12 from rfl, nI_add]
    rfl
  | succ d ih =>
    intro k hk n hn μ' h
    obtain ⟨n, rfl, hn2⟩ := succ_n hn
    obtain ⟨g1, g2, g3, g4⟩ := h
    obtain ⟨r, r1, r2⟩ := ih (k + 1) (by omega) n hn2 (uI μ' 1 (22 + 12 * (v + 1) + k) (μ'.1 1 (22 + 12 * v + k))) ⟨fun off ho => (g1 off ho).I ho, g2, fun i hi => by
      rw [uI_at, if_neg (fun z => absurd z.2 (by omega))]
      exact g3 i hi, fun i hi => by
      rw [uI_at]
      by_cases q : i = k
      · rw [if_pos ⟨rfl, by omega⟩, g3 _ (by omega), q]
      · rw [if_neg (fun z => absurd z.2 (by omega))]
        exact g4 i (by omega)⟩
    refine ⟨r, r1, ?_⟩
    unfold g_X12_newVersion_L17
    rw [if_neg (by rw [le32, nI_toInt (by omega)]; show ¬ (12 : Int) ≤ (k : Int); omega), show (12 : Int32) = nI 12 from rfl, nI_add, nI_add, nI_add, asr_pos (vp_in_nI (by omega) (by decide)), asr_pos (vp_in_nI (by omega) (by decide)), bnd_s, cl_nI (by omega), cl_nI (by omega), nI1, show 22 + 12 * v + 12 + k = 22 + 12 * (v + 1) + k by omega]
    exact r2
theorem nv_mod {μ μ1 : Mm} {v : Nat} (hs : g_X12_remember μ = some μ1) (hv : v < 20) (e : μ1.1 1 4 = nI v) : ∃ r, Nv μ1 r v 12 ∧ g_X12_newVersion μ = some (nI (22 + 12 * (v + 1)), uI r 1 4 (nI (v + 1))) := by
  obtain ⟨r, r1, r2⟩ := nv_loop (ν0 := μ) (μ := μ1) hv e 12 0 (by omega) 10000 (by omega) μ1 ⟨fun off _ => Eq3.rf μ1 off, rfl, fun _ _ => rfl, fun i hi => absurd hi (by omega)⟩
  refine ⟨r, r1, ?_⟩
  unfold g_X12_newVersion
  rw [hs, bnd_s, bnd_s, show f_X12_version μ1 = nI v from e, show (22 : Int32) = nI 22 from rfl, show (12 : Int32) = nI 12 from rfl, nI_mul, nI_add]
  exact r2
/-- a ledger with one version more, its row g -/
theorem ver_step {n : Nat} {ν1 ν2 μ1 μ2 : Mm} (h : RelP n ν1 μ1) {v : Nat} (hv : v < 20) (e : μ1.1 1 4 = nI v) {g : Nat → Int32} (c1 : ∀ off, off ≠ 7 → (off < 7 + (222 + 5 * (v + 1)) ∨ 7 + (222 + 5 * (v + 1)) + 5 ≤ off) → Eq3 ν1 ν2 off) (c2 : ∀ k, k ≠ 9 → ν2.1 7 k = ν1.1 7 k) (c3 : ν2.1 7 9 = nI (v + 1)) (c4 : ∀ k, 4 ≤ k → k < 10 → ν2.1 (7 + (222 + 5 * (v + 1))) k = ν1.1 (7 + (222 + 5 * v)) k) (c5 : ν2.1 (7 + (222 + 5 * (v + 1))) 10 = g 10 ∧ ν2.1 (7 + (222 + 5 * (v + 1))) 11 = g 11) (c6 : ν2.1 (7 + (222 + 5 * (v + 1)) + 1) = ν1.1 (7 + (222 + 5 * v) + 1) ∧ ν2.1 (7 + (222 + 5 * (v + 1)) + 3) = ν1.1 (7 + (222 + 5 * v) + 3)) (c7 : ∀ b, b < cl (μ1.1 1 6) → ν2.1 (7 + (222 + 5 * (v + 1)) + 2) b = g b) (c8 : ∀ r, r < cl (μ1.1 1 7) → ν2.1 (7 + (222 + 5 * (v + 1)) + 4) r = g (6 + r))
    (m1 : ∀ off, off ≠ 1 → Eq3 μ1 μ2 off) (m2 : ∀ i, i ≠ 4 → (i < 22 + 12 * (v + 1) ∨ 22 + 12 * (v + 1) + 12 ≤ i) → μ2.1 1 i = μ1.1 1 i) (m3 : μ2.1 1 4 = nI (v + 1)) (m4 : ∀ i, i < 12 → μ2.1 1 (22 + 12 * (v + 1) + i) = g i)
    (hg1 : ∀ b, b < 6 → rg (g b) 0 999) (hg2 : ∀ r, r < 4 → rg (g (6 + r)) 0 100) (hg3 : rg (g 10) 0 30) (hg4 : rg (g 11) 0 9999) : RelP n ν2 μ2 := by
  obtain ⟨hL, hW, hP⟩ := h.1
  have cv : cl (μ1.1 1 4) = v := by rw [e]; exact cl_nI (by omega)
  have n6 := (cl_of hW.1.2.2.2.2.2.2.1).2.2
  have n7 := (cl_of hW.1.2.2.2.2.2.2.2.1).2.2
  have F : ∀ k, k < 1377 ∧ k ≠ 4 ∧ (k < 22 + 12 * (v + 1) ∨ 22 + 12 * (v + 1) + 12 ≤ k) → μ2.1 1 k = μ1.1 1 k := fun k hk => m2 k hk.2.1 hk.2.2
  obtain ⟨⟨t4, t5, t6, t7, t8, t9, t10, t11⟩, tb, tr⟩ := hL.2.2.2.2.2 v (by rw [cv]; exact Nat.le_refl v)
  refine mkR h (Nat.le_refl n) (fun off ho => c1 off (by omega) (by omega)) (fun off g1 g2 g3 => m1 off g1) ?_ ?_ ?_
  · rw [(m1 3 (by decide)).2.1]
    refine hL.verc (x := v + 1) hW (by omega) (fun off g1 g2 g3 g4 g5 g6 g7 g8 => c1 off g3 (by omega)) (fun k g1 g2 g3 => c2 k g3) (c3.trans m3.symm) F (fun y hy => ?_) ⟨⟨?_, ?_, ?_, ?_, ?_, ?_, ?_, ?_⟩, fun b hb => ⟨?_, ?_⟩, fun r hr => ⟨?_, ?_⟩⟩
    · rw [m3, cl_nI (by omega)] at hy
      omega
    · exact (c4 4 (by decide) (by decide)).trans (t4.trans (F 6 (by omega)).symm)
    · exact (c4 5 (by decide) (by decide)).trans (t5.trans (F 7 (by omega)).symm)
    · exact (c4 6 (by decide) (by decide)).trans (t6.trans (F 8 (by omega)).symm)
    · exact (c4 7 (by decide) (by decide)).trans (t7.trans (F 9 (by omega)).symm)
    · exact (c4 8 (by decide) (by decide)).trans (t8.trans (F 10 (by omega)).symm)
    · exact (c4 9 (by decide) (by decide)).trans (t9.trans (F 11 (by omega)).symm)
    · exact c5.1.trans (m4 10 (by decide)).symm
    · exact c5.2.trans (m4 11 (by decide)).symm
    · rw [F 6 (by omega)] at hb
      rw [c6.1, F (12 + b) (by omega)]
      exact (tb b hb).1
    · rw [F 6 (by omega)] at hb
      exact (c7 b hb).trans (m4 b (by omega)).symm
    · rw [F 7 (by omega)] at hr
      rw [c6.2, F (18 + r) (by omega)]
      exact (tr r hr).1
    · rw [F 7 (by omega)] at hr
      exact (c8 r hr).trans (m4 (6 + r) (by omega)).symm
  · refine hW.verc (x := v + 1) (by omega) F ?_ ?_ ⟨fun b hb => ?_, fun r hr => ?_, ?_, ?_⟩
    · rw [m3]
      exact ⟨by rw [nI_toInt (by omega)]; omega, by rw [nI_toInt (by omega)]; omega⟩
    · rw [m3, e, nI_toInt (by omega), nI_toInt (by omega)]
      omega
    · rw [m4 b (by omega)]; exact hg1 b hb
    · rw [m4 (6 + r) (by omega)]; exact hg2 r hr
    · rw [m4 10 (by decide)]; exact hg3
    · rw [m4 11 (by decide)]; exact hg4
  · rw [(m1 3 (by decide)).2.1]
    exact hP
theorem s54 : Sm_54 RelP := by
  intro n ν μ hn hR a1 a2
  obtain ⟨⟨hL, hW, hP⟩, -⟩ := id hR
  obtain ⟨pe, pt, pT, pv⟩ := present_of hL hW led7
  have e0 := pT.1.1
  have e9 : ν.1 7 9 = μ.1 1 4 := hL.1.2.2.2.2.1
  have er : f_X12_in a2.toInt64 (0 : Int64) (999 : Int64) = decide (0 ≤ a2.toInt ∧ a2.toInt ≤ 999) := inX_eq
  have z20 : ((20 : Int32)).toInt = 20 := rfl
  by_cases h : 0 ≤ a1.toInt ∧ a1.toInt < (μ.1 1 6).toInt
  · obtain ⟨i1, i2, i3, i4, i5⟩ := ix_of (hi := 6) h hW.1.2.2.2.2.2.2.1 (by decide)
    by_cases h2 : 0 ≤ a2.toInt ∧ a2.toInt ≤ 999
    · by_cases h3 : (20 : Int32) ≤ μ.1 1 4
      · refine wo_er 3 3 hR ?_ ?_ (by simp) rfl (by decide)
        · unfold g_X11_setRate
          rw [pe, bnd_s, asr_pos pt, rqI, e0, if_pos h, bnd_s, bnx_ok, rqR]
          show bnd (some (if 0 ≤ a2.toInt ∧ a2.toInt ≤ 999 then _ else _)) _ = _
          rw [if_pos h2, bnd_s, bnx_ok, e9, if_pos h3]
          rfl
        · unfold g_X12_setRate
          rw [bnd_s, bnd_s, bnd_s, bnd_s, isBand_eq hW, er, decide_eq_true h, decide_eq_true h2, pz3, show f_X12_canChange μ = false from if_pos h3]
          rfl
      · obtain ⟨ν1, μ1, s1, s2, s3, s4, s5, s6⟩ := save_of (hR.th0 0)
        have ef : μ1.1 1 = μ.1 1 := (s5 1 (by decide) (by decide) (by decide)).1
        obtain ⟨hL1, hW1, hP1⟩ := s3.1
        obtain ⟨k1, k2, k3⟩ := cl_of hW1.1.2.2.2.2.1
        have hv : cl (μ1.1 1 4) < 20 := by
          rw [le32, z20] at h3
          rw [ef] at k2 ⊢
          omega
        obtain ⟨v, ev⟩ : ∃ v, v = cl (μ1.1 1 4) := ⟨_, rfl⟩
        rw [← ev] at hv k1
        obtain ⟨⟨t4, t5, t6, t7, t8, t9, t10, t11⟩, tb, tr⟩ := hL1.2.2.2.2.2 v (by rw [ev]; exact Nat.le_refl _)
        obtain ⟨w1, w2, w3, w4⟩ := hW1.2.2.2.2.2.2.2.1 v (by omega)
        obtain ⟨ν2, q1, q2, q3, q4, q5, q6⟩ := nv_cls (ν := ν1) (L := 7) (v := v) led7 (hL1.1.2.2.2.2.1.trans k1) hv (by rw [t6]; exact isZ_of hW1.1.2.2.2.2.2.2.2.2.1)
        obtain ⟨μ2, ⟨m1, m2, m3, m4⟩, m5⟩ := nv_mod s2 hv k1
        have tT : isTar (7 + (222 + 5 * (v + 1))) := ⟨7, v + 1, led7, by omega, rfl⟩
        have hr : RelP n (uI ν2 (7 + (222 + 5 * (v + 1)) + 2) (cl a1) a2) (uI (uI μ2 1 4 (nI (v + 1))) 1 (22 + 12 * (v + 1) + cl a1) a2) := by
          refine ver_step (g := fun i => if i = cl a1 then a2 else μ1.1 1 (22 + 12 * v + i)) s3 hv k1 (fun off g1 g2 => (q2 off g1 g2).I (by omega)) (fun k hk => ?_) ?_ (fun k g1 g2 => ?_) ⟨?_, ?_⟩ ⟨?_, ?_⟩ (fun b hb => ?_) (fun r hr => ?_) (fun off ho => ((m1 off ho).I ho).I ho) (fun i g1 g2 => ?_) ?_ (fun i hi => ?_) (fun b hb => ?_) (fun r hr => ?_) ?_ ?_
          · rw [(uI_o (show 7 ≠ 7 + (222 + 5 * (v + 1)) + 2 by omega)).1]
            exact q3 k hk
          · rw [(uI_o (show 7 ≠ 7 + (222 + 5 * (v + 1)) + 2 by omega)).1]
            exact q4
          · rw [(uI_o (show 7 + (222 + 5 * (v + 1)) ≠ 7 + (222 + 5 * (v + 1)) + 2 by omega)).1]
            exact q5 k g1 (by omega)
          · rw [(uI_o (show 7 + (222 + 5 * (v + 1)) ≠ 7 + (222 + 5 * (v + 1)) + 2 by omega)).1, q5 10 (by decide) (by decide), t10]
            exact (if_neg (by omega)).symm
          · rw [(uI_o (show 7 + (222 + 5 * (v + 1)) ≠ 7 + (222 + 5 * (v + 1)) + 2 by omega)).1, q5 11 (by decide) (by decide), t11]
            exact (if_neg (by omega)).symm
          · rw [(uI_o (show 7 + (222 + 5 * (v + 1)) + 1 ≠ 7 + (222 + 5 * (v + 1)) + 2 by omega)).1]
            exact q6 1 (by decide) (by decide)
          · rw [(uI_o (show 7 + (222 + 5 * (v + 1)) + 3 ≠ 7 + (222 + 5 * (v + 1)) + 2 by omega)).1]
            exact q6 3 (by decide) (by decide)
          · have n6 := (cl_of hW1.1.2.2.2.2.2.2.1).2.2
            have n7 := (cl_of hW1.1.2.2.2.2.2.2.2.1).2.2
            rw [uI_at]
            show _ = if b = cl a1 then a2 else μ1.1 1 (22 + 12 * v + b)
            by_cases e : b = cl a1
            · rw [if_pos ⟨rfl, e⟩, if_pos (by omega)]
            · rw [if_neg (fun z => e z.2), if_neg (by omega), q6 2 (by decide) (by decide)]
              exact (tb b hb).2
          · have n6 := (cl_of hW1.1.2.2.2.2.2.2.1).2.2
            have n7 := (cl_of hW1.1.2.2.2.2.2.2.2.1).2.2
            rw [(uI_o (show 7 + (222 + 5 * (v + 1)) + 4 ≠ 7 + (222 + 5 * (v + 1)) + 2 by omega)).1, q6 4 (by decide) (by decide)]
            show _ = if (6 + r) = cl a1 then a2 else μ1.1 1 (22 + 12 * v + (6 + r))
            rw [if_neg (by omega)]
            exact (tr r hr).2
          · rw [uI_at, if_neg (fun z => absurd z.2 (by omega)), uI_at, if_neg (fun z => g1 z.2)]
            exact m3 i g2
          · rw [uI_at, if_neg (fun z => absurd z.2 (by omega)), uI_at, if_pos ⟨rfl, rfl⟩]
          · rw [uI_at]
            show _ = if i = cl a1 then a2 else μ1.1 1 (22 + 12 * v + i)
            by_cases e : i = cl a1
            · rw [if_pos ⟨rfl, by omega⟩, if_pos e]
            · rw [if_neg (fun z => e (by have := z.2; omega)), if_neg e, uI_at, if_neg (fun z => absurd z.2 (by omega))]
              exact m4 i hi
          · show rg (if b = cl a1 then a2 else μ1.1 1 (22 + 12 * v + b)) 0 999
            split
            · exact h2
            · exact w1 b hb
          · show rg (if 6 + r = cl a1 then a2 else μ1.1 1 (22 + 12 * v + (6 + r))) 0 100
            split
            · exact absurd (show 6 + r = cl a1 by assumption) (by omega)
            · exact w2 r hr
          · show rg (if 10 = cl a1 then a2 else μ1.1 1 (22 + 12 * v + 10)) 0 30
            rw [if_neg (by omega)]
            exact w3
          · show rg (if 11 = cl a1 then a2 else μ1.1 1 (22 + 12 * v + 11)) 0 9999
            rw [if_neg (by omega)]
            exact w4
        refine wo_ok (v := nI (v + 1)) (hr.mono (Nat.le_succ n)) ?_ ?_ ?_
        · rw [uI_at, if_neg (fun z => absurd z.1 (by decide)), uI_at, if_neg (fun z => absurd z.1 (by decide)), (m1 0 (by decide)).1, s6 0 (by decide)]
          rfl
        · unfold g_X11_setRate
          rw [pe, bnd_s, asr_pos pt, rqI, e0, if_pos h, bnd_s, bnx_ok, rqR]
          show bnd (some (if 0 ≤ a2.toInt ∧ a2.toInt ≤ 999 then _ else _)) _ = _
          rw [if_pos h2, bnd_s, bnx_ok, e9, if_neg h3]
          unfold g_X11_setRate_J39 g_X11_requireState
          rw [if_pos rfl, bnd_s, bnx_ok, s1, bnd_s, q1, bnd_s, asr_pos tT, asr_pos i3, bnd_s, (uI_o (show 7 ≠ 7 + (222 + 5 * (v + 1)) + 2 by omega)).1, q4]
        · unfold g_X12_setRate
          rw [bnd_s, bnd_s, bnd_s, bnd_s, isBand_eq hW, er, decide_eq_true h, decide_eq_true h2, pz3, show f_X12_canChange μ = true from if_neg h3]
          show bnd (g_X12_newVersion (uI μ 0 0 0)) _ = _
          rw [m5, bnd_s]
          show asr (vp_in ((nI (22 + 12 * (v + 1)) + nI 0) + a1) 1377) _ = _
          have ei : (nI (22 + 12 * (v + 1)) + nI 0) + a1 = nI (22 + 12 * (v + 1) + cl a1) := by rw [i4, cl_nI (by omega), nI_add, nI_add] <;> congr 1
          rw [ei, asr_pos (vp_in_nI (by omega) (by decide)), bnd_s, bnd_s]
          show some ((uI (uI μ2 1 4 (nI (v + 1))) 1 (cl ((nI (22 + 12 * (v + 1)) + nI 0) + a1)) a2).1 1 4, uI (uI μ2 1 4 (nI (v + 1))) 1 (cl ((nI (22 + 12 * (v + 1)) + nI 0) + a1)) a2) = _
          rw [ei, cl_nI (by omega), uI_at, if_neg (fun z => absurd z.2 (by omega)), uI_at, if_pos ⟨rfl, rfl⟩]
    · refine wo_er 2 2 hR ?_ ?_ (by simp) rfl (by decide)
      · unfold g_X11_setRate
        rw [pe, bnd_s, asr_pos pt, rqI, e0, if_pos h, bnd_s, bnx_ok, rqR]
        show bnd (some (if 0 ≤ a2.toInt ∧ a2.toInt ≤ 999 then _ else _)) _ = _
        rw [if_neg h2]
        rfl
      · unfold g_X12_setRate
        rw [bnd_s, bnd_s, bnd_s, bnd_s, isBand_eq hW, er, decide_eq_true h, decide_eq_false h2, pz3]
        rfl
  · refine wo_er 1 1 hR ?_ ?_ (by simp) rfl (by decide)
    · unfold g_X11_setRate
      rw [pe, bnd_s, asr_pos pt, rqI, e0, if_neg h]
      rfl
    · unfold g_X12_setRate
      rw [bnd_s, bnd_s, bnd_s, bnd_s, isBand_eq hW, decide_eq_false h, pz3]
      rfl
theorem s55 : Sm_55 RelP := by
  intro n ν μ hn hR a1 a2
  obtain ⟨⟨hL, hW, hP⟩, -⟩ := id hR
  obtain ⟨pe, pt, pT, pv⟩ := present_of hL hW led7
  have e0 := pT.1.2.1
  have e9 : ν.1 7 9 = μ.1 1 4 := hL.1.2.2.2.2.1
  have er : f_X12_in a2.toInt64 (0 : Int64) (100 : Int64) = decide (0 ≤ a2.toInt ∧ a2.toInt ≤ 100) := inX_eq
  have z20 : ((20 : Int32)).toInt = 20 := rfl
  by_cases h : 0 ≤ a1.toInt ∧ a1.toInt < (μ.1 1 7).toInt
  · obtain ⟨i1, i2, i3, i4, i5⟩ := ix_of (hi := 4) h hW.1.2.2.2.2.2.2.2.1 (by decide)
    by_cases h2 : 0 ≤ a2.toInt ∧ a2.toInt ≤ 100
    · by_cases h3 : (20 : Int32) ≤ μ.1 1 4
      · refine wo_er 3 3 hR ?_ ?_ (by simp) rfl (by decide)
        · unfold g_X11_setPercent
          rw [pe, bnd_s, asr_pos pt, rqI, e0, if_pos h, bnd_s, bnx_ok, rqR]
          show bnd (some (if 0 ≤ a2.toInt ∧ a2.toInt ≤ 100 then _ else _)) _ = _
          rw [if_pos h2, bnd_s, bnx_ok, e9, if_pos h3]
          rfl
        · unfold g_X12_setPercent
          rw [bnd_s, bnd_s, bnd_s, bnd_s, isReb_eq hW, er, decide_eq_true h, decide_eq_true h2, pz3, show f_X12_canChange μ = false from if_pos h3]
          rfl
      · obtain ⟨ν1, μ1, s1, s2, s3, s4, s5, s6⟩ := save_of (hR.th0 0)
        have ef : μ1.1 1 = μ.1 1 := (s5 1 (by decide) (by decide) (by decide)).1
        obtain ⟨hL1, hW1, hP1⟩ := s3.1
        obtain ⟨k1, k2, k3⟩ := cl_of hW1.1.2.2.2.2.1
        have hv : cl (μ1.1 1 4) < 20 := by
          rw [le32, z20] at h3
          rw [ef] at k2 ⊢
          omega
        obtain ⟨v, ev⟩ : ∃ v, v = cl (μ1.1 1 4) := ⟨_, rfl⟩
        rw [← ev] at hv k1
        obtain ⟨⟨t4, t5, t6, t7, t8, t9, t10, t11⟩, tb, tr⟩ := hL1.2.2.2.2.2 v (by rw [ev]; exact Nat.le_refl _)
        obtain ⟨w1, w2, w3, w4⟩ := hW1.2.2.2.2.2.2.2.1 v (by omega)
        obtain ⟨ν2, q1, q2, q3, q4, q5, q6⟩ := nv_cls (ν := ν1) (L := 7) (v := v) led7 (hL1.1.2.2.2.2.1.trans k1) hv (by rw [t6]; exact isZ_of hW1.1.2.2.2.2.2.2.2.2.1)
        obtain ⟨μ2, ⟨m1, m2, m3, m4⟩, m5⟩ := nv_mod s2 hv k1
        have tT : isTar (7 + (222 + 5 * (v + 1))) := ⟨7, v + 1, led7, by omega, rfl⟩
        have hr : RelP n (uI ν2 (7 + (222 + 5 * (v + 1)) + 4) (cl a1) a2) (uI (uI μ2 1 4 (nI (v + 1))) 1 (22 + 12 * (v + 1) + 6 + cl a1) a2) := by
          refine ver_step (g := fun i => if i = 6 + cl a1 then a2 else μ1.1 1 (22 + 12 * v + i)) s3 hv k1 (fun off g1 g2 => (q2 off g1 g2).I (by omega)) (fun k hk => ?_) ?_ (fun k g1 g2 => ?_) ⟨?_, ?_⟩ ⟨?_, ?_⟩ (fun b hb => ?_) (fun r hr => ?_) (fun off ho => ((m1 off ho).I ho).I ho) (fun i g1 g2 => ?_) ?_ (fun i hi => ?_) (fun b hb => ?_) (fun r hr => ?_) ?_ ?_
          · rw [(uI_o (show 7 ≠ 7 + (222 + 5 * (v + 1)) + 4 by omega)).1]
            exact q3 k hk
          · rw [(uI_o (show 7 ≠ 7 + (222 + 5 * (v + 1)) + 4 by omega)).1]
            exact q4
          · rw [(uI_o (show 7 + (222 + 5 * (v + 1)) ≠ 7 + (222 + 5 * (v + 1)) + 4 by omega)).1]
            exact q5 k g1 (by omega)
          · rw [(uI_o (show 7 + (222 + 5 * (v + 1)) ≠ 7 + (222 + 5 * (v + 1)) + 4 by omega)).1, q5 10 (by decide) (by decide), t10]
            exact (if_neg (by omega)).symm
          · rw [(uI_o (show 7 + (222 + 5 * (v + 1)) ≠ 7 + (222 + 5 * (v + 1)) + 4 by omega)).1, q5 11 (by decide) (by decide), t11]
            exact (if_neg (by omega)).symm
          · rw [(uI_o (show 7 + (222 + 5 * (v + 1)) + 1 ≠ 7 + (222 + 5 * (v + 1)) + 4 by omega)).1]
            exact q6 1 (by decide) (by decide)
          · rw [(uI_o (show 7 + (222 + 5 * (v + 1)) + 3 ≠ 7 + (222 + 5 * (v + 1)) + 4 by omega)).1]
            exact q6 3 (by decide) (by decide)
          · have n6 := (cl_of hW1.1.2.2.2.2.2.2.1).2.2
            have n7 := (cl_of hW1.1.2.2.2.2.2.2.2.1).2.2
            rw [(uI_o (show 7 + (222 + 5 * (v + 1)) + 2 ≠ 7 + (222 + 5 * (v + 1)) + 4 by omega)).1, q6 2 (by decide) (by decide)]
            show _ = if b = 6 + cl a1 then a2 else μ1.1 1 (22 + 12 * v + b)
            rw [if_neg (by omega)]
            exact (tb b hb).2
          · have n6 := (cl_of hW1.1.2.2.2.2.2.2.1).2.2
            have n7 := (cl_of hW1.1.2.2.2.2.2.2.2.1).2.2
            rw [uI_at]
            show _ = if (6 + r) = 6 + cl a1 then a2 else μ1.1 1 (22 + 12 * v + (6 + r))
            by_cases e : r = cl a1
            · rw [if_pos ⟨rfl, e⟩, if_pos (by omega)]
            · rw [if_neg (fun z => e z.2), if_neg (by omega), q6 4 (by decide) (by decide)]
              exact (tr r hr).2
          · rw [uI_at, if_neg (fun z => absurd z.2 (by omega)), uI_at, if_neg (fun z => g1 z.2)]
            exact m3 i g2
          · rw [uI_at, if_neg (fun z => absurd z.2 (by omega)), uI_at, if_pos ⟨rfl, rfl⟩]
          · rw [uI_at]
            show _ = if i = 6 + cl a1 then a2 else μ1.1 1 (22 + 12 * v + i)
            by_cases e : i = 6 + cl a1
            · rw [if_pos ⟨rfl, by omega⟩, if_pos e]
            · rw [if_neg (fun z => e (by have := z.2; omega)), if_neg e, uI_at, if_neg (fun z => absurd z.2 (by omega))]
              exact m4 i hi
          · show rg (if b = 6 + cl a1 then a2 else μ1.1 1 (22 + 12 * v + b)) 0 999
            split
            · exact absurd (show b = 6 + cl a1 by assumption) (by omega)
            · exact w1 b hb
          · show rg (if 6 + r = 6 + cl a1 then a2 else μ1.1 1 (22 + 12 * v + (6 + r))) 0 100
            split
            · exact h2
            · exact w2 r hr
          · show rg (if 10 = 6 + cl a1 then a2 else μ1.1 1 (22 + 12 * v + 10)) 0 30
            rw [if_neg (by omega)]
            exact w3
          · show rg (if 11 = 6 + cl a1 then a2 else μ1.1 1 (22 + 12 * v + 11)) 0 9999
            rw [if_neg (by omega)]
            exact w4
        refine wo_ok (v := nI (v + 1)) (hr.mono (Nat.le_succ n)) ?_ ?_ ?_
        · rw [uI_at, if_neg (fun z => absurd z.1 (by decide)), uI_at, if_neg (fun z => absurd z.1 (by decide)), (m1 0 (by decide)).1, s6 0 (by decide)]
          rfl
        · unfold g_X11_setPercent
          rw [pe, bnd_s, asr_pos pt, rqI, e0, if_pos h, bnd_s, bnx_ok, rqR]
          show bnd (some (if 0 ≤ a2.toInt ∧ a2.toInt ≤ 100 then _ else _)) _ = _
          rw [if_pos h2, bnd_s, bnx_ok, e9, if_neg h3]
          unfold g_X11_setPercent_J38 g_X11_requireState
          rw [if_pos rfl, bnd_s, bnx_ok, s1, bnd_s, q1, bnd_s, asr_pos tT, asr_pos i3, bnd_s, (uI_o (show 7 ≠ 7 + (222 + 5 * (v + 1)) + 4 by omega)).1, q4]
        · unfold g_X12_setPercent
          rw [bnd_s, bnd_s, bnd_s, bnd_s, isReb_eq hW, er, decide_eq_true h, decide_eq_true h2, pz3, show f_X12_canChange μ = true from if_neg h3]
          show bnd (g_X12_newVersion (uI μ 0 0 0)) _ = _
          rw [m5, bnd_s]
          show asr (vp_in ((nI (22 + 12 * (v + 1)) + nI 6) + a1) 1377) _ = _
          have ei : (nI (22 + 12 * (v + 1)) + nI 6) + a1 = nI (22 + 12 * (v + 1) + 6 + cl a1) := by rw [i4, cl_nI (by omega), nI_add, nI_add] <;> congr 1
          rw [ei, asr_pos (vp_in_nI (by omega) (by decide)), bnd_s, bnd_s]
          show some ((uI (uI μ2 1 4 (nI (v + 1))) 1 (cl ((nI (22 + 12 * (v + 1)) + nI 6) + a1)) a2).1 1 4, uI (uI μ2 1 4 (nI (v + 1))) 1 (cl ((nI (22 + 12 * (v + 1)) + nI 6) + a1)) a2) = _
          rw [ei, cl_nI (by omega), uI_at, if_neg (fun z => absurd z.2 (by omega)), uI_at, if_pos ⟨rfl, rfl⟩]
    · refine wo_er 2 2 hR ?_ ?_ (by simp) rfl (by decide)
      · unfold g_X11_setPercent
        rw [pe, bnd_s, asr_pos pt, rqI, e0, if_pos h, bnd_s, bnx_ok, rqR]
        show bnd (some (if 0 ≤ a2.toInt ∧ a2.toInt ≤ 100 then _ else _)) _ = _
        rw [if_neg h2]
        rfl
      · unfold g_X12_setPercent
        rw [bnd_s, bnd_s, bnd_s, bnd_s, isReb_eq hW, er, decide_eq_true h, decide_eq_false h2, pz3]
        rfl
  · refine wo_er 1 1 hR ?_ ?_ (by simp) rfl (by decide)
    · unfold g_X11_setPercent
      rw [pe, bnd_s, asr_pos pt, rqI, e0, if_neg h]
      rfl
    · unfold g_X12_setPercent
      rw [bnd_s, bnd_s, bnd_s, bnd_s, isReb_eq hW, decide_eq_false h, pz3]
      rfl
theorem s56 : Sm_56 RelP := by
  intro n ν μ hn hR a1 a2
  obtain ⟨⟨hL, hW, hP⟩, -⟩ := id hR
  have e9 : ν.1 7 9 = μ.1 1 4 := hL.1.2.2.2.2.1
  have er : f_X12_in a2.toInt64 (0 : Int64) (9999 : Int64) = decide (0 ≤ a2.toInt ∧ a2.toInt ≤ 9999) := inX_eq
  have ef0 : f_X12_in a1.toInt64 (0 : Int64) (30 : Int64) = decide (0 ≤ a1.toInt ∧ a1.toInt ≤ 30) := inX_eq
  have z20 : ((20 : Int32)).toInt = 20 := rfl
  have J29 : ∀ c, f_X12_canChange μ = c → g_X12_setLay_J30 μ a1 a2 μ false = some (0, uI μ 0 0 1) := fun c hc => by
    unfold g_X12_setLay_J30
    rw [bnd_s, bnd_s, pz2]
    rfl
  by_cases h : 0 ≤ a1.toInt ∧ a1.toInt ≤ 30
  · by_cases h2 : 0 ≤ a2.toInt ∧ a2.toInt ≤ 9999
    · by_cases h3 : (20 : Int32) ≤ μ.1 1 4
      · refine wo_er 3 2 hR ?_ ?_ (by simp) rfl (by decide)
        · unfold g_X11_setLay
          rw [rqR]
          show bnd (some (if 0 ≤ a1.toInt ∧ a1.toInt ≤ 30 then _ else _)) _ = _
          rw [if_pos h, bnd_s, bnx_ok, rqR]
          show bnd (some (if 0 ≤ a2.toInt ∧ a2.toInt ≤ 9999 then _ else _)) _ = _
          rw [if_pos h2, bnd_s, bnx_ok, e9, if_pos h3]
          rfl
        · unfold g_X12_setLay
          rw [bnd_s, ef0, decide_eq_true h, if_pos rfl, bnd_s, er, decide_eq_true h2, if_pos rfl]
          unfold g_X12_setLay_J30
          rw [bnd_s, bnd_s, show f_X12_canChange μ = false from if_pos h3, pz2]
          rfl
      · obtain ⟨ν1, μ1, s1, s2, s3, s4, s5, s6⟩ := save_of (hR.th0 0)
        have ef : μ1.1 1 = μ.1 1 := (s5 1 (by decide) (by decide) (by decide)).1
        obtain ⟨hL1, hW1, hP1⟩ := s3.1
        obtain ⟨k1, k2, k3⟩ := cl_of hW1.1.2.2.2.2.1
        have hv : cl (μ1.1 1 4) < 20 := by
          rw [le32, z20] at h3
          rw [ef] at k2 ⊢
          omega
        obtain ⟨v, ev⟩ : ∃ v, v = cl (μ1.1 1 4) := ⟨_, rfl⟩
        rw [← ev] at hv k1
        obtain ⟨⟨t4, t5, t6, t7, t8, t9, t10, t11⟩, tb, tr⟩ := hL1.2.2.2.2.2 v (by rw [ev]; exact Nat.le_refl _)
        obtain ⟨w1, w2, w3, w4⟩ := hW1.2.2.2.2.2.2.2.1 v (by omega)
        obtain ⟨ν2, q1, q2, q3, q4, q5, q6⟩ := nv_cls (ν := ν1) (L := 7) (v := v) led7 (hL1.1.2.2.2.2.1.trans k1) hv (by rw [t6]; exact isZ_of hW1.1.2.2.2.2.2.2.2.2.1)
        obtain ⟨μ2, ⟨m1, m2, m3, m4⟩, m5⟩ := nv_mod s2 hv k1
        have tT : isTar (7 + (222 + 5 * (v + 1))) := ⟨7, v + 1, led7, by omega, rfl⟩
        have n6 := (cl_of hW1.1.2.2.2.2.2.2.1).2.2
        have n7 := (cl_of hW1.1.2.2.2.2.2.2.2.1).2.2
        have hr : RelP n (uI (uI ν2 (7 + (222 + 5 * (v + 1))) 10 a1) (7 + (222 + 5 * (v + 1))) 11 a2) (uI (uI (uI μ2 1 4 (nI (v + 1))) 1 (22 + 12 * (v + 1) + 10) a1) 1 (22 + 12 * (v + 1) + 11) a2) := by
          refine ver_step (g := fun i => if i = 11 then a2 else if i = 10 then a1 else μ1.1 1 (22 + 12 * v + i)) s3 hv k1 (fun off g1 g2 => ((q2 off g1 g2).I (by omega)).I (by omega)) (fun k hk => ?_) ?_ (fun k g1 g2 => ?_) ⟨?_, ?_⟩ ⟨?_, ?_⟩ (fun b hb => ?_) (fun r hr => ?_) (fun off ho => (((m1 off ho).I ho).I ho).I ho) (fun i g1 g2 => ?_) ?_ (fun i hi => ?_) (fun b hb => ?_) (fun r hr => ?_) h h2
          · rw [uI_at, if_neg (fun z => absurd z.1 (by omega)), uI_at, if_neg (fun z => absurd z.1 (by omega))]
            exact q3 k hk
          · rw [uI_at, if_neg (fun z => absurd z.1 (by omega)), uI_at, if_neg (fun z => absurd z.1 (by omega))]
            exact q4
          · rw [uI_at, if_neg (fun z => absurd z.2 (by omega)), uI_at, if_neg (fun z => absurd z.2 (by omega))]
            exact q5 k g1 (by omega)
          · rw [uI_at, if_neg (fun z => absurd z.2 (by omega)), uI_at, if_pos ⟨rfl, rfl⟩]
            rfl
          · rw [uI_at, if_pos ⟨rfl, rfl⟩]
            rfl
          · rw [(uI_o (show 7 + (222 + 5 * (v + 1)) + 1 ≠ 7 + (222 + 5 * (v + 1)) by omega)).1, (uI_o (show 7 + (222 + 5 * (v + 1)) + 1 ≠ 7 + (222 + 5 * (v + 1)) by omega)).1]
            exact q6 1 (by decide) (by decide)
          · rw [(uI_o (show 7 + (222 + 5 * (v + 1)) + 3 ≠ 7 + (222 + 5 * (v + 1)) by omega)).1, (uI_o (show 7 + (222 + 5 * (v + 1)) + 3 ≠ 7 + (222 + 5 * (v + 1)) by omega)).1]
            exact q6 3 (by decide) (by decide)
          · rw [(uI_o (show 7 + (222 + 5 * (v + 1)) + 2 ≠ 7 + (222 + 5 * (v + 1)) by omega)).1, (uI_o (show 7 + (222 + 5 * (v + 1)) + 2 ≠ 7 + (222 + 5 * (v + 1)) by omega)).1, q6 2 (by decide) (by decide)]
            show _ = if b = 11 then a2 else if b = 10 then a1 else μ1.1 1 (22 + 12 * v + b)
            rw [if_neg (by omega), if_neg (by omega)]
            exact (tb b hb).2
          · rw [(uI_o (show 7 + (222 + 5 * (v + 1)) + 4 ≠ 7 + (222 + 5 * (v + 1)) by omega)).1, (uI_o (show 7 + (222 + 5 * (v + 1)) + 4 ≠ 7 + (222 + 5 * (v + 1)) by omega)).1, q6 4 (by decide) (by decide)]
            show _ = if 6 + r = 11 then a2 else if 6 + r = 10 then a1 else μ1.1 1 (22 + 12 * v + (6 + r))
            rw [if_neg (by omega), if_neg (by omega)]
            exact (tr r hr).2
          · rw [uI_at, if_neg (fun z => absurd z.2 (by omega)), uI_at, if_neg (fun z => absurd z.2 (by omega)), uI_at, if_neg (fun z => g1 z.2)]
            exact m3 i g2
          · rw [uI_at, if_neg (fun z => absurd z.2 (by omega)), uI_at, if_neg (fun z => absurd z.2 (by omega)), uI_at, if_pos ⟨rfl, rfl⟩]
          · rw [uI_at]
            show _ = if i = 11 then a2 else if i = 10 then a1 else μ1.1 1 (22 + 12 * v + i)
            by_cases e : i = 11
            · rw [if_pos ⟨rfl, by omega⟩, if_pos e]
            · rw [if_neg (fun z => e (by have := z.2; omega)), if_neg e, uI_at]
              by_cases e2 : i = 10
              · rw [if_pos ⟨rfl, by omega⟩, if_pos e2]
              · rw [if_neg (fun z => e2 (by have := z.2; omega)), if_neg e2, uI_at, if_neg (fun z => absurd z.2 (by omega))]
                exact m4 i hi
          · show rg (if b = 11 then a2 else if b = 10 then a1 else μ1.1 1 (22 + 12 * v + b)) 0 999
            rw [if_neg (by omega), if_neg (by omega)]
            exact w1 b hb
          · show rg (if 6 + r = 11 then a2 else if 6 + r = 10 then a1 else μ1.1 1 (22 + 12 * v + (6 + r))) 0 100
            rw [if_neg (by omega), if_neg (by omega)]
            exact w2 r hr
        refine wo_ok (v := nI (v + 1)) (hr.mono (Nat.le_succ n)) ?_ ?_ ?_
        · rw [uI_at, if_neg (fun z => absurd z.1 (by decide)), uI_at, if_neg (fun z => absurd z.1 (by decide)), uI_at, if_neg (fun z => absurd z.1 (by decide)), (m1 0 (by decide)).1, s6 0 (by decide)]
          rfl
        · unfold g_X11_setLay
          rw [rqR]
          show bnd (some (if 0 ≤ a1.toInt ∧ a1.toInt ≤ 30 then _ else _)) _ = _
          rw [if_pos h, bnd_s, bnx_ok, rqR]
          show bnd (some (if 0 ≤ a2.toInt ∧ a2.toInt ≤ 9999 then _ else _)) _ = _
          rw [if_pos h2, bnd_s, bnx_ok, e9, if_neg h3]
          unfold g_X11_setLay_J32 g_X11_requireState
          rw [if_pos rfl, bnd_s, bnx_ok, s1, bnd_s, q1, bnd_s, asr_pos tT, bnd_s, bnd_s, uI_at, if_neg (fun z => absurd z.1 (by omega)), uI_at, if_neg (fun z => absurd z.1 (by omega)), q4]
        · unfold g_X12_setLay
          rw [bnd_s, ef0, decide_eq_true h, if_pos rfl, bnd_s, er, decide_eq_true h2, if_pos rfl]
          unfold g_X12_setLay_J30
          rw [bnd_s, bnd_s, show f_X12_canChange μ = true from if_neg h3, pz2]
          show bnd (g_X12_newVersion (uI μ 0 0 0)) _ = _
          rw [m5, bnd_s]
          show asr (vp_in (nI (22 + 12 * (v + 1)) + nI 10) 1377) (bnd (some (uI (uI μ2 1 4 (nI (v + 1))) 1 (cl (nI (22 + 12 * (v + 1)) + nI 10)) a1)) (fun μ17 => asr (vp_in (nI (22 + 12 * (v + 1)) + nI 11) 1377) (bnd (some (uI μ17 1 (cl (nI (22 + 12 * (v + 1)) + nI 11)) a2)) (fun μ22 => bnd (some (f_X12_version μ22)) (fun q24 => some (q24, μ22)))))) = _
          rw [nI_add, nI_add, asr_pos (vp_in_nI (by omega) (by decide)), bnd_s, asr_pos (vp_in_nI (by omega) (by decide)), bnd_s, bnd_s, cl_nI (by omega), cl_nI (by omega)]
          show some ((uI (uI (uI μ2 1 4 (nI (v + 1))) 1 (22 + 12 * (v + 1) + 10) a1) 1 (22 + 12 * (v + 1) + 11) a2).1 1 4, _) = _
          rw [uI_at, if_neg (fun z => absurd z.2 (by omega)), uI_at, if_neg (fun z => absurd z.2 (by omega)), uI_at, if_pos ⟨rfl, rfl⟩]
    · refine wo_er 2 1 hR ?_ ?_ (by simp) rfl (by decide)
      · unfold g_X11_setLay
        rw [rqR]
        show bnd (some (if 0 ≤ a1.toInt ∧ a1.toInt ≤ 30 then _ else _)) _ = _
        rw [if_pos h, bnd_s, bnx_ok, rqR]
        show bnd (some (if 0 ≤ a2.toInt ∧ a2.toInt ≤ 9999 then _ else _)) _ = _
        rw [if_neg h2]
        rfl
      · unfold g_X12_setLay
        rw [bnd_s, ef0, decide_eq_true h, if_pos rfl, bnd_s, er, decide_eq_false h2, if_neg (by decide)]
        exact J29 _ rfl
  · refine wo_er 2 1 hR ?_ ?_ (by simp) rfl (by decide)
    · unfold g_X11_setLay
      rw [rqR]
      show bnd (some (if 0 ≤ a1.toInt ∧ a1.toInt ≤ 30 then _ else _)) _ = _
      rw [if_neg h]
      rfl
    · unfold g_X12_setLay
      rw [bnd_s, ef0, decide_eq_false h, if_neg (by decide)]
      exact J29 _ rfl
