/-! PURE. Bands and rebates of a text. -/
section BND
variable {ν0 μ0 ν μ : Mm} {len N : Nat}
theorem Dr.band (h : Dr ν μ N) {x : Nat} (hx : cl (μ.1 2 6) = x) (hx6 : x < 6) {v1 v2 : Int32} (r1 : rg v1 0 9999) (r2 : rg v2 0 999) (z1 : x = 0 → v1 = 0) (z2 : ∀ y, y + 1 = x → (μ.1 2 (12 + y)).toInt < v1.toInt) {ν' μ' : Mm} (cν : ∀ off, 334 ≤ off → off < 661 → off ≠ 556 → off ≠ 557 → off ≠ 558 → Eq3 ν ν' off) (cf : ∀ k, k = 6 ∨ k = 7 ∨ k = 8 → ν'.1 661 k = ν.1 661 k) (c0 : ∀ k, k ≠ 4 → ν'.1 556 k = ν.1 556 k) (c4 : ν'.1 556 4 = nI (x + 1)) (c1 : ∀ k, k ≠ x → ν'.1 557 k = ν.1 557 k) (c1x : ν'.1 557 x = v1) (c2 : ∀ k, k ≠ x → ν'.1 558 k = ν.1 558 k) (c2x : ν'.1 558 x = v2) (E : ∀ k, k ≠ 6 → k ≠ 12 + x → k ≠ 22 + x → μ'.1 2 k = μ.1 2 k) (m6 : μ'.1 2 6 = nI (x + 1)) (m1 : μ'.1 2 (12 + x) = v1) (m2 : μ'.1 2 (22 + x) = v2) (mf : ∀ k, k = 14 ∨ k = 15 ∨ k = 16 → μ'.1 0 k = μ.1 0 k) : Dr ν' μ' (N + 1) := by
  obtain ⟨h1, h2, h3, h4⟩ := h
  have n6 := (cl_of h2.1.2.2.2.2.2.2.1).2.2
  have n7 := (cl_of h2.1.2.2.2.2.2.2.2.1).2.2
  have cx : cl (nI (x + 1)) = x + 1 := cl_nI (by omega)
  have F : ∀ k, k < 1377 ∧ (k < 6 ∨ 6 + 28 ≤ k) → μ'.1 2 k = μ.1 2 k := fun k hk => E k (by omega) (by omega) (by omega)
  obtain ⟨⟨t4, t5, t6, t7, t8, t9, t10, t11⟩, tb, tr⟩ := h1.2.2.2.2.2 0 (Nat.zero_le _)
  obtain ⟨⟨w0, w1, w2, w3, w4, w5, w6, w7, w8, w9, w10, w11⟩, y1, y2, y3, y4, y5, y6, y7, y8⟩ := id h2
  have y70 := y7 0 (by decide)
  have xr : rg (nI (x + 1)) 0 6 := ⟨by rw [nI_toInt (by omega)]; omega, by rw [nI_toInt (by omega)]; omega⟩
  refine ⟨?_, ?_, ?_, ?_⟩
  · refine h1.tarc h2 (fun off g1 g2 g3 g4 g5 g6 g7 g8 => cν off (by omega) (by omega) (by omega) (by omega) (by omega)) (fun k g1 g2 => by rw [(cν 334 (by omega) (by omega) (by omega) (by omega) (by omega)).1]) F (by rw [h3]; rfl) ⟨⟨?_, ?_, ?_, ?_, ?_, ?_, ?_, ?_⟩, fun b hb => ⟨?_, ?_⟩, fun r hr => ⟨?_, ?_⟩⟩
    · exact c4.trans m6.symm
    · exact (c0 5 (by decide)).trans (t5.trans (E 7 (by omega) (by omega) (by omega)).symm)
    · exact (c0 6 (by decide)).trans (t6.trans (E 8 (by omega) (by omega) (by omega)).symm)
    · exact (c0 7 (by decide)).trans (t7.trans (E 9 (by omega) (by omega) (by omega)).symm)
    · exact (c0 8 (by decide)).trans (t8.trans (E 10 (by omega) (by omega) (by omega)).symm)
    · exact (c0 9 (by decide)).trans (t9.trans (E 11 (by omega) (by omega) (by omega)).symm)
    · exact (c0 10 (by decide)).trans (t10.trans (E 32 (by omega) (by omega) (by omega)).symm)
    · exact (c0 11 (by decide)).trans (t11.trans (E 33 (by omega) (by omega) (by omega)).symm)
    · rw [m6, cx] at hb
      by_cases e : b = x
      · rw [e]
        exact c1x.trans m1.symm
      · refine (c1 b e).trans (((tb b (by omega)).1).trans (E _ (by omega) (by omega) (by omega)).symm)
    · rw [m6, cx] at hb
      by_cases e : b = x
      · rw [e]
        exact c2x.trans m2.symm
      · refine (c2 b e).trans (((tb b (by omega)).2).trans (E _ (by omega) (by omega) (by omega)).symm)
    · rw [E 7 (by decide) (by omega) (by omega)] at hr
      rw [(cν (556 + 3) (by omega) (by omega) (by omega) (by omega) (by omega)).1, E (18 + r) (by omega) (by omega) (by omega)]
      exact (tr r hr).1
    · rw [E 7 (by decide) (by omega) (by omega)] at hr
      rw [(cν (556 + 4) (by omega) (by omega) (by omega) (by omega) (by omega)).1, E _ (by omega) (by omega) (by omega)]
      exact (tr r hr).2
  · refine h2.tarc F ⟨?_, ?_, ?_, ?_, ?_, ?_⟩ (fun b hb => ?_) (fun hb => ?_) (fun b hb => ?_) (fun r hr => ?_) (fun r hr => ?_) (fun r hr => ?_) ⟨fun b hb => ?_, fun r hr => ?_, ?_, ?_⟩
    · rw [m6]; exact xr
    · rw [E 7 (by decide) (by omega) (by omega)]; exact w7
    · rw [E 8 (by decide) (by omega) (by omega)]; exact w8
    · rw [E 9 (by decide) (by omega) (by omega)]; exact w9
    · rw [E 10 (by decide) (by omega) (by omega)]; exact w10
    · rw [E 11 (by decide) (by omega) (by omega)]; exact w11
    · by_cases e : b = x
      · rw [e, m1]; exact r1
      · rw [E _ (by omega) (by omega) (by omega)]; exact y1 b hb
    · by_cases e : x = 0
      · subst e
        exact m1.trans (z1 rfl)
      · rw [E 12 (by omega) (by omega) (by omega)]
        exact y2 (by omega)
    · rw [m6, cx] at hb
      rw [E (12 + b) (by omega) (by omega) (by omega)]
      by_cases e : b + 1 = x
      · rw [e, m1]
        exact z2 b e
      · rw [E _ (by omega) (by omega) (by omega)]; exact y3 b (by omega)
    · rw [E _ (by omega) (by omega) (by omega)]; exact y4 r hr
    · rw [E 7 (by decide) (by omega) (by omega)] at hr
      rw [E _ (by omega) (by omega) (by omega), E _ (by omega) (by omega) (by omega)]; exact y5 r hr
    · rw [E 7 (by decide) (by omega) (by omega)] at hr
      rw [E _ (by omega) (by omega) (by omega)]; exact y6 r hr
    · by_cases e : b = x
      · rw [e, m2]; exact r2
      · rw [E _ (by omega) (by omega) (by omega)]; exact y70.1 b hb
    · rw [E _ (by omega) (by omega) (by omega)]; exact y70.2.1 r hr
    · rw [E _ (by omega) (by omega) (by omega)]; exact y70.2.2.1
    · rw [E _ (by omega) (by omega) (by omega)]; exact y70.2.2.2
  · rw [E 4 (by decide) (by omega) (by omega)]; exact h3
  · obtain ⟨fm, fw, fl, a1, ⟨b1, b2, b3⟩, ⟨c1, c2, c3⟩, d1, d2⟩ := h4
    refine ⟨fm, fw, fl, a1, ⟨?_, ?_, ?_⟩, ⟨?_, ?_, ?_⟩, ?_, ?_⟩
    · rw [cf 6 (by omega)]; exact b1
    · rw [cf 7 (by omega)]; exact b2
    · rw [cf 8 (by omega)]; exact b3
    · rw [mf 14 (by omega)]; exact c1
    · rw [mf 15 (by omega)]; exact c2
    · rw [mf 16 (by omega)]; exact c3
    · rw [m6, cx, E 7 (by decide) (by omega) (by omega), E 0 (by decide) (by omega) (by omega), E 1 (by decide) (by omega) (by omega)]; omega
    · rw [E 1 (by decide) (by omega) (by omega)]; exact d2
theorem band_st (h : Gd ν0 μ0 len N ν μ) : Out ν0 μ0 len (N + 1) (g_X7_bandStatement ν 556) (g_X12_parseBand μ) := by
  obtain ⟨hF, hP, hD⟩ := id h
  obtain ⟨h1, h2, h3, h4⟩ := id hD
  obtain ⟨⟨t4, t5, t6, t7, t8, t9, t10, t11⟩, tb, tr⟩ := h1.2.2.2.2.2 0 (Nat.zero_le _)
  obtain ⟨⟨w0, w1, w2, w3, w4, w5, w6, w7, w8, w9, w10, w11⟩, y1, y2, y3, y4, y5, y6, y7, y8⟩ := id h2
  have r2 : μ.2.2 0 3 = 2 := hF.2.2.2.2
  obtain ⟨k1, k2, k3⟩ := cl_of w6
  generalize hx : cl (μ.1 2 6) = x at k1 k2 k3
  have ct : ν.1 556 4 = nI x := t4.trans k1
  have tx0 : ((6 : Int32)).toInt = 6 := rfl
  unfold g_X7_bandStatement g_X12_parseBand
  rw [asr_pos tar556, ct, r2, asr_pos row2, k1]
  by_cases g : x < 6
  · rw [if_pos (show nI x < (6 : Int32) by rw [lt32, nI_toInt (by omega), tx0]; omega), if_neg (show ¬ nI x = (6 : Int32) from fun z => absurd ((nI_eq (b := 6) (by omega) (by decide)).mp z) (by omega))]
    obtain ⟨ν1, μ1, f1, f2, f3, f4, -⟩ := rd_of hP
    have e2 : μ1.1 2 = μ.1 2 := (f3.2.2.1 2 (by decide)).1
    have r21 : μ1.2.2 0 3 = 2 := (hF.mw f3).2.2.2.2
    obtain ⟨LO, hLO⟩ : ∃ LO : Int32, LO = (if x = 0 then (0 : Int32) else μ.1 2 (12 + (x - 1)) + (1 : Int32)) := ⟨_, rfl⟩
    obtain ⟨HI, hHI⟩ : ∃ HI : Int32, HI = (if x = 0 then (0 : Int32) else (9999 : Int32)) := ⟨_, rfl⟩
    have hh : HI.toInt ≤ 9999 := by
      rw [hHI]
      split <;> decide
    have tlo : x = 0 → LO.toInt = 0 := fun z => by
      rw [hLO, if_pos z]
      rfl
    have tlp : ∀ y, y + 1 = x → LO.toInt = (μ.1 2 (12 + y)).toInt + 1 := fun y z => by
      have rr := y1 (x - 1) (by omega)
      obtain ⟨rr1, rr2⟩ := rr
      have t1 : ((1 : Int32)).toInt = 1 := rfl
      rw [hLO, if_neg (by omega), ti_add (by rw [t1]; omega) (by rw [t1]; omega), t1, show x - 1 = y by omega]
    have CE : (if nI x = 0 then g_X7_bandStatement_J35 ν 556 ν (nI x) (0 : Int32) else asr (vp_in (nI x - (1 : Int32)) 6) (g_X7_bandStatement_J35 ν 556 ν (nI x) ((ν.1 (556 + 1) (cl (nI x - (1 : Int32)))) + (1 : Int32)))) = g_X7_bandStatement_J53 ν 556 ν1 (nI x) HI LO := by
      by_cases e : x = 0
      · rw [if_pos (show nI x = 0 by rw [e]; rfl)]
        unfold g_X7_bandStatement_J35
        rw [f1, bnd_s, if_pos (show nI x = 0 by rw [e]; rfl), hHI, hLO, if_pos e, if_pos e]
      · have nz : ¬ nI x = 0 := fun z => e ((nI_eq (b := 0) (by omega) (by decide)).mp z)
        have xm : nI x - (1 : Int32) = nI (x - 1) := by
          have := nI_sub (x - 1) 1
          rw [Nat.sub_add_cancel (by omega)] at this
          exact this
        rw [if_neg nz, xm, asr_pos (vp_in_nI (by omega) (by decide)), cl_nI (by omega), (tb (x - 1) (by omega)).1]
        unfold g_X7_bandStatement_J35
        rw [f1, bnd_s, if_neg nz, hHI, hLO, if_neg e, if_neg e]
    have ME : g_X12_parseBand_J19 μ μ (nI x) = g_X12_parseBand_J56 μ μ1 (nI x) HI LO := by
      unfold g_X12_parseBand_J19
      rw [f2, bnd_s]
      by_cases e : x = 0
      · rw [if_pos (show nI x = 0 by rw [e]; rfl)]
        unfold g_X12_parseBand_J45
        rw [if_pos (show nI x = 0 by rw [e]; rfl), hHI, hLO, if_pos e, if_pos e]
      · have nz : ¬ nI x = 0 := fun z => e ((nI_eq (b := 0) (by omega) (by decide)).mp z)
        have xm : ((12 : Int32) + nI x) - (1 : Int32) = nI (12 + (x - 1)) := by
          have := nI_sub (12 + (x - 1)) 1
          rw [← this, show 12 + (x - 1) + 1 = 12 + x by omega, ← nI_add]
          rfl
        rw [if_neg nz, r21, asr_pos row2, xm, asr_pos (vp_in_nI (by omega) (by decide)), cl_nI (by omega), e2]
        unfold g_X12_parseBand_J45
        rw [if_neg nz, hHI, hLO, if_neg e, if_neg e]
    rw [CE, ME]
    unfold g_X7_bandStatement_J53 g_X12_parseBand_J56
    obtain ⟨b, ν2, v1, μ2, n1, n2, ⟨n3, n4⟩, n5⟩ := number_of f4 (lo := LO) (hi := HI) hh
    rw [n1, n2, bnd_s, bnd_s]
    dsimp only
    have hF2 : Fz ν0 μ0 ν2 μ2 := (hF.mw f3).mw n3
    rcases n4 with ⟨rfl, n4⟩ | ⟨rfl, n4⟩
    · obtain ⟨n5, n6, n7⟩ := n5 rfl
      rw [if_pos (show true = true from rfl), asr_pos (vp_in_nI g (by decide)), cl_nI (by omega), n5, bnd_s]
      have q4 : Ps (uI ν2 (556 + 1) x v1) μ2 len := n4.C (by omega)
      have qF : Fz ν0 μ0 (uI ν2 (556 + 1) x v1) μ2 := hF2.C (by omega)
      rcases na_of q4 1702125938 (lo := (0 : Int32)) (hi := (999 : Int32)) (by decide) with ⟨νa, νb, v, μb, c1, c2, c3, c4, c5, c6, c7, -⟩ | ⟨νb, v, μb, c1, c2, c3, c4⟩
      rotate_left
      · have hE : Er ν0 μ0 νb μb := ⟨qF.mw c3, c4⟩
        rw [c2, bnd_s, bnd_s, good_f c4.2.2, if_neg nff]
        rcases c1 with c1 | ⟨νa, c1, d1⟩
        · rw [c1, bnd_s, if_neg (show ¬ (false, νb).1 = true from nff)]
          exact ⟨false, νb, _, rfl, rfl, Or.inr ⟨rfl, hE⟩⟩
        · rw [c1, bnd_s, if_pos (show (true, νa).1 = true from rfl), d1, bnd_s, if_neg (show ¬ (false, νb).1 = true from nff)]
          exact ⟨false, νb, _, rfl, rfl, Or.inr ⟨rfl, hE⟩⟩
      have hFb : Fz ν0 μ0 νb μb := qF.mw c4
      have rb : μb.2.2 0 3 = 2 := hFb.2.2.2.2
      have gb : μb.1 0 12 = 0 := c5.2.2.2.2.1
      rw [c1, bnd_s, if_pos (show (true, νa).1 = true from rfl), c2, bnd_s, if_pos (show (true, νb).1 = true from rfl), bnd_s, c3, bnd_s, bnd_s]
      dsimp only
      rw [c6, good_t gb, bnd_s, if_pos (show true = true from rfl), rb, asr_pos row2, show (12 : Int32) + nI x = nI (12 + x) from nI_add 12 x, asr_pos (vp_in_nI (by omega) (by decide)), cl_nI (by omega), bnd_s]
      have e540 : ∀ u k, (uI νb (556 + 2) x u).1 556 k = ν.1 556 k := fun u k => by
        rw [uI_at, if_neg (fun z => absurd z.1 (by decide)), (c4.1 556 (by decide)).1, uI_at, if_neg (fun z => absurd z.1 (by decide)), (n3.1 556 (by decide)).1, (f3.1 556 (by decide)).1]
      have eb2 : ∀ k, μb.1 2 k = μ.1 2 k := fun k => by
        rw [(c4.2.2.1 2 (by decide)).1, (n3.2.2.1 2 (by decide)).1, e2]
      rw [show (uI μb 2 (12 + x) v1).2.2 0 3 = 2 from rb, asr_pos row2, show (22 : Int32) + nI x = nI (22 + x) from nI_add 22 x, asr_pos (vp_in_nI (by omega) (by decide)), cl_nI (by omega), bnd_s]
      rw [show (uI (uI μb 2 (12 + x) v1) 2 (22 + x) v).2.2 0 3 = 2 from rb, asr_pos row2, bnd_s]
      have e6 : (uI (uI μb 2 (12 + x) v1) 2 (22 + x) v).1 2 6 = nI x := by
        rw [uI_at, if_neg (fun z => absurd z.2 (by omega)), uI_at, if_neg (fun z => absurd z.2 (by omega)), eb2]
        exact k1
      rw [e6, e540, ct, nI1]
      refine ⟨true, _, _, rfl, rfl, Or.inl ⟨rfl, (((hFb.C (by omega)).C (by omega)).M2.M2).M2, (((c5.C (by omega)).C (by omega)).M2.M2).M2, ?_⟩⟩
      refine hD.band hx g (v1 := v1) (v2 := v) ?_ c7 ?_ ?_ (fun off g1 g2 g3 g4 g5 => ?_) (fun k hk => ?_) (fun k hk => ?_) ?_ (fun k hk => ?_) ?_ (fun k hk => ?_) ?_ (fun k g1 g2 g3 => ?_) ?_ ?_ ?_ (fun k hk => ?_)
      · refine ⟨n7, Int.le_trans n6.2 ?_⟩
        rw [hHI]
        split <;> decide
      · intro z
        have u := n6.2
        rw [hHI, if_pos z] at u
        rw [eq32]
        exact Int.le_antisymm u n7
      · intro y z
        have u := tlp y z
        have u3 := n6.1
        omega
      · exact (((((f3.1 off (by omega)).tr (n3.1 off (by omega))).I (by omega)).tr (c4.1 off (by omega))).I (by omega)).I (by omega)
      · rw [uI_at, if_neg (fun z => absurd z.1 (by decide)), uI_at, if_neg (fun z => absurd z.1 (by decide)), c4.2.1.2 k hk, uI_at, if_neg (fun z => absurd z.1 (by decide)), n3.2.1.2 k hk, f3.2.1.2 k hk]
      · rw [uI_at, if_neg (fun z => hk z.2), e540]
      · rw [uI_at, if_pos ⟨rfl, rfl⟩]
      · rw [uI_at, if_neg (fun z => absurd z.1 (by decide)), uI_at, if_neg (fun z => absurd z.1 (by decide)), (c4.1 557 (by decide)).1, uI_at, if_neg (fun z => hk z.2), (n3.1 557 (by decide)).1, (f3.1 557 (by decide)).1]
      · rw [uI_at, if_neg (fun z => absurd z.1 (by decide)), uI_at, if_neg (fun z => absurd z.1 (by decide)), (c4.1 557 (by decide)).1, uI_at, if_pos ⟨rfl, rfl⟩]
      · rw [uI_at, if_neg (fun z => absurd z.1 (by decide)), uI_at, if_neg (fun z => hk z.2), (c4.1 558 (by decide)).1, uI_at, if_neg (fun z => absurd z.1 (by decide)), (n3.1 558 (by decide)).1, (f3.1 558 (by decide)).1]
      · rw [uI_at, if_neg (fun z => absurd z.1 (by decide)), uI_at, if_pos ⟨rfl, rfl⟩]
      · rw [uI_at, if_neg (fun z => g1 z.2), uI_at, if_neg (fun z => g3 z.2), uI_at, if_neg (fun z => g2 z.2), eb2]
      · rw [uI_at, if_pos ⟨rfl, rfl⟩]
      · rw [uI_at, if_neg (fun z => absurd z.2 (by omega)), uI_at, if_neg (fun z => absurd z.2 (by omega)), uI_at, if_pos ⟨rfl, rfl⟩]
      · rw [uI_at, if_neg (fun z => absurd z.2 (by omega)), uI_at, if_pos ⟨rfl, rfl⟩]
      · rw [uI_at, if_neg (fun z => absurd z.1 (by decide)), uI_at, if_neg (fun z => absurd z.1 (by decide)), uI_at, if_neg (fun z => absurd z.1 (by decide)), c4.2.2.2.2 k (by omega), n3.2.2.2.2 k (by omega), f3.2.2.2.2 k (by omega)]
    · rw [if_neg nff, bnd_s, bd_na n4.2.2, bnd_s, bnd_s, good_f n4.2.2, if_neg nff]
      exact ⟨false, ν2, μ2, rfl, rfl, Or.inr ⟨rfl, hF2, n4⟩⟩
  · have ex : x = 6 := by omega
    subst ex
    obtain ⟨ν2, μ2, f1, f2, f3, f4⟩ := fail_of hP (4 : Int32) (by decide)
    have hB := f4.2.2
    have r22 : μ2.2.2 0 3 = 2 := (hF.mw f3).2.2.2.2
    rw [if_neg (show ¬ nI 6 < (6 : Int32) by decide), if_pos (show nI 6 = (6 : Int32) from rfl), f1, f2, bnd_s, bnd_s]
    unfold g_X12_parseBand_J19
    rw [bd_goOn hB, bnd_s, if_neg (show ¬ nI 6 = 0 by decide), r22, asr_pos row2, show ((12 : Int32) + nI 6) - (1 : Int32) = nI 17 by decide, asr_pos (vp_in_nI (show 17 < 1377 by decide) (by decide))]
    unfold g_X12_parseBand_J45
    rw [if_neg (show ¬ nI 6 = 0 by decide)]
    unfold g_X12_parseBand_J56
    rw [bd_number hB, bnd_s, bd_na hB, bnd_s, bnd_s, good_f hB, if_neg nff]
    exact ⟨false, ν2, μ2, rfl, rfl, Or.inr ⟨rfl, hF.mw f3, f4⟩⟩
theorem Dr.rebate (h : Dr ν μ N) {x : Nat} (hx : cl (μ.1 2 7) = x) (hx6 : x < 4) {v1 v2 : Int32} (r1 : rg v1 0 99) (r2 : rg v2 0 100) (z1 : 2 ≤ v1.toInt) (z2 : ∀ y, y + 1 = x → (μ.1 2 (18 + y)).toInt < v1.toInt) {ν' μ' : Mm} (cν : ∀ off, 334 ≤ off → off < 661 → off ≠ 556 → off ≠ 559 → off ≠ 560 → Eq3 ν ν' off) (cf : ∀ k, k = 6 ∨ k = 7 ∨ k = 8 → ν'.1 661 k = ν.1 661 k) (c0 : ∀ k, k ≠ 5 → ν'.1 556 k = ν.1 556 k) (c4 : ν'.1 556 5 = nI (x + 1)) (c1 : ∀ k, k ≠ x → ν'.1 559 k = ν.1 559 k) (c1x : ν'.1 559 x = v1) (c2 : ∀ k, k ≠ x → ν'.1 560 k = ν.1 560 k) (c2x : ν'.1 560 x = v2) (E : ∀ k, k ≠ 7 → k ≠ 18 + x → k ≠ 28 + x → μ'.1 2 k = μ.1 2 k) (m6 : μ'.1 2 7 = nI (x + 1)) (m1 : μ'.1 2 (18 + x) = v1) (m2 : μ'.1 2 (28 + x) = v2) (mf : ∀ k, k = 14 ∨ k = 15 ∨ k = 16 → μ'.1 0 k = μ.1 0 k) : Dr ν' μ' (N + 1) := by
  obtain ⟨h1, h2, h3, h4⟩ := h
  have n6 := (cl_of h2.1.2.2.2.2.2.2.1).2.2
  have n7 := (cl_of h2.1.2.2.2.2.2.2.2.1).2.2
  have cx : cl (nI (x + 1)) = x + 1 := cl_nI (by omega)
  have F : ∀ k, k < 1377 ∧ (k < 6 ∨ 6 + 28 ≤ k) → μ'.1 2 k = μ.1 2 k := fun k hk => E k (by omega) (by omega) (by omega)
  obtain ⟨⟨t4, t5, t6, t7, t8, t9, t10, t11⟩, tb, tr⟩ := h1.2.2.2.2.2 0 (Nat.zero_le _)
  obtain ⟨⟨w0, w1, w2, w3, w4, w5, w6, w7, w8, w9, w10, w11⟩, y1, y2, y3, y4, y5, y6, y7, y8⟩ := id h2
  have y70 := y7 0 (by decide)
  have xr : rg (nI (x + 1)) 0 4 := ⟨by rw [nI_toInt (by omega)]; omega, by rw [nI_toInt (by omega)]; omega⟩
  refine ⟨?_, ?_, ?_, ?_⟩
  · refine h1.tarc h2 (fun off g1 g2 g3 g4 g5 g6 g7 g8 => cν off (by omega) (by omega) (by omega) (by omega) (by omega)) (fun k g1 g2 => by rw [(cν 334 (by omega) (by omega) (by omega) (by omega) (by omega)).1]) F (by rw [h3]; rfl) ⟨⟨?_, ?_, ?_, ?_, ?_, ?_, ?_, ?_⟩, fun b hb => ⟨?_, ?_⟩, fun r hr => ⟨?_, ?_⟩⟩
    · exact (c0 4 (by decide)).trans (t4.trans (E 6 (by omega) (by omega) (by omega)).symm)
    · exact c4.trans m6.symm
    · exact (c0 6 (by decide)).trans (t6.trans (E 8 (by omega) (by omega) (by omega)).symm)
    · exact (c0 7 (by decide)).trans (t7.trans (E 9 (by omega) (by omega) (by omega)).symm)
    · exact (c0 8 (by decide)).trans (t8.trans (E 10 (by omega) (by omega) (by omega)).symm)
    · exact (c0 9 (by decide)).trans (t9.trans (E 11 (by omega) (by omega) (by omega)).symm)
    · exact (c0 10 (by decide)).trans (t10.trans (E 32 (by omega) (by omega) (by omega)).symm)
    · exact (c0 11 (by decide)).trans (t11.trans (E 33 (by omega) (by omega) (by omega)).symm)
    · rw [E 6 (by decide) (by omega) (by omega)] at hb
      rw [(cν (556 + 1) (by omega) (by omega) (by omega) (by omega) (by omega)).1, E (12 + b) (by omega) (by omega) (by omega)]
      exact (tb b hb).1
    · rw [E 6 (by decide) (by omega) (by omega)] at hb
      rw [(cν (556 + 2) (by omega) (by omega) (by omega) (by omega) (by omega)).1, E _ (by omega) (by omega) (by omega)]
      exact (tb b hb).2
    · rw [m6, cx] at hr
      by_cases e : r = x
      · rw [e]
        exact c1x.trans m1.symm
      · refine (c1 r e).trans (((tr r (by omega)).1).trans (E _ (by omega) (by omega) (by omega)).symm)
    · rw [m6, cx] at hr
      by_cases e : r = x
      · rw [e]
        exact c2x.trans ((congrArg (μ'.1 2) (show 22 + 12 * 0 + (6 + x) = 28 + x by omega)).trans m2).symm
      · refine (c2 r e).trans (((tr r (by omega)).2).trans (E _ (by omega) (by omega) (by omega)).symm)
  · refine h2.tarc F ⟨?_, ?_, ?_, ?_, ?_, ?_⟩ (fun b hb => ?_) (fun hb => ?_) (fun b hb => ?_) (fun r hr => ?_) (fun r hr => ?_) (fun r hr => ?_) ⟨fun b hb => ?_, fun r hr => ?_, ?_, ?_⟩
    · rw [E 6 (by decide) (by omega) (by omega)]; exact w6
    · rw [m6]; exact xr
    · rw [E 8 (by decide) (by omega) (by omega)]; exact w8
    · rw [E 9 (by decide) (by omega) (by omega)]; exact w9
    · rw [E 10 (by decide) (by omega) (by omega)]; exact w10
    · rw [E 11 (by decide) (by omega) (by omega)]; exact w11
    · rw [E _ (by omega) (by omega) (by omega)]; exact y1 b hb
    · rw [E 6 (by decide) (by omega) (by omega)] at hb
      rw [E 12 (by omega) (by omega) (by omega)]; exact y2 hb
    · rw [E 6 (by decide) (by omega) (by omega)] at hb
      rw [E _ (by omega) (by omega) (by omega), E _ (by omega) (by omega) (by omega)]; exact y3 b hb
    · by_cases e : r = x
      · rw [e, m1]; exact r1
      · rw [E _ (by omega) (by omega) (by omega)]; exact y4 r hr
    · rw [m6, cx] at hr
      rw [E (18 + r) (by omega) (by omega) (by omega)]
      by_cases e : r + 1 = x
      · rw [e, m1]
        exact z2 r e
      · rw [E _ (by omega) (by omega) (by omega)]; exact y5 r (by omega)
    · rw [m6, cx] at hr
      by_cases e : r = x
      · rw [e, m1]; exact z1
      · rw [E _ (by omega) (by omega) (by omega)]; exact y6 r (by omega)
    · rw [E _ (by omega) (by omega) (by omega)]; exact y70.1 b hb
    · by_cases e : r = x
      · rw [e, show 22 + (6 + x) = 28 + x by omega, m2]; exact r2
      · rw [E _ (by omega) (by omega) (by omega)]; exact y70.2.1 r hr
    · rw [E _ (by omega) (by omega) (by omega)]; exact y70.2.2.1
    · rw [E _ (by omega) (by omega) (by omega)]; exact y70.2.2.2
  · rw [E 4 (by decide) (by omega) (by omega)]; exact h3
  · obtain ⟨fm, fw, fl, a1, ⟨b1, b2, b3⟩, ⟨c1, c2, c3⟩, d1, d2⟩ := h4
    refine ⟨fm, fw, fl, a1, ⟨?_, ?_, ?_⟩, ⟨?_, ?_, ?_⟩, ?_, ?_⟩
    · rw [cf 6 (by omega)]; exact b1
    · rw [cf 7 (by omega)]; exact b2
    · rw [cf 8 (by omega)]; exact b3
    · rw [mf 14 (by omega)]; exact c1
    · rw [mf 15 (by omega)]; exact c2
    · rw [mf 16 (by omega)]; exact c3
    · rw [m6, cx, E 6 (by decide) (by omega) (by omega), E 0 (by decide) (by omega) (by omega), E 1 (by decide) (by omega) (by omega)]; omega
    · rw [E 1 (by decide) (by omega) (by omega)]; exact d2
theorem rebate_st (h : Gd ν0 μ0 len N ν μ) : Out ν0 μ0 len (N + 1) (g_X7_rebateStatement ν 556) (g_X12_parseRebate μ) := by
  obtain ⟨hF, hP, hD⟩ := id h
  obtain ⟨h1, h2, h3, h4⟩ := id hD
  obtain ⟨⟨t4, t5, t6, t7, t8, t9, t10, t11⟩, tb, tr⟩ := h1.2.2.2.2.2 0 (Nat.zero_le _)
  obtain ⟨⟨w0, w1, w2, w3, w4, w5, w6, w7, w8, w9, w10, w11⟩, y1, y2, y3, y4, y5, y6, y7, y8⟩ := id h2
  have r2 : μ.2.2 0 3 = 2 := hF.2.2.2.2
  obtain ⟨k1, k2, k3⟩ := cl_of w7
  generalize hx : cl (μ.1 2 7) = x at k1 k2 k3
  have ct : ν.1 556 5 = nI x := t5.trans k1
  have tx0 : ((4 : Int32)).toInt = 4 := rfl
  unfold g_X7_rebateStatement g_X12_parseRebate
  rw [asr_pos tar556, ct, r2, asr_pos row2, k1]
  by_cases g : x < 4
  · rw [if_pos (show nI x < (4 : Int32) by rw [lt32, nI_toInt (by omega), tx0]; omega), if_neg (show ¬ nI x = (4 : Int32) from fun z => absurd ((nI_eq (b := 4) (by omega) (by decide)).mp z) (by omega))]
    obtain ⟨ν1, μ1, f1, f2, f3, f4, -⟩ := rd_of hP
    have e2 : μ1.1 2 = μ.1 2 := (f3.2.2.1 2 (by decide)).1
    have r21 : μ1.2.2 0 3 = 2 := (hF.mw f3).2.2.2.2
    obtain ⟨LO, hLO⟩ : ∃ LO : Int32, LO = (if x = 0 then (2 : Int32) else μ.1 2 (18 + (x - 1)) + (1 : Int32)) := ⟨_, rfl⟩
    obtain ⟨HI, hHI⟩ : ∃ HI : Int32, HI = (99 : Int32) := ⟨_, rfl⟩
    have hh : HI.toInt ≤ 9999 := by
      rw [hHI]
      decide
    have tlo : x = 0 → LO.toInt = 2 := fun z => by
      rw [hLO, if_pos z]
      rfl
    have tlp : ∀ y, y + 1 = x → LO.toInt = (μ.1 2 (18 + y)).toInt + 1 := fun y z => by
      have rr := y4 (x - 1) (by omega)
      obtain ⟨rr1, rr2⟩ := rr
      have t1 : ((1 : Int32)).toInt = 1 := rfl
      rw [hLO, if_neg (by omega), ti_add (by rw [t1]; omega) (by rw [t1]; omega), t1, show x - 1 = y by omega]
    have CE : (if nI x = 0 then g_X7_rebateStatement_J34 ν 556 ν (nI x) (2 : Int32) else asr (vp_in (nI x - (1 : Int32)) 4) (g_X7_rebateStatement_J34 ν 556 ν (nI x) ((ν.1 (556 + 3) (cl (nI x - (1 : Int32)))) + (1 : Int32)))) = g_X7_rebateStatement_J34 ν 556 ν (nI x) LO := by
      by_cases e : x = 0
      · rw [if_pos (show nI x = 0 by rw [e]; rfl), hLO, if_pos e]
      · have nz : ¬ nI x = 0 := fun z => e ((nI_eq (b := 0) (by omega) (by decide)).mp z)
        have xm : nI x - (1 : Int32) = nI (x - 1) := by
          have := nI_sub (x - 1) 1
          rw [Nat.sub_add_cancel (by omega)] at this
          exact this
        rw [if_neg nz, xm, asr_pos (vp_in_nI (by omega) (by decide)), cl_nI (by omega), (tr (x - 1) (by omega)).1, hLO, if_neg e]
    have ME : g_X12_parseRebate_J18 μ μ (nI x) = g_X12_parseRebate_J44 μ μ1 (nI x) LO := by
      unfold g_X12_parseRebate_J18
      rw [f2, bnd_s]
      by_cases e : x = 0
      · rw [if_pos (show nI x = 0 by rw [e]; rfl), hLO, if_pos e]
      · have nz : ¬ nI x = 0 := fun z => e ((nI_eq (b := 0) (by omega) (by decide)).mp z)
        have xm : ((18 : Int32) + nI x) - (1 : Int32) = nI (18 + (x - 1)) := by
          have := nI_sub (18 + (x - 1)) 1
          rw [← this, show 18 + (x - 1) + 1 = 18 + x by omega, ← nI_add]
          rfl
        rw [if_neg nz, r21, asr_pos row2, xm, asr_pos (vp_in_nI (by omega) (by decide)), cl_nI (by omega), e2, hLO, if_neg e]
    rw [CE, ME]
    unfold g_X7_rebateStatement_J34 g_X12_parseRebate_J44
    rw [f1, bnd_s, ← hHI]
    obtain ⟨b, ν2, v1, μ2, n1, n2, ⟨n3, n4⟩, n5⟩ := number_of f4 (lo := LO) (hi := HI) hh
    rw [n1, n2, bnd_s, bnd_s]
    dsimp only
    have hF2 : Fz ν0 μ0 ν2 μ2 := (hF.mw f3).mw n3
    rcases n4 with ⟨rfl, n4⟩ | ⟨rfl, n4⟩
    · obtain ⟨n5, n6, n7⟩ := n5 rfl
      rw [if_pos (show true = true from rfl), asr_pos (vp_in_nI g (by decide)), cl_nI (by omega), n5, bnd_s]
      have q4 : Ps (uI ν2 (556 + 3) x v1) μ2 len := n4.C (by omega)
      have qF : Fz ν0 μ0 (uI ν2 (556 + 3) x v1) μ2 := hF2.C (by omega)
      rcases na_of q4 32772479037629808 (lo := (0 : Int32)) (hi := (100 : Int32)) (by decide) with ⟨νa, νb, v, μb, c1, c2, c3, c4, c5, c6, c7, -⟩ | ⟨νb, v, μb, c1, c2, c3, c4⟩
      rotate_left
      · have hE : Er ν0 μ0 νb μb := ⟨qF.mw c3, c4⟩
        rw [c2, bnd_s, bnd_s, good_f c4.2.2, if_neg nff]
        rcases c1 with c1 | ⟨νa, c1, d1⟩
        · rw [c1, bnd_s, if_neg (show ¬ (false, νb).1 = true from nff)]
          exact ⟨false, νb, _, rfl, rfl, Or.inr ⟨rfl, hE⟩⟩
        · rw [c1, bnd_s, if_pos (show (true, νa).1 = true from rfl), d1, bnd_s, if_neg (show ¬ (false, νb).1 = true from nff)]
          exact ⟨false, νb, _, rfl, rfl, Or.inr ⟨rfl, hE⟩⟩
      have hFb : Fz ν0 μ0 νb μb := qF.mw c4
      have rb : μb.2.2 0 3 = 2 := hFb.2.2.2.2
      have gb : μb.1 0 12 = 0 := c5.2.2.2.2.1
      rw [c1, bnd_s, if_pos (show (true, νa).1 = true from rfl), c2, bnd_s, if_pos (show (true, νb).1 = true from rfl), bnd_s, c3, bnd_s, bnd_s]
      dsimp only
      rw [c6, good_t gb, bnd_s, if_pos (show true = true from rfl), rb, asr_pos row2, show (18 : Int32) + nI x = nI (18 + x) from nI_add 18 x, asr_pos (vp_in_nI (by omega) (by decide)), cl_nI (by omega), bnd_s]
      have e540 : ∀ u k, (uI νb (556 + 4) x u).1 556 k = ν.1 556 k := fun u k => by
        rw [uI_at, if_neg (fun z => absurd z.1 (by decide)), (c4.1 556 (by decide)).1, uI_at, if_neg (fun z => absurd z.1 (by decide)), (n3.1 556 (by decide)).1, (f3.1 556 (by decide)).1]
      have eb2 : ∀ k, μb.1 2 k = μ.1 2 k := fun k => by
        rw [(c4.2.2.1 2 (by decide)).1, (n3.2.2.1 2 (by decide)).1, e2]
      rw [show (uI μb 2 (18 + x) v1).2.2 0 3 = 2 from rb, asr_pos row2, show (28 : Int32) + nI x = nI (28 + x) from nI_add 28 x, asr_pos (vp_in_nI (by omega) (by decide)), cl_nI (by omega), bnd_s]
      rw [show (uI (uI μb 2 (18 + x) v1) 2 (28 + x) v).2.2 0 3 = 2 from rb, asr_pos row2, bnd_s]
      have e6 : (uI (uI μb 2 (18 + x) v1) 2 (28 + x) v).1 2 7 = nI x := by
        rw [uI_at, if_neg (fun z => absurd z.2 (by omega)), uI_at, if_neg (fun z => absurd z.2 (by omega)), eb2]
        exact k1
      rw [e6, e540, ct, nI1]
      refine ⟨true, _, _, rfl, rfl, Or.inl ⟨rfl, (((hFb.C (by omega)).C (by omega)).M2.M2).M2, (((c5.C (by omega)).C (by omega)).M2.M2).M2, ?_⟩⟩
      refine hD.rebate hx g (v1 := v1) (v2 := v) ?_ c7 ?_ ?_ (fun off g1 g2 g3 g4 g5 => ?_) (fun k hk => ?_) (fun k hk => ?_) ?_ (fun k hk => ?_) ?_ (fun k hk => ?_) ?_ (fun k g1 g2 g3 => ?_) ?_ ?_ ?_ (fun k hk => ?_)
      · refine ⟨n7, Int.le_trans n6.2 ?_⟩
        rw [hHI]
        decide
      · by_cases z : x = 0
        · rw [← tlo z]; exact n6.1
        · have u := tlp (x - 1) (by omega)
          have u2 := y6 (x - 1) (by omega)
          have u3 := n6.1
          omega
      · intro y z
        have u := tlp y z
        have u3 := n6.1
        omega
      · exact (((((f3.1 off (by omega)).tr (n3.1 off (by omega))).I (by omega)).tr (c4.1 off (by omega))).I (by omega)).I (by omega)
      · rw [uI_at, if_neg (fun z => absurd z.1 (by decide)), uI_at, if_neg (fun z => absurd z.1 (by decide)), c4.2.1.2 k hk, uI_at, if_neg (fun z => absurd z.1 (by decide)), n3.2.1.2 k hk, f3.2.1.2 k hk]
      · rw [uI_at, if_neg (fun z => hk z.2), e540]
      · rw [uI_at, if_pos ⟨rfl, rfl⟩]
      · rw [uI_at, if_neg (fun z => absurd z.1 (by decide)), uI_at, if_neg (fun z => absurd z.1 (by decide)), (c4.1 559 (by decide)).1, uI_at, if_neg (fun z => hk z.2), (n3.1 559 (by decide)).1, (f3.1 559 (by decide)).1]
      · rw [uI_at, if_neg (fun z => absurd z.1 (by decide)), uI_at, if_neg (fun z => absurd z.1 (by decide)), (c4.1 559 (by decide)).1, uI_at, if_pos ⟨rfl, rfl⟩]
      · rw [uI_at, if_neg (fun z => absurd z.1 (by decide)), uI_at, if_neg (fun z => hk z.2), (c4.1 560 (by decide)).1, uI_at, if_neg (fun z => absurd z.1 (by decide)), (n3.1 560 (by decide)).1, (f3.1 560 (by decide)).1]
      · rw [uI_at, if_neg (fun z => absurd z.1 (by decide)), uI_at, if_pos ⟨rfl, rfl⟩]
      · rw [uI_at, if_neg (fun z => g1 z.2), uI_at, if_neg (fun z => g3 z.2), uI_at, if_neg (fun z => g2 z.2), eb2]
      · rw [uI_at, if_pos ⟨rfl, rfl⟩]
      · rw [uI_at, if_neg (fun z => absurd z.2 (by omega)), uI_at, if_neg (fun z => absurd z.2 (by omega)), uI_at, if_pos ⟨rfl, rfl⟩]
      · rw [uI_at, if_neg (fun z => absurd z.2 (by omega)), uI_at, if_pos ⟨rfl, rfl⟩]
      · rw [uI_at, if_neg (fun z => absurd z.1 (by decide)), uI_at, if_neg (fun z => absurd z.1 (by decide)), uI_at, if_neg (fun z => absurd z.1 (by decide)), c4.2.2.2.2 k (by omega), n3.2.2.2.2 k (by omega), f3.2.2.2.2 k (by omega)]
    · rw [if_neg nff, bnd_s, bd_na n4.2.2, bnd_s, bnd_s, good_f n4.2.2, if_neg nff]
      exact ⟨false, ν2, μ2, rfl, rfl, Or.inr ⟨rfl, hF2, n4⟩⟩
  · have ex : x = 4 := by omega
    subst ex
    obtain ⟨ν2, μ2, f1, f2, f3, f4⟩ := fail_of hP (4 : Int32) (by decide)
    have hB := f4.2.2
    have r22 : μ2.2.2 0 3 = 2 := (hF.mw f3).2.2.2.2
    rw [if_neg (show ¬ nI 4 < (4 : Int32) by decide), if_pos (show nI 4 = (4 : Int32) from rfl), f1, f2, bnd_s, bnd_s]
    unfold g_X12_parseRebate_J18
    rw [bd_goOn hB, bnd_s, if_neg (show ¬ nI 4 = 0 by decide), r22, asr_pos row2, show ((18 : Int32) + nI 4) - (1 : Int32) = nI 21 by decide, asr_pos (vp_in_nI (show 21 < 1377 by decide) (by decide))]
    unfold g_X12_parseRebate_J44
    rw [bd_number hB, bnd_s, bd_na hB, bnd_s, bnd_s, good_f hB, if_neg nff]
    exact ⟨false, ν2, μ2, rfl, rfl, Or.inr ⟨rfl, hF.mw f3, f4⟩⟩
end BND
