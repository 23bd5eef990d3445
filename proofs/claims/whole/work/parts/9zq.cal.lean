/-! PURE. Calls of a text. -/
section CAL
variable {ν0 μ0 ν μ : Mm} {len N : Nat}
theorem Dr.call (h : Dr ν μ N) {x : Nat} (hx : cl (μ.1 2 1) = x) (hx8 : x < 20) {s f l w : Int32} (hs : 0 ≤ s.toInt ∧ s.toInt < (μ.1 2 0).toInt) (hst : Stay f l w) {ν' μ' : Mm} (cν : ∀ off, 334 ≤ off → off < 661 → off ≠ 334 → off ≠ 334 + (22 + x) → Eq3 ν ν' off) (cf : ∀ k, k = 6 ∨ k = 7 ∨ k = 8 → ν'.1 661 k = ν.1 661 k) (c0 : ∀ k, k ≠ 6 → ν'.1 334 k = ν.1 334 k) (c5 : ν'.1 334 6 = nI (x + 1)) (cr : ν'.1 (334 + (22 + x)) 0 = s ∧ ν'.1 (334 + (22 + x)) 1 = f ∧ ν'.1 (334 + (22 + x)) 2 = l ∧ ν'.1 (334 + (22 + x)) 3 = w ∧ ν'.1 (334 + (22 + x)) 4 = 0 ∧ ν'.1 (334 + (22 + x)) 5 = 0 ∧ ν'.1 (334 + (22 + x)) 6 = 0) (E : ∀ k, k ≠ 1 → (k < 330 + 7 * x ∨ 330 + 7 * x + 7 ≤ k) → μ'.1 2 k = μ.1 2 k) (m0 : μ'.1 2 1 = nI (x + 1)) (mr : μ'.1 2 (330 + 7 * x) = s ∧ μ'.1 2 (330 + 7 * x + 1) = f ∧ μ'.1 2 (330 + 7 * x + 2) = l ∧ μ'.1 2 (330 + 7 * x + 3) = w ∧ μ'.1 2 (330 + 7 * x + 4) = 0 ∧ μ'.1 2 (330 + 7 * x + 5) = 0 ∧ μ'.1 2 (330 + 7 * x + 6) = 0) (mf : ∀ k, k = 14 ∨ k = 15 ∨ k = 16 → μ'.1 0 k = μ.1 0 k) : Dr ν' μ' (N + 1) := by
  obtain ⟨h1, h2, h3, h4⟩ := h
  obtain ⟨k1, k2, k3⟩ := cl_of h2.1.2.1
  have cx : cl (nI (x + 1)) = x + 1 := cl_nI (by omega)
  obtain ⟨q5, q6, q7, q8, q9, q10, q11⟩ := cr
  obtain ⟨m6, m7, m8, m9, m10, m11, m12⟩ := mr
  have F : ∀ k, k < 1377 ∧ k ≠ 1 ∧ (k < 330 + 7 * x ∨ 330 + 7 * x + 7 ≤ k) → μ'.1 2 k = μ.1 2 k := fun k hk => E k hk.2.1 hk.2.2
  have hcn : ∀ y, y < cl (μ'.1 2 1) → y = x ∨ y < cl (μ.1 2 1) := fun y hy => by
    rw [m0, cx] at hy
    omega
  refine ⟨?_, ?_, ?_, ?_⟩
  · refine h1.callc (x := x) h2 (by omega) (fun off g1 g2 g3 g4 => cν off (by omega) (by omega) g3 g4) (fun k g1 g2 g3 => c0 k g3) (c5.trans m0.symm) F hcn ?_
    refine sev ?_ ?_ ?_ ?_ ?_ ?_ ?_
    · exact q5.trans m6.symm
    · exact q6.trans m7.symm
    · exact q7.trans m8.symm
    · exact q8.trans m9.symm
    · exact q9.trans m10.symm
    · exact q10.trans m11.symm
    · exact q11.trans m12.symm
  · refine h2.callc (x := x) (by omega) F hcn ?_ ?_ ?_ ?_
    · rw [m0]
      exact ⟨by rw [nI_toInt (by omega)]; omega, by rw [nI_toInt (by omega)]; omega⟩
    · rw [m0, nI_toInt (by omega)]
      omega
    · exact stay_row (g := μ'.1 2) hs h2.1.1 hst m6 m7 m8 m9 m10 m11 m12
    · rw [m6]; exact hs.2
  · rw [E 4 (by decide) (by omega)]; exact h3
  · obtain ⟨fm, fw, fl, a1, ⟨b1, b2, b3⟩, ⟨c1, c2, c3⟩, d1, d2⟩ := h4
    refine ⟨fm, fw, fl, a1, ⟨?_, ?_, ?_⟩, ⟨?_, ?_, ?_⟩, ?_, ?_⟩
    · rw [cf 6 (by omega)]; exact b1
    · rw [cf 7 (by omega)]; exact b2
    · rw [cf 8 (by omega)]; exact b3
    · rw [mf 14 (by omega)]; exact c1
    · rw [mf 15 (by omega)]; exact c2
    · rw [mf 16 (by omega)]; exact c3
    · rw [m0, cx, E 6 (by decide) (by omega), E 7 (by decide) (by omega), E 0 (by decide) (by omega)]; omega
    · rw [m0, cx]; omega
theorem bd_J52 (h : ¬ μ.1 0 12 = 0) (νa : Mm) (x y : Int32) : g_X12_parseCall_J52 νa μ x y = some μ := by
  unfold g_X12_parseCall_J52
  rw [bd_goOn h, bnd_s, bd_number h, bnd_s, bd_word h, bnd_s, bd_number h, bnd_s, bd_na h, bnd_s, bnd_s, good_f h, if_neg nff]
theorem bd_J41 (h : ¬ μ.1 0 12 = 0) (νa : Mm) (x y : Int32) : g_X12_parseCall_J41 νa μ x y = some μ := by
  unfold g_X12_parseCall_J41
  rw [bd_errs h, bnd_s, bd_J52 h]
  split <;> rfl
theorem er_J41 (hG : Gd ν0 μ0 len N ν μ) (c : Int32) (hc : ¬ c = 0) (νa : Mm) (x y : Int32) : ∃ ν2 μ2, g_X7_fail ν c = some (false, ν2) ∧ bnd (g_X12_errs μ c) (fun q => g_X12_parseCall_J52 νa q x y) = some μ2 ∧ Er ν0 μ0 ν2 μ2 := by
  obtain ⟨ν2, μ2, n1, n2, n3, n4⟩ := fail_of hG.2.1 c hc
  exact ⟨ν2, μ2, n1, by rw [n2, bnd_s, bd_J52 n4.2.2], hG.er n3 n4⟩
theorem call_st (h : Gd ν0 μ0 len N ν μ) : Out ν0 μ0 len (N + 1) (g_X7_callStatement ν) (g_X12_parseCall μ) := by
  obtain ⟨hF, hP, hD⟩ := id h
  obtain ⟨h1, h2, h3, h4⟩ := id hD
  have r2 : μ.2.2 0 3 = 2 := hF.2.2.2.2
  have hx20 : cl (μ.1 2 1) ≤ 20 := by
    obtain ⟨fm, fw, fl, a1, b1, c1, d1, d2⟩ := h4
    exact d2
  obtain ⟨k1, k2, k3⟩ := cl_of h2.1.2.1
  generalize hx : cl (μ.1 2 1) = x at k1 k2 k3 hx20
  have ct : ν.1 334 6 = nI x := h1.1.2.1.trans k1
  have t20 : ((20 : Int32)).toInt = 20 := rfl
  unfold g_X7_callStatement g_X12_parseCall
  rw [ct, r2, asr_pos row2, k1]
  by_cases g : x < 20
  · rw [if_pos (show nI x < (20 : Int32) by rw [lt32, nI_toInt (by omega), t20]; omega), if_neg (show ¬ nI x = (20 : Int32) from fun z => absurd ((nI_eq (b := 20) (by omega) (by decide)).mp z) (by omega))]
    obtain ⟨ν1, μ1, f1, f2, f3, f4, -⟩ := rd_of hP
    have hG1 : Gd ν0 μ0 len N ν1 μ1 := h.mw f3 f4
    have gd := f4.2.2.2.2.1
    have l8 := f4.1.2.2.1
    unfold g_X12_parseCall_J18
    rw [f1, f2, bnd_s, bnd_s]
    obtain ⟨b, b1, b2⟩ := name_of f4
    rw [b1, bnd_s]
    rcases b2 with ⟨rfl, b2, p, q, p1, p2, p3, a1, a2, a3, a4, a5⟩ | ⟨rfl, b2⟩
    · have hb : ∀ k, p ≤ k → k < q → ν1.1 3 k = μ1.1 4 k ∧ rg (μ1.1 4 k) 97 122 := fun k c1 c2 => ⟨(f4.1.2.2.2 k (by omega)).1, kd1 (a5 k c1 c2)⟩
      obtain ⟨z, z1, z2, z3⟩ := named_of (L := 334) (R := 2) hG1.2.2.1 hG1.2.2.2.1.1.1 led334 hG1.1.2.2.2.2 row2 p1 p3 l8 f4.1.1 a4 a3 hb
      rw [if_pos (show true = true from rfl), b2, bnd_s, bnd_s, good_t gd, if_pos (show true = true from rfl), a1, a2, z1, z2, bnd_s, bnd_s]
      unfold g_X12_parseCall_J41
      by_cases c : z = -1
      · obtain ⟨ν2, μ2, n1, n2, n3⟩ := er_J41 hG1 (3 : Int32) (by decide) μ (nI x) z
        rw [if_pos c, if_pos c, n1, n2, bnd_s]
        exact ⟨false, ν2, μ2, rfl, rfl, Or.inr ⟨rfl, n3⟩⟩
      · rw [if_neg c, if_neg c]
        obtain ⟨s, s1, s2⟩ := z3.resolve_left c
        unfold g_X12_parseCall_J52
        obtain ⟨ν2, μ2, g1, g2, g3, g4, -⟩ := rd_of f4
        have hG2 : Gd ν0 μ0 len N ν2 μ2 := hG1.mw g3 g4
        rw [g1, g2, bnd_s, bnd_s]
        -- the first day
        obtain ⟨b, ν3, va, μ3, n1, n2, ⟨n3, n4⟩, n5⟩ := number_of g4 (lo := (0 : Int32)) (hi := (3599 : Int32)) (by decide)
        rw [n1, n2, bnd_s, bnd_s]
        dsimp only
        rcases n4 with ⟨rfl, n4⟩ | ⟨rfl, n4⟩
        rotate_left
        · rw [if_neg nff, bd_word n4.2.2, bnd_s, bd_number n4.2.2, bnd_s, bd_na n4.2.2, bnd_s, bnd_s, good_f n4.2.2, if_neg nff]
          exact ⟨false, ν3, μ3, rfl, rfl, Or.inr ⟨rfl, hG2.er n3 n4⟩⟩
        have hG3 : Gd ν0 μ0 len N ν3 μ3 := hG2.mw n3 n4
        obtain ⟨n5, n6, n7⟩ := n5 rfl
        obtain ⟨u1, u2⟩ := n6
        have t0 : ((0 : Int32)).toInt = 0 := rfl
        have t3599 : ((3599 : Int32)).toInt = 3599 := rfl
        rw [t0] at u1
        rw [t3599] at u2
        rw [if_pos (show true = true from rfl), n5]
        -- the word between
        obtain ⟨b, ν4, μ4, w1, w2, w3, w4⟩ := word_of n4 28532
        rw [w1, w2, bnd_s, bnd_s]
        dsimp only
        rcases w4 with ⟨rfl, w4⟩ | ⟨rfl, w4⟩
        rotate_left
        · rw [if_neg nff, bd_number w4.2.2, bnd_s, bd_na w4.2.2, bnd_s, bnd_s, good_f w4.2.2, if_neg nff]
          exact ⟨false, ν4, μ4, rfl, rfl, Or.inr ⟨rfl, hG3.er w3 w4⟩⟩
        have hG4 : Gd ν0 μ0 len N ν4 μ4 := hG3.mw w3 w4
        rw [if_pos (show true = true from rfl)]
        -- the last day
        have t30 : ((30 : Int32)).toInt = 30 := rfl
        have t29 : ((29 : Int32)).toInt = 29 := rfl
        have t1 : ((1 : Int32)).toInt = 1 := rfl
        have e30 : (va + (30 : Int32)).toInt = va.toInt + 30 := by rw [ti_add (by rw [t30]; omega) (by rw [t30]; omega), t30]
        have e29 : (va + (29 : Int32)).toInt = va.toInt + 29 := by rw [ti_add (by rw [t29]; omega) (by rw [t29]; omega), t29]
        have e1 : (va + (30 : Int32)) - (1 : Int32) = va + (29 : Int32) := by
          rw [eq32, ti_sub (by rw [e30, t1]; omega) (by rw [e30, t1]; omega), e30, e29, t1]
          omega
        obtain ⟨b, ν5, vb, μ5, o1, o2, ⟨o3, o4⟩, o5⟩ := number_of w4 (lo := va) (hi := va + (29 : Int32)) (by rw [e29]; omega)
        rw [e1, o1, o2, bnd_s, bnd_s]
        dsimp only
        rcases o4 with ⟨rfl, o4⟩ | ⟨rfl, o4⟩
        rotate_left
        · rw [if_neg nff, bd_na o4.2.2, bnd_s, bnd_s, good_f o4.2.2, if_neg nff]
          exact ⟨false, ν5, μ5, rfl, rfl, Or.inr ⟨rfl, hG4.er o3 o4⟩⟩
        have hG5 : Gd ν0 μ0 len N ν5 μ5 := hG4.mw o3 o4
        obtain ⟨o5, o6, o7⟩ := o5 rfl
        obtain ⟨o8, o9⟩ := o6
        rw [e29] at o9
        rw [if_pos (show true = true from rfl), o5]
        -- the waste
        rcases na_of o4 435745415543 (lo := (0 : Int32)) (hi := (999 : Int32)) (by decide) with ⟨νa, νb, v, μb, c1, c2, c3, c4, c5, c6, c7, -⟩ | ⟨νb, v, μb, c1, c2, c3, c4⟩
        rotate_left
        · have hE : Er ν0 μ0 νb μb := hG5.er c3 c4
          rw [c2, bnd_s, bnd_s, good_f c4.2.2, if_neg nff]
          rcases c1 with c1 | ⟨νa, c1, d1⟩
          · rw [c1, bnd_s, if_neg (show ¬ (false, νb).1 = true from nff)]
            exact ⟨false, νb, _, rfl, rfl, Or.inr ⟨rfl, hE⟩⟩
          · rw [c1, bnd_s, if_pos (show (true, νa).1 = true from rfl), d1, bnd_s, if_neg (show ¬ (false, νb).1 = true from nff)]
            exact ⟨false, νb, _, rfl, rfl, Or.inr ⟨rfl, hE⟩⟩
        have hGb : Gd ν0 μ0 len N νb μb := hG5.mw c4 c5
        have gb : μb.1 0 12 = 0 := c5.2.2.2.2.1
        have em : ∀ k, μb.1 2 k = μ.1 2 k := fun k => by rw [(c4.2.2.1 2 (by decide)).1, (o3.2.2.1 2 (by decide)).1, (w3.2.2.1 2 (by decide)).1, (n3.2.2.1 2 (by decide)).1, (g3.2.2.1 2 (by decide)).1, (f3.2.2.1 2 (by decide)).1]
        obtain ⟨rν, x1, x2, x3, x4, x5⟩ := new_of (ν := νb) (L := 334) (s := z) (f := va) (l := vb) (w := v) led334 (c := x) (hGb.2.2.1.1.2.1.trans ((em 1).trans k1)) (by omega)
        obtain ⟨rμ, y1, y2, ⟨y3, y4⟩, y5, y6⟩ := lay_of (μ := μb) (R := 2) (a1 := nI x) (s := z) (f := va) (l := vb) (w := v) hGb.1.2.2.2.2 row2 (c := x) rfl (by omega)
        rw [c1, bnd_s, if_pos (show (true, νa).1 = true from rfl), c2, bnd_s, if_pos (show (true, νb).1 = true from rfl), c3, bnd_s]
        dsimp only
        rw [c6, x1, bnd_s, bnd_s, good_t gb, if_pos (show true = true from rfl), y1, bnd_s, show rμ.2.2 0 3 = 2 from by rw [y4]; exact hGb.1.2.2.2.2, asr_pos row2, show rμ.1 2 1 = nI x from by rw [y5 1 (by omega), em]; exact k1, nI1, bnd_s]
        refine ⟨true, rν, _, rfl, rfl, Or.inl ⟨rfl, ⟨?_, ?_, ?_, ?_, ?_⟩, ?_, ?_⟩⟩
        · exact fun off ho => (hGb.1.1 off ho).tr (x2 off (by omega) (by omega))
        · exact fun off i1 i2 => ((hGb.1.2.1 off i1 i2).tr (y2 off i2)).I i2
        · rw [uI_21]
          refine Eq.trans ?_ hGb.1.2.2.1
          refine Prod.ext ?_ y4
          funext off
          by_cases e : off = 2
          · rw [e]; exact y3
          · exact (y2 off e).2.1
        · intro k hk
          rw [uI_at, if_neg (fun z => absurd z.1 (by decide)), (y2 0 (by decide)).1]
          exact hGb.1.2.2.2.1 k hk
        · rw [uI_21, y4]; exact hGb.1.2.2.2.2
        · exact (c5.cg (x2 1 (by omega) (by omega)).1 (x2 3 (by omega) (by omega)).1 (fun k _ => by rw [(x2 661 (by omega) (by omega)).1]) (y2 4 (by decide)).1 (fun k _ => by rw [(y2 0 (by decide)).1])).M2
        · have hsz : 0 ≤ z.toInt ∧ z.toInt < (μ.1 2 0).toInt := by
            rw [(f3.2.2.1 2 (by decide)).1] at s1
            obtain ⟨j1, j2, j3⟩ := cl_of h2.1.1
            rw [s2, nI_toInt (by omega)]
            omega
          refine hD.call hx g (s := z) (f := va) (l := vb) (w := v) hsz ⟨⟨u1, u2⟩, ⟨o8, o9⟩, c7⟩ (fun off i1 i2 i3 i4 => ?_) (fun k hk => ?_) (fun k hk => ?_) x4 x5 (fun k i1 i2 => ?_) ?_ ⟨?_, ?_, ?_, ?_, ?_, ?_, ?_⟩ (fun k hk => ?_)
          · exact ((((((f3.1 off (by omega)).tr (g3.1 off (by omega))).tr (n3.1 off (by omega))).tr (w3.1 off (by omega))).tr (o3.1 off (by omega))).tr (c4.1 off (by omega))).tr (x2 off i3 i4)
          · rw [(x2 661 (by omega) (by omega)).1, c4.2.1.2 k hk, o3.2.1.2 k hk, w3.2.1.2 k hk, n3.2.1.2 k hk, g3.2.1.2 k hk, f3.2.1.2 k hk]
          · rw [x3 k hk, (c4.1 334 (by decide)).1, (o3.1 334 (by decide)).1, (w3.1 334 (by decide)).1, (n3.1 334 (by decide)).1, (g3.1 334 (by decide)).1, (f3.1 334 (by decide)).1]
          · rw [uI_at, if_neg (fun z => i1 z.2), y5 k i2, em]
          · rw [uI_at, if_pos ⟨rfl, rfl⟩]
          · rw [uI_at, if_neg (fun z => absurd z.2 (by omega))]; exact y6.1
          · rw [uI_at, if_neg (fun z => absurd z.2 (by omega))]; exact y6.2.1
          · rw [uI_at, if_neg (fun z => absurd z.2 (by omega))]; exact y6.2.2.1
          · rw [uI_at, if_neg (fun z => absurd z.2 (by omega))]; exact y6.2.2.2.1
          · rw [uI_at, if_neg (fun z => absurd z.2 (by omega))]; exact y6.2.2.2.2.1
          · rw [uI_at, if_neg (fun z => absurd z.2 (by omega))]; exact y6.2.2.2.2.2.1
          · rw [uI_at, if_neg (fun z => absurd z.2 (by omega))]; exact y6.2.2.2.2.2.2
          · rw [uI_at, if_neg (fun z => absurd z.1 (by decide)), (y2 0 (by decide)).1, c4.2.2.2.2 k (by omega), o3.2.2.2.2 k (by omega), w3.2.2.2.2 k (by omega), n3.2.2.2.2 k (by omega), g3.2.2.2.2 k (by omega), f3.2.2.2.2 k (by omega)]
    · obtain ⟨ν2, μ2, n1, n2, n3, n4⟩ := fail_of f4 (1 : Int32) (by decide)
      rw [if_neg nff, b2, n1, n2, bnd_s, bnd_s, bnd_s, good_f n4.2.2, if_neg nff, bd_J41 n4.2.2]
      exact ⟨false, ν2, μ2, rfl, rfl, Or.inr ⟨rfl, hG1.er n3 n4⟩⟩
  · have ex : x = 20 := by omega
    subst ex
    obtain ⟨ν2, μ2, f1, f2, f3, f4⟩ := fail_of hP (4 : Int32) (by decide)
    have hB := f4.2.2
    rw [if_neg (show ¬ nI 20 < (20 : Int32) by decide), if_pos (show nI 20 = (20 : Int32) from rfl), f1, f2, bnd_s, bnd_s]
    unfold g_X12_parseCall_J18
    rw [bd_goOn hB, bnd_s, bd_name hB, bnd_s, bnd_s, good_f hB, if_neg nff, bd_J41 hB]
    exact ⟨false, ν2, μ2, rfl, rfl, Or.inr ⟨rfl, hF.mw f3, f4⟩⟩
end CAL
