/-! PURE. worth, bestDay. -/
theorem Wf.callu {f f' : Nat → Int32} (hW : Wf f) {x : Nat} (hx : x < 41) (F : ∀ k, k < 1377 ∧ k ≠ 1 ∧ (k < 330 + 7 * x ∨ 330 + 7 * x + 7 ≤ k) → f' k = f k) (hcn : ∀ y, y < cl (f' 1) → y = x ∨ y < cl (f 1)) (hct : rg (f' 1) 0 40) (hge : (f 1).toInt ≤ (f' 1).toInt) (hrow : rg (f' (330 + 7 * x)) 0 7 ∧ rg (f' (330 + 7 * x + 1)) 0 3599 ∧ (0 ≤ (f' (330 + 7 * x + 2)).toInt ∧ (f' (330 + 7 * x + 1)).toInt ≤ (f' (330 + 7 * x + 2)).toInt + 0 ∧ (f' (330 + 7 * x + 2)).toInt ≤ (f' (330 + 7 * x + 1)).toInt + 29) ∧ rg (f' (330 + 7 * x + 3)) 0 999 ∧ rg (f' (330 + 7 * x + 4)) 0 1 ∧ rg (f' (330 + 7 * x + 5)) 0 1073741823 ∧ rg (f' (330 + 7 * x + 6)) 0 1073741823 ∧ f' (330 + 7 * x + 5) &&& f' (330 + 7 * x + 6) = 0) (hsh : (f' (330 + 7 * x)).toInt < (f 0).toInt) : Wf f' := by
  have n0 := (cl_of hW.1.1).2.2
  have n1 := (cl_of hW.1.2.1).2.2
  have n2 := (cl_of hW.1.2.2.1).2.2
  have n3 := (cl_of hW.1.2.2.2.1).2.2
  have n4 := (cl_of hW.1.2.2.2.2.1).2.2
  have n6 := (cl_of hW.1.2.2.2.2.2.2.1).2.2
  have n7 := (cl_of hW.1.2.2.2.2.2.2.2.1).2.2
  obtain ⟨w0, w1, w2, w3, w4, w5, w6, w7, w8, w9, w10, w11, w12⟩ := hW
  refine ⟨?_, fun b hb => ?_, fun hb => ?_, fun b hb => ?_, fun r hr => ?_, fun r hr => ?_, fun r hr => ?_, fun v hv => ?_, fun s hs => ?_, fun c hc => ?_, fun c hc => ?_, fun i hi => ?_, fun i hi => ?_⟩
  · rw [F 0 (by omega), F 2 (by omega), F 3 (by omega), F 4 (by omega), F 5 (by omega), F 6 (by omega), F 7 (by omega), F 8 (by omega), F 9 (by omega), F 10 (by omega), F 11 (by omega)]
    exact ⟨w0.1, hct, w0.2.2.1, w0.2.2.2.1, w0.2.2.2.2.1, w0.2.2.2.2.2.1, w0.2.2.2.2.2.2.1, w0.2.2.2.2.2.2.2.1, w0.2.2.2.2.2.2.2.2.1, w0.2.2.2.2.2.2.2.2.2.1, w0.2.2.2.2.2.2.2.2.2.2.1, w0.2.2.2.2.2.2.2.2.2.2.2⟩
  · rw [F _ (by omega)]; exact w1 b hb
  · rw [F 6 (by omega)] at hb
    rw [F _ (by omega)]; exact w2 hb
  · rw [F 6 (by omega)] at hb
    rw [F _ (by omega), F _ (by omega)]; exact w3 b hb
  · rw [F _ (by omega)]; exact w4 r hr
  · rw [F 7 (by omega)] at hr
    rw [F _ (by omega), F _ (by omega)]; exact w5 r hr
  · rw [F 7 (by omega)] at hr
    rw [F _ (by omega)]; exact w6 r hr
  · refine ⟨fun b hb => ?_, fun r hr => ?_, ?_, ?_⟩
    · rw [F _ (by omega)]; exact (w7 v hv).1 b hb
    · rw [F _ (by omega)]; exact (w7 v hv).2.1 r hr
    · rw [F _ (by omega)]; exact (w7 v hv).2.2.1
    · rw [F _ (by omega)]; exact (w7 v hv).2.2.2
  · rw [F _ (by omega)]; exact w8 s hs
  · by_cases e : c = x
    · subst e
      exact hrow
    · rw [F _ (by omega), F _ (by omega), F _ (by omega), F _ (by omega), F _ (by omega), F _ (by omega), F _ (by omega)]
      exact w9 c hc
  · rw [F 0 (by omega)]
    by_cases e : c = x
    · subst e
      exact hsh
    · have hc2 : c < cl (f 1) := (hcn c hc).resolve_left e
      rw [F _ (by omega)]
      exact w10 c hc2
  · obtain ⟨y0, y1, y2, y3, y4, y5, y6, y7⟩ := w11 i hi
    rw [F _ (by omega), F _ (by omega), F _ (by omega), F _ (by omega), F _ (by omega), F _ (by omega)]
    exact ⟨y0, y1, y2, y3, y4, y5, fun l hl => by rw [F _ (by omega)]; exact y6 l hl, y7⟩
  · rw [F 2 (by omega)] at hi
    rw [F (617 + 10 * i) (by omega), F (617 + 10 * i + 2) (by omega), F 4 (by omega)]
    exact ⟨Int.lt_of_lt_of_le (w12 i hi).1 hge, (w12 i hi).2⟩
/-- a call's row that is not in use -/
theorem LdR.unu {ν : Mm} {L N : Nat} {f f' : Nat → Int32} {p : Nat → Int64} (h : LdR ν L f p) (hW : Wf f) (hN : cl (f 1) ≤ N) (hN2 : N < 41) (F : ∀ k, k < 1377 ∧ (k < 330 + 7 * N ∨ 330 + 7 * N + 7 ≤ k) → f' k = f k) : LdR ν L f' p := by
  have n0 := (cl_of hW.1.1).2.2
  have n2 := (cl_of hW.1.2.2.1).2.2
  have n3 := (cl_of hW.1.2.2.2.1).2.2
  have n4 := (cl_of hW.1.2.2.2.2.1).2.2
  have n6 := (cl_of hW.1.2.2.2.2.2.2.1).2.2
  have n7 := (cl_of hW.1.2.2.2.2.2.2.2.1).2.2
  obtain ⟨g0, g1, g2, g3, g4, g5⟩ := h
  refine ⟨?_, fun s hs => ?_, fun c hc k hk => ?_, fun i hi => ⟨fun k hk => ?_, fun l hl => ?_⟩, fun m hm k hk => ?_, fun v hv => ?_⟩
  · rw [F 0 (by omega), F 1 (by omega), F 2 (by omega), F 3 (by omega), F 4 (by omega), F 5 (by omega)]
    exact g0
  · rw [F 0 (by omega)] at hs
    obtain ⟨x1, x2, x3⟩ := g1 s hs
    refine ⟨?_, x2, x3.cg (fun k hk => F _ (by omega))⟩
    rw [F _ (by omega)]; exact x1
  · rw [F 1 (by omega)] at hc
    rw [F _ (by omega)]
    exact g2 c hc k hk
  · rw [F 2 (by omega)] at hi
    rw [F _ (by omega)]
    exact (g3 i hi).1 k hk
  · rw [F 2 (by omega)] at hi
    rw [F _ (by omega)]
    exact (g3 i hi).2 l hl
  · rw [F 3 (by omega)] at hm
    rw [F _ (by omega)]
    exact g4 m hm k hk
  · rw [F 4 (by omega)] at hv
    obtain ⟨t, tb, tr⟩ := g5 v hv
    refine ⟨?_, fun b hb => ?_, fun r hr => ?_⟩
    · rw [F 6 (by omega), F 7 (by omega), F 8 (by omega), F 9 (by omega), F 10 (by omega), F 11 (by omega), F _ (by omega), F _ (by omega)]
      exact t
    · rw [F 6 (by omega)] at hb
      rw [F _ (by omega), F _ (by omega)]
      exact tb b hb
    · rw [F 7 (by omega)] at hr
      rw [F _ (by omega), F _ (by omega)]
      exact tr r hr
theorem Cr.of {f : Nat → Int32} (hW : Wf f) : Cr f (cl (f 1)) := by
  obtain ⟨c1, c2, c3⟩ := cl_of hW.1.2.1
  refine ⟨by omega, c1, fun k hk => ?_⟩
  obtain ⟨r0, r1, r2, r3, r4, -⟩ := hW.2.2.2.2.2.2.2.2.2.1 k (by omega)
  exact ⟨r0, r1, r4⟩
theorem i32_cancel (a x b y : Int32) : ((a + x) + (b + y)) - (a + b) = x + y := by
  rw [show (a + x) + (b + y) = (x + y) + (a + b) by ac_rfl, Int32.add_sub_cancel]
theorem s41 : Sm_41 RelP := by
  intro n ν μ hn hR a1
  obtain ⟨⟨hL, hW, hP⟩, -⟩ := id hR
  have e0 := (sh_c hL).2.1
  by_cases h : 0 ≤ a1.toInt ∧ a1.toInt < (μ.1 1 1).toInt
  · obtain ⟨i1, i2, i3, i4, i5⟩ := ix_of (hi := 40) h hW.1.2.1 (by decide)
    have m41 : vp_in a1 41 := by rw [i4]; exact vp_in_nI (by omega) (by decide)
    obtain ⟨c, ec⟩ : ∃ c, c = cl a1 := ⟨_, rfl⟩
    obtain ⟨d1, d2, d3, d4, d5, d6⟩ := call_at hL hW h
    rw [← ec] at i1 i2 i4 d2 d3 d4 d5 d6
    obtain ⟨r0, r1, r2, r3, r4, r5, r6, r7⟩ := hW.2.2.2.2.2.2.2.2.2.1 c (by omega)
    obtain ⟨s1, s2, s3⟩ := cl_of r0
    obtain ⟨s, es⟩ : ∃ s, s = cl (μ.1 1 (330 + 7 * c)) := ⟨_, rfl⟩
    rw [← es] at s1
    have hs8 : s < 8 := by omega
    obtain ⟨v1, v2, v3⟩ := cl_of hW.1.2.2.2.2.1
    obtain ⟨v, ev⟩ : ∃ v, v = cl (μ.1 1 4) := ⟨_, rfl⟩
    rw [← ev] at v1
    have hv21 : v < 21 := by omega
    by_cases q : μ.1 1 (330 + 7 * c + 4) = 0
    · -- the model
      obtain ⟨μ1, e1⟩ : ∃ m, m = uI (uI μ 0 0 0) 1 (330 + 7 * c + 4) 1 := ⟨_, rfl⟩
      have f1 : ∀ k, μ1.1 1 k = if k = 330 + 7 * c + 4 then 1 else μ.1 1 k := fun k => by
        rw [e1, uI_at]
        by_cases e : k = 330 + 7 * c + 4
        · rw [if_pos ⟨rfl, e⟩, if_pos e]
        · rw [if_neg (fun z => e z.2), if_neg e]
          rfl
      have T1 : Tf (uI μ 0 0 0) μ1 := fun k k1 k2 => by
        rw [f1, if_neg (by omega)]
        rfl
      have hC := Cr.of hW
      have hC0 : Cr ((uI μ 0 0 0).1 1) (cl (μ.1 1 1)) := hC
      have hC1 : Cr (μ1.1 1) (cl (μ.1 1 1)) := by
        refine ⟨hC.1, by rw [f1, if_neg (by omega)]; exact hC.2.1, fun k hk => ?_⟩
        obtain ⟨g0, g1, g4⟩ := hC.2.2 k hk
        rw [f1, f1, f1, if_neg (by omega), if_neg (by omega)]
        refine ⟨g0, g1, ?_⟩
        split
        · exact ⟨by decide, by decide⟩
        · exact g4
      have S0 := all_sum (μ := uI μ 0 0 0) (μ' := uI μ 0 0 0) (fun _ _ _ => rfl) hW v1 hv21 hs8 hC0
      have S1 := all_sum (μ := uI μ 0 0 0) (μ' := μ1) T1 hW v1 hv21 hs8 hC1
      have lc : livB (μ.1 1) s c = true := decide_eq_true ⟨s1, q⟩
      have lc1 : livB (μ1.1 1) s c = false := decide_eq_false (fun z => by
        have z2 := z.2
        rw [f1, if_pos rfl] at z2
        exact absurd z2 (by decide))
      have lk : ∀ k, k ≠ c → livB (μ.1 1) s k = livB (μ1.1 1) s k := fun k hk => by
        unfold livB
        rw [f1, f1, if_neg (by omega), if_neg (by omega)]
      have ke : keyI (μ1.1 1) = keyI (μ.1 1) := by
        funext k
        unfold keyI
        rw [f1, if_neg (by omega)]
      rw [ke] at S1
      have A1 := sumN_one (f := fun k => if livB (μ.1 1) s k then cst (uI μ 0 0 0) s v (μ.1 1 (330 + 7 * k + 3)) (μ.1 1 (330 + 7 * k + 2)) (μ.1 1 (330 + 7 * k + 1)) (μ.1 1 (330 + 7 * k + 5) ||| μ.1 1 (330 + 7 * k + 6)) else 0) (g := fun k => if livB (μ1.1 1) s k then cst (uI μ 0 0 0) s v (μ1.1 1 (330 + 7 * k + 3)) (μ1.1 1 (330 + 7 * k + 2)) (μ1.1 1 (330 + 7 * k + 1)) (μ1.1 1 (330 + 7 * k + 5) ||| μ1.1 1 (330 + 7 * k + 6)) else 0) (m := c) (x := cst (uI μ 0 0 0) s v (μ.1 1 (330 + 7 * c + 3)) (μ.1 1 (330 + 7 * c + 2)) (μ.1 1 (330 + 7 * c + 1)) (μ.1 1 (330 + 7 * c + 5) ||| μ.1 1 (330 + 7 * c + 6))) (by rw [lc1]; rfl) (by rw [lc]; rfl) (cl (μ.1 1 1)) i1 (fun k hk hne => by
        have u : ∀ j, j < 7 → j ≠ 4 → μ1.1 1 (330 + 7 * k + j) = μ.1 1 (330 + 7 * k + j) := fun j h1 h2 => by rw [f1, if_neg (by omega)]
        rw [lk k hne, u 3 (by decide) (by decide), u 2 (by decide) (by decide), u 1 (by decide) (by decide), u 5 (by decide) (by decide), u 6 (by decide) (by decide)])
      have A2 := add_rank (keyI (μ.1 1)) (fun r => rbt (uI μ 0 0 0) s v (nI (1 + r))) (P := livB (μ.1 1) s) (P' := livB (μ1.1 1) s) (N := cl (μ.1 1 1)) (m := c) i1 lc1 lc (fun k hk hne => lk k hne)
      have cy : f_X12_callsIn (uI μ 0 0 0) (nI s) (μ.1 1 (330 + 7 * c + 1) / (360 : Int32)) = nI (1 + cntN (fun k => livB (μ1.1 1) s k && decide (keyI (μ.1 1) k / 360 = keyI (μ.1 1) c / 360)) (cl (μ.1 1 1))) := by
        have g := ci_cnt (μ := uI μ 0 0 0) (s := s) (y := μ.1 1 (330 + 7 * c + 1) / (360 : Int32)) hC0 (cl (μ.1 1 1)) 0 (by omega) 42 (by have := hC.1; omega)
        refine Eq.trans (show f_X12_callsIn (uI μ 0 0 0) (nI s) (μ.1 1 (330 + 7 * c + 1) / (360 : Int32)) = _ from g) ?_
        have dy : (μ.1 1 (330 + 7 * c + 1) / (360 : Int32)).toInt = keyI (μ.1 1) c / 360 := div360 r1.1
        rw [dy]
        congr 1
        have g2 := cntN_one (P := fun k => livB (μ.1 1) s k && decide (keyI (μ.1 1) k / 360 = keyI (μ.1 1) c / 360)) (Q := fun k => livB (μ1.1 1) s k && decide (keyI (μ.1 1) k / 360 = keyI (μ.1 1) c / 360)) (m := c) (by rw [lc1]; rfl) (by rw [lc, decide_eq_true rfl]; rfl) (cl (μ.1 1 1)) i1 (fun k hk hne => by rw [lk k hne])
        have g3 : cntN (fun k => livB (μ.1 1) s k && decide (keyI (μ.1 1) k / 360 = keyI (μ.1 1) c / 360)) (cl (μ.1 1 1)) = 1 + cntN (fun k => livB (μ1.1 1) s k && decide (keyI (μ.1 1) k / 360 = keyI (μ.1 1) c / 360)) (cl (μ.1 1 1)) := by omega
        exact g3
      have val : f_X12_totalFor (uI μ 0 0 0) (nI s) - f_X12_totalFor μ1 (nI s) = cst (uI μ 0 0 0) s v (μ.1 1 (330 + 7 * c + 3)) (μ.1 1 (330 + 7 * c + 2)) (μ.1 1 (330 + 7 * c + 1)) (μ.1 1 (330 + 7 * c + 5) ||| μ.1 1 (330 + 7 * c + 6)) + rbt (uI μ 0 0 0) s v (f_X12_callsIn (uI μ 0 0 0) (nI s) (μ.1 1 (330 + 7 * c + 1) / (360 : Int32))) := by
        rw [cy]
        refine Eq.trans (congrArg (fun z => z - f_X12_totalFor μ1 (nI s)) (S0.trans (congr (congrArg (fun a b => a + b) A1) A2))) ?_
        rw [S1]
        exact i32_cancel _ _ _ _
      have hf2 : ∀ k, (uI μ1 1 (330 + 7 * c + 4) 0).1 1 k = μ.1 1 k := fun k => by
        rw [uI_at]
        by_cases e : k = 330 + 7 * c + 4
        · rw [if_pos ⟨rfl, e⟩, e, q]
        · rw [if_neg (fun z => e z.2), f1, if_neg e]
      have hrel : RelP n ν (uI μ1 1 (330 + 7 * c + 4) 0) := by
        have h0 := hR.th0 0
        refine ⟨h0.1.cells (fun k _ => hf2 k) (fun s _ => by rw [e1]; rfl), Rst.cg h0.rst (fun off _ => Eq3.rf ν off) (fun off g1 g2 g3 => ?_)⟩
        rw [e1]
        exact ((Eq3.rf (uI μ 0 0 0) off).I g1).I g1
      have tot := tot_of (μ := uI μ 0 0 0) hL hW h (f_X12_callsIn (uI μ 0 0 0) (nI s) (μ.1 1 (330 + 7 * c + 1) / (360 : Int32)))
      have tv : ((lineV (uI μ 0 0 0) (cl ((uI μ 0 0 0).1 1 4)) a1 0 (f_X12_callsIn (uI μ 0 0 0) (nI s) (μ.1 1 (330 + 7 * c + 1) / (360 : Int32))) + lineV (uI μ 0 0 0) (cl ((uI μ 0 0 0).1 1 4)) a1 1 (f_X12_callsIn (uI μ 0 0 0) (nI s) (μ.1 1 (330 + 7 * c + 1) / (360 : Int32)))) + lineV (uI μ 0 0 0) (cl ((uI μ 0 0 0).1 1 4)) a1 2 (f_X12_callsIn (uI μ 0 0 0) (nI s) (μ.1 1 (330 + 7 * c + 1) / (360 : Int32)))) + lineV (uI μ 0 0 0) (cl ((uI μ 0 0 0).1 1 4)) a1 3 (f_X12_callsIn (uI μ 0 0 0) (nI s) (μ.1 1 (330 + 7 * c + 1) / (360 : Int32))) = cst (uI μ 0 0 0) s v (μ.1 1 (330 + 7 * c + 3)) (μ.1 1 (330 + 7 * c + 2)) (μ.1 1 (330 + 7 * c + 1)) (μ.1 1 (330 + 7 * c + 5) ||| μ.1 1 (330 + 7 * c + 6)) + rbt (uI μ 0 0 0) s v (f_X12_callsIn (uI μ 0 0 0) (nI s) (μ.1 1 (330 + 7 * c + 1) / (360 : Int32))) := by
        generalize f_X12_callsIn (uI μ 0 0 0) (nI s) (μ.1 1 (330 + 7 * c + 1) / (360 : Int32)) = r
        unfold lineV laySetV f_X12_contestedSet f_X12_daysOf
        rw [show cl ((uI μ 0 0 0).1 1 4) = v from ev.symm, ← ec]
        rw [if_neg (by decide), if_neg (by decide), if_neg (by decide), if_pos rfl]
        have C : ∀ j, j < 7 → f_X12_ofCall (uI μ 0 0 0) a1 (nI j) = μ.1 1 (330 + 7 * c + j) := fun j hj => by
          rw [i4]
          exact ofCall_eq (μ := uI μ 0 0 0) (by omega) (by omega)
        rw [show f_X12_ofCall (uI μ 0 0 0) a1 (2 : Int32) = μ.1 1 (330 + 7 * c + 2) from C 2 (by decide), show f_X12_ofCall (uI μ 0 0 0) a1 (1 : Int32) = μ.1 1 (330 + 7 * c + 1) from C 1 (by decide), show f_X12_ofCall (uI μ 0 0 0) a1 (5 : Int32) = μ.1 1 (330 + 7 * c + 5) from C 5 (by decide), show f_X12_ofCall (uI μ 0 0 0) a1 (6 : Int32) = μ.1 1 (330 + 7 * c + 6) from C 6 (by decide)]
        rw [show cl ((uI μ 0 0 0).1 1 (330 + 7 * c)) = s from es.symm]
        unfold f_X12_lineOf cst rbt
        rw [if_neg (by decide), if_pos rfl, if_neg (by decide), if_neg (by decide), if_pos rfl]
        show _ = f_X12_duesOf (uI μ 0 0 0) ((uI μ 0 0 0).1 1 (274 + 7 * s)) (nI v) + f_X12_feeOf (uI μ 0 0 0) ((uI μ 0 0 0).1 1 (330 + 7 * c + 3)) + _ + _
        ac_rfl
      refine ⟨.ok (f_X12_totalFor (uI μ 0 0 0) (nI s) - f_X12_totalFor μ1 (nI s)), (f_X12_totalFor (uI μ 0 0 0) (nI s) - f_X12_totalFor μ1 (nI s), uI μ1 1 (330 + 7 * c + 4) 0), ?_, fun k h => (by cases h), ?_, ?_, fun _ _ => rfl, hrel.mono (Nat.le_succ n)⟩
      · unfold g_X11_worth
        rw [rqC, e0, if_pos h, bnd_s, bnx_ok, asr_pos i3, ← ec, d4 4 (by decide), if_pos q]
        unfold g_X2_year
        rw [asr_pos d3, d4 1 (by decide), bnd_s, show ν.1 (7 + (22 + c)) 0 = μ.1 1 (330 + 7 * c) from d4 0 (by decide), s1, callsIn_of (μ := uI μ 0 0 0) hL hW (by rw [div360 r1.1]; have := r1.1; omega) (by rw [div360 r1.1]; have := r1.2; omega), bnd_s, tot, bnd_s, tv, val]
      · unfold g_X12_worth
        rw [bnd_s, bnd_s, isCall_eq hW, decide_eq_true h, show f_X12_passes μ true = (true, uI μ 0 0 0) from rfl, if_pos rfl]
        dsimp only
        have C4 : f_X12_ofCall (uI μ 0 0 0) a1 (4 : Int32) = 0 := by
          rw [i4]
          exact (ofCall_eq (μ := uI μ 0 0 0) (k := 4) (by omega) (by decide)).trans q
        have C0 : f_X12_ofCall (uI μ 0 0 0) a1 (0 : Int32) = nI s := by
          rw [i4]
          exact (ofCall_eq (μ := uI μ 0 0 0) (k := 0) (by omega) (by decide)).trans s1
        have hok1 : OkR (μ1.1 1) := by
          refine okR_of (hW.callc (x := c) i2 (fun k hk => by rw [f1, if_neg (by omega)]) (fun y hy => Or.inr (by rw [f1, if_neg (by omega)] at hy; exact hy)) (by rw [f1, if_neg (by omega)]; exact hW.1.2.1) (by rw [f1, if_neg (by omega)]; exact Int.le_refl _) ?_ (by rw [f1, if_neg (by omega)]; exact d5))
          rw [f1 (330 + 7 * c), f1 (330 + 7 * c + 1), f1 (330 + 7 * c + 2), f1 (330 + 7 * c + 3), f1 (330 + 7 * c + 4), f1 (330 + 7 * c + 5), f1 (330 + 7 * c + 6), if_neg (by omega), if_neg (by omega), if_neg (by omega), if_neg (by omega), if_pos rfl, if_neg (by omega), if_neg (by omega)]
          exact ⟨r0, r1, r2, r3, ⟨by decide, by decide⟩, r5, r6, r7⟩
        rw [asr_pos m41, bnd_s, C4, if_neg (by decide), bnd_s, C0, asr_pos (show OkR ((uI μ 0 0 0).1 1) from okR_of hW), bnd_s, setCall_of (j := 4) (k := (4 : Int32)) i4 rfl (by omega) (by decide), bnd_s, ← e1, asr_pos hok1, bnd_s, setCall_of (j := 4) (k := (4 : Int32)) i4 rfl (by omega) (by decide), bnd_s]
      · show (0 : Int32) = (uI μ1 1 (330 + 7 * c + 4) 0).1 0 0
        rw [uI_at, if_neg (fun z => absurd z.1 (by decide)), e1, uI_at, if_neg (fun z => absurd z.1 (by decide)), uI_at, if_pos ⟨rfl, rfl⟩]
    · have q1 : μ.1 1 (330 + 7 * c + 4) = 1 := by
        rcases isZ_of r4 with z | z
        · exact absurd z q
        · exact z
      refine ⟨.ok 0, (0, uI μ 0 0 0), ?_, fun k h => (by cases h), ?_, rfl, fun _ _ => rfl, hR.thr 0⟩
      · unfold g_X11_worth
        rw [rqC, e0, if_pos h, bnd_s, bnx_ok, asr_pos i3, ← ec, d4 4 (by decide), if_neg q]
      · unfold g_X12_worth
        have C4 : f_X12_ofCall (uI μ 0 0 0) a1 (4 : Int32) = 1 := by
          rw [i4]
          exact (ofCall_eq (μ := uI μ 0 0 0) (k := 4) (by omega) (by decide)).trans q1
        rw [bnd_s, bnd_s, isCall_eq hW, decide_eq_true h, show f_X12_passes μ true = (true, uI μ 0 0 0) from rfl, if_pos rfl]
        dsimp only
        rw [asr_pos m41, bnd_s, C4, if_pos rfl]
  · refine ⟨.error 1, (0, uI μ 0 0 1), ?_, fun k h => (by cases h; rfl), ?_, rfl, fun _ g => absurd g (by decide), hR.thr 1⟩
    · unfold g_X11_worth
      rw [rqC, e0, if_neg h]
      rfl
    · unfold g_X12_worth
      rw [bnd_s, bnd_s, isCall_eq hW, pz1, decide_eq_false h]
      rfl
