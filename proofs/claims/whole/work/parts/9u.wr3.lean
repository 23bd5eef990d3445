/-! PURE. A new call. -/
theorem new_of {ν : Mm} {L c : Nat} {s f l w : Int32} (hl : isLed L) (e : ν.1 L 6 = nI c) (hc : c < 40) : ∃ r, g_X5_newCall ν L s f l w = some (nI c, r) ∧ (∀ off, off ≠ L → off ≠ L + (22 + c) → Eq3 ν r off) ∧ (∀ k, k ≠ 6 → r.1 L k = ν.1 L k) ∧ r.1 L 6 = nI (c + 1) ∧ (r.1 (L + (22 + c)) 0 = s ∧ r.1 (L + (22 + c)) 1 = f ∧ r.1 (L + (22 + c)) 2 = l ∧ r.1 (L + (22 + c)) 3 = w ∧ r.1 (L + (22 + c)) 4 = 0 ∧ r.1 (L + (22 + c)) 5 = 0 ∧ r.1 (L + (22 + c)) 6 = 0) := by
  have h1 : ¬ L = L + (22 + c) := by omega
  have h2 : ¬ L + (22 + c) = L := by omega
  unfold g_X5_newCall
  rw [asr_pos hl, e, asr_pos (vp_in_nI hc (by decide)), cl_nI (by omega), bnd_s, bnd_s, bnd_s, bnd_s, bnd_s, bnd_s, bnd_s, bnd_s]
  have e6 : ∀ x0 x1 x2 x3 x4 x5 x6 : Int32, (uI (uI (uI (uI (uI (uI (uI ν (L + (22 + c)) 0 x0) (L + (22 + c)) 1 x1) (L + (22 + c)) 2 x2) (L + (22 + c)) 3 x3) (L + (22 + c)) 4 x4) (L + (22 + c)) 5 x5) (L + (22 + c)) 6 x6).1 L 6 = nI c := fun x0 x1 x2 x3 x4 x5 x6 => by
    simp only [uI_at, h1, false_and, if_false]
    exact e
  rw [e6, nI1]
  refine ⟨_, rfl, fun off g1 g2 => ((((((((Eq3.rf ν off).I g2).I g2).I g2).I g2).I g2).I g2).I g2).I g1, fun k hk => ?_, ?_, ?_, ?_, ?_, ?_, ?_, ?_, ?_⟩
  · simp [uI_at, h1, hk]
  · rw [uI_at, if_pos ⟨rfl, rfl⟩]
  · simp [uI_at, h2]
  · simp [uI_at, h2]
  · simp [uI_at, h2]
  · simp [uI_at, h2]
  · simp [uI_at, h2]
  · simp [uI_at, h2]
  · simp [uI_at, h2]
/-- cells of a call's row, k of them are 0 -/
def Zr (μ μ' : Mm) (R c k : Nat) : Prop := (∀ off, off ≠ R → Eq3 μ μ' off) ∧ (μ'.2.1 R = μ.2.1 R ∧ μ'.2.2 = μ.2.2) ∧ (∀ i, i < 330 + 7 * c ∨ 330 + 7 * c + 7 ≤ i → μ'.1 R i = μ.1 R i) ∧ ∀ i, i < k → μ'.1 R (330 + 7 * c + i) = 0
theorem lay_loop {ν0 μ : Mm} {R c : Nat} {a1 s f l w : Int32} (hR : μ.2.2 0 3 = R) (hr : isRow R) (ha : a1 = nI c) (hc : c ≤ 40) : ∀ (d k : Nat), k + d = 7 → ∀ n, d + 1 ≤ n → ∀ μ', Zr μ μ' R c k → ∃ r, g_X12_layCall_L13 ν0 a1 s f l w n μ' (nI k) = some r ∧ (∀ off, off ≠ R → Eq3 μ r off) ∧ (r.2.1 R = μ.2.1 R ∧ r.2.2 = μ.2.2) ∧ (∀ i, i < 330 + 7 * c ∨ 330 + 7 * c + 7 ≤ i → r.1 R i = μ.1 R i) ∧ (r.1 R (330 + 7 * c) = s ∧ r.1 R (330 + 7 * c + 1) = f ∧ r.1 R (330 + 7 * c + 2) = l ∧ r.1 R (330 + 7 * c + 3) = w ∧ r.1 R (330 + 7 * c + 4) = 0 ∧ r.1 R (330 + 7 * c + 5) = 0 ∧ r.1 R (330 + 7 * c + 6) = 0) := by
  have I0 : ((330 : Int32) + ((7 : Int32) * a1)) + (0 : Int32) = nI (330 + 7 * c + 0) := ix_m ha 330 7 0
  have I1 : ((330 : Int32) + ((7 : Int32) * a1)) + (1 : Int32) = nI (330 + 7 * c + 1) := ix_m ha 330 7 1
  have I2 : ((330 : Int32) + ((7 : Int32) * a1)) + (2 : Int32) = nI (330 + 7 * c + 2) := ix_m ha 330 7 2
  have I3 : ((330 : Int32) + ((7 : Int32) * a1)) + (3 : Int32) = nI (330 + 7 * c + 3) := ix_m ha 330 7 3
  intro d
  induction d with
  | zero =>
    intro k hk n hn μ' h
    obtain ⟨n, rfl, -⟩ := succ_n hn
    have ek : k = 7 := by omega
    subst ek
    obtain ⟨g1, ⟨g2, g3⟩, g4, g5⟩ := h
    have hR' : μ'.2.2 0 3 = R := by rw [g3]; exact hR
    unfold g_X12_layCall_L13
    rw [if_pos (by decide), I0, I1, I2, I3, hR', asr_pos hr, asr_pos (vp_in_nI (by omega) (by decide)), bnd_s]
    simp only [uI_21, hR']
    rw [asr_pos hr, asr_pos (vp_in_nI (by omega) (by decide)), bnd_s]
    simp only [uI_21, hR']
    rw [asr_pos hr, asr_pos (vp_in_nI (by omega) (by decide)), bnd_s]
    simp only [uI_21, hR']
    rw [asr_pos hr, asr_pos (vp_in_nI (by omega) (by decide)), bnd_s, cl_nI (by omega), cl_nI (by omega), cl_nI (by omega), cl_nI (by omega)]
    refine ⟨_, rfl, fun off ho => ((((g1 off ho).I ho).I ho).I ho).I ho, ⟨g2, g3⟩, fun i hi => ?_, ?_, ?_, ?_, ?_, ?_, ?_, ?_⟩
    · rw [uI_at, if_neg (fun z => absurd z.2 (by omega)), uI_at, if_neg (fun z => absurd z.2 (by omega)), uI_at, if_neg (fun z => absurd z.2 (by omega)), uI_at, if_neg (fun z => absurd z.2 (by omega))]
      exact g4 i hi
    · rw [uI_at, if_neg (fun z => absurd z.2 (by omega)), uI_at, if_neg (fun z => absurd z.2 (by omega)), uI_at, if_neg (fun z => absurd z.2 (by omega)), uI_at, if_pos ⟨rfl, rfl⟩]
    · rw [uI_at, if_neg (fun z => absurd z.2 (by omega)), uI_at, if_neg (fun z => absurd z.2 (by omega)), uI_at, if_pos ⟨rfl, rfl⟩]
    · rw [uI_at, if_neg (fun z => absurd z.2 (by omega)), uI_at, if_pos ⟨rfl, rfl⟩]
    · rw [uI_at, if_pos ⟨rfl, rfl⟩]
    · rw [uI_at, if_neg (fun z => absurd z.2 (by omega)), uI_at, if_neg (fun z => absurd z.2 (by omega)), uI_at, if_neg (fun z => absurd z.2 (by omega)), uI_at, if_neg (fun z => absurd z.2 (by omega))]
      exact g5 4 (by decide)
    · rw [uI_at, if_neg (fun z => absurd z.2 (by omega)), uI_at, if_neg (fun z => absurd z.2 (by omega)), uI_at, if_neg (fun z => absurd z.2 (by omega)), uI_at, if_neg (fun z => absurd z.2 (by omega))]
      exact g5 5 (by decide)
    · rw [uI_at, if_neg (fun z => absurd z.2 (by omega)), uI_at, if_neg (fun z => absurd z.2 (by omega)), uI_at, if_neg (fun z => absurd z.2 (by omega)), uI_at, if_neg (fun z => absurd z.2 (by omega))]
      exact g5 6 (by decide)
  | succ d ih =>
    intro k hk n hn μ' h
    obtain ⟨n, rfl, hn2⟩ := succ_n hn
    obtain ⟨g1, ⟨g2, g3⟩, g4, g5⟩ := h
    have hR' : μ'.2.2 0 3 = R := by rw [g3]; exact hR
    obtain ⟨r, r1, r2⟩ := ih (k + 1) (by omega) n hn2 (uI μ' R (330 + 7 * c + k) 0) ⟨fun off ho => (g1 off ho).I ho, ⟨g2, g3⟩, fun i hi => by
      rw [uI_at, if_neg (fun z => absurd z.2 (by omega))]
      exact g4 i hi, fun i hi => by
      rw [uI_at]
      by_cases e : i = k
      · rw [if_pos ⟨rfl, by omega⟩]
      · rw [if_neg (fun z => absurd z.2 (by omega))]
        exact g5 i (by omega)⟩
    refine ⟨r, ?_, r2⟩
    unfold g_X12_layCall_L13
    rw [if_neg (by rw [le32, nI_toInt (by omega)]; show ¬ (7 : Int) ≤ (k : Int); omega), hR', asr_pos hr, show ((330 : Int32) + ((7 : Int32) * a1)) + nI k = nI (330 + 7 * c + k) from ix_m ha 330 7 k, asr_pos (vp_in_nI (by omega) (by decide)), bnd_s, cl_nI (by omega), nI1]
    exact r1
theorem lay_of {μ : Mm} {R c : Nat} {a1 s f l w : Int32} (hR : μ.2.2 0 3 = R) (hr : isRow R) (ha : a1 = nI c) (hc : c ≤ 40) : ∃ r, g_X12_layCall μ a1 s f l w = some r ∧ (∀ off, off ≠ R → Eq3 μ r off) ∧ (r.2.1 R = μ.2.1 R ∧ r.2.2 = μ.2.2) ∧ (∀ i, i < 330 + 7 * c ∨ 330 + 7 * c + 7 ≤ i → r.1 R i = μ.1 R i) ∧ (r.1 R (330 + 7 * c) = s ∧ r.1 R (330 + 7 * c + 1) = f ∧ r.1 R (330 + 7 * c + 2) = l ∧ r.1 R (330 + 7 * c + 3) = w ∧ r.1 R (330 + 7 * c + 4) = 0 ∧ r.1 R (330 + 7 * c + 5) = 0 ∧ r.1 R (330 + 7 * c + 6) = 0) :=
  lay_loop (ν0 := μ) hR hr ha hc 7 0 (by omega) 10000 (by omega) μ ⟨fun off _ => Eq3.rf μ off, ⟨rfl, rfl⟩, fun _ _ => rfl, fun i hi => absurd hi (by omega)⟩
/-- seven cells, by what each is -/
theorem sev {P : Nat → Prop} (h0 : P 0) (h1 : P 1) (h2 : P 2) (h3 : P 3) (h4 : P 4) (h5 : P 5) (h6 : P 6) : ∀ k, k < 7 → P k := by
  intro k hk
  match k, hk with
  | 0, _ => exact h0
  | 1, _ => exact h1
  | 2, _ => exact h2
  | 3, _ => exact h3
  | 4, _ => exact h4
  | 5, _ => exact h5
  | 6, _ => exact h6
  | k + 7, g => exact absurd g (by omega)
theorem stay_row {a1 a2 a3 a4 m : Int32} {g : Nat → Int32} {b : Nat} (h : 0 ≤ a1.toInt ∧ a1.toInt < m.toInt) (hm : rg m 0 8) (h2 : Stay a2 a3 a4) (e0 : g b = a1) (e1 : g (b + 1) = a2) (e2 : g (b + 2) = a3) (e3 : g (b + 3) = a4) (e4 : g (b + 4) = 0) (e5 : g (b + 5) = 0) (e6 : g (b + 6) = 0) : rg (g b) 0 7 ∧ rg (g (b + 1)) 0 3599 ∧ (0 ≤ (g (b + 2)).toInt ∧ (g (b + 1)).toInt ≤ (g (b + 2)).toInt + 0 ∧ (g (b + 2)).toInt ≤ (g (b + 1)).toInt + 29) ∧ rg (g (b + 3)) 0 999 ∧ rg (g (b + 4)) 0 1 ∧ rg (g (b + 5)) 0 1073741823 ∧ rg (g (b + 6)) 0 1073741823 ∧ g (b + 5) &&& g (b + 6) = 0 := by
  obtain ⟨p1, p2, p3⟩ := h2
  rw [e0, e1, e2, e3, e4, e5, e6]
  have := hm.2
  exact ⟨⟨h.1, by omega⟩, p1, ⟨by omega, by omega, by omega⟩, p3, ⟨by decide, by decide⟩, ⟨by decide, by decide⟩, ⟨by decide, by decide⟩, rfl⟩
theorem s43 : Sm_43 RelP := by
  intro n ν μ hn hR a1 a2 a3 a4
  obtain ⟨⟨hL, hW, hP⟩, -⟩ := id hR
  have e0 := (sh_c hL).1
  have e1 := (sh_c hL).2.1
  have z40 : ((40 : Int32)).toInt = 40 := rfl
  by_cases h : 0 ≤ a1.toInt ∧ a1.toInt < (μ.1 1 0).toInt
  · by_cases h2 : Stay a2 a3 a4
    · by_cases h3 : (40 : Int32) ≤ μ.1 1 1
      · refine wo_er 3 3 hR ?_ ?_ (by simp) rfl (by decide)
        · unfold g_X11_addCall
          rw [rqS, e0, if_pos h, bnd_s, bnx_ok, (rqY ν a2 a3 a4).1 h2, bnd_s, bnx_ok, e1, if_pos h3]
          rfl
        · unfold g_X12_addCall
          rw [bnd_s, bnd_s, areDays_eq, decide_eq_true ⟨h2.1, h2.2.1⟩, if_pos rfl, bnd_s, isWaste_eq, decide_eq_true h2.2.2, if_pos rfl]
          unfold g_X12_addCall_J27 g_X12_addCall_J43
          rw [if_pos h3, bnd_s, isShip_eq hW, decide_eq_true h, pz3]
          rfl
      · obtain ⟨ν1, μ1, s1, s2, s3, s4, s5, s6⟩ := save_of (hR.th0 0)
        have ef : μ1.1 1 = μ.1 1 := (s5 1 (by decide) (by decide) (by decide)).1
        obtain ⟨hL1, hW1, hP1⟩ := s3.1
        obtain ⟨k1, k2, k3⟩ := cl_of hW1.1.2.1
        have hc : cl (μ1.1 1 1) < 40 := by
          rw [le32, z40] at h3
          rw [ef] at k2 ⊢
          omega
        have hr3 : μ1.2.2 0 3 = 1 := s3.2.2.2.2.2
        obtain ⟨ν2, q1, q2, q3, q4, q5, q6, q7, q8, q9, q10, q11⟩ := new_of (ν := ν1) (L := 7) (s := a1) (f := a2) (l := a3) (w := a4) led7 ((hL1.1.2.1).trans k1) hc
        obtain ⟨μ2, m1, m2, ⟨m3, m4⟩, m5, m6, m7, m8, m9, m10, m11, m12⟩ := lay_of (μ := μ1) (s := a1) (f := a2) (l := a3) (w := a4) hr3 (Or.inl rfl) k1 (Nat.le_of_lt hc)
        have ec : (uI μ2 1 1 (nI (cl (μ1.1 1 1) + 1))).1 1 1 = nI (cl (μ1.1 1 1) + 1) := by rw [uI_at, if_pos ⟨rfl, rfl⟩]
        have eo : ∀ k, k ≠ 1 → (uI μ2 1 1 (nI (cl (μ1.1 1 1) + 1))).1 1 k = μ2.1 1 k := fun k hk => by rw [uI_at, if_neg (fun z => hk z.2)]
        have F : ∀ k, k < 1377 ∧ k ≠ 1 ∧ (k < 330 + 7 * cl (μ1.1 1 1) ∨ 330 + 7 * cl (μ1.1 1 1) + 7 ≤ k) → (uI μ2 1 1 (nI (cl (μ1.1 1 1) + 1))).1 1 k = μ1.1 1 k := fun k hk => by
          rw [eo k hk.2.1]
          exact m5 k hk.2.2
        have hcn : ∀ y, y < cl ((uI μ2 1 1 (nI (cl (μ1.1 1 1) + 1))).1 1 1) → y = cl (μ1.1 1 1) ∨ y < cl (μ1.1 1 1) := fun y hy => by
          rw [ec, cl_nI (by omega)] at hy
          omega
        have hr : RelP (n + 1) ν2 (uI μ2 1 1 (nI (cl (μ1.1 1 1) + 1))) := by
          refine mkR s3 (Nat.le_succ n) (fun off ho => q2 off (by omega) (by omega)) (fun off g1 g2 g3 => (m2 off g1).I g1) ?_ ?_ ?_
          · refine LdR.callc (p := (uI μ2 1 1 (nI (cl (μ1.1 1 1) + 1))).2.1 3) (x := cl (μ1.1 1 1)) (f := μ1.1 1) ?_ hW1 hc (fun off g1 g2 g3 g4 => q2 off g3 g4) (fun k g1 g2 g3 => q3 k g3) (q4.trans ec.symm) F hcn ?_
            · rw [show (uI μ2 1 1 (nI (cl (μ1.1 1 1) + 1))).2.1 3 = μ1.2.1 3 from (m2 3 (by decide)).2.1]
              exact hL1
            · refine sev ?_ ?_ ?_ ?_ ?_ ?_ ?_
              · exact q5.trans (m6.symm.trans (eo _ (by omega)).symm)
              · exact q6.trans (m7.symm.trans (eo _ (by omega)).symm)
              · exact q7.trans (m8.symm.trans (eo _ (by omega)).symm)
              · exact q8.trans (m9.symm.trans (eo _ (by omega)).symm)
              · exact q9.trans (m10.symm.trans (eo _ (by omega)).symm)
              · exact q10.trans (m11.symm.trans (eo _ (by omega)).symm)
              · exact q11.trans (m12.symm.trans (eo _ (by omega)).symm)
          · refine hW1.callc (x := cl (μ1.1 1 1)) hc F hcn ?_ ?_ ?_ ?_
            · rw [ec]
              exact ⟨by rw [nI_toInt (by omega)]; omega, by rw [nI_toInt (by omega)]; omega⟩
            · rw [ec, nI_toInt (by omega)]
              omega
            · rw [eo (330 + 7 * cl (μ1.1 1 1)) (by omega), eo (330 + 7 * cl (μ1.1 1 1) + 1) (by omega), eo (330 + 7 * cl (μ1.1 1 1) + 2) (by omega), eo (330 + 7 * cl (μ1.1 1 1) + 3) (by omega), eo (330 + 7 * cl (μ1.1 1 1) + 4) (by omega), eo (330 + 7 * cl (μ1.1 1 1) + 5) (by omega), eo (330 + 7 * cl (μ1.1 1 1) + 6) (by omega)]
              exact stay_row (g := μ2.1 1) h hW.1.1 h2 m6 m7 m8 m9 m10 m11 m12
            · rw [eo _ (by omega), m6, ef]
              exact h.2
          · rw [show (uI μ2 1 1 (nI (cl (μ1.1 1 1) + 1))).2.1 3 = μ1.2.1 3 from (m2 3 (by decide)).2.1]
            exact hP1.mono (Nat.le_succ n)
        refine wo_ok (v := nI (cl (μ1.1 1 1))) hr ?_ ?_ ?_
        · rw [uI_at, if_neg (fun z => absurd z.1 (by decide)), (m2 0 (by decide)).1, s6 0 (by decide)]
          rfl
        · unfold g_X11_addCall
          rw [rqS, e0, if_pos h, bnd_s, bnx_ok, (rqY ν a2 a3 a4).1 h2, bnd_s, bnx_ok, e1, if_neg h3]
          unfold g_X11_addCall_J29 g_X11_requireState
          rw [if_pos rfl, bnd_s, bnx_ok, s1, bnd_s, q1, bnd_s]
        · unfold g_X12_addCall
          rw [bnd_s, bnd_s, areDays_eq, decide_eq_true ⟨h2.1, h2.2.1⟩, if_pos rfl, bnd_s, isWaste_eq, decide_eq_true h2.2.2, if_pos rfl]
          unfold g_X12_addCall_J27 g_X12_addCall_J43
          rw [if_neg h3, bnd_s, isShip_eq hW, decide_eq_true h, pz3]
          show bnd (g_X12_remember (uI μ 0 0 0)) _ = _
          rw [s2, bnd_s, m1, bnd_s, bnd_s, m5 1 (by omega), ← k1, ← nI1, ← k1]
    · refine wo_er 2 2 hR ?_ ?_ (by simp) rfl (by decide)
      · unfold g_X11_addCall
        rw [rqS, e0, if_pos h, bnd_s, bnx_ok, (rqY ν a2 a3 a4).2 h2]
        rfl
      · have J : g_X12_addCall_J26 μ a1 a2 a3 a4 μ true = some (0, uI μ 0 0 2) := by
          unfold g_X12_addCall_J26 g_X12_addCall_J27 g_X12_addCall_J43
          rw [bnd_s, bnd_s, pz3, pz3]
          split <;> rfl
        unfold g_X12_addCall
        rw [bnd_s, bnd_s, areDays_eq, isShip_eq hW, decide_eq_true h, isWaste_eq]
        by_cases h3 : (0 ≤ a2.toInt ∧ a2.toInt ≤ 3599) ∧ (a2.toInt ≤ a3.toInt ∧ a3.toInt ≤ a2.toInt + 29)
        · rw [decide_eq_true h3, if_pos rfl, bnd_s, decide_eq_false (fun z => h2 ⟨h3.1, h3.2, z⟩), if_neg (by decide)]
          exact J
        · rw [decide_eq_false h3, if_neg (by decide)]
          exact J
  · refine wo_er 1 1 hR ?_ ?_ (by simp) rfl (by decide)
    · unfold g_X11_addCall
      rw [rqS, e0, if_neg h]
      rfl
    · have J : ∀ b c, g_X12_addCall_J43 μ a1 a2 a3 a4 μ b c false = some (0, uI μ 0 0 1) := fun b c => by
        unfold g_X12_addCall_J43
        rw [bnd_s, pz3]
        rfl
      have J2 : ∀ b, g_X12_addCall_J27 μ a1 a2 a3 a4 μ b false = some (0, uI μ 0 0 1) := fun b => by
        unfold g_X12_addCall_J27
        rw [J, J]
        split <;> rfl
      unfold g_X12_addCall g_X12_addCall_J26
      rw [bnd_s, bnd_s, isShip_eq hW, decide_eq_false h, bnd_s, J2, J2]
      split
      · split <;> rfl
      · rfl
