/-! PURE. Ranks and counts of calls. -/
theorem succ_n {n d : Nat} (h : d + 1 ≤ n) : ∃ n', n = n' + 1 ∧ d ≤ n' := ⟨n - 1, by omega, by omega⟩
theorem div360 {x : Int32} (h : 0 ≤ x.toInt) : (x / (360 : Int32)).toInt = x.toInt / 360 := by
  rw [Int32.toInt_div, show ((360 : Int32)).toInt = 360 from rfl, Int.tdiv_eq_ediv_of_nonneg h]
  exact bm32 (by omega) (by have := x.toInt_lt; omega)
theorem ystart {x : Int32} (h : 0 ≤ x.toInt) (h2 : x.toInt ≤ 5000) : ((x / (360 : Int32)) * (360 : Int32)).toInt = x.toInt / 360 * 360 := by
  rw [ti_mul, div360 h, show ((360 : Int32)).toInt = 360 from rfl]
  · rw [div360 h, show ((360 : Int32)).toInt = 360 from rfl]; omega
  · rw [div360 h, show ((360 : Int32)).toInt = 360 from rfl]; omega
theorem nI1 (k : Nat) : nI k + (1 : Int32) = nI (k + 1) := nI_add k 1
theorem lt32 {x y : Int32} : x < y ↔ x.toInt < y.toInt := Int32.lt_iff_toInt_lt
theorem le32 {x y : Int32} : x ≤ y ↔ x.toInt ≤ y.toInt := Int32.le_iff_toInt_le
theorem eq32 {x y : Int32} : x = y ↔ x.toInt = y.toInt := fa_eqI x y
section RK
variable {ν μ : Mm} {p : Nat → Int64}
/-- a call's row, in both -/
theorem call_row (hL : LdR ν 7 (μ.1 1) p) {c : Nat} (h : c < cl (μ.1 1 1)) {k : Nat} (hk : k < 7) : ν.1 (7 + (22 + c)) k = μ.1 1 (330 + 7 * c + k) := hL.2.2.1 c h k hk
theorem ofCall_eq {c k : Nat} (hc : c < 2 ^ 31) (hk : k < 2 ^ 31) : f_X12_ofCall μ (nI c) (nI k) = μ.1 1 (330 + 7 * c + k) := by
  unfold f_X12_ofCall
  rw [cl_nI hc, cl_nI hk]
theorem cb_loop (hL : LdR ν 7 (μ.1 1) p) (hW : Wf (μ.1 1)) {s day num : Int32} (hd : 0 ≤ day.toInt) (hd2 : day.toInt ≤ 5000) (hn : ∀ c : Nat, c < cl (μ.1 1 1) → nI c = num → μ.1 1 (330 + 7 * c + 1) = day) :
    ∀ (d k : Nat), k + d = cl (μ.1 1 1) → ∀ (n m : Nat), d + 1 ≤ n → d + 1 ≤ m → ∀ x : Int32, ∃ y, g_X5_callsBefore_L17 ν 7 s day num n x (nI k) = some y ∧ f_X12_rankWith_L6 μ s day num m (1 + x) (nI k) = 1 + y := by
  obtain ⟨c1, c2, c3⟩ := cl_of hW.1.2.1
  have e0 : ν.1 7 6 = μ.1 1 1 := (sh_c hL).2.1
  intro d
  induction d with
  | zero =>
    intro k hk n m hn1 hm1 x
    obtain ⟨n, rfl, -⟩ := succ_n hn1
    obtain ⟨m, rfl, -⟩ := succ_n hm1
    have g : (μ.1 1 1) ≤ nI k := by rw [le32, nI_toInt (by omega)]; omega
    refine ⟨x, ?_, ?_⟩
    · unfold g_X5_callsBefore_L17
      rw [e0, if_pos g]
    · unfold f_X12_rankWith_L6
      rw [if_pos g]
  | succ d ih =>
    intro k hk n m hn1 hm1 x
    obtain ⟨n, rfl, hn2⟩ := succ_n hn1
    obtain ⟨m, rfl, hm2⟩ := succ_n hm1
    have hlt : k < cl (μ.1 1 1) := by omega
    have g : ¬ (μ.1 1 1) ≤ nI k := by rw [le32, nI_toInt (by omega)]; omega
    obtain ⟨y0, a0, b0⟩ := ih (k + 1) (by omega) n m hn2 hm2 x
    obtain ⟨y1, a1, b1⟩ := ih (k + 1) (by omega) n m hn2 hm2 (x + 1)
    rw [← Int32.add_assoc] at b1
    have r0 := call_row hL hlt (k := 0) (by decide)
    have r1 := call_row hL hlt (k := 1) (by decide)
    have r4 := call_row hL hlt (k := 4) (by decide)
    have w := hW.2.2.2.2.2.2.2.2.2.1 k (by omega)
    have hv : vp_in (nI k) 40 := vp_in_nI (by omega) (by decide)
    have ek : cl (nI k) = k := cl_nI (by omega)
    have o0 : f_X12_ofCall μ (nI k) (0 : Int32) = μ.1 1 (330 + 7 * k) := ofCall_eq (k := 0) (by omega) (by decide)
    have o1 : f_X12_ofCall μ (nI k) (1 : Int32) = μ.1 1 (330 + 7 * k + 1) := ofCall_eq (k := 1) (by omega) (by decide)
    have o4 : f_X12_ofCall μ (nI k) (4 : Int32) = μ.1 1 (330 + 7 * k + 4) := ofCall_eq (k := 4) (by omega) (by decide)
    have hnk := hn k hlt
    unfold g_X5_callsBefore_L17 f_X12_rankWith_L6
    rw [e0, if_neg g, if_neg g, asr_pos hv, ek]
    rw [show ν.1 (7 + (22 + k)) 0 = μ.1 1 (330 + 7 * k) from r0, r1, r4, nI1]
    unfold f_X12_isLive f_X12_yearOf
    rw [o0, o1, o4]
    have hz : (1 + x) + (0 : Int32) = 1 + x := Int32.add_zero _
    have w1 := w.2.1
    generalize μ.1 1 (330 + 7 * k + 1) = F at *
    generalize μ.1 1 (330 + 7 * k) = S at *
    generalize μ.1 1 (330 + 7 * k + 4) = X at *
    have skip : ∀ {P : Prop}, P → P := id
    by_cases q4 : S = s
    · by_cases q5 : X = 0
      · simp only [if_pos q4, if_pos q5, if_true, hz]
        by_cases q7 : nI k = num
        · have eF := hnk q7
          refine ⟨y0, ?_, ?_⟩
          · rw [if_neg (by rw [lt32, eF]; omega), if_pos eF, if_pos (by rw [le32, q7]; omega)]
            exact a0
          · rw [if_pos q7]
            exact b0
        · rw [if_neg q7]
          by_cases q1 : F < day
          · rw [if_pos q1, if_pos q1]
            have g1 := lt32.mp q1
            by_cases q6 : F < (day / (360 : Int32)) * (360 : Int32)
            · have g6 := lt32.mp q6
              rw [ystart hd hd2] at g6
              refine ⟨y0, by rw [if_pos q6]; exact a0, ?_⟩
              rw [if_neg (by rw [eq32, div360 w1.1, div360 hd]; omega)]
              exact b0
            · have g6 : ¬ F.toInt < day.toInt / 360 * 360 := fun z => q6 (by rw [lt32, ystart hd hd2]; exact z)
              refine ⟨y1, by rw [if_neg q6]; exact a1, ?_⟩
              rw [if_pos (by rw [eq32, div360 w1.1, div360 hd]; omega)]
              exact b1
          · rw [if_neg q1, if_neg q1]
            have g1 : ¬ F.toInt < day.toInt := fun z => q1 (lt32.mpr z)
            by_cases q2 : F = day
            · rw [if_pos q2, if_pos q2]
              have g2 := eq32.mp q2
              have e8 : F / (360 : Int32) = day / (360 : Int32) := by rw [q2]
              have e9 : ¬ F < (day / (360 : Int32)) * (360 : Int32) := fun z => by
                have := lt32.mp z
                rw [ystart hd hd2] at this
                omega
              by_cases q3 : num ≤ nI k
              · rw [if_pos q3, if_pos e8]
                exact ⟨y0, a0, by rw [if_pos q3]; exact b0⟩
              · rw [if_neg q3, if_pos e8]
                exact ⟨y1, by rw [if_neg e9]; exact a1, by rw [if_neg q3]; exact b1⟩
            · rw [if_neg q2, if_neg q2]
              refine ⟨y0, a0, ?_⟩
              split
              · exact b0
              · exact b0
      · simp only [if_pos q4, if_neg q5, ite_self, if_false, Bool.false_eq_true]
        exact ⟨y0, a0, b0⟩
    · simp only [if_neg q4, ite_self, if_false, Bool.false_eq_true]
      exact ⟨y0, a0, b0⟩
theorem rankWith_of (hL : LdR ν 7 (μ.1 1) p) (hW : Wf (μ.1 1)) {s day num : Int32} (hd : 0 ≤ day.toInt) (hd2 : day.toInt ≤ 5000) (hn : ∀ c : Nat, c < cl (μ.1 1 1) → nI c = num → μ.1 1 (330 + 7 * c + 1) = day) : ∃ y, g_X5_callsBefore ν 7 s day num = some y ∧ f_X12_rankWith μ s day num = 1 + y := by
  have c3 := (cl_of hW.1.2.1).2.2
  obtain ⟨y, h1, h2⟩ := cb_loop hL hW hd hd2 hn (cl (μ.1 1 1)) 0 (by omega) 10000 42 (by omega) (by omega) 0
  refine ⟨y, ?_, h2⟩
  unfold g_X5_callsBefore
  rw [asr_pos led7]
  exact h1
theorem rankOf_of (hL : LdR ν 7 (μ.1 1) p) (hW : Wf (μ.1 1)) {a : Int32} (ha : 0 ≤ a.toInt ∧ a.toInt < (μ.1 1 1).toInt) : g_X5_rankOf ν 7 a = some (f_X12_rankOf μ a) := by
  obtain ⟨i1, i2, i3, i4, i5⟩ := ix_of (hi := 40) ha hW.1.2.1 (by decide)
  have c3 := (cl_of hW.1.2.1).2.2
  have w := hW.2.2.2.2.2.2.2.2.2.1 (cl a) (by omega)
  unfold g_X5_rankOf f_X12_rankOf
  have o0 : f_X12_ofCall μ a (0 : Int32) = μ.1 1 (330 + 7 * cl a) := rfl
  have o1 : f_X12_ofCall μ a (1 : Int32) = μ.1 1 (330 + 7 * cl a + 1) := rfl
  have o4 : f_X12_ofCall μ a (4 : Int32) = μ.1 1 (330 + 7 * cl a + 4) := rfl
  rw [asr_pos led7, asr_pos i3, call_row hL i1 (k := 4) (by decide), show ν.1 (7 + (22 + cl a)) 0 = μ.1 1 (330 + 7 * cl a) from call_row hL i1 (k := 0) (by decide), call_row hL i1 (k := 1) (by decide), o0, o1, o4]
  have w4 := w.2.2.2.2.1
  by_cases q : μ.1 1 (330 + 7 * cl a + 4) = 0
  · rw [if_pos q, if_neg (by rw [q]; decide)]
    obtain ⟨y, h1, h2⟩ := rankWith_of (s := μ.1 1 (330 + 7 * cl a)) (num := a) hL hW w.2.1.1 (by have := w.2.1.2; omega) (fun c hc e => by
      have : cl a = c := by rw [← e]; exact cl_nI (by omega)
      rw [← this])
    rw [h1, h2]
    rfl
  · have q1 : μ.1 1 (330 + 7 * cl a + 4) = 1 := by
      rw [eq32] at q ⊢
      have := w4.1
      have := w4.2
      have e0 : ((0 : Int32)).toInt = 0 := rfl
      have e1 : ((1 : Int32)).toInt = 1 := rfl
      omega
    rw [if_neg q, if_pos q1]
theorem ci_loop (hL : LdR ν 7 (μ.1 1) p) (hW : Wf (μ.1 1)) {s y day : Int32} (hy : 0 ≤ y.toInt) (hy2 : y.toInt ≤ 12) (hday : day.toInt = y.toInt * 360 + 359) :
    ∀ (d k : Nat), k + d = cl (μ.1 1 1) → ∀ (n m : Nat), d + 1 ≤ n → d + 1 ≤ m → ∀ x : Int32, ∃ r, g_X5_callsBefore_L17 ν 7 s day (40 : Int32) n x (nI k) = some r ∧ f_X12_callsIn_L5 μ s y m x (nI k) = r := by
  obtain ⟨c1, c2, c3⟩ := cl_of hW.1.2.1
  have e0 : ν.1 7 6 = μ.1 1 1 := (sh_c hL).2.1
  have hd : 0 ≤ day.toInt := by omega
  have hd2 : day.toInt ≤ 5000 := by omega
  intro d
  induction d with
  | zero =>
    intro k hk n m hn1 hm1 x
    obtain ⟨n, rfl, -⟩ := succ_n hn1
    obtain ⟨m, rfl, -⟩ := succ_n hm1
    have g : (μ.1 1 1) ≤ nI k := by rw [le32, nI_toInt (by omega)]; omega
    refine ⟨x, ?_, ?_⟩
    · unfold g_X5_callsBefore_L17
      rw [e0, if_pos g]
    · unfold f_X12_callsIn_L5
      rw [if_pos g]
  | succ d ih =>
    intro k hk n m hn1 hm1 x
    obtain ⟨n, rfl, hn2⟩ := succ_n hn1
    obtain ⟨m, rfl, hm2⟩ := succ_n hm1
    have hlt : k < cl (μ.1 1 1) := by omega
    have g : ¬ (μ.1 1 1) ≤ nI k := by rw [le32, nI_toInt (by omega)]; omega
    obtain ⟨y0, a0, b0⟩ := ih (k + 1) (by omega) n m hn2 hm2 x
    obtain ⟨y1, a1, b1⟩ := ih (k + 1) (by omega) n m hn2 hm2 (x + 1)
    have r0 := call_row hL hlt (k := 0) (by decide)
    have r1 := call_row hL hlt (k := 1) (by decide)
    have r4 := call_row hL hlt (k := 4) (by decide)
    have w := hW.2.2.2.2.2.2.2.2.2.1 k (by omega)
    have hv : vp_in (nI k) 40 := vp_in_nI (by omega) (by decide)
    have ek : cl (nI k) = k := cl_nI (by omega)
    have o0 : f_X12_ofCall μ (nI k) (0 : Int32) = μ.1 1 (330 + 7 * k) := ofCall_eq (k := 0) (by omega) (by decide)
    have o1 : f_X12_ofCall μ (nI k) (1 : Int32) = μ.1 1 (330 + 7 * k + 1) := ofCall_eq (k := 1) (by omega) (by decide)
    have o4 : f_X12_ofCall μ (nI k) (4 : Int32) = μ.1 1 (330 + 7 * k + 4) := ofCall_eq (k := 4) (by omega) (by decide)
    unfold g_X5_callsBefore_L17 f_X12_callsIn_L5
    rw [e0, if_neg g, if_neg g, asr_pos hv, ek]
    rw [show ν.1 (7 + (22 + k)) 0 = μ.1 1 (330 + 7 * k) from r0, r1, r4, nI1]
    unfold f_X12_isLive f_X12_yearOf
    rw [o0, o1, o4]
    have hz : x + (0 : Int32) = x := Int32.add_zero _
    have w1 := w.2.1
    have hyd := div360 w1.1
    have hys := ystart hd hd2
    have q3 : ¬ (40 : Int32) ≤ nI k := by
      rw [le32, nI_toInt (by omega), show ((40 : Int32)).toInt = 40 from rfl]
      omega
    generalize μ.1 1 (330 + 7 * k + 1) = F at *
    generalize μ.1 1 (330 + 7 * k) = S at *
    generalize μ.1 1 (330 + 7 * k + 4) = X at *
    by_cases q4 : S = s
    · by_cases q5 : X = 0
      · simp only [if_pos q4, if_pos q5, if_true, hz, if_neg q3]
        by_cases q6 : F < (day / (360 : Int32)) * (360 : Int32)
        · have g6 := lt32.mp q6
          rw [hys] at g6
          simp only [if_pos q6, ite_self]
          exact ⟨y0, a0, by rw [if_neg (by rw [eq32, hyd]; omega)]; exact b0⟩
        · have g6 : ¬ F.toInt < day.toInt / 360 * 360 := fun z => q6 (by rw [lt32, hys]; exact z)
          simp only [if_neg q6]
          by_cases q1 : F < day
          · have g1 := lt32.mp q1
            rw [if_pos q1]
            exact ⟨y1, a1, by rw [if_pos (by rw [eq32, hyd]; omega)]; exact b1⟩
          · have g1 : ¬ F.toInt < day.toInt := fun z => q1 (lt32.mpr z)
            rw [if_neg q1]
            by_cases q2 : F = day
            · have g2 := eq32.mp q2
              rw [if_pos q2]
              exact ⟨y1, a1, by rw [if_pos (by rw [eq32, hyd]; omega)]; exact b1⟩
            · have g2 : ¬ F.toInt = day.toInt := fun z => q2 (eq32.mpr z)
              rw [if_neg q2]
              exact ⟨y0, a0, by rw [if_neg (by rw [eq32, hyd]; omega)]; exact b0⟩
      · simp only [if_pos q4, if_neg q5, ite_self, if_false, Bool.false_eq_true, hz]
        exact ⟨y0, a0, b0⟩
    · simp only [if_neg q4, ite_self, if_false, Bool.false_eq_true, hz]
      exact ⟨y0, a0, b0⟩
theorem callsIn_of (hL : LdR ν 7 (μ.1 1) p) (hW : Wf (μ.1 1)) {s y : Int32} (hy : 0 ≤ y.toInt) (hy2 : y.toInt ≤ 12) : g_X5_callsInYear ν 7 s y = some (f_X12_callsIn μ s y) := by
  have c3 := (cl_of hW.1.2.1).2.2
  have e1 : (y * (360 : Int32)).toInt = y.toInt * 360 := by
    rw [ti_mul] <;> rw [show ((360 : Int32)).toInt = 360 from rfl] <;> omega
  have e2 : ((y * (360 : Int32)) + (360 : Int32)).toInt = y.toInt * 360 + 360 := by
    rw [ti_add] <;> rw [e1, show ((360 : Int32)).toInt = 360 from rfl] <;> omega
  have e3 : (((y * (360 : Int32)) + (360 : Int32)) - (1 : Int32)).toInt = y.toInt * 360 + 359 := by
    rw [ti_sub] <;> rw [e2, show ((1 : Int32)).toInt = 1 from rfl] <;> omega
  obtain ⟨r, h1, h2⟩ := ci_loop (s := s) hL hW hy hy2 e3 (cl (μ.1 1 1)) 0 (by omega) 10000 42 (by omega) (by omega) 0
  unfold g_X5_callsInYear g_X5_callsBefore f_X12_callsIn
  rw [asr_pos led7, asr_pos led7]
  show bnd (g_X5_callsBefore_L17 ν 7 s _ (40 : Int32) 10000 0 (nI 0)) _ = some (f_X12_callsIn_L5 μ s y 42 0 (nI 0))
  rw [h1, h2]
  rfl
end RK
