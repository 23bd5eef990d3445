/-! PURE. What the model's tariff says does not depend on calls. -/
section CG
variable {μ μ' : Mm} {v : Nat} {a4 : Int32}
def Tf (μ μ' : Mm) : Prop := ∀ k, 4 ≤ k → k < 330 → μ'.1 1 k = μ.1 1 k
theorem pc_cg (h : Tf μ μ') (hv : a4 = nI v) (hv2 : v < 21) (r : Int32) : f_X12_percentOf μ' r a4 = f_X12_percentOf μ r a4 := by
  have L : ∀ (m k : Nat) (x : Int32), k + m ≤ 50 → f_X12_percentOf_L5 μ' r a4 m x (nI k) = f_X12_percentOf_L5 μ r a4 m x (nI k) := by
    intro m
    induction m with
    | zero => intro k x _; rfl
    | succ m ih =>
      intro k x hk
      have o1 : f_X12_ofVersion μ' a4 ((6 : Int32) + nI k) = μ'.1 1 (22 + 12 * v + (6 + k)) := ofV_eq hv (by omega) (by rw [show (6 : Int32) = nI 6 from rfl, nI_add]) (by omega)
      have o2 : f_X12_ofVersion μ a4 ((6 : Int32) + nI k) = μ.1 1 (22 + 12 * v + (6 + k)) := ofV_eq hv (by omega) (by rw [show (6 : Int32) = nI 6 from rfl, nI_add]) (by omega)
      unfold f_X12_percentOf_L5
      rw [h 7 (by omega) (by omega), cl_nI (by omega), h (18 + k) (by omega) (by omega), o1, o2, h (22 + 12 * v + (6 + k)) (by omega) (by omega), nI1, ih (k + 1) x (by omega), ih (k + 1) _ (by omega)]
  exact L 5 0 0 (by omega)
theorem bw_cg (h : Tf μ μ') (hW : Wf (μ.1 1)) (h6 : ¬ μ.1 1 6 = 0) (t : Int32) : f_X12_bandWith μ' t = f_X12_bandWith μ t := by
  obtain ⟨c1, c2, c3⟩ := cl_of hW.1.2.2.2.2.2.2.1
  have L : ∀ (m k : Nat), k < 50 → f_X12_bandWith_L10 μ' t m (nI k) = f_X12_bandWith_L10 μ t m (nI k) := by
    intro m
    induction m with
    | zero => intro k _; rfl
    | succ m ih =>
      intro k hk
      unfold f_X12_bandWith_L10
      by_cases z : nI k ≤ 0
      · rw [if_pos z, if_pos z]
      · rw [if_neg z, if_neg z, nI1, cl_nI (by omega), show 12 + (k + 1 - 1) = 12 + k by omega, h (12 + k) (by omega) (by omega)]
        have hk0 : k ≠ 0 := fun e => z (by rw [e]; decide)
        obtain ⟨j, rfl⟩ : ∃ j, k = j + 1 := ⟨k - 1, by omega⟩
        rw [nI_m1, nI_p1, ih j (by omega)]
  unfold f_X12_bandWith
  rw [h 6 (by omega) (by omega), c1]
  have qc : cl (μ.1 1 6) ≠ 0 := fun z => h6 (by rw [c1, z]; rfl)
  have e9 : nI (cl (μ.1 1 6)) - (1 : Int32) = nI (cl (μ.1 1 6) - 1) := by
    have := nI_p1 (cl (μ.1 1 6) - 1)
    rw [Nat.sub_add_cancel (by omega)] at this
    exact this
  rw [e9]
  exact L _ _ (by omega)
theorem du_cg (h : Tf μ μ') (hW : Wf (μ.1 1)) (hv : a4 = nI v) (hv2 : v < 21) (t : Int32) : f_X12_duesOf μ' t a4 = f_X12_duesOf μ t a4 := by
  have ib : ∀ k, k < 50 → f_X12_inBand μ' t (nI k) = f_X12_inBand μ t (nI k) := fun k hk => by
    unfold f_X12_inBand
    rw [nI1, cl_nI (by omega), h 6 (by omega) (by omega), h (12 + k + 1) (by omega) (by omega), h (12 + k) (by omega) (by omega)]
  have L : ∀ (m k : Nat) (x : Int32), k + m ≤ 50 → f_X12_duesOf_L43 μ' t a4 m x (nI k) = f_X12_duesOf_L43 μ t a4 m x (nI k) := by
    intro m
    induction m with
    | zero => intro k x _; rfl
    | succ m ih =>
      intro k x hk
      have o1 : f_X12_ofVersion μ' a4 ((0 : Int32) + nI k) = μ'.1 1 (22 + 12 * v + k) := ofV_eq hv (by omega) (by rw [Int32.zero_add]) (by omega)
      have o2 : f_X12_ofVersion μ a4 ((0 : Int32) + nI k) = μ.1 1 (22 + 12 * v + k) := ofV_eq hv (by omega) (by rw [Int32.zero_add]) (by omega)
      unfold f_X12_duesOf_L43
      rw [h 6 (by omega) (by omega), ib k (by omega), o1, o2, h (22 + 12 * v + k) (by omega) (by omega), nI1, ih (k + 1) _ (by omega)]
  unfold f_X12_duesOf
  rw [h 6 (by omega) (by omega), h 8 (by omega) (by omega)]
  by_cases q : μ.1 1 6 = 0
  · rw [if_pos q, if_pos q]
  · obtain ⟨c1, c2, c3⟩ := cl_of hW.1.2.2.2.2.2.2.1
    rw [if_neg q, if_neg q, bw_cg h hW q]
    have e0 : f_X12_duesOf_L43 μ' t a4 7 (0 : Int32) (0 : Int32) = f_X12_duesOf_L43 μ t a4 7 (0 : Int32) (0 : Int32) := L 7 0 0 (by omega)
    rw [e0]
    by_cases q8 : μ.1 1 8 = 1
    · rw [if_pos q8, if_pos q8]
      congr 1
      have L2 : ∀ (m k : Nat), k < 50 → ∃ b, b < 50 ∧ (f_X12_bandWith_L10 μ t (m + 1) (nI k) = nI b ∨ f_X12_bandWith_L10 μ t (m + 1) (nI k) = 0) := by
        intro m
        induction m with
        | zero =>
          intro k hk
          unfold f_X12_bandWith_L10
          by_cases z : nI k ≤ 0
          · rw [if_pos z]
            exact ⟨k, hk, Or.inl rfl⟩
          · rw [if_neg z]
            split
            · exact ⟨k, hk, Or.inl rfl⟩
            · exact ⟨0, by omega, Or.inr rfl⟩
        | succ m ih =>
          intro k hk
          conv => rhs; unfold f_X12_bandWith_L10
          by_cases z : nI k ≤ 0
          · exact ⟨k, hk, by rw [if_pos z]; exact Or.inl rfl⟩
          · have hk0 : k ≠ 0 := fun e => z (by rw [e]; decide)
            obtain ⟨j, rfl⟩ : ∃ j, k = j + 1 := ⟨k - 1, by omega⟩
            by_cases w : μ.1 1 (12 + (cl (nI (j + 1) + 1) - 1)) ≤ t
            · exact ⟨j + 1, hk, by rw [if_neg z, if_pos w]; exact Or.inl rfl⟩
            · obtain ⟨b, b1, b2⟩ := ih j (by omega)
              exact ⟨b, b1, by rw [if_neg z, if_neg w, nI_m1, nI_p1]; exact b2⟩
      have qc : cl (μ.1 1 6) ≠ 0 := fun z => q (by rw [c1, z]; rfl)
      have e9 : nI (cl (μ.1 1 6)) - (1 : Int32) = nI (cl (μ.1 1 6) - 1) := by
        have := nI_p1 (cl (μ.1 1 6) - 1)
        rw [Nat.sub_add_cancel (by omega)] at this
        exact this
      have eb : ∃ b, b < 50 ∧ f_X12_bandWith μ t = nI b := by
        unfold f_X12_bandWith
        rw [c1, e9]
        obtain ⟨b, b1, b2⟩ := L2 6 (cl (μ.1 1 6) - 1) (by omega)
        rcases b2 with b2 | b2
        · exact ⟨b, b1, b2⟩
        · exact ⟨0, by omega, b2⟩
      obtain ⟨b, b1, b2⟩ := eb
      rw [b2, show f_X12_ofVersion μ' a4 ((0 : Int32) + nI b) = μ'.1 1 (22 + 12 * v + b) from ofV_eq hv (by omega) (by rw [Int32.zero_add]) (by omega), show f_X12_ofVersion μ a4 ((0 : Int32) + nI b) = μ.1 1 (22 + 12 * v + b) from ofV_eq hv (by omega) (by rw [Int32.zero_add]) (by omega), h (22 + 12 * v + b) (by omega) (by omega)]
    · rw [if_neg q8, if_neg q8]
theorem fe_cg (h : Tf μ μ') (w : Int32) : f_X12_feeOf μ' w = f_X12_feeOf μ w := by
  unfold f_X12_feeOf
  rw [h 9 (by omega) (by omega), h 10 (by omega) (by omega), h 11 (by omega) (by omega)]
end CG
/-! PURE. What the calls of a ship cost. -/
section TT
variable {μ μ' : Mm}
def livB (f : Nat → Int32) (s : Nat) (k : Nat) : Bool := decide (f (330 + 7 * k) = nI s ∧ f (330 + 7 * k + 4) = 0)
def keyI (f : Nat → Int32) (k : Nat) : Int := (f (330 + 7 * k + 1)).toInt
/-- the rows of the calls below N -/
def Cr (f : Nat → Int32) (N : Nat) : Prop := N ≤ 41 ∧ f 1 = nI N ∧ ∀ k, k < N → rg (f (330 + 7 * k)) 0 7 ∧ rg (f (330 + 7 * k + 1)) 0 3599 ∧ rg (f (330 + 7 * k + 4)) 0 1
theorem live_eq {s k : Nat} (hk : k < 2 ^ 31) : f_X12_isLive μ (nI k) (nI s) = livB (μ.1 1) s k := by
  unfold f_X12_isLive livB
  rw [show f_X12_ofCall μ (nI k) (0 : Int32) = μ.1 1 (330 + 7 * k) from ofCall_eq (k := 0) hk (by decide), show f_X12_ofCall μ (nI k) (4 : Int32) = μ.1 1 (330 + 7 * k + 4) from ofCall_eq (k := 4) hk (by decide)]
  by_cases h1 : μ.1 1 (330 + 7 * k) = nI s
  · by_cases h2 : μ.1 1 (330 + 7 * k + 4) = 0
    · rw [if_pos h1, if_pos h2, decide_eq_true ⟨h1, h2⟩]
    · rw [if_pos h1, if_neg h2, decide_eq_false (fun z => h2 z.2)]
  · rw [if_neg h1, decide_eq_false (fun z => h1 z.1)]
/-- the count of the model's loop for a rank -/
theorem rkW {N s : Nat} {day num : Int32} (hC : Cr (μ.1 1) N) (hd : 0 ≤ day.toInt) {c : Nat} (hc : c < 2 ^ 31) (hn : num = nI c) : ∀ (d k : Nat), k + d = N → ∀ m, d + 1 ≤ m → ∀ x : Nat, f_X12_rankWith_L6 μ (nI s) day num m (nI x) (nI k) = nI (x + (cntN (fun j => (livB (μ.1 1) s j && decide (keyI (μ.1 1) j / 360 = day.toInt / 360)) && (decide (keyI (μ.1 1) j < day.toInt ∨ (keyI (μ.1 1) j = day.toInt ∧ j < c)) && !decide (j = c))) N - cntN (fun j => (livB (μ.1 1) s j && decide (keyI (μ.1 1) j / 360 = day.toInt / 360)) && (decide (keyI (μ.1 1) j < day.toInt ∨ (keyI (μ.1 1) j = day.toInt ∧ j < c)) && !decide (j = c))) k)) := by
  obtain ⟨hN, e1, hr⟩ := hC
  intro d
  induction d with
  | zero =>
    intro k hk m hm x
    obtain ⟨m, rfl, -⟩ := succ_n hm
    have ek : k = N := by omega
    subst ek
    unfold f_X12_rankWith_L6
    rw [e1, if_pos (Int32.le_refl _), Nat.sub_self, Nat.add_zero]
  | succ d ih =>
    intro k hk m hm x
    obtain ⟨m, rfl, hm2⟩ := succ_n hm
    obtain ⟨r0, r1, r4⟩ := hr k (by omega)
    have mono : ∀ (Q : Nat → Bool) (b c : Nat), c ≤ b → cntN Q c ≤ cntN Q b := by
      intro Q b
      induction b with
      | zero => intro c h; rw [Nat.le_zero.mp h]; exact Nat.le_refl _
      | succ b ib =>
        intro c h
        by_cases e : c = b + 1
        · rw [e]; exact Nat.le_refl _
        · exact Nat.le_trans (ib c (by omega)) (Nat.le_add_right _ _)
    have st : ∀ (Q : Nat → Bool), cntN Q N - cntN Q k = (if Q k then 1 else 0) + (cntN Q N - cntN Q (k + 1)) := fun Q => by
      have m1 := mono Q N (k + 1) (by omega)
      have m2 : cntN Q (k + 1) = cntN Q k + (if Q k then 1 else 0) := rfl
      omega
    rw [st]
    have o1 : f_X12_ofCall μ (nI k) (1 : Int32) = μ.1 1 (330 + 7 * k + 1) := ofCall_eq (k := 1) (by omega) (by decide)
    have yo : f_X12_yearOf μ (nI k) = μ.1 1 (330 + 7 * k + 1) / (360 : Int32) := by
      unfold f_X12_yearOf
      rw [o1]
    have ye : (μ.1 1 (330 + 7 * k + 1) / (360 : Int32) = day / (360 : Int32)) ↔ keyI (μ.1 1) k / 360 = day.toInt / 360 := by
      rw [eq32, div360 r1.1, div360 hd]
      exact Iff.rfl
    have I0 := ih (k + 1) (by omega) m hm2 x
    have I1 := ih (k + 1) (by omega) m hm2 (x + 1)
    unfold f_X12_rankWith_L6
    rw [e1, if_neg (by rw [le32, nI_toInt (by omega), nI_toInt (by omega)]; omega), o1, yo, live_eq (by omega), hn, nI1, nI1, Int32.add_zero]
    rw [hn] at I0 I1
    by_cases ec : k = c
    · rw [if_pos (by rw [ec]), decide_eq_true ec]
      simp only [Bool.not_true, Bool.and_false, Bool.false_eq_true, if_false, Nat.zero_add]
      exact I0
    · rw [if_neg (fun z => ec ((nI_eq (by omega) (by omega)).mp z)), decide_eq_false ec]
      cases hl : livB (μ.1 1) s k with
      | false =>
        rw [if_neg (by decide)]
        simp only [Bool.false_and, Bool.false_eq_true, if_false, Nat.zero_add]
        exact I0
      | true =>
        rw [if_pos rfl]
        by_cases hy : keyI (μ.1 1) k / 360 = day.toInt / 360
        · rw [if_pos (ye.mpr hy), decide_eq_true hy]
          by_cases h1 : μ.1 1 (330 + 7 * k + 1) < day
          · rw [if_pos h1, decide_eq_true (show keyI (μ.1 1) k < day.toInt ∨ (keyI (μ.1 1) k = day.toInt ∧ k < c) from Or.inl (lt32.mp h1))]
            simp only [Bool.not_false, Bool.and_true, eq_self, if_true]
            rw [I1]
            congr 1
            omega
          · rw [if_neg h1]
            have h1' : ¬ keyI (μ.1 1) k < day.toInt := fun z => h1 (lt32.mpr z)
            by_cases h2 : μ.1 1 (330 + 7 * k + 1) = day
            · rw [if_pos h2]
              have h2' : keyI (μ.1 1) k = day.toInt := by rw [← h2]; rfl
              by_cases h3 : nI c ≤ nI k
              · rw [if_pos h3, decide_eq_false (by
                  rw [le32, nI_toInt (by omega), nI_toInt (by omega)] at h3
                  omega)]
                simp only [Bool.false_and, Bool.and_false, Bool.false_eq_true, if_false, Nat.zero_add]
                exact I0
              · rw [if_neg h3, decide_eq_true (show keyI (μ.1 1) k < day.toInt ∨ (keyI (μ.1 1) k = day.toInt ∧ k < c) from Or.inr ⟨h2', by
                  rw [le32, nI_toInt (by omega), nI_toInt (by omega)] at h3
                  omega⟩)]
                simp only [Bool.not_false, Bool.and_true, eq_self, if_true]
                rw [I1]
                congr 1
                omega
            · rw [if_neg h2, decide_eq_false (fun z => z.elim h1' (fun w => h2 (eq32.mpr w.1)))]
              simp only [Bool.false_and, Bool.and_false, Bool.false_eq_true, if_false, Nat.zero_add]
              exact I0
        · rw [if_neg (fun z => hy (ye.mp z)), decide_eq_false hy]
          simp only [Bool.false_and, Bool.and_false, Bool.false_eq_true, if_false, Nat.zero_add]
          exact I0
theorem rk_of {N s c : Nat} (hC : Cr (μ.1 1) N) (hc : c < N) (hl : livB (μ.1 1) s c = true) : f_X12_rankOf μ (nI c) = nI (1 + rkY (keyI (μ.1 1)) (livB (μ.1 1) s) N c) := by
  have hN := hC.1
  obtain ⟨r0, r1, r4⟩ := hC.2.2 c hc
  obtain ⟨l1, l2⟩ := of_decide_eq_true hl
  unfold f_X12_rankOf
  rw [show f_X12_ofCall μ (nI c) (4 : Int32) = μ.1 1 (330 + 7 * c + 4) from ofCall_eq (k := 4) (by omega) (by decide), show f_X12_ofCall μ (nI c) (0 : Int32) = μ.1 1 (330 + 7 * c) from ofCall_eq (k := 0) (by omega) (by decide), show f_X12_ofCall μ (nI c) (1 : Int32) = μ.1 1 (330 + 7 * c + 1) from ofCall_eq (k := 1) (by omega) (by decide), l2, if_neg (by decide), l1]
  unfold f_X12_rankWith
  have h := rkW (s := s) hC r1.1 (c := c) (by omega) rfl N 0 (by omega) 42 (by omega) 1
  refine h.trans ?_
  congr 2
  unfold rkY
  show cntN _ N - 0 = _
  rw [Nat.sub_zero]
  refine cntN_c N (fun k hk => ?_)
  show ((livB (μ.1 1) s k && decide (keyI (μ.1 1) k / 360 = keyI (μ.1 1) c / 360)) && (decide (keyI (μ.1 1) k < keyI (μ.1 1) c ∨ (keyI (μ.1 1) k = keyI (μ.1 1) c ∧ k < c)) && !decide (k = c))) = ((livB (μ.1 1) s k && decide (keyI (μ.1 1) k / 360 = keyI (μ.1 1) c / 360)) && bef (keyI (μ.1 1)) c k)
  by_cases e : k = c
  · subst e
    rw [bef_irr, decide_eq_true (show k = k from rfl), Bool.not_true, Bool.and_false]
  · rw [decide_eq_false e, Bool.not_false, Bool.and_true]
    rfl
theorem ci_cnt {N s : Nat} {y : Int32} (hC : Cr (μ.1 1) N) : ∀ (d k : Nat), k + d = N → ∀ m, d + 1 ≤ m → f_X12_callsIn_L5 μ (nI s) y m (nI (cntN (fun j => livB (μ.1 1) s j && decide (keyI (μ.1 1) j / 360 = y.toInt)) k)) (nI k) = nI (cntN (fun j => livB (μ.1 1) s j && decide (keyI (μ.1 1) j / 360 = y.toInt)) N) := by
  obtain ⟨hN, e1, hr⟩ := hC
  intro d
  induction d with
  | zero =>
    intro k hk m hm
    obtain ⟨m, rfl, -⟩ := succ_n hm
    have ek : k = N := by omega
    subst ek
    unfold f_X12_callsIn_L5
    rw [e1, if_pos (Int32.le_refl _)]
  | succ d ih =>
    intro k hk m hm
    obtain ⟨m, rfl, hm2⟩ := succ_n hm
    obtain ⟨r0, r1, r4⟩ := hr k (by omega)
    have o1 : f_X12_yearOf μ (nI k) = μ.1 1 (330 + 7 * k + 1) / (360 : Int32) := by
      unfold f_X12_yearOf
      rw [show f_X12_ofCall μ (nI k) (1 : Int32) = μ.1 1 (330 + 7 * k + 1) from ofCall_eq (k := 1) (by omega) (by decide)]
    have ye : (μ.1 1 (330 + 7 * k + 1) / (360 : Int32) = y) ↔ keyI (μ.1 1) k / 360 = y.toInt := by
      rw [eq32, div360 r1.1]
      exact Iff.rfl
    have I := ih (k + 1) (by omega) m hm2
    have sk : cntN (fun j => livB (μ.1 1) s j && decide (keyI (μ.1 1) j / 360 = y.toInt)) (k + 1) = cntN (fun j => livB (μ.1 1) s j && decide (keyI (μ.1 1) j / 360 = y.toInt)) k + (if (livB (μ.1 1) s k && decide (keyI (μ.1 1) k / 360 = y.toInt)) then 1 else 0) := rfl
    rw [sk] at I
    unfold f_X12_callsIn_L5
    rw [e1, if_neg (by rw [le32, nI_toInt (by omega), nI_toInt (by omega)]; omega), live_eq (by omega), o1, nI1, nI1, Int32.add_zero]
    cases hl : livB (μ.1 1) s k with
    | false =>
      rw [hl] at I
      rw [if_neg (by decide)]
      exact I
    | true =>
      rw [hl] at I
      rw [if_pos rfl]
      by_cases hy : keyI (μ.1 1) k / 360 = y.toInt
      · rw [decide_eq_true hy] at I
        rw [if_pos (ye.mpr hy)]
        exact I
      · rw [decide_eq_false hy] at I
        rw [if_neg (fun z => hy (ye.mp z))]
        exact I
theorem tf_sum {N : Nat} {s : Int32} (hN : N ≤ 41) (e1 : μ.1 1 1 = nI N) : f_X12_totalFor μ s = sumN (fun k => if μ.1 1 (330 + 7 * k) = s then f_X12_totalOf μ (nI k) else 0) N := by
  have L : ∀ (d k : Nat), k + d = N → ∀ m, d + 1 ≤ m → f_X12_totalFor_L4 μ s m (sumN (fun k => if μ.1 1 (330 + 7 * k) = s then f_X12_totalOf μ (nI k) else 0) k) (nI k) = sumN (fun k => if μ.1 1 (330 + 7 * k) = s then f_X12_totalOf μ (nI k) else 0) N := by
    intro d
    induction d with
    | zero =>
      intro k hk m hm
      obtain ⟨m, rfl, -⟩ := succ_n hm
      have ek : k = N := by omega
      subst ek
      unfold f_X12_totalFor_L4
      rw [e1, if_pos (Int32.le_refl _)]
    | succ d ih =>
      intro k hk m hm
      obtain ⟨m, rfl, hm2⟩ := succ_n hm
      have I := ih (k + 1) (by omega) m hm2
      have sk : sumN (fun k => if μ.1 1 (330 + 7 * k) = s then f_X12_totalOf μ (nI k) else 0) (k + 1) = sumN (fun k => if μ.1 1 (330 + 7 * k) = s then f_X12_totalOf μ (nI k) else 0) k + (if μ.1 1 (330 + 7 * k) = s then f_X12_totalOf μ (nI k) else 0) := rfl
      rw [sk] at I
      unfold f_X12_totalFor_L4
      rw [e1, if_neg (by rw [le32, nI_toInt (by omega), nI_toInt (by omega)]; omega), show f_X12_ofCall μ (nI k) (0 : Int32) = μ.1 1 (330 + 7 * k) from ofCall_eq (k := 0) (by omega) (by decide), nI1]
      by_cases q : μ.1 1 (330 + 7 * k) = s
      · rw [if_pos q] at I ⊢
        exact I
      · rw [if_neg q] at I ⊢
        exact I
  exact L N 0 (by omega) 42 (by omega)
/-- a call's cost without its rebate, by the cells of its row -/
def cst (μ : Mm) (s v : Nat) (w l f c : Int32) : Int32 := f_X12_duesOf μ (μ.1 1 (274 + 7 * s)) (nI v) + f_X12_feeOf μ w + f_X12_bits (f_X12_daysFrom (μ.1 1 (22 + 12 * v + 10)) ((l - f) + (1 : Int32)) &&& (c ^^^ (-1 : Int32))) * μ.1 1 (22 + 12 * v + 11)
def rbt (μ : Mm) (s v : Nat) (r : Int32) : Int32 := -((f_X12_duesOf μ (μ.1 1 (274 + 7 * s)) (nI v) * f_X12_percentOf μ r (nI v)) / (100 : Int32))
/-- the cost of a call of another memory with the same tariff, by its rank -/
theorem tot_cg (h : Tf μ μ') (hW : Wf (μ.1 1)) {v s k : Nat} (hv : μ.1 1 4 = nI v) (hv2 : v < 21) (hs : s < 8) (hk : k < 41) (h0 : μ'.1 1 (330 + 7 * k) = nI s) (h4 : μ'.1 1 (330 + 7 * k + 4) = 0) : f_X12_totalOf μ' (nI k) = cst μ s v (μ'.1 1 (330 + 7 * k + 3)) (μ'.1 1 (330 + 7 * k + 2)) (μ'.1 1 (330 + 7 * k + 1)) (μ'.1 1 (330 + 7 * k + 5) ||| μ'.1 1 (330 + 7 * k + 6)) + rbt μ s v (f_X12_rankOf μ' (nI k)) := by
  have C : ∀ j, j < 7 → f_X12_ofCall μ' (nI k) (nI j) = μ'.1 1 (330 + 7 * k + j) := fun j hj => ofCall_eq (by omega) (by omega)
  have c0 : f_X12_ofCall μ' (nI k) (0 : Int32) = nI s := (C 0 (by decide)).trans h0
  have c1 : f_X12_ofCall μ' (nI k) (1 : Int32) = μ'.1 1 (330 + 7 * k + 1) := C 1 (by decide)
  have c2 : f_X12_ofCall μ' (nI k) (2 : Int32) = μ'.1 1 (330 + 7 * k + 2) := C 2 (by decide)
  have c3 : f_X12_ofCall μ' (nI k) (3 : Int32) = μ'.1 1 (330 + 7 * k + 3) := C 3 (by decide)
  have c4 : f_X12_ofCall μ' (nI k) (4 : Int32) = 0 := (C 4 (by decide)).trans h4
  have c5 : f_X12_ofCall μ' (nI k) (5 : Int32) = μ'.1 1 (330 + 7 * k + 5) := C 5 (by decide)
  have c6 : f_X12_ofCall μ' (nI k) (6 : Int32) = μ'.1 1 (330 + 7 * k + 6) := C 6 (by decide)
  have ver : f_X12_version μ' = nI v := (h 4 (by omega) (by omega)).trans hv
  have ts : f_X12_ofShip μ' (nI s) (0 : Int32) = μ.1 1 (274 + 7 * s) := by
    show μ'.1 1 (274 + 7 * cl (nI s) + 0) = _
    rw [cl_nI (by omega)]
    exact h _ (by omega) (by omega)
  have v10 : f_X12_ofVersion μ' (nI v) (10 : Int32) = μ.1 1 (22 + 12 * v + 10) := (ofV_eq (j := 10) rfl (by omega) rfl (by decide)).trans (h (22 + 12 * v + 10) (by omega) (by omega))
  have v11 : f_X12_ofVersion μ' (nI v) (11 : Int32) = μ.1 1 (22 + 12 * v + 11) := (ofV_eq (j := 11) rfl (by omega) rfl (by decide)).trans (h (22 + 12 * v + 11) (by omega) (by omega))
  unfold f_X12_totalOf f_X12_amountOf
  rw [c4, if_neg (by decide), if_neg (by decide), if_neg (by decide), if_neg (by decide), if_pos rfl]
  unfold f_X12_callLine f_X12_layOf f_X12_laySet f_X12_contestedSet f_X12_daysOf
  rw [c0, c1, c2, c3, c5, c6, ver, ts, v10, v11]
  unfold f_X12_lineOf cst rbt
  rw [if_neg (by decide), if_pos rfl, if_neg (by decide), if_neg (by decide), if_pos rfl, du_cg h hW rfl hv2, pc_cg h rfl hv2, fe_cg h]
  ac_rfl
/-- all of them -/
theorem all_sum (h : Tf μ μ') (hW : Wf (μ.1 1)) {v s N : Nat} (hv : μ.1 1 4 = nI v) (hv2 : v < 21) (hs : s < 8) (hC : Cr (μ'.1 1) N) : f_X12_totalFor μ' (nI s) = sumN (fun k => if livB (μ'.1 1) s k then cst μ s v (μ'.1 1 (330 + 7 * k + 3)) (μ'.1 1 (330 + 7 * k + 2)) (μ'.1 1 (330 + 7 * k + 1)) (μ'.1 1 (330 + 7 * k + 5) ||| μ'.1 1 (330 + 7 * k + 6)) else 0) N + sumN (fun k => if livB (μ'.1 1) s k then (fun r => rbt μ s v (nI (1 + r))) (rkY (keyI (μ'.1 1)) (livB (μ'.1 1) s) N k) else 0) N := by
  rw [tf_sum hC.1 hC.2.1, ← sumN_add]
  refine sumN_c N (fun k hk => ?_)
  have hN := hC.1
  obtain ⟨r0, r1, r4⟩ := hC.2.2 k hk
  by_cases q : μ'.1 1 (330 + 7 * k) = nI s
  · rw [if_pos q]
    by_cases q4 : μ'.1 1 (330 + 7 * k + 4) = 0
    · have hl : livB (μ'.1 1) s k = true := decide_eq_true ⟨q, q4⟩
      rw [hl, if_pos rfl, if_pos rfl, tot_cg h hW hv hv2 hs (by omega) q q4, rk_of hC hk hl]
    · have hl : livB (μ'.1 1) s k = false := decide_eq_false (fun z => q4 z.2)
      have q1 : μ'.1 1 (330 + 7 * k + 4) = 1 := by
        rcases isZ_of r4 with z | z
        · exact absurd z q4
        · exact z
      rw [hl]
      unfold f_X12_totalOf
      rw [show f_X12_ofCall μ' (nI k) (4 : Int32) = μ'.1 1 (330 + 7 * k + 4) from ofCall_eq (k := 4) (by omega) (by decide), q1, if_pos rfl]
      rfl
  · have hl : livB (μ'.1 1) s k = false := decide_eq_false (fun z => q z.1)
    rw [if_neg q, hl]
    rfl
end TT
