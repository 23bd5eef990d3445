/-! PURE. What is open. -/
theorem imax_ti (x y : Int32) : (imax x y).toInt = max x.toInt y.toInt := by
  unfold imax
  by_cases h : x < y
  · rw [if_pos h]
    rw [lt32] at h
    omega
  · rw [if_neg h]
    rw [lt32] at h
    omega
theorem imin_ti (x y : Int32) : (imin x y).toInt = min x.toInt y.toInt := by
  unfold imin
  by_cases h : y < x
  · rw [if_pos h]
    rw [lt32] at h
    omega
  · rw [if_neg h]
    rw [lt32] at h
    omega
theorem lt64 {x y : Int64} : x < y ↔ x.toInt < y.toInt := Int64.lt_iff_toInt_lt
theorem eq64 {x y : Int64} (h : x.toInt = y.toInt) : x = y := Int64.toInt_inj.mp h
theorem lmax_ti (x y : Int64) : (lmax x y).toInt = max x.toInt y.toInt := by
  unfold lmax
  by_cases h : y < x
  · rw [if_pos h]
    rw [lt64] at h
    omega
  · rw [if_neg h]
    rw [lt64] at h
    omega
theorem lmin_ti (x y : Int64) : (lmin x y).toInt = min x.toInt y.toInt := by
  unfold lmin
  by_cases h : y < x
  · rw [if_pos h]
    rw [lt64] at h
    omega
  · rw [if_neg h]
    rw [lt64] at h
    omega
theorem ti_neg {x : Int32} (h : -2147483648 < x.toInt) : (-x).toInt = -x.toInt := by
  have := x.toInt_lt
  rw [Int32.toInt_neg, bm32 (by omega) (by omega)]
theorem imax_c (x : Int32) : imax x 0 = imax 0 x := by
  rw [eq32, imax_ti, imax_ti]
  omega
section OP
variable {ν μ : Mm} {p : Nat → Int64}
theorem sm4_b {f : Nat → Int32} (hW : Wf f) {i : Nat} (hi : i < 60) (s : Int32) : ∀ j : Nat, j ≤ 4 → -16777216 * (j : Int) ≤ (sm4 f i s j).toInt ∧ (sm4 f i s j).toInt ≤ 16777216 * (j : Int) := by
  have w := (hW.2.2.2.2.2.2.2.2.2.2.2.1 i hi).2.2.2.2.2.2.1
  intro j
  induction j with
  | zero =>
    intro _
    show -16777216 * ((0 : Nat) : Int) ≤ ((0 : Int32)).toInt ∧ ((0 : Int32)).toInt ≤ 16777216 * ((0 : Nat) : Int)
    exact ⟨by decide, by decide⟩
  | succ j ih =>
    intro hj
    obtain ⟨i1, i2⟩ := ih (by omega)
    obtain ⟨w1, w2⟩ := w j (by omega)
    unfold sm4
    split
    · rw [ti_add (by omega) (by omega)]
      omega
    · omega
theorem net_b (hW : Wf (μ.1 1)) {i : Nat} (hi : i < 60) : -67108864 ≤ (f_X12_netOf μ (nI i)).toInt ∧ (f_X12_netOf μ (nI i)).toInt ≤ 67108864 := by
  rw [netOf_m hi]
  have := sm4_b hW hi (f_X12_livingLines μ (nI i)) 4 (by omega)
  omega
theorem ship_b (hL : LdR ν 7 (μ.1 1) p) (hW : Wf (μ.1 1)) {i : Nat} (hi : i < cl (μ.1 1 2)) : 0 ≤ (f_X12_shipOf μ (nI i)).toInt ∧ (f_X12_shipOf μ (nI i)).toInt < (μ.1 1 0).toInt := by
  obtain ⟨h60, h1, h2, -, h3, h4, -⟩ := inv_at hL hW hi
  obtain ⟨-, -, -, -, c5, c6⟩ := call_at (a := μ.1 1 (617 + 10 * i)) hL hW ⟨h4, h3⟩
  unfold f_X12_shipOf
  rw [show f_X12_ofInvoice μ (nI i) (0 : Int32) = μ.1 1 (617 + 10 * i) from ofInv_eq (k := 0) (by omega) (by decide)]
  exact ⟨c6, c5⟩
theorem fu_loop (hL : LdR ν 7 (μ.1 1) p) (hW : Wf (μ.1 1)) {i : Nat} : ∀ (d k : Nat), k + d = cl (μ.1 1 2) → ∀ (n m : Nat), d + 1 ≤ n → d + 1 ≤ m → ∀ x : Int64, 0 ≤ x.toInt → x.toInt + 67108864 * (d : Int) ≤ 1000000000000000 → ∃ y, g_X0_fundsOf_L16 ν (f_X12_shipOf μ (nI i)) n x (nI k) = some y ∧ f_X12_openOf_L16 μ (nI i) m x (nI k) = f_X12_openOf_L65 μ (nI i) 61 y 0 ∧ 0 ≤ y.toInt ∧ y.toInt ≤ 1000000000000000 := by
  obtain ⟨c1, c2, c3⟩ := cl_of hW.1.2.2.1
  have e0 : ν.1 7 7 = μ.1 1 2 := (sh_c hL).2.2.1
  intro d
  induction d with
  | zero =>
    intro k hk n m hn1 hm1 x hx0 hx1
    obtain ⟨n, rfl, -⟩ := succ_n hn1
    obtain ⟨m, rfl, -⟩ := succ_n hm1
    have g : (μ.1 1 2) ≤ nI k := by rw [le32, nI_toInt (by omega)]; omega
    refine ⟨x, ?_, ?_, hx0, by omega⟩
    · unfold g_X0_fundsOf_L16
      rw [e0, if_pos g]
    · unfold f_X12_openOf_L16
      rw [if_pos g]
  | succ d ih =>
    intro k hk n m hn1 hm1 x hx0 hx1
    obtain ⟨n, rfl, hn2⟩ := succ_n hn1
    obtain ⟨m, rfl, hm2⟩ := succ_n hm1
    have hlt : k < cl (μ.1 1 2) := by omega
    have g : ¬ (μ.1 1 2) ≤ nI k := by rw [le32, nI_toInt (by omega)]; omega
    obtain ⟨h60, -⟩ := inv_at hL hW hlt
    obtain ⟨b1, b2⟩ := net_b (μ := μ) hW h60
    have b3 : (imax (0 : Int32) (-(f_X12_netOf μ (nI k)))).toInt = max 0 (-(f_X12_netOf μ (nI k)).toInt) := by
      rw [imax_ti, ti_neg (by omega)]
      rfl
    unfold g_X0_fundsOf_L16 f_X12_openOf_L16
    rw [e0, if_neg g, if_neg g, shipOf_of hL hW hlt, bnd_s, nI1]
    by_cases q : f_X12_shipOf μ (nI k) = f_X12_shipOf μ (nI i)
    · rw [if_pos q, if_pos q, asr_pos (vp_in_nI h60 (by decide)), cl_nI (by omega), net_of hL hW hlt, bnd_s, imax_c]
      have e1 : (x + (imax (0 : Int32) (-(f_X12_netOf μ (nI k)))).toInt64).toInt = x.toInt + max 0 (-(f_X12_netOf μ (nI k)).toInt) := by
        rw [tl_add (by rw [ti_l, b3]; omega) (by rw [ti_l, b3]; omega), ti_l, b3]
      exact ih (k + 1) (by omega) n m hn2 hm2 _ (by rw [e1]; omega) (by rw [e1]; omega)
    · rw [if_neg q, if_neg q, add0L]
      exact ih (k + 1) (by omega) n m hn2 hm2 x hx0 (by omega)
theorem cm_loop (hL : LdR ν 7 (μ.1 1) p) (hW : Wf (μ.1 1)) {i : Nat} (hi : i < cl (μ.1 1 2)) : ∀ (d k : Nat), k + d = i → ∀ (n m : Nat), d + 1 ≤ n → d + 1 ≤ m → ∀ c F left : Int64, 0 ≤ c.toInt → c.toInt ≤ 67108864 * (k : Int) → 0 ≤ F.toInt → F.toInt ≤ 1000000000000000 → left.toInt = max (F.toInt - c.toInt) 0 → ∃ y lf : Int64, g_X0_claimsBefore_L5 ν (nI i) n c (nI k) = some y ∧ f_X12_openOf_L65 μ (nI i) m left (nI k) = (((imax (0 : Int32) (f_X12_netOf μ (nI i))).toInt64) - (lmin lf ((imax (0 : Int32) (f_X12_netOf μ (nI i))).toInt64))).toInt32 ∧ lf.toInt = max (F.toInt - y.toInt) 0 ∧ 0 ≤ y.toInt ∧ y.toInt ≤ 67108864 * (i : Int) := by
  obtain ⟨h60i, -⟩ := inv_at hL hW hi
  intro d
  induction d with
  | zero =>
    intro k hk n m hn1 hm1 c F left hc0 hc1 hF0 hF1 hl
    obtain ⟨n, rfl, -⟩ := succ_n hn1
    obtain ⟨m, rfl, -⟩ := succ_n hm1
    have g : nI i ≤ nI k := by rw [le32, nI_toInt (by omega), nI_toInt (by omega)]; omega
    refine ⟨c, left, ?_, ?_, hl, hc0, by omega⟩
    · unfold g_X0_claimsBefore_L5
      rw [if_pos g]
    · unfold f_X12_openOf_L65
      rw [if_pos g]
  | succ d ih =>
    intro k hk n m hn1 hm1 c F left hc0 hc1 hF0 hF1 hl
    obtain ⟨n, rfl, hn2⟩ := succ_n hn1
    obtain ⟨m, rfl, hm2⟩ := succ_n hm1
    have hlt : k < cl (μ.1 1 2) := by omega
    have g : ¬ nI i ≤ nI k := by rw [le32, nI_toInt (by omega), nI_toInt (by omega)]; omega
    have h60 : k < 60 := by omega
    obtain ⟨b1, b2⟩ := net_b (μ := μ) hW h60
    have b3 : (imax (0 : Int32) (f_X12_netOf μ (nI k))).toInt = max 0 (f_X12_netOf μ (nI k)).toInt := by
      rw [imax_ti]
      rfl
    unfold g_X0_claimsBefore_L5 f_X12_openOf_L65
    rw [if_neg g, if_neg g, shipOf_of hL hW hlt, bnd_s, shipOf_of hL hW hi, bnd_s, nI1]
    by_cases q : f_X12_shipOf μ (nI k) = f_X12_shipOf μ (nI i)
    · rw [if_pos q, if_pos q, asr_pos (vp_in_nI h60 (by decide)), cl_nI (by omega), net_of hL hW hlt, bnd_s, imax_c]
      have e1 : (c + (imax (0 : Int32) (f_X12_netOf μ (nI k))).toInt64).toInt = c.toInt + max 0 (f_X12_netOf μ (nI k)).toInt := by
        rw [tl_add (by rw [ti_l, b3]; omega) (by rw [ti_l, b3]; omega), ti_l, b3]
      have e2 : (lmin left (imax (0 : Int32) (f_X12_netOf μ (nI k))).toInt64).toInt = min left.toInt (max 0 (f_X12_netOf μ (nI k)).toInt) := by
        rw [lmin_ti, ti_l, b3]
      have e3 : (left - lmin left (imax (0 : Int32) (f_X12_netOf μ (nI k))).toInt64).toInt = left.toInt - min left.toInt (max 0 (f_X12_netOf μ (nI k)).toInt) := by
        rw [tl_sub (by rw [e2]; omega) (by rw [e2]; omega), e2]
      exact ih (k + 1) (by omega) n m hn2 hm2 _ F _ (by rw [e1]; omega) (by rw [e1]; omega) hF0 hF1 (by rw [e1, e3]; omega)
    · rw [if_neg q, if_neg q, show left - (0 : Int64) = left from Int64.sub_zero left]
      exact ih (k + 1) (by omega) n m hn2 hm2 c F left hc0 (by omega) hF0 hF1 hl
theorem open_of {N : Nat} (hL : LdR ν 7 (μ.1 1) (μ.2.1 3)) (hW : Wf (μ.1 1)) (hP : Pb N (μ.2.1 3)) (hN : N ≤ 512) {i : Nat} (hi : i < cl (μ.1 1 2)) : g_X0_openAmount ν (nI i) = some (f_X12_openOf μ (nI i)) := by
  obtain ⟨h60, -⟩ := inv_at hL hW hi
  have c3 := (cl_of hW.1.2.2.1).2.2
  obtain ⟨b1, b2⟩ := net_b (μ := μ) hW h60
  have sb := ship_b hL hW hi
  obtain ⟨i1, i2, i3, i4, i5⟩ := ix_of (hi := 8) sb hW.1.1 (by decide)
  obtain ⟨p1, p2⟩ := hP _ i2
  have hp := (hL.2.1 _ i1).2.1
  obtain ⟨F, f1, f2, f3, f4⟩ := fu_loop (i := i) hL hW (cl (μ.1 1 2)) 0 (by omega) 10000 61 (by omega) (by omega) (μ.2.1 3 (cl (f_X12_shipOf μ (nI i)))) p1 (by omega)
  have z0 : ((0 : Int64)).toInt = 0 := rfl
  obtain ⟨y, lf, g1, g2, g3, g4, g5⟩ := cm_loop hL hW hi i 0 (by omega) 10000 61 (by omega) (by omega) 0 F F (by decide) (by decide) f3 f4 (by rw [z0]; omega)
  have m1 : f_X12_openOf μ (nI i) = _ := f2.trans g2
  rw [m1]
  have b3 : (imax (0 : Int32) (f_X12_netOf μ (nI i))).toInt = max 0 (f_X12_netOf μ (nI i)).toInt := by
    rw [imax_ti]
    rfl
  have e2 : (lmin lf (imax (0 : Int32) (f_X12_netOf μ (nI i))).toInt64).toInt = min lf.toInt (max 0 (f_X12_netOf μ (nI i)).toInt) := by
    rw [lmin_ti, ti_l, b3]
  have e3 : ((imax (0 : Int32) (f_X12_netOf μ (nI i))).toInt64 - lmin lf (imax (0 : Int32) (f_X12_netOf μ (nI i))).toInt64).toInt = max 0 (f_X12_netOf μ (nI i)).toInt - min lf.toInt (max 0 (f_X12_netOf μ (nI i)).toInt) := by
    rw [tl_sub (by rw [e2, ti_l, b3]; omega) (by rw [e2, ti_l, b3]; omega), e2, ti_l, b3]
  unfold g_X0_openAmount
  rw [asr_pos (vp_in_nI h60 (by decide)), cl_nI (by omega), net_of hL hW hi, bnd_s]
  by_cases q : 0 < f_X12_netOf μ (nI i)
  · have q1 : 0 < (f_X12_netOf μ (nI i)).toInt := lt32.mp q
    rw [if_pos q, shipOf_of hL hW hi, bnd_s]
    unfold g_X0_fundsOf g_X0_claimsBefore
    rw [asr_pos i3, hp, show g_X0_fundsOf_L16 ν (f_X12_shipOf μ (nI i)) 10000 (μ.2.1 3 (cl (f_X12_shipOf μ (nI i)))) (0 : Int32) = some F from f1, bnd_s, show g_X0_claimsBefore_L5 ν (nI i) 10000 (0 : Int64) (0 : Int32) = some y from g1, bnd_s]
    congr 2
    refine eq64 ?_
    rw [e3]
    have s1 : (F - y).toInt = F.toInt - y.toInt := tl_sub (by omega) (by omega)
    have s2 : (lmax (F - y) (0 : Int64)).toInt = max (F.toInt - y.toInt) 0 := by rw [lmax_ti, s1, z0]
    have s3 : ((f_X12_netOf μ (nI i)).toInt64 - lmax (F - y) (0 : Int64)).toInt = (f_X12_netOf μ (nI i)).toInt - max (F.toInt - y.toInt) 0 := by
      rw [tl_sub (by rw [s2, ti_l]; omega) (by rw [s2, ti_l]; omega), s2, ti_l]
    rw [lmax_ti, s3, z0]
    omega
  · have q1 : ¬ 0 < (f_X12_netOf μ (nI i)).toInt := fun z => q (lt32.mpr z)
    rw [if_neg q]
    rw [show ((imax (0 : Int32) (f_X12_netOf μ (nI i))).toInt64 - lmin lf (imax (0 : Int32) (f_X12_netOf μ (nI i))).toInt64) = 0 from eq64 (by rw [e3, z0]; omega)]
    rfl
end OP
theorem s27 : Sm_27 RelP := by
  intro n ν μ hn hR a1
  obtain ⟨⟨hL, hW, hP⟩, -⟩ := id hR
  have e0 := (sh_c hL).2.2.1
  by_cases h : 0 ≤ a1.toInt ∧ a1.toInt < (μ.1 1 2).toInt
  · obtain ⟨i1, i2, i3, i4, i5⟩ := ix_of (hi := 60) h hW.1.2.2.1 (by decide)
    refine ro_ok (v := f_X12_openOf (uI μ 0 0 0) a1) hR ?_ ?_
    · unfold g_X11_open
      rw [rqV, e0, if_pos h, bnd_s, bnx_ok]
      rw [i4, open_of (μ := uI μ 0 0 0) hL hW hP (by omega) i1, ← i4]
      rfl
    · unfold f_X12_open
      rw [isInv_eq hW, pz1, decide_eq_true h]
      rfl
  · refine ro_er 1 1 hR ?_ ?_ rfl rfl (by decide)
    · unfold g_X11_open
      rw [rqV, e0, if_neg h]
      rfl
    · unfold f_X12_open
      rw [isInv_eq hW, pz1, decide_eq_false h]
      rfl
section OO
variable {ν μ : Mm}
theorem oldest_loop {N : Nat} (hL : LdR ν 7 (μ.1 1) (μ.2.1 3)) (hW : Wf (μ.1 1)) (hP : Pb N (μ.2.1 3)) (hN : N ≤ 512) {a1 : Int32} (e : (f_X12_passes μ (f_X12_isShip μ a1)).2 = uI μ 0 0 0) : ∀ (d k : Nat), k + d = cl (μ.1 1 2) → ∀ (n m : Nat), d + 1 ≤ n → d + 1 ≤ m → ∃ y, g_X11_oldestOpen_L7 ν a1 n (nI k) = some (.ok y) ∧ f_X12_oldestOpen_L16 μ a1 m (nI k) = (y, uI μ 0 0 0) := by
  obtain ⟨c1, c2, c3⟩ := cl_of hW.1.2.2.1
  have e0 : ν.1 7 7 = μ.1 1 2 := (sh_c hL).2.2.1
  intro d
  induction d with
  | zero =>
    intro k hk n m hn1 hm1 
    obtain ⟨n, rfl, -⟩ := succ_n hn1
    obtain ⟨m, rfl, -⟩ := succ_n hm1
    have g : (μ.1 1 2) ≤ nI k := by rw [le32, nI_toInt (by omega)]; omega
    refine ⟨-1, ?_, ?_⟩
    · unfold g_X11_oldestOpen_L7
      rw [e0, if_pos g]
    · unfold f_X12_oldestOpen_L16
      rw [e]
      exact if_pos g
  | succ d ih =>
    intro k hk n m hn1 hm1 
    obtain ⟨n, rfl, hn2⟩ := succ_n hn1
    obtain ⟨m, rfl, hm2⟩ := succ_n hm1
    have hlt : k < cl (μ.1 1 2) := by omega
    have g : ¬ (μ.1 1 2) ≤ nI k := by rw [le32, nI_toInt (by omega)]; omega
    have op := open_of (μ := uI μ 0 0 0) hL hW hP hN hlt
    have so := shipOf_of (μ := uI μ 0 0 0) hL hW hlt
    obtain ⟨y, h1, h2⟩ := ih (k + 1) (by omega) n m hn2 hm2
    by_cases q : f_X12_shipOf (uI μ 0 0 0) (nI k) = a1
    · by_cases q2 : f_X12_openOf (uI μ 0 0 0) (nI k) ≤ 0
      · refine ⟨y, ?_, ?_⟩
        · unfold g_X11_oldestOpen_L7
          rw [e0, if_neg g, so, bnd_s, if_pos q, op, bnd_s, if_pos q2, nI1]
          exact h1
        · unfold f_X12_oldestOpen_L16
          rw [e, if_pos q, if_pos q2, nI1]
          exact (if_neg g).trans h2
      · refine ⟨nI k, ?_, ?_⟩
        · unfold g_X11_oldestOpen_L7
          rw [e0, if_neg g, so, bnd_s, if_pos q, op, bnd_s, if_neg q2]
        · unfold f_X12_oldestOpen_L16
          rw [e, if_pos q, if_neg q2]
          exact if_neg g
    · refine ⟨y, ?_, ?_⟩
      · unfold g_X11_oldestOpen_L7
        rw [e0, if_neg g, so, bnd_s, if_neg q, nI1]
        exact h1
      · unfold f_X12_oldestOpen_L16
        rw [e, if_neg q, nI1]
        exact (if_neg g).trans h2
theorem over_loop {N : Nat} (hL : LdR ν 7 (μ.1 1) (μ.2.1 3)) (hW : Wf (μ.1 1)) (hP : Pb N (μ.2.1 3)) (hN : N ≤ 512) {a1 : Int32} (e : (f_X12_passes μ (f_X12_in a1.toInt64 (0 : Int64) (3599 : Int64))).2 = uI μ 0 0 0) : ∀ (d k : Nat), k + d = cl (μ.1 1 2) → ∀ (n m : Nat), d + 1 ≤ n → d + 1 ≤ m → ∀ x : Int32, ∃ y, g_X11_overdue_L12 ν a1 n x (nI k) = some (.ok y) ∧ f_X12_overdue_L22 μ a1 m x (nI k) = (y, uI μ 0 0 0) := by
  obtain ⟨c1, c2, c3⟩ := cl_of hW.1.2.2.1
  have e0 : ν.1 7 7 = μ.1 1 2 := (sh_c hL).2.2.1
  intro d
  induction d with
  | zero =>
    intro k hk n m hn1 hm1 x
    obtain ⟨n, rfl, -⟩ := succ_n hn1
    obtain ⟨m, rfl, -⟩ := succ_n hm1
    have g : (μ.1 1 2) ≤ nI k := by rw [le32, nI_toInt (by omega)]; omega
    refine ⟨x, ?_, ?_⟩
    · unfold g_X11_overdue_L12
      rw [e0, if_pos g]
    · unfold f_X12_overdue_L22
      rw [e]
      exact if_pos g
  | succ d ih =>
    intro k hk n m hn1 hm1 x
    obtain ⟨n, rfl, hn2⟩ := succ_n hn1
    obtain ⟨m, rfl, hm2⟩ := succ_n hm1
    have hlt : k < cl (μ.1 1 2) := by omega
    have g : ¬ (μ.1 1 2) ≤ nI k := by rw [le32, nI_toInt (by omega)]; omega
    obtain ⟨h60, -, h2, -⟩ := inv_at hL hW hlt
    have op := open_of (μ := uI μ 0 0 0) hL hW hP hN hlt
    have o1 : f_X12_ofInvoice (uI μ 0 0 0) (nI k) (1 : Int32) = μ.1 1 (617 + 10 * k + 1) := ofInv_eq (μ := uI μ 0 0 0) (k := 1) (by omega) (by decide)
    have r1 : ν.1 (7 + (62 + 2 * k)) 2 = μ.1 1 (617 + 10 * k + 1) := h2 1 (by decide)
    have r5 : ν.1 7 10 = μ.1 1 5 := hL.1.2.2.2.2.2
    by_cases q : (μ.1 1 5) - (μ.1 1 (617 + 10 * k + 1)) < a1
    · obtain ⟨y, h1, h2⟩ := ih (k + 1) (by omega) n m hn2 hm2 x
      refine ⟨y, ?_, ?_⟩
      · unfold g_X11_overdue_L12
        rw [e0, if_neg g, asr_pos (vp_in_nI h60 (by decide)), cl_nI (by omega), r1, r5, if_pos q, nI1]
        exact h1
      · unfold f_X12_overdue_L22
        rw [e, o1, nI1, Int32.add_zero]
        exact (if_neg g).trans ((if_pos q).trans h2)
    · by_cases q2 : f_X12_openOf (uI μ 0 0 0) (nI k) ≤ 0
      · obtain ⟨y, h1, h2⟩ := ih (k + 1) (by omega) n m hn2 hm2 x
        refine ⟨y, ?_, ?_⟩
        · unfold g_X11_overdue_L12
          rw [e0, if_neg g, asr_pos (vp_in_nI h60 (by decide)), cl_nI (by omega), r1, r5, if_neg q, op, bnd_s, if_pos q2, nI1]
          exact h1
        · unfold f_X12_overdue_L22
          rw [e, o1, if_pos q2, nI1, Int32.add_zero]
          exact (if_neg g).trans ((if_neg q).trans h2)
      · obtain ⟨y, h1, h2⟩ := ih (k + 1) (by omega) n m hn2 hm2 (x + 1)
        refine ⟨y, ?_, ?_⟩
        · unfold g_X11_overdue_L12
          rw [e0, if_neg g, asr_pos (vp_in_nI h60 (by decide)), cl_nI (by omega), r1, r5, if_neg q, op, bnd_s, if_neg q2, nI1]
          exact h1
        · unfold f_X12_overdue_L22
          rw [e, o1, if_neg q2, nI1]
          exact (if_neg g).trans ((if_neg q).trans h2)
end OO
theorem s35 : Sm_35 RelP := by
  intro n ν μ hn hR a1
  obtain ⟨⟨hL, hW, hP⟩, -⟩ := id hR
  have e0 := (sh_c hL).1
  have c3 := (cl_of hW.1.2.2.1).2.2
  by_cases h : 0 ≤ a1.toInt ∧ a1.toInt < (μ.1 1 0).toInt
  · have ep : (f_X12_passes μ (f_X12_isShip μ a1)).2 = uI μ 0 0 0 := by rw [isShip_eq hW, decide_eq_true h, pz1]; rfl
    obtain ⟨y, y1, y2⟩ := oldest_loop hL hW hP (by omega) ep (cl (μ.1 1 2)) 0 (by omega) 10000 61 (by omega) (by omega)
    refine ro_ok (v := y) hR ?_ ?_
    · unfold g_X11_oldestOpen
      rw [rqS, e0, if_pos h, bnd_s, bnx_ok]
      exact y1
    · unfold f_X12_oldestOpen
      rw [show (f_X12_passes μ (f_X12_isShip μ a1)).1 = true from by rw [isShip_eq hW, decide_eq_true h, pz1], if_pos rfl]
      exact y2
  · refine ro_er 1 1 hR ?_ ?_ rfl rfl (by decide)
    · unfold g_X11_oldestOpen
      rw [rqS, e0, if_neg h]
      rfl
    · unfold f_X12_oldestOpen
      rw [isShip_eq hW, pz1, decide_eq_false h]
      rfl
theorem s36 : Sm_36 RelP := by
  intro n ν μ hn hR a1
  obtain ⟨⟨hL, hW, hP⟩, -⟩ := id hR
  have c3 := (cl_of hW.1.2.2.1).2.2
  have e8 : f_X12_in a1.toInt64 (0 : Int64) (3599 : Int64) = decide (0 ≤ a1.toInt ∧ a1.toInt ≤ 3599) := inX_eq
  by_cases h : 0 ≤ a1.toInt ∧ a1.toInt ≤ 3599
  · have ep : (f_X12_passes μ (f_X12_in a1.toInt64 (0 : Int64) (3599 : Int64))).2 = uI μ 0 0 0 := by rw [e8, decide_eq_true h, pz1]; rfl
    obtain ⟨y, y1, y2⟩ := over_loop hL hW hP (by omega) ep (cl (μ.1 1 2)) 0 (by omega) 10000 61 (by omega) (by omega) 0
    refine ro_ok (v := y) hR ?_ ?_
    · unfold g_X11_overdue
      rw [rqR]
      show bnd (some (if 0 ≤ a1.toInt ∧ a1.toInt ≤ 3599 then _ else _)) _ = _
      rw [if_pos h, bnd_s, bnx_ok]
      exact y1
    · unfold f_X12_overdue
      rw [show (f_X12_passes μ (f_X12_in a1.toInt64 (0 : Int64) (3599 : Int64))).1 = true from by rw [e8, decide_eq_true h, pz1], if_pos rfl]
      exact y2
  · refine ro_er 2 1 hR ?_ ?_ rfl rfl (by decide)
    · unfold g_X11_overdue
      rw [rqR]
      show bnd (some (if 0 ≤ a1.toInt ∧ a1.toInt ≤ 3599 then _ else _)) _ = _
      rw [if_neg h]
      rfl
    · unfold f_X12_overdue
      rw [e8, pz1, decide_eq_false h]
      rfl
