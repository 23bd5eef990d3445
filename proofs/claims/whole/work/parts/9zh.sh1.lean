/-! PURE. The statement of a ship. -/
section SH
variable {ν0 μ0 ν μ : Mm} {len n : Nat}
theorem OuS.cls {f : Nat → Int32} {p : Nat → Int64} (h : OuS ν0 μ0 ν μ len) (hL : LdW n ν0 7 f p) : LdW n ν 7 f p := hL.congr (fun off g1 g2 => h.1 off (by omega) (by omega) (by omega))
theorem OuS.e1 (h : OuS ν0 μ0 ν μ len) : μ.1 1 = μ0.1 1 := (h.2.1 1 (by decide) (by decide)).1
theorem OuS.e3 (h : OuS ν0 μ0 ν μ len) : μ.2.1 3 = μ0.2.1 3 := by rw [h.2.2.2.1]
theorem OuS.l (h : OuS ν0 μ0 ν μ len) : ν.1 4 2 = nI len := h.2.2.2.2.1
theorem OuS.m (h : OuS ν0 μ0 ν μ len) : μ.1 0 21 = nI len := h.2.2.2.2.2.1
theorem OuS.ini (ν0 μ0 : Mm) : OuS ν0 μ0 (uI ν0 4 2 0) (uI μ0 0 21 0) 0 := by
  refine ⟨fun off g1 g2 g3 => (Eq3.rf ν0 off).I g1, fun off g1 g2 => (Eq3.rf μ0 off).I g1, fun k hk => by rw [uI_at, if_neg (fun z => hk z.2)], rfl, ?_, ?_, fun k hk => absurd hk (by omega)⟩
  · rw [uI_at, if_pos ⟨rfl, rfl⟩]
    rfl
  · rw [uI_at, if_pos ⟨rfl, rfl⟩]
    rfl
theorem OuS.rel (h : OuS ν0 μ0 ν μ len) (hR : RelP n ν0 μ0) (hl : len ≤ 1400) : RelP n ν μ := by
  obtain ⟨hLd, hHi, ⟨li, l1, l2, l3, l4⟩, -, ⟨p1, p2⟩, hr⟩ := hR
  obtain ⟨h1, h2, h3, h4, h5, h6, h7⟩ := id h
  refine ⟨(h.cls hLd).cg (fun off _ _ => Eq3.rf ν off) h.e1 h.e3, hHi.cg (fun off g1 g2 => h1 off (by omega) (by omega) (by omega)) (h2 5 (by decide) (by decide)).1 (h2 6 (by decide) (by decide)).2.1 (h3 19 (by decide)), ⟨li, l1, ?_, ?_, fun k hk => ?_⟩, ⟨len, hl, h5, h6, h7⟩, ⟨?_, ?_⟩, ?_⟩
  · rw [(h1 1 (by decide) (by decide) (by decide)).1]; exact l2
  · rw [h3 6 (by decide)]; exact l3
  · rw [(h1 3 (by decide) (by decide) (by decide)).1, (h2 4 (by decide) (by decide)).1]; exact l4 k hk
  · rw [(h1 661 (by decide) (by decide) (by decide)).1, h3 12 (by decide)]; exact p1
  · rw [(h1 661 (by decide) (by decide) (by decide)).1, h3 13 (by decide)]; exact p2
  · rw [h4]; exact hr
theorem wr_sp (h : OuS ν0 μ0 ν μ len) (hl : len < 1400) : Wrs ν0 μ0 len 1 (g_X1_putText ν 4 32) (g_X12_write μ (32 : Int32)) := by
  have s := h.step (by8 (32 : Int32))
  refine ⟨_, _, len + 1, ?_, wr_le h.m (by omega), Nat.le_refl _, s⟩
  unfold g_X1_putText
  rw [asr_pos b4]
  show g_X1_putText_L2 ν 4 32 (9998 + 1 + 1) ν (nI 0) = _
  unfold g_X1_putText_L2
  rw [if_neg (by decide), asr_pos (show vp_in (nI 0) (slen 32) from vp_in_nI (by decide) (by decide)), show schar 32 (cl (nI 0)) = 32 from by decide, put4 h hl, bnd_s]
  unfold g_X1_putText_L2
  rw [if_pos (by decide)]
theorem wr_told {c D : Nat} (h : OuS ν0 μ0 ν μ len) (hD1 : 1 ≤ D) (hD : D ≤ 18) {v : Int64} (hv : -(10 ^ D : Nat) < v.toInt ∧ v.toInt < (10 ^ D : Nat)) (hl : len + (slen c + (D + 1)) ≤ 1400) : Wrs ν0 μ0 len (slen c + (D + 1)) (g_X8_wordAndNumber ν c v) (g_X12_writeTold μ c v) := by
  obtain ⟨ν1, μ1, l1, a1, a2, a3, a4⟩ := wr_txt (c := c) h (by omega)
  obtain ⟨ν2, μ2, l2, b1, b2, b3, b4⟩ := wr_num a4 hD1 hD hv (by omega)
  refine ⟨ν2, μ2, l2, ?_, ?_, by omega, b4⟩
  · unfold g_X8_wordAndNumber
    rw [a1, bnd_s, b1, bnd_s]
  · unfold g_X12_writeTold
    rw [a2, bnd_s, b2, bnd_s]
theorem wr_spn {D : Nat} (h : OuS ν0 μ0 ν μ len) (hD1 : 1 ≤ D) (hD : D ≤ 18) {v w : Int64} (hvw : v = w) (hv : -(10 ^ D : Nat) < v.toInt ∧ v.toInt < (10 ^ D : Nat)) (hl : len + (1 + (D + 1)) ≤ 1400) : ∃ ν' μa μ' l', g_X8_wordAndNumber ν 32 v = some ν' ∧ g_X12_write μ (32 : Int32) = some μa ∧ (∃ la, OuS ν0 μ0 ν' μ' l' ∧ OuS ν0 μ0 ν' μ' l' ∧ la = l') ∧ (μa.1 1 = μ0.1 1 ∧ μa.2 = μ0.2) ∧ g_X12_writeNumber μa w = some μ' ∧ l' ≤ len + (1 + (D + 1)) := by
  subst hvw
  obtain ⟨ν1, μ1, l1, a1, a2, a3, a4⟩ := wr_sp h (by omega)
  obtain ⟨ν2, μ2, l2, b1, b2, b3, b4⟩ := wr_num a4 hD1 hD hv (by omega)
  refine ⟨ν2, μ1, μ2, l2, ?_, a2, ⟨l2, b4, b4, rfl⟩, ⟨a4.e1, a4.2.2.2.1⟩, b2, by omega⟩
  unfold g_X8_wordAndNumber
  rw [a1, bnd_s, b1, bnd_s]
theorem wr_spp {D : Nat} (h : OuS ν0 μ0 ν μ len) (hD1 : 1 ≤ D) (hD : D ≤ 18) {v w : Int64} (hvw : v = w) (h0 : 0 ≤ v.toInt) (hv : v.toInt < (10 ^ D : Nat)) (hl : len + (1 + D) ≤ 1400) : ∃ ν' μa μ' l', g_X8_wordAndNumber ν 32 v = some ν' ∧ g_X12_write μ (32 : Int32) = some μa ∧ OuS ν0 μ0 ν' μ' l' ∧ (μa.1 1 = μ0.1 1 ∧ μa.2 = μ0.2) ∧ g_X12_writeNumber μa w = some μ' ∧ l' ≤ len + (1 + D) := by
  subst hvw
  obtain ⟨ν1, μ1, l1, a1, a2, a3, a4⟩ := wr_sp h (by omega)
  obtain ⟨ν2, μ2, l2, b1, b2, b3, b4⟩ := wr_nat a4 hD1 hD h0 hv (by omega)
  refine ⟨ν2, μ1, μ2, l2, ?_, a2, b4, ⟨a4.e1, a4.2.2.2.1⟩, b2, by omega⟩
  unfold g_X8_wordAndNumber
  rw [a1, bnd_s, b1, bnd_s]
end SH
section OB
variable {ν μ : Mm}
theorem open_b {N : Nat} (hL : LdR ν 7 (μ.1 1) (μ.2.1 3)) (hW : Wf (μ.1 1)) (hP : Pb N (μ.2.1 3)) (hN : N ≤ 512) {i : Nat} (hi : i < cl (μ.1 1 2)) : 0 ≤ (f_X12_openOf μ (nI i)).toInt ∧ (f_X12_openOf μ (nI i)).toInt ≤ 67108864 := by
  obtain ⟨h60, -⟩ := inv_at hL hW hi
  have c3 := (cl_of hW.1.2.2.1).2.2
  obtain ⟨b1, b2⟩ := net_b (μ := μ) hW h60
  have sb := ship_b hL hW hi
  obtain ⟨i1, i2, i3, i4, i5⟩ := ix_of (hi := 8) sb hW.1.1 (by decide)
  obtain ⟨p1, p2⟩ := hP _ i2
  obtain ⟨F, f1, f2, f3, f4⟩ := fu_loop (i := i) hL hW (cl (μ.1 1 2)) 0 (by omega) 10000 61 (by omega) (by omega) (μ.2.1 3 (cl (f_X12_shipOf μ (nI i)))) p1 (by omega)
  have z0 : ((0 : Int64)).toInt = 0 := rfl
  obtain ⟨y, lf, g1, g2, g3, g4, g5⟩ := cm_loop hL hW hi i 0 (by omega) 10000 61 (by omega) (by omega) 0 F F (by decide) (by decide) f3 f4 (by rw [z0]; omega)
  have m1 : f_X12_openOf μ (nI i) = _ := f2.trans g2
  rw [m1]
  have b3 : (imax (0 : Int32) (f_X12_netOf μ (nI i))).toInt = max 0 (f_X12_netOf μ (nI i)).toInt := by
    rw [imax_ti]
    rfl
  have e2 : (lmin lf (imax (0 : Int32) (f_X12_netOf μ (nI i))).toInt64).toInt = min lf.toInt (max 0 (f_X12_netOf μ (nI i)).toInt) := by
    rw [lmin_ti, ti_l, b3]
  have e3 : ((imax (0 : Int32) (f_X12_netOf μ (nI i))).toInt64 - lmin lf (imax (0 : Int32) (f_X12_netOf μ (nI i))).toInt64).toInt = max 0 (f_X12_netOf μ (nI i)).toInt - min lf.toInt (max 0 (f_X12_netOf μ (nI i)).toInt) := by
    rw [tl_sub (by rw [e2, ti_l, b3]; omega) (by rw [e2, ti_l, b3]; omega), e2, ti_l, b3]
  rw [Int64.toInt_toInt32, e3, bm32 (by omega) (by omega)]
  omega
theorem bal_b {N : Nat} (hL : LdR ν 7 (μ.1 1) (μ.2.1 3)) (hW : Wf (μ.1 1)) (hP : Pb N (μ.2.1 3)) (hN : N ≤ 512) {x : Int32} (ha : 0 ≤ x.toInt ∧ x.toInt < (μ.1 1 0).toInt) : -1000000000000 < (f_X12_balanceOf μ x).toInt ∧ (f_X12_balanceOf μ x).toInt < 1000000000000 := by
  obtain ⟨c1, c2, c3⟩ := cl_of hW.1.2.2.1
  have L : ∀ (d k : Nat), k + d = cl (μ.1 1 2) → ∀ m, d + 1 ≤ m → ∀ y : Int64, -1000000000000 < y.toInt - 67108864 * (d : Int) → y.toInt + 67108864 * (d : Int) < 1000000000000 → -1000000000000 < (f_X12_balanceOf_L11 μ x m y (nI k)).toInt ∧ (f_X12_balanceOf_L11 μ x m y (nI k)).toInt < 1000000000000 := by
    intro d
    induction d with
    | zero =>
      intro k hk m hm y h1 h2
      obtain ⟨m, rfl, -⟩ := succ_n hm
      unfold f_X12_balanceOf_L11
      rw [if_pos (by rw [le32, nI_toInt (by omega)]; omega)]
      exact ⟨by omega, by omega⟩
    | succ d ih =>
      intro k hk m hm y h1 h2
      obtain ⟨m, rfl, hm2⟩ := succ_n hm
      obtain ⟨b1, b2⟩ := net_b (μ := μ) hW (i := k) (by omega)
      unfold f_X12_balanceOf_L11
      rw [if_neg (by rw [le32, nI_toInt (by omega)]; omega), nI1]
      split
      · have e : (y + (f_X12_netOf μ (nI k)).toInt64).toInt = y.toInt + (f_X12_netOf μ (nI k)).toInt := by
          rw [tl_add (by rw [ti_l]; omega) (by rw [ti_l]; omega), ti_l]
        exact ih (k + 1) (by omega) m hm2 _ (by rw [e]; omega) (by rw [e]; omega)
      · rw [add0L]
        exact ih (k + 1) (by omega) m hm2 y (by omega) (by omega)
  obtain ⟨i1, i2, i3, i4, i5⟩ := ix_of (hi := 8) ha hW.1.1 (by decide)
  obtain ⟨p1, p2⟩ := hP _ i2
  have ng : (-(μ.2.1 3 (cl x))).toInt = -(μ.2.1 3 (cl x)).toInt := by
    rw [Int64.toInt_neg]
    exact bm64 (by omega) (by omega)
  unfold f_X12_balanceOf
  exact L (cl (μ.1 1 2)) 0 (by omega) 61 (by omega) _ (by rw [ng]; omega) (by rw [ng]; omega)
end OB
theorem st_loop {ν0 μ0 νa μa : Mm} {N : Nat} (hR : RelP N ν0 μ0) (hN : N ≤ 512) {a1 : Int32} (ha : 0 ≤ a1.toInt ∧ a1.toInt < (μ0.1 1 0).toInt) (ha8 : vp_in a1 8) : ∀ (d k : Nat), k + d = cl (μ0.1 1 2) → ∀ n m, d + 1 ≤ n → d + 1 ≤ m → ∀ {ν μ : Mm} {len : Nat}, OuS ν0 μ0 ν μ len → len + 22 * d + 14 ≤ 1400 → ∃ νf μf lf, g_X8_statement_L32 νa a1 n ν (nI k) = some νf ∧ g_X12_writeStatement_L32 μa a1 m μ (nI k) = some (nI lf, μf) ∧ OuS ν0 μ0 νf μf lf ∧ lf ≤ 1400 := by
  obtain ⟨hLd, -⟩ := id hR
  obtain ⟨hL0, hW0, hP0⟩ := id hLd
  obtain ⟨c1, c2, c3⟩ := cl_of hW0.1.2.2.1
  intro d
  induction d with
  | zero =>
    intro k hk n m hn hm ν μ len h hl
    obtain ⟨n, rfl, -⟩ := succ_n hn
    obtain ⟨m, rfl, -⟩ := succ_n hm
    obtain ⟨hL, hW, hP⟩ := h.cls hLd
    have g : (μ0.1 1 2) ≤ nI k := by rw [le32, nI_toInt (by omega)]; omega
    have hLm : LdR ν 7 (μ.1 1) (μ.2.1 3) := by rw [h.e1, h.e3]; exact hL
    have hWm : Wf (μ.1 1) := by rw [h.e1]; exact hW
    have hPm : Pb N (μ.2.1 3) := by rw [h.e3]; exact hP
    have ham : 0 ≤ a1.toInt ∧ a1.toInt < (μ.1 1 0).toInt := by rw [h.e1]; exact ha
    have bb := bal_b hLm hWm hPm hN ham
    obtain ⟨ν1, μ1, l1, a1', a2', a3', a4'⟩ := wr_num h (D := 12) (by decide) (by decide) (v := f_X12_balanceOf μ a1) bb (by omega)
    obtain ⟨ν2, μ2, l2, b1, b2, b3, b4⟩ := wr_put a4' (by omega) (x := (10 : Int32)) (y := (10 : Int32)) rfl
    refine ⟨ν2, μ2, l2, ?_, ?_, b4, by omega⟩
    · unfold g_X8_statement_L32
      rw [(sh_c hL).2.2.1, if_pos g, balance_of hLm hWm ham, bnd_s, a1', bnd_s, b1, bnd_s]
    · unfold g_X12_writeStatement_L32
      rw [show μ.1 1 2 = μ0.1 1 2 from by rw [h.e1], if_pos g, asr_pos (okR_of hWm), asr_pos ha8, bnd_s, a2', bnd_s, b2, bnd_s, b4.m]
  | succ d ih =>
    intro k hk n m hn hm ν μ len h hl
    obtain ⟨n, rfl, hn2⟩ := succ_n hn
    obtain ⟨m, rfl, hm2⟩ := succ_n hm
    obtain ⟨hL, hW, hP⟩ := h.cls hLd
    have hlt : k < cl (μ0.1 1 2) := by omega
    have hk60 : k < 60 := by omega
    have g : ¬ (μ0.1 1 2) ≤ nI k := by rw [le32, nI_toInt (by omega)]; omega
    have hLm : LdR ν 7 (μ.1 1) (μ.2.1 3) := by rw [h.e1, h.e3]; exact hL
    have hWm : Wf (μ.1 1) := by rw [h.e1]; exact hW
    have so := shipOf_of hLm hWm (i := k) (by rw [h.e1]; exact hlt)
    by_cases q : f_X12_shipOf μ (nI k) = a1
    · have kl : (nI k).toInt64.toInt = (k : Int) := by rw [ti_l, nI_toInt (by omega)]
      obtain ⟨ν1, μ1, l1, x1, x2, x3, x4⟩ := wr_nat h (D := 2) (by decide) (by decide) (v := (nI k).toInt64) (by rw [kl]; omega) (by rw [kl]; show (k : Int) < 100; omega) (by omega)
      obtain ⟨hL1, hW1, hP1⟩ := x4.cls hLd
      -- the net
      have nb0 := net_b (μ := μ0) hW0 hk60
      have cn := net_of (μ := μ0) hL1 hW0 hlt
      obtain ⟨ν2, μa2, μ2, l2, y1, y2, ⟨-, y3, -, -⟩, ⟨ya, yb⟩, y4, y5⟩ := wr_spn x4 (D := 8) (by decide) (by decide) (v := (f_X12_netOf μ0 (nI k)).toInt64) rfl (by rw [ti_l]; show -100000000 < _ ∧ _ < (100000000 : Int); omega) (by omega)
      obtain ⟨hL2, hW2, hP2⟩ := y3.cls hLd
      have ma : f_X12_netOf μa2 (nI k) = f_X12_netOf μ0 (nI k) := Option.some.inj ((net_of (μ := μa2) (p := μ0.2.1 3) (by rw [ya]; exact hL1) (by rw [ya]; exact hW0) (by rw [ya]; exact hlt)).symm.trans cn)
      -- what is open
      have co := open_of (μ := μ0) hL2 hW0 hP0 hN hlt
      have ob := open_b (μ := μ0) hL2 hW0 hP0 hN hlt
      obtain ⟨ν3, μa3, μ3, l3, z1, z2, z3, ⟨za, zb⟩, z4, z5⟩ := wr_spp y3 (D := 8) (by decide) (by decide) (v := (f_X12_openOf μ0 (nI k)).toInt64) rfl (by rw [ti_l]; exact ob.1) (by rw [ti_l]; show _ < (100000000 : Int); omega) (by omega)
      have mo : f_X12_openOf μa3 (nI k) = f_X12_openOf μ0 (nI k) := Option.some.inj ((open_of (μ := μa3) (N := N) (by rw [za, zb]; exact hL2) (by rw [za]; exact hW0) (by rw [zb]; exact hP0) hN (by rw [za]; exact hlt)).symm.trans co)
      obtain ⟨ν4, μ4, l4, w1, w2, w3, w4⟩ := wr_put z3 (by omega) (x := (10 : Int32)) (y := (10 : Int32)) rfl
      obtain ⟨νf, μf, lf, f1, f2, f3, f4⟩ := ih (k + 1) (by omega) n m hn2 hm2 w4 (by omega)
      refine ⟨νf, μf, lf, ?_, ?_, f3, f4⟩
      · unfold g_X8_statement_L32
        rw [(sh_c hL).2.2.1, if_neg g, so, bnd_s, if_pos q, x1, bnd_s, asr_pos (vp_in_nI hk60 (by decide)), cl_nI (by omega), cn, bnd_s, y1, bnd_s, co, bnd_s, z1, bnd_s, w1, bnd_s, nI1]
        exact f1
      · unfold g_X12_writeStatement_L32
        rw [show μ.1 1 2 = μ0.1 1 2 from by rw [h.e1], if_neg g, asr_pos (okR_of hWm), asr_pos (vp_in_nI hk60 (by decide)), bnd_s, if_pos q]
        unfold g_X12_writeShort
        rw [x2, bnd_s, y2, bnd_s, asr_pos (show OkR (μa2.1 1) by rw [ya]; exact okR_of hW0), asr_pos (vp_in_nI hk60 (by decide)), bnd_s, ma, y4, bnd_s, z2, bnd_s, asr_pos (show OkR (μa3.1 1) by rw [za]; exact okR_of hW0), bnd_s, mo, z4, bnd_s, w2, bnd_s, bnd_s, nI1]
        exact f2
    · obtain ⟨νf, μf, lf, f1, f2, f3, f4⟩ := ih (k + 1) (by omega) n m hn2 hm2 h (by omega)
      refine ⟨νf, μf, lf, ?_, ?_, f3, f4⟩
      · unfold g_X8_statement_L32
        rw [(sh_c hL).2.2.1, if_neg g, so, bnd_s, if_neg q, nI1]
        exact f1
      · unfold g_X12_writeStatement_L32
        rw [show μ.1 1 2 = μ0.1 1 2 from by rw [h.e1], if_neg g, asr_pos (okR_of hWm), asr_pos (vp_in_nI hk60 (by decide)), bnd_s, if_neg q, nI1]
        exact f2
theorem s59 : Sm_59 RelP := by
  intro n ν μ hn hR a1
  obtain ⟨⟨hL, hW, hP⟩, -⟩ := id hR
  have e0 := (sh_c hL).1
  by_cases h : 0 ≤ a1.toInt ∧ a1.toInt < (μ.1 1 0).toInt
  · obtain ⟨i1, i2, i3, i4, i5⟩ := ix_of (hi := 8) h hW.1.1 (by decide)
    have hR0 := hR.th0 0
    have c3 := (cl_of hW.1.2.2.1).2.2
    have s0 := OuS.ini ν (uI μ 0 0 0)
    have hN := (hL.2.1 _ i1).2.2
    obtain ⟨ν1, μ1, l1, x1, x2, x3, x4⟩ := wr_nm s0 (mk_Ship led7 i2) i2 hN (by omega)
    obtain ⟨ν2, μ2, l2, y1, y2, y3, y4⟩ := wr_put x4 (by omega) (x := (10 : Int32)) (y := (10 : Int32)) rfl
    obtain ⟨νf, μf, lf, f1, f2, f3, f4⟩ := st_loop (νa := ν) (μa := μ) hR0 (by omega) (a1 := a1) h i3 (cl (μ.1 1 2)) 0 (Nat.zero_add _) 10000 10000 (by omega) (by omega) y4 (by omega)
    refine wo_ok (v := nI lf) ((f3.rel hR0 f4).mono (Nat.le_succ n)) ?_ ?_ ?_
    · rw [f3.2.2.1 0 (by decide)]
      rfl
    · unfold g_X11_writeStatement
      rw [rqS, e0, if_pos h, bnd_s, bnx_ok]
      unfold g_X8_statement
      rw [bnd_s, asr_pos i3, x1, bnd_s, y1, bnd_s, show g_X8_statement_L32 ν a1 10000 ν2 (0 : Int32) = some νf from f1, bnd_s, f3.l]
    · unfold g_X12_writeStatement
      rw [bnd_s, bnd_s, isShip_eq hW, decide_eq_true h, show f_X12_passes μ true = (true, uI μ 0 0 0) from rfl, if_pos rfl, bnd_s]
      have x2' := x2
      rw [← i4] at x2'
      rw [show g_X12_writeName (uI (true, uI μ 0 0 0).2 0 21 0) a1 = some μ1 from x2', bnd_s, y2, bnd_s]
      exact f2
  · refine wo_er 1 1 hR ?_ ?_ rfl rfl (by decide)
    · unfold g_X11_writeStatement
      rw [rqS, e0, if_neg h]
      rfl
    · unfold g_X12_writeStatement
      rw [bnd_s, bnd_s, isShip_eq hW, pz1, decide_eq_false h]
      rfl
