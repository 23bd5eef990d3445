/-! PURE. Bits of days. -/
theorem ti_bv (x : Int32) : x.toInt = if 2 * x.toBitVec.toNat < 4294967296 then (x.toBitVec.toNat : Int) else (x.toBitVec.toNat : Int) - 4294967296 := by
  show x.toBitVec.toInt = _
  rw [BitVec.toInt_eq_toNat_cond]
  rfl
theorem rg_bv {x : Int32} : rg x 0 1073741823 ↔ x.toBitVec.toNat < 2 ^ 30 := by
  have h := ti_bv x
  have hl : x.toBitVec.toNat < 2 ^ 32 := x.toBitVec.isLt
  unfold rg
  rw [h]
  split
  · omega
  · omega
theorem and_lsb (x y : Int32) (i : Nat) : (x &&& y).toBitVec.getLsbD i = (x.toBitVec.getLsbD i && y.toBitVec.getLsbD i) := by
  show (x.toBitVec &&& y.toBitVec).getLsbD i = _
  rw [BitVec.getLsbD_and]
theorem or_lsb (x y : Int32) (i : Nat) : (x ||| y).toBitVec.getLsbD i = (x.toBitVec.getLsbD i || y.toBitVec.getLsbD i) := by
  show (x.toBitVec ||| y.toBitVec).getLsbD i = _
  rw [BitVec.getLsbD_or]
theorem ex_lsb {x y : Int32} (h : ∀ i, i < 32 → x.toBitVec.getLsbD i = y.toBitVec.getLsbD i) : x = y := Int32.toBitVec_inj.mp (BitVec.eq_of_getLsbD_eq h)
theorem z_lsb (i : Nat) : (0 : Int32).toBitVec.getLsbD i = false := by
  show (0#32).getLsbD i = false
  simp
theorem bit_tab : ∀ d : Fin 30, ((1 : Int32) <<< (nI d.val &&& 31)).toBitVec.toNat = 2 ^ d.val := by decide +kernel
theorem bit_lsb {d : Nat} (hd : d < 30) (i : Nat) : ((1 : Int32) <<< (nI d &&& 31)).toBitVec.getLsbD i = decide (d = i) := by
  show Nat.testBit ((1 : Int32) <<< (nI d &&& 31)).toBitVec.toNat i = _
  rw [bit_tab ⟨d, hd⟩, Nat.testBit_two_pow]
theorem nbit_lsb {d : Nat} (hd : d < 30) {i : Nat} (hi : i < 32) : (((1 : Int32) <<< (nI d &&& 31)) ^^^ (-1 : Int32)).toBitVec.getLsbD i = !decide (d = i) := by
  rw [not_x]
  show (~~~((1 : Int32) <<< (nI d &&& 31)).toBitVec).getLsbD i = _
  rw [BitVec.getLsbD_not, bit_lsb hd]
  simp [hi]
theorem rg_or {x y : Int32} (hx : rg x 0 1073741823) (hy : rg y 0 1073741823) : rg (x ||| y) 0 1073741823 := by
  rw [rg_bv] at *
  show (x.toBitVec ||| y.toBitVec).toNat < 2 ^ 30
  rw [BitVec.toNat_or]
  exact Nat.or_lt_two_pow hx hy
theorem rg_and {x : Int32} (y : Int32) (hx : rg x 0 1073741823) : rg (x &&& y) 0 1073741823 := by
  rw [rg_bv] at *
  show (x.toBitVec &&& y.toBitVec).toNat < 2 ^ 30
  rw [BitVec.toNat_and]
  exact Nat.lt_of_le_of_lt Nat.and_le_left hx
theorem rg_bit {d : Nat} (hd : d < 30) : rg ((1 : Int32) <<< (nI d &&& 31)) 0 1073741823 := by
  rw [rg_bv, bit_tab ⟨d, hd⟩]
  exact Nat.pow_lt_pow_right (by decide) hd
/-- a day that is not in u is put to p -/
theorem dis_or {p u : Int32} {d : Nat} (hd : d < 30) (h : p &&& u = 0) (hu : f_X12_has u (nI d) = false) : (p ||| ((1 : Int32) <<< (nI d &&& 31))) &&& u = 0 := by
  refine ex_lsb fun i hi => ?_
  have h1 : (p &&& u).toBitVec.getLsbD i = false := by rw [h, z_lsb]
  rw [has_bit _ (by omega)] at hu
  rw [and_lsb] at h1
  rw [and_lsb, or_lsb, bit_lsb hd, z_lsb]
  by_cases e : d = i
  · rw [← e, hu, Bool.and_false]
  · rw [decide_eq_false e, Bool.or_false]
    exact h1
theorem dis_an {p u : Int32} {d : Nat} (h : p &&& u = 0) : (p &&& (((1 : Int32) <<< (nI d &&& 31)) ^^^ (-1 : Int32))) &&& u = 0 := by
  refine ex_lsb fun i hi => ?_
  have h1 : (p &&& u).toBitVec.getLsbD i = false := by rw [h, z_lsb]
  rw [and_lsb] at h1
  rw [and_lsb, and_lsb, z_lsb]
  cases hp : p.toBitVec.getLsbD i <;> cases hu : u.toBitVec.getLsbD i <;> rw [hp, hu] at h1 <;> first | rfl | (rw [Bool.and_false]) | exact absurd h1 (by decide)
theorem dis_mv {p u : Int32} {d : Nat} (hd : d < 30) (h : p &&& u = 0) : (p &&& (((1 : Int32) <<< (nI d &&& 31)) ^^^ (-1 : Int32))) &&& (u ||| ((1 : Int32) <<< (nI d &&& 31))) = 0 := by
  refine ex_lsb fun i hi => ?_
  have h1 : (p &&& u).toBitVec.getLsbD i = false := by rw [h, z_lsb]
  rw [and_lsb] at h1
  rw [and_lsb, and_lsb, or_lsb, z_lsb, bit_lsb hd, nbit_lsb hd hi]
  cases hp : p.toBitVec.getLsbD i <;> cases hu : u.toBitVec.getLsbD i <;> rw [hp, hu] at h1 <;> cases decide (d = i) <;> first | rfl | (cases h1)
theorem has_or (x y : Int32) {j : Nat} (hj : j < 32) : f_X12_has (x ||| y) (nI j) = (f_X12_has x (nI j) || f_X12_has y (nI j)) := by
  rw [has_bit _ hj, has_bit _ hj, has_bit _ hj, or_lsb]
/-! PURE. dispute, settle. -/
theorem setCall_of {μ : Mm} {x k v : Int32} {c j : Nat} (hx : x = nI c) (hk : k = nI j) (hc : c ≤ 40) (hj : j < 7) : g_X12_setCall μ x k v = some (uI μ 1 (330 + 7 * c + j) v) := by
  unfold g_X12_setCall
  rw [hk, show ((330 : Int32) + ((7 : Int32) * x)) + nI j = nI (330 + 7 * c + j) from ix_m hx 330 7 j, asr_pos (vp_in_nI (by omega) (by decide)), bnd_s, cl_nI (by omega)]
theorem isDay_eq {μ : Mm} (s d : Int32) : f_X12_isDayIn μ s d = (decide (0 ≤ d.toInt ∧ d.toInt ≤ 29) && f_X12_has s d) := by
  unfold f_X12_isDayIn
  rw [show f_X12_in d.toInt64 (0 : Int64) (29 : Int64) = decide (0 ≤ d.toInt ∧ d.toInt ≤ 29) from inX_eq]
  cases decide (0 ≤ d.toInt ∧ d.toInt ≤ 29) <;> cases f_X12_has s d <;> rfl
theorem s50 : Sm_50 RelP := by
  intro n ν μ hn hR a1 a2
  obtain ⟨⟨hL, hW, hP⟩, -⟩ := id hR
  have e0 := (sh_c hL).2.1
  by_cases h : 0 ≤ a1.toInt ∧ a1.toInt < (μ.1 1 1).toInt
  · obtain ⟨i1, i2, i3, i4, i5⟩ := ix_of (hi := 40) h hW.1.2.1 (by decide)
    have g0 : ∀ z, bnd (g_X11_requireCall ν a1) z = (z (.ok ()) : Option (Thr (Int32 × Mm))) := fun z => by rw [rqC, e0, if_pos h, bnd_s]
    have m41 : vp_in a1 41 := by rw [i4]; exact vp_in_nI (by omega) (by decide)
    have lay := layDays_of hL hW h
    have con := cont_of hL hW h
    have w4 := (hW.2.2.2.2.2.2.2.2.2.1 (cl a1) (by omega)).2.2.2.2.1
    have c4 := (call_at hL hW h).2.2.2.1 4 (by decide)
    have o4 : f_X12_ofCall μ a1 (4 : Int32) = μ.1 1 (330 + 7 * cl a1 + 4) := rfl
    by_cases h2 : 0 ≤ a2.toInt ∧ a2.toInt ≤ 29
    · obtain ⟨d, hd, ed, -⟩ := sm_of (hi := 29) h2 (by decide)
      cases hl : f_X12_has (f_X12_laySet μ a1) a2 with
      | true =>
        by_cases hb : f_X12_has (f_X12_contestedSet μ a1) a2 = false ∧ μ.1 1 (330 + 7 * cl a1 + 4) = 0
        · obtain ⟨hb1, hb2⟩ := hb
          obtain ⟨ν1, μ1, s1, s2, s3, s4, s5, s6⟩ := save_of (hR.th0 0)
          have ef : μ1.1 1 = μ.1 1 := (s5 1 (by decide) (by decide) (by decide)).1
          have hc1 : cl a1 < cl (μ1.1 1 1) := by rw [ef]; exact i1
          obtain ⟨hL1, hW1, hP1⟩ := s3.1
          obtain ⟨q0, q1, q2, q3, q4, q5, q6, q7⟩ := hW1.2.2.2.2.2.2.2.2.2.1 (cl a1) (by omega)
          have hb3 : f_X12_has (μ1.1 1 (330 + 7 * cl a1 + 6)) (nI d) = false := by
            rw [ef, ← ed]
            rw [ed] at hb1 ⊢
            have hb4 : f_X12_has (μ.1 1 (330 + 7 * cl a1 + 5) ||| μ.1 1 (330 + 7 * cl a1 + 6)) (nI d) = false := hb1
            rw [has_or _ _ (by omega)] at hb4
            exact (Bool.or_eq_false_iff.mp hb4).2
          have hr := cell_call s3 hc1 (j := 5) (v := μ1.1 1 (330 + 7 * cl a1 + 5) ||| ((1 : Int32) <<< (a2 &&& 31))) (by decide) (by decide) (fun e => absurd e (by decide)) (fun e => absurd e (by decide)) (fun _ => by rw [ed]; exact ⟨rg_or q5 (rg_bit (by omega)), dis_or (by omega) q7 hb3⟩) (fun e => absurd e (by decide))
          refine wo_ok (v := f_X12_bits (μ1.1 1 (330 + 7 * cl a1 + 5) ||| ((1 : Int32) <<< (a2 &&& 31)))) (hr.mono (Nat.le_succ n)) ?_ ?_ ?_
          · rw [uI_at, if_neg (fun z => absurd z.1 (by decide)), s6 0 (by decide)]
            rfl
          · unfold g_X11_dispute
            rw [g0, bnx_ok, rqR]
            show bnd (some (if 0 ≤ a2.toInt ∧ a2.toInt ≤ 29 then _ else _)) _ = _
            rw [if_pos h2, bnd_s, bnx_ok, lay, bnd_s, contains_eq, bnd_s, hl]
            unfold g_X11_requireArgument
            rw [if_pos rfl, bnd_s, bnx_ok, asr_pos i3, c4, if_pos hb2, con, bnd_s, contains_eq, bnd_s, hb1, if_neg (by decide)]
            unfold g_X11_dispute_J60 g_X11_requireState
            rw [if_pos rfl, bnd_s, bnx_ok, s1, bnd_s, bnd_s, hL1.2.2.1 (cl a1) hc1 5 (by decide), uI_at, if_pos ⟨rfl, rfl⟩, bitCount_eq, bnd_s]
          · unfold g_X12_dispute
            rw [bnd_s, isCall_eq hW, decide_eq_true h, if_pos rfl, asr_pos (okR_of hW), asr_pos m41, bnd_s, bnd_s, isDay_eq, decide_eq_true h2, hl, if_pos (by rfl)]
            unfold g_X12_dispute_J28
            rw [if_pos rfl, asr_pos m41, bnd_s, bnd_s, hb1, if_neg (by decide), bnd_s, o4, if_pos hb2]
            unfold g_X12_dispute_J65
            rw [bnd_s, pz3]
            show bnd (g_X12_remember (uI μ 0 0 0)) _ = _
            rw [s2, bnd_s, asr_pos m41, bnd_s, setCall_of (j := 5) (k := (5 : Int32)) i4 rfl (by omega) (by decide), bnd_s, bnd_s, bnd_s]
            have e5 : f_X12_ofCall (uI μ1 1 (330 + 7 * cl a1 + 5) (f_X12_ofCall μ1 a1 (5 : Int32) ||| ((1 : Int32) <<< (a2 &&& 31)))) a1 (5 : Int32) = f_X12_ofCall μ1 a1 (5 : Int32) ||| ((1 : Int32) <<< (a2 &&& 31)) := by
              show (uI μ1 1 (330 + 7 * cl a1 + 5) _).1 1 (330 + 7 * cl a1 + 5) = _
              rw [uI_at, if_pos ⟨rfl, rfl⟩]
            rw [e5]
            rfl
        · refine wo_er 3 3 hR ?_ ?_ (by simp) rfl (by decide)
          · unfold g_X11_dispute
            rw [g0, bnx_ok, rqR]
            show bnd (some (if 0 ≤ a2.toInt ∧ a2.toInt ≤ 29 then _ else _)) _ = _
            rw [if_pos h2, bnd_s, bnx_ok, lay, bnd_s, contains_eq, bnd_s, hl]
            unfold g_X11_requireArgument
            rw [if_pos rfl, bnd_s, bnx_ok, asr_pos i3, c4, con, bnd_s, contains_eq, bnd_s]
            by_cases hb2 : μ.1 1 (330 + 7 * cl a1 + 4) = 0
            · rw [if_pos hb2]
              cases hb1 : f_X12_has (f_X12_contestedSet μ a1) a2 with
              | true => rfl
              | false => exact absurd ⟨hb1, hb2⟩ hb
            · rw [if_neg hb2]
              rfl
          · unfold g_X12_dispute
            rw [bnd_s, isCall_eq hW, decide_eq_true h, if_pos rfl, asr_pos (okR_of hW), asr_pos m41, bnd_s, bnd_s, isDay_eq, decide_eq_true h2, hl, if_pos (by rfl)]
            unfold g_X12_dispute_J28
            rw [if_pos rfl, asr_pos m41, bnd_s, bnd_s, bnd_s, o4]
            cases hb1 : f_X12_has (f_X12_contestedSet μ a1) a2 with
            | true =>
              rw [if_pos rfl]
              rfl
            | false =>
              rw [if_neg (by decide), if_neg (fun z => hb ⟨hb1, z⟩)]
              rfl
      | false =>
        refine wo_er 2 2 hR ?_ ?_ (by simp) rfl (by decide)
        · unfold g_X11_dispute
          rw [g0, bnx_ok, rqR]
          show bnd (some (if 0 ≤ a2.toInt ∧ a2.toInt ≤ 29 then _ else _)) _ = _
          rw [if_pos h2, bnd_s, bnx_ok, lay, bnd_s, contains_eq, bnd_s, hl]
          rfl
        · unfold g_X12_dispute
          rw [bnd_s, isCall_eq hW, decide_eq_true h, if_pos rfl, asr_pos (okR_of hW), asr_pos m41, bnd_s, bnd_s, isDay_eq, decide_eq_true h2, hl]
          rfl
    · refine wo_er 2 2 hR ?_ ?_ (by simp) rfl (by decide)
      · unfold g_X11_dispute
        rw [g0, bnx_ok, rqR]
        show bnd (some (if 0 ≤ a2.toInt ∧ a2.toInt ≤ 29 then _ else _)) _ = _
        rw [if_neg h2]
        rfl
      · unfold g_X12_dispute
        rw [bnd_s, isCall_eq hW, decide_eq_true h, if_pos rfl, asr_pos (okR_of hW), asr_pos m41, bnd_s, bnd_s, isDay_eq, decide_eq_false h2]
        rfl
  · refine wo_er 1 1 hR ?_ ?_ (by simp) rfl (by decide)
    · unfold g_X11_dispute
      rw [rqC, e0, if_neg h]
      rfl
    · unfold g_X12_dispute
      rw [bnd_s, isCall_eq hW, decide_eq_false h]
      rfl
theorem s51t : Sm_51t RelP := by
  intro n ν μ hn hR a1 a2
  obtain ⟨⟨hL, hW, hP⟩, -⟩ := id hR
  have e0 := (sh_c hL).2.1
  have z30 : ((30 : Int32)).toInt = 30 := rfl
  by_cases h : 0 ≤ a1.toInt ∧ a1.toInt < (μ.1 1 1).toInt
  · obtain ⟨i1, i2, i3, i4, i5⟩ := ix_of (hi := 40) h hW.1.2.1 (by decide)
    have g0 : ∀ z, bnd (g_X11_requireCall ν a1) z = (z (.ok ()) : Option (Thr (Int32 × Mm))) := fun z => by rw [rqC, e0, if_pos h, bnd_s]
    have m41 : vp_in a1 41 := by rw [i4]; exact vp_in_nI (by omega) (by decide)
    have c5 := (call_at hL hW h).2.2.2.1 5 (by decide)
    have o5 : f_X12_ofCall μ a1 (5 : Int32) = μ.1 1 (330 + 7 * cl a1 + 5) := rfl
    by_cases h2 : (0 ≤ a2.toInt ∧ a2.toInt ≤ 29) ∧ f_X12_has (μ.1 1 (330 + 7 * cl a1 + 5)) a2 = true
    · obtain ⟨h2, hb⟩ := h2
      obtain ⟨d, hd, ed, -⟩ := sm_of (hi := 29) h2 (by decide)
      obtain ⟨ν1, μ1, s1, s2, s3, s4, s5, s6⟩ := save_of (hR.th0 0)
      have ef : μ1.1 1 = μ.1 1 := (s5 1 (by decide) (by decide) (by decide)).1
      have hc1 : cl a1 < cl (μ1.1 1 1) := by rw [ef]; exact i1
      obtain ⟨hL1, hW1, hP1⟩ := s3.1
      obtain ⟨q0, q1, q2, q3, q4, q5, q6, q7⟩ := hW1.2.2.2.2.2.2.2.2.2.1 (cl a1) (by omega)
      have hr0 := cell_call s3 hc1 (j := 5) (v := μ1.1 1 (330 + 7 * cl a1 + 5) &&& (((1 : Int32) <<< (a2 &&& 31)) ^^^ (-1 : Int32))) (by decide) (by decide) (fun e => absurd e (by decide)) (fun e => absurd e (by decide)) (fun _ => by rw [ed]; exact ⟨rg_and _ q5, dis_an q7⟩) (fun e => absurd e (by decide))
      have hr := cell_call (c := cl a1) hr0 (by rw [uI_at, if_neg (fun z => absurd z.2 (by omega))]; exact hc1) (j := 6) (v := μ1.1 1 (330 + 7 * cl a1 + 6) ||| ((1 : Int32) <<< (a2 &&& 31))) (by decide) (by decide) (fun e => absurd e (by decide)) (fun e => absurd e (by decide)) (fun e => absurd e (by decide)) (fun _ => by
        rw [ed, uI_at, if_pos ⟨rfl, rfl⟩]
        exact ⟨rg_or q6 (rg_bit (by omega)), dis_mv (by omega) q7⟩)
      refine wo_ok (v := f_X12_bits (μ1.1 1 (330 + 7 * cl a1 + 5) &&& (((1 : Int32) <<< (a2 &&& 31)) ^^^ (-1 : Int32)))) (hr.mono (Nat.le_succ n)) ?_ ?_ ?_
      · rw [uI_at, if_neg (fun z => absurd z.1 (by decide)), uI_at, if_neg (fun z => absurd z.1 (by decide)), s6 0 (by decide)]
        rfl
      · unfold g_X11_settle
        rw [g0, bnx_ok, asr_pos i3, if_neg (by rw [lt32]; show ¬ a2.toInt < 0; omega), if_neg (by rw [le32, z30]; omega), c5, contains_eq, bnd_s, hb, if_pos rfl]
        unfold g_X11_settle_J43 g_X11_requireState
        rw [if_pos rfl, bnd_s, bnx_ok, s1, bnd_s, bnd_s, hL1.2.2.1 (cl a1) hc1 5 (by decide), if_pos rfl, bnd_s]
        have e6c : ∀ w : Int32, (uI ν1 (7 + (22 + cl a1)) 5 w).1 (7 + (22 + cl a1)) 6 = μ1.1 1 (330 + 7 * cl a1 + 6) := fun w => by
          rw [uI_at, if_neg (fun z => absurd z.2 (by decide))]
          exact hL1.2.2.1 (cl a1) hc1 6 (by decide)
        have e5c : ∀ w u : Int32, (uI (uI ν1 (7 + (22 + cl a1)) 5 w) (7 + (22 + cl a1)) 6 u).1 (7 + (22 + cl a1)) 5 = w := fun w u => by
          rw [uI_at, if_neg (fun z => absurd z.2 (by decide)), uI_at, if_pos ⟨rfl, rfl⟩]
        rw [e6c, e5c, bitCount_eq, bnd_s]
      · unfold g_X12_settle
        rw [bnd_s, bnd_s, isCall_eq hW, decide_eq_true h, if_pos rfl, asr_pos m41, bnd_s, bnd_s, o5, isDay_eq, decide_eq_true h2, hb, if_pos (by rfl)]
        unfold g_X12_settle_J28 g_X12_settle_J33
        rw [bnd_s, pz2]
        show bnd (g_X12_remember (uI μ 0 0 0)) _ = _
        rw [s2, bnd_s, asr_pos m41, bnd_s, setCall_of (j := 5) (k := (5 : Int32)) i4 rfl (by omega) (by decide), bnd_s, if_pos rfl, bnd_s, setCall_of (j := 6) (k := (6 : Int32)) i4 rfl (by omega) (by decide), bnd_s, bnd_s, bnd_s]
        have e6 : f_X12_ofCall (uI μ1 1 (330 + 7 * cl a1 + 5) (f_X12_ofCall μ1 a1 (5 : Int32) &&& (((1 : Int32) <<< (a2 &&& 31)) ^^^ (-1 : Int32)))) a1 (6 : Int32) = μ1.1 1 (330 + 7 * cl a1 + 6) := by
          show (uI μ1 1 (330 + 7 * cl a1 + 5) _).1 1 (330 + 7 * cl a1 + 6) = _
          rw [uI_at, if_neg (fun z => absurd z.2 (by omega))]
        rw [e6]
        have e5 : ∀ w : Int32, f_X12_ofCall (uI (uI μ1 1 (330 + 7 * cl a1 + 5) (f_X12_ofCall μ1 a1 (5 : Int32) &&& (((1 : Int32) <<< (a2 &&& 31)) ^^^ (-1 : Int32)))) 1 (330 + 7 * cl a1 + 6) w) a1 (5 : Int32) = f_X12_ofCall μ1 a1 (5 : Int32) &&& (((1 : Int32) <<< (a2 &&& 31)) ^^^ (-1 : Int32)) := fun w => by
          show (uI (uI μ1 1 (330 + 7 * cl a1 + 5) _) 1 (330 + 7 * cl a1 + 6) w).1 1 (330 + 7 * cl a1 + 5) = _
          rw [uI_at, if_neg (fun z => absurd z.2 (by omega)), uI_at, if_pos ⟨rfl, rfl⟩]
        rw [e5]
        rfl
    · refine wo_er 3 2 hR ?_ ?_ (by simp) rfl (by decide)
      · unfold g_X11_settle
        rw [g0, bnx_ok, asr_pos i3]
        by_cases h3 : a2 < 0
        · rw [if_pos h3]
          rfl
        · rw [if_neg h3]
          by_cases h4 : (30 : Int32) ≤ a2
          · rw [if_pos h4]
            rfl
          · rw [if_neg h4, c5, contains_eq, bnd_s, if_neg (fun z => h2 ⟨⟨by rw [lt32] at h3; exact Int.not_lt.mp h3, by rw [le32, z30] at h4; omega⟩, z⟩)]
            rfl
      · unfold g_X12_settle
        rw [bnd_s, bnd_s, isCall_eq hW, decide_eq_true h, if_pos rfl, asr_pos m41, bnd_s, bnd_s, o5, isDay_eq, if_neg (fun z => h2 ⟨of_decide_eq_true (Bool.and_eq_true_iff.mp z).1, (Bool.and_eq_true_iff.mp z).2⟩)]
        rfl
  · refine wo_er 1 1 hR ?_ ?_ (by simp) rfl (by decide)
    · unfold g_X11_settle
      rw [rqC, e0, if_neg h]
      rfl
    · unfold g_X12_settle
      rw [bnd_s, bnd_s, isCall_eq hW, decide_eq_false h]
      rfl
theorem s51f : Sm_51f RelP := by
  intro n ν μ hn hR a1 a2
  obtain ⟨⟨hL, hW, hP⟩, -⟩ := id hR
  have e0 := (sh_c hL).2.1
  have z30 : ((30 : Int32)).toInt = 30 := rfl
  by_cases h : 0 ≤ a1.toInt ∧ a1.toInt < (μ.1 1 1).toInt
  · obtain ⟨i1, i2, i3, i4, i5⟩ := ix_of (hi := 40) h hW.1.2.1 (by decide)
    have g0 : ∀ z, bnd (g_X11_requireCall ν a1) z = (z (.ok ()) : Option (Thr (Int32 × Mm))) := fun z => by rw [rqC, e0, if_pos h, bnd_s]
    have m41 : vp_in a1 41 := by rw [i4]; exact vp_in_nI (by omega) (by decide)
    have c5 := (call_at hL hW h).2.2.2.1 5 (by decide)
    have o5 : f_X12_ofCall μ a1 (5 : Int32) = μ.1 1 (330 + 7 * cl a1 + 5) := rfl
    by_cases h2 : (0 ≤ a2.toInt ∧ a2.toInt ≤ 29) ∧ f_X12_has (μ.1 1 (330 + 7 * cl a1 + 5)) a2 = true
    · obtain ⟨h2, hb⟩ := h2
      obtain ⟨d, hd, ed, -⟩ := sm_of (hi := 29) h2 (by decide)
      obtain ⟨ν1, μ1, s1, s2, s3, s4, s5, s6⟩ := save_of (hR.th0 0)
      have ef : μ1.1 1 = μ.1 1 := (s5 1 (by decide) (by decide) (by decide)).1
      have hc1 : cl a1 < cl (μ1.1 1 1) := by rw [ef]; exact i1
      obtain ⟨hL1, hW1, hP1⟩ := s3.1
      obtain ⟨q0, q1, q2, q3, q4, q5, q6, q7⟩ := hW1.2.2.2.2.2.2.2.2.2.1 (cl a1) (by omega)
      have hr := cell_call s3 hc1 (j := 5) (v := μ1.1 1 (330 + 7 * cl a1 + 5) &&& (((1 : Int32) <<< (a2 &&& 31)) ^^^ (-1 : Int32))) (by decide) (by decide) (fun e => absurd e (by decide)) (fun e => absurd e (by decide)) (fun _ => by rw [ed]; exact ⟨rg_and _ q5, dis_an q7⟩) (fun e => absurd e (by decide))
      refine wo_ok (v := f_X12_bits (μ1.1 1 (330 + 7 * cl a1 + 5) &&& (((1 : Int32) <<< (a2 &&& 31)) ^^^ (-1 : Int32)))) (hr.mono (Nat.le_succ n)) ?_ ?_ ?_
      · rw [uI_at, if_neg (fun z => absurd z.1 (by decide)), s6 0 (by decide)]
        rfl
      · unfold g_X11_settle
        rw [g0, bnx_ok, asr_pos i3, if_neg (by rw [lt32]; show ¬ a2.toInt < 0; omega), if_neg (by rw [le32, z30]; omega), c5, contains_eq, bnd_s, hb, if_pos rfl]
        unfold g_X11_settle_J43 g_X11_requireState
        rw [if_pos rfl, bnd_s, bnx_ok, s1, bnd_s, bnd_s, hL1.2.2.1 (cl a1) hc1 5 (by decide), if_neg (by decide), uI_at, if_pos ⟨rfl, rfl⟩, bitCount_eq, bnd_s]
      · unfold g_X12_settle
        rw [bnd_s, bnd_s, isCall_eq hW, decide_eq_true h, if_pos rfl, asr_pos m41, bnd_s, bnd_s, o5, isDay_eq, decide_eq_true h2, hb, if_pos (by rfl)]
        unfold g_X12_settle_J28 g_X12_settle_J33
        rw [bnd_s, pz2]
        show bnd (g_X12_remember (uI μ 0 0 0)) _ = _
        rw [s2, bnd_s, asr_pos m41, bnd_s, setCall_of (j := 5) (k := (5 : Int32)) i4 rfl (by omega) (by decide), bnd_s, if_neg (by decide), bnd_s, bnd_s]
        have e5 : f_X12_ofCall (uI μ1 1 (330 + 7 * cl a1 + 5) (f_X12_ofCall μ1 a1 (5 : Int32) &&& (((1 : Int32) <<< (a2 &&& 31)) ^^^ (-1 : Int32)))) a1 (5 : Int32) = f_X12_ofCall μ1 a1 (5 : Int32) &&& (((1 : Int32) <<< (a2 &&& 31)) ^^^ (-1 : Int32)) := by
          show (uI μ1 1 (330 + 7 * cl a1 + 5) _).1 1 (330 + 7 * cl a1 + 5) = _
          rw [uI_at, if_pos ⟨rfl, rfl⟩]
        rw [e5]
        rfl
    · refine wo_er 3 2 hR ?_ ?_ (by simp) rfl (by decide)
      · unfold g_X11_settle
        rw [g0, bnx_ok, asr_pos i3]
        by_cases h3 : a2 < 0
        · rw [if_pos h3]
          rfl
        · rw [if_neg h3]
          by_cases h4 : (30 : Int32) ≤ a2
          · rw [if_pos h4]
            rfl
          · rw [if_neg h4, c5, contains_eq, bnd_s, if_neg (fun z => h2 ⟨⟨by rw [lt32] at h3; exact Int.not_lt.mp h3, by rw [le32, z30] at h4; omega⟩, z⟩)]
            rfl
      · unfold g_X12_settle
        rw [bnd_s, bnd_s, isCall_eq hW, decide_eq_true h, if_pos rfl, asr_pos m41, bnd_s, bnd_s, o5, isDay_eq, if_neg (fun z => h2 ⟨of_decide_eq_true (Bool.and_eq_true_iff.mp z).1, (Bool.and_eq_true_iff.mp z).2⟩)]
        rfl
  · refine wo_er 1 1 hR ?_ ?_ (by simp) rfl (by decide)
    · unfold g_X11_settle
      rw [rqC, e0, if_neg h]
      rfl
    · unfold g_X12_settle
      rw [bnd_s, bnd_s, isCall_eq hW, decide_eq_false h]
      rfl
/-! PURE. cancel. -/
section CN
variable {ν μ : Mm} {p : Nat → Int64}
theorem left_loop (hL : LdR ν 7 (μ.1 1) p) (hW : Wf (μ.1 1)) {ν0 : Mm} {a1 s : Int32} (h1 : vp_in a1 41) (hs : f_X12_ofCall μ a1 (0 : Int32) = s) : ∀ (d k : Nat), k + d = cl (μ.1 1 1) → ∀ (n m : Nat), d + 1 ≤ n → d + 1 ≤ m → ∀ x : Int32, ∃ y, g_X5_callsLeft_L4 ν 7 s n x (nI k) = some y ∧ g_X12_cancel_L50 ν0 a1 m μ x (nI k) = some (y, μ) := by
  obtain ⟨c1, c2, c3⟩ := cl_of hW.1.2.1
  have e0 : ν.1 7 6 = μ.1 1 1 := (sh_c hL).2.1
  intro d
  induction d with
  | zero =>
    intro k hk n m hn1 hm1 x
    obtain ⟨n, rfl, -⟩ := succ_n hn1
    obtain ⟨m, rfl, -⟩ := succ_n hm1
    have g : (μ.1 1 1) ≤ nI k := by rw [le32, nI_toInt (by omega)]; omega
    refine ⟨x, ?_, ?_⟩
    · unfold g_X5_callsLeft_L4
      rw [e0, if_pos g]
    · unfold g_X12_cancel_L50
      rw [if_pos g]
  | succ d ih =>
    intro k hk n m hn1 hm1 x
    obtain ⟨n, rfl, hn2⟩ := succ_n hn1
    obtain ⟨m, rfl, hm2⟩ := succ_n hm1
    have hlt : k < cl (μ.1 1 1) := by omega
    have g : ¬ (μ.1 1 1) ≤ nI k := by rw [le32, nI_toInt (by omega)]; omega
    have o0 : f_X12_ofCall μ (nI k) (0 : Int32) = μ.1 1 (330 + 7 * k) := ofCall_eq (k := 0) (by omega) (by decide)
    have o4 : f_X12_ofCall μ (nI k) (4 : Int32) = μ.1 1 (330 + 7 * k + 4) := ofCall_eq (k := 4) (by omega) (by decide)
    have r0 : ν.1 (7 + (22 + k)) 0 = μ.1 1 (330 + 7 * k) := call_row hL hlt (k := 0) (by decide)
    have r4 : ν.1 (7 + (22 + k)) 4 = μ.1 1 (330 + 7 * k + 4) := call_row hL hlt (k := 4) (by decide)
    have A : ∀ y, g_X5_callsLeft_L4 ν 7 s (n + 1) x (nI k) = some y ↔ (if μ.1 1 (330 + 7 * k) = s then (if μ.1 1 (330 + 7 * k + 4) = 0 then g_X5_callsLeft_L4 ν 7 s n (x + 1) (nI (k + 1)) else g_X5_callsLeft_L4 ν 7 s n x (nI (k + 1))) else g_X5_callsLeft_L4 ν 7 s n x (nI (k + 1))) = some y := fun y => by
      conv => lhs; unfold g_X5_callsLeft_L4
      rw [e0, if_neg g, asr_pos (vp_in_nI (by omega) (by decide)), cl_nI (by omega), r0, r4, nI1]
    have B : ∀ y, g_X12_cancel_L50 ν0 a1 (m + 1) μ x (nI k) = y ↔ (if f_X12_isLive μ (nI k) s = true then g_X12_cancel_L50 ν0 a1 m μ (x + 1) (nI (k + 1)) else g_X12_cancel_L50 ν0 a1 m μ x (nI (k + 1))) = y := fun y => by
      conv => lhs; unfold g_X12_cancel_L50
      rw [if_neg g, asr_pos h1, bnd_s, asr_pos (vp_in_nI (by omega) (by decide)), bnd_s, hs, nI1, Int32.add_zero]
    have C : f_X12_isLive μ (nI k) s = (if μ.1 1 (330 + 7 * k) = s then (if μ.1 1 (330 + 7 * k + 4) = 0 then true else false) else false) := by
      unfold f_X12_isLive
      rw [o0, o4]
    obtain ⟨y1, g1, g2⟩ := ih (k + 1) (by omega) n m hn2 hm2 (x + 1)
    obtain ⟨y2, g3, g4⟩ := ih (k + 1) (by omega) n m hn2 hm2 x
    by_cases q : μ.1 1 (330 + 7 * k) = s
    · by_cases q4 : μ.1 1 (330 + 7 * k + 4) = 0
      · exact ⟨y1, (A _).mpr (by rw [if_pos q, if_pos q4]; exact g1), (B _).mpr (by rw [C, if_pos q, if_pos q4, if_pos rfl]; exact g2)⟩
      · exact ⟨y2, (A _).mpr (by rw [if_pos q, if_neg q4]; exact g3), (B _).mpr (by rw [C, if_pos q, if_neg q4, if_neg (by decide)]; exact g4)⟩
    · exact ⟨y2, (A _).mpr (by rw [if_neg q]; exact g3), (B _).mpr (by rw [C, if_neg q, if_neg (by decide)]; exact g4)⟩
end CN
theorem s44 : Sm_44 RelP := by
  intro n ν μ hn hR a1
  obtain ⟨⟨hL, hW, hP⟩, -⟩ := id hR
  have e0 := (sh_c hL).2.1
  by_cases h : 0 ≤ a1.toInt ∧ a1.toInt < (μ.1 1 1).toInt
  · obtain ⟨i1, i2, i3, i4, i5⟩ := ix_of (hi := 40) h hW.1.2.1 (by decide)
    have g0 : ∀ z, bnd (g_X11_requireCall ν a1) z = (z (.ok ()) : Option (Thr (Int32 × Mm))) := fun z => by rw [rqC, e0, if_pos h, bnd_s]
    have m41 : vp_in a1 41 := by rw [i4]; exact vp_in_nI (by omega) (by decide)
    have c4 := (call_at hL hW h).2.2.2.1 4 (by decide)
    have o4 : f_X12_ofCall μ a1 (4 : Int32) = μ.1 1 (330 + 7 * cl a1 + 4) := rfl
    by_cases h2 : (μ.1 1 (330 + 7 * cl a1 + 4) = 0 ∧ f_X12_billedSet μ a1 = 0) ∧ f_X12_billedDaySet μ a1 = 0
    · obtain ⟨⟨b1, b2⟩, b3⟩ := h2
      obtain ⟨ν1, μ1, s1, s2, s3, s4, s5, s6⟩ := save_of (hR.th0 0)
      have ef : μ1.1 1 = μ.1 1 := (s5 1 (by decide) (by decide) (by decide)).1
      have hc1 : cl a1 < cl (μ1.1 1 1) := by rw [ef]; exact i1
      have hr := cell_call s3 hc1 (j := 4) (v := 1) (by decide) (by decide) (fun e => absurd e (by decide)) (fun _ => ⟨by decide, by decide⟩) (fun e => absurd e (by decide)) (fun e => absurd e (by decide))
      obtain ⟨hL2, hW2, hP2⟩ := hr.1
      have c3 := (cl_of hW2.1.2.1).2.2
      have f1 : (uI μ1 1 (330 + 7 * cl a1 + 4) 1).1 1 1 = μ.1 1 1 := by rw [uI_at, if_neg (fun z => absurd z.2 (by omega)), ef]
      have hs : (uI ν1 (7 + (22 + cl a1)) 4 1).1 (7 + (22 + cl a1)) 0 = f_X12_ofCall (uI μ1 1 (330 + 7 * cl a1 + 4) 1) a1 (0 : Int32) := call_row hL2 (c := cl a1) (by rw [f1]; exact i1) (k := 0) (by decide)
      obtain ⟨y, y1, y2⟩ := left_loop (ν0 := μ) (a1 := a1) hL2 hW2 m41 rfl (cl ((uI μ1 1 (330 + 7 * cl a1 + 4) 1).1 1 1)) 0 (by omega) 10000 10000 (by omega) (by omega) 0
      refine wo_ok (v := y) (hr.mono (Nat.le_succ n)) ?_ ?_ ?_
      · rw [uI_at, if_neg (fun z => absurd z.1 (by decide)), s6 0 (by decide)]
        rfl
      · unfold g_X11_cancel
        rw [g0, bnx_ok, asr_pos i3, c4, if_pos b1, billed_of hL hW, bnd_s, if_pos b2, bdays_of hL hW, bnd_s, if_pos b3]
        unfold g_X11_cancel_J49 g_X11_requireState
        rw [if_pos rfl, bnd_s, bnx_ok, s1, bnd_s, bnd_s, hs]
        unfold g_X5_callsLeft
        rw [asr_pos led7, show g_X5_callsLeft_L4 (uI ν1 (7 + (22 + cl a1)) 4 1) 7 (f_X12_ofCall (uI μ1 1 (330 + 7 * cl a1 + 4) 1) a1 (0 : Int32)) 10000 (0 : Int32) (0 : Int32) = some y from y1, bnd_s]
      · unfold g_X12_cancel
        rw [bnd_s, bnd_s, isCall_eq hW, decide_eq_true h, if_pos rfl, asr_pos (okR_of hW), asr_pos m41, bnd_s]
        unfold f_X12_canCancel
        rw [o4, if_pos b1, if_pos b2, if_pos b3, if_pos rfl]
        unfold g_X12_cancel_J22 g_X12_cancel_J27
        rw [bnd_s, pz2]
        show bnd (g_X12_remember (uI μ 0 0 0)) _ = _
        rw [s2, bnd_s, setCall_of (j := 4) (k := (4 : Int32)) i4 rfl (by omega) (by decide), bnd_s]
        exact y2
    · refine wo_er 3 2 hR ?_ ?_ (by simp) rfl (by decide)
      · unfold g_X11_cancel
        rw [g0, bnx_ok, asr_pos i3, c4, billed_of hL hW, bnd_s, bdays_of hL hW, bnd_s]
        by_cases b1 : μ.1 1 (330 + 7 * cl a1 + 4) = 0
        · rw [if_pos b1]
          by_cases b2 : f_X12_billedSet μ a1 = 0
          · rw [if_pos b2, if_neg (fun b3 => h2 ⟨⟨b1, b2⟩, b3⟩)]
            rfl
          · rw [if_neg b2]
            rfl
        · rw [if_neg b1]
          rfl
      · unfold g_X12_cancel
        rw [bnd_s, bnd_s, isCall_eq hW, decide_eq_true h, if_pos rfl, asr_pos (okR_of hW), asr_pos m41, bnd_s]
        unfold f_X12_canCancel
        rw [o4]
        by_cases b1 : μ.1 1 (330 + 7 * cl a1 + 4) = 0
        · rw [if_pos b1]
          by_cases b2 : f_X12_billedSet μ a1 = 0
          · rw [if_pos b2, if_neg (fun b3 => h2 ⟨⟨b1, b2⟩, b3⟩)]
            rfl
          · rw [if_neg b2]
            rfl
        · rw [if_neg b1]
          rfl
  · refine wo_er 1 1 hR ?_ ?_ (by simp) rfl (by decide)
    · unfold g_X11_cancel
      rw [rqC, e0, if_neg h]
      rfl
    · unfold g_X12_cancel
      rw [bnd_s, bnd_s, isCall_eq hW, decide_eq_false h]
      rfl
