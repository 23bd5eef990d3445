/-! PURE. How large a line can be. -/
section BND
variable {μ : Mm} {v : Nat} {a4 : Int32}
theorem rs_ti (hW : Wf (μ.1 1)) {t : Int32} (k : Nat) : (rsK (μ.1 1) t k).toInt = if k < cl (μ.1 1 6) then min t.toInt (μ.1 1 (12 + k)).toInt else t.toInt := by
  unfold rsK
  by_cases q : k < cl (μ.1 1 6)
  · rw [if_pos q, if_pos q, imin_ti]
  · rw [if_neg q, if_neg q]
theorem du_b (hW : Wf (μ.1 1)) (hv2 : v < 21) {t : Int32} (ht0 : rg t 0 9999) : ∀ k, k ≤ cl (μ.1 1 6) → 0 ≤ (duK μ v t k).toInt ∧ (duK μ v t k).toInt ≤ 999 * (rsK (μ.1 1) t k).toInt ∧ 0 ≤ (rsK (μ.1 1) t k).toInt ∧ (rsK (μ.1 1) t k).toInt ≤ 9999 := by
  have c3 := (cl_of hW.1.2.2.2.2.2.2.1).2.2
  have t0 := ht0.1
  have t1 := ht0.2
  have R : ∀ k, 0 ≤ (rsK (μ.1 1) t k).toInt ∧ (rsK (μ.1 1) t k).toInt ≤ 9999 := fun k => by
    rw [rs_ti hW]
    by_cases q : k < cl (μ.1 1 6)
    · rw [if_pos q]
      have b0 := (hW.2.1 k (by omega)).1
      omega
    · rw [if_neg q]
      omega
  intro k
  induction k with
  | zero =>
    intro _
    have z : (duK μ v t 0).toInt = 0 := rfl
    rw [z]
    have := R 0
    exact ⟨Int.le_refl 0, by omega, this⟩
  | succ k ih =>
    intro hk
    obtain ⟨i1, i2, i3, i4⟩ := ih (by omega)
    have b0 := hW.2.1 k (by omega)
    have b00 := b0.1
    have b01 := b0.2
    obtain ⟨r0, r1⟩ := (hW.2.2.2.2.2.2.2.1 v hv2).1 k (by omega)
    obtain ⟨R1, R2⟩ := R (k + 1)
    have B := rs_ti hW (t := t) (k + 1)
    have A := rs_ti hW (t := t) k
    rw [if_pos (show k < cl (μ.1 1 6) by omega)] at A
    have inb : (f_X12_inBand μ t (nI k)).toInt = (rsK (μ.1 1) t (k + 1)).toInt - (rsK (μ.1 1) t k).toInt := by
      rw [inBand_eq hW (by omega), imax_ti, ti_sub (by omega) (by omega)]
      have z0 : ((0 : Int32)).toInt = 0 := rfl
      by_cases q : k + 1 < cl (μ.1 1 6)
      · rw [if_pos q] at B
        have lt := hW.2.2.2.1 k q
        omega
      · rw [if_neg q] at B
        omega
    have mono : (rsK (μ.1 1) t k).toInt ≤ (rsK (μ.1 1) t (k + 1)).toInt := by
      by_cases q : k + 1 < cl (μ.1 1 6)
      · rw [if_pos q] at B
        have lt := hW.2.2.2.1 k q
        omega
      · rw [if_neg q] at B
        omega
    have P0 : 0 ≤ (f_X12_inBand μ t (nI k)).toInt * (μ.1 1 (22 + 12 * v + k)).toInt := Int.mul_nonneg (by omega) r0
    have P1 : (f_X12_inBand μ t (nI k)).toInt * (μ.1 1 (22 + 12 * v + k)).toInt ≤ (f_X12_inBand μ t (nI k)).toInt * 999 := Int.mul_le_mul_of_nonneg_left r1 (by omega)
    have M : (f_X12_inBand μ t (nI k) * μ.1 1 (22 + 12 * v + k)).toInt = (f_X12_inBand μ t (nI k)).toInt * (μ.1 1 (22 + 12 * v + k)).toInt := ti_mul (by omega) (by omega)
    have S : (duK μ v t (k + 1)).toInt = (duK μ v t k).toInt + (f_X12_inBand μ t (nI k)).toInt * (μ.1 1 (22 + 12 * v + k)).toInt := by
      show (duK μ v t k + f_X12_inBand μ t (nI k) * μ.1 1 (22 + 12 * v + k)).toInt = _
      rw [ti_add (by rw [M]; omega) (by rw [M]; omega), M]
    rw [S]
    exact ⟨by omega, by omega, R1, R2⟩
theorem dues_b (hW : Wf (μ.1 1)) (hv : a4 = nI v) (hv2 : v < 21) {t : Int32} (ht0 : rg t 0 9999) : 0 ≤ (f_X12_duesOf μ t a4).toInt ∧ (f_X12_duesOf μ t a4).toInt ≤ 9989001 := by
  obtain ⟨c1, c2, c3⟩ := cl_of hW.1.2.2.2.2.2.2.1
  have t0 := ht0.1
  have t1 := ht0.2
  unfold f_X12_duesOf
  by_cases q : μ.1 1 6 = 0
  · rw [if_pos q]
    exact ⟨by decide, by decide⟩
  · rw [if_neg q]
    have qc : cl (μ.1 1 6) ≠ 0 := fun z => q (by rw [c1, z]; rfl)
    by_cases q8 : μ.1 1 8 = 1
    · rw [if_pos q8]
      obtain ⟨b, b1, b2, b3, b4⟩ := bw_mod hW ht0 (cl (μ.1 1 6) - 1) (by omega) (fun j h1 h2 => absurd h2 (by omega)) 7 (by omega)
      have e9 : nI (cl (μ.1 1 6)) - (1 : Int32) = nI (cl (μ.1 1 6) - 1) := by
        have := nI_p1 (cl (μ.1 1 6) - 1)
        rw [Nat.sub_add_cancel (by omega)] at this
        exact this
      have ebw : f_X12_bandWith μ t = nI b := by
        unfold f_X12_bandWith
        rw [c1, e9, b2]
      rw [ebw, Int32.zero_add, show f_X12_ofVersion μ a4 (nI b) = μ.1 1 (22 + 12 * v + b) from ofV_eq hv (by omega) rfl (by omega)]
      obtain ⟨r0, r1⟩ := (hW.2.2.2.2.2.2.2.1 v hv2).1 b (by omega)
      have P0 : 0 ≤ t.toInt * (μ.1 1 (22 + 12 * v + b)).toInt := Int.mul_nonneg t0 r0
      have P1 : t.toInt * (μ.1 1 (22 + 12 * v + b)).toInt ≤ t.toInt * 999 := Int.mul_le_mul_of_nonneg_left r1 t0
      rw [ti_mul (by omega) (by omega)]
      exact ⟨P0, by omega⟩
    · rw [if_neg q8, show f_X12_duesOf_L43 μ t a4 7 (0 : Int32) (0 : Int32) = duK μ v t (cl (μ.1 1 6)) from du_mod hW hv (by omega) (cl (μ.1 1 6)) 0 (by omega) 7 (by omega)]
      obtain ⟨g1, g2, g3, g4⟩ := du_b hW hv2 ht0 (cl (μ.1 1 6)) (Nat.le_refl _)
      exact ⟨g1, by omega⟩
theorem pc_b (hW : Wf (μ.1 1)) (hv : a4 = nI v) (hv2 : v < 21) (r : Int32) : rg (f_X12_percentOf μ r a4) 0 100 := by
  obtain ⟨c1, c2, c3⟩ := cl_of hW.1.2.2.2.2.2.2.2.1
  have L : ∀ (d k : Nat), k + d = cl (μ.1 1 7) → ∀ m, d + 1 ≤ m → ∀ x : Int32, rg x 0 100 → rg (f_X12_percentOf_L5 μ r a4 m x (nI k)) 0 100 := by
    intro d
    induction d with
    | zero =>
      intro k hk m hm x hx
      obtain ⟨m, rfl, -⟩ := succ_n hm
      unfold f_X12_percentOf_L5
      rw [if_pos (by rw [le32, nI_toInt (by omega)]; omega)]
      exact hx
    | succ d ih =>
      intro k hk m hm x hx
      obtain ⟨m, rfl, hm2⟩ := succ_n hm
      unfold f_X12_percentOf_L5
      rw [if_neg (by rw [le32, nI_toInt (by omega)]; omega), nI1]
      split
      · exact ih (k + 1) (by omega) m hm2 x hx
      · refine ih (k + 1) (by omega) m hm2 _ ?_
        rw [show f_X12_ofVersion μ a4 ((6 : Int32) + nI k) = μ.1 1 (22 + 12 * v + (6 + k)) from ofV_eq hv (by omega) (by rw [show (6 : Int32) = nI 6 from rfl, nI_add]) (by omega)]
        exact (hW.2.2.2.2.2.2.2.1 v hv2).2.1 k (by omega)
  exact L (cl (μ.1 1 7)) 0 (by omega) 5 (by omega) 0 ⟨by decide, by decide⟩
theorem bits_b (x : Int32) : ∃ z, z ≤ 33 ∧ f_X12_bits x = nI z := by
  have L : ∀ (n j : Nat) (y : Int32), ∃ z, z ≤ j + n ∧ f_X12_bits_L4 x n (nI j) y = nI z := by
    intro n
    induction n with
    | zero => intro j y; exact ⟨0, by omega, rfl⟩
    | succ n ih =>
      intro j y
      unfold f_X12_bits_L4
      split
      · exact ⟨j, by omega, rfl⟩
      · rw [nI1]
        obtain ⟨z, h1, h2⟩ := ih (j + 1) (y &&& (y - (1 : Int32)))
        exact ⟨z, by omega, h2⟩
  obtain ⟨z, h1, h2⟩ := L 33 0 x
  exact ⟨z, by omega, h2⟩
theorem lay_b (hW : Wf (μ.1 1)) (hv2 : v < 21) (x : Int32) : 0 ≤ (f_X12_bits x * μ.1 1 (22 + 12 * v + 11)).toInt ∧ (f_X12_bits x * μ.1 1 (22 + 12 * v + 11)).toInt ≤ 329967 := by
  obtain ⟨z, h1, h2⟩ := bits_b x
  obtain ⟨r0, r1⟩ := (hW.2.2.2.2.2.2.2.1 v hv2).2.2.2
  have hz : (nI z).toInt = (z : Int) := nI_toInt (by omega)
  have P0 : 0 ≤ (z : Int) * (μ.1 1 (22 + 12 * v + 11)).toInt := Int.mul_nonneg (by omega) r0
  have P1 : (z : Int) * (μ.1 1 (22 + 12 * v + 11)).toInt ≤ (z : Int) * 9999 := Int.mul_le_mul_of_nonneg_left r1 (by omega)
  rw [h2, ti_mul (by rw [hz]; omega) (by rw [hz]; omega), hz]
  exact ⟨P0, by omega⟩
theorem div100 {x : Int32} (h : 0 ≤ x.toInt) : (x / (100 : Int32)).toInt = x.toInt / 100 := by
  rw [Int32.toInt_div, show ((100 : Int32)).toInt = 100 from rfl, Int.tdiv_eq_ediv_of_nonneg h]
  exact bm32 (by omega) (by have := x.toInt_lt; omega)
theorem lineOf_b (hW : Wf (μ.1 1)) (hv : a4 = nI v) (hv2 : v < 21) {t w : Int32} (ht0 : rg t 0 9999) (hw : rg w 0 999) (r l : Int32) : -9989001 ≤ (f_X12_lineOf μ t r w l a4).toInt ∧ (f_X12_lineOf μ t r w l a4).toInt ≤ 9989001 := by
  obtain ⟨d0, d1⟩ := dues_b hW hv hv2 ht0
  obtain ⟨p0, p1⟩ := pc_b hW hv hv2 r
  unfold f_X12_lineOf
  by_cases q2 : l = 2
  · rw [if_pos q2]
    unfold f_X12_feeOf
    have w9 := hW.1.2.2.2.2.2.2.2.2.2.1
    have w10 := hW.1.2.2.2.2.2.2.2.2.2.2.1
    have w11 := hW.1.2.2.2.2.2.2.2.2.2.2.2
    obtain ⟨a0, a1⟩ := w9
    obtain ⟨b0, b1⟩ := w10
    obtain ⟨e0, e1⟩ := w11
    obtain ⟨u0, u1⟩ := hw
    have m1 : (imax (0 : Int32) (w - μ.1 1 10)).toInt = max 0 (w.toInt - (μ.1 1 10).toInt) := by
      rw [imax_ti, ti_sub (by omega) (by omega)]
      rfl
    have P0 : 0 ≤ (μ.1 1 11).toInt * (imax (0 : Int32) (w - μ.1 1 10)).toInt := Int.mul_nonneg e0 (by rw [m1]; omega)
    have P1 : (μ.1 1 11).toInt * (imax (0 : Int32) (w - μ.1 1 10)).toInt ≤ 999 * (imax (0 : Int32) (w - μ.1 1 10)).toInt := Int.mul_le_mul_of_nonneg_right e1 (by rw [m1]; omega)
    have m2 : (μ.1 1 11 * imax (0 : Int32) (w - μ.1 1 10)).toInt = (μ.1 1 11).toInt * (imax (0 : Int32) (w - μ.1 1 10)).toInt := ti_mul (by omega) (by omega)
    rw [ti_add (by rw [m2]; omega) (by rw [m2]; omega), m2]
    omega
  · rw [if_neg q2]
    by_cases q0 : l = 0
    · rw [if_pos q0]
      omega
    · rw [if_neg q0]
      have P0 : 0 ≤ (f_X12_duesOf μ t a4).toInt * (f_X12_percentOf μ r a4).toInt := Int.mul_nonneg d0 p0
      have P1 : (f_X12_duesOf μ t a4).toInt * (f_X12_percentOf μ r a4).toInt ≤ (f_X12_duesOf μ t a4).toInt * 100 := Int.mul_le_mul_of_nonneg_left p1 d0
      have m : (f_X12_duesOf μ t a4 * f_X12_percentOf μ r a4).toInt = (f_X12_duesOf μ t a4).toInt * (f_X12_percentOf μ r a4).toInt := ti_mul (by omega) (by omega)
      have q := div100 (x := f_X12_duesOf μ t a4 * f_X12_percentOf μ r a4) (by rw [m]; exact P0)
      rw [m] at q
      rw [ti_neg (by rw [q]; omega), q]
      omega
theorem callLine_b (hW : Wf (μ.1 1)) (hv : a4 = nI v) (hv2 : v < 21) {x l : Int32} (hx : cl x < 41) : -9989001 ≤ (f_X12_callLine μ x l a4).toInt ∧ (f_X12_callLine μ x l a4).toInt ≤ 9989001 := by
  obtain ⟨r0, r1, r2, r3, -⟩ := hW.2.2.2.2.2.2.2.2.2.1 (cl x) hx
  obtain ⟨s1, s2, s3⟩ := cl_of r0
  exact lineOf_b hW hv hv2 (hW.2.2.2.2.2.2.2.2.1 (cl (μ.1 1 (330 + 7 * cl x))) (by omega)) r3 _ l
end BND
/-! PURE. A new invoice. -/
theorem an0 (x : Int32) : x &&& ((0 : Int32) ^^^ (-1 : Int32)) = x := by
  refine ex_lsb fun i hi => ?_
  rw [and_lsb, show ((0 : Int32) ^^^ (-1 : Int32)).toBitVec.getLsbD i = true from by
    rw [not_x]
    show (~~~(0#32)).getLsbD i = true
    rw [BitVec.getLsbD_not]
    simp [hi], Bool.and_true]
theorem ln3_t (y : Int32) : f_X12_has (((7 : Int32) &&& y) ||| (8 : Int32)) (3 : Int32) = true := by
  rw [show (3 : Int32) = nI 3 from rfl, has_bit _ (by decide), or_lsb, show (8 : Int32).toBitVec.getLsbD 3 = true by decide, Bool.or_true]
theorem ln3_f (y : Int32) : f_X12_has (((7 : Int32) &&& y) ||| (0 : Int32)) (3 : Int32) = false := by
  rw [show (3 : Int32) = nI 3 from rfl, has_bit _ (by decide), or_lsb, and_lsb, show (7 : Int32).toBitVec.getLsbD 3 = false by decide, z_lsb]
  rfl
theorem ln_rg (y : Int32) (c : Int32) (hc : c = 0 ∨ c = 8) : rg (((7 : Int32) &&& y) ||| c) 0 15 := by
  refine rg15_or (rg15_and _ ⟨by decide, by decide⟩) ?_
  rcases hc with rfl | rfl
  · exact ⟨by decide, by decide⟩
  · exact ⟨by decide, by decide⟩
theorem bits0 : f_X12_bits 0 = 0 := by decide
set_option maxRecDepth 20000 in
theorem df_tab : ∀ j : Fin 31, ∀ k : Fin 31, (f_X12_daysFrom (nI j.val) (nI k.val)).toBitVec.toNat < 2 ^ 30 := by decide +kernel
section NI
variable {ν μ : Mm} {p : Nat → Int64}
theorem billable_rg (hW : Wf (μ.1 1)) {x : Int32} (hx : cl x < 41) : rg (f_X12_billableSet μ x) 0 1073741823 ∧ f_X12_billableSet μ x &&& (f_X12_contestedSet μ x ^^^ (-1 : Int32)) = f_X12_billableSet μ x := by
  obtain ⟨k, hk, ek⟩ := days_at (a := x) hW hx
  have v3 := (cl_of hW.1.2.2.2.2.1).2.2
  obtain ⟨j, hj, ej⟩ := free_at (v := cl (μ.1 1 4)) hW (by omega)
  constructor
  · refine rg_and _ (rg_and _ ?_)
    rw [laySet_v hW]
    unfold laySetV
    rw [ej, show f_X12_daysOf μ x = nI k from ek, rg_bv]
    exact df_tab ⟨j, by omega⟩ ⟨k, by omega⟩
  · refine ex_lsb fun i hi => ?_
    unfold f_X12_billableSet
    rw [and_lsb, and_lsb]
    cases (f_X12_laySet μ x &&& (f_X12_billedDaySet μ x ^^^ (-1 : Int32))).toBitVec.getLsbD i <;> cases (f_X12_contestedSet μ x ^^^ (-1 : Int32)).toBitVec.getLsbD i <;> rfl
/-- a line of an invoice that is being made -/
def amV (μ : Mm) (x : Int32) (v : Nat) (days ln l : Int32) : Int32 := if f_X12_has ln l = true then (if l = 3 then f_X12_bits days * μ.1 1 (22 + 12 * v + 11) else f_X12_callLine μ x l (nI v)) else 0
theorem rb_raw (hL : LdR ν 7 (μ.1 1) p) (hW : Wf (μ.1 1)) {o v : Nat} {x days ln : Int32} (ho : isInv o) (ha : 0 ≤ x.toInt ∧ x.toInt < (μ.1 1 1).toInt) (e1 : ν.1 o 1 = x) (e3 : ν.1 o 3 = nI v) (hv : v ≤ cl (μ.1 1 4)) (e4 : ν.1 o 4 = ln) (e5 : ν.1 o 5 = 0) (e6 : ν.1 o 6 = days) (hd : days &&& (f_X12_contestedSet μ x ^^^ (-1 : Int32)) = days) {l : Int32} (hl : 0 ≤ l.toInt ∧ l.toInt ≤ 3) : g_X0_rebuiltLine ν o l = some (amV μ x v days ln l) := by
  have v3 := (cl_of hW.1.2.2.2.2.1).2.2
  have hv21 : v < 21 := by omega
  have hT := hL.2.2.2.2.2 v hv
  have ht : isTar (7 + (222 + 5 * v)) := ⟨7, v, led7, hv21, rfl⟩
  have st : g_X4_stands ν o l = some (f_X12_has ln l) := by
    unfold g_X4_stands g_X4_standing
    rw [asr_pos ho, asr_pos ho, e4, e5, an0, bnd_s, contains_eq, bnd_s]
  unfold g_X0_rebuiltLine amV
  rw [asr_pos ho, st, bnd_s]
  by_cases q0 : f_X12_has ln l = true
  · rw [if_pos q0, if_pos q0, e3, asr_pos (vp_in_nI hv21 (by decide)), cl_nI (by omega)]
    by_cases q : l = 3
    · rw [if_pos q, if_pos q, e1, asr_pos (call_at hL hW ha).1, cont_of hL hW ha, bnd_s, e6, hd, bitCount_eq, bnd_s, hT.1.2.2.2.2.2.2.2, Int32.mul_comm]
    · rw [if_neg q, if_neg q, e1, rankOf_of hL hW ha, bnd_s, line_of hL hW ha hT ht hv21 hl, bnd_s]
      unfold lineV
      rw [if_neg q]
      rfl
  · rw [if_neg q0, if_neg q0]
/-- the lines of a call do not depend on invoices that are not there -/
theorem callLine_same {μ' : Mm} (hL : LdR ν 7 (μ.1 1) p) (hW : Wf (μ.1 1)) (hL' : LdR ν 7 (μ'.1 1) p) (hW' : Wf (μ'.1 1)) {x l : Int32} (ha : 0 ≤ x.toInt ∧ x.toInt < (μ.1 1 1).toInt) (ha' : 0 ≤ x.toInt ∧ x.toInt < (μ'.1 1 1).toInt) {v : Nat} (hv : v ≤ cl (μ.1 1 4)) (hv' : v ≤ cl (μ'.1 1 4)) (hl : 0 ≤ l.toInt ∧ l.toInt ≤ 3) (q : ¬ l = 3) : f_X12_callLine μ' x l (nI v) = f_X12_callLine μ x l (nI v) := by
  have v3 := (cl_of hW.1.2.2.2.2.1).2.2
  have hv21 : v < 21 := by omega
  have hT := hL.2.2.2.2.2 v hv
  have hT' := hL'.2.2.2.2.2 v hv'
  have ht : isTar (7 + (222 + 5 * v)) := ⟨7, v, led7, hv21, rfl⟩
  have r1 := rankOf_of hL hW ha
  have r2 := rankOf_of hL' hW' ha'
  have re : f_X12_rankOf μ' x = f_X12_rankOf μ x := Option.some.inj (r2.symm.trans r1)
  have l1 := line_of (r := f_X12_rankOf μ x) hL hW ha hT ht hv21 hl
  have l2 := line_of (r := f_X12_rankOf μ x) hL' hW' ha' hT' ht hv21 hl
  have le : lineV μ' v x l (f_X12_rankOf μ x) = lineV μ v x l (f_X12_rankOf μ x) := Option.some.inj (l2.symm.trans l1)
  unfold lineV at le
  rw [if_neg q, if_neg q] at le
  unfold f_X12_callLine
  rw [re]
  exact le
theorem canBill_of (hL : LdR ν 7 (μ.1 1) p) (hW : Wf (μ.1 1)) {x : Int32} (ha : 0 ≤ x.toInt ∧ x.toInt < (μ.1 1 1).toInt) : g_X0_canBill ν x = some (f_X12_canBill μ x) := by
  obtain ⟨c1, c2, c3, c4, c5⟩ := call_at hL hW ha
  have w4 := (hW.2.2.2.2.2.2.2.2.2.1 (cl x) (by omega)).2.2.2.2.1
  have w2 := hW.1.2.2.1
  have z1 : ((1 : Int32)).toInt = 1 := rfl
  have z0 : ((0 : Int32)).toInt = 0 := rfl
  have z60 : ((60 : Int32)).toInt = 60 := rfl
  have o4 : f_X12_ofCall μ x (4 : Int32) = μ.1 1 (330 + 7 * cl x + 4) := rfl
  unfold g_X0_canBill f_X12_canBill
  rw [asr_pos c1, c4 4 (by decide), o4, (sh_c hL).2.2.1]
  obtain ⟨w40, w41⟩ := w4
  obtain ⟨w20, w21⟩ := w2
  by_cases q : μ.1 1 (330 + 7 * cl x + 4) = 0
  · rw [if_pos q, if_neg (show ¬ μ.1 1 (330 + 7 * cl x + 4) = 1 by rw [q]; decide)]
    by_cases q6 : μ.1 1 2 = 60
    · rw [if_neg (show ¬ μ.1 1 2 < 60 by rw [q6]; decide), if_pos q6]
    · rw [if_pos (show μ.1 1 2 < 60 by rw [lt32, z60]; rw [eq32, z60] at q6; omega), if_neg q6, billed_of hL hW, bnd_s, billable_of hL hW ha, bnd_s]
      split
      · split <;> rfl
      · rfl
  · rw [if_neg q, if_pos (by rw [eq32] at q ⊢; rw [z0] at q; rw [z1]; omega)]
end NI
theorem bill_step {n : Nat} {ν μ : Mm} (h : RelP n ν μ) {x : Int32} (ha : 0 ≤ x.toInt ∧ x.toInt < (μ.1 1 1).toInt) (hroom : cl (μ.1 1 2) < 60) : ∃ ν2 μ2, g_X0_newInvoice ν x = some (nI (cl (μ.1 1 2)), ν2) ∧ g_X12_billNow μ x = some (nI (cl (μ.1 1 2)), μ2) ∧ RelP n ν2 μ2 ∧ μ2.1 0 = μ.1 0 ∧ μ2.1 1 1 = μ.1 1 1 ∧ μ2.1 1 2 = nI (cl (μ.1 1 2) + 1) := by
  obtain ⟨hL, hW, hP⟩ := id h.1
  obtain ⟨c1, c2, c3, c4, c5⟩ := call_at hL hW ha
  obtain ⟨k1, k2, k3⟩ := cl_of hW.1.2.2.1
  obtain ⟨v1, v2, v3⟩ := cl_of hW.1.2.2.2.2.1
  obtain ⟨i, ei⟩ : ∃ i, i = cl (μ.1 1 2) := ⟨_, rfl⟩
  obtain ⟨v, ev⟩ : ∃ v, v = cl (μ.1 1 4) := ⟨_, rfl⟩
  rw [← ei] at hroom k1 ⊢
  rw [← ev] at v1
  have hv21 : v < 21 := by omega
  obtain ⟨x1, x2, x3⟩ := cl_of (x := x) (hi := x.toInt) ⟨ha.1, Int.le_refl _⟩
  have hx41 : cl x < 41 := by omega
  obtain ⟨bd1, bd2⟩ := billable_rg hW hx41
  obtain ⟨days, eday⟩ : ∃ d, d = f_X12_billableSet μ x := ⟨_, rfl⟩
  obtain ⟨ln, eln⟩ : ∃ z : Int32, z = (((7 : Int32) &&& (f_X12_billedSet μ x ^^^ (-1 : Int32))) ||| (if days = 0 then (0 : Int32) else (8 : Int32))) := ⟨_, rfl⟩
  rw [← eday] at bd1 bd2
  have lnr : rg ln 0 15 := by
    rw [eln]
    refine ln_rg _ _ ?_
    split
    · exact Or.inl rfl
    · exact Or.inr rfl
  have ln3 : days = 0 → f_X12_has ln (3 : Int32) = false := fun z => by rw [eln, if_pos z]; exact ln3_f _
  have ln3' : ¬ days = 0 → f_X12_has ln (3 : Int32) = true := fun z => by rw [eln, if_neg z]; exact ln3_t _
  have am_b : ∀ l, l < 4 → rg (amV μ x v days ln (nI l)) (-16777216) 16777216 := fun l hl => by
    unfold amV
    split
    · split
      · have := lay_b hW hv21 days
        exact ⟨by omega, by omega⟩
      · have := callLine_b hW (a4 := nI v) rfl hv21 (x := x) (l := nI l) hx41
        exact ⟨by omega, by omega⟩
    · exact ⟨by decide, by decide⟩
  have am3 : amV μ x v days ln (nI 3) = f_X12_bits days * μ.1 1 (22 + 12 * v + 11) := by
    show (if f_X12_has ln (3 : Int32) = true then (if (3 : Int32) = 3 then _ else _) else _) = _
    by_cases z : days = 0
    · rw [ln3 z, if_neg (by decide), z, bits0, Int32.zero_mul]
    · rw [ln3' z, if_pos rfl, if_pos rfl]
  -- the class
  have io : isInv (7 + (62 + 2 * i)) := ⟨7, i, led7, hroom, rfl⟩
  obtain ⟨ν6, e6⟩ : ∃ m, m = uI (uI (uI (uI (uI (uI ν (7 + (62 + 2 * i)) 4 ln) (7 + (62 + 2 * i)) 1 x) (7 + (62 + 2 * i)) 2 (μ.1 1 5)) (7 + (62 + 2 * i)) 3 (nI v)) (7 + (62 + 2 * i)) 5 0) (7 + (62 + 2 * i)) 6 days := ⟨_, rfl⟩
  have E6 : ∀ off, off ≠ 7 + (62 + 2 * i) → Eq3 ν ν6 off := fun off ho => by
    rw [e6]
    exact ((((((Eq3.rf ν off).I ho).I ho).I ho).I ho).I ho).I ho
  have r61 : ν6.1 (7 + (62 + 2 * i)) 1 = x := by rw [e6]; simp [uI_at]
  have r62 : ν6.1 (7 + (62 + 2 * i)) 2 = μ.1 1 5 := by rw [e6]; simp [uI_at]
  have r63 : ν6.1 (7 + (62 + 2 * i)) 3 = nI v := by rw [e6]; simp [uI_at]
  have r64 : ν6.1 (7 + (62 + 2 * i)) 4 = ln := by rw [e6]; simp [uI_at]
  have r65 : ν6.1 (7 + (62 + 2 * i)) 5 = 0 := by rw [e6]; simp [uI_at]
  have r66 : ν6.1 (7 + (62 + 2 * i)) 6 = days := by rw [e6]; simp [uI_at]
  have LdO : ∀ ν', (∀ off, off ≠ 7 + (62 + 2 * i) + 1 → Eq3 ν6 ν' off) → LdR ν' 7 (μ.1 1) (μ.2.1 3) := fun ν' hq => by
    refine hL.invc (x := i) hW hroom (fun off g1 g2 g3 g4 g5 => (E6 off g4).tr (hq off g5)) (fun k g1 g2 g3 => ?_) ?_ (fun _ _ => rfl) (fun y hy => Or.inr hy) (fun hy => absurd hy (by omega))
    · rw [(hq 7 (by omega)).1, (E6 7 (by omega)).1]
    · rw [(hq 7 (by omega)).1, (E6 7 (by omega)).1]
      exact (sh_c hL).2.2.1
  have loopC : ∀ (d k : Nat), k + d = 4 → ∀ n, d + 1 ≤ n → ∀ ν', ((∀ off, off ≠ 7 + (62 + 2 * i) + 1 → Eq3 ν6 ν' off) ∧ ∀ l, l < k → ν'.1 (7 + (62 + 2 * i) + 1) l = amV μ x v days ln (nI l)) → ∃ r, ((∀ off, off ≠ 7 + (62 + 2 * i) + 1 → Eq3 ν6 r off) ∧ ∀ l, l < 4 → r.1 (7 + (62 + 2 * i) + 1) l = amV μ x v days ln (nI l)) ∧ g_X0_newInvoice_L87 ν x n ν' (7 + (62 + 2 * i)) (nI k) = some (nI i, uI r 7 7 (nI (i + 1))) := by
    intro d
    induction d with
    | zero =>
      intro k hk n hn ν' hq
      obtain ⟨n, rfl, -⟩ := succ_n hn
      have ek : k = 4 := by omega
      subst ek
      refine ⟨ν', hq, ?_⟩
      unfold g_X0_newInvoice_L87
      rw [if_pos (by decide), (hq.1 7 (by omega)).1, (E6 7 (by omega)).1, (sh_c hL).2.2.1, k1, nI1, bnd_s]
    | succ d ih =>
      intro k hk n hn ν' hq
      obtain ⟨n, rfl, hn2⟩ := succ_n hn
      have er := hq.1 (7 + (62 + 2 * i)) (by omega)
      have rb := rb_raw (l := nI k) (x := x) (v := v) (ln := ln) (days := days) (LdO ν' hq.1) hW io ha (by rw [er.1]; exact r61) (by rw [er.1]; exact r63) (by omega) (by rw [er.1]; exact r64) (by rw [er.1]; exact r65) (by rw [er.1]; exact r66) bd2 (by rw [nI_toInt (by omega)]; omega)
      obtain ⟨r, r1, r2⟩ := ih (k + 1) (by omega) n hn2 (uI ν' (7 + (62 + 2 * i) + 1) k (amV μ x v days ln (nI k))) ⟨fun off ho => (hq.1 off ho).I ho, fun l hl => by
        rw [uI_at]
        by_cases e : l = k
        · rw [if_pos ⟨rfl, e⟩, e]
        · rw [if_neg (fun z => e z.2)]
          exact hq.2 l (by omega)⟩
      refine ⟨r, r1, ?_⟩
      unfold g_X0_newInvoice_L87
      rw [if_neg (by rw [le32, nI_toInt (by omega)]; show ¬ (4 : Int) ≤ (k : Int); omega), rb, bnd_s, asr_pos (vp_in_nI (by omega) (by decide)), bnd_s, cl_nI (by omega), nI1]
      exact r2
  obtain ⟨νr, ⟨cr1, cr2⟩, cr3⟩ := loopC 4 0 (by omega) 10000 (by omega) ν6 ⟨fun off _ => Eq3.rf ν6 off, fun l hl => absurd hl (by omega)⟩
  have hcls : g_X0_newInvoice ν x = some (nI i, uI νr 7 7 (nI (i + 1))) := by
    have n7 : ¬ 7 = 7 + (62 + 2 * i) := by omega
    have J : ∀ y0 y1 : Int32, y1 ||| y0 = ln → g_X0_newInvoice_J43 ν x ν days (7 + (62 + 2 * i)) y0 y1 (7 + (62 + 2 * i)) = some (nI i, uI νr 7 7 (nI (i + 1))) := fun y0 y1 hy => by
      unfold g_X0_newInvoice_J43
      rw [hy, bnd_s, bnd_s, bnd_s, bnd_s, bnd_s, bnd_s]
      have f10 : (uI (uI ν (7 + (62 + 2 * i)) 4 ln) (7 + (62 + 2 * i)) 1 x).1 7 10 = μ.1 1 5 := by
        rw [uI_at, if_neg (fun z => n7 z.1), uI_at, if_neg (fun z => n7 z.1)]
        exact hL.1.2.2.2.2.2
      have f9 : ∀ w : Int32, (uI (uI (uI ν (7 + (62 + 2 * i)) 4 ln) (7 + (62 + 2 * i)) 1 x) (7 + (62 + 2 * i)) 2 w).1 7 9 = nI v := fun w => by
        rw [uI_at, if_neg (fun z => n7 z.1), uI_at, if_neg (fun z => n7 z.1), uI_at, if_neg (fun z => n7 z.1)]
        exact hL.1.2.2.2.2.1.trans v1
      rw [f10, f9, ← e6]
      exact cr3
    unfold g_X0_newInvoice
    rw [billable_of hL hW ha, bnd_s, (sh_c hL).2.2.1, k1, asr_pos (vp_in_nI hroom (by decide)), billed_of hL hW, bnd_s, cl_nI (by omega), ← eday]
    by_cases z : days = 0
    · rw [if_pos z]
      exact J _ _ (by rw [eln, if_pos z])
    · rw [if_neg z]
      exact J _ _ (by rw [eln, if_neg z])
  -- the model
  obtain ⟨w0, w1, w2, w3, w4, w5, w6, w7⟩ := hW.2.2.2.2.2.2.2.2.2.2.2.1 i hroom
  have Fm : ∀ k (μ' : Mm), (∀ j, j < 617 + 10 * i + 6 ∨ 617 + 10 * i + 6 + k ≤ j → μ'.1 1 j = μ.1 1 j) → k ≤ 4 → ∀ j, j < 1377 ∧ j ≠ 2 ∧ (j < 617 + 10 * i ∨ 617 + 10 * i + 10 ≤ j) → μ'.1 1 j = μ.1 1 j := fun k μ' hq hk j hj => hq j (by omega)
  have LdM : ∀ k (μ' : Mm), k ≤ 3 → (∀ j, j < 617 + 10 * i + 6 ∨ 617 + 10 * i + 6 + k ≤ j → μ'.1 1 j = μ.1 1 j) → LdR ν 7 (μ'.1 1) (μ.2.1 3) := fun k μ' hk hq => by
    have e2 : μ'.1 1 2 = μ.1 1 2 := hq 2 (by omega)
    exact hL.invc (x := i) hW hroom (fun off _ _ _ _ _ => Eq3.rf ν off) (fun _ _ _ _ => rfl) ((sh_c hL).2.2.1.trans e2.symm) (Fm k μ' hq (by omega)) (fun y hy => Or.inr (by rw [e2] at hy; exact hy)) (fun hy => absurd hy (by rw [e2]; omega))
  have WfM : ∀ k (μ' : Mm), k ≤ 3 → (∀ j, j < 617 + 10 * i + 6 ∨ 617 + 10 * i + 6 + k ≤ j → μ'.1 1 j = μ.1 1 j) → (∀ l, l < k → μ'.1 1 (617 + 10 * i + (6 + l)) = amV μ x v days ln (nI l)) → Wf (μ'.1 1) := fun k μ' hk hq hl => by
    have e2 : μ'.1 1 2 = μ.1 1 2 := hq 2 (by omega)
    refine hW.invc (x := i) hroom (Fm k μ' hq (by omega)) (fun y hy => Or.inr (by rw [e2] at hy; exact hy)) (by rw [e2]; exact hW.1.2.2.1) ?_ (fun hy => absurd hy (by rw [e2]; omega))
    rw [hq (617 + 10 * i) (by omega), hq (617 + 10 * i + 1) (by omega), hq (617 + 10 * i + 2) (by omega), hq (617 + 10 * i + 3) (by omega), hq (617 + 10 * i + 4) (by omega), hq (617 + 10 * i + 5) (by omega)]
    refine ⟨w0, w1, w2, w3, w4, w5, fun l hl4 => ?_, w7⟩
    by_cases e : l < k
    · rw [hl l e]
      exact am_b l hl4
    · rw [hq _ (by omega)]
      exact w6 l hl4
  obtain ⟨f9v, e9v⟩ : ∃ g : Nat → Int32, ∀ k, g k = if k = 0 then x else if k = 1 then μ.1 1 5 else if k = 2 then nI v else if k = 3 then ln else if k = 4 then 0 else if k = 5 then days else amV μ x v days ln (nI (k - 6)) := ⟨_, fun _ => rfl⟩
  have IX : ∀ k, ((617 : Int32) + ((10 : Int32) * (μ.1 1 2))) + nI k = nI (617 + 10 * i + k) := fun k => ix_m k1 617 10 k
  have loopM : ∀ (d k : Nat), k + d = 3 → ∀ n, d + 1 ≤ n → ∀ μ', ((∀ off, off ≠ 1 → Eq3 μ μ' off) ∧ μ'.2 = μ.2 ∧ (∀ j, j < 617 + 10 * i + 6 ∨ 617 + 10 * i + 6 + k ≤ j → μ'.1 1 j = μ.1 1 j) ∧ ∀ l, l < k → μ'.1 1 (617 + 10 * i + (6 + l)) = amV μ x v days ln (nI l)) → ∃ r, ((∀ off, off ≠ 1 → Eq3 μ r off) ∧ r.2 = μ.2 ∧ (∀ j, j ≠ 2 → (j < 617 + 10 * i ∨ 617 + 10 * i + 10 ≤ j) → r.1 1 j = μ.1 1 j) ∧ r.1 1 2 = nI (i + 1) ∧ ∀ j, j < 10 → r.1 1 (617 + 10 * i + j) = f9v j) ∧ g_X12_billNow_L50 μ x n μ' days ln (nI k) = some (nI i, r) := by
    intro d
    induction d with
    | zero =>
      intro k hk n hn μ' hq
      obtain ⟨n, rfl, -⟩ := succ_n hn
      have ek : k = 3 := by omega
      subst ek
      obtain ⟨q1, q2, q3, q4⟩ := hq
      have ver : μ'.1 1 4 = nI v := (q3 4 (by omega)).trans v1
      have lo : f_X12_layOf μ' days (nI v) = amV μ x v days ln (nI 3) := by
        unfold f_X12_layOf
        rw [am3, show f_X12_ofVersion μ' (nI v) (11 : Int32) = μ'.1 1 (22 + 12 * v + 11) from ofV_eq rfl (by omega) rfl (by decide), q3 _ (by omega)]
      unfold g_X12_billNow_L50
      rw [if_pos (by decide), bnd_s, show f_X12_version μ' = nI v from ver, asr_pos (vp_in_nI hv21 (by decide)), bnd_s, lo]
      have A9 : (((617 : Int32) + ((10 : Int32) * (μ.1 1 2))) + (6 : Int32)) + (3 : Int32) = nI (617 + 10 * i + 9) := by
        rw [show ((617 : Int32) + ((10 : Int32) * (μ.1 1 2))) + (6 : Int32) = nI (617 + 10 * i + 6) from IX 6, show (3 : Int32) = nI 3 from rfl, nI_add]
      rw [A9, show ((617 : Int32) + ((10 : Int32) * (μ.1 1 2))) + (0 : Int32) = nI (617 + 10 * i + 0) from IX 0, show ((617 : Int32) + ((10 : Int32) * (μ.1 1 2))) + (1 : Int32) = nI (617 + 10 * i + 1) from IX 1, show ((617 : Int32) + ((10 : Int32) * (μ.1 1 2))) + (2 : Int32) = nI (617 + 10 * i + 2) from IX 2, show ((617 : Int32) + ((10 : Int32) * (μ.1 1 2))) + (3 : Int32) = nI (617 + 10 * i + 3) from IX 3, show ((617 : Int32) + ((10 : Int32) * (μ.1 1 2))) + (4 : Int32) = nI (617 + 10 * i + 4) from IX 4, show ((617 : Int32) + ((10 : Int32) * (μ.1 1 2))) + (5 : Int32) = nI (617 + 10 * i + 5) from IX 5]
      rw [asr_pos (vp_in_nI (by omega) (by decide)), bnd_s, asr_pos (vp_in_nI (by omega) (by decide)), bnd_s, asr_pos (vp_in_nI (by omega) (by decide)), bnd_s, bnd_s, asr_pos (vp_in_nI (by omega) (by decide)), bnd_s, asr_pos (vp_in_nI (by omega) (by decide)), bnd_s, asr_pos (vp_in_nI (by omega) (by decide)), bnd_s, asr_pos (vp_in_nI (by omega) (by decide)), bnd_s, bnd_s]
      rw [cl_nI (show 617 + 10 * i + 9 < 2 ^ 31 by omega), cl_nI (show 617 + 10 * i + 0 < 2 ^ 31 by omega), cl_nI (show 617 + 10 * i + 1 < 2 ^ 31 by omega), cl_nI (show 617 + 10 * i + 2 < 2 ^ 31 by omega), cl_nI (show 617 + 10 * i + 3 < 2 ^ 31 by omega), cl_nI (show 617 + 10 * i + 4 < 2 ^ 31 by omega), cl_nI (show 617 + 10 * i + 5 < 2 ^ 31 by omega)]
      have d5 : ∀ u w : Int32, (uI (uI μ' 1 (617 + 10 * i + 9) u) 1 (617 + 10 * i + 0) w).1 1 5 = μ.1 1 5 := fun u w => by
        rw [uI_at, if_neg (fun z => absurd z.2 (by omega)), uI_at, if_neg (fun z => absurd z.2 (by omega))]
        exact q3 5 (by omega)
      have d4 : ∀ u w y : Int32, f_X12_version (uI (uI (uI μ' 1 (617 + 10 * i + 9) u) 1 (617 + 10 * i + 0) w) 1 (617 + 10 * i + 1) y) = nI v := fun u w y => by
        show (uI (uI (uI μ' 1 (617 + 10 * i + 9) u) 1 (617 + 10 * i + 0) w) 1 (617 + 10 * i + 1) y).1 1 4 = _
        rw [uI_at, if_neg (fun z => absurd z.2 (by omega)), uI_at, if_neg (fun z => absurd z.2 (by omega)), uI_at, if_neg (fun z => absurd z.2 (by omega))]
        exact ver
      rw [d5, d4]
      have A : ∀ (x9 x0 x1 x2 x3 x4 x5 x10 : Int32) (k : Nat), (uI (uI (uI (uI (uI (uI (uI (uI μ' 1 (617 + 10 * i + 9) x9) 1 (617 + 10 * i + 0) x0) 1 (617 + 10 * i + 1) x1) 1 (617 + 10 * i + 2) x2) 1 (617 + 10 * i + 3) x3) 1 (617 + 10 * i + 4) x4) 1 (617 + 10 * i + 5) x5) 1 2 x10).1 1 k = if k = 2 then x10 else if k = 617 + 10 * i + 5 then x5 else if k = 617 + 10 * i + 4 then x4 else if k = 617 + 10 * i + 3 then x3 else if k = 617 + 10 * i + 2 then x2 else if k = 617 + 10 * i + 1 then x1 else if k = 617 + 10 * i + 0 then x0 else if k = 617 + 10 * i + 9 then x9 else μ'.1 1 k := fun x9 x0 x1 x2 x3 x4 x5 x10 k => by
        simp only [uI_at, true_and]
      have d2 : (uI (uI (uI (uI (uI (uI (uI μ' 1 (617 + 10 * i + 9) (amV μ x v days ln (nI 3))) 1 (617 + 10 * i + 0) x) 1 (617 + 10 * i + 1) (μ.1 1 5)) 1 (617 + 10 * i + 2) (nI v)) 1 (617 + 10 * i + 3) ln) 1 (617 + 10 * i + 4) 0) 1 (617 + 10 * i + 5) days).1 1 2 = nI i := by
        rw [uI_at, if_neg (fun z => absurd z.2 (by omega)), uI_at, if_neg (fun z => absurd z.2 (by omega)), uI_at, if_neg (fun z => absurd z.2 (by omega)), uI_at, if_neg (fun z => absurd z.2 (by omega)), uI_at, if_neg (fun z => absurd z.2 (by omega)), uI_at, if_neg (fun z => absurd z.2 (by omega)), uI_at, if_neg (fun z => absurd z.2 (by omega))]
        exact (q3 2 (by omega)).trans k1
      rw [d2, nI1]
      refine ⟨_, ⟨fun off ho => (((((((((q1 off ho).I ho).I ho).I ho).I ho).I ho).I ho).I ho).I ho), q2, fun j j2 hj => ?_, ?_, fun j hj => ?_⟩, by rw [k1]⟩
      · rw [A, if_neg j2, if_neg (by omega), if_neg (by omega), if_neg (by omega), if_neg (by omega), if_neg (by omega), if_neg (by omega), if_neg (by omega)]
        exact q3 j (by omega)
      · rw [A, if_pos rfl]
      · rw [A, e9v]
        match j, hj with
        | 0, _ => simp; omega
        | 1, _ => simp; omega
        | 2, _ => simp
        | 3, _ => simp
        | 4, _ => simp
        | 5, _ => simp
        | 6, _ => simp; exact q4 0 (by omega)
        | 7, _ => simp; exact q4 1 (by omega)
        | 8, _ => simp; exact q4 2 (by omega)
        | 9, _ => simp
        | j + 10, g => exact absurd g (by omega)
    | succ d ih =>
      intro k hk n hn μ' hq
      obtain ⟨n, rfl, hn2⟩ := succ_n hn
      obtain ⟨q1, q2, q3, q4⟩ := hq
      have ver : μ'.1 1 4 = nI v := (q3 4 (by omega)).trans v1
      have e1' : μ'.1 1 1 = μ.1 1 1 := q3 1 (by omega)
      have hw' := WfM k μ' (by omega) q3 q4
      have n3 : ¬ nI k = (3 : Int32) := fun z => absurd ((nI_eq (b := 3) (by omega) (by decide)).mp z) (by omega)
      have cs : f_X12_callLine μ' x (nI k) (nI v) = f_X12_callLine μ x (nI k) (nI v) := callLine_same hL hW (LdM k μ' (by omega) q3) hw' ha (by rw [e1']; exact ha) (by omega) (by rw [ver, cl_nI (by omega)]; exact Nat.le_refl v) (by rw [nI_toInt (by omega)]; omega) n3
      have am : amV μ x v days ln (nI k) = if f_X12_has ln (nI k) = true then f_X12_callLine μ x (nI k) (nI v) else 0 := by
        unfold amV
        rw [if_neg n3]
      have A : (((617 : Int32) + ((10 : Int32) * (μ.1 1 2))) + (6 : Int32)) + nI k = nI (617 + 10 * i + (6 + k)) := by
        rw [show ((617 : Int32) + ((10 : Int32) * (μ.1 1 2))) + (6 : Int32) = nI (617 + 10 * i + 6) from IX 6, nI_add, Nat.add_assoc (617 + 10 * i)]
      obtain ⟨r, r1, r2⟩ := ih (k + 1) (by omega) n hn2 (uI μ' 1 (617 + 10 * i + (6 + k)) (amV μ x v days ln (nI k))) ⟨fun off ho => (q1 off ho).I ho, q2, fun j hj => by
        rw [uI_at, if_neg (fun z => absurd z.2 (by omega))]
        exact q3 j (by omega), fun l hl => by
        rw [uI_at]
        by_cases e : l = k
        · rw [if_pos ⟨rfl, by omega⟩, e]
        · rw [if_neg (fun z => absurd z.2 (by omega))]
          exact q4 l (by omega)⟩
      refine ⟨r, r1, ?_⟩
      unfold g_X12_billNow_L50
      rw [if_neg (by rw [le32, nI_toInt (by omega)]; show ¬ (3 : Int) ≤ (k : Int); omega), bnd_s]
      by_cases z : f_X12_has ln (nI k) = true
      · rw [if_pos z] at am
        rw [if_pos z, bnd_s, asr_pos (okR_of hw'), asr_pos (by rw [x1]; exact vp_in_nI hx41 (by decide)), show f_X12_version μ' = nI v from ver, asr_pos (vp_in_nI hv21 (by decide)), bnd_s, cs, ← am, A, asr_pos (vp_in_nI (by omega) (by decide)), bnd_s, cl_nI (show 617 + 10 * i + (6 + k) < 2 ^ 31 by omega), nI1]
        exact r2
      · rw [if_neg z] at am
        rw [if_neg z, ← am, A, asr_pos (vp_in_nI (by omega) (by decide)), bnd_s, cl_nI (show 617 + 10 * i + (6 + k) < 2 ^ 31 by omega), nI1]
        exact r2
  obtain ⟨μr, ⟨m1, m2, m3, m4, m5⟩, m6⟩ := loopM 3 0 (by omega) 10000 (by omega) μ ⟨fun off _ => Eq3.rf μ off, rfl, fun _ _ => rfl, fun l hl => absurd hl (by omega)⟩
  have hmod : g_X12_billNow μ x = some (nI i, μr) := by
    unfold g_X12_billNow
    rw [asr_pos (okR_of hW), asr_pos (by rw [x1]; exact vp_in_nI hx41 (by decide)), bnd_s, bnd_s, ← eday]
    by_cases z : days = 0
    · rw [if_pos z]
      rw [if_pos z] at eln
      rw [← eln]
      exact m6
    · rw [if_neg z]
      rw [if_neg z] at eln
      rw [← eln]
      exact m6
  have F : ∀ j, j < 1377 ∧ j ≠ 2 ∧ (j < 617 + 10 * i ∨ 617 + 10 * i + 10 ≤ j) → μr.1 1 j = μ.1 1 j := fun j hj => m3 j hj.2.1 hj.2.2
  have hcn : ∀ y, y < cl (μr.1 1 2) → y = i ∨ y < cl (μ.1 1 2) := fun y hy => by
    rw [m4, cl_nI (by omega)] at hy
    omega
  have g0 : ∀ j, j < 10 → ∀ w, f9v j = w → μr.1 1 (617 + 10 * i + j) = w := fun j hj w hw => (m5 j hj).trans hw
  have h0 : μr.1 1 (617 + 10 * i) = x := g0 0 (by decide) _ (by rw [e9v]; rfl)
  have h1 : μr.1 1 (617 + 10 * i + 1) = μ.1 1 5 := g0 1 (by decide) _ (by rw [e9v]; rfl)
  have h2 : μr.1 1 (617 + 10 * i + 2) = nI v := g0 2 (by decide) _ (by rw [e9v]; rfl)
  have h3 : μr.1 1 (617 + 10 * i + 3) = ln := g0 3 (by decide) _ (by rw [e9v]; rfl)
  have h4 : μr.1 1 (617 + 10 * i + 4) = 0 := g0 4 (by decide) _ (by rw [e9v]; rfl)
  have h5 : μr.1 1 (617 + 10 * i + 5) = days := g0 5 (by decide) _ (by rw [e9v]; rfl)
  have h6 : ∀ l, l < 4 → μr.1 1 (617 + 10 * i + (6 + l)) = amV μ x v days ln (nI l) := fun l hl => g0 (6 + l) (by omega) _ (by
    rw [e9v, if_neg (by omega), if_neg (by omega), if_neg (by omega), if_neg (by omega), if_neg (by omega), if_neg (by omega), Nat.add_sub_cancel_left])
  have cE : ∀ off, off ≠ 7 → off ≠ 7 + (62 + 2 * i) → off ≠ 7 + (62 + 2 * i) + 1 → Eq3 ν (uI νr 7 7 (nI (i + 1))) off := fun off g1 g2 g3 => ((E6 off g2).tr (cr1 off g3)).I g1
  have rr : ∀ k, (uI νr 7 7 (nI (i + 1))).1 (7 + (62 + 2 * i)) k = ν6.1 (7 + (62 + 2 * i)) k := fun k => by
    rw [uI_at, if_neg (fun z => absurd z.1 (by omega)), (cr1 (7 + (62 + 2 * i)) (by omega)).1]
  refine ⟨_, _, hcls, hmod, ?_, ?_, m3 1 (by decide) (by omega), m4⟩
  · refine mkR h (Nat.le_refl n) (fun off ho => cE off (by omega) (by omega) (by omega)) (fun off g1 g2 g3 => m1 off g1) ?_ ?_ ?_
    · rw [show μr.2.1 3 = μ.2.1 3 from by rw [m2]]
      refine hL.invc (x := i) hW hroom (fun off g1 g2 g3 g4 g5 => cE off g3 g4 g5) (fun k g1 g2 g3 => ?_) ?_ F hcn (fun _ => ⟨fun k hk => ?_, fun l hl => ?_⟩)
      · rw [uI_at, if_neg (fun z => g3 z.2), (cr1 7 (by omega)).1, (E6 7 (by omega)).1]
      · rw [uI_at, if_pos ⟨rfl, rfl⟩, m4]
      · rw [rr]
        match k, hk with
        | 0, _ => exact r61.trans h0.symm
        | 1, _ => exact r62.trans h1.symm
        | 2, _ => exact r63.trans h2.symm
        | 3, _ => exact r64.trans h3.symm
        | 4, _ => exact r65.trans h4.symm
        | 5, _ => exact r66.trans h5.symm
        | k + 6, g => exact absurd g (by omega)
      · rw [uI_at, if_neg (fun z => absurd z.1 (by omega)), h6 l hl]
        exact cr2 l hl
    · refine hW.invc (x := i) hroom F hcn ?_ ?_ (fun _ => ?_)
      · rw [m4]
        exact ⟨by rw [nI_toInt (by omega)]; omega, by rw [nI_toInt (by omega)]; omega⟩
      · rw [h0, h1, h2, h3, h4, h5]
        refine ⟨⟨ha.1, by omega⟩, hW.1.2.2.2.2.2.1, ⟨by rw [nI_toInt (by omega)]; omega, by rw [nI_toInt (by omega)]; omega⟩, lnr, ⟨by decide, by decide⟩, bd1, fun l hl => ?_, ln3'⟩
        rw [h6 l hl]
        exact am_b l hl
      · rw [h0, h2]
        refine ⟨ha.2, ?_⟩
        rw [nI_toInt (by omega)]
        omega
    · rw [m2]
      exact hP
  · exact (m1 0 (by decide)).1
theorem s47 : Sm_47 RelP := by
  intro n ν μ hn hR a1
  obtain ⟨⟨hL, hW, hP⟩, -⟩ := id hR
  have e0 := (sh_c hL).2.1
  by_cases h : 0 ≤ a1.toInt ∧ a1.toInt < (μ.1 1 1).toInt
  · obtain ⟨i1, i2, i3, i4, i5⟩ := ix_of (hi := 40) h hW.1.2.1 (by decide)
    have m41 : vp_in a1 41 := by rw [i4]; exact vp_in_nI (by omega) (by decide)
    have g0 : ∀ z, bnd (g_X11_requireCall ν a1) z = (z (.ok ()) : Option (Thr (Int32 × Mm))) := fun z => by rw [rqC, e0, if_pos h, bnd_s]
    cases hb : f_X12_canBill μ a1 with
    | true =>
      obtain ⟨ν1, μ1, s1, s2, s3, s4, s5, s6⟩ := save_of (hR.th0 0)
      have ef : μ1.1 1 = μ.1 1 := (s5 1 (by decide) (by decide) (by decide)).1
      have hroom : cl (μ1.1 1 2) < 60 := by
        rw [ef]
        have k3 := (cl_of hW.1.2.2.1)
        have hne : ¬ μ.1 1 2 = 60 := fun z => by
          unfold f_X12_canBill at hb
          rw [if_pos z, ite_self] at hb
          cases hb
        have z60 : ((60 : Int32)).toInt = 60 := rfl
        rw [eq32, z60] at hne
        have w := hW.1.2.2.1.2
        omega
      obtain ⟨ν2, μ2, b1, b2, b3, b4, b5, b6⟩ := bill_step s3 (x := a1) (by rw [ef]; exact h) hroom
      refine wo_ok (v := nI (cl (μ1.1 1 2))) (b3.mono (Nat.le_succ n)) ?_ ?_ ?_
      · rw [b4, s6 0 (by decide)]
        rfl
      · unfold g_X11_bill
        rw [g0, bnx_ok, canBill_of hL hW h, bnd_s, hb]
        unfold g_X11_requireState
        rw [if_pos rfl, bnd_s, bnx_ok, s1, bnd_s, b1, bnd_s]
      · unfold g_X12_bill
        rw [bnd_s, bnd_s, isCall_eq hW, decide_eq_true h, if_pos rfl, asr_pos (okR_of hW), asr_pos m41, bnd_s, hb, if_pos rfl]
        unfold g_X12_bill_J22 g_X12_bill_J27
        rw [bnd_s, pz2]
        show bnd (g_X12_remember (uI μ 0 0 0)) _ = _
        rw [s2, bnd_s, b2, bnd_s]
    | false =>
      refine wo_er 3 2 hR ?_ ?_ (by simp) rfl (by decide)
      · unfold g_X11_bill
        rw [g0, bnx_ok, canBill_of hL hW h, bnd_s, hb]
        rfl
      · unfold g_X12_bill
        rw [bnd_s, bnd_s, isCall_eq hW, decide_eq_true h, if_pos rfl, asr_pos (okR_of hW), asr_pos m41, bnd_s, hb, if_neg (by decide)]
        unfold g_X12_bill_J27
        rw [bnd_s, pz2]
        rfl
  · refine wo_er 1 1 hR ?_ ?_ (by simp) rfl (by decide)
    · unfold g_X11_bill
      rw [rqC, e0, if_neg h]
      rfl
    · unfold g_X12_bill g_X12_bill_J22 g_X12_bill_J27
      rw [bnd_s, bnd_s, isCall_eq hW, decide_eq_false h, if_neg (by decide), bnd_s, pz2]
      rfl
theorem all_loop {N C : Nat} {ν0 μ0 : Mm} {a1 : Int32} (hC : C ≤ 40) : ∀ (d k : Nat), k + d = C → ∀ (n m : Nat), d + 1 ≤ n → d + 1 ≤ m → ∀ ν μ, RelP N ν μ → cl (μ.1 1 1) = C → ∀ had made : Nat, cl (μ.1 1 2) = made + had → ∃ ν2 μ2 z, g_X11_billAll_L20 ν0 a1 n ν (nI made) (nI k) = some (.ok (nI z, ν2)) ∧ g_X12_billAll_L27 μ0 a1 m μ (nI had) (nI k) = some (nI z, μ2) ∧ RelP N ν2 μ2 ∧ μ2.1 0 = μ.1 0 := by
  intro d
  induction d with
  | zero =>
    intro k hk n m hn1 hm1 ν μ hR hc had made hm
    obtain ⟨n, rfl, -⟩ := succ_n hn1
    obtain ⟨m, rfl, -⟩ := succ_n hm1
    obtain ⟨hL, hW, hP⟩ := id hR.1
    obtain ⟨c1, c2, c3⟩ := cl_of hW.1.2.1
    obtain ⟨k1, k2, k3⟩ := cl_of hW.1.2.2.1
    have g : (μ.1 1 1) ≤ nI k := by rw [le32, nI_toInt (by omega)]; omega
    refine ⟨ν, μ, made, ?_, ?_, hR, rfl⟩
    · unfold g_X11_billAll_L20
      rw [(sh_c hL).2.1, if_pos g]
    · unfold g_X12_billAll_L27
      rw [if_pos g, k1, hm, nI_sub]
  | succ d ih =>
    intro k hk n m hn1 hm1 ν μ hR hc had made hm
    obtain ⟨n, rfl, hn2⟩ := succ_n hn1
    obtain ⟨m, rfl, hm2⟩ := succ_n hm1
    obtain ⟨hL, hW, hP⟩ := id hR.1
    obtain ⟨c1, c2, c3⟩ := cl_of hW.1.2.1
    obtain ⟨k1, k2, k3⟩ := cl_of hW.1.2.2.1
    have hlt : k < cl (μ.1 1 1) := by omega
    have g : ¬ (μ.1 1 1) ≤ nI k := by rw [le32, nI_toInt (by omega)]; omega
    have ha : 0 ≤ (nI k).toInt ∧ (nI k).toInt < (μ.1 1 1).toInt := by rw [nI_toInt (by omega)]; omega
    have r0 : ν.1 (7 + (22 + k)) 0 = μ.1 1 (330 + 7 * k) := call_row hL hlt (k := 0) (by decide)
    have o0 : f_X12_ofCall μ (nI k) (0 : Int32) = μ.1 1 (330 + 7 * k) := ofCall_eq (k := 0) (by omega) (by decide)
    have cb := canBill_of hL hW ha
    have U : g_X11_billAll_L20 ν0 a1 (n + 1) ν (nI made) (nI k) = (if μ.1 1 (330 + 7 * k) = a1 then bnd (g_X0_canBill ν (nI k)) (fun q11 => (if q11 = true then bnd (g_X0_newInvoice ν (nI k)) (fun q14 => (g_X11_billAll_L20 ν0 a1 n q14.2 (nI (made + 1)) (nI (k + 1)))) else (g_X11_billAll_L20 ν0 a1 n ν (nI made) (nI (k + 1))))) else (g_X11_billAll_L20 ν0 a1 n ν (nI made) (nI (k + 1)))) := by
      conv => lhs; unfold g_X11_billAll_L20
      rw [(sh_c hL).2.1, if_neg g, asr_pos (vp_in_nI (by omega) (by decide)), cl_nI (by omega), r0, nI1, nI1]
    have V : g_X12_billAll_L27 μ0 a1 (m + 1) μ (nI had) (nI k) = (if μ.1 1 (330 + 7 * k) = a1 then (if f_X12_canBill μ (nI k) = true then bnd (g_X12_billNow μ (nI k)) (fun q21 => (g_X12_billAll_L27 μ0 a1 m q21.2 (nI had) (nI (k + 1)))) else (g_X12_billAll_L27 μ0 a1 m μ (nI had) (nI (k + 1)))) else (g_X12_billAll_L27 μ0 a1 m μ (nI had) (nI (k + 1)))) := by
      conv => lhs; unfold g_X12_billAll_L27
      rw [if_neg g, asr_pos (vp_in_nI (by omega) (by decide)), bnd_s, o0, asr_pos (okR_of hW), bnd_s, nI1]
    rw [U, V, cb, bnd_s]
    by_cases q : μ.1 1 (330 + 7 * k) = a1
    · rw [if_pos q, if_pos q]
      cases hb : f_X12_canBill μ (nI k) with
      | true =>
        have hroom : cl (μ.1 1 2) < 60 := by
          have hne : ¬ μ.1 1 2 = 60 := fun z => by
            unfold f_X12_canBill at hb
            rw [if_pos z, ite_self] at hb
            cases hb
          have z60 : ((60 : Int32)).toInt = 60 := rfl
          rw [eq32, z60] at hne
          have w := hW.1.2.2.1.2
          omega
        obtain ⟨ν2, μ2, b1, b2, b3, b4, b5, b6⟩ := bill_step hR ha hroom
        rw [if_pos rfl, if_pos rfl, b1, b2, bnd_s, bnd_s]
        obtain ⟨ν3, μ3, z, t1, t2, t3, t4⟩ := ih (k + 1) (by omega) n m hn2 hm2 ν2 μ2 b3 (by rw [b5]; exact hc) had (made + 1) (by rw [b6, cl_nI (by omega)]; omega)
        exact ⟨ν3, μ3, z, t1, t2, t3, t4.trans b4⟩
      | false =>
        rw [if_neg (by decide), if_neg (by decide)]
        exact ih (k + 1) (by omega) n m hn2 hm2 ν μ hR hc had made hm
    · rw [if_neg q, if_neg q]
      exact ih (k + 1) (by omega) n m hn2 hm2 ν μ hR hc had made hm
theorem s48 : Sm_48 RelP := by
  intro n ν μ hn hR a1
  obtain ⟨⟨hL, hW, hP⟩, -⟩ := id hR
  have e0 := (sh_c hL).1
  by_cases h : 0 ≤ a1.toInt ∧ a1.toInt < (μ.1 1 0).toInt
  · obtain ⟨ν1, μ1, s1, s2, s3, s4, s5, s6⟩ := save_of (hR.th0 0)
    have c3 := (cl_of s3.1.2.1.1.2.1).2.2
    have k1 := (cl_of s3.1.2.1.1.2.2.1).1
    obtain ⟨ν2, μ2, z, t1, t2, t3, t4⟩ := all_loop (C := cl (μ1.1 1 1)) (ν0 := ν) (μ0 := μ) (a1 := a1) (by omega) (cl (μ1.1 1 1)) 0 (by omega) 10000 10000 (by omega) (by omega) ν1 μ1 s3 rfl (cl (μ1.1 1 2)) 0 (by omega)
    refine wo_ok (v := nI z) (t3.mono (Nat.le_succ n)) ?_ ?_ ?_
    · rw [t4, s6 0 (by decide)]
      rfl
    · unfold g_X11_billAll
      rw [rqS, e0, if_pos h, bnd_s, bnx_ok, s1, bnd_s]
      exact t1
    · unfold g_X12_billAll
      rw [bnd_s, bnd_s, isShip_eq hW, decide_eq_true h, pz1]
      show bnd (g_X12_remember (uI μ 0 0 0)) _ = _
      rw [s2, bnd_s, k1]
      rw [← k1] at t2 ⊢
      exact t2
  · refine wo_er 1 1 hR ?_ ?_ rfl rfl (by decide)
    · unfold g_X11_billAll
      rw [rqS, e0, if_neg h]
      rfl
    · unfold g_X12_billAll
      rw [bnd_s, bnd_s, isShip_eq hW, decide_eq_false h, pz1]
      rfl
