/-! PURE. The lines of a call. -/
section LN
variable {ν μ : Mm} {p : Nat → Int64} {a : Int32}
/-- what a call's number gives: its row in both, its ship's -/
theorem call_at (hL : LdR ν 7 (μ.1 1) p) (hW : Wf (μ.1 1)) (ha : 0 ≤ a.toInt ∧ a.toInt < (μ.1 1 1).toInt) : vp_in a 40 ∧ cl a < 40 ∧ isCal (7 + (22 + cl a)) ∧ (∀ k, k < 7 → ν.1 (7 + (22 + cl a)) k = μ.1 1 (330 + 7 * cl a + k)) ∧ ((μ.1 1 (330 + 7 * cl a)).toInt < (μ.1 1 0).toInt ∧ 0 ≤ (μ.1 1 (330 + 7 * cl a)).toInt) := by
  obtain ⟨i1, i2, i3, i4, i5⟩ := ix_of (hi := 40) ha hW.1.2.1 (by decide)
  exact ⟨i3, i2, ⟨7, cl a, led7, i2, rfl⟩, fun k hk => call_row hL i1 hk, hW.2.2.2.2.2.2.2.2.2.2.1 _ i1, (hW.2.2.2.2.2.2.2.2.2.1 (cl a) (by omega)).1.1⟩
/-- how many days a call stays -/
theorem days_at (hW : Wf (μ.1 1)) (ha : cl a < 41) : ∃ k, k ≤ 30 ∧ ((μ.1 1 (330 + 7 * cl a + 2)) - (μ.1 1 (330 + 7 * cl a + 1))) + (1 : Int32) = nI k := by
  have w := hW.2.2.2.2.2.2.2.2.2.1 (cl a) ha
  have w1 := w.2.1
  have w2 := w.2.2.1
  have e1 : ((μ.1 1 (330 + 7 * cl a + 2)) - (μ.1 1 (330 + 7 * cl a + 1))).toInt = (μ.1 1 (330 + 7 * cl a + 2)).toInt - (μ.1 1 (330 + 7 * cl a + 1)).toInt := ti_sub (by have := w1.2; omega) (by have := w1.1; omega)
  have z1 : ((1 : Int32)).toInt = 1 := rfl
  have e2 : (((μ.1 1 (330 + 7 * cl a + 2)) - (μ.1 1 (330 + 7 * cl a + 1))) + (1 : Int32)).toInt = (μ.1 1 (330 + 7 * cl a + 2)).toInt - (μ.1 1 (330 + 7 * cl a + 1)).toInt + 1 := by
    rw [ti_add (by rw [e1, z1]; omega) (by rw [e1, z1]; omega), e1, z1]
  obtain ⟨c1, c2, c3⟩ := cl_of (x := ((μ.1 1 (330 + 7 * cl a + 2)) - (μ.1 1 (330 + 7 * cl a + 1))) + (1 : Int32)) (hi := 30) ⟨by rw [e2]; omega, by rw [e2]; omega⟩
  exact ⟨_, by omega, c1⟩
theorem free_at (hW : Wf (μ.1 1)) {v : Nat} (hv : v < 21) : ∃ j, j ≤ 30 ∧ μ.1 1 (22 + 12 * v + 10) = nI j := by
  have w := (hW.2.2.2.2.2.2.2.1 v hv).2.2.1
  obtain ⟨c1, c2, c3⟩ := cl_of w
  exact ⟨_, by omega, c1⟩
/-- the days that a version charges for a call -/
def laySetV (μ : Mm) (v : Nat) (a : Int32) : Int32 := f_X12_daysFrom (μ.1 1 (22 + 12 * v + 10)) (f_X12_daysOf μ a)
theorem laySet_v (hW : Wf (μ.1 1)) : f_X12_laySet μ a = laySetV μ (cl (μ.1 1 4)) a := rfl
theorem lay_cls (hL : LdR ν 7 (μ.1 1) p) (hW : Wf (μ.1 1)) (ha : 0 ≤ a.toInt ∧ a.toInt < (μ.1 1 1).toInt) {T v : Nat} (hT : TaR ν T (μ.1 1) v) (ht : isTar T) (hv : v < 21) : bnd (g_X2_days ν (7 + (22 + cl a))) (fun q => g_X10_laySet ν T q) = some (laySetV μ v a) := by
  obtain ⟨-, c2, c3, c4, -⟩ := call_at hL hW ha
  obtain ⟨k, hk, ek⟩ := days_at (a := a) hW (by omega)
  obtain ⟨j, hj, ej⟩ := free_at hW hv
  unfold g_X2_days
  rw [asr_pos c3, c4 2 (by decide), c4 1 (by decide)]
  show g_X10_laySet ν T _ = _
  rw [lay_eq ht (hT.1.2.2.2.2.2.2.1.trans ej) hj ek hk]
  unfold laySetV
  rw [ej, show f_X12_daysOf μ a = nI k from ek]
theorem layDays_of (hL : LdR ν 7 (μ.1 1) p) (hW : Wf (μ.1 1)) (ha : 0 ≤ a.toInt ∧ a.toInt < (μ.1 1 1).toInt) : g_X5_layDaysOf ν 7 a = some (f_X12_laySet μ a) := by
  obtain ⟨pe, pt, pT, pv⟩ := present_of hL hW led7
  obtain ⟨c1, -, -, -, -⟩ := call_at hL hW ha
  have h := lay_cls hL hW ha pT pt pv
  unfold g_X5_layDaysOf
  rw [asr_pos led7, pe]
  show asr _ _ = _
  rw [asr_pos pt, asr_pos c1]
  rw [laySet_v hW, ← h]
  unfold g_X2_days
  rw [asr_pos (call_at hL hW ha).2.2.1]
  show bnd (g_X10_laySet ν _ _) _ = g_X10_laySet ν _ _
  cases g_X10_laySet ν (7 + (222 + 5 * cl (μ.1 1 4))) (ν.1 (7 + (22 + cl a)) 2 - ν.1 (7 + (22 + cl a)) 1 + 1) <;> rfl
theorem cont_of (hL : LdR ν 7 (μ.1 1) p) (hW : Wf (μ.1 1)) (ha : 0 ≤ a.toInt ∧ a.toInt < (μ.1 1 1).toInt) : g_X2_contestedDays ν (7 + (22 + cl a)) = some (f_X12_contestedSet μ a) := by
  obtain ⟨-, -, c3, c4, -⟩ := call_at hL hW ha
  unfold g_X2_contestedDays
  rw [asr_pos c3, c4 5 (by decide), c4 6 (by decide)]
  rfl
/-- a line of a call by a version -/
def lineV (μ : Mm) (v : Nat) (a l r : Int32) : Int32 := if l = 3 then f_X12_bits (laySetV μ v a &&& (f_X12_contestedSet μ a ^^^ (-1 : Int32))) * μ.1 1 (22 + 12 * v + 11) else f_X12_lineOf μ (μ.1 1 (274 + 7 * cl (μ.1 1 (330 + 7 * cl a)))) r (μ.1 1 (330 + 7 * cl a + 3)) l (nI v)
theorem line_of (hL : LdR ν 7 (μ.1 1) p) (hW : Wf (μ.1 1)) (ha : 0 ≤ a.toInt ∧ a.toInt < (μ.1 1 1).toInt) {T v : Nat} (hT : TaR ν T (μ.1 1) v) (ht : isTar T) (hv : v < 21) {l r : Int32} (hl : 0 ≤ l.toInt ∧ l.toInt ≤ 3) : g_X5_lineAtRank ν 7 T a l r = some (lineV μ v a l r) := by
  obtain ⟨c1, c2, c3, c4, c5, c6⟩ := call_at hL hW ha
  obtain ⟨s1, s2, s3⟩ := cl_of (x := μ.1 1 (330 + 7 * cl a)) (hi := 7) (hW.2.2.2.2.2.2.2.2.2.1 (cl a) (by omega)).1
  obtain ⟨n1, n2, n3⟩ := cl_of hW.1.1
  have hsh := hL.2.1 (cl (μ.1 1 (330 + 7 * cl a))) (by omega)
  have ht0 := hW.2.2.2.2.2.2.2.2.1 (cl (μ.1 1 (330 + 7 * cl a))) (by omega)
  have r0 : ν.1 (7 + (22 + cl a)) 0 = μ.1 1 (330 + 7 * cl a) := c4 0 (by decide)
  have hd := dues_of (a4 := nI v) hW hT ht rfl (by omega) ht0
  have hp := percent_of (a4 := nI v) hW hT ht rfl (by omega) r
  have hlay := lay_cls hL hW ha hT ht hv
  obtain ⟨j, hj, ej, cj⟩ := sm_of (hi := 3) hl (by decide)
  unfold g_X5_lineAtRank lineV
  rw [asr_pos led7, asr_pos ht, asr_pos c1, r0, asr_pos (vp_of c6 (by omega) (by decide)), hsh.1, c4 3 (by decide), ej]
  match j, hj with
  | 0, _ =>
    rw [if_pos (show nI 0 = 0 from rfl), if_neg (show ¬ nI 0 = 3 by decide), hd]
    rfl
  | 1, _ =>
    rw [if_neg (show ¬ nI 1 = 0 by decide), if_pos (show nI 1 = 1 from rfl), if_neg (show ¬ nI 1 = 3 by decide)]
    unfold g_X10_rebateFor
    rw [asr_pos ht, hd, hp]
    rfl
  | 2, _ =>
    rw [if_neg (show ¬ nI 2 = 0 by decide), if_neg (show ¬ nI 2 = 1 by decide), if_pos (show nI 2 = 2 from rfl), if_neg (show ¬ nI 2 = 3 by decide), fee_of hT ht]
    rfl
  | 3, _ =>
    rw [if_neg (show ¬ nI 3 = 0 by decide), if_neg (show ¬ nI 3 = 1 by decide), if_neg (show ¬ nI 3 = 2 by decide), if_pos (show nI 3 = 3 from rfl), cont_of hL hW ha, hT.1.2.2.2.2.2.2.2]
    obtain ⟨q, hq⟩ : ∃ q, g_X2_days ν (7 + (22 + cl a)) = some q := by
      unfold g_X2_days
      rw [asr_pos c3]
      exact ⟨_, rfl⟩
    rw [hq] at hlay ⊢
    have hlay : g_X10_laySet ν T q = some (laySetV μ v a) := hlay
    show bnd (g_X10_laySet ν T q) _ = _
    rw [hlay]
    show bnd (g_J6_bitCount_0f7a4 (laySetV μ v a &&& (f_X12_contestedSet μ a ^^^ (-1 : Int32)))) (fun q25 => some (μ.1 1 (22 + 12 * v + 11) * q25)) = _
    rw [bitCount_eq, Int32.mul_comm]
    rfl
  | j + 4, g => exact absurd g (by omega)
end LN
