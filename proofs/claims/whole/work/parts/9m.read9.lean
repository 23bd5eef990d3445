/-! PURE. count, isStale, staleCount, busiestYear, callsToRebate. -/
section C6
variable {ν μ : Mm} {p : Nat → Int64}
theorem pend_loop (hL : LdR ν 7 (μ.1 1) p) (hW : Wf (μ.1 1)) {a1 : Int32} (e : (f_X12_passes μ (f_X12_in a1.toInt64 (0 : Int64) (8 : Int64))).2 = uI μ 0 0 0) : ∀ (d k : Nat), k + d = cl (μ.1 1 1) → ∀ (n m : Nat), d + 1 ≤ n → d + 1 ≤ m → ∀ x : Int32, ∃ y, g_X5_pendingDays_L4 ν 7 n x (nI k) = some y ∧ f_X12_count_L35 μ a1 m x (nI k) = (y, uI μ 0 0 0) := by
  obtain ⟨c1, c2, c3⟩ := cl_of hW.1.2.1
  have e0 : ν.1 7 6 = μ.1 1 1 := (sh_c hL).2.1
  intro d
  induction d with
  | zero =>
    intro k hk n m hn1 hm1 x
    obtain ⟨n, rfl, -⟩ := succ_n hn1
    obtain ⟨m, rfl, -⟩ := succ_n hm1
    have g : (μ.1 1 1) ≤ nI k := by rw [le32, nI_toInt (by omega)]; omega
    refine ⟨x, ?_, ?_⟩
    · unfold g_X5_pendingDays_L4
      rw [e0, if_pos g]
    · unfold f_X12_count_L35
      rw [e]
      exact if_pos g
  | succ d ih =>
    intro k hk n m hn1 hm1 x
    obtain ⟨n, rfl, hn2⟩ := succ_n hn1
    obtain ⟨m, rfl, hm2⟩ := succ_n hm1
    have hlt : k < cl (μ.1 1 1) := by omega
    have g : ¬ (μ.1 1 1) ≤ nI k := by rw [le32, nI_toInt (by omega)]; omega
    obtain ⟨y, h1, h2⟩ := ih (k + 1) (by omega) n m hn2 hm2 (x + f_X12_bits (μ.1 1 (330 + 7 * k + 5)))
    refine ⟨y, ?_, ?_⟩
    · unfold g_X5_pendingDays_L4
      rw [e0, if_neg g, asr_pos (vp_in_nI (by omega) (by decide)), cl_nI (by omega), call_row hL hlt (k := 5) (by decide), bitCount_eq, bnd_s, nI1]
      exact h1
    · unfold f_X12_count_L35
      rw [e]
      have o5 : f_X12_ofCall (uI μ 0 0 0) (nI k) (5 : Int32) = μ.1 1 (330 + 7 * k + 5) := ofCall_eq (μ := uI μ 0 0 0) (k := 5) (by omega) (by decide)
      rw [o5, nI1]
      exact (if_neg g).trans h2
end C6
theorem s6 : Sm_6 RelP := by
  intro n ν μ hn hR a1
  obtain ⟨⟨hL, hW, hP⟩, -⟩ := id hR
  obtain ⟨pe, pt, pT, pv⟩ := present_of hL hW led7
  have c3 := (cl_of hW.1.2.1).2.2
  have e8 : f_X12_in a1.toInt64 (0 : Int64) (8 : Int64) = decide (0 ≤ a1.toInt ∧ a1.toInt ≤ 8) := inX_eq
  by_cases h : 0 ≤ a1.toInt ∧ a1.toInt ≤ 8
  · have ep : (f_X12_passes μ (f_X12_in a1.toInt64 (0 : Int64) (8 : Int64))).2 = uI μ 0 0 0 := by rw [e8, decide_eq_true h, pz1]; rfl
    obtain ⟨y, y1, y2⟩ := pend_loop hL hW ep (cl (μ.1 1 1)) 0 (by omega) 10000 42 (by omega) (by omega) 0
    refine ro_ok (v := if (8 : Int32) ≤ a1 then y else μ.1 1 (cl a1)) hR ?_ ?_
    · unfold g_X11_count
      rw [rqR]
      show bnd (some (if 0 ≤ a1.toInt ∧ a1.toInt ≤ 8 then _ else _)) _ = _
      rw [if_pos h, bnd_s, bnx_ok]
      obtain ⟨j, hj, ej, cj⟩ := sm_of (hi := 8) h (by decide)
      obtain ⟨q0, q1, q2, q3, q4, q5⟩ := hL.1
      rw [cj, ej]
      match j, hj with
      | 0, _ => exact congrArg (fun x => some (Except.ok x)) q0
      | 1, _ => exact congrArg (fun x => some (Except.ok x)) q1
      | 2, _ => exact congrArg (fun x => some (Except.ok x)) q2
      | 3, _ => exact congrArg (fun x => some (Except.ok x)) q3
      | 4, _ => exact congrArg (fun x => some (Except.ok x)) q4
      | 5, _ => exact congrArg (fun x => some (Except.ok x)) q5
      | 6, _ =>
        show bnd (g_X5_present ν 7) _ = _
        rw [pe, bnd_s, asr_pos pt]
        exact congrArg (fun x => some (Except.ok x)) pT.1.1
      | 7, _ =>
        show bnd (g_X5_present ν 7) _ = _
        rw [pe, bnd_s, asr_pos pt]
        exact congrArg (fun x => some (Except.ok x)) pT.1.2.1
      | 8, _ =>
        show bnd (g_X5_pendingDays ν 7) _ = _
        unfold g_X5_pendingDays
        rw [asr_pos led7, show g_X5_pendingDays_L4 ν 7 10000 (0 : Int32) (0 : Int32) = some y from y1]
        rfl
      | j + 9, g => exact absurd g (by omega)
    · unfold f_X12_count
      rw [ep, show (f_X12_passes μ (f_X12_in a1.toInt64 (0 : Int64) (8 : Int64))).1 = true from by rw [e8, decide_eq_true h, pz1], show f_X12_count_L35 μ a1 42 (0 : Int32) (0 : Int32) = (y, uI μ 0 0 0) from y2]
      show (if (8 : Int32) ≤ a1 then _ else _) = _
      split
      · rfl
      · rfl
  · refine ro_er 2 1 hR ?_ ?_ rfl rfl (by decide)
    · unfold g_X11_count
      rw [rqR]
      show bnd (some (if 0 ≤ a1.toInt ∧ a1.toInt ≤ 8 then _ else _)) _ = _
      rw [if_neg h]
      rfl
    · unfold f_X12_count
      rw [e8, pz1, decide_eq_false h]
      rfl
section ST
variable {ν μ : Mm} {p : Nat → Int64}
theorem old_true (i : Int32) : ∀ (d k : Nat), k + d = 4 → ∀ m, d + 1 ≤ m → f_X12_isOld_L4 μ i m true (nI k) = true := by
  intro d
  induction d with
  | zero =>
    intro k hk m hm
    obtain ⟨m, rfl, -⟩ := succ_n hm
    unfold f_X12_isOld_L4
    exact if_pos (by rw [le32, nI_toInt (by omega)]; show (4 : Int) ≤ k; omega)
  | succ d ih =>
    intro k hk m hm
    obtain ⟨m, rfl, hm2⟩ := succ_n hm
    unfold f_X12_isOld_L4
    rw [if_neg (by rw [le32, nI_toInt (by omega)]; show ¬ (4 : Int) ≤ k; omega), if_pos rfl, nI1]
    exact ih (k + 1) (by omega) m hm2
theorem old_loop (hL : LdR ν 7 (μ.1 1) p) (hW : Wf (μ.1 1)) {i : Nat} (hi : i < cl (μ.1 1 2)) : ∀ (d k : Nat), k + d = 4 → ∀ (n m : Nat), d + 1 ≤ n → d + 1 ≤ m → g_X0_differsFromRebuilt_L12 ν (nI i) n (7 + (62 + 2 * i)) (nI k) = some (f_X12_isOld_L4 μ (nI i) m false (nI k)) := by
  obtain ⟨h60, h1, h2, h3, -⟩ := inv_at hL hW hi
  intro d
  induction d with
  | zero =>
    intro k hk n m hn1 hm1
    obtain ⟨n, rfl, -⟩ := succ_n hn1
    obtain ⟨m, rfl, -⟩ := succ_n hm1
    have g : (4 : Int32) ≤ nI k := by rw [le32, nI_toInt (by omega)]; show (4 : Int) ≤ k; omega
    unfold g_X0_differsFromRebuilt_L12 f_X12_isOld_L4
    rw [if_pos g, if_pos g]
  | succ d ih =>
    intro k hk n m hn1 hm1
    obtain ⟨n, rfl, hn2⟩ := succ_n hn1
    obtain ⟨m, rfl, hm2⟩ := succ_n hm1
    have g : ¬ (4 : Int32) ≤ nI k := by rw [le32, nI_toInt (by omega)]; show ¬ (4 : Int) ≤ k; omega
    have I0 := ih (k + 1) (by omega) n m hn2 hm2
    have rb := rebuilt_of hL hW hi (l := nI k) (by rw [nI_toInt (by omega)]; omega)
    have li : f_X12_lineIn μ (nI i) (nI k) = μ.1 1 (617 + 10 * i + (6 + k)) := by
      unfold f_X12_lineIn
      rw [show (6 : Int32) = nI 6 from rfl, nI_add]
      exact ofInv_eq (by omega) (by omega)
    unfold g_X0_differsFromRebuilt_L12 f_X12_isOld_L4
    rw [if_neg g, if_neg g, stands_of hL hW hi, bnd_s, nI1, if_neg (show ¬ false = true by decide)]
    by_cases q : f_X12_has (f_X12_livingLines μ (nI i)) (nI k) = true
    · rw [if_pos q, if_pos q, asr_pos (vp_in_nI (by omega) (by decide)), rb, bnd_s, cl_nI (by omega), h3 k (by omega), li]
      by_cases q2 : μ.1 1 (617 + 10 * i + (6 + k)) = f_X12_rebuiltOf μ (nI i) (nI k)
      · rw [if_pos q2, if_pos q2]
        exact I0
      · rw [if_neg q2, if_neg q2, old_true (nI i) d (k + 1) (by omega) m hm2]
    · rw [if_neg q, if_neg q]
      exact I0
theorem old_of (hL : LdR ν 7 (μ.1 1) p) (hW : Wf (μ.1 1)) {i : Nat} (hi : i < cl (μ.1 1 2)) : g_X0_differsFromRebuilt ν (nI i) = some (f_X12_isOld μ (nI i)) := by
  obtain ⟨h60, -⟩ := inv_at hL hW hi
  unfold g_X0_differsFromRebuilt
  rw [asr_pos (vp_in_nI h60 (by decide)), cl_nI (by omega)]
  exact old_loop hL hW hi 4 0 (by omega) 10000 5 (by omega) (by omega)
theorem stale_loop (hL : LdR ν 7 (μ.1 1) p) (hW : Wf (μ.1 1)) : ∀ (d k : Nat), k + d = cl (μ.1 1 2) → ∀ (n m : Nat), d + 1 ≤ n → d + 1 ≤ m → ∀ x : Int32, ∃ y, g_X11_staleCount_L4 ν n x (nI k) = some y ∧ f_X12_staleCount_L9 μ m x (nI k) = (y, uI μ 0 0 0) := by
  obtain ⟨c1, c2, c3⟩ := cl_of hW.1.2.2.1
  have e0 : ν.1 7 7 = μ.1 1 2 := (sh_c hL).2.2.1
  intro d
  induction d with
  | zero =>
    intro k hk n m hn1 hm1 x
    obtain ⟨n, rfl, -⟩ := succ_n hn1
    obtain ⟨m, rfl, -⟩ := succ_n hm1
    have g : (μ.1 1 2) ≤ nI k := by rw [le32, nI_toInt (by omega)]; omega
    refine ⟨x, ?_, ?_⟩
    · unfold g_X11_staleCount_L4
      rw [e0, if_pos g]
    · unfold f_X12_staleCount_L9
      exact if_pos g
  | succ d ih =>
    intro k hk n m hn1 hm1 x
    obtain ⟨n, rfl, hn2⟩ := succ_n hn1
    obtain ⟨m, rfl, hm2⟩ := succ_n hm1
    have hlt : k < cl (μ.1 1 2) := by omega
    have g : ¬ (μ.1 1 2) ≤ nI k := by rw [le32, nI_toInt (by omega)]; omega
    have od := old_of (μ := uI μ 0 0 0) hL hW hlt
    by_cases q : f_X12_isOld (uI μ 0 0 0) (nI k) = true
    · obtain ⟨y, h1, h2⟩ := ih (k + 1) (by omega) n m hn2 hm2 (x + 1)
      refine ⟨y, ?_, ?_⟩
      · unfold g_X11_staleCount_L4
        rw [e0, if_neg g, od, bnd_s, if_pos q, nI1]
        exact h1
      · unfold f_X12_staleCount_L9
        rw [if_pos q, nI1]
        exact (if_neg g).trans h2
    · obtain ⟨y, h1, h2⟩ := ih (k + 1) (by omega) n m hn2 hm2 x
      refine ⟨y, ?_, ?_⟩
      · unfold g_X11_staleCount_L4
        rw [e0, if_neg g, od, bnd_s, if_neg q, nI1]
        exact h1
      · unfold f_X12_staleCount_L9
        rw [if_neg q, nI1, Int32.add_zero]
        exact (if_neg g).trans h2
end ST
theorem s30 : Sm_30 RelP := by
  intro n ν μ hn hR
  obtain ⟨⟨hL, hW, hP⟩, -⟩ := id hR
  have c3 := (cl_of hW.1.2.2.1).2.2
  obtain ⟨y, h1, h2⟩ := stale_loop hL hW (cl (μ.1 1 2)) 0 (by omega) 10000 61 (by omega) (by omega) 0
  exact ⟨y, _, h1, h2, rfl, hR.thr 0⟩
theorem s29 : Sm_29 RelP := by
  intro n ν μ hn hR a1
  obtain ⟨⟨hL, hW, hP⟩, -⟩ := id hR
  have e0 := (sh_c hL).2.2.1
  by_cases h : 0 ≤ a1.toInt ∧ a1.toInt < (μ.1 1 2).toInt
  · obtain ⟨i1, i2, i3, i4, i5⟩ := ix_of (hi := 60) h hW.1.2.2.1 (by decide)
    have od := old_of (μ := uI μ 0 0 0) hL hW i1
    rw [← i4] at od
    refine ⟨.ok (f_X12_isOld (uI μ 0 0 0) a1), (f_X12_isOld (uI μ 0 0 0) a1, uI μ 0 0 0), ?_, fun k h => (by cases h), ?_, rfl, fun _ _ => rfl, hR.thr 0⟩
    · unfold g_X11_isStale
      rw [rqV, e0, if_pos h, bnd_s, bnx_ok, od]
      rfl
    · unfold f_X12_isStale
      rw [isInv_eq hW, pz1, decide_eq_true h]
      show (if f_X12_isOld (uI μ 0 0 0) a1 = true then _ else _) = _
      cases f_X12_isOld (uI μ 0 0 0) a1 <;> rfl
  · refine ⟨.error 1, (false, uI μ 0 0 1), ?_, fun k h => (by cases h; rfl), ?_, rfl, fun _ g => absurd g (by decide), hR.thr 1⟩
    · unfold g_X11_isStale
      rw [rqV, e0, if_neg h]
      rfl
    · unfold f_X12_isStale
      rw [isInv_eq hW, pz1, decide_eq_false h]
      rfl
section BY
variable {ν μ : Mm} {p : Nat → Int64}
theorem busy_loop (hL : LdR ν 7 (μ.1 1) p) (hW : Wf (μ.1 1)) {a1 : Int32} (e : (f_X12_passes μ (f_X12_isShip μ a1)).2 = uI μ 0 0 0) : ∀ (d k : Nat), k + d = 10 → ∀ (n m : Nat), d + 1 ≤ n → d + 1 ≤ m → ∀ b : Nat, b < 10 → ∃ y, g_X11_busiestYear_L9 ν a1 n (nI b) (nI k) = some (.ok y) ∧ f_X12_busiestYear_L18 μ a1 m (nI b) (nI k) = (y, uI μ 0 0 0) := by
  intro d
  induction d with
  | zero =>
    intro k hk n m hn1 hm1 b hb
    obtain ⟨n, rfl, -⟩ := succ_n hn1
    obtain ⟨m, rfl, -⟩ := succ_n hm1
    have g : (10 : Int32) ≤ nI k := by rw [le32, nI_toInt (by omega)]; show (10 : Int) ≤ k; omega
    refine ⟨nI b, ?_, ?_⟩
    · unfold g_X11_busiestYear_L9
      rw [if_pos g]
    · unfold f_X12_busiestYear_L18
      rw [if_pos g, e]
  | succ d ih =>
    intro k hk n m hn1 hm1 b hb
    obtain ⟨n, rfl, hn2⟩ := succ_n hn1
    obtain ⟨m, rfl, hm2⟩ := succ_n hm1
    have g : ¬ (10 : Int32) ≤ nI k := by rw [le32, nI_toInt (by omega)]; show ¬ (10 : Int) ≤ k; omega
    have k1 := callsIn_of (μ := uI μ 0 0 0) (s := a1) (y := nI k) hL hW (by rw [nI_toInt (by omega)]; omega) (by rw [nI_toInt (by omega)]; omega)
    have k2 := callsIn_of (μ := uI μ 0 0 0) (s := a1) (y := nI b) hL hW (by rw [nI_toInt (by omega)]; omega) (by rw [nI_toInt (by omega)]; omega)
    by_cases q : f_X12_callsIn (uI μ 0 0 0) a1 (nI k) ≤ f_X12_callsIn (uI μ 0 0 0) a1 (nI b)
    · obtain ⟨y, h1, h2⟩ := ih (k + 1) (by omega) n m hn2 hm2 b hb
      refine ⟨y, ?_, ?_⟩
      · unfold g_X11_busiestYear_L9
        rw [if_neg g, k1, bnd_s, k2, bnd_s, if_pos q, nI1]
        exact h1
      · unfold f_X12_busiestYear_L18
        rw [if_neg g, e, if_pos q, nI1]
        exact h2
    · obtain ⟨y, h1, h2⟩ := ih (k + 1) (by omega) n m hn2 hm2 k (by omega)
      refine ⟨y, ?_, ?_⟩
      · unfold g_X11_busiestYear_L9
        rw [if_neg g, k1, bnd_s, k2, bnd_s, if_neg q, nI1]
        exact h1
      · unfold f_X12_busiestYear_L18
        rw [if_neg g, e, if_neg q, nI1]
        exact h2
end BY
theorem s42 : Sm_42 RelP := by
  intro n ν μ hn hR a1
  obtain ⟨⟨hL, hW, hP⟩, -⟩ := id hR
  have e0 := (sh_c hL).1
  by_cases h : 0 ≤ a1.toInt ∧ a1.toInt < (μ.1 1 0).toInt
  · have ep : (f_X12_passes μ (f_X12_isShip μ a1)).2 = uI μ 0 0 0 := by rw [isShip_eq hW, decide_eq_true h, pz1]; rfl
    obtain ⟨y, y1, y2⟩ := busy_loop hL hW ep 9 1 (by omega) 10000 11 (by omega) (by omega) 0 (by omega)
    refine ro_ok (v := y) hR ?_ ?_
    · unfold g_X11_busiestYear
      rw [rqS, e0, if_pos h, bnd_s, bnx_ok]
      exact y1
    · unfold f_X12_busiestYear
      rw [show (f_X12_passes μ (f_X12_isShip μ a1)).1 = true from by rw [isShip_eq hW, decide_eq_true h, pz1], if_pos rfl]
      exact y2
  · refine ro_er 1 1 hR ?_ ?_ rfl rfl (by decide)
    · unfold g_X11_busiestYear
      rw [rqS, e0, if_neg h]
      rfl
    · unfold f_X12_busiestYear
      rw [isShip_eq hW, pz1, decide_eq_false h]
      rfl
section CR
variable {ν μ : Mm} {p : Nat → Int64}
theorem pc_loop (hW : Wf (μ.1 1)) {r1 r2 v : Int32} (h1 : 99 ≤ r1.toInt) (h2 : 99 ≤ r2.toInt) : ∀ (m k : Nat) (x : Int32), f_X12_percentOf_L5 μ r1 v m x (nI k) = f_X12_percentOf_L5 μ r2 v m x (nI k) := by
  obtain ⟨c1, c2, c3⟩ := cl_of hW.1.2.2.2.2.2.2.2.1
  intro m
  induction m with
  | zero => intro k x; rfl
  | succ m ih =>
    intro k x
    unfold f_X12_percentOf_L5
    by_cases g : (μ.1 1 7) ≤ nI k
    · rw [if_pos g, if_pos g]
    · rw [if_neg g, if_neg g, nI1]
      by_cases hk : k < 2 ^ 31
      · have hk4 : k < 4 := by rw [le32, nI_toInt hk] at g; omega
        have w := (hW.2.2.2.2.1 k hk4).2
        rw [cl_nI hk, if_neg (by rw [lt32]; omega), if_neg (by rw [lt32]; omega)]
        exact ih (k + 1) _
      · have w : (μ.1 1 (18 + cl (nI k))).toInt ≤ 99 := by
          by_cases g0 : 0 ≤ (nI k).toInt
          · have : (nI k).toInt < 4 := by rw [le32] at g; omega
            obtain ⟨-, d2, -⟩ := cl_of (x := nI k) (hi := (nI k).toInt) ⟨g0, Int.le_refl _⟩
            exact (hW.2.2.2.2.1 (cl (nI k)) (by omega)).2
          · have : cl (nI k) = 0 := by
              show (nI k).toInt.toNat = 0
              omega
            rw [this]
            exact (hW.2.2.2.2.1 0 (by decide)).2
        rw [if_neg (by rw [lt32]; omega), if_neg (by rw [lt32]; omega)]
        exact ih (k + 1) _
theorem pc_same (hW : Wf (μ.1 1)) {r1 r2 v : Int32} (h1 : 99 ≤ r1.toInt) (h2 : 99 ≤ r2.toInt) : f_X12_percentOf μ r1 v = f_X12_percentOf μ r2 v := pc_loop hW h1 h2 5 0 0
/-- behind the 99th call nothing changes: the class's loop finds nothing more -/
theorem cr_end (hW : Wf (μ.1 1)) {T v : Nat} {a1 a2 now : Int32} (hT : TaR ν T (μ.1 1) v) (ht : isTar T) (hv2 : v < 100) {r : Nat} (hr : r ≤ 40) (hp : f_X12_percentOf μ (nI 99) (nI v) ≤ now) : ∀ (d k : Nat), k + d = 100 → 99 ≤ r + k → ∀ n, d + 1 ≤ n → g_X11_callsToRebate_L42 ν a1 a2 n T (nI r) now (nI k) = some (.ok (-1)) := by
  intro d
  induction d with
  | zero =>
    intro k hk hk2 n hn1
    obtain ⟨n, rfl, -⟩ := succ_n hn1
    unfold g_X11_callsToRebate_L42
    rw [if_pos (by rw [lt32, nI_toInt (by omega)]; show (99 : Int) < k; omega)]
  | succ d ih =>
    intro k hk hk2 n hn1
    obtain ⟨n, rfl, hn2⟩ := succ_n hn1
    unfold g_X11_callsToRebate_L42
    rw [if_neg (by rw [lt32, nI_toInt (by omega)]; show ¬ (99 : Int) < k; omega), percent_of hW hT ht rfl hv2, bnd_s, nI_add, pc_same (r2 := nI 99) hW (by rw [nI_toInt (by omega)]; omega) (by decide), if_pos hp, nI1]
    exact ih (k + 1) (by omega) (by omega) n hn2
theorem cr_loop {μ0 : Mm} (hW : Wf (μ.1 1)) (hO : OkR (μ.1 1)) {T v : Nat} {a1 a2 now : Int32} (hT : TaR ν T (μ.1 1) v) (ht : isTar T) (hv : μ.1 1 4 = nI v) (hv2 : v < 21) {r : Nat} (hr : r ≤ 40) : ∀ (d k : Nat), r + k + d = 100 → 1 ≤ k → (r + k = 100 → f_X12_percentOf μ (nI 99) (nI v) ≤ now) → ∀ (n m : Nat), d + 101 ≤ n → d + 1 ≤ m → ∃ y, g_X11_callsToRebate_L42 ν a1 a2 n T (nI r) now (nI k) = some (.ok y) ∧ g_X12_callsToRebate_L39 μ0 a1 a2 m μ (nI r) now (nI k) = some (y, μ) := by
  intro d
  induction d with
  | zero =>
    intro k hk hk1 hp n m hn1 hm1
    obtain ⟨m, rfl, -⟩ := succ_n hm1
    refine ⟨-1, cr_end hW hT ht (by omega) hr (hp (by omega)) (100 - k) k (by omega) (by omega) n (by omega), ?_⟩
    unfold g_X12_callsToRebate_L39
    rw [nI_add, if_pos (by rw [lt32, nI_toInt (by omega)]; show (99 : Int) < ((r + k : Nat) : Int); omega)]
  | succ d ih =>
    intro k hk hk1 hp n m hn1 hm1
    obtain ⟨n, rfl, hn2⟩ : ∃ n', n = n' + 1 ∧ d + 101 ≤ n' := ⟨n - 1, by omega, by omega⟩
    obtain ⟨m, rfl, hm2⟩ := succ_n hm1
    by_cases q : f_X12_percentOf μ (nI (r + k)) (nI v) ≤ now
    · obtain ⟨y, h1, h2⟩ := ih (k + 1) (by omega) (by omega) (fun e => by
        have e9 : r + k = 99 := by omega
        rw [e9] at q
        exact q) n m hn2 hm2
      refine ⟨y, ?_, ?_⟩
      · unfold g_X11_callsToRebate_L42
        rw [if_neg (by rw [lt32, nI_toInt (by omega)]; show ¬ (99 : Int) < k; omega), percent_of hW hT ht rfl (by omega), bnd_s, nI_add, if_pos q, nI1]
        exact h1
      · unfold g_X12_callsToRebate_L39
        rw [nI_add, if_neg (by rw [lt32, nI_toInt (by omega)]; show ¬ (99 : Int) < ((r + k : Nat) : Int); omega), bnd_s, asr_pos hO, show f_X12_version μ = nI v from hv, asr_pos (vp_in_nI hv2 (by decide)), bnd_s, if_pos q, nI1]
        exact h2
    · refine ⟨nI k, ?_, ?_⟩
      · unfold g_X11_callsToRebate_L42
        rw [if_neg (by rw [lt32, nI_toInt (by omega)]; show ¬ (99 : Int) < k; omega), percent_of hW hT ht rfl (by omega), bnd_s, nI_add, if_neg q]
      · unfold g_X12_callsToRebate_L39
        rw [nI_add, if_neg (by rw [lt32, nI_toInt (by omega)]; show ¬ (99 : Int) < ((r + k : Nat) : Int); omega), bnd_s, asr_pos hO, show f_X12_version μ = nI v from hv, asr_pos (vp_in_nI hv2 (by decide)), bnd_s, if_neg q]
/-- how many calls of a year there are, as a number -/
theorem ci_le (hW : Wf (μ.1 1)) {s y : Int32} : ∀ (d k : Nat), k + d = cl (μ.1 1 1) → ∀ (m : Nat), d + 1 ≤ m → ∀ x : Nat, x ≤ k → ∃ z, z ≤ cl (μ.1 1 1) ∧ f_X12_callsIn_L5 μ s y m (nI x) (nI k) = nI z := by
  obtain ⟨c1, c2, c3⟩ := cl_of hW.1.2.1
  intro d
  induction d with
  | zero =>
    intro k hk m hm x hx
    obtain ⟨m, rfl, -⟩ := succ_n hm
    unfold f_X12_callsIn_L5
    exact ⟨x, by omega, if_pos (by rw [le32, nI_toInt (by omega)]; omega)⟩
  | succ d ih =>
    intro k hk m hm x hx
    obtain ⟨m, rfl, hm2⟩ := succ_n hm
    have g : ¬ (μ.1 1 1) ≤ nI k := by rw [le32, nI_toInt (by omega)]; omega
    obtain ⟨z1, g1, h1⟩ := ih (k + 1) (by omega) m hm2 x (by omega)
    obtain ⟨z2, g2, h2⟩ := ih (k + 1) (by omega) m hm2 (x + 1) (by omega)
    unfold f_X12_callsIn_L5
    rw [if_neg g, nI1]
    split
    · split
      · exact ⟨z2, g2, by rw [nI1]; exact h2⟩
      · exact ⟨z1, g1, by rw [Int32.add_zero, nI1]; exact h1⟩
    · exact ⟨z1, g1, by rw [Int32.add_zero, nI1]; exact h1⟩
theorem ci_of (hW : Wf (μ.1 1)) (s y : Int32) : ∃ z, z ≤ 40 ∧ f_X12_callsIn μ s y = nI z := by
  have c3 := (cl_of hW.1.2.1).2.2
  obtain ⟨z, h1, h2⟩ := ci_le (s := s) (y := y) hW (cl (μ.1 1 1)) 0 (by omega) 42 (by omega) 0 (by omega)
  exact ⟨z, by omega, h2⟩
end CR
theorem s40 : Sm_40 RelP := by
  intro n ν μ hn hR a1 a2
  obtain ⟨⟨hL, hW, hP⟩, -⟩ := id hR
  obtain ⟨pe, pt, pT, pv⟩ := present_of hL hW led7
  obtain ⟨v1, v2, v3⟩ := cl_of hW.1.2.2.2.2.1
  have e0 := (sh_c hL).1
  by_cases h : 0 ≤ a1.toInt ∧ a1.toInt < (μ.1 1 0).toInt
  · by_cases h2 : 0 ≤ a2.toInt ∧ a2.toInt ≤ 9
    · obtain ⟨z, hz, ez⟩ := ci_of (μ := uI μ 0 0 0) hW a1 a2
      obtain ⟨y, y1, y2⟩ := cr_loop (μ := uI μ 0 0 0) (μ0 := μ) (a1 := a1) (a2 := a2) (now := f_X12_percentOf (uI μ 0 0 0) (nI z) (nI (cl (μ.1 1 4)))) hW (okR_of hW) pT pt v1 pv hz (99 - z) 1 (by omega) (by omega) (fun e => by omega) 10000 10000 (by omega) (by omega)
      refine ⟨.ok y, (y, uI μ 0 0 0), ?_, fun k h => (by cases h), ?_, rfl, fun _ _ => rfl, hR.thr 0⟩
      · unfold g_X11_callsToRebate
        rw [rqS, e0, if_pos h, bnd_s, bnx_ok, rqR]
        show bnd (some (if 0 ≤ a2.toInt ∧ a2.toInt ≤ 9 then _ else _)) _ = _
        rw [if_pos h2, bnd_s, bnx_ok, pe, bnd_s, asr_pos pt, callsIn_of (μ := uI μ 0 0 0) hL hW h2.1 (by have := h2.2; omega), bnd_s, ez, percent_of (μ := uI μ 0 0 0) hW pT pt rfl (by omega), bnd_s]
        exact y1
      · unfold g_X12_callsToRebate
        rw [bnd_s, bnd_s, bnd_s, isShip_eq hW, isYear_eq, decide_eq_true h, decide_eq_true h2, pz2]
        show asr (OkR (μ.1 1)) _ = _
        rw [asr_pos (okR_of hW), bnd_s, bnd_s]
        show asr (vp_in (μ.1 1 4) 21) _ = _
        rw [v1, asr_pos (vp_in_nI pv (by decide)), bnd_s]
        show g_X12_callsToRebate_L39 μ a1 a2 10000 (uI μ 0 0 0) (f_X12_callsIn (uI μ 0 0 0) a1 a2) (f_X12_percentOf (uI μ 0 0 0) (f_X12_callsIn (uI μ 0 0 0) a1 a2) (μ.1 1 4)) (nI 1) = _
        rw [ez, v1]
        exact y2
    · refine ⟨.error 2, (0, uI μ 0 0 2), ?_, fun k h => (by cases h; exact Or.inr rfl), ?_, rfl, fun _ g => absurd g (by decide), hR.thr 2⟩
      · unfold g_X11_callsToRebate
        rw [rqS, e0, if_pos h, bnd_s, bnx_ok, rqR]
        show bnd (some (if 0 ≤ a2.toInt ∧ a2.toInt ≤ 9 then _ else _)) _ = _
        rw [if_neg h2]
        rfl
      · unfold g_X12_callsToRebate
        rw [bnd_s, bnd_s, bnd_s, isShip_eq hW, isYear_eq, decide_eq_true h, decide_eq_false h2, pz2]
        rfl
  · refine ⟨.error 1, (0, uI μ 0 0 1), ?_, fun k h => (by cases h; exact Or.inl rfl), ?_, rfl, fun _ g => absurd g (by decide), hR.thr 1⟩
    · unfold g_X11_callsToRebate
      rw [rqS, e0, if_neg h]
      rfl
    · unfold g_X12_callsToRebate
      rw [bnd_s, bnd_s, bnd_s, isShip_eq hW, pz2, decide_eq_false h]
      rfl
