
theorem in_iff {a lo hi : Int64} : f_X12_in a lo hi = true ↔ lo ≤ a ∧ a ≤ hi := by
  unfold f_X12_in
  constructor
  · intro h
    split at h
    · cases h
    · split at h
      · cases h
      · rename_i h1 h2
        exact ⟨Int64.not_lt.mp h1, Int64.not_lt.mp h2⟩
  · intro ⟨h1, h2⟩
    rw [if_neg (Int64.not_lt.mpr h1), if_neg (Int64.not_lt.mpr h2)]
theorem wide_le (a b : Int32) : a.toInt64 ≤ b.toInt64 ↔ a ≤ b := by
  rw [Int64.le_iff_toInt_le, Int32.le_iff_toInt_le, Int32.toInt_toInt64, Int32.toInt_toInt64]
theorem in_32 {x y : Int32} (h : f_X12_in x.toInt64 (0 : Int64) y.toInt64 = true) : 0 ≤ x.toInt ∧ x.toInt ≤ y.toInt := by
  obtain ⟨h1, h2⟩ := in_iff.mp h
  have h3 := (wide_le 0 x).mp h1
  have h4 := (wide_le x y).mp h2
  exact ⟨Int32.le_iff_toInt_le.mp h3, Int32.le_iff_toInt_le.mp h4⟩
theorem in_vp {x y : Int32} {n : Nat} (h : f_X12_in x.toInt64 (0 : Int64) y.toInt64 = true) (hy : y.toInt < n) : vp_in x n := by
  obtain ⟨h1, h2⟩ := in_32 h
  exact vp_in_iff.mpr ⟨h1, by omega⟩
theorem in_vpL {x : Int32} {N : Int64} {n : Nat} (h : f_X12_in x.toInt64 (0 : Int64) N = true) (hN : N.toInt < n) : vp_in x n := by
  obtain ⟨h1, h2⟩ := in_iff.mp h
  have h3 := (wide_le 0 x).mp h1
  have h4 := Int64.le_iff_toInt_le.mp h2
  rw [Int32.toInt_toInt64] at h4
  exact vp_in_iff.mpr ⟨Int32.le_iff_toInt_le.mp h3, by omega⟩
/-- below a count -/
theorem in_cnt {x y : Int32} {n : Nat} (h : f_X12_in x.toInt64 (0 : Int64) (y - 1).toInt64 = true) (hy : vp_in y (n + 1)) (hn : n < 2 ^ 30) : vp_in x n ∧ cl x < cl y := by
  obtain ⟨e, hl⟩ := vpn hy (by omega)
  obtain ⟨h1, h2⟩ := in_32 h
  rcases Nat.eq_zero_or_pos (cl y) with z | z
  · rw [z] at e
    rw [e] at h2
    exact absurd h2 (by have : (nI 0 - 1).toInt = -1 := by decide +kernel
                        omega)
  · have e1 : y - 1 = nI (cl y - 1) := by
      obtain ⟨j, hj⟩ : ∃ j, cl y = j + 1 := ⟨cl y - 1, by omega⟩
      have e' : y = nI (j + 1) := by rw [← hj]; exact e
      rw [hj, e', nI_pred]; rfl
    rw [e1, nI_toInt (by omega)] at h2
    have hv : vp_in x n := vp_in_iff.mpr ⟨h1, by omega⟩
    obtain ⟨e2, hl2⟩ := vpn hv (by omega)
    rw [e2, nI_toInt (by omega)] at h2
    exact ⟨hv, by omega⟩
theorem isShip_in {μ : Mm} (hok : OkR (μ.1 1)) {x : Int32} (h : f_X12_isShip μ x = true) : vp_in x 8 := (in_cnt h (OkR_0 hok) (by decide)).1
theorem isCall_in {μ : Mm} (hok : OkR (μ.1 1)) {x : Int32} (h : f_X12_isCall μ x = true) : vp_in x 41 := (in_cnt h (OkR_1 hok) (by decide)).1
theorem isInvoice_in {μ : Mm} (hok : OkR (μ.1 1)) {x : Int32} (h : f_X12_isInvoice μ x = true) : vp_in x 60 := (in_cnt h (OkR_2 hok) (by decide)).1
theorem isBand_in {μ : Mm} (hok : OkR (μ.1 1)) {x : Int32} (h : f_X12_isBand μ x = true) : vp_in x 6 := (in_cnt h (OkR_6 hok) (by decide)).1
theorem isRebate_in {μ : Mm} (hok : OkR (μ.1 1)) {x : Int32} (h : f_X12_isRebate μ x = true) : vp_in x 4 := (in_cnt h (OkR_7 hok) (by decide)).1
theorem vp_mono {x : Int32} {a b : Nat} (h : vp_in x a) (hab : a ≤ b) : vp_in x b := vp_in_iff.mpr ⟨(vp_in_iff.mp h).1, by have := (vp_in_iff.mp h).2; omega⟩
theorem passes3_eq {μ : Mm} {a b c : Bool} : f_X12_passes3 μ a b c = (a && b && c, uI μ 0 0 (if a then (if b then (if c then 0 else 3) else 2) else 1)) := by
  cases a <;> cases b <;> cases c <;> rfl
theorem passes2_eq {μ : Mm} {a b : Bool} : f_X12_passes2 μ a b = (a && b, uI μ 0 0 (if a then (if b then 0 else 2) else 1)) := by
  cases a <;> cases b <;> rfl
theorem passes_eq {μ : Mm} {a : Bool} : f_X12_passes μ a = (a, uI μ 0 0 (if a then 0 else 1)) := by
  cases a <;> rfl
theorem p1 {μ : Mm} {a : Bool} (h : (f_X12_passes μ a).1 = true) : a = true := by rw [passes_eq] at h; exact h
theorem p2a {μ : Mm} {a b : Bool} (h : (f_X12_passes2 μ a b).1 = true) : a = true := by rw [passes2_eq] at h; revert h; cases a <;> simp
theorem p2b {μ : Mm} {a b : Bool} (h : (f_X12_passes2 μ a b).1 = true) : b = true := by rw [passes2_eq] at h; revert h; cases b <;> simp
theorem p3a {μ : Mm} {a b c : Bool} (h : (f_X12_passes3 μ a b c).1 = true) : a = true := by rw [passes3_eq] at h; revert h; cases a <;> simp
theorem p3b {μ : Mm} {a b c : Bool} (h : (f_X12_passes3 μ a b c).1 = true) : b = true := by rw [passes3_eq] at h; revert h; cases b <;> simp
theorem p3c {μ : Mm} {a b c : Bool} (h : (f_X12_passes3 μ a b c).1 = true) : c = true := by rw [passes3_eq] at h; revert h; cases c <;> simp
theorem pz1a {μ : Mm} : (f_X12_passes μ false).1 = false := rfl
theorem pz2b {μ : Mm} {a : Bool} : (f_X12_passes2 μ a false).1 = false := by rw [passes2_eq]; cases a <;> rfl
theorem pz3b {μ : Mm} {a c : Bool} : (f_X12_passes3 μ a false c).1 = false := by rw [passes3_eq]; cases a <;> rfl
theorem pz3c {μ : Mm} {a b : Bool} : (f_X12_passes3 μ a b false).1 = false := by rw [passes3_eq]; cases a <;> cases b <;> rfl
theorem ok_p1 {μ : Mm} {a : Bool} (h : OkR (μ.1 1)) : OkR ((f_X12_passes μ a).2.1 1) := by rw [passes_eq]; exact h
theorem ok_p2 {μ : Mm} {a b : Bool} (h : OkR (μ.1 1)) : OkR ((f_X12_passes2 μ a b).2.1 1) := by rw [passes2_eq]; exact h
theorem ok_p3 {μ : Mm} {a b c : Bool} (h : OkR (μ.1 1)) : OkR ((f_X12_passes3 μ a b c).2.1 1) := by rw [passes3_eq]; exact h
