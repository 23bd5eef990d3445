/-! PURE. The tariff. -/
theorem nI_p1 (k : Nat) : nI (k + 1) - (1 : Int32) = nI k := by
  rw [← nI1]
  exact Int32.add_sub_cancel _ _
theorem nI_m1 (k : Nat) : nI k + (-1 : Int32) = nI k - (1 : Int32) := by
  rw [Int32.sub_eq_add_neg]
theorem neg1 : nI 0 - (1 : Int32) < 0 := by decide
theorem nI_nn {k : Nat} (h : k < 2 ^ 31) : ¬ nI k < 0 := by
  rw [lt32, nI_toInt h]
  show ¬ (k : Int) < 0
  omega
/-- the per cent behind k rebates -/
def pcK (f : Nat → Int32) (v : Nat) (rank : Int32) : Nat → Int32
  | 0 => 0
  | k + 1 => if rank < f (18 + k) then pcK f v rank k else f (22 + 12 * v + (6 + k))
section TRF
variable {ν μ : Mm} {T v : Nat} {a4 : Int32}
theorem ofV_eq {w : Int32} {j : Nat} (hv : a4 = nI v) (hv2 : v < 2 ^ 31) (hw : w = nI j) (hj : j < 2 ^ 31) : f_X12_ofVersion μ a4 w = μ.1 1 (22 + 12 * v + j) := by
  unfold f_X12_ofVersion
  rw [hv, hw, cl_nI hv2, cl_nI hj]
theorem pc_cls (hT : TaR ν T (μ.1 1) v) {rank : Int32} : ∀ (k : Nat), k ≤ cl (μ.1 1 7) → k ≤ 4 → ∀ n, k + 1 ≤ n → g_X10_percentAt_L7 ν T rank n (nI k - (1 : Int32)) = some (pcK (μ.1 1) v rank k) := by
  intro k
  induction k with
  | zero =>
    intro _ _ n hn
    obtain ⟨n, rfl, -⟩ := succ_n hn
    unfold g_X10_percentAt_L7
    rw [if_pos neg1]
    rfl
  | succ k ih =>
    intro hk h4 n hn
    obtain ⟨n, rfl, hn2⟩ := succ_n hn
    obtain ⟨e3, e4⟩ := hT.2.2 k (by omega)
    unfold g_X10_percentAt_L7
    rw [nI_p1, if_neg (nI_nn (by omega)), asr_pos (vp_in_nI (by omega) (by decide)), cl_nI (by omega), e3, e4, nI_m1, ih (by omega) (by omega) n (by omega)]
    show _ = some (if _ then _ else _)
    split <;> rfl
theorem pc_mod (hW : Wf (μ.1 1)) (hv : a4 = nI v) (hv2 : v < 100) {rank : Int32} : ∀ (d k : Nat), k + d = cl (μ.1 1 7) → ∀ m, d + 1 ≤ m → f_X12_percentOf_L5 μ rank a4 m (pcK (μ.1 1) v rank k) (nI k) = pcK (μ.1 1) v rank (cl (μ.1 1 7)) := by
  have h7 := hW.1.2.2.2.2.2.2.2.1
  obtain ⟨c1, c2, c3⟩ := cl_of h7
  intro d
  induction d with
  | zero =>
    intro k hk m hm
    obtain ⟨m, rfl, -⟩ := succ_n hm
    unfold f_X12_percentOf_L5
    rw [if_pos (by rw [le32, nI_toInt (by omega)]; omega), show k = cl (μ.1 1 7) by omega]
  | succ d ih =>
    intro k hk m hm
    obtain ⟨m, rfl, hm2⟩ := succ_n hm
    have hi := ih (k + 1) (by omega) m hm2
    unfold f_X12_percentOf_L5
    rw [if_neg (by rw [le32, nI_toInt (by omega)]; omega), cl_nI (by omega), nI1]
    rw [show f_X12_ofVersion μ a4 ((6 : Int32) + nI k) = μ.1 1 (22 + 12 * v + (6 + k)) from ofV_eq hv (by omega) (show (6 : Int32) + nI k = nI (6 + k) from nI_add 6 k) (by omega)]
    rw [show pcK (μ.1 1) v rank (k + 1) = if rank < μ.1 1 (18 + k) then pcK (μ.1 1) v rank k else μ.1 1 (22 + 12 * v + (6 + k)) from rfl] at hi
    split
    · rename_i q
      rw [if_pos q] at hi
      exact hi
    · rename_i q
      rw [if_neg q] at hi
      exact hi
theorem percent_of (hW : Wf (μ.1 1)) (hT : TaR ν T (μ.1 1) v) (ht : isTar T) (hv : a4 = nI v) (hv2 : v < 100) (rank : Int32) : g_X10_percentAt ν T rank = some (f_X12_percentOf μ rank a4) := by
  have h7 := hW.1.2.2.2.2.2.2.2.1
  obtain ⟨c1, c2, c3⟩ := cl_of h7
  unfold g_X10_percentAt f_X12_percentOf
  rw [asr_pos ht, hT.1.2.1, c1, pc_cls hT _ (Nat.le_refl _) (by omega) 10000 (by omega), ← pc_mod hW hv hv2 (cl (μ.1 1 7)) 0 (by omega) 5 (by omega)]
  rfl
theorem fee_of (hT : TaR ν T (μ.1 1) v) (ht : isTar T) (w : Int32) : g_X10_wasteFeeFor ν T w = some (f_X12_feeOf μ w) := by
  unfold g_X10_wasteFeeFor f_X12_feeOf
  obtain ⟨-, -, -, e7, e8, e9, -⟩ := hT.1
  rw [asr_pos ht, e7, e8, e9]
  generalize w - μ.1 1 10 = x
  have : imax x (0 : Int32) = imax (0 : Int32) x := by
    unfold imax
    by_cases h1 : x < 0
    · rw [if_pos h1, if_neg (fun z => by rw [lt32] at h1 z; omega)]
    · by_cases h2 : 0 < x
      · rw [if_neg h1, if_pos h2]
      · rw [if_neg h1, if_neg h2]
        rw [lt32] at h1 h2
        rw [eq32]
        omega
  rw [this]
/-- the dues of the bands below k -/
def duK (μ : Mm) (v : Nat) (t : Int32) : Nat → Int32
  | 0 => 0
  | k + 1 => duK μ v t k + f_X12_inBand μ t (nI k) * μ.1 1 (22 + 12 * v + k)
theorem du_mod (hW : Wf (μ.1 1)) (hv : a4 = nI v) (hv2 : v < 100) {t : Int32} : ∀ (d k : Nat), k + d = cl (μ.1 1 6) → ∀ m, d + 1 ≤ m → f_X12_duesOf_L43 μ t a4 m (duK μ v t k) (nI k) = duK μ v t (cl (μ.1 1 6)) := by
  have h7 := hW.1.2.2.2.2.2.2.1
  obtain ⟨c1, c2, c3⟩ := cl_of h7
  intro d
  induction d with
  | zero =>
    intro k hk m hm
    obtain ⟨m, rfl, -⟩ := succ_n hm
    unfold f_X12_duesOf_L43
    rw [if_pos (by rw [le32, nI_toInt (by omega)]; omega), show k = cl (μ.1 1 6) by omega]
  | succ d ih =>
    intro k hk m hm
    obtain ⟨m, rfl, hm2⟩ := succ_n hm
    have hi := ih (k + 1) (by omega) m hm2
    unfold f_X12_duesOf_L43
    rw [if_neg (by rw [le32, nI_toInt (by omega)]; omega), nI1, Int32.zero_add, show f_X12_ofVersion μ a4 (nI k) = μ.1 1 (22 + 12 * v + k) from ofV_eq hv (by omega) rfl (by omega)]
    exact hi
/-- what is left of a number of tons below band k -/
def rsK (f : Nat → Int32) (t : Int32) (k : Nat) : Int32 := if k < cl (f 6) then imin t (f (12 + k)) else t
theorem imin_le {x y : Int32} (h : x.toInt ≤ y.toInt) : imin x y = x := by
  unfold imin
  by_cases q : y < x
  · rw [if_pos q]
    rw [lt32] at q
    omega
  · rw [if_neg q]
theorem imin_ge {x y : Int32} (h : y.toInt ≤ x.toInt) : imin x y = y := by
  unfold imin
  by_cases q : y < x
  · rw [if_pos q]
  · rw [if_neg q]
    rw [lt32] at q
    rw [eq32]
    omega
theorem imax0 {x : Int32} (h : 0 ≤ x.toInt) : imax (0 : Int32) x = x := by
  unfold imax
  by_cases q : (0 : Int32) < x
  · rw [if_pos q]
  · rw [if_neg q, eq32]
    rw [lt32] at q
    have : ((0 : Int32)).toInt = 0 := rfl
    omega
theorem imaxN {x : Int32} (h : x.toInt ≤ 0) : imax (0 : Int32) x = 0 := by
  unfold imax
  rw [if_neg]
  rw [lt32]
  have : ((0 : Int32)).toInt = 0 := rfl
  omega
theorem inBand_eq (hW : Wf (μ.1 1)) {t : Int32} {k : Nat} (hk : k < cl (μ.1 1 6)) : f_X12_inBand μ t (nI k) = imax (0 : Int32) (rsK (μ.1 1) t (k + 1) - μ.1 1 (12 + k)) := by
  have h7 := hW.1.2.2.2.2.2.2.1
  obtain ⟨c1, c2, c3⟩ := cl_of h7
  unfold f_X12_inBand rsK
  rw [nI1, cl_nI (by omega)]
  by_cases q : k + 1 < cl (μ.1 1 6)
  · rw [if_neg (by rw [le32, nI_toInt (by omega)]; omega), if_pos q]
    rfl
  · rw [if_pos (by rw [le32, nI_toInt (by omega)]; omega), if_neg q]
theorem du_cls (hW : Wf (μ.1 1)) (hT : TaR ν T (μ.1 1) v) {t : Int32} (ht0 : rg t 0 9999) (hm : μ.1 1 8 = 0) : ∀ (k : Nat), k ≤ cl (μ.1 1 6) → ∀ n, k + 1 ≤ n → ∀ x : Int32, g_X10_duesFor_L12 ν T t n x (rsK (μ.1 1) t k) (nI k - (1 : Int32)) = some (x + duK μ v t k) := by
  have h7 := hW.1.2.2.2.2.2.2.1
  obtain ⟨c1, c2, c3⟩ := cl_of h7
  intro k
  induction k with
  | zero =>
    intro _ n hn x
    obtain ⟨n, rfl, -⟩ := succ_n hn
    unfold g_X10_duesFor_L12
    rw [if_pos neg1]
    show some x = some (x + 0)
    rw [Int32.add_zero]
  | succ k ih =>
    intro hk n hn x
    obtain ⟨n, rfl, hn2⟩ := succ_n hn
    obtain ⟨e1, e2⟩ := hT.2.1 k (by omega)
    have b0 := hW.2.1 k (by omega)
    have b1 := hW.2.2.2.1 k
    have e6 : ν.1 T 6 = 0 := hT.1.2.2.1.trans hm
    unfold g_X10_duesFor_L12
    rw [nI_p1, if_neg (nI_nn (by omega)), asr_pos (vp_in_nI (by omega) (by decide)), cl_nI (by omega), e1, e2, nI_m1, e6, if_pos rfl]
    show _ = some (x + (duK μ v t k + f_X12_inBand μ t (nI k) * μ.1 1 (22 + 12 * v + k)))
    rw [inBand_eq hW (by omega)]
    have hrs : rsK (μ.1 1) t k = imin t (μ.1 1 (12 + k)) := if_pos (by omega)
    have z0 : ((0 : Int32)).toInt = 0 := rfl
    by_cases q : t < μ.1 1 (12 + k)
    · have g := lt32.mp q
      rw [if_pos q]
      have e5 : rsK (μ.1 1) t (k + 1) = t := by
        unfold rsK
        by_cases q2 : k + 1 < cl (μ.1 1 6)
        · rw [if_pos q2]
          exact imin_le (by have := b1 q2; omega)
        · rw [if_neg q2]
      have e7 : rsK (μ.1 1) t k = t := by rw [hrs]; exact imin_le (by omega)
      have hi := ih (by omega) n (by omega) x
      rw [e7] at hi
      rw [e5, hi, imaxN (by rw [ti_sub (by have := ht0.1; have := b0.2; omega) (by have := ht0.2; have := b0.1; omega)]; omega), Int32.zero_mul, Int32.add_zero]
    · have g : ¬ t.toInt < (μ.1 1 (12 + k)).toInt := fun z => q (lt32.mpr z)
      rw [if_neg q]
      have e7 : rsK (μ.1 1) t k = μ.1 1 (12 + k) := by rw [hrs]; exact imin_ge (by omega)
      have e8 : (μ.1 1 (12 + k)).toInt ≤ (rsK (μ.1 1) t (k + 1)).toInt ∧ (rsK (μ.1 1) t (k + 1)).toInt ≤ 9999 := by
        unfold rsK
        by_cases q2 : k + 1 < cl (μ.1 1 6)
        · rw [if_pos q2]
          have := b1 q2
          rcases Int.le_total t.toInt (μ.1 1 (12 + (k + 1))).toInt with w | w
          · rw [imin_le w]; exact ⟨by omega, ht0.2⟩
          · rw [imin_ge w]; exact ⟨by omega, by have := ht0.2; omega⟩
        · rw [if_neg q2]; exact ⟨by omega, ht0.2⟩
      have hi := ih (by omega) n (by omega) (x + μ.1 1 (22 + 12 * v + k) * (rsK (μ.1 1) t (k + 1) - μ.1 1 (12 + k)))
      rw [e7] at hi
      rw [hi, imax0 (by rw [ti_sub (by have := b0.2; have := b0.1; omega) (by have := b0.1; omega)]; omega), Int32.mul_comm (μ.1 1 (22 + 12 * v + k)), Int32.add_assoc, Int32.add_comm (duK μ v t k)]
theorem bw_mod (hW : Wf (μ.1 1)) {t : Int32} (ht0 : rg t 0 9999) : ∀ (k : Nat), k < cl (μ.1 1 6) → (∀ j, k < j → j < cl (μ.1 1 6) → t.toInt < (μ.1 1 (12 + j)).toInt) → ∀ n, k + 1 ≤ n → ∃ b, b ≤ k ∧ f_X12_bandWith_L10 μ t n (nI k) = nI b ∧ (μ.1 1 (12 + b)).toInt ≤ t.toInt ∧ ∀ j, b < j → j < cl (μ.1 1 6) → t.toInt < (μ.1 1 (12 + j)).toInt := by
  have h7 := hW.1.2.2.2.2.2.2.1
  obtain ⟨c1, c2, c3⟩ := cl_of h7
  intro k
  induction k with
  | zero =>
    intro hk hj n hn
    obtain ⟨n, rfl, -⟩ := succ_n hn
    refine ⟨0, Nat.le_refl 0, ?_, ?_, hj⟩
    · unfold f_X12_bandWith_L10
      rw [if_pos (by decide)]
    · rw [show μ.1 1 (12 + 0) = 0 from hW.2.2.1 (by omega)]
      exact ht0.1
  | succ k ih =>
    intro hk hj n hn
    obtain ⟨n, rfl, hn2⟩ := succ_n hn
    unfold f_X12_bandWith_L10
    rw [if_neg (by rw [le32, nI_toInt (by omega)]; show ¬ ((k + 1 : Nat) : Int) ≤ 0; omega), nI1, cl_nI (by omega), show 12 + (k + 1 + 1 - 1) = 12 + (k + 1) by omega]
    by_cases q : μ.1 1 (12 + (k + 1)) ≤ t
    · rw [if_pos q]
      exact ⟨k + 1, Nat.le_refl _, rfl, le32.mp q, hj⟩
    · rw [if_neg q, nI_m1, nI_p1]
      have g : ¬ (μ.1 1 (12 + (k + 1))).toInt ≤ t.toInt := fun z => q (le32.mpr z)
      obtain ⟨b, b1, b2, b3, b4⟩ := ih (by omega) (fun j h1 h2 => by
        by_cases w : j = k + 1
        · rw [w]; omega
        · exact hj j (by omega) h2) n (by omega)
      exact ⟨b, by omega, b2, b3, b4⟩
theorem bw_cls (hT : TaR ν T (μ.1 1) v) (hc : cl (μ.1 1 6) ≤ 6) {t : Int32} {b : Nat} (h3 : (μ.1 1 (12 + b)).toInt ≤ t.toInt) (h4 : ∀ j, b < j → j < cl (μ.1 1 6) → t.toInt < (μ.1 1 (12 + j)).toInt) (hb : b < cl (μ.1 1 6)) : ∀ (k : Nat), b < k → k ≤ cl (μ.1 1 6) → ∀ n, k + 1 ≤ n → g_X10_bandWith_L7 ν T t n (nI k - (1 : Int32)) = some (nI b) := by
  intro k
  induction k with
  | zero => intro h; exact absurd h (by omega)
  | succ k ih =>
    intro h1 h2 n hn
    obtain ⟨n, rfl, hn2⟩ := succ_n hn
    unfold g_X10_bandWith_L7
    rw [nI_p1, if_neg (nI_nn (by omega)), asr_pos (vp_in_nI (by omega) (by decide)), cl_nI (by omega), (hT.2.1 k (by omega)).1, nI_m1]
    by_cases w : b = k
    · rw [if_neg (by rw [lt32, ← w]; omega), w]
    · rw [if_pos (by rw [lt32]; exact h4 k (by omega) (by omega))]
      exact ih (by omega) (by omega) n (by omega)
theorem ds_cls (hT : TaR ν T (μ.1 1) v) (hc : cl (μ.1 1 6) ≤ 6) {t : Int32} {b : Nat} (hm : ¬ μ.1 1 8 = 0) (h3 : (μ.1 1 (12 + b)).toInt ≤ t.toInt) (h4 : ∀ j, b < j → j < cl (μ.1 1 6) → t.toInt < (μ.1 1 (12 + j)).toInt) (hb : b < cl (μ.1 1 6)) : ∀ (k : Nat), b < k → k ≤ cl (μ.1 1 6) → ∀ n, k + 1 ≤ n → ∀ x y : Int32, g_X10_duesFor_L12 ν T t n x y (nI k - (1 : Int32)) = some (μ.1 1 (22 + 12 * v + b) * t) := by
  intro k
  induction k with
  | zero => intro h; exact absurd h (by omega)
  | succ k ih =>
    intro h1 h2 n hn x y
    obtain ⟨n, rfl, hn2⟩ := succ_n hn
    obtain ⟨e1, e2⟩ := hT.2.1 k (by omega)
    unfold g_X10_duesFor_L12
    rw [nI_p1, if_neg (nI_nn (by omega)), asr_pos (vp_in_nI (by omega) (by decide)), cl_nI (by omega), e1, e2, nI_m1, hT.1.2.2.1, if_neg hm]
    by_cases w : b = k
    · rw [if_neg (by rw [lt32, ← w]; omega), w]
    · rw [if_pos (by rw [lt32]; exact h4 k (by omega) (by omega))]
      exact ih (by omega) (by omega) n (by omega) x y
theorem band_of (hW : Wf (μ.1 1)) (hT : TaR ν T (μ.1 1) v) (ht : isTar T) {t : Int32} (ht0 : rg t 0 9999) : g_X10_bandWith ν T t = some (f_X12_bandWith μ t) := by
  have h7 := hW.1.2.2.2.2.2.2.1
  obtain ⟨c1, c2, c3⟩ := cl_of h7
  unfold g_X10_bandWith f_X12_bandWith
  rw [asr_pos ht, hT.1.1, c1]
  by_cases q : cl (μ.1 1 6) = 0
  · rw [q]
    unfold g_X10_bandWith_L7 f_X12_bandWith_L10
    rw [if_pos neg1, if_pos (by decide)]
    rfl
  · obtain ⟨b, b1, b2, b3, b4⟩ := bw_mod hW ht0 (cl (μ.1 1 6) - 1) (by omega) (fun j h1 h2 => absurd h2 (by omega)) 7 (by omega)
    have e : nI (cl (μ.1 1 6)) - (1 : Int32) = nI (cl (μ.1 1 6) - 1) := by
      have := nI_p1 (cl (μ.1 1 6) - 1)
      rw [Nat.sub_add_cancel (by omega)] at this
      exact this
    rw [bw_cls hT (by omega) b3 b4 (by omega) (cl (μ.1 1 6)) (by omega) (Nat.le_refl _) 10000 (by omega), e, b2]
theorem dues_of (hW : Wf (μ.1 1)) (hT : TaR ν T (μ.1 1) v) (ht : isTar T) (hv : a4 = nI v) (hv2 : v < 100) {t : Int32} (ht0 : rg t 0 9999) : g_X10_duesFor ν T t = some (f_X12_duesOf μ t a4) := by
  have h7 := hW.1.2.2.2.2.2.2.1
  have h8 := hW.1.2.2.2.2.2.2.2.2.1
  obtain ⟨c1, c2, c3⟩ := cl_of h7
  unfold g_X10_duesFor f_X12_duesOf
  rw [asr_pos ht, hT.1.1]
  by_cases q : cl (μ.1 1 6) = 0
  · have e : μ.1 1 6 = 0 := by rw [c1, q]; rfl
    rw [e, if_pos rfl]
    unfold g_X10_duesFor_L12
    rw [if_pos (by decide)]
  · have e : ¬ μ.1 1 6 = 0 := fun z => q (by rw [z]; rfl)
    rw [if_neg e]
    by_cases q8 : μ.1 1 8 = 0
    · rw [if_neg (by rw [q8]; decide), c1]
      have h := du_cls hW hT ht0 q8 (cl (μ.1 1 6)) (Nat.le_refl _) 10000 (by omega) 0
      rw [show rsK (μ.1 1) t (cl (μ.1 1 6)) = t from if_neg (Nat.lt_irrefl _), Int32.zero_add, ← du_mod hW hv hv2 (cl (μ.1 1 6)) 0 (by omega) 7 (by omega)] at h
      exact h
    · have e8 : μ.1 1 8 = 1 := by
        rw [eq32] at q8 ⊢
        have := h8.1
        have := h8.2
        have e0 : ((0 : Int32)).toInt = 0 := rfl
        have e1 : ((1 : Int32)).toInt = 1 := rfl
        omega
      rw [if_pos e8]
      obtain ⟨b, b1, b2, b3, b4⟩ := bw_mod hW ht0 (cl (μ.1 1 6) - 1) (by omega) (fun j h1 h2 => absurd h2 (by omega)) 7 (by omega)
      have e9 : nI (cl (μ.1 1 6)) - (1 : Int32) = nI (cl (μ.1 1 6) - 1) := by
        have := nI_p1 (cl (μ.1 1 6) - 1)
        rw [Nat.sub_add_cancel (by omega)] at this
        exact this
      have ebw : f_X12_bandWith μ t = nI b := by
        unfold f_X12_bandWith
        rw [c1, e9, b2]
      rw [ebw, Int32.zero_add, show f_X12_ofVersion μ a4 (nI b) = μ.1 1 (22 + 12 * v + b) from ofV_eq hv (by omega) rfl (by omega), c1, ds_cls hT (by omega) q8 b3 b4 (by omega) (cl (μ.1 1 6)) (by omega) (Nat.le_refl _) 10000 (by omega), Int32.mul_comm]
theorem tonsIn_of (hW : Wf (μ.1 1)) (hT : TaR ν T (μ.1 1) v) (ht : isTar T) {t : Int32} {k : Nat} (hk : k < cl (μ.1 1 6)) : g_X10_tonsWithin ν T t (nI k) = some (f_X12_inBand μ t (nI k)) := by
  have h7 := hW.1.2.2.2.2.2.2.1
  obtain ⟨c1, c2, c3⟩ := cl_of h7
  have im : ∀ x : Int32, imax x (0 : Int32) = imax (0 : Int32) x := fun x => by
    unfold imax
    by_cases h1 : x < 0
    · rw [if_pos h1, if_neg (fun z => by rw [lt32] at h1 z; omega)]
    · by_cases h2 : 0 < x
      · rw [if_neg h1, if_pos h2]
      · rw [if_neg h1, if_neg h2]
        rw [lt32] at h1 h2
        rw [eq32]
        omega
  unfold g_X10_tonsWithin g_X10_tonsWithin_J26 f_X12_inBand
  have hvk : vp_in (nI k) 6 := vp_in_nI (by omega) (by decide)
  rw [asr_pos ht, hT.1.1, nI1, cl_nI (by omega), cl_nI (by omega), (hT.2.1 k hk).1]
  by_cases q : μ.1 1 6 ≤ nI (k + 1)
  · rw [if_pos q, if_pos q, asr_pos hvk, im]
  · have g : ¬ (μ.1 1 6).toInt ≤ (k + 1 : Nat) := fun z => q (by rw [le32, nI_toInt (by omega)]; exact z)
    rw [if_neg q, if_neg q, asr_pos (vp_in_nI (by omega) (by decide)), asr_pos hvk, im, (hT.2.1 (k + 1) (by omega)).1]
    rfl
end TRF
