
theorem dnX {x : Int32} {k : Nat} (h : x + 1 = nI k) (hk : 1 ≤ k) : x = nI (k - 1) := by
  have e : x = nI k + (-1) := by rw [← h, Int32.add_assoc]; simp
  obtain ⟨j, rfl⟩ : ∃ j, k = j + 1 := ⟨k - 1, by omega⟩
  rw [e, pk_m1]; rfl
theorem f_bandWith_L {μ : Mm} {t : Int32} : ∀ (n : Nat) (x : Int32), x + 1 = nI (cl (x + 1)) → 1 ≤ cl (x + 1) → cl (x + 1) ≤ 6 → cl (x + 1) < n → vp_in (f_X12_bandWith_L10 μ t n x) 6 := by
  intro n
  induction n with
  | zero => intro x h1 h2 h3 h4; omega
  | succ n ih =>
    intro x h1 h2 h3 h4
    have hx := dnX h1 h2
    have hv : vp_in x 6 := by rw [hx]; exact vp_in_nI (by omega) (by decide)
    unfold f_X12_bandWith_L10
    split
    · exact hv
    · rename_i c
      split
      · exact hv
      · have hp := dnP hx (by omega)
        have h5 : 1 ≤ cl (x + 1) - 1 := by
          rcases Nat.eq_zero_or_pos (cl (x + 1) - 1) with z | z
          · exact absurd (by rw [hx, z]; decide) c
          · exact z
        exact ih _ hp.1 (by rw [hp.2]; exact h5) (by rw [hp.2]; omega) (by rw [hp.2]; omega)
theorem f_bandWith_in {μ : Mm} (hok : OkR (μ.1 1)) {t : Int32} (h : 0 < cl (μ.1 1 6)) : vp_in (f_X12_bandWith μ t) 6 := by
  obtain ⟨h1, h2⟩ := vpn (OkR_6 hok) (by decide)
  have hp := dnI h1 (by omega)
  exact f_bandWith_L 7 _ hp.1 (by rw [hp.2]; exact h) (by rw [hp.2]; omega) (by rw [hp.2]; omega)
theorem tn_pow {x : Int32} {j : Nat} (h : 2 ^ j ∣ x.toBitVec.toNat) (hx : ¬ x = 0) : j ≤ 31 := by
  rcases Nat.lt_or_ge 31 j with q | q
  · have h2 : 2 ^ 32 ∣ x.toBitVec.toNat := Nat.dvd_trans (Nat.pow_dvd_pow 2 q) h
    have h3 := x.toBitVec.isLt
    have h4 : x.toBitVec.toNat = 0 := Nat.eq_zero_of_dvd_of_lt h2 h3
    exact absurd (Int32.toBitVec_inj.mp (BitVec.eq_of_toNat_eq (by rw [h4]; rfl))) hx
  · exact q
theorem bits_step {x : Int32} {n : Nat} (h : ∃ j, j ≤ 32 ∧ 2 ^ j ∣ x.toBitVec.toNat ∧ 32 < j + (n + 1)) (hx : ¬ x = 0) : ∃ j, j ≤ 32 ∧ 2 ^ j ∣ (x &&& (x - 1)).toBitVec.toNat ∧ 32 < j + n := by
  obtain ⟨j, h1, h2, h3⟩ := h
  have hj := tn_pow h2 hx
  refine ⟨j + 1, by omega, ?_, by omega⟩
  have hlt := x.toBitVec.isLt
  have hx0 : x.toBitVec.toNat ≠ 0 := fun z => hx (Int32.toBitVec_inj.mp (BitVec.eq_of_toNat_eq (by rw [z]; rfl)))
  have e : (x &&& (x - 1)).toBitVec.toNat = x.toBitVec.toNat &&& (x.toBitVec.toNat - 1) := by
    rw [Int32.toBitVec_and, BitVec.toNat_and, Int32.toBitVec_sub, BitVec.toNat_sub]
    have e1 : (Int32.toBitVec 1).toNat = 1 := by decide
    rw [e1]
    have e2 : (2 ^ 32 - 1 + x.toBitVec.toNat) % 2 ^ 32 = x.toBitVec.toNat - 1 := by omega
    rw [e2]
  rw [e]
  apply Nat.dvd_of_mod_eq_zero
  rw [Nat.and_mod_two_pow]
  obtain ⟨m, hm⟩ := h2
  rw [hm]
  have hp : 0 < 2 ^ j := Nat.two_pow_pos j
  have hp2 : 2 ^ (j + 1) = 2 ^ j * 2 := Nat.pow_succ _ _
  rcases Nat.mod_two_eq_zero_or_one m with q | q
  · obtain ⟨k, rfl⟩ : ∃ k, m = 2 * k := ⟨m / 2, by omega⟩
    have e3 : 2 ^ j * (2 * k) % 2 ^ (j + 1) = 0 := by rw [hp2, ← Nat.mul_assoc]; exact Nat.mul_mod_right _ _
    rw [e3, Nat.zero_and]
  · obtain ⟨k, rfl⟩ : ∃ k, m = 2 * k + 1 := ⟨m / 2, by omega⟩
    have e3 : 2 ^ j * (2 * k + 1) = 2 ^ (j + 1) * k + 2 ^ j := by rw [hp2, Nat.mul_add, ← Nat.mul_assoc, Nat.mul_one]
    have e4 : 2 ^ (j + 1) * k + 2 ^ j - 1 = 2 ^ (j + 1) * k + (2 ^ j - 1) := by omega
    rw [e3, e4, Nat.mul_add_mod, Nat.mul_add_mod, Nat.mod_eq_of_lt (a := 2 ^ j) (by omega), Nat.mod_eq_of_lt (a := 2 ^ j - 1) (by omega), Nat.and_two_pow_sub_one_eq_mod, Nat.mod_self]
