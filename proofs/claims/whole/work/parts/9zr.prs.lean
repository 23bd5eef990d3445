/-! PURE. All statements of a text. -/
section PRS
variable {ν0 μ0 ν μ : Mm} {len N : Nat}
theorem bnd_r {α : Type} (x : Option α) : bnd x (fun q => some q) = x := by cases x <;> rfl
theorem stat_of (h : Gd ν0 μ0 len N ν μ) : ∃ b ν2 μ2, g_X7_statement ν = some (b, ν2) ∧ g_X12_parseStatement μ = g_X12_semicolon μ2 ∧ ((b = true ∧ Gd ν0 μ0 len (N + 1) ν2 μ2) ∨ (b = false ∧ Er ν0 μ0 ν2 μ2)) := by
  have hP := h.2.1
  have pr := h.2.2.pres
  unfold g_X7_statement g_X12_parseStatement
  obtain ⟨t, t1, t2⟩ := is_of hP 126879296744563
  rw [t1, t2, bnd_s, bnd_s]
  clear t1 t2
  cases t with
  | true =>
    obtain ⟨b, ν2, μ2, e1, e2, e3⟩ := mode_st h false
    have e2' : g_X12_parseMode μ (0 : Int32) = some μ2 := e2
    rw [if_pos (show true = true from rfl), if_pos (show true = true from rfl), e1, e2', bnd_s, bnd_s, bnd_r]
    exact ⟨b, ν2, μ2, rfl, rfl, e3⟩
  | false =>
  rw [if_neg nff, if_neg nff]
  obtain ⟨t, t1, t2⟩ := is_of hP 1650551923
  rw [t1, t2, bnd_s, bnd_s]
  clear t1 t2
  cases t with
  | true =>
    obtain ⟨b, ν2, μ2, e1, e2, e3⟩ := mode_st h true
    have e2' : g_X12_parseMode μ (1 : Int32) = some μ2 := e2
    rw [if_pos (show true = true from rfl), if_pos (show true = true from rfl), e1, e2', bnd_s, bnd_s, bnd_r]
    exact ⟨b, ν2, μ2, rfl, rfl, e3⟩
  | false =>
  rw [if_neg nff, if_neg nff]
  obtain ⟨t, t1, t2⟩ := is_of hP 1684955490
  rw [t1, t2, bnd_s, bnd_s]
  clear t1 t2
  cases t with
  | true =>
    obtain ⟨b, ν2, μ2, e1, e2, e3⟩ := band_st h
    have e2' : g_X12_parseBand μ = some μ2 := e2
    rw [if_pos (show true = true from rfl), if_pos (show true = true from rfl), pr, bnd_s, asr_pos tar556, e1, e2', bnd_s, bnd_s, bnd_r]
    exact ⟨b, ν2, μ2, rfl, rfl, e3⟩
  | false =>
  rw [if_neg nff, if_neg nff]
  obtain ⟨t, t1, t2⟩ := is_of hP 111550524450162
  rw [t1, t2, bnd_s, bnd_s]
  clear t1 t2
  cases t with
  | true =>
    obtain ⟨b, ν2, μ2, e1, e2, e3⟩ := rebate_st h
    have e2' : g_X12_parseRebate μ = some μ2 := e2
    rw [if_pos (show true = true from rfl), if_pos (show true = true from rfl), pr, bnd_s, asr_pos tar556, e1, e2', bnd_s, bnd_s, bnd_r]
    exact ⟨b, ν2, μ2, rfl, rfl, e3⟩
  | false =>
  rw [if_neg nff, if_neg nff]
  obtain ⟨t, t1, t2⟩ := is_of hP 435745415543
  rw [t1, t2, bnd_s, bnd_s]
  clear t1 t2
  cases t with
  | true =>
    obtain ⟨b, ν2, μ2, e1, e2, e3⟩ := waste_st h
    have e2' : g_X12_parseWaste μ = some μ2 := e2
    rw [if_pos (show true = true from rfl), if_pos (show true = true from rfl), pr, bnd_s, asr_pos tar556, e1, e2', bnd_s, bnd_s, bnd_r]
    exact ⟨b, ν2, μ2, rfl, rfl, e3⟩
  | false =>
  rw [if_neg nff, if_neg nff]
  obtain ⟨t, t1, t2⟩ := is_of hP 7954796
  rw [t1, t2, bnd_s, bnd_s]
  clear t1 t2
  cases t with
  | true =>
    obtain ⟨b, ν2, μ2, e1, e2, e3⟩ := lay_st h
    have e2' : g_X12_parseLay μ = some μ2 := e2
    rw [if_pos (show true = true from rfl), if_pos (show true = true from rfl), pr, bnd_s, asr_pos tar556, e1, e2', bnd_s, bnd_s, bnd_r]
    exact ⟨b, ν2, μ2, rfl, rfl, e3⟩
  | false =>
  rw [if_neg nff, if_neg nff]
  obtain ⟨t, t1, t2⟩ := is_of hP 1885956211
  rw [t1, t2, bnd_s, bnd_s]
  clear t1 t2
  cases t with
  | true =>
    obtain ⟨b, ν2, μ2, e1, e2, e3⟩ := ship_st h
    have e2' : g_X12_parseShip μ = some μ2 := e2
    rw [if_pos (show true = true from rfl), if_pos (show true = true from rfl), e1, e2', bnd_s, bnd_s, bnd_r]
    exact ⟨b, ν2, μ2, rfl, rfl, e3⟩
  | false =>
  rw [if_neg nff, if_neg nff]
  obtain ⟨t, t1, t2⟩ := is_of hP 1819042147
  rw [t1, t2, bnd_s, bnd_s]
  clear t1 t2
  cases t with
  | true =>
    obtain ⟨b, ν2, μ2, e1, e2, e3⟩ := call_st h
    have e2' : g_X12_parseCall μ = some μ2 := e2
    rw [if_pos (show true = true from rfl), if_pos (show true = true from rfl), e1, e2', bnd_s, bnd_s, bnd_r]
    exact ⟨b, ν2, μ2, rfl, rfl, e3⟩
  | false =>
  rw [if_neg nff, if_neg nff]
  obtain ⟨ν2, μ2, f1, f2, f3, f4⟩ := fail_of hP (1 : Int32) (by decide)
  rw [f1, f2, bnd_s, bnd_s, bnd_r]
  exact ⟨false, ν2, μ2, rfl, rfl, Or.inr ⟨rfl, h.er f3 f4⟩⟩
theorem Ps.kind (h : Ps ν μ len) : μ.1 0 10 = ν.1 661 2 := by
  obtain ⟨tx, ⟨p, q, t, k0, k1, k2, k3, k4, k5, k6, k7⟩, x⟩ := h
  exact k6.trans k3.symm
theorem prs_step (νa μa : Mm) (h : Gd ν0 μ0 len N ν μ) (hk : ¬ ν.1 661 2 = 0) (n m : Nat) : (∃ ν2 μ2, g_X7_parseText_L56 νa (n + 1) ν (nI N) = some (false, ν2) ∧ g_X12_load_L91 μa (m + 1) μ = g_X12_load_J109 μa μ2 ∧ Er ν0 μ0 ν2 μ2) ∨ ∃ ν2 μ2, g_X7_parseText_L56 νa (n + 1) ν (nI N) = g_X7_parseText_L56 νa n ν2 (nI (N + 1)) ∧ g_X12_load_L91 μa (m + 1) μ = (if ν2.1 661 2 = 0 then g_X12_load_J109 μa μ2 else g_X12_load_L91 μa m μ2) ∧ Gd ν0 μ0 len (N + 1) ν2 μ2 := by
  have hN := h.2.2.le41
  have t800 : ((800 : Int32)).toInt = 800 := rfl
  obtain ⟨b, ν2, μ2, s1, s2, s3⟩ := stat_of h
  have CE : g_X7_parseText_L56 νa (n + 1) ν (nI N) = if b = true then bnd (g_X7_symbol ν2 (59 : Int32)) (fun q23 => if q23.1 = true then g_X7_parseText_L56 νa n q23.2 (nI N + (1 : Int32)) else some (false, q23.2)) else some (false, ν2) := by
    conv => lhs; unfold g_X7_parseText_L56
    rw [if_neg (show ¬ (800 : Int32) ≤ nI N by rw [le32, t800, nI_toInt (by omega)]; omega), if_neg hk, s1, bnd_s]
  have ME : g_X12_load_L91 μa (m + 1) μ = bnd (g_X12_semicolon μ2) (fun q26 => bnd (some (f_X12_good q26)) (fun q28 => if q28 = true then (if q26.1 0 10 = 0 then g_X12_load_J109 μa q26 else g_X12_load_L91 μa m q26) else g_X12_load_J109 μa q26)) := by
    conv => lhs; unfold g_X12_load_L91
    rw [s2]
  rw [CE, ME]
  rcases s3 with ⟨rfl, s3⟩ | ⟨rfl, s3⟩
  · rw [if_pos (show true = true from rfl)]
    obtain ⟨c, ν3, μ3, c1, c2, c3, c4⟩ := semi_of s3.2.1
    rw [c1, c2, bnd_s, bnd_s, bnd_s]
    rcases c4 with ⟨rfl, c4⟩ | ⟨rfl, c4⟩
    · refine Or.inr ⟨ν3, μ3, ?_, ?_, s3.mw c3 c4⟩
      · rw [if_pos (show (true, ν3).1 = true from rfl), nI1]
      · rw [good_t c4.2.2.2.2.1, if_pos (show true = true from rfl), c4.kind]
    · refine Or.inl ⟨ν3, μ3, ?_, ?_, s3.er c3 c4⟩
      · rw [if_neg (show ¬ (false, ν3).1 = true from nff)]
      · rw [good_f c4.2.2, if_neg nff]
  · refine Or.inl ⟨ν2, μ2, ?_, ?_, s3⟩
    · rw [if_neg nff]
    · rw [bd_semi s3.2.2.2, bnd_s, bnd_s, good_f s3.2.2.2, if_neg nff]
theorem prs_loop (νa μa : Mm) : ∀ (d N : Nat), N + d = 41 → ∀ n m, d + 2 ≤ n → d + 2 ≤ m → ∀ ν μ, Gd ν0 μ0 len N ν μ → ¬ ν.1 661 2 = 0 → ∃ b ν2 μ2, g_X7_parseText_L56 νa n ν (nI N) = some (b, ν2) ∧ g_X12_load_L91 μa m μ = g_X12_load_J109 μa μ2 ∧ ((b = true ∧ ∃ N', Gd ν0 μ0 len N' ν2 μ2) ∨ (b = false ∧ Er ν0 μ0 ν2 μ2)) := by
  intro d
  induction d with
  | zero =>
    intro N hd n m hn hm ν μ h hk
    obtain ⟨n, rfl, hn2⟩ := succ_n (d := 1) hn
    obtain ⟨m, rfl, hm2⟩ := succ_n (d := 1) hm
    rcases prs_step νa μa h hk n m with ⟨ν2, μ2, s1, s2, s3⟩ | ⟨ν2, μ2, s1, s2, s3⟩
    · exact ⟨false, ν2, μ2, s1, s2, Or.inr ⟨rfl, s3⟩⟩
    · exact absurd s3.2.2.le41 (by omega)
  | succ d ih =>
    intro N hd n m hn hm ν μ h hk
    obtain ⟨n, rfl, hn2⟩ := succ_n (n := n) (d := d + 2) (by omega)
    obtain ⟨m, rfl, hm2⟩ := succ_n (n := m) (d := d + 2) (by omega)
    rcases prs_step νa μa h hk n m with ⟨ν2, μ2, s1, s2, s3⟩ | ⟨ν2, μ2, s1, s2, s3⟩
    · exact ⟨false, ν2, μ2, s1, s2, Or.inr ⟨rfl, s3⟩⟩
    · by_cases e : ν2.1 661 2 = 0
      · refine ⟨true, ν2, μ2, ?_, ?_, Or.inl ⟨rfl, _, s3⟩⟩
        · rw [s1]
          obtain ⟨n, rfl, -⟩ := succ_n (d := d + 1) hn2
          unfold g_X7_parseText_L56
          rw [if_pos e]
          split <;> rfl
        · rw [s2, if_pos e]
      · rw [s1, s2, if_neg e]
        exact ih (N + 1) (by omega) n m hn2 hm2 ν2 μ2 s3 e
end PRS
