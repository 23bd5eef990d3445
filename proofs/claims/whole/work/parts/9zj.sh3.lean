/-! PURE. The sheet of a version of the tariff. -/
section TS
variable {ν0 μ0 : Mm}
theorem wr_nl {ν μ : Mm} {len : Nat} (h : OuS ν0 μ0 ν μ len) (hl : len < 1400) : Wrs ν0 μ0 len 1 (g_X8_endTariffLine ν false) (bnd (g_X12_write μ (10 : Int32)) (fun q => some q)) := by
  have s := h.step (by8 (10 : Int32))
  refine ⟨_, _, len + 1, ?_, by rw [wr_le h.m (by omega), bnd_s], Nat.le_refl _, s⟩
  unfold g_X8_endTariffLine g_X1_putText
  rw [if_neg (by decide), asr_pos b4]
  show bnd (g_X1_putText_L2 ν 4 10 (9998 + 1 + 1) ν (nI 0)) _ = _
  unfold g_X1_putText_L2
  rw [if_neg (by decide), asr_pos (show vp_in (nI 0) (slen 10) from vp_in_nI (by decide) (by decide)), show schar 10 (cl (nI 0)) = 10 from by decide, put4 h hl, bnd_s]
  unfold g_X1_putText_L2
  rw [if_pos (by decide), bnd_s]
theorem chg_tab : ∀ k : Fin 8, schar 191701742837314380576 k.val = schar 7234302100218864416 k.val := by decide +kernel
theorem chg_loop {νa μa : Mm} : ∀ (d k : Nat), k + d = 8 → ∀ n m, d + 2 ≤ n → d + 1 ≤ m → ∀ {ν μ : Mm} {len : Nat}, OuS ν0 μ0 ν μ len → len + (d + 1) ≤ 1400 → Wrs ν0 μ0 len (d + 1) (g_X1_putText_L2 νa 4 191701742837314380576 n ν (nI k)) (bnd (g_X12_writeText_L2 μa 7234302100218864416 m μ (nI k)) (fun q => bnd (g_X12_write q (10 : Int32)) (fun q => some q))) := by
  have s1 : slen 191701742837314380576 = 9 := by decide
  have s2 : slen 7234302100218864416 = 8 := by decide
  intro d
  induction d with
  | zero =>
    intro k hk n m hn hm ν μ len h hl
    obtain ⟨n, rfl, hn2⟩ := succ_n hn
    obtain ⟨n, rfl, -⟩ := succ_n hn2
    obtain ⟨m, rfl, -⟩ := succ_n hm
    have ek : k = 8 := by omega
    subst ek
    have s := h.step (by8 (10 : Int32))
    refine ⟨_, _, len + 1, ?_, ?_, Nat.le_refl _, s⟩
    · unfold g_X1_putText_L2
      rw [s1, if_neg (by decide), asr_pos (show vp_in (nI 8) 9 from vp_in_nI (by decide) (by decide)), show schar 191701742837314380576 (cl (nI 8)) = 10 from by decide, put4 h (by omega), bnd_s]
      unfold g_X1_putText_L2
      rw [s1, if_pos (by decide)]
    · unfold g_X12_writeText_L2
      rw [s2, if_pos (by decide), bnd_s, wr_le h.m (by omega), bnd_s]
  | succ d ih =>
    intro k hk n m hn hm ν μ len h hl
    obtain ⟨n, rfl, hn2⟩ : ∃ n', n = n' + 1 ∧ d + 2 ≤ n' := ⟨n - 1, by omega, by omega⟩
    obtain ⟨m, rfl, hm2⟩ := succ_n hm
    have s := h.step (by8 (schar 191701742837314380576 k))
    obtain ⟨ν', μ', l', g1, g2, g3, g4⟩ := ih (k + 1) (by omega) n m hn2 hm2 s (by omega)
    refine ⟨ν', μ', l', ?_, ?_, by omega, g4⟩
    · unfold g_X1_putText_L2
      rw [s1, if_neg (by rw [le32, nI_toInt (by omega), nI_toInt (by omega)]; omega), asr_pos (vp_in_nI (by omega) (by decide)), cl_nI (by omega), put4 h (by omega), bnd_s, nI1]
      exact g1
    · unfold g_X12_writeText_L2
      rw [s2, if_neg (by rw [le32, nI_toInt (by omega), nI_toInt (by omega)]; omega), asr_pos (vp_in_nI (by omega) (by decide)), cl_nI (by omega), ← chg_tab ⟨k, by omega⟩, wr_le h.m (by omega), bnd_s, nI1]
      exact g2
theorem wr_chg {ν μ : Mm} {len : Nat} (h : OuS ν0 μ0 ν μ len) (hl : len + 9 ≤ 1400) : Wrs ν0 μ0 len 9 (g_X8_endTariffLine ν true) (bnd (g_X12_writeText μ 7234302100218864416) (fun q => bnd (g_X12_write q (10 : Int32)) (fun q => some q))) := by
  obtain ⟨ν', μ', l', g1, g2, g3, g4⟩ := chg_loop (νa := ν) (μa := μ) 8 0 (by omega) 10000 10000 (by omega) (by omega) h (by omega)
  refine ⟨ν', μ', l', ?_, ?_, g3, g4⟩
  · unfold g_X8_endTariffLine g_X1_putText
    rw [if_pos rfl, asr_pos b4, show g_X1_putText_L2 ν 4 191701742837314380576 10000 ν (0 : Int32) = some ν' from g1, bnd_s]
  · unfold g_X12_writeText
    exact g2
/-- nothing of these two has changed -/
def Unch (f : Nat → Int32) (v j2 j3 : Nat) : Prop := f (22 + 12 * v + j2) = f (22 + 12 * (v - 1) + j2) ∧ f (22 + 12 * v + j3) = f (22 + 12 * (v - 1) + j3)
theorem end_m {μ : Mm} {v j2 j3 : Nat} {x2 x3 : Int32} (e1 : μ.1 1 = μ0.1 1) (hv : v < 21) (h2 : x2 = nI j2) (h3 : x3 = nI j3) (hj2 : j2 < 12) (hj3 : j3 < 12) : (Unch (μ0.1 1) v j2 j3 → g_X12_writeEnd μ (nI v) x2 x3 = bnd (g_X12_write μ (10 : Int32)) (fun q => some q)) ∧ (¬ Unch (μ0.1 1) v j2 j3 → g_X12_writeEnd μ (nI v) x2 x3 = bnd (g_X12_writeText μ 7234302100218864416) (fun q => bnd (g_X12_write q (10 : Int32)) (fun q => some q))) := by
  have O : ∀ (u j : Nat), u < 21 → j < 12 → f_X12_ofVersion μ (nI u) (nI j) = μ0.1 1 (22 + 12 * u + j) := fun u j hu hj => by rw [ofV_eq rfl (by omega) rfl (by omega), e1]
  subst h2
  subst h3
  unfold g_X12_writeEnd g_X12_writeEnd_J42 g_X12_writeEnd_J38 g_X12_writeEnd_J43
  by_cases hv0 : v = 0
  · subst hv0
    rw [if_pos (by decide), if_neg (by decide)]
    exact ⟨fun _ => rfl, fun h => absurd ⟨rfl, rfl⟩ h⟩
  · obtain ⟨w, rfl⟩ : ∃ w, v = w + 1 := ⟨v - 1, by omega⟩
    rw [if_neg (by rw [le32, nI_toInt (by omega)]; show ¬ ((w + 1 : Nat) : Int) ≤ 0; omega), asr_pos (vp_in_nI hv (by decide)), asr_pos (vp_in_nI hj2 (by decide)), bnd_s, nI_p1, asr_pos (vp_in_nI (by omega) (by decide)), bnd_s, asr_pos (vp_in_nI hj3 (by decide)), bnd_s, bnd_s, O (w + 1) j2 hv hj2, O w j2 (by omega) hj2, O (w + 1) j3 hv hj3, O w j3 (by omega) hj3]
    unfold Unch
    rw [Nat.add_sub_cancel]
    by_cases c2 : μ0.1 1 (22 + 12 * (w + 1) + j2) = μ0.1 1 (22 + 12 * w + j2)
    · rw [if_pos c2]
      by_cases c3 : μ0.1 1 (22 + 12 * (w + 1) + j3) = μ0.1 1 (22 + 12 * w + j3)
      · rw [if_pos c3, if_neg (show ¬ false = true by decide)]
        exact ⟨fun _ => rfl, fun h => absurd ⟨c2, c3⟩ h⟩
      · rw [if_neg c3, if_pos rfl]
        exact ⟨fun h => absurd h.2 c3, fun _ => rfl⟩
    · rw [if_neg c2, if_pos rfl]
      exact ⟨fun h => absurd h.1 c2, fun _ => rfl⟩
variable {N v : Nat}
theorem tr_loop (hR : RelP N ν0 μ0) (hv : v ≤ cl (μ0.1 1 4)) {νa μa : Mm} {a1 : Int32} : ∀ (d k : Nat), k + d = cl (μ0.1 1 7) → ∀ n m, d + 1 ≤ n → d + 1 ≤ m → ∀ {ν μ : Mm} {len : Nat}, OuS ν0 μ0 ν μ len → len + 32 * d + 80 ≤ 1400 → ∃ νf μf lf, g_X8_tariffSheet_L138 νa a1 n ν (7 + (222 + 5 * v)) (7 + (222 + 5 * (v - 1))) (nI k) = some νf ∧ g_X12_writeTariff_L122 μa (nI v) m μ (nI k) = some (nI lf, μf) ∧ OuS ν0 μ0 νf μf lf ∧ lf ≤ 1400 := by
  obtain ⟨hLd, -⟩ := id hR
  obtain ⟨hL0, hW0, hP0⟩ := id hLd
  obtain ⟨c1, c2, c3⟩ := cl_of hW0.1.2.2.2.2.2.2.2.1
  have v3 := (cl_of hW0.1.2.2.2.2.1).2.2
  have hv21 : v < 21 := by omega
  obtain ⟨-, -, -, -, -, -, -, -, -, ⟨u0, u1⟩, ⟨u2, u3⟩, ⟨u4, u5⟩⟩ := hW0.1
  obtain ⟨-, vp, ⟨y0, y1⟩, ⟨y2, y3⟩⟩ := hW0.2.2.2.2.2.2.2.1 v hv21
  have TA : ∀ {ν μ : Mm} {len : Nat}, OuS ν0 μ0 ν μ len → TaR ν (7 + (222 + 5 * v)) (μ0.1 1) v ∧ TaR ν (7 + (222 + 5 * (v - 1))) (μ0.1 1) (v - 1) := fun h => ⟨(h.cls hLd).1.2.2.2.2.2 v hv, (h.cls hLd).1.2.2.2.2.2 (v - 1) (by omega)⟩
  intro d
  induction d with
  | zero =>
    intro k hk n m hn hm ν μ len h hl
    obtain ⟨n, rfl, -⟩ := succ_n hn
    obtain ⟨m, rfl, -⟩ := succ_n hm
    have g : (μ0.1 1 7) ≤ nI k := by rw [le32, nI_toInt (by omega)]; omega
    have t1 : slen 10024892076463357237700813175 = 12 := by decide
    have t2 : slen 35619865781792 = 6 := by decide
    have t3 : slen 9118676900016160 = 7 := by decide
    have t4 : slen 597602182112141205868 = 9 := by decide
    have t5 : slen 35620116328992 = 6 := by decide
    obtain ⟨ν1, μ1, l1, a1', a2', a3', a4'⟩ := wr_told (c := 10024892076463357237700813175) h (D := 4) (by decide) (by decide) (v := (μ0.1 1 9).toInt64) (by rw [ti_l]; show -10000 < _ ∧ _ < (10000 : Int); omega) (by rw [t1]; omega)
    rw [t1] at a3'
    obtain ⟨ν2, μ2, l2, b1, b2, b3, b4⟩ := wr_told (c := 35619865781792) a4' (D := 3) (by decide) (by decide) (v := (μ0.1 1 10).toInt64) (by rw [ti_l]; show -1000 < _ ∧ _ < (1000 : Int); omega) (by rw [t2]; omega)
    rw [t2] at b3
    obtain ⟨ν3, μ3, l3, d1, d2, d3, d4⟩ := wr_told (c := 9118676900016160) b4 (D := 3) (by decide) (by decide) (v := (μ0.1 1 11).toInt64) (by rw [ti_l]; show -1000 < _ ∧ _ < (1000 : Int); omega) (by rw [t3]; omega)
    rw [t3] at d3
    obtain ⟨ν4, μ4, l4, e1, e2, e3, e4⟩ := wr_nl d4 (by omega)
    obtain ⟨ν5, μ5, l5, f1, f2, f3, f4⟩ := wr_told (c := 597602182112141205868) e4 (D := 2) (by decide) (by decide) (v := (μ0.1 1 (22 + 12 * v + 10)).toInt64) (by rw [ti_l]; show -100 < _ ∧ _ < (100 : Int); omega) (by rw [t4]; omega)
    rw [t4] at f3
    obtain ⟨ν6, μ6, l6, g1, g2, g3, g4⟩ := wr_told (c := 35620116328992) f4 (D := 4) (by decide) (by decide) (v := (μ0.1 1 (22 + 12 * v + 11)).toInt64) (by rw [ti_l]; show -10000 < _ ∧ _ < (10000 : Int); omega) (by rw [t5]; omega)
    rw [t5] at g3
    obtain ⟨⟨-, h5, -, h7, -⟩, -⟩ := (TA h).1
    have h8 := (TA a4').1.1.2.2.2.2.1
    have h9 := (TA b4).1.1.2.2.2.2.2.1
    have h10 := (TA e4).1.1.2.2.2.2.2.2.1
    have h11 := (TA f4).1.1.2.2.2.2.2.2.2
    have x10 := (TA g4).1.1.2.2.2.2.2.2.1
    have x11 := (TA g4).1.1.2.2.2.2.2.2.2
    have z10 := (TA g4).2.1.2.2.2.2.2.2.1
    have z11 := (TA g4).2.1.2.2.2.2.2.2.2
    have O : ∀ (m : Mm) (j : Nat), m.1 1 = μ0.1 1 → j < 12 → f_X12_ofVersion m (nI v) (nI j) = μ0.1 1 (22 + 12 * v + j) := fun m j e hj => by rw [ofV_eq rfl (by omega) rfl (by omega), e]
    obtain ⟨em1, em2⟩ := end_m (μ0 := μ0) (x2 := (10 : Int32)) (x3 := (11 : Int32)) (j2 := 10) (j3 := 11) g4.e1 hv21 rfl rfl (by decide) (by decide)
    obtain ⟨x4, e2a, e2b⟩ : ∃ x4, g_X12_write μ3 (10 : Int32) = some x4 ∧ x4 = μ4 := by
      cases hw : g_X12_write μ3 (10 : Int32) with
      | none => rw [hw] at e2; cases e2
      | some y => rw [hw, bnd_s] at e2; exact ⟨y, rfl, Option.some.inj e2⟩
    subst e2b
    have fin : ∃ ν7 μ7 l7, (if (ν6.1 (7 + (222 + 5 * v)) 10) = (ν6.1 (7 + (222 + 5 * (v - 1))) 10) then (if (ν6.1 (7 + (222 + 5 * v)) 11) = (ν6.1 (7 + (222 + 5 * (v - 1))) 11) then bnd (g_X8_endTariffLine ν6 false) (fun q46 => some q46) else bnd (g_X8_endTariffLine ν6 true) (fun q48 => some q48)) else bnd (g_X8_endTariffLine ν6 true) (fun q43 => some q43)) = some ν7 ∧ g_X12_writeEnd μ6 (nI v) (10 : Int32) (11 : Int32) = some μ7 ∧ l7 ≤ l6 + 9 ∧ OuS ν0 μ0 ν7 μ7 l7 := by
      rw [x10, z10, x11, z11]
      obtain ⟨ν7, μ7, l7, k1, k2, k3, k4⟩ := wr_nl g4 (by omega)
      obtain ⟨ν8, μ8, l8, m1, m2, m3, m4⟩ := wr_chg g4 (by omega)
      by_cases q1 : μ0.1 1 (22 + 12 * v + 10) = μ0.1 1 (22 + 12 * (v - 1) + 10)
      · by_cases q2 : μ0.1 1 (22 + 12 * v + 11) = μ0.1 1 (22 + 12 * (v - 1) + 11)
        · rw [if_pos q1, if_pos q2, k1, bnd_s, em1 ⟨q1, q2⟩, k2]
          exact ⟨ν7, μ7, l7, rfl, rfl, by omega, k4⟩
        · rw [if_pos q1, if_neg q2, m1, bnd_s, em2 (fun z => q2 z.2), m2]
          exact ⟨ν8, μ8, l8, rfl, rfl, by omega, m4⟩
      · rw [if_neg q1, m1, bnd_s, em2 (fun z => q1 z.1), m2]
        exact ⟨ν8, μ8, l8, rfl, rfl, by omega, m4⟩
    obtain ⟨ν7, μ7, l7, k1, k2, k3, k4⟩ := fin
    refine ⟨ν7, μ7, l7, ?_, ?_, k4, by omega⟩
    · unfold g_X8_tariffSheet_L138
      rw [h5, if_pos g, h7, a1', bnd_s, h8, b1, bnd_s, h9, d1, bnd_s, e1, bnd_s, h10, f1, bnd_s, h11, g1, bnd_s]
      exact k1
    · unfold g_X12_writeTariff_L122
      rw [show μ.1 1 7 = μ0.1 1 7 from by rw [h.e1], if_pos g, show μ.1 1 9 = μ0.1 1 9 from by rw [h.e1], a2', bnd_s, show μ1.1 1 10 = μ0.1 1 10 from by rw [a4'.e1], b2, bnd_s, show μ2.1 1 11 = μ0.1 1 11 from by rw [b4.e1], d2, bnd_s, e2a, bnd_s, asr_pos (vp_in_nI hv21 (by decide)), bnd_s, show f_X12_ofVersion x4 (nI v) (10 : Int32) = μ0.1 1 (22 + 12 * v + 10) from O x4 10 e4.e1 (by decide), f2, bnd_s, bnd_s, show f_X12_ofVersion μ5 (nI v) (11 : Int32) = μ0.1 1 (22 + 12 * v + 11) from O μ5 11 f4.e1 (by decide), g2, bnd_s, k2, bnd_s, k4.m]
  | succ d ih =>
    intro k hk n m hn hm ν μ len h hl
    obtain ⟨n, rfl, hn2⟩ := succ_n hn
    obtain ⟨m, rfl, hm2⟩ := succ_n hm
    have hlt : k < cl (μ0.1 1 7) := by omega
    have hk4 : k < 4 := by omega
    have g : ¬ (μ0.1 1 7) ≤ nI k := by rw [le32, nI_toInt (by omega)]; omega
    have t1 : slen 9118749779191154 = 7 := by decide
    have t2 : slen 598685564992338882592 = 9 := by decide
    obtain ⟨q0, q1⟩ := hW0.2.2.2.2.1 k hk4
    obtain ⟨p0, p1⟩ := vp k hk4
    have h5 := (TA h).1.1.2.1
    have h3 := ((TA h).1.2.2 k hlt).1
    obtain ⟨ν1, μ1, l1, a1', a2', a3', a4'⟩ := wr_told (c := 9118749779191154) h (D := 2) (by decide) (by decide) (v := (μ0.1 1 (18 + k)).toInt64) (by rw [ti_l]; show -100 < _ ∧ _ < (100 : Int); omega) (by rw [t1]; omega)
    rw [t1] at a3'
    have h4 := ((TA a4').1.2.2 k hlt).2
    obtain ⟨ν2, μ2, l2, b1, b2, b3, b4⟩ := wr_told (c := 598685564992338882592) a4' (D := 3) (by decide) (by decide) (v := (μ0.1 1 (22 + 12 * v + (6 + k))).toInt64) (by rw [ti_l]; show -1000 < _ ∧ _ < (1000 : Int); omega) (by rw [t2]; omega)
    rw [t2] at b3
    have y4 := ((TA b4).1.2.2 k hlt).2
    have z4 := ((TA b4).2.2.2 k hlt).2
    have e6 : (6 : Int32) + nI k = nI (6 + k) := nI_add 6 k
    have e18 : (18 : Int32) + nI k = nI (18 + k) := nI_add 18 k
    obtain ⟨em1, em2⟩ := end_m (μ0 := μ0) (x2 := nI (6 + k)) (x3 := nI (6 + k)) (j2 := 6 + k) (j3 := 6 + k) b4.e1 hv21 rfl rfl (by omega) (by omega)
    have O : f_X12_ofVersion μ1 (nI v) (nI (6 + k)) = μ0.1 1 (22 + 12 * v + (6 + k)) := by rw [ofV_eq rfl (by omega) rfl (by omega), a4'.e1]
    have fin : ∃ ν7 μ7 l7, (∀ (F : Mm → Option Mm), (if (ν2.1 (7 + (222 + 5 * v) + 4) k) = (ν2.1 (7 + (222 + 5 * (v - 1)) + 4) k) then bnd (g_X8_endTariffLine ν2 false) F else bnd (g_X8_endTariffLine ν2 true) F) = F ν7) ∧ g_X12_writeEnd μ2 (nI v) (nI (6 + k)) (nI (6 + k)) = some μ7 ∧ l7 ≤ l2 + 9 ∧ OuS ν0 μ0 ν7 μ7 l7 := by
      rw [y4, z4]
      obtain ⟨ν7, μ7, l7, k1, k2, k3, k4⟩ := wr_nl b4 (by omega)
      obtain ⟨ν8, μ8, l8, m1, m2, m3, m4⟩ := wr_chg b4 (by omega)
      by_cases qq : μ0.1 1 (22 + 12 * v + (6 + k)) = μ0.1 1 (22 + 12 * (v - 1) + (6 + k))
      · exact ⟨ν7, μ7, l7, fun F => by rw [if_pos qq, k1, bnd_s], by rw [em1 ⟨qq, qq⟩, k2], by omega, k4⟩
      · exact ⟨ν8, μ8, l8, fun F => by rw [if_neg qq, m1, bnd_s], by rw [em2 (fun z => qq z.1), m2], by omega, m4⟩
    obtain ⟨ν7, μ7, l7, k1, k2, k3, k4⟩ := fin
    obtain ⟨νf, μf, lf, f1, f2, f3, f4⟩ := ih (k + 1) (by omega) n m hn2 hm2 k4 (by omega)
    refine ⟨νf, μf, lf, ?_, ?_, f3, f4⟩
    · unfold g_X8_tariffSheet_L138
      rw [h5, if_neg g, asr_pos (vp_in_nI hk4 (by decide)), cl_nI (by omega), h3, a1', bnd_s, h4, b1, bnd_s, nI1]
      exact (k1 (fun q => g_X8_tariffSheet_L138 νa a1 n q (7 + (222 + 5 * v)) (7 + (222 + 5 * (v - 1))) (nI (k + 1)))).trans f1
    · unfold g_X12_writeTariff_L122
      rw [show μ.1 1 7 = μ0.1 1 7 from by rw [h.e1], if_neg g, e18, asr_pos (vp_in_nI (by omega) (by decide)), cl_nI (by omega), show μ.1 1 (18 + k) = μ0.1 1 (18 + k) from by rw [h.e1], a2', bnd_s, asr_pos (vp_in_nI hv21 (by decide)), e6, asr_pos (vp_in_nI (by omega) (by decide)), bnd_s, O, b2, bnd_s, k2, bnd_s, nI1]
      exact f2
theorem tb_loop (hR : RelP N ν0 μ0) (hv : v ≤ cl (μ0.1 1 4)) {νa μa : Mm} {a1 : Int32} : ∀ (d k : Nat), k + d = cl (μ0.1 1 6) → ∀ n m, d + 1 ≤ n → d + 1 ≤ m → ∀ {ν μ : Mm} {len : Nat}, OuS ν0 μ0 ν μ len → len + 32 * d + 220 ≤ 1400 → ∃ νf μf lf, g_X8_tariffSheet_L66 νa a1 n ν (7 + (222 + 5 * v)) (7 + (222 + 5 * (v - 1))) (nI k) = some νf ∧ g_X12_writeTariff_L59 μa (nI v) m μ (nI k) = some (nI lf, μf) ∧ OuS ν0 μ0 νf μf lf ∧ lf ≤ 1400 := by
  obtain ⟨hLd, -⟩ := id hR
  obtain ⟨hL0, hW0, hP0⟩ := id hLd
  obtain ⟨c1, c2, c3⟩ := cl_of hW0.1.2.2.2.2.2.2.1
  have n7 := (cl_of hW0.1.2.2.2.2.2.2.2.1).2.2
  have v3 := (cl_of hW0.1.2.2.2.2.1).2.2
  have hv21 : v < 21 := by omega
  obtain ⟨vb, -⟩ := hW0.2.2.2.2.2.2.2.1 v hv21
  have TA : ∀ {ν μ : Mm} {len : Nat}, OuS ν0 μ0 ν μ len → TaR ν (7 + (222 + 5 * v)) (μ0.1 1) v ∧ TaR ν (7 + (222 + 5 * (v - 1))) (μ0.1 1) (v - 1) := fun h => ⟨(h.cls hLd).1.2.2.2.2.2 v hv, (h.cls hLd).1.2.2.2.2.2 (v - 1) (by omega)⟩
  intro d
  induction d with
  | zero =>
    intro k hk n m hn hm ν μ len h hl
    obtain ⟨n, rfl, -⟩ := succ_n hn
    obtain ⟨m, rfl, -⟩ := succ_n hm
    have g : (μ0.1 1 6) ≤ nI k := by rw [le32, nI_toInt (by omega)]; omega
    obtain ⟨νf, μf, lf, f1, f2, f3, f4⟩ := tr_loop (νa := νa) (μa := μa) (a1 := a1) hR hv (cl (μ0.1 1 7)) 0 (by omega) 10000 10000 (by omega) (by omega) h (by omega)
    refine ⟨νf, μf, lf, ?_, ?_, f3, f4⟩
    · unfold g_X8_tariffSheet_L66
      rw [(TA h).1.1.1, if_pos g]
      exact f1
    · unfold g_X12_writeTariff_L59
      rw [show μ.1 1 6 = μ0.1 1 6 from by rw [h.e1], if_pos g]
      exact f2
  | succ d ih =>
    intro k hk n m hn hm ν μ len h hl
    obtain ⟨n, rfl, hn2⟩ := succ_n hn
    obtain ⟨m, rfl, hm2⟩ := succ_n hm
    have hlt : k < cl (μ0.1 1 6) := by omega
    have hk6 : k < 6 := by omega
    have g : ¬ (μ0.1 1 6) ≤ nI k := by rw [le32, nI_toInt (by omega)]; omega
    have t1 : slen 139123908962 = 5 := by decide
    have t2 : slen 35620116328992 = 6 := by decide
    obtain ⟨q0, q1⟩ := hW0.2.1 k hk6
    obtain ⟨p0, p1⟩ := vb k hk6
    have h5 := (TA h).1.1.1
    have h3 := ((TA h).1.2.1 k hlt).1
    obtain ⟨ν1, μ1, l1, a1', a2', a3', a4'⟩ := wr_told (c := 139123908962) h (D := 4) (by decide) (by decide) (v := (μ0.1 1 (12 + k)).toInt64) (by rw [ti_l]; show -10000 < _ ∧ _ < (10000 : Int); omega) (by rw [t1]; omega)
    rw [t1] at a3'
    have h4 := ((TA a4').1.2.1 k hlt).2
    obtain ⟨ν2, μ2, l2, b1, b2, b3, b4⟩ := wr_told (c := 35620116328992) a4' (D := 3) (by decide) (by decide) (v := (μ0.1 1 (22 + 12 * v + k)).toInt64) (by rw [ti_l]; show -1000 < _ ∧ _ < (1000 : Int); omega) (by rw [t2]; omega)
    rw [t2] at b3
    have y4 := ((TA b4).1.2.1 k hlt).2
    have z4 := ((TA b4).2.2.1 k hlt).2
    have e6 : (0 : Int32) + nI k = nI k := Int32.zero_add _
    have e12 : (12 : Int32) + nI k = nI (12 + k) := nI_add 12 k
    obtain ⟨em1, em2⟩ := end_m (μ0 := μ0) (x2 := nI k) (x3 := nI k) (j2 := k) (j3 := k) b4.e1 hv21 rfl rfl (by omega) (by omega)
    have O : f_X12_ofVersion μ1 (nI v) (nI k) = μ0.1 1 (22 + 12 * v + k) := by rw [ofV_eq rfl (by omega) rfl (by omega), a4'.e1]
    have fin : ∃ ν7 μ7 l7, (∀ (F : Mm → Option Mm), (if (ν2.1 (7 + (222 + 5 * v) + 2) k) = (ν2.1 (7 + (222 + 5 * (v - 1)) + 2) k) then bnd (g_X8_endTariffLine ν2 false) F else bnd (g_X8_endTariffLine ν2 true) F) = F ν7) ∧ g_X12_writeEnd μ2 (nI v) (nI k) (nI k) = some μ7 ∧ l7 ≤ l2 + 9 ∧ OuS ν0 μ0 ν7 μ7 l7 := by
      rw [y4, z4]
      obtain ⟨ν7, μ7, l7, k1, k2, k3, k4⟩ := wr_nl b4 (by omega)
      obtain ⟨ν8, μ8, l8, m1, m2, m3, m4⟩ := wr_chg b4 (by omega)
      by_cases qq : μ0.1 1 (22 + 12 * v + k) = μ0.1 1 (22 + 12 * (v - 1) + k)
      · exact ⟨ν7, μ7, l7, fun F => by rw [if_pos qq, k1, bnd_s], by rw [em1 ⟨qq, qq⟩, k2], by omega, k4⟩
      · exact ⟨ν8, μ8, l8, fun F => by rw [if_neg qq, m1, bnd_s], by rw [em2 (fun z => qq z.1), m2], by omega, m4⟩
    obtain ⟨ν7, μ7, l7, k1, k2, k3, k4⟩ := fin
    obtain ⟨νf, μf, lf, f1, f2, f3, f4⟩ := ih (k + 1) (by omega) n m hn2 hm2 k4 (by omega)
    refine ⟨νf, μf, lf, ?_, ?_, f3, f4⟩
    · unfold g_X8_tariffSheet_L66
      rw [h5, if_neg g, asr_pos (vp_in_nI hk6 (by decide)), cl_nI (by omega), h3, a1', bnd_s, h4, b1, bnd_s, nI1]
      exact (k1 (fun q => g_X8_tariffSheet_L66 νa a1 n q (7 + (222 + 5 * v)) (7 + (222 + 5 * (v - 1))) (nI (k + 1)))).trans f1
    · unfold g_X12_writeTariff_L59
      rw [show μ.1 1 6 = μ0.1 1 6 from by rw [h.e1], if_neg g, e12, asr_pos (vp_in_nI (by omega) (by decide)), cl_nI (by omega), show μ.1 1 (12 + k) = μ0.1 1 (12 + k) from by rw [h.e1], a2', bnd_s, asr_pos (vp_in_nI hv21 (by decide)), e6, asr_pos (vp_in_nI (by omega) (by decide)), bnd_s, O, b2, bnd_s, k2, bnd_s, nI1]
      exact f2
end TS
theorem s61 : Sm_61 RelP := by
  intro n ν μ hn hR a1
  obtain ⟨hLd, -⟩ := id hR
  obtain ⟨hL, hW, hP⟩ := id hLd
  have e9 : ν.1 7 9 = μ.1 1 4 := hL.1.2.2.2.2.1
  obtain ⟨v1, v2, v3⟩ := cl_of hW.1.2.2.2.2.1
  obtain ⟨w0, w1⟩ := hW.1.2.2.2.2.1
  have z1 : ((1 : Int32)).toInt = 1 := rfl
  have ev : ((μ.1 1 4) + (1 : Int32)).toInt = (μ.1 1 4).toInt + 1 := ti_add (by omega) (by omega)
  have er : f_X12_in a1.toInt64 (0 : Int64) ((μ.1 1 4).toInt64) = decide (0 ≤ a1.toInt ∧ a1.toInt < (μ.1 1 4).toInt + 1) := by
    rw [inX_eq, ti_l]
    congr 1
    exact propext ⟨fun h => ⟨h.1, by omega⟩, fun h => ⟨h.1, by omega⟩⟩
  have rq : ∀ z, bnd (g_X11_requireIndex ν a1 ((ν.1 7 9) + (1 : Int32))) z = ((if 0 ≤ a1.toInt ∧ a1.toInt < (μ.1 1 4).toInt + 1 then z (.ok ()) else z (.error 1)) : Option (Thr (Int32 × Mm))) := fun z => by
    rw [rqI, e9, ev, bnd_s]
    split <;> rfl
  by_cases h : 0 ≤ a1.toInt ∧ a1.toInt < (μ.1 1 4).toInt + 1
  · obtain ⟨x1, x2, x3⟩ := cl_of (x := a1) (hi := 20) ⟨h.1, by omega⟩
    obtain ⟨v, ev'⟩ : ∃ v, v = cl a1 := ⟨_, rfl⟩
    rw [← ev'] at x1 x2 x3
    have hv : v ≤ cl (μ.1 1 4) := by omega
    have hR0 := hR.th0 0
    have hLd0 : LdW n ν 7 ((uI μ 0 0 0).1 1) ((uI μ 0 0 0).2.1 3) := hLd
    have s0 := OuS.ini ν (uI μ 0 0 0)
    have n6 := (cl_of hW.1.2.2.2.2.2.2.1).2.2
    have t1 : slen 2336927755350992246 = 8 := by decide
    have t2 : slen 753057040345887498 = 8 := by decide
    have t3 : slen 11417657570058 = 6 := by decide
    have kl : a1.toInt64.toInt = (v : Int) := by rw [ti_l, x1, nI_toInt (by omega)]
    obtain ⟨ν1, μ1, l1, y1, y2, y3, y4⟩ := wr_told (c := 2336927755350992246) s0 (D := 2) (by decide) (by decide) (v := a1.toInt64) (by rw [kl]; show -100 < (v : Int) ∧ (v : Int) < 100; omega) (by rw [t1]; omega)
    rw [t1] at y3
    have h6 : ν1.1 (7 + (222 + 5 * v)) 6 = μ.1 1 8 := ((y4.cls hLd0).1.2.2.2.2.2 v hv).1.2.2.1
    have m8 : μ1.1 1 8 = μ.1 1 8 := by rw [y4.e1]; rfl
    have im : imax (a1 - (1 : Int32)) (0 : Int32) = nI (v - 1) := by
      rw [eq32, imax_ti, x1, ti_sub (by rw [nI_toInt (by omega), z1]; omega) (by rw [nI_toInt (by omega), z1]; omega), nI_toInt (by omega), nI_toInt (by omega), z1]
      show max ((v : Int) - 1) 0 = _
      omega
    have key : ∃ νf μf lf, (if ν1.1 (7 + (222 + 5 * v)) 6 = 0 then bnd (g_X1_putText ν1 4 753057040345887498) (fun q16 => (g_X8_tariffSheet_L66 ν a1 10000 q16 (7 + (222 + 5 * v)) (7 + (222 + 5 * (v - 1))) (0 : Int32))) else bnd (g_X1_putText ν1 4 11417657570058) (fun q84 => (g_X8_tariffSheet_L66 ν a1 10000 q84 (7 + (222 + 5 * v)) (7 + (222 + 5 * (v - 1))) (0 : Int32)))) = some νf ∧ (if (μ1.1 1 8) = 0 then bnd (g_X12_writeText μ1 753057040345887498) (fun q93 => (g_X12_writeTariff_L59 μ a1 10000 q93 (0 : Int32))) else bnd (g_X12_writeText μ1 11417657570058) (fun q20 => (g_X12_writeTariff_L59 μ a1 10000 q20 (0 : Int32)))) = some (nI lf, μf) ∧ OuS ν (uI μ 0 0 0) νf μf lf ∧ lf ≤ 1400 := by
      rw [h6, m8]
      by_cases q : μ.1 1 8 = 0
      · obtain ⟨ν2, μ2, l2, u1, u2, u3, u4⟩ := wr_txt (c := 753057040345887498) y4 (by rw [t2]; omega)
        rw [t2] at u3
        obtain ⟨νf, μf, lf, f1, f2, f3, f4⟩ := tb_loop (νa := ν) (μa := μ) (a1 := a1) (v := v) hR0 hv (cl (μ.1 1 6)) 0 (Nat.zero_add _) 10000 10000 (by omega) (by omega) u4 (by omega)
        rw [if_pos q, if_pos q, u1, bnd_s, u2, bnd_s]
        refine ⟨νf, μf, lf, f1, ?_, f3, f4⟩
        rw [x1]
        exact f2
      · obtain ⟨ν2, μ2, l2, u1, u2, u3, u4⟩ := wr_txt (c := 11417657570058) y4 (by rw [t3]; omega)
        rw [t3] at u3
        obtain ⟨νf, μf, lf, f1, f2, f3, f4⟩ := tb_loop (νa := ν) (μa := μ) (a1 := a1) (v := v) hR0 hv (cl (μ.1 1 6)) 0 (Nat.zero_add _) 10000 10000 (by omega) (by omega) u4 (by omega)
        rw [if_neg q, if_neg q, u1, bnd_s, u2, bnd_s]
        refine ⟨νf, μf, lf, f1, ?_, f3, f4⟩
        rw [x1]
        exact f2
    obtain ⟨νf, μf, lf, f1, f2, f3, f4⟩ := key
    refine wo_ok (v := nI lf) ((f3.rel hR0 f4).mono (Nat.le_succ n)) ?_ ?_ ?_
    · rw [f3.2.2.1 0 (by decide)]
      rfl
    · unfold g_X11_writeTariff
      rw [rq, if_pos h, bnx_ok]
      unfold g_X8_tariffSheet
      rw [im, asr_pos (by rw [x1]; exact vp_in_nI (by omega) (by decide)), asr_pos (vp_in_nI (by omega) (by decide)), bnd_s, y1, bnd_s, ← ev', cl_nI (by omega), f1, bnd_s, f3.l]
    · unfold g_X12_writeTariff
      rw [bnd_s, bnd_s, show f_X12_version μ = μ.1 1 4 from rfl, er, decide_eq_true h, show f_X12_passes μ true = (true, uI μ 0 0 0) from rfl, bnd_s, if_pos rfl, bnd_s]
      rw [show g_X12_writeTold (uI (true, uI μ 0 0 0).2 0 21 0) 2336927755350992246 a1.toInt64 = some μ1 from y2, bnd_s]
      exact f2
  · refine wo_er 1 1 hR ?_ ?_ rfl rfl (by decide)
    · unfold g_X11_writeTariff
      rw [rq, if_neg h]
      rfl
    · unfold g_X12_writeTariff
      rw [bnd_s, bnd_s, show f_X12_version μ = μ.1 1 4 from rfl, er, decide_eq_false h, pz1]
      rfl
