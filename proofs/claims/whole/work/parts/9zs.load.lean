/-! PURE. A text is loaded. -/
section LOAD
variable {ν μ : Mm} {len : Nat}
theorem clr_of : ∃ r, g_X5_clear ν 334 = some r ∧ (∀ off, off ≠ 334 → off ≠ 556 → Eq3 ν r off) ∧ (∀ k, 5 ≤ k → k < 11 → r.1 334 k = 0) ∧ ∀ k, 4 ≤ k → k < 12 → r.1 556 k = if k = 10 then 30 else 0 := by
  unfold g_X5_clear
  rw [asr_pos led334, bnd_s, bnd_s, bnd_s, bnd_s, bnd_s, bnd_s]
  unfold g_X10_clear
  rw [asr_pos (show isTar (334 + (222 + 5 * 0)) from tar556), bnd_s, bnd_s, bnd_s, bnd_s, bnd_s, bnd_s, bnd_s, bnd_s, bnd_s]
  refine ⟨_, rfl, fun off g1 g2 => ?_, fun k g1 g2 => ?_, fun k g1 g2 => ?_⟩
  · exact (((((((((((((((Eq3.rf ν off).I g1).I g1).I g1).I g1).I g1).I g1).I g2).I g2).I g2).I g2).I g2).I g2).I g2).I g2)
  · have c : k = 5 ∨ k = 6 ∨ k = 7 ∨ k = 8 ∨ k = 9 ∨ k = 10 := by omega
    rcases c with rfl | rfl | rfl | rfl | rfl | rfl <;> simp [uI_at]
  · have c : k = 4 ∨ k = 5 ∨ k = 6 ∨ k = 7 ∨ k = 8 ∨ k = 9 ∨ k = 10 ∨ k = 11 := by omega
    rcases c with rfl | rfl | rfl | rfl | rfl | rfl | rfl | rfl <;> simp [uI_at]
/-- k cells of the draft are cleared -/
def Zl (μ μ' : Mm) (k : Nat) : Prop := (∀ off, off ≠ 2 → Eq3 μ μ' off) ∧ μ'.2 = μ.2 ∧ ∀ i, i < k → μ'.1 2 i = 0
theorem zl_loop (νa : Mm) : ∀ (d k : Nat), k + d = 1377 → ∀ n, d + 1 ≤ n → ∀ μ', Zl μ μ' k → ∃ r m, Zl μ r 1377 ∧ g_X12_load_L50 νa n μ' (nI k) = g_X12_load_L50 νa (m + 1) r (nI 1377) := by
  intro d
  induction d with
  | zero =>
    intro k hk n hn μ' h
    obtain ⟨n, rfl, -⟩ := succ_n hn
    have ek : k = 1377 := by omega
    subst ek
    exact ⟨μ', n, h, rfl⟩
  | succ d ih =>
    intro k hk n hn μ' h
    obtain ⟨n, rfl, hn2⟩ := succ_n hn
    obtain ⟨g1, g2, g3⟩ := h
    have t : ((1377 : Int32)).toInt = 1377 := rfl
    obtain ⟨r, m, r1, r2⟩ := ih (k + 1) (by omega) n hn2 (uI μ' 2 k (0 : Int32)) ⟨fun off ho => (g1 off ho).I ho, g2, fun i hi => by
      rw [uI_at]
      by_cases e : i = k
      · rw [if_pos ⟨rfl, e⟩]
      · rw [if_neg (fun z => e z.2)]
        exact g3 i (by omega)⟩
    refine ⟨r, m, r1, ?_⟩
    rw [← r2]
    conv => lhs; unfold g_X12_load_L50
    rw [if_neg (show ¬ (1377 : Int32) ≤ nI k by rw [le32, t, nI_toInt (by omega)]; omega), asr_pos (vp_in_nI (by omega) (by decide)), cl_nI (by omega), bnd_s, nI1]
/-- k cells of the draft are taken over -/
def Ck (μ μ' : Mm) (k : Nat) : Prop := (∀ off, off ≠ 1 → Eq3 μ μ' off) ∧ μ'.2 = μ.2 ∧ ∀ i, i < k → μ'.1 1 i = μ.1 2 i
theorem ck_loop (νa : Mm) : ∀ (d k : Nat), k + d = 1377 → ∀ n, d + 1 ≤ n → ∀ μ', Ck μ μ' k → ∃ r, Ck μ r 1377 ∧ g_X12_load_L133 νa n μ' (nI k) = g_X12_load_L160 νa 10000 r (0 : Int32) := by
  intro d
  induction d with
  | zero =>
    intro k hk n hn μ' h
    obtain ⟨n, rfl, -⟩ := succ_n hn
    have ek : k = 1377 := by omega
    subst ek
    refine ⟨μ', h, ?_⟩
    unfold g_X12_load_L133
    rw [if_pos (show (1377 : Int32) ≤ nI 1377 by decide)]
  | succ d ih =>
    intro k hk n hn μ' h
    obtain ⟨n, rfl, hn2⟩ := succ_n hn
    obtain ⟨g1, g2, g3⟩ := h
    have t : ((1377 : Int32)).toInt = 1377 := rfl
    obtain ⟨r, r1, r2⟩ := ih (k + 1) (by omega) n hn2 (uI μ' 1 k (μ'.1 2 k)) ⟨fun off ho => (g1 off ho).I ho, g2, fun i hi => by
      rw [uI_at]
      by_cases e : i = k
      · rw [if_pos ⟨rfl, e⟩, (g1 2 (by decide)).1, e]
      · rw [if_neg (fun z => e z.2)]
        exact g3 i (by omega)⟩
    refine ⟨r, r1, ?_⟩
    rw [← r2]
    conv => lhs; unfold g_X12_load_L133
    rw [if_neg (show ¬ (1377 : Int32) ≤ nI k by rw [le32, t, nI_toInt (by omega)]; omega), asr_pos (vp_in_nI (by omega) (by decide)), cl_nI (by omega), bnd_s, nI1]
/-- k of the sums paid are cleared -/
def Pz (μ μ' : Mm) (k : Nat) : Prop := (∀ off, off ≠ 3 → Eq3 μ μ' off) ∧ ∀ i, i < k → μ'.2.1 3 i = 0
theorem pz_loop (νa : Mm) : ∀ (d k : Nat), k + d = 8 → ∀ n, d + 1 ≤ n → ∀ μ', Pz μ μ' k → ∃ r, Pz μ r 8 ∧ g_X12_load_L160 νa n μ' (nI k) = some (r.1 1 0, r) := by
  intro d
  induction d with
  | zero =>
    intro k hk n hn μ' h
    obtain ⟨n, rfl, -⟩ := succ_n hn
    have ek : k = 8 := by omega
    subst ek
    refine ⟨μ', h, ?_⟩
    unfold g_X12_load_L160
    rw [if_pos (show (8 : Int32) ≤ nI 8 by decide)]
  | succ d ih =>
    intro k hk n hn μ' h
    obtain ⟨n, rfl, hn2⟩ := succ_n hn
    obtain ⟨g1, g3⟩ := h
    have t : ((8 : Int32)).toInt = 8 := rfl
    obtain ⟨r, r1, r2⟩ := ih (k + 1) (by omega) n hn2 (uP μ' 3 k (0 : Int64)) ⟨fun off ho => (g1 off ho).P ho, fun i hi => by
      rw [uP_at]
      by_cases e : i = k
      · rw [if_pos ⟨rfl, e⟩]
      · rw [if_neg (fun z => e z.2)]
        exact g3 i (by omega)⟩
    refine ⟨r, r1, ?_⟩
    rw [← r2]
    conv => lhs; unfold g_X12_load_L160
    rw [if_neg (show ¬ (8 : Int32) ≤ nI k by rw [le32, t, nI_toInt (by omega)]; omega), asr_pos (vp_in_nI (by omega) (by decide)), cl_nI (by omega), bnd_s, nI1]
theorem st0 (h : ν.1 661 2 = 0) : g_X7_statement ν = bnd (g_X7_fail ν (1 : Int32)) (fun q41 => some (q41.1, q41.2)) := by
  have T : ∀ w, g_X7_tokenIs ν w = some false := fun w => by
    unfold g_X7_tokenIs
    rw [h, if_neg (show ¬ (0 : Int32) = 1 by decide)]
  unfold g_X7_statement
  rw [T, bnd_s, if_neg nff, T, bnd_s, if_neg nff, T, bnd_s, if_neg nff, T, bnd_s, if_neg nff, T, bnd_s, if_neg nff, T, bnd_s, if_neg nff, T, bnd_s, if_neg nff, T, bnd_s, if_neg nff]
/-- the draft at the start -/
theorem dr0 (c1 : ∀ k, 5 ≤ k → k < 11 → ν.1 334 k = 0) (c2 : ∀ k, 4 ≤ k → k < 12 → ν.1 556 k = if k = 10 then 30 else 0) (c3 : ∀ k, k = 6 ∨ k = 7 ∨ k = 8 → ν.1 661 k = 0) (m1 : ∀ i, i < 1377 → μ.1 2 i = if i = 32 then 30 else 0) (m2 : ∀ k, k = 14 ∨ k = 15 ∨ k = 16 → μ.1 0 k = 0) : Dr ν μ 0 := by
  have L0 : LdR ν 334 (mu0.1 1) (fun _ => 0) := by
    refine ⟨⟨c1 5 (by omega) (by omega), c1 6 (by omega) (by omega), c1 7 (by omega) (by omega), c1 8 (by omega) (by omega), c1 9 (by omega) (by omega), c1 10 (by omega) (by omega)⟩, fun s hs => absurd hs (Nat.not_lt_zero _), fun c hc => absurd hc (Nat.not_lt_zero _), fun i hi => absurd hi (Nat.not_lt_zero _), fun m hm => absurd hm (Nat.not_lt_zero _), fun v hv => ?_⟩
    have e : v = 0 := Nat.le_zero.mp hv
    subst e
    exact ⟨⟨c2 4 (by omega) (by omega), c2 5 (by omega) (by omega), c2 6 (by omega) (by omega), c2 7 (by omega) (by omega), c2 8 (by omega) (by omega), c2 9 (by omega) (by omega), c2 10 (by omega) (by omega), c2 11 (by omega) (by omega)⟩, fun b hb => absurd hb (Nat.not_lt_zero _), fun r hr => absurd hr (Nat.not_lt_zero _)⟩
  obtain ⟨h1, h2, -⟩ := LdW.cells (n := 0) ⟨L0, wf0, pb0 0⟩ (f' := μ.1 2) (p' := fun _ => 0) (fun k hk => (m1 k hk).trans (f0_at k).symm) (fun _ _ => rfl)
  have z : ∀ k, k < 32 → μ.1 2 k = 0 := fun k hk => by rw [m1 k (by omega), if_neg (by omega)]
  refine ⟨h1, h2, z 4 (by decide), 0, 0, 0, by omega, ⟨c3 6 (by omega), c3 7 (by omega), c3 8 (by omega)⟩, ⟨m2 14 (by omega), m2 15 (by omega), m2 16 (by omega)⟩, ?_, ?_⟩
  · rw [z 6 (by decide), z 7 (by decide), z 0 (by decide), z 1 (by decide)]
    rfl
  · rw [z 1 (by decide)]
    exact Nat.zero_le _
/-- the frame at the start -/
def Fs (ν μ ν1 μ1 : Mm) : Prop := (∀ off, off < 334 ∨ 661 < off → Eq3 ν ν1 off) ∧ (∀ off, off ≠ 0 → off ≠ 2 → Eq3 μ μ1 off) ∧ (∀ k, 16 < k → μ1.1 0 k = μ.1 0 k) ∧ μ1.1 0 6 = 0
theorem par_of (h : InR ν μ) : ∃ len ν1 μ1 b ν3 μ3, Fs ν μ ν1 μ1 ∧ g_X7_parseText ν = some (b, ν3) ∧ (∃ νa, g_X12_load μ = g_X12_load_J109 νa μ3) ∧ ((b = true ∧ ∃ N, Gd ν1 μ1 len N ν3 μ3) ∨ (b = false ∧ Er ν1 μ1 ν3 μ3)) := by
  obtain ⟨len, l1, l2, l3, l4⟩ := h
  obtain ⟨νc, c1, c2, c3, c4⟩ := clr_of (ν := ν)
  obtain ⟨μz, m, z1, z2⟩ := zl_loop (μ := uI (uI (uI (uI (uI (uI (uI (uI (uI μ 0 0 (0 : Int32)) 0 7 (nI len)) 0 6 (0 : Int32)) 0 8 (0 : Int32)) 0 12 (0 : Int32)) 0 13 (-1 : Int32)) 0 14 (0 : Int32)) 0 15 (0 : Int32)) 0 16 (0 : Int32)) μ 1377 0 (by omega) 10000 (by omega) _ ⟨fun off _ => Eq3.rf _ off, rfl, fun i hi => absurd hi (by omega)⟩
  obtain ⟨ν1, hν1⟩ : ∃ ν1 : Mm, ν1 = uI (uI (uI (uI (uI (uI νc 661 6 (0 : Int32)) 661 7 (0 : Int32)) 661 8 (0 : Int32)) 661 9 (0 : Int32)) 661 10 (-1 : Int32)) 661 4 (0 : Int32) := ⟨_, rfl⟩
  obtain ⟨μ1, hμ1⟩ : ∃ μ1 : Mm, μ1 = uN (uI μz 2 32 (30 : Int32)) 0 3 2 := ⟨_, rfl⟩
  have CF : ∀ off, off ≠ 334 → off ≠ 556 → off ≠ 661 → Eq3 ν ν1 off := fun off g1 g2 g3 => by
    rw [hν1]
    exact (((((((c2 off g1 g2).I g3).I g3).I g3).I g3).I g3).I g3)
  have C645 : ∀ k, ν1.1 661 k = if k = 4 then 0 else if k = 10 then -1 else if k = 9 then 0 else if k = 8 then 0 else if k = 7 then 0 else if k = 6 then 0 else νc.1 661 k := fun k => by
    rw [hν1]
    simp [uI_at]
  have MF : ∀ off, off ≠ 0 → off ≠ 2 → Eq3 μ μ1 off := fun off g1 g2 => by
    rw [hμ1]
    refine Eq3.N (Eq3.I ?_ g2) g1
    exact Eq3.tr ((((((((((Eq3.rf μ off).I g1).I g1).I g1).I g1).I g1).I g1).I g1).I g1).I g1) (z1.1 off g2)
  have M0 : ∀ k, μ1.1 0 k = if k = 16 then 0 else if k = 15 then 0 else if k = 14 then 0 else if k = 13 then -1 else if k = 12 then 0 else if k = 8 then 0 else if k = 6 then 0 else if k = 7 then nI len else if k = 0 then 0 else μ.1 0 k := fun k => by
    rw [hμ1, uN_1, (uI_o (show (0 : Nat) ≠ 2 by decide)).1, (z1.1 0 (by decide)).1]
    simp [uI_at]
  have M2 : ∀ i, i < 1377 → μ1.1 2 i = if i = 32 then 30 else 0 := fun i hi => by
    rw [hμ1, uN_1, uI_at]
    by_cases e : i = 32
    · rw [if_pos ⟨rfl, e⟩, if_pos e]
    · rw [if_neg (fun z => e z.2), if_neg e, z1.2.2 i hi]
  have MP : μ1.2.2 0 3 = 2 := by rw [hμ1, uN_at, if_pos ⟨rfl, rfl⟩]
  have hFs : Fs ν μ ν1 μ1 := ⟨fun off ho => CF off (by omega) (by omega) (by omega), MF, fun k hk => by rw [M0, if_neg (by omega), if_neg (by omega), if_neg (by omega), if_neg (by omega), if_neg (by omega), if_neg (by omega), if_neg (by omega), if_neg (by omega), if_neg (by omega)], by rw [M0]; rfl⟩
  have hT : Txt ν1 μ1 len := ⟨by rw [(CF 1 (by decide) (by decide) (by decide)).1]; exact l2, by rw [M0]; rfl, l1, fun k hk => by
    rw [(CF 3 (by decide) (by decide) (by decide)).1, (MF 4 (by decide) (by decide)).1]
    exact l4 k hk⟩
  have hD : Dr ν1 μ1 0 := by
    refine dr0 (fun k g1 g2 => ?_) (fun k g1 g2 => ?_) (fun k hk => ?_) M2 (fun k hk => ?_)
    · rw [hν1, (uI_o (show (334 : Nat) ≠ 661 by decide)).1, (uI_o (show (334 : Nat) ≠ 661 by decide)).1, (uI_o (show (334 : Nat) ≠ 661 by decide)).1, (uI_o (show (334 : Nat) ≠ 661 by decide)).1, (uI_o (show (334 : Nat) ≠ 661 by decide)).1, (uI_o (show (334 : Nat) ≠ 661 by decide)).1]
      exact c3 k g1 g2
    · rw [hν1, (uI_o (show (556 : Nat) ≠ 661 by decide)).1, (uI_o (show (556 : Nat) ≠ 661 by decide)).1, (uI_o (show (556 : Nat) ≠ 661 by decide)).1, (uI_o (show (556 : Nat) ≠ 661 by decide)).1, (uI_o (show (556 : Nat) ≠ 661 by decide)).1, (uI_o (show (556 : Nat) ≠ 661 by decide)).1]
      exact c4 k g1 g2
    · rw [C645]
      rcases hk with rfl | rfl | rfl <;> rfl
    · rw [M0]
      rcases hk with rfl | rfl | rfl <;> rfl
  obtain ⟨ν2, μ2, r1, r2, r3, r4⟩ := rt_of hT (e := 0) (by omega) (by rw [C645]; rfl) (by rw [M0]; rfl)
  have hG : Gd ν1 μ1 len 0 ν2 μ2 := by
    refine ⟨Fz.mw (μ := μ1) ⟨fun off _ => Eq3.rf ν1 off, fun off _ _ => Eq3.rf μ1 off, rfl, fun _ _ => rfl, MP⟩ (Mw.mv r3), ⟨r3.txt hT, r4, ?_, ?_, ?_, ?_⟩, hD.mw (Mw.mv r3)⟩
    · rw [r3.2.1.2 9 (by decide) (by decide) (by decide), C645]; rfl
    · rw [r3.2.1.2 10 (by decide) (by decide) (by decide), C645]; rfl
    · rw [r3.2.2.2.2 12 (by decide), M0]; rfl
    · rw [r3.2.2.2.2 13 (by decide), M0]; rfl
  have CE : g_X7_parseText ν = if ν2.1 661 2 = 0 then bnd (g_X7_fail ν2 (1 : Int32)) (fun q26 => some (q26.1, q26.2)) else g_X7_parseText_L56 ν 45 ν2 (0 : Int32) := by
    unfold g_X7_parseText
    rw [c1, bnd_s, bnd_s, bnd_s, bnd_s, bnd_s, bnd_s, bnd_s, ← hν1, r1, bnd_s]
  have ME : g_X12_load μ = g_X12_load_L91 μ 10000 μ2 := by
    unfold g_X12_load
    rw [bnd_s, bnd_s, bnd_s, bnd_s, bnd_s, bnd_s, bnd_s, bnd_s, bnd_s, show (uI μ 0 0 (0 : Int32)).1 0 6 = nI len from by rw [uI_at, if_neg (fun z => absurd z.2 (by decide))]; exact l3]
    refine Eq.trans z2 ?_
    unfold g_X12_load_L50
    rw [if_pos (show (1377 : Int32) ≤ nI 1377 by decide), bnd_s, bnd_s, ← hμ1, r2, bnd_s]
  rw [CE, ME]
  by_cases e : ν2.1 661 2 = 0
  · rw [if_pos e]
    obtain ⟨b, ν3, μ3, s1, s2, s3⟩ := stat_of hG
    obtain ⟨ν4, μ4, f1, f2, f3, f4⟩ := fail_of hG.2.1 (1 : Int32) (by decide)
    have s1' := s1
    rw [st0 e, f1, bnd_s] at s1'
    have eb : b = false := (congrArg Prod.fst (Option.some.inj s1')).symm
    rcases s3 with ⟨s3, -⟩ | ⟨-, s3⟩
    · exact absurd (eb.symm.trans s3) (by decide)
    · refine ⟨len, ν1, μ1, false, ν3, μ3, hFs, ?_, ⟨μ, ?_⟩, Or.inr ⟨rfl, s3⟩⟩
      · rw [← st0 e, s1, eb]
      · unfold g_X12_load_L91
        rw [s2, bd_semi s3.2.2.2, bnd_s, bnd_s, good_f s3.2.2.2, if_neg nff]
  · rw [if_neg e]
    obtain ⟨b, ν3, μ3, p1, p2, p3⟩ := prs_loop (ν0 := ν1) (μ0 := μ1) (len := len) ν μ 41 0 (by omega) 45 10000 (by omega) (by omega) ν2 μ2 hG e
    exact ⟨len, ν1, μ1, b, ν3, μ3, hFs, p1, ⟨μ, p2⟩, p3⟩
/-- after a text is read, the answer not yet taken over -/
theorem aft_of {n len : Nat} {ν1 μ1 ν3 μ3 : Mm} (h : RelP n ν μ) (hs : Fs ν μ ν1 μ1) (hz : Fz ν1 μ1 ν3 μ3) (he : ν3.1 661 9 = μ3.1 0 12 ∧ ν3.1 661 10 = μ3.1 0 13) : RelP n (uI ν3 1 2 (0 : Int32)) (uN μ3 0 3 1) := by
  obtain ⟨hLd, hHi, -, ⟨on, o1, o2, o3, o4⟩, -, -⟩ := h
  obtain ⟨s1, s2, s3, s4⟩ := hs
  obtain ⟨z1, z2, z3, z4, z5⟩ := hz
  have C : ∀ off, off < 334 ∨ 661 < off → off ≠ 1 → Eq3 ν (uI ν3 1 2 (0 : Int32)) off := fun off g1 g2 => ((s1 off g1).tr (z1 off g1)).I g2
  have M : ∀ off, off ≠ 0 → off ≠ 2 → Eq3 μ (uN μ3 0 3 1) off := fun off g1 g2 => ((s2 off g1 g2).tr (z2 off g1 g2)).N g1
  have M0 : ∀ k, 16 < k → (uN μ3 0 3 1).1 0 k = μ.1 0 k := fun k hk => by rw [uN_1, z4 k (Or.inr hk), s3 k hk]
  refine ⟨?_, ?_, ⟨0, by omega, ?_, ?_, fun k hk => absurd hk (Nat.not_lt_zero _)⟩, ⟨on, o1, ?_, ?_, fun k hk => ?_⟩, ⟨?_, ?_⟩, ?_⟩
  · exact hLd.cg (fun off g1 g2 => C off (by omega) (by omega)) (M 1 (by decide) (by decide)).1 (M 3 (by decide) (by decide)).2.1
  · exact hHi.cg (fun off g1 g2 => C off (by omega) (by omega)) (M 5 (by decide) (by decide)).1 (M 6 (by decide) (by decide)).2.1 (M0 19 (by omega))
  · rw [uI_at, if_pos ⟨rfl, rfl⟩]
    rfl
  · rw [uN_1, z4 6 (Or.inl (by decide)), s4]
    rfl
  · rw [(C 4 (by omega) (by omega)).1]; exact o2
  · rw [M0 21 (by omega)]; exact o3
  · rw [(C 6 (by omega) (by omega)).1, (M 7 (by decide) (by decide)).1]; exact o4 k hk
  · rw [(uI_o (show (661 : Nat) ≠ 1 by decide)).1, uN_1]; exact he.1
  · rw [(uI_o (show (661 : Nat) ≠ 1 by decide)).1, uN_1]; exact he.2
  · rw [uN_at, if_pos ⟨rfl, rfl⟩]
theorem s2 : Sm_2 RelP := by
  intro n ν μ hn hR
  obtain ⟨len, ν1, μ1, b, ν3, μ3, hs, p1, ⟨νa, p2⟩, p3⟩ := par_of hR.2.2.1
  unfold g_X11_load
  rw [p1, p2, bnd_s, bnd_s]
  unfold g_X12_load_J109
  rw [bnd_s, bnd_s]
  rcases p3 with ⟨rfl, N, hF, hP, hD⟩ | ⟨rfl, hF, hB⟩
  · obtain ⟨x1, x2, x3, x4⟩ := hP.2.2
    have hA : RelP n (uI ν3 1 2 (0 : Int32)) (uN μ3 0 3 1) := aft_of (len := len) hR hs hF ⟨x1.trans x3.symm, x2.trans x4.symm⟩
    obtain ⟨ν5, μ5, a1, a2, a3, a4, a5, a6⟩ := save_of hA
    have hL5 : LdW n ν5 334 (μ5.1 2) (fun _ => 0) := by
      refine LdW.cg (ν := ν3) (f := μ3.1 2) (p := fun _ => 0) ⟨hD.1, hD.2.1, pb0 n⟩ (fun off g1 g2 => ?_) ?_ rfl
      · exact ((Eq3.rf ν3 off).I (by omega)).tr (a4 off (by omega))
      · rw [(a5 2 (by decide) (by decide) (by decide)).1, uN_1]
    obtain ⟨r, r1, r2, r3⟩ := cp_of hL5 led7 led334 (by omega)
    obtain ⟨s, c1, c2⟩ := ck_loop (μ := μ5) νa 1377 0 (by omega) 10000 (by omega) μ5 ⟨fun off _ => Eq3.rf μ5 off, rfl, fun i hi => absurd hi (by omega)⟩
    obtain ⟨t, t1, t2⟩ := pz_loop (μ := s) νa 8 0 (by omega) 10000 (by omega) s ⟨fun off _ => Eq3.rf s off, fun i hi => absurd hi (by omega)⟩
    have e11 : t.1 1 = s.1 1 := (t1.1 1 (by decide)).1
    have hLt : LdW n r 7 (t.1 1) (t.2.1 3) := r2.cells (fun k hk => by rw [e11]; exact c1.2.2 k hk) (fun k hk => t1.2 k hk)
    refine ⟨(r.1 7 5, r), (t.1 1 0, t), ?_, ?_, hLt.1.1.1, ?_⟩
    · rw [if_pos (show (true, ν3).1 = true from rfl), a1, bnd_s, r1, bnd_s]
    · rw [good_t (μ := uN μ3 0 3 1) x3, if_pos (show true = true from rfl), a2, bnd_s]
      exact c2.trans t2
    · exact mkR a3 (Nat.le_succ n) (fun off ho => r3 off (by omega)) (fun off g1 g2 g3 => (c1.1 off g1).tr (t1.1 off g3)) hLt.1 hLt.2.1 (hLt.2.2.mono (Nat.le_succ n))
  · have hA : RelP n (uI ν3 1 2 (0 : Int32)) (uN μ3 0 3 1) := aft_of (len := len) hR hs hF ⟨hB.1, hB.2.1⟩
    refine ⟨(-4, uI ν3 1 2 (0 : Int32)), (-4, uN μ3 0 3 1), ?_, ?_, rfl, hA.mono (Nat.le_succ n)⟩
    · rw [if_neg (show ¬ (false, ν3).1 = true from nff)]
    · rw [good_f (μ := uN μ3 0 3 1) hB.2.2, if_neg nff]
end LOAD
