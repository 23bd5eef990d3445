/-! PURE. undo. -/
/-- the present row is taken back out of row g of the past: x cells of it, y payments -/
def Ub (μ μ' : Mm) (g x y : Nat) : Prop := (∀ off, off ≠ 1 → off ≠ 3 → Eq3 μ μ' off) ∧ (μ'.2.2 = μ.2.2 ∧ μ'.2.1 1 = μ.2.1 1 ∧ μ'.1 3 = μ.1 3) ∧ (∀ k, k < x → μ'.1 1 k = μ.1 5 (1377 * g + k)) ∧ ∀ s, s < y → μ'.2.1 3 s = μ.2.1 6 (8 * g + s)
theorem un69 {ν0 μ : Mm} {g : Nat} (hg : g ≤ 5) (eg : μ.1 0 19 = nI g) : ∀ (d k : Nat), k + d = 8 → ∀ n, d + 1 ≤ n → ∀ μ', Ub μ μ' g 1377 k → ∃ r, Ub μ r g 1377 8 ∧ g_X12_undo_L69 ν0 n μ' (nI k) = some (nI g, r) := by
  intro d
  induction d with
  | zero =>
    intro k hk n hn μ' h
    obtain ⟨n, rfl, -⟩ := succ_n hn
    have ek : k = 8 := by omega
    refine ⟨μ', ek ▸ h, ?_⟩
    unfold g_X12_undo_L69
    rw [if_pos (by rw [le32, nI_toInt (by omega)]; show (8 : Int) ≤ (k : Int); omega), (h.1 0 (by decide) (by decide)).1, eg]
  | succ d ih =>
    intro k hk n hn μ' h
    obtain ⟨n, rfl, hn2⟩ := succ_n hn
    have e19 : μ'.1 0 19 = nI g := by rw [(h.1 0 (by decide) (by decide)).1]; exact eg
    obtain ⟨g1, ⟨a1, a2, a3⟩, g3, g4⟩ := h
    obtain ⟨r, r1, r2⟩ := ih (k + 1) (by omega) n hn2 (uP μ' 3 k (μ'.2.1 6 (8 * g + k))) ⟨fun off h1 h3 => (g1 off h1 h3).P h3, ⟨a1, by rw [(uP_o (show (1 : Nat) ≠ 3 by decide)).2.1]; exact a2, a3⟩, g3, fun s hs => by
      rw [uP_at]
      by_cases e : s = k
      · rw [if_pos ⟨rfl, e⟩, (g1 6 (by decide) (by decide)).2.1, e]
      · rw [if_neg (fun z => e z.2)]
        exact g4 s (by omega)⟩
    refine ⟨r, r1, ?_⟩
    unfold g_X12_undo_L69
    rw [if_neg (by rw [le32, nI_toInt (by omega)]; show ¬ (8 : Int) ≤ (k : Int); omega), e19, show (8 : Int32) = nI 8 from rfl, nI_mul, nI_add, asr_pos (vp_in_nI (by omega) (by decide)), asr_pos (vp_in_nI (by omega) (by decide)), bnd_s, cl_nI (show k < 2 ^ 31 by omega), cl_nI (show 8 * g + k < 2 ^ 31 by omega), nI1]
    exact r2
theorem un33 {ν0 μ : Mm} {g : Nat} (hg : g ≤ 5) (eg : μ.1 0 19 = nI g) : ∀ (d k : Nat), k + d = 1377 → ∀ n, d + 1 ≤ n → ∀ μ', Ub μ μ' g k 0 → ∃ r, Ub μ r g 1377 8 ∧ g_X12_undo_L33 ν0 n μ' (nI k) = some (nI g, r) := by
  intro d
  induction d with
  | zero =>
    intro k hk n hn μ' h
    obtain ⟨n, rfl, -⟩ := succ_n hn
    have ek : k = 1377 := by omega
    obtain ⟨r, r1, r2⟩ := un69 (ν0 := ν0) hg eg 8 0 (by omega) 10000 (by omega) μ' (ek ▸ h)
    refine ⟨r, r1, ?_⟩
    unfold g_X12_undo_L33
    rw [if_pos (by rw [le32, nI_toInt (by omega)]; show (1377 : Int) ≤ (k : Int); omega)]
    exact r2
  | succ d ih =>
    intro k hk n hn μ' h
    obtain ⟨n, rfl, hn2⟩ := succ_n hn
    have e19 : μ'.1 0 19 = nI g := by rw [(h.1 0 (by decide) (by decide)).1]; exact eg
    obtain ⟨g1, ⟨a1, a2, a3⟩, g3, g4⟩ := h
    obtain ⟨r, r1, r2⟩ := ih (k + 1) (by omega) n hn2 (uI μ' 1 k (μ'.1 5 (1377 * g + k))) ⟨fun off h1 h3 => (g1 off h1 h3).I h1, ⟨a1, a2, by rw [(uI_o (show (3 : Nat) ≠ 1 by decide)).1]; exact a3⟩, fun i hi => by
      rw [uI_at]
      by_cases e : i = k
      · rw [if_pos ⟨rfl, e⟩, (g1 5 (by decide) (by decide)).1, e]
      · rw [if_neg (fun z => e z.2)]
        exact g3 i (by omega), g4⟩
    refine ⟨r, r1, ?_⟩
    unfold g_X12_undo_L33
    rw [if_neg (by rw [le32, nI_toInt (by omega)]; show ¬ (1377 : Int) ≤ (k : Int); omega), e19, show (1377 : Int32) = nI 1377 from rfl, nI_mul, nI_add, asr_pos (vp_in_nI (by omega) (by decide)), asr_pos (vp_in_nI (by omega) (by decide)), bnd_s, cl_nI (show k < 2 ^ 31 by omega), cl_nI (show 1377 * g + k < 2 ^ 31 by omega), nI1]
    exact r2
theorem nxb_tab : ∀ k : Fin 6, ((nI k.val + (6 : Int32)) - (1 : Int32)) - ((nI k.val + (6 : Int32)) - (1 : Int32)) / (6 : Int32) * (6 : Int32) = nI ((k.val + 5) % 6) := by decide +kernel
theorem s57 : Sm_57 RelP := by
  intro n ν μ hn hR
  obtain ⟨hLd, ⟨h, nx, h1, h2, h3, h4, h5, h6⟩, ⟨len, l1, l2, l3, l4⟩, ⟨on, o1, o2, o3, o4⟩, ⟨p1, p2⟩, hr⟩ := id hR
  by_cases q : h = 0
  · subst q
    refine wo_er 3 1 hR ?_ ?_ rfl rfl (by decide)
    · unfold g_X11_undo
      rw [h3, if_pos (by decide)]
      rfl
    · unfold g_X12_undo
      rw [h5, if_pos (by decide)]
      unfold g_X12_undo_J13
      rw [bnd_s, pz1]
      rfl
  · obtain ⟨g, rfl⟩ : ∃ g, h = g + 1 := ⟨h - 1, by omega⟩
    have hg : g ≤ 5 := by omega
    have hx : (nx + 5) % 6 < 6 := by omega
    obtain ⟨w, ew⟩ : ∃ w, w = (nx + 5) % 6 := ⟨_, rfl⟩
    have hw : w < 6 := by omega
    have hrow := h6 g (by omega)
    rw [show (nx + 6 - (g + 1) + g) % 6 = w by omega] at hrow
    -- the class
    have hrow1 : LdW n (uI (uI ν 662 2 (nI w)) 662 1 (nI g)) (664 + 327 * w) (fun k => μ.1 5 (1377 * g + k)) (fun s => μ.2.1 6 (8 * g + s)) := hrow.congr (fun off g1 g2 => ((Eq3.rf ν off).I (by omega)).I (by omega))
    obtain ⟨r, r1, r2, r3⟩ := cp_of (o := 7) hrow1 led7 (Or.inr (Or.inr ⟨w, hw, rfl⟩)) (by omega)
    have E : ∀ off, (off < 7 ∨ 334 ≤ off) → off ≠ 662 → Eq3 ν r off := fun off ho hn => (((Eq3.rf ν off).I hn).I hn).tr (r3 off (by omega))
    have c1 : r.1 662 1 = nI g := by rw [(r3 662 (by omega)).1, uI_at, if_pos ⟨rfl, rfl⟩]
    have c2 : r.1 662 2 = nI w := by rw [(r3 662 (by omega)).1, uI_at, if_neg (fun z => absurd z.2 (by decide)), uI_at, if_pos ⟨rfl, rfl⟩]
    -- the model
    have g19 : (uI (uI μ 0 0 0) 0 19 (nI g)).1 0 19 = nI g := by rw [uI_at, if_pos ⟨rfl, rfl⟩]
    obtain ⟨m, m1, m2⟩ := un33 (ν0 := μ) (μ := uI (uI μ 0 0 0) 0 19 (nI g)) hg g19 1377 0 (by omega) 10000 (by omega) _ ⟨fun off _ _ => Eq3.rf _ off, ⟨rfl, rfl, rfl⟩, fun k hk => absurd hk (by omega), fun s hs => absurd hs (by omega)⟩
    obtain ⟨b1, ⟨b2, b3, b4⟩, b5, b6⟩ := m1
    have M : ∀ off, off ≠ 0 → off ≠ 1 → off ≠ 3 → Eq3 μ m off := fun off g0 g1 g3 => (((Eq3.rf μ off).I g0).I g0).tr (b1 off g1 g3)
    have M0 : ∀ k, k ≠ 0 → k ≠ 19 → m.1 0 k = μ.1 0 k := fun k k0 k19 => by
      rw [(b1 0 (by decide) (by decide)).1, uI_at, if_neg (fun z => k19 z.2), uI_at, if_neg (fun z => k0 z.2)]
    have M19 : m.1 0 19 = nI g := by rw [(b1 0 (by decide) (by decide)).1]; exact g19
    have hrel : RelP n r m := by
      refine ⟨r2.cells (fun k hk => b5 k hk) (fun s hs => b6 s hs), ⟨g, w, by omega, hw, c1, c2, M19, fun j hj => ?_⟩, ⟨len, l1, ?_, ?_, fun k hk => ?_⟩, ⟨on, o1, ?_, ?_, fun k hk => ?_⟩, ⟨?_, ?_⟩, ?_⟩
      · have hj2 := h6 j (by omega)
        rw [show (w + 6 - g + j) % 6 = (nx + 6 - (g + 1) + j) % 6 by omega, (M 5 (by decide) (by decide) (by decide)).1, (M 6 (by decide) (by decide) (by decide)).2.1]
        exact hj2.congr (fun off g1 g2 => E off (by omega) (by omega))
      · rw [(E 1 (by omega) (by decide)).1]; exact l2
      · rw [M0 6 (by decide) (by decide)]; exact l3
      · rw [(E 3 (by omega) (by decide)).1, (M 4 (by decide) (by decide) (by decide)).1]; exact l4 k hk
      · rw [(E 4 (by omega) (by decide)).1]; exact o2
      · rw [M0 21 (by decide) (by decide)]; exact o3
      · rw [(E 6 (by omega) (by decide)).1, (M 7 (by decide) (by decide) (by decide)).1]; exact o4 k hk
      · rw [(E 661 (by omega) (by decide)).1, M0 12 (by decide) (by decide)]; exact p1
      · rw [(E 661 (by omega) (by decide)).1, M0 13 (by decide) (by decide)]; exact p2
      · rw [b2]; exact hr
    have nz : ¬ nI (g + 1) ≤ (0 : Int32) := by rw [le32, nI_toInt (by omega)]; show ¬ ((g + 1 : Nat) : Int) ≤ 0; omega
    refine wo_ok (v := nI g) (hrel.mono (Nat.le_succ n)) ?_ ?_ ?_
    · rw [(b1 0 (by decide) (by decide)).1, uI_at, if_neg (fun z => absurd z.2 (by decide)), uI_at, if_pos ⟨rfl, rfl⟩]
    · unfold g_X11_undo
      rw [h3, if_neg nz]
      unfold g_X11_undo_J15 g_X11_requireState
      rw [if_pos rfl, bnd_s, bnx_ok]
      unfold g_X3_takeBack
      rw [asr_pos led7, h4, nxb_tab ⟨nx, h2⟩, bnd_s]
      show bnd (bnd (some (uI (uI ν 662 2 (nI ((nx + 5) % 6))) 662 1 ((uI ν 662 2 (nI ((nx + 5) % 6))).1 662 1 - (1 : Int32)))) _) _ = _
      rw [← ew, show (uI ν 662 2 (nI w)).1 662 1 = nI (g + 1) from by rw [uI_at, if_neg (fun z => absurd z.2 (by decide))]; exact h3, nI_p1, bnd_s, show (uI (uI ν 662 2 (nI w)) 662 1 (nI g)).1 662 2 = nI w from by rw [uI_at, if_neg (fun z => absurd z.2 (by decide)), uI_at, if_pos ⟨rfl, rfl⟩], asr_pos (vp_in_nI hw (by decide)), cl_nI (by omega), r1, bnd_s, bnd_s, c1]
    · unfold g_X12_undo
      rw [h5, if_neg nz]
      unfold g_X12_undo_J13
      rw [bnd_s, pz1]
      show bnd (some (uI (uI μ 0 0 0) 0 19 (((uI μ 0 0 0).1 0 19) - (1 : Int32)))) _ = _
      rw [show (uI μ 0 0 0).1 0 19 = nI (g + 1) from by rw [uI_at, if_neg (fun z => absurd z.2 (by decide))]; exact h5, nI_p1, bnd_s]
      exact m2
