/-! PURE. The next token. -/
section RT
variable {ν μ : Mm} {len : Nat}
theorem Mv.mix {ν μ ν2 μ2 : Mm} (h : Mv ν μ ν2 μ) (g : Mv ν μ ν μ2) : Mv ν μ ν2 μ2 := ⟨h.1, h.2.1, g.2.2.1, g.2.2.2⟩
theorem Mv.lc {ν μ ν2 μ2 : Mm} (h : Mv ν μ ν2 μ2) : Mv ν μ ν2 μ := ⟨h.1, h.2.1, fun off _ => Eq3.rf μ off, rfl, fun _ _ => rfl⟩
theorem Mv.lm {ν μ ν2 μ2 : Mm} (h : Mv ν μ ν2 μ2) : Mv ν μ ν μ2 := ⟨fun off _ => Eq3.rf ν off, ⟨rfl, fun _ _ _ _ => rfl⟩, h.2.2.1, h.2.2.2⟩
theorem Mv.tr {ν μ ν1 μ1 ν2 μ2 : Mm} (h : Mv ν μ ν1 μ1) (g : Mv ν1 μ1 ν2 μ2) : Mv ν μ ν2 μ2 := by
  obtain ⟨h1, ⟨h2, h2'⟩, h3, h4, h5⟩ := h
  obtain ⟨g1, ⟨g2, g2'⟩, g3, g4, g5⟩ := g
  exact ⟨fun off ho => (h1 off ho).tr (g1 off ho), ⟨g2.trans h2, fun k a b c => (g2' k a b c).trans (h2' k a b c)⟩, fun off ho => (h3 off ho).tr (g3 off ho), g4.trans h4, fun k hk => (g5 k hk).trans (h5 k hk)⟩
/-- what a new token leaves -/
def Nt (ν μ ν2 μ2 : Mm) (len : Nat) : Prop := Mv ν μ ν2 μ2 ∧ ∃ p q t, t < 4 ∧ ν2.1 661 3 = nI p ∧ ν2.1 661 4 = nI q ∧ ν2.1 661 2 = nI t ∧ μ2.1 0 9 = nI p ∧ μ2.1 0 8 = nI q ∧ μ2.1 0 10 = nI t ∧ Tok μ2 len p q t
theorem rt_loop {νa μa : Mm} : ∀ (d k : Nat), k + d = len → ∀ n m, d + 1 ≤ n → d + 1 ≤ m → ∀ ν' μ', Mv ν μ ν' μ' → Txt ν μ len → ν'.1 661 3 = nI k → μ'.1 0 8 = nI k → ∃ ν2 μ2, g_X7_readToken_L8 νa n ν' = some ν2 ∧ g_X12_scan_L0 μa m μ' = some μ2 ∧ Nt ν μ ν2 μ2 len := by
  intro d
  induction d with
  | zero =>
    intro k hk n m hn hm ν' μ' hv tx e3 e8
    obtain ⟨n, rfl, -⟩ := succ_n hn
    obtain ⟨m, rfl, -⟩ := succ_n hm
    have tx' := hv.txt tx
    have l8 := tx.2.2.1
    have ek : k = len := by omega
    subst ek
    have kA := kA_of tx' (k := k) (by omega)
    rw [if_neg (by omega)] at kA
    have bA := bA_of tx' (k := k) (by omega)
    rw [if_neg (by omega)] at bA
    have im : imin (nI k + (1 : Int32)) (nI k) = nI k := by
      rw [eq32, imin_ti, nI1, nI_toInt (by omega), nI_toInt (by omega)]
      omega
    have tx9 : Txt ν' (uI μ' 0 9 (nI k)) k := by
      obtain ⟨t1, t2, t3, t4⟩ := tx'
      exact ⟨t1, by rw [uI_at, if_neg (fun z => absurd z.2 (by decide))]; exact t2, t3, t4⟩
    have bA9 := bA_of tx9 (k := k) (by omega)
    rw [if_neg (by omega)] at bA9
    refine ⟨uI (uI ν' 661 2 0) 661 4 (nI k), uI (uI μ' 0 9 (nI k)) 0 10 0, ?_, ?_, ⟨((hv.lc.C (by omega) _).C (by omega) _).mix ((hv.lm.M (by omega) _).M (by omega) _), k, k, 0, by decide, ?_, ?_, ?_, ?_, ?_, ?_, Nat.le_refl k, Nat.le_refl k, Or.inl ⟨rfl, rfl, rfl⟩⟩⟩
    · unfold g_X7_readToken_L8
      rw [tx'.1, e3, if_pos (Int32.le_refl _)]
      unfold g_X7_readToken_J46
      rw [e3, kA, bnd_s, bnd_s, (uI_o (show (1 : Nat) ≠ 661 by decide)).1, tx'.1, show (uI ν' 661 2 0).1 661 3 = nI k from by rw [uI_at, if_neg (fun z => absurd z.2 (by decide))]; exact e3, im, bnd_s, show (uI (uI ν' 661 2 0) 661 4 (nI k)).1 661 2 = 0 from by rw [uI_at, if_neg (fun z => absurd z.2 (by decide)), uI_at, if_pos ⟨rfl, rfl⟩], if_neg (by decide), if_neg (by decide)]
    · unfold g_X12_scan_L0
      rw [e8, bA, bnd_s, if_neg (by decide), bnd_s, if_neg (by decide), bnd_s, show (uI μ' 0 9 (nI k)).1 0 8 = nI k from by rw [uI_at, if_neg (fun z => absurd z.2 (by decide))]; exact e8, bA9, bnd_s, if_pos rfl, bnd_s]
    · rw [uI_at, if_neg (fun z => absurd z.2 (by decide)), uI_at, if_neg (fun z => absurd z.2 (by decide))]; exact e3
    · rw [uI_at, if_pos ⟨rfl, rfl⟩]
    · rw [uI_at, if_neg (fun z => absurd z.2 (by decide)), uI_at, if_pos ⟨rfl, rfl⟩]
      rfl
    · rw [uI_at, if_neg (fun z => absurd z.2 (by decide)), uI_at, if_pos ⟨rfl, rfl⟩]
    · rw [uI_at, if_neg (fun z => absurd z.2 (by decide)), uI_at, if_neg (fun z => absurd z.2 (by decide))]; exact e8
    · rw [uI_at, if_pos ⟨rfl, rfl⟩]
      rfl
  | succ d ih =>
    intro k hk n m hn hm ν' μ' hv tx e3 e8
    obtain ⟨n, rfl, hn2⟩ := succ_n hn
    obtain ⟨m, rfl, hm2⟩ := succ_n hm
    have tx' := hv.txt tx
    have l8 := tx.2.2.1
    have hkl : k < len := by omega
    have b4 : μ'.1 4 = μ.1 4 := (hv.2.2.1 4 (by decide)).1
    have kA := kA_of tx' (k := k) (by omega)
    rw [if_pos hkl] at kA
    have bA := bA_of tx' (k := k) (by omega)
    rw [if_pos hkl] at bA
    have sp := k0_sp tx' hkl
    have k4 := kd_lt (μ'.1 4 k)
    have ng : ¬ (nI len) ≤ nI k := by rw [le32, nI_toInt (by omega), nI_toInt (by omega)]; omega
    by_cases g0 : kdN (μ'.1 4 k) = 0
    · obtain ⟨ν2, μ2, f1, f2, f3⟩ := ih (k + 1) (by omega) n m hn2 hm2 (uI ν' 661 3 (nI (k + 1))) (uI μ' 0 8 (nI (k + 1))) ((hv.lc.C (by omega) _).mix (hv.lm.M (by omega) _)) tx (by rw [uI_at, if_pos ⟨rfl, rfl⟩]) (by rw [uI_at, if_pos ⟨rfl, rfl⟩])
      refine ⟨ν2, μ2, ?_, ?_, f3⟩
      · unfold g_X7_readToken_L8
        rw [tx'.1, e3, if_neg ng, kA, bnd_s, g0, if_pos (show nI 0 = 0 from rfl), bnd_s, nI1]
        exact f1
      · unfold g_X12_scan_L0
        rw [e8, bA, bnd_s, nI1, bnd_s]
        rcases sp.mp g0 with w | w
        · rw [if_pos w]
          exact f2
        · rw [if_neg (show ¬ (μ'.1 4 k &&& (255 : Int32) = 32) by rw [w]; decide), bnd_s, if_pos w]
          exact f2
    · -- the token begins here
      have ns : ¬ (μ'.1 4 k &&& (255 : Int32) = 32) := fun z => g0 (sp.mpr (Or.inl z))
      have nl : ¬ (μ'.1 4 k &&& (255 : Int32) = 10) := fun z => g0 (sp.mpr (Or.inr z))
      have im : imin (nI k + (1 : Int32)) (nI len) = nI (k + 1) := by
        rw [eq32, imin_ti, nI1, nI_toInt (by omega), nI_toInt (by omega)]
        omega
      have tx9 : Txt ν' (uI μ' 0 9 (nI k)) len := by
        obtain ⟨t1, t2, t3, t4⟩ := tx'
        exact ⟨t1, by rw [uI_at, if_neg (fun z => absurd z.2 (by decide))]; exact t2, t3, t4⟩
      have bA9 := bA_of tx9 (k := k) (by omega)
      rw [if_pos hkl, (uI_o (show (4 : Nat) ≠ 0 by decide)).1] at bA9
      have i1 := k1_in tx' hkl
      have i2 := k2_in tx' hkl
      have nm1 : ¬ (μ'.1 4 k &&& (255 : Int32)) = -1 := fun z => by
        have b := (tx'.2.2.2 k hkl).2
        have e := a255 b
        rw [z] at e
        have t : ((-1 : Int32)).toInt = -1 := rfl
        obtain ⟨b1, b2⟩ := b
        split at e <;> omega
      have e39 : (uI μ' 0 9 (nI k)).1 0 8 = nI k := by rw [uI_at, if_neg (fun z => absurd z.2 (by decide))]; exact e8
      have hv1 : Mv ν μ (uI (uI ν' 661 2 (nI (kdN (μ'.1 4 k)))) 661 4 (nI (k + 1))) μ := (hv.lc.C (by omega) _).C (by omega) _
      have C2 : (uI (uI ν' 661 2 (nI (kdN (μ'.1 4 k)))) 661 4 (nI (k + 1))).1 661 2 = nI (kdN (μ'.1 4 k)) := by rw [uI_at, if_neg (fun z => absurd z.2 (by decide)), uI_at, if_pos ⟨rfl, rfl⟩]
      have C3 : (uI (uI ν' 661 2 (nI (kdN (μ'.1 4 k)))) 661 4 (nI (k + 1))).1 661 3 = nI k := by rw [uI_at, if_neg (fun z => absurd z.2 (by decide)), uI_at, if_neg (fun z => absurd z.2 (by decide))]; exact e3
      have C4 : (uI (uI ν' 661 2 (nI (kdN (μ'.1 4 k)))) 661 4 (nI (k + 1))).1 661 4 = nI (k + 1) := by rw [uI_at, if_pos ⟨rfl, rfl⟩]
      have CL : g_X7_readToken_L8 νa (n + 1) ν' = if nI (kdN (μ'.1 4 k)) = (1 : Int32) then g_X7_readToken_L94 νa 10000 (uI (uI ν' 661 2 (nI (kdN (μ'.1 4 k)))) 661 4 (nI (k + 1))) else if nI (kdN (μ'.1 4 k)) = (2 : Int32) then g_X7_readToken_L94 νa 10000 (uI (uI ν' 661 2 (nI (kdN (μ'.1 4 k)))) 661 4 (nI (k + 1))) else some (uI (uI ν' 661 2 (nI (kdN (μ'.1 4 k)))) 661 4 (nI (k + 1))) := by
        conv => lhs; unfold g_X7_readToken_L8
        rw [tx'.1, e3, if_neg ng, kA, bnd_s, if_neg (show ¬ nI (kdN (μ'.1 4 k)) = (0 : Int32) from fun z => g0 ((nI_eq (b := 0) (by omega) (by decide)).mp z))]
        unfold g_X7_readToken_J46
        rw [e3, kA, bnd_s, bnd_s, (uI_o (show (1 : Nat) ≠ 661 by decide)).1, tx'.1, show (uI ν' 661 2 (nI (kdN (μ'.1 4 k)))).1 661 3 = nI k from by rw [uI_at, if_neg (fun z => absurd z.2 (by decide))]; exact e3, im, bnd_s, C2]
      have MO : g_X12_scan_L0 μa (m + 1) μ' = (if kdN (μ'.1 4 k) = 1 then g_X12_scan_L83 μa 10000 (uI μ' 0 9 (nI k)) else if kdN (μ'.1 4 k) = 2 then g_X12_scan_L144 μa 10000 (uI (uI μ' 0 9 (nI k)) 0 11 0) else some (uI (uI (uI (uI μ' 0 9 (nI k)) 0 10 3) 0 11 (μ'.1 4 k &&& (255 : Int32))) 0 8 (nI (k + 1)))) := by
        conv => lhs; unfold g_X12_scan_L0
        rw [e8, bA, bnd_s, if_neg ns, bnd_s, if_neg nl, bnd_s, e39, bA9, bnd_s, if_neg nm1, bnd_s, i1]
        by_cases w1 : kdN (μ'.1 4 k) = 1
        · rw [decide_eq_true w1, if_pos rfl, if_pos w1]
        · rw [decide_eq_false w1, if_neg (show ¬ false = true by decide), if_neg w1, bnd_s, i2]
          by_cases w2 : kdN (μ'.1 4 k) = 2
          · rw [decide_eq_true w2, if_pos rfl, if_pos w2, bnd_s]
          · rw [decide_eq_false w2, if_neg (show ¬ false = true by decide), if_neg w2, bnd_s, bnd_s, show (uI (uI (uI μ' 0 9 (nI k)) 0 10 3) 0 11 (μ'.1 4 k &&& (255 : Int32))).1 0 8 = nI k from by rw [uI_at, if_neg (fun z => absurd z.2 (by decide)), uI_at, if_neg (fun z => absurd z.2 (by decide))]; exact e39, nI1, bnd_s]
      rw [CL, MO]
      by_cases w1 : kdN (μ'.1 4 k) = 1
      · have w1' : kdN (μ.1 4 k) = 1 := by rw [← b4]; exact w1
        rw [w1] at hv1 C2 C3 C4 ⊢
        rw [if_pos (show nI 1 = (1 : Int32) from rfl), if_pos (show (1 : Nat) = 1 from rfl)]
        obtain ⟨ν2, q, x1, x2, x3, x4, x5, x6, x7, x8, x9⟩ := wl_cls (νa := νa) (μ0 := μ) (t := 1) (by decide) (len - (k + 1)) (k + 1) (by omega) 10000 (by omega) _ hv1 tx C4 C2
        obtain ⟨μ2, q', y1, y2, y3, y4, y5, y6, y7, y8, y9⟩ := wl_m1 (μa := μa) (ν0 := ν) (len - k) k (by omega) 10000 (by omega) (uI μ' 0 9 (nI k)) (hv.lm.M (by omega) _) tx e39
        have hq' : k + 1 ≤ q' := by
          by_cases e : q' = k
          · rcases y4 with z | z
            · exact absurd z (by omega)
            · rw [e] at z
              exact absurd w1' z
          · omega
        have eq := end_eq (b := μ.1 4) (t := 1) x1 x2 x3 x4 hq' y2 (fun j h1 h2 => y3 j (by omega) h2) y4
        subst eq
        refine ⟨ν2, μ2, x5, y5, x6.mix y6, k, q, 1, by decide, x9.trans C3, x7, x8, y9.trans (by rw [uI_at, if_pos ⟨rfl, rfl⟩]), y7, y8, by omega, x2, Or.inr (Or.inl ⟨rfl, by omega, fun j h1 h2 => ?_⟩)⟩
        rw [(y6.2.2.1 4 (by decide)).1]
        exact y3 j h1 h2
      · by_cases w2 : kdN (μ'.1 4 k) = 2
        · have w2' : kdN (μ.1 4 k) = 2 := by rw [← b4]; exact w2
          rw [w2] at hv1 C2 C3 C4 ⊢
          rw [if_neg (show ¬ nI 2 = (1 : Int32) by decide), if_pos (show nI 2 = (2 : Int32) from rfl), if_neg (show ¬ (2 : Nat) = 1 by decide), if_pos (show (2 : Nat) = 2 from rfl)]
          obtain ⟨ν2, q, x1, x2, x3, x4, x5, x6, x7, x8, x9⟩ := wl_cls (νa := νa) (μ0 := μ) (t := 2) (by decide) (len - (k + 1)) (k + 1) (by omega) 10000 (by omega) _ hv1 tx C4 C2
          obtain ⟨μ2, q', y1, y2, y3, y4, y5, y6, y7, y8, y9, y10⟩ := wl_m2 (μa := μa) (ν0 := ν) (p := k) (len - k) k (by omega) 10000 (by omega) (Nat.le_refl k) (uI (uI μ' 0 9 (nI k)) 0 11 0) ((hv.lm.M (by omega) _).M (by omega) _) tx (by rw [uI_at, if_neg (fun z => absurd z.2 (by decide))]; exact e39) (by rw [uI_at, if_pos ⟨rfl, rfl⟩, Nat.sub_self]; rfl)
          have hq' : k + 1 ≤ q' := by
            by_cases e : q' = k
            · rcases y4 with z | z
              · exact absurd z (by omega)
              · rw [e] at z
                exact absurd w2' z
            · omega
          have eq := end_eq (b := μ.1 4) (t := 2) x1 x2 x3 x4 hq' y2 (fun j h1 h2 => y3 j (by omega) h2) y4
          subst eq
          have m4 : μ2.1 4 = μ.1 4 := (y6.2.2.1 4 (by decide)).1
          refine ⟨ν2, μ2, x5, y5, x6.mix y6, k, q, 2, by decide, x9.trans C3, x7, x8, y9.trans (by rw [uI_at, if_neg (fun z => absurd z.2 (by decide)), uI_at, if_pos ⟨rfl, rfl⟩]), y7, y8, by omega, x2, Or.inr (Or.inr (Or.inl ⟨rfl, by omega, fun j h1 h2 => ?_, ?_⟩))⟩
          · rw [m4]
            exact y3 j h1 h2
          · rw [m4]
            exact y10
        · have w3 : kdN (μ'.1 4 k) = 3 := by omega
          rw [w3] at hv1 C2 C3 C4 ⊢
          rw [if_neg (show ¬ nI 3 = (1 : Int32) by decide), if_neg (show ¬ nI 3 = (2 : Int32) by decide), if_neg (show ¬ (3 : Nat) = 1 by decide), if_neg (show ¬ (3 : Nat) = 2 by decide)]
          refine ⟨_, _, rfl, rfl, hv1.mix ((((hv.lm.M (by omega) _).M (by omega) _).M (by omega) _).M (by omega) _), k, k + 1, 3, by decide, C3, C4, C2, ?_, ?_, ?_, by omega, by omega, Or.inr (Or.inr (Or.inr ⟨rfl, rfl, ?_, ?_⟩))⟩
          · rw [uI_at, if_neg (fun z => absurd z.2 (by decide)), uI_at, if_neg (fun z => absurd z.2 (by decide)), uI_at, if_neg (fun z => absurd z.2 (by decide)), uI_at, if_pos ⟨rfl, rfl⟩]
          · rw [uI_at, if_pos ⟨rfl, rfl⟩]
          · rw [uI_at, if_neg (fun z => absurd z.2 (by decide)), uI_at, if_neg (fun z => absurd z.2 (by decide)), uI_at, if_pos ⟨rfl, rfl⟩]
            rfl
          · exact w3
          · rw [uI_at, if_neg (fun z => absurd z.2 (by decide)), uI_at, if_pos ⟨rfl, rfl⟩]
            rfl
theorem rt_of (tx : Txt ν μ len) {e : Nat} (he : e ≤ len) (e4 : ν.1 661 4 = nI e) (e8 : μ.1 0 8 = nI e) : ∃ ν2 μ2, g_X7_readToken ν = some ν2 ∧ g_X12_scan μ = some μ2 ∧ Nt ν μ ν2 μ2 len := by
  have l8 := tx.2.2.1
  obtain ⟨ν2, μ2, f1, f2, f3⟩ := rt_loop (νa := ν) (μa := μ) (len - e) e (by omega) 10000 10000 (by omega) (by omega) (uI ν 661 3 (nI e)) μ ((Mv.rf ν μ).C (by omega) _) tx (by rw [uI_at, if_pos ⟨rfl, rfl⟩]) e8
  refine ⟨ν2, μ2, ?_, f2, f3⟩
  unfold g_X7_readToken
  rw [e4, bnd_s]
  exact f1
end RT
