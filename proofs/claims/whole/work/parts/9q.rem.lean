/-! PURE. What is kept for undo. -/
theorem nI_mul (x y : Nat) : nI x * nI y = nI (x * y) := (Int32.ofNat_mul x y).symm
theorem nI_sub (x y : Nat) : nI (x + y) - nI y = nI x := by rw [← nI_add, Int32.add_sub_cancel]
section RM
variable {ν0 : Mm} {μ : Mm}
/-- the past has moved down by one row, up to cell k of it -/
def Sh1 (μ μ' : Mm) (k : Nat) : Prop := (∀ off, off ≠ 5 → μ'.1 off = μ.1 off) ∧ μ'.2 = μ.2 ∧ (∀ j, j < k → μ'.1 5 j = μ.1 5 (j + 1377)) ∧ ∀ j, k ≤ j → μ'.1 5 j = μ.1 5 j
theorem rm13 : ∀ (d k : Nat), k + d = 6885 → ∀ n, d + 1 ≤ n → ∀ μ', Sh1 μ μ' k → ∃ r, Sh1 μ r 6885 ∧ g_X12_remember_L13 ν0 n μ' (nI (k + 1377)) = g_X12_remember_L45 ν0 10000 r (nI 8) := by
  intro d
  induction d with
  | zero =>
    intro k hk n hn μ' h
    obtain ⟨n, rfl, -⟩ := succ_n hn
    have ek : k = 6885 := by omega
    refine ⟨μ', ek ▸ h, ?_⟩
    conv => lhs; unfold g_X12_remember_L13
    rw [if_pos (by rw [le32, nI_toInt (by omega)]; show (8262 : Int) ≤ ((k + 1377 : Nat) : Int); omega)]
    rfl
  | succ d ih =>
    intro k hk n hn μ' h
    obtain ⟨n, rfl, hn2⟩ := succ_n hn
    obtain ⟨g1, g2, g3, g4⟩ := h
    obtain ⟨r, r1, r2⟩ := ih (k + 1) (by omega) n hn2 (uI μ' 5 k (μ'.1 5 (k + 1377))) ⟨fun off ho => (if_neg ho).trans (g1 off ho), g2, fun j hj => by
      rw [uI_at]
      by_cases e : j = k
      · rw [if_pos ⟨rfl, e⟩, g4 _ (by omega), e]
      · rw [if_neg (fun z => e z.2)]
        exact g3 j (by omega), fun j hj => by
      rw [uI_at, if_neg (fun z => by have := z.2; omega)]
      exact g4 j (by omega)⟩
    refine ⟨r, r1, ?_⟩
    conv => lhs; unfold g_X12_remember_L13
    rw [if_neg (by rw [le32, nI_toInt (by omega)]; show ¬ (8262 : Int) ≤ ((k + 1377 : Nat) : Int); omega), asr_pos (vp_in_nI (by omega) (by decide)), show (1377 : Int32) = nI 1377 from rfl, nI_sub, asr_pos (vp_in_nI (by omega) (by decide)), bnd_s, cl_nI (show k < 2 ^ 31 by omega), cl_nI (show k + 1377 < 2 ^ 31 by omega), nI1, Nat.add_right_comm]
    exact r2
def Sh2 (μ μ' : Mm) (k : Nat) : Prop := μ'.1 = μ.1 ∧ μ'.2.2 = μ.2.2 ∧ (∀ off, off ≠ 6 → μ'.2.1 off = μ.2.1 off) ∧ (∀ j, j < k → μ'.2.1 6 j = μ.2.1 6 (j + 8)) ∧ ∀ j, k ≤ j → μ'.2.1 6 j = μ.2.1 6 j
theorem rm45 : ∀ (d k : Nat), k + d = 40 → ∀ n, d + 1 ≤ n → ∀ μ', Sh2 μ μ' k → ∃ r, Sh2 μ r 40 ∧ g_X12_remember_L45 ν0 n μ' (nI (k + 8)) = g_X12_remember_L84 ν0 10000 (uI r 0 19 ((r.1 0 19) - (1 : Int32))) (0 : Int32) := by
  intro d
  induction d with
  | zero =>
    intro k hk n hn μ' h
    obtain ⟨n, rfl, -⟩ := succ_n hn
    have ek : k = 40 := by omega
    refine ⟨μ', ek ▸ h, ?_⟩
    conv => lhs; unfold g_X12_remember_L45
    rw [if_pos (by rw [le32, nI_toInt (by omega)]; show (48 : Int) ≤ ((k + 8 : Nat) : Int); omega), bnd_s]
  | succ d ih =>
    intro k hk n hn μ' h
    obtain ⟨n, rfl, hn2⟩ := succ_n hn
    obtain ⟨g1, g2, g3, g4, g5⟩ := h
    obtain ⟨r, r1, r2⟩ := ih (k + 1) (by omega) n hn2 (uP μ' 6 k (μ'.2.1 6 (k + 8))) ⟨g1, g2, fun off ho => (if_neg ho).trans (g3 off ho), fun j hj => by
      rw [uP_at]
      by_cases e : j = k
      · rw [if_pos ⟨rfl, e⟩, g5 _ (by omega), e]
      · rw [if_neg (fun z => e z.2)]
        exact g4 j (by omega), fun j hj => by
      rw [uP_at, if_neg (fun z => by have := z.2; omega)]
      exact g5 j (by omega)⟩
    refine ⟨r, r1, ?_⟩
    conv => lhs; unfold g_X12_remember_L45
    rw [if_neg (by rw [le32, nI_toInt (by omega)]; show ¬ (48 : Int) ≤ ((k + 8 : Nat) : Int); omega), asr_pos (vp_in_nI (by omega) (by decide)), show (8 : Int32) = nI 8 from rfl, nI_sub, asr_pos (vp_in_nI (by omega) (by decide)), bnd_s, cl_nI (show k < 2 ^ 31 by omega), cl_nI (show k + 8 < 2 ^ 31 by omega), nI1, Nat.add_right_comm]
    exact r2
/-- the present row is copied behind g rows of the past: x cells of it, y payments -/
def Sh3 (μ μ' : Mm) (g x y : Nat) : Prop := (∀ off, off ≠ 5 → off ≠ 6 → Eq3 μ μ' off) ∧ (μ'.2.1 5 = μ.2.1 5 ∧ μ'.2.2 5 = μ.2.2 5 ∧ μ'.1 6 = μ.1 6 ∧ μ'.2.2 6 = μ.2.2 6) ∧ ((∀ k, k < x → μ'.1 5 (1377 * g + k) = μ.1 1 k) ∧ ∀ j, j < 1377 * g → μ'.1 5 j = μ.1 5 j) ∧ (∀ s, s < y → μ'.2.1 6 (8 * g + s) = μ.2.1 3 s) ∧ ∀ j, j < 8 * g → μ'.2.1 6 j = μ.2.1 6 j
theorem rm120 {g : Nat} (hg : g ≤ 5) (eg : μ.1 0 19 = nI g) : ∀ (d k : Nat), k + d = 8 → ∀ n, d + 1 ≤ n → ∀ μ', Sh3 μ μ' g 1377 k → ∃ r, Sh3 μ r g 1377 8 ∧ g_X12_remember_L120 ν0 n μ' (nI k) = some (uI r 0 19 (nI (g + 1))) := by
  intro d
  induction d with
  | zero =>
    intro k hk n hn μ' h
    obtain ⟨n, rfl, -⟩ := succ_n hn
    have ek : k = 8 := by omega
    refine ⟨μ', ek ▸ h, ?_⟩
    unfold g_X12_remember_L120
    rw [if_pos (by rw [le32, nI_toInt (by omega)]; show (8 : Int) ≤ (k : Int); omega), bnd_s, (h.1 0 (by decide) (by decide)).1, eg, nI1]
  | succ d ih =>
    intro k hk n hn μ' h
    obtain ⟨n, rfl, hn2⟩ := succ_n hn
    have e19 : μ'.1 0 19 = nI g := by rw [(h.1 0 (by decide) (by decide)).1]; exact eg
    obtain ⟨g1, ⟨a1, a2, a3, a4⟩, g3, g4, g5⟩ := h
    obtain ⟨r, r1, r2⟩ := ih (k + 1) (by omega) n hn2 (uP μ' 6 (8 * g + k) (μ'.2.1 3 k)) ⟨fun off h5 h6 => (g1 off h5 h6).P h6, ⟨a1, a2, a3, a4⟩, g3, fun s hs => by
      rw [uP_at]
      by_cases e : s = k
      · rw [if_pos ⟨rfl, by omega⟩, (g1 3 (by decide) (by decide)).2.1, e]
      · rw [if_neg (fun z => by have := z.2; omega)]
        exact g4 s (by omega), fun j hj => by
      rw [uP_at, if_neg (fun z => by have := z.2; omega)]
      exact g5 j hj⟩
    refine ⟨r, r1, ?_⟩
    unfold g_X12_remember_L120
    rw [if_neg (by rw [le32, nI_toInt (by omega)]; show ¬ (8 : Int) ≤ (k : Int); omega), asr_pos (vp_in_nI (by omega) (by decide)), e19, show (8 : Int32) = nI 8 from rfl, nI_mul, nI_add, asr_pos (vp_in_nI (by omega) (by decide)), bnd_s, cl_nI (show k < 2 ^ 31 by omega), cl_nI (show 8 * g + k < 2 ^ 31 by omega), nI1]
    exact r2
theorem rm84 {g : Nat} (hg : g ≤ 5) (eg : μ.1 0 19 = nI g) : ∀ (d k : Nat), k + d = 1377 → ∀ n, d + 1 ≤ n → ∀ μ', Sh3 μ μ' g k 0 → ∃ r, Sh3 μ r g 1377 8 ∧ g_X12_remember_L84 ν0 n μ' (nI k) = some (uI r 0 19 (nI (g + 1))) := by
  intro d
  induction d with
  | zero =>
    intro k hk n hn μ' h
    obtain ⟨n, rfl, -⟩ := succ_n hn
    have ek : k = 1377 := by omega
    obtain ⟨r, r1, r2⟩ := rm120 (ν0 := ν0) hg eg 8 0 (by omega) 10000 (by omega) μ' (ek ▸ h)
    refine ⟨r, r1, ?_⟩
    unfold g_X12_remember_L84
    rw [if_pos (by rw [le32, nI_toInt (by omega)]; show (1377 : Int) ≤ (k : Int); omega)]
    exact r2
  | succ d ih =>
    intro k hk n hn μ' h
    obtain ⟨n, rfl, hn2⟩ := succ_n hn
    have e19 : μ'.1 0 19 = nI g := by rw [(h.1 0 (by decide) (by decide)).1]; exact eg
    obtain ⟨g1, ⟨a1, a2, a3, a4⟩, ⟨g3, g3'⟩, g4, g5⟩ := h
    obtain ⟨r, r1, r2⟩ := ih (k + 1) (by omega) n hn2 (uI μ' 5 (1377 * g + k) (μ'.1 1 k)) ⟨fun off h5 h6 => (g1 off h5 h6).I h5, ⟨a1, a2, by rw [(uI_o (show (6 : Nat) ≠ 5 by decide)).1]; exact a3, a4⟩, ⟨fun j hj => by
      rw [uI_at]
      by_cases e : j = k
      · rw [if_pos ⟨rfl, by omega⟩, (g1 1 (by decide) (by decide)).1, e]
      · rw [if_neg (fun z => by have := z.2; omega)]
        exact g3 j (by omega), fun j hj => by
      rw [uI_at, if_neg (fun z => by have := z.2; omega)]
      exact g3' j hj⟩, g4, g5⟩
    refine ⟨r, r1, ?_⟩
    unfold g_X12_remember_L84
    rw [if_neg (by rw [le32, nI_toInt (by omega)]; show ¬ (1377 : Int) ≤ (k : Int); omega), asr_pos (vp_in_nI (by omega) (by decide)), e19, show (1377 : Int32) = nI 1377 from rfl, nI_mul, nI_add, asr_pos (vp_in_nI (by omega) (by decide)), bnd_s, cl_nI (show k < 2 ^ 31 by omega), cl_nI (show 1377 * g + k < 2 ^ 31 by omega), nI1]
    exact r2
/-- what remember() leaves: h rows were kept, at most five of them stay, from the (h - 5)th on -/
theorem rem_of {h : Nat} (hh : h ≤ 6) (eh : μ.1 0 19 = nI h) : ∃ r, g_X12_remember μ = some r ∧ (∀ off, off ≠ 0 → off ≠ 5 → off ≠ 6 → Eq3 μ r off) ∧ (r.2.1 0 = μ.2.1 0 ∧ r.2.2 0 = μ.2.2 0 ∧ ∀ k, k ≠ 19 → r.1 0 k = μ.1 0 k) ∧ r.1 0 19 = nI (min h 5 + 1) ∧ (∀ k, k < 1377 → r.1 5 (1377 * min h 5 + k) = μ.1 1 k) ∧ (∀ s, s < 8 → r.2.1 6 (8 * min h 5 + s) = μ.2.1 3 s) ∧ ∀ j, j < min h 5 → (∀ k, k < 1377 → r.1 5 (1377 * j + k) = μ.1 5 (1377 * (j + (h - min h 5)) + k)) ∧ ∀ s, s < 8 → r.2.1 6 (8 * j + s) = μ.2.1 6 (8 * (j + (h - min h 5)) + s) := by
  unfold g_X12_remember
  by_cases q : h = 6
  · subst q
    obtain ⟨r1, s1, e1⟩ := rm13 (ν0 := μ) (μ := μ) 6885 0 (by omega) 10000 (by omega) μ ⟨fun _ _ => rfl, rfl, fun j hj => absurd hj (by omega), fun _ _ => rfl⟩
    obtain ⟨r2, s2, e2⟩ := rm45 (ν0 := μ) (μ := r1) 40 0 (by omega) 10000 (by omega) r1 ⟨rfl, rfl, fun _ _ => rfl, fun j hj => absurd hj (by omega), fun _ _ => rfl⟩
    have e19 : r2.1 0 19 = nI 6 := by rw [s2.1, s1.1 0 (by decide)]; exact eh
    have g19 : (uI r2 0 19 ((r2.1 0 19) - (1 : Int32))).1 0 19 = nI 5 := by rw [uI_at, if_pos ⟨rfl, rfl⟩, e19]; rfl
    obtain ⟨r3, s3, e3⟩ := rm84 (ν0 := μ) (μ := uI r2 0 19 ((r2.1 0 19) - (1 : Int32))) (g := 5) (by omega) g19 1377 0 (by omega) 10000 (by omega) _ ⟨fun off _ _ => Eq3.rf _ off, ⟨rfl, rfl, rfl, rfl⟩, ⟨fun j hj => absurd hj (by omega), fun _ _ => rfl⟩, fun j hj => absurd hj (by omega), fun _ _ => rfl⟩
    have ee := e1.trans (e2.trans e3)
    rw [eh, if_pos (show nI 6 = (6 : Int32) from rfl)]
    refine ⟨_, ee, fun off h0 h5 h6 => ?_, ⟨?_, ?_, fun k hk => ?_⟩, ?_, fun k hk => ?_, fun s hs => ?_, fun j hj => ⟨fun k hk => ?_, fun s hs => ?_⟩⟩
    · refine Eq3.I ?_ h0
      refine Eq3.tr ?_ (s3.1 off h5 h6)
      refine Eq3.I ?_ h0
      exact ⟨by rw [s2.1, s1.1 off h5], by rw [s2.2.2.1 off h6, s1.2.1], by rw [s2.2.1, s1.2.1]⟩
    · show r3.2.1 0 = _
      rw [(s3.1 0 (by decide) (by decide)).2.1]
      show r2.2.1 0 = _
      rw [s2.2.2.1 0 (by decide), s1.2.1]
    · show r3.2.2 0 = _
      rw [(s3.1 0 (by decide) (by decide)).2.2]
      show r2.2.2 0 = _
      rw [s2.2.1, s1.2.1]
    · rw [uI_at, if_neg (fun z => hk z.2), (s3.1 0 (by decide) (by decide)).1, uI_at, if_neg (fun z => hk z.2), s2.1, s1.1 0 (by decide)]
    · rw [uI_at, if_pos ⟨rfl, rfl⟩]
      rfl
    · rw [uI_at, if_neg (fun z => absurd z.1 (by decide))]
      refine (s3.2.2.1.1 k hk).trans ?_
      rw [uI_at, if_neg (fun z => absurd z.1 (by decide)), s2.1, s1.1 1 (by decide)]
    · show r3.2.1 6 (8 * 5 + s) = _
      refine (s3.2.2.2.1 s hs).trans ?_
      show r2.2.1 3 s = _
      rw [s2.2.2.1 3 (by decide), s1.2.1]
    · have hj5 : j < 5 := by omega
      rw [uI_at, if_neg (fun z => absurd z.1 (by decide))]
      refine (s3.2.2.1.2 (1377 * j + k) (by omega)).trans ?_
      rw [uI_at, if_neg (fun z => absurd z.1 (by decide)), s2.1, s1.2.2.1 (1377 * j + k) (by omega), show min 6 5 = 5 from rfl, show 1377 * (j + (6 - 5)) + k = 1377 * j + k + 1377 by omega]
    · have hj5 : j < 5 := by omega
      show r3.2.1 6 (8 * j + s) = _
      refine (s3.2.2.2.2 (8 * j + s) (by omega)).trans ?_
      show r2.2.1 6 (8 * j + s) = _
      rw [s2.2.2.2.1 (8 * j + s) (by omega), s1.2.1, show min 6 5 = 5 from rfl, show 8 * (j + (6 - 5)) + s = 8 * j + s + 8 by omega]
  · have hm : min h 5 = h := by omega
    obtain ⟨r3, s3, e3⟩ := rm84 (ν0 := μ) (μ := μ) (g := h) (by omega) eh 1377 0 (by omega) 10000 (by omega) _ ⟨fun off _ _ => Eq3.rf _ off, ⟨rfl, rfl, rfl, rfl⟩, ⟨fun j hj => absurd hj (by omega), fun _ _ => rfl⟩, fun j hj => absurd hj (by omega), fun _ _ => rfl⟩
    rw [eh, if_neg (show ¬ nI h = (6 : Int32) from fun z => q ((nI_eq (b := 6) (by omega) (by decide)).mp z)), hm]
    refine ⟨_, e3, fun off h0 h5 h6 => (s3.1 off h5 h6).I h0, ⟨?_, ?_, fun k hk => ?_⟩, ?_, fun k hk => ?_, fun s hs => ?_, fun j hj => ⟨fun k hk => ?_, fun s hs => ?_⟩⟩
    · exact (s3.1 0 (by decide) (by decide)).2.1
    · exact (s3.1 0 (by decide) (by decide)).2.2
    · rw [uI_at, if_neg (fun z => hk z.2), (s3.1 0 (by decide) (by decide)).1]
    · rw [uI_at, if_pos ⟨rfl, rfl⟩]
    · rw [uI_at, if_neg (fun z => absurd z.1 (by decide))]
      exact s3.2.2.1.1 k hk
    · exact s3.2.2.2.1 s hs
    · rw [uI_at, if_neg (fun z => absurd z.1 (by decide)), Nat.sub_self, Nat.add_zero]
      exact s3.2.2.1.2 _ (by omega)
    · rw [Nat.sub_self, Nat.add_zero]
      exact s3.2.2.2.2 _ (by omega)
end RM
/-! what is no ledger -/
def Rst (n : Nat) (ν μ : Mm) : Prop := HiR n ν μ ∧ InR ν μ ∧ OuR ν μ ∧ (ν.1 661 9 = μ.1 0 12 ∧ ν.1 661 10 = μ.1 0 13) ∧ μ.2.2 0 3 = 1
theorem LdW.cg {n : Nat} {ν ν' : Mm} {L : Nat} {f f' : Nat → Int32} {p p' : Nat → Int64} (h : LdW n ν L f p) (e : ∀ off, L ≤ off → off < L + 327 → Eq3 ν ν' off) (ef : f' = f) (ep : p' = p) : LdW n ν' L f' p' := by
  subst ef
  subst ep
  exact h.congr e
/-- only cells below 1377 and payments below 8 count -/
theorem LdW.cells {n : Nat} {ν : Mm} {L : Nat} {f f' : Nat → Int32} {p p' : Nat → Int64} (h : LdW n ν L f p) (ef : ∀ k, k < 1377 → f' k = f k) (ep : ∀ s, s < 8 → p' s = p s) : LdW n ν L f' p' := by
  obtain ⟨⟨g0, g1, g2, g3, g4, g5⟩, hW, hP⟩ := h
  have n0 := (cl_of hW.1.1).2.2
  have n1 := (cl_of hW.1.2.1).2.2
  have n2 := (cl_of hW.1.2.2.1).2.2
  have n3 := (cl_of hW.1.2.2.2.1).2.2
  have n4 := (cl_of hW.1.2.2.2.2.1).2.2
  have n6 := (cl_of hW.1.2.2.2.2.2.2.1).2.2
  have n7 := (cl_of hW.1.2.2.2.2.2.2.2.1).2.2
  obtain ⟨w0, w1, w2, w3, w4, w5, w6, w7, w8, w9, w10, w11, w12⟩ := hW
  have F := ef
  refine ⟨⟨?_, fun s hs => ?_, fun c hc k hk => ?_, fun i hi => ⟨fun k hk => ?_, fun l hl => ?_⟩, fun m hm k hk => ?_, fun v hv => ?_⟩, ⟨?_, fun b hb => ?_, fun hb => ?_, fun b hb => ?_, fun r hr => ?_, fun r hr => ?_, fun r hr => ?_, fun v hv => ⟨fun b hb => ?_, fun r hr => ?_, ?_, ?_⟩, fun s hs => ?_, fun c hc => ?_, fun c hc => ?_, fun i hi => ?_, fun i hi => ?_⟩, fun s hs => ?_⟩
  · rw [F 0 (by decide), F 1 (by decide), F 2 (by decide), F 3 (by decide), F 4 (by decide), F 5 (by decide)]
    exact g0
  · rw [F 0 (by decide)] at hs
    obtain ⟨x1, x2, x3⟩ := g1 s hs
    refine ⟨?_, ?_, x3.cg (fun k hk => F _ (by omega))⟩
    · rw [F _ (by omega)]; exact x1
    · rw [ep _ (by omega)]; exact x2
  · rw [F 1 (by decide)] at hc
    rw [F _ (by omega)]
    exact g2 c hc k hk
  · rw [F 2 (by decide)] at hi
    rw [F _ (by omega)]
    exact (g3 i hi).1 k hk
  · rw [F 2 (by decide)] at hi
    rw [F _ (by omega)]
    exact (g3 i hi).2 l hl
  · rw [F 3 (by decide)] at hm
    rw [F _ (by omega)]
    exact g4 m hm k hk
  · rw [F 4 (by decide)] at hv
    obtain ⟨t, tb, tr⟩ := g5 v hv
    refine ⟨?_, fun b hb => ?_, fun r hr => ?_⟩
    · rw [F 6 (by decide), F 7 (by decide), F 8 (by decide), F 9 (by decide), F 10 (by decide), F 11 (by decide), F _ (by omega), F _ (by omega)]
      exact t
    · rw [F 6 (by decide)] at hb
      rw [F _ (by omega), F _ (by omega)]
      exact tb b hb
    · rw [F 7 (by decide)] at hr
      rw [F _ (by omega), F _ (by omega)]
      exact tr r hr
  · rw [F 0 (by decide), F 1 (by decide), F 2 (by decide), F 3 (by decide), F 4 (by decide), F 5 (by decide), F 6 (by decide), F 7 (by decide), F 8 (by decide), F 9 (by decide), F 10 (by decide), F 11 (by decide)]
    exact w0
  · rw [F _ (by omega)]; exact w1 b hb
  · rw [F 6 (by decide)] at hb
    rw [F _ (by omega)]; exact w2 hb
  · rw [F 6 (by decide)] at hb
    rw [F _ (by omega), F _ (by omega)]; exact w3 b hb
  · rw [F _ (by omega)]; exact w4 r hr
  · rw [F 7 (by decide)] at hr
    rw [F _ (by omega), F _ (by omega)]; exact w5 r hr
  · rw [F 7 (by decide)] at hr
    rw [F _ (by omega)]; exact w6 r hr
  · rw [F _ (by omega)]; exact (w7 v hv).1 b hb
  · rw [F _ (by omega)]; exact (w7 v hv).2.1 r hr
  · rw [F _ (by omega)]; exact (w7 v hv).2.2.1
  · rw [F _ (by omega)]; exact (w7 v hv).2.2.2
  · rw [F _ (by omega)]; exact w8 s hs
  · rw [F _ (by omega), F _ (by omega), F _ (by omega), F _ (by omega), F _ (by omega), F _ (by omega), F _ (by omega)]
    exact w9 c hc
  · rw [F 1 (by decide)] at hc
    rw [F _ (by omega), F 0 (by decide)]
    exact w10 c hc
  · obtain ⟨y0, y1, y2, y3, y4, y5, y6, y7⟩ := w11 i hi
    rw [F _ (by omega), F _ (by omega), F _ (by omega), F _ (by omega), F _ (by omega), F _ (by omega)]
    exact ⟨y0, y1, y2, y3, y4, y5, fun l hl => by rw [F _ (by omega)]; exact y6 l hl, y7⟩
  · rw [F 2 (by decide)] at hi
    rw [F (617 + 10 * i) (by omega), F (617 + 10 * i + 2) (by omega), F 1 (by decide), F 4 (by decide)]
    exact w12 i hi
  · rw [ep s hs]
    exact hP s hs
theorem HiR.cg {n : Nat} {ν ν' μ μ' : Mm} (h : HiR n ν μ) (e : ∀ off, 662 ≤ off → off < 2626 → Eq3 ν ν' off) (e5 : μ'.1 5 = μ.1 5) (e6 : μ'.2.1 6 = μ.2.1 6) (e19 : μ'.1 0 19 = μ.1 0 19) : HiR n ν' μ' := by
  obtain ⟨a, b, h1, h2, h3, h4, h5, h6⟩ := h.congr e
  exact ⟨a, b, h1, h2, h3, h4, e19.trans h5, fun j hj => by rw [e5, e6]; exact h6 j hj⟩
theorem Rst.cg {n : Nat} {ν ν' μ μ' : Mm} (h : Rst n ν μ) (e : ∀ off, off < 7 ∨ 661 ≤ off → Eq3 ν ν' off) (e1 : ∀ off, off ≠ 1 → off ≠ 2 → off ≠ 3 → Eq3 μ μ' off) : Rst n ν' μ' := by
  obtain ⟨hH, ⟨len, l1, l2, l3, l4⟩, ⟨on, o1, o2, o3, o4⟩, ⟨p1, p2⟩, hr⟩ := h
  obtain ⟨m0, -, m0c⟩ := e1 0 (by decide) (by decide) (by decide)
  refine ⟨hH.cg (fun off h1 h2 => e off (by omega)) (e1 5 (by decide) (by decide) (by decide)).1 (e1 6 (by decide) (by decide) (by decide)).2.1 (by rw [m0]), ⟨len, l1, ?_, ?_, fun k hk => ?_⟩, ⟨on, o1, ?_, ?_, fun k hk => ?_⟩, ⟨?_, ?_⟩, ?_⟩
  · rw [(e 1 (by omega)).1]; exact l2
  · rw [m0]; exact l3
  · rw [(e 3 (by omega)).1, (e1 4 (by decide) (by decide) (by decide)).1]; exact l4 k hk
  · rw [(e 4 (by omega)).1]; exact o2
  · rw [m0]; exact o3
  · rw [(e 6 (by omega)).1, (e1 7 (by decide) (by decide) (by decide)).1]; exact o4 k hk
  · rw [(e 661 (by omega)).1, m0]; exact p1
  · rw [(e 661 (by omega)).1, m0]; exact p2
  · rw [m0c]; exact hr
theorem Rst.mono {n m : Nat} {ν μ : Mm} (h : Rst n ν μ) (hm : n ≤ m) : Rst m ν μ := ⟨h.1.mono hm, h.2⟩
theorem RelP.rst {n : Nat} {ν μ : Mm} (h : RelP n ν μ) : Rst n ν μ := h.2
theorem nx_tab : ∀ k : Fin 6, (nI k.val + (1 : Int32)) - (nI k.val + (1 : Int32)) / (6 : Int32) * (6 : Int32) = nI ((k.val + 1) % 6) := by decide +kernel
theorem hc_tab : ∀ h : Fin 7, imin (nI h.val + (1 : Int32)) (6 : Int32) = nI (min h.val 5 + 1) := by
  intro h
  rw [eq32, imin_ti, nI1, nI_toInt (by omega), nI_toInt (by omega)]
  have : ((6 : Int32)).toInt = 6 := rfl
  omega
/-- save() and remember() -/
theorem save_of {n : Nat} {ν μ : Mm} (h : RelP n ν μ) : ∃ ν1 μ1, g_X3_save ν 7 = some ν1 ∧ g_X12_remember μ = some μ1 ∧ RelP n ν1 μ1 ∧ (∀ off, off < 662 → Eq3 ν ν1 off) ∧ (∀ off, off ≠ 0 → off ≠ 5 → off ≠ 6 → Eq3 μ μ1 off) ∧ ∀ k, k ≠ 19 → μ1.1 0 k = μ.1 0 k := by
  obtain ⟨hLd, ⟨hn, nx, h1, h2, h3, h4, h5, h6⟩, ⟨len, l1, l2, l3, l4⟩, ⟨on, o1, o2, o3, o4⟩, ⟨p1, p2⟩, hr⟩ := id h
  obtain ⟨r, r1, r2, r3⟩ := cp_of (o := 664 + 327 * nx) hLd (Or.inr (Or.inr ⟨nx, h2, rfl⟩)) led7 (by omega)
  obtain ⟨q, q1, q2, ⟨q3a, q3b, q3⟩, q4, q5, q6, q7⟩ := rem_of (μ := μ) h1 h5
  have c2 : r.1 662 2 = nI nx := by rw [(r3 662 (by omega)).1]; exact h4
  have c1 : r.1 662 1 = nI hn := by rw [(r3 662 (by omega)).1]; exact h3
  have E : ∀ off, off < 662 → Eq3 ν (uI (uI r 662 2 (nI ((nx + 1) % 6))) 662 1 (nI (min hn 5 + 1))) off := fun off ho => ((r3 off (by omega)).I (by omega)).I (by omega)
  refine ⟨uI (uI r 662 2 (nI ((nx + 1) % 6))) 662 1 (nI (min hn 5 + 1)), q, ?_, q1, ⟨?_, ?_, ?_, ?_, ?_, ?_⟩, E, q2, q3⟩
  · unfold g_X3_save
    rw [asr_pos led7, h4, asr_pos (vp_in_nI h2 (by decide)), cl_nI (by omega), r1, bnd_s, bnd_s, c2, nx_tab ⟨nx, h2⟩, uI_at, if_neg (fun z => absurd z.2 (by decide)), c1, hc_tab ⟨hn, by omega⟩, bnd_s]
  · exact hLd.cg (fun off g1 g2 => E off (by omega)) (q2 1 (by decide) (by decide) (by decide)).1 (q2 3 (by decide) (by decide) (by decide)).2.1
  · refine ⟨min hn 5 + 1, (nx + 1) % 6, by omega, by omega, ?_, ?_, q4, fun j hj => ?_⟩
    · rw [uI_at, if_pos ⟨rfl, rfl⟩]
    · rw [uI_at, if_neg (fun z => absurd z.2 (by decide)), uI_at, if_pos ⟨rfl, rfl⟩]
    · by_cases ej : j = min hn 5
      · have es : ((nx + 1) % 6 + 6 - (min hn 5 + 1) + j) % 6 = nx := by omega
        rw [es, ej]
        refine (r2.cells (fun k hk => q5 k hk) (fun s hs => q6 s hs)).congr (fun off g1 g2 => ?_)
        exact ((Eq3.rf r off).I (by omega)).I (by omega)
      · have hj2 : j < min hn 5 := by omega
        have es : ((nx + 1) % 6 + 6 - (min hn 5 + 1) + j) % 6 = (nx + 6 - hn + (j + (hn - min hn 5))) % 6 := by omega
        have ne : (nx + 6 - hn + (j + (hn - min hn 5))) % 6 ≠ nx := by omega
        have lt : (nx + 6 - hn + (j + (hn - min hn 5))) % 6 < 6 := by omega
        rw [es]
        refine ((h6 (j + (hn - min hn 5)) (by omega)).cells (fun k hk => (q7 j hj2).1 k hk) (fun s hs => (q7 j hj2).2 s hs)).congr (fun off g1 g2 => ?_)
        generalize (nx + 6 - hn + (j + (hn - min hn 5))) % 6 = z at g1 g2 ne lt
        exact ((r3 off (by omega)).I (by omega)).I (by omega)
  · refine ⟨len, l1, ?_, ?_, fun k hk => ?_⟩
    · rw [(E 1 (by omega)).1]; exact l2
    · rw [q3 6 (by decide)]; exact l3
    · rw [(E 3 (by omega)).1, (q2 4 (by decide) (by decide) (by decide)).1]; exact l4 k hk
  · refine ⟨on, o1, ?_, ?_, fun k hk => ?_⟩
    · rw [(E 4 (by omega)).1]; exact o2
    · rw [q3 21 (by decide)]; exact o3
    · rw [(E 6 (by omega)).1, (q2 7 (by decide) (by decide) (by decide)).1]; exact o4 k hk
  · rw [(E 661 (by omega)).1, q3 12 (by decide), q3 13 (by decide)]
    exact ⟨p1, p2⟩
  · rw [q3b]; exact hr
