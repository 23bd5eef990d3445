/-! PURE. Bytes that are put; append. -/
def by8 (x : Int32) : Int32 := vp_nar .byte x.toInt8.toInt32
theorem by8_rg (x : Int32) : rg (by8 x) (-128) 127 := by
  have h : by8 x = x.toInt8.toInt32.toInt8.toInt32 := rfl
  unfold rg
  rw [h, Int8.toInt_toInt32]
  have h1 := Int8.toInt_lt x.toInt8.toInt32.toInt8
  have h2 := Int8.le_toInt x.toInt8.toInt32.toInt8
  exact ⟨by omega, by omega⟩
theorem put_of {ν : Mm} {o len : Nat} {x : Int32} (ho : isByt o) (e : ν.1 o 2 = nI len) (h : len < szB o) : g_X1_put ν o x = some (uI (uI ν (o + 2) len (by8 x)) o 2 (nI (len + 1))) := by
  have hs : szB o ≤ 1400 := by
    unfold szB
    split <;> decide
  unfold g_X1_put
  rw [asr_pos ho, e, if_neg (by rw [le32, nI_toInt (by omega), nI_toInt (by omega)]; omega), asr_pos (vp_in_nI h (by omega)), bnd_s, bnd_s, cl_nI (by omega), uI_at, if_neg (fun z => absurd z.1 (by omega)), e, nI1]
  rfl
theorem ex8 {x y : Int32} (h : ∀ i, i < 8 → x.toBitVec.getLsbD i = y.toBitVec.getLsbD i) : x.toInt8 = y.toInt8 := by
  refine Int8.toBitVec_inj.mp (BitVec.eq_of_getLsbD_eq fun i hi => ?_)
  show (x.toBitVec.signExtend 8).getLsbD i = (y.toBitVec.signExtend 8).getLsbD i
  rw [BitVec.getLsbD_signExtend, BitVec.getLsbD_signExtend, h i hi]
  simp [hi, show i < 32 by omega]
theorem shr_bit {x : Int32} {j i : Nat} (hj : j ≤ 24) (hi : i < 8) : (x >>> (nI j &&& 31)).toBitVec.getLsbD i = x.toBitVec.getLsbD (j + i) := by
  have e1 : (x >>> (nI j &&& 31)).toBitVec = x.toBitVec.sshiftRight j := by
    show x.toBitVec.sshiftRight' ((nI j &&& 31).toBitVec.smod 32) = _
    rw [sh_tab ⟨j, by omega⟩]
    show x.toBitVec.sshiftRight (BitVec.ofNat 32 j).toNat = _
    rw [BitVec.toNat_ofNat, Nat.mod_eq_of_lt (by omega)]
  rw [e1, BitVec.getLsbD_sshiftRight]
  simp [show i < 32 by omega, show j + i < 32 by omega]
theorem by_24 (x : Int32) : by8 ((x.toUInt32 >>> ((24 : Int32).toUInt32 &&& Int32.toUInt32 31)).toInt32) = by8 (x >>> ((24 : Int32) &&& 31)) := by
  unfold by8
  rw [ex8 (y := x >>> ((24 : Int32) &&& 31)) fun i hi => ?_]
  rw [show (24 : Int32) = nI 24 from rfl, shr_bit (by decide) hi]
  show (x.toBitVec >>> (24 : Nat)).getLsbD i = _
  rw [BitVec.getLsbD_ushiftRight]
theorem by_16 (x : Int32) : by8 ((x.toUInt32 >>> ((16 : Int32).toUInt32 &&& Int32.toUInt32 31)).toInt32) = by8 (x >>> ((16 : Int32) &&& 31)) := by
  unfold by8
  rw [ex8 (y := x >>> ((16 : Int32) &&& 31)) fun i hi => ?_]
  rw [show (16 : Int32) = nI 16 from rfl, shr_bit (by decide) hi]
  show (x.toBitVec >>> (16 : Nat)).getLsbD i = _
  rw [BitVec.getLsbD_ushiftRight]
theorem by_08 (x : Int32) : by8 ((x.toUInt32 >>> ((8 : Int32).toUInt32 &&& Int32.toUInt32 31)).toInt32) = by8 (x >>> ((8 : Int32) &&& 31)) := by
  unfold by8
  rw [ex8 (y := x >>> ((8 : Int32) &&& 31)) fun i hi => ?_]
  rw [show (8 : Int32) = nI 8 from rfl, shr_bit (by decide) hi]
  show (x.toBitVec >>> (8 : Nat)).getLsbD i = _
  rw [BitVec.getLsbD_ushiftRight]
theorem by_00 (x : Int32) : by8 x = by8 (x >>> ((0 : Int32) &&& 31)) := by
  unfold by8
  rw [ex8 (x := x) (y := x >>> ((0 : Int32) &&& 31)) fun i hi => ?_]
  rw [show (0 : Int32) = nI 0 from rfl, shr_bit (by decide) hi, Nat.zero_add]
/-- both input buffers while bytes are put -/
def InS (ν0 μ0 ν μ : Mm) (len : Nat) : Prop := (∀ off, off ≠ 1 → off ≠ 3 → Eq3 ν0 ν off) ∧ (∀ off, off ≠ 0 → off ≠ 4 → Eq3 μ0 μ off) ∧ (∀ k, k ≠ 6 → μ.1 0 k = μ0.1 0 k) ∧ μ.2 = μ0.2 ∧ ν.1 1 2 = nI len ∧ μ.1 0 6 = nI len ∧ ∀ k, k < len → ν.1 3 k = μ.1 4 k ∧ rg (μ.1 4 k) (-128) 127
theorem InS.step {ν0 μ0 ν μ : Mm} {len : Nat} (h : InS ν0 μ0 ν μ len) {b : Int32} (hb : rg b (-128) 127) : InS ν0 μ0 (uI (uI ν 3 len b) 1 2 (nI (len + 1))) (uI (uI μ 4 len b) 0 6 (nI (len + 1))) (len + 1) := by
  obtain ⟨h1, h2, h3, h4, h5, h6, h7⟩ := h
  refine ⟨fun off g1 g2 => ((h1 off g1 g2).I g2).I g1, fun off g1 g2 => ((h2 off g1 g2).I g2).I g1, fun k hk => ?_, h4, ?_, ?_, fun k hk => ?_⟩
  · rw [uI_at, if_neg (fun z => hk z.2), uI_at, if_neg (fun z => absurd z.1 (by decide))]
    exact h3 k hk
  · rw [uI_at, if_pos ⟨rfl, rfl⟩]
  · rw [uI_at, if_pos ⟨rfl, rfl⟩]
  · have ea : (uI (uI ν 3 len b) 1 2 (nI (len + 1))).1 3 k = if k = len then b else ν.1 3 k := by
      rw [uI_at, if_neg (fun z => absurd z.1 (by decide)), uI_at]
      simp only [true_and]
    have eb : (uI (uI μ 4 len b) 0 6 (nI (len + 1))).1 4 k = if k = len then b else μ.1 4 k := by
      rw [uI_at, if_neg (fun z => absurd z.1 (by decide)), uI_at]
      simp only [true_and]
    rw [ea, eb]
    by_cases e : k = len
    · rw [if_pos e, if_pos e]
      exact ⟨rfl, hb⟩
    · rw [if_neg e, if_neg e]
      exact h7 k (by omega)
theorem af_step {μ0 μ : Mm} {x s : Int32} {len n : Nat} (e : μ.1 0 6 = nI len) (h : len < 800) (hs : ¬ s < 0) : g_X12_appendFour_L3 μ0 x (n + 1) μ s = g_X12_appendFour_L3 μ0 x n (uI (uI μ 4 len (by8 (x >>> (s &&& 31)))) 0 6 (nI (len + 1))) (s + (-8 : Int32)) := by
  conv => lhs; unfold g_X12_appendFour_L3
  rw [if_neg hs, e, asr_pos (vp_in_nI h (by decide)), bnd_s, bnd_s, cl_nI (by omega), uI_at, if_neg (fun z => absurd z.1 (by decide)), e, nI1]
  rfl
theorem four_of {ν0 μ0 ν μ : Mm} {len : Nat} (h : InS ν0 μ0 ν μ len) (hl : len + 4 ≤ 800) (x : Int32) : ∃ ν2 μ2, g_X1_putInt ν 1 x = some ν2 ∧ g_X12_appendFour μ x = some μ2 ∧ InS ν0 μ0 ν2 μ2 (len + 4) := by
  have b1 : isByt 1 := Or.inl rfl
  have hz : szB 1 = 800 := rfl
  have s1 := h.step (by8_rg (x >>> ((24 : Int32) &&& 31)))
  have s2 := s1.step (by8_rg (x >>> ((16 : Int32) &&& 31)))
  have s3 := s2.step (by8_rg (x >>> ((8 : Int32) &&& 31)))
  have s4 := s3.step (by8_rg (x >>> ((0 : Int32) &&& 31)))
  refine ⟨_, _, ?_, ?_, s4⟩
  · unfold g_X1_putInt
    rw [asr_pos b1, put_of b1 h.2.2.2.2.1 (by omega), bnd_s, by_24]
    show bnd (g_X1_put (uI (uI ν 3 len (by8 (x >>> ((24 : Int32) &&& 31)))) 1 2 (nI (len + 1))) 1 _) _ = _
    rw [put_of b1 s1.2.2.2.2.1 (by omega), bnd_s, by_16]
    show bnd (g_X1_put (uI (uI (uI (uI ν 3 len (by8 (x >>> ((24 : Int32) &&& 31)))) 1 2 (nI (len + 1))) 3 (len + 1) (by8 (x >>> ((16 : Int32) &&& 31)))) 1 2 (nI (len + 1 + 1))) 1 _) _ = _
    rw [put_of b1 s2.2.2.2.2.1 (by omega), bnd_s, by_08]
    show bnd (g_X1_put (uI (uI (uI (uI (uI (uI ν 3 len (by8 (x >>> ((24 : Int32) &&& 31)))) 1 2 (nI (len + 1))) 3 (len + 1) (by8 (x >>> ((16 : Int32) &&& 31)))) 1 2 (nI (len + 1 + 1))) 3 (len + 1 + 1) (by8 (x >>> ((8 : Int32) &&& 31)))) 1 2 (nI (len + 1 + 1 + 1))) 1 _) _ = _
    rw [put_of b1 s3.2.2.2.2.1 (by omega), bnd_s, by_00 x]
  · unfold g_X12_appendFour
    show g_X12_appendFour_L3 μ x (9995 + 1 + 1 + 1 + 1 + 1) μ (24 : Int32) = _
    rw [af_step h.2.2.2.2.2.1 (by omega) (by decide), show (24 : Int32) + (-8 : Int32) = 16 from rfl, af_step s1.2.2.2.2.2.1 (by omega) (by decide), show (16 : Int32) + (-8 : Int32) = 8 from rfl, af_step s2.2.2.2.2.2.1 (by omega) (by decide), show (8 : Int32) + (-8 : Int32) = 0 from rfl, af_step s3.2.2.2.2.2.1 (by omega) (by decide)]
    unfold g_X12_appendFour_L3
    rw [if_pos (by decide)]
theorem s0 : Sm_0 RelP := by
  intro n ν μ hn hR a1 a2 a3 a4 a5
  obtain ⟨hLd, hHi, ⟨len, l1, l2, l3, l4⟩, ⟨on, o1, o2, o3, o4⟩, ⟨p1, p2⟩, hr⟩ := id hR
  have z8 : ((800 : Int32)).toInt = 800 := rfl
  have e20 : nI len + (20 : Int32) = nI (len + 20) := nI_add len 20
  by_cases q : 800 < len + 20
  · have g : (800 : Int32) < nI (len + 20) := by rw [lt32, nI_toInt (by omega), z8]; omega
    refine wo_er 3 1 hR ?_ ?_ rfl rfl (by decide)
    · unfold g_X11_append
      rw [l2, e20, if_pos g]
      rfl
    · unfold g_X12_append
      rw [l3, e20, if_pos g]
      unfold g_X12_append_J19
      rw [bnd_s, pz1]
      rfl
  · have g : ¬ (800 : Int32) < nI (len + 20) := by rw [lt32, nI_toInt (by omega), z8]; omega
    have s0 : InS ν (uI μ 0 0 0) ν (uI μ 0 0 0) len := ⟨fun off _ _ => Eq3.rf ν off, fun off _ _ => Eq3.rf _ off, fun _ _ => rfl, rfl, l2, by rw [uI_at, if_neg (fun z => absurd z.2 (by decide))]; exact l3, fun k hk => by
      rw [(uI_o (show (4 : Nat) ≠ 0 by decide)).1]
      exact l4 k hk⟩
    obtain ⟨ν1, μ1, c1, m1, s1⟩ := four_of s0 (by omega) a1
    obtain ⟨ν2, μ2, c2, m2, s2⟩ := four_of s1 (by omega) a2
    obtain ⟨ν3, μ3, c3, m3, s3⟩ := four_of s2 (by omega) a3
    obtain ⟨ν4, μ4, c4, m4, s4⟩ := four_of s3 (by omega) a4
    obtain ⟨ν5, μ5, c5, m5, s5⟩ := four_of s4 (by omega) a5
    obtain ⟨h1, h2, h3, h4, h5, h6, h7⟩ := s5
    have E1 : ∀ off, off ≠ 0 → off ≠ 4 → Eq3 μ μ5 off := fun off g1 g2 => ((Eq3.rf μ off).I g1).tr (h2 off g1 g2)
    have E0 : ∀ k, k ≠ 0 → k ≠ 6 → μ5.1 0 k = μ.1 0 k := fun k k0 k6 => by rw [h3 k k6, uI_at, if_neg (fun z => k0 z.2)]
    have hrel : RelP n ν5 μ5 := by
      refine ⟨hLd.cg (fun off g1 g2 => h1 off (by omega) (by omega)) (E1 1 (by decide) (by decide)).1 (E1 3 (by decide) (by decide)).2.1, hHi.cg (fun off g1 g2 => h1 off (by omega) (by omega)) (E1 5 (by decide) (by decide)).1 (E1 6 (by decide) (by decide)).2.1 (E0 19 (by decide) (by decide)), ⟨len + 4 + 4 + 4 + 4 + 4, by omega, h5, h6, h7⟩, ⟨on, o1, ?_, ?_, fun k hk => ?_⟩, ⟨?_, ?_⟩, ?_⟩
      · rw [(h1 4 (by decide) (by decide)).1]; exact o2
      · rw [E0 21 (by decide) (by decide)]; exact o3
      · rw [(h1 6 (by decide) (by decide)).1, (E1 7 (by decide) (by decide)).1]; exact o4 k hk
      · rw [(h1 661 (by decide) (by decide)).1, E0 12 (by decide) (by decide)]; exact p1
      · rw [(h1 661 (by decide) (by decide)).1, E0 13 (by decide) (by decide)]; exact p2
      · rw [h4]; exact hr
    refine wo_ok (v := nI (len + 4 + 4 + 4 + 4 + 4)) (hrel.mono (Nat.le_succ n)) ?_ ?_ ?_
    · rw [h3 0 (by decide)]
      rfl
    · unfold g_X11_append
      rw [l2, e20, if_neg g]
      unfold g_X11_append_J21 g_X11_requireState
      rw [if_pos rfl, bnd_s, bnx_ok, c1, bnd_s, c2, bnd_s, c3, bnd_s, c4, bnd_s, c5, bnd_s, h5]
    · unfold g_X12_append
      rw [l3, e20, if_neg g]
      unfold g_X12_append_J19
      rw [bnd_s, pz1]
      show bnd (g_X12_appendFour (uI μ 0 0 0) a1) _ = _
      rw [m1, bnd_s, m2, bnd_s, m3, bnd_s, m4, bnd_s, m5, bnd_s, h6]
