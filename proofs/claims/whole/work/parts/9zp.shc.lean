/-! PURE. Ships of a text. -/
section SHC
variable {ν0 μ0 ν μ : Mm} {len N : Nat}
theorem kd1 {b : Int32} (h : kdN b = 1) : rg b 97 122 := by
  unfold kdN at h
  split at h
  · assumption
  · split at h
    · exact absurd h (by decide)
    · split at h <;> exact absurd h (by decide)
theorem Fz.row {μ' : Mm} (h : Fz ν0 μ0 ν μ) (e : ∀ off, off ≠ 2 → Eq3 μ μ' off) (e2 : μ'.2 = μ.2) : Fz ν0 μ0 ν μ' := by
  obtain ⟨h1, h2, h3, h4, h5⟩ := h
  exact ⟨h1, fun off x y => (h2 off x y).tr (e off y), e2.trans h3, fun k hk => by rw [(e 0 (by decide)).1]; exact h4 k hk, by rw [e2]; exact h5⟩
theorem Ps.row {μ' : Mm} (h : Ps ν μ len) (e : ∀ off, off ≠ 2 → Eq3 μ μ' off) : Ps ν μ' len := h.cg rfl rfl (fun _ _ => rfl) (e 4 (by decide)).1 (fun k _ => by rw [(e 0 (by decide)).1])
theorem Dr.ship (h : Dr ν μ N) {x : Nat} (hx : cl (μ.1 2 0) = x) (hx8 : x < 8) {v : Int32} (rv : rg v 0 9999) {ν' μ' : Mm} (cν : ∀ off, 326 ≤ off → off < 645 → off ≠ 326 → off ≠ 326 + (6 + x) → Eq3 ν ν' off) (cf : ∀ k, k = 6 ∨ k = 7 ∨ k = 8 → ν'.1 645 k = ν.1 645 k) (c0 : ∀ k, k ≠ 5 → ν'.1 326 k = ν.1 326 k) (c5 : ν'.1 326 5 = nI (x + 1)) (ct : ν'.1 (326 + (6 + x)) 1 = v) (cp : ν'.2.1 (326 + (6 + x)) 2 = 0) (E : ∀ k, k ≠ 0 → (k < 274 + 7 * x ∨ 274 + 7 * x + 7 ≤ k) → μ'.1 2 k = μ.1 2 k) (m0 : μ'.1 2 0 = nI (x + 1)) (mt : μ'.1 2 (274 + 7 * x) = v) (hN : Nm (ν'.2.2 (326 + (6 + x)) 0) (fun k => μ'.1 2 (274 + 7 * x + 1 + k))) (mf : ∀ k, k = 14 ∨ k = 15 ∨ k = 16 → μ'.1 0 k = μ.1 0 k) : Dr ν' μ' (N + 1) := by
  obtain ⟨h1, h2, h3, h4⟩ := h
  obtain ⟨k1, k2, k3⟩ := cl_of h2.1.1
  have cx : cl (nI (x + 1)) = x + 1 := cl_nI (by omega)
  have F : ∀ k, k < 1377 ∧ k ≠ 0 ∧ (k < 274 + 7 * x ∨ 274 + 7 * x + 7 ≤ k) → μ'.1 2 k = μ.1 2 k := fun k hk => E k hk.2.1 hk.2.2
  refine ⟨?_, ?_, ?_, ?_⟩
  · refine h1.shipc (x := x) h2 hx8 (fun off g1 g2 g3 g4 => cν off (by omega) (by omega) g3 g4) (fun k g1 g2 g3 => c0 k g3) (c5.trans m0.symm) F (fun y hy => ?_) ⟨ct.trans mt.symm, cp, hN⟩ (fun y _ _ => rfl)
    rw [m0, cx] at hy
    omega
  · refine h2.shipc (x := x) hx8 F ?_ ?_ ?_
    · rw [m0]
      exact ⟨by rw [nI_toInt (by omega)]; omega, by rw [nI_toInt (by omega)]; omega⟩
    · rw [m0, nI_toInt (by omega)]
      omega
    · rw [mt]; exact rv
  · rw [E 4 (by decide) (by omega)]; exact h3
  · obtain ⟨fm, fw, fl, a1, ⟨b1, b2, b3⟩, ⟨c1, c2, c3⟩, d1, d2⟩ := h4
    refine ⟨fm, fw, fl, a1, ⟨?_, ?_, ?_⟩, ⟨?_, ?_, ?_⟩, ?_, ?_⟩
    · rw [cf 6 (by omega)]; exact b1
    · rw [cf 7 (by omega)]; exact b2
    · rw [cf 8 (by omega)]; exact b3
    · rw [mf 14 (by omega)]; exact c1
    · rw [mf 15 (by omega)]; exact c2
    · rw [mf 16 (by omega)]; exact c3
    · rw [m0, cx, E 6 (by decide) (by omega), E 7 (by decide) (by omega), E 1 (by decide) (by omega)]; omega
    · rw [E 1 (by decide) (by omega)]; exact d2
/-- k letters of the name are laid -/
def Lt (μ μ' : Mm) (x p q k : Nat) : Prop := (∀ off, off ≠ 2 → Eq3 μ μ' off) ∧ μ'.2 = μ.2 ∧ (∀ i, i < 274 + 7 * x + 1 ∨ 274 + 7 * x + 7 ≤ i → μ'.1 2 i = μ.1 2 i) ∧ ∀ j, j < k → μ'.1 2 (274 + 7 * x + 1 + j) = ltr μ p q j
theorem let_loop {x p q : Nat} (hx : x < 8) (hr : μ.2.2 0 3 = 2) (e8 : μ.1 0 8 = nI q) (e9 : μ.1 0 9 = nI p) (hpq : p ≤ q) (hq : q ≤ 800) (νa : Mm) : ∀ (d k : Nat), k + d = 6 → ∀ n, d + 1 ≤ n → ∀ μ', Lt μ μ' x p q k → ∃ r m, Lt μ r x p q 6 ∧ g_X12_parseShip_L56 νa n μ' (nI x) (nI k) = g_X12_parseShip_L56 νa (m + 1) r (nI x) (nI 6) := by
  intro d
  induction d with
  | zero =>
    intro k hk n hn μ' h
    obtain ⟨n, rfl, -⟩ := succ_n hn
    have ek : k = 6 := by omega
    subst ek
    exact ⟨μ', n, h, rfl⟩
  | succ d ih =>
    intro k hk n hn μ' h
    obtain ⟨n, rfl, hn2⟩ := succ_n hn
    obtain ⟨g1, g2, g3, g4⟩ := h
    have z0 := (g1 0 (by decide)).1
    have z4 := (g1 4 (by decide)).1
    have lt : ltr μ' p q k = ltr μ p q k := by
      unfold ltr
      rw [z4]
    obtain ⟨r, m, r1, r2⟩ := ih (k + 1) (by omega) n hn2 (uI μ' 2 (274 + 7 * x + 1 + k) (ltr μ p q k)) ⟨fun off ho => (g1 off ho).I ho, g2, fun i hi => by
      rw [uI_at, if_neg (fun z => absurd z.2 (by omega))]
      exact g3 i hi, fun j hj => by
      rw [uI_at]
      by_cases e : j = k
      · rw [if_pos ⟨rfl, by omega⟩, e]
      · rw [if_neg (fun z => absurd z.2 (by omega))]
        exact g4 j (by omega)⟩
    refine ⟨r, m, r1, ?_⟩
    rw [← r2]
    conv => lhs; unfold g_X12_parseShip_L56
    rw [if_neg (show ¬ (6 : Int32) ≤ nI k by rw [le32, nI_toInt (by omega)]; show ¬ (6 : Int) ≤ (k : Int); omega), g2, hr, asr_pos row2, letter_of (μ := μ') hpq hq (by rw [z0]; exact e8) (by rw [z0]; exact e9) (by omega), bnd_s, lt, show (((274 : Int32) + ((7 : Int32) * nI x)) + (1 : Int32)) + nI k = nI (274 + 7 * x + 1 + k) from by rw [show (274 : Int32) = nI 274 from rfl, show (7 : Int32) = nI 7 from rfl, show (1 : Int32) = nI 1 from rfl, nI_mul, nI_add, nI_add, nI_add], asr_pos (vp_in_nI (by omega) (by decide)), cl_nI (by omega), bnd_s, nI1]
theorem ship_st (h : Gd ν0 μ0 len N ν μ) : Out ν0 μ0 len (N + 1) (g_X7_shipStatement ν) (g_X12_parseShip μ) := by
  obtain ⟨hF, hP, hD⟩ := id h
  obtain ⟨h1, h2, h3, h4⟩ := id hD
  have r2 : μ.2.2 0 3 = 2 := hF.2.2.2.2
  obtain ⟨k1, k2, k3⟩ := cl_of h2.1.1
  generalize hx : cl (μ.1 2 0) = x at k1 k2 k3
  have ct : ν.1 326 5 = nI x := h1.1.1.trans k1
  have t8 : ((8 : Int32)).toInt = 8 := rfl
  unfold g_X7_shipStatement g_X12_parseShip
  rw [ct, r2, asr_pos row2, k1]
  by_cases g : x < 8
  · rw [if_pos (show nI x < (8 : Int32) by rw [lt32, nI_toInt (by omega), t8]; omega), if_neg (show ¬ nI x = (8 : Int32) from fun z => absurd ((nI_eq (b := 8) (by omega) (by decide)).mp z) (by omega))]
    obtain ⟨ν1, μ1, f1, f2, f3, f4, -⟩ := rd_of hP
    have hG1 : Gd ν0 μ0 len N ν1 μ1 := h.mw f3 f4
    have gd := f4.2.2.2.2.1
    have l8 := f4.1.2.2.1
    unfold g_X12_parseShip_J18
    rw [f1, f2, bnd_s, bnd_s]
    obtain ⟨b, b1, b2⟩ := name_of f4
    rw [b1, bnd_s]
    rcases b2 with ⟨rfl, b2, p, q, p1, p2, p3, a1, a2, a3, a4, a5⟩ | ⟨rfl, b2⟩
    · have hb : ∀ k, p ≤ k → k < q → ν1.1 3 k = μ1.1 4 k ∧ rg (μ1.1 4 k) 97 122 := fun k c1 c2 => ⟨(f4.1.2.2.2 k (by omega)).1, kd1 (a5 k c1 c2)⟩
      obtain ⟨z, z1, z2, z3⟩ := named_of (L := 326) (R := 2) hG1.2.2.1 hG1.2.2.2.1.1.1 led326 hG1.1.2.2.2.2 row2 p1 p3 l8 f4.1.1 a4 a3 hb
      rw [if_pos (show true = true from rfl), b2, bnd_s, bnd_s, good_t gd, if_pos (show true = true from rfl), a1, a2, z1, z2, bnd_s, bnd_s]
      by_cases c : z = -1
      · rw [if_pos c, if_pos c, bnd_s, if_pos (show true = true from rfl)]
        obtain ⟨μ2, m, l1, l2⟩ := let_loop (x := x) g hG1.1.2.2.2.2 a4 a3 (by omega) (by omega) μ 6 0 (by omega) 10000 (by omega) μ1 ⟨fun off _ => Eq3.rf μ1 off, rfl, fun _ _ => rfl, fun j hj => absurd hj (by omega)⟩
        have l2' : g_X12_parseShip_L56 μ 10000 μ1 (nI x) (0 : Int32) = g_X12_parseShip_L56 μ (m + 1) μ2 (nI x) (nI 6) := l2
        rw [l2']
        unfold g_X12_parseShip_L56
        rw [if_pos (show (6 : Int32) ≤ nI 6 by decide)]
        obtain ⟨ν3, μ3, q1, q2, q3, q4, -⟩ := rd_of (f4.row l1.1)
        have hF3 : Fz ν0 μ0 ν3 μ3 := (hG1.1.row l1.1 l1.2.1).mw q3
        rw [q1, q2, bnd_s, bnd_s, hF3.2.2.2.2, asr_pos row2]
        have ix : ((274 : Int32) + ((7 : Int32) * nI x)) + (0 : Int32) = nI (274 + 7 * x) := by
          rw [show (274 : Int32) = nI 274 from rfl, show (7 : Int32) = nI 7 from rfl, show (0 : Int32) = nI 0 from rfl, nI_mul, nI_add, nI_add, Nat.add_zero]
        rcases na_of q4 1936617332 (lo := (1 : Int32)) (hi := (9999 : Int32)) (by decide) with ⟨νa, νb, v, μb, c1, c2, c3, c4, c5, c6, c7, -⟩ | ⟨νb, v, μb, c1, c2, c3, c4⟩
        rotate_left
        · have hE : Er ν0 μ0 νb μb := ⟨hF3.mw c3, c4⟩
          rw [c2, bnd_s, ix, asr_pos (vp_in_nI (by omega) (by decide)), cl_nI (by omega), bnd_s, bnd_s, good_f (μ := uI μb 2 (274 + 7 * x) v) c4.2.2, if_neg nff]
          rcases c1 with c1 | ⟨νa, c1, d1⟩
          · rw [c1, bnd_s, if_neg (show ¬ (false, νb).1 = true from nff)]
            exact ⟨false, νb, _, rfl, rfl, Or.inr ⟨rfl, hE.M2⟩⟩
          · rw [c1, bnd_s, if_pos (show (true, νa).1 = true from rfl), d1, bnd_s, if_neg (show ¬ (false, νb).1 = true from nff)]
            exact ⟨false, νb, _, rfl, rfl, Or.inr ⟨rfl, hE.M2⟩⟩
        have hFb : Fz ν0 μ0 νb μb := hF3.mw c4
        have gb : μb.1 0 12 = 0 := c5.2.2.2.2.1
        rw [c3, bnd_s, ix, asr_pos (vp_in_nI (by omega) (by decide)), cl_nI (by omega), bnd_s, bnd_s, good_t (μ := uI μb 2 (274 + 7 * x) v) gb, if_pos (show true = true from rfl), show (uI μb 2 (274 + 7 * x) v).2.2 0 3 = 2 from hFb.2.2.2.2, asr_pos row2, bnd_s]
        -- the class lays the ship
        have B3 : νb.1 3 = ν1.1 3 := by rw [(c4.1 3 (by decide)).1, (q3.1 3 (by decide)).1]
        have B1 : νb.1 1 2 = nI len := c5.1.1
        have es : nI q - nI p = nI (q - p) := by
          have := nI_sub (q - p) p
          rw [Nat.sub_add_cancel (by omega)] at this
          exact this
        have by8 : ∀ j, j < q - p → νb.1 3 (p + j) = nI (cl (νb.1 3 (p + j))) ∧ 97 ≤ cl (νb.1 3 (p + j)) ∧ cl (νb.1 3 (p + j)) ≤ 122 := fun j hj => by
          obtain ⟨w1, w2⟩ := hb (p + j) (by omega) (by omega)
          rw [B3, w1]
          obtain ⟨w3, w4⟩ := w2
          obtain ⟨w5, w6, w7⟩ := cl_of (x := μ1.1 4 (p + j)) (hi := 122) ⟨by omega, w4⟩
          exact ⟨w5, by omega, by omega⟩
        have TX : g_X1_textAt νb 1 (nI p) (nI q) = some (enc (q - p) (fun j => cl (νb.1 3 (p + j))), νb) := by
          unfold g_X1_textAt
          rw [asr_pos (show isByt 1 from Or.inl rfl), asr_pos (show txOk νb 1 (nI p) (nI q) from ⟨p, q - p, rfl, by rw [show p + (q - p) = q by omega], by omega, by omega, fun j hj => by rw [B1, lt32, nI_toInt (by omega), nI_toInt (by omega)]; omega, fun j hj => ⟨cl (νb.1 3 (p + j)), by have := by8 j hj; omega, by have := by8 j hj; omega, (by8 j hj).1⟩⟩), es, cl_nI (by omega), cl_nI (by omega)]
        have hh : ∀ j, j < q - p → 0 < cl (νb.1 3 (p + j)) ∧ cl (νb.1 3 (p + j)) < 256 := fun j hj => by
          have := by8 j hj
          omega
        have SL : slen (enc (q - p) (fun j => cl (νb.1 3 (p + j)))) = q - p := slen_enc (by omega) hh
        have SC : ∀ j, j < q - p → schar (enc (q - p) (fun j => cl (νb.1 3 (p + j)))) j = μ1.1 4 (p + j) := fun j hj => by
          rw [schar_enc (h := fun j => cl (νb.1 3 (p + j))) (by omega) hh hj]
          exact (by8 j hj).1.symm.trans (by rw [B3]; exact (hb (p + j) (by omega) (by omega)).1)
        generalize hE : enc (q - p) (fun j => cl (νb.1 3 (p + j))) = cc at TX SL SC
        have e5 : νb.1 326 5 = nI x := by rw [(c4.1 326 (by decide)).1, (q3.1 326 (by decide)).1, (f3.1 326 (by decide)).1]; exact ct
        have sh326 : ¬ 326 = 326 + (6 + x) := by omega
        have NS : g_X5_newShip νb 326 cc v = some (nI x, uI (uP (uI (uN νb (326 + (6 + x)) 0 cc) (326 + (6 + x)) 1 v) (326 + (6 + x)) 2 0) 326 5 (nI (x + 1))) := by
          unfold g_X5_newShip
          rw [asr_pos led326, e5, asr_pos (vp_in_nI g (by decide)), cl_nI (by omega), bnd_s, bnd_s, bnd_s, show (uP (uI (uN νb (326 + (6 + x)) 0 cc) (326 + (6 + x)) 1 v) (326 + (6 + x)) 2 0).1 326 5 = nI x from by rw [uP_1, uI_at, if_neg (fun z => sh326 z.1), uN_1]; exact e5, nI1, bnd_s]
        rw [c1, bnd_s, if_pos (show (true, νa).1 = true from rfl), c2, bnd_s, if_pos (show (true, νb).1 = true from rfl)]
        dsimp only
        rw [TX, bnd_s]
        dsimp only
        rw [c6, NS, bnd_s]
        have em : ∀ k, μb.1 2 k = μ2.1 2 k := fun k => by rw [(c4.2.2.1 2 (by decide)).1, (q3.2.2.1 2 (by decide)).1]
        have e0 : (uI μb 2 (274 + 7 * x) v).1 2 0 = nI x := by
          rw [uI_at, if_neg (fun z => absurd z.2 (by omega)), em, l1.2.2.1 0 (by omega), (f3.2.2.1 2 (by decide)).1]
          exact k1
        rw [e0, nI1]
        have hPf : Ps (uI (uP (uI (uN νb (326 + (6 + x)) 0 cc) (326 + (6 + x)) 1 v) (326 + (6 + x)) 2 0) 326 5 (nI (x + 1))) (uI (uI μb 2 (274 + 7 * x) v) 2 0 (nI (x + 1))) len := by
          refine c5.M2.M2.cg ?_ ?_ (fun k hk => ?_) rfl (fun _ _ => rfl)
          · exact (((((Eq3.rf νb 1).N (by omega)).I (by omega)).P (by omega)).I (by omega)).1
          · exact (((((Eq3.rf νb 3).N (by omega)).I (by omega)).P (by omega)).I (by omega)).1
          · rw [(((((Eq3.rf νb 645).N (by omega)).I (by omega)).P (by omega)).I (by omega)).1]
        refine ⟨true, _, _, rfl, rfl, Or.inl ⟨rfl, ⟨?_, ?_, hFb.2.2.1, ?_, hFb.2.2.2.2⟩, hPf, ?_⟩⟩
        · exact fun off ho => ((((hFb.1 off ho).N (by omega)).I (by omega)).P (by omega)).I (by omega)
        · exact hFb.M2.M2.2.1
        · exact hFb.M2.M2.2.2.2.1
        · refine hD.ship hx g (v := v) ⟨Int.le_trans (by decide) c7.1, c7.2⟩ (fun off g1 g2 g3 g4 => ?_) (fun k hk => ?_) (fun k hk => ?_) ?_ ?_ ?_ (fun k g1 g2 => ?_) ?_ ?_ ⟨?_, ?_, ?_, ?_, ?_⟩ (fun k hk => ?_)
          · exact (((((((f3.1 off (by omega)).tr (q3.1 off (by omega))).tr (c4.1 off (by omega))).N (by omega)).I (by omega)).P (by omega)).I (by omega))
          · rw [(((((Eq3.rf νb 645).N (by omega)).I (by omega)).P (by omega)).I (by omega)).1, c4.2.1.2 k hk, q3.2.1.2 k hk, f3.2.1.2 k hk]
          · rw [uI_at, if_neg (fun z => hk z.2), uP_1, uI_at, if_neg (fun z => sh326 z.1), uN_1, (c4.1 326 (by decide)).1, (q3.1 326 (by decide)).1, (f3.1 326 (by decide)).1]
          · rw [uI_at, if_pos ⟨rfl, rfl⟩]
          · rw [uI_at, if_neg (fun z => sh326 z.1.symm), uP_1, uI_at, if_pos ⟨rfl, rfl⟩]
          · rw [uI_21, uP_at, if_pos ⟨rfl, rfl⟩]
          · rw [uI_at, if_neg (fun z => g1 z.2), uI_at, if_neg (fun z => absurd z.2 (by omega)), em, l1.2.2.1 k (by omega), (f3.2.2.1 2 (by decide)).1]
          · rw [uI_at, if_pos ⟨rfl, rfl⟩]
          · rw [uI_at, if_neg (fun z => absurd z.2 (by omega)), uI_at, if_pos ⟨rfl, rfl⟩]
          all_goals try rw [uI_21, uP_22, uI_21, uN_at, if_pos ⟨rfl, rfl⟩]
          · rw [SL]; omega
          · rw [SL]; omega
          · intro j hj
            rw [SL] at hj
            rw [SC j hj]
            have w := (hb (p + j) (by omega) (by omega)).2
            obtain ⟨w3, w4⟩ := w
            obtain ⟨w5, w6, w7⟩ := cl_of (x := μ1.1 4 (p + j)) (hi := 122) ⟨by omega, w4⟩
            exact ⟨cl (μ1.1 4 (p + j)), by omega, w5⟩
          · intro j hj
            rw [SL] at hj
            show schar cc j = (uI (uI μb 2 (274 + 7 * x) v) 2 0 (nI (x + 1))).1 2 (274 + 7 * x + 1 + j) ∧ rg ((uI (uI μb 2 (274 + 7 * x) v) 2 0 (nI (x + 1))).1 2 (274 + 7 * x + 1 + j)) 97 122
            rw [uI_at, if_neg (fun z => absurd z.2 (by omega)), uI_at, if_neg (fun z => absurd z.2 (by omega)), em, l1.2.2.2 j (by omega), SC j hj]
            unfold ltr
            rw [if_pos hj]
            exact ⟨rfl, (hb (p + j) (by omega) (by omega)).2⟩
          · intro j hj hj6
            rw [SL] at hj
            show (uI (uI μb 2 (274 + 7 * x) v) 2 0 (nI (x + 1))).1 2 (274 + 7 * x + 1 + j) = 0
            rw [uI_at, if_neg (fun z => absurd z.2 (by omega)), uI_at, if_neg (fun z => absurd z.2 (by omega)), em, l1.2.2.2 j (by omega)]
            unfold ltr
            rw [if_neg (by omega)]
          · rw [uI_at, if_neg (fun z => absurd z.1 (by decide)), uI_at, if_neg (fun z => absurd z.1 (by decide)), c4.2.2.2.2 k (by omega), q3.2.2.2.2 k (by omega), (l1.1 0 (by decide)).1, f3.2.2.2.2 k (by omega)]
      · obtain ⟨ν2, μ2, n1, n2, n3, n4⟩ := fail_of f4 (3 : Int32) (by decide)
        rw [if_neg c, if_neg c, n1, n2, bnd_s, bnd_s, bnd_s, good_f n4.2.2, if_neg nff]
        exact ⟨false, ν2, μ2, rfl, rfl, Or.inr ⟨rfl, hG1.er n3 n4⟩⟩
    · obtain ⟨ν2, μ2, n1, n2, n3, n4⟩ := fail_of f4 (1 : Int32) (by decide)
      rw [if_neg nff, b2, n1, n2, bnd_s, bnd_s, bnd_s, good_f n4.2.2, if_neg nff, bnd_s, if_neg nff]
      exact ⟨false, ν2, μ2, rfl, rfl, Or.inr ⟨rfl, hG1.er n3 n4⟩⟩
  · have ex : x = 8 := by omega
    subst ex
    obtain ⟨ν2, μ2, f1, f2, f3, f4⟩ := fail_of hP (4 : Int32) (by decide)
    have hB := f4.2.2
    rw [if_neg (show ¬ nI 8 < (8 : Int32) by decide), if_pos (show nI 8 = (8 : Int32) from rfl), f1, f2, bnd_s, bnd_s]
    unfold g_X12_parseShip_J18
    rw [bd_goOn hB, bnd_s, bd_name hB, bnd_s, bnd_s, good_f hB, if_neg nff, bnd_s, if_neg nff]
    exact ⟨false, ν2, μ2, rfl, rfl, Or.inr ⟨rfl, hF.mw f3, f4⟩⟩
end SHC
