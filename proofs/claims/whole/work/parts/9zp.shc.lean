/-! PURE. Ships of a text. -/
section SHC
variable {ν0 μ0 ν μ : Mm} {len N : Nat}
theorem kd1 {b : Int32} (h : kdN b = 1) : rg b 97 122 := by
  unfold kdN at h
  split at h
  · assumption
  · split at h
    · exact absurd h (by decide)
    · split at h <;> exact absurd h (by decide)
theorem Fz.row {μ' : Mm} (h : Fz ν0 μ0 ν μ) (e : ∀ off, off ≠ 2 → Eq3 μ μ' off) (e2 : μ'.2 = μ.2) : Fz ν0 μ0 ν μ' := by
  obtain ⟨h1, h2, h3, h4, h5⟩ := h
  exact ⟨h1, fun off x y => (h2 off x y).tr (e off y), e2.trans h3, fun k hk => by rw [(e 0 (by decide)).1]; exact h4 k hk, by rw [e2]; exact h5⟩
theorem Ps.row {μ' : Mm} (h : Ps ν μ len) (e : ∀ off, off ≠ 2 → Eq3 μ μ' off) : Ps ν μ' len := h.cg rfl rfl (fun _ _ => rfl) (e 4 (by decide)).1 (fun k _ => by rw [(e 0 (by decide)).1])
theorem Dr.ship (h : Dr ν μ N) {x : Nat} (hx : cl (μ.1 2 0) = x) (hx8 : x < 8) {v : Int32} (rv : rg v 0 9999) {ν' μ' : Mm} (cν : ∀ off, 334 ≤ off → off < 661 → off ≠ 334 → off ≠ 334 + (6 + 2 * x) → off ≠ 334 + (6 + 2 * x) + 1 → Eq3 ν ν' off) (cf : ∀ k, k = 6 ∨ k = 7 ∨ k = 8 → ν'.1 661 k = ν.1 661 k) (c0 : ∀ k, k ≠ 5 → ν'.1 334 k = ν.1 334 k) (c5 : ν'.1 334 5 = nI (x + 1)) (ct : ν'.1 (334 + (6 + 2 * x)) 2 = v) (cp : ν'.2.1 (334 + (6 + 2 * x)) 3 = 0) (E : ∀ k, k ≠ 0 → (k < 274 + 7 * x ∨ 274 + 7 * x + 7 ≤ k) → μ'.1 2 k = μ.1 2 k) (m0 : μ'.1 2 0 = nI (x + 1)) (mt : μ'.1 2 (274 + 7 * x) = v) (hN : Nm (ν'.1 (334 + (6 + 2 * x)) 1) (ν'.1 (334 + (6 + 2 * x) + 1)) (fun k => μ'.1 2 (274 + 7 * x + 1 + k))) (mf : ∀ k, k = 14 ∨ k = 15 ∨ k = 16 → μ'.1 0 k = μ.1 0 k) : Dr ν' μ' (N + 1) := by
  obtain ⟨h1, h2, h3, h4⟩ := h
  obtain ⟨k1, k2, k3⟩ := cl_of h2.1.1
  have cx : cl (nI (x + 1)) = x + 1 := cl_nI (by omega)
  have F : ∀ k, k < 1377 ∧ k ≠ 0 ∧ (k < 274 + 7 * x ∨ 274 + 7 * x + 7 ≤ k) → μ'.1 2 k = μ.1 2 k := fun k hk => E k hk.2.1 hk.2.2
  refine ⟨?_, ?_, ?_, ?_⟩
  · refine h1.shipc (x := x) h2 hx8 (fun off g1 g2 g3 g4 g5 => cν off (by omega) (by omega) g3 g4 g5) (fun k g1 g2 g3 => c0 k g3) (c5.trans m0.symm) F (fun y hy => ?_) ⟨ct.trans mt.symm, cp, hN⟩ (fun y _ _ => rfl)
    rw [m0, cx] at hy
    omega
  · refine h2.shipc (x := x) hx8 F ?_ ?_ ?_
    · rw [m0]
      exact ⟨by rw [nI_toInt (by omega)]; omega, by rw [nI_toInt (by omega)]; omega⟩
    · rw [m0, nI_toInt (by omega)]
      omega
    · rw [mt]; exact rv
  · rw [E 4 (by decide) (by omega)]; exact h3
  · obtain ⟨fm, fw, fl, a1, ⟨b1, b2, b3⟩, ⟨c1, c2, c3⟩, d1, d2⟩ := h4
    refine ⟨fm, fw, fl, a1, ⟨?_, ?_, ?_⟩, ⟨?_, ?_, ?_⟩, ?_, ?_⟩
    · rw [cf 6 (by omega)]; exact b1
    · rw [cf 7 (by omega)]; exact b2
    · rw [cf 8 (by omega)]; exact b3
    · rw [mf 14 (by omega)]; exact c1
    · rw [mf 15 (by omega)]; exact c2
    · rw [mf 16 (by omega)]; exact c3
    · rw [m0, cx, E 6 (by decide) (by omega), E 7 (by decide) (by omega), E 1 (by decide) (by omega)]; omega
    · rw [E 1 (by decide) (by omega)]; exact d2
/-- k letters of the name are laid -/
def Lt (μ μ' : Mm) (x p q k : Nat) : Prop := (∀ off, off ≠ 2 → Eq3 μ μ' off) ∧ μ'.2 = μ.2 ∧ (∀ i, i < 274 + 7 * x + 1 ∨ 274 + 7 * x + 7 ≤ i → μ'.1 2 i = μ.1 2 i) ∧ ∀ j, j < k → μ'.1 2 (274 + 7 * x + 1 + j) = ltr μ p q j
theorem let_loop {x p q : Nat} (hx : x < 8) (hr : μ.2.2 0 3 = 2) (e8 : μ.1 0 8 = nI q) (e9 : μ.1 0 9 = nI p) (hpq : p ≤ q) (hq : q ≤ 800) (νa : Mm) : ∀ (d k : Nat), k + d = 6 → ∀ n, d + 1 ≤ n → ∀ μ', Lt μ μ' x p q k → ∃ r m, Lt μ r x p q 6 ∧ g_X12_parseShip_L56 νa n μ' (nI x) (nI k) = g_X12_parseShip_L56 νa (m + 1) r (nI x) (nI 6) := by
  intro d
  induction d with
  | zero =>
    intro k hk n hn μ' h
    obtain ⟨n, rfl, -⟩ := succ_n hn
    have ek : k = 6 := by omega
    subst ek
    exact ⟨μ', n, h, rfl⟩
  | succ d ih =>
    intro k hk n hn μ' h
    obtain ⟨n, rfl, hn2⟩ := succ_n hn
    obtain ⟨g1, g2, g3, g4⟩ := h
    have z0 := (g1 0 (by decide)).1
    have z4 := (g1 4 (by decide)).1
    have lt : ltr μ' p q k = ltr μ p q k := by
      unfold ltr
      rw [z4]
    obtain ⟨r, m, r1, r2⟩ := ih (k + 1) (by omega) n hn2 (uI μ' 2 (274 + 7 * x + 1 + k) (ltr μ p q k)) ⟨fun off ho => (g1 off ho).I ho, g2, fun i hi => by
      rw [uI_at, if_neg (fun z => absurd z.2 (by omega))]
      exact g3 i hi, fun j hj => by
      rw [uI_at]
      by_cases e : j = k
      · rw [if_pos ⟨rfl, by omega⟩, e]
      · rw [if_neg (fun z => absurd z.2 (by omega))]
        exact g4 j (by omega)⟩
    refine ⟨r, m, r1, ?_⟩
    rw [← r2]
    conv => lhs; unfold g_X12_parseShip_L56
    rw [if_neg (show ¬ (6 : Int32) ≤ nI k by rw [le32, nI_toInt (by omega)]; show ¬ (6 : Int) ≤ (k : Int); omega), g2, hr, asr_pos row2, letter_of (μ := μ') hpq hq (by rw [z0]; exact e8) (by rw [z0]; exact e9) (by omega), bnd_s, lt, show (((274 : Int32) + ((7 : Int32) * nI x)) + (1 : Int32)) + nI k = nI (274 + 7 * x + 1 + k) from by rw [show (274 : Int32) = nI 274 from rfl, show (7 : Int32) = nI 7 from rfl, show (1 : Int32) = nI 1 from rfl, nI_mul, nI_add, nI_add, nI_add], asr_pos (vp_in_nI (by omega) (by decide)), cl_nI (by omega), bnd_s, nI1]
/-- k letters of the class's row are laid -/
def Tn (ν ν' : Mm) (o p k : Nat) : Prop := (∀ off, off ≠ o + 1 → Eq3 ν ν' off) ∧ ν'.2 = ν.2 ∧ ∀ j, j < k → ν'.1 (o + 1) j = ν.1 3 (p + j)
theorem by8_rl {x : Int32} (h : rg x 97 122) : vp_nar .byte x.toInt8.toInt32 = x := by
  have h1 : ∀ d, d < 128 → vp_nar .byte (nI d).toInt8.toInt32 = nI d := by decide +kernel
  obtain ⟨a1, a2⟩ := h
  obtain ⟨w5, w6, w7⟩ := cl_of (x := x) (hi := 122) ⟨by omega, a2⟩
  rw [w5]
  exact h1 _ (by omega)
theorem tn_loop {o p m : Nat} {a3 : Int32} (ho7 : 7 ≤ o) (hm : m ≤ 6) (hp : p + m ≤ len) (hlen : len ≤ 800) (e : ν.1 1 2 = nI len) (e1 : ν.1 o 1 = nI m) (hb : ∀ j, j < m → rg (ν.1 3 (p + j)) 97 122) (νa : Mm) : ∀ (d k : Nat), k + d = m → ∀ n, d + 1 ≤ n → ∀ ν', Tn ν ν' o p k → ∃ r, g_X9_takeName_L15 νa o 1 (nI p) a3 n ν' (nI k) = some r ∧ Tn ν r o p m := by
  intro d
  induction d with
  | zero =>
    intro k hk n hn ν' h
    obtain ⟨n, rfl, -⟩ := succ_n hn
    have ek : k = m := by omega
    subst ek
    refine ⟨ν', ?_, h⟩
    have e1' : ν'.1 o 1 = nI k := by rw [(h.1 o (by omega)).1]; exact e1
    unfold g_X9_takeName_L15
    rw [e1', if_pos (by rw [le32, nI_toInt (by omega)]; omega)]
  | succ d ih =>
    intro k hk n hn ν' h
    obtain ⟨n, rfl, hn2⟩ := succ_n hn
    obtain ⟨g1, g2, g3⟩ := h
    have e' : ν'.1 1 2 = nI len := by rw [(g1 1 (by omega)).1]; exact e
    have e1' : ν'.1 o 1 = nI m := by rw [(g1 o (by omega)).1]; exact e1
    have B : g_X1_byteAt ν' 1 (nI (p + k)) = some (ν.1 3 (p + k)) := by
      rw [bA1 (by omega) hlen e', (g1 3 (by omega)).1]
    obtain ⟨r, r1, r2⟩ := ih (k + 1) (by omega) n hn2 (uI ν' (o + 1) k (ν.1 3 (p + k))) ⟨fun off ho => (g1 off ho).I ho, g2, fun j hj => by
      rw [uI_at]
      by_cases e9 : j = k
      · rw [if_pos ⟨rfl, e9⟩, e9]
      · rw [if_neg (fun z => e9 z.2)]
        exact g3 j (by omega)⟩
    refine ⟨r, ?_, r2⟩
    unfold g_X9_takeName_L15
    rw [e1', if_neg (by rw [le32, nI_toInt (by omega), nI_toInt (by omega)]; omega), nI_add, B, bnd_s, asr_pos (vp_in_nI (by omega) (by decide)), cl_nI (by omega), by8_rl (hb k (by omega)), bnd_s, nI1]
    exact r1
theorem tn_of {o p q : Nat} (ho : isShip o) (hpq : p < q) (h6 : q ≤ p + 6) (hql : q ≤ len) (hlen : len ≤ 800) (e : ν.1 1 2 = nI len) (hb : ∀ k, p ≤ k → k < q → rg (ν.1 3 k) 97 122) : ∃ r, g_X9_takeName ν o 1 (nI p) (nI q) = some r ∧ (∀ off, off ≠ o → off ≠ o + 1 → Eq3 ν r off) ∧ r.2 = ν.2 ∧ r.1 o 1 = nI (q - p) ∧ ∀ j, j < q - p → r.1 (o + 1) j = ν.1 3 (p + j) := by
  have ho7 := (lt_Ship ho).2
  have es : nI q - nI p = nI (q - p) := by
    have := nI_sub (q - p) p
    rw [Nat.sub_add_cancel (by omega)] at this
    exact this
  have em : imin (nI (q - p)) (6 : Int32) = nI (q - p) := by
    have t6 : ((6 : Int32)).toInt = 6 := rfl
    have t7 := nI_toInt (n := q - p) (by omega)
    unfold imin
    rw [if_neg (by rw [lt32, t7]; omega)]
  unfold g_X9_takeName
  rw [asr_pos ho, asr_pos (show isByt 1 from Or.inl rfl), es, em, bnd_s]
  have u3 : ∀ j, (uI ν o 1 (nI (q - p))).1 3 j = ν.1 3 j := fun j => by rw [uI_at, if_neg (fun z => absurd z.1 (by omega))]
  obtain ⟨r, r1, r2, r3, r4⟩ := tn_loop (ν := uI ν o 1 (nI (q - p))) (o := o) (p := p) (m := q - p) (len := len) (a3 := nI q) ho7 (by omega) (by omega) hlen (by rw [uI_at, if_neg (fun z => absurd z.1 (by omega))]; exact e) (by rw [uI_at, if_pos ⟨rfl, rfl⟩]) (fun j hj => by rw [u3]; exact hb (p + j) (by omega) (by omega)) ν (q - p) 0 (by omega) 10000 (by omega) (uI ν o 1 (nI (q - p))) ⟨fun off _ => Eq3.rf _ off, rfl, fun j hj => absurd hj (by omega)⟩
  exact ⟨r, r1, fun off h1 h2 => ((Eq3.rf ν off).I h1).tr (r2 off h2), r3, by rw [(r2 o (by omega)).1, uI_at, if_pos ⟨rfl, rfl⟩], fun j hj => by rw [r4 j hj, u3]⟩
theorem ship_st (h : Gd ν0 μ0 len N ν μ) : Out ν0 μ0 len (N + 1) (g_X7_shipStatement ν) (g_X12_parseShip μ) := by
  obtain ⟨hF, hP, hD⟩ := id h
  obtain ⟨h1, h2, h3, h4⟩ := id hD
  have r2 : μ.2.2 0 3 = 2 := hF.2.2.2.2
  obtain ⟨k1, k2, k3⟩ := cl_of h2.1.1
  generalize hx : cl (μ.1 2 0) = x at k1 k2 k3
  have ct : ν.1 334 5 = nI x := h1.1.1.trans k1
  have t8 : ((8 : Int32)).toInt = 8 := rfl
  unfold g_X7_shipStatement g_X12_parseShip
  rw [ct, r2, asr_pos row2, k1]
  by_cases g : x < 8
  · rw [if_pos (show nI x < (8 : Int32) by rw [lt32, nI_toInt (by omega), t8]; omega), if_neg (show ¬ nI x = (8 : Int32) from fun z => absurd ((nI_eq (b := 8) (by omega) (by decide)).mp z) (by omega))]
    obtain ⟨ν1, μ1, f1, f2, f3, f4, -⟩ := rd_of hP
    have hG1 : Gd ν0 μ0 len N ν1 μ1 := h.mw f3 f4
    have gd := f4.2.2.2.2.1
    have l8 := f4.1.2.2.1
    unfold g_X12_parseShip_J18
    rw [f1, f2, bnd_s, bnd_s]
    obtain ⟨b, b1, b2⟩ := name_of f4
    rw [b1, bnd_s]
    rcases b2 with ⟨rfl, b2, p, q, p1, p2, p3, a1, a2, a3, a4, a5⟩ | ⟨rfl, b2⟩
    · have hb : ∀ k, p ≤ k → k < q → ν1.1 3 k = μ1.1 4 k ∧ rg (μ1.1 4 k) 97 122 := fun k c1 c2 => ⟨(f4.1.2.2.2 k (by omega)).1, kd1 (a5 k c1 c2)⟩
      obtain ⟨z, z1, z2, z3⟩ := named_of (L := 334) (R := 2) hG1.2.2.1 hG1.2.2.2.1.1.1 led334 hG1.1.2.2.2.2 row2 p1 p3 l8 f4.1.1 a4 a3 hb
      rw [if_pos (show true = true from rfl), b2, bnd_s, bnd_s, good_t gd, if_pos (show true = true from rfl), a1, a2, z1, z2, bnd_s, bnd_s]
      by_cases c : z = -1
      · rw [if_pos c, if_pos c, bnd_s, if_pos (show true = true from rfl)]
        obtain ⟨μ2, m, l1, l2⟩ := let_loop (x := x) g hG1.1.2.2.2.2 a4 a3 (by omega) (by omega) μ 6 0 (by omega) 10000 (by omega) μ1 ⟨fun off _ => Eq3.rf μ1 off, rfl, fun _ _ => rfl, fun j hj => absurd hj (by omega)⟩
        have l2' : g_X12_parseShip_L56 μ 10000 μ1 (nI x) (0 : Int32) = g_X12_parseShip_L56 μ (m + 1) μ2 (nI x) (nI 6) := l2
        rw [l2']
        unfold g_X12_parseShip_L56
        rw [if_pos (show (6 : Int32) ≤ nI 6 by decide)]
        obtain ⟨ν3, μ3, q1, q2, q3, q4, -⟩ := rd_of (f4.row l1.1)
        have hF3 : Fz ν0 μ0 ν3 μ3 := (hG1.1.row l1.1 l1.2.1).mw q3
        rw [q1, q2, bnd_s, bnd_s, hF3.2.2.2.2, asr_pos row2]
        have ix : ((274 : Int32) + ((7 : Int32) * nI x)) + (0 : Int32) = nI (274 + 7 * x) := by
          rw [show (274 : Int32) = nI 274 from rfl, show (7 : Int32) = nI 7 from rfl, show (0 : Int32) = nI 0 from rfl, nI_mul, nI_add, nI_add, Nat.add_zero]
        rcases na_of q4 1936617332 (lo := (1 : Int32)) (hi := (9999 : Int32)) (by decide) with ⟨νa, νb, v, μb, c1, c2, c3, c4, c5, c6, c7, -⟩ | ⟨νb, v, μb, c1, c2, c3, c4⟩
        rotate_left
        · have hE : Er ν0 μ0 νb μb := ⟨hF3.mw c3, c4⟩
          rw [c2, bnd_s, ix, asr_pos (vp_in_nI (by omega) (by decide)), cl_nI (by omega), bnd_s, bnd_s, good_f (μ := uI μb 2 (274 + 7 * x) v) c4.2.2, if_neg nff]
          rcases c1 with c1 | ⟨νa, c1, d1⟩
          · rw [c1, bnd_s, if_neg (show ¬ (false, νb).1 = true from nff)]
            exact ⟨false, νb, _, rfl, rfl, Or.inr ⟨rfl, hE.M2⟩⟩
          · rw [c1, bnd_s, if_pos (show (true, νa).1 = true from rfl), d1, bnd_s, if_neg (show ¬ (false, νb).1 = true from nff)]
            exact ⟨false, νb, _, rfl, rfl, Or.inr ⟨rfl, hE.M2⟩⟩
        have hFb : Fz ν0 μ0 νb μb := hF3.mw c4
        have gb : μb.1 0 12 = 0 := c5.2.2.2.2.1
        rw [c3, bnd_s, ix, asr_pos (vp_in_nI (by omega) (by decide)), cl_nI (by omega), bnd_s, bnd_s, good_t (μ := uI μb 2 (274 + 7 * x) v) gb, if_pos (show true = true from rfl), show (uI μb 2 (274 + 7 * x) v).2.2 0 3 = 2 from hFb.2.2.2.2, asr_pos row2, bnd_s]
        -- the class lays the ship
        have B3 : νb.1 3 = ν1.1 3 := by rw [(c4.1 3 (by decide)).1, (q3.1 3 (by decide)).1]
        have B1 : νb.1 1 2 = nI len := c5.1.1
        have hbb : ∀ k, p ≤ k → k < q → rg (νb.1 3 k) 97 122 := fun k h1 h2 => by
          rw [B3, (hb k h1 h2).1]
          exact (hb k h1 h2).2
        obtain ⟨νt, t1, t2, t3, t4, t5⟩ := tn_of (ν := νb) (o := 334 + (6 + 2 * x)) (mk_Ship led334 g) p1 p2 p3 l8 B1 hbb
        have e5 : νb.1 334 5 = nI x := by rw [(c4.1 334 (by decide)).1, (q3.1 334 (by decide)).1, (f3.1 334 (by decide)).1]; exact ct
        have sh326 : ¬ 334 = 334 + (6 + 2 * x) := by omega
        have NS : g_X5_newShip νb 334 1 (nI p) (nI q) v = some (nI x, uI (uP (uI νt (334 + (6 + 2 * x)) 2 v) (334 + (6 + 2 * x)) 3 0) 334 5 (nI (x + 1))) := by
          unfold g_X5_newShip
          rw [asr_pos led334, asr_pos (show isByt 1 from Or.inl rfl), e5, asr_pos (vp_in_nI g (by decide)), cl_nI (by omega), t1, bnd_s, bnd_s, bnd_s, show (uP (uI νt (334 + (6 + 2 * x)) 2 v) (334 + (6 + 2 * x)) 3 0).1 334 5 = nI x from by rw [uP_1, uI_at, if_neg (fun z => sh326 z.1), (t2 334 (by omega) (by omega)).1]; exact e5, nI1, bnd_s]
        have Ef : ∀ off, off ≠ 334 + (6 + 2 * x) → off ≠ 334 + (6 + 2 * x) + 1 → off ≠ 334 → Eq3 νb (uI (uP (uI νt (334 + (6 + 2 * x)) 2 v) (334 + (6 + 2 * x)) 3 0) 334 5 (nI (x + 1))) off := fun off h1 h2 h3 => (((t2 off h1 h2).I h1).P h1).I h3
        rw [c1, bnd_s, if_pos (show (true, νa).1 = true from rfl), c2, bnd_s, if_pos (show (true, νb).1 = true from rfl)]
        dsimp only
        rw [c6, NS, bnd_s]
        have em : ∀ k, μb.1 2 k = μ2.1 2 k := fun k => by rw [(c4.2.2.1 2 (by decide)).1, (q3.2.2.1 2 (by decide)).1]
        have e0 : (uI μb 2 (274 + 7 * x) v).1 2 0 = nI x := by
          rw [uI_at, if_neg (fun z => absurd z.2 (by omega)), em, l1.2.2.1 0 (by omega), (f3.2.2.1 2 (by decide)).1]
          exact k1
        rw [e0, nI1]
        have hPf : Ps (uI (uP (uI νt (334 + (6 + 2 * x)) 2 v) (334 + (6 + 2 * x)) 3 0) 334 5 (nI (x + 1))) (uI (uI μb 2 (274 + 7 * x) v) 2 0 (nI (x + 1))) len :=
          c5.M2.M2.cg (Ef 1 (by omega) (by omega) (by omega)).1 (Ef 3 (by omega) (by omega) (by omega)).1 (fun k hk => by rw [(Ef 661 (by omega) (by omega) (by omega)).1]) rfl (fun _ _ => rfl)
        refine ⟨true, _, _, rfl, rfl, Or.inl ⟨rfl, ⟨?_, ?_, hFb.2.2.1, ?_, hFb.2.2.2.2⟩, hPf, ?_⟩⟩
        · exact fun off ho => (hFb.1 off ho).tr (Ef off (by omega) (by omega) (by omega))
        · exact hFb.M2.M2.2.1
        · exact hFb.M2.M2.2.2.2.1
        · refine hD.ship hx g (v := v) ⟨Int.le_trans (by decide) c7.1, c7.2⟩ (fun off g1 g2 g3 g4 g5 => ?_) (fun k hk => ?_) (fun k hk => ?_) ?_ ?_ ?_ (fun k g1 g2 => ?_) ?_ ?_ ?_ (fun k hk => ?_)
          · exact (((f3.1 off (by omega)).tr (q3.1 off (by omega))).tr (c4.1 off (by omega))).tr (Ef off g4 g5 g3)
          · rw [(Ef 661 (by omega) (by omega) (by omega)).1, c4.2.1.2 k hk, q3.2.1.2 k hk, f3.2.1.2 k hk]
          · rw [uI_at, if_neg (fun z => hk z.2), uP_1, uI_at, if_neg (fun z => sh326 z.1), (t2 334 (by omega) (by omega)).1, (c4.1 334 (by decide)).1, (q3.1 334 (by decide)).1, (f3.1 334 (by decide)).1]
          · rw [uI_at, if_pos ⟨rfl, rfl⟩]
          · rw [uI_at, if_neg (fun z => sh326 z.1.symm), uP_1, uI_at, if_pos ⟨rfl, rfl⟩]
          · rw [uI_21, uP_at, if_pos ⟨rfl, rfl⟩]
          · rw [uI_at, if_neg (fun z => g1 z.2), uI_at, if_neg (fun z => absurd z.2 (by omega)), em, l1.2.2.1 k (by omega), (f3.2.2.1 2 (by decide)).1]
          · rw [uI_at, if_pos ⟨rfl, rfl⟩]
          · rw [uI_at, if_neg (fun z => absurd z.2 (by omega)), uI_at, if_pos ⟨rfl, rfl⟩]
          · have n1 : (uI (uP (uI νt (334 + (6 + 2 * x)) 2 v) (334 + (6 + 2 * x)) 3 0) 334 5 (nI (x + 1))).1 (334 + (6 + 2 * x)) 1 = nI (q - p) := by
              rw [uI_at, if_neg (fun z => sh326 z.1.symm), uP_1, uI_at, if_neg (fun z => absurd z.2 (by decide))]
              exact t4
            have n2 : (uI (uP (uI νt (334 + (6 + 2 * x)) 2 v) (334 + (6 + 2 * x)) 3 0) 334 5 (nI (x + 1))).1 (334 + (6 + 2 * x) + 1) = νt.1 (334 + (6 + 2 * x) + 1) := ((((Eq3.rf νt _).I (by omega)).P (by omega)).I (by omega)).1
            rw [n1, n2]
            have row : ∀ j, j < 6 → (uI (uI μb 2 (274 + 7 * x) v) 2 0 (nI (x + 1))).1 2 (274 + 7 * x + 1 + j) = ltr μ1 p q j := fun j hj => by
              rw [uI_at, if_neg (fun z => absurd z.2 (by omega)), uI_at, if_neg (fun z => absurd z.2 (by omega)), em, l1.2.2.2 j hj]
            refine ⟨q - p, by omega, by omega, rfl, fun j hj => ?_, fun j hj hj6 => ?_⟩
            · show νt.1 (334 + (6 + 2 * x) + 1) j = (uI (uI μb 2 (274 + 7 * x) v) 2 0 (nI (x + 1))).1 2 (274 + 7 * x + 1 + j) ∧ rg ((uI (uI μb 2 (274 + 7 * x) v) 2 0 (nI (x + 1))).1 2 (274 + 7 * x + 1 + j)) 97 122
              rw [row j (by omega), t5 j hj, B3]
              unfold ltr
              rw [if_pos hj]
              exact hb (p + j) (by omega) (by omega)
            · show (uI (uI μb 2 (274 + 7 * x) v) 2 0 (nI (x + 1))).1 2 (274 + 7 * x + 1 + j) = 0
              rw [row j hj6]
              unfold ltr
              rw [if_neg (by omega)]
          · rw [uI_at, if_neg (fun z => absurd z.1 (by decide)), uI_at, if_neg (fun z => absurd z.1 (by decide)), c4.2.2.2.2 k (by omega), q3.2.2.2.2 k (by omega), (l1.1 0 (by decide)).1, f3.2.2.2.2 k (by omega)]
      · obtain ⟨ν2, μ2, n1, n2, n3, n4⟩ := fail_of f4 (3 : Int32) (by decide)
        rw [if_neg c, if_neg c, n1, n2, bnd_s, bnd_s, bnd_s, good_f n4.2.2, if_neg nff]
        exact ⟨false, ν2, μ2, rfl, rfl, Or.inr ⟨rfl, hG1.er n3 n4⟩⟩
    · obtain ⟨ν2, μ2, n1, n2, n3, n4⟩ := fail_of f4 (1 : Int32) (by decide)
      rw [if_neg nff, b2, n1, n2, bnd_s, bnd_s, bnd_s, good_f n4.2.2, if_neg nff, bnd_s, if_neg nff]
      exact ⟨false, ν2, μ2, rfl, rfl, Or.inr ⟨rfl, hG1.er n3 n4⟩⟩
  · have ex : x = 8 := by omega
    subst ex
    obtain ⟨ν2, μ2, f1, f2, f3, f4⟩ := fail_of hP (4 : Int32) (by decide)
    have hB := f4.2.2
    rw [if_neg (show ¬ nI 8 < (8 : Int32) by decide), if_pos (show nI 8 = (8 : Int32) from rfl), f1, f2, bnd_s, bnd_s]
    unfold g_X12_parseShip_J18
    rw [bd_goOn hB, bnd_s, bd_name hB, bnd_s, bnd_s, good_f hB, if_neg nff, bnd_s, if_neg nff]
    exact ⟨false, ν2, μ2, rfl, rfl, Or.inr ⟨rfl, hF.mw f3, f4⟩⟩
end SHC
