/-! PURE. What is written. -/
def OuS (ν0 μ0 ν μ : Mm) (len : Nat) : Prop := (∀ off, off ≠ 4 → off ≠ 5 → off ≠ 6 → Eq3 ν0 ν off) ∧ (∀ off, off ≠ 0 → off ≠ 7 → Eq3 μ0 μ off) ∧ (∀ k, k ≠ 21 → μ.1 0 k = μ0.1 0 k) ∧ μ.2 = μ0.2 ∧ ν.1 4 2 = nI len ∧ μ.1 0 21 = nI len ∧ ∀ k, k < len → ν.1 6 k = μ.1 7 k
/-- both write the same, at most L bytes -/
def Wrs (ν0 μ0 : Mm) (len L : Nat) (c m : Option Mm) : Prop := ∃ ν' μ' len', c = some ν' ∧ m = some μ' ∧ len' ≤ len + L ∧ OuS ν0 μ0 ν' μ' len'
theorem wr_le {μ : Mm} {len : Nat} {x : Int32} (e : μ.1 0 21 = nI len) (h : len < 3000) : g_X12_write μ x = some (uI (uI μ 7 len (by8 x)) 0 21 (nI (len + 1))) := by
  unfold g_X12_write
  rw [e, asr_pos (vp_in_nI h (by decide)), bnd_s, bnd_s, cl_nI (by omega), uI_at, if_neg (fun z => absurd z.1 (by decide)), e, nI1]
  rfl
theorem OuS.step {ν0 μ0 ν μ : Mm} {len : Nat} (h : OuS ν0 μ0 ν μ len) (b : Int32) : OuS ν0 μ0 (uI (uI ν 6 len b) 4 2 (nI (len + 1))) (uI (uI μ 7 len b) 0 21 (nI (len + 1))) (len + 1) := by
  obtain ⟨h1, h2, h3, h4, h5, h6, h7⟩ := h
  refine ⟨fun off g1 g2 g3 => ((h1 off g1 g2 g3).I g3).I g1, fun off g1 g2 => ((h2 off g1 g2).I g2).I g1, fun k hk => ?_, h4, ?_, ?_, fun k hk => ?_⟩
  · rw [uI_at, if_neg (fun z => hk z.2), uI_at, if_neg (fun z => absurd z.1 (by decide))]
    exact h3 k hk
  · rw [uI_at, if_pos ⟨rfl, rfl⟩]
  · rw [uI_at, if_pos ⟨rfl, rfl⟩]
  · have ea : (uI (uI ν 6 len b) 4 2 (nI (len + 1))).1 6 k = if k = len then b else ν.1 6 k := by
      rw [uI_at, if_neg (fun z => absurd z.1 (by decide)), uI_at]
      simp only [true_and]
    have eb : (uI (uI μ 7 len b) 0 21 (nI (len + 1))).1 7 k = if k = len then b else μ.1 7 k := by
      rw [uI_at, if_neg (fun z => absurd z.1 (by decide)), uI_at]
      simp only [true_and]
    rw [ea, eb]
    by_cases e : k = len
    · rw [if_pos e, if_pos e]
    · rw [if_neg e, if_neg e]
      exact h7 k (by omega)
theorem b4 : isByt 4 := Or.inr rfl
theorem put4 {ν0 μ0 ν μ : Mm} {len : Nat} (h : OuS ν0 μ0 ν μ len) (hl : len < 1400) (x : Int32) : g_X1_put ν 4 x = some (uI (uI ν 6 len (by8 x)) 4 2 (nI (len + 1))) := put_of b4 h.2.2.2.2.1 hl
theorem wr_put {ν0 μ0 ν μ : Mm} {len : Nat} (h : OuS ν0 μ0 ν μ len) (hl : len < 1400) {x y : Int32} (e : by8 x = by8 y) : Wrs ν0 μ0 len 1 (g_X1_put ν 4 x) (g_X12_write μ y) := by
  refine ⟨_, _, len + 1, put4 h hl x, wr_le h.2.2.2.2.2.1 (by omega), Nat.le_refl _, ?_⟩
  rw [e]
  exact h.step (by8 y)
theorem wr_text {ν0 μ0 : Mm} {c : Nat} : ∀ (d k : Nat), k + d = slen c → ∀ n m, d + 1 ≤ n → d + 1 ≤ m → ∀ {ν μ νa μa : Mm} {len : Nat}, OuS ν0 μ0 ν μ len → len + d ≤ 1400 → Wrs ν0 μ0 len d (g_X1_putText_L2 νa 4 c n ν (nI k)) (g_X12_writeText_L2 μa c m μ (nI k)) := by
  have hs := slen_le c
  intro d
  induction d with
  | zero =>
    intro k hk n m hn hm ν μ νa μa len h hl
    obtain ⟨n, rfl, -⟩ := succ_n hn
    obtain ⟨m, rfl, -⟩ := succ_n hm
    have g : nI (slen c) ≤ nI k := by rw [le32, nI_toInt (by omega), nI_toInt (by omega)]; omega
    refine ⟨ν, μ, len, ?_, ?_, Nat.le_refl _, h⟩
    · unfold g_X1_putText_L2
      rw [if_pos g]
    · unfold g_X12_writeText_L2
      rw [if_pos g]
  | succ d ih =>
    intro k hk n m hn hm ν μ νa μa len h hl
    obtain ⟨n, rfl, hn2⟩ := succ_n hn
    obtain ⟨m, rfl, hm2⟩ := succ_n hm
    have g : ¬ nI (slen c) ≤ nI k := by rw [le32, nI_toInt (by omega), nI_toInt (by omega)]; omega
    obtain ⟨ν', μ', l', g1, g2, g3, g4⟩ := ih (k + 1) (by omega) n m hn2 hm2 (νa := νa) (μa := μa) (h.step (by8 (schar c k))) (by omega)
    refine ⟨ν', μ', l', ?_, ?_, by omega, g4⟩
    · unfold g_X1_putText_L2
      rw [if_neg g, asr_pos (vp_in_nI (by omega) (by omega)), cl_nI (by omega), put4 h (by omega), bnd_s, nI1]
      exact g1
    · unfold g_X12_writeText_L2
      rw [if_neg g, asr_pos (vp_in_nI (by omega) (by omega)), cl_nI (by omega), wr_le h.2.2.2.2.2.1 (by omega), bnd_s, nI1]
      exact g2
theorem wr_txt {ν0 μ0 ν μ : Mm} {len c : Nat} (h : OuS ν0 μ0 ν μ len) (hl : len + slen c ≤ 1400) : Wrs ν0 μ0 len (slen c) (g_X1_putText ν 4 c) (g_X12_writeText μ c) := by
  have hs := slen_le c
  unfold g_X1_putText g_X12_writeText
  rw [asr_pos b4]
  exact wr_text (slen c) 0 (by omega) 10000 10000 (by omega) (by omega) h hl
theorem wr_name {ν0 μ0 : Mm} {o s m6 : Nat} (ho : 7 ≤ o) (hs8 : s < 8) (c2 : m6 ≤ 6) (c3 : ν0.1 o 1 = nI m6) (c4 : ∀ k, k < m6 → ν0.1 (o + 1) k = μ0.1 1 (274 + 7 * s + 1 + k) ∧ rg (μ0.1 1 (274 + 7 * s + 1 + k)) 97 122) (c5 : ∀ k, m6 ≤ k → k < 6 → μ0.1 1 (274 + 7 * s + 1 + k) = 0) : ∀ (d k : Nat), k + d = m6 → ∀ n m, d + 1 ≤ n → d + 1 ≤ m → ∀ {ν μ νa μa : Mm} {len : Nat}, OuS ν0 μ0 ν μ len → len + d ≤ 1400 → Wrs ν0 μ0 len d (g_X8_shipName_L2 νa o n ν (nI k)) (g_X12_writeName_L2 μa (nI s) m μ (nI k)) := by
  have rd : ∀ (μ : Mm) (k : Nat), k < 6 → μ.1 1 = μ0.1 1 → f_X12_ofShip μ (nI s) ((1 : Int32) + nI k) = μ0.1 1 (274 + 7 * s + 1 + k) := fun μ k hk e => by
    show μ.1 1 (274 + 7 * cl (nI s) + cl ((1 : Int32) + nI k)) = _
    rw [e, show (1 : Int32) = nI 1 from rfl, nI_add, cl_nI (by omega), cl_nI (by omega), Nat.add_assoc (274 + 7 * s)]
  have r1 : ∀ {ν μ : Mm} {len : Nat}, OuS ν0 μ0 ν μ len → ν.1 o 1 = nI m6 := fun h => by
    rw [(h.1 o (by omega) (by omega) (by omega)).1]
    exact c3
  have r2 : ∀ {ν μ : Mm} {len k : Nat}, OuS ν0 μ0 ν μ len → k < m6 → vp_nar .byte (ν.1 (o + 1) k) = μ0.1 1 (274 + 7 * s + 1 + k) := fun h hk => by
    rw [(h.1 (o + 1) (by omega) (by omega) (by omega)).1, (c4 _ hk).1]
    exact nar_rg (c4 _ hk).2
  intro d
  induction d with
  | zero =>
    intro k hk n m hn hm ν μ νa μa len h hl
    obtain ⟨n, rfl, -⟩ := succ_n hn
    obtain ⟨m, rfl, -⟩ := succ_n hm
    have g : nI m6 ≤ nI k := by rw [le32, nI_toInt (by omega), nI_toInt (by omega)]; omega
    refine ⟨ν, μ, len, ?_, ?_, Nat.le_refl _, h⟩
    · unfold g_X8_shipName_L2
      rw [r1 h, if_pos g]
    · unfold g_X12_writeName_L2
      by_cases g6 : (6 : Int32) ≤ nI k
      · rw [if_pos g6]
      · have hk6 : k < 6 := by
          rw [le32, nI_toInt (by omega)] at g6
          have z6 : ((6 : Int32)).toInt = 6 := rfl
          omega
        rw [if_neg g6, asr_pos (vp_in_nI hs8 (by decide)), show (1 : Int32) + nI k = nI (1 + k) from nI_add 1 k, asr_pos (vp_in_nI (by omega) (by decide)), bnd_s, ← show (1 : Int32) + nI k = nI (1 + k) from nI_add 1 k, rd μ k hk6 (h.2.1 1 (by decide) (by decide)).1, if_pos (c5 k (by omega) hk6)]
  | succ d ih =>
    intro k hk n m hn hm ν μ νa μa len h hl
    obtain ⟨n, rfl, hn2⟩ := succ_n hn
    obtain ⟨m, rfl, hm2⟩ := succ_n hm
    have g : ¬ nI m6 ≤ nI k := by rw [le32, nI_toInt (by omega), nI_toInt (by omega)]; omega
    have g6 : ¬ (6 : Int32) ≤ nI k := by rw [le32, nI_toInt (by omega)]; show ¬ (6 : Int) ≤ (k : Int); omega
    obtain ⟨q1, q2⟩ := c4 k (by omega)
    obtain ⟨ν', μ', l', g1, g2, g3, g4⟩ := ih (k + 1) (by omega) n m hn2 hm2 (νa := νa) (μa := μa) (h.step (by8 (μ0.1 1 (274 + 7 * s + 1 + k)))) (by omega)
    refine ⟨ν', μ', l', ?_, ?_, by omega, g4⟩
    · unfold g_X8_shipName_L2
      rw [r1 h, if_neg g, asr_pos (vp_in_nI (by omega) (by decide)), cl_nI (by omega), r2 h (by omega), put4 h (by omega), bnd_s, nI1]
      exact g1
    · unfold g_X12_writeName_L2
      rw [if_neg g6, asr_pos (vp_in_nI hs8 (by decide)), show (1 : Int32) + nI k = nI (1 + k) from nI_add 1 k, asr_pos (vp_in_nI (by omega) (by decide)), bnd_s, ← show (1 : Int32) + nI k = nI (1 + k) from nI_add 1 k, rd μ k (by omega) (h.2.1 1 (by decide) (by decide)).1, if_neg (fun z => by
        have w : 97 ≤ (μ0.1 1 (274 + 7 * s + 1 + k)).toInt := q2.1
        rw [show μ0.1 1 (274 + 7 * s + 1 + k) = 0 from z] at w
        exact absurd w (by decide)), bnd_s, wr_le h.2.2.2.2.2.1 (by omega), bnd_s, nI1]
      exact g2
theorem wr_nm {ν0 μ0 ν μ : Mm} {len o s : Nat} (h : OuS ν0 μ0 ν μ len) (ho : isShip o) (hs8 : s < 8) (hN : Nm (ν0.1 o 1) (ν0.1 (o + 1)) (fun k => μ0.1 1 (274 + 7 * s + 1 + k))) (hl : len + 6 ≤ 1400) : Wrs ν0 μ0 len 6 (g_X8_shipName ν o) (g_X12_writeName μ (nI s)) := by
  obtain ⟨m6, c1, c2, c3, c4, c5⟩ := hN
  have ho7 := (lt_Ship ho).2
  unfold g_X8_shipName g_X12_writeName
  rw [asr_pos ho]
  obtain ⟨ν', μ', l', g1, g2, g3, g4⟩ := wr_name (ν0 := ν0) ho7 hs8 c2 c3 c4 c5 m6 0 (by omega) 10000 10000 (by omega) (by omega) (νa := ν) (μa := μ) h (by omega)
  exact ⟨ν', μ', l', g1, g2, by omega, g4⟩
/-! numbers -/
theorem dv64 {x p : Int64} {m b : Nat} (hx : x.toInt = (m : Int)) (hp : p.toInt = (b : Int)) : (x / p).toInt = ((m / b : Nat) : Int) := by
  have l1 := x.toInt_lt
  have e : (m : Int).tdiv (b : Int) = ((m / b : Nat) : Int) := by
    rw [Int.tdiv_eq_ediv_of_nonneg (by omega)]
    exact (Int.natCast_ediv m b).symm
  rw [Int64.toInt_div, hx, hp, e]
  have : m / b ≤ m := Nat.div_le_self m b
  generalize m / b = t at this ⊢
  exact bm64 (by omega) (by omega)
theorem md64 {x : Int64} {m : Nat} (hx : x.toInt = (m : Int)) : (x - x / (10 : Int64) * (10 : Int64)).toInt = ((m % 10 : Nat) : Int) := by
  have l1 := x.toInt_lt
  have d := dv64 hx (p := (10 : Int64)) (b := 10) rfl
  have t : ((10 : Int64)).toInt = 10 := rfl
  have e1 : (x / (10 : Int64) * (10 : Int64)).toInt = ((m / 10 : Nat) : Int) * 10 := by
    rw [Int64.toInt_mul, d, t]
    exact bm64 (by omega) (by omega)
  rw [tl_sub (by rw [e1]; omega) (by rw [e1]; omega), e1, hx]
  omega
theorem sm64 {x : Int64} {k : Nat} (hx : x.toInt = (k : Int)) (hk : k < 1000) : x.toInt32 = nI k := by
  rw [eq32, Int64.toInt_toInt32, hx, nI_toInt (by omega)]
  exact bm32 (by omega) (by omega)
theorem dg_c {x : Int64} {m : Nat} (hx : x.toInt = (m : Int)) : ((48 : Int64) + (x - x / (10 : Int64) * (10 : Int64))).toInt32 = nI (48 + m % 10) := by
  have d := md64 hx
  have t : ((48 : Int64)).toInt = 48 := rfl
  refine sm64 ?_ (by omega)
  rw [tl_add (by rw [d, t]; omega) (by rw [d, t]; omega), d, t]
  omega
theorem dg_m {x : Int64} {m : Nat} (hx : x.toInt = (m : Int)) : (48 : Int32) + ((x - x / (10 : Int64) * (10 : Int64)).toInt32) = nI (48 + m % 10) := by
  rw [sm64 (md64 hx) (by omega), show (48 : Int32) = nI 48 from rfl, nI_add]
theorem b88 : ∀ k : Fin 128, by8 (by8 (nI k.val)) = by8 (nI k.val) := by decide +kernel
/-- how many digits a number has -/
theorem dig_ex (m : Nat) : ∀ D : Nat, 1 ≤ D → m < 10 ^ D → ∃ c, 1 ≤ c ∧ c ≤ D ∧ m < 10 ^ c ∧ (c = 1 ∨ 10 ^ (c - 1) ≤ m) := by
  intro D
  induction D with
  | zero => intro h; exact absurd h (by omega)
  | succ D ih =>
    intro _ hm
    by_cases h0 : D = 0
    · subst h0
      exact ⟨1, by omega, by omega, hm, Or.inl rfl⟩
    · by_cases h : m < 10 ^ D
      · obtain ⟨c, c1, c2, c3, c4⟩ := ih (by omega) h
        exact ⟨c, c1, by omega, c3, c4⟩
      · exact ⟨D + 1, by omega, by omega, hm, Or.inr (by rw [Nat.add_sub_cancel]; omega)⟩
theorem pw18 {j : Nat} (h : j ≤ 18) : 10 ^ j ≤ 1000000000000000000 := by
  have : 10 ^ j ≤ 10 ^ 18 := Nat.pow_le_pow_right (by decide) h
  exact this
section NB
variable {ν0 μ0 : Mm} {m c : Nat}
/-- the class's digits, from below -/
theorem fill_of (hc : 1 ≤ c) (hc18 : c ≤ 18) (hm : m < 10 ^ c) (hm2 : c = 1 ∨ 10 ^ (c - 1) ≤ m) {νa : Mm} {v : Int64} {μ : Mm} {len : Nat} : ∀ (d k : Nat), k + 1 + d = c → ∀ n, d + 1 ≤ n → ∀ (ν : Mm) (x : Int64), OuS ν0 μ0 ν μ len → x.toInt = ((m / 10 ^ k : Nat) : Int) → (∀ j, j < k → ν.1 5 j = by8 (nI (48 + m / 10 ^ j % 10))) → ∃ r, OuS ν0 μ0 r μ len ∧ (∀ j, j < c → r.1 5 j = by8 (nI (48 + m / 10 ^ j % 10))) ∧ g_X1_putNumber_L28 νa 4 v n ν x (nI k) = g_X1_putNumber_L74 νa 4 v 10000 r (nI (c - 1)) := by
  intro d
  induction d with
  | zero =>
    intro k hk n hn ν x h hx hj
    obtain ⟨n, rfl, -⟩ := succ_n hn
    have ek : k = c - 1 := by omega
    have hs : OuS ν0 μ0 (uI ν 5 k (by8 (nI (48 + m / 10 ^ k % 10)))) μ len := by
      obtain ⟨h1, h2, h3, h4, h5, h6, h7⟩ := h
      exact ⟨fun off g1 g2 g3 => (h1 off g1 g2 g3).I g2, h2, h3, h4, by rw [(uI_o (show (4 : Nat) ≠ 5 by decide)).1]; exact h5, h6, fun q hq => by rw [(uI_o (show (6 : Nat) ≠ 5 by decide)).1]; exact h7 q hq⟩
    refine ⟨_, hs, fun j hjc => ?_, ?_⟩
    · rw [uI_at]
      by_cases e : j = k
      · rw [if_pos ⟨rfl, e⟩, e]
      · rw [if_neg (fun z => e z.2)]
        exact hj j (by omega)
    · have q0 : (x / (10 : Int64)).toInt = ((m / 10 ^ k / 10 : Nat) : Int) := dv64 hx (b := 10) rfl
      have z : m / 10 ^ k / 10 = 0 := by
        rw [Nat.div_div_eq_div_mul, ← Nat.pow_succ]
        exact Nat.div_eq_of_lt (by rw [ek, show (c - 1).succ = c by omega]; exact hm)
      have le : (x / (10 : Int64)) ≤ (0 : Int64) := by
        rw [Int64.le_iff_toInt_le, q0, z]
        decide
      conv => lhs; unfold g_X1_putNumber_L28
      rw [asr_pos (vp_in_nI (by omega) (by decide)), bnd_s, if_pos le, cl_nI (by omega), dg_c hx, nI1, nI_p1, ek]
      rfl
  | succ d ih =>
    intro k hk n hn ν x h hx hj
    obtain ⟨n, rfl, hn2⟩ := succ_n hn
    have hs : OuS ν0 μ0 (uI ν 5 k (by8 (nI (48 + m / 10 ^ k % 10)))) μ len := by
      obtain ⟨h1, h2, h3, h4, h5, h6, h7⟩ := h
      exact ⟨fun off g1 g2 g3 => (h1 off g1 g2 g3).I g2, h2, h3, h4, by rw [(uI_o (show (4 : Nat) ≠ 5 by decide)).1]; exact h5, h6, fun q hq => by rw [(uI_o (show (6 : Nat) ≠ 5 by decide)).1]; exact h7 q hq⟩
    have q0 : (x / (10 : Int64)).toInt = ((m / 10 ^ k / 10 : Nat) : Int) := dv64 hx (b := 10) rfl
    have q1 : m / 10 ^ k / 10 = m / 10 ^ (k + 1) := by rw [Nat.div_div_eq_div_mul, ← Nat.pow_succ]
    obtain ⟨r, r1, r2, r3⟩ := ih (k + 1) (by omega) n hn2 _ (x / (10 : Int64)) hs (by rw [q0, q1]) (fun j hjk => by
      rw [uI_at]
      by_cases e : j = k
      · rw [if_pos ⟨rfl, e⟩, e]
      · rw [if_neg (fun z => e z.2)]
        exact hj j (by omega))
    refine ⟨r, r1, r2, ?_⟩
    have pos : 0 < m / 10 ^ (k + 1) := by
      have hp : 10 ^ (k + 1) ≤ 10 ^ (c - 1) := Nat.pow_le_pow_right (by decide) (by omega)
      rcases hm2 with e | e
      · exact absurd e (by omega)
      · exact Nat.div_pos (Nat.le_trans hp e) (Nat.pow_pos (by decide))
    have nle : ¬ (x / (10 : Int64)) ≤ (0 : Int64) := by
      rw [Int64.le_iff_toInt_le, q0, q1]
      show ¬ ((m / 10 ^ (k + 1) : Nat) : Int) ≤ 0
      omega
    conv => lhs; unfold g_X1_putNumber_L28
    rw [asr_pos (vp_in_nI (by omega) (by decide)), bnd_s, if_neg nle, cl_nI (by omega), dg_c hx, nI1, if_pos (by rw [lt32, nI_toInt (by omega)]; show ((k + 1 : Nat) : Int) < 19; omega)]
    exact r3
/-- both write the digits, from above -/
theorem digs_of {νa μa : Mm} {v w x : Int64} (hx : x.toInt = (m : Int)) : ∀ (k : Nat), k ≤ 17 → ∀ n q, k + 2 ≤ n → k + 2 ≤ q → ∀ {ν μ : Mm} {len : Nat} {p : Int64}, OuS ν0 μ0 ν μ len → len + (k + 1) ≤ 1400 → p.toInt = ((10 ^ k : Nat) : Int) → (∀ j, j ≤ k → ν.1 5 j = by8 (nI (48 + m / 10 ^ j % 10))) → Wrs ν0 μ0 len (k + 1) (g_X1_putNumber_L74 νa 4 v n ν (nI k)) (g_X12_writeNumber_L54 μa w q μ x p) := by
  intro k
  induction k with
  | zero =>
    intro _ n q hn hq ν μ len p h hl hp hj
    obtain ⟨n, rfl, hn2⟩ := succ_n hn
    obtain ⟨q, rfl, hq2⟩ := succ_n hq
    obtain ⟨n, rfl, -⟩ := succ_n hn2
    obtain ⟨q, rfl, -⟩ := succ_n hq2
    have hp1 : p.toInt = 1 := hp
    have e0 : (x / p).toInt = ((m / 10 ^ 0 : Nat) : Int) := dv64 hx hp
    have s := h.step (by8 (nI (48 + m / 10 ^ 0 % 10)))
    refine ⟨_, _, len + 1, ?_, ?_, Nat.le_refl _, s⟩
    · unfold g_X1_putNumber_L74
      rw [if_neg (by decide), asr_pos (vp_in_nI (by decide) (by decide)), put4 h (by omega), bnd_s, show ν.1 (4 + 1) (cl (nI 0)) = by8 (nI (48 + m / 10 ^ 0 % 10)) from hj 0 (Nat.le_refl 0), b88 ⟨48 + m / 10 ^ 0 % 10, by omega⟩]
      unfold g_X1_putNumber_L74
      rw [if_pos (by decide)]
    · unfold g_X12_writeNumber_L54
      rw [if_neg (by rw [Int64.le_iff_toInt_le, hp1]; decide), asr_pos (fun z => by rw [z] at hp1; exact absurd hp1 (by decide)), dg_m e0, wr_le h.2.2.2.2.2.1 (by omega), bnd_s]
      unfold g_X12_writeNumber_L54
      have z : (p / (10 : Int64)).toInt = ((10 ^ 0 / 10 : Nat) : Int) := dv64 hp (b := 10) rfl
      rw [if_pos (by rw [Int64.le_iff_toInt_le, z]; decide)]
  | succ k ih =>
    intro hk n q hn hq ν μ len p h hl hp hj
    obtain ⟨n, rfl, hn2⟩ : ∃ n', n = n' + 1 ∧ k + 2 ≤ n' := ⟨n - 1, by omega, by omega⟩
    obtain ⟨q, rfl, hq2⟩ : ∃ n', q = n' + 1 ∧ k + 2 ≤ n' := ⟨q - 1, by omega, by omega⟩
    have pw := pw18 (j := k + 1) (by omega)
    have ppos : 0 < 10 ^ (k + 1) := Nat.pow_pos (by decide)
    have e0 : (x / p).toInt = ((m / 10 ^ (k + 1) : Nat) : Int) := dv64 hx hp
    have e1 : (p / (10 : Int64)).toInt = ((10 ^ k : Nat) : Int) := by
      rw [dv64 hp (p := (10 : Int64)) (b := 10) rfl, Nat.pow_succ, Nat.mul_div_cancel _ (by decide)]
    have s := h.step (by8 (nI (48 + m / 10 ^ (k + 1) % 10)))
    obtain ⟨ν', μ', l', g1, g2, g3, g4⟩ := ih (by omega) n q hn2 hq2 s (by omega) e1 (fun j hjk => by
      rw [uI_at, if_neg (fun z => absurd z.1 (by decide)), uI_at, if_neg (fun z => absurd z.1 (by decide))]
      exact hj j (by omega))
    refine ⟨ν', μ', l', ?_, ?_, by omega, g4⟩
    · unfold g_X1_putNumber_L74
      rw [if_neg (nI_nn (by omega)), asr_pos (vp_in_nI (by omega) (by decide)), put4 h (by omega), bnd_s, cl_nI (by omega), show ν.1 (4 + 1) (k + 1) = by8 (nI (48 + m / 10 ^ (k + 1) % 10)) from hj (k + 1) (Nat.le_refl _), b88 ⟨48 + m / 10 ^ (k + 1) % 10, by omega⟩, nI_m1, nI_p1]
      exact g1
    · unfold g_X12_writeNumber_L54
      rw [if_neg (by
        rw [Int64.le_iff_toInt_le, hp]
        show ¬ ((10 ^ (k + 1) : Nat) : Int) ≤ 0
        omega), asr_pos (fun z => by
        rw [z] at hp
        have : ((0 : Int64)).toInt = 0 := rfl
        omega), dg_m e0, wr_le h.2.2.2.2.2.1 (by omega), bnd_s]
      exact g2
/-- the model's highest place -/
theorem place_of (hc : 1 ≤ c) (hc18 : c ≤ 18) (hm : m < 10 ^ c) (hm2 : c = 1 ∨ 10 ^ (c - 1) ≤ m) {μa μ : Mm} {w x : Int64} (hx : x.toInt = (m : Int)) : ∀ (d k : Nat), k + 1 + d = c → ∀ n, d + 1 ≤ n → ∀ p : Int64, p.toInt = ((10 ^ k : Nat) : Int) → ∃ p' : Int64, p'.toInt = ((10 ^ (c - 1) : Nat) : Int) ∧ g_X12_writeNumber_L28 μa w n μ x p = g_X12_writeNumber_L54 μa w 10000 μ x p' := by
  intro d
  induction d with
  | zero =>
    intro k hk n hn p hp
    obtain ⟨n, rfl, -⟩ := succ_n hn
    have ek : k = c - 1 := by omega
    have ppos : 0 < 10 ^ k := Nat.pow_pos (by decide)
    refine ⟨p, by rw [← ek]; exact hp, ?_⟩
    conv => lhs; unfold g_X12_writeNumber_L28
    rw [asr_pos (fun z => by
      rw [z] at hp
      have : ((0 : Int64)).toInt = 0 := rfl
      omega), if_pos]
    rw [lt64, dv64 hx hp]
    show ((m / 10 ^ k : Nat) : Int) < 10
    have : m / 10 ^ k < 10 := by
      rw [Nat.div_lt_iff_lt_mul ppos, Nat.mul_comm, ← Nat.pow_succ, ek, show (c - 1).succ = c by omega]
      exact hm
    omega
  | succ d ih =>
    intro k hk n hn p hp
    obtain ⟨n, rfl, hn2⟩ := succ_n hn
    have ppos : 0 < 10 ^ k := Nat.pow_pos (by decide)
    have pw := pw18 (j := k + 1) (by omega)
    have t : ((10 : Int64)).toInt = 10 := rfl
    have e1 : (p * (10 : Int64)).toInt = ((10 ^ (k + 1) : Nat) : Int) := by
      rw [Int64.toInt_mul, hp, t]
      have : ((10 ^ (k + 1) : Nat) : Int) = ((10 ^ k : Nat) : Int) * 10 := by rw [Nat.pow_succ]; exact Int.natCast_mul _ _
      rw [← this]
      exact bm64 (by omega) (by omega)
    obtain ⟨p', p1, p2⟩ := ih (k + 1) (by omega) n hn2 (p * (10 : Int64)) e1
    refine ⟨p', p1, ?_⟩
    conv => lhs; unfold g_X12_writeNumber_L28
    rw [asr_pos (fun z => by
      rw [z] at hp
      have : ((0 : Int64)).toInt = 0 := rfl
      omega), if_neg]
    · exact p2
    · rw [lt64, dv64 hx hp]
      show ¬ ((m / 10 ^ k : Nat) : Int) < 10
      have hp2 : 10 ^ (k + 1) ≤ m := by
        rcases hm2 with e | e
        · exact absurd e (by omega)
        · exact Nat.le_trans (Nat.pow_le_pow_right (by decide) (by omega)) e
      have : 10 ≤ m / 10 ^ k := by
        rw [Nat.le_div_iff_mul_le ppos, Nat.mul_comm, ← Nat.pow_succ]
        exact hp2
      omega
/-- a number that is no less than 0 -/
theorem wr_pos {ν μ : Mm} {len D : Nat} (h : OuS ν0 μ0 ν μ len) (hD1 : 1 ≤ D) (hD : D ≤ 18) (hm : m < 10 ^ D) (hl : len + D ≤ 1400) {νa μa : Mm} {v w x : Int64} (hx : x.toInt = (m : Int)) : Wrs ν0 μ0 len D (g_X1_putNumber_L28 νa 4 v 10000 ν x (0 : Int32)) (g_X12_writeNumber_L28 μa w 10000 μ x (1 : Int64)) := by
  obtain ⟨c, c1, c2, c3, c4⟩ := dig_ex m D hD1 hm
  obtain ⟨r, r1, r2, r3⟩ := fill_of (ν0 := ν0) (μ0 := μ0) (νa := νa) (v := v) c1 (by omega) c3 c4 (c - 1) 0 (by omega) 10000 (by omega) ν x h (by rw [hx, Nat.pow_zero, Nat.div_one]) (fun j hj => absurd hj (by omega))
  obtain ⟨p, p1, p2⟩ := place_of (μa := μa) (μ := μ) (w := w) c1 (by omega) c3 c4 hx (c - 1) 0 (by omega) 10000 (by omega) (1 : Int64) rfl
  obtain ⟨ν', μ', l', g1, g2, g3, g4⟩ := digs_of (νa := νa) (μa := μa) (v := v) (w := w) hx (c - 1) (by omega) 10000 10000 (by omega) (by omega) r1 (by omega) p1 (fun j hj => r2 j (by omega))
  exact ⟨ν', μ', l', r3.trans g1, p2.trans g2, by omega, g4⟩
end NB
/-- a number that is no less than 0, of at most D digits -/
theorem wr_nat {ν0 μ0 ν μ : Mm} {len D : Nat} (h : OuS ν0 μ0 ν μ len) (hD1 : 1 ≤ D) (hD : D ≤ 18) {v : Int64} (h0 : 0 ≤ v.toInt) (hv : v.toInt < (10 ^ D : Nat)) (hl : len + D ≤ 1400) : Wrs ν0 μ0 len D (g_X1_putNumber ν 4 v) (g_X12_writeNumber μ v) := by
  have hp : (0 : Int64) ≤ v := by rw [Int64.le_iff_toInt_le]; exact h0
  unfold g_X1_putNumber g_X1_putNumber_J12 g_X12_writeNumber g_X12_writeNumber_J12
  rw [asr_pos b4, if_pos hp, if_pos hp, if_pos hp, if_pos hp]
  exact wr_pos (m := v.toInt.toNat) h hD1 hD (by omega) hl (by omega)
/-- any number -/
theorem wr_num {ν0 μ0 ν μ : Mm} {len D : Nat} (h : OuS ν0 μ0 ν μ len) (hD1 : 1 ≤ D) (hD : D ≤ 18) {v : Int64} (hv : -(10 ^ D : Nat) < v.toInt ∧ v.toInt < (10 ^ D : Nat)) (hl : len + (D + 1) ≤ 1400) : Wrs ν0 μ0 len (D + 1) (g_X1_putNumber ν 4 v) (g_X12_writeNumber μ v) := by
  have pw := pw18 (j := D) hD
  by_cases h0 : 0 ≤ v.toInt
  · obtain ⟨ν', μ', l', g1, g2, g3, g4⟩ := wr_nat h hD1 hD h0 hv.2 (by omega)
    exact ⟨ν', μ', l', g1, g2, by omega, g4⟩
  · have hp : ¬ (0 : Int64) ≤ v := by rw [Int64.le_iff_toInt_le]; exact h0
    have ng : (-v).toInt = -v.toInt := by
      rw [Int64.toInt_neg]
      exact bm64 (by omega) (by omega)
    have s := h.step (by8 (45 : Int32))
    obtain ⟨ν', μ', l', g1, g2, g3, g4⟩ := wr_pos (m := (-v.toInt).toNat) s hD1 hD (by omega) (by omega) (νa := ν) (μa := μ) (v := v) (w := v) (x := -v) (by rw [ng]; omega)
    refine ⟨ν', μ', l', ?_, ?_, by omega, g4⟩
    · unfold g_X1_putNumber g_X1_putNumber_J12
      rw [asr_pos b4, if_neg hp, put4 h (by omega), bnd_s, if_neg hp]
      exact g1
    · unfold g_X12_writeNumber g_X12_writeNumber_J12
      rw [if_neg hp, if_neg hp, wr_le h.2.2.2.2.2.1 (by omega), bnd_s]
      exact g2
