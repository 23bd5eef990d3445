/-! PURE. Cells of memories; copies of ledgers. -/
abbrev Eq3 (ν ν' : Mm) (off : Nat) : Prop := ν'.1 off = ν.1 off ∧ ν'.2.1 off = ν.2.1 off ∧ ν'.2.2 off = ν.2.2 off
theorem Eq3.rf (ν : Mm) (off : Nat) : Eq3 ν ν off := ⟨rfl, rfl, rfl⟩
theorem Eq3.tr {ν ν' ν'' : Mm} {off : Nat} (h : Eq3 ν ν' off) (g : Eq3 ν' ν'' off) : Eq3 ν ν'' off := ⟨g.1.trans h.1, g.2.1.trans h.2.1, g.2.2.trans h.2.2⟩
theorem Eq3.I {ν ν' : Mm} {off o k : Nat} {x : Int32} (h : Eq3 ν ν' off) (hn : off ≠ o) : Eq3 ν (uI ν' o k x) off := h.tr (uI_o hn)
theorem Eq3.P {ν ν' : Mm} {off o k : Nat} {x : Int64} (h : Eq3 ν ν' off) (hn : off ≠ o) : Eq3 ν (uP ν' o k x) off := h.tr (uP_o hn)
theorem Eq3.N {ν ν' : Mm} {off o k : Nat} {x : Nat} (h : Eq3 ν ν' off) (hn : off ≠ o) : Eq3 ν (uN ν' o k x) off := h.tr (uN_o hn)
theorem Eq3.R {ν ν' : Mm} {off o : Nat} {f : Nat → Int32} (h : Eq3 ν ν' off) (hn : off ≠ o) : Eq3 ν (uR ν' o f) off := h.tr ⟨if_neg hn, rfl, rfl⟩
theorem uI_at (μ : Mm) (o k : Nat) (x : Int32) (o' k' : Nat) : (uI μ o k x).1 o' k' = if o' = o ∧ k' = k then x else μ.1 o' k' := by
  show (if o' = o then upd (μ.1 o) k x else μ.1 o') k' = _
  by_cases h : o' = o
  · subst h
    rw [if_pos rfl]
    show (if k' = k then x else μ.1 o' k') = _
    by_cases h2 : k' = k
    · rw [if_pos h2, if_pos ⟨rfl, h2⟩]
    · rw [if_neg h2, if_neg (fun z => h2 z.2)]
  · rw [if_neg h, if_neg (fun z => h z.1)]
theorem uP_at (μ : Mm) (o k : Nat) (x : Int64) (o' k' : Nat) : (uP μ o k x).2.1 o' k' = if o' = o ∧ k' = k then x else μ.2.1 o' k' := by
  show (if o' = o then vp_updL (μ.2.1 o) k x else μ.2.1 o') k' = _
  by_cases h : o' = o
  · subst h
    rw [if_pos rfl]
    show (if k' = k then x else μ.2.1 o' k') = _
    by_cases h2 : k' = k
    · rw [if_pos h2, if_pos ⟨rfl, h2⟩]
    · rw [if_neg h2, if_neg (fun z => h2 z.2)]
  · rw [if_neg h, if_neg (fun z => h z.1)]
theorem uN_at (μ : Mm) (o k : Nat) (x : Nat) (o' k' : Nat) : (uN μ o k x).2.2 o' k' = if o' = o ∧ k' = k then x else μ.2.2 o' k' := by
  show (if o' = o then va_up (μ.2.2 o) k x else μ.2.2 o') k' = _
  by_cases h : o' = o
  · subst h
    rw [if_pos rfl]
    show (if k' = k then x else μ.2.2 o' k') = _
    by_cases h2 : k' = k
    · rw [if_pos h2, if_pos ⟨rfl, h2⟩]
    · rw [if_neg h2, if_neg (fun z => h2 z.2)]
  · rw [if_neg h, if_neg (fun z => h z.1)]
theorem uR_at (μ : Mm) (o : Nat) (f : Nat → Int32) (o' : Nat) : (uR μ o f).1 o' = if o' = o then f else μ.1 o' := rfl
theorem uI_21 (μ : Mm) (o k : Nat) (x : Int32) : (uI μ o k x).2 = μ.2 := rfl
theorem uR_21 (μ : Mm) (o : Nat) (f : Nat → Int32) : (uR μ o f).2 = μ.2 := rfl
theorem uP_1 (μ : Mm) (o k : Nat) (x : Int64) : (uP μ o k x).1 = μ.1 := rfl
theorem uP_22 (μ : Mm) (o k : Nat) (x : Int64) : (uP μ o k x).2.2 = μ.2.2 := rfl
theorem uN_1 (μ : Mm) (o k : Nat) (x : Nat) : (uN μ o k x).1 = μ.1 := rfl
theorem uN_21 (μ : Mm) (o k : Nat) (x : Nat) : (uN μ o k x).2.1 = μ.2.1 := rfl
/-! the copies of rows -/
theorem cp9 {ν : Mm} {o a : Nat} (ho : isShip o) (ha : isShip a) (hn : ¬ a = o) (hn1 : ¬ a = o + 1) : ∃ r, g_X9_copyFrom ν o a = some r ∧ (∀ off, off ≠ o → off ≠ o + 1 → Eq3 ν r off) ∧ r.1 o 1 = ν.1 a 1 ∧ r.1 o 2 = ν.1 a 2 ∧ r.2.1 o 3 = ν.2.1 a 3 ∧ r.1 (o + 1) = ν.1 (a + 1) := by
  unfold g_X9_copyFrom
  rw [asr_pos ho, asr_pos ha, bnd_s, bnd_s, bnd_s, bnd_s]
  refine ⟨_, rfl, fun off h h' => (((((Eq3.rf ν off).R h').I h).I h).P h), ?_, ?_, ?_, ?_⟩
  · simp [uI_at, uP_1, uR_at, hn, hn1]
  · simp [uI_at, uP_1, uR_at, hn, hn1]
  · simp [uP_at, uI_21, uR_21, hn]
  · funext i
    simp [uI_at, uP_1, uR_at]
theorem cp2 {ν : Mm} {o a : Nat} (ho : isCal o) (ha : isCal a) (hn : ¬ a = o) (hz : isZ (ν.1 a 4)) : ∃ r, g_X2_copyFrom ν o a = some r ∧ (∀ off, off ≠ o → Eq3 ν r off) ∧ ∀ k, k < 7 → r.1 o k = ν.1 a k := by
  unfold g_X2_copyFrom
  rw [asr_pos ho, asr_pos ha, bnd_s, bnd_s, bnd_s, bnd_s, asr_pos (by simp only [uI_at, hn, false_and, if_false]; exact hz), bnd_s, bnd_s, bnd_s]
  refine ⟨_, rfl, fun off h => ((((((((Eq3.rf ν off).I h).I h).I h).I h).I h).I h).I h), fun k hk => ?_⟩
  match k, hk with
  | 0, _ => simp [uI_at, hn]
  | 1, _ => simp [uI_at, hn]
  | 2, _ => simp [uI_at, hn]
  | 3, _ => simp [uI_at, hn]
  | 4, _ => simp [uI_at, hn]
  | 5, _ => simp [uI_at, hn]
  | 6, _ => simp [uI_at, hn]
  | k + 7, g => exact absurd g (by omega)
theorem cp6 {ν : Mm} {o a : Nat} (ho : isNote o) (ha : isNote a) (hn : ¬ a = o) : ∃ r, g_X6_copyFrom ν o a = some r ∧ (∀ off, off ≠ o → Eq3 ν r off) ∧ ∀ k, k < 4 → r.1 o k = ν.1 a k := by
  unfold g_X6_copyFrom
  rw [asr_pos ho, asr_pos ha, bnd_s, bnd_s, bnd_s, bnd_s]
  refine ⟨_, rfl, fun off h => (((((Eq3.rf ν off).I h).I h).I h).I h), fun k hk => ?_⟩
  match k, hk with
  | 0, _ => simp [uI_at, hn]
  | 1, _ => simp [uI_at, hn]
  | 2, _ => simp [uI_at, hn]
  | 3, _ => simp [uI_at, hn]
  | k + 4, g => exact absurd g (by omega)
theorem cp4 {ν : Mm} {o a : Nat} (ho : isInv o) (ha : isInv a) (hn : ¬ a = o) (hn1 : ¬ a = o + 1) (hn2 : ¬ a + 1 = o) : ∃ r, g_X4_copyFrom ν o a = some r ∧ (∀ off, off ≠ o → off ≠ o + 1 → Eq3 ν r off) ∧ (∀ k, 1 ≤ k → k < 7 → r.1 o k = ν.1 a k) ∧ r.1 (o + 1) = ν.1 (a + 1) := by
  have h1 : ¬ o = o + 1 := by omega
  have h2 : ¬ o + 1 = o := by omega
  unfold g_X4_copyFrom
  rw [asr_pos ho, asr_pos ha, bnd_s, bnd_s, bnd_s, bnd_s, bnd_s, bnd_s, bnd_s]
  refine ⟨_, rfl, fun off h h' => ((((((((Eq3.rf ν off).R h').I h).I h).I h).I h).I h).I h), fun k hk1 hk => ?_, ?_⟩
  · match k, hk1, hk with
    | 0, g, _ => exact absurd g (by omega)
    | 1, _, _ => simp [uI_at, uR_at, hn, hn1, h1]
    | 2, _, _ => simp [uI_at, uR_at, hn, hn1, h1]
    | 3, _, _ => simp [uI_at, uR_at, hn, hn1, h1]
    | 4, _, _ => simp [uI_at, uR_at, hn, hn1, h1]
    | 5, _, _ => simp [uI_at, uR_at, hn, hn1, h1]
    | 6, _, _ => simp [uI_at, uR_at, hn, hn1, h1]
    | k + 7, _, g => exact absurd g (by omega)
  · funext j
    simp [uI_at, uR_at, h2]
theorem cp10 {ν : Mm} {o a : Nat} (ho : isTar o) (ha : isTar a) (hd : o + 5 ≤ a ∨ a + 5 ≤ o) (hz : isZ (ν.1 a 6)) : ∃ r, g_X10_copyFrom ν o a = some r ∧ (∀ off, off < o ∨ o + 5 ≤ off → Eq3 ν r off) ∧ (∀ k, 4 ≤ k → k < 12 → r.1 o k = ν.1 a k) ∧ ∀ j, 1 ≤ j → j < 5 → r.1 (o + j) = ν.1 (a + j) := by
  have n0 : ¬ a = o := by omega
  have n1 : ¬ a = o + 1 := by omega
  have n2 : ¬ a = o + 2 := by omega
  have n3 : ¬ a = o + 3 := by omega
  have n4 : ¬ a = o + 4 := by omega
  have p1 : ¬ o = o + 1 := by omega
  have p2 : ¬ o = o + 2 := by omega
  have p3 : ¬ o = o + 3 := by omega
  have p4 : ¬ o = o + 4 := by omega
  have m1 : ¬ o + 1 = o := by omega
  have m2 : ¬ o + 2 = o := by omega
  have m3 : ¬ o + 3 = o := by omega
  have m4 : ¬ o + 4 = o := by omega
  unfold g_X10_copyFrom
  rw [asr_pos ho, asr_pos ha, bnd_s, bnd_s, bnd_s, bnd_s, bnd_s, bnd_s, asr_pos (by simp only [uI_at, uR_at, n0, n1, n2, n3, n4, false_and, if_false]; exact hz), bnd_s, bnd_s, bnd_s, bnd_s, bnd_s, bnd_s]
  refine ⟨_, rfl, fun off h => ?_, fun k hk1 hk => ?_, fun j hj1 hj => ?_⟩
  · have h0 : off ≠ o := by omega
    exact (((((((((((((Eq3.rf ν off).R (by omega)).R (by omega)).R (by omega)).R (by omega)).I h0).I h0).I h0).I h0).I h0).I h0).I h0).I h0)
  · match k, hk1, hk with
    | 0, g, _ => exact absurd g (by omega)
    | 1, g, _ => exact absurd g (by omega)
    | 2, g, _ => exact absurd g (by omega)
    | 3, g, _ => exact absurd g (by omega)
    | 4, _, _ => simp [uI_at, uR_at, n0, n1, n2, n3, n4]
    | 5, _, _ => simp [uI_at, uR_at, n0, n1, n2, n3, n4]
    | 6, _, _ => simp [uI_at, uR_at, n0, n1, n2, n3, n4]
    | 7, _, _ => simp [uI_at, uR_at, n0, n1, n2, n3, n4]
    | 8, _, _ => simp [uI_at, uR_at, n0, n1, n2, n3, n4]
    | 9, _, _ => simp [uI_at, uR_at, n0, n1, n2, n3, n4]
    | 10, _, _ => simp [uI_at, uR_at, n0, n1, n2, n3, n4]
    | 11, _, _ => simp [uI_at, uR_at, n0, n1, n2, n3, n4]
    | k + 12, _, g => exact absurd g (by omega)
  · have q1 : ¬ a + 1 = o + 2 := by omega
    have q2 : ¬ a + 1 = o + 3 := by omega
    match j, hj1, hj with
    | 0, g, _ => exact absurd g (by omega)
    | 1, _, _ =>
      funext i
      simp [uI_at, uR_at, m1]
    | 2, _, _ =>
      have t1 : ¬ a + 2 = o + 1 := by omega
      funext i
      simp [uI_at, uR_at, m2, t1]
    | 3, _, _ =>
      have t1 : ¬ a + 3 = o + 1 := by omega
      have t2 : ¬ a + 3 = o + 2 := by omega
      funext i
      simp [uI_at, uR_at, m3, t1, t2]
    | 4, _, _ =>
      have t1 : ¬ a + 4 = o + 1 := by omega
      have t2 : ¬ a + 4 = o + 2 := by omega
      have t3 : ¬ a + 4 = o + 3 := by omega
      funext i
      simp [uI_at, uR_at, m4, t1, t2, t3]
    | j + 5, _, g => exact absurd g (by omega)
/-! the copy of a ledger -/
/-- what a copy of the ledger at a into the one at o has done so far: i1 ships, i2 calls, i3 invoices, i4 notes, i5 versions -/
def Cpd (ν : Mm) (o a : Nat) (ν' : Mm) (i1 i2 i3 i4 i5 : Nat) : Prop :=
  (∀ off, off < o ∨ o + 327 ≤ off → Eq3 ν ν' off) ∧
  (∀ k, 5 ≤ k → k < 11 → ν'.1 o k = ν.1 a k) ∧
  (∀ s, s < i1 → ν'.1 (o + (6 + 2 * s)) 1 = ν.1 (a + (6 + 2 * s)) 1 ∧ ν'.1 (o + (6 + 2 * s)) 2 = ν.1 (a + (6 + 2 * s)) 2 ∧ ν'.2.1 (o + (6 + 2 * s)) 3 = ν.2.1 (a + (6 + 2 * s)) 3 ∧ ν'.1 (o + (6 + 2 * s) + 1) = ν.1 (a + (6 + 2 * s) + 1)) ∧
  (∀ c, c < i2 → ∀ k, k < 7 → ν'.1 (o + (22 + c)) k = ν.1 (a + (22 + c)) k) ∧
  (∀ i, i < i3 → (∀ k, 1 ≤ k → k < 7 → ν'.1 (o + (62 + 2 * i)) k = ν.1 (a + (62 + 2 * i)) k) ∧ ν'.1 (o + (62 + 2 * i) + 1) = ν.1 (a + (62 + 2 * i) + 1)) ∧
  (∀ n, n < i4 → ∀ k, k < 4 → ν'.1 (o + (182 + n)) k = ν.1 (a + (182 + n)) k) ∧
  ∀ v, v < i5 → (∀ k, 4 ≤ k → k < 12 → ν'.1 (o + (222 + 5 * v)) k = ν.1 (a + (222 + 5 * v)) k) ∧ ∀ j, 1 ≤ j → j < 5 → ν'.1 (o + (222 + 5 * v) + j) = ν.1 (a + (222 + 5 * v) + j)
theorem Cpd.fr {ν ν' ν'' : Mm} {o a i1 i2 i3 i4 i5 : Nat} (h : Cpd ν o a ν' i1 i2 i3 i4 i5) {y : Nat} (b1 : 6 + 2 * i1 ≤ y) (b2 : i2 = 0 ∨ 22 + i2 ≤ y) (b3 : i3 = 0 ∨ 62 + 2 * i3 ≤ y) (b4 : i4 = 0 ∨ 182 + i4 ≤ y) (b5 : i5 = 0 ∨ 222 + 5 * i5 ≤ y) (hF : ∀ off, off < o + y ∨ o + 327 ≤ off → Eq3 ν' ν'' off) : Cpd ν o a ν'' i1 i2 i3 i4 i5 := by
  obtain ⟨g0, g1, g2, g3, g4, g5, g6⟩ := h
  refine ⟨fun off ho => (g0 off ho).tr (hF off (by omega)), fun k h1 h2 => ?_, fun s hs => ?_, fun c hc k hk => ?_, fun i hi => ?_, fun n hn k hk => ?_, fun v hv => ?_⟩
  · rw [(hF o (by omega)).1]
    exact g1 k h1 h2
  · obtain ⟨e1, e2, e3⟩ := hF (o + (6 + 2 * s)) (by omega)
    rw [e1, e2, (hF (o + (6 + 2 * s) + 1) (by omega)).1]
    exact g2 s hs
  · rw [(hF (o + (22 + c)) (by omega)).1]
    exact g3 c hc k hk
  · rw [(hF (o + (62 + 2 * i)) (by omega)).1, (hF (o + (62 + 2 * i) + 1) (by omega)).1]
    exact g4 i hi
  · rw [(hF (o + (182 + n)) (by omega)).1]
    exact g5 n hn k hk
  · refine ⟨fun k h1 h2 => ?_, fun j h1 h2 => ?_⟩
    · rw [(hF (o + (222 + 5 * v)) (by omega)).1]
      exact (g6 v hv).1 k h1 h2
    · rw [(hF (o + (222 + 5 * v) + j) (by omega)).1]
      exact (g6 v hv).2 j h1 h2
/-- what a ledger that is copied holds -/
def CpI (ν : Mm) (a n1 n2 n3 n4 n5 : Nat) : Prop := (ν.1 a 5 = nI n1 ∧ ν.1 a 6 = nI n2 ∧ ν.1 a 7 = nI n3 ∧ ν.1 a 8 = nI n4 ∧ ν.1 a 9 = nI n5) ∧ (n1 ≤ 8 ∧ n2 ≤ 40 ∧ n3 ≤ 60 ∧ n4 ≤ 40 ∧ n5 ≤ 20) ∧ (∀ c, c < n2 → isZ (ν.1 (a + (22 + c)) 4)) ∧ ∀ v, v ≤ n5 → isZ (ν.1 (a + (222 + 5 * v)) 6)
section CPL
variable {ν : Mm} {o a n1 n2 n3 n4 n5 : Nat}
theorem cpL174 (hI : CpI ν a n1 n2 n3 n4 n5) (ho : isLed o) (ha : isLed a) (hd : o + 327 ≤ a ∨ a + 327 ≤ o) : ∀ (d k : Nat), k + d = n5 + 1 → ∀ n, d + 1 ≤ n → ∀ ν', Cpd ν o a ν' n1 n2 n3 n4 k → ∃ r, g_X5_copyFrom_L174 ν o a n ν' (nI k) = some r ∧ Cpd ν o a r n1 n2 n3 n4 (n5 + 1) := by
  obtain ⟨⟨j1, j2, j3, j4, j5⟩, ⟨b1, b2, b3, b4, b5⟩, hz1, hz2⟩ := hI
  intro d
  induction d with
  | zero =>
    intro k hk n hn ν' h
    obtain ⟨n, rfl, -⟩ := succ_n hn
    have e9 : ν'.1 o 9 = nI n5 := (h.2.1 9 (by decide) (by decide)).trans j5
    have ek : k = n5 + 1 := by omega
    refine ⟨ν', ?_, ek ▸ h⟩
    unfold g_X5_copyFrom_L174
    rw [e9, if_pos (by rw [lt32, nI_toInt (by omega), nI_toInt (by omega)]; omega)]
  | succ d ih =>
    intro k hk n hn ν' h
    obtain ⟨n, rfl, hn2⟩ := succ_n hn
    have e9 : ν'.1 o 9 = nI n5 := (h.2.1 9 (by decide) (by decide)).trans j5
    obtain ⟨r, r1, r2, r3, r4⟩ := cp10 (ν := ν') (o := o + (222 + 5 * k)) (a := a + (222 + 5 * k)) ⟨o, k, ho, by omega, rfl⟩ ⟨a, k, ha, by omega, rfl⟩ (by omega) (by rw [(h.1 (a + (222 + 5 * k)) (by omega)).1]; exact hz2 k (by omega))
    have hr : Cpd ν o a r n1 n2 n3 n4 k := h.fr (y := 222 + 5 * k) (by omega) (by omega) (by omega) (by omega) (by omega) (fun off hoff => r2 off (by omega))
    obtain ⟨q, q1, q2⟩ := ih (k + 1) (by omega) n hn2 r ⟨hr.1, hr.2.1, hr.2.2.1, hr.2.2.2.1, hr.2.2.2.2.1, hr.2.2.2.2.2.1, fun v hv => by
      by_cases e : v = k
      · subst e
        exact ⟨fun k h1 h2 => (r3 k h1 h2).trans (by rw [(h.1 (a + (222 + 5 * v)) (by omega)).1]), fun j h1 h2 => (r4 j h1 h2).trans (h.1 (a + (222 + 5 * v) + j) (by omega)).1⟩
      · exact hr.2.2.2.2.2.2 v (by omega)⟩
    refine ⟨q, ?_, q2⟩
    unfold g_X5_copyFrom_L174
    rw [e9, if_neg (by rw [lt32, nI_toInt (by omega), nI_toInt (by omega)]; omega), asr_pos (vp_in_nI (by omega) (by decide)), cl_nI (by omega), r1, bnd_s, nI1]
    exact q1
theorem cpL143 (hI : CpI ν a n1 n2 n3 n4 n5) (ho : isLed o) (ha : isLed a) (hd : o + 327 ≤ a ∨ a + 327 ≤ o) : ∀ (d k : Nat), k + d = n4 → ∀ n, d + 1 ≤ n → ∀ ν', Cpd ν o a ν' n1 n2 n3 k 0 → ∃ r, g_X5_copyFrom_L143 ν o a n ν' (nI k) = some r ∧ Cpd ν o a r n1 n2 n3 n4 (n5 + 1) := by
  have hI0 := hI
  obtain ⟨⟨j1, j2, j3, j4, j5⟩, ⟨b1, b2, b3, b4, b5⟩, hz1, hz2⟩ := hI
  intro d
  induction d with
  | zero =>
    intro k hk n hn ν' h
    obtain ⟨n, rfl, -⟩ := succ_n hn
    have e9 : ν'.1 o 8 = nI n4 := (h.2.1 8 (by decide) (by decide)).trans j4
    have ek : k = n4 := by omega
    obtain ⟨q, q1, q2⟩ := cpL174 hI0 ho ha hd (n5 + 1) 0 (by omega) 10000 (by omega) ν' (ek ▸ h)
    refine ⟨q, ?_, q2⟩
    unfold g_X5_copyFrom_L143
    rw [e9, if_pos (by rw [le32, nI_toInt (by omega), nI_toInt (by omega)]; omega)]
    exact q1
  | succ d ih =>
    intro k hk n hn ν' h
    obtain ⟨n, rfl, hn2⟩ := succ_n hn
    have e9 : ν'.1 o 8 = nI n4 := (h.2.1 8 (by decide) (by decide)).trans j4
    obtain ⟨r, r1, r2, r3⟩ := cp6 (ν := ν') (o := o + (182 + k)) (a := a + (182 + k)) ⟨o, k, ho, by omega, rfl⟩ ⟨a, k, ha, by omega, rfl⟩ (by omega)
    have hr : Cpd ν o a r n1 n2 n3 k 0 := h.fr (y := 182 + k) (by omega) (by omega) (by omega) (by omega) (by omega) (fun off hoff => r2 off (by omega))
    obtain ⟨q, q1, q2⟩ := ih (k + 1) (by omega) n hn2 r ⟨hr.1, hr.2.1, hr.2.2.1, hr.2.2.2.1, hr.2.2.2.2.1, fun m hm k2 hk2 => by
      by_cases e : m = k
      · subst e
        exact (r3 k2 hk2).trans (by rw [(h.1 (a + (182 + m)) (by omega)).1])
      · exact hr.2.2.2.2.2.1 m (by omega) k2 hk2, hr.2.2.2.2.2.2⟩
    refine ⟨q, ?_, q2⟩
    unfold g_X5_copyFrom_L143
    rw [e9, if_neg (by rw [le32, nI_toInt (by omega), nI_toInt (by omega)]; omega), asr_pos (vp_in_nI (by omega) (by decide)), cl_nI (by omega), r1, bnd_s, nI1]
    exact q1
theorem cpL112 (hI : CpI ν a n1 n2 n3 n4 n5) (ho : isLed o) (ha : isLed a) (hd : o + 327 ≤ a ∨ a + 327 ≤ o) : ∀ (d k : Nat), k + d = n3 → ∀ n, d + 1 ≤ n → ∀ ν', Cpd ν o a ν' n1 n2 k 0 0 → ∃ r, g_X5_copyFrom_L112 ν o a n ν' (nI k) = some r ∧ Cpd ν o a r n1 n2 n3 n4 (n5 + 1) := by
  have hI0 := hI
  obtain ⟨⟨j1, j2, j3, j4, j5⟩, ⟨b1, b2, b3, b4, b5⟩, hz1, hz2⟩ := hI
  intro d
  induction d with
  | zero =>
    intro k hk n hn ν' h
    obtain ⟨n, rfl, -⟩ := succ_n hn
    have e9 : ν'.1 o 7 = nI n3 := (h.2.1 7 (by decide) (by decide)).trans j3
    have ek : k = n3 := by omega
    obtain ⟨q, q1, q2⟩ := cpL143 hI0 ho ha hd (n4) 0 (by omega) 10000 (by omega) ν' (ek ▸ h)
    refine ⟨q, ?_, q2⟩
    unfold g_X5_copyFrom_L112
    rw [e9, if_pos (by rw [le32, nI_toInt (by omega), nI_toInt (by omega)]; omega)]
    exact q1
  | succ d ih =>
    intro k hk n hn ν' h
    obtain ⟨n, rfl, hn2⟩ := succ_n hn
    have e9 : ν'.1 o 7 = nI n3 := (h.2.1 7 (by decide) (by decide)).trans j3
    obtain ⟨r, r1, r2, r3⟩ := cp4 (ν := ν') (o := o + (62 + 2 * k)) (a := a + (62 + 2 * k)) ⟨o, k, ho, by omega, rfl⟩ ⟨a, k, ha, by omega, rfl⟩ (by omega) (by omega) (by omega)
    have hr : Cpd ν o a r n1 n2 k 0 0 := h.fr (y := 62 + 2 * k) (by omega) (by omega) (by omega) (by omega) (by omega) (fun off hoff => r2 off (by omega) (by omega))
    obtain ⟨q, q1, q2⟩ := ih (k + 1) (by omega) n hn2 r ⟨hr.1, hr.2.1, hr.2.2.1, hr.2.2.2.1, fun i hi => by
      by_cases e : i = k
      · subst e
        exact ⟨fun k h1 h2 => (r3.1 k h1 h2).trans (by rw [(h.1 (a + (62 + 2 * i)) (by omega)).1]), r3.2.trans (h.1 (a + (62 + 2 * i) + 1) (by omega)).1⟩
      · exact hr.2.2.2.2.1 i (by omega), hr.2.2.2.2.2.1, hr.2.2.2.2.2.2⟩
    refine ⟨q, ?_, q2⟩
    unfold g_X5_copyFrom_L112
    rw [e9, if_neg (by rw [le32, nI_toInt (by omega), nI_toInt (by omega)]; omega), asr_pos (vp_in_nI (by omega) (by decide)), cl_nI (by omega), r1, bnd_s, nI1]
    exact q1
theorem cpL81 (hI : CpI ν a n1 n2 n3 n4 n5) (ho : isLed o) (ha : isLed a) (hd : o + 327 ≤ a ∨ a + 327 ≤ o) : ∀ (d k : Nat), k + d = n2 → ∀ n, d + 1 ≤ n → ∀ ν', Cpd ν o a ν' n1 k 0 0 0 → ∃ r, g_X5_copyFrom_L81 ν o a n ν' (nI k) = some r ∧ Cpd ν o a r n1 n2 n3 n4 (n5 + 1) := by
  have hI0 := hI
  obtain ⟨⟨j1, j2, j3, j4, j5⟩, ⟨b1, b2, b3, b4, b5⟩, hz1, hz2⟩ := hI
  intro d
  induction d with
  | zero =>
    intro k hk n hn ν' h
    obtain ⟨n, rfl, -⟩ := succ_n hn
    have e9 : ν'.1 o 6 = nI n2 := (h.2.1 6 (by decide) (by decide)).trans j2
    have ek : k = n2 := by omega
    obtain ⟨q, q1, q2⟩ := cpL112 hI0 ho ha hd (n3) 0 (by omega) 10000 (by omega) ν' (ek ▸ h)
    refine ⟨q, ?_, q2⟩
    unfold g_X5_copyFrom_L81
    rw [e9, if_pos (by rw [le32, nI_toInt (by omega), nI_toInt (by omega)]; omega)]
    exact q1
  | succ d ih =>
    intro k hk n hn ν' h
    obtain ⟨n, rfl, hn2⟩ := succ_n hn
    have e9 : ν'.1 o 6 = nI n2 := (h.2.1 6 (by decide) (by decide)).trans j2
    obtain ⟨r, r1, r2, r3⟩ := cp2 (ν := ν') (o := o + (22 + k)) (a := a + (22 + k)) ⟨o, k, ho, by omega, rfl⟩ ⟨a, k, ha, by omega, rfl⟩ (by omega) (by rw [(h.1 (a + (22 + k)) (by omega)).1]; exact hz1 k (by omega))
    have hr : Cpd ν o a r n1 k 0 0 0 := h.fr (y := 22 + k) (by omega) (by omega) (by omega) (by omega) (by omega) (fun off hoff => r2 off (by omega))
    obtain ⟨q, q1, q2⟩ := ih (k + 1) (by omega) n hn2 r ⟨hr.1, hr.2.1, hr.2.2.1, fun c hc k2 hk2 => by
      by_cases e : c = k
      · subst e
        exact (r3 k2 hk2).trans (by rw [(h.1 (a + (22 + c)) (by omega)).1])
      · exact hr.2.2.2.1 c (by omega) k2 hk2, hr.2.2.2.2.1, hr.2.2.2.2.2.1, hr.2.2.2.2.2.2⟩
    refine ⟨q, ?_, q2⟩
    unfold g_X5_copyFrom_L81
    rw [e9, if_neg (by rw [le32, nI_toInt (by omega), nI_toInt (by omega)]; omega), asr_pos (vp_in_nI (by omega) (by decide)), cl_nI (by omega), r1, bnd_s, nI1]
    exact q1
theorem cpL50 (hI : CpI ν a n1 n2 n3 n4 n5) (ho : isLed o) (ha : isLed a) (hd : o + 327 ≤ a ∨ a + 327 ≤ o) : ∀ (d k : Nat), k + d = n1 → ∀ n, d + 1 ≤ n → ∀ ν', Cpd ν o a ν' k 0 0 0 0 → ∃ r, g_X5_copyFrom_L50 ν o a n ν' (nI k) = some r ∧ Cpd ν o a r n1 n2 n3 n4 (n5 + 1) := by
  have hI0 := hI
  obtain ⟨⟨j1, j2, j3, j4, j5⟩, ⟨b1, b2, b3, b4, b5⟩, hz1, hz2⟩ := hI
  intro d
  induction d with
  | zero =>
    intro k hk n hn ν' h
    obtain ⟨n, rfl, -⟩ := succ_n hn
    have e9 : ν'.1 o 5 = nI n1 := (h.2.1 5 (by decide) (by decide)).trans j1
    have ek : k = n1 := by omega
    obtain ⟨q, q1, q2⟩ := cpL81 hI0 ho ha hd (n2) 0 (by omega) 10000 (by omega) ν' (ek ▸ h)
    refine ⟨q, ?_, q2⟩
    unfold g_X5_copyFrom_L50
    rw [e9, if_pos (by rw [le32, nI_toInt (by omega), nI_toInt (by omega)]; omega)]
    exact q1
  | succ d ih =>
    intro k hk n hn ν' h
    obtain ⟨n, rfl, hn2⟩ := succ_n hn
    have e9 : ν'.1 o 5 = nI n1 := (h.2.1 5 (by decide) (by decide)).trans j1
    obtain ⟨r, r1, r2, r3⟩ := cp9 (ν := ν') (o := o + (6 + 2 * k)) (a := a + (6 + 2 * k)) ⟨o, k, ho, by omega, rfl⟩ ⟨a, k, ha, by omega, rfl⟩ (by omega) (by omega)
    have hr : Cpd ν o a r k 0 0 0 0 := h.fr (y := 6 + 2 * k) (by omega) (by omega) (by omega) (by omega) (by omega) (fun off hoff => r2 off (by omega) (by omega))
    obtain ⟨q, q1, q2⟩ := ih (k + 1) (by omega) n hn2 r ⟨hr.1, hr.2.1, fun s hs => by
      by_cases e : s = k
      · subst e
        obtain ⟨e1, e2, e3⟩ := h.1 (a + (6 + 2 * s)) (by omega)
        exact ⟨r3.1.trans (by rw [e1]), r3.2.1.trans (by rw [e1]), r3.2.2.1.trans (by rw [e2]), r3.2.2.2.trans (h.1 (a + (6 + 2 * s) + 1) (by omega)).1⟩
      · exact hr.2.2.1 s (by omega), hr.2.2.2.1, hr.2.2.2.2.1, hr.2.2.2.2.2.1, hr.2.2.2.2.2.2⟩
    refine ⟨q, ?_, q2⟩
    unfold g_X5_copyFrom_L50
    rw [e9, if_neg (by rw [le32, nI_toInt (by omega), nI_toInt (by omega)]; omega), asr_pos (vp_in_nI (by omega) (by decide)), cl_nI (by omega), r1, bnd_s, nI1]
    exact q1
theorem cp_led (hI : CpI ν a n1 n2 n3 n4 n5) (ho : isLed o) (ha : isLed a) (hd : o + 327 ≤ a ∨ a + 327 ≤ o) : ∃ r, g_X5_copyFrom ν o a = some r ∧ Cpd ν o a r n1 n2 n3 n4 (n5 + 1) := by
  have hn : ¬ a = o := by omega
  unfold g_X5_copyFrom
  rw [asr_pos ho, asr_pos ha, bnd_s, bnd_s, bnd_s, bnd_s, bnd_s, bnd_s]
  refine cpL50 hI ho ha hd n1 0 (by omega) 10000 (by have := hI.2.1; omega) _ ⟨fun off h => ?_, fun k h1 h2 => ?_, fun s hs => absurd hs (by omega), fun s hs => absurd hs (by omega), fun s hs => absurd hs (by omega), fun s hs => absurd hs (by omega), fun s hs => absurd hs (by omega)⟩
  · have h0 : off ≠ o := by omega
    exact (((((((Eq3.rf ν off).I h0).I h0).I h0).I h0).I h0).I h0)
  · match k, h1, h2 with
    | 0, g, _ => exact absurd g (by omega)
    | 1, g, _ => exact absurd g (by omega)
    | 2, g, _ => exact absurd g (by omega)
    | 3, g, _ => exact absurd g (by omega)
    | 4, g, _ => exact absurd g (by omega)
    | 5, _, _ => simp [uI_at, hn]
    | 6, _, _ => simp [uI_at, hn]
    | 7, _, _ => simp [uI_at, hn]
    | 8, _, _ => simp [uI_at, hn]
    | 9, _, _ => simp [uI_at, hn]
    | 10, _, _ => simp [uI_at, hn]
    | k + 11, _, g => exact absurd g (by omega)
end CPL
theorem isZ_of {x : Int32} (h : rg x 0 1) : isZ x := by
  have h1 := h.1
  have h2 := h.2
  by_cases q : x.toInt = 0
  · exact Or.inl (eq32.mpr q)
  · exact Or.inr (eq32.mpr (by show x.toInt = 1; omega))
theorem LdR.cpI {ν : Mm} {a : Nat} {f : Nat → Int32} {p : Nat → Int64} (h : LdR ν a f p) (hW : Wf f) : CpI ν a (cl (f 0)) (cl (f 1)) (cl (f 2)) (cl (f 3)) (cl (f 4)) := by
  obtain ⟨⟨g0, g1, g2, g3, g4, g5⟩, -, hc, -, -, hv⟩ := h
  obtain ⟨a0, b0, d0⟩ := cl_of hW.1.1
  obtain ⟨a1, b1, d1⟩ := cl_of hW.1.2.1
  obtain ⟨a2, b2, d2⟩ := cl_of hW.1.2.2.1
  obtain ⟨a3, b3, d3⟩ := cl_of hW.1.2.2.2.1
  obtain ⟨a4, b4, d4⟩ := cl_of hW.1.2.2.2.2.1
  refine ⟨⟨g0.trans a0, g1.trans a1, g2.trans a2, g3.trans a3, g4.trans a4⟩, ⟨by omega, by omega, by omega, by omega, by omega⟩, fun c hc2 => ?_, fun v hv2 => ?_⟩
  · rw [hc c hc2 4 (by decide)]
    exact isZ_of (hW.2.2.2.2.2.2.2.2.2.1 c (by omega)).2.2.2.2.1
  · rw [(hv v hv2).1.2.2.1]
    exact isZ_of hW.1.2.2.2.2.2.2.2.2.1
theorem LdR.cpd {ν r : Mm} {o a : Nat} {f : Nat → Int32} {p : Nat → Int64} (h : LdR ν a f p) (hC : Cpd ν o a r (cl (f 0)) (cl (f 1)) (cl (f 2)) (cl (f 3)) (cl (f 4) + 1)) : LdR r o f p := by
  obtain ⟨⟨g0, g1, g2, g3, g4, g5⟩, hs, hc, hi, hn, hv⟩ := h
  obtain ⟨-, k1, k2, k3, k4, k5, k6⟩ := hC
  refine ⟨⟨(k1 5 (by decide) (by decide)).trans g0, (k1 6 (by decide) (by decide)).trans g1, (k1 7 (by decide) (by decide)).trans g2, (k1 8 (by decide) (by decide)).trans g3, (k1 9 (by decide) (by decide)).trans g4, (k1 10 (by decide) (by decide)).trans g5⟩, fun s h1 => ?_, fun c h1 k h2 => (k3 c h1 k h2).trans (hc c h1 k h2), fun i h1 => ⟨fun k h2 => ((k4 i h1).1 (k + 1) (by omega) (by omega)).trans ((hi i h1).1 k h2), fun l h2 => by rw [(k4 i h1).2]; exact (hi i h1).2 l h2⟩, fun n h1 k h2 => (k5 n h1 k h2).trans (hn n h1 k h2), fun v h1 => ?_⟩
  · obtain ⟨e1, e2, e3, e4⟩ := k2 s h1
    rw [e1, e2, e3, e4]
    exact hs s h1
  · obtain ⟨⟨t4, t5, t6, t7, t8, t9, t10, t11⟩, tb, tr⟩ := hv v h1
    obtain ⟨m1, m2⟩ := k6 v (by omega)
    refine ⟨⟨(m1 4 (by decide) (by decide)).trans t4, (m1 5 (by decide) (by decide)).trans t5, (m1 6 (by decide) (by decide)).trans t6, (m1 7 (by decide) (by decide)).trans t7, (m1 8 (by decide) (by decide)).trans t8, (m1 9 (by decide) (by decide)).trans t9, (m1 10 (by decide) (by decide)).trans t10, (m1 11 (by decide) (by decide)).trans t11⟩, fun b hb => ?_, fun q hq => ?_⟩
    · rw [m2 1 (by decide) (by decide), m2 2 (by decide) (by decide)]
      exact tb b hb
    · rw [m2 3 (by decide) (by decide), m2 4 (by decide) (by decide)]
      exact tr q hq
/-- a ledger copied over another one -/
theorem cp_of {n : Nat} {ν : Mm} {o a : Nat} {f : Nat → Int32} {p : Nat → Int64} (h : LdW n ν a f p) (ho : isLed o) (ha : isLed a) (hd : o + 327 ≤ a ∨ a + 327 ≤ o) : ∃ r, g_X5_copyFrom ν o a = some r ∧ LdW n r o f p ∧ ∀ off, off < o ∨ o + 327 ≤ off → Eq3 ν r off := by
  obtain ⟨r, r1, r2⟩ := cp_led (h.1.cpI h.2.1) ho ha hd
  exact ⟨r, r1, ⟨h.1.cpd r2, h.2.1, h.2.2⟩, r2.1⟩
