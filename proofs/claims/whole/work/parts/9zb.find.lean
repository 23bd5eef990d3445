/-! PURE. Ships by their names. -/
section NM
variable {ν μ : Mm}
/-- the bytes from p on are the text c -/
def Mt (ν : Mm) (p q c : Nat) : Prop := q = p + slen c ∧ ∀ j, j < slen c → ν.1 3 (p + j) = schar c j
theorem isAt_loop {p q c : Nat} {a1 a2 : Int32} (ha : a1 = nI p) (hq : p + slen c = q) (hq8 : q ≤ 800) : ∀ (d k : Nat), k + d = slen c → ∀ n, d + 1 ≤ n → ∃ t, g_X1_isAt_L27 ν 1 a1 a2 c n (nI k) = some t ∧ (t = true ↔ ∀ j, k ≤ j → j < slen c → ν.1 3 (p + j) = schar c j) := by
  have hs := slen_le c
  intro d
  induction d with
  | zero =>
    intro k hk n hn
    obtain ⟨n, rfl, -⟩ := succ_n hn
    refine ⟨true, ?_, ⟨fun _ j h1 h2 => absurd h2 (by omega), fun _ => rfl⟩⟩
    unfold g_X1_isAt_L27
    rw [if_pos (by rw [le32, nI_toInt (by omega), nI_toInt (by omega)]; omega)]
  | succ d ih =>
    intro k hk n hn
    obtain ⟨n, rfl, hn2⟩ := succ_n hn
    obtain ⟨t, t1, t2⟩ := ih (k + 1) (by omega) n hn2
    have U : g_X1_isAt_L27 ν 1 a1 a2 c (n + 1) (nI k) = if ν.1 3 (p + k) = schar c k then g_X1_isAt_L27 ν 1 a1 a2 c n (nI (k + 1)) else some false := by
      conv => lhs; unfold g_X1_isAt_L27
      rw [if_neg (by rw [le32, nI_toInt (by omega), nI_toInt (by omega)]; omega), ha, nI_add, asr_pos (show vp_in (nI (p + k)) (szB 1) from vp_in_nI (show p + k < 800 by omega) (by decide)), asr_pos (vp_in_nI (by omega) (by omega)), cl_nI (show p + k < 2 ^ 31 by omega), cl_nI (show k < 2 ^ 31 by omega), nI1]
    rw [U]
    by_cases e : ν.1 3 (p + k) = schar c k
    · rw [if_pos e]
      refine ⟨t, t1, t2.trans ⟨fun h j h1 h2 => ?_, fun h j h1 h2 => h j (by omega) h2⟩⟩
      by_cases ej : j = k
      · rw [ej]; exact e
      · exact h j (by omega) h2
    · rw [if_neg e]
      exact ⟨false, rfl, ⟨fun h => absurd h (by decide), fun h => absurd (h k (Nat.le_refl k) (by omega)) e⟩⟩
theorem isAt_of {p q len c : Nat} (hpq : p ≤ q) (hql : q ≤ len) (hlen : len ≤ 800) (e : ν.1 1 2 = nI len) : ∃ t, g_X1_isAt ν 1 (nI p) (nI q) c = some t ∧ (t = true ↔ Mt ν p q c) := by
  have hs := slen_le c
  unfold g_X1_isAt
  rw [asr_pos (show isByt 1 from Or.inl rfl), if_neg (nI_nn (by omega)), e, if_neg (by rw [lt32, nI_toInt (by omega), nI_toInt (by omega)]; omega)]
  have es : nI q - nI p = nI (q - p) := by
    have := nI_sub (q - p) p
    rw [Nat.sub_add_cancel hpq] at this
    exact this
  rw [es]
  by_cases h : q - p = slen c
  · rw [if_pos (by rw [h])]
    obtain ⟨t, t1, t2⟩ := isAt_loop (ν := ν) (a2 := nI q) (c := c) (p := p) (q := q) rfl (by omega) (by omega) (slen c) 0 (by omega) 10000 (by omega)
    exact ⟨t, t1, t2.trans ⟨fun g => ⟨by omega, fun j hj => g j (by omega) hj⟩, fun g j h1 h2 => g.2 j h2⟩⟩
  · rw [if_neg (fun z => h ((nI_eq (by omega) (by omega)).mp z))]
    exact ⟨false, rfl, ⟨fun g => absurd g (by decide), fun g => absurd g.1 (by omega)⟩⟩
theorem nar_rg {x : Int32} (h : rg x 97 122) : vp_nar .byte x = x := by
  have h1 : ∀ d, d < 128 → vp_nar .byte (nI d) = nI d := by decide +kernel
  obtain ⟨a1, a2⟩ := h
  obtain ⟨w5, w6, w7⟩ := cl_of (x := x) (hi := 122) ⟨by omega, a2⟩
  rw [w5]
  exact h1 _ (by omega)
/-- the bytes from p on are the name of the ship at o -/
def Ms (ν : Mm) (p q o : Nat) : Prop := nI (q - p) = ν.1 o 1 ∧ ∀ j, j < q - p → vp_nar .byte (ν.1 (o + 1) j) = ν.1 3 (p + j)
theorem bA1 {j len : Nat} (hj : j < len) (hlen : len ≤ 800) (e : ν.1 1 2 = nI len) : g_X1_byteAt ν 1 (nI j) = some (ν.1 3 j) := by
  unfold g_X1_byteAt
  rw [asr_pos (show isByt 1 from Or.inl rfl), if_neg (nI_nn (by omega)), e, if_neg (by rw [le32, nI_toInt (by omega), nI_toInt (by omega)]; omega), asr_pos (show vp_in (nI j) (szB 1) from vp_in_nI (show j < 800 by omega) (by decide)), cl_nI (by omega)]
theorem iN_loop {o p q len m : Nat} {a2 a3 : Int32} (ha : a2 = nI p) (hq : p + m = q) (hql : q ≤ len) (hlen : len ≤ 800) (e : ν.1 1 2 = nI len) (e1 : ν.1 o 1 = nI m) (hm : m ≤ 6) : ∀ (d k : Nat), k + d = m → ∀ n, d + 1 ≤ n → ∃ t, g_X9_isNamed_L15 ν o 1 a2 a3 n (nI k) = some t ∧ (t = true ↔ ∀ j, k ≤ j → j < m → vp_nar .byte (ν.1 (o + 1) j) = ν.1 3 (p + j)) := by
  intro d
  induction d with
  | zero =>
    intro k hk n hn
    obtain ⟨n, rfl, -⟩ := succ_n hn
    refine ⟨true, ?_, ⟨fun _ j h1 h2 => absurd h2 (by omega), fun _ => rfl⟩⟩
    unfold g_X9_isNamed_L15
    rw [e1, if_pos (by rw [le32, nI_toInt (by omega), nI_toInt (by omega)]; omega)]
  | succ d ih =>
    intro k hk n hn
    obtain ⟨n, rfl, hn2⟩ := succ_n hn
    obtain ⟨t, t1, t2⟩ := ih (k + 1) (by omega) n hn2
    have U : g_X9_isNamed_L15 ν o 1 a2 a3 (n + 1) (nI k) = if vp_nar .byte (ν.1 (o + 1) k) = ν.1 3 (p + k) then g_X9_isNamed_L15 ν o 1 a2 a3 n (nI (k + 1)) else some false := by
      conv => lhs; unfold g_X9_isNamed_L15
      rw [e1, if_neg (by rw [le32, nI_toInt (by omega), nI_toInt (by omega)]; omega), asr_pos (vp_in_nI (by omega) (by decide)), cl_nI (by omega), ha, nI_add, bA1 (by omega) hlen e, bnd_s, nI1]
    rw [U]
    by_cases e9 : vp_nar .byte (ν.1 (o + 1) k) = ν.1 3 (p + k)
    · rw [if_pos e9]
      refine ⟨t, t1, t2.trans ⟨fun h j h1 h2 => ?_, fun h j h1 h2 => h j (by omega) h2⟩⟩
      by_cases ej : j = k
      · rw [ej]; exact e9
      · exact h j (by omega) h2
    · rw [if_neg e9]
      exact ⟨false, rfl, ⟨fun h => absurd h (by decide), fun h => absurd (h k (Nat.le_refl k) (by omega)) e9⟩⟩
theorem isN_of {o p q len m : Nat} (ho : isShip o) (hpq : p ≤ q) (hql : q ≤ len) (hlen : len ≤ 800) (e : ν.1 1 2 = nI len) (e1 : ν.1 o 1 = nI m) (hm : m ≤ 6) : ∃ t, g_X9_isNamed ν o 1 (nI p) (nI q) = some t ∧ (t = true ↔ Ms ν p q o) := by
  have es : nI q - nI p = nI (q - p) := by
    have := nI_sub (q - p) p
    rw [Nat.sub_add_cancel hpq] at this
    exact this
  unfold g_X9_isNamed
  rw [asr_pos ho, asr_pos (show isByt 1 from Or.inl rfl), es, e1]
  by_cases h : q - p = m
  · rw [if_pos (by rw [h])]
    obtain ⟨t, t1, t2⟩ := iN_loop (ν := ν) (o := o) (a2 := nI p) (a3 := nI q) (p := p) (q := q) rfl (by omega) hql hlen e e1 hm m 0 (by omega) 10000 (by omega)
    exact ⟨t, t1, t2.trans ⟨fun g => ⟨by rw [e1, h], fun j hj => g j (by omega) (by omega)⟩, fun g j h1 h2 => g.2 j (by omega)⟩⟩
  · rw [if_neg (fun z => h ((nI_eq (by omega) (by omega)).mp z))]
    exact ⟨false, rfl, ⟨fun g => absurd g (by decide), fun g => absurd ((nI_eq (by omega) (by omega)).mp (g.1.trans e1)) h⟩⟩
/-- the class's search: the first ship whose name matches -/
theorem sn_loop {L p q len m : Nat} {a2 a3 : Int32} (hl : isLed L) (hpq : p ≤ q) (hql : q ≤ len) (hlen : len ≤ 800) (e : ν.1 1 2 = nI len) (h2 : a2 = nI p) (h3 : a3 = nI q) (e5 : ν.1 L 5 = nI m) (hm : m ≤ 8) (hN : ∀ s, s < m → ∃ l6, l6 ≤ 6 ∧ ν.1 (L + (6 + 2 * s)) 1 = nI l6) : ∀ (d k : Nat), k + d = m → ∀ n, d + 1 ≤ n → (∃ s, k ≤ s ∧ s < m ∧ g_X5_shipNamed_L3 ν L 1 a2 a3 n (nI k) = some (nI s) ∧ Ms ν p q (L + (6 + 2 * s)) ∧ ∀ j, k ≤ j → j < s → ¬ Ms ν p q (L + (6 + 2 * j))) ∨ (g_X5_shipNamed_L3 ν L 1 a2 a3 n (nI k) = some (-1) ∧ ∀ j, k ≤ j → j < m → ¬ Ms ν p q (L + (6 + 2 * j))) := by
  intro d
  induction d with
  | zero =>
    intro k hk n hn
    obtain ⟨n, rfl, -⟩ := succ_n hn
    refine Or.inr ⟨?_, fun j h1 h2 => absurd h2 (by omega)⟩
    unfold g_X5_shipNamed_L3
    rw [e5, if_pos (by rw [le32, nI_toInt (by omega), nI_toInt (by omega)]; omega)]
  | succ d ih =>
    intro k hk n hn
    obtain ⟨n, rfl, hn2⟩ := succ_n hn
    obtain ⟨l6, y1, y2⟩ := hN k (by omega)
    obtain ⟨t, t1, t2⟩ := isN_of (ν := ν) (o := L + (6 + 2 * k)) ⟨L, k, hl, by omega, rfl⟩ hpq hql hlen e y2 y1
    have U : g_X5_shipNamed_L3 ν L 1 a2 a3 (n + 1) (nI k) = if t = true then some (nI k) else g_X5_shipNamed_L3 ν L 1 a2 a3 n (nI (k + 1)) := by
      conv => lhs; unfold g_X5_shipNamed_L3
      rw [e5, if_neg (by rw [le32, nI_toInt (by omega), nI_toInt (by omega)]; omega), asr_pos (vp_in_nI (by omega) (by decide)), cl_nI (by omega), h2, h3, t1, bnd_s, nI1]
    rw [U]
    cases t with
    | true =>
      rw [if_pos rfl]
      exact Or.inl ⟨k, Nat.le_refl k, by omega, rfl, t2.mp rfl, fun j h1 h2 => absurd h2 (by omega)⟩
    | false =>
      rw [if_neg (by decide)]
      have nt : ¬ Ms ν p q (L + (6 + 2 * k)) := fun z => absurd (t2.mpr z) (by decide)
      have ext : ∀ s, (∀ j, k + 1 ≤ j → j < s → ¬ Ms ν p q (L + (6 + 2 * j))) → ∀ j, k ≤ j → j < s → ¬ Ms ν p q (L + (6 + 2 * j)) := fun s h j h1 h2 => by
        by_cases ej : j = k
        · rw [ej]; exact nt
        · exact h j (by omega) h2
      rcases ih (k + 1) (by omega) n hn2 with ⟨s, g1, g2, g3, g4, g5⟩ | ⟨g1, g2⟩
      · exact Or.inl ⟨s, by omega, g2, g3, g4, ext s g5⟩
      · exact Or.inr ⟨g1, ext m g2⟩
/-- the letter k of a token, 0 behind it -/
def ltr (μ : Mm) (p q k : Nat) : Int32 := if k < q - p then μ.1 4 (p + k) else 0
theorem letter_of {p q k : Nat} (hpq : p ≤ q) (hq : q ≤ 800) (e8 : μ.1 0 8 = nI q) (e9 : μ.1 0 9 = nI p) (hk : k < 800) : g_X12_letter μ (nI k) = some (ltr μ p q k) := by
  have es : nI q - nI p = nI (q - p) := by
    have := nI_sub (q - p) p
    rw [Nat.sub_add_cancel hpq] at this
    exact this
  unfold g_X12_letter ltr
  rw [e8, e9, es, nI_add]
  by_cases h : k < q - p
  · rw [if_neg (by rw [le32, nI_toInt (by omega), nI_toInt (by omega)]; omega), if_pos h, asr_pos (vp_in_nI (by omega) (by decide)), cl_nI (by omega)]
  · rw [if_pos (by rw [le32, nI_toInt (by omega), nI_toInt (by omega)]; omega), if_neg h]
theorem nm34_f (s : Int32) : ∀ n k, g_X12_named_L34 μ (n + 1) s false (nI k) = some false := by
  intro n k
  unfold g_X12_named_L34
  rw [if_neg (show ¬ false = true by decide), ite_self]
theorem nm34 {R p q s : Nat} (hpq : p ≤ q) (hq : q ≤ 800) (e8 : μ.1 0 8 = nI q) (e9 : μ.1 0 9 = nI p) (hR : μ.2.2 0 3 = R) (hr : isRow R) (hs : s < 8) : ∀ (d k : Nat), k + d = 6 → ∀ n, d + 1 ≤ n → ∃ t, g_X12_named_L34 μ n (nI s) true (nI k) = some t ∧ (t = true ↔ ∀ j, k ≤ j → j < 6 → μ.1 R (274 + 7 * s + 1 + j) = ltr μ p q j) := by
  intro d
  induction d with
  | zero =>
    intro k hk n hn
    obtain ⟨n, rfl, -⟩ := succ_n hn
    refine ⟨true, ?_, ⟨fun _ j h1 h2 => absurd h2 (by omega), fun _ => rfl⟩⟩
    unfold g_X12_named_L34
    rw [if_pos (by rw [le32, nI_toInt (by omega)]; show (6 : Int) ≤ (k : Int); omega)]
  | succ d ih =>
    intro k hk n hn
    obtain ⟨n, rfl, hn2⟩ := succ_n hn
    obtain ⟨n, rfl, hn3⟩ : ∃ n', n = n' + 1 ∧ d ≤ n' := ⟨n - 1, by omega, by omega⟩
    obtain ⟨t, t1, t2⟩ := ih (k + 1) (by omega) (n + 1) (by omega)
    have U : g_X12_named_L34 μ (n + 1 + 1) (nI s) true (nI k) = if μ.1 R (274 + 7 * s + 1 + k) = ltr μ p q k then g_X12_named_L34 μ (n + 1) (nI s) true (nI (k + 1)) else g_X12_named_L34 μ (n + 1) (nI s) false (nI (k + 1)) := by
      conv => lhs; unfold g_X12_named_L34
      rw [if_neg (by rw [le32, nI_toInt (by omega)]; show ¬ (6 : Int) ≤ (k : Int); omega), if_pos rfl, hR, asr_pos hr, show (((274 : Int32) + ((7 : Int32) * nI s)) + (1 : Int32)) + nI k = nI (274 + 7 * s + 1 + k) from by rw [show ((274 : Int32) + ((7 : Int32) * nI s)) + (1 : Int32) = nI (274 + 7 * s + 1) from ix_m rfl 274 7 1, nI_add], asr_pos (vp_in_nI (by omega) (by decide)), letter_of hpq hq e8 e9 (by omega), bnd_s, cl_nI (by omega), nI1]
    rw [U]
    by_cases e : μ.1 R (274 + 7 * s + 1 + k) = ltr μ p q k
    · rw [if_pos e]
      refine ⟨t, t1, t2.trans ⟨fun h j h1 h2 => ?_, fun h j h1 h2 => h j (by omega) h2⟩⟩
      by_cases ej : j = k
      · rw [ej]; exact e
      · exact h j (by omega) h2
    · rw [if_neg e, nm34_f]
      exact ⟨false, rfl, ⟨fun h => absurd h (by decide), fun h => absurd (h k (Nat.le_refl k) (by omega)) e⟩⟩
/-- the model's row of a name is the token -/
def Mn (μ : Mm) (R p q s : Nat) : Prop := q - p ≤ 6 ∧ ∀ j, j < 6 → μ.1 R (274 + 7 * s + 1 + j) = ltr μ p q j
theorem nm2 {R p q m : Nat} (hpq : p ≤ q) (hq : q ≤ 800) (e8 : μ.1 0 8 = nI q) (e9 : μ.1 0 9 = nI p) (hR : μ.2.2 0 3 = R) (hr : isRow R) (e0 : μ.1 R 0 = nI m) (hm : m ≤ 8) : ∀ (d k : Nat), k + d = m → ∀ n, d + 1 ≤ n → (∃ s, k ≤ s ∧ s < m ∧ g_X12_named_L2 μ n (nI k) = some (nI s) ∧ Mn μ R p q s ∧ ∀ j, k ≤ j → j < s → ¬ Mn μ R p q j) ∨ (g_X12_named_L2 μ n (nI k) = some (-1) ∧ ∀ j, k ≤ j → j < m → ¬ Mn μ R p q j) := by
  have es : nI q - nI p = nI (q - p) := by
    have := nI_sub (q - p) p
    rw [Nat.sub_add_cancel hpq] at this
    exact this
  intro d
  induction d with
  | zero =>
    intro k hk n hn
    obtain ⟨n, rfl, -⟩ := succ_n hn
    refine Or.inr ⟨?_, fun j h1 h2 => absurd h2 (by omega)⟩
    unfold g_X12_named_L2
    rw [hR, asr_pos hr, e0, if_pos (by rw [le32, nI_toInt (by omega), nI_toInt (by omega)]; omega)]
  | succ d ih =>
    intro k hk n hn
    obtain ⟨n, rfl, hn2⟩ := succ_n hn
    obtain ⟨t, t1, t2⟩ : ∃ t, (g_X12_named_L2 μ (n + 1) (nI k) = if t = true then some (nI k) else g_X12_named_L2 μ n (nI (k + 1))) ∧ (t = true ↔ Mn μ R p q k) := by
      by_cases h6 : q - p ≤ 6
      · obtain ⟨t, t1, t2⟩ := nm34 hpq hq e8 e9 hR hr (s := k) (by omega) 6 0 (by omega) 10000 (by omega)
        refine ⟨t, ?_, t2.trans ⟨fun h => ⟨h6, fun j hj => h j (by omega) hj⟩, fun h j h1 h2 => h.2 j h2⟩⟩
        conv => lhs; unfold g_X12_named_L2
        rw [hR, asr_pos hr, e0, if_neg (by rw [le32, nI_toInt (by omega), nI_toInt (by omega)]; omega), e8, e9, es, if_neg (by rw [lt32, nI_toInt (by omega)]; show ¬ (6 : Int) < ((q - p : Nat) : Int); omega), show g_X12_named_L34 μ 10000 (nI k) true (0 : Int32) = some t from t1, bnd_s, nI1]
      · refine ⟨false, ?_, ⟨fun h => absurd h (by decide), fun h => absurd h.1 h6⟩⟩
        conv => lhs; unfold g_X12_named_L2
        rw [hR, asr_pos hr, e0, if_neg (by rw [le32, nI_toInt (by omega), nI_toInt (by omega)]; omega), e8, e9, es, if_pos (by rw [lt32, nI_toInt (by omega)]; show (6 : Int) < ((q - p : Nat) : Int); omega), show g_X12_named_L34 μ 10000 (nI k) false (0 : Int32) = some false from nm34_f (nI k) 9999 0, bnd_s, nI1]
    rw [t1]
    cases t with
    | true =>
      rw [if_pos rfl]
      exact Or.inl ⟨k, Nat.le_refl k, by omega, rfl, t2.mp rfl, fun j h1 h2 => absurd h2 (by omega)⟩
    | false =>
      rw [if_neg (by decide)]
      have nt : ¬ Mn μ R p q k := fun z => absurd (t2.mpr z) (by decide)
      have ext : ∀ s, (∀ j, k + 1 ≤ j → j < s → ¬ Mn μ R p q j) → ∀ j, k ≤ j → j < s → ¬ Mn μ R p q j := fun s h j h1 h2 => by
        by_cases ej : j = k
        · rw [ej]; exact nt
        · exact h j (by omega) h2
      rcases ih (k + 1) (by omega) n hn2 with ⟨s, g1, g2, g3, g4, g5⟩ | ⟨g1, g2⟩
      · exact Or.inl ⟨s, by omega, g2, g3, g4, ext s g5⟩
      · exact Or.inr ⟨g1, ext m g2⟩
/-- both say the same of a name -/
theorem ms_mn {R p q s o : Nat} (hpq : p < q) (hq : q ≤ 800) (hb : ∀ k, p ≤ k → k < q → ν.1 3 k = μ.1 4 k ∧ rg (μ.1 4 k) 97 122) (hN : Nm (ν.1 o 1) (ν.1 (o + 1)) (fun k => μ.1 R (274 + 7 * s + 1 + k))) : Ms ν p q o ↔ Mn μ R p q s := by
  obtain ⟨len, c1, c2, c3, c4, c5⟩ := hN
  have nb : ∀ j, j < len → vp_nar .byte (ν.1 (o + 1) j) = μ.1 R (274 + 7 * s + 1 + j) := fun j hj => by
    obtain ⟨d1, d2⟩ := c4 j hj
    rw [d1]
    exact nar_rg d2
  constructor
  · intro ⟨h1, h2⟩
    have hl : q - p = len := (nI_eq (by omega) (by omega)).mp (h1.trans c3)
    refine ⟨by omega, fun j hj => ?_⟩
    unfold ltr
    by_cases e : j < q - p
    · rw [if_pos e, ← (hb (p + j) (by omega) (by omega)).1, ← h2 j e]
      exact (nb j (by omega)).symm
    · rw [if_neg e]
      exact c5 j (by omega) hj
  · intro ⟨h1, h2⟩
    have hl : len = q - p := by
      rcases Nat.lt_trichotomy len (q - p) with g | g | g
      · have e1 := c5 len (Nat.le_refl _) (by omega)
        have e2 := h2 len (by omega)
        unfold ltr at e2
        rw [if_pos g] at e2
        have e3 := (hb (p + len) (by omega) (by omega)).2.1
        rw [← e2, show μ.1 R (274 + 7 * s + 1 + len) = 0 from e1] at e3
        exact absurd e3 (by decide)
      · exact g
      · have e1 : 97 ≤ (μ.1 R (274 + 7 * s + 1 + (q - p))).toInt := (c4 (q - p) g).2.1
        have e2 := h2 (q - p) (by omega)
        unfold ltr at e2
        rw [if_neg (by omega)] at e2
        rw [show μ.1 R (274 + 7 * s + 1 + (q - p)) = 0 from e2] at e1
        exact absurd e1 (by decide)
    refine ⟨by rw [c3, hl], fun j hj => ?_⟩
    have e2 := h2 j (by omega)
    unfold ltr at e2
    rw [if_pos hj] at e2
    rw [nb j (by omega), (hb (p + j) (by omega) (by omega)).1]
    exact e2
/-- both searches -/
theorem named_of {L R p q len : Nat} {pp : Nat → Int64} (hL : LdR ν L (μ.1 R) pp) (h0 : rg (μ.1 R 0) 0 8) (hl : isLed L) (hR : μ.2.2 0 3 = R) (hr : isRow R) (hpq : p < q) (hql : q ≤ len) (hlen : len ≤ 800) (e : ν.1 1 2 = nI len) (e8 : μ.1 0 8 = nI q) (e9 : μ.1 0 9 = nI p) (hb : ∀ k, p ≤ k → k < q → ν.1 3 k = μ.1 4 k ∧ rg (μ.1 4 k) 97 122) : ∃ z, g_X5_shipNamed ν L 1 (nI p) (nI q) = some z ∧ g_X12_named μ = some z ∧ (z = -1 ∨ ∃ s, s < cl (μ.1 R 0) ∧ z = nI s) := by
  obtain ⟨k1, k2, k3⟩ := cl_of h0
  have hm : cl (μ.1 R 0) ≤ 8 := by omega
  have C := sn_loop (ν := ν) (L := L) (p := p) (q := q) (len := len) (m := cl (μ.1 R 0)) (a2 := nI p) (a3 := nI q) hl (by omega) hql hlen e rfl rfl (hL.1.1.trans k1) hm (fun s hs => by
    obtain ⟨l6, -, y1, y2, -⟩ := (hL.2.1 s hs).2.2
    exact ⟨l6, y1, y2⟩) (cl (μ.1 R 0)) 0 (by omega) 10000 (by omega)
  have M := nm2 (μ := μ) (R := R) (p := p) (q := q) (m := cl (μ.1 R 0)) (by omega) (by omega) e8 e9 hR hr k1 hm (cl (μ.1 R 0)) 0 (by omega) 10000 (by omega)
  have T : ∀ s, s < cl (μ.1 R 0) → (Ms ν p q (L + (6 + 2 * s)) ↔ Mn μ R p q s) := fun s hs => ms_mn hpq (by omega) hb (hL.2.1 s hs).2.2
  unfold g_X5_shipNamed g_X12_named
  rw [asr_pos hl, asr_pos (show isByt 1 from Or.inl rfl)]
  rcases C with ⟨s, -, s2, s3, s4, s5⟩ | ⟨s1, s2⟩
  · rcases M with ⟨t, -, t2, t3, t4, t5⟩ | ⟨t1, t2⟩
    · have est : s = t := by
        rcases Nat.lt_trichotomy s t with g | g | g
        · exact absurd ((T s s2).mp s4) (t5 s (by omega) g)
        · exact g
        · exact absurd ((T t t2).mpr t4) (s5 t (by omega) g)
      subst est
      exact ⟨nI s, s3, t3, Or.inr ⟨s, s2, rfl⟩⟩
    · exact absurd ((T s s2).mp s4) (t2 s (by omega) s2)
  · rcases M with ⟨t, -, t2, t3, t4, t5⟩ | ⟨t1, t2⟩
    · exact absurd ((T t t2).mpr t4) (s2 t (by omega) t2)
    · exact ⟨-1, s1, t1, Or.inl rfl⟩
theorem fd_loop {ν0 : Mm} {len : Nat} (hlen : len ≤ 800) (e8 : μ.1 0 8 = nI len) {w : Option (Int32 × Mm)} : ∀ (d k : Nat), k + d = len → ∀ n, d + 2 ≤ n → ((∀ j, k ≤ j → j < len → rg (μ.1 4 j) 97 122) → bnd (g_X12_named μ) (fun q => some (q, μ)) = w) → ((¬ ∀ j, k ≤ j → j < len → rg (μ.1 4 j) 97 122) → some (-1, μ) = w) → g_X12_find_L38 ν0 n μ 1 (nI k) = w := by
  intro d
  induction d with
  | zero =>
    intro k hk n hn h1 h2
    obtain ⟨n, rfl, -⟩ := succ_n hn
    unfold g_X12_find_L38
    rw [e8, if_pos (by rw [le32, nI_toInt (by omega), nI_toInt (by omega)]; omega), if_neg (by decide)]
    exact h1 (fun j g1 g2 => absurd g2 (by omega))
  | succ d ih =>
    intro k hk n hn h1 h2
    obtain ⟨n, rfl, hn2⟩ : ∃ n', n = n' + 1 ∧ d + 2 ≤ n' := ⟨n - 1, by omega, by omega⟩
    have er : f_X12_in ((μ.1 4 k).toInt64) (97 : Int64) (122 : Int64) = decide (97 ≤ (μ.1 4 k).toInt ∧ (μ.1 4 k).toInt ≤ 122) := inX_eq
    have U : g_X12_find_L38 ν0 (n + 1) μ 1 (nI k) = g_X12_find_L38 ν0 n μ (bI (decide (97 ≤ (μ.1 4 k).toInt ∧ (μ.1 4 k).toInt ≤ 122))) (nI (k + 1)) := by
      conv => lhs; unfold g_X12_find_L38
      rw [e8, if_neg (by rw [le32, nI_toInt (by omega), nI_toInt (by omega)]; omega), if_neg (show ¬ (1 : Int32) = 0 by decide), asr_pos (vp_in_nI (by omega) (by decide)), bnd_s, cl_nI (by omega), er, nI1]
    rw [U]
    by_cases g : 97 ≤ (μ.1 4 k).toInt ∧ (μ.1 4 k).toInt ≤ 122
    · rw [decide_eq_true g]
      refine ih (k + 1) (by omega) n hn2 (fun h => h1 (fun j g1 g2 => ?_)) (fun h => h2 (fun z => h (fun j g1 g2 => z j (by omega) g2)))
      by_cases ej : j = k
      · rw [ej]; exact g
      · exact h j (by omega) g2
    · rw [decide_eq_false g]
      obtain ⟨n, rfl, hn3⟩ : ∃ n', n = n' + 1 ∧ d + 1 ≤ n' := ⟨n - 1, by omega, by omega⟩
      have V : g_X12_find_L38 ν0 (n + 1) μ (bI false) (nI (k + 1)) = some (-1, μ) := by
        unfold g_X12_find_L38
        rw [show bI false = 0 from rfl]
        split
        · rw [if_pos rfl]
        · rw [if_pos rfl, if_pos rfl]
      rw [V]
      exact h2 (fun z => g (z k (Nat.le_refl k) (by omega)))
end NM
theorem s5 : Sm_5 RelP := by
  intro n ν μ hn hR
  obtain ⟨⟨hL, hW, hP⟩, hHi, ⟨len, l1, l2, l3, l4⟩, ⟨on, o1, o2, o3, o4⟩, ⟨p1, p2⟩, hr⟩ := id hR
  obtain ⟨μ7, e7⟩ : ∃ m, m = uI (uI (uI (uI μ 0 0 0) 0 9 0) 0 8 (nI len)) 0 6 0 := ⟨_, rfl⟩
  have E : ∀ off, off ≠ 0 → Eq3 μ μ7 off := fun off h => by
    rw [e7]
    exact ((((Eq3.rf μ off).I h).I h).I h).I h
  have v8 : μ7.1 0 8 = nI len := by rw [e7]; simp [uI_at]
  have v9 : μ7.1 0 9 = nI 0 := by rw [e7]; simp [uI_at]; rfl
  have v6 : μ7.1 0 6 = 0 := by rw [e7]; simp [uI_at]
  have vk : ∀ k, k ≠ 0 → k ≠ 9 → k ≠ 8 → k ≠ 6 → μ7.1 0 k = μ.1 0 k := fun k a b c d => by rw [e7]; simp [uI_at, a, b, c, d]
  have v2 : μ7.2 = μ.2 := by rw [e7]; rfl
  have x1 : μ7.1 1 = μ.1 1 := (E 1 (by decide)).1
  have x4 : μ7.1 4 = μ.1 4 := (E 4 (by decide)).1
  have hL7 : LdR ν 7 (μ7.1 1) (μ.2.1 3) := by rw [x1]; exact hL
  obtain ⟨k1, k2, k3⟩ := cl_of hW.1.1
  have hrel : RelP (n + 1) (uI ν 1 2 0) μ7 := by
    refine RelP.mono (n := n) ?_ (Nat.le_succ n)
    refine ⟨(LdW.cg ⟨hL, hW, hP⟩ (fun off g1 g2 => (Eq3.rf ν off).I (by omega)) x1 (by rw [v2])), hHi.cg (fun off g1 g2 => (Eq3.rf ν off).I (by omega)) (E 5 (by decide)).1 (by rw [v2]) (vk 19 (by decide) (by decide) (by decide) (by decide)), ⟨0, by omega, ?_, v6, fun k hk => absurd hk (by omega)⟩, ⟨on, o1, ?_, ?_, fun k hk => ?_⟩, ⟨?_, ?_⟩, ?_⟩
    · rw [uI_at, if_pos ⟨rfl, rfl⟩]
      rfl
    · rw [(uI_o (show (4 : Nat) ≠ 1 by decide)).1]; exact o2
    · rw [vk 21 (by decide) (by decide) (by decide) (by decide)]; exact o3
    · rw [(uI_o (show (6 : Nat) ≠ 1 by decide)).1, (E 7 (by decide)).1]; exact o4 k hk
    · rw [(uI_o (show (661 : Nat) ≠ 1 by decide)).1, vk 12 (by decide) (by decide) (by decide) (by decide)]; exact p1
    · rw [(uI_o (show (661 : Nat) ≠ 1 by decide)).1, vk 13 (by decide) (by decide) (by decide) (by decide)]; exact p2
    · rw [v2]; exact hr
  have C := sn_loop (ν := ν) (L := 7) (p := 0) (q := len) (len := len) (m := cl (μ.1 1 0)) (a2 := nI 0) (a3 := nI len) led7 (by omega) (Nat.le_refl _) l1 l2 rfl rfl (hL.1.1.trans k1) (by omega) (fun s hs => by
    obtain ⟨l6, -, y1, y2, -⟩ := (hL.2.1 s hs).2.2
    exact ⟨l6, y1, y2⟩) (cl (μ.1 1 0)) 0 (by omega) 10000 (by omega)
  have key : ∃ z, g_X5_shipNamed ν 7 1 (0 : Int32) (nI len) = some z ∧ (if nI len ≤ 0 then g_X12_find_L38 μ 10000 μ7 0 0 else g_X12_find_L38 μ 10000 μ7 1 0) = some (z, μ7) := by
    by_cases hz : len = 0
    · subst hz
      rw [if_pos (by decide)]
      refine ⟨-1, ?_, ?_⟩
      · unfold g_X5_shipNamed
        rw [asr_pos led7, asr_pos (show isByt 1 from Or.inl rfl)]
        rcases C with ⟨s, -, s2, s3, s4, s5⟩ | ⟨s1, s2⟩
        · obtain ⟨l6, n1, n2, n3, -⟩ := (hL.2.1 s s2).2.2
          have := (nI_eq (by omega) (by omega)).mp (s4.1.trans n3)
          exact absurd n1 (by omega)
        · exact s1
      · unfold g_X12_find_L38
        split
        · rw [if_pos rfl]
        · rw [if_pos rfl, if_pos rfl]
    · rw [if_neg (by rw [le32, nI_toInt (by omega)]; show ¬ (len : Int) ≤ 0; omega)]
      by_cases hall : ∀ j, 0 ≤ j → j < len → rg (μ7.1 4 j) 97 122
      · obtain ⟨z, z1, z2, -⟩ := named_of (μ := μ7) (R := 1) hL7 (by rw [x1]; exact hW.1.1) led7 (by rw [v2]; exact hr) (Or.inl rfl) (show 0 < len by omega) (Nat.le_refl _) l1 l2 v8 v9 (fun k h1 h2 => ⟨by rw [x4]; exact (l4 k h2).1, hall k h1 h2⟩)
        exact ⟨z, z1, fd_loop l1 v8 len 0 (by omega) 10000 (by omega) (fun _ => by rw [z2, bnd_s]) (fun h => absurd hall h)⟩
      · refine ⟨-1, ?_, fd_loop l1 v8 len 0 (by omega) 10000 (by omega) (fun h => absurd h hall) (fun _ => rfl)⟩
        unfold g_X5_shipNamed
        rw [asr_pos led7, asr_pos (show isByt 1 from Or.inl rfl)]
        rcases C with ⟨s, -, s2, s3, s4, s5⟩ | ⟨s1, s2⟩
        · refine absurd (fun j _ hj => ?_) hall
          obtain ⟨l6, n1, n2, n3, n4, -⟩ := (hL.2.1 s s2).2.2
          have el := (nI_eq (by omega) (by omega)).mp (s4.1.trans n3)
          have c4 := n4 j (by omega)
          have g := s4.2 j (by omega)
          rw [Nat.zero_add, c4.1, nar_rg c4.2] at g
          rw [x4, ← (l4 j hj).1, ← g]
          exact c4.2
        · exact s1
  obtain ⟨z, z1, z2⟩ := key
  refine ⟨(z, uI ν 1 2 0), (z, μ7), ?_, ?_, rfl, hrel⟩
  · unfold g_X11_find
    rw [l2, z1, bnd_s, bnd_s]
  · unfold g_X12_find
    rw [bnd_s, bnd_s, show (uI (uI μ 0 0 0) 0 9 0).1 0 6 = nI len from by rw [uI_at, if_neg (fun z => absurd z.2 (by decide)), uI_at, if_neg (fun z => absurd z.2 (by decide))]; exact l3, bnd_s, bnd_s, ← e7, v8]
    exact z2
