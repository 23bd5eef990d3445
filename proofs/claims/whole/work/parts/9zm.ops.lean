/-! PURE. Words and numbers of a text. -/
section OPS
variable {ν μ : Mm} {len : Nat}
/-- the token that both stand at -/
def Tkn (ν μ : Mm) (len : Nat) : Prop := ∃ p q t, t < 4 ∧ ν.1 661 3 = nI p ∧ ν.1 661 4 = nI q ∧ ν.1 661 2 = nI t ∧ μ.1 0 9 = nI p ∧ μ.1 0 8 = nI q ∧ μ.1 0 10 = nI t ∧ Tok μ len p q t
/-- both read, and no fault yet -/
def Ps (ν μ : Mm) (len : Nat) : Prop := Txt ν μ len ∧ Tkn ν μ len ∧ ν.1 661 9 = 0 ∧ ν.1 661 10 = -1 ∧ μ.1 0 12 = 0 ∧ μ.1 0 13 = -1
/-- both have the same fault -/
def Bs (ν μ : Mm) : Prop := ν.1 661 9 = μ.1 0 12 ∧ ν.1 661 10 = μ.1 0 13 ∧ ¬ μ.1 0 12 = 0
/-- what reading leaves alone -/
def Mw (ν μ ν' μ' : Mm) : Prop := (∀ off, off ≠ 661 → Eq3 ν ν' off) ∧ (ν'.2 = ν.2 ∧ ∀ k, k = 6 ∨ k = 7 ∨ k = 8 → ν'.1 661 k = ν.1 661 k) ∧ (∀ off, off ≠ 0 → Eq3 μ μ' off) ∧ μ'.2 = μ.2 ∧ ∀ k, k < 8 ∨ 13 < k → μ'.1 0 k = μ.1 0 k
theorem Mw.rf (ν μ : Mm) : Mw ν μ ν μ := ⟨fun off _ => Eq3.rf ν off, ⟨rfl, fun _ _ => rfl⟩, fun off _ => Eq3.rf μ off, rfl, fun _ _ => rfl⟩
theorem Mw.tr {ν μ ν1 μ1 ν2 μ2 : Mm} (h : Mw ν μ ν1 μ1) (g : Mw ν1 μ1 ν2 μ2) : Mw ν μ ν2 μ2 := by
  obtain ⟨h1, ⟨h2, h2'⟩, h3, h4, h5⟩ := h
  obtain ⟨g1, ⟨g2, g2'⟩, g3, g4, g5⟩ := g
  exact ⟨fun off ho => (h1 off ho).tr (g1 off ho), ⟨g2.trans h2, fun k hk => (g2' k hk).trans (h2' k hk)⟩, fun off ho => (h3 off ho).tr (g3 off ho), g4.trans h4, fun k hk => (g5 k hk).trans (h5 k hk)⟩
theorem Mw.mv {ν μ ν2 μ2 : Mm} (h : Mv ν μ ν2 μ2) : Mw ν μ ν2 μ2 := by
  obtain ⟨h1, ⟨h2, h2'⟩, h3, h4, h5⟩ := h
  exact ⟨h1, ⟨h2, fun k hk => h2' k (by omega) (by omega) (by omega)⟩, h3, h4, fun k hk => h5 k (by omega)⟩
theorem Mw.C {ν μ ν' μ' : Mm} (h : Mw ν μ ν' μ') {k : Nat} (hk : k < 6 ∨ 8 < k) (x : Int32) : Mw ν μ (uI ν' 661 k x) μ' := by
  obtain ⟨h1, ⟨h2, h2'⟩, h3, h4, h5⟩ := h
  refine ⟨fun off ho => (h1 off ho).I ho, ⟨h2, fun j hj => ?_⟩, h3, h4, h5⟩
  rw [uI_at, if_neg (fun z => by have := z.2; omega)]
  exact h2' j hj
theorem Mw.M {ν μ ν' μ' : Mm} (h : Mw ν μ ν' μ') {k : Nat} (hk : 8 ≤ k ∧ k ≤ 13) (x : Int32) : Mw ν μ ν' (uI μ' 0 k x) := by
  obtain ⟨h1, h2, h3, h4, h5⟩ := h
  refine ⟨h1, h2, fun off ho => (h3 off ho).I ho, h4, fun j hj => ?_⟩
  rw [uI_at, if_neg (fun z => by have := z.2; omega)]
  exact h5 j hj
theorem Tok.cg {μ μ' : Mm} {len p q t : Nat} (h : Tok μ len p q t) (e4 : μ'.1 4 = μ.1 4) (e11 : μ'.1 0 11 = μ.1 0 11) : Tok μ' len p q t := by
  unfold Tok at *
  rw [e4, e11]
  exact h
theorem Ps.cg {ν μ ν' μ' : Mm} {len : Nat} (h : Ps ν μ len) (e1 : ν'.1 1 = ν.1 1) (e3 : ν'.1 3 = ν.1 3) (ek : ∀ k, k = 2 ∨ k = 3 ∨ k = 4 ∨ k = 9 ∨ k = 10 → ν'.1 661 k = ν.1 661 k) (e4 : μ'.1 4 = μ.1 4) (em : ∀ k, 7 ≤ k ∧ k ≤ 13 → μ'.1 0 k = μ.1 0 k) : Ps ν' μ' len := by
  obtain ⟨⟨t1, t2, t3, t4⟩, ⟨p, q, t, k0, k1, k2, k3, k4, k5, k6, k7⟩, x1, x2, x3, x4⟩ := h
  refine ⟨⟨?_, ?_, t3, ?_⟩, ⟨p, q, t, k0, ?_, ?_, ?_, ?_, ?_, ?_, k7.cg e4 (em 11 (by omega))⟩, ?_, ?_, ?_, ?_⟩
  · rw [e1]; exact t1
  · rw [em 7 (by omega)]; exact t2
  · rw [e3, e4]; exact t4
  · rw [ek 3 (by omega)]; exact k1
  · rw [ek 4 (by omega)]; exact k2
  · rw [ek 2 (by omega)]; exact k3
  · rw [em 9 (by omega)]; exact k4
  · rw [em 8 (by omega)]; exact k5
  · rw [em 10 (by omega)]; exact k6
  · rw [ek 9 (by omega)]; exact x1
  · rw [ek 10 (by omega)]; exact x2
  · rw [em 12 (by omega)]; exact x3
  · rw [em 13 (by omega)]; exact x4
theorem good_t (h : μ.1 0 12 = 0) : f_X12_good μ = true := if_pos h
theorem good_f (h : ¬ μ.1 0 12 = 0) : f_X12_good μ = false := if_neg h
/-- the next token of both -/
theorem rd_of (h : Ps ν μ len) : ∃ ν2 μ2, g_X7_readToken ν = some ν2 ∧ g_X12_goOn μ = some μ2 ∧ Mw ν μ ν2 μ2 ∧ Ps ν2 μ2 len ∧ ν2.1 661 5 = ν.1 661 5 := by
  obtain ⟨tx, ⟨p, q, t, k0, k1, k2, k3, k4, k5, k6, k7⟩, x1, x2, x3, x4⟩ := h
  obtain ⟨ν2, μ2, f1, f2, f3, f4⟩ := rt_of tx k7.2.1 k2 k5
  refine ⟨ν2, μ2, f1, ?_, Mw.mv f3, ⟨f3.txt tx, f4, ?_, ?_, ?_, ?_⟩, f3.2.1.2 5 (by decide) (by decide) (by decide)⟩
  · unfold g_X12_goOn
    rw [bnd_s, good_t x3, if_pos rfl, f2, bnd_s]
  · rw [f3.2.1.2 9 (by decide) (by decide) (by decide)]; exact x1
  · rw [f3.2.1.2 10 (by decide) (by decide) (by decide)]; exact x2
  · rw [f3.2.2.2.2 12 (by decide)]; exact x3
  · rw [f3.2.2.2.2 13 (by decide)]; exact x4
/-- both fail -/
theorem fail_of (h : Ps ν μ len) (c : Int32) (hc : ¬ c = 0) : ∃ ν2 μ2, g_X7_fail ν c = some (false, ν2) ∧ g_X12_errs μ c = some μ2 ∧ Mw ν μ ν2 μ2 ∧ Bs ν2 μ2 := by
  obtain ⟨tx, ⟨p, q, t, k0, k1, k2, k3, k4, k5, k6, k7⟩, x1, x2, x3, x4⟩ := h
  refine ⟨uI (uI ν 661 9 c) 661 10 (nI p), uI (uI μ 0 12 c) 0 13 (nI p), ?_, ?_, (((((Mw.rf ν μ).C (by omega) _).C (by omega) _).M (by omega) _).M (by omega) _), ?_, ?_, ?_⟩
  · unfold g_X7_fail
    rw [bnd_s, bnd_s, uI_at, if_neg (fun z => absurd z.2 (by decide)), k1]
  · unfold g_X12_errs
    rw [bnd_s, good_t x3, if_pos rfl, bnd_s, bnd_s, uI_at, if_neg (fun z => absurd z.2 (by decide)), k4]
  · rw [uI_at, if_neg (fun z => absurd z.2 (by decide)), uI_at, if_pos ⟨rfl, rfl⟩, uI_at, if_neg (fun z => absurd z.2 (by decide)), uI_at, if_pos ⟨rfl, rfl⟩]
  · rw [uI_at, if_pos ⟨rfl, rfl⟩, uI_at, if_pos ⟨rfl, rfl⟩]
  · rw [uI_at, if_neg (fun z => absurd z.2 (by decide)), uI_at, if_pos ⟨rfl, rfl⟩]
    exact hc
/-! the model after a fault -/
theorem bd_goOn (h : ¬ μ.1 0 12 = 0) : g_X12_goOn μ = some μ := by
  unfold g_X12_goOn
  rw [bnd_s, good_f h, if_neg (show ¬ false = true by decide)]
theorem bd_errs (h : ¬ μ.1 0 12 = 0) (c : Int32) : g_X12_errs μ c = some μ := by
  unfold g_X12_errs
  rw [bnd_s, good_f h, if_neg (show ¬ false = true by decide)]
theorem bd_text (h : ¬ μ.1 0 12 = 0) (w : Nat) : g_X12_isText μ w = some false := by
  unfold g_X12_isText
  rw [bnd_s, good_f h, if_neg (show ¬ false = true by decide)]
theorem bd_word (h : ¬ μ.1 0 12 = 0) (w : Nat) : g_X12_word μ w = some μ := by
  unfold g_X12_word
  rw [bd_text h, bnd_s, if_neg (show ¬ false = true by decide), bd_errs h, bnd_s, bd_goOn h, bnd_s]
theorem bd_num47 (h : ¬ μ.1 0 12 = 0) (νa : Mm) (a b : Int32) : g_X12_number_J47 νa a b μ = some (a, μ) := by
  unfold g_X12_number_J47
  rw [bnd_s, good_f h, if_neg (show ¬ false = true by decide), bd_goOn h, bnd_s]
theorem bd_num20 (h : ¬ μ.1 0 12 = 0) (νa : Mm) (a b : Int32) : g_X12_number_J20 νa a b μ = some (a, μ) := by
  unfold g_X12_number_J20
  rw [bnd_s, good_f h, if_neg (show ¬ false = true by decide), bd_num47 h]
theorem bd_number (h : ¬ μ.1 0 12 = 0) (a b : Int32) : g_X12_number μ a b = some (a, μ) := by
  unfold g_X12_number
  rw [bnd_s, good_f h, if_neg (show ¬ false = true by decide), bd_num20 h]
theorem bd_na (h : ¬ μ.1 0 12 = 0) (w : Nat) (a b : Int32) : g_X12_numberAfter μ w a b = some (a, μ) := by
  unfold g_X12_numberAfter
  rw [bd_word h, bnd_s, bd_number h, bnd_s]
theorem bd_semi (h : ¬ μ.1 0 12 = 0) : g_X12_semicolon μ = some μ := by
  unfold g_X12_semicolon
  rw [bnd_s, good_f h, if_neg (show ¬ false = true by decide), bd_errs h, bnd_s, bd_goOn h, bnd_s]
theorem bd_name (h : ¬ μ.1 0 12 = 0) : g_X12_checkName μ = some μ := by
  unfold g_X12_checkName
  rw [bnd_s, good_f h, if_neg (show ¬ false = true by decide)]
/-! is it this word? -/
theorem isW_false {w : Nat} : ∀ (d k : Nat), k + d = slen w → ∀ n, d + 1 ≤ n → g_X12_isWord_L24 μ w n false (nI k) = some false := by
  intro d k hk n hn
  obtain ⟨n, rfl, -⟩ := succ_n hn
  have hs := slen_le w
  unfold g_X12_isWord_L24
  split
  · rfl
  · rw [if_neg (show ¬ false = true by decide)]
theorem isW_loop {p q w : Nat} (e9 : μ.1 0 9 = nI p) (hq : p + slen w = q) (hq8 : q ≤ 800) : ∀ (d k : Nat), k + d = slen w → ∀ n, d + 1 ≤ n → ∃ t, g_X12_isWord_L24 μ w n true (nI k) = some t ∧ (t = true ↔ ∀ j, k ≤ j → j < slen w → μ.1 4 (p + j) = schar w j) := by
  have hs := slen_le w
  intro d
  induction d with
  | zero =>
    intro k hk n hn
    obtain ⟨n, rfl, -⟩ := succ_n hn
    refine ⟨true, ?_, ⟨fun _ j h1 h2 => absurd h2 (by omega), fun _ => rfl⟩⟩
    unfold g_X12_isWord_L24
    rw [if_pos (by rw [le32, nI_toInt (by omega), nI_toInt (by omega)]; omega)]
  | succ d ih =>
    intro k hk n hn
    obtain ⟨n, rfl, hn2⟩ := succ_n hn
    have U : g_X12_isWord_L24 μ w (n + 1) true (nI k) = if μ.1 4 (p + k) = schar w k then g_X12_isWord_L24 μ w n true (nI (k + 1)) else g_X12_isWord_L24 μ w n false (nI (k + 1)) := by
      conv => lhs; unfold g_X12_isWord_L24
      rw [if_neg (by rw [le32, nI_toInt (by omega), nI_toInt (by omega)]; omega), if_pos rfl, e9, nI_add, asr_pos (vp_in_nI (by omega) (by decide)), asr_pos (vp_in_nI (by omega) (by omega)), cl_nI (by omega), cl_nI (by omega), nI1]
    rw [U]
    by_cases g : μ.1 4 (p + k) = schar w k
    · rw [if_pos g]
      obtain ⟨t, t1, t2⟩ := ih (k + 1) (by omega) n hn2
      refine ⟨t, t1, t2.trans ⟨fun z j h1 h2 => ?_, fun z j h1 h2 => z j (by omega) h2⟩⟩
      by_cases e : j = k
      · rw [e]; exact g
      · exact z j (by omega) h2
    · rw [if_neg g]
      exact ⟨false, isW_false d (k + 1) (by omega) n hn2, ⟨fun z => absurd z (by decide), fun z => absurd (z k (Nat.le_refl k) (by omega)) g⟩⟩
theorem isW_of {p q w : Nat} (hpq : p ≤ q) (hq8 : q ≤ 800) (e9 : μ.1 0 9 = nI p) (e8 : μ.1 0 8 = nI q) : ∃ t, g_X12_isWord μ w = some t ∧ (t = true ↔ q = p + slen w ∧ ∀ j, j < slen w → μ.1 4 (p + j) = schar w j) := by
  have hs := slen_le w
  have es : nI q - nI p = nI (q - p) := by
    have := nI_sub (q - p) p
    rw [Nat.sub_add_cancel hpq] at this
    exact this
  unfold g_X12_isWord
  rw [e8, e9, es]
  by_cases h : q - p = slen w
  · rw [if_pos (by rw [h])]
    obtain ⟨t, t1, t2⟩ := isW_loop (μ := μ) (w := w) (p := p) (q := q) e9 (by omega) hq8 (slen w) 0 (by omega) 10000 (by omega)
    exact ⟨t, t1, t2.trans ⟨fun g => ⟨by omega, fun j hj => g j (by omega) hj⟩, fun g j h1 h2 => g.2 j h2⟩⟩
  · rw [if_neg (fun z => h ((nI_eq (by omega) (by omega)).mp z))]
    exact ⟨false, isW_false (slen w) 0 (by omega) 10000 (by omega), ⟨fun g => absurd g (by decide), fun g => absurd g.1 (by omega)⟩⟩
/-- the class's and the model's answer, for a word token -/
theorem wd_of {p q : Nat} (tx : Txt ν μ len) (hpq : p ≤ q) (hql : q ≤ len) (k1 : ν.1 661 3 = nI p) (k2 : ν.1 661 4 = nI q) (k4 : μ.1 0 9 = nI p) (k5 : μ.1 0 8 = nI q) (w : Nat) : ∃ t, g_X1_isAt ν 1 (nI p) (nI q) w = some t ∧ g_X12_isWord μ w = some t := by
  obtain ⟨t1, t2, t3, t4⟩ := tx
  obtain ⟨a, a1, a2⟩ := isAt_of (ν := ν) (c := w) hpq hql t3 t1
  obtain ⟨b, b1, b2⟩ := isW_of (μ := μ) (w := w) hpq (by omega) k4 k5
  have e : a = b := by
    have i : a = true ↔ b = true := a2.trans (Iff.trans ⟨fun z => ⟨z.1, fun j hj => by
      have := z.1
      rw [← (t4 (p + j) (by omega)).1]; exact z.2 j hj⟩, fun z => ⟨z.1, fun j hj => by
      have := z.1
      rw [(t4 (p + j) (by omega)).1]; exact z.2 j hj⟩⟩ b2.symm)
    cases a <;> cases b <;> simp_all
  subst e
  exact ⟨a, a1, b1⟩
theorem is_of (h : Ps ν μ len) (w : Nat) : ∃ t, g_X7_tokenIs ν w = some t ∧ g_X12_isText μ w = some t := by
  obtain ⟨tx, ⟨p, q, t, k0, k1, k2, k3, k4, k5, k6, k7⟩, x1, x2, x3, x4⟩ := h
  unfold g_X7_tokenIs g_X12_isText
  rw [k3, bnd_s, good_t x3, if_pos (show true = true from rfl), k6]
  by_cases g : nI t = (1 : Int32)
  · rw [if_pos g, if_pos g]
    obtain ⟨b, b1, b2⟩ := wd_of tx k7.1 k7.2.1 k1 k2 k4 k5 w
    rw [k1, k2, b1, b2, bnd_s]
    exact ⟨b, by cases b <;> rfl, by cases b <;> rfl⟩
  · rw [if_neg g, if_neg g]
    exact ⟨false, rfl, rfl⟩
/-- what a step may end in -/
def Rb (ν μ : Mm) (len : Nat) (b : Bool) (ν2 μ2 : Mm) : Prop := Mw ν μ ν2 μ2 ∧ ((b = true ∧ Ps ν2 μ2 len) ∨ (b = false ∧ Bs ν2 μ2))
theorem word_of (h : Ps ν μ len) (w : Nat) : ∃ b ν2 μ2, g_X7_word ν w = some (b, ν2) ∧ g_X12_word μ w = some μ2 ∧ Rb ν μ len b ν2 μ2 := by
  obtain ⟨t, t1, t2⟩ := is_of h w
  unfold g_X7_word g_X12_word
  rw [t1, t2, bnd_s, bnd_s]
  cases t with
  | true =>
    obtain ⟨ν2, μ2, f1, f2, f3, f4, -⟩ := rd_of h
    rw [if_pos rfl, if_pos rfl, f1, f2, bnd_s, bnd_s]
    exact ⟨true, ν2, μ2, rfl, rfl, f3, Or.inl ⟨rfl, f4⟩⟩
  | false =>
    obtain ⟨ν2, μ2, f1, f2, f3, f4⟩ := fail_of h (1 : Int32) (by decide)
    rw [if_neg (show ¬ false = true by decide), if_neg (show ¬ false = true by decide), f1, f2, bnd_s, bnd_s, bd_goOn f4.2.2, bnd_s]
    exact ⟨false, ν2, μ2, rfl, rfl, f3, Or.inr ⟨rfl, f4⟩⟩
theorem semi_of (h : Ps ν μ len) : ∃ b ν2 μ2, g_X7_symbol ν (59 : Int32) = some (b, ν2) ∧ g_X12_semicolon μ = some μ2 ∧ Rb ν μ len b ν2 μ2 := by
  obtain ⟨ν2, μ2, f1, f2, f3, f4⟩ := fail_of h (1 : Int32) (by decide)
  obtain ⟨ν3, μ3, r1, r2, r3, r4, -⟩ := rd_of h
  obtain ⟨tx, ⟨p, q, t, k0, k1, k2, k3, k4, k5, k6, k7⟩, x1, x2, x3, x4⟩ := h
  unfold g_X7_symbol g_X12_semicolon
  rw [k3, bnd_s, good_t x3, if_pos (show true = true from rfl), k6]
  by_cases g : nI t = (3 : Int32)
  · have et : t = 3 := (nI_eq (b := 3) (by omega) (by decide)).mp g
    subst et
    rw [if_pos g, if_pos g]
    obtain ⟨w1, w2, w3⟩ := k7
    have w4 : q = p + 1 ∧ kdN (μ.1 4 p) = 3 ∧ μ.1 0 11 = μ.1 4 p &&& (255 : Int32) := by
      rcases w3 with ⟨z, -⟩ | ⟨z, -⟩ | ⟨z, -⟩ | ⟨-, z⟩
      · exact absurd z (by decide)
      · exact absurd z (by decide)
      · exact absurd z (by decide)
      · exact z
    have hp : p < len := by omega
    have by8 := (tx.2.2.2 p hp).2
    have e := a255 by8
    have t59 : ((59 : Int32)).toInt = 59 := rfl
    have ie : μ.1 0 11 = (59 : Int32) ↔ μ.1 4 p = (59 : Int32) := by
      rw [w4.2.2, eq32, eq32, e, t59]
      obtain ⟨b1, b2⟩ := by8
      split <;> omega
    rw [k1, xb_of tx hp, bnd_s]
    by_cases c : μ.1 4 p = (59 : Int32)
    · rw [if_pos c, if_pos (ie.mpr c), r1, r2, bnd_s, bnd_s]
      exact ⟨true, ν3, μ3, rfl, rfl, r3, Or.inl ⟨rfl, r4⟩⟩
    · rw [if_neg c, if_neg (fun z => c (ie.mp z)), f1, f2, bnd_s, bnd_s, bd_goOn f4.2.2, bnd_s]
      exact ⟨false, ν2, μ2, rfl, rfl, f3, Or.inr ⟨rfl, f4⟩⟩
  · rw [if_neg g, if_neg g, f1, f2, bnd_s, bnd_s, bd_goOn f4.2.2, bnd_s]
    exact ⟨false, ν2, μ2, rfl, rfl, f3, Or.inr ⟨rfl, f4⟩⟩
/-! numbers -/
theorem num_loop {p q : Nat} {a1 a2 : Int32} (νa : Mm) (hq : q ≤ len) (hd : ∀ k, p ≤ k → k < q → kdN (μ.1 4 k) = 2) : ∀ (d k : Nat), k + d = q → ∀ n, d + 1 ≤ n → p ≤ k → ∀ ν', Mw ν μ ν' μ → (∀ k, k ≠ 5 → ν'.1 661 k = ν.1 661 k) → Txt ν μ len → ν.1 661 4 = nI q → ν'.1 661 5 = nI (min (dvN (μ.1 4) p (k - p)) 100000) → ∃ ν2 m, Mw ν μ ν2 μ ∧ (∀ k, k ≠ 5 → ν2.1 661 k = ν.1 661 k) ∧ ν2.1 661 5 = nI (min (dvN (μ.1 4) p (q - p)) 100000) ∧ g_X7_number_L24 νa a1 a2 n ν' (nI k) = g_X7_number_L24 νa a1 a2 (m + 1) ν2 (nI q) := by
  intro d
  induction d with
  | zero =>
    intro k hk n hn hpk ν' hm hm5 tx e4 e5
    obtain ⟨n, rfl, -⟩ := succ_n hn
    have ek : k = q := by omega
    subst ek
    exact ⟨ν', n, hm, hm5, e5, rfl⟩
  | succ d ih =>
    intro k hk n hn hpk ν' hm hm5 tx e4 e5
    obtain ⟨n, rfl, hn2⟩ := succ_n hn
    have l8 := tx.2.2.1
    have tx' : Txt ν' μ len := by
      obtain ⟨t1, t2, t3, t4⟩ := tx
      refine ⟨?_, t2, t3, fun k hk => ?_⟩
      · rw [(hm.1 1 (by decide)).1]; exact t1
      · rw [(hm.1 3 (by decide)).1]; exact t4 k hk
    obtain ⟨g1, g2, g3, g4⟩ := dig_b (hd k hpk (by omega))
    have nv : imin ((((ν'.1 661 5) * (10 : Int32)) + μ.1 4 k) - (48 : Int32)) (100000 : Int32) = nI (min (dvN (μ.1 4) p (k + 1 - p)) 100000) := by
      have t9 : ((100000 : Int32)).toInt = 100000 := rfl
      have t48 : ((48 : Int32)).toInt = 48 := rfl
      have t10 : ((10 : Int32)).toInt = 10 := rfl
      have ev : dvN (μ.1 4) p (k + 1 - p) = dvN (μ.1 4) p (k - p) * 10 + (cl (μ.1 4 k) - 48) := by
        rw [show k + 1 - p = (k - p) + 1 by omega]
        show dvN (μ.1 4) p (k - p) * 10 + (cl (μ.1 4 (p + (k - p))) - 48) = _
        rw [show p + (k - p) = k by omega]
      rw [ev, e5, g1, cl_nI (by omega)]
      generalize dvN (μ.1 4) p (k - p) = V
      generalize cl (μ.1 4 k) = c at g2 g3
      have m1 : (nI (min V 100000) * (10 : Int32)).toInt = ((min V 100000 : Nat) : Int) * 10 := by rw [ti_mul (by rw [t10, nI_toInt (by omega)]; omega) (by rw [t10, nI_toInt (by omega)]; omega), t10, nI_toInt (by omega)]
      have m2 : (nI (min V 100000) * (10 : Int32) + nI c).toInt = ((min V 100000 : Nat) : Int) * 10 + (c : Int) := by rw [ti_add (by rw [m1, nI_toInt (by omega)]; omega) (by rw [m1, nI_toInt (by omega)]; omega), m1, nI_toInt (by omega)]
      have m3 : ((nI (min V 100000) * (10 : Int32) + nI c) - (48 : Int32)).toInt = ((min V 100000 : Nat) : Int) * 10 + (c : Int) - 48 := by rw [ti_sub (by rw [m2, t48]; omega) (by rw [m2, t48]; omega), m2, t48]
      rw [eq32, imin_ti, t9, m3, nI_toInt (by omega)]
      omega
    obtain ⟨ν2, m, y1, y2, y3, y4⟩ := ih (k + 1) (by omega) n hn2 (by omega) (uI ν' 661 5 (nI (min (dvN (μ.1 4) p (k + 1 - p)) 100000))) (hm.C (by omega) _) (fun j hj => by
      rw [uI_at, if_neg (fun z => hj z.2)]
      exact hm5 j hj) tx e4 (by rw [uI_at, if_pos ⟨rfl, rfl⟩])
    refine ⟨ν2, m, y1, y2, y3, ?_⟩
    rw [← y4]
    conv => lhs; unfold g_X7_number_L24
    rw [hm5 4 (by decide), e4, if_neg (by rw [le32, nI_toInt (by omega), nI_toInt (by omega)]; omega), xb_of tx' (by omega), bnd_s, nv, bnd_s, nI1]
theorem number_of (h : Ps ν μ len) {lo hi : Int32} (hh : hi.toInt ≤ 9999) : ∃ b ν2 v μ2, g_X7_number ν lo hi = some (b, ν2) ∧ g_X12_number μ lo hi = some (v, μ2) ∧ Rb ν μ len b ν2 μ2 ∧ (b = true → ν2.1 661 5 = v ∧ rg v lo.toInt hi.toInt ∧ 0 ≤ v.toInt) := by
  obtain ⟨tx, ⟨p, q, t, k0, k1, k2, k3, k4, k5, k6, k7⟩, x1, x2, x3, x4⟩ := id h
  have l8 := tx.2.2.1
  unfold g_X7_number g_X12_number
  rw [k3, bnd_s, bnd_s, good_t x3, if_pos (show true = true from rfl), k6]
  by_cases g : nI t = (2 : Int32)
  · have et : t = 2 := (nI_eq (b := 2) (by omega) (by decide)).mp g
    subst et
    rw [if_pos g, if_pos g]
    obtain ⟨w1, w2, w3⟩ := k7
    have w4 : p < q ∧ (∀ k, p ≤ k → k < q → kdN (μ.1 4 k) = 2) ∧ μ.1 0 11 = nI (min (dvN (μ.1 4) p (q - p)) 99999) := by
      rcases w3 with ⟨z, -⟩ | ⟨z, -⟩ | ⟨-, z⟩ | ⟨z, -⟩
      · exact absurd z (by decide)
      · exact absurd z (by decide)
      · exact z
      · exact absurd z (by decide)
    obtain ⟨ν2, m, y1, y2, y3, y4⟩ := num_loop (μ := μ) (ν := ν) (a1 := lo) (a2 := hi) ν w2 w4.2.1 (q - p) p (by omega) 10000 (by omega) (Nat.le_refl p) (uI ν 661 5 (0 : Int32)) ((Mw.rf ν μ).C (by omega) _) (fun j hj => by rw [uI_at, if_neg (fun z => hj z.2)]) tx k2 (by rw [uI_at, if_pos ⟨rfl, rfl⟩, Nat.sub_self]; rfl)
    have hP : Ps ν2 μ len := h.cg (y1.1 1 (by decide)).1 (y1.1 3 (by decide)).1 (fun k hk => y2 k (by omega)) rfl (fun _ _ => rfl)
    have CE : g_X7_number_L24 ν lo hi 10000 (uI ν 661 5 (0 : Int32)) ((uI ν 661 5 (0 : Int32)).1 661 3) = if ν2.1 661 5 < lo then bnd (g_X7_fail ν2 (2 : Int32)) (fun q6 => some (q6.1, q6.2)) else if ν2.1 661 5 ≤ hi then bnd (g_X7_readToken ν2) (fun q9 => some (true, q9)) else bnd (g_X7_fail ν2 (2 : Int32)) (fun q11 => some (q11.1, q11.2)) := by
      rw [show (uI ν 661 5 (0 : Int32)).1 661 3 = nI p from by rw [uI_at, if_neg (fun z => absurd z.2 (by decide))]; exact k1, y4]
      conv => lhs; unfold g_X7_number_L24
      rw [y2 4 (by decide), k2, if_pos (Int32.le_refl _)]
    rw [CE]
    unfold g_X12_number_J20
    rw [bnd_s, good_t x3, if_pos (show true = true from rfl), bnd_s, inX_eq, w4.2.2, y3]
    generalize hV : dvN (μ.1 4) p (q - p) = V
    rw [hV] at w4 y3
    have lo64 : lo.toInt64.toInt = lo.toInt := Int32.toInt_toInt64 lo
    have hi64 : hi.toInt64.toInt = hi.toInt := Int32.toInt_toInt64 hi
    rw [lo64, hi64, nI_toInt (by omega)]
    obtain ⟨ν4, μ4, f1, f2, f3, f4⟩ := fail_of hP (2 : Int32) (by decide)
    by_cases c : lo.toInt ≤ ((min V 99999 : Nat) : Int) ∧ ((min V 99999 : Nat) : Int) ≤ hi.toInt
    · have ev : nI (min V 100000) = nI (min V 99999) := by rw [show min V 100000 = min V 99999 by omega]
      have ti : (nI (min V 99999)).toInt = ((min V 99999 : Nat) : Int) := nI_toInt (by omega)
      obtain ⟨ν3, μ3, r1, r2, r3, r4, r5⟩ := rd_of hP
      rw [decide_eq_true c, if_pos (show true = true from rfl), ev, if_neg (by rw [lt32, ti]; omega), if_pos (by rw [le32, ti]; omega), r1, bnd_s]
      unfold g_X12_number_J47
      rw [bnd_s, good_t x3, if_pos (show true = true from rfl), r2, bnd_s, w4.2.2]
      refine ⟨true, ν3, nI (min V 99999), μ3, rfl, rfl, ⟨y1.tr r3, Or.inl ⟨rfl, r4⟩⟩, fun _ => ⟨?_, ⟨by rw [ti]; exact c.1, by rw [ti]; exact c.2⟩, by rw [ti]; omega⟩⟩
      rw [r5, y3, ev]
    · rw [decide_eq_false c, if_neg (show ¬ false = true by decide), f2, bnd_s, bd_num47 f4.2.2]
      have ti : (nI (min V 100000)).toInt = ((min V 100000 : Nat) : Int) := nI_toInt (by omega)
      refine ⟨false, ν4, lo, μ4, ?_, rfl, ⟨y1.tr f3, Or.inr ⟨rfl, f4⟩⟩, fun z => absurd z (by decide)⟩
      by_cases c1 : nI (min V 100000) < lo
      · rw [if_pos c1, f1, bnd_s]
      · rw [if_neg c1, if_neg (fun z => by
          rw [lt32, ti] at c1
          rw [le32, ti] at z
          omega), f1, bnd_s]
  · obtain ⟨ν4, μ4, f1, f2, f3, f4⟩ := fail_of h (1 : Int32) (by decide)
    rw [if_neg g, if_neg g, f1, f2, bnd_s, bnd_s, bd_num20 f4.2.2]
    exact ⟨false, ν4, lo, μ4, rfl, rfl, ⟨f3, Or.inr ⟨rfl, f4⟩⟩, fun z => absurd z (by decide)⟩
theorem name_of (h : Ps ν μ len) : ∃ b, g_X7_tokenIsName ν = some b ∧ ((b = true ∧ g_X12_checkName μ = some μ ∧ ∃ p q, p < q ∧ q ≤ p + 6 ∧ q ≤ len ∧ ν.1 661 3 = nI p ∧ ν.1 661 4 = nI q ∧ μ.1 0 9 = nI p ∧ μ.1 0 8 = nI q ∧ ∀ k, p ≤ k → k < q → kdN (μ.1 4 k) = 1) ∨ (b = false ∧ g_X12_checkName μ = g_X12_errs μ (1 : Int32))) := by
  obtain ⟨tx, ⟨p, q, t, k0, k1, k2, k3, k4, k5, k6, k7⟩, x1, x2, x3, x4⟩ := id h
  have l8 := tx.2.2.1
  have TI : ∀ w, nI t = (1 : Int32) → ∃ s, g_X7_tokenIs ν w = some s ∧ g_X12_isWord μ w = some s := fun w g => by
    obtain ⟨b, b1, b2⟩ := wd_of tx k7.1 k7.2.1 k1 k2 k4 k5 w
    refine ⟨b, ?_, b2⟩
    unfold g_X7_tokenIs
    rw [k3, if_pos g, k1, k2, b1, bnd_s]
    cases b <;> rfl
  have es : nI q - nI p = nI (q - p) := by
    have := nI_sub (q - p) p
    rw [Nat.sub_add_cancel k7.1] at this
    exact this
  have ER : ∀ c : Int32, bnd (g_X12_errs μ c) (fun q => some q) = g_X12_errs μ c := fun c => by
    obtain ⟨ν4, μ4, f1, f2, f3, f4⟩ := fail_of h (1 : Int32) (by decide)
    cases g_X12_errs μ c <;> rfl
  unfold g_X7_tokenIsName g_X12_checkName
  rw [k1, k2, k3, k4, k5, k6, bnd_s, good_t x3, if_pos (show true = true from rfl), es]
  by_cases g : nI t = (1 : Int32)
  · rw [if_pos g, if_pos g]
    have et : t = 1 := (nI_eq (b := 1) (by omega) (by decide)).mp g
    have w4 : p < q ∧ ∀ k, p ≤ k → k < q → kdN (μ.1 4 k) = 1 := by
      rcases k7.2.2 with ⟨z, -⟩ | ⟨-, z⟩ | ⟨z, -⟩ | ⟨z, -⟩
      · exact absurd (et.symm.trans z) (by decide)
      · exact z
      · exact absurd (et.symm.trans z) (by decide)
      · exact absurd (et.symm.trans z) (by decide)
    have ql := k7.2.1
    by_cases c : q - p ≤ 6
    · rw [if_pos (by rw [le32, nI_toInt (by omega)]; show ((q - p : Nat) : Int) ≤ 6; omega), if_neg (by rw [lt32, nI_toInt (by omega)]; show ¬ (6 : Int) < ((q - p : Nat) : Int); omega)]
      unfold g_X12_isKeyword g_X12_isKeyword_J72 g_X12_isKeyword_J77
      rw [if_pos (show true = true from rfl), if_neg (show ¬ false = true by decide)]
      obtain ⟨s, s1, s2⟩ := TI 126879296744563 g
      rw [s1, s2, bnd_s, bnd_s]
      cases s with
      | true =>
        rw [if_pos (show true = true from rfl), if_pos (show true = true from rfl), bnd_s, if_pos (show true = true from rfl), ER]
        exact ⟨false, rfl, Or.inr ⟨rfl, rfl⟩⟩
      | false =>
      rw [if_neg (show ¬ false = true by decide), if_neg (show ¬ false = true by decide)]
      clear s1 s2
      obtain ⟨s, s1, s2⟩ := TI 1650551923 g
      rw [s1, s2, bnd_s, bnd_s]
      cases s with
      | true =>
        rw [if_pos (show true = true from rfl), if_pos (show true = true from rfl), bnd_s, if_pos (show true = true from rfl), ER]
        exact ⟨false, rfl, Or.inr ⟨rfl, rfl⟩⟩
      | false =>
      rw [if_neg (show ¬ false = true by decide), if_neg (show ¬ false = true by decide)]
      clear s1 s2
      obtain ⟨s, s1, s2⟩ := TI 1684955490 g
      rw [s1, s2, bnd_s, bnd_s]
      cases s with
      | true =>
        rw [if_pos (show true = true from rfl), if_pos (show true = true from rfl), bnd_s, if_pos (show true = true from rfl), ER]
        exact ⟨false, rfl, Or.inr ⟨rfl, rfl⟩⟩
      | false =>
      rw [if_neg (show ¬ false = true by decide), if_neg (show ¬ false = true by decide)]
      clear s1 s2
      obtain ⟨s, s1, s2⟩ := TI 1702125938 g
      rw [s1, s2, bnd_s, bnd_s]
      cases s with
      | true =>
        rw [if_pos (show true = true from rfl), if_pos (show true = true from rfl), bnd_s, if_pos (show true = true from rfl), ER]
        exact ⟨false, rfl, Or.inr ⟨rfl, rfl⟩⟩
      | false =>
      rw [if_neg (show ¬ false = true by decide), if_neg (show ¬ false = true by decide)]
      clear s1 s2
      obtain ⟨s, s1, s2⟩ := TI 111550524450162 g
      rw [s1, s2, bnd_s, bnd_s]
      cases s with
      | true =>
        rw [if_pos (show true = true from rfl), if_pos (show true = true from rfl), bnd_s, if_pos (show true = true from rfl), ER]
        exact ⟨false, rfl, Or.inr ⟨rfl, rfl⟩⟩
      | false =>
      rw [if_neg (show ¬ false = true by decide), if_neg (show ¬ false = true by decide)]
      clear s1 s2
      obtain ⟨s, s1, s2⟩ := TI 32772479037629808 g
      rw [s1, s2, bnd_s, bnd_s]
      cases s with
      | true =>
        rw [if_pos (show true = true from rfl), if_pos (show true = true from rfl), bnd_s, if_pos (show true = true from rfl), ER]
        exact ⟨false, rfl, Or.inr ⟨rfl, rfl⟩⟩
      | false =>
      rw [if_neg (show ¬ false = true by decide), if_neg (show ¬ false = true by decide)]
      clear s1 s2
      obtain ⟨s, s1, s2⟩ := TI 435745415543 g
      rw [s1, s2, bnd_s, bnd_s]
      cases s with
      | true =>
        rw [if_pos (show true = true from rfl), if_pos (show true = true from rfl), bnd_s, if_pos (show true = true from rfl), ER]
        exact ⟨false, rfl, Or.inr ⟨rfl, rfl⟩⟩
      | false =>
      rw [if_neg (show ¬ false = true by decide), if_neg (show ¬ false = true by decide)]
      clear s1 s2
      obtain ⟨s, s1, s2⟩ := TI 431199119718 g
      rw [s1, s2, bnd_s, bnd_s]
      cases s with
      | true =>
        rw [if_pos (show true = true from rfl), if_pos (show true = true from rfl), bnd_s, if_pos (show true = true from rfl), ER]
        exact ⟨false, rfl, Or.inr ⟨rfl, rfl⟩⟩
      | false =>
      rw [if_neg (show ¬ false = true by decide), if_neg (show ¬ false = true by decide)]
      clear s1 s2
      obtain ⟨s, s1, s2⟩ := TI 1701147238 g
      rw [s1, s2, bnd_s, bnd_s]
      cases s with
      | true =>
        rw [if_pos (show true = true from rfl), if_pos (show true = true from rfl), bnd_s, if_pos (show true = true from rfl), ER]
        exact ⟨false, rfl, Or.inr ⟨rfl, rfl⟩⟩
      | false =>
      rw [if_neg (show ¬ false = true by decide), if_neg (show ¬ false = true by decide)]
      clear s1 s2
      obtain ⟨s, s1, s2⟩ := TI 435459551856 g
      rw [s1, s2, bnd_s, bnd_s]
      cases s with
      | true =>
        rw [if_pos (show true = true from rfl), if_pos (show true = true from rfl), bnd_s, if_pos (show true = true from rfl), ER]
        exact ⟨false, rfl, Or.inr ⟨rfl, rfl⟩⟩
      | false =>
      rw [if_neg (show ¬ false = true by decide), if_neg (show ¬ false = true by decide)]
      clear s1 s2
      obtain ⟨s, s1, s2⟩ := TI 7954796 g
      rw [s1, s2, bnd_s, bnd_s]
      cases s with
      | true =>
        rw [if_pos (show true = true from rfl), if_pos (show true = true from rfl), bnd_s, if_pos (show true = true from rfl), ER]
        exact ⟨false, rfl, Or.inr ⟨rfl, rfl⟩⟩
      | false =>
      rw [if_neg (show ¬ false = true by decide), if_neg (show ¬ false = true by decide)]
      clear s1 s2
      obtain ⟨s, s1, s2⟩ := TI 1885956211 g
      rw [s1, s2, bnd_s, bnd_s]
      cases s with
      | true =>
        rw [if_pos (show true = true from rfl), if_pos (show true = true from rfl), bnd_s, if_pos (show true = true from rfl), ER]
        exact ⟨false, rfl, Or.inr ⟨rfl, rfl⟩⟩
      | false =>
      rw [if_neg (show ¬ false = true by decide), if_neg (show ¬ false = true by decide)]
      clear s1 s2
      obtain ⟨s, s1, s2⟩ := TI 1936617332 g
      rw [s1, s2, bnd_s, bnd_s]
      cases s with
      | true =>
        rw [if_pos (show true = true from rfl), if_pos (show true = true from rfl), bnd_s, if_pos (show true = true from rfl), ER]
        exact ⟨false, rfl, Or.inr ⟨rfl, rfl⟩⟩
      | false =>
      rw [if_neg (show ¬ false = true by decide), if_neg (show ¬ false = true by decide)]
      clear s1 s2
      obtain ⟨s, s1, s2⟩ := TI 1819042147 g
      rw [s1, s2, bnd_s, bnd_s]
      cases s with
      | true =>
        rw [if_pos (show true = true from rfl), if_pos (show true = true from rfl), bnd_s, if_pos (show true = true from rfl), ER]
        exact ⟨false, rfl, Or.inr ⟨rfl, rfl⟩⟩
      | false =>
      rw [if_neg (show ¬ false = true by decide), if_neg (show ¬ false = true by decide)]
      clear s1 s2
      obtain ⟨s, s1, s2⟩ := TI 28532 g
      rw [s1, s2, bnd_s, bnd_s]
      cases s with
      | true =>
        rw [if_pos (show true = true from rfl), if_pos (show true = true from rfl), bnd_s, if_pos (show true = true from rfl), ER]
        exact ⟨false, rfl, Or.inr ⟨rfl, rfl⟩⟩
      | false =>
      rw [if_neg (show ¬ false = true by decide), if_neg (show ¬ false = true by decide)]
      clear s1 s2
      rw [bnd_s, if_neg (show ¬ false = true by decide)]
      exact ⟨true, rfl, Or.inl ⟨rfl, rfl, p, q, w4.1, by omega, ql, rfl, rfl, rfl, rfl, w4.2⟩⟩
    · rw [if_neg (by rw [le32, nI_toInt (by omega)]; show ¬ ((q - p : Nat) : Int) ≤ 6; omega), if_pos (by rw [lt32, nI_toInt (by omega)]; show (6 : Int) < ((q - p : Nat) : Int); omega), ER]
      exact ⟨false, rfl, Or.inr ⟨rfl, rfl⟩⟩
  · rw [if_neg g, if_neg g, ER]
    exact ⟨false, rfl, Or.inr ⟨rfl, rfl⟩⟩
end OPS
