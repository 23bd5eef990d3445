/-! PURE. What the two memories keep together. -/
def rg (x : Int32) (lo hi : Int) : Prop := lo ≤ x.toInt ∧ x.toInt ≤ hi
def TaR (ν : Mm) (T : Nat) (f : Nat → Int32) (v : Nat) : Prop :=
  (ν.1 T 4 = f 6 ∧ ν.1 T 5 = f 7 ∧ ν.1 T 6 = f 8 ∧ ν.1 T 7 = f 9 ∧ ν.1 T 8 = f 10 ∧ ν.1 T 9 = f 11 ∧ ν.1 T 10 = f (22 + 12 * v + 10) ∧ ν.1 T 11 = f (22 + 12 * v + 11)) ∧
  (∀ b, b < cl (f 6) → ν.1 (T + 1) b = f (12 + b) ∧ ν.1 (T + 2) b = f (22 + 12 * v + b)) ∧
  ∀ r, r < cl (f 7) → ν.1 (T + 3) r = f (18 + r) ∧ ν.1 (T + 4) r = f (22 + 12 * v + (6 + r))
/-- n letters of a row of the class, and the model's row of six letters -/
def Nm (n : Int32) (c g : Nat → Int32) : Prop := ∃ len : Nat, 1 ≤ len ∧ len ≤ 6 ∧ n = nI len ∧ (∀ k, k < len → c k = g k ∧ rg (g k) 97 122) ∧ ∀ k, len ≤ k → k < 6 → g k = 0
theorem Nm.cg {n : Int32} {c g g' : Nat → Int32} (h : Nm n c g) (e : ∀ k, k < 6 → g' k = g k) : Nm n c g' := by
  obtain ⟨len, h1, h2, h3, h4, h5⟩ := h
  exact ⟨len, h1, h2, h3, fun k hk => by rw [e k (by omega)]; exact h4 k hk, fun k g1 g2 => by rw [e k g2]; exact h5 k g1 g2⟩
/-- a ledger of the class and a row of the model -/
def LdR (ν : Mm) (L : Nat) (f : Nat → Int32) (p : Nat → Int64) : Prop :=
  (ν.1 L 5 = f 0 ∧ ν.1 L 6 = f 1 ∧ ν.1 L 7 = f 2 ∧ ν.1 L 8 = f 3 ∧ ν.1 L 9 = f 4 ∧ ν.1 L 10 = f 5) ∧
  (∀ s, s < cl (f 0) → ν.1 (L + (6 + 2 * s)) 2 = f (274 + 7 * s) ∧ ν.2.1 (L + (6 + 2 * s)) 3 = p s ∧ Nm (ν.1 (L + (6 + 2 * s)) 1) (ν.1 (L + (6 + 2 * s) + 1)) (fun k => f (274 + 7 * s + 1 + k))) ∧
  (∀ c, c < cl (f 1) → ∀ k, k < 7 → ν.1 (L + (22 + c)) k = f (330 + 7 * c + k)) ∧
  (∀ i, i < cl (f 2) → (∀ k, k < 6 → ν.1 (L + (62 + 2 * i)) (k + 1) = f (617 + 10 * i + k)) ∧ ∀ l, l < 4 → ν.1 (L + (62 + 2 * i) + 1) l = f (617 + 10 * i + (6 + l))) ∧
  (∀ n, n < cl (f 3) → ∀ k, k < 4 → ν.1 (L + (182 + n)) k = f (1217 + 4 * n + k)) ∧
  ∀ v, v ≤ cl (f 4) → TaR ν (L + (222 + 5 * v)) f v
/-- what a row of the model keeps -/
def Wf (f : Nat → Int32) : Prop :=
  (rg (f 0) 0 8 ∧ rg (f 1) 0 40 ∧ rg (f 2) 0 60 ∧ rg (f 3) 0 40 ∧ rg (f 4) 0 20 ∧ rg (f 5) 0 99999 ∧ rg (f 6) 0 6 ∧ rg (f 7) 0 4 ∧ rg (f 8) 0 1 ∧ rg (f 9) 0 9999 ∧ rg (f 10) 0 999 ∧ rg (f 11) 0 999) ∧
  (∀ b, b < 6 → rg (f (12 + b)) 0 9999) ∧ (0 < cl (f 6) → f 12 = 0) ∧ (∀ b, b + 1 < cl (f 6) → (f (12 + b)).toInt < (f (12 + (b + 1))).toInt) ∧
  (∀ r, r < 4 → rg (f (18 + r)) 0 99) ∧ (∀ r, r + 1 < cl (f 7) → (f (18 + r)).toInt < (f (18 + (r + 1))).toInt) ∧ (∀ r, r < cl (f 7) → 2 ≤ (f (18 + r)).toInt) ∧
  (∀ v, v < 21 → (∀ b, b < 6 → rg (f (22 + 12 * v + b)) 0 999) ∧ (∀ r, r < 4 → rg (f (22 + 12 * v + (6 + r))) 0 100) ∧ rg (f (22 + 12 * v + 10)) 0 30 ∧ rg (f (22 + 12 * v + 11)) 0 9999) ∧
  (∀ s, s < 8 → rg (f (274 + 7 * s)) 0 9999) ∧
  (∀ c, c < 41 → rg (f (330 + 7 * c)) 0 7 ∧ rg (f (330 + 7 * c + 1)) 0 3599 ∧ (0 ≤ (f (330 + 7 * c + 2)).toInt ∧ (f (330 + 7 * c + 1)).toInt ≤ (f (330 + 7 * c + 2)).toInt + 0 ∧ (f (330 + 7 * c + 2)).toInt ≤ (f (330 + 7 * c + 1)).toInt + 29) ∧ rg (f (330 + 7 * c + 3)) 0 999 ∧ rg (f (330 + 7 * c + 4)) 0 1 ∧ rg (f (330 + 7 * c + 5)) 0 1073741823 ∧ rg (f (330 + 7 * c + 6)) 0 1073741823 ∧ f (330 + 7 * c + 5) &&& f (330 + 7 * c + 6) = 0) ∧
  (∀ c, c < cl (f 1) → (f (330 + 7 * c)).toInt < (f 0).toInt) ∧
  (∀ i, i < 60 → rg (f (617 + 10 * i)) 0 40 ∧ rg (f (617 + 10 * i + 1)) 0 99999 ∧ rg (f (617 + 10 * i + 2)) 0 20 ∧ rg (f (617 + 10 * i + 3)) 0 15 ∧ rg (f (617 + 10 * i + 4)) 0 15 ∧ rg (f (617 + 10 * i + 5)) 0 1073741823 ∧ (∀ l, l < 4 → rg (f (617 + 10 * i + (6 + l))) (-16777216) 16777216) ∧ (¬ f (617 + 10 * i + 5) = 0 → f_X12_has (f (617 + 10 * i + 3)) (3 : Int32) = true)) ∧
  ∀ i, i < cl (f 2) → (f (617 + 10 * i)).toInt < (f 1).toInt ∧ (f (617 + 10 * i + 2)).toInt ≤ (f 4).toInt
def Pb (n : Nat) (p : Nat → Int64) : Prop := ∀ s, s < 8 → 0 ≤ (p s).toInt ∧ (p s).toInt ≤ 1000000000 * (n : Int)
def LdW (n : Nat) (ν : Mm) (L : Nat) (f : Nat → Int32) (p : Nat → Int64) : Prop := LdR ν L f p ∧ Wf f ∧ Pb n p
def HiR (n : Nat) (ν μ : Mm) : Prop := ∃ h nx : Nat, h ≤ 6 ∧ nx < 6 ∧ ν.1 662 1 = nI h ∧ ν.1 662 2 = nI nx ∧ μ.1 0 19 = nI h ∧ ∀ j, j < h → LdW n ν (664 + 327 * ((nx + 6 - h + j) % 6)) (fun k => μ.1 5 (1377 * j + k)) (fun s => μ.2.1 6 (8 * j + s))
def InR (ν μ : Mm) : Prop := ∃ len : Nat, len ≤ 800 ∧ ν.1 1 2 = nI len ∧ μ.1 0 6 = nI len ∧ ∀ k, k < len → ν.1 3 k = μ.1 4 k ∧ rg (μ.1 4 k) (-128) 127
def OuR (ν μ : Mm) : Prop := ∃ len : Nat, len ≤ 1400 ∧ ν.1 4 2 = nI len ∧ μ.1 0 21 = nI len ∧ ∀ k, k < len → ν.1 6 k = μ.1 7 k
def RelP (n : Nat) (ν μ : Mm) : Prop := LdW n ν 7 (μ.1 1) (μ.2.1 3) ∧ HiR n ν μ ∧ InR ν μ ∧ OuR ν μ ∧ (ν.1 661 9 = μ.1 0 12 ∧ ν.1 661 10 = μ.1 0 13) ∧ μ.2.2 0 3 = 1
theorem Pb.mono {n m : Nat} {p : Nat → Int64} (h : Pb n p) (hm : n ≤ m) : Pb m p := fun s hs => ⟨(h s hs).1, Int.le_trans (h s hs).2 (by omega)⟩
theorem LdW.mono {n m : Nat} {ν : Mm} {L : Nat} {f : Nat → Int32} {p : Nat → Int64} (h : LdW n ν L f p) (hm : n ≤ m) : LdW m ν L f p := ⟨h.1, h.2.1, h.2.2.mono hm⟩
theorem HiR.mono {n m : Nat} {ν μ : Mm} (h : HiR n ν μ) (hm : n ≤ m) : HiR m ν μ := by
  obtain ⟨a, b, h1, h2, h3, h4, h5, h6⟩ := h
  exact ⟨a, b, h1, h2, h3, h4, h5, fun j hj => (h6 j hj).mono hm⟩
theorem RelP.thr {n : Nat} {ν μ : Mm} (h : RelP n ν μ) (t : Int32) : RelP (n + 1) ν (uI μ 0 0 t) := by
  obtain ⟨h1, h2, h3, h4, h5, h6⟩ := h
  exact ⟨h1.mono (Nat.le_succ n), h2.mono (Nat.le_succ n), h3, h4, h5, h6⟩
/-! numbers -/
theorem bm32 {z : Int} (h1 : -2147483648 ≤ z) (h2 : z < 2147483648) : z.bmod (2 ^ 32) = z := by
  unfold Int.bmod
  dsimp only
  split <;> omega
theorem bm64 {z : Int} (h1 : -9223372036854775808 ≤ z) (h2 : z < 9223372036854775808) : z.bmod (2 ^ 64) = z := by
  unfold Int.bmod
  dsimp only
  split <;> omega
theorem ti_add {x y : Int32} (h1 : -2147483648 ≤ x.toInt + y.toInt) (h2 : x.toInt + y.toInt < 2147483648) : (x + y).toInt = x.toInt + y.toInt := by rw [Int32.toInt_add, bm32 h1 h2]
theorem ti_sub {x y : Int32} (h1 : -2147483648 ≤ x.toInt - y.toInt) (h2 : x.toInt - y.toInt < 2147483648) : (x - y).toInt = x.toInt - y.toInt := by rw [Int32.toInt_sub, bm32 h1 h2]
theorem ti_mul {x y : Int32} (h1 : -2147483648 ≤ x.toInt * y.toInt) (h2 : x.toInt * y.toInt < 2147483648) : (x * y).toInt = x.toInt * y.toInt := by rw [Int32.toInt_mul, bm32 h1 h2]
theorem tl_add {x y : Int64} (h1 : -9223372036854775808 ≤ x.toInt + y.toInt) (h2 : x.toInt + y.toInt < 9223372036854775808) : (x + y).toInt = x.toInt + y.toInt := by rw [Int64.toInt_add, bm64 h1 h2]
theorem tl_sub {x y : Int64} (h1 : -9223372036854775808 ≤ x.toInt - y.toInt) (h2 : x.toInt - y.toInt < 9223372036854775808) : (x - y).toInt = x.toInt - y.toInt := by rw [Int64.toInt_sub, bm64 h1 h2]
theorem ti_l (x : Int32) : x.toInt64.toInt = x.toInt := Int32.toInt_toInt64 x
/-- an int that is no less than 0, as a Nat -/
theorem cl_of {x : Int32} {hi : Int} (h : rg x 0 hi) : x = nI (cl x) ∧ (cl x : Int) = x.toInt ∧ (cl x : Int) ≤ hi := by
  have h1 : (cl x : Int) = x.toInt := by
    have : cl x = x.toInt.toNat := rfl
    rw [this, Int.toNat_of_nonneg h.1]
  have h0 := h.1
  have h3 : x.toInt < 2 ^ 31 := x.toInt_lt
  refine ⟨Int32.toInt_inj.mp ?_, h1, by rw [h1]; exact h.2⟩
  rw [nI_toInt (by omega), h1]
theorem cl_nI {k : Nat} (h : k < 2 ^ 31) : cl (nI k) = k := nI_clamp h
theorem vp_of {x : Int32} {n : Nat} (h0 : 0 ≤ x.toInt) (h1 : x.toInt < n) (hn : n < 2 ^ 31) : vp_in x n := by
  obtain ⟨e, e2, -⟩ := cl_of (x := x) (hi := (n : Int)) ⟨h0, Int.le_of_lt h1⟩
  rw [e]
  exact vp_in_nI (by omega) hn
theorem inX_iff {x : Int32} {lo hi : Int64} : f_X12_in x.toInt64 lo hi = true ↔ lo.toInt ≤ x.toInt ∧ x.toInt ≤ hi.toInt := by
  unfold f_X12_in
  have e1 : x.toInt64 < lo ↔ x.toInt < lo.toInt := by rw [Int64.lt_iff_toInt_lt, ti_l]
  have e2 : hi < x.toInt64 ↔ hi.toInt < x.toInt := by rw [Int64.lt_iff_toInt_lt, ti_l]
  by_cases h1 : x.toInt64 < lo
  · rw [if_pos h1]
    exact ⟨fun h => (by cases h), fun h => absurd (e1.mp h1) (by omega)⟩
  · rw [if_neg h1]
    have g1 := fun z => h1 (e1.mpr z)
    by_cases h2 : hi < x.toInt64
    · rw [if_pos h2]
      exact ⟨fun h => (by cases h), fun h => absurd (e2.mp h2) (by omega)⟩
    · rw [if_neg h2]
      have g2 := fun z => h2 (e2.mpr z)
      exact ⟨fun _ => ⟨Int.not_lt.mp g1, Int.not_lt.mp g2⟩, fun _ => rfl⟩
theorem inX_eq {x : Int32} {lo hi : Int64} : f_X12_in x.toInt64 lo hi = decide (lo.toInt ≤ x.toInt ∧ x.toInt ≤ hi.toInt) := by
  by_cases h : lo.toInt ≤ x.toInt ∧ x.toInt ≤ hi.toInt
  · rw [decide_eq_true h]
    exact inX_iff.mpr h
  · rw [decide_eq_false h]
    exact Bool.eq_false_iff.mpr fun z => h (inX_iff.mp z)
theorem pz3 (μ : Mm) (a b c : Bool) : f_X12_passes3 μ a b c = ((a && b && c), uI μ 0 0 (if a then if b then if c then 0 else 3 else 2 else 1)) := by
  cases a <;> cases b <;> cases c <;> rfl
theorem pz2 (μ : Mm) (a b : Bool) : f_X12_passes2 μ a b = ((a && b), uI μ 0 0 (if a then if b then 0 else 2 else 1)) := by
  cases a <;> cases b <;> rfl
theorem pz1 (μ : Mm) (a : Bool) : f_X12_passes μ a = (a, uI μ 0 0 (if a then 0 else 1)) := by
  cases a <;> rfl
theorem thrown_u (μ : Mm) (t : Int32) : f_X12_thrown (uI μ 0 0 t) = t := rfl
theorem rqI (ν : Mm) (i n : Int32) : g_X11_requireIndex ν i n = some (if 0 ≤ i.toInt ∧ i.toInt < n.toInt then .ok () else .error 1) := by
  unfold g_X11_requireIndex
  have e1 : i < 0 ↔ i.toInt < 0 := Int32.lt_iff_toInt_lt
  have e2 : i < n ↔ i.toInt < n.toInt := Int32.lt_iff_toInt_lt
  by_cases h1 : i < 0
  · have g1 := e1.mp h1
    rw [if_pos h1, if_neg (by omega)]
  · have g1 : ¬ i.toInt < 0 := fun z => h1 (e1.mpr z)
    rw [if_neg h1]
    by_cases h2 : i < n
    · have g2 := e2.mp h2
      rw [if_pos h2, if_pos (by omega)]
    · have g2 : ¬ i.toInt < n.toInt := fun z => h2 (e2.mpr z)
      rw [if_neg h2, if_neg (by omega)]
theorem rqR (ν : Mm) (x lo hi : Int32) : g_X11_requireRange ν x lo hi = some (if lo.toInt ≤ x.toInt ∧ x.toInt ≤ hi.toInt then .ok () else .error 2) := by
  unfold g_X11_requireRange
  have e1 : x < lo ↔ x.toInt < lo.toInt := Int32.lt_iff_toInt_lt
  have e2 : hi < x ↔ hi.toInt < x.toInt := Int32.lt_iff_toInt_lt
  by_cases h1 : x < lo
  · have g1 := e1.mp h1
    rw [if_pos h1, if_neg (by omega)]
    rfl
  · have g1 : ¬ x.toInt < lo.toInt := fun z => h1 (e1.mpr z)
    rw [if_neg h1]
    by_cases h2 : hi < x
    · have g2 := e2.mp h2
      rw [if_pos h2, if_neg (by omega)]
      rfl
    · have g2 : ¬ hi.toInt < x.toInt := fun z => h2 (e2.mpr z)
      rw [if_neg h2, if_pos (by omega)]
      rfl
theorem rqS (ν : Mm) (i : Int32) : g_X11_requireShip ν i = some (if 0 ≤ i.toInt ∧ i.toInt < (ν.1 7 5).toInt then .ok () else .error 1) := by
  unfold g_X11_requireShip
  rw [rqI]
  split <;> rfl
theorem rqC (ν : Mm) (i : Int32) : g_X11_requireCall ν i = some (if 0 ≤ i.toInt ∧ i.toInt < (ν.1 7 6).toInt then .ok () else .error 1) := by
  unfold g_X11_requireCall
  rw [rqI]
  split <;> rfl
theorem rqV (ν : Mm) (i : Int32) : g_X11_requireInvoice ν i = some (if 0 ≤ i.toInt ∧ i.toInt < (ν.1 7 7).toInt then .ok () else .error 1) := by
  unfold g_X11_requireInvoice
  rw [rqI]
  split <;> rfl
theorem rqL (ν : Mm) (i : Int32) : g_X11_requireLine ν i = some (if 0 ≤ i.toInt ∧ i.toInt ≤ 3 then .ok () else .error 2) := by
  unfold g_X11_requireLine
  rw [rqR]
  show bnd (some (if 0 ≤ i.toInt ∧ i.toInt ≤ 3 then _ else _)) _ = _
  split <;> rfl
/-- a number below a count of the model -/
theorem ct_eq {x n : Int32} (h : rg n 0 100) : f_X12_in x.toInt64 0 ((n - (1 : Int32)).toInt64) = decide (0 ≤ x.toInt ∧ x.toInt < n.toInt) := by
  rw [inX_eq, ti_l, ti_sub (by have := h.1; have := h.2; show -2147483648 ≤ n.toInt - 1; omega) (by have := h.1; have := h.2; show n.toInt - 1 < 2147483648; omega)]
  show decide (0 ≤ x.toInt ∧ x.toInt ≤ n.toInt - 1) = _
  congr 1
  exact propext ⟨fun h => by omega, fun h => by omega⟩
