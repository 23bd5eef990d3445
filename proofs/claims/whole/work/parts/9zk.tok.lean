/-! PURE. Tokens. -/
def kdN (b : Int32) : Nat := if 97 ≤ b.toInt ∧ b.toInt ≤ 122 then 1 else if 48 ≤ b.toInt ∧ b.toInt ≤ 57 then 2 else if b.toInt = 32 ∨ b.toInt = 10 then 0 else 3
theorem kd_lt (b : Int32) : kdN b < 4 := by
  unfold kdN
  split
  · omega
  · split
    · omega
    · split <;> omega
theorem a255_tab : ∀ j : Fin 256, ((nI j.val - (128 : Int32)) &&& (255 : Int32)) = if j.val < 128 then nI (j.val + 128) else nI j.val - (128 : Int32) := by decide +kernel
theorem a255 {b : Int32} (h : rg b (-128) 127) : (b &&& (255 : Int32)).toInt = if b.toInt < 0 then b.toInt + 256 else b.toInt := by
  obtain ⟨h1, h2⟩ := h
  have t : ((128 : Int32)).toInt = 128 := rfl
  have e1 : (b + (128 : Int32)).toInt = b.toInt + 128 := by rw [ti_add (by rw [t]; omega) (by rw [t]; omega), t]
  obtain ⟨c1, c2, c3⟩ := cl_of (x := b + (128 : Int32)) (hi := 255) ⟨by omega, by omega⟩
  have e2 : b = nI (cl (b + (128 : Int32))) - (128 : Int32) := by
    rw [← c1, Int32.add_sub_cancel]
  have k := a255_tab ⟨cl (b + (128 : Int32)), by omega⟩
  have k' : (b &&& (255 : Int32)) = if cl (b + (128 : Int32)) < 128 then nI (cl (b + (128 : Int32)) + 128) else b := by
    conv => lhs; rw [e2]
    rw [k]
    split
    · rfl
    · exact e2.symm
  rw [k']
  by_cases g : cl (b + (128 : Int32)) < 128
  · rw [if_pos g, if_pos (by omega), nI_toInt (by omega)]
    omega
  · rw [if_neg g, if_neg (by omega)]
/-- the text that is read -/
def Txt (ν μ : Mm) (len : Nat) : Prop := ν.1 1 2 = nI len ∧ μ.1 0 7 = nI len ∧ len ≤ 800 ∧ ∀ k, k < len → ν.1 3 k = μ.1 4 k ∧ rg (μ.1 4 k) (-128) 127
section TK
variable {ν μ : Mm} {len : Nat}
theorem xb_of (h : Txt ν μ len) {k : Nat} (hk : k < len) : g_X1_byteAt ν 1 (nI k) = some (μ.1 4 k) := by
  obtain ⟨h1, h2, h3, h4⟩ := h
  unfold g_X1_byteAt
  rw [asr_pos (show isByt 1 from Or.inl rfl), if_neg (nI_nn (by omega)), h1, if_neg (by rw [le32, nI_toInt (by omega), nI_toInt (by omega)]; omega), asr_pos (show vp_in (nI k) (szB 1) from vp_in_nI (show k < 800 by omega) (by decide)), cl_nI (by omega)]
  exact congrArg some (h4 k hk).1
theorem kA_of (h : Txt ν μ len) {k : Nat} (hk : k ≤ 800) : g_X7_kindAt ν (nI k) = some (if k < len then nI (kdN (μ.1 4 k)) else 0) := by
  have h1 := h.1
  have h3 := h.2.2.1
  unfold g_X7_kindAt
  rw [h1]
  by_cases g : k < len
  · rw [if_pos (by rw [lt32, nI_toInt (by omega), nI_toInt (by omega)]; omega), if_pos g, xb_of h g, bnd_s]
    have t97 : ((97 : Int32)).toInt = 97 := rfl
    have t122 : ((122 : Int32)).toInt = 122 := rfl
    have t48 : ((48 : Int32)).toInt = 48 := rfl
    have t57 : ((57 : Int32)).toInt = 57 := rfl
    have t32 : ((32 : Int32)).toInt = 32 := rfl
    have t10 : ((10 : Int32)).toInt = 10 := rfl
    have J50 : ¬ (97 ≤ (μ.1 4 k).toInt ∧ (μ.1 4 k).toInt ≤ 122) → ¬ (48 ≤ (μ.1 4 k).toInt ∧ (μ.1 4 k).toInt ≤ 57) → g_X7_kindAt_J50 ν (nI k) (μ.1 4 k) = some (nI (kdN (μ.1 4 k))) := fun w1 w2 => by
      unfold g_X7_kindAt_J50 kdN
      rw [if_neg w1, if_neg w2]
      by_cases c1 : μ.1 4 k = 32
      · rw [if_pos c1, if_pos (Or.inl (by rw [c1]; rfl))]
        rfl
      · rw [if_neg c1]
        by_cases c2 : μ.1 4 k = 10
        · rw [if_pos c2, if_pos (Or.inr (by rw [c2]; rfl))]
          rfl
        · rw [if_neg c2, if_neg (fun z => z.elim (fun y => c1 (eq32.mpr y)) (fun y => c2 (eq32.mpr y)))]
          rfl
    have J36 : ¬ (97 ≤ (μ.1 4 k).toInt ∧ (μ.1 4 k).toInt ≤ 122) → g_X7_kindAt_J36 ν (nI k) (μ.1 4 k) = some (nI (kdN (μ.1 4 k))) := fun w1 => by
      unfold g_X7_kindAt_J36
      by_cases c1 : μ.1 4 k < 48
      · rw [if_pos c1]
        rw [lt32, t48] at c1
        exact J50 w1 (by omega)
      · rw [if_neg c1]
        by_cases c2 : (57 : Int32) < μ.1 4 k
        · rw [if_pos c2]
          rw [lt32, t57] at c2
          exact J50 w1 (by omega)
        · rw [if_neg c2]
          rw [lt32, t48] at c1
          rw [lt32, t57] at c2
          unfold kdN
          rw [if_neg w1, if_pos (by omega)]
          rfl
    by_cases c1 : μ.1 4 k < 97
    · rw [if_pos c1]
      rw [lt32, t97] at c1
      exact J36 (by omega)
    · rw [if_neg c1]
      by_cases c2 : (122 : Int32) < μ.1 4 k
      · rw [if_pos c2]
        rw [lt32, t122] at c2
        exact J36 (by omega)
      · rw [if_neg c2]
        rw [lt32, t97] at c1
        rw [lt32, t122] at c2
        unfold kdN
        rw [if_pos (by omega)]
        rfl
  · rw [if_neg (by rw [lt32, nI_toInt (by omega), nI_toInt (by omega)]; omega), if_neg g]
theorem bA_of (h : Txt ν μ len) {k : Nat} (hk : k ≤ 800) : g_X12_byteAt μ (nI k) = some (if k < len then μ.1 4 k &&& (255 : Int32) else -1) := by
  have h2 := h.2.1
  have h3 := h.2.2.1
  unfold g_X12_byteAt
  rw [h2]
  by_cases g : k < len
  · rw [if_neg (by rw [le32, nI_toInt (by omega), nI_toInt (by omega)]; omega), if_pos g, asr_pos (vp_in_nI (by omega) (by decide)), cl_nI (by omega)]
  · rw [if_pos (by rw [le32, nI_toInt (by omega), nI_toInt (by omega)]; omega), if_neg g]
theorem k1_in (h : Txt ν μ len) {k : Nat} (hk : k < len) : f_X12_in ((μ.1 4 k &&& (255 : Int32)).toInt64) (97 : Int64) (122 : Int64) = decide (kdN (μ.1 4 k) = 1) := by
  have b := (h.2.2.2 k hk).2
  obtain ⟨b1, b2⟩ := id b
  rw [show f_X12_in ((μ.1 4 k &&& (255 : Int32)).toInt64) (97 : Int64) (122 : Int64) = decide (97 ≤ (μ.1 4 k &&& (255 : Int32)).toInt ∧ (μ.1 4 k &&& (255 : Int32)).toInt ≤ 122) from inX_eq, a255 b]
  unfold kdN
  congr 1
  refine propext ⟨fun w => ?_, fun w => ?_⟩
  · rw [if_pos]
    split at w <;> omega
  · split at w
    · rw [if_neg (by omega)]
      omega
    · split at w
      · exact absurd w (by decide)
      · split at w <;> exact absurd w (by decide)
theorem k2_in (h : Txt ν μ len) {k : Nat} (hk : k < len) : f_X12_in ((μ.1 4 k &&& (255 : Int32)).toInt64) (48 : Int64) (57 : Int64) = decide (kdN (μ.1 4 k) = 2) := by
  have b := (h.2.2.2 k hk).2
  obtain ⟨b1, b2⟩ := id b
  rw [show f_X12_in ((μ.1 4 k &&& (255 : Int32)).toInt64) (48 : Int64) (57 : Int64) = decide (48 ≤ (μ.1 4 k &&& (255 : Int32)).toInt ∧ (μ.1 4 k &&& (255 : Int32)).toInt ≤ 57) from inX_eq, a255 b]
  unfold kdN
  congr 1
  refine propext ⟨fun w => ?_, fun w => ?_⟩
  · have w' : 48 ≤ (μ.1 4 k).toInt ∧ (μ.1 4 k).toInt ≤ 57 := by split at w <;> omega
    rw [if_neg (by omega), if_pos w']
  · split at w
    · exact absurd w (by decide)
    · split at w
      · rw [if_neg (by omega)]
        omega
      · split at w <;> exact absurd w (by decide)
theorem k0_sp (h : Txt ν μ len) {k : Nat} (hk : k < len) : kdN (μ.1 4 k) = 0 ↔ (μ.1 4 k &&& (255 : Int32) = 32 ∨ μ.1 4 k &&& (255 : Int32) = 10) := by
  have b := (h.2.2.2 k hk).2
  obtain ⟨b1, b2⟩ := id b
  have e := a255 b
  have t32 : ((32 : Int32)).toInt = 32 := rfl
  have t10 : ((10 : Int32)).toInt = 10 := rfl
  rw [eq32, eq32, e, t32, t10]
  unfold kdN
  constructor
  · intro w
    split at w
    · exact absurd w (by decide)
    · split at w
      · exact absurd w (by decide)
      · split at w
        · rw [if_neg (by omega)]
          assumption
        · exact absurd w (by decide)
  · intro w
    have w' : (μ.1 4 k).toInt = 32 ∨ (μ.1 4 k).toInt = 10 := by split at w <;> omega
    rw [if_neg (by omega), if_neg (by omega), if_pos w']
/-- the value of the digits from p on -/
def dvN (b : Nat → Int32) (p : Nat) : Nat → Nat
  | 0 => 0
  | n + 1 => dvN b p n * 10 + (cl (b (p + n)) - 48)
/-- a token, as the model sees it -/
def Tok (μ : Mm) (len p q t : Nat) : Prop := p ≤ q ∧ q ≤ len ∧ ((t = 0 ∧ p = len ∧ q = len) ∨ (t = 1 ∧ p < q ∧ ∀ k, p ≤ k → k < q → kdN (μ.1 4 k) = 1) ∨ (t = 2 ∧ p < q ∧ (∀ k, p ≤ k → k < q → kdN (μ.1 4 k) = 2) ∧ μ.1 0 11 = nI (min (dvN (μ.1 4) p (q - p)) 99999)) ∨ (t = 3 ∧ q = p + 1 ∧ kdN (μ.1 4 p) = 3 ∧ μ.1 0 11 = μ.1 4 p &&& (255 : Int32)))
/-- both have moved on in the text -/
def Mv (ν μ ν' μ' : Mm) : Prop := (∀ off, off ≠ 661 → Eq3 ν ν' off) ∧ (ν'.2 = ν.2 ∧ ∀ k, k ≠ 2 → k ≠ 3 → k ≠ 4 → ν'.1 661 k = ν.1 661 k) ∧ (∀ off, off ≠ 0 → Eq3 μ μ' off) ∧ μ'.2 = μ.2 ∧ ∀ k, k < 8 ∨ 11 < k → μ'.1 0 k = μ.1 0 k
theorem Mv.rf (ν μ : Mm) : Mv ν μ ν μ := ⟨fun off _ => Eq3.rf ν off, ⟨rfl, fun _ _ _ _ => rfl⟩, fun off _ => Eq3.rf μ off, rfl, fun _ _ => rfl⟩
theorem Mv.C {ν μ ν' μ' : Mm} (h : Mv ν μ ν' μ') {k : Nat} (hk : k = 2 ∨ k = 3 ∨ k = 4) (x : Int32) : Mv ν μ (uI ν' 661 k x) μ' := by
  obtain ⟨h1, ⟨h2, h2'⟩, h3, h4, h5⟩ := h
  refine ⟨fun off ho => (h1 off ho).I ho, ⟨h2, fun j j2 j3 j4 => ?_⟩, h3, h4, h5⟩
  rw [uI_at, if_neg (fun z => by have := z.2; omega)]
  exact h2' j j2 j3 j4
theorem Mv.M {ν μ ν' μ' : Mm} (h : Mv ν μ ν' μ') {k : Nat} (hk : 8 ≤ k ∧ k ≤ 11) (x : Int32) : Mv ν μ ν' (uI μ' 0 k x) := by
  obtain ⟨h1, h2, h3, h4, h5⟩ := h
  refine ⟨h1, h2, fun off ho => (h3 off ho).I ho, h4, fun j hj => ?_⟩
  rw [uI_at, if_neg (fun z => by have := z.2; omega)]
  exact h5 j hj
theorem Mv.txt {ν μ ν' μ' : Mm} (h : Mv ν μ ν' μ') (t : Txt ν μ len) : Txt ν' μ' len := by
  obtain ⟨h1, h2, h3, h4, h5⟩ := h
  obtain ⟨t1, t2, t3, t4⟩ := t
  refine ⟨?_, ?_, t3, fun k hk => ?_⟩
  · rw [(h1 1 (by decide)).1]; exact t1
  · rw [h5 7 (by decide)]; exact t2
  · rw [(h1 3 (by decide)).1, (h3 4 (by decide)).1]; exact t4 k hk
/-- the class's end of a word or a number -/
theorem wl_cls {νa μ0 : Mm} {t : Nat} (ht : t < 4) : ∀ (d k : Nat), k + d = len → ∀ n, d + 1 ≤ n → ∀ ν', Mv ν μ0 ν' μ0 → Txt ν μ0 len → ν'.1 661 4 = nI k → ν'.1 661 2 = nI t → ∃ ν2 q, k ≤ q ∧ q ≤ len ∧ (∀ j, k ≤ j → j < q → kdN (μ0.1 4 j) = t) ∧ (q = len ∨ kdN (μ0.1 4 q) ≠ t) ∧ g_X7_readToken_L94 νa n ν' = some ν2 ∧ Mv ν μ0 ν2 μ0 ∧ ν2.1 661 4 = nI q ∧ ν2.1 661 2 = nI t ∧ ν2.1 661 3 = ν'.1 661 3 := by
  intro d
  induction d with
  | zero =>
    intro k hk n hn ν' hm tx e4 e2
    obtain ⟨n, rfl, -⟩ := succ_n hn
    have tx' := hm.txt tx
    have l8 := tx.2.2.1
    refine ⟨ν', k, Nat.le_refl k, by omega, fun j h1 h2 => absurd h2 (by omega), Or.inl (by omega), ?_, hm, e4, e2, rfl⟩
    unfold g_X7_readToken_L94
    rw [tx'.1, e4, if_pos (by rw [le32, nI_toInt (by omega), nI_toInt (by omega)]; omega)]
  | succ d ih =>
    intro k hk n hn ν' hm tx e4 e2
    obtain ⟨n, rfl, hn2⟩ := succ_n hn
    have tx' := hm.txt tx
    have l8 := tx.2.2.1
    have kA := kA_of tx' (k := k) (by omega)
    rw [if_pos (by omega)] at kA
    have k4 := kd_lt (μ0.1 4 k)
    have U : g_X7_readToken_L94 νa (n + 1) ν' = if nI (kdN (μ0.1 4 k)) = nI t then g_X7_readToken_L94 νa n (uI ν' 661 4 (nI (k + 1))) else some ν' := by
      conv => lhs; unfold g_X7_readToken_L94
      rw [tx'.1, e4, if_neg (by rw [le32, nI_toInt (by omega), nI_toInt (by omega)]; omega), kA, bnd_s, e2, nI1, bnd_s]
    rw [U]
    by_cases g : kdN (μ0.1 4 k) = t
    · rw [if_pos (by rw [g])]
      obtain ⟨ν2, q, q1, q2, q3, q4, q5, q6, q7, q8, q9⟩ := ih (k + 1) (by omega) n hn2 (uI ν' 661 4 (nI (k + 1))) (hm.C (by omega) _) tx (by rw [uI_at, if_pos ⟨rfl, rfl⟩]) (by rw [uI_at, if_neg (fun z => absurd z.2 (by decide))]; exact e2)
      refine ⟨ν2, q, by omega, q2, fun j h1 h2 => ?_, q4, q5, q6, q7, q8, q9.trans (by rw [uI_at, if_neg (fun z => absurd z.2 (by decide))])⟩
      by_cases e : j = k
      · rw [e]; exact g
      · exact q3 j (by omega) h2
    · rw [if_neg (fun z => g ((nI_eq (by omega) (by omega)).mp z))]
      exact ⟨ν', k, Nat.le_refl k, by omega, fun j h1 h2 => absurd h2 (by omega), Or.inr g, rfl, hm, e4, e2, rfl⟩
theorem wl_m1 {μa ν0 : Mm} : ∀ (d k : Nat), k + d = len → ∀ n, d + 1 ≤ n → ∀ μ', Mv ν0 μ ν0 μ' → Txt ν0 μ len → μ'.1 0 8 = nI k → ∃ μ2 q, k ≤ q ∧ q ≤ len ∧ (∀ j, k ≤ j → j < q → kdN (μ.1 4 j) = 1) ∧ (q = len ∨ kdN (μ.1 4 q) ≠ 1) ∧ g_X12_scan_L83 μa n μ' = some μ2 ∧ Mv ν0 μ ν0 μ2 ∧ μ2.1 0 8 = nI q ∧ μ2.1 0 10 = 1 ∧ μ2.1 0 9 = μ'.1 0 9 := by
  intro d
  induction d with
  | zero =>
    intro k hk n hn μ' hm tx e8
    obtain ⟨n, rfl, -⟩ := succ_n hn
    have tx' := hm.txt tx
    have l8 := tx.2.2.1
    have bA := bA_of tx' (k := k) (by omega)
    rw [if_neg (by omega)] at bA
    refine ⟨uI μ' 0 10 1, k, Nat.le_refl k, by omega, fun j h1 h2 => absurd h2 (by omega), Or.inl (by omega), ?_, hm.M (by omega) _, ?_, ?_, ?_⟩
    · unfold g_X12_scan_L83
      rw [e8, bA, bnd_s, bnd_s, show f_X12_in ((-1 : Int32).toInt64) (97 : Int64) (122 : Int64) = false from by decide, if_neg (by decide), bnd_s]
    · rw [uI_at, if_neg (fun z => absurd z.2 (by decide))]; exact e8
    · rw [uI_at, if_pos ⟨rfl, rfl⟩]
    · rw [uI_at, if_neg (fun z => absurd z.2 (by decide))]
  | succ d ih =>
    intro k hk n hn μ' hm tx e8
    obtain ⟨n, rfl, hn2⟩ := succ_n hn
    have tx' := hm.txt tx
    have l8 := tx.2.2.1
    have b4 : μ'.1 4 = μ.1 4 := (hm.2.2.1 4 (by decide)).1
    have bA := bA_of tx' (k := k) (by omega)
    rw [if_pos (by omega)] at bA
    have ki := k1_in tx' (k := k) (by omega)
    rw [b4] at bA ki
    have U : g_X12_scan_L83 μa (n + 1) μ' = if kdN (μ.1 4 k) = 1 then g_X12_scan_L83 μa n (uI μ' 0 8 (nI (k + 1))) else some (uI μ' 0 10 1) := by
      conv => lhs; unfold g_X12_scan_L83
      rw [e8, bA, bnd_s, bnd_s, ki, bnd_s, nI1, bnd_s]
      by_cases g : kdN (μ.1 4 k) = 1
      · rw [decide_eq_true g, if_pos rfl, if_pos g]
      · rw [decide_eq_false g, if_neg (by decide), if_neg g]
    rw [U]
    by_cases g : kdN (μ.1 4 k) = 1
    · rw [if_pos g]
      obtain ⟨μ2, q, q1, q2, q3, q4, q5, q6, q7, q8, q9⟩ := ih (k + 1) (by omega) n hn2 (uI μ' 0 8 (nI (k + 1))) (hm.M (by omega) _) tx (by rw [uI_at, if_pos ⟨rfl, rfl⟩])
      refine ⟨μ2, q, by omega, q2, fun j h1 h2 => ?_, q4, q5, q6, q7, q8, q9.trans (by rw [uI_at, if_neg (fun z => absurd z.2 (by decide))])⟩
      by_cases e : j = k
      · rw [e]; exact g
      · exact q3 j (by omega) h2
    · rw [if_neg g]
      refine ⟨_, k, Nat.le_refl k, by omega, fun j h1 h2 => absurd h2 (by omega), Or.inr g, rfl, hm.M (by omega) _, ?_, ?_, ?_⟩
      · rw [uI_at, if_neg (fun z => absurd z.2 (by decide))]; exact e8
      · rw [uI_at, if_pos ⟨rfl, rfl⟩]
      · rw [uI_at, if_neg (fun z => absurd z.2 (by decide))]
theorem dig_b {b : Int32} (h : kdN b = 2) : b = nI (cl b) ∧ 48 ≤ cl b ∧ cl b ≤ 57 ∧ b &&& (255 : Int32) = b := by
  have w : 48 ≤ b.toInt ∧ b.toInt ≤ 57 := by
    unfold kdN at h
    split at h
    · exact absurd h (by decide)
    · split at h
      · assumption
      · split at h <;> exact absurd h (by decide)
  obtain ⟨c1, c2, c3⟩ := cl_of (x := b) (hi := 57) ⟨by omega, w.2⟩
  refine ⟨c1, by omega, by omega, ?_⟩
  rw [eq32, a255 ⟨by omega, by omega⟩, if_neg (by omega)]
theorem wl_m2 {μa ν0 : Mm} {p : Nat} : ∀ (d k : Nat), k + d = len → ∀ n, d + 1 ≤ n → p ≤ k → ∀ μ', Mv ν0 μ ν0 μ' → Txt ν0 μ len → μ'.1 0 8 = nI k → μ'.1 0 11 = nI (min (dvN (μ.1 4) p (k - p)) 99999) → ∃ μ2 q, k ≤ q ∧ q ≤ len ∧ (∀ j, k ≤ j → j < q → kdN (μ.1 4 j) = 2) ∧ (q = len ∨ kdN (μ.1 4 q) ≠ 2) ∧ g_X12_scan_L144 μa n μ' = some μ2 ∧ Mv ν0 μ ν0 μ2 ∧ μ2.1 0 8 = nI q ∧ μ2.1 0 10 = 2 ∧ μ2.1 0 9 = μ'.1 0 9 ∧ μ2.1 0 11 = nI (min (dvN (μ.1 4) p (q - p)) 99999) := by
  intro d
  induction d with
  | zero =>
    intro k hk n hn hpk μ' hm tx e8 e11
    obtain ⟨n, rfl, -⟩ := succ_n hn
    have tx' := hm.txt tx
    have l8 := tx.2.2.1
    have bA := bA_of tx' (k := k) (by omega)
    rw [if_neg (by omega)] at bA
    refine ⟨uI μ' 0 10 2, k, Nat.le_refl k, by omega, fun j h1 h2 => absurd h2 (by omega), Or.inl (by omega), ?_, hm.M (by omega) _, ?_, ?_, ?_, ?_⟩
    · unfold g_X12_scan_L144
      rw [e8, bA, bnd_s, bnd_s, show f_X12_in ((-1 : Int32).toInt64) (48 : Int64) (57 : Int64) = false from by decide, if_neg (by decide), bnd_s]
    · rw [uI_at, if_neg (fun z => absurd z.2 (by decide))]; exact e8
    · rw [uI_at, if_pos ⟨rfl, rfl⟩]
    · rw [uI_at, if_neg (fun z => absurd z.2 (by decide))]
    · rw [uI_at, if_neg (fun z => absurd z.2 (by decide))]; exact e11
  | succ d ih =>
    intro k hk n hn hpk μ' hm tx e8 e11
    obtain ⟨n, rfl, hn2⟩ := succ_n hn
    have tx' := hm.txt tx
    have l8 := tx.2.2.1
    have b4 : μ'.1 4 = μ.1 4 := (hm.2.2.1 4 (by decide)).1
    have bA := bA_of tx' (k := k) (by omega)
    rw [if_pos (by omega)] at bA
    have ki := k2_in tx' (k := k) (by omega)
    rw [b4] at bA ki
    by_cases g : kdN (μ.1 4 k) = 2
    · obtain ⟨g1, g2, g3, g4⟩ := dig_b g
      have nv : imin (99999 : Int32) ((((10 : Int32) * (μ'.1 0 11)) + (μ.1 4 k &&& (255 : Int32))) - (48 : Int32)) = nI (min (dvN (μ.1 4) p (k + 1 - p)) 99999) := by
        have t9 : ((99999 : Int32)).toInt = 99999 := rfl
        have t48 : ((48 : Int32)).toInt = 48 := rfl
        have t10 : ((10 : Int32)).toInt = 10 := rfl
        have ev : dvN (μ.1 4) p (k + 1 - p) = dvN (μ.1 4) p (k - p) * 10 + (cl (μ.1 4 k) - 48) := by
          rw [show k + 1 - p = (k - p) + 1 by omega]
          show dvN (μ.1 4) p (k - p) * 10 + (cl (μ.1 4 (p + (k - p))) - 48) = _
          rw [show p + (k - p) = k by omega]
        rw [ev, e11, g4, g1, cl_nI (by omega)]
        generalize dvN (μ.1 4) p (k - p) = V
        generalize cl (μ.1 4 k) = c at g2 g3
        have m1 : ((10 : Int32) * nI (min V 99999)).toInt = 10 * ((min V 99999 : Nat) : Int) := by rw [ti_mul (by rw [t10, nI_toInt (by omega)]; omega) (by rw [t10, nI_toInt (by omega)]; omega), t10, nI_toInt (by omega)]
        have m2 : ((10 : Int32) * nI (min V 99999) + nI c).toInt = 10 * ((min V 99999 : Nat) : Int) + (c : Int) := by rw [ti_add (by rw [m1, nI_toInt (by omega)]; omega) (by rw [m1, nI_toInt (by omega)]; omega), m1, nI_toInt (by omega)]
        have m3 : (((10 : Int32) * nI (min V 99999) + nI c) - (48 : Int32)).toInt = 10 * ((min V 99999 : Nat) : Int) + (c : Int) - 48 := by rw [ti_sub (by rw [m2, t48]; omega) (by rw [m2, t48]; omega), m2, t48]
        rw [eq32, imin_ti, t9, m3, nI_toInt (by omega)]
        omega
      obtain ⟨μ2, q, q1, q2, q3, q4, q5, q6, q7, q8, q9, q10⟩ := ih (k + 1) (by omega) n hn2 (by omega) (uI (uI μ' 0 11 (nI (min (dvN (μ.1 4) p (k + 1 - p)) 99999))) 0 8 (nI (k + 1))) ((hm.M (by omega) _).M (by omega) _) tx (by rw [uI_at, if_pos ⟨rfl, rfl⟩]) (by rw [uI_at, if_neg (fun z => absurd z.2 (by decide)), uI_at, if_pos ⟨rfl, rfl⟩])
      refine ⟨μ2, q, by omega, q2, fun j h1 h2 => ?_, q4, ?_, q6, q7, q8, q9.trans (by rw [uI_at, if_neg (fun z => absurd z.2 (by decide)), uI_at, if_neg (fun z => absurd z.2 (by decide))]), q10⟩
      · by_cases e : j = k
        · rw [e]; exact g
        · exact q3 j (by omega) h2
      · unfold g_X12_scan_L144
        rw [e8, bA, bnd_s, bnd_s, ki, decide_eq_true g, if_pos rfl, bnd_s, bnd_s, nv, bnd_s, uI_at, if_neg (fun z => absurd z.2 (by decide)), e8, nI1]
        exact q5
    · refine ⟨uI μ' 0 10 2, k, Nat.le_refl k, by omega, fun j h1 h2 => absurd h2 (by omega), Or.inr g, ?_, hm.M (by omega) _, ?_, ?_, ?_, ?_⟩
      · unfold g_X12_scan_L144
        rw [e8, bA, bnd_s, bnd_s, ki, decide_eq_false g, if_neg (by decide), bnd_s]
      · rw [uI_at, if_neg (fun z => absurd z.2 (by decide))]; exact e8
      · rw [uI_at, if_pos ⟨rfl, rfl⟩]
      · rw [uI_at, if_neg (fun z => absurd z.2 (by decide))]
      · rw [uI_at, if_neg (fun z => absurd z.2 (by decide))]; exact e11
/-- both find the same end -/
theorem end_eq {b : Nat → Int32} {t k q1 q2 : Nat} (a1 : k ≤ q1) (a2 : q1 ≤ len) (a3 : ∀ j, k ≤ j → j < q1 → kdN (b j) = t) (a4 : q1 = len ∨ kdN (b q1) ≠ t) (c1 : k ≤ q2) (c2 : q2 ≤ len) (c3 : ∀ j, k ≤ j → j < q2 → kdN (b j) = t) (c4 : q2 = len ∨ kdN (b q2) ≠ t) : q1 = q2 := by
  rcases Nat.lt_trichotomy q1 q2 with g | g | g
  · rcases a4 with w | w
    · exact absurd w (by omega)
    · exact absurd (c3 q1 a1 g) w
  · exact g
  · rcases c4 with w | w
    · exact absurd w (by omega)
    · exact absurd (a3 q2 c1 g) w
end TK
