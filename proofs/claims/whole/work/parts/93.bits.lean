/-! PURE. How many days a set has: both ways to count. -/
def popc : Nat → Nat → Nat
  | 0, _ => 0
  | k + 1, n => n % 2 + popc k (n / 2)
theorem popc_0 : ∀ k, popc k 0 = 0
  | 0 => rfl
  | k + 1 => by
    show 0 % 2 + popc k (0 / 2) = 0
    rw [popc_0 k]
theorem popc_le : ∀ k n, popc k n ≤ k
  | 0, _ => Nat.le_refl 0
  | k + 1, n => by
    show n % 2 + popc k (n / 2) ≤ k + 1
    have := popc_le k (n / 2)
    omega
theorem land2 (a b : Nat) : a &&& b = 2 * (a / 2 &&& b / 2) + (a % 2 &&& b % 2) := by
  have h1 : (a &&& b) / 2 = a / 2 &&& b / 2 := Nat.and_div_two
  have h2 : (a &&& b) % 2 = (a % 2) &&& (b % 2) := Nat.and_mod_two_pow (n := 1)
  omega
theorem popc_dn : ∀ (k n : Nat), 0 < n → n < 2 ^ k → popc k (n &&& (n - 1)) + 1 = popc k n := by
  intro k
  induction k with
  | zero => intro n h1 h2; exact absurd h2 (by omega)
  | succ k ih =>
    intro n h1 h2
    show (n &&& (n - 1)) % 2 + popc k ((n &&& (n - 1)) / 2) + 1 = n % 2 + popc k (n / 2)
    have e1 : (n &&& (n - 1)) / 2 = n / 2 &&& (n - 1) / 2 := Nat.and_div_two
    have e2 : (n &&& (n - 1)) % 2 = (n % 2) &&& ((n - 1) % 2) := Nat.and_mod_two_pow (n := 1)
    have hp : 2 ^ (k + 1) = 2 * 2 ^ k := by rw [Nat.pow_succ]; omega
    rcases Nat.mod_two_eq_zero_or_one n with g | g
    · have g2 : (n - 1) % 2 = 1 := by omega
      have g3 : (n - 1) / 2 = n / 2 - 1 := by omega
      have := ih (n / 2) (by omega) (by omega)
      rw [e1, e2, g, g2, g3]
      show 0 + _ + 1 = _
      omega
    · have g2 : (n - 1) % 2 = 0 := by omega
      have g3 : (n - 1) / 2 = n / 2 := by omega
      rw [e1, e2, g, g2, g3, Nat.and_self]
      show 0 + _ + 1 = _
      omega
abbrev un (x : Int32) : Nat := x.toBitVec.toNat
theorem un_lt (x : Int32) : un x < 4294967296 := x.toBitVec.isLt
theorem un_and (x y : Int32) : un (x &&& y) = un x &&& un y := BitVec.toNat_and ..
theorem un_add {x y : Int32} (h : un x + un y < 4294967296) : un (x + y) = un x + un y := by
  show (x.toBitVec + y.toBitVec).toNat = _
  rw [BitVec.toNat_add]
  exact Nat.mod_eq_of_lt h
theorem un_sub {x y : Int32} (h : un y ≤ un x) : un (x - y) = un x - un y := by
  show (x.toBitVec - y.toBitVec).toNat = _
  rw [BitVec.toNat_sub]
  have h1 : x.toBitVec.toNat < 4294967296 := x.toBitVec.isLt
  have h2 : y.toBitVec.toNat ≤ x.toBitVec.toNat := h
  show (4294967296 - y.toBitVec.toNat + x.toBitVec.toNat) % 4294967296 = x.toBitVec.toNat - y.toBitVec.toNat
  omega
theorem bits_loop : ∀ (m : Nat) (x : Int32) (c a : Int32), popc 32 (un x) + 1 ≤ m → f_X12_bits_L4 a m c x = c + nI (popc 32 (un x)) := by
  intro m
  induction m with
  | zero => intro x c a h; exact absurd h (by omega)
  | succ m ih =>
    intro x c a h
    unfold f_X12_bits_L4
    by_cases q : x = 0
    · rw [if_pos q, q]
      show c = c + nI (popc 32 0)
      rw [popc_0]
      exact (Int32.add_zero c).symm
    · rw [if_neg q]
      have h0 : 0 < un x := Nat.pos_of_ne_zero (fun z => q (i32_bv (by rw [show x.toBitVec.toNat = 0 from z]; rfl)))
      have h1 : un (x - 1) = un x - 1 := un_sub (y := (1 : Int32)) (show 1 ≤ un x from h0)
      have h2 : un (x &&& (x - 1)) = un x &&& (un x - 1) := by rw [un_and, h1]
      have h3 := popc_dn 32 (un x) h0 (un_lt x)
      rw [ih (x &&& (x - 1)) (c + 1) a (by rw [h2]; omega), h2, Int32.add_assoc, ← h3, Nat.add_comm, ← nI_add]
      rfl
theorem bits_eq (x : Int32) : f_X12_bits x = nI (popc 32 (un x)) := by
  unfold f_X12_bits
  rw [bits_loop 33 x 0 x (by have := popc_le 32 (un x); omega)]
  exact Int32.zero_add _
/-! the tree of sums -/
def dA : Nat → Nat → Nat
  | 0, _ => 0
  | k + 1, n => (n % 4 - n % 4 / 2) + 4 * dA k (n / 4)
def mA : Nat → Nat
  | 0 => 0
  | k + 1 => 1 + 4 * mA k
def dB : Nat → Nat → Nat
  | 0, _ => 0
  | k + 1, n => (n % 4 + n / 4 % 4) + 16 * dB k (n / 16)
def mB : Nat → Nat
  | 0 => 0
  | k + 1 => 3 + 16 * mB k
theorem land4 (a b : Nat) : a &&& b = 4 * (a / 4 &&& b / 4) + (a % 4 &&& b % 4) := by
  have h1 : (a &&& b) / 4 = a / 4 &&& b / 4 := Nat.and_div_two_pow (n := 2)
  have h2 : (a &&& b) % 4 = (a % 4) &&& (b % 4) := Nat.and_mod_two_pow (n := 2)
  omega
theorem land16 (a b : Nat) : a &&& b = 16 * (a / 16 &&& b / 16) + (a % 16 &&& b % 16) := by
  have h1 : (a &&& b) / 16 = a / 16 &&& b / 16 := Nat.and_div_two_pow (n := 4)
  have h2 : (a &&& b) % 16 = (a % 16) &&& (b % 16) := Nat.and_mod_two_pow (n := 4)
  omega
theorem low1 : ∀ r : Fin 4, (r.val &&& 1) = r.val % 2 := by decide
theorem low3 : ∀ r : Fin 16, (r.val &&& 3) = r.val % 4 := by decide
theorem stepA : ∀ (k n : Nat), n < 4 ^ k → ((n / 2) &&& mA k) ≤ n ∧ n - ((n / 2) &&& mA k) = dA k n := by
  intro k
  induction k with
  | zero => intro n h; rw [show n = 0 by omega]; exact ⟨by decide, rfl⟩
  | succ k ih =>
    intro n h
    have hp : 4 ^ (k + 1) = 4 * 4 ^ k := by rw [Nat.pow_succ]; omega
    obtain ⟨i1, i2⟩ := ih (n / 4) (by omega)
    have e := land4 (n / 2) (mA (k + 1))
    rw [show mA (k + 1) / 4 = mA k by show (1 + 4 * mA k) / 4 = _; omega, show mA (k + 1) % 4 = 1 by show (1 + 4 * mA k) % 4 = _; omega, show n / 2 / 4 = n / 4 / 2 by omega] at e
    have l := low1 ⟨n / 2 % 4, by omega⟩
    have l : (n / 2 % 4 &&& 1) = n / 2 % 4 % 2 := l
    rw [l] at e
    refine ⟨by omega, ?_⟩
    show _ = (n % 4 - n % 4 / 2) + 4 * dA k (n / 4)
    omega
theorem stepB : ∀ (k n : Nat), ((n &&& mB k) + ((n / 4) &&& mB k)) = dB k n := by
  intro k
  induction k with
  | zero => intro n; show (n &&& 0) + (n / 4 &&& 0) = 0; rw [Nat.and_zero, Nat.and_zero]
  | succ k ih =>
    intro n
    have i2 := ih (n / 16)
    have m1 : mB (k + 1) / 16 = mB k := by show (3 + 16 * mB k) / 16 = _; omega
    have m2 : mB (k + 1) % 16 = 3 := by show (3 + 16 * mB k) % 16 = _; omega
    have e := land16 n (mB (k + 1))
    have e2 := land16 (n / 4) (mB (k + 1))
    rw [m1, m2] at e e2
    rw [show n / 4 / 16 = n / 16 / 4 by omega] at e2
    have l : (n % 16 &&& 3) = n % 16 % 4 := low3 ⟨n % 16, by omega⟩
    have l2 : (n / 4 % 16 &&& 3) = n / 4 % 16 % 4 := low3 ⟨n / 4 % 16, by omega⟩
    rw [l] at e
    rw [l2] at e2
    show _ = (n % 4 + n / 4 % 4) + 16 * dB k (n / 16)
    omega
