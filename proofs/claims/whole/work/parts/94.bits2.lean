/-! PURE. Integer.bitCount counts as the model does. -/
def mC : Nat → Nat
  | 0 => 0
  | k + 1 => 15 + 256 * mC k
theorem low15 : ∀ r : Fin 16, (r.val &&& 15) = r.val := by decide
theorem stepC (k n : Nat) : n &&& mC (k + 1) = n % 16 + 256 * (n / 256 &&& mC k) := by
  have e := land16 n (mC (k + 1))
  have m1 : mC (k + 1) / 16 = 16 * mC k := by show (15 + 256 * mC k) / 16 = _; omega
  have m2 : mC (k + 1) % 16 = 15 := by show (15 + 256 * mC k) % 16 = _; omega
  have l : (n % 16 &&& 15) = n % 16 := low15 ⟨n % 16, by omega⟩
  have e2 := land16 (n / 16) (16 * mC k)
  rw [m1, m2, l] at e
  rw [show 16 * mC k / 16 = mC k by omega, show 16 * mC k % 16 = 0 by omega, Nat.and_zero, show n / 16 / 16 = n / 256 by omega] at e2
  omega
theorem digs (k n : Nat) : ∃ e, e ≤ 4 ∧ dB (k + 1) (dA (2 * k + 2) n) = e + 16 * dB k (dA (2 * k) (n / 16)) ∧ popc (4 * k + 4) n = e + popc (4 * k) (n / 16) := by
  refine ⟨(n % 4 - n % 4 / 2) + (n / 4 % 4 - n / 4 % 4 / 2), by omega, ?_, ?_⟩
  · have e1 : dA (2 * k + 2) n = (n % 4 - n % 4 / 2) + 4 * ((n / 4 % 4 - n / 4 % 4 / 2) + 4 * dA (2 * k) (n / 4 / 4)) := rfl
    rw [show n / 4 / 4 = n / 16 by omega] at e1
    show (dA (2 * k + 2) n % 4 + dA (2 * k + 2) n / 4 % 4) + 16 * dB k (dA (2 * k + 2) n / 16) = _
    rw [e1]
    rw [show ((n % 4 - n % 4 / 2) + 4 * ((n / 4 % 4 - n / 4 % 4 / 2) + 4 * dA (2 * k) (n / 16))) / 16 = dA (2 * k) (n / 16) by omega]
    omega
  · have e1 : popc (4 * k + 4) n = n % 2 + (n / 2 % 2 + (n / 2 / 2 % 2 + (n / 2 / 2 / 2 % 2 + popc (4 * k) (n / 2 / 2 / 2 / 2)))) := rfl
    rw [show n / 2 / 2 / 2 / 2 = n / 16 by omega] at e1
    omega
theorem un_s1 (x : Int32) : un ((x.toUInt32 >>> ((1 : Int32).toUInt32 &&& Int32.toUInt32 31)).toInt32) = un x / 2 := by
  show (x.toBitVec >>> (1 : Nat)).toNat = _
  rw [BitVec.toNat_ushiftRight, Nat.shiftRight_eq_div_pow]
theorem un_s2 (x : Int32) : un ((x.toUInt32 >>> ((2 : Int32).toUInt32 &&& Int32.toUInt32 31)).toInt32) = un x / 4 := by
  show (x.toBitVec >>> (2 : Nat)).toNat = _
  rw [BitVec.toNat_ushiftRight, Nat.shiftRight_eq_div_pow]
theorem un_s4 (x : Int32) : un ((x.toUInt32 >>> ((4 : Int32).toUInt32 &&& Int32.toUInt32 31)).toInt32) = un x / 16 := by
  show (x.toBitVec >>> (4 : Nat)).toNat = _
  rw [BitVec.toNat_ushiftRight, Nat.shiftRight_eq_div_pow]
theorem un_s8 (x : Int32) : un ((x.toUInt32 >>> ((8 : Int32).toUInt32 &&& Int32.toUInt32 31)).toInt32) = un x / 256 := by
  show (x.toBitVec >>> (8 : Nat)).toNat = _
  rw [BitVec.toNat_ushiftRight, Nat.shiftRight_eq_div_pow]
theorem un_s16 (x : Int32) : un ((x.toUInt32 >>> ((16 : Int32).toUInt32 &&& Int32.toUInt32 31)).toInt32) = un x / 65536 := by
  show (x.toBitVec >>> (16 : Nat)).toNat = _
  rw [BitVec.toNat_ushiftRight, Nat.shiftRight_eq_div_pow]
def bc1 (x : Int32) : Int32 := x - (((x.toUInt32 >>> ((1 : Int32).toUInt32 &&& Int32.toUInt32 31)).toInt32) &&& (1431655765 : Int32))
def bc2 (x : Int32) : Int32 := (x &&& (858993459 : Int32)) + (((x.toUInt32 >>> ((2 : Int32).toUInt32 &&& Int32.toUInt32 31)).toInt32) &&& (858993459 : Int32))
def bc3 (x : Int32) : Int32 := (x + ((x.toUInt32 >>> ((4 : Int32).toUInt32 &&& Int32.toUInt32 31)).toInt32)) &&& (252645135 : Int32)
def bc4 (x : Int32) : Int32 := x + ((x.toUInt32 >>> ((8 : Int32).toUInt32 &&& Int32.toUInt32 31)).toInt32)
def bc5 (x : Int32) : Int32 := x + ((x.toUInt32 >>> ((16 : Int32).toUInt32 &&& Int32.toUInt32 31)).toInt32)
theorem bc_all (x : Int32) : g_J6_bitCount_0f7a4 x = some (bc5 (bc4 (bc3 (bc2 (bc1 x)))) &&& (63 : Int32)) := rfl
theorem c_dig {t0 t1 t2 t3 t4 t5 t6 t7 : Nat} (h0 : t0 ≤ 8) (h1 : t1 ≤ 8) (h2 : t2 ≤ 8) (h3 : t3 ≤ 8) (h4 : t4 ≤ 8) (h5 : t5 ≤ 8) (h6 : t6 ≤ 8) (h7 : t7 ≤ 8) : (t0 + 16 * (t1 + 16 * (t2 + 16 * (t3 + 16 * (t4 + 16 * (t5 + 16 * (t6 + 16 * t7))))))) &&& mC 4 = t0 + 256 * (t2 + 256 * (t4 + 256 * t6)) := by
  have a : ∀ (s0 s1 m k : Nat), s0 ≤ 8 → s1 ≤ 8 → (s0 + 16 * (s1 + 16 * m)) &&& mC (k + 1) = s0 + 256 * (m &&& mC k) := by
    intro s0 s1 m k g0 g1
    rw [stepC, show (s0 + 16 * (s1 + 16 * m)) % 16 = s0 by omega, show (s0 + 16 * (s1 + 16 * m)) / 256 = m by omega]
  rw [a _ _ _ 3 h0 h1, a _ _ _ 2 h2 h3, a _ _ _ 1 h4 h5]
  have z := a t6 t7 0 0 h6 h7
  rw [Nat.mul_zero, Nat.add_zero, show mC 0 = 0 from rfl, Nat.and_zero] at z
  rw [z]
  omega
theorem fin_dig {W0 W1 W2 W3 : Nat} (h0 : W0 ≤ 8) (h1 : W1 ≤ 8) (h2 : W2 ≤ 8) (h3 : W3 ≤ 8) {w w4 w5 : Nat} (hw : w = W0 + 256 * (W1 + 256 * (W2 + 256 * W3))) (h4 : w4 = w + w / 256) (h5 : w5 = w4 + w4 / 65536) : w5 % 64 = W0 + W1 + W2 + W3 ∧ w4 < 4294967296 ∧ w5 < 4294967296 ∧ w + w / 256 < 4294967296 ∧ w4 + w4 / 65536 < 4294967296 := by
  have d1 : ∀ X : Nat, (W0 + 256 * X) / 256 = X := fun X => by omega
  have d3 : ∀ U V Z : Nat, U ≤ 16 → V ≤ 16 → (U + 256 * (V + 256 * Z)) / 65536 = Z := fun U V Z g1 g2 => by omega
  have d4 : ∀ U K : Nat, U ≤ 32 → (U + 256 * K) % 64 = U := fun U K g => by omega
  have e1 : w / 256 = W1 + 256 * (W2 + 256 * W3) := by rw [hw, d1]
  have e2 : w4 = (W0 + W1) + 256 * ((W1 + W2) + 256 * ((W2 + W3) + 256 * W3)) := by rw [h4, e1, hw]; omega
  have e3 : w4 / 65536 = (W2 + W3) + 256 * W3 := by rw [e2, d3 _ _ _ (by omega) (by omega)]
  have e4 : w5 = (W0 + W1 + W2 + W3) + 256 * ((W1 + W2 + W3) + 256 * ((W2 + W3) + 256 * W3)) := by rw [h5, e3, e2]; omega
  have b4 : w4 < 4294967296 := by rw [e2]; omega
  have b5 : w5 < 4294967296 := by rw [e4]; omega
  exact ⟨by rw [e4, d4 _ _ (by omega)], b4, b5, h4 ▸ b4, h5 ▸ b5⟩
theorem bc_tree (x : Int32) : un (bc5 (bc4 (bc3 (bc2 (bc1 x)))) &&& (63 : Int32)) = popc 32 (un x) := by
  have hx := un_lt x
  obtain ⟨a1, a2⟩ := stepA 16 (un x) hx
  have b1 : un (bc1 x) = dA 16 (un x) := by
    have e : un (((x.toUInt32 >>> ((1 : Int32).toUInt32 &&& Int32.toUInt32 31)).toInt32) &&& (1431655765 : Int32)) = (un x / 2 &&& mA 16) := by rw [un_and, un_s1]; rfl
    unfold bc1
    rw [un_sub (by rw [e]; exact a1), e, a2]
  obtain ⟨e0, f0, g0, h0⟩ := digs 7 (un x)
  obtain ⟨e1, f1, g1, h1⟩ := digs 6 (un x / 16)
  obtain ⟨e2, f2, g2, h2⟩ := digs 5 (un x / 16 / 16)
  obtain ⟨e3, f3, g3, h3⟩ := digs 4 (un x / 16 / 16 / 16)
  obtain ⟨e4, f4, g4, h4⟩ := digs 3 (un x / 16 / 16 / 16 / 16)
  obtain ⟨e5, f5, g5, h5⟩ := digs 2 (un x / 16 / 16 / 16 / 16 / 16)
  obtain ⟨e6, f6, g6, h6⟩ := digs 1 (un x / 16 / 16 / 16 / 16 / 16 / 16)
  obtain ⟨e7, f7, g7, h7⟩ := digs 0 (un x / 16 / 16 / 16 / 16 / 16 / 16 / 16)
  have hB : dB 8 (dA 16 (un x)) = e0 + 16 * (e1 + 16 * (e2 + 16 * (e3 + 16 * (e4 + 16 * (e5 + 16 * (e6 + 16 * e7)))))) := by
    have z : dB 0 (dA 0 (un x / 16 / 16 / 16 / 16 / 16 / 16 / 16 / 16)) = 0 := rfl
    have g7 : dB 1 (dA 2 (un x / 16 / 16 / 16 / 16 / 16 / 16 / 16)) = e7 + 16 * dB 0 (dA 0 (un x / 16 / 16 / 16 / 16 / 16 / 16 / 16 / 16)) := g7
    have g6 : dB 2 (dA 4 (un x / 16 / 16 / 16 / 16 / 16 / 16)) = e6 + 16 * dB 1 (dA 2 (un x / 16 / 16 / 16 / 16 / 16 / 16 / 16)) := g6
    have g5 : dB 3 (dA 6 (un x / 16 / 16 / 16 / 16 / 16)) = e5 + 16 * dB 2 (dA 4 (un x / 16 / 16 / 16 / 16 / 16 / 16)) := g5
    have g4 : dB 4 (dA 8 (un x / 16 / 16 / 16 / 16)) = e4 + 16 * dB 3 (dA 6 (un x / 16 / 16 / 16 / 16 / 16)) := g4
    have g3 : dB 5 (dA 10 (un x / 16 / 16 / 16)) = e3 + 16 * dB 4 (dA 8 (un x / 16 / 16 / 16 / 16)) := g3
    have g2 : dB 6 (dA 12 (un x / 16 / 16)) = e2 + 16 * dB 5 (dA 10 (un x / 16 / 16 / 16)) := g2
    have g1 : dB 7 (dA 14 (un x / 16)) = e1 + 16 * dB 6 (dA 12 (un x / 16 / 16)) := g1
    have g0 : dB 8 (dA 16 (un x)) = e0 + 16 * dB 7 (dA 14 (un x / 16)) := g0
    rw [g0, g1, g2, g3, g4, g5, g6, g7, z, Nat.mul_zero, Nat.add_zero]
  have hP : popc 32 (un x) = e0 + e1 + e2 + e3 + e4 + e5 + e6 + e7 := by
    have z : popc 0 (un x / 16 / 16 / 16 / 16 / 16 / 16 / 16 / 16) = 0 := rfl
    have h7 : popc 4 (un x / 16 / 16 / 16 / 16 / 16 / 16 / 16) = e7 + popc 0 (un x / 16 / 16 / 16 / 16 / 16 / 16 / 16 / 16) := h7
    have h6 : popc 8 (un x / 16 / 16 / 16 / 16 / 16 / 16) = e6 + popc 4 (un x / 16 / 16 / 16 / 16 / 16 / 16 / 16) := h6
    have h5 : popc 12 (un x / 16 / 16 / 16 / 16 / 16) = e5 + popc 8 (un x / 16 / 16 / 16 / 16 / 16 / 16) := h5
    have h4 : popc 16 (un x / 16 / 16 / 16 / 16) = e4 + popc 12 (un x / 16 / 16 / 16 / 16 / 16) := h4
    have h3 : popc 20 (un x / 16 / 16 / 16) = e3 + popc 16 (un x / 16 / 16 / 16 / 16) := h3
    have h2 : popc 24 (un x / 16 / 16) = e2 + popc 20 (un x / 16 / 16 / 16) := h2
    have h1 : popc 28 (un x / 16) = e1 + popc 24 (un x / 16 / 16) := h1
    have h0 : popc 32 (un x) = e0 + popc 28 (un x / 16) := h0
    omega
  clear g0 g1 g2 g3 g4 g5 g6 g7 h0 h1 h2 h3 h4 h5 h6 h7 a1 a2
  have b2 : un (bc2 (bc1 x)) = e0 + 16 * (e1 + 16 * (e2 + 16 * (e3 + 16 * (e4 + 16 * (e5 + 16 * (e6 + 16 * e7)))))) := by
    have s := stepB 8 (dA 16 (un x))
    rw [hB] at s
    have u1 : un (bc1 x &&& (858993459 : Int32)) = (dA 16 (un x) &&& mB 8) := by rw [un_and, b1]; rfl
    have u2 : un ((((bc1 x).toUInt32 >>> ((2 : Int32).toUInt32 &&& Int32.toUInt32 31)).toInt32) &&& (858993459 : Int32)) = (dA 16 (un x) / 4 &&& mB 8) := by rw [un_and, un_s2, b1]; rfl
    unfold bc2
    rw [un_add (by rw [u1, u2, s]; omega), u1, u2, s]
  clear hB b1
  generalize bc2 (bc1 x) = y at b2 ⊢
  have b3 : un (bc3 y) = (e0 + e1) + 256 * ((e2 + e3) + 256 * ((e4 + e5) + 256 * (e6 + e7))) := by
    have u4 := un_s4 y
    have q : un y / 16 = e1 + 16 * (e2 + 16 * (e3 + 16 * (e4 + 16 * (e5 + 16 * (e6 + 16 * e7))))) := by omega
    have u : un (y + ((y.toUInt32 >>> ((4 : Int32).toUInt32 &&& Int32.toUInt32 31)).toInt32)) = (e0 + e1) + 16 * ((e1 + e2) + 16 * ((e2 + e3) + 16 * ((e3 + e4) + 16 * ((e4 + e5) + 16 * ((e5 + e6) + 16 * ((e6 + e7) + 16 * e7)))))) := by
      rw [un_add (by rw [u4]; omega), u4]
      omega
    unfold bc3
    rw [un_and, u, show un (252645135 : Int32) = mC 4 from rfl]
    exact c_dig (Nat.add_le_add f0 f1) (Nat.add_le_add f1 f2) (Nat.add_le_add f2 f3) (Nat.add_le_add f3 f4) (Nat.add_le_add f4 f5) (Nat.add_le_add f5 f6) (Nat.add_le_add f6 f7) (Nat.le_trans f7 (by decide))
  generalize bc3 y = w at b3 ⊢
  obtain ⟨k1, -, -, k4, k5⟩ := fin_dig (W0 := e0 + e1) (W1 := e2 + e3) (W2 := e4 + e5) (W3 := e6 + e7) (Nat.add_le_add f0 f1) (Nat.add_le_add f2 f3) (Nat.add_le_add f4 f5) (Nat.add_le_add f6 f7) b3 rfl rfl
  have b4 : un (bc4 w) = un w + un w / 256 := by
    have u := un_s8 w
    unfold bc4
    rw [un_add (by rw [u]; exact k4), u]
  generalize bc4 w = w4 at b4 ⊢
  rw [← b4] at k1 k5
  have b5 : un (bc5 w4) = un w4 + un w4 / 65536 := by
    have u := un_s16 w4
    unfold bc5
    rw [un_add (by rw [u]; exact k5), u]
  rw [un_and, b5, show un (63 : Int32) = 2 ^ 6 - 1 from rfl, Nat.and_two_pow_sub_one_eq_mod, hP]
  rw [show (2 : Nat) ^ 6 = 64 from rfl, k1]
  exact (Nat.add_assoc _ _ _).symm.trans (by simp only [Nat.add_assoc])
theorem bitCount_eq (x : Int32) : g_J6_bitCount_0f7a4 x = some (f_X12_bits x) := by
  rw [bc_all, bits_eq]
  refine congrArg some (i32_bv ?_)
  have h := bc_tree x
  have := popc_le 32 (un x)
  rw [show (bc5 (bc4 (bc3 (bc2 (bc1 x)))) &&& (63 : Int32)).toBitVec.toNat = popc 32 (un x) from h]
  show _ = (popc 32 (un x)) % 4294967296
  omega
