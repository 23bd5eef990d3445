/-! PURE. Sets of days and lines. -/
theorem i32_bv {x y : Int32} (h : x.toBitVec.toNat = y.toBitVec.toNat) : x = y := Int32.toBitVec_inj.mp (BitVec.eq_of_toNat_eq h)
theorem and1 (x : Int32) : x &&& 1 = 0 ∨ x &&& 1 = 1 := by
  have h : (x &&& 1).toBitVec.toNat = x.toBitVec.toNat % 2 := by
    show (x.toBitVec &&& 1#32).toNat = _
    rw [BitVec.toNat_and]
    exact Nat.and_one_is_mod _
  rcases Nat.mod_two_eq_zero_or_one x.toBitVec.toNat with g | g
  · exact Or.inl (i32_bv (h.trans g))
  · exact Or.inr (i32_bv (h.trans g))
theorem contains_eq (s k : Int32) : g_X11_contains s k = some (f_X12_has s k) := by
  unfold g_X11_contains f_X12_has
  rcases and1 (s >>> (k &&& 31)) with g | g
  · rw [g]
    rfl
  · rw [g]
    rfl
theorem not_x (x : Int32) : x ^^^ (-1 : Int32) = ~~~x := by
  refine Int32.toBitVec_inj.mp ?_
  show x.toBitVec ^^^ (-1#32) = ~~~x.toBitVec
  rw [show (-1#32 : BitVec 32) = BitVec.allOnes 32 from by decide, BitVec.xor_allOnes]
set_option maxRecDepth 20000 in
theorem days_tab : ∀ j : Fin 31, ∀ k : Fin 31, f_X12_daysFrom (nI j.val) (nI k.val) = (((1 : Int32) <<< (nI k.val &&& 31)) - 1) &&& ((((1 : Int32) <<< (nI j.val &&& 31)) - 1) ^^^ (-1 : Int32)) := by decide +kernel
theorem lay_eq {ν : Mm} {T : Nat} {j k : Nat} {a : Int32} (hT : isTar T) (hj : ν.1 T 10 = nI j) (hj2 : j ≤ 30) (ha : a = nI k) (hk : k ≤ 30) : g_X10_laySet ν T a = some (f_X12_daysFrom (nI j) (nI k)) := by
  unfold g_X10_laySet g_X11_setBelow
  rw [asr_pos hT, hj, ha, days_tab ⟨j, by omega⟩ ⟨k, by omega⟩]
  rfl
