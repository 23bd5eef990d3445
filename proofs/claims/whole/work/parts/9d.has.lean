/-! PURE. Membership by bits. -/
theorem sh_tab : ∀ j : Fin 32, ((nI j.val &&& 31).toBitVec.smod 32) = BitVec.ofNat 32 j.val := by decide +kernel
theorem has_bit (s : Int32) {j : Nat} (hj : j < 32) : f_X12_has s (nI j) = s.toBitVec.getLsbD j := by
  have e1 : (s >>> (nI j &&& 31)).toBitVec = s.toBitVec.sshiftRight j := by
    show s.toBitVec.sshiftRight' ((nI j &&& 31).toBitVec.smod 32) = _
    rw [sh_tab ⟨j, hj⟩]
    show s.toBitVec.sshiftRight (BitVec.ofNat 32 j).toNat = _
    rw [BitVec.toNat_ofNat, Nat.mod_eq_of_lt (by omega)]
  have e2 : (s >>> (nI j &&& 31)).toBitVec.getLsbD 0 = s.toBitVec.getLsbD j := by
    rw [e1, BitVec.getLsbD_sshiftRight]
    simp [hj]
  have e3 : ((s >>> (nI j &&& 31)) &&& 1).toBitVec.toNat = (s >>> (nI j &&& 31)).toBitVec.toNat % 2 := by
    show ((s >>> (nI j &&& 31)).toBitVec &&& 1#32).toNat = _
    rw [BitVec.toNat_and]
    exact Nat.and_one_is_mod _
  have e4 : (s >>> (nI j &&& 31)).toBitVec.getLsbD 0 = decide ((s >>> (nI j &&& 31)).toBitVec.toNat % 2 = 1) := by
    rw [BitVec.getLsbD, Nat.testBit_zero]
  unfold f_X12_has
  rw [← e2, e4]
  rcases and1 (s >>> (nI j &&& 31)) with g | g
  · rw [g] at e3
    have e5 : (s >>> (nI j &&& 31)).toBitVec.toNat % 2 = 0 := e3.symm
    rw [g, e5]
    rfl
  · rw [g] at e3
    have e5 : (s >>> (nI j &&& 31)).toBitVec.toNat % 2 = 1 := e3.symm
    rw [g, e5]
    rfl
theorem has_andn (x y : Int32) {j : Nat} (hj : j < 32) : f_X12_has (x &&& (y ^^^ (-1 : Int32))) (nI j) = (f_X12_has x (nI j) && !f_X12_has y (nI j)) := by
  rw [has_bit _ hj, has_bit _ hj, has_bit _ hj, not_x]
  show (x.toBitVec &&& ~~~y.toBitVec).getLsbD j = _
  rw [BitVec.getLsbD_and, BitVec.getLsbD_not]
  simp [hj]
